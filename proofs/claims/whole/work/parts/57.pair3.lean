/-! 57.pair3: what bestPair answers. Pure. -/
section GY
variable {e l : Nat → Nat} {m n a b : Nat} {on bk co wy : Nat → Int32} {s : Int32}
theorem gf_open (G : gG e l m n) (ha : a < n) {p : List Nat} (hp : gp e m (xb s) a b p) : ∀ q u v, gw e m gT u q v → go e (gP2 e l m on bk s a p) u q → q.Nodup → ∀ f, f ∈ q → f ∈ p → gf e u q f = -(gf e a p f) := by
  intro q
  induction q with
  | nil => intro u v _ _ _ f hf; cases hf
  | cons g q ih =>
    intro u v h ho hn f hf hfp
    rw [List.nodup_cons] at hn
    show (if e (2 * g) = u then 1 else -1) * g1 g f + gf e (xoth e g u) q f = _
    by_cases c : f = g
    · subst c
      rw [gf_0 q _ f hn.1]
      unfold g1
      rw [if_pos rfl]
      have := (gP2_open G ha hp h.1 ho.1).2.2 hfp h.2.2.1
      omega
    · unfold g1
      rw [if_neg c, ih _ v h.2.2.2 ho.2 hn.2 f (by rcases List.mem_cons.mp hf with z | z; exact absurd z c; exact z) hfp]
      omega
/-- what bestPair answers: the least pair, or none is there -/
theorem g_pair (G : gG e l m n) (ha : a < n) (hb : b < n) (hab : ¬ a = b) :
    (xbr (gsr e) (gds e) (gln l) n m on bk co wy s a b = 0 → ¬ ∃ X Y, gpp e m (xb s) a b X Y) ∧
    (¬ xbr (gsr e) (gds e) (gln l) n m on bk co wy s a b = 0 → ∃ X Y, gpp e m (xb s) a b X Y ∧ xbr (gsr e) (gds e) (gln l) n m on bk co wy s a b = gm X ||| gm Y ∧ ∀ X' Y', gpp e m (xb s) a b X' Y' → gW l m (gm X ||| gm Y) ≤ gW l m (gm X' ||| gm Y')) := by
  have hm := G.1
  obtain ⟨g0, g1'⟩ := g_path (on := on) (bk := bk) (co := co) (wy := wy) (s := s) G ha hb hab
  have H1 := gH1 (e := e) (on := on) (bk := bk) (s := s) G ha
  obtain ⟨hI1, hf1⟩ := g_cw H1 co wy
  by_cases c1 : (xbp (gsr e) (gds e) (gln l) n m on bk co wy s a).2 b = 0
  · have e0 : xbr (gsr e) (gds e) (gln l) n m on bk co wy s a b = 0 := if_pos c1
    exact ⟨fun _ ⟨X, Y, h⟩ => g0 c1 ⟨X, h.1⟩, fun q => absurd e0 q⟩
  · obtain ⟨p, hp, hpe, hpD, hpm⟩ := g1' c1
    have hD := g_potD G hf1
    have H2 : gH e m n (gP2 e l m on bk s a p) a := gH2 G ha hp (D := fun v => ((xbp (gsr e) (gds e) (gln l) n m on bk co wy s a).1 v).toInt) hD hI1.2.2 hpD
    have ex2 : xbq (gsr e) (gds e) (gln l) n m on bk co wy s a b = xcw (gsr e) (gds e) (xobo (gfr e) (gto e) (gln l) m 7 (gm p) (nI a) (xopn (xpr s (gln l)) on m) (xopn (xpr s (gln l)) bk m)).1 (xobo (gfr e) (gto e) (gln l) m 7 (gm p) (nI a) (xopn (xpr s (gln l)) on m) (xopn (xpr s (gln l)) bk m)).2 n m a (xbp (gsr e) (gds e) (gln l) n m on bk co wy s a).1 (xbp (gsr e) (gds e) (gln l) n m on bk co wy s a).2 := by
      unfold xbq xb2
      rw [hpe]
    obtain ⟨hI2, hf2⟩ := g_cw (show gH e m n (gPr e (xobo (gfr e) (gto e) (gln l) m 7 (gm p) (nI a) (xopn (xpr s (gln l)) on m) (xopn (xpr s (gln l)) bk m)).1 (xobo (gfr e) (gto e) (gln l) m 7 (gm p) (nI a) (xopn (xpr s (gln l)) on m) (xopn (xpr s (gln l)) bk m)).2) a from H2) (xbp (gsr e) (gds e) (gln l) n m on bk co wy s a).1 (xbp (gsr e) (gds e) (gln l) n m on bk co wy s a).2
    rw [← ex2] at hI2 hf2
    have hI2 : gI e m (gP2 e l m on bk s a p) a (xbq (gsr e) (gds e) (gln l) n m on bk co wy s a b).1 (xbq (gsr e) (gds e) (gln l) n m on bk co wy s a b).2 := hI2
    have hf2 : gfe e m (gP2 e l m on bk s a p) (xbq (gsr e) (gds e) (gln l) n m on bk co wy s a b).1 := hf2
    by_cases c2 : (xbq (gsr e) (gds e) (gln l) n m on bk co wy s a b).2 b = 0
    · have e0 : xbr (gsr e) (gds e) (gln l) n m on bk co wy s a b = 0 := (if_neg c1).trans (if_pos c2)
      refine ⟨fun _ => ?_, fun q => absurd e0 q⟩
      obtain ⟨R, r1, r2, r3⟩ := g_lost H2 hI2 hf2 hb hab c2
      exact g_nopair G ha hp r1 r2 r3
    · have e0 : xbr (gsr e) (gds e) (gln l) n m on bk co wy s a b = gm p ^^^ (xbq (gsr e) (gds e) (gln l) n m on bk co wy s a b).2 b := (if_neg c1).trans ((if_neg c2).trans (by rw [hpe]))
      have hc : ¬ (xbq (gsr e) (gds e) (gln l) n m on bk co wy s a b).1 b = 2147483647 := fun q => c2 (hI2.2.1 b (by have := G.2.1; omega) q)
      obtain ⟨q, q1, q2, q3, q4, q5, q6⟩ := hI2.1 b (by have := G.2.1; omega) hc
      rw [q5] at e0
      rw [e0]
      have low := fun {X Y : List Nat} (h : gpp e m (xb s) a b X Y) => g_lower G ha hb hp H2 hI2 hf2 hc h
      generalize xbq (gsr e) (gds e) (gln l) n m on bk co wy s a b = r2 at *
      have qn := gp_nodup q a b ⟨q1, q2⟩
      have qs := gw_open (t := xb s) (fun f u z1 z2 => (gP2_open G ha hp z1 z2).1) q a b q1 q3
      have p32 := gp_32 G hp.1
      have q32 := gp_32 G q1
      have tb : ∀ f, f < m → xb (gm p ^^^ gm q) f = (decide (f ∈ p) ^^ decide (f ∈ q)) := fun f hf => by rw [xb_xor _ _ (by omega), gm_b p32 (by omega), gm_b q32 (by omega)]
      have ts : ∀ f, f < m → xb (gm p ^^^ gm q) f = true → xb s f = true := by
        intro f hf h
        rw [tb f hf] at h
        by_cases z1 : f ∈ p
        · exact (gw_mem p a b hp.1 f z1).2
        · by_cases z2 : f ∈ q
          · exact (gw_mem q a b qs f z2).2
          · rw [decide_eq_false z1, decide_eq_false z2] at h; cases h
      have tlow : xlow m (gm p ^^^ gm q) := xlow_xor (gm_low (by omega) (fun f hf => (gw_mem p a b hp.1 f hf).1)) (gm_low (by omega) (fun f hf => (gw_mem q a b q1 f hf).1))
      have h2 : g2 e m a b (gm p ^^^ gm q) (fun f => gf e a p f + gf e a q f) := by
        refine ⟨fun f hf h => ?_, fun f hf h => ?_, fun F => ?_⟩
        · rw [tb f hf] at h
          show gf e a p f + gf e a q f = 1 ∨ gf e a p f + gf e a q f = -1
          by_cases z1 : f ∈ p
          · by_cases z2 : f ∈ q
            · rw [decide_eq_true z1, decide_eq_true z2] at h; cases h
            · rw [gf_0 q a f z2, Int.add_zero]
              exact gf_1 p a f (gp_nodup p a b hp) z1
          · by_cases z2 : f ∈ q
            · rw [gf_0 p a f z1, Int.zero_add]
              exact gf_1 q a f qn z2
            · rw [decide_eq_false z1, decide_eq_false z2] at h; cases h
        · rw [tb f hf] at h
          show gf e a p f + gf e a q f = 0
          by_cases z1 : f ∈ p
          · by_cases z2 : f ∈ q
            · rw [gf_open G ha hp q a b q1 q3 qn f z2 z1]
              omega
            · rw [decide_eq_true z1, decide_eq_false z2] at h; cases h
          · by_cases z2 : f ∈ q
            · rw [decide_eq_false z1, decide_eq_true z2] at h; cases h
            · rw [gf_0 p a f z1, gf_0 q a f z2]
              rfl
        · have h1 : gs (fun g => (gf e a p g + gf e a q g) * (F (e (2 * g + 1)) - F (e (2 * g)))) m = gs (fun g => gf e a p g * (F (e (2 * g + 1)) - F (e (2 * g)))) m + gs (fun g => gf e a q g * (F (e (2 * g + 1)) - F (e (2 * g)))) m := by
            rw [← gs_add]
            exact gs_congr m (fun g _ => Int.add_mul _ _ _)
          rw [h1, g_tel F p a b hp.1, g_tel F q a b q1]
          omega
      have wT : gW l m (gm p ^^^ gm q) = gW l m (gm p) + (r2.1 b).toInt := by
        have w1 : gW l m (gm p) = gs (fun f => if f ∈ p then gwt l f else 0) m := gm_S (m := m) (gwt l) p32 (by omega)
        have w2 := gc_sum (w := fun f => if f ∈ p then -(gwt l f) else gwt l f) (fun f u z1 z2 => (gP2_open G ha hp z1 z2).2.1) q a b q1 q3 qn
        rw [w1, q4, w2, ← gs_add]
        refine gs_congr m (fun f hf => ?_)
        rw [tb f hf]
        by_cases z1 : f ∈ p
        · by_cases z2 : f ∈ q
          · rw [decide_eq_true z1, decide_eq_true z2, if_pos z1, if_pos z2, if_neg (by decide), if_pos z1]
            omega
          · rw [decide_eq_true z1, decide_eq_false z2, if_pos z1, if_neg z2, if_pos (by decide)]
            omega
        · by_cases z2 : f ∈ q
          · rw [decide_eq_false z1, decide_eq_true z2, if_neg z1, if_pos z2, if_pos (by decide), if_neg z1]
            omega
          · rw [decide_eq_false z1, decide_eq_false z2, if_neg z1, if_neg z2, if_neg (by decide)]
            omega
      obtain ⟨X, hX⟩ := g2_path h2
      obtain ⟨Y, hY⟩ := g2_rest h2 hX
      have hXs : gp e m (xb s) a b X := ⟨gw_subp X a b (fun f hf => ts f (gw_mem X a b hX.1 f hf).1 (gw_mem X a b hX.1 f hf).2) hX.1, hX.2⟩
      have yT : ∀ f, f ∈ Y → f < m ∧ xb (gm p ^^^ gm q) f = true ∧ ¬ f ∈ X := by
        intro f hf
        have z := gw_mem Y a b hY.1 f hf
        have z2 : (xb (gm p ^^^ gm q) f && !decide (f ∈ X)) = true := z.2
        rw [Bool.and_eq_true] at z2
        exact ⟨z.1, z2.1, by simpa using z2.2⟩
      have hYs : gp e m (xb s) a b Y := ⟨gw_subp Y a b (fun f hf => ts f (yT f hf).1 (yT f hf).2.1) hY.1, hY.2⟩
      have hXY : gpp e m (xb s) a b X Y := ⟨hXs, hYs, fun f h1 h2 => (yT f h2).2.2 h1⟩
      have sub : gW l m (gm X ||| gm Y) ≤ gW l m (gm p ^^^ gm q) := gW_sub (fun f hf => (G.2.2 f hf).2.2.2.1) (fun f hf h => by
        rw [xb_or _ _ (by omega), gm_b (gp_32 G hX.1) (by omega), gm_b (gp_32 G hY.1) (by omega), Bool.or_eq_true, decide_eq_true_iff, decide_eq_true_iff] at h
        rcases h with h | h
        · exact (gw_mem X a b hX.1 f h).2
        · exact (yT f h).2.1)
      have lowXY := low hXY
      have eT : gm p ^^^ gm q = gm X ||| gm Y := gW_inj (l := l) hm tlow (xlow_or (gm_low (by omega) (fun f hf => (gw_mem X a b hX.1 f hf).1)) (gm_low (by omega) (fun f hf => (gw_mem Y a b hY.1 f hf).1))) (by omega)
      have nz : ¬ gm p ^^^ gm q = 0 := by
        rw [eT]
        cases hXe : X with
        | nil =>
          rw [hXe] at hX
          exact absurd hX.1 hab
        | cons f X' =>
          have hfm := (gw_mem X a b hX.1 f (by rw [hXe]; exact List.mem_cons_self)).1
          refine xb_ne (f := f) ?_
          rw [xb_or _ _ (by omega), ← hXe, gm_b (gp_32 G hX.1) (by omega), decide_eq_true (by rw [hXe]; exact List.mem_cons_self)]
          rfl
      refine ⟨fun z => absurd z nz, fun _ => ⟨X, Y, hXY, eT, fun X' Y' h' => ?_⟩⟩
      have := low h'
      rw [← eT, wT]
      exact this
/-- a path among the fibres of the least pair leaves a path -/
theorem g_part (G : gG e l m n) {X Y P : List Nat} (hXY : gpp e m (xb s) a b X Y) (hbest : ∀ X' Y', gpp e m (xb s) a b X' Y' → gW l m (gm X ||| gm Y) ≤ gW l m (gm X' ||| gm Y')) (hP : gp e m (xb (gm X ||| gm Y)) a b P) : ∃ Z, gpp e m (xb s) a b P Z ∧ gm X ||| gm Y = gm P ||| gm Z := by
  have hm := G.1
  have h2 := g2_pair G hXY.1 hXY.2.1 hXY.2.2
  obtain ⟨Z, hZ⟩ := g2_rest h2 hP
  have tb : ∀ f, f < m → xb (gm X ||| gm Y) f = true → xb s f = true := by
    intro f hf h
    rw [xb_or _ _ (by omega), gm_b (gp_32 G hXY.1.1) (by omega), gm_b (gp_32 G hXY.2.1.1) (by omega), Bool.or_eq_true, decide_eq_true_iff, decide_eq_true_iff] at h
    rcases h with h | h
    · exact (gw_mem X a b hXY.1.1 f h).2
    · exact (gw_mem Y a b hXY.2.1.1 f h).2
  have zT : ∀ f, f ∈ Z → f < m ∧ xb (gm X ||| gm Y) f = true ∧ ¬ f ∈ P := by
    intro f hf
    have z := gw_mem Z a b hZ.1 f hf
    have z2 : (xb (gm X ||| gm Y) f && !decide (f ∈ P)) = true := z.2
    rw [Bool.and_eq_true] at z2
    exact ⟨z.1, z2.1, by simpa using z2.2⟩
  have hPs : gp e m (xb s) a b P := ⟨gw_subp P a b (fun f hf => tb f (gw_mem P a b hP.1 f hf).1 (gw_mem P a b hP.1 f hf).2) hP.1, hP.2⟩
  have hZs : gp e m (xb s) a b Z := ⟨gw_subp Z a b (fun f hf => tb f (zT f hf).1 (zT f hf).2.1) hZ.1, hZ.2⟩
  have hPZ : gpp e m (xb s) a b P Z := ⟨hPs, hZs, fun f h1 h2 => (zT f h2).2.2 h1⟩
  refine ⟨Z, hPZ, ?_⟩
  have sub : gW l m (gm P ||| gm Z) ≤ gW l m (gm X ||| gm Y) := gW_sub (fun f hf => (G.2.2 f hf).2.2.2.1) (fun f hf h => by
    rw [xb_or _ _ (by omega), gm_b (gp_32 G hP.1) (by omega), gm_b (gp_32 G hZ.1) (by omega), Bool.or_eq_true, decide_eq_true_iff, decide_eq_true_iff] at h
    rcases h with h | h
    · exact (gw_mem P a b hP.1 f h).2
    · exact (zT f h).2.1)
  have := hbest P Z hPZ
  exact gW_inj (l := l) hm (xlow_or (gm_low (by omega) (fun f hf => (gw_mem X a b hXY.1.1 f hf).1)) (gm_low (by omega) (fun f hf => (gw_mem Y a b hXY.2.1.1 f hf).1))) (xlow_or (gm_low (by omega) (fun f hf => (gw_mem P a b hP.1 f hf).1)) (gm_low (by omega) (fun f hf => (gw_mem Z a b hZ.1 f hf).1))) (by omega)
end GY
