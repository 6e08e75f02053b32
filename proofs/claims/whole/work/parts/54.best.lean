/-! 54.best: the best path, and what a pair is. Pure. -/
section GP
variable {e l : Nat → Nat} {m n a b : Nat} {on bk co wy : Nat → Int32} {s : Int32}
/-- a net that keeps the document's bounds -/
def gG (e l : Nat → Nat) (m n : Nat) : Prop := m ≤ 14 ∧ n ≤ 7 ∧ ∀ f, f < m → e (2 * f) < n ∧ e (2 * f + 1) < n ∧ ¬ e (2 * f) = e (2 * f + 1) ∧ 1 ≤ l f ∧ l f ≤ 100
abbrev gln (l : Nat → Nat) : Nat → Int32 := fun j => nI (l j)
abbrev gP1 (e l : Nat → Nat) (m : Nat) (on bk : Nat → Int32) (s : Int32) : Nat → Nat → Int32 := gPr e (xopn (xpr s (gln l)) on m) (xopn (xpr s (gln l)) bk m)
theorem gP1_eq {f u : Nat} (hf : f < m) : gP1 e l m on bk s f u = xpr s (gln l) f := by
  unfold gP1 gPr xopn
  by_cases c : e (2 * f) = u
  · rw [if_pos c, if_pos hf]
  · rw [if_neg c, if_pos hf]
theorem xwt_ne (G : gG e l m n) {f : Nat} (hf : f < m) : ¬ xwt (gln l) f = 2147483647 := by
  intro q
  have hM : (2147483647 : Int32).toInt = 2147483647 := by decide
  have h1 := xwt_I (l := l) (f := f) (by have := G.1; omega) (G.2.2 f hf).2.2.2.1 (G.2.2 f hf).2.2.2.2
  rw [q, hM] at h1
  have := gwt_le (l := l) (f := f) (G.2.2 f hf).2.2.2.2
  omega
theorem gP1_open (G : gG e l m n) {f u : Nat} (hf : f < m) : (¬ gP1 e l m on bk s f u = 2147483647 ↔ xb s f = true) ∧ (¬ gP1 e l m on bk s f u = 2147483647 → (gP1 e l m on bk s f u).toInt = gwt l f) := by
  rw [gP1_eq hf]
  unfold xpr
  by_cases c : xb s f = true
  · rw [if_pos c]
    exact ⟨⟨fun _ => c, fun _ => xwt_ne G hf⟩, fun _ => xwt_I (by have := G.1; omega) (G.2.2 f hf).2.2.2.1 (G.2.2 f hf).2.2.2.2⟩
  · rw [if_neg c]
    exact ⟨⟨fun q => absurd rfl q, fun q => absurd q c⟩, fun q => absurd rfl q⟩
theorem gH1 (G : gG e l m n) (ha : a < n) : gH e m n (gP1 e l m on bk s) a := by
  refine ⟨G.1, G.2.1, ha, fun f hf => ⟨(G.2.2 f hf).1, (G.2.2 f hf).2.1, (G.2.2 f hf).2.2.1⟩, fun f u hf ho => ?_, fun _ => 0, fun f u hf _ ho => ?_⟩
  · rw [(gP1_open G hf).2 ho]
    have h1 := gwt_le (l := l) (f := f) (G.2.2 f hf).2.2.2.2
    have h2 := gwt_pos (l := l) (f := f) (G.2.2 f hf).2.2.2.1
    omega
  · rw [(gP1_open G hf).2 ho]
    have h2 := gwt_pos (l := l) (f := f) (G.2.2 f hf).2.2.2.1
    show (0 : Int) ≤ 0 + gwt l f
    omega
theorem i32_max (x : Int32) : x.toInt ≤ 2147483647 := by
  have := Int32.toInt_lt x
  omega
/-- the labels of a search are a potential, if no price is below 0 -/
theorem g_potD (G : gG e l m n) (hf : gfe e m (gP1 e l m on bk s) co) : ∀ f u, f < m → (e (2 * f) = u ∨ e (2 * f + 1) = u) → xb s f = true → (co (xoth e f u)).toInt ≤ (co u).toInt + gwt l f := by
  intro f u h1 h2 h3
  have ho := (gP1_open (e := e) (on := on) (bk := bk) (s := s) (u := u) G h1).1.mpr h3
  have hv := (gP1_open (e := e) (on := on) (bk := bk) (s := s) (u := u) G h1).2 ho
  by_cases c : co u = 2147483647
  · rw [c, show (2147483647 : Int32).toInt = 2147483647 from by decide]
    have h2 := gwt_pos (l := l) (f := f) (G.2.2 f h1).2.2.2.1
    have := i32_max (co (xoth e f u))
    omega
  · have := hf f u h1 h2 ho c
    rw [hv] at this
    exact this
theorem gw_open {P : Nat → Nat → Int32} {t : Nat → Bool} (hP : ∀ f u, f < m → ¬ P f u = 2147483647 → t f = true) : ∀ p u v, gw e m gT u p v → go e P u p → gw e m t u p v := by
  intro p
  induction p with
  | nil => intro u v h _; exact h
  | cons f p ih => intro u v h ho; exact ⟨h.1, hP f u h.1 ho.1, h.2.2.1, ih _ v h.2.2.2 ho.2⟩
theorem go_open {P : Nat → Nat → Int32} {t : Nat → Bool} (hP : ∀ f u, f < m → t f = true → ¬ P f u = 2147483647) : ∀ p u v, gw e m t u p v → go e P u p := by
  intro p
  induction p with
  | nil => intro u v _; exact trivial
  | cons f p ih => intro u v h; exact ⟨hP f u h.1 h.2.1, ih _ v h.2.2.2⟩
theorem gw_R {t : Nat → Bool} {R : Nat → Bool} (hR : ∀ f u, f < m → t f = true → (e (2 * f) = u ∨ e (2 * f + 1) = u) → R u = true → R (xoth e f u) = true) : ∀ p u v, gw e m t u p v → R u = true → R v = true := by
  intro p
  induction p with
  | nil => intro u v h hu; rw [← show u = v from h]; exact hu
  | cons f p ih => intro u v h hu; exact ih _ v h.2.2.2 (hR f u h.1 h.2.1 h.2.2.1 hu)
theorem gp_32 (G : gG e l m n) {t : Nat → Bool} {p : List Nat} {u v : Nat} (h : gw e m t u p v) : ∀ f, f ∈ p → f < 32 := fun f hf => by
  have := (gw_mem p u v h f hf).1
  have := G.1
  omega
/-- the cost of a path, by its set -/
theorem gc_W (G : gG e l m n) {P : Nat → Nat → Int32} {t : Nat → Bool} {p : List Nat} {u v : Nat} (hP : ∀ f u, f < m → ¬ P f u = 2147483647 → (P f u).toInt = gwt l f) (h : gp e m t u v p) (ho : go e P u p) : gc e P u p = gW l m (gm p) := by
  rw [gc_sum hP p u v h.1 ho (gp_nodup p u v h), ← gm_S (gwt l) (gp_32 G h.1) (by have := G.1; omega)]
/-- what bestPath answers -/
theorem g_path (G : gG e l m n) (ha : a < n) (hb : b < n) (hab : ¬ a = b) :
    ((xbp (gsr e) (gds e) (gln l) n m on bk co wy s a).2 b = 0 → ¬ ∃ p, gp e m (xb s) a b p) ∧
    (¬ (xbp (gsr e) (gds e) (gln l) n m on bk co wy s a).2 b = 0 → ∃ p, gp e m (xb s) a b p ∧ (xbp (gsr e) (gds e) (gln l) n m on bk co wy s a).2 b = gm p ∧ ((xbp (gsr e) (gds e) (gln l) n m on bk co wy s a).1 b).toInt = gW l m (gm p) ∧ ∀ q, gp e m (xb s) a b q → gW l m (gm p) ≤ gW l m (gm q)) := by
  have H := gH1 (e := e) (on := on) (bk := bk) (s := s) G ha
  obtain ⟨hI, hf⟩ := g_cw H co wy
  show ((xcw (gsr e) (gds e) (xopn (xpr s (gln l)) on m) (xopn (xpr s (gln l)) bk m) n m a co wy).2 b = 0 → _) ∧ (¬ (xcw (gsr e) (gds e) (xopn (xpr s (gln l)) on m) (xopn (xpr s (gln l)) bk m) n m a co wy).2 b = 0 → ∃ p, _ ∧ (xcw (gsr e) (gds e) (xopn (xpr s (gln l)) on m) (xopn (xpr s (gln l)) bk m) n m a co wy).2 b = gm p ∧ ((xcw (gsr e) (gds e) (xopn (xpr s (gln l)) on m) (xopn (xpr s (gln l)) bk m) n m a co wy).1 b).toInt = _ ∧ _)
  generalize xcw (gsr e) (gds e) (xopn (xpr s (gln l)) on m) (xopn (xpr s (gln l)) bk m) n m a co wy = r at *
  constructor
  · rintro h0 ⟨p, hp⟩
    obtain ⟨R, r1, r2, r3⟩ := g_lost H hI hf hb hab h0
    have := gw_R (R := R) (fun f u q1 q2 q3 q4 => r3 f u q1 q3 ((gP1_open G q1).1.mpr q2) q4) p a b hp.1 r1
    rw [this] at r2
    cases r2
  · intro h0
    have hc : ¬ r.1 b = 2147483647 := fun q => h0 (hI.2.1 b (by have := G.2.1; omega) q)
    obtain ⟨p, p1, p2, p3, p4, p5, p6⟩ := hI.1 b (by have := G.2.1; omega) hc
    have hw := gw_open (t := xb s) (fun f u q1 q2 => (gP1_open G q1).1.mp q2) p a b p1 p3
    have hg : gp e m (xb s) a b p := ⟨hw, p2⟩
    have e1 := gc_W G (P := gP1 e l m on bk s) (fun f u q1 q2 => (gP1_open G q1).2 q2) hg p3
    refine ⟨p, hg, p5, p4.trans e1, fun q hq => ?_⟩
    have hoq := go_open (P := gP1 e l m on bk s) (fun f u q1 q2 => (gP1_open G q1).1.mpr q2) q a b hq.1
    have e2 := gc_W G (P := gP1 e l m on bk s) (fun f u q1 q2 => (gP1_open G q1).2 q2) hq hoq
    have e3 := gc_pot (P := gP1 e l m on bk s) (F := fun v => (r.1 v).toInt) (fun f u q1 q2 q3 => by
      have := g_potD G hf f u q1 q2 ((gP1_open G q1).1.mp q3)
      rw [(gP1_open G q1).2 q3]
      exact this) q a b hq.1 hoq
    have e4 := hI.2.2
    have e3 : (r.1 b).toInt ≤ (r.1 a).toInt + gc e (gP1 e l m on bk s) a q := e3
    have e0 : (r.1 b).toInt = gW l m (gm p) := p4.trans e1
    rw [e2, e0] at e3
    omega
/-- T carries two units from a to b, by the flow h -/
def g2 (e : Nat → Nat) (m a b : Nat) (T : Int32) (h : Nat → Int) : Prop := (∀ f, f < m → xb T f = true → h f = 1 ∨ h f = -1) ∧ (∀ f, f < m → xb T f = false → h f = 0) ∧ ∀ F : Nat → Int, gs (fun g => h g * (F (e (2 * g + 1)) - F (e (2 * g)))) m = 2 * (F b - F a)
theorem g2_pair (G : gG e l m n) {X Y : List Nat} {t : Nat → Bool} (hX : gp e m t a b X) (hY : gp e m t a b Y) (hd : ∀ f, f ∈ X → ¬ f ∈ Y) : g2 e m a b (gm X ||| gm Y) (fun f => gf e a X f + gf e a Y f) := by
  have hm := G.1
  have hb : ∀ f, f < m → xb (gm X ||| gm Y) f = (decide (f ∈ X) || decide (f ∈ Y)) := fun f hf => by rw [xb_or _ _ (by omega), gm_b (gp_32 G hX.1) (by omega), gm_b (gp_32 G hY.1) (by omega)]
  refine ⟨fun f hf h => ?_, fun f hf h => ?_, fun F => ?_⟩
  · rw [hb f hf, Bool.or_eq_true, decide_eq_true_iff, decide_eq_true_iff] at h
    show gf e a X f + gf e a Y f = 1 ∨ gf e a X f + gf e a Y f = -1
    rcases h with h | h
    · rw [gf_0 Y a f (hd f h), Int.add_zero]
      exact gf_1 X a f (gp_nodup X a b hX) h
    · rw [gf_0 X a f (fun q => hd f q h), Int.zero_add]
      exact gf_1 Y a f (gp_nodup Y a b hY) h
  · rw [hb f hf, Bool.or_eq_false_iff, decide_eq_false_iff_not, decide_eq_false_iff_not] at h
    show gf e a X f + gf e a Y f = 0
    rw [gf_0 X a f h.1, gf_0 Y a f h.2]
    rfl
  · have h1 : gs (fun g => (gf e a X g + gf e a Y g) * (F (e (2 * g + 1)) - F (e (2 * g)))) m = gs (fun g => gf e a X g * (F (e (2 * g + 1)) - F (e (2 * g)))) m + gs (fun g => gf e a Y g * (F (e (2 * g + 1)) - F (e (2 * g)))) m := by
      rw [← gs_add]
      exact gs_congr m (fun g _ => Int.add_mul _ _ _)
    rw [h1, g_tel F X a b hX.1, g_tel F Y a b hY.1]
    omega
/-- where two units go, there is a path .. -/
theorem g2_path {T : Int32} {h : Nat → Int} (hT : g2 e m a b T h) : ∃ X, gp e m (xb T) a b X := by
  apply Classical.byContradiction
  intro hn
  obtain ⟨R, r1, r2, r3⟩ := g_cut hn
  have h1 := hT.2.2 (fun v => if R v = true then 1 else 0)
  have h2 : gs (fun g => h g * ((if R (e (2 * g + 1)) = true then 1 else 0) - (if R (e (2 * g)) = true then 1 else 0))) m = gs (fun _ => 0) m := by
    refine gs_congr m (fun g hg => ?_)
    cases hb : xb T g with
    | false => rw [hT.2.1 g hg hb, Int.zero_mul]
    | true => rw [r3 g hg hb, Int.sub_self, Int.mul_zero]
  rw [gs_zero] at h2
  have h1 : gs (fun g => h g * ((if R (e (2 * g + 1)) = true then 1 else 0) - (if R (e (2 * g)) = true then 1 else 0))) m = 2 * ((if R b = true then 1 else 0) - (if R a = true then 1 else 0)) := h1
  rw [h2, r1, r2] at h1
  exact absurd h1 (by decide)
theorem gs_even {g : Nat → Int} : ∀ k, (∀ i, i < k → ∃ z, g i = 2 * z) → ∃ z, gs g k = 2 * z := by
  intro k
  induction k with
  | zero => intro _; exact ⟨0, rfl⟩
  | succ k ih =>
    intro h
    obtain ⟨z, hz⟩ := ih (fun i hi => h i (by omega))
    obtain ⟨y, hy⟩ := h k (by omega)
    exact ⟨z + y, by show gs g k + g k = _; omega⟩
/-- .. and without one path's fibres there is another -/
theorem g2_rest {T : Int32} {h : Nat → Int} {X : List Nat} (hT : g2 e m a b T h) (hX : gp e m (xb T) a b X) : ∃ Y, gp e m (fun f => xb T f && !decide (f ∈ X)) a b Y := by
  apply Classical.byContradiction
  intro hn
  obtain ⟨R, r1, r2, r3⟩ := g_cut hn
  have h1 := hT.2.2 (fun v => if R v = true then 1 else 0)
  have h2 := g_tel (fun v => if R v = true then 1 else 0) X a b hX.1
  have h3 : ∃ z, gs (fun g => h g * ((if R (e (2 * g + 1)) = true then 1 else 0) - (if R (e (2 * g)) = true then 1 else 0)) - gf e a X g * ((if R (e (2 * g + 1)) = true then 1 else 0) - (if R (e (2 * g)) = true then 1 else 0))) m = 2 * z := by
    refine gs_even m (fun g hg => ?_)
    by_cases c : g ∈ X
    · have hb := (gw_mem X a b hX.1 g c).2
      have q1 := hT.1 g hg hb
      have q2 := gf_1 (e := e) X a g (gp_nodup X a b hX) c
      rw [← Int.sub_mul]
      generalize (if R (e (2 * g + 1)) = true then (1 : Int) else 0) - (if R (e (2 * g)) = true then 1 else 0) = D
      rcases q1 with q1 | q1 <;> rcases q2 with q2 | q2 <;> rw [q1, q2]
      · exact ⟨0, by omega⟩
      · exact ⟨D, by omega⟩
      · exact ⟨-D, by omega⟩
      · exact ⟨0, by omega⟩
    · rw [gf_0 X a g c]
      cases hb : xb T g with
      | false => rw [hT.2.1 g hg hb]; exact ⟨0, by omega⟩
      | true =>
        rw [r3 g hg (by show (xb T g && !decide (g ∈ X)) = true; rw [hb, decide_eq_false c]; rfl)]
        refine ⟨0, ?_⟩
        rw [Int.sub_self, Int.mul_zero, Int.zero_mul]
        rfl
  obtain ⟨z, hz⟩ := h3
  rw [gs_sub] at hz
  have h1 : gs (fun g => h g * ((if R (e (2 * g + 1)) = true then 1 else 0) - (if R (e (2 * g)) = true then 1 else 0))) m = 2 * ((if R b = true then 1 else 0) - (if R a = true then 1 else 0)) := h1
  have h2 : gs (fun g => gf e a X g * ((if R (e (2 * g + 1)) = true then 1 else 0) - (if R (e (2 * g)) = true then 1 else 0))) m = (if R b = true then 1 else 0) - (if R a = true then 1 else 0) := h2
  rw [h1, h2, r1, r2] at hz
  simp only [if_true, Bool.false_eq_true, if_false] at hz
  omega
/-- the sum of two sets without a common fibre -/
theorem gW_or {X Y : List Nat} (hX : ∀ f, f ∈ X → f < 32) (hY : ∀ f, f ∈ Y → f < 32) (hm : m ≤ 14) (hd : ∀ f, f ∈ X → ¬ f ∈ Y) : gW l m (gm X ||| gm Y) = gW l m (gm X) + gW l m (gm Y) := by
  unfold gW gS
  rw [← gs_add]
  refine gs_congr m (fun f hf => ?_)
  rw [xb_or _ _ (by omega), gm_b hX (by omega), gm_b hY (by omega)]
  by_cases c1 : f ∈ X
  · rw [decide_eq_true c1, decide_eq_false (hd f c1)]
    simp
  · rw [decide_eq_false c1]
    simp
end GP
