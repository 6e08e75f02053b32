/-! 56.pair2: the best pair is the best. Pure. -/
section GX
variable {e l : Nat → Nat} {m n a b : Nat} {on bk co wy : Nat → Int32} {s : Int32}
theorem xwt_neg (G : gG e l m n) {f : Nat} (hf : f < m) : (-(xwt (gln l) f)).toInt = -(gwt l f) ∧ ¬ -(xwt (gln l) f) = 2147483647 := by
  have h1 := xwt_I (l := l) (f := f) (by have := G.1; omega) (G.2.2 f hf).2.2.2.1 (G.2.2 f hf).2.2.2.2
  have h2 := gwt_le (l := l) (f := f) (G.2.2 f hf).2.2.2.2
  have h3 := gwt_pos (l := l) (f := f) (G.2.2 f hf).2.2.2.1
  have h4 : (-(xwt (gln l) f)).toInt = -(gwt l f) := by
    rw [Int32.toInt_neg, h1, Int.bmod_eq_of_le (by omega) (by omega)]
  refine ⟨h4, fun q => ?_⟩
  rw [q, show (2147483647 : Int32).toInt = 2147483647 from by decide] at h4
  omega
/-- what the second search starts from -/
def gP2 (e l : Nat → Nat) (m : Nat) (on bk : Nat → Int32) (s : Int32) (a : Nat) (p : List Nat) : Nat → Nat → Int32 :=
  gPr e (xobo (gfr e) (gto e) (gln l) m 7 (gm p) (nI a) (xopn (xpr s (gln l)) on m) (xopn (xpr s (gln l)) bk m)).1 (xobo (gfr e) (gto e) (gln l) m 7 (gm p) (nI a) (xopn (xpr s (gln l)) on m) (xopn (xpr s (gln l)) bk m)).2
theorem gP2_out (G : gG e l m n) (ha : a < n) {p : List Nat} {t : Nat → Bool} (hp : gp e m t a b p) {f u : Nat} (hf : ¬ f ∈ p) : gP2 e l m on bk s a p f u = gP1 e l m on bk s f u := by
  have hl := gp_len (fun f hf => ⟨(G.2.2 f hf).1, (G.2.2 f hf).2.1⟩) hp.1 hp.2 ha
  obtain ⟨h1, h2⟩ := g_obo G p a b 7 (xopn (xpr s (gln l)) on m) (xopn (xpr s (gln l)) bk m) ha hp (by have := G.2.1; omega)
  unfold gP2 gP1 gPr
  rw [(h1 f hf).1, (h1 f hf).2]
theorem gP2_in (G : gG e l m n) (ha : a < n) {p : List Nat} {t : Nat → Bool} (hp : gp e m t a b p) {f : Nat} (hf : f ∈ p) :
    (gf e a p f = 1 ∧ (∀ u, gP2 e l m on bk s a p f u = if e (2 * f) = u then 2147483647 else -(xwt (gln l) f))) ∨ (gf e a p f = -1 ∧ (∀ u, gP2 e l m on bk s a p f u = if e (2 * f) = u then -(xwt (gln l) f) else 2147483647)) := by
  have hl := gp_len (fun f hf => ⟨(G.2.2 f hf).1, (G.2.2 f hf).2.1⟩) hp.1 hp.2 ha
  obtain ⟨h1, h2⟩ := g_obo G p a b 7 (xopn (xpr s (gln l)) on m) (xopn (xpr s (gln l)) bk m) ha hp (by have := G.2.1; omega)
  rcases gf_1 (e := e) p a f (gp_nodup p a b hp) hf with q | q
  · left
    refine ⟨q, fun u => ?_⟩
    unfold gP2 gPr
    rw [((h2 f hf).1 q).1, ((h2 f hf).1 q).2]
  · right
    refine ⟨q, fun u => ?_⟩
    unfold gP2 gPr
    rw [((h2 f hf).2 q).1, ((h2 f hf).2 q).2]
/-- open arcs of the second search: what they cost, and which way they go -/
theorem gP2_open (G : gG e l m n) (ha : a < n) {p : List Nat} (hp : gp e m (xb s) a b p) {f u : Nat} (hf : f < m) (ho : ¬ gP2 e l m on bk s a p f u = 2147483647) :
    xb s f = true ∧ (gP2 e l m on bk s a p f u).toInt = (if f ∈ p then -(gwt l f) else gwt l f) ∧ (f ∈ p → (e (2 * f) = u ∨ e (2 * f + 1) = u) → (if e (2 * f) = u then 1 else -1) = -(gf e a p f)) := by
  by_cases c : f ∈ p
  · rw [if_pos c]
    refine ⟨(gw_mem p a b hp.1 f c).2, ?_⟩
    rcases gP2_in (l := l) (on := on) (bk := bk) (s := s) G ha hp c with ⟨q1, q2⟩ | ⟨q1, q2⟩
    · rw [q2 u] at ho ⊢
      by_cases c2 : e (2 * f) = u
      · rw [if_pos c2] at ho
        exact absurd rfl ho
      · rw [if_neg c2, if_neg c2, q1]
        exact ⟨(xwt_neg G hf).1, fun _ _ => rfl⟩
    · rw [q2 u] at ho ⊢
      by_cases c2 : e (2 * f) = u
      · rw [if_pos c2, if_pos c2, q1]
        exact ⟨(xwt_neg G hf).1, fun _ _ => rfl⟩
      · rw [if_neg c2] at ho
        exact absurd rfl ho
  · rw [if_neg c]
    rw [gP2_out G ha hp c] at ho ⊢
    exact ⟨(gP1_open G hf).1.mp ho, (gP1_open G hf).2 ho, fun q => absurd q c⟩
theorem gP2_back (G : gG e l m n) (ha : a < n) {p : List Nat} (hp : gp e m (xb s) a b p) {f : Nat} (hf : f ∈ p) :
    (gf e a p f = 1 → ¬ gP2 e l m on bk s a p f (e (2 * f + 1)) = 2147483647) ∧ (gf e a p f = -1 → ¬ gP2 e l m on bk s a p f (e (2 * f)) = 2147483647) := by
  have hfm := (gw_mem p a b hp.1 f hf).1
  have hne := (G.2.2 f hfm).2.2.1
  rcases gP2_in (l := l) (on := on) (bk := bk) (s := s) G ha hp hf with ⟨q1, q2⟩ | ⟨q1, q2⟩
  · refine ⟨fun _ => ?_, fun q => by rw [q1] at q; exact absurd q (by decide)⟩
    rw [q2, if_neg hne]
    exact (xwt_neg G hfm).2
  · refine ⟨fun q => by rw [q1] at q; exact absurd q (by decide), fun _ => ?_⟩
    rw [q2, if_pos rfl]
    exact (xwt_neg G hfm).2
/-- along a cheapest path every arc is tight -/
theorem g_tight (G : gG e l m n) {D : Nat → Int} (hD : ∀ f u, f < m → (e (2 * f) = u ∨ e (2 * f + 1) = u) → xb s f = true → D (xoth e f u) ≤ D u + gwt l f) {p : List Nat} (hp : gp e m (xb s) a b p) (ha0 : D a ≤ 0) (hb0 : D b = gW l m (gm p)) {f : Nat} (hf : f ∈ p) : gf e a p f * (D (e (2 * f + 1)) - D (e (2 * f))) = gwt l f := by
  have hm := G.1
  have h1 := g_tel D p a b hp.1
  have h2 := gm_S (m := m) (gwt l) (gp_32 G hp.1) (by omega)
  have nn : ∀ g, g < m → 0 ≤ (if g ∈ p then gwt l g else 0) - gf e a p g * (D (e (2 * g + 1)) - D (e (2 * g))) := by
    intro g hg
    by_cases c : g ∈ p
    · rw [if_pos c]
      have hs := (gw_mem p a b hp.1 g c).2
      have hne := (G.2.2 g hg).2.2.1
      have u1 := hD g (e (2 * g)) hg (Or.inl rfl) hs
      have u2 := hD g (e (2 * g + 1)) hg (Or.inr rfl) hs
      unfold xoth at u1 u2
      rw [if_pos rfl] at u1
      rw [if_neg hne] at u2
      rcases gf_1 (e := e) p a g (gp_nodup p a b hp) c with q | q <;> rw [q] <;> omega
    · rw [if_neg c, gf_0 p a g c]
      omega
  have s0 : gs (fun g => (if g ∈ p then gwt l g else 0) - gf e a p g * (D (e (2 * g + 1)) - D (e (2 * g)))) m = gW l m (gm p) - (D b - D a) := by
    rw [gs_sub, h1, ← h2]
  have s1 := gs_nonneg m nn
  have := gs_all0 m nn (by omega) f (gw_mem p a b hp.1 f hf).1
  rw [if_pos hf] at this
  omega
theorem gH2 (G : gG e l m n) (ha : a < n) {p : List Nat} (hp : gp e m (xb s) a b p) {D : Nat → Int} (hD : ∀ f u, f < m → (e (2 * f) = u ∨ e (2 * f + 1) = u) → xb s f = true → D (xoth e f u) ≤ D u + gwt l f) (ha0 : D a ≤ 0) (hb0 : D b = gW l m (gm p)) : gH e m n (gP2 e l m on bk s a p) a := by
  refine ⟨G.1, G.2.1, ha, fun f hf => ⟨(G.2.2 f hf).1, (G.2.2 f hf).2.1, (G.2.2 f hf).2.2.1⟩, fun f u hf ho => ?_, D, fun f u hf hu ho => ?_⟩
  · have h1 := gwt_le (l := l) (f := f) (G.2.2 f hf).2.2.2.2
    have h2 := gwt_pos (l := l) (f := f) (G.2.2 f hf).2.2.2.1
    rw [(gP2_open G ha hp hf ho).2.1]
    by_cases c : f ∈ p
    · rw [if_pos c]; omega
    · rw [if_neg c]; omega
  · obtain ⟨o1, o2, o3⟩ := gP2_open G ha hp hf ho
    rw [o2]
    by_cases c : f ∈ p
    · rw [if_pos c]
      have t := g_tight G hD hp ha0 hb0 c
      have o3 := o3 c hu
      unfold xoth
      by_cases c2 : e (2 * f) = u
      · rw [if_pos c2] at o3 ⊢
        rw [show gf e a p f = -1 by omega] at t
        rw [c2] at t
        omega
      · rw [if_neg c2] at o3 ⊢
        rw [show gf e a p f = 1 by omega] at t
        rcases hu with z | z
        · exact absurd z c2
        · rw [z] at t
          omega
    · rw [if_neg c]
      exact hD f u hf hu o1
/-- where the second search does not reach b, no two paths go without a common fibre -/
theorem g_nopair (G : gG e l m n) (ha : a < n) {p : List Nat} (hp : gp e m (xb s) a b p) {R : Nat → Bool} (r1 : R a = true) (r2 : R b = false) (r3 : ∀ f u, f < m → (e (2 * f) = u ∨ e (2 * f + 1) = u) → ¬ gP2 e l m on bk s a p f u = 2147483647 → R u = true → R (xoth e f u) = true) : ¬ ∃ X Y, gpp e m (xb s) a b X Y := by
  rintro ⟨X, Y, hX, hY, hd⟩
  -- the steps of R
  have dz : ∀ f, f < m → xb s f = true → ¬ f ∈ p → R (e (2 * f)) = R (e (2 * f + 1)) := by
    intro f hf hs hc
    have hne := (G.2.2 f hf).2.2.1
    have o : ∀ u, ¬ gP2 e l m on bk s a p f u = 2147483647 := fun u => by rw [gP2_out G ha hp hc]; exact (gP1_open G hf).1.mpr hs
    have u1 := r3 f (e (2 * f)) hf (Or.inl rfl) (o _)
    have u2 := r3 f (e (2 * f + 1)) hf (Or.inr rfl) (o _)
    unfold xoth at u1 u2
    rw [if_pos rfl] at u1
    rw [if_neg hne] at u2
    cases h1 : R (e (2 * f)) with
    | true => rw [u1 h1]
    | false =>
      cases h2 : R (e (2 * f + 1)) with
      | false => rfl
      | true => rw [u2 h2] at h1; cases h1
  have dp : ∀ f, f ∈ p → gf e a p f * ((if R (e (2 * f + 1)) = true then 1 else 0) - (if R (e (2 * f)) = true then 1 else 0)) ≤ 0 ∧ (¬ R (e (2 * f)) = R (e (2 * f + 1)) → gf e a p f * ((if R (e (2 * f + 1)) = true then 1 else 0) - (if R (e (2 * f)) = true then 1 else 0)) ≤ -1) := by
    intro f hf
    have hfm := (gw_mem p a b hp.1 f hf).1
    have hne := (G.2.2 f hfm).2.2.1
    obtain ⟨b1, b2⟩ := gP2_back (l := l) (on := on) (bk := bk) G ha hp hf
    rcases gf_1 (e := e) p a f (gp_nodup p a b hp) hf with q | q
    · have u2 := r3 f (e (2 * f + 1)) hfm (Or.inr rfl) (b1 q)
      unfold xoth at u2
      rw [if_neg hne] at u2
      rw [q]
      cases h1 : R (e (2 * f)) <;> cases h2 : R (e (2 * f + 1))
      · simp
      · rw [u2 h2] at h1; cases h1
      · simp
      · simp
    · have u1 := r3 f (e (2 * f)) hfm (Or.inl rfl) (b2 q)
      unfold xoth at u1
      rw [if_pos rfl] at u1
      rw [q]
      cases h1 : R (e (2 * f)) <;> cases h2 : R (e (2 * f + 1))
      · simp
      · simp
      · rw [u1 h1] at h2; cases h2
      · simp
  have tel : ∀ Z : List Nat, gp e m (xb s) a b Z → gs (fun g => gf e a Z g * ((if R (e (2 * g + 1)) = true then 1 else 0) - (if R (e (2 * g)) = true then 1 else 0))) m = -1 := by
    intro Z hZ
    have := g_tel (fun v => if R v = true then (1 : Int) else 0) Z a b hZ.1
    have this : gs (fun g => gf e a Z g * ((if R (e (2 * g + 1)) = true then 1 else 0) - (if R (e (2 * g)) = true then 1 else 0))) m = (if R b = true then 1 else 0) - (if R a = true then 1 else 0) := this
    rw [this, r1, r2]
    rfl
  have cross : ∀ Z : List Nat, gp e m (xb s) a b Z → ∃ f, f < m ∧ f ∈ Z ∧ f ∈ p ∧ ¬ R (e (2 * f)) = R (e (2 * f + 1)) := by
    intro Z hZ
    obtain ⟨f, hf, hne⟩ := gs_ne (show ¬ gs (fun g => gf e a Z g * ((if R (e (2 * g + 1)) = true then 1 else 0) - (if R (e (2 * g)) = true then 1 else 0))) m = 0 by rw [tel Z hZ]; decide)
    have hfZ : f ∈ Z := by
      apply Classical.byContradiction
      intro q
      rw [gf_0 Z a f q, Int.zero_mul] at hne
      exact hne rfl
    have hR : ¬ R (e (2 * f)) = R (e (2 * f + 1)) := by
      intro q
      rw [q, Int.sub_self, Int.mul_zero] at hne
      exact hne rfl
    refine ⟨f, hf, hfZ, ?_, hR⟩
    apply Classical.byContradiction
    intro q
    exact hR (dz f hf (gw_mem Z a b hZ.1 f hfZ).2 q)
  obtain ⟨f, f1, f2, f3, f4⟩ := cross X hX
  obtain ⟨g, g1', g2', g3', g4'⟩ := cross Y hY
  have hfg : ¬ f = g := fun q => hd f f2 (q ▸ g2')
  have := gs_two m (g := fun g => gf e a p g * ((if R (e (2 * g + 1)) = true then 1 else 0) - (if R (e (2 * g)) = true then 1 else 0))) (fun i hi => by
    by_cases c : i ∈ p
    · exact (dp i c).1
    · show gf e a p i * _ ≤ 0
      rw [gf_0 p a i c]
      omega) f g f1 g1' hfg ((dp f f3).2 f4) ((dp g g3').2 g4')
  rw [tel p hp] at this
  omega
/-- a pair is no cheaper than what the two searches give -/
theorem g_lower (G : gG e l m n) (ha : a < n) (hb : b < n) {p : List Nat} (hp : gp e m (xb s) a b p) (H : gH e m n (gP2 e l m on bk s a p) a) {co2 wy2 : Nat → Int32} (hI : gI e m (gP2 e l m on bk s a p) a co2 wy2) (hf : gfe e m (gP2 e l m on bk s a p) co2) (hc : ¬ co2 b = 2147483647) {X Y : List Nat} (hXY : gpp e m (xb s) a b X Y) : gW l m (gm p) + (co2 b).toInt ≤ gW l m (gm X ||| gm Y) := by
  obtain ⟨hX, hY, hd⟩ := hXY
  have hm := G.1
  have h7 := G.2.1
  have hMX : (2147483647 : Int32).toInt = 2147483647 := by decide
  have lt7 : ∀ f, f < m → e (2 * f) < 7 ∧ e (2 * f + 1) < 7 := fun f hf => by have := G.2.2 f hf; omega
  -- the label of a is 0
  have ca : (co2 a).toInt = 0 := by
    have hca : ¬ co2 a = 2147483647 := fun q => by
      have := hI.2.2
      rw [q, hMX] at this
      omega
    obtain ⟨q, q1, q2, q3, q4, q5, q6⟩ := hI.1 a (by omega) hca
    cases q with
    | nil => exact q4
    | cons f q =>
      exfalso
      have q2 : (a :: gv e (xoth e f a) q).Nodup := q2
      rw [List.nodup_cons] at q2
      exact q2.1 (gv_last q _ a q1.2.2.2)
  -- where a fibre can be gone both ways, its labels differ by its weight at most
  have fr : ∀ f u, f < m → (e (2 * f) = u ∨ e (2 * f + 1) = u) → ¬ gP2 e l m on bk s a p f u = 2147483647 → ¬ co2 u = 2147483647 → ¬ co2 (xoth e f u) = 2147483647 ∧ (co2 (xoth e f u)).toInt ≤ (co2 u).toInt + (gP2 e l m on bk s a p f u).toInt := by
    intro f u h1 h2 h3 h4
    have q1 := hf f u h1 h2 h3 h4
    have q2 := gI_bd H hI (by have := lt7 f h1; rcases h2 with q | q <;> omega) h4
    have q3 := H.2.2.2.2.1 f u h1 h3
    refine ⟨fun q => ?_, q1⟩
    rw [q, hMX] at q1
    omega
  have both : ∀ f, f < m → xb s f = true → ¬ f ∈ p → (co2 (e (2 * f + 1))).toInt - (co2 (e (2 * f))).toInt ≤ gwt l f ∧ -(gwt l f) ≤ (co2 (e (2 * f + 1))).toInt - (co2 (e (2 * f))).toInt := by
    intro f h1 h2 h3
    have hne := (G.2.2 f h1).2.2.1
    have wp := gwt_pos (l := l) (f := f) (G.2.2 f h1).2.2.2.1
    have o : ∀ u, ¬ gP2 e l m on bk s a p f u = 2147483647 := fun u => by rw [gP2_out G ha hp h3]; exact (gP1_open G h1).1.mpr h2
    have ov : ∀ u, (gP2 e l m on bk s a p f u).toInt = gwt l f := fun u => by
      have := (gP2_open G ha hp h1 (o u)).2.1
      rw [if_neg h3] at this
      exact this
    have u1 := fr f (e (2 * f)) h1 (Or.inl rfl) (o _)
    have u2 := fr f (e (2 * f + 1)) h1 (Or.inr rfl) (o _)
    rw [ov] at u1 u2
    unfold xoth at u1 u2
    rw [if_pos rfl] at u1
    rw [if_neg hne] at u2
    by_cases c1 : co2 (e (2 * f)) = 2147483647
    · by_cases c2 : co2 (e (2 * f + 1)) = 2147483647
      · rw [c1, c2]; omega
      · exact absurd c1 (u2 c2).1
    · have w1 := u1 c1
      have w2 := u2 w1.1
      omega
  have fin := g_fin (A := fun v => ¬ co2 v = 2147483647) (D := fun f => if f ∈ p then gf e a p f else 0) (b := b) (m := m) (e := e) (t := xb s) (fun f hf => (G.2.2 f hf).2.2.1) (fun f hfm => by
    by_cases c : f ∈ p
    · have hne := (G.2.2 f hfm).2.2.1
      obtain ⟨b1, b2⟩ := gP2_back (l := l) (on := on) (bk := bk) G ha hp c
      simp only [if_pos c]
      refine ⟨fun q hA => ?_, fun q hA => ?_⟩
      · have := (fr f (e (2 * f + 1)) hfm (Or.inr rfl) (b1 q) hA).1
        unfold xoth at this
        rw [if_neg hne] at this
        exact this
      · have := (fr f (e (2 * f)) hfm (Or.inl rfl) (b2 q) hA).1
        unfold xoth at this
        rw [if_pos rfl] at this
        exact this
    · simp only [if_neg c]
      exact ⟨fun q => absurd q (by decide), fun q => absurd q (by decide)⟩) hc p a hp.1 (gp_nodup p a b hp) (fun f hf => (if_pos hf).symm)
  have back : ∀ f, f ∈ p → gwt l f ≤ gf e a p f * ((co2 (e (2 * f + 1))).toInt - (co2 (e (2 * f))).toInt) := by
    intro f hfp
    have hfm := (gw_mem p a b hp.1 f hfp).1
    have hne := (G.2.2 f hfm).2.2.1
    have f1 := fin (e (2 * f)) (gv_ends p a b hp.1 f hfp _ (Or.inl rfl))
    have f2 := fin (e (2 * f + 1)) (gv_ends p a b hp.1 f hfp _ (Or.inr rfl))
    obtain ⟨b1, b2⟩ := gP2_back (l := l) (on := on) (bk := bk) G ha hp hfp
    rcases gf_1 (e := e) p a f (gp_nodup p a b hp) hfp with q | q
    · have w := (fr f (e (2 * f + 1)) hfm (Or.inr rfl) (b1 q) f2).2
      rw [(gP2_open G ha hp hfm (b1 q)).2.1, if_pos hfp] at w
      unfold xoth at w
      rw [if_neg hne] at w
      rw [q]
      omega
    · have w := (fr f (e (2 * f)) hfm (Or.inl rfl) (b2 q) f1).2
      rw [(gP2_open G ha hp hfm (b2 q)).2.1, if_pos hfp] at w
      unfold xoth at w
      rw [if_pos rfl] at w
      rw [q]
      omega
  -- the sums
  have t1 := g_tel (fun v => (co2 v).toInt) p a b hp.1
  have t2 := g_tel (fun v => (co2 v).toInt) X a b hX.1
  have t3 := g_tel (fun v => (co2 v).toInt) Y a b hY.1
  have t1 : gs (fun g => gf e a p g * ((co2 (e (2 * g + 1))).toInt - (co2 (e (2 * g))).toInt)) m = (co2 b).toInt - (co2 a).toInt := t1
  have t2 : gs (fun g => gf e a X g * ((co2 (e (2 * g + 1))).toInt - (co2 (e (2 * g))).toInt)) m = (co2 b).toInt - (co2 a).toInt := t2
  have t3 : gs (fun g => gf e a Y g * ((co2 (e (2 * g + 1))).toInt - (co2 (e (2 * g))).toInt)) m = (co2 b).toInt - (co2 a).toInt := t3
  have wp : gW l m (gm p) = gs (fun f => if f ∈ p then gwt l f else 0) m := gm_S (m := m) (gwt l) (gp_32 G hp.1) (by omega)
  have wx : gW l m (gm X) = gs (fun f => if f ∈ X then gwt l f else 0) m := gm_S (m := m) (gwt l) (gp_32 G hX.1) (by omega)
  have wy : gW l m (gm Y) = gs (fun f => if f ∈ Y then gwt l f else 0) m := gm_S (m := m) (gwt l) (gp_32 G hY.1) (by omega)
  have wor := gW_or (l := l) (gp_32 G hX.1) (gp_32 G hY.1) hm hd
  have main : gs (fun g => (if g ∈ p then gwt l g else 0) - gf e a p g * ((co2 (e (2 * g + 1))).toInt - (co2 (e (2 * g))).toInt)) m ≤
      gs (fun g => ((if g ∈ X then gwt l g else 0) + (if g ∈ Y then gwt l g else 0)) - (gf e a X g * ((co2 (e (2 * g + 1))).toInt - (co2 (e (2 * g))).toInt) + gf e a Y g * ((co2 (e (2 * g + 1))).toInt - (co2 (e (2 * g))).toInt))) m := by
    refine gs_le m (fun g hg => ?_)
    have wpos := gwt_pos (l := l) (f := g) (G.2.2 g hg).2.2.2.1
    -- one of the two at most
    have one : ∀ Z : List Nat, gp e m (xb s) a b Z → g ∈ Z → (if g ∈ p then gwt l g else 0) - gf e a p g * ((co2 (e (2 * g + 1))).toInt - (co2 (e (2 * g))).toInt) ≤ gwt l g - gf e a Z g * ((co2 (e (2 * g + 1))).toInt - (co2 (e (2 * g))).toInt) := by
      intro Z hZ hgZ
      have hs := (gw_mem Z a b hZ.1 g hgZ).2
      by_cases c : g ∈ p
      · rw [if_pos c]
        have bk := back g c
        rcases gf_1 (e := e) p a g (gp_nodup p a b hp) c with q1 | q1 <;> rcases gf_1 (e := e) Z a g (gp_nodup Z a b hZ) hgZ with q2 | q2 <;> rw [q1] at bk ⊢ <;> rw [q2] <;> omega
      · rw [if_neg c, gf_0 p a g c]
        have bo := both g hg hs c
        rcases gf_1 (e := e) Z a g (gp_nodup Z a b hZ) hgZ with q2 | q2 <;> rw [q2] <;> omega
    by_cases cX : g ∈ X
    · have cY := hd g cX
      rw [if_pos cX, if_neg cY, gf_0 Y a g cY]
      have := one X hX cX
      omega
    · rw [if_neg cX, gf_0 X a g cX]
      by_cases cY : g ∈ Y
      · rw [if_pos cY]
        have := one Y hY cY
        omega
      · rw [if_neg cY, gf_0 Y a g cY]
        by_cases c : g ∈ p
        · rw [if_pos c]
          have := back g c
          omega
        · rw [if_neg c, gf_0 p a g c]
          omega
  rw [gs_sub, gs_sub, gs_add, gs_add, t1, t2, t3] at main
  rw [wor]
  omega
end GX
