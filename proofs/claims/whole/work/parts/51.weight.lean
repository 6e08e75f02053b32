/-! 51.weight: sets of fibres by weight; the order of the model is the order of the weights. Pure. -/
section GM
/-- the set of a list of fibres -/
def gm : List Nat → Int32
  | [] => 0
  | f :: p => xbt f ||| gm p
theorem gm_b {p : List Nat} (hp : ∀ f, f ∈ p → f < 32) {g : Nat} (hg : g < 32) : xb (gm p) g = decide (g ∈ p) := by
  induction p with
  | nil =>
    show xb 0 g = _
    rw [xb_0]
    simp
  | cons f p ih =>
    show xb (xbt f ||| gm p) g = _
    rw [xb_or _ _ hg, xb_bt hg (hp f List.mem_cons_self), ih (fun x hx => hp x (List.mem_cons_of_mem _ hx))]
    by_cases c : g = f
    · simp [c]
    · simp [c]
theorem gm_low {p : List Nat} {n : Nat} (hn : n ≤ 32) (hp : ∀ f, f ∈ p → f < n) : xlow n (gm p) := by
  intro f h1 h2
  rw [gm_b (fun g hg => by have := hp g hg; omega) h2]
  exact decide_eq_false (fun q => by have := hp f q; omega)
theorem gm_ne {p : List Nat} (hp : ∀ f, f ∈ p → f < 32) (h : ¬ p = []) : ¬ gm p = 0 := by
  cases p with
  | nil => exact absurd rfl h
  | cons f p =>
    have hf := hp f List.mem_cons_self
    have : xb (gm (f :: p)) f = true := by
      rw [gm_b hp hf]
      exact decide_eq_true List.mem_cons_self
    exact xb_ne this
end GM
section GO
variable {l : Nat → Nat} {m : Nat}
/-- a fibre's weight -/
def gwt (l : Nat → Nat) (f : Nat) : Int := (l f : Int) * 16384 - ((2 ^ (13 - f) : Nat) : Int)
/-- the sum over a set -/
def gS (w : Nat → Int) (X : Int32) (m : Nat) : Int := gs (fun f => if xb X f = true then w f else 0) m
abbrev gW (l : Nat → Nat) (m : Nat) (X : Int32) : Int := gS (gwt l) X m
theorem gwt_pos {f : Nat} (hl : 1 ≤ l f) : 0 < gwt l f := by
  unfold gwt
  have : 2 ^ (13 - f) ≤ 2 ^ 13 := Nat.pow_le_pow_right (by omega) (by omega)
  omega
theorem gwt_le {f : Nat} (hl : l f ≤ 100) : gwt l f ≤ 1638400 := by
  unfold gwt
  generalize 2 ^ (13 - f) = P
  omega
theorem gW_split (l : Nat → Nat) (X : Int32) (m : Nat) : gW l m X = gS (fun f => (l f : Int)) X m * 16384 - gS (fun f => ((2 ^ (13 - f) : Nat) : Int)) X m := by
  unfold gW gS
  rw [← gs_mulr, ← gs_sub]
  refine gs_congr m (fun f _ => ?_)
  show (if xb X f = true then gwt l f else 0) = _
  by_cases c : xb X f = true
  · rw [if_pos c, if_pos c, if_pos c]
    rfl
  · rw [if_neg c, if_neg c, if_neg c]
    rfl
theorem gS_nn {w : Nat → Int} {X : Int32} (hw : ∀ f, f < m → 0 ≤ w f) : 0 ≤ gS w X m := by
  refine gs_nonneg m (fun f hf => ?_)
  by_cases c : xb X f = true
  · rw [if_pos c]; exact hw f hf
  · rw [if_neg c]; exact Int.le_refl _
theorem gpw_lt (X : Int32) : ∀ k, k ≤ 14 → gS (fun f => ((2 ^ (13 - f) : Nat) : Int)) X k ≤ 16384 - ((2 ^ (14 - k) : Nat) : Int) := by
  intro k
  induction k with
  | zero => intro _; exact Int.le_refl _
  | succ k ih =>
    intro hk
    have h1 := ih (by omega)
    show gS (fun f => ((2 ^ (13 - f) : Nat) : Int)) X k + (if xb X k = true then ((2 ^ (13 - k) : Nat) : Int) else 0) ≤ _
    have e : 2 ^ (14 - k) = 2 ^ (13 - k) + 2 ^ (13 - k) := by
      rw [show 14 - k = (13 - k) + 1 by omega, Nat.pow_succ]
      omega
    have e2 : 14 - (k + 1) = 13 - k := by omega
    rw [e2]
    rw [e] at h1
    clear e e2 ih
    generalize 2 ^ (13 - k) = P at *
    by_cases c : xb X k = true
    · rw [if_pos c]; omega
    · rw [if_neg c]; omega
theorem g_first {P : Nat → Prop} : ∀ n, (∃ f, f < n ∧ P f) → ∃ f, f < n ∧ P f ∧ ∀ g, g < f → ¬ P g := by
  intro n
  induction n with
  | zero => rintro ⟨f, hf, _⟩; omega
  | succ n ih =>
    rintro ⟨f, hf, hp⟩
    by_cases c : ∃ f, f < n ∧ P f
    · obtain ⟨f, h1, h2, h3⟩ := ih c
      exact ⟨f, by omega, h2, h3⟩
    · exact ⟨f, hf, hp, fun g hg q => c ⟨g, by omega, q⟩⟩
theorem g_diff {X Y : Int32} (hX : xlow m X) (hY : xlow m Y) (h : ¬ X = Y) : ∃ f, f < m ∧ ¬ xb X f = xb Y f ∧ ∀ g, g < f → xb X g = xb Y g := by
  have h1 : ∃ f, f < m ∧ ¬ xb X f = xb Y f := by
    apply Classical.byContradiction
    intro q
    refine h (xlow_ext hX hY (fun f hf => ?_))
    apply Classical.byContradiction
    intro q2
    exact q ⟨f, hf, q2⟩
  obtain ⟨f, h2, h3, h4⟩ := g_first m h1
  exact ⟨f, h2, h3, fun g hg => Classical.not_not.mp (h4 g hg)⟩
/-- the powers: the first difference decides -/
theorem gpw_gt {X Y : Int32} {f : Nat} (hx : xb X f = true) (hy : xb Y f = false) (hb : ∀ g, g < f → xb X g = xb Y g) : ∀ k, f < k → k ≤ 14 → gS (fun f => ((2 ^ (13 - f) : Nat) : Int)) Y k + ((2 ^ (14 - k) : Nat) : Int) ≤ gS (fun f => ((2 ^ (13 - f) : Nat) : Int)) X k := by
  intro k
  induction k with
  | zero => intro h; omega
  | succ k ih =>
    intro hk hk2
    show gS (fun f => ((2 ^ (13 - f) : Nat) : Int)) Y k + (if xb Y k = true then ((2 ^ (13 - k) : Nat) : Int) else 0) + _ ≤ gS (fun f => ((2 ^ (13 - f) : Nat) : Int)) X k + (if xb X k = true then ((2 ^ (13 - k) : Nat) : Int) else 0)
    have e2 : 14 - (k + 1) = 13 - k := by omega
    rw [e2]
    by_cases c : f = k
    · subst c
      rw [if_pos hx, if_neg (by rw [hy]; decide)]
      have : gS (fun f => ((2 ^ (13 - f) : Nat) : Int)) Y f = gS (fun f => ((2 ^ (13 - f) : Nat) : Int)) X f := gs_congr f (fun g hg => by show (if xb Y g = true then _ else _) = if xb X g = true then _ else _; rw [hb g hg])
      omega
    · have h1 := ih (by omega) (by omega)
      have e : 2 ^ (14 - k) = 2 ^ (13 - k) + 2 ^ (13 - k) := by
        rw [show 14 - k = (13 - k) + 1 by omega, Nat.pow_succ]
        omega
      rw [e] at h1
      clear e e2 ih
      generalize 2 ^ (13 - k) = P at *
      by_cases c1 : xb X k = true <;> by_cases c2 : xb Y k = true
      · rw [if_pos c1, if_pos c2]; omega
      · rw [if_pos c1, if_neg c2]; omega
      · rw [if_neg c1, if_pos c2]; omega
      · rw [if_neg c1, if_neg c2]; omega
theorem gW_inj (hm : m ≤ 14) {X Y : Int32} (hX : xlow m X) (hY : xlow m Y) (h : gW l m X = gW l m Y) : X = Y := by
  apply Classical.byContradiction
  intro hne
  obtain ⟨f, h1, h2, h3⟩ := g_diff hX hY hne
  rw [gW_split, gW_split] at h
  have a1 := gpw_lt X m hm
  have a2 := gpw_lt Y m hm
  have a3 : 0 ≤ gS (fun f => ((2 ^ (13 - f) : Nat) : Int)) X m := gS_nn (fun _ _ => Int.natCast_nonneg _)
  have a4 : 0 ≤ gS (fun f => ((2 ^ (13 - f) : Nat) : Int)) Y m := gS_nn (fun _ _ => Int.natCast_nonneg _)
  have a5 : 0 < 2 ^ (14 - m) := Nat.pow_pos (by omega)
  cases hx : xb X f with
  | true =>
    have hy : xb Y f = false := by cases hy : xb Y f with
      | false => rfl
      | true => exact absurd (hx.trans hy.symm) h2
    have := gpw_gt hx hy h3 m h1 hm
    omega
  | false =>
    have hy : xb Y f = true := by cases hy : xb Y f with
      | true => rfl
      | false => exact absurd (hx.trans hy.symm) h2
    have := gpw_gt hy hx (fun g hg => (h3 g hg).symm) m h1 hm
    omega
theorem xbf0_eq {X Y : Int32} {f : Nat} (h2 : ¬ xb X f = xb Y f) : ∀ n i, (∀ g, i ≤ g → g < f → xb X g = xb Y g) → i ≤ f → f < i + n → xbf0 X Y n i = (xb X f == decide (0 < (if xb X f = true then Y else X) >>> (nI f &&& 31))) := by
  intro n
  induction n with
  | zero => intro i _ h3 h4; omega
  | succ n ih =>
    intro i h1 h3 h4
    unfold xbf0
    by_cases c : i = f
    · subst c
      rw [if_neg h2]
    · rw [if_pos (h1 i (by omega) (by omega))]
      exact ih (i + 1) (fun g q1 q2 => h1 g (by omega) q2) (by omega) (by omega)
theorem xbf0_same {X : Int32} : ∀ n i, xbf0 X X n i = false := by
  intro n
  induction n with
  | zero => intro i; rfl
  | succ n ih =>
    intro i
    unfold xbf0
    rw [if_pos rfl]
    exact ih _
/-- of sets of the same length neither holds the other: the lesser goes on -/
theorem g_goes (hm : m ≤ 14) (hl : ∀ f, f < m → 1 ≤ l f) {X Y : Int32} (hY : xlow m Y) {f : Nat} (hf : f < m) (hx : xb X f = true) (hy : xb Y f = false) (hb : ∀ g, g < f → xb X g = xb Y g) (hlen : gS (fun f => (l f : Int)) X m = gS (fun f => (l f : Int)) Y m) : 0 < Y >>> (nI f &&& 31) := by
  rw [xb_sh (xlow_up hY hm) (by omega)]
  apply Classical.byContradiction
  intro hn
  have hno : ∀ g, f ≤ g → g < m → xb Y g = false := fun g q1 q2 => by
    cases q : xb Y g with
    | false => rfl
    | true => exact absurd ⟨g, q1, by omega, q⟩ hn
  have hpos : 0 < gs (fun g => (if xb X g = true then (l g : Int) else 0) - (if xb Y g = true then (l g : Int) else 0)) m := by
    refine gs_pos m (fun g hg => ?_) f hf ?_
    · by_cases c : g < f
      · rw [hb g c]; omega
      · rw [if_neg (show ¬ xb Y g = true by rw [hno g (by omega) hg]; decide)]
        by_cases c2 : xb X g = true
        · rw [if_pos c2]; omega
        · rw [if_neg c2]; omega
    · rw [if_pos hx, if_neg (by rw [hy]; decide)]
      have := hl f hf
      omega
  rw [gs_sub] at hpos
  have hlen' : gs (fun g => if xb X g = true then (l g : Int) else 0) m = gs (fun g => if xb Y g = true then (l g : Int) else 0) m := hlen
  omega
theorem g_order (hm : m ≤ 14) (hl : ∀ f, f < m → 1 ≤ l f) {X Y : Int32} (hX : xlow m X) (hY : xlow m Y) : (gS (fun f => (l f : Int)) X m < gS (fun f => (l f : Int)) Y m ∨ (gS (fun f => (l f : Int)) X m = gS (fun f => (l f : Int)) Y m ∧ xbef X Y = true)) ↔ gW l m X < gW l m Y := by
  rw [gW_split, gW_split]
  have a1 := gpw_lt X m hm
  have a2 := gpw_lt Y m hm
  have a3 : 0 ≤ gS (fun f => ((2 ^ (13 - f) : Nat) : Int)) X m := gS_nn (fun _ _ => Int.natCast_nonneg _)
  have a4 : 0 ≤ gS (fun f => ((2 ^ (13 - f) : Nat) : Int)) Y m := gS_nn (fun _ _ => Int.natCast_nonneg _)
  have a5 : 0 < 2 ^ (14 - m) := Nat.pow_pos (by omega)
  by_cases hlen : gS (fun f => (l f : Int)) X m = gS (fun f => (l f : Int)) Y m
  · rw [hlen]
    by_cases hXY : X = Y
    · subst hXY
      have : xbef X X = false := xbf0_same 14 0
      rw [this]
      constructor
      · rintro (h | ⟨_, h⟩)
        · omega
        · cases h
      · intro h; omega
    · obtain ⟨f, h1, h2, h3⟩ := g_diff hX hY hXY
      have hbe : xbef X Y = (xb X f == decide (0 < (if xb X f = true then Y else X) >>> (nI f &&& 31))) := xbf0_eq h2 14 0 (fun g _ hg => h3 g hg) (by omega) (by omega)
      cases hx : xb X f with
      | true =>
        have hy : xb Y f = false := by cases hy : xb Y f with
          | false => rfl
          | true => exact absurd (hx.trans hy.symm) h2
        have h4 := gpw_gt hx hy h3 m h1 hm
        have h5 := g_goes hm hl hY h1 hx hy h3 hlen
        rw [hx, if_pos rfl, decide_eq_true h5] at hbe
        rw [hbe]
        constructor
        · intro _; omega
        · intro _; exact Or.inr ⟨rfl, rfl⟩
      | false =>
        have hy : xb Y f = true := by cases hy : xb Y f with
          | true => rfl
          | false => exact absurd (hx.trans hy.symm) h2
        have h4 := gpw_gt hy hx (fun g hg => (h3 g hg).symm) m h1 hm
        have h5 := g_goes hm hl hX h1 hy hx (fun g hg => (h3 g hg).symm) hlen.symm
        rw [hx, if_neg (by decide), decide_eq_true h5] at hbe
        rw [hbe]
        constructor
        · rintro (h | ⟨_, h⟩)
          · omega
          · cases h
        · intro _; omega
  · constructor
    · rintro (h | ⟨h, _⟩)
      · omega
      · exact absurd h hlen
    · intro h
      left
      omega
/-- the length as a number -/
def glN (l : Nat → Nat) (X : Int32) : Nat → Nat
  | 0 => 0
  | n + 1 => if xb X n = true then glN l X n + l n else glN l X n
theorem xlen_N (l : Nat → Nat) (X : Int32) : ∀ n, xlen (fun j => nI (l j)) X n = nI (glN l X n) := by
  intro n
  induction n with
  | zero => rfl
  | succ n ih =>
    unfold xlen glN
    rw [ih]
    by_cases c : xb X n = true
    · rw [if_pos c, if_pos c, nI_add]
    · rw [if_neg c, if_neg c]
theorem glN_S (l : Nat → Nat) (X : Int32) : ∀ n, ((glN l X n : Nat) : Int) = gS (fun f => (l f : Int)) X n := by
  intro n
  induction n with
  | zero => rfl
  | succ n ih =>
    show ((if xb X n = true then glN l X n + l n else glN l X n : Nat) : Int) = gS (fun f => (l f : Int)) X n + (if xb X n = true then (l n : Int) else 0)
    by_cases c : xb X n = true
    · rw [if_pos c, if_pos c, Int.natCast_add, ih]
    · rw [if_neg c, if_neg c, ih]
      omega
theorem glN_le (hl : ∀ f, f < m → l f ≤ 100) (X : Int32) : ∀ n, n ≤ m → glN l X n ≤ 100 * n := by
  intro n
  induction n with
  | zero => intro _; exact Nat.le_refl _
  | succ n ih =>
    intro hn
    have h1 := ih (by omega)
    have h2 := hl n (by omega)
    unfold glN
    by_cases c : xb X n = true
    · rw [if_pos c]; omega
    · rw [if_neg c]; omega
/-- the model's order of paths is that of the weights -/
theorem xls_W (hm : m ≤ 14) (hl : ∀ f, f < m → 1 ≤ l f ∧ l f ≤ 100) {S Z : Nat → Int32} {p q : Nat} (hp : xlow m (S p)) (hq : xlow m (S q)) (zp : Z p = xlen (fun j => nI (l j)) (S p) m) (zq : Z q = xlen (fun j => nI (l j)) (S q) m) : xls S Z p q = true ↔ gW l m (S p) < gW l m (S q) := by
  rw [← g_order hm (fun f hf => (hl f hf).1) hp hq, ← glN_S, ← glN_S]
  unfold xls
  rw [zp, zq, xlen_N, xlen_N]
  have b1 := glN_le (fun f hf => (hl f hf).2) (S p) m (Nat.le_refl _)
  have b2 := glN_le (fun f hf => (hl f hf).2) (S q) m (Nat.le_refl _)
  have e1 : (nI (glN l (S p) m) < nI (glN l (S q) m)) ↔ glN l (S p) m < glN l (S q) m := nI_ltI (by omega) (by omega)
  have e2 : (nI (glN l (S p) m) = nI (glN l (S q) m)) ↔ glN l (S p) m = glN l (S q) m := nI_eq (by omega) (by omega)
  rw [Bool.or_eq_true, Bool.and_eq_true, decide_eq_true_iff, decide_eq_true_iff, e1, e2]
  constructor
  · rintro (h | ⟨h1, h2⟩)
    · left; omega
    · right; exact ⟨by omega, h2⟩
  · rintro (h | ⟨h1, h2⟩)
    · left; omega
    · right; exact ⟨by omega, h2⟩
/-- a list's sum is its set's -/
theorem gm_S (w : Nat → Int) {p : List Nat} (hp : ∀ f, f ∈ p → f < 32) (hm : m ≤ 32) : gS w (gm p) m = gs (fun f => if f ∈ p then w f else 0) m := by
  refine gs_congr m (fun f hf => ?_)
  rw [gm_b hp (by omega)]
  by_cases c : f ∈ p
  · rw [if_pos (decide_eq_true c), if_pos c]
  · rw [if_neg (by rw [decide_eq_false c]; decide), if_neg c]
/-- a subset weighs less -/
theorem gW_sub (hl : ∀ f, f < m → 1 ≤ l f) {X Y : Int32} (h : ∀ f, f < m → xb X f = true → xb Y f = true) : gW l m X ≤ gW l m Y := by
  refine gs_le m (fun f hf => ?_)
  by_cases c : xb X f = true
  · rw [if_pos c, if_pos (h f hf c)]
    exact Int.le_refl _
  · rw [if_neg c]
    have := gwt_pos (l := l) (f := f) (hl f hf)
    by_cases c2 : xb Y f = true
    · rw [if_pos c2]; omega
    · rw [if_neg c2]; exact Int.le_refl _
end GO
