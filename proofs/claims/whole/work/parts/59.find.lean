/-! 59.find: the model finds what the class finds. Pure. -/
section GF
variable {e l : Nat → Nat} {m n a b : Nat} {s : Int32}
theorem gm_disj (G : gG e l m n) {t : Nat → Bool} {X Y : List Nat} {u v : Nat} (hX : gw e m t u X v) (hY : gw e m t u Y v) : gm X &&& gm Y = 0 ↔ ∀ f, f ∈ X → ¬ f ∈ Y := by
  have hm := G.1
  constructor
  · intro h f h1 h2
    have hf := (gw_mem X u v hX f h1).1
    have : xb (gm X &&& gm Y) f = true := by rw [xb_and _ _ (by omega), gm_b (gp_32 G hX) (by omega), gm_b (gp_32 G hY) (by omega), decide_eq_true h1, decide_eq_true h2]; rfl
    exact xb_ne this h
  · intro h
    refine xb_ext (fun f hf => ?_)
    rw [xb_and _ _ hf, gm_b (gp_32 G hX) hf, gm_b (gp_32 G hY) hf, xb_0]
    by_cases c : f ∈ X
    · rw [decide_eq_false (h f c), Bool.and_false]
    · rw [decide_eq_false c]; rfl
theorem gm_plow (G : gG e l m n) {t : Nat → Bool} {X : List Nat} {u v : Nat} (hX : gw e m t u X v) : xlow m (gm X) := gm_low (by have := G.1; omega) (fun f hf => (gw_mem X u v hX f hf).1)
theorem gm_pne (G : gG e l m n) {t : Nat → Bool} {X : List Nat} (hab : ¬ a = b) (hX : gw e m t a X b) : ¬ gm X = 0 := gm_ne (gp_32 G hX) (fun q => by rw [q] at hX; exact hab hX)
/-- what is known of the list -/
def gLk (e l : Nat → Nat) (m : Nat) (s : Int32) (a b : Nat) (N : Nat) (S Z : Nat → Int32) : Prop :=
  (∀ i, i < N → ∃ p, gp e m (xb s) a b p ∧ S i = gm p) ∧ (∀ p, gp e m (xb s) a b p → ∃ i, i < N ∧ S i = gm p) ∧ (∀ i, i < N → xlow m (S i)) ∧ (∀ i, i < N → Z i = nI (glN l (S i) m)) ∧ (∀ i j, i < N → j < N → (xls S Z i j = true ↔ gW l m (S i) < gW l m (S j)))
theorem gLk_of (G : gG e l m n) (ha : a < n) : gLk e l m s a b (xPL e m s a b).length (xLS (xPL e m s a b)) (xLZ l m (xPL e m s a b)) := by
  have hS : ∀ i, i < (xPL e m s a b).length → xLS (xPL e m s a b) i ∈ xPL e m s a b := by
    intro i hi
    unfold xLS
    rw [List.getElem?_eq_getElem hi]
    exact List.getElem_mem hi
  have h1 : ∀ i, i < (xPL e m s a b).length → ∃ p, gp e m (xb s) a b p ∧ xLS (xPL e m s a b) i = gm p := fun i hi => (xPL_mem G ha _).mp (hS i hi)
  have h3 : ∀ i, i < (xPL e m s a b).length → xlow m (xLS (xPL e m s a b) i) := by
    intro i hi
    obtain ⟨p, hp, e1⟩ := h1 i hi
    rw [e1]
    exact gm_plow G hp.1
  refine ⟨h1, ?_, h3, ?_, ?_⟩
  · intro p hp
    have := (xPL_mem (s := s) (b := b) G ha (gm p)).mpr ⟨p, hp, rfl⟩
    obtain ⟨i, hi, e1⟩ := List.getElem_of_mem this
    refine ⟨i, hi, ?_⟩
    unfold xLS
    rw [List.getElem?_eq_getElem hi, e1]
    rfl
  · intro i hi
    exact xlen_N l _ m
  · intro i j hi hj
    exact xls_W G.1 (fun f hf => ⟨(G.2.2 f hf).2.2.2.1, (G.2.2 f hf).2.2.2.2⟩) (h3 i hi) (h3 j hj) rfl rfl
theorem xfp_spec {N : Nat} {S Z : Nat → Int32} (hk : gLk e l m s a b N S Z) : ∀ k, k ≤ N → (xfp S Z k = none → k = 0) ∧ (∀ i, xfp S Z k = some i → ∀ j, j < k → gW l m (S i) ≤ gW l m (S j)) := by
  intro k
  induction k with
  | zero => intro _; exact ⟨fun _ => rfl, fun i hi => by cases hi⟩
  | succ k ih =>
    intro hkN
    obtain ⟨i1, i2⟩ := ih (by omega)
    cases hx : xfp S Z k with
    | none =>
      have hk0 := i1 hx
      subst hk0
      have ex : xfp S Z 1 = some 0 := rfl
      rw [ex]
      exact ⟨fun q => (by cases q), fun i hi j hj => by cases hi; rw [show j = 0 by omega]; exact Int.le_refl _⟩
    | some c =>
      have hck := xfp_lt _ _ _ _ hx
      have i3 := i2 c hx
      have hw := hk.2.2.2.2 k c (by omega) (by omega)
      have ex : xfp S Z (k + 1) = if xls S Z k c = true then some k else some c := by
        show (match xfp S Z k with | none => some k | some b => if xls S Z k b = true then some k else some b) = _
        rw [hx]
      rw [ex]
      by_cases q : xls S Z k c = true
      · rw [if_pos q]
        refine ⟨fun z => (by cases z), fun i hi j hj => ?_⟩
        cases hi
        by_cases z : j = k
        · rw [z]; exact Int.le_refl _
        · have := i3 j (by omega)
          have := hw.mp q
          omega
      · rw [if_neg q]
        refine ⟨fun z => (by cases z), fun i hi j hj => ?_⟩
        cases hi
        by_cases z : j = k
        · have : ¬ gW l m (S k) < gW l m (S c) := fun y => q (hw.mpr y)
          rw [z]; omega
        · exact i3 j (by omega)
/-- the length of two sets without a common fibre -/
theorem glN_or (G : gG e l m n) {X Y : Int32} (h : X &&& Y = 0) : ∀ k, k ≤ m → glN l (X ||| Y) k = glN l X k + glN l Y k := by
  intro k
  induction k with
  | zero => intro _; rfl
  | succ k ih =>
    intro hk
    have hm := G.1
    have hb : (xb X k && xb Y k) = false := by rw [← xb_and _ _ (by omega), h, xb_0]
    unfold glN
    rw [ih (by omega), xb_or _ _ (by omega)]
    cases h1 : xb X k <;> cases h2 : xb Y k
    · simp
    · simp; omega
    · simp; omega
    · rw [h1, h2] at hb; cases hb
theorem g_cond (G : gG e l m n) {X Y : Int32} (hX : xlow m X) (hY : xlow m Y) : (nI (glN l X m) < nI (glN l Y m) ∨ (nI (glN l X m) = nI (glN l Y m) ∧ xbef X Y = true)) ↔ gW l m X < gW l m Y := by
  have hl : ∀ f, f < m → 1 ≤ l f ∧ l f ≤ 100 := fun f hf => ⟨(G.2.2 f hf).2.2.2.1, (G.2.2 f hf).2.2.2.2⟩
  have hm := G.1
  rw [← g_order hm (fun f hf => (hl f hf).1) hX hY, ← glN_S, ← glN_S]
  have b1 := glN_le (fun f hf => (hl f hf).2) X m (Nat.le_refl _)
  have b2 := glN_le (fun f hf => (hl f hf).2) Y m (Nat.le_refl _)
  rw [nI_ltI (by omega) (by omega), nI_eq (by omega) (by omega)]
  constructor
  · rintro (h | ⟨h1, h2⟩)
    · left; omega
    · right; exact ⟨by omega, h2⟩
  · rintro (h | ⟨h1, h2⟩)
    · left; omega
    · right; exact ⟨by omega, h2⟩
/-- the best of the pairs B so far -/
def gQ (l : Nat → Nat) (m N : Nat) (S : Nat → Int32) (B : Nat → Nat → Prop) (z : Int32 × Int32) : Prop :=
  (z = (0, 100000) ∧ ∀ i j, B i j → ¬ S i &&& S j = 0) ∨ (∃ i j, i < N ∧ j < N ∧ S i &&& S j = 0 ∧ z = (S i ||| S j, nI (glN l (S i ||| S j) m)) ∧ ∀ i' j', B i' j' → S i' &&& S j' = 0 → gW l m (S i ||| S j) ≤ gW l m (S i' ||| S j'))
theorem xq1_spec (G : gG e l m n) {N : Nat} {S Z : Nat → Int32} (hk : gLk e l m s a b N S Z) {p : Nat} (hp : p < N) {z : Int32 × Int32} (hz : gQ l m N S (fun i j => j < i ∧ i < p) z) : ∀ q, q ≤ N → gQ l m N S (fun i j => (j < i ∧ i < p) ∨ (i = p ∧ j < q)) (xq1 S Z p q z) := by
  intro q
  induction q with
  | zero =>
    intro _
    rcases hz with ⟨h1, h2⟩ | ⟨i, j, h1, h2, h3, h4, h5⟩
    · exact Or.inl ⟨h1, fun i j h => h2 i j (by rcases h with h | h; exact h; omega)⟩
    · exact Or.inr ⟨i, j, h1, h2, h3, h4, fun i' j' h => h5 i' j' (by rcases h with h | h; exact h; omega)⟩
  | succ q ih =>
    intro hq
    have hi := ih (by omega)
    have ex : xq1 S Z p (q + 1) z = if S p &&& S q = 0 ∧ (Z p + Z q < (xq1 S Z p q z).2 ∨ (Z p + Z q = (xq1 S Z p q z).2 ∧ xbef (S p ||| S q) (xq1 S Z p q z).1 = true)) then (S p ||| S q, Z p + Z q) else xq1 S Z p q z := rfl
    rw [ex]
    generalize xq1 S Z p q z = y at *
    have hlw : ∀ i, i < N → xlow m (S i) := hk.2.2.1
    have hZ : S p &&& S q = 0 → Z p + Z q = nI (glN l (S p ||| S q) m) := fun h => by
      rw [hk.2.2.2.1 p hp, hk.2.2.2.1 q (by omega), nI_add, glN_or G h m (Nat.le_refl _)]
    have bd : ∀ X, glN l X m ≤ 1400 := fun X => by
      have := glN_le (fun f hf => (G.2.2 f hf).2.2.2.2) X m (Nat.le_refl _)
      have := G.1
      omega
    by_cases c : S p &&& S q = 0
    · rw [hZ c]
      rcases hi with ⟨h1, h2⟩ | ⟨i, j, h1, h2, h3, h4, h5⟩
      · rw [h1, if_pos ⟨c, Or.inl (show nI (glN l (S p ||| S q) m) < nI 100000 from nI_lt (by have := bd (S p ||| S q); omega) (by omega))⟩]
        refine Or.inr ⟨p, q, hp, by omega, c, rfl, fun i' j' hB hd => ?_⟩
        by_cases z : i' = p ∧ j' = q
        · rw [z.1, z.2]; exact Int.le_refl _
        · exact absurd hd (h2 i' j' (by rcases hB with hB | hB; exact Or.inl hB; exact Or.inr ⟨hB.1, by have := hB.1; omega⟩))
      · rw [h4]
        have hcond := g_cond G (xlow_or (hlw p hp) (hlw q (by omega))) (xlow_or (hlw i h1) (hlw j h2))
        simp only
        by_cases w : gW l m (S p ||| S q) < gW l m (S i ||| S j)
        · rw [if_pos ⟨c, hcond.mpr w⟩]
          refine Or.inr ⟨p, q, hp, by omega, c, rfl, fun i' j' hB hd => ?_⟩
          by_cases z : i' = p ∧ j' = q
          · rw [z.1, z.2]; exact Int.le_refl _
          · have := h5 i' j' (by rcases hB with hB | hB; exact Or.inl hB; exact Or.inr ⟨hB.1, by have := hB.1; omega⟩) hd
            omega
        · rw [if_neg (fun y => w (hcond.mp y.2))]
          refine Or.inr ⟨i, j, h1, h2, h3, rfl, fun i' j' hB hd => ?_⟩
          by_cases z : i' = p ∧ j' = q
          · rw [z.1, z.2]; omega
          · exact h5 i' j' (by rcases hB with hB | hB; exact Or.inl hB; exact Or.inr ⟨hB.1, by have := hB.1; omega⟩) hd
    · rw [if_neg (fun y => c y.1)]
      rcases hi with ⟨h1, h2⟩ | ⟨i, j, h1, h2, h3, h4, h5⟩
      · refine Or.inl ⟨h1, fun i' j' hB hd => ?_⟩
        by_cases z : i' = p ∧ j' = q
        · rw [z.1, z.2] at hd; exact c hd
        · exact h2 i' j' (by rcases hB with hB | hB; exact Or.inl hB; exact Or.inr ⟨hB.1, by have := hB.1; omega⟩) hd
      · refine Or.inr ⟨i, j, h1, h2, h3, h4, fun i' j' hB hd => ?_⟩
        by_cases z : i' = p ∧ j' = q
        · rw [z.1, z.2] at hd; exact absurd hd c
        · exact h5 i' j' (by rcases hB with hB | hB; exact Or.inl hB; exact Or.inr ⟨hB.1, by have := hB.1; omega⟩) hd
theorem xq2_spec (G : gG e l m n) {N : Nat} {S Z : Nat → Int32} (hk : gLk e l m s a b N S Z) : ∀ p, p ≤ N → gQ l m N S (fun i j => j < i ∧ i < p) (xq2 S Z p) := by
  intro p
  induction p with
  | zero => intro _; exact Or.inl ⟨rfl, fun i j h => by omega⟩
  | succ p ih =>
    intro hp
    have h := xq1_spec G hk (show p < N by omega) (ih (by omega)) p (by omega)
    show gQ l m N S (fun i j => j < i ∧ i < p + 1) (xq1 S Z p p (xq2 S Z p))
    rcases h with ⟨h1, h2⟩ | ⟨i, j, h1, h2, h3, h4, h5⟩
    · exact Or.inl ⟨h1, fun i j h => h2 i j (by omega)⟩
    · exact Or.inr ⟨i, j, h1, h2, h3, h4, fun i' j' h => h5 i' j' (by omega)⟩
/-- the least first part so far -/
def gQ3 (l : Nat → Nat) (m N : Nat) (S Z : Nat → Int32) (both : Int32) (B : Nat → Nat → Prop) (y : Option Nat) : Prop :=
  (y = none ∧ ∀ p q, B p q → ¬ xpt S Z both p q) ∨ (∃ i, y = some i ∧ i < N ∧ (∃ q, q < N ∧ xpt S Z both i q) ∧ ∀ p q, B p q → xpt S Z both p q → gW l m (S i) ≤ gW l m (S p))
theorem xq3_spec {N : Nat} {S Z : Nat → Int32} (hk : gLk e l m s a b N S Z) {both : Int32} {p : Nat} (hp : p < N) {z : Option Nat} (hz : gQ3 l m N S Z both (fun i j => i < p ∧ j < N) z) : ∀ q, q ≤ N → gQ3 l m N S Z both (fun i j => (i < p ∧ j < N) ∨ (i = p ∧ j < q)) (xq3 S Z both p q z) := by
  intro q
  induction q with
  | zero =>
    intro _
    rcases hz with ⟨h1, h2⟩ | ⟨i, h1, h2, h3, h4⟩
    · exact Or.inl ⟨h1, fun i j h => h2 i j (by omega)⟩
    · exact Or.inr ⟨i, h1, h2, h3, fun i' j' h => h4 i' j' (by omega)⟩
  | succ q ih =>
    intro hq
    have hi := ih (by omega)
    have ex : xq3 S Z both p (q + 1) z = match xq3 S Z both p q z with
      | none => if ((¬ p = q ∧ S p &&& S q = 0 ∧ S p ||| S q = both) ∧ xls S Z p q = true) then some p else none
      | some b => if ((¬ p = q ∧ S p &&& S q = 0 ∧ S p ||| S q = both) ∧ xls S Z p q = true) ∧ xls S Z p b = true then some p else some b := rfl
    rw [ex]
    generalize xq3 S Z both p q z = y at *
    have old : ∀ i j, ((i < p ∧ j < N) ∨ (i = p ∧ j < q + 1)) → ¬ (i = p ∧ j = q) → ((i < p ∧ j < N) ∨ (i = p ∧ j < q)) := fun i j h1 h2 => by omega
    rcases hi with ⟨h1, h2⟩ | ⟨i, h1, h2, h3, h4⟩
    · rw [h1]
      simp only
      by_cases c : xpt S Z both p q
      · rw [if_pos (show (¬ p = q ∧ S p &&& S q = 0 ∧ S p ||| S q = both) ∧ xls S Z p q = true from c)]
        refine Or.inr ⟨p, rfl, hp, ⟨q, by omega, c⟩, fun i j hB hC => ?_⟩
        by_cases z : i = p ∧ j = q
        · rw [z.1]; exact Int.le_refl _
        · exact absurd hC (h2 i j (old i j hB z))
      · rw [if_neg (show ¬ ((¬ p = q ∧ S p &&& S q = 0 ∧ S p ||| S q = both) ∧ xls S Z p q = true) from c)]
        refine Or.inl ⟨rfl, fun i j hB hC => ?_⟩
        by_cases z : i = p ∧ j = q
        · rw [z.1, z.2] at hC; exact c hC
        · exact h2 i j (old i j hB z) hC
    · rw [h1]
      simp only
      have hw := hk.2.2.2.2 p i hp h2
      by_cases c : xpt S Z both p q
      · by_cases w : xls S Z p i = true
        · rw [if_pos ⟨c, w⟩]
          refine Or.inr ⟨p, rfl, hp, ⟨q, by omega, c⟩, fun i' j' hB hC => ?_⟩
          by_cases z : i' = p ∧ j' = q
          · rw [z.1]; exact Int.le_refl _
          · have := h4 i' j' (old i' j' hB z) hC
            have := hw.mp w
            omega
        · rw [if_neg (fun y => w y.2)]
          refine Or.inr ⟨i, rfl, h2, h3, fun i' j' hB hC => ?_⟩
          by_cases z : i' = p ∧ j' = q
          · have : ¬ gW l m (S p) < gW l m (S i) := fun y => w (hw.mpr y)
            rw [z.1]; omega
          · exact h4 i' j' (old i' j' hB z) hC
      · rw [if_neg (fun y => c y.1)]
        refine Or.inr ⟨i, rfl, h2, h3, fun i' j' hB hC => ?_⟩
        by_cases z : i' = p ∧ j' = q
        · rw [z.1, z.2] at hC; exact absurd hC c
        · exact h4 i' j' (old i' j' hB z) hC
theorem xq4_spec {N : Nat} {S Z : Nat → Int32} (hk : gLk e l m s a b N S Z) {both : Int32} : ∀ p, p ≤ N → gQ3 l m N S Z both (fun i j => i < p ∧ j < N) (xq4 S Z both N p) := by
  intro p
  induction p with
  | zero => intro _; exact Or.inl ⟨rfl, fun i j h => by omega⟩
  | succ p ih =>
    intro hp
    have h := xq3_spec hk (both := both) (show p < N by omega) (ih (by omega)) N (Nat.le_refl _)
    show gQ3 l m N S Z both (fun i j => i < p + 1 ∧ j < N) (xq3 S Z both p N (xq4 S Z both N p))
    rcases h with ⟨h1, h2⟩ | ⟨i, h1, h2, h3, h4⟩
    · exact Or.inl ⟨h1, fun i j h => h2 i j (by omega)⟩
    · exact Or.inr ⟨i, h1, h2, h3, fun i' j' h => h4 i' j' (by omega)⟩
/-- two of the list without a common fibre are not the same, nor of the same weight -/
theorem gLk_ne (G : gG e l m n) (hab : ¬ a = b) {N : Nat} {S Z : Nat → Int32} (hk : gLk e l m s a b N S Z) {i j : Nat} (hi : i < N) (hj : j < N) (hd : S i &&& S j = 0) : ¬ i = j ∧ ¬ gW l m (S i) = gW l m (S j) := by
  have hne : ¬ S i = S j := by
    intro q
    rw [← q, Int32.and_self] at hd
    obtain ⟨p, hp, e1⟩ := hk.1 i hi
    rw [e1] at hd
    exact gm_pne G hab hp.1 hd
  exact ⟨fun q => hne (by rw [q]), fun q => hne (gW_inj G.1 (hk.2.2.1 i hi) (hk.2.2.1 j hj) q)⟩
/-- a pair in the list gives a parting -/
theorem gLk_pt (G : gG e l m n) (hab : ¬ a = b) {N : Nat} {S Z : Nat → Int32} (hk : gLk e l m s a b N S Z) {i j : Nat} (hi : i < N) (hj : j < N) (hd : S i &&& S j = 0) : xpt S Z (S i ||| S j) i j ∨ xpt S Z (S i ||| S j) j i := by
  obtain ⟨h1, h2⟩ := gLk_ne G hab hk hi hj hd
  by_cases c : gW l m (S i) < gW l m (S j)
  · exact Or.inl ⟨⟨h1, hd, rfl⟩, (hk.2.2.2.2 i j hi hj).mpr c⟩
  · exact Or.inr ⟨⟨fun q => h1 q.symm, by rw [Int32.and_comm]; exact hd, Int32.or_comm _ _⟩, (hk.2.2.2.2 j i hj hi).mpr (by omega)⟩
theorem g_fok (G : gG e l m n) (ha : a < n) (hab : ¬ a = b) : xFok l m (xPL e m s a b) := by
  have hk := gLk_of (s := s) (b := b) G ha
  refine ⟨xPL_len G ha hab, fun hne => ?_⟩
  generalize hL : xPL e m s a b = L at *
  rcases xq2_spec G hk L.length (Nat.le_refl _) with ⟨h1, h2⟩ | ⟨i, j, h1, h2, h3, h4, h5⟩
  · rw [h1] at hne
    exact absurd rfl hne
  · rw [h4]
    rcases xq4_spec hk (both := xLS L i ||| xLS L j) L.length (Nat.le_refl _) with ⟨k1, k2⟩ | ⟨x, k1, _⟩
    · exfalso
      rcases gLk_pt G hab hk h1 h2 h3 with z | z
      · exact k2 i j ⟨h1, h2⟩ z
      · exact k2 j i ⟨h2, h1⟩ z
    · exact ⟨x, k1⟩
/-- bestPath and the model's findPath -/
theorem g_find1 (G : gG e l m n) (ha : a < n) (hb : b < n) (hab : ¬ a = b) {r : Int32} (h0 : r = 0 → ¬ ∃ p, gp e m (xb s) a b p) (h1 : ¬ r = 0 → ∃ p, gp e m (xb s) a b p ∧ r = gm p ∧ ∀ q, gp e m (xb s) a b q → gW l m (gm p) ≤ gW l m (gm q)) : xfind l m (xPL e m s a b) false = if r = 0 then none else some (r, 0) := by
  have hk := gLk_of (s := s) (b := b) G ha
  generalize hL : xPL e m s a b = L at *
  unfold xfind
  rw [if_neg (by decide)]
  obtain ⟨f1, f2⟩ := xfp_spec hk L.length (Nat.le_refl _)
  by_cases c : r = 0
  · rw [if_pos c]
    have hl : L.length = 0 := by
      apply Classical.byContradiction
      intro q
      obtain ⟨p, hp, _⟩ := hk.1 0 (by omega)
      exact h0 c ⟨p, hp⟩
    rw [hl]
    rfl
  · rw [if_neg c]
    obtain ⟨p, hp, e1, hmin⟩ := h1 c
    obtain ⟨j, hj, e2⟩ := hk.2.1 p hp
    cases hx : xfp (xLS L) (xLZ l m L) L.length with
    | none => have := f1 hx; omega
    | some i =>
      have hi := xfp_lt _ _ _ _ hx
      have g1 := f2 i hx j hj
      obtain ⟨q, hq, e3⟩ := hk.1 i hi
      have g2 := hmin q hq
      rw [e2] at g1
      rw [e3] at g1
      have e4 : gm q = gm p := gW_inj (l := l) G.1 (gm_plow G hq.1) (gm_plow G hp.1) (by omega)
      show some (xLS L i, (0 : Int32)) = some (r, 0)
      rw [e3, e4, e1]
/-- bestPair, bestPath among it, and the model's findPair -/
theorem g_find2 (G : gG e l m n) (ha : a < n) (hb : b < n) (hab : ¬ a = b) {T r : Int32} (h0 : T = 0 → ¬ ∃ X Y, gpp e m (xb s) a b X Y) (h1 : ¬ T = 0 → ∃ X Y, gpp e m (xb s) a b X Y ∧ T = gm X ||| gm Y ∧ ∀ X' Y', gpp e m (xb s) a b X' Y' → gW l m (gm X ||| gm Y) ≤ gW l m (gm X' ||| gm Y'))
    (r0 : ¬ T = 0 → r = 0 → ¬ ∃ p, gp e m (xb T) a b p) (r1 : ¬ T = 0 → ¬ r = 0 → ∃ p, gp e m (xb T) a b p ∧ r = gm p ∧ ∀ q, gp e m (xb T) a b q → gW l m (gm p) ≤ gW l m (gm q)) : xfind l m (xPL e m s a b) true = if T = 0 then none else some (r, T &&& (r ^^^ (-1))) := by
  have hm := G.1
  have hk := gLk_of (s := s) (b := b) G ha
  generalize hL : xPL e m s a b = L at *
  unfold xfind
  rw [if_pos rfl]
  have q2 := xq2_spec G hk L.length (Nat.le_refl _)
  by_cases c : T = 0
  · rw [if_pos c]
    have nop := h0 c
    rcases q2 with ⟨z1, z2⟩ | ⟨i, j, z1, z2, z3, z4, z5⟩
    · rw [z1, if_pos rfl]
    · exfalso
      obtain ⟨p, hp, e1⟩ := hk.1 i z1
      obtain ⟨q, hq, e2⟩ := hk.1 j z2
      rw [e1, e2] at z3
      exact nop ⟨p, q, hp, hq, (gm_disj G hp.1 hq.1).mp z3⟩
  · rw [if_neg c]
    obtain ⟨X, Y, hXY, eT, hmin⟩ := h1 c
    obtain ⟨iX, hiX, eX⟩ := hk.2.1 X hXY.1
    obtain ⟨iY, hiY, eY⟩ := hk.2.1 Y hXY.2.1
    have dXY : gm X &&& gm Y = 0 := (gm_disj G hXY.1.1 hXY.2.1.1).mpr hXY.2.2
    have both : (xq2 (xLS L) (xLZ l m L) L.length).1 = T := by
      have pick : ∀ (P : Nat → Nat → Prop), (∀ i j, P i j → P j i) → ∀ i j, ¬ i = j → (∀ i j, j < i → P i j) → P i j := by
        intro P hs i j hne h
        by_cases q : j < i
        · exact h i j q
        · exact hs j i (h j i (by omega))
      have nXY : ¬ iX = iY := (gLk_ne G hab hk hiX hiY (by rw [eX, eY]; exact dXY)).1
      rcases q2 with ⟨z1, z2⟩ | ⟨i, j, z1, z2, z3, z4, z5⟩
      · exfalso
        by_cases q : iY < iX
        · exact z2 iX iY ⟨q, hiX⟩ (by rw [eX, eY]; exact dXY)
        · exact z2 iY iX ⟨by omega, hiY⟩ (by rw [eX, eY, Int32.and_comm]; exact dXY)
      · have w1 : gW l m (xLS L i ||| xLS L j) ≤ gW l m T := by
          by_cases q : iY < iX
          · have := z5 iX iY ⟨q, hiX⟩ (by rw [eX, eY]; exact dXY)
            rw [eX, eY] at this
            rw [eT]; exact this
          · have := z5 iY iX ⟨by omega, hiY⟩ (by rw [eX, eY, Int32.and_comm]; exact dXY)
            rw [eX, eY, Int32.or_comm (gm Y)] at this
            rw [eT]; exact this
        obtain ⟨p, hp, e1⟩ := hk.1 i z1
        obtain ⟨q, hq, e2⟩ := hk.1 j z2
        have w2 := hmin p q ⟨hp, hq, (gm_disj G hp.1 hq.1).mp (by rw [← e1, ← e2]; exact z3)⟩
        rw [z4]
        show xLS L i ||| xLS L j = T
        rw [e1, e2] at w1 ⊢
        rw [eT] at w1 ⊢
        exact gW_inj (l := l) hm (xlow_or (gm_plow G hp.1) (gm_plow G hq.1)) (xlow_or (gm_plow G hXY.1.1) (gm_plow G hXY.2.1.1)) (by omega)
    rw [both, if_neg c]
    -- the path that the class takes
    have exT : ∃ p, gp e m (xb T) a b p := ⟨X, gw_subp X a b (fun f hf => by
      rw [eT, xb_or _ _ (by have := (gw_mem X a b hXY.1.1 f hf).1; omega), gm_b (gp_32 G hXY.1.1) (by have := (gw_mem X a b hXY.1.1 f hf).1; omega), decide_eq_true hf]
      rfl) hXY.1.1, hXY.1.2⟩
    have hr : ¬ r = 0 := fun q => r0 c q exT
    obtain ⟨P, hP, eP, hPmin⟩ := r1 c hr
    have hPX : gp e m (xb (gm X ||| gm Y)) a b P := by rw [← eT]; exact hP
    obtain ⟨Zl, hPZ, eZ⟩ := g_part G hXY hmin hPX
    have inT : ∀ (A B : List Nat), gpp e m (xb s) a b A B → T = gm A ||| gm B → gp e m (xb T) a b A ∧ gp e m (xb T) a b B := by
      intro A B hAB eAB
      refine ⟨⟨gw_subp A a b (fun f hf => ?_) hAB.1.1, hAB.1.2⟩, ⟨gw_subp B a b (fun f hf => ?_) hAB.2.1.1, hAB.2.1.2⟩⟩
      · have hfm := (gw_mem A a b hAB.1.1 f hf).1
        rw [eAB, xb_or _ _ (by omega), gm_b (gp_32 G hAB.1.1) (by omega), decide_eq_true hf]
        rfl
      · have hfm := (gw_mem B a b hAB.2.1.1 f hf).1
        rw [eAB, xb_or _ _ (by omega), gm_b (gp_32 G hAB.2.1.1) (by omega), decide_eq_true hf, Bool.or_true]
    obtain ⟨i1, hi1, e1⟩ := hk.2.1 P hPZ.1
    obtain ⟨i2, hi2, e2⟩ := hk.2.1 Zl hPZ.2.1
    have dPZ : gm P &&& gm Zl = 0 := (gm_disj G hPZ.1.1 hPZ.2.1.1).mpr hPZ.2.2
    have nPZ := gLk_ne G hab hk hi1 hi2 (by rw [e1, e2]; exact dPZ)
    have cand : xpt (xLS L) (xLZ l m L) T i1 i2 := by
      refine ⟨⟨nPZ.1, by rw [e1, e2]; exact dPZ, by rw [e1, e2, eT, eZ]⟩, (hk.2.2.2.2 i1 i2 hi1 hi2).mpr ?_⟩
      have w := hPmin Zl (inT P Zl hPZ (eT.trans eZ)).2
      have nn := nPZ.2
      rw [e1, e2] at nn ⊢
      omega
    rcases xq4_spec hk (both := T) L.length (Nat.le_refl _) with ⟨k1, k2⟩ | ⟨x, k1, k2, ⟨y, k3, k4⟩, k5⟩
    · exact absurd cand (k2 i1 i2 ⟨hi1, hi2⟩)
    · have w1 := k5 i1 i2 ⟨hi1, hi2⟩ cand
      obtain ⟨A, hA, eA⟩ := hk.1 x k2
      obtain ⟨B, hB, eB⟩ := hk.1 y k3
      have hAB : gpp e m (xb s) a b A B := ⟨hA, hB, (gm_disj G hA.1 hB.1).mp (by rw [← eA, ← eB]; exact k4.1.2.1)⟩
      have w2 := hPmin A (inT A B hAB (by rw [← eA, ← eB]; exact k4.1.2.2.symm)).1
      have eAP : gm A = gm P := by
        rw [eA, e1] at w1
        exact gW_inj (l := l) hm (gm_plow G hA.1) (gm_plow G hP.1) (by omega)
      rw [k1]
      show some (xLS L x, T &&& (xLS L x ^^^ -1)) = _
      rw [eA, eAP, eP]
/-- what is found are paths -/
theorem g_found (G : gG e l m n) (ha : a < n) (hab : ¬ a = b) {pair : Bool} {wk sp : Int32} (h : xfind l m (xPL e m s a b) pair = some (wk, sp)) : (∃ P, gp e m (xb s) a b P ∧ wk = gm P) ∧ (pair = true → ∃ P, gp e m (xb s) a b P ∧ sp = gm P) ∧ (pair = false → sp = 0) := by
  have hm := G.1
  have hk := gLk_of (s := s) (b := b) G ha
  generalize hL : xPL e m s a b = L at *
  unfold xfind at h
  cases pair with
  | false =>
    rw [if_neg (by decide)] at h
    cases hx : xfp (xLS L) (xLZ l m L) L.length with
    | none => rw [hx] at h; cases h
    | some i =>
      rw [hx] at h
      have hi := xfp_lt _ _ _ _ hx
      obtain ⟨p, hp, e1⟩ := hk.1 i hi
      have h : some (xLS L i, (0 : Int32)) = some (wk, sp) := h
      cases h
      exact ⟨⟨p, hp, e1⟩, fun q => (by cases q), fun _ => rfl⟩
  | true =>
    rw [if_pos rfl] at h
    by_cases c : (xq2 (xLS L) (xLZ l m L) L.length).1 = 0
    · rw [if_pos c] at h; cases h
    · rw [if_neg c] at h
      rcases xq4_spec hk (both := (xq2 (xLS L) (xLZ l m L) L.length).1) L.length (Nat.le_refl _) with ⟨k1, k2⟩ | ⟨x, k1, k2, ⟨y, k3, k4⟩, k5⟩
      · rw [k1] at h; cases h
      · rw [k1] at h
        have h : some (xLS L x, (xq2 (xLS L) (xLZ l m L) L.length).1 &&& (xLS L x ^^^ (-1))) = some (wk, sp) := h
        cases h
        obtain ⟨A, hA, eA⟩ := hk.1 x k2
        obtain ⟨B, hB, eB⟩ := hk.1 y k3
        refine ⟨⟨A, hA, eA⟩, fun _ => ⟨B, hB, ?_⟩, fun q => by cases q⟩
        rw [← k4.1.2.2]
        rw [← eB]
        have hd := k4.1.2.1
        refine xb_ext (fun f hf => ?_)
        have hdf : (xb (xLS L x) f && xb (xLS L y) f) = false := by rw [← xb_and _ _ hf, hd, xb_0]
        rw [xb_and _ _ hf, xb_or _ _ hf, xb_not _ hf]
        cases h1 : xb (xLS L x) f <;> cases h2 : xb (xLS L y) f
        · rfl
        · rfl
        · rfl
        · rw [h1, h2] at hdf; cases hdf
/-- bridge: the class's way and the model's -/
theorem g_bridge (G : gG e l m n) (ha : a < n) (hab : ¬ a = b) {p : List Nat} (hp : gp e m (xb s) a b p) {f : Nat} (hf : f < m) : xb (xshr s (xLS (xPL e m s a b)) (xPL e m s a b).length) f = true ↔ (f ∈ p ∧ ¬ ∃ q, gp e m (xb (s ^^^ xbt f)) a b q) := by
  have hm := G.1
  have hk := gLk_of (s := s) (b := b) G ha
  generalize hL : xPL e m s a b = L at *
  have bits : ∀ k, xb (xshr s (xLS L) k) f = true ↔ (xb s f = true ∧ ∀ i, i < k → xb (xLS L i) f = true) := by
    intro k
    induction k with
    | zero => exact ⟨fun h => ⟨h, fun i hi => by omega⟩, fun h => h.1⟩
    | succ k ih =>
      unfold xshr
      rw [xb_and _ _ (by omega), Bool.and_eq_true, ih]
      constructor
      · rintro ⟨⟨h1, h2⟩, h3⟩
        refine ⟨h1, fun i hi => ?_⟩
        by_cases q : i = k
        · rw [q]; exact h3
        · exact h2 i (by omega)
      · rintro ⟨h1, h2⟩
        exact ⟨⟨h1, fun i hi => h2 i (by omega)⟩, h2 k (by omega)⟩
  rw [bits]
  have out : ∀ (q : List Nat), gp e m (xb (s ^^^ xbt f)) a b q → xb s f = true → gp e m (xb s) a b q ∧ ¬ f ∈ q := by
    intro q hq hs
    have h1 : ∀ g, g ∈ q → xb s g = true ∧ ¬ g = f := by
      intro g hg
      have hgm := gw_mem q a b hq.1 g hg
      have h2 := hgm.2
      have := hgm.1
      rw [xb_xor _ _ (by omega), xb_bt (by omega) (by omega)] at h2
      by_cases c : g = f
      · rw [c, hs, decide_eq_true rfl] at h2; cases h2
      · rw [decide_eq_false c, Bool.xor_false] at h2
        exact ⟨h2, c⟩
    exact ⟨⟨gw_subp q a b (fun g hg => (h1 g hg).1) hq.1, hq.2⟩, fun z => (h1 f z).2 rfl⟩
  constructor
  · rintro ⟨h1, h2⟩
    have all : ∀ q, gp e m (xb s) a b q → f ∈ q := by
      intro q hq
      obtain ⟨i, hi, e1⟩ := hk.2.1 q hq
      have := h2 i hi
      rw [e1, gm_b (gp_32 G hq.1) (by omega)] at this
      exact of_decide_eq_true this
    refine ⟨all p hp, fun ⟨q, hq⟩ => ?_⟩
    obtain ⟨o1, o2⟩ := out q hq h1
    exact o2 (all q o1)
  · rintro ⟨h1, h2⟩
    have hs := (gw_mem p a b hp.1 f h1).2
    refine ⟨hs, fun i hi => ?_⟩
    obtain ⟨q, hq, e1⟩ := hk.1 i hi
    rw [e1, gm_b (gp_32 G hq.1) (by omega)]
    apply Classical.byContradiction
    intro z
    have z : ¬ f ∈ q := fun y => z (decide_eq_true y)
    refine h2 ⟨q, gw_subp q a b (fun g hg => ?_) hq.1, hq.2⟩
    have hgm := gw_mem q a b hq.1 g hg
    have := hgm.1
    rw [xb_xor _ _ (by omega), xb_bt (by omega) (by omega), hgm.2, decide_eq_false (show ¬ g = f from fun y => z (y ▸ hg))]
    rfl
end GF
