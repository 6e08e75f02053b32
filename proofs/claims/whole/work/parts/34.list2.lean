/-! 34.list2: the listing's loop. -/
section XM4
theorem xpig : ∀ (n : Nat) (f : Nat → Nat), (∀ i, i < n + 1 → f i < n) → ∃ i j, i < j ∧ j < n + 1 ∧ f i = f j := by
  intro n
  induction n with
  | zero => intro f h; exact absurd (h 0 (by omega)) (by omega)
  | succ n ih =>
    intro f h
    by_cases hx : ∃ i, i < n + 1 ∧ f i = f (n + 1)
    · obtain ⟨i, h1, h2⟩ := hx
      exact ⟨i, n + 1, h1, by omega, h2⟩
    · obtain ⟨i, j, h1, h2, h3⟩ := ih (fun i => if f i = n then f (n + 1) else f i) (fun i hi => by
        have q := h i (by omega)
        by_cases e : f i = n
        · rw [if_pos e]
          have := h (n + 1) (by omega)
          have : ¬ f i = f (n + 1) := fun z => hx ⟨i, hi, z⟩
          omega
        · rw [if_neg e]
          omega)
      refine ⟨i, j, h1, by omega, ?_⟩
      by_cases e1 : f i = n <;> by_cases e2 : f j = n
      · omega
      · rw [if_pos e1, if_neg e2] at h3
        exact absurd ⟨j, h2, h3.symm⟩ hx
      · rw [if_neg e1, if_pos e2] at h3
        exact absurd ⟨i, by omega, h3⟩ hx
      · rw [if_neg e1, if_neg e2] at h3
        exact h3
theorem xpig7 {sA : Nat → Nat} {dp : Nat} (hdp : 6 ≤ dp) (h1 : ∀ j, sA j < 7) (h2 : ∀ i j, i ≤ dp → j ≤ dp → sA i = sA j → i = j) {t : Nat} (ht : t < 7) : ∃ j, j ≤ dp ∧ sA j = t := by
  apply Classical.byContradiction
  intro hn
  have hne : ∀ j, j ≤ dp → ¬ sA j = t := fun j hj q => hn ⟨j, hj, q⟩
  obtain ⟨i, j, q1, q2, q3⟩ := xpig 6 (fun i => if t < sA i then sA i - 1 else sA i) (fun i hi => by
    have a := h1 i
    have b := hne i (by omega)
    by_cases c : t < sA i
    · rw [if_pos c]; omega
    · rw [if_neg c]; omega)
  have a := hne i (by omega)
  have b := hne j (by omega)
  have : sA i = sA j := by
    by_cases c1 : t < sA i <;> by_cases c2 : t < sA j
    · rw [if_pos c1, if_pos c2] at q3; omega
    · rw [if_pos c1, if_neg c2] at q3; omega
    · rw [if_neg c1, if_pos c2] at q3; omega
    · rw [if_neg c1, if_neg c2] at q3; omega
  have := h2 i j (by omega) (by omega) this
  omega
/-- the sets of the paths from place dp of the way on: depth first -/
def xdl (e : Nat → Nat) (m : Nat) (s : Int32) (b : Nat) : Nat → (Nat → Nat) → Nat → Int32 → List Int32
  | 0, sA, dp, p => if sA dp = b then [p] else []
  | n + 1, sA, dp, p => if sA dp = b then [p] else (List.range' 0 m).flatMap (fun f => match xld e s sA dp f with
    | none => []
    | some t => xdl e m s b n (xup sA (dp + 1) t) (dp + 1) (p ||| xbt f))
/-- .. from fibre f on -/
def xdk (e : Nat → Nat) (m : Nat) (s : Int32) (b : Nat) : Nat → (Nat → Nat) → Nat → Int32 → Nat → Nat → List Int32
  | 0, _, _, _, _, _ => []
  | n + 1, sA, dp, p, f, k => (List.range' f k).flatMap (fun f => match xld e s sA dp f with
    | none => []
    | some t => xdl e m s b n (xup sA (dp + 1) t) (dp + 1) (p ||| xbt f))
theorem xdl_k (e : Nat → Nat) (m : Nat) (s : Int32) (b n : Nat) (sA : Nat → Nat) (dp : Nat) (p : Int32) : xdl e m s b n sA dp p = if sA dp = b then [p] else xdk e m s b n sA dp p 0 m := by
  cases n <;> rfl
theorem xfst_congr {p q : Nat → Bool} : ∀ (n i : Nat), (∀ j, i ≤ j → j < i + n → p j = q j) → xfst p n i = xfst q n i := by
  intro n
  induction n with
  | zero => intro i h; rfl
  | succ n ih =>
    intro i h
    unfold xfst
    rw [h i (by omega) (by omega), ih (i + 1) (fun j h1 h2 => h j (by omega) (by omega))]
theorem xld_congr {e : Nat → Nat} {s : Int32} {sA sB : Nat → Nat} {dp f : Nat} (h : ∀ j, j ≤ dp → sA j = sB j) : xld e s sA dp f = xld e s sB dp f := by
  unfold xld
  rw [h dp (by omega), xfst_congr (dp + 1) 0 (fun j _ h2 => by rw [h j (by omega)])]
theorem xdl_congr {e : Nat → Nat} {m : Nat} {s : Int32} {b : Nat} : ∀ (n : Nat) (sA sB : Nat → Nat) (dp : Nat) (p : Int32), (∀ j, j ≤ dp → sA j = sB j) → xdl e m s b n sA dp p = xdl e m s b n sB dp p := by
  intro n
  induction n with
  | zero =>
    intro sA sB dp p h
    unfold xdl
    rw [h dp (by omega)]
  | succ n ih =>
    intro sA sB dp p h
    unfold xdl
    rw [h dp (by omega)]
    congr 1
    congr 1
    funext f
    rw [xld_congr h]
    cases xld e s sB dp f with
    | none => rfl
    | some t =>
      refine ih _ _ _ _ (fun j hj => ?_)
      unfold xup
      by_cases c : j = dp + 1
      · rw [if_pos c, if_pos c]
      · rw [if_neg c, if_neg c]
        exact h j (by omega)
theorem xdk_congr {e : Nat → Nat} {m : Nat} {s : Int32} {b n : Nat} {sA sB : Nat → Nat} {dp : Nat} {p : Int32} {f k : Nat} (h : ∀ j, j ≤ dp → sA j = sB j) : xdk e m s b n sA dp p f k = xdk e m s b n sB dp p f k := by
  cases n with
  | zero => rfl
  | succ n =>
    show List.flatMap _ _ = List.flatMap _ _
    congr 1
    funext f
    rw [xld_congr h]
    cases xld e s sB dp f with
    | none => rfl
    | some t =>
      refine xdl_congr n _ _ _ _ (fun j hj => ?_)
      unfold xup
      by_cases c : j = dp + 1
      · rw [if_pos c, if_pos c]
      · rw [if_neg c, if_neg c]
        exact h j (by omega)
theorem xdk_0 (e : Nat → Nat) (m : Nat) (s : Int32) (b n : Nat) (sA : Nat → Nat) (dp : Nat) (p : Int32) (f : Nat) : xdk e m s b n sA dp p f 0 = [] := by
  cases n <;> rfl
theorem xdk_s (e : Nat → Nat) (m : Nat) (s : Int32) (b n : Nat) (sA : Nat → Nat) (dp : Nat) (p : Int32) (f k : Nat) : xdk e m s b (n + 1) sA dp p f (k + 1) = (match xld e s sA dp f with
    | none => []
    | some t => xdl e m s b n (xup sA (dp + 1) t) (dp + 1) (p ||| xbt f)) ++ xdk e m s b (n + 1) sA dp p (f + 1) k := by
  show List.flatMap _ (List.range' f (k + 1)) = _
  rw [List.range'_succ, List.flatMap_cons]
  rfl
theorem xld_some {e : Nat → Nat} {s : Int32} {sA : Nat → Nat} {dp f t : Nat} (h : xld e s sA dp f = some t) : xb s f = true ∧ (e (2 * f) = sA dp ∨ e (2 * f + 1) = sA dp) ∧ t = xoth e f (sA dp) ∧ ∀ j, j ≤ dp → ¬ sA j = t := by
  unfold xld at h
  by_cases c : xb s f = true ∧ (e (2 * f) = sA dp ∨ e (2 * f + 1) = sA dp) ∧ xfst (fun j => decide (sA j = xoth e f (sA dp))) (dp + 1) 0 = none
  · rw [if_pos c] at h
    cases h
    exact ⟨c.1, c.2.1, rfl, fun j hj q => by
      have := xfst_none _ _ c.2.2 j (by omega) (by omega)
      rw [decide_eq_true q] at this
      cases this⟩
  · rw [if_neg c] at h
    cases h
end XM4
