/-! 58.list4: the model's list holds the paths, and is short. Pure. -/
section GL
variable {e l : Nat → Nat} {m n a b : Nat} {s : Int32}
theorem xdl_sound : ∀ (k : Nat) (sA : Nat → Nat) (dp : Nat) (p x : Int32), (∀ j, j < dp → ¬ sA j = sA dp) → x ∈ xdl e m s b k sA dp p → ∃ q, gw e m (xb s) (sA dp) q b ∧ (gv e (sA dp) q).Nodup ∧ (∀ y, y ∈ gv e (sA dp) q → ∀ j, j < dp → ¬ sA j = y) ∧ x = p ||| gm q := by
  have stop : ∀ (sA : Nat → Nat) (dp : Nat) (p x : Int32), (∀ j, j < dp → ¬ sA j = sA dp) → sA dp = b → x ∈ [p] → ∃ q, gw e m (xb s) (sA dp) q b ∧ (gv e (sA dp) q).Nodup ∧ (∀ y, y ∈ gv e (sA dp) q → ∀ j, j < dp → ¬ sA j = y) ∧ x = p ||| gm q := by
    intro sA dp p x hj c hx
    refine ⟨[], c, List.nodup_cons.mpr ⟨List.not_mem_nil, List.nodup_nil⟩, fun y hy j hj2 => ?_, ?_⟩
    · rw [List.mem_singleton.mp hy]
      exact hj j hj2
    · rw [List.mem_singleton.mp hx]
      show p = p ||| 0
      exact Int32.or_zero.symm
  intro k
  induction k with
  | zero =>
    intro sA dp p x hj hx
    unfold xdl at hx
    by_cases c : sA dp = b
    · rw [if_pos c] at hx
      exact stop sA dp p x hj c hx
    · rw [if_neg c] at hx
      cases hx
  | succ k ih =>
    intro sA dp p x hj hx
    unfold xdl at hx
    by_cases c : sA dp = b
    · rw [if_pos c] at hx
      exact stop sA dp p x hj c hx
    · rw [if_neg c, List.mem_flatMap] at hx
      obtain ⟨f, hf, hx⟩ := hx
      rw [List.mem_range'_1] at hf
      cases hl : xld e s sA dp f with
      | none => rw [hl] at hx; cases hx
      | some t =>
        rw [hl] at hx
        simp only at hx
        obtain ⟨x1, x2, x3, x4⟩ := xld_some hl
        have key : ∀ j, j < dp + 1 → xup sA (dp + 1) t j = sA j := fun j hj => xup_n _ _ (by omega)
        obtain ⟨q, q1, q2, q3, q4⟩ := ih (xup sA (dp + 1) t) (dp + 1) (p ||| xbt f) x (fun j hj2 => by rw [key j hj2, xup_s]; exact x4 j (by omega)) hx
        rw [xup_s] at q1 q2 q3
        refine ⟨f :: q, ⟨by omega, x1, x2, by rw [← x3]; exact q1⟩, ?_, ?_, ?_⟩
        · show (sA dp :: gv e (xoth e f (sA dp)) q).Nodup
          rw [← x3, List.nodup_cons]
          refine ⟨fun z => q3 _ z dp (by omega) (key dp (by omega)), q2⟩
        · intro y hy j hj2
          have hy : y ∈ sA dp :: gv e (xoth e f (sA dp)) q := hy
          rcases List.mem_cons.mp hy with z | z
          · rw [z]; exact hj j hj2
          · rw [← x3] at z
            have := q3 y z j (by omega)
            rw [key j (by omega)] at this
            exact this
        · rw [q4]
          show (p ||| xbt f) ||| gm q = p ||| (xbt f ||| gm q)
          exact Int32.or_assoc _ _ _
theorem xdl_all : ∀ (k : Nat) (q : List Nat) (sA : Nat → Nat) (dp : Nat) (p : Int32), gw e m (xb s) (sA dp) q b → (gv e (sA dp) q).Nodup → (∀ y, y ∈ gv e (sA dp) q → ∀ j, j < dp → ¬ sA j = y) → q.length ≤ k → (p ||| gm q) ∈ xdl e m s b k sA dp p := by
  intro k
  induction k with
  | zero =>
    intro q sA dp p h1 h2 h3 h4
    have : q = [] := List.length_eq_zero_iff.mp (by omega)
    subst this
    unfold xdl
    rw [if_pos (show sA dp = b from h1)]
    show (p ||| 0) ∈ [p]
    rw [Int32.or_zero]
    exact List.mem_singleton.mpr rfl
  | succ k ih =>
    intro q sA dp p h1 h2 h3 h4
    cases q with
    | nil =>
      unfold xdl
      rw [if_pos (show sA dp = b from h1)]
      show (p ||| 0) ∈ [p]
      rw [Int32.or_zero]
      exact List.mem_singleton.mpr rfl
    | cons f q =>
      have h2 : (sA dp :: gv e (xoth e f (sA dp)) q).Nodup := h2
      rw [List.nodup_cons] at h2
      have hne : ¬ sA dp = b := fun z => h2.1 (by have hb := gv_last (e := e) q _ b h1.2.2.2; rw [← z] at hb; exact hb)
      have hav : ∀ y, y ∈ gv e (xoth e f (sA dp)) q → ∀ j, j < dp + 1 → ¬ sA j = y := by
        intro y hy j hj z
        by_cases c : j = dp
        · subst c
          exact h2.1 (z ▸ hy)
        · exact h3 y (List.mem_cons_of_mem _ hy) j (by omega) z
      have hl : xld e s sA dp f = some (xoth e f (sA dp)) := by
        unfold xld
        refine if_pos ⟨h1.2.1, h1.2.2.1, ?_⟩
        cases hx : xfst (fun j => decide (sA j = xoth e f (sA dp))) (dp + 1) 0 with
        | none => rfl
        | some j =>
          have sp := xfst_spec _ _ _ hx
          exact absurd (of_decide_eq_true sp.2.2.1) (hav _ (gv_hd _ _) j (by omega))
      unfold xdl
      rw [if_neg hne, List.mem_flatMap]
      refine ⟨f, List.mem_range'_1.mpr ⟨by omega, by have := h1.1; omega⟩, ?_⟩
      rw [hl]
      simp only
      have key : ∀ j, j < dp + 1 → xup sA (dp + 1) (xoth e f (sA dp)) j = sA j := fun j hj => xup_n _ _ (by omega)
      have := ih q (xup sA (dp + 1) (xoth e f (sA dp))) (dp + 1) (p ||| xbt f) (by rw [xup_s]; exact h1.2.2.2) (by rw [xup_s]; exact h2.2) (fun y hy j hj => by rw [xup_s] at hy; rw [key j hj]; exact hav y hy j hj) (by simp at h4; omega)
      rw [Int32.or_assoc] at this
      exact this
/-- the list holds the sets of the paths -/
theorem xPL_mem (G : gG e l m n) (ha : a < n) (x : Int32) : x ∈ xPL e m s a b ↔ ∃ p, gp e m (xb s) a b p ∧ x = gm p := by
  constructor
  · intro hx
    obtain ⟨q, q1, q2, q3, q4⟩ := xdl_sound 6 (fun _ => a) 0 0 x (fun j hj => by omega) hx
    refine ⟨q, ⟨q1, q2⟩, ?_⟩
    rw [q4]
    exact Int32.zero_or
  · rintro ⟨p, hp, rfl⟩
    have hl := gp_len (fun f hf => ⟨(G.2.2 f hf).1, (G.2.2 f hf).2.1⟩) hp.1 hp.2 ha
    have := xdl_all (s := s) 6 p (fun _ => a) 0 0 hp.1 hp.2 (fun y _ j hj => by omega) (by have := G.2.1; omega)
    rw [Int32.zero_or] at this
    exact this
/-- sums of numbers -/
def ns (g : Nat → Nat) : Nat → Nat
  | 0 => 0
  | n + 1 => ns g n + g n
theorem ns_le {g g' : Nat → Nat} : ∀ k, (∀ i, i < k → g i ≤ g' i) → ns g k ≤ ns g' k
  | 0, _ => Nat.le_refl _
  | k + 1, h => by
    have h1 := ns_le k (fun i hi => h i (by omega))
    have h2 := h k (by omega)
    show ns g k + g k ≤ ns g' k + g' k
    omega
theorem ns_congr {g g' : Nat → Nat} : ∀ k, (∀ i, i < k → g i = g' i) → ns g k = ns g' k
  | 0, _ => rfl
  | k + 1, h => by
    show ns g k + g k = ns g' k + g' k
    rw [ns_congr k (fun i hi => h i (by omega)), h k (by omega)]
theorem ns_add (g g' : Nat → Nat) : ∀ k, ns (fun i => g i + g' i) k = ns g k + ns g' k
  | 0 => rfl
  | k + 1 => by
    have h1 := ns_add g g' k
    show ns (fun i => g i + g' i) k + (g k + g' k) = ns g k + g k + (ns g' k + g' k)
    omega
theorem ns_comm (g : Nat → Nat → Nat) (k : Nat) : ∀ j, ns (fun i => ns (g i) k) j = ns (fun y => ns (fun i => g i y) j) k
  | 0 => by
    show 0 = ns (fun _ => 0) k
    induction k with
    | zero => rfl
    | succ k ih => show 0 = ns (fun _ => 0) k + 0; omega
  | j + 1 => by
    show ns (fun i => ns (g i) k) j + ns (g j) k = ns (fun y => ns (fun i => g i y) j + g j y) k
    rw [ns_comm g k j, ns_add]
theorem ns_one {x : Nat} : ∀ k, ns (fun i => if i = x then 1 else 0) k ≤ 1 := by
  have aux : ∀ k, k ≤ x → ns (fun i => if i = x then 1 else 0) k = 0 := by
    intro k
    induction k with
    | zero => intro _; rfl
    | succ k ih =>
      intro hk
      show ns (fun i => if i = x then 1 else 0) k + (if k = x then 1 else 0) = 0
      rw [ih (by omega), if_neg (by omega)]
  intro k
  induction k with
  | zero => exact Nat.zero_le _
  | succ k ih =>
    show ns (fun i => if i = x then 1 else 0) k + (if k = x then 1 else 0) ≤ 1
    by_cases c : k = x
    · rw [if_pos c, aux k (by omega)]; omega
    · rw [if_neg c]; exact ih
/-- at how many of the fibres v ends -/
def gdg (e : Nat → Nat) (m v : Nat) : Nat := ns (fun f => if e (2 * f) = v ∨ e (2 * f + 1) = v then 1 else 0) m
theorem gdg_sum (k : Nat) : ns (fun v => gdg e m v) k ≤ 2 * m := by
  have h1 : ns (fun v => gdg e m v) k = ns (fun f => ns (fun v => if e (2 * f) = v ∨ e (2 * f + 1) = v then 1 else 0) k) m := ns_comm (fun v f => if e (2 * f) = v ∨ e (2 * f + 1) = v then 1 else 0) m k
  rw [h1]
  have h2 : ns (fun f => ns (fun v => if e (2 * f) = v ∨ e (2 * f + 1) = v then 1 else 0) k) m ≤ ns (fun _ => 2) m := by
    refine ns_le m (fun f _ => ?_)
    have h3 : ns (fun v => if e (2 * f) = v ∨ e (2 * f + 1) = v then 1 else 0) k ≤ ns (fun v => (if v = e (2 * f) then 1 else 0) + (if v = e (2 * f + 1) then 1 else 0)) k := by
      refine ns_le k (fun v _ => ?_)
      by_cases c1 : e (2 * f) = v
      · rw [if_pos (Or.inl c1), if_pos c1.symm]; omega
      · by_cases c2 : e (2 * f + 1) = v
        · rw [if_pos (Or.inr c2), if_pos c2.symm]; omega
        · rw [if_neg (fun q => by rcases q with q | q; exact c1 q; exact c2 q)]; omega
    rw [ns_add] at h3
    have := ns_one (x := e (2 * f)) k
    have := ns_one (x := e (2 * f + 1)) k
    omega
  have h4 : ∀ j, ns (fun _ => 2) j = 2 * j := by
    intro j
    induction j with
    | zero => rfl
    | succ j ih => show ns (fun _ => 2) j + 2 = _; omega
  rw [h4] at h2
  exact h2
/-- the ends at the sites that are not on the way yet -/
def gE (e : Nat → Nat) (m : Nat) (V : Nat → Bool) (k : Nat) : Nat := ns (fun v => if V v = true then 0 else gdg e m v) k
theorem gE_put {V V' : Nat → Bool} {t : Nat} (h1 : V t = false) (h2 : V' t = true) (h3 : ∀ v, ¬ v = t → V' v = V v) : ∀ k, gE e m V k = gE e m V' k + (if t < k then gdg e m t else 0) := by
  intro k
  induction k with
  | zero => rfl
  | succ k ih =>
    show gE e m V k + (if V k = true then 0 else gdg e m k) = gE e m V' k + (if V' k = true then 0 else gdg e m k) + _
    by_cases c : k = t
    · subst c
      have e1 : (if V k = true then 0 else gdg e m k) = gdg e m k := if_neg (by rw [h1]; decide)
      have e2 : (if V' k = true then 0 else gdg e m k) = 0 := if_pos h2
      have e3 : (if k < k then gdg e m k else 0) = 0 := if_neg (Nat.lt_irrefl k)
      have e4 : (if k < k + 1 then gdg e m k else 0) = gdg e m k := if_pos (Nat.lt_succ_self k)
      rw [e1, e2, e4, ih, e3]
    · rw [ih, h3 k c]
      by_cases c2 : t < k
      · have e3 : (if t < k then gdg e m t else 0) = gdg e m t := if_pos c2
        have e4 : (if t < k + 1 then gdg e m t else 0) = gdg e m t := if_pos (by omega)
        rw [e3, e4]
        omega
      · have e3 : (if t < k then gdg e m t else 0) = 0 := if_neg c2
        have e4 : (if t < k + 1 then gdg e m t else 0) = 0 := if_neg (by omega)
        rw [e3, e4]
        omega
theorem g43 : ∀ z, (z - 1) * 3 ^ z ≤ 4 ^ z := by
  intro z
  have key : ∀ k, (k + 4) * 3 ^ (k + 5) ≤ 4 ^ (k + 5) := by
    intro k
    induction k with
    | zero => decide
    | succ k ih =>
      have h1 : 3 ^ (k + 1 + 5) = 3 * 3 ^ (k + 5) := by rw [show k + 1 + 5 = (k + 5) + 1 by omega, Nat.pow_succ]; omega
      have h2 : 4 ^ (k + 1 + 5) = 4 * 4 ^ (k + 5) := by rw [show k + 1 + 5 = (k + 5) + 1 by omega, Nat.pow_succ]; omega
      rw [h1, h2]
      generalize 3 ^ (k + 5) = A at *
      generalize 4 ^ (k + 5) = B at *
      have h3 : (k + 1 + 4) * (3 * A) = 3 * ((k + 4) * A) + 3 * A := by
        rw [show k + 1 + 4 = (k + 4) + 1 by omega, Nat.add_mul, Nat.one_mul, Nat.mul_left_comm]
      have h4 : 4 * A ≤ (k + 4) * A := Nat.mul_le_mul_right _ (by omega)
      rw [h3]
      omega
  by_cases c : z < 5
  · have : z = 0 ∨ z = 1 ∨ z = 2 ∨ z = 3 ∨ z = 4 := by omega
    rcases this with rfl | rfl | rfl | rfl | rfl <;> decide
  · obtain ⟨k, rfl⟩ : ∃ k, z = k + 5 := ⟨z - 5, by omega⟩
    exact key k
theorem g6481 : ∀ y, 64 * (y * 3 ^ y) ≤ 81 * 4 ^ y := by
  intro y
  have key : ∀ k, 64 * ((k + 3) * 3 ^ (k + 3)) ≤ 81 * 4 ^ (k + 3) := by
    intro k
    induction k with
    | zero => decide
    | succ k ih =>
      have h1 : 3 ^ (k + 1 + 3) = 3 * 3 ^ (k + 3) := by rw [show k + 1 + 3 = (k + 3) + 1 by omega, Nat.pow_succ]; omega
      have h2 : 4 ^ (k + 1 + 3) = 4 * 4 ^ (k + 3) := by rw [show k + 1 + 3 = (k + 3) + 1 by omega, Nat.pow_succ]; omega
      rw [h1, h2]
      generalize 3 ^ (k + 3) = A at *
      generalize 4 ^ (k + 3) = B at *
      have h3 : (k + 1 + 3) * (3 * A) = 3 * ((k + 3) * A) + 3 * A := by
        rw [show k + 1 + 3 = (k + 3) + 1 by omega, Nat.add_mul, Nat.one_mul, Nat.mul_left_comm]
      have h4 : 3 * A ≤ (k + 3) * A := Nat.mul_le_mul_right _ (by omega)
      rw [h3]
      omega
  by_cases c : y < 3
  · have : y = 0 ∨ y = 1 ∨ y = 2 := by omega
    rcases this with rfl | rfl | rfl <;> decide
  · obtain ⟨k, rfl⟩ : ∃ k, y = k + 3 := ⟨y - 3, by omega⟩
    exact key k
theorem flat_len {α : Type} (F : Nat → List α) : ∀ k, ((List.range' 0 k).flatMap F).length = ns (fun f => (F f).length) k := by
  intro k
  induction k with
  | zero => rfl
  | succ k ih =>
    rw [List.range'_concat, List.flatMap_append, List.length_append, ih]
    show _ + ((F (0 + 1 * k) ++ []).length) = ns (fun f => (F f).length) k + (F k).length
    rw [List.append_nil, Nat.zero_add, Nat.one_mul]
/-- the fibres that lead on from here -/
def gld (e : Nat → Nat) (m : Nat) (s : Int32) (sA : Nat → Nat) (dp : Nat) : Nat := ns (fun f => if (xld e s sA dp f).isSome = true then 1 else 0) m
theorem gld_le (sA : Nat → Nat) (dp : Nat) : gld e m s sA dp ≤ gdg e m (sA dp) := by
  refine ns_le m (fun f _ => ?_)
  cases hx : xld e s sA dp f with
  | none => simp
  | some t =>
    rw [if_pos (xld_some hx).2.1]
    simp
/-- on the way: where one came from does not lead on -/
theorem gld_lt {sA : Nat → Nat} {dp f t : Nat} (hf : f < m) (hx : xld e s sA dp f = some t) : gld e m s (xup sA (dp + 1) t) (dp + 1) + 1 ≤ gdg e m t := by
  obtain ⟨x1, x2, x3, x4⟩ := xld_some hx
  have none_f : xld e s (xup sA (dp + 1) t) (dp + 1) f = none := by
    cases hy : xld e s (xup sA (dp + 1) t) (dp + 1) f with
    | none => rfl
    | some y =>
      exfalso
      obtain ⟨y1, y2, y3, y4⟩ := xld_some hy
      rw [xup_s] at y2 y3
      have : y = sA dp := by
        have h1 := (xoth_ends x2 y)
        have h2 := (xoth_ends y2 y)
        rw [← x3] at h1
        have h3 : y = t ∨ y = sA dp := by
          have := h2.mpr (Or.inr y3)
          rcases h1.mp this with z | z
          · exact Or.inr z
          · exact Or.inl z
        rcases h3 with z | z
        · exact absurd (by rw [xup_s]; exact z.symm) (y4 (dp + 1) (by omega))
        · exact z
      exact y4 dp (by omega) (by rw [xup_n _ _ (by omega)]; exact this.symm)
  have key : ns (fun g => (if (xld e s (xup sA (dp + 1) t) (dp + 1) g).isSome = true then 1 else 0) + (if g = f then 1 else 0)) m ≤ gdg e m t := by
    refine ns_le m (fun g _ => ?_)
    have ht : e (2 * f) = t ∨ e (2 * f + 1) = t := by
      have := (xoth_ends x2 t).mpr (Or.inr x3)
      rcases this with z | z
      · exact Or.inl z.symm
      · exact Or.inr z.symm
    by_cases c : g = f
    · subst c
      rw [none_f, if_pos rfl, if_pos ht]
      simp
    · rw [if_neg c]
      cases hy : xld e s (xup sA (dp + 1) t) (dp + 1) g with
      | none => simp
      | some y =>
        have := (xld_some hy).2.1
        rw [xup_s] at this
        rw [if_pos this]
        simp
  rw [ns_add] at key
  have one : ns (fun g => if g = f then 1 else 0) m = 1 := by
    have aux : ∀ k, ns (fun g => if g = f then 1 else 0) k = if f < k then 1 else 0 := by
      intro k
      induction k with
      | zero => rfl
      | succ k ih =>
        show ns (fun g => if g = f then 1 else 0) k + (if k = f then 1 else 0) = _
        rw [ih]
        by_cases c : k = f
        · subst c; rw [if_neg (by omega), if_pos rfl, if_pos (by omega)]
        · by_cases c2 : f < k
          · rw [if_pos c2, if_neg c, if_pos (by omega)]
          · rw [if_neg c2, if_neg c, if_neg (by omega)]
    rw [aux, if_pos hf]
  rw [one] at key
  exact key
/-- how many paths go on from here -/
theorem xdl_len (hE : ∀ f, f < m → e (2 * f) < 7 ∧ e (2 * f + 1) < 7) : ∀ (k : Nat) (sA : Nat → Nat) (dp : Nat) (p : Int32) (V : Nat → Bool), (∀ v, V v = true ↔ ∃ j, j ≤ dp ∧ sA j = v) → (sA dp = b → (xdl e m s b k sA dp p).length ≤ 1) ∧ (¬ sA dp = b → (xdl e m s b k sA dp p).length * 3 ^ gE e m V 7 ≤ gld e m s sA dp * 4 ^ gE e m V 7) := by
  intro k
  induction k with
  | zero =>
    intro sA dp p V hV
    refine ⟨fun c => ?_, fun c => ?_⟩
    · unfold xdl; rw [if_pos c]; exact Nat.le_refl _
    · unfold xdl; rw [if_neg c]; show 0 * _ ≤ _; omega
  | succ k ih =>
    intro sA dp p V hV
    refine ⟨fun c => ?_, fun c => ?_⟩
    · unfold xdl; rw [if_pos c]; exact Nat.le_refl _
    · unfold xdl
      rw [if_neg c, flat_len]
      have each : ∀ f, f < m → (match xld e s sA dp f with | none => [] | some t => xdl e m s b k (xup sA (dp + 1) t) (dp + 1) (p ||| xbt f)).length * 3 ^ gE e m V 7 ≤ (if (xld e s sA dp f).isSome = true then 1 else 0) * 4 ^ gE e m V 7 := by
        intro f hf
        cases hx : xld e s sA dp f with
        | none => show 0 * _ ≤ _; omega
        | some t =>
          obtain ⟨x1, x2, x3, x4⟩ := xld_some hx
          show (xdl e m s b k (xup sA (dp + 1) t) (dp + 1) (p ||| xbt f)).length * 3 ^ gE e m V 7 ≤ 1 * 4 ^ gE e m V 7
          have ht7 : t < 7 := by
            rw [x3]
            unfold xoth
            by_cases c : e (2 * f) = sA dp
            · rw [if_pos c]; exact (hE f hf).2
            · rw [if_neg c]; exact (hE f hf).1
          have hVt : V t = false := by
            cases hv : V t with
            | false => rfl
            | true =>
              obtain ⟨j, h1, h2⟩ := (hV t).mp hv
              exact absurd h2 (x4 j h1)
          have hV' : ∀ v, (V v || decide (v = t)) = true ↔ ∃ j, j ≤ dp + 1 ∧ xup sA (dp + 1) t j = v := by
            intro v
            rw [Bool.or_eq_true, decide_eq_true_iff, hV v]
            constructor
            · rintro (⟨j, h1, h2⟩ | h)
              · exact ⟨j, by omega, by rw [xup_n _ _ (by omega)]; exact h2⟩
              · exact ⟨dp + 1, by omega, by rw [xup_s]; exact h.symm⟩
            · rintro ⟨j, h1, h2⟩
              by_cases c : j = dp + 1
              · right; rw [c, xup_s] at h2; exact h2.symm
              · left; rw [xup_n _ _ c] at h2; exact ⟨j, by omega, h2⟩
          obtain ⟨i1, i2⟩ := ih (xup sA (dp + 1) t) (dp + 1) (p ||| xbt f) (fun v => V v || decide (v = t)) hV'
          rw [xup_s] at i1 i2
          by_cases cb : t = b
          · have h1 := i1 cb
            have h2 : 3 ^ gE e m V 7 ≤ 4 ^ gE e m V 7 := Nat.pow_le_pow_left (by omega) _
            have h3 := Nat.mul_le_mul_right (3 ^ gE e m V 7) h1
            omega
          · have h1 := i2 cb
            have h2 := gE_put (e := e) (m := m) (V := V) (V' := fun v => V v || decide (v = t)) (t := t) hVt (by simp) (fun v hv => by simp [hv]) 7
            rw [if_pos ht7] at h2
            rw [h2, Nat.pow_add, Nat.pow_add]
            have h3 := gld_lt hf hx
            have h4 := g43 (gdg e m t)
            generalize gE e m (fun v => V v || decide (v = t)) 7 = E at *
            generalize (xdl e m s b k (xup sA (dp + 1) t) (dp + 1) (p ||| xbt f)).length = Ln at *
            generalize gld e m s (xup sA (dp + 1) t) (dp + 1) = g at *
            generalize gdg e m t = z at *
            have h5 : g * 3 ^ z ≤ 4 ^ z := Nat.le_trans (Nat.mul_le_mul_right _ (by omega)) h4
            calc Ln * (3 ^ E * 3 ^ z) = Ln * 3 ^ E * 3 ^ z := (Nat.mul_assoc _ _ _).symm
              _ ≤ g * 4 ^ E * 3 ^ z := Nat.mul_le_mul_right _ h1
              _ = 4 ^ E * (g * 3 ^ z) := by rw [Nat.mul_comm g, Nat.mul_assoc]
              _ ≤ 4 ^ E * 4 ^ z := Nat.mul_le_mul_left _ h5
              _ = 1 * (4 ^ E * 4 ^ z) := (Nat.one_mul _).symm
      have sum : ∀ j, j ≤ m → ns (fun f => (match xld e s sA dp f with | none => [] | some t => xdl e m s b k (xup sA (dp + 1) t) (dp + 1) (p ||| xbt f)).length) j * 3 ^ gE e m V 7 ≤ ns (fun f => if (xld e s sA dp f).isSome = true then 1 else 0) j * 4 ^ gE e m V 7 := by
        intro j
        induction j with
        | zero => intro _; show 0 * _ ≤ 0 * _; omega
        | succ j ihj =>
          intro hj
          have h1 := ihj (by omega)
          have h2 := each j (by omega)
          show (ns _ j + _) * _ ≤ (ns _ j + _) * _
          rw [Nat.add_mul, Nat.add_mul]
          exact Nat.add_le_add h1 h2
      exact sum m (Nat.le_refl _)
/-- the list is short -/
theorem xPL_len (G : gG e l m n) (ha : a < n) (hab : ¬ a = b) : (xPL e m s a b).length ≤ 4000 := by
  have hm := G.1
  have h7 := G.2.1
  have hV : ∀ v, decide (v = a) = true ↔ ∃ j, j ≤ 0 ∧ (fun _ : Nat => a) j = v := by
    intro v
    rw [decide_eq_true_iff]
    exact ⟨fun h => ⟨0, Nat.le_refl _, h.symm⟩, fun ⟨_, _, h⟩ => h.symm⟩
  have h1 := (xdl_len (s := s) (b := b) (m := m) (e := e) (fun f hf => by have := G.2.2 f hf; omega) 6 (fun _ => a) 0 0 (fun v => decide (v = a)) hV).2 hab
  have h2 := gld_le (e := e) (m := m) (s := s) (fun _ => a) 0
  have h3 := gE_put (e := e) (m := m) (V := fun _ => false) (V' := fun v => decide (v = a)) (t := a) rfl (by simp) (fun v hv => by simp [hv]) 7
  rw [if_pos (by omega)] at h3
  have h4 : gE e m (fun _ => false) 7 ≤ 2 * m := by
    have : gE e m (fun _ => false) 7 = ns (fun v => gdg e m v) 7 := ns_congr 7 (fun v _ => by simp)
    rw [this]
    exact gdg_sum 7
  have h5 := g6481 (gdg e m a)
  show (xdl e m s b 6 (fun _ => a) 0 0).length ≤ 4000
  generalize (xdl e m s b 6 (fun _ => a) 0 0).length = Ln at *
  generalize gld e m s (fun _ => a) 0 = g at *
  have h2 : g ≤ gdg e m a := h2
  generalize gdg e m a = y at *
  generalize gE e m (fun v => decide (v = a)) 7 = E at *
  rw [h3] at h4
  obtain ⟨r, hr⟩ : ∃ r, E + y + r = 28 := ⟨28 - (E + y), by omega⟩
  have k1 : 64 * (Ln * 3 ^ (E + y)) ≤ 81 * 4 ^ (E + y) := by
    rw [Nat.pow_add, Nat.pow_add]
    calc 64 * (Ln * (3 ^ E * 3 ^ y)) = 64 * (Ln * 3 ^ E * 3 ^ y) := by rw [Nat.mul_assoc Ln]
      _ ≤ 64 * (g * 4 ^ E * 3 ^ y) := Nat.mul_le_mul_left _ (Nat.mul_le_mul_right _ h1)
      _ ≤ 64 * (y * 4 ^ E * 3 ^ y) := Nat.mul_le_mul_left _ (Nat.mul_le_mul_right _ (Nat.mul_le_mul_right _ h2))
      _ = 4 ^ E * (64 * (y * 3 ^ y)) := by rw [Nat.mul_comm y, Nat.mul_assoc, Nat.mul_left_comm]
      _ ≤ 4 ^ E * (81 * 4 ^ y) := Nat.mul_le_mul_left _ h5
      _ = 81 * (4 ^ E * 4 ^ y) := Nat.mul_left_comm _ _ _
  have k2 : 64 * (Ln * 3 ^ 28) ≤ 81 * 4 ^ 28 := by
    rw [← hr, Nat.pow_add 3, Nat.pow_add 4]
    have k3 : 3 ^ r ≤ 4 ^ r := Nat.pow_le_pow_left (by omega) _
    calc 64 * (Ln * (3 ^ (E + y) * 3 ^ r)) = 64 * (Ln * 3 ^ (E + y)) * 3 ^ r := by rw [← Nat.mul_assoc Ln, ← Nat.mul_assoc 64]
      _ ≤ 81 * 4 ^ (E + y) * 3 ^ r := Nat.mul_le_mul_right _ k1
      _ ≤ 81 * 4 ^ (E + y) * 4 ^ r := Nat.mul_le_mul_left _ k3
      _ = 81 * (4 ^ (E + y) * 4 ^ r) := Nat.mul_assoc _ _ _
  omega
end GL
