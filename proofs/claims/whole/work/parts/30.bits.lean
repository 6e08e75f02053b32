/-! 30.bits: sets of fibres as numbers. -/
section XB
theorem xsh_l : ∀ l, l < 32 → ((nI l &&& 31).toBitVec.smod 32).toNat = l := by decide +kernel
theorem xbt_l : ∀ l, l < 32 → ((1 : Int32) <<< (nI l &&& 31)).toBitVec = BitVec.twoPow 32 l := by decide +kernel
theorem xtp_l : ∀ l, l < 32 → BitVec.twoPow 32 l ≠ 0#32 := by decide +kernel
theorem xb_l (s : Int32) {f : Nat} (hf : f < 32) : xb s f = s.toBitVec.getLsbD f := by
  have e : (s &&& ((1 : Int32) <<< (nI f &&& 31)) = 0) ↔ s.toBitVec.getLsbD f = false := by
    rw [← Int32.toBitVec_inj, Int32.toBitVec_and, xbt_l f hf, BitVec.and_twoPow]
    cases hb : s.toBitVec.getLsbD f
    · simp
    · simpa using xtp_l f hf
  unfold xb
  cases hb : s.toBitVec.getLsbD f
  · exact decide_eq_false (fun q => q (e.mpr hb))
  · exact decide_eq_true (fun q => by rw [e.mp q] at hb; cases hb)
theorem xb_and (x y : Int32) {f : Nat} (hf : f < 32) : xb (x &&& y) f = (xb x f && xb y f) := by
  rw [xb_l _ hf, xb_l _ hf, xb_l _ hf, Int32.toBitVec_and, BitVec.getLsbD_and]
theorem xb_or (x y : Int32) {f : Nat} (hf : f < 32) : xb (x ||| y) f = (xb x f || xb y f) := by
  rw [xb_l _ hf, xb_l _ hf, xb_l _ hf, Int32.toBitVec_or, BitVec.getLsbD_or]
theorem xb_xor (x y : Int32) {f : Nat} (hf : f < 32) : xb (x ^^^ y) f = (xb x f ^^ xb y f) := by
  rw [xb_l _ hf, xb_l _ hf, xb_l _ hf, Int32.toBitVec_xor, BitVec.getLsbD_xor]
theorem xb_m1 : ∀ f, f < 32 → xb (-1) f = true := by decide +kernel
theorem xb_not (x : Int32) {f : Nat} (hf : f < 32) : xb (x ^^^ (-1)) f = !xb x f := by
  rw [xb_xor _ _ hf, xb_m1 f hf]
  simp
theorem xb_0 (f : Nat) : xb 0 f = false := by
  unfold xb
  simp
theorem xb_bt {f g : Nat} (hf : f < 32) (hg : g < 32) : xb (xbt g) f = decide (f = g) := by
  rw [xb_l _ hf, show (xbt g).toBitVec = _ from xbt_l g hg, BitVec.getLsbD_twoPow]
  by_cases h : f = g
  · subst h; simp [hf]
  · simp [h, Ne.symm h]
theorem xb_ext {x y : Int32} (h : ∀ f, f < 32 → xb x f = xb y f) : x = y :=
  Int32.toBitVec_inj.mp (BitVec.eq_of_getLsbD_eq (fun f hf => by rw [← xb_l _ hf, ← xb_l _ hf]; exact h f hf))
theorem xb_shr1 (s : Int32) {f : Nat} (hf : f < 32) : (s >>> (nI f &&& 31)) &&& 1 = xz (xb s f) := by
  refine xb_ext (fun g hg => ?_)
  rw [xb_and _ _ hg]
  have e1 : xb 1 g = decide (g = 0) := (by decide +kernel : ∀ g, g < 32 → xb 1 g = decide (g = 0)) g hg
  rw [e1]
  by_cases h0 : g = 0
  · subst h0
    have e : xb (s >>> (nI f &&& 31)) 0 = xb s f := by
      rw [xb_l _ (by omega), xb_l _ hf, Int32.toBitVec_shiftRight]
      show (s.toBitVec.sshiftRight ((nI f &&& 31).toBitVec.smod 32).toNat).getLsbD 0 = _
      rw [xsh_l f hf, BitVec.getLsbD_sshiftRight]
      simp [hf]
    rw [e]
    cases xb s f <;> decide
  · rw [decide_eq_false h0, Bool.and_false]
    cases xb s f
    · exact (xb_0 g).symm
    · exact ((by decide +kernel : ∀ g, g < 32 → ¬ g = 0 → false = xb 1 g) g hg h0)
/-- no bit from n on -/
def xlow (n : Nat) (s : Int32) : Prop := ∀ f, n ≤ f → f < 32 → xb s f = false
theorem xlow_0 (n : Nat) : xlow n 0 := fun f _ _ => xb_0 f
theorem xlow_and {n : Nat} {x y : Int32} (h : xlow n x) : xlow n (x &&& y) := fun f h1 h2 => by rw [xb_and _ _ h2, h f h1 h2]; rfl
theorem xlow_or {n : Nat} {x y : Int32} (h : xlow n x) (h' : xlow n y) : xlow n (x ||| y) := fun f h1 h2 => by rw [xb_or _ _ h2, h f h1 h2, h' f h1 h2]; rfl
theorem xlow_xor {n : Nat} {x y : Int32} (h : xlow n x) (h' : xlow n y) : xlow n (x ^^^ y) := fun f h1 h2 => by rw [xb_xor _ _ h2, h f h1 h2, h' f h1 h2]; rfl
theorem xlow_bt {n g : Nat} (h : g < n) (hn : n ≤ 32) : xlow n (xbt g) := fun f h1 h2 => by rw [xb_bt h2 (by omega), decide_eq_false (by omega)]
theorem xlow_up {n k : Nat} {x : Int32} (h : xlow n x) (hk : n ≤ k) : xlow k x := fun f h1 h2 => h f (by omega) h2
theorem xlow_ext {n : Nat} {x y : Int32} (hx : xlow n x) (hy : xlow n y) (h : ∀ f, f < n → xb x f = xb y f) : x = y := by
  refine xb_ext (fun f hf => ?_)
  by_cases h1 : f < n
  · exact h f h1
  · rw [hx f (by omega) hf, hy f (by omega) hf]
theorem xlow_ne {n : Nat} {x : Int32} (hx : xlow n x) (h : ¬ x = 0) : ∃ f, f < n ∧ f < 32 ∧ xb x f = true := by
  apply Classical.byContradiction
  intro hn
  refine h (xb_ext (fun f hf => ?_))
  rw [xb_0]
  by_cases h1 : f < n
  · cases hb : xb x f with
    | false => rfl
    | true => exact absurd ⟨f, h1, hf, hb⟩ hn
  · exact hx f (by omega) hf
theorem xb_ne {x : Int32} {f : Nat} (h : xb x f = true) : ¬ x = 0 := by
  intro e
  rw [e, xb_0] at h
  cases h
/-- what is left of a low set from f on -/
theorem xb_sh {s : Int32} (hs : xlow 14 s) {f : Nat} (hf : f < 14) : (0 < s >>> (nI f &&& 31)) ↔ ∃ g, f ≤ g ∧ g < 14 ∧ xb s g = true := by
  have bits : ∀ g, g < 32 → xb (s >>> (nI f &&& 31)) g = if f + g < 32 then xb s (f + g) else false := by
    intro g hg
    have e31 : s.toBitVec.getLsbD 31 = false := by
      have := hs 31 (by omega) (by omega)
      rw [xb_l _ (by omega)] at this
      exact this
    rw [xb_l _ hg, Int32.toBitVec_shiftRight]
    show (s.toBitVec.sshiftRight ((nI f &&& 31).toBitVec.smod 32).toNat).getLsbD g = _
    rw [xsh_l f (by omega), BitVec.getLsbD_sshiftRight, BitVec.msb_eq_getLsbD_last]
    by_cases h1 : f + g < 32
    · rw [xb_l _ h1]
      simp [hg, h1]
    · simp only [hg, h1, e31, decide_true, if_false, Bool.not_true, Bool.false_or]; simp [← BitVec.getLsbD_eq_getElem, e31]
  have low : xlow 14 (s >>> (nI f &&& 31)) := by
    intro g h1 h2
    rw [bits g h2]
    by_cases h3 : f + g < 32
    · rw [if_pos h3]
      exact hs (f + g) (by omega) h3
    · rw [if_neg h3]
  have nn : 0 ≤ s >>> (nI f &&& 31) := by
    have h31 := low 31 (by omega) (by omega)
    rw [xb_l _ (by omega)] at h31
    rw [Int32.le_iff_toInt_le]
    show (0 : Int) ≤ (s >>> (nI f &&& 31)).toBitVec.toInt
    have : (s >>> (nI f &&& 31)).toBitVec.msb = false := by rw [BitVec.msb_eq_getLsbD_last]; exact h31
    rw [BitVec.toInt_eq_toNat_of_msb this]
    omega
  constructor
  · intro h
    have hne : ¬ s >>> (nI f &&& 31) = 0 := by
      intro e
      rw [e] at h
      exact absurd h (by decide)
    obtain ⟨g, h1, h2, h3⟩ := xlow_ne low hne
    rw [bits g h2] at h3
    by_cases h4 : f + g < 32
    · rw [if_pos h4] at h3
      refine ⟨f + g, by omega, ?_, h3⟩
      apply Classical.byContradiction
      intro h5
      rw [hs (f + g) (by omega) h4] at h3
      cases h3
    · rw [if_neg h4] at h3
      cases h3
  · rintro ⟨g, h1, h2, h3⟩
    have hb : xb (s >>> (nI f &&& 31)) (g - f) = true := by
      rw [bits (g - f) (by omega), if_pos (by omega), show f + (g - f) = g by omega]
      exact h3
    have hne := xb_ne hb
    rw [Int32.lt_iff_toInt_lt]
    rw [Int32.le_iff_toInt_le] at nn
    have : ¬ (s >>> (nI f &&& 31)).toInt = (0 : Int32).toInt := fun e => hne (Int32.toInt_inj.mp e)
    omega
theorem xall_bits (n : Nat) (hn : n ≤ 14) : ∀ f, f < 32 → xb (xbt n - 1) f = decide (f < n) :=
  (by decide +kernel : ∀ n, n < 15 → ∀ f, f < 32 → xb (xbt n - 1) f = decide (f < n)) n (by omega)
end XB
