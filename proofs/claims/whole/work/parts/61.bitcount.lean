/-! 61.bits: Integer.bitCount on the class's sets. -/
section XBC
variable {xs : Nat → Int32} {LS d : Nat} {ks : Nat} {fl : Bool} {h : List va_E} {Q : (Option Value ⊕ Nat) → xm_S → Prop}
theorem y_and (a b : Nat) : nI a &&& nI b = nI (a &&& b) := by
  apply Int32.toBitVec_inj.1
  show BitVec.ofNat 32 a &&& BitVec.ofNat 32 b = BitVec.ofNat 32 (a &&& b)
  apply BitVec.eq_of_getLsbD_eq
  intro i hi
  simp [hi]
theorem y_cnt : ∀ j : Fin 32, (UInt32.ofNat j.val &&& Int32.toUInt32 31).toNat % 32 = j.val := by decide +kernel
theorem y_ush {k j : Nat} (hk : k < 65536) (hj : j < 32) : ((nI k).toUInt32 >>> ((nI j).toUInt32 &&& Int32.toUInt32 31)).toInt32 = nI (k >>> j) := by
  have hs : k >>> j ≤ k := by
    rw [Nat.shiftRight_eq_div_pow]
    exact Nat.div_le_self _ _
  have e2 : UInt32.ofNat k >>> (UInt32.ofNat j &&& Int32.toUInt32 31) = UInt32.ofNat (k >>> j) := by
    apply UInt32.toNat_inj.1
    have h1 : (UInt32.ofNat k).toNat = k := Nat.mod_eq_of_lt (by omega)
    have h2 : (UInt32.ofNat (k >>> j)).toNat = k >>> j := Nat.mod_eq_of_lt (by omega)
    rw [UInt32.toNat_shiftRight, y_cnt ⟨j, hj⟩, h1, h2]
  show (UInt32.ofNat k >>> (UInt32.ofNat j &&& Int32.toUInt32 31)).toInt32 = _
  rw [e2]
  rfl
theorem y_sub {a b : Nat} (h : b ≤ a) : nI a - nI b = nI (a - b) := by
  have : nI a = nI (a - b) + nI b := by rw [nI_add]; congr 1; omega
  rw [this, Int32.add_sub_cancel]
/-- bitCount on numbers -/
def yc1 (k : Nat) : Nat := k - ((k >>> 1) &&& 1431655765)
def yc2 (k : Nat) : Nat := (k &&& 858993459) + ((k >>> 2) &&& 858993459)
def yc3 (k : Nat) : Nat := (k + (k >>> 4)) &&& 252645135
def yc4 (k : Nat) : Nat := k + (k >>> 8)
def yc5 (k : Nat) : Nat := k + (k >>> 16)
def ycn (k : Nat) : Nat := yc5 (yc4 (yc3 (yc2 (yc1 k)))) &&& 63
def ypop (k : Nat) : Nat → Nat
  | 0 => 0
  | n + 1 => if k.testBit n = true then ypop k n + 1 else ypop k n
theorem ycn_pop0 : ∀ a, a < 128 → ∀ b, b < 128 → ycn (a * 128 + b) = ypop (a * 128 + b) 14 := by decide +kernel
theorem ycn_pop {k : Nat} (h : k < 16384) : ycn k = ypop k 14 := by
  have := ycn_pop0 (k / 128) (by omega) (k % 128) (by omega)
  rw [show k / 128 * 128 + k % 128 = k by omega] at this
  exact this
theorem y_low {s : Int32} (hs : xlow 14 s) : ∃ k, k < 16384 ∧ s = nI k := by
  refine ⟨s.toBitVec.toNat, ?_, ?_⟩
  · refine Nat.lt_pow_two_of_testBit (n := 14) _ (fun i hi => ?_)
    by_cases c : i < 32
    · have := hs i hi c
      rw [xb_l _ c] at this
      exact this
    · exact Nat.testBit_lt_two_pow (Nat.lt_of_lt_of_le s.toBitVec.isLt (Nat.pow_le_pow_right (by omega) (by omega)))
  · apply Int32.toBitVec_inj.1
    show s.toBitVec = BitVec.ofNat 32 s.toBitVec.toNat
    simp
theorem y_xb {k f : Nat} (hf : f < 32) : xb (nI k) f = k.testBit f := by
  rw [xb_l _ hf]
  show (BitVec.ofNat 32 k).getLsbD f = _
  rw [BitVec.getLsbD_ofNat, decide_eq_true hf, Bool.true_and]
theorem y_pop (k : Nat) : ∀ n, n ≤ 32 → xcnt (xb (nI k)) n = ypop k n := by
  intro n
  induction n with
  | zero => intro _; rfl
  | succ n ih =>
    intro hn
    unfold xcnt ypop
    rw [ih (by omega), y_xb (by omega)]
theorem c_J_bitCount {s : Int32} (hs : xlow 14 s) (k : Q (.inl (some (.int (nI (xcnt (xb s) 14))))) (h, ks, fl)) : xG xs LS d 52 (0, xm_entry xP 52 [.int s], []) (h, ks, fl) Q := by
  obtain ⟨z, hz, rfl⟩ := y_low hs
  rw [y_pop z 14 (by omega), ← ycn_pop hz] at k
  show xG xs LS d 52 (0, [some (.int (nI z))], []) (h, ks, fl) Q
  have l1 : (z >>> 1) &&& 1431655765 ≤ z := Nat.le_trans Nat.and_le_left (by rw [Nat.shiftRight_eq_div_pow]; exact Nat.div_le_self _ _)
  have b1 : yc1 z < 16384 := by unfold yc1; omega
  have s2 : ∀ x j, x >>> j ≤ x := fun x j => by rw [Nat.shiftRight_eq_div_pow]; exact Nat.div_le_self _ _
  have b2 : yc2 (yc1 z) < 20480 := by
    unfold yc2
    have := Nat.and_le_left (n := yc1 z) (m := 858993459)
    have := Nat.and_le_left (n := yc1 z >>> 2) (m := 858993459)
    have : yc1 z >>> 2 = yc1 z / 4 := Nat.shiftRight_eq_div_pow _ 2
    omega
  have b3 : yc3 (yc2 (yc1 z)) < 40960 := by
    unfold yc3
    have := Nat.and_le_left (n := yc2 (yc1 z) + yc2 (yc1 z) >>> 4) (m := 252645135)
    have := s2 (yc2 (yc1 z)) 4
    omega
  have b4 : yc4 (yc3 (yc2 (yc1 z))) < 65536 := by
    unfold yc4
    have : yc3 (yc2 (yc1 z)) >>> 8 = yc3 (yc2 (yc1 z)) / 256 := Nat.shiftRight_eq_div_pow _ 8
    omega
  have e1 : nI z - (((nI z).toUInt32 >>> ((1 : Int32).toUInt32 &&& Int32.toUInt32 31)).toInt32 &&& 1431655765) = nI (yc1 z) := by
    rw [show ((1 : Int32).toUInt32) = (nI 1).toUInt32 from rfl, y_ush (by omega) (by omega), show (1431655765 : Int32) = nI 1431655765 from rfl, y_and, y_sub l1]
    rfl
  have e2 : (nI (yc1 z) &&& 858993459) + (((nI (yc1 z)).toUInt32 >>> ((2 : Int32).toUInt32 &&& Int32.toUInt32 31)).toInt32 &&& 858993459) = nI (yc2 (yc1 z)) := by
    rw [show ((2 : Int32).toUInt32) = (nI 2).toUInt32 from rfl, y_ush (by omega) (by omega), show (858993459 : Int32) = nI 858993459 from rfl, y_and, y_and, nI_add]
    rfl
  have e3 : (nI (yc2 (yc1 z)) + ((nI (yc2 (yc1 z))).toUInt32 >>> ((4 : Int32).toUInt32 &&& Int32.toUInt32 31)).toInt32) &&& 252645135 = nI (yc3 (yc2 (yc1 z))) := by
    rw [show ((4 : Int32).toUInt32) = (nI 4).toUInt32 from rfl, y_ush (by omega) (by omega), show (252645135 : Int32) = nI 252645135 from rfl, nI_add, y_and]
    rfl
  have e4 : nI (yc3 (yc2 (yc1 z))) + ((nI (yc3 (yc2 (yc1 z)))).toUInt32 >>> ((8 : Int32).toUInt32 &&& Int32.toUInt32 31)).toInt32 = nI (yc4 (yc3 (yc2 (yc1 z)))) := by
    rw [show ((8 : Int32).toUInt32) = (nI 8).toUInt32 from rfl, y_ush (by omega) (by omega), nI_add]
    rfl
  have e5 : nI (yc4 (yc3 (yc2 (yc1 z)))) + ((nI (yc4 (yc3 (yc2 (yc1 z))))).toUInt32 >>> ((16 : Int32).toUInt32 &&& Int32.toUInt32 31)).toInt32 = nI (yc5 (yc4 (yc3 (yc2 (yc1 z))))) := by
    rw [show ((16 : Int32).toUInt32) = (nI 16).toUInt32 from rfl, y_ush (by omega) (by omega), nI_add]
    rfl
  have e6 : nI (yc5 (yc4 (yc3 (yc2 (yc1 z))))) &&& 63 = nI (ycn z) := by
    rw [show (63 : Int32) = nI 63 from rfl, y_and]
    rfl
  refine xg_iload_n xa_J_bitCount_0 rfl ?_
  refine xg_iload_n xa_J_bitCount_1 rfl ?_
  refine xg_iconst (v := 1) xa_J_bitCount_2 (by decide) ?_
  refine xg_iushr xa_J_bitCount_3 rfl ?_
  refine xg_ldcw (v := 1431655765) xa_J_bitCount_4 (by decide) ?_
  refine xg_iand xa_J_bitCount_7 rfl ?_
  refine xg_isub xa_J_bitCount_8 e1 ?_
  refine xg_istore_n (L' := [_]) xa_J_bitCount_9 (Nat.le_of_ble_eq_true rfl) rfl ?_
  refine xg_iload_n xa_J_bitCount_10 rfl ?_
  refine xg_ldcw (v := 858993459) xa_J_bitCount_11 (by decide) ?_
  refine xg_iand xa_J_bitCount_14 rfl ?_
  refine xg_iload_n xa_J_bitCount_15 rfl ?_
  refine xg_iconst (v := 2) xa_J_bitCount_16 (by decide) ?_
  refine xg_iushr xa_J_bitCount_17 rfl ?_
  refine xg_ldcw (v := 858993459) xa_J_bitCount_18 (by decide) ?_
  refine xg_iand xa_J_bitCount_21 rfl ?_
  refine xg_iadd xa_J_bitCount_22 e2 ?_
  refine xg_istore_n (L' := [_]) xa_J_bitCount_23 (Nat.le_of_ble_eq_true rfl) rfl ?_
  refine xg_iload_n xa_J_bitCount_24 rfl ?_
  refine xg_iload_n xa_J_bitCount_25 rfl ?_
  refine xg_iconst (v := 4) xa_J_bitCount_26 (by decide) ?_
  refine xg_iushr xa_J_bitCount_27 rfl ?_
  refine xg_iadd xa_J_bitCount_28 rfl ?_
  refine xg_ldcw (v := 252645135) xa_J_bitCount_29 (by decide) ?_
  refine xg_iand xa_J_bitCount_32 e3 ?_
  refine xg_istore_n (L' := [_]) xa_J_bitCount_33 (Nat.le_of_ble_eq_true rfl) rfl ?_
  refine xg_iload_n xa_J_bitCount_34 rfl ?_
  refine xg_iload_n xa_J_bitCount_35 rfl ?_
  refine xg_bipush (v := 8) xa_J_bitCount_36 (by decide) ?_
  refine xg_iushr xa_J_bitCount_38 rfl ?_
  refine xg_iadd xa_J_bitCount_39 e4 ?_
  refine xg_istore_n (L' := [_]) xa_J_bitCount_40 (Nat.le_of_ble_eq_true rfl) rfl ?_
  refine xg_iload_n xa_J_bitCount_41 rfl ?_
  refine xg_iload_n xa_J_bitCount_42 rfl ?_
  refine xg_bipush (v := 16) xa_J_bitCount_43 (by decide) ?_
  refine xg_iushr xa_J_bitCount_45 rfl ?_
  refine xg_iadd xa_J_bitCount_46 e5 ?_
  refine xg_istore_n (L' := [_]) xa_J_bitCount_47 (Nat.le_of_ble_eq_true rfl) rfl ?_
  refine xg_iload_n xa_J_bitCount_48 rfl ?_
  refine xg_bipush (v := 63) xa_J_bitCount_49 (by decide) ?_
  refine xg_iand xa_J_bitCount_51 e6 ?_
  refine xg_ireturn xa_J_bitCount_52  ?_
  exact k
end XBC
