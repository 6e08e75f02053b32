/-! 74.loop: the law's loop, its start, and the run. -/
section XLP
variable {xs : Nat → Int32} {LS : Nat}
/-- the end that is wanted -/
def xLQ (r : Option Value ⊕ Nat) (S : xm_S) : Prop := r = .inl (some (.int 1)) ∧ S.1.length ≤ 601024 ∧ S.2.1 ≤ 7293034
theorem xi_sub4 (n : Nat) : nI (n + 4) - 4 = nI n := by
  have e : nI (n + 4) = nI n + 4 := (nI_add n 4).symm
  rw [e]
  exact Int32.add_sub_cancel _ _
theorem xi_neg {i : Nat} (hi : i < 2 ^ 31) {x : Int32} (hx : x < 0) : x < nI i := by
  have h0 := nI_pos' hi
  rw [Int32.lt_iff_toInt_lt] at *
  rw [Int32.le_iff_toInt_le] at h0
  omega
theorem xi_end {i : Nat} (hLS : LS < 2 ^ 31) (hi : i < 2 ^ 31) : (Int32.ofNat LS - 4 < nI i) ↔ LS < i + 4 := by
  by_cases q : 4 ≤ LS
  · obtain ⟨n, rfl⟩ : ∃ n, LS = n + 4 := ⟨LS - 4, by omega⟩
    show nI (n + 4) - 4 < nI i ↔ _
    rw [xi_sub4, nI_ltI (by omega) hi]
    omega
  · refine ⟨fun _ => by omega, fun _ => xi_neg hi ?_⟩
    obtain rfl | rfl | rfl | rfl : LS = 0 ∨ LS = 1 ∨ LS = 2 ∨ LS = 3 := by omega
    all_goals decide
theorem xi_31 (x : Int32) : ∃ t, t < 32 ∧ x &&& 31 = nI t := by
  refine ⟨x.toBitVec.toNat % 32, Nat.mod_lt _ (by decide), ?_⟩
  apply Int32.toBitVec_inj.mp
  apply BitVec.eq_of_toNat_eq
  have e : (x &&& 31).toBitVec = x.toBitVec &&& 31#32 := rfl
  have e2 : (nI (x.toBitVec.toNat % 32)).toBitVec.toNat = x.toBitVec.toNat % 32 % 2 ^ 32 := rfl
  rw [e, BitVec.toNat_and, e2]
  have e3 : (31#32).toNat = 2 ^ 5 - 1 := rfl
  rw [e3, Nat.and_two_pow_sub_one_eq_mod]
  omega
theorem l_loop (hLS : LS ≤ 2048) : ∀ r i h ks fl j5 j6, LS < i + 4 * r + 4 → i ≤ 2048 → h.length + r ≤ 601024 → ks + 6 * r ≤ 7293034 → xLw h → xG xs LS 10 104 (23, [some (.retAddr 0), some (.ref 0), some (.ref 22), some (.ref 40), some (.int (nI i)), j5, j6], []) (h, ks, fl) xLQ := by
  intro r
  induction r with
  | zero =>
    intro i h ks fl j5 j6 hr hi hl hk hw
    refine xg_iload xa_L_law_23 rfl ?_
    refine xg_aload_s xa_L_law_25 rfl ?_
    refine xg_slen xa_L_law_26 ?_
    refine xg_iconst (v := 4) xa_L_law_27 (by decide) ?_
    refine xg_isub xa_L_law_28 rfl ?_
    refine xg_icmp_gt xa_L_law_29 (fun _ => ?_) (fun z => absurd ((xi_end (by omega) (by omega)).mpr (by omega)) z)
    refine xg_iconst (v := 1) xa_L_law_1062 (by decide) ?_
    refine xg_zreturn xa_L_law_1063 (Or.inr rfl) ⟨rfl, by show h.length ≤ _; omega, by show ks ≤ _; omega⟩
  | succ r ih =>
    intro i h ks fl j5 j6 hr hi hl hk hw
    refine xg_iload xa_L_law_23 rfl ?_
    refine xg_aload_s xa_L_law_25 rfl ?_
    refine xg_slen xa_L_law_26 ?_
    refine xg_iconst (v := 4) xa_L_law_27 (by decide) ?_
    refine xg_isub xa_L_law_28 rfl ?_
    refine xg_icmp_gt xa_L_law_29 (fun _ => ?_) (fun z => ?_)
    · refine xg_iconst (v := 1) xa_L_law_1062 (by decide) ?_
      refine xg_zreturn xa_L_law_1063 (Or.inr rfl) ⟨rfl, by show h.length ≤ _; omega, by show ks ≤ _; omega⟩
    · have hi4 : i + 3 < LS := by
        have q : ¬ LS < i + 4 := fun q => z ((xi_end (by omega) (by omega)).mpr q)
        omega
      have hL31 : LS < 2 ^ 31 := by omega
      have K : ∀ h' ks' fl' j5 j6, xLw h' → h'.length ≤ h.length + 1 → ks' ≤ ks + 6 → xG xs LS 10 104 (1056, [some (.retAddr 0), some (.ref 0), some (.ref 22), some (.ref 40), some (.int (nI i)), j5, j6], []) (h', ks', fl') xLQ := by
        intro h' ks' fl' j5 j6 hw' hl' hk'
        refine xg_iinc (L' := [_, _, _, _, _, _, _]) xa_L_law_1056 rfl (nI_add i 4) rfl ?_
        refine xg_goto xa_L_law_1059 ?_
        exact ih (i + 4) h' ks' fl' j5 j6 (by omega) (by omega) (by omega) (by omega) hw'
      obtain ⟨Mc, Mn, Mm, Mh, Me, Ml, Mbr, Mlk, Mt, Mg, Ma, Mb, Mw, Mwk, Msp, Mon, Mct, hM, hC, I, ⟨fo, ho⟩, h41⟩ := id hw
      refine xg_aload_s xa_L_law_32 rfl ?_
      refine xg_iload xa_L_law_33 rfl ?_
      refine xg_sld_n xa_L_law_35 (by omega) hL31 ?_
      refine xg_bipush (v := 31) xa_L_law_36 (by decide) ?_
      obtain ⟨t, ht, et⟩ := xi_31 (xs i)
      refine xg_iand xa_L_law_38 et ?_
      by_cases h17 : t < 17
      · have h17' : t = 0 ∨ t = 1 ∨ t = 2 ∨ t = 3 ∨ t = 4 ∨ t = 5 ∨ t = 6 ∨ t = 7 ∨ t = 8 ∨ t = 9 ∨ t = 10 ∨ t = 11 ∨ t = 12 ∨ t = 13 ∨ t = 14 ∨ t = 15 ∨ t = 16 := by omega
        rcases h17' with rfl | rfl | rfl | rfl | rfl | rfl | rfl | rfl | rfl | rfl | rfl | rfl | rfl | rfl | rfl | rfl | rfl
        · exact xg_tableIn (off := 81) (t := 120) xa_L_law_39 (by decide) (by decide) (by decide) (l_clear I hM hC ho h41 hi4 hL31 K)
        · exact xg_tableIn (off := 117) (t := 156) xa_L_law_39 (by decide) (by decide) (by decide) (l_fibre I hM hC ho h41 hi4 hL31 K)
        · exact xg_tableIn (off := 197) (t := 236) xa_L_law_39 (by decide) (by decide) (by decide) (l_request I hM hC ho h41 hi4 hL31 K)
        · exact xg_tableIn (off := 293) (t := 332) xa_L_law_39 (by decide) (by decide) (by decide) (l_release I hM hC ho h41 hi4 hL31 K)
        · exact xg_tableIn (off := 329) (t := 368) xa_L_law_39 (by decide) (by decide) (by decide) (l_lock I hM hC ho h41 hi4 hL31 K)
        · exact xg_tableIn (off := 393) (t := 432) xa_L_law_39 (by decide) (by decide) (by decide) (l_cut I hM hC ho h41 hi4 hL31 K)
        · exact xg_tableIn (off := 429) (t := 468) xa_L_law_39 (by decide) (by decide) (by decide) (l_mend I hM hC ho h41 hi4 hL31 K)
        · exact xg_tableIn (off := 465) (t := 504) xa_L_law_39 (by decide) (by decide) (by decide) (l_hold I hM hC ho h41 hi4 hL31 K)
        · exact xg_tableIn (off := 501) (t := 540) xa_L_law_39 (by decide) (by decide) (by decide) (l_clock I hM hC ho h41 hi4 hL31 K)
        · exact xg_tableIn (off := 512) (t := 551) xa_L_law_39 (by decide) (by decide) (by decide) (l_path I hM hC ho h41 hi4 hL31 K)
        · exact xg_tableIn (off := 608) (t := 647) xa_L_law_39 (by decide) (by decide) (by decide) (l_about I hM hC ho h41 hi4 hL31 K)
        · exact xg_tableIn (off := 676) (t := 715) xa_L_law_39 (by decide) (by decide) (by decide) (l_user I hM hC ho h41 hi4 hL31 K)
        · exact xg_tableIn (off := 744) (t := 783) xa_L_law_39 (by decide) (by decide) (by decide) (l_move I hM hC ho h41 hi4 hL31 K)
        · exact xg_tableIn (off := 800) (t := 839) xa_L_law_39 (by decide) (by decide) (by decide) (l_fits I hM hC ho h41 hi4 hL31 K)
        · exact xg_tableIn (off := 868) (t := 907) xa_L_law_39 (by decide) (by decide) (by decide) (l_bridge I hM hC ho h41 hi4 hL31 K)
        · exact xg_tableIn (off := 948) (t := 987) xa_L_law_39 (by decide) (by decide) (by decide) (l_exposed I hM hC ho h41 hi4 hL31 K)
        · exact xg_tableIn (off := 961) (t := 1000) xa_L_law_39 (by decide) (by decide) (by decide) (l_count I hM hC ho h41 hi4 hL31 K)
      · exact xg_tableOut (t := 1056) xa_L_law_39 (Or.inr (by rw [nI_toInt (by omega)]; omega)) (by decide) (K h ks fl j5 j6 hw (by omega) (by omega))
/-- the cells at the start -/
def xh0 : List va_E := [.inr (2, [.ref 1, .ref 9, .int 0, .int 0, .int 0]), .inr (1, [.int 2, .int 0, .ref 2, .ref 3, .ref 4, .ref 5, .ref 6, .ref 7, .ref 8]), .inl (0, 14, .inl (fun _ => 0)), .inl (0, 14, .inl (fun _ => 0)), .inl (0, 14, .inl (fun _ => 0)), .inl (0, 14, .inl (fun _ => 0)), .inl (0, 14, .inl (fun _ => 0)), .inl (0, 7, .inl (fun _ => 0)), .inl (0, 7, .inl (fun _ => 0)), .inl (3, 12, .inr (.inr (.inr (.inr (va_up (va_up (va_up (va_up (va_up (va_up (va_up (va_up (va_up (va_up (va_up (va_up (fun _ => none) 0 (some 10)) 1 (some 11)) 2 (some 12)) 3 (some 13)) 4 (some 14)) 5 (some 15)) 6 (some 16)) 7 (some 17)) 8 (some 18)) 9 (some 19)) 10 (some 20)) 11 (some 21)))))), .inr (0, [.int 0, .int 0, .int 0, .int 0, .int 0, .int 0, .int 0, .int 0, .int 0]), .inr (0, [.int 0, .int 0, .int 0, .int 0, .int 0, .int 0, .int 0, .int 0, .int 0]), .inr (0, [.int 0, .int 0, .int 0, .int 0, .int 0, .int 0, .int 0, .int 0, .int 0]), .inr (0, [.int 0, .int 0, .int 0, .int 0, .int 0, .int 0, .int 0, .int 0, .int 0]), .inr (0, [.int 0, .int 0, .int 0, .int 0, .int 0, .int 0, .int 0, .int 0, .int 0]), .inr (0, [.int 0, .int 0, .int 0, .int 0, .int 0, .int 0, .int 0, .int 0, .int 0]), .inr (0, [.int 0, .int 0, .int 0, .int 0, .int 0, .int 0, .int 0, .int 0, .int 0]), .inr (0, [.int 0, .int 0, .int 0, .int 0, .int 0, .int 0, .int 0, .int 0, .int 0]), .inr (0, [.int 0, .int 0, .int 0, .int 0, .int 0, .int 0, .int 0, .int 0, .int 0]), .inr (0, [.int 0, .int 0, .int 0, .int 0, .int 0, .int 0, .int 0, .int 0, .int 0]), .inr (0, [.int 0, .int 0, .int 0, .int 0, .int 0, .int 0, .int 0, .int 0, .int 0]), .inr (0, [.int 0, .int 0, .int 0, .int 0, .int 0, .int 0, .int 0, .int 0, .int 0]), .inr (3, [.int 0, .int 2, .int 0, .ref 23, .ref 24, .ref 25, .ref 26, .int 0, .ref 27, .ref 28, .ref 29, .ref 30, .ref 31, .ref 32, .ref 33, .ref 34, .ref 35, .int 0, .ref 36, .ref 37, .ref 38, .ref 39, .int 0, .int 0]), .inl (0, 28, .inl (fun _ => 0)), .inl (0, 14, .inl (fun _ => 0)), .inl (1, 14, .inl (fun _ => 0)), .inl (1, 14, .inl (fun _ => 0)), .inl (1, 12, .inl (fun _ => 0)), .inl (1, 12, .inl (fun _ => 0)), .inl (0, 12, .inl (fun _ => 0)), .inl (0, 12, .inl (fun _ => 0)), .inl (0, 12, .inl (fun _ => 0)), .inl (0, 12, .inl (fun _ => 0)), .inl (0, 12, .inl (fun _ => 0)), .inl (0, 12, .inl (fun _ => 0)), .inl (0, 12, .inl (fun _ => 0)), .inl (0, 4000, .inl (fun _ => 0)), .inl (0, 4000, .inl (fun _ => 0)), .inl (0, 8, .inl (fun _ => 0)), .inl (0, 8, .inl (fun _ => 0)), .inl (2, 1, .inr (.inl (fun _ => 0)))]
theorem xLw_0 : xLw xh0 := by
  refine ⟨0, 2, 0, 0, fun _ => 0, fun _ => 0, fun _ => false, fun _ => false, fun _ => false, fun _ => false, fun _ => 0, fun _ => 0, fun _ => 0, fun _ => 0, fun _ => 0, fun _ => 0, fun _ => 0, ?_, ?_, ?_, ⟨_, rfl⟩, by decide⟩
  · exact ⟨0, 0, 0, fun _ => 0, fun _ => 0, fun _ => 0, fun _ => 0, ⟨rfl, rfl, rfl, rfl, rfl, rfl, rfl, rfl, rfl, rfl, rfl, rfl, rfl, rfl, rfl, rfl, rfl, rfl⟩, fun _ => (by decide : (0 : Nat) < 7), fun _ => (by decide : (0 : Nat) < 100)⟩
  · refine ⟨0, 0, fun _ => (false, false, 0, 0, 0, 0, 0, 0, 0), ⟨rfl, ⟨fun _ => 0, fun _ => 0, fun _ => 0, fun _ => 0, rfl, rfl, rfl, rfl, rfl, rfl, rfl, rfl⟩, ⟨_, rfl, fun j hj => ?_⟩, fun c hc => ?_⟩, fun f hf => ?_, fun f hf => ?_, fun _ _ => rfl, fun _ _ q => by cases q⟩
    · obtain rfl | rfl | rfl | rfl | rfl | rfl | rfl | rfl | rfl | rfl | rfl | rfl : j = 0 ∨ j = 1 ∨ j = 2 ∨ j = 3 ∨ j = 4 ∨ j = 5 ∨ j = 6 ∨ j = 7 ∨ j = 8 ∨ j = 9 ∨ j = 10 ∨ j = 11 := by omega
      all_goals rfl
    · obtain rfl | rfl | rfl | rfl | rfl | rfl | rfl | rfl | rfl | rfl | rfl | rfl : c = 0 ∨ c = 1 ∨ c = 2 ∨ c = 3 ∨ c = 4 ∨ c = 5 ∨ c = 6 ∨ c = 7 ∨ c = 8 ∨ c = 9 ∨ c = 10 ∨ c = 11 := by omega
      all_goals rfl
    · rw [xb_0, decide_eq_false (by omega)]; rfl
    · rw [xb_0, decide_eq_false (by omega)]; rfl
  · exact ⟨⟨by omega, by omega, fun f hf => absurd hf (by omega)⟩, by omega, fun _ => (by decide : (0 : Nat) < 7), fun _ _ q => by cases q⟩
theorem l_law (hLS : LS ≤ 2048) : xG xs LS 10 104 (0, [some (.retAddr 0), none, none, none, none, none, none], []) ([], 0, true) xLQ := by
  refine xg_new xa_L_law_0 rfl ?_
  refine xg_dup_r xa_L_law_3 ?_
  refine xg_callI0 xa_L_law_4 (Nat.le_of_ble_eq_true rfl) ?_
  refine c_F_init ?_
  refine xK0_d ?_
  refine xg_astore_n (L' := [_, _, _, _, _, _, _]) xa_L_law_7 (Nat.le_of_ble_eq_true rfl) rfl ?_
  refine xg_new xa_L_law_8 rfl ?_
  refine xg_dup_r xa_L_law_11 ?_
  refine xg_callI0 xa_L_law_12 (Nat.le_of_ble_eq_true rfl) ?_
  refine c_M_init ?_
  refine xK0_d ?_
  refine xg_astore_n (L' := [_, _, _, _, _, _, _]) xa_L_law_15 (Nat.le_of_ble_eq_true rfl) rfl ?_
  refine xg_iconst (v := 1) xa_L_law_16 (by decide) ?_
  refine xg_newarr (m := 1) xa_L_law_17 rfl (by decide) (by decide) (by decide) ?_
  refine xg_astore_n (L' := [_, _, _, _, _, _, _]) xa_L_law_19 (Nat.le_of_ble_eq_true rfl) rfl ?_
  refine xg_iconst (v := 0) xa_L_law_20 (by decide) ?_
  refine xg_istore (L' := [_, _, _, _, _, _, _]) xa_L_law_21 (Nat.le_of_ble_eq_true rfl) rfl ?_
  exact l_loop hLS 512 0 xh0 _ _ _ _ (by omega) (by omega) (by decide) (by decide) xLw_0
end XLP
