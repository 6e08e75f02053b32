/-! 73.law: the law's calls: the class and the model answer alike. -/
section XLW
variable {Mc : Int32} {Mn : Nat} {Mm : Nat} {Mh : Int32} {Mp : Nat} {Mfw : Int32} {Mfs : Int32} {Me : Nat → Nat} {Ml : Nat → Nat} {Mbr : Nat → Bool} {Mlk : Nat → Bool} {Mt : Nat → Bool} {Mg : Nat → Bool} {Ma : Nat → Nat} {Mb : Nat → Nat} {Mw : Nat → Nat} {Mwk : Nat → Int32} {Msp : Nat → Int32} {Mon : Nat → Int32} {Mct : Nat → Int32} {MS : Nat → Int32} {MZ : Nat → Int32} {MA : Nat → Nat} {MN : Nat → Nat}
variable {xs : Nat → Int32} {LS d i : Nat} {ks : Nat} {fl : Bool} {h : List va_E} {Q : (Option Value ⊕ Nat) → xm_S → Prop} {fo : Nat → Int64}
/-- the state between two calls -/
def xLw (h : List va_E) : Prop := ∃ (Mc : Int32) (Mn Mm : Nat) (Mh : Int32) (Me Ml : Nat → Nat) (Mbr Mlk Mt Mg : Nat → Bool) (Ma Mb Mw : Nat → Nat) (Mwk Msp Mon Mct : Nat → Int32), xMs h Mc Mn Mm Mh Me Ml Mbr Mlk Mt Mg Ma Mb Mw Mwk Msp Mon Mct ∧ xCS h Mn Mm Mh Me Ml Mbr Mlk Mt Mg Ma Mb Mw Mwk Msp Mon Mct ∧ xIn Mn Mm Mh Me Ml Mt Mg Ma Mb Mw Mwk Msp Mon Mct ∧ (∃ fo, h[40]? = some (.inl (2, 1, .inr (.inl fo)))) ∧ 41 ≤ h.length
theorem xg_sld_n {mi pc a0 b0 k0 d0 j q : Nat} {L : List (Option Value)} {st : List Value} (ha : xm_at xP mi pc = some (pc, .iaload, a0, b0, k0, d0)) (hj : j < LS) (hL : LS < 2 ^ 31) (k : xG xs LS d mi (pc + 1, L, .int (xs j) :: st) (h, ks, fl) Q) : xG xs LS d mi (pc, L, .int (nI j) :: .retAddr q :: st) (h, ks, fl) Q :=
  xg_sld ha (nI_in hj hL) (by rw [nI_clamp (by omega)]) k
theorem xi_p1 (i : Nat) : nI i + 1 = nI (i + 1) := nI_1 i
theorem xi_p2 (i : Nat) : nI i + 2 = nI (i + 2) := nI_add i 2
theorem xi_p3 (i : Nat) : nI i + 3 = nI (i + 3) := nI_add i 3
theorem xo_0 (fo : Nat → Int64) (v : Int64) : vp_updL fo 0 v (0 : Int32).toNatClampNeg = v := if_pos (by decide)
theorem xo_c (v : Int64) : lg_cmp v v = 0 := by
  unfold lg_cmp
  rw [if_neg (Int64.lt_irrefl), if_pos rfl]
theorem xMs_22 (hM : xMs h Mc Mn Mm Mh Me Ml Mbr Mlk Mt Mg Ma Mb Mw Mwk Msp Mon Mct) : ∃ fs, h[22]? = some (.inr (3, fs)) := by
  obtain ⟨Mp, Mfw, Mfs, MS, MZ, MA, MN, hM, hA, hN⟩ := hM
  exact ⟨_, hM.1⟩
theorem xCS_0 (hC : xCS h Mn Mm Mh Me Ml Mbr Mlk Mt Mg Ma Mb Mw Mwk Msp Mon Mct) : ∃ fs, h[0]? = some (.inr (2, fs)) := by
  obtain ⟨cut, lk, K, hF, R⟩ := hC
  exact ⟨_, hF.1⟩
theorem c_M_thrown2 (hM : xMs h Mc Mn Mm Mh Me Ml Mbr Mlk Mt Mg Ma Mb Mw Mwk Msp Mon Mct) (k : Q (.inl (some (.int Mc))) (h, ks, fl)) : xG xs LS d 69 (0, xm_entry xP 69 [.ref 22], []) (h, ks, fl) Q := by
  obtain ⟨Mp, Mfw, Mfs, MS, MZ, MA, MN, hM, hA, hN⟩ := hM
  exact c_M_thrown hM k
abbrev xap (h : List va_E) (ci : Nat) : List va_E := h ++ [.inr (ci, [])]
theorem xMs_app {ci : Nat} (hl : 41 ≤ h.length) (hM : xMs h Mc Mn Mm Mh Me Ml Mbr Mlk Mt Mg Ma Mb Mw Mwk Msp Mon Mct) : xMs (xap h ci) Mc Mn Mm Mh Me Ml Mbr Mlk Mt Mg Ma Mb Mw Mwk Msp Mon Mct := xMs_keep (fun j _ hj => List.getElem?_append_left (by omega)) hM
theorem xCS_app {ci : Nat} (hl : 41 ≤ h.length) (hC : xCS h Mn Mm Mh Me Ml Mbr Mlk Mt Mg Ma Mb Mw Mwk Msp Mon Mct) : xCS (xap h ci) Mn Mm Mh Me Ml Mbr Mlk Mt Mg Ma Mb Mw Mwk Msp Mon Mct := xCS_keep (fun j hj => List.getElem?_append_left (by omega)) hC
theorem xo_app {ci : Nat} {c : va_E} (hl : 41 ≤ h.length) (ho : h[40]? = some c) : (h ++ [.inr (ci, [])])[40]? = some c := (List.getElem?_append_left (by omega)).trans ho
theorem xl_app {ci : Nat} : (h ++ [(.inr (ci, []) : va_E)]).length = h.length + 1 := by simp
theorem xw1_t {cs : List (Nat × Int32)} {ci k : Nat} {c : Int32} (hm : (ci, c) ∈ cs) (kk : ∀ b, Q (.inl (some (.int c))) (h ++ [.inr (ci, [])], k, b)) : xW1 cs Q (.inr h.length) (h ++ [.inr (ci, [])], k, true) :=
  Or.inr ⟨_, ci, c, rfl, List.getElem?_concat_length, hm, kk⟩
theorem xw0_t {cs : List (Nat × Int32)} {ci k : Nat} {c : Int32} (hm : (ci, c) ∈ cs) (kk : ∀ b, Q (.inl (some (.int c))) (h ++ [.inr (ci, [])], k, b)) : xW0 cs Q (.inr h.length) (h ++ [.inr (ci, [])], k, true) :=
  Or.inr ⟨_, ci, c, rfl, List.getElem?_concat_length, hm, kk⟩
theorem xw0_n {cs : List (Nat × Int32)} {k : Nat} {f1 : Bool} (kk : ∀ b, Q (.inl (some (.int 0))) (h, k, b)) : xW0 cs Q (.inl none) (h, k, f1) := Or.inl ⟨rfl, kk⟩
theorem xw1_n {cs : List (Nat × Int32)} {k : Nat} {f1 : Bool} {v : Int32} (ho : h[40]? = some (.inl (2, 1, .inr (.inl fo)))) (kk : ∀ h2 b, xU h h2 40 (.inl (2, 1, .inr (.inl (vp_updL fo 0 v.toInt64)))) → Q (.inl (some (.int 0))) (h2, k, b)) : xW1 cs Q (.inl (some (.int v))) (h, k, f1) := Or.inl ⟨v, fo, rfl, ho, kk⟩
theorem l_clear {j5 j6 : Option Value} (I : xIn Mn Mm Mh Me Ml Mt Mg Ma Mb Mw Mwk Msp Mon Mct) (hM : xMs h Mc Mn Mm Mh Me Ml Mbr Mlk Mt Mg Ma Mb Mw Mwk Msp Mon Mct) (hC : xCS h Mn Mm Mh Me Ml Mbr Mlk Mt Mg Ma Mb Mw Mwk Msp Mon Mct) (ho : h[40]? = some (.inl (2, 1, .inr (.inl fo)))) (hl41 : 41 ≤ h.length) (hi : i + 3 < LS) (hLS : LS < 2 ^ 31)
    (K : ∀ h' ks' fl' j5 j6, xLw h' → h'.length ≤ h.length + 1 → ks' ≤ ks + 6 → xG xs LS 10 104 (1056, [some (.retAddr 0), some (.ref 0), some (.ref 22), some (.ref 40), some (.int (nI i)), j5, j6], []) (h', ks', fl') Q) :
    xG xs LS 10 104 (120, [some (.retAddr 0), some (.ref 0), some (.ref 22), some (.ref 40), some (.int (nI i)), j5, j6], []) (h, ks, fl) Q := by
  obtain ⟨fs0, f0⟩ := xCS_0 hC
  have thr : ∀ (v : Int32) (ci : Nat) (b : Bool), ¬ v = 0 → cd_clear (xs (i + 1)) = v → xG xs LS 10 104 (130, [some (.retAddr 0), some (.ref 0), some (.ref 22), some (.ref 40), some (.int (nI i)), j5, j6], [.int v]) (h ++ [.inr (ci, [])], ks + 6, b) Q := by
    intro v ci b hv e
    have hM1 := xMs_app (ci := ci) hl41 hM
    have hC1 := xCS_app (ci := ci) hl41 hC
    have ho1 := xo_app (ci := ci) hl41 ho
    have hln := xl_app (h := h) (ci := ci)
    obtain ⟨fs1, g1⟩ := xMs_22 hM1
    refine xg_istore (L' := [_, _, _, _, _, _, _]) xa_L_law_130 (Nat.le_of_ble_eq_true rfl) rfl ?_
    refine xg_aload_n xa_L_law_132 rfl ?_
    refine xg_aload_s xa_L_law_133 rfl ?_
    refine xg_iload xa_L_law_134 rfl ?_
    refine xg_iconst (v := 1) xa_L_law_136 (by decide) ?_
    refine xg_iadd xa_L_law_137 (xi_p1 i) ?_
    refine xg_sld_n xa_L_law_138 (by omega) hLS ?_
    refine xg_callV0 xa_L_law_139 ⟨Nat.le_of_ble_eq_true rfl, Nat.le_of_ble_eq_true rfl, rfl⟩ rfl rfl g1 ?_
    refine c_M_clear hM1 (fun e' h2 fl2 hM2 s2 => ?_) (fun e0 => absurd (e.symm.trans e0) hv)
    obtain rfl : v = 1 := e.symm.trans e'
    obtain ⟨fs2, g2⟩ := xMs_22 hM2
    have hC2 := xCS_keep (fun j hj => s2.2 j (by omega)) hC1
    have ho2 := (s2.2 40 (by omega)).trans ho1
    have hs2 := s2.1
    refine xK0_d ?_
    refine xg_aload_n xa_L_law_142 rfl ?_
    refine xg_callV1 xa_L_law_143 ⟨Nat.le_of_ble_eq_true rfl, Nat.le_of_ble_eq_true rfl, rfl⟩ rfl rfl g2 ?_
    refine c_M_thrown2 hM2 ?_
    refine xK1_c ?_
    refine xg_iload xa_L_law_146 rfl ?_
    refine xg_icmp_eq xa_L_law_148 (fun _ => ?_) (fun z => absurd rfl z)
    refine xg_goto xa_L_law_153 ?_
    exact K _ _ _ _ _ ⟨_, _, _, _, _, _, _, _, _, _, _, _, _, _, _, _, _, hM2, hC2, I, ⟨_, ho2⟩, by omega⟩ (by omega) (by omega)
  refine xg_aload_n xa_L_law_120 rfl ?_
  refine xg_aload_s xa_L_law_121 rfl ?_
  refine xg_iload xa_L_law_122 rfl ?_
  refine xg_iconst (v := 1) xa_L_law_124 (by decide) ?_
  refine xg_iadd xa_L_law_125 (xi_p1 i) ?_
  refine xg_sld_n xa_L_law_126 (by omega) hLS ?_
  refine xg_callS1 xa_L_law_127 ⟨Nat.le_of_ble_eq_true rfl, Nat.le_of_ble_eq_true rfl, rfl⟩ rfl rfl ?_
  refine c_L_clear ⟨_, f0⟩ ?_
  refine c_F_clear hC (fun e => xw0_t (c := 1) (by simp) (fun b => xK1_d (thr 1 4 _ (by decide) e))) (fun e0 n h1 fl1 n1 n2 en hC1 s1 => ?_)
  refine xw0_n (fun b => xK1_d ?_)
  have hM2 : xMs h1 Mc Mn Mm Mh Me Ml Mbr Mlk Mt Mg Ma Mb Mw Mwk Msp Mon Mct := xMs_keep (fun j h1 h2 => s1.2 j (by omega)) hM
  have hC2 := hC1
  have ho2 := (s1.2 40 (by omega)).trans ho
  have hs1 := s1.1
  obtain ⟨fs2, g2⟩ := xMs_22 hM2
  refine xg_istore (L' := [_, _, _, _, _, _, _]) xa_L_law_130 (Nat.le_of_ble_eq_true rfl) rfl ?_
  refine xg_aload_n xa_L_law_132 rfl ?_
  refine xg_aload_s xa_L_law_133 rfl ?_
  refine xg_iload xa_L_law_134 rfl ?_
  refine xg_iconst (v := 1) xa_L_law_136 (by decide) ?_
  refine xg_iadd xa_L_law_137 (xi_p1 i) ?_
  refine xg_sld_n xa_L_law_138 (by omega) hLS ?_
  refine xg_callV0 xa_L_law_139 ⟨Nat.le_of_ble_eq_true rfl, Nat.le_of_ble_eq_true rfl, rfl⟩ rfl rfl g2 ?_
  refine c_M_clear hM2 (fun e' => absurd (e'.symm.trans e0) (by decide)) (fun _ n' h3 fl3 _ n2' en' hM3 s3 => ?_)
  have hn7 := I.1.2.1
  have hm14 := I.1.1
  obtain rfl : n' = n := (nI_eq (by omega) (by omega)).mp (en'.symm.trans en)
  obtain ⟨fs3, g3⟩ := xMs_22 hM3
  have hC3 := xCS_keep (fun j hj => s3.2 j (by omega)) hC2
  have ho3 := (s3.2 40 (by omega)).trans ho2
  have hs3 := s3.1
  refine xK0_d ?_
  refine xg_aload_n xa_L_law_142 rfl ?_
  refine xg_callV1 xa_L_law_143 ⟨Nat.le_of_ble_eq_true rfl, Nat.le_of_ble_eq_true rfl, rfl⟩ rfl rfl g3 ?_
  refine c_M_thrown2 hM3 ?_
  refine xK1_c ?_
  refine xg_iload xa_L_law_146 rfl ?_
  refine xg_icmp_eq xa_L_law_148 (fun _ => ?_) (fun z => absurd rfl z)
  refine xg_goto xa_L_law_153 ?_
  exact K _ _ _ _ _ ⟨_, _, _, _, _, _, _, _, _, _, _, _, _, _, _, _, _, hM3, hC3, (i_clear I n1 n2), ⟨_, ho3⟩, by omega⟩ (by omega) (by omega)
theorem l_fibre {j5 j6 : Option Value} (I : xIn Mn Mm Mh Me Ml Mt Mg Ma Mb Mw Mwk Msp Mon Mct) (hM : xMs h Mc Mn Mm Mh Me Ml Mbr Mlk Mt Mg Ma Mb Mw Mwk Msp Mon Mct) (hC : xCS h Mn Mm Mh Me Ml Mbr Mlk Mt Mg Ma Mb Mw Mwk Msp Mon Mct) (ho : h[40]? = some (.inl (2, 1, .inr (.inl fo)))) (hl41 : 41 ≤ h.length) (hi : i + 3 < LS) (hLS : LS < 2 ^ 31)
    (K : ∀ h' ks' fl' j5 j6, xLw h' → h'.length ≤ h.length + 1 → ks' ≤ ks + 6 → xG xs LS 10 104 (1056, [some (.retAddr 0), some (.ref 0), some (.ref 22), some (.ref 40), some (.int (nI i)), j5, j6], []) (h', ks', fl') Q) :
    xG xs LS 10 104 (156, [some (.retAddr 0), some (.ref 0), some (.ref 22), some (.ref 40), some (.int (nI i)), j5, j6], []) (h, ks, fl) Q := by
  obtain ⟨fs0, f0⟩ := xCS_0 hC
  have thr : ∀ (v : Int32) (ci : Nat) (b : Bool), ¬ v = 0 → cd_fibre Mn Mm (xs (i + 1)) (xs (i + 2)) (xs (i + 3)) = v → xG xs LS 10 104 (179, [some (.retAddr 0), some (.ref 0), some (.ref 22), some (.ref 40), some (.int (nI i)), j5, j6], [.int v]) (h ++ [.inr (ci, [])], ks + 6, b) Q := by
    intro v ci b hv e
    have hM1 := xMs_app (ci := ci) hl41 hM
    have hC1 := xCS_app (ci := ci) hl41 hC
    have ho1 := xo_app (ci := ci) hl41 ho
    have hln := xl_app (h := h) (ci := ci)
    obtain ⟨fs1, g1⟩ := xMs_22 hM1
    refine xg_istore (L' := [_, _, _, _, _, _, _]) xa_L_law_179 (Nat.le_of_ble_eq_true rfl) rfl ?_
    refine xg_aload_n xa_L_law_181 rfl ?_
    refine xg_aload_s xa_L_law_182 rfl ?_
    refine xg_iload xa_L_law_183 rfl ?_
    refine xg_iconst (v := 1) xa_L_law_185 (by decide) ?_
    refine xg_iadd xa_L_law_186 (xi_p1 i) ?_
    refine xg_sld_n xa_L_law_187 (by omega) hLS ?_
    refine xg_aload_s xa_L_law_188 rfl ?_
    refine xg_iload xa_L_law_189 rfl ?_
    refine xg_iconst (v := 2) xa_L_law_191 (by decide) ?_
    refine xg_iadd xa_L_law_192 (xi_p2 i) ?_
    refine xg_sld_n xa_L_law_193 (by omega) hLS ?_
    refine xg_aload_s xa_L_law_194 rfl ?_
    refine xg_iload xa_L_law_195 rfl ?_
    refine xg_iconst (v := 3) xa_L_law_197 (by decide) ?_
    refine xg_iadd xa_L_law_198 (xi_p3 i) ?_
    refine xg_sld_n xa_L_law_199 (by omega) hLS ?_
    refine xg_callV1 xa_L_law_200 ⟨Nat.le_of_ble_eq_true rfl, Nat.le_of_ble_eq_true rfl, rfl⟩ rfl rfl g1 ?_
    refine c_M_fibre I.1.2.1 I.1.1 hM1 (fun v' hv' e' h2 fl2 hM2 s2 => ?_) (fun e0 => absurd (e.symm.trans e0) hv)
    obtain rfl : v' = v := e'.symm.trans e
    obtain ⟨fs2, g2⟩ := xMs_22 hM2
    have hC2 := xCS_keep (fun j hj => s2.2 j (by omega)) hC1
    have ho2 := (s2.2 40 (by omega)).trans ho1
    have hs2 := s2.1
    refine xK1_d ?_
    refine xg_istore (L' := [_, _, _, _, _, _, _]) xa_L_law_203 (Nat.le_of_ble_eq_true rfl) rfl ?_
    refine xg_aload_n xa_L_law_205 rfl ?_
    refine xg_callV1 xa_L_law_206 ⟨Nat.le_of_ble_eq_true rfl, Nat.le_of_ble_eq_true rfl, rfl⟩ rfl rfl g2 ?_
    refine c_M_thrown2 hM2 ?_
    refine xK1_c ?_
    refine xg_iload xa_L_law_209 rfl ?_
    refine xg_icmp_eq xa_L_law_211 (fun _ => ?_) (fun z => absurd rfl z)
    refine xg_iload xa_L_law_216 rfl ?_
    refine xg_if_ne xa_L_law_218 (fun _ => ?_) (fun z => absurd z hv')
    refine xg_goto xa_L_law_233 ?_
    exact K _ _ _ _ _ ⟨_, _, _, _, _, _, _, _, _, _, _, _, _, _, _, _, _, hM2, hC2, I, ⟨_, ho2⟩, by omega⟩ (by omega) (by omega)
  refine xg_aload_n xa_L_law_156 rfl ?_
  refine xg_aload_s xa_L_law_157 rfl ?_
  refine xg_iload xa_L_law_158 rfl ?_
  refine xg_iconst (v := 1) xa_L_law_160 (by decide) ?_
  refine xg_iadd xa_L_law_161 (xi_p1 i) ?_
  refine xg_sld_n xa_L_law_162 (by omega) hLS ?_
  refine xg_aload_s xa_L_law_163 rfl ?_
  refine xg_iload xa_L_law_164 rfl ?_
  refine xg_iconst (v := 2) xa_L_law_166 (by decide) ?_
  refine xg_iadd xa_L_law_167 (xi_p2 i) ?_
  refine xg_sld_n xa_L_law_168 (by omega) hLS ?_
  refine xg_aload_s xa_L_law_169 rfl ?_
  refine xg_iload xa_L_law_170 rfl ?_
  refine xg_iconst (v := 3) xa_L_law_172 (by decide) ?_
  refine xg_iadd xa_L_law_173 (xi_p3 i) ?_
  refine xg_sld_n xa_L_law_174 (by omega) hLS ?_
  refine xg_aload_n xa_L_law_175 rfl ?_
  refine xg_callS1 xa_L_law_176 ⟨Nat.le_of_ble_eq_true rfl, Nat.le_of_ble_eq_true rfl, rfl⟩ rfl rfl ?_
  refine c_L_fibre ⟨_, f0⟩ ?_
  refine c_F_fibre I.1.2.1 I.1.1 hC (fun e => xw1_t (c := 1) (by simp) (fun b => xK1_d (thr 1 5 _ (by decide) e))) (fun e => xw1_t (c := 2) (by simp) (fun b => xK1_d (thr 2 4 _ (by decide) e))) (fun e => xw1_t (c := 3) (by simp) (fun b => xK1_d (thr 3 6 _ (by decide) e))) (fun e0 x y z h1 fl1 hx hy hxy z1 z2 hm ea eb ez hC1 s1 => ?_)
  refine xw1_n ((s1.2 40 (by omega)).trans ho) (fun h2 b u => xK1_d ?_)
  have hM2 : xMs h2 Mc Mn Mm Mh Me Ml Mbr Mlk Mt Mg Ma Mb Mw Mwk Msp Mon Mct := xMs_keep (fun j h1 h2 => (u.2.2 j (by omega)).trans (s1.2 j (by omega))) hM
  have hC2 := xCS_keep (fun j hj => u.2.2 j (by omega)) hC1
  have ho2 := u.2.1
  have hs1 := s1.1
  have hu1 := u.1
  obtain ⟨fs2, g2⟩ := xMs_22 hM2
  refine xg_istore (L' := [_, _, _, _, _, _, _]) xa_L_law_179 (Nat.le_of_ble_eq_true rfl) rfl ?_
  refine xg_aload_n xa_L_law_181 rfl ?_
  refine xg_aload_s xa_L_law_182 rfl ?_
  refine xg_iload xa_L_law_183 rfl ?_
  refine xg_iconst (v := 1) xa_L_law_185 (by decide) ?_
  refine xg_iadd xa_L_law_186 (xi_p1 i) ?_
  refine xg_sld_n xa_L_law_187 (by omega) hLS ?_
  refine xg_aload_s xa_L_law_188 rfl ?_
  refine xg_iload xa_L_law_189 rfl ?_
  refine xg_iconst (v := 2) xa_L_law_191 (by decide) ?_
  refine xg_iadd xa_L_law_192 (xi_p2 i) ?_
  refine xg_sld_n xa_L_law_193 (by omega) hLS ?_
  refine xg_aload_s xa_L_law_194 rfl ?_
  refine xg_iload xa_L_law_195 rfl ?_
  refine xg_iconst (v := 3) xa_L_law_197 (by decide) ?_
  refine xg_iadd xa_L_law_198 (xi_p3 i) ?_
  refine xg_sld_n xa_L_law_199 (by omega) hLS ?_
  refine xg_callV1 xa_L_law_200 ⟨Nat.le_of_ble_eq_true rfl, Nat.le_of_ble_eq_true rfl, rfl⟩ rfl rfl g2 ?_
  refine c_M_fibre I.1.2.1 I.1.1 hM2 (fun v' hv' e' => absurd (e'.symm.trans e0) hv') (fun _ x' y' z' h3 fl3 hx' hy' _ _ z2' _ ea' eb' ez' hM3 s3 => ?_)
  have hn7 := I.1.2.1
  have hm14 := I.1.1
  obtain rfl : x' = x := (nI_eq (by omega) (by omega)).mp (ea'.symm.trans ea)
  obtain rfl : y' = y := (nI_eq (by omega) (by omega)).mp (eb'.symm.trans eb)
  obtain rfl : z' = z := (nI_eq (by omega) (by omega)).mp (ez'.symm.trans ez)
  obtain ⟨fs3, g3⟩ := xMs_22 hM3
  have hC3 := xCS_keep (fun j hj => s3.2 j (by omega)) hC2
  have ho3 := (s3.2 40 (by omega)).trans ho2
  have hs3 := s3.1
  refine xK1_d ?_
  refine xg_istore (L' := [_, _, _, _, _, _, _]) xa_L_law_203 (Nat.le_of_ble_eq_true rfl) rfl ?_
  refine xg_aload_n xa_L_law_205 rfl ?_
  refine xg_callV1 xa_L_law_206 ⟨Nat.le_of_ble_eq_true rfl, Nat.le_of_ble_eq_true rfl, rfl⟩ rfl rfl g3 ?_
  refine c_M_thrown2 hM3 ?_
  refine xK1_c ?_
  refine xg_iload xa_L_law_209 rfl ?_
  refine xg_icmp_eq xa_L_law_211 (fun _ => ?_) (fun z => absurd rfl z)
  refine xg_iload xa_L_law_216 rfl ?_
  refine xg_if_ne xa_L_law_218 (fun z => absurd rfl z) (fun _ => ?_)
  refine xg_aload_n xa_L_law_221 rfl ?_
  refine xg_iconst (v := 0) xa_L_law_222 (by decide) ?_
  refine xg_lald xa_L_law_223 ho3 rfl (by decide) (xo_0 _ _) ?_
  refine xg_iload xa_L_law_224 rfl ?_
  refine xg_i2l xa_L_law_226 rfl ?_
  refine xg_lcmp xa_L_law_227 (xo_c _) ?_
  refine xg_if_eq xa_L_law_228 (fun _ => ?_) (fun z => absurd rfl z)
  refine xg_goto xa_L_law_233 ?_
  exact K _ _ _ _ _ ⟨_, _, _, _, _, _, _, _, _, _, _, _, _, _, _, _, _, hM3, hC3, (i_fibre I hx hy hxy z1 z2 hm), ⟨_, ho3⟩, by omega⟩ (by omega) (by omega)
theorem l_release {j5 j6 : Option Value} (I : xIn Mn Mm Mh Me Ml Mt Mg Ma Mb Mw Mwk Msp Mon Mct) (hM : xMs h Mc Mn Mm Mh Me Ml Mbr Mlk Mt Mg Ma Mb Mw Mwk Msp Mon Mct) (hC : xCS h Mn Mm Mh Me Ml Mbr Mlk Mt Mg Ma Mb Mw Mwk Msp Mon Mct) (ho : h[40]? = some (.inl (2, 1, .inr (.inl fo)))) (hl41 : 41 ≤ h.length) (hi : i + 3 < LS) (hLS : LS < 2 ^ 31)
    (K : ∀ h' ks' fl' j5 j6, xLw h' → h'.length ≤ h.length + 1 → ks' ≤ ks + 6 → xG xs LS 10 104 (1056, [some (.retAddr 0), some (.ref 0), some (.ref 22), some (.ref 40), some (.int (nI i)), j5, j6], []) (h', ks', fl') Q) :
    xG xs LS 10 104 (332, [some (.retAddr 0), some (.ref 0), some (.ref 22), some (.ref 40), some (.int (nI i)), j5, j6], []) (h, ks, fl) Q := by
  obtain ⟨fs0, f0⟩ := xCS_0 hC
  have thr : ∀ (v : Int32) (ci : Nat) (b : Bool), ¬ v = 0 → cd_conn Mt (xs (i + 1)) = v → xG xs LS 10 104 (342, [some (.retAddr 0), some (.ref 0), some (.ref 22), some (.ref 40), some (.int (nI i)), j5, j6], [.int v]) (h ++ [.inr (ci, [])], ks + 6, b) Q := by
    intro v ci b hv e
    have hM1 := xMs_app (ci := ci) hl41 hM
    have hC1 := xCS_app (ci := ci) hl41 hC
    have ho1 := xo_app (ci := ci) hl41 ho
    have hln := xl_app (h := h) (ci := ci)
    obtain ⟨fs1, g1⟩ := xMs_22 hM1
    refine xg_istore (L' := [_, _, _, _, _, _, _]) xa_L_law_342 (Nat.le_of_ble_eq_true rfl) rfl ?_
    refine xg_aload_n xa_L_law_344 rfl ?_
    refine xg_aload_s xa_L_law_345 rfl ?_
    refine xg_iload xa_L_law_346 rfl ?_
    refine xg_iconst (v := 1) xa_L_law_348 (by decide) ?_
    refine xg_iadd xa_L_law_349 (xi_p1 i) ?_
    refine xg_sld_n xa_L_law_350 (by omega) hLS ?_
    refine xg_callV0 xa_L_law_351 ⟨Nat.le_of_ble_eq_true rfl, Nat.le_of_ble_eq_true rfl, rfl⟩ rfl rfl g1 ?_
    refine c_M_release hM1 (fun e' h2 fl2 hM2 s2 => ?_) (fun e0 => absurd (e.symm.trans e0) hv)
    obtain rfl : v = 1 := e.symm.trans e'
    obtain ⟨fs2, g2⟩ := xMs_22 hM2
    have hC2 := xCS_keep (fun j hj => s2.2 j (by omega)) hC1
    have ho2 := (s2.2 40 (by omega)).trans ho1
    have hs2 := s2.1
    refine xK0_d ?_
    refine xg_aload_n xa_L_law_354 rfl ?_
    refine xg_callV1 xa_L_law_355 ⟨Nat.le_of_ble_eq_true rfl, Nat.le_of_ble_eq_true rfl, rfl⟩ rfl rfl g2 ?_
    refine c_M_thrown2 hM2 ?_
    refine xK1_c ?_
    refine xg_iload xa_L_law_358 rfl ?_
    refine xg_icmp_eq xa_L_law_360 (fun _ => ?_) (fun z => absurd rfl z)
    refine xg_goto xa_L_law_365 ?_
    exact K _ _ _ _ _ ⟨_, _, _, _, _, _, _, _, _, _, _, _, _, _, _, _, _, hM2, hC2, I, ⟨_, ho2⟩, by omega⟩ (by omega) (by omega)
  refine xg_aload_n xa_L_law_332 rfl ?_
  refine xg_aload_s xa_L_law_333 rfl ?_
  refine xg_iload xa_L_law_334 rfl ?_
  refine xg_iconst (v := 1) xa_L_law_336 (by decide) ?_
  refine xg_iadd xa_L_law_337 (xi_p1 i) ?_
  refine xg_sld_n xa_L_law_338 (by omega) hLS ?_
  refine xg_callS1 xa_L_law_339 ⟨Nat.le_of_ble_eq_true rfl, Nat.le_of_ble_eq_true rfl, rfl⟩ rfl rfl ?_
  refine c_L_release ⟨_, f0⟩ ?_
  refine c_F_release hC (fun e => xw0_t (c := 1) (by simp) (fun b => xK1_d (thr 1 5 _ (by decide) e))) (fun e0 c h1 fl1 hc ec ht hC1 s1 => ?_)
  refine xw0_n (fun b => xK1_d ?_)
  have hM2 : xMs h1 Mc Mn Mm Mh Me Ml Mbr Mlk Mt Mg Ma Mb Mw Mwk Msp Mon Mct := xMs_keep (fun j h1 h2 => s1.2 j (by omega)) hM
  have hC2 := hC1
  have ho2 := (s1.2 40 (by omega)).trans ho
  have hs1 := s1.1
  obtain ⟨fs2, g2⟩ := xMs_22 hM2
  refine xg_istore (L' := [_, _, _, _, _, _, _]) xa_L_law_342 (Nat.le_of_ble_eq_true rfl) rfl ?_
  refine xg_aload_n xa_L_law_344 rfl ?_
  refine xg_aload_s xa_L_law_345 rfl ?_
  refine xg_iload xa_L_law_346 rfl ?_
  refine xg_iconst (v := 1) xa_L_law_348 (by decide) ?_
  refine xg_iadd xa_L_law_349 (xi_p1 i) ?_
  refine xg_sld_n xa_L_law_350 (by omega) hLS ?_
  refine xg_callV0 xa_L_law_351 ⟨Nat.le_of_ble_eq_true rfl, Nat.le_of_ble_eq_true rfl, rfl⟩ rfl rfl g2 ?_
  refine c_M_release hM2 (fun e' => absurd (e'.symm.trans e0) (by decide)) (fun _ c' h3 fl3 hc' ec' _ hM3 s3 => ?_)
  have hn7 := I.1.2.1
  have hm14 := I.1.1
  obtain rfl : c' = c := (nI_eq (by omega) (by omega)).mp (ec'.symm.trans ec)
  obtain ⟨fs3, g3⟩ := xMs_22 hM3
  have hC3 := xCS_keep (fun j hj => s3.2 j (by omega)) hC2
  have ho3 := (s3.2 40 (by omega)).trans ho2
  have hs3 := s3.1
  refine xK0_d ?_
  refine xg_aload_n xa_L_law_354 rfl ?_
  refine xg_callV1 xa_L_law_355 ⟨Nat.le_of_ble_eq_true rfl, Nat.le_of_ble_eq_true rfl, rfl⟩ rfl rfl g3 ?_
  refine c_M_thrown2 hM3 ?_
  refine xK1_c ?_
  refine xg_iload xa_L_law_358 rfl ?_
  refine xg_icmp_eq xa_L_law_360 (fun _ => ?_) (fun z => absurd rfl z)
  refine xg_goto xa_L_law_365 ?_
  exact K _ _ _ _ _ ⟨_, _, _, _, _, _, _, _, _, _, _, _, _, _, _, _, _, hM3, hC3, (i_release I), ⟨_, ho3⟩, by omega⟩ (by omega) (by omega)
theorem l_lock {j5 j6 : Option Value} (I : xIn Mn Mm Mh Me Ml Mt Mg Ma Mb Mw Mwk Msp Mon Mct) (hM : xMs h Mc Mn Mm Mh Me Ml Mbr Mlk Mt Mg Ma Mb Mw Mwk Msp Mon Mct) (hC : xCS h Mn Mm Mh Me Ml Mbr Mlk Mt Mg Ma Mb Mw Mwk Msp Mon Mct) (ho : h[40]? = some (.inl (2, 1, .inr (.inl fo)))) (hl41 : 41 ≤ h.length) (hi : i + 3 < LS) (hLS : LS < 2 ^ 31)
    (K : ∀ h' ks' fl' j5 j6, xLw h' → h'.length ≤ h.length + 1 → ks' ≤ ks + 6 → xG xs LS 10 104 (1056, [some (.retAddr 0), some (.ref 0), some (.ref 22), some (.ref 40), some (.int (nI i)), j5, j6], []) (h', ks', fl') Q) :
    xG xs LS 10 104 (368, [some (.retAddr 0), some (.ref 0), some (.ref 22), some (.ref 40), some (.int (nI i)), j5, j6], []) (h, ks, fl) Q := by
  obtain ⟨fs0, f0⟩ := xCS_0 hC
  by_cases hz : xs (i + 2) = 0
  · have thr : ∀ (v : Int32) (ci : Nat) (b : Bool), ¬ v = 0 → cd_lock Mm Mlk (xs (i + 1)) false = v → xG xs LS 10 104 (392, [some (.retAddr 0), some (.ref 0), some (.ref 22), some (.ref 40), some (.int (nI i)), j5, j6], [.int v]) (h ++ [.inr (ci, [])], ks + 6, b) Q := by
      intro v ci b hv e
      have hM1 := xMs_app (ci := ci) hl41 hM
      have hC1 := xCS_app (ci := ci) hl41 hC
      have ho1 := xo_app (ci := ci) hl41 ho
      have hln := xl_app (h := h) (ci := ci)
      obtain ⟨fs1, g1⟩ := xMs_22 hM1
      refine xg_istore (L' := [_, _, _, _, _, _, _]) xa_L_law_392 (Nat.le_of_ble_eq_true rfl) rfl ?_
      refine xg_aload_n xa_L_law_394 rfl ?_
      refine xg_aload_s xa_L_law_395 rfl ?_
      refine xg_iload xa_L_law_396 rfl ?_
      refine xg_iconst (v := 1) xa_L_law_398 (by decide) ?_
      refine xg_iadd xa_L_law_399 (xi_p1 i) ?_
      refine xg_sld_n xa_L_law_400 (by omega) hLS ?_
      refine xg_aload_s xa_L_law_401 rfl ?_
      refine xg_iload xa_L_law_402 rfl ?_
      refine xg_iconst (v := 2) xa_L_law_404 (by decide) ?_
      refine xg_iadd xa_L_law_405 (xi_p2 i) ?_
      refine xg_sld_n xa_L_law_406 (by omega) hLS ?_
      refine xg_if_eq xa_L_law_407 (fun _ => ?_) (fun z => absurd hz z)
      refine xg_iconst (v := 0) xa_L_law_414 (by decide) ?_
      refine xg_callV0 xa_L_law_415 ⟨Nat.le_of_ble_eq_true rfl, Nat.le_of_ble_eq_true rfl, rfl⟩ rfl rfl g1 ?_
      refine c_M_lock (on := false) I.1.1 hM1 (fun v' hv' e' h2 fl2 hM2 s2 => ?_) (fun e0 => absurd (e.symm.trans e0) hv)
      obtain rfl : v' = v := e'.symm.trans e
      obtain ⟨fs2, g2⟩ := xMs_22 hM2
      have hC2 := xCS_keep (fun j hj => s2.2 j (by omega)) hC1
      have ho2 := (s2.2 40 (by omega)).trans ho1
      have hs2 := s2.1
      refine xK0_d ?_
      refine xg_aload_n xa_L_law_418 rfl ?_
      refine xg_callV1 xa_L_law_419 ⟨Nat.le_of_ble_eq_true rfl, Nat.le_of_ble_eq_true rfl, rfl⟩ rfl rfl g2 ?_
      refine c_M_thrown2 hM2 ?_
      refine xK1_c ?_
      refine xg_iload xa_L_law_422 rfl ?_
      refine xg_icmp_eq xa_L_law_424 (fun _ => ?_) (fun z => absurd rfl z)
      refine xg_goto xa_L_law_429 ?_
      exact K _ _ _ _ _ ⟨_, _, _, _, _, _, _, _, _, _, _, _, _, _, _, _, _, hM2, hC2, I, ⟨_, ho2⟩, by omega⟩ (by omega) (by omega)
    refine xg_aload_n xa_L_law_368 rfl ?_
    refine xg_aload_s xa_L_law_369 rfl ?_
    refine xg_iload xa_L_law_370 rfl ?_
    refine xg_iconst (v := 1) xa_L_law_372 (by decide) ?_
    refine xg_iadd xa_L_law_373 (xi_p1 i) ?_
    refine xg_sld_n xa_L_law_374 (by omega) hLS ?_
    refine xg_aload_s xa_L_law_375 rfl ?_
    refine xg_iload xa_L_law_376 rfl ?_
    refine xg_iconst (v := 2) xa_L_law_378 (by decide) ?_
    refine xg_iadd xa_L_law_379 (xi_p2 i) ?_
    refine xg_sld_n xa_L_law_380 (by omega) hLS ?_
    refine xg_if_eq xa_L_law_381 (fun _ => ?_) (fun z => absurd hz z)
    refine xg_iconst (v := 0) xa_L_law_388 (by decide) ?_
    refine xg_callS1 xa_L_law_389 ⟨Nat.le_of_ble_eq_true rfl, Nat.le_of_ble_eq_true rfl, rfl⟩ rfl rfl ?_
    refine c_L_lock ⟨_, f0⟩ ?_
    refine c_F_lock (v := false) I.1.1 hC (fun e => xw0_t (c := 1) (by simp) (fun b => xK1_d (thr 1 5 _ (by decide) e))) (fun e => xw0_t (c := 2) (by simp) (fun b => xK1_d (thr 2 6 _ (by decide) e))) (fun e0 f h1 fl1 hf ef hv hC1 s1 => ?_)
    refine xw0_n (fun b => xK1_d ?_)
    have hM2 : xMs h1 Mc Mn Mm Mh Me Ml Mbr Mlk Mt Mg Ma Mb Mw Mwk Msp Mon Mct := xMs_keep (fun j h1 h2 => s1.2 j (by omega)) hM
    have hC2 := hC1
    have ho2 := (s1.2 40 (by omega)).trans ho
    have hs1 := s1.1
    obtain ⟨fs2, g2⟩ := xMs_22 hM2
    refine xg_istore (L' := [_, _, _, _, _, _, _]) xa_L_law_392 (Nat.le_of_ble_eq_true rfl) rfl ?_
    refine xg_aload_n xa_L_law_394 rfl ?_
    refine xg_aload_s xa_L_law_395 rfl ?_
    refine xg_iload xa_L_law_396 rfl ?_
    refine xg_iconst (v := 1) xa_L_law_398 (by decide) ?_
    refine xg_iadd xa_L_law_399 (xi_p1 i) ?_
    refine xg_sld_n xa_L_law_400 (by omega) hLS ?_
    refine xg_aload_s xa_L_law_401 rfl ?_
    refine xg_iload xa_L_law_402 rfl ?_
    refine xg_iconst (v := 2) xa_L_law_404 (by decide) ?_
    refine xg_iadd xa_L_law_405 (xi_p2 i) ?_
    refine xg_sld_n xa_L_law_406 (by omega) hLS ?_
    refine xg_if_eq xa_L_law_407 (fun _ => ?_) (fun z => absurd hz z)
    refine xg_iconst (v := 0) xa_L_law_414 (by decide) ?_
    refine xg_callV0 xa_L_law_415 ⟨Nat.le_of_ble_eq_true rfl, Nat.le_of_ble_eq_true rfl, rfl⟩ rfl rfl g2 ?_
    refine c_M_lock (on := false) I.1.1 hM2 (fun v' hv' e' => absurd (e'.symm.trans e0) hv') (fun _ f' h3 fl3 hf' ef' _ hM3 s3 => ?_)
    have hn7 := I.1.2.1
    have hm14 := I.1.1
    obtain rfl : f' = f := (nI_eq (by omega) (by omega)).mp (ef'.symm.trans ef)
    obtain ⟨fs3, g3⟩ := xMs_22 hM3
    have hC3 := xCS_keep (fun j hj => s3.2 j (by omega)) hC2
    have ho3 := (s3.2 40 (by omega)).trans ho2
    have hs3 := s3.1
    refine xK0_d ?_
    refine xg_aload_n xa_L_law_418 rfl ?_
    refine xg_callV1 xa_L_law_419 ⟨Nat.le_of_ble_eq_true rfl, Nat.le_of_ble_eq_true rfl, rfl⟩ rfl rfl g3 ?_
    refine c_M_thrown2 hM3 ?_
    refine xK1_c ?_
    refine xg_iload xa_L_law_422 rfl ?_
    refine xg_icmp_eq xa_L_law_424 (fun _ => ?_) (fun z => absurd rfl z)
    refine xg_goto xa_L_law_429 ?_
    exact K _ _ _ _ _ ⟨_, _, _, _, _, _, _, _, _, _, _, _, _, _, _, _, _, hM3, hC3, (I), ⟨_, ho3⟩, by omega⟩ (by omega) (by omega)
  · have thr : ∀ (v : Int32) (ci : Nat) (b : Bool), ¬ v = 0 → cd_lock Mm Mlk (xs (i + 1)) true = v → xG xs LS 10 104 (392, [some (.retAddr 0), some (.ref 0), some (.ref 22), some (.ref 40), some (.int (nI i)), j5, j6], [.int v]) (h ++ [.inr (ci, [])], ks + 6, b) Q := by
      intro v ci b hv e
      have hM1 := xMs_app (ci := ci) hl41 hM
      have hC1 := xCS_app (ci := ci) hl41 hC
      have ho1 := xo_app (ci := ci) hl41 ho
      have hln := xl_app (h := h) (ci := ci)
      obtain ⟨fs1, g1⟩ := xMs_22 hM1
      refine xg_istore (L' := [_, _, _, _, _, _, _]) xa_L_law_392 (Nat.le_of_ble_eq_true rfl) rfl ?_
      refine xg_aload_n xa_L_law_394 rfl ?_
      refine xg_aload_s xa_L_law_395 rfl ?_
      refine xg_iload xa_L_law_396 rfl ?_
      refine xg_iconst (v := 1) xa_L_law_398 (by decide) ?_
      refine xg_iadd xa_L_law_399 (xi_p1 i) ?_
      refine xg_sld_n xa_L_law_400 (by omega) hLS ?_
      refine xg_aload_s xa_L_law_401 rfl ?_
      refine xg_iload xa_L_law_402 rfl ?_
      refine xg_iconst (v := 2) xa_L_law_404 (by decide) ?_
      refine xg_iadd xa_L_law_405 (xi_p2 i) ?_
      refine xg_sld_n xa_L_law_406 (by omega) hLS ?_
      refine xg_if_eq xa_L_law_407 (fun z => absurd z hz) (fun _ => ?_)
      refine xg_iconst (v := 1) xa_L_law_410 (by decide) ?_
      refine xg_goto xa_L_law_411 ?_
      refine xg_callV0 xa_L_law_415 ⟨Nat.le_of_ble_eq_true rfl, Nat.le_of_ble_eq_true rfl, rfl⟩ rfl rfl g1 ?_
      refine c_M_lock (on := true) I.1.1 hM1 (fun v' hv' e' h2 fl2 hM2 s2 => ?_) (fun e0 => absurd (e.symm.trans e0) hv)
      obtain rfl : v' = v := e'.symm.trans e
      obtain ⟨fs2, g2⟩ := xMs_22 hM2
      have hC2 := xCS_keep (fun j hj => s2.2 j (by omega)) hC1
      have ho2 := (s2.2 40 (by omega)).trans ho1
      have hs2 := s2.1
      refine xK0_d ?_
      refine xg_aload_n xa_L_law_418 rfl ?_
      refine xg_callV1 xa_L_law_419 ⟨Nat.le_of_ble_eq_true rfl, Nat.le_of_ble_eq_true rfl, rfl⟩ rfl rfl g2 ?_
      refine c_M_thrown2 hM2 ?_
      refine xK1_c ?_
      refine xg_iload xa_L_law_422 rfl ?_
      refine xg_icmp_eq xa_L_law_424 (fun _ => ?_) (fun z => absurd rfl z)
      refine xg_goto xa_L_law_429 ?_
      exact K _ _ _ _ _ ⟨_, _, _, _, _, _, _, _, _, _, _, _, _, _, _, _, _, hM2, hC2, I, ⟨_, ho2⟩, by omega⟩ (by omega) (by omega)
    refine xg_aload_n xa_L_law_368 rfl ?_
    refine xg_aload_s xa_L_law_369 rfl ?_
    refine xg_iload xa_L_law_370 rfl ?_
    refine xg_iconst (v := 1) xa_L_law_372 (by decide) ?_
    refine xg_iadd xa_L_law_373 (xi_p1 i) ?_
    refine xg_sld_n xa_L_law_374 (by omega) hLS ?_
    refine xg_aload_s xa_L_law_375 rfl ?_
    refine xg_iload xa_L_law_376 rfl ?_
    refine xg_iconst (v := 2) xa_L_law_378 (by decide) ?_
    refine xg_iadd xa_L_law_379 (xi_p2 i) ?_
    refine xg_sld_n xa_L_law_380 (by omega) hLS ?_
    refine xg_if_eq xa_L_law_381 (fun z => absurd z hz) (fun _ => ?_)
    refine xg_iconst (v := 1) xa_L_law_384 (by decide) ?_
    refine xg_goto xa_L_law_385 ?_
    refine xg_callS1 xa_L_law_389 ⟨Nat.le_of_ble_eq_true rfl, Nat.le_of_ble_eq_true rfl, rfl⟩ rfl rfl ?_
    refine c_L_lock ⟨_, f0⟩ ?_
    refine c_F_lock (v := true) I.1.1 hC (fun e => xw0_t (c := 1) (by simp) (fun b => xK1_d (thr 1 5 _ (by decide) e))) (fun e => xw0_t (c := 2) (by simp) (fun b => xK1_d (thr 2 6 _ (by decide) e))) (fun e0 f h1 fl1 hf ef hv hC1 s1 => ?_)
    refine xw0_n (fun b => xK1_d ?_)
    have hM2 : xMs h1 Mc Mn Mm Mh Me Ml Mbr Mlk Mt Mg Ma Mb Mw Mwk Msp Mon Mct := xMs_keep (fun j h1 h2 => s1.2 j (by omega)) hM
    have hC2 := hC1
    have ho2 := (s1.2 40 (by omega)).trans ho
    have hs1 := s1.1
    obtain ⟨fs2, g2⟩ := xMs_22 hM2
    refine xg_istore (L' := [_, _, _, _, _, _, _]) xa_L_law_392 (Nat.le_of_ble_eq_true rfl) rfl ?_
    refine xg_aload_n xa_L_law_394 rfl ?_
    refine xg_aload_s xa_L_law_395 rfl ?_
    refine xg_iload xa_L_law_396 rfl ?_
    refine xg_iconst (v := 1) xa_L_law_398 (by decide) ?_
    refine xg_iadd xa_L_law_399 (xi_p1 i) ?_
    refine xg_sld_n xa_L_law_400 (by omega) hLS ?_
    refine xg_aload_s xa_L_law_401 rfl ?_
    refine xg_iload xa_L_law_402 rfl ?_
    refine xg_iconst (v := 2) xa_L_law_404 (by decide) ?_
    refine xg_iadd xa_L_law_405 (xi_p2 i) ?_
    refine xg_sld_n xa_L_law_406 (by omega) hLS ?_
    refine xg_if_eq xa_L_law_407 (fun z => absurd z hz) (fun _ => ?_)
    refine xg_iconst (v := 1) xa_L_law_410 (by decide) ?_
    refine xg_goto xa_L_law_411 ?_
    refine xg_callV0 xa_L_law_415 ⟨Nat.le_of_ble_eq_true rfl, Nat.le_of_ble_eq_true rfl, rfl⟩ rfl rfl g2 ?_
    refine c_M_lock (on := true) I.1.1 hM2 (fun v' hv' e' => absurd (e'.symm.trans e0) hv') (fun _ f' h3 fl3 hf' ef' _ hM3 s3 => ?_)
    have hn7 := I.1.2.1
    have hm14 := I.1.1
    obtain rfl : f' = f := (nI_eq (by omega) (by omega)).mp (ef'.symm.trans ef)
    obtain ⟨fs3, g3⟩ := xMs_22 hM3
    have hC3 := xCS_keep (fun j hj => s3.2 j (by omega)) hC2
    have ho3 := (s3.2 40 (by omega)).trans ho2
    have hs3 := s3.1
    refine xK0_d ?_
    refine xg_aload_n xa_L_law_418 rfl ?_
    refine xg_callV1 xa_L_law_419 ⟨Nat.le_of_ble_eq_true rfl, Nat.le_of_ble_eq_true rfl, rfl⟩ rfl rfl g3 ?_
    refine c_M_thrown2 hM3 ?_
    refine xK1_c ?_
    refine xg_iload xa_L_law_422 rfl ?_
    refine xg_icmp_eq xa_L_law_424 (fun _ => ?_) (fun z => absurd rfl z)
    refine xg_goto xa_L_law_429 ?_
    exact K _ _ _ _ _ ⟨_, _, _, _, _, _, _, _, _, _, _, _, _, _, _, _, _, hM3, hC3, (I), ⟨_, ho3⟩, by omega⟩ (by omega) (by omega)
theorem l_cut {j5 j6 : Option Value} (I : xIn Mn Mm Mh Me Ml Mt Mg Ma Mb Mw Mwk Msp Mon Mct) (hM : xMs h Mc Mn Mm Mh Me Ml Mbr Mlk Mt Mg Ma Mb Mw Mwk Msp Mon Mct) (hC : xCS h Mn Mm Mh Me Ml Mbr Mlk Mt Mg Ma Mb Mw Mwk Msp Mon Mct) (ho : h[40]? = some (.inl (2, 1, .inr (.inl fo)))) (hl41 : 41 ≤ h.length) (hi : i + 3 < LS) (hLS : LS < 2 ^ 31)
    (K : ∀ h' ks' fl' j5 j6, xLw h' → h'.length ≤ h.length + 1 → ks' ≤ ks + 6 → xG xs LS 10 104 (1056, [some (.retAddr 0), some (.ref 0), some (.ref 22), some (.ref 40), some (.int (nI i)), j5, j6], []) (h', ks', fl') Q) :
    xG xs LS 10 104 (432, [some (.retAddr 0), some (.ref 0), some (.ref 22), some (.ref 40), some (.int (nI i)), j5, j6], []) (h, ks, fl) Q := by
  obtain ⟨fs0, f0⟩ := xCS_0 hC
  have thr : ∀ (v : Int32) (ci : Nat) (b : Bool), ¬ v = 0 → cd_cut Mm Mbr (xs (i + 1)) true = v → xG xs LS 10 104 (442, [some (.retAddr 0), some (.ref 0), some (.ref 22), some (.ref 40), some (.int (nI i)), j5, j6], [.int v]) (h ++ [.inr (ci, [])], ks + 6, b) Q := by
    intro v ci b hv e
    have hM1 := xMs_app (ci := ci) hl41 hM
    have hC1 := xCS_app (ci := ci) hl41 hC
    have ho1 := xo_app (ci := ci) hl41 ho
    have hln := xl_app (h := h) (ci := ci)
    obtain ⟨fs1, g1⟩ := xMs_22 hM1
    refine xg_istore (L' := [_, _, _, _, _, _, _]) xa_L_law_442 (Nat.le_of_ble_eq_true rfl) rfl ?_
    refine xg_aload_n xa_L_law_444 rfl ?_
    refine xg_aload_s xa_L_law_445 rfl ?_
    refine xg_iload xa_L_law_446 rfl ?_
    refine xg_iconst (v := 1) xa_L_law_448 (by decide) ?_
    refine xg_iadd xa_L_law_449 (xi_p1 i) ?_
    refine xg_sld_n xa_L_law_450 (by omega) hLS ?_
    refine xg_callV0 xa_L_law_451 ⟨Nat.le_of_ble_eq_true rfl, Nat.le_of_ble_eq_true rfl, rfl⟩ rfl rfl g1 ?_
    refine c_M_cut I.1.1 hM1 (fun v' hv' e' h2 fl2 hM2 s2 => ?_) (fun e0 => absurd (e.symm.trans e0) hv)
    obtain rfl : v' = v := e'.symm.trans e
    obtain ⟨fs2, g2⟩ := xMs_22 hM2
    have hC2 := xCS_keep (fun j hj => s2.2 j (by omega)) hC1
    have ho2 := (s2.2 40 (by omega)).trans ho1
    have hs2 := s2.1
    refine xK0_d ?_
    refine xg_aload_n xa_L_law_454 rfl ?_
    refine xg_callV1 xa_L_law_455 ⟨Nat.le_of_ble_eq_true rfl, Nat.le_of_ble_eq_true rfl, rfl⟩ rfl rfl g2 ?_
    refine c_M_thrown2 hM2 ?_
    refine xK1_c ?_
    refine xg_iload xa_L_law_458 rfl ?_
    refine xg_icmp_eq xa_L_law_460 (fun _ => ?_) (fun z => absurd rfl z)
    refine xg_goto xa_L_law_465 ?_
    exact K _ _ _ _ _ ⟨_, _, _, _, _, _, _, _, _, _, _, _, _, _, _, _, _, hM2, hC2, I, ⟨_, ho2⟩, by omega⟩ (by omega) (by omega)
  refine xg_aload_n xa_L_law_432 rfl ?_
  refine xg_aload_s xa_L_law_433 rfl ?_
  refine xg_iload xa_L_law_434 rfl ?_
  refine xg_iconst (v := 1) xa_L_law_436 (by decide) ?_
  refine xg_iadd xa_L_law_437 (xi_p1 i) ?_
  refine xg_sld_n xa_L_law_438 (by omega) hLS ?_
  refine xg_callS1 xa_L_law_439 ⟨Nat.le_of_ble_eq_true rfl, Nat.le_of_ble_eq_true rfl, rfl⟩ rfl rfl ?_
  refine c_L_cut ⟨_, f0⟩ ?_
  refine c_F_cut I hC (fun e => xw0_t (c := 1) (by simp) (fun b => xK1_d (thr 1 5 _ (by decide) e))) (fun e => xw0_t (c := 2) (by simp) (fun b => xK1_d (thr 2 6 _ (by decide) e))) (fun e0 f h1 fl1 hf ef hv hC1 s1 => ?_)
  refine xw0_n (fun b => xK1_d ?_)
  have hM2 : xMs h1 Mc Mn Mm Mh Me Ml Mbr Mlk Mt Mg Ma Mb Mw Mwk Msp Mon Mct := xMs_keep (fun j h1 h2 => s1.2 j (by omega)) hM
  have hC2 := hC1
  have ho2 := (s1.2 40 (by omega)).trans ho
  have hs1 := s1.1
  obtain ⟨fs2, g2⟩ := xMs_22 hM2
  refine xg_istore (L' := [_, _, _, _, _, _, _]) xa_L_law_442 (Nat.le_of_ble_eq_true rfl) rfl ?_
  refine xg_aload_n xa_L_law_444 rfl ?_
  refine xg_aload_s xa_L_law_445 rfl ?_
  refine xg_iload xa_L_law_446 rfl ?_
  refine xg_iconst (v := 1) xa_L_law_448 (by decide) ?_
  refine xg_iadd xa_L_law_449 (xi_p1 i) ?_
  refine xg_sld_n xa_L_law_450 (by omega) hLS ?_
  refine xg_callV0 xa_L_law_451 ⟨Nat.le_of_ble_eq_true rfl, Nat.le_of_ble_eq_true rfl, rfl⟩ rfl rfl g2 ?_
  refine c_M_cut I.1.1 hM2 (fun v' hv' e' => absurd (e'.symm.trans e0) hv') (fun _ f' h3 fl3 hf' ef' _ hM3 s3 => ?_)
  have hn7 := I.1.2.1
  have hm14 := I.1.1
  obtain rfl : f' = f := (nI_eq (by omega) (by omega)).mp (ef'.symm.trans ef)
  obtain ⟨fs3, g3⟩ := xMs_22 hM3
  have hC3 := xCS_keep (fun j hj => s3.2 j (by omega)) hC2
  have ho3 := (s3.2 40 (by omega)).trans ho2
  have hs3 := s3.1
  refine xK0_d ?_
  refine xg_aload_n xa_L_law_454 rfl ?_
  refine xg_callV1 xa_L_law_455 ⟨Nat.le_of_ble_eq_true rfl, Nat.le_of_ble_eq_true rfl, rfl⟩ rfl rfl g3 ?_
  refine c_M_thrown2 hM3 ?_
  refine xK1_c ?_
  refine xg_iload xa_L_law_458 rfl ?_
  refine xg_icmp_eq xa_L_law_460 (fun _ => ?_) (fun z => absurd rfl z)
  refine xg_goto xa_L_law_465 ?_
  exact K _ _ _ _ _ ⟨_, _, _, _, _, _, _, _, _, _, _, _, _, _, _, _, _, hM3, hC3, (I), ⟨_, ho3⟩, by omega⟩ (by omega) (by omega)
theorem l_mend {j5 j6 : Option Value} (I : xIn Mn Mm Mh Me Ml Mt Mg Ma Mb Mw Mwk Msp Mon Mct) (hM : xMs h Mc Mn Mm Mh Me Ml Mbr Mlk Mt Mg Ma Mb Mw Mwk Msp Mon Mct) (hC : xCS h Mn Mm Mh Me Ml Mbr Mlk Mt Mg Ma Mb Mw Mwk Msp Mon Mct) (ho : h[40]? = some (.inl (2, 1, .inr (.inl fo)))) (hl41 : 41 ≤ h.length) (hi : i + 3 < LS) (hLS : LS < 2 ^ 31)
    (K : ∀ h' ks' fl' j5 j6, xLw h' → h'.length ≤ h.length + 1 → ks' ≤ ks + 6 → xG xs LS 10 104 (1056, [some (.retAddr 0), some (.ref 0), some (.ref 22), some (.ref 40), some (.int (nI i)), j5, j6], []) (h', ks', fl') Q) :
    xG xs LS 10 104 (468, [some (.retAddr 0), some (.ref 0), some (.ref 22), some (.ref 40), some (.int (nI i)), j5, j6], []) (h, ks, fl) Q := by
  obtain ⟨fs0, f0⟩ := xCS_0 hC
  have thr : ∀ (v : Int32) (ci : Nat) (b : Bool), ¬ v = 0 → cd_cut Mm Mbr (xs (i + 1)) false = v → xG xs LS 10 104 (478, [some (.retAddr 0), some (.ref 0), some (.ref 22), some (.ref 40), some (.int (nI i)), j5, j6], [.int v]) (h ++ [.inr (ci, [])], ks + 6, b) Q := by
    intro v ci b hv e
    have hM1 := xMs_app (ci := ci) hl41 hM
    have hC1 := xCS_app (ci := ci) hl41 hC
    have ho1 := xo_app (ci := ci) hl41 ho
    have hln := xl_app (h := h) (ci := ci)
    obtain ⟨fs1, g1⟩ := xMs_22 hM1
    refine xg_istore (L' := [_, _, _, _, _, _, _]) xa_L_law_478 (Nat.le_of_ble_eq_true rfl) rfl ?_
    refine xg_aload_n xa_L_law_480 rfl ?_
    refine xg_aload_s xa_L_law_481 rfl ?_
    refine xg_iload xa_L_law_482 rfl ?_
    refine xg_iconst (v := 1) xa_L_law_484 (by decide) ?_
    refine xg_iadd xa_L_law_485 (xi_p1 i) ?_
    refine xg_sld_n xa_L_law_486 (by omega) hLS ?_
    refine xg_callV0 xa_L_law_487 ⟨Nat.le_of_ble_eq_true rfl, Nat.le_of_ble_eq_true rfl, rfl⟩ rfl rfl g1 ?_
    refine c_M_mend I.1.1 hM1 (fun v' hv' e' h2 fl2 hM2 s2 => ?_) (fun e0 => absurd (e.symm.trans e0) hv)
    obtain rfl : v' = v := e'.symm.trans e
    obtain ⟨fs2, g2⟩ := xMs_22 hM2
    have hC2 := xCS_keep (fun j hj => s2.2 j (by omega)) hC1
    have ho2 := (s2.2 40 (by omega)).trans ho1
    have hs2 := s2.1
    refine xK0_d ?_
    refine xg_aload_n xa_L_law_490 rfl ?_
    refine xg_callV1 xa_L_law_491 ⟨Nat.le_of_ble_eq_true rfl, Nat.le_of_ble_eq_true rfl, rfl⟩ rfl rfl g2 ?_
    refine c_M_thrown2 hM2 ?_
    refine xK1_c ?_
    refine xg_iload xa_L_law_494 rfl ?_
    refine xg_icmp_eq xa_L_law_496 (fun _ => ?_) (fun z => absurd rfl z)
    refine xg_goto xa_L_law_501 ?_
    exact K _ _ _ _ _ ⟨_, _, _, _, _, _, _, _, _, _, _, _, _, _, _, _, _, hM2, hC2, I, ⟨_, ho2⟩, by omega⟩ (by omega) (by omega)
  refine xg_aload_n xa_L_law_468 rfl ?_
  refine xg_aload_s xa_L_law_469 rfl ?_
  refine xg_iload xa_L_law_470 rfl ?_
  refine xg_iconst (v := 1) xa_L_law_472 (by decide) ?_
  refine xg_iadd xa_L_law_473 (xi_p1 i) ?_
  refine xg_sld_n xa_L_law_474 (by omega) hLS ?_
  refine xg_callS1 xa_L_law_475 ⟨Nat.le_of_ble_eq_true rfl, Nat.le_of_ble_eq_true rfl, rfl⟩ rfl rfl ?_
  refine c_L_mend ⟨_, f0⟩ ?_
  refine c_F_mend I hC (fun e => xw0_t (c := 1) (by simp) (fun b => xK1_d (thr 1 5 _ (by decide) e))) (fun e => xw0_t (c := 2) (by simp) (fun b => xK1_d (thr 2 6 _ (by decide) e))) (fun e0 f h1 fl1 hf ef hv hC1 s1 => ?_)
  refine xw0_n (fun b => xK1_d ?_)
  have hM2 : xMs h1 Mc Mn Mm Mh Me Ml Mbr Mlk Mt Mg Ma Mb Mw Mwk Msp Mon Mct := xMs_keep (fun j h1 h2 => s1.2 j (by omega)) hM
  have hC2 := hC1
  have ho2 := (s1.2 40 (by omega)).trans ho
  have hs1 := s1.1
  obtain ⟨fs2, g2⟩ := xMs_22 hM2
  refine xg_istore (L' := [_, _, _, _, _, _, _]) xa_L_law_478 (Nat.le_of_ble_eq_true rfl) rfl ?_
  refine xg_aload_n xa_L_law_480 rfl ?_
  refine xg_aload_s xa_L_law_481 rfl ?_
  refine xg_iload xa_L_law_482 rfl ?_
  refine xg_iconst (v := 1) xa_L_law_484 (by decide) ?_
  refine xg_iadd xa_L_law_485 (xi_p1 i) ?_
  refine xg_sld_n xa_L_law_486 (by omega) hLS ?_
  refine xg_callV0 xa_L_law_487 ⟨Nat.le_of_ble_eq_true rfl, Nat.le_of_ble_eq_true rfl, rfl⟩ rfl rfl g2 ?_
  refine c_M_mend I.1.1 hM2 (fun v' hv' e' => absurd (e'.symm.trans e0) hv') (fun _ f' h3 fl3 hf' ef' _ hM3 s3 => ?_)
  have hn7 := I.1.2.1
  have hm14 := I.1.1
  obtain rfl : f' = f := (nI_eq (by omega) (by omega)).mp (ef'.symm.trans ef)
  obtain ⟨fs3, g3⟩ := xMs_22 hM3
  have hC3 := xCS_keep (fun j hj => s3.2 j (by omega)) hC2
  have ho3 := (s3.2 40 (by omega)).trans ho2
  have hs3 := s3.1
  refine xK0_d ?_
  refine xg_aload_n xa_L_law_490 rfl ?_
  refine xg_callV1 xa_L_law_491 ⟨Nat.le_of_ble_eq_true rfl, Nat.le_of_ble_eq_true rfl, rfl⟩ rfl rfl g3 ?_
  refine c_M_thrown2 hM3 ?_
  refine xK1_c ?_
  refine xg_iload xa_L_law_494 rfl ?_
  refine xg_icmp_eq xa_L_law_496 (fun _ => ?_) (fun z => absurd rfl z)
  refine xg_goto xa_L_law_501 ?_
  exact K _ _ _ _ _ ⟨_, _, _, _, _, _, _, _, _, _, _, _, _, _, _, _, _, hM3, hC3, (I), ⟨_, ho3⟩, by omega⟩ (by omega) (by omega)
theorem l_hold {j5 j6 : Option Value} (I : xIn Mn Mm Mh Me Ml Mt Mg Ma Mb Mw Mwk Msp Mon Mct) (hM : xMs h Mc Mn Mm Mh Me Ml Mbr Mlk Mt Mg Ma Mb Mw Mwk Msp Mon Mct) (hC : xCS h Mn Mm Mh Me Ml Mbr Mlk Mt Mg Ma Mb Mw Mwk Msp Mon Mct) (ho : h[40]? = some (.inl (2, 1, .inr (.inl fo)))) (hl41 : 41 ≤ h.length) (hi : i + 3 < LS) (hLS : LS < 2 ^ 31)
    (K : ∀ h' ks' fl' j5 j6, xLw h' → h'.length ≤ h.length + 1 → ks' ≤ ks + 6 → xG xs LS 10 104 (1056, [some (.retAddr 0), some (.ref 0), some (.ref 22), some (.ref 40), some (.int (nI i)), j5, j6], []) (h', ks', fl') Q) :
    xG xs LS 10 104 (504, [some (.retAddr 0), some (.ref 0), some (.ref 22), some (.ref 40), some (.int (nI i)), j5, j6], []) (h, ks, fl) Q := by
  obtain ⟨fs0, f0⟩ := xCS_0 hC
  have thr : ∀ (v : Int32) (ci : Nat) (b : Bool), ¬ v = 0 → cd_hold (xs (i + 1)) = v → xG xs LS 10 104 (514, [some (.retAddr 0), some (.ref 0), some (.ref 22), some (.ref 40), some (.int (nI i)), j5, j6], [.int v]) (h ++ [.inr (ci, [])], ks + 6, b) Q := by
    intro v ci b hv e
    have hM1 := xMs_app (ci := ci) hl41 hM
    have hC1 := xCS_app (ci := ci) hl41 hC
    have ho1 := xo_app (ci := ci) hl41 ho
    have hln := xl_app (h := h) (ci := ci)
    obtain ⟨fs1, g1⟩ := xMs_22 hM1
    refine xg_istore (L' := [_, _, _, _, _, _, _]) xa_L_law_514 (Nat.le_of_ble_eq_true rfl) rfl ?_
    refine xg_aload_n xa_L_law_516 rfl ?_
    refine xg_aload_s xa_L_law_517 rfl ?_
    refine xg_iload xa_L_law_518 rfl ?_
    refine xg_iconst (v := 1) xa_L_law_520 (by decide) ?_
    refine xg_iadd xa_L_law_521 (xi_p1 i) ?_
    refine xg_sld_n xa_L_law_522 (by omega) hLS ?_
    refine xg_callV0 xa_L_law_523 ⟨Nat.le_of_ble_eq_true rfl, Nat.le_of_ble_eq_true rfl, rfl⟩ rfl rfl g1 ?_
    refine c_M_hold I.1.1 hM1 (fun e' h2 fl2 hM2 s2 => ?_) (fun e0 => absurd (e.symm.trans e0) hv)
    obtain rfl : v = 1 := e.symm.trans e'
    obtain ⟨fs2, g2⟩ := xMs_22 hM2
    have hC2 := xCS_keep (fun j hj => s2.2 j (by omega)) hC1
    have ho2 := (s2.2 40 (by omega)).trans ho1
    have hs2 := s2.1
    refine xK0_d ?_
    refine xg_aload_n xa_L_law_526 rfl ?_
    refine xg_callV1 xa_L_law_527 ⟨Nat.le_of_ble_eq_true rfl, Nat.le_of_ble_eq_true rfl, rfl⟩ rfl rfl g2 ?_
    refine c_M_thrown2 hM2 ?_
    refine xK1_c ?_
    refine xg_iload xa_L_law_530 rfl ?_
    refine xg_icmp_eq xa_L_law_532 (fun _ => ?_) (fun z => absurd rfl z)
    refine xg_goto xa_L_law_537 ?_
    exact K _ _ _ _ _ ⟨_, _, _, _, _, _, _, _, _, _, _, _, _, _, _, _, _, hM2, hC2, I, ⟨_, ho2⟩, by omega⟩ (by omega) (by omega)
  refine xg_aload_n xa_L_law_504 rfl ?_
  refine xg_aload_s xa_L_law_505 rfl ?_
  refine xg_iload xa_L_law_506 rfl ?_
  refine xg_iconst (v := 1) xa_L_law_508 (by decide) ?_
  refine xg_iadd xa_L_law_509 (xi_p1 i) ?_
  refine xg_sld_n xa_L_law_510 (by omega) hLS ?_
  refine xg_callS1 xa_L_law_511 ⟨Nat.le_of_ble_eq_true rfl, Nat.le_of_ble_eq_true rfl, rfl⟩ rfl rfl ?_
  refine c_L_hold ⟨_, f0⟩ ?_
  refine c_F_hold I hC (fun e => xw0_t (c := 1) (by simp) (fun b => xK1_d (thr 1 4 _ (by decide) e))) (fun e0 h1 fl1 hC1 s1 => ?_)
  refine xw0_n (fun b => xK1_d ?_)
  have hM2 : xMs h1 Mc Mn Mm Mh Me Ml Mbr Mlk Mt Mg Ma Mb Mw Mwk Msp Mon Mct := xMs_keep (fun j h1 h2 => s1.2 j (by omega)) hM
  have hC2 := hC1
  have ho2 := (s1.2 40 (by omega)).trans ho
  have hs1 := s1.1
  obtain ⟨fs2, g2⟩ := xMs_22 hM2
  refine xg_istore (L' := [_, _, _, _, _, _, _]) xa_L_law_514 (Nat.le_of_ble_eq_true rfl) rfl ?_
  refine xg_aload_n xa_L_law_516 rfl ?_
  refine xg_aload_s xa_L_law_517 rfl ?_
  refine xg_iload xa_L_law_518 rfl ?_
  refine xg_iconst (v := 1) xa_L_law_520 (by decide) ?_
  refine xg_iadd xa_L_law_521 (xi_p1 i) ?_
  refine xg_sld_n xa_L_law_522 (by omega) hLS ?_
  refine xg_callV0 xa_L_law_523 ⟨Nat.le_of_ble_eq_true rfl, Nat.le_of_ble_eq_true rfl, rfl⟩ rfl rfl g2 ?_
  refine c_M_hold I.1.1 hM2 (fun e' => absurd (e'.symm.trans e0) (by decide)) (fun _ h3 fl3 hM3 s3 => ?_)
  obtain ⟨fs3, g3⟩ := xMs_22 hM3
  have hC3 := xCS_keep (fun j hj => s3.2 j (by omega)) hC2
  have ho3 := (s3.2 40 (by omega)).trans ho2
  have hs3 := s3.1
  refine xK0_d ?_
  refine xg_aload_n xa_L_law_526 rfl ?_
  refine xg_callV1 xa_L_law_527 ⟨Nat.le_of_ble_eq_true rfl, Nat.le_of_ble_eq_true rfl, rfl⟩ rfl rfl g3 ?_
  refine c_M_thrown2 hM3 ?_
  refine xK1_c ?_
  refine xg_iload xa_L_law_530 rfl ?_
  refine xg_icmp_eq xa_L_law_532 (fun _ => ?_) (fun z => absurd rfl z)
  refine xg_goto xa_L_law_537 ?_
  exact K _ _ _ _ _ ⟨_, _, _, _, _, _, _, _, _, _, _, _, _, _, _, _, _, hM3, hC3, (I), ⟨_, ho3⟩, by omega⟩ (by omega) (by omega)
theorem l_path {j5 j6 : Option Value} (I : xIn Mn Mm Mh Me Ml Mt Mg Ma Mb Mw Mwk Msp Mon Mct) (hM : xMs h Mc Mn Mm Mh Me Ml Mbr Mlk Mt Mg Ma Mb Mw Mwk Msp Mon Mct) (hC : xCS h Mn Mm Mh Me Ml Mbr Mlk Mt Mg Ma Mb Mw Mwk Msp Mon Mct) (ho : h[40]? = some (.inl (2, 1, .inr (.inl fo)))) (hl41 : 41 ≤ h.length) (hi : i + 3 < LS) (hLS : LS < 2 ^ 31)
    (K : ∀ h' ks' fl' j5 j6, xLw h' → h'.length ≤ h.length + 1 → ks' ≤ ks + 6 → xG xs LS 10 104 (1056, [some (.retAddr 0), some (.ref 0), some (.ref 22), some (.ref 40), some (.int (nI i)), j5, j6], []) (h', ks', fl') Q) :
    xG xs LS 10 104 (551, [some (.retAddr 0), some (.ref 0), some (.ref 22), some (.ref 40), some (.int (nI i)), j5, j6], []) (h, ks, fl) Q := by
  obtain ⟨fs0, f0⟩ := xCS_0 hC
  by_cases hz : xs (i + 2) = 0
  · obtain ⟨PL, hPL⟩ := i_paths false I
    have thr : ∀ (v : Int32) (ci : Nat) (b : Bool), ¬ v = 0 → cd_conn Mt (xs (i + 1)) = v → xG xs LS 10 104 (582, [some (.retAddr 0), some (.ref 0), some (.ref 22), some (.ref 40), some (.int (nI i)), j5, j6], [.int v]) (h ++ [.inr (ci, [])], ks + 6, b) Q := by
      intro v ci b hv e
      have hM1 := xMs_app (ci := ci) hl41 hM
      have hC1 := xCS_app (ci := ci) hl41 hC
      have ho1 := xo_app (ci := ci) hl41 ho
      have hln := xl_app (h := h) (ci := ci)
      obtain ⟨fs1, g1⟩ := xMs_22 hM1
      refine xg_istore (L' := [_, _, _, _, _, _, _]) xa_L_law_582 (Nat.le_of_ble_eq_true rfl) rfl ?_
      refine xg_aload_n xa_L_law_584 rfl ?_
      refine xg_aload_s xa_L_law_585 rfl ?_
      refine xg_iload xa_L_law_586 rfl ?_
      refine xg_iconst (v := 1) xa_L_law_588 (by decide) ?_
      refine xg_iadd xa_L_law_589 (xi_p1 i) ?_
      refine xg_sld_n xa_L_law_590 (by omega) hLS ?_
      refine xg_aload_s xa_L_law_591 rfl ?_
      refine xg_iload xa_L_law_592 rfl ?_
      refine xg_iconst (v := 2) xa_L_law_594 (by decide) ?_
      refine xg_iadd xa_L_law_595 (xi_p2 i) ?_
      refine xg_sld_n xa_L_law_596 (by omega) hLS ?_
      refine xg_if_eq xa_L_law_597 (fun _ => ?_) (fun z => absurd hz z)
      refine xg_iconst (v := 0) xa_L_law_604 (by decide) ?_
      refine xg_aload_s xa_L_law_605 rfl ?_
      refine xg_iload xa_L_law_606 rfl ?_
      refine xg_iconst (v := 3) xa_L_law_608 (by decide) ?_
      refine xg_iadd xa_L_law_609 (xi_p3 i) ?_
      refine xg_sld_n xa_L_law_610 (by omega) hLS ?_
      refine xg_callV1 xa_L_law_611 ⟨Nat.le_of_ble_eq_true rfl, Nat.le_of_ble_eq_true rfl, rfl⟩ rfl rfl g1 ?_
      refine c_M_path (sp := false) I hPL hM1 (fun e' h2 fl2 hM2 s2 => ?_) (fun e0 => absurd (e.symm.trans e0) hv)
      obtain rfl : v = 1 := e.symm.trans e'
      obtain ⟨fs2, g2⟩ := xMs_22 hM2
      have hC2 := xCS_keep (fun j hj => s2.2 j (by omega)) hC1
      have ho2 := (s2.2 40 (by omega)).trans ho1
      have hs2 := s2.1
      refine xK1_d ?_
      refine xg_istore (L' := [_, _, _, _, _, _, _]) xa_L_law_614 (Nat.le_of_ble_eq_true rfl) rfl ?_
      refine xg_aload_n xa_L_law_616 rfl ?_
      refine xg_callV1 xa_L_law_617 ⟨Nat.le_of_ble_eq_true rfl, Nat.le_of_ble_eq_true rfl, rfl⟩ rfl rfl g2 ?_
      refine c_M_thrown2 hM2 ?_
      refine xK1_c ?_
      refine xg_iload xa_L_law_620 rfl ?_
      refine xg_icmp_eq xa_L_law_622 (fun _ => ?_) (fun z => absurd rfl z)
      refine xg_iload xa_L_law_627 rfl ?_
      refine xg_if_ne xa_L_law_629 (fun _ => ?_) (fun z => absurd z hv)
      refine xg_goto xa_L_law_644 ?_
      exact K _ _ _ _ _ ⟨_, _, _, _, _, _, _, _, _, _, _, _, _, _, _, _, _, hM2, hC2, I, ⟨_, ho2⟩, by omega⟩ (by omega) (by omega)
    refine xg_aload_n xa_L_law_551 rfl ?_
    refine xg_aload_s xa_L_law_552 rfl ?_
    refine xg_iload xa_L_law_553 rfl ?_
    refine xg_iconst (v := 1) xa_L_law_555 (by decide) ?_
    refine xg_iadd xa_L_law_556 (xi_p1 i) ?_
    refine xg_sld_n xa_L_law_557 (by omega) hLS ?_
    refine xg_aload_s xa_L_law_558 rfl ?_
    refine xg_iload xa_L_law_559 rfl ?_
    refine xg_iconst (v := 2) xa_L_law_561 (by decide) ?_
    refine xg_iadd xa_L_law_562 (xi_p2 i) ?_
    refine xg_sld_n xa_L_law_563 (by omega) hLS ?_
    refine xg_if_eq xa_L_law_564 (fun _ => ?_) (fun z => absurd hz z)
    refine xg_iconst (v := 0) xa_L_law_571 (by decide) ?_
    refine xg_aload_s xa_L_law_572 rfl ?_
    refine xg_iload xa_L_law_573 rfl ?_
    refine xg_iconst (v := 3) xa_L_law_575 (by decide) ?_
    refine xg_iadd xa_L_law_576 (xi_p3 i) ?_
    refine xg_sld_n xa_L_law_577 (by omega) hLS ?_
    refine xg_aload_n xa_L_law_578 rfl ?_
    refine xg_callS1 xa_L_law_579 ⟨Nat.le_of_ble_eq_true rfl, Nat.le_of_ble_eq_true rfl, rfl⟩ rfl rfl ?_
    refine c_L_path ⟨_, f0⟩ ?_
    refine c_F_path (sp := false) I hPL hC (fun e => xw1_t (c := 1) (by simp) (fun b => xK1_d (thr 1 5 _ (by decide) e))) (fun e0 c fl1 hc ec ht => ?_)
    have s1 : xS h h 0 22 := xS.rf
    refine xw1_n ((s1.2 40 (by omega)).trans ho) (fun h2 b u => xK1_d ?_)
    have hM2 : xMs h2 Mc Mn Mm Mh Me Ml Mbr Mlk Mt Mg Ma Mb Mw Mwk Msp Mon Mct := xMs_keep (fun j h1 h2 => (u.2.2 j (by omega)).trans (s1.2 j (by omega))) hM
    have hC2 := xCS_keep (fun j hj => u.2.2 j (by omega)) hC
    have ho2 := u.2.1
    have hs1 := s1.1
    have hu1 := u.1
    obtain ⟨fs2, g2⟩ := xMs_22 hM2
    refine xg_istore (L' := [_, _, _, _, _, _, _]) xa_L_law_582 (Nat.le_of_ble_eq_true rfl) rfl ?_
    refine xg_aload_n xa_L_law_584 rfl ?_
    refine xg_aload_s xa_L_law_585 rfl ?_
    refine xg_iload xa_L_law_586 rfl ?_
    refine xg_iconst (v := 1) xa_L_law_588 (by decide) ?_
    refine xg_iadd xa_L_law_589 (xi_p1 i) ?_
    refine xg_sld_n xa_L_law_590 (by omega) hLS ?_
    refine xg_aload_s xa_L_law_591 rfl ?_
    refine xg_iload xa_L_law_592 rfl ?_
    refine xg_iconst (v := 2) xa_L_law_594 (by decide) ?_
    refine xg_iadd xa_L_law_595 (xi_p2 i) ?_
    refine xg_sld_n xa_L_law_596 (by omega) hLS ?_
    refine xg_if_eq xa_L_law_597 (fun _ => ?_) (fun z => absurd hz z)
    refine xg_iconst (v := 0) xa_L_law_604 (by decide) ?_
    refine xg_aload_s xa_L_law_605 rfl ?_
    refine xg_iload xa_L_law_606 rfl ?_
    refine xg_iconst (v := 3) xa_L_law_608 (by decide) ?_
    refine xg_iadd xa_L_law_609 (xi_p3 i) ?_
    refine xg_sld_n xa_L_law_610 (by omega) hLS ?_
    refine xg_callV1 xa_L_law_611 ⟨Nat.le_of_ble_eq_true rfl, Nat.le_of_ble_eq_true rfl, rfl⟩ rfl rfl g2 ?_
    refine c_M_path (sp := false) I hPL hM2 (fun e' => absurd (e'.symm.trans e0) (by decide)) (fun _ c' h3 fl3 hc' ec' _ hM3 s3 => ?_)
    have hn7 := I.1.2.1
    have hm14 := I.1.1
    obtain rfl : c' = c := (nI_eq (by omega) (by omega)).mp (ec'.symm.trans ec)
    obtain ⟨fs3, g3⟩ := xMs_22 hM3
    have hC3 := xCS_keep (fun j hj => s3.2 j (by omega)) hC2
    have ho3 := (s3.2 40 (by omega)).trans ho2
    have hs3 := s3.1
    refine xK1_d ?_
    refine xg_istore (L' := [_, _, _, _, _, _, _]) xa_L_law_614 (Nat.le_of_ble_eq_true rfl) rfl ?_
    refine xg_aload_n xa_L_law_616 rfl ?_
    refine xg_callV1 xa_L_law_617 ⟨Nat.le_of_ble_eq_true rfl, Nat.le_of_ble_eq_true rfl, rfl⟩ rfl rfl g3 ?_
    refine c_M_thrown2 hM3 ?_
    refine xK1_c ?_
    refine xg_iload xa_L_law_620 rfl ?_
    refine xg_icmp_eq xa_L_law_622 (fun _ => ?_) (fun z => absurd rfl z)
    refine xg_iload xa_L_law_627 rfl ?_
    refine xg_if_ne xa_L_law_629 (fun z => absurd rfl z) (fun _ => ?_)
    refine xg_aload_n xa_L_law_632 rfl ?_
    refine xg_iconst (v := 0) xa_L_law_633 (by decide) ?_
    refine xg_lald xa_L_law_634 ho3 rfl (by decide) (xo_0 _ _) ?_
    refine xg_iload xa_L_law_635 rfl ?_
    refine xg_i2l xa_L_law_637 rfl ?_
    refine xg_lcmp xa_L_law_638 (xo_c _) ?_
    refine xg_if_eq xa_L_law_639 (fun _ => ?_) (fun z => absurd rfl z)
    refine xg_goto xa_L_law_644 ?_
    exact K _ _ _ _ _ ⟨_, _, _, _, _, _, _, _, _, _, _, _, _, _, _, _, _, hM3, hC3, (I), ⟨_, ho3⟩, by omega⟩ (by omega) (by omega)
  · obtain ⟨PL, hPL⟩ := i_paths true I
    have thr : ∀ (v : Int32) (ci : Nat) (b : Bool), ¬ v = 0 → cd_conn Mt (xs (i + 1)) = v → xG xs LS 10 104 (582, [some (.retAddr 0), some (.ref 0), some (.ref 22), some (.ref 40), some (.int (nI i)), j5, j6], [.int v]) (h ++ [.inr (ci, [])], ks + 6, b) Q := by
      intro v ci b hv e
      have hM1 := xMs_app (ci := ci) hl41 hM
      have hC1 := xCS_app (ci := ci) hl41 hC
      have ho1 := xo_app (ci := ci) hl41 ho
      have hln := xl_app (h := h) (ci := ci)
      obtain ⟨fs1, g1⟩ := xMs_22 hM1
      refine xg_istore (L' := [_, _, _, _, _, _, _]) xa_L_law_582 (Nat.le_of_ble_eq_true rfl) rfl ?_
      refine xg_aload_n xa_L_law_584 rfl ?_
      refine xg_aload_s xa_L_law_585 rfl ?_
      refine xg_iload xa_L_law_586 rfl ?_
      refine xg_iconst (v := 1) xa_L_law_588 (by decide) ?_
      refine xg_iadd xa_L_law_589 (xi_p1 i) ?_
      refine xg_sld_n xa_L_law_590 (by omega) hLS ?_
      refine xg_aload_s xa_L_law_591 rfl ?_
      refine xg_iload xa_L_law_592 rfl ?_
      refine xg_iconst (v := 2) xa_L_law_594 (by decide) ?_
      refine xg_iadd xa_L_law_595 (xi_p2 i) ?_
      refine xg_sld_n xa_L_law_596 (by omega) hLS ?_
      refine xg_if_eq xa_L_law_597 (fun z => absurd z hz) (fun _ => ?_)
      refine xg_iconst (v := 1) xa_L_law_600 (by decide) ?_
      refine xg_goto xa_L_law_601 ?_
      refine xg_aload_s xa_L_law_605 rfl ?_
      refine xg_iload xa_L_law_606 rfl ?_
      refine xg_iconst (v := 3) xa_L_law_608 (by decide) ?_
      refine xg_iadd xa_L_law_609 (xi_p3 i) ?_
      refine xg_sld_n xa_L_law_610 (by omega) hLS ?_
      refine xg_callV1 xa_L_law_611 ⟨Nat.le_of_ble_eq_true rfl, Nat.le_of_ble_eq_true rfl, rfl⟩ rfl rfl g1 ?_
      refine c_M_path (sp := true) I hPL hM1 (fun e' h2 fl2 hM2 s2 => ?_) (fun e0 => absurd (e.symm.trans e0) hv)
      obtain rfl : v = 1 := e.symm.trans e'
      obtain ⟨fs2, g2⟩ := xMs_22 hM2
      have hC2 := xCS_keep (fun j hj => s2.2 j (by omega)) hC1
      have ho2 := (s2.2 40 (by omega)).trans ho1
      have hs2 := s2.1
      refine xK1_d ?_
      refine xg_istore (L' := [_, _, _, _, _, _, _]) xa_L_law_614 (Nat.le_of_ble_eq_true rfl) rfl ?_
      refine xg_aload_n xa_L_law_616 rfl ?_
      refine xg_callV1 xa_L_law_617 ⟨Nat.le_of_ble_eq_true rfl, Nat.le_of_ble_eq_true rfl, rfl⟩ rfl rfl g2 ?_
      refine c_M_thrown2 hM2 ?_
      refine xK1_c ?_
      refine xg_iload xa_L_law_620 rfl ?_
      refine xg_icmp_eq xa_L_law_622 (fun _ => ?_) (fun z => absurd rfl z)
      refine xg_iload xa_L_law_627 rfl ?_
      refine xg_if_ne xa_L_law_629 (fun _ => ?_) (fun z => absurd z hv)
      refine xg_goto xa_L_law_644 ?_
      exact K _ _ _ _ _ ⟨_, _, _, _, _, _, _, _, _, _, _, _, _, _, _, _, _, hM2, hC2, I, ⟨_, ho2⟩, by omega⟩ (by omega) (by omega)
    refine xg_aload_n xa_L_law_551 rfl ?_
    refine xg_aload_s xa_L_law_552 rfl ?_
    refine xg_iload xa_L_law_553 rfl ?_
    refine xg_iconst (v := 1) xa_L_law_555 (by decide) ?_
    refine xg_iadd xa_L_law_556 (xi_p1 i) ?_
    refine xg_sld_n xa_L_law_557 (by omega) hLS ?_
    refine xg_aload_s xa_L_law_558 rfl ?_
    refine xg_iload xa_L_law_559 rfl ?_
    refine xg_iconst (v := 2) xa_L_law_561 (by decide) ?_
    refine xg_iadd xa_L_law_562 (xi_p2 i) ?_
    refine xg_sld_n xa_L_law_563 (by omega) hLS ?_
    refine xg_if_eq xa_L_law_564 (fun z => absurd z hz) (fun _ => ?_)
    refine xg_iconst (v := 1) xa_L_law_567 (by decide) ?_
    refine xg_goto xa_L_law_568 ?_
    refine xg_aload_s xa_L_law_572 rfl ?_
    refine xg_iload xa_L_law_573 rfl ?_
    refine xg_iconst (v := 3) xa_L_law_575 (by decide) ?_
    refine xg_iadd xa_L_law_576 (xi_p3 i) ?_
    refine xg_sld_n xa_L_law_577 (by omega) hLS ?_
    refine xg_aload_n xa_L_law_578 rfl ?_
    refine xg_callS1 xa_L_law_579 ⟨Nat.le_of_ble_eq_true rfl, Nat.le_of_ble_eq_true rfl, rfl⟩ rfl rfl ?_
    refine c_L_path ⟨_, f0⟩ ?_
    refine c_F_path (sp := true) I hPL hC (fun e => xw1_t (c := 1) (by simp) (fun b => xK1_d (thr 1 5 _ (by decide) e))) (fun e0 c fl1 hc ec ht => ?_)
    have s1 : xS h h 0 22 := xS.rf
    refine xw1_n ((s1.2 40 (by omega)).trans ho) (fun h2 b u => xK1_d ?_)
    have hM2 : xMs h2 Mc Mn Mm Mh Me Ml Mbr Mlk Mt Mg Ma Mb Mw Mwk Msp Mon Mct := xMs_keep (fun j h1 h2 => (u.2.2 j (by omega)).trans (s1.2 j (by omega))) hM
    have hC2 := xCS_keep (fun j hj => u.2.2 j (by omega)) hC
    have ho2 := u.2.1
    have hs1 := s1.1
    have hu1 := u.1
    obtain ⟨fs2, g2⟩ := xMs_22 hM2
    refine xg_istore (L' := [_, _, _, _, _, _, _]) xa_L_law_582 (Nat.le_of_ble_eq_true rfl) rfl ?_
    refine xg_aload_n xa_L_law_584 rfl ?_
    refine xg_aload_s xa_L_law_585 rfl ?_
    refine xg_iload xa_L_law_586 rfl ?_
    refine xg_iconst (v := 1) xa_L_law_588 (by decide) ?_
    refine xg_iadd xa_L_law_589 (xi_p1 i) ?_
    refine xg_sld_n xa_L_law_590 (by omega) hLS ?_
    refine xg_aload_s xa_L_law_591 rfl ?_
    refine xg_iload xa_L_law_592 rfl ?_
    refine xg_iconst (v := 2) xa_L_law_594 (by decide) ?_
    refine xg_iadd xa_L_law_595 (xi_p2 i) ?_
    refine xg_sld_n xa_L_law_596 (by omega) hLS ?_
    refine xg_if_eq xa_L_law_597 (fun z => absurd z hz) (fun _ => ?_)
    refine xg_iconst (v := 1) xa_L_law_600 (by decide) ?_
    refine xg_goto xa_L_law_601 ?_
    refine xg_aload_s xa_L_law_605 rfl ?_
    refine xg_iload xa_L_law_606 rfl ?_
    refine xg_iconst (v := 3) xa_L_law_608 (by decide) ?_
    refine xg_iadd xa_L_law_609 (xi_p3 i) ?_
    refine xg_sld_n xa_L_law_610 (by omega) hLS ?_
    refine xg_callV1 xa_L_law_611 ⟨Nat.le_of_ble_eq_true rfl, Nat.le_of_ble_eq_true rfl, rfl⟩ rfl rfl g2 ?_
    refine c_M_path (sp := true) I hPL hM2 (fun e' => absurd (e'.symm.trans e0) (by decide)) (fun _ c' h3 fl3 hc' ec' _ hM3 s3 => ?_)
    have hn7 := I.1.2.1
    have hm14 := I.1.1
    obtain rfl : c' = c := (nI_eq (by omega) (by omega)).mp (ec'.symm.trans ec)
    obtain ⟨fs3, g3⟩ := xMs_22 hM3
    have hC3 := xCS_keep (fun j hj => s3.2 j (by omega)) hC2
    have ho3 := (s3.2 40 (by omega)).trans ho2
    have hs3 := s3.1
    refine xK1_d ?_
    refine xg_istore (L' := [_, _, _, _, _, _, _]) xa_L_law_614 (Nat.le_of_ble_eq_true rfl) rfl ?_
    refine xg_aload_n xa_L_law_616 rfl ?_
    refine xg_callV1 xa_L_law_617 ⟨Nat.le_of_ble_eq_true rfl, Nat.le_of_ble_eq_true rfl, rfl⟩ rfl rfl g3 ?_
    refine c_M_thrown2 hM3 ?_
    refine xK1_c ?_
    refine xg_iload xa_L_law_620 rfl ?_
    refine xg_icmp_eq xa_L_law_622 (fun _ => ?_) (fun z => absurd rfl z)
    refine xg_iload xa_L_law_627 rfl ?_
    refine xg_if_ne xa_L_law_629 (fun z => absurd rfl z) (fun _ => ?_)
    refine xg_aload_n xa_L_law_632 rfl ?_
    refine xg_iconst (v := 0) xa_L_law_633 (by decide) ?_
    refine xg_lald xa_L_law_634 ho3 rfl (by decide) (xo_0 _ _) ?_
    refine xg_iload xa_L_law_635 rfl ?_
    refine xg_i2l xa_L_law_637 rfl ?_
    refine xg_lcmp xa_L_law_638 (xo_c _) ?_
    refine xg_if_eq xa_L_law_639 (fun _ => ?_) (fun z => absurd rfl z)
    refine xg_goto xa_L_law_644 ?_
    exact K _ _ _ _ _ ⟨_, _, _, _, _, _, _, _, _, _, _, _, _, _, _, _, _, hM3, hC3, (I), ⟨_, ho3⟩, by omega⟩ (by omega) (by omega)
theorem l_about {j5 j6 : Option Value} (I : xIn Mn Mm Mh Me Ml Mt Mg Ma Mb Mw Mwk Msp Mon Mct) (hM : xMs h Mc Mn Mm Mh Me Ml Mbr Mlk Mt Mg Ma Mb Mw Mwk Msp Mon Mct) (hC : xCS h Mn Mm Mh Me Ml Mbr Mlk Mt Mg Ma Mb Mw Mwk Msp Mon Mct) (ho : h[40]? = some (.inl (2, 1, .inr (.inl fo)))) (hl41 : 41 ≤ h.length) (hi : i + 3 < LS) (hLS : LS < 2 ^ 31)
    (K : ∀ h' ks' fl' j5 j6, xLw h' → h'.length ≤ h.length + 1 → ks' ≤ ks + 6 → xG xs LS 10 104 (1056, [some (.retAddr 0), some (.ref 0), some (.ref 22), some (.ref 40), some (.int (nI i)), j5, j6], []) (h', ks', fl') Q) :
    xG xs LS 10 104 (647, [some (.retAddr 0), some (.ref 0), some (.ref 22), some (.ref 40), some (.int (nI i)), j5, j6], []) (h, ks, fl) Q := by
  obtain ⟨fs0, f0⟩ := xCS_0 hC
  have thr : ∀ (v : Int32) (ci : Nat) (b : Bool), ¬ v = 0 → cd_about Mt (xs (i + 1)) (xs (i + 2)) = v → xG xs LS 10 104 (664, [some (.retAddr 0), some (.ref 0), some (.ref 22), some (.ref 40), some (.int (nI i)), j5, j6], [.int v]) (h ++ [.inr (ci, [])], ks + 6, b) Q := by
    intro v ci b hv e
    have hM1 := xMs_app (ci := ci) hl41 hM
    have hC1 := xCS_app (ci := ci) hl41 hC
    have ho1 := xo_app (ci := ci) hl41 ho
    have hln := xl_app (h := h) (ci := ci)
    obtain ⟨fs1, g1⟩ := xMs_22 hM1
    refine xg_istore (L' := [_, _, _, _, _, _, _]) xa_L_law_664 (Nat.le_of_ble_eq_true rfl) rfl ?_
    refine xg_aload_n xa_L_law_666 rfl ?_
    refine xg_aload_s xa_L_law_667 rfl ?_
    refine xg_iload xa_L_law_668 rfl ?_
    refine xg_iconst (v := 1) xa_L_law_670 (by decide) ?_
    refine xg_iadd xa_L_law_671 (xi_p1 i) ?_
    refine xg_sld_n xa_L_law_672 (by omega) hLS ?_
    refine xg_aload_s xa_L_law_673 rfl ?_
    refine xg_iload xa_L_law_674 rfl ?_
    refine xg_iconst (v := 2) xa_L_law_676 (by decide) ?_
    refine xg_iadd xa_L_law_677 (xi_p2 i) ?_
    refine xg_sld_n xa_L_law_678 (by omega) hLS ?_
    refine xg_callV1 xa_L_law_679 ⟨Nat.le_of_ble_eq_true rfl, Nat.le_of_ble_eq_true rfl, rfl⟩ rfl rfl g1 ?_
    refine c_M_about I.1.1 hM1 (fun v' hv' e' h2 fl2 hM2 s2 => ?_) (fun e0 => absurd (e.symm.trans e0) hv)
    obtain rfl : v' = v := e'.symm.trans e
    obtain ⟨fs2, g2⟩ := xMs_22 hM2
    have hC2 := xCS_keep (fun j hj => s2.2 j (by omega)) hC1
    have ho2 := (s2.2 40 (by omega)).trans ho1
    have hs2 := s2.1
    refine xK1_d ?_
    refine xg_istore (L' := [_, _, _, _, _, _, _]) xa_L_law_682 (Nat.le_of_ble_eq_true rfl) rfl ?_
    refine xg_aload_n xa_L_law_684 rfl ?_
    refine xg_callV1 xa_L_law_685 ⟨Nat.le_of_ble_eq_true rfl, Nat.le_of_ble_eq_true rfl, rfl⟩ rfl rfl g2 ?_
    refine c_M_thrown2 hM2 ?_
    refine xK1_c ?_
    refine xg_iload xa_L_law_688 rfl ?_
    refine xg_icmp_eq xa_L_law_690 (fun _ => ?_) (fun z => absurd rfl z)
    refine xg_iload xa_L_law_695 rfl ?_
    refine xg_if_ne xa_L_law_697 (fun _ => ?_) (fun z => absurd z hv')
    refine xg_goto xa_L_law_712 ?_
    exact K _ _ _ _ _ ⟨_, _, _, _, _, _, _, _, _, _, _, _, _, _, _, _, _, hM2, hC2, I, ⟨_, ho2⟩, by omega⟩ (by omega) (by omega)
  refine xg_aload_n xa_L_law_647 rfl ?_
  refine xg_aload_s xa_L_law_648 rfl ?_
  refine xg_iload xa_L_law_649 rfl ?_
  refine xg_iconst (v := 1) xa_L_law_651 (by decide) ?_
  refine xg_iadd xa_L_law_652 (xi_p1 i) ?_
  refine xg_sld_n xa_L_law_653 (by omega) hLS ?_
  refine xg_aload_s xa_L_law_654 rfl ?_
  refine xg_iload xa_L_law_655 rfl ?_
  refine xg_iconst (v := 2) xa_L_law_657 (by decide) ?_
  refine xg_iadd xa_L_law_658 (xi_p2 i) ?_
  refine xg_sld_n xa_L_law_659 (by omega) hLS ?_
  refine xg_aload_n xa_L_law_660 rfl ?_
  refine xg_callS1 xa_L_law_661 ⟨Nat.le_of_ble_eq_true rfl, Nat.le_of_ble_eq_true rfl, rfl⟩ rfl rfl ?_
  refine c_L_about ⟨_, f0⟩ ?_
  refine c_F_about I.1.1 hC (fun e => xw1_t (c := 1) (by simp) (fun b => xK1_d (thr 1 5 _ (by decide) e))) (fun e => xw1_t (c := 2) (by simp) (fun b => xK1_d (thr 2 4 _ (by decide) e))) (fun e0 c j fl1 hc ec ht hj ej => ?_)
  have s1 : xS h h 0 22 := xS.rf
  refine xw1_n ((s1.2 40 (by omega)).trans ho) (fun h2 b u => xK1_d ?_)
  have hM2 : xMs h2 Mc Mn Mm Mh Me Ml Mbr Mlk Mt Mg Ma Mb Mw Mwk Msp Mon Mct := xMs_keep (fun j h1 h2 => (u.2.2 j (by omega)).trans (s1.2 j (by omega))) hM
  have hC2 := xCS_keep (fun j hj => u.2.2 j (by omega)) hC
  have ho2 := u.2.1
  have hs1 := s1.1
  have hu1 := u.1
  obtain ⟨fs2, g2⟩ := xMs_22 hM2
  refine xg_istore (L' := [_, _, _, _, _, _, _]) xa_L_law_664 (Nat.le_of_ble_eq_true rfl) rfl ?_
  refine xg_aload_n xa_L_law_666 rfl ?_
  refine xg_aload_s xa_L_law_667 rfl ?_
  refine xg_iload xa_L_law_668 rfl ?_
  refine xg_iconst (v := 1) xa_L_law_670 (by decide) ?_
  refine xg_iadd xa_L_law_671 (xi_p1 i) ?_
  refine xg_sld_n xa_L_law_672 (by omega) hLS ?_
  refine xg_aload_s xa_L_law_673 rfl ?_
  refine xg_iload xa_L_law_674 rfl ?_
  refine xg_iconst (v := 2) xa_L_law_676 (by decide) ?_
  refine xg_iadd xa_L_law_677 (xi_p2 i) ?_
  refine xg_sld_n xa_L_law_678 (by omega) hLS ?_
  refine xg_callV1 xa_L_law_679 ⟨Nat.le_of_ble_eq_true rfl, Nat.le_of_ble_eq_true rfl, rfl⟩ rfl rfl g2 ?_
  refine c_M_about I.1.1 hM2 (fun v' hv' e' => absurd (e'.symm.trans e0) hv') (fun _ c' j' h3 fl3 hc' ec' _ hj' ej' hM3 s3 => ?_)
  have hn7 := I.1.2.1
  have hm14 := I.1.1
  obtain rfl : c' = c := (nI_eq (by omega) (by omega)).mp (ec'.symm.trans ec)
  obtain rfl : j' = j := (nI_eq (by omega) (by omega)).mp (ej'.symm.trans ej)
  obtain ⟨fs3, g3⟩ := xMs_22 hM3
  have hC3 := xCS_keep (fun j hj => s3.2 j (by omega)) hC2
  have ho3 := (s3.2 40 (by omega)).trans ho2
  have hs3 := s3.1
  refine xK1_d ?_
  refine xg_istore (L' := [_, _, _, _, _, _, _]) xa_L_law_682 (Nat.le_of_ble_eq_true rfl) rfl ?_
  refine xg_aload_n xa_L_law_684 rfl ?_
  refine xg_callV1 xa_L_law_685 ⟨Nat.le_of_ble_eq_true rfl, Nat.le_of_ble_eq_true rfl, rfl⟩ rfl rfl g3 ?_
  refine c_M_thrown2 hM3 ?_
  refine xK1_c ?_
  refine xg_iload xa_L_law_688 rfl ?_
  refine xg_icmp_eq xa_L_law_690 (fun _ => ?_) (fun z => absurd rfl z)
  refine xg_iload xa_L_law_695 rfl ?_
  refine xg_if_ne xa_L_law_697 (fun z => absurd rfl z) (fun _ => ?_)
  refine xg_aload_n xa_L_law_700 rfl ?_
  refine xg_iconst (v := 0) xa_L_law_701 (by decide) ?_
  refine xg_lald xa_L_law_702 ho3 rfl (by decide) (xo_0 _ _) ?_
  refine xg_iload xa_L_law_703 rfl ?_
  refine xg_i2l xa_L_law_705 rfl ?_
  refine xg_lcmp xa_L_law_706 (xo_c _) ?_
  refine xg_if_eq xa_L_law_707 (fun _ => ?_) (fun z => absurd rfl z)
  refine xg_goto xa_L_law_712 ?_
  exact K _ _ _ _ _ ⟨_, _, _, _, _, _, _, _, _, _, _, _, _, _, _, _, _, hM3, hC3, (I), ⟨_, ho3⟩, by omega⟩ (by omega) (by omega)
theorem l_user {j5 j6 : Option Value} (I : xIn Mn Mm Mh Me Ml Mt Mg Ma Mb Mw Mwk Msp Mon Mct) (hM : xMs h Mc Mn Mm Mh Me Ml Mbr Mlk Mt Mg Ma Mb Mw Mwk Msp Mon Mct) (hC : xCS h Mn Mm Mh Me Ml Mbr Mlk Mt Mg Ma Mb Mw Mwk Msp Mon Mct) (ho : h[40]? = some (.inl (2, 1, .inr (.inl fo)))) (hl41 : 41 ≤ h.length) (hi : i + 3 < LS) (hLS : LS < 2 ^ 31)
    (K : ∀ h' ks' fl' j5 j6, xLw h' → h'.length ≤ h.length + 1 → ks' ≤ ks + 6 → xG xs LS 10 104 (1056, [some (.retAddr 0), some (.ref 0), some (.ref 22), some (.ref 40), some (.int (nI i)), j5, j6], []) (h', ks', fl') Q) :
    xG xs LS 10 104 (715, [some (.retAddr 0), some (.ref 0), some (.ref 22), some (.ref 40), some (.int (nI i)), j5, j6], []) (h, ks, fl) Q := by
  obtain ⟨fs0, f0⟩ := xCS_0 hC
  have thr : ∀ (v : Int32) (ci : Nat) (b : Bool), ¬ v = 0 → cd_user Mm (xs (i + 1)) (xs (i + 2)) = v → xG xs LS 10 104 (732, [some (.retAddr 0), some (.ref 0), some (.ref 22), some (.ref 40), some (.int (nI i)), j5, j6], [.int v]) (h ++ [.inr (ci, [])], ks + 6, b) Q := by
    intro v ci b hv e
    have hM1 := xMs_app (ci := ci) hl41 hM
    have hC1 := xCS_app (ci := ci) hl41 hC
    have ho1 := xo_app (ci := ci) hl41 ho
    have hln := xl_app (h := h) (ci := ci)
    obtain ⟨fs1, g1⟩ := xMs_22 hM1
    refine xg_istore (L' := [_, _, _, _, _, _, _]) xa_L_law_732 (Nat.le_of_ble_eq_true rfl) rfl ?_
    refine xg_aload_n xa_L_law_734 rfl ?_
    refine xg_aload_s xa_L_law_735 rfl ?_
    refine xg_iload xa_L_law_736 rfl ?_
    refine xg_iconst (v := 1) xa_L_law_738 (by decide) ?_
    refine xg_iadd xa_L_law_739 (xi_p1 i) ?_
    refine xg_sld_n xa_L_law_740 (by omega) hLS ?_
    refine xg_aload_s xa_L_law_741 rfl ?_
    refine xg_iload xa_L_law_742 rfl ?_
    refine xg_iconst (v := 2) xa_L_law_744 (by decide) ?_
    refine xg_iadd xa_L_law_745 (xi_p2 i) ?_
    refine xg_sld_n xa_L_law_746 (by omega) hLS ?_
    refine xg_callV1 xa_L_law_747 ⟨Nat.le_of_ble_eq_true rfl, Nat.le_of_ble_eq_true rfl, rfl⟩ rfl rfl g1 ?_
    refine c_M_user I.1.1 hM1 (fun e' h2 fl2 hM2 s2 => ?_) (fun e0 => absurd (e.symm.trans e0) hv)
    obtain rfl : v = 1 := e.symm.trans e'
    obtain ⟨fs2, g2⟩ := xMs_22 hM2
    have hC2 := xCS_keep (fun j hj => s2.2 j (by omega)) hC1
    have ho2 := (s2.2 40 (by omega)).trans ho1
    have hs2 := s2.1
    refine xK1_d ?_
    refine xg_istore (L' := [_, _, _, _, _, _, _]) xa_L_law_750 (Nat.le_of_ble_eq_true rfl) rfl ?_
    refine xg_aload_n xa_L_law_752 rfl ?_
    refine xg_callV1 xa_L_law_753 ⟨Nat.le_of_ble_eq_true rfl, Nat.le_of_ble_eq_true rfl, rfl⟩ rfl rfl g2 ?_
    refine c_M_thrown2 hM2 ?_
    refine xK1_c ?_
    refine xg_iload xa_L_law_756 rfl ?_
    refine xg_icmp_eq xa_L_law_758 (fun _ => ?_) (fun z => absurd rfl z)
    refine xg_iload xa_L_law_763 rfl ?_
    refine xg_if_ne xa_L_law_765 (fun _ => ?_) (fun z => absurd z hv)
    refine xg_goto xa_L_law_780 ?_
    exact K _ _ _ _ _ ⟨_, _, _, _, _, _, _, _, _, _, _, _, _, _, _, _, _, hM2, hC2, I, ⟨_, ho2⟩, by omega⟩ (by omega) (by omega)
  refine xg_aload_n xa_L_law_715 rfl ?_
  refine xg_aload_s xa_L_law_716 rfl ?_
  refine xg_iload xa_L_law_717 rfl ?_
  refine xg_iconst (v := 1) xa_L_law_719 (by decide) ?_
  refine xg_iadd xa_L_law_720 (xi_p1 i) ?_
  refine xg_sld_n xa_L_law_721 (by omega) hLS ?_
  refine xg_aload_s xa_L_law_722 rfl ?_
  refine xg_iload xa_L_law_723 rfl ?_
  refine xg_iconst (v := 2) xa_L_law_725 (by decide) ?_
  refine xg_iadd xa_L_law_726 (xi_p2 i) ?_
  refine xg_sld_n xa_L_law_727 (by omega) hLS ?_
  refine xg_aload_n xa_L_law_728 rfl ?_
  refine xg_callS1 xa_L_law_729 ⟨Nat.le_of_ble_eq_true rfl, Nat.le_of_ble_eq_true rfl, rfl⟩ rfl rfl ?_
  refine c_L_user ⟨_, f0⟩ ?_
  refine c_F_user I.1.1 hC (fun e => xw1_t (c := 1) (by simp) (fun b => xK1_d (thr 1 5 _ (by decide) e))) (fun e0 f w fl1 hf ef hw ew => ?_)
  have s1 : xS h h 0 22 := xS.rf
  refine xw1_n ((s1.2 40 (by omega)).trans ho) (fun h2 b u => xK1_d ?_)
  have hM2 : xMs h2 Mc Mn Mm Mh Me Ml Mbr Mlk Mt Mg Ma Mb Mw Mwk Msp Mon Mct := xMs_keep (fun j h1 h2 => (u.2.2 j (by omega)).trans (s1.2 j (by omega))) hM
  have hC2 := xCS_keep (fun j hj => u.2.2 j (by omega)) hC
  have ho2 := u.2.1
  have hs1 := s1.1
  have hu1 := u.1
  obtain ⟨fs2, g2⟩ := xMs_22 hM2
  refine xg_istore (L' := [_, _, _, _, _, _, _]) xa_L_law_732 (Nat.le_of_ble_eq_true rfl) rfl ?_
  refine xg_aload_n xa_L_law_734 rfl ?_
  refine xg_aload_s xa_L_law_735 rfl ?_
  refine xg_iload xa_L_law_736 rfl ?_
  refine xg_iconst (v := 1) xa_L_law_738 (by decide) ?_
  refine xg_iadd xa_L_law_739 (xi_p1 i) ?_
  refine xg_sld_n xa_L_law_740 (by omega) hLS ?_
  refine xg_aload_s xa_L_law_741 rfl ?_
  refine xg_iload xa_L_law_742 rfl ?_
  refine xg_iconst (v := 2) xa_L_law_744 (by decide) ?_
  refine xg_iadd xa_L_law_745 (xi_p2 i) ?_
  refine xg_sld_n xa_L_law_746 (by omega) hLS ?_
  refine xg_callV1 xa_L_law_747 ⟨Nat.le_of_ble_eq_true rfl, Nat.le_of_ble_eq_true rfl, rfl⟩ rfl rfl g2 ?_
  refine c_M_user I.1.1 hM2 (fun e' => absurd (e'.symm.trans e0) (by decide)) (fun _ f' w' h3 fl3 hf' ef' hw' ew' hM3 s3 => ?_)
  have hn7 := I.1.2.1
  have hm14 := I.1.1
  obtain rfl : f' = f := (nI_eq (by omega) (by omega)).mp (ef'.symm.trans ef)
  obtain rfl : w' = w := (nI_eq (by omega) (by omega)).mp (ew'.symm.trans ew)
  obtain ⟨fs3, g3⟩ := xMs_22 hM3
  have hC3 := xCS_keep (fun j hj => s3.2 j (by omega)) hC2
  have ho3 := (s3.2 40 (by omega)).trans ho2
  have hs3 := s3.1
  refine xK1_d ?_
  refine xg_istore (L' := [_, _, _, _, _, _, _]) xa_L_law_750 (Nat.le_of_ble_eq_true rfl) rfl ?_
  refine xg_aload_n xa_L_law_752 rfl ?_
  refine xg_callV1 xa_L_law_753 ⟨Nat.le_of_ble_eq_true rfl, Nat.le_of_ble_eq_true rfl, rfl⟩ rfl rfl g3 ?_
  refine c_M_thrown2 hM3 ?_
  refine xK1_c ?_
  refine xg_iload xa_L_law_756 rfl ?_
  refine xg_icmp_eq xa_L_law_758 (fun _ => ?_) (fun z => absurd rfl z)
  refine xg_iload xa_L_law_763 rfl ?_
  refine xg_if_ne xa_L_law_765 (fun z => absurd rfl z) (fun _ => ?_)
  refine xg_aload_n xa_L_law_768 rfl ?_
  refine xg_iconst (v := 0) xa_L_law_769 (by decide) ?_
  refine xg_lald xa_L_law_770 ho3 rfl (by decide) (xo_0 _ _) ?_
  refine xg_iload xa_L_law_771 rfl ?_
  refine xg_i2l xa_L_law_773 rfl ?_
  refine xg_lcmp xa_L_law_774 (xo_c _) ?_
  refine xg_if_eq xa_L_law_775 (fun _ => ?_) (fun z => absurd rfl z)
  refine xg_goto xa_L_law_780 ?_
  exact K _ _ _ _ _ ⟨_, _, _, _, _, _, _, _, _, _, _, _, _, _, _, _, _, hM3, hC3, (I), ⟨_, ho3⟩, by omega⟩ (by omega) (by omega)
theorem l_fits {j5 j6 : Option Value} (I : xIn Mn Mm Mh Me Ml Mt Mg Ma Mb Mw Mwk Msp Mon Mct) (hM : xMs h Mc Mn Mm Mh Me Ml Mbr Mlk Mt Mg Ma Mb Mw Mwk Msp Mon Mct) (hC : xCS h Mn Mm Mh Me Ml Mbr Mlk Mt Mg Ma Mb Mw Mwk Msp Mon Mct) (ho : h[40]? = some (.inl (2, 1, .inr (.inl fo)))) (hl41 : 41 ≤ h.length) (hi : i + 3 < LS) (hLS : LS < 2 ^ 31)
    (K : ∀ h' ks' fl' j5 j6, xLw h' → h'.length ≤ h.length + 1 → ks' ≤ ks + 6 → xG xs LS 10 104 (1056, [some (.retAddr 0), some (.ref 0), some (.ref 22), some (.ref 40), some (.int (nI i)), j5, j6], []) (h', ks', fl') Q) :
    xG xs LS 10 104 (839, [some (.retAddr 0), some (.ref 0), some (.ref 22), some (.ref 40), some (.int (nI i)), j5, j6], []) (h, ks, fl) Q := by
  obtain ⟨fs0, f0⟩ := xCS_0 hC
  have thr : ∀ (v : Int32) (ci : Nat) (b : Bool), ¬ v = 0 → cd_fits Mn (xs (i + 1)) (xs (i + 2)) = v → xG xs LS 10 104 (856, [some (.retAddr 0), some (.ref 0), some (.ref 22), some (.ref 40), some (.int (nI i)), j5, j6], [.int v]) (h ++ [.inr (ci, [])], ks + 6, b) Q := by
    intro v ci b hv e
    have hM1 := xMs_app (ci := ci) hl41 hM
    have hC1 := xCS_app (ci := ci) hl41 hC
    have ho1 := xo_app (ci := ci) hl41 ho
    have hln := xl_app (h := h) (ci := ci)
    obtain ⟨fs1, g1⟩ := xMs_22 hM1
    refine xg_istore (L' := [_, _, _, _, _, _, _]) xa_L_law_856 (Nat.le_of_ble_eq_true rfl) rfl ?_
    refine xg_aload_n xa_L_law_858 rfl ?_
    refine xg_aload_s xa_L_law_859 rfl ?_
    refine xg_iload xa_L_law_860 rfl ?_
    refine xg_iconst (v := 1) xa_L_law_862 (by decide) ?_
    refine xg_iadd xa_L_law_863 (xi_p1 i) ?_
    refine xg_sld_n xa_L_law_864 (by omega) hLS ?_
    refine xg_aload_s xa_L_law_865 rfl ?_
    refine xg_iload xa_L_law_866 rfl ?_
    refine xg_iconst (v := 2) xa_L_law_868 (by decide) ?_
    refine xg_iadd xa_L_law_869 (xi_p2 i) ?_
    refine xg_sld_n xa_L_law_870 (by omega) hLS ?_
    refine xg_callV1 xa_L_law_871 ⟨Nat.le_of_ble_eq_true rfl, Nat.le_of_ble_eq_true rfl, rfl⟩ rfl rfl g1 ?_
    refine c_M_fits I.1.2.1 I.1.1 I.2.2.1 (fun x y s hx hy hxy => g_fok I.1 hx hxy) hM1 (fun v' hv' e' h2 fl2 hM2 s2 => ?_) (fun e0 => absurd (e.symm.trans e0) hv)
    obtain rfl : v' = v := e'.symm.trans e
    obtain ⟨fs2, g2⟩ := xMs_22 hM2
    have hC2 := xCS_keep (fun j hj => s2.2 j (by omega)) hC1
    have ho2 := (s2.2 40 (by omega)).trans ho1
    have hs2 := s2.1
    refine xK1_d ?_
    refine xg_istore (L' := [_, _, _, _, _, _, _]) xa_L_law_874 (Nat.le_of_ble_eq_true rfl) rfl ?_
    refine xg_aload_n xa_L_law_876 rfl ?_
    refine xg_callV1 xa_L_law_877 ⟨Nat.le_of_ble_eq_true rfl, Nat.le_of_ble_eq_true rfl, rfl⟩ rfl rfl g2 ?_
    refine c_M_thrown2 hM2 ?_
    refine xK1_c ?_
    refine xg_iload xa_L_law_880 rfl ?_
    refine xg_icmp_eq xa_L_law_882 (fun _ => ?_) (fun z => absurd rfl z)
    refine xg_iload xa_L_law_887 rfl ?_
    refine xg_if_ne xa_L_law_889 (fun _ => ?_) (fun z => absurd z hv')
    refine xg_goto xa_L_law_904 ?_
    exact K _ _ _ _ _ ⟨_, _, _, _, _, _, _, _, _, _, _, _, _, _, _, _, _, hM2, hC2, I, ⟨_, ho2⟩, by omega⟩ (by omega) (by omega)
  refine xg_aload_n xa_L_law_839 rfl ?_
  refine xg_aload_s xa_L_law_840 rfl ?_
  refine xg_iload xa_L_law_841 rfl ?_
  refine xg_iconst (v := 1) xa_L_law_843 (by decide) ?_
  refine xg_iadd xa_L_law_844 (xi_p1 i) ?_
  refine xg_sld_n xa_L_law_845 (by omega) hLS ?_
  refine xg_aload_s xa_L_law_846 rfl ?_
  refine xg_iload xa_L_law_847 rfl ?_
  refine xg_iconst (v := 2) xa_L_law_849 (by decide) ?_
  refine xg_iadd xa_L_law_850 (xi_p2 i) ?_
  refine xg_sld_n xa_L_law_851 (by omega) hLS ?_
  refine xg_aload_n xa_L_law_852 rfl ?_
  refine xg_callS1 xa_L_law_853 ⟨Nat.le_of_ble_eq_true rfl, Nat.le_of_ble_eq_true rfl, rfl⟩ rfl rfl ?_
  refine c_L_fits ⟨_, f0⟩ ?_
  refine c_F_fits I hC (fun e => xw1_t (c := 1) (by simp) (fun b => xK1_d (thr 1 5 _ (by decide) e))) (fun e => xw1_t (c := 2) (by simp) (fun b => xK1_d (thr 2 4 _ (by decide) e))) (fun e0 x y h1 fl1 hx hy hxy ea eb hC1 s1 => ?_)
  refine xw1_n ((s1.2 40 (by omega)).trans ho) (fun h2 b u => xK1_d ?_)
  have hM2 : xMs h2 Mc Mn Mm Mh Me Ml Mbr Mlk Mt Mg Ma Mb Mw Mwk Msp Mon Mct := xMs_keep (fun j h1 h2 => (u.2.2 j (by omega)).trans (s1.2 j (by omega))) hM
  have hC2 := xCS_keep (fun j hj => u.2.2 j (by omega)) hC1
  have ho2 := u.2.1
  have hs1 := s1.1
  have hu1 := u.1
  obtain ⟨fs2, g2⟩ := xMs_22 hM2
  refine xg_istore (L' := [_, _, _, _, _, _, _]) xa_L_law_856 (Nat.le_of_ble_eq_true rfl) rfl ?_
  refine xg_aload_n xa_L_law_858 rfl ?_
  refine xg_aload_s xa_L_law_859 rfl ?_
  refine xg_iload xa_L_law_860 rfl ?_
  refine xg_iconst (v := 1) xa_L_law_862 (by decide) ?_
  refine xg_iadd xa_L_law_863 (xi_p1 i) ?_
  refine xg_sld_n xa_L_law_864 (by omega) hLS ?_
  refine xg_aload_s xa_L_law_865 rfl ?_
  refine xg_iload xa_L_law_866 rfl ?_
  refine xg_iconst (v := 2) xa_L_law_868 (by decide) ?_
  refine xg_iadd xa_L_law_869 (xi_p2 i) ?_
  refine xg_sld_n xa_L_law_870 (by omega) hLS ?_
  refine xg_callV1 xa_L_law_871 ⟨Nat.le_of_ble_eq_true rfl, Nat.le_of_ble_eq_true rfl, rfl⟩ rfl rfl g2 ?_
  refine c_M_fits I.1.2.1 I.1.1 I.2.2.1 (fun x y s hx hy hxy => g_fok I.1 hx hxy) hM2 (fun v' hv' e' => absurd (e'.symm.trans e0) hv') (fun _ x' y' h3 fl3 hx' hy' _ ea' eb' hM3 s3 => ?_)
  have hn7 := I.1.2.1
  have hm14 := I.1.1
  obtain rfl : x' = x := (nI_eq (by omega) (by omega)).mp (ea'.symm.trans ea)
  obtain rfl : y' = y := (nI_eq (by omega) (by omega)).mp (eb'.symm.trans eb)
  obtain ⟨fs3, g3⟩ := xMs_22 hM3
  have hC3 := xCS_keep (fun j hj => s3.2 j (by omega)) hC2
  have ho3 := (s3.2 40 (by omega)).trans ho2
  have hs3 := s3.1
  refine xK1_d ?_
  refine xg_istore (L' := [_, _, _, _, _, _, _]) xa_L_law_874 (Nat.le_of_ble_eq_true rfl) rfl ?_
  refine xg_aload_n xa_L_law_876 rfl ?_
  refine xg_callV1 xa_L_law_877 ⟨Nat.le_of_ble_eq_true rfl, Nat.le_of_ble_eq_true rfl, rfl⟩ rfl rfl g3 ?_
  refine c_M_thrown2 hM3 ?_
  refine xK1_c ?_
  refine xg_iload xa_L_law_880 rfl ?_
  refine xg_icmp_eq xa_L_law_882 (fun _ => ?_) (fun z => absurd rfl z)
  refine xg_iload xa_L_law_887 rfl ?_
  refine xg_if_ne xa_L_law_889 (fun z => absurd rfl z) (fun _ => ?_)
  refine xg_aload_n xa_L_law_892 rfl ?_
  refine xg_iconst (v := 0) xa_L_law_893 (by decide) ?_
  refine xg_lald xa_L_law_894 ho3 rfl (by decide) (xo_0 _ _) ?_
  refine xg_iload xa_L_law_895 rfl ?_
  refine xg_i2l xa_L_law_897 rfl ?_
  refine xg_lcmp xa_L_law_898 (xo_c _) ?_
  refine xg_if_eq xa_L_law_899 (fun _ => ?_) (fun z => absurd rfl z)
  refine xg_goto xa_L_law_904 ?_
  exact K _ _ _ _ _ ⟨_, _, _, _, _, _, _, _, _, _, _, _, _, _, _, _, _, hM3, hC3, (I), ⟨_, ho3⟩, by omega⟩ (by omega) (by omega)
theorem l_bridge {j5 j6 : Option Value} (I : xIn Mn Mm Mh Me Ml Mt Mg Ma Mb Mw Mwk Msp Mon Mct) (hM : xMs h Mc Mn Mm Mh Me Ml Mbr Mlk Mt Mg Ma Mb Mw Mwk Msp Mon Mct) (hC : xCS h Mn Mm Mh Me Ml Mbr Mlk Mt Mg Ma Mb Mw Mwk Msp Mon Mct) (ho : h[40]? = some (.inl (2, 1, .inr (.inl fo)))) (hl41 : 41 ≤ h.length) (hi : i + 3 < LS) (hLS : LS < 2 ^ 31)
    (K : ∀ h' ks' fl' j5 j6, xLw h' → h'.length ≤ h.length + 1 → ks' ≤ ks + 6 → xG xs LS 10 104 (1056, [some (.retAddr 0), some (.ref 0), some (.ref 22), some (.ref 40), some (.int (nI i)), j5, j6], []) (h', ks', fl') Q) :
    xG xs LS 10 104 (907, [some (.retAddr 0), some (.ref 0), some (.ref 22), some (.ref 40), some (.int (nI i)), j5, j6], []) (h, ks, fl) Q := by
  obtain ⟨fs0, f0⟩ := xCS_0 hC
  have thr : ∀ (v : Int32) (ci : Nat) (b : Bool), ¬ v = 0 → cd_bridge Mn (xs (i + 1)) (xs (i + 2)) (xs (i + 3)) = v → xG xs LS 10 104 (930, [some (.retAddr 0), some (.ref 0), some (.ref 22), some (.ref 40), some (.int (nI i)), j5, j6], [.int v]) (h ++ [.inr (ci, [])], ks + 6, b) Q := by
    intro v ci b hv e
    have hM1 := xMs_app (ci := ci) hl41 hM
    have hC1 := xCS_app (ci := ci) hl41 hC
    have ho1 := xo_app (ci := ci) hl41 ho
    have hln := xl_app (h := h) (ci := ci)
    obtain ⟨fs1, g1⟩ := xMs_22 hM1
    refine xg_istore (L' := [_, _, _, _, _, _, _]) xa_L_law_930 (Nat.le_of_ble_eq_true rfl) rfl ?_
    refine xg_aload_n xa_L_law_932 rfl ?_
    refine xg_aload_s xa_L_law_933 rfl ?_
    refine xg_iload xa_L_law_934 rfl ?_
    refine xg_iconst (v := 1) xa_L_law_936 (by decide) ?_
    refine xg_iadd xa_L_law_937 (xi_p1 i) ?_
    refine xg_sld_n xa_L_law_938 (by omega) hLS ?_
    refine xg_aload_s xa_L_law_939 rfl ?_
    refine xg_iload xa_L_law_940 rfl ?_
    refine xg_iconst (v := 2) xa_L_law_942 (by decide) ?_
    refine xg_iadd xa_L_law_943 (xi_p2 i) ?_
    refine xg_sld_n xa_L_law_944 (by omega) hLS ?_
    refine xg_aload_s xa_L_law_945 rfl ?_
    refine xg_iload xa_L_law_946 rfl ?_
    refine xg_iconst (v := 3) xa_L_law_948 (by decide) ?_
    refine xg_iadd xa_L_law_949 (xi_p3 i) ?_
    refine xg_sld_n xa_L_law_950 (by omega) hLS ?_
    refine xg_callV1 xa_L_law_951 ⟨Nat.le_of_ble_eq_true rfl, Nat.le_of_ble_eq_true rfl, rfl⟩ rfl rfl g1 ?_
    refine c_M_bridge I.1.2.1 I.1.1 I.2.2.1 (fun x y s hx hy hxy => g_fok I.1 hx hxy) hM1 (fun v' hv' e' h2 fl2 hM2 s2 => ?_) (fun e0 => absurd (e.symm.trans e0) hv)
    obtain rfl : v' = v := e'.symm.trans e
    obtain ⟨fs2, g2⟩ := xMs_22 hM2
    have hC2 := xCS_keep (fun j hj => s2.2 j (by omega)) hC1
    have ho2 := (s2.2 40 (by omega)).trans ho1
    have hs2 := s2.1
    refine xK1_d ?_
    refine xg_istore (L' := [_, _, _, _, _, _, _]) xa_L_law_954 (Nat.le_of_ble_eq_true rfl) rfl ?_
    refine xg_aload_n xa_L_law_956 rfl ?_
    refine xg_callV1 xa_L_law_957 ⟨Nat.le_of_ble_eq_true rfl, Nat.le_of_ble_eq_true rfl, rfl⟩ rfl rfl g2 ?_
    refine c_M_thrown2 hM2 ?_
    refine xK1_c ?_
    refine xg_iload xa_L_law_960 rfl ?_
    refine xg_icmp_eq xa_L_law_962 (fun _ => ?_) (fun z => absurd rfl z)
    refine xg_iload xa_L_law_967 rfl ?_
    refine xg_if_ne xa_L_law_969 (fun _ => ?_) (fun z => absurd z hv')
    refine xg_goto xa_L_law_984 ?_
    exact K _ _ _ _ _ ⟨_, _, _, _, _, _, _, _, _, _, _, _, _, _, _, _, _, hM2, hC2, I, ⟨_, ho2⟩, by omega⟩ (by omega) (by omega)
  refine xg_aload_n xa_L_law_907 rfl ?_
  refine xg_aload_s xa_L_law_908 rfl ?_
  refine xg_iload xa_L_law_909 rfl ?_
  refine xg_iconst (v := 1) xa_L_law_911 (by decide) ?_
  refine xg_iadd xa_L_law_912 (xi_p1 i) ?_
  refine xg_sld_n xa_L_law_913 (by omega) hLS ?_
  refine xg_aload_s xa_L_law_914 rfl ?_
  refine xg_iload xa_L_law_915 rfl ?_
  refine xg_iconst (v := 2) xa_L_law_917 (by decide) ?_
  refine xg_iadd xa_L_law_918 (xi_p2 i) ?_
  refine xg_sld_n xa_L_law_919 (by omega) hLS ?_
  refine xg_aload_s xa_L_law_920 rfl ?_
  refine xg_iload xa_L_law_921 rfl ?_
  refine xg_iconst (v := 3) xa_L_law_923 (by decide) ?_
  refine xg_iadd xa_L_law_924 (xi_p3 i) ?_
  refine xg_sld_n xa_L_law_925 (by omega) hLS ?_
  refine xg_aload_n xa_L_law_926 rfl ?_
  refine xg_callS1 xa_L_law_927 ⟨Nat.le_of_ble_eq_true rfl, Nat.le_of_ble_eq_true rfl, rfl⟩ rfl rfl ?_
  refine c_L_bridge ⟨_, f0⟩ ?_
  refine c_F_bridge I hC (fun e => xw1_t (c := 1) (by simp) (fun b => xK1_d (thr 1 5 _ (by decide) e))) (fun e => xw1_t (c := 2) (by simp) (fun b => xK1_d (thr 2 4 _ (by decide) e))) (fun e0 x y z h1 fl1 hx hy hxy hz ea eb ez hC1 s1 => ?_)
  refine xw1_n ((s1.2 40 (by omega)).trans ho) (fun h2 b u => xK1_d ?_)
  have hM2 : xMs h2 Mc Mn Mm Mh Me Ml Mbr Mlk Mt Mg Ma Mb Mw Mwk Msp Mon Mct := xMs_keep (fun j h1 h2 => (u.2.2 j (by omega)).trans (s1.2 j (by omega))) hM
  have hC2 := xCS_keep (fun j hj => u.2.2 j (by omega)) hC1
  have ho2 := u.2.1
  have hs1 := s1.1
  have hu1 := u.1
  obtain ⟨fs2, g2⟩ := xMs_22 hM2
  refine xg_istore (L' := [_, _, _, _, _, _, _]) xa_L_law_930 (Nat.le_of_ble_eq_true rfl) rfl ?_
  refine xg_aload_n xa_L_law_932 rfl ?_
  refine xg_aload_s xa_L_law_933 rfl ?_
  refine xg_iload xa_L_law_934 rfl ?_
  refine xg_iconst (v := 1) xa_L_law_936 (by decide) ?_
  refine xg_iadd xa_L_law_937 (xi_p1 i) ?_
  refine xg_sld_n xa_L_law_938 (by omega) hLS ?_
  refine xg_aload_s xa_L_law_939 rfl ?_
  refine xg_iload xa_L_law_940 rfl ?_
  refine xg_iconst (v := 2) xa_L_law_942 (by decide) ?_
  refine xg_iadd xa_L_law_943 (xi_p2 i) ?_
  refine xg_sld_n xa_L_law_944 (by omega) hLS ?_
  refine xg_aload_s xa_L_law_945 rfl ?_
  refine xg_iload xa_L_law_946 rfl ?_
  refine xg_iconst (v := 3) xa_L_law_948 (by decide) ?_
  refine xg_iadd xa_L_law_949 (xi_p3 i) ?_
  refine xg_sld_n xa_L_law_950 (by omega) hLS ?_
  refine xg_callV1 xa_L_law_951 ⟨Nat.le_of_ble_eq_true rfl, Nat.le_of_ble_eq_true rfl, rfl⟩ rfl rfl g2 ?_
  refine c_M_bridge I.1.2.1 I.1.1 I.2.2.1 (fun x y s hx hy hxy => g_fok I.1 hx hxy) hM2 (fun v' hv' e' => absurd (e'.symm.trans e0) hv') (fun _ x' y' z' h3 fl3 hx' hy' _ hz' ea' eb' ez' hM3 s3 => ?_)
  have hn7 := I.1.2.1
  have hm14 := I.1.1
  obtain rfl : x' = x := (nI_eq (by omega) (by omega)).mp (ea'.symm.trans ea)
  obtain rfl : y' = y := (nI_eq (by omega) (by omega)).mp (eb'.symm.trans eb)
  obtain rfl : z' = z := (nI_eq (by omega) (by omega)).mp (ez'.symm.trans ez)
  obtain ⟨fs3, g3⟩ := xMs_22 hM3
  have hC3 := xCS_keep (fun j hj => s3.2 j (by omega)) hC2
  have ho3 := (s3.2 40 (by omega)).trans ho2
  have hs3 := s3.1
  refine xK1_d ?_
  refine xg_istore (L' := [_, _, _, _, _, _, _]) xa_L_law_954 (Nat.le_of_ble_eq_true rfl) rfl ?_
  refine xg_aload_n xa_L_law_956 rfl ?_
  refine xg_callV1 xa_L_law_957 ⟨Nat.le_of_ble_eq_true rfl, Nat.le_of_ble_eq_true rfl, rfl⟩ rfl rfl g3 ?_
  refine c_M_thrown2 hM3 ?_
  refine xK1_c ?_
  refine xg_iload xa_L_law_960 rfl ?_
  refine xg_icmp_eq xa_L_law_962 (fun _ => ?_) (fun z => absurd rfl z)
  refine xg_iload xa_L_law_967 rfl ?_
  refine xg_if_ne xa_L_law_969 (fun z => absurd rfl z) (fun _ => ?_)
  refine xg_aload_n xa_L_law_972 rfl ?_
  refine xg_iconst (v := 0) xa_L_law_973 (by decide) ?_
  refine xg_lald xa_L_law_974 ho3 rfl (by decide) (xo_0 _ _) ?_
  refine xg_iload xa_L_law_975 rfl ?_
  refine xg_i2l xa_L_law_977 rfl ?_
  refine xg_lcmp xa_L_law_978 (xo_c _) ?_
  refine xg_if_eq xa_L_law_979 (fun _ => ?_) (fun z => absurd rfl z)
  refine xg_goto xa_L_law_984 ?_
  exact K _ _ _ _ _ ⟨_, _, _, _, _, _, _, _, _, _, _, _, _, _, _, _, _, hM3, hC3, (I), ⟨_, ho3⟩, by omega⟩ (by omega) (by omega)
theorem l_count {j5 j6 : Option Value} (I : xIn Mn Mm Mh Me Ml Mt Mg Ma Mb Mw Mwk Msp Mon Mct) (hM : xMs h Mc Mn Mm Mh Me Ml Mbr Mlk Mt Mg Ma Mb Mw Mwk Msp Mon Mct) (hC : xCS h Mn Mm Mh Me Ml Mbr Mlk Mt Mg Ma Mb Mw Mwk Msp Mon Mct) (ho : h[40]? = some (.inl (2, 1, .inr (.inl fo)))) (hl41 : 41 ≤ h.length) (hi : i + 3 < LS) (hLS : LS < 2 ^ 31)
    (K : ∀ h' ks' fl' j5 j6, xLw h' → h'.length ≤ h.length + 1 → ks' ≤ ks + 6 → xG xs LS 10 104 (1056, [some (.retAddr 0), some (.ref 0), some (.ref 22), some (.ref 40), some (.int (nI i)), j5, j6], []) (h', ks', fl') Q) :
    xG xs LS 10 104 (1000, [some (.retAddr 0), some (.ref 0), some (.ref 22), some (.ref 40), some (.int (nI i)), j5, j6], []) (h, ks, fl) Q := by
  obtain ⟨fs0, f0⟩ := xCS_0 hC
  have thr : ∀ (v : Int32) (ci : Nat) (b : Bool), ¬ v = 0 → cd_count (xs (i + 1)) = v → xG xs LS 10 104 (1011, [some (.retAddr 0), some (.ref 0), some (.ref 22), some (.ref 40), some (.int (nI i)), j5, j6], [.int v]) (h ++ [.inr (ci, [])], ks + 6, b) Q := by
    intro v ci b hv e
    have hM1 := xMs_app (ci := ci) hl41 hM
    have hC1 := xCS_app (ci := ci) hl41 hC
    have ho1 := xo_app (ci := ci) hl41 ho
    have hln := xl_app (h := h) (ci := ci)
    obtain ⟨fs1, g1⟩ := xMs_22 hM1
    refine xg_istore (L' := [_, _, _, _, _, _, _]) xa_L_law_1011 (Nat.le_of_ble_eq_true rfl) rfl ?_
    refine xg_aload_n xa_L_law_1013 rfl ?_
    refine xg_aload_s xa_L_law_1014 rfl ?_
    refine xg_iload xa_L_law_1015 rfl ?_
    refine xg_iconst (v := 1) xa_L_law_1017 (by decide) ?_
    refine xg_iadd xa_L_law_1018 (xi_p1 i) ?_
    refine xg_sld_n xa_L_law_1019 (by omega) hLS ?_
    refine xg_callV1 xa_L_law_1020 ⟨Nat.le_of_ble_eq_true rfl, Nat.le_of_ble_eq_true rfl, rfl⟩ rfl rfl g1 ?_
    refine c_M_count I.1.1 hM1 (fun e' h2 fl2 hM2 s2 => ?_) (fun e0 => absurd (e.symm.trans e0) hv)
    obtain rfl : v = 1 := e.symm.trans e'
    obtain ⟨fs2, g2⟩ := xMs_22 hM2
    have hC2 := xCS_keep (fun j hj => s2.2 j (by omega)) hC1
    have ho2 := (s2.2 40 (by omega)).trans ho1
    have hs2 := s2.1
    refine xK1_d ?_
    refine xg_istore (L' := [_, _, _, _, _, _, _]) xa_L_law_1023 (Nat.le_of_ble_eq_true rfl) rfl ?_
    refine xg_aload_n xa_L_law_1025 rfl ?_
    refine xg_callV1 xa_L_law_1026 ⟨Nat.le_of_ble_eq_true rfl, Nat.le_of_ble_eq_true rfl, rfl⟩ rfl rfl g2 ?_
    refine c_M_thrown2 hM2 ?_
    refine xK1_c ?_
    refine xg_iload xa_L_law_1029 rfl ?_
    refine xg_icmp_eq xa_L_law_1031 (fun _ => ?_) (fun z => absurd rfl z)
    refine xg_iload xa_L_law_1036 rfl ?_
    refine xg_if_ne xa_L_law_1038 (fun _ => ?_) (fun z => absurd z hv)
    refine xg_goto xa_L_law_1053 ?_
    exact K _ _ _ _ _ ⟨_, _, _, _, _, _, _, _, _, _, _, _, _, _, _, _, _, hM2, hC2, I, ⟨_, ho2⟩, by omega⟩ (by omega) (by omega)
  refine xg_aload_n xa_L_law_1000 rfl ?_
  refine xg_aload_s xa_L_law_1001 rfl ?_
  refine xg_iload xa_L_law_1002 rfl ?_
  refine xg_iconst (v := 1) xa_L_law_1004 (by decide) ?_
  refine xg_iadd xa_L_law_1005 (xi_p1 i) ?_
  refine xg_sld_n xa_L_law_1006 (by omega) hLS ?_
  refine xg_aload_n xa_L_law_1007 rfl ?_
  refine xg_callS1 xa_L_law_1008 ⟨Nat.le_of_ble_eq_true rfl, Nat.le_of_ble_eq_true rfl, rfl⟩ rfl rfl ?_
  refine c_L_count ⟨_, f0⟩ ?_
  refine c_F_count I.1.1 hC (fun e => xw1_t (c := 1) (by simp) (fun b => xK1_d (thr 1 4 _ (by decide) e))) (fun e0 j fl1 hj ej => ?_)
  have s1 : xS h h 0 22 := xS.rf
  refine xw1_n ((s1.2 40 (by omega)).trans ho) (fun h2 b u => xK1_d ?_)
  have hM2 : xMs h2 Mc Mn Mm Mh Me Ml Mbr Mlk Mt Mg Ma Mb Mw Mwk Msp Mon Mct := xMs_keep (fun j h1 h2 => (u.2.2 j (by omega)).trans (s1.2 j (by omega))) hM
  have hC2 := xCS_keep (fun j hj => u.2.2 j (by omega)) hC
  have ho2 := u.2.1
  have hs1 := s1.1
  have hu1 := u.1
  obtain ⟨fs2, g2⟩ := xMs_22 hM2
  refine xg_istore (L' := [_, _, _, _, _, _, _]) xa_L_law_1011 (Nat.le_of_ble_eq_true rfl) rfl ?_
  refine xg_aload_n xa_L_law_1013 rfl ?_
  refine xg_aload_s xa_L_law_1014 rfl ?_
  refine xg_iload xa_L_law_1015 rfl ?_
  refine xg_iconst (v := 1) xa_L_law_1017 (by decide) ?_
  refine xg_iadd xa_L_law_1018 (xi_p1 i) ?_
  refine xg_sld_n xa_L_law_1019 (by omega) hLS ?_
  refine xg_callV1 xa_L_law_1020 ⟨Nat.le_of_ble_eq_true rfl, Nat.le_of_ble_eq_true rfl, rfl⟩ rfl rfl g2 ?_
  refine c_M_count I.1.1 hM2 (fun e' => absurd (e'.symm.trans e0) (by decide)) (fun _ j' h3 fl3 hj' ej' hM3 s3 => ?_)
  have hn7 := I.1.2.1
  have hm14 := I.1.1
  obtain rfl : j' = j := (nI_eq (by omega) (by omega)).mp (ej'.symm.trans ej)
  obtain ⟨fs3, g3⟩ := xMs_22 hM3
  have hC3 := xCS_keep (fun j hj => s3.2 j (by omega)) hC2
  have ho3 := (s3.2 40 (by omega)).trans ho2
  have hs3 := s3.1
  refine xK1_d ?_
  refine xg_istore (L' := [_, _, _, _, _, _, _]) xa_L_law_1023 (Nat.le_of_ble_eq_true rfl) rfl ?_
  refine xg_aload_n xa_L_law_1025 rfl ?_
  refine xg_callV1 xa_L_law_1026 ⟨Nat.le_of_ble_eq_true rfl, Nat.le_of_ble_eq_true rfl, rfl⟩ rfl rfl g3 ?_
  refine c_M_thrown2 hM3 ?_
  refine xK1_c ?_
  refine xg_iload xa_L_law_1029 rfl ?_
  refine xg_icmp_eq xa_L_law_1031 (fun _ => ?_) (fun z => absurd rfl z)
  refine xg_iload xa_L_law_1036 rfl ?_
  refine xg_if_ne xa_L_law_1038 (fun z => absurd rfl z) (fun _ => ?_)
  refine xg_aload_n xa_L_law_1041 rfl ?_
  refine xg_iconst (v := 0) xa_L_law_1042 (by decide) ?_
  refine xg_lald xa_L_law_1043 ho3 rfl (by decide) (xo_0 _ _) ?_
  refine xg_iload xa_L_law_1044 rfl ?_
  refine xg_i2l xa_L_law_1046 rfl ?_
  refine xg_lcmp xa_L_law_1047 (xo_c _) ?_
  refine xg_if_eq xa_L_law_1048 (fun _ => ?_) (fun z => absurd rfl z)
  refine xg_goto xa_L_law_1053 ?_
  exact K _ _ _ _ _ ⟨_, _, _, _, _, _, _, _, _, _, _, _, _, _, _, _, _, hM3, hC3, (I), ⟨_, ho3⟩, by omega⟩ (by omega) (by omega)
theorem l_request {j5 j6 : Option Value} (I : xIn Mn Mm Mh Me Ml Mt Mg Ma Mb Mw Mwk Msp Mon Mct) (hM : xMs h Mc Mn Mm Mh Me Ml Mbr Mlk Mt Mg Ma Mb Mw Mwk Msp Mon Mct) (hC : xCS h Mn Mm Mh Me Ml Mbr Mlk Mt Mg Ma Mb Mw Mwk Msp Mon Mct) (ho : h[40]? = some (.inl (2, 1, .inr (.inl fo)))) (hl41 : 41 ≤ h.length) (hi : i + 3 < LS) (hLS : LS < 2 ^ 31)
    (K : ∀ h' ks' fl' j5 j6, xLw h' → h'.length ≤ h.length + 1 → ks' ≤ ks + 6 → xG xs LS 10 104 (1056, [some (.retAddr 0), some (.ref 0), some (.ref 22), some (.ref 40), some (.int (nI i)), j5, j6], []) (h', ks', fl') Q) :
    xG xs LS 10 104 (236, [some (.retAddr 0), some (.ref 0), some (.ref 22), some (.ref 40), some (.int (nI i)), j5, j6], []) (h, ks, fl) Q := by
  obtain ⟨fs0, f0⟩ := xCS_0 hC
  by_cases hz : xs (i + 3) = 0
  · have thr : ∀ (v : Int32) (ci : Nat) (b : Bool), ¬ v = 0 → cd_request Mn Mt (xs (i + 1)) (xs (i + 2)) = v → xG xs LS 10 104 (267, [some (.retAddr 0), some (.ref 0), some (.ref 22), some (.ref 40), some (.int (nI i)), j5, j6], [.int v]) (h ++ [.inr (ci, [])], ks + 6, b) Q := by
      intro v ci b hv e
      have hM1 := xMs_app (ci := ci) hl41 hM
      have hC1 := xCS_app (ci := ci) hl41 hC
      have ho1 := xo_app (ci := ci) hl41 ho
      have hln := xl_app (h := h) (ci := ci)
      obtain ⟨fs1, g1⟩ := xMs_22 hM1
      refine xg_istore (L' := [_, _, _, _, _, _, _]) xa_L_law_267 (Nat.le_of_ble_eq_true rfl) rfl ?_
      refine xg_aload_n xa_L_law_269 rfl ?_
      refine xg_aload_s xa_L_law_270 rfl ?_
      refine xg_iload xa_L_law_271 rfl ?_
      refine xg_iconst (v := 1) xa_L_law_273 (by decide) ?_
      refine xg_iadd xa_L_law_274 (xi_p1 i) ?_
      refine xg_sld_n xa_L_law_275 (by omega) hLS ?_
      refine xg_aload_s xa_L_law_276 rfl ?_
      refine xg_iload xa_L_law_277 rfl ?_
      refine xg_iconst (v := 2) xa_L_law_279 (by decide) ?_
      refine xg_iadd xa_L_law_280 (xi_p2 i) ?_
      refine xg_sld_n xa_L_law_281 (by omega) hLS ?_
      refine xg_aload_s xa_L_law_282 rfl ?_
      refine xg_iload xa_L_law_283 rfl ?_
      refine xg_iconst (v := 3) xa_L_law_285 (by decide) ?_
      refine xg_iadd xa_L_law_286 (xi_p3 i) ?_
      refine xg_sld_n xa_L_law_287 (by omega) hLS ?_
      refine xg_if_eq xa_L_law_288 (fun _ => ?_) (fun z => absurd hz z)
      refine xg_iconst (v := 0) xa_L_law_295 (by decide) ?_
      refine xg_callV1 xa_L_law_296 ⟨Nat.le_of_ble_eq_true rfl, Nat.le_of_ble_eq_true rfl, rfl⟩ rfl rfl g1 ?_
      refine c_M_request (pr := false) I.1.2.1 I.1.1 I.2.2.1 (fun x y s hx hy hxy => g_fok I.1 hx hxy) hM1 (fun v' hv' e' h2 fl2 hM2 s2 => ?_) (fun e0 => absurd (e.symm.trans e0) hv)
      obtain rfl : v' = v := e'.symm.trans e
      obtain ⟨fs2, g2⟩ := xMs_22 hM2
      have hC2 := xCS_keep (fun j hj => s2.2 j (by omega)) hC1
      have ho2 := (s2.2 40 (by omega)).trans ho1
      have hs2 := s2.1
      refine xK1_d ?_
      refine xg_istore (L' := [_, _, _, _, _, _, _]) xa_L_law_299 (Nat.le_of_ble_eq_true rfl) rfl ?_
      refine xg_aload_n xa_L_law_301 rfl ?_
      refine xg_callV1 xa_L_law_302 ⟨Nat.le_of_ble_eq_true rfl, Nat.le_of_ble_eq_true rfl, rfl⟩ rfl rfl g2 ?_
      refine c_M_thrown2 hM2 ?_
      refine xK1_c ?_
      refine xg_iload xa_L_law_305 rfl ?_
      refine xg_icmp_eq xa_L_law_307 (fun _ => ?_) (fun z => absurd rfl z)
      refine xg_iload xa_L_law_312 rfl ?_
      refine xg_if_ne xa_L_law_314 (fun _ => ?_) (fun z => absurd z hv')
      refine xg_goto xa_L_law_329 ?_
      exact K _ _ _ _ _ ⟨_, _, _, _, _, _, _, _, _, _, _, _, _, _, _, _, _, hM2, hC2, I, ⟨_, ho2⟩, by omega⟩ (by omega) (by omega)
    refine xg_aload_n xa_L_law_236 rfl ?_
    refine xg_aload_s xa_L_law_237 rfl ?_
    refine xg_iload xa_L_law_238 rfl ?_
    refine xg_iconst (v := 1) xa_L_law_240 (by decide) ?_
    refine xg_iadd xa_L_law_241 (xi_p1 i) ?_
    refine xg_sld_n xa_L_law_242 (by omega) hLS ?_
    refine xg_aload_s xa_L_law_243 rfl ?_
    refine xg_iload xa_L_law_244 rfl ?_
    refine xg_iconst (v := 2) xa_L_law_246 (by decide) ?_
    refine xg_iadd xa_L_law_247 (xi_p2 i) ?_
    refine xg_sld_n xa_L_law_248 (by omega) hLS ?_
    refine xg_aload_s xa_L_law_249 rfl ?_
    refine xg_iload xa_L_law_250 rfl ?_
    refine xg_iconst (v := 3) xa_L_law_252 (by decide) ?_
    refine xg_iadd xa_L_law_253 (xi_p3 i) ?_
    refine xg_sld_n xa_L_law_254 (by omega) hLS ?_
    refine xg_if_eq xa_L_law_255 (fun _ => ?_) (fun z => absurd hz z)
    refine xg_iconst (v := 0) xa_L_law_262 (by decide) ?_
    refine xg_aload_n xa_L_law_263 rfl ?_
    refine xg_callS1 xa_L_law_264 ⟨Nat.le_of_ble_eq_true rfl, Nat.le_of_ble_eq_true rfl, rfl⟩ rfl rfl ?_
    refine c_L_request ⟨_, f0⟩ ?_
    refine c_F_request (pr := false) I hC (fun e => xw1_t (c := 1) (by simp) (fun b => xK1_d (thr 1 5 _ (by decide) e))) (fun e => xw1_t (c := 2) (by simp) (fun b => xK1_d (thr 2 4 _ (by decide) e))) (fun e => xw1_t (c := 3) (by simp) (fun b => xK1_d (thr 3 6 _ (by decide) e))) (fun e0 x y c h1 fl1 hx hy hxy ea eb ec hc => ⟨fun hl hC1 s1 => ?_, fun w wk sp hl hC1 s1 => ?_⟩)
    · refine xw1_n ((s1.2 40 (by omega)).trans ho) (fun h2 b u => xK1_d ?_)
      have hM2 : xMs h2 Mc Mn Mm Mh Me Ml Mbr Mlk Mt Mg Ma Mb Mw Mwk Msp Mon Mct := xMs_keep (fun j h1 h2 => (u.2.2 j (by omega)).trans (s1.2 j (by omega))) hM
      have hC2 := xCS_keep (fun j hj => u.2.2 j (by omega)) hC1
      have ho2 := u.2.1
      have hs1 := s1.1
      have hu1 := u.1
      obtain ⟨fs2, g2⟩ := xMs_22 hM2
      refine xg_istore (L' := [_, _, _, _, _, _, _]) xa_L_law_267 (Nat.le_of_ble_eq_true rfl) rfl ?_
      refine xg_aload_n xa_L_law_269 rfl ?_
      refine xg_aload_s xa_L_law_270 rfl ?_
      refine xg_iload xa_L_law_271 rfl ?_
      refine xg_iconst (v := 1) xa_L_law_273 (by decide) ?_
      refine xg_iadd xa_L_law_274 (xi_p1 i) ?_
      refine xg_sld_n xa_L_law_275 (by omega) hLS ?_
      refine xg_aload_s xa_L_law_276 rfl ?_
      refine xg_iload xa_L_law_277 rfl ?_
      refine xg_iconst (v := 2) xa_L_law_279 (by decide) ?_
      refine xg_iadd xa_L_law_280 (xi_p2 i) ?_
      refine xg_sld_n xa_L_law_281 (by omega) hLS ?_
      refine xg_aload_s xa_L_law_282 rfl ?_
      refine xg_iload xa_L_law_283 rfl ?_
      refine xg_iconst (v := 3) xa_L_law_285 (by decide) ?_
      refine xg_iadd xa_L_law_286 (xi_p3 i) ?_
      refine xg_sld_n xa_L_law_287 (by omega) hLS ?_
      refine xg_if_eq xa_L_law_288 (fun _ => ?_) (fun z => absurd hz z)
      refine xg_iconst (v := 0) xa_L_law_295 (by decide) ?_
      refine xg_callV1 xa_L_law_296 ⟨Nat.le_of_ble_eq_true rfl, Nat.le_of_ble_eq_true rfl, rfl⟩ rfl rfl g2 ?_
      refine c_M_request (pr := false) I.1.2.1 I.1.1 I.2.2.1 (fun x y s hx hy hxy => g_fok I.1 hx hxy) hM2 (fun v' hv' e' => absurd (e'.symm.trans e0) hv') (fun _ x' y' c' h3 fl3 hx' hy' _ ea' eb' ec' _ => ?_)
      have hn7 := I.1.2.1
      have hm14 := I.1.1
      obtain rfl : x' = x := (nI_eq (by omega) (by omega)).mp (ea'.symm.trans ea)
      obtain rfl : y' = y := (nI_eq (by omega) (by omega)).mp (eb'.symm.trans eb)
      obtain rfl : c' = c := ec'.trans ec.symm
      refine ⟨fun hl' hM3 s3 => ?_, fun w' wk' sp' hl' _ _ => absurd (hl.symm.trans hl') (fun q => by cases q)⟩
      obtain ⟨fs3, g3⟩ := xMs_22 hM3
      have hC3 := xCS_keep (fun j hj => s3.2 j (by omega)) hC2
      have ho3 := (s3.2 40 (by omega)).trans ho2
      have hs3 := s3.1
      refine xK1_d ?_
      refine xg_istore (L' := [_, _, _, _, _, _, _]) xa_L_law_299 (Nat.le_of_ble_eq_true rfl) rfl ?_
      refine xg_aload_n xa_L_law_301 rfl ?_
      refine xg_callV1 xa_L_law_302 ⟨Nat.le_of_ble_eq_true rfl, Nat.le_of_ble_eq_true rfl, rfl⟩ rfl rfl g3 ?_
      refine c_M_thrown2 hM3 ?_
      refine xK1_c ?_
      refine xg_iload xa_L_law_305 rfl ?_
      refine xg_icmp_eq xa_L_law_307 (fun _ => ?_) (fun z => absurd rfl z)
      refine xg_iload xa_L_law_312 rfl ?_
      refine xg_if_ne xa_L_law_314 (fun z => absurd rfl z) (fun _ => ?_)
      refine xg_aload_n xa_L_law_317 rfl ?_
      refine xg_iconst (v := 0) xa_L_law_318 (by decide) ?_
      refine xg_lald xa_L_law_319 ho3 rfl (by decide) (xo_0 _ _) ?_
      refine xg_iload xa_L_law_320 rfl ?_
      refine xg_i2l xa_L_law_322 rfl ?_
      refine xg_lcmp xa_L_law_323 (xo_c _) ?_
      refine xg_if_eq xa_L_law_324 (fun _ => ?_) (fun z => absurd rfl z)
      refine xg_goto xa_L_law_329 ?_
      exact K _ _ _ _ _ ⟨_, _, _, _, _, _, _, _, _, _, _, _, _, _, _, _, _, hM3, hC3, I, ⟨_, ho3⟩, by omega⟩ (by omega) (by omega)
    · refine xw1_n ((s1.2 40 (by omega)).trans ho) (fun h2 b u => xK1_d ?_)
      have hM2 : xMs h2 Mc Mn Mm Mh Me Ml Mbr Mlk Mt Mg Ma Mb Mw Mwk Msp Mon Mct := xMs_keep (fun j h1 h2 => (u.2.2 j (by omega)).trans (s1.2 j (by omega))) hM
      have hC2 := xCS_keep (fun j hj => u.2.2 j (by omega)) hC1
      have ho2 := u.2.1
      have hs1 := s1.1
      have hu1 := u.1
      obtain ⟨fs2, g2⟩ := xMs_22 hM2
      refine xg_istore (L' := [_, _, _, _, _, _, _]) xa_L_law_267 (Nat.le_of_ble_eq_true rfl) rfl ?_
      refine xg_aload_n xa_L_law_269 rfl ?_
      refine xg_aload_s xa_L_law_270 rfl ?_
      refine xg_iload xa_L_law_271 rfl ?_
      refine xg_iconst (v := 1) xa_L_law_273 (by decide) ?_
      refine xg_iadd xa_L_law_274 (xi_p1 i) ?_
      refine xg_sld_n xa_L_law_275 (by omega) hLS ?_
      refine xg_aload_s xa_L_law_276 rfl ?_
      refine xg_iload xa_L_law_277 rfl ?_
      refine xg_iconst (v := 2) xa_L_law_279 (by decide) ?_
      refine xg_iadd xa_L_law_280 (xi_p2 i) ?_
      refine xg_sld_n xa_L_law_281 (by omega) hLS ?_
      refine xg_aload_s xa_L_law_282 rfl ?_
      refine xg_iload xa_L_law_283 rfl ?_
      refine xg_iconst (v := 3) xa_L_law_285 (by decide) ?_
      refine xg_iadd xa_L_law_286 (xi_p3 i) ?_
      refine xg_sld_n xa_L_law_287 (by omega) hLS ?_
      refine xg_if_eq xa_L_law_288 (fun _ => ?_) (fun z => absurd hz z)
      refine xg_iconst (v := 0) xa_L_law_295 (by decide) ?_
      refine xg_callV1 xa_L_law_296 ⟨Nat.le_of_ble_eq_true rfl, Nat.le_of_ble_eq_true rfl, rfl⟩ rfl rfl g2 ?_
      refine c_M_request (pr := false) I.1.2.1 I.1.1 I.2.2.1 (fun x y s hx hy hxy => g_fok I.1 hx hxy) hM2 (fun v' hv' e' => absurd (e'.symm.trans e0) hv') (fun _ x' y' c' h3 fl3 hx' hy' _ ea' eb' ec' _ => ?_)
      have hn7 := I.1.2.1
      have hm14 := I.1.1
      obtain rfl : x' = x := (nI_eq (by omega) (by omega)).mp (ea'.symm.trans ea)
      obtain rfl : y' = y := (nI_eq (by omega) (by omega)).mp (eb'.symm.trans eb)
      obtain rfl : c' = c := ec'.trans ec.symm
      refine ⟨fun hl' _ _ => absurd (hl.symm.trans hl') (fun q => by cases q), fun w' wk' sp' hl' hM3 s3 => ?_⟩
      have hq := Option.some.inj (hl'.symm.trans hl)
      obtain rfl : w' = w := congrArg (fun q => q.1) hq
      obtain rfl : wk' = wk := congrArg (fun q => q.2.1) hq
      obtain rfl : sp' = sp := congrArg (fun q => q.2.2) hq
      obtain ⟨fs3, g3⟩ := xMs_22 hM3
      have hC3 := xCS_keep (fun j hj => s3.2 j (by omega)) hC2
      have ho3 := (s3.2 40 (by omega)).trans ho2
      have hs3 := s3.1
      refine xK1_d ?_
      refine xg_istore (L' := [_, _, _, _, _, _, _]) xa_L_law_299 (Nat.le_of_ble_eq_true rfl) rfl ?_
      refine xg_aload_n xa_L_law_301 rfl ?_
      refine xg_callV1 xa_L_law_302 ⟨Nat.le_of_ble_eq_true rfl, Nat.le_of_ble_eq_true rfl, rfl⟩ rfl rfl g3 ?_
      refine c_M_thrown2 hM3 ?_
      refine xK1_c ?_
      refine xg_iload xa_L_law_305 rfl ?_
      refine xg_icmp_eq xa_L_law_307 (fun _ => ?_) (fun z => absurd rfl z)
      refine xg_iload xa_L_law_312 rfl ?_
      refine xg_if_ne xa_L_law_314 (fun z => absurd rfl z) (fun _ => ?_)
      refine xg_aload_n xa_L_law_317 rfl ?_
      refine xg_iconst (v := 0) xa_L_law_318 (by decide) ?_
      refine xg_lald xa_L_law_319 ho3 rfl (by decide) (xo_0 _ _) ?_
      refine xg_iload xa_L_law_320 rfl ?_
      refine xg_i2l xa_L_law_322 rfl ?_
      refine xg_lcmp xa_L_law_323 (xo_c _) ?_
      refine xg_if_eq xa_L_law_324 (fun _ => ?_) (fun z => absurd rfl z)
      refine xg_goto xa_L_law_329 ?_
      exact K _ _ _ _ _ ⟨_, _, _, _, _, _, _, _, _, _, _, _, _, _, _, _, _, hM3, hC3, (i_request I hx hy hxy hl), ⟨_, ho3⟩, by omega⟩ (by omega) (by omega)
  · have thr : ∀ (v : Int32) (ci : Nat) (b : Bool), ¬ v = 0 → cd_request Mn Mt (xs (i + 1)) (xs (i + 2)) = v → xG xs LS 10 104 (267, [some (.retAddr 0), some (.ref 0), some (.ref 22), some (.ref 40), some (.int (nI i)), j5, j6], [.int v]) (h ++ [.inr (ci, [])], ks + 6, b) Q := by
      intro v ci b hv e
      have hM1 := xMs_app (ci := ci) hl41 hM
      have hC1 := xCS_app (ci := ci) hl41 hC
      have ho1 := xo_app (ci := ci) hl41 ho
      have hln := xl_app (h := h) (ci := ci)
      obtain ⟨fs1, g1⟩ := xMs_22 hM1
      refine xg_istore (L' := [_, _, _, _, _, _, _]) xa_L_law_267 (Nat.le_of_ble_eq_true rfl) rfl ?_
      refine xg_aload_n xa_L_law_269 rfl ?_
      refine xg_aload_s xa_L_law_270 rfl ?_
      refine xg_iload xa_L_law_271 rfl ?_
      refine xg_iconst (v := 1) xa_L_law_273 (by decide) ?_
      refine xg_iadd xa_L_law_274 (xi_p1 i) ?_
      refine xg_sld_n xa_L_law_275 (by omega) hLS ?_
      refine xg_aload_s xa_L_law_276 rfl ?_
      refine xg_iload xa_L_law_277 rfl ?_
      refine xg_iconst (v := 2) xa_L_law_279 (by decide) ?_
      refine xg_iadd xa_L_law_280 (xi_p2 i) ?_
      refine xg_sld_n xa_L_law_281 (by omega) hLS ?_
      refine xg_aload_s xa_L_law_282 rfl ?_
      refine xg_iload xa_L_law_283 rfl ?_
      refine xg_iconst (v := 3) xa_L_law_285 (by decide) ?_
      refine xg_iadd xa_L_law_286 (xi_p3 i) ?_
      refine xg_sld_n xa_L_law_287 (by omega) hLS ?_
      refine xg_if_eq xa_L_law_288 (fun z => absurd z hz) (fun _ => ?_)
      refine xg_iconst (v := 1) xa_L_law_291 (by decide) ?_
      refine xg_goto xa_L_law_292 ?_
      refine xg_callV1 xa_L_law_296 ⟨Nat.le_of_ble_eq_true rfl, Nat.le_of_ble_eq_true rfl, rfl⟩ rfl rfl g1 ?_
      refine c_M_request (pr := true) I.1.2.1 I.1.1 I.2.2.1 (fun x y s hx hy hxy => g_fok I.1 hx hxy) hM1 (fun v' hv' e' h2 fl2 hM2 s2 => ?_) (fun e0 => absurd (e.symm.trans e0) hv)
      obtain rfl : v' = v := e'.symm.trans e
      obtain ⟨fs2, g2⟩ := xMs_22 hM2
      have hC2 := xCS_keep (fun j hj => s2.2 j (by omega)) hC1
      have ho2 := (s2.2 40 (by omega)).trans ho1
      have hs2 := s2.1
      refine xK1_d ?_
      refine xg_istore (L' := [_, _, _, _, _, _, _]) xa_L_law_299 (Nat.le_of_ble_eq_true rfl) rfl ?_
      refine xg_aload_n xa_L_law_301 rfl ?_
      refine xg_callV1 xa_L_law_302 ⟨Nat.le_of_ble_eq_true rfl, Nat.le_of_ble_eq_true rfl, rfl⟩ rfl rfl g2 ?_
      refine c_M_thrown2 hM2 ?_
      refine xK1_c ?_
      refine xg_iload xa_L_law_305 rfl ?_
      refine xg_icmp_eq xa_L_law_307 (fun _ => ?_) (fun z => absurd rfl z)
      refine xg_iload xa_L_law_312 rfl ?_
      refine xg_if_ne xa_L_law_314 (fun _ => ?_) (fun z => absurd z hv')
      refine xg_goto xa_L_law_329 ?_
      exact K _ _ _ _ _ ⟨_, _, _, _, _, _, _, _, _, _, _, _, _, _, _, _, _, hM2, hC2, I, ⟨_, ho2⟩, by omega⟩ (by omega) (by omega)
    refine xg_aload_n xa_L_law_236 rfl ?_
    refine xg_aload_s xa_L_law_237 rfl ?_
    refine xg_iload xa_L_law_238 rfl ?_
    refine xg_iconst (v := 1) xa_L_law_240 (by decide) ?_
    refine xg_iadd xa_L_law_241 (xi_p1 i) ?_
    refine xg_sld_n xa_L_law_242 (by omega) hLS ?_
    refine xg_aload_s xa_L_law_243 rfl ?_
    refine xg_iload xa_L_law_244 rfl ?_
    refine xg_iconst (v := 2) xa_L_law_246 (by decide) ?_
    refine xg_iadd xa_L_law_247 (xi_p2 i) ?_
    refine xg_sld_n xa_L_law_248 (by omega) hLS ?_
    refine xg_aload_s xa_L_law_249 rfl ?_
    refine xg_iload xa_L_law_250 rfl ?_
    refine xg_iconst (v := 3) xa_L_law_252 (by decide) ?_
    refine xg_iadd xa_L_law_253 (xi_p3 i) ?_
    refine xg_sld_n xa_L_law_254 (by omega) hLS ?_
    refine xg_if_eq xa_L_law_255 (fun z => absurd z hz) (fun _ => ?_)
    refine xg_iconst (v := 1) xa_L_law_258 (by decide) ?_
    refine xg_goto xa_L_law_259 ?_
    refine xg_aload_n xa_L_law_263 rfl ?_
    refine xg_callS1 xa_L_law_264 ⟨Nat.le_of_ble_eq_true rfl, Nat.le_of_ble_eq_true rfl, rfl⟩ rfl rfl ?_
    refine c_L_request ⟨_, f0⟩ ?_
    refine c_F_request (pr := true) I hC (fun e => xw1_t (c := 1) (by simp) (fun b => xK1_d (thr 1 5 _ (by decide) e))) (fun e => xw1_t (c := 2) (by simp) (fun b => xK1_d (thr 2 4 _ (by decide) e))) (fun e => xw1_t (c := 3) (by simp) (fun b => xK1_d (thr 3 6 _ (by decide) e))) (fun e0 x y c h1 fl1 hx hy hxy ea eb ec hc => ⟨fun hl hC1 s1 => ?_, fun w wk sp hl hC1 s1 => ?_⟩)
    · refine xw1_n ((s1.2 40 (by omega)).trans ho) (fun h2 b u => xK1_d ?_)
      have hM2 : xMs h2 Mc Mn Mm Mh Me Ml Mbr Mlk Mt Mg Ma Mb Mw Mwk Msp Mon Mct := xMs_keep (fun j h1 h2 => (u.2.2 j (by omega)).trans (s1.2 j (by omega))) hM
      have hC2 := xCS_keep (fun j hj => u.2.2 j (by omega)) hC1
      have ho2 := u.2.1
      have hs1 := s1.1
      have hu1 := u.1
      obtain ⟨fs2, g2⟩ := xMs_22 hM2
      refine xg_istore (L' := [_, _, _, _, _, _, _]) xa_L_law_267 (Nat.le_of_ble_eq_true rfl) rfl ?_
      refine xg_aload_n xa_L_law_269 rfl ?_
      refine xg_aload_s xa_L_law_270 rfl ?_
      refine xg_iload xa_L_law_271 rfl ?_
      refine xg_iconst (v := 1) xa_L_law_273 (by decide) ?_
      refine xg_iadd xa_L_law_274 (xi_p1 i) ?_
      refine xg_sld_n xa_L_law_275 (by omega) hLS ?_
      refine xg_aload_s xa_L_law_276 rfl ?_
      refine xg_iload xa_L_law_277 rfl ?_
      refine xg_iconst (v := 2) xa_L_law_279 (by decide) ?_
      refine xg_iadd xa_L_law_280 (xi_p2 i) ?_
      refine xg_sld_n xa_L_law_281 (by omega) hLS ?_
      refine xg_aload_s xa_L_law_282 rfl ?_
      refine xg_iload xa_L_law_283 rfl ?_
      refine xg_iconst (v := 3) xa_L_law_285 (by decide) ?_
      refine xg_iadd xa_L_law_286 (xi_p3 i) ?_
      refine xg_sld_n xa_L_law_287 (by omega) hLS ?_
      refine xg_if_eq xa_L_law_288 (fun z => absurd z hz) (fun _ => ?_)
      refine xg_iconst (v := 1) xa_L_law_291 (by decide) ?_
      refine xg_goto xa_L_law_292 ?_
      refine xg_callV1 xa_L_law_296 ⟨Nat.le_of_ble_eq_true rfl, Nat.le_of_ble_eq_true rfl, rfl⟩ rfl rfl g2 ?_
      refine c_M_request (pr := true) I.1.2.1 I.1.1 I.2.2.1 (fun x y s hx hy hxy => g_fok I.1 hx hxy) hM2 (fun v' hv' e' => absurd (e'.symm.trans e0) hv') (fun _ x' y' c' h3 fl3 hx' hy' _ ea' eb' ec' _ => ?_)
      have hn7 := I.1.2.1
      have hm14 := I.1.1
      obtain rfl : x' = x := (nI_eq (by omega) (by omega)).mp (ea'.symm.trans ea)
      obtain rfl : y' = y := (nI_eq (by omega) (by omega)).mp (eb'.symm.trans eb)
      obtain rfl : c' = c := ec'.trans ec.symm
      refine ⟨fun hl' hM3 s3 => ?_, fun w' wk' sp' hl' _ _ => absurd (hl.symm.trans hl') (fun q => by cases q)⟩
      obtain ⟨fs3, g3⟩ := xMs_22 hM3
      have hC3 := xCS_keep (fun j hj => s3.2 j (by omega)) hC2
      have ho3 := (s3.2 40 (by omega)).trans ho2
      have hs3 := s3.1
      refine xK1_d ?_
      refine xg_istore (L' := [_, _, _, _, _, _, _]) xa_L_law_299 (Nat.le_of_ble_eq_true rfl) rfl ?_
      refine xg_aload_n xa_L_law_301 rfl ?_
      refine xg_callV1 xa_L_law_302 ⟨Nat.le_of_ble_eq_true rfl, Nat.le_of_ble_eq_true rfl, rfl⟩ rfl rfl g3 ?_
      refine c_M_thrown2 hM3 ?_
      refine xK1_c ?_
      refine xg_iload xa_L_law_305 rfl ?_
      refine xg_icmp_eq xa_L_law_307 (fun _ => ?_) (fun z => absurd rfl z)
      refine xg_iload xa_L_law_312 rfl ?_
      refine xg_if_ne xa_L_law_314 (fun z => absurd rfl z) (fun _ => ?_)
      refine xg_aload_n xa_L_law_317 rfl ?_
      refine xg_iconst (v := 0) xa_L_law_318 (by decide) ?_
      refine xg_lald xa_L_law_319 ho3 rfl (by decide) (xo_0 _ _) ?_
      refine xg_iload xa_L_law_320 rfl ?_
      refine xg_i2l xa_L_law_322 rfl ?_
      refine xg_lcmp xa_L_law_323 (xo_c _) ?_
      refine xg_if_eq xa_L_law_324 (fun _ => ?_) (fun z => absurd rfl z)
      refine xg_goto xa_L_law_329 ?_
      exact K _ _ _ _ _ ⟨_, _, _, _, _, _, _, _, _, _, _, _, _, _, _, _, _, hM3, hC3, I, ⟨_, ho3⟩, by omega⟩ (by omega) (by omega)
    · refine xw1_n ((s1.2 40 (by omega)).trans ho) (fun h2 b u => xK1_d ?_)
      have hM2 : xMs h2 Mc Mn Mm Mh Me Ml Mbr Mlk Mt Mg Ma Mb Mw Mwk Msp Mon Mct := xMs_keep (fun j h1 h2 => (u.2.2 j (by omega)).trans (s1.2 j (by omega))) hM
      have hC2 := xCS_keep (fun j hj => u.2.2 j (by omega)) hC1
      have ho2 := u.2.1
      have hs1 := s1.1
      have hu1 := u.1
      obtain ⟨fs2, g2⟩ := xMs_22 hM2
      refine xg_istore (L' := [_, _, _, _, _, _, _]) xa_L_law_267 (Nat.le_of_ble_eq_true rfl) rfl ?_
      refine xg_aload_n xa_L_law_269 rfl ?_
      refine xg_aload_s xa_L_law_270 rfl ?_
      refine xg_iload xa_L_law_271 rfl ?_
      refine xg_iconst (v := 1) xa_L_law_273 (by decide) ?_
      refine xg_iadd xa_L_law_274 (xi_p1 i) ?_
      refine xg_sld_n xa_L_law_275 (by omega) hLS ?_
      refine xg_aload_s xa_L_law_276 rfl ?_
      refine xg_iload xa_L_law_277 rfl ?_
      refine xg_iconst (v := 2) xa_L_law_279 (by decide) ?_
      refine xg_iadd xa_L_law_280 (xi_p2 i) ?_
      refine xg_sld_n xa_L_law_281 (by omega) hLS ?_
      refine xg_aload_s xa_L_law_282 rfl ?_
      refine xg_iload xa_L_law_283 rfl ?_
      refine xg_iconst (v := 3) xa_L_law_285 (by decide) ?_
      refine xg_iadd xa_L_law_286 (xi_p3 i) ?_
      refine xg_sld_n xa_L_law_287 (by omega) hLS ?_
      refine xg_if_eq xa_L_law_288 (fun z => absurd z hz) (fun _ => ?_)
      refine xg_iconst (v := 1) xa_L_law_291 (by decide) ?_
      refine xg_goto xa_L_law_292 ?_
      refine xg_callV1 xa_L_law_296 ⟨Nat.le_of_ble_eq_true rfl, Nat.le_of_ble_eq_true rfl, rfl⟩ rfl rfl g2 ?_
      refine c_M_request (pr := true) I.1.2.1 I.1.1 I.2.2.1 (fun x y s hx hy hxy => g_fok I.1 hx hxy) hM2 (fun v' hv' e' => absurd (e'.symm.trans e0) hv') (fun _ x' y' c' h3 fl3 hx' hy' _ ea' eb' ec' _ => ?_)
      have hn7 := I.1.2.1
      have hm14 := I.1.1
      obtain rfl : x' = x := (nI_eq (by omega) (by omega)).mp (ea'.symm.trans ea)
      obtain rfl : y' = y := (nI_eq (by omega) (by omega)).mp (eb'.symm.trans eb)
      obtain rfl : c' = c := ec'.trans ec.symm
      refine ⟨fun hl' _ _ => absurd (hl.symm.trans hl') (fun q => by cases q), fun w' wk' sp' hl' hM3 s3 => ?_⟩
      have hq := Option.some.inj (hl'.symm.trans hl)
      obtain rfl : w' = w := congrArg (fun q => q.1) hq
      obtain rfl : wk' = wk := congrArg (fun q => q.2.1) hq
      obtain rfl : sp' = sp := congrArg (fun q => q.2.2) hq
      obtain ⟨fs3, g3⟩ := xMs_22 hM3
      have hC3 := xCS_keep (fun j hj => s3.2 j (by omega)) hC2
      have ho3 := (s3.2 40 (by omega)).trans ho2
      have hs3 := s3.1
      refine xK1_d ?_
      refine xg_istore (L' := [_, _, _, _, _, _, _]) xa_L_law_299 (Nat.le_of_ble_eq_true rfl) rfl ?_
      refine xg_aload_n xa_L_law_301 rfl ?_
      refine xg_callV1 xa_L_law_302 ⟨Nat.le_of_ble_eq_true rfl, Nat.le_of_ble_eq_true rfl, rfl⟩ rfl rfl g3 ?_
      refine c_M_thrown2 hM3 ?_
      refine xK1_c ?_
      refine xg_iload xa_L_law_305 rfl ?_
      refine xg_icmp_eq xa_L_law_307 (fun _ => ?_) (fun z => absurd rfl z)
      refine xg_iload xa_L_law_312 rfl ?_
      refine xg_if_ne xa_L_law_314 (fun z => absurd rfl z) (fun _ => ?_)
      refine xg_aload_n xa_L_law_317 rfl ?_
      refine xg_iconst (v := 0) xa_L_law_318 (by decide) ?_
      refine xg_lald xa_L_law_319 ho3 rfl (by decide) (xo_0 _ _) ?_
      refine xg_iload xa_L_law_320 rfl ?_
      refine xg_i2l xa_L_law_322 rfl ?_
      refine xg_lcmp xa_L_law_323 (xo_c _) ?_
      refine xg_if_eq xa_L_law_324 (fun _ => ?_) (fun z => absurd rfl z)
      refine xg_goto xa_L_law_329 ?_
      exact K _ _ _ _ _ ⟨_, _, _, _, _, _, _, _, _, _, _, _, _, _, _, _, _, hM3, hC3, (i_request I hx hy hxy hl), ⟨_, ho3⟩, by omega⟩ (by omega) (by omega)
theorem l_move {j5 j6 : Option Value} (I : xIn Mn Mm Mh Me Ml Mt Mg Ma Mb Mw Mwk Msp Mon Mct) (hM : xMs h Mc Mn Mm Mh Me Ml Mbr Mlk Mt Mg Ma Mb Mw Mwk Msp Mon Mct) (hC : xCS h Mn Mm Mh Me Ml Mbr Mlk Mt Mg Ma Mb Mw Mwk Msp Mon Mct) (ho : h[40]? = some (.inl (2, 1, .inr (.inl fo)))) (hl41 : 41 ≤ h.length) (hi : i + 3 < LS) (hLS : LS < 2 ^ 31)
    (K : ∀ h' ks' fl' j5 j6, xLw h' → h'.length ≤ h.length + 1 → ks' ≤ ks + 6 → xG xs LS 10 104 (1056, [some (.retAddr 0), some (.ref 0), some (.ref 22), some (.ref 40), some (.int (nI i)), j5, j6], []) (h', ks', fl') Q) :
    xG xs LS 10 104 (783, [some (.retAddr 0), some (.ref 0), some (.ref 22), some (.ref 40), some (.int (nI i)), j5, j6], []) (h, ks, fl) Q := by
  obtain ⟨fs0, f0⟩ := xCS_0 hC
  have thr : ∀ (v : Int32) (ci : Nat) (b : Bool), ¬ v = 0 → cd_conn Mt (xs (i + 1)) = v → xG xs LS 10 104 (794, [some (.retAddr 0), some (.ref 0), some (.ref 22), some (.ref 40), some (.int (nI i)), j5, j6], [.int v]) (h ++ [.inr (ci, [])], ks + 6, b) Q := by
    intro v ci b hv e
    have hM1 := xMs_app (ci := ci) hl41 hM
    have hC1 := xCS_app (ci := ci) hl41 hC
    have ho1 := xo_app (ci := ci) hl41 ho
    have hln := xl_app (h := h) (ci := ci)
    obtain ⟨fs1, g1⟩ := xMs_22 hM1
    refine xg_istore (L' := [_, _, _, _, _, _, _]) xa_L_law_794 (Nat.le_of_ble_eq_true rfl) rfl ?_
    refine xg_aload_n xa_L_law_796 rfl ?_
    refine xg_aload_s xa_L_law_797 rfl ?_
    refine xg_iload xa_L_law_798 rfl ?_
    refine xg_iconst (v := 1) xa_L_law_800 (by decide) ?_
    refine xg_iadd xa_L_law_801 (xi_p1 i) ?_
    refine xg_sld_n xa_L_law_802 (by omega) hLS ?_
    refine xg_callV1 xa_L_law_803 ⟨Nat.le_of_ble_eq_true rfl, Nat.le_of_ble_eq_true rfl, rfl⟩ rfl rfl g1 ?_
    refine c_M_move I.1.2.1 I.1.1 I.2.2.1 (fun c hc ht => ⟨(I.2.2.2 c hc ht).1, (I.2.2.2 c hc ht).2.1, (I.2.2.2 c hc ht).2.2.1, (I.2.2.2 c hc ht).2.2.2.1⟩) (fun x y s hx hy hxy => g_fok I.1 hx hxy) hM1 (fun e' h2 fl2 hM2 s2 => ?_) (fun e0 => absurd (e.symm.trans e0) hv)
    obtain rfl : v = 1 := e.symm.trans e'
    obtain ⟨fs2, g2⟩ := xMs_22 hM2
    have hC2 := xCS_keep (fun j hj => s2.2 j (by omega)) hC1
    have ho2 := (s2.2 40 (by omega)).trans ho1
    have hs2 := s2.1
    refine xK1_d ?_
    refine xg_istore (L' := [_, _, _, _, _, _, _]) xa_L_law_806 (Nat.le_of_ble_eq_true rfl) rfl ?_
    refine xg_aload_n xa_L_law_808 rfl ?_
    refine xg_callV1 xa_L_law_809 ⟨Nat.le_of_ble_eq_true rfl, Nat.le_of_ble_eq_true rfl, rfl⟩ rfl rfl g2 ?_
    refine c_M_thrown2 hM2 ?_
    refine xK1_c ?_
    refine xg_iload xa_L_law_812 rfl ?_
    refine xg_icmp_eq xa_L_law_814 (fun _ => ?_) (fun z => absurd rfl z)
    refine xg_iload xa_L_law_819 rfl ?_
    refine xg_if_ne xa_L_law_821 (fun _ => ?_) (fun z => absurd z hv)
    refine xg_goto xa_L_law_836 ?_
    exact K _ _ _ _ _ ⟨_, _, _, _, _, _, _, _, _, _, _, _, _, _, _, _, _, hM2, hC2, I, ⟨_, ho2⟩, by omega⟩ (by omega) (by omega)
  refine xg_aload_n xa_L_law_783 rfl ?_
  refine xg_aload_s xa_L_law_784 rfl ?_
  refine xg_iload xa_L_law_785 rfl ?_
  refine xg_iconst (v := 1) xa_L_law_787 (by decide) ?_
  refine xg_iadd xa_L_law_788 (xi_p1 i) ?_
  refine xg_sld_n xa_L_law_789 (by omega) hLS ?_
  refine xg_aload_n xa_L_law_790 rfl ?_
  refine xg_callS1 xa_L_law_791 ⟨Nat.le_of_ble_eq_true rfl, Nat.le_of_ble_eq_true rfl, rfl⟩ rfl rfl ?_
  refine c_L_move ⟨_, f0⟩ ?_
  refine c_F_move I hC (fun e => xw1_t (c := 1) (by simp) (fun b => xK1_d (thr 1 5 _ (by decide) e))) (fun e0 c h1 fl1 hc ec ht => ⟨fun hl hC1 s1 => ?_, fun w wk sp hl hC1 s1 => ?_⟩)
  · refine xw1_n ((s1.2 40 (by omega)).trans ho) (fun h2 b u => xK1_d ?_)
    have hM2 : xMs h2 Mc Mn Mm Mh Me Ml Mbr Mlk Mt Mg Ma Mb Mw Mwk Msp Mon Mct := xMs_keep (fun j h1 h2 => (u.2.2 j (by omega)).trans (s1.2 j (by omega))) hM
    have hC2 := xCS_keep (fun j hj => u.2.2 j (by omega)) hC1
    have ho2 := u.2.1
    have hs1 := s1.1
    have hu1 := u.1
    obtain ⟨fs2, g2⟩ := xMs_22 hM2
    refine xg_istore (L' := [_, _, _, _, _, _, _]) xa_L_law_794 (Nat.le_of_ble_eq_true rfl) rfl ?_
    refine xg_aload_n xa_L_law_796 rfl ?_
    refine xg_aload_s xa_L_law_797 rfl ?_
    refine xg_iload xa_L_law_798 rfl ?_
    refine xg_iconst (v := 1) xa_L_law_800 (by decide) ?_
    refine xg_iadd xa_L_law_801 (xi_p1 i) ?_
    refine xg_sld_n xa_L_law_802 (by omega) hLS ?_
    refine xg_callV1 xa_L_law_803 ⟨Nat.le_of_ble_eq_true rfl, Nat.le_of_ble_eq_true rfl, rfl⟩ rfl rfl g2 ?_
    refine c_M_move I.1.2.1 I.1.1 I.2.2.1 (fun c hc ht => ⟨(I.2.2.2 c hc ht).1, (I.2.2.2 c hc ht).2.1, (I.2.2.2 c hc ht).2.2.1, (I.2.2.2 c hc ht).2.2.2.1⟩) (fun x y s hx hy hxy => g_fok I.1 hx hxy) hM2 (fun e' => absurd (e'.symm.trans e0) (by decide)) (fun _ c' h3 fl3 hc' ec' _ => ?_)
    have hn7 := I.1.2.1
    have hm14 := I.1.1
    obtain rfl : c' = c := (nI_eq (by omega) (by omega)).mp (ec'.symm.trans ec)
    refine ⟨fun hl' hM3 s3 => ?_, fun w' wk' sp' hl' _ _ => absurd (hl.symm.trans hl') (fun q => by cases q)⟩
    obtain ⟨fs3, g3⟩ := xMs_22 hM3
    have hC3 := xCS_keep (fun j hj => s3.2 j (by omega)) hC2
    have ho3 := (s3.2 40 (by omega)).trans ho2
    have hs3 := s3.1
    refine xK1_d ?_
    refine xg_istore (L' := [_, _, _, _, _, _, _]) xa_L_law_806 (Nat.le_of_ble_eq_true rfl) rfl ?_
    refine xg_aload_n xa_L_law_808 rfl ?_
    refine xg_callV1 xa_L_law_809 ⟨Nat.le_of_ble_eq_true rfl, Nat.le_of_ble_eq_true rfl, rfl⟩ rfl rfl g3 ?_
    refine c_M_thrown2 hM3 ?_
    refine xK1_c ?_
    refine xg_iload xa_L_law_812 rfl ?_
    refine xg_icmp_eq xa_L_law_814 (fun _ => ?_) (fun z => absurd rfl z)
    refine xg_iload xa_L_law_819 rfl ?_
    refine xg_if_ne xa_L_law_821 (fun z => absurd rfl z) (fun _ => ?_)
    refine xg_aload_n xa_L_law_824 rfl ?_
    refine xg_iconst (v := 0) xa_L_law_825 (by decide) ?_
    refine xg_lald xa_L_law_826 ho3 rfl (by decide) (xo_0 _ _) ?_
    refine xg_iload xa_L_law_827 rfl ?_
    refine xg_i2l xa_L_law_829 rfl ?_
    refine xg_lcmp xa_L_law_830 (xo_c _) ?_
    refine xg_if_eq xa_L_law_831 (fun _ => ?_) (fun z => absurd rfl z)
    refine xg_goto xa_L_law_836 ?_
    exact K _ _ _ _ _ ⟨_, _, _, _, _, _, _, _, _, _, _, _, _, _, _, _, _, hM3, hC3, I, ⟨_, ho3⟩, by omega⟩ (by omega) (by omega)
  · refine xw1_n ((s1.2 40 (by omega)).trans ho) (fun h2 b u => xK1_d ?_)
    have hM2 : xMs h2 Mc Mn Mm Mh Me Ml Mbr Mlk Mt Mg Ma Mb Mw Mwk Msp Mon Mct := xMs_keep (fun j h1 h2 => (u.2.2 j (by omega)).trans (s1.2 j (by omega))) hM
    have hC2 := xCS_keep (fun j hj => u.2.2 j (by omega)) hC1
    have ho2 := u.2.1
    have hs1 := s1.1
    have hu1 := u.1
    obtain ⟨fs2, g2⟩ := xMs_22 hM2
    refine xg_istore (L' := [_, _, _, _, _, _, _]) xa_L_law_794 (Nat.le_of_ble_eq_true rfl) rfl ?_
    refine xg_aload_n xa_L_law_796 rfl ?_
    refine xg_aload_s xa_L_law_797 rfl ?_
    refine xg_iload xa_L_law_798 rfl ?_
    refine xg_iconst (v := 1) xa_L_law_800 (by decide) ?_
    refine xg_iadd xa_L_law_801 (xi_p1 i) ?_
    refine xg_sld_n xa_L_law_802 (by omega) hLS ?_
    refine xg_callV1 xa_L_law_803 ⟨Nat.le_of_ble_eq_true rfl, Nat.le_of_ble_eq_true rfl, rfl⟩ rfl rfl g2 ?_
    refine c_M_move I.1.2.1 I.1.1 I.2.2.1 (fun c hc ht => ⟨(I.2.2.2 c hc ht).1, (I.2.2.2 c hc ht).2.1, (I.2.2.2 c hc ht).2.2.1, (I.2.2.2 c hc ht).2.2.2.1⟩) (fun x y s hx hy hxy => g_fok I.1 hx hxy) hM2 (fun e' => absurd (e'.symm.trans e0) (by decide)) (fun _ c' h3 fl3 hc' ec' _ => ?_)
    have hn7 := I.1.2.1
    have hm14 := I.1.1
    obtain rfl : c' = c := (nI_eq (by omega) (by omega)).mp (ec'.symm.trans ec)
    refine ⟨fun hl' _ _ => absurd (hl.symm.trans hl') (fun q => by cases q), fun w' wk' sp' hl' hM3 s3 => ?_⟩
    have hq := Option.some.inj (hl'.symm.trans hl)
    obtain rfl : w' = w := congrArg (fun q => q.1) hq
    obtain rfl : wk' = wk := congrArg (fun q => q.2.1) hq
    obtain rfl : sp' = sp := congrArg (fun q => q.2.2) hq
    obtain ⟨fs3, g3⟩ := xMs_22 hM3
    have hC3 := xCS_keep (fun j hj => s3.2 j (by omega)) hC2
    have ho3 := (s3.2 40 (by omega)).trans ho2
    have hs3 := s3.1
    refine xK1_d ?_
    refine xg_istore (L' := [_, _, _, _, _, _, _]) xa_L_law_806 (Nat.le_of_ble_eq_true rfl) rfl ?_
    refine xg_aload_n xa_L_law_808 rfl ?_
    refine xg_callV1 xa_L_law_809 ⟨Nat.le_of_ble_eq_true rfl, Nat.le_of_ble_eq_true rfl, rfl⟩ rfl rfl g3 ?_
    refine c_M_thrown2 hM3 ?_
    refine xK1_c ?_
    refine xg_iload xa_L_law_812 rfl ?_
    refine xg_icmp_eq xa_L_law_814 (fun _ => ?_) (fun z => absurd rfl z)
    refine xg_iload xa_L_law_819 rfl ?_
    refine xg_if_ne xa_L_law_821 (fun z => absurd rfl z) (fun _ => ?_)
    refine xg_aload_n xa_L_law_824 rfl ?_
    refine xg_iconst (v := 0) xa_L_law_825 (by decide) ?_
    refine xg_lald xa_L_law_826 ho3 rfl (by decide) (xo_0 _ _) ?_
    refine xg_iload xa_L_law_827 rfl ?_
    refine xg_i2l xa_L_law_829 rfl ?_
    refine xg_lcmp xa_L_law_830 (xo_c _) ?_
    refine xg_if_eq xa_L_law_831 (fun _ => ?_) (fun z => absurd rfl z)
    refine xg_goto xa_L_law_836 ?_
    exact K _ _ _ _ _ ⟨_, _, _, _, _, _, _, _, _, _, _, _, _, _, _, _, _, hM3, hC3, (i_move I hc ht hl), ⟨_, ho3⟩, by omega⟩ (by omega) (by omega)
theorem l_clock {j5 j6 : Option Value} (I : xIn Mn Mm Mh Me Ml Mt Mg Ma Mb Mw Mwk Msp Mon Mct) (hM : xMs h Mc Mn Mm Mh Me Ml Mbr Mlk Mt Mg Ma Mb Mw Mwk Msp Mon Mct) (hC : xCS h Mn Mm Mh Me Ml Mbr Mlk Mt Mg Ma Mb Mw Mwk Msp Mon Mct) (ho : h[40]? = some (.inl (2, 1, .inr (.inl fo)))) (hl41 : 41 ≤ h.length) (hi : i + 3 < LS) (hLS : LS < 2 ^ 31)
    (K : ∀ h' ks' fl' j5 j6, xLw h' → h'.length ≤ h.length + 1 → ks' ≤ ks + 6 → xG xs LS 10 104 (1056, [some (.retAddr 0), some (.ref 0), some (.ref 22), some (.ref 40), some (.int (nI i)), j5, j6], []) (h', ks', fl') Q) :
    xG xs LS 10 104 (540, [some (.retAddr 0), some (.ref 0), some (.ref 22), some (.ref 40), some (.int (nI i)), j5, j6], []) (h, ks, fl) Q := by
  obtain ⟨fs0, f0⟩ := xCS_0 hC
  refine xg_aload_n xa_L_law_540 rfl ?_
  refine xg_callV0 xa_L_law_541 ⟨Nat.le_of_ble_eq_true rfl, Nat.le_of_ble_eq_true rfl, rfl⟩ rfl rfl f0 ?_
  refine c_F_clock I hC (fun h1 fl1 hC1 s1 => xK0_d ?_)
  have hM1 : xMs h1 Mc Mn Mm Mh Me Ml Mbr Mlk Mt Mg Ma Mb Mw Mwk Msp Mon Mct := xMs_keep (fun j h1 h2 => s1.2 j (by omega)) hM
  obtain ⟨fs1, g1⟩ := xMs_22 hM1
  refine xg_aload_n xa_L_law_544 rfl ?_
  refine xg_callV0 xa_L_law_545 ⟨Nat.le_of_ble_eq_true rfl, Nat.le_of_ble_eq_true rfl, rfl⟩ rfl rfl g1 ?_
  refine c_M_clock I.1.1 hM1 (fun h3 fl3 hM3 s3 => xK0_d ?_)
  have hC3 := xCS_keep (fun j hj => s3.2 j (by omega)) hC1
  have ho3 := (s3.2 40 (by omega)).trans ((s1.2 40 (by omega)).trans ho)
  have hs1 := s1.1
  have hs3 := s3.1
  refine xg_goto xa_L_law_548 ?_
  exact K _ _ _ _ _ ⟨_, _, _, _, _, _, _, _, _, _, _, _, _, _, _, _, _, hM3, hC3, I, ⟨_, ho3⟩, by omega⟩ (by omega) (by omega)
theorem l_exposed {j5 j6 : Option Value} (I : xIn Mn Mm Mh Me Ml Mt Mg Ma Mb Mw Mwk Msp Mon Mct) (hM : xMs h Mc Mn Mm Mh Me Ml Mbr Mlk Mt Mg Ma Mb Mw Mwk Msp Mon Mct) (hC : xCS h Mn Mm Mh Me Ml Mbr Mlk Mt Mg Ma Mb Mw Mwk Msp Mon Mct) (ho : h[40]? = some (.inl (2, 1, .inr (.inl fo)))) (hl41 : 41 ≤ h.length) (hi : i + 3 < LS) (hLS : LS < 2 ^ 31)
    (K : ∀ h' ks' fl' j5 j6, xLw h' → h'.length ≤ h.length + 1 → ks' ≤ ks + 6 → xG xs LS 10 104 (1056, [some (.retAddr 0), some (.ref 0), some (.ref 22), some (.ref 40), some (.int (nI i)), j5, j6], []) (h', ks', fl') Q) :
    xG xs LS 10 104 (987, [some (.retAddr 0), some (.ref 0), some (.ref 22), some (.ref 40), some (.int (nI i)), j5, j6], []) (h, ks, fl) Q := by
  obtain ⟨fs0, f0⟩ := xCS_0 hC
  refine xg_aload_n xa_L_law_987 rfl ?_
  refine xg_callV1 xa_L_law_988 ⟨Nat.le_of_ble_eq_true rfl, Nat.le_of_ble_eq_true rfl, rfl⟩ rfl rfl f0 ?_
  refine c_F_exposed hC (fun fl1 => xK1_d ?_)
  obtain ⟨fs1, g1⟩ := xMs_22 hM
  refine xg_aload_n xa_L_law_991 rfl ?_
  refine xg_callV1 xa_L_law_992 ⟨Nat.le_of_ble_eq_true rfl, Nat.le_of_ble_eq_true rfl, rfl⟩ rfl rfl g1 ?_
  refine c_M_exposed hM (fun h3 fl3 hM3 s3 => xK1_d ?_)
  have hC3 := xCS_keep (fun j hj => s3.2 j (by omega)) hC
  have ho3 := (s3.2 40 (by omega)).trans ho
  have hs3 := s3.1
  refine xg_icmp_eq xa_L_law_995 (fun _ => ?_) (fun z => absurd rfl z)
  exact K _ _ _ _ _ ⟨_, _, _, _, _, _, _, _, _, _, _, _, _, _, _, _, _, hM3, hC3, I, ⟨_, ho3⟩, by omega⟩ (by omega) (by omega)
end XLW
