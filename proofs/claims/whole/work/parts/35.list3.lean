/-! 35.list3: the listing's loop, run. -/
section XM5
variable {xs : Nat → Int32} {LS d : Nat} {ks : Nat} {Q : (Option Value ⊕ Nat) → xm_S → Prop}
variable {Mc : Int32} {Mn : Nat} {Mm : Nat} {Mh : Int32} {Mp : Nat} {Mfw : Int32} {Mfs : Int32} {Me : Nat → Nat} {Ml : Nat → Nat} {Mbr : Nat → Bool} {Mlk : Nat → Bool} {Mt : Nat → Bool} {Mg : Nat → Bool} {Ma : Nat → Nat} {Mb : Nat → Nat} {Mw : Nat → Nat} {Mwk : Nat → Int32} {Msp : Nat → Int32} {Mon : Nat → Int32} {Mct : Nat → Int32} {MS : Nat → Int32} {MZ : Nat → Int32} {MA : Nat → Nat} {MN : Nat → Nat}
theorem xi_dec (q : Nat) : nI (q + 1) + Int32.ofInt (-1) = nI q := by
  rw [← nI_pred q, Int32.sub_eq_add_neg]
  rfl
theorem xl_pop {s : Int32} {a b dp : Nat} {path : Int32} {P : Nat} {S Z : Nat → Int32} {A N : Nat → Nat} {h : List va_E} {fl : Bool} {j6 j7 : Option Value} (hM : xMd h Mc Mn Mm Mh P Mfw Mfs Me Ml Mbr Mlk Mt Mg Ma Mb Mw Mwk Msp Mon Mct S Z A N) (hdp : dp < 8)
    (kk : ∀ v p', (dp = 0 → v = -1) → (∀ q, dp = q + 1 → v = nI q ∧ p' = path &&& (((1 : Int32) <<< ((nI (N q) - 1) &&& 31)) ^^^ (-1))) → xG xs LS (d + 2) 80 (25, [some (.ref 22), some (.int s), some (.int (nI a)), some (.int (nI b)), some (.int v), some (.int p'), j6, j7], []) (h, ks, fl) Q) :
    xG xs LS (d + 2) 80 (106, [some (.ref 22), some (.int s), some (.int (nI a)), some (.int (nI b)), some (.int (nI dp)), some (.int path), j6, j7], []) (h, ks, fl) Q := by
  obtain ⟨g22, g23, g24, g25, g26, g27, g28, g29, g30, g31, g32, g33, g34, g35, g36, g37, g38, g39⟩ := id hM
  cases dp with
  | zero =>
    refine xg_iinc (L' := [_, _, _, _, _, _, _, _]) xa_M_list_106 rfl (show nI 0 + Int32.ofInt (-1) = -1 from by decide) rfl ?_
    refine xg_iload xa_M_list_109 rfl ?_
    refine xg_if_lt xa_M_list_111 (fun c111 => ?_) (fun c111 => absurd (by decide) c111)
    refine xg_goto xa_M_list_191 ?_
    exact kk _ _ (fun _ => rfl) (fun q hq => by omega)
  | succ q =>
    have hq8 : q < 8 := by omega
    refine xg_iinc (L' := [_, _, _, _, _, _, _, _]) xa_M_list_106 rfl (xi_dec q) rfl ?_
    refine xg_iload xa_M_list_109 rfl ?_
    refine xg_if_lt xa_M_list_111 (fun c111 => absurd c111 (nI_pos (by omega))) (fun c111 => ?_)
    refine xg_iload xa_M_list_114 rfl ?_
    refine xg_iconst (v := 1) xa_M_list_116 (by decide) ?_
    refine xg_aload_n xa_M_list_117 rfl ?_
    refine xg_getfield xa_M_list_118 (by assumption) rfl ?_
    refine xg_iload xa_M_list_121 rfl ?_
    refine xg_iald_n xa_M_list_123 (by assumption) rfl (by assumption) (by decide) ?_
    refine xg_iconst (v := 1) xa_M_list_124 (by decide) ?_
    refine xg_isub xa_M_list_125 rfl ?_
    refine xg_ishl xa_M_list_126 rfl ?_
    refine xg_iconst (v := (-1)) xa_M_list_127 (by decide) ?_
    refine xg_ixor xa_M_list_128 rfl ?_
    refine xg_iand xa_M_list_129 rfl ?_
    refine xg_istore (L' := [_, _, _, _, _, _, _, _]) xa_M_list_130 (Nat.le_of_ble_eq_true rfl) rfl ?_
    refine xg_goto xa_M_list_132 ?_
    refine xg_goto xa_M_list_191 ?_
    refine kk _ _ (fun hq => by omega) (fun q' hq => ?_)
    obtain rfl : q = q' := by omega
    exact ⟨rfl, rfl⟩
theorem xl_emit {s : Int32} {a b dp : Nat} {path : Int32} {P : Nat} {S Z : Nat → Int32} {A N : Nat → Nat} {h : List va_E} {fl : Bool} {j6 j7 : Option Value} (hm : Mm ≤ 14) (hM : xMd h Mc Mn Mm Mh P Mfw Mfs Me Ml Mbr Mlk Mt Mg Ma Mb Mw Mwk Msp Mon Mct S Z A N) (hP : P < 4000)
    (kk : ∀ h' fl', xMd h' Mc Mn Mm Mh (P + 1) Mfw Mfs Me Ml Mbr Mlk Mt Mg Ma Mb Mw Mwk Msp Mon Mct (xup S P path) (xup Z P (xlen (fun j => nI (Ml j)) path Mm)) A N → xS h h' 22 40 → xG xs LS (d + 2) 80 (106, [some (.ref 22), some (.int s), some (.int (nI a)), some (.int (nI b)), some (.int (nI dp)), some (.int path), j6, j7], []) (h', ks, fl') Q) :
    xG xs LS (d + 2) 80 (70, [some (.ref 22), some (.int s), some (.int (nI a)), some (.int (nI b)), some (.int (nI dp)), some (.int path), j6, j7], []) (h, ks, fl) Q := by
  obtain ⟨g22, g23, g24, g25, g26, g27, g28, g29, g30, g31, g32, g33, g34, g35, g36, g37, g38, g39⟩ := id hM
  refine xg_aload_n xa_M_list_70 rfl ?_
  refine xg_getfield xa_M_list_71 (by assumption) rfl ?_
  refine xg_aload_n xa_M_list_74 rfl ?_
  refine xg_getfield xa_M_list_75 (by assumption) rfl ?_
  refine xg_iload xa_M_list_78 rfl ?_
  refine xg_iastf_n xa_M_list_80 (by assumption) rfl (by assumption) (by decide) (fun h80 u80 => ?_)
  have hM1 := xMd_MS hM u80
  obtain ⟨g22, g23, g24, g25, g26, g27, g28, g29, g30, g31, g32, g33, g34, g35, g36, g37, g38, g39⟩ := id hM1
  refine xg_aload_n xa_M_list_81 rfl ?_
  refine xg_getfield xa_M_list_82 (by assumption) rfl ?_
  refine xg_aload_n xa_M_list_85 rfl ?_
  refine xg_getfield xa_M_list_86 (by assumption) rfl ?_
  refine xg_aload_n xa_M_list_89 rfl ?_
  refine xg_iload xa_M_list_90 rfl ?_
  refine xg_callV1 xa_M_list_92 ⟨Nat.le_of_ble_eq_true rfl, Nat.le_of_ble_eq_true rfl, rfl⟩ rfl rfl (by assumption) ?_
  refine c_M_lengthOf hM1 hm ?_
  refine xK1_c ?_
  refine xg_iastf_n xa_M_list_95 (by assumption) rfl (by assumption) (by decide) (fun h95 u95 => ?_)
  have hM2 := xMd_MZ hM1 u95
  obtain ⟨g22, g23, g24, g25, g26, g27, g28, g29, g30, g31, g32, g33, g34, g35, g36, g37, g38, g39⟩ := id hM2
  refine xg_aload_n xa_M_list_96 rfl ?_
  refine xg_dup_r xa_M_list_97 ?_
  refine xg_getfield xa_M_list_98 (by assumption) rfl ?_
  refine xg_iconst (v := 1) xa_M_list_101 (by decide) ?_
  refine xg_iadd xa_M_list_102 (nI_1 _) ?_
  refine xg_putf (fs' := [_, _, _, _, _, _, _, _, _, _, _, _, _, _, _, _, _, _, _, _, _, _, _, _]) xa_M_list_103 (by assumption) (Nat.le_of_ble_eq_true rfl) rfl rfl (fun h103 u103 => ?_)
  exact kk _ _ (xMd_o hM2 u103) (((u80.toS (by decide) (by decide)).tr (u95.toS (by decide) (by decide))).tr (u103.toS (by decide) (by decide)))
theorem xdk_none {e : Nat → Nat} {m : Nat} {s : Int32} {b n : Nat} {sA : Nat → Nat} {dp : Nat} {p : Int32} {f k : Nat} (hx : xld e s sA dp f = none) : xdk e m s b n sA dp p f (k + 1) = xdk e m s b n sA dp p (f + 1) k := by
  cases n with
  | zero => rfl
  | succ n =>
    rw [xdk_s, hx]
    rfl
/-- a bit put in and taken out again -/
theorem xbit_back {p : Int32} {f : Nat} (hf : f < 32) (hp : xb p f = false) : (p ||| xbt f) &&& (xbt f ^^^ (-1)) = p := by
  refine xb_ext (fun g hg => ?_)
  rw [xb_and _ _ hg, xb_or _ _ hg, xb_not _ hg, xb_bt hg hf]
  by_cases c : g = f
  · subst c
    rw [hp]
    simp
  · rw [decide_eq_false c]
    simp
theorem xl_node {s : Int32} {a b : Nat} (hm : Mm ≤ 14) (hE : ∀ j, Me j < 7) (hb : b < 7) :
    ∀ (B n : Nat), n < B → ∀ (k f dp : Nat) (path : Int32) (P : Nat) (S Z : Nat → Int32) (A N : Nat → Nat) (h : List va_E) (fl : Bool) (j6 j7 : Option Value) (L : List Int32) (Q : (Option Value ⊕ Nat) → xm_S → Prop),
    dp + n = 6 → f + k = Mm → N dp = f → L = (if A dp = b then [path] else xdk Me Mm s b n A dp path f k) →
    xMd h Mc Mn Mm Mh P Mfw Mfs Me Ml Mbr Mlk Mt Mg Ma Mb Mw Mwk Msp Mon Mct S Z A N → (∀ j, A j < 7) → (∀ j, N j < 100) →
    (∀ i j, i ≤ dp → j ≤ dp → A i = A j → i = j) →
    (∀ g, g < 14 → xb path g = true → ∀ x, (x = Me (2 * g) ∨ x = Me (2 * g + 1)) → ∃ j, j ≤ dp ∧ A j = x) →
    P + L.length ≤ 4000 →
    (∀ h' fl' S' Z' A' N' j6 j7 v p', xMd h' Mc Mn Mm Mh (P + L.length) Mfw Mfs Me Ml Mbr Mlk Mt Mg Ma Mb Mw Mwk Msp Mon Mct S' Z' A' N' → xS h h' 22 40 → (∀ i, i < P → S' i = S i ∧ Z' i = Z i) →
      (∀ i x, L[i]? = some x → S' (P + i) = x ∧ Z' (P + i) = xlen (fun j => nI (Ml j)) x Mm) → (∀ j, j ≤ dp → A' j = A j) → (∀ j, j < dp → N' j = N j) → (∀ j, A' j < 7) → (∀ j, N' j < 100) → (dp = 0 → v = -1) →
      (∀ q, dp = q + 1 → v = nI q ∧ p' = path &&& (((1 : Int32) <<< ((nI (N q) - 1) &&& 31)) ^^^ (-1))) →
      xG xs LS (d + 2) 80 (25, [some (.ref 22), some (.int s), some (.int (nI a)), some (.int (nI b)), some (.int v), some (.int p'), j6, j7], []) (h', ks, fl') Q) →
    xG xs LS (d + 2) 80 (25, [some (.ref 22), some (.int s), some (.int (nI a)), some (.int (nI b)), some (.int (nI dp)), some (.int path), j6, j7], []) (h, ks, fl) Q := by
  intro B
  induction B with
  | zero => intro n hn; omega
  | succ B ihB =>
    intro n hn k
    induction k with
    | zero =>
      intro f dp path P S Z A N h fl j6 j7 L Q hdn hfk hNf hL hM hA hN hinj hpath hlen kk
      have hd8 : dp < 8 := by omega
      obtain ⟨g22, g23, g24, g25, g26, g27, g28, g29, g30, g31, g32, g33, g34, g35, g36, g37, g38, g39⟩ := id hM
      have done : ∀ j6 j7, ¬ A dp = b → xG xs LS (d + 2) 80 (106, [some (.ref 22), some (.int s), some (.int (nI a)), some (.int (nI b)), some (.int (nI dp)), some (.int path), j6, j7], []) (h, ks, fl) Q := by
        intro j6 j7 hne
        rw [if_neg hne, xdk_0] at hL
        subst hL
        refine xl_pop hM hd8 (fun v p' h1 h2 => ?_)
        exact kk h fl S Z A N j6 j7 v p' hM xS.rf (fun _ _ => ⟨rfl, rfl⟩) (fun i x hx => by cases hx) (fun _ _ => rfl) (fun _ _ => rfl) hA hN h1 h2
      refine xg_iload xa_M_list_25 rfl ?_
      refine xg_if_lt xa_M_list_27 (fun c => absurd c (nI_pos (by omega))) (fun _ => ?_)
      refine xg_aload_n xa_M_list_30 rfl ?_
      refine xg_getfield xa_M_list_31 (by assumption) rfl ?_
      refine xg_iload xa_M_list_34 rfl ?_
      refine xg_iald_n xa_M_list_36 (by assumption) rfl (by assumption) (by decide) ?_
      refine xg_istore (L' := [_, _, _, _, _, _, _, _]) xa_M_list_37 (Nat.le_of_ble_eq_true rfl) rfl ?_
      refine xg_aload_n xa_M_list_39 rfl ?_
      refine xg_getfield xa_M_list_40 (by assumption) rfl ?_
      refine xg_iload xa_M_list_43 rfl ?_
      refine xg_iald_n xa_M_list_45 (by assumption) rfl (by assumption) (by decide) ?_
      refine xg_iload_n xa_M_list_46 rfl ?_
      refine xg_icmp_eq xa_M_list_47 (fun c47 => ?_) (fun c47 => ?_)
      · have hAb : A dp = b := (nI_eq (by have := hA dp; omega) (by omega)).mp c47
        refine xg_aload_n xa_M_list_59 rfl ?_
        refine xg_getfield xa_M_list_60 (by assumption) rfl ?_
        refine xg_iload xa_M_list_63 rfl ?_
        refine xg_iald_n xa_M_list_65 (by assumption) rfl (by assumption) (by decide) ?_
        refine xg_iload_n xa_M_list_66 rfl ?_
        refine xg_icmp_ne xa_M_list_67 (fun c => absurd c47 c) (fun _ => ?_)
        rw [if_pos hAb] at hL
        subst hL
        refine xl_emit hm hM (by rw [List.length_singleton] at hlen; omega) (fun h' fl' hM' hS' => ?_)
        refine xl_pop hM' hd8 (fun v p' h1 h2 => ?_)
        exact kk h' fl' _ _ A N _ _ v p' hM' hS' (fun i hi => ⟨xup_n _ _ (by omega), xup_n _ _ (by omega)⟩) (fun i x hx => by
          cases i with
          | zero => cases hx; exact ⟨xup_s _ _ _, xup_s _ _ _⟩
          | succ i => cases hx) (fun _ _ => rfl) (fun _ _ => rfl) hA hN h1 h2
      · have hne : ¬ A dp = b := fun q => c47 (by rw [q])
        refine xg_iload xa_M_list_50 rfl ?_
        refine xg_aload_n xa_M_list_52 rfl ?_
        refine xg_getfield xa_M_list_53 (by assumption) rfl ?_
        refine xg_icmp_ne xa_M_list_56 (fun c => absurd (show nI (N dp) = nI Mm from by rw [hNf, show f = Mm by omega]) c) (fun _ => ?_)
        refine xg_aload_n xa_M_list_59 rfl ?_
        refine xg_getfield xa_M_list_60 (by assumption) rfl ?_
        refine xg_iload xa_M_list_63 rfl ?_
        refine xg_iald_n xa_M_list_65 (by assumption) rfl (by assumption) (by decide) ?_
        refine xg_iload_n xa_M_list_66 rfl ?_
        refine xg_icmp_ne xa_M_list_67 (fun _ => done _ _ hne) (fun c => absurd c c47)
    | succ k ihk =>
      intro f dp path P S Z A N h fl j6 j7 L Q hdn hfk hNf hL hM hA hN hinj hpath hlen kk
      have hd8 : dp < 8 := by omega
      have hf14 : f < 14 := by omega
      obtain ⟨g22, g23, g24, g25, g26, g27, g28, g29, g30, g31, g32, g33, g34, g35, g36, g37, g38, g39⟩ := id hM
      refine xg_iload xa_M_list_25 rfl ?_
      refine xg_if_lt xa_M_list_27 (fun c => absurd c (nI_pos (by omega))) (fun _ => ?_)
      refine xg_aload_n xa_M_list_30 rfl ?_
      refine xg_getfield xa_M_list_31 (by assumption) rfl ?_
      refine xg_iload xa_M_list_34 rfl ?_
      refine xg_iald_n xa_M_list_36 (by assumption) rfl (by assumption) (by decide) ?_
      refine xg_istore (L' := [_, _, _, _, _, _, _, _]) xa_M_list_37 (Nat.le_of_ble_eq_true rfl) rfl ?_
      refine xg_aload_n xa_M_list_39 rfl ?_
      refine xg_getfield xa_M_list_40 (by assumption) rfl ?_
      refine xg_iload xa_M_list_43 rfl ?_
      refine xg_iald_n xa_M_list_45 (by assumption) rfl (by assumption) (by decide) ?_
      refine xg_iload_n xa_M_list_46 rfl ?_
      refine xg_icmp_eq xa_M_list_47 (fun c47 => ?_) (fun c47 => ?_)
      · have hAb : A dp = b := (nI_eq (by have := hA dp; omega) (by omega)).mp c47
        refine xg_aload_n xa_M_list_59 rfl ?_
        refine xg_getfield xa_M_list_60 (by assumption) rfl ?_
        refine xg_iload xa_M_list_63 rfl ?_
        refine xg_iald_n xa_M_list_65 (by assumption) rfl (by assumption) (by decide) ?_
        refine xg_iload_n xa_M_list_66 rfl ?_
        refine xg_icmp_ne xa_M_list_67 (fun c => absurd c47 c) (fun _ => ?_)
        rw [if_pos hAb] at hL
        subst hL
        refine xl_emit hm hM (by rw [List.length_singleton] at hlen; omega) (fun h' fl' hM' hS' => ?_)
        refine xl_pop hM' hd8 (fun v p' h1 h2 => ?_)
        exact kk h' fl' _ _ A N _ _ v p' hM' hS' (fun i hi => ⟨xup_n _ _ (by omega), xup_n _ _ (by omega)⟩) (fun i x hx => by
          cases i with
          | zero => cases hx; exact ⟨xup_s _ _ _, xup_s _ _ _⟩
          | succ i => cases hx) (fun _ _ => rfl) (fun _ _ => rfl) hA hN h1 h2
      · have hne : ¬ A dp = b := fun q => c47 (by rw [q])
        rw [if_neg hne] at hL
        rw [hNf]
        refine xg_iload xa_M_list_50 rfl ?_
        refine xg_aload_n xa_M_list_52 rfl ?_
        refine xg_getfield xa_M_list_53 (by assumption) rfl ?_
        refine xg_icmp_ne xa_M_list_56 (fun _ => ?_) (fun c => absurd c (fun q => by have := (nI_eq (by omega) (by omega)).mp q; omega))
        refine xg_aload_n xa_M_list_135 rfl ?_
        refine xg_getfield xa_M_list_136 (by assumption) rfl ?_
        refine xg_iload xa_M_list_139 rfl ?_
        refine xg_iload xa_M_list_141 rfl ?_
        refine xg_iconst (v := 1) xa_M_list_143 (by decide) ?_
        refine xg_iadd xa_M_list_144 (nI_1 _) ?_
        refine xg_iastf_n xa_M_list_145 (by assumption) rfl (by assumption) (by decide) (fun h145 u145 => ?_)
        have hM1 := xMd_MN hM u145
        obtain ⟨g22, g23, g24, g25, g26, g27, g28, g29, g30, g31, g32, g33, g34, g35, g36, g37, g38, g39⟩ := id hM1
        refine xg_aload_n xa_M_list_146 rfl ?_
        refine xg_iload_n xa_M_list_147 rfl ?_
        refine xg_iload xa_M_list_148 rfl ?_
        refine xg_iload xa_M_list_150 rfl ?_
        refine xg_callV1 xa_M_list_152 ⟨Nat.le_of_ble_eq_true rfl, Nat.le_of_ble_eq_true rfl, rfl⟩ rfl rfl (by assumption) ?_
        refine c_M_leads hM1 hf14 hd8 (fun j => by have := hE j; omega) (fun j => by have := hA j; omega) ?_
        refine xK1_c ?_
        have hN1 : ∀ j, xup N dp (f + 1) j < 100 := by
          intro j
          unfold xup
          by_cases c : j = dp
          · rw [if_pos c]; omega
          · rw [if_neg c]; exact hN j
        cases hx : xld Me s A dp f with
        | none =>
          rw [xdk_none hx] at hL
          refine xg_istore (L' := [_, _, _, _, _, _, _, _]) xa_M_list_155 (Nat.le_of_ble_eq_true rfl) rfl ?_
          refine xg_iload xa_M_list_157 rfl ?_
          refine xg_if_lt xa_M_list_159 (fun _ => ?_) (fun c => absurd (show (-1 : Int32) < 0 from by decide) c)
          refine xg_goto xa_M_list_191 ?_
          refine ihk (f + 1) dp path P S Z A (xup N dp (f + 1)) h145 _ _ _ L Q hdn (by omega) (xup_s _ _ _) (by rw [if_neg hne]; exact hL) hM1 hA hN1 hinj hpath hlen ?_
          intro h' fl' S' Z' A' N' j6 j7 v p' q1 q2 q3 q4 q5 q6 q7 q8 q9 q10
          refine kk h' fl' S' Z' A' N' j6 j7 v p' q1 ((u145.toS (by decide) (by decide)).tr q2) q3 q4 q5 (fun j hj => (q6 j hj).trans (xup_n _ _ (by omega))) q7 q8 q9 (fun q hq => ?_)
          have := q10 q hq
          rw [xup_n _ _ (by omega)] at this
          exact this
        | some t =>
          obtain ⟨x1, x2, x3, x4⟩ := xld_some hx
          have ht7 : t < 7 := by
            rw [x3]
            unfold xoth
            by_cases c : Me (2 * f) = A dp
            · rw [if_pos c]; exact hE _
            · rw [if_neg c]; exact hE _
          have hn0 : ∃ n', n = n' + 1 := by
            cases n with
            | succ n' => exact ⟨n', rfl⟩
            | zero =>
              obtain ⟨j, hj1, hj2⟩ := xpig7 (show 6 ≤ dp by omega) hA hinj ht7
              exact absurd hj2 (x4 j hj1)
          obtain ⟨n', rfl⟩ := hn0
          rw [xdk_s, hx] at hL
          have hpf : xb path f = false := by
            cases hp : xb path f with
            | false => rfl
            | true =>
              exfalso
              obtain ⟨j, hj1, hj2⟩ := hpath f hf14 hp t (by
                rw [x3]
                unfold xoth
                by_cases c : Me (2 * f) = A dp
                · rw [if_pos c]; exact Or.inr rfl
                · rw [if_neg c]; exact Or.inl rfl)
              exact x4 j hj1 hj2
          have hd9 : dp + 1 < 8 := by omega
          show xG xs LS (d + 2) 80 (155, _, [.int (nI t)]) _ Q
          refine xg_istore (L' := [_, _, _, _, _, _, _, _]) xa_M_list_155 (Nat.le_of_ble_eq_true rfl) rfl ?_
          refine xg_iload xa_M_list_157 rfl ?_
          refine xg_if_lt xa_M_list_159 (fun c => absurd c (nI_pos (by omega))) (fun _ => ?_)
          refine xg_iload xa_M_list_162 rfl ?_
          refine xg_iconst (v := 1) xa_M_list_164 (by decide) ?_
          refine xg_iload xa_M_list_165 rfl ?_
          refine xg_ishl xa_M_list_167 rfl ?_
          refine xg_ior xa_M_list_168 rfl ?_
          refine xg_istore (L' := [_, _, _, _, _, _, _, _]) xa_M_list_169 (Nat.le_of_ble_eq_true rfl) rfl ?_
          refine xg_iinc (L' := [_, _, _, _, _, _, _, _]) xa_M_list_171 rfl (xi_inc _) rfl ?_
          refine xg_aload_n xa_M_list_174 rfl ?_
          refine xg_getfield xa_M_list_175 (by assumption) rfl ?_
          refine xg_iload xa_M_list_178 rfl ?_
          refine xg_iload xa_M_list_180 rfl ?_
          refine xg_iastf_n xa_M_list_182 (by assumption) rfl (by assumption) (by decide) (fun h182 u182 => ?_)
          have hM2 := xMd_MA hM1 u182
          obtain ⟨g22, g23, g24, g25, g26, g27, g28, g29, g30, g31, g32, g33, g34, g35, g36, g37, g38, g39⟩ := id hM2
          refine xg_aload_n xa_M_list_183 rfl ?_
          refine xg_getfield xa_M_list_184 (by assumption) rfl ?_
          refine xg_iload xa_M_list_187 rfl ?_
          refine xg_iconst (v := 0) xa_M_list_189 (by decide) ?_
          refine xg_iastf_n xa_M_list_190 (by assumption) rfl (by assumption) (by decide) (fun h190 u190 => ?_)
          refine xg_goto xa_M_list_191 ?_
          have hM3 := xMd_MN (x := 0) hM2 u190
          have key : ∀ j, j ≤ dp → xup A (dp + 1) t j = A j := fun j hj => xup_n _ _ (by omega)
          have hL1 : P + (xdl Me Mm s b n' (xup A (dp + 1) t) (dp + 1) (path ||| xbt f)).length + (xdk Me Mm s b (n' + 1) A dp path (f + 1) k).length ≤ 4000 := by
            rw [hL, List.length_append] at hlen
            simp only at hlen
            omega
          refine ihB n' (by omega) Mm 0 (dp + 1) (path ||| xbt f) P S Z (xup A (dp + 1) t) (xup (xup N dp (f + 1)) (dp + 1) 0) h190 _ _ _ (xdl Me Mm s b n' (xup A (dp + 1) t) (dp + 1) (path ||| xbt f)) Q (by omega) (by omega) (xup_s _ _ _) (xdl_k _ _ _ _ _ _ _ _) hM3 ?_ ?_ ?_ ?_ (by omega) ?_
          · intro j
            unfold xup
            by_cases c : j = dp + 1
            · rw [if_pos c]; exact ht7
            · rw [if_neg c]; exact hA j
          · intro j
            by_cases c : j = dp + 1
            · rw [c, xup_s]; omega
            · rw [xup_n _ _ c]; exact hN1 j
          · intro i j hi hj hij
            by_cases c1 : i = dp + 1 <;> by_cases c2 : j = dp + 1
            · omega
            · rw [c1, xup_s, xup_n _ _ c2] at hij
              exact absurd hij.symm (x4 j (by omega))
            · rw [c2, xup_s, xup_n _ _ c1] at hij
              exact absurd hij (x4 i (by omega))
            · rw [xup_n _ _ c1, xup_n _ _ c2] at hij
              exact hinj i j (by omega) (by omega) hij
          · intro g hg hgb x hgx
            rw [xb_or _ _ (by omega), xb_bt (by omega) (by omega)] at hgb
            by_cases c : g = f
            · subst c
              have ends : x = A dp ∨ x = t := by
                rw [x3]
                unfold xoth
                by_cases c : Me (2 * g) = A dp
                · rw [if_pos c]
                  rcases hgx with z | z
                  · exact Or.inl (z.trans c)
                  · exact Or.inr z
                · rw [if_neg c]
                  rcases hgx with z | z
                  · exact Or.inr z
                  · rcases x2 with y | y
                    · exact absurd y c
                    · exact Or.inl (z.trans y)
              rcases ends with z | z
              · exact ⟨dp, by omega, by rw [key dp (by omega)]; exact z.symm⟩
              · exact ⟨dp + 1, by omega, by rw [xup_s]; exact z.symm⟩
            · rw [decide_eq_false c, Bool.or_false] at hgb
              obtain ⟨j, hj1, hj2⟩ := hpath g hg hgb x hgx
              exact ⟨j, by omega, by rw [key j hj1]; exact hj2⟩
          · intro h' fl' S' Z' A' N' j6 j7 v p' q1 q2 q3 q4 q5 q6 q7 q8 q9 q10
            obtain ⟨rfl, q11⟩ := q10 dp rfl
            have hNd : N' dp = f + 1 := by rw [q6 dp (by omega), xup_n _ _ (by omega), xup_s]
            have hp' : p' = path := by
              rw [q11, xup_n _ _ (by omega), xup_s, nI_pred]
              exact xbit_back (by omega) hpf
            subst hp'
            have hA' : ∀ j, j ≤ dp → A' j = A j := fun j hj => (q5 j (by omega)).trans (key j hj)
            refine ihk (f + 1) dp p' _ S' Z' A' N' h' fl' j6 j7 (xdk Me Mm s b (n' + 1) A dp p' (f + 1) k) Q hdn (by omega) hNd (by rw [hA' dp (by omega), if_neg hne]; exact (xdk_congr hA').symm) q1 q7 q8 (fun i j hi hj hij => by rw [hA' i hi, hA' j hj] at hij; exact hinj i j hi hj hij) (fun g hg hgb x hgx => by obtain ⟨j, hj1, hj2⟩ := hpath g hg hgb x hgx; exact ⟨j, hj1, (hA' j hj1).trans hj2⟩) (by omega) ?_
            intro h2 fl2 S2 Z2 A2 N2 j6 j7 v p2 r1 r2 r3 r4 r5 r6 r7 r8 r9 r10
            have eL : P + (xdl Me Mm s b n' (xup A (dp + 1) t) (dp + 1) (p' ||| xbt f)).length + (xdk Me Mm s b (n' + 1) A dp p' (f + 1) k).length = P + L.length := by
              rw [hL, List.length_append]
              simp only
              omega
            rw [eL] at r1
            refine kk h2 fl2 S2 Z2 A2 N2 j6 j7 v p2 r1 ((((u145.toS (by decide) (by decide)).tr (u182.toS (by decide) (by decide))).tr (u190.toS (by decide) (by decide))).tr (q2.tr r2)) ?_ ?_ (fun j hj => (r5 j hj).trans (hA' j hj)) ?_ r7 r8 r9 ?_
            · intro i hi
              obtain ⟨w1, w2⟩ := r3 i (by omega)
              obtain ⟨w3, w4⟩ := q3 i hi
              exact ⟨w1.trans w3, w2.trans w4⟩
            · intro i x hi
              rw [hL] at hi
              by_cases c : i < (xdl Me Mm s b n' (xup A (dp + 1) t) (dp + 1) (p' ||| xbt f)).length
              · rw [List.getElem?_append_left c] at hi
                obtain ⟨w1, w2⟩ := q4 i x hi
                obtain ⟨w3, w4⟩ := r3 (P + i) (by omega)
                exact ⟨w3.trans w1, w4.trans w2⟩
              · rw [List.getElem?_append_right (Nat.le_of_not_lt c)] at hi
                obtain ⟨w1, w2⟩ := r4 _ x hi
                have e : P + (xdl Me Mm s b n' (xup A (dp + 1) t) (dp + 1) (p' ||| xbt f)).length + (i - (xdl Me Mm s b n' (xup A (dp + 1) t) (dp + 1) (p' ||| xbt f)).length) = P + i := by omega
                rw [e] at w1 w2
                exact ⟨w1, w2⟩
            · intro j hj
              rw [r6 j hj, q6 j (by omega), xup_n _ _ (by omega), xup_n _ _ (by omega)]
            · intro q hq
              have := r10 q hq
              rw [q6 q (by omega), xup_n _ _ (by omega), xup_n _ _ (by omega)] at this
              exact this
end XM5
