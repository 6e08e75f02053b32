/-! 07.whole: the simulation. -/
section XM9
variable {l : Launch}
variable {WS : Cond → Bool} {cl : List vw_C} {kt : List FieldType} {df : List (List Value)} {dA : Nat → ClassId} {D : va_G} {B0 sb LS : Nat} {xs : Nat → Int32} {P : List xm_M}
set_option maxHeartbeats 8000000 in
set_option maxRecDepth 100000 in
theorem xm_sim {s0 : State} {KC KS : Nat} (hTop : xm_Top WS cl kt df P dA D B0 sb LS xs s0) (htr : ∀ e : Env, l.admits e → e.platform.stackTraces = false) : ∀ (n d mi : Nat) (F : xm_F) (S S1 : xm_S) (r : Option Value ⊕ Nat), xm_run xs LS kt df P n d mi F S = some (r, S1) → S1.1.length ≤ KC → S1.2.1 ≤ KS →
    ∀ (p : Program) (e : Env) (R : Room) (s : State) (m : MethodId) (args : Array Value) (below : List Frame) (meth : Method) (c : Code) (H : Heap) (locs : List Loc) (cells slots : Nat) (ls : Array Slot) (h0 : List va_E) (ks0 : Nat) (M : xm_M), P[mi]? = some M →
      xm_Frm p R s0 s m meth c B0 KC KS d M h0 ks0 → xm_V D cl dA B0 sb s h0 ks0 M.2.2.1 F.2.1 S H locs cells slots ls →
      W p l e R s m args below meth c H locs cells slots (xm_End D cl dA B0 sb s below h0 ks0 r S1) (F0 m F.1 ls (F.2.2.map (xm_tv B0 sb))) := by
  intro n
  induction n with
  | zero => intro d mi F S S1 r h; simp [xm_run] at h
  | succ n ih =>
    intro d mi F S S1 r hrun hKC hKS p e R s m args below meth c H locs cells slots ls h0 ks0 M hM hF hV
    obtain ⟨hx, hnm, hmn, hb, hml, hret, hlk, hxt, hle, hsz, hRf, hRl, hRc, hRs⟩ := id hF
    obtain ⟨hWS, hK0, hX0, hsb, hB0, hZ1, hZ2, hZ3, hZ4, hcl, hall, hcast⟩ := id hTop
    have hown : s.vm.findClass M.1.cls = some m.cls := hnm
    have hts : ∀ w, WS w = true → w.before args s = true := fun w hw => hWS w hw args s hle.1
    have hK : va_K D cl (xm_tys kt dA) s := va_K.moved hle.1.alike hK0
    have hX : va_X sb LS xs s s.heap := (va_X.moved hle.1.alike hX0).kept (hle.2.2 sb (by omega))
    have hlen := xm_run_len _ _ _ _ _ _ _ hrun
    obtain ⟨hokM, hokI⟩ := hall mi M hM
    unfold xm_run at hrun
    split at hrun
    · cases hrun
    · rename_i F' S' ha
      have hlen2 := xm_run_len _ _ _ _ _ _ _ hrun
      unfold xm_act at ha
      split at ha
      · rename_i pc' i a b k d0 hat
        obtain ⟨hmem, hpc⟩ := xm_at_mem hM hat
        have hpc : pc' = F.1 := hpc
        subst hpc
        obtain ⟨o1, o2, o3, o4⟩ := hokI _ hmem
        split at ha
        · exact xm_sm hx hb hown hmn hts hK hX hsb (by omega) hcl o1 ha hV (fun H' locs' ls' hV' => ih _ _ _ _ _ _ hrun hKC hKS _ _ _ _ _ _ _ _ _ _ _ _ _ _ _ _ _ hM hF hV')
        · exact xm_bg hx hb hml hown hts hK hsz hcl (by omega) (by omega) o1 o2 ha (by omega) (by omega) hV (fun H' locs' cells' slots' ls' hV' => ih _ _ _ _ _ _ hrun hKC hKS _ _ _ _ _ _ _ _ _ _ _ _ _ _ _ _ _ hM hF hV')
      · cases ha
    · rename_i v ha
      cases hrun
      unfold xm_act at ha
      split at ha
      · rename_i pc' i a b k d0 hat
        obtain ⟨hmem, hpc⟩ := xm_at_mem hM hat
        have hpc : pc' = F.1 := hpc
        subst hpc
        obtain ⟨o1, o2, o3, o4⟩ := hokI _ hmem
        have hdg := o1
        simp only [xm_ok, Bool.and_eq_true, decide_eq_true_eq] at hdg
        have hdg := hdg.1
        split at ha
        · exact (xm_ins_inl ha).elim
        · refine xm_size hsz hV fun hHs => ?_
          obtain ⟨h1, h2, h3, h4, h5, h6⟩ := hV
          have hfree : ∀ q ∈ locs, B0 ≤ q.base ∧ S.2.2 = false := fun q hq => ⟨h3.2.2 q hq, by
            cases hS : S.2.2 with
            | false => rfl
            | true => rw [(h6 hS).1] at hq; cases hq⟩
          have hfin : ∀ t : State, MQ below (fun _ _ o t => o = xm_o B0 sb (.inl v) ∧ t.heap = H) args s cells slots (fun q => B0 ≤ q ∧ S.2.2 = false) t → xm_End D cl dA B0 sb s below h0 ks0 (.inl v) S t := by
            intro t ht
            obtain ⟨o, hrunT, hend, ⟨ho, hth⟩, L, ⟨hro, hW, hsame⟩, hL⟩ := ht
            refine ⟨o, hrunT, hend, ho, hW, by rw [hth]; exact h2, by rw [hth]; exact hHs, fun q hq => by rw [hth]; exact h3.2.1 q (by omega) (by show ¬ B0 ≤ q; omega), (fun i hi => by cases hi), L, fun q hq => (hL q hq).1, fun hS => ⟨?_, fun _ _ => (h6 hS).2⟩, (fun i hi => by cases hi), ?_⟩
            · cases L with
              | nil => rfl
              | cons q r => have := (hL q List.mem_cons_self).2; rw [hS] at this; cases this
            · have q1 : S.1.length - h0.length = cells := by omega
              have q2 : S.2.1 - ks0 = slots := by omega
              rw [q1, q2]
              exact hsame
          rcases xm_big_ret ha with ⟨rfl, x, hst, rfl, hd0⟩ | ⟨rfl, hst, rfl⟩
          · rw [hst]
            simp only [xm_okC] at o4
            refine xm_mono hfin ?_
            split at o4
            · rename_i hr0
              exact W.zret (v := x) (ty := .int) hx hb (hret.trans hr0) rfl (fun t ht _ => ⟨rfl, ht⟩) hfree hdg hlk
            · rename_i hr0
              have hd1 : d0 = 1 := by simpa using o4
              have hx01 : x = 0 ∨ x = 1 := by
                rcases hd0 with h | h
                · omega
                · exact h
              exact W.zret (v := x) (ty := .boolean) hx hb (hret.trans hr0) (by rcases hx01 with rfl | rfl <;> decide) (fun t ht _ => ⟨rfl, ht⟩) hfree hdg hlk
            · cases o4
          · rw [hst]
            simp only [xm_okC, decide_eq_true_eq] at o4
            exact xm_mono hfin (W.vret hx hb (hret.trans o4) (fun t ht _ => ⟨rfl, ht⟩) hfree hdg hlk)
      · cases ha
    · rename_i ci ha
      split at hrun
      · rename_i hcn
        cases hrun
        simp only [Bool.and_eq_true, decide_eq_true_eq] at hcn
        unfold xm_act at ha
        split at ha
        · rename_i pc' i a b k d0 hat
          obtain ⟨hmem, hpc⟩ := xm_at_mem hM hat
          have hpc : pc' = F.1 := hpc
          subst hpc
          obtain ⟨o1, o2, o3, o4⟩ := hokI _ hmem
          split at ha
          · exact (xm_ins_inl ha).elim
          · obtain ⟨ix, rfl, hd1, hst, rfl⟩ := xm_big_thr ha
            have hnoH : c.exceptionTable.toList = [] := by
              have h1 := hcn.1.2
              unfold xm_noH at h1
              rw [hM] at h1
              simp only [Bool.and_eq_true, List.isEmpty_iff, bne_iff_ne, ne_eq] at h1
              have h3 : xm_h4 M = [] := by unfold xm_h4; rw [h1.1]; rfl
              have hxt := hxt h1.2
              rw [h3] at hxt
              simpa using hxt
            simp only [List.length_append, List.length_singleton] at hKC
            simp only at hKS
            exact xm_thr hx (htr e) hb hml hlk hown hts hK (xm_isRef (hZ1 #[]) hle) (xm_isRef (hZ2 #[]) hle) (xm_lays (hZ3 #[]) hle) (xm_lays (hZ4 #[]) hle) hsz (by omega) (by omega) hnoH hd1 hst o1 o3 hcn.1.1 (by omega) (by omega) hV
        · cases ha
      · cases hrun
    · rename_i y as rest ha
      split at hrun
      · cases hrun
      · rename_i d'
        have hlenC : ∀ (r1 : Option Value ⊕ Nat) (S' : xm_S), xm_run xs LS kt df P n d' y (0, xm_entry P y as, []) (S.1, S.2.1, true) = some (r1, S') → S.1.length ≤ S'.1.length ∧ S.2.1 ≤ S'.2.1 := fun r1 S' h => xm_run_len _ _ _ _ (S.1, S.2.1, true) _ _ h
        unfold xm_act at ha
        split at ha
        case h_2 => cases ha
        rename_i pc' i a b k d0 hat
        obtain ⟨hmem, hpc⟩ := xm_at_mem hM hat
        have hpc : pc' = F.1 := hpc
        subst hpc
        obtain ⟨o1, o2, o3, o4⟩ := hokI _ hmem
        have hdg0 := o1
        simp only [xm_ok, Bool.and_eq_true, decide_eq_true_eq] at hdg0
        have hdg := hdg0.1
        clear hdg0
        split at ha
        · exact (xm_ins_inl ha).elim
        obtain ⟨rfl, hrest, hcase⟩ := xm_big_call ha
        have hgo : ∀ M' : xm_M, P[y]? = some M' → M'.1.name ≠ "law" → as.all xm_cat = true → as.length ≤ M'.2.2.1 → (∀ T : State, T.heap = H → Stand p l e R s m args below meth c T locs cells slots → xm_Fr p l e R s m args below meth c T locs cells slots (F0 m F.1 ls (F.2.2.map (xm_tv B0 sb))) (rest.map (xm_tv B0 sb)) M'.1 (as.map (xm_tv B0 sb)).toArray) →
            (∃ ig, decode M.2.1 F.1 = .ok (ig, 3)) → W p l e R s m args below meth c H locs cells slots (xm_End D cl dA B0 sb s below h0 ks0 r S1) (F0 m F.1 ls (F.2.2.map (xm_tv B0 sb))) := by
          intro M' hM' hnl hcat hlenA hfront hdg3 T hT X
          obtain ⟨ig, hdg3⟩ := hdg3
          obtain ⟨vm₁, mk, X₁, hnamed, st⟩ := hfront T hT X
          cases hrc : xm_run xs LS kt df P n d' y (0, xm_entry P y as, []) (S.1, S.2.1, true) with
          | none => rw [hrc] at hrun; cases hrun
          | some q =>
            obtain ⟨r1, S'⟩ := q
            rw [hrc] at hrun
            have hl1 := hlenC r1 S' hrc
            have hl2 : S'.1.length ≤ S1.1.length ∧ S'.2.1 ≤ S1.2.1 := by
              cases r1 with
              | inl v => exact xm_run_len _ _ _ _ (S'.1, S'.2.1, S.2.2 && S'.2.2) _ _ hrun
              | inr i =>
                simp only at hrun
                split at hrun
                · split at hrun
                  · exact xm_run_len _ _ _ _ (S'.1, S'.2.1, false) _ _ hrun
                  · split at hrun
                    · cases hrun
                      exact ⟨Nat.le_refl _, Nat.le_refl _⟩
                    · cases hrun
                · cases hrun
            obtain ⟨hV1, hV2, hV3, hV4, hV5, hV6⟩ := hV
            have hokM' := xm_okM.full (hall y M' hM').1 hnl
            have hpl' : plainName M'.1.cls = true ∧ M'.2.2.1 ≤ 14 := by
              simp only [xm_okF, Bool.and_eq_true, decide_eq_true_eq] at hokM'
              exact hokM'.1.1.1
            have hXW : s0.WarmedH (T.setVm vm₁).vm := State.WarmedH.trans hle.1 X₁.warmed
            have hHz := hsz
            have hHs : H.size = B0 + S.1.length := by
              have g1 := X.heapSize
              rw [hT] at g1
              have g2 := hV3.1
              by_cases hc0 : cells = 0
              · omega
              · have hl : S.1.length - 1 < S.1.length := by omega
                have g3 := (hV2 (S.1.length - 1) _ (xm_tw_get (List.getElem?_eq_getElem hl))).lt
                have g5 : B0 + (S.1.length - 1) < H.size := g3
                omega
            have hMet : MetFree l M'.1 (headSpec [.codeWith M'.1 M'.2.1 M'.2.2.1 M'.2.2.2.1 (xm_h4 M')] ({ frames := d' + 1, cells := KC - S.1.length, slots := KS - S.2.1, locals := 33 * d' + 58 } : Room))
                (fun a u => a = (as.map (xm_tv B0 sb)).toArray ∧ xm_le s0 u ∧ u.heap.size = B0 + S.1.length ∧ va_P D cl (xm_tw dA B0 sb S.1) u.heap) (fun _ _ _ _ _ => True) (fun _ u o t => xm_E0 D cl dA B0 sb u S.1 S.2.1 r1 S' o t) := by
              refine MetFree.of_bodyS (code := M'.2.1) (maxLocals := M'.2.2.1) (ret := M'.2.2.2.1) hpl'.1 ?_ ?_
              · intro args2 s2 m2 hpre hn2
                obtain ⟨m3, meth3, c3, hn3, g1, g2, g3, g4, -, g6, g7, -⟩ := Cond.codeWith_spec (atoms_spec (ws := [.codeWith M'.1 M'.2.1 M'.2.2.1 M'.2.2.2.1 (xm_h4 M')]) hpre _ (List.mem_singleton_self _))
                cases hn2.symm.trans hn3
                exact ⟨meth3, c3, g1, g2, g3, g4, g6, g7⟩
              · intro p2 e2 s2 m2 args2 below2 meth2 c2 s₁ B hml2 hP2 _
                obtain ⟨rfl, hle2, hsz2, hPw2⟩ := hP2
                have hh0 : s₁.heap = s2.heap := by rw [B.state]; rfl
                obtain ⟨m3, meth3, c3, hn3, g1, g2, -, -, g5, -, -, -⟩ := Cond.codeWith_spec (atoms_spec (ws := [.codeWith M'.1 M'.2.1 M'.2.2.1 M'.2.2.2.1 (xm_h4 M')]) B.pre _ (List.mem_singleton_self _))
                cases B.named.symm.trans hn3
                cases B.method.symm.trans g1
                have X2 := Stand.of_body B
                cases X2.code.symm.trans g2
                obtain ⟨f1, f2⟩ := xm_first (m := m2) (B0 := B0) (sb := sb) (xm_cat1 hcat) hlenA
                have hent : xm_entry P y as = as.map some ++ List.replicate (M'.2.2.1 - as.length) none := by unfold xm_entry; rw [hM']
                have hw := ih d' y _ _ _ _ hrc (by omega) (by omega) p2 e2 ({ frames := d' + 1, cells := KC - S.1.length, slots := KS - S.2.1, locals := 33 * d' + 58 } : Room) s2 m2 (as.map (xm_tv B0 sb)).toArray below2 meth2 c2 s2.heap [] 0 0 _ S.1 S.2.1 M' hM'
                  ⟨B.exec, findClass_of_methodNamed B.named, fun hi => (name_of_methodNamed B.named B.method).1.trans hi, B.bytes, hml2, B.returns, B.notSynchronized, fun _ => g5, hle2, hsz2, rfl, rfl, by show KC - S.1.length + S.1.length = KC; omega, by show KS - S.2.1 + S.2.1 = KS; omega⟩
                  ⟨by rw [hent]; exact f2, hPw2, va_S.rf, by simp, by simp, fun _ => ⟨rfl, rfl⟩⟩
                obtain ⟨t, a1, o, b1, b2, b3⟩ := hw s₁ hh0 X2
                refine ⟨t, o, ?_, b1, b2, b3⟩
                rw [f1]
                exact a1
            have hcw := xm_code (mi := y) hWS hokM' hXW (as.map (xm_tv B0 sb)).toArray
            have hsum := xm_sum (B0 := B0) (sb := sb) rest
            have hn1 : (T.setVm vm₁).methodNamed? M'.1 = some mk := X₁.named hnamed
            have hTq : ∀ q : Nat, q < B0 → T.heap[q]? = s.heap[q]? := fun q hq => by rw [hT]; exact hV3.2.1 q (by omega) (by show ¬ B0 ≤ q; omega)
            obtain ⟨o, t, hst, hend, hE⟩ := xm_callee X₁ (g := { F0 m F.1 ls (F.2.2.map (xm_tv B0 sb)) with stack := rest.map (xm_tv B0 sb) }) rfl (by show ls.size = _; rw [hml]; exact hV1.1) (by rw [hb]; exact hdg3) (by show 2 * 0 + ((rest.map (xm_tv B0 sb)).map fun v => v.category).sum ≤ 8; omega) hMet hcw.1 hn1 hcw.2
              (by show d' + 1 + 1 ≤ _; omega) (by show 8 + (M'.2.2.1 + 11) + (33 * d' + 58) ≤ _; omega) (by show cells + (KC - S.1.length) ≤ _; omega) (by show slots + (KS - S.2.1) ≤ _; omega)
              ⟨rfl, xm_le.tr hle X₁.warmed (by show _ ≤ T.heap.size; rw [hT]; omega) (fun q hq => hTq q (by omega)), by show T.heap.size = _; rw [hT]; exact hHs, by show va_P D cl _ T.heap; rw [hT]; exact hV2⟩
            obtain ⟨ho, hWt, hPt, hzt, hot, hthr, L, hL1, hL2, hL3, hsame⟩ := hE
            have hot' : ∀ q : Nat, q < B0 → t.heap[q]? = s.heap[q]? := fun q hq => (hot q hq).trans (hTq q hq)
            cases r1 with
            | inl v =>
              subst ho
              obtain ⟨T', X', hWT, hsT, ht⟩ := X₁.outOf rfl (by rw [hb]; exact hdg3) hend hWt hsame
              have hTh : T'.heap = t.heap := by rw [ht]; simp [State.setTop, State.modifyTopJava]
              simp only at hrun
              have hk := ih _ _ _ _ _ _ hrun hKC hKS p e R s m args below meth c T'.heap (locs ++ L) (cells + (S'.1.length - S.1.length)) (slots + (S'.2.1 - S.2.1)) ls h0 ks0 M hM hF
                ⟨hV1, by rw [hTh]; exact hPt, ⟨by rw [hTh, hzt]; omega, fun q h1 h2 => by rw [hTh]; exact hot' q (by have : ¬ B0 ≤ q := h2; omega), fun q hq => by
                    rcases List.mem_append.mp hq with h | h
                    · exact hV3.2.2 q h
                    · exact hL1 q h⟩, by show h0.length + (cells + (S'.1.length - S.1.length)) = S'.1.length; omega, by show slots + (S'.2.1 - S.2.1) + ks0 = S'.2.1; omega, fun hcc => by
                    simp only [Bool.and_eq_true] at hcc
                    obtain ⟨z1, z2⟩ := hV6 hcc.1
                    obtain ⟨z3, z4⟩ := hL2 hcc.2
                    exact ⟨by rw [z1, z3]; rfl, (z4 v rfl).trans z2⟩⟩
              obtain ⟨t2, a1, b1⟩ := hk T' rfl X'
              refine ⟨t2, st t2 (fun acts => ?_), b1⟩
              rw [doInvoke_state]
              refine hst.trans ?_
              rw [ht]
              have hvl : (v.map (xm_tv B0 sb)).toList ++ rest.map (xm_tv B0 sb) = (v.toList ++ rest).map (xm_tv B0 sb) := by cases v <;> simp
              rw [← hvl] at a1
              exact a1
            | inr i =>
              subst ho
              have hLn := hL3 i rfl
              subst hLn
              obtain ⟨ci, C, T0, hi, hci⟩ := hthr i rfl
              obtain ⟨T', X', hWT, hsT, ht⟩ := X₁.outOfThrown rfl hend hWt hsame
              have hTh : T'.heap = t.heap := by rw [ht]; exact (Stand.throwing_heap T' _ _).symm
              simp only [hi] at hrun
              have hva : va_S (fun q => B0 ≤ q) s.heap T'.heap (locs ++ []) := ⟨by rw [hTh, hzt]; omega, fun q h1 h2 => by rw [hTh]; exact hot' q (by have : ¬ B0 ≤ q := h2; omega), fun q hq => by rw [List.append_nil] at hq; exact hV3.2.2 q hq⟩
              split at hrun
              · rename_i tg hhand
                obtain ⟨r0, hr0, cell, hcell, hccls, hcvm, -⟩ := hPt i _ (xm_tw_get hi)
                cases hci.symm.trans hr0
                have hKc := (hK.1 ci _ hci).2
                obtain ⟨kC, hkC, -⟩ := hKc.2
                have hcell' : T'.heap[B0 + i]? = some cell := by rw [hTh]; exact hcell
                have hpl : e.platform.magicAccessors = ({} : Platform).magicAccessors := by rw [X.admits.platform]
                have hnl2 : M.1.name ≠ "law" := by
                  intro hl
                  have h1 := hokM
                  unfold xm_okM at h1
                  rw [if_pos hl] at h1
                  unfold xm_hand at hhand
                  rw [hM] at hhand
                  have h2 : M.2.2.2.2.1 = [] := by simpa using h1
                  simp only [h2] at hhand
                  cases hhand
                have hhd : ∀ h ∈ M.2.2.2.2.1, h.2.2.2.1 ≠ 0 ∧ ∃ c', s.vm.ClassLinks e.platform m.cls h.2.2.2.1 c' ∧ s.vm.assignable cell.cls c' = (h.2.2.2.2 == ci) := by
                  intro h hh
                  have hok := xm_okM.full hokM hnl2
                  simp only [xm_okF, Bool.and_eq_true, List.all_eq_true, decide_eq_true_eq] at hok
                  obtain ⟨hne, hlk2⟩ := hok.2 h hh
                  refine ⟨hne, ?_⟩
                  split at hlk2
                  · rename_i C' T1 N1 hc1
                    obtain ⟨c', hc', hcl'⟩ := Cond.classLink_spec hown (hts _ hlk2) e.platform hpl
                    refine ⟨c', hcl', ?_⟩
                    rw [hccls]
                    exact hcast M mi hM h hh ci C C' T0 T1 N1 hci hc1 s hle.1 _ _ hKc.1 hc'
                  · cases hlk2
                have hhand' : (M.2.2.2.2.1.find? (fun x => decide (x.1 ≤ F.1) && decide (F.1 < x.2.1) && x.2.2.2.2 == ci)).map (fun x => x.2.2.1) = some tg := by
                  unfold xm_hand at hhand
                  rw [hM] at hhand
                  exact hhand
                obtain ⟨vm2, X2, st2⟩ := xm_caught X' (g := { F0 m F.1 ls (F.2.2.map (xm_tv B0 sb)) with stack := rest.map (xm_tv B0 sb) }) rfl hcell' (by rw [hcvm]; rfl) (by rw [hccls]; exact ⟨kC, hkC⟩) (hxt hnl2) hhd hhand'
                have hk := ih _ _ _ _ _ _ hrun hKC hKS p e R s m args below meth c T'.heap (locs ++ []) (cells + (S'.1.length - S.1.length)) (slots + (S'.2.1 - S.2.1)) ls h0 ks0 M hM hF
                  ⟨hV1, by rw [hTh]; exact hPt, hva, by show h0.length + (cells + (S'.1.length - S.1.length)) = S'.1.length; omega, by show slots + (S'.2.1 - S.2.1) + ks0 = S'.2.1; omega, fun hcc => by cases hcc⟩
                obtain ⟨t2, a1, b1⟩ := hk (T'.setVm vm2) rfl X2
                refine ⟨t2, st t2 (fun acts => ?_), b1⟩
                rw [doInvoke_state]
                refine hst.trans ?_
                rw [ht]
                exact st2 t2 a1
              · split at hrun
                · rename_i hcn
                  cases hrun
                  simp only [Bool.and_eq_true] at hcn
                  obtain ⟨z1, z2⟩ := hV6 hcn.1
                  subst z1
                  have hnoH : c.exceptionTable.toList = [] := by
                    have h1 := hcn.2
                    unfold xm_noH at h1
                    rw [hM] at h1
                    simp only [Bool.and_eq_true, List.isEmpty_iff, bne_iff_ne, ne_eq] at h1
                    have h3 : xm_h4 M = [] := by unfold xm_h4; rw [h1.1]; rfl
                    have hxt := hxt h1.2
                    rw [h3] at hxt
                    simpa using hxt
                  obtain ⟨w1, w2, w3, w4, w5⟩ := X'.leaveThrown (B0 + i) (g := { F0 m F.1 ls (F.2.2.map (xm_tv B0 sb)) with stack := rest.map (xm_tv B0 sb) }) rfl rfl rfl (by rw [hnoH]; intro y hy; cases hy) hlk
                  refine ⟨_, st _ (fun acts => ?_), .threw (B0 + i), w2, w3, rfl, w4, ?_, ?_, ?_, ?_, [], fun q hq => (by cases hq), fun _ => ⟨rfl, fun v hv => by cases hv⟩, fun _ _ => rfl, ?_⟩
                  · rw [doInvoke_state]
                    refine hst.trans ?_
                    rw [ht]
                    exact w1
                  · show va_P D cl (xm_tw dA B0 sb S'.1) T'.heap
                    rw [hTh]; exact hPt
                  · show T'.heap.size = _
                    rw [hTh]; exact hzt
                  · intro q hq
                    show T'.heap[q]? = _
                    rw [hTh]; exact hot' q hq
                  · intro i' hi'
                    cases hi'
                    exact ⟨ci, C, T0, hi, hci⟩
                  · have q1 : S'.1.length - h0.length = cells + (S'.1.length - S.1.length) := by omega
                    have q2 : S'.2.1 - ks0 = slots + (S'.2.1 - S.2.1) := by omega
                    show s.sameButNew _ [] (S'.1.length - h0.length) (S'.2.1 - ks0)
                    rw [q1, q2]
                    exact w5
                · cases hrun
        rcases hcase with ⟨ix, r0, rfl, hd0, hst, has⟩ | ⟨ix, r0, bs, ci, fs, rfl, has, hst, hlb, hcat, hr, hck⟩ | ⟨ix, rfl, hst, hlb, hcat⟩
        · simp only [xm_okC, if_pos hd0] at o4
          split at o4
          · rename_i M' hM'
            simp only [Bool.and_eq_true, Bool.or_eq_true, decide_eq_true_eq, beq_iff_eq] at o4
            obtain ⟨⟨⟨⟨⟨⟨⟨⟨k1, k2⟩, k3⟩, k4⟩, k5⟩, k6⟩, k7⟩, k8⟩, k9⟩ := o4
            have hcw := xm_code (mi := y) hWS (xm_okM.full (hall y M' hM').1 k9) hle.1 args
            have h4 : xm_h4 M' = [] := by unfold xm_h4; rw [k4]; rfl
            have hcw1 := hcw.1
            rw [h4, k5] at hcw1
            subst has
            refine hgo M' hM' k9 rfl (by simpa using k8) ?_ ⟨_, hdg⟩
            intro T hT X
            rw [hst]
            exact xm_fI X hx hown (k1.imp (hts _) (hts _)) (hts _ k2) hcw1 k3 k6 k7 rfl (argsL := []) rfl rfl (by rw [hb]; exact hdg)
          · cases o4
        · simp only [xm_okC] at o4
          split at o4
          · rename_i M' C T0 N0 hM' hck'
            simp only [Bool.and_eq_true, Bool.or_eq_true, decide_eq_true_eq] at o4
            obtain ⟨⟨⟨⟨⟨⟨k1, k2⟩, k3⟩, k6⟩, k7⟩, k8⟩, k9⟩ := o4
            have hcw := xm_code (mi := y) hWS (xm_okM.full (hall y M' hM').1 k9) hle.1 args
            refine hgo M' hM' k9 hcat (by rw [hlb]; exact k8) ?_ ⟨_, hdg⟩
            intro T hT X
            subst has
            subst hck
            obtain ⟨r1, hr1, cell, hcell, hccls, hcvm, -⟩ := hV.2.1 r0 _ (xm_tw_get hr)
            cases hck'.symm.trans hr1
            have hpar : (parseMethodDescriptor M'.1.desc).map (fun d => d.parameters.length) = some bs.length := by
              rw [List.length_cons] at hlb
              cases hpd : parseMethodDescriptor M'.1.desc with
              | none => rw [hpd] at k7; cases k7
              | some q =>
                rw [hpd] at k7
                simp only [Option.map_some, Option.some.injEq] at k7 ⊢
                omega
            exact xm_fV X hx hown (k1.imp (hts _) (hts _)) (hts _ k2) (hts _ k3) hcw.1 k6 hpar (b := B0 + r0) (by rw [hT]; exact hcell) (by rw [hcvm]; rfl) (by rw [hccls]; exact (hK.1 ci _ hck').2.1) rfl (argsL := bs.map (xm_tv B0 sb)) (by simp) (by show F.2.2.map _ = _; rw [hst]; simp [xm_tv]) (by rw [hb]; exact hdg)
          · cases o4
        · simp only [xm_okC] at o4
          split at o4
          · rename_i M' hM'
            simp only [Bool.and_eq_true, Bool.or_eq_true, decide_eq_true_eq] at o4
            obtain ⟨⟨⟨⟨⟨k1, k2⟩, k6⟩, k7⟩, k8⟩, k9⟩ := o4
            have hcw := xm_code (mi := y) hWS (xm_okM.full (hall y M' hM').1 k9) hle.1 args
            refine hgo M' hM' k9 hcat (by rw [hlb]; exact k8) ?_ ⟨_, hdg⟩
            intro T hT X
            exact xm_fS X hx hown (k1.imp (hts _) (hts _)) (hts _ k2) hcw.2 hcw.1 k6 (by rw [k7, ← hlb]) rfl (argsL := as.map (xm_tv B0 sb)) (by simp) (by show F.2.2.map _ = _; rw [hst]; simp) (by rw [hb]; exact hdg)
          · cases o4
end XM9
