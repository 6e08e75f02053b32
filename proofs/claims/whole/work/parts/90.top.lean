/-! 90.top: the law's own frame out of a run of the small machine. -/
theorem xT_warm {w : Cond} {args a' : Array Value} {s U : State} (hg : xGW w = true) (h : w.before args s = true) (hW : s.WarmedH U.vm) : w.before a' U = true := by
  cases w
  case fieldLinkNest a i b n d g => exact va_Nw.use rfl (va_Nw.warmF hW (va_Nw.of rfl h))
  case methodLinkNest a i b g => exact va_Nw.use rfl (va_Nw.warmM hW (va_Nw.of rfl h))
  case declares x => exact va_Nw.use rfl (va_Nw.warmD hW (va_Nw.of rfl h))
  case castable a b => exact va_Nw.use rfl (va_Nw.warmC hW (va_Nw.of rfl h))
  case arrayOver t =>
    cases t
    case object C => exact va_AO.use (va_AO.moved hW.alike (va_AO.of h))
    all_goals (simp [xGW, goodWord, Cond.onTables] at hg)
  all_goals exact word_at hW (good_of_word hg) h
theorem xT_mem {w : Cond} (h : xWSm w = true) : w ∈ lw_tbl := by
  unfold xWSm at h
  obtain ⟨v, hv, h2⟩ := List.any_eq_true.mp h
  simp only [Bool.and_eq_true, decide_eq_true_eq] at h2
  rw [← h2.2]
  exact hv
theorem xT_cls : xm_cls xWS xCL := by
  intro ci C T N h
  have hall : ∀ q ∈ xCL, (∀ w ∈ u_ws q.1 q.2.1 q.2.2, xWS w = true) ∧ (∀ k, k < q.2.2 → (parseFieldDescriptor (q.2.1 k).2.2.1).isSome = true) ∧ ∀ a, a < q.2.2 → ∀ b, b < q.2.2 → a ≠ b → (q.2.1 a).2.1 ≠ (q.2.1 b).2.1 := by
    unfold xCL
    simp only [List.forall_mem_cons, List.not_mem_nil, false_implies, implies_true, and_true]
    refine ⟨⟨?_, ?_, ?_⟩, ⟨?_, ?_, ?_⟩, ⟨?_, ?_, ?_⟩, ⟨?_, ?_, ?_⟩, ⟨?_, ?_, ?_⟩, ⟨?_, ?_, ?_⟩, ⟨?_, ?_, ?_⟩⟩ <;> decide +kernel
  obtain ⟨h1, h2, h3⟩ := hall _ (List.mem_of_getElem? h)
  refine ⟨h1, ⟨fun k => (parseFieldDescriptor (T k).2.2.1).getD .int, fun k hk => ?_⟩, h3⟩
  have h4 := h2 k hk
  cases h5 : parseFieldDescriptor (T k).2.2.1 with
  | none => rw [h5] at h4; cases h4
  | some t =>
    show some t = some ((parseFieldDescriptor (T k).2.2.1).getD .int)
    rw [h5]
    rfl
theorem xT_all : ∀ M ∈ xP, xm_okM xWS xCL M = true ∧ ∀ x ∈ M.2.2.2.2.2, xOK M x = true := by
  unfold xP
  simp only [List.forall_mem_cons, List.not_mem_nil, false_implies, implies_true, and_true]
  exact ⟨xk_F_init, xk_N_init, xk_C_init, xk_F_clock, xk_C_tick, xk_C_workingIsWhole, xk_F_changeOverAll, xk_C_changeOver, xk_C_spareIsWhole, xk_F_exposed, xk_L_clear, xk_F_clear, xk_N_startWith, xk_L_fibre, xk_F_fibre, xk_F_requireTwoSites, xk_N_add, xk_L_request, xk_F_request, xk_F_leastNotThere, xk_C_ask, xk_F_lay, xk_F_freeOn, xk_C_usedOn, xk_N_everyFibre, xk_N_bestPair, xk_N_bestPath, xk_N_openBothWays, xk_F_holds, xk_N_weight, xk_N_cheapestWay, xk_J_fill, xk_N_extend, xk_N_openBackOnly, xk_N_touching, xk_N_otherEnd, xk_C_settle, xk_L_release, xk_F_release, xk_F_requireConnection, xk_L_lock, xk_F_lock, xk_F_requireFibre, xk_L_cut, xk_F_cut, xk_L_mend, xk_F_mend, xk_L_hold, xk_F_hold, xk_L_path, xk_F_path, xk_N_step, xk_J_bitCount, xk_L_about, xk_F_about, xk_N_lengthOf, xk_L_user, xk_F_user, xk_F_requireWavelength, xk_L_move, xk_F_move, xk_L_fits, xk_F_fits, xk_L_bridge, xk_F_bridge, xk_L_count, xk_F_count, xk_F_connectionsThere, xk_M_init, xk_M_thrown, xk_M_clear, xk_M_fibre, xk_M_noSite, xk_M_request, xk_M_unused, xk_M_find, xk_M_free, xk_M_userOf, xk_M_bit, xk_M_findPair, xk_M_list, xk_M_lengthOf, xk_M_leads, xk_M_before, xk_M_findPath, xk_M_take, xk_M_release, xk_M_noConnection, xk_M_lock, xk_M_noFibre, xk_M_cut, xk_M_settle, xk_M_whole, xk_M_mend, xk_M_hold, xk_M_clock, xk_M_move, xk_M_path, xk_M_about, xk_M_user, xk_M_fits, xk_M_bridge, xk_M_exposed, xk_M_count, xk_L_law⟩
theorem xT_hand : ∀ M ∈ xP, ∀ h ∈ M.2.2.2.2.1, h.2.2.2.2 = 4 ∨ h.2.2.2.2 = 5 ∨ h.2.2.2.2 = 6 := by
  have h : (xP.all (fun M => M.2.2.2.2.1.all (fun h => h.2.2.2.2 == 4 || h.2.2.2.2 == 5 || h.2.2.2.2 == 6))) = true := by decide +kernel
  intro M hM x hx
  have h1 := List.all_eq_true.mp (List.all_eq_true.mp h M hM) x hx
  simp only [Bool.or_eq_true, beq_iff_eq] at h1
  omega
theorem xT_cast {s0 : State} {args : Array Value} (hts : ∀ w ∈ lw_tbl, w.before args s0 = true) (hgv : (Jvm.Cond.and given_1 narrow_1).before args s0 = true) {i j : Nat} (hi : i = 4 ∨ i = 5 ∨ i = 6) (hj : j = 4 ∨ j = 5 ∨ j = 6) {C C' : String} {T T' : u_T} {N N' : Nat} (h1 : xCL[i]? = some (C, T, N)) (h2 : xCL[j]? = some (C', T', N'))
    {q q' : ClassId} (hq : s0.vm.findClass C = some q) (hq' : s0.vm.findClass C' = some q') : s0.vm.assignable q q' = (j == i) := by
  have hs := flat_of_before _ hgv
  have yes : ∀ A : String, s0.vm.findClass A = some q → s0.vm.findClass A = some q' → Cond.castable A A ∈ lw_tbl → s0.vm.assignable q q' = true := by
    intro A hA hA' hm
    obtain ⟨c, t, e1, e2, e3⟩ := Cond.castable_spec (hts _ hm)
    cases hA.symm.trans e1
    cases hA'.symm.trans e2
    exact e3
  have no : ∀ A B : String, s0.vm.findClass A = some q → s0.vm.findClass B = some q' → Cond.not (.castable A B) ∈ flatC (Jvm.Cond.and given_1 narrow_1) → s0.vm.assignable q q' = false := by
    intro A B hA hB hm
    have hv := Cond.holds_not_iff.mp (hs _ hm)
    simp only [Cond.value, hA, hB] at hv
    exact Option.some.inj hv
  rcases hi with rfl | rfl | rfl <;> rcases hj with rfl | rfl | rfl <;> cases h1 <;> cases h2
  · exact yes _ hq hq' (by decide +kernel)
  · exact no _ _ hq hq' (by decide +kernel)
  · exact no _ _ hq hq' (by decide +kernel)
  · exact no _ _ hq hq' (by decide +kernel)
  · exact yes _ hq hq' (by decide +kernel)
  · exact no _ _ hq hq' (by decide +kernel)
  · exact no _ _ hq hq' (by decide +kernel)
  · exact no _ _ hq hq' (by decide +kernel)
  · exact yes _ hq hq' (by decide +kernel)
theorem xT_n0 {i : Nat} {C : String} {T : u_T} (h : xCL[i]? = some (C, T, 0)) : i = 4 ∨ i = 5 ∨ i = 6 := by
  have hl := (List.getElem?_eq_some_iff.mp h).1
  have hl : i < 7 := hl
  rcases (show i = 0 ∨ i = 1 ∨ i = 2 ∨ i = 3 ∨ i = 4 ∨ i = 5 ∨ i = 6 by omega) with rfl | rfl | rfl | rfl | h | h | h
  · cases h
  · cases h
  · cases h
  · cases h
  · exact Or.inl h
  · exact Or.inr (Or.inl h)
  · exact Or.inr (Or.inr h)
theorem xT_K {s : State} {args : Array Value} (hts : ∀ w ∈ lw_tbl, w.before args s = true) : ∃ (D : va_G) (dA : Nat → ClassId), va_K D xCL (xm_tys xKT dA) s := by
  have hw : ∀ {w : Cond}, xWSm w = true → w.before args s = true := fun h => hts _ (xT_mem h)
  have hc : ∀ (ci : Nat) (q : vw_C), xCL[ci]? = some q → ∃ (cC : ClassId) (iS : Nat → Nat), u_Kn s q.1 q.2.1 q.2.2 cC iS := by
    intro ci q hq
    obtain ⟨C, T, N⟩ := q
    have hin := (xT_cls ci C T N hq).1
    have hi : ∃ n, (Cond.instantiable C n).before args s = true := by
      have hl : ci < 7 := (List.getElem?_eq_some_iff.mp hq).1
      rcases (show ci = 0 ∨ ci = 1 ∨ ci = 2 ∨ ci = 3 ∨ ci = 4 ∨ ci = 5 ∨ ci = 6 by omega) with rfl | rfl | rfl | rfl | rfl | rfl | rfl <;> cases hq
      · exact ⟨9, hw (by decide +kernel)⟩
      · exact ⟨9, hw (by decide +kernel)⟩
      · exact ⟨5, hw (by decide +kernel)⟩
      · exact ⟨24, hw (by decide +kernel)⟩
      · exact ⟨6, hw (by decide +kernel)⟩
      · exact ⟨6, hw (by decide +kernel)⟩
      · exact ⟨6, hw (by decide +kernel)⟩
    obtain ⟨n, hi⟩ := hi
    refine u_known (ws := u_ws C T N) (fun w hw' => ?_) (fun _ h => h) hi
    have h1 := hin w hw'
    unfold xWS at h1
    rw [Bool.and_eq_true] at h1
    exact hw h1.2
  have hc' : ∀ ci : Nat, ∃ (x : ClassId × (Nat → Nat)), ∀ q : vw_C, xCL[ci]? = some q → u_Kn s q.1 q.2.1 q.2.2 x.1 x.2 := by
    intro ci
    cases hq : xCL[ci]? with
    | none => exact ⟨(0, fun _ => 0), fun q h => by cases h⟩
    | some q =>
      obtain ⟨cC, iS, h⟩ := hc ci q hq
      exact ⟨(cC, iS), fun q' h' => by cases h'; exact h⟩
  have ha : ∀ k : Nat, ∃ cA : ClassId, ∀ t : FieldType, xKT[k]? = some t → ArrOfT s cA t ∧ va_RA s cA t := by
    intro k
    have prim : ∀ t : FieldType, (∀ C, t ≠ .object C) → (Cond.arrayClass t).before args s = true → ∃ cA : ClassId, ArrOfT s cA t ∧ va_RA s cA t := by
      intro t ht h
      obtain ⟨cA, kA, comp, h1, h2, h3⟩ := Cond.arrayClass_spec h
      refine ⟨cA, fun n z => ⟨(fun k h => by cases h), kA, h2, comp, h3⟩, ?_⟩
      cases t <;> first | exact h1 | exact absurd rfl (ht _)
    have obj : ∀ C : String, (Cond.arrayOver (.object C)).before args s = true → ∃ cA : ClassId, ArrOfT s cA (.object C) ∧ va_RA s cA (.object C) := by
      intro C h
      obtain ⟨comp, cA, kA, h1, h2, h3, h4, h5⟩ := Cond.arrayOver_spec h
      exact ⟨cA, fun n z => ⟨(fun k h => by cases h), kA, h3, comp, h4⟩, kA, comp, h3, h4, h1, h5⟩
    cases hk : xKT[k]? with
    | none => exact ⟨0, fun t h => by cases h⟩
    | some t =>
      have hl : k < 4 := (List.getElem?_eq_some_iff.mp hk).1
      rcases (show k = 0 ∨ k = 1 ∨ k = 2 ∨ k = 3 by omega) with rfl | rfl | rfl | rfl <;> cases hk
      · obtain ⟨cA, h⟩ := prim .int (fun _ h => by cases h) (hw (by decide +kernel))
        exact ⟨cA, fun t h' => by cases h'; exact h⟩
      · obtain ⟨cA, h⟩ := prim .boolean (fun _ h => by cases h) (hw (by decide +kernel))
        exact ⟨cA, fun t h' => by cases h'; exact h⟩
      · obtain ⟨cA, h⟩ := prim .long (fun _ h => by cases h) (hw (by decide +kernel))
        exact ⟨cA, fun t h' => by cases h'; exact h⟩
      · obtain ⟨cA, h⟩ := obj "FibrePairs$Connection" (hw (by decide +kernel))
        exact ⟨cA, fun t h' => by cases h'; exact h⟩
  refine ⟨(fun ci => (Classical.choose (hc' ci)).1, fun ci => (Classical.choose (hc' ci)).2), fun k => Classical.choose (ha k), fun ci q hq => Classical.choose_spec (hc' ci) q hq, fun k q hq => ?_⟩
  simp only [xm_tys, List.getElem?_mapIdx, Option.map_eq_some_iff] at hq
  obtain ⟨t, ht, rfl⟩ := hq
  exact Classical.choose_spec (ha k) t ht
