/-! 09.check: the tables are right, decided by the kernel. -/
def xm_key : Cond → Nat
  | .methodLink _ i _ => 16 * i + 1
  | .fieldLink _ i _ _ _ => 16 * i + 2
  | .classLink _ i _ => 16 * i + 3
  | .methodLinkNest _ i _ _ => 16 * i + 4
  | .fieldLinkNest _ i _ _ _ _ => 16 * i + 5
  | .constant _ i _ => 16 * i + 6
  | .code _ _ n _ => 16 * n + 7
  | .codeWith _ _ n _ _ => 16 * n + 8
  | .instanceMethod _ => 9
  | .selects _ _ _ => 25
  | .static _ => 41
  | .initialized _ => 57
  | .lays _ _ _ _ => 73
  | .laysFinal _ _ _ _ => 89
  | .instantiable _ n => 16 * n + 10
  | .castable _ _ => 105
  | .declares _ => 121
  | _ => 11
def xWSm (w : Cond) : Bool := lw_tbl.any (fun v => xm_key v == xm_key w && decide (v = w))
def xGW : Cond → Bool
  | .fieldLinkNest .. => true
  | .methodLinkNest .. => true
  | .declares _ => true
  | .castable .. => true
  | .arrayOver (.object _) => true
  | w => goodWord w
def xWS (w : Cond) : Bool := xGW w && xWSm w
def xOK (M : xm_M) (x : xm_I) : Bool := xm_ok xWS xCL M x && xm_okN xWS xCL xKT xDF M x && xm_okT xWS xCL M x && xm_okC xWS xCL xP M x
theorem xk_F_init_0 : xt_F_init_0.all (xOK xp_F_init) = true := by decide +kernel
theorem xm_F_init_ok : xm_okM xWS xCL xp_F_init = true := by decide +kernel
theorem xk_F_init : xm_okM xWS xCL xp_F_init = true ∧ ∀ x ∈ xp_F_init.2.2.2.2.2, xOK xp_F_init x = true := ⟨xm_F_init_ok, fun x hx => by
  exact List.all_eq_true.mp xk_F_init_0 x hx⟩
theorem xk_N_init_0 : xt_N_init_0.all (xOK xp_N_init) = true := by decide +kernel
theorem xm_N_init_ok : xm_okM xWS xCL xp_N_init = true := by decide +kernel
theorem xk_N_init : xm_okM xWS xCL xp_N_init = true ∧ ∀ x ∈ xp_N_init.2.2.2.2.2, xOK xp_N_init x = true := ⟨xm_N_init_ok, fun x hx => by
  exact List.all_eq_true.mp xk_N_init_0 x hx⟩
theorem xk_C_init_0 : xt_C_init_0.all (xOK xp_C_init) = true := by decide +kernel
theorem xm_C_init_ok : xm_okM xWS xCL xp_C_init = true := by decide +kernel
theorem xk_C_init : xm_okM xWS xCL xp_C_init = true ∧ ∀ x ∈ xp_C_init.2.2.2.2.2, xOK xp_C_init x = true := ⟨xm_C_init_ok, fun x hx => by
  exact List.all_eq_true.mp xk_C_init_0 x hx⟩
theorem xk_F_clock_0 : xt_F_clock_0.all (xOK xp_F_clock) = true := by decide +kernel
theorem xm_F_clock_ok : xm_okM xWS xCL xp_F_clock = true := by decide +kernel
theorem xk_F_clock : xm_okM xWS xCL xp_F_clock = true ∧ ∀ x ∈ xp_F_clock.2.2.2.2.2, xOK xp_F_clock x = true := ⟨xm_F_clock_ok, fun x hx => by
  exact List.all_eq_true.mp xk_F_clock_0 x hx⟩
theorem xk_C_tick_0 : xt_C_tick_0.all (xOK xp_C_tick) = true := by decide +kernel
theorem xm_C_tick_ok : xm_okM xWS xCL xp_C_tick = true := by decide +kernel
theorem xk_C_tick : xm_okM xWS xCL xp_C_tick = true ∧ ∀ x ∈ xp_C_tick.2.2.2.2.2, xOK xp_C_tick x = true := ⟨xm_C_tick_ok, fun x hx => by
  exact List.all_eq_true.mp xk_C_tick_0 x hx⟩
theorem xk_C_workingIsWhole_0 : xt_C_workingIsWhole_0.all (xOK xp_C_workingIsWhole) = true := by decide +kernel
theorem xm_C_workingIsWhole_ok : xm_okM xWS xCL xp_C_workingIsWhole = true := by decide +kernel
theorem xk_C_workingIsWhole : xm_okM xWS xCL xp_C_workingIsWhole = true ∧ ∀ x ∈ xp_C_workingIsWhole.2.2.2.2.2, xOK xp_C_workingIsWhole x = true := ⟨xm_C_workingIsWhole_ok, fun x hx => by
  exact List.all_eq_true.mp xk_C_workingIsWhole_0 x hx⟩
theorem xk_F_changeOverAll_0 : xt_F_changeOverAll_0.all (xOK xp_F_changeOverAll) = true := by decide +kernel
theorem xm_F_changeOverAll_ok : xm_okM xWS xCL xp_F_changeOverAll = true := by decide +kernel
theorem xk_F_changeOverAll : xm_okM xWS xCL xp_F_changeOverAll = true ∧ ∀ x ∈ xp_F_changeOverAll.2.2.2.2.2, xOK xp_F_changeOverAll x = true := ⟨xm_F_changeOverAll_ok, fun x hx => by
  exact List.all_eq_true.mp xk_F_changeOverAll_0 x hx⟩
theorem xk_C_changeOver_0 : xt_C_changeOver_0.all (xOK xp_C_changeOver) = true := by decide +kernel
theorem xm_C_changeOver_ok : xm_okM xWS xCL xp_C_changeOver = true := by decide +kernel
theorem xk_C_changeOver : xm_okM xWS xCL xp_C_changeOver = true ∧ ∀ x ∈ xp_C_changeOver.2.2.2.2.2, xOK xp_C_changeOver x = true := ⟨xm_C_changeOver_ok, fun x hx => by
  exact List.all_eq_true.mp xk_C_changeOver_0 x hx⟩
theorem xk_C_spareIsWhole_0 : xt_C_spareIsWhole_0.all (xOK xp_C_spareIsWhole) = true := by decide +kernel
theorem xm_C_spareIsWhole_ok : xm_okM xWS xCL xp_C_spareIsWhole = true := by decide +kernel
theorem xk_C_spareIsWhole : xm_okM xWS xCL xp_C_spareIsWhole = true ∧ ∀ x ∈ xp_C_spareIsWhole.2.2.2.2.2, xOK xp_C_spareIsWhole x = true := ⟨xm_C_spareIsWhole_ok, fun x hx => by
  exact List.all_eq_true.mp xk_C_spareIsWhole_0 x hx⟩
theorem xk_F_exposed_0 : xt_F_exposed_0.all (xOK xp_F_exposed) = true := by decide +kernel
theorem xm_F_exposed_ok : xm_okM xWS xCL xp_F_exposed = true := by decide +kernel
theorem xk_F_exposed : xm_okM xWS xCL xp_F_exposed = true ∧ ∀ x ∈ xp_F_exposed.2.2.2.2.2, xOK xp_F_exposed x = true := ⟨xm_F_exposed_ok, fun x hx => by
  exact List.all_eq_true.mp xk_F_exposed_0 x hx⟩
theorem xk_F_clear_0 : xt_F_clear_0.all (xOK xp_F_clear) = true := by decide +kernel
theorem xm_F_clear_ok : xm_okM xWS xCL xp_F_clear = true := by decide +kernel
theorem xk_F_clear : xm_okM xWS xCL xp_F_clear = true ∧ ∀ x ∈ xp_F_clear.2.2.2.2.2, xOK xp_F_clear x = true := ⟨xm_F_clear_ok, fun x hx => by
  exact List.all_eq_true.mp xk_F_clear_0 x hx⟩
theorem xk_N_startWith_0 : xt_N_startWith_0.all (xOK xp_N_startWith) = true := by decide +kernel
theorem xm_N_startWith_ok : xm_okM xWS xCL xp_N_startWith = true := by decide +kernel
theorem xk_N_startWith : xm_okM xWS xCL xp_N_startWith = true ∧ ∀ x ∈ xp_N_startWith.2.2.2.2.2, xOK xp_N_startWith x = true := ⟨xm_N_startWith_ok, fun x hx => by
  exact List.all_eq_true.mp xk_N_startWith_0 x hx⟩
theorem xk_F_fibre_0 : xt_F_fibre_0.all (xOK xp_F_fibre) = true := by decide +kernel
theorem xm_F_fibre_ok : xm_okM xWS xCL xp_F_fibre = true := by decide +kernel
theorem xk_F_fibre : xm_okM xWS xCL xp_F_fibre = true ∧ ∀ x ∈ xp_F_fibre.2.2.2.2.2, xOK xp_F_fibre x = true := ⟨xm_F_fibre_ok, fun x hx => by
  exact List.all_eq_true.mp xk_F_fibre_0 x hx⟩
theorem xk_F_requireTwoSites_0 : xt_F_requireTwoSites_0.all (xOK xp_F_requireTwoSites) = true := by decide +kernel
theorem xm_F_requireTwoSites_ok : xm_okM xWS xCL xp_F_requireTwoSites = true := by decide +kernel
theorem xk_F_requireTwoSites : xm_okM xWS xCL xp_F_requireTwoSites = true ∧ ∀ x ∈ xp_F_requireTwoSites.2.2.2.2.2, xOK xp_F_requireTwoSites x = true := ⟨xm_F_requireTwoSites_ok, fun x hx => by
  exact List.all_eq_true.mp xk_F_requireTwoSites_0 x hx⟩
theorem xk_N_add_0 : xt_N_add_0.all (xOK xp_N_add) = true := by decide +kernel
theorem xm_N_add_ok : xm_okM xWS xCL xp_N_add = true := by decide +kernel
theorem xk_N_add : xm_okM xWS xCL xp_N_add = true ∧ ∀ x ∈ xp_N_add.2.2.2.2.2, xOK xp_N_add x = true := ⟨xm_N_add_ok, fun x hx => by
  exact List.all_eq_true.mp xk_N_add_0 x hx⟩
theorem xk_F_request_0 : xt_F_request_0.all (xOK xp_F_request) = true := by decide +kernel
theorem xm_F_request_ok : xm_okM xWS xCL xp_F_request = true := by decide +kernel
theorem xk_F_request : xm_okM xWS xCL xp_F_request = true ∧ ∀ x ∈ xp_F_request.2.2.2.2.2, xOK xp_F_request x = true := ⟨xm_F_request_ok, fun x hx => by
  exact List.all_eq_true.mp xk_F_request_0 x hx⟩
theorem xk_F_leastNotThere_0 : xt_F_leastNotThere_0.all (xOK xp_F_leastNotThere) = true := by decide +kernel
theorem xm_F_leastNotThere_ok : xm_okM xWS xCL xp_F_leastNotThere = true := by decide +kernel
theorem xk_F_leastNotThere : xm_okM xWS xCL xp_F_leastNotThere = true ∧ ∀ x ∈ xp_F_leastNotThere.2.2.2.2.2, xOK xp_F_leastNotThere x = true := ⟨xm_F_leastNotThere_ok, fun x hx => by
  exact List.all_eq_true.mp xk_F_leastNotThere_0 x hx⟩
theorem xk_C_ask_0 : xt_C_ask_0.all (xOK xp_C_ask) = true := by decide +kernel
theorem xm_C_ask_ok : xm_okM xWS xCL xp_C_ask = true := by decide +kernel
theorem xk_C_ask : xm_okM xWS xCL xp_C_ask = true ∧ ∀ x ∈ xp_C_ask.2.2.2.2.2, xOK xp_C_ask x = true := ⟨xm_C_ask_ok, fun x hx => by
  exact List.all_eq_true.mp xk_C_ask_0 x hx⟩
theorem xk_F_lay_0 : xt_F_lay_0.all (xOK xp_F_lay) = true := by decide +kernel
theorem xm_F_lay_ok : xm_okM xWS xCL xp_F_lay = true := by decide +kernel
theorem xk_F_lay : xm_okM xWS xCL xp_F_lay = true ∧ ∀ x ∈ xp_F_lay.2.2.2.2.2, xOK xp_F_lay x = true := ⟨xm_F_lay_ok, fun x hx => by
  exact List.all_eq_true.mp xk_F_lay_0 x hx⟩
theorem xk_F_freeOn_0 : xt_F_freeOn_0.all (xOK xp_F_freeOn) = true := by decide +kernel
theorem xm_F_freeOn_ok : xm_okM xWS xCL xp_F_freeOn = true := by decide +kernel
theorem xk_F_freeOn : xm_okM xWS xCL xp_F_freeOn = true ∧ ∀ x ∈ xp_F_freeOn.2.2.2.2.2, xOK xp_F_freeOn x = true := ⟨xm_F_freeOn_ok, fun x hx => by
  exact List.all_eq_true.mp xk_F_freeOn_0 x hx⟩
theorem xk_C_usedOn_0 : xt_C_usedOn_0.all (xOK xp_C_usedOn) = true := by decide +kernel
theorem xm_C_usedOn_ok : xm_okM xWS xCL xp_C_usedOn = true := by decide +kernel
theorem xk_C_usedOn : xm_okM xWS xCL xp_C_usedOn = true ∧ ∀ x ∈ xp_C_usedOn.2.2.2.2.2, xOK xp_C_usedOn x = true := ⟨xm_C_usedOn_ok, fun x hx => by
  exact List.all_eq_true.mp xk_C_usedOn_0 x hx⟩
theorem xk_N_everyFibre_0 : xt_N_everyFibre_0.all (xOK xp_N_everyFibre) = true := by decide +kernel
theorem xm_N_everyFibre_ok : xm_okM xWS xCL xp_N_everyFibre = true := by decide +kernel
theorem xk_N_everyFibre : xm_okM xWS xCL xp_N_everyFibre = true ∧ ∀ x ∈ xp_N_everyFibre.2.2.2.2.2, xOK xp_N_everyFibre x = true := ⟨xm_N_everyFibre_ok, fun x hx => by
  exact List.all_eq_true.mp xk_N_everyFibre_0 x hx⟩
theorem xk_N_bestPair_0 : xt_N_bestPair_0.all (xOK xp_N_bestPair) = true := by decide +kernel
theorem xm_N_bestPair_ok : xm_okM xWS xCL xp_N_bestPair = true := by decide +kernel
theorem xk_N_bestPair : xm_okM xWS xCL xp_N_bestPair = true ∧ ∀ x ∈ xp_N_bestPair.2.2.2.2.2, xOK xp_N_bestPair x = true := ⟨xm_N_bestPair_ok, fun x hx => by
  exact List.all_eq_true.mp xk_N_bestPair_0 x hx⟩
theorem xk_N_bestPath_0 : xt_N_bestPath_0.all (xOK xp_N_bestPath) = true := by decide +kernel
theorem xm_N_bestPath_ok : xm_okM xWS xCL xp_N_bestPath = true := by decide +kernel
theorem xk_N_bestPath : xm_okM xWS xCL xp_N_bestPath = true ∧ ∀ x ∈ xp_N_bestPath.2.2.2.2.2, xOK xp_N_bestPath x = true := ⟨xm_N_bestPath_ok, fun x hx => by
  exact List.all_eq_true.mp xk_N_bestPath_0 x hx⟩
theorem xk_N_openBothWays_0 : xt_N_openBothWays_0.all (xOK xp_N_openBothWays) = true := by decide +kernel
theorem xm_N_openBothWays_ok : xm_okM xWS xCL xp_N_openBothWays = true := by decide +kernel
theorem xk_N_openBothWays : xm_okM xWS xCL xp_N_openBothWays = true ∧ ∀ x ∈ xp_N_openBothWays.2.2.2.2.2, xOK xp_N_openBothWays x = true := ⟨xm_N_openBothWays_ok, fun x hx => by
  exact List.all_eq_true.mp xk_N_openBothWays_0 x hx⟩
theorem xk_F_holds_0 : xt_F_holds_0.all (xOK xp_F_holds) = true := by decide +kernel
theorem xm_F_holds_ok : xm_okM xWS xCL xp_F_holds = true := by decide +kernel
theorem xk_F_holds : xm_okM xWS xCL xp_F_holds = true ∧ ∀ x ∈ xp_F_holds.2.2.2.2.2, xOK xp_F_holds x = true := ⟨xm_F_holds_ok, fun x hx => by
  exact List.all_eq_true.mp xk_F_holds_0 x hx⟩
theorem xk_N_weight_0 : xt_N_weight_0.all (xOK xp_N_weight) = true := by decide +kernel
theorem xm_N_weight_ok : xm_okM xWS xCL xp_N_weight = true := by decide +kernel
theorem xk_N_weight : xm_okM xWS xCL xp_N_weight = true ∧ ∀ x ∈ xp_N_weight.2.2.2.2.2, xOK xp_N_weight x = true := ⟨xm_N_weight_ok, fun x hx => by
  exact List.all_eq_true.mp xk_N_weight_0 x hx⟩
theorem xk_N_cheapestWay_0 : xt_N_cheapestWay_0.all (xOK xp_N_cheapestWay) = true := by decide +kernel
theorem xk_N_cheapestWay_1 : xt_N_cheapestWay_1.all (xOK xp_N_cheapestWay) = true := by decide +kernel
theorem xm_N_cheapestWay_ok : xm_okM xWS xCL xp_N_cheapestWay = true := by decide +kernel
theorem xk_N_cheapestWay : xm_okM xWS xCL xp_N_cheapestWay = true ∧ ∀ x ∈ xp_N_cheapestWay.2.2.2.2.2, xOK xp_N_cheapestWay x = true := ⟨xm_N_cheapestWay_ok, fun x hx => by
  have hx : x ∈ xt_N_cheapestWay_0 ++ xt_N_cheapestWay_1 := hx
  simp only [List.mem_append] at hx
  rcases hx with h0 | h1
  · exact List.all_eq_true.mp xk_N_cheapestWay_0 x h0
  · exact List.all_eq_true.mp xk_N_cheapestWay_1 x h1⟩
theorem xk_J_fill_0 : xt_J_fill_0.all (xOK xp_J_fill) = true := by decide +kernel
theorem xm_J_fill_ok : xm_okM xWS xCL xp_J_fill = true := by decide +kernel
theorem xk_J_fill : xm_okM xWS xCL xp_J_fill = true ∧ ∀ x ∈ xp_J_fill.2.2.2.2.2, xOK xp_J_fill x = true := ⟨xm_J_fill_ok, fun x hx => by
  exact List.all_eq_true.mp xk_J_fill_0 x hx⟩
theorem xk_N_extend_0 : xt_N_extend_0.all (xOK xp_N_extend) = true := by decide +kernel
theorem xm_N_extend_ok : xm_okM xWS xCL xp_N_extend = true := by decide +kernel
theorem xk_N_extend : xm_okM xWS xCL xp_N_extend = true ∧ ∀ x ∈ xp_N_extend.2.2.2.2.2, xOK xp_N_extend x = true := ⟨xm_N_extend_ok, fun x hx => by
  exact List.all_eq_true.mp xk_N_extend_0 x hx⟩
theorem xk_N_openBackOnly_0 : xt_N_openBackOnly_0.all (xOK xp_N_openBackOnly) = true := by decide +kernel
theorem xk_N_openBackOnly_1 : xt_N_openBackOnly_1.all (xOK xp_N_openBackOnly) = true := by decide +kernel
theorem xm_N_openBackOnly_ok : xm_okM xWS xCL xp_N_openBackOnly = true := by decide +kernel
theorem xk_N_openBackOnly : xm_okM xWS xCL xp_N_openBackOnly = true ∧ ∀ x ∈ xp_N_openBackOnly.2.2.2.2.2, xOK xp_N_openBackOnly x = true := ⟨xm_N_openBackOnly_ok, fun x hx => by
  have hx : x ∈ xt_N_openBackOnly_0 ++ xt_N_openBackOnly_1 := hx
  simp only [List.mem_append] at hx
  rcases hx with h0 | h1
  · exact List.all_eq_true.mp xk_N_openBackOnly_0 x h0
  · exact List.all_eq_true.mp xk_N_openBackOnly_1 x h1⟩
theorem xk_N_touching_0 : xt_N_touching_0.all (xOK xp_N_touching) = true := by decide +kernel
theorem xm_N_touching_ok : xm_okM xWS xCL xp_N_touching = true := by decide +kernel
theorem xk_N_touching : xm_okM xWS xCL xp_N_touching = true ∧ ∀ x ∈ xp_N_touching.2.2.2.2.2, xOK xp_N_touching x = true := ⟨xm_N_touching_ok, fun x hx => by
  exact List.all_eq_true.mp xk_N_touching_0 x hx⟩
theorem xk_N_otherEnd_0 : xt_N_otherEnd_0.all (xOK xp_N_otherEnd) = true := by decide +kernel
theorem xm_N_otherEnd_ok : xm_okM xWS xCL xp_N_otherEnd = true := by decide +kernel
theorem xk_N_otherEnd : xm_okM xWS xCL xp_N_otherEnd = true ∧ ∀ x ∈ xp_N_otherEnd.2.2.2.2.2, xOK xp_N_otherEnd x = true := ⟨xm_N_otherEnd_ok, fun x hx => by
  exact List.all_eq_true.mp xk_N_otherEnd_0 x hx⟩
theorem xk_C_settle_0 : xt_C_settle_0.all (xOK xp_C_settle) = true := by decide +kernel
theorem xm_C_settle_ok : xm_okM xWS xCL xp_C_settle = true := by decide +kernel
theorem xk_C_settle : xm_okM xWS xCL xp_C_settle = true ∧ ∀ x ∈ xp_C_settle.2.2.2.2.2, xOK xp_C_settle x = true := ⟨xm_C_settle_ok, fun x hx => by
  exact List.all_eq_true.mp xk_C_settle_0 x hx⟩
theorem xk_F_release_0 : xt_F_release_0.all (xOK xp_F_release) = true := by decide +kernel
theorem xm_F_release_ok : xm_okM xWS xCL xp_F_release = true := by decide +kernel
theorem xk_F_release : xm_okM xWS xCL xp_F_release = true ∧ ∀ x ∈ xp_F_release.2.2.2.2.2, xOK xp_F_release x = true := ⟨xm_F_release_ok, fun x hx => by
  exact List.all_eq_true.mp xk_F_release_0 x hx⟩
theorem xk_F_requireConnection_0 : xt_F_requireConnection_0.all (xOK xp_F_requireConnection) = true := by decide +kernel
theorem xm_F_requireConnection_ok : xm_okM xWS xCL xp_F_requireConnection = true := by decide +kernel
theorem xk_F_requireConnection : xm_okM xWS xCL xp_F_requireConnection = true ∧ ∀ x ∈ xp_F_requireConnection.2.2.2.2.2, xOK xp_F_requireConnection x = true := ⟨xm_F_requireConnection_ok, fun x hx => by
  exact List.all_eq_true.mp xk_F_requireConnection_0 x hx⟩
theorem xk_F_lock_0 : xt_F_lock_0.all (xOK xp_F_lock) = true := by decide +kernel
theorem xm_F_lock_ok : xm_okM xWS xCL xp_F_lock = true := by decide +kernel
theorem xk_F_lock : xm_okM xWS xCL xp_F_lock = true ∧ ∀ x ∈ xp_F_lock.2.2.2.2.2, xOK xp_F_lock x = true := ⟨xm_F_lock_ok, fun x hx => by
  exact List.all_eq_true.mp xk_F_lock_0 x hx⟩
theorem xk_F_requireFibre_0 : xt_F_requireFibre_0.all (xOK xp_F_requireFibre) = true := by decide +kernel
theorem xm_F_requireFibre_ok : xm_okM xWS xCL xp_F_requireFibre = true := by decide +kernel
theorem xk_F_requireFibre : xm_okM xWS xCL xp_F_requireFibre = true ∧ ∀ x ∈ xp_F_requireFibre.2.2.2.2.2, xOK xp_F_requireFibre x = true := ⟨xm_F_requireFibre_ok, fun x hx => by
  exact List.all_eq_true.mp xk_F_requireFibre_0 x hx⟩
theorem xk_F_cut_0 : xt_F_cut_0.all (xOK xp_F_cut) = true := by decide +kernel
theorem xm_F_cut_ok : xm_okM xWS xCL xp_F_cut = true := by decide +kernel
theorem xk_F_cut : xm_okM xWS xCL xp_F_cut = true ∧ ∀ x ∈ xp_F_cut.2.2.2.2.2, xOK xp_F_cut x = true := ⟨xm_F_cut_ok, fun x hx => by
  exact List.all_eq_true.mp xk_F_cut_0 x hx⟩
theorem xk_F_mend_0 : xt_F_mend_0.all (xOK xp_F_mend) = true := by decide +kernel
theorem xm_F_mend_ok : xm_okM xWS xCL xp_F_mend = true := by decide +kernel
theorem xk_F_mend : xm_okM xWS xCL xp_F_mend = true ∧ ∀ x ∈ xp_F_mend.2.2.2.2.2, xOK xp_F_mend x = true := ⟨xm_F_mend_ok, fun x hx => by
  exact List.all_eq_true.mp xk_F_mend_0 x hx⟩
theorem xk_F_hold_0 : xt_F_hold_0.all (xOK xp_F_hold) = true := by decide +kernel
theorem xm_F_hold_ok : xm_okM xWS xCL xp_F_hold = true := by decide +kernel
theorem xk_F_hold : xm_okM xWS xCL xp_F_hold = true ∧ ∀ x ∈ xp_F_hold.2.2.2.2.2, xOK xp_F_hold x = true := ⟨xm_F_hold_ok, fun x hx => by
  exact List.all_eq_true.mp xk_F_hold_0 x hx⟩
theorem xk_F_path_0 : xt_F_path_0.all (xOK xp_F_path) = true := by decide +kernel
theorem xm_F_path_ok : xm_okM xWS xCL xp_F_path = true := by decide +kernel
theorem xk_F_path : xm_okM xWS xCL xp_F_path = true ∧ ∀ x ∈ xp_F_path.2.2.2.2.2, xOK xp_F_path x = true := ⟨xm_F_path_ok, fun x hx => by
  exact List.all_eq_true.mp xk_F_path_0 x hx⟩
theorem xk_N_step_0 : xt_N_step_0.all (xOK xp_N_step) = true := by decide +kernel
theorem xm_N_step_ok : xm_okM xWS xCL xp_N_step = true := by decide +kernel
theorem xk_N_step : xm_okM xWS xCL xp_N_step = true ∧ ∀ x ∈ xp_N_step.2.2.2.2.2, xOK xp_N_step x = true := ⟨xm_N_step_ok, fun x hx => by
  exact List.all_eq_true.mp xk_N_step_0 x hx⟩
theorem xk_J_bitCount_0 : xt_J_bitCount_0.all (xOK xp_J_bitCount) = true := by decide +kernel
theorem xm_J_bitCount_ok : xm_okM xWS xCL xp_J_bitCount = true := by decide +kernel
theorem xk_J_bitCount : xm_okM xWS xCL xp_J_bitCount = true ∧ ∀ x ∈ xp_J_bitCount.2.2.2.2.2, xOK xp_J_bitCount x = true := ⟨xm_J_bitCount_ok, fun x hx => by
  exact List.all_eq_true.mp xk_J_bitCount_0 x hx⟩
theorem xk_F_about_0 : xt_F_about_0.all (xOK xp_F_about) = true := by decide +kernel
theorem xm_F_about_ok : xm_okM xWS xCL xp_F_about = true := by decide +kernel
theorem xk_F_about : xm_okM xWS xCL xp_F_about = true ∧ ∀ x ∈ xp_F_about.2.2.2.2.2, xOK xp_F_about x = true := ⟨xm_F_about_ok, fun x hx => by
  exact List.all_eq_true.mp xk_F_about_0 x hx⟩
theorem xk_N_lengthOf_0 : xt_N_lengthOf_0.all (xOK xp_N_lengthOf) = true := by decide +kernel
theorem xm_N_lengthOf_ok : xm_okM xWS xCL xp_N_lengthOf = true := by decide +kernel
theorem xk_N_lengthOf : xm_okM xWS xCL xp_N_lengthOf = true ∧ ∀ x ∈ xp_N_lengthOf.2.2.2.2.2, xOK xp_N_lengthOf x = true := ⟨xm_N_lengthOf_ok, fun x hx => by
  exact List.all_eq_true.mp xk_N_lengthOf_0 x hx⟩
theorem xk_F_user_0 : xt_F_user_0.all (xOK xp_F_user) = true := by decide +kernel
theorem xm_F_user_ok : xm_okM xWS xCL xp_F_user = true := by decide +kernel
theorem xk_F_user : xm_okM xWS xCL xp_F_user = true ∧ ∀ x ∈ xp_F_user.2.2.2.2.2, xOK xp_F_user x = true := ⟨xm_F_user_ok, fun x hx => by
  exact List.all_eq_true.mp xk_F_user_0 x hx⟩
theorem xk_F_requireWavelength_0 : xt_F_requireWavelength_0.all (xOK xp_F_requireWavelength) = true := by decide +kernel
theorem xm_F_requireWavelength_ok : xm_okM xWS xCL xp_F_requireWavelength = true := by decide +kernel
theorem xk_F_requireWavelength : xm_okM xWS xCL xp_F_requireWavelength = true ∧ ∀ x ∈ xp_F_requireWavelength.2.2.2.2.2, xOK xp_F_requireWavelength x = true := ⟨xm_F_requireWavelength_ok, fun x hx => by
  exact List.all_eq_true.mp xk_F_requireWavelength_0 x hx⟩
theorem xk_F_move_0 : xt_F_move_0.all (xOK xp_F_move) = true := by decide +kernel
theorem xm_F_move_ok : xm_okM xWS xCL xp_F_move = true := by decide +kernel
theorem xk_F_move : xm_okM xWS xCL xp_F_move = true ∧ ∀ x ∈ xp_F_move.2.2.2.2.2, xOK xp_F_move x = true := ⟨xm_F_move_ok, fun x hx => by
  exact List.all_eq_true.mp xk_F_move_0 x hx⟩
theorem xk_F_fits_0 : xt_F_fits_0.all (xOK xp_F_fits) = true := by decide +kernel
theorem xm_F_fits_ok : xm_okM xWS xCL xp_F_fits = true := by decide +kernel
theorem xk_F_fits : xm_okM xWS xCL xp_F_fits = true ∧ ∀ x ∈ xp_F_fits.2.2.2.2.2, xOK xp_F_fits x = true := ⟨xm_F_fits_ok, fun x hx => by
  exact List.all_eq_true.mp xk_F_fits_0 x hx⟩
theorem xk_F_bridge_0 : xt_F_bridge_0.all (xOK xp_F_bridge) = true := by decide +kernel
theorem xm_F_bridge_ok : xm_okM xWS xCL xp_F_bridge = true := by decide +kernel
theorem xk_F_bridge : xm_okM xWS xCL xp_F_bridge = true ∧ ∀ x ∈ xp_F_bridge.2.2.2.2.2, xOK xp_F_bridge x = true := ⟨xm_F_bridge_ok, fun x hx => by
  exact List.all_eq_true.mp xk_F_bridge_0 x hx⟩
theorem xk_F_count_0 : xt_F_count_0.all (xOK xp_F_count) = true := by decide +kernel
theorem xm_F_count_ok : xm_okM xWS xCL xp_F_count = true := by decide +kernel
theorem xk_F_count : xm_okM xWS xCL xp_F_count = true ∧ ∀ x ∈ xp_F_count.2.2.2.2.2, xOK xp_F_count x = true := ⟨xm_F_count_ok, fun x hx => by
  exact List.all_eq_true.mp xk_F_count_0 x hx⟩
theorem xk_F_connectionsThere_0 : xt_F_connectionsThere_0.all (xOK xp_F_connectionsThere) = true := by decide +kernel
theorem xm_F_connectionsThere_ok : xm_okM xWS xCL xp_F_connectionsThere = true := by decide +kernel
theorem xk_F_connectionsThere : xm_okM xWS xCL xp_F_connectionsThere = true ∧ ∀ x ∈ xp_F_connectionsThere.2.2.2.2.2, xOK xp_F_connectionsThere x = true := ⟨xm_F_connectionsThere_ok, fun x hx => by
  exact List.all_eq_true.mp xk_F_connectionsThere_0 x hx⟩
