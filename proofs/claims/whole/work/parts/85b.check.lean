/-! 09b.check -/
theorem xk_M_init_0 : xt_M_init_0.all (xOK xp_M_init) = true := by decide +kernel
theorem xk_M_init_1 : xt_M_init_1.all (xOK xp_M_init) = true := by decide +kernel
theorem xm_M_init_ok : xm_okM xWS xCL xp_M_init = true := by decide +kernel
theorem xk_M_init : xm_okM xWS xCL xp_M_init = true ∧ ∀ x ∈ xp_M_init.2.2.2.2.2, xOK xp_M_init x = true := ⟨xm_M_init_ok, fun x hx => by
  have hx : x ∈ xt_M_init_0 ++ xt_M_init_1 := hx
  simp only [List.mem_append] at hx
  rcases hx with h0 | h1
  · exact List.all_eq_true.mp xk_M_init_0 x h0
  · exact List.all_eq_true.mp xk_M_init_1 x h1⟩
theorem xk_M_thrown_0 : xt_M_thrown_0.all (xOK xp_M_thrown) = true := by decide +kernel
theorem xm_M_thrown_ok : xm_okM xWS xCL xp_M_thrown = true := by decide +kernel
theorem xk_M_thrown : xm_okM xWS xCL xp_M_thrown = true ∧ ∀ x ∈ xp_M_thrown.2.2.2.2.2, xOK xp_M_thrown x = true := ⟨xm_M_thrown_ok, fun x hx => by
  exact List.all_eq_true.mp xk_M_thrown_0 x hx⟩
theorem xk_M_clear_0 : xt_M_clear_0.all (xOK xp_M_clear) = true := by decide +kernel
theorem xm_M_clear_ok : xm_okM xWS xCL xp_M_clear = true := by decide +kernel
theorem xk_M_clear : xm_okM xWS xCL xp_M_clear = true ∧ ∀ x ∈ xp_M_clear.2.2.2.2.2, xOK xp_M_clear x = true := ⟨xm_M_clear_ok, fun x hx => by
  exact List.all_eq_true.mp xk_M_clear_0 x hx⟩
theorem xk_M_fibre_0 : xt_M_fibre_0.all (xOK xp_M_fibre) = true := by decide +kernel
theorem xk_M_fibre_1 : xt_M_fibre_1.all (xOK xp_M_fibre) = true := by decide +kernel
theorem xm_M_fibre_ok : xm_okM xWS xCL xp_M_fibre = true := by decide +kernel
theorem xk_M_fibre : xm_okM xWS xCL xp_M_fibre = true ∧ ∀ x ∈ xp_M_fibre.2.2.2.2.2, xOK xp_M_fibre x = true := ⟨xm_M_fibre_ok, fun x hx => by
  have hx : x ∈ xt_M_fibre_0 ++ xt_M_fibre_1 := hx
  simp only [List.mem_append] at hx
  rcases hx with h0 | h1
  · exact List.all_eq_true.mp xk_M_fibre_0 x h0
  · exact List.all_eq_true.mp xk_M_fibre_1 x h1⟩
theorem xk_M_noSite_0 : xt_M_noSite_0.all (xOK xp_M_noSite) = true := by decide +kernel
theorem xm_M_noSite_ok : xm_okM xWS xCL xp_M_noSite = true := by decide +kernel
theorem xk_M_noSite : xm_okM xWS xCL xp_M_noSite = true ∧ ∀ x ∈ xp_M_noSite.2.2.2.2.2, xOK xp_M_noSite x = true := ⟨xm_M_noSite_ok, fun x hx => by
  exact List.all_eq_true.mp xk_M_noSite_0 x hx⟩
theorem xk_M_request_0 : xt_M_request_0.all (xOK xp_M_request) = true := by decide +kernel
theorem xk_M_request_1 : xt_M_request_1.all (xOK xp_M_request) = true := by decide +kernel
theorem xm_M_request_ok : xm_okM xWS xCL xp_M_request = true := by decide +kernel
theorem xk_M_request : xm_okM xWS xCL xp_M_request = true ∧ ∀ x ∈ xp_M_request.2.2.2.2.2, xOK xp_M_request x = true := ⟨xm_M_request_ok, fun x hx => by
  have hx : x ∈ xt_M_request_0 ++ xt_M_request_1 := hx
  simp only [List.mem_append] at hx
  rcases hx with h0 | h1
  · exact List.all_eq_true.mp xk_M_request_0 x h0
  · exact List.all_eq_true.mp xk_M_request_1 x h1⟩
theorem xk_M_unused_0 : xt_M_unused_0.all (xOK xp_M_unused) = true := by decide +kernel
theorem xm_M_unused_ok : xm_okM xWS xCL xp_M_unused = true := by decide +kernel
theorem xk_M_unused : xm_okM xWS xCL xp_M_unused = true ∧ ∀ x ∈ xp_M_unused.2.2.2.2.2, xOK xp_M_unused x = true := ⟨xm_M_unused_ok, fun x hx => by
  exact List.all_eq_true.mp xk_M_unused_0 x hx⟩
theorem xk_M_find_0 : xt_M_find_0.all (xOK xp_M_find) = true := by decide +kernel
theorem xm_M_find_ok : xm_okM xWS xCL xp_M_find = true := by decide +kernel
theorem xk_M_find : xm_okM xWS xCL xp_M_find = true ∧ ∀ x ∈ xp_M_find.2.2.2.2.2, xOK xp_M_find x = true := ⟨xm_M_find_ok, fun x hx => by
  exact List.all_eq_true.mp xk_M_find_0 x hx⟩
theorem xk_M_free_0 : xt_M_free_0.all (xOK xp_M_free) = true := by decide +kernel
theorem xm_M_free_ok : xm_okM xWS xCL xp_M_free = true := by decide +kernel
theorem xk_M_free : xm_okM xWS xCL xp_M_free = true ∧ ∀ x ∈ xp_M_free.2.2.2.2.2, xOK xp_M_free x = true := ⟨xm_M_free_ok, fun x hx => by
  exact List.all_eq_true.mp xk_M_free_0 x hx⟩
theorem xk_M_userOf_0 : xt_M_userOf_0.all (xOK xp_M_userOf) = true := by decide +kernel
theorem xm_M_userOf_ok : xm_okM xWS xCL xp_M_userOf = true := by decide +kernel
theorem xk_M_userOf : xm_okM xWS xCL xp_M_userOf = true ∧ ∀ x ∈ xp_M_userOf.2.2.2.2.2, xOK xp_M_userOf x = true := ⟨xm_M_userOf_ok, fun x hx => by
  exact List.all_eq_true.mp xk_M_userOf_0 x hx⟩
theorem xk_M_bit_0 : xt_M_bit_0.all (xOK xp_M_bit) = true := by decide +kernel
theorem xm_M_bit_ok : xm_okM xWS xCL xp_M_bit = true := by decide +kernel
theorem xk_M_bit : xm_okM xWS xCL xp_M_bit = true ∧ ∀ x ∈ xp_M_bit.2.2.2.2.2, xOK xp_M_bit x = true := ⟨xm_M_bit_ok, fun x hx => by
  exact List.all_eq_true.mp xk_M_bit_0 x hx⟩
theorem xk_M_findPair_0 : xt_M_findPair_0.all (xOK xp_M_findPair) = true := by decide +kernel
theorem xk_M_findPair_1 : xt_M_findPair_1.all (xOK xp_M_findPair) = true := by decide +kernel
theorem xk_M_findPair_2 : xt_M_findPair_2.all (xOK xp_M_findPair) = true := by decide +kernel
theorem xk_M_findPair_3 : xt_M_findPair_3.all (xOK xp_M_findPair) = true := by decide +kernel
theorem xm_M_findPair_ok : xm_okM xWS xCL xp_M_findPair = true := by decide +kernel
theorem xk_M_findPair : xm_okM xWS xCL xp_M_findPair = true ∧ ∀ x ∈ xp_M_findPair.2.2.2.2.2, xOK xp_M_findPair x = true := ⟨xm_M_findPair_ok, fun x hx => by
  have hx : x ∈ xt_M_findPair_0 ++ xt_M_findPair_1 ++ xt_M_findPair_2 ++ xt_M_findPair_3 := hx
  simp only [List.mem_append] at hx
  rcases hx with ((h0 | h1) | h2) | h3
  · exact List.all_eq_true.mp xk_M_findPair_0 x h0
  · exact List.all_eq_true.mp xk_M_findPair_1 x h1
  · exact List.all_eq_true.mp xk_M_findPair_2 x h2
  · exact List.all_eq_true.mp xk_M_findPair_3 x h3⟩
theorem xk_M_list_0 : xt_M_list_0.all (xOK xp_M_list) = true := by decide +kernel
theorem xk_M_list_1 : xt_M_list_1.all (xOK xp_M_list) = true := by decide +kernel
theorem xm_M_list_ok : xm_okM xWS xCL xp_M_list = true := by decide +kernel
theorem xk_M_list : xm_okM xWS xCL xp_M_list = true ∧ ∀ x ∈ xp_M_list.2.2.2.2.2, xOK xp_M_list x = true := ⟨xm_M_list_ok, fun x hx => by
  have hx : x ∈ xt_M_list_0 ++ xt_M_list_1 := hx
  simp only [List.mem_append] at hx
  rcases hx with h0 | h1
  · exact List.all_eq_true.mp xk_M_list_0 x h0
  · exact List.all_eq_true.mp xk_M_list_1 x h1⟩
theorem xk_M_lengthOf_0 : xt_M_lengthOf_0.all (xOK xp_M_lengthOf) = true := by decide +kernel
theorem xm_M_lengthOf_ok : xm_okM xWS xCL xp_M_lengthOf = true := by decide +kernel
theorem xk_M_lengthOf : xm_okM xWS xCL xp_M_lengthOf = true ∧ ∀ x ∈ xp_M_lengthOf.2.2.2.2.2, xOK xp_M_lengthOf x = true := ⟨xm_M_lengthOf_ok, fun x hx => by
  exact List.all_eq_true.mp xk_M_lengthOf_0 x hx⟩
theorem xk_M_leads_0 : xt_M_leads_0.all (xOK xp_M_leads) = true := by decide +kernel
theorem xk_M_leads_1 : xt_M_leads_1.all (xOK xp_M_leads) = true := by decide +kernel
theorem xm_M_leads_ok : xm_okM xWS xCL xp_M_leads = true := by decide +kernel
theorem xk_M_leads : xm_okM xWS xCL xp_M_leads = true ∧ ∀ x ∈ xp_M_leads.2.2.2.2.2, xOK xp_M_leads x = true := ⟨xm_M_leads_ok, fun x hx => by
  have hx : x ∈ xt_M_leads_0 ++ xt_M_leads_1 := hx
  simp only [List.mem_append] at hx
  rcases hx with h0 | h1
  · exact List.all_eq_true.mp xk_M_leads_0 x h0
  · exact List.all_eq_true.mp xk_M_leads_1 x h1⟩
theorem xk_M_before_0 : xt_M_before_0.all (xOK xp_M_before) = true := by decide +kernel
theorem xm_M_before_ok : xm_okM xWS xCL xp_M_before = true := by decide +kernel
theorem xk_M_before : xm_okM xWS xCL xp_M_before = true ∧ ∀ x ∈ xp_M_before.2.2.2.2.2, xOK xp_M_before x = true := ⟨xm_M_before_ok, fun x hx => by
  exact List.all_eq_true.mp xk_M_before_0 x hx⟩
theorem xk_M_findPath_0 : xt_M_findPath_0.all (xOK xp_M_findPath) = true := by decide +kernel
theorem xk_M_findPath_1 : xt_M_findPath_1.all (xOK xp_M_findPath) = true := by decide +kernel
theorem xm_M_findPath_ok : xm_okM xWS xCL xp_M_findPath = true := by decide +kernel
theorem xk_M_findPath : xm_okM xWS xCL xp_M_findPath = true ∧ ∀ x ∈ xp_M_findPath.2.2.2.2.2, xOK xp_M_findPath x = true := ⟨xm_M_findPath_ok, fun x hx => by
  have hx : x ∈ xt_M_findPath_0 ++ xt_M_findPath_1 := hx
  simp only [List.mem_append] at hx
  rcases hx with h0 | h1
  · exact List.all_eq_true.mp xk_M_findPath_0 x h0
  · exact List.all_eq_true.mp xk_M_findPath_1 x h1⟩
theorem xk_M_take_0 : xt_M_take_0.all (xOK xp_M_take) = true := by decide +kernel
theorem xm_M_take_ok : xm_okM xWS xCL xp_M_take = true := by decide +kernel
theorem xk_M_take : xm_okM xWS xCL xp_M_take = true ∧ ∀ x ∈ xp_M_take.2.2.2.2.2, xOK xp_M_take x = true := ⟨xm_M_take_ok, fun x hx => by
  exact List.all_eq_true.mp xk_M_take_0 x hx⟩
theorem xk_M_release_0 : xt_M_release_0.all (xOK xp_M_release) = true := by decide +kernel
theorem xm_M_release_ok : xm_okM xWS xCL xp_M_release = true := by decide +kernel
theorem xk_M_release : xm_okM xWS xCL xp_M_release = true ∧ ∀ x ∈ xp_M_release.2.2.2.2.2, xOK xp_M_release x = true := ⟨xm_M_release_ok, fun x hx => by
  exact List.all_eq_true.mp xk_M_release_0 x hx⟩
theorem xk_M_noConnection_0 : xt_M_noConnection_0.all (xOK xp_M_noConnection) = true := by decide +kernel
theorem xm_M_noConnection_ok : xm_okM xWS xCL xp_M_noConnection = true := by decide +kernel
theorem xk_M_noConnection : xm_okM xWS xCL xp_M_noConnection = true ∧ ∀ x ∈ xp_M_noConnection.2.2.2.2.2, xOK xp_M_noConnection x = true := ⟨xm_M_noConnection_ok, fun x hx => by
  exact List.all_eq_true.mp xk_M_noConnection_0 x hx⟩
theorem xk_M_lock_0 : xt_M_lock_0.all (xOK xp_M_lock) = true := by decide +kernel
theorem xm_M_lock_ok : xm_okM xWS xCL xp_M_lock = true := by decide +kernel
theorem xk_M_lock : xm_okM xWS xCL xp_M_lock = true ∧ ∀ x ∈ xp_M_lock.2.2.2.2.2, xOK xp_M_lock x = true := ⟨xm_M_lock_ok, fun x hx => by
  exact List.all_eq_true.mp xk_M_lock_0 x hx⟩
theorem xk_M_noFibre_0 : xt_M_noFibre_0.all (xOK xp_M_noFibre) = true := by decide +kernel
theorem xm_M_noFibre_ok : xm_okM xWS xCL xp_M_noFibre = true := by decide +kernel
theorem xk_M_noFibre : xm_okM xWS xCL xp_M_noFibre = true ∧ ∀ x ∈ xp_M_noFibre.2.2.2.2.2, xOK xp_M_noFibre x = true := ⟨xm_M_noFibre_ok, fun x hx => by
  exact List.all_eq_true.mp xk_M_noFibre_0 x hx⟩
theorem xk_M_cut_0 : xt_M_cut_0.all (xOK xp_M_cut) = true := by decide +kernel
theorem xm_M_cut_ok : xm_okM xWS xCL xp_M_cut = true := by decide +kernel
theorem xk_M_cut : xm_okM xWS xCL xp_M_cut = true ∧ ∀ x ∈ xp_M_cut.2.2.2.2.2, xOK xp_M_cut x = true := ⟨xm_M_cut_ok, fun x hx => by
  exact List.all_eq_true.mp xk_M_cut_0 x hx⟩
theorem xk_M_settle_0 : xt_M_settle_0.all (xOK xp_M_settle) = true := by decide +kernel
theorem xk_M_settle_1 : xt_M_settle_1.all (xOK xp_M_settle) = true := by decide +kernel
theorem xm_M_settle_ok : xm_okM xWS xCL xp_M_settle = true := by decide +kernel
theorem xk_M_settle : xm_okM xWS xCL xp_M_settle = true ∧ ∀ x ∈ xp_M_settle.2.2.2.2.2, xOK xp_M_settle x = true := ⟨xm_M_settle_ok, fun x hx => by
  have hx : x ∈ xt_M_settle_0 ++ xt_M_settle_1 := hx
  simp only [List.mem_append] at hx
  rcases hx with h0 | h1
  · exact List.all_eq_true.mp xk_M_settle_0 x h0
  · exact List.all_eq_true.mp xk_M_settle_1 x h1⟩
theorem xk_M_whole_0 : xt_M_whole_0.all (xOK xp_M_whole) = true := by decide +kernel
theorem xm_M_whole_ok : xm_okM xWS xCL xp_M_whole = true := by decide +kernel
theorem xk_M_whole : xm_okM xWS xCL xp_M_whole = true ∧ ∀ x ∈ xp_M_whole.2.2.2.2.2, xOK xp_M_whole x = true := ⟨xm_M_whole_ok, fun x hx => by
  exact List.all_eq_true.mp xk_M_whole_0 x hx⟩
theorem xk_M_mend_0 : xt_M_mend_0.all (xOK xp_M_mend) = true := by decide +kernel
theorem xm_M_mend_ok : xm_okM xWS xCL xp_M_mend = true := by decide +kernel
theorem xk_M_mend : xm_okM xWS xCL xp_M_mend = true ∧ ∀ x ∈ xp_M_mend.2.2.2.2.2, xOK xp_M_mend x = true := ⟨xm_M_mend_ok, fun x hx => by
  exact List.all_eq_true.mp xk_M_mend_0 x hx⟩
theorem xk_M_hold_0 : xt_M_hold_0.all (xOK xp_M_hold) = true := by decide +kernel
theorem xm_M_hold_ok : xm_okM xWS xCL xp_M_hold = true := by decide +kernel
theorem xk_M_hold : xm_okM xWS xCL xp_M_hold = true ∧ ∀ x ∈ xp_M_hold.2.2.2.2.2, xOK xp_M_hold x = true := ⟨xm_M_hold_ok, fun x hx => by
  exact List.all_eq_true.mp xk_M_hold_0 x hx⟩
theorem xk_M_clock_0 : xt_M_clock_0.all (xOK xp_M_clock) = true := by decide +kernel
theorem xm_M_clock_ok : xm_okM xWS xCL xp_M_clock = true := by decide +kernel
theorem xk_M_clock : xm_okM xWS xCL xp_M_clock = true ∧ ∀ x ∈ xp_M_clock.2.2.2.2.2, xOK xp_M_clock x = true := ⟨xm_M_clock_ok, fun x hx => by
  exact List.all_eq_true.mp xk_M_clock_0 x hx⟩
theorem xk_M_move_0 : xt_M_move_0.all (xOK xp_M_move) = true := by decide +kernel
theorem xm_M_move_ok : xm_okM xWS xCL xp_M_move = true := by decide +kernel
theorem xk_M_move : xm_okM xWS xCL xp_M_move = true ∧ ∀ x ∈ xp_M_move.2.2.2.2.2, xOK xp_M_move x = true := ⟨xm_M_move_ok, fun x hx => by
  exact List.all_eq_true.mp xk_M_move_0 x hx⟩
theorem xk_M_path_0 : xt_M_path_0.all (xOK xp_M_path) = true := by decide +kernel
theorem xk_M_path_1 : xt_M_path_1.all (xOK xp_M_path) = true := by decide +kernel
theorem xm_M_path_ok : xm_okM xWS xCL xp_M_path = true := by decide +kernel
theorem xk_M_path : xm_okM xWS xCL xp_M_path = true ∧ ∀ x ∈ xp_M_path.2.2.2.2.2, xOK xp_M_path x = true := ⟨xm_M_path_ok, fun x hx => by
  have hx : x ∈ xt_M_path_0 ++ xt_M_path_1 := hx
  simp only [List.mem_append] at hx
  rcases hx with h0 | h1
  · exact List.all_eq_true.mp xk_M_path_0 x h0
  · exact List.all_eq_true.mp xk_M_path_1 x h1⟩
theorem xk_M_about_0 : xt_M_about_0.all (xOK xp_M_about) = true := by decide +kernel
theorem xk_M_about_1 : xt_M_about_1.all (xOK xp_M_about) = true := by decide +kernel
theorem xm_M_about_ok : xm_okM xWS xCL xp_M_about = true := by decide +kernel
theorem xk_M_about : xm_okM xWS xCL xp_M_about = true ∧ ∀ x ∈ xp_M_about.2.2.2.2.2, xOK xp_M_about x = true := ⟨xm_M_about_ok, fun x hx => by
  have hx : x ∈ xt_M_about_0 ++ xt_M_about_1 := hx
  simp only [List.mem_append] at hx
  rcases hx with h0 | h1
  · exact List.all_eq_true.mp xk_M_about_0 x h0
  · exact List.all_eq_true.mp xk_M_about_1 x h1⟩
theorem xk_M_user_0 : xt_M_user_0.all (xOK xp_M_user) = true := by decide +kernel
theorem xm_M_user_ok : xm_okM xWS xCL xp_M_user = true := by decide +kernel
theorem xk_M_user : xm_okM xWS xCL xp_M_user = true ∧ ∀ x ∈ xp_M_user.2.2.2.2.2, xOK xp_M_user x = true := ⟨xm_M_user_ok, fun x hx => by
  exact List.all_eq_true.mp xk_M_user_0 x hx⟩
theorem xk_M_fits_0 : xt_M_fits_0.all (xOK xp_M_fits) = true := by decide +kernel
theorem xm_M_fits_ok : xm_okM xWS xCL xp_M_fits = true := by decide +kernel
theorem xk_M_fits : xm_okM xWS xCL xp_M_fits = true ∧ ∀ x ∈ xp_M_fits.2.2.2.2.2, xOK xp_M_fits x = true := ⟨xm_M_fits_ok, fun x hx => by
  exact List.all_eq_true.mp xk_M_fits_0 x hx⟩
theorem xk_M_bridge_0 : xt_M_bridge_0.all (xOK xp_M_bridge) = true := by decide +kernel
theorem xk_M_bridge_1 : xt_M_bridge_1.all (xOK xp_M_bridge) = true := by decide +kernel
theorem xm_M_bridge_ok : xm_okM xWS xCL xp_M_bridge = true := by decide +kernel
theorem xk_M_bridge : xm_okM xWS xCL xp_M_bridge = true ∧ ∀ x ∈ xp_M_bridge.2.2.2.2.2, xOK xp_M_bridge x = true := ⟨xm_M_bridge_ok, fun x hx => by
  have hx : x ∈ xt_M_bridge_0 ++ xt_M_bridge_1 := hx
  simp only [List.mem_append] at hx
  rcases hx with h0 | h1
  · exact List.all_eq_true.mp xk_M_bridge_0 x h0
  · exact List.all_eq_true.mp xk_M_bridge_1 x h1⟩
theorem xk_M_exposed_0 : xt_M_exposed_0.all (xOK xp_M_exposed) = true := by decide +kernel
theorem xm_M_exposed_ok : xm_okM xWS xCL xp_M_exposed = true := by decide +kernel
theorem xk_M_exposed : xm_okM xWS xCL xp_M_exposed = true ∧ ∀ x ∈ xp_M_exposed.2.2.2.2.2, xOK xp_M_exposed x = true := ⟨xm_M_exposed_ok, fun x hx => by
  exact List.all_eq_true.mp xk_M_exposed_0 x hx⟩
theorem xk_M_count_0 : xt_M_count_0.all (xOK xp_M_count) = true := by decide +kernel
theorem xk_M_count_1 : xt_M_count_1.all (xOK xp_M_count) = true := by decide +kernel
theorem xm_M_count_ok : xm_okM xWS xCL xp_M_count = true := by decide +kernel
theorem xk_M_count : xm_okM xWS xCL xp_M_count = true ∧ ∀ x ∈ xp_M_count.2.2.2.2.2, xOK xp_M_count x = true := ⟨xm_M_count_ok, fun x hx => by
  have hx : x ∈ xt_M_count_0 ++ xt_M_count_1 := hx
  simp only [List.mem_append] at hx
  rcases hx with h0 | h1
  · exact List.all_eq_true.mp xk_M_count_0 x h0
  · exact List.all_eq_true.mp xk_M_count_1 x h1⟩
