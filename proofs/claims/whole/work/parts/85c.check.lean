/-! 09c.check -/
theorem xk_L_clear_0 : xt_L_clear_0.all (xOK xp_L_clear) = true := by decide +kernel
theorem xm_L_clear_ok : xm_okM xWS xCL xp_L_clear = true := by decide +kernel
theorem xk_L_clear : xm_okM xWS xCL xp_L_clear = true ∧ ∀ x ∈ xp_L_clear.2.2.2.2.2, xOK xp_L_clear x = true := ⟨xm_L_clear_ok, fun x hx => by
  exact List.all_eq_true.mp xk_L_clear_0 x hx⟩
theorem xk_L_fibre_0 : xt_L_fibre_0.all (xOK xp_L_fibre) = true := by decide +kernel
theorem xm_L_fibre_ok : xm_okM xWS xCL xp_L_fibre = true := by decide +kernel
theorem xk_L_fibre : xm_okM xWS xCL xp_L_fibre = true ∧ ∀ x ∈ xp_L_fibre.2.2.2.2.2, xOK xp_L_fibre x = true := ⟨xm_L_fibre_ok, fun x hx => by
  exact List.all_eq_true.mp xk_L_fibre_0 x hx⟩
theorem xk_L_request_0 : xt_L_request_0.all (xOK xp_L_request) = true := by decide +kernel
theorem xm_L_request_ok : xm_okM xWS xCL xp_L_request = true := by decide +kernel
theorem xk_L_request : xm_okM xWS xCL xp_L_request = true ∧ ∀ x ∈ xp_L_request.2.2.2.2.2, xOK xp_L_request x = true := ⟨xm_L_request_ok, fun x hx => by
  exact List.all_eq_true.mp xk_L_request_0 x hx⟩
theorem xk_L_release_0 : xt_L_release_0.all (xOK xp_L_release) = true := by decide +kernel
theorem xm_L_release_ok : xm_okM xWS xCL xp_L_release = true := by decide +kernel
theorem xk_L_release : xm_okM xWS xCL xp_L_release = true ∧ ∀ x ∈ xp_L_release.2.2.2.2.2, xOK xp_L_release x = true := ⟨xm_L_release_ok, fun x hx => by
  exact List.all_eq_true.mp xk_L_release_0 x hx⟩
theorem xk_L_lock_0 : xt_L_lock_0.all (xOK xp_L_lock) = true := by decide +kernel
theorem xm_L_lock_ok : xm_okM xWS xCL xp_L_lock = true := by decide +kernel
theorem xk_L_lock : xm_okM xWS xCL xp_L_lock = true ∧ ∀ x ∈ xp_L_lock.2.2.2.2.2, xOK xp_L_lock x = true := ⟨xm_L_lock_ok, fun x hx => by
  exact List.all_eq_true.mp xk_L_lock_0 x hx⟩
theorem xk_L_cut_0 : xt_L_cut_0.all (xOK xp_L_cut) = true := by decide +kernel
theorem xm_L_cut_ok : xm_okM xWS xCL xp_L_cut = true := by decide +kernel
theorem xk_L_cut : xm_okM xWS xCL xp_L_cut = true ∧ ∀ x ∈ xp_L_cut.2.2.2.2.2, xOK xp_L_cut x = true := ⟨xm_L_cut_ok, fun x hx => by
  exact List.all_eq_true.mp xk_L_cut_0 x hx⟩
theorem xk_L_mend_0 : xt_L_mend_0.all (xOK xp_L_mend) = true := by decide +kernel
theorem xm_L_mend_ok : xm_okM xWS xCL xp_L_mend = true := by decide +kernel
theorem xk_L_mend : xm_okM xWS xCL xp_L_mend = true ∧ ∀ x ∈ xp_L_mend.2.2.2.2.2, xOK xp_L_mend x = true := ⟨xm_L_mend_ok, fun x hx => by
  exact List.all_eq_true.mp xk_L_mend_0 x hx⟩
theorem xk_L_hold_0 : xt_L_hold_0.all (xOK xp_L_hold) = true := by decide +kernel
theorem xm_L_hold_ok : xm_okM xWS xCL xp_L_hold = true := by decide +kernel
theorem xk_L_hold : xm_okM xWS xCL xp_L_hold = true ∧ ∀ x ∈ xp_L_hold.2.2.2.2.2, xOK xp_L_hold x = true := ⟨xm_L_hold_ok, fun x hx => by
  exact List.all_eq_true.mp xk_L_hold_0 x hx⟩
theorem xk_L_path_0 : xt_L_path_0.all (xOK xp_L_path) = true := by decide +kernel
theorem xm_L_path_ok : xm_okM xWS xCL xp_L_path = true := by decide +kernel
theorem xk_L_path : xm_okM xWS xCL xp_L_path = true ∧ ∀ x ∈ xp_L_path.2.2.2.2.2, xOK xp_L_path x = true := ⟨xm_L_path_ok, fun x hx => by
  exact List.all_eq_true.mp xk_L_path_0 x hx⟩
theorem xk_L_about_0 : xt_L_about_0.all (xOK xp_L_about) = true := by decide +kernel
theorem xm_L_about_ok : xm_okM xWS xCL xp_L_about = true := by decide +kernel
theorem xk_L_about : xm_okM xWS xCL xp_L_about = true ∧ ∀ x ∈ xp_L_about.2.2.2.2.2, xOK xp_L_about x = true := ⟨xm_L_about_ok, fun x hx => by
  exact List.all_eq_true.mp xk_L_about_0 x hx⟩
theorem xk_L_user_0 : xt_L_user_0.all (xOK xp_L_user) = true := by decide +kernel
theorem xm_L_user_ok : xm_okM xWS xCL xp_L_user = true := by decide +kernel
theorem xk_L_user : xm_okM xWS xCL xp_L_user = true ∧ ∀ x ∈ xp_L_user.2.2.2.2.2, xOK xp_L_user x = true := ⟨xm_L_user_ok, fun x hx => by
  exact List.all_eq_true.mp xk_L_user_0 x hx⟩
theorem xk_L_move_0 : xt_L_move_0.all (xOK xp_L_move) = true := by decide +kernel
theorem xm_L_move_ok : xm_okM xWS xCL xp_L_move = true := by decide +kernel
theorem xk_L_move : xm_okM xWS xCL xp_L_move = true ∧ ∀ x ∈ xp_L_move.2.2.2.2.2, xOK xp_L_move x = true := ⟨xm_L_move_ok, fun x hx => by
  exact List.all_eq_true.mp xk_L_move_0 x hx⟩
theorem xk_L_fits_0 : xt_L_fits_0.all (xOK xp_L_fits) = true := by decide +kernel
theorem xm_L_fits_ok : xm_okM xWS xCL xp_L_fits = true := by decide +kernel
theorem xk_L_fits : xm_okM xWS xCL xp_L_fits = true ∧ ∀ x ∈ xp_L_fits.2.2.2.2.2, xOK xp_L_fits x = true := ⟨xm_L_fits_ok, fun x hx => by
  exact List.all_eq_true.mp xk_L_fits_0 x hx⟩
theorem xk_L_bridge_0 : xt_L_bridge_0.all (xOK xp_L_bridge) = true := by decide +kernel
theorem xm_L_bridge_ok : xm_okM xWS xCL xp_L_bridge = true := by decide +kernel
theorem xk_L_bridge : xm_okM xWS xCL xp_L_bridge = true ∧ ∀ x ∈ xp_L_bridge.2.2.2.2.2, xOK xp_L_bridge x = true := ⟨xm_L_bridge_ok, fun x hx => by
  exact List.all_eq_true.mp xk_L_bridge_0 x hx⟩
theorem xk_L_count_0 : xt_L_count_0.all (xOK xp_L_count) = true := by decide +kernel
theorem xm_L_count_ok : xm_okM xWS xCL xp_L_count = true := by decide +kernel
theorem xk_L_count : xm_okM xWS xCL xp_L_count = true ∧ ∀ x ∈ xp_L_count.2.2.2.2.2, xOK xp_L_count x = true := ⟨xm_L_count_ok, fun x hx => by
  exact List.all_eq_true.mp xk_L_count_0 x hx⟩
theorem xk_L_law_0 : xt_L_law_0.all (xOK xp_L_law) = true := by decide +kernel
theorem xk_L_law_1 : xt_L_law_1.all (xOK xp_L_law) = true := by decide +kernel
theorem xk_L_law_2 : xt_L_law_2.all (xOK xp_L_law) = true := by decide +kernel
theorem xk_L_law_3 : xt_L_law_3.all (xOK xp_L_law) = true := by decide +kernel
theorem xk_L_law_4 : xt_L_law_4.all (xOK xp_L_law) = true := by decide +kernel
theorem xk_L_law_5 : xt_L_law_5.all (xOK xp_L_law) = true := by decide +kernel
theorem xk_L_law_6 : xt_L_law_6.all (xOK xp_L_law) = true := by decide +kernel
theorem xk_L_law_7 : xt_L_law_7.all (xOK xp_L_law) = true := by decide +kernel
theorem xk_L_law_8 : xt_L_law_8.all (xOK xp_L_law) = true := by decide +kernel
theorem xk_L_law_9 : xt_L_law_9.all (xOK xp_L_law) = true := by decide +kernel
theorem xk_L_law_10 : xt_L_law_10.all (xOK xp_L_law) = true := by decide +kernel
theorem xm_L_law_ok : xm_okM xWS xCL xp_L_law = true := by decide +kernel
theorem xk_L_law : xm_okM xWS xCL xp_L_law = true ∧ ∀ x ∈ xp_L_law.2.2.2.2.2, xOK xp_L_law x = true := ⟨xm_L_law_ok, fun x hx => by
  have hx : x ∈ xt_L_law_0 ++ xt_L_law_1 ++ xt_L_law_2 ++ xt_L_law_3 ++ xt_L_law_4 ++ xt_L_law_5 ++ xt_L_law_6 ++ xt_L_law_7 ++ xt_L_law_8 ++ xt_L_law_9 ++ xt_L_law_10 := hx
  simp only [List.mem_append] at hx
  rcases hx with (((((((((h0 | h1) | h2) | h3) | h4) | h5) | h6) | h7) | h8) | h9) | h10
  · exact List.all_eq_true.mp xk_L_law_0 x h0
  · exact List.all_eq_true.mp xk_L_law_1 x h1
  · exact List.all_eq_true.mp xk_L_law_2 x h2
  · exact List.all_eq_true.mp xk_L_law_3 x h3
  · exact List.all_eq_true.mp xk_L_law_4 x h4
  · exact List.all_eq_true.mp xk_L_law_5 x h5
  · exact List.all_eq_true.mp xk_L_law_6 x h6
  · exact List.all_eq_true.mp xk_L_law_7 x h7
  · exact List.all_eq_true.mp xk_L_law_8 x h8
  · exact List.all_eq_true.mp xk_L_law_9 x h9
  · exact List.all_eq_true.mp xk_L_law_10 x h10⟩
