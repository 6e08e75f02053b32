/-! 72.inv: what every call keeps of the state; cells that are not touched. -/
section XI2
variable {Mc : Int32} {Mn : Nat} {Mm : Nat} {Mh : Int32} {Mp : Nat} {Mfw : Int32} {Mfs : Int32} {Me : Nat → Nat} {Ml : Nat → Nat} {Mbr : Nat → Bool} {Mlk : Nat → Bool} {Mt : Nat → Bool} {Mg : Nat → Bool} {Ma : Nat → Nat} {Mb : Nat → Nat} {Mw : Nat → Nat} {Mwk : Nat → Int32} {Msp : Nat → Int32} {Mon : Nat → Int32} {Mct : Nat → Int32} {MS : Nat → Int32} {MZ : Nat → Int32} {MA : Nat → Nat} {MN : Nat → Nat}
theorem gw_ext {e e' : Nat → Nat} {m m' : Nat} {s : Nat → Bool} (he : ∀ j, j < 2 * m → e' j = e j) (hm : m ≤ m') : ∀ p u v, gw e m s u p v → gw e' m' s u p v ∧ gv e' u p = gv e u p := by
  intro p
  induction p with
  | nil => intro u v h; exact ⟨h, rfl⟩
  | cons f p ih =>
    intro u v h
    obtain ⟨h1, h2, h3, h4⟩ := h
    have o : xoth e' f u = xoth e f u := by
      unfold xoth
      rw [he (2 * f) (by omega), he (2 * f + 1) (by omega)]
    obtain ⟨a, b⟩ := ih _ _ h4
    refine ⟨⟨by omega, h2, ?_, ?_⟩, ?_⟩
    · rw [he (2 * f) (by omega), he (2 * f + 1) (by omega)]; exact h3
    · rw [o]; exact a
    · show u :: gv e' (xoth e' f u) p = u :: gv e (xoth e f u) p
      rw [o, b]
theorem gp_ext {e e' : Nat → Nat} {m m' : Nat} {s : Nat → Bool} (he : ∀ j, j < 2 * m → e' j = e j) (hm : m ≤ m') {p : List Nat} {u v : Nat} (h : gp e m s u v p) : gp e' m' s u v p := by
  obtain ⟨a, b⟩ := gw_ext he hm p u v h.1
  exact ⟨a, by rw [b]; exact h.2⟩
theorem gp_T {e : Nat → Nat} {m : Nat} {s : Nat → Bool} {p : List Nat} {u v : Nat} (h : gp e m s u v p) : gp e m gT u v p := ⟨gw_sub (fun _ _ => rfl) _ _ _ h.1, h.2⟩
theorem i_fibre {x y z : Nat} (I : xIn Mn Mm Mh Me Ml Mt Mg Ma Mb Mw Mwk Msp Mon Mct) (hx : x < Mn) (hy : y < Mn) (hxy : ¬ x = y) (h1 : 1 ≤ z) (h2 : z ≤ 100) (hm : Mm < 14) :
    xIn Mn (Mm + 1) Mh (xup (xup Me (2 * Mm) x) (2 * Mm + 1) y) (xup Ml Mm z) Mt Mg Ma Mb Mw Mwk Msp Mon Mct := by
  obtain ⟨G, g2, g3, g4⟩ := I
  have hn := G.2.1
  have e1 : xup (xup Me (2 * Mm) x) (2 * Mm + 1) y (2 * Mm) = x := by rw [xup_n _ _ (by omega), xup_s]
  have e2 : xup (xup Me (2 * Mm) x) (2 * Mm + 1) y (2 * Mm + 1) = y := xup_s _ _ _
  have e3 : ∀ j, j < 2 * Mm → xup (xup Me (2 * Mm) x) (2 * Mm + 1) y j = Me j := fun j hj => by rw [xup_n _ _ (by omega), xup_n _ _ (by omega)]
  refine ⟨⟨by omega, hn, fun f hf => ?_⟩, g2, fun j => ?_, fun c hc ht => ?_⟩
  · by_cases q : f = Mm
    · subst q
      rw [e1, e2, xup_s]
      exact ⟨hx, hy, hxy, h1, h2⟩
    · rw [e3 _ (by omega), e3 _ (by omega), xup_n _ _ q]
      exact G.2.2 f (by omega)
  · by_cases q : j = 2 * Mm + 1
    · subst q; rw [e2]; omega
    · by_cases q2 : j = 2 * Mm
      · subst q2; rw [e1]; omega
      · rw [xup_n _ _ q, xup_n _ _ q2]; exact g3 j
  · obtain ⟨a1, a2, a3, a4, ⟨P, p1, p2⟩, a6, a7⟩ := g4 c hc ht
    refine ⟨a1, a2, a3, a4, ⟨P, gp_ext e3 (by omega) p1, p2⟩, fun hg => ?_, a7⟩
    obtain ⟨P, p1, p2⟩ := a6 hg
    exact ⟨P, gp_ext e3 (by omega) p1, p2⟩
theorem i_clear {n : Nat} {hd : Int32} (I : xIn Mn Mm Mh Me Ml Mt Mg Ma Mb Mw Mwk Msp Mon Mct) (h1 : 2 ≤ n) (h2 : n ≤ 7) : xIn n 0 hd Me Ml (xclr Mt 12) Mg Ma Mb Mw Mwk Msp Mon Mct := by
  refine ⟨⟨by omega, h2, fun f hf => absurd hf (by omega)⟩, h1, I.2.2.1, fun c hc ht => ?_⟩
  have e : xclr Mt 12 c = false := if_pos hc
  rw [e] at ht
  cases ht
theorem i_release {c : Nat} (I : xIn Mn Mm Mh Me Ml Mt Mg Ma Mb Mw Mwk Msp Mon Mct) : xIn Mn Mm Mh Me Ml (xup Mt c false) Mg Ma Mb Mw Mwk Msp Mon Mct := by
  refine ⟨I.1, I.2.1, I.2.2.1, fun j hj ht => ?_⟩
  by_cases q : j = c
  · subst q; rw [xup_s] at ht; cases ht
  · rw [xup_n _ _ q] at ht; exact I.2.2.2 j hj ht
theorem xlay_some {F : Nat → Option (Int32 × Int32)} {w' : Nat} {wk sp : Int32} : ∀ n w, xlay F n w = some (w', wk, sp) → w ≤ w' ∧ w' < w + n ∧ F w' = some (wk, sp) := by
  intro n
  induction n with
  | zero => intro w h; cases h
  | succ n ih =>
    intro w h
    rw [xlay_s] at h
    cases hF : F w with
    | none =>
      rw [hF] at h
      obtain ⟨a, b, c⟩ := ih (w + 1) h
      exact ⟨by omega, by omega, c⟩
    | some p =>
      rw [hF] at h
      have h := Option.some.inj h
      have e1 : w = w' := congrArg (fun q => q.1) h
      have e2 : p.1 = wk := congrArg (fun q => q.2.1) h
      have e3 : p.2 = sp := congrArg (fun q => q.2.2) h
      subst e1; subst e2; subst e3
      exact ⟨by omega, by omega, hF⟩
theorem i_request {c x y w : Nat} {pr : Bool} {wk sp : Int32} {on ct : Nat → Int32} (I : xIn Mn Mm Mh Me Ml Mt Mg Ma Mb Mw Mwk Msp Mon Mct) (hx : x < Mn) (hy : y < Mn) (hxy : ¬ x = y) (hl : xlay (xfw Mm Me Ml Mbr Mlk Mt Mw Mwk Msp x y pr) 4 0 = some (w, wk, sp)) :
    xIn Mn Mm Mh Me Ml (xup Mt c true) (xup Mg c pr) (xup Ma c x) (xup Mb c y) (xup Mw c w) (xup Mwk c wk) (xup Msp c sp) on ct := by
  obtain ⟨_, l2, l3⟩ := xlay_some _ _ hl
  obtain ⟨⟨P, p1, p2⟩, s1, s2⟩ := g_found I.1 hx hxy l3
  refine ⟨I.1, I.2.1, I.2.2.1, fun j hj ht => ?_⟩
  by_cases q : j = c
  · subst q
    simp only [xup_s]
    refine ⟨hx, hy, hxy, by omega, ⟨P, gp_T p1, p2⟩, fun hg => ?_, s2⟩
    obtain ⟨P', q1, q2⟩ := s1 hg
    exact ⟨P', gp_T q1, q2⟩
  · rw [xup_n _ _ q] at ht
    simp only [xup_n _ _ q]
    exact I.2.2.2 j hj ht
theorem i_move {c w : Nat} {wk sp : Int32} {on ct : Nat → Int32} (I : xIn Mn Mm Mh Me Ml Mt Mg Ma Mb Mw Mwk Msp Mon Mct) (hc : c < 12) (ht0 : Mt c = true) (hl : xlay (xfw Mm Me Ml Mbr Mlk Mt Mw Mwk Msp (Ma c) (Mb c) (Mg c)) (3 - Mw c) (Mw c + 1) = some (w, wk, sp)) :
    xIn Mn Mm Mh Me Ml Mt Mg Ma Mb (xup Mw c w) (xup Mwk c wk) (xup Msp c sp) on ct := by
  obtain ⟨a1, a2, a3, a4, _⟩ := I.2.2.2 c hc ht0
  obtain ⟨_, l2, l3⟩ := xlay_some _ _ hl
  obtain ⟨⟨P, p1, p2⟩, s1, s2⟩ := g_found I.1 a1 a3 l3
  refine ⟨I.1, I.2.1, I.2.2.1, fun j hj ht => ?_⟩
  by_cases q : j = c
  · subst q
    simp only [xup_s]
    refine ⟨a1, a2, a3, by omega, ⟨P, gp_T p1, p2⟩, fun hg => ?_, s2⟩
    obtain ⟨P', q1, q2⟩ := s1 hg
    exact ⟨P', gp_T q1, q2⟩
  · simp only [xup_n _ _ q]
    exact I.2.2.2 j hj ht
/-- a list of fibres for each connection -/
theorem i_paths (sp : Bool) (I : xIn Mn Mm Mh Me Ml Mt Mg Ma Mb Mw Mwk Msp Mon Mct) : ∃ PL : Nat → List Nat, ∀ c, c < 12 → Mt c = true → ∃ v, gp Me Mm gT (Ma c) v (PL c) ∧ (if sp = true then Msp c else Mwk c) = gm (PL c) := by
  have key : ∀ c, ∃ P : List Nat, c < 12 → Mt c = true → ∃ v, gp Me Mm gT (Ma c) v P ∧ (if sp = true then Msp c else Mwk c) = gm P := by
    intro c
    by_cases hc : c < 12 ∧ Mt c = true
    · obtain ⟨_, _, _, _, ⟨P, p1, p2⟩, a6, a7⟩ := I.2.2.2 c hc.1 hc.2
      cases sp with
      | false => exact ⟨P, fun _ _ => ⟨_, p1, p2⟩⟩
      | true =>
        cases hg : Mg c with
        | true =>
          obtain ⟨P', q1, q2⟩ := a6 hg
          exact ⟨P', fun _ _ => ⟨_, q1, q2⟩⟩
        | false => exact ⟨[], fun _ _ => ⟨Ma c, ⟨rfl, by simp [gv]⟩, a7 hg⟩⟩
    · exact ⟨[], fun h1 h2 => absurd ⟨h1, h2⟩ hc⟩
  exact ⟨fun c => Classical.choose (key c), fun c => Classical.choose_spec (key c)⟩
variable {h h' : List va_E}
theorem xMs_keep (e : ∀ j, 22 ≤ j → j < 40 → h'[j]? = h[j]?) (hM : xMs h Mc Mn Mm Mh Me Ml Mbr Mlk Mt Mg Ma Mb Mw Mwk Msp Mon Mct) : xMs h' Mc Mn Mm Mh Me Ml Mbr Mlk Mt Mg Ma Mb Mw Mwk Msp Mon Mct := by
  obtain ⟨Mp, Mfw, Mfs, MS, MZ, MA, MN, hM, hA, hN⟩ := hM
  obtain ⟨g22, g23, g24, g25, g26, g27, g28, g29, g30, g31, g32, g33, g34, g35, g36, g37, g38, g39⟩ := id hM
  refine ⟨Mp, Mfw, Mfs, MS, MZ, MA, MN, ⟨?_, ?_, ?_, ?_, ?_, ?_, ?_, ?_, ?_, ?_, ?_, ?_, ?_, ?_, ?_, ?_, ?_, ?_⟩, hA, hN⟩
  all_goals (rw [e _ (by omega) (by omega)]; assumption)
theorem xCS_keep (e : ∀ j, j < 22 → h'[j]? = h[j]?) (hC : xCS h Mn Mm Mh Me Ml Mbr Mlk Mt Mg Ma Mb Mw Mwk Msp Mon Mct) : xCS h' Mn Mm Mh Me Ml Mbr Mlk Mt Mg Ma Mb Mw Mwk Msp Mon Mct := by
  obtain ⟨cut, lk, K, hF, R⟩ := hC
  obtain ⟨f0, ⟨on, bk, co, wy, fN⟩, ⟨fa, f9, fj⟩, fK⟩ := id hF
  obtain ⟨f1, f2, f3, f4, f5, f6, f7, f8⟩ := id fN
  refine ⟨cut, lk, K, ⟨?_, ⟨on, bk, co, wy, ?_, ?_, ?_, ?_, ?_, ?_, ?_, ?_⟩, ⟨fa, ?_, fj⟩, fun c hc => ?_⟩, R⟩
  · rw [e _ (by omega)]; exact f0
  · rw [e _ (by omega)]; exact f1
  · rw [e _ (by omega)]; exact f2
  · rw [e _ (by omega)]; exact f3
  · rw [e _ (by omega)]; exact f4
  · rw [e _ (by omega)]; exact f5
  · rw [e _ (by omega)]; exact f6
  · rw [e _ (by omega)]; exact f7
  · rw [e _ (by omega)]; exact f8
  · rw [e _ (by omega)]; exact f9
  · rw [e _ (by omega)]; exact fK c hc
end XI2
