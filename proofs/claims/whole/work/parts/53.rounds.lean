/-! 53.rounds: the search's rounds; the best path. Pure. -/
section GR
variable {e : Nat → Nat} {m n a : Nat} {on bk : Nat → Int32}
abbrev gsr (e : Nat → Nat) : Nat → Nat := fun f => e (2 * f)
abbrev gds (e : Nat → Nat) : Nat → Nat := fun f => e (2 * f + 1)
/-- the price of fibre f from u on -/
def gPr (e : Nat → Nat) (on bk : Nat → Int32) (f u : Nat) : Int32 := if e (2 * f) = u then on f else bk f
theorem g_rnd (H : gH e m n (gPr e on bk) a) : ∀ k i b co wy, i + k = m → gI e m (gPr e on bk) a co wy →
    gI e m (gPr e on bk) a (xrnd (gsr e) (gds e) on bk k i b co wy).2.1 (xrnd (gsr e) (gds e) on bk k i b co wy).2.2 ∧ (∀ x, x < 7 → ((xrnd (gsr e) (gds e) on bk k i b co wy).2.1 x).toInt ≤ (co x).toInt) ∧
    (∀ f u, i ≤ f → f < m → (e (2 * f) = u ∨ e (2 * f + 1) = u) → ¬ gPr e on bk f u = 2147483647 → ¬ co u = 2147483647 → ((xrnd (gsr e) (gds e) on bk k i b co wy).2.1 (xoth e f u)).toInt ≤ (co u).toInt + (gPr e on bk f u).toInt) ∧
    ((xrnd (gsr e) (gds e) on bk k i b co wy).1 = false → b = false ∧ (xrnd (gsr e) (gds e) on bk k i b co wy).2.1 = co) := by
  intro k
  induction k with
  | zero =>
    intro i b co wy hi h
    exact ⟨h, fun x _ => Int.le_refl _, fun f u h1 h2 => by omega, fun q => ⟨q, rfl⟩⟩
  | succ k ih =>
    intro i b co wy hi h
    have him : i < m := by omega
    have hne := (H.2.2.2.1 i him).2.2
    have hMX : (2147483647 : Int32).toInt = 2147483647 := by decide
    have keep : ∀ {co co' wy : Nat → Int32} {u : Nat}, gI e m (gPr e on bk) a co wy → u < 7 → (co' u).toInt ≤ (co u).toInt → ¬ co u = 2147483647 → ¬ co' u = 2147483647 := by
      intro co co' wy u h hu hle hc q
      have := gI_bd H h hu hc
      rw [q, hMX] at hle
      omega
    have o1 : xoth e i (e (2 * i)) = e (2 * i + 1) := if_pos rfl
    have o2 : xoth e i (e (2 * i + 1)) = e (2 * i) := if_neg hne
    have p1 : gPr e on bk i (e (2 * i)) = on i := if_pos rfl
    have p2 : gPr e on bk i (e (2 * i + 1)) = bk i := if_neg hne
    obtain ⟨a1, a2, a3, a4⟩ := g_ext H h him (Or.inl (rfl : e (2 * i) = e (2 * i)))
    rw [o1, p1] at a1 a2 a3 a4
    generalize hx1 : xext co wy (e (2 * i)) i (e (2 * i + 1)) (on i) = x1 at *
    obtain ⟨b1, b2, b3, b4⟩ := g_ext H a1 him (Or.inr (rfl : e (2 * i + 1) = e (2 * i + 1)))
    rw [o2, p2] at b1 b2 b3 b4
    have ex : xrnd (gsr e) (gds e) on bk (k + 1) i b co wy = xrnd (gsr e) (gds e) on bk k (i + 1) (b || x1.1 || (xext x1.2.1 x1.2.2 (e (2 * i + 1)) i (e (2 * i)) (bk i)).1) (xext x1.2.1 x1.2.2 (e (2 * i + 1)) i (e (2 * i)) (bk i)).2.1 (xext x1.2.1 x1.2.2 (e (2 * i + 1)) i (e (2 * i)) (bk i)).2.2 := by
      rw [← hx1]
      rfl
    rw [ex]
    generalize hx2 : xext x1.2.1 x1.2.2 (e (2 * i + 1)) i (e (2 * i)) (bk i) = x2 at *
    obtain ⟨c1, c2, c3, c4⟩ := ih (i + 1) (b || x1.1 || x2.1) x2.2.1 x2.2.2 (by omega) b1
    generalize hx3 : xrnd (gsr e) (gds e) on bk k (i + 1) (b || x1.1 || x2.1) x2.2.1 x2.2.2 = x3 at *
    have lt7 : ∀ f, f < m → e (2 * f) < 7 ∧ e (2 * f + 1) < 7 := fun f hf => by
      have := H.2.2.2.1 f hf
      have := H.2.1
      omega
    refine ⟨c1, fun x hx => ?_, ?_, ?_⟩
    · have q1 := c2 x hx
      have q2 := b2 x hx
      have q3 := a2 x hx
      omega
    · intro f u h1 h2 h3 h4 h5
      have hu7 : u < 7 := by
        have := lt7 f h2
        rcases h3 with q | q <;> omega
      have hw7 := xoth_lt (u := u) H h2
      by_cases c : f = i
      · subst c
        rcases h3 with q | q
        · subst q
          rw [o1, p1]
          rw [p1] at h4
          have q1 := a3 h4 h5
          have q2 := b2 _ (lt7 f h2).2
          have q3 := c2 _ (lt7 f h2).2
          omega
        · subst q
          rw [o2, p2]
          rw [p2] at h4
          have q0 := a2 _ hu7
          have q1 := b3 h4 (keep h hu7 q0 h5)
          have q3 := c2 _ (lt7 f h2).1
          omega
      · have q0 := a2 _ hu7
        have q1 := b2 _ hu7
        have q2 := c3 f u (by omega) h2 h3 h4 (keep a1 hu7 q1 (keep h hu7 q0 h5))
        omega
    · intro q
      obtain ⟨d1, d2⟩ := c4 q
      rw [Bool.or_eq_false_iff, Bool.or_eq_false_iff] at d1
      exact ⟨d1.1.1, d2.trans ((b4 d1.2).1.trans (a4 d1.1.2).1)⟩
theorem g_bfr (H : gH e m n (gPr e on bk) a) : ∀ k j b co wy, j + k ≤ 6 → gI e m (gPr e on bk) a co wy → gK e m (gPr e on bk) a co j → (b = false → gfe e m (gPr e on bk) co) →
    gI e m (gPr e on bk) a (xbf (gsr e) (gds e) on bk m k b co wy).1 (xbf (gsr e) (gds e) on bk m k b co wy).2 ∧ (gfe e m (gPr e on bk) (xbf (gsr e) (gds e) on bk m k b co wy).1 ∨ gK e m (gPr e on bk) a (xbf (gsr e) (gds e) on bk m k b co wy).1 (j + k)) := by
  intro k
  induction k with
  | zero => intro j b co wy _ h hk _; exact ⟨h, Or.inr hk⟩
  | succ k ih =>
    intro j b co wy hjk h hk hb
    cases b with
    | false => exact ⟨h, Or.inl (hb rfl)⟩
    | true =>
      obtain ⟨a1, a2, a3, a4⟩ := g_rnd H m 0 false co wy (by omega) h
      have ex : xbf (gsr e) (gds e) on bk m (k + 1) true co wy = xbf (gsr e) (gds e) on bk m k (xrnd (gsr e) (gds e) on bk m 0 false co wy).1 (xrnd (gsr e) (gds e) on bk m 0 false co wy).2.1 (xrnd (gsr e) (gds e) on bk m 0 false co wy).2.2 := rfl
      rw [ex]
      generalize xrnd (gsr e) (gds e) on bk m 0 false co wy = x at *
      have := ih (j + 1) x.1 x.2.1 x.2.2 (by omega) a1 ?_ ?_
      · rw [show j + (k + 1) = j + 1 + k by omega]
        exact this
      · intro p v hp ho hl
        by_cases c : p = []
        · subst c
          have := hk [] v hp ho (by simp)
          have hv : a = v := hp
          have := a2 v (by have := H.2.1; have := H.2.2.1; omega)
          omega
        · obtain ⟨p', f, u, h1, h2, h3, h4, h5⟩ := gw_snoc p a v hp c
          rw [h1] at ho hl ⊢
          rw [gc_app p' [f] a u h2]
          have ho' := (go_app p' [f] a u h2).mp ho
          rw [List.length_append] at hl
          have hl' : p'.length ≤ j := by simp at hl; omega
          have q1 := hk p' u h2 ho'.1 hl'
          have hMX : (2147483647 : Int32).toInt = 2147483647 := by decide
          -- the label of u is there
          have hu7 : u < 7 := by
            have := H.2.2.2.1 f h3
            have := H.2.1
            rcases h4 with q | q <;> omega
          by_cases cu : co u = 2147483647
          · exfalso
            rw [cu, hMX] at q1
            have hb := gc_abs (B := 1638400) H.2.2.2.2.1 p' a u h2 ho'.1
            omega
          · have q2 := a3 f u (by omega) h3 h4 ho'.2.1 cu
            rw [h5] at q2
            have k3 : gc e (gPr e on bk) u [f] = (gPr e on bk f u).toInt := by show _ + (0 : Int) = _; omega
            rw [k3]
            omega
      · intro q f u h1 h2 h3 h4
        obtain ⟨_, d2⟩ := a4 q
        have := a3 f u (by omega) h1 h2 h3 (by rw [d2] at h4; exact h4)
        rw [d2] at this ⊢
        exact this
/-- the search, done: labels that are paths, and no arc makes them better -/
theorem g_cw (H : gH e m n (gPr e on bk) a) (co wy : Nat → Int32) : gI e m (gPr e on bk) a (xcw (gsr e) (gds e) on bk n m a co wy).1 (xcw (gsr e) (gds e) on bk n m a co wy).2 ∧ gfe e m (gPr e on bk) (xcw (gsr e) (gds e) on bk n m a co wy).1 := by
  have hMX : (2147483647 : Int32).toInt = 2147483647 := by decide
  have h7 := H.2.1
  have han := H.2.2.1
  have c0a : upd (xfill co 7 2147483647) a 0 a = 0 := if_pos rfl
  have c0n : ∀ v, v < 7 → ¬ v = a → upd (xfill co 7 2147483647) a 0 v = 2147483647 := fun v hv hva => (if_neg hva).trans (if_pos hv)
  have w0 : ∀ v, v < 7 → xfill wy 7 0 v = 0 := fun v hv => if_pos hv
  have start : gI e m (gPr e on bk) a (upd (xfill co 7 2147483647) a 0) (xfill wy 7 0) := by
    refine ⟨fun v hv hc => ?_, fun v hv _ => w0 v hv, by rw [c0a]; decide⟩
    have hva : v = a := by
      apply Classical.byContradiction
      intro q
      exact hc (c0n v hv q)
    subst hva
    refine ⟨[], rfl, List.nodup_cons.mpr ⟨List.not_mem_nil, List.nodup_nil⟩, trivial, by rw [c0a]; rfl, w0 v hv, fun p1 p2 x hp hx => ?_⟩
    have : p1 = [] := (List.append_eq_nil_iff.mp hp.symm).1
    subst this
    have hx : v = x := hx
    subst hx
    rw [c0a]
    exact Int.le_refl _
  have K0 : gK e m (gPr e on bk) a (upd (xfill co 7 2147483647) a 0) 0 := by
    intro p v hp _ hl
    have : p = [] := List.length_eq_zero_iff.mp (by omega)
    subst this
    have hv : a = v := hp
    subst hv
    rw [c0a]
    exact Int.le_refl _
  have := g_bfr H (n - 1) 0 true _ _ (by omega) start K0 (fun q => by cases q)
  obtain ⟨h1, h2⟩ := this
  show gI e m (gPr e on bk) a (xbf (gsr e) (gds e) on bk m (n - 1) true (upd (xfill co 7 2147483647) a 0) (xfill wy 7 0)).1 (xbf (gsr e) (gds e) on bk m (n - 1) true (upd (xfill co 7 2147483647) a 0) (xfill wy 7 0)).2 ∧ gfe e m (gPr e on bk) (xbf (gsr e) (gds e) on bk m (n - 1) true (upd (xfill co 7 2147483647) a 0) (xfill wy 7 0)).1
  generalize xbf (gsr e) (gds e) on bk m (n - 1) true (upd (xfill co 7 2147483647) a 0) (xfill wy 7 0) = r at *
  refine ⟨h1, ?_⟩
  rcases h2 with h2 | h2
  · exact h2
  · intro f u hf hu hP hc
    have hE : ∀ f, f < m → e (2 * f) < n ∧ e (2 * f + 1) < n := fun f hf => ⟨(H.2.2.2.1 f hf).1, (H.2.2.2.1 f hf).2.1⟩
    have hu7 : u < 7 := by
      have := hE f hf
      rcases hu with q | q <;> omega
    obtain ⟨p, p1, p2, p3, p4, p5, p6⟩ := h1.1 u hu7 hc
    by_cases c : xoth e f u ∈ gv e a p
    · obtain ⟨q1, q2, r1, r2, r3, r4, r5⟩ := gw_cut p a u _ p1 c
      have s1 := p6 q1 q2 _ r1 r2
      obtain ⟨F, hF⟩ := H.2.2.2.2.2
      rw [r1] at p3 p4
      have s2 := ((go_app q1 q2 a _ r2).mp p3).2
      rw [gc_app q1 q2 a _ r2] at p4
      have s3 := gc_pot hF q2 _ u r3 s2
      have s4 := hF f u hf hu hP
      omega
    · have t1 : gw e m gT a (p ++ [f]) (xoth e f u) := gw_app p [f] a u _ p1 ⟨hf, rfl, hu, rfl⟩
      have t2 : (gv e a (p ++ [f])).Nodup := by
        rw [gv_app1 p f a u p1, List.nodup_append]
        exact ⟨p2, List.nodup_cons.mpr ⟨List.not_mem_nil, List.nodup_nil⟩, fun x hx y hy hxy => by rw [List.mem_singleton.mp hy] at hxy; exact c (hxy ▸ hx)⟩
      have t3 := gp_len hE t1 t2 han
      have t4 := h2 (p ++ [f]) _ t1 ((go_app p [f] a u p1).mpr ⟨p3, hP, trivial⟩) (by omega)
      rw [gc_app p [f] a u p1] at t4
      have k3 : gc e (gPr e on bk) u [f] = (gPr e on bk f u).toInt := by show _ + (0 : Int) = _; omega
      rw [k3] at t4
      omega
/-- what is not reached, when b is not -/
theorem g_lost {P : Nat → Nat → Int32} (H : gH e m n P a) {co wy : Nat → Int32} {b : Nat} (hI : gI e m P a co wy) (hf : gfe e m P co) (hb : b < n) (hab : ¬ a = b) (h0 : wy b = 0) : ∃ R : Nat → Bool, R a = true ∧ R b = false ∧ ∀ f u, f < m → (e (2 * f) = u ∨ e (2 * f + 1) = u) → ¬ P f u = 2147483647 → R u = true → R (xoth e f u) = true := by
  have hMX : (2147483647 : Int32).toInt = 2147483647 := by decide
  have h7 := H.2.1
  have hE : ∀ f, f < m → e (2 * f) < n ∧ e (2 * f + 1) < n := fun f hf => ⟨(H.2.2.2.1 f hf).1, (H.2.2.2.1 f hf).2.1⟩
  refine ⟨fun v => decide (¬ co v = 2147483647), ?_, ?_, ?_⟩
  · refine decide_eq_true (fun q => ?_)
    have := hI.2.2
    rw [q, hMX] at this
    omega
  · refine decide_eq_false (fun q => ?_)
    obtain ⟨p, p1, p2, p3, p4, p5, p6⟩ := hI.1 b (by omega) q
    rw [h0] at p5
    have hm := H.1
    refine gm_ne (fun f hf => by have := (gw_mem p a b p1 f hf).1; omega) (fun z => ?_) p5.symm
    subst z
    exact hab p1
  · intro f u h1 h2 h3 h4
    have hu : ¬ co u = 2147483647 := of_decide_eq_true h4
    have hu7 : u < 7 := by
      have := hE f h1
      rcases h2 with q | q <;> omega
    refine decide_eq_true (fun q => ?_)
    have q1 := hf f u h1 h2 h3 hu
    have q2 := gI_bd H hI hu7 hu
    have q3 := H.2.2.2.2.1 f u h1 h3
    rw [q, hMX] at q1
    omega
/-- the cost of a path whose prices do not ask for the direction -/
theorem gc_sum {P : Nat → Nat → Int32} {s : Nat → Bool} {w : Nat → Int} (hP : ∀ f u, f < m → ¬ P f u = 2147483647 → (P f u).toInt = w f) : ∀ p u v, gw e m s u p v → go e P u p → p.Nodup → gc e P u p = gs (fun f => if f ∈ p then w f else 0) m := by
  intro p
  induction p with
  | nil =>
    intro u v _ _ _
    have : gs (fun f => if f ∈ ([] : List Nat) then w f else 0) m = gs (fun _ => 0) m := gs_congr m (fun i _ => if_neg List.not_mem_nil)
    rw [this, gs_zero]
    rfl
  | cons g p ih =>
    intro u v h ho hn
    rw [List.nodup_cons] at hn
    have h1 : gs (fun f => if f ∈ g :: p then w f else 0) m = gs (fun f => w f * g1 g f) m + gs (fun f => if f ∈ p then w f else 0) m := by
      rw [← gs_add]
      refine gs_congr m (fun f _ => ?_)
      unfold g1
      by_cases c : f = g
      · subst c
        rw [if_pos List.mem_cons_self, if_pos rfl, if_neg hn.1]
        omega
      · by_cases c2 : f ∈ p
        · rw [if_pos (List.mem_cons_of_mem _ c2), if_neg c, if_pos c2]
          omega
        · rw [if_neg (fun q => by rcases List.mem_cons.mp q with q | q; exact c q; exact c2 q), if_neg c, if_neg c2]
          omega
    rw [h1, gs_pick, if_pos h.1, ← ih _ v h.2.2.2 ho.2 hn.2]
    show (P g u).toInt + _ = _
    rw [hP g u h.1 ho.1]
/-- the weight, as the class counts it -/
theorem xwt_I {l : Nat → Nat} {f : Nat} (hf : f < 14) (h1 : 1 ≤ l f) (h2 : l f ≤ 100) : (xwt (fun j => nI (l j)) f).toInt = gwt l f := by
  unfold xwt gwt
  have e1 : nI (l f) <<< ((14 : Int32) &&& 31) = nI (l f * 2 ^ 14) := pk_shlN _ 14 (by decide) (by omega)
  have e2 : (1 : Int32) <<< ((13 - nI f) &&& 31) = nI (2 ^ (13 - f)) := (by decide +kernel : ∀ f, f < 14 → (1 : Int32) <<< ((13 - nI f) &&& 31) = nI (2 ^ (13 - f))) f hf
  have e3 : 2 ^ (13 - f) ≤ 2 ^ 13 := Nat.pow_le_pow_right (by omega) (by omega)
  show (nI (l f) <<< ((14 : Int32) &&& 31) - (1 : Int32) <<< ((13 - nI f) &&& 31)).toInt = _
  rw [e1, e2, Int32.toInt_sub, nI_toInt (by omega), nI_toInt (by omega)]
  generalize 2 ^ (13 - f) = Z at *
  rw [Int.bmod_eq_of_le (by omega) (by omega)]
  omega
end GR
