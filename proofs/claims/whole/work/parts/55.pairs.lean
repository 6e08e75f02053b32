/-! 55.pair: the best pair. Pure. -/
section GQ
variable {e l : Nat → Nat} {m n a b : Nat} {on bk co wy : Nat → Int32} {s : Int32}
theorem xfst_uniq {p : Nat → Bool} {f : Nat} (hp : p f = true) : ∀ k i, i ≤ f → f < i + k → (∀ g, i ≤ g → g < i + k → ¬ g = f → p g = false) → xfst p k i = some f := by
  intro k
  induction k with
  | zero => intro i h1 h2; omega
  | succ k ih =>
    intro i h1 h2 h3
    unfold xfst
    by_cases c : i = f
    · subst c
      rw [if_pos hp]
    · rw [if_neg (by rw [h3 i (by omega) (by omega) c]; decide)]
      exact ih (i + 1) (by omega) (by omega) (fun g q1 q2 q3 => h3 g (by omega) (by omega) q3)
abbrev gfr (e : Nat → Nat) : Nat → Int32 := fun f => nI (e (2 * f))
abbrev gto (e : Nat → Nat) : Nat → Int32 := fun f => nI (e (2 * f + 1))
theorem gm_tail {f : Nat} {p : List Nat} (hp : ∀ g, g ∈ f :: p → g < 32) (hf : ¬ f ∈ p) : gm (f :: p) ^^^ xbt f = gm p := by
  refine xb_ext (fun g hg => ?_)
  have hf32 := hp f List.mem_cons_self
  rw [xb_xor _ _ hg, gm_b hp hg, gm_b (fun g hg => hp g (List.mem_cons_of_mem _ hg)) hg, xb_bt hg hf32]
  by_cases c : g = f
  · subst c
    rw [decide_eq_true List.mem_cons_self, decide_eq_true rfl, decide_eq_false hf]
    rfl
  · rw [decide_eq_false c]
    by_cases c2 : g ∈ p
    · rw [decide_eq_true (List.mem_cons_of_mem _ c2), decide_eq_true c2]
      rfl
    · rw [decide_eq_false (fun q => by rcases List.mem_cons.mp q with q | q; exact c q; exact c2 q), decide_eq_false c2]
      rfl
/-- the fibre of a path that ends at its first site: its first one -/
theorem g_touch (G : gG e l m n) {f u v : Nat} {p : List Nat} {t : Nat → Bool} (hu : u < n) (h : gp e m t u v (f :: p)) : xfst (xtch (gfr e) (gto e) (gm (f :: p)) (nI u)) m 0 = some f := by
  have hm := G.1
  have hn := G.2.1
  have h32 := gp_32 G h.1
  have hnd : (u :: gv e (xoth e f u) p).Nodup := h.2
  rw [List.nodup_cons] at hnd
  have eq : ∀ j, e j < n → (nI (e j) = nI u ↔ e j = u) := fun j hj => nI_eq (by omega) (by omega)
  refine xfst_uniq ?_ m 0 (by omega) (by have := h.1.1; omega) (fun g _ hg hne => ?_)
  · unfold xtch
    rw [gm_b h32 (h32 f List.mem_cons_self), decide_eq_true List.mem_cons_self, Bool.true_and, Bool.or_eq_true, decide_eq_true_iff, decide_eq_true_iff]
    rcases h.1.2.2.1 with q | q
    · exact Or.inl (by show nI (e (2 * f)) = nI u; rw [q])
    · exact Or.inr (by show nI (e (2 * f + 1)) = nI u; rw [q])
  · unfold xtch
    rw [gm_b h32 (by omega)]
    by_cases c : g ∈ p
    · have hgm := G.2.2 g (by omega)
      have no : ∀ x, (x = e (2 * g) ∨ x = e (2 * g + 1)) → ¬ x = u := fun x hx q => hnd.1 (q ▸ gv_ends p _ v h.1.2.2.2 g c x hx)
      rw [decide_eq_false (show ¬ gfr e g = nI u from fun q => no _ (Or.inl rfl) ((eq (2 * g) hgm.1).mp q)), decide_eq_false (show ¬ gto e g = nI u from fun q => no _ (Or.inr rfl) ((eq (2 * g + 1) hgm.2.1).mp q))]
      simp
    · rw [decide_eq_false (fun q => by rcases List.mem_cons.mp q with q | q; exact hne q; exact c q)]
      rfl
theorem g_oth (G : gG e l m n) {f u : Nat} (hf : f < m) (hu : u < n) : (if gfr e f = nI u then gto e f else gfr e f) = nI (xoth e f u) := by
  have hn := G.2.1
  have := (G.2.2 f hf).1
  have eq : nI (e (2 * f)) = nI u ↔ e (2 * f) = u := nI_eq (by omega) (by omega)
  unfold xoth
  by_cases c : e (2 * f) = u
  · rw [if_pos (show gfr e f = nI u from eq.mpr c), if_pos c]
  · rw [if_neg (show ¬ gfr e f = nI u from fun q => c (eq.mp q)), if_neg c]
theorem g_xlt (G : gG e l m n) {f u : Nat} (hf : f < m) : xoth e f u < n := by
  unfold xoth
  by_cases c : e (2 * f) = u
  · rw [if_pos c]; exact (G.2.2 f hf).2.1
  · rw [if_neg c]; exact (G.2.2 f hf).1
/-- the first path turned round -/
theorem g_obo (G : gG e l m n) {t : Nat → Bool} : ∀ p u v k on bk, u < n → gp e m t u v p → p.length ≤ k →
    (∀ f, ¬ f ∈ p → (xobo (gfr e) (gto e) (gln l) m k (gm p) (nI u) on bk).1 f = on f ∧ (xobo (gfr e) (gto e) (gln l) m k (gm p) (nI u) on bk).2 f = bk f) ∧
    (∀ f, f ∈ p → (gf e u p f = 1 → (xobo (gfr e) (gto e) (gln l) m k (gm p) (nI u) on bk).1 f = 2147483647 ∧ (xobo (gfr e) (gto e) (gln l) m k (gm p) (nI u) on bk).2 f = -(xwt (gln l) f)) ∧
      (gf e u p f = -1 → (xobo (gfr e) (gto e) (gln l) m k (gm p) (nI u) on bk).1 f = -(xwt (gln l) f) ∧ (xobo (gfr e) (gto e) (gln l) m k (gm p) (nI u) on bk).2 f = 2147483647)) := by
  intro p
  induction p with
  | nil =>
    intro u v k on bk hu h hl
    have e0 : xobo (gfr e) (gto e) (gln l) m k (gm []) (nI u) on bk = (on, bk) := by
      cases k with
      | zero => rfl
      | succ k =>
        unfold xobo
        have : xfst (xtch (gfr e) (gto e) (gm []) (nI u)) m 0 = none := by
          cases hx : xfst (xtch (gfr e) (gto e) (gm []) (nI u)) m 0 with
          | none => rfl
          | some f =>
            have := (xfst_spec _ _ _ hx).2.2.1
            unfold xtch at this
            rw [show gm [] = 0 from rfl, xb_0] at this
            cases this
        rw [this]
    rw [e0]
    exact ⟨fun f _ => ⟨rfl, rfl⟩, fun f hf => by cases hf⟩
  | cons f p ih =>
    intro u v k on bk hu h hl
    cases k with
    | zero => cases hl
    | succ k =>
      have hnd := gp_nodup _ _ _ h
      rw [List.nodup_cons] at hnd
      have hnd2 : (u :: gv e (xoth e f u) p).Nodup := h.2
      rw [List.nodup_cons] at hnd2
      have h32 := gp_32 G h.1
      have hfm := h.1.1
      have hn := G.2.1
      have := (G.2.2 f hfm).1
      have eq : (gfr e f = nI u) ↔ e (2 * f) = u := nI_eq (by omega) (by omega)
      have ex : xobo (gfr e) (gto e) (gln l) m (k + 1) (gm (f :: p)) (nI u) on bk = xobo (gfr e) (gto e) (gln l) m k (gm p) (nI (xoth e f u)) (upd on f (if gfr e f = nI u then 2147483647 else -(xwt (gln l) f))) (upd bk f (if gfr e f = nI u then -(xwt (gln l) f) else 2147483647)) := by
        show (match xfst (xtch (gfr e) (gto e) (gm (f :: p)) (nI u)) m 0 with
          | none => (on, bk)
          | some f => xobo (gfr e) (gto e) (gln l) m k (gm _ ^^^ xbt f) (if gfr e f = nI u then gto e f else gfr e f) (upd on f (if gfr e f = nI u then 2147483647 else -(xwt (gln l) f))) (upd bk f (if gfr e f = nI u then -(xwt (gln l) f) else 2147483647))) = _
        rw [g_touch G hu h]
        simp only
        rw [gm_tail h32 hnd.1, g_oth G hfm hu]
      rw [ex]
      obtain ⟨i1, i2⟩ := ih (xoth e f u) v k (upd on f (if gfr e f = nI u then 2147483647 else -(xwt (gln l) f))) (upd bk f (if gfr e f = nI u then -(xwt (gln l) f) else 2147483647)) (g_xlt G hfm) ⟨h.1.2.2.2, hnd2.2⟩ (by simp at hl; omega)
      have gff : gf e u (f :: p) f = if e (2 * f) = u then 1 else -1 := by
        show _ * g1 f f + gf e (xoth e f u) p f = _
        rw [gf_0 p _ f hnd.1]
        unfold g1
        rw [if_pos rfl]
        omega
      have gfn : ∀ g, ¬ g = f → gf e u (f :: p) g = gf e (xoth e f u) p g := by
        intro g hg
        show _ * g1 f g + gf e (xoth e f u) p g = _
        unfold g1
        rw [if_neg hg]
        omega
      refine ⟨fun g hg => ?_, fun g hg => ?_⟩
      · obtain ⟨j1, j2⟩ := i1 g (fun q => hg (List.mem_cons_of_mem _ q))
        have hgf : ¬ g = f := fun q => hg (q ▸ List.mem_cons_self)
        exact ⟨j1.trans (if_neg hgf), j2.trans (if_neg hgf)⟩
      · by_cases c : g = f
        · subst c
          obtain ⟨j1, j2⟩ := i1 g hnd.1
          rw [j1, j2, gff]
          have us : ∀ (on : Nat → Int32) x, upd on g x g = x := fun _ _ => if_pos rfl
          rw [us, us]
          by_cases c2 : e (2 * g) = u
          · rw [if_pos c2, if_pos (eq.mpr c2), if_pos (eq.mpr c2)]
            exact ⟨fun _ => ⟨rfl, rfl⟩, fun q => absurd q (by decide)⟩
          · rw [if_neg c2, if_neg (fun q => c2 (eq.mp q)), if_neg (fun q => c2 (eq.mp q))]
            exact ⟨fun q => absurd q (by decide), fun _ => ⟨rfl, rfl⟩⟩
        · rw [gfn g c]
          exact i2 g (by rcases List.mem_cons.mp hg with q | q; exact absurd q c; exact q)
theorem gs_all0 {g : Nat → Int} (k : Nat) (h : ∀ i, i < k → 0 ≤ g i) (h0 : gs g k = 0) : ∀ i, i < k → g i = 0 := by
  intro i hi
  have h1 := h i hi
  apply Classical.byContradiction
  intro q
  have := gs_pos k h i hi (by omega)
  omega
theorem gs_ne {g : Nat → Int} {k : Nat} (h : ¬ gs g k = 0) : ∃ i, i < k ∧ ¬ g i = 0 := by
  apply Classical.byContradiction
  intro q
  have : gs g k = gs (fun _ => 0) k := gs_congr k (fun i hi => by
    apply Classical.byContradiction
    intro z
    exact q ⟨i, hi, z⟩)
  rw [gs_zero] at this
  exact h this
theorem gs_two {g : Nat → Int} : ∀ k, (∀ i, i < k → g i ≤ 0) → ∀ x y, x < k → y < k → ¬ x = y → g x ≤ -1 → g y ≤ -1 → gs g k ≤ -2 := by
  intro k h x y hx hy hxy gx gy
  have h1 : 0 ≤ gs (fun i => -(g i) - g1 x i - g1 y i) k := gs_nonneg k (fun i hi => by
    have := h i hi
    unfold g1
    by_cases c1 : i = x
    · subst c1
      rw [if_pos rfl, if_neg hxy]
      omega
    · by_cases c2 : i = y
      · subst c2
        rw [if_pos rfl, if_neg c1]
        omega
      · rw [if_neg c1, if_neg c2]
        omega)
  rw [gs_sub, gs_sub] at h1
  have h2 : gs (fun i => -(g i)) k = -(gs g k) := by
    have := gs_mul (-1) g k
    have e : gs (fun i => -(g i)) k = gs (fun i => -1 * g i) k := gs_congr k (fun i _ => by omega)
    rw [e, this]
    omega
  have h3 : ∀ z, z < k → gs (fun i => g1 z i) k = 1 := fun z hz => by
    have e : gs (fun i => g1 z i) k = gs (fun i => 1 * g1 z i) k := gs_congr k (fun i _ => by omega)
    rw [e, gs_pick (fun _ => 1) z k, if_pos hz]
  have e1 : gs (g1 x) k = 1 := h3 x hx
  have e2 : gs (g1 y) k = 1 := h3 y hy
  rw [h2, e1, e2] at h1
  omega
/-- two paths without a common fibre -/
def gpp (e : Nat → Nat) (m : Nat) (t : Nat → Bool) (a b : Nat) (X Y : List Nat) : Prop := gp e m t a b X ∧ gp e m t a b Y ∧ ∀ f, f ∈ X → ¬ f ∈ Y
/-- everything that reaches back from b along a path is reached -/
theorem g_fin {t : Nat → Bool} {D : Nat → Int} {A : Nat → Prop} {b : Nat} (hne : ∀ f, f < m → ¬ e (2 * f) = e (2 * f + 1)) (hA : ∀ f, f < m → (D f = 1 → A (e (2 * f + 1)) → A (e (2 * f))) ∧ (D f = -1 → A (e (2 * f)) → A (e (2 * f + 1)))) (hb : A b) : ∀ q u, gw e m t u q b → q.Nodup → (∀ f, f ∈ q → gf e u q f = D f) → ∀ x, x ∈ gv e u q → A x := by
  intro q
  induction q with
  | nil => intro u h _ _ x hx; rw [List.mem_singleton.mp hx, show u = b from h]; exact hb
  | cons f q ih =>
    intro u h hn hD x hx
    rw [List.nodup_cons] at hn
    have hq := ih (xoth e f u) h.2.2.2 hn.2 (fun g hg => by
      rw [← hD g (List.mem_cons_of_mem _ hg)]
      show _ = _ * g1 f g + gf e (xoth e f u) q g
      have : ¬ g = f := fun z => hn.1 (z ▸ hg)
      unfold g1
      rw [if_neg this]
      omega)
    rcases List.mem_cons.mp hx with rfl | hx
    · have hd := hD f List.mem_cons_self
      have hd : (if e (2 * f) = x then 1 else -1) * g1 f f + gf e (xoth e f x) q f = D f := hd
      rw [gf_0 q _ f hn.1] at hd
      unfold g1 at hd
      rw [if_pos rfl] at hd
      have hh := hq _ (gv_hd (e := e) (xoth e f x) q)
      by_cases c : e (2 * f) = x
      · rw [if_pos c] at hd
        unfold xoth at hh
        rw [if_pos c] at hh
        rw [← c]
        exact (hA f h.1).1 (by omega) hh
      · rw [if_neg c] at hd
        unfold xoth at hh
        rw [if_neg c] at hh
        rcases h.2.2.1 with z | z
        · exact absurd z c
        · rw [← z]
          exact (hA f h.1).2 (by omega) hh
    · exact hq x hx
end GQ
