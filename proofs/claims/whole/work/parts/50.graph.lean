/-! 50.graph: sums over fibres; walks, their sites, sets and flows. Pure. -/
section GS
/-- the sum of the first n -/
def gs (g : Nat → Int) : Nat → Int
  | 0 => 0
  | n + 1 => gs g n + g n
theorem gs_congr {g g' : Nat → Int} : ∀ n, (∀ i, i < n → g i = g' i) → gs g n = gs g' n
  | 0, _ => rfl
  | n + 1, h => by
    show gs g n + g n = gs g' n + g' n
    rw [gs_congr n (fun i hi => h i (by omega)), h n (by omega)]
theorem gs_le {g g' : Nat → Int} : ∀ n, (∀ i, i < n → g i ≤ g' i) → gs g n ≤ gs g' n
  | 0, _ => Int.le_refl _
  | n + 1, h => by
    have h1 := gs_le n (fun i hi => h i (by omega))
    have h2 := h n (by omega)
    show gs g n + g n ≤ gs g' n + g' n
    omega
theorem gs_add (g g' : Nat → Int) : ∀ n, gs (fun i => g i + g' i) n = gs g n + gs g' n
  | 0 => rfl
  | n + 1 => by
    have h1 := gs_add g g' n
    show gs (fun i => g i + g' i) n + (g n + g' n) = gs g n + g n + (gs g' n + g' n)
    omega
theorem gs_sub (g g' : Nat → Int) : ∀ n, gs (fun i => g i - g' i) n = gs g n - gs g' n
  | 0 => rfl
  | n + 1 => by
    have h1 := gs_sub g g' n
    show gs (fun i => g i - g' i) n + (g n - g' n) = gs g n + g n - (gs g' n + g' n)
    omega
theorem gs_zero : ∀ n, gs (fun _ => 0) n = 0
  | 0 => rfl
  | n + 1 => by
    show gs (fun _ => 0) n + 0 = 0
    rw [gs_zero n]
    rfl
theorem gs_mul (c : Int) (g : Nat → Int) : ∀ n, gs (fun i => c * g i) n = c * gs g n
  | 0 => by simp [gs]
  | n + 1 => by
    show gs (fun i => c * g i) n + c * g n = c * (gs g n + g n)
    rw [gs_mul c g n, Int.mul_add]
theorem gs_mulr (c : Int) (g : Nat → Int) (n : Nat) : gs (fun i => g i * c) n = gs g n * c := by
  rw [Int.mul_comm, ← gs_mul]
  exact gs_congr n (fun i _ => Int.mul_comm _ _)
theorem gs_comm (g : Nat → Nat → Int) (n : Nat) : ∀ m, gs (fun i => gs (g i) n) m = gs (fun j => gs (fun i => g i j) m) n
  | 0 => (gs_zero n).symm
  | m + 1 => by
    show gs (fun i => gs (g i) n) m + gs (g m) n = gs (fun j => gs (fun i => g i j) m + g m j) n
    rw [gs_comm g n m, gs_add]
/-- a one at k -/
def g1 (k i : Nat) : Int := if i = k then 1 else 0
theorem gs_pick (p : Nat → Int) (k : Nat) : ∀ n, gs (fun i => p i * g1 k i) n = if k < n then p k else 0
  | 0 => by simp [gs]
  | n + 1 => by
    show gs (fun i => p i * g1 k i) n + p n * g1 k n = _
    rw [gs_pick p k n]
    unfold g1
    by_cases h1 : n = k
    · subst h1
      simp
    · by_cases h2 : k < n
      · rw [if_pos h2, if_neg h1, if_pos (by omega)]
        simp
      · rw [if_neg h2, if_neg h1, if_neg (by omega)]
        simp
theorem gs_nonneg {g : Nat → Int} (n : Nat) (h : ∀ i, i < n → 0 ≤ g i) : 0 ≤ gs g n := by
  have h1 := gs_le (g := fun _ => 0) (g' := g) n h
  rw [gs_zero] at h1
  exact h1
theorem gs_pos {g : Nat → Int} : ∀ n, (∀ i, i < n → 0 ≤ g i) → ∀ k, k < n → 0 < g k → 0 < gs g n
  | 0, _, k, hk, _ => by omega
  | n + 1, h, k, hk, hp => by
    have h1 := gs_nonneg n (fun i hi => h i (by omega))
    have h2 := h n (by omega)
    show 0 < gs g n + g n
    by_cases e : k = n
    · subst e; omega
    · have h3 := gs_pos n (fun i hi => h i (by omega)) k (by omega) hp
      omega
end GS
section GW
variable {e : Nat → Nat} {m : Nat} {s : Nat → Bool}
/-- from u by the fibres of the list to v -/
def gw (e : Nat → Nat) (m : Nat) (s : Nat → Bool) : Nat → List Nat → Nat → Prop
  | u, [], v => u = v
  | u, f :: p, v => f < m ∧ s f = true ∧ (e (2 * f) = u ∨ e (2 * f + 1) = u) ∧ gw e m s (xoth e f u) p v
/-- the sites of a walk -/
def gv (e : Nat → Nat) : Nat → List Nat → List Nat
  | u, [] => [u]
  | u, f :: p => u :: gv e (xoth e f u) p
/-- a path: no site twice -/
def gp (e : Nat → Nat) (m : Nat) (s : Nat → Bool) (u v : Nat) (p : List Nat) : Prop := gw e m s u p v ∧ (gv e u p).Nodup
theorem gv_hd (u : Nat) (p : List Nat) : u ∈ gv e u p := by
  cases p with
  | nil => exact List.mem_singleton.mpr rfl
  | cons f p => exact List.mem_cons_self
theorem gv_len (p : List Nat) : ∀ u, (gv e u p).length = p.length + 1 := by
  induction p with
  | nil => intro u; rfl
  | cons f p ih => intro u; show (gv e (xoth e f u) p).length + 1 = _; rw [ih]; rfl
theorem gw_sub {s' : Nat → Bool} (h : ∀ f, s f = true → s' f = true) : ∀ p u v, gw e m s u p v → gw e m s' u p v := by
  intro p
  induction p with
  | nil => intro u v q; exact q
  | cons f p ih => intro u v q; exact ⟨q.1, h f q.2.1, q.2.2.1, ih _ _ q.2.2.2⟩
theorem gw_subp {s' : Nat → Bool} : ∀ p u v, (∀ f, f ∈ p → s' f = true) → gw e m s u p v → gw e m s' u p v := by
  intro p
  induction p with
  | nil => intro u v _ q; exact q
  | cons f p ih => intro u v h q; exact ⟨q.1, h f List.mem_cons_self, q.2.2.1, ih _ _ (fun g hg => h g (List.mem_cons_of_mem _ hg)) q.2.2.2⟩
theorem gw_mem : ∀ p u v, gw e m s u p v → ∀ f, f ∈ p → f < m ∧ s f = true := by
  intro p
  induction p with
  | nil => intro u v _ f hf; cases hf
  | cons g p ih =>
    intro u v q f hf
    rcases List.mem_cons.mp hf with rfl | hf
    · exact ⟨q.1, q.2.1⟩
    · exact ih _ _ q.2.2.2 f hf
theorem xoth_ends {f u : Nat} (h : e (2 * f) = u ∨ e (2 * f + 1) = u) (x : Nat) : (x = e (2 * f) ∨ x = e (2 * f + 1)) ↔ (x = u ∨ x = xoth e f u) := by
  unfold xoth
  by_cases c : e (2 * f) = u
  · rw [if_pos c, c]
  · rw [if_neg c]
    rcases h with h | h
    · exact absurd h c
    · rw [h]
      exact Or.comm
/-- the ends of a walk's fibres are among its sites -/
theorem gv_ends : ∀ p u v, gw e m s u p v → ∀ f, f ∈ p → ∀ x, (x = e (2 * f) ∨ x = e (2 * f + 1)) → x ∈ gv e u p := by
  intro p
  induction p with
  | nil => intro u v _ f hf; cases hf
  | cons g p ih =>
    intro u v q f hf x hx
    rcases List.mem_cons.mp hf with rfl | hf
    · rcases (xoth_ends q.2.2.1 x).mp hx with rfl | rfl
      · exact List.mem_cons_self
      · exact List.mem_cons_of_mem _ (gv_hd _ _)
    · exact List.mem_cons_of_mem _ (ih _ _ q.2.2.2 f hf x hx)
theorem gv_last : ∀ p u v, gw e m s u p v → v ∈ gv e u p := by
  intro p
  induction p with
  | nil => intro u v q; rw [show u = v from q]; exact gv_hd _ _
  | cons g p ih => intro u v q; exact List.mem_cons_of_mem _ (ih _ _ q.2.2.2)
theorem gp_nodup : ∀ p u v, gp e m s u v p → p.Nodup := by
  intro p
  induction p with
  | nil => intro u v _; exact List.nodup_nil
  | cons f p ih =>
    intro u v h
    have h2 : (u :: gv e (xoth e f u) p).Nodup := h.2
    rw [List.nodup_cons] at h2
    rw [List.nodup_cons]
    refine ⟨fun hf => h2.1 ?_, ih _ _ ⟨h.1.2.2.2, h2.2⟩⟩
    refine gv_ends p _ _ h.1.2.2.2 f hf u ?_
    rcases h.1.2.2.1 with q | q
    · exact Or.inl q.symm
    · exact Or.inr q.symm
/-- a walk cut at one of its sites -/
theorem gw_cut : ∀ p u v x, gw e m s u p v → x ∈ gv e u p → ∃ p1 p2, p = p1 ++ p2 ∧ gw e m s u p1 x ∧ gw e m s x p2 v ∧ (∀ y, y ∈ gv e u p1 → y ∈ gv e u p) ∧ ((gv e u p).Nodup → (gv e u p1).Nodup) := by
  intro p
  induction p with
  | nil =>
    intro u v x q hx
    have hx : x = u := List.mem_singleton.mp hx
    subst hx
    exact ⟨[], [], rfl, rfl, q, fun y hy => hy, fun h => h⟩
  | cons f p ih =>
    intro u v x q hx
    rcases List.mem_cons.mp hx with rfl | hx
    · refine ⟨[], f :: p, rfl, rfl, q, fun y hy => ?_, fun _ => ?_⟩
      · rw [List.mem_singleton.mp hy]
        exact List.mem_cons_self
      · exact List.nodup_cons.mpr ⟨List.not_mem_nil, List.nodup_nil⟩
    · obtain ⟨p1, p2, h1, h2, h3, h4, h5⟩ := ih _ _ x q.2.2.2 hx
      refine ⟨f :: p1, p2, by rw [h1]; rfl, ⟨q.1, q.2.1, q.2.2.1, h2⟩, h3, fun y hy => ?_, fun h => ?_⟩
      · rcases List.mem_cons.mp hy with rfl | hy
        · exact List.mem_cons_self
        · exact List.mem_cons_of_mem _ (h4 y hy)
      · have h : (u :: gv e (xoth e f u) p).Nodup := h
        rw [List.nodup_cons] at h
        exact List.nodup_cons.mpr ⟨fun hu => h.1 (h4 u hu), h5 h.2⟩
theorem gw_app : ∀ p q u v w, gw e m s u p v → gw e m s v q w → gw e m s u (p ++ q) w := by
  intro p
  induction p with
  | nil => intro q u v w h1 h2; rw [show u = v from h1]; exact h2
  | cons f p ih => intro q u v w h1 h2; exact ⟨h1.1, h1.2.1, h1.2.2.1, ih q _ v w h1.2.2.2 h2⟩
theorem gv_app1 : ∀ p f u v, gw e m s u p v → gv e u (p ++ [f]) = gv e u p ++ [xoth e f v] := by
  intro p
  induction p with
  | nil => intro f u v h1; rw [show u = v from h1]; rfl
  | cons g p ih => intro f u v h1; show u :: gv e (xoth e g u) (p ++ [f]) = _; rw [ih f _ v h1.2.2.2]; rfl
/-- what can be reached by paths is closed -/
theorem g_reach {a u f : Nat} {p : List Nat} (hp : gp e m s a u p) (hf : f < m) (hs : s f = true) (he : e (2 * f) = u ∨ e (2 * f + 1) = u) : ∃ p', gp e m s a (xoth e f u) p' := by
  by_cases c : xoth e f u ∈ gv e a p
  · obtain ⟨p1, p2, h1, h2, h3, h4, h5⟩ := gw_cut p a u _ hp.1 c
    exact ⟨p1, h2, h5 hp.2⟩
  · refine ⟨p ++ [f], gw_app p [f] a u _ hp.1 ⟨hf, hs, he, rfl⟩, ?_⟩
    rw [gv_app1 p f a u hp.1]
    rw [List.nodup_append]
    exact ⟨hp.2, List.nodup_cons.mpr ⟨List.not_mem_nil, List.nodup_nil⟩, fun x hx y hy hxy => by rw [List.mem_singleton.mp hy] at hxy; exact c (hxy ▸ hx)⟩
/-- either a path, or a set of sites that no fibre leaves -/
theorem g_cut {a b : Nat} (h : ¬ ∃ p, gp e m s a b p) : ∃ R : Nat → Bool, R a = true ∧ R b = false ∧ ∀ f, f < m → s f = true → R (e (2 * f)) = R (e (2 * f + 1)) := by
  have dec : ∀ v, Decidable (∃ p, gp e m s a v p) := fun v => Classical.propDecidable _
  refine ⟨fun v => @decide (∃ p, gp e m s a v p) (dec v), ?_, ?_, ?_⟩
  · exact @decide_eq_true _ (dec a) ⟨[], rfl, List.nodup_cons.mpr ⟨List.not_mem_nil, List.nodup_nil⟩⟩
  · exact @decide_eq_false _ (dec b) h
  · intro f hf hs
    have h1 : (∃ p, gp e m s a (e (2 * f)) p) → ∃ p, gp e m s a (e (2 * f + 1)) p := by
      rintro ⟨p, hp⟩
      have := g_reach hp hf hs (Or.inl rfl)
      unfold xoth at this
      rw [if_pos rfl] at this
      exact this
    have h2 : (∃ p, gp e m s a (e (2 * f + 1)) p) → ∃ p, gp e m s a (e (2 * f)) p := by
      rintro ⟨p, hp⟩
      have := g_reach hp hf hs (Or.inr rfl)
      unfold xoth at this
      by_cases c : e (2 * f) = e (2 * f + 1)
      · rw [c]
        exact ⟨p, hp⟩
      · rw [if_neg c] at this
        exact this
    simp only
    rw [@decide_eq_decide _ _ (dec _) (dec _)]
    exact ⟨h1, h2⟩
/-- the flow of a walk: 1 along a fibre, -1 against it -/
def gf (e : Nat → Nat) : Nat → List Nat → Nat → Int
  | _, [], _ => 0
  | u, f :: p, g => (if e (2 * f) = u then 1 else -1) * g1 f g + gf e (xoth e f u) p g
theorem gf_0 : ∀ p u g, ¬ g ∈ p → gf e u p g = 0 := by
  intro p
  induction p with
  | nil => intro u g _; rfl
  | cons f p ih =>
    intro u g h
    have h1 : ¬ g = f := fun q => h (q ▸ List.mem_cons_self)
    show _ * g1 f g + gf e (xoth e f u) p g = 0
    rw [ih _ g (fun q => h (List.mem_cons_of_mem _ q))]
    unfold g1
    rw [if_neg h1]
    simp
theorem gf_1 : ∀ p u g, p.Nodup → g ∈ p → gf e u p g = 1 ∨ gf e u p g = -1 := by
  intro p
  induction p with
  | nil => intro u g _ h; cases h
  | cons f p ih =>
    intro u g hn h
    rw [List.nodup_cons] at hn
    show _ * g1 f g + gf e (xoth e f u) p g = 1 ∨ _ * g1 f g + gf e (xoth e f u) p g = -1
    by_cases c : g = f
    · subst c
      rw [gf_0 p _ g hn.1]
      unfold g1
      rw [if_pos rfl]
      by_cases c : e (2 * g) = u
      · left; rw [if_pos c]; rfl
      · right; rw [if_neg c]; rfl
    · have hg : g ∈ p := by
        rcases List.mem_cons.mp h with q | q
        · exact absurd q c
        · exact q
      unfold g1
      rw [if_neg c, Int.mul_zero, Int.zero_add]
      exact ih _ g hn.2 hg
/-- sums along a walk are known by its ends -/
theorem g_tel (F : Nat → Int) : ∀ p u v, gw e m s u p v → gs (fun g => gf e u p g * (F (e (2 * g + 1)) - F (e (2 * g)))) m = F v - F u := by
  intro p
  induction p with
  | nil =>
    intro u v h
    rw [show u = v from h]
    have : gs (fun g => gf e v [] g * (F (e (2 * g + 1)) - F (e (2 * g)))) m = gs (fun _ => 0) m := gs_congr m (fun i _ => by show (0 : Int) * _ = 0; rw [Int.zero_mul])
    rw [this, gs_zero]
    omega
  | cons f p ih =>
    intro u v h
    have h1 : gs (fun g => gf e u (f :: p) g * (F (e (2 * g + 1)) - F (e (2 * g)))) m = gs (fun g => (if e (2 * f) = u then 1 else -1) * (F (e (2 * g + 1)) - F (e (2 * g))) * g1 f g) m + gs (fun g => gf e (xoth e f u) p g * (F (e (2 * g + 1)) - F (e (2 * g)))) m := by
      rw [← gs_add]
      refine gs_congr m (fun g _ => ?_)
      show ((if e (2 * f) = u then 1 else -1) * g1 f g + gf e (xoth e f u) p g) * _ = _
      rw [Int.add_mul, Int.mul_right_comm]
    rw [h1, ih _ v h.2.2.2, gs_pick (fun g => (if e (2 * f) = u then 1 else -1) * (F (e (2 * g + 1)) - F (e (2 * g)))) f m, if_pos h.1]
    unfold xoth
    by_cases c : e (2 * f) = u
    · rw [if_pos c, if_pos c, c]
      omega
    · rw [if_neg c, if_neg c]
      rcases h.2.2.1 with q | q
      · exact absurd q c
      · rw [q]
        omega
end GW
