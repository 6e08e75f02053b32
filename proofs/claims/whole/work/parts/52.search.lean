/-! 52.search: Bellman and Ford's search finds cheapest paths. Pure. -/
section GB
variable {e : Nat → Nat} {m n a : Nat} {P : Nat → Nat → Int32}
abbrev gT : Nat → Bool := fun _ => true
/-- every step is open -/
def go (e : Nat → Nat) (P : Nat → Nat → Int32) : Nat → List Nat → Prop
  | _, [] => True
  | u, f :: p => ¬ P f u = 2147483647 ∧ go e P (xoth e f u) p
/-- what a walk costs -/
def gc (e : Nat → Nat) (P : Nat → Nat → Int32) : Nat → List Nat → Int
  | _, [] => 0
  | u, f :: p => (P f u).toInt + gc e P (xoth e f u) p
theorem go_app {s : Nat → Bool} : ∀ p q u v, gw e m s u p v → (go e P u (p ++ q) ↔ go e P u p ∧ go e P v q) := by
  intro p
  induction p with
  | nil => intro q u v h; rw [show u = v from h]; exact ⟨fun h => ⟨trivial, h⟩, fun h => h.2⟩
  | cons f p ih =>
    intro q u v h
    have := ih q _ v h.2.2.2
    constructor
    · intro h2
      exact ⟨⟨h2.1, (this.mp h2.2).1⟩, (this.mp h2.2).2⟩
    · intro h2
      exact ⟨h2.1.1, this.mpr ⟨h2.1.2, h2.2⟩⟩
theorem gc_app {s : Nat → Bool} : ∀ p q u v, gw e m s u p v → gc e P u (p ++ q) = gc e P u p + gc e P v q := by
  intro p
  induction p with
  | nil => intro q u v h; rw [show u = v from h]; show gc e P v q = 0 + _; omega
  | cons f p ih =>
    intro q u v h
    show (P f u).toInt + gc e P (xoth e f u) (p ++ q) = (P f u).toInt + gc e P (xoth e f u) p + _
    rw [ih q _ v h.2.2.2]
    omega
theorem gc_pot {s : Nat → Bool} {F : Nat → Int} (hF : ∀ f u, f < m → (e (2 * f) = u ∨ e (2 * f + 1) = u) → ¬ P f u = 2147483647 → F (xoth e f u) ≤ F u + (P f u).toInt) : ∀ p u v, gw e m s u p v → go e P u p → F v ≤ F u + gc e P u p := by
  intro p
  induction p with
  | nil => intro u v h _; rw [show u = v from h]; show F v ≤ F v + 0; omega
  | cons f p ih =>
    intro u v h h2
    have h3 := ih _ v h.2.2.2 h2.2
    have h4 := hF f u h.1 h.2.2.1 h2.1
    show F v ≤ F u + ((P f u).toInt + gc e P (xoth e f u) p)
    omega
theorem gc_abs {s : Nat → Bool} {B : Int} (hB : ∀ f u, f < m → ¬ P f u = 2147483647 → -B ≤ (P f u).toInt ∧ (P f u).toInt ≤ B) : ∀ p u v, gw e m s u p v → go e P u p → -(B * (p.length : Int)) ≤ gc e P u p ∧ gc e P u p ≤ B * (p.length : Int) := by
  intro p
  induction p with
  | nil => intro u v _ _; show -(B * ((0 : Nat) : Int)) ≤ 0 ∧ 0 ≤ B * ((0 : Nat) : Int); simp
  | cons f p ih =>
    intro u v h h2
    have h3 := ih _ v h.2.2.2 h2.2
    have h4 := hB f u h.1 h2.1
    show -(B * ((p.length + 1 : Nat) : Int)) ≤ (P f u).toInt + gc e P (xoth e f u) p ∧ (P f u).toInt + gc e P (xoth e f u) p ≤ B * ((p.length + 1 : Nat) : Int)
    rw [Int.natCast_add, Int.mul_add]
    constructor
    · have : B * ((1 : Nat) : Int) = B := by simp
      omega
    · have : B * ((1 : Nat) : Int) = B := by simp
      omega
theorem g_nodup {n : Nat} {L : List Nat} (hn : L.Nodup) (hL : ∀ x, x ∈ L → x < n) : L.length ≤ n := by
  apply Classical.byContradiction
  intro hlen
  have hget : ∀ i, i < n + 1 → (L[i]?).getD 0 < n := by
    intro i hi
    have hil : i < L.length := by omega
    rw [List.getElem?_eq_getElem hil]
    exact hL _ (List.getElem_mem hil)
  obtain ⟨i, j, h1, h2, h3⟩ := xpig n (fun i => (L[i]?).getD 0) hget
  have hil : i < L.length := by omega
  have hjl : j < L.length := by omega
  have h3 : (L[i]?).getD 0 = (L[j]?).getD 0 := h3
  rw [List.getElem?_eq_getElem hil, List.getElem?_eq_getElem hjl] at h3
  exact (List.pairwise_iff_getElem.mp hn) i j hil hjl h1 h3
theorem gv_lt {s : Nat → Bool} (hE : ∀ f, f < m → e (2 * f) < n ∧ e (2 * f + 1) < n) : ∀ p u v, gw e m s u p v → u < n → ∀ x, x ∈ gv e u p → x < n := by
  intro p
  induction p with
  | nil => intro u v _ hu x hx; rw [List.mem_singleton.mp hx]; exact hu
  | cons f p ih =>
    intro u v h hu x hx
    rcases List.mem_cons.mp hx with rfl | hx
    · exact hu
    · refine ih _ v h.2.2.2 ?_ x hx
      unfold xoth
      by_cases c : e (2 * f) = u
      · rw [if_pos c]; exact (hE f h.1).2
      · rw [if_neg c]; exact (hE f h.1).1
theorem gp_len {s : Nat → Bool} (hE : ∀ f, f < m → e (2 * f) < n ∧ e (2 * f + 1) < n) {p : List Nat} {u v : Nat} (h : gw e m s u p v) (hn : (gv e u p).Nodup) (hu : u < n) : p.length + 1 ≤ n := by
  have := g_nodup hn (gv_lt hE p u v h hu)
  rw [gv_len] at this
  exact this
theorem gw_snoc {s : Nat → Bool} : ∀ p u v, gw e m s u p v → ¬ p = [] → ∃ p' f w, p = p' ++ [f] ∧ gw e m s u p' w ∧ f < m ∧ (e (2 * f) = w ∨ e (2 * f + 1) = w) ∧ xoth e f w = v := by
  intro p
  induction p with
  | nil => intro u v _ h; exact absurd rfl h
  | cons f p ih =>
    intro u v h _
    by_cases c : p = []
    · subst c
      exact ⟨[], f, u, rfl, rfl, h.1, h.2.2.1, h.2.2.2⟩
    · obtain ⟨p', g, w, h1, h2, h3, h4, h5⟩ := ih _ v h.2.2.2 c
      exact ⟨f :: p', g, w, by rw [h1]; rfl, ⟨h.1, h.2.1, h.2.2.1, h2⟩, h3, h4, h5⟩
theorem i32_add {x y : Int32} (h1 : -1000000000 ≤ x.toInt) (h2 : x.toInt ≤ 1000000000) (h3 : -1000000000 ≤ y.toInt) (h4 : y.toInt ≤ 1000000000) : (x + y).toInt = x.toInt + y.toInt := by
  rw [Int32.toInt_add]
  exact Int.bmod_eq_of_le (by omega) (by omega)
/-- what holds of the labels all the time -/
def gI (e : Nat → Nat) (m : Nat) (P : Nat → Nat → Int32) (a : Nat) (co wy : Nat → Int32) : Prop :=
  (∀ v, v < 7 → ¬ co v = 2147483647 → ∃ p, gw e m gT a p v ∧ (gv e a p).Nodup ∧ go e P a p ∧ (co v).toInt = gc e P a p ∧ wy v = gm p ∧ ∀ p1 p2 x, p = p1 ++ p2 → gw e m gT a p1 x → (co x).toInt ≤ gc e P a p1) ∧
  (∀ v, v < 7 → co v = 2147483647 → wy v = 0) ∧ (co a).toInt ≤ 0
/-- no arc makes it better -/
def gfe (e : Nat → Nat) (m : Nat) (P : Nat → Nat → Int32) (co : Nat → Int32) : Prop := ∀ f u, f < m → (e (2 * f) = u ∨ e (2 * f + 1) = u) → ¬ P f u = 2147483647 → ¬ co u = 2147483647 → (co (xoth e f u)).toInt ≤ (co u).toInt + (P f u).toInt
/-- as good as every walk of at most k steps -/
def gK (e : Nat → Nat) (m : Nat) (P : Nat → Nat → Int32) (a : Nat) (co : Nat → Int32) (k : Nat) : Prop := ∀ p v, gw e m gT a p v → go e P a p → p.length ≤ k → (co v).toInt ≤ gc e P a p
/-- what the search needs of the prices -/
def gH (e : Nat → Nat) (m n : Nat) (P : Nat → Nat → Int32) (a : Nat) : Prop :=
  m ≤ 14 ∧ n ≤ 7 ∧ a < n ∧ (∀ f, f < m → e (2 * f) < n ∧ e (2 * f + 1) < n ∧ ¬ e (2 * f) = e (2 * f + 1)) ∧ (∀ f u, f < m → ¬ P f u = 2147483647 → -1638400 ≤ (P f u).toInt ∧ (P f u).toInt ≤ 1638400) ∧
  ∃ F : Nat → Int, ∀ f u, f < m → (e (2 * f) = u ∨ e (2 * f + 1) = u) → ¬ P f u = 2147483647 → F (xoth e f u) ≤ F u + (P f u).toInt
theorem gI_bd (H : gH e m n P a) {co wy : Nat → Int32} (h : gI e m P a co wy) {v : Nat} (hv : v < 7) (hc : ¬ co v = 2147483647) : -9830400 ≤ (co v).toInt ∧ (co v).toInt ≤ 9830400 := by
  obtain ⟨h1, h2, h3, h4, h5, h6⟩ := H
  obtain ⟨p, p1, p2, p3, p4, p5, p6⟩ := h.1 v hv hc
  have hl := gp_len (fun f hf => ⟨(h4 f hf).1, (h4 f hf).2.1⟩) p1 p2 h3
  have hb := gc_abs (B := 1638400) h5 p a v p1 p3
  rw [p4]
  omega
theorem xoth_lt (H : gH e m n P a) {f u : Nat} (hf : f < m) : xoth e f u < 7 := by
  obtain ⟨h1, h2, h3, h4, h5, h6⟩ := H
  have := h4 f hf
  unfold xoth
  by_cases c : e (2 * f) = u
  · rw [if_pos c]; omega
  · rw [if_neg c]; omega
/-- one try: what holds goes on holding -/
theorem g_ext (H : gH e m n P a) {co wy : Nat → Int32} (h : gI e m P a co wy) {f u : Nat} (hf : f < m) (hu : e (2 * f) = u ∨ e (2 * f + 1) = u) :
    gI e m P a (xext co wy u f (xoth e f u) (P f u)).2.1 (xext co wy u f (xoth e f u) (P f u)).2.2 ∧ (∀ x, x < 7 → ((xext co wy u f (xoth e f u) (P f u)).2.1 x).toInt ≤ (co x).toInt) ∧
    (¬ P f u = 2147483647 → ¬ co u = 2147483647 → ((xext co wy u f (xoth e f u) (P f u)).2.1 (xoth e f u)).toInt ≤ (co u).toInt + (P f u).toInt) ∧ ((xext co wy u f (xoth e f u) (P f u)).1 = false → (xext co wy u f (xoth e f u) (P f u)).2.1 = co ∧ (xext co wy u f (xoth e f u) (P f u)).2.2 = wy) := by
  have hw7 := xoth_lt (u := u) H hf
  have hu7 : u < 7 := by
    have := H.2.2.2.1 f hf
    have := H.2.1
    rcases hu with q | q <;> omega
  have hMX : (2147483647 : Int32).toInt = 2147483647 := by decide
  by_cases hc : P f u = 2147483647 ∨ co u = 2147483647 ∨ ¬ co u + P f u < co (xoth e f u)
  · have e1 : xext co wy u f (xoth e f u) (P f u) = (false, co, wy) := by unfold xext; rw [if_pos hc]
    rw [e1]
    refine ⟨h, fun x _ => Int.le_refl _, fun n1 n2 => ?_, fun _ => ⟨rfl, rfl⟩⟩
    rcases hc with q | q | q
    · exact absurd q n1
    · exact absurd q n2
    · have b1 := gI_bd H h hu7 n2
      have b2 := H.2.2.2.2.1 f u hf n1
      rw [Int32.lt_iff_toInt_lt, i32_add (by omega) (by omega) (by omega) (by omega)] at q
      show (co (xoth e f u)).toInt ≤ _
      omega
  · have e1 : xext co wy u f (xoth e f u) (P f u) = (true, upd co (xoth e f u) (co u + P f u), upd wy (xoth e f u) (wy u ||| xbt f)) := by unfold xext; rw [if_neg hc]
    rw [e1]
    have n1 : ¬ P f u = 2147483647 := fun q => hc (Or.inl q)
    have n2 : ¬ co u = 2147483647 := fun q => hc (Or.inr (Or.inl q))
    have n3 : co u + P f u < co (xoth e f u) := Classical.not_not.mp (fun q => hc (Or.inr (Or.inr q)))
    have b1 := gI_bd H h hu7 n2
    have b2 := H.2.2.2.2.1 f u hf n1
    have es : (co u + P f u).toInt = (co u).toInt + (P f u).toInt := i32_add (by omega) (by omega) (by omega) (by omega)
    rw [Int32.lt_iff_toInt_lt, es] at n3
    have us : upd co (xoth e f u) (co u + P f u) (xoth e f u) = co u + P f u := if_pos rfl
    have un : ∀ x, ¬ x = xoth e f u → upd co (xoth e f u) (co u + P f u) x = co x := fun x hx => if_neg hx
    have ws : upd wy (xoth e f u) (wy u ||| xbt f) (xoth e f u) = wy u ||| xbt f := if_pos rfl
    have wn : ∀ x, ¬ x = xoth e f u → upd wy (xoth e f u) (wy u ||| xbt f) x = wy x := fun x hx => if_neg hx
    have mono : ∀ x, (upd co (xoth e f u) (co u + P f u) x).toInt ≤ (co x).toInt := by
      intro x
      by_cases c : x = xoth e f u
      · rw [c, us, es]; omega
      · rw [un x c]; exact Int.le_refl _
    obtain ⟨p, p1, p2, p3, p4, p5, p6⟩ := h.1 u hu7 n2
    have hnot : ¬ xoth e f u ∈ gv e a p := by
      intro hin
      obtain ⟨q1, q2, r1, r2, r3, r4, r5⟩ := gw_cut p a u _ p1 hin
      have s1 := p6 q1 q2 _ r1 r2
      obtain ⟨F, hF⟩ := H.2.2.2.2.2
      rw [r1] at p3 p4
      have s2 := ((go_app q1 q2 a _ r2).mp p3).2
      rw [gc_app q1 q2 a _ r2] at p4
      have s3 := gc_pot hF q2 _ u r3 s2
      have s4 := hF f u hf hu n1
      omega
    refine ⟨⟨?_, ?_, ?_⟩, fun x _ => mono x, fun _ _ => ?_, fun q => by cases q⟩
    · intro v hv hvc
      show ∃ p, gw e m gT a p v ∧ (gv e a p).Nodup ∧ go e P a p ∧ (upd co (xoth e f u) (co u + P f u) v).toInt = gc e P a p ∧ upd wy (xoth e f u) (wy u ||| xbt f) v = gm p ∧ ∀ p1 p2 x, p = p1 ++ p2 → gw e m gT a p1 x → (upd co (xoth e f u) (co u + P f u) x).toInt ≤ gc e P a p1
      have hvc : ¬ upd co (xoth e f u) (co u + P f u) v = 2147483647 := hvc
      by_cases c : v = xoth e f u
      · subst c
        refine ⟨p ++ [f], gw_app p [f] a u _ p1 ⟨hf, rfl, hu, rfl⟩, ?_, (go_app p [f] a u p1).mpr ⟨p3, n1, trivial⟩, ?_, ?_, ?_⟩
        · rw [gv_app1 p f a u p1, List.nodup_append]
          exact ⟨p2, List.nodup_cons.mpr ⟨List.not_mem_nil, List.nodup_nil⟩, fun x hx y hy hxy => by rw [List.mem_singleton.mp hy] at hxy; exact hnot (hxy ▸ hx)⟩
        · rw [us, es, gc_app p [f] a u p1, p4]
          show _ = gc e P a p + ((P f u).toInt + 0)
          omega
        · rw [ws, p5]
          have : ∀ q : List Nat, gm q ||| xbt f = gm (q ++ [f]) := by
            intro q
            induction q with
            | nil =>
              show 0 ||| xbt f = xbt f ||| 0
              exact Int32.or_comm _ _
            | cons g q ih =>
              show (xbt g ||| gm q) ||| xbt f = xbt g ||| gm (q ++ [f])
              rw [Int32.or_assoc, ih]
          exact this p
        · intro q1 q2 x hq hx
          by_cases c2 : q2 = []
          · rw [c2, List.append_nil] at hq
            subst hq
            have hxe : x = xoth e f u := by
              have g1 := gw_app p [f] a u _ p1 (show gw e m gT u [f] (xoth e f u) from ⟨hf, rfl, hu, rfl⟩)
              have uniq : ∀ (p : List Nat) (u x y : Nat), gw e m gT u p x → gw e m gT u p y → x = y := by
                intro p
                induction p with
                | nil => intro u x y h1 h2; exact (show u = x from h1).symm.trans h2
                | cons g p ih => intro u x y h1 h2; exact ih _ x y h1.2.2.2 h2.2.2.2
              exact uniq _ _ _ _ hx g1
            subst hxe
            rw [us, es, gc_app p [f] a u p1, p4]
            show _ ≤ gc e P a p + ((P f u).toInt + 0)
            omega
          · obtain ⟨q3, hq3⟩ : ∃ q3, p = q1 ++ q3 := by
              have := List.append_eq_append_iff.mp hq
              rcases this with ⟨z, z1, z2⟩ | ⟨z, z1, z2⟩
              · cases z with
                | nil => exact ⟨[], by rw [List.append_nil] at z1 ⊢; exact z1.symm⟩
                | cons y z =>
                  exfalso
                  have : ([f] : List Nat).length = (y :: z ++ q2).length := by rw [z2]
                  simp only [List.length_append, List.length_cons, List.length_nil] at this
                  have : q2.length = 0 := by omega
                  exact c2 (List.length_eq_zero_iff.mp this)
              · exact ⟨z, z1⟩
            have := p6 q1 q3 x hq3 hx
            have := mono x
            omega
      · rw [un v c] at hvc
        obtain ⟨q, q1, q2, q3, q4, q5, q6⟩ := h.1 v hv hvc
        exact ⟨q, q1, q2, q3, by rw [un v c]; exact q4, by rw [wn v c]; exact q5, fun r1 r2 x r3 r4 => by have := q6 r1 r2 x r3 r4; have := mono x; omega⟩
    · intro v hv hvc
      have hvc : upd co (xoth e f u) (co u + P f u) v = 2147483647 := hvc
      by_cases c : v = xoth e f u
      · exfalso
        rw [c, us] at hvc
        rw [hvc, hMX] at es
        omega
      · show upd wy (xoth e f u) (wy u ||| xbt f) v = 0
        rw [un v c] at hvc
        rw [wn v c]
        exact h.2.1 v hv hvc
    · have := mono a
      have := h.2.2
      show (upd co (xoth e f u) (co u + P f u) a).toInt ≤ 0
      omega
    · show (upd co (xoth e f u) (co u + P f u) (xoth e f u)).toInt ≤ _
      rw [us, es]
      exact Int.le_refl _
end GB
