/-! 62.rel: the class's state against the model's. Pure. -/
section XRL
variable {Mc : Int32} {Mn : Nat} {Mm : Nat} {Mh : Int32} {Mp : Nat} {Mfw : Int32} {Mfs : Int32} {Me : Nat → Nat} {Ml : Nat → Nat} {Mbr : Nat → Bool} {Mlk : Nat → Bool} {Mt : Nat → Bool} {Mg : Nat → Bool} {Ma : Nat → Nat} {Mb : Nat → Nat} {Mw : Nat → Nat} {Mwk : Nat → Int32} {Msp : Nat → Int32} {Mon : Nat → Int32} {Mct : Nat → Int32} {MS : Nat → Int32} {MZ : Nat → Int32} {MA : Nat → Nat} {MN : Nat → Nat}
/-- a connection of the model, as the class holds it -/
def xkm (g : Bool) (a b w : Nat) (wk sp on ct : Int32) : xcn := (true, g, nI a, nI b, nI w, wk, sp, on, ct)
/-- the sets of fibres, and the connections that are there -/
def xRel (cut lk : Int32) (K : Nat → xcn) (Mm : Nat) (Mbr Mlk Mt Mg : Nat → Bool) (Ma Mb Mw : Nat → Nat) (Mwk Msp Mon Mct : Nat → Int32) : Prop :=
  (∀ f, f < 32 → xb cut f = (decide (f < Mm) && Mbr f)) ∧ (∀ f, f < 32 → xb lk f = (decide (f < Mm) && Mlk f)) ∧ (∀ c, c < 12 → (K c).1 = Mt c) ∧ (∀ c, c < 12 → Mt c = true → K c = xkm (Mg c) (Ma c) (Mb c) (Mw c) (Mwk c) (Msp c) (Mon c) (Mct c))
/-- what holds of the model's state -/
def xIn (Mn Mm : Nat) (Mh : Int32) (Me Ml : Nat → Nat) (Mt Mg : Nat → Bool) (Ma Mb Mw : Nat → Nat) (Mwk Msp Mon Mct : Nat → Int32) : Prop :=
  gG Me Ml Mm Mn ∧ 2 ≤ Mn ∧ (∀ j, Me j < 7) ∧ ∀ c, c < 12 → Mt c = true → Ma c < Mn ∧ Mb c < Mn ∧ ¬ Ma c = Mb c ∧ Mw c < 4 ∧ (∃ P, gp Me Mm gT (Ma c) (Mb c) P ∧ Mwk c = gm P) ∧ (Mg c = true → ∃ P, gp Me Mm gT (Ma c) (Mb c) P ∧ Msp c = gm P) ∧ (Mg c = false → Msp c = 0)
variable {cut lk : Int32} {K : Nat → xcn}
theorem r_low (hm : Mm ≤ 14) {br : Nat → Bool} {x : Int32} (h : ∀ f, f < 32 → xb x f = (decide (f < Mm) && br f)) : xlow Mm x := fun f h1 h2 => by
  rw [h f h2, decide_eq_false (by omega)]
  rfl
theorem xfre_b (w : Nat) : ∀ k, k ≤ 32 → ∀ f, f < 32 → xb (xfre Mbr Mlk Mt Mw Mwk Msp w k) f = (decide (f < k) && (!Mbr f && !Mlk f && (xusr Mt Mw Mwk Msp f w).isNone)) := by
  intro k
  induction k with
  | zero => intro _ f hf; show xb 0 f = _; rw [xb_0]; simp
  | succ k ih =>
    intro hk f hf
    have key : decide (f < k + 1) = (decide (f < k) || decide (f = k)) := by
      by_cases c : f < k
      · rw [decide_eq_true c, decide_eq_true (show f < k + 1 by omega)]; rfl
      · by_cases c2 : f = k
        · rw [decide_eq_true c2, decide_eq_true (show f < k + 1 by omega), Bool.or_true]
        · rw [decide_eq_false c, decide_eq_false c2, decide_eq_false (show ¬ f < k + 1 by omega)]; rfl
    unfold xfre
    rw [key]
    by_cases c : Mbr k = false ∧ Mlk k = false ∧ xusr Mt Mw Mwk Msp k w = none
    · rw [if_pos c, xb_or _ _ hf, ih (by omega) f hf, xb_bt hf (by omega)]
      by_cases c2 : f = k
      · subst c2
        rw [decide_eq_true rfl, c.1, c.2.1, c.2.2]
        simp
      · rw [decide_eq_false c2]
        simp
    · rw [if_neg c, ih (by omega) f hf]
      by_cases c2 : f = k
      · subst c2
        rw [decide_eq_true rfl, decide_eq_false (Nat.lt_irrefl f)]
        cases h1 : Mbr f <;> cases h2 : Mlk f <;> cases h3 : xusr Mt Mw Mwk Msp f w <;> simp
        exact c ⟨h1, h2, h3⟩
      · rw [decide_eq_false c2]
        simp
theorem xfst_isNone {p : Nat → Bool} : ∀ k i, (xfst p k i).isNone = true ↔ ∀ j, i ≤ j → j < i + k → p j = false := by
  intro k i
  cases hx : xfst p k i with
  | none => exact ⟨fun _ => xfst_none k i hx, fun _ => rfl⟩
  | some f =>
    obtain ⟨h1, h2, h3, _⟩ := xfst_spec _ _ _ hx
    refine ⟨fun q => (by cases q), fun q => ?_⟩
    rw [q f h1 h2] at h3
    cases h3
/-- the class's free fibres are the model's -/
theorem r_free (hm : Mm ≤ 14) (hw : ∀ c, c < 12 → Mt c = true → Mw c < 4) (R : xRel cut lk K Mm Mbr Mlk Mt Mg Ma Mb Mw Mwk Msp Mon Mct) {w : Nat} : (xbt Mm - 1) &&& (xbrd cut lk K (nI w) 12 ^^^ (-1)) = xfre Mbr Mlk Mt Mw Mwk Msp w Mm := by
  obtain ⟨r1, r2, r3, r4⟩ := R
  refine xb_ext (fun f hf => ?_)
  rw [xfre_b w Mm (by omega) f hf, xb_and _ _ hf, xall_bits Mm hm f hf, xb_not _ hf]
  by_cases c : f < Mm
  · rw [decide_eq_true c, Bool.true_and, Bool.true_and]
    have bar : ∀ k, k ≤ 12 → xb (xbrd cut lk K (nI w) k) f = (Mbr f || Mlk f || !(xfst (xus Mt Mw Mwk Msp f w) k 0).isNone) := by
      intro k
      induction k with
      | zero =>
        intro _
        show xb (cut ||| lk) f = _
        rw [xb_or _ _ hf, r1 f hf, r2 f hf, decide_eq_true c]
        show _ = (Mbr f || Mlk f || !(none : Option Nat).isNone)
        simp
      | succ k ih =>
        intro hk
        show xb (xbrd cut lk K (nI w) k ||| xud (K k) (nI w)) f = _
        rw [xb_or _ _ hf, ih (by omega)]
        have hu : xb (xud (K k) (nI w)) f = xus Mt Mw Mwk Msp f w k := by
          unfold xud xus
          by_cases ct : Mt k = true
          · rw [r4 k (by omega) ct]
            unfold xkm
            by_cases cw : nI (Mw k) = nI w
            · rw [if_pos ⟨rfl, cw⟩, ct, decide_eq_true cw]
              rfl
            · rw [if_neg (fun q => cw q.2), xb_0, decide_eq_false cw]
              simp
          · rw [if_neg (fun q => ct (by rw [← r3 k (by omega)]; exact q.1)), xb_0, show Mt k = false by simpa using ct]
            rfl
        rw [hu]
        have split : (!(xfst (xus Mt Mw Mwk Msp f w) (k + 1) 0).isNone) = ((!(xfst (xus Mt Mw Mwk Msp f w) k 0).isNone) || xus Mt Mw Mwk Msp f w k) := by
          cases h1 : (xfst (xus Mt Mw Mwk Msp f w) (k + 1) 0).isNone with
          | true =>
            have q := (xfst_isNone (k + 1) 0).mp h1
            rw [(xfst_isNone k 0).mpr (fun j a b => q j a (by omega)), q k (by omega) (by omega)]
            rfl
          | false =>
            cases h2 : (xfst (xus Mt Mw Mwk Msp f w) k 0).isNone with
            | false => rfl
            | true =>
              cases h3 : xus Mt Mw Mwk Msp f w k with
              | true => rfl
              | false =>
                exfalso
                have q := (xfst_isNone k 0).mp h2
                rw [(xfst_isNone (k + 1) 0).mpr (fun j a b => by
                  by_cases z : j = k
                  · rw [z]; exact h3
                  · exact q j a (by omega))] at h1
                cases h1
        rw [split]
        cases Mbr f <;> cases Mlk f <;> cases (!(xfst (xus Mt Mw Mwk Msp f w) k 0).isNone) <;> rfl
    rw [bar 12 (by omega)]
    show (!(Mbr f || Mlk f || !(xusr Mt Mw Mwk Msp f w).isNone)) = _
    cases Mbr f <;> cases Mlk f <;> cases (xusr Mt Mw Mwk Msp f w).isNone <;> rfl
  · rw [decide_eq_false c]
    rfl
/-- a path is whole for both at once -/
theorem r_whole (hm : Mm ≤ 14) {br : Nat → Bool} {c : Int32} (hc : ∀ f, f < 32 → xb c f = (decide (f < Mm) && br f)) {s : Int32} (hs : xlow Mm s) : ∀ k, k ≤ Mm → (xwo br s k = true ↔ (¬ s = 0 ∧ ∀ f, f < k → ¬ (xb s f = true ∧ br f = true))) := by
  intro k
  induction k with
  | zero => intro _; show decide (¬ s = 0) = true ↔ _; rw [decide_eq_true_iff]; exact ⟨fun q => ⟨q, fun f hf => by omega⟩, fun q => q.1⟩
  | succ k ih =>
    intro hk
    unfold xwo
    rw [Bool.and_eq_true, ih (by omega)]
    constructor
    · rintro ⟨⟨h1, h2⟩, h3⟩
      refine ⟨h1, fun f hf q => ?_⟩
      by_cases z : f = k
      · rw [z] at q; rw [q.1, q.2] at h3; cases h3
      · exact h2 f (by omega) q
    · rintro ⟨h1, h2⟩
      refine ⟨⟨h1, fun f hf => h2 f (by omega)⟩, ?_⟩
      have := h2 k (by omega)
      cases a1 : xb s k <;> cases a2 : br k
      · rfl
      · rfl
      · rfl
      · exact absurd ⟨a1, a2⟩ this
theorem r_wh (hm : Mm ≤ 14) {br : Nat → Bool} {c : Int32} (hc : ∀ f, f < 32 → xb c f = (decide (f < Mm) && br f)) {s : Int32} (hs : xlow Mm s) : xwh s c = true ↔ ∀ f, f < Mm → ¬ (xb s f = true ∧ br f = true) := by
  unfold xwh
  rw [decide_eq_true_iff]
  constructor
  · intro h f hf q
    have : xb (s &&& c) f = true := by rw [xb_and _ _ (by omega), hc f (by omega), decide_eq_true hf, q.1, q.2]; rfl
    exact xb_ne this h
  · intro h
    refine xb_ext (fun f hf => ?_)
    rw [xb_and _ _ hf, xb_0, hc f hf]
    by_cases z : f < Mm
    · have := h f z
      rw [decide_eq_true z]
      cases a1 : xb s f <;> cases a2 : br f
      · rfl
      · rfl
      · rfl
      · exact absurd ⟨a1, a2⟩ this
    · rw [decide_eq_false z]
      simp
theorem r_wo (hm : Mm ≤ 14) {br : Nat → Bool} {c : Int32} (hc : ∀ f, f < 32 → xb c f = (decide (f < Mm) && br f)) {s : Int32} (hs : xlow Mm s) (hne : ¬ s = 0) : xwo br s Mm = xwh s c := by
  have h1 := r_whole hm hc hs Mm (Nat.le_refl _)
  have h2 := r_wh hm hc hs
  cases a1 : xwo br s Mm <;> cases a2 : xwh s c
  · rfl
  · have := h2.mp a2; rw [h1.mpr ⟨hne, this⟩] at a1; cases a1
  · have := h1.mp a1; rw [h2.mpr this.2] at a2; cases a2
  · rfl
/-- the class's change is the model's -/
theorem r_co {on ct hd : Int32} {g : Bool} {wk sp : Int32} {br : Nat → Bool} {c : Int32} {m : Nat} (w1 : xwo br wk m = xwh wk c) (w2 : xwo br sp m = (g && xwh sp c)) : xco g wk sp on ct c hd = xse (xwo br wk m) (xwo br sp m) on ct hd := by
  unfold xco xse
  rw [w1, w2]
  cases h1 : xwh wk c
  · simp
  · rw [if_neg (by decide), if_pos rfl, if_pos rfl]
    by_cases c0 : on = 0
    · rw [if_pos c0, if_neg (fun q => q.1 c0), c0]
    · rw [if_neg c0]
      cases h2 : (g && xwh sp c)
      · rw [if_pos (Or.inr rfl), if_neg (fun q => by cases q.2.2)]
      · by_cases c1 : hd ≤ ct
        · rw [if_pos (Or.inl c1), if_neg (fun q => q.2.1 c1)]
        · rw [if_neg (fun q => by rcases q with q | q; exact c1 q; cases q), if_pos ⟨c0, c1, rfl⟩]
/-- the model's wholeness of a connection's paths, by the class's sets -/
theorem r_paths {hd : Int32} (I : xIn Mn Mm hd Me Ml Mt Mg Ma Mb Mw Mwk Msp Mon Mct) {br : Nat → Bool} {c : Int32} (hc : ∀ f, f < 32 → xb c f = (decide (f < Mm) && br f)) {j : Nat} (hj : j < 12) (ht : Mt j = true) : xwo br (Mwk j) Mm = xwh (Mwk j) c ∧ xwo br (Msp j) Mm = (Mg j && xwh (Msp j) c) := by
  obtain ⟨G, -, -, I⟩ := I
  obtain ⟨h1, h2, h3, h4, ⟨P, hP, eP⟩, h6, h7⟩ := I j hj ht
  refine ⟨?_, ?_⟩
  · rw [eP]
    exact r_wo G.1 hc (gm_plow G hP.1) (gm_pne G h3 hP.1)
  · cases hg : Mg j with
    | true =>
      obtain ⟨P2, hP2, eP2⟩ := h6 hg
      rw [eP2, Bool.true_and]
      exact r_wo G.1 hc (gm_plow G hP2.1) (gm_pne G h3 hP2.1)
    | false =>
      rw [h7 hg, Bool.false_and]
      cases h : xwo br 0 Mm with
      | false => rfl
      | true => exact absurd rfl ((r_whole G.1 hc (xlow_0 Mm) Mm (Nat.le_refl _)).mp h).1
/-- after a change of the fibres or of the hold time -/
theorem r_change {hd : Int32} (I : xIn Mn Mm hd Me Ml Mt Mg Ma Mb Mw Mwk Msp Mon Mct) (R : xRel cut lk K Mm Mbr Mlk Mt Mg Ma Mb Mw Mwk Msp Mon Mct) : xRel cut lk (xmp (xcoK cut hd) K 12) Mm Mbr Mlk Mt Mg Ma Mb Mw Mwk Msp (xmix Mt (fun c => (xseF Mm hd Mbr Mwk Msp Mon Mct c).1) Mon 12) (xmix Mt (fun c => (xseF Mm hd Mbr Mwk Msp Mon Mct c).2) Mct 12) := by
  have R0 := R
  obtain ⟨r1, r2, r3, r4⟩ := R
  refine ⟨r1, r2, fun c hc => ?_, fun c hc ht => ?_⟩
  · rw [← r3 c hc]
    show (if c < 12 then xcoK cut hd (K c) else K c).1 = _
    rw [if_pos hc]
    unfold xcoK
    by_cases z : (K c).1 = true
    · rw [if_pos z]
    · rw [if_neg z]
  · show (if c < 12 then xcoK cut hd (K c) else K c) = _
    rw [if_pos hc, r4 c hc ht]
    obtain ⟨p1, p2⟩ := r_paths I r1 hc ht
    have e1 := r_co (on := Mon c) (ct := Mct c) (hd := hd) p1 p2
    show xcoK cut hd (true, Mg c, nI (Ma c), nI (Mb c), nI (Mw c), Mwk c, Msp c, Mon c, Mct c) = _
    unfold xcoK
    rw [if_pos rfl]
    simp only
    rw [e1]
    show _ = xkm (Mg c) (Ma c) (Mb c) (Mw c) (Mwk c) (Msp c) (if c < 12 ∧ Mt c = true then (xseF Mm hd Mbr Mwk Msp Mon Mct c).1 else Mon c) (if c < 12 ∧ Mt c = true then (xseF Mm hd Mbr Mwk Msp Mon Mct c).2 else Mct c)
    rw [if_pos ⟨hc, ht⟩, if_pos ⟨hc, ht⟩]
    rfl
theorem i_change {hd hd' : Int32} {on ct : Nat → Int32} (I : xIn Mn Mm hd Me Ml Mt Mg Ma Mb Mw Mwk Msp Mon Mct) : xIn Mn Mm hd' Me Ml Mt Mg Ma Mb Mw Mwk Msp on ct := I
end XRL
