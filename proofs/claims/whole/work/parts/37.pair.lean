/-! 37.pair: the model's findPair. -/
section XM7
variable {xs : Nat → Int32} {LS d : Nat} {ks : Nat} {fl : Bool} {h : List va_E} {Q : (Option Value ⊕ Nat) → xm_S → Prop}
variable {Mc : Int32} {Mn : Nat} {Mm : Nat} {Mh : Int32} {Mp : Nat} {Mfw : Int32} {Mfs : Int32} {Me : Nat → Nat} {Ml : Nat → Nat} {Mbr : Nat → Bool} {Mlk : Nat → Bool} {Mt : Nat → Bool} {Mg : Nat → Bool} {Ma : Nat → Nat} {Mb : Nat → Nat} {Mw : Nat → Nat} {Mwk : Nat → Int32} {Msp : Nat → Int32} {Mon : Nat → Int32} {Mct : Nat → Int32} {MS : Nat → Int32} {MZ : Nat → Int32} {MA : Nat → Nat} {MN : Nat → Nat}
/-- the best pair so far, its length: p with the paths before it -/
def xq1 (S Z : Nat → Int32) (p : Nat) : Nat → Int32 × Int32 → Int32 × Int32
  | 0, z => z
  | q + 1, z => if S p &&& S q = 0 ∧ (Z p + Z q < (xq1 S Z p q z).2 ∨ (Z p + Z q = (xq1 S Z p q z).2 ∧ xbef (S p ||| S q) (xq1 S Z p q z).1 = true)) then (S p ||| S q, Z p + Z q) else xq1 S Z p q z
def xq2 (S Z : Nat → Int32) : Nat → Int32 × Int32
  | 0 => (0, 100000)
  | p + 1 => xq1 S Z p p (xq2 S Z p)
/-- p and q part the set, and p is the lesser -/
def xpt (S Z : Nat → Int32) (both : Int32) (p q : Nat) : Prop := (¬ p = q ∧ S p &&& S q = 0 ∧ S p ||| S q = both) ∧ xls S Z p q = true
def xq3 (S Z : Nat → Int32) (both : Int32) (p : Nat) : Nat → Option Nat → Option Nat
  | 0, z => z
  | q + 1, z => match xq3 S Z both p q z with
    | none => if ((¬ p = q ∧ S p &&& S q = 0 ∧ S p ||| S q = both) ∧ xls S Z p q = true) then some p else none
    | some b => if ((¬ p = q ∧ S p &&& S q = 0 ∧ S p ||| S q = both) ∧ xls S Z p q = true) ∧ xls S Z p b = true then some p else some b
def xq4 (S Z : Nat → Int32) (both : Int32) (P : Nat) : Nat → Option Nat
  | 0 => none
  | p + 1 => xq3 S Z both p P (xq4 S Z both P p)
theorem xq3_lt (S Z : Nat → Int32) (both : Int32) (p : Nat) {B : Nat} (hp : p < B) {z : Option Nat} (hz : ∀ i, z = some i → i < B) : ∀ q i, xq3 S Z both p q z = some i → i < B := by
  intro q
  induction q with
  | zero => intro i hi; exact hz i hi
  | succ q ih =>
    intro i hi
    unfold xq3 at hi
    cases hx : xq3 S Z both p q z with
    | none =>
      rw [hx] at hi
      simp only at hi
      by_cases c : (¬ p = q ∧ S p &&& S q = 0 ∧ S p ||| S q = both) ∧ xls S Z p q = true
      · rw [if_pos c] at hi; cases hi; exact hp
      · rw [if_neg c] at hi; cases hi
    | some b =>
      rw [hx] at hi
      simp only at hi
      by_cases c : ((¬ p = q ∧ S p &&& S q = 0 ∧ S p ||| S q = both) ∧ xls S Z p q = true) ∧ xls S Z p b = true
      · rw [if_pos c] at hi; cases hi; exact hp
      · rw [if_neg c] at hi; cases hi; exact ih _ hx
theorem xq4_lt (S Z : Nat → Int32) (both : Int32) (P : Nat) : ∀ p i, xq4 S Z both P p = some i → i < p := by
  intro p
  induction p with
  | zero => intro i hi; cases hi
  | succ p ih =>
    intro i hi
    exact xq3_lt S Z both p (B := p + 1) (by omega) (fun j hj => by have := ih j hj; omega) P i hi
theorem c_M_findPair {s : Int32} {a b : Nat} (hm : Mm ≤ 14) (hE : ∀ j, Me j < 7) (ha : a < 7) (hb : b < 7) (hA : ∀ j, MA j < 7) (hN : ∀ j, MN j < 100) (hlen : (xPL Me Mm s a b).length ≤ 4000) (hM : xMd h Mc Mn Mm Mh Mp Mfw Mfs Me Ml Mbr Mlk Mt Mg Ma Mb Mw Mwk Msp Mon Mct MS MZ MA MN)
    (hbest : ∀ S Z, xSZ Ml Mm (xPL Me Mm s a b) S Z → ¬ (xq2 S Z (xPL Me Mm s a b).length).1 = 0 → ∃ i, xq4 S Z (xq2 S Z (xPL Me Mm s a b).length).1 (xPL Me Mm s a b).length (xPL Me Mm s a b).length = some i)
    (k0 : ∀ h' fl' S Z A N, xMd h' Mc Mn Mm Mh (xPL Me Mm s a b).length Mfw Mfs Me Ml Mbr Mlk Mt Mg Ma Mb Mw Mwk Msp Mon Mct S Z A N → xS h h' 22 40 → xSZ Ml Mm (xPL Me Mm s a b) S Z → (∀ j, A j < 7) → (∀ j, N j < 100) → (xq2 S Z (xPL Me Mm s a b).length).1 = 0 → Q (.inl (some (.int 0))) (h', ks, fl'))
    (k1 : ∀ h' fl' S Z A N i, xMd h' Mc Mn Mm Mh (xPL Me Mm s a b).length (S i) ((xq2 S Z (xPL Me Mm s a b).length).1 &&& (S i ^^^ (-1))) Me Ml Mbr Mlk Mt Mg Ma Mb Mw Mwk Msp Mon Mct S Z A N → xS h h' 22 40 → xSZ Ml Mm (xPL Me Mm s a b) S Z → (∀ j, A j < 7) → (∀ j, N j < 100) → ¬ (xq2 S Z (xPL Me Mm s a b).length).1 = 0 → xq4 S Z (xq2 S Z (xPL Me Mm s a b).length).1 (xPL Me Mm s a b).length (xPL Me Mm s a b).length = some i → Q (.inl (some (.int 1))) (h', ks, fl')) :
    xG xs LS (d + 3) 79 (0, xm_entry xP 79 [.ref 22, .int s, .int (nI a), .int (nI b)], []) (h, ks, fl) Q := by
  show xG xs LS (d + 3) 79 (0, [some (.ref 22), some (.int s), some (.int (nI a)), some (.int (nI b)), none, none, none, none, none, none, none], []) (h, ks, fl) Q
  obtain ⟨g22, g23, g24, g25, g26, g27, g28, g29, g30, g31, g32, g33, g34, g35, g36, g37, g38, g39⟩ := id hM
  refine xg_aload_n xa_M_findPair_0 rfl ?_
  refine xg_iload_n xa_M_findPair_1 rfl ?_
  refine xg_iload_n xa_M_findPair_2 rfl ?_
  refine xg_iload_n xa_M_findPair_3 rfl ?_
  refine xg_callV0 xa_M_findPair_4 ⟨Nat.le_of_ble_eq_true rfl, Nat.le_of_ble_eq_true rfl, rfl⟩ rfl rfl (by assumption) ?_
  refine c_M_list hm hE ha hb hA hN hlen hM (fun h' fl' S Z A N hM' hS' hSZ hA' hN' => xK0_d ?_)
  clear g22 g23 g24 g25 g26 g27 g28 g29 g30 g31 g32 g33 g34 g35 g36 g37 g38 g39
  obtain ⟨g22, g23, g24, g25, g26, g27, g28, g29, g30, g31, g32, g33, g34, g35, g36, g37, g38, g39⟩ := id hM'
  have k0 := fun fl' => k0 h' fl' S Z A N hM' hS' hSZ hA' hN'
  have k1 := fun h2 fl' i => k1 h2 fl' S Z A N i
  have hbest := hbest S Z hSZ
  generalize (xPL Me Mm s a b).length = P at *
  clear hM
  -- the second search
  have second : ∀ both fl' j5 j6 j7 j8, both = (xq2 S Z P).1 → ¬ both = 0 → xG xs LS (d + 3) 79 (148, [some (.ref 22), some (.int s), some (.int (nI a)), some (.int (nI b)), some (.int both), j5, j6, j7, j8, none, none], []) (h', ks, fl') Q := by
    intro both fl' j5 j6 j7 j8 hbo hbn
    rw [← hbo] at k1 hbest
    have fin : ∀ fl' j8 j9 j10 p, p = P → xG xs LS (d + 3) 79 (373, [some (.ref 22), some (.int s), some (.int (nI a)), some (.int (nI b)), some (.int both), j5, some (.int (xo (xq4 S Z both P p))), some (.int (nI p)), j8, j9, j10], []) (h', ks, fl') Q := by
      intro fl' j8 j9 j10 p hp
      subst hp
      obtain ⟨i, hi⟩ := hbest hbn
      have hil := xq4_lt S Z both p p i hi
      have hi4 : i < 4000 := by omega
      rw [hi]
      show xG xs LS (d + 3) 79 (373, [some (.ref 22), some (.int s), some (.int (nI a)), some (.int (nI b)), some (.int both), j5, some (.int (nI i)), some (.int (nI p)), j8, j9, j10], []) (h', ks, fl') Q
      refine xg_aload_n xa_M_findPair_373 rfl ?_
      refine xg_aload_n xa_M_findPair_374 rfl ?_
      refine xg_getfield xa_M_findPair_375 (by assumption) rfl ?_
      refine xg_iload xa_M_findPair_378 rfl ?_
      refine xg_iald_n xa_M_findPair_380 (by assumption) rfl (by assumption) (by decide) ?_
      refine xg_putf (fs' := [_, _, _, _, _, _, _, _, _, _, _, _, _, _, _, _, _, _, _, _, _, _, _, _]) xa_M_findPair_381 (by assumption) (Nat.le_of_ble_eq_true rfl) rfl rfl (fun h381 u381 => ?_)
      have hM2 := xMd_o (Mfw' := S i) hM' u381
      obtain ⟨g22, g23, g24, g25, g26, g27, g28, g29, g30, g31, g32, g33, g34, g35, g36, g37, g38, g39⟩ := id hM2
      refine xg_aload_n xa_M_findPair_384 rfl ?_
      refine xg_iload xa_M_findPair_385 rfl ?_
      refine xg_aload_n xa_M_findPair_387 rfl ?_
      refine xg_getfield xa_M_findPair_388 (by assumption) rfl ?_
      refine xg_iload xa_M_findPair_391 rfl ?_
      refine xg_iald_n xa_M_findPair_393 (by assumption) rfl (by assumption) (by decide) ?_
      refine xg_iconst (v := (-1)) xa_M_findPair_394 (by decide) ?_
      refine xg_ixor xa_M_findPair_395 rfl ?_
      refine xg_iand xa_M_findPair_396 rfl ?_
      refine xg_putf (fs' := [_, _, _, _, _, _, _, _, _, _, _, _, _, _, _, _, _, _, _, _, _, _, _, _]) xa_M_findPair_397 (by assumption) (Nat.le_of_ble_eq_true rfl) rfl rfl (fun h397 u397 => ?_)
      have hM3 := xMd_o (Mfs' := both &&& (S i ^^^ (-1))) hM2 u397
      refine xg_iconst (v := 1) xa_M_findPair_400 (by decide) ?_
      exact xg_zreturn xa_M_findPair_401 (Or.inr rfl) (k1 h397 _ i hM3 ((hS'.tr (u381.toS (by decide) (by decide))).tr (u397.toS (by decide) (by decide))) hSZ hA' hN' hbn hi)
    have inner : ∀ n p q fl' j9 j10 (Q' : (Option Value ⊕ Nat) → xm_S → Prop) z, p < P → q + n = P → (∀ i, z = some i → i < p) →
        (∀ fl' j9 j10, xG xs LS (d + 3) 79 (367, [some (.ref 22), some (.int s), some (.int (nI a)), some (.int (nI b)), some (.int both), j5, some (.int (xo (xq3 S Z both p P z))), some (.int (nI p)), some (.int (nI P)), j9, j10], []) (h', ks, fl') Q') →
        xG xs LS (d + 3) 79 (166, [some (.ref 22), some (.int s), some (.int (nI a)), some (.int (nI b)), some (.int both), j5, some (.int (xo (xq3 S Z both p q z))), some (.int (nI p)), some (.int (nI q)), j9, j10], []) (h', ks, fl') Q' := by
      intro n
      induction n with
      | zero =>
        intro p q fl' j9 j10 Q' z hp hq hz kk
        have e : q = P := by omega
        subst e
        refine xg_iload xa_M_findPair_166 rfl ?_
        refine xg_aload_n xa_M_findPair_168 rfl ?_
        refine xg_getfield xa_M_findPair_169 (by assumption) rfl ?_
        refine xg_icmp_ge xa_M_findPair_172 (fun _ => kk _ _ _) (fun c => absurd (nI_le (by omega) (by omega)) c)
      | succ n ih =>
        intro p q fl' j9 j10 Q' z hp hq hz kk
        have hp4 : p < 4000 := by omega
        have hq4 : q < 4000 := by omega
        have ex : xq3 S Z both p (q + 1) z = match xq3 S Z both p q z with
          | none => if ((¬ p = q ∧ S p &&& S q = 0 ∧ S p ||| S q = both) ∧ xls S Z p q = true) then some p else none
          | some b => if ((¬ p = q ∧ S p &&& S q = 0 ∧ S p ||| S q = both) ∧ xls S Z p q = true) ∧ xls S Z p b = true then some p else some b := rfl
        have hlt := xq3_lt S Z both p (B := p + 1) (by omega) (fun i hi => by have := hz i hi; omega) (z := z) q
        have next : ∀ v fl' j9 j10, v = xq3 S Z both p (q + 1) z → xG xs LS (d + 3) 79 (361, [some (.ref 22), some (.int s), some (.int (nI a)), some (.int (nI b)), some (.int both), j5, some (.int (xo v)), some (.int (nI p)), some (.int (nI q)), j9, j10], []) (h', ks, fl') Q' := by
          intro v fl' j9 j10 e
          subst e
          refine xg_iinc (L' := [_, _, _, _, _, _, _, _, _, _, _]) xa_M_findPair_361 rfl (xi_inc _) rfl ?_
          refine xg_goto xa_M_findPair_364 ?_
          exact ih p (q + 1) _ _ _ Q' z hp (by omega) hz kk
        have take : ∀ v fl' j9 j10, some p = xq3 S Z both p (q + 1) z → xG xs LS (d + 3) 79 (357, [some (.ref 22), some (.int s), some (.int (nI a)), some (.int (nI b)), some (.int both), j5, some (.int v), some (.int (nI p)), some (.int (nI q)), j9, j10], []) (h', ks, fl') Q' := by
          intro v fl' j9 j10 e
          refine xg_iload xa_M_findPair_357 rfl ?_
          refine xg_istore (L' := [_, _, _, _, _, _, _, _, _, _, _]) xa_M_findPair_359 (Nat.le_of_ble_eq_true rfl) rfl ?_
          exact next _ _ _ _ e
        have third : ∀ (b9 b10 : Bool) fl', (b9 = true ↔ (¬ p = q ∧ S p &&& S q = 0 ∧ S p ||| S q = both)) → b10 = xls S Z p q → xG xs LS (d + 3) 79 (288, [some (.ref 22), some (.int s), some (.int (nI a)), some (.int (nI b)), some (.int both), j5, some (.int (xo (xq3 S Z both p q z))), some (.int (nI p)), some (.int (nI q)), some (.int (xz b9)), some (.int (xz b10))], []) (h', ks, fl') Q' := by
          intro b9 b10 fl' h9 h10
          have keep : ∀ fl' j9 j10, ¬ (b9 = true ∧ b10 = true) → xG xs LS (d + 3) 79 (361, [some (.ref 22), some (.int s), some (.int (nI a)), some (.int (nI b)), some (.int both), j5, some (.int (xo (xq3 S Z both p q z))), some (.int (nI p)), some (.int (nI q)), j9, j10], []) (h', ks, fl') Q' := by
            intro fl' j9 j10 hno
            refine next _ _ _ _ ?_
            rw [ex]
            have hno2 : ¬ ((¬ p = q ∧ S p &&& S q = 0 ∧ S p ||| S q = both) ∧ xls S Z p q = true) := fun w => hno ⟨h9.mpr w.1, by rw [h10]; exact w.2⟩
            cases hx : xq3 S Z both p q z with
            | none => simp only; rw [if_neg hno2]
            | some i => simp only; rw [if_neg (fun w => hno2 w.1)]
          refine xg_iload xa_M_findPair_288 rfl ?_
          refine xg_if_eq xa_M_findPair_290 (fun c => keep _ _ _ (fun w => by rw [(xz0 _).mp c] at w; cases w.1)) (fun c290 => ?_)
          refine xg_iload xa_M_findPair_293 rfl ?_
          refine xg_if_eq xa_M_findPair_295 (fun c => keep _ _ _ (fun w => by rw [(xz0 _).mp c] at w; cases w.2)) (fun c295 => ?_)
          have hyes : ((¬ p = q ∧ S p &&& S q = 0 ∧ S p ||| S q = both) ∧ xls S Z p q = true) := ⟨h9.mp (xz1 c290), by rw [← h10]; exact xz1 c295⟩
          cases hx : xq3 S Z both p q z with
          | none =>
            rw [hx] at ex
            simp only at ex
            rw [if_pos hyes] at ex
            refine xg_iload xa_M_findPair_298 rfl ?_
            refine xg_if_lt xa_M_findPair_300 (fun _ => take _ _ _ _ ex.symm) (fun c => absurd (show (-1 : Int32) < 0 from by decide) c)
          | some i =>
            rw [hx] at ex
            simp only at ex
            have hi := hlt i hx
            have hi4 : i < 4000 := by omega
            have yes : xls S Z p i = true → some p = xq3 S Z both p (q + 1) z := fun w => by rw [ex, if_pos ⟨hyes, w⟩]
            have no : ¬ xls S Z p i = true → some i = xq3 S Z both p (q + 1) z := fun w => by rw [ex, if_neg (fun w' => w w'.2)]
            unfold xls at yes no
            show xG xs LS (d + 3) 79 (298, [some (.ref 22), some (.int s), some (.int (nI a)), some (.int (nI b)), some (.int both), j5, some (.int (nI i)), some (.int (nI p)), some (.int (nI q)), some (.int (xz b9)), some (.int (xz b10))], []) (h', ks, fl') Q'
            refine xg_iload xa_M_findPair_298 rfl ?_
            refine xg_if_lt xa_M_findPair_300 (fun c => absurd c (nI_pos (by omega))) (fun _ => ?_)
            refine xg_aload_n xa_M_findPair_303 rfl ?_
            refine xg_getfield xa_M_findPair_304 (by assumption) rfl ?_
            refine xg_iload xa_M_findPair_307 rfl ?_
            refine xg_iald_n xa_M_findPair_309 (by assumption) rfl (by assumption) (by decide) ?_
            refine xg_aload_n xa_M_findPair_310 rfl ?_
            refine xg_getfield xa_M_findPair_311 (by assumption) rfl ?_
            refine xg_iload xa_M_findPair_314 rfl ?_
            refine xg_iald_n xa_M_findPair_316 (by assumption) rfl (by assumption) (by decide) ?_
            refine xg_icmp_lt xa_M_findPair_317 (fun c => take _ _ _ _ (yes (by rw [decide_eq_true c]; rfl))) (fun c41 => ?_)
            refine xg_aload_n xa_M_findPair_320 rfl ?_
            refine xg_getfield xa_M_findPair_321 (by assumption) rfl ?_
            refine xg_iload xa_M_findPair_324 rfl ?_
            refine xg_iald_n xa_M_findPair_326 (by assumption) rfl (by assumption) (by decide) ?_
            refine xg_aload_n xa_M_findPair_327 rfl ?_
            refine xg_getfield xa_M_findPair_328 (by assumption) rfl ?_
            refine xg_iload xa_M_findPair_331 rfl ?_
            refine xg_iald_n xa_M_findPair_333 (by assumption) rfl (by assumption) (by decide) ?_
            refine xg_icmp_ne xa_M_findPair_334 (fun c => next (some i) _ _ _ (no (by rw [decide_eq_false c41, decide_eq_false c]; simp))) (fun c58 => ?_)
            refine xg_aload_n xa_M_findPair_337 rfl ?_
            refine xg_getfield xa_M_findPair_338 (by assumption) rfl ?_
            refine xg_iload xa_M_findPair_341 rfl ?_
            refine xg_iald_n xa_M_findPair_343 (by assumption) rfl (by assumption) (by decide) ?_
            refine xg_aload_n xa_M_findPair_344 rfl ?_
            refine xg_getfield xa_M_findPair_345 (by assumption) rfl ?_
            refine xg_iload xa_M_findPair_348 rfl ?_
            refine xg_iald_n xa_M_findPair_350 (by assumption) rfl (by assumption) (by decide) ?_
            refine xg_callS1 xa_M_findPair_351 ⟨Nat.le_of_ble_eq_true rfl, Nat.le_of_ble_eq_true rfl, rfl⟩ rfl rfl ?_
            refine c_M_before ?_
            refine xK1_c ?_
            refine xg_if_eq xa_M_findPair_354 (fun c => next (some i) _ _ _ (no (by rw [(xz0 _).mp c, Bool.and_false, Bool.or_false, decide_eq_false c41]; decide))) (fun c78 => take _ _ _ _ (yes (by rw [decide_eq_true c58, xz1 c78]; simp)))
        have lesser : ∀ (b9 : Bool) fl' j10, (b9 = true ↔ (¬ p = q ∧ S p &&& S q = 0 ∧ S p ||| S q = both)) → xG xs LS (d + 3) 79 (227, [some (.ref 22), some (.int s), some (.int (nI a)), some (.int (nI b)), some (.int both), j5, some (.int (xo (xq3 S Z both p q z))), some (.int (nI p)), some (.int (nI q)), some (.int (xz b9)), j10], []) (h', ks, fl') Q' := by
          intro b9 fl' j10 h9
          have yes : ∀ fl', xls S Z p q = true → xG xs LS (d + 3) 79 (281, [some (.ref 22), some (.int s), some (.int (nI a)), some (.int (nI b)), some (.int both), j5, some (.int (xo (xq3 S Z both p q z))), some (.int (nI p)), some (.int (nI q)), some (.int (xz b9)), j10], []) (h', ks, fl') Q' := by
            intro fl' w
            refine xg_iconst (v := 1) xa_M_findPair_281 (by decide) ?_
            refine xg_goto xa_M_findPair_282 ?_
            refine xg_istore (L' := [_, _, _, _, _, _, _, _, _, _, _]) xa_M_findPair_286 (Nat.le_of_ble_eq_true rfl) rfl ?_
            exact third b9 true _ h9 w.symm
          have no : ∀ fl', xls S Z p q = false → xG xs LS (d + 3) 79 (285, [some (.ref 22), some (.int s), some (.int (nI a)), some (.int (nI b)), some (.int both), j5, some (.int (xo (xq3 S Z both p q z))), some (.int (nI p)), some (.int (nI q)), some (.int (xz b9)), j10], []) (h', ks, fl') Q' := by
            intro fl' w
            refine xg_iconst (v := 0) xa_M_findPair_285 (by decide) ?_
            refine xg_istore (L' := [_, _, _, _, _, _, _, _, _, _, _]) xa_M_findPair_286 (Nat.le_of_ble_eq_true rfl) rfl ?_
            exact third b9 false _ h9 w.symm
          unfold xls at yes no
          refine xg_aload_n xa_M_findPair_227 rfl ?_
          refine xg_getfield xa_M_findPair_228 (by assumption) rfl ?_
          refine xg_iload xa_M_findPair_231 rfl ?_
          refine xg_iald_n xa_M_findPair_233 (by assumption) rfl (by assumption) (by decide) ?_
          refine xg_aload_n xa_M_findPair_234 rfl ?_
          refine xg_getfield xa_M_findPair_235 (by assumption) rfl ?_
          refine xg_iload xa_M_findPair_238 rfl ?_
          refine xg_iald_n xa_M_findPair_240 (by assumption) rfl (by assumption) (by decide) ?_
          refine xg_icmp_lt xa_M_findPair_241 (fun c => yes _ (by rw [decide_eq_true c]; rfl)) (fun c41 => ?_)
          refine xg_aload_n xa_M_findPair_244 rfl ?_
          refine xg_getfield xa_M_findPair_245 (by assumption) rfl ?_
          refine xg_iload xa_M_findPair_248 rfl ?_
          refine xg_iald_n xa_M_findPair_250 (by assumption) rfl (by assumption) (by decide) ?_
          refine xg_aload_n xa_M_findPair_251 rfl ?_
          refine xg_getfield xa_M_findPair_252 (by assumption) rfl ?_
          refine xg_iload xa_M_findPair_255 rfl ?_
          refine xg_iald_n xa_M_findPair_257 (by assumption) rfl (by assumption) (by decide) ?_
          refine xg_icmp_ne xa_M_findPair_258 (fun c => no _ (by rw [decide_eq_false c41, decide_eq_false c]; simp)) (fun c58 => ?_)
          refine xg_aload_n xa_M_findPair_261 rfl ?_
          refine xg_getfield xa_M_findPair_262 (by assumption) rfl ?_
          refine xg_iload xa_M_findPair_265 rfl ?_
          refine xg_iald_n xa_M_findPair_267 (by assumption) rfl (by assumption) (by decide) ?_
          refine xg_aload_n xa_M_findPair_268 rfl ?_
          refine xg_getfield xa_M_findPair_269 (by assumption) rfl ?_
          refine xg_iload xa_M_findPair_272 rfl ?_
          refine xg_iald_n xa_M_findPair_274 (by assumption) rfl (by assumption) (by decide) ?_
          refine xg_callS1 xa_M_findPair_275 ⟨Nat.le_of_ble_eq_true rfl, Nat.le_of_ble_eq_true rfl, rfl⟩ rfl rfl ?_
          refine c_M_before ?_
          refine xK1_c ?_
          refine xg_if_eq xa_M_findPair_278 (fun c => no _ (by rw [(xz0 _).mp c, Bool.and_false, Bool.or_false, decide_eq_false c41])) (fun c78 => yes _ (by rw [decide_eq_true c58, xz1 c78]; simp))
        have nopart : ∀ fl' j9 j10, ¬ (¬ p = q ∧ S p &&& S q = 0 ∧ S p ||| S q = both) → xG xs LS (d + 3) 79 (224, [some (.ref 22), some (.int s), some (.int (nI a)), some (.int (nI b)), some (.int both), j5, some (.int (xo (xq3 S Z both p q z))), some (.int (nI p)), some (.int (nI q)), j9, j10], []) (h', ks, fl') Q' := by
          intro fl' j9 j10 w
          refine xg_iconst (v := 0) xa_M_findPair_224 (by decide) ?_
          refine xg_istore (L' := [_, _, _, _, _, _, _, _, _, _, _]) xa_M_findPair_225 (Nat.le_of_ble_eq_true rfl) rfl ?_
          exact lesser false _ _ ⟨fun w' => (by cases w'), fun w' => absurd w' w⟩
        refine xg_iload xa_M_findPair_166 rfl ?_
        refine xg_aload_n xa_M_findPair_168 rfl ?_
        refine xg_getfield xa_M_findPair_169 (by assumption) rfl ?_
        refine xg_icmp_ge xa_M_findPair_172 (fun c => absurd c (nI_ge (by omega) (by omega))) (fun _ => ?_)
        refine xg_iload xa_M_findPair_175 rfl ?_
        refine xg_iload xa_M_findPair_177 rfl ?_
        refine xg_icmp_eq xa_M_findPair_179 (fun c => nopart _ _ _ (fun w => w.1 ((nI_eq (by omega) (by omega)).mp c))) (fun c179 => ?_)
        refine xg_aload_n xa_M_findPair_182 rfl ?_
        refine xg_getfield xa_M_findPair_183 (by assumption) rfl ?_
        refine xg_iload xa_M_findPair_186 rfl ?_
        refine xg_iald_n xa_M_findPair_188 (by assumption) rfl (by assumption) (by decide) ?_
        refine xg_aload_n xa_M_findPair_189 rfl ?_
        refine xg_getfield xa_M_findPair_190 (by assumption) rfl ?_
        refine xg_iload xa_M_findPair_193 rfl ?_
        refine xg_iald_n xa_M_findPair_195 (by assumption) rfl (by assumption) (by decide) ?_
        refine xg_iand xa_M_findPair_196 rfl ?_
        refine xg_if_ne xa_M_findPair_197 (fun c => nopart _ _ _ (fun w => c w.2.1)) (fun c197 => ?_)
        refine xg_aload_n xa_M_findPair_200 rfl ?_
        refine xg_getfield xa_M_findPair_201 (by assumption) rfl ?_
        refine xg_iload xa_M_findPair_204 rfl ?_
        refine xg_iald_n xa_M_findPair_206 (by assumption) rfl (by assumption) (by decide) ?_
        refine xg_aload_n xa_M_findPair_207 rfl ?_
        refine xg_getfield xa_M_findPair_208 (by assumption) rfl ?_
        refine xg_iload xa_M_findPair_211 rfl ?_
        refine xg_iald_n xa_M_findPair_213 (by assumption) rfl (by assumption) (by decide) ?_
        refine xg_ior xa_M_findPair_214 rfl ?_
        refine xg_iload xa_M_findPair_215 rfl ?_
        refine xg_icmp_ne xa_M_findPair_217 (fun c => nopart _ _ _ (fun w => c w.2.2)) (fun c217 => ?_)
        refine xg_iconst (v := 1) xa_M_findPair_220 (by decide) ?_
        refine xg_goto xa_M_findPair_221 ?_
        refine xg_istore (L' := [_, _, _, _, _, _, _, _, _, _, _]) xa_M_findPair_225 (Nat.le_of_ble_eq_true rfl) rfl ?_
        exact lesser true _ _ ⟨fun _ => ⟨fun w => c179 (by rw [w]), c197, c217⟩, fun _ => rfl⟩
    have outer : ∀ n p fl' j8 j9 j10, p + n = P → xG xs LS (d + 3) 79 (154, [some (.ref 22), some (.int s), some (.int (nI a)), some (.int (nI b)), some (.int both), j5, some (.int (xo (xq4 S Z both P p))), some (.int (nI p)), j8, j9, j10], []) (h', ks, fl') Q := by
      intro n
      induction n with
      | zero =>
        intro p fl' j8 j9 j10 hp
        refine xg_iload xa_M_findPair_154 rfl ?_
        refine xg_aload_n xa_M_findPair_156 rfl ?_
        refine xg_getfield xa_M_findPair_157 (by assumption) rfl ?_
        refine xg_icmp_ge xa_M_findPair_160 (fun _ => fin _ _ _ _ p (by omega)) (fun c => absurd (nI_le (by omega) (by omega)) c)
      | succ n ih =>
        intro p fl' j8 j9 j10 hp
        refine xg_iload xa_M_findPair_154 rfl ?_
        refine xg_aload_n xa_M_findPair_156 rfl ?_
        refine xg_getfield xa_M_findPair_157 (by assumption) rfl ?_
        refine xg_icmp_ge xa_M_findPair_160 (fun c => absurd c (nI_ge (by omega) (by omega))) (fun _ => ?_)
        refine xg_iconst (v := 0) xa_M_findPair_163 (by decide) ?_
        refine xg_istore (L' := [_, _, _, _, _, _, _, _, _, _, _]) xa_M_findPair_164 (Nat.le_of_ble_eq_true rfl) rfl ?_
        refine inner P p 0 _ _ _ Q (xq4 S Z both P p) (by omega) (by omega) (fun i hi => xq4_lt S Z both P p i hi) (fun fl' j9 j10 => ?_)
        refine xg_iinc (L' := [_, _, _, _, _, _, _, _, _, _, _]) xa_M_findPair_367 rfl (xi_inc _) rfl ?_
        refine xg_goto xa_M_findPair_370 ?_
        exact ih (p + 1) _ _ _ _ (by omega)
    refine xg_iconst (v := (-1)) xa_M_findPair_148 (by decide) ?_
    refine xg_istore (L' := [_, _, _, _, _, _, _, _, _, _, _]) xa_M_findPair_149 (Nat.le_of_ble_eq_true rfl) rfl ?_
    refine xg_iconst (v := 0) xa_M_findPair_151 (by decide) ?_
    refine xg_istore (L' := [_, _, _, _, _, _, _, _, _, _, _]) xa_M_findPair_152 (Nat.le_of_ble_eq_true rfl) rfl ?_
    exact outer P 0 _ _ _ _ (by omega)
  have inner1 : ∀ n p q fl' j8 (Q' : (Option Value ⊕ Nat) → xm_S → Prop) z, p < P → q + n = p →
      (∀ fl' j8, xG xs LS (d + 3) 79 (135, [some (.ref 22), some (.int s), some (.int (nI a)), some (.int (nI b)), some (.int (xq1 S Z p p z).1), some (.int (xq1 S Z p p z).2), some (.int (nI p)), some (.int (nI p)), j8, none, none], []) (h', ks, fl') Q') →
      xG xs LS (d + 3) 79 (29, [some (.ref 22), some (.int s), some (.int (nI a)), some (.int (nI b)), some (.int (xq1 S Z p q z).1), some (.int (xq1 S Z p q z).2), some (.int (nI p)), some (.int (nI q)), j8, none, none], []) (h', ks, fl') Q' := by
    intro n
    induction n with
    | zero =>
      intro p q fl' j8 Q' z hp hq kk
      have e : q = p := by omega
      subst e
      refine xg_iload xa_M_findPair_29 rfl ?_
      refine xg_iload xa_M_findPair_31 rfl ?_
      refine xg_icmp_ge xa_M_findPair_33 (fun _ => kk _ _) (fun c => absurd (nI_le (by omega) (by omega)) c)
    | succ n ih =>
      intro p q fl' j8 Q' z hp hq kk
      have hp4 : p < 4000 := by omega
      have hq4 : q < 4000 := by omega
      have ex : xq1 S Z p (q + 1) z = if S p &&& S q = 0 ∧ (Z p + Z q < (xq1 S Z p q z).2 ∨ (Z p + Z q = (xq1 S Z p q z).2 ∧ xbef (S p ||| S q) (xq1 S Z p q z).1 = true)) then (S p ||| S q, Z p + Z q) else xq1 S Z p q z := rfl
      have next : ∀ (y : Int32 × Int32) fl' j8, y = xq1 S Z p (q + 1) z → xG xs LS (d + 3) 79 (129, [some (.ref 22), some (.int s), some (.int (nI a)), some (.int (nI b)), some (.int y.1), some (.int y.2), some (.int (nI p)), some (.int (nI q)), j8, none, none], []) (h', ks, fl') Q' := by
        intro y fl' j8 e
        subst e
        refine xg_iinc (L' := [_, _, _, _, _, _, _, _, _, _, _]) xa_M_findPair_129 rfl (xi_inc _) rfl ?_
        refine xg_goto xa_M_findPair_132 ?_
        exact ih p (q + 1) _ _ Q' z hp (by omega) kk
      have keep : ∀ fl' j8, ¬ (S p &&& S q = 0 ∧ (Z p + Z q < (xq1 S Z p q z).2 ∨ (Z p + Z q = (xq1 S Z p q z).2 ∧ xbef (S p ||| S q) (xq1 S Z p q z).1 = true))) → xG xs LS (d + 3) 79 (129, [some (.ref 22), some (.int s), some (.int (nI a)), some (.int (nI b)), some (.int (xq1 S Z p q z).1), some (.int (xq1 S Z p q z).2), some (.int (nI p)), some (.int (nI q)), j8, none, none], []) (h', ks, fl') Q' := by
        intro fl' j8 w
        exact next _ _ _ (by rw [ex, if_neg w])
      have take : ∀ fl', (S p &&& S q = 0 ∧ (Z p + Z q < (xq1 S Z p q z).2 ∨ (Z p + Z q = (xq1 S Z p q z).2 ∧ xbef (S p ||| S q) (xq1 S Z p q z).1 = true))) → xG xs LS (d + 3) 79 (108, [some (.ref 22), some (.int s), some (.int (nI a)), some (.int (nI b)), some (.int (xq1 S Z p q z).1), some (.int (xq1 S Z p q z).2), some (.int (nI p)), some (.int (nI q)), some (.int (Z p + Z q)), none, none], []) (h', ks, fl') Q' := by
        intro fl' w
        rw [if_pos w] at ex
        refine xg_iload xa_M_findPair_108 rfl ?_
        refine xg_istore (L' := [_, _, _, _, _, _, _, _, _, _, _]) xa_M_findPair_110 (Nat.le_of_ble_eq_true rfl) rfl ?_
        refine xg_aload_n xa_M_findPair_112 rfl ?_
        refine xg_getfield xa_M_findPair_113 (by assumption) rfl ?_
        refine xg_iload xa_M_findPair_116 rfl ?_
        refine xg_iald_n xa_M_findPair_118 (by assumption) rfl (by assumption) (by decide) ?_
        refine xg_aload_n xa_M_findPair_119 rfl ?_
        refine xg_getfield xa_M_findPair_120 (by assumption) rfl ?_
        refine xg_iload xa_M_findPair_123 rfl ?_
        refine xg_iald_n xa_M_findPair_125 (by assumption) rfl (by assumption) (by decide) ?_
        refine xg_ior xa_M_findPair_126 rfl ?_
        refine xg_istore (L' := [_, _, _, _, _, _, _, _, _, _, _]) xa_M_findPair_127 (Nat.le_of_ble_eq_true rfl) rfl ?_
        exact next (S p ||| S q, Z p + Z q) _ _ ex.symm
      refine xg_iload xa_M_findPair_29 rfl ?_
      refine xg_iload xa_M_findPair_31 rfl ?_
      refine xg_icmp_ge xa_M_findPair_33 (fun c => absurd c (nI_ge (by omega) (by omega))) (fun _ => ?_)
      refine xg_aload_n xa_M_findPair_36 rfl ?_
      refine xg_getfield xa_M_findPair_37 (by assumption) rfl ?_
      refine xg_iload xa_M_findPair_40 rfl ?_
      refine xg_iald_n xa_M_findPair_42 (by assumption) rfl (by assumption) (by decide) ?_
      refine xg_aload_n xa_M_findPair_43 rfl ?_
      refine xg_getfield xa_M_findPair_44 (by assumption) rfl ?_
      refine xg_iload xa_M_findPair_47 rfl ?_
      refine xg_iald_n xa_M_findPair_49 (by assumption) rfl (by assumption) (by decide) ?_
      refine xg_iadd xa_M_findPair_50 rfl ?_
      refine xg_istore (L' := [_, _, _, _, _, _, _, _, _, _, _]) xa_M_findPair_51 (Nat.le_of_ble_eq_true rfl) rfl ?_
      refine xg_aload_n xa_M_findPair_53 rfl ?_
      refine xg_getfield xa_M_findPair_54 (by assumption) rfl ?_
      refine xg_iload xa_M_findPair_57 rfl ?_
      refine xg_iald_n xa_M_findPair_59 (by assumption) rfl (by assumption) (by decide) ?_
      refine xg_aload_n xa_M_findPair_60 rfl ?_
      refine xg_getfield xa_M_findPair_61 (by assumption) rfl ?_
      refine xg_iload xa_M_findPair_64 rfl ?_
      refine xg_iald_n xa_M_findPair_66 (by assumption) rfl (by assumption) (by decide) ?_
      refine xg_iand xa_M_findPair_67 rfl ?_
      refine xg_if_ne xa_M_findPair_68 (fun c => keep _ _ (fun w => c w.1)) (fun c68 => ?_)
      refine xg_iload xa_M_findPair_71 rfl ?_
      refine xg_iload xa_M_findPair_73 rfl ?_
      refine xg_icmp_lt xa_M_findPair_75 (fun c => take _ ⟨c68, Or.inl c⟩) (fun c75 => ?_)
      refine xg_iload xa_M_findPair_78 rfl ?_
      refine xg_iload xa_M_findPair_80 rfl ?_
      refine xg_icmp_ne xa_M_findPair_82 (fun c => keep _ _ (fun w => by
        rcases w.2 with w | w
        · exact c75 w
        · exact c w.1)) (fun c82 => ?_)
      refine xg_aload_n xa_M_findPair_85 rfl ?_
      refine xg_getfield xa_M_findPair_86 (by assumption) rfl ?_
      refine xg_iload xa_M_findPair_89 rfl ?_
      refine xg_iald_n xa_M_findPair_91 (by assumption) rfl (by assumption) (by decide) ?_
      refine xg_aload_n xa_M_findPair_92 rfl ?_
      refine xg_getfield xa_M_findPair_93 (by assumption) rfl ?_
      refine xg_iload xa_M_findPair_96 rfl ?_
      refine xg_iald_n xa_M_findPair_98 (by assumption) rfl (by assumption) (by decide) ?_
      refine xg_ior xa_M_findPair_99 rfl ?_
      refine xg_iload xa_M_findPair_100 rfl ?_
      refine xg_callS1 xa_M_findPair_102 ⟨Nat.le_of_ble_eq_true rfl, Nat.le_of_ble_eq_true rfl, rfl⟩ rfl rfl ?_
      refine c_M_before ?_
      refine xK1_c ?_
      refine xg_if_eq xa_M_findPair_105 (fun c => keep _ _ (fun w => by
        rcases w.2 with w | w
        · exact c75 w
        · rw [(xz0 _).mp c] at w; cases w.2)) (fun c105 => take _ ⟨c68, Or.inr ⟨c82, xz1 c105⟩⟩)
  have outer1 : ∀ n p fl' j7 j8, p + n = P → xG xs LS (d + 3) 79 (17, [some (.ref 22), some (.int s), some (.int (nI a)), some (.int (nI b)), some (.int (xq2 S Z p).1), some (.int (xq2 S Z p).2), some (.int (nI p)), j7, j8, none, none], []) (h', ks, fl') Q := by
    intro n
    induction n with
    | zero =>
      intro p fl' j7 j8 hp
      have e : p = P := by omega
      subst e
      refine xg_iload xa_M_findPair_17 rfl ?_
      refine xg_aload_n xa_M_findPair_19 rfl ?_
      refine xg_getfield xa_M_findPair_20 (by assumption) rfl ?_
      refine xg_icmp_ge xa_M_findPair_23 (fun _ => ?_) (fun c => absurd (nI_le (by omega) (by omega)) c)
      refine xg_iload xa_M_findPair_141 rfl ?_
      refine xg_if_ne xa_M_findPair_143 (fun c => second _ _ _ _ _ _ rfl c) (fun c => ?_)
      refine xg_iconst (v := 0) xa_M_findPair_146 (by decide) ?_
      refine xg_zreturn xa_M_findPair_147 (Or.inl rfl) ?_
      exact k0 _ c
    | succ n ih =>
      intro p fl' j7 j8 hp
      refine xg_iload xa_M_findPair_17 rfl ?_
      refine xg_aload_n xa_M_findPair_19 rfl ?_
      refine xg_getfield xa_M_findPair_20 (by assumption) rfl ?_
      refine xg_icmp_ge xa_M_findPair_23 (fun c => absurd c (nI_ge (by omega) (by omega))) (fun _ => ?_)
      refine xg_iconst (v := 0) xa_M_findPair_26 (by decide) ?_
      refine xg_istore (L' := [_, _, _, _, _, _, _, _, _, _, _]) xa_M_findPair_27 (Nat.le_of_ble_eq_true rfl) rfl ?_
      refine inner1 p p 0 _ _ Q (xq2 S Z p) (by omega) (by omega) (fun fl' j8 => ?_)
      refine xg_iinc (L' := [_, _, _, _, _, _, _, _, _, _, _]) xa_M_findPair_135 rfl (xi_inc _) rfl ?_
      refine xg_goto xa_M_findPair_138 ?_
      exact ih (p + 1) _ _ _ (by omega)
  refine xg_iconst (v := 0) xa_M_findPair_7 (by decide) ?_
  refine xg_istore (L' := [_, _, _, _, _, _, _, _, _, _, _]) xa_M_findPair_8 (Nat.le_of_ble_eq_true rfl) rfl ?_
  refine xg_ldc (v := 100000) xa_M_findPair_10 (by decide) ?_
  refine xg_istore (L' := [_, _, _, _, _, _, _, _, _, _, _]) xa_M_findPair_12 (Nat.le_of_ble_eq_true rfl) rfl ?_
  refine xg_iconst (v := 0) xa_M_findPair_14 (by decide) ?_
  refine xg_istore (L' := [_, _, _, _, _, _, _, _, _, _, _]) xa_M_findPair_15 (Nat.le_of_ble_eq_true rfl) rfl ?_
  exact outer1 P 0 _ _ _ (by omega)
end XM7
