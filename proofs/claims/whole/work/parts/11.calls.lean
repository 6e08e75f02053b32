/-! 11.calls: calls, by what they give back; numbers. -/
section XK
variable {xs : Nat → Int32} {LS d mi pc a0 b0 k0 d0 : Nat} {L : List (Option Value)} {st rest : List Value} {h : List va_E} {ks : Nat} {fl : Bool} {Q : (Option Value ⊕ Nat) → xm_S → Prop}
/-- going on behind a call that answers -/
def xK1 (xs : Nat → Int32) (LS d mi pc : Nat) (L : List (Option Value)) (rest : List Value) (fl : Bool) (Q : (Option Value ⊕ Nat) → xm_S → Prop) : (Option Value ⊕ Nat) → xm_S → Prop := fun r S' => ∃ v, r = .inl (some v) ∧ xG xs LS d mi (pc, L, v :: rest) (S'.1, S'.2.1, fl && S'.2.2) Q
/-- .. that answers nothing -/
def xK0 (xs : Nat → Int32) (LS d mi pc : Nat) (L : List (Option Value)) (rest : List Value) (fl : Bool) (Q : (Option Value ⊕ Nat) → xm_S → Prop) : (Option Value ⊕ Nat) → xm_S → Prop := fun r S' => r = .inl none ∧ xG xs LS d mi (pc, L, rest) (S'.1, S'.2.1, fl && S'.2.2) Q
theorem xK1_c {v : Value} (k : xG xs LS d mi (pc, L, v :: rest) (h, ks, fl) Q) : xK1 xs LS d mi pc L rest fl Q (.inl (some v)) (h, ks, true) := ⟨v, rfl, by show xG xs LS d mi (pc, L, v :: rest) (h, ks, fl && true) Q; rw [Bool.and_true]; exact k⟩
theorem xK1_d {v : Value} {b : Bool} (k : xG xs LS d mi (pc, L, v :: rest) (h, ks, fl && b) Q) : xK1 xs LS d mi pc L rest fl Q (.inl (some v)) (h, ks, b) := ⟨v, rfl, k⟩
theorem xK0_c (k : xG xs LS d mi (pc, L, rest) (h, ks, fl) Q) : xK0 xs LS d mi pc L rest fl Q (.inl none) (h, ks, true) := ⟨rfl, by show xG xs LS d mi (pc, L, rest) (h, ks, fl && true) Q; rw [Bool.and_true]; exact k⟩
theorem xK0_d {b : Bool} (k : xG xs LS d mi (pc, L, rest) (h, ks, fl && b) Q) : xK0 xs LS d mi pc L rest fl Q (.inl none) (h, ks, b) := ⟨rfl, k⟩
theorem xg_callS1 {ix : Nat} {as : List Value} (ha : xm_at xP mi pc = some (pc, .invokestatic ix, a0, b0, k0, d0)) (hb : b0 ≤ st.length ∧ (st.drop b0).length ≤ 4 ∧ (st.take b0).all xm_cat = true) (hs : (st.take b0).reverse = as) (hd : st.drop b0 = rest) (k : xG xs LS d a0 (0, xm_entry xP a0 as, []) (h, ks, true) (xK1 xs LS (d + 1) mi (pc + 3) L rest fl Q)) : xG xs LS (d + 1) mi (pc, L, st) (h, ks, fl) Q :=
  xg_callS ha hb hs hd (xG.mono k (fun r S' ⟨v, h1, h2⟩ => ⟨some v, h1, h2⟩))
theorem xg_callS0 {ix : Nat} {as : List Value} (ha : xm_at xP mi pc = some (pc, .invokestatic ix, a0, b0, k0, d0)) (hb : b0 ≤ st.length ∧ (st.drop b0).length ≤ 4 ∧ (st.take b0).all xm_cat = true) (hs : (st.take b0).reverse = as) (hd : st.drop b0 = rest) (k : xG xs LS d a0 (0, xm_entry xP a0 as, []) (h, ks, true) (xK0 xs LS (d + 1) mi (pc + 3) L rest fl Q)) : xG xs LS (d + 1) mi (pc, L, st) (h, ks, fl) Q :=
  xg_callS ha hb hs hd (xG.mono k (fun r S' ⟨h1, h2⟩ => ⟨none, h1, h2⟩))
theorem xg_callV1 {ix r : Nat} {as fs : List Value} (ha : xm_at xP mi pc = some (pc, .invokevirtual ix, a0, b0, k0, d0)) (hb : b0 ≤ st.length ∧ (st.drop b0).length ≤ 4 ∧ (st.take b0).all xm_cat = true) (hs : (st.take b0).reverse = .ref r :: as) (hd : st.drop b0 = rest) (hr : h[r]? = some (.inr (k0, fs))) (k : xG xs LS d a0 (0, xm_entry xP a0 (.ref r :: as), []) (h, ks, true) (xK1 xs LS (d + 1) mi (pc + 3) L rest fl Q)) : xG xs LS (d + 1) mi (pc, L, st) (h, ks, fl) Q :=
  xg_callV ha hb hs hd hr (xG.mono k (fun r S' ⟨v, h1, h2⟩ => ⟨some v, h1, h2⟩))
theorem xg_callV0 {ix r : Nat} {as fs : List Value} (ha : xm_at xP mi pc = some (pc, .invokevirtual ix, a0, b0, k0, d0)) (hb : b0 ≤ st.length ∧ (st.drop b0).length ≤ 4 ∧ (st.take b0).all xm_cat = true) (hs : (st.take b0).reverse = .ref r :: as) (hd : st.drop b0 = rest) (hr : h[r]? = some (.inr (k0, fs))) (k : xG xs LS d a0 (0, xm_entry xP a0 (.ref r :: as), []) (h, ks, true) (xK0 xs LS (d + 1) mi (pc + 3) L rest fl Q)) : xG xs LS (d + 1) mi (pc, L, st) (h, ks, fl) Q :=
  xg_callV ha hb hs hd hr (xG.mono k (fun r S' ⟨h1, h2⟩ => ⟨none, h1, h2⟩))
theorem xg_callI0 {ix r : Nat} (ha : xm_at xP mi pc = some (pc, .invokespecial ix, a0, b0, k0, 0)) (hs : st.length ≤ 4) (k : xG xs LS d a0 (0, xm_entry xP a0 [.ref r], []) (h, ks, true) (xK0 xs LS (d + 1) mi (pc + 3) L st fl Q)) : xG xs LS (d + 1) mi (pc, L, .ref r :: st) (h, ks, fl) Q :=
  xg_callI ha hs (xG.mono k (fun r S' ⟨h1, h2⟩ => ⟨none, h1, h2⟩))
theorem xi_inc (i : Nat) : nI i + Int32.ofInt 1 = nI (i + 1) := nI_1 i
theorem xi_in {i n : Nat} (h : i < n) (hn : n < 2 ^ 31) : ¬ (nI i < 0 ∨ n ≤ (nI i).toNatClampNeg) := nI_in h hn
theorem xg_iald_n {r q n i : Nat} {f : Nat → Int32} (ha : xm_at xP mi pc = some (pc, .iaload, a0, b0, k0, d0)) (hr : h[r]? = some (.inl (q, n, .inl f))) (hq : xKT[q]? = some .int) (hi : i < n) (hn : n < 2 ^ 31) (k : xG xs LS d mi (pc + 1, L, .int (f i) :: st) (h, ks, fl) Q) : xG xs LS d mi (pc, L, .int (nI i) :: .ref r :: st) (h, ks, fl) Q :=
  xg_iald ha hr hq (nI_in hi hn) (by rw [nI_clamp (by omega)]) k
theorem xg_zald_n {r q n i : Nat} {f : Nat → Int32} (ha : xm_at xP mi pc = some (pc, .baload, a0, b0, k0, d0)) (hr : h[r]? = some (.inl (q, n, .inl f))) (hq : xKT[q]? = some .boolean) (hi : i < n) (hn : n < 2 ^ 31) (k : xG xs LS d mi (pc + 1, L, .int (f i) :: st) (h, ks, fl) Q) : xG xs LS d mi (pc, L, .int (nI i) :: .ref r :: st) (h, ks, fl) Q :=
  xg_zald ha hr hq (nI_in hi hn) (by rw [nI_clamp (by omega)]) k
theorem xg_aald_n {r q n i x : Nat} {f : Nat → Option Nat} (ha : xm_at xP mi pc = some (pc, .aaload, a0, b0, k0, d0)) (hr : h[r]? = some (.inl (q, n, .inr (.inr (.inr (.inr f)))))) (hq : xm_isO xKT[q]? = true) (hi : i < n) (hn : n < 2 ^ 31) (hv : f i = some x) (k : xG xs LS d mi (pc + 1, L, .ref x :: st) (h, ks, fl) Q) : xG xs LS d mi (pc, L, .int (nI i) :: .ref r :: st) (h, ks, fl) Q :=
  xg_aald ha hr hq (nI_in hi hn) (by rw [nI_clamp (by omega)]; exact hv) k
theorem xg_iast_n {r q n i : Nat} {f : Nat → Int32} {x : Int32} {h' : List va_E} (ha : xm_at xP mi pc = some (pc, .iastore, a0, b0, k0, d0)) (hr : h[r]? = some (.inl (q, n, .inl f))) (hq : xKT[q]? = some .int) (hi : i < n) (hn : n < 2 ^ 31) (hh : h.set r (.inl (q, n, .inl (upd f i x))) = h') (k : xG xs LS d mi (pc + 1, L, st) (h', ks, false) Q) : xG xs LS d mi (pc, L, .int x :: .int (nI i) :: .ref r :: st) (h, ks, fl) Q :=
  xg_iast ha hr hq (nI_in hi hn) (by rw [nI_clamp (by omega)]) hh k
end XK
section XW
variable {xs : Nat → Int32} {LS d mi pc a0 b0 k0 d0 : Nat} {L : List (Option Value)} {st rest : List Value} {h : List va_E} {ks : Nat} {fl : Bool} {Q : (Option Value ⊕ Nat) → xm_S → Prop}
/-- h' is h but for the cell r, which is c -/
def xU (h h' : List va_E) (r : Nat) (c : va_E) : Prop := h'.length = h.length ∧ h'[r]? = some c ∧ ∀ j, j ≠ r → h'[j]? = h[j]?
theorem xU_set {r : Nat} {c0 c : va_E} (hr : h[r]? = some c0) : xU h (h.set r c) r c := by
  have hl := (List.getElem?_eq_some_iff.mp hr).1
  exact ⟨List.length_set, List.getElem?_set_self hl, fun j hj => List.getElem?_set_ne (Ne.symm hj)⟩
theorem xU.trans {h1 h2 : List va_E} {r : Nat} {c c' : va_E} (u : xU h h1 r c) (v : xU h1 h2 r c') : xU h h2 r c' := ⟨v.1.trans u.1, v.2.1, fun j hj => (v.2.2 j hj).trans (u.2.2 j hj)⟩
theorem xg_putf {ix r : Nat} {fs fs' : List Value} {v : Value} (ha : xm_at xP mi pc = some (pc, .putfield ix, a0, b0, k0, d0)) (hr : h[r]? = some (.inr (a0, fs))) (hb : b0 < fs.length) (hv : xm_fit d0 v = true) (hf : fs.set b0 v = fs') (k : ∀ h', xU h h' r (.inr (a0, fs')) → xG xs LS d mi (pc + 3, L, st) (h', ks, false) Q) : xG xs LS d mi (pc, L, v :: .ref r :: st) (h, ks, fl) Q :=
  xg_putfield ha hr hb hv rfl (k _ (by subst hf; exact xU_set hr))
theorem xg_iastf {r q n : Nat} {j : Int32} {f f' : Nat → Int32} {x : Int32} (ha : xm_at xP mi pc = some (pc, .iastore, a0, b0, k0, d0)) (hr : h[r]? = some (.inl (q, n, .inl f))) (hq : xKT[q]? = some .int) (hin : ¬ (j < 0 ∨ n ≤ j.toNatClampNeg)) (hf : upd f j.toNatClampNeg x = f') (k : ∀ h', xU h h' r (.inl (q, n, .inl f')) → xG xs LS d mi (pc + 1, L, st) (h', ks, false) Q) : xG xs LS d mi (pc, L, .int x :: .int j :: .ref r :: st) (h, ks, fl) Q :=
  xg_iast ha hr hq hin hf rfl (k _ (xU_set hr))
theorem xg_iastf_n {r q n i : Nat} {f : Nat → Int32} {x : Int32} (ha : xm_at xP mi pc = some (pc, .iastore, a0, b0, k0, d0)) (hr : h[r]? = some (.inl (q, n, .inl f))) (hq : xKT[q]? = some .int) (hi : i < n) (hn : n < 2 ^ 31) (k : ∀ h', xU h h' r (.inl (q, n, .inl (upd f i x))) → xG xs LS d mi (pc + 1, L, st) (h', ks, false) Q) : xG xs LS d mi (pc, L, .int x :: .int (nI i) :: .ref r :: st) (h, ks, fl) Q :=
  xg_iastf ha hr hq (nI_in hi hn) (by rw [nI_clamp (by omega)]) k
theorem xg_zastf_n {r q n i : Nat} {f : Nat → Int32} {x : Int32} (ha : xm_at xP mi pc = some (pc, .bastore, a0, b0, k0, d0)) (hr : h[r]? = some (.inl (q, n, .inl f))) (hq : xKT[q]? = some .boolean) (hi : i < n) (hn : n < 2 ^ 31) (hx : x = 0 ∨ x = 1) (k : ∀ h', xU h h' r (.inl (q, n, .inl (upd f i x))) → xG xs LS d mi (pc + 1, L, st) (h', ks, false) Q) : xG xs LS d mi (pc, L, .int x :: .int (nI i) :: .ref r :: st) (h, ks, fl) Q :=
  xg_zast ha hr hq (nI_in hi hn) (by rw [nI_clamp (by omega), show vp_nar .boolean x = x by rcases hx with rfl | rfl <;> decide]) rfl (k _ (xU_set hr))
end XW
