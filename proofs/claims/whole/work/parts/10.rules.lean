/-! 10.rules: how runs of the small machine are put together. -/
def xG (xs : Nat → Int32) (LS d mi : Nat) (F : xm_F) (S : xm_S) (Q : (Option Value ⊕ Nat) → xm_S → Prop) : Prop := ∃ (n : Nat) (r : Option Value ⊕ Nat) (S1 : xm_S), xm_run xs LS xKT xDF xP n d mi F S = some (r, S1) ∧ Q r S1
section XG
variable {xs : Nat → Int32} {LS d mi pc : Nat} {L : List (Option Value)} {st : List Value} {h : List va_E} {ks : Nat} {fl : Bool} {Q : (Option Value ⊕ Nat) → xm_S → Prop}
theorem xm_run_up {kt : List FieldType} {df : List (List Value)} {P : List xm_M} : ∀ (n d mi : Nat) (F : xm_F) (S : xm_S) (x : (Option Value ⊕ Nat) × xm_S), xm_run xs LS kt df P n d mi F S = some x → xm_run xs LS kt df P (n + 1) d mi F S = some x := by
  intro n
  induction n with
  | zero => intro d mi F S x h; simp [xm_run] at h
  | succ n ih =>
    intro d mi F S x h
    unfold xm_run at h ⊢
    cases ha : xm_act xs LS kt df P mi F S with
    | none => rw [ha] at h; cases h
    | some A =>
      rw [ha] at h
      rcases A with ⟨F', S'⟩ | v | ci | ⟨y, as, rest⟩
      · exact ih _ _ _ _ _ h
      · exact h
      · exact h
      · cases d with
        | zero => exact h
        | succ d' =>
          simp only at h ⊢
          cases hr : xm_run xs LS kt df P n d' y (0, xm_entry P y as, []) (S.1, S.2.1, true) with
          | none => rw [hr] at h; cases h
          | some q =>
            rw [hr] at h
            rw [ih _ _ _ _ _ hr]
            rcases q with ⟨v | i, S'⟩
            · exact ih _ _ _ _ _ h
            · simp only at h ⊢
              cases hi : S'.1[i]? with
              | none => rw [hi] at h; cases h
              | some c =>
                rw [hi] at h
                rcases c with c | ⟨ci, fs⟩
                · cases h
                · simp only at h ⊢
                  cases ht : xm_hand P mi F.1 ci with
                  | none => rw [ht] at h; exact h
                  | some t => rw [ht] at h; exact ih _ _ _ _ _ h
theorem xm_run_le {kt : List FieldType} {df : List (List Value)} {P : List xm_M} {n k d mi : Nat} {F : xm_F} {S : xm_S} {x : (Option Value ⊕ Nat) × xm_S} (hr : xm_run xs LS kt df P n d mi F S = some x) : xm_run xs LS kt df P (n + k) d mi F S = some x := by
  induction k with
  | zero => exact hr
  | succ k ih => exact xm_run_up _ _ _ _ _ _ ih
theorem xG.mono {F : xm_F} {S : xm_S} {Q' : (Option Value ⊕ Nat) → xm_S → Prop} (k : xG xs LS d mi F S Q) (hQ : ∀ r S1, Q r S1 → Q' r S1) : xG xs LS d mi F S Q' := by
  obtain ⟨n, r, S1, h1, h2⟩ := k
  exact ⟨n, r, S1, h1, hQ r S1 h2⟩
theorem xG.step {F F' : xm_F} {S S' : xm_S} (ha : xm_act xs LS xKT xDF xP mi F S = some (.inl (F', S'))) (k : xG xs LS d mi F' S' Q) : xG xs LS d mi F S Q := by
  obtain ⟨n, r, S1, h1, h2⟩ := k
  refine ⟨n + 1, r, S1, ?_, h2⟩
  unfold xm_run
  rw [ha]
  exact h1
theorem xG.ret {F : xm_F} {S : xm_S} {v : Option Value} (ha : xm_act xs LS xKT xDF xP mi F S = some (.inr (.inl v))) (k : Q (.inl v) S) : xG xs LS d mi F S Q := by
  refine ⟨1, .inl v, S, ?_, k⟩
  unfold xm_run
  rw [ha]
theorem xG.thr {F : xm_F} {S : xm_S} {ci : Nat} (ha : xm_act xs LS xKT xDF xP mi F S = some (.inr (.inr (.inl ci)))) (hf : S.2.2 = true) (hH : xm_noH xP mi = true) (hd : 5 ≤ d) (k : Q (.inr S.1.length) (S.1 ++ [.inr (ci, [])], S.2.1 + 6, true)) : xG xs LS d mi F S Q := by
  refine ⟨1, _, _, ?_, k⟩
  unfold xm_run
  rw [ha]
  simp [hf, hH, hd]
theorem xG.call {F : xm_F} {S : xm_S} {y : Nat} {as rest : List Value} (ha : xm_act xs LS xKT xDF xP mi F S = some (.inr (.inr (.inr (y, as, rest)))))
    (k : xG xs LS d y (0, xm_entry xP y as, []) (S.1, S.2.1, true) (fun r S' => ∃ v, r = .inl v ∧ xG xs LS (d + 1) mi (F.1 + 3, F.2.1, v.toList ++ rest) (S'.1, S'.2.1, S.2.2 && S'.2.2) Q)) : xG xs LS (d + 1) mi F S Q := by
  obtain ⟨n, r, S', h1, v, rfl, n2, r2, S2, h2, hQ⟩ := k
  refine ⟨n + n2 + 1, r2, S2, ?_, hQ⟩
  unfold xm_run
  rw [ha]
  simp only
  rw [xm_run_le (k := n2) h1]
  simp only
  have h3 := xm_run_le (k := n) h2
  rw [Nat.add_comm n2 n] at h3
  exact h3
/-- a call that may throw: what comes back is caught, or goes on up -/
theorem xG.callT {F : xm_F} {S : xm_S} {y : Nat} {as rest : List Value} (ha : xm_act xs LS xKT xDF xP mi F S = some (.inr (.inr (.inr (y, as, rest)))))
    (k : xG xs LS d y (0, xm_entry xP y as, []) (S.1, S.2.1, true) (fun r S' => (∃ v, r = .inl v ∧ xG xs LS (d + 1) mi (F.1 + 3, F.2.1, v.toList ++ rest) (S'.1, S'.2.1, S.2.2 && S'.2.2) Q) ∨
      (∃ i ci fs, r = .inr i ∧ S'.1[i]? = some (.inr (ci, fs)) ∧ ((∃ t, xm_hand xP mi F.1 ci = some t ∧ xG xs LS (d + 1) mi (t, F.2.1, [.ref i]) (S'.1, S'.2.1, false) Q) ∨ (xm_hand xP mi F.1 ci = none ∧ (S.2.2 && xm_noH xP mi) = true ∧ Q (.inr i) (S'.1, S'.2.1, true)))))) : xG xs LS (d + 1) mi F S Q := by
  obtain ⟨n, r, S', h1, hk⟩ := k
  rcases hk with ⟨v, rfl, n2, r2, S2, h2, hQ⟩ | ⟨i, ci, fs, rfl, hi, ⟨t, ht, n2, r2, S2, h2, hQ⟩ | ⟨ht, hn, hQ⟩⟩
  · refine ⟨n + n2 + 1, r2, S2, ?_, hQ⟩
    unfold xm_run
    rw [ha]
    simp only
    rw [xm_run_le (k := n2) h1]
    simp only
    have h3 := xm_run_le (k := n) h2
    rw [Nat.add_comm n2 n] at h3
    exact h3
  · refine ⟨n + n2 + 1, r2, S2, ?_, hQ⟩
    unfold xm_run
    rw [ha]
    simp only
    rw [xm_run_le (k := n2) h1]
    simp only [hi, ht]
    have h3 := xm_run_le (k := n) h2
    rw [Nat.add_comm n2 n] at h3
    exact h3
  · refine ⟨n + 1, .inr i, (S'.1, S'.2.1, true), ?_, hQ⟩
    unfold xm_run
    rw [ha]
    simp only
    rw [h1]
    simp only [hi, ht, hn, if_true]
end XG
section XR
variable {xs : Nat → Int32} {LS d mi pc a0 b0 k0 d0 : Nat} {L : List (Option Value)} {st : List Value} {h : List va_E} {ks : Nat} {fl : Bool} {Q : (Option Value ⊕ Nat) → xm_S → Prop}
theorem xg_iconst {n : Int} {v : Int32} (ha : xm_at xP mi pc = some (pc, .iconst n, a0, b0, k0, d0)) (hv : Int32.ofInt n = v) (k : xG xs LS d mi (pc + 1, L, .int v :: st) (h, ks, fl) Q) : xG xs LS d mi (pc, L, st) (h, ks, fl) Q := xG.step (by subst hv; unfold xm_act; rw [ha]; rfl) k
theorem xg_bipush {n : Int} {v : Int32} (ha : xm_at xP mi pc = some (pc, .bipush n, a0, b0, k0, d0)) (hv : (Int8.ofInt n).toInt32 = v) (k : xG xs LS d mi (pc + 2, L, .int v :: st) (h, ks, fl) Q) : xG xs LS d mi (pc, L, st) (h, ks, fl) Q := xG.step (by subst hv; unfold xm_act; rw [ha]; rfl) k
theorem xg_sipush {n : Int} {v : Int32} (ha : xm_at xP mi pc = some (pc, .sipush n, a0, b0, k0, d0)) (hv : (Int16.ofInt n).toInt32 = v) (k : xG xs LS d mi (pc + 3, L, .int v :: st) (h, ks, fl) Q) : xG xs LS d mi (pc, L, st) (h, ks, fl) Q := xG.step (by subst hv; unfold xm_act; rw [ha]; rfl) k
theorem xg_ldc {ix : Nat} {v : Int32} (ha : xm_at xP mi pc = some (pc, .ldc ix, a0, b0, k0, d0)) (hv : Int32.ofNat a0 = v) (k : xG xs LS d mi (pc + 2, L, .int v :: st) (h, ks, fl) Q) : xG xs LS d mi (pc, L, st) (h, ks, fl) Q := xG.step (by subst hv; unfold xm_act; rw [ha]; rfl) k
theorem xg_ldcw {ix : Nat} {v : Int32} (ha : xm_at xP mi pc = some (pc, .ldc_w ix, a0, b0, k0, d0)) (hv : Int32.ofNat a0 = v) (k : xG xs LS d mi (pc + 3, L, .int v :: st) (h, ks, fl) Q) : xG xs LS d mi (pc, L, st) (h, ks, fl) Q := xG.step (by subst hv; unfold xm_act; rw [ha]; rfl) k
theorem xg_iload {j : Nat} {x : Int32} (ha : xm_at xP mi pc = some (pc, .iload j, a0, b0, k0, d0)) (hl : L[j]? = some (some (.int x))) (k : xG xs LS d mi (pc + 2, L, .int x :: st) (h, ks, fl) Q) : xG xs LS d mi (pc, L, st) (h, ks, fl) Q := xG.step (by unfold xm_act; rw [ha]; simp only [xm_small, if_true, xm_ins, hl]) k
theorem xg_iload_n {j : Fin 4} {x : Int32} (ha : xm_at xP mi pc = some (pc, .iload_n j, a0, b0, k0, d0)) (hl : L[j.val]? = some (some (.int x))) (k : xG xs LS d mi (pc + 1, L, .int x :: st) (h, ks, fl) Q) : xG xs LS d mi (pc, L, st) (h, ks, fl) Q := xG.step (by unfold xm_act; rw [ha]; simp only [xm_small, if_true, xm_ins, hl]) k
theorem xg_aload {j : Nat} {x : Nat} (ha : xm_at xP mi pc = some (pc, .aload j, a0, b0, k0, d0)) (hl : L[j]? = some (some (.ref x))) (k : xG xs LS d mi (pc + 2, L, .ref x :: st) (h, ks, fl) Q) : xG xs LS d mi (pc, L, st) (h, ks, fl) Q := xG.step (by unfold xm_act; rw [ha]; simp only [xm_small, if_true, xm_ins, hl]) k
theorem xg_aload_n {j : Fin 4} {x : Nat} (ha : xm_at xP mi pc = some (pc, .aload_n j, a0, b0, k0, d0)) (hl : L[j.val]? = some (some (.ref x))) (k : xG xs LS d mi (pc + 1, L, .ref x :: st) (h, ks, fl) Q) : xG xs LS d mi (pc, L, st) (h, ks, fl) Q := xG.step (by unfold xm_act; rw [ha]; simp only [xm_small, if_true, xm_ins, hl]) k
theorem xg_aload_s {j : Fin 4} {x : Nat} (ha : xm_at xP mi pc = some (pc, .aload_n j, a0, b0, k0, d0)) (hl : L[j.val]? = some (some (.retAddr x))) (k : xG xs LS d mi (pc + 1, L, .retAddr x :: st) (h, ks, fl) Q) : xG xs LS d mi (pc, L, st) (h, ks, fl) Q := xG.step (by unfold xm_act; rw [ha]; simp only [xm_small, if_true, xm_ins, hl]) k
theorem xg_istore {j : Nat} {x : Int32} {L' : List (Option Value)} (ha : xm_at xP mi pc = some (pc, .istore j, a0, b0, k0, d0)) (hl : j < L.length) (hL : L.set j (some (.int x)) = L') (k : xG xs LS d mi (pc + 2, L', st) (h, ks, fl) Q) : xG xs LS d mi (pc, L, .int x :: st) (h, ks, fl) Q := xG.step (by subst hL; unfold xm_act; rw [ha]; simp only [xm_small, if_true, xm_ins, hl]) k
theorem xg_istore_n {j : Fin 4} {x : Int32} {L' : List (Option Value)} (ha : xm_at xP mi pc = some (pc, .istore_n j, a0, b0, k0, d0)) (hl : j.val < L.length) (hL : L.set j.val (some (.int x)) = L') (k : xG xs LS d mi (pc + 1, L', st) (h, ks, fl) Q) : xG xs LS d mi (pc, L, .int x :: st) (h, ks, fl) Q := xG.step (by subst hL; unfold xm_act; rw [ha]; simp only [xm_small, if_true, xm_ins, hl]) k
theorem xg_astore {j : Nat} {x : Nat} {L' : List (Option Value)} (ha : xm_at xP mi pc = some (pc, .astore j, a0, b0, k0, d0)) (hl : j < L.length) (hL : L.set j (some (.ref x)) = L') (k : xG xs LS d mi (pc + 2, L', st) (h, ks, fl) Q) : xG xs LS d mi (pc, L, .ref x :: st) (h, ks, fl) Q := xG.step (by subst hL; unfold xm_act; rw [ha]; simp only [xm_small, if_true, xm_ins, hl]) k
theorem xg_astore_n {j : Fin 4} {x : Nat} {L' : List (Option Value)} (ha : xm_at xP mi pc = some (pc, .astore_n j, a0, b0, k0, d0)) (hl : j.val < L.length) (hL : L.set j.val (some (.ref x)) = L') (k : xG xs LS d mi (pc + 1, L', st) (h, ks, fl) Q) : xG xs LS d mi (pc, L, .ref x :: st) (h, ks, fl) Q := xG.step (by subst hL; unfold xm_act; rw [ha]; simp only [xm_small, if_true, xm_ins, hl]) k
theorem xg_iinc {j : Nat} {n : Int} {x v : Int32} {L' : List (Option Value)} (ha : xm_at xP mi pc = some (pc, .iinc j n, a0, b0, k0, d0)) (hl : L[j]? = some (some (.int x))) (hv : x + Int32.ofInt n = v) (hL : L.set j (some (.int v)) = L') (k : xG xs LS d mi (pc + 3, L', st) (h, ks, fl) Q) : xG xs LS d mi (pc, L, st) (h, ks, fl) Q := xG.step (by subst hL; subst hv; unfold xm_act; rw [ha]; simp only [xm_small, if_true, xm_ins, hl]) k
theorem xg_iadd {x y v : Int32} (ha : xm_at xP mi pc = some (pc, .iadd, a0, b0, k0, d0)) (hv : x + y = v) (k : xG xs LS d mi (pc + 1, L, .int v :: st) (h, ks, fl) Q) : xG xs LS d mi (pc, L, .int y :: .int x :: st) (h, ks, fl) Q := xG.step (by subst hv; unfold xm_act; rw [ha]; rfl) k
theorem xg_isub {x y v : Int32} (ha : xm_at xP mi pc = some (pc, .isub, a0, b0, k0, d0)) (hv : x - y = v) (k : xG xs LS d mi (pc + 1, L, .int v :: st) (h, ks, fl) Q) : xG xs LS d mi (pc, L, .int y :: .int x :: st) (h, ks, fl) Q := xG.step (by subst hv; unfold xm_act; rw [ha]; rfl) k
theorem xg_imul {x y v : Int32} (ha : xm_at xP mi pc = some (pc, .imul, a0, b0, k0, d0)) (hv : x * y = v) (k : xG xs LS d mi (pc + 1, L, .int v :: st) (h, ks, fl) Q) : xG xs LS d mi (pc, L, .int y :: .int x :: st) (h, ks, fl) Q := xG.step (by subst hv; unfold xm_act; rw [ha]; rfl) k
theorem xg_iand {x y v : Int32} (ha : xm_at xP mi pc = some (pc, .iand, a0, b0, k0, d0)) (hv : x &&& y = v) (k : xG xs LS d mi (pc + 1, L, .int v :: st) (h, ks, fl) Q) : xG xs LS d mi (pc, L, .int y :: .int x :: st) (h, ks, fl) Q := xG.step (by subst hv; unfold xm_act; rw [ha]; rfl) k
theorem xg_ior {x y v : Int32} (ha : xm_at xP mi pc = some (pc, .ior, a0, b0, k0, d0)) (hv : x ||| y = v) (k : xG xs LS d mi (pc + 1, L, .int v :: st) (h, ks, fl) Q) : xG xs LS d mi (pc, L, .int y :: .int x :: st) (h, ks, fl) Q := xG.step (by subst hv; unfold xm_act; rw [ha]; rfl) k
theorem xg_ixor {x y v : Int32} (ha : xm_at xP mi pc = some (pc, .ixor, a0, b0, k0, d0)) (hv : x ^^^ y = v) (k : xG xs LS d mi (pc + 1, L, .int v :: st) (h, ks, fl) Q) : xG xs LS d mi (pc, L, .int y :: .int x :: st) (h, ks, fl) Q := xG.step (by subst hv; unfold xm_act; rw [ha]; rfl) k
theorem xg_ishl {x y v : Int32} (ha : xm_at xP mi pc = some (pc, .ishl, a0, b0, k0, d0)) (hv : x <<< (y &&& 31) = v) (k : xG xs LS d mi (pc + 1, L, .int v :: st) (h, ks, fl) Q) : xG xs LS d mi (pc, L, .int y :: .int x :: st) (h, ks, fl) Q := xG.step (by subst hv; unfold xm_act; rw [ha]; rfl) k
theorem xg_ishr {x y v : Int32} (ha : xm_at xP mi pc = some (pc, .ishr, a0, b0, k0, d0)) (hv : x >>> (y &&& 31) = v) (k : xG xs LS d mi (pc + 1, L, .int v :: st) (h, ks, fl) Q) : xG xs LS d mi (pc, L, .int y :: .int x :: st) (h, ks, fl) Q := xG.step (by subst hv; unfold xm_act; rw [ha]; rfl) k
theorem xg_iushr {x y v : Int32} (ha : xm_at xP mi pc = some (pc, .iushr, a0, b0, k0, d0)) (hv : (x.toUInt32 >>> (y.toUInt32 &&& Int32.toUInt32 31)).toInt32 = v) (k : xG xs LS d mi (pc + 1, L, .int v :: st) (h, ks, fl) Q) : xG xs LS d mi (pc, L, .int y :: .int x :: st) (h, ks, fl) Q := xG.step (by subst hv; unfold xm_act; rw [ha]; rfl) k
theorem xg_ineg {x v : Int32} (ha : xm_at xP mi pc = some (pc, .ineg, a0, b0, k0, d0)) (hv : -x = v) (k : xG xs LS d mi (pc + 1, L, .int v :: st) (h, ks, fl) Q) : xG xs LS d mi (pc, L, .int x :: st) (h, ks, fl) Q := xG.step (by subst hv; unfold xm_act; rw [ha]; rfl) k
theorem xg_i2l {x : Int32} {v : Int64} (ha : xm_at xP mi pc = some (pc, .i2l, a0, b0, k0, d0)) (hv : x.toInt64 = v) (k : xG xs LS d mi (pc + 1, L, .long v :: st) (h, ks, fl) Q) : xG xs LS d mi (pc, L, .int x :: st) (h, ks, fl) Q := xG.step (by subst hv; unfold xm_act; rw [ha]; rfl) k
theorem xg_lcmp {x y : Int64} {v : Int32} (ha : xm_at xP mi pc = some (pc, .lcmp, a0, b0, k0, d0)) (hv : lg_cmp x y = v) (k : xG xs LS d mi (pc + 1, L, .int v :: st) (h, ks, fl) Q) : xG xs LS d mi (pc, L, .long y :: .long x :: st) (h, ks, fl) Q := xG.step (by subst hv; unfold xm_act; rw [ha]; rfl) k
theorem xg_dup_r {x : Nat} (ha : xm_at xP mi pc = some (pc, .dup, a0, b0, k0, d0)) (k : xG xs LS d mi (pc + 1, L, .ref x :: .ref x :: st) (h, ks, fl) Q) : xG xs LS d mi (pc, L, .ref x :: st) (h, ks, fl) Q := xG.step (by unfold xm_act; rw [ha]; rfl) k
theorem xg_dup_i {x : Int32} (ha : xm_at xP mi pc = some (pc, .dup, a0, b0, k0, d0)) (k : xG xs LS d mi (pc + 1, L, .int x :: .int x :: st) (h, ks, fl) Q) : xG xs LS d mi (pc, L, .int x :: st) (h, ks, fl) Q := xG.step (by unfold xm_act; rw [ha]; rfl) k
theorem xg_pop_i {x : Int32} (ha : xm_at xP mi pc = some (pc, .pop, a0, b0, k0, d0)) (k : xG xs LS d mi (pc + 1, L, st) (h, ks, fl) Q) : xG xs LS d mi (pc, L, .int x :: st) (h, ks, fl) Q := xG.step (by unfold xm_act; rw [ha]; rfl) k
theorem xg_if_eq {x : Int32} {off : Int} (ha : xm_at xP mi pc = some (pc, .ifCond .eq off, a0, b0, k0, d0)) (kt : x = 0 → xG xs LS d mi (a0, L, st) (h, ks, fl) Q) (kf : ¬ x = 0 → xG xs LS d mi (pc + 3, L, st) (h, ks, fl) Q) : xG xs LS d mi (pc, L, .int x :: st) (h, ks, fl) Q := by
  by_cases hc : x = 0
  · exact xG.step (F' := (a0, L, st)) (by unfold xm_act; rw [ha]; simp only [xm_small, if_true, xm_ins, if_pos hc]) (kt hc)
  · exact xG.step (F' := (pc + 3, L, st)) (by unfold xm_act; rw [ha]; simp only [xm_small, if_true, xm_ins, if_neg hc]) (kf hc)
theorem xg_icmp_eq {x y : Int32} {off : Int} (ha : xm_at xP mi pc = some (pc, .if_icmp .eq off, a0, b0, k0, d0)) (kt : x = y → xG xs LS d mi (a0, L, st) (h, ks, fl) Q) (kf : ¬ x = y → xG xs LS d mi (pc + 3, L, st) (h, ks, fl) Q) : xG xs LS d mi (pc, L, .int y :: .int x :: st) (h, ks, fl) Q := by
  by_cases hc : x = y
  · exact xG.step (F' := (a0, L, st)) (by unfold xm_act; rw [ha]; simp only [xm_small, if_true, xm_ins, if_pos hc]) (kt hc)
  · exact xG.step (F' := (pc + 3, L, st)) (by unfold xm_act; rw [ha]; simp only [xm_small, if_true, xm_ins, if_neg hc]) (kf hc)
theorem xg_if_ne {x : Int32} {off : Int} (ha : xm_at xP mi pc = some (pc, .ifCond .ne off, a0, b0, k0, d0)) (kt : ¬ x = 0 → xG xs LS d mi (a0, L, st) (h, ks, fl) Q) (kf : x = 0 → xG xs LS d mi (pc + 3, L, st) (h, ks, fl) Q) : xG xs LS d mi (pc, L, .int x :: st) (h, ks, fl) Q := by
  by_cases hc : ¬ x = 0
  · exact xG.step (F' := (a0, L, st)) (by unfold xm_act; rw [ha]; simp only [xm_small, if_true, xm_ins, if_pos hc]) (kt hc)
  · exact xG.step (F' := (pc + 3, L, st)) (by unfold xm_act; rw [ha]; simp only [xm_small, if_true, xm_ins, if_neg hc]) (kf (Classical.not_not.mp hc))
theorem xg_icmp_ne {x y : Int32} {off : Int} (ha : xm_at xP mi pc = some (pc, .if_icmp .ne off, a0, b0, k0, d0)) (kt : ¬ x = y → xG xs LS d mi (a0, L, st) (h, ks, fl) Q) (kf : x = y → xG xs LS d mi (pc + 3, L, st) (h, ks, fl) Q) : xG xs LS d mi (pc, L, .int y :: .int x :: st) (h, ks, fl) Q := by
  by_cases hc : ¬ x = y
  · exact xG.step (F' := (a0, L, st)) (by unfold xm_act; rw [ha]; simp only [xm_small, if_true, xm_ins, if_pos hc]) (kt hc)
  · exact xG.step (F' := (pc + 3, L, st)) (by unfold xm_act; rw [ha]; simp only [xm_small, if_true, xm_ins, if_neg hc]) (kf (Classical.not_not.mp hc))
theorem xg_if_lt {x : Int32} {off : Int} (ha : xm_at xP mi pc = some (pc, .ifCond .lt off, a0, b0, k0, d0)) (kt : x < 0 → xG xs LS d mi (a0, L, st) (h, ks, fl) Q) (kf : ¬ x < 0 → xG xs LS d mi (pc + 3, L, st) (h, ks, fl) Q) : xG xs LS d mi (pc, L, .int x :: st) (h, ks, fl) Q := by
  by_cases hc : x < 0
  · exact xG.step (F' := (a0, L, st)) (by unfold xm_act; rw [ha]; simp only [xm_small, if_true, xm_ins, if_pos hc]) (kt hc)
  · exact xG.step (F' := (pc + 3, L, st)) (by unfold xm_act; rw [ha]; simp only [xm_small, if_true, xm_ins, if_neg hc]) (kf hc)
theorem xg_icmp_lt {x y : Int32} {off : Int} (ha : xm_at xP mi pc = some (pc, .if_icmp .lt off, a0, b0, k0, d0)) (kt : x < y → xG xs LS d mi (a0, L, st) (h, ks, fl) Q) (kf : ¬ x < y → xG xs LS d mi (pc + 3, L, st) (h, ks, fl) Q) : xG xs LS d mi (pc, L, .int y :: .int x :: st) (h, ks, fl) Q := by
  by_cases hc : x < y
  · exact xG.step (F' := (a0, L, st)) (by unfold xm_act; rw [ha]; simp only [xm_small, if_true, xm_ins, if_pos hc]) (kt hc)
  · exact xG.step (F' := (pc + 3, L, st)) (by unfold xm_act; rw [ha]; simp only [xm_small, if_true, xm_ins, if_neg hc]) (kf hc)
theorem xg_if_ge {x : Int32} {off : Int} (ha : xm_at xP mi pc = some (pc, .ifCond .ge off, a0, b0, k0, d0)) (kt : 0 ≤ x → xG xs LS d mi (a0, L, st) (h, ks, fl) Q) (kf : ¬ 0 ≤ x → xG xs LS d mi (pc + 3, L, st) (h, ks, fl) Q) : xG xs LS d mi (pc, L, .int x :: st) (h, ks, fl) Q := by
  by_cases hc : 0 ≤ x
  · exact xG.step (F' := (a0, L, st)) (by unfold xm_act; rw [ha]; simp only [xm_small, if_true, xm_ins, if_pos hc]) (kt hc)
  · exact xG.step (F' := (pc + 3, L, st)) (by unfold xm_act; rw [ha]; simp only [xm_small, if_true, xm_ins, if_neg hc]) (kf hc)
theorem xg_icmp_ge {x y : Int32} {off : Int} (ha : xm_at xP mi pc = some (pc, .if_icmp .ge off, a0, b0, k0, d0)) (kt : y ≤ x → xG xs LS d mi (a0, L, st) (h, ks, fl) Q) (kf : ¬ y ≤ x → xG xs LS d mi (pc + 3, L, st) (h, ks, fl) Q) : xG xs LS d mi (pc, L, .int y :: .int x :: st) (h, ks, fl) Q := by
  by_cases hc : y ≤ x
  · exact xG.step (F' := (a0, L, st)) (by unfold xm_act; rw [ha]; simp only [xm_small, if_true, xm_ins, if_pos hc]) (kt hc)
  · exact xG.step (F' := (pc + 3, L, st)) (by unfold xm_act; rw [ha]; simp only [xm_small, if_true, xm_ins, if_neg hc]) (kf hc)
theorem xg_if_gt {x : Int32} {off : Int} (ha : xm_at xP mi pc = some (pc, .ifCond .gt off, a0, b0, k0, d0)) (kt : 0 < x → xG xs LS d mi (a0, L, st) (h, ks, fl) Q) (kf : ¬ 0 < x → xG xs LS d mi (pc + 3, L, st) (h, ks, fl) Q) : xG xs LS d mi (pc, L, .int x :: st) (h, ks, fl) Q := by
  by_cases hc : 0 < x
  · exact xG.step (F' := (a0, L, st)) (by unfold xm_act; rw [ha]; simp only [xm_small, if_true, xm_ins, if_pos hc]) (kt hc)
  · exact xG.step (F' := (pc + 3, L, st)) (by unfold xm_act; rw [ha]; simp only [xm_small, if_true, xm_ins, if_neg hc]) (kf hc)
theorem xg_icmp_gt {x y : Int32} {off : Int} (ha : xm_at xP mi pc = some (pc, .if_icmp .gt off, a0, b0, k0, d0)) (kt : y < x → xG xs LS d mi (a0, L, st) (h, ks, fl) Q) (kf : ¬ y < x → xG xs LS d mi (pc + 3, L, st) (h, ks, fl) Q) : xG xs LS d mi (pc, L, .int y :: .int x :: st) (h, ks, fl) Q := by
  by_cases hc : y < x
  · exact xG.step (F' := (a0, L, st)) (by unfold xm_act; rw [ha]; simp only [xm_small, if_true, xm_ins, if_pos hc]) (kt hc)
  · exact xG.step (F' := (pc + 3, L, st)) (by unfold xm_act; rw [ha]; simp only [xm_small, if_true, xm_ins, if_neg hc]) (kf hc)
theorem xg_if_le {x : Int32} {off : Int} (ha : xm_at xP mi pc = some (pc, .ifCond .le off, a0, b0, k0, d0)) (kt : x ≤ 0 → xG xs LS d mi (a0, L, st) (h, ks, fl) Q) (kf : ¬ x ≤ 0 → xG xs LS d mi (pc + 3, L, st) (h, ks, fl) Q) : xG xs LS d mi (pc, L, .int x :: st) (h, ks, fl) Q := by
  by_cases hc : x ≤ 0
  · exact xG.step (F' := (a0, L, st)) (by unfold xm_act; rw [ha]; simp only [xm_small, if_true, xm_ins, if_pos hc]) (kt hc)
  · exact xG.step (F' := (pc + 3, L, st)) (by unfold xm_act; rw [ha]; simp only [xm_small, if_true, xm_ins, if_neg hc]) (kf hc)
theorem xg_icmp_le {x y : Int32} {off : Int} (ha : xm_at xP mi pc = some (pc, .if_icmp .le off, a0, b0, k0, d0)) (kt : x ≤ y → xG xs LS d mi (a0, L, st) (h, ks, fl) Q) (kf : ¬ x ≤ y → xG xs LS d mi (pc + 3, L, st) (h, ks, fl) Q) : xG xs LS d mi (pc, L, .int y :: .int x :: st) (h, ks, fl) Q := by
  by_cases hc : x ≤ y
  · exact xG.step (F' := (a0, L, st)) (by unfold xm_act; rw [ha]; simp only [xm_small, if_true, xm_ins, if_pos hc]) (kt hc)
  · exact xG.step (F' := (pc + 3, L, st)) (by unfold xm_act; rw [ha]; simp only [xm_small, if_true, xm_ins, if_neg hc]) (kf hc)
theorem xg_goto {off : Int} (ha : xm_at xP mi pc = some (pc, .goto off, a0, b0, k0, d0)) (k : xG xs LS d mi (a0, L, st) (h, ks, fl) Q) : xG xs LS d mi (pc, L, st) (h, ks, fl) Q := xG.step (by unfold xm_act; rw [ha]; rfl) k
theorem xg_tableIn {dflt lo hi off : Int} {offs : Array Int} {x : Int32} {t : Nat} (ha : xm_at xP mi pc = some (pc, .tableswitch dflt lo hi offs, a0, b0, k0, d0)) (hc : ¬ (x.toInt < lo ∨ hi < x.toInt)) (ho : offs[(x.toInt - lo).toNat]? = some off) (ht : ((pc : Int) + off).toNat = t) (k : xG xs LS d mi (t, L, st) (h, ks, fl) Q) : xG xs LS d mi (pc, L, .int x :: st) (h, ks, fl) Q := xG.step (by subst ht; unfold xm_act; rw [ha]; simp only [xm_small, if_true, xm_ins, if_neg hc, ho]) k
theorem xg_tableOut {dflt lo hi : Int} {offs : Array Int} {x : Int32} {t : Nat} (ha : xm_at xP mi pc = some (pc, .tableswitch dflt lo hi offs, a0, b0, k0, d0)) (hc : x.toInt < lo ∨ hi < x.toInt) (ht : ((pc : Int) + dflt).toNat = t) (k : xG xs LS d mi (t, L, st) (h, ks, fl) Q) : xG xs LS d mi (pc, L, .int x :: st) (h, ks, fl) Q := xG.step (by subst ht; unfold xm_act; rw [ha]; simp only [xm_small, if_true, xm_ins, if_pos hc]) k
theorem xg_getfield {ix r : Nat} {fs : List Value} {v : Value} (ha : xm_at xP mi pc = some (pc, .getfield ix, a0, b0, k0, d0)) (hr : h[r]? = some (.inr (a0, fs))) (hv : fs[b0]? = some v) (k : xG xs LS d mi (pc + 3, L, v :: st) (h, ks, fl) Q) : xG xs LS d mi (pc, L, .ref r :: st) (h, ks, fl) Q := xG.step (by unfold xm_act; rw [ha]; simp only [xm_small, if_true, xm_ins, hr, hv]) k
theorem xg_putfield {ix r : Nat} {fs : List Value} {v : Value} {h' : List va_E} (ha : xm_at xP mi pc = some (pc, .putfield ix, a0, b0, k0, d0)) (hr : h[r]? = some (.inr (a0, fs))) (hb : b0 < fs.length) (hv : xm_fit d0 v = true) (hh : h.set r (.inr (a0, fs.set b0 v)) = h') (k : xG xs LS d mi (pc + 3, L, st) (h', ks, false) Q) : xG xs LS d mi (pc, L, v :: .ref r :: st) (h, ks, fl) Q := xG.step (by subst hh; unfold xm_act; rw [ha]; simp only [xm_small, if_true, xm_ins, hr, hb, hv, and_self]) k
theorem xg_sld {j : Int32} {q : Nat} {v : Int32} (ha : xm_at xP mi pc = some (pc, .iaload, a0, b0, k0, d0)) (hin : ¬ (j < 0 ∨ LS ≤ j.toNatClampNeg)) (hv : xs j.toNatClampNeg = v) (k : xG xs LS d mi (pc + 1, L, .int v :: st) (h, ks, fl) Q) : xG xs LS d mi (pc, L, .int j :: .retAddr q :: st) (h, ks, fl) Q := xG.step (by subst hv; unfold xm_act; rw [ha]; simp only [xm_small, if_true, xm_ins, if_pos hin]) k
theorem xg_iald {r q n : Nat} {j : Int32} {f : Nat → Int32} {v : Int32} (ha : xm_at xP mi pc = some (pc, .iaload, a0, b0, k0, d0)) (hr : h[r]? = some (.inl (q, n, .inl f))) (hq : xKT[q]? = some .int) (hin : ¬ (j < 0 ∨ n ≤ j.toNatClampNeg)) (hv : f j.toNatClampNeg = v) (k : xG xs LS d mi (pc + 1, L, .int v :: st) (h, ks, fl) Q) : xG xs LS d mi (pc, L, .int j :: .ref r :: st) (h, ks, fl) Q := xG.step (by subst hv; unfold xm_act; rw [ha]; simp only [xm_small, if_true, xm_ins, hr, hq, hin, not_false_eq_true, and_self]) k
theorem xg_zald {r q n : Nat} {j : Int32} {f : Nat → Int32} {v : Int32} (ha : xm_at xP mi pc = some (pc, .baload, a0, b0, k0, d0)) (hr : h[r]? = some (.inl (q, n, .inl f))) (hq : xKT[q]? = some .boolean) (hin : ¬ (j < 0 ∨ n ≤ j.toNatClampNeg)) (hv : f j.toNatClampNeg = v) (k : xG xs LS d mi (pc + 1, L, .int v :: st) (h, ks, fl) Q) : xG xs LS d mi (pc, L, .int j :: .ref r :: st) (h, ks, fl) Q := xG.step (by subst hv; unfold xm_act; rw [ha]; simp only [xm_small, if_true, xm_ins, hr, hq, hin, not_false_eq_true, and_self]) k
theorem xg_lald {r q n : Nat} {j : Int32} {f : Nat → Int64} {v : Int64} (ha : xm_at xP mi pc = some (pc, .laload, a0, b0, k0, d0)) (hr : h[r]? = some (.inl (q, n, .inr (.inl f)))) (hq : xKT[q]? = some .long) (hin : ¬ (j < 0 ∨ n ≤ j.toNatClampNeg)) (hv : f j.toNatClampNeg = v) (k : xG xs LS d mi (pc + 1, L, .long v :: st) (h, ks, fl) Q) : xG xs LS d mi (pc, L, .int j :: .ref r :: st) (h, ks, fl) Q := xG.step (by subst hv; unfold xm_act; rw [ha]; simp only [xm_small, if_true, xm_ins, hr, hq, hin, not_false_eq_true, and_self]) k
theorem xg_aald {r q n : Nat} {j : Int32} {f : Nat → Option Nat} {x : Nat} (ha : xm_at xP mi pc = some (pc, .aaload, a0, b0, k0, d0)) (hr : h[r]? = some (.inl (q, n, .inr (.inr (.inr (.inr f)))))) (hq : xm_isO xKT[q]? = true) (hin : ¬ (j < 0 ∨ n ≤ j.toNatClampNeg)) (hv : f j.toNatClampNeg = some x) (k : xG xs LS d mi (pc + 1, L, .ref x :: st) (h, ks, fl) Q) : xG xs LS d mi (pc, L, .int j :: .ref r :: st) (h, ks, fl) Q := xG.step (by unfold xm_act; rw [ha]; simp only [xm_small, if_true, xm_ins, hr, hq, hin, not_false_eq_true, and_self, hv, va_rf]) k
theorem xg_iast {r q n : Nat} {j : Int32} {f f' : Nat → Int32} {x : Int32} {h' : List va_E} (ha : xm_at xP mi pc = some (pc, .iastore, a0, b0, k0, d0)) (hr : h[r]? = some (.inl (q, n, .inl f))) (hq : xKT[q]? = some .int) (hin : ¬ (j < 0 ∨ n ≤ j.toNatClampNeg)) (hv : upd f j.toNatClampNeg x = f') (hh : h.set r (.inl (q, n, .inl f')) = h') (k : xG xs LS d mi (pc + 1, L, st) (h', ks, false) Q) : xG xs LS d mi (pc, L, .int x :: .int j :: .ref r :: st) (h, ks, fl) Q := xG.step (by subst hh; subst hv; unfold xm_act; rw [ha]; simp only [xm_small, if_true, xm_ins, hr, hq, hin, not_false_eq_true, and_self]) k
theorem xg_zast {r q n : Nat} {j : Int32} {f f' : Nat → Int32} {x : Int32} {h' : List va_E} (ha : xm_at xP mi pc = some (pc, .bastore, a0, b0, k0, d0)) (hr : h[r]? = some (.inl (q, n, .inl f))) (hq : xKT[q]? = some .boolean) (hin : ¬ (j < 0 ∨ n ≤ j.toNatClampNeg)) (hv : upd f j.toNatClampNeg (vp_nar .boolean x) = f') (hh : h.set r (.inl (q, n, .inl f')) = h') (k : xG xs LS d mi (pc + 1, L, st) (h', ks, false) Q) : xG xs LS d mi (pc, L, .int x :: .int j :: .ref r :: st) (h, ks, fl) Q := xG.step (by subst hh; subst hv; unfold xm_act; rw [ha]; simp only [xm_small, if_true, xm_ins, hr, hq, hin, not_false_eq_true, and_self]) k
theorem xg_last {r q n : Nat} {j : Int32} {f f' : Nat → Int64} {x : Int64} {h' : List va_E} (ha : xm_at xP mi pc = some (pc, .lastore, a0, b0, k0, d0)) (hr : h[r]? = some (.inl (q, n, .inr (.inl f)))) (hq : xKT[q]? = some .long) (hin : ¬ (j < 0 ∨ n ≤ j.toNatClampNeg)) (hv : vp_updL f j.toNatClampNeg x = f') (hh : h.set r (.inl (q, n, .inr (.inl f'))) = h') (k : xG xs LS d mi (pc + 1, L, st) (h', ks, false) Q) : xG xs LS d mi (pc, L, .long x :: .int j :: .ref r :: st) (h, ks, fl) Q := xG.step (by subst hh; subst hv; unfold xm_act; rw [ha]; simp only [xm_small, if_true, xm_ins, hr, hq, hin, not_false_eq_true, and_self]) k
theorem xg_slen {q : Nat} (ha : xm_at xP mi pc = some (pc, .arraylength, a0, b0, k0, d0)) (k : xG xs LS d mi (pc + 1, L, .int (Int32.ofNat LS) :: st) (h, ks, fl) Q) : xG xs LS d mi (pc, L, .retAddr q :: st) (h, ks, fl) Q := xG.step (by unfold xm_act; rw [ha]; rfl) k
theorem xg_alen {r q : Nat} {x : vp_A} {v : Int32} (ha : xm_at xP mi pc = some (pc, .arraylength, a0, b0, k0, d0)) (hr : h[r]? = some (.inl (q, x))) (hq : q < xKT.length) (hv : Int32.ofNat x.1 = v) (k : xG xs LS d mi (pc + 1, L, .int v :: st) (h, ks, fl) Q) : xG xs LS d mi (pc, L, .ref r :: st) (h, ks, fl) Q := xG.step (by subst hv; unfold xm_act; rw [ha]; simp only [xm_small, if_true, xm_ins, hr, hq]) k
theorem xg_new {ix : Nat} {fs : List Value} (ha : xm_at xP mi pc = some (pc, .new ix, a0, b0, k0, 0)) (hf : xDF[a0]? = some fs) (k : xG xs LS d mi (pc + 3, L, .ref h.length :: st) (h ++ [.inr (a0, fs)], ks + fs.length, false) Q) : xG xs LS d mi (pc, L, st) (h, ks, fl) Q := xG.step (by unfold xm_act; rw [ha]; simp only [xm_small, Bool.false_eq_true, if_false, xm_big, hf, Nat.zero_ne_one]) k
theorem xg_newarr {t : ClassFile.ArrayType} {n : Int32} {m : Nat} {x : (Nat → Int32) ⊕ (Nat → Int64) ⊕ (Nat → UInt32) ⊕ (Nat → UInt64) ⊕ (Nat → Option Nat)} (ha : xm_at xP mi pc = some (pc, .newarray t, a0, b0, k0, d0)) (hx : xm_blank xKT[a0]? = some x) (hn : ¬ n < 0) (hm : n.toNatClampNeg = m) (hm2 : m ≤ 100000) (k : xG xs LS d mi (pc + 2, L, .ref h.length :: st) (h ++ [.inl (a0, m, x)], ks + m, false) Q) : xG xs LS d mi (pc, L, .int n :: st) (h, ks, fl) Q := xG.step (by subst hm; unfold xm_act; rw [ha]; simp only [xm_small, Bool.false_eq_true, if_false, xm_big, hx, hn, hm2, not_false_eq_true, and_self, if_true]) k
theorem xg_anewarr {ix : Nat} {n : Int32} {m : Nat} (ha : xm_at xP mi pc = some (pc, .anewarray ix, a0, b0, k0, d0)) (hx : xm_isO xKT[a0]? = true) (hn : ¬ n < 0) (hm : n.toNatClampNeg = m) (hm2 : m ≤ 100000) (k : xG xs LS d mi (pc + 3, L, .ref h.length :: st) (h ++ [.inl (a0, m, .inr (.inr (.inr (.inr (fun _ => none)))))], ks + m, false) Q) : xG xs LS d mi (pc, L, .int n :: st) (h, ks, fl) Q := xG.step (by subst hm; unfold xm_act; rw [ha]; simp only [xm_small, Bool.false_eq_true, if_false, xm_big, hx, hn, hm2, not_false_eq_true, and_self, if_true]) k
theorem xg_aast {r v n : Nat} {j : Int32} {f f' : Nat → Option Nat} {vs : List Value} {h' : List va_E} (ha : xm_at xP mi pc = some (pc, .aastore, a0, b0, k0, d0)) (hr : h[r]? = some (.inl (a0, n, .inr (.inr (.inr (.inr f)))))) (hv : h[v]? = some (.inr (b0, vs))) (hin : ¬ (j < 0 ∨ n ≤ j.toNatClampNeg)) (hf : va_up f j.toNatClampNeg (some v) = f') (hh : h.set r (.inl (a0, n, .inr (.inr (.inr (.inr f'))))) = h') (k : xG xs LS d mi (pc + 1, L, st) (h', ks, false) Q) : xG xs LS d mi (pc, L, .ref v :: .int j :: .ref r :: st) (h, ks, fl) Q := xG.step (by subst hh; subst hf; unfold xm_act; rw [ha]; simp only [xm_small, Bool.false_eq_true, if_false, xm_big, hr, hv, hin, not_false_eq_true, and_self, if_true]) k
theorem xg_objinit {ix r : Nat} (ha : xm_at xP mi pc = some (pc, .invokespecial ix, a0, b0, k0, 1)) (hs : st.length ≤ 4) (k : xG xs LS d mi (pc + 3, L, st) (h, ks, fl) Q) : xG xs LS d mi (pc, L, .ref r :: st) (h, ks, fl) Q := xG.step (by unfold xm_act; rw [ha]; simp only [xm_small, Bool.false_eq_true, if_false, xm_big, hs, if_true]) k
theorem xg_ireturn {x : Int32} (ha : xm_at xP mi pc = some (pc, .ireturn, a0, b0, k0, 0)) (k : Q (.inl (some (.int x))) (h, ks, fl)) : xG xs LS d mi (pc, L, [.int x]) (h, ks, fl) Q := xG.ret (by unfold xm_act; rw [ha]; simp only [xm_small, Bool.false_eq_true, if_false, xm_big, if_true]) k
theorem xg_zreturn {x : Int32} (ha : xm_at xP mi pc = some (pc, .ireturn, a0, b0, k0, 1)) (hx : x = 0 ∨ x = 1) (k : Q (.inl (some (.int x))) (h, ks, fl)) : xG xs LS d mi (pc, L, [.int x]) (h, ks, fl) Q := xG.ret (by unfold xm_act; rw [ha]; simp only [xm_small, Bool.false_eq_true, if_false, xm_big, Nat.one_ne_zero, if_pos hx]) k
theorem xg_return (ha : xm_at xP mi pc = some (pc, .return_, a0, b0, k0, d0)) (k : Q (.inl none) (h, ks, fl)) : xG xs LS d mi (pc, L, []) (h, ks, fl) Q := xG.ret (by unfold xm_act; rw [ha]; rfl) k
theorem xg_throw {ix : Nat} (ha : xm_at xP mi pc = some (pc, .new ix, a0, b0, k0, 1)) (hs : st.length ≤ 4) (hH : xm_noH xP mi = true) (hd : 5 ≤ d) (k : Q (.inr h.length) (h ++ [.inr (a0, [])], ks + 6, true)) : xG xs LS d mi (pc, L, st) (h, ks, true) Q := xG.thr (by unfold xm_act; rw [ha]; simp only [xm_small, Bool.false_eq_true, if_false, xm_big, hs, if_true]) rfl hH hd k
theorem xg_callI {ix r : Nat} (ha : xm_at xP mi pc = some (pc, .invokespecial ix, a0, b0, k0, 0)) (hs : st.length ≤ 4) (k : xG xs LS d a0 (0, xm_entry xP a0 [.ref r], []) (h, ks, true) (fun r S' => ∃ v, r = .inl v ∧ xG xs LS (d + 1) mi (pc + 3, L, v.toList ++ st) (S'.1, S'.2.1, fl && S'.2.2) Q)) : xG xs LS (d + 1) mi (pc, L, .ref r :: st) (h, ks, fl) Q := xG.call (by unfold xm_act; rw [ha]; simp only [xm_small, Bool.false_eq_true, if_false, xm_big, Nat.zero_ne_one, hs, and_self, if_true]) k
theorem xg_callV {ix r : Nat} {as rest : List Value} {fs : List Value} (ha : xm_at xP mi pc = some (pc, .invokevirtual ix, a0, b0, k0, d0)) (hb : b0 ≤ st.length ∧ (st.drop b0).length ≤ 4 ∧ (st.take b0).all xm_cat = true) (hs : (st.take b0).reverse = .ref r :: as) (hd : st.drop b0 = rest) (hr : h[r]? = some (.inr (k0, fs))) (k : xG xs LS d a0 (0, xm_entry xP a0 (.ref r :: as), []) (h, ks, true) (fun r S' => ∃ v, r = .inl v ∧ xG xs LS (d + 1) mi (pc + 3, L, v.toList ++ rest) (S'.1, S'.2.1, fl && S'.2.2) Q)) : xG xs LS (d + 1) mi (pc, L, st) (h, ks, fl) Q := xG.call (by subst hd; unfold xm_act; rw [ha]; simp only [xm_small, Bool.false_eq_true, if_false, xm_big, if_pos hb, hs, hr, if_true]) k
theorem xg_callS {ix : Nat} {as rest : List Value} (ha : xm_at xP mi pc = some (pc, .invokestatic ix, a0, b0, k0, d0)) (hb : b0 ≤ st.length ∧ (st.drop b0).length ≤ 4 ∧ (st.take b0).all xm_cat = true) (hs : (st.take b0).reverse = as) (hd : st.drop b0 = rest) (k : xG xs LS d a0 (0, xm_entry xP a0 as, []) (h, ks, true) (fun r S' => ∃ v, r = .inl v ∧ xG xs LS (d + 1) mi (pc + 3, L, v.toList ++ rest) (S'.1, S'.2.1, fl && S'.2.2) Q)) : xG xs LS (d + 1) mi (pc, L, st) (h, ks, fl) Q := xG.call (by subst hd; subst hs; unfold xm_act; rw [ha]; simp only [xm_small, Bool.false_eq_true, if_false, xm_big, if_pos hb]) k
theorem xg_callIT {ix r : Nat} (ha : xm_at xP mi pc = some (pc, .invokespecial ix, a0, b0, k0, 0)) (hs : st.length ≤ 4) (k : xG xs LS d a0 (0, xm_entry xP a0 [.ref r], []) (h, ks, true) (fun r S' => (∃ v, r = .inl v ∧ xG xs LS (d + 1) mi (pc + 3, L, v.toList ++ st) (S'.1, S'.2.1, fl && S'.2.2) Q) ∨ (∃ i ci fs, r = .inr i ∧ S'.1[i]? = some (.inr (ci, fs)) ∧ ((∃ t, xm_hand xP mi pc ci = some t ∧ xG xs LS (d + 1) mi (t, L, [.ref i]) (S'.1, S'.2.1, false) Q) ∨ (xm_hand xP mi pc ci = none ∧ (fl && xm_noH xP mi) = true ∧ Q (.inr i) (S'.1, S'.2.1, true)))))) : xG xs LS (d + 1) mi (pc, L, .ref r :: st) (h, ks, fl) Q := xG.callT (by unfold xm_act; rw [ha]; simp only [xm_small, Bool.false_eq_true, if_false, xm_big, Nat.zero_ne_one, hs, and_self, if_true]) k
theorem xg_callVT {ix r : Nat} {as rest : List Value} {fs : List Value} (ha : xm_at xP mi pc = some (pc, .invokevirtual ix, a0, b0, k0, d0)) (hb : b0 ≤ st.length ∧ (st.drop b0).length ≤ 4 ∧ (st.take b0).all xm_cat = true) (hs : (st.take b0).reverse = .ref r :: as) (hd : st.drop b0 = rest) (hr : h[r]? = some (.inr (k0, fs))) (k : xG xs LS d a0 (0, xm_entry xP a0 (.ref r :: as), []) (h, ks, true) (fun r S' => (∃ v, r = .inl v ∧ xG xs LS (d + 1) mi (pc + 3, L, v.toList ++ rest) (S'.1, S'.2.1, fl && S'.2.2) Q) ∨ (∃ i ci fs, r = .inr i ∧ S'.1[i]? = some (.inr (ci, fs)) ∧ ((∃ t, xm_hand xP mi pc ci = some t ∧ xG xs LS (d + 1) mi (t, L, [.ref i]) (S'.1, S'.2.1, false) Q) ∨ (xm_hand xP mi pc ci = none ∧ (fl && xm_noH xP mi) = true ∧ Q (.inr i) (S'.1, S'.2.1, true)))))) : xG xs LS (d + 1) mi (pc, L, st) (h, ks, fl) Q := xG.callT (by subst hd; unfold xm_act; rw [ha]; simp only [xm_small, Bool.false_eq_true, if_false, xm_big, if_pos hb, hs, hr, if_true]) k
theorem xg_callST {ix : Nat} {as rest : List Value} (ha : xm_at xP mi pc = some (pc, .invokestatic ix, a0, b0, k0, d0)) (hb : b0 ≤ st.length ∧ (st.drop b0).length ≤ 4 ∧ (st.take b0).all xm_cat = true) (hs : (st.take b0).reverse = as) (hd : st.drop b0 = rest) (k : xG xs LS d a0 (0, xm_entry xP a0 as, []) (h, ks, true) (fun r S' => (∃ v, r = .inl v ∧ xG xs LS (d + 1) mi (pc + 3, L, v.toList ++ rest) (S'.1, S'.2.1, fl && S'.2.2) Q) ∨ (∃ i ci fs, r = .inr i ∧ S'.1[i]? = some (.inr (ci, fs)) ∧ ((∃ t, xm_hand xP mi pc ci = some t ∧ xG xs LS (d + 1) mi (t, L, [.ref i]) (S'.1, S'.2.1, false) Q) ∨ (xm_hand xP mi pc ci = none ∧ (fl && xm_noH xP mi) = true ∧ Q (.inr i) (S'.1, S'.2.1, true)))))) : xG xs LS (d + 1) mi (pc, L, st) (h, ks, fl) Q := xG.callT (by subst hd; subst hs; unfold xm_act; rw [ha]; simp only [xm_small, Bool.false_eq_true, if_false, xm_big, if_pos hb]) k
end XR
