section
/-! 02.mini: a small machine of our own over the same instructions: a world is a list of cells, a reference is a place in it; the k-th cell lies at the address base + k. '.retAddr' stands for the script. -/
abbrev xm_I : Type := Nat × ClassFile.Instr × Nat × Nat × Nat × Nat
abbrev xm_Hd : Type := Nat × Nat × Nat × Nat × Nat
/-- a method: its name, its bytes, how many locals, what it returns, its handlers (start, end, target, catch type, class), its instructions (pc, instruction, four numbers), its fields' owner -/
abbrev xm_M : Type := MethodName × ByteArray × Nat × Option ClassFile.FieldType × List xm_Hd × List xm_I
abbrev xm_F : Type := Nat × List (Option Value) × List Value
/-- the world: its cells, how many slots were made, whether nothing was written yet in this frame -/
abbrev xm_S : Type := List va_E × Nat × Bool
abbrev xm_A : Type := (xm_F × xm_S) ⊕ (Option Value) ⊕ Nat ⊕ (Nat × List Value × List Value)
/-- a value's kind fits a field: 0 int, 1 boolean, 2 reference -/
def xm_fit : Nat → Value → Bool
  | 0, .int _ => true
  | 1, .int x => x == 0 || x == 1
  | 2, .ref _ => true
  | 2, .null => true
  | _, _ => false
def xm_cat : Value → Bool
  | .int _ => true
  | .ref _ => true
  | .null => true
  | _ => false
def xm_isO : Option ClassFile.FieldType → Bool
  | some (.object _) => true
  | _ => false
/-- one instruction (what is no step of its own world: a return, a throw, a call) -/
def xm_ins (xs : Nat → Int32) (LS : Nat) (kt : List ClassFile.FieldType) (i : ClassFile.Instr) (a b k d pc : Nat) (L : List (Option Value)) (st : List Value) (S : xm_S) : Option xm_A :=
  match i, st with
  | .iconst n, st => some (.inl ((pc + 1, L, .int (Int32.ofInt n) :: st), S))
  | .bipush n, st => some (.inl ((pc + 2, L, .int (Int8.ofInt n).toInt32 :: st), S))
  | .sipush n, st => some (.inl ((pc + 3, L, .int (Int16.ofInt n).toInt32 :: st), S))
  | .ldc _, st => some (.inl ((pc + 2, L, .int (Int32.ofNat a) :: st), S))
  | .ldc_w _, st => some (.inl ((pc + 3, L, .int (Int32.ofNat a) :: st), S))
  | .iload j, st => match L[j]? with
    | some (some (.int x)) => some (.inl ((pc + 2, L, .int x :: st), S))
    | _ => none
  | .iload_n j, st => match L[j.val]? with
    | some (some (.int x)) => some (.inl ((pc + 1, L, .int x :: st), S))
    | _ => none
  | .aload j, st => match L[j]? with
    | some (some (.ref x)) => some (.inl ((pc + 2, L, .ref x :: st), S))
    | some (some (.retAddr x)) => some (.inl ((pc + 2, L, .retAddr x :: st), S))
    | _ => none
  | .aload_n j, st => match L[j.val]? with
    | some (some (.ref x)) => some (.inl ((pc + 1, L, .ref x :: st), S))
    | some (some (.retAddr x)) => some (.inl ((pc + 1, L, .retAddr x :: st), S))
    | _ => none
  | .istore j, .int x :: st => if j < L.length then some (.inl ((pc + 2, L.set j (some (.int x)), st), S)) else none
  | .istore_n j, .int x :: st => if j.val < L.length then some (.inl ((pc + 1, L.set j.val (some (.int x)), st), S)) else none
  | .astore j, .ref x :: st => if j < L.length then some (.inl ((pc + 2, L.set j (some (.ref x)), st), S)) else none
  | .astore_n j, .ref x :: st => if j.val < L.length then some (.inl ((pc + 1, L.set j.val (some (.ref x)), st), S)) else none
  | .iinc j n, st => match L[j]? with
    | some (some (.int x)) => some (.inl ((pc + 3, L.set j (some (.int (x + Int32.ofInt n))), st), S))
    | _ => none
  | .iadd, .int y :: .int x :: st => some (.inl ((pc + 1, L, .int (x + y) :: st), S))
  | .isub, .int y :: .int x :: st => some (.inl ((pc + 1, L, .int (x - y) :: st), S))
  | .imul, .int y :: .int x :: st => some (.inl ((pc + 1, L, .int (x * y) :: st), S))
  | .iand, .int y :: .int x :: st => some (.inl ((pc + 1, L, .int (x &&& y) :: st), S))
  | .ior, .int y :: .int x :: st => some (.inl ((pc + 1, L, .int (x ||| y) :: st), S))
  | .ixor, .int y :: .int x :: st => some (.inl ((pc + 1, L, .int (x ^^^ y) :: st), S))
  | .ishl, .int y :: .int x :: st => some (.inl ((pc + 1, L, .int (x <<< (y &&& 31)) :: st), S))
  | .ishr, .int y :: .int x :: st => some (.inl ((pc + 1, L, .int (x >>> (y &&& 31)) :: st), S))
  | .iushr, .int y :: .int x :: st => some (.inl ((pc + 1, L, .int (x.toUInt32 >>> (y.toUInt32 &&& Int32.toUInt32 31)).toInt32 :: st), S))
  | .ineg, .int x :: st => some (.inl ((pc + 1, L, .int (-x) :: st), S))
  | .i2l, .int x :: st => some (.inl ((pc + 1, L, .long x.toInt64 :: st), S))
  | .lcmp, .long y :: .long x :: st => some (.inl ((pc + 1, L, .int (lg_cmp x y) :: st), S))
  | .dup, v :: st => if xm_cat v then some (.inl ((pc + 1, L, v :: v :: st), S)) else none
  | .pop, v :: st => if xm_cat v then some (.inl ((pc + 1, L, st), S)) else none
  | .ifCond .eq _, .int x :: st => some (.inl ((if x = 0 then a else pc + 3, L, st), S))
  | .ifCond .ne _, .int x :: st => some (.inl ((if ¬ x = 0 then a else pc + 3, L, st), S))
  | .ifCond .lt _, .int x :: st => some (.inl ((if x < 0 then a else pc + 3, L, st), S))
  | .ifCond .ge _, .int x :: st => some (.inl ((if 0 ≤ x then a else pc + 3, L, st), S))
  | .ifCond .gt _, .int x :: st => some (.inl ((if 0 < x then a else pc + 3, L, st), S))
  | .ifCond .le _, .int x :: st => some (.inl ((if x ≤ 0 then a else pc + 3, L, st), S))
  | .if_icmp .eq _, .int y :: .int x :: st => some (.inl ((if x = y then a else pc + 3, L, st), S))
  | .if_icmp .ne _, .int y :: .int x :: st => some (.inl ((if ¬ x = y then a else pc + 3, L, st), S))
  | .if_icmp .lt _, .int y :: .int x :: st => some (.inl ((if x < y then a else pc + 3, L, st), S))
  | .if_icmp .ge _, .int y :: .int x :: st => some (.inl ((if y ≤ x then a else pc + 3, L, st), S))
  | .if_icmp .gt _, .int y :: .int x :: st => some (.inl ((if y < x then a else pc + 3, L, st), S))
  | .if_icmp .le _, .int y :: .int x :: st => some (.inl ((if x ≤ y then a else pc + 3, L, st), S))
  | .goto _, st => some (.inl ((a, L, st), S))
  | .tableswitch dflt lo hi offs, .int x :: st => if x.toInt < lo ∨ hi < x.toInt then some (.inl ((((pc : Int) + dflt).toNat, L, st), S)) else match offs[(x.toInt - lo).toNat]? with
    | some off => some (.inl ((((pc : Int) + off).toNat, L, st), S))
    | none => none
  | .getfield _, .ref r :: st => match S.1[r]? with
    | some (.inr (ci, fs)) => if ci = a then match fs[b]? with
      | some v => some (.inl ((pc + 3, L, v :: st), S))
      | none => none
      else none
    | _ => none
  | .putfield _, v :: .ref r :: st => match S.1[r]? with
    | some (.inr (ci, fs)) => if ci = a ∧ b < fs.length ∧ xm_fit d v = true then some (.inl ((pc + 3, L, st), (S.1.set r (.inr (ci, fs.set b v)), S.2.1, false))) else none
    | _ => none
  | .iaload, .int j :: .retAddr _ :: st => if ¬ (j < 0 ∨ LS ≤ j.toNatClampNeg) then some (.inl ((pc + 1, L, .int (xs j.toNatClampNeg) :: st), S)) else none
  | .iaload, .int j :: .ref r :: st => match S.1[r]? with
    | some (.inl (q, n, .inl f)) => if kt[q]? = some .int ∧ ¬ (j < 0 ∨ n ≤ j.toNatClampNeg) then some (.inl ((pc + 1, L, .int (f j.toNatClampNeg) :: st), S)) else none
    | _ => none
  | .iastore, .int x :: .int j :: .ref r :: st => match S.1[r]? with
    | some (.inl (q, n, .inl f)) => if kt[q]? = some .int ∧ ¬ (j < 0 ∨ n ≤ j.toNatClampNeg) then some (.inl ((pc + 1, L, st), (S.1.set r (.inl (q, n, .inl (upd f j.toNatClampNeg x))), S.2.1, false))) else none
    | _ => none
  | .baload, .int j :: .ref r :: st => match S.1[r]? with
    | some (.inl (q, n, .inl f)) => if kt[q]? = some .boolean ∧ ¬ (j < 0 ∨ n ≤ j.toNatClampNeg) then some (.inl ((pc + 1, L, .int (f j.toNatClampNeg) :: st), S)) else none
    | _ => none
  | .bastore, .int x :: .int j :: .ref r :: st => match S.1[r]? with
    | some (.inl (q, n, .inl f)) => if kt[q]? = some .boolean ∧ ¬ (j < 0 ∨ n ≤ j.toNatClampNeg) then some (.inl ((pc + 1, L, st), (S.1.set r (.inl (q, n, .inl (upd f j.toNatClampNeg (vp_nar .boolean x)))), S.2.1, false))) else none
    | _ => none
  | .laload, .int j :: .ref r :: st => match S.1[r]? with
    | some (.inl (q, n, .inr (.inl f))) => if kt[q]? = some .long ∧ ¬ (j < 0 ∨ n ≤ j.toNatClampNeg) then some (.inl ((pc + 1, L, .long (f j.toNatClampNeg) :: st), S)) else none
    | _ => none
  | .lastore, .long x :: .int j :: .ref r :: st => match S.1[r]? with
    | some (.inl (q, n, .inr (.inl f))) => if kt[q]? = some .long ∧ ¬ (j < 0 ∨ n ≤ j.toNatClampNeg) then some (.inl ((pc + 1, L, st), (S.1.set r (.inl (q, n, .inr (.inl (vp_updL f j.toNatClampNeg x)))), S.2.1, false))) else none
    | _ => none
  | .aaload, .int j :: .ref r :: st => match S.1[r]? with
    | some (.inl (q, n, .inr (.inr (.inr (.inr f))))) => if xm_isO kt[q]? = true ∧ ¬ (j < 0 ∨ n ≤ j.toNatClampNeg) then some (.inl ((pc + 1, L, va_rf (f j.toNatClampNeg) :: st), S)) else none
    | _ => none
  | .arraylength, .retAddr _ :: st => some (.inl ((pc + 1, L, .int (Int32.ofNat LS) :: st), S))
  | .arraylength, .ref r :: st => match S.1[r]? with
    | some (.inl (q, x)) => if q < kt.length then some (.inl ((pc + 1, L, .int (Int32.ofNat x.1) :: st), S)) else none
    | _ => none
  | _, _ => none

/-- a blank array of a kind -/
def xm_blank : Option ClassFile.FieldType → Option ((Nat → Int32) ⊕ (Nat → Int64) ⊕ (Nat → UInt32) ⊕ (Nat → UInt64) ⊕ (Nat → Option Nat))
  | some .int => some (.inl (fun _ => 0))
  | some .boolean => some (.inl (fun _ => 0))
  | some .long => some (.inr (.inl (fun _ => 0)))
  | _ => none
/-- what makes cells, what calls, what returns, what throws -/
def xm_big (kt : List ClassFile.FieldType) (df : List (List Value)) (i : ClassFile.Instr) (a b k d pc : Nat) (L : List (Option Value)) (st : List Value) (S : xm_S) : Option xm_A :=
  match i, st with
  | .ireturn, [.int x] => if d = 0 then some (.inr (.inl (some (.int x)))) else if x = 0 ∨ x = 1 then some (.inr (.inl (some (.int x)))) else none
  | .return_, [] => some (.inr (.inl none))
  | .new _, st => if d = 1 then (if st.length ≤ 4 then some (.inr (.inr (.inl a))) else none) else match df[a]? with
    | some fs => some (.inl ((pc + 3, L, .ref S.1.length :: st), (S.1 ++ [.inr (a, fs)], S.2.1 + fs.length, false)))
    | none => none
  | .newarray _, .int n :: st => match xm_blank kt[a]? with
    | some x => if ¬ n < 0 ∧ n.toNatClampNeg ≤ 1000 then some (.inl ((pc + 2, L, .ref S.1.length :: st), (S.1 ++ [.inl (a, n.toNatClampNeg, x)], S.2.1 + n.toNatClampNeg, false))) else none
    | none => none
  | .anewarray _, .int n :: st => if xm_isO kt[a]? = true ∧ ¬ n < 0 ∧ n.toNatClampNeg ≤ 1000 then some (.inl ((pc + 3, L, .ref S.1.length :: st), (S.1 ++ [.inl (a, n.toNatClampNeg, .inr (.inr (.inr (.inr (fun _ => none)))))], S.2.1 + n.toNatClampNeg, false))) else none
  | .aastore, .ref v :: .int j :: .ref r :: st => match S.1[r]?, S.1[v]? with
    | some (.inl (q, n, .inr (.inr (.inr (.inr f))))), some (.inr (ci, _)) => if q = a ∧ ci = b ∧ ¬ (j < 0 ∨ n ≤ j.toNatClampNeg) then some (.inl ((pc + 1, L, st), (S.1.set r (.inl (q, n, .inr (.inr (.inr (.inr (va_up f j.toNatClampNeg (some v))))))), S.2.1, false))) else none
    | _, _ => none
  | .invokespecial _, .ref r :: st => if d = 1 then (if st.length ≤ 4 then some (.inl ((pc + 3, L, st), S)) else none) else if d = 0 ∧ st.length ≤ 4 then some (.inr (.inr (.inr (a, [.ref r], st)))) else none
  | .invokevirtual _, st => if b ≤ st.length ∧ (st.drop b).length ≤ 4 ∧ (st.take b).all xm_cat = true then match (st.take b).reverse with
      | .ref r :: as => match S.1[r]? with
        | some (.inr (ci, _)) => if ci = k then some (.inr (.inr (.inr (a, .ref r :: as, st.drop b)))) else none
        | _ => none
      | _ => none
    else none
  | .invokestatic _, st => if b ≤ st.length ∧ (st.drop b).length ≤ 4 ∧ (st.take b).all xm_cat = true then some (.inr (.inr (.inr (a, (st.take b).reverse, st.drop b)))) else none
  | _, _ => none
def xm_small : ClassFile.Instr → Bool
  | .ireturn => false
  | .return_ => false
  | .new _ => false
  | .newarray _ => false
  | .anewarray _ => false
  | .aastore => false
  | .invokespecial _ => false
  | .invokevirtual _ => false
  | .invokestatic _ => false
  | _ => true
def xm_at (P : List xm_M) (mi pc : Nat) : Option xm_I := match P[mi]? with
  | some M => M.2.2.2.2.2.find? (fun x => x.1 == pc)
  | none => none
def xm_act (xs : Nat → Int32) (LS : Nat) (kt : List ClassFile.FieldType) (df : List (List Value)) (P : List xm_M) (mi : Nat) (F : xm_F) (S : xm_S) : Option xm_A := match xm_at P mi F.1 with
  | some (_, i, a, b, k, d) => if xm_small i then xm_ins xs LS kt i a b k d F.1 F.2.1 F.2.2 S else xm_big kt df i a b k d F.1 F.2.1 F.2.2 S
  | none => none
def xm_hand (P : List xm_M) (mi pc ci : Nat) : Option Nat := match P[mi]? with
  | some M => (M.2.2.2.2.1.find? (fun x => decide (x.1 ≤ pc) && decide (pc < x.2.1) && x.2.2.2.2 == ci)).map (fun x => x.2.2.1)
  | none => none
def xm_noH (P : List xm_M) (mi : Nat) : Bool := match P[mi]? with
  | some M => M.2.2.2.2.1.isEmpty && (M.1.name != "law")
  | none => false
def xm_entry (P : List xm_M) (mi : Nat) (as : List Value) : List (Option Value) := match P[mi]? with
  | some M => as.map some ++ List.replicate (M.2.2.1 - as.length) none
  | none => []
/-- a run: n steps at most, d frames below at most -/
def xm_run (xs : Nat → Int32) (LS : Nat) (kt : List ClassFile.FieldType) (df : List (List Value)) (P : List xm_M) : Nat → Nat → Nat → xm_F → xm_S → Option ((Option Value ⊕ Nat) × xm_S)
  | 0, _, _, _, _ => none
  | n + 1, d, mi, F, S => match xm_act xs LS kt df P mi F S with
    | none => none
    | some (.inl (F', S')) => xm_run xs LS kt df P n d mi F' S'
    | some (.inr (.inl v)) => some (.inl v, S)
    | some (.inr (.inr (.inl ci))) => if (S.2.2 && xm_noH P mi && decide (5 ≤ d)) = true then some (.inr S.1.length, (S.1 ++ [.inr (ci, [])], S.2.1 + 6, true)) else none
    | some (.inr (.inr (.inr (y, as, rest)))) => match d with
      | 0 => none
      | d' + 1 => match xm_run xs LS kt df P n d' y (0, xm_entry P y as, []) (S.1, S.2.1, true) with
        | none => none
        | some (.inl v, S') => xm_run xs LS kt df P n (d' + 1) mi (F.1 + 3, F.2.1, v.toList ++ rest) (S'.1, S'.2.1, S.2.2 && S'.2.2)
        | some (.inr i, S') => match S'.1[i]? with
          | some (.inr (ci, _)) => match xm_hand P mi F.1 ci with
            | some t => xm_run xs LS kt df P n (d' + 1) mi (t, F.2.1, [.ref i]) (S'.1, S'.2.1, false)
            | none => if (S.2.2 && xm_noH P mi) = true then some (.inr i, (S'.1, S'.2.1, true)) else none
          | _ => none

/-- an instruction's length -/
def xm_len (k : Nat) : ClassFile.Instr → Nat
  | .tableswitch .. => k
  | .bipush _ => 2
  | .ldc _ => 2
  | .iload _ => 2
  | .aload _ => 2
  | .istore _ => 2
  | .astore _ => 2
  | .newarray _ => 2
  | .sipush _ => 3
  | .ldc_w _ => 3
  | .iinc _ _ => 3
  | .ifCond _ _ => 3
  | .if_icmp _ _ => 3
  | .goto _ => 3
  | .getfield _ => 3
  | .putfield _ => 3
  | .new _ => 3
  | .anewarray _ => 3
  | .invokespecial _ => 3
  | .invokevirtual _ => 3
  | .invokestatic _ => 3
  | _ => 1
def xm_tyd (d : Nat) : Option ClassFile.FieldType → Bool
  | some .int => d == 0
  | some .boolean => d == 1
  | some (.object _) => d == 2
  | some (.array _) => d == 2
  | _ => false
/-- an instruction's numbers are right: what the tables say of it -/
def xm_ok (WS : Cond → Bool) (cl : List vw_C) (M : xm_M) (x : xm_I) : Bool :=
  decide (ClassFile.decode M.2.1 x.1 = .ok (x.2.1, xm_len x.2.2.2.2.1 x.2.1)) && match x with
  | (pc, .ifCond _ off, a, _, _, _) => decide ((pc : Int) + off = (a : Int))
  | (pc, .if_icmp _ off, a, _, _, _) => decide ((pc : Int) + off = (a : Int))
  | (pc, .goto off, a, _, _, _) => decide ((pc : Int) + off = (a : Int))
  | (pc, .tableswitch dflt _ _ offs, _, _, _, _) => decide (0 ≤ (pc : Int) + dflt) && offs.toList.all (fun o => decide (0 ≤ (pc : Int) + o))
  | (_, .ldc ix, a, _, _, _) => WS (Cond.constant M.1.cls ix (Int32.ofNat a))
  | (_, .ldc_w ix, a, _, _, _) => WS (Cond.constant M.1.cls ix (Int32.ofNat a))
  | (_, .getfield ix, a, b, _, _) => match cl[a]? with
    | some (C, T, N) => decide (b < N) && ((T b).1 == C) && (WS (Cond.fieldLink M.1.cls ix C (T b).2.1 (T b).2.2.1) || WS (Cond.fieldLinkNest M.1.cls ix C (T b).2.1 (T b).2.2.1 "FibrePairs"))
    | none => false
  | (_, .putfield ix, a, b, _, d) => match cl[a]? with
    | some (C, T, N) => decide (b < N) && ((T b).1 == C) && xm_tyd d (ClassFile.parseFieldDescriptor (T b).2.2.1) && (if (T b).2.2.2 = true then WS (Cond.fieldLink M.1.cls ix C (T b).2.1 (T b).2.2.1) && (M.1.name == "<init>") && (M.1.cls == C) else (WS (Cond.fieldLink M.1.cls ix C (T b).2.1 (T b).2.2.1) || WS (Cond.fieldLinkNest M.1.cls ix C (T b).2.1 (T b).2.2.1 "FibrePairs")))
    | none => false
  | _ => true
end
section
/-! 03.sim: the real machine does what the small one does. -/
def xm_tv (B0 sb : Nat) : Value → Value
  | .ref k => .ref (B0 + k)
  | .retAddr _ => .ref sb
  | .int x => .int x
  | .long x => .long x
  | .float x => .float x
  | .double x => .double x
  | .null => .null
def xm_te (dA : Nat → ClassId) (B0 sb : Nat) : va_E → va_E
  | .inr (ci, fs) => .inr (ci, fs.map (xm_tv B0 sb))
  | .inl (k, n, .inl f) => .inl (dA k, n, .inl f)
  | .inl (k, n, .inr (.inl f)) => .inl (dA k, n, .inr (.inl f))
  | .inl (k, n, .inr (.inr (.inl f))) => .inl (dA k, n, .inr (.inr (.inl f)))
  | .inl (k, n, .inr (.inr (.inr (.inl f)))) => .inl (dA k, n, .inr (.inr (.inr (.inl f))))
  | .inl (k, n, .inr (.inr (.inr (.inr f)))) => .inl (dA k, n, .inr (.inr (.inr (.inr (fun j => (f j).map (fun q => B0 + q))))))
def xm_tw (dA : Nat → ClassId) (B0 sb : Nat) (h : List va_E) : va_W := h.mapIdx (fun k c => (B0 + k, xm_te dA B0 sb c))
def xm_tys (kt : List FieldType) (dA : Nat → ClassId) : List (ClassId × FieldType) := kt.mapIdx (fun k t => (dA k, t))
theorem xm_tw_get {dA : Nat → ClassId} {B0 sb : Nat} {h : List va_E} {k : Nat} {c : va_E} (hk : h[k]? = some c) : (xm_tw dA B0 sb h)[k]? = some (B0 + k, xm_te dA B0 sb c) := by
  simp [xm_tw, List.getElem?_mapIdx, hk]
theorem xm_tys_get {dA : Nat → ClassId} {kt : List FieldType} {k : Nat} {t : FieldType} (hk : kt[k]? = some t) : (xm_tys kt dA)[k]? = some (dA k, t) := by
  simp [xm_tys, List.getElem?_mapIdx, hk]
theorem xm_tw_set {dA : Nat → ClassId} {B0 sb : Nat} {h : List va_E} {k : Nat} {c0 c : va_E} (hk : h[k]? = some c0) : (xm_tw dA B0 sb h).set k (B0 + k, xm_te dA B0 sb c) = xm_tw dA B0 sb (h.set k c) := by
  have hl := (List.getElem?_eq_some_iff.mp hk).1
  apply List.ext_getElem?
  intro i
  by_cases hi : i = k
  · subst hi
    rw [List.getElem?_set_self (by simpa [xm_tw] using hl), xm_tw_get (List.getElem?_set_self hl)]
  · rw [List.getElem?_set_ne (Ne.symm hi)]
    simp [xm_tw, List.getElem?_mapIdx, List.getElem?_set_ne (Ne.symm hi)]
theorem xm_tw_app {dA : Nat → ClassId} {B0 sb : Nat} {h : List va_E} {c : va_E} : xm_tw dA B0 sb (h ++ [c]) = xm_tw dA B0 sb h ++ [(B0 + h.length, xm_te dA B0 sb c)] := by
  simp [xm_tw, List.mapIdx_append]
theorem xm_D {dA : Nat → ClassId} {B0 sb : Nat} {h : List va_E} : va_D (fun q => B0 ≤ q) (xm_tw dA B0 sb h) := by
  have key : ∀ (k : Nat) (q : Nat × va_E), (xm_tw dA B0 sb h)[k]? = some q → q.1 = B0 + k := by
    intro k q hq
    simp only [xm_tw, List.getElem?_mapIdx, Option.map_eq_some_iff] at hq
    obtain ⟨c, -, rfl⟩ := hq
    rfl
  exact ⟨fun i j p q hi hj h => by have h1 := key i p hi; have h2 := key j q hj; omega, fun k q hk => by have h1 := key k q hk; show B0 ≤ q.1; omega⟩
/-- the locals -/
def xm_lv (B0 sb : Nat) (ls : Array Slot) (nL : Nat) (L : List (Option Value)) : Prop := ls.size = nL ∧ lv_wf ls ∧ L.length = nL ∧ ∀ (i : Nat) (v : Value), L[i]? = some (some v) → ls[i]? = some (.val (xm_tv B0 sb v)) ∧ v.category = 1
def xm_al (B0 sb : Nat) (L : List (Option Value)) : List (Nat × Value) := (List.range L.length).filterMap (fun i => (L[i]?).join.map (fun v => (i, xm_tv B0 sb v)))
theorem xm_tv_cat {B0 sb : Nat} {v : Value} : (xm_tv B0 sb v).category = v.category := by cases v <;> rfl
theorem xm_al_mem {B0 sb : Nat} {L : List (Option Value)} {q : Nat × Value} : q ∈ xm_al B0 sb L ↔ ∃ v, L[q.1]? = some (some v) ∧ q.2 = xm_tv B0 sb v := by
  obtain ⟨i, w⟩ := q
  simp only [xm_al, List.mem_filterMap, List.mem_range, Option.map_eq_some_iff, Prod.mk.injEq, Option.join_eq_some_iff]
  constructor
  · rintro ⟨j, hj, v, hv, rfl, rfl⟩
    exact ⟨v, hv, rfl⟩
  · rintro ⟨v, hv, rfl⟩
    exact ⟨i, (List.getElem?_eq_some_iff.mp hv).1, v, hv, rfl, rfl⟩
theorem xm_lv_has {B0 sb : Nat} {ls : Array Slot} {nL : Nat} {L : List (Option Value)} (h : xm_lv B0 sb ls nL L) : lv_has ls nL (xm_al B0 sb L) := by
  refine ⟨h.1, h.2.1, fun q hq => ?_⟩
  obtain ⟨v, hv, hq2⟩ := xm_al_mem.mp hq
  rw [hq2]
  exact (h.2.2.2 q.1 v hv).1
theorem xm_lv_set {B0 sb : Nat} {ls ls' : Array Slot} {nL : Nat} {L : List (Option Value)} {i : Nat} {v : Value} (h : xm_lv B0 sb ls nL L) (hi : i < L.length) (hv : v.category = 1)
    (h' : lv_has ls' nL ((i, xm_tv B0 sb v) :: (xm_al B0 sb L).filter (fun q => !(q.1 == i) && !(q.1 + 1 == i && q.2.category == 2)))) : xm_lv B0 sb ls' nL (L.set i (some v)) := by
  refine ⟨h'.1, h'.2.1, by rw [List.length_set]; exact h.2.2.1, fun j w hw => ?_⟩
  by_cases hj : j = i
  · subst hj
    rw [List.getElem?_set_self hi] at hw
    cases hw
    exact ⟨h'.2.2 (j, xm_tv B0 sb v) List.mem_cons_self, hv⟩
  · rw [List.getElem?_set_ne (Ne.symm hj)] at hw
    have hc := (h.2.2.2 j w hw).2
    refine ⟨h'.2.2 (j, xm_tv B0 sb w) (List.mem_cons_of_mem _ (List.mem_filter.mpr ⟨xm_al_mem.mpr ⟨w, hw, rfl⟩, ?_⟩)), hc⟩
    have hc2 : (xm_tv B0 sb w).category = 1 := by rw [xm_tv_cat]; exact hc
    simp [hj, hc2]
theorem xm_rf {B0 sb : Nat} (r : Option Nat) : xm_tv B0 sb (va_rf r) = va_rf (r.map (fun q => B0 + q)) := by cases r <;> rfl
theorem xm_cat_ok {B0 sb : Nat} {v : Value} (h : xm_cat v = true) : (xm_tv B0 sb v).category = 1 := by cases v <;> first | rfl | (simp [xm_cat] at h)
theorem xm_fit_ok {B0 sb d : Nat} {v : Value} {ty : Option FieldType} (hd : xm_tyd d ty = true) (h : xm_fit d v = true) : ∃ t, ty = some t ∧ narrow t (xm_tv B0 sb v) = xm_tv B0 sb v ∧ fits t (xm_tv B0 sb v) = true := by
  match ty, hd with
  | some .int, hd =>
    have e : d = 0 := by simpa [xm_tyd] using hd
    subst e
    cases v <;> first | exact ⟨_, rfl, rfl, rfl⟩ | (simp [xm_fit] at h)
  | some .boolean, hd =>
    have e : d = 1 := by simpa [xm_tyd] using hd
    subst e
    cases v with
    | int x =>
      have h2 : x = 0 ∨ x = 1 := by simpa [xm_fit] using h
      rcases h2 with rfl | rfl
      · exact ⟨_, rfl, (by show narrow .boolean (.int 0) = .int 0; decide), (by show fits .boolean (.int 0) = true; decide)⟩
      · exact ⟨_, rfl, (by show narrow .boolean (.int 1) = .int 1; decide), (by show fits .boolean (.int 1) = true; decide)⟩
    | _ => simp [xm_fit] at h
  | some (.object _), hd =>
    have e : d = 2 := by simpa [xm_tyd] using hd
    subst e
    cases v <;> first | exact ⟨_, rfl, rfl, rfl⟩ | (simp [xm_fit] at h)
  | some (.array _), hd =>
    have e : d = 2 := by simpa [xm_tyd] using hd
    subst e
    cases v <;> first | exact ⟨_, rfl, rfl, rfl⟩ | (simp [xm_fit] at h)
/-- what the tables say of the classes -/
def xm_cls (WS : Cond → Bool) (cl : List vw_C) : Prop := ∀ (ci : Nat) (C : String) (T : u_T) (N : Nat), cl[ci]? = some (C, T, N) → (∀ w ∈ u_ws C T N, WS w = true) ∧ (∃ ty0 : Nat → FieldType, ∀ k, k < N → parseFieldDescriptor (T k).2.2.1 = some (ty0 k)) ∧ ∀ a, a < N → ∀ b, b < N → a ≠ b → (T a).2.1 ≠ (T b).2.1
/-- the point of a frame -/
def xm_V (D : va_G) (cl : List vw_C) (dA : Nat → ClassId) (B0 sb : Nat) (s : State) (h0 : List va_E) (ks0 nL : Nat) (L : List (Option Value)) (S : xm_S) (H : Heap) (locs : List Loc) (cells slots : Nat) (ls : Array Slot) : Prop :=
  xm_lv B0 sb ls nL L ∧ va_P D cl (xm_tw dA B0 sb S.1) H ∧ va_S (fun q => B0 ≤ q) s.heap H locs ∧ h0.length + cells = S.1.length ∧ slots + ks0 = S.2.1 ∧ (S.2.2 = true → locs = [] ∧ S.1 = h0)
section XM3
variable {p : Program} {l : Launch} {e : Env} {R : Room} {s : State} {m : MethodId} {args : Array Value} {below : List Frame} {meth : Method} {c : Code} {H : Heap} {locs : List Loc} {cells slots : Nat} {Q : State → Prop}
variable {WS : Cond → Bool} {cl : List vw_C} {kt : List FieldType} {dA : Nat → ClassId} {D : va_G} {B0 sb LS : Nat} {xs : Nat → Int32} {M : xm_M} {h0 : List va_E} {ks0 nL : Nat} {ls : Array Slot}
theorem xm_V.lv {L L' : List (Option Value)} {S : xm_S} {ls' : Array Slot} (h : xm_V D cl dA B0 sb s h0 ks0 nL L S H locs cells slots ls) (h' : xm_lv B0 sb ls' nL L') : xm_V D cl dA B0 sb s h0 ks0 nL L' S H locs cells slots ls' := ⟨h', h.2⟩
theorem xm_V.wr {L : List (Option Value)} {S : xm_S} {H1 : Heap} {locs1 : List Loc} {k : Nat} {c0 c1 : va_E} (h : xm_V D cl dA B0 sb s h0 ks0 nL L S H locs cells slots ls) (hk : S.1[k]? = some c0)
    (hP : va_P D cl ((xm_tw dA B0 sb S.1).set k (B0 + k, xm_te dA B0 sb c1)) H1) (hS : va_S (fun q => B0 ≤ q) s.heap H1 locs1) : xm_V D cl dA B0 sb s h0 ks0 nL L (S.1.set k c1, S.2.1, false) H1 locs1 cells slots ls := by
  obtain ⟨h1, h2, h3, h4, h5, h6⟩ := h
  rw [xm_tw_set hk] at hP
  exact ⟨h1, hP, hS, by simpa using h4, h5, fun q => by cases q⟩
theorem xm_size {L : List (Option Value)} {S : xm_S} {g : JFrame} (hsz : s.heap.size = B0 + h0.length) (h : xm_V D cl dA B0 sb s h0 ks0 nL L S H locs cells slots ls)
    (k : H.size = B0 + S.1.length → W p l e R s m args below meth c H locs cells slots Q g) : W p l e R s m args below meth c H locs cells slots Q g := by
  intro T hT X
  have h1 := X.heapSize
  obtain ⟨-, hP, hS, h4, -, -⟩ := h
  refine k ?_ T hT X
  rw [hT] at h1
  have h2 := hS.1
  by_cases hc : cells = 0
  · omega
  · have hl : S.1.length - 1 < S.1.length := by omega
    have h3 := (hP (S.1.length - 1) _ (xm_tw_get (List.getElem?_eq_getElem hl))).lt
    have h5 : B0 + (S.1.length - 1) < H.size := h3
    omega
set_option maxHeartbeats 4000000 in
set_option maxRecDepth 100000 in
theorem xm_sm (hx : p.tables.exec = Jvm.exec) (hb : c.code = M.2.1) (hown : s.vm.findClass M.1.cls = some m.cls) (hmn : M.1.name = "<init>" → meth.name = "<init>") (hts : ∀ w, WS w = true → w.before args s = true) (hK : va_K D cl (xm_tys kt dA) s) (hX : va_X sb LS xs s s.heap) (hsb : sb < B0) (hB0 : B0 ≤ s.heap.size) (hcl : xm_cls WS cl)
    {i : Instr} {a b k d pc : Nat} {L : List (Option Value)} {st : List Value} {S S' : xm_S} {F' : xm_F} (hok : xm_ok WS cl M (pc, i, a, b, k, d) = true) (hact : xm_ins xs LS kt i a b k d pc L st S = some (.inl (F', S')))
    (hV : xm_V D cl dA B0 sb s h0 ks0 nL L S H locs cells slots ls) (kk : ∀ (H' : Heap) (locs' : List Loc) (ls' : Array Slot), xm_V D cl dA B0 sb s h0 ks0 nL F'.2.1 S' H' locs' cells slots ls' → W p l e R s m args below meth c H' locs' cells slots Q (F0 m F'.1 ls' (F'.2.2.map (xm_tv B0 sb)))) :
    W p l e R s m args below meth c H locs cells slots Q (F0 m pc ls (st.map (xm_tv B0 sb))) := by
  simp only [xm_ok, Bool.and_eq_true, decide_eq_true_eq] at hok
  have hdg := hok.1
  unfold xm_ins at hact
  split at hact
  · cases hact
    exact lv_iconst hx hb hdg rfl (kk _ _ _ hV)
  · cases hact
    exact lv_bipush hx hb hdg rfl (kk _ _ _ hV)
  · cases hact
    exact lv_sipush hx hb hdg rfl (kk _ _ _ hV)
  · cases hact
    have hok := hok.2
    simp only [decide_eq_true_eq] at hok
    exact lv_ldc hx hb hown (hts _ hok) hdg (kk _ _ _ hV)
  · cases hact
    have hok := hok.2
    simp only [decide_eq_true_eq] at hok
    exact lv_ldcw hx hb hown (hts _ hok) hdg (kk _ _ _ hV)
  · split at hact
    · rename_i hL
      cases hact
      exact lv_iload hx hb hdg (hV.1.2.2.2 _ _ hL).1 (kk _ _ _ hV)
    · cases hact
  · split at hact
    · rename_i hL
      cases hact
      exact lv_iload_n hx hb hdg rfl (hV.1.2.2.2 _ _ hL).1 (kk _ _ _ hV)
    · cases hact
  · split at hact
    · rename_i hL
      cases hact
      exact lv_aload hx hb hdg (hV.1.2.2.2 _ _ hL).1 (kk _ _ _ hV)
    · rename_i hL
      cases hact
      exact lv_aload hx hb hdg (hV.1.2.2.2 _ _ hL).1 (kk _ _ _ hV)
    · cases hact
  · split at hact
    · rename_i hL
      cases hact
      exact lv_aload_n hx hb hdg rfl (hV.1.2.2.2 _ _ hL).1 (kk _ _ _ hV)
    · rename_i hL
      cases hact
      exact lv_aload_n hx hb hdg rfl (hV.1.2.2.2 _ _ hL).1 (kk _ _ _ hV)
    · cases hact
  · split at hact
    · rename_i hl
      cases hact
      exact lv_istore hx hb hdg (xm_lv_has hV.1) (by rw [← hV.1.2.2.1]; exact hl) rfl (fun ls' h' => kk _ _ _ (hV.lv (xm_lv_set hV.1 hl rfl h')))
    · cases hact
  · split at hact
    · rename_i hl
      cases hact
      exact lv_istore_n hx hb hdg rfl (xm_lv_has hV.1) (by rw [← hV.1.2.2.1]; exact hl) rfl (fun ls' h' => kk _ _ _ (hV.lv (xm_lv_set hV.1 hl rfl h')))
    · cases hact
  · split at hact
    · rename_i hl
      cases hact
      exact lv_astore hx hb hdg (xm_lv_has hV.1) (by rw [← hV.1.2.2.1]; exact hl) rfl (fun ls' h' => kk _ _ _ (hV.lv (xm_lv_set hV.1 hl rfl h')))
    · cases hact
  · split at hact
    · rename_i hl
      cases hact
      exact lv_astore_n hx hb hdg rfl (xm_lv_has hV.1) (by rw [← hV.1.2.2.1]; exact hl) rfl (fun ls' h' => kk _ _ _ (hV.lv (xm_lv_set hV.1 hl rfl h')))
    · cases hact
  · split at hact
    · rename_i hL
      cases hact
      have hl := (List.getElem?_eq_some_iff.mp hL).1
      have hmem : (_, xm_tv B0 sb (Value.int _)) ∈ xm_al B0 sb L := xm_al_mem.mpr ⟨_, hL, rfl⟩
      obtain ⟨k0, hk0⟩ := List.getElem?_of_mem hmem
      exact lv_iinc hx hb hdg (xm_lv_has hV.1) hk0 rfl (by rw [← hV.1.2.2.1]; exact hl) rfl (fun ls' h' => kk _ _ _ (hV.lv (xm_lv_set hV.1 hl rfl h')))
    · cases hact
  · cases hact
    exact lv_iadd hx hb hdg (kk _ _ _ hV)
  · cases hact
    exact lv_isub hx hb hdg (kk _ _ _ hV)
  · cases hact
    exact lv_imul hx hb hdg (kk _ _ _ hV)
  · cases hact
    exact lv_iand hx hb hdg (kk _ _ _ hV)
  · cases hact
    exact lv_ior hx hb hdg (kk _ _ _ hV)
  · cases hact
    exact lv_ixor hx hb hdg (kk _ _ _ hV)
  · cases hact
    exact lv_ishl hx hb hdg (kk _ _ _ hV)
  · cases hact
    exact lv_ishr hx hb hdg (kk _ _ _ hV)
  · cases hact
    exact lv_iushr hx hb hdg rfl (kk _ _ _ hV)
  · cases hact
    exact lv_ineg hx hb hdg (kk _ _ _ hV)
  · cases hact
    exact lv_i2l hx hb hdg rfl (kk _ _ _ hV)
  · cases hact
    exact W.lcmp hx hb hdg (kk _ _ _ hV)
  · split at hact
    · rename_i hc
      cases hact
      exact lv_dup hx hb hdg (xm_cat_ok hc) (kk _ _ _ hV)
    · cases hact
  · split at hact
    · rename_i hc
      cases hact
      exact lv_pop hx hb hdg (xm_cat_ok hc) (kk _ _ _ hV)
    · cases hact
  · cases hact
    have hok := hok.2
    simp only [decide_eq_true_eq] at hok
    have k1 := kk _ _ _ hV
    exact lv_if_eq hx hb hdg hok (fun h => by rw [if_pos h] at k1; exact k1) (fun h => by rw [if_neg h] at k1; exact k1)
  · cases hact
    have hok := hok.2
    simp only [decide_eq_true_eq] at hok
    have k1 := kk _ _ _ hV
    exact lv_if_ne hx hb hdg hok (fun h => by rw [if_pos h] at k1; exact k1) (fun h => by rw [if_neg (fun q => q h)] at k1; exact k1)
  · cases hact
    have hok := hok.2
    simp only [decide_eq_true_eq] at hok
    have k1 := kk _ _ _ hV
    exact lv_if_lt hx hb hdg hok (fun h => by rw [if_pos h] at k1; exact k1) (fun h => by rw [if_neg h] at k1; exact k1)
  · cases hact
    have hok := hok.2
    simp only [decide_eq_true_eq] at hok
    have k1 := kk _ _ _ hV
    exact lv_if_ge hx hb hdg hok (fun h => by rw [if_pos h] at k1; exact k1) (fun h => by rw [if_neg h] at k1; exact k1)
  · cases hact
    have hok := hok.2
    simp only [decide_eq_true_eq] at hok
    have k1 := kk _ _ _ hV
    exact lv_if_gt hx hb hdg hok (fun h => by rw [if_pos h] at k1; exact k1) (fun h => by rw [if_neg h] at k1; exact k1)
  · cases hact
    have hok := hok.2
    simp only [decide_eq_true_eq] at hok
    have k1 := kk _ _ _ hV
    exact lv_if_le hx hb hdg hok (fun h => by rw [if_pos h] at k1; exact k1) (fun h => by rw [if_neg h] at k1; exact k1)
  · cases hact
    have hok := hok.2
    simp only [decide_eq_true_eq] at hok
    have k1 := kk _ _ _ hV
    exact lv_icmp_eq hx hb hdg hok (fun h => by rw [if_pos h] at k1; exact k1) (fun h => by rw [if_neg h] at k1; exact k1)
  · cases hact
    have hok := hok.2
    simp only [decide_eq_true_eq] at hok
    have k1 := kk _ _ _ hV
    exact lv_icmp_ne hx hb hdg hok (fun h => by rw [if_pos h] at k1; exact k1) (fun h => by rw [if_neg (fun q => q h)] at k1; exact k1)
  · cases hact
    have hok := hok.2
    simp only [decide_eq_true_eq] at hok
    have k1 := kk _ _ _ hV
    exact lv_icmp_lt hx hb hdg hok (fun h => by rw [if_pos h] at k1; exact k1) (fun h => by rw [if_neg h] at k1; exact k1)
  · cases hact
    have hok := hok.2
    simp only [decide_eq_true_eq] at hok
    have k1 := kk _ _ _ hV
    exact lv_icmp_ge hx hb hdg hok (fun h => by rw [if_pos h] at k1; exact k1) (fun h => by rw [if_neg h] at k1; exact k1)
  · cases hact
    have hok := hok.2
    simp only [decide_eq_true_eq] at hok
    have k1 := kk _ _ _ hV
    exact lv_icmp_gt hx hb hdg hok (fun h => by rw [if_pos h] at k1; exact k1) (fun h => by rw [if_neg h] at k1; exact k1)
  · cases hact
    have hok := hok.2
    simp only [decide_eq_true_eq] at hok
    have k1 := kk _ _ _ hV
    exact lv_icmp_le hx hb hdg hok (fun h => by rw [if_pos h] at k1; exact k1) (fun h => by rw [if_neg h] at k1; exact k1)
  · cases hact
    have hok := hok.2
    simp only [decide_eq_true_eq] at hok
    exact lv_goto hx hb hdg hok (kk _ _ _ hV)
  · have hok := hok.2
    simp only [Bool.and_eq_true, decide_eq_true_eq, List.all_eq_true] at hok
    split at hact
    · rename_i hc
      cases hact
      exact lv_tableOut hx hb hdg hc (by omega) (kk _ _ _ hV)
    · rename_i hc
      split at hact
      · rename_i off ho
        cases hact
        have h1 := hok.2 off (by
          obtain ⟨h2, h3⟩ := Array.getElem?_eq_some_iff.mp ho
          rw [← h3]
          simp)
        exact lv_tableIn hx hb hdg (fun q => hc (Or.inl q)) (fun q => hc (Or.inr q)) ho (by omega) (kk _ _ _ hV)
      · cases hact
  · split at hact
    · rename_i ci fs hr
      split at hact
      · rename_i hci
        subst hci
        split at hact
        · rename_i v hv
          cases hact
          have hok := hok.2
          dsimp only at hok
          split at hok
          · rename_i C T N hc
            simp only [Bool.and_eq_true, Bool.or_eq_true, decide_eq_true_eq, beq_iff_eq] at hok
            obtain ⟨⟨hbN, hT⟩, hlk⟩ := hok
            have hin := (hcl _ C T N hc).1
            have hv' : ∀ {n : Nat}, fs[n]? = some v → (fs.map (xm_tv B0 sb))[n]? = some (xm_tv B0 sb v) := fun {n} hn => by rw [List.getElem?_map, hn]; rfl
            rcases hlk with hlk | hlk
            · exact va_get hx hb (fun w hw => hts w (hin w hw)) (fun _ h => h) hown hK hV.2.1 _ (xm_tw_get hr) hc _ hbN (hts _ hlk) (fun x h => by rw [← hT]; exact h) (hv' hv) hdg (kk _ _ _ hV)
            · exact va_getN hx hb (fun w hw => hts w (hin w hw)) (fun _ h => h) hown hK hV.2.1 _ (xm_tw_get hr) hc _ hbN (hts _ hlk) (fun x h => by rw [← hT]; exact h) (hv' hv) hdg (kk _ _ _ hV)
          · cases hok
        · cases hact
      · cases hact
    · cases hact
  · split at hact
    · rename_i ci fs hr
      split at hact
      · rename_i hci
        obtain ⟨hci, hbl, hfit⟩ := hci
        subst hci
        cases hact
        have hok := hok.2
        dsimp only at hok
        split at hok
        · rename_i C T N hc
          simp only [Bool.and_eq_true, decide_eq_true_eq, beq_iff_eq] at hok
          obtain ⟨⟨⟨hbN, hT⟩, htd⟩, hlk⟩ := hok
          obtain ⟨hin, ⟨ty0, hty⟩, hnm⟩ := hcl _ C T N hc
          obtain ⟨ty, hpd, hnar, hfits⟩ := xm_fit_ok (B0 := B0) (sb := sb) htd hfit
          have hl' : b < (fs.map (xm_tv B0 sb)).length := by rw [List.length_map]; exact hbl
          have hset : ∀ (n : Nat) (w : Value), (fs.map (xm_tv B0 sb)).set n (xm_tv B0 sb w) = (fs.set n w).map (xm_tv B0 sb) := fun n w => by rw [List.map_set]
          split at hlk
          · rename_i hfin
            simp only [Bool.and_eq_true, decide_eq_true_eq, beq_iff_eq] at hlk
            obtain ⟨⟨hlk, hnm2⟩, hcls⟩ := hlk
            exact va_putF hx hb (fun w hw => hts w (hin w hw)) (fun _ h => h) ty0 hty hnm hown hK hV.2.1 xm_D hV.2.2.1 _ (xm_tw_get hr) hc _ hbN (hts _ hlk) (fun x h => by rw [← hT]; exact h) hfin (hmn hnm2) (hT.trans hcls.symm) hpd hnar hfits hl' hdg
              (fun H1 locs1 hP1 _ hS1 => kk _ _ _ (hV.wr hr (by rw [hset] at hP1; exact hP1) hS1))
          · rename_i hfin
            simp only [Bool.or_eq_true, decide_eq_true_eq] at hlk
            have hfin : (T b).2.2.2 = false := by simpa using hfin
            rcases hlk with hlk | hlk
            · exact va_put hx hb (fun w hw => hts w (hin w hw)) (fun _ h => h) ty0 hty hnm hown hK hV.2.1 xm_D hV.2.2.1 _ (xm_tw_get hr) hc _ hbN (hts _ hlk) (fun x h => by rw [← hT]; exact h) hfin hpd hnar hfits hl' hdg
                (fun H1 locs1 hP1 _ hS1 => kk _ _ _ (hV.wr hr (by rw [hset] at hP1; exact hP1) hS1))
            · exact va_putN hx hb (fun w hw => hts w (hin w hw)) (fun _ h => h) ty0 hty hnm hown hK hV.2.1 xm_D hV.2.2.1 _ (xm_tw_get hr) hc _ hbN (hts _ hlk) (fun x h => by rw [← hT]; exact h) hfin hpd hnar hfits hl' hdg
                (fun H1 locs1 hP1 _ hS1 => kk _ _ _ (hV.wr hr (by rw [hset] at hP1; exact hP1) hS1))
        · cases hok
      · cases hact
    · cases hact
  · split at hact
    · rename_i hin
      cases hact
      exact va_sld hx hb hX (Nat.lt_of_lt_of_le hsb hB0) (Nat.not_le.mpr hsb) hV.2.2.1 hin hdg (kk _ _ _ hV)
    · cases hact
  · split at hact
    · rename_i q n f hr
      split at hact
      · rename_i hin
        cases hact
        exact va_iald hx hb hK hV.2.1 _ _ (xm_tw_get hr) (xm_tys_get hin.1) hin.2 hdg (kk _ _ _ hV)
      · cases hact
    · cases hact
  · split at hact
    · rename_i q n f hr
      split at hact
      · rename_i hin
        cases hact
        exact va_iast hx hb hK hV.2.1 xm_D hV.2.2.1 _ _ (xm_tw_get hr) (xm_tys_get hin.1) hin.2 hdg (fun H1 locs1 hP1 _ hS1 => kk _ _ _ (hV.wr hr hP1 hS1))
      · cases hact
    · cases hact
  · split at hact
    · rename_i q n f hr
      split at hact
      · rename_i hin
        cases hact
        exact va_zald hx hb hK hV.2.1 _ _ (xm_tw_get hr) (xm_tys_get hin.1) hin.2 hdg (kk _ _ _ hV)
      · cases hact
    · cases hact
  · split at hact
    · rename_i q n f hr
      split at hact
      · rename_i hin
        cases hact
        exact va_zast hx hb hK hV.2.1 xm_D hV.2.2.1 _ _ (xm_tw_get hr) (xm_tys_get hin.1) hin.2 hdg (fun H1 locs1 hP1 _ hS1 => kk _ _ _ (hV.wr hr hP1 hS1))
      · cases hact
    · cases hact
  · split at hact
    · rename_i q n f hr
      split at hact
      · rename_i hin
        cases hact
        exact va_lald hx hb hK hV.2.1 _ _ (xm_tw_get hr) (xm_tys_get hin.1) hin.2 hdg (kk _ _ _ hV)
      · cases hact
    · cases hact
  · split at hact
    · rename_i q n f hr
      split at hact
      · rename_i hin
        cases hact
        exact va_last hx hb hK hV.2.1 xm_D hV.2.2.1 _ _ (xm_tw_get hr) (xm_tys_get hin.1) hin.2 hdg (fun H1 locs1 hP1 _ hS1 => kk _ _ _ (hV.wr hr hP1 hS1))
      · cases hact
    · cases hact
  · split at hact
    · rename_i q n f hr
      split at hact
      · rename_i hin
        cases hact
        obtain ⟨hq, hin⟩ := hin
        have hk1 : ∃ C, kt[q]? = some (.object C) := by
          cases hkq : kt[q]? with
          | none => rw [hkq] at hq; cases hq
          | some t => cases t <;> first | exact ⟨_, rfl⟩ | (rw [hkq] at hq; cases hq)
        obtain ⟨C, hk1⟩ := hk1
        have k1 := kk _ _ _ hV
        simp only [List.map_cons, xm_rf] at k1
        exact va_aldq hx hb hK hV.2.1 _ _ (xm_tw_get hr) (xm_tys_get hk1) hin hdg k1
      · cases hact
    · cases hact
  · cases hact
    exact va_slen hx hb hX (Nat.lt_of_lt_of_le hsb hB0) (Nat.not_le.mpr hsb) hV.2.2.1 hdg (kk _ _ _ hV)
  · split at hact
    · rename_i q x hr
      split at hact
      · rename_i hin
        cases hact
        have hr2 := xm_tw_get (dA := dA) (B0 := B0) (sb := sb) hr
        obtain ⟨n, f | f | f | f | f⟩ := x <;> exact va_alen hx hb hK hV.2.1 _ _ hr2 (xm_tys_get (List.getElem?_eq_getElem hin)) rfl hdg (kk _ _ _ hV)
      · cases hact
    · cases hact
  · cases hact

end XM3
end
section
/-! 04.call: calls, returns, throws, catches, new cells. -/
section XM4
variable {p : Program} {l : Launch} {e : Env} {R : Room} {s : State} {m : MethodId} {args : Array Value} {below : List Frame} {meth : Method} {c : Code} {H : Heap} {locs : List Loc} {cells slots : Nat} {Q : State → Prop}
variable {WS : Cond → Bool} {cl : List vw_C} {kt : List FieldType} {dA : Nat → ClassId} {D : va_G} {B0 sb LS : Nat} {xs : Nat → Int32} {M : xm_M} {h0 : List va_E} {ks0 nL : Nat} {ls : Array Slot}
theorem xm_mono {Q' : State → Prop} {g : JFrame} (h : ∀ t, Q t → Q' t) (k : W p l e R s m args below meth c H locs cells slots Q g) : W p l e R s m args below meth c H locs cells slots Q' g := fun T hT X => by
  obtain ⟨t, a, b⟩ := k T hT X
  exact ⟨t, a, h t b⟩
theorem xm_up {g : JFrame} (k : H.size ≤ s.heap.size + cells → W p l e R s m args below meth c H locs cells slots Q g) : W p l e R s m args below meth c H locs cells slots Q g := fun T hT X => by
  have h1 := X.heapSize
  rw [hT] at h1
  exact k h1 T hT X
/-- the earlier state is still there -/
def xm_le (s0 s : State) : Prop := s0.WarmedH s.vm ∧ s0.heap.size ≤ s.heap.size ∧ ∀ q : Nat, q < s0.heap.size → s.heap[q]? = s0.heap[q]?
def xm_o (B0 sb : Nat) : Option Value ⊕ Nat → Outcome
  | .inl v => .returned (v.map (xm_tv B0 sb))
  | .inr i => .threw (B0 + i)
/-- how a method ends -/
def xm_E0 (D : va_G) (cl : List vw_C) (dA : Nat → ClassId) (B0 sb : Nat) (s : State) (h0 : List va_E) (ks0 : Nat) (r : Option Value ⊕ Nat) (S1 : xm_S) (o : Outcome) (t : State) : Prop :=
  o = xm_o B0 sb r ∧ s.WarmedH t.vm ∧ va_P D cl (xm_tw dA B0 sb S1.1) t.heap ∧ t.heap.size = B0 + S1.1.length ∧ (∀ q : Nat, q < B0 → t.heap[q]? = s.heap[q]?) ∧
  (∀ i, r = .inr i → ∃ (ci : Nat) (C : String) (T : u_T), S1.1[i]? = some (.inr (ci, [])) ∧ cl[ci]? = some (C, T, 0)) ∧
  ∃ L : List Loc, (∀ q ∈ L, B0 ≤ q.base) ∧ (S1.2.2 = true → L = [] ∧ ∀ v, r = .inl v → S1.1 = h0) ∧ (∀ i, r = .inr i → L = []) ∧ s.sameButNew ({ t with vm := s.vm } : State) L (S1.1.length - h0.length) (S1.2.1 - ks0)
def xm_End (D : va_G) (cl : List vw_C) (dA : Nat → ClassId) (B0 sb : Nat) (s : State) (below : List Frame) (h0 : List va_E) (ks0 : Nat) (r : Option Value ⊕ Nat) (S1 : xm_S) (t : State) : Prop :=
  ∃ o, t.status = .running ∧ Ended t below o ∧ xm_E0 D cl dA B0 sb s h0 ks0 r S1 o t
/-- a callee that has its contract: it comes to its end -/
theorem xm_callee {T : State} (X : Stand p l e R s m args below meth c T locs cells slots) {g : JFrame} (hg : g.method = m) (hsize : g.locals.size = c.maxLocals) {ig : Instr} {len : Nat} (hdg : decode c.code g.pc = .ok (ig, len)) (hW : 2 * g.monitorRoom + (g.stack.map fun v => v.category).sum ≤ 8)
    {y : MethodName} {bytes : ByteArray} {maxL : Nat} {ret : Option FieldType} {hs : List (Nat × Nat × Nat × Nat)} {rm : Room} {P' : Array Value → State → Prop} {Q' : Array Value → State → Outcome → State → Prop} (hM : MetFree l y (headSpec [.codeWith y bytes maxL ret hs] rm) P' (fun _ _ _ _ _ => True) Q')
    {mk : MethodId} {a : Array Value} (hcode : (Cond.codeWith y bytes maxL ret hs).before a T = true) (hn : T.methodNamed? y = some mk) (hini : (Cond.initialized y.cls).before a T = true) (hfr : rm.frames + 1 ≤ R.frames) (hlo : 8 + (maxL + 11) + rm.locals ≤ R.locals) (hcells : cells + rm.cells ≤ R.cells) (hslots : slots + rm.slots ≤ R.slots) (hP : P' a (T.calling g mk a)) :
    ∃ (o : Outcome) (t : State), Steps p.tables e below (doInvoke e (T.setTop g) [] mk a).1 t ∧ Ended t (.java g :: below) o ∧ Q' a (T.calling g mk a) o t := by
  obtain ⟨m', methY, cY, hn', hmY, hcY, -, hlY, -, -, -, -⟩ := Cond.codeWith_spec hcode
  cases hn.symm.trans hn'
  obtain ⟨kY, hkY, -⟩ := className_of_methodNamed hn
  have hinitY : kY.init = .initialized := Cond.initialized_spec (findClass_of_methodNamed hn) hkY hini
  have h : At T g.method c below := by rw [hg]; exact X.here
  have happ : (headSpec [.codeWith y bytes maxL ret hs] rm).appliesLoose y e.platform (T.calling g mk a) = true :=
    Spec.appliesLoose_calling (g := g) h hdg hn hkY hinitY (X.room_calling (g := g) (R' := rm) hsize hmY hcY hfr (by rw [hlY]; omega) hcells hslots)
      (atoms_intro (fun w hw => by rw [List.mem_singleton.mp hw]; exact hcode))
  have hf : (T.setTop g).frames = (.java g :: []) ++ below := by rw [State.frames_setTop' g h.top, X.tail]; rfl
  obtain ⟨o, t, hst, -, hend, hq⟩ := Free.Steps.callFree hM p X.admits X.cas X.clock (acts := []) hf happ hP trivial
  rw [State.frames_setTop' g h.top, X.tail] at hend
  exact ⟨o, t, hst, hend, hq⟩
end XM4
section XM5
variable {p : Program} {l : Launch} {e : Env} {R : Room} {s : State} {m : MethodId} {args : Array Value} {below : List Frame} {meth : Method} {c : Code} {H : Heap} {locs : List Loc} {cells slots : Nat} {Q : State → Prop}
variable {WS : Cond → Bool} {cl : List vw_C} {kt : List FieldType} {df : List (List Value)} {dA : Nat → ClassId} {D : va_G} {B0 sb LS : Nat} {xs : Nat → Int32} {M : xm_M} {P : List xm_M} {h0 : List va_E} {ks0 nL : Nat} {ls : Array Slot}
theorem xm_fresh {h : List va_E} {q : Nat} {e0 : va_E} {H1 : Heap} (hP : va_P D cl (xm_tw dA B0 sb h ++ [(q, e0)]) H1) (hD : va_D (fun q => B0 ≤ q) (xm_tw dA B0 sb h ++ [(q, e0)])) (hz : H1.size ≤ B0 + h.length + 1) : q = B0 + h.length := by
  have hlen : (xm_tw dA B0 sb h).length = h.length := by simp [xm_tw]
  have hq : (xm_tw dA B0 sb h ++ [(q, e0)])[h.length]? = some (q, e0) := by
    rw [List.getElem?_append_right (by omega)]
    simp [hlen]
  have h1 : q < H1.size := (hP _ _ hq).lt
  have h2 : B0 ≤ q := hD.2 _ _ hq
  by_cases hlt : q - B0 < h.length
  · exfalso
    have h3 : (xm_tw dA B0 sb h ++ [(q, e0)])[q - B0]? = some (B0 + (q - B0), xm_te dA B0 sb h[q - B0]) := by
      rw [List.getElem?_append_left (by omega)]
      exact xm_tw_get (List.getElem?_eq_getElem hlt)
    have h4 := hD.1 _ _ _ _ h3 hq (by show B0 + (q - B0) = q; omega)
    omega
  · omega
theorem xm_V.nw {L : List (Option Value)} {S : xm_S} {H1 : Heap} {q n : Nat} {c1 : va_E} (h : xm_V D cl dA B0 sb s h0 ks0 nL L S H locs cells slots ls) (hsz : s.heap.size = B0 + h0.length)
    (hP : va_P D cl (xm_tw dA B0 sb S.1 ++ [(q, xm_te dA B0 sb c1)]) H1) (hD : va_D (fun q => B0 ≤ q) (xm_tw dA B0 sb S.1 ++ [(q, xm_te dA B0 sb c1)])) (hS : va_S (fun q => B0 ≤ q) s.heap H1 locs) (hz : H1.size ≤ s.heap.size + (cells + 1)) :
    q = B0 + S.1.length ∧ xm_V D cl dA B0 sb s h0 ks0 nL L (S.1 ++ [c1], S.2.1 + n, false) H1 locs (cells + 1) (slots + n) ls := by
  obtain ⟨h1, h2, h3, h4, h5, h6⟩ := h
  have hq := xm_fresh hP hD (by omega)
  subst hq
  rw [← xm_tw_app] at hP
  exact ⟨rfl, h1, hP, hS, by simp only [List.length_append, List.length_singleton]; omega, by show _ = _ + _; omega, fun q => by cases q⟩
theorem xm_sum (st : List Value) : ((st.map (xm_tv B0 sb)).map fun v => v.category).sum ≤ 2 * st.length := by
  induction st with
  | nil => simp
  | cons v t ih =>
    simp only [List.map_cons, List.sum_cons, List.length_cons]
    rcases lv_cat (xm_tv B0 sb v) with h | h <;> omega
theorem xm_dv {B0 sb : Nat} (t : FieldType) : xm_tv B0 sb (defaultValue t) = defaultValue t := by cases t <;> rfl
/-- a making, a store of a reference, the constructor of Object -/
def xm_okN (WS : Cond → Bool) (cl : List vw_C) (kt : List FieldType) (df : List (List Value)) (M : xm_M) (x : xm_I) : Bool :=
  match x with
  | (_, .new ix, a, _, _, d) => if d = 1 then true else match cl[a]?, df[a]? with
    | some (C, T, N), some fs => WS (Cond.classLink M.1.cls ix C) && WS (Cond.instantiable C N) && WS (Cond.initialized C) && (fs.length == N) && (List.range N).all (fun j => decide ((parseFieldDescriptor (T j).2.2.1).map defaultValue = fs[j]?))
    | _, _ => false
  | (_, .newarray t, a, _, _, _) => decide (kt[a]? = some (Op.newarray.typeOf t)) && WS (Cond.arrayClass (Op.newarray.typeOf t))
  | (_, .anewarray ix, a, _, _, _) => match kt[a]? with
    | some (.object C) => WS (Cond.classLink M.1.cls ix C) && WS (Cond.arrayOver (.object C))
    | _ => false
  | (_, .aastore, a, b, _, _) => match kt[a]?, cl[b]? with
    | some (.object C), some (C', _, _) => C == C'
    | _, _ => false
  | (_, .invokespecial ix, _, _, _, d) => if d = 1 then WS (Cond.methodLink M.1.cls ix Lib.objectInit) && WS (Cond.instanceMethod Lib.objectInit) && WS (Cond.code Lib.objectInit ⟨#[0xb1]⟩ 1 none) else true
  | _ => true
set_option maxHeartbeats 4000000 in
set_option maxRecDepth 100000 in
theorem xm_bg (hx : p.tables.exec = Jvm.exec) (hb : c.code = M.2.1) (hml : c.maxLocals = nL) (hown : s.vm.findClass M.1.cls = some m.cls) (hts : ∀ w, WS w = true → w.before args s = true) (hK : va_K D cl (xm_tys kt dA) s) (hsz : s.heap.size = B0 + h0.length) (hcl : xm_cls WS cl) (hRf : 1 ≤ R.frames) (hRl : 58 ≤ R.locals)
    {i : Instr} {a b k d pc : Nat} {L : List (Option Value)} {st : List Value} {S S' : xm_S} {F' : xm_F} (hok : xm_ok WS cl M (pc, i, a, b, k, d) = true) (hokN : xm_okN WS cl kt df M (pc, i, a, b, k, d) = true) (hact : xm_big kt df i a b k d pc L st S = some (.inl (F', S')))
    (hc1 : S'.1.length ≤ R.cells + h0.length) (hc2 : S'.2.1 ≤ R.slots + ks0)
    (hV : xm_V D cl dA B0 sb s h0 ks0 nL L S H locs cells slots ls) (kk : ∀ (H' : Heap) (locs' : List Loc) (cells' slots' : Nat) (ls' : Array Slot), xm_V D cl dA B0 sb s h0 ks0 nL F'.2.1 S' H' locs' cells' slots' ls' → W p l e R s m args below meth c H' locs' cells' slots' Q (F0 m F'.1 ls' (F'.2.2.map (xm_tv B0 sb)))) :
    W p l e R s m args below meth c H locs cells slots Q (F0 m pc ls (st.map (xm_tv B0 sb))) := by
  simp only [xm_ok, Bool.and_eq_true, decide_eq_true_eq] at hok
  have hdg := hok.1
  have hA : ∀ q : Nat, s.heap.size ≤ q → B0 ≤ q := fun q hq => by omega
  have e4 := hV.2.2.2.1
  have e5 := hV.2.2.2.2.1
  unfold xm_big at hact
  split at hact
  · split at hact
    · cases hact
    · split at hact <;> cases hact
  · cases hact
  · split at hact
    · split at hact <;> cases hact
    · rename_i hd1
      split at hact
      · rename_i fs hfs
        cases hact
        simp only [xm_okN, if_neg hd1] at hokN
        rw [hfs] at hokN
        split at hokN
        · rename_i C T N fs' hc hf'
          cases hf'
          simp only [Bool.and_eq_true, decide_eq_true_eq, beq_iff_eq, List.all_eq_true, List.mem_range] at hokN
          obtain ⟨⟨⟨⟨o1, o2⟩, o3⟩, o4⟩, o5⟩ := hokN
          obtain ⟨hin, ⟨ty0, hty⟩, -⟩ := hcl _ C T N hc
          simp only [List.length_append, List.length_singleton] at hc1 hc2
          subst o4
          refine va_new (fs := fs.map (xm_tv B0 sb)) hx hb (fun w hw => hts w (hin w hw)) (fun _ h => h) ty0 hty hown (hts _ o1) (hts _ o2) (hts _ o3) hK hV.2.1 xm_D hV.2.2.1 hA hc (fun j hj => ?_) (by omega) (by omega) hdg (fun q H1 hP1 hD1 hS1 => xm_up fun hz => ?_)
          · have o6 := o5 j hj
            rw [hty j hj] at o6
            simp only [Option.map_some] at o6
            rw [vp_V, List.getD_eq_getElem?_getD, List.getElem?_map, ← o6]
            simp [xm_dv]
          · obtain ⟨rfl, hV'⟩ := hV.nw (n := fs.length) (c1 := .inr (a, fs)) hsz hP1 hD1 hS1 hz
            exact kk _ _ _ _ _ hV'
        · cases hokN
      · cases hact
  · split at hact
    · rename_i x hbk
      split at hact
      · rename_i hn
        cases hact
        simp only [xm_okN, Bool.and_eq_true, decide_eq_true_eq] at hokN
        obtain ⟨o1, o2⟩ := hokN
        simp only [List.length_append, List.length_singleton] at hc1 hc2
        rw [o1] at hbk
        rename_i _ t n st' _
        have hkey : ∀ cA : ClassId, vp_cell cA (n.toNatClampNeg, x) = arrV cA n.toNatClampNeg (fun _ => defaultValue (Op.newarray.typeOf t)) ∧ (xm_te dA B0 sb (.inl (a, n.toNatClampNeg, x)) = .inl (dA a, n.toNatClampNeg, x)) := by
          intro cA
          cases t <;> simp only [Op.newarray.typeOf, xm_blank, Option.some.injEq, reduceCtorEq] at hbk <;> subst hbk <;> exact ⟨rfl, rfl⟩
        have hb8 : componentBytes (Op.newarray.typeOf t) ≤ 8 := by cases t <;> decide
        refine va_newa hx hb (hts _ o2) rfl hK hV.2.1 xm_D hV.2.2.1 hA (fun cA => (hkey cA).1) hn.1 rfl (by have := Nat.mul_le_mul hn.2 hb8; omega) (by omega) (by omega) hdg (fun q cA H1 hK1 hP1 hD1 hS1 => xm_up fun hz => ?_)
        have hcA : cA = dA a := by
          have g1 := (hK1.2 (xm_tys kt dA).length (cA, Op.newarray.typeOf t) (by rw [List.getElem?_append_right (Nat.le_refl _)]; simp)).2
          have g2 := (hK.2 a _ (xm_tys_get o1)).2
          cases t <;> exact Option.some.inj (g1.symm.trans g2)
        subst hcA
        rw [← (hkey (dA a)).2] at hP1 hD1
        obtain ⟨rfl, hV'⟩ := hV.nw (n := n.toNatClampNeg) hsz hP1 hD1 hS1 hz
        exact kk _ _ _ _ _ hV'
      · cases hact
    · cases hact
  · split at hact
    · rename_i hn
      cases hact
      simp only [xm_okN] at hokN
      split at hokN
      · rename_i C o1
        simp only [Bool.and_eq_true, decide_eq_true_eq] at hokN
        obtain ⟨o2, o3⟩ := hokN
        simp only [List.length_append, List.length_singleton] at hc1 hc2
        refine va_newq hx hb hown (hts _ o2) (va_AO.of (hts _ o3)) hK hV.2.1 xm_D hV.2.2.1 hA hn.2.1 rfl (by have := hn.2.2; omega) (by omega) (by omega) hdg (fun q cA H1 hK1 hP1 hD1 hS1 => xm_up fun hz => ?_)
        have hcA : cA = dA a := by
          have g1 := (hK1.2 (xm_tys kt dA).length (cA, .object C) (by rw [List.getElem?_append_right (Nat.le_refl _)]; simp)).2
          have g2 := (hK.2 a _ (xm_tys_get o1)).2
          obtain ⟨_, _, _, _, _, g1⟩ := g1
          obtain ⟨_, _, _, _, _, g2⟩ := g2
          exact Option.some.inj (g1.symm.trans g2)
        subst hcA
        obtain ⟨rfl, hV'⟩ := hV.nw (c1 := .inl (a, _, .inr (.inr (.inr (.inr (fun _ => none)))))) hsz hP1 hD1 hS1 hz
        exact kk _ _ _ _ _ hV'
      · cases hokN
    · cases hact
  · split at hact
    · rename_i q n f ci vs hr hv
      split at hact
      · rename_i hin
        obtain ⟨hq, hci, hin⟩ := hin
        subst hq; subst hci
        cases hact
        simp only [xm_okN] at hokN
        split at hokN
        · rename_i C C' T N o1 o2
          have hCC : C = C' := by simpa using hokN
          subst hCC
          refine va_astq (r := (C, T, N)) hx hb hK hV.2.1 xm_D hV.2.2.1 _ _ _ _ (xm_tw_get hr) (xm_tys_get o1) (xm_tw_get hv) o2 hin hdg (fun H1 locs1 hP1 _ hS1 => kk _ _ _ _ _ (hV.wr hr ?_ hS1))
          have hf : ∀ (k v : Nat), (fun j => (va_up f k (some v) j).map (fun q => B0 + q)) = va_up (fun j => (f j).map (fun q => B0 + q)) k (some (B0 + v)) := by
            intro k v
            funext j
            simp only [va_up]
            split <;> rfl
          rw [← hf] at hP1
          exact hP1
        · cases hokN
      · cases hact
    · cases hact
  · split at hact
    · rename_i hd1
      split at hact
      · rename_i hst
        cases hact
        simp only [xm_okN, if_pos hd1, Bool.and_eq_true, decide_eq_true_eq] at hokN
        obtain ⟨⟨o1, o2⟩, o3⟩ := hokN
        refine W.objInit hx hb hown (hts _ o1) (hts _ o2) (hts _ o3) rfl (by rw [hml]; exact hV.1.1) rfl hdg (by omega) ?_ (kk _ _ _ _ _ hV)
        show 2 * 0 + _ + 12 ≤ _
        refine Nat.le_trans (Nat.add_le_add_right (Nat.add_le_add_left (xm_sum _) (2 * 0)) 12) ?_
        omega
      · cases hact
    · split at hact <;> cases hact
  · split at hact
    · split at hact
      · split at hact
        · split at hact <;> cases hact
        · cases hact
      · cases hact
    · cases hact
  · split at hact <;> cases hact
  · cases hact
end XM5
end
section
/-! 05.front: how a call begins; how a throw ends; how a handler is found. -/
section XM6
variable {p : Program} {l : Launch} {e : Env} {R : Room} {s : State} {m : MethodId} {args : Array Value} {below : List Frame} {meth : Method} {c : Code} {T : State} {H : Heap} {locs : List Loc} {cells slots : Nat} {Q : State → Prop}
/-- a call stands at its callee's door -/
def xm_Fr (p : Program) (l : Launch) (e : Env) (R : Room) (s : State) (m : MethodId) (args : Array Value) (below : List Frame) (meth : Method) (c : Code) (T : State) (locs : List Loc) (cells slots : Nat) (g : JFrame) (rest : List Value) (y : MethodName) (a : Array Value) : Prop :=
  ∃ (vm₁ : Vm) (mk : MethodId), Stand p l e R s m args below meth c (T.setVm vm₁) locs cells slots ∧ s.methodNamed? y = some mk ∧
    ∀ target, (∀ acts, Steps p.tables e below (doInvoke e ((T.setVm vm₁).setTop { g with stack := rest }) acts mk a).1 target) → Steps p.tables e below (T.setTop g) target
theorem xm_par {y : MethodName} {n k : Nat} {sig : MethodDescriptor} (h : (parseMethodDescriptor y.desc).map (fun d => d.parameters.length) = some n) (hs : parseMethodDescriptor y.desc = some sig) (hk : k = n) : k = sig.parameters.length := by
  rw [hs] at h
  rw [hk]
  exact (Option.some.inj h).symm
theorem xm_fV (X : Stand p l e R s m args below meth c T locs cells slots) (hx : p.tables.exec = Jvm.exec) {own C host : String} {ix n : Nat} {y : MethodName} {bytes : ByteArray} {maxL : Nat} {ret : Option FieldType} {hs : List (Nat × Nat × Nat × Nat)}
    (hown : s.vm.findClass own = some m.cls) (hlink : (Cond.methodLink own ix y).before args s = true ∨ (Cond.methodLinkNest own ix y host).before args s = true) (hinst : (Cond.instanceMethod y).before args s = true) (hsel : (Cond.selects C y y).before args s = true) (hcode : (Cond.codeWith y bytes maxL ret hs).before args s = true)
    (hy : y.cls ≠ "java/lang/invoke/MethodHandle" ∧ y.cls ≠ "java/lang/invoke/VarHandle") (hpar : (parseMethodDescriptor y.desc).map (fun d => d.parameters.length) = some n)
    {b : Addr} {cellB : Cell} (hcell : T.heap[b]? = some cellB) (hobj : cellB.vm.isStatics = false) (hcls : s.vm.findClass C = some cellB.cls)
    {g : JFrame} (hg : g.method = m) {argsL rest : List Value} (hlen : argsL.length = n) (hstack : g.stack = argsL.reverse ++ .ref b :: rest) (hdg : decode c.code g.pc = .ok (.invokevirtual ix, 3)) :
    xm_Fr p l e R s m args below meth c T locs cells slots g rest y (.ref b :: argsL).toArray := by
  obtain ⟨mk, methM, hnamed, hmethM, hstM, habM⟩ := Cond.instanceMethod_spec hinst
  obtain ⟨mk', methM', cM, hnamed', hmethM', -, -, -, -, -, -, hsigM⟩ := Cond.codeWith_spec hcode
  cases hnamed.symm.trans hnamed'
  cases hmethM.symm.trans hmethM'
  obtain ⟨c2, r2, m2, q1, q2, q3, q4, kP, hkP, hkPi⟩ := Cond.selects_spec hsel
  cases hcls.symm.trans q1
  cases (State.methodFound?_of_named hnamed hy).symm.trans q2
  cases hnamed.symm.trans q3
  have hselP : selectMethod e.platform s.vm cellB.cls mk = .method mk := by rw [Launch.admits_selectMethod X.admits]; exact q4
  have hob : ∀ z, cellB.vm ≠ .statics z := fun z h => by rw [h] at hobj; cases hobj
  rcases hlink with hl | hl
  · obtain ⟨vm₁, X₁, st⟩ := X.invokevirtual hx hown hl hnamed hmethM hstM hkP hkPi hy (a := b) (cell := cellB) hcell hob hselP hmethM habM hkP hkPi (g := g) hg (argsL := argsL) (rest := rest) (xm_par hpar hsigM hlen) hstack hdg
    exact ⟨vm₁, mk, X₁, hnamed, st⟩
  · obtain ⟨vm₁, X₁, st⟩ := X.invokevirtualNest hx hown hl hnamed hmethM hstM hkP hkPi hy (a := b) (cell := cellB) hcell hob hselP hmethM habM hkP hkPi (g := g) hg (argsL := argsL) (rest := rest) (xm_par hpar hsigM hlen) hstack hdg
    exact ⟨vm₁, mk, X₁, hnamed, st⟩
theorem xm_fS (X : Stand p l e R s m args below meth c T locs cells slots) (hx : p.tables.exec = Jvm.exec) {own host : String} {ix n : Nat} {y : MethodName} {bytes : ByteArray} {maxL : Nat} {ret : Option FieldType} {hs : List (Nat × Nat × Nat × Nat)}
    (hown : s.vm.findClass own = some m.cls) (hlink : (Cond.methodLink own ix y).before args s = true ∨ (Cond.methodLinkNest own ix y host).before args s = true) (hstat : (Cond.static y).before args s = true) (hinit : (Cond.initialized y.cls).before args s = true) (hcode : (Cond.codeWith y bytes maxL ret hs).before args s = true)
    (hy : y.cls ≠ "java/lang/invoke/MethodHandle" ∧ y.cls ≠ "java/lang/invoke/VarHandle") (hpar : (parseMethodDescriptor y.desc).map (fun d => d.parameters.length) = some n)
    {g : JFrame} (hg : g.method = m) {argsL rest : List Value} (hlen : argsL.length = n) (hstack : g.stack = argsL.reverse ++ rest) (hdg : decode c.code g.pc = .ok (.invokestatic ix, 3)) :
    xm_Fr p l e R s m args below meth c T locs cells slots g rest y argsL.toArray := by
  obtain ⟨mk, methM, cM, hnamed, hmethM, -, -, -, -, -, -, hsigM⟩ := Cond.codeWith_spec hcode
  have hstatic : methM.isStatic = true := Cond.static_spec hnamed hmethM hstat
  obtain ⟨kP, hkP, -⟩ := className_of_methodNamed hnamed
  have hinitP : kP.init = .initialized := Cond.initialized_spec (findClass_of_methodNamed hnamed) hkP hinit
  rcases hlink with hl | hl
  · obtain ⟨vm₁, X₁, st⟩ := X.invokestatic hx hown hl hnamed hmethM hstatic hkP hinitP hy (g := g) hg (argsL := argsL) (rest := rest) (xm_par hpar hsigM hlen) hstack hdg
    exact ⟨vm₁, mk, X₁, hnamed, st⟩
  · obtain ⟨vm₁, X₁, st⟩ := X.invokestaticNest hx hown hl hnamed hmethM hstatic hkP hinitP hy (g := g) hg (argsL := argsL) (rest := rest) (xm_par hpar hsigM hlen) hstack hdg
    exact ⟨vm₁, mk, X₁, hnamed, st⟩
theorem xm_fI (X : Stand p l e R s m args below meth c T locs cells slots) (hx : p.tables.exec = Jvm.exec) {own host : String} {ix n : Nat} {y : MethodName} {bytes : ByteArray} {maxL : Nat}
    (hown : s.vm.findClass own = some m.cls) (hlink : (Cond.methodLink own ix y).before args s = true ∨ (Cond.methodLinkNest own ix y host).before args s = true) (hinst : (Cond.instanceMethod y).before args s = true) (hcode : (Cond.codeWith y bytes maxL none []).before args s = true) (hy1 : y.name = "<init>")
    (hy : y.cls ≠ "java/lang/invoke/MethodHandle" ∧ y.cls ≠ "java/lang/invoke/VarHandle") (hpar : (parseMethodDescriptor y.desc).map (fun d => d.parameters.length) = some n)
    {b : Addr} {g : JFrame} (hg : g.method = m) {argsL rest : List Value} (hlen : argsL.length = n) (hstack : g.stack = argsL.reverse ++ .ref b :: rest) (hdg : decode c.code g.pc = .ok (.invokespecial ix, 3)) :
    xm_Fr p l e R s m args below meth c T locs cells slots g rest y (.ref b :: argsL).toArray := by
  have hpl : e.platform.magicAccessors = ({} : Platform).magicAccessors := by rw [X.admits.platform]
  have hcode' : (Cond.code y bytes maxL none).before args s = true := by
    unfold Cond.before Cond.holds
    rw [Cond.code_iff_codeWith_nil]
    exact hcode
  subst hg
  rcases hlink with hl | hl
  · obtain ⟨mk, methM, cM, kP, vm₁, hnamed, -, -, -, -, -, -, -, hW₁, st⟩ := Steps.initColdArgs (e := e) X.here hx X.warmed hpl hown hy1 hy hl hinst hcode' (f := g) rfl (fun sig h => xm_par hpar h hlen) hstack hdg
    exact ⟨vm₁, mk, X.noted hW₁, hnamed, st⟩
  · obtain ⟨mk, methM, cM, kP, vm₁, hnamed, -, -, -, -, -, -, -, hW₁, st⟩ := Steps.initColdArgsNest (e := e) X.here hx X.warmed hpl hown hy1 hy hl hinst hcode' (f := g) rfl (fun sig h => xm_par hpar h hlen) hstack hdg
    exact ⟨vm₁, mk, X.noted hW₁, hnamed, st⟩
/-- with no slot freed every old cell is as it was -/
theorem xm_same0 {s t : State} {k n : Nat} (h : s.sameButNew t [] k n) {q : Nat} (hq : q < s.heap.size) : t.heap[q]? = s.heap[q]? := by
  have hc : s.heap[q]? = some s.heap[q] := Array.getElem?_eq_getElem hq
  obtain ⟨c', h1, h2, h3, h4⟩ := h.2.2.2.2.2 q _ hc
  rw [h1, hc, h2]
  have h5 : c'.slots = (s.heap[q]).slots := by
    apply Array.ext_getElem?
    intro i
    exact h4 i (by simp)
  rw [h5]
end XM6
section XM7
variable {p : Program} {l : Launch} {e : Env} {R : Room} {s : State} {m : MethodId} {args : Array Value} {below : List Frame} {meth : Method} {c : Code} {T : State} {H : Heap} {locs : List Loc} {cells slots : Nat} {Q : State → Prop}
variable {WS : Cond → Bool} {cl : List vw_C} {kt : List FieldType} {dA : Nat → ClassId} {D : va_G} {B0 sb LS : Nat} {xs : Nat → Int32} {M : xm_M} {h0 : List va_E} {ks0 nL : Nat} {ls : Array Slot}
/-- the search through a table of handlers, each of a class that links, cold or warm -/
theorem xm_find {s0 : State} {f : JFrame} {a : Addr} {cell : Cell} {ci t : Nat} (hobj : ∀ k, cell.vm ≠ .statics k) (hk0 : ∃ k, s0.vm.classes[cell.cls]? = some k) :
    ∀ (es : List ExceptionTableEntry) (hs : List xm_Hd) (S : State), es.map (fun h => (h.startPc, h.endPc, h.handlerPc, h.catchType)) = hs.map (fun h => (h.1, h.2.1, h.2.2.1, h.2.2.2.1)) → s0.WarmedH S.vm → S.heap[a]? = some cell →
      (∀ h ∈ hs, h.2.2.2.1 ≠ 0 ∧ ∃ c', s0.vm.ClassLinks e.platform f.method.cls h.2.2.2.1 c' ∧ s0.vm.assignable cell.cls c' = (h.2.2.2.2 == ci)) →
      (hs.find? (fun x => decide (x.1 ≤ f.pc) && decide (f.pc < x.2.1) && x.2.2.2.2 == ci)).map (fun x => x.2.2.1) = some t →
      ∃ vm', s0.WarmedH vm' ∧ ∀ (Q : Handler → Pre) (E : CtlPost) (d : Bool) (acts : List Action), wp (findHandler.go f a es) Q E e d acts S ↔ Q (.found t) d acts (S.setVm vm') := by
  obtain ⟨k0, hk0⟩ := hk0
  intro es
  induction es with
  | nil =>
    intro hs S hm hW hcell hh ht
    cases hs with
    | nil => simp at ht
    | cons h r => simp at hm
  | cons x r ih =>
    intro hs S hm hW hcell hh ht
    cases hs with
    | nil => simp at hm
    | cons h hr =>
      simp only [List.map_cons, List.cons.injEq, Prod.mk.injEq] at hm
      obtain ⟨⟨m1, m2, m3, m4⟩, hm⟩ := hm
      obtain ⟨h0, c', hl, has⟩ := hh h List.mem_cons_self
      have hh' : ∀ y ∈ hr, y.2.2.2.1 ≠ 0 ∧ ∃ c', s0.vm.ClassLinks e.platform f.method.cls y.2.2.2.1 c' ∧ s0.vm.assignable cell.cls c' = (y.2.2.2.2 == ci) := fun y hy => hh y (List.mem_cons_of_mem _ hy)
      obtain ⟨k0', hk0', -⟩ := hW.alike.2.2 _ _ hk0
      by_cases hcov : (decide (h.1 ≤ f.pc) && decide (f.pc < h.2.1)) = true
      · have hcov' : (decide (x.startPc ≤ f.pc) && decide (f.pc < x.endPc)) = true := by rw [m1, m2]; exact hcov
        obtain ⟨dk, _, _, kt, hd, _, _, _, _, hkt, _, hopen⟩ := hl.here
        obtain ⟨kt', hkt', -⟩ := hW.alike.2.2 _ _ hkt
        have hlS := hW.classLinks hl
        obtain ⟨ha, hT⟩ := (resolveClass_links e.toSetting hlS).op (op := VmOp.resolveClass f.method.cls h.2.2.2.1) rfl
        have hal : S.vm.Alike (S.vm.noted f.method.cls h.2.2.2.1 (.cls c')) := (Vm.Alike.refl S.vm).noted _ _ _
        obtain ⟨k1, hk1, -⟩ := hal.2.2 _ _ hk0'
        obtain ⟨k2, hk2, -⟩ := hal.2.2 _ _ hkt'
        have hWn := hW.noted hd hopen (State.rightAt_cls hl)
        have has' : (S.vm.noted f.method.cls h.2.2.2.1 (.cls c')).assignable cell.cls c' = (h.2.2.2.2 == ci) := by rw [hal.assignable, hW.alike.assignable]; exact has
        by_cases hci : (h.2.2.2.2 == ci) = true
        · rw [List.find?_cons_of_pos (by simp only [hcov, hci, Bool.and_self])] at ht
          simp only [Option.map_some, Option.some.injEq] at ht
          rw [hci] at has'
          refine ⟨_, hWn, fun Q E d acts => ?_⟩
          rw [← m4] at ha hT hk1 hk2 has' h0 ⊢
          rw [← ht, ← m3]
          simp only [Bool.and_eq_true, decide_eq_true_eq] at hcov'
          simp [findHandler.go, hcov'.1, hcov'.2, h0, ha, hT, hcell, hobj, hk1, hk2, has', VmOp.dirties, VmOp.acts]
        · have hci' : (h.2.2.2.2 == ci) = false := by simpa using hci
          rw [List.find?_cons_of_neg (by simp only [hci', Bool.and_false]; decide)] at ht
          rw [hci'] at has'
          obtain ⟨vm', hW', hq⟩ := ih hr (S.setVm (S.vm.noted f.method.cls h.2.2.2.1 (.cls c'))) hm hWn hcell hh' ht
          refine ⟨vm', hW', fun Q E d acts => ?_⟩
          rw [← m4] at ha hT hk1 hk2 has' h0 hq
          have hq := hq Q E d acts
          simp only [Bool.and_eq_true, decide_eq_true_eq] at hcov'
          rw [show (S.setVm vm') = (S.setVm (S.vm.noted f.method.cls x.catchType (.cls c'))).setVm vm' from rfl, ← hq]
          simp [findHandler.go, hcov'.1, hcov'.2, h0, ha, hT, hcell, hobj, hk1, hk2, has', VmOp.dirties, VmOp.acts]
      · have hcov0 : (decide (h.1 ≤ f.pc) && decide (f.pc < h.2.1)) = false := by simpa using hcov
        rw [List.find?_cons_of_neg (by simp only [hcov0, Bool.false_and]; decide)] at ht
        obtain ⟨vm', hW', hq⟩ := ih hr S hm hW hcell hh' ht
        refine ⟨vm', hW', fun Q E d acts => ?_⟩
        rw [← hq Q E d acts]
        exact W.findHandler_go_skip (by unfold covers; rw [m1, m2]; exact hcov0)
/-- what a callee threw is caught here -/
theorem xm_caught (X : Stand p l e R s m args below meth c T locs cells slots) {g : JFrame} (hg : g.method = m) {a : Addr} {cell : Cell} {ci t : Nat} (hcell : T.heap[a]? = some cell) (hobj : cell.vm.isStatics = false) (hk0 : ∃ k, s.vm.classes[cell.cls]? = some k) {hs : List xm_Hd}
    (hm : c.exceptionTable.toList.map (fun h => (h.startPc, h.endPc, h.handlerPc, h.catchType)) = hs.map (fun h => (h.1, h.2.1, h.2.2.1, h.2.2.2.1)))
    (hh : ∀ h ∈ hs, h.2.2.2.1 ≠ 0 ∧ ∃ c', s.vm.ClassLinks e.platform m.cls h.2.2.2.1 c' ∧ s.vm.assignable cell.cls c' = (h.2.2.2.2 == ci))
    (ht : (hs.find? (fun x => decide (x.1 ≤ g.pc) && decide (g.pc < x.2.1) && x.2.2.2.2 == ci)).map (fun x => x.2.2.1) = some t) :
    ∃ vm', Stand p l e R s m args below meth c (T.setVm vm') locs cells slots ∧
      ∀ target, Steps p.tables e below ((T.setVm vm').setTop { g with pc := t, stack := [.ref a] }) target → Steps p.tables e below ((T.setTop g).pushFrame (.throwing a)) target := by
  subst hg
  have hvm : ((T.setTop g).pushFrame (.throwing a)).vm = T.vm := Stand.throwing_vm T g a
  obtain ⟨vm', hW', hq⟩ := xm_find (e := e) (f := g) (a := a) (VmData.ne_statics_of hobj) hk0 c.exceptionTable.toList hs ((T.setTop g).pushFrame (.throwing a)) hm (by rw [hvm]; exact X.warmed) (by rw [Stand.throwing_heap]; exact hcell) hh ht
  refine ⟨vm', X.noted hW', fun target hrest => ?_⟩
  obtain ⟨hgo, hw⟩ := X.here.throwing (g := g) a
  refine Steps.head hgo hw ?_
  have hfind : ∀ (Q : Handler → Pre) (E : CtlPost) (d : Bool) (acts : List Action), wp (findHandler g a) Q E e d acts ((T.setTop g).pushFrame (.throwing a)) ↔ Q (.found t) d acts (((T.setTop g).pushFrame (.throwing a)).setVm vm') := fun Q E d acts => by
    rw [W.findHandler_eq (meth := meth) (code := c) (by rw [hvm]; exact X.method') X.code]
    exact hq Q E d acts
  have hstep : (stepThrowing e ((T.setTop g).pushFrame (.throwing a)) a (.java g :: T.frames.tail)).1 = (((T.setTop g).pushFrame (.throwing a)).setVm vm').setFrames (.java { g with pc := t, stack := [.ref a] } :: T.frames.tail) := by
    simp only [stepThrowing, searchFrame, vmDo]
    generalize hr : Sem.go _ e false [] ((T.setTop g).pushFrame (.throwing a)) = res
    obtain ⟨as, rfl, -⟩ := Sem.eq_ok_of hr (a := Handler.found t) (s' := ((T.setTop g).pushFrame (.throwing a)).setVm vm') (acts' := []) (by simp [hfind _ _ _ _])
    rfl
  rw [stepThread_throwing (frames_entered X.here.top _), hstep]
  obtain ⟨g₀, hfr⟩ := X.frames_eq
  have hfr' : (T.setVm vm').frames = .java g₀ :: below := hfr
  rw [State.setTop_of_frames _ hfr'] at hrest
  have e1 : (((T.setTop g).pushFrame (.throwing a)).setVm vm').setFrames (.java { g with pc := t, stack := [.ref a] } :: T.frames.tail) = (T.setVm vm').setFrames (.java { g with pc := t, stack := [.ref a] } :: below) := by
    rw [X.tail, State.pushFrame, State.setTop_of_frames _ hfr]
    show (((T.setFrames _).setFrames _).setVm vm').setFrames _ = _
    have e2 : ∀ (u : State) (F G : List Frame), ((u.setFrames F).setVm vm').setFrames G = (u.setVm vm').setFrames G := fun u F G => by
      have e3 : (u.setFrames F).setVm vm' = (u.setVm vm').setFrames F := rfl
      rw [e3, State.setFrames_setFrames]
    rw [e2, e2]
  rw [e1]
  exact hrest
end XM7
end
section
/-! 06.sim: the whole run. -/
section XM8
variable {p : Program} {l : Launch} {e : Env} {R : Room} {s : State} {m : MethodId} {args : Array Value} {below : List Frame} {meth : Method} {c : Code} {T : State} {H : Heap} {locs : List Loc} {cells slots : Nat} {Q : State → Prop}
variable {WS : Cond → Bool} {cl : List vw_C} {kt : List FieldType} {df : List (List Value)} {dA : Nat → ClassId} {D : va_G} {B0 sb LS : Nat} {xs : Nat → Int32} {M : xm_M} {P : List xm_M} {h0 : List va_E} {ks0 nL : Nat} {ls : Array Slot}
theorem xm_le.tr {s0 s u : State} (h : xm_le s0 s) (hW : s.WarmedH u.vm) (hz : s0.heap.size ≤ u.heap.size) (hq : ∀ q : Nat, q < s0.heap.size → u.heap[q]? = s.heap[q]?) : xm_le s0 u :=
  ⟨State.WarmedH.trans h.1 hW, hz, fun q hl => (hq q hl).trans (h.2.2 q hl)⟩
theorem xm_isRef {C n d : String} {s0 s : State} {a a' : Array Value} (h : (Cond.isRef (.static C n d)).before a s0 = true) (hle : xm_le s0 s) : (Cond.isRef (.static C n d)).before a' s = true := by
  have h1 : (Cond.isRef (.static C n d)).before a (s0.setVm s.vm) = true := Cond.before_warmed hle.1 _ (by rfl) h
  simp only [Cond.before, Cond.holds, Cond.value, Term.eval] at h1 ⊢
  have hf : (s0.setVm s.vm).fieldNamed? C n d true = s.fieldNamed? C n d true := rfl
  rw [hf] at h1
  cases hfn : s.fieldNamed? C n d true with
  | none => rw [hfn] at h1; simp at h1
  | some x =>
    obtain ⟨c0, k, slot⟩ := x
    rw [hfn] at h1
    cases hst : k.statics with
    | none => simp [hst] at h1
    | some a0 =>
      cases hc : s0.heap[a0]? with
      | none =>
        simp [hst, hc] at h1
      | some cell =>
        have hc2 : s.heap[a0]? = some cell := by rw [hle.2.2 a0 (Array.getElem?_eq_some_iff.mp hc).1]; exact hc
        simp [hst, hc] at h1
        simp [hst, hc2, h1]
theorem xm_lays {C n d : String} {s0 s : State} {a a' : Array Value} (h : (Cond.laysStatic C n d).before a s0 = true) (hle : xm_le s0 s) : (Cond.laysStatic C n d).before a' s = true := by
  obtain ⟨c, k, i, f, a0, cell, h1, h2, h3, h4, h5, h6, h7, h8, h9⟩ := Cond.laysStatic_spec h
  have hvm := hle.1.alike
  obtain ⟨k', hi', he⟩ := State.fieldFound?_setVm hvm h2
  show (Cond.laysStatic C n d).holds a' s none s [] = true
  exact Cond.laysStatic_of (by rw [hvm.findClass]; exact h1) hi' h3 (by rw [he]; exact h4) (by rw [hle.2.2 a0 (Array.getElem?_eq_some_iff.mp h5).1]; exact h5) h6 h7 h8 (by rw [he]; exact h9)
/-- the names between an exception's class and Throwable -/
def xm_mid : List String := ["java/lang/RuntimeException", "java/lang/Exception"]
/-- the words of a throw -/
def xm_okT (WS : Cond → Bool) (cl : List vw_C) (M : xm_M) (x : xm_I) : Bool :=
  match x with
  | (pc, .new ix, a, b, _, d) => if d = 1 then match cl[a]? with
    | some (C, _, N) => (N == 0) && WS (Cond.classLink M.1.cls ix C) && WS (Cond.initialized C) && Bundle.fit C && decide (decode M.2.1 (pc + 3) = .ok (.dup, 1)) && decide (decode M.2.1 (pc + 4) = .ok (.invokespecial b, 3)) && decide (decode M.2.1 (pc + 7) = .ok (.athrow, 1)) &&
        (Bundle.ownAtoms0 M.1.cls b C xm_mid).all (fun w => WS (w) || decide (w = .isRef (.static Bundle.tN "UNASSIGNED_STACK" Bundle.steD)) || decide (w = .isRef (.static Bundle.tN "SUPPRESSED_SENTINEL" Bundle.listD)) || decide (w = .laysStatic Bundle.tN "UNASSIGNED_STACK" Bundle.steD) || decide (w = .laysStatic Bundle.tN "SUPPRESSED_SENTINEL" Bundle.listD))
    | none => false
    else true
  | _ => true
set_option maxHeartbeats 4000000 in
set_option maxRecDepth 100000 in
theorem xm_thr (hx : p.tables.exec = Jvm.exec) (htr : l.admits e → e.platform.stackTraces = false) (hb : c.code = M.2.1) (hml : c.maxLocals = nL) (hlk : meth.locks = false) (hown : s.vm.findClass M.1.cls = some m.cls) (hts : ∀ w, WS w = true → w.before args s = true) (hK : va_K D cl (xm_tys kt dA) s)
    (hz1 : (Cond.isRef (.static Bundle.tN "UNASSIGNED_STACK" Bundle.steD)).before args s = true) (hz2 : (Cond.isRef (.static Bundle.tN "SUPPRESSED_SENTINEL" Bundle.listD)).before args s = true) (hz3 : (Cond.laysStatic Bundle.tN "UNASSIGNED_STACK" Bundle.steD).before args s = true) (hz4 : (Cond.laysStatic Bundle.tN "SUPPRESSED_SENTINEL" Bundle.listD).before args s = true) (hsz : s.heap.size = B0 + h0.length) (hRf : 6 ≤ R.frames) (hRl : 128 ≤ R.locals) (hnoH : c.exceptionTable.toList = [])
    {ix a b k d pc : Nat} {L : List (Option Value)} {st : List Value} {S : xm_S} (hd : d = 1) (hst : st.length ≤ 4) (hok : xm_ok WS cl M (pc, .new ix, a, b, k, d) = true) (hokT : xm_okT WS cl M (pc, .new ix, a, b, k, d) = true) (hclean : S.2.2 = true)
    (hc1 : S.1.length + 1 ≤ R.cells + h0.length) (hc2 : S.2.1 + 6 ≤ R.slots + ks0) (hV : xm_V D cl dA B0 sb s h0 ks0 nL L S H locs cells slots ls) :
    W p l e R s m args below meth c H locs cells slots (xm_End D cl dA B0 sb s below h0 ks0 (.inr S.1.length) (S.1 ++ [.inr (a, [])], S.2.1 + 6, true)) (F0 m pc ls (st.map (xm_tv B0 sb))) := by
  simp only [xm_ok, Bool.and_eq_true, decide_eq_true_eq] at hok
  have hdg := hok.1
  subst hd
  simp only [xm_okT, if_true] at hokT
  split at hokT
  case h_2 => cases hokT
  rename_i C T0 N hc
  simp only [Bool.and_eq_true, decide_eq_true_eq, beq_iff_eq, List.all_eq_true, Bool.or_eq_true] at hokT
  obtain ⟨⟨⟨⟨⟨⟨⟨o0, o1⟩, o3⟩, o4⟩, o5⟩, o6⟩, o7⟩, o8⟩ := hokT
  subst o0
  have hat : ∀ w ∈ Bundle.ownAtoms0 M.1.cls b C xm_mid, w.before args s = true := fun w hw => by
    rcases o8 w hw with (((h | h) | h) | h) | h
    · exact hts _ h
    · rw [h]; exact hz1
    · rw [h]; exact hz2
    · rw [h]; exact hz3
    · rw [h]; exact hz4
  have hins : (Cond.instantiable C 6).before args s = true := hat _ (by simp [Bundle.ownAtoms0])
  have e4 := hV.2.2.2.1
  have e5 := hV.2.2.2.2.1
  obtain ⟨hl0, hS0⟩ := hV.2.2.2.2.2 hclean
  subst hl0
  have hPw := hV.2.1
  refine xm_size hsz hV fun hHs => ?_
  refine W.newc hx hb hown (hts _ o1) hins (hts _ o3) rfl hdg (by omega) (by omega) (fun cC kC f1 f2 f3 f4 => ?_)
  refine W.eq (g2 := F0 m (pc + 3) ls (.ref H.size :: st.map (xm_tv B0 sb))) rfl ?_
  refine lv_dup hx hb o5 rfl ?_
  intro T hT X
  have hTz : T.heap.size = H.size + 1 := by rw [hT]; simp
  have hcell : T.heap[H.size]? = some ({ cls := cC, slots := kC.instanceTypes.map defaultValue, vm := .none } : Cell) := by rw [hT]; simp
  have hTo : ∀ q : Nat, q < H.size → T.heap[q]? = H[q]? := fun q hq => by rw [hT, Array.getElem?_push, if_neg (Nat.ne_of_lt hq)]
  have hsum := xm_sum (B0 := B0) (sb := sb) st
  obtain ⟨U, hst, hrun, hend, hWU, hsame, ce, hce, hoc⟩ := X.ctorThrow0 hx (htr X.admits) (own := M.1.cls) (cls := C) (names := xm_mid) (ic := b) hown o4 (by decide) hat (fun y hy => by cases hy) f1 f2 hcell (by omega)
    (g := F0 m (pc + 4) ls (.ref H.size :: .ref H.size :: st.map (xm_tv B0 sb))) rfl (by show ls.size = _; rw [hml]; exact hV.1.1) rfl rfl rfl (by rw [hb]; exact o6) (by rw [hb]; exact o7) (by rw [hnoH]; intro y hy; cases hy) (by show 2 + 3 < _; omega)
    (by show 2 * 0 + ((Value.ref H.size :: st.map (xm_tv B0 sb)).map fun v => v.category).sum + (13 * (2 + 1) + 41) ≤ _
        have hc1 : (Value.ref H.size).category = 1 := rfl
        simp only [List.map_cons, List.sum_cons, hc1]
        omega) hlk
  have hU1 : U.heap.size ≤ s.heap.size + (cells + 1) := hsame.2.2.1
  have hU2 : H.size < U.heap.size := (Array.getElem?_eq_some_iff.mp hce).1
  have hUo : ∀ q : Nat, q < s.heap.size → U.heap[q]? = s.heap[q]? := fun q hq => xm_same0 hsame hq
  have hTs : ∀ q : Nat, q < s.heap.size → T.heap[q]? = s.heap[q]? := fun q hq => xm_same0 X.same hq
  have hlen : S.1.length = h0.length := by rw [hS0]
  refine ⟨U, hst, .threw H.size, hrun, hend, ?_, hWU, ?_, ?_, fun q hq => hUo q (by omega), fun i hi => ?_, [], fun q hq => (by cases hq), fun _ => ⟨rfl, fun v hv => by cases hv⟩, fun _ _ => rfl, ?_⟩
  · show Outcome.threw H.size = Outcome.threw (B0 + S.1.length)
    rw [hHs]
  · show va_P D cl (xm_tw dA B0 sb (S.1 ++ [.inr (a, [])])) U.heap
    rw [xm_tw_app]
    refine va_P.app (hPw.kept fun k q hk => ?_) (fun k q hk => ?_)
    · have hq1 : q.1 < H.size := (hPw k q hk).lt
      rw [hUo q.1 (by omega), ← hTs q.1 (by omega), hTo q.1 hq1]
    · have hz : k < 1 := (List.getElem?_eq_some_iff.mp hk).1
      rw [show k = 0 by omega] at hk
      cases hk
      refine ⟨_, hc, ce, ?_, ?_, hoc.vm, fun j hj => by cases hj⟩
      · show U.heap[B0 + S.1.length]? = some ce
        rw [← hHs]
        exact hce
      · exact Option.some.inj (hoc.cls.symm.trans (hK.1 a _ hc).2.1)
  · show U.heap.size = B0 + (S.1 ++ [_]).length
    simp only [List.length_append, List.length_singleton]
    omega
  · cases hi
    exact ⟨a, C, T0, by simp, hc⟩
  · have q1 : (S.1 ++ [(.inr (a, []) : va_E)]).length - h0.length = cells + 1 := by simp only [List.length_append, List.length_singleton]; omega
    have q2 : S.2.1 + 6 - ks0 = slots + 6 := by omega
    show s.sameButNew _ [] ((S.1 ++ [(.inr (a, []) : va_E)]).length - h0.length) (S.2.1 + 6 - ks0)
    rw [q1, q2]
    exact hsame
end XM8
section XM8b
variable {p : Program} {l : Launch} {e : Env} {R : Room} {s : State} {m : MethodId} {args : Array Value} {below : List Frame} {meth : Method} {c : Code} {T : State} {H : Heap} {locs : List Loc} {cells slots : Nat} {Q : State → Prop}
variable {WS : Cond → Bool} {cl : List vw_C} {kt : List FieldType} {df : List (List Value)} {dA : Nat → ClassId} {D : va_G} {B0 sb LS : Nat} {xs : Nat → Int32} {M : xm_M} {P : List xm_M} {h0 : List va_E} {ks0 nL : Nat} {ls : Array Slot}
/-- a method's own words -/
def xm_h4 (M : xm_M) : List (Nat × Nat × Nat × Nat) := M.2.2.2.2.1.map (fun h => (h.1, h.2.1, h.2.2.1, h.2.2.2.1))
def xm_okF (WS : Cond → Bool) (cl : List vw_C) (M : xm_M) : Bool :=
  plainName M.1.cls && decide (M.2.2.1 ≤ 14) && (if M.2.2.2.2.1 = [] then WS (Cond.code M.1 M.2.1 M.2.2.1 M.2.2.2.1) else WS (Cond.codeWith M.1 M.2.1 M.2.2.1 M.2.2.2.1 (xm_h4 M))) && WS (Cond.initialized M.1.cls) &&
  M.2.2.2.2.1.all (fun h => decide (h.2.2.2.1 ≠ 0) && match cl[h.2.2.2.2]? with
    | some (C, _, _) => WS (Cond.classLink M.1.cls h.2.2.2.1 C)
    | none => false)
def xm_okM (WS : Cond → Bool) (cl : List vw_C) (M : xm_M) : Bool := if M.1.name = "law" then M.2.2.2.2.1.isEmpty else xm_okF WS cl M
def xm_okC (WS : Cond → Bool) (cl : List vw_C) (P : List xm_M) (M : xm_M) (x : xm_I) : Bool :=
  match x with
  | (_, .invokevirtual ix, a, b, k, _) => match P[a]?, cl[k]? with
    | some M', some (C, _, _) => (WS (Cond.methodLink M.1.cls ix M'.1) || WS (Cond.methodLinkNest M.1.cls ix M'.1 "FibrePairs")) && WS (Cond.instanceMethod M'.1) && WS (Cond.selects C M'.1 M'.1) && decide (M'.1.cls ≠ "java/lang/invoke/MethodHandle" ∧ M'.1.cls ≠ "java/lang/invoke/VarHandle") && decide ((parseMethodDescriptor M'.1.desc).map (fun d => d.parameters.length + 1) = some b) && decide (b ≤ M'.2.2.1) && decide (M'.1.name ≠ "law")
    | _, _ => false
  | (_, .invokestatic ix, a, b, _, _) => match P[a]? with
    | some M' => (WS (Cond.methodLink M.1.cls ix M'.1) || WS (Cond.methodLinkNest M.1.cls ix M'.1 "FibrePairs")) && WS (Cond.static M'.1) && decide (M'.1.cls ≠ "java/lang/invoke/MethodHandle" ∧ M'.1.cls ≠ "java/lang/invoke/VarHandle") && decide ((parseMethodDescriptor M'.1.desc).map (fun d => d.parameters.length) = some b) && decide (b ≤ M'.2.2.1) && decide (M'.1.name ≠ "law")
    | _ => false
  | (_, .invokespecial ix, a, _, _, d) => if d = 0 then match P[a]? with
    | some M' => (WS (Cond.methodLink M.1.cls ix M'.1) || WS (Cond.methodLinkNest M.1.cls ix M'.1 "FibrePairs")) && WS (Cond.instanceMethod M'.1) && (M'.1.name == "<init>") && decide (M'.2.2.2.2.1 = []) && decide (M'.2.2.2.1 = none) && decide (M'.1.cls ≠ "java/lang/invoke/MethodHandle" ∧ M'.1.cls ≠ "java/lang/invoke/VarHandle") && decide ((parseMethodDescriptor M'.1.desc).map (fun d => d.parameters.length) = some 0) && decide (1 ≤ M'.2.2.1) && decide (M'.1.name ≠ "law")
    | _ => false
    else true
  | (_, .ireturn, _, _, _, d) => match M.2.2.2.1 with
    | some .int => d == 0
    | some .boolean => d == 1
    | _ => false
  | (_, .return_, _, _, _, _) => decide (M.2.2.2.1 = none)
  | _ => true
/-- what stands fast from the law's first state on -/
def xm_Top (WS : Cond → Bool) (cl : List vw_C) (kt : List FieldType) (df : List (List Value)) (P : List xm_M) (dA : Nat → ClassId) (D : va_G) (B0 sb LS : Nat) (xs : Nat → Int32) (s0 : State) : Prop :=
  (∀ w, WS w = true → ∀ (a' : Array Value) (U : State), s0.WarmedH U.vm → w.before a' U = true) ∧ va_K D cl (xm_tys kt dA) s0 ∧ va_X sb LS xs s0 s0.heap ∧ sb < B0 ∧ s0.heap.size = B0 ∧
  (∀ a' : Array Value, (Cond.isRef (.static Bundle.tN "UNASSIGNED_STACK" Bundle.steD)).before a' s0 = true) ∧ (∀ a' : Array Value, (Cond.isRef (.static Bundle.tN "SUPPRESSED_SENTINEL" Bundle.listD)).before a' s0 = true) ∧ (∀ a' : Array Value, (Cond.laysStatic Bundle.tN "UNASSIGNED_STACK" Bundle.steD).before a' s0 = true) ∧ (∀ a' : Array Value, (Cond.laysStatic Bundle.tN "SUPPRESSED_SENTINEL" Bundle.listD).before a' s0 = true) ∧ xm_cls WS cl ∧
  (∀ (mi : Nat) (M : xm_M), P[mi]? = some M → xm_okM WS cl M = true ∧ ∀ x ∈ M.2.2.2.2.2, xm_ok WS cl M x = true ∧ xm_okN WS cl kt df M x = true ∧ xm_okT WS cl M x = true ∧ xm_okC WS cl P M x = true) ∧
  (∀ (M : xm_M) (mi : Nat), P[mi]? = some M → ∀ h ∈ M.2.2.2.2.1, ∀ (ci : Nat) (C C' : String) (T T' : u_T) (N' : Nat), cl[ci]? = some (C, T, 0) → cl[h.2.2.2.2]? = some (C', T', N') → ∀ (U : State), s0.WarmedH U.vm → ∀ (q q' : ClassId), U.vm.findClass C = some q → U.vm.findClass C' = some q' → U.vm.assignable q q' = (h.2.2.2.2 == ci))
/-- a frame of the method M -/
def xm_Frm (p : Program) (R : Room) (s0 s : State) (m : MethodId) (meth : Method) (c : Code) (B0 KC KS d : Nat) (M : xm_M) (h0 : List va_E) (ks0 : Nat) : Prop :=
  p.tables.exec = Jvm.exec ∧ s.vm.findClass M.1.cls = some m.cls ∧ (M.1.name = "<init>" → meth.name = "<init>") ∧ c.code = M.2.1 ∧ c.maxLocals = M.2.2.1 ∧ meth.sig.returnType = M.2.2.2.1 ∧ meth.locks = false ∧
  (M.1.name ≠ "law" → c.exceptionTable.toList.map (fun h => (h.startPc, h.endPc, h.handlerPc, h.catchType)) = xm_h4 M) ∧ xm_le s0 s ∧ s.heap.size = B0 + h0.length ∧ R.frames = d + 1 ∧ R.locals = 33 * d + 58 ∧ R.cells + h0.length = KC ∧ R.slots + ks0 = KS
theorem xm_ins_len {i : Instr} {a b k d pc : Nat} {L : List (Option Value)} {st : List Value} {S S' : xm_S} {F' : xm_F} (hact : xm_ins xs LS kt i a b k d pc L st S = some (.inl (F', S'))) : S'.1.length = S.1.length ∧ S'.2.1 = S.2.1 := by
  unfold xm_ins at hact
  split at hact <;> (try cases hact) <;> (try exact ⟨rfl, rfl⟩) <;> (split at hact) <;> (try cases hact) <;> (try exact ⟨rfl, rfl⟩) <;> (try (split at hact)) <;> (try cases hact) <;> (try exact ⟨rfl, rfl⟩) <;> (try exact ⟨by simp, rfl⟩) <;> (try (split at hact)) <;> (try cases hact) <;> (try exact ⟨rfl, rfl⟩)
theorem xm_ins_inl {i : Instr} {a b k d pc : Nat} {L : List (Option Value)} {st : List Value} {S : xm_S} {A : (Option Value) ⊕ Nat ⊕ (Nat × List Value × List Value)} (hact : xm_ins xs LS kt i a b k d pc L st S = some (.inr A)) : False := by
  unfold xm_ins at hact
  split at hact <;> (try cases hact) <;> (split at hact) <;> (try cases hact) <;> (try (split at hact)) <;> (try cases hact) <;> (try (split at hact)) <;> (try cases hact)
theorem xm_big_len {i : Instr} {a b k d pc : Nat} {L : List (Option Value)} {st : List Value} {S S' : xm_S} {F' : xm_F} (hact : xm_big kt df i a b k d pc L st S = some (.inl (F', S'))) : S.1.length ≤ S'.1.length ∧ S.2.1 ≤ S'.2.1 := by
  unfold xm_big at hact
  split at hact <;> (try cases hact) <;> (try (split at hact)) <;> (try cases hact) <;> (try (split at hact)) <;> (try cases hact) <;> (try (split at hact)) <;> (try cases hact) <;> (try (split at hact)) <;> (try cases hact) <;> first
    | exact ⟨Nat.le_refl _, Nat.le_refl _⟩
    | exact ⟨by simp, by simp⟩
theorem xm_act_len {mi : Nat} {F F' : xm_F} {S S' : xm_S} (h : xm_act xs LS kt df P mi F S = some (.inl (F', S'))) : S.1.length ≤ S'.1.length ∧ S.2.1 ≤ S'.2.1 := by
  unfold xm_act at h
  split at h
  · split at h
    · obtain ⟨h1, h2⟩ := xm_ins_len h
      omega
    · exact xm_big_len h
  · cases h
theorem xm_run_len : ∀ (n d mi : Nat) (F : xm_F) (S S1 : xm_S) (r : Option Value ⊕ Nat), xm_run xs LS kt df P n d mi F S = some (r, S1) → S.1.length ≤ S1.1.length ∧ S.2.1 ≤ S1.2.1 := by
  intro n
  induction n with
  | zero => intro d mi F S S1 r h; simp [xm_run] at h
  | succ n ih =>
    intro d mi F S S1 r h
    unfold xm_run at h
    split at h
    · cases h
    · rename_i F' S' ha
      have h1 := xm_act_len ha
      have h2 := ih _ _ _ _ _ _ h
      omega
    · cases h
      exact ⟨Nat.le_refl _, Nat.le_refl _⟩
    · split at h
      · cases h
        exact ⟨by simp, by simp⟩
      · cases h
    · split at h
      · cases h
      · split at h
        · cases h
        · rename_i v S' hr
          have h1 := ih _ _ _ _ _ _ hr
          have h2 := ih _ _ _ _ _ _ h
          simp only at h1 h2
          omega
        · rename_i i S' hr
          have h1 := ih _ _ _ _ _ _ hr
          simp only at h1
          split at h
          · split at h
            · have h2 := ih _ _ _ _ _ _ h
              simp only at h2
              omega
            · split at h
              · cases h
                exact h1
              · cases h
          · cases h
theorem xm_at_mem {mi pc : Nat} {x : xm_I} (hM : P[mi]? = some M) (h : xm_at P mi pc = some x) : x ∈ M.2.2.2.2.2 ∧ x.1 = pc := by
  unfold xm_at at h
  rw [hM] at h
  exact ⟨List.mem_of_find?_eq_some h, by simpa using List.find?_some h⟩
theorem xm_big_ret {i : Instr} {a b k d pc : Nat} {L : List (Option Value)} {st : List Value} {S : xm_S} {v : Option Value} (hact : xm_big kt df i a b k d pc L st S = some (.inr (.inl v))) :
    (i = .ireturn ∧ ∃ x, st = [.int x] ∧ v = some (.int x) ∧ (d = 0 ∨ x = 0 ∨ x = 1)) ∨ (i = .return_ ∧ st = [] ∧ v = none) := by
  unfold xm_big at hact
  split at hact
  · split at hact
    · rename_i hd
      cases hact
      exact Or.inl ⟨rfl, _, rfl, rfl, Or.inl hd⟩
    · split at hact
      · rename_i hd
        cases hact
        exact Or.inl ⟨rfl, _, rfl, rfl, Or.inr hd⟩
      · cases hact
  · cases hact
    exact Or.inr ⟨rfl, rfl, rfl⟩
  all_goals (repeat' (first | cases hact | split at hact))
theorem xm_big_thr {i : Instr} {a b k d pc : Nat} {L : List (Option Value)} {st : List Value} {S : xm_S} {v : Nat} (hact : xm_big kt df i a b k d pc L st S = some (.inr (.inr (.inl v)))) :
    ∃ ix, i = .new ix ∧ d = 1 ∧ st.length ≤ 4 ∧ v = a := by
  unfold xm_big at hact
  split at hact
  · repeat' (first | cases hact | split at hact)
  · cases hact
  · split at hact
    · rename_i hd
      split at hact
      · rename_i hl
        cases hact
        exact ⟨_, rfl, hd, hl, rfl⟩
      · cases hact
    · split at hact <;> cases hact
  all_goals (repeat' (first | cases hact | split at hact))
theorem xm_big_call {i : Instr} {a b k d pc y : Nat} {L : List (Option Value)} {st as rest : List Value} {S : xm_S} (hact : xm_big kt df i a b k d pc L st S = some (.inr (.inr (.inr (y, as, rest))))) :
    y = a ∧ rest.length ≤ 4 ∧ ((∃ ix r, i = .invokespecial ix ∧ d = 0 ∧ st = .ref r :: rest ∧ as = [.ref r]) ∨ (∃ ix r bs ci fs, i = .invokevirtual ix ∧ as = .ref r :: bs ∧ st = bs.reverse ++ .ref r :: rest ∧ as.length = b ∧ as.all xm_cat = true ∧ S.1[r]? = some (.inr (ci, fs)) ∧ ci = k) ∨ (∃ ix, i = .invokestatic ix ∧ st = as.reverse ++ rest ∧ as.length = b ∧ as.all xm_cat = true)) := by
  unfold xm_big at hact
  split at hact
  · repeat' (first | cases hact | split at hact)
  · cases hact
  · repeat' (first | cases hact | split at hact)
  · repeat' (first | cases hact | split at hact)
  · repeat' (first | cases hact | split at hact)
  · repeat' (first | cases hact | split at hact)
  · split at hact
    · split at hact <;> cases hact
    · split at hact
      · rename_i hd
        cases hact
        exact ⟨rfl, hd.2, Or.inl ⟨_, _, rfl, hd.1, rfl, rfl⟩⟩
      · cases hact
  · split at hact
    · rename_i hl
      split at hact
      · rename_i r bs hrev
        split at hact
        · rename_i ci fs hr
          split at hact
          · rename_i hk
            cases hact
            have h1 : st.take b = bs.reverse ++ [.ref r] := by
              have := congrArg List.reverse hrev
              simpa using this
            refine ⟨rfl, hl.2.1, Or.inr (Or.inl ⟨_, r, bs, ci, fs, rfl, rfl, ?_, ?_, ?_, hr, hk⟩)⟩
            · have h2 := List.take_append_drop b st
              rw [h1] at h2
              rw [List.append_assoc] at h2
              exact h2.symm
            · rw [← hrev]
              simp only [List.length_reverse, List.length_take]
              omega
            · rw [← hrev]
              simpa using hl.2.2
          · cases hact
        · cases hact
      · cases hact
    · cases hact
  · split at hact
    · rename_i hl
      cases hact
      refine ⟨rfl, hl.2.1, Or.inr (Or.inr ⟨_, rfl, ?_, ?_, ?_⟩)⟩
      · simp
      · simp only [List.length_reverse, List.length_take]
        omega
      · simpa using hl.2.2
    · cases hact
  · cases hact
/-- a method's first frame -/
theorem xm_first {as : List Value} {nA : Nat} (hc : as.all xm_cat = true) (hn : as.length ≤ nA) : entryFrame m (as.map (xm_tv B0 sb)).toArray nA = F0 m 0 (((as.map (xm_tv B0 sb)).map Slot.val ++ List.replicate (nA - (as.map (xm_tv B0 sb)).length) Slot.unset).toArray) [] ∧
    xm_lv B0 sb (((as.map (xm_tv B0 sb)).map Slot.val ++ List.replicate (nA - (as.map (xm_tv B0 sb)).length) Slot.unset).toArray) nA (as.map some ++ List.replicate (nA - as.length) none) := by
  have hc1 : ∀ v ∈ as, xm_cat v = true := List.all_eq_true.mp hc
  have hc2 : ∀ v ∈ as.map (xm_tv B0 sb), v.category = 1 := by
    intro v hv
    obtain ⟨w, hw, rfl⟩ := List.mem_map.mp hv
    exact xm_cat_ok (hc1 w hw)
  refine ⟨entry_eq m _ hc2 nA, by simp; omega, ⟨fun i v hv hv2 => ?_, fun i hi => ?_⟩, by simp; omega, fun i v hv => ?_⟩
  · exfalso
    rw [List.getElem?_toArray] at hv
    rcases List.mem_append.mp (List.mem_of_getElem? hv) with h | h
    · obtain ⟨w, hw, h2⟩ := List.mem_map.mp h
      cases h2
      have := hc2 _ hw
      omega
    · have := (List.mem_replicate.mp h).2
      cases this
  · exfalso
    rw [List.getElem?_toArray] at hi
    rcases List.mem_append.mp (List.mem_of_getElem? hi) with h | h
    · obtain ⟨w, hw, h2⟩ := List.mem_map.mp h
      cases h2
    · have := (List.mem_replicate.mp h).2
      cases this
  · by_cases hi : i < as.length
    · rw [List.getElem?_append_left (by simpa using hi), List.getElem?_map] at hv
      obtain ⟨w, hw, h2⟩ := Option.map_eq_some_iff.mp hv
      cases h2
      refine ⟨?_, by have := xm_cat_ok (B0 := B0) (sb := sb) (hc1 v (List.mem_of_getElem? hw)); rw [xm_tv_cat] at this; exact this⟩
      rw [List.getElem?_toArray, List.getElem?_append_left (by simpa using hi), List.getElem?_map, List.getElem?_map, hw]
      rfl
    · rw [List.getElem?_append_right (by simpa using Nat.not_lt.mp hi)] at hv
      have := (List.mem_replicate.mp (List.mem_of_getElem? hv)).2
      cases this
theorem xm_okM.full (h : xm_okM WS cl M = true) (hn : M.1.name ≠ "law") : xm_okF WS cl M = true := by
  unfold xm_okM at h
  rw [if_neg hn] at h
  exact h
theorem xm_code {s0 : State} {mi : Nat} (hWS : ∀ w, WS w = true → ∀ (a' : Array Value) (U : State), s0.WarmedH U.vm → w.before a' U = true) (hok : xm_okF WS cl M = true) {U : State} (hU : s0.WarmedH U.vm) (a' : Array Value) :
    (Cond.codeWith M.1 M.2.1 M.2.2.1 M.2.2.2.1 (xm_h4 M)).before a' U = true ∧ (Cond.initialized M.1.cls).before a' U = true := by
  simp only [xm_okF, Bool.and_eq_true, decide_eq_true_eq] at hok
  obtain ⟨⟨⟨-, h1⟩, h2⟩, -⟩ := hok
  refine ⟨?_, hWS _ h2 _ _ hU⟩
  split at h1
  · rename_i hnil
    have h3 := hWS _ h1 a' U hU
    unfold Cond.before Cond.holds at h3 ⊢
    rw [Cond.code_iff_codeWith_nil] at h3
    have h4 : xm_h4 M = [] := by unfold xm_h4; rw [hnil]; rfl
    rw [h4]
    exact h3
  · exact hWS _ h1 a' U hU
end XM8b
end
section
/-! 07.whole: the simulation. -/
section XM9
variable {l : Launch}
variable {WS : Cond → Bool} {cl : List vw_C} {kt : List FieldType} {df : List (List Value)} {dA : Nat → ClassId} {D : va_G} {B0 sb LS : Nat} {xs : Nat → Int32} {P : List xm_M}
set_option maxHeartbeats 8000000 in
set_option maxRecDepth 100000 in
theorem xm_sim {s0 : State} {KC KS : Nat} (hTop : xm_Top WS cl kt df P dA D B0 sb LS xs s0) (htr : ∀ e : Env, l.admits e → e.platform.stackTraces = false) : ∀ (n d mi : Nat) (F : xm_F) (S S1 : xm_S) (r : Option Value ⊕ Nat), xm_run xs LS kt df P n d mi F S = some (r, S1) → S1.1.length ≤ KC → S1.2.1 ≤ KS →
    ∀ (p : Program) (e : Env) (R : Room) (s : State) (m : MethodId) (args : Array Value) (below : List Frame) (meth : Method) (c : Code) (H : Heap) (locs : List Loc) (cells slots : Nat) (ls : Array Slot) (h0 : List va_E) (ks0 : Nat) (M : xm_M), P[mi]? = some M →
      xm_Frm p R s0 s m meth c B0 KC KS d M h0 ks0 → xm_V D cl dA B0 sb s h0 ks0 M.2.2.1 F.2.1 S H locs cells slots ls →
      W p l e R s m args below meth c H locs cells slots (xm_End D cl dA B0 sb s below h0 ks0 r S1) (F0 m F.1 ls (F.2.2.map (xm_tv B0 sb))) := by
  intro n
  induction n with
  | zero => intro d mi F S S1 r h; simp [xm_run] at h
  | succ n ih =>
    intro d mi F S S1 r hrun hKC hKS p e R s m args below meth c H locs cells slots ls h0 ks0 M hM hF hV
    obtain ⟨hx, hnm, hmn, hb, hml, hret, hlk, hxt, hle, hsz, hRf, hRl, hRc, hRs⟩ := id hF
    obtain ⟨hWS, hK0, hX0, hsb, hB0, hZ1, hZ2, hZ3, hZ4, hcl, hall, hcast⟩ := id hTop
    have hown : s.vm.findClass M.1.cls = some m.cls := hnm
    have hts : ∀ w, WS w = true → w.before args s = true := fun w hw => hWS w hw args s hle.1
    have hK : va_K D cl (xm_tys kt dA) s := va_K.moved hle.1.alike hK0
    have hX : va_X sb LS xs s s.heap := (va_X.moved hle.1.alike hX0).kept (hle.2.2 sb (by omega))
    have hlen := xm_run_len _ _ _ _ _ _ _ hrun
    obtain ⟨hokM, hokI⟩ := hall mi M hM
    unfold xm_run at hrun
    split at hrun
    · cases hrun
    · rename_i F' S' ha
      have hlen2 := xm_run_len _ _ _ _ _ _ _ hrun
      unfold xm_act at ha
      split at ha
      · rename_i pc' i a b k d0 hat
        obtain ⟨hmem, hpc⟩ := xm_at_mem hM hat
        have hpc : pc' = F.1 := hpc
        subst hpc
        obtain ⟨o1, o2, o3, o4⟩ := hokI _ hmem
        split at ha
        · exact xm_sm hx hb hown hmn hts hK hX hsb (by omega) hcl o1 ha hV (fun H' locs' ls' hV' => ih _ _ _ _ _ _ hrun hKC hKS _ _ _ _ _ _ _ _ _ _ _ _ _ _ _ _ _ hM hF hV')
        · exact xm_bg hx hb hml hown hts hK hsz hcl (by omega) (by omega) o1 o2 ha (by omega) (by omega) hV (fun H' locs' cells' slots' ls' hV' => ih _ _ _ _ _ _ hrun hKC hKS _ _ _ _ _ _ _ _ _ _ _ _ _ _ _ _ _ hM hF hV')
      · cases ha
    · rename_i v ha
      cases hrun
      unfold xm_act at ha
      split at ha
      · rename_i pc' i a b k d0 hat
        obtain ⟨hmem, hpc⟩ := xm_at_mem hM hat
        have hpc : pc' = F.1 := hpc
        subst hpc
        obtain ⟨o1, o2, o3, o4⟩ := hokI _ hmem
        have hdg := o1
        simp only [xm_ok, Bool.and_eq_true, decide_eq_true_eq] at hdg
        have hdg := hdg.1
        split at ha
        · exact (xm_ins_inl ha).elim
        · refine xm_size hsz hV fun hHs => ?_
          obtain ⟨h1, h2, h3, h4, h5, h6⟩ := hV
          have hfree : ∀ q ∈ locs, B0 ≤ q.base ∧ S.2.2 = false := fun q hq => ⟨h3.2.2 q hq, by
            cases hS : S.2.2 with
            | false => rfl
            | true => rw [(h6 hS).1] at hq; cases hq⟩
          have hfin : ∀ t : State, MQ below (fun _ _ o t => o = xm_o B0 sb (.inl v) ∧ t.heap = H) args s cells slots (fun q => B0 ≤ q ∧ S.2.2 = false) t → xm_End D cl dA B0 sb s below h0 ks0 (.inl v) S t := by
            intro t ht
            obtain ⟨o, hrunT, hend, ⟨ho, hth⟩, L, ⟨hro, hW, hsame⟩, hL⟩ := ht
            refine ⟨o, hrunT, hend, ho, hW, by rw [hth]; exact h2, by rw [hth]; exact hHs, fun q hq => by rw [hth]; exact h3.2.1 q (by omega) (by show ¬ B0 ≤ q; omega), (fun i hi => by cases hi), L, fun q hq => (hL q hq).1, fun hS => ⟨?_, fun _ _ => (h6 hS).2⟩, (fun i hi => by cases hi), ?_⟩
            · cases L with
              | nil => rfl
              | cons q r => have := (hL q List.mem_cons_self).2; rw [hS] at this; cases this
            · have q1 : S.1.length - h0.length = cells := by omega
              have q2 : S.2.1 - ks0 = slots := by omega
              rw [q1, q2]
              exact hsame
          rcases xm_big_ret ha with ⟨rfl, x, hst, rfl, hd0⟩ | ⟨rfl, hst, rfl⟩
          · rw [hst]
            simp only [xm_okC] at o4
            refine xm_mono hfin ?_
            split at o4
            · rename_i hr0
              exact W.zret (v := x) (ty := .int) hx hb (hret.trans hr0) rfl (fun t ht _ => ⟨rfl, ht⟩) hfree hdg hlk
            · rename_i hr0
              have hd1 : d0 = 1 := by simpa using o4
              have hx01 : x = 0 ∨ x = 1 := by
                rcases hd0 with h | h
                · omega
                · exact h
              exact W.zret (v := x) (ty := .boolean) hx hb (hret.trans hr0) (by rcases hx01 with rfl | rfl <;> decide) (fun t ht _ => ⟨rfl, ht⟩) hfree hdg hlk
            · cases o4
          · rw [hst]
            simp only [xm_okC, decide_eq_true_eq] at o4
            exact xm_mono hfin (W.vret hx hb (hret.trans o4) (fun t ht _ => ⟨rfl, ht⟩) hfree hdg hlk)
      · cases ha
    · rename_i ci ha
      split at hrun
      · rename_i hcn
        cases hrun
        simp only [Bool.and_eq_true, decide_eq_true_eq] at hcn
        unfold xm_act at ha
        split at ha
        · rename_i pc' i a b k d0 hat
          obtain ⟨hmem, hpc⟩ := xm_at_mem hM hat
          have hpc : pc' = F.1 := hpc
          subst hpc
          obtain ⟨o1, o2, o3, o4⟩ := hokI _ hmem
          split at ha
          · exact (xm_ins_inl ha).elim
          · obtain ⟨ix, rfl, hd1, hst, rfl⟩ := xm_big_thr ha
            have hnoH : c.exceptionTable.toList = [] := by
              have h1 := hcn.1.2
              unfold xm_noH at h1
              rw [hM] at h1
              simp only [Bool.and_eq_true, List.isEmpty_iff, bne_iff_ne, ne_eq] at h1
              have h3 : xm_h4 M = [] := by unfold xm_h4; rw [h1.1]; rfl
              have hxt := hxt h1.2
              rw [h3] at hxt
              simpa using hxt
            simp only [List.length_append, List.length_singleton] at hKC
            simp only at hKS
            exact xm_thr hx (htr e) hb hml hlk hown hts hK (xm_isRef (hZ1 #[]) hle) (xm_isRef (hZ2 #[]) hle) (xm_lays (hZ3 #[]) hle) (xm_lays (hZ4 #[]) hle) hsz (by omega) (by omega) hnoH hd1 hst o1 o3 hcn.1.1 (by omega) (by omega) hV
        · cases ha
      · cases hrun
    · rename_i y as rest ha
      split at hrun
      · cases hrun
      · rename_i d'
        have hlenC : ∀ (r1 : Option Value ⊕ Nat) (S' : xm_S), xm_run xs LS kt df P n d' y (0, xm_entry P y as, []) (S.1, S.2.1, true) = some (r1, S') → S.1.length ≤ S'.1.length ∧ S.2.1 ≤ S'.2.1 := fun r1 S' h => xm_run_len _ _ _ _ (S.1, S.2.1, true) _ _ h
        unfold xm_act at ha
        split at ha
        case h_2 => cases ha
        rename_i pc' i a b k d0 hat
        obtain ⟨hmem, hpc⟩ := xm_at_mem hM hat
        have hpc : pc' = F.1 := hpc
        subst hpc
        obtain ⟨o1, o2, o3, o4⟩ := hokI _ hmem
        have hdg0 := o1
        simp only [xm_ok, Bool.and_eq_true, decide_eq_true_eq] at hdg0
        have hdg := hdg0.1
        clear hdg0
        split at ha
        · exact (xm_ins_inl ha).elim
        obtain ⟨rfl, hrest, hcase⟩ := xm_big_call ha
        have hgo : ∀ M' : xm_M, P[y]? = some M' → M'.1.name ≠ "law" → as.all xm_cat = true → as.length ≤ M'.2.2.1 → (∀ T : State, T.heap = H → Stand p l e R s m args below meth c T locs cells slots → xm_Fr p l e R s m args below meth c T locs cells slots (F0 m F.1 ls (F.2.2.map (xm_tv B0 sb))) (rest.map (xm_tv B0 sb)) M'.1 (as.map (xm_tv B0 sb)).toArray) →
            (∃ ig, decode M.2.1 F.1 = .ok (ig, 3)) → W p l e R s m args below meth c H locs cells slots (xm_End D cl dA B0 sb s below h0 ks0 r S1) (F0 m F.1 ls (F.2.2.map (xm_tv B0 sb))) := by
          intro M' hM' hnl hcat hlenA hfront hdg3 T hT X
          obtain ⟨ig, hdg3⟩ := hdg3
          obtain ⟨vm₁, mk, X₁, hnamed, st⟩ := hfront T hT X
          cases hrc : xm_run xs LS kt df P n d' y (0, xm_entry P y as, []) (S.1, S.2.1, true) with
          | none => rw [hrc] at hrun; cases hrun
          | some q =>
            obtain ⟨r1, S'⟩ := q
            rw [hrc] at hrun
            have hl1 := hlenC r1 S' hrc
            have hl2 : S'.1.length ≤ S1.1.length ∧ S'.2.1 ≤ S1.2.1 := by
              cases r1 with
              | inl v => exact xm_run_len _ _ _ _ (S'.1, S'.2.1, S.2.2 && S'.2.2) _ _ hrun
              | inr i =>
                simp only at hrun
                split at hrun
                · split at hrun
                  · exact xm_run_len _ _ _ _ (S'.1, S'.2.1, false) _ _ hrun
                  · split at hrun
                    · cases hrun
                      exact ⟨Nat.le_refl _, Nat.le_refl _⟩
                    · cases hrun
                · cases hrun
            obtain ⟨hV1, hV2, hV3, hV4, hV5, hV6⟩ := hV
            have hokM' := xm_okM.full (hall y M' hM').1 hnl
            have hpl' : plainName M'.1.cls = true ∧ M'.2.2.1 ≤ 14 := by
              simp only [xm_okF, Bool.and_eq_true, decide_eq_true_eq] at hokM'
              exact hokM'.1.1.1
            have hXW : s0.WarmedH (T.setVm vm₁).vm := State.WarmedH.trans hle.1 X₁.warmed
            have hHz := hsz
            have hHs : H.size = B0 + S.1.length := by
              have g1 := X.heapSize
              rw [hT] at g1
              have g2 := hV3.1
              by_cases hc0 : cells = 0
              · omega
              · have hl : S.1.length - 1 < S.1.length := by omega
                have g3 := (hV2 (S.1.length - 1) _ (xm_tw_get (List.getElem?_eq_getElem hl))).lt
                have g5 : B0 + (S.1.length - 1) < H.size := g3
                omega
            have hMet : MetFree l M'.1 (headSpec [.codeWith M'.1 M'.2.1 M'.2.2.1 M'.2.2.2.1 (xm_h4 M')] ({ frames := d' + 1, cells := KC - S.1.length, slots := KS - S.2.1, locals := 33 * d' + 58 } : Room))
                (fun a u => a = (as.map (xm_tv B0 sb)).toArray ∧ xm_le s0 u ∧ u.heap.size = B0 + S.1.length ∧ va_P D cl (xm_tw dA B0 sb S.1) u.heap) (fun _ _ _ _ _ => True) (fun _ u o t => xm_E0 D cl dA B0 sb u S.1 S.2.1 r1 S' o t) := by
              refine MetFree.of_bodyS (code := M'.2.1) (maxLocals := M'.2.2.1) (ret := M'.2.2.2.1) hpl'.1 ?_ ?_
              · intro args2 s2 m2 hpre hn2
                obtain ⟨m3, meth3, c3, hn3, g1, g2, g3, g4, -, g6, g7, -⟩ := Cond.codeWith_spec (atoms_spec (ws := [.codeWith M'.1 M'.2.1 M'.2.2.1 M'.2.2.2.1 (xm_h4 M')]) hpre _ (List.mem_singleton_self _))
                cases hn2.symm.trans hn3
                exact ⟨meth3, c3, g1, g2, g3, g4, g6, g7⟩
              · intro p2 e2 s2 m2 args2 below2 meth2 c2 s₁ B hml2 hP2 _
                obtain ⟨rfl, hle2, hsz2, hPw2⟩ := hP2
                have hh0 : s₁.heap = s2.heap := by rw [B.state]; rfl
                obtain ⟨m3, meth3, c3, hn3, g1, g2, -, -, g5, -, -, -⟩ := Cond.codeWith_spec (atoms_spec (ws := [.codeWith M'.1 M'.2.1 M'.2.2.1 M'.2.2.2.1 (xm_h4 M')]) B.pre _ (List.mem_singleton_self _))
                cases B.named.symm.trans hn3
                cases B.method.symm.trans g1
                have X2 := Stand.of_body B
                cases X2.code.symm.trans g2
                obtain ⟨f1, f2⟩ := xm_first (m := m2) (B0 := B0) (sb := sb) hcat hlenA
                have hent : xm_entry P y as = as.map some ++ List.replicate (M'.2.2.1 - as.length) none := by unfold xm_entry; rw [hM']
                have hw := ih d' y _ _ _ _ hrc (by omega) (by omega) p2 e2 ({ frames := d' + 1, cells := KC - S.1.length, slots := KS - S.2.1, locals := 33 * d' + 58 } : Room) s2 m2 (as.map (xm_tv B0 sb)).toArray below2 meth2 c2 s2.heap [] 0 0 _ S.1 S.2.1 M' hM'
                  ⟨B.exec, findClass_of_methodNamed B.named, fun hi => (name_of_methodNamed B.named B.method).1.trans hi, B.bytes, hml2, B.returns, B.notSynchronized, fun _ => g5, hle2, hsz2, rfl, rfl, by show KC - S.1.length + S.1.length = KC; omega, by show KS - S.2.1 + S.2.1 = KS; omega⟩
                  ⟨by rw [hent]; exact f2, hPw2, va_S.rf, by simp, by simp, fun _ => ⟨rfl, rfl⟩⟩
                obtain ⟨t, a1, o, b1, b2, b3⟩ := hw s₁ hh0 X2
                refine ⟨t, o, ?_, b1, b2, b3⟩
                rw [f1]
                exact a1
            have hcw := xm_code (mi := y) hWS hokM' hXW (as.map (xm_tv B0 sb)).toArray
            have hsum := xm_sum (B0 := B0) (sb := sb) rest
            have hn1 : (T.setVm vm₁).methodNamed? M'.1 = some mk := X₁.named hnamed
            have hTq : ∀ q : Nat, q < B0 → T.heap[q]? = s.heap[q]? := fun q hq => by rw [hT]; exact hV3.2.1 q (by omega) (by show ¬ B0 ≤ q; omega)
            obtain ⟨o, t, hst, hend, hE⟩ := xm_callee X₁ (g := { F0 m F.1 ls (F.2.2.map (xm_tv B0 sb)) with stack := rest.map (xm_tv B0 sb) }) rfl (by show ls.size = _; rw [hml]; exact hV1.1) (by rw [hb]; exact hdg3) (by show 2 * 0 + ((rest.map (xm_tv B0 sb)).map fun v => v.category).sum ≤ 8; omega) hMet hcw.1 hn1 hcw.2
              (by show d' + 1 + 1 ≤ _; omega) (by show 8 + (M'.2.2.1 + 11) + (33 * d' + 58) ≤ _; omega) (by show cells + (KC - S.1.length) ≤ _; omega) (by show slots + (KS - S.2.1) ≤ _; omega)
              ⟨rfl, xm_le.tr hle X₁.warmed (by show _ ≤ T.heap.size; rw [hT]; omega) (fun q hq => hTq q (by omega)), by show T.heap.size = _; rw [hT]; exact hHs, by show va_P D cl _ T.heap; rw [hT]; exact hV2⟩
            obtain ⟨ho, hWt, hPt, hzt, hot, hthr, L, hL1, hL2, hL3, hsame⟩ := hE
            have hot' : ∀ q : Nat, q < B0 → t.heap[q]? = s.heap[q]? := fun q hq => (hot q hq).trans (hTq q hq)
            cases r1 with
            | inl v =>
              subst ho
              obtain ⟨T', X', hWT, hsT, ht⟩ := X₁.outOf rfl (by rw [hb]; exact hdg3) hend hWt hsame
              have hTh : T'.heap = t.heap := by rw [ht]; simp [State.setTop, State.modifyTopJava]
              simp only at hrun
              have hk := ih _ _ _ _ _ _ hrun hKC hKS p e R s m args below meth c T'.heap (locs ++ L) (cells + (S'.1.length - S.1.length)) (slots + (S'.2.1 - S.2.1)) ls h0 ks0 M hM hF
                ⟨hV1, by rw [hTh]; exact hPt, ⟨by rw [hTh, hzt]; omega, fun q h1 h2 => by rw [hTh]; exact hot' q (by have : ¬ B0 ≤ q := h2; omega), fun q hq => by
                    rcases List.mem_append.mp hq with h | h
                    · exact hV3.2.2 q h
                    · exact hL1 q h⟩, by show h0.length + (cells + (S'.1.length - S.1.length)) = S'.1.length; omega, by show slots + (S'.2.1 - S.2.1) + ks0 = S'.2.1; omega, fun hcc => by
                    simp only [Bool.and_eq_true] at hcc
                    obtain ⟨z1, z2⟩ := hV6 hcc.1
                    obtain ⟨z3, z4⟩ := hL2 hcc.2
                    exact ⟨by rw [z1, z3]; rfl, (z4 v rfl).trans z2⟩⟩
              obtain ⟨t2, a1, b1⟩ := hk T' rfl X'
              refine ⟨t2, st t2 (fun acts => ?_), b1⟩
              rw [doInvoke_state]
              refine hst.trans ?_
              rw [ht]
              have hvl : (v.map (xm_tv B0 sb)).toList ++ rest.map (xm_tv B0 sb) = (v.toList ++ rest).map (xm_tv B0 sb) := by cases v <;> simp
              rw [← hvl] at a1
              exact a1
            | inr i =>
              subst ho
              have hLn := hL3 i rfl
              subst hLn
              obtain ⟨ci, C, T0, hi, hci⟩ := hthr i rfl
              obtain ⟨T', X', hWT, hsT, ht⟩ := X₁.outOfThrown rfl hend hWt hsame
              have hTh : T'.heap = t.heap := by rw [ht]; exact (Stand.throwing_heap T' _ _).symm
              simp only [hi] at hrun
              have hva : va_S (fun q => B0 ≤ q) s.heap T'.heap (locs ++ []) := ⟨by rw [hTh, hzt]; omega, fun q h1 h2 => by rw [hTh]; exact hot' q (by have : ¬ B0 ≤ q := h2; omega), fun q hq => by rw [List.append_nil] at hq; exact hV3.2.2 q hq⟩
              split at hrun
              · rename_i tg hhand
                obtain ⟨r0, hr0, cell, hcell, hccls, hcvm, -⟩ := hPt i _ (xm_tw_get hi)
                cases hci.symm.trans hr0
                have hKc := (hK.1 ci _ hci).2
                obtain ⟨kC, hkC, -⟩ := hKc.2
                have hcell' : T'.heap[B0 + i]? = some cell := by rw [hTh]; exact hcell
                have hpl : e.platform.magicAccessors = ({} : Platform).magicAccessors := by rw [X.admits.platform]
                have hnl2 : M.1.name ≠ "law" := by
                  intro hl
                  have h1 := hokM
                  unfold xm_okM at h1
                  rw [if_pos hl] at h1
                  unfold xm_hand at hhand
                  rw [hM] at hhand
                  have h2 : M.2.2.2.2.1 = [] := by simpa using h1
                  simp only [h2] at hhand
                  cases hhand
                have hhd : ∀ h ∈ M.2.2.2.2.1, h.2.2.2.1 ≠ 0 ∧ ∃ c', s.vm.ClassLinks e.platform m.cls h.2.2.2.1 c' ∧ s.vm.assignable cell.cls c' = (h.2.2.2.2 == ci) := by
                  intro h hh
                  have hok := xm_okM.full hokM hnl2
                  simp only [xm_okF, Bool.and_eq_true, List.all_eq_true, decide_eq_true_eq] at hok
                  obtain ⟨hne, hlk2⟩ := hok.2 h hh
                  refine ⟨hne, ?_⟩
                  split at hlk2
                  · rename_i C' T1 N1 hc1
                    obtain ⟨c', hc', hcl'⟩ := Cond.classLink_spec hown (hts _ hlk2) e.platform hpl
                    refine ⟨c', hcl', ?_⟩
                    rw [hccls]
                    exact hcast M mi hM h hh ci C C' T0 T1 N1 hci hc1 s hle.1 _ _ hKc.1 hc'
                  · cases hlk2
                have hhand' : (M.2.2.2.2.1.find? (fun x => decide (x.1 ≤ F.1) && decide (F.1 < x.2.1) && x.2.2.2.2 == ci)).map (fun x => x.2.2.1) = some tg := by
                  unfold xm_hand at hhand
                  rw [hM] at hhand
                  exact hhand
                obtain ⟨vm2, X2, st2⟩ := xm_caught X' (g := { F0 m F.1 ls (F.2.2.map (xm_tv B0 sb)) with stack := rest.map (xm_tv B0 sb) }) rfl hcell' (by rw [hcvm]; rfl) (by rw [hccls]; exact ⟨kC, hkC⟩) (hxt hnl2) hhd hhand'
                have hk := ih _ _ _ _ _ _ hrun hKC hKS p e R s m args below meth c T'.heap (locs ++ []) (cells + (S'.1.length - S.1.length)) (slots + (S'.2.1 - S.2.1)) ls h0 ks0 M hM hF
                  ⟨hV1, by rw [hTh]; exact hPt, hva, by show h0.length + (cells + (S'.1.length - S.1.length)) = S'.1.length; omega, by show slots + (S'.2.1 - S.2.1) + ks0 = S'.2.1; omega, fun hcc => by cases hcc⟩
                obtain ⟨t2, a1, b1⟩ := hk (T'.setVm vm2) rfl X2
                refine ⟨t2, st t2 (fun acts => ?_), b1⟩
                rw [doInvoke_state]
                refine hst.trans ?_
                rw [ht]
                exact st2 t2 a1
              · split at hrun
                · rename_i hcn
                  cases hrun
                  simp only [Bool.and_eq_true] at hcn
                  obtain ⟨z1, z2⟩ := hV6 hcn.1
                  subst z1
                  have hnoH : c.exceptionTable.toList = [] := by
                    have h1 := hcn.2
                    unfold xm_noH at h1
                    rw [hM] at h1
                    simp only [Bool.and_eq_true, List.isEmpty_iff, bne_iff_ne, ne_eq] at h1
                    have h3 : xm_h4 M = [] := by unfold xm_h4; rw [h1.1]; rfl
                    have hxt := hxt h1.2
                    rw [h3] at hxt
                    simpa using hxt
                  obtain ⟨w1, w2, w3, w4, w5⟩ := X'.leaveThrown (B0 + i) (g := { F0 m F.1 ls (F.2.2.map (xm_tv B0 sb)) with stack := rest.map (xm_tv B0 sb) }) rfl rfl rfl (by rw [hnoH]; intro y hy; cases hy) hlk
                  refine ⟨_, st _ (fun acts => ?_), .threw (B0 + i), w2, w3, rfl, w4, ?_, ?_, ?_, ?_, [], fun q hq => (by cases hq), fun _ => ⟨rfl, fun v hv => by cases hv⟩, fun _ _ => rfl, ?_⟩
                  · rw [doInvoke_state]
                    refine hst.trans ?_
                    rw [ht]
                    exact w1
                  · show va_P D cl (xm_tw dA B0 sb S'.1) T'.heap
                    rw [hTh]; exact hPt
                  · show T'.heap.size = _
                    rw [hTh]; exact hzt
                  · intro q hq
                    show T'.heap[q]? = _
                    rw [hTh]; exact hot' q hq
                  · intro i' hi'
                    cases hi'
                    exact ⟨ci, C, T0, hi, hci⟩
                  · have q1 : S'.1.length - h0.length = cells + (S'.1.length - S.1.length) := by omega
                    have q2 : S'.2.1 - ks0 = slots + (S'.2.1 - S.2.1) := by omega
                    show s.sameButNew _ [] (S'.1.length - h0.length) (S'.2.1 - ks0)
                    rw [q1, q2]
                    exact w5
                · cases hrun
        rcases hcase with ⟨ix, r0, rfl, hd0, hst, has⟩ | ⟨ix, r0, bs, ci, fs, rfl, has, hst, hlb, hcat, hr, hck⟩ | ⟨ix, rfl, hst, hlb, hcat⟩
        · simp only [xm_okC, if_pos hd0] at o4
          split at o4
          · rename_i M' hM'
            simp only [Bool.and_eq_true, Bool.or_eq_true, decide_eq_true_eq, beq_iff_eq] at o4
            obtain ⟨⟨⟨⟨⟨⟨⟨⟨k1, k2⟩, k3⟩, k4⟩, k5⟩, k6⟩, k7⟩, k8⟩, k9⟩ := o4
            have hcw := xm_code (mi := y) hWS (xm_okM.full (hall y M' hM').1 k9) hle.1 args
            have h4 : xm_h4 M' = [] := by unfold xm_h4; rw [k4]; rfl
            have hcw1 := hcw.1
            rw [h4, k5] at hcw1
            subst has
            refine hgo M' hM' k9 rfl (by simpa using k8) ?_ ⟨_, hdg⟩
            intro T hT X
            rw [hst]
            exact xm_fI X hx hown (k1.imp (hts _) (hts _)) (hts _ k2) hcw1 k3 k6 k7 rfl (argsL := []) rfl rfl (by rw [hb]; exact hdg)
          · cases o4
        · simp only [xm_okC] at o4
          split at o4
          · rename_i M' C T0 N0 hM' hck'
            simp only [Bool.and_eq_true, Bool.or_eq_true, decide_eq_true_eq] at o4
            obtain ⟨⟨⟨⟨⟨⟨k1, k2⟩, k3⟩, k6⟩, k7⟩, k8⟩, k9⟩ := o4
            have hcw := xm_code (mi := y) hWS (xm_okM.full (hall y M' hM').1 k9) hle.1 args
            refine hgo M' hM' k9 hcat (by rw [hlb]; exact k8) ?_ ⟨_, hdg⟩
            intro T hT X
            subst has
            subst hck
            obtain ⟨r1, hr1, cell, hcell, hccls, hcvm, -⟩ := hV.2.1 r0 _ (xm_tw_get hr)
            cases hck'.symm.trans hr1
            have hpar : (parseMethodDescriptor M'.1.desc).map (fun d => d.parameters.length) = some bs.length := by
              rw [List.length_cons] at hlb
              cases hpd : parseMethodDescriptor M'.1.desc with
              | none => rw [hpd] at k7; cases k7
              | some q =>
                rw [hpd] at k7
                simp only [Option.map_some, Option.some.injEq] at k7 ⊢
                omega
            exact xm_fV X hx hown (k1.imp (hts _) (hts _)) (hts _ k2) (hts _ k3) hcw.1 k6 hpar (b := B0 + r0) (by rw [hT]; exact hcell) (by rw [hcvm]; rfl) (by rw [hccls]; exact (hK.1 ci _ hck').2.1) rfl (argsL := bs.map (xm_tv B0 sb)) (by simp) (by show F.2.2.map _ = _; rw [hst]; simp [xm_tv]) (by rw [hb]; exact hdg)
          · cases o4
        · simp only [xm_okC] at o4
          split at o4
          · rename_i M' hM'
            simp only [Bool.and_eq_true, Bool.or_eq_true, decide_eq_true_eq] at o4
            obtain ⟨⟨⟨⟨⟨k1, k2⟩, k6⟩, k7⟩, k8⟩, k9⟩ := o4
            have hcw := xm_code (mi := y) hWS (xm_okM.full (hall y M' hM').1 k9) hle.1 args
            refine hgo M' hM' k9 hcat (by rw [hlb]; exact k8) ?_ ⟨_, hdg⟩
            intro T hT X
            exact xm_fS X hx hown (k1.imp (hts _) (hts _)) (hts _ k2) hcw.2 hcw.1 k6 (by rw [k7, ← hlb]) rfl (argsL := as.map (xm_tv B0 sb)) (by simp) (by show F.2.2.map _ = _; rw [hst]; simp) (by rw [hb]; exact hdg)
          · cases o4
end XM9
end
