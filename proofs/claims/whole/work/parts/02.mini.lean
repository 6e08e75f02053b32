/-! 02.mini: a small machine of our own over the same instructions: a world is a list of cells, a reference is a place in it; the k-th cell lies at the address base + k. '.retAddr' stands for the script. -/
abbrev xm_I : Type := Nat × ClassFile.Instr × Nat × Nat × Nat × Nat
abbrev xm_Hd : Type := Nat × Nat × Nat × Nat × Nat
/-- a method: its name, its bytes, how many locals, what it returns, its handlers (start, end, target, catch type, class), its instructions (pc, instruction, four numbers), its fields' owner -/
abbrev xm_M : Type := MethodName × ByteArray × Nat × Option ClassFile.FieldType × List xm_Hd × List xm_I
abbrev xm_F : Type := Nat × List (Option Value) × List Value
/-- the world: its cells, how many slots were made, whether nothing was written yet in this frame -/
abbrev xm_S : Type := List va_E × Nat × Bool
abbrev xm_A : Type := (xm_F × xm_S) ⊕ (Option Value) ⊕ Nat ⊕ (Nat × List Value × List Value)
/-- a value's kind fits a field: 0 int, 1 boolean, 2 reference -/
def xm_fit : Nat → Value → Bool
  | 0, .int _ => true
  | 1, .int x => x == 0 || x == 1
  | 2, .ref _ => true
  | 2, .null => true
  | _, _ => false
def xm_cat : Value → Bool
  | .int _ => true
  | .ref _ => true
  | .null => true
  | _ => false
def xm_isO : Option ClassFile.FieldType → Bool
  | some (.object _) => true
  | _ => false
/-- one instruction (what is no step of its own world: a return, a throw, a call) -/
def xm_ins (xs : Nat → Int32) (LS : Nat) (kt : List ClassFile.FieldType) (i : ClassFile.Instr) (a b k d pc : Nat) (L : List (Option Value)) (st : List Value) (S : xm_S) : Option xm_A :=
  match i, st with
  | .iconst n, st => some (.inl ((pc + 1, L, .int (Int32.ofInt n) :: st), S))
  | .bipush n, st => some (.inl ((pc + 2, L, .int (Int8.ofInt n).toInt32 :: st), S))
  | .sipush n, st => some (.inl ((pc + 3, L, .int (Int16.ofInt n).toInt32 :: st), S))
  | .ldc _, st => some (.inl ((pc + 2, L, .int (Int32.ofNat a) :: st), S))
  | .ldc_w _, st => some (.inl ((pc + 3, L, .int (Int32.ofNat a) :: st), S))
  | .iload j, st => match L[j]? with
    | some (some (.int x)) => some (.inl ((pc + 2, L, .int x :: st), S))
    | _ => none
  | .iload_n j, st => match L[j.val]? with
    | some (some (.int x)) => some (.inl ((pc + 1, L, .int x :: st), S))
    | _ => none
  | .aload j, st => match L[j]? with
    | some (some (.ref x)) => some (.inl ((pc + 2, L, .ref x :: st), S))
    | some (some (.retAddr x)) => some (.inl ((pc + 2, L, .retAddr x :: st), S))
    | _ => none
  | .aload_n j, st => match L[j.val]? with
    | some (some (.ref x)) => some (.inl ((pc + 1, L, .ref x :: st), S))
    | some (some (.retAddr x)) => some (.inl ((pc + 1, L, .retAddr x :: st), S))
    | _ => none
  | .istore j, .int x :: st => if j < L.length then some (.inl ((pc + 2, L.set j (some (.int x)), st), S)) else none
  | .istore_n j, .int x :: st => if j.val < L.length then some (.inl ((pc + 1, L.set j.val (some (.int x)), st), S)) else none
  | .astore j, .ref x :: st => if j < L.length then some (.inl ((pc + 2, L.set j (some (.ref x)), st), S)) else none
  | .astore_n j, .ref x :: st => if j.val < L.length then some (.inl ((pc + 1, L.set j.val (some (.ref x)), st), S)) else none
  | .iinc j n, st => match L[j]? with
    | some (some (.int x)) => some (.inl ((pc + 3, L.set j (some (.int (x + Int32.ofInt n))), st), S))
    | _ => none
  | .iadd, .int y :: .int x :: st => some (.inl ((pc + 1, L, .int (x + y) :: st), S))
  | .isub, .int y :: .int x :: st => some (.inl ((pc + 1, L, .int (x - y) :: st), S))
  | .imul, .int y :: .int x :: st => some (.inl ((pc + 1, L, .int (x * y) :: st), S))
  | .iand, .int y :: .int x :: st => some (.inl ((pc + 1, L, .int (x &&& y) :: st), S))
  | .ior, .int y :: .int x :: st => some (.inl ((pc + 1, L, .int (x ||| y) :: st), S))
  | .ixor, .int y :: .int x :: st => some (.inl ((pc + 1, L, .int (x ^^^ y) :: st), S))
  | .ishl, .int y :: .int x :: st => some (.inl ((pc + 1, L, .int (x <<< (y &&& 31)) :: st), S))
  | .ishr, .int y :: .int x :: st => some (.inl ((pc + 1, L, .int (x >>> (y &&& 31)) :: st), S))
  | .iushr, .int y :: .int x :: st => some (.inl ((pc + 1, L, .int (x.toUInt32 >>> (y.toUInt32 &&& Int32.toUInt32 31)).toInt32 :: st), S))
  | .ineg, .int x :: st => some (.inl ((pc + 1, L, .int (-x) :: st), S))
  | .i2l, .int x :: st => some (.inl ((pc + 1, L, .long x.toInt64 :: st), S))
  | .lcmp, .long y :: .long x :: st => some (.inl ((pc + 1, L, .int (lg_cmp x y) :: st), S))
  | .dup, v :: st => if xm_cat v then some (.inl ((pc + 1, L, v :: v :: st), S)) else none
  | .pop, v :: st => if xm_cat v then some (.inl ((pc + 1, L, st), S)) else none
  | .ifCond .eq _, .int x :: st => some (.inl ((if x = 0 then a else pc + 3, L, st), S))
  | .ifCond .ne _, .int x :: st => some (.inl ((if ¬ x = 0 then a else pc + 3, L, st), S))
  | .ifCond .lt _, .int x :: st => some (.inl ((if x < 0 then a else pc + 3, L, st), S))
  | .ifCond .ge _, .int x :: st => some (.inl ((if 0 ≤ x then a else pc + 3, L, st), S))
  | .ifCond .gt _, .int x :: st => some (.inl ((if 0 < x then a else pc + 3, L, st), S))
  | .ifCond .le _, .int x :: st => some (.inl ((if x ≤ 0 then a else pc + 3, L, st), S))
  | .if_icmp .eq _, .int y :: .int x :: st => some (.inl ((if x = y then a else pc + 3, L, st), S))
  | .if_icmp .ne _, .int y :: .int x :: st => some (.inl ((if ¬ x = y then a else pc + 3, L, st), S))
  | .if_icmp .lt _, .int y :: .int x :: st => some (.inl ((if x < y then a else pc + 3, L, st), S))
  | .if_icmp .ge _, .int y :: .int x :: st => some (.inl ((if y ≤ x then a else pc + 3, L, st), S))
  | .if_icmp .gt _, .int y :: .int x :: st => some (.inl ((if y < x then a else pc + 3, L, st), S))
  | .if_icmp .le _, .int y :: .int x :: st => some (.inl ((if x ≤ y then a else pc + 3, L, st), S))
  | .goto _, st => some (.inl ((a, L, st), S))
  | .tableswitch dflt lo hi offs, .int x :: st => if x.toInt < lo ∨ hi < x.toInt then some (.inl ((((pc : Int) + dflt).toNat, L, st), S)) else match offs[(x.toInt - lo).toNat]? with
    | some off => some (.inl ((((pc : Int) + off).toNat, L, st), S))
    | none => none
  | .getfield _, .ref r :: st => match S.1[r]? with
    | some (.inr (ci, fs)) => if ci = a then match fs[b]? with
      | some v => some (.inl ((pc + 3, L, v :: st), S))
      | none => none
      else none
    | _ => none
  | .putfield _, v :: .ref r :: st => match S.1[r]? with
    | some (.inr (ci, fs)) => if ci = a ∧ b < fs.length ∧ xm_fit d v = true then some (.inl ((pc + 3, L, st), (S.1.set r (.inr (ci, fs.set b v)), S.2.1, false))) else none
    | _ => none
  | .iaload, .int j :: .retAddr _ :: st => if ¬ (j < 0 ∨ LS ≤ j.toNatClampNeg) then some (.inl ((pc + 1, L, .int (xs j.toNatClampNeg) :: st), S)) else none
  | .iaload, .int j :: .ref r :: st => match S.1[r]? with
    | some (.inl (q, n, .inl f)) => if kt[q]? = some .int ∧ ¬ (j < 0 ∨ n ≤ j.toNatClampNeg) then some (.inl ((pc + 1, L, .int (f j.toNatClampNeg) :: st), S)) else none
    | _ => none
  | .iastore, .int x :: .int j :: .ref r :: st => match S.1[r]? with
    | some (.inl (q, n, .inl f)) => if kt[q]? = some .int ∧ ¬ (j < 0 ∨ n ≤ j.toNatClampNeg) then some (.inl ((pc + 1, L, st), (S.1.set r (.inl (q, n, .inl (upd f j.toNatClampNeg x))), S.2.1, false))) else none
    | _ => none
  | .baload, .int j :: .ref r :: st => match S.1[r]? with
    | some (.inl (q, n, .inl f)) => if kt[q]? = some .boolean ∧ ¬ (j < 0 ∨ n ≤ j.toNatClampNeg) then some (.inl ((pc + 1, L, .int (f j.toNatClampNeg) :: st), S)) else none
    | _ => none
  | .bastore, .int x :: .int j :: .ref r :: st => match S.1[r]? with
    | some (.inl (q, n, .inl f)) => if kt[q]? = some .boolean ∧ ¬ (j < 0 ∨ n ≤ j.toNatClampNeg) then some (.inl ((pc + 1, L, st), (S.1.set r (.inl (q, n, .inl (upd f j.toNatClampNeg (vp_nar .boolean x)))), S.2.1, false))) else none
    | _ => none
  | .laload, .int j :: .ref r :: st => match S.1[r]? with
    | some (.inl (q, n, .inr (.inl f))) => if kt[q]? = some .long ∧ ¬ (j < 0 ∨ n ≤ j.toNatClampNeg) then some (.inl ((pc + 1, L, .long (f j.toNatClampNeg) :: st), S)) else none
    | _ => none
  | .lastore, .long x :: .int j :: .ref r :: st => match S.1[r]? with
    | some (.inl (q, n, .inr (.inl f))) => if kt[q]? = some .long ∧ ¬ (j < 0 ∨ n ≤ j.toNatClampNeg) then some (.inl ((pc + 1, L, st), (S.1.set r (.inl (q, n, .inr (.inl (vp_updL f j.toNatClampNeg x)))), S.2.1, false))) else none
    | _ => none
  | .aaload, .int j :: .ref r :: st => match S.1[r]? with
    | some (.inl (q, n, .inr (.inr (.inr (.inr f))))) => if xm_isO kt[q]? = true ∧ ¬ (j < 0 ∨ n ≤ j.toNatClampNeg) then some (.inl ((pc + 1, L, va_rf (f j.toNatClampNeg) :: st), S)) else none
    | _ => none
  | .arraylength, .retAddr _ :: st => some (.inl ((pc + 1, L, .int (Int32.ofNat LS) :: st), S))
  | .arraylength, .ref r :: st => match S.1[r]? with
    | some (.inl (q, x)) => if q < kt.length then some (.inl ((pc + 1, L, .int (Int32.ofNat x.1) :: st), S)) else none
    | _ => none
  | _, _ => none

/-- a blank array of a kind -/
def xm_blank : Option ClassFile.FieldType → Option ((Nat → Int32) ⊕ (Nat → Int64) ⊕ (Nat → UInt32) ⊕ (Nat → UInt64) ⊕ (Nat → Option Nat))
  | some .int => some (.inl (fun _ => 0))
  | some .boolean => some (.inl (fun _ => 0))
  | some .long => some (.inr (.inl (fun _ => 0)))
  | _ => none
/-- what makes cells, what calls, what returns, what throws -/
def xm_big (kt : List ClassFile.FieldType) (df : List (List Value)) (i : ClassFile.Instr) (a b k d pc : Nat) (L : List (Option Value)) (st : List Value) (S : xm_S) : Option xm_A :=
  match i, st with
  | .ireturn, [.int x] => if d = 0 then some (.inr (.inl (some (.int x)))) else if x = 0 ∨ x = 1 then some (.inr (.inl (some (.int x)))) else none
  | .return_, [] => some (.inr (.inl none))
  | .new _, st => if d = 1 then (if st.length ≤ 4 then some (.inr (.inr (.inl a))) else none) else match df[a]? with
    | some fs => some (.inl ((pc + 3, L, .ref S.1.length :: st), (S.1 ++ [.inr (a, fs)], S.2.1 + fs.length, false)))
    | none => none
  | .newarray _, .int n :: st => match xm_blank kt[a]? with
    | some x => if ¬ n < 0 ∧ n.toNatClampNeg ≤ 100000 then some (.inl ((pc + 2, L, .ref S.1.length :: st), (S.1 ++ [.inl (a, n.toNatClampNeg, x)], S.2.1 + n.toNatClampNeg, false))) else none
    | none => none
  | .anewarray _, .int n :: st => if xm_isO kt[a]? = true ∧ ¬ n < 0 ∧ n.toNatClampNeg ≤ 100000 then some (.inl ((pc + 3, L, .ref S.1.length :: st), (S.1 ++ [.inl (a, n.toNatClampNeg, .inr (.inr (.inr (.inr (fun _ => none)))))], S.2.1 + n.toNatClampNeg, false))) else none
  | .aastore, .ref v :: .int j :: .ref r :: st => match S.1[r]?, S.1[v]? with
    | some (.inl (q, n, .inr (.inr (.inr (.inr f))))), some (.inr (ci, _)) => if q = a ∧ ci = b ∧ ¬ (j < 0 ∨ n ≤ j.toNatClampNeg) then some (.inl ((pc + 1, L, st), (S.1.set r (.inl (q, n, .inr (.inr (.inr (.inr (va_up f j.toNatClampNeg (some v))))))), S.2.1, false))) else none
    | _, _ => none
  | .invokespecial _, .ref r :: st => if d = 1 then (if st.length ≤ 4 then some (.inl ((pc + 3, L, st), S)) else none) else if d = 0 ∧ st.length ≤ 4 then some (.inr (.inr (.inr (a, [.ref r], st)))) else none
  | .invokevirtual _, st => if b ≤ st.length ∧ (st.drop b).length ≤ 4 ∧ (st.take b).all xm_cat = true then match (st.take b).reverse with
      | .ref r :: as => match S.1[r]? with
        | some (.inr (ci, _)) => if ci = k then some (.inr (.inr (.inr (a, .ref r :: as, st.drop b)))) else none
        | _ => none
      | _ => none
    else none
  | .invokestatic _, st => if b ≤ st.length ∧ (st.drop b).length ≤ 4 ∧ (st.take b).all xm_cat = true then some (.inr (.inr (.inr (a, (st.take b).reverse, st.drop b)))) else none
  | _, _ => none
def xm_small : ClassFile.Instr → Bool
  | .ireturn => false
  | .return_ => false
  | .new _ => false
  | .newarray _ => false
  | .anewarray _ => false
  | .aastore => false
  | .invokespecial _ => false
  | .invokevirtual _ => false
  | .invokestatic _ => false
  | _ => true
def xm_at (P : List xm_M) (mi pc : Nat) : Option xm_I := match P[mi]? with
  | some M => M.2.2.2.2.2.find? (fun x => x.1 == pc)
  | none => none
def xm_act (xs : Nat → Int32) (LS : Nat) (kt : List ClassFile.FieldType) (df : List (List Value)) (P : List xm_M) (mi : Nat) (F : xm_F) (S : xm_S) : Option xm_A := match xm_at P mi F.1 with
  | some (_, i, a, b, k, d) => if xm_small i then xm_ins xs LS kt i a b k d F.1 F.2.1 F.2.2 S else xm_big kt df i a b k d F.1 F.2.1 F.2.2 S
  | none => none
def xm_hand (P : List xm_M) (mi pc ci : Nat) : Option Nat := match P[mi]? with
  | some M => (M.2.2.2.2.1.find? (fun x => decide (x.1 ≤ pc) && decide (pc < x.2.1) && x.2.2.2.2 == ci)).map (fun x => x.2.2.1)
  | none => none
def xm_noH (P : List xm_M) (mi : Nat) : Bool := match P[mi]? with
  | some M => M.2.2.2.2.1.isEmpty && (M.1.name != "law")
  | none => false
def xm_entry (P : List xm_M) (mi : Nat) (as : List Value) : List (Option Value) := match P[mi]? with
  | some M => as.map some ++ List.replicate (M.2.2.1 - as.length) none
  | none => []
/-- a run: n steps at most, d frames below at most -/
def xm_run (xs : Nat → Int32) (LS : Nat) (kt : List ClassFile.FieldType) (df : List (List Value)) (P : List xm_M) : Nat → Nat → Nat → xm_F → xm_S → Option ((Option Value ⊕ Nat) × xm_S)
  | 0, _, _, _, _ => none
  | n + 1, d, mi, F, S => match xm_act xs LS kt df P mi F S with
    | none => none
    | some (.inl (F', S')) => xm_run xs LS kt df P n d mi F' S'
    | some (.inr (.inl v)) => some (.inl v, S)
    | some (.inr (.inr (.inl ci))) => if (S.2.2 && xm_noH P mi && decide (5 ≤ d)) = true then some (.inr S.1.length, (S.1 ++ [.inr (ci, [])], S.2.1 + 6, true)) else none
    | some (.inr (.inr (.inr (y, as, rest)))) => match d with
      | 0 => none
      | d' + 1 => match xm_run xs LS kt df P n d' y (0, xm_entry P y as, []) (S.1, S.2.1, true) with
        | none => none
        | some (.inl v, S') => xm_run xs LS kt df P n (d' + 1) mi (F.1 + 3, F.2.1, v.toList ++ rest) (S'.1, S'.2.1, S.2.2 && S'.2.2)
        | some (.inr i, S') => match S'.1[i]? with
          | some (.inr (ci, _)) => match xm_hand P mi F.1 ci with
            | some t => xm_run xs LS kt df P n (d' + 1) mi (t, F.2.1, [.ref i]) (S'.1, S'.2.1, false)
            | none => if (S.2.2 && xm_noH P mi) = true then some (.inr i, (S'.1, S'.2.1, true)) else none
          | _ => none

/-- an instruction's length -/
def xm_len (k : Nat) : ClassFile.Instr → Nat
  | .tableswitch .. => k
  | .bipush _ => 2
  | .ldc _ => 2
  | .iload _ => 2
  | .aload _ => 2
  | .istore _ => 2
  | .astore _ => 2
  | .newarray _ => 2
  | .sipush _ => 3
  | .ldc_w _ => 3
  | .iinc _ _ => 3
  | .ifCond _ _ => 3
  | .if_icmp _ _ => 3
  | .goto _ => 3
  | .getfield _ => 3
  | .putfield _ => 3
  | .new _ => 3
  | .anewarray _ => 3
  | .invokespecial _ => 3
  | .invokevirtual _ => 3
  | .invokestatic _ => 3
  | _ => 1
def xm_tyd (d : Nat) : Option ClassFile.FieldType → Bool
  | some .int => d == 0
  | some .boolean => d == 1
  | some (.object _) => d == 2
  | some (.array _) => d == 2
  | _ => false
/-- an instruction's numbers are right: what the tables say of it -/
def xm_ok (WS : Cond → Bool) (cl : List vw_C) (M : xm_M) (x : xm_I) : Bool :=
  decide (ClassFile.decode M.2.1 x.1 = .ok (x.2.1, xm_len x.2.2.2.2.1 x.2.1)) && match x with
  | (pc, .ifCond _ off, a, _, _, _) => decide ((pc : Int) + off = (a : Int))
  | (pc, .if_icmp _ off, a, _, _, _) => decide ((pc : Int) + off = (a : Int))
  | (pc, .goto off, a, _, _, _) => decide ((pc : Int) + off = (a : Int))
  | (pc, .tableswitch dflt _ _ offs, _, _, _, _) => decide (0 ≤ (pc : Int) + dflt) && offs.toList.all (fun o => decide (0 ≤ (pc : Int) + o))
  | (_, .ldc ix, a, _, _, _) => WS (Cond.constant M.1.cls ix (Int32.ofNat a))
  | (_, .ldc_w ix, a, _, _, _) => WS (Cond.constant M.1.cls ix (Int32.ofNat a))
  | (_, .getfield ix, a, b, _, _) => match cl[a]? with
    | some (C, T, N) => decide (b < N) && ((T b).1 == C) && (WS (Cond.fieldLink M.1.cls ix C (T b).2.1 (T b).2.2.1) || WS (Cond.fieldLinkNest M.1.cls ix C (T b).2.1 (T b).2.2.1 "FibrePairs"))
    | none => false
  | (_, .putfield ix, a, b, _, d) => match cl[a]? with
    | some (C, T, N) => decide (b < N) && ((T b).1 == C) && xm_tyd d (ClassFile.parseFieldDescriptor (T b).2.2.1) && (if (T b).2.2.2 = true then WS (Cond.fieldLink M.1.cls ix C (T b).2.1 (T b).2.2.1) && (M.1.name == "<init>") && (M.1.cls == C) else (WS (Cond.fieldLink M.1.cls ix C (T b).2.1 (T b).2.2.1) || WS (Cond.fieldLinkNest M.1.cls ix C (T b).2.1 (T b).2.2.1 "FibrePairs")))
    | none => false
  | _ => true
