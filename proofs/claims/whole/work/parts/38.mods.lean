/-! 38.mods: the model's find, take, whole, settle. -/
theorem xa_M_take_0 : xm_at xP 85 0 = some (0, .aload_n 0, 0, 0, 0, 0) := by decide +kernel
theorem xa_M_take_1 : xm_at xP 85 1 = some (1, .getfield 39, 3, 12, 0, 0) := by decide +kernel
theorem xa_M_take_4 : xm_at xP 85 4 = some (4, .iload_n 1, 0, 0, 0, 0) := by decide +kernel
theorem xa_M_take_5 : xm_at xP 85 5 = some (5, .iload_n 2, 0, 0, 0, 0) := by decide +kernel
theorem xa_M_take_6 : xm_at xP 85 6 = some (6, .iastore, 0, 0, 0, 0) := by decide +kernel
theorem xa_M_take_7 : xm_at xP 85 7 = some (7, .aload_n 0, 0, 0, 0, 0) := by decide +kernel
theorem xa_M_take_8 : xm_at xP 85 8 = some (8, .getfield 42, 3, 13, 0, 0) := by decide +kernel
theorem xa_M_take_11 : xm_at xP 85 11 = some (11, .iload_n 1, 0, 0, 0, 0) := by decide +kernel
theorem xa_M_take_12 : xm_at xP 85 12 = some (12, .aload_n 0, 0, 0, 0, 0) := by decide +kernel
theorem xa_M_take_13 : xm_at xP 85 13 = some (13, .getfield 105, 3, 22, 0, 0) := by decide +kernel
theorem xa_M_take_16 : xm_at xP 85 16 = some (16, .iastore, 0, 0, 0, 0) := by decide +kernel
theorem xa_M_take_17 : xm_at xP 85 17 = some (17, .aload_n 0, 0, 0, 0, 0) := by decide +kernel
theorem xa_M_take_18 : xm_at xP 85 18 = some (18, .getfield 45, 3, 14, 0, 0) := by decide +kernel
theorem xa_M_take_21 : xm_at xP 85 21 = some (21, .iload_n 1, 0, 0, 0, 0) := by decide +kernel
theorem xa_M_take_22 : xm_at xP 85 22 = some (22, .aload_n 0, 0, 0, 0, 0) := by decide +kernel
theorem xa_M_take_23 : xm_at xP 85 23 = some (23, .getfield 108, 3, 23, 0, 0) := by decide +kernel
theorem xa_M_take_26 : xm_at xP 85 26 = some (26, .iastore, 0, 0, 0, 0) := by decide +kernel
theorem xa_M_take_27 : xm_at xP 85 27 = some (27, .aload_n 0, 0, 0, 0, 0) := by decide +kernel
theorem xa_M_take_28 : xm_at xP 85 28 = some (28, .getfield 48, 3, 15, 0, 0) := by decide +kernel
theorem xa_M_take_31 : xm_at xP 85 31 = some (31, .iload_n 1, 0, 0, 0, 0) := by decide +kernel
theorem xa_M_take_32 : xm_at xP 85 32 = some (32, .iconst 0, 0, 0, 0, 0) := by decide +kernel
theorem xa_M_take_33 : xm_at xP 85 33 = some (33, .iastore, 0, 0, 0, 0) := by decide +kernel
theorem xa_M_take_34 : xm_at xP 85 34 = some (34, .aload_n 0, 0, 0, 0, 0) := by decide +kernel
theorem xa_M_take_35 : xm_at xP 85 35 = some (35, .getfield 51, 3, 16, 0, 0) := by decide +kernel
theorem xa_M_take_38 : xm_at xP 85 38 = some (38, .iload_n 1, 0, 0, 0, 0) := by decide +kernel
theorem xa_M_take_39 : xm_at xP 85 39 = some (39, .iconst 0, 0, 0, 0, 0) := by decide +kernel
theorem xa_M_take_40 : xm_at xP 85 40 = some (40, .iastore, 0, 0, 0, 0) := by decide +kernel
theorem xa_M_take_41 : xm_at xP 85 41 = some (41, .return_, 0, 0, 0, 0) := by decide +kernel
theorem xa_M_settle_0 : xm_at xP 91 0 = some (0, .iconst 0, 0, 0, 0, 0) := by decide +kernel
theorem xa_M_settle_1 : xm_at xP 91 1 = some (1, .istore_n 1, 0, 0, 0, 0) := by decide +kernel
theorem xa_M_settle_2 : xm_at xP 91 2 = some (2, .iload_n 1, 0, 0, 0, 0) := by decide +kernel
theorem xa_M_settle_3 : xm_at xP 91 3 = some (3, .bipush 12, 0, 0, 0, 0) := by decide +kernel
theorem xa_M_settle_5 : xm_at xP 91 5 = some (5, .if_icmp .ge 129, 134, 0, 0, 0) := by decide +kernel
theorem xa_M_settle_8 : xm_at xP 91 8 = some (8, .aload_n 0, 0, 0, 0, 0) := by decide +kernel
theorem xa_M_settle_9 : xm_at xP 91 9 = some (9, .getfield 27, 3, 8, 0, 0) := by decide +kernel
theorem xa_M_settle_12 : xm_at xP 91 12 = some (12, .iload_n 1, 0, 0, 0, 0) := by decide +kernel
theorem xa_M_settle_13 : xm_at xP 91 13 = some (13, .baload, 0, 0, 0, 0) := by decide +kernel
theorem xa_M_settle_14 : xm_at xP 91 14 = some (14, .ifCond .eq 114, 128, 0, 0, 0) := by decide +kernel
theorem xa_M_settle_17 : xm_at xP 91 17 = some (17, .aload_n 0, 0, 0, 0, 0) := by decide +kernel
theorem xa_M_settle_18 : xm_at xP 91 18 = some (18, .aload_n 0, 0, 0, 0, 0) := by decide +kernel
theorem xa_M_settle_19 : xm_at xP 91 19 = some (19, .getfield 42, 3, 13, 0, 0) := by decide +kernel
theorem xa_M_settle_22 : xm_at xP 91 22 = some (22, .iload_n 1, 0, 0, 0, 0) := by decide +kernel
theorem xa_M_settle_23 : xm_at xP 91 23 = some (23, .iaload, 0, 0, 0, 0) := by decide +kernel
theorem xa_M_settle_24 : xm_at xP 91 24 = some (24, .invokevirtual 140, 92, 2, 3, 0) := by decide +kernel
theorem xa_M_settle_27 : xm_at xP 91 27 = some (27, .istore_n 2, 0, 0, 0, 0) := by decide +kernel
theorem xa_M_settle_28 : xm_at xP 91 28 = some (28, .aload_n 0, 0, 0, 0, 0) := by decide +kernel
theorem xa_M_settle_29 : xm_at xP 91 29 = some (29, .aload_n 0, 0, 0, 0, 0) := by decide +kernel
theorem xa_M_settle_30 : xm_at xP 91 30 = some (30, .getfield 45, 3, 14, 0, 0) := by decide +kernel
theorem xa_M_settle_33 : xm_at xP 91 33 = some (33, .iload_n 1, 0, 0, 0, 0) := by decide +kernel
theorem xa_M_settle_34 : xm_at xP 91 34 = some (34, .iaload, 0, 0, 0, 0) := by decide +kernel
theorem xa_M_settle_35 : xm_at xP 91 35 = some (35, .invokevirtual 140, 92, 2, 3, 0) := by decide +kernel
theorem xa_M_settle_38 : xm_at xP 91 38 = some (38, .istore_n 3, 0, 0, 0, 0) := by decide +kernel
theorem xa_M_settle_39 : xm_at xP 91 39 = some (39, .iload_n 2, 0, 0, 0, 0) := by decide +kernel
theorem xa_M_settle_40 : xm_at xP 91 40 = some (40, .ifCond .eq 33, 73, 0, 0, 0) := by decide +kernel
theorem xa_M_settle_43 : xm_at xP 91 43 = some (43, .aload_n 0, 0, 0, 0, 0) := by decide +kernel
theorem xa_M_settle_44 : xm_at xP 91 44 = some (44, .getfield 48, 3, 15, 0, 0) := by decide +kernel
theorem xa_M_settle_47 : xm_at xP 91 47 = some (47, .iload_n 1, 0, 0, 0, 0) := by decide +kernel
theorem xa_M_settle_48 : xm_at xP 91 48 = some (48, .iaload, 0, 0, 0, 0) := by decide +kernel
theorem xa_M_settle_49 : xm_at xP 91 49 = some (49, .ifCond .eq 24, 73, 0, 0, 0) := by decide +kernel
theorem xa_M_settle_52 : xm_at xP 91 52 = some (52, .aload_n 0, 0, 0, 0, 0) := by decide +kernel
theorem xa_M_settle_53 : xm_at xP 91 53 = some (53, .getfield 51, 3, 16, 0, 0) := by decide +kernel
theorem xa_M_settle_56 : xm_at xP 91 56 = some (56, .iload_n 1, 0, 0, 0, 0) := by decide +kernel
theorem xa_M_settle_57 : xm_at xP 91 57 = some (57, .iaload, 0, 0, 0, 0) := by decide +kernel
theorem xa_M_settle_58 : xm_at xP 91 58 = some (58, .aload_n 0, 0, 0, 0, 0) := by decide +kernel
theorem xa_M_settle_59 : xm_at xP 91 59 = some (59, .getfield 76, 3, 7, 0, 0) := by decide +kernel
theorem xa_M_settle_62 : xm_at xP 91 62 = some (62, .if_icmp .ge 11, 73, 0, 0, 0) := by decide +kernel
theorem xa_M_settle_65 : xm_at xP 91 65 = some (65, .iload_n 3, 0, 0, 0, 0) := by decide +kernel
theorem xa_M_settle_66 : xm_at xP 91 66 = some (66, .ifCond .eq 7, 73, 0, 0, 0) := by decide +kernel
theorem xa_M_settle_69 : xm_at xP 91 69 = some (69, .iconst 1, 0, 0, 0, 0) := by decide +kernel
theorem xa_M_settle_70 : xm_at xP 91 70 = some (70, .goto 4, 74, 0, 0, 0) := by decide +kernel
theorem xa_M_settle_73 : xm_at xP 91 73 = some (73, .iconst 0, 0, 0, 0, 0) := by decide +kernel
theorem xa_M_settle_74 : xm_at xP 91 74 = some (74, .istore 4, 0, 0, 0, 0) := by decide +kernel
theorem xa_M_settle_76 : xm_at xP 91 76 = some (76, .aload_n 0, 0, 0, 0, 0) := by decide +kernel
theorem xa_M_settle_77 : xm_at xP 91 77 = some (77, .getfield 51, 3, 16, 0, 0) := by decide +kernel
theorem xa_M_settle_80 : xm_at xP 91 80 = some (80, .iload_n 1, 0, 0, 0, 0) := by decide +kernel
theorem xa_M_settle_81 : xm_at xP 91 81 = some (81, .iload_n 2, 0, 0, 0, 0) := by decide +kernel
theorem xa_M_settle_82 : xm_at xP 91 82 = some (82, .ifCond .eq 12, 94, 0, 0, 0) := by decide +kernel
theorem xa_M_settle_85 : xm_at xP 91 85 = some (85, .aload_n 0, 0, 0, 0, 0) := by decide +kernel
theorem xa_M_settle_86 : xm_at xP 91 86 = some (86, .getfield 51, 3, 16, 0, 0) := by decide +kernel
theorem xa_M_settle_89 : xm_at xP 91 89 = some (89, .iload_n 1, 0, 0, 0, 0) := by decide +kernel
theorem xa_M_settle_90 : xm_at xP 91 90 = some (90, .iaload, 0, 0, 0, 0) := by decide +kernel
theorem xa_M_settle_91 : xm_at xP 91 91 = some (91, .goto 4, 95, 0, 0, 0) := by decide +kernel
theorem xa_M_settle_94 : xm_at xP 91 94 = some (94, .iconst 0, 0, 0, 0, 0) := by decide +kernel
theorem xa_M_settle_95 : xm_at xP 91 95 = some (95, .iastore, 0, 0, 0, 0) := by decide +kernel
theorem xa_M_settle_96 : xm_at xP 91 96 = some (96, .aload_n 0, 0, 0, 0, 0) := by decide +kernel
theorem xa_M_settle_97 : xm_at xP 91 97 = some (97, .getfield 48, 3, 15, 0, 0) := by decide +kernel
theorem xa_M_settle_100 : xm_at xP 91 100 = some (100, .iload_n 1, 0, 0, 0, 0) := by decide +kernel
theorem xa_M_settle_101 : xm_at xP 91 101 = some (101, .iload_n 2, 0, 0, 0, 0) := by decide +kernel
theorem xa_M_settle_102 : xm_at xP 91 102 = some (102, .ifCond .eq 16, 118, 0, 0, 0) := by decide +kernel
theorem xa_M_settle_105 : xm_at xP 91 105 = some (105, .iload 4, 0, 0, 0, 0) := by decide +kernel
theorem xa_M_settle_107 : xm_at xP 91 107 = some (107, .ifCond .eq 7, 114, 0, 0, 0) := by decide +kernel
theorem xa_M_settle_110 : xm_at xP 91 110 = some (110, .iconst 1, 0, 0, 0, 0) := by decide +kernel
theorem xa_M_settle_111 : xm_at xP 91 111 = some (111, .goto 16, 127, 0, 0, 0) := by decide +kernel
theorem xa_M_settle_114 : xm_at xP 91 114 = some (114, .iconst 0, 0, 0, 0, 0) := by decide +kernel
theorem xa_M_settle_115 : xm_at xP 91 115 = some (115, .goto 12, 127, 0, 0, 0) := by decide +kernel
theorem xa_M_settle_118 : xm_at xP 91 118 = some (118, .iload_n 3, 0, 0, 0, 0) := by decide +kernel
theorem xa_M_settle_119 : xm_at xP 91 119 = some (119, .ifCond .eq 7, 126, 0, 0, 0) := by decide +kernel
theorem xa_M_settle_122 : xm_at xP 91 122 = some (122, .iconst 1, 0, 0, 0, 0) := by decide +kernel
theorem xa_M_settle_123 : xm_at xP 91 123 = some (123, .goto 4, 127, 0, 0, 0) := by decide +kernel
theorem xa_M_settle_126 : xm_at xP 91 126 = some (126, .iconst 2, 0, 0, 0, 0) := by decide +kernel
theorem xa_M_settle_127 : xm_at xP 91 127 = some (127, .iastore, 0, 0, 0, 0) := by decide +kernel
theorem xa_M_settle_128 : xm_at xP 91 128 = some (128, .iinc 1 1, 0, 0, 0, 0) := by decide +kernel
theorem xa_M_settle_131 : xm_at xP 91 131 = some (131, .goto (-129), 2, 0, 0, 0) := by decide +kernel
theorem xa_M_settle_134 : xm_at xP 91 134 = some (134, .return_, 0, 0, 0, 0) := by decide +kernel
section XM8
variable {xs : Nat → Int32} {LS d : Nat} {ks : Nat} {fl : Bool} {h : List va_E} {Q : (Option Value ⊕ Nat) → xm_S → Prop}
variable {Mc : Int32} {Mn : Nat} {Mm : Nat} {Mh : Int32} {Mp : Nat} {Mfw : Int32} {Mfs : Int32} {Me : Nat → Nat} {Ml : Nat → Nat} {Mbr : Nat → Bool} {Mlk : Nat → Bool} {Mt : Nat → Bool} {Mg : Nat → Bool} {Ma : Nat → Nat} {Mb : Nat → Nat} {Mw : Nat → Nat} {Mwk : Nat → Int32} {Msp : Nat → Int32} {Mon : Nat → Int32} {Mct : Nat → Int32} {MS : Nat → Int32} {MZ : Nat → Int32} {MA : Nat → Nat} {MN : Nat → Nat}
theorem xls_congr {S Z S' Z' : Nat → Int32} {B : Nat} (hS : ∀ i, i < B → S i = S' i ∧ Z i = Z' i) {p q : Nat} (hp : p < B) (hq : q < B) : xls S Z p q = xls S' Z' p q := by
  unfold xls
  rw [(hS p hp).1, (hS p hp).2, (hS q hq).1, (hS q hq).2]
theorem xfp_congr {S Z S' Z' : Nat → Int32} {B : Nat} (hS : ∀ i, i < B → S i = S' i ∧ Z i = Z' i) : ∀ p, p ≤ B → xfp S Z p = xfp S' Z' p := by
  intro p
  induction p with
  | zero => intro _; rfl
  | succ p ih =>
    intro hp
    have e := ih (by omega)
    unfold xfp
    rw [e]
    cases hx : xfp S' Z' p with
    | none => rfl
    | some b =>
      have := xfp_lt _ _ _ _ hx
      simp only
      rw [xls_congr hS (by omega) (by omega)]
theorem xq1_congr {S Z S' Z' : Nat → Int32} {B : Nat} (hS : ∀ i, i < B → S i = S' i ∧ Z i = Z' i) {p : Nat} (hp : p < B) (z : Int32 × Int32) : ∀ q, q ≤ B → xq1 S Z p q z = xq1 S' Z' p q z := by
  intro q
  induction q with
  | zero => intro _; rfl
  | succ q ih =>
    intro hq
    unfold xq1
    rw [ih (by omega), (hS p hp).1, (hS p hp).2, (hS q (by omega)).1, (hS q (by omega)).2]
theorem xq2_congr {S Z S' Z' : Nat → Int32} {B : Nat} (hS : ∀ i, i < B → S i = S' i ∧ Z i = Z' i) : ∀ p, p ≤ B → xq2 S Z p = xq2 S' Z' p := by
  intro p
  induction p with
  | zero => intro _; rfl
  | succ p ih =>
    intro hp
    unfold xq2
    rw [ih (by omega), xq1_congr hS (by omega) _ p (by omega)]
theorem xq3_congr {S Z S' Z' : Nat → Int32} {B : Nat} (hS : ∀ i, i < B → S i = S' i ∧ Z i = Z' i) {both : Int32} {p : Nat} (hp : p < B) {z : Option Nat} (hz : ∀ i, z = some i → i < B) : ∀ q, q ≤ B → xq3 S Z both p q z = xq3 S' Z' both p q z := by
  intro q
  induction q with
  | zero => intro _; rfl
  | succ q ih =>
    intro hq
    unfold xq3
    rw [ih (by omega)]
    cases hx : xq3 S' Z' both p q z with
    | none =>
      simp only
      rw [(hS p hp).1, (hS q (by omega)).1, xls_congr hS hp (show q < B by omega)]
    | some b =>
      have := xq3_lt S' Z' both p hp hz q b hx
      simp only
      rw [(hS p hp).1, (hS q (by omega)).1, xls_congr hS hp (show q < B by omega), xls_congr hS hp this]
theorem xq4_congr {S Z S' Z' : Nat → Int32} {B : Nat} (hS : ∀ i, i < B → S i = S' i ∧ Z i = Z' i) {both : Int32} : ∀ p, p ≤ B → xq4 S Z both B p = xq4 S' Z' both B p := by
  intro p
  induction p with
  | zero => intro _; rfl
  | succ p ih =>
    intro hp
    unfold xq4
    rw [ih (by omega), xq3_congr hS (by omega) (fun i hi => by have := xq4_lt _ _ _ _ _ _ hi; omega) B (by omega)]
/-- the list as a row, and its lengths -/
def xLS (L : List Int32) (i : Nat) : Int32 := (L[i]?).getD 0
def xLZ (l : Nat → Nat) (m : Nat) (L : List Int32) (i : Nat) : Int32 := xlen (fun j => nI (l j)) (xLS L i) m
/-- what the model finds among the paths L: work, spare -/
def xfind (l : Nat → Nat) (m : Nat) (L : List Int32) (pair : Bool) : Option (Int32 × Int32) :=
  if pair = true then
    if (xq2 (xLS L) (xLZ l m L) L.length).1 = 0 then none else (xq4 (xLS L) (xLZ l m L) (xq2 (xLS L) (xLZ l m L) L.length).1 L.length L.length).map (fun i => (xLS L i, (xq2 (xLS L) (xLZ l m L) L.length).1 &&& (xLS L i ^^^ (-1))))
  else (xfp (xLS L) (xLZ l m L) L.length).map (fun i => (xLS L i, 0))
theorem xSZ_eq {l : Nat → Nat} {m : Nat} {L : List Int32} {S Z : Nat → Int32} (h : xSZ l m L S Z) : ∀ i, i < L.length → S i = xLS L i ∧ Z i = xLZ l m L i := by
  intro i hi
  have e : L[i]? = some (xLS L i) := by
    unfold xLS
    rw [List.getElem?_eq_getElem hi]
    rfl
  exact h i _ e
/-- the model's search does not leave its rows, and a pair it finds has a lesser path -/
def xFok (l : Nat → Nat) (m : Nat) (L : List Int32) : Prop := L.length ≤ 4000 ∧ (¬ (xq2 (xLS L) (xLZ l m L) L.length).1 = 0 → ∃ i, xq4 (xLS L) (xLZ l m L) (xq2 (xLS L) (xLZ l m L) L.length).1 L.length L.length = some i)
/-- the model, whatever its listing has left behind -/
def xMs (h : List va_E) (Mc : Int32) (Mn Mm : Nat) (Mh : Int32) (Me Ml : Nat → Nat) (Mbr Mlk Mt Mg : Nat → Bool) (Ma Mb Mw : Nat → Nat) (Mwk Msp Mon Mct : Nat → Int32) : Prop :=
  ∃ Mp Mfw Mfs MS MZ MA MN, xMd h Mc Mn Mm Mh Mp Mfw Mfs Me Ml Mbr Mlk Mt Mg Ma Mb Mw Mwk Msp Mon Mct MS MZ MA MN ∧ (∀ j, MA j < 7) ∧ (∀ j, MN j < 100)
theorem c_M_findPair' {s : Int32} {a b : Nat} (hm : Mm ≤ 14) (hE : ∀ j, Me j < 7) (ha : a < 7) (hb : b < 7) (hF : xFok Ml Mm (xPL Me Mm s a b)) (hM : xMs h Mc Mn Mm Mh Me Ml Mbr Mlk Mt Mg Ma Mb Mw Mwk Msp Mon Mct)
    (k0 : ∀ h' fl', xMs h' Mc Mn Mm Mh Me Ml Mbr Mlk Mt Mg Ma Mb Mw Mwk Msp Mon Mct → xS h h' 22 40 → xfind Ml Mm (xPL Me Mm s a b) true = none → Q (.inl (some (.int 0))) (h', ks, fl'))
    (k1 : ∀ h' fl' p Mp MS MZ MA MN, xMd h' Mc Mn Mm Mh Mp p.1 p.2 Me Ml Mbr Mlk Mt Mg Ma Mb Mw Mwk Msp Mon Mct MS MZ MA MN → (∀ j, MA j < 7) → (∀ j, MN j < 100) → xS h h' 22 40 → xfind Ml Mm (xPL Me Mm s a b) true = some p → Q (.inl (some (.int 1))) (h', ks, fl')) :
    xG xs LS (d + 3) 79 (0, xm_entry xP 79 [.ref 22, .int s, .int (nI a), .int (nI b)], []) (h, ks, fl) Q := by
  obtain ⟨Mp, Mfw, Mfs, MS, MZ, MA, MN, hM, hA, hN⟩ := hM
  have e2 : ∀ S Z, xSZ Ml Mm (xPL Me Mm s a b) S Z → xq2 S Z (xPL Me Mm s a b).length = xq2 (xLS (xPL Me Mm s a b)) (xLZ Ml Mm (xPL Me Mm s a b)) (xPL Me Mm s a b).length := fun S Z hSZ => xq2_congr (xSZ_eq hSZ) _ (Nat.le_refl _)
  have e4 : ∀ S Z both, xSZ Ml Mm (xPL Me Mm s a b) S Z → xq4 S Z both (xPL Me Mm s a b).length (xPL Me Mm s a b).length = xq4 (xLS (xPL Me Mm s a b)) (xLZ Ml Mm (xPL Me Mm s a b)) both (xPL Me Mm s a b).length (xPL Me Mm s a b).length := fun S Z both hSZ => xq4_congr (xSZ_eq hSZ) _ (Nat.le_refl _)
  refine c_M_findPair hm hE ha hb hA hN hF.1 hM ?_ ?_ ?_
  · intro S Z hSZ hne
    rw [e2 S Z hSZ] at hne ⊢
    rw [e4 S Z _ hSZ]
    exact hF.2 hne
  · intro h' fl' S Z A N q1 q2 q3 q4 q5 q6
    refine k0 h' fl' ⟨_, _, _, _, _, _, _, q1, q4, q5⟩ q2 ?_
    rw [e2 S Z q3] at q6
    unfold xfind
    rw [if_pos rfl, if_pos q6]
  · intro h' fl' S Z A N i q1 q2 q3 q4 q5 q6 q7
    have hi := xq4_lt _ _ _ _ _ _ q7
    rw [e2 S Z q3] at q1 q6 q7
    rw [e4 S Z _ q3] at q7
    refine k1 h' fl' (S i, _) _ S Z A N q1 q4 q5 q2 ?_
    unfold xfind
    rw [if_pos rfl, if_neg q6, q7, (xSZ_eq q3 i hi).1]
    rfl
theorem c_M_findPath' {s : Int32} {a b : Nat} (hm : Mm ≤ 14) (hE : ∀ j, Me j < 7) (ha : a < 7) (hb : b < 7) (hF : xFok Ml Mm (xPL Me Mm s a b)) (hM : xMs h Mc Mn Mm Mh Me Ml Mbr Mlk Mt Mg Ma Mb Mw Mwk Msp Mon Mct)
    (k0 : ∀ h' fl', xMs h' Mc Mn Mm Mh Me Ml Mbr Mlk Mt Mg Ma Mb Mw Mwk Msp Mon Mct → xS h h' 22 40 → xfind Ml Mm (xPL Me Mm s a b) false = none → Q (.inl (some (.int 0))) (h', ks, fl'))
    (k1 : ∀ h' fl' p Mp MS MZ MA MN, xMd h' Mc Mn Mm Mh Mp p.1 p.2 Me Ml Mbr Mlk Mt Mg Ma Mb Mw Mwk Msp Mon Mct MS MZ MA MN → (∀ j, MA j < 7) → (∀ j, MN j < 100) → xS h h' 22 40 → xfind Ml Mm (xPL Me Mm s a b) false = some p → Q (.inl (some (.int 1))) (h', ks, fl')) :
    xG xs LS (d + 3) 84 (0, xm_entry xP 84 [.ref 22, .int s, .int (nI a), .int (nI b)], []) (h, ks, fl) Q := by
  obtain ⟨Mp, Mfw, Mfs, MS, MZ, MA, MN, hM, hA, hN⟩ := hM
  have e2 : ∀ S Z, xSZ Ml Mm (xPL Me Mm s a b) S Z → xfp S Z (xPL Me Mm s a b).length = xfp (xLS (xPL Me Mm s a b)) (xLZ Ml Mm (xPL Me Mm s a b)) (xPL Me Mm s a b).length := fun S Z hSZ => xfp_congr (xSZ_eq hSZ) _ (Nat.le_refl _)
  refine c_M_findPath hm hE ha hb hA hN hF.1 hM ?_ ?_
  · intro h' fl' S Z A N q1 q2 q3 q4 q5 q6
    refine k0 h' fl' ⟨_, _, _, _, _, _, _, q1, q4, q5⟩ q2 ?_
    rw [e2 S Z q3] at q6
    unfold xfind
    rw [if_neg (by decide), q6]
    rfl
  · intro h' fl' S Z A N i q1 q2 q3 q4 q5 q7
    have hi := xfp_lt _ _ _ _ q7
    rw [e2 S Z q3] at q7
    refine k1 h' fl' (S i, 0) _ S Z A N q1 q4 q5 q2 ?_
    unfold xfind
    rw [if_neg (by decide), q7, (xSZ_eq q3 i hi).1]
    rfl
/-- what the model finds on wavelength w -/
abbrev xfw (Mm : Nat) (Me Ml : Nat → Nat) (Mbr Mlk Mt : Nat → Bool) (Mw : Nat → Nat) (Mwk Msp : Nat → Int32) (a b : Nat) (pair : Bool) (w : Nat) : Option (Int32 × Int32) := xfind Ml Mm (xPL Me Mm (xfre Mbr Mlk Mt Mw Mwk Msp w Mm) a b) pair
theorem c_M_find {w a b : Nat} {pair : Bool} (hm : Mm ≤ 14) (hE : ∀ j, Me j < 7) (ha : a < 7) (hb : b < 7) (hF : ∀ s, xFok Ml Mm (xPL Me Mm s a b)) (hM : xMs h Mc Mn Mm Mh Me Ml Mbr Mlk Mt Mg Ma Mb Mw Mwk Msp Mon Mct)
    (k0 : ∀ h' fl', xMs h' Mc Mn Mm Mh Me Ml Mbr Mlk Mt Mg Ma Mb Mw Mwk Msp Mon Mct → xS h h' 22 40 → xfw Mm Me Ml Mbr Mlk Mt Mw Mwk Msp a b pair w = none → Q (.inl (some (.int 0))) (h', ks, fl'))
    (k1 : ∀ h' fl' p Mp MS MZ MA MN, xMd h' Mc Mn Mm Mh Mp p.1 p.2 Me Ml Mbr Mlk Mt Mg Ma Mb Mw Mwk Msp Mon Mct MS MZ MA MN → (∀ j, MA j < 7) → (∀ j, MN j < 100) → xS h h' 22 40 → xfw Mm Me Ml Mbr Mlk Mt Mw Mwk Msp a b pair w = some p → Q (.inl (some (.int 1))) (h', ks, fl')) :
    xG xs LS (d + 4) 75 (0, xm_entry xP 75 [.ref 22, .int (nI w), .int (nI a), .int (nI b), .int (xz pair)], []) (h, ks, fl) Q := by
  show xG xs LS (d + 4) 75 (0, [some (.ref 22), some (.int (nI w)), some (.int (nI a)), some (.int (nI b)), some (.int (xz pair))], []) (h, ks, fl) Q
  have hMs := hM
  obtain ⟨Mp, Mfw, Mfs, MS, MZ, MA, MN, hM, hA, hN⟩ := hM
  obtain ⟨g22, g23, g24, g25, g26, g27, g28, g29, g30, g31, g32, g33, g34, g35, g36, g37, g38, g39⟩ := id hM
  refine xg_iload xa_M_find_0 rfl ?_
  refine xg_if_eq xa_M_find_2 (fun c => ?_) (fun c => ?_)
  · rw [(xz0 _).mp c] at k0 k1
    refine xg_aload_n xa_M_find_19 rfl ?_
    refine xg_aload_n xa_M_find_20 rfl ?_
    refine xg_iload_n xa_M_find_21 rfl ?_
    refine xg_callV1 xa_M_find_22 ⟨Nat.le_of_ble_eq_true rfl, Nat.le_of_ble_eq_true rfl, rfl⟩ rfl rfl (by assumption) ?_
    refine c_M_free hM hm ?_
    refine xK1_c ?_
    refine xg_iload_n xa_M_find_25 rfl ?_
    refine xg_iload_n xa_M_find_26 rfl ?_
    refine xg_callV1 xa_M_find_27 ⟨Nat.le_of_ble_eq_true rfl, Nat.le_of_ble_eq_true rfl, rfl⟩ rfl rfl (by assumption) ?_
    refine c_M_findPath' hm hE ha hb (hF _) hMs (fun h' fl' q1 q2 q3 => ?_) (fun h' fl' p Mp MS MZ MA MN q1 q2 q3 q4 q5 => ?_)
    · refine xK1_d ?_
      exact xg_zreturn xa_M_find_30 (Or.inl rfl) (k0 _ _ q1 q2 q3)
    · refine xK1_d ?_
      exact xg_zreturn xa_M_find_30 (Or.inr rfl) (k1 _ _ p Mp MS MZ MA MN q1 q2 q3 q4 q5)
  · rw [xz1 c] at k0 k1
    refine xg_aload_n xa_M_find_5 rfl ?_
    refine xg_aload_n xa_M_find_6 rfl ?_
    refine xg_iload_n xa_M_find_7 rfl ?_
    refine xg_callV1 xa_M_find_8 ⟨Nat.le_of_ble_eq_true rfl, Nat.le_of_ble_eq_true rfl, rfl⟩ rfl rfl (by assumption) ?_
    refine c_M_free hM hm ?_
    refine xK1_c ?_
    refine xg_iload_n xa_M_find_11 rfl ?_
    refine xg_iload_n xa_M_find_12 rfl ?_
    refine xg_callV1 xa_M_find_13 ⟨Nat.le_of_ble_eq_true rfl, Nat.le_of_ble_eq_true rfl, rfl⟩ rfl rfl (by assumption) ?_
    refine c_M_findPair' hm hE ha hb (hF _) hMs (fun h' fl' q1 q2 q3 => ?_) (fun h' fl' p Mp MS MZ MA MN q1 q2 q3 q4 q5 => ?_)
    · refine xK1_d ?_
      refine xg_goto xa_M_find_16 ?_
      exact xg_zreturn xa_M_find_30 (Or.inl rfl) (k0 _ _ q1 q2 q3)
    · refine xK1_d ?_
      refine xg_goto xa_M_find_16 ?_
      exact xg_zreturn xa_M_find_30 (Or.inr rfl) (k1 _ _ p Mp MS MZ MA MN q1 q2 q3 q4 q5)
theorem c_M_take {c w : Nat} (hc : c < 12) (hM : xMd h Mc Mn Mm Mh Mp Mfw Mfs Me Ml Mbr Mlk Mt Mg Ma Mb Mw Mwk Msp Mon Mct MS MZ MA MN)
    (k : ∀ h' fl', xMd h' Mc Mn Mm Mh Mp Mfw Mfs Me Ml Mbr Mlk Mt Mg Ma Mb (xup Mw c w) (xup Mwk c Mfw) (xup Msp c Mfs) (xup Mon c 0) (xup Mct c 0) MS MZ MA MN → xS h h' 22 40 → Q (.inl none) (h', ks, fl')) :
    xG xs LS d 85 (0, xm_entry xP 85 [.ref 22, .int (nI c), .int (nI w)], []) (h, ks, fl) Q := by
  show xG xs LS d 85 (0, [some (.ref 22), some (.int (nI c)), some (.int (nI w))], []) (h, ks, fl) Q
  obtain ⟨g22, g23, g24, g25, g26, g27, g28, g29, g30, g31, g32, g33, g34, g35, g36, g37, g38, g39⟩ := id hM
  refine xg_aload_n xa_M_take_0 rfl ?_
  refine xg_getfield xa_M_take_1 (by assumption) rfl ?_
  refine xg_iload_n xa_M_take_4 rfl ?_
  refine xg_iload_n xa_M_take_5 rfl ?_
  refine xg_iastf_n xa_M_take_6 (by assumption) rfl (by assumption) (by decide) (fun hq6 u6 => ?_)
  have hM1 := xMd_Mw hM u6
  obtain ⟨g22, g23, g24, g25, g26, g27, g28, g29, g30, g31, g32, g33, g34, g35, g36, g37, g38, g39⟩ := id hM1
  refine xg_aload_n xa_M_take_7 rfl ?_
  refine xg_getfield xa_M_take_8 (by assumption) rfl ?_
  refine xg_iload_n xa_M_take_11 rfl ?_
  refine xg_aload_n xa_M_take_12 rfl ?_
  refine xg_getfield xa_M_take_13 (by assumption) rfl ?_
  refine xg_iastf_n xa_M_take_16 (by assumption) rfl (by assumption) (by decide) (fun h16 u16 => ?_)
  have hM2 := xMd_Mwk hM1 u16
  obtain ⟨g22, g23, g24, g25, g26, g27, g28, g29, g30, g31, g32, g33, g34, g35, g36, g37, g38, g39⟩ := id hM2
  refine xg_aload_n xa_M_take_17 rfl ?_
  refine xg_getfield xa_M_take_18 (by assumption) rfl ?_
  refine xg_iload_n xa_M_take_21 rfl ?_
  refine xg_aload_n xa_M_take_22 rfl ?_
  refine xg_getfield xa_M_take_23 (by assumption) rfl ?_
  refine xg_iastf_n xa_M_take_26 (by assumption) rfl (by assumption) (by decide) (fun h26 u26 => ?_)
  have hM3 := xMd_Msp hM2 u26
  obtain ⟨g22, g23, g24, g25, g26, g27, g28, g29, g30, g31, g32, g33, g34, g35, g36, g37, g38, g39⟩ := id hM3
  refine xg_aload_n xa_M_take_27 rfl ?_
  refine xg_getfield xa_M_take_28 (by assumption) rfl ?_
  refine xg_iload_n xa_M_take_31 rfl ?_
  refine xg_iconst (v := 0) xa_M_take_32 (by decide) ?_
  refine xg_iastf_n xa_M_take_33 (by assumption) rfl (by assumption) (by decide) (fun h33 u33 => ?_)
  have hM4 := xMd_Mon hM3 u33
  obtain ⟨g22, g23, g24, g25, g26, g27, g28, g29, g30, g31, g32, g33, g34, g35, g36, g37, g38, g39⟩ := id hM4
  refine xg_aload_n xa_M_take_34 rfl ?_
  refine xg_getfield xa_M_take_35 (by assumption) rfl ?_
  refine xg_iload_n xa_M_take_38 rfl ?_
  refine xg_iconst (v := 0) xa_M_take_39 (by decide) ?_
  refine xg_iastf_n xa_M_take_40 (by assumption) rfl (by assumption) (by decide) (fun h40 u40 => ?_)
  have hM5 := xMd_Mct hM4 u40
  exact xg_return xa_M_take_41 (k _ _ hM5 (((((u6.toS (by decide) (by decide)).tr (u16.toS (by decide) (by decide))).tr (u26.toS (by decide) (by decide))).tr (u33.toS (by decide) (by decide))).tr (u40.toS (by decide) (by decide))))
/-- a set that is there, with none of its first fibres broken -/
def xwo (br : Nat → Bool) (s : Int32) : Nat → Bool
  | 0 => decide (¬ s = 0)
  | f + 1 => xwo br s f && !(xb s f && br f)
theorem c_M_whole {s : Int32} (hm : Mm ≤ 14) (hM : xMd h Mc Mn Mm Mh Mp Mfw Mfs Me Ml Mbr Mlk Mt Mg Ma Mb Mw Mwk Msp Mon Mct MS MZ MA MN) (k : Q (.inl (some (.int (xz (xwo Mbr s Mm))))) (h, ks, fl)) : xG xs LS (d + 1) 92 (0, xm_entry xP 92 [.ref 22, .int s], []) (h, ks, fl) Q := by
  show xG xs LS (d + 1) 92 (0, [some (.ref 22), some (.int s), none, none], []) (h, ks, fl) Q
  obtain ⟨g22, g23, g24, g25, g26, g27, g28, g29, g30, g31, g32, g33, g34, g35, g36, g37, g38, g39⟩ := id hM
  have loop : ∀ n i, i + n = Mm → xG xs LS (d + 1) 92 (12, [some (.ref 22), some (.int s), some (.int (xz (xwo Mbr s i))), some (.int (nI i))], []) (h, ks, fl) Q := by
    intro n
    induction n with
    | zero =>
      intro i hi
      have e : i = Mm := by omega
      subst e
      refine xg_iload_n xa_M_whole_12 rfl ?_
      refine xg_aload_n xa_M_whole_13 rfl ?_
      refine xg_getfield xa_M_whole_14 (by assumption) rfl ?_
      refine xg_icmp_ge xa_M_whole_17 (fun c17 => ?_) (fun c17 => absurd (nI_le (by omega) (by omega)) c17)
      refine xg_iload_n xa_M_whole_54 rfl ?_
      refine xg_zreturn xa_M_whole_55 (xz01 _) ?_
      exact k
    | succ n ih =>
      intro i hi
      have hi14 : i < 14 := by omega
      have next : ∀ v, v = xwo Mbr s (i + 1) → xG xs LS (d + 1) 92 (47, [some (.ref 22), some (.int s), some (.int (xz (xwo Mbr s i))), some (.int (nI i))], [.int (xz v)]) (h, ks, fl) Q := by
        intro v e
        subst e
        refine xg_istore_n (L' := [_, _, _, _]) xa_M_whole_47 (Nat.le_of_ble_eq_true rfl) rfl ?_
        refine xg_iinc (L' := [_, _, _, _]) xa_M_whole_48 rfl (xi_inc _) rfl ?_
        refine xg_goto xa_M_whole_51 ?_
        exact ih (i + 1) (by omega)
      have no : xwo Mbr s (i + 1) = false → xG xs LS (d + 1) 92 (46, [some (.ref 22), some (.int s), some (.int (xz (xwo Mbr s i))), some (.int (nI i))], []) (h, ks, fl) Q := by
        intro e
        refine xg_iconst (v := 0) xa_M_whole_46 (by decide) ?_
        exact next false e.symm
      have yes : xwo Mbr s (i + 1) = true → xG xs LS (d + 1) 92 (42, [some (.ref 22), some (.int s), some (.int (xz (xwo Mbr s i))), some (.int (nI i))], []) (h, ks, fl) Q := by
        intro e
        refine xg_iconst (v := 1) xa_M_whole_42 (by decide) ?_
        refine xg_goto xa_M_whole_43 ?_
        exact next true e.symm
      have ex : xwo Mbr s (i + 1) = (xwo Mbr s i && !(xb s i && Mbr i)) := rfl
      rw [ex] at no yes
      refine xg_iload_n xa_M_whole_12 rfl ?_
      refine xg_aload_n xa_M_whole_13 rfl ?_
      refine xg_getfield xa_M_whole_14 (by assumption) rfl ?_
      refine xg_icmp_ge xa_M_whole_17 (fun c => absurd c (nI_ge (by omega) (by omega))) (fun _ => ?_)
      refine xg_iload_n xa_M_whole_20 rfl ?_
      refine xg_if_eq xa_M_whole_21 (fun c => no (by rw [(xz0 _).mp c]; rfl)) (fun c21 => ?_)
      refine xg_iload_n xa_M_whole_24 rfl ?_
      refine xg_iload_n xa_M_whole_25 rfl ?_
      refine xg_callS1 xa_M_whole_26 ⟨Nat.le_of_ble_eq_true rfl, Nat.le_of_ble_eq_true rfl, rfl⟩ rfl rfl ?_
      refine c_M_bit (by omega) ?_
      refine xK1_c ?_
      refine xg_iconst (v := 1) xa_M_whole_29 (by decide) ?_
      refine xg_icmp_ne xa_M_whole_30 (fun c => yes ?_) (fun c30 => ?_)
      · cases hb : xb s i with
        | false => rw [xz1 c21]; rfl
        | true => rw [hb] at c; exact absurd rfl c
      · have hb : xb s i = true := xz_inj.mp c30
        refine xg_aload_n xa_M_whole_33 rfl ?_
        refine xg_getfield xa_M_whole_34 (by assumption) rfl ?_
        refine xg_iload_n xa_M_whole_37 rfl ?_
        refine xg_zald_n xa_M_whole_38 (by assumption) rfl (by assumption) (by decide) ?_
        refine xg_if_ne xa_M_whole_39 (fun c => no (by rw [hb, xz1 c]; simp)) (fun c => yes (by rw [hb, (xz0 _).mp c, xz1 c21]; rfl))
  refine xg_iload_n xa_M_whole_0 rfl ?_
  refine xg_if_eq xa_M_whole_1 (fun c => ?_) (fun c => ?_)
  · have e : xwo Mbr s 0 = false := decide_eq_false (fun q => q c)
    have l0 := loop Mm 0 (by omega)
    rw [e] at l0
    refine xg_iconst (v := 0) xa_M_whole_8 (by decide) ?_
    refine xg_istore_n (L' := [_, _, _, _]) xa_M_whole_9 (Nat.le_of_ble_eq_true rfl) rfl ?_
    refine xg_iconst (v := 0) xa_M_whole_10 (by decide) ?_
    refine xg_istore_n (L' := [_, _, _, _]) xa_M_whole_11 (Nat.le_of_ble_eq_true rfl) rfl ?_
    exact l0
  · have e : xwo Mbr s 0 = true := decide_eq_true c
    have l0 := loop Mm 0 (by omega)
    rw [e] at l0
    refine xg_iconst (v := 1) xa_M_whole_4 (by decide) ?_
    refine xg_goto xa_M_whole_5 ?_
    refine xg_istore_n (L' := [_, _, _, _]) xa_M_whole_9 (Nat.le_of_ble_eq_true rfl) rfl ?_
    refine xg_iconst (v := 0) xa_M_whole_10 (by decide) ?_
    refine xg_istore_n (L' := [_, _, _, _]) xa_M_whole_11 (Nat.le_of_ble_eq_true rfl) rfl ?_
    exact l0
/-- where a connection is carried, and its count: behind a change -/
def xse (work spare : Bool) (on ct wait : Int32) : Int32 × Int32 :=
  (if work = true then (if ¬ on = 0 ∧ ¬ wait ≤ ct ∧ spare = true then 1 else 0) else (if spare = true then 1 else 2), if work = true then ct else 0)
/-- the first n places of those that are there, changed -/
def xmix (t : Nat → Bool) (G F : Nat → Int32) (n : Nat) : Nat → Int32 := fun c => if c < n ∧ t c = true then G c else F c
theorem xmix_0 (t : Nat → Bool) (G F : Nat → Int32) : xmix t G F 0 = F := by
  funext c
  exact if_neg (fun q => by omega)
theorem xmix_n {t : Nat → Bool} {G F : Nat → Int32} {n : Nat} (h : t n = false) : xmix t G F (n + 1) = xmix t G F n := by
  funext c
  unfold xmix
  by_cases e : c = n
  · subst e
    rw [if_neg (fun q => by rw [h] at q; cases q.2), if_neg (fun q => by omega)]
  · by_cases e2 : c < n ∧ t c = true
    · rw [if_pos ⟨by omega, e2.2⟩, if_pos e2]
    · rw [if_neg (fun q => e2 ⟨by omega, q.2⟩), if_neg e2]
theorem xmix_s {t : Nat → Bool} {G F : Nat → Int32} {n : Nat} (h : t n = true) : xup (xmix t G F n) n (G n) = xmix t G F (n + 1) := by
  funext c
  unfold xmix xup
  by_cases e : c = n
  · subst e
    rw [if_pos rfl, if_pos ⟨by omega, h⟩]
  · rw [if_neg e]
    show (if c < n ∧ t c = true then G c else F c) = _
    by_cases e2 : c < n ∧ t c = true
    · rw [if_pos e2, if_pos ⟨by omega, e2.2⟩]
    · rw [if_neg e2, if_neg (fun q => e2 ⟨by omega, q.2⟩)]
theorem xmix_at {t : Nat → Bool} {G F : Nat → Int32} {n : Nat} : xmix t G F n n = F n := if_neg (fun q => by omega)
abbrev xseF (Mm : Nat) (Mh : Int32) (Mbr : Nat → Bool) (Mwk Msp Mon Mct : Nat → Int32) (c : Nat) : Int32 × Int32 := xse (xwo Mbr (Mwk c) Mm) (xwo Mbr (Msp c) Mm) (Mon c) (Mct c) Mh
theorem c_M_settle (hm : Mm ≤ 14) (hM : xMd h Mc Mn Mm Mh Mp Mfw Mfs Me Ml Mbr Mlk Mt Mg Ma Mb Mw Mwk Msp Mon Mct MS MZ MA MN)
    (k : ∀ h' fl', xMd h' Mc Mn Mm Mh Mp Mfw Mfs Me Ml Mbr Mlk Mt Mg Ma Mb Mw Mwk Msp (xmix Mt (fun c => (xseF Mm Mh Mbr Mwk Msp Mon Mct c).1) Mon 12) (xmix Mt (fun c => (xseF Mm Mh Mbr Mwk Msp Mon Mct c).2) Mct 12) MS MZ MA MN → xS h h' 22 40 → Q (.inl none) (h', ks, fl')) :
    xG xs LS (d + 2) 91 (0, xm_entry xP 91 [.ref 22], []) (h, ks, fl) Q := by
  show xG xs LS (d + 2) 91 (0, [some (.ref 22), none, none, none, none], []) (h, ks, fl) Q
  have loop : ∀ n i h1 fl' j2 j3 j4, i + n = 12 → xMd h1 Mc Mn Mm Mh Mp Mfw Mfs Me Ml Mbr Mlk Mt Mg Ma Mb Mw Mwk Msp (xmix Mt (fun c => (xseF Mm Mh Mbr Mwk Msp Mon Mct c).1) Mon i) (xmix Mt (fun c => (xseF Mm Mh Mbr Mwk Msp Mon Mct c).2) Mct i) MS MZ MA MN → xS h h1 22 40 → xG xs LS (d + 2) 91 (2, [some (.ref 22), some (.int (nI i)), j2, j3, j4], []) (h1, ks, fl') Q := by
    intro n
    induction n with
    | zero =>
      intro i h1 fl' j2 j3 j4 hi hM hS
      have e : i = 12 := by omega
      subst e
      refine xg_iload_n xa_M_settle_2 rfl ?_
      refine xg_bipush (v := 12) xa_M_settle_3 (by decide) ?_
      refine xg_icmp_ge xa_M_settle_5 (fun c5 => ?_) (fun c5 => absurd (by decide) c5)
      refine xg_return xa_M_settle_134 ?_
      exact k _ _ hM hS
    | succ n ih =>
      intro i h1 fl' j2 j3 j4 hi hM hS
      have hi12 : i < 12 := by omega
      obtain ⟨g22, g23, g24, g25, g26, g27, g28, g29, g30, g31, g32, g33, g34, g35, g36, g37, g38, g39⟩ := id hM
      refine xg_iload_n xa_M_settle_2 rfl ?_
      refine xg_bipush (v := 12) xa_M_settle_3 (by decide) ?_
      refine xg_icmp_ge xa_M_settle_5 (fun c => absurd c (show ¬ nI 12 ≤ nI i from nI_ge (by omega) (by omega))) (fun _ => ?_)
      refine xg_aload_n xa_M_settle_8 rfl ?_
      refine xg_getfield xa_M_settle_9 (by assumption) rfl ?_
      refine xg_iload_n xa_M_settle_12 rfl ?_
      refine xg_zald_n xa_M_settle_13 (by assumption) rfl (by assumption) (by decide) ?_
      refine xg_if_eq xa_M_settle_14 (fun c => ?_) (fun c => ?_)
      · have ht := (xz0 _).mp c
        refine xg_iinc (L' := [_, _, _, _, _]) xa_M_settle_128 rfl (xi_inc _) rfl ?_
        refine xg_goto xa_M_settle_131 ?_
        refine ih (i + 1) h1 _ _ _ _ (by omega) ?_ hS
        rw [xmix_n ht, xmix_n ht]
        exact hM
      · have ht := xz1 c
        have tail : ∀ fl' (wt : Bool), (wt = true ↔ (xwo Mbr (Mwk i) Mm = true ∧ ¬ Mon i = 0 ∧ ¬ Mh ≤ Mct i ∧ xwo Mbr (Msp i) Mm = true)) → xG xs LS (d + 2) 91 (76, [some (.ref 22), some (.int (nI i)), some (.int (xz (xwo Mbr (Mwk i) Mm))), some (.int (xz (xwo Mbr (Msp i) Mm))), some (.int (xz wt))], []) (h1, ks, fl') Q := by
          intro fl' wt hwt
          have last : ∀ h2 fl', xMd h2 Mc Mn Mm Mh Mp Mfw Mfs Me Ml Mbr Mlk Mt Mg Ma Mb Mw Mwk Msp (xmix Mt (fun c => (xseF Mm Mh Mbr Mwk Msp Mon Mct c).1) Mon i) (xmix Mt (fun c => (xseF Mm Mh Mbr Mwk Msp Mon Mct c).2) Mct (i + 1)) MS MZ MA MN → xS h h2 22 40 → xG xs LS (d + 2) 91 (96, [some (.ref 22), some (.int (nI i)), some (.int (xz (xwo Mbr (Mwk i) Mm))), some (.int (xz (xwo Mbr (Msp i) Mm))), some (.int (xz wt))], []) (h2, ks, fl') Q := by
            intro h2 fl' hM2 hS2
            obtain ⟨g22, g23, g24, g25, g26, g27, g28, g29, g30, g31, g32, g33, g34, g35, g36, g37, g38, g39⟩ := id hM2
            have fin : ∀ v fl', v = (xseF Mm Mh Mbr Mwk Msp Mon Mct i).1 → xG xs LS (d + 2) 91 (127, [some (.ref 22), some (.int (nI i)), some (.int (xz (xwo Mbr (Mwk i) Mm))), some (.int (xz (xwo Mbr (Msp i) Mm))), some (.int (xz wt))], [.int v, .int (nI i), .ref 34]) (h2, ks, fl') Q := by
              intro v fl' e
              subst e
              refine xg_iastf_n xa_M_settle_127 (by assumption) rfl (by assumption) (by decide) (fun h127 u127 => ?_)
              have hM3 := xMd_Mon hM2 u127
              rw [xmix_s (G := fun c => (xseF Mm Mh Mbr Mwk Msp Mon Mct c).1) ht] at hM3
              refine xg_iinc (L' := [_, _, _, _, _]) xa_M_settle_128 rfl (xi_inc _) rfl ?_
              refine xg_goto xa_M_settle_131 ?_
              exact ih (i + 1) h127 _ _ _ _ (by omega) hM3 (hS2.tr (u127.toS (by decide) (by decide)))
            unfold xseF xse at fin
            refine xg_aload_n xa_M_settle_96 rfl ?_
            refine xg_getfield xa_M_settle_97 (by assumption) rfl ?_
            refine xg_iload_n xa_M_settle_100 rfl ?_
            refine xg_iload_n xa_M_settle_101 rfl ?_
            refine xg_if_eq xa_M_settle_102 (fun c => ?_) (fun c => ?_)
            · have hw := (xz0 _).mp c
              refine xg_iload_n xa_M_settle_118 rfl ?_
              refine xg_if_eq xa_M_settle_119 (fun c2 => ?_) (fun c2 => ?_)
              · refine xg_iconst (v := 2) xa_M_settle_126 (by decide) ?_
                exact fin _ _ (by simp only; rw [hw, (xz0 _).mp c2]; rfl)
              · refine xg_iconst (v := 1) xa_M_settle_122 (by decide) ?_
                refine xg_goto xa_M_settle_123 ?_
                exact fin _ _ (by simp only; rw [hw, xz1 c2]; rfl)
            · have hw := xz1 c
              refine xg_iload xa_M_settle_105 rfl ?_
              refine xg_if_eq xa_M_settle_107 (fun c2 => ?_) (fun c2 => ?_)
              · have hn : ¬ (¬ Mon i = 0 ∧ ¬ Mh ≤ Mct i ∧ xwo Mbr (Msp i) Mm = true) := fun q => by
                  have := hwt.mpr ⟨hw, q⟩
                  rw [(xz0 _).mp c2] at this
                  cases this
                refine xg_iconst (v := 0) xa_M_settle_114 (by decide) ?_
                refine xg_goto xa_M_settle_115 ?_
                exact fin _ _ (by simp only; rw [if_pos hw, if_neg hn])
              · have hy := (hwt.mp (xz1 c2)).2
                refine xg_iconst (v := 1) xa_M_settle_110 (by decide) ?_
                refine xg_goto xa_M_settle_111 ?_
                exact fin _ _ (by simp only; rw [if_pos hw, if_pos hy])
          have cnt : ∀ v fl', v = (xseF Mm Mh Mbr Mwk Msp Mon Mct i).2 → xG xs LS (d + 2) 91 (95, [some (.ref 22), some (.int (nI i)), some (.int (xz (xwo Mbr (Mwk i) Mm))), some (.int (xz (xwo Mbr (Msp i) Mm))), some (.int (xz wt))], [.int v, .int (nI i), .ref 35]) (h1, ks, fl') Q := by
            intro v fl' e
            subst e
            refine xg_iastf_n xa_M_settle_95 (by assumption) rfl (by assumption) (by decide) (fun h95 u95 => ?_)
            have hM3 := xMd_Mct hM u95
            rw [xmix_s (G := fun c => (xseF Mm Mh Mbr Mwk Msp Mon Mct c).2) ht] at hM3
            exact last h95 _ hM3 (hS.tr (u95.toS (by decide) (by decide)))
          unfold xseF xse at cnt
          refine xg_aload_n xa_M_settle_76 rfl ?_
          refine xg_getfield xa_M_settle_77 (by assumption) rfl ?_
          refine xg_iload_n xa_M_settle_80 rfl ?_
          refine xg_iload_n xa_M_settle_81 rfl ?_
          refine xg_if_eq xa_M_settle_82 (fun c => ?_) (fun c => ?_)
          · refine xg_iconst (v := 0) xa_M_settle_94 (by decide) ?_
            exact cnt _ _ (by simp only; rw [(xz0 _).mp c]; rfl)
          · refine xg_aload_n xa_M_settle_85 rfl ?_
            refine xg_getfield xa_M_settle_86 (by assumption) rfl ?_
            refine xg_iload_n xa_M_settle_89 rfl ?_
            refine xg_iald_n xa_M_settle_90 (by assumption) rfl (by assumption) (by decide) ?_
            refine xg_goto xa_M_settle_91 ?_
            rw [xmix_at]
            exact cnt _ _ (by simp only; rw [if_pos (xz1 c)])
        have no : ∀ fl' j4, ¬ (xwo Mbr (Mwk i) Mm = true ∧ ¬ Mon i = 0 ∧ ¬ Mh ≤ Mct i ∧ xwo Mbr (Msp i) Mm = true) → xG xs LS (d + 2) 91 (73, [some (.ref 22), some (.int (nI i)), some (.int (xz (xwo Mbr (Mwk i) Mm))), some (.int (xz (xwo Mbr (Msp i) Mm))), j4], []) (h1, ks, fl') Q := by
          intro fl' j4 q
          refine xg_iconst (v := 0) xa_M_settle_73 (by decide) ?_
          refine xg_istore (L' := [_, _, _, _, _]) xa_M_settle_74 (Nat.le_of_ble_eq_true rfl) rfl ?_
          exact tail _ false ⟨fun q' => (by cases q'), fun q' => absurd q' q⟩
        refine xg_aload_n xa_M_settle_17 rfl ?_
        refine xg_aload_n xa_M_settle_18 rfl ?_
        refine xg_getfield xa_M_settle_19 (by assumption) rfl ?_
        refine xg_iload_n xa_M_settle_22 rfl ?_
        refine xg_iald_n xa_M_settle_23 (by assumption) rfl (by assumption) (by decide) ?_
        refine xg_callV1 xa_M_settle_24 ⟨Nat.le_of_ble_eq_true rfl, Nat.le_of_ble_eq_true rfl, rfl⟩ rfl rfl (by assumption) ?_
        refine c_M_whole hm hM ?_
        refine xK1_c ?_
        refine xg_istore_n (L' := [_, _, _, _, _]) xa_M_settle_27 (Nat.le_of_ble_eq_true rfl) rfl ?_
        refine xg_aload_n xa_M_settle_28 rfl ?_
        refine xg_aload_n xa_M_settle_29 rfl ?_
        refine xg_getfield xa_M_settle_30 (by assumption) rfl ?_
        refine xg_iload_n xa_M_settle_33 rfl ?_
        refine xg_iald_n xa_M_settle_34 (by assumption) rfl (by assumption) (by decide) ?_
        refine xg_callV1 xa_M_settle_35 ⟨Nat.le_of_ble_eq_true rfl, Nat.le_of_ble_eq_true rfl, rfl⟩ rfl rfl (by assumption) ?_
        refine c_M_whole hm hM ?_
        refine xK1_c ?_
        refine xg_istore_n (L' := [_, _, _, _, _]) xa_M_settle_38 (Nat.le_of_ble_eq_true rfl) rfl ?_
        refine xg_iload_n xa_M_settle_39 rfl ?_
        refine xg_if_eq xa_M_settle_40 (fun c => no _ _ (fun q => by rw [(xz0 _).mp c] at q; cases q.1)) (fun c40 => ?_)
        refine xg_aload_n xa_M_settle_43 rfl ?_
        refine xg_getfield xa_M_settle_44 (by assumption) rfl ?_
        refine xg_iload_n xa_M_settle_47 rfl ?_
        refine xg_iald_n xa_M_settle_48 (by assumption) rfl (by assumption) (by decide) ?_
        rw [xmix_at]
        refine xg_if_eq xa_M_settle_49 (fun c => no _ _ (fun q => q.2.1 c)) (fun c49 => ?_)
        refine xg_aload_n xa_M_settle_52 rfl ?_
        refine xg_getfield xa_M_settle_53 (by assumption) rfl ?_
        refine xg_iload_n xa_M_settle_56 rfl ?_
        refine xg_iald_n xa_M_settle_57 (by assumption) rfl (by assumption) (by decide) ?_
        refine xg_aload_n xa_M_settle_58 rfl ?_
        refine xg_getfield xa_M_settle_59 (by assumption) rfl ?_
        rw [xmix_at]
        refine xg_icmp_ge xa_M_settle_62 (fun c => no _ _ (fun q => q.2.2.1 c)) (fun c62 => ?_)
        refine xg_iload_n xa_M_settle_65 rfl ?_
        refine xg_if_eq xa_M_settle_66 (fun c => no _ _ (fun q => by rw [(xz0 _).mp c] at q; cases q.2.2.2)) (fun c66 => ?_)
        refine xg_iconst (v := 1) xa_M_settle_69 (by decide) ?_
        refine xg_goto xa_M_settle_70 ?_
        refine xg_istore (L' := [_, _, _, _, _]) xa_M_settle_74 (Nat.le_of_ble_eq_true rfl) rfl ?_
        exact tail _ true ⟨fun _ => ⟨xz1 c40, c49, c62, xz1 c66⟩, fun _ => rfl⟩
  refine xg_iconst (v := 0) xa_M_settle_0 (by decide) ?_
  refine xg_istore_n (L' := [_, _, _, _, _]) xa_M_settle_1 (Nat.le_of_ble_eq_true rfl) rfl ?_
  exact loop 12 0 h _ _ _ _ (by omega) (by rw [xmix_0, xmix_0]; exact hM) xS.rf
end XM8
