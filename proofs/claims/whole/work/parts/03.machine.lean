/-! THE SMALL MACHINE: blocks of instructions, run over a list of locals, a list of operands and a heap of literal cells. What it answers, the real machine answers (part 06). -/
abbrev sr_C : Type := (Nat × Nat × (Nat → Int32)) ⊕ ((Nat × (Nat → Int64)) ⊕ (Nat × List Value))
abbrev sr_H : Type := (Nat × Nat) × (Nat → sr_C)
abbrev sr_R : Type := Option Value × sr_H
abbrev sr_K : Type := List Value → List Value → sr_H → Option sr_R
abbrev sr_3 : Type := Option (List Value × List Value × sr_H)
def sr_U : Value := .float 0
def sr_cst : List Nat → Int32
  | [v] => nI v
  | [v, _] => if v = 1 then -1 else if v = 2 then -2 else -(nI v)
  | _ => 0
def sr_csl : List Nat → Int64
  | [v] => lN v
  | [v, _] => -(lN v)
  | _ => 0
/-- a store of one slot, of two: what it breaks is forgotten -/
def sr_kl (L : List Value) : Nat → List Value
  | 0 => L
  | j + 1 => match L[j]? with
    | some (.long _) => L.set j sr_U
    | _ => L
def sr_st1 (L : List Value) (i : Nat) (v : Value) : List Value := (sr_kl L i).set i v
def sr_st2 (L : List Value) (i : Nat) (v : Value) : List Value := ((sr_kl L i).set i v).set (i + 1) sr_U
def sr_up (s : Nat → sr_C) (a : Nat) (c : sr_C) : Nat → sr_C := fun b => if b = a then c else s b
def sr_i1 (f : Int32 → Int32) (L : List Value) (S : List Value) (h : sr_H) : sr_3 := match S with
  | .int x :: S => some (L, .int (f x) :: S, h)
  | _ => none
def sr_i2 (f : Int32 → Int32 → Int32) (L : List Value) (S : List Value) (h : sr_H) : sr_3 := match S with
  | .int y :: .int x :: S => some (L, .int (f x y) :: S, h)
  | _ => none
def sr_id (f : Int32 → Int32 → Int32) (L : List Value) (S : List Value) (h : sr_H) : sr_3 := match S with
  | .int y :: .int x :: S => if y = 0 then none else some (L, .int (f x y) :: S, h)
  | _ => none
def sr_l1 (f : Int64 → Int64) (L : List Value) (S : List Value) (h : sr_H) : sr_3 := match S with
  | .long x :: S => some (L, .long (f x) :: S, h)
  | _ => none
def sr_l2 (f : Int64 → Int64 → Int64) (L : List Value) (S : List Value) (h : sr_H) : sr_3 := match S with
  | .long y :: .long x :: S => some (L, .long (f x y) :: S, h)
  | _ => none
def sr_ld (f : Int64 → Int64 → Int64) (L : List Value) (S : List Value) (h : sr_H) : sr_3 := match S with
  | .long y :: .long x :: S => if y = 0 then none else some (L, .long (f x y) :: S, h)
  | _ => none
/-- the three tables of the class -/
def sr_sa : Nat → List Int32
  | 0 => [-1, 0, 1, 0]
  | 1 => [0, 1, 0, -1]
  | 2 => [1, 1, 2, 6, 24, 120]
  | _ => []
def sr_sb : Nat := 1000000
def sr_sc : Nat := 2000000
/-- may a value lie in a field of this kind: 0 int, 1 boolean, 2 long, 3 a reference -/
def sr_ok : Nat → Value → Bool
  | 0, .int _ => true
  | 1, .int x => decide (x = 0 ∨ x = 1)
  | 2, .long _ => true
  | 3, .ref _ => true
  | _, _ => false
def sr_gf (ci k : Nat) (L : List Value) (S : List Value) (h : sr_H) : sr_3 := match S with
  | .ref a :: S => match h.2 a with
    | .inr (.inr (c, fs)) => if a < h.1.1 ∧ c = ci then (match fs[k]? with
      | some v => some (L, v :: S, h)
      | none => none) else none
    | _ => none
  | _ => none
def sr_pf (ci k ty : Nat) (L : List Value) (S : List Value) (h : sr_H) : sr_3 := match S with
  | v :: .ref a :: S => match h.2 a with
    | .inr (.inr (c, fs)) => if a < h.1.1 ∧ c = ci ∧ k < fs.length ∧ sr_ok ty v = true then some (L, S, (h.1, sr_up h.2 a (.inr (.inr (c, fs.set k v))))) else none
    | _ => none
  | _ => none
def sr_ia (L : List Value) (S : List Value) (h : sr_H) : sr_3 := match S with
  | .int i :: .ref a :: S => if a < h.1.1 then (match h.2 a with
    | .inl (0, n, f) => if i < 0 ∨ n ≤ i.toNatClampNeg then none else some (L, .int (f i.toNatClampNeg) :: S, h)
    | _ => none) else if sr_sb ≤ a ∧ a < sr_sc then (if i < 0 ∨ (sr_sa (a - sr_sb)).length ≤ i.toNatClampNeg then none else some (L, .int ((sr_sa (a - sr_sb)).getD i.toNatClampNeg 0) :: S, h)) else none
  | _ => none
def sr_za (L : List Value) (S : List Value) (h : sr_H) : sr_3 := match S with
  | .int i :: .ref a :: S => if a < h.1.1 then (match h.2 a with
    | .inl (1, n, f) => if i < 0 ∨ n ≤ i.toNatClampNeg then none else some (L, .int (f i.toNatClampNeg) :: S, h)
    | _ => none) else none
  | _ => none
def sr_ja (L : List Value) (S : List Value) (h : sr_H) : sr_3 := match S with
  | .int i :: .ref a :: S => if a < h.1.1 then (match h.2 a with
    | .inr (.inl (n, f)) => if i < 0 ∨ n ≤ i.toNatClampNeg then none else some (L, .long (f i.toNatClampNeg) :: S, h)
    | _ => none) else none
  | _ => none
def sr_is (L : List Value) (S : List Value) (h : sr_H) : sr_3 := match S with
  | .int x :: .int i :: .ref a :: S => if a < h.1.1 then (match h.2 a with
    | .inl (0, n, f) => if i < 0 ∨ n ≤ i.toNatClampNeg then none else some (L, S, (h.1, sr_up h.2 a (.inl (0, n, upd f i.toNatClampNeg x))))
    | _ => none) else none
  | _ => none
def sr_zs (L : List Value) (S : List Value) (h : sr_H) : sr_3 := match S with
  | .int x :: .int i :: .ref a :: S => if a < h.1.1 ∧ (x = 0 ∨ x = 1) then (match h.2 a with
    | .inl (1, n, f) => if i < 0 ∨ n ≤ i.toNatClampNeg then none else some (L, S, (h.1, sr_up h.2 a (.inl (1, n, upd f i.toNatClampNeg x))))
    | _ => none) else none
  | _ => none
def sr_js (L : List Value) (S : List Value) (h : sr_H) : sr_3 := match S with
  | .long x :: .int i :: .ref a :: S => if a < h.1.1 then (match h.2 a with
    | .inr (.inl (n, f)) => if i < 0 ∨ n ≤ i.toNatClampNeg then none else some (L, S, (h.1, sr_up h.2 a (.inr (.inl (n, vp_updL f i.toNatClampNeg x)))))
    | _ => none) else none
  | _ => none
def sr_al (L : List Value) (S : List Value) (h : sr_H) : sr_3 := match S with
  | .ref a :: S => if a < h.1.1 then (match h.2 a with
    | .inl (_, n, _) => some (L, .int (nI n) :: S, h)
    | .inr (.inl (n, _)) => some (L, .int (nI n) :: S, h)
    | _ => none) else none
  | _ => none
/-- new cells: only as long as there are fewer than sr_mx -/
def sr_nw (ci : Nat) (fs : List Value) (L : List Value) (S : List Value) (h : sr_H) : sr_3 :=
  if h.1.1 < sr_mx then some (L, .ref h.1.1 :: S, ((h.1.1 + 1, h.1.2 + fs.length), sr_up h.2 h.1.1 (.inr (.inr (ci, fs))))) else none
def sr_na (ty : ArrayType) (L : List Value) (S : List Value) (h : sr_H) : sr_3 := match S with
  | .int n :: S => if h.1.1 < sr_mx ∧ ¬ n < 0 ∧ n.toNatClampNeg ≤ 1000 then (match ty with
    | .int => some (L, .ref h.1.1 :: S, ((h.1.1 + 1, h.1.2 + n.toNatClampNeg), sr_up h.2 h.1.1 (.inl (0, n.toNatClampNeg, fun _ => 0))))
    | .boolean => some (L, .ref h.1.1 :: S, ((h.1.1 + 1, h.1.2 + n.toNatClampNeg), sr_up h.2 h.1.1 (.inl (1, n.toNatClampNeg, fun _ => 0))))
    | .long => some (L, .ref h.1.1 :: S, ((h.1.1 + 1, h.1.2 + n.toNatClampNeg), sr_up h.2 h.1.1 (.inr (.inl (n.toNatClampNeg, fun _ => 0)))))
    | _ => none) else none
  | _ => none
/-- System.arraycopy over ints -/
def sr_cp (L : List Value) (S : List Value) (h : sr_H) : sr_3 := match S with
  | .int n :: .int dp :: .ref a :: .int sp :: .ref b :: S => if a < h.1.1 ∧ b < h.1.1 ∧ ¬ sp < 0 ∧ ¬ dp < 0 ∧ ¬ n < 0 then (match h.2 b, h.2 a with
    | .inl (0, n0, f), .inl (0, n1, g) => if sp.toNatClampNeg + n.toNatClampNeg ≤ n0 ∧ dp.toNatClampNeg + n.toNatClampNeg ≤ n1 then some (L, S, (h.1, sr_up h.2 a (.inl (0, n1, va_cpy f g sp.toNatClampNeg dp.toNatClampNeg n.toNatClampNeg)))) else none
    | _, _ => none) else none
  | _ => none
/-- the simple instructions -/
def sr_sm (i : Instr) (x : List Nat) (L : List Value) (S : List Value) (h : sr_H) : sr_3 := match i with
  | .sipush _ => some (L, .int (sr_cst x) :: S, h)
  | .lconst _ => some (L, .long (sr_csl x) :: S, h)
  | .ldc _ => some (L, .ref (sr_sc + x.getD 0 0) :: S, h)
  | .iload i => (match L[i]? with
    | some (.int v) => some (L, .int v :: S, h)
    | _ => none)
  | .lload i => (match L[i]? with
    | some (.long v) => some (L, .long v :: S, h)
    | _ => none)
  | .aload i => (match L[i]? with
    | some (.ref v) => some (L, .ref v :: S, h)
    | _ => none)
  | .istore i => (match S with
    | .int v :: S => if i < L.length then some (sr_st1 L i (.int v), S, h) else none
    | _ => none)
  | .astore i => (match S with
    | .ref v :: S => if i < L.length then some (sr_st1 L i (.ref v), S, h) else none
    | _ => none)
  | .lstore i => (match S with
    | .long v :: S => if i + 1 < L.length then some (sr_st2 L i (.long v), S, h) else none
    | _ => none)
  | .iinc i _ => (match L[i]? with
    | some (.int v) => some (sr_st1 L i (.int (v + sr_cst x)), S, h)
    | _ => none)
  | .dup => (match S with
    | .int v :: S => some (L, .int v :: .int v :: S, h)
    | .ref v :: S => some (L, .ref v :: .ref v :: S, h)
    | _ => none)
  | .dup2 => (match S with
    | .int v :: .ref w :: S => some (L, .int v :: .ref w :: .int v :: .ref w :: S, h)
    | _ => none)
  | .pop => (match S with
    | .int _ :: S => some (L, S, h)
    | .ref _ :: S => some (L, S, h)
    | _ => none)
  | .iadd => sr_i2 (fun x y => x + y) L S h
  | .isub => sr_i2 (fun x y => x - y) L S h
  | .imul => sr_i2 (fun x y => x * y) L S h
  | .iand => sr_i2 (fun x y => x &&& y) L S h
  | .ior => sr_i2 (fun x y => x ||| y) L S h
  | .ixor => sr_i2 (fun x y => x ^^^ y) L S h
  | .ishl => sr_i2 (fun x y => x <<< (y &&& 31)) L S h
  | .ishr => sr_i2 (fun x y => x >>> (y &&& 31)) L S h
  | .iushr => sr_i2 (fun x y => (x.toUInt32 >>> (y.toUInt32 &&& Int32.toUInt32 31)).toInt32) L S h
  | .idiv => sr_id (fun x y => x / y) L S h
  | .irem => sr_id (fun x y => x - x / y * y) L S h
  | .ineg => sr_i1 (fun x => -x) L S h
  | .ladd => sr_l2 (fun x y => x + y) L S h
  | .lsub => sr_l2 (fun x y => x - y) L S h
  | .lmul => sr_l2 (fun x y => x * y) L S h
  | .land => sr_l2 (fun x y => x &&& y) L S h
  | .ldiv => sr_ld (fun x y => x / y) L S h
  | .lrem => sr_ld (fun x y => x - x / y * y) L S h
  | .lneg => sr_l1 (fun x => -x) L S h
  | .i2l => (match S with
    | .int v :: S => some (L, .long v.toInt64 :: S, h)
    | _ => none)
  | .l2i => (match S with
    | .long v :: S => some (L, .int v.toInt32 :: S, h)
    | _ => none)
  | .lcmp => (match S with
    | .long y :: .long x :: S => some (L, .int (lg_cmp x y) :: S, h)
    | _ => none)
  | .getfield _ => sr_gf (x.getD 0 0) (x.getD 1 0) L S h
  | .putfield _ => sr_pf (x.getD 0 0) (x.getD 1 0) (x.getD 2 0) L S h
  | .getstatic _ => some (L, .ref (sr_sb + x.getD 0 0) :: S, h)
  | .iaload => sr_ia L S h
  | .baload => sr_za L S h
  | .laload => sr_ja L S h
  | .iastore => sr_is L S h
  | .bastore => sr_zs L S h
  | .lastore => sr_js L S h
  | .arraylength => sr_al L S h
  | .new _ => sr_nw (x.getD 0 0) (sr_df (x.getD 0 0)) L S h
  | .newarray ty => sr_na ty L S h
  | _ => none
/-- members of the JDK that are taken whole -/
def sr_bi (b : Nat) (L : List Value) (S : List Value) (h : sr_H) : sr_3 := match b with
  | 0 => sr_i2 (fun x y => if y < x then y else x) L S h
  | 1 => sr_i2 (fun x y => if x < y then y else x) L S h
  | 2 => sr_i1 (fun x => if 0 ≤ x then x else 0 - x) L S h
  | 3 => sr_l2 (fun x y => if y < x then y else x) L S h
  | 4 => sr_l2 (fun x y => if y < x then x else y) L S h
  | 5 => sr_l1 (fun x => if 0 < x then x else -x) L S h
  | 6 => sr_cp L S h
  | 7 => (match S with
    | .int i :: .ref a :: S => if sr_sc ≤ a ∧ ¬ i < 0 ∧ i.toNatClampNeg < (sr_tx (a - sr_sc)).length then some (L, .int (nI ((sr_tx (a - sr_sc)).getD i.toNatClampNeg 0)) :: S, h) else none
    | _ => none)
  | 8 => (match S with
    | .ref a :: S => if sr_sc ≤ a ∧ a - sr_sc < 4 then some (L, .int (nI (sr_tx (a - sr_sc)).length) :: S, h) else none
    | _ => none)
  | 9 => (match S with
    | .ref _ :: S => some (L, S, h)
    | _ => none)
  | _ => none
def sr_cd : ClassFile.Cond → Int32 → Int32 → Bool
  | .eq, x, y => decide (x = y)
  | .ne, x, y => decide (¬ x = y)
  | .lt, x, y => decide (x < y)
  | .ge, x, y => decide (y ≤ x)
  | .gt, x, y => decide (y < x)
  | .le, x, y => decide (x ≤ y)
def sr_tsw (lo hi : Int) (x : List Nat) (v : Int32) : Nat := if v.toInt < lo ∨ hi < v.toInt then x.getD 0 0 else x.getD (1 + (v.toInt - lo).toNat) 0
def sr_lsw : List (Int × Int) → List Nat → Nat → Int → Nat
  | (k, _) :: ps, t :: ts, d, v => if v = k then t else sr_lsw ps ts d v
  | _, _, d, _ => d
def sr_pop : Nat → List Value → List Value → Option (List Value × List Value)
  | 0, as, S => some (as, S)
  | n + 1, as, v :: S => sr_pop n (v :: as) S
  | _ + 1, _, [] => none
def sr_io (ci : Nat) (as : List Value) (h : sr_H) : Bool := match as with
  | .ref a :: _ => (match h.2 a with
    | .inr (.inr (c, _)) => decide (a < h.1.1 ∧ c = ci)
    | _ => false)
  | _ => false
def sr_ar : List Value → List Value
  | [] => []
  | .long x :: vs => .long x :: sr_U :: sr_ar vs
  | .double x :: vs => .double x :: sr_U :: sr_ar vs
  | v :: vs => v :: sr_ar vs
def sr_sz (S : List Value) : Nat := (S.map fun v => v.category).sum
def sr_cl (C : Nat → List Value → sr_H → Option sr_R) (mid n : Nat) (ok : List Value → sr_H → Bool) (K : sr_K) (L : List Value) (S : List Value) (h : sr_H) : Option sr_R :=
  match sr_pop n [] S with
  | some (as, S') => if sr_sz S' ≤ 8 ∧ (sr_ar as).length ≤ sr_ml mid ∧ ok as h = true then (match C mid as h with
    | some (r, h') => K L (r.toList ++ S') h'
    | none => none) else none
  | none => none
def sr_go (K : sr_K) : sr_3 → Option sr_R
  | some (L, S, h) => K L S h
  | none => none
def sr_iv (B : Bool) (C : Nat → List Value → sr_H → Option sr_R) (x : List Nat) (K : sr_K) (L : List Value) (S : List Value) (h : sr_H) : Option sr_R := match x with
  | [b] => if B = true ∧ sr_sz S ≤ 9 then sr_go K (sr_bi b L S h) else none
  | [mid, n] => sr_cl C mid n (fun _ _ => true) K L S h
  | [mid, n, ci] => sr_cl C mid n (sr_io ci) K L S h
  | _ => none
def sr_op (B : Bool) (J : Nat → sr_K) (C : Nat → List Value → sr_H → Option sr_R) (i : Instr) (x : List Nat) (K : sr_K) (L : List Value) (S : List Value) (h : sr_H) : Option sr_R := match i with
  | .ifCond c _ => (match S with
    | .int v :: S => if sr_cd c v 0 = true then J (x.getD 0 0) L S h else K L S h
    | _ => none)
  | .if_icmp c _ => (match S with
    | .int w :: .int v :: S => if sr_cd c v w = true then J (x.getD 0 0) L S h else K L S h
    | _ => none)
  | .goto _ => J (x.getD 0 0) L S h
  | .nop => J (x.getD 0 0) L S h
  | .tableswitch _ lo hi _ => (match S with
    | .int v :: S => J (sr_tsw lo hi x v) L S h
    | _ => none)
  | .lookupswitch _ ps => (match S with
    | .int v :: S => J (sr_lsw ps.toList (x.drop 1) (x.getD 0 0) v.toInt) L S h
    | _ => none)
  | .invokevirtual _ => sr_iv B C x K L S h
  | .invokestatic _ => sr_iv B C x K L S h
  | .invokespecial _ => sr_iv B C x K L S h
  | .ireturn => (match S with
    | [.int v] => if x = [] ∨ v = 0 ∨ v = 1 then some (some (.int v), h) else none
    | _ => none)
  | .lreturn => (match S with
    | [.long v] => some (some (.long v), h)
    | _ => none)
  | .areturn => (match S with
    | [.ref v] => some (some (.ref v), h)
    | _ => none)
  | .return_ => (match S with
    | [] => some (none, h)
    | _ => none)
  | i => sr_go K (sr_sm i x L S h)
def sr_ev (B : Bool) (J : Nat → sr_K) (C : Nat → List Value → sr_H → Option sr_R) : List sr_I → sr_K
  | [] => fun _ _ _ => none
  | (i, x) :: cs => sr_op B J C i x (sr_ev B J C cs)
/-- only what is still read is kept at a block's head -/
def sr_ms : List Bool → List Value → List Value
  | true :: bs, v :: vs => v :: sr_ms bs vs
  | false :: bs, _ :: vs => sr_U :: sr_ms bs vs
  | _, _ => []
def sr_in (n : Nat) (as : List Value) : List Value := sr_ar as ++ List.replicate (n - (sr_ar as).length) sr_U
def sr_ef : Nat → Nat → Nat → sr_K
  | 0, _, _ => fun _ _ _ => none
  | n + 1, d, t => fun L S h => sr_ev (decide (8 ≤ d)) (sr_ef n d) (fun mid as h => match d with
    | 0 => none
    | d' + 1 => sr_ef n d' (1000 * mid) (sr_in (sr_ml mid) as) [] h) (sr_bk t) (sr_ms (sr_mk t) L) S h
def sr_cf (n d : Nat) (mid : Nat) (as : List Value) (h : sr_H) : Option sr_R := match d with
  | 0 => none
  | d' + 1 => sr_ef n d' (1000 * mid) (sr_in (sr_ml mid) as) [] h
theorem sr_ef_s (n d t : Nat) (L S : List Value) (h : sr_H) : sr_ef (n + 1) d t L S h = sr_ev (decide (8 ≤ d)) (sr_ef n d) (sr_cf n d) (sr_bk t) (sr_ms (sr_mk t) L) S h := rfl
