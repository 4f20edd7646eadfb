/-! Rules over the small machine: what holds at its end. -/
abbrev sr_T : Type := Option Value → sr_H → Prop
def sr_W (d t : Nat) (L S : List Value) (h : sr_H) (Q : sr_T) : Prop := ∃ n r h', sr_ef n d t L S h = some (r, h') ∧ Q r h'
def sr_B (d : Nat) (cs : List sr_I) (L S : List Value) (h : sr_H) (Q : sr_T) : Prop := ∃ n r h', sr_ev (decide (8 ≤ d)) (sr_ef n d) (sr_cf n d) cs L S h = some (r, h') ∧ Q r h'
def sr_M (d mid : Nat) (as : List Value) (h : sr_H) (Q : sr_T) : Prop := ∃ n r h', sr_cf n d mid as h = some (r, h') ∧ Q r h'
theorem sr_W_B (d t : Nat) (L S : List Value) (h : sr_H) (Q : sr_T) : sr_W d t L S h Q ↔ sr_B d (sr_bk t) (sr_ms (sr_mk t) L) S h Q := by
  constructor
  · rintro ⟨n, r, h', e, q⟩
    cases n with
    | zero => cases e
    | succ n => exact ⟨n, r, h', e, q⟩
  · rintro ⟨n, r, h', e, q⟩
    exact ⟨n + 1, r, h', e, q⟩
theorem sr_M_W (d mid : Nat) (as : List Value) (h : sr_H) (Q : sr_T) : sr_M (d + 1) mid as h Q ↔ sr_W d (1000 * mid) (sr_in (sr_ml mid) as) [] h Q := Iff.rfl
/-- two runs agree -/
theorem sr_cf_same {n n' d m : Nat} {as : List Value} {h : sr_H} {R R' : sr_R} (e : sr_cf n d m as h = some R) (e' : sr_cf n' d m as h = some R') : R = R' := by
  have h1 := sr_cf_up (Nat.le_max_left n n') m as h R e
  have h2 := sr_cf_up (Nat.le_max_right n n') m as h R' e'
  exact Option.some.inj (h1.symm.trans h2)
theorem sr_M_iff {d m : Nat} {as : List Value} {h : sr_H} {r : Option Value} {h' : sr_H} (e : sr_M d m as h (fun r1 h1 => r1 = r ∧ h1 = h')) (Q : sr_T) : sr_M d m as h Q ↔ Q r h' := by
  obtain ⟨n, r1, h1, e, rfl, rfl⟩ := e
  constructor
  · rintro ⟨n', r2, h2, e', q⟩
    cases sr_cf_same e e'
    exact q
  · intro q
    exact ⟨n, r1, h1, e, q⟩
theorem sr_M_mono {d m : Nat} {as : List Value} {h : sr_H} {Q Q' : sr_T} (hq : ∀ r h, Q r h → Q' r h) (e : sr_M d m as h Q) : sr_M d m as h Q' := by
  obtain ⟨n, r, h', e, q⟩ := e
  exact ⟨n, r, h', e, hq _ _ q⟩
theorem sr_W_mono {d t : Nat} {L S : List Value} {h : sr_H} {Q Q' : sr_T} (hq : ∀ r h, Q r h → Q' r h) (e : sr_W d t L S h Q) : sr_W d t L S h Q' := by
  obtain ⟨n, r, h', e, q⟩ := e
  exact ⟨n, r, h', e, hq _ _ q⟩
section SRW
variable {d k t : Nat} {x : List Nat} {cs : List sr_I} {L S : List Value} {h : sr_H} {Q : sr_T}
theorem wB_const {n : Int} : sr_B d ((.sipush n, x) :: cs) L S h Q ↔ sr_B d cs L (.int (sr_cst x) :: S) h Q := Iff.rfl
theorem wB_lconst {n : Fin 2} : sr_B d ((.lconst n, x) :: cs) L S h Q ↔ sr_B d cs L (.long (sr_csl x) :: S) h Q := Iff.rfl
theorem wB_ldc {n : Nat} : sr_B d ((.ldc n, x) :: cs) L S h Q ↔ sr_B d cs L (.ref (sr_sc + x.getD 0 0) :: S) h Q := Iff.rfl
theorem wB_getstatic {n : Nat} : sr_B d ((.getstatic n, x) :: cs) L S h Q ↔ sr_B d cs L (.ref (sr_sb + x.getD 0 0) :: S) h Q := Iff.rfl
theorem wB_dupi {v : Int32} : sr_B d ((.dup, x) :: cs) L (.int v :: S) h Q ↔ sr_B d cs L (.int v :: .int v :: S) h Q := Iff.rfl
theorem wB_dupr {v : Nat} : sr_B d ((.dup, x) :: cs) L (.ref v :: S) h Q ↔ sr_B d cs L (.ref v :: .ref v :: S) h Q := Iff.rfl
theorem wB_dup2 {v : Int32} {w : Nat} : sr_B d ((.dup2, x) :: cs) L (.int v :: .ref w :: S) h Q ↔ sr_B d cs L (.int v :: .ref w :: .int v :: .ref w :: S) h Q := Iff.rfl
theorem wB_popi {v : Int32} : sr_B d ((.pop, x) :: cs) L (.int v :: S) h Q ↔ sr_B d cs L S h Q := Iff.rfl
theorem wB_iadd {a b : Int32} : sr_B d ((.iadd, x) :: cs) L (.int b :: .int a :: S) h Q ↔ sr_B d cs L (.int (a + b) :: S) h Q := Iff.rfl
theorem wB_isub {a b : Int32} : sr_B d ((.isub, x) :: cs) L (.int b :: .int a :: S) h Q ↔ sr_B d cs L (.int (a - b) :: S) h Q := Iff.rfl
theorem wB_imul {a b : Int32} : sr_B d ((.imul, x) :: cs) L (.int b :: .int a :: S) h Q ↔ sr_B d cs L (.int (a * b) :: S) h Q := Iff.rfl
theorem wB_iand {a b : Int32} : sr_B d ((.iand, x) :: cs) L (.int b :: .int a :: S) h Q ↔ sr_B d cs L (.int (a &&& b) :: S) h Q := Iff.rfl
theorem wB_ior {a b : Int32} : sr_B d ((.ior, x) :: cs) L (.int b :: .int a :: S) h Q ↔ sr_B d cs L (.int (a ||| b) :: S) h Q := Iff.rfl
theorem wB_ixor {a b : Int32} : sr_B d ((.ixor, x) :: cs) L (.int b :: .int a :: S) h Q ↔ sr_B d cs L (.int (a ^^^ b) :: S) h Q := Iff.rfl
theorem wB_ishl {a b : Int32} : sr_B d ((.ishl, x) :: cs) L (.int b :: .int a :: S) h Q ↔ sr_B d cs L (.int (a <<< (b &&& 31)) :: S) h Q := Iff.rfl
theorem wB_ishr {a b : Int32} : sr_B d ((.ishr, x) :: cs) L (.int b :: .int a :: S) h Q ↔ sr_B d cs L (.int (a >>> (b &&& 31)) :: S) h Q := Iff.rfl
theorem wB_iushr {a b : Int32} : sr_B d ((.iushr, x) :: cs) L (.int b :: .int a :: S) h Q ↔ sr_B d cs L (.int ((a.toUInt32 >>> (b.toUInt32 &&& Int32.toUInt32 31)).toInt32) :: S) h Q := Iff.rfl
theorem wB_ineg {a : Int32} : sr_B d ((.ineg, x) :: cs) L (.int a :: S) h Q ↔ sr_B d cs L (.int (-a) :: S) h Q := Iff.rfl
theorem wB_ladd {a b : Int64} : sr_B d ((.ladd, x) :: cs) L (.long b :: .long a :: S) h Q ↔ sr_B d cs L (.long (a + b) :: S) h Q := Iff.rfl
theorem wB_lsub {a b : Int64} : sr_B d ((.lsub, x) :: cs) L (.long b :: .long a :: S) h Q ↔ sr_B d cs L (.long (a - b) :: S) h Q := Iff.rfl
theorem wB_lmul {a b : Int64} : sr_B d ((.lmul, x) :: cs) L (.long b :: .long a :: S) h Q ↔ sr_B d cs L (.long (a * b) :: S) h Q := Iff.rfl
theorem wB_land {a b : Int64} : sr_B d ((.land, x) :: cs) L (.long b :: .long a :: S) h Q ↔ sr_B d cs L (.long (a &&& b) :: S) h Q := Iff.rfl
theorem wB_lneg {a : Int64} : sr_B d ((.lneg, x) :: cs) L (.long a :: S) h Q ↔ sr_B d cs L (.long (-a) :: S) h Q := Iff.rfl
theorem wB_i2l {a : Int32} : sr_B d ((.i2l, x) :: cs) L (.int a :: S) h Q ↔ sr_B d cs L (.long a.toInt64 :: S) h Q := Iff.rfl
theorem wB_l2i {a : Int64} : sr_B d ((.l2i, x) :: cs) L (.long a :: S) h Q ↔ sr_B d cs L (.int a.toInt32 :: S) h Q := Iff.rfl
theorem wB_lcmp {a b : Int64} : sr_B d ((.lcmp, x) :: cs) L (.long b :: .long a :: S) h Q ↔ sr_B d cs L (.int (lg_cmp a b) :: S) h Q := Iff.rfl
theorem sr_B_ifx {P : Prop} (dP : Decidable P) {A : sr_3} {R : Nat → Option sr_R} {o : sr_3 → Nat → Option sr_R} (ho : ∀ n, o none n = none) : (∃ n r h', o (if P then none else A) n = some (r, h') ∧ Q r h') ↔ ¬ P ∧ ∃ n r h', o A n = some (r, h') ∧ Q r h' := by
  by_cases hp : P
  · simp [hp, ho]
  · simp [hp]
theorem wB_idiv {a b : Int32} : sr_B d ((.idiv, x) :: cs) L (.int b :: .int a :: S) h Q ↔ ¬ b = 0 ∧ sr_B d cs L (.int (a / b) :: S) h Q := sr_B_ifx (R := fun _ => none) (A := some (L, .int (a / b) :: S, h)) (o := fun o n => sr_go (sr_ev (decide (8 ≤ d)) (sr_ef n d) (sr_cf n d) cs) o) inferInstance (fun _ => rfl)
theorem wB_irem {a b : Int32} : sr_B d ((.irem, x) :: cs) L (.int b :: .int a :: S) h Q ↔ ¬ b = 0 ∧ sr_B d cs L (.int (a - a / b * b) :: S) h Q := sr_B_ifx (R := fun _ => none) (A := some (L, .int (a - a / b * b) :: S, h)) (o := fun o n => sr_go (sr_ev (decide (8 ≤ d)) (sr_ef n d) (sr_cf n d) cs) o) inferInstance (fun _ => rfl)
theorem wB_ldiv {a b : Int64} : sr_B d ((.ldiv, x) :: cs) L (.long b :: .long a :: S) h Q ↔ ¬ b = 0 ∧ sr_B d cs L (.long (a / b) :: S) h Q := sr_B_ifx (R := fun _ => none) (A := some (L, .long (a / b) :: S, h)) (o := fun o n => sr_go (sr_ev (decide (8 ≤ d)) (sr_ef n d) (sr_cf n d) cs) o) inferInstance (fun _ => rfl)
theorem wB_lrem {a b : Int64} : sr_B d ((.lrem, x) :: cs) L (.long b :: .long a :: S) h Q ↔ ¬ b = 0 ∧ sr_B d cs L (.long (a - a / b * b) :: S) h Q := sr_B_ifx (R := fun _ => none) (A := some (L, .long (a - a / b * b) :: S, h)) (o := fun o n => sr_go (sr_ev (decide (8 ≤ d)) (sr_ef n d) (sr_cf n d) cs) o) inferInstance (fun _ => rfl)
/-! jumps -/
theorem wB_goto {n : Int} : sr_B d ((.goto n, [t]) :: cs) L S h Q ↔ sr_W d t L S h Q := Iff.rfl
theorem wB_nop : sr_B d ((.nop, [t]) :: cs) L S h Q ↔ sr_W d t L S h Q := Iff.rfl
theorem sr_B_if {c : Bool} : (∃ n r h', (if c = true then sr_ef n d t L S h else sr_ev (decide (8 ≤ d)) (sr_ef n d) (sr_cf n d) cs L S h) = some (r, h') ∧ Q r h') ↔ if c = true then sr_W d t L S h Q else sr_B d cs L S h Q := by
  cases c <;> exact Iff.rfl
theorem sr_B_iff {p : Prop} (dp : Decidable p) {c : Bool} (hc : c = decide p) : (∃ n r h', (if c = true then sr_ef n d t L S h else sr_ev (decide (8 ≤ d)) (sr_ef n d) (sr_cf n d) cs L S h) = some (r, h') ∧ Q r h') ↔ if p then sr_W d t L S h Q else sr_B d cs L S h Q := by
  rw [sr_B_if, hc]
  by_cases hp : p <;> simp [hp]
theorem wB_ifeq {a : Int32} {n : Int} : sr_B d ((.ifCond .eq n, [t]) :: cs) L (.int a :: S) h Q ↔ if a = 0 then sr_W d t L S h Q else sr_B d cs L S h Q := sr_B_iff inferInstance rfl
theorem wB_ifne {a : Int32} {n : Int} : sr_B d ((.ifCond .ne n, [t]) :: cs) L (.int a :: S) h Q ↔ if a = 0 then sr_B d cs L S h Q else sr_W d t L S h Q := by
  refine (sr_B_iff (p := ¬ a = 0) inferInstance rfl).trans ?_
  by_cases hp : a = 0 <;> simp [hp]
theorem wB_iflt {a : Int32} {n : Int} : sr_B d ((.ifCond .lt n, [t]) :: cs) L (.int a :: S) h Q ↔ if a < 0 then sr_W d t L S h Q else sr_B d cs L S h Q := sr_B_iff inferInstance rfl
theorem wB_ifge {a : Int32} {n : Int} : sr_B d ((.ifCond .ge n, [t]) :: cs) L (.int a :: S) h Q ↔ if 0 ≤ a then sr_W d t L S h Q else sr_B d cs L S h Q := sr_B_iff inferInstance rfl
theorem wB_ifgt {a : Int32} {n : Int} : sr_B d ((.ifCond .gt n, [t]) :: cs) L (.int a :: S) h Q ↔ if 0 < a then sr_W d t L S h Q else sr_B d cs L S h Q := sr_B_iff inferInstance rfl
theorem wB_ifle {a : Int32} {n : Int} : sr_B d ((.ifCond .le n, [t]) :: cs) L (.int a :: S) h Q ↔ if a ≤ 0 then sr_W d t L S h Q else sr_B d cs L S h Q := sr_B_iff inferInstance rfl
theorem wB_icmpeq {a b : Int32} {n : Int} : sr_B d ((.if_icmp .eq n, [t]) :: cs) L (.int b :: .int a :: S) h Q ↔ if a = b then sr_W d t L S h Q else sr_B d cs L S h Q := sr_B_iff inferInstance rfl
theorem wB_icmpne {a b : Int32} {n : Int} : sr_B d ((.if_icmp .ne n, [t]) :: cs) L (.int b :: .int a :: S) h Q ↔ if a = b then sr_B d cs L S h Q else sr_W d t L S h Q := by
  refine (sr_B_iff (p := ¬ a = b) inferInstance rfl).trans ?_
  by_cases hp : a = b <;> simp [hp]
theorem wB_icmplt {a b : Int32} {n : Int} : sr_B d ((.if_icmp .lt n, [t]) :: cs) L (.int b :: .int a :: S) h Q ↔ if a < b then sr_W d t L S h Q else sr_B d cs L S h Q := sr_B_iff inferInstance rfl
theorem wB_icmpge {a b : Int32} {n : Int} : sr_B d ((.if_icmp .ge n, [t]) :: cs) L (.int b :: .int a :: S) h Q ↔ if b ≤ a then sr_W d t L S h Q else sr_B d cs L S h Q := sr_B_iff inferInstance rfl
theorem wB_icmpgt {a b : Int32} {n : Int} : sr_B d ((.if_icmp .gt n, [t]) :: cs) L (.int b :: .int a :: S) h Q ↔ if b < a then sr_W d t L S h Q else sr_B d cs L S h Q := sr_B_iff inferInstance rfl
theorem wB_icmple {a b : Int32} {n : Int} : sr_B d ((.if_icmp .le n, [t]) :: cs) L (.int b :: .int a :: S) h Q ↔ if a ≤ b then sr_W d t L S h Q else sr_B d cs L S h Q := sr_B_iff inferInstance rfl
theorem wB_table {a : Int32} {n lo hi : Int} {os : Array Int} : sr_B d ((.tableswitch n lo hi os, x) :: cs) L (.int a :: S) h Q ↔ sr_W d (sr_tsw lo hi x a) L S h Q := Iff.rfl
theorem wB_lookup {a : Int32} {n : Int} {ps : Array (Int × Int)} : sr_B d ((.lookupswitch n ps, x) :: cs) L (.int a :: S) h Q ↔ sr_W d (sr_lsw ps.toList (x.drop 1) (x.getD 0 0) a.toInt) L S h Q := Iff.rfl
/-! ends -/
theorem sr_ex {o : Nat → Option sr_R} {R : sr_R} (ho : ∀ n, o n = some R) : (∃ n r h', o n = some (r, h') ∧ Q r h') ↔ Q R.1 R.2 := by
  constructor
  · rintro ⟨n, r, h', e, q⟩
    rw [ho n] at e
    cases e
    exact q
  · intro q
    exact ⟨0, R.1, R.2, ho 0, q⟩
theorem wB_ireturn {a : Int32} : sr_B d ((.ireturn, []) :: cs) L [.int a] h Q ↔ Q (some (.int a)) h := sr_ex (R := (some (.int a), h)) (fun _ => rfl)
theorem wB_zreturn {a : Int32} : sr_B d ((.ireturn, [1]) :: cs) L [.int a] h Q ↔ (a = 0 ∨ a = 1) ∧ Q (some (.int a)) h := by
  by_cases ha : a = 0 ∨ a = 1
  · have : sr_B d ((.ireturn, [1]) :: cs) L [.int a] h Q ↔ Q (some (.int a)) h := sr_ex (R := (some (.int a), h)) (fun n => by
      show (if ([1] : List Nat) = [] ∨ a = 0 ∨ a = 1 then some (some (Value.int a), h) else none) = _
      rw [if_pos (Or.inr ha)])
    rw [this]
    exact ⟨fun q => ⟨ha, q⟩, fun q => q.2⟩
  · constructor
    · rintro ⟨n, r, h', e, q⟩
      have e : (if ([1] : List Nat) = [] ∨ a = 0 ∨ a = 1 then some (some (Value.int a), h) else none) = some (r, h') := e
      rw [if_neg (by simp only [List.cons_ne_nil, false_or]; exact ha)] at e
      cases e
    · intro q
      exact absurd q.1 ha
theorem wB_lreturn {a : Int64} : sr_B d ((.lreturn, x) :: cs) L [.long a] h Q ↔ Q (some (.long a)) h := sr_ex (R := (some (.long a), h)) (fun _ => rfl)
theorem wB_areturn {a : Nat} : sr_B d ((.areturn, x) :: cs) L [.ref a] h Q ↔ Q (some (.ref a)) h := sr_ex (R := (some (.ref a), h)) (fun _ => rfl)
theorem wB_return : sr_B d ((.return_, x) :: cs) L [] h Q ↔ Q none h := sr_ex (R := (none, h)) (fun _ => rfl)
end SRW
