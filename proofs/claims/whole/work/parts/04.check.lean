/-! THE CHECK that the blocks are the bytecode: a Bool for each method, decided by the kernel (parts 1x). -/
/-- the words that all methods share -/
def sr_tb : List Cond := lw_tbl.filter goodWord
theorem sr_tb_in {w : Cond} {j : Nat} (h : lw_tbl[j]? = some w) (hg : goodWord w = true) : w ∈ sr_tb := List.mem_filter.mpr ⟨List.mem_of_getElem? h, hg⟩
def sr_wd (j : Nat) (w : Cond) : Bool := decide (lw_tbl[j]? = some w) && goodWord w
theorem sr_wd_in {w : Cond} {j : Nat} (h : sr_wd j w = true) : w ∈ sr_tb := by
  simp only [sr_wd, Bool.and_eq_true, decide_eq_true_eq] at h
  exact sr_tb_in h.1 h.2
/-- a label is this method's, and stands at pc -/
def sr_lb (mid t : Nat) (pc : Int) : Bool := decide (t / 1000 = mid ∧ (sr_pc t : Int) = pc)
def sr_lbs (mid : Nat) (pc : Int) : List Nat → List Int → Bool
  | [], [] => true
  | t :: ts, o :: os => sr_lb mid t (pc + o) && sr_lbs mid pc ts os
  | _, _ => false
def sr_keys : List (Int × Int) → List (Int × Int) → Bool
  | [], [] => true
  | a :: as, b :: bs => decide (a.1 = b.1) && sr_keys as bs
  | _, _ => false
/-- what an abstract instruction may be in the code: own class, method, its return, is it a constructor -/
def sr_ckI (own mid pc len : Nat) (rt : Option FieldType) (ini : Bool) (r i : Instr) (x : List Nat) : Bool := match i with
  | .sipush _ => (match r with
    | .iconst n => decide (len = 1 ∧ Int32.ofInt n = sr_cst x)
    | .bipush n => decide (len = 2 ∧ (Int8.ofInt n).toInt32 = sr_cst x)
    | .sipush n => decide (len = 3 ∧ (Int16.ofInt n).toInt32 = sr_cst x)
    | .ldc k => decide (len = 2) && (sr_kc own).any fun e => decide (e.1 = k ∧ e.2.1 = x)
    | .ldc_w k => decide (len = 3) && (sr_kc own).any fun e => decide (e.1 = k ∧ e.2.1 = x)
    | _ => false)
  | .lconst _ => (match r with
    | .lconst n => decide (len = 1 ∧ Int64.ofNat (n : Nat) = sr_csl x)
    | .ldc2_w k => decide (len = 3) && (sr_kd own).any fun e => decide (e.1 = k ∧ e.2.1 = x)
    | _ => false)
  | .ldc _ => (match r with
    | .ldc k => decide (len = 2) && (sr_ks own).any fun e => decide (e.1 = k ∧ [e.2.1] = x)
    | _ => false)
  | .iload a => (match r with
    | .iload b => decide (len = 2 ∧ a = b)
    | .iload_n b => decide (len = 1 ∧ (b : Nat) = a)
    | _ => false)
  | .lload a => (match r with
    | .lload b => decide (len = 2 ∧ a = b)
    | .lload_n b => decide (len = 1 ∧ (b : Nat) = a)
    | _ => false)
  | .aload a => (match r with
    | .aload b => decide (len = 2 ∧ a = b)
    | .aload_n b => decide (len = 1 ∧ (b : Nat) = a)
    | _ => false)
  | .istore a => (match r with
    | .istore b => decide (len = 2 ∧ a = b)
    | .istore_n b => decide (len = 1 ∧ (b : Nat) = a)
    | _ => false)
  | .lstore a => (match r with
    | .lstore b => decide (len = 2 ∧ a = b)
    | .lstore_n b => decide (len = 1 ∧ (b : Nat) = a)
    | _ => false)
  | .astore a => (match r with
    | .astore b => decide (len = 2 ∧ a = b)
    | .astore_n b => decide (len = 1 ∧ (b : Nat) = a)
    | _ => false)
  | .iinc a _ => (match r with
    | .iinc b n => decide (len = 3 ∧ a = b ∧ Int32.ofInt n = sr_cst x)
    | _ => false)
  | .ifCond c _ => (match r with
    | .ifCond c' o => decide (len = 3 ∧ c = c') && sr_lb mid (x.getD 0 0) (pc + o)
    | _ => false)
  | .if_icmp c _ => (match r with
    | .if_icmp c' o => decide (len = 3 ∧ c = c') && sr_lb mid (x.getD 0 0) (pc + o)
    | _ => false)
  | .goto _ => (match r with
    | .goto o => decide (len = 3) && sr_lb mid (x.getD 0 0) (pc + o)
    | _ => false)
  | .tableswitch _ lo hi _ => (match r with
    | .tableswitch d lo' hi' os => decide (lo = lo' ∧ hi = hi' ∧ hi - lo + 1 = os.toList.length) && sr_lbs mid pc x (d :: os.toList)
    | _ => false)
  | .lookupswitch _ ps => (match r with
    | .lookupswitch d ps' => sr_keys ps.toList ps'.toList && (ps'.toList.zip (ps'.toList.drop 1)).all (fun (a, next) => a.1 < next.1) && sr_lbs mid pc x (d :: ps'.toList.map (fun q => q.2))
    | _ => false)
  | .getfield _ => (match r with
    | .getfield k => decide (len = 3) && (sr_fl own).any fun e => decide (e.1 = k ∧ x = [e.2.1, e.2.2.1])
    | _ => false)
  | .putfield _ => (match r with
    | .putfield k => decide (len = 3) && (sr_fl own).any fun e => decide (e.1 = k ∧ x = [e.2.1, e.2.2.1, sr_ft e.2.1 e.2.2.1] ∧ (sr_fn e.2.1 e.2.2.1 = true → ini = true ∧ sr_cx own = e.2.1))
    | _ => false)
  | .getstatic _ => (match r with
    | .getstatic k => decide (len = 3) && (sr_sl own).any fun e => decide (e.1 = k ∧ x = [e.2.1])
    | _ => false)
  | .new _ => (match r with
    | .new k => decide (len = 3) && (sr_cc own).any fun e => decide (e.1 = k ∧ x = [e.2.1])
    | _ => false)
  | .newarray ty => decide (r = .newarray ty ∧ len = 2)
  | .invokevirtual _ => (match r with
    | .invokevirtual k => decide (len = 3) && ((sr_bl own).any (fun e => decide (e.1 = k ∧ x = [e.2.1] ∧ (e.2.1 = 7 ∨ e.2.1 = 8))) || (sr_ln own).any (fun e => decide (e.1 = k ∧ x = [e.2.1, sr_np e.2.1 + 1, sr_mc e.2.1] ∧ e.2.2.1 = 0 ∧ sr_mq e.2.1 = 0)))
    | _ => false)
  | .invokestatic _ => (match r with
    | .invokestatic k => decide (len = 3) && ((sr_bl own).any (fun e => decide (e.1 = k ∧ x = [e.2.1] ∧ e.2.1 < 7)) || (sr_ln own).any (fun e => decide (e.1 = k ∧ x = [e.2.1, sr_np e.2.1] ∧ e.2.2.1 = 0 ∧ sr_mq e.2.1 = 1)))
    | _ => false)
  | .invokespecial _ => (match r with
    | .invokespecial k => decide (len = 3) && ((sr_bl own).any (fun e => decide (e.1 = k ∧ x = [e.2.1] ∧ e.2.1 = 9)) || (sr_ln own).any (fun e => decide (e.1 = k ∧ x = [e.2.1, sr_np e.2.1 + 1, sr_mc e.2.1] ∧ sr_mq e.2.1 = 2)))
    | _ => false)
  | .ireturn => decide (r = .ireturn ∧ len = 1) && ((decide (x = [] ∧ rt = some .int)) || decide (x ≠ [] ∧ rt = some .boolean))
  | .lreturn => decide (r = .lreturn ∧ len = 1 ∧ rt = some .long)
  | .areturn => decide (r = .areturn ∧ len = 1) && (match rt with
    | some (.object _) => true
    | _ => false)
  | .return_ => decide (r = .return_ ∧ len = 1 ∧ rt = none)
  | .athrow => true
  | i => decide (r = i ∧ len = 1)
def sr_ckB (own mid : Nat) (cc : ByteArray) (rt : Option FieldType) (ini : Bool) : Nat → List sr_I → Bool
  | _, [] => true
  | pc, (i, x) :: cs => if i = .nop then sr_lb mid (x.getD 0 0) pc else (match decode cc pc with
    | .ok (r, len) => sr_ckI own mid pc len rt ini r i x && sr_ckB own mid cc rt ini (pc + len) cs
    | .error _ => false)
/-- the method's blocks, one after another -/
def sr_ckL (own mid : Nat) (cc : ByteArray) (rt : Option FieldType) (ini : Bool) : List (List sr_I) → List Nat → Bool
  | [], _ => true
  | b :: bs, p :: ps => sr_ckB own mid cc rt ini p b && sr_ckL own mid cc rt ini bs ps
  | _ :: _, [] => false
