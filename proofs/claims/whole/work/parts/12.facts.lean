/-! The tables' own truths, decided by the kernel. -/
def sr_mem (w : Cond) : Bool := decide (w ∈ lw_tbl) && goodWord w
theorem sr_mem_in {w : Cond} (h : sr_mem w = true) : w ∈ sr_tb := by
  simp only [sr_mem, Bool.and_eq_true, decide_eq_true_eq] at h
  exact List.mem_filter.mpr h
def sr_c1 (own : Nat) : Bool := (sr_fl own).all fun e => match vwCl[e.2.1]? with
  | some q => decide (e.2.2.1 < q.2.2) && sr_wd e.2.2.2 (.fieldLink (sr_cn own) e.1 (q.2.1 e.2.2.1).1 (q.2.1 e.2.2.1).2.1 (q.2.1 e.2.2.1).2.2.1)
  | none => false
def sr_c2 (ci : Nat) : Bool := match vwCl[ci]? with
  | none => true
  | some q => (List.range q.2.2).all (fun k => sr_wd ((sr_lj ci).getD k 0) (u_lay q.1 q.2.1 k)) && sr_wd (sr_nj.getD ci 0) (.instantiable q.1 q.2.2) && sr_wd (sr_cj.getD ci 0) (.initialized q.1)
def sr_c2b (ci : Nat) : Bool := match vwCl[ci]? with
  | none => true
  | some q => decide ((sr_df ci).length = q.2.2) && (List.range 14).all (fun own => decide (¬ sr_cx own = ci) || decide (sr_cn own = q.1)) && (List.range q.2.2).all (fun k => match parseFieldDescriptor (q.2.1 k).2.2.1 with
    | some ty => decide (sr_tym (sr_ft ci k) ty = true ∧ sr_fn ci k = (q.2.1 k).2.2.2 ∧ (q.2.1 k).1 = q.1 ∧ (sr_df ci)[k]? = some (defaultValue ty))
    | none => false)
def sr_c3 (own : Nat) : Bool := (sr_sl own).all fun e => decide (e.2.1 < 3) && sr_wd e.2.2 (.fieldLink (sr_cn own) e.1 (sr_sC e.2.1).1 (sr_sC e.2.1).2 "[I")
def sr_c4 (own : Nat) : Bool := (sr_kc own).all fun e => sr_wd e.2.2 (.constant (sr_cn own) e.1 (sr_cst e.2.1))
def sr_c5 (own : Nat) : Bool := (sr_kd own).all fun e => sr_wd e.2.2 (.constantLong (sr_cn own) e.1 (sr_csl e.2.1))
def sr_c6 (own : Nat) : Bool := (sr_ks own).all fun e => decide (e.2.1 < 4 ∧ (sr_tR e.2.1).1 = sr_cn own ∧ (sr_tR e.2.1).2.1 = e.1)
def sr_c7 (own : Nat) : Bool := (sr_cc own).all fun e => match vwCl[e.2.1]? with
  | some q => sr_wd e.2.2 (.classLink (sr_cn own) e.1 q.1)
  | none => false
def sr_c8 (own : Nat) : Bool := (sr_bl own).all fun e => sr_wd e.2.2 (.methodLink (sr_cn own) e.1 (sr_bn e.2.1))
def sr_c9 (own : Nat) : Bool := (sr_ln own).all fun e => decide (e.2.1 < 298) && (if e.2.2.1 = 0 then sr_wd e.2.2.2 (.methodLink (sr_cn own) e.1 (sr_y e.2.1)) else decide (e.2.2.1 = 1))
def sr_cdw (mid : Nat) : Bool := match lw_tbl[(sr_mj mid).1]? with
  | some (Jvm.Cond.code y _ n r) => decide (y = sr_y mid ∧ n = sr_ml mid ∧ r = sr_rt mid)
  | _ => false
theorem sr_cdw_in {mid : Nat} (h : sr_cdw mid = true) : Cond.code (sr_y mid) (sr_by mid) (sr_ml mid) (sr_rt mid) ∈ sr_tb := by
  unfold sr_cdw at h
  split at h
  · rename_i y c n r e
    simp only [decide_eq_true_eq] at h
    obtain ⟨rfl, rfl, rfl⟩ := h
    have e2 : sr_by mid = c := by
      unfold sr_by
      rw [e]
    rw [e2]
    exact sr_tb_in e rfl
  · cases h
def sr_c11 (mid : Nat) : Bool := sr_cdw mid && plainName (sr_y mid).cls && decide ((sr_y mid).cls ≠ "java/lang/invoke/MethodHandle" ∧ (sr_y mid).cls ≠ "java/lang/invoke/VarHandle" ∧ (parseMethodDescriptor (sr_y mid).desc).map (fun d => d.parameters.length) = some (sr_np mid)) && decide (sr_ml mid ≤ 40) && decide ((sr_y mid).cls = sr_cn (sr_mo mid)) && sr_wd (sr_ij.getD (sr_mo mid) 0) (.initialized (sr_y mid).cls) &&
  (if sr_mq mid = 0 then sr_wd (sr_mj mid).2.1 (.instanceMethod (sr_y mid)) && sr_wd (sr_mj mid).2.2 (.selects (sr_y mid).cls (sr_y mid) (sr_y mid)) && (match vwCl[sr_mc mid]? with
    | some q => decide (q.1 = (sr_y mid).cls)
    | none => false)
  else if sr_mq mid = 1 then sr_wd (sr_mj mid).2.1 (.static (sr_y mid)) else sr_wd (sr_mj mid).2.1 (.instanceMethod (sr_y mid)) && decide ((sr_y mid).name = "<init>" ∧ sr_rt mid = none)) && decide (sr_pc (1000 * mid) = 0)
def sr_bks (mid : Nat) : List (List sr_I) := (sr_bb (mid / 20)).getD (mid % 20) []
def sr_mks (mid : Nat) : List (List Bool) := (sr_mm (mid / 20)).getD (mid % 20) []
def sr_pcs (mid : Nat) : List Nat := (sr_pp (mid / 20)).getD (mid % 20) []
def sr_c12 (mid : Nat) : Bool := sr_ckL (sr_mo mid) mid (sr_by mid) (sr_rt mid) (decide (sr_mq mid = 2)) (sr_bks mid) (sr_pcs mid) && (sr_mks mid).all (fun b => decide (b.length = sr_ml mid)) && decide ((sr_bks mid).length = (sr_mks mid).length)
set_option maxRecDepth 20000 in
theorem sr_c1_ok : ∀ own, own < 14 → sr_c1 own = true := by decide +kernel
set_option maxRecDepth 20000 in
theorem sr_c2_ok : ∀ ci, ci < 11 → sr_c2 ci = true := by decide +kernel
set_option maxRecDepth 20000 in
theorem sr_c2_11 : sr_c2 11 = true := by decide +kernel
set_option maxRecDepth 20000 in
theorem sr_c2b_ok : ∀ ci, ci < 11 → sr_c2b ci = true := by decide +kernel
set_option maxRecDepth 20000 in
theorem sr_c2b_11 : sr_c2b 11 = true := by decide +kernel
set_option maxRecDepth 20000 in
theorem sr_c3_ok : ∀ own, own < 14 → (sr_c3 own && sr_c4 own && sr_c5 own && sr_c6 own && sr_c7 own && sr_c8 own) = true := by decide +kernel
set_option maxRecDepth 20000 in
theorem sr_c9_ok : ∀ own, own < 14 → sr_c9 own = true := by decide +kernel
set_option maxRecDepth 20000 in
theorem sr_c10_ok : ((List.range 7).all (fun b => sr_mem (.static (sr_bn b))) && [Cond.initialized "java/lang/Math", Cond.initialized "java/lang/System", Cond.initialized "java/lang/String", Cond.native arraycopyName, Cond.code Lib.Math.min.name Lib.Math.min.code 2 (some .int), Cond.code Lib.Math.max.name Lib.Math.max.code 2 (some .int), Cond.code Lib.Math.abs.name Lib.Math.abs.code 1 (some .int), Cond.code Lib.MathLoose.min_long.x Lib.MathLoose.min_long.code 4 (some .long), Cond.code Lib.MathLoose.max_long.x Lib.MathLoose.max_long.code 4 (some .long), Cond.code Lib.MathLoose.abs_long.x Lib.MathLoose.abs_long.code 2 (some .long), Cond.instanceMethod Lib.objectInit, Cond.code Lib.objectInit ⟨#[0xb1]⟩ 1 none, Cond.arrayClass .int, Cond.arrayClass .boolean, Cond.arrayClass .long, Cond.instanceMethod (sr_bn 7), Cond.selects "java/lang/String" (sr_bn 7) (sr_bn 7), Cond.code (sr_bn 7) prog_23_method_56_code 2 (some .char), Cond.instanceMethod (sr_bn 8), Cond.selects "java/lang/String" (sr_bn 8) (sr_bn 8), Cond.code (sr_bn 8) prog_23_method_54_code 1 (some .int)].all sr_mem) = true := by decide +kernel
