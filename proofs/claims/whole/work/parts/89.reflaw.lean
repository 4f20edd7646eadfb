/-! The reference: laws worked out. -/
def ksr (k : Nat) : Nat := if k = 2 then 0 else if k = 34 then 1 else 2
def sgc (k : Nat) : Nat := if k = 7 then 43 else if k = 8 then 45 else if k = 9 then 42 else if k = 10 then 47 else if k = 11 then 60 else if k = 12 then 256 else if k = 13 then 61 else if k = 14 then 257 else if k = 15 then 258 else if k = 16 then 62 else if k = 31 then 262 else if k = 32 then 261 else 260
def kvl (k v : Nat) : Nat := if k = 2 ∨ k = 34 then v else sgc k
def sgk (k : Nat) : Prop := (7 ≤ k ∧ k ≤ 16) ∨ k = 31 ∨ k = 32
/-- a number within the bounds of laws -/
def BD (v : Int64) : Prop := -LG ≤ v ∧ v ≤ LG
/-- the reference's numbers of laws have changed, nothing else -/
def FL (h h' : sr_H) : Prop := Fr h h' (fun a => a = 141 ∨ a = 166 ∨ a = 167) ∧ ∀ j, ¬ j = 41 → fI h' 141 j = fI h 141 j
theorem FL.rf {h : sr_H} : FL h h := ⟨Fr.rf, fun _ _ => rfl⟩
theorem FL.tr {h h1 h2 : sr_H} (a : FL h h1) (b : FL h1 h2) : FL h h2 := ⟨a.1.tr b.1, fun j hj => (b.2 j hj).trans (a.2 j hj)⟩
theorem FL_41 {h : sr_H} {v : Int32} (w : Mdl h) : FL h (sF h 141 41 (.int v)) := ⟨Fr_sF Fr.rf (erI (fld_11_41 w).2) (Or.inl rfl), fun j hj => fI_n (by omega)⟩
theorem FL_J {h : sr_H} {a i : Nat} {v : Int64} (ha : a = 166 ∨ a = 167) : FL h (sJ h a i v) := ⟨Fr_sJ Fr.rf (Or.inr ha), fun j hj => fI_sJ⟩
theorem FL.i {h h' : sr_H} (f : FL h h') {a i : Nat} (ha : 142 ≤ a) (h1 : ¬ a = 166 ∧ ¬ a = 167) : hI h' a i = hI h a i := hI_of (f.1.2 a (by omega))
theorem MX_FL {h h' : sr_H} {r : Nat} {x : V} (f : FL h h') (m : MX h r x) : MX h' r x := by
  have e : ∀ a i, 142 ≤ a → (¬ a = 166 ∧ ¬ a = 167) → hI h' a i = hI h a i := fun a i h1 h2 => f.i h1 h2
  obtain ⟨⟨n1, n2, n3, n4⟩, ms, mp, m1, m2, m3⟩ := m
  refine ⟨⟨by rw [e _ _ (by omega) (by omega)]; exact n1, by rw [e _ _ (by omega) (by omega)]; exact n2, by rw [e _ _ (by omega) (by omega)]; exact n3, by rw [e _ _ (by omega) (by omega)]; exact n4⟩, fun s hs => ?_, fun p hp => ?_, by rw [e _ _ (by omega) (by omega)]; exact m1, by rw [e _ _ (by omega) (by omega)]; exact m2, by rw [e _ _ (by omega) (by omega)]; exact m3⟩
  · have := ms s hs
    unfold MS at this ⊢
    rw [f.2 55 (by omega), f.2 56 (by omega), f.2 57 (by omega), e 145 _ (by omega) (by omega), e 148 _ (by omega) (by omega), e 171 _ (by omega) (by omega), e 172 _ (by omega) (by omega), e 173 _ (by omega) (by omega), e 174 _ (by omega) (by omega)]
    exact this
  · have := mp p hp
    unfold MP at this ⊢
    rw [e 154 _ (by omega) (by omega), e 175 _ (by omega) (by omega), e 176 _ (by omega) (by omega), e 177 _ (by omega) (by omega), e 178 _ (by omega) (by omega)]
    exact this
set_option maxHeartbeats 4000000 in
set_option maxRecDepth 100000 in
theorem r_is1 {d : Nat} {h : sr_H} {Q : sr_T} : sr_M (d + 1) 207 [.int (nI 1)] h Q ↔ Q (some (.long 1)) h := by
  simp (disch := first | assumption | omega) only [Nat.reduceAdd, Nat.reduceLeDiff, Nat.zero_le, true_and, and_true, ↓reduceIte, wB_const, wB_lconst, wB_ldc, wB_getstatic, wB_dupi, wB_dupr, wB_dup2, wB_popi, wB_iadd, wB_isub, wB_imul, wB_iand, wB_ior, wB_ixor, wB_ishl, wB_ishr, wB_iushr, wB_ineg, wB_ladd, wB_lsub, wB_lmul, wB_land, wB_lneg, wB_i2l, wB_l2i, wB_lcmp, wB_idiv, wB_irem, wB_ldiv, wB_lrem, wB_goto, wB_nop, wB_ifeq, wB_ifne, wB_iflt, wB_ifge, wB_ifgt, wB_ifle, wB_icmpeq, wB_icmpne, wB_icmplt, wB_icmpge, wB_icmpgt, wB_icmple, wB_table, wB_lookup, wB_ireturn, wB_zreturn, wB_lreturn, wB_areturn, wB_return, wB_getf, wB_putf, wB_iald, wB_bald, wB_lald, wB_iast, wB_bast, wB_last, wB_min, wB_max, wB_abs, wB_minl, wB_maxl, wB_absl, wB_obj, wB_copy, wB_charAt, wB_strlen, sr_k1i, sr_k1r, sr_k1U, sr_k1l, sr_ms1, sr_ms0, sr_msn, sr_cs1, sr_csm1, sr_csm2, sr_cl1, sr_cl2, sr_szi, sr_szr, sr_szl, sr_szn, sr_tls, sr_tln, wB_il0, wB_ll0, wB_al0, wB_is0, wB_as0, wB_inc0, wB_ls0, wB_il1, wB_ll1, wB_al1, wB_is1, wB_as1, wB_inc1, wB_ls1, wB_il2, wB_ll2, wB_al2, wB_is2, wB_as2, wB_inc2, wB_ls2, wB_il3, wB_ll3, wB_al3, wB_is3, wB_as3, wB_inc3, wB_ls3, wB_il4, wB_ll4, wB_al4, wB_is4, wB_as4, wB_inc4, wB_ls4, wB_il5, wB_ll5, wB_al5, wB_is5, wB_as5, wB_inc5, wB_ls5, wB_il6, wB_ll6, wB_al6, wB_is6, wB_as6, wB_inc6, wB_ls6, wB_il7, wB_ll7, wB_al7, wB_is7, wB_as7, wB_inc7, wB_ls7, lb_207001, lb_207002, nI_clamp, inb_nI, nI_leI, nI_ltI, nI_eq, nI_z, nI_ge0, nI_lt0, nI_add, n00, n11, n01, n10, true_or, or_true, not_true_eq_false, not_false_eq_true, bI_0, bI_z, Nat.le_refl, Nat.lt_irrefl, Nat.reduceLT, Nat.reduceEqDiff, nI_gt0, nI_le0, en_207, lN_one]
set_option maxHeartbeats 4000000 in
set_option maxRecDepth 100000 in
theorem r_is0 {d : Nat} {h : sr_H} {Q : sr_T} : sr_M (d + 1) 207 [.int (nI 0)] h Q ↔ Q (some (.long 0)) h := by
  simp (disch := first | assumption | omega) only [Nat.reduceAdd, Nat.reduceLeDiff, Nat.zero_le, true_and, and_true, ↓reduceIte, wB_const, wB_lconst, wB_ldc, wB_getstatic, wB_dupi, wB_dupr, wB_dup2, wB_popi, wB_iadd, wB_isub, wB_imul, wB_iand, wB_ior, wB_ixor, wB_ishl, wB_ishr, wB_iushr, wB_ineg, wB_ladd, wB_lsub, wB_lmul, wB_land, wB_lneg, wB_i2l, wB_l2i, wB_lcmp, wB_idiv, wB_irem, wB_ldiv, wB_lrem, wB_goto, wB_nop, wB_ifeq, wB_ifne, wB_iflt, wB_ifge, wB_ifgt, wB_ifle, wB_icmpeq, wB_icmpne, wB_icmplt, wB_icmpge, wB_icmpgt, wB_icmple, wB_table, wB_lookup, wB_ireturn, wB_zreturn, wB_lreturn, wB_areturn, wB_return, wB_getf, wB_putf, wB_iald, wB_bald, wB_lald, wB_iast, wB_bast, wB_last, wB_min, wB_max, wB_abs, wB_minl, wB_maxl, wB_absl, wB_obj, wB_copy, wB_charAt, wB_strlen, sr_k1i, sr_k1r, sr_k1U, sr_k1l, sr_ms1, sr_ms0, sr_msn, sr_cs1, sr_csm1, sr_csm2, sr_cl1, sr_cl2, sr_szi, sr_szr, sr_szl, sr_szn, sr_tls, sr_tln, wB_il0, wB_ll0, wB_al0, wB_is0, wB_as0, wB_inc0, wB_ls0, wB_il1, wB_ll1, wB_al1, wB_is1, wB_as1, wB_inc1, wB_ls1, wB_il2, wB_ll2, wB_al2, wB_is2, wB_as2, wB_inc2, wB_ls2, wB_il3, wB_ll3, wB_al3, wB_is3, wB_as3, wB_inc3, wB_ls3, wB_il4, wB_ll4, wB_al4, wB_is4, wB_as4, wB_inc4, wB_ls4, wB_il5, wB_ll5, wB_al5, wB_is5, wB_as5, wB_inc5, wB_ls5, wB_il6, wB_ll6, wB_al6, wB_is6, wB_as6, wB_inc6, wB_ls6, wB_il7, wB_ll7, wB_al7, wB_is7, wB_as7, wB_inc7, wB_ls7, lb_207001, lb_207002, nI_clamp, inb_nI, nI_leI, nI_ltI, nI_eq, nI_z, nI_ge0, nI_lt0, nI_add, n00, n11, n01, n10, true_or, or_true, not_true_eq_false, not_false_eq_true, bI_0, bI_z, Nat.le_refl, Nat.lt_irrefl, Nat.reduceLT, Nat.reduceEqDiff, nI_gt0, nI_le0, en_207, lN_0]
theorem LM_lt : LM < -LG ∧ -LG ≤ (0 : Int64) ∧ (0 : Int64) ≤ LG ∧ -LG ≤ (1 : Int64) ∧ (1 : Int64) ≤ LG ∧ ¬ LG < 0 ∧ ¬ (0 : Int64) < -LG ∧ ¬ LG < 1 ∧ ¬ (1 : Int64) < -LG ∧ ¬ (1 : Int64) = LM ∧ ¬ (0 : Int64) = LM := by decide
def okv (v : Int64) : Prop := ¬ LG < v ∧ ¬ v < -LG
theorem okv_BD {v : Int64} : okv v ↔ BD v := by
  unfold okv BD
  rw [Int64.not_lt, Int64.not_lt]
  exact and_comm
theorem BD_LM {v : Int64} (h : BD v) : ¬ v = LM := fun e => by
  have := LM_lt.1
  rw [← e] at this
  exact Int64.lt_irrefl (Int64.lt_of_lt_of_le this h.1)
theorem bdd_ok {v : Int64} : (BD v → bdd v = v) ∧ (¬ BD v → bdd v = LM) := by
  unfold bdd BD
  refine ⟨fun h => ?_, fun h => ?_⟩
  · rw [if_neg (Int64.not_lt.mpr h.2), if_pos h.1]
  · by_cases q : LG < v
    · rw [if_pos q]
    · rw [if_neg q]
      by_cases q2 : -LG ≤ v
      · exact absurd ⟨q2, Int64.not_lt.mp q⟩ h
      · rw [if_neg q2]
theorem BD_i {p : Prop} {dp : Decidable p} : BD (i01 p dp) := by
  unfold i01 BD
  split
  · exact ⟨LM_lt.2.2.2.1, LM_lt.2.2.2.2.1⟩
  · exact ⟨LM_lt.2.1, LM_lt.2.2.1⟩
theorem LGi : LG.toInt = 1000000000000 ∧ (-LG).toInt = -1000000000000 ∧ LM.toInt = -9223372036854775808 := by decide
theorem BD_t {v : Int64} : BD v ↔ -1000000000000 ≤ v.toInt ∧ v.toInt ≤ 1000000000000 := by
  unfold BD
  rw [Int64.le_iff_toInt_le, Int64.le_iff_toInt_le, LGi.1, LGi.2.1]
theorem ab_t {v : Int64} (h : BD v) : (if 0 < v then v else -v).toInt = if 0 < v.toInt then v.toInt else -v.toInt := by
  have b := BD_t.mp h
  have h0 : (0 : Int64) < v ↔ 0 < v.toInt := by rw [Int64.lt_iff_toInt_lt, Int64.toInt_zero]
  by_cases q : 0 < v
  · rw [if_pos q, if_pos (h0.mp q)]
  · rw [if_neg q, if_neg (fun z => q (h0.mpr z)), Int64.toInt_neg]
    exact Int.bmod_eq_of_le (by omega) (by omega)
theorem iabl_e {v : Int64} : iabl v = if 0 < v then v else -v := by
  unfold iabl
  by_cases q : (0 : Int64) < v
  · rw [if_pos q, if_pos (Int64.le_of_lt q)]
  · rw [if_neg q]
    by_cases q2 : 0 ≤ v
    · have : v = 0 := Int64.le_antisymm (Int64.not_lt.mp q) q2
      rw [this]; rfl
    · rw [if_neg q2]
theorem div_t {a b : Int64} (ha : 0 ≤ a.toInt) (hb : 1 ≤ b.toInt) : (a / b).toInt = a.toInt / b.toInt := by
  have h1 := Int64.toInt_lt a
  rw [Int64.toInt_div, Int.tdiv_eq_ediv_of_nonneg ha]
  have h2 := Int.ediv_le_self (b := b.toInt) ha
  have h3 : 0 ≤ a.toInt / b.toInt := Int.ediv_nonneg ha (by omega)
  exact Int.bmod_eq_of_le (by omega) (by omega)
theorem div_BD {a b : Int64} (ha : BD a) (hb : ¬ b = 0) : BD (a / b) := by
  have h := BD_t.mp ha
  rw [BD_t]
  have h1 : (a.toInt.tdiv b.toInt).natAbs ≤ a.toInt.natAbs := by
    rw [Int.natAbs_tdiv]
    exact Nat.div_le_self _ _
  have h2 : (a / b).toInt = a.toInt.tdiv b.toInt := by
    rw [Int64.toInt_div]
    exact Int.bmod_eq_of_le (by omega) (by omega)
  rw [h2]
  omega
/-- a product that is looked at ahead -/
theorem prd_ok {a b : Int64} (ha : BD a) (hb : BD b) : (a = 0 → prd a b = 0 ∧ a * b = 0) ∧ (¬ a = 0 → ((LG / (if 0 < a then a else -a) < (if 0 < b then b else -b)) → prd a b = LM) ∧ (¬ (LG / (if 0 < a then a else -a) < (if 0 < b then b else -b)) → prd a b = a * b ∧ BD (a * b))) := by
  have tb := BD_t.mp hb
  have ta := BD_t.mp ha
  have h0 : ∀ v : Int64, v = 0 ↔ v.toInt = 0 := fun v => by rw [← Int64.toInt_inj, Int64.toInt_zero]
  refine ⟨fun e => ⟨by unfold prd; rw [if_pos e], by rw [e, Int64.zero_mul]⟩, fun e => ?_⟩
  have ea := ab_t ha
  have eb := ab_t hb
  have na : ¬ a.toInt = 0 := fun z => e ((h0 a).mpr z)
  have hA : 1 ≤ (if 0 < a then a else -a).toInt := by rw [ea]; split <;> omega
  have hA' : (if 0 < a then a else -a).toInt = a.toInt.natAbs := by rw [ea]; split <;> omega
  have hB' : (if 0 < b then b else -b).toInt = b.toInt.natAbs := by rw [eb]; split <;> omega
  have hd : (LG / (if 0 < a then a else -a)).toInt = 1000000000000 / (a.toInt.natAbs : Int) := by
    rw [div_t (by rw [LGi.1]; omega) hA, LGi.1, hA']
  refine ⟨fun q => ?_, fun q => ?_⟩
  · have q' := Int64.lt_iff_toInt_lt.mp q
    rw [hd, hB'] at q'
    unfold prd
    rw [if_neg e]
    have nb : ¬ b = 0 := fun z => by
      have := (h0 b).mp z
      have h3 : 0 ≤ (1000000000000 : Int) / (a.toInt.natAbs : Int) := Int.ediv_nonneg (by omega) (by omega)
      omega
    rw [if_neg nb, iabl_e, iabl_e, if_neg (fun z => Int64.not_lt.mpr z q)]
  · have q' : ¬ (LG / (if 0 < a then a else -a)).toInt < (if 0 < b then b else -b).toInt := fun z => q (Int64.lt_iff_toInt_lt.mpr z)
    rw [hd, hB'] at q'
    have pm : a.toInt.natAbs * b.toInt.natAbs ≤ 1000000000000 := by
      have h1 : (b.toInt.natAbs : Int) ≤ 1000000000000 / (a.toInt.natAbs : Int) := by omega
      have h2 := (Int.le_ediv_iff_mul_le (by omega)).mp h1
      have h3 : ((b.toInt.natAbs * a.toInt.natAbs : Nat) : Int) ≤ 1000000000000 := by rw [Int.natCast_mul]; exact h2
      rw [Nat.mul_comm]
      omega
    have pt : (a * b).toInt = a.toInt * b.toInt := by
      rw [Int64.toInt_mul]
      have : (a.toInt * b.toInt).natAbs ≤ 1000000000000 := by rw [Int.natAbs_mul]; exact pm
      exact Int.bmod_eq_of_le (by omega) (by omega)
    have bdp : BD (a * b) := by
      rw [BD_t, pt]
      have : (a.toInt * b.toInt).natAbs ≤ 1000000000000 := by rw [Int.natAbs_mul]; exact pm
      omega
    refine ⟨?_, bdp⟩
    unfold prd
    rw [if_neg e]
    by_cases zb : b = 0
    · rw [if_pos zb, zb, Int64.mul_zero]
    · rw [if_neg zb, iabl_e, iabl_e, if_pos (Int64.not_lt.mp q)]
