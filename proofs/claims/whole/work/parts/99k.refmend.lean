/-! The reference: a leaf is mended. -/
theorem md_0 : ∀ L, L < 5 → ∀ w, w < 16 → w < 2 ^ L → (∀ j, j < L → w / 2 ^ j % 2 = 1) → w = 2 ^ L - 1 := by decide +kernel
def mdP (L w j : Nat) : Bool := (List.range j).all (fun k => w / 2 ^ k % 2 == 1)
theorem mdP_ok {L w j : Nat} (h : ∀ k, k < j → w / 2 ^ k % 2 = 1) : mdP L w j = true := by
  unfold mdP
  rw [List.all_eq_true]
  intro k hk
  rw [h k (List.mem_range.mp hk)]
  rfl
def mdB (L w j : Nat) : Bool := !(decide (j < L) && decide (w < 2 ^ L) && decide (¬ w / 2 ^ j % 2 = 1) && mdP L w j) || (decide (¬ w = 2 ^ L - 1) && decide (w + 2 ^ j < 16) && decide (nI w ||| (nI (2 ^ L - 1) &&& (nI w ^^^ -1)) &&& -(nI (2 ^ L - 1) &&& (nI w ^^^ -1)) = nI (w + 2 ^ j)))
theorem md_2 : ∀ n, n < 320 → mdB (n / 64) (n / 4 % 16) (n % 4) = true := by decide +kernel
theorem md_1 {L w j : Nat} (h1 : L < 5) (h2 : w < 16) (h3 : j < L) (h4 : w < 2 ^ L) (h5 : ¬ w / 2 ^ j % 2 = 1) (h6 : ∀ k, k < j → w / 2 ^ k % 2 = 1) : (¬ w = 2 ^ L - 1 ∧ w + 2 ^ j < 16) ∧ nI w ||| (nI (2 ^ L - 1) &&& (nI w ^^^ -1)) &&& -(nI (2 ^ L - 1) &&& (nI w ^^^ -1)) = nI (w + 2 ^ j) := by
  have a := md_2 (64 * L + 4 * w + j) (by omega)
  rw [show (64 * L + 4 * w + j) / 64 = L by omega, show (64 * L + 4 * w + j) / 4 % 16 = w by omega, show (64 * L + 4 * w + j) % 4 = j by omega] at a
  unfold mdB at a
  rw [decide_eq_true h3, decide_eq_true h4, decide_eq_true h5, mdP_ok h6] at a
  simp only [Bool.and_self, Bool.not_true, Bool.false_or, Bool.and_eq_true, decide_eq_true_eq] at a
  exact a
set_option maxHeartbeats 4000000 in
set_option maxRecDepth 100000 in
theorem e_mend {d : Nat} {q y x xi g : V} {H : Nat → V} {h : sr_H} {Q : sr_T} {s : Int32} (m : MR h q y x xi H g) (v : SV q y x xi H g) (k0 : ¬ a_mendP x s → ∀ h', MK h' q y x xi H g → Q (some (.int (a_mend x s))) h') (k1 : a_mendP x s → ∀ h', MK h' (vs q 0 4 (hps (q 0 4) + 1)) y (vs x 6 s.toNatClampNeg (sW x s.toNatClampNeg + 2 ^ (fct x s.toNatClampNeg - 1))) xi (hsh H (q 0 4) x) g → Q (some (.int (a_mend x s))) h') : sr_M (d + 3) 257 [.ref 141, .int s] h Q := by
  classical
  have w := m.1
  have mk : MK (sF h 141 0 (.int (nI 0))) q y x xi H g := MR_0 v m
  have w0 := mk.1.1
  have mx := mk.1.2.2.2.1
  have hx := v.2.2.1.2.1
  have l := VW_l v.2.2.1
  have i1 := fun (Q : sr_T) => r_isScreen (d := d + 1) (v := s) (Q := Q) w0 hx.1 mx
  by_cases hs : inb s (xN x)
  case neg =>
    have z := k0 (fun a => hs a.1) _ mk
    have e : a_mend x s = -1 := if_neg hs
    rw [e] at z
    simp (disch := first | assumption | omega | (simp (disch := assumption) only [sr_szn, sr_szi, sr_szr, sr_szl, Nat.reduceAdd, Nat.reduceLeDiff, Nat.zero_le, Nat.le_refl, isA_sI, isA_sJ, isA_sC, isA_sF, isI_sI, isI_sJ, isI_sC, isI_sF, isJ_sI, isJ_sJ, isJ_sC, isJ_sF, oK_sI, oK_sJ, oK_sC, oK_sF, lI_sI, lI_sJ, lI_sC, lI_sF, oC_sI, oC_sJ, oC_sC, oC_sF, obj_11, fld_11_0, fld_11_8, arr_11_8, fld_11_48, arr_11_48])) only [Nat.reduceAdd, Nat.reduceLeDiff, Nat.zero_le, true_and, and_true, ↓reduceIte, wB_const, wB_lconst, wB_ldc, wB_getstatic, wB_dupi, wB_dupr, wB_dup2, wB_popi, wB_iadd, wB_isub, wB_imul, wB_iand, wB_ior, wB_ixor, wB_ishl, wB_ishr, wB_iushr, wB_ineg, wB_ladd, wB_lsub, wB_lmul, wB_land, wB_lneg, wB_i2l, wB_l2i, wB_lcmp, wB_idiv, wB_irem, wB_ldiv, wB_lrem, wB_goto, wB_nop, wB_ifeq, wB_ifne, wB_iflt, wB_ifge, wB_ifgt, wB_ifle, wB_icmpeq, wB_icmpne, wB_icmplt, wB_icmpge, wB_icmpgt, wB_icmple, wB_table, wB_lookup, wB_ireturn, wB_zreturn, wB_lreturn, wB_areturn, wB_return, wB_getf, wB_putf, wB_iald, wB_bald, wB_lald, wB_iast, wB_bast, wB_last, wB_min, wB_max, wB_abs, wB_minl, wB_maxl, wB_absl, wB_obj, wB_copy, wB_charAt, wB_strlen, sr_k1i, sr_k1r, sr_k1U, sr_k1l, sr_ms1, sr_ms0, sr_msn, sr_cs1, sr_csm1, sr_csm2, sr_cl1, sr_cl2, sr_szi, sr_szr, sr_szl, sr_szn, sr_tls, sr_tln, wB_il0, wB_ll0, wB_al0, wB_is0, wB_as0, wB_inc0, wB_ls0, wB_il1, wB_ll1, wB_al1, wB_is1, wB_as1, wB_inc1, wB_ls1, wB_il2, wB_ll2, wB_al2, wB_is2, wB_as2, wB_inc2, wB_ls2, wB_il3, wB_ll3, wB_al3, wB_is3, wB_as3, wB_inc3, wB_ls3, wB_il4, wB_ll4, wB_al4, wB_is4, wB_as4, wB_inc4, wB_ls4, wB_il5, wB_ll5, wB_al5, wB_is5, wB_as5, wB_inc5, wB_ls5, wB_il6, wB_ll6, wB_al6, wB_is6, wB_as6, wB_inc6, wB_ls6, wB_il7, wB_ll7, wB_al7, wB_is7, wB_as7, wB_inc7, wB_ls7, lb_257001, lb_257002, cl_214, cl_254, cl_217, obj_11, fld_11_0, fld_11_8, arr_11_8, fld_11_48, arr_11_48, nI_clamp, inb_nI, nI_leI, nI_ltI, nI_eq, nI_z, nI_ge0, nI_lt0, nI_add, n00, n11, n01, n10, true_or, or_true, not_true_eq_false, not_false_eq_true, bI_0, bI_z, Nat.le_refl, Nat.lt_irrefl, Nat.reduceLT, Nat.reduceEqDiff, nI_gt0, nI_le0, en_257, w, w0, i1, hs, lI_sI, lI_sJ, lI_sC, lI_sF, lZ_sI, lZ_sJ, lZ_sC, lZ_sF, lJ_sI, lJ_sJ, lJ_sC, lJ_sF, oC_sI, oC_sJ, oC_sC, oC_sF, oF_sI, oF_sJ, oF_sC, oF_sF, sI_1, sJ_1, sF_1, sC_1, sr_okI, sr_okJ, sr_okR, sr_okZ, hI_sJ, hI_sF, hJ_sI, hJ_sF, hJ_sC, hF_sI, hF_sJ, hF_sC, fI_sI, fI_sJ, fI_sC, fJ_sI, fJ_sJ, fJ_sC, hI_n, hI_y, hJ_n, hJ_y, hF_n, hF_y, fI_n, fI_y, fJ_n, fJ_y, hI_c]
    exact z
  obtain ⟨j, hj, rfl⟩ := nI_of hs.1
  have hj' := (inb_nI hj).mp hs
  rw [nI_clamp hj] at k1
  have ms := mx.2.1 j hj'
  have e6 := (MS0 ms).2.2.2
  have e3 := ms.2.2.1
  obtain ⟨b1, b2, b3, b4, b5, b6⟩ := hx.1.2.2.2.2 j hj'
  have cm := v.2.2.1.1
  have cs := cm.2.1 j (by rw [← cm.1.2.2.1]; exact hj')
  have hw : sW x j < 2 ^ sL x j := by rw [cs.2.1]; exact cs.2.2
  have ef := lf1 (sL x j) (by omega)
  have ea : a_mend x (nI j) = if fct x j = 0 then -2 else nI (ones (sW x j + 2 ^ (fct x j - 1))) := by
    unfold a_mend
    rw [if_pos hs, nI_clamp hj]
  rcases ff_sp (fun l => ¬ sW x j / 2 ^ l % 2 = 1) (sL x j) with ⟨f0, fa⟩ | ⟨i, f1, fi, fn, fb⟩
  · have ew := md_0 (sL x j) (by omega) (sW x j) b4 hw (fun k hk => by
      by_cases z : sW x j / 2 ^ k % 2 = 1
      · exact z
      · exact absurd z (fa k hk))
    have z := k0 (fun a => a.2 (by rw [nI_clamp hj]; exact f0)) _ mk
    rw [ea, if_pos (show fct x j = 0 from f0)] at z
    simp (disch := first | assumption | omega | (simp (disch := assumption) only [sr_szn, sr_szi, sr_szr, sr_szl, Nat.reduceAdd, Nat.reduceLeDiff, Nat.zero_le, Nat.le_refl, isA_sI, isA_sJ, isA_sC, isA_sF, isI_sI, isI_sJ, isI_sC, isI_sF, isJ_sI, isJ_sJ, isJ_sC, isJ_sF, oK_sI, oK_sJ, oK_sC, oK_sF, lI_sI, lI_sJ, lI_sC, lI_sF, oC_sI, oC_sJ, oC_sC, oC_sF, obj_11, fld_11_0, fld_11_8, arr_11_8, fld_11_48, arr_11_48])) only [Nat.reduceAdd, Nat.reduceLeDiff, Nat.zero_le, true_and, and_true, ↓reduceIte, wB_const, wB_lconst, wB_ldc, wB_getstatic, wB_dupi, wB_dupr, wB_dup2, wB_popi, wB_iadd, wB_isub, wB_imul, wB_iand, wB_ior, wB_ixor, wB_ishl, wB_ishr, wB_iushr, wB_ineg, wB_ladd, wB_lsub, wB_lmul, wB_land, wB_lneg, wB_i2l, wB_l2i, wB_lcmp, wB_idiv, wB_irem, wB_ldiv, wB_lrem, wB_goto, wB_nop, wB_ifeq, wB_ifne, wB_iflt, wB_ifge, wB_ifgt, wB_ifle, wB_icmpeq, wB_icmpne, wB_icmplt, wB_icmpge, wB_icmpgt, wB_icmple, wB_table, wB_lookup, wB_ireturn, wB_zreturn, wB_lreturn, wB_areturn, wB_return, wB_getf, wB_putf, wB_iald, wB_bald, wB_lald, wB_iast, wB_bast, wB_last, wB_min, wB_max, wB_abs, wB_minl, wB_maxl, wB_absl, wB_obj, wB_copy, wB_charAt, wB_strlen, sr_k1i, sr_k1r, sr_k1U, sr_k1l, sr_ms1, sr_ms0, sr_msn, sr_cs1, sr_csm1, sr_csm2, sr_cl1, sr_cl2, sr_szi, sr_szr, sr_szl, sr_szn, sr_tls, sr_tln, wB_il0, wB_ll0, wB_al0, wB_is0, wB_as0, wB_inc0, wB_ls0, wB_il1, wB_ll1, wB_al1, wB_is1, wB_as1, wB_inc1, wB_ls1, wB_il2, wB_ll2, wB_al2, wB_is2, wB_as2, wB_inc2, wB_ls2, wB_il3, wB_ll3, wB_al3, wB_is3, wB_as3, wB_inc3, wB_ls3, wB_il4, wB_ll4, wB_al4, wB_is4, wB_as4, wB_inc4, wB_ls4, wB_il5, wB_ll5, wB_al5, wB_is5, wB_as5, wB_inc5, wB_ls5, wB_il6, wB_ll6, wB_al6, wB_is6, wB_as6, wB_inc6, wB_ls6, wB_il7, wB_ll7, wB_al7, wB_is7, wB_as7, wB_inc7, wB_ls7, lb_257001, lb_257002, cl_214, cl_254, cl_217, obj_11, fld_11_0, fld_11_8, arr_11_8, fld_11_48, arr_11_48, nI_clamp, inb_nI, nI_leI, nI_ltI, nI_eq, nI_z, nI_ge0, nI_lt0, nI_add, n00, n11, n01, n10, true_or, or_true, not_true_eq_false, not_false_eq_true, bI_0, bI_z, Nat.le_refl, Nat.lt_irrefl, Nat.reduceLT, Nat.reduceEqDiff, nI_gt0, nI_le0, en_257, w, w0, i1, hj', show j < 10 by omega, show j < 115 by omega, e3, e6, ef, eq_true ew, lI_sI, lI_sJ, lI_sC, lI_sF, lZ_sI, lZ_sJ, lZ_sC, lZ_sF, lJ_sI, lJ_sJ, lJ_sC, lJ_sF, oC_sI, oC_sJ, oC_sC, oC_sF, oF_sI, oF_sJ, oF_sC, oF_sF, sI_1, sJ_1, sF_1, sC_1, sr_okI, sr_okJ, sr_okR, sr_okZ, hI_sJ, hI_sF, hJ_sI, hJ_sF, hJ_sC, hF_sI, hF_sJ, hF_sC, fI_sI, fI_sJ, fI_sC, fJ_sI, fJ_sJ, fJ_sC, hI_n, hI_y, hJ_n, hJ_y, hF_n, hF_y, fI_n, fI_y, fJ_n, fJ_y, hI_c]
    exact z
  · have f1' : fct x j = i + 1 := f1
    obtain ⟨⟨ne, lt⟩, eb⟩ := md_1 (L := sL x j) (w := sW x j) (j := i) (by omega) b4 fi hw fn (fun k hk => by
      by_cases z : sW x j / 2 ^ k % 2 = 1
      · exact z
      · exact absurd z (fb k hk))
    have kk := k1 ⟨hs, by rw [nI_clamp hj, f1']; omega⟩
    rw [ea, f1', if_neg (by omega), Nat.add_sub_cancel] at kk
    have p5 : 2 ^ sL x j - 1 < 2 ^ 31 := by
      have : 2 ^ sL x j ≤ 2 ^ 4 := Nat.pow_le_pow_right (by omega) (by omega)
      omega
    simp (disch := first | assumption | omega | (simp (disch := assumption) only [sr_szn, sr_szi, sr_szr, sr_szl, Nat.reduceAdd, Nat.reduceLeDiff, Nat.zero_le, Nat.le_refl, isA_sI, isA_sJ, isA_sC, isA_sF, isI_sI, isI_sJ, isI_sC, isI_sF, isJ_sI, isJ_sJ, isJ_sC, isJ_sF, oK_sI, oK_sJ, oK_sC, oK_sF, lI_sI, lI_sJ, lI_sC, lI_sF, oC_sI, oC_sJ, oC_sC, oC_sF, obj_11, fld_11_0, fld_11_8, arr_11_8, fld_11_48, arr_11_48])) only [Nat.reduceAdd, Nat.reduceLeDiff, Nat.zero_le, true_and, and_true, ↓reduceIte, wB_const, wB_lconst, wB_ldc, wB_getstatic, wB_dupi, wB_dupr, wB_dup2, wB_popi, wB_iadd, wB_isub, wB_imul, wB_iand, wB_ior, wB_ixor, wB_ishl, wB_ishr, wB_iushr, wB_ineg, wB_ladd, wB_lsub, wB_lmul, wB_land, wB_lneg, wB_i2l, wB_l2i, wB_lcmp, wB_idiv, wB_irem, wB_ldiv, wB_lrem, wB_goto, wB_nop, wB_ifeq, wB_ifne, wB_iflt, wB_ifge, wB_ifgt, wB_ifle, wB_icmpeq, wB_icmpne, wB_icmplt, wB_icmpge, wB_icmpgt, wB_icmple, wB_table, wB_lookup, wB_ireturn, wB_zreturn, wB_lreturn, wB_areturn, wB_return, wB_getf, wB_putf, wB_iald, wB_bald, wB_lald, wB_iast, wB_bast, wB_last, wB_min, wB_max, wB_abs, wB_minl, wB_maxl, wB_absl, wB_obj, wB_copy, wB_charAt, wB_strlen, sr_k1i, sr_k1r, sr_k1U, sr_k1l, sr_ms1, sr_ms0, sr_msn, sr_cs1, sr_csm1, sr_csm2, sr_cl1, sr_cl2, sr_szi, sr_szr, sr_szl, sr_szn, sr_tls, sr_tln, wB_il0, wB_ll0, wB_al0, wB_is0, wB_as0, wB_inc0, wB_ls0, wB_il1, wB_ll1, wB_al1, wB_is1, wB_as1, wB_inc1, wB_ls1, wB_il2, wB_ll2, wB_al2, wB_is2, wB_as2, wB_inc2, wB_ls2, wB_il3, wB_ll3, wB_al3, wB_is3, wB_as3, wB_inc3, wB_ls3, wB_il4, wB_ll4, wB_al4, wB_is4, wB_as4, wB_inc4, wB_ls4, wB_il5, wB_ll5, wB_al5, wB_is5, wB_as5, wB_inc5, wB_ls5, wB_il6, wB_ll6, wB_al6, wB_is6, wB_as6, wB_inc6, wB_ls6, wB_il7, wB_ll7, wB_al7, wB_is7, wB_as7, wB_inc7, wB_ls7, lb_257001, lb_257002, cl_214, cl_254, cl_217, obj_11, fld_11_0, fld_11_8, arr_11_8, fld_11_48, arr_11_48, nI_clamp, inb_nI, nI_leI, nI_ltI, nI_eq, nI_z, nI_ge0, nI_lt0, nI_add, n00, n11, n01, n10, true_or, or_true, not_true_eq_false, not_false_eq_true, bI_0, bI_z, Nat.le_refl, Nat.lt_irrefl, Nat.reduceLT, Nat.reduceEqDiff, nI_gt0, nI_le0, en_257, w, w0, i1, hj', show j < 10 by omega, show j < 115 by omega, e3, e6, ef, ne, lI_sI, lI_sJ, lI_sC, lI_sF, lZ_sI, lZ_sJ, lZ_sC, lZ_sF, lJ_sI, lJ_sJ, lJ_sC, lJ_sF, oC_sI, oC_sJ, oC_sC, oC_sF, oF_sI, oF_sJ, oF_sC, oF_sF, sI_1, sJ_1, sF_1, sC_1, sr_okI, sr_okJ, sr_okR, sr_okZ, hI_sJ, hI_sF, hJ_sI, hJ_sF, hJ_sC, hF_sI, hF_sJ, hF_sC, fI_sI, fI_sJ, fI_sC, fJ_sI, fJ_sJ, fJ_sC, hI_n, hI_y, hJ_n, hJ_y, hF_n, hF_y, fI_n, fI_y, fJ_n, fJ_y, hI_c]
    refine r_keepNow (d := d) w0 v.1.2.2.2.2.2 mk.1.2.2.2.2.2.1 (fun k hk => VW_l (v.2.2.2.2.1 k hk)) mx l (fun h3 f3 mh3 => ?_)
    have w3 := w0.ss f3.1
    have m3 := MX_FK f3 (by omega) l.1 l.2 mx
    have e63 := (MS0 (m3.2.1 j hj')).2.2.2
    have m6 := MX_6 (r := 0) (s := j) (v := sW x j + 2 ^ i) w3 l.1 m3 hj'
    rw [Nat.mul_zero, Nat.zero_add] at m6
    have f6 : FM 0 h3 (sI h3 174 j (nI (sW x j + 2 ^ i))) := FM_sI (by omega)
    have w6 := w3.ss f6.1
    have g6 : hI (sI h3 174 j (nI (sW x j + 2 ^ i))) 174 j = nI (sW x j + 2 ^ i) := hI_y (arr_11_48 w3).2.1
    have ib := fun (Q : sr_T) => r_bitsOf (d := d + 1) (n := sW x j + 2 ^ i) (h := sI h3 174 j (nI (sW x j + 2 ^ i))) (Q := Q) (by omega)
    have fin := kk _ (MK_FC (f3.fc.tr (f6.fc (by omega))) v mk m6 ⟨by rw [f6.2.2.1 54 (by omega)]; exact mh3.1, fun k hk => MX_o f6 (by omega) (l_hsh v k hk).1 (l_hsh v k hk).2 (mh3.2 k hk)⟩)
    simp (disch := first | assumption | omega | (simp (disch := assumption) only [sr_szn, sr_szi, sr_szr, sr_szl, Nat.reduceAdd, Nat.reduceLeDiff, Nat.zero_le, Nat.le_refl, isA_sI, isA_sJ, isA_sC, isA_sF, isI_sI, isI_sJ, isI_sC, isI_sF, isJ_sI, isJ_sJ, isJ_sC, isJ_sF, oK_sI, oK_sJ, oK_sC, oK_sF, lI_sI, lI_sJ, lI_sC, lI_sF, oC_sI, oC_sJ, oC_sC, oC_sF, obj_11, fld_11_0, fld_11_8, arr_11_8, fld_11_48, arr_11_48])) only [Nat.reduceAdd, Nat.reduceLeDiff, Nat.zero_le, true_and, and_true, ↓reduceIte, wB_const, wB_lconst, wB_ldc, wB_getstatic, wB_dupi, wB_dupr, wB_dup2, wB_popi, wB_iadd, wB_isub, wB_imul, wB_iand, wB_ior, wB_ixor, wB_ishl, wB_ishr, wB_iushr, wB_ineg, wB_ladd, wB_lsub, wB_lmul, wB_land, wB_lneg, wB_i2l, wB_l2i, wB_lcmp, wB_idiv, wB_irem, wB_ldiv, wB_lrem, wB_goto, wB_nop, wB_ifeq, wB_ifne, wB_iflt, wB_ifge, wB_ifgt, wB_ifle, wB_icmpeq, wB_icmpne, wB_icmplt, wB_icmpge, wB_icmpgt, wB_icmple, wB_table, wB_lookup, wB_ireturn, wB_zreturn, wB_lreturn, wB_areturn, wB_return, wB_getf, wB_putf, wB_iald, wB_bald, wB_lald, wB_iast, wB_bast, wB_last, wB_min, wB_max, wB_abs, wB_minl, wB_maxl, wB_absl, wB_obj, wB_copy, wB_charAt, wB_strlen, sr_k1i, sr_k1r, sr_k1U, sr_k1l, sr_ms1, sr_ms0, sr_msn, sr_cs1, sr_csm1, sr_csm2, sr_cl1, sr_cl2, sr_szi, sr_szr, sr_szl, sr_szn, sr_tls, sr_tln, wB_il0, wB_ll0, wB_al0, wB_is0, wB_as0, wB_inc0, wB_ls0, wB_il1, wB_ll1, wB_al1, wB_is1, wB_as1, wB_inc1, wB_ls1, wB_il2, wB_ll2, wB_al2, wB_is2, wB_as2, wB_inc2, wB_ls2, wB_il3, wB_ll3, wB_al3, wB_is3, wB_as3, wB_inc3, wB_ls3, wB_il4, wB_ll4, wB_al4, wB_is4, wB_as4, wB_inc4, wB_ls4, wB_il5, wB_ll5, wB_al5, wB_is5, wB_as5, wB_inc5, wB_ls5, wB_il6, wB_ll6, wB_al6, wB_is6, wB_as6, wB_inc6, wB_ls6, wB_il7, wB_ll7, wB_al7, wB_is7, wB_as7, wB_inc7, wB_ls7, lb_257001, lb_257002, cl_214, cl_254, cl_217, obj_11, fld_11_0, fld_11_8, arr_11_8, fld_11_48, arr_11_48, nI_clamp, inb_nI, nI_leI, nI_ltI, nI_eq, nI_z, nI_ge0, nI_lt0, nI_add, n00, n11, n01, n10, true_or, or_true, not_true_eq_false, not_false_eq_true, bI_0, bI_z, Nat.le_refl, Nat.lt_irrefl, Nat.reduceLT, Nat.reduceEqDiff, nI_gt0, nI_le0, w3, show j < 115 by omega, e63, eb, w6, g6, ib, lI_sI, lI_sJ, lI_sC, lI_sF, lZ_sI, lZ_sJ, lZ_sC, lZ_sF, lJ_sI, lJ_sJ, lJ_sC, lJ_sF, oC_sI, oC_sJ, oC_sC, oC_sF, oF_sI, oF_sJ, oF_sC, oF_sF, sI_1, sJ_1, sF_1, sC_1, sr_okI, sr_okJ, sr_okR, sr_okZ, hI_sJ, hI_sF, hJ_sI, hJ_sF, hJ_sC, hF_sI, hF_sJ, hF_sC, fI_sI, fI_sJ, fI_sC, fJ_sI, fJ_sJ, fJ_sC, hI_n, hI_y, hJ_n, hJ_y, hF_n, hF_y, fI_n, fI_y, fJ_n, fJ_y, hI_c]
    exact fin
