/-! The reference: screens taken away for a while. -/
theorem aw1 : ∀ b, b < 32 → ∀ s, s < 5 → ((nI b ^^^ -1) >>> (nI s &&& 31) &&& nI 1 = 0 ↔ b / 2 ^ s % 2 = 1) := by decide +kernel
theorem MX_55 {h : sr_H} {r b : Nat} {x : V} (w : Mdl h) (hb : b < 32) (hN : xN x ≤ 5) (m : MX h r x) : MX (sF h 141 55 (.int (nI b ^^^ -1))) r (vs x 0 3 b) := by
  obtain ⟨n, ms, mp, m1, m2, m3⟩ := m
  have e : ∀ a i, hI (sF h 141 55 (.int (nI b ^^^ -1))) a i = hI h a i := fun a i => hI_sF
  refine ⟨by simp only [e]; exact n, fun s hs => ?_, fun p hp => ?_, by rw [e]; exact m1, by rw [e]; exact m2, by rw [e]; exact m3⟩
  · have hs' : s < xN x := hs
    have := ms s hs'
    unfold MS at this ⊢
    rw [fI_y (fld_11_55 w).1.2, fI_n (by omega), fI_n (by omega), e, e, e, e, e, e, show xP (vs x 0 3 b) = b from vs_y]
    exact ⟨aw1 b hb s (by omega), this.2⟩
  · have := mp p hp
    unfold MP at this ⊢
    rw [e, e, e, e, e]
    exact this
set_option maxHeartbeats 4000000 in
set_option maxRecDepth 100000 in
theorem r_workersBy {d b : Nat} {h : sr_H} {Q : sr_T} {x : V} (w : Mdl h) (hx : Wr x) (m : MX h 0 x) (s0 : ST0 h) (hb : b < 32) (kk : ∀ h', FR h h' → fI h' 141 0 = fI h 141 0 → Q (some (.int (nI (wks (vs x 0 3 b))))) h') : sr_M (d + 14) 270 [.ref 141, .int (nI b)] h Q := by
  have hN := hx.1.2.2.1
  have m1 := MX_55 w hb hN m
  have s1 := SS_sF (h := h) (a := 141) (k := 55) (v := .int (nI b ^^^ -1)) (erI (fld_11_55 w).2)
  have w1 := w.ss s1
  have i1 := fun (Q : sr_T) => r_workers (d := d) (r := 0) (Q := Q) w1 (by omega) (Wr_P hx hb) m1
  have s2 := SS_sF (h := sF h 141 55 (.int (nI b ^^^ -1))) (a := 141) (k := 55) (v := .int (nI 0)) (erI (fld_11_55 w1).2)
  have z := kk (sF (sF h 141 55 (.int (nI b ^^^ -1))) 141 55 (.int (nI 0))) ⟨s1.tr s2, fun a ha => by rw [sF_ne (by omega), sF_ne (by omega)], fun j hj => ?_, fun _ _ _ _ _ => by rw [hI_sF, hI_sF], fun _ _ _ _ _ => by rw [hI_sF, hI_sF], fun _ _ _ _ _ => by rw [hI_sF, hI_sF]⟩ (by rw [fI_n (by omega), fI_n (by omega)])
  · simp (disch := first | assumption | omega | (simp (disch := assumption) only [sr_szn, sr_szi, sr_szr, sr_szl, Nat.reduceAdd, Nat.reduceLeDiff, Nat.zero_le, Nat.le_refl, isA_sI, isA_sJ, isA_sC, isA_sF, isI_sI, isI_sJ, isI_sC, isI_sF, isJ_sI, isJ_sJ, isJ_sC, isJ_sF, oK_sI, oK_sJ, oK_sC, oK_sF, lI_sI, lI_sJ, lI_sC, lI_sF, oC_sI, oC_sJ, oC_sC, oC_sF, obj_11, fld_11_55])) only [Nat.reduceAdd, Nat.reduceLeDiff, Nat.zero_le, true_and, and_true, ↓reduceIte, wB_const, wB_lconst, wB_ldc, wB_getstatic, wB_dupi, wB_dupr, wB_dup2, wB_popi, wB_iadd, wB_isub, wB_imul, wB_iand, wB_ior, wB_ixor, wB_ishl, wB_ishr, wB_iushr, wB_ineg, wB_ladd, wB_lsub, wB_lmul, wB_land, wB_lneg, wB_i2l, wB_l2i, wB_lcmp, wB_idiv, wB_irem, wB_ldiv, wB_lrem, wB_goto, wB_nop, wB_ifeq, wB_ifne, wB_iflt, wB_ifge, wB_ifgt, wB_ifle, wB_icmpeq, wB_icmpne, wB_icmplt, wB_icmpge, wB_icmpgt, wB_icmple, wB_table, wB_lookup, wB_ireturn, wB_zreturn, wB_lreturn, wB_areturn, wB_return, wB_getf, wB_putf, wB_iald, wB_bald, wB_lald, wB_iast, wB_bast, wB_last, wB_min, wB_max, wB_abs, wB_minl, wB_maxl, wB_absl, wB_obj, wB_copy, wB_charAt, wB_strlen, sr_k1i, sr_k1r, sr_k1U, sr_k1l, sr_ms1, sr_ms0, sr_msn, sr_cs1, sr_csm1, sr_csm2, sr_cl1, sr_cl2, sr_szi, sr_szr, sr_szl, sr_szn, sr_tls, sr_tln, wB_il0, wB_ll0, wB_al0, wB_is0, wB_as0, wB_inc0, wB_ls0, wB_il1, wB_ll1, wB_al1, wB_is1, wB_as1, wB_inc1, wB_ls1, wB_il2, wB_ll2, wB_al2, wB_is2, wB_as2, wB_inc2, wB_ls2, wB_il3, wB_ll3, wB_al3, wB_is3, wB_as3, wB_inc3, wB_ls3, wB_il4, wB_ll4, wB_al4, wB_is4, wB_as4, wB_inc4, wB_ls4, wB_il5, wB_ll5, wB_al5, wB_is5, wB_as5, wB_inc5, wB_ls5, wB_il6, wB_ll6, wB_al6, wB_is6, wB_as6, wB_inc6, wB_ls6, wB_il7, wB_ll7, wB_al7, wB_is7, wB_as7, wB_inc7, wB_ls7, cl_248, obj_11, fld_11_55, nI_clamp, inb_nI, nI_leI, nI_ltI, nI_eq, nI_z, nI_ge0, nI_lt0, nI_add, n00, n11, n01, n10, true_or, or_true, not_true_eq_false, not_false_eq_true, bI_0, bI_z, Nat.le_refl, Nat.lt_irrefl, Nat.reduceLT, Nat.reduceEqDiff, nI_gt0, nI_le0, en_270, w, w1, i1, sr_okI, lI_sI, lI_sJ, lI_sC, lI_sF, lZ_sI, lZ_sJ, lZ_sC, lZ_sF, lJ_sI, lJ_sJ, lJ_sC, lJ_sF, oC_sI, oC_sJ, oC_sC, oC_sF, oF_sI, oF_sJ, oF_sC, oF_sF, sI_1, sJ_1, sF_1, sC_1, sr_okI, sr_okJ, sr_okR, sr_okZ, hI_sJ, hI_sF, hJ_sI, hJ_sF, hJ_sC, hF_sI, hF_sJ, hF_sC, fI_sI, fI_sJ, fI_sC, fJ_sI, fJ_sJ, fJ_sC, hI_n, hI_y, hJ_n, hJ_y, hF_n, hF_y, fI_n, fI_y, fJ_n, fJ_y, hI_c]
    exact z
  · by_cases c : j = 55
    · subst c
      rw [fI_y (fld_11_55 w1).1.2, s0.1]
    · rw [fI_n (by omega), fI_n (by omega)]
