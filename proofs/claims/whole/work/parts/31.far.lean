/-! Screens: how far, which is nearest. -/
set_option maxHeartbeats 2000000 in
set_option maxRecDepth 100000 in
theorem m_isCell {d B : Nat} {h : sr_H} {r c : Int32} {Q : sr_T} (w : Scr h B) : sr_M (d + 1) 92 [.ref B, .int r, .int c] h Q ↔ Q (some (.int (bI (¬ r < 0 ∧ ¬ fI h B 0 ≤ r ∧ ¬ c < 0 ∧ ¬ fI h B 1 ≤ c) inferInstance))) h := by
  simp only [en_92, Nat.reduceAdd, Nat.reduceLeDiff, Nat.zero_le, true_and, and_true, ↓reduceIte, wB_const, wB_lconst, wB_ldc, wB_getstatic, wB_dupi, wB_dupr, wB_dup2, wB_popi, wB_iadd, wB_isub, wB_imul, wB_iand, wB_ior, wB_ixor, wB_ishl, wB_ishr, wB_iushr, wB_ineg, wB_ladd, wB_lsub, wB_lmul, wB_land, wB_lneg, wB_i2l, wB_l2i, wB_lcmp, wB_idiv, wB_irem, wB_ldiv, wB_lrem, wB_goto, wB_nop, wB_ifeq, wB_ifne, wB_iflt, wB_ifge, wB_ifgt, wB_ifle, wB_icmpeq, wB_icmpne, wB_icmplt, wB_icmpge, wB_icmpgt, wB_icmple, wB_table, wB_lookup, wB_ireturn, wB_zreturn, wB_lreturn, wB_areturn, wB_return, wB_getf, wB_putf, wB_iald, wB_bald, wB_lald, wB_iast, wB_bast, wB_last, wB_min, wB_max, wB_abs, wB_minl, wB_maxl, wB_absl, wB_obj, wB_copy, wB_charAt, wB_strlen, sr_k1i, sr_k1r, sr_k1U, sr_k1l, sr_ms1, sr_ms0, sr_msn, sr_cs1, sr_csm1, sr_csm2, sr_cl1, sr_cl2, sr_szi, sr_szr, sr_szl, sr_szn, sr_tls, sr_tln, wB_il0, wB_ll0, wB_al0, wB_is0, wB_as0, wB_inc0, wB_ls0, wB_il1, wB_ll1, wB_al1, wB_is1, wB_as1, wB_inc1, wB_ls1, wB_il2, wB_ll2, wB_al2, wB_is2, wB_as2, wB_inc2, wB_ls2, wB_il3, wB_ll3, wB_al3, wB_is3, wB_as3, wB_inc3, wB_ls3, wB_il4, wB_ll4, wB_al4, wB_is4, wB_as4, wB_inc4, wB_ls4, wB_il5, wB_ll5, wB_al5, wB_is5, wB_as5, wB_inc5, wB_ls5, wB_il6, wB_ll6, wB_al6, wB_is6, wB_as6, wB_inc6, wB_ls6, wB_il7, wB_ll7, wB_al7, wB_is7, wB_as7, wB_inc7, wB_ls7, lb_92001, lb_92002, fld_6_0, fld_6_1, w]
  by_cases h1 : r < 0 <;> by_cases h2 : fI h B 0 ≤ r <;> by_cases h3 : c < 0 <;> by_cases h4 : fI h B 1 ≤ c <;> simp [h1, h2, h3, h4, bI, n00, n11, nI_0, show nI 1 = 1 from rfl]
def iab (v : Int32) : Int32 := if 0 ≤ v then v else -v
theorem dst_le (a b : Nat) : dst a b ≤ a + b := by unfold dst; omega
theorem iab_nI {a b : Nat} (ha : a < 2 ^ 30) (hb : b < 2 ^ 30) : iab (nI a - nI b) = nI (dst a b) := by
  unfold iab dst
  by_cases h : b ≤ a
  · rw [if_pos ((nI_dge ha hb).mpr h), pk_sub h]
    congr 1
    omega
  · rw [if_neg (fun q => h ((nI_dge ha hb).mp q)), nI_dneg (by omega)]
    congr 1
    omega
theorem lfD_lt {x : V} {s r c l : Nat} (hr : r < 64) (hc : c < 64) (h1 : sR x s < 8) (h2 : sK x s < 8) (h3 : l < 4) : lfD x s r c l < 1000 := by
  have e1 := dst_le r (lfR x s l)
  have e2 := dst_le c (lfC x s l)
  have e3 : lfR x s l ≤ sR x s + l := by unfold lfR; split <;> omega
  have e4 : lfC x s l ≤ sK x s + l := by unfold lfC; split <;> omega
  unfold lfD
  omega
theorem far_st {x : V} {s r c l : Nat} (hb : sW x s / 2 ^ l % 2 = 1) : (if farN x s r c l ≤ lfD x s r c l then nI (farN x s r c l) else nI (lfD x s r c l)) = nI (farN x s r c (l + 1)) := by
  simp only [farN, hb, true_and]
  by_cases h : farN x s r c l ≤ lfD x s r c l
  · rw [if_pos h, if_neg (by omega)]
  · rw [if_neg h, if_pos (by omega)]
theorem far_7 {d S : Nat} {h : sr_H} {Q : sr_T} {v1 v2 v3 least leaf a b : Int32} {u6 u7 u8 : Value} : sr_W d 98007 [.ref S, .int v1, .int v2, .int v3, .int least, .int leaf, u6, u7, u8] [.int b, .int a] h Q ↔ sr_W d 98001 [.ref S, .int v1, .int v2, .int v3, .int (if least ≤ a + b then least else a + b), .int (leaf + nI 1), sr_U, sr_U, sr_U] [] h Q := by
  rw [lb_98007]
  by_cases h1 : least ≤ a + b
  all_goals simp only [Nat.reduceAdd, Nat.reduceLeDiff, Nat.zero_le, true_and, and_true, ↓reduceIte, wB_const, wB_lconst, wB_ldc, wB_getstatic, wB_dupi, wB_dupr, wB_dup2, wB_popi, wB_iadd, wB_isub, wB_imul, wB_iand, wB_ior, wB_ixor, wB_ishl, wB_ishr, wB_iushr, wB_ineg, wB_ladd, wB_lsub, wB_lmul, wB_land, wB_lneg, wB_i2l, wB_l2i, wB_lcmp, wB_idiv, wB_irem, wB_ldiv, wB_lrem, wB_goto, wB_nop, wB_ifeq, wB_ifne, wB_iflt, wB_ifge, wB_ifgt, wB_ifle, wB_icmpeq, wB_icmpne, wB_icmplt, wB_icmpge, wB_icmpgt, wB_icmple, wB_table, wB_lookup, wB_ireturn, wB_zreturn, wB_lreturn, wB_areturn, wB_return, wB_getf, wB_putf, wB_iald, wB_bald, wB_lald, wB_iast, wB_bast, wB_last, wB_min, wB_max, wB_abs, wB_minl, wB_maxl, wB_absl, wB_obj, wB_copy, wB_charAt, wB_strlen, sr_k1i, sr_k1r, sr_k1U, sr_k1l, sr_ms1, sr_ms0, sr_msn, sr_cs1, sr_csm1, sr_csm2, sr_cl1, sr_cl2, sr_szi, sr_szr, sr_szl, sr_szn, sr_tls, sr_tln, wB_il0, wB_ll0, wB_al0, wB_is0, wB_as0, wB_inc0, wB_ls0, wB_il1, wB_ll1, wB_al1, wB_is1, wB_as1, wB_inc1, wB_ls1, wB_il2, wB_ll2, wB_al2, wB_is2, wB_as2, wB_inc2, wB_ls2, wB_il3, wB_ll3, wB_al3, wB_is3, wB_as3, wB_inc3, wB_ls3, wB_il4, wB_ll4, wB_al4, wB_is4, wB_as4, wB_inc4, wB_ls4, wB_il5, wB_ll5, wB_al5, wB_is5, wB_as5, wB_inc5, wB_ls5, wB_il6, wB_ll6, wB_al6, wB_is6, wB_as6, wB_inc6, wB_ls6, wB_il7, wB_ll7, wB_al7, wB_is7, wB_as7, wB_inc7, wB_ls7, wB_il8, wB_ll8, wB_al8, wB_is8, wB_as8, wB_inc8, wB_ls8, wB_il9, wB_ll9, wB_al9, wB_is9, wB_as9, wB_inc9, wB_ls9, wB_il10, wB_ll10, wB_al10, wB_is10, wB_as10, wB_inc10, wB_ls10, wB_il11, wB_ll11, wB_al11, wB_is11, wB_as11, wB_inc11, wB_ls11, wB_il12, wB_ll12, wB_al12, wB_is12, wB_as12, wB_inc12, wB_ls12, wB_il13, wB_ll13, wB_al13, wB_is13, wB_as13, wB_inc13, wB_ls13, wB_il14, wB_ll14, wB_al14, wB_is14, wB_as14, wB_inc14, wB_ls14, wB_il15, wB_ll15, wB_al15, wB_is15, wB_as15, wB_inc15, lb_98002, lb_98003, lb_98004, lb_98005, lb_98006, lb_98008, lb_98009, fld_6_8, arr_6_8, fld_6_10, arr_6_10, fld_6_6, arr_6_6, fld_6_7, arr_6_7, fld_6_9, arr_6_9, h1, lb_98001]
theorem far_3 {d S : Nat} {h : sr_H} {Q : sr_T} {v1 v2 v3 least leaf a b : Int32} {u8 : Value} : sr_W d 98003 [.ref S, .int v1, .int v2, .int v3, .int least, .int leaf, .int a, .int b, u8] [] h Q ↔ sr_W d 98001 [.ref S, .int v1, .int v2, .int v3, .int (if least ≤ iab a + iab b then least else iab a + iab b), .int (leaf + nI 1), sr_U, sr_U, sr_U] [] h Q := by
  rw [lb_98003]
  by_cases h1 : 0 ≤ a <;> by_cases h2 : 0 ≤ b
  all_goals simp only [Nat.reduceAdd, Nat.reduceLeDiff, Nat.zero_le, true_and, and_true, ↓reduceIte, wB_const, wB_lconst, wB_ldc, wB_getstatic, wB_dupi, wB_dupr, wB_dup2, wB_popi, wB_iadd, wB_isub, wB_imul, wB_iand, wB_ior, wB_ixor, wB_ishl, wB_ishr, wB_iushr, wB_ineg, wB_ladd, wB_lsub, wB_lmul, wB_land, wB_lneg, wB_i2l, wB_l2i, wB_lcmp, wB_idiv, wB_irem, wB_ldiv, wB_lrem, wB_goto, wB_nop, wB_ifeq, wB_ifne, wB_iflt, wB_ifge, wB_ifgt, wB_ifle, wB_icmpeq, wB_icmpne, wB_icmplt, wB_icmpge, wB_icmpgt, wB_icmple, wB_table, wB_lookup, wB_ireturn, wB_zreturn, wB_lreturn, wB_areturn, wB_return, wB_getf, wB_putf, wB_iald, wB_bald, wB_lald, wB_iast, wB_bast, wB_last, wB_min, wB_max, wB_abs, wB_minl, wB_maxl, wB_absl, wB_obj, wB_copy, wB_charAt, wB_strlen, sr_k1i, sr_k1r, sr_k1U, sr_k1l, sr_ms1, sr_ms0, sr_msn, sr_cs1, sr_csm1, sr_csm2, sr_cl1, sr_cl2, sr_szi, sr_szr, sr_szl, sr_szn, sr_tls, sr_tln, wB_il0, wB_ll0, wB_al0, wB_is0, wB_as0, wB_inc0, wB_ls0, wB_il1, wB_ll1, wB_al1, wB_is1, wB_as1, wB_inc1, wB_ls1, wB_il2, wB_ll2, wB_al2, wB_is2, wB_as2, wB_inc2, wB_ls2, wB_il3, wB_ll3, wB_al3, wB_is3, wB_as3, wB_inc3, wB_ls3, wB_il4, wB_ll4, wB_al4, wB_is4, wB_as4, wB_inc4, wB_ls4, wB_il5, wB_ll5, wB_al5, wB_is5, wB_as5, wB_inc5, wB_ls5, wB_il6, wB_ll6, wB_al6, wB_is6, wB_as6, wB_inc6, wB_ls6, wB_il7, wB_ll7, wB_al7, wB_is7, wB_as7, wB_inc7, wB_ls7, wB_il8, wB_ll8, wB_al8, wB_is8, wB_as8, wB_inc8, wB_ls8, wB_il9, wB_ll9, wB_al9, wB_is9, wB_as9, wB_inc9, wB_ls9, wB_il10, wB_ll10, wB_al10, wB_is10, wB_as10, wB_inc10, wB_ls10, wB_il11, wB_ll11, wB_al11, wB_is11, wB_as11, wB_inc11, wB_ls11, wB_il12, wB_ll12, wB_al12, wB_is12, wB_as12, wB_inc12, wB_ls12, wB_il13, wB_ll13, wB_al13, wB_is13, wB_as13, wB_inc13, wB_ls13, wB_il14, wB_ll14, wB_al14, wB_is14, wB_as14, wB_inc14, wB_ls14, wB_il15, wB_ll15, wB_al15, wB_is15, wB_as15, wB_inc15, lb_98002, lb_98003, lb_98004, lb_98005, lb_98006, lb_98008, lb_98009, fld_6_8, arr_6_8, fld_6_10, arr_6_10, fld_6_6, arr_6_6, fld_6_7, arr_6_7, fld_6_9, arr_6_9, far_7, iab, h1, h2]
set_option maxHeartbeats 4000000 in
set_option maxRecDepth 100000 in
theorem far_loop {d S s r c : Nat} {h : sr_H} {Q : sr_T} {x : V} (w : Scr h S) (hx : Wx x) (rp : SC h S x) (hs : s < xN x) (hr : r < 64) (hc : c < 64) : ∀ (n l : Nat), n + l = sL x s → (sr_W d 98001 [.ref S, .int (nI s), .int (nI r), .int (nI c), .int (nI (farN x s r c l)), .int (nI l), sr_U, sr_U, sr_U] [] h Q ↔ Q (some (.int (nI (far x s r c)))) h) := by
  obtain ⟨-, -, hN, -, hxs⟩ := hx
  obtain ⟨h1, h2, h3, h4, h5, h6⟩ := hxs s hs
  obtain ⟨-, -, -, -, hrp⟩ := rp
  obtain ⟨e1, e2, e3, e4, e5, e6⟩ := hrp s hs
  have hfb : ∀ l, farN x s r c l ≤ 1000 := by
    intro l
    induction l with
    | zero => exact Nat.le_refl _
    | succ l ih =>
      unfold farN
      split
      · omega
      · exact ih
  intro n
  induction n with
  | zero =>
    intro l hl
    have hll : l = sL x s := by omega
    subst hll
    rw [lb_98001]
    have hs5 : s < 5 := by omega
    simp (disch := first | assumption | omega) only [Nat.reduceAdd, Nat.reduceLeDiff, Nat.zero_le, true_and, and_true, ↓reduceIte, wB_const, wB_lconst, wB_ldc, wB_getstatic, wB_dupi, wB_dupr, wB_dup2, wB_popi, wB_iadd, wB_isub, wB_imul, wB_iand, wB_ior, wB_ixor, wB_ishl, wB_ishr, wB_iushr, wB_ineg, wB_ladd, wB_lsub, wB_lmul, wB_land, wB_lneg, wB_i2l, wB_l2i, wB_lcmp, wB_idiv, wB_irem, wB_ldiv, wB_lrem, wB_goto, wB_nop, wB_ifeq, wB_ifne, wB_iflt, wB_ifge, wB_ifgt, wB_ifle, wB_icmpeq, wB_icmpne, wB_icmplt, wB_icmpge, wB_icmpgt, wB_icmple, wB_table, wB_lookup, wB_ireturn, wB_zreturn, wB_lreturn, wB_areturn, wB_return, wB_getf, wB_putf, wB_iald, wB_bald, wB_lald, wB_iast, wB_bast, wB_last, wB_min, wB_max, wB_abs, wB_minl, wB_maxl, wB_absl, wB_obj, wB_copy, wB_charAt, wB_strlen, sr_k1i, sr_k1r, sr_k1U, sr_k1l, sr_ms1, sr_ms0, sr_msn, sr_cs1, sr_csm1, sr_csm2, sr_cl1, sr_cl2, sr_szi, sr_szr, sr_szl, sr_szn, sr_tls, sr_tln, wB_il0, wB_ll0, wB_al0, wB_is0, wB_as0, wB_inc0, wB_ls0, wB_il1, wB_ll1, wB_al1, wB_is1, wB_as1, wB_inc1, wB_ls1, wB_il2, wB_ll2, wB_al2, wB_is2, wB_as2, wB_inc2, wB_ls2, wB_il3, wB_ll3, wB_al3, wB_is3, wB_as3, wB_inc3, wB_ls3, wB_il4, wB_ll4, wB_al4, wB_is4, wB_as4, wB_inc4, wB_ls4, wB_il5, wB_ll5, wB_al5, wB_is5, wB_as5, wB_inc5, wB_ls5, wB_il6, wB_ll6, wB_al6, wB_is6, wB_as6, wB_inc6, wB_ls6, wB_il7, wB_ll7, wB_al7, wB_is7, wB_as7, wB_inc7, wB_ls7, wB_il8, wB_ll8, wB_al8, wB_is8, wB_as8, wB_inc8, wB_ls8, wB_il9, wB_ll9, wB_al9, wB_is9, wB_as9, wB_inc9, wB_ls9, wB_il10, wB_ll10, wB_al10, wB_is10, wB_as10, wB_inc10, wB_ls10, wB_il11, wB_ll11, wB_al11, wB_is11, wB_as11, wB_inc11, wB_ls11, wB_il12, wB_ll12, wB_al12, wB_is12, wB_as12, wB_inc12, wB_ls12, wB_il13, wB_ll13, wB_al13, wB_is13, wB_as13, wB_inc13, wB_ls13, wB_il14, wB_ll14, wB_al14, wB_is14, wB_as14, wB_inc14, wB_ls14, wB_il15, wB_ll15, wB_al15, wB_is15, wB_as15, wB_inc15, lb_98002, lb_98004, lb_98005, lb_98006, lb_98007, lb_98008, lb_98009, fld_6_8, arr_6_8, fld_6_10, arr_6_10, fld_6_6, arr_6_6, fld_6_7, arr_6_7, fld_6_9, arr_6_9, w, nI_clamp, inb_nI, e4, nI_leI, Nat.le_refl, far, hs5]
  | succ n ih =>
    intro l hl
    have hfl := hfb l
    have hs5 : s < 5 := by omega
    have hlt : ¬ sL x s ≤ l := by omega
    have hl4 : l < 4 := by omega
    rw [lb_98001]
    by_cases hb : sW x s / 2 ^ l % 2 = 1
    · by_cases hd : sD x s = 1
      · simp (disch := first | assumption | omega) only [Nat.reduceAdd, Nat.reduceLeDiff, Nat.zero_le, true_and, and_true, ↓reduceIte, wB_const, wB_lconst, wB_ldc, wB_getstatic, wB_dupi, wB_dupr, wB_dup2, wB_popi, wB_iadd, wB_isub, wB_imul, wB_iand, wB_ior, wB_ixor, wB_ishl, wB_ishr, wB_iushr, wB_ineg, wB_ladd, wB_lsub, wB_lmul, wB_land, wB_lneg, wB_i2l, wB_l2i, wB_lcmp, wB_idiv, wB_irem, wB_ldiv, wB_lrem, wB_goto, wB_nop, wB_ifeq, wB_ifne, wB_iflt, wB_ifge, wB_ifgt, wB_ifle, wB_icmpeq, wB_icmpne, wB_icmplt, wB_icmpge, wB_icmpgt, wB_icmple, wB_table, wB_lookup, wB_ireturn, wB_zreturn, wB_lreturn, wB_areturn, wB_return, wB_getf, wB_putf, wB_iald, wB_bald, wB_lald, wB_iast, wB_bast, wB_last, wB_min, wB_max, wB_abs, wB_minl, wB_maxl, wB_absl, wB_obj, wB_copy, wB_charAt, wB_strlen, sr_k1i, sr_k1r, sr_k1U, sr_k1l, sr_ms1, sr_ms0, sr_msn, sr_cs1, sr_csm1, sr_csm2, sr_cl1, sr_cl2, sr_szi, sr_szr, sr_szl, sr_szn, sr_tls, sr_tln, wB_il0, wB_ll0, wB_al0, wB_is0, wB_as0, wB_inc0, wB_ls0, wB_il1, wB_ll1, wB_al1, wB_is1, wB_as1, wB_inc1, wB_ls1, wB_il2, wB_ll2, wB_al2, wB_is2, wB_as2, wB_inc2, wB_ls2, wB_il3, wB_ll3, wB_al3, wB_is3, wB_as3, wB_inc3, wB_ls3, wB_il4, wB_ll4, wB_al4, wB_is4, wB_as4, wB_inc4, wB_ls4, wB_il5, wB_ll5, wB_al5, wB_is5, wB_as5, wB_inc5, wB_ls5, wB_il6, wB_ll6, wB_al6, wB_is6, wB_as6, wB_inc6, wB_ls6, wB_il7, wB_ll7, wB_al7, wB_is7, wB_as7, wB_inc7, wB_ls7, wB_il8, wB_ll8, wB_al8, wB_is8, wB_as8, wB_inc8, wB_ls8, wB_il9, wB_ll9, wB_al9, wB_is9, wB_as9, wB_inc9, wB_ls9, wB_il10, wB_ll10, wB_al10, wB_is10, wB_as10, wB_inc10, wB_ls10, wB_il11, wB_ll11, wB_al11, wB_is11, wB_as11, wB_inc11, wB_ls11, wB_il12, wB_ll12, wB_al12, wB_is12, wB_as12, wB_inc12, wB_ls12, wB_il13, wB_ll13, wB_al13, wB_is13, wB_as13, wB_inc13, wB_ls13, wB_il14, wB_ll14, wB_al14, wB_is14, wB_as14, wB_inc14, wB_ls14, wB_il15, wB_ll15, wB_al15, wB_is15, wB_as15, wB_inc15, lb_98002, lb_98004, lb_98005, lb_98006, lb_98007, lb_98008, lb_98009, fld_6_8, arr_6_8, fld_6_10, arr_6_10, fld_6_6, arr_6_6, fld_6_7, arr_6_7, fld_6_9, arr_6_9, w, far_3, nI_clamp, inb_nI, e2, e3, e4, e5, e6, nI_leI, nI_bit, nI_sub2, nI_eq, hs5, hlt, hb, hd]
        have hD : dst r (sR x s + l) + dst c (sK x s) = lfD x s r c l := by simp [lfD, lfR, lfC, hd]
        have hDl := lfD_lt (l := l) hr hc h5 h6 hl4
        simp (disch := first | assumption | omega) only [iab_nI, nI_add, hD, nI_leI, far_st hb]
        exact ih (l + 1) (by omega)
      · simp (disch := first | assumption | omega) only [Nat.reduceAdd, Nat.reduceLeDiff, Nat.zero_le, true_and, and_true, ↓reduceIte, wB_const, wB_lconst, wB_ldc, wB_getstatic, wB_dupi, wB_dupr, wB_dup2, wB_popi, wB_iadd, wB_isub, wB_imul, wB_iand, wB_ior, wB_ixor, wB_ishl, wB_ishr, wB_iushr, wB_ineg, wB_ladd, wB_lsub, wB_lmul, wB_land, wB_lneg, wB_i2l, wB_l2i, wB_lcmp, wB_idiv, wB_irem, wB_ldiv, wB_lrem, wB_goto, wB_nop, wB_ifeq, wB_ifne, wB_iflt, wB_ifge, wB_ifgt, wB_ifle, wB_icmpeq, wB_icmpne, wB_icmplt, wB_icmpge, wB_icmpgt, wB_icmple, wB_table, wB_lookup, wB_ireturn, wB_zreturn, wB_lreturn, wB_areturn, wB_return, wB_getf, wB_putf, wB_iald, wB_bald, wB_lald, wB_iast, wB_bast, wB_last, wB_min, wB_max, wB_abs, wB_minl, wB_maxl, wB_absl, wB_obj, wB_copy, wB_charAt, wB_strlen, sr_k1i, sr_k1r, sr_k1U, sr_k1l, sr_ms1, sr_ms0, sr_msn, sr_cs1, sr_csm1, sr_csm2, sr_cl1, sr_cl2, sr_szi, sr_szr, sr_szl, sr_szn, sr_tls, sr_tln, wB_il0, wB_ll0, wB_al0, wB_is0, wB_as0, wB_inc0, wB_ls0, wB_il1, wB_ll1, wB_al1, wB_is1, wB_as1, wB_inc1, wB_ls1, wB_il2, wB_ll2, wB_al2, wB_is2, wB_as2, wB_inc2, wB_ls2, wB_il3, wB_ll3, wB_al3, wB_is3, wB_as3, wB_inc3, wB_ls3, wB_il4, wB_ll4, wB_al4, wB_is4, wB_as4, wB_inc4, wB_ls4, wB_il5, wB_ll5, wB_al5, wB_is5, wB_as5, wB_inc5, wB_ls5, wB_il6, wB_ll6, wB_al6, wB_is6, wB_as6, wB_inc6, wB_ls6, wB_il7, wB_ll7, wB_al7, wB_is7, wB_as7, wB_inc7, wB_ls7, wB_il8, wB_ll8, wB_al8, wB_is8, wB_as8, wB_inc8, wB_ls8, wB_il9, wB_ll9, wB_al9, wB_is9, wB_as9, wB_inc9, wB_ls9, wB_il10, wB_ll10, wB_al10, wB_is10, wB_as10, wB_inc10, wB_ls10, wB_il11, wB_ll11, wB_al11, wB_is11, wB_as11, wB_inc11, wB_ls11, wB_il12, wB_ll12, wB_al12, wB_is12, wB_as12, wB_inc12, wB_ls12, wB_il13, wB_ll13, wB_al13, wB_is13, wB_as13, wB_inc13, wB_ls13, wB_il14, wB_ll14, wB_al14, wB_is14, wB_as14, wB_inc14, wB_ls14, wB_il15, wB_ll15, wB_al15, wB_is15, wB_as15, wB_inc15, lb_98002, lb_98004, lb_98005, lb_98006, lb_98007, lb_98008, lb_98009, fld_6_8, arr_6_8, fld_6_10, arr_6_10, fld_6_6, arr_6_6, fld_6_7, arr_6_7, fld_6_9, arr_6_9, w, far_3, nI_clamp, inb_nI, e2, e3, e4, e5, e6, nI_leI, nI_bit, nI_sub2, nI_eq, hs5, hlt, hb, hd]
        have hD : dst r (sR x s) + dst c (sK x s + l) = lfD x s r c l := by simp [lfD, lfR, lfC, hd]
        have hDl := lfD_lt (l := l) hr hc h5 h6 hl4
        simp (disch := first | assumption | omega) only [iab_nI, nI_add, hD, nI_leI, far_st hb]
        exact ih (l + 1) (by omega)
    · simp (disch := first | assumption | omega) only [Nat.reduceAdd, Nat.reduceLeDiff, Nat.zero_le, true_and, and_true, ↓reduceIte, wB_const, wB_lconst, wB_ldc, wB_getstatic, wB_dupi, wB_dupr, wB_dup2, wB_popi, wB_iadd, wB_isub, wB_imul, wB_iand, wB_ior, wB_ixor, wB_ishl, wB_ishr, wB_iushr, wB_ineg, wB_ladd, wB_lsub, wB_lmul, wB_land, wB_lneg, wB_i2l, wB_l2i, wB_lcmp, wB_idiv, wB_irem, wB_ldiv, wB_lrem, wB_goto, wB_nop, wB_ifeq, wB_ifne, wB_iflt, wB_ifge, wB_ifgt, wB_ifle, wB_icmpeq, wB_icmpne, wB_icmplt, wB_icmpge, wB_icmpgt, wB_icmple, wB_table, wB_lookup, wB_ireturn, wB_zreturn, wB_lreturn, wB_areturn, wB_return, wB_getf, wB_putf, wB_iald, wB_bald, wB_lald, wB_iast, wB_bast, wB_last, wB_min, wB_max, wB_abs, wB_minl, wB_maxl, wB_absl, wB_obj, wB_copy, wB_charAt, wB_strlen, sr_k1i, sr_k1r, sr_k1U, sr_k1l, sr_ms1, sr_ms0, sr_msn, sr_cs1, sr_csm1, sr_csm2, sr_cl1, sr_cl2, sr_szi, sr_szr, sr_szl, sr_szn, sr_tls, sr_tln, wB_il0, wB_ll0, wB_al0, wB_is0, wB_as0, wB_inc0, wB_ls0, wB_il1, wB_ll1, wB_al1, wB_is1, wB_as1, wB_inc1, wB_ls1, wB_il2, wB_ll2, wB_al2, wB_is2, wB_as2, wB_inc2, wB_ls2, wB_il3, wB_ll3, wB_al3, wB_is3, wB_as3, wB_inc3, wB_ls3, wB_il4, wB_ll4, wB_al4, wB_is4, wB_as4, wB_inc4, wB_ls4, wB_il5, wB_ll5, wB_al5, wB_is5, wB_as5, wB_inc5, wB_ls5, wB_il6, wB_ll6, wB_al6, wB_is6, wB_as6, wB_inc6, wB_ls6, wB_il7, wB_ll7, wB_al7, wB_is7, wB_as7, wB_inc7, wB_ls7, wB_il8, wB_ll8, wB_al8, wB_is8, wB_as8, wB_inc8, wB_ls8, wB_il9, wB_ll9, wB_al9, wB_is9, wB_as9, wB_inc9, wB_ls9, wB_il10, wB_ll10, wB_al10, wB_is10, wB_as10, wB_inc10, wB_ls10, wB_il11, wB_ll11, wB_al11, wB_is11, wB_as11, wB_inc11, wB_ls11, wB_il12, wB_ll12, wB_al12, wB_is12, wB_as12, wB_inc12, wB_ls12, wB_il13, wB_ll13, wB_al13, wB_is13, wB_as13, wB_inc13, wB_ls13, wB_il14, wB_ll14, wB_al14, wB_is14, wB_as14, wB_inc14, wB_ls14, wB_il15, wB_ll15, wB_al15, wB_is15, wB_as15, wB_inc15, lb_98002, lb_98004, lb_98005, lb_98006, lb_98007, lb_98008, lb_98009, fld_6_8, arr_6_8, fld_6_10, arr_6_10, fld_6_6, arr_6_6, fld_6_7, arr_6_7, fld_6_9, arr_6_9, w, far_3, nI_clamp, inb_nI, e2, e3, e4, e5, e6, nI_leI, nI_bit, nI_sub2, nI_eq, hs5, hlt, hb]
      have : farN x s r c (l + 1) = farN x s r c l := by simp [farN, hb]
      rw [← this, nI_add]
      exact ih (l + 1) (by omega)
set_option maxHeartbeats 2000000 in
set_option maxRecDepth 100000 in
theorem m_farFrom {d S s r c : Nat} {h : sr_H} {Q : sr_T} {x : V} (w : Scr h S) (hx : Wx x) (rp : SC h S x) (hs : s < xN x) (hr : r < 64) (hc : c < 64) : sr_M (d + 1) 98 [.ref S, .int (nI s), .int (nI r), .int (nI c)] h Q ↔ Q (some (.int (nI (far x s r c)))) h := by
  simp only [en_98, Nat.reduceAdd, Nat.reduceLeDiff, Nat.zero_le, true_and, and_true, ↓reduceIte, wB_const, wB_lconst, wB_ldc, wB_getstatic, wB_dupi, wB_dupr, wB_dup2, wB_popi, wB_iadd, wB_isub, wB_imul, wB_iand, wB_ior, wB_ixor, wB_ishl, wB_ishr, wB_iushr, wB_ineg, wB_ladd, wB_lsub, wB_lmul, wB_land, wB_lneg, wB_i2l, wB_l2i, wB_lcmp, wB_idiv, wB_irem, wB_ldiv, wB_lrem, wB_goto, wB_nop, wB_ifeq, wB_ifne, wB_iflt, wB_ifge, wB_ifgt, wB_ifle, wB_icmpeq, wB_icmpne, wB_icmplt, wB_icmpge, wB_icmpgt, wB_icmple, wB_table, wB_lookup, wB_ireturn, wB_zreturn, wB_lreturn, wB_areturn, wB_return, wB_getf, wB_putf, wB_iald, wB_bald, wB_lald, wB_iast, wB_bast, wB_last, wB_min, wB_max, wB_abs, wB_minl, wB_maxl, wB_absl, wB_obj, wB_copy, wB_charAt, wB_strlen, sr_k1i, sr_k1r, sr_k1U, sr_k1l, sr_ms1, sr_ms0, sr_msn, sr_cs1, sr_csm1, sr_csm2, sr_cl1, sr_cl2, sr_szi, sr_szr, sr_szl, sr_szn, sr_tls, sr_tln, wB_il0, wB_ll0, wB_al0, wB_is0, wB_as0, wB_inc0, wB_ls0, wB_il1, wB_ll1, wB_al1, wB_is1, wB_as1, wB_inc1, wB_ls1, wB_il2, wB_ll2, wB_al2, wB_is2, wB_as2, wB_inc2, wB_ls2, wB_il3, wB_ll3, wB_al3, wB_is3, wB_as3, wB_inc3, wB_ls3, wB_il4, wB_ll4, wB_al4, wB_is4, wB_as4, wB_inc4, wB_ls4, wB_il5, wB_ll5, wB_al5, wB_is5, wB_as5, wB_inc5, wB_ls5, wB_il6, wB_ll6, wB_al6, wB_is6, wB_as6, wB_inc6, wB_ls6, wB_il7, wB_ll7, wB_al7, wB_is7, wB_as7, wB_inc7, wB_ls7, wB_il8, wB_ll8, wB_al8, wB_is8, wB_as8, wB_inc8, wB_ls8, wB_il9, wB_ll9, wB_al9, wB_is9, wB_as9, wB_inc9, wB_ls9, wB_il10, wB_ll10, wB_al10, wB_is10, wB_as10, wB_inc10, wB_ls10, wB_il11, wB_ll11, wB_al11, wB_is11, wB_as11, wB_inc11, wB_ls11, wB_il12, wB_ll12, wB_al12, wB_is12, wB_as12, wB_inc12, wB_ls12, wB_il13, wB_ll13, wB_al13, wB_is13, wB_as13, wB_inc13, wB_ls13, wB_il14, wB_ll14, wB_al14, wB_is14, wB_as14, wB_inc14, wB_ls14, wB_il15, wB_ll15, wB_al15, wB_is15, wB_as15, wB_inc15, lb_98002, lb_98004, lb_98005, lb_98006, lb_98007, lb_98008, lb_98009, fld_6_8, arr_6_8, fld_6_10, arr_6_10, fld_6_6, arr_6_6, fld_6_7, arr_6_7, fld_6_9, arr_6_9]
  exact far_loop w hx rp hs hr hc (sL x s) 0 rfl
theorem far_le {x : V} {s r c : Nat} : far x s r c ≤ 1000 := by
  have : ∀ l, farN x s r c l ≤ 1000 := by
    intro l
    induction l with
    | zero => exact Nat.le_refl _
    | succ l ih =>
      unfold farN
      split
      · omega
      · exact ih
  exact this _
theorem nr_le {x : V} {b r c : Nat} : ∀ n, (nrN x b r c n).2 ≤ 1000 ∧ (nrN x b r c n).1 ≤ n
  | 0 => ⟨Nat.le_refl _, Nat.le_refl _⟩
  | n + 1 => by
    have := nr_le (x := x) (b := b) (r := r) (c := c) n
    unfold nrN
    split
    · exact ⟨far_le, Nat.le_refl _⟩
    · exact ⟨this.1, by omega⟩
/-- none, or which, as the class has it -/
def oI (n : Nat) : Int32 := if n = 0 then -1 else nI (n - 1)
set_option maxHeartbeats 4000000 in
set_option maxRecDepth 100000 in
theorem near_loop {d S b r c : Nat} {h : sr_H} {Q : sr_T} {x : V} (w : Scr h S) (hx : Wx x) (rp : SC h S x) (hb : b < 2 ^ 31) (hr : r < 64) (hc : c < 64) : ∀ (n s : Nat), n + s = xN x → (sr_W (d + 1) 99001 [.ref S, .int (nI b), .int (nI r), .int (nI c), .int (oI (nrN x b r c s).1), .int (nI (nrN x b r c s).2), .int (nI s), sr_U] [] h Q ↔ Q (some (.int (oI (giv x b r c)))) h) := by
  have hN := hx.2.2.1
  have e1 := rp.2.2.1
  intro n
  induction n with
  | zero =>
    intro s hs
    have hss : s = xN x := by omega
    subst hss
    rw [lb_99001]
    simp (disch := first | assumption | omega) only [Nat.reduceAdd, Nat.reduceLeDiff, Nat.zero_le, true_and, and_true, ↓reduceIte, wB_const, wB_lconst, wB_ldc, wB_getstatic, wB_dupi, wB_dupr, wB_dup2, wB_popi, wB_iadd, wB_isub, wB_imul, wB_iand, wB_ior, wB_ixor, wB_ishl, wB_ishr, wB_iushr, wB_ineg, wB_ladd, wB_lsub, wB_lmul, wB_land, wB_lneg, wB_i2l, wB_l2i, wB_lcmp, wB_idiv, wB_irem, wB_ldiv, wB_lrem, wB_goto, wB_nop, wB_ifeq, wB_ifne, wB_iflt, wB_ifge, wB_ifgt, wB_ifle, wB_icmpeq, wB_icmpne, wB_icmplt, wB_icmpge, wB_icmpgt, wB_icmple, wB_table, wB_lookup, wB_ireturn, wB_zreturn, wB_lreturn, wB_areturn, wB_return, wB_getf, wB_putf, wB_iald, wB_bald, wB_lald, wB_iast, wB_bast, wB_last, wB_min, wB_max, wB_abs, wB_minl, wB_maxl, wB_absl, wB_obj, wB_copy, wB_charAt, wB_strlen, sr_k1i, sr_k1r, sr_k1U, sr_k1l, sr_ms1, sr_ms0, sr_msn, sr_cs1, sr_csm1, sr_csm2, sr_cl1, sr_cl2, sr_szi, sr_szr, sr_szl, sr_szn, sr_tls, sr_tln, wB_il0, wB_ll0, wB_al0, wB_is0, wB_as0, wB_inc0, wB_ls0, wB_il1, wB_ll1, wB_al1, wB_is1, wB_as1, wB_inc1, wB_ls1, wB_il2, wB_ll2, wB_al2, wB_is2, wB_as2, wB_inc2, wB_ls2, wB_il3, wB_ll3, wB_al3, wB_is3, wB_as3, wB_inc3, wB_ls3, wB_il4, wB_ll4, wB_al4, wB_is4, wB_as4, wB_inc4, wB_ls4, wB_il5, wB_ll5, wB_al5, wB_is5, wB_as5, wB_inc5, wB_ls5, wB_il6, wB_ll6, wB_al6, wB_is6, wB_as6, wB_inc6, wB_ls6, wB_il7, wB_ll7, wB_al7, wB_is7, wB_as7, wB_inc7, wB_ls7, lb_99002, lb_99003, cl_98, obj_6, fld_6_2, w, e1, nI_leI, Nat.le_refl, giv]
  | succ n ih =>
    intro s hs
    have hlt : ¬ xN x ≤ s := by omega
    have hsN : s < xN x := by omega
    have hl := nr_le (x := x) (b := b) (r := r) (c := c) s
    have hf := far_le (x := x) (s := s) (r := r) (c := c)
    rw [lb_99001]
    by_cases hbb : b / 2 ^ s % 2 = 1
    · by_cases hff : (nrN x b r c s).2 ≤ far x s r c
      · simp (disch := first | assumption | omega) only [Nat.reduceAdd, Nat.reduceLeDiff, Nat.zero_le, true_and, and_true, ↓reduceIte, wB_const, wB_lconst, wB_ldc, wB_getstatic, wB_dupi, wB_dupr, wB_dup2, wB_popi, wB_iadd, wB_isub, wB_imul, wB_iand, wB_ior, wB_ixor, wB_ishl, wB_ishr, wB_iushr, wB_ineg, wB_ladd, wB_lsub, wB_lmul, wB_land, wB_lneg, wB_i2l, wB_l2i, wB_lcmp, wB_idiv, wB_irem, wB_ldiv, wB_lrem, wB_goto, wB_nop, wB_ifeq, wB_ifne, wB_iflt, wB_ifge, wB_ifgt, wB_ifle, wB_icmpeq, wB_icmpne, wB_icmplt, wB_icmpge, wB_icmpgt, wB_icmple, wB_table, wB_lookup, wB_ireturn, wB_zreturn, wB_lreturn, wB_areturn, wB_return, wB_getf, wB_putf, wB_iald, wB_bald, wB_lald, wB_iast, wB_bast, wB_last, wB_min, wB_max, wB_abs, wB_minl, wB_maxl, wB_absl, wB_obj, wB_copy, wB_charAt, wB_strlen, sr_k1i, sr_k1r, sr_k1U, sr_k1l, sr_ms1, sr_ms0, sr_msn, sr_cs1, sr_csm1, sr_csm2, sr_cl1, sr_cl2, sr_szi, sr_szr, sr_szl, sr_szn, sr_tls, sr_tln, wB_il0, wB_ll0, wB_al0, wB_is0, wB_as0, wB_inc0, wB_ls0, wB_il1, wB_ll1, wB_al1, wB_is1, wB_as1, wB_inc1, wB_ls1, wB_il2, wB_ll2, wB_al2, wB_is2, wB_as2, wB_inc2, wB_ls2, wB_il3, wB_ll3, wB_al3, wB_is3, wB_as3, wB_inc3, wB_ls3, wB_il4, wB_ll4, wB_al4, wB_is4, wB_as4, wB_inc4, wB_ls4, wB_il5, wB_ll5, wB_al5, wB_is5, wB_as5, wB_inc5, wB_ls5, wB_il6, wB_ll6, wB_al6, wB_is6, wB_as6, wB_inc6, wB_ls6, wB_il7, wB_ll7, wB_al7, wB_is7, wB_as7, wB_inc7, wB_ls7, lb_99002, lb_99003, cl_98, obj_6, fld_6_2, w, e1, nI_leI, hlt, nI_bit, hbb, hff, m_farFrom w hx rp hsN hr hc]
        have : nrN x b r c (s + 1) = nrN x b r c s := by
          simp only [nrN, hbb, true_and]
          rw [if_neg (by omega)]
        rw [← this, nI_add]
        simpa using ih (s + 1) (by omega)
      · simp (disch := first | assumption | omega) only [Nat.reduceAdd, Nat.reduceLeDiff, Nat.zero_le, true_and, and_true, ↓reduceIte, wB_const, wB_lconst, wB_ldc, wB_getstatic, wB_dupi, wB_dupr, wB_dup2, wB_popi, wB_iadd, wB_isub, wB_imul, wB_iand, wB_ior, wB_ixor, wB_ishl, wB_ishr, wB_iushr, wB_ineg, wB_ladd, wB_lsub, wB_lmul, wB_land, wB_lneg, wB_i2l, wB_l2i, wB_lcmp, wB_idiv, wB_irem, wB_ldiv, wB_lrem, wB_goto, wB_nop, wB_ifeq, wB_ifne, wB_iflt, wB_ifge, wB_ifgt, wB_ifle, wB_icmpeq, wB_icmpne, wB_icmplt, wB_icmpge, wB_icmpgt, wB_icmple, wB_table, wB_lookup, wB_ireturn, wB_zreturn, wB_lreturn, wB_areturn, wB_return, wB_getf, wB_putf, wB_iald, wB_bald, wB_lald, wB_iast, wB_bast, wB_last, wB_min, wB_max, wB_abs, wB_minl, wB_maxl, wB_absl, wB_obj, wB_copy, wB_charAt, wB_strlen, sr_k1i, sr_k1r, sr_k1U, sr_k1l, sr_ms1, sr_ms0, sr_msn, sr_cs1, sr_csm1, sr_csm2, sr_cl1, sr_cl2, sr_szi, sr_szr, sr_szl, sr_szn, sr_tls, sr_tln, wB_il0, wB_ll0, wB_al0, wB_is0, wB_as0, wB_inc0, wB_ls0, wB_il1, wB_ll1, wB_al1, wB_is1, wB_as1, wB_inc1, wB_ls1, wB_il2, wB_ll2, wB_al2, wB_is2, wB_as2, wB_inc2, wB_ls2, wB_il3, wB_ll3, wB_al3, wB_is3, wB_as3, wB_inc3, wB_ls3, wB_il4, wB_ll4, wB_al4, wB_is4, wB_as4, wB_inc4, wB_ls4, wB_il5, wB_ll5, wB_al5, wB_is5, wB_as5, wB_inc5, wB_ls5, wB_il6, wB_ll6, wB_al6, wB_is6, wB_as6, wB_inc6, wB_ls6, wB_il7, wB_ll7, wB_al7, wB_is7, wB_as7, wB_inc7, wB_ls7, lb_99002, lb_99003, cl_98, obj_6, fld_6_2, w, e1, nI_leI, hlt, nI_bit, hbb, hff, m_farFrom w hx rp hsN hr hc]
        have : nrN x b r c (s + 1) = (s + 1, far x s r c) := by
          simp only [nrN, hbb, true_and]
          rw [if_pos (by omega)]
        have h2 := ih (s + 1) (by omega)
        rw [this] at h2
        rw [nI_add]
        simpa [oI] using h2
    · simp (disch := first | assumption | omega) only [Nat.reduceAdd, Nat.reduceLeDiff, Nat.zero_le, true_and, and_true, ↓reduceIte, wB_const, wB_lconst, wB_ldc, wB_getstatic, wB_dupi, wB_dupr, wB_dup2, wB_popi, wB_iadd, wB_isub, wB_imul, wB_iand, wB_ior, wB_ixor, wB_ishl, wB_ishr, wB_iushr, wB_ineg, wB_ladd, wB_lsub, wB_lmul, wB_land, wB_lneg, wB_i2l, wB_l2i, wB_lcmp, wB_idiv, wB_irem, wB_ldiv, wB_lrem, wB_goto, wB_nop, wB_ifeq, wB_ifne, wB_iflt, wB_ifge, wB_ifgt, wB_ifle, wB_icmpeq, wB_icmpne, wB_icmplt, wB_icmpge, wB_icmpgt, wB_icmple, wB_table, wB_lookup, wB_ireturn, wB_zreturn, wB_lreturn, wB_areturn, wB_return, wB_getf, wB_putf, wB_iald, wB_bald, wB_lald, wB_iast, wB_bast, wB_last, wB_min, wB_max, wB_abs, wB_minl, wB_maxl, wB_absl, wB_obj, wB_copy, wB_charAt, wB_strlen, sr_k1i, sr_k1r, sr_k1U, sr_k1l, sr_ms1, sr_ms0, sr_msn, sr_cs1, sr_csm1, sr_csm2, sr_cl1, sr_cl2, sr_szi, sr_szr, sr_szl, sr_szn, sr_tls, sr_tln, wB_il0, wB_ll0, wB_al0, wB_is0, wB_as0, wB_inc0, wB_ls0, wB_il1, wB_ll1, wB_al1, wB_is1, wB_as1, wB_inc1, wB_ls1, wB_il2, wB_ll2, wB_al2, wB_is2, wB_as2, wB_inc2, wB_ls2, wB_il3, wB_ll3, wB_al3, wB_is3, wB_as3, wB_inc3, wB_ls3, wB_il4, wB_ll4, wB_al4, wB_is4, wB_as4, wB_inc4, wB_ls4, wB_il5, wB_ll5, wB_al5, wB_is5, wB_as5, wB_inc5, wB_ls5, wB_il6, wB_ll6, wB_al6, wB_is6, wB_as6, wB_inc6, wB_ls6, wB_il7, wB_ll7, wB_al7, wB_is7, wB_as7, wB_inc7, wB_ls7, lb_99002, lb_99003, cl_98, obj_6, fld_6_2, w, e1, nI_leI, hlt, nI_bit, hbb]
      have : nrN x b r c (s + 1) = nrN x b r c s := by simp [nrN, hbb]
      rw [← this, nI_add]
      exact ih (s + 1) (by omega)
set_option maxHeartbeats 2000000 in
set_option maxRecDepth 100000 in
theorem m_nearestOf {d S b r c : Nat} {h : sr_H} {Q : sr_T} {x : V} (w : Scr h S) (hx : Wx x) (rp : SC h S x) (hb : b < 2 ^ 31) (hr : r < 64) (hc : c < 64) : sr_M (d + 2) 99 [.ref S, .int (nI b), .int (nI r), .int (nI c)] h Q ↔ Q (some (.int (oI (giv x b r c)))) h := by
  simp only [en_99, Nat.reduceAdd, Nat.reduceLeDiff, Nat.zero_le, true_and, and_true, ↓reduceIte, wB_const, wB_lconst, wB_ldc, wB_getstatic, wB_dupi, wB_dupr, wB_dup2, wB_popi, wB_iadd, wB_isub, wB_imul, wB_iand, wB_ior, wB_ixor, wB_ishl, wB_ishr, wB_iushr, wB_ineg, wB_ladd, wB_lsub, wB_lmul, wB_land, wB_lneg, wB_i2l, wB_l2i, wB_lcmp, wB_idiv, wB_irem, wB_ldiv, wB_lrem, wB_goto, wB_nop, wB_ifeq, wB_ifne, wB_iflt, wB_ifge, wB_ifgt, wB_ifle, wB_icmpeq, wB_icmpne, wB_icmplt, wB_icmpge, wB_icmpgt, wB_icmple, wB_table, wB_lookup, wB_ireturn, wB_zreturn, wB_lreturn, wB_areturn, wB_return, wB_getf, wB_putf, wB_iald, wB_bald, wB_lald, wB_iast, wB_bast, wB_last, wB_min, wB_max, wB_abs, wB_minl, wB_maxl, wB_absl, wB_obj, wB_copy, wB_charAt, wB_strlen, sr_k1i, sr_k1r, sr_k1U, sr_k1l, sr_ms1, sr_ms0, sr_msn, sr_cs1, sr_csm1, sr_csm2, sr_cl1, sr_cl2, sr_szi, sr_szr, sr_szl, sr_szn, sr_tls, sr_tln, wB_il0, wB_ll0, wB_al0, wB_is0, wB_as0, wB_inc0, wB_ls0, wB_il1, wB_ll1, wB_al1, wB_is1, wB_as1, wB_inc1, wB_ls1, wB_il2, wB_ll2, wB_al2, wB_is2, wB_as2, wB_inc2, wB_ls2, wB_il3, wB_ll3, wB_al3, wB_is3, wB_as3, wB_inc3, wB_ls3, wB_il4, wB_ll4, wB_al4, wB_is4, wB_as4, wB_inc4, wB_ls4, wB_il5, wB_ll5, wB_al5, wB_is5, wB_as5, wB_inc5, wB_ls5, wB_il6, wB_ll6, wB_al6, wB_is6, wB_as6, wB_inc6, wB_ls6, wB_il7, wB_ll7, wB_al7, wB_is7, wB_as7, wB_inc7, wB_ls7, lb_99002, lb_99003, cl_98, obj_6, fld_6_2]
  exact near_loop w hx rp hb hr hc (xN x) 0 rfl
