/-! The reference: a text is read, its halves. -/
theorem Ml {h : sr_H} {a : Nat} (w : Mdl h) (h1 : 143 ≤ a) (h2 : a ≤ 165) : lI h a = hlf a + hlf a ∧ isA h a ∧ isI h a ∧ a < h.1.1 := by
  have : a = 143 ∨ a = 144 ∨ a = 145 ∨ a = 146 ∨ a = 147 ∨ a = 148 ∨ a = 149 ∨ a = 150 ∨ a = 151 ∨ a = 152 ∨ a = 153 ∨ a = 154 ∨ a = 155 ∨ a = 156 ∨ a = 157 ∨ a = 158 ∨ a = 159 ∨ a = 160 ∨ a = 161 ∨ a = 162 ∨ a = 163 ∨ a = 164 ∨ a = 165 := by omega
  rcases this with rfl | rfl | rfl | rfl | rfl | rfl | rfl | rfl | rfl | rfl | rfl | rfl | rfl | rfl | rfl | rfl | rfl | rfl | rfl | rfl | rfl | rfl | rfl
  · exact arr_11_3 w
  · exact arr_11_4 w
  · exact arr_11_5 w
  · exact arr_11_6 w
  · exact arr_11_7 w
  · exact arr_11_8 w
  · exact arr_11_9 w
  · exact arr_11_10 w
  · exact arr_11_11 w
  · exact arr_11_12 w
  · exact arr_11_13 w
  · exact arr_11_14 w
  · exact arr_11_15 w
  · exact arr_11_16 w
  · exact arr_11_17 w
  · exact arr_11_18 w
  · exact arr_11_19 w
  · exact arr_11_20 w
  · exact arr_11_21 w
  · exact arr_11_22 w
  · exact arr_11_23 w
  · exact arr_11_24 w
  · exact arr_11_25 w
theorem lA_lI {h : sr_H} {a N : Nat} (e : lI h a = N) (hN : 0 < N) : lA h a = some N := by
  unfold lI at e
  unfold lA
  split at e
  · rename_i e1
    rw [e1]
    dsimp only
    split at e
    · rename_i hh
      rw [if_pos hh, e]
    · omega
  · omega
theorem n2zz : ¬ nI 2 = 0 := by decide
set_option maxHeartbeats 4000000 in
set_option maxRecDepth 100000 in
theorem r_half {d a L : Nat} {h : sr_H} {Q : sr_T} (la : ∀ h', SS h h' → lI h' a = L + L ∧ isA h' a ∧ isI h' a ∧ a < h'.1.1) (hL : L < 100) (hL0 : 0 < L) (kk : ∀ h', SS h h' → (∀ c, ¬ c = a → h'.2 c = h.2 c) → (∀ i, i < L → hI h' a i = hI h a (L + i)) → Q none h') : sr_M (d + 1) 203 [.ref a] h Q := by
  obtain ⟨l1, l2, l3, l4⟩ := la h SS.rf
  have la1 := lA_lI l1 (by omega)
  have ed := pk_div (a := L + L) (d := 2) (by omega) (by omega) (by omega)
  rw [show (L + L) / 2 = L by omega] at ed
  have lp : sr_W d 203001 [.ref a, .int (nI L), .int (nI 0)] [] h Q := by
    refine lp_h (W := fun i h => sr_W d 203001 [.ref a, .int (nI L), .int (nI i)] [] h Q) (fun i h' => SS h h' ∧ (∀ c, ¬ c = a → h'.2 c = h.2 c) ∧ ∀ k, hI h' a k = if k < i then hI h a (L + k) else hI h a k) L ?_ ?_ h ⟨SS.rf, fun _ _ => rfl, fun k => by rw [if_neg (by omega)]⟩
    · rintro i h1 hi ⟨s1, o1, e1⟩ next
      obtain ⟨m1, m2, m3, m4⟩ := la h1 s1
      have ee : hI h1 a (L + i) = hI h a (L + i) := by rw [e1, if_neg (by omega)]
      have z := next (sI h1 a i (hI h a (L + i))) ⟨s1.tr (SS_sI _ _ _ _), fun c hc => (sI_ne hc).trans (o1 c hc), fun k => ?_⟩
      · rw [lb_203001]
        simp (disch := first | assumption | omega) only [Nat.reduceAdd, Nat.reduceLeDiff, Nat.zero_le, true_and, and_true, ↓reduceIte, wB_const, wB_lconst, wB_ldc, wB_getstatic, wB_dupi, wB_dupr, wB_dup2, wB_popi, wB_iadd, wB_isub, wB_imul, wB_iand, wB_ior, wB_ixor, wB_ishl, wB_ishr, wB_iushr, wB_ineg, wB_ladd, wB_lsub, wB_lmul, wB_land, wB_lneg, wB_i2l, wB_l2i, wB_lcmp, wB_idiv, wB_irem, wB_ldiv, wB_lrem, wB_goto, wB_nop, wB_ifeq, wB_ifne, wB_iflt, wB_ifge, wB_ifgt, wB_ifle, wB_icmpeq, wB_icmpne, wB_icmplt, wB_icmpge, wB_icmpgt, wB_icmple, wB_table, wB_lookup, wB_ireturn, wB_zreturn, wB_lreturn, wB_areturn, wB_return, wB_getf, wB_putf, wB_iald, wB_bald, wB_lald, wB_iast, wB_bast, wB_last, wB_min, wB_max, wB_abs, wB_minl, wB_maxl, wB_absl, wB_obj, wB_copy, wB_charAt, wB_strlen, sr_k1i, sr_k1r, sr_k1U, sr_k1l, sr_ms1, sr_ms0, sr_msn, sr_cs1, sr_csm1, sr_csm2, sr_cl1, sr_cl2, sr_szi, sr_szr, sr_szl, sr_szn, sr_tls, sr_tln, wB_il0, wB_ll0, wB_al0, wB_is0, wB_as0, wB_inc0, wB_ls0, wB_il1, wB_ll1, wB_al1, wB_is1, wB_as1, wB_inc1, wB_ls1, wB_il2, wB_ll2, wB_al2, wB_is2, wB_as2, wB_inc2, wB_ls2, wB_il3, wB_ll3, wB_al3, wB_is3, wB_as3, wB_inc3, wB_ls3, wB_il4, wB_ll4, wB_al4, wB_is4, wB_as4, wB_inc4, wB_ls4, wB_il5, wB_ll5, wB_al5, wB_is5, wB_as5, wB_inc5, wB_ls5, wB_il6, wB_ll6, wB_al6, wB_is6, wB_as6, wB_inc6, wB_ls6, wB_il7, wB_ll7, wB_al7, wB_is7, wB_as7, wB_inc7, wB_ls7, lb_203002, nI_clamp, inb_nI, nI_leI, nI_ltI, nI_eq, nI_z, nI_ge0, nI_lt0, nI_add, n00, n11, n01, n10, true_or, or_true, not_true_eq_false, not_false_eq_true, bI_0, bI_z, Nat.le_refl, Nat.lt_irrefl, Nat.reduceLT, Nat.reduceEqDiff, nI_gt0, nI_le0, show ¬ L ≤ i by omega, m1, m2, m3, m4, show i < L + L by omega, show L + i < L + L by omega, ee]
        exact z
      · by_cases q : k = i
        · subst q
          rw [hI_y m2, if_pos (by omega)]
        · rw [hI_n (by omega), e1 k]
          by_cases q2 : k < i
          · rw [if_pos q2, if_pos (by omega)]
          · rw [if_neg q2, if_neg (by omega)]
    · rintro h1 ⟨s1, o1, e1⟩
      rw [lb_203001]
      simp (disch := first | assumption | omega) only [Nat.reduceAdd, Nat.reduceLeDiff, Nat.zero_le, true_and, and_true, ↓reduceIte, wB_const, wB_lconst, wB_ldc, wB_getstatic, wB_dupi, wB_dupr, wB_dup2, wB_popi, wB_iadd, wB_isub, wB_imul, wB_iand, wB_ior, wB_ixor, wB_ishl, wB_ishr, wB_iushr, wB_ineg, wB_ladd, wB_lsub, wB_lmul, wB_land, wB_lneg, wB_i2l, wB_l2i, wB_lcmp, wB_idiv, wB_irem, wB_ldiv, wB_lrem, wB_goto, wB_nop, wB_ifeq, wB_ifne, wB_iflt, wB_ifge, wB_ifgt, wB_ifle, wB_icmpeq, wB_icmpne, wB_icmplt, wB_icmpge, wB_icmpgt, wB_icmple, wB_table, wB_lookup, wB_ireturn, wB_zreturn, wB_lreturn, wB_areturn, wB_return, wB_getf, wB_putf, wB_iald, wB_bald, wB_lald, wB_iast, wB_bast, wB_last, wB_min, wB_max, wB_abs, wB_minl, wB_maxl, wB_absl, wB_obj, wB_copy, wB_charAt, wB_strlen, sr_k1i, sr_k1r, sr_k1U, sr_k1l, sr_ms1, sr_ms0, sr_msn, sr_cs1, sr_csm1, sr_csm2, sr_cl1, sr_cl2, sr_szi, sr_szr, sr_szl, sr_szn, sr_tls, sr_tln, wB_il0, wB_ll0, wB_al0, wB_is0, wB_as0, wB_inc0, wB_ls0, wB_il1, wB_ll1, wB_al1, wB_is1, wB_as1, wB_inc1, wB_ls1, wB_il2, wB_ll2, wB_al2, wB_is2, wB_as2, wB_inc2, wB_ls2, wB_il3, wB_ll3, wB_al3, wB_is3, wB_as3, wB_inc3, wB_ls3, wB_il4, wB_ll4, wB_al4, wB_is4, wB_as4, wB_inc4, wB_ls4, wB_il5, wB_ll5, wB_al5, wB_is5, wB_as5, wB_inc5, wB_ls5, wB_il6, wB_ll6, wB_al6, wB_is6, wB_as6, wB_inc6, wB_ls6, wB_il7, wB_ll7, wB_al7, wB_is7, wB_as7, wB_inc7, wB_ls7, lb_203002, nI_clamp, inb_nI, nI_leI, nI_ltI, nI_eq, nI_z, nI_ge0, nI_lt0, nI_add, n00, n11, n01, n10, true_or, or_true, not_true_eq_false, not_false_eq_true, bI_0, bI_z, Nat.le_refl, Nat.lt_irrefl, Nat.reduceLT, Nat.reduceEqDiff, nI_gt0, nI_le0]
      exact kk h1 s1 o1 (fun i hi => by rw [e1, if_pos hi])
  simp (disch := first | assumption | omega) only [Nat.reduceAdd, Nat.reduceLeDiff, Nat.zero_le, true_and, and_true, ↓reduceIte, wB_const, wB_lconst, wB_ldc, wB_getstatic, wB_dupi, wB_dupr, wB_dup2, wB_popi, wB_iadd, wB_isub, wB_imul, wB_iand, wB_ior, wB_ixor, wB_ishl, wB_ishr, wB_iushr, wB_ineg, wB_ladd, wB_lsub, wB_lmul, wB_land, wB_lneg, wB_i2l, wB_l2i, wB_lcmp, wB_idiv, wB_irem, wB_ldiv, wB_lrem, wB_goto, wB_nop, wB_ifeq, wB_ifne, wB_iflt, wB_ifge, wB_ifgt, wB_ifle, wB_icmpeq, wB_icmpne, wB_icmplt, wB_icmpge, wB_icmpgt, wB_icmple, wB_table, wB_lookup, wB_ireturn, wB_zreturn, wB_lreturn, wB_areturn, wB_return, wB_getf, wB_putf, wB_iald, wB_bald, wB_lald, wB_iast, wB_bast, wB_last, wB_min, wB_max, wB_abs, wB_minl, wB_maxl, wB_absl, wB_obj, wB_copy, wB_charAt, wB_strlen, sr_k1i, sr_k1r, sr_k1U, sr_k1l, sr_ms1, sr_ms0, sr_msn, sr_cs1, sr_csm1, sr_csm2, sr_cl1, sr_cl2, sr_szi, sr_szr, sr_szl, sr_szn, sr_tls, sr_tln, wB_il0, wB_ll0, wB_al0, wB_is0, wB_as0, wB_inc0, wB_ls0, wB_il1, wB_ll1, wB_al1, wB_is1, wB_as1, wB_inc1, wB_ls1, wB_il2, wB_ll2, wB_al2, wB_is2, wB_as2, wB_inc2, wB_ls2, wB_il3, wB_ll3, wB_al3, wB_is3, wB_as3, wB_inc3, wB_ls3, wB_il4, wB_ll4, wB_al4, wB_is4, wB_as4, wB_inc4, wB_ls4, wB_il5, wB_ll5, wB_al5, wB_is5, wB_as5, wB_inc5, wB_ls5, wB_il6, wB_ll6, wB_al6, wB_is6, wB_as6, wB_inc6, wB_ls6, wB_il7, wB_ll7, wB_al7, wB_is7, wB_as7, wB_inc7, wB_ls7, lb_203002, nI_clamp, inb_nI, nI_leI, nI_ltI, nI_eq, nI_z, nI_ge0, nI_lt0, nI_add, n00, n11, n01, n10, true_or, or_true, not_true_eq_false, not_false_eq_true, bI_0, bI_z, Nat.le_refl, Nat.lt_irrefl, Nat.reduceLT, Nat.reduceEqDiff, nI_gt0, nI_le0, en_203, wB_alen la1, n2zz, ed]
  exact lp
/-- the arrays before A were halved -/
def HV (A : Nat) (h0 h : sr_H) : Prop := SS h0 h ∧ (∀ a, ¬ (143 ≤ a ∧ a < A) → h.2 a = h0.2 a) ∧ ∀ a i, 143 ≤ a → a < A → i < hlf a → hI h a i = hI h0 a (hlf a + i)
theorem HV_0 {h : sr_H} : HV 143 h h := ⟨SS.rf, fun _ _ => rfl, fun a i h1 h2 _ => absurd h1 (by omega)⟩
theorem hlf_lt {a : Nat} : hlf a < 100 ∧ 0 < hlf a := by
  unfold hlf
  repeat' split
  all_goals omega
theorem r_halfV {d A : Nat} {h0 h : sr_H} {Q : sr_T} (w : Mdl h0) (h1 : 143 ≤ A) (h2 : A ≤ 165) (s : HV A h0 h) (kk : ∀ h', HV (A + 1) h0 h' → Q none h') : sr_M (d + 1) 203 [.ref A] h Q := by
  obtain ⟨s1, s2, s3⟩ := s
  refine r_half (L := hlf A) (fun h' q => Ml (w.ss (s1.tr q)) h1 h2) hlf_lt.1 hlf_lt.2 (fun h' t1 t2 t3 => kk h' ⟨s1.tr t1, fun a ha => (t2 a (by omega)).trans (s2 a (by omega)), fun a i g1 g2 hi => ?_⟩)
  by_cases q : a = A
  · subst q
    rw [t3 i hi]
    exact hI_of (s2 a (by omega))
  · rw [hI_of (t2 a q)]
    exact s3 a i g1 (by omega) hi
theorem tK_n {b : Nat → Nat} {n p : Nat} (hp : n ≤ p) : tK b n p = 0 := by
  unfold tK lex
  rw [if_pos hp]
set_option maxHeartbeats 4000000 in
set_option maxRecDepth 100000 in
theorem r_textLoop {d n : Nat} {b : Nat → Nat} {Q : sr_T} {h0 : sr_H} (hb : Wb b n) : ∀ (f : Nat) (y : V) (p : Nat) (h : sr_H), n ≤ p + f → p ≤ n → Wz y → DPY y → y 0 9 ≤ p → FJ h0 h → PJ h b n y p 0 → (∀ e, prN b n f y p = .inl e → ∀ h', FJ h0 h' → XF h' e → ∀ A B : Value, sr_W (d + 152) 204010 [.ref 141, A, B] [] h' Q) → (∀ y' p', prN b n f y p = .inr (y', p') → ∀ h', DPY y' → FJ h0 h' → PJ h' b n y' p' 0 → ∀ A B : Value, sr_W (d + 152) 204010 [.ref 141, A, B] [] h' Q) → ∀ A B : Value, sr_W (d + 152) 204009 [.ref 141, A, B] [] h Q
  | 0, y, p, h, hf, hp, hy, dy, h9, f0, s, kf, k1 => by
    have w := s.1.1
    have e33 := s.2.2.1.1
    have e31 := s.2.1.2.2.1
    have q : tK b n p = 0 := tK_n (by omega)
    have q4 : srt (tK b n p) = 4 := srt_4.mpr q
    rw [prN] at k1
    have z := k1 _ _ rfl h dy f0 s
    intro A B
    rw [lb_204009]
    simp (disch := first | assumption | omega) only [Nat.reduceAdd, Nat.reduceLeDiff, Nat.zero_le, true_and, and_true, ↓reduceIte, wB_const, wB_lconst, wB_ldc, wB_getstatic, wB_dupi, wB_dupr, wB_dup2, wB_popi, wB_iadd, wB_isub, wB_imul, wB_iand, wB_ior, wB_ixor, wB_ishl, wB_ishr, wB_iushr, wB_ineg, wB_ladd, wB_lsub, wB_lmul, wB_land, wB_lneg, wB_i2l, wB_l2i, wB_lcmp, wB_idiv, wB_irem, wB_ldiv, wB_lrem, wB_goto, wB_nop, wB_ifeq, wB_ifne, wB_iflt, wB_ifge, wB_ifgt, wB_ifle, wB_icmpeq, wB_icmpne, wB_icmplt, wB_icmpge, wB_icmpgt, wB_icmple, wB_table, wB_lookup, wB_ireturn, wB_zreturn, wB_lreturn, wB_areturn, wB_return, wB_getf, wB_putf, wB_iald, wB_bald, wB_lald, wB_iast, wB_bast, wB_last, wB_min, wB_max, wB_abs, wB_minl, wB_maxl, wB_absl, wB_obj, wB_copy, wB_charAt, wB_strlen, sr_k1i, sr_k1r, sr_k1U, sr_k1l, sr_ms1, sr_ms0, sr_msn, sr_cs1, sr_csm1, sr_csm2, sr_cl1, sr_cl2, sr_szi, sr_szr, sr_szl, sr_szn, sr_tls, sr_tln, wB_il0, wB_ll0, wB_al0, wB_is0, wB_as0, wB_inc0, wB_ls0, wB_il1, wB_ll1, wB_al1, wB_is1, wB_as1, wB_inc1, wB_ls1, wB_il2, wB_ll2, wB_al2, wB_is2, wB_as2, wB_inc2, wB_ls2, wB_il3, wB_ll3, wB_al3, wB_is3, wB_as3, wB_inc3, wB_ls3, wB_il4, wB_ll4, wB_al4, wB_is4, wB_as4, wB_inc4, wB_ls4, wB_il5, wB_ll5, wB_al5, wB_is5, wB_as5, wB_inc5, wB_ls5, wB_il6, wB_ll6, wB_al6, wB_is6, wB_as6, wB_inc6, wB_ls6, wB_il7, wB_ll7, wB_al7, wB_is7, wB_as7, wB_inc7, wB_ls7, lb_204001, lb_204002, lb_204003, lb_204004, lb_204005, lb_204006, lb_204007, lb_204008, lb_204011, cl_186, cl_174, cl_190, cl_203, cl_212, obj_11, fld_11_0, fld_11_2, fld_11_28, fld_11_29, fld_11_33, fld_11_34, fld_11_22, arr_11_22, fld_11_23, arr_11_23, fld_11_26, fld_11_27, fld_11_37, fld_11_38, fld_11_31, fld_11_35, fld_11_36, fld_11_3, arr_11_3, fld_11_4, arr_11_4, fld_11_5, arr_11_5, fld_11_6, arr_11_6, fld_11_7, arr_11_7, fld_11_8, arr_11_8, fld_11_9, arr_11_9, fld_11_10, arr_11_10, fld_11_11, arr_11_11, fld_11_12, arr_11_12, fld_11_13, arr_11_13, fld_11_14, arr_11_14, fld_11_15, arr_11_15, fld_11_16, arr_11_16, fld_11_17, arr_11_17, fld_11_18, arr_11_18, fld_11_19, arr_11_19, fld_11_20, arr_11_20, fld_11_21, arr_11_21, fld_11_24, arr_11_24, fld_11_25, arr_11_25, fld_11_60, fld_11_61, fld_11_53, fld_11_54, nI_clamp, inb_nI, nI_leI, nI_ltI, nI_eq, nI_z, nI_ge0, nI_lt0, nI_add, n00, n11, n01, n10, true_or, or_true, not_true_eq_false, not_false_eq_true, bI_0, bI_z, Nat.le_refl, Nat.lt_irrefl, Nat.reduceLT, Nat.reduceEqDiff, nI_gt0, nI_le0, w, e33, e31, q4]
    exact z _ _
  | f + 1, y, p, h, hf, hp, hy, dy, h9, f0, s, kf, k1 => by
    have w := s.1.1
    have e33 := s.2.2.1.1
    have e31 := s.2.1.2.2.1
    have sl := srt_le (K := tK b n p)
    rw [prN] at k1 kf
    intro A B
    rw [lb_204009]
    by_cases q : tK b n p = 0
    · rw [if_pos q] at k1
      have q4 : srt (tK b n p) = 4 := srt_4.mpr q
      have z := k1 _ _ rfl h dy f0 s
      simp (disch := first | assumption | omega) only [Nat.reduceAdd, Nat.reduceLeDiff, Nat.zero_le, true_and, and_true, ↓reduceIte, wB_const, wB_lconst, wB_ldc, wB_getstatic, wB_dupi, wB_dupr, wB_dup2, wB_popi, wB_iadd, wB_isub, wB_imul, wB_iand, wB_ior, wB_ixor, wB_ishl, wB_ishr, wB_iushr, wB_ineg, wB_ladd, wB_lsub, wB_lmul, wB_land, wB_lneg, wB_i2l, wB_l2i, wB_lcmp, wB_idiv, wB_irem, wB_ldiv, wB_lrem, wB_goto, wB_nop, wB_ifeq, wB_ifne, wB_iflt, wB_ifge, wB_ifgt, wB_ifle, wB_icmpeq, wB_icmpne, wB_icmplt, wB_icmpge, wB_icmpgt, wB_icmple, wB_table, wB_lookup, wB_ireturn, wB_zreturn, wB_lreturn, wB_areturn, wB_return, wB_getf, wB_putf, wB_iald, wB_bald, wB_lald, wB_iast, wB_bast, wB_last, wB_min, wB_max, wB_abs, wB_minl, wB_maxl, wB_absl, wB_obj, wB_copy, wB_charAt, wB_strlen, sr_k1i, sr_k1r, sr_k1U, sr_k1l, sr_ms1, sr_ms0, sr_msn, sr_cs1, sr_csm1, sr_csm2, sr_cl1, sr_cl2, sr_szi, sr_szr, sr_szl, sr_szn, sr_tls, sr_tln, wB_il0, wB_ll0, wB_al0, wB_is0, wB_as0, wB_inc0, wB_ls0, wB_il1, wB_ll1, wB_al1, wB_is1, wB_as1, wB_inc1, wB_ls1, wB_il2, wB_ll2, wB_al2, wB_is2, wB_as2, wB_inc2, wB_ls2, wB_il3, wB_ll3, wB_al3, wB_is3, wB_as3, wB_inc3, wB_ls3, wB_il4, wB_ll4, wB_al4, wB_is4, wB_as4, wB_inc4, wB_ls4, wB_il5, wB_ll5, wB_al5, wB_is5, wB_as5, wB_inc5, wB_ls5, wB_il6, wB_ll6, wB_al6, wB_is6, wB_as6, wB_inc6, wB_ls6, wB_il7, wB_ll7, wB_al7, wB_is7, wB_as7, wB_inc7, wB_ls7, lb_204001, lb_204002, lb_204003, lb_204004, lb_204005, lb_204006, lb_204007, lb_204008, lb_204011, cl_186, cl_174, cl_190, cl_203, cl_212, obj_11, fld_11_0, fld_11_2, fld_11_28, fld_11_29, fld_11_33, fld_11_34, fld_11_22, arr_11_22, fld_11_23, arr_11_23, fld_11_26, fld_11_27, fld_11_37, fld_11_38, fld_11_31, fld_11_35, fld_11_36, fld_11_3, arr_11_3, fld_11_4, arr_11_4, fld_11_5, arr_11_5, fld_11_6, arr_11_6, fld_11_7, arr_11_7, fld_11_8, arr_11_8, fld_11_9, arr_11_9, fld_11_10, arr_11_10, fld_11_11, arr_11_11, fld_11_12, arr_11_12, fld_11_13, arr_11_13, fld_11_14, arr_11_14, fld_11_15, arr_11_15, fld_11_16, arr_11_16, fld_11_17, arr_11_17, fld_11_18, arr_11_18, fld_11_19, arr_11_19, fld_11_20, arr_11_20, fld_11_21, arr_11_21, fld_11_24, arr_11_24, fld_11_25, arr_11_25, fld_11_60, fld_11_61, fld_11_53, fld_11_54, nI_clamp, inb_nI, nI_leI, nI_ltI, nI_eq, nI_z, nI_ge0, nI_lt0, nI_add, n00, n11, n01, n10, true_or, or_true, not_true_eq_false, not_false_eq_true, bI_0, bI_z, Nat.le_refl, Nat.lt_irrefl, Nat.reduceLT, Nat.reduceEqDiff, nI_gt0, nI_le0, w, e33, e31, q4]
      exact z _ _
    · rw [if_neg q] at k1 kf
      have q4 : ¬ srt (tK b n p) = 4 := fun z => q (srt_4.mp z)
      simp (disch := first | assumption | omega) only [Nat.reduceAdd, Nat.reduceLeDiff, Nat.zero_le, true_and, and_true, ↓reduceIte, wB_const, wB_lconst, wB_ldc, wB_getstatic, wB_dupi, wB_dupr, wB_dup2, wB_popi, wB_iadd, wB_isub, wB_imul, wB_iand, wB_ior, wB_ixor, wB_ishl, wB_ishr, wB_iushr, wB_ineg, wB_ladd, wB_lsub, wB_lmul, wB_land, wB_lneg, wB_i2l, wB_l2i, wB_lcmp, wB_idiv, wB_irem, wB_ldiv, wB_lrem, wB_goto, wB_nop, wB_ifeq, wB_ifne, wB_iflt, wB_ifge, wB_ifgt, wB_ifle, wB_icmpeq, wB_icmpne, wB_icmplt, wB_icmpge, wB_icmpgt, wB_icmple, wB_table, wB_lookup, wB_ireturn, wB_zreturn, wB_lreturn, wB_areturn, wB_return, wB_getf, wB_putf, wB_iald, wB_bald, wB_lald, wB_iast, wB_bast, wB_last, wB_min, wB_max, wB_abs, wB_minl, wB_maxl, wB_absl, wB_obj, wB_copy, wB_charAt, wB_strlen, sr_k1i, sr_k1r, sr_k1U, sr_k1l, sr_ms1, sr_ms0, sr_msn, sr_cs1, sr_csm1, sr_csm2, sr_cl1, sr_cl2, sr_szi, sr_szr, sr_szl, sr_szn, sr_tls, sr_tln, wB_il0, wB_ll0, wB_al0, wB_is0, wB_as0, wB_inc0, wB_ls0, wB_il1, wB_ll1, wB_al1, wB_is1, wB_as1, wB_inc1, wB_ls1, wB_il2, wB_ll2, wB_al2, wB_is2, wB_as2, wB_inc2, wB_ls2, wB_il3, wB_ll3, wB_al3, wB_is3, wB_as3, wB_inc3, wB_ls3, wB_il4, wB_ll4, wB_al4, wB_is4, wB_as4, wB_inc4, wB_ls4, wB_il5, wB_ll5, wB_al5, wB_is5, wB_as5, wB_inc5, wB_ls5, wB_il6, wB_ll6, wB_al6, wB_is6, wB_as6, wB_inc6, wB_ls6, wB_il7, wB_ll7, wB_al7, wB_is7, wB_as7, wB_inc7, wB_ls7, lb_204001, lb_204002, lb_204003, lb_204004, lb_204005, lb_204006, lb_204007, lb_204008, lb_204011, cl_186, cl_174, cl_190, cl_203, cl_212, obj_11, fld_11_0, fld_11_2, fld_11_28, fld_11_29, fld_11_33, fld_11_34, fld_11_22, arr_11_22, fld_11_23, arr_11_23, fld_11_26, fld_11_27, fld_11_37, fld_11_38, fld_11_31, fld_11_35, fld_11_36, fld_11_3, arr_11_3, fld_11_4, arr_11_4, fld_11_5, arr_11_5, fld_11_6, arr_11_6, fld_11_7, arr_11_7, fld_11_8, arr_11_8, fld_11_9, arr_11_9, fld_11_10, arr_11_10, fld_11_11, arr_11_11, fld_11_12, arr_11_12, fld_11_13, arr_11_13, fld_11_14, arr_11_14, fld_11_15, arr_11_15, fld_11_16, arr_11_16, fld_11_17, arr_11_17, fld_11_18, arr_11_18, fld_11_19, arr_11_19, fld_11_20, arr_11_20, fld_11_21, arr_11_21, fld_11_24, arr_11_24, fld_11_25, arr_11_25, fld_11_60, fld_11_61, fld_11_53, fld_11_54, nI_clamp, inb_nI, nI_leI, nI_ltI, nI_eq, nI_z, nI_ge0, nI_lt0, nI_add, n00, n11, n01, n10, true_or, or_true, not_true_eq_false, not_false_eq_true, bI_0, bI_z, Nat.le_refl, Nat.lt_irrefl, Nat.reduceLT, Nat.reduceEqDiff, nI_gt0, nI_le0, w, e33, e31, q4]
      refine r_line (d := d) hb hp hy dy s ?_
      generalize hl : lnLine b n y p = o at k1 kf ⊢
      cases o with
      | inl e =>
        intro h' f' x
        have z := kf e rfl h' (f0.tr f') x
        simp (disch := first | assumption | omega) only [Nat.reduceAdd, Nat.reduceLeDiff, Nat.zero_le, true_and, and_true, ↓reduceIte, wB_const, wB_lconst, wB_ldc, wB_getstatic, wB_dupi, wB_dupr, wB_dup2, wB_popi, wB_iadd, wB_isub, wB_imul, wB_iand, wB_ior, wB_ixor, wB_ishl, wB_ishr, wB_iushr, wB_ineg, wB_ladd, wB_lsub, wB_lmul, wB_land, wB_lneg, wB_i2l, wB_l2i, wB_lcmp, wB_idiv, wB_irem, wB_ldiv, wB_lrem, wB_goto, wB_nop, wB_ifeq, wB_ifne, wB_iflt, wB_ifge, wB_ifgt, wB_ifle, wB_icmpeq, wB_icmpne, wB_icmplt, wB_icmpge, wB_icmpgt, wB_icmple, wB_table, wB_lookup, wB_ireturn, wB_zreturn, wB_lreturn, wB_areturn, wB_return, wB_getf, wB_putf, wB_iald, wB_bald, wB_lald, wB_iast, wB_bast, wB_last, wB_min, wB_max, wB_abs, wB_minl, wB_maxl, wB_absl, wB_obj, wB_copy, wB_charAt, wB_strlen, sr_k1i, sr_k1r, sr_k1U, sr_k1l, sr_ms1, sr_ms0, sr_msn, sr_cs1, sr_csm1, sr_csm2, sr_cl1, sr_cl2, sr_szi, sr_szr, sr_szl, sr_szn, sr_tls, sr_tln, wB_il0, wB_ll0, wB_al0, wB_is0, wB_as0, wB_inc0, wB_ls0, wB_il1, wB_ll1, wB_al1, wB_is1, wB_as1, wB_inc1, wB_ls1, wB_il2, wB_ll2, wB_al2, wB_is2, wB_as2, wB_inc2, wB_ls2, wB_il3, wB_ll3, wB_al3, wB_is3, wB_as3, wB_inc3, wB_ls3, wB_il4, wB_ll4, wB_al4, wB_is4, wB_as4, wB_inc4, wB_ls4, wB_il5, wB_ll5, wB_al5, wB_is5, wB_as5, wB_inc5, wB_ls5, wB_il6, wB_ll6, wB_al6, wB_is6, wB_as6, wB_inc6, wB_ls6, wB_il7, wB_ll7, wB_al7, wB_is7, wB_as7, wB_inc7, wB_ls7, lb_204001, lb_204002, lb_204003, lb_204004, lb_204005, lb_204006, lb_204007, lb_204008, lb_204011, cl_186, cl_174, cl_190, cl_203, cl_212, obj_11, fld_11_0, fld_11_2, fld_11_28, fld_11_29, fld_11_33, fld_11_34, fld_11_22, arr_11_22, fld_11_23, arr_11_23, fld_11_26, fld_11_27, fld_11_37, fld_11_38, fld_11_31, fld_11_35, fld_11_36, fld_11_3, arr_11_3, fld_11_4, arr_11_4, fld_11_5, arr_11_5, fld_11_6, arr_11_6, fld_11_7, arr_11_7, fld_11_8, arr_11_8, fld_11_9, arr_11_9, fld_11_10, arr_11_10, fld_11_11, arr_11_11, fld_11_12, arr_11_12, fld_11_13, arr_11_13, fld_11_14, arr_11_14, fld_11_15, arr_11_15, fld_11_16, arr_11_16, fld_11_17, arr_11_17, fld_11_18, arr_11_18, fld_11_19, arr_11_19, fld_11_20, arr_11_20, fld_11_21, arr_11_21, fld_11_24, arr_11_24, fld_11_25, arr_11_25, fld_11_60, fld_11_61, fld_11_53, fld_11_54, nI_clamp, inb_nI, nI_leI, nI_ltI, nI_eq, nI_z, nI_ge0, nI_lt0, nI_add, n00, n11, n01, n10, true_or, or_true, not_true_eq_false, not_false_eq_true, bI_0, bI_z, Nat.le_refl, Nat.lt_irrefl, Nat.reduceLT, Nat.reduceEqDiff, nI_gt0, nI_le0]
        rw [lb_204009]
        have w' := x.1
        have g33 := x.2.1
        have c1 := x.2.2.2.1
        have c2 := x.2.2.2.2
        simp (disch := first | assumption | omega) only [Nat.reduceAdd, Nat.reduceLeDiff, Nat.zero_le, true_and, and_true, ↓reduceIte, wB_const, wB_lconst, wB_ldc, wB_getstatic, wB_dupi, wB_dupr, wB_dup2, wB_popi, wB_iadd, wB_isub, wB_imul, wB_iand, wB_ior, wB_ixor, wB_ishl, wB_ishr, wB_iushr, wB_ineg, wB_ladd, wB_lsub, wB_lmul, wB_land, wB_lneg, wB_i2l, wB_l2i, wB_lcmp, wB_idiv, wB_irem, wB_ldiv, wB_lrem, wB_goto, wB_nop, wB_ifeq, wB_ifne, wB_iflt, wB_ifge, wB_ifgt, wB_ifle, wB_icmpeq, wB_icmpne, wB_icmplt, wB_icmpge, wB_icmpgt, wB_icmple, wB_table, wB_lookup, wB_ireturn, wB_zreturn, wB_lreturn, wB_areturn, wB_return, wB_getf, wB_putf, wB_iald, wB_bald, wB_lald, wB_iast, wB_bast, wB_last, wB_min, wB_max, wB_abs, wB_minl, wB_maxl, wB_absl, wB_obj, wB_copy, wB_charAt, wB_strlen, sr_k1i, sr_k1r, sr_k1U, sr_k1l, sr_ms1, sr_ms0, sr_msn, sr_cs1, sr_csm1, sr_csm2, sr_cl1, sr_cl2, sr_szi, sr_szr, sr_szl, sr_szn, sr_tls, sr_tln, wB_il0, wB_ll0, wB_al0, wB_is0, wB_as0, wB_inc0, wB_ls0, wB_il1, wB_ll1, wB_al1, wB_is1, wB_as1, wB_inc1, wB_ls1, wB_il2, wB_ll2, wB_al2, wB_is2, wB_as2, wB_inc2, wB_ls2, wB_il3, wB_ll3, wB_al3, wB_is3, wB_as3, wB_inc3, wB_ls3, wB_il4, wB_ll4, wB_al4, wB_is4, wB_as4, wB_inc4, wB_ls4, wB_il5, wB_ll5, wB_al5, wB_is5, wB_as5, wB_inc5, wB_ls5, wB_il6, wB_ll6, wB_al6, wB_is6, wB_as6, wB_inc6, wB_ls6, wB_il7, wB_ll7, wB_al7, wB_is7, wB_as7, wB_inc7, wB_ls7, lb_204001, lb_204002, lb_204003, lb_204004, lb_204005, lb_204006, lb_204007, lb_204008, lb_204011, cl_186, cl_174, cl_190, cl_203, cl_212, obj_11, fld_11_0, fld_11_2, fld_11_28, fld_11_29, fld_11_33, fld_11_34, fld_11_22, arr_11_22, fld_11_23, arr_11_23, fld_11_26, fld_11_27, fld_11_37, fld_11_38, fld_11_31, fld_11_35, fld_11_36, fld_11_3, arr_11_3, fld_11_4, arr_11_4, fld_11_5, arr_11_5, fld_11_6, arr_11_6, fld_11_7, arr_11_7, fld_11_8, arr_11_8, fld_11_9, arr_11_9, fld_11_10, arr_11_10, fld_11_11, arr_11_11, fld_11_12, arr_11_12, fld_11_13, arr_11_13, fld_11_14, arr_11_14, fld_11_15, arr_11_15, fld_11_16, arr_11_16, fld_11_17, arr_11_17, fld_11_18, arr_11_18, fld_11_19, arr_11_19, fld_11_20, arr_11_20, fld_11_21, arr_11_21, fld_11_24, arr_11_24, fld_11_25, arr_11_25, fld_11_60, fld_11_61, fld_11_53, fld_11_54, nI_clamp, inb_nI, nI_leI, nI_ltI, nI_eq, nI_z, nI_ge0, nI_lt0, nI_add, n00, n11, n01, n10, true_or, or_true, not_true_eq_false, not_false_eq_true, bI_0, bI_z, Nat.le_refl, Nat.lt_irrefl, Nat.reduceLT, Nat.reduceEqDiff, nI_gt0, nI_le0, w', g33, show ¬ e.1 = 0 by omega]
        exact z _ _
      | inr a =>
        intro h' dy' f' s'
        obtain ⟨g1, g2, g3⟩ := lnLine_ok (y' := a.1) (p' := a.2) hp hy hl
        have e7 := hb.1
        simp (disch := first | assumption | omega) only [Nat.reduceAdd, Nat.reduceLeDiff, Nat.zero_le, true_and, and_true, ↓reduceIte, wB_const, wB_lconst, wB_ldc, wB_getstatic, wB_dupi, wB_dupr, wB_dup2, wB_popi, wB_iadd, wB_isub, wB_imul, wB_iand, wB_ior, wB_ixor, wB_ishl, wB_ishr, wB_iushr, wB_ineg, wB_ladd, wB_lsub, wB_lmul, wB_land, wB_lneg, wB_i2l, wB_l2i, wB_lcmp, wB_idiv, wB_irem, wB_ldiv, wB_lrem, wB_goto, wB_nop, wB_ifeq, wB_ifne, wB_iflt, wB_ifge, wB_ifgt, wB_ifle, wB_icmpeq, wB_icmpne, wB_icmplt, wB_icmpge, wB_icmpgt, wB_icmple, wB_table, wB_lookup, wB_ireturn, wB_zreturn, wB_lreturn, wB_areturn, wB_return, wB_getf, wB_putf, wB_iald, wB_bald, wB_lald, wB_iast, wB_bast, wB_last, wB_min, wB_max, wB_abs, wB_minl, wB_maxl, wB_absl, wB_obj, wB_copy, wB_charAt, wB_strlen, sr_k1i, sr_k1r, sr_k1U, sr_k1l, sr_ms1, sr_ms0, sr_msn, sr_cs1, sr_csm1, sr_csm2, sr_cl1, sr_cl2, sr_szi, sr_szr, sr_szl, sr_szn, sr_tls, sr_tln, wB_il0, wB_ll0, wB_al0, wB_is0, wB_as0, wB_inc0, wB_ls0, wB_il1, wB_ll1, wB_al1, wB_is1, wB_as1, wB_inc1, wB_ls1, wB_il2, wB_ll2, wB_al2, wB_is2, wB_as2, wB_inc2, wB_ls2, wB_il3, wB_ll3, wB_al3, wB_is3, wB_as3, wB_inc3, wB_ls3, wB_il4, wB_ll4, wB_al4, wB_is4, wB_as4, wB_inc4, wB_ls4, wB_il5, wB_ll5, wB_al5, wB_is5, wB_as5, wB_inc5, wB_ls5, wB_il6, wB_ll6, wB_al6, wB_is6, wB_as6, wB_inc6, wB_ls6, wB_il7, wB_ll7, wB_al7, wB_is7, wB_as7, wB_inc7, wB_ls7, lb_204001, lb_204002, lb_204003, lb_204004, lb_204005, lb_204006, lb_204007, lb_204008, lb_204011, cl_186, cl_174, cl_190, cl_203, cl_212, obj_11, fld_11_0, fld_11_2, fld_11_28, fld_11_29, fld_11_33, fld_11_34, fld_11_22, arr_11_22, fld_11_23, arr_11_23, fld_11_26, fld_11_27, fld_11_37, fld_11_38, fld_11_31, fld_11_35, fld_11_36, fld_11_3, arr_11_3, fld_11_4, arr_11_4, fld_11_5, arr_11_5, fld_11_6, arr_11_6, fld_11_7, arr_11_7, fld_11_8, arr_11_8, fld_11_9, arr_11_9, fld_11_10, arr_11_10, fld_11_11, arr_11_11, fld_11_12, arr_11_12, fld_11_13, arr_11_13, fld_11_14, arr_11_14, fld_11_15, arr_11_15, fld_11_16, arr_11_16, fld_11_17, arr_11_17, fld_11_18, arr_11_18, fld_11_19, arr_11_19, fld_11_20, arr_11_20, fld_11_21, arr_11_21, fld_11_24, arr_11_24, fld_11_25, arr_11_25, fld_11_60, fld_11_61, fld_11_53, fld_11_54, nI_clamp, inb_nI, nI_leI, nI_ltI, nI_eq, nI_z, nI_ge0, nI_lt0, nI_add, n00, n11, n01, n10, true_or, or_true, not_true_eq_false, not_false_eq_true, bI_0, bI_z, Nat.le_refl, Nat.lt_irrefl, Nat.reduceLT, Nat.reduceEqDiff, nI_gt0, nI_le0]
        exact r_textLoop hb f _ _ h' (by omega) g2.2 (Wz_9 g1 (by omega)) (DPY_r (fun i j hi => vs_n (by omega)) dy') (by rw [vs_y]; omega) (f0.tr f') s' kf k1 _ _
