/-! The reference parses: any line. -/
def DPY (y : V) : Prop := ∀ k, k < 3 → y 19 k < y 20 k → dpe y (y 20 k - y 19 k) (y 19 k) 0 1
theorem DPY_r {y y' : V} (e : ∀ i j, 19 ≤ i → y' i j = y i j) (d : DPY y) : DPY y' := fun k hk h => by
  rw [e 19 k (by omega), e 20 k (by omega)] at h ⊢
  exact dpe_eq _ _ _ (fun j _ _ => e 21 j (by omega)) (d k hk h)
theorem DPY_law {y y' : V} {k : Nat} (hk : k < 3) (hy : Wz y) (kp : kpt (vs y 19 k (y 0 13)) y') (lt : y 0 13 < y' 0 13) (c : CD (vs y 19 k (y 0 13)) y') (d : DPY y) : DPY (vs y' 20 k (y' 0 13)) := by
  obtain ⟨c1, c2, c3⟩ := c
  have e13 : vs y 19 k (y 0 13) 0 13 = y 0 13 := vs_n (by omega)
  have e21 : ∀ i, vs y 19 k (y 0 13) 21 i = y 21 i := fun i => vs_n (by omega)
  rw [e13] at c1 c3
  intro j hj h
  have z19 : vs y' 20 k (y' 0 13) 19 j = y' 19 j := vs_n (by omega)
  have z21 : ∀ i, vs y' 20 k (y' 0 13) 21 i = y' 21 i := fun i => vs_n (by omega)
  have k19 : y' 19 j = vs y 19 k (y 0 13) 19 j := kp.2 19 j (by omega) (by omega) (by omega)
  by_cases q : j = k
  · subst q
    rw [z19, k19, vs_y] at h ⊢
    rw [vs_y] at h ⊢
    refine dpe_eq _ _ _ (fun i _ _ => z21 i) ?_
    exact c3 0
  · have z20 : vs y' 20 k (y' 0 13) 20 j = y 20 j := (vs_n (by omega)).trans ((kp.2 20 j (by omega) (by omega) (by omega)).trans (vs_n (by omega)))
    have z19' : vs y 19 k (y 0 13) 19 j = y 19 j := vs_n (by omega)
    rw [z19, k19, z19', z20] at h ⊢
    have b := hy.1.2.2.2.2.2.1 j hj
    refine dpe_eq _ _ _ (fun i g1 g2 => ?_) (d j hj h)
    rw [z21, c2 i (by rw [e13]; omega), e21]
/-- how a line goes on, its laws' code kept well -/
def LN (h : sr_H) (b : Nat → Nat) (n : Nat) (Q : sr_T) (o : PR) : Prop := match o with
  | .inl e => ∀ h', FJ h h' → XF h' e → Q none h'
  | .inr a => ∀ h', DPY a.1 → FJ h h' → PJ h' b n (vs a.1 0 9 (a.1 0 9 + 1)) a.2 0 → Q none h'
theorem LN_LK {h : sr_H} {b : Nat → Nat} {n : Nat} {Q : sr_T} {o : PR} (hd : ∀ y' p', o = .inr (y', p') → DPY y') (k : LN h b n Q o) : LK h b n Q o := by
  cases o with
  | inl e => exact k
  | inr a => exact fun h' f s => k h' (hd a.1 a.2 rfl) f s
theorem LN_tr {h h1 : sr_H} {b : Nat → Nat} {n : Nat} {Q : sr_T} {o : PR} (f : FJ h h1) (k : LN h b n Q o) : LN h1 b n Q o := by
  cases o with
  | inl e => exact fun h' f' x => k h' (f.tr f') x
  | inr a => exact fun h' d f' x => k h' d (f.tr f') x
theorem pend_y {b : Nat → Nat} {n p p' : Nat} {y y' : V} (e : pend b n y p = .inr (y', p')) : y' = y := by
  unfold pend at e
  split at e
  · cases e; rfl
  · cases e
theorem rw_room {b : Nat → Nat} {n p p' : Nat} {y y' : V} (e : lnRoom b n y p = .inr (y', p')) : ∀ i j, 19 ≤ i → y' i j = y i j := by
  unfold lnRoom at e
  split at e
  · cases e
  split at e
  · obtain ⟨a, -, e⟩ := bd_i e
    obtain ⟨c, -, e⟩ := bd_i e
    rw [pend_y e]
    intro i j hi
    rw [vs_n (by omega), vs_n (by omega), vs_n (by omega)]
  · cases e
theorem rw_moth {b : Nat → Nat} {n p p' : Nat} {y y' : V} (e : lnMoth b n y p = .inr (y', p')) : ∀ i j, 19 ≤ i → y' i j = y i j := by
  unfold lnMoth at e
  split at e
  · obtain ⟨a, -, e⟩ := bd_i e
    rw [pend_y e]
    intro i j hi
    rw [vs_n (by omega), vs_n (by omega)]
  · cases e
theorem rw_seed {b : Nat → Nat} {n p p' : Nat} {y y' : V} (e : lnSeed b n y p = .inr (y', p')) : ∀ i j, 19 ≤ i → y' i j = y i j := by
  unfold lnSeed at e
  split at e
  · obtain ⟨a, -, e⟩ := bd_i e
    rw [pend_y e]
    intro i j hi
    rw [vs_n (by omega), vs_n (by omega)]
  · cases e
theorem rw_folk {b : Nat → Nat} {n p p' : Nat} {y y' : V} (e : lnFolk b n y p = .inr (y', p')) : ∀ i j, 19 ≤ i → y' i j = y i j := by
  unfold lnFolk at e
  split at e
  · cases e
  split at e
  · split at e
    · obtain ⟨a, -, e⟩ := bd_i e
      obtain ⟨r, -, e⟩ := bd_i e
      obtain ⟨c, -, e⟩ := bd_i e
      obtain ⟨w, -, e⟩ := bd_i e
      rw [pend_y e]
      intro i j hi
      exact psh_n (by omega) (by omega)
    · cases e
  · cases e
theorem rw_carry {b : Nat → Nat} {n p p' : Nat} {y y' : V} (e : lnCarry b n y p = .inr (y', p')) : ∀ i j, 19 ≤ i → y' i j = y i j := by
  unfold lnCarry at e
  split at e
  · cases e
  split at e
  · split at e
    · cases e
    · obtain ⟨a, -, e⟩ := bd_i e
      obtain ⟨r, -, e⟩ := bd_i e
      obtain ⟨c, -, e⟩ := bd_i e
      rw [pend_y e]
      intro i j hi
      exact psh_n (by omega) (by omega)
  · cases e
theorem rw_step {b : Nat → Nat} {n p p' : Nat} {y y' : V} (e : lnStep b n y p = .inr (y', p')) : ∀ i j, 19 ≤ i → y' i j = y i j := by
  unfold lnStep at e
  split at e
  · cases e
  split at e
  · split at e
    · cases e
    · obtain ⟨a, -, e⟩ := bd_i e
      obtain ⟨r, -, e⟩ := bd_i e
      rw [pend_y e]
      intro i j hi
      exact psh_n (by omega) (by omega)
  · cases e
theorem rw_screen {b : Nat → Nat} {n p p' : Nat} {y y' : V} (e : lnScreen b n y p = .inr (y', p')) : ∀ i j, 19 ≤ i → y' i j = y i j := by
  unfold lnScreen at e
  split at e
  · cases e
  split at e
  · split at e
    · obtain ⟨a, -, e⟩ := bd_i e
      obtain ⟨r, -, e⟩ := bd_i e
      obtain ⟨c, -, e⟩ := bd_i e
      obtain ⟨l, -, e⟩ := bd_i e
      obtain ⟨u, -, e⟩ := bd_i e
      split at e
      · rw [pend_y e]
        intro i j hi
        exact psh_n (by omega) (by omega)
      · cases e
    · cases e
  · cases e
theorem scB_pend {b : Nat → Nat} {n p : Nat} {y : V} (h : ¬ 5 ≤ y 0 2) : lnScreen b n y p = bd (scB b n y (tN b n p)) (fun a => pend b n a.1 a.2) := by
  unfold lnScreen scB
  rw [if_neg h]
  by_cases q : tK b n (tN b n p) = 3
  · rw [if_pos q, if_pos q]
    by_cases q2 : sNm y (tV b n (tN b n p)) = 0
    · rw [if_pos q2, if_pos q2]
      simp only [bd_bd]
      congr 1
      funext a
      congr 1
      funext r
      congr 1
      funext c
      congr 1
      funext l
      congr 1
      funext u
      by_cases q3 : fit (vs (xo y) 4 (y 0 2) l.1) (y 0 2) r.1 c.1 u.1
      · rw [if_pos q3, if_pos q3]; rfl
      · rw [if_neg q3, if_neg q3]; rfl
    · rw [if_neg q2, if_neg q2]; rfl
  · rw [if_neg q, if_neg q]; rfl
set_option maxHeartbeats 4000000 in
set_option maxRecDepth 100000 in
theorem ln_endB {d n p O : Nat} {b : Nat → Nat} {y : V} {h : sr_H} {Q : sr_T} {A B C D : Value} (hp : p ≤ n) (s : PJ h b n y p O) (q : ¬ tK b n p = 4) (k : LK h b n Q (.inl (1, p))) : sr_W (d + 10) 190014 [.ref 141, A, B, C, D] [] h Q := by
  have w := s.1.1
  have e33 := s.2.2.1.1
  have i1 := fun (Q : sr_T) => r_isSign (d := d + 9) (c := 59) (Q := Q) s (by omega)
  have pk := PJ_K (h := h) (op := 0) (y := y) (b := b) hp
  rw [lb_190014]
  have qq : ¬ ((4 ≤ tK b n p ∧ tK b n p ≤ 16) ∧ sch (tK b n p) = 59) := fun z => q (pk.mp z)
  obtain ⟨x2, f2⟩ := XF_w s (k := 1) (by omega) (by omega)
  have wr := fun (k : Nat) (Q : sr_T) => r_wrong0 (d := d + 9) (k := nI k) (Q := Q) w e33
  have w2 := x2.1
  have e27 : fI (sF (sF h 141 33 (.int (nI 1))) 141 34 (.int (fI h 141 30))) 141 27 = nI (y 0 9) := by rw [fI_n (by omega), fI_n (by omega)]; exact s.2.2.2.2.1.2.1
  have f3 := f2.tr (FJ_f (j := 27) (v := nI (y 0 9 + 1)) (erI (fld_11_27 w2).2) (by omega))
  have z := k _ f3 ⟨s.1.1.ss f3.1, by rw [fI_n (by omega)]; exact x2.2.1, by rw [fI_n (by omega)]; exact x2.2.2.1, x2.2.2.2⟩
  simp (disch := first | assumption | omega | (simp (disch := assumption) only [sr_szn, sr_szi, sr_szr, sr_szl, Nat.reduceAdd, Nat.reduceLeDiff, Nat.zero_le, Nat.le_refl, isA_sI, isA_sJ, isA_sC, isA_sF, isI_sI, isI_sJ, isI_sC, isI_sF, isJ_sI, isJ_sJ, isJ_sC, isJ_sF, oK_sI, oK_sJ, oK_sC, oK_sF, lI_sI, lI_sJ, lI_sC, lI_sF, oC_sI, oC_sJ, oC_sC, oC_sF, obj_11, fld_11_31, fld_11_32, fld_11_26, fld_11_33, fld_11_10, arr_11_10, fld_11_11, arr_11_11, fld_11_12, arr_11_12, fld_11_13, arr_11_13, fld_11_14, arr_11_14, fld_11_15, arr_11_15, fld_11_4, arr_11_4, fld_11_16, arr_11_16, fld_11_17, arr_11_17, fld_11_18, arr_11_18, fld_11_19, arr_11_19, fld_11_20, arr_11_20, fld_11_21, arr_11_21, fld_11_27])) only [Nat.reduceAdd, Nat.reduceLeDiff, Nat.zero_le, true_and, and_true, ↓reduceIte, wB_const, wB_lconst, wB_ldc, wB_getstatic, wB_dupi, wB_dupr, wB_dup2, wB_popi, wB_iadd, wB_isub, wB_imul, wB_iand, wB_ior, wB_ixor, wB_ishl, wB_ishr, wB_iushr, wB_ineg, wB_ladd, wB_lsub, wB_lmul, wB_land, wB_lneg, wB_i2l, wB_l2i, wB_lcmp, wB_idiv, wB_irem, wB_ldiv, wB_lrem, wB_goto, wB_nop, wB_ifeq, wB_ifne, wB_iflt, wB_ifge, wB_ifgt, wB_ifle, wB_icmpeq, wB_icmpne, wB_icmplt, wB_icmpge, wB_icmpgt, wB_icmple, wB_table, wB_lookup, wB_ireturn, wB_zreturn, wB_lreturn, wB_areturn, wB_return, wB_getf, wB_putf, wB_iald, wB_bald, wB_lald, wB_iast, wB_bast, wB_last, wB_min, wB_max, wB_abs, wB_minl, wB_maxl, wB_absl, wB_obj, wB_copy, wB_charAt, wB_strlen, sr_k1i, sr_k1r, sr_k1U, sr_k1l, sr_ms1, sr_ms0, sr_msn, sr_cs1, sr_csm1, sr_csm2, sr_cl1, sr_cl2, sr_szi, sr_szr, sr_szl, sr_szn, sr_tls, sr_tln, wB_il0, wB_ll0, wB_al0, wB_is0, wB_as0, wB_inc0, wB_ls0, wB_il1, wB_ll1, wB_al1, wB_is1, wB_as1, wB_inc1, wB_ls1, wB_il2, wB_ll2, wB_al2, wB_is2, wB_as2, wB_inc2, wB_ls2, wB_il3, wB_ll3, wB_al3, wB_is3, wB_as3, wB_inc3, wB_ls3, wB_il4, wB_ll4, wB_al4, wB_is4, wB_as4, wB_inc4, wB_ls4, wB_il5, wB_ll5, wB_al5, wB_is5, wB_as5, wB_inc5, wB_ls5, wB_il6, wB_ll6, wB_al6, wB_is6, wB_as6, wB_inc6, wB_ls6, wB_il7, wB_ll7, wB_al7, wB_is7, wB_as7, wB_inc7, wB_ls7, lb_190001, lb_190002, lb_190003, lb_190004, lb_190005, lb_190006, lb_190007, lb_190008, lb_190009, lb_190010, lb_190011, lb_190012, lb_190013, lb_190014, lb_190015, lb_190016, lb_190017, cl_185, cl_178, cl_188, cl_189, cl_174, cl_182, cl_186, cl_193, cl_184, cl_187, cl_194, cl_180, sw_190, Nat.reduceEqDiff, obj_11, fld_11_31, fld_11_32, fld_11_26, fld_11_33, fld_11_10, arr_11_10, fld_11_11, arr_11_11, fld_11_12, arr_11_12, fld_11_13, arr_11_13, fld_11_14, arr_11_14, fld_11_15, arr_11_15, fld_11_4, arr_11_4, fld_11_16, arr_11_16, fld_11_17, arr_11_17, fld_11_18, arr_11_18, fld_11_19, arr_11_19, fld_11_20, arr_11_20, fld_11_21, arr_11_21, fld_11_27, nI_clamp, inb_nI, nI_leI, nI_ltI, nI_eq, nI_z, nI_ge0, nI_lt0, nI_add, n00, n11, n01, n10, true_or, or_true, not_true_eq_false, not_false_eq_true, bI_0, bI_z, Nat.le_refl, Nat.lt_irrefl, Nat.reduceLT, Nat.reduceEqDiff, nI_gt0, nI_le0, w, e33, i1, qq, wr, w2, e27, sr_okI, lI_sI, lI_sJ, lI_sC, lI_sF, lZ_sI, lZ_sJ, lZ_sC, lZ_sF, lJ_sI, lJ_sJ, lJ_sC, lJ_sF, oC_sI, oC_sJ, oC_sC, oC_sF, oF_sI, oF_sJ, oF_sC, oF_sF, sI_1, sJ_1, sF_1, sC_1, sr_okI, sr_okJ, sr_okR, sr_okZ, hI_sJ, hI_sF, hJ_sI, hJ_sF, hJ_sC, hF_sI, hF_sJ, hF_sC, fI_sI, fI_sJ, fI_sC, fJ_sI, fJ_sJ, fJ_sC, hI_n, hI_y, hJ_n, hJ_y, hF_n, hF_y, fI_n, fI_y, fJ_n, fJ_y, hI_c]
  exact z
set_option maxHeartbeats 4000000 in
set_option maxRecDepth 100000 in
theorem ln_screen {d n p : Nat} {b : Nat → Nat} {y : V} {h : sr_H} {Q : sr_T} {A B C D : Value} (hb : Wb b n) (hp : p ≤ n) (hy : Wy y) (hc : y 0 2 < 5) (s : PJ h b n y p 0) (k : LK h b n Q (bd (scB b n y p) (fun a => pend b n a.1 a.2))) (hq : ∀ y' p', scB b n y p = .inr (y', p') → p' ≤ n) : sr_W (d + 13) 190007 [.ref 141, A, B, C, D] [] h Q := by
  have w := s.1.1
  have ifc := fun (Q : sr_T) => r_fresher (d := d + 12) (j := 2) (Q := Q) w (by omega) (s.2.2.2.1.1 2 (by omega))
  rw [lb_190007]
  simp (disch := first | assumption | omega) only [Nat.reduceAdd, Nat.reduceLeDiff, Nat.zero_le, true_and, and_true, ↓reduceIte, wB_const, wB_lconst, wB_ldc, wB_getstatic, wB_dupi, wB_dupr, wB_dup2, wB_popi, wB_iadd, wB_isub, wB_imul, wB_iand, wB_ior, wB_ixor, wB_ishl, wB_ishr, wB_iushr, wB_ineg, wB_ladd, wB_lsub, wB_lmul, wB_land, wB_lneg, wB_i2l, wB_l2i, wB_lcmp, wB_idiv, wB_irem, wB_ldiv, wB_lrem, wB_goto, wB_nop, wB_ifeq, wB_ifne, wB_iflt, wB_ifge, wB_ifgt, wB_ifle, wB_icmpeq, wB_icmpne, wB_icmplt, wB_icmpge, wB_icmpgt, wB_icmple, wB_table, wB_lookup, wB_ireturn, wB_zreturn, wB_lreturn, wB_areturn, wB_return, wB_getf, wB_putf, wB_iald, wB_bald, wB_lald, wB_iast, wB_bast, wB_last, wB_min, wB_max, wB_abs, wB_minl, wB_maxl, wB_absl, wB_obj, wB_copy, wB_charAt, wB_strlen, sr_k1i, sr_k1r, sr_k1U, sr_k1l, sr_ms1, sr_ms0, sr_msn, sr_cs1, sr_csm1, sr_csm2, sr_cl1, sr_cl2, sr_szi, sr_szr, sr_szl, sr_szn, sr_tls, sr_tln, wB_il0, wB_ll0, wB_al0, wB_is0, wB_as0, wB_inc0, wB_ls0, wB_il1, wB_ll1, wB_al1, wB_is1, wB_as1, wB_inc1, wB_ls1, wB_il2, wB_ll2, wB_al2, wB_is2, wB_as2, wB_inc2, wB_ls2, wB_il3, wB_ll3, wB_al3, wB_is3, wB_as3, wB_inc3, wB_ls3, wB_il4, wB_ll4, wB_al4, wB_is4, wB_as4, wB_inc4, wB_ls4, wB_il5, wB_ll5, wB_al5, wB_is5, wB_as5, wB_inc5, wB_ls5, wB_il6, wB_ll6, wB_al6, wB_is6, wB_as6, wB_inc6, wB_ls6, wB_il7, wB_ll7, wB_al7, wB_is7, wB_as7, wB_inc7, wB_ls7, lb_190001, lb_190002, lb_190003, lb_190004, lb_190005, lb_190006, lb_190007, lb_190008, lb_190009, lb_190010, lb_190011, lb_190012, lb_190013, lb_190015, lb_190016, lb_190017, cl_185, cl_178, cl_188, cl_189, cl_174, cl_182, cl_186, cl_193, cl_184, cl_187, cl_194, cl_180, sw_190, Nat.reduceEqDiff, obj_11, fld_11_31, fld_11_32, fld_11_26, fld_11_33, fld_11_10, arr_11_10, fld_11_11, arr_11_11, fld_11_12, arr_11_12, fld_11_13, arr_11_13, fld_11_14, arr_11_14, fld_11_15, arr_11_15, fld_11_4, arr_11_4, fld_11_16, arr_11_16, fld_11_17, arr_11_17, fld_11_18, arr_11_18, fld_11_19, arr_11_19, fld_11_20, arr_11_20, fld_11_21, arr_11_21, fld_11_27, nI_clamp, inb_nI, nI_leI, nI_ltI, nI_eq, nI_z, nI_ge0, nI_lt0, nI_add, n00, n11, n01, n10, true_or, or_true, not_true_eq_false, not_false_eq_true, bI_0, bI_z, Nat.le_refl, Nat.lt_irrefl, Nat.reduceLT, Nat.reduceEqDiff, nI_gt0, nI_le0, w, ifc]
  refine r_screenLine (d := d) hb hp hy hc s ?_
  generalize scB b n y p = o at *
  cases o with
  | inl e =>
    intro h' f x
    have z := fun A B C D => ln_endF (d := d + 13) (A := A) (B := B) (C := C) (D := D) x (LK_tr f k)
    simp (disch := first | assumption | omega) only [Nat.reduceAdd, Nat.reduceLeDiff, Nat.zero_le, true_and, and_true, ↓reduceIte, wB_const, wB_lconst, wB_ldc, wB_getstatic, wB_dupi, wB_dupr, wB_dup2, wB_popi, wB_iadd, wB_isub, wB_imul, wB_iand, wB_ior, wB_ixor, wB_ishl, wB_ishr, wB_iushr, wB_ineg, wB_ladd, wB_lsub, wB_lmul, wB_land, wB_lneg, wB_i2l, wB_l2i, wB_lcmp, wB_idiv, wB_irem, wB_ldiv, wB_lrem, wB_goto, wB_nop, wB_ifeq, wB_ifne, wB_iflt, wB_ifge, wB_ifgt, wB_ifle, wB_icmpeq, wB_icmpne, wB_icmplt, wB_icmpge, wB_icmpgt, wB_icmple, wB_table, wB_lookup, wB_ireturn, wB_zreturn, wB_lreturn, wB_areturn, wB_return, wB_getf, wB_putf, wB_iald, wB_bald, wB_lald, wB_iast, wB_bast, wB_last, wB_min, wB_max, wB_abs, wB_minl, wB_maxl, wB_absl, wB_obj, wB_copy, wB_charAt, wB_strlen, sr_k1i, sr_k1r, sr_k1U, sr_k1l, sr_ms1, sr_ms0, sr_msn, sr_cs1, sr_csm1, sr_csm2, sr_cl1, sr_cl2, sr_szi, sr_szr, sr_szl, sr_szn, sr_tls, sr_tln, wB_il0, wB_ll0, wB_al0, wB_is0, wB_as0, wB_inc0, wB_ls0, wB_il1, wB_ll1, wB_al1, wB_is1, wB_as1, wB_inc1, wB_ls1, wB_il2, wB_ll2, wB_al2, wB_is2, wB_as2, wB_inc2, wB_ls2, wB_il3, wB_ll3, wB_al3, wB_is3, wB_as3, wB_inc3, wB_ls3, wB_il4, wB_ll4, wB_al4, wB_is4, wB_as4, wB_inc4, wB_ls4, wB_il5, wB_ll5, wB_al5, wB_is5, wB_as5, wB_inc5, wB_ls5, wB_il6, wB_ll6, wB_al6, wB_is6, wB_as6, wB_inc6, wB_ls6, wB_il7, wB_ll7, wB_al7, wB_is7, wB_as7, wB_inc7, wB_ls7, lb_190001, lb_190002, lb_190003, lb_190004, lb_190005, lb_190006, lb_190007, lb_190008, lb_190009, lb_190010, lb_190011, lb_190012, lb_190013, lb_190015, lb_190016, lb_190017, cl_185, cl_178, cl_188, cl_189, cl_174, cl_182, cl_186, cl_193, cl_184, cl_187, cl_194, cl_180, sw_190, Nat.reduceEqDiff, obj_11, fld_11_31, fld_11_32, fld_11_26, fld_11_33, fld_11_10, arr_11_10, fld_11_11, arr_11_11, fld_11_12, arr_11_12, fld_11_13, arr_11_13, fld_11_14, arr_11_14, fld_11_15, arr_11_15, fld_11_4, arr_11_4, fld_11_16, arr_11_16, fld_11_17, arr_11_17, fld_11_18, arr_11_18, fld_11_19, arr_11_19, fld_11_20, arr_11_20, fld_11_21, arr_11_21, fld_11_27, nI_clamp, inb_nI, nI_leI, nI_ltI, nI_eq, nI_z, nI_ge0, nI_lt0, nI_add, n00, n11, n01, n10, true_or, or_true, not_true_eq_false, not_false_eq_true, bI_0, bI_z, Nat.le_refl, Nat.lt_irrefl, Nat.reduceLT, Nat.reduceEqDiff, nI_gt0, nI_le0]
    exact z _ _ _ _
  | inr a =>
    intro h' f s'
    have z := fun A B C D => ln_end (d := d + 3) (A := A) (B := B) (C := C) (D := D) hb (hq a.1 a.2 rfl) s' (LK_tr f k)
    simp (disch := first | assumption | omega) only [Nat.reduceAdd, Nat.reduceLeDiff, Nat.zero_le, true_and, and_true, ↓reduceIte, wB_const, wB_lconst, wB_ldc, wB_getstatic, wB_dupi, wB_dupr, wB_dup2, wB_popi, wB_iadd, wB_isub, wB_imul, wB_iand, wB_ior, wB_ixor, wB_ishl, wB_ishr, wB_iushr, wB_ineg, wB_ladd, wB_lsub, wB_lmul, wB_land, wB_lneg, wB_i2l, wB_l2i, wB_lcmp, wB_idiv, wB_irem, wB_ldiv, wB_lrem, wB_goto, wB_nop, wB_ifeq, wB_ifne, wB_iflt, wB_ifge, wB_ifgt, wB_ifle, wB_icmpeq, wB_icmpne, wB_icmplt, wB_icmpge, wB_icmpgt, wB_icmple, wB_table, wB_lookup, wB_ireturn, wB_zreturn, wB_lreturn, wB_areturn, wB_return, wB_getf, wB_putf, wB_iald, wB_bald, wB_lald, wB_iast, wB_bast, wB_last, wB_min, wB_max, wB_abs, wB_minl, wB_maxl, wB_absl, wB_obj, wB_copy, wB_charAt, wB_strlen, sr_k1i, sr_k1r, sr_k1U, sr_k1l, sr_ms1, sr_ms0, sr_msn, sr_cs1, sr_csm1, sr_csm2, sr_cl1, sr_cl2, sr_szi, sr_szr, sr_szl, sr_szn, sr_tls, sr_tln, wB_il0, wB_ll0, wB_al0, wB_is0, wB_as0, wB_inc0, wB_ls0, wB_il1, wB_ll1, wB_al1, wB_is1, wB_as1, wB_inc1, wB_ls1, wB_il2, wB_ll2, wB_al2, wB_is2, wB_as2, wB_inc2, wB_ls2, wB_il3, wB_ll3, wB_al3, wB_is3, wB_as3, wB_inc3, wB_ls3, wB_il4, wB_ll4, wB_al4, wB_is4, wB_as4, wB_inc4, wB_ls4, wB_il5, wB_ll5, wB_al5, wB_is5, wB_as5, wB_inc5, wB_ls5, wB_il6, wB_ll6, wB_al6, wB_is6, wB_as6, wB_inc6, wB_ls6, wB_il7, wB_ll7, wB_al7, wB_is7, wB_as7, wB_inc7, wB_ls7, lb_190001, lb_190002, lb_190003, lb_190004, lb_190005, lb_190006, lb_190007, lb_190008, lb_190009, lb_190010, lb_190011, lb_190012, lb_190013, lb_190015, lb_190016, lb_190017, cl_185, cl_178, cl_188, cl_189, cl_174, cl_182, cl_186, cl_193, cl_184, cl_187, cl_194, cl_180, sw_190, Nat.reduceEqDiff, obj_11, fld_11_31, fld_11_32, fld_11_26, fld_11_33, fld_11_10, arr_11_10, fld_11_11, arr_11_11, fld_11_12, arr_11_12, fld_11_13, arr_11_13, fld_11_14, arr_11_14, fld_11_15, arr_11_15, fld_11_4, arr_11_4, fld_11_16, arr_11_16, fld_11_17, arr_11_17, fld_11_18, arr_11_18, fld_11_19, arr_11_19, fld_11_20, arr_11_20, fld_11_21, arr_11_21, fld_11_27, nI_clamp, inb_nI, nI_leI, nI_ltI, nI_eq, nI_z, nI_ge0, nI_lt0, nI_add, n00, n11, n01, n10, true_or, or_true, not_true_eq_false, not_false_eq_true, bI_0, bI_z, Nat.le_refl, Nat.lt_irrefl, Nat.reduceLT, Nat.reduceEqDiff, nI_gt0, nI_le0]
    exact z _ _ _ _
theorem scB_p {b : Nat → Nat} {n p : Nat} {y : V} (hp : p ≤ n) (y' : V) (p' : Nat) (e : scB b n y p = .inr (y', p')) : p' ≤ n := by
  unfold scB at e
  split at e
  · next q =>
    split at e
    · have pl := (tN_lt (b := b) hp (by omega)).2
      obtain ⟨a, ha, e⟩ := bd_i e
      have p1 := (pnum_sp pl ha).2.1
      obtain ⟨r, hr, e⟩ := bd_i e
      have p2 := (pnum_sp p1 hr).2.1
      obtain ⟨c, hc, e⟩ := bd_i e
      have p3 := (pnum_sp p2 hc).2.1
      obtain ⟨l, hl, e⟩ := bd_i e
      have p4 := (pnum_sp p3 hl).2.1
      obtain ⟨u, hu, e⟩ := bd_i e
      have p5 := (pnum_sp p4 hu).2.1
      split at e
      · cases e; exact p5
      · cases e
    · cases e
  · cases e
set_option maxHeartbeats 4000000 in
set_option maxRecDepth 100000 in
theorem ln_law {d n p : Nat} {b : Nat → Nat} {y : V} {h : sr_H} {Q : sr_T} {A B C D : Value} (hb : Wb b n) (hp : p ≤ n) (hy : Wz y) (dy : DPY y) (s : PJ h b n y p 0) (k : LN h b n Q (if 28 ≤ tK b n p ∧ tK b n p ≤ 30 then (if y 19 (tK b n p - 28) < y 20 (tK b n p - 28) then .inl (3, p) else bd (lRun b n 701 (vs y 19 (tK b n p - 28) (y 0 13)) (tN b n p) [] 0 0 1 1) (fun a => pend b n (vs a.1 20 (tK b n p - 28) (a.1 0 13)) a.2)) else .inl (1, p))) : sr_W (d + 151) 190013 [.ref 141, A, B, C, D] [] h Q := by
  have w := s.1.1
  rw [lb_190013]
  simp (disch := first | assumption | omega) only [Nat.reduceAdd, Nat.reduceLeDiff, Nat.zero_le, true_and, and_true, ↓reduceIte, wB_const, wB_lconst, wB_ldc, wB_getstatic, wB_dupi, wB_dupr, wB_dup2, wB_popi, wB_iadd, wB_isub, wB_imul, wB_iand, wB_ior, wB_ixor, wB_ishl, wB_ishr, wB_iushr, wB_ineg, wB_ladd, wB_lsub, wB_lmul, wB_land, wB_lneg, wB_i2l, wB_l2i, wB_lcmp, wB_idiv, wB_irem, wB_ldiv, wB_lrem, wB_goto, wB_nop, wB_ifeq, wB_ifne, wB_iflt, wB_ifge, wB_ifgt, wB_ifle, wB_icmpeq, wB_icmpne, wB_icmplt, wB_icmpge, wB_icmpgt, wB_icmple, wB_table, wB_lookup, wB_ireturn, wB_zreturn, wB_lreturn, wB_areturn, wB_return, wB_getf, wB_putf, wB_iald, wB_bald, wB_lald, wB_iast, wB_bast, wB_last, wB_min, wB_max, wB_abs, wB_minl, wB_maxl, wB_absl, wB_obj, wB_copy, wB_charAt, wB_strlen, sr_k1i, sr_k1r, sr_k1U, sr_k1l, sr_ms1, sr_ms0, sr_msn, sr_cs1, sr_csm1, sr_csm2, sr_cl1, sr_cl2, sr_szi, sr_szr, sr_szl, sr_szn, sr_tls, sr_tln, wB_il0, wB_ll0, wB_al0, wB_is0, wB_as0, wB_inc0, wB_ls0, wB_il1, wB_ll1, wB_al1, wB_is1, wB_as1, wB_inc1, wB_ls1, wB_il2, wB_ll2, wB_al2, wB_is2, wB_as2, wB_inc2, wB_ls2, wB_il3, wB_ll3, wB_al3, wB_is3, wB_as3, wB_inc3, wB_ls3, wB_il4, wB_ll4, wB_al4, wB_is4, wB_as4, wB_inc4, wB_ls4, wB_il5, wB_ll5, wB_al5, wB_is5, wB_as5, wB_inc5, wB_ls5, wB_il6, wB_ll6, wB_al6, wB_is6, wB_as6, wB_inc6, wB_ls6, wB_il7, wB_ll7, wB_al7, wB_is7, wB_as7, wB_inc7, wB_ls7, lb_190001, lb_190002, lb_190003, lb_190004, lb_190005, lb_190006, lb_190007, lb_190008, lb_190009, lb_190010, lb_190011, lb_190012, lb_190013, lb_190015, lb_190016, lb_190017, cl_185, cl_178, cl_188, cl_189, cl_174, cl_182, cl_186, cl_193, cl_184, cl_187, cl_194, cl_180, sw_190, Nat.reduceEqDiff, obj_11, fld_11_31, fld_11_32, fld_11_26, fld_11_33, fld_11_10, arr_11_10, fld_11_11, arr_11_11, fld_11_12, arr_11_12, fld_11_13, arr_11_13, fld_11_14, arr_11_14, fld_11_15, arr_11_15, fld_11_4, arr_11_4, fld_11_16, arr_11_16, fld_11_17, arr_11_17, fld_11_18, arr_11_18, fld_11_19, arr_11_19, fld_11_20, arr_11_20, fld_11_21, arr_11_21, fld_11_27, nI_clamp, inb_nI, nI_leI, nI_ltI, nI_eq, nI_z, nI_ge0, nI_lt0, nI_add, n00, n11, n01, n10, true_or, or_true, not_true_eq_false, not_false_eq_true, bI_0, bI_z, Nat.le_refl, Nat.lt_irrefl, Nat.reduceLT, Nat.reduceEqDiff, nI_gt0, nI_le0, w]
  refine r_lawLine (d := d) hb hp hy s (fun q h' f x => ?_) (fun q q2 h' f x => ?_) (fun q q2 => ?_)
  · rw [if_neg q] at k
    have z := fun A B C D => ln_endF (d := d + 151) (b := b) (n := n) (A := A) (B := B) (C := C) (D := D) x (fun h2 f2 x2 => k h2 (f.tr f2) x2)
    simp (disch := first | assumption | omega) only [Nat.reduceAdd, Nat.reduceLeDiff, Nat.zero_le, true_and, and_true, ↓reduceIte, wB_const, wB_lconst, wB_ldc, wB_getstatic, wB_dupi, wB_dupr, wB_dup2, wB_popi, wB_iadd, wB_isub, wB_imul, wB_iand, wB_ior, wB_ixor, wB_ishl, wB_ishr, wB_iushr, wB_ineg, wB_ladd, wB_lsub, wB_lmul, wB_land, wB_lneg, wB_i2l, wB_l2i, wB_lcmp, wB_idiv, wB_irem, wB_ldiv, wB_lrem, wB_goto, wB_nop, wB_ifeq, wB_ifne, wB_iflt, wB_ifge, wB_ifgt, wB_ifle, wB_icmpeq, wB_icmpne, wB_icmplt, wB_icmpge, wB_icmpgt, wB_icmple, wB_table, wB_lookup, wB_ireturn, wB_zreturn, wB_lreturn, wB_areturn, wB_return, wB_getf, wB_putf, wB_iald, wB_bald, wB_lald, wB_iast, wB_bast, wB_last, wB_min, wB_max, wB_abs, wB_minl, wB_maxl, wB_absl, wB_obj, wB_copy, wB_charAt, wB_strlen, sr_k1i, sr_k1r, sr_k1U, sr_k1l, sr_ms1, sr_ms0, sr_msn, sr_cs1, sr_csm1, sr_csm2, sr_cl1, sr_cl2, sr_szi, sr_szr, sr_szl, sr_szn, sr_tls, sr_tln, wB_il0, wB_ll0, wB_al0, wB_is0, wB_as0, wB_inc0, wB_ls0, wB_il1, wB_ll1, wB_al1, wB_is1, wB_as1, wB_inc1, wB_ls1, wB_il2, wB_ll2, wB_al2, wB_is2, wB_as2, wB_inc2, wB_ls2, wB_il3, wB_ll3, wB_al3, wB_is3, wB_as3, wB_inc3, wB_ls3, wB_il4, wB_ll4, wB_al4, wB_is4, wB_as4, wB_inc4, wB_ls4, wB_il5, wB_ll5, wB_al5, wB_is5, wB_as5, wB_inc5, wB_ls5, wB_il6, wB_ll6, wB_al6, wB_is6, wB_as6, wB_inc6, wB_ls6, wB_il7, wB_ll7, wB_al7, wB_is7, wB_as7, wB_inc7, wB_ls7, lb_190001, lb_190002, lb_190003, lb_190004, lb_190005, lb_190006, lb_190007, lb_190008, lb_190009, lb_190010, lb_190011, lb_190012, lb_190013, lb_190015, lb_190016, lb_190017, cl_185, cl_178, cl_188, cl_189, cl_174, cl_182, cl_186, cl_193, cl_184, cl_187, cl_194, cl_180, sw_190, Nat.reduceEqDiff, obj_11, fld_11_31, fld_11_32, fld_11_26, fld_11_33, fld_11_10, arr_11_10, fld_11_11, arr_11_11, fld_11_12, arr_11_12, fld_11_13, arr_11_13, fld_11_14, arr_11_14, fld_11_15, arr_11_15, fld_11_4, arr_11_4, fld_11_16, arr_11_16, fld_11_17, arr_11_17, fld_11_18, arr_11_18, fld_11_19, arr_11_19, fld_11_20, arr_11_20, fld_11_21, arr_11_21, fld_11_27, nI_clamp, inb_nI, nI_leI, nI_ltI, nI_eq, nI_z, nI_ge0, nI_lt0, nI_add, n00, n11, n01, n10, true_or, or_true, not_true_eq_false, not_false_eq_true, bI_0, bI_z, Nat.le_refl, Nat.lt_irrefl, Nat.reduceLT, Nat.reduceEqDiff, nI_gt0, nI_le0]
    exact z _ _ _ _
  · rw [if_pos q, if_pos q2] at k
    have z := fun A B C D => ln_endF (d := d + 151) (b := b) (n := n) (A := A) (B := B) (C := C) (D := D) x (fun h2 f2 x2 => k h2 (f.tr f2) x2)
    simp (disch := first | assumption | omega) only [Nat.reduceAdd, Nat.reduceLeDiff, Nat.zero_le, true_and, and_true, ↓reduceIte, wB_const, wB_lconst, wB_ldc, wB_getstatic, wB_dupi, wB_dupr, wB_dup2, wB_popi, wB_iadd, wB_isub, wB_imul, wB_iand, wB_ior, wB_ixor, wB_ishl, wB_ishr, wB_iushr, wB_ineg, wB_ladd, wB_lsub, wB_lmul, wB_land, wB_lneg, wB_i2l, wB_l2i, wB_lcmp, wB_idiv, wB_irem, wB_ldiv, wB_lrem, wB_goto, wB_nop, wB_ifeq, wB_ifne, wB_iflt, wB_ifge, wB_ifgt, wB_ifle, wB_icmpeq, wB_icmpne, wB_icmplt, wB_icmpge, wB_icmpgt, wB_icmple, wB_table, wB_lookup, wB_ireturn, wB_zreturn, wB_lreturn, wB_areturn, wB_return, wB_getf, wB_putf, wB_iald, wB_bald, wB_lald, wB_iast, wB_bast, wB_last, wB_min, wB_max, wB_abs, wB_minl, wB_maxl, wB_absl, wB_obj, wB_copy, wB_charAt, wB_strlen, sr_k1i, sr_k1r, sr_k1U, sr_k1l, sr_ms1, sr_ms0, sr_msn, sr_cs1, sr_csm1, sr_csm2, sr_cl1, sr_cl2, sr_szi, sr_szr, sr_szl, sr_szn, sr_tls, sr_tln, wB_il0, wB_ll0, wB_al0, wB_is0, wB_as0, wB_inc0, wB_ls0, wB_il1, wB_ll1, wB_al1, wB_is1, wB_as1, wB_inc1, wB_ls1, wB_il2, wB_ll2, wB_al2, wB_is2, wB_as2, wB_inc2, wB_ls2, wB_il3, wB_ll3, wB_al3, wB_is3, wB_as3, wB_inc3, wB_ls3, wB_il4, wB_ll4, wB_al4, wB_is4, wB_as4, wB_inc4, wB_ls4, wB_il5, wB_ll5, wB_al5, wB_is5, wB_as5, wB_inc5, wB_ls5, wB_il6, wB_ll6, wB_al6, wB_is6, wB_as6, wB_inc6, wB_ls6, wB_il7, wB_ll7, wB_al7, wB_is7, wB_as7, wB_inc7, wB_ls7, lb_190001, lb_190002, lb_190003, lb_190004, lb_190005, lb_190006, lb_190007, lb_190008, lb_190009, lb_190010, lb_190011, lb_190012, lb_190013, lb_190015, lb_190016, lb_190017, cl_185, cl_178, cl_188, cl_189, cl_174, cl_182, cl_186, cl_193, cl_184, cl_187, cl_194, cl_180, sw_190, Nat.reduceEqDiff, obj_11, fld_11_31, fld_11_32, fld_11_26, fld_11_33, fld_11_10, arr_11_10, fld_11_11, arr_11_11, fld_11_12, arr_11_12, fld_11_13, arr_11_13, fld_11_14, arr_11_14, fld_11_15, arr_11_15, fld_11_4, arr_11_4, fld_11_16, arr_11_16, fld_11_17, arr_11_17, fld_11_18, arr_11_18, fld_11_19, arr_11_19, fld_11_20, arr_11_20, fld_11_21, arr_11_21, fld_11_27, nI_clamp, inb_nI, nI_leI, nI_ltI, nI_eq, nI_z, nI_ge0, nI_lt0, nI_add, n00, n11, n01, n10, true_or, or_true, not_true_eq_false, not_false_eq_true, bI_0, bI_z, Nat.le_refl, Nat.lt_irrefl, Nat.reduceLT, Nat.reduceEqDiff, nI_gt0, nI_le0]
    exact z _ _ _ _
  · rw [if_pos q, if_neg q2] at k
    have hk3 : tK b n p - 28 < 3 := by omega
    have tn := tN_lt (b := b) hp (by omega)
    have e13 : vs y 19 (tK b n p - 28) (y 0 13) 0 13 = y 0 13 := vs_n (by omega)
    have e08 : vs y 19 (tK b n p - 28) (y 0 13) 0 8 = y 0 8 := vs_n (by omega)
    have h13 := hy.2
    have h64 := hy.1.1.2.2.2.2.2.2.2.2.1
    have lok := fun y' p' (hl : lRun b n 701 (vs y 19 (tK b n p - 28) (y 0 13)) (tN b n p) [] 0 0 1 1 = .inr (y', p')) => lRun_ok (b := b) (n := n) 701 (vs y 19 (tK b n p - 28) (y 0 13)) (tN b n p) [] 0 0 1 1 y' p' (y 0 13) tn.2 ⟨by show vs y 19 (tK b n p - 28) (y 0 13) 0 13 + 0 = _; omega, by omega, rfl, by omega, by omega, by omega, by omega, fun k hk => by cases hk⟩ ⟨by omega, fun z => by omega⟩ hl
    clear q q2
    generalize lRun b n 701 (vs y 19 (tK b n p - 28) (y 0 13)) (tN b n p) [] 0 0 1 1 = LL at k lok ⊢
    generalize tK b n p - 28 = kk at *
    cases LL with
    | inl e =>
      refine ⟨fun h' f x => ?_, fun y' p' h' ee hp' n4 f s' => ?_⟩
      · have z := fun A B C D => ln_endF (d := d + 151) (b := b) (n := n) (A := A) (B := B) (C := C) (D := D) x (fun h2 f2 x2 => k h2 (f.tr f2) x2)
        simp (disch := first | assumption | omega) only [Nat.reduceAdd, Nat.reduceLeDiff, Nat.zero_le, true_and, and_true, ↓reduceIte, wB_const, wB_lconst, wB_ldc, wB_getstatic, wB_dupi, wB_dupr, wB_dup2, wB_popi, wB_iadd, wB_isub, wB_imul, wB_iand, wB_ior, wB_ixor, wB_ishl, wB_ishr, wB_iushr, wB_ineg, wB_ladd, wB_lsub, wB_lmul, wB_land, wB_lneg, wB_i2l, wB_l2i, wB_lcmp, wB_idiv, wB_irem, wB_ldiv, wB_lrem, wB_goto, wB_nop, wB_ifeq, wB_ifne, wB_iflt, wB_ifge, wB_ifgt, wB_ifle, wB_icmpeq, wB_icmpne, wB_icmplt, wB_icmpge, wB_icmpgt, wB_icmple, wB_table, wB_lookup, wB_ireturn, wB_zreturn, wB_lreturn, wB_areturn, wB_return, wB_getf, wB_putf, wB_iald, wB_bald, wB_lald, wB_iast, wB_bast, wB_last, wB_min, wB_max, wB_abs, wB_minl, wB_maxl, wB_absl, wB_obj, wB_copy, wB_charAt, wB_strlen, sr_k1i, sr_k1r, sr_k1U, sr_k1l, sr_ms1, sr_ms0, sr_msn, sr_cs1, sr_csm1, sr_csm2, sr_cl1, sr_cl2, sr_szi, sr_szr, sr_szl, sr_szn, sr_tls, sr_tln, wB_il0, wB_ll0, wB_al0, wB_is0, wB_as0, wB_inc0, wB_ls0, wB_il1, wB_ll1, wB_al1, wB_is1, wB_as1, wB_inc1, wB_ls1, wB_il2, wB_ll2, wB_al2, wB_is2, wB_as2, wB_inc2, wB_ls2, wB_il3, wB_ll3, wB_al3, wB_is3, wB_as3, wB_inc3, wB_ls3, wB_il4, wB_ll4, wB_al4, wB_is4, wB_as4, wB_inc4, wB_ls4, wB_il5, wB_ll5, wB_al5, wB_is5, wB_as5, wB_inc5, wB_ls5, wB_il6, wB_ll6, wB_al6, wB_is6, wB_as6, wB_inc6, wB_ls6, wB_il7, wB_ll7, wB_al7, wB_is7, wB_as7, wB_inc7, wB_ls7, lb_190001, lb_190002, lb_190003, lb_190004, lb_190005, lb_190006, lb_190007, lb_190008, lb_190009, lb_190010, lb_190011, lb_190012, lb_190013, lb_190015, lb_190016, lb_190017, cl_185, cl_178, cl_188, cl_189, cl_174, cl_182, cl_186, cl_193, cl_184, cl_187, cl_194, cl_180, sw_190, Nat.reduceEqDiff, obj_11, fld_11_31, fld_11_32, fld_11_26, fld_11_33, fld_11_10, arr_11_10, fld_11_11, arr_11_11, fld_11_12, arr_11_12, fld_11_13, arr_11_13, fld_11_14, arr_11_14, fld_11_15, arr_11_15, fld_11_4, arr_11_4, fld_11_16, arr_11_16, fld_11_17, arr_11_17, fld_11_18, arr_11_18, fld_11_19, arr_11_19, fld_11_20, arr_11_20, fld_11_21, arr_11_21, fld_11_27, nI_clamp, inb_nI, nI_leI, nI_ltI, nI_eq, nI_z, nI_ge0, nI_lt0, nI_add, n00, n11, n01, n10, true_or, or_true, not_true_eq_false, not_false_eq_true, bI_0, bI_z, Nat.le_refl, Nat.lt_irrefl, Nat.reduceLT, Nat.reduceEqDiff, nI_gt0, nI_le0]
        exact z _ _ _ _
      · subst ee
        have z := fun A B C D => ln_endB (d := d + 141) (A := A) (B := B) (C := C) (D := D) hp' s' n4 (fun h2 f2 x2 => k h2 (f.tr f2) x2)
        simp (disch := first | assumption | omega) only [Nat.reduceAdd, Nat.reduceLeDiff, Nat.zero_le, true_and, and_true, ↓reduceIte, wB_const, wB_lconst, wB_ldc, wB_getstatic, wB_dupi, wB_dupr, wB_dup2, wB_popi, wB_iadd, wB_isub, wB_imul, wB_iand, wB_ior, wB_ixor, wB_ishl, wB_ishr, wB_iushr, wB_ineg, wB_ladd, wB_lsub, wB_lmul, wB_land, wB_lneg, wB_i2l, wB_l2i, wB_lcmp, wB_idiv, wB_irem, wB_ldiv, wB_lrem, wB_goto, wB_nop, wB_ifeq, wB_ifne, wB_iflt, wB_ifge, wB_ifgt, wB_ifle, wB_icmpeq, wB_icmpne, wB_icmplt, wB_icmpge, wB_icmpgt, wB_icmple, wB_table, wB_lookup, wB_ireturn, wB_zreturn, wB_lreturn, wB_areturn, wB_return, wB_getf, wB_putf, wB_iald, wB_bald, wB_lald, wB_iast, wB_bast, wB_last, wB_min, wB_max, wB_abs, wB_minl, wB_maxl, wB_absl, wB_obj, wB_copy, wB_charAt, wB_strlen, sr_k1i, sr_k1r, sr_k1U, sr_k1l, sr_ms1, sr_ms0, sr_msn, sr_cs1, sr_csm1, sr_csm2, sr_cl1, sr_cl2, sr_szi, sr_szr, sr_szl, sr_szn, sr_tls, sr_tln, wB_il0, wB_ll0, wB_al0, wB_is0, wB_as0, wB_inc0, wB_ls0, wB_il1, wB_ll1, wB_al1, wB_is1, wB_as1, wB_inc1, wB_ls1, wB_il2, wB_ll2, wB_al2, wB_is2, wB_as2, wB_inc2, wB_ls2, wB_il3, wB_ll3, wB_al3, wB_is3, wB_as3, wB_inc3, wB_ls3, wB_il4, wB_ll4, wB_al4, wB_is4, wB_as4, wB_inc4, wB_ls4, wB_il5, wB_ll5, wB_al5, wB_is5, wB_as5, wB_inc5, wB_ls5, wB_il6, wB_ll6, wB_al6, wB_is6, wB_as6, wB_inc6, wB_ls6, wB_il7, wB_ll7, wB_al7, wB_is7, wB_as7, wB_inc7, wB_ls7, lb_190001, lb_190002, lb_190003, lb_190004, lb_190005, lb_190006, lb_190007, lb_190008, lb_190009, lb_190010, lb_190011, lb_190012, lb_190013, lb_190015, lb_190016, lb_190017, cl_185, cl_178, cl_188, cl_189, cl_174, cl_182, cl_186, cl_193, cl_184, cl_187, cl_194, cl_180, sw_190, Nat.reduceEqDiff, obj_11, fld_11_31, fld_11_32, fld_11_26, fld_11_33, fld_11_10, arr_11_10, fld_11_11, arr_11_11, fld_11_12, arr_11_12, fld_11_13, arr_11_13, fld_11_14, arr_11_14, fld_11_15, arr_11_15, fld_11_4, arr_11_4, fld_11_16, arr_11_16, fld_11_17, arr_11_17, fld_11_18, arr_11_18, fld_11_19, arr_11_19, fld_11_20, arr_11_20, fld_11_21, arr_11_21, fld_11_27, nI_clamp, inb_nI, nI_leI, nI_ltI, nI_eq, nI_z, nI_ge0, nI_lt0, nI_add, n00, n11, n01, n10, true_or, or_true, not_true_eq_false, not_false_eq_true, bI_0, bI_z, Nat.le_refl, Nat.lt_irrefl, Nat.reduceLT, Nat.reduceEqDiff, nI_gt0, nI_le0]
        exact z _ _ _ _
    | inr a =>
      intro t4 hp' cd h' f s'
      have lo := lok a.1 a.2 rfl
      have dn := DPY_law hk3 hy lo.2.2.2.2.1 lo.2.2.1 cd dy
      have z := fun A B C D => ln_end (d := d + 141) (A := A) (B := B) (C := C) (D := D) hb hp' s' (LN_LK (fun y2 p2 e2 => by rw [pend_y e2]; exact dn) (LN_tr f k))
      simp (disch := first | assumption | omega) only [Nat.reduceAdd, Nat.reduceLeDiff, Nat.zero_le, true_and, and_true, ↓reduceIte, wB_const, wB_lconst, wB_ldc, wB_getstatic, wB_dupi, wB_dupr, wB_dup2, wB_popi, wB_iadd, wB_isub, wB_imul, wB_iand, wB_ior, wB_ixor, wB_ishl, wB_ishr, wB_iushr, wB_ineg, wB_ladd, wB_lsub, wB_lmul, wB_land, wB_lneg, wB_i2l, wB_l2i, wB_lcmp, wB_idiv, wB_irem, wB_ldiv, wB_lrem, wB_goto, wB_nop, wB_ifeq, wB_ifne, wB_iflt, wB_ifge, wB_ifgt, wB_ifle, wB_icmpeq, wB_icmpne, wB_icmplt, wB_icmpge, wB_icmpgt, wB_icmple, wB_table, wB_lookup, wB_ireturn, wB_zreturn, wB_lreturn, wB_areturn, wB_return, wB_getf, wB_putf, wB_iald, wB_bald, wB_lald, wB_iast, wB_bast, wB_last, wB_min, wB_max, wB_abs, wB_minl, wB_maxl, wB_absl, wB_obj, wB_copy, wB_charAt, wB_strlen, sr_k1i, sr_k1r, sr_k1U, sr_k1l, sr_ms1, sr_ms0, sr_msn, sr_cs1, sr_csm1, sr_csm2, sr_cl1, sr_cl2, sr_szi, sr_szr, sr_szl, sr_szn, sr_tls, sr_tln, wB_il0, wB_ll0, wB_al0, wB_is0, wB_as0, wB_inc0, wB_ls0, wB_il1, wB_ll1, wB_al1, wB_is1, wB_as1, wB_inc1, wB_ls1, wB_il2, wB_ll2, wB_al2, wB_is2, wB_as2, wB_inc2, wB_ls2, wB_il3, wB_ll3, wB_al3, wB_is3, wB_as3, wB_inc3, wB_ls3, wB_il4, wB_ll4, wB_al4, wB_is4, wB_as4, wB_inc4, wB_ls4, wB_il5, wB_ll5, wB_al5, wB_is5, wB_as5, wB_inc5, wB_ls5, wB_il6, wB_ll6, wB_al6, wB_is6, wB_as6, wB_inc6, wB_ls6, wB_il7, wB_ll7, wB_al7, wB_is7, wB_as7, wB_inc7, wB_ls7, lb_190001, lb_190002, lb_190003, lb_190004, lb_190005, lb_190006, lb_190007, lb_190008, lb_190009, lb_190010, lb_190011, lb_190012, lb_190013, lb_190015, lb_190016, lb_190017, cl_185, cl_178, cl_188, cl_189, cl_174, cl_182, cl_186, cl_193, cl_184, cl_187, cl_194, cl_180, sw_190, Nat.reduceEqDiff, obj_11, fld_11_31, fld_11_32, fld_11_26, fld_11_33, fld_11_10, arr_11_10, fld_11_11, arr_11_11, fld_11_12, arr_11_12, fld_11_13, arr_11_13, fld_11_14, arr_11_14, fld_11_15, arr_11_15, fld_11_4, arr_11_4, fld_11_16, arr_11_16, fld_11_17, arr_11_17, fld_11_18, arr_11_18, fld_11_19, arr_11_19, fld_11_20, arr_11_20, fld_11_21, arr_11_21, fld_11_27, nI_clamp, inb_nI, nI_leI, nI_ltI, nI_eq, nI_z, nI_ge0, nI_lt0, nI_add, n00, n11, n01, n10, true_or, or_true, not_true_eq_false, not_false_eq_true, bI_0, bI_z, Nat.le_refl, Nat.lt_irrefl, Nat.reduceLT, Nat.reduceEqDiff, nI_gt0, nI_le0]
      exact z _ _ _ _
