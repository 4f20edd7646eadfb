/-! Screens: the other methods. -/
theorem lp_iff {W : Nat → Prop} {R : Prop} (N : Nat) (st : ∀ i, i < N → (W i ↔ W (i + 1))) (fin : W N ↔ R) : W 0 ↔ R := by
  have : ∀ n i, n + i = N → (W i ↔ R) := by
    intro n
    induction n with
    | zero =>
      intro i hi
      have : i = N := by omega
      subst this
      exact fin
    | succ n ih =>
      intro i hi
      exact (st i (by omega)).trans (ih (i + 1) (by omega))
  exact this N 0 rfl
/-- a loop that changes the heap -/
theorem lp_h {W : Nat → sr_H → Prop} (I : Nat → sr_H → Prop) (N : Nat) (st : ∀ i h, i < N → I i h → (∀ h', I (i + 1) h' → W (i + 1) h') → W i h) (fin : ∀ h, I N h → W N h) (h : sr_H) (h0 : I 0 h) : W 0 h := by
  have : ∀ n i h, n + i = N → I i h → W i h := by
    intro n
    induction n with
    | zero =>
      intro i h hi hI
      have : i = N := by omega
      subst this
      exact fin h hI
    | succ n ih =>
      intro i h hi hI
      exact st i h (by omega) hI (fun h' h2 => ih (i + 1) h' (by omega) h2)
  exact this N 0 h rfl h0
def sm (f : Nat → Nat) : Nat → Nat
  | 0 => 0
  | n + 1 => sm f n + f n
theorem sm_le {f : Nat → Nat} {b : Nat} (h : ∀ n, f n ≤ b) : ∀ n, sm f n ≤ b * n
  | 0 => Nat.le_refl _
  | n + 1 => by
    have h1 := sm_le h n
    have h2 := h n
    have : b * (n + 1) = b * n + b := Nat.mul_succ b n
    unfold sm
    omega
def tf (p : Prop) (dp : Decidable p) : Nat := if p then 1 else 0
theorem tf_le {p : Prop} {dp : Decidable p} : tf p dp ≤ 1 := by
  unfold tf
  split <;> omega
theorem tf_1 {p : Prop} {dp : Decidable p} (h : p) : tf p dp = 1 := if_pos h
theorem tf_0 {p : Prop} {dp : Decidable p} (h : ¬ p) : tf p dp = 0 := if_neg h
set_option maxHeartbeats 4000000 in
set_option maxRecDepth 100000 in
theorem m_refresh {d S : Nat} {h : sr_H} {Q : sr_T} {x : V} (w : Scr h S) (hx : Wx x) (rp : SC h S x) (k : ∀ h', RF h h' S → KC h' S x → Q none h') : sr_M (d + 3) 100 [.ref S] h Q := by
  have hR := hx.1
  simp (disch := first | assumption | omega) only [Nat.reduceAdd, Nat.reduceLeDiff, Nat.zero_le, true_and, and_true, ↓reduceIte, wB_const, wB_lconst, wB_ldc, wB_getstatic, wB_dupi, wB_dupr, wB_dup2, wB_popi, wB_iadd, wB_isub, wB_imul, wB_iand, wB_ior, wB_ixor, wB_ishl, wB_ishr, wB_iushr, wB_ineg, wB_ladd, wB_lsub, wB_lmul, wB_land, wB_lneg, wB_i2l, wB_l2i, wB_lcmp, wB_idiv, wB_irem, wB_ldiv, wB_lrem, wB_goto, wB_nop, wB_ifeq, wB_ifne, wB_iflt, wB_ifge, wB_ifgt, wB_ifle, wB_icmpeq, wB_icmpne, wB_icmplt, wB_icmpge, wB_icmpgt, wB_icmple, wB_table, wB_lookup, wB_ireturn, wB_zreturn, wB_lreturn, wB_areturn, wB_return, wB_getf, wB_putf, wB_iald, wB_bald, wB_lald, wB_iast, wB_bast, wB_last, wB_min, wB_max, wB_abs, wB_minl, wB_maxl, wB_absl, wB_obj, wB_copy, wB_charAt, wB_strlen, sr_k1i, sr_k1r, sr_k1U, sr_k1l, sr_ms1, sr_ms0, sr_msn, sr_cs1, sr_csm1, sr_csm2, sr_cl1, sr_cl2, sr_szi, sr_szr, sr_szl, sr_szn, sr_tls, sr_tln, wB_il0, wB_ll0, wB_al0, wB_is0, wB_as0, wB_inc0, wB_ls0, wB_il1, wB_ll1, wB_al1, wB_is1, wB_as1, wB_inc1, wB_ls1, wB_il2, wB_ll2, wB_al2, wB_is2, wB_as2, wB_inc2, wB_ls2, wB_il3, wB_ll3, wB_al3, wB_is3, wB_as3, wB_inc3, wB_ls3, wB_il4, wB_ll4, wB_al4, wB_is4, wB_as4, wB_inc4, wB_ls4, wB_il5, wB_ll5, wB_al5, wB_is5, wB_as5, wB_inc5, wB_ls5, wB_il6, wB_ll6, wB_al6, wB_is6, wB_as6, wB_inc6, wB_ls6, wB_il7, wB_ll7, wB_al7, wB_is7, wB_as7, wB_inc7, wB_ls7, lb_100002, lb_100006, lb_100007, lb_100008, lb_100009, lb_100010, lb_100011, lb_100012, lb_100013, cl_93, cl_297, cl_99, cl_98, cl_85, obj_6, fld_6_4, fld_6_2, fld_6_10, arr_6_10, fld_6_0, fld_6_1, fld_6_3, fld_6_11, arr_6_11, fld_6_5, arr_6_5, fld_6_12, arr_6_12, fld_6_13, arr_6_13, nI_clamp, inb_nI, nI_leI, nI_ltI, nI_eq, nI_z, nI_ge0, nI_lt0, nI_add, n00, n11, n01, n10, true_or, or_true, not_true_eq_false, not_false_eq_true, bI_0, bI_z, Nat.le_refl, Nat.lt_irrefl, Nat.reduceLT, en_100, w, sr_okI]
  refine ref_1 w hx rp ?_ (xN x) 0 _ rfl (RF.sF w RF.rf) ?_
  · intro h1 f1 e1
    rw [lb_100003]
    simp (disch := first | assumption | omega) only [Nat.reduceAdd, Nat.reduceLeDiff, Nat.zero_le, true_and, and_true, ↓reduceIte, wB_const, wB_lconst, wB_ldc, wB_getstatic, wB_dupi, wB_dupr, wB_dup2, wB_popi, wB_iadd, wB_isub, wB_imul, wB_iand, wB_ior, wB_ixor, wB_ishl, wB_ishr, wB_iushr, wB_ineg, wB_ladd, wB_lsub, wB_lmul, wB_land, wB_lneg, wB_i2l, wB_l2i, wB_lcmp, wB_idiv, wB_irem, wB_ldiv, wB_lrem, wB_goto, wB_nop, wB_ifeq, wB_ifne, wB_iflt, wB_ifge, wB_ifgt, wB_ifle, wB_icmpeq, wB_icmpne, wB_icmplt, wB_icmpge, wB_icmpgt, wB_icmple, wB_table, wB_lookup, wB_ireturn, wB_zreturn, wB_lreturn, wB_areturn, wB_return, wB_getf, wB_putf, wB_iald, wB_bald, wB_lald, wB_iast, wB_bast, wB_last, wB_min, wB_max, wB_abs, wB_minl, wB_maxl, wB_absl, wB_obj, wB_copy, wB_charAt, wB_strlen, sr_k1i, sr_k1r, sr_k1U, sr_k1l, sr_ms1, sr_ms0, sr_msn, sr_cs1, sr_csm1, sr_csm2, sr_cl1, sr_cl2, sr_szi, sr_szr, sr_szl, sr_szn, sr_tls, sr_tln, wB_il0, wB_ll0, wB_al0, wB_is0, wB_as0, wB_inc0, wB_ls0, wB_il1, wB_ll1, wB_al1, wB_is1, wB_as1, wB_inc1, wB_ls1, wB_il2, wB_ll2, wB_al2, wB_is2, wB_as2, wB_inc2, wB_ls2, wB_il3, wB_ll3, wB_al3, wB_is3, wB_as3, wB_inc3, wB_ls3, wB_il4, wB_ll4, wB_al4, wB_is4, wB_as4, wB_inc4, wB_ls4, wB_il5, wB_ll5, wB_al5, wB_is5, wB_as5, wB_inc5, wB_ls5, wB_il6, wB_ll6, wB_al6, wB_is6, wB_as6, wB_inc6, wB_ls6, wB_il7, wB_ll7, wB_al7, wB_is7, wB_as7, wB_inc7, wB_ls7, lb_100002, lb_100006, lb_100007, lb_100008, lb_100009, lb_100010, lb_100011, lb_100012, lb_100013, cl_93, cl_297, cl_99, cl_98, cl_85, obj_6, fld_6_4, fld_6_2, fld_6_10, arr_6_10, fld_6_0, fld_6_1, fld_6_3, fld_6_11, arr_6_11, fld_6_5, arr_6_5, fld_6_12, arr_6_12, fld_6_13, arr_6_13, nI_clamp, inb_nI, nI_leI, nI_ltI, nI_eq, nI_z, nI_ge0, nI_lt0, nI_add, n00, n11, n01, n10, true_or, or_true, not_true_eq_false, not_false_eq_true, bI_0, bI_z, Nat.le_refl, Nat.lt_irrefl, Nat.reduceLT]
    refine lp_h (W := fun i h => sr_W (d + 2) 100004 [.ref S, .int (nI i), sr_U, sr_U, sr_U, sr_U] [] h Q) (fun i h' => RF h h' S ∧ fI h' S 4 = nI (whl x) ∧ KB h' S x i 0) (xR x) ?_ ?_ h1 ⟨f1, e1, fun r' c' _ _ q => by omega⟩
    · rintro i h2 hi ⟨f2, e2, kb⟩ kk
      have w2 := w.ss f2.1.1
      have rp2 := f2.sc rp
      have g1 := rp2.1
      have hlt : ¬ xR x ≤ i := by omega
      rw [lb_100004]
      simp (disch := first | assumption | omega) only [Nat.reduceAdd, Nat.reduceLeDiff, Nat.zero_le, true_and, and_true, ↓reduceIte, wB_const, wB_lconst, wB_ldc, wB_getstatic, wB_dupi, wB_dupr, wB_dup2, wB_popi, wB_iadd, wB_isub, wB_imul, wB_iand, wB_ior, wB_ixor, wB_ishl, wB_ishr, wB_iushr, wB_ineg, wB_ladd, wB_lsub, wB_lmul, wB_land, wB_lneg, wB_i2l, wB_l2i, wB_lcmp, wB_idiv, wB_irem, wB_ldiv, wB_lrem, wB_goto, wB_nop, wB_ifeq, wB_ifne, wB_iflt, wB_ifge, wB_ifgt, wB_ifle, wB_icmpeq, wB_icmpne, wB_icmplt, wB_icmpge, wB_icmpgt, wB_icmple, wB_table, wB_lookup, wB_ireturn, wB_zreturn, wB_lreturn, wB_areturn, wB_return, wB_getf, wB_putf, wB_iald, wB_bald, wB_lald, wB_iast, wB_bast, wB_last, wB_min, wB_max, wB_abs, wB_minl, wB_maxl, wB_absl, wB_obj, wB_copy, wB_charAt, wB_strlen, sr_k1i, sr_k1r, sr_k1U, sr_k1l, sr_ms1, sr_ms0, sr_msn, sr_cs1, sr_csm1, sr_csm2, sr_cl1, sr_cl2, sr_szi, sr_szr, sr_szl, sr_szn, sr_tls, sr_tln, wB_il0, wB_ll0, wB_al0, wB_is0, wB_as0, wB_inc0, wB_ls0, wB_il1, wB_ll1, wB_al1, wB_is1, wB_as1, wB_inc1, wB_ls1, wB_il2, wB_ll2, wB_al2, wB_is2, wB_as2, wB_inc2, wB_ls2, wB_il3, wB_ll3, wB_al3, wB_is3, wB_as3, wB_inc3, wB_ls3, wB_il4, wB_ll4, wB_al4, wB_is4, wB_as4, wB_inc4, wB_ls4, wB_il5, wB_ll5, wB_al5, wB_is5, wB_as5, wB_inc5, wB_ls5, wB_il6, wB_ll6, wB_al6, wB_is6, wB_as6, wB_inc6, wB_ls6, wB_il7, wB_ll7, wB_al7, wB_is7, wB_as7, wB_inc7, wB_ls7, lb_100002, lb_100006, lb_100007, lb_100008, lb_100009, lb_100010, lb_100011, lb_100012, lb_100013, cl_93, cl_297, cl_99, cl_98, cl_85, obj_6, fld_6_4, fld_6_2, fld_6_10, arr_6_10, fld_6_0, fld_6_1, fld_6_3, fld_6_11, arr_6_11, fld_6_5, arr_6_5, fld_6_12, arr_6_12, fld_6_13, arr_6_13, nI_clamp, inb_nI, nI_leI, nI_ltI, nI_eq, nI_z, nI_ge0, nI_lt0, nI_add, n00, n11, n01, n10, true_or, or_true, not_true_eq_false, not_false_eq_true, bI_0, bI_z, Nat.le_refl, Nat.lt_irrefl, Nat.reduceLT, w2, g1, hlt]
      refine ref_in (d := d) w hx rp hi ?_ (xC x) 0 h2 rfl f2 e2 kb
      intro h3 f3 e3 kb3
      rw [lb_100012]
      simp (disch := first | assumption | omega) only [Nat.reduceAdd, Nat.reduceLeDiff, Nat.zero_le, true_and, and_true, ↓reduceIte, wB_const, wB_lconst, wB_ldc, wB_getstatic, wB_dupi, wB_dupr, wB_dup2, wB_popi, wB_iadd, wB_isub, wB_imul, wB_iand, wB_ior, wB_ixor, wB_ishl, wB_ishr, wB_iushr, wB_ineg, wB_ladd, wB_lsub, wB_lmul, wB_land, wB_lneg, wB_i2l, wB_l2i, wB_lcmp, wB_idiv, wB_irem, wB_ldiv, wB_lrem, wB_goto, wB_nop, wB_ifeq, wB_ifne, wB_iflt, wB_ifge, wB_ifgt, wB_ifle, wB_icmpeq, wB_icmpne, wB_icmplt, wB_icmpge, wB_icmpgt, wB_icmple, wB_table, wB_lookup, wB_ireturn, wB_zreturn, wB_lreturn, wB_areturn, wB_return, wB_getf, wB_putf, wB_iald, wB_bald, wB_lald, wB_iast, wB_bast, wB_last, wB_min, wB_max, wB_abs, wB_minl, wB_maxl, wB_absl, wB_obj, wB_copy, wB_charAt, wB_strlen, sr_k1i, sr_k1r, sr_k1U, sr_k1l, sr_ms1, sr_ms0, sr_msn, sr_cs1, sr_csm1, sr_csm2, sr_cl1, sr_cl2, sr_szi, sr_szr, sr_szl, sr_szn, sr_tls, sr_tln, wB_il0, wB_ll0, wB_al0, wB_is0, wB_as0, wB_inc0, wB_ls0, wB_il1, wB_ll1, wB_al1, wB_is1, wB_as1, wB_inc1, wB_ls1, wB_il2, wB_ll2, wB_al2, wB_is2, wB_as2, wB_inc2, wB_ls2, wB_il3, wB_ll3, wB_al3, wB_is3, wB_as3, wB_inc3, wB_ls3, wB_il4, wB_ll4, wB_al4, wB_is4, wB_as4, wB_inc4, wB_ls4, wB_il5, wB_ll5, wB_al5, wB_is5, wB_as5, wB_inc5, wB_ls5, wB_il6, wB_ll6, wB_al6, wB_is6, wB_as6, wB_inc6, wB_ls6, wB_il7, wB_ll7, wB_al7, wB_is7, wB_as7, wB_inc7, wB_ls7, lb_100002, lb_100006, lb_100007, lb_100008, lb_100009, lb_100010, lb_100011, lb_100013, cl_93, cl_297, cl_99, cl_98, cl_85, obj_6, fld_6_4, fld_6_2, fld_6_10, arr_6_10, fld_6_0, fld_6_1, fld_6_3, fld_6_11, arr_6_11, fld_6_5, arr_6_5, fld_6_12, arr_6_12, fld_6_13, arr_6_13, nI_clamp, inb_nI, nI_leI, nI_ltI, nI_eq, nI_z, nI_ge0, nI_lt0, nI_add, n00, n11, n01, n10, true_or, or_true, not_true_eq_false, not_false_eq_true, bI_0, bI_z, Nat.le_refl, Nat.lt_irrefl, Nat.reduceLT]
      exact kk h3 ⟨f3, e3, kb3⟩
    · rintro h2 ⟨f2, e2, kb⟩
      have w2 := w.ss f2.1.1
      have rp2 := f2.sc rp
      have g1 := rp2.1
      rw [lb_100004]
      simp (disch := first | assumption | omega) only [Nat.reduceAdd, Nat.reduceLeDiff, Nat.zero_le, true_and, and_true, ↓reduceIte, wB_const, wB_lconst, wB_ldc, wB_getstatic, wB_dupi, wB_dupr, wB_dup2, wB_popi, wB_iadd, wB_isub, wB_imul, wB_iand, wB_ior, wB_ixor, wB_ishl, wB_ishr, wB_iushr, wB_ineg, wB_ladd, wB_lsub, wB_lmul, wB_land, wB_lneg, wB_i2l, wB_l2i, wB_lcmp, wB_idiv, wB_irem, wB_ldiv, wB_lrem, wB_goto, wB_nop, wB_ifeq, wB_ifne, wB_iflt, wB_ifge, wB_ifgt, wB_ifle, wB_icmpeq, wB_icmpne, wB_icmplt, wB_icmpge, wB_icmpgt, wB_icmple, wB_table, wB_lookup, wB_ireturn, wB_zreturn, wB_lreturn, wB_areturn, wB_return, wB_getf, wB_putf, wB_iald, wB_bald, wB_lald, wB_iast, wB_bast, wB_last, wB_min, wB_max, wB_abs, wB_minl, wB_maxl, wB_absl, wB_obj, wB_copy, wB_charAt, wB_strlen, sr_k1i, sr_k1r, sr_k1U, sr_k1l, sr_ms1, sr_ms0, sr_msn, sr_cs1, sr_csm1, sr_csm2, sr_cl1, sr_cl2, sr_szi, sr_szr, sr_szl, sr_szn, sr_tls, sr_tln, wB_il0, wB_ll0, wB_al0, wB_is0, wB_as0, wB_inc0, wB_ls0, wB_il1, wB_ll1, wB_al1, wB_is1, wB_as1, wB_inc1, wB_ls1, wB_il2, wB_ll2, wB_al2, wB_is2, wB_as2, wB_inc2, wB_ls2, wB_il3, wB_ll3, wB_al3, wB_is3, wB_as3, wB_inc3, wB_ls3, wB_il4, wB_ll4, wB_al4, wB_is4, wB_as4, wB_inc4, wB_ls4, wB_il5, wB_ll5, wB_al5, wB_is5, wB_as5, wB_inc5, wB_ls5, wB_il6, wB_ll6, wB_al6, wB_is6, wB_as6, wB_inc6, wB_ls6, wB_il7, wB_ll7, wB_al7, wB_is7, wB_as7, wB_inc7, wB_ls7, lb_100002, lb_100006, lb_100007, lb_100008, lb_100009, lb_100010, lb_100011, lb_100012, lb_100013, cl_93, cl_297, cl_99, cl_98, cl_85, obj_6, fld_6_4, fld_6_2, fld_6_10, arr_6_10, fld_6_0, fld_6_1, fld_6_3, fld_6_11, arr_6_11, fld_6_5, arr_6_5, fld_6_12, arr_6_12, fld_6_13, arr_6_13, nI_clamp, inb_nI, nI_leI, nI_ltI, nI_eq, nI_z, nI_ge0, nI_lt0, nI_add, n00, n11, n01, n10, true_or, or_true, not_true_eq_false, not_false_eq_true, bI_0, bI_z, Nat.le_refl, Nat.lt_irrefl, Nat.reduceLT, w2, g1]
      exact k h2 f2 ⟨e2, fun r c hr hc => kb r c hr hc (Or.inl hr)⟩
  · rw [fI_sF (fld_6_4 w).1.2, if_pos ⟨rfl, rfl⟩]
    rfl
/-- whose whole leaf is in a cell (by one more; 0: nobody's) -/
def lfN (x : V) (r c : Nat) : Nat := if gF x r c = 0 then giv x (xP x) r c else 0
theorem lfI_N {x : V} {r c : Nat} : lfI x r c = oI (lfN x r c) := by
  unfold lfI lfN
  split
  · rfl
  · rfl
theorem lfN_le {x : V} {r c : Nat} : lfN x r c ≤ xN x := by
  have : giv x (xP x) r c ≤ xN x := (nr_le _).2
  unfold lfN
  split <;> omega
theorem hF_n {h : sr_H} {a k b j : Nat} {x : Value} (hn : ¬ (b = a ∧ j = k)) : hF (sF h a k x) b j = hF h b j := by
  unfold hF sF
  dsimp only
  by_cases hb : b = a
  · subst hb
    have hj : ¬ j = k := fun e => hn ⟨rfl, e⟩
    rcases e : h.2 b with z | z | ⟨c, fs⟩
    · simp
    · simp
    · simp only [if_true, List.getD_eq_getElem?_getD]
      rw [List.getElem?_set_ne (Ne.symm hj)]
  · simp only [hb, if_false]
theorem hF_y {h : sr_H} {a k : Nat} {x : Value} (ha : oK h a k) : hF (sF h a k x) a k = x := by rw [hF_sF ha, if_pos ⟨rfl, rfl⟩]
theorem fI_n {h : sr_H} {a k b j : Nat} {x : Value} (hn : ¬ (b = a ∧ j = k)) : fI (sF h a k x) b j = fI h b j := by unfold fI; rw [hF_n hn]
theorem fI_y {h : sr_H} {a k : Nat} {v : Int32} (ha : oK h a k) : fI (sF h a k (.int v)) a k = v := by rw [fI_sF ha, if_pos ⟨rfl, rfl⟩]
theorem fJ_n {h : sr_H} {a k b j : Nat} {x : Value} (hn : ¬ (b = a ∧ j = k)) : fJ (sF h a k x) b j = fJ h b j := by unfold fJ; rw [hF_n hn]
theorem fJ_y {h : sr_H} {a k : Nat} {v : Int64} (ha : oK h a k) : fJ (sF h a k (.long v)) a k = v := by rw [fJ_sFl ha, if_pos ⟨rfl, rfl⟩]
theorem hI_n {h : sr_H} {a i b j : Nat} {v : Int32} (hn : ¬ (b = a ∧ j = i)) : hI (sI h a i v) b j = hI h b j := by
  unfold hI sI
  dsimp only
  by_cases hb : b = a
  · subst hb
    have hj : ¬ j = i := fun e => hn ⟨rfl, e⟩
    rcases e : h.2 b with ⟨t, n, f⟩ | z | z
    · simp only [if_true]
      exact pk_un hj
    · simp
    · simp
  · simp only [hb, if_false]
theorem hI_y {h : sr_H} {a i : Nat} {v : Int32} (ha : isA h a) : hI (sI h a i v) a i = v := by rw [hI_sI ha, if_pos ⟨rfl, rfl⟩]
theorem hJ_n {h : sr_H} {a i b j : Nat} {v : Int64} (hn : ¬ (b = a ∧ j = i)) : hJ (sJ h a i v) b j = hJ h b j := by
  unfold hJ sJ
  dsimp only
  by_cases hb : b = a
  · subst hb
    have hj : ¬ j = i := fun e => hn ⟨rfl, e⟩
    rcases e : h.2 b with z | ⟨n, f⟩ | z
    · simp
    · simp only [if_true]
      exact pk_uLn hj
    · simp
  · simp only [hb, if_false]
theorem hJ_y {h : sr_H} {a i : Nat} {v : Int64} (ha : isJ h a) : hJ (sJ h a i v) a i = v := by rw [hJ_sJ ha, if_pos ⟨rfl, rfl⟩]
theorem hI_c {h : sr_H} {b sp a dp n q j : Nat} (hn : ¬ q = a) : hI (sC h b sp a dp n) q j = hI h q j := by
  unfold hI sC
  dsimp only
  rw [if_neg hn]
/-- one step -/
def gr (r w : Nat) : Nat := if w = 0 then r - 1 else if w = 2 then r + 1 else r
def gc (c w : Nat) : Nat := if w = 1 then c + 1 else if w = 3 then c - 1 else c
def inn (x : V) (r c w : Nat) : Prop := (¬ (w = 0 ∧ r = 0) ∧ ¬ (w = 3 ∧ c = 0)) ∧ gr r w < xR x ∧ gc c w < xC x
noncomputable def bynd (x : V) (r c w : Nat) : Nat := @ite Nat (inn x r c w ∧ lfN x (gr r w) (gc c w) = 0) (Classical.propDecidable _) (8 * gr r w + gc c w + 1) 0
def onR (w : Nat) : Int32 := if w = 0 then -1 else if w = 2 then nI 1 else nI 0
def onC (w : Nat) : Int32 := if w = 1 then nI 1 else if w = 3 then -1 else nI 0
theorem onR_s : ∀ w, w < 4 → (sr_sa 0).getD w 0 = onR w := by decide
theorem onC_s : ∀ w, w < 4 → (sr_sa 1).getD w 0 = onC w := by decide
theorem nI_dec {n : Nat} (h : 0 < n) : nI n + -1 = nI (n - 1) := by
  obtain ⟨m, rfl⟩ : ∃ m, n = m + 1 := ⟨n - 1, by omega⟩
  rw [pk_m1]
  rfl
theorem inb_m1 {n : Nat} : ¬ inb (nI 0 + -1) n := by
  intro q
  exact q.1 (by decide)
theorem onR_r {r w : Nat} (hw : w < 4) (h : ¬ (w = 0 ∧ r = 0)) : nI r + onR w = nI (gr r w) := by
  unfold onR gr
  by_cases h0 : w = 0
  · rw [if_pos h0, if_pos h0, nI_dec (by omega)]
  · rw [if_neg h0, if_neg h0]
    by_cases h2 : w = 2
    · rw [if_pos h2, if_pos h2, nI_add]
    · rw [if_neg h2, if_neg h2, nI_add]
      rfl
theorem onC_c {c w : Nat} (hw : w < 4) (h : ¬ (w = 3 ∧ c = 0)) : nI c + onC w = nI (gc c w) := by
  unfold onC gc
  by_cases h0 : w = 1
  · rw [if_pos h0, if_pos h0, nI_add]
  · rw [if_neg h0, if_neg h0]
    by_cases h2 : w = 3
    · rw [if_pos h2, if_pos h2, nI_dec (by omega)]
    · rw [if_neg h2, if_neg h2, nI_add]
      rfl
theorem gr_lt {r w n : Nat} (h : r < n) : gr r w < n + 1 := by
  unfold gr
  split
  · omega
  · split <;> omega
theorem gc_lt {r w n : Nat} (h : r < n) : gc r w < n + 1 := by
  unfold gc
  split
  · omega
  · split <;> omega
theorem inn_iff {x : V} {r c w : Nat} (hw : w < 4) (hr : r < 64) (hc : c < 64) : (inb (nI r + onR w) (xR x) ∧ inb (nI c + onC w) (xC x)) ↔ inn x r c w := by
  have h1 := gr_lt (w := w) hr
  have h2 := gc_lt (w := w) hc
  unfold inn
  by_cases a : w = 0 ∧ r = 0
  · obtain ⟨rfl, rfl⟩ := a
    constructor
    · intro q
      exact absurd q.1 inb_m1
    · intro q
      exact absurd ⟨rfl, rfl⟩ q.1.1
  · by_cases b : w = 3 ∧ c = 0
    · obtain ⟨rfl, rfl⟩ := b
      constructor
      · intro q
        exact absurd q.2 inb_m1
      · intro q
        exact absurd ⟨rfl, rfl⟩ q.1.2
    · rw [onR_r hw a, onC_c hw b, inb_nI (by omega), inb_nI (by omega)]
      exact ⟨fun q => ⟨⟨a, b⟩, q⟩, fun q => q.2⟩
/-- the three tables of numbers -/
def stA (j : Nat) : Nat := sr_sb + j
theorem wB_gs {d n j : Nat} {cs : List sr_I} {L S : List Value} {h : sr_H} {Q : sr_T} : sr_B d ((.getstatic n, [j]) :: cs) L S h Q ↔ sr_B d cs L (.ref (stA j) :: S) h Q := Iff.rfl
theorem stA_lt {h : sr_H} {j : Nat} (hm : h.1.1 ≤ 1000) : (stA j < h.1.1) = False := eq_false (by unfold stA sr_sb; omega)
theorem stA_in {j : Nat} (hj : j < 3) : (sr_sb ≤ stA j ∧ stA j < sr_sc) = True := eq_true (by unfold stA sr_sb sr_sc; omega)
theorem stA_0 : (sr_sa (stA 0 - sr_sb)).length = 4 := rfl
theorem stA_1 : (sr_sa (stA 1 - sr_sb)).length = 4 := rfl
theorem stA_2 : (sr_sa (stA 2 - sr_sb)).length = 6 := rfl
theorem stA_r {w : Nat} (hw : w < 4) : (sr_sa (stA 0 - sr_sb)).getD w 0 = onR w := onR_s w hw
theorem stA_c {w : Nat} (hw : w < 4) : (sr_sa (stA 1 - sr_sb)).getD w 0 = onC w := onC_s w hw
set_option maxHeartbeats 4000000 in
set_option maxRecDepth 100000 in
theorem m_beyond {d S r c v : Nat} {h : sr_H} {Q : sr_T} {x : V} (w : Scr h S) (hx : Wx x) (rp : SC h S x) (kc : KC h S x) (hr : r < 64) (hc : c < 64) (hv : v < 4) (hm : h.1.1 ≤ 1000) : sr_M (d + 2) 101 [.ref S, .int (nI r), .int (nI c), .int (nI v)] h Q ↔ Q (some (.int (oI (bynd x r c v)))) h := by
  have hR := hx.1
  have hC := hx.2.1
  have a9 : v ≤ 3 := by omega
  by_cases hi : inn x r c v
  · have g1 := gr_lt (w := v) hr
    have g2 := gc_lt (w := v) hc
    have i1 := inn_iff (x := x) hv hr hc
    have j1 := onR_r (r := r) hv hi.1.1
    have j2 := onC_c (c := c) hv hi.1.2
    rw [j1, j2] at i1
    have hlt := hi.2
    have hcell : 8 * gr r v + gc c v < 64 := by omega
    have k1 := (kc.2 _ _ hi.2.1 hi.2.2).2.2
    rw [lfI_N] at k1
    have hl := lfN_le (x := x) (r := gr r v) (c := gc c v)
    have hN := hx.2.2.1
    have o1 := oI_neg (g := lfN x (gr r v) (gc c v)) (by omega)
    by_cases hf : lfN x (gr r v) (gc c v) = 0
    · simp (disch := first | assumption | omega) only [Nat.reduceAdd, Nat.reduceLeDiff, Nat.zero_le, true_and, and_true, ↓reduceIte, wB_const, wB_lconst, wB_ldc, wB_gs, wB_dupi, wB_dupr, wB_dup2, wB_popi, wB_iadd, wB_isub, wB_imul, wB_iand, wB_ior, wB_ixor, wB_ishl, wB_ishr, wB_iushr, wB_ineg, wB_ladd, wB_lsub, wB_lmul, wB_land, wB_lneg, wB_i2l, wB_l2i, wB_lcmp, wB_idiv, wB_irem, wB_ldiv, wB_lrem, wB_goto, wB_nop, wB_ifeq, wB_ifne, wB_iflt, wB_ifge, wB_ifgt, wB_ifle, wB_icmpeq, wB_icmpne, wB_icmplt, wB_icmpge, wB_icmpgt, wB_icmple, wB_table, wB_lookup, wB_ireturn, wB_zreturn, wB_lreturn, wB_areturn, wB_return, wB_getf, wB_putf, wB_iald, wB_bald, wB_lald, wB_iast, wB_bast, wB_last, wB_min, wB_max, wB_abs, wB_minl, wB_maxl, wB_absl, wB_obj, wB_copy, wB_charAt, wB_strlen, sr_k1i, sr_k1r, sr_k1U, sr_k1l, sr_ms1, sr_ms0, sr_msn, sr_cs1, sr_csm1, sr_csm2, sr_cl1, sr_cl2, sr_szi, sr_szr, sr_szl, sr_szn, sr_tls, sr_tln, wB_il0, wB_ll0, wB_al0, wB_is0, wB_as0, wB_inc0, wB_ls0, wB_il1, wB_ll1, wB_al1, wB_is1, wB_as1, wB_inc1, wB_ls1, wB_il2, wB_ll2, wB_al2, wB_is2, wB_as2, wB_inc2, wB_ls2, wB_il3, wB_ll3, wB_al3, wB_is3, wB_as3, wB_inc3, wB_ls3, wB_il4, wB_ll4, wB_al4, wB_is4, wB_as4, wB_inc4, wB_ls4, wB_il5, wB_ll5, wB_al5, wB_is5, wB_as5, wB_inc5, wB_ls5, wB_il6, wB_ll6, wB_al6, wB_is6, wB_as6, wB_inc6, wB_ls6, wB_il7, wB_ll7, wB_al7, wB_is7, wB_as7, wB_inc7, wB_ls7, lb_101001, lb_101002, lb_101003, lb_101004, lb_101005, cl_92, cl_85, obj_6, fld_6_13, arr_6_13, nI_clamp, inb_nI, nI_leI, nI_ltI, nI_eq, nI_z, nI_ge0, nI_lt0, nI_add, n00, n11, n01, n10, true_or, or_true, not_true_eq_false, not_false_eq_true, bI_0, bI_z, Nat.le_refl, Nat.lt_irrefl, Nat.reduceLT, en_101, w, stA_lt, stA_in, stA_0, stA_1, stA_r, stA_c, a9, hv, j1, j2, m_isCellx w hx rp, hi.2.1, hi.2.2, and_self, m_cellOf, hcell, k1, o1, hf]
      simp only [bynd, hi, hf, and_self, if_true, oI]
      simp
    · simp (disch := first | assumption | omega) only [Nat.reduceAdd, Nat.reduceLeDiff, Nat.zero_le, true_and, and_true, ↓reduceIte, wB_const, wB_lconst, wB_ldc, wB_gs, wB_dupi, wB_dupr, wB_dup2, wB_popi, wB_iadd, wB_isub, wB_imul, wB_iand, wB_ior, wB_ixor, wB_ishl, wB_ishr, wB_iushr, wB_ineg, wB_ladd, wB_lsub, wB_lmul, wB_land, wB_lneg, wB_i2l, wB_l2i, wB_lcmp, wB_idiv, wB_irem, wB_ldiv, wB_lrem, wB_goto, wB_nop, wB_ifeq, wB_ifne, wB_iflt, wB_ifge, wB_ifgt, wB_ifle, wB_icmpeq, wB_icmpne, wB_icmplt, wB_icmpge, wB_icmpgt, wB_icmple, wB_table, wB_lookup, wB_ireturn, wB_zreturn, wB_lreturn, wB_areturn, wB_return, wB_getf, wB_putf, wB_iald, wB_bald, wB_lald, wB_iast, wB_bast, wB_last, wB_min, wB_max, wB_abs, wB_minl, wB_maxl, wB_absl, wB_obj, wB_copy, wB_charAt, wB_strlen, sr_k1i, sr_k1r, sr_k1U, sr_k1l, sr_ms1, sr_ms0, sr_msn, sr_cs1, sr_csm1, sr_csm2, sr_cl1, sr_cl2, sr_szi, sr_szr, sr_szl, sr_szn, sr_tls, sr_tln, wB_il0, wB_ll0, wB_al0, wB_is0, wB_as0, wB_inc0, wB_ls0, wB_il1, wB_ll1, wB_al1, wB_is1, wB_as1, wB_inc1, wB_ls1, wB_il2, wB_ll2, wB_al2, wB_is2, wB_as2, wB_inc2, wB_ls2, wB_il3, wB_ll3, wB_al3, wB_is3, wB_as3, wB_inc3, wB_ls3, wB_il4, wB_ll4, wB_al4, wB_is4, wB_as4, wB_inc4, wB_ls4, wB_il5, wB_ll5, wB_al5, wB_is5, wB_as5, wB_inc5, wB_ls5, wB_il6, wB_ll6, wB_al6, wB_is6, wB_as6, wB_inc6, wB_ls6, wB_il7, wB_ll7, wB_al7, wB_is7, wB_as7, wB_inc7, wB_ls7, lb_101001, lb_101002, lb_101003, lb_101004, lb_101005, cl_92, cl_85, obj_6, fld_6_13, arr_6_13, nI_clamp, inb_nI, nI_leI, nI_ltI, nI_eq, nI_z, nI_ge0, nI_lt0, nI_add, n00, n11, n01, n10, true_or, or_true, not_true_eq_false, not_false_eq_true, bI_0, bI_z, Nat.le_refl, Nat.lt_irrefl, Nat.reduceLT, en_101, w, stA_lt, stA_in, stA_0, stA_1, stA_r, stA_c, a9, hv, j1, j2, m_isCellx w hx rp, hi.2.1, hi.2.2, and_self, m_cellOf, hcell, k1, o1, hf]
      simp only [bynd, hi, hf, and_false, if_false, oI]
      simp
  · have i1 := inn_iff (x := x) hv hr hc
    simp (disch := first | assumption | omega) only [Nat.reduceAdd, Nat.reduceLeDiff, Nat.zero_le, true_and, and_true, ↓reduceIte, wB_const, wB_lconst, wB_ldc, wB_gs, wB_dupi, wB_dupr, wB_dup2, wB_popi, wB_iadd, wB_isub, wB_imul, wB_iand, wB_ior, wB_ixor, wB_ishl, wB_ishr, wB_iushr, wB_ineg, wB_ladd, wB_lsub, wB_lmul, wB_land, wB_lneg, wB_i2l, wB_l2i, wB_lcmp, wB_idiv, wB_irem, wB_ldiv, wB_lrem, wB_goto, wB_nop, wB_ifeq, wB_ifne, wB_iflt, wB_ifge, wB_ifgt, wB_ifle, wB_icmpeq, wB_icmpne, wB_icmplt, wB_icmpge, wB_icmpgt, wB_icmple, wB_table, wB_lookup, wB_ireturn, wB_zreturn, wB_lreturn, wB_areturn, wB_return, wB_getf, wB_putf, wB_iald, wB_bald, wB_lald, wB_iast, wB_bast, wB_last, wB_min, wB_max, wB_abs, wB_minl, wB_maxl, wB_absl, wB_obj, wB_copy, wB_charAt, wB_strlen, sr_k1i, sr_k1r, sr_k1U, sr_k1l, sr_ms1, sr_ms0, sr_msn, sr_cs1, sr_csm1, sr_csm2, sr_cl1, sr_cl2, sr_szi, sr_szr, sr_szl, sr_szn, sr_tls, sr_tln, wB_il0, wB_ll0, wB_al0, wB_is0, wB_as0, wB_inc0, wB_ls0, wB_il1, wB_ll1, wB_al1, wB_is1, wB_as1, wB_inc1, wB_ls1, wB_il2, wB_ll2, wB_al2, wB_is2, wB_as2, wB_inc2, wB_ls2, wB_il3, wB_ll3, wB_al3, wB_is3, wB_as3, wB_inc3, wB_ls3, wB_il4, wB_ll4, wB_al4, wB_is4, wB_as4, wB_inc4, wB_ls4, wB_il5, wB_ll5, wB_al5, wB_is5, wB_as5, wB_inc5, wB_ls5, wB_il6, wB_ll6, wB_al6, wB_is6, wB_as6, wB_inc6, wB_ls6, wB_il7, wB_ll7, wB_al7, wB_is7, wB_as7, wB_inc7, wB_ls7, lb_101001, lb_101002, lb_101003, lb_101004, lb_101005, cl_92, cl_85, obj_6, fld_6_13, arr_6_13, nI_clamp, inb_nI, nI_leI, nI_ltI, nI_eq, nI_z, nI_ge0, nI_lt0, nI_add, n00, n11, n01, n10, true_or, or_true, not_true_eq_false, not_false_eq_true, bI_0, bI_z, Nat.le_refl, Nat.lt_irrefl, Nat.reduceLT, en_101, w, stA_lt, stA_in, stA_0, stA_1, stA_r, stA_c, a9, hv, m_isCellx w hx rp, i1, hi]
    simp [bynd, hi, oI]
