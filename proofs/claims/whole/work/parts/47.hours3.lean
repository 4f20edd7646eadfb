/-! Hours: all are paid, all step. -/
def shp (x y : V) : Prop := xN y = xN x ∧ xF y = xF x ∧ xH y = xH x ∧ xR y = xR x ∧ xC y = xC x ∧ xP y = xP x
theorem shp.rf {x : V} : shp x x := ⟨rfl, rfl, rfl, rfl, rfl, rfl⟩
theorem shp.tr {x y z : V} (a : shp x y) (b : shp y z) : shp x z := ⟨b.1.trans a.1, b.2.1.trans a.2.1, b.2.2.1.trans a.2.2.1, b.2.2.2.1.trans a.2.2.2.1, b.2.2.2.2.1.trans a.2.2.2.2.1, b.2.2.2.2.2.trans a.2.2.2.2.2⟩
theorem shp_vs {x : V} {i j v : Nat} (h : 1 ≤ i ∨ 6 ≤ j) : shp x (vs x i j v) := ⟨vs_n (by omega), vs_n (by omega), vs_n (by omega), vs_n (by omega), vs_n (by omega), vs_n (by omega)⟩
/-- room B holds y, text T holds t, at some hour of h0 that began with x -/
def HI (h0 h : sr_H) (B T : Nat) (x y t : V) : Prop := HS h0 h B T y t ∧ shp x y
theorem HS.tc {h0 h : sr_H} {B T : Nat} {y t : V} (s : HS h0 h B T y t) (hBT : T + 32 < B) (tc : TC h0 T t) : TC h T t := TC_of tc (fun a h1 h2 h3 h4 => s.1.2 a (by unfold PH; omega))
theorem HS.tr {h0 h1 h2 : sr_H} {B T : Nat} {y z t : V} (s : HS h0 h1 B T y t) (s2 : HS h1 h2 B T z t) : HS h0 h2 B T z t := ⟨s.1.tr s2.1, s2.2⟩
theorem ent_shp {x t : V} {p r c : Nat} : shp x (ent x t p r c) := ((shp_vs (Or.inl (by omega))).tr (shp_vs (Or.inl (by omega)))).tr (shp_vs (Or.inl (by omega)))
noncomputable def pst (y t : V) (p : Nat) : V := @ite V (wrk y p) (Classical.propDecidable _) (vs y 11 p (min 9999 (pD y p + wth t (nmF y p (pR y p) (pC y p) (pW y p)) 1 99 1))) y
noncomputable def pyN (x t : V) : Nat → V
  | 0 => x
  | p + 1 => pst (pyN x t p) t p
noncomputable def pay (x t : V) : V := pyN x t (xF x)
set_option maxHeartbeats 4000000 in
set_option maxRecDepth 100000 in
theorem m_payAll {d B T : Nat} {h : sr_H} {Q : sr_T} {x t : V} (w : Rm h B) (wt : Txt h T) (hBT : T + 32 < B) (hx : Wr x) (rp : RC h B x) (kc : KC h (B + 1) x) (tc : TC h T t) (ht : Wt t (xN x) (xF x)) (kk : ∀ h', HI h h' B T x (pay x t) t → Q none h') : sr_M (d + 9) 10 [.ref B, .ref T] h Q := by
  have hN := hx.2.1
  simp (disch := first | assumption | omega) only [Nat.reduceAdd, Nat.reduceLeDiff, Nat.zero_le, true_and, and_true, ↓reduceIte, wB_const, wB_lconst, wB_ldc, wB_getstatic, wB_dupi, wB_dupr, wB_dup2, wB_popi, wB_iadd, wB_isub, wB_imul, wB_iand, wB_ior, wB_ixor, wB_ishl, wB_ishr, wB_iushr, wB_ineg, wB_ladd, wB_lsub, wB_lmul, wB_land, wB_lneg, wB_i2l, wB_l2i, wB_lcmp, wB_idiv, wB_irem, wB_ldiv, wB_lrem, wB_goto, wB_nop, wB_ifeq, wB_ifne, wB_iflt, wB_ifge, wB_ifgt, wB_ifle, wB_icmpeq, wB_icmpne, wB_icmplt, wB_icmpge, wB_icmpgt, wB_icmple, wB_table, wB_lookup, wB_ireturn, wB_zreturn, wB_lreturn, wB_areturn, wB_return, wB_getf, wB_putf, wB_iald, wB_bald, wB_lald, wB_iast, wB_bast, wB_last, wB_min, wB_max, wB_abs, wB_minl, wB_maxl, wB_absl, wB_obj, wB_copy, wB_charAt, wB_strlen, sr_k1i, sr_k1r, sr_k1U, sr_k1l, sr_ms1, sr_ms0, sr_msn, sr_cs1, sr_csm1, sr_csm2, sr_cl1, sr_cl2, sr_szi, sr_szr, sr_szl, sr_szn, sr_tls, sr_tln, wB_il0, wB_ll0, wB_al0, wB_is0, wB_as0, wB_inc0, wB_ls0, wB_il1, wB_ll1, wB_al1, wB_is1, wB_as1, wB_inc1, wB_ls1, wB_il2, wB_ll2, wB_al2, wB_is2, wB_as2, wB_inc2, wB_ls2, wB_il3, wB_ll3, wB_al3, wB_is3, wB_as3, wB_inc3, wB_ls3, wB_il4, wB_ll4, wB_al4, wB_is4, wB_as4, wB_inc4, wB_ls4, wB_il5, wB_ll5, wB_al5, wB_is5, wB_as5, wB_inc5, wB_ls5, wB_il6, wB_ll6, wB_al6, wB_is6, wB_as6, wB_inc6, wB_ls6, wB_il7, wB_ll7, wB_al7, wB_is7, wB_as7, wB_inc7, wB_ls7, lb_10002, lb_10003, lb_10004, lb_10005, cl_79, cl_15, cl_13, obj_5, fld_5_1, fld_5_5, arr_5_5, fld_5_6, arr_5_6, nI_clamp, inb_nI, nI_leI, nI_ltI, nI_eq, nI_z, nI_ge0, nI_lt0, nI_add, n00, n11, n01, n10, true_or, or_true, not_true_eq_false, not_false_eq_true, bI_0, bI_z, Nat.le_refl, Nat.lt_irrefl, Nat.reduceLT, en_10]
  refine lp_h (W := fun i h => sr_W (d + 8) 10001 [.ref B, .ref T, .int (nI i), sr_U, sr_U, sr_U, sr_U] [] h Q) (fun i h' => HI h h' B T x (pyN x t i) t) (xF x) ?_ ?_ h ⟨⟨Fr.rf, rp, kc, hx⟩, shp.rf⟩
  · rintro i h1 hi ⟨hs, sp⟩ next
    have f1 := hs.1
    have r1 := hs.2.1
    have q1 := hs.2.2.1
    have x1 := hs.2.2.2
    have w1 := w.ss f1.1
    have wt1 := wt.ss f1.1
    have tc1 := hs.tc hBT tc
    have e1 := r1.2.1
    rw [sp.2.1] at e1
    have hlt : ¬ xF x ≤ i := by omega
    have hi6 : i < 6 := by omega
    have hi' : i < xF (pyN x t i) := by rw [sp.2.1]; exact hi
    have ht1 : Wt t (xN (pyN x t i)) (xF (pyN x t i)) := by rw [sp.1, sp.2.1]; exact ht
    obtain ⟨b1, b2, b3, b4, b5⟩ := r1.2.2.2.2.2 i hi'
    obtain ⟨g1, g2, g3, g4, g5⟩ := x1.2.2.2.2 i hi'
    have s1 := sea_le (b := xP (pyN x t i)) (r := pR (pyN x t i) i) (c := pC (pyN x t i) i) x1.1
    rw [lb_10001]
    by_cases e : wrk (pyN x t i) i
    · have e' : sea (pyN x t i) (xP (pyN x t i)) (pR (pyN x t i) i) (pC (pyN x t i) i) = pW (pyN x t i) i := e
      simp (disch := first | assumption | omega) only [Nat.reduceAdd, Nat.reduceLeDiff, Nat.zero_le, true_and, and_true, ↓reduceIte, wB_const, wB_lconst, wB_ldc, wB_getstatic, wB_dupi, wB_dupr, wB_dup2, wB_popi, wB_iadd, wB_isub, wB_imul, wB_iand, wB_ior, wB_ixor, wB_ishl, wB_ishr, wB_iushr, wB_ineg, wB_ladd, wB_lsub, wB_lmul, wB_land, wB_lneg, wB_i2l, wB_l2i, wB_lcmp, wB_idiv, wB_irem, wB_ldiv, wB_lrem, wB_goto, wB_nop, wB_ifeq, wB_ifne, wB_iflt, wB_ifge, wB_ifgt, wB_ifle, wB_icmpeq, wB_icmpne, wB_icmplt, wB_icmpge, wB_icmpgt, wB_icmple, wB_table, wB_lookup, wB_ireturn, wB_zreturn, wB_lreturn, wB_areturn, wB_return, wB_getf, wB_putf, wB_iald, wB_bald, wB_lald, wB_iast, wB_bast, wB_last, wB_min, wB_max, wB_abs, wB_minl, wB_maxl, wB_absl, wB_obj, wB_copy, wB_charAt, wB_strlen, sr_k1i, sr_k1r, sr_k1U, sr_k1l, sr_ms1, sr_ms0, sr_msn, sr_cs1, sr_csm1, sr_csm2, sr_cl1, sr_cl2, sr_szi, sr_szr, sr_szl, sr_szn, sr_tls, sr_tln, wB_il0, wB_ll0, wB_al0, wB_is0, wB_as0, wB_inc0, wB_ls0, wB_il1, wB_ll1, wB_al1, wB_is1, wB_as1, wB_inc1, wB_ls1, wB_il2, wB_ll2, wB_al2, wB_is2, wB_as2, wB_inc2, wB_ls2, wB_il3, wB_ll3, wB_al3, wB_is3, wB_as3, wB_inc3, wB_ls3, wB_il4, wB_ll4, wB_al4, wB_is4, wB_as4, wB_inc4, wB_ls4, wB_il5, wB_ll5, wB_al5, wB_is5, wB_as5, wB_inc5, wB_ls5, wB_il6, wB_ll6, wB_al6, wB_is6, wB_as6, wB_inc6, wB_ls6, wB_il7, wB_ll7, wB_al7, wB_is7, wB_as7, wB_inc7, wB_ls7, lb_10002, lb_10003, lb_10004, lb_10005, cl_79, cl_15, cl_13, obj_5, fld_5_1, fld_5_5, arr_5_5, fld_5_6, arr_5_6, nI_clamp, inb_nI, nI_leI, nI_ltI, nI_eq, nI_z, nI_ge0, nI_lt0, nI_add, n00, n11, n01, n10, true_or, or_true, not_true_eq_false, not_false_eq_true, bI_0, bI_z, Nat.le_refl, Nat.lt_irrefl, Nat.reduceLT, w1, e1, hlt, hi6, m_seasonOver w1 x1 r1 q1 hi', b4, e']
      refine m_payLaw (d := d + 4) w1 wt1 x1 r1 q1 tc1 ht1 hi' (fun h2 f2 => ?_)
      have w2 := w1.ss f2.1
      have r2 := RC_of (h' := h2) r1 (fun a h1 h2 => f2.2 a (by unfold PL; omega))
      have q2 := KC_of (h' := h2) q1 (fI_of (f2.2 _ (by unfold PL; omega))) (fun j _ _ => f2.2 _ (by unfold PL; omega))
      obtain ⟨c1, c2, c3, c4, c5⟩ := r2.2.2.2.2.2 i hi'
      have fin : ∀ n, n < 1000 → n = wth t (nmF (pyN x t i) i (pR (pyN x t i) i) (pC (pyN x t i) i) (pW (pyN x t i) i)) 1 99 1 → sr_W (d + 8) 10001 [.ref B, .ref T, .int (nI (i + 1)), sr_U, sr_U, sr_U, sr_U] [] (sI h2 (B + 15) i (nI (min 9999 (pD (pyN x t i) i + n)))) Q := by
        intro n hn he
        have hv : pyN x t (i + 1) = vs (pyN x t i) 11 i (min 9999 (pD (pyN x t i) i + n)) := by
          rw [he]
          exact if_pos e
        refine next _ ⟨⟨Fr_sI (f1.tr (f2.mono (fun q hq => PL_PH hq))) (Or.inl (by omega)), ?_, ?_, ?_⟩, ?_⟩
        · rw [hv]
          exact RC_sI (j := 11) w2 r2 (by omega) (by omega)
        · rw [hv]
          refine KC_e (seq_vs (Or.inl (by omega))).sy (KC_of q2 ?_ (fun j a b => ?_))
          · simp only [fI_sI]
          · rw [sI_ne (by omega)]
        · rw [hv]
          refine Wr_at x1 (by omega) ⟨?_, ?_, ?_, ?_, fun _ => by omega⟩
          all_goals intro; omega
        · rw [hv]
          exact sp.tr (shp_vs (Or.inl (by omega)))
      by_cases hl : law t (nmF (pyN x t i) i (pR (pyN x t i) i) (pC (pyN x t i) i) (pW (pyN x t i) i)) 1 = LM
      · simp (disch := first | assumption | omega) only [Nat.reduceAdd, Nat.reduceLeDiff, Nat.zero_le, true_and, and_true, ↓reduceIte, wB_const, wB_lconst, wB_ldc, wB_getstatic, wB_dupi, wB_dupr, wB_dup2, wB_popi, wB_iadd, wB_isub, wB_imul, wB_iand, wB_ior, wB_ixor, wB_ishl, wB_ishr, wB_iushr, wB_ineg, wB_ladd, wB_lsub, wB_lmul, wB_land, wB_lneg, wB_i2l, wB_l2i, wB_lcmp, wB_idiv, wB_irem, wB_ldiv, wB_lrem, wB_goto, wB_nop, wB_ifeq, wB_ifne, wB_iflt, wB_ifge, wB_ifgt, wB_ifle, wB_icmpeq, wB_icmpne, wB_icmplt, wB_icmpge, wB_icmpgt, wB_icmple, wB_table, wB_lookup, wB_ireturn, wB_zreturn, wB_lreturn, wB_areturn, wB_return, wB_getf, wB_putf, wB_iald, wB_bald, wB_lald, wB_iast, wB_bast, wB_last, wB_min, wB_max, wB_abs, wB_minl, wB_maxl, wB_absl, wB_obj, wB_copy, wB_charAt, wB_strlen, sr_k1i, sr_k1r, sr_k1U, sr_k1l, sr_ms1, sr_ms0, sr_msn, sr_cs1, sr_csm1, sr_csm2, sr_cl1, sr_cl2, sr_szi, sr_szr, sr_szl, sr_szn, sr_tls, sr_tln, wB_il0, wB_ll0, wB_al0, wB_is0, wB_as0, wB_inc0, wB_ls0, wB_il1, wB_ll1, wB_al1, wB_is1, wB_as1, wB_inc1, wB_ls1, wB_il2, wB_ll2, wB_al2, wB_is2, wB_as2, wB_inc2, wB_ls2, wB_il3, wB_ll3, wB_al3, wB_is3, wB_as3, wB_inc3, wB_ls3, wB_il4, wB_ll4, wB_al4, wB_is4, wB_as4, wB_inc4, wB_ls4, wB_il5, wB_ll5, wB_al5, wB_is5, wB_as5, wB_inc5, wB_ls5, wB_il6, wB_ll6, wB_al6, wB_is6, wB_as6, wB_inc6, wB_ls6, wB_il7, wB_ll7, wB_al7, wB_is7, wB_as7, wB_inc7, wB_ls7, lb_10002, lb_10003, lb_10004, lb_10005, cl_79, cl_15, cl_13, obj_5, fld_5_1, fld_5_5, arr_5_5, fld_5_6, arr_5_6, nI_clamp, inb_nI, nI_leI, nI_ltI, nI_eq, nI_z, nI_ge0, nI_lt0, nI_add, n00, n11, n01, n10, true_or, or_true, not_true_eq_false, not_false_eq_true, bI_0, bI_z, Nat.le_refl, Nat.lt_irrefl, Nat.reduceLT, w2, hl, lg_cmp_eq, show -lN 9223372036854775808 = LM from rfl, hi6, c5, nI_l, lN_add, min_l, lN_i]
        refine fin 1 (by omega) ?_
        rw [wth, if_pos hl]
      · have hw := wthn_le (v := law t (nmF (pyN x t i) i (pR (pyN x t i) i) (pC (pyN x t i) i) (pW (pyN x t i) i)) 1) (m := 99) (by decide)
        simp (disch := first | assumption | omega) only [Nat.reduceAdd, Nat.reduceLeDiff, Nat.zero_le, true_and, and_true, ↓reduceIte, wB_const, wB_lconst, wB_ldc, wB_getstatic, wB_dupi, wB_dupr, wB_dup2, wB_popi, wB_iadd, wB_isub, wB_imul, wB_iand, wB_ior, wB_ixor, wB_ishl, wB_ishr, wB_iushr, wB_ineg, wB_ladd, wB_lsub, wB_lmul, wB_land, wB_lneg, wB_i2l, wB_l2i, wB_lcmp, wB_idiv, wB_irem, wB_ldiv, wB_lrem, wB_goto, wB_nop, wB_ifeq, wB_ifne, wB_iflt, wB_ifge, wB_ifgt, wB_ifle, wB_icmpeq, wB_icmpne, wB_icmplt, wB_icmpge, wB_icmpgt, wB_icmple, wB_table, wB_lookup, wB_ireturn, wB_zreturn, wB_lreturn, wB_areturn, wB_return, wB_getf, wB_putf, wB_iald, wB_bald, wB_lald, wB_iast, wB_bast, wB_last, wB_min, wB_max, wB_abs, wB_minl, wB_maxl, wB_absl, wB_obj, wB_copy, wB_charAt, wB_strlen, sr_k1i, sr_k1r, sr_k1U, sr_k1l, sr_ms1, sr_ms0, sr_msn, sr_cs1, sr_csm1, sr_csm2, sr_cl1, sr_cl2, sr_szi, sr_szr, sr_szl, sr_szn, sr_tls, sr_tln, wB_il0, wB_ll0, wB_al0, wB_is0, wB_as0, wB_inc0, wB_ls0, wB_il1, wB_ll1, wB_al1, wB_is1, wB_as1, wB_inc1, wB_ls1, wB_il2, wB_ll2, wB_al2, wB_is2, wB_as2, wB_inc2, wB_ls2, wB_il3, wB_ll3, wB_al3, wB_is3, wB_as3, wB_inc3, wB_ls3, wB_il4, wB_ll4, wB_al4, wB_is4, wB_as4, wB_inc4, wB_ls4, wB_il5, wB_ll5, wB_al5, wB_is5, wB_as5, wB_inc5, wB_ls5, wB_il6, wB_ll6, wB_al6, wB_is6, wB_as6, wB_inc6, wB_ls6, wB_il7, wB_ll7, wB_al7, wB_is7, wB_as7, wB_inc7, wB_ls7, lb_10002, lb_10003, lb_10004, lb_10005, cl_79, cl_15, cl_13, obj_5, fld_5_1, fld_5_5, arr_5_5, fld_5_6, arr_5_6, nI_clamp, inb_nI, nI_leI, nI_ltI, nI_eq, nI_z, nI_ge0, nI_lt0, nI_add, n00, n11, n01, n10, true_or, or_true, not_true_eq_false, not_false_eq_true, bI_0, bI_z, Nat.le_refl, Nat.lt_irrefl, Nat.reduceLT, w2, hl, lg_cmp_eq, show -lN 9223372036854775808 = LM from rfl, m_within, hi6, c5, nI_l, lN_add, min_l, lN_i]
        refine fin _ (by omega) ?_
        rw [wth, if_neg hl]
    · have e' : ¬ sea (pyN x t i) (xP (pyN x t i)) (pR (pyN x t i) i) (pC (pyN x t i) i) = pW (pyN x t i) i := e
      simp (disch := first | assumption | omega) only [Nat.reduceAdd, Nat.reduceLeDiff, Nat.zero_le, true_and, and_true, ↓reduceIte, wB_const, wB_lconst, wB_ldc, wB_getstatic, wB_dupi, wB_dupr, wB_dup2, wB_popi, wB_iadd, wB_isub, wB_imul, wB_iand, wB_ior, wB_ixor, wB_ishl, wB_ishr, wB_iushr, wB_ineg, wB_ladd, wB_lsub, wB_lmul, wB_land, wB_lneg, wB_i2l, wB_l2i, wB_lcmp, wB_idiv, wB_irem, wB_ldiv, wB_lrem, wB_goto, wB_nop, wB_ifeq, wB_ifne, wB_iflt, wB_ifge, wB_ifgt, wB_ifle, wB_icmpeq, wB_icmpne, wB_icmplt, wB_icmpge, wB_icmpgt, wB_icmple, wB_table, wB_lookup, wB_ireturn, wB_zreturn, wB_lreturn, wB_areturn, wB_return, wB_getf, wB_putf, wB_iald, wB_bald, wB_lald, wB_iast, wB_bast, wB_last, wB_min, wB_max, wB_abs, wB_minl, wB_maxl, wB_absl, wB_obj, wB_copy, wB_charAt, wB_strlen, sr_k1i, sr_k1r, sr_k1U, sr_k1l, sr_ms1, sr_ms0, sr_msn, sr_cs1, sr_csm1, sr_csm2, sr_cl1, sr_cl2, sr_szi, sr_szr, sr_szl, sr_szn, sr_tls, sr_tln, wB_il0, wB_ll0, wB_al0, wB_is0, wB_as0, wB_inc0, wB_ls0, wB_il1, wB_ll1, wB_al1, wB_is1, wB_as1, wB_inc1, wB_ls1, wB_il2, wB_ll2, wB_al2, wB_is2, wB_as2, wB_inc2, wB_ls2, wB_il3, wB_ll3, wB_al3, wB_is3, wB_as3, wB_inc3, wB_ls3, wB_il4, wB_ll4, wB_al4, wB_is4, wB_as4, wB_inc4, wB_ls4, wB_il5, wB_ll5, wB_al5, wB_is5, wB_as5, wB_inc5, wB_ls5, wB_il6, wB_ll6, wB_al6, wB_is6, wB_as6, wB_inc6, wB_ls6, wB_il7, wB_ll7, wB_al7, wB_is7, wB_as7, wB_inc7, wB_ls7, lb_10002, lb_10003, lb_10004, lb_10005, cl_79, cl_15, cl_13, obj_5, fld_5_1, fld_5_5, arr_5_5, fld_5_6, arr_5_6, nI_clamp, inb_nI, nI_leI, nI_ltI, nI_eq, nI_z, nI_ge0, nI_lt0, nI_add, n00, n11, n01, n10, true_or, or_true, not_true_eq_false, not_false_eq_true, bI_0, bI_z, Nat.le_refl, Nat.lt_irrefl, Nat.reduceLT, w1, e1, hlt, hi6, m_seasonOver w1 x1 r1 q1 hi', b4, e']
      have hv : pyN x t (i + 1) = pyN x t i := if_neg e
      refine next _ ?_
      rw [hv]
      exact ⟨hs, sp⟩
  · rintro h1 ⟨hs, sp⟩
    have w1 := w.ss hs.1.1
    have e1 := hs.2.1.2.1
    rw [sp.2.1] at e1
    rw [lb_10001]
    simp (disch := first | assumption | omega) only [Nat.reduceAdd, Nat.reduceLeDiff, Nat.zero_le, true_and, and_true, ↓reduceIte, wB_const, wB_lconst, wB_ldc, wB_getstatic, wB_dupi, wB_dupr, wB_dup2, wB_popi, wB_iadd, wB_isub, wB_imul, wB_iand, wB_ior, wB_ixor, wB_ishl, wB_ishr, wB_iushr, wB_ineg, wB_ladd, wB_lsub, wB_lmul, wB_land, wB_lneg, wB_i2l, wB_l2i, wB_lcmp, wB_idiv, wB_irem, wB_ldiv, wB_lrem, wB_goto, wB_nop, wB_ifeq, wB_ifne, wB_iflt, wB_ifge, wB_ifgt, wB_ifle, wB_icmpeq, wB_icmpne, wB_icmplt, wB_icmpge, wB_icmpgt, wB_icmple, wB_table, wB_lookup, wB_ireturn, wB_zreturn, wB_lreturn, wB_areturn, wB_return, wB_getf, wB_putf, wB_iald, wB_bald, wB_lald, wB_iast, wB_bast, wB_last, wB_min, wB_max, wB_abs, wB_minl, wB_maxl, wB_absl, wB_obj, wB_copy, wB_charAt, wB_strlen, sr_k1i, sr_k1r, sr_k1U, sr_k1l, sr_ms1, sr_ms0, sr_msn, sr_cs1, sr_csm1, sr_csm2, sr_cl1, sr_cl2, sr_szi, sr_szr, sr_szl, sr_szn, sr_tls, sr_tln, wB_il0, wB_ll0, wB_al0, wB_is0, wB_as0, wB_inc0, wB_ls0, wB_il1, wB_ll1, wB_al1, wB_is1, wB_as1, wB_inc1, wB_ls1, wB_il2, wB_ll2, wB_al2, wB_is2, wB_as2, wB_inc2, wB_ls2, wB_il3, wB_ll3, wB_al3, wB_is3, wB_as3, wB_inc3, wB_ls3, wB_il4, wB_ll4, wB_al4, wB_is4, wB_as4, wB_inc4, wB_ls4, wB_il5, wB_ll5, wB_al5, wB_is5, wB_as5, wB_inc5, wB_ls5, wB_il6, wB_ll6, wB_al6, wB_is6, wB_as6, wB_inc6, wB_ls6, wB_il7, wB_ll7, wB_al7, wB_is7, wB_as7, wB_inc7, wB_ls7, lb_10002, lb_10003, lb_10004, lb_10005, cl_79, cl_15, cl_13, obj_5, fld_5_1, fld_5_5, arr_5_5, fld_5_6, arr_5_6, nI_clamp, inb_nI, nI_leI, nI_ltI, nI_eq, nI_z, nI_ge0, nI_lt0, nI_add, n00, n11, n01, n10, true_or, or_true, not_true_eq_false, not_false_eq_true, bI_0, bI_z, Nat.le_refl, Nat.lt_irrefl, Nat.reduceLT, w1, e1]
    exact kk h1 ⟨hs, sp⟩
/-- one step that the text tells -/
noncomputable def sst (y t : V) (k : Nat) : V := if t 6 k = xH y then (if bynd y (pR y (t 5 k)) (pC y (t 5 k)) (t 7 k) = 0 then vs y 0 6 (xU y + 1) else ent y t (t 5 k) ((bynd y (pR y (t 5 k)) (pC y (t 5 k)) (t 7 k) - 1) / 8) ((bynd y (pR y (t 5 k)) (pC y (t 5 k)) (t 7 k) - 1) % 8)) else y
noncomputable def stN (x t : V) : Nat → V
  | 0 => x
  | k + 1 => sst (stN x t k) t k
noncomputable def stp (x t : V) : V := stN x t (t 0 2)
theorem bynd_sp {x : V} {r c w : Nat} (hx : Wx x) : bynd x r c w = 0 ∨ ∃ r' c', bynd x r c w = 8 * r' + c' + 1 ∧ r' < xR x ∧ c' < xC x := by
  unfold bynd
  by_cases q : inn x r c w ∧ lfN x (gr r w) (gc c w) = 0
  · exact Or.inr ⟨gr r w, gc c w, if_pos q, q.1.2.1, q.1.2.2⟩
  · exact Or.inl (if_neg q)
theorem oI_s {n : Nat} : oI (n + 1) = nI n := by
  unfold oI
  rw [if_neg (by omega)]
  rfl
theorem oI_ge {n : Nat} (h : n < 2 ^ 31) : (0 ≤ oI (n + 1)) = True := eq_true (by rw [oI_s]; exact nI_pos' h)
theorem Wr_0 {x : V} {j v : Nat} (hx : Wr x) (hj : 5 ≤ j) (h5 : j = 5 → v ≤ 10000) (h7 : j = 7 → v < 2 ^ 31) : Wr (vs x 0 j v) := by
  obtain ⟨a1, a2, a3, a4, a5⟩ := hx
  refine ⟨Wx_e (seq_vs (Or.inr ⟨rfl, by omega⟩)).sy a1, ?_, ?_, ?_, fun q hq => ?_⟩
  · rw [xF, vs_n (by omega)]; exact a2
  · by_cases c : j = 5
    · subst c; rw [xH, vs_y]; exact h5 rfl
    · rw [xH, vs_n (by omega)]; exact a3
  · by_cases c : j = 7
    · subst c; rw [xD, vs_y]; exact h7 rfl
    · rw [xD, vs_n (by omega)]; exact a4
  · rw [xF, vs_n (by omega)] at hq
    have := a5 q hq
    simp (disch := omega) only [pA, pR, pC, pW, pD, xR, xC, vs_n] at this ⊢
    exact this
set_option maxHeartbeats 4000000 in
set_option maxRecDepth 100000 in
theorem m_stepAll {d B T : Nat} {h : sr_H} {Q : sr_T} {x t : V} (w : Rm h B) (wt : Txt h T) (hm : h.1.1 ≤ 1000) (hBT : T + 32 < B) (hx : Wr x) (rp : RC h B x) (kc : KC h (B + 1) x) (tc : TC h T t) (ht : Wt t (xN x) (xF x)) (kk : ∀ h', HI h h' B T x (stp x t) t → Q none h') : sr_M (d + 10) 8 [.ref B, .ref T] h Q := by
  have hN := hx.2.1
  simp (disch := first | assumption | omega) only [Nat.reduceAdd, Nat.reduceLeDiff, Nat.zero_le, true_and, and_true, ↓reduceIte, wB_const, wB_lconst, wB_ldc, wB_getstatic, wB_dupi, wB_dupr, wB_dup2, wB_popi, wB_iadd, wB_isub, wB_imul, wB_iand, wB_ior, wB_ixor, wB_ishl, wB_ishr, wB_iushr, wB_ineg, wB_ladd, wB_lsub, wB_lmul, wB_land, wB_lneg, wB_i2l, wB_l2i, wB_lcmp, wB_idiv, wB_irem, wB_ldiv, wB_lrem, wB_goto, wB_nop, wB_ifeq, wB_ifne, wB_iflt, wB_ifge, wB_ifgt, wB_ifle, wB_icmpeq, wB_icmpne, wB_icmplt, wB_icmpge, wB_icmpgt, wB_icmple, wB_table, wB_lookup, wB_ireturn, wB_zreturn, wB_lreturn, wB_areturn, wB_return, wB_getf, wB_putf, wB_iald, wB_bald, wB_lald, wB_iast, wB_bast, wB_last, wB_min, wB_max, wB_abs, wB_minl, wB_maxl, wB_absl, wB_obj, wB_copy, wB_charAt, wB_strlen, sr_k1i, sr_k1r, sr_k1U, sr_k1l, sr_ms1, sr_ms0, sr_msn, sr_cs1, sr_csm1, sr_csm2, sr_cl1, sr_cl2, sr_szi, sr_szr, sr_szl, sr_szn, sr_tls, sr_tln, wB_il0, wB_ll0, wB_al0, wB_is0, wB_as0, wB_inc0, wB_ls0, wB_il1, wB_ll1, wB_al1, wB_is1, wB_as1, wB_inc1, wB_ls1, wB_il2, wB_ll2, wB_al2, wB_is2, wB_as2, wB_inc2, wB_ls2, wB_il3, wB_ll3, wB_al3, wB_is3, wB_as3, wB_inc3, wB_ls3, wB_il4, wB_ll4, wB_al4, wB_is4, wB_as4, wB_inc4, wB_ls4, wB_il5, wB_ll5, wB_al5, wB_is5, wB_as5, wB_inc5, wB_ls5, wB_il6, wB_ll6, wB_al6, wB_is6, wB_as6, wB_inc6, wB_ls6, wB_il7, wB_ll7, wB_al7, wB_is7, wB_as7, wB_inc7, wB_ls7, lb_8002, lb_8003, lb_8004, cl_101, cl_9, obj_6, fld_8_14, fld_8_16, arr_8_16, fld_5_7, fld_8_15, arr_8_15, fld_5_0, fld_5_3, arr_5_3, fld_5_4, arr_5_4, fld_8_17, arr_8_17, fld_5_8, nI_clamp, inb_nI, nI_leI, nI_ltI, nI_eq, nI_z, nI_ge0, nI_lt0, nI_add, n00, n11, n01, n10, true_or, or_true, not_true_eq_false, not_false_eq_true, bI_0, bI_z, Nat.le_refl, Nat.lt_irrefl, Nat.reduceLT, en_8]
  refine lp_h (W := fun i h => sr_W (d + 9) 8001 [.ref B, .ref T, .int (nI i), sr_U, sr_U] [] h Q) (fun i h' => HI h h' B T x (stN x t i) t) (t 0 2) ?_ ?_ h ⟨⟨Fr.rf, rp, kc, hx⟩, shp.rf⟩
  · rintro i h1 hi ⟨hs, sp⟩ next
    have f1 := hs.1
    have r1 := hs.2.1
    have q1 := hs.2.2.1
    have x1 := hs.2.2.2
    have w1 := w.ss f1.1
    have ws1 := sub_5_screens w1
    have wt1 := wt.ss f1.1
    have tc1 := hs.tc hBT tc
    have hm1 : h1.1.1 ≤ 1000 := by rw [f1.1.1]; exact hm
    have e1 := tc1.1.2.2
    have e7 := r1.2.2.1
    have e8 := r1.2.2.2.1
    have hlt : ¬ t 0 2 ≤ i := by omega
    have hb := ht.2.2.1
    have hi12 : i < 12 := by omega
    obtain ⟨b5, b6, b7⟩ := hb.2 i hi
    have hH := x1.2.2.1
    have a5 : hI h1 (T + 30) i = nI (t 5 i) := tc1.2.2.1 5 (by omega) (by omega) i hi
    have a6 : hI h1 (T + 31) i = nI (t 6 i) := tc1.2.2.1 6 (by omega) (by omega) i hi
    have a7 : hI h1 (T + 32) i = nI (t 7 i) := tc1.2.2.1 7 (by omega) (by omega) i hi
    have hp : t 5 i < xF (stN x t i) := by rw [sp.2.1]; exact b5
    have hp6 : t 5 i < 6 := by omega
    have ht1 : Wt t (xN (stN x t i)) (xF (stN x t i)) := by rw [sp.1, sp.2.1]; exact ht
    obtain ⟨c1, c2, c3, c4, c5⟩ := r1.2.2.2.2.2 _ hp
    obtain ⟨g1, g2, g3, g4, g5⟩ := x1.2.2.2.2 _ hp
    have hR := x1.1.1
    have hC := x1.1.2.1
    rw [lb_8001]
    by_cases q : t 6 i = xH (stN x t i)
    · rcases bynd_sp (r := pR (stN x t i) (t 5 i)) (c := pC (stN x t i) (t 5 i)) (w := t 7 i) x1.1 with hz | ⟨r', c', hz, hr', hc'⟩
      · simp (disch := first | assumption | omega) only [Nat.reduceAdd, Nat.reduceLeDiff, Nat.zero_le, true_and, and_true, ↓reduceIte, wB_const, wB_lconst, wB_ldc, wB_getstatic, wB_dupi, wB_dupr, wB_dup2, wB_popi, wB_iadd, wB_isub, wB_imul, wB_iand, wB_ior, wB_ixor, wB_ishl, wB_ishr, wB_iushr, wB_ineg, wB_ladd, wB_lsub, wB_lmul, wB_land, wB_lneg, wB_i2l, wB_l2i, wB_lcmp, wB_idiv, wB_irem, wB_ldiv, wB_lrem, wB_goto, wB_nop, wB_ifeq, wB_ifne, wB_iflt, wB_ifge, wB_ifgt, wB_ifle, wB_icmpeq, wB_icmpne, wB_icmplt, wB_icmpge, wB_icmpgt, wB_icmple, wB_table, wB_lookup, wB_ireturn, wB_zreturn, wB_lreturn, wB_areturn, wB_return, wB_getf, wB_putf, wB_iald, wB_bald, wB_lald, wB_iast, wB_bast, wB_last, wB_min, wB_max, wB_abs, wB_minl, wB_maxl, wB_absl, wB_obj, wB_copy, wB_charAt, wB_strlen, sr_k1i, sr_k1r, sr_k1U, sr_k1l, sr_ms1, sr_ms0, sr_msn, sr_cs1, sr_csm1, sr_csm2, sr_cl1, sr_cl2, sr_szi, sr_szr, sr_szl, sr_szn, sr_tls, sr_tln, wB_il0, wB_ll0, wB_al0, wB_is0, wB_as0, wB_inc0, wB_ls0, wB_il1, wB_ll1, wB_al1, wB_is1, wB_as1, wB_inc1, wB_ls1, wB_il2, wB_ll2, wB_al2, wB_is2, wB_as2, wB_inc2, wB_ls2, wB_il3, wB_ll3, wB_al3, wB_is3, wB_as3, wB_inc3, wB_ls3, wB_il4, wB_ll4, wB_al4, wB_is4, wB_as4, wB_inc4, wB_ls4, wB_il5, wB_ll5, wB_al5, wB_is5, wB_as5, wB_inc5, wB_ls5, wB_il6, wB_ll6, wB_al6, wB_is6, wB_as6, wB_inc6, wB_ls6, wB_il7, wB_ll7, wB_al7, wB_is7, wB_as7, wB_inc7, wB_ls7, lb_8002, lb_8003, lb_8004, cl_101, cl_9, obj_6, fld_8_14, fld_8_16, arr_8_16, fld_5_7, fld_8_15, arr_8_15, fld_5_0, fld_5_3, arr_5_3, fld_5_4, arr_5_4, fld_8_17, arr_8_17, fld_5_8, nI_clamp, inb_nI, nI_leI, nI_ltI, nI_eq, nI_z, nI_ge0, nI_lt0, nI_add, n00, n11, n01, n10, true_or, or_true, not_true_eq_false, not_false_eq_true, bI_0, bI_z, Nat.le_refl, Nat.lt_irrefl, Nat.reduceLT, w1, ws1, wt1, e1, e7, e8, hlt, hi12, a5, a6, a7, q, hp6, c2, c3, m_beyond ws1 x1.1 r1.1 q1 (show pR (stN x t i) (t 5 i) < 64 by omega) (show pC (stN x t i) (t 5 i) < 64 by omega) b7 hm1, hz, oI_00, sr_okI]
        have hv : stN x t (i + 1) = vs (stN x t i) 0 6 (xU (stN x t i) + 1) := by
          show sst _ _ _ = _
          rw [sst, if_pos q, if_pos hz]
        refine next _ ?_
        rw [hv]
        refine ⟨⟨Fr_sF f1 (erI (fld_5_8 w1).2) (Or.inl (by omega)), RC_sF w1 r1 (Or.inr ⟨rfl, rfl⟩), KC_e (seq_vs (Or.inr ⟨rfl, by omega⟩)).sy (KC_of q1 (fI_n (by omega)) (fun j a b => sF_ne (by omega))), Wr_0 x1 (by omega) (by omega) (by omega)⟩, sp.tr (shp_vs (Or.inr (by omega)))⟩
      · simp (disch := first | assumption | omega) only [Nat.reduceAdd, Nat.reduceLeDiff, Nat.zero_le, true_and, and_true, ↓reduceIte, wB_const, wB_lconst, wB_ldc, wB_getstatic, wB_dupi, wB_dupr, wB_dup2, wB_popi, wB_iadd, wB_isub, wB_imul, wB_iand, wB_ior, wB_ixor, wB_ishl, wB_ishr, wB_iushr, wB_ineg, wB_ladd, wB_lsub, wB_lmul, wB_land, wB_lneg, wB_i2l, wB_l2i, wB_lcmp, wB_idiv, wB_irem, wB_ldiv, wB_lrem, wB_goto, wB_nop, wB_ifeq, wB_ifne, wB_iflt, wB_ifge, wB_ifgt, wB_ifle, wB_icmpeq, wB_icmpne, wB_icmplt, wB_icmpge, wB_icmpgt, wB_icmple, wB_table, wB_lookup, wB_ireturn, wB_zreturn, wB_lreturn, wB_areturn, wB_return, wB_getf, wB_putf, wB_iald, wB_bald, wB_lald, wB_iast, wB_bast, wB_last, wB_min, wB_max, wB_abs, wB_minl, wB_maxl, wB_absl, wB_obj, wB_copy, wB_charAt, wB_strlen, sr_k1i, sr_k1r, sr_k1U, sr_k1l, sr_ms1, sr_ms0, sr_msn, sr_cs1, sr_csm1, sr_csm2, sr_cl1, sr_cl2, sr_szi, sr_szr, sr_szl, sr_szn, sr_tls, sr_tln, wB_il0, wB_ll0, wB_al0, wB_is0, wB_as0, wB_inc0, wB_ls0, wB_il1, wB_ll1, wB_al1, wB_is1, wB_as1, wB_inc1, wB_ls1, wB_il2, wB_ll2, wB_al2, wB_is2, wB_as2, wB_inc2, wB_ls2, wB_il3, wB_ll3, wB_al3, wB_is3, wB_as3, wB_inc3, wB_ls3, wB_il4, wB_ll4, wB_al4, wB_is4, wB_as4, wB_inc4, wB_ls4, wB_il5, wB_ll5, wB_al5, wB_is5, wB_as5, wB_inc5, wB_ls5, wB_il6, wB_ll6, wB_al6, wB_is6, wB_as6, wB_inc6, wB_ls6, wB_il7, wB_ll7, wB_al7, wB_is7, wB_as7, wB_inc7, wB_ls7, lb_8002, lb_8003, lb_8004, cl_101, cl_9, obj_6, fld_8_14, fld_8_16, arr_8_16, fld_5_7, fld_8_15, arr_8_15, fld_5_0, fld_5_3, arr_5_3, fld_5_4, arr_5_4, fld_8_17, arr_8_17, fld_5_8, nI_clamp, inb_nI, nI_leI, nI_ltI, nI_eq, nI_z, nI_ge0, nI_lt0, nI_add, n00, n11, n01, n10, true_or, or_true, not_true_eq_false, not_false_eq_true, bI_0, bI_z, Nat.le_refl, Nat.lt_irrefl, Nat.reduceLT, w1, ws1, wt1, e1, e7, e8, hlt, hi12, a5, a6, a7, q, hp6, c2, c3, m_beyond ws1 x1.1 r1.1 q1 (show pR (stN x t i) (t 5 i) < 64 by omega) (show pC (stN x t i) (t 5 i) < 64 by omega) b7 hm1, hz, oI_ge (show 8 * r' + c' < 2 ^ 31 by omega), oI_s]
        refine m_enter (d := d) w1 wt1 hBT x1 r1 q1 tc1 ht1 hp hr' hc' (fun h2 hs2 => ?_)
        simp (disch := first | assumption | omega) only [Nat.reduceAdd, Nat.reduceLeDiff, Nat.zero_le, true_and, and_true, ↓reduceIte, wB_const, wB_lconst, wB_ldc, wB_getstatic, wB_dupi, wB_dupr, wB_dup2, wB_popi, wB_iadd, wB_isub, wB_imul, wB_iand, wB_ior, wB_ixor, wB_ishl, wB_ishr, wB_iushr, wB_ineg, wB_ladd, wB_lsub, wB_lmul, wB_land, wB_lneg, wB_i2l, wB_l2i, wB_lcmp, wB_idiv, wB_irem, wB_ldiv, wB_lrem, wB_goto, wB_nop, wB_ifeq, wB_ifne, wB_iflt, wB_ifge, wB_ifgt, wB_ifle, wB_icmpeq, wB_icmpne, wB_icmplt, wB_icmpge, wB_icmpgt, wB_icmple, wB_table, wB_lookup, wB_ireturn, wB_zreturn, wB_lreturn, wB_areturn, wB_return, wB_getf, wB_putf, wB_iald, wB_bald, wB_lald, wB_iast, wB_bast, wB_last, wB_min, wB_max, wB_abs, wB_minl, wB_maxl, wB_absl, wB_obj, wB_copy, wB_charAt, wB_strlen, sr_k1i, sr_k1r, sr_k1U, sr_k1l, sr_ms1, sr_ms0, sr_msn, sr_cs1, sr_csm1, sr_csm2, sr_cl1, sr_cl2, sr_szi, sr_szr, sr_szl, sr_szn, sr_tls, sr_tln, wB_il0, wB_ll0, wB_al0, wB_is0, wB_as0, wB_inc0, wB_ls0, wB_il1, wB_ll1, wB_al1, wB_is1, wB_as1, wB_inc1, wB_ls1, wB_il2, wB_ll2, wB_al2, wB_is2, wB_as2, wB_inc2, wB_ls2, wB_il3, wB_ll3, wB_al3, wB_is3, wB_as3, wB_inc3, wB_ls3, wB_il4, wB_ll4, wB_al4, wB_is4, wB_as4, wB_inc4, wB_ls4, wB_il5, wB_ll5, wB_al5, wB_is5, wB_as5, wB_inc5, wB_ls5, wB_il6, wB_ll6, wB_al6, wB_is6, wB_as6, wB_inc6, wB_ls6, wB_il7, wB_ll7, wB_al7, wB_is7, wB_as7, wB_inc7, wB_ls7, lb_8002, lb_8003, lb_8004, cl_101, cl_9, obj_6, fld_8_14, fld_8_16, arr_8_16, fld_5_7, fld_8_15, arr_8_15, fld_5_0, fld_5_3, arr_5_3, fld_5_4, arr_5_4, fld_8_17, arr_8_17, fld_5_8, nI_clamp, inb_nI, nI_leI, nI_ltI, nI_eq, nI_z, nI_ge0, nI_lt0, nI_add, n00, n11, n01, n10, true_or, or_true, not_true_eq_false, not_false_eq_true, bI_0, bI_z, Nat.le_refl, Nat.lt_irrefl, Nat.reduceLT]
        have hv : stN x t (i + 1) = ent (stN x t i) t (t 5 i) r' c' := by
          show sst _ _ _ = _
          rw [sst, if_pos q, hz, if_neg (by omega)]
          have z1 : (8 * r' + c' + 1 - 1) / 8 = r' := by omega
          have z2 : (8 * r' + c' + 1 - 1) % 8 = c' := by omega
          rw [z1, z2]
        refine next _ ?_
        rw [hv]
        exact ⟨hs.tr hs2, sp.tr ent_shp⟩
    · simp (disch := first | assumption | omega) only [Nat.reduceAdd, Nat.reduceLeDiff, Nat.zero_le, true_and, and_true, ↓reduceIte, wB_const, wB_lconst, wB_ldc, wB_getstatic, wB_dupi, wB_dupr, wB_dup2, wB_popi, wB_iadd, wB_isub, wB_imul, wB_iand, wB_ior, wB_ixor, wB_ishl, wB_ishr, wB_iushr, wB_ineg, wB_ladd, wB_lsub, wB_lmul, wB_land, wB_lneg, wB_i2l, wB_l2i, wB_lcmp, wB_idiv, wB_irem, wB_ldiv, wB_lrem, wB_goto, wB_nop, wB_ifeq, wB_ifne, wB_iflt, wB_ifge, wB_ifgt, wB_ifle, wB_icmpeq, wB_icmpne, wB_icmplt, wB_icmpge, wB_icmpgt, wB_icmple, wB_table, wB_lookup, wB_ireturn, wB_zreturn, wB_lreturn, wB_areturn, wB_return, wB_getf, wB_putf, wB_iald, wB_bald, wB_lald, wB_iast, wB_bast, wB_last, wB_min, wB_max, wB_abs, wB_minl, wB_maxl, wB_absl, wB_obj, wB_copy, wB_charAt, wB_strlen, sr_k1i, sr_k1r, sr_k1U, sr_k1l, sr_ms1, sr_ms0, sr_msn, sr_cs1, sr_csm1, sr_csm2, sr_cl1, sr_cl2, sr_szi, sr_szr, sr_szl, sr_szn, sr_tls, sr_tln, wB_il0, wB_ll0, wB_al0, wB_is0, wB_as0, wB_inc0, wB_ls0, wB_il1, wB_ll1, wB_al1, wB_is1, wB_as1, wB_inc1, wB_ls1, wB_il2, wB_ll2, wB_al2, wB_is2, wB_as2, wB_inc2, wB_ls2, wB_il3, wB_ll3, wB_al3, wB_is3, wB_as3, wB_inc3, wB_ls3, wB_il4, wB_ll4, wB_al4, wB_is4, wB_as4, wB_inc4, wB_ls4, wB_il5, wB_ll5, wB_al5, wB_is5, wB_as5, wB_inc5, wB_ls5, wB_il6, wB_ll6, wB_al6, wB_is6, wB_as6, wB_inc6, wB_ls6, wB_il7, wB_ll7, wB_al7, wB_is7, wB_as7, wB_inc7, wB_ls7, lb_8002, lb_8003, lb_8004, cl_101, cl_9, obj_6, fld_8_14, fld_8_16, arr_8_16, fld_5_7, fld_8_15, arr_8_15, fld_5_0, fld_5_3, arr_5_3, fld_5_4, arr_5_4, fld_8_17, arr_8_17, fld_5_8, nI_clamp, inb_nI, nI_leI, nI_ltI, nI_eq, nI_z, nI_ge0, nI_lt0, nI_add, n00, n11, n01, n10, true_or, or_true, not_true_eq_false, not_false_eq_true, bI_0, bI_z, Nat.le_refl, Nat.lt_irrefl, Nat.reduceLT, w1, ws1, wt1, e1, e7, hlt, hi12, a6, q]
      have hv : stN x t (i + 1) = stN x t i := if_neg q
      refine next _ ?_
      rw [hv]
      exact ⟨hs, sp⟩
  · rintro h1 ⟨hs, sp⟩
    have wt1 := wt.ss hs.1.1
    have e1 := (hs.tc hBT tc).1.2.2
    have hb := ht.2.2.1.1
    rw [lb_8001]
    simp (disch := first | assumption | omega) only [Nat.reduceAdd, Nat.reduceLeDiff, Nat.zero_le, true_and, and_true, ↓reduceIte, wB_const, wB_lconst, wB_ldc, wB_getstatic, wB_dupi, wB_dupr, wB_dup2, wB_popi, wB_iadd, wB_isub, wB_imul, wB_iand, wB_ior, wB_ixor, wB_ishl, wB_ishr, wB_iushr, wB_ineg, wB_ladd, wB_lsub, wB_lmul, wB_land, wB_lneg, wB_i2l, wB_l2i, wB_lcmp, wB_idiv, wB_irem, wB_ldiv, wB_lrem, wB_goto, wB_nop, wB_ifeq, wB_ifne, wB_iflt, wB_ifge, wB_ifgt, wB_ifle, wB_icmpeq, wB_icmpne, wB_icmplt, wB_icmpge, wB_icmpgt, wB_icmple, wB_table, wB_lookup, wB_ireturn, wB_zreturn, wB_lreturn, wB_areturn, wB_return, wB_getf, wB_putf, wB_iald, wB_bald, wB_lald, wB_iast, wB_bast, wB_last, wB_min, wB_max, wB_abs, wB_minl, wB_maxl, wB_absl, wB_obj, wB_copy, wB_charAt, wB_strlen, sr_k1i, sr_k1r, sr_k1U, sr_k1l, sr_ms1, sr_ms0, sr_msn, sr_cs1, sr_csm1, sr_csm2, sr_cl1, sr_cl2, sr_szi, sr_szr, sr_szl, sr_szn, sr_tls, sr_tln, wB_il0, wB_ll0, wB_al0, wB_is0, wB_as0, wB_inc0, wB_ls0, wB_il1, wB_ll1, wB_al1, wB_is1, wB_as1, wB_inc1, wB_ls1, wB_il2, wB_ll2, wB_al2, wB_is2, wB_as2, wB_inc2, wB_ls2, wB_il3, wB_ll3, wB_al3, wB_is3, wB_as3, wB_inc3, wB_ls3, wB_il4, wB_ll4, wB_al4, wB_is4, wB_as4, wB_inc4, wB_ls4, wB_il5, wB_ll5, wB_al5, wB_is5, wB_as5, wB_inc5, wB_ls5, wB_il6, wB_ll6, wB_al6, wB_is6, wB_as6, wB_inc6, wB_ls6, wB_il7, wB_ll7, wB_al7, wB_is7, wB_as7, wB_inc7, wB_ls7, lb_8002, lb_8003, lb_8004, cl_101, cl_9, obj_6, fld_8_14, fld_8_16, arr_8_16, fld_5_7, fld_8_15, arr_8_15, fld_5_0, fld_5_3, arr_5_3, fld_5_4, arr_5_4, fld_8_17, arr_8_17, fld_5_8, nI_clamp, inb_nI, nI_leI, nI_ltI, nI_eq, nI_z, nI_ge0, nI_lt0, nI_add, n00, n11, n01, n10, true_or, or_true, not_true_eq_false, not_false_eq_true, bI_0, bI_z, Nat.le_refl, Nat.lt_irrefl, Nat.reduceLT, wt1, e1]
    exact kk h1 ⟨hs, sp⟩
