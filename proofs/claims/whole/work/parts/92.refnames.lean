/-! The reference: names of laws, a room that changes. -/
theorem sea_5 {x : V} {a b : Nat} (hx : Wx x) : sea x (xP x) a b < 5 := by
  have hN := hx.2.2.1
  have hg := giv_le (x := x) (b := xP x) (r := a) (c := b)
  unfold sea
  by_cases q : giv x (xP x) a b = 0
  · rw [if_pos q]; omega
  · rw [if_neg q]
    have := (hx.2.2.2.2 (giv x (xP x) a b - 1) (by omega)).1
    omega
theorem gF_le {x : V} {a b : Nat} : gF x a b ≤ 1000 := by
  unfold gF
  split
  · omega
  · exact far_le
/-- only the names of laws have changed -/
def FN (h h' : sr_H) : Prop := Fr h h' (fun a => a = 166)
theorem FN.fl {h h' : sr_H} (f : FN h h') : FL h h' := ⟨f.mono (fun a ha => Or.inr (Or.inl ha)), fun j _ => fI_of (f.2 141 (by omega))⟩
theorem nl0 : lN 0 = (nI 0).toInt64 := by decide
theorem nm7 {h : sr_H} {v0 v1 v2 v3 v4 v5 v6 : Int64} (w : Mdl h) : FN h (sJ (sJ (sJ (sJ (sJ (sJ (sJ h 166 0 v0) 166 1 v1) 166 2 v2) 166 3 v3) 166 4 v4) 166 5 v5) 166 6 v6) ∧ ∀ j, j < 7 → hJ (sJ (sJ (sJ (sJ (sJ (sJ (sJ h 166 0 v0) 166 1 v1) 166 2 v2) 166 3 v3) 166 4 v4) 166 5 v5) 166 6 v6) 166 j = if j = 0 then v0 else if j = 1 then v1 else if j = 2 then v2 else if j = 3 then v3 else if j = 4 then v4 else if j = 5 then v5 else v6 := by
  have f1 : FN h (sJ h 166 0 v0) := Fr_sJ Fr.rf rfl
  have f2 : FN h (sJ (sJ h 166 0 v0) 166 1 v1) := Fr_sJ f1 rfl
  have f3 : FN h (sJ (sJ (sJ h 166 0 v0) 166 1 v1) 166 2 v2) := Fr_sJ f2 rfl
  have f4 : FN h (sJ (sJ (sJ (sJ h 166 0 v0) 166 1 v1) 166 2 v2) 166 3 v3) := Fr_sJ f3 rfl
  have f5 : FN h (sJ (sJ (sJ (sJ (sJ h 166 0 v0) 166 1 v1) 166 2 v2) 166 3 v3) 166 4 v4) := Fr_sJ f4 rfl
  have f6 : FN h (sJ (sJ (sJ (sJ (sJ (sJ h 166 0 v0) 166 1 v1) 166 2 v2) 166 3 v3) 166 4 v4) 166 5 v5) := Fr_sJ f5 rfl
  have j0 := (arr_11_39 w).2.1
  have j1 := (arr_11_39 (w.ss f1.1)).2.1
  have j2 := (arr_11_39 (w.ss f2.1)).2.1
  have j3 := (arr_11_39 (w.ss f3.1)).2.1
  have j4 := (arr_11_39 (w.ss f4.1)).2.1
  have j5 := (arr_11_39 (w.ss f5.1)).2.1
  have j6 := (arr_11_39 (w.ss f6.1)).2.1
  refine ⟨Fr_sJ f6 rfl, fun j hj => ?_⟩
  have : j = 0 ∨ j = 1 ∨ j = 2 ∨ j = 3 ∨ j = 4 ∨ j = 5 ∨ j = 6 := by omega
  rcases this with rfl | rfl | rfl | rfl | rfl | rfl | rfl
  · rw [hJ_n (by omega), hJ_n (by omega), hJ_n (by omega), hJ_n (by omega), hJ_n (by omega), hJ_n (by omega)]; exact hJ_y j0
  · rw [hJ_n (by omega), hJ_n (by omega), hJ_n (by omega), hJ_n (by omega), hJ_n (by omega)]; exact hJ_y j1
  · rw [hJ_n (by omega), hJ_n (by omega), hJ_n (by omega), hJ_n (by omega)]; exact hJ_y j2
  · rw [hJ_n (by omega), hJ_n (by omega), hJ_n (by omega)]; exact hJ_y j3
  · rw [hJ_n (by omega), hJ_n (by omega)]; exact hJ_y j4
  · rw [hJ_n (by omega)]; exact hJ_y j5
  · exact hJ_y j6
theorem MX_FN {h h' : sr_H} {r : Nat} {x : V} (f : FN h h') (m : MX h r x) : MX h' r x := MX_FL f.fl m
set_option maxHeartbeats 4000000 in
set_option maxRecDepth 100000 in
theorem r_callsFolk {d r p a b fr : Nat} {h : sr_H} {Q : sr_T} {x : V} (w : Mdl h) (hr : r < 23) (hx : Wr x) (m : MX h r x) (hp : p < xF x) (ha : a < 64) (hb : b < 64) (kk : ∀ h', FN h h' → (∀ j, j < 7 → hJ h' 166 j = nmF x p a b fr j) → Q none h') : sr_M (d + 12) 231 [.ref 141, .int (nI r), .int (nI p), .int (nI a), .int (nI b), .int (nI fr)] h Q := by
  have hF := hx.2.1
  have hN := hx.1.2.2.1
  have mp := m.2.2.1 p hp
  have mh := m.2.2.2.1
  have i1 := fun (Q : sr_T) => r_giverOf (d := d + 1) (Q := Q) w hr hx.1 m ha hb
  have i2 := fun (Q : sr_T) (h1 : sr_H) (f : FN h h1) => r_seasonAt (d := d) (Q := Q) (w.ss f.1) hr hx.1 (MX_FN f m) ha hb
  have hg := giv_le (x := x) (b := xP x) (r := a) (c := b)
  have fin : ∀ v, v = (nI (gF x a b)).toInt64 → Q none (sJ (sJ (sJ (sJ (sJ (sJ (sJ h 166 0 (nI (sea x (xP x) a b)).toInt64) 166 1 (nI fr).toInt64) 166 2 (nI (pA x p)).toInt64) 166 3 (nI (pD x p)).toInt64) 166 4 v) 166 5 (nI (whl x)).toInt64) 166 6 (nI (xH x)).toInt64) := by
    intro v hv
    obtain ⟨f, g⟩ := nm7 (v0 := (nI (sea x (xP x) a b)).toInt64) (v1 := (nI fr).toInt64) (v2 := (nI (pA x p)).toInt64) (v3 := (nI (pD x p)).toInt64) (v4 := v) (v5 := (nI (whl x)).toInt64) (v6 := (nI (xH x)).toInt64) w
    refine kk _ f (fun j hj => ?_)
    rw [g j hj, hv]
    unfold nmF
    repeat' split
    all_goals rfl
  have f0 : ∀ v0, FN h (sJ h 166 0 v0) := fun v0 => Fr_sJ Fr.rf rfl
  have f4 : ∀ v0 v1 v2 v3, FN h (sJ (sJ (sJ (sJ h 166 0 v0) 166 1 v1) 166 2 v2) 166 3 v3) := fun v0 v1 v2 v3 => Fr_sJ (Fr_sJ (Fr_sJ (f0 v0) rfl) rfl) rfl
  have f5 : ∀ v0 v1 v2 v3 v4, FN h (sJ (sJ (sJ (sJ (sJ h 166 0 v0) 166 1 v1) 166 2 v2) 166 3 v3) 166 4 v4) := fun v0 v1 v2 v3 v4 => Fr_sJ (f4 v0 v1 v2 v3) rfl
  have i3 := fun (Q : sr_T) v0 v1 v2 v3 v4 => r_wholeMany (d := d + 9) (Q := Q) (w.ss (f5 v0 v1 v2 v3 v4).1) hr hx.1 (MX_FN (f5 v0 v1 v2 v3 v4) m)
  have i20 := fun (Q : sr_T) => i2 Q h Fr.rf
  by_cases q : giv x (xP x) a b = 0
  · have eo : oI (giv x (xP x) a b) = -1 := by rw [q]; rfl
    have eg : gF x a b = 0 := if_pos q
    simp (disch := first | assumption | omega | (simp (disch := assumption) only [sr_szn, sr_szi, sr_szr, sr_szl, Nat.reduceAdd, Nat.reduceLeDiff, Nat.zero_le, Nat.le_refl, isA_sI, isA_sJ, isA_sC, isA_sF, isI_sI, isI_sJ, isI_sC, isI_sF, isJ_sI, isJ_sJ, isJ_sC, isJ_sF, oK_sI, oK_sJ, oK_sC, oK_sF, lI_sI, lI_sJ, lI_sC, lI_sF, oC_sI, oC_sJ, oC_sC, oC_sF, obj_11, fld_11_39, arr_11_39, fld_11_49, arr_11_49, fld_11_52, arr_11_52, fld_11_42, arr_11_42])) only [Nat.reduceAdd, Nat.reduceLeDiff, Nat.zero_le, true_and, and_true, ↓reduceIte, wB_const, wB_lconst, wB_ldc, wB_getstatic, wB_dupi, wB_dupr, wB_dup2, wB_popi, wB_iadd, wB_isub, wB_imul, wB_iand, wB_ior, wB_ixor, wB_ishl, wB_ishr, wB_iushr, wB_ineg, wB_ladd, wB_lsub, wB_lmul, wB_land, wB_lneg, wB_i2l, wB_l2i, wB_lcmp, wB_idiv, wB_irem, wB_ldiv, wB_lrem, wB_goto, wB_nop, wB_ifeq, wB_ifne, wB_iflt, wB_ifge, wB_ifgt, wB_ifle, wB_icmpeq, wB_icmpne, wB_icmplt, wB_icmpge, wB_icmpgt, wB_icmple, wB_table, wB_lookup, wB_ireturn, wB_zreturn, wB_lreturn, wB_areturn, wB_return, wB_getf, wB_putf, wB_iald, wB_bald, wB_lald, wB_iast, wB_bast, wB_last, wB_min, wB_max, wB_abs, wB_minl, wB_maxl, wB_absl, wB_obj, wB_copy, wB_charAt, wB_strlen, sr_k1i, sr_k1r, sr_k1U, sr_k1l, sr_ms1, sr_ms0, sr_msn, sr_cs1, sr_csm1, sr_csm2, sr_cl1, sr_cl2, sr_szi, sr_szr, sr_szl, sr_szn, sr_tls, sr_tln, wB_il0, wB_ll0, wB_al0, wB_is0, wB_as0, wB_inc0, wB_ls0, wB_il1, wB_ll1, wB_al1, wB_is1, wB_as1, wB_inc1, wB_ls1, wB_il2, wB_ll2, wB_al2, wB_is2, wB_as2, wB_inc2, wB_ls2, wB_il3, wB_ll3, wB_al3, wB_is3, wB_as3, wB_inc3, wB_ls3, wB_il4, wB_ll4, wB_al4, wB_is4, wB_as4, wB_inc4, wB_ls4, wB_il5, wB_ll5, wB_al5, wB_is5, wB_as5, wB_inc5, wB_ls5, wB_il6, wB_ll6, wB_al6, wB_is6, wB_as6, wB_inc6, wB_ls6, wB_il7, wB_ll7, wB_al7, wB_is7, wB_as7, wB_inc7, wB_ls7, lb_231001, lb_231002, cl_227, cl_228, cl_226, cl_229, obj_11, fld_11_39, arr_11_39, fld_11_49, arr_11_49, fld_11_52, arr_11_52, fld_11_42, arr_11_42, nI_clamp, inb_nI, nI_leI, nI_ltI, nI_eq, nI_z, nI_ge0, nI_lt0, nI_add, n00, n11, n01, n10, true_or, or_true, not_true_eq_false, not_false_eq_true, bI_0, bI_z, Nat.le_refl, Nat.lt_irrefl, Nat.reduceLT, Nat.reduceEqDiff, nI_gt0, nI_le0, en_231, w, i1, i20, pk_mul, show 6 * r + p < 138 by omega, mp.2.1, mp.2.2.2.2, mh, eo, hr, i3, lI_sI, lI_sJ, lI_sC, lI_sF, lZ_sI, lZ_sJ, lZ_sC, lZ_sF, lJ_sI, lJ_sJ, lJ_sC, lJ_sF, oC_sI, oC_sJ, oC_sC, oC_sF, oF_sI, oF_sJ, oF_sC, oF_sF, sI_1, sJ_1, sF_1, sC_1, sr_okI, sr_okJ, sr_okR, sr_okZ, hI_sJ, hI_sF, hJ_sI, hJ_sF, hJ_sC, hF_sI, hF_sJ, hF_sC, fI_sI, fI_sJ, fI_sC, fJ_sI, fJ_sJ, fJ_sC, hI_n, hI_y, hJ_n, hJ_y, hF_n, hF_y, fI_n, fI_y, fJ_n, fJ_y, hI_c]
    exact fin (lN 0) (by rw [eg]; exact nl0)
  · have eo : oI (giv x (xP x) a b) = nI (giv x (xP x) a b - 1) := if_neg q
    have nm := nI_m1 (n := giv x (xP x) a b - 1) (by omega)
    have eg : gF x a b = far x (giv x (xP x) a b - 1) a b := if_neg q
    have ef : fcd (far x (giv x (xP x) a b - 1) a b) = nI (gF x a b) := by
      rw [eg]
      refine fcd_n (fun z => ?_)
      have e := nr_far (x := x) (b := xP x) (r := a) (c := b) (xN x) (giv x (xP x) a b - 1) (show giv x (xP x) a b = _ by omega)
      have lt : ∀ n, ¬ (nrN x (xP x) a b n).1 = 0 → (nrN x (xP x) a b n).2 < 1000 := by
        intro n
        induction n with
        | zero => intro z; exact absurd rfl z
        | succ n ih =>
          intro z
          unfold nrN at z ⊢
          by_cases c : xP x / 2 ^ n % 2 = 1 ∧ far x n a b < (nrN x (xP x) a b n).2
          · rw [if_pos c]
            have := (nr_le (x := x) (b := xP x) (r := a) (c := b) n).1
            show far x n a b < 1000
            omega
          · rw [if_neg c] at z ⊢
            exact ih z
      have := lt (xN x) q
      omega
    have i4 := fun (Q : sr_T) v0 v1 v2 v3 => r_farOf (d := d + 2) (Q := Q) (s := giv x (xP x) a b - 1) (w.ss (f4 v0 v1 v2 v3).1) hr (by omega) hx.1 ((MX_FN (f4 v0 v1 v2 v3) m).2.1 _ (by omega)) ha hb
    simp (disch := first | assumption | omega | (simp (disch := assumption) only [sr_szn, sr_szi, sr_szr, sr_szl, Nat.reduceAdd, Nat.reduceLeDiff, Nat.zero_le, Nat.le_refl, isA_sI, isA_sJ, isA_sC, isA_sF, isI_sI, isI_sJ, isI_sC, isI_sF, isJ_sI, isJ_sJ, isJ_sC, isJ_sF, oK_sI, oK_sJ, oK_sC, oK_sF, lI_sI, lI_sJ, lI_sC, lI_sF, oC_sI, oC_sJ, oC_sC, oC_sF, obj_11, fld_11_39, arr_11_39, fld_11_49, arr_11_49, fld_11_52, arr_11_52, fld_11_42, arr_11_42])) only [Nat.reduceAdd, Nat.reduceLeDiff, Nat.zero_le, true_and, and_true, ↓reduceIte, wB_const, wB_lconst, wB_ldc, wB_getstatic, wB_dupi, wB_dupr, wB_dup2, wB_popi, wB_iadd, wB_isub, wB_imul, wB_iand, wB_ior, wB_ixor, wB_ishl, wB_ishr, wB_iushr, wB_ineg, wB_ladd, wB_lsub, wB_lmul, wB_land, wB_lneg, wB_i2l, wB_l2i, wB_lcmp, wB_idiv, wB_irem, wB_ldiv, wB_lrem, wB_goto, wB_nop, wB_ifeq, wB_ifne, wB_iflt, wB_ifge, wB_ifgt, wB_ifle, wB_icmpeq, wB_icmpne, wB_icmplt, wB_icmpge, wB_icmpgt, wB_icmple, wB_table, wB_lookup, wB_ireturn, wB_zreturn, wB_lreturn, wB_areturn, wB_return, wB_getf, wB_putf, wB_iald, wB_bald, wB_lald, wB_iast, wB_bast, wB_last, wB_min, wB_max, wB_abs, wB_minl, wB_maxl, wB_absl, wB_obj, wB_copy, wB_charAt, wB_strlen, sr_k1i, sr_k1r, sr_k1U, sr_k1l, sr_ms1, sr_ms0, sr_msn, sr_cs1, sr_csm1, sr_csm2, sr_cl1, sr_cl2, sr_szi, sr_szr, sr_szl, sr_szn, sr_tls, sr_tln, wB_il0, wB_ll0, wB_al0, wB_is0, wB_as0, wB_inc0, wB_ls0, wB_il1, wB_ll1, wB_al1, wB_is1, wB_as1, wB_inc1, wB_ls1, wB_il2, wB_ll2, wB_al2, wB_is2, wB_as2, wB_inc2, wB_ls2, wB_il3, wB_ll3, wB_al3, wB_is3, wB_as3, wB_inc3, wB_ls3, wB_il4, wB_ll4, wB_al4, wB_is4, wB_as4, wB_inc4, wB_ls4, wB_il5, wB_ll5, wB_al5, wB_is5, wB_as5, wB_inc5, wB_ls5, wB_il6, wB_ll6, wB_al6, wB_is6, wB_as6, wB_inc6, wB_ls6, wB_il7, wB_ll7, wB_al7, wB_is7, wB_as7, wB_inc7, wB_ls7, lb_231001, lb_231002, cl_227, cl_228, cl_226, cl_229, obj_11, fld_11_39, arr_11_39, fld_11_49, arr_11_49, fld_11_52, arr_11_52, fld_11_42, arr_11_42, nI_clamp, inb_nI, nI_leI, nI_ltI, nI_eq, nI_z, nI_ge0, nI_lt0, nI_add, n00, n11, n01, n10, true_or, or_true, not_true_eq_false, not_false_eq_true, bI_0, bI_z, Nat.le_refl, Nat.lt_irrefl, Nat.reduceLT, Nat.reduceEqDiff, nI_gt0, nI_le0, en_231, w, i1, i20, pk_mul, show 6 * r + p < 138 by omega, mp.2.1, mp.2.2.2.2, mh, eo, nm, hr, i3, i4, ef, lI_sI, lI_sJ, lI_sC, lI_sF, lZ_sI, lZ_sJ, lZ_sC, lZ_sF, lJ_sI, lJ_sJ, lJ_sC, lJ_sF, oC_sI, oC_sJ, oC_sC, oC_sF, oF_sI, oF_sJ, oF_sC, oF_sF, sI_1, sJ_1, sF_1, sC_1, sr_okI, sr_okJ, sr_okR, sr_okZ, hI_sJ, hI_sF, hJ_sI, hJ_sF, hJ_sC, hF_sI, hF_sJ, hF_sC, fI_sI, fI_sJ, fI_sC, fJ_sI, fJ_sJ, fJ_sC, hI_n, hI_y, hJ_n, hJ_y, hF_n, hF_y, fI_n, fI_y, fJ_n, fJ_y, hI_c]
    exact fin _ rfl
set_option maxHeartbeats 4000000 in
set_option maxRecDepth 100000 in
theorem r_callsScreen {d r s : Nat} {h : sr_H} {Q : sr_T} {x : V} (w : Mdl h) (hr : r < 23) (hx : Wr x) (m : MX h r x) (hs : s < xN x) (kk : ∀ h', FN h h' → (∀ j, j < 7 → hJ h' 166 j = nmS x s j) → Q none h') : sr_M (d + 2) 232 [.ref 141, .int (nI r), .int (nI s)] h Q := by
  have hN := hx.1.2.2.1
  have ms := m.2.1 s hs
  have mh := m.2.2.2.1
  have b4 := (hx.1.2.2.2.2 s hs).2.2.2.1
  have i1 := fun (Q : sr_T) => r_bitsOf (d := d) (n := sW x s) (h := h) (Q := Q) (by omega)
  have i2 := fun (Q : sr_T) => r_colourOf (d := d) (Q := Q) w (show s < 5 by omega) ms
  have m3 := ms.2.2.1
  have m7 := ms.2.2.2.2.2.2
  simp (disch := first | assumption | omega | (simp (disch := assumption) only [sr_szn, sr_szi, sr_szr, sr_szl, Nat.reduceAdd, Nat.reduceLeDiff, Nat.zero_le, Nat.le_refl, isA_sI, isA_sJ, isA_sC, isA_sF, isI_sI, isI_sJ, isI_sC, isI_sF, isJ_sI, isJ_sJ, isJ_sC, isJ_sF, oK_sI, oK_sJ, oK_sC, oK_sF, lI_sI, lI_sJ, lI_sC, lI_sF, oC_sI, oC_sJ, oC_sC, oC_sF, obj_11, fld_11_48, arr_11_48, fld_11_39, arr_11_39, fld_11_8, arr_11_8, fld_11_42, arr_11_42])) only [Nat.reduceAdd, Nat.reduceLeDiff, Nat.zero_le, true_and, and_true, ↓reduceIte, wB_const, wB_lconst, wB_ldc, wB_getstatic, wB_dupi, wB_dupr, wB_dup2, wB_popi, wB_iadd, wB_isub, wB_imul, wB_iand, wB_ior, wB_ixor, wB_ishl, wB_ishr, wB_iushr, wB_ineg, wB_ladd, wB_lsub, wB_lmul, wB_land, wB_lneg, wB_i2l, wB_l2i, wB_lcmp, wB_idiv, wB_irem, wB_ldiv, wB_lrem, wB_goto, wB_nop, wB_ifeq, wB_ifne, wB_iflt, wB_ifge, wB_ifgt, wB_ifle, wB_icmpeq, wB_icmpne, wB_icmplt, wB_icmpge, wB_icmpgt, wB_icmple, wB_table, wB_lookup, wB_ireturn, wB_zreturn, wB_lreturn, wB_areturn, wB_return, wB_getf, wB_putf, wB_iald, wB_bald, wB_lald, wB_iast, wB_bast, wB_last, wB_min, wB_max, wB_abs, wB_minl, wB_maxl, wB_absl, wB_obj, wB_copy, wB_charAt, wB_strlen, sr_k1i, sr_k1r, sr_k1U, sr_k1l, sr_ms1, sr_ms0, sr_msn, sr_cs1, sr_csm1, sr_csm2, sr_cl1, sr_cl2, sr_szi, sr_szr, sr_szl, sr_szn, sr_tls, sr_tln, wB_il0, wB_ll0, wB_al0, wB_is0, wB_as0, wB_inc0, wB_ls0, wB_il1, wB_ll1, wB_al1, wB_is1, wB_as1, wB_inc1, wB_ls1, wB_il2, wB_ll2, wB_al2, wB_is2, wB_as2, wB_inc2, wB_ls2, wB_il3, wB_ll3, wB_al3, wB_is3, wB_as3, wB_inc3, wB_ls3, wB_il4, wB_ll4, wB_al4, wB_is4, wB_as4, wB_inc4, wB_ls4, wB_il5, wB_ll5, wB_al5, wB_is5, wB_as5, wB_inc5, wB_ls5, wB_il6, wB_ll6, wB_al6, wB_is6, wB_as6, wB_inc6, wB_ls6, wB_il7, wB_ll7, wB_al7, wB_is7, wB_as7, wB_inc7, wB_ls7, cl_217, cl_219, obj_11, fld_11_48, arr_11_48, fld_11_39, arr_11_39, fld_11_8, arr_11_8, fld_11_42, arr_11_42, nI_clamp, inb_nI, nI_leI, nI_ltI, nI_eq, nI_z, nI_ge0, nI_lt0, nI_add, n00, n11, n01, n10, true_or, or_true, not_true_eq_false, not_false_eq_true, bI_0, bI_z, Nat.le_refl, Nat.lt_irrefl, Nat.reduceLT, Nat.reduceEqDiff, nI_gt0, nI_le0, en_232, w, pk_mul, show 5 * r + s < 115 by omega, m7, i1, i2, show s < 10 by omega, m3, mh, hr, lI_sI, lI_sJ, lI_sC, lI_sF, lZ_sI, lZ_sJ, lZ_sC, lZ_sF, lJ_sI, lJ_sJ, lJ_sC, lJ_sF, oC_sI, oC_sJ, oC_sC, oC_sF, oF_sI, oF_sJ, oF_sC, oF_sF, sI_1, sJ_1, sF_1, sC_1, sr_okI, sr_okJ, sr_okR, sr_okZ, hI_sJ, hI_sF, hJ_sI, hJ_sF, hJ_sC, hF_sI, hF_sJ, hF_sC, fI_sI, fI_sJ, fI_sC, fJ_sI, fJ_sJ, fJ_sC, hI_n, hI_y, hJ_n, hJ_y, hF_n, hF_y, fI_n, fI_y, fJ_n, fJ_y, hI_c]
  obtain ⟨f, g⟩ := nm7 (v0 := (nI (sS x s)).toInt64) (v1 := lN 0) (v2 := lN 0) (v3 := lN 0) (v4 := (nI (sL x s) - nI (ones (sW x s))).toInt64) (v5 := (nI (ones (sW x s))).toInt64) (v6 := (nI (xH x)).toInt64) w
  refine kk _ f (fun j hj => ?_)
  rw [g j hj]
  unfold nmS
  repeat' split
  all_goals first | rfl | exact nl0
theorem BD_nI {v : Nat} (h : v < 2 ^ 31) : BD (nI v).toInt64 := by
  rw [nI_l h]
  exact BD_n h (by omega)
theorem BD_F {x : V} {p a b fr : Nat} (hx : Wr x) (hp : p < xF x) (hf : fr < 2 ^ 31) : ∀ j, j < 7 → BD (nmF x p a b fr j) := by
  intro j hj
  have hb := hx.2.2.2.2 p hp
  have h1 := sea_5 (a := a) (b := b) hx.1
  have h2 := gF_le (x := x) (a := a) (b := b)
  have h3 := whl_le hx.1
  have h4 := hx.2.2.1
  unfold nmF
  repeat' split
  all_goals exact BD_nI (by omega)
theorem BD_S {x : V} {s : Nat} (hx : Wr x) (hs : s < xN x) (hw : ones (sW x s) ≤ sL x s) : ∀ j, j < 7 → BD (nmS x s j) := by
  intro j hj
  obtain ⟨b1, b2, b3, b4, b5, b6⟩ := hx.1.2.2.2.2 s hs
  have h4 := hx.2.2.1
  have e : nI (sL x s) - nI (ones (sW x s)) = nI (sL x s - ones (sW x s)) := pk_sub hw
  have h5 := ones_le (sW x s)
  unfold nmS
  repeat' split
  all_goals first | (rw [e]; exact BD_nI (by omega)) | exact BD_nI (by omega)
