/-! The reference: two who turn theirs or not. -/
def cT (x : V) (s : Nat) : Prop := inRm x s (sR x s) (sK x s) (1 - sD x s)
def tv (x : V) (a b p r : Nat) : V := vs (vs x 5 a (if p = 1 then 1 - sD x a else sD x a)) 5 b (if r = 1 then 1 - sD x b else sD x b)
theorem vs_cj {x : V} {i p q a b : Nat} (h : ¬ p = q) : vs (vs x i p a) i q b = vs (vs x i q b) i p a := by
  funext u w
  unfold vs
  by_cases c1 : u = i ∧ w = q
  · rw [if_pos c1, if_neg (fun z => h (by omega)), if_pos c1]
  · rw [if_neg c1, if_neg c1]
theorem tv_c {x : V} {a b p r : Nat} (h : ¬ a = b) : tv x b a r p = tv x a b p r := by
  unfold tv
  exact vs_cj (fun z => h z.symm)
theorem tw_tv {x : V} {a b p r : Nat} (hp : p ≤ 1) (hr : r ≤ 1) : tw x a b (2 * p + r) = tv x a b p r := by
  have hp' : p = 0 ∨ p = 1 := by omega
  have hr' : r = 0 ∨ r = 1 := by omega
  rcases hp' with rfl | rfl <;> rcases hr' with rfl | rfl <;> rfl
theorem tv_Wx {x : V} {a b p r : Nat} (hx : Wx x) (hp : p ≤ 1) (hr : r ≤ 1) (ha : a < xN x) (hb : b < xN x) : Wx (tv x a b p r) := by
  rw [← tw_tv hp hr]
  exact tw_Wx hx ha hb
theorem inRm_5 {x : V} {s a v r c dn : Nat} : inRm (vs x 5 a v) s r c dn ↔ inRm x s r c dn := by
  unfold inRm
  rw [show xR (vs x 5 a v) = xR x from vs_n (by omega), show xC (vs x 5 a v) = xC x from vs_n (by omega), show sL (vs x 5 a v) s = sL x s from vs_n (by omega)]
theorem mab_iff {x : V} {a b p r : Nat} (n : nov x) (ha : a < xN x) (hb : b < xN x) (hab : ¬ a = b) (hp : p ≤ 1) (hr : r ≤ 1) : mab x a b (2 * p + r) ↔ (p = 1 → cT x a) ∧ (r = 1 → cT x b) := by
  unfold mab
  rw [tw_tv hp hr]
  have e1 : sD (tv x a b p r) a = if p = 1 then 1 - sD x a else sD x a := by
    unfold tv
    show vs _ 5 b _ 5 a = _
    rw [vs_n (fun z => hab z.2), vs_y]
  have e2 : sD (tv x a b p r) b = if r = 1 then 1 - sD x b else sD x b := vs_y
  rw [e1, e2]
  unfold tv
  rw [inRm_5, inRm_5, inRm_5, inRm_5]
  have n1 := n.1 a ha
  have n2 := n.1 b hb
  have hp' : p = 0 ∨ p = 1 := by omega
  have hr' : r = 0 ∨ r = 1 := by omega
  unfold cT
  rcases hp' with rfl | rfl <;> rcases hr' with rfl | rfl <;> simp [n1, n2]
noncomputable def shv (x : V) (a b s p r : Nat) : Nat := cls (tv x a b p r) (nI (sS x s))
def rsv (x : V) (a b p r : Nat) : Prop := ((p = 1 → cT x a) ∧ (r = 1 → cT x b)) ∧ ¬ (cT x a ∧ shv x a b a p r < shv x a b a (1 - p) r) ∧ ¬ (cT x b ∧ shv x a b b p r < shv x a b b p (1 - r))
theorem rst_v {x : V} {a b p r : Nat} (n : nov x) (ha : a < xN x) (hb : b < xN x) (hab : ¬ a = b) (hp : p ≤ 1) (hr : r ≤ 1) : rst x a b (2 * p + r) ↔ rsv x a b p r := by
  have k1 : (2 * p + r + 2) % 4 = 2 * (1 - p) + r := by omega
  have k2 : 2 * p + r + 1 - 2 * ((2 * p + r) % 2) = 2 * p + (1 - r) := by omega
  have s : ∀ s p r, p ≤ 1 → r ≤ 1 → sho x a b s (2 * p + r) = shv x a b s p r := fun s p r h1 h2 => by unfold sho shv; rw [tw_tv h1 h2]
  unfold rst rsv
  rw [k1, k2, mab_iff n ha hb hab hp hr, mab_iff n ha hb hab (by omega) hr, mab_iff n ha hb hab hp (by omega), s a p r hp hr, s a (1 - p) r (by omega) hr, s b p r hp hr, s b p (1 - r) hp (by omega)]
  have hp' : p = 0 ∨ p = 1 := by omega
  have hr' : r = 0 ∨ r = 1 := by omega
  rcases hp' with rfl | rfl <;> rcases hr' with rfl | rfl <;> simp <;> intros <;> simp_all
set_option maxHeartbeats 4000000 in
set_option maxRecDepth 100000 in
theorem r_canTurn {d s : Nat} {q y x xi g : V} {H : Nat → V} {h : sr_H} {Q : sr_T} (v : SV q y x xi H g) (mk : MK h q y x xi H g) (hs : s < xN x) (kk : ∀ h', MK h' q y x xi H g → Q (some (.int (bI (cT x s) (Classical.propDecidable _)))) h') : sr_M (d + 3) 274 [.ref 141, .int (nI s)] h Q := by
  have w0 := mk.1.1
  have mx := mk.1.2.2.2.1
  have hx := v.2.2.1.2.1
  have l := VW_l v.2.2.1
  obtain ⟨b1, b2, b3, b4, b5, b6⟩ := hx.1.2.2.2.2 s hs
  have et := tn1 (sD x s) b3
  simp (disch := first | assumption | omega) only [Nat.reduceAdd, Nat.reduceLeDiff, Nat.zero_le, true_and, and_true, ↓reduceIte, wB_const, wB_lconst, wB_ldc, wB_getstatic, wB_dupi, wB_dupr, wB_dup2, wB_popi, wB_iadd, wB_isub, wB_imul, wB_iand, wB_ior, wB_ixor, wB_ishl, wB_ishr, wB_iushr, wB_ineg, wB_ladd, wB_lsub, wB_lmul, wB_land, wB_lneg, wB_i2l, wB_l2i, wB_lcmp, wB_idiv, wB_irem, wB_ldiv, wB_lrem, wB_goto, wB_nop, wB_ifeq, wB_ifne, wB_iflt, wB_ifge, wB_ifgt, wB_ifle, wB_icmpeq, wB_icmpne, wB_icmplt, wB_icmpge, wB_icmpgt, wB_icmple, wB_table, wB_lookup, wB_ireturn, wB_zreturn, wB_lreturn, wB_areturn, wB_return, wB_getf, wB_putf, wB_iald, wB_bald, wB_lald, wB_iast, wB_bast, wB_last, wB_min, wB_max, wB_abs, wB_minl, wB_maxl, wB_absl, wB_obj, wB_copy, wB_charAt, wB_strlen, sr_k1i, sr_k1r, sr_k1U, sr_k1l, sr_ms1, sr_ms0, sr_msn, sr_cs1, sr_csm1, sr_csm2, sr_cl1, sr_cl2, sr_szi, sr_szr, sr_szl, sr_szn, sr_tls, sr_tln, wB_il0, wB_ll0, wB_al0, wB_is0, wB_as0, wB_inc0, wB_ls0, wB_il1, wB_ll1, wB_al1, wB_is1, wB_as1, wB_inc1, wB_ls1, wB_il2, wB_ll2, wB_al2, wB_is2, wB_as2, wB_inc2, wB_ls2, wB_il3, wB_ll3, wB_al3, wB_is3, wB_as3, wB_inc3, wB_ls3, wB_il4, wB_ll4, wB_al4, wB_is4, wB_as4, wB_inc4, wB_ls4, wB_il5, wB_ll5, wB_al5, wB_is5, wB_as5, wB_inc5, wB_ls5, wB_il6, wB_ll6, wB_al6, wB_is6, wB_as6, wB_inc6, wB_ls6, wB_il7, wB_ll7, wB_al7, wB_is7, wB_as7, wB_inc7, wB_ls7, cl_213, cl_224, obj_11, fld_11_47, arr_11_47, nI_clamp, inb_nI, nI_leI, nI_ltI, nI_eq, nI_z, nI_ge0, nI_lt0, nI_add, n00, n11, n01, n10, true_or, or_true, not_true_eq_false, not_false_eq_true, bI_0, bI_z, Nat.le_refl, Nat.lt_irrefl, Nat.reduceLT, Nat.reduceEqDiff, nI_gt0, nI_le0, en_274, w0]
  refine r_copies (d := d + 1) w0 (show 1 < 23 by omega) (show 0 < 23 by omega) (by omega) (fun h1 cp => ?_)
  have w1 := w0.ss cp.1.1
  have m1 := MX_CP cp l.1 l.2 mx
  have m10 := MX_o cp.1 (show ¬ 0 = 1 by omega) l.1 l.2 mx
  have e5 := (MS0 (m10.2.1 s hs)).2.2.1
  have m2 : MX (sI h1 173 (5 + s) (nI (1 - sD x s))) 1 (vs x 5 s (1 - sD x s)) := MX_5 (r := 1) w1 l.1 m1 hs
  have fs : FM 1 h1 (sI h1 173 (5 + s) (nI (1 - sD x s))) := FM_sI (by omega)
  have w2 := w1.ss fs.1
  have hz : Wx (vs x 5 s (1 - sD x s)) := by
    have := (Wr_plc (s := s) (r := sR x s) (c := sK x s) (dn := 1 - sD x s) hx (by omega) (by omega) (by omega)).1
    rw [plc_t] at this
    exact this
  have i2 := fun (Q : sr_T) => r_isInRoom (d := d) (Q := Q) w2 (show 1 < 23 by omega) (show s < xN (vs x 5 s (1 - sD x s)) from hs) hz m2
  have ec : inRm (vs x 5 s (1 - sD x s)) s (sR (vs x 5 s (1 - sD x s)) s) (sK (vs x 5 s (1 - sD x s)) s) (sD (vs x 5 s (1 - sD x s)) s) ↔ cT x s := by
    rw [inRm_5, show sR (vs x 5 s (1 - sD x s)) s = sR x s from vs_n (by omega), show sK (vs x 5 s (1 - sD x s)) s = sK x s from vs_n (by omega), show sD (vs x 5 s (1 - sD x s)) s = 1 - sD x s from vs_y]
    exact Iff.rfl
  have z := kk _ (MK_1 v mk (cp.1.tr fs))
  rw [← bI_congr (dp := Classical.propDecidable _) ec] at z
  simp (disch := first | assumption | omega | (simp (disch := assumption) only [sr_szn, sr_szi, sr_szr, sr_szl, Nat.reduceAdd, Nat.reduceLeDiff, Nat.zero_le, Nat.le_refl, isA_sI, isA_sJ, isA_sC, isA_sF, isI_sI, isI_sJ, isI_sC, isI_sF, isJ_sI, isJ_sJ, isJ_sC, isJ_sF, oK_sI, oK_sJ, oK_sC, oK_sF, lI_sI, lI_sJ, lI_sC, lI_sF, oC_sI, oC_sJ, oC_sC, oC_sF, obj_11, fld_11_47, arr_11_47])) only [Nat.reduceAdd, Nat.reduceLeDiff, Nat.zero_le, true_and, and_true, ↓reduceIte, wB_const, wB_lconst, wB_ldc, wB_getstatic, wB_dupi, wB_dupr, wB_dup2, wB_popi, wB_iadd, wB_isub, wB_imul, wB_iand, wB_ior, wB_ixor, wB_ishl, wB_ishr, wB_iushr, wB_ineg, wB_ladd, wB_lsub, wB_lmul, wB_land, wB_lneg, wB_i2l, wB_l2i, wB_lcmp, wB_idiv, wB_irem, wB_ldiv, wB_lrem, wB_goto, wB_nop, wB_ifeq, wB_ifne, wB_iflt, wB_ifge, wB_ifgt, wB_ifle, wB_icmpeq, wB_icmpne, wB_icmplt, wB_icmpge, wB_icmpgt, wB_icmple, wB_table, wB_lookup, wB_ireturn, wB_zreturn, wB_lreturn, wB_areturn, wB_return, wB_getf, wB_putf, wB_iald, wB_bald, wB_lald, wB_iast, wB_bast, wB_last, wB_min, wB_max, wB_abs, wB_minl, wB_maxl, wB_absl, wB_obj, wB_copy, wB_charAt, wB_strlen, sr_k1i, sr_k1r, sr_k1U, sr_k1l, sr_ms1, sr_ms0, sr_msn, sr_cs1, sr_csm1, sr_csm2, sr_cl1, sr_cl2, sr_szi, sr_szr, sr_szl, sr_szn, sr_tls, sr_tln, wB_il0, wB_ll0, wB_al0, wB_is0, wB_as0, wB_inc0, wB_ls0, wB_il1, wB_ll1, wB_al1, wB_is1, wB_as1, wB_inc1, wB_ls1, wB_il2, wB_ll2, wB_al2, wB_is2, wB_as2, wB_inc2, wB_ls2, wB_il3, wB_ll3, wB_al3, wB_is3, wB_as3, wB_inc3, wB_ls3, wB_il4, wB_ll4, wB_al4, wB_is4, wB_as4, wB_inc4, wB_ls4, wB_il5, wB_ll5, wB_al5, wB_is5, wB_as5, wB_inc5, wB_ls5, wB_il6, wB_ll6, wB_al6, wB_is6, wB_as6, wB_inc6, wB_ls6, wB_il7, wB_ll7, wB_al7, wB_is7, wB_as7, wB_inc7, wB_ls7, cl_213, cl_224, obj_11, fld_11_47, arr_11_47, nI_clamp, inb_nI, nI_leI, nI_ltI, nI_eq, nI_z, nI_ge0, nI_lt0, nI_add, n00, n11, n01, n10, true_or, or_true, not_true_eq_false, not_false_eq_true, bI_0, bI_z, Nat.le_refl, Nat.lt_irrefl, Nat.reduceLT, Nat.reduceEqDiff, nI_gt0, nI_le0, w1, show 5 + s < 115 by omega, show s < 115 by omega, e5, et, i2, w2, -bI_0, lI_sI, lI_sJ, lI_sC, lI_sF, lZ_sI, lZ_sJ, lZ_sC, lZ_sF, lJ_sI, lJ_sJ, lJ_sC, lJ_sF, oC_sI, oC_sJ, oC_sC, oC_sF, oF_sI, oF_sJ, oF_sC, oF_sF, sI_1, sJ_1, sF_1, sC_1, sr_okI, sr_okJ, sr_okR, sr_okZ, hI_sJ, hI_sF, hJ_sI, hJ_sF, hJ_sC, hF_sI, hF_sJ, hF_sC, fI_sI, fI_sJ, fI_sC, fJ_sI, fJ_sJ, fJ_sC, hI_n, hI_y, hJ_n, hJ_y, hF_n, hF_y, fI_n, fI_y, fJ_n, fJ_y, hI_c]
  exact z
set_option maxHeartbeats 4000000 in
set_option maxRecDepth 100000 in
theorem r_hasOf {d a b p r : Nat} {q y x xi g : V} {H : Nat → V} {h : sr_H} {Q : sr_T} (v : SV q y x xi H g) (mk : MK h q y x xi H g) (ha : a < xN x) (hb : b < xN x) (hab : ¬ a = b) (hp : p ≤ 1) (hr : r ≤ 1) (kk : ∀ h', MK h' q y x xi H g → Q (some (.int (nI (cls (tv x a b p r) (nI (sS x a)))))) h') : sr_M (d + 13) 275 [.ref 141, .int (nI a), .int (nI b), .int (nI p), .int (nI r)] h Q := by
  have w0 := mk.1.1
  have mx := mk.1.2.2.2.1
  have hx := v.2.2.1.2.1
  have l := VW_l v.2.2.1
  have b3 := (hx.1.2.2.2.2 a ha).2.2.1
  have c3 := (hx.1.2.2.2.2 b hb).2.2.1
  have et := tn1 (sD x a) b3
  have et2 := tn1 (sD x b) c3
  simp (disch := first | assumption | omega) only [Nat.reduceAdd, Nat.reduceLeDiff, Nat.zero_le, true_and, and_true, ↓reduceIte, wB_const, wB_lconst, wB_ldc, wB_getstatic, wB_dupi, wB_dupr, wB_dup2, wB_popi, wB_iadd, wB_isub, wB_imul, wB_iand, wB_ior, wB_ixor, wB_ishl, wB_ishr, wB_iushr, wB_ineg, wB_ladd, wB_lsub, wB_lmul, wB_land, wB_lneg, wB_i2l, wB_l2i, wB_lcmp, wB_idiv, wB_irem, wB_ldiv, wB_lrem, wB_goto, wB_nop, wB_ifeq, wB_ifne, wB_iflt, wB_ifge, wB_ifgt, wB_ifle, wB_icmpeq, wB_icmpne, wB_icmplt, wB_icmpge, wB_icmpgt, wB_icmple, wB_table, wB_lookup, wB_ireturn, wB_zreturn, wB_lreturn, wB_areturn, wB_return, wB_getf, wB_putf, wB_iald, wB_bald, wB_lald, wB_iast, wB_bast, wB_last, wB_min, wB_max, wB_abs, wB_minl, wB_maxl, wB_absl, wB_obj, wB_copy, wB_charAt, wB_strlen, sr_k1i, sr_k1r, sr_k1U, sr_k1l, sr_ms1, sr_ms0, sr_msn, sr_cs1, sr_csm1, sr_csm2, sr_cl1, sr_cl2, sr_szi, sr_szr, sr_szl, sr_szn, sr_tls, sr_tln, wB_il0, wB_ll0, wB_al0, wB_is0, wB_as0, wB_inc0, wB_ls0, wB_il1, wB_ll1, wB_al1, wB_is1, wB_as1, wB_inc1, wB_ls1, wB_il2, wB_ll2, wB_al2, wB_is2, wB_as2, wB_inc2, wB_ls2, wB_il3, wB_ll3, wB_al3, wB_is3, wB_as3, wB_inc3, wB_ls3, wB_il4, wB_ll4, wB_al4, wB_is4, wB_as4, wB_inc4, wB_ls4, wB_il5, wB_ll5, wB_al5, wB_is5, wB_as5, wB_inc5, wB_ls5, wB_il6, wB_ll6, wB_al6, wB_is6, wB_as6, wB_inc6, wB_ls6, wB_il7, wB_ll7, wB_al7, wB_is7, wB_as7, wB_inc7, wB_ls7, cl_213, cl_247, obj_11, fld_11_47, arr_11_47, fld_11_5, arr_11_5, nI_clamp, inb_nI, nI_leI, nI_ltI, nI_eq, nI_z, nI_ge0, nI_lt0, nI_add, n00, n11, n01, n10, true_or, or_true, not_true_eq_false, not_false_eq_true, bI_0, bI_z, Nat.le_refl, Nat.lt_irrefl, Nat.reduceLT, Nat.reduceEqDiff, nI_gt0, nI_le0, en_275, w0]
  refine r_copies (d := d + 11) w0 (show 1 < 23 by omega) (show 0 < 23 by omega) (by omega) (fun h1 cp => ?_)
  have w1 := w0.ss cp.1.1
  have m1 := MX_CP cp l.1 l.2 mx
  have mk1 := MK_1 v mk cp.1
  have fin : ∀ h3 (A B C : Value), FM 1 h1 h3 → MX h3 1 (tv x a b p r) → sr_W (d + 12) 275002 [.ref 141, .int (nI a), A, B, C] [] h3 Q := by
    intro h3 A B C f3 m3
    have mk3 := MK_1 v mk1 f3
    have w3 := mk3.1.1
    have e5 := MS_s mk3.1.2.2.1.1 (by omega) (mk3.1.2.2.2.1.2.1 a ha)
    have i1 := fun (Q : sr_T) => r_cellsOf (d := d) (r := 1) (v := nI (sS x a)) (Q := Q) w3 (by omega) (tv_Wx hx.1 hp hr ha hb) m3
    have z := kk h3 mk3
    rw [lb_275002]
    simp (disch := first | assumption | omega) only [Nat.reduceAdd, Nat.reduceLeDiff, Nat.zero_le, true_and, and_true, ↓reduceIte, wB_const, wB_lconst, wB_ldc, wB_getstatic, wB_dupi, wB_dupr, wB_dup2, wB_popi, wB_iadd, wB_isub, wB_imul, wB_iand, wB_ior, wB_ixor, wB_ishl, wB_ishr, wB_iushr, wB_ineg, wB_ladd, wB_lsub, wB_lmul, wB_land, wB_lneg, wB_i2l, wB_l2i, wB_lcmp, wB_idiv, wB_irem, wB_ldiv, wB_lrem, wB_goto, wB_nop, wB_ifeq, wB_ifne, wB_iflt, wB_ifge, wB_ifgt, wB_ifle, wB_icmpeq, wB_icmpne, wB_icmplt, wB_icmpge, wB_icmpgt, wB_icmple, wB_table, wB_lookup, wB_ireturn, wB_zreturn, wB_lreturn, wB_areturn, wB_return, wB_getf, wB_putf, wB_iald, wB_bald, wB_lald, wB_iast, wB_bast, wB_last, wB_min, wB_max, wB_abs, wB_minl, wB_maxl, wB_absl, wB_obj, wB_copy, wB_charAt, wB_strlen, sr_k1i, sr_k1r, sr_k1U, sr_k1l, sr_ms1, sr_ms0, sr_msn, sr_cs1, sr_csm1, sr_csm2, sr_cl1, sr_cl2, sr_szi, sr_szr, sr_szl, sr_szn, sr_tls, sr_tln, wB_il0, wB_ll0, wB_al0, wB_is0, wB_as0, wB_inc0, wB_ls0, wB_il1, wB_ll1, wB_al1, wB_is1, wB_as1, wB_inc1, wB_ls1, wB_il2, wB_ll2, wB_al2, wB_is2, wB_as2, wB_inc2, wB_ls2, wB_il3, wB_ll3, wB_al3, wB_is3, wB_as3, wB_inc3, wB_ls3, wB_il4, wB_ll4, wB_al4, wB_is4, wB_as4, wB_inc4, wB_ls4, wB_il5, wB_ll5, wB_al5, wB_is5, wB_as5, wB_inc5, wB_ls5, wB_il6, wB_ll6, wB_al6, wB_is6, wB_as6, wB_inc6, wB_ls6, wB_il7, wB_ll7, wB_al7, wB_is7, wB_as7, wB_inc7, wB_ls7, cl_213, cl_247, obj_11, fld_11_47, arr_11_47, fld_11_5, arr_11_5, nI_clamp, inb_nI, nI_leI, nI_ltI, nI_eq, nI_z, nI_ge0, nI_lt0, nI_add, n00, n11, n01, n10, true_or, or_true, not_true_eq_false, not_false_eq_true, bI_0, bI_z, Nat.le_refl, Nat.lt_irrefl, Nat.reduceLT, Nat.reduceEqDiff, nI_gt0, nI_le0, w3, show a < 10 by omega, e5, i1]
    exact z
  have mid : ∀ h2 (A B : Value), FM 1 h1 h2 → MX h2 1 (vs x 5 a (if p = 1 then 1 - sD x a else sD x a)) → sr_W (d + 12) 275001 [.ref 141, .int (nI a), .int (nI b), B, .int (nI r)] [] h2 Q := by
    intro h2 A B f2 m2
    have mk2 := MK_1 v mk1 f2
    have w2 := mk2.1.1
    rw [lb_275001]
    by_cases c : r = 1
    · have e5 := (MS0 (mk2.1.2.2.2.1.2.1 b hb)).2.2.1
      have m3 : MX (sI h2 173 (5 + b) (nI (1 - sD x b))) 1 (vs (vs x 5 a (if p = 1 then 1 - sD x a else sD x a)) 5 b (1 - sD x b)) := MX_5 (r := 1) w2 l.1 m2 hb
      have fs : FM 1 h2 (sI h2 173 (5 + b) (nI (1 - sD x b))) := FM_sI (by omega)
      have z := fun A B C => fin _ A B C (f2.tr fs) (by unfold tv; rw [if_pos c]; exact m3)
      simp (disch := first | assumption | omega | (simp (disch := assumption) only [sr_szn, sr_szi, sr_szr, sr_szl, Nat.reduceAdd, Nat.reduceLeDiff, Nat.zero_le, Nat.le_refl, isA_sI, isA_sJ, isA_sC, isA_sF, isI_sI, isI_sJ, isI_sC, isI_sF, isJ_sI, isJ_sJ, isJ_sC, isJ_sF, oK_sI, oK_sJ, oK_sC, oK_sF, lI_sI, lI_sJ, lI_sC, lI_sF, oC_sI, oC_sJ, oC_sC, oC_sF, obj_11, fld_11_47, arr_11_47, fld_11_5, arr_11_5])) only [Nat.reduceAdd, Nat.reduceLeDiff, Nat.zero_le, true_and, and_true, ↓reduceIte, wB_const, wB_lconst, wB_ldc, wB_getstatic, wB_dupi, wB_dupr, wB_dup2, wB_popi, wB_iadd, wB_isub, wB_imul, wB_iand, wB_ior, wB_ixor, wB_ishl, wB_ishr, wB_iushr, wB_ineg, wB_ladd, wB_lsub, wB_lmul, wB_land, wB_lneg, wB_i2l, wB_l2i, wB_lcmp, wB_idiv, wB_irem, wB_ldiv, wB_lrem, wB_goto, wB_nop, wB_ifeq, wB_ifne, wB_iflt, wB_ifge, wB_ifgt, wB_ifle, wB_icmpeq, wB_icmpne, wB_icmplt, wB_icmpge, wB_icmpgt, wB_icmple, wB_table, wB_lookup, wB_ireturn, wB_zreturn, wB_lreturn, wB_areturn, wB_return, wB_getf, wB_putf, wB_iald, wB_bald, wB_lald, wB_iast, wB_bast, wB_last, wB_min, wB_max, wB_abs, wB_minl, wB_maxl, wB_absl, wB_obj, wB_copy, wB_charAt, wB_strlen, sr_k1i, sr_k1r, sr_k1U, sr_k1l, sr_ms1, sr_ms0, sr_msn, sr_cs1, sr_csm1, sr_csm2, sr_cl1, sr_cl2, sr_szi, sr_szr, sr_szl, sr_szn, sr_tls, sr_tln, wB_il0, wB_ll0, wB_al0, wB_is0, wB_as0, wB_inc0, wB_ls0, wB_il1, wB_ll1, wB_al1, wB_is1, wB_as1, wB_inc1, wB_ls1, wB_il2, wB_ll2, wB_al2, wB_is2, wB_as2, wB_inc2, wB_ls2, wB_il3, wB_ll3, wB_al3, wB_is3, wB_as3, wB_inc3, wB_ls3, wB_il4, wB_ll4, wB_al4, wB_is4, wB_as4, wB_inc4, wB_ls4, wB_il5, wB_ll5, wB_al5, wB_is5, wB_as5, wB_inc5, wB_ls5, wB_il6, wB_ll6, wB_al6, wB_is6, wB_as6, wB_inc6, wB_ls6, wB_il7, wB_ll7, wB_al7, wB_is7, wB_as7, wB_inc7, wB_ls7, cl_213, cl_247, obj_11, fld_11_47, arr_11_47, fld_11_5, arr_11_5, nI_clamp, inb_nI, nI_leI, nI_ltI, nI_eq, nI_z, nI_ge0, nI_lt0, nI_add, n00, n11, n01, n10, true_or, or_true, not_true_eq_false, not_false_eq_true, bI_0, bI_z, Nat.le_refl, Nat.lt_irrefl, Nat.reduceLT, Nat.reduceEqDiff, nI_gt0, nI_le0, w2, c, show 5 + b < 115 by omega, show b < 115 by omega, e5, et2, lI_sI, lI_sJ, lI_sC, lI_sF, lZ_sI, lZ_sJ, lZ_sC, lZ_sF, lJ_sI, lJ_sJ, lJ_sC, lJ_sF, oC_sI, oC_sJ, oC_sC, oC_sF, oF_sI, oF_sJ, oF_sC, oF_sF, sI_1, sJ_1, sF_1, sC_1, sr_okI, sr_okJ, sr_okR, sr_okZ, hI_sJ, hI_sF, hJ_sI, hJ_sF, hJ_sC, hF_sI, hF_sJ, hF_sC, fI_sI, fI_sJ, fI_sC, fJ_sI, fJ_sJ, fJ_sC, hI_n, hI_y, hJ_n, hJ_y, hF_n, hF_y, fI_n, fI_y, fJ_n, fJ_y, hI_c]
      exact z _ _ _
    · have z := fun A B C => fin _ A B C f2 (by
        unfold tv
        rw [if_neg c, vs_id (x := vs x 5 a (if p = 1 then 1 - sD x a else sD x a)) (i := 5) (j := b) (v := sD x b) (vs_n (fun z => hab z.2.symm)).symm]
        exact m2)
      simp (disch := first | assumption | omega) only [Nat.reduceAdd, Nat.reduceLeDiff, Nat.zero_le, true_and, and_true, ↓reduceIte, wB_const, wB_lconst, wB_ldc, wB_getstatic, wB_dupi, wB_dupr, wB_dup2, wB_popi, wB_iadd, wB_isub, wB_imul, wB_iand, wB_ior, wB_ixor, wB_ishl, wB_ishr, wB_iushr, wB_ineg, wB_ladd, wB_lsub, wB_lmul, wB_land, wB_lneg, wB_i2l, wB_l2i, wB_lcmp, wB_idiv, wB_irem, wB_ldiv, wB_lrem, wB_goto, wB_nop, wB_ifeq, wB_ifne, wB_iflt, wB_ifge, wB_ifgt, wB_ifle, wB_icmpeq, wB_icmpne, wB_icmplt, wB_icmpge, wB_icmpgt, wB_icmple, wB_table, wB_lookup, wB_ireturn, wB_zreturn, wB_lreturn, wB_areturn, wB_return, wB_getf, wB_putf, wB_iald, wB_bald, wB_lald, wB_iast, wB_bast, wB_last, wB_min, wB_max, wB_abs, wB_minl, wB_maxl, wB_absl, wB_obj, wB_copy, wB_charAt, wB_strlen, sr_k1i, sr_k1r, sr_k1U, sr_k1l, sr_ms1, sr_ms0, sr_msn, sr_cs1, sr_csm1, sr_csm2, sr_cl1, sr_cl2, sr_szi, sr_szr, sr_szl, sr_szn, sr_tls, sr_tln, wB_il0, wB_ll0, wB_al0, wB_is0, wB_as0, wB_inc0, wB_ls0, wB_il1, wB_ll1, wB_al1, wB_is1, wB_as1, wB_inc1, wB_ls1, wB_il2, wB_ll2, wB_al2, wB_is2, wB_as2, wB_inc2, wB_ls2, wB_il3, wB_ll3, wB_al3, wB_is3, wB_as3, wB_inc3, wB_ls3, wB_il4, wB_ll4, wB_al4, wB_is4, wB_as4, wB_inc4, wB_ls4, wB_il5, wB_ll5, wB_al5, wB_is5, wB_as5, wB_inc5, wB_ls5, wB_il6, wB_ll6, wB_al6, wB_is6, wB_as6, wB_inc6, wB_ls6, wB_il7, wB_ll7, wB_al7, wB_is7, wB_as7, wB_inc7, wB_ls7, cl_213, cl_247, obj_11, fld_11_47, arr_11_47, fld_11_5, arr_11_5, nI_clamp, inb_nI, nI_leI, nI_ltI, nI_eq, nI_z, nI_ge0, nI_lt0, nI_add, n00, n11, n01, n10, true_or, or_true, not_true_eq_false, not_false_eq_true, bI_0, bI_z, Nat.le_refl, Nat.lt_irrefl, Nat.reduceLT, Nat.reduceEqDiff, nI_gt0, nI_le0, c]
      exact z _ _ _
  by_cases c : p = 1
  · have e5 := (MS0 (mk1.1.2.2.2.1.2.1 a ha)).2.2.1
    have m2 : MX (sI h1 173 (5 + a) (nI (1 - sD x a))) 1 (vs x 5 a (1 - sD x a)) := MX_5 (r := 1) w1 l.1 m1 ha
    have fs : FM 1 h1 (sI h1 173 (5 + a) (nI (1 - sD x a))) := FM_sI (by omega)
    have z := fun B => mid _ sr_U B fs (by rw [if_pos c]; exact m2)
    simp (disch := first | assumption | omega | (simp (disch := assumption) only [sr_szn, sr_szi, sr_szr, sr_szl, Nat.reduceAdd, Nat.reduceLeDiff, Nat.zero_le, Nat.le_refl, isA_sI, isA_sJ, isA_sC, isA_sF, isI_sI, isI_sJ, isI_sC, isI_sF, isJ_sI, isJ_sJ, isJ_sC, isJ_sF, oK_sI, oK_sJ, oK_sC, oK_sF, lI_sI, lI_sJ, lI_sC, lI_sF, oC_sI, oC_sJ, oC_sC, oC_sF, obj_11, fld_11_47, arr_11_47, fld_11_5, arr_11_5])) only [Nat.reduceAdd, Nat.reduceLeDiff, Nat.zero_le, true_and, and_true, ↓reduceIte, wB_const, wB_lconst, wB_ldc, wB_getstatic, wB_dupi, wB_dupr, wB_dup2, wB_popi, wB_iadd, wB_isub, wB_imul, wB_iand, wB_ior, wB_ixor, wB_ishl, wB_ishr, wB_iushr, wB_ineg, wB_ladd, wB_lsub, wB_lmul, wB_land, wB_lneg, wB_i2l, wB_l2i, wB_lcmp, wB_idiv, wB_irem, wB_ldiv, wB_lrem, wB_goto, wB_nop, wB_ifeq, wB_ifne, wB_iflt, wB_ifge, wB_ifgt, wB_ifle, wB_icmpeq, wB_icmpne, wB_icmplt, wB_icmpge, wB_icmpgt, wB_icmple, wB_table, wB_lookup, wB_ireturn, wB_zreturn, wB_lreturn, wB_areturn, wB_return, wB_getf, wB_putf, wB_iald, wB_bald, wB_lald, wB_iast, wB_bast, wB_last, wB_min, wB_max, wB_abs, wB_minl, wB_maxl, wB_absl, wB_obj, wB_copy, wB_charAt, wB_strlen, sr_k1i, sr_k1r, sr_k1U, sr_k1l, sr_ms1, sr_ms0, sr_msn, sr_cs1, sr_csm1, sr_csm2, sr_cl1, sr_cl2, sr_szi, sr_szr, sr_szl, sr_szn, sr_tls, sr_tln, wB_il0, wB_ll0, wB_al0, wB_is0, wB_as0, wB_inc0, wB_ls0, wB_il1, wB_ll1, wB_al1, wB_is1, wB_as1, wB_inc1, wB_ls1, wB_il2, wB_ll2, wB_al2, wB_is2, wB_as2, wB_inc2, wB_ls2, wB_il3, wB_ll3, wB_al3, wB_is3, wB_as3, wB_inc3, wB_ls3, wB_il4, wB_ll4, wB_al4, wB_is4, wB_as4, wB_inc4, wB_ls4, wB_il5, wB_ll5, wB_al5, wB_is5, wB_as5, wB_inc5, wB_ls5, wB_il6, wB_ll6, wB_al6, wB_is6, wB_as6, wB_inc6, wB_ls6, wB_il7, wB_ll7, wB_al7, wB_is7, wB_as7, wB_inc7, wB_ls7, cl_213, cl_247, obj_11, fld_11_47, arr_11_47, fld_11_5, arr_11_5, nI_clamp, inb_nI, nI_leI, nI_ltI, nI_eq, nI_z, nI_ge0, nI_lt0, nI_add, n00, n11, n01, n10, true_or, or_true, not_true_eq_false, not_false_eq_true, bI_0, bI_z, Nat.le_refl, Nat.lt_irrefl, Nat.reduceLT, Nat.reduceEqDiff, nI_gt0, nI_le0, w1, c, show 5 + a < 115 by omega, show a < 115 by omega, e5, et, lI_sI, lI_sJ, lI_sC, lI_sF, lZ_sI, lZ_sJ, lZ_sC, lZ_sF, lJ_sI, lJ_sJ, lJ_sC, lJ_sF, oC_sI, oC_sJ, oC_sC, oC_sF, oF_sI, oF_sJ, oF_sC, oF_sF, sI_1, sJ_1, sF_1, sC_1, sr_okI, sr_okJ, sr_okR, sr_okZ, hI_sJ, hI_sF, hJ_sI, hJ_sF, hJ_sC, hF_sI, hF_sJ, hF_sC, fI_sI, fI_sJ, fI_sC, fJ_sI, fJ_sJ, fJ_sC, hI_n, hI_y, hJ_n, hJ_y, hF_n, hF_y, fI_n, fI_y, fJ_n, fJ_y, hI_c]
    exact z _
  · have z := fun B => mid _ sr_U B FM.rf (by rw [if_neg c, vs_id rfl]; exact m1)
    simp (disch := first | assumption | omega) only [Nat.reduceAdd, Nat.reduceLeDiff, Nat.zero_le, true_and, and_true, ↓reduceIte, wB_const, wB_lconst, wB_ldc, wB_getstatic, wB_dupi, wB_dupr, wB_dup2, wB_popi, wB_iadd, wB_isub, wB_imul, wB_iand, wB_ior, wB_ixor, wB_ishl, wB_ishr, wB_iushr, wB_ineg, wB_ladd, wB_lsub, wB_lmul, wB_land, wB_lneg, wB_i2l, wB_l2i, wB_lcmp, wB_idiv, wB_irem, wB_ldiv, wB_lrem, wB_goto, wB_nop, wB_ifeq, wB_ifne, wB_iflt, wB_ifge, wB_ifgt, wB_ifle, wB_icmpeq, wB_icmpne, wB_icmplt, wB_icmpge, wB_icmpgt, wB_icmple, wB_table, wB_lookup, wB_ireturn, wB_zreturn, wB_lreturn, wB_areturn, wB_return, wB_getf, wB_putf, wB_iald, wB_bald, wB_lald, wB_iast, wB_bast, wB_last, wB_min, wB_max, wB_abs, wB_minl, wB_maxl, wB_absl, wB_obj, wB_copy, wB_charAt, wB_strlen, sr_k1i, sr_k1r, sr_k1U, sr_k1l, sr_ms1, sr_ms0, sr_msn, sr_cs1, sr_csm1, sr_csm2, sr_cl1, sr_cl2, sr_szi, sr_szr, sr_szl, sr_szn, sr_tls, sr_tln, wB_il0, wB_ll0, wB_al0, wB_is0, wB_as0, wB_inc0, wB_ls0, wB_il1, wB_ll1, wB_al1, wB_is1, wB_as1, wB_inc1, wB_ls1, wB_il2, wB_ll2, wB_al2, wB_is2, wB_as2, wB_inc2, wB_ls2, wB_il3, wB_ll3, wB_al3, wB_is3, wB_as3, wB_inc3, wB_ls3, wB_il4, wB_ll4, wB_al4, wB_is4, wB_as4, wB_inc4, wB_ls4, wB_il5, wB_ll5, wB_al5, wB_is5, wB_as5, wB_inc5, wB_ls5, wB_il6, wB_ll6, wB_al6, wB_is6, wB_as6, wB_inc6, wB_ls6, wB_il7, wB_ll7, wB_al7, wB_is7, wB_as7, wB_inc7, wB_ls7, cl_213, cl_247, obj_11, fld_11_47, arr_11_47, fld_11_5, arr_11_5, nI_clamp, inb_nI, nI_leI, nI_ltI, nI_eq, nI_z, nI_ge0, nI_lt0, nI_add, n00, n11, n01, n10, true_or, or_true, not_true_eq_false, not_false_eq_true, bI_0, bI_z, Nat.le_refl, Nat.lt_irrefl, Nat.reduceLT, Nat.reduceEqDiff, nI_gt0, nI_le0, c]
    exact z _
