/-! Judge: who works by which screens. -/
def wkp (x : V) (b p : Nat) : Prop := sea x b (pR x p) (pC x p) = pW x p
noncomputable def stB (x : V) (b : Nat) : Nat → Nat
  | 0 => 0
  | p + 1 => stB x b p + tf (wkp x b p) (Classical.propDecidable _) * 2 ^ p
noncomputable def cnt (x : V) (b : Nat) : Nat := sm (fun p => tf (wkp x b p) (Classical.propDecidable _)) (xF x)
theorem stB_lt {x : V} {b : Nat} : ∀ n, stB x b n < 2 ^ n
  | 0 => by simp [stB]
  | n + 1 => by
    have h1 := stB_lt (x := x) (b := b) n
    have h2 := tf_le (p := wkp x b n) (dp := Classical.propDecidable _)
    have h3 : 2 ^ (n + 1) = 2 ^ n * 2 := Nat.pow_succ 2 n
    unfold stB
    by_cases q : wkp x b n
    · rw [tf_1 q]
      omega
    · rw [tf_0 q]
      omega
theorem or_ok : ∀ p, p < 6 → ∀ w, w < 2 ^ p → nI w ||| nI 1 <<< (nI p &&& 31) = nI (w + 2 ^ p) ∧ ones (w + 2 ^ p) = ones w + 1 := by decide +kernel
theorem ones_B {x : V} {b : Nat} : ∀ n, n ≤ 6 → ones (stB x b n) = sm (fun p => tf (wkp x b p) (Classical.propDecidable _)) n
  | 0, _ => by simp [stB, sm, ones]
  | n + 1, h => by
    have h1 := ones_B (x := x) (b := b) n (by omega)
    have h2 := stB_lt (x := x) (b := b) n
    unfold stB sm
    by_cases q : wkp x b n
    · rw [tf_1 q, Nat.one_mul, (or_ok n (by omega) _ h2).2, h1]
    · rw [tf_0 q, Nat.zero_mul, Nat.add_zero, Nat.add_zero, h1]
theorem stB_y {x : V} {b p : Nat} (h : wkp x b p) : stB x b (p + 1) = stB x b p + 2 ^ p := by
  show stB x b p + _ * _ = _
  rw [tf_1 h, Nat.one_mul]
theorem stB_n {x : V} {b p : Nat} (h : ¬ wkp x b p) : stB x b (p + 1) = stB x b p := by
  show stB x b p + _ * _ = _
  rw [tf_0 h, Nat.zero_mul, Nat.add_zero]
theorem shl_ok : ∀ n, n < 6 → nI 1 <<< (nI n &&& 31) = nI (2 ^ n) := by decide +kernel
def JW (h : sr_H) (x : V) (n : Nat) : Prop := ∀ b, b < n → hI h 137 b = nI (stB x b (xF x))
theorem pow_le : ∀ n, n ≤ 5 → 1 ≤ 2 ^ n ∧ 2 ^ n ≤ 32 := by decide
set_option maxHeartbeats 4000000 in
set_option maxRecDepth 100000 in
theorem m_listWorkers {d B : Nat} {h : sr_H} {Q : sr_T} {x : V} (w : Jdg h) (wr : Rm h B) (hB : B + 15 < 130) (hx : Wr x) (rp : RC h B x) (kk : ∀ h', Fr h h' (fun a => a = 137) → JW h' x (2 ^ xN x) → Q none h') : sr_M (d + 3) 22 [.ref 134, .ref B] h Q := by
  have hN := hx.1.2.2.1
  have hF := hx.2.1
  have hp := pow_le (xN x) hN
  simp (disch := first | assumption | omega) only [Nat.reduceAdd, Nat.reduceLeDiff, Nat.zero_le, true_and, and_true, ↓reduceIte, wB_const, wB_lconst, wB_ldc, wB_getstatic, wB_dupi, wB_dupr, wB_dup2, wB_popi, wB_iadd, wB_isub, wB_imul, wB_iand, wB_ior, wB_ixor, wB_ishl, wB_ishr, wB_iushr, wB_ineg, wB_ladd, wB_lsub, wB_lmul, wB_land, wB_lneg, wB_i2l, wB_l2i, wB_lcmp, wB_idiv, wB_irem, wB_ldiv, wB_lrem, wB_goto, wB_nop, wB_ifeq, wB_ifne, wB_iflt, wB_ifge, wB_ifgt, wB_ifle, wB_icmpeq, wB_icmpne, wB_icmplt, wB_icmpge, wB_icmpgt, wB_icmple, wB_table, wB_lookup, wB_ireturn, wB_zreturn, wB_lreturn, wB_areturn, wB_return, wB_getf, wB_putf, wB_iald, wB_bald, wB_lald, wB_iast, wB_bast, wB_last, wB_min, wB_max, wB_abs, wB_minl, wB_maxl, wB_absl, wB_obj, wB_copy, wB_charAt, wB_strlen, sr_k1i, sr_k1r, sr_k1U, sr_k1l, sr_ms1, sr_ms0, sr_msn, sr_cs1, sr_csm1, sr_csm2, sr_cl1, sr_cl2, sr_szi, sr_szr, sr_szl, sr_szn, sr_tls, sr_tln, wB_il0, wB_ll0, wB_al0, wB_is0, wB_as0, wB_inc0, wB_ls0, wB_il1, wB_ll1, wB_al1, wB_is1, wB_as1, wB_inc1, wB_ls1, wB_il2, wB_ll2, wB_al2, wB_is2, wB_as2, wB_inc2, wB_ls2, wB_il3, wB_ll3, wB_al3, wB_is3, wB_as3, wB_inc3, wB_ls3, wB_il4, wB_ll4, wB_al4, wB_is4, wB_as4, wB_inc4, wB_ls4, wB_il5, wB_ll5, wB_al5, wB_is5, wB_as5, wB_inc5, wB_ls5, wB_il6, wB_ll6, wB_al6, wB_is6, wB_as6, wB_inc6, wB_ls6, wB_il7, wB_ll7, wB_al7, wB_is7, wB_as7, wB_inc7, wB_ls7, lb_22003, lb_22004, lb_22005, cl_99, obj_6, fld_5_0, fld_6_2, fld_5_1, fld_5_3, arr_5_3, fld_5_4, arr_5_4, fld_6_5, arr_6_5, fld_5_5, arr_5_5, fld_1_6, arr_1_6, nI_clamp, inb_nI, nI_leI, nI_ltI, nI_eq, nI_z, nI_ge0, nI_lt0, nI_add, n00, n11, n01, n10, true_or, or_true, not_true_eq_false, not_false_eq_true, bI_0, bI_z, Nat.le_refl, Nat.lt_irrefl, Nat.reduceLT, Nat.reduceEqDiff, nI_gt0, nI_le0, en_22, wr]
  refine lp_a (α := Value) (W := fun i u h => sr_W (d + 2) 22001 [.ref 134, .ref B, .ref (B + 1), .int (nI i), u, sr_U, sr_U] [] h Q) (fun i u h' => Fr h h' (fun a => a = 137) ∧ JW h' x i) (2 ^ xN x) ?_ ?_ _ h ⟨Fr.rf, fun b hb => by omega⟩
  · rintro i u h1 hi ⟨f1, j1⟩ next
    have w1 := w.ss f1.1
    have wr1 := wr.ss f1.1
    have ws1 := sub_5_screens wr1
    have r1 : RC h1 B x := RC_of rp (fun a h1 h2 => f1.2 a (by omega))
    have e2 := r1.1.2.2.1
    have e1 := r1.2.1
    have hlt : ¬ 2 ^ xN x ≤ i := by omega
    rw [lb_22001]
    simp (disch := first | assumption | omega) only [Nat.reduceAdd, Nat.reduceLeDiff, Nat.zero_le, true_and, and_true, ↓reduceIte, wB_const, wB_lconst, wB_ldc, wB_getstatic, wB_dupi, wB_dupr, wB_dup2, wB_popi, wB_iadd, wB_isub, wB_imul, wB_iand, wB_ior, wB_ixor, wB_ishl, wB_ishr, wB_iushr, wB_ineg, wB_ladd, wB_lsub, wB_lmul, wB_land, wB_lneg, wB_i2l, wB_l2i, wB_lcmp, wB_idiv, wB_irem, wB_ldiv, wB_lrem, wB_goto, wB_nop, wB_ifeq, wB_ifne, wB_iflt, wB_ifge, wB_ifgt, wB_ifle, wB_icmpeq, wB_icmpne, wB_icmplt, wB_icmpge, wB_icmpgt, wB_icmple, wB_table, wB_lookup, wB_ireturn, wB_zreturn, wB_lreturn, wB_areturn, wB_return, wB_getf, wB_putf, wB_iald, wB_bald, wB_lald, wB_iast, wB_bast, wB_last, wB_min, wB_max, wB_abs, wB_minl, wB_maxl, wB_absl, wB_obj, wB_copy, wB_charAt, wB_strlen, sr_k1i, sr_k1r, sr_k1U, sr_k1l, sr_ms1, sr_ms0, sr_msn, sr_cs1, sr_csm1, sr_csm2, sr_cl1, sr_cl2, sr_szi, sr_szr, sr_szl, sr_szn, sr_tls, sr_tln, wB_il0, wB_ll0, wB_al0, wB_is0, wB_as0, wB_inc0, wB_ls0, wB_il1, wB_ll1, wB_al1, wB_is1, wB_as1, wB_inc1, wB_ls1, wB_il2, wB_ll2, wB_al2, wB_is2, wB_as2, wB_inc2, wB_ls2, wB_il3, wB_ll3, wB_al3, wB_is3, wB_as3, wB_inc3, wB_ls3, wB_il4, wB_ll4, wB_al4, wB_is4, wB_as4, wB_inc4, wB_ls4, wB_il5, wB_ll5, wB_al5, wB_is5, wB_as5, wB_inc5, wB_ls5, wB_il6, wB_ll6, wB_al6, wB_is6, wB_as6, wB_inc6, wB_ls6, wB_il7, wB_ll7, wB_al7, wB_is7, wB_as7, wB_inc7, wB_ls7, lb_22003, lb_22004, lb_22005, cl_99, obj_6, fld_5_0, fld_6_2, fld_5_1, fld_5_3, arr_5_3, fld_5_4, arr_5_4, fld_6_5, arr_6_5, fld_5_5, arr_5_5, fld_1_6, arr_1_6, nI_clamp, inb_nI, nI_leI, nI_ltI, nI_eq, nI_z, nI_ge0, nI_lt0, nI_add, n00, n11, n01, n10, true_or, or_true, not_true_eq_false, not_false_eq_true, bI_0, bI_z, Nat.le_refl, Nat.lt_irrefl, Nat.reduceLT, Nat.reduceEqDiff, nI_gt0, nI_le0, ws1, e2, shl_ok _ (show xN x < 6 by omega), hlt]
    have inner : sr_W (d + 2) 22002 [.ref 134, .ref B, .ref (B + 1), .int (nI i), .int (nI (stB x i 0)), .int (nI 0), sr_U] [] h1 Q ↔ sr_W (d + 2) 22004 [.ref 134, .ref B, .ref (B + 1), .int (nI i), .int (nI (stB x i (xF x))), .int (nI (xF x)), sr_U] [] h1 Q := by
      refine lp_iff (W := fun p => sr_W (d + 2) 22002 [.ref 134, .ref B, .ref (B + 1), .int (nI i), .int (nI (stB x i p)), .int (nI p), sr_U] [] h1 Q) (xF x) (fun p hp => ?_) ?_
      · have hlt2 : ¬ xF x ≤ p := by omega
        have p6 : p < 6 := by omega
        obtain ⟨b1, b2, b3, b4, b5⟩ := r1.2.2.2.2.2 p hp
        obtain ⟨g1, g2, g3, g4, g5⟩ := hx.2.2.2.2 p hp
        have hR := hx.1.1
        have hC := hx.1.2.1
        have hst := stB_lt (x := x) (b := i) p
        have hgv : giv x i (pR x p) (pC x p) ≤ xN x := (nr_le _).2
        rw [lb_22002]
        by_cases z : giv x i (pR x p) (pC x p) = 0
        · have hk : ¬ wkp x i p := by
            unfold wkp sea
            rw [if_pos z]
            omega
          have oz : oI 0 < 0 := by decide
          simp (disch := first | assumption | omega) only [Nat.reduceAdd, Nat.reduceLeDiff, Nat.zero_le, true_and, and_true, ↓reduceIte, wB_const, wB_lconst, wB_ldc, wB_getstatic, wB_dupi, wB_dupr, wB_dup2, wB_popi, wB_iadd, wB_isub, wB_imul, wB_iand, wB_ior, wB_ixor, wB_ishl, wB_ishr, wB_iushr, wB_ineg, wB_ladd, wB_lsub, wB_lmul, wB_land, wB_lneg, wB_i2l, wB_l2i, wB_lcmp, wB_idiv, wB_irem, wB_ldiv, wB_lrem, wB_goto, wB_nop, wB_ifeq, wB_ifne, wB_iflt, wB_ifge, wB_ifgt, wB_ifle, wB_icmpeq, wB_icmpne, wB_icmplt, wB_icmpge, wB_icmpgt, wB_icmple, wB_table, wB_lookup, wB_ireturn, wB_zreturn, wB_lreturn, wB_areturn, wB_return, wB_getf, wB_putf, wB_iald, wB_bald, wB_lald, wB_iast, wB_bast, wB_last, wB_min, wB_max, wB_abs, wB_minl, wB_maxl, wB_absl, wB_obj, wB_copy, wB_charAt, wB_strlen, sr_k1i, sr_k1r, sr_k1U, sr_k1l, sr_ms1, sr_ms0, sr_msn, sr_cs1, sr_csm1, sr_csm2, sr_cl1, sr_cl2, sr_szi, sr_szr, sr_szl, sr_szn, sr_tls, sr_tln, wB_il0, wB_ll0, wB_al0, wB_is0, wB_as0, wB_inc0, wB_ls0, wB_il1, wB_ll1, wB_al1, wB_is1, wB_as1, wB_inc1, wB_ls1, wB_il2, wB_ll2, wB_al2, wB_is2, wB_as2, wB_inc2, wB_ls2, wB_il3, wB_ll3, wB_al3, wB_is3, wB_as3, wB_inc3, wB_ls3, wB_il4, wB_ll4, wB_al4, wB_is4, wB_as4, wB_inc4, wB_ls4, wB_il5, wB_ll5, wB_al5, wB_is5, wB_as5, wB_inc5, wB_ls5, wB_il6, wB_ll6, wB_al6, wB_is6, wB_as6, wB_inc6, wB_ls6, wB_il7, wB_ll7, wB_al7, wB_is7, wB_as7, wB_inc7, wB_ls7, lb_22003, lb_22004, lb_22005, cl_99, obj_6, fld_5_0, fld_6_2, fld_5_1, fld_5_3, arr_5_3, fld_5_4, arr_5_4, fld_6_5, arr_6_5, fld_5_5, arr_5_5, fld_1_6, arr_1_6, nI_clamp, inb_nI, nI_leI, nI_ltI, nI_eq, nI_z, nI_ge0, nI_lt0, nI_add, n00, n11, n01, n10, true_or, or_true, not_true_eq_false, not_false_eq_true, bI_0, bI_z, Nat.le_refl, Nat.lt_irrefl, Nat.reduceLT, Nat.reduceEqDiff, nI_gt0, nI_le0, wr1, ws1, e1, hlt2, p6, b2, b3, m_nearestOf ws1 hx.1 r1.1 (show i < 2 ^ 31 by omega) (show pR x p < 64 by omega) (show pC x p < 64 by omega), z, oz]
          rw [stB_n hk]
        · obtain ⟨s, hs⟩ : ∃ s, giv x i (pR x p) (pC x p) = s + 1 := ⟨giv x i (pR x p) (pC x p) - 1, by omega⟩
          have hsN : s < xN x := by omega
          have c1 := (r1.1.2.2.2.2 s hsN).1
          have c2 := (hx.1.2.2.2.2 s hsN).1
          have hse : sea x i (pR x p) (pC x p) = sS x s := by
            unfold sea
            rw [if_neg z, hs]
            rfl
          by_cases q : sS x s = pW x p
          · have hk : wkp x i p := by rw [wkp, hse]; exact q
            simp (disch := first | assumption | omega) only [Nat.reduceAdd, Nat.reduceLeDiff, Nat.zero_le, true_and, and_true, ↓reduceIte, wB_const, wB_lconst, wB_ldc, wB_getstatic, wB_dupi, wB_dupr, wB_dup2, wB_popi, wB_iadd, wB_isub, wB_imul, wB_iand, wB_ior, wB_ixor, wB_ishl, wB_ishr, wB_iushr, wB_ineg, wB_ladd, wB_lsub, wB_lmul, wB_land, wB_lneg, wB_i2l, wB_l2i, wB_lcmp, wB_idiv, wB_irem, wB_ldiv, wB_lrem, wB_goto, wB_nop, wB_ifeq, wB_ifne, wB_iflt, wB_ifge, wB_ifgt, wB_ifle, wB_icmpeq, wB_icmpne, wB_icmplt, wB_icmpge, wB_icmpgt, wB_icmple, wB_table, wB_lookup, wB_ireturn, wB_zreturn, wB_lreturn, wB_areturn, wB_return, wB_getf, wB_putf, wB_iald, wB_bald, wB_lald, wB_iast, wB_bast, wB_last, wB_min, wB_max, wB_abs, wB_minl, wB_maxl, wB_absl, wB_obj, wB_copy, wB_charAt, wB_strlen, sr_k1i, sr_k1r, sr_k1U, sr_k1l, sr_ms1, sr_ms0, sr_msn, sr_cs1, sr_csm1, sr_csm2, sr_cl1, sr_cl2, sr_szi, sr_szr, sr_szl, sr_szn, sr_tls, sr_tln, wB_il0, wB_ll0, wB_al0, wB_is0, wB_as0, wB_inc0, wB_ls0, wB_il1, wB_ll1, wB_al1, wB_is1, wB_as1, wB_inc1, wB_ls1, wB_il2, wB_ll2, wB_al2, wB_is2, wB_as2, wB_inc2, wB_ls2, wB_il3, wB_ll3, wB_al3, wB_is3, wB_as3, wB_inc3, wB_ls3, wB_il4, wB_ll4, wB_al4, wB_is4, wB_as4, wB_inc4, wB_ls4, wB_il5, wB_ll5, wB_al5, wB_is5, wB_as5, wB_inc5, wB_ls5, wB_il6, wB_ll6, wB_al6, wB_is6, wB_as6, wB_inc6, wB_ls6, wB_il7, wB_ll7, wB_al7, wB_is7, wB_as7, wB_inc7, wB_ls7, lb_22003, lb_22004, lb_22005, cl_99, obj_6, fld_5_0, fld_6_2, fld_5_1, fld_5_3, arr_5_3, fld_5_4, arr_5_4, fld_6_5, arr_6_5, fld_5_5, arr_5_5, fld_1_6, arr_1_6, nI_clamp, inb_nI, nI_leI, nI_ltI, nI_eq, nI_z, nI_ge0, nI_lt0, nI_add, n00, n11, n01, n10, true_or, or_true, not_true_eq_false, not_false_eq_true, bI_0, bI_z, Nat.le_refl, Nat.lt_irrefl, Nat.reduceLT, Nat.reduceEqDiff, nI_gt0, nI_le0, wr1, ws1, e1, hlt2, p6, b2, b3, b4, m_nearestOf ws1 hx.1 r1.1 (show i < 2 ^ 31 by omega) (show pR x p < 64 by omega) (show pC x p < 64 by omega), hs, oI_s, show s < 5 by omega, c1, q, (or_ok p p6 _ hst).1]
            rw [stB_y hk]
          · have hk : ¬ wkp x i p := by rw [wkp, hse]; exact q
            simp (disch := first | assumption | omega) only [Nat.reduceAdd, Nat.reduceLeDiff, Nat.zero_le, true_and, and_true, ↓reduceIte, wB_const, wB_lconst, wB_ldc, wB_getstatic, wB_dupi, wB_dupr, wB_dup2, wB_popi, wB_iadd, wB_isub, wB_imul, wB_iand, wB_ior, wB_ixor, wB_ishl, wB_ishr, wB_iushr, wB_ineg, wB_ladd, wB_lsub, wB_lmul, wB_land, wB_lneg, wB_i2l, wB_l2i, wB_lcmp, wB_idiv, wB_irem, wB_ldiv, wB_lrem, wB_goto, wB_nop, wB_ifeq, wB_ifne, wB_iflt, wB_ifge, wB_ifgt, wB_ifle, wB_icmpeq, wB_icmpne, wB_icmplt, wB_icmpge, wB_icmpgt, wB_icmple, wB_table, wB_lookup, wB_ireturn, wB_zreturn, wB_lreturn, wB_areturn, wB_return, wB_getf, wB_putf, wB_iald, wB_bald, wB_lald, wB_iast, wB_bast, wB_last, wB_min, wB_max, wB_abs, wB_minl, wB_maxl, wB_absl, wB_obj, wB_copy, wB_charAt, wB_strlen, sr_k1i, sr_k1r, sr_k1U, sr_k1l, sr_ms1, sr_ms0, sr_msn, sr_cs1, sr_csm1, sr_csm2, sr_cl1, sr_cl2, sr_szi, sr_szr, sr_szl, sr_szn, sr_tls, sr_tln, wB_il0, wB_ll0, wB_al0, wB_is0, wB_as0, wB_inc0, wB_ls0, wB_il1, wB_ll1, wB_al1, wB_is1, wB_as1, wB_inc1, wB_ls1, wB_il2, wB_ll2, wB_al2, wB_is2, wB_as2, wB_inc2, wB_ls2, wB_il3, wB_ll3, wB_al3, wB_is3, wB_as3, wB_inc3, wB_ls3, wB_il4, wB_ll4, wB_al4, wB_is4, wB_as4, wB_inc4, wB_ls4, wB_il5, wB_ll5, wB_al5, wB_is5, wB_as5, wB_inc5, wB_ls5, wB_il6, wB_ll6, wB_al6, wB_is6, wB_as6, wB_inc6, wB_ls6, wB_il7, wB_ll7, wB_al7, wB_is7, wB_as7, wB_inc7, wB_ls7, lb_22003, lb_22004, lb_22005, cl_99, obj_6, fld_5_0, fld_6_2, fld_5_1, fld_5_3, arr_5_3, fld_5_4, arr_5_4, fld_6_5, arr_6_5, fld_5_5, arr_5_5, fld_1_6, arr_1_6, nI_clamp, inb_nI, nI_leI, nI_ltI, nI_eq, nI_z, nI_ge0, nI_lt0, nI_add, n00, n11, n01, n10, true_or, or_true, not_true_eq_false, not_false_eq_true, bI_0, bI_z, Nat.le_refl, Nat.lt_irrefl, Nat.reduceLT, Nat.reduceEqDiff, nI_gt0, nI_le0, wr1, ws1, e1, hlt2, p6, b2, b3, b4, m_nearestOf ws1 hx.1 r1.1 (show i < 2 ^ 31 by omega) (show pR x p < 64 by omega) (show pC x p < 64 by omega), hs, oI_s, show s < 5 by omega, c1, q]
            rw [stB_n hk]
      · rw [lb_22002]
        simp (disch := first | assumption | omega) only [Nat.reduceAdd, Nat.reduceLeDiff, Nat.zero_le, true_and, and_true, ↓reduceIte, wB_const, wB_lconst, wB_ldc, wB_getstatic, wB_dupi, wB_dupr, wB_dup2, wB_popi, wB_iadd, wB_isub, wB_imul, wB_iand, wB_ior, wB_ixor, wB_ishl, wB_ishr, wB_iushr, wB_ineg, wB_ladd, wB_lsub, wB_lmul, wB_land, wB_lneg, wB_i2l, wB_l2i, wB_lcmp, wB_idiv, wB_irem, wB_ldiv, wB_lrem, wB_goto, wB_nop, wB_ifeq, wB_ifne, wB_iflt, wB_ifge, wB_ifgt, wB_ifle, wB_icmpeq, wB_icmpne, wB_icmplt, wB_icmpge, wB_icmpgt, wB_icmple, wB_table, wB_lookup, wB_ireturn, wB_zreturn, wB_lreturn, wB_areturn, wB_return, wB_getf, wB_putf, wB_iald, wB_bald, wB_lald, wB_iast, wB_bast, wB_last, wB_min, wB_max, wB_abs, wB_minl, wB_maxl, wB_absl, wB_obj, wB_copy, wB_charAt, wB_strlen, sr_k1i, sr_k1r, sr_k1U, sr_k1l, sr_ms1, sr_ms0, sr_msn, sr_cs1, sr_csm1, sr_csm2, sr_cl1, sr_cl2, sr_szi, sr_szr, sr_szl, sr_szn, sr_tls, sr_tln, wB_il0, wB_ll0, wB_al0, wB_is0, wB_as0, wB_inc0, wB_ls0, wB_il1, wB_ll1, wB_al1, wB_is1, wB_as1, wB_inc1, wB_ls1, wB_il2, wB_ll2, wB_al2, wB_is2, wB_as2, wB_inc2, wB_ls2, wB_il3, wB_ll3, wB_al3, wB_is3, wB_as3, wB_inc3, wB_ls3, wB_il4, wB_ll4, wB_al4, wB_is4, wB_as4, wB_inc4, wB_ls4, wB_il5, wB_ll5, wB_al5, wB_is5, wB_as5, wB_inc5, wB_ls5, wB_il6, wB_ll6, wB_al6, wB_is6, wB_as6, wB_inc6, wB_ls6, wB_il7, wB_ll7, wB_al7, wB_is7, wB_as7, wB_inc7, wB_ls7, lb_22003, lb_22005, cl_99, obj_6, fld_5_0, fld_6_2, fld_5_1, fld_5_3, arr_5_3, fld_5_4, arr_5_4, fld_6_5, arr_6_5, fld_5_5, arr_5_5, fld_1_6, arr_1_6, nI_clamp, inb_nI, nI_leI, nI_ltI, nI_eq, nI_z, nI_ge0, nI_lt0, nI_add, n00, n11, n01, n10, true_or, or_true, not_true_eq_false, not_false_eq_true, bI_0, bI_z, Nat.le_refl, Nat.lt_irrefl, Nat.reduceLT, Nat.reduceEqDiff, nI_gt0, nI_le0, wr1, e1]
    refine inner.mpr ?_
    rw [lb_22004]
    simp (disch := first | assumption | omega) only [Nat.reduceAdd, Nat.reduceLeDiff, Nat.zero_le, true_and, and_true, ↓reduceIte, wB_const, wB_lconst, wB_ldc, wB_getstatic, wB_dupi, wB_dupr, wB_dup2, wB_popi, wB_iadd, wB_isub, wB_imul, wB_iand, wB_ior, wB_ixor, wB_ishl, wB_ishr, wB_iushr, wB_ineg, wB_ladd, wB_lsub, wB_lmul, wB_land, wB_lneg, wB_i2l, wB_l2i, wB_lcmp, wB_idiv, wB_irem, wB_ldiv, wB_lrem, wB_goto, wB_nop, wB_ifeq, wB_ifne, wB_iflt, wB_ifge, wB_ifgt, wB_ifle, wB_icmpeq, wB_icmpne, wB_icmplt, wB_icmpge, wB_icmpgt, wB_icmple, wB_table, wB_lookup, wB_ireturn, wB_zreturn, wB_lreturn, wB_areturn, wB_return, wB_getf, wB_putf, wB_iald, wB_bald, wB_lald, wB_iast, wB_bast, wB_last, wB_min, wB_max, wB_abs, wB_minl, wB_maxl, wB_absl, wB_obj, wB_copy, wB_charAt, wB_strlen, sr_k1i, sr_k1r, sr_k1U, sr_k1l, sr_ms1, sr_ms0, sr_msn, sr_cs1, sr_csm1, sr_csm2, sr_cl1, sr_cl2, sr_szi, sr_szr, sr_szl, sr_szn, sr_tls, sr_tln, wB_il0, wB_ll0, wB_al0, wB_is0, wB_as0, wB_inc0, wB_ls0, wB_il1, wB_ll1, wB_al1, wB_is1, wB_as1, wB_inc1, wB_ls1, wB_il2, wB_ll2, wB_al2, wB_is2, wB_as2, wB_inc2, wB_ls2, wB_il3, wB_ll3, wB_al3, wB_is3, wB_as3, wB_inc3, wB_ls3, wB_il4, wB_ll4, wB_al4, wB_is4, wB_as4, wB_inc4, wB_ls4, wB_il5, wB_ll5, wB_al5, wB_is5, wB_as5, wB_inc5, wB_ls5, wB_il6, wB_ll6, wB_al6, wB_is6, wB_as6, wB_inc6, wB_ls6, wB_il7, wB_ll7, wB_al7, wB_is7, wB_as7, wB_inc7, wB_ls7, lb_22003, lb_22005, cl_99, obj_6, fld_5_0, fld_6_2, fld_5_1, fld_5_3, arr_5_3, fld_5_4, arr_5_4, fld_6_5, arr_6_5, fld_5_5, arr_5_5, fld_1_6, arr_1_6, nI_clamp, inb_nI, nI_leI, nI_ltI, nI_eq, nI_z, nI_ge0, nI_lt0, nI_add, n00, n11, n01, n10, true_or, or_true, not_true_eq_false, not_false_eq_true, bI_0, bI_z, Nat.le_refl, Nat.lt_irrefl, Nat.reduceLT, Nat.reduceEqDiff, nI_gt0, nI_le0, w1, show i < 32 by omega]
    refine next _ _ ⟨Fr_sI f1 rfl, fun b hb => ?_⟩
    by_cases q : b = i
    · rw [q]
      exact hI_y (arr_1_6 w1).2.1
    · rw [hI_n (fun y => q y.2)]
      exact j1 b (by omega)
  · rintro u h1 ⟨f1, j1⟩
    have ws1 := sub_5_screens (wr.ss f1.1)
    have r1 : RC h1 B x := RC_of rp (fun a h1 h2 => f1.2 a (by omega))
    have e2 := r1.1.2.2.1
    rw [lb_22001]
    simp (disch := first | assumption | omega) only [Nat.reduceAdd, Nat.reduceLeDiff, Nat.zero_le, true_and, and_true, ↓reduceIte, wB_const, wB_lconst, wB_ldc, wB_getstatic, wB_dupi, wB_dupr, wB_dup2, wB_popi, wB_iadd, wB_isub, wB_imul, wB_iand, wB_ior, wB_ixor, wB_ishl, wB_ishr, wB_iushr, wB_ineg, wB_ladd, wB_lsub, wB_lmul, wB_land, wB_lneg, wB_i2l, wB_l2i, wB_lcmp, wB_idiv, wB_irem, wB_ldiv, wB_lrem, wB_goto, wB_nop, wB_ifeq, wB_ifne, wB_iflt, wB_ifge, wB_ifgt, wB_ifle, wB_icmpeq, wB_icmpne, wB_icmplt, wB_icmpge, wB_icmpgt, wB_icmple, wB_table, wB_lookup, wB_ireturn, wB_zreturn, wB_lreturn, wB_areturn, wB_return, wB_getf, wB_putf, wB_iald, wB_bald, wB_lald, wB_iast, wB_bast, wB_last, wB_min, wB_max, wB_abs, wB_minl, wB_maxl, wB_absl, wB_obj, wB_copy, wB_charAt, wB_strlen, sr_k1i, sr_k1r, sr_k1U, sr_k1l, sr_ms1, sr_ms0, sr_msn, sr_cs1, sr_csm1, sr_csm2, sr_cl1, sr_cl2, sr_szi, sr_szr, sr_szl, sr_szn, sr_tls, sr_tln, wB_il0, wB_ll0, wB_al0, wB_is0, wB_as0, wB_inc0, wB_ls0, wB_il1, wB_ll1, wB_al1, wB_is1, wB_as1, wB_inc1, wB_ls1, wB_il2, wB_ll2, wB_al2, wB_is2, wB_as2, wB_inc2, wB_ls2, wB_il3, wB_ll3, wB_al3, wB_is3, wB_as3, wB_inc3, wB_ls3, wB_il4, wB_ll4, wB_al4, wB_is4, wB_as4, wB_inc4, wB_ls4, wB_il5, wB_ll5, wB_al5, wB_is5, wB_as5, wB_inc5, wB_ls5, wB_il6, wB_ll6, wB_al6, wB_is6, wB_as6, wB_inc6, wB_ls6, wB_il7, wB_ll7, wB_al7, wB_is7, wB_as7, wB_inc7, wB_ls7, lb_22003, lb_22004, lb_22005, cl_99, obj_6, fld_5_0, fld_6_2, fld_5_1, fld_5_3, arr_5_3, fld_5_4, arr_5_4, fld_6_5, arr_6_5, fld_5_5, arr_5_5, fld_1_6, arr_1_6, nI_clamp, inb_nI, nI_leI, nI_ltI, nI_eq, nI_z, nI_ge0, nI_lt0, nI_add, n00, n11, n01, n10, true_or, or_true, not_true_eq_false, not_false_eq_true, bI_0, bI_z, Nat.le_refl, Nat.lt_irrefl, Nat.reduceLT, Nat.reduceEqDiff, nI_gt0, nI_le0, ws1, e2, shl_ok _ (show xN x < 6 by omega)]
    exact kk h1 f1 j1
def fac : Nat → Nat
  | 0 => 1
  | n + 1 => (n + 1) * fac n
theorem fac_s : ∀ n, n < 6 → (sr_sa (stA 2 - sr_sb)).getD n 0 = nI (fac n) := by decide
theorem bit_n : ∀ b, b < 32 → ∀ s, s < 5 → ¬ b / 2 ^ s % 2 = 1 → nI b ||| nI 1 <<< (nI s &&& 31) = nI (b + 2 ^ s) := by decide +kernel
/-- what one screen adds by all orders, over the first i sets -/
noncomputable def worN (x : V) (s : Nat) : Nat → Int32
  | 0 => nI 0
  | i + 1 => if i / 2 ^ s % 2 = 1 then worN x s i else worN x s i + nI (fac (ones i)) * nI (fac (xN x - 1 - ones i)) * (nI (cnt x (i + 2 ^ s)) - nI (cnt x i))
theorem bit_b : ∀ n, n < 6 → ∀ b, b < 2 ^ n → ∀ s, s < n → ¬ b / 2 ^ s % 2 = 1 → b + 2 ^ s < 2 ^ n ∧ ones b + 1 ≤ n := by decide +kernel
theorem stB_l {x : V} {b n : Nat} (h : n ≤ 6) : stB x b n < 256 := by
  have h1 := stB_lt (x := x) (b := b) n
  have h2 : ∀ n, n ≤ 6 → 2 ^ n ≤ 64 := by decide
  have := h2 n h
  omega
set_option maxHeartbeats 4000000 in
set_option maxRecDepth 100000 in
theorem m_worthOf {d s : Nat} {h : sr_H} {Q : sr_T} {x : V} (w : Jdg h) (hm : h.1.1 ≤ 1000) (hx : Wr x) (hs : s < xN x) (jw : JW h x (2 ^ xN x)) : sr_M (d + 2) 23 [.ref 134, .int (nI s), .int (nI (xN x))] h Q ↔ Q (some (.int (worN x s (2 ^ xN x)))) h := by
  have hN := hx.1.2.2.1
  have hF := hx.2.1
  have hp := pow_le (xN x) hN
  simp (disch := first | assumption | omega) only [Nat.reduceAdd, Nat.reduceLeDiff, Nat.zero_le, true_and, and_true, ↓reduceIte, wB_const, wB_lconst, wB_ldc, wB_gs, wB_dupi, wB_dupr, wB_dup2, wB_popi, wB_iadd, wB_isub, wB_imul, wB_iand, wB_ior, wB_ixor, wB_ishl, wB_ishr, wB_iushr, wB_ineg, wB_ladd, wB_lsub, wB_lmul, wB_land, wB_lneg, wB_i2l, wB_l2i, wB_lcmp, wB_idiv, wB_irem, wB_ldiv, wB_lrem, wB_goto, wB_nop, wB_ifeq, wB_ifne, wB_iflt, wB_ifge, wB_ifgt, wB_ifle, wB_icmpeq, wB_icmpne, wB_icmplt, wB_icmpge, wB_icmpgt, wB_icmple, wB_table, wB_lookup, wB_ireturn, wB_zreturn, wB_lreturn, wB_areturn, wB_return, wB_getf, wB_putf, wB_iald, wB_bald, wB_lald, wB_iast, wB_bast, wB_last, wB_min, wB_max, wB_abs, wB_minl, wB_maxl, wB_absl, wB_obj, wB_copy, wB_charAt, wB_strlen, sr_k1i, sr_k1r, sr_k1U, sr_k1l, sr_ms1, sr_ms0, sr_msn, sr_cs1, sr_csm1, sr_csm2, sr_cl1, sr_cl2, sr_szi, sr_szr, sr_szl, sr_szn, sr_tls, sr_tln, wB_il0, wB_ll0, wB_al0, wB_is0, wB_as0, wB_inc0, wB_ls0, wB_il1, wB_ll1, wB_al1, wB_is1, wB_as1, wB_inc1, wB_ls1, wB_il2, wB_ll2, wB_al2, wB_is2, wB_as2, wB_inc2, wB_ls2, wB_il3, wB_ll3, wB_al3, wB_is3, wB_as3, wB_inc3, wB_ls3, wB_il4, wB_ll4, wB_al4, wB_is4, wB_as4, wB_inc4, wB_ls4, wB_il5, wB_ll5, wB_al5, wB_is5, wB_as5, wB_inc5, wB_ls5, wB_il6, wB_ll6, wB_al6, wB_is6, wB_as6, wB_inc6, wB_ls6, wB_il7, wB_ll7, wB_al7, wB_is7, wB_as7, wB_inc7, wB_ls7, lb_23002, lb_23003, cl_297, fld_1_6, arr_1_6, nI_clamp, inb_nI, nI_leI, nI_ltI, nI_eq, nI_z, nI_ge0, nI_lt0, nI_add, n00, n11, n01, n10, true_or, or_true, not_true_eq_false, not_false_eq_true, bI_0, bI_z, Nat.le_refl, Nat.lt_irrefl, Nat.reduceLT, Nat.reduceEqDiff, nI_gt0, nI_le0, en_23]
  refine lp_iff (W := fun i => sr_W (d + 1) 23001 [.ref 134, .int (nI s), .int (nI (xN x)), .int (worN x s i), .int (nI i), sr_U, sr_U] [] h Q) (2 ^ xN x) (fun i hi => ?_) ?_
  · have hlt : ¬ 2 ^ xN x ≤ i := by omega
    rw [lb_23001]
    by_cases q : i / 2 ^ s % 2 = 1
    · simp (disch := first | assumption | omega) only [Nat.reduceAdd, Nat.reduceLeDiff, Nat.zero_le, true_and, and_true, ↓reduceIte, wB_const, wB_lconst, wB_ldc, wB_gs, wB_dupi, wB_dupr, wB_dup2, wB_popi, wB_iadd, wB_isub, wB_imul, wB_iand, wB_ior, wB_ixor, wB_ishl, wB_ishr, wB_iushr, wB_ineg, wB_ladd, wB_lsub, wB_lmul, wB_land, wB_lneg, wB_i2l, wB_l2i, wB_lcmp, wB_idiv, wB_irem, wB_ldiv, wB_lrem, wB_goto, wB_nop, wB_ifeq, wB_ifne, wB_iflt, wB_ifge, wB_ifgt, wB_ifle, wB_icmpeq, wB_icmpne, wB_icmplt, wB_icmpge, wB_icmpgt, wB_icmple, wB_table, wB_lookup, wB_ireturn, wB_zreturn, wB_lreturn, wB_areturn, wB_return, wB_getf, wB_putf, wB_iald, wB_bald, wB_lald, wB_iast, wB_bast, wB_last, wB_min, wB_max, wB_abs, wB_minl, wB_maxl, wB_absl, wB_obj, wB_copy, wB_charAt, wB_strlen, sr_k1i, sr_k1r, sr_k1U, sr_k1l, sr_ms1, sr_ms0, sr_msn, sr_cs1, sr_csm1, sr_csm2, sr_cl1, sr_cl2, sr_szi, sr_szr, sr_szl, sr_szn, sr_tls, sr_tln, wB_il0, wB_ll0, wB_al0, wB_is0, wB_as0, wB_inc0, wB_ls0, wB_il1, wB_ll1, wB_al1, wB_is1, wB_as1, wB_inc1, wB_ls1, wB_il2, wB_ll2, wB_al2, wB_is2, wB_as2, wB_inc2, wB_ls2, wB_il3, wB_ll3, wB_al3, wB_is3, wB_as3, wB_inc3, wB_ls3, wB_il4, wB_ll4, wB_al4, wB_is4, wB_as4, wB_inc4, wB_ls4, wB_il5, wB_ll5, wB_al5, wB_is5, wB_as5, wB_inc5, wB_ls5, wB_il6, wB_ll6, wB_al6, wB_is6, wB_as6, wB_inc6, wB_ls6, wB_il7, wB_ll7, wB_al7, wB_is7, wB_as7, wB_inc7, wB_ls7, lb_23002, lb_23003, cl_297, fld_1_6, arr_1_6, nI_clamp, inb_nI, nI_leI, nI_ltI, nI_eq, nI_z, nI_ge0, nI_lt0, nI_add, n00, n11, n01, n10, true_or, or_true, not_true_eq_false, not_false_eq_true, bI_0, bI_z, Nat.le_refl, Nat.lt_irrefl, Nat.reduceLT, Nat.reduceEqDiff, nI_gt0, nI_le0, shl_ok _ (show xN x < 6 by omega), hlt, bit0, q]
      rw [worN, if_pos q]
    · obtain ⟨u1, u2⟩ := bit_b (xN x) (by omega) i hi s hs q
      have l1 := stB_l (x := x) (b := i) hF
      have l2 := stB_l (x := x) (b := i + 2 ^ s) hF
      have a1 : fac (ones i) < 2 ^ 31 ∧ True := ⟨by
        have : ∀ n, n < 6 → fac n < 2 ^ 31 := by decide
        exact this _ (by omega), trivial⟩
      simp (disch := first | assumption | omega) only [Nat.reduceAdd, Nat.reduceLeDiff, Nat.zero_le, true_and, and_true, ↓reduceIte, wB_const, wB_lconst, wB_ldc, wB_gs, wB_dupi, wB_dupr, wB_dup2, wB_popi, wB_iadd, wB_isub, wB_imul, wB_iand, wB_ior, wB_ixor, wB_ishl, wB_ishr, wB_iushr, wB_ineg, wB_ladd, wB_lsub, wB_lmul, wB_land, wB_lneg, wB_i2l, wB_l2i, wB_lcmp, wB_idiv, wB_irem, wB_ldiv, wB_lrem, wB_goto, wB_nop, wB_ifeq, wB_ifne, wB_iflt, wB_ifge, wB_ifgt, wB_ifle, wB_icmpeq, wB_icmpne, wB_icmplt, wB_icmpge, wB_icmpgt, wB_icmple, wB_table, wB_lookup, wB_ireturn, wB_zreturn, wB_lreturn, wB_areturn, wB_return, wB_getf, wB_putf, wB_iald, wB_bald, wB_lald, wB_iast, wB_bast, wB_last, wB_min, wB_max, wB_abs, wB_minl, wB_maxl, wB_absl, wB_obj, wB_copy, wB_charAt, wB_strlen, sr_k1i, sr_k1r, sr_k1U, sr_k1l, sr_ms1, sr_ms0, sr_msn, sr_cs1, sr_csm1, sr_csm2, sr_cl1, sr_cl2, sr_szi, sr_szr, sr_szl, sr_szn, sr_tls, sr_tln, wB_il0, wB_ll0, wB_al0, wB_is0, wB_as0, wB_inc0, wB_ls0, wB_il1, wB_ll1, wB_al1, wB_is1, wB_as1, wB_inc1, wB_ls1, wB_il2, wB_ll2, wB_al2, wB_is2, wB_as2, wB_inc2, wB_ls2, wB_il3, wB_ll3, wB_al3, wB_is3, wB_as3, wB_inc3, wB_ls3, wB_il4, wB_ll4, wB_al4, wB_is4, wB_as4, wB_inc4, wB_ls4, wB_il5, wB_ll5, wB_al5, wB_is5, wB_as5, wB_inc5, wB_ls5, wB_il6, wB_ll6, wB_al6, wB_is6, wB_as6, wB_inc6, wB_ls6, wB_il7, wB_ll7, wB_al7, wB_is7, wB_as7, wB_inc7, wB_ls7, lb_23002, lb_23003, cl_297, fld_1_6, arr_1_6, nI_clamp, inb_nI, nI_leI, nI_ltI, nI_eq, nI_z, nI_ge0, nI_lt0, nI_add, n00, n11, n01, n10, true_or, or_true, not_true_eq_false, not_false_eq_true, bI_0, bI_z, Nat.le_refl, Nat.lt_irrefl, Nat.reduceLT, Nat.reduceEqDiff, nI_gt0, nI_le0, w, shl_ok _ (show xN x < 6 by omega), hlt, bit0, q, m_bitCount (show i < 256 by omega), bit_n i (show i < 32 by omega) s (show s < 5 by omega) q, show i + 2 ^ s < 32 by omega, show i < 32 by omega, jw _ u1, jw _ hi, m_bitCount l1, m_bitCount l2, ones_B _ hF, stA_lt, stA_in, stA_2, show ones i < 6 by omega, fac_s _ (show ones i < 6 by omega), pk_sub (show 1 ≤ xN x by omega), pk_sub (show ones i ≤ xN x - 1 by omega), show xN x - 1 - ones i < 6 by omega, fac_s _ (show xN x - 1 - ones i < 6 by omega)]
      rw [worN, if_neg q]
      exact Iff.rfl
  · rw [lb_23001]
    simp (disch := first | assumption | omega) only [Nat.reduceAdd, Nat.reduceLeDiff, Nat.zero_le, true_and, and_true, ↓reduceIte, wB_const, wB_lconst, wB_ldc, wB_gs, wB_dupi, wB_dupr, wB_dup2, wB_popi, wB_iadd, wB_isub, wB_imul, wB_iand, wB_ior, wB_ixor, wB_ishl, wB_ishr, wB_iushr, wB_ineg, wB_ladd, wB_lsub, wB_lmul, wB_land, wB_lneg, wB_i2l, wB_l2i, wB_lcmp, wB_idiv, wB_irem, wB_ldiv, wB_lrem, wB_goto, wB_nop, wB_ifeq, wB_ifne, wB_iflt, wB_ifge, wB_ifgt, wB_ifle, wB_icmpeq, wB_icmpne, wB_icmplt, wB_icmpge, wB_icmpgt, wB_icmple, wB_table, wB_lookup, wB_ireturn, wB_zreturn, wB_lreturn, wB_areturn, wB_return, wB_getf, wB_putf, wB_iald, wB_bald, wB_lald, wB_iast, wB_bast, wB_last, wB_min, wB_max, wB_abs, wB_minl, wB_maxl, wB_absl, wB_obj, wB_copy, wB_charAt, wB_strlen, sr_k1i, sr_k1r, sr_k1U, sr_k1l, sr_ms1, sr_ms0, sr_msn, sr_cs1, sr_csm1, sr_csm2, sr_cl1, sr_cl2, sr_szi, sr_szr, sr_szl, sr_szn, sr_tls, sr_tln, wB_il0, wB_ll0, wB_al0, wB_is0, wB_as0, wB_inc0, wB_ls0, wB_il1, wB_ll1, wB_al1, wB_is1, wB_as1, wB_inc1, wB_ls1, wB_il2, wB_ll2, wB_al2, wB_is2, wB_as2, wB_inc2, wB_ls2, wB_il3, wB_ll3, wB_al3, wB_is3, wB_as3, wB_inc3, wB_ls3, wB_il4, wB_ll4, wB_al4, wB_is4, wB_as4, wB_inc4, wB_ls4, wB_il5, wB_ll5, wB_al5, wB_is5, wB_as5, wB_inc5, wB_ls5, wB_il6, wB_ll6, wB_al6, wB_is6, wB_as6, wB_inc6, wB_ls6, wB_il7, wB_ll7, wB_al7, wB_is7, wB_as7, wB_inc7, wB_ls7, lb_23002, lb_23003, cl_297, fld_1_6, arr_1_6, nI_clamp, inb_nI, nI_leI, nI_ltI, nI_eq, nI_z, nI_ge0, nI_lt0, nI_add, n00, n11, n01, n10, true_or, or_true, not_true_eq_false, not_false_eq_true, bI_0, bI_z, Nat.le_refl, Nat.lt_irrefl, Nat.reduceLT, Nat.reduceEqDiff, nI_gt0, nI_le0, shl_ok _ (show xN x < 6 by omega)]
