/-! Hours: what the laws are asked. -/
/-- the text at T holds t: what hours need of it -/
def TC (h : sr_H) (T : Nat) (t : V) : Prop := (fI h T 5 = nI (t 0 0) ∧ fI h T 9 = nI (t 0 1) ∧ fI h T 14 = nI (t 0 2)) ∧ (∀ j, 1 ≤ j → j ≤ 4 → ∀ k, k < t 0 1 → hI h (T + (25 + j)) k = nI (t j k)) ∧ (∀ j, 5 ≤ j → j ≤ 7 → ∀ k, k < t 0 2 → hI h (T + (25 + j)) k = nI (t j k)) ∧ ∀ k, k < 3 → LCk h (T + 17) t k
/-- what a text may be, for so many screens and folk -/
def Wt (t : V) (N F : Nat) : Prop := t 0 0 ≤ 100 ∧ (t 0 1 ≤ 10 ∧ ∀ k, k < t 0 1 → t 1 k < N ∧ t 2 k ≤ 99 ∧ t 3 k < 8 ∧ t 4 k < 8) ∧ (t 0 2 ≤ 12 ∧ ∀ k, k < t 0 2 → t 5 k < F ∧ t 6 k ≤ 99 ∧ t 7 k < 4) ∧ ∀ k, k < 3 → LWk t k ∧ t 12 k ≤ 64
theorem LCk_of {h h' : sr_H} {B k : Nat} {t : V} (l : LCk h B t k) (e : ∀ j, 1 ≤ j → j ≤ 4 → h'.2 (B + j) = h.2 (B + j)) : LCk h' B t k := ⟨by rw [hI_of (e 3 (by omega) (by omega))]; exact l.1, by rw [hI_of (e 4 (by omega) (by omega))]; exact l.2.1, fun i h1 h2 => by rw [hI_of (e 1 (by omega) (by omega)), hI_of (e 2 (by omega) (by omega))]; exact l.2.2 i h1 h2⟩
theorem TC_of {h h' : sr_H} {T : Nat} {t : V} (l : TC h T t) (e : ∀ a, T ≤ a → a ≤ T + 32 → a ≠ T + 22 → a ≠ T + 23 → h'.2 a = h.2 a) : TC h' T t := by
  obtain ⟨⟨a1, a2, a3⟩, b1, b2, b3⟩ := l
  refine ⟨⟨?_, ?_, ?_⟩, fun j h1 h2 k hk => ?_, fun j h1 h2 k hk => ?_, fun k hk => LCk_of (b3 k hk) (fun j h1 h2 => e _ (by omega) (by omega) (by omega) (by omega))⟩
  · rw [fI_of (e T (by omega) (by omega) (by omega) (by omega))]; exact a1
  · rw [fI_of (e T (by omega) (by omega) (by omega) (by omega))]; exact a2
  · rw [fI_of (e T (by omega) (by omega) (by omega) (by omega))]; exact a3
  · rw [hI_of (e _ (by omega) (by omega) (by omega) (by omega))]; exact b1 j h1 h2 k hk
  · rw [hI_of (e _ (by omega) (by omega) (by omega) (by omega))]; exact b2 j h1 h2 k hk
/-- what a law is told of one of folk at a cell; of a screen -/
def nmF (x : V) (p r c fr : Nat) : Nat → Int64 := fun j => (if j = 0 then nI (sea x (xP x) r c) else if j = 1 then nI fr else if j = 2 then nI (pA x p) else if j = 3 then nI (pD x p) else if j = 4 then nI (gF x r c) else if j = 5 then nI (whl x) else nI (xH x)).toInt64
def nmS (x : V) (s : Nat) : Nat → Int64 := fun j => (if j = 0 then nI (sS x s) else if j = 1 then nI 0 else if j = 2 then nI 0 else if j = 3 then nI 0 else if j = 4 then nI (sL x s) - nI (ones (sW x s)) else if j = 5 then nI (ones (sW x s)) else nI (xH x)).toInt64
theorem nm_row {h : sr_H} {a : Nat} {v0 v1 v2 v3 v4 v5 v6 : Int32} (ia : isJ h a) : ∀ j, j < 7 → hJ (sJ (sJ (sJ (sJ (sJ (sJ (sJ h a 0 v0.toInt64) a 1 v1.toInt64) a 2 v2.toInt64) a 3 v3.toInt64) a 4 v4.toInt64) a 5 v5.toInt64) a 6 v6.toInt64) a j = (if j = 0 then v0 else if j = 1 then v1 else if j = 2 then v2 else if j = 3 then v3 else if j = 4 then v4 else if j = 5 then v5 else v6).toInt64 := by
  intro j hj
  have : j = 0 ∨ j = 1 ∨ j = 2 ∨ j = 3 ∨ j = 4 ∨ j = 5 ∨ j = 6 := by omega
  rcases this with rfl | rfl | rfl | rfl | rfl | rfl | rfl <;> simp (disch := first | assumption | omega | (simp only [isJ_sJ]; assumption)) only [hJ_n, hJ_y] <;> simp
theorem Fr_nm {h : sr_H} {P : Nat → Prop} {a : Nat} {v0 v1 v2 v3 v4 v5 v6 : Int64} (ha : P a) : Fr h (sJ (sJ (sJ (sJ (sJ (sJ (sJ h a 0 v0) a 1 v1) a 2 v2) a 3 v3) a 4 v4) a 5 v5) a 6 v6) P := Fr_sJ (Fr_sJ (Fr_sJ (Fr_sJ (Fr_sJ (Fr_sJ (Fr_sJ Fr.rf ha) ha) ha) ha) ha) ha) ha
/-- only what a law is worked out with is changed -/
def PL (T : Nat) : Nat → Prop := fun a => a = T + 22 ∨ a = T + 23
set_option maxHeartbeats 4000000 in
set_option maxRecDepth 100000 in
theorem m_ageingLaw {d B T p r c fr : Nat} {h : sr_H} {Q : sr_T} {x t : V} (w : Rm h B) (wt : Txt h T) (hx : Wr x) (rp : RC h B x) (kc : KC h (B + 1) x) (tc : TC h T t) (ht : Wt t (xN x) (xF x)) (hp : p < xF x) (hr : r < xR x) (hc : c < xC x) (kk : ∀ h', Fr h h' (PL T) → Q (some (.long (law t (nmF x p r c fr) 0))) h') : sr_M (d + 4) 14 [.ref B, .ref T, .int (nI p), .int (nI (8 * r + c)), .int (nI fr)] h Q := by
  have hN := hx.2.1
  have hR := hx.1.1
  have hC := hx.1.2.1
  have hp6 : p < 6 := by omega
  obtain ⟨f1, f2, f3, f4, f5⟩ := rp.2.2.2.2.2 p hp
  have ws := sub_5_screens w
  have wl := sub_8_laws wt
  have hcell : 8 * r + c < 64 := by omega
  obtain ⟨k1, k2, k3⟩ := kc.2 r c hr hc
  have k4 := kc.1
  have k5 := rp.2.2.1
  simp (disch := first | assumption | omega) only [Nat.reduceAdd, Nat.reduceLeDiff, Nat.zero_le, true_and, and_true, ↓reduceIte, wB_const, wB_lconst, wB_ldc, wB_getstatic, wB_dupi, wB_dupr, wB_dup2, wB_popi, wB_iadd, wB_isub, wB_imul, wB_iand, wB_ior, wB_ixor, wB_ishl, wB_ishr, wB_iushr, wB_ineg, wB_ladd, wB_lsub, wB_lmul, wB_land, wB_lneg, wB_i2l, wB_l2i, wB_lcmp, wB_idiv, wB_irem, wB_ldiv, wB_lrem, wB_goto, wB_nop, wB_ifeq, wB_ifne, wB_iflt, wB_ifge, wB_ifgt, wB_ifle, wB_icmpeq, wB_icmpne, wB_icmplt, wB_icmpge, wB_icmpgt, wB_icmple, wB_table, wB_lookup, wB_ireturn, wB_zreturn, wB_lreturn, wB_areturn, wB_return, wB_getf, wB_putf, wB_iald, wB_bald, wB_lald, wB_iast, wB_bast, wB_last, wB_min, wB_max, wB_abs, wB_minl, wB_maxl, wB_absl, wB_obj, wB_copy, wB_charAt, wB_strlen, sr_k1i, sr_k1r, sr_k1U, sr_k1l, sr_ms1, sr_ms0, sr_msn, sr_cs1, sr_csm1, sr_csm2, sr_cl1, sr_cl2, sr_szi, sr_szr, sr_szl, sr_szn, sr_tls, sr_tln, wB_il0, wB_ll0, wB_al0, wB_is0, wB_as0, wB_inc0, wB_ls0, wB_il1, wB_ll1, wB_al1, wB_is1, wB_as1, wB_inc1, wB_ls1, wB_il2, wB_ll2, wB_al2, wB_is2, wB_as2, wB_inc2, wB_ls2, wB_il3, wB_ll3, wB_al3, wB_is3, wB_as3, wB_inc3, wB_ls3, wB_il4, wB_ll4, wB_al4, wB_is4, wB_as4, wB_inc4, wB_ls4, wB_il5, wB_ll5, wB_al5, wB_is5, wB_as5, wB_inc5, wB_ls5, wB_il6, wB_ll6, wB_al6, wB_is6, wB_as6, wB_inc6, wB_ls6, wB_il7, wB_ll7, wB_al7, wB_is7, wB_as7, wB_inc7, wB_ls7, cl_35, cl_36, obj_2, fld_5_0, fld_8_1, fld_6_11, arr_6_11, fld_5_2, arr_5_2, fld_5_6, arr_5_6, fld_6_12, arr_6_12, fld_6_4, fld_5_7, nI_clamp, inb_nI, nI_leI, nI_ltI, nI_eq, nI_z, nI_ge0, nI_lt0, nI_add, n00, n11, n01, n10, true_or, or_true, not_true_eq_false, not_false_eq_true, bI_0, bI_z, Nat.le_refl, Nat.lt_irrefl, Nat.reduceLT, en_14, w, wt, ws, wl, hcell, hp6, f1, f5, k1, k2, k4, k5, m_name, oC_sJ, oF_sJ, hF_sJ]
  refine m_workOut (d := d) (nm := nmF x p r c fr) ?_ (by omega) (ht.2.2.2 0 (by omega)).1 ?_ ?_ ?_ ?_
  · simp only [Lws_sJ]
    exact wl
  · have := (ht.2.2.2 0 (by omega)).2
    omega
  · exact LCk_sJ (LCk_sJ (LCk_sJ (LCk_sJ (LCk_sJ (LCk_sJ (LCk_sJ (tc.2.2.2 0 (by omega))))))))
  · exact nm_row (arr_2_6 wl).2.1
  · intro h' f
    have := kk h' ((Fr_nm (Or.inl rfl)).tr (f.mono (fun q hq => Or.inr hq)))
    simp (disch := first | assumption | omega) only [Nat.reduceAdd, Nat.reduceLeDiff, Nat.zero_le, true_and, and_true, ↓reduceIte, wB_const, wB_lconst, wB_ldc, wB_getstatic, wB_dupi, wB_dupr, wB_dup2, wB_popi, wB_iadd, wB_isub, wB_imul, wB_iand, wB_ior, wB_ixor, wB_ishl, wB_ishr, wB_iushr, wB_ineg, wB_ladd, wB_lsub, wB_lmul, wB_land, wB_lneg, wB_i2l, wB_l2i, wB_lcmp, wB_idiv, wB_irem, wB_ldiv, wB_lrem, wB_goto, wB_nop, wB_ifeq, wB_ifne, wB_iflt, wB_ifge, wB_ifgt, wB_ifle, wB_icmpeq, wB_icmpne, wB_icmplt, wB_icmpge, wB_icmpgt, wB_icmple, wB_table, wB_lookup, wB_ireturn, wB_zreturn, wB_lreturn, wB_areturn, wB_return, wB_getf, wB_putf, wB_iald, wB_bald, wB_lald, wB_iast, wB_bast, wB_last, wB_min, wB_max, wB_abs, wB_minl, wB_maxl, wB_absl, wB_obj, wB_copy, wB_charAt, wB_strlen, sr_k1i, sr_k1r, sr_k1U, sr_k1l, sr_ms1, sr_ms0, sr_msn, sr_cs1, sr_csm1, sr_csm2, sr_cl1, sr_cl2, sr_szi, sr_szr, sr_szl, sr_szn, sr_tls, sr_tln, wB_il0, wB_ll0, wB_al0, wB_is0, wB_as0, wB_inc0, wB_ls0, wB_il1, wB_ll1, wB_al1, wB_is1, wB_as1, wB_inc1, wB_ls1, wB_il2, wB_ll2, wB_al2, wB_is2, wB_as2, wB_inc2, wB_ls2, wB_il3, wB_ll3, wB_al3, wB_is3, wB_as3, wB_inc3, wB_ls3, wB_il4, wB_ll4, wB_al4, wB_is4, wB_as4, wB_inc4, wB_ls4, wB_il5, wB_ll5, wB_al5, wB_is5, wB_as5, wB_inc5, wB_ls5, wB_il6, wB_ll6, wB_al6, wB_is6, wB_as6, wB_inc6, wB_ls6, wB_il7, wB_ll7, wB_al7, wB_is7, wB_as7, wB_inc7, wB_ls7, cl_35, cl_36, obj_2, fld_5_0, fld_8_1, fld_6_11, arr_6_11, fld_5_2, arr_5_2, fld_5_6, arr_5_6, fld_6_12, arr_6_12, fld_6_4, fld_5_7, nI_clamp, inb_nI, nI_leI, nI_ltI, nI_eq, nI_z, nI_ge0, nI_lt0, nI_add, n00, n11, n01, n10, true_or, or_true, not_true_eq_false, not_false_eq_true, bI_0, bI_z, Nat.le_refl, Nat.lt_irrefl, Nat.reduceLT]
    exact this
set_option maxHeartbeats 4000000 in
set_option maxRecDepth 100000 in
theorem m_payLaw {d B T p : Nat} {h : sr_H} {Q : sr_T} {x t : V} (w : Rm h B) (wt : Txt h T) (hx : Wr x) (rp : RC h B x) (kc : KC h (B + 1) x) (tc : TC h T t) (ht : Wt t (xN x) (xF x)) (hp : p < xF x) (kk : ∀ h', Fr h h' (PL T) → Q (some (.long (law t (nmF x p (pR x p) (pC x p) (pW x p)) 1))) h') : sr_M (d + 4) 15 [.ref B, .ref T, .int (nI p)] h Q := by
  have hN := hx.2.1
  have hR := hx.1.1
  have hC := hx.1.2.1
  have hp6 : p < 6 := by omega
  obtain ⟨f1, f2, f3, f4, f5⟩ := rp.2.2.2.2.2 p hp
  obtain ⟨g1, g2, g3, g4, g5⟩ := hx.2.2.2.2 p hp
  have ws := sub_5_screens w
  have wl := sub_8_laws wt
  have hcell : 8 * pR x p + pC x p < 64 := by omega
  obtain ⟨k1, k2, k3⟩ := kc.2 _ _ g2 g3
  have k4 := kc.1
  have k5 := rp.2.2.1
  simp (disch := first | assumption | omega) only [Nat.reduceAdd, Nat.reduceLeDiff, Nat.zero_le, true_and, and_true, ↓reduceIte, wB_const, wB_lconst, wB_ldc, wB_getstatic, wB_dupi, wB_dupr, wB_dup2, wB_popi, wB_iadd, wB_isub, wB_imul, wB_iand, wB_ior, wB_ixor, wB_ishl, wB_ishr, wB_iushr, wB_ineg, wB_ladd, wB_lsub, wB_lmul, wB_land, wB_lneg, wB_i2l, wB_l2i, wB_lcmp, wB_idiv, wB_irem, wB_ldiv, wB_lrem, wB_goto, wB_nop, wB_ifeq, wB_ifne, wB_iflt, wB_ifge, wB_ifgt, wB_ifle, wB_icmpeq, wB_icmpne, wB_icmplt, wB_icmpge, wB_icmpgt, wB_icmple, wB_table, wB_lookup, wB_ireturn, wB_zreturn, wB_lreturn, wB_areturn, wB_return, wB_getf, wB_putf, wB_iald, wB_bald, wB_lald, wB_iast, wB_bast, wB_last, wB_min, wB_max, wB_abs, wB_minl, wB_maxl, wB_absl, wB_obj, wB_copy, wB_charAt, wB_strlen, sr_k1i, sr_k1r, sr_k1U, sr_k1l, sr_ms1, sr_ms0, sr_msn, sr_cs1, sr_csm1, sr_csm2, sr_cl1, sr_cl2, sr_szi, sr_szr, sr_szl, sr_szn, sr_tls, sr_tln, wB_il0, wB_ll0, wB_al0, wB_is0, wB_as0, wB_inc0, wB_ls0, wB_il1, wB_ll1, wB_al1, wB_is1, wB_as1, wB_inc1, wB_ls1, wB_il2, wB_ll2, wB_al2, wB_is2, wB_as2, wB_inc2, wB_ls2, wB_il3, wB_ll3, wB_al3, wB_is3, wB_as3, wB_inc3, wB_ls3, wB_il4, wB_ll4, wB_al4, wB_is4, wB_as4, wB_inc4, wB_ls4, wB_il5, wB_ll5, wB_al5, wB_is5, wB_as5, wB_inc5, wB_ls5, wB_il6, wB_ll6, wB_al6, wB_is6, wB_as6, wB_inc6, wB_ls6, wB_il7, wB_ll7, wB_al7, wB_is7, wB_as7, wB_inc7, wB_ls7, cl_78, cl_35, cl_36, obj_5, obj_2, fld_5_0, fld_8_1, fld_6_11, arr_6_11, fld_5_5, arr_5_5, fld_5_2, arr_5_2, fld_5_6, arr_5_6, fld_6_12, arr_6_12, fld_6_4, fld_5_7, nI_clamp, inb_nI, nI_leI, nI_ltI, nI_eq, nI_z, nI_ge0, nI_lt0, nI_add, n00, n11, n01, n10, true_or, or_true, not_true_eq_false, not_false_eq_true, bI_0, bI_z, Nat.le_refl, Nat.lt_irrefl, Nat.reduceLT, en_15, w, wt, ws, wl, hcell, hp6, f1, f4, f5, k1, k2, k4, k5, m_cellUnder w hx rp hp, m_name, oC_sJ, oF_sJ, hF_sJ]
  refine m_workOut (d := d) (nm := nmF x p (pR x p) (pC x p) (pW x p)) ?_ (by omega) (ht.2.2.2 1 (by omega)).1 ?_ ?_ ?_ ?_
  · simp only [Lws_sJ]
    exact wl
  · have := (ht.2.2.2 1 (by omega)).2
    omega
  · exact LCk_sJ (LCk_sJ (LCk_sJ (LCk_sJ (LCk_sJ (LCk_sJ (LCk_sJ (tc.2.2.2 1 (by omega))))))))
  · exact nm_row (arr_2_6 wl).2.1
  · intro h' f
    have := kk h' ((Fr_nm (Or.inl rfl)).tr (f.mono (fun q hq => Or.inr hq)))
    simp (disch := first | assumption | omega) only [Nat.reduceAdd, Nat.reduceLeDiff, Nat.zero_le, true_and, and_true, ↓reduceIte, wB_const, wB_lconst, wB_ldc, wB_getstatic, wB_dupi, wB_dupr, wB_dup2, wB_popi, wB_iadd, wB_isub, wB_imul, wB_iand, wB_ior, wB_ixor, wB_ishl, wB_ishr, wB_iushr, wB_ineg, wB_ladd, wB_lsub, wB_lmul, wB_land, wB_lneg, wB_i2l, wB_l2i, wB_lcmp, wB_idiv, wB_irem, wB_ldiv, wB_lrem, wB_goto, wB_nop, wB_ifeq, wB_ifne, wB_iflt, wB_ifge, wB_ifgt, wB_ifle, wB_icmpeq, wB_icmpne, wB_icmplt, wB_icmpge, wB_icmpgt, wB_icmple, wB_table, wB_lookup, wB_ireturn, wB_zreturn, wB_lreturn, wB_areturn, wB_return, wB_getf, wB_putf, wB_iald, wB_bald, wB_lald, wB_iast, wB_bast, wB_last, wB_min, wB_max, wB_abs, wB_minl, wB_maxl, wB_absl, wB_obj, wB_copy, wB_charAt, wB_strlen, sr_k1i, sr_k1r, sr_k1U, sr_k1l, sr_ms1, sr_ms0, sr_msn, sr_cs1, sr_csm1, sr_csm2, sr_cl1, sr_cl2, sr_szi, sr_szr, sr_szl, sr_szn, sr_tls, sr_tln, wB_il0, wB_ll0, wB_al0, wB_is0, wB_as0, wB_inc0, wB_ls0, wB_il1, wB_ll1, wB_al1, wB_is1, wB_as1, wB_inc1, wB_ls1, wB_il2, wB_ll2, wB_al2, wB_is2, wB_as2, wB_inc2, wB_ls2, wB_il3, wB_ll3, wB_al3, wB_is3, wB_as3, wB_inc3, wB_ls3, wB_il4, wB_ll4, wB_al4, wB_is4, wB_as4, wB_inc4, wB_ls4, wB_il5, wB_ll5, wB_al5, wB_is5, wB_as5, wB_inc5, wB_ls5, wB_il6, wB_ll6, wB_al6, wB_is6, wB_as6, wB_inc6, wB_ls6, wB_il7, wB_ll7, wB_al7, wB_is7, wB_as7, wB_inc7, wB_ls7, cl_78, cl_35, cl_36, obj_5, obj_2, fld_5_0, fld_8_1, fld_6_11, arr_6_11, fld_5_5, arr_5_5, fld_5_2, arr_5_2, fld_5_6, arr_5_6, fld_6_12, arr_6_12, fld_6_4, fld_5_7, nI_clamp, inb_nI, nI_leI, nI_ltI, nI_eq, nI_z, nI_ge0, nI_lt0, nI_add, n00, n11, n01, n10, true_or, or_true, not_true_eq_false, not_false_eq_true, bI_0, bI_z, Nat.le_refl, Nat.lt_irrefl, Nat.reduceLT]
    exact this
set_option maxHeartbeats 4000000 in
set_option maxRecDepth 100000 in
theorem m_cutLaw {d B T s : Nat} {h : sr_H} {Q : sr_T} {x t : V} (w : Rm h B) (wt : Txt h T) (hx : Wr x) (rp : RC h B x) (tc : TC h T t) (ht : Wt t (xN x) (xF x)) (hs : s < xN x) (kk : ∀ h', Fr h h' (PL T) → Q (some (.long (law t (nmS x s) 2))) h') : sr_M (d + 4) 16 [.ref B, .ref T, .int (nI s)] h Q := by
  have hN := hx.1.2.2.1
  have hs5 : s < 5 := by omega
  obtain ⟨e1, e2, e3, e4, e5, e6⟩ := rp.1.2.2.2.2 s hs
  obtain ⟨h1, h2, h3, h4, h5, h6⟩ := hx.1.2.2.2.2 s hs
  have ws := sub_5_screens w
  have wl := sub_8_laws wt
  have k5 := rp.2.2.1
  simp (disch := first | assumption | omega) only [Nat.reduceAdd, Nat.reduceLeDiff, Nat.zero_le, true_and, and_true, ↓reduceIte, wB_const, wB_lconst, wB_ldc, wB_getstatic, wB_dupi, wB_dupr, wB_dup2, wB_popi, wB_iadd, wB_isub, wB_imul, wB_iand, wB_ior, wB_ixor, wB_ishl, wB_ishr, wB_iushr, wB_ineg, wB_ladd, wB_lsub, wB_lmul, wB_land, wB_lneg, wB_i2l, wB_l2i, wB_lcmp, wB_idiv, wB_irem, wB_ldiv, wB_lrem, wB_goto, wB_nop, wB_ifeq, wB_ifne, wB_iflt, wB_ifge, wB_ifgt, wB_ifle, wB_icmpeq, wB_icmpne, wB_icmplt, wB_icmpge, wB_icmpgt, wB_icmple, wB_table, wB_lookup, wB_ireturn, wB_zreturn, wB_lreturn, wB_areturn, wB_return, wB_getf, wB_putf, wB_iald, wB_bald, wB_lald, wB_iast, wB_bast, wB_last, wB_min, wB_max, wB_abs, wB_minl, wB_maxl, wB_absl, wB_obj, wB_copy, wB_charAt, wB_strlen, sr_k1i, sr_k1r, sr_k1U, sr_k1l, sr_ms1, sr_ms0, sr_msn, sr_cs1, sr_csm1, sr_csm2, sr_cl1, sr_cl2, sr_szi, sr_szr, sr_szl, sr_szn, sr_tls, sr_tln, wB_il0, wB_ll0, wB_al0, wB_is0, wB_as0, wB_inc0, wB_ls0, wB_il1, wB_ll1, wB_al1, wB_is1, wB_as1, wB_inc1, wB_ls1, wB_il2, wB_ll2, wB_al2, wB_is2, wB_as2, wB_inc2, wB_ls2, wB_il3, wB_ll3, wB_al3, wB_is3, wB_as3, wB_inc3, wB_ls3, wB_il4, wB_ll4, wB_al4, wB_is4, wB_as4, wB_inc4, wB_ls4, wB_il5, wB_ll5, wB_al5, wB_is5, wB_as5, wB_inc5, wB_ls5, wB_il6, wB_ll6, wB_al6, wB_is6, wB_as6, wB_inc6, wB_ls6, wB_il7, wB_ll7, wB_al7, wB_is7, wB_as7, wB_inc7, wB_ls7, cl_297, cl_35, cl_36, obj_2, fld_5_0, fld_6_10, arr_6_10, fld_8_1, fld_6_5, arr_6_5, fld_6_8, arr_6_8, fld_5_7, nI_clamp, inb_nI, nI_leI, nI_ltI, nI_eq, nI_z, nI_ge0, nI_lt0, nI_add, n00, n11, n01, n10, true_or, or_true, not_true_eq_false, not_false_eq_true, bI_0, bI_z, Nat.le_refl, Nat.lt_irrefl, Nat.reduceLT, en_16, w, wt, ws, wl, hs5, e1, e4, e6, k5, m_bitCount (show sW x s < 256 by omega), m_name, oC_sJ, oF_sJ, hF_sJ]
  refine m_workOut (d := d) (nm := nmS x s) ?_ (by omega) (ht.2.2.2 2 (by omega)).1 ?_ ?_ ?_ ?_
  · simp only [Lws_sJ]
    exact wl
  · have := (ht.2.2.2 2 (by omega)).2
    omega
  · exact LCk_sJ (LCk_sJ (LCk_sJ (LCk_sJ (LCk_sJ (LCk_sJ (LCk_sJ (tc.2.2.2 2 (by omega))))))))
  · exact nm_row (arr_2_6 wl).2.1
  · intro h' f
    have := kk h' ((Fr_nm (Or.inl rfl)).tr (f.mono (fun q hq => Or.inr hq)))
    simp (disch := first | assumption | omega) only [Nat.reduceAdd, Nat.reduceLeDiff, Nat.zero_le, true_and, and_true, ↓reduceIte, wB_const, wB_lconst, wB_ldc, wB_getstatic, wB_dupi, wB_dupr, wB_dup2, wB_popi, wB_iadd, wB_isub, wB_imul, wB_iand, wB_ior, wB_ixor, wB_ishl, wB_ishr, wB_iushr, wB_ineg, wB_ladd, wB_lsub, wB_lmul, wB_land, wB_lneg, wB_i2l, wB_l2i, wB_lcmp, wB_idiv, wB_irem, wB_ldiv, wB_lrem, wB_goto, wB_nop, wB_ifeq, wB_ifne, wB_iflt, wB_ifge, wB_ifgt, wB_ifle, wB_icmpeq, wB_icmpne, wB_icmplt, wB_icmpge, wB_icmpgt, wB_icmple, wB_table, wB_lookup, wB_ireturn, wB_zreturn, wB_lreturn, wB_areturn, wB_return, wB_getf, wB_putf, wB_iald, wB_bald, wB_lald, wB_iast, wB_bast, wB_last, wB_min, wB_max, wB_abs, wB_minl, wB_maxl, wB_absl, wB_obj, wB_copy, wB_charAt, wB_strlen, sr_k1i, sr_k1r, sr_k1U, sr_k1l, sr_ms1, sr_ms0, sr_msn, sr_cs1, sr_csm1, sr_csm2, sr_cl1, sr_cl2, sr_szi, sr_szr, sr_szl, sr_szn, sr_tls, sr_tln, wB_il0, wB_ll0, wB_al0, wB_is0, wB_as0, wB_inc0, wB_ls0, wB_il1, wB_ll1, wB_al1, wB_is1, wB_as1, wB_inc1, wB_ls1, wB_il2, wB_ll2, wB_al2, wB_is2, wB_as2, wB_inc2, wB_ls2, wB_il3, wB_ll3, wB_al3, wB_is3, wB_as3, wB_inc3, wB_ls3, wB_il4, wB_ll4, wB_al4, wB_is4, wB_as4, wB_inc4, wB_ls4, wB_il5, wB_ll5, wB_al5, wB_is5, wB_as5, wB_inc5, wB_ls5, wB_il6, wB_ll6, wB_al6, wB_is6, wB_as6, wB_inc6, wB_ls6, wB_il7, wB_ll7, wB_al7, wB_is7, wB_as7, wB_inc7, wB_ls7, cl_297, cl_35, cl_36, obj_2, fld_5_0, fld_6_10, arr_6_10, fld_8_1, fld_6_5, arr_6_5, fld_6_8, arr_6_8, fld_5_7, nI_clamp, inb_nI, nI_leI, nI_ltI, nI_eq, nI_z, nI_ge0, nI_lt0, nI_add, n00, n11, n01, n10, true_or, or_true, not_true_eq_false, not_false_eq_true, bI_0, bI_z, Nat.le_refl, Nat.lt_irrefl, Nat.reduceLT]
    exact this
/-- within 0 and the most -/
def wthn (v : Int64) (m : Nat) : Nat := if v < 0 then 0 else if lN m < v then m else v.toInt.toNat
theorem wthn_le {v : Int64} {m : Nat} (hm : m < 2 ^ 31) : wthn v m ≤ m := by
  unfold wthn
  split
  · omega
  · split
    · omega
    · rename_i h1 h2
      have := Int64.le_iff_toInt_le.mp (Int64.not_lt.mp h2)
      rw [pk_lT (by omega)] at this
      omega
set_option maxHeartbeats 4000000 in
set_option maxRecDepth 100000 in
theorem m_within {d m : Nat} {v : Int64} {h : sr_H} {Q : sr_T} (hm : m < 2 ^ 31) : sr_M (d + 1) 13 [.long v, .long (lN m)] h Q ↔ Q (some (.long (lN (wthn v m)))) h := by
  unfold wthn
  by_cases h1 : v < 0
  · have h1' : ¬ 0 ≤ v := Int64.not_le.mpr h1
    simp (disch := first | assumption | omega) only [Nat.reduceAdd, Nat.reduceLeDiff, Nat.zero_le, true_and, and_true, ↓reduceIte, wB_const, wB_lconst, wB_ldc, wB_getstatic, wB_dupi, wB_dupr, wB_dup2, wB_popi, wB_iadd, wB_isub, wB_imul, wB_iand, wB_ior, wB_ixor, wB_ishl, wB_ishr, wB_iushr, wB_ineg, wB_ladd, wB_lsub, wB_lmul, wB_land, wB_lneg, wB_i2l, wB_l2i, wB_lcmp, wB_idiv, wB_irem, wB_ldiv, wB_lrem, wB_goto, wB_nop, wB_ifeq, wB_ifne, wB_iflt, wB_ifge, wB_ifgt, wB_ifle, wB_icmpeq, wB_icmpne, wB_icmplt, wB_icmpge, wB_icmpgt, wB_icmple, wB_table, wB_lookup, wB_ireturn, wB_zreturn, wB_lreturn, wB_areturn, wB_return, wB_getf, wB_putf, wB_iald, wB_bald, wB_lald, wB_iast, wB_bast, wB_last, wB_min, wB_max, wB_abs, wB_minl, wB_maxl, wB_absl, wB_obj, wB_copy, wB_charAt, wB_strlen, sr_k1i, sr_k1r, sr_k1U, sr_k1l, sr_ms1, sr_ms0, sr_msn, sr_cs1, sr_csm1, sr_csm2, sr_cl1, sr_cl2, sr_szi, sr_szr, sr_szl, sr_szn, sr_tls, sr_tln, wB_il0, wB_ll0, wB_al0, wB_is0, wB_as0, wB_inc0, wB_ls0, wB_il1, wB_ll1, wB_al1, wB_is1, wB_as1, wB_inc1, wB_ls1, wB_il2, wB_ll2, wB_al2, wB_is2, wB_as2, wB_inc2, wB_ls2, wB_il3, wB_ll3, wB_al3, wB_is3, wB_as3, wB_inc3, wB_ls3, wB_il4, wB_ll4, wB_al4, wB_is4, wB_as4, wB_inc4, wB_ls4, wB_il5, wB_ll5, wB_al5, wB_is5, wB_as5, wB_inc5, wB_ls5, wB_il6, wB_ll6, wB_al6, wB_is6, wB_as6, wB_inc6, wB_ls6, wB_il7, wB_ll7, wB_al7, wB_is7, wB_as7, wB_inc7, wB_ls7, lb_13001, lb_13002, lb_13003, nI_clamp, inb_nI, nI_leI, nI_ltI, nI_eq, nI_z, nI_ge0, nI_lt0, nI_add, n00, n11, n01, n10, true_or, or_true, not_true_eq_false, not_false_eq_true, bI_0, bI_z, Nat.le_refl, Nat.lt_irrefl, Nat.reduceLT, en_13, lN_0, lg_cmp_ge, h1', h1]
  · have h1' : 0 ≤ v := Int64.not_lt.mp h1
    by_cases h2 : lN m < v
    · have h2' : ¬ v ≤ lN m := Int64.not_le.mpr h2
      simp (disch := first | assumption | omega) only [Nat.reduceAdd, Nat.reduceLeDiff, Nat.zero_le, true_and, and_true, ↓reduceIte, wB_const, wB_lconst, wB_ldc, wB_getstatic, wB_dupi, wB_dupr, wB_dup2, wB_popi, wB_iadd, wB_isub, wB_imul, wB_iand, wB_ior, wB_ixor, wB_ishl, wB_ishr, wB_iushr, wB_ineg, wB_ladd, wB_lsub, wB_lmul, wB_land, wB_lneg, wB_i2l, wB_l2i, wB_lcmp, wB_idiv, wB_irem, wB_ldiv, wB_lrem, wB_goto, wB_nop, wB_ifeq, wB_ifne, wB_iflt, wB_ifge, wB_ifgt, wB_ifle, wB_icmpeq, wB_icmpne, wB_icmplt, wB_icmpge, wB_icmpgt, wB_icmple, wB_table, wB_lookup, wB_ireturn, wB_zreturn, wB_lreturn, wB_areturn, wB_return, wB_getf, wB_putf, wB_iald, wB_bald, wB_lald, wB_iast, wB_bast, wB_last, wB_min, wB_max, wB_abs, wB_minl, wB_maxl, wB_absl, wB_obj, wB_copy, wB_charAt, wB_strlen, sr_k1i, sr_k1r, sr_k1U, sr_k1l, sr_ms1, sr_ms0, sr_msn, sr_cs1, sr_csm1, sr_csm2, sr_cl1, sr_cl2, sr_szi, sr_szr, sr_szl, sr_szn, sr_tls, sr_tln, wB_il0, wB_ll0, wB_al0, wB_is0, wB_as0, wB_inc0, wB_ls0, wB_il1, wB_ll1, wB_al1, wB_is1, wB_as1, wB_inc1, wB_ls1, wB_il2, wB_ll2, wB_al2, wB_is2, wB_as2, wB_inc2, wB_ls2, wB_il3, wB_ll3, wB_al3, wB_is3, wB_as3, wB_inc3, wB_ls3, wB_il4, wB_ll4, wB_al4, wB_is4, wB_as4, wB_inc4, wB_ls4, wB_il5, wB_ll5, wB_al5, wB_is5, wB_as5, wB_inc5, wB_ls5, wB_il6, wB_ll6, wB_al6, wB_is6, wB_as6, wB_inc6, wB_ls6, wB_il7, wB_ll7, wB_al7, wB_is7, wB_as7, wB_inc7, wB_ls7, lb_13001, lb_13002, lb_13003, nI_clamp, inb_nI, nI_leI, nI_ltI, nI_eq, nI_z, nI_ge0, nI_lt0, nI_add, n00, n11, n01, n10, true_or, or_true, not_true_eq_false, not_false_eq_true, bI_0, bI_z, Nat.le_refl, Nat.lt_irrefl, Nat.reduceLT, en_13, lN_0, lg_cmp_ge, lg_cmp_le, h1', h1, h2', h2]
    · have h2' : v ≤ lN m := Int64.not_lt.mp h2
      obtain ⟨k, hk, rfl⟩ := pk_lOf h1
      simp (disch := first | assumption | omega) only [Nat.reduceAdd, Nat.reduceLeDiff, Nat.zero_le, true_and, and_true, ↓reduceIte, wB_const, wB_lconst, wB_ldc, wB_getstatic, wB_dupi, wB_dupr, wB_dup2, wB_popi, wB_iadd, wB_isub, wB_imul, wB_iand, wB_ior, wB_ixor, wB_ishl, wB_ishr, wB_iushr, wB_ineg, wB_ladd, wB_lsub, wB_lmul, wB_land, wB_lneg, wB_i2l, wB_l2i, wB_lcmp, wB_idiv, wB_irem, wB_ldiv, wB_lrem, wB_goto, wB_nop, wB_ifeq, wB_ifne, wB_iflt, wB_ifge, wB_ifgt, wB_ifle, wB_icmpeq, wB_icmpne, wB_icmplt, wB_icmpge, wB_icmpgt, wB_icmple, wB_table, wB_lookup, wB_ireturn, wB_zreturn, wB_lreturn, wB_areturn, wB_return, wB_getf, wB_putf, wB_iald, wB_bald, wB_lald, wB_iast, wB_bast, wB_last, wB_min, wB_max, wB_abs, wB_minl, wB_maxl, wB_absl, wB_obj, wB_copy, wB_charAt, wB_strlen, sr_k1i, sr_k1r, sr_k1U, sr_k1l, sr_ms1, sr_ms0, sr_msn, sr_cs1, sr_csm1, sr_csm2, sr_cl1, sr_cl2, sr_szi, sr_szr, sr_szl, sr_szn, sr_tls, sr_tln, wB_il0, wB_ll0, wB_al0, wB_is0, wB_as0, wB_inc0, wB_ls0, wB_il1, wB_ll1, wB_al1, wB_is1, wB_as1, wB_inc1, wB_ls1, wB_il2, wB_ll2, wB_al2, wB_is2, wB_as2, wB_inc2, wB_ls2, wB_il3, wB_ll3, wB_al3, wB_is3, wB_as3, wB_inc3, wB_ls3, wB_il4, wB_ll4, wB_al4, wB_is4, wB_as4, wB_inc4, wB_ls4, wB_il5, wB_ll5, wB_al5, wB_is5, wB_as5, wB_inc5, wB_ls5, wB_il6, wB_ll6, wB_al6, wB_is6, wB_as6, wB_inc6, wB_ls6, wB_il7, wB_ll7, wB_al7, wB_is7, wB_as7, wB_inc7, wB_ls7, lb_13001, lb_13002, lb_13003, nI_clamp, inb_nI, nI_leI, nI_ltI, nI_eq, nI_z, nI_ge0, nI_lt0, nI_add, n00, n11, n01, n10, true_or, or_true, not_true_eq_false, not_false_eq_true, bI_0, bI_z, Nat.le_refl, Nat.lt_irrefl, Nat.reduceLT, en_13, lN_0, lg_cmp_ge, lg_cmp_le, h1', h1, h2', h2, pk_lT, Int.toNat_natCast]
