/-! Hours: one of folk enters a cell; folk are paid. -/
/-- what is changed by hours of room B by text T -/
def PH (B T : Nat) : Nat → Prop := fun a => (B ≤ a ∧ a ≤ B + 15) ∨ a = T + 22 ∨ a = T + 23
theorem PL_PH {B T a : Nat} (h : PL T a) : PH B T a := Or.inr h
/-- all that stands between two steps of an hour -/
def HS (h0 h : sr_H) (B T : Nat) (x t : V) : Prop := Fr h0 h (PH B T) ∧ RC h B x ∧ KC h (B + 1) x ∧ Wr x
theorem turn_ok : ∀ a, a < 5 → ∀ b, b < 5 → ((nI a - nI b) &&& nI 3).toInt64 = lN ((a + 8 - b) % 4) := by decide +kernel
/-- a law's answer within bounds, or what holds without it -/
def wth (t : V) (nm : Nat → Int64) (k most plain : Nat) : Nat := if law t nm k = LM then plain else wthn (law t nm k) most
noncomputable def agd (x t : V) (p r c : Nat) : Nat := if sea x (xP x) r c = sea x (xP x) (pR x p) (pC x p) then pA x p else min 999 (pA x p + wth t (nmF x p r c (sea x (xP x) (pR x p) (pC x p))) 0 9 ((sea x (xP x) r c + 8 - sea x (xP x) (pR x p) (pC x p)) % 4))
noncomputable def ent (x t : V) (p r c : Nat) : V := vs (vs (vs x 7 p (agd x t p r c)) 8 p r) 9 p c
theorem min_l {a b : Nat} (ha : a < 2 ^ 62) (hb : b < 2 ^ 62) : (if lN b < lN a then lN b else lN a) = lN (min a b) := by
  by_cases h : b < a
  · rw [if_pos ((pk_lLT (by omega) (by omega)).mpr h)]
    congr 1
    omega
  · rw [if_neg (fun z => h ((pk_lLT (by omega) (by omega)).mp z))]
    congr 1
    omega
theorem Wr_at {x : V} {j p v : Nat} (hx : Wr x) (h1 : 7 ≤ j) (hv : (j = 7 → v ≤ 999) ∧ (j = 8 → v < xR x) ∧ (j = 9 → v < xC x) ∧ (j = 10 → v < 4) ∧ (j = 11 → v ≤ 9999)) : Wr (vs x j p v) := by
  obtain ⟨a1, a2, a3, a4, a5⟩ := hx
  have z : ∀ b, vs x j p v 0 b = x 0 b := fun b => vs_n (by omega)
  refine ⟨Wx_e (seq_vs (Or.inl h1)).sy a1, ?_, ?_, ?_, fun q hq => ?_⟩
  · rw [xF, z]; exact a2
  · rw [xH, z]; exact a3
  · rw [xD, z]; exact a4
  · rw [xF, z] at hq
    obtain ⟨b1, b2, b3, b4, b5⟩ := a5 q hq
    simp only [pA, pR, pC, pW, pD, xR, xC, z]
    unfold vs
    refine ⟨?_, ?_, ?_, ?_, ?_⟩
    · by_cases c : 7 = j ∧ q = p
      · rw [if_pos c]; exact hv.1 c.1.symm
      · rw [if_neg c]; exact b1
    · by_cases c : 8 = j ∧ q = p
      · rw [if_pos c]; exact hv.2.1 c.1.symm
      · rw [if_neg c]; exact b2
    · by_cases c : 9 = j ∧ q = p
      · rw [if_pos c]; exact hv.2.2.1 c.1.symm
      · rw [if_neg c]; exact b3
    · by_cases c : 10 = j ∧ q = p
      · rw [if_pos c]; exact hv.2.2.2.1 c.1.symm
      · rw [if_neg c]; exact b4
    · by_cases c : 11 = j ∧ q = p
      · rw [if_pos c]; exact hv.2.2.2.2 c.1.symm
      · rw [if_neg c]; exact b5
theorem ent_seq {x t : V} {p r c : Nat} : seq (ent x t p r c) x := ((seq_vs (Or.inl (by omega))).tr (seq_vs (Or.inl (by omega)))).tr (seq_vs (Or.inl (by omega)))
theorem agd_le {x t : V} {p r c : Nat} (h : pA x p ≤ 999) : agd x t p r c ≤ 999 := by
  unfold agd
  split <;> omega
theorem ent_Wr {x t : V} {p r c : Nat} (hx : Wr x) (hp : p < xF x) (hr : r < xR x) (hc : c < xC x) : Wr (ent x t p r c) := by
  have h1 := agd_le (t := t) (r := r) (c := c) (hx.2.2.2.2 p hp).1
  refine Wr_at (Wr_at (Wr_at hx (by omega) ⟨fun _ => h1, ?_, ?_, ?_, ?_⟩) (by omega) ⟨?_, fun _ => hr, ?_, ?_, ?_⟩) (by omega) ⟨?_, ?_, fun _ => hc, ?_, ?_⟩
  all_goals intro; omega
set_option maxHeartbeats 4000000 in
set_option maxRecDepth 100000 in
theorem m_enter {d B T p r c : Nat} {h : sr_H} {Q : sr_T} {x t : V} (w : Rm h B) (wt : Txt h T) (hBT : T + 32 < B) (hx : Wr x) (rp : RC h B x) (kc : KC h (B + 1) x) (tc : TC h T t) (ht : Wt t (xN x) (xF x)) (hp : p < xF x) (hr : r < xR x) (hc : c < xC x) (kk : ∀ h', HS h h' B T (ent x t p r c) t → Q none h') : sr_M (d + 9) 9 [.ref B, .ref T, .int (nI p), .int (nI (8 * r + c))] h Q := by
  have hN := hx.2.1
  have hR := hx.1.1
  have hC := hx.1.2.1
  have hp6 : p < 6 := by omega
  obtain ⟨g1, g2, g3, g4, g5⟩ := hx.2.2.2.2 p hp
  have ws := sub_5_screens w
  have hcell : 8 * r + c < 64 := by omega
  have k1 := (kc.2 r c hr hc).1
  have s1 := sea_le (b := xP x) (r := r) (c := c) hx.1
  have s2 := sea_le (b := xP x) (r := pR x p) (c := pC x p) hx.1
  have hdr : (8 * r + c) / 8 = r := by omega
  have hdc : (8 * r + c) % 8 = c := by omega
  have fin : ∀ h1, Fr h h1 (PH B T) → RC h1 B (vs x 7 p (agd x t p r c)) → KC h1 (B + 1) x → Q none (sI (sI h1 (B + 12) p (nI r)) (B + 13) p (nI c)) := by
    intro h1 f1 r1 q1
    refine kk _ ⟨Fr_sI (Fr_sI f1 (Or.inl (by omega))) (Or.inl (by omega)), ?_, ?_, ent_Wr hx hp hr hc⟩
    · exact RC_sI (j := 9) (Rm_sI.mpr (w.ss f1.1)) (RC_sI (j := 8) (w.ss f1.1) r1 (by omega) (by omega)) (by omega) (by omega)
    · refine KC_e ent_seq.sy (KC_of q1 ?_ (fun j a b => ?_))
      · simp only [fI_sI]
      · rw [sI_ne (by omega), sI_ne (by omega)]
  by_cases e : sea x (xP x) r c = sea x (xP x) (pR x p) (pC x p)
  · simp (disch := first | assumption | omega | (simp (disch := assumption) only [sr_szn, sr_szi, sr_szr, sr_szl, Nat.reduceAdd, Nat.reduceLeDiff, Nat.zero_le, Nat.le_refl, isA_sI, isA_sJ, isA_sC, isA_sF, isI_sI, isI_sJ, isI_sC, isI_sF, isJ_sI, isJ_sJ, isJ_sC, isJ_sF, oK_sI, oK_sJ, oK_sC, oK_sF, lI_sI, lI_sJ, lI_sC, lI_sF, oC_sI, oC_sJ, oC_sC, oC_sF, obj_5, fld_5_0, fld_6_11, arr_6_11, fld_5_2, arr_5_2, fld_5_3, arr_5_3, fld_5_4, arr_5_4])) only [Nat.reduceAdd, Nat.reduceLeDiff, Nat.zero_le, true_and, and_true, ↓reduceIte, wB_const, wB_lconst, wB_ldc, wB_getstatic, wB_dupi, wB_dupr, wB_dup2, wB_popi, wB_iadd, wB_isub, wB_imul, wB_iand, wB_ior, wB_ixor, wB_ishl, wB_ishr, wB_iushr, wB_ineg, wB_ladd, wB_lsub, wB_lmul, wB_land, wB_lneg, wB_i2l, wB_l2i, wB_lcmp, wB_idiv, wB_irem, wB_ldiv, wB_lrem, wB_goto, wB_nop, wB_ifeq, wB_ifne, wB_iflt, wB_ifge, wB_ifgt, wB_ifle, wB_icmpeq, wB_icmpne, wB_icmplt, wB_icmpge, wB_icmpgt, wB_icmple, wB_table, wB_lookup, wB_ireturn, wB_zreturn, wB_lreturn, wB_areturn, wB_return, wB_getf, wB_putf, wB_iald, wB_bald, wB_lald, wB_iast, wB_bast, wB_last, wB_min, wB_max, wB_abs, wB_minl, wB_maxl, wB_absl, wB_obj, wB_copy, wB_charAt, wB_strlen, sr_k1i, sr_k1r, sr_k1U, sr_k1l, sr_ms1, sr_ms0, sr_msn, sr_cs1, sr_csm1, sr_csm2, sr_cl1, sr_cl2, sr_szi, sr_szr, sr_szl, sr_szn, sr_tls, sr_tln, wB_il0, wB_ll0, wB_al0, wB_is0, wB_as0, wB_inc0, wB_ls0, wB_il1, wB_ll1, wB_al1, wB_is1, wB_as1, wB_inc1, wB_ls1, wB_il2, wB_ll2, wB_al2, wB_is2, wB_as2, wB_inc2, wB_ls2, wB_il3, wB_ll3, wB_al3, wB_is3, wB_as3, wB_inc3, wB_ls3, wB_il4, wB_ll4, wB_al4, wB_is4, wB_as4, wB_inc4, wB_ls4, wB_il5, wB_ll5, wB_al5, wB_is5, wB_as5, wB_inc5, wB_ls5, wB_il6, wB_ll6, wB_al6, wB_is6, wB_as6, wB_inc6, wB_ls6, wB_il7, wB_ll7, wB_al7, wB_is7, wB_as7, wB_inc7, wB_ls7, wB_il8, wB_ll8, wB_al8, wB_is8, wB_as8, wB_inc8, wB_ls8, wB_il9, wB_ll9, wB_al9, wB_is9, wB_as9, wB_inc9, wB_ls9, wB_il10, wB_ll10, wB_al10, wB_is10, wB_as10, wB_inc10, wB_ls10, wB_il11, wB_ll11, wB_al11, wB_is11, wB_as11, wB_inc11, wB_ls11, wB_il12, wB_ll12, wB_al12, wB_is12, wB_as12, wB_inc12, wB_ls12, wB_il13, wB_ll13, wB_al13, wB_is13, wB_as13, wB_inc13, wB_ls13, wB_il14, wB_ll14, wB_al14, wB_is14, wB_as14, wB_inc14, wB_ls14, wB_il15, wB_ll15, wB_al15, wB_is15, wB_as15, wB_inc15, lb_9001, lb_9002, lb_9003, cl_79, cl_14, cl_13, cl_86, cl_87, obj_5, fld_5_0, fld_6_11, arr_6_11, fld_5_2, arr_5_2, fld_5_3, arr_5_3, fld_5_4, arr_5_4, nI_clamp, inb_nI, nI_leI, nI_ltI, nI_eq, nI_z, nI_ge0, nI_lt0, nI_add, n00, n11, n01, n10, true_or, or_true, not_true_eq_false, not_false_eq_true, bI_0, bI_z, Nat.le_refl, Nat.lt_irrefl, Nat.reduceLT, en_9, w, ws, m_seasonOver w hx rp kc hp, hcell, k1, e, hp6, m_rowOf, m_columnOf, hdr, hdc, lI_sI, lI_sJ, lI_sC, lI_sF, lZ_sI, lZ_sJ, lZ_sC, lZ_sF, lJ_sI, lJ_sJ, lJ_sC, lJ_sF, oC_sI, oC_sJ, oC_sC, oC_sF, oF_sI, oF_sJ, oF_sC, oF_sF, sI_1, sJ_1, sF_1, sC_1, sr_okI, sr_okJ, sr_okR, sr_okZ, hI_sJ, hI_sF, hJ_sI, hJ_sF, hJ_sC, hF_sI, hF_sJ, hF_sC, fI_sI, fI_sJ, fI_sC, fJ_sI, fJ_sJ, fJ_sC, hI_n, hI_y, hJ_n, hJ_y, hF_n, hF_y, fI_n, fI_y, fJ_n, fJ_y, hI_c]
    refine fin h Fr.rf ?_ kc
    have : vs x 7 p (agd x t p r c) = x := by
      funext a b
      unfold vs
      by_cases c : a = 7 ∧ b = p
      · rw [if_pos c, c.1, c.2, agd, if_pos e]
      · rw [if_neg c]
    rw [this]
    exact rp
  · simp (disch := first | assumption | omega) only [Nat.reduceAdd, Nat.reduceLeDiff, Nat.zero_le, true_and, and_true, ↓reduceIte, wB_const, wB_lconst, wB_ldc, wB_getstatic, wB_dupi, wB_dupr, wB_dup2, wB_popi, wB_iadd, wB_isub, wB_imul, wB_iand, wB_ior, wB_ixor, wB_ishl, wB_ishr, wB_iushr, wB_ineg, wB_ladd, wB_lsub, wB_lmul, wB_land, wB_lneg, wB_i2l, wB_l2i, wB_lcmp, wB_idiv, wB_irem, wB_ldiv, wB_lrem, wB_goto, wB_nop, wB_ifeq, wB_ifne, wB_iflt, wB_ifge, wB_ifgt, wB_ifle, wB_icmpeq, wB_icmpne, wB_icmplt, wB_icmpge, wB_icmpgt, wB_icmple, wB_table, wB_lookup, wB_ireturn, wB_zreturn, wB_lreturn, wB_areturn, wB_return, wB_getf, wB_putf, wB_iald, wB_bald, wB_lald, wB_iast, wB_bast, wB_last, wB_min, wB_max, wB_abs, wB_minl, wB_maxl, wB_absl, wB_obj, wB_copy, wB_charAt, wB_strlen, sr_k1i, sr_k1r, sr_k1U, sr_k1l, sr_ms1, sr_ms0, sr_msn, sr_cs1, sr_csm1, sr_csm2, sr_cl1, sr_cl2, sr_szi, sr_szr, sr_szl, sr_szn, sr_tls, sr_tln, wB_il0, wB_ll0, wB_al0, wB_is0, wB_as0, wB_inc0, wB_ls0, wB_il1, wB_ll1, wB_al1, wB_is1, wB_as1, wB_inc1, wB_ls1, wB_il2, wB_ll2, wB_al2, wB_is2, wB_as2, wB_inc2, wB_ls2, wB_il3, wB_ll3, wB_al3, wB_is3, wB_as3, wB_inc3, wB_ls3, wB_il4, wB_ll4, wB_al4, wB_is4, wB_as4, wB_inc4, wB_ls4, wB_il5, wB_ll5, wB_al5, wB_is5, wB_as5, wB_inc5, wB_ls5, wB_il6, wB_ll6, wB_al6, wB_is6, wB_as6, wB_inc6, wB_ls6, wB_il7, wB_ll7, wB_al7, wB_is7, wB_as7, wB_inc7, wB_ls7, wB_il8, wB_ll8, wB_al8, wB_is8, wB_as8, wB_inc8, wB_ls8, wB_il9, wB_ll9, wB_al9, wB_is9, wB_as9, wB_inc9, wB_ls9, wB_il10, wB_ll10, wB_al10, wB_is10, wB_as10, wB_inc10, wB_ls10, wB_il11, wB_ll11, wB_al11, wB_is11, wB_as11, wB_inc11, wB_ls11, wB_il12, wB_ll12, wB_al12, wB_is12, wB_as12, wB_inc12, wB_ls12, wB_il13, wB_ll13, wB_al13, wB_is13, wB_as13, wB_inc13, wB_ls13, wB_il14, wB_ll14, wB_al14, wB_is14, wB_as14, wB_inc14, wB_ls14, wB_il15, wB_ll15, wB_al15, wB_is15, wB_as15, wB_inc15, lb_9001, lb_9002, lb_9003, cl_79, cl_14, cl_13, cl_86, cl_87, obj_5, fld_5_0, fld_6_11, arr_6_11, fld_5_2, arr_5_2, fld_5_3, arr_5_3, fld_5_4, arr_5_4, nI_clamp, inb_nI, nI_leI, nI_ltI, nI_eq, nI_z, nI_ge0, nI_lt0, nI_add, n00, n11, n01, n10, true_or, or_true, not_true_eq_false, not_false_eq_true, bI_0, bI_z, Nat.le_refl, Nat.lt_irrefl, Nat.reduceLT, en_9, w, ws, m_seasonOver w hx rp kc hp, hcell, k1, e]
    refine m_ageingLaw (d := d + 4) w wt hx rp kc tc ht hp hr hc (fun h1 f1 => ?_)
    have w1 := w.ss f1.1
    have r1 := RC_of (h' := h1) rp (fun a h1 h2 => f1.2 a (by unfold PL; omega))
    have q1 := KC_of (h' := h1) kc (fI_of (f1.2 _ (by unfold PL; omega))) (fun j _ _ => f1.2 _ (by unfold PL; omega))
    obtain ⟨f1', f2', f3', f4', f5'⟩ := r1.2.2.2.2.2 p hp
    have ag : ∀ n, n < 1000 → agd x t p r c = min 999 (pA x p + n) → Q none (sI (sI (sI h1 (B + 11) p (nI (min 999 (pA x p + n)))) (B + 12) p (nI r)) (B + 13) p (nI c)) := by
      intro n hn he
      rw [← he]
      refine fin _ (Fr_sI (f1.mono (fun q hq => PL_PH hq)) (Or.inl (by omega))) (RC_sI (j := 7) w1 r1 (by omega) (by omega)) (KC_of q1 ?_ (fun j a b => ?_))
      · simp only [fI_sI]
      · rw [sI_ne (by omega)]
    by_cases hl : law t (nmF x p r c (sea x (xP x) (pR x p) (pC x p))) 0 = LM
    · simp (disch := first | assumption | omega | (simp (disch := assumption) only [sr_szn, sr_szi, sr_szr, sr_szl, Nat.reduceAdd, Nat.reduceLeDiff, Nat.zero_le, Nat.le_refl, isA_sI, isA_sJ, isA_sC, isA_sF, isI_sI, isI_sJ, isI_sC, isI_sF, isJ_sI, isJ_sJ, isJ_sC, isJ_sF, oK_sI, oK_sJ, oK_sC, oK_sF, lI_sI, lI_sJ, lI_sC, lI_sF, oC_sI, oC_sJ, oC_sC, oC_sF, obj_5, fld_5_0, fld_6_11, arr_6_11, fld_5_2, arr_5_2, fld_5_3, arr_5_3, fld_5_4, arr_5_4])) only [Nat.reduceAdd, Nat.reduceLeDiff, Nat.zero_le, true_and, and_true, ↓reduceIte, wB_const, wB_lconst, wB_ldc, wB_getstatic, wB_dupi, wB_dupr, wB_dup2, wB_popi, wB_iadd, wB_isub, wB_imul, wB_iand, wB_ior, wB_ixor, wB_ishl, wB_ishr, wB_iushr, wB_ineg, wB_ladd, wB_lsub, wB_lmul, wB_land, wB_lneg, wB_i2l, wB_l2i, wB_lcmp, wB_idiv, wB_irem, wB_ldiv, wB_lrem, wB_goto, wB_nop, wB_ifeq, wB_ifne, wB_iflt, wB_ifge, wB_ifgt, wB_ifle, wB_icmpeq, wB_icmpne, wB_icmplt, wB_icmpge, wB_icmpgt, wB_icmple, wB_table, wB_lookup, wB_ireturn, wB_zreturn, wB_lreturn, wB_areturn, wB_return, wB_getf, wB_putf, wB_iald, wB_bald, wB_lald, wB_iast, wB_bast, wB_last, wB_min, wB_max, wB_abs, wB_minl, wB_maxl, wB_absl, wB_obj, wB_copy, wB_charAt, wB_strlen, sr_k1i, sr_k1r, sr_k1U, sr_k1l, sr_ms1, sr_ms0, sr_msn, sr_cs1, sr_csm1, sr_csm2, sr_cl1, sr_cl2, sr_szi, sr_szr, sr_szl, sr_szn, sr_tls, sr_tln, wB_il0, wB_ll0, wB_al0, wB_is0, wB_as0, wB_inc0, wB_ls0, wB_il1, wB_ll1, wB_al1, wB_is1, wB_as1, wB_inc1, wB_ls1, wB_il2, wB_ll2, wB_al2, wB_is2, wB_as2, wB_inc2, wB_ls2, wB_il3, wB_ll3, wB_al3, wB_is3, wB_as3, wB_inc3, wB_ls3, wB_il4, wB_ll4, wB_al4, wB_is4, wB_as4, wB_inc4, wB_ls4, wB_il5, wB_ll5, wB_al5, wB_is5, wB_as5, wB_inc5, wB_ls5, wB_il6, wB_ll6, wB_al6, wB_is6, wB_as6, wB_inc6, wB_ls6, wB_il7, wB_ll7, wB_al7, wB_is7, wB_as7, wB_inc7, wB_ls7, wB_il8, wB_ll8, wB_al8, wB_is8, wB_as8, wB_inc8, wB_ls8, wB_il9, wB_ll9, wB_al9, wB_is9, wB_as9, wB_inc9, wB_ls9, wB_il10, wB_ll10, wB_al10, wB_is10, wB_as10, wB_inc10, wB_ls10, wB_il11, wB_ll11, wB_al11, wB_is11, wB_as11, wB_inc11, wB_ls11, wB_il12, wB_ll12, wB_al12, wB_is12, wB_as12, wB_inc12, wB_ls12, wB_il13, wB_ll13, wB_al13, wB_is13, wB_as13, wB_inc13, wB_ls13, wB_il14, wB_ll14, wB_al14, wB_is14, wB_as14, wB_inc14, wB_ls14, wB_il15, wB_ll15, wB_al15, wB_is15, wB_as15, wB_inc15, lb_9001, lb_9002, lb_9003, cl_79, cl_14, cl_13, cl_86, cl_87, obj_5, fld_5_0, fld_6_11, arr_6_11, fld_5_2, arr_5_2, fld_5_3, arr_5_3, fld_5_4, arr_5_4, nI_clamp, inb_nI, nI_leI, nI_ltI, nI_eq, nI_z, nI_ge0, nI_lt0, nI_add, n00, n11, n01, n10, true_or, or_true, not_true_eq_false, not_false_eq_true, bI_0, bI_z, Nat.le_refl, Nat.lt_irrefl, Nat.reduceLT, w1, hl, lg_cmp_eq, show -lN 9223372036854775808 = LM from rfl, turn_ok _ (show sea x (xP x) r c < 5 by omega) _ (show sea x (xP x) (pR x p) (pC x p) < 5 by omega), hp6, f1', nI_l, lN_add, min_l, lN_i, m_rowOf, m_columnOf, hdr, hdc, lI_sI, lI_sJ, lI_sC, lI_sF, lZ_sI, lZ_sJ, lZ_sC, lZ_sF, lJ_sI, lJ_sJ, lJ_sC, lJ_sF, oC_sI, oC_sJ, oC_sC, oC_sF, oF_sI, oF_sJ, oF_sC, oF_sF, sI_1, sJ_1, sF_1, sC_1, sr_okI, sr_okJ, sr_okR, sr_okZ, hI_sJ, hI_sF, hJ_sI, hJ_sF, hJ_sC, hF_sI, hF_sJ, hF_sC, fI_sI, fI_sJ, fI_sC, fJ_sI, fJ_sJ, fJ_sC, hI_n, hI_y, hJ_n, hJ_y, hF_n, hF_y, fI_n, fI_y, fJ_n, fJ_y, hI_c]
      refine ag _ (by omega) ?_
      rw [agd, if_neg e, wth, if_pos hl]
    · have hw := wthn_le (v := law t (nmF x p r c (sea x (xP x) (pR x p) (pC x p))) 0) (m := 9) (by decide)
      simp (disch := first | assumption | omega | (simp (disch := assumption) only [sr_szn, sr_szi, sr_szr, sr_szl, Nat.reduceAdd, Nat.reduceLeDiff, Nat.zero_le, Nat.le_refl, isA_sI, isA_sJ, isA_sC, isA_sF, isI_sI, isI_sJ, isI_sC, isI_sF, isJ_sI, isJ_sJ, isJ_sC, isJ_sF, oK_sI, oK_sJ, oK_sC, oK_sF, lI_sI, lI_sJ, lI_sC, lI_sF, oC_sI, oC_sJ, oC_sC, oC_sF, obj_5, fld_5_0, fld_6_11, arr_6_11, fld_5_2, arr_5_2, fld_5_3, arr_5_3, fld_5_4, arr_5_4])) only [Nat.reduceAdd, Nat.reduceLeDiff, Nat.zero_le, true_and, and_true, ↓reduceIte, wB_const, wB_lconst, wB_ldc, wB_getstatic, wB_dupi, wB_dupr, wB_dup2, wB_popi, wB_iadd, wB_isub, wB_imul, wB_iand, wB_ior, wB_ixor, wB_ishl, wB_ishr, wB_iushr, wB_ineg, wB_ladd, wB_lsub, wB_lmul, wB_land, wB_lneg, wB_i2l, wB_l2i, wB_lcmp, wB_idiv, wB_irem, wB_ldiv, wB_lrem, wB_goto, wB_nop, wB_ifeq, wB_ifne, wB_iflt, wB_ifge, wB_ifgt, wB_ifle, wB_icmpeq, wB_icmpne, wB_icmplt, wB_icmpge, wB_icmpgt, wB_icmple, wB_table, wB_lookup, wB_ireturn, wB_zreturn, wB_lreturn, wB_areturn, wB_return, wB_getf, wB_putf, wB_iald, wB_bald, wB_lald, wB_iast, wB_bast, wB_last, wB_min, wB_max, wB_abs, wB_minl, wB_maxl, wB_absl, wB_obj, wB_copy, wB_charAt, wB_strlen, sr_k1i, sr_k1r, sr_k1U, sr_k1l, sr_ms1, sr_ms0, sr_msn, sr_cs1, sr_csm1, sr_csm2, sr_cl1, sr_cl2, sr_szi, sr_szr, sr_szl, sr_szn, sr_tls, sr_tln, wB_il0, wB_ll0, wB_al0, wB_is0, wB_as0, wB_inc0, wB_ls0, wB_il1, wB_ll1, wB_al1, wB_is1, wB_as1, wB_inc1, wB_ls1, wB_il2, wB_ll2, wB_al2, wB_is2, wB_as2, wB_inc2, wB_ls2, wB_il3, wB_ll3, wB_al3, wB_is3, wB_as3, wB_inc3, wB_ls3, wB_il4, wB_ll4, wB_al4, wB_is4, wB_as4, wB_inc4, wB_ls4, wB_il5, wB_ll5, wB_al5, wB_is5, wB_as5, wB_inc5, wB_ls5, wB_il6, wB_ll6, wB_al6, wB_is6, wB_as6, wB_inc6, wB_ls6, wB_il7, wB_ll7, wB_al7, wB_is7, wB_as7, wB_inc7, wB_ls7, wB_il8, wB_ll8, wB_al8, wB_is8, wB_as8, wB_inc8, wB_ls8, wB_il9, wB_ll9, wB_al9, wB_is9, wB_as9, wB_inc9, wB_ls9, wB_il10, wB_ll10, wB_al10, wB_is10, wB_as10, wB_inc10, wB_ls10, wB_il11, wB_ll11, wB_al11, wB_is11, wB_as11, wB_inc11, wB_ls11, wB_il12, wB_ll12, wB_al12, wB_is12, wB_as12, wB_inc12, wB_ls12, wB_il13, wB_ll13, wB_al13, wB_is13, wB_as13, wB_inc13, wB_ls13, wB_il14, wB_ll14, wB_al14, wB_is14, wB_as14, wB_inc14, wB_ls14, wB_il15, wB_ll15, wB_al15, wB_is15, wB_as15, wB_inc15, lb_9001, lb_9002, lb_9003, cl_79, cl_14, cl_13, cl_86, cl_87, obj_5, fld_5_0, fld_6_11, arr_6_11, fld_5_2, arr_5_2, fld_5_3, arr_5_3, fld_5_4, arr_5_4, nI_clamp, inb_nI, nI_leI, nI_ltI, nI_eq, nI_z, nI_ge0, nI_lt0, nI_add, n00, n11, n01, n10, true_or, or_true, not_true_eq_false, not_false_eq_true, bI_0, bI_z, Nat.le_refl, Nat.lt_irrefl, Nat.reduceLT, w1, hl, lg_cmp_eq, show -lN 9223372036854775808 = LM from rfl, m_within, hp6, f1', nI_l, lN_add, min_l, lN_i, m_rowOf, m_columnOf, hdr, hdc, lI_sI, lI_sJ, lI_sC, lI_sF, lZ_sI, lZ_sJ, lZ_sC, lZ_sF, lJ_sI, lJ_sJ, lJ_sC, lJ_sF, oC_sI, oC_sJ, oC_sC, oC_sF, oF_sI, oF_sJ, oF_sC, oF_sF, sI_1, sJ_1, sF_1, sC_1, sr_okI, sr_okJ, sr_okR, sr_okZ, hI_sJ, hI_sF, hJ_sI, hJ_sF, hJ_sC, hF_sI, hF_sJ, hF_sC, fI_sI, fI_sJ, fI_sC, fJ_sI, fJ_sJ, fJ_sC, hI_n, hI_y, hJ_n, hJ_y, hF_n, hF_y, fI_n, fI_y, fJ_n, fJ_y, hI_c]
      refine ag _ (by omega) ?_
      rw [agd, if_neg e, wth, if_neg hl]
