/-! The reference reads: names; which word by its code. -/
theorem orN (a b : Nat) : nI a ||| nI b = nI (a ||| b) := by
  apply Int32.toBitVec_inj.1
  show BitVec.ofNat 32 a ||| BitVec.ofNat 32 b = BitVec.ofNat 32 (a ||| b)
  apply BitVec.eq_of_getLsbD_eq
  intro i hi
  simp [hi]
theorem sh5 : ((nI 5 &&& 31).toBitVec.smod 32).toNat = 5 := by decide
theorem or5 {v x : Nat} (hv : v < 2 ^ 26) (hx : x < 32) : nI v <<< (nI 5 &&& 31) ||| nI x = nI (v * 32 + x) := by
  rw [pk_shlN (nI 5 &&& 31) 5 sh5 (by omega), orN]
  congr 1
  have := Nat.two_pow_add_eq_or_of_lt (show x < 2 ^ 5 by omega) v
  rw [Nat.mul_comm v (2 ^ 5), ← this]
/-- letter j of six, from p to e; the code of the first k of six -/
def ltn (b : Nat → Nat) (p e j : Nat) : Nat := if p + j < e then b (p + j) - 96 else 0
def cd6 (g : Nat → Nat) : Nat → Nat
  | 0 => 0
  | k + 1 => cd6 g k * 32 + g k
theorem cd6_lt {g : Nat → Nat} (hg : ∀ j, g j < 32) : ∀ k, cd6 g k < 32 ^ k
  | 0 => by simp [cd6]
  | k + 1 => by
    have h1 := cd6_lt hg k
    have h2 := hg k
    have h3 : 32 ^ (k + 1) = 32 ^ k * 32 := Nat.pow_succ 32 k
    show cd6 g k * 32 + g k < 32 ^ (k + 1)
    omega
theorem cd6_inj {g g' : Nat → Nat} (hg : ∀ j, g j < 32) (hg' : ∀ j, g' j < 32) : ∀ k, cd6 g k = cd6 g' k ↔ ∀ j, j < k → g j = g' j
  | 0 => ⟨fun _ j hj => by omega, fun _ => rfl⟩
  | k + 1 => by
    have ih := cd6_inj hg hg' k
    have h1 := hg k
    have h2 := hg' k
    constructor
    · intro e
      have e : cd6 g k * 32 + g k = cd6 g' k * 32 + g' k := e
      have e1 : cd6 g k = cd6 g' k := by omega
      have e2 : g k = g' k := by omega
      intro j hj
      by_cases c : j = k
      · rw [c]; exact e2
      · exact ih.mp e1 j (by omega)
    · intro e
      show cd6 g k * 32 + g k = cd6 g' k * 32 + g' k
      rw [ih.mpr (fun j hj => e j (by omega)), e k (by omega)]
theorem cd6_cd {b : Nat → Nat} {p e : Nat} (hpe : p ≤ e) : ∀ k, k ≤ e - p → cd6 (ltn b p e) k = cdN b p k
  | 0, _ => rfl
  | k + 1, h => by
    show cd6 (ltn b p e) k * 32 + ltn b p e k = cdN b p k * 32 + (b (p + k) - 96)
    rw [cd6_cd hpe k (by omega), show ltn b p e k = b (p + k) - 96 from if_pos (by omega)]
theorem cd6_pad {b : Nat → Nat} {p e : Nat} (hpe : p ≤ e) : ∀ m, cd6 (ltn b p e) (e - p + m) = cdN b p (e - p) * 32 ^ m
  | 0 => by rw [Nat.add_zero, cd6_cd hpe _ (Nat.le_refl _), Nat.pow_zero, Nat.mul_one]
  | m + 1 => by
    have ih := cd6_pad (b := b) hpe m
    show cd6 (ltn b p e) (e - p + m) * 32 + ltn b p e (e - p + m) = _
    rw [ih, show ltn b p e (e - p + m) = 0 from if_neg (by omega), Nat.pow_succ, Nat.add_zero, Nat.mul_assoc]
theorem cd6_w {b : Nat → Nat} {p e : Nat} (hpe : p ≤ e) (h6 : e - p ≤ 6) : cd6 (ltn b p e) 6 = cdN b p (e - p) * 32 ^ (6 - (e - p)) := by
  have := cd6_pad (b := b) hpe (6 - (e - p))
  rw [show e - p + (6 - (e - p)) = 6 by omega] at this
  exact this
def wtn (w j : Nat) : Nat := if j < wn w then wch (wo w + j) - 96 else 0
theorem WC_6 : ∀ w, w < 21 → WC w = cd6 (wtn w) 6 := by decide
theorem wtn_lt {w j : Nat} (hw : w < 21) : wtn w j < 32 := by
  unfold wtn
  split
  · next h =>
    have := w_let w hw j h
    omega
  · omega
theorem mtw_iff {b : Nat → Nat} {p e w : Nat} (hw : w < 21) (hpe : p ≤ e) (h6 : e - p ≤ 6) (hl : ∀ j, j < e - p → 97 ≤ b (p + j) ∧ b (p + j) ≤ 122) : mtw b p e w ↔ WC w = cdN b p (e - p) * 32 ^ (6 - (e - p)) := by
  have hg : ∀ j, ltn b p e j < 32 := fun j => by
    unfold ltn
    by_cases c : p + j < e
    · rw [if_pos c]
      have := hl j (by omega)
      omega
    · rw [if_neg c]; omega
  obtain ⟨-, -, -, w1, w2⟩ := w_end w hw
  rw [← cd6_w hpe h6, WC_6 w hw, cd6_inj (fun j => wtn_lt hw) hg]
  constructor
  · rintro ⟨m1, m2⟩ j hj
    unfold wtn ltn
    by_cases c : j < wn w
    · rw [if_pos c, if_pos (by omega), m2 j c]
    · rw [if_neg c, if_neg (by omega)]
  · intro m
    have key : e - p = wn w := by
      by_cases c1 : e - p < wn w
      · have := m (e - p) (by omega)
        have l := w_let w hw (e - p) c1
        unfold wtn ltn at this
        rw [if_pos c1, if_neg (by omega)] at this
        omega
      · by_cases c2 : wn w < e - p
        · have := m (wn w) (by omega)
          have l := hl (wn w) c2
          unfold wtn ltn at this
          rw [if_neg (by omega), if_pos (by omega)] at this
          omega
        · omega
    refine ⟨by omega, fun j hj => ?_⟩
    have := m j (by omega)
    have l := hl j (by omega)
    have l2 := w_let w hw j hj
    unfold wtn ltn at this
    rw [if_pos hj, if_pos (by omega)] at this
    omega
theorem mtw_no {b : Nat → Nat} {p e w : Nat} (hw : w < 21) (h6 : 6 < e - p) : ¬ mtw b p e w := fun m => by
  have := m.1
  have := (w_end w hw).2.2.2
  omega
set_option maxHeartbeats 4000000 in
set_option maxRecDepth 100000 in
theorem r_name {d p e n : Nat} {b : Nat → Nat} {h : sr_H} {Q : sr_T} (w : Mdl h) (hn : n ≤ 700) (rj : RJ h b n) (hpe : p ≤ e) (he : e ≤ n) (hl : ∀ j, j < e - p → 97 ≤ b (p + j) ∧ b (p + j) ≤ 122) (e29 : fI h 141 29 = nI e) (e30 : fI h 141 30 = nI p) (kk : ∀ h', RQ h h' → fI h' 141 29 = fI h 141 29 → fI h' 141 30 = fI h 141 30 → fI h' 141 31 = fI h 141 31 → fI h' 141 32 = nI (cd6 (ltn b p e) 6) → Q none h') : sr_M (d + 1) 177 [.ref 141] h Q := by
  have hg : ∀ j, ltn b p e j < 32 := fun j => by
    unfold ltn
    by_cases c : p + j < e
    · rw [if_pos c]
      have := hl j (by omega)
      omega
    · rw [if_neg c]; omega
  have lp : sr_W d 177001 [.ref 141, .int (nI 0)] [] (sF h 141 32 (.int (nI 0))) Q := by
    refine lp_h (W := fun i h => sr_W d 177001 [.ref 141, .int (nI i)] [] h Q) (fun i h' => RQ h h' ∧ fI h' 141 29 = fI h 141 29 ∧ fI h' 141 30 = fI h 141 30 ∧ fI h' 141 31 = fI h 141 31 ∧ fI h' 141 32 = nI (cd6 (ltn b p e) i)) 6 ?_ ?_ _ ⟨RQ.rf.sF w (by omega), fI_n (by omega), fI_n (by omega), fI_n (by omega), fI_y (fld_11_32 w).1.2⟩
    · rintro i h1 hi ⟨r1, a1, a2, a3, a4⟩ next
      have w1 := w.ss r1.1
      have rj1 := r1.rj rj
      have c6 := cd6_lt hg i
      have p6 : 32 ^ i ≤ 32 ^ 5 := Nat.pow_le_pow_right (by omega) (by omega)
      have g1 := hg i
      have o := or5 (v := cd6 (ltn b p e) i) (x := ltn b p e i) (by omega) g1
      have nx := next (sF h1 141 32 (.int (nI (cd6 (ltn b p e) (i + 1))))) ⟨r1.sF w1 (by omega), by rw [fI_n (by omega)]; exact a1, by rw [fI_n (by omega)]; exact a2, by rw [fI_n (by omega)]; exact a3, fI_y (fld_11_32 w1).1.2⟩
      rw [show cd6 (ltn b p e) (i + 1) = cd6 (ltn b p e) i * 32 + ltn b p e i from rfl] at nx
      rw [e29] at a1
      rw [e30] at a2
      rw [lb_177001]
      by_cases c : p + i < e
      · have et := rj1.1 (p + i) (by omega)
        have hb := hl i (by omega)
        have el : ltn b p e i = b (p + i) - 96 := if_pos c
        have es : nI (b (p + i)) - nI 97 + nI 1 = nI (b (p + i) - 96) := by
          rw [pk_sub (by omega), nI_add]
          congr 1
          omega
        rw [el] at o nx
        have e97 : nI (b (p + i)) - nI 97 = nI (b (p + i) - 97) := pk_sub (by omega)
        have e96 : b (p + i) - 97 + 1 = b (p + i) - 96 := by omega
        simp (disch := first | assumption | omega | (simp (disch := assumption) only [sr_szn, sr_szi, sr_szr, sr_szl, Nat.reduceAdd, Nat.reduceLeDiff, Nat.zero_le, Nat.le_refl, isA_sI, isA_sJ, isA_sC, isA_sF, isI_sI, isI_sJ, isI_sC, isI_sF, isJ_sI, isJ_sJ, isJ_sC, isJ_sF, oK_sI, oK_sJ, oK_sC, oK_sF, lI_sI, lI_sJ, lI_sC, lI_sF, oC_sI, oC_sJ, oC_sC, oC_sF, fld_11_32, fld_11_30, fld_11_29, fld_11_1, arr_11_1])) only [Nat.reduceAdd, Nat.reduceLeDiff, Nat.zero_le, true_and, and_true, ↓reduceIte, wB_const, wB_lconst, wB_ldc, wB_getstatic, wB_dupi, wB_dupr, wB_dup2, wB_popi, wB_iadd, wB_isub, wB_imul, wB_iand, wB_ior, wB_ixor, wB_ishl, wB_ishr, wB_iushr, wB_ineg, wB_ladd, wB_lsub, wB_lmul, wB_land, wB_lneg, wB_i2l, wB_l2i, wB_lcmp, wB_idiv, wB_irem, wB_ldiv, wB_lrem, wB_goto, wB_nop, wB_ifeq, wB_ifne, wB_iflt, wB_ifge, wB_ifgt, wB_ifle, wB_icmpeq, wB_icmpne, wB_icmplt, wB_icmpge, wB_icmpgt, wB_icmple, wB_table, wB_lookup, wB_ireturn, wB_zreturn, wB_lreturn, wB_areturn, wB_return, wB_getf, wB_putf, wB_iald, wB_bald, wB_lald, wB_iast, wB_bast, wB_last, wB_min, wB_max, wB_abs, wB_minl, wB_maxl, wB_absl, wB_obj, wB_copy, wB_charAt, wB_strlen, sr_k1i, sr_k1r, sr_k1U, sr_k1l, sr_ms1, sr_ms0, sr_msn, sr_cs1, sr_csm1, sr_csm2, sr_cl1, sr_cl2, sr_szi, sr_szr, sr_szl, sr_szn, sr_tls, sr_tln, wB_il0, wB_ll0, wB_al0, wB_is0, wB_as0, wB_inc0, wB_ls0, wB_il1, wB_ll1, wB_al1, wB_is1, wB_as1, wB_inc1, wB_ls1, wB_il2, wB_ll2, wB_al2, wB_is2, wB_as2, wB_inc2, wB_ls2, wB_il3, wB_ll3, wB_al3, wB_is3, wB_as3, wB_inc3, wB_ls3, wB_il4, wB_ll4, wB_al4, wB_is4, wB_as4, wB_inc4, wB_ls4, wB_il5, wB_ll5, wB_al5, wB_is5, wB_as5, wB_inc5, wB_ls5, wB_il6, wB_ll6, wB_al6, wB_is6, wB_as6, wB_inc6, wB_ls6, wB_il7, wB_ll7, wB_al7, wB_is7, wB_as7, wB_inc7, wB_ls7, lb_177002, lb_177003, lb_177004, fld_11_32, fld_11_30, fld_11_29, fld_11_1, arr_11_1, nI_clamp, inb_nI, nI_leI, nI_ltI, nI_eq, nI_z, nI_ge0, nI_lt0, nI_add, n00, n11, n01, n10, true_or, or_true, not_true_eq_false, not_false_eq_true, bI_0, bI_z, Nat.le_refl, Nat.lt_irrefl, Nat.reduceLT, Nat.reduceEqDiff, nI_gt0, nI_le0, w1, show ¬ 6 ≤ i by omega, a1, a2, a4, show ¬ e ≤ p + i by omega, show p + i < 700 by omega, et, e97, e96, o, sr_okI, lI_sI, lI_sJ, lI_sC, lI_sF, lZ_sI, lZ_sJ, lZ_sC, lZ_sF, lJ_sI, lJ_sJ, lJ_sC, lJ_sF, oC_sI, oC_sJ, oC_sC, oC_sF, oF_sI, oF_sJ, oF_sC, oF_sF, sI_1, sJ_1, sF_1, sC_1, sr_okI, sr_okJ, sr_okR, sr_okZ, hI_sJ, hI_sF, hJ_sI, hJ_sF, hJ_sC, hF_sI, hF_sJ, hF_sC, fI_sI, fI_sJ, fI_sC, fJ_sI, fJ_sJ, fJ_sC, hI_n, hI_y, hJ_n, hJ_y, hF_n, hF_y, fI_n, fI_y, fJ_n, fJ_y, hI_c]
        exact nx
      · have el : ltn b p e i = 0 := if_neg c
        rw [el] at o nx
        simp (disch := first | assumption | omega | (simp (disch := assumption) only [sr_szn, sr_szi, sr_szr, sr_szl, Nat.reduceAdd, Nat.reduceLeDiff, Nat.zero_le, Nat.le_refl, isA_sI, isA_sJ, isA_sC, isA_sF, isI_sI, isI_sJ, isI_sC, isI_sF, isJ_sI, isJ_sJ, isJ_sC, isJ_sF, oK_sI, oK_sJ, oK_sC, oK_sF, lI_sI, lI_sJ, lI_sC, lI_sF, oC_sI, oC_sJ, oC_sC, oC_sF, fld_11_32, fld_11_30, fld_11_29, fld_11_1, arr_11_1])) only [Nat.reduceAdd, Nat.reduceLeDiff, Nat.zero_le, true_and, and_true, ↓reduceIte, wB_const, wB_lconst, wB_ldc, wB_getstatic, wB_dupi, wB_dupr, wB_dup2, wB_popi, wB_iadd, wB_isub, wB_imul, wB_iand, wB_ior, wB_ixor, wB_ishl, wB_ishr, wB_iushr, wB_ineg, wB_ladd, wB_lsub, wB_lmul, wB_land, wB_lneg, wB_i2l, wB_l2i, wB_lcmp, wB_idiv, wB_irem, wB_ldiv, wB_lrem, wB_goto, wB_nop, wB_ifeq, wB_ifne, wB_iflt, wB_ifge, wB_ifgt, wB_ifle, wB_icmpeq, wB_icmpne, wB_icmplt, wB_icmpge, wB_icmpgt, wB_icmple, wB_table, wB_lookup, wB_ireturn, wB_zreturn, wB_lreturn, wB_areturn, wB_return, wB_getf, wB_putf, wB_iald, wB_bald, wB_lald, wB_iast, wB_bast, wB_last, wB_min, wB_max, wB_abs, wB_minl, wB_maxl, wB_absl, wB_obj, wB_copy, wB_charAt, wB_strlen, sr_k1i, sr_k1r, sr_k1U, sr_k1l, sr_ms1, sr_ms0, sr_msn, sr_cs1, sr_csm1, sr_csm2, sr_cl1, sr_cl2, sr_szi, sr_szr, sr_szl, sr_szn, sr_tls, sr_tln, wB_il0, wB_ll0, wB_al0, wB_is0, wB_as0, wB_inc0, wB_ls0, wB_il1, wB_ll1, wB_al1, wB_is1, wB_as1, wB_inc1, wB_ls1, wB_il2, wB_ll2, wB_al2, wB_is2, wB_as2, wB_inc2, wB_ls2, wB_il3, wB_ll3, wB_al3, wB_is3, wB_as3, wB_inc3, wB_ls3, wB_il4, wB_ll4, wB_al4, wB_is4, wB_as4, wB_inc4, wB_ls4, wB_il5, wB_ll5, wB_al5, wB_is5, wB_as5, wB_inc5, wB_ls5, wB_il6, wB_ll6, wB_al6, wB_is6, wB_as6, wB_inc6, wB_ls6, wB_il7, wB_ll7, wB_al7, wB_is7, wB_as7, wB_inc7, wB_ls7, lb_177002, lb_177003, lb_177004, fld_11_32, fld_11_30, fld_11_29, fld_11_1, arr_11_1, nI_clamp, inb_nI, nI_leI, nI_ltI, nI_eq, nI_z, nI_ge0, nI_lt0, nI_add, n00, n11, n01, n10, true_or, or_true, not_true_eq_false, not_false_eq_true, bI_0, bI_z, Nat.le_refl, Nat.lt_irrefl, Nat.reduceLT, Nat.reduceEqDiff, nI_gt0, nI_le0, w1, show ¬ 6 ≤ i by omega, a1, a2, a4, show e ≤ p + i by omega, o, sr_okI, lI_sI, lI_sJ, lI_sC, lI_sF, lZ_sI, lZ_sJ, lZ_sC, lZ_sF, lJ_sI, lJ_sJ, lJ_sC, lJ_sF, oC_sI, oC_sJ, oC_sC, oC_sF, oF_sI, oF_sJ, oF_sC, oF_sF, sI_1, sJ_1, sF_1, sC_1, sr_okI, sr_okJ, sr_okR, sr_okZ, hI_sJ, hI_sF, hJ_sI, hJ_sF, hJ_sC, hF_sI, hF_sJ, hF_sC, fI_sI, fI_sJ, fI_sC, fJ_sI, fJ_sJ, fJ_sC, hI_n, hI_y, hJ_n, hJ_y, hF_n, hF_y, fI_n, fI_y, fJ_n, fJ_y, hI_c]
        exact nx
    · rintro h1 ⟨r1, a1, a2, a3, a4⟩
      have z := kk h1 r1 a1 a2 a3 a4
      rw [lb_177001]
      simp (disch := first | assumption | omega) only [Nat.reduceAdd, Nat.reduceLeDiff, Nat.zero_le, true_and, and_true, ↓reduceIte, wB_const, wB_lconst, wB_ldc, wB_getstatic, wB_dupi, wB_dupr, wB_dup2, wB_popi, wB_iadd, wB_isub, wB_imul, wB_iand, wB_ior, wB_ixor, wB_ishl, wB_ishr, wB_iushr, wB_ineg, wB_ladd, wB_lsub, wB_lmul, wB_land, wB_lneg, wB_i2l, wB_l2i, wB_lcmp, wB_idiv, wB_irem, wB_ldiv, wB_lrem, wB_goto, wB_nop, wB_ifeq, wB_ifne, wB_iflt, wB_ifge, wB_ifgt, wB_ifle, wB_icmpeq, wB_icmpne, wB_icmplt, wB_icmpge, wB_icmpgt, wB_icmple, wB_table, wB_lookup, wB_ireturn, wB_zreturn, wB_lreturn, wB_areturn, wB_return, wB_getf, wB_putf, wB_iald, wB_bald, wB_lald, wB_iast, wB_bast, wB_last, wB_min, wB_max, wB_abs, wB_minl, wB_maxl, wB_absl, wB_obj, wB_copy, wB_charAt, wB_strlen, sr_k1i, sr_k1r, sr_k1U, sr_k1l, sr_ms1, sr_ms0, sr_msn, sr_cs1, sr_csm1, sr_csm2, sr_cl1, sr_cl2, sr_szi, sr_szr, sr_szl, sr_szn, sr_tls, sr_tln, wB_il0, wB_ll0, wB_al0, wB_is0, wB_as0, wB_inc0, wB_ls0, wB_il1, wB_ll1, wB_al1, wB_is1, wB_as1, wB_inc1, wB_ls1, wB_il2, wB_ll2, wB_al2, wB_is2, wB_as2, wB_inc2, wB_ls2, wB_il3, wB_ll3, wB_al3, wB_is3, wB_as3, wB_inc3, wB_ls3, wB_il4, wB_ll4, wB_al4, wB_is4, wB_as4, wB_inc4, wB_ls4, wB_il5, wB_ll5, wB_al5, wB_is5, wB_as5, wB_inc5, wB_ls5, wB_il6, wB_ll6, wB_al6, wB_is6, wB_as6, wB_inc6, wB_ls6, wB_il7, wB_ll7, wB_al7, wB_is7, wB_as7, wB_inc7, wB_ls7, lb_177002, lb_177003, lb_177004, fld_11_32, fld_11_30, fld_11_29, fld_11_1, arr_11_1, nI_clamp, inb_nI, nI_leI, nI_ltI, nI_eq, nI_z, nI_ge0, nI_lt0, nI_add, n00, n11, n01, n10, true_or, or_true, not_true_eq_false, not_false_eq_true, bI_0, bI_z, Nat.le_refl, Nat.lt_irrefl, Nat.reduceLT, Nat.reduceEqDiff, nI_gt0, nI_le0]
      exact z
  simp (disch := first | assumption | omega | (simp (disch := assumption) only [sr_szn, sr_szi, sr_szr, sr_szl, Nat.reduceAdd, Nat.reduceLeDiff, Nat.zero_le, Nat.le_refl, isA_sI, isA_sJ, isA_sC, isA_sF, isI_sI, isI_sJ, isI_sC, isI_sF, isJ_sI, isJ_sJ, isJ_sC, isJ_sF, oK_sI, oK_sJ, oK_sC, oK_sF, lI_sI, lI_sJ, lI_sC, lI_sF, oC_sI, oC_sJ, oC_sC, oC_sF, fld_11_32, fld_11_30, fld_11_29, fld_11_1, arr_11_1])) only [Nat.reduceAdd, Nat.reduceLeDiff, Nat.zero_le, true_and, and_true, ↓reduceIte, wB_const, wB_lconst, wB_ldc, wB_getstatic, wB_dupi, wB_dupr, wB_dup2, wB_popi, wB_iadd, wB_isub, wB_imul, wB_iand, wB_ior, wB_ixor, wB_ishl, wB_ishr, wB_iushr, wB_ineg, wB_ladd, wB_lsub, wB_lmul, wB_land, wB_lneg, wB_i2l, wB_l2i, wB_lcmp, wB_idiv, wB_irem, wB_ldiv, wB_lrem, wB_goto, wB_nop, wB_ifeq, wB_ifne, wB_iflt, wB_ifge, wB_ifgt, wB_ifle, wB_icmpeq, wB_icmpne, wB_icmplt, wB_icmpge, wB_icmpgt, wB_icmple, wB_table, wB_lookup, wB_ireturn, wB_zreturn, wB_lreturn, wB_areturn, wB_return, wB_getf, wB_putf, wB_iald, wB_bald, wB_lald, wB_iast, wB_bast, wB_last, wB_min, wB_max, wB_abs, wB_minl, wB_maxl, wB_absl, wB_obj, wB_copy, wB_charAt, wB_strlen, sr_k1i, sr_k1r, sr_k1U, sr_k1l, sr_ms1, sr_ms0, sr_msn, sr_cs1, sr_csm1, sr_csm2, sr_cl1, sr_cl2, sr_szi, sr_szr, sr_szl, sr_szn, sr_tls, sr_tln, wB_il0, wB_ll0, wB_al0, wB_is0, wB_as0, wB_inc0, wB_ls0, wB_il1, wB_ll1, wB_al1, wB_is1, wB_as1, wB_inc1, wB_ls1, wB_il2, wB_ll2, wB_al2, wB_is2, wB_as2, wB_inc2, wB_ls2, wB_il3, wB_ll3, wB_al3, wB_is3, wB_as3, wB_inc3, wB_ls3, wB_il4, wB_ll4, wB_al4, wB_is4, wB_as4, wB_inc4, wB_ls4, wB_il5, wB_ll5, wB_al5, wB_is5, wB_as5, wB_inc5, wB_ls5, wB_il6, wB_ll6, wB_al6, wB_is6, wB_as6, wB_inc6, wB_ls6, wB_il7, wB_ll7, wB_al7, wB_is7, wB_as7, wB_inc7, wB_ls7, lb_177002, lb_177003, lb_177004, fld_11_32, fld_11_30, fld_11_29, fld_11_1, arr_11_1, nI_clamp, inb_nI, nI_leI, nI_ltI, nI_eq, nI_z, nI_ge0, nI_lt0, nI_add, n00, n11, n01, n10, true_or, or_true, not_true_eq_false, not_false_eq_true, bI_0, bI_z, Nat.le_refl, Nat.lt_irrefl, Nat.reduceLT, Nat.reduceEqDiff, nI_gt0, nI_le0, en_177, w, sr_okI, lI_sI, lI_sJ, lI_sC, lI_sF, lZ_sI, lZ_sJ, lZ_sC, lZ_sF, lJ_sI, lJ_sJ, lJ_sC, lJ_sF, oC_sI, oC_sJ, oC_sC, oC_sF, oF_sI, oF_sJ, oF_sC, oF_sF, sI_1, sJ_1, sF_1, sC_1, sr_okI, sr_okJ, sr_okR, sr_okZ, hI_sJ, hI_sF, hJ_sI, hJ_sF, hJ_sC, hF_sI, hF_sJ, hF_sC, fI_sI, fI_sJ, fI_sC, fJ_sI, fJ_sJ, fJ_sC, hI_n, hI_y, hJ_n, hJ_y, hF_n, hF_y, fI_n, fI_y, fJ_n, fJ_y, hI_c]
  exact lp
