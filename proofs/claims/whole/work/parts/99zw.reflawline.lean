/-! The reference parses: a line of a law. -/
theorem PJ_law {h : sr_H} {b : Nat → Nat} {n p k τ : Nat} {y : V} (s : PJ h b n y p 0) (hk : k < 3) (t1 : fI h 141 26 = nI τ) (ht : τ < 2 ^ 20 ∧ τ % 2 = y 0 10 ∧ τ / 2 ^ 5 % 2 = y 0 11 ∧ τ / 2 ^ 6 % 2 = y 0 12 ∧ ∀ k, k < 3 → (τ / 2 ^ (16 + k) % 2 = 1 ↔ y 19 k < y 20 k)) : PJ (sF h 141 26 (.int (nI (τ ||| 2 ^ (16 + k))))) b n y p (100 * (k + 1)) ∧ FJ h (sF h 141 26 (.int (nI (τ ||| 2 ^ (16 + k))))) := by
  obtain ⟨⟨s1, s2⟩, ⟨s3, t3⟩, ⟨s4, s5, s6⟩, ⟨s7, s8⟩, ⟨s9, s10, s11⟩, a1, a2, a3⟩ := s
  obtain ⟨t2, t3', t4, t5, t6⟩ := ht
  have f1 : FJ h (sF h 141 26 (.int (nI (τ ||| 2 ^ (16 + k))))) := FJ_f (erI (fld_11_26 s1).2) (by omega)
  have hu20 : 2 ^ (16 + k) < 2 ^ 20 := Nat.pow_lt_pow_right (by omega) (by omega)
  refine ⟨⟨⟨s1.ss f1.1, fun i hi => by rw [hI_sF]; exact s2.1 i hi, by rw [fI_n (by omega)]; exact s2.2⟩, ⟨by rw [fI_n (by omega)]; exact s3, ?_⟩, ⟨by rw [fI_n (by omega)]; exact s4, by rw [fI_n (by omega)]; exact s5, by rw [fI_n (by omega), s6]; exact congrArg nI (by omega)⟩, ⟨fun i hi => by rw [hI_sF]; exact s7 i hi, by rw [hI_sF]; exact s8⟩, ⟨by rw [fI_n (by omega)]; exact s9, by rw [fI_n (by omega)]; exact s10, τ ||| 2 ^ (16 + k), fI_y (fld_11_26 s1).1.2, Nat.or_lt_two_pow t2 hu20, ?_, ?_, ?_, fun j hj => ?_⟩, fun i g1 g2 m hm => by rw [hI_sF]; exact a1 i g1 g2 m hm, fun m hm => by rw [hI_sF, hI_sF]; exact a2 m hm, fun m hm => by rw [hI_sF, hI_sF]; exact a3 m hm⟩, f1⟩
  · unfold TQ at *
    rw [fI_n (by omega), fI_n (by omega), fI_n (by omega)]
    exact t3
  · have := bt_or (t := τ) (u := 16 + k) (j := 0)
    rw [Nat.pow_zero, Nat.div_one, Nat.div_one, if_neg (by omega)] at this
    rw [this]
    exact t3'
  · rw [bt_or, if_neg (by omega)]; exact t4
  · rw [bt_or, if_neg (by omega)]; exact t5
  · rw [bt_or]
    by_cases c : j = k
    · rw [if_pos (by omega)]
      exact ⟨fun _ => Or.inl (by omega), fun _ => rfl⟩
    · rw [if_neg (by omega)]
      exact ⟨fun z => Or.inr ((t6 j hj).mp z), fun z => (t6 j hj).mpr (z.resolve_left (by omega))⟩
theorem PJ_from {h : sr_H} {b : Nat → Nat} {n p k v : Nat} {y : V} (s : PJ h b n y p (100 * (k + 1))) (hk : k < 3) : PJ (sI h 162 (3 + k) (nI v)) b n (vs y 19 k v) p (100 * (k + 1)) ∧ FJ h (sI h 162 (3 + k) (nI v)) := by
  obtain ⟨⟨s1, s2⟩, ⟨s3, t3⟩, ⟨s4, s5, s6⟩, ⟨s7, s8⟩, ⟨s9, s10, s11⟩, a1, a2, a3⟩ := s
  have o : ∀ a i, ¬ a = 162 → hI (sI h 162 (3 + k) (nI v)) a i = hI h a i := fun a i ha => hI_n (fun z => ha z.1)
  have vn : ∀ i j, ¬ i = 19 → vs y 19 k v i j = y i j := fun i j hi => vs_n (by omega)
  obtain ⟨τ, t1, t2, t3', t4, t5, t6⟩ := s11
  refine ⟨⟨⟨s1.ss (SS_sI _ _ _ _), fun i hi => by rw [o _ _ (by omega)]; exact s2.1 i hi, by rw [fI_sI]; exact s2.2⟩, ⟨by rw [fI_sI]; exact s3, TQ_sI t3⟩, ⟨by rw [fI_sI]; exact s4, by rw [fI_sI]; exact s5, by rw [fI_sI]; exact s6⟩, ⟨fun i hi => by rw [o _ _ (by omega), vn _ _ (by omega)]; exact s7 i hi, by rw [o _ _ (by omega), vn _ _ (by omega)]; exact s8⟩, ⟨by rw [fI_sI, vn _ _ (by omega)]; exact s9, by rw [fI_sI, vn _ _ (by omega)]; exact s10, τ, by rw [fI_sI]; exact t1, t2, by rw [vn _ _ (by omega)]; exact t3', by rw [vn _ _ (by omega)]; exact t4, by rw [vn _ _ (by omega)]; exact t5, fun j hj => ?_⟩, fun i g1 g2 m hm => ?_, fun m hm => ?_, fun m hm => ?_⟩, FJ_i (by omega) (show 3 ≤ 3 + k by omega)⟩
  · by_cases c : j = k
    · rw [t6 j hj]
      exact ⟨fun _ => Or.inl (by omega), fun _ => Or.inl (by omega)⟩
    · rw [vs_n (by omega), vn _ _ (by omega)]
      exact t6 j hj
  · have ec : cn (vs y 19 k v) i = cn y i := by
      unfold cn
      rw [vn _ _ (by omega), vn _ _ (by omega), vn _ _ (by omega), vn _ _ (by omega), vn _ _ (by omega)]
    rw [ec] at hm
    rw [o _ _ (by omega), vn _ _ (by omega)]
    exact a1 i g1 g2 m hm
  · rw [o 163 _ (by omega), vn 20 _ (by omega)]
    refine ⟨?_, (a2 m hm).2⟩
    by_cases c : m = k
    · subst c
      rw [hI_y (arr_11_22 s1).2.1, vs_y]
    · rw [hI_n (by omega), vs_n (by omega)]
      exact (a2 m hm).1
  · rw [vn _ _ (by omega)] at hm
    rw [o _ _ (by omega), o _ _ (by omega), vn _ _ (by omega), vn _ _ (by omega)]
    exact a3 m hm
theorem PJ_to {h : sr_H} {b : Nat → Nat} {n p k v O : Nat} {y : V} (s : PJ h b n y p (100 * (k + 1))) (hk : k < 3) (hO : O = 100 * (k + 1) ∨ (O = 0 ∧ y 19 k < v)) : PJ (sI h 163 (3 + k) (nI v)) b n (vs y 20 k v) p O ∧ FJ h (sI h 163 (3 + k) (nI v)) := by
  obtain ⟨⟨s1, s2⟩, ⟨s3, t3⟩, ⟨s4, s5, s6⟩, ⟨s7, s8⟩, ⟨s9, s10, s11⟩, a1, a2, a3⟩ := s
  have o : ∀ a i, ¬ a = 163 → hI (sI h 163 (3 + k) (nI v)) a i = hI h a i := fun a i ha => hI_n (fun z => ha z.1)
  have vn : ∀ i j, ¬ i = 20 → vs y 20 k v i j = y i j := fun i j hi => vs_n (by omega)
  obtain ⟨τ, t1, t2, t3', t4, t5, t6⟩ := s11
  refine ⟨⟨⟨s1.ss (SS_sI _ _ _ _), fun i hi => by rw [o _ _ (by omega)]; exact s2.1 i hi, by rw [fI_sI]; exact s2.2⟩, ⟨by rw [fI_sI]; exact s3, TQ_sI t3⟩, ⟨by rw [fI_sI]; exact s4, by rw [fI_sI]; exact s5, by rw [fI_sI, s6]; exact congrArg nI (by omega)⟩, ⟨fun i hi => by rw [o _ _ (by omega), vn _ _ (by omega)]; exact s7 i hi, by rw [o _ _ (by omega), vn _ _ (by omega)]; exact s8⟩, ⟨by rw [fI_sI, vn _ _ (by omega)]; exact s9, by rw [fI_sI, vn _ _ (by omega)]; exact s10, τ, by rw [fI_sI]; exact t1, t2, by rw [vn _ _ (by omega)]; exact t3', by rw [vn _ _ (by omega)]; exact t4, by rw [vn _ _ (by omega)]; exact t5, fun j hj => ?_⟩, fun i g1 g2 m hm => ?_, fun m hm => ?_, fun m hm => ?_⟩, FJ_i (by omega) (show 3 ≤ 3 + k by omega)⟩
  · by_cases c : j = k
    · rw [t6 j hj]
      refine ⟨fun _ => ?_, fun _ => Or.inl (by omega)⟩
      rcases hO with z | z
      · exact Or.inl (by omega)
      · exact Or.inr (by rw [c, vn _ _ (by omega), vs_y]; exact z.2)
    · rw [vn _ _ (by omega), vs_n (by omega)]
      have := t6 j hj
      rw [this]
      refine ⟨fun z => Or.inr (z.resolve_left (by omega)), fun z => Or.inr (z.resolve_left (by
        rcases hO with y | y
        · omega
        · have := y.1; omega))⟩
  · have ec : cn (vs y 20 k v) i = cn y i := by
      unfold cn
      rw [vn _ _ (by omega), vn _ _ (by omega), vn _ _ (by omega), vn _ _ (by omega), vn _ _ (by omega)]
    rw [ec] at hm
    rw [o _ _ (by omega), vn _ _ (by omega)]
    exact a1 i g1 g2 m hm
  · rw [o 162 _ (by omega), vn 19 _ (by omega)]
    refine ⟨(a2 m hm).1, ?_⟩
    by_cases c : m = k
    · subst c
      rw [hI_y (arr_11_23 s1).2.1, vs_y]
    · rw [hI_n (by omega), vs_n (by omega)]
      exact (a2 m hm).2
  · rw [vn _ _ (by omega)] at hm
    rw [o _ _ (by omega), o _ _ (by omega), vn _ _ (by omega), vn _ _ (by omega)]
    exact a3 m hm
theorem bitT {t k : Nat} (ht : t < 2 ^ 20) (hk : k < 3) : (nI t >>> (nI (16 + k) &&& 31) &&& nI 1 = nI 1) ↔ t / 2 ^ (16 + k) % 2 = 1 := nI_bit (by omega) (by omega)
/-- how a law's line goes: told, or a bad end -/
def WK (h : sr_H) (b : Nat → Nat) (n k : Nat) (y : V) (Q : sr_T) (o : PR) : Prop := match o with
  | .inl e => (∀ h', FJ h h' → XF h' e → Q none h') ∧ ∀ y' p' h', e = (1, p') → p' ≤ n → ¬ tK b n p' = 4 → FJ h h' → PJ h' b n y' p' (100 * (k + 1)) → Q none h'
  | .inr a => tK b n a.2 = 4 → a.2 ≤ n → CD y a.1 → ∀ h', FJ h h' → PJ h' b n (vs a.1 20 k (a.1 0 13)) a.2 0 → Q none h'
set_option maxHeartbeats 4000000 in
set_option maxRecDepth 100000 in
theorem r_lawLine {d n p : Nat} {b : Nat → Nat} {y : V} {h : sr_H} {Q : sr_T} (hb : Wb b n) (hp : p ≤ n) (hy : Wz y) (s : PJ h b n y p 0) (k0 : ¬ (28 ≤ tK b n p ∧ tK b n p ≤ 30) → ∀ h', FJ h h' → XF h' (1, p) → Q none h') (k3 : (28 ≤ tK b n p ∧ tK b n p ≤ 30) → y 19 (tK b n p - 28) < y 20 (tK b n p - 28) → ∀ h', FJ h h' → XF h' (3, p) → Q none h') (k1 : (28 ≤ tK b n p ∧ tK b n p ≤ 30) → ¬ y 19 (tK b n p - 28) < y 20 (tK b n p - 28) → WK h b n (tK b n p - 28) (vs y 19 (tK b n p - 28) (y 0 13)) Q (lRun b n 701 (vs y 19 (tK b n p - 28) (y 0 13)) (tN b n p) [] 0 0 1 1)) : sr_M (d + 151) 194 [.ref 141] h Q := by
  have w := s.1.1
  have e33 := s.2.2.1.1
  have e31 := s.2.1.2.2.1
  have hK : tK b n p ≤ 40 := (lex_sp hp).1
  have gap := tK_gap (b := b) (n := n) (p := p)
  have sl := srt_le (K := tK b n p)
  have wr := fun (k : Nat) (Q : sr_T) => r_wrong0 (d := d + 149) (k := nI k) (Q := Q) w e33
  by_cases q : 28 ≤ tK b n p ∧ tK b n p ≤ 30
  · have q0 : srt (tK b n p) = 0 := srt_0.mpr (by omega)
    have v32 : fI h 141 32 = nI (tK b n p - 20) := s.2.1.2.2.2.2.2.2 (by omega)
    have k1' := k1 q
    have k3' := k3 q
    clear k1 k3 k0
    obtain ⟨k, hk, ek⟩ : ∃ k, k < 3 ∧ tK b n p = 28 + k := ⟨tK b n p - 28, by omega, by omega⟩
    rw [ek, show 28 + k - 28 = k by omega] at k1' k3'
    have e8 : nI (tK b n p - 20) - nI 8 = nI k := by
      rw [pk_sub (by omega)]
      exact congrArg nI (by omega)
    obtain ⟨τ, t1, t2, t3, t4, t5, t6⟩ := s.2.2.2.2.1.2.2
    have t6' : ∀ k, k < 3 → (τ / 2 ^ (16 + k) % 2 = 1 ↔ y 19 k < y 20 k) := fun j hj => (t6 j hj).trans ⟨fun z => z.resolve_left (by omega), Or.inr⟩
    have bt := bitT (k := k) t2 hk
    have tk := t6' k hk
    by_cases qt : y 19 k < y 20 k
    · have z3 := k3' qt
      have bt' := bt.mpr (tk.mpr qt)
      clear k1' tk bt
      obtain ⟨x2, f2⟩ := XF_w s (k := 3) (by omega) (by omega)
      have w2 := x2.1
      have g2 := x2.2.1
      have z := z3 _ f2 x2
      simp (disch := first | assumption | omega) only [Nat.reduceAdd, Nat.reduceLeDiff, Nat.zero_le, true_and, and_true, ↓reduceIte, wB_const, wB_lconst, wB_ldc, wB_getstatic, wB_dupi, wB_dupr, wB_dup2, wB_popi, wB_iadd, wB_isub, wB_imul, wB_iand, wB_ior, wB_ixor, wB_ishl, wB_ishr, wB_iushr, wB_ineg, wB_ladd, wB_lsub, wB_lmul, wB_land, wB_lneg, wB_i2l, wB_l2i, wB_lcmp, wB_idiv, wB_irem, wB_ldiv, wB_lrem, wB_goto, wB_nop, wB_ifeq, wB_ifne, wB_iflt, wB_ifge, wB_ifgt, wB_ifle, wB_icmpeq, wB_icmpne, wB_icmplt, wB_icmpge, wB_icmpgt, wB_icmple, wB_table, wB_lookup, wB_ireturn, wB_zreturn, wB_lreturn, wB_areturn, wB_return, wB_getf, wB_putf, wB_iald, wB_bald, wB_lald, wB_iast, wB_bast, wB_last, wB_min, wB_max, wB_abs, wB_minl, wB_maxl, wB_absl, wB_obj, wB_copy, wB_charAt, wB_strlen, sr_k1i, sr_k1r, sr_k1U, sr_k1l, sr_ms1, sr_ms0, sr_msn, sr_cs1, sr_csm1, sr_csm2, sr_cl1, sr_cl2, sr_szi, sr_szr, sr_szl, sr_szn, sr_tls, sr_tln, wB_il0, wB_ll0, wB_al0, wB_is0, wB_as0, wB_inc0, wB_ls0, wB_il1, wB_ll1, wB_al1, wB_is1, wB_as1, wB_inc1, wB_ls1, wB_il2, wB_ll2, wB_al2, wB_is2, wB_as2, wB_inc2, wB_ls2, wB_il3, wB_ll3, wB_al3, wB_is3, wB_as3, wB_inc3, wB_ls3, wB_il4, wB_ll4, wB_al4, wB_is4, wB_as4, wB_inc4, wB_ls4, wB_il5, wB_ll5, wB_al5, wB_is5, wB_as5, wB_inc5, wB_ls5, wB_il6, wB_ll6, wB_al6, wB_is6, wB_as6, wB_inc6, wB_ls6, wB_il7, wB_ll7, wB_al7, wB_is7, wB_as7, wB_inc7, wB_ls7, lb_194001, lb_194002, lb_194003, lb_194004, cl_178, cl_174, cl_185, cl_197, obj_11, fld_11_31, fld_11_32, fld_11_33, fld_11_26, fld_11_22, arr_11_22, fld_11_23, arr_11_23, nI_clamp, inb_nI, nI_leI, nI_ltI, nI_eq, nI_z, nI_ge0, nI_lt0, nI_add, n00, n11, n01, n10, true_or, or_true, not_true_eq_false, not_false_eq_true, bI_0, bI_z, Nat.le_refl, Nat.lt_irrefl, Nat.reduceLT, Nat.reduceEqDiff, nI_gt0, nI_le0, en_194, w, e31, q0, v32, show 8 ≤ tK b n p - 20 by omega, show ¬ tK b n p - 20 < 8 by omega, show tK b n p - 20 ≤ 10 by omega, e8, e33, t1, bt', wr, w2, g2]
      exact z
    · have kw := k1' qt
      have bt' : ¬ nI τ >>> (nI (16 + k) &&& 31) &&& nI 1 = nI 1 := fun z => qt (tk.mp (bt.mp z))
      clear k3' tk bt
      obtain ⟨s2, f2⟩ := PJ_law s hk t1 ⟨t2, t3, t4, t5, t6'⟩
      clear t6 t6'
      have w2 := s2.1.1
      have tn := tN_lt (b := b) hp (by omega)
      have or1 : nI τ ||| nI 1 <<< (nI (16 + k) &&& 31) = nI (τ ||| 2 ^ (16 + k)) := by rw [shl_8 (16 + k) (by omega), orN]
      simp (disch := first | assumption | omega | (simp (disch := assumption) only [sr_szn, sr_szi, sr_szr, sr_szl, Nat.reduceAdd, Nat.reduceLeDiff, Nat.zero_le, Nat.le_refl, isA_sI, isA_sJ, isA_sC, isA_sF, isI_sI, isI_sJ, isI_sC, isI_sF, isJ_sI, isJ_sJ, isJ_sC, isJ_sF, oK_sI, oK_sJ, oK_sC, oK_sF, lI_sI, lI_sJ, lI_sC, lI_sF, oC_sI, oC_sJ, oC_sC, oC_sF, obj_11, fld_11_31, fld_11_32, fld_11_33, fld_11_26, fld_11_22, arr_11_22, fld_11_23, arr_11_23])) only [Nat.reduceAdd, Nat.reduceLeDiff, Nat.zero_le, true_and, and_true, ↓reduceIte, wB_const, wB_lconst, wB_ldc, wB_getstatic, wB_dupi, wB_dupr, wB_dup2, wB_popi, wB_iadd, wB_isub, wB_imul, wB_iand, wB_ior, wB_ixor, wB_ishl, wB_ishr, wB_iushr, wB_ineg, wB_ladd, wB_lsub, wB_lmul, wB_land, wB_lneg, wB_i2l, wB_l2i, wB_lcmp, wB_idiv, wB_irem, wB_ldiv, wB_lrem, wB_goto, wB_nop, wB_ifeq, wB_ifne, wB_iflt, wB_ifge, wB_ifgt, wB_ifle, wB_icmpeq, wB_icmpne, wB_icmplt, wB_icmpge, wB_icmpgt, wB_icmple, wB_table, wB_lookup, wB_ireturn, wB_zreturn, wB_lreturn, wB_areturn, wB_return, wB_getf, wB_putf, wB_iald, wB_bald, wB_lald, wB_iast, wB_bast, wB_last, wB_min, wB_max, wB_abs, wB_minl, wB_maxl, wB_absl, wB_obj, wB_copy, wB_charAt, wB_strlen, sr_k1i, sr_k1r, sr_k1U, sr_k1l, sr_ms1, sr_ms0, sr_msn, sr_cs1, sr_csm1, sr_csm2, sr_cl1, sr_cl2, sr_szi, sr_szr, sr_szl, sr_szn, sr_tls, sr_tln, wB_il0, wB_ll0, wB_al0, wB_is0, wB_as0, wB_inc0, wB_ls0, wB_il1, wB_ll1, wB_al1, wB_is1, wB_as1, wB_inc1, wB_ls1, wB_il2, wB_ll2, wB_al2, wB_is2, wB_as2, wB_inc2, wB_ls2, wB_il3, wB_ll3, wB_al3, wB_is3, wB_as3, wB_inc3, wB_ls3, wB_il4, wB_ll4, wB_al4, wB_is4, wB_as4, wB_inc4, wB_ls4, wB_il5, wB_ll5, wB_al5, wB_is5, wB_as5, wB_inc5, wB_ls5, wB_il6, wB_ll6, wB_al6, wB_is6, wB_as6, wB_inc6, wB_ls6, wB_il7, wB_ll7, wB_al7, wB_is7, wB_as7, wB_inc7, wB_ls7, lb_194001, lb_194002, lb_194003, lb_194004, cl_178, cl_174, cl_185, cl_197, obj_11, fld_11_31, fld_11_32, fld_11_33, fld_11_26, fld_11_22, arr_11_22, fld_11_23, arr_11_23, nI_clamp, inb_nI, nI_leI, nI_ltI, nI_eq, nI_z, nI_ge0, nI_lt0, nI_add, n00, n11, n01, n10, true_or, or_true, not_true_eq_false, not_false_eq_true, bI_0, bI_z, Nat.le_refl, Nat.lt_irrefl, Nat.reduceLT, Nat.reduceEqDiff, nI_gt0, nI_le0, en_194, w, e31, q0, v32, show 8 ≤ tK b n p - 20 by omega, show ¬ tK b n p - 20 < 8 by omega, show tK b n p - 20 ≤ 10 by omega, e8, e33, t1, bt', or1, w2, sr_okI, lI_sI, lI_sJ, lI_sC, lI_sF, lZ_sI, lZ_sJ, lZ_sC, lZ_sF, lJ_sI, lJ_sJ, lJ_sC, lJ_sF, oC_sI, oC_sJ, oC_sC, oC_sF, oF_sI, oF_sJ, oF_sC, oF_sF, sI_1, sJ_1, sF_1, sC_1, sr_okI, sr_okJ, sr_okR, sr_okZ, hI_sJ, hI_sF, hJ_sI, hJ_sF, hJ_sC, hF_sI, hF_sJ, hF_sC, fI_sI, fI_sJ, fI_sC, fJ_sI, fJ_sJ, fJ_sC, hI_n, hI_y, hJ_n, hJ_y, hF_n, hF_y, fI_n, fI_y, fJ_n, fJ_y, hI_c]
      refine r_tokP (d := d + 140) hb hp s2 (fun h3 r3 s3 => ?_)
      have w3 := s3.1.1
      have i8 := fun (Q : sr_T) => r_fresher (d := d + 149) (j := 8) (Q := Q) w3 (by omega) s3.2.2.2.1.2
      obtain ⟨s4, f4⟩ := PJ_from (v := y 0 13) s3 hk
      have w4 := s4.1.1
      have f14 := f2.tr (r3.fj.tr f4)
      simp (disch := first | assumption | omega | (simp (disch := assumption) only [sr_szn, sr_szi, sr_szr, sr_szl, Nat.reduceAdd, Nat.reduceLeDiff, Nat.zero_le, Nat.le_refl, isA_sI, isA_sJ, isA_sC, isA_sF, isI_sI, isI_sJ, isI_sC, isI_sF, isJ_sI, isJ_sJ, isJ_sC, isJ_sF, oK_sI, oK_sJ, oK_sC, oK_sF, lI_sI, lI_sJ, lI_sC, lI_sF, oC_sI, oC_sJ, oC_sC, oC_sF, obj_11, fld_11_31, fld_11_32, fld_11_33, fld_11_26, fld_11_22, arr_11_22, fld_11_23, arr_11_23])) only [Nat.reduceAdd, Nat.reduceLeDiff, Nat.zero_le, true_and, and_true, ↓reduceIte, wB_const, wB_lconst, wB_ldc, wB_getstatic, wB_dupi, wB_dupr, wB_dup2, wB_popi, wB_iadd, wB_isub, wB_imul, wB_iand, wB_ior, wB_ixor, wB_ishl, wB_ishr, wB_iushr, wB_ineg, wB_ladd, wB_lsub, wB_lmul, wB_land, wB_lneg, wB_i2l, wB_l2i, wB_lcmp, wB_idiv, wB_irem, wB_ldiv, wB_lrem, wB_goto, wB_nop, wB_ifeq, wB_ifne, wB_iflt, wB_ifge, wB_ifgt, wB_ifle, wB_icmpeq, wB_icmpne, wB_icmplt, wB_icmpge, wB_icmpgt, wB_icmple, wB_table, wB_lookup, wB_ireturn, wB_zreturn, wB_lreturn, wB_areturn, wB_return, wB_getf, wB_putf, wB_iald, wB_bald, wB_lald, wB_iast, wB_bast, wB_last, wB_min, wB_max, wB_abs, wB_minl, wB_maxl, wB_absl, wB_obj, wB_copy, wB_charAt, wB_strlen, sr_k1i, sr_k1r, sr_k1U, sr_k1l, sr_ms1, sr_ms0, sr_msn, sr_cs1, sr_csm1, sr_csm2, sr_cl1, sr_cl2, sr_szi, sr_szr, sr_szl, sr_szn, sr_tls, sr_tln, wB_il0, wB_ll0, wB_al0, wB_is0, wB_as0, wB_inc0, wB_ls0, wB_il1, wB_ll1, wB_al1, wB_is1, wB_as1, wB_inc1, wB_ls1, wB_il2, wB_ll2, wB_al2, wB_is2, wB_as2, wB_inc2, wB_ls2, wB_il3, wB_ll3, wB_al3, wB_is3, wB_as3, wB_inc3, wB_ls3, wB_il4, wB_ll4, wB_al4, wB_is4, wB_as4, wB_inc4, wB_ls4, wB_il5, wB_ll5, wB_al5, wB_is5, wB_as5, wB_inc5, wB_ls5, wB_il6, wB_ll6, wB_al6, wB_is6, wB_as6, wB_inc6, wB_ls6, wB_il7, wB_ll7, wB_al7, wB_is7, wB_as7, wB_inc7, wB_ls7, lb_194001, lb_194002, lb_194003, lb_194004, cl_178, cl_174, cl_185, cl_197, obj_11, fld_11_31, fld_11_32, fld_11_33, fld_11_26, fld_11_22, arr_11_22, fld_11_23, arr_11_23, nI_clamp, inb_nI, nI_leI, nI_ltI, nI_eq, nI_z, nI_ge0, nI_lt0, nI_add, n00, n11, n01, n10, true_or, or_true, not_true_eq_false, not_false_eq_true, bI_0, bI_z, Nat.le_refl, Nat.lt_irrefl, Nat.reduceLT, Nat.reduceEqDiff, nI_gt0, nI_le0, w3, i8, show 3 + k < 6 by omega, w4, lI_sI, lI_sJ, lI_sC, lI_sF, lZ_sI, lZ_sJ, lZ_sC, lZ_sF, lJ_sI, lJ_sJ, lJ_sC, lJ_sF, oC_sI, oC_sJ, oC_sC, oC_sF, oF_sI, oF_sJ, oF_sC, oF_sF, sI_1, sJ_1, sF_1, sC_1, sr_okI, sr_okJ, sr_okR, sr_okZ, hI_sJ, hI_sF, hJ_sI, hJ_sF, hJ_sC, hF_sI, hF_sJ, hF_sC, fI_sI, fI_sJ, fI_sC, fJ_sI, fJ_sJ, fJ_sC, hI_n, hI_y, hJ_n, hJ_y, hF_n, hF_y, fI_n, fI_y, fJ_n, fJ_y, hI_c]
      have e13 : vs y 19 k (y 0 13) 0 13 = y 0 13 := vs_n (by omega)
      have e08 : vs y 19 k (y 0 13) 0 8 = y 0 8 := vs_n (by omega)
      have h8 : vs y 19 k (y 0 13) 0 13 = vs y 19 k (y 0 13) 0 8 ∧ vs y 19 k (y 0 13) 0 8 ≤ 64 := by rw [e13, e08]; exact ⟨hy.2, hy.1.1.2.2.2.2.2.2.2.2.1⟩
      have lok := fun y' p' (hl : lRun b n 701 (vs y 19 k (y 0 13)) (tN b n p) [] 0 0 1 1 = .inr (y', p')) => lRun_ok (b := b) (n := n) 701 (vs y 19 k (y 0 13)) (tN b n p) [] 0 0 1 1 y' p' (y 0 13) tn.2 ⟨by show vs y 19 k (y 0 13) 0 13 + 0 = _; omega, h8.2, rfl, by omega, by omega, by omega, by omega, fun k hk => by cases hk⟩ ⟨by omega, fun z => by omega⟩ hl
      generalize hz : lRun b n 701 (vs y 19 k (y 0 13)) (tN b n p) [] 0 0 1 1 = LL at kw lok
      refine r_expression (d := d) (m := k + 1) hb tn.2 s4 h8 (fun e he h5 f5 x => ?_) (fun y' p' hp' n4 he h5 f5 s5 => ?_) (fun y' p' hp' y4 he cd h5 f5 s5 => ?_)
      · rw [hz] at he
        rw [he] at kw
        have dd := x.dd
        have w5 := x.1
        have i8 := fun (Q : sr_T) => r_fresherX (d := d + 149) (j := 8) (Q := Q) w5 (by omega)
        have z := kw.1 (sI h5 163 (3 + k) (hI h5 143 (9 + 8))) (FJ_sI (f14.tr f5) (by omega) (show 3 ≤ 3 + k by omega)) (XF_sI x)
        simp (disch := first | assumption | omega | (simp (disch := assumption) only [sr_szn, sr_szi, sr_szr, sr_szl, Nat.reduceAdd, Nat.reduceLeDiff, Nat.zero_le, Nat.le_refl, isA_sI, isA_sJ, isA_sC, isA_sF, isI_sI, isI_sJ, isI_sC, isI_sF, isJ_sI, isJ_sJ, isJ_sC, isJ_sF, oK_sI, oK_sJ, oK_sC, oK_sF, lI_sI, lI_sJ, lI_sC, lI_sF, oC_sI, oC_sJ, oC_sC, oC_sF, obj_11, fld_11_31, fld_11_32, fld_11_33, fld_11_26, fld_11_22, arr_11_22, fld_11_23, arr_11_23])) only [Nat.reduceAdd, Nat.reduceLeDiff, Nat.zero_le, true_and, and_true, ↓reduceIte, wB_const, wB_lconst, wB_ldc, wB_getstatic, wB_dupi, wB_dupr, wB_dup2, wB_popi, wB_iadd, wB_isub, wB_imul, wB_iand, wB_ior, wB_ixor, wB_ishl, wB_ishr, wB_iushr, wB_ineg, wB_ladd, wB_lsub, wB_lmul, wB_land, wB_lneg, wB_i2l, wB_l2i, wB_lcmp, wB_idiv, wB_irem, wB_ldiv, wB_lrem, wB_goto, wB_nop, wB_ifeq, wB_ifne, wB_iflt, wB_ifge, wB_ifgt, wB_ifle, wB_icmpeq, wB_icmpne, wB_icmplt, wB_icmpge, wB_icmpgt, wB_icmple, wB_table, wB_lookup, wB_ireturn, wB_zreturn, wB_lreturn, wB_areturn, wB_return, wB_getf, wB_putf, wB_iald, wB_bald, wB_lald, wB_iast, wB_bast, wB_last, wB_min, wB_max, wB_abs, wB_minl, wB_maxl, wB_absl, wB_obj, wB_copy, wB_charAt, wB_strlen, sr_k1i, sr_k1r, sr_k1U, sr_k1l, sr_ms1, sr_ms0, sr_msn, sr_cs1, sr_csm1, sr_csm2, sr_cl1, sr_cl2, sr_szi, sr_szr, sr_szl, sr_szn, sr_tls, sr_tln, wB_il0, wB_ll0, wB_al0, wB_is0, wB_as0, wB_inc0, wB_ls0, wB_il1, wB_ll1, wB_al1, wB_is1, wB_as1, wB_inc1, wB_ls1, wB_il2, wB_ll2, wB_al2, wB_is2, wB_as2, wB_inc2, wB_ls2, wB_il3, wB_ll3, wB_al3, wB_is3, wB_as3, wB_inc3, wB_ls3, wB_il4, wB_ll4, wB_al4, wB_is4, wB_as4, wB_inc4, wB_ls4, wB_il5, wB_ll5, wB_al5, wB_is5, wB_as5, wB_inc5, wB_ls5, wB_il6, wB_ll6, wB_al6, wB_is6, wB_as6, wB_inc6, wB_ls6, wB_il7, wB_ll7, wB_al7, wB_is7, wB_as7, wB_inc7, wB_ls7, lb_194001, lb_194002, lb_194003, lb_194004, cl_178, cl_174, cl_185, cl_197, obj_11, fld_11_31, fld_11_32, fld_11_33, fld_11_26, fld_11_22, arr_11_22, fld_11_23, arr_11_23, nI_clamp, inb_nI, nI_leI, nI_ltI, nI_eq, nI_z, nI_ge0, nI_lt0, nI_add, n00, n11, n01, n10, true_or, or_true, not_true_eq_false, not_false_eq_true, bI_0, bI_z, Nat.le_refl, Nat.lt_irrefl, Nat.reduceLT, Nat.reduceEqDiff, nI_gt0, nI_le0, w5, i8, show 3 + k < 6 by omega, lI_sI, lI_sJ, lI_sC, lI_sF, lZ_sI, lZ_sJ, lZ_sC, lZ_sF, lJ_sI, lJ_sJ, lJ_sC, lJ_sF, oC_sI, oC_sJ, oC_sC, oC_sF, oF_sI, oF_sJ, oF_sC, oF_sF, sI_1, sJ_1, sF_1, sC_1, sr_okI, sr_okJ, sr_okR, sr_okZ, hI_sJ, hI_sF, hJ_sI, hJ_sF, hJ_sC, hF_sI, hF_sJ, hF_sC, fI_sI, fI_sJ, fI_sC, fJ_sI, fJ_sJ, fJ_sC, hI_n, hI_y, hJ_n, hJ_y, hF_n, hF_y, fI_n, fI_y, fJ_n, fJ_y, hI_c]
        exact z
      · rw [hz] at he
        rw [he] at kw
        have w5 := s5.1.1
        have i8 := fun (Q : sr_T) => r_fresher (d := d + 149) (j := 8) (Q := Q) w5 (by omega) s5.2.2.2.1.2
        obtain ⟨s6, f6⟩ := PJ_to (v := y' 0 13) s5 hk (Or.inl rfl)
        have z := kw.2 _ p' _ rfl hp' n4 (f14.tr (f5.tr f6)) s6
        simp (disch := first | assumption | omega | (simp (disch := assumption) only [sr_szn, sr_szi, sr_szr, sr_szl, Nat.reduceAdd, Nat.reduceLeDiff, Nat.zero_le, Nat.le_refl, isA_sI, isA_sJ, isA_sC, isA_sF, isI_sI, isI_sJ, isI_sC, isI_sF, isJ_sI, isJ_sJ, isJ_sC, isJ_sF, oK_sI, oK_sJ, oK_sC, oK_sF, lI_sI, lI_sJ, lI_sC, lI_sF, oC_sI, oC_sJ, oC_sC, oC_sF, obj_11, fld_11_31, fld_11_32, fld_11_33, fld_11_26, fld_11_22, arr_11_22, fld_11_23, arr_11_23])) only [Nat.reduceAdd, Nat.reduceLeDiff, Nat.zero_le, true_and, and_true, ↓reduceIte, wB_const, wB_lconst, wB_ldc, wB_getstatic, wB_dupi, wB_dupr, wB_dup2, wB_popi, wB_iadd, wB_isub, wB_imul, wB_iand, wB_ior, wB_ixor, wB_ishl, wB_ishr, wB_iushr, wB_ineg, wB_ladd, wB_lsub, wB_lmul, wB_land, wB_lneg, wB_i2l, wB_l2i, wB_lcmp, wB_idiv, wB_irem, wB_ldiv, wB_lrem, wB_goto, wB_nop, wB_ifeq, wB_ifne, wB_iflt, wB_ifge, wB_ifgt, wB_ifle, wB_icmpeq, wB_icmpne, wB_icmplt, wB_icmpge, wB_icmpgt, wB_icmple, wB_table, wB_lookup, wB_ireturn, wB_zreturn, wB_lreturn, wB_areturn, wB_return, wB_getf, wB_putf, wB_iald, wB_bald, wB_lald, wB_iast, wB_bast, wB_last, wB_min, wB_max, wB_abs, wB_minl, wB_maxl, wB_absl, wB_obj, wB_copy, wB_charAt, wB_strlen, sr_k1i, sr_k1r, sr_k1U, sr_k1l, sr_ms1, sr_ms0, sr_msn, sr_cs1, sr_csm1, sr_csm2, sr_cl1, sr_cl2, sr_szi, sr_szr, sr_szl, sr_szn, sr_tls, sr_tln, wB_il0, wB_ll0, wB_al0, wB_is0, wB_as0, wB_inc0, wB_ls0, wB_il1, wB_ll1, wB_al1, wB_is1, wB_as1, wB_inc1, wB_ls1, wB_il2, wB_ll2, wB_al2, wB_is2, wB_as2, wB_inc2, wB_ls2, wB_il3, wB_ll3, wB_al3, wB_is3, wB_as3, wB_inc3, wB_ls3, wB_il4, wB_ll4, wB_al4, wB_is4, wB_as4, wB_inc4, wB_ls4, wB_il5, wB_ll5, wB_al5, wB_is5, wB_as5, wB_inc5, wB_ls5, wB_il6, wB_ll6, wB_al6, wB_is6, wB_as6, wB_inc6, wB_ls6, wB_il7, wB_ll7, wB_al7, wB_is7, wB_as7, wB_inc7, wB_ls7, lb_194001, lb_194002, lb_194003, lb_194004, cl_178, cl_174, cl_185, cl_197, obj_11, fld_11_31, fld_11_32, fld_11_33, fld_11_26, fld_11_22, arr_11_22, fld_11_23, arr_11_23, nI_clamp, inb_nI, nI_leI, nI_ltI, nI_eq, nI_z, nI_ge0, nI_lt0, nI_add, n00, n11, n01, n10, true_or, or_true, not_true_eq_false, not_false_eq_true, bI_0, bI_z, Nat.le_refl, Nat.lt_irrefl, Nat.reduceLT, Nat.reduceEqDiff, nI_gt0, nI_le0, w5, i8, show 3 + k < 6 by omega, lI_sI, lI_sJ, lI_sC, lI_sF, lZ_sI, lZ_sJ, lZ_sC, lZ_sF, lJ_sI, lJ_sJ, lJ_sC, lJ_sF, oC_sI, oC_sJ, oC_sC, oC_sF, oF_sI, oF_sJ, oF_sC, oF_sF, sI_1, sJ_1, sF_1, sC_1, sr_okI, sr_okJ, sr_okR, sr_okZ, hI_sJ, hI_sF, hJ_sI, hJ_sF, hJ_sC, hF_sI, hF_sJ, hF_sC, fI_sI, fI_sJ, fI_sC, fJ_sI, fJ_sJ, fJ_sC, hI_n, hI_y, hJ_n, hJ_y, hF_n, hF_y, fI_n, fI_y, fJ_n, fJ_y, hI_c]
        exact z
      · rw [hz] at he
        rw [he] at kw
        have lo := lok y' p' he
        have e19 : y' 19 k = y 0 13 := by rw [lo.2.2.2.2.1.2 19 k (by omega) (by omega) (by omega)]; exact vs_y
        have w5 := s5.1.1
        have i8 := fun (Q : sr_T) => r_fresher (d := d + 149) (j := 8) (Q := Q) w5 (by omega) s5.2.2.2.1.2
        obtain ⟨s6, f6⟩ := PJ_to (O := 0) (v := y' 0 13) s5 hk (Or.inr ⟨rfl, by rw [e19]; exact lo.2.2.1⟩)
        have z := kw y4 hp' cd _ (f14.tr (f5.tr f6)) s6
        simp (disch := first | assumption | omega | (simp (disch := assumption) only [sr_szn, sr_szi, sr_szr, sr_szl, Nat.reduceAdd, Nat.reduceLeDiff, Nat.zero_le, Nat.le_refl, isA_sI, isA_sJ, isA_sC, isA_sF, isI_sI, isI_sJ, isI_sC, isI_sF, isJ_sI, isJ_sJ, isJ_sC, isJ_sF, oK_sI, oK_sJ, oK_sC, oK_sF, lI_sI, lI_sJ, lI_sC, lI_sF, oC_sI, oC_sJ, oC_sC, oC_sF, obj_11, fld_11_31, fld_11_32, fld_11_33, fld_11_26, fld_11_22, arr_11_22, fld_11_23, arr_11_23])) only [Nat.reduceAdd, Nat.reduceLeDiff, Nat.zero_le, true_and, and_true, ↓reduceIte, wB_const, wB_lconst, wB_ldc, wB_getstatic, wB_dupi, wB_dupr, wB_dup2, wB_popi, wB_iadd, wB_isub, wB_imul, wB_iand, wB_ior, wB_ixor, wB_ishl, wB_ishr, wB_iushr, wB_ineg, wB_ladd, wB_lsub, wB_lmul, wB_land, wB_lneg, wB_i2l, wB_l2i, wB_lcmp, wB_idiv, wB_irem, wB_ldiv, wB_lrem, wB_goto, wB_nop, wB_ifeq, wB_ifne, wB_iflt, wB_ifge, wB_ifgt, wB_ifle, wB_icmpeq, wB_icmpne, wB_icmplt, wB_icmpge, wB_icmpgt, wB_icmple, wB_table, wB_lookup, wB_ireturn, wB_zreturn, wB_lreturn, wB_areturn, wB_return, wB_getf, wB_putf, wB_iald, wB_bald, wB_lald, wB_iast, wB_bast, wB_last, wB_min, wB_max, wB_abs, wB_minl, wB_maxl, wB_absl, wB_obj, wB_copy, wB_charAt, wB_strlen, sr_k1i, sr_k1r, sr_k1U, sr_k1l, sr_ms1, sr_ms0, sr_msn, sr_cs1, sr_csm1, sr_csm2, sr_cl1, sr_cl2, sr_szi, sr_szr, sr_szl, sr_szn, sr_tls, sr_tln, wB_il0, wB_ll0, wB_al0, wB_is0, wB_as0, wB_inc0, wB_ls0, wB_il1, wB_ll1, wB_al1, wB_is1, wB_as1, wB_inc1, wB_ls1, wB_il2, wB_ll2, wB_al2, wB_is2, wB_as2, wB_inc2, wB_ls2, wB_il3, wB_ll3, wB_al3, wB_is3, wB_as3, wB_inc3, wB_ls3, wB_il4, wB_ll4, wB_al4, wB_is4, wB_as4, wB_inc4, wB_ls4, wB_il5, wB_ll5, wB_al5, wB_is5, wB_as5, wB_inc5, wB_ls5, wB_il6, wB_ll6, wB_al6, wB_is6, wB_as6, wB_inc6, wB_ls6, wB_il7, wB_ll7, wB_al7, wB_is7, wB_as7, wB_inc7, wB_ls7, lb_194001, lb_194002, lb_194003, lb_194004, cl_178, cl_174, cl_185, cl_197, obj_11, fld_11_31, fld_11_32, fld_11_33, fld_11_26, fld_11_22, arr_11_22, fld_11_23, arr_11_23, nI_clamp, inb_nI, nI_leI, nI_ltI, nI_eq, nI_z, nI_ge0, nI_lt0, nI_add, n00, n11, n01, n10, true_or, or_true, not_true_eq_false, not_false_eq_true, bI_0, bI_z, Nat.le_refl, Nat.lt_irrefl, Nat.reduceLT, Nat.reduceEqDiff, nI_gt0, nI_le0, w5, i8, show 3 + k < 6 by omega, lI_sI, lI_sJ, lI_sC, lI_sF, lZ_sI, lZ_sJ, lZ_sC, lZ_sF, lJ_sI, lJ_sJ, lJ_sC, lJ_sF, oC_sI, oC_sJ, oC_sC, oC_sF, oF_sI, oF_sJ, oF_sC, oF_sF, sI_1, sJ_1, sF_1, sC_1, sr_okI, sr_okJ, sr_okR, sr_okZ, hI_sJ, hI_sF, hJ_sI, hJ_sF, hJ_sC, hF_sI, hF_sJ, hF_sC, fI_sI, fI_sJ, fI_sC, fJ_sI, fJ_sJ, fJ_sC, hI_n, hI_y, hJ_n, hJ_y, hF_n, hF_y, fI_n, fI_y, fJ_n, fJ_y, hI_c]
        exact z
  · have z0 := k0 q
    clear k0 k1 k3
    obtain ⟨x2, f2⟩ := XF_w s (k := 1) (by omega) (by omega)
    have w2 := x2.1
    have g2 := x2.2.1
    have z := z0 _ f2 x2
    by_cases q0 : srt (tK b n p) = 0
    · have q20 := srt_0.mp q0
      have v32 : fI h 141 32 = nI (tK b n p - 20) := s.2.1.2.2.2.2.2.2 (by omega)
      by_cases q8 : tK b n p - 20 < 8
      · simp (disch := first | assumption | omega) only [Nat.reduceAdd, Nat.reduceLeDiff, Nat.zero_le, true_and, and_true, ↓reduceIte, wB_const, wB_lconst, wB_ldc, wB_getstatic, wB_dupi, wB_dupr, wB_dup2, wB_popi, wB_iadd, wB_isub, wB_imul, wB_iand, wB_ior, wB_ixor, wB_ishl, wB_ishr, wB_iushr, wB_ineg, wB_ladd, wB_lsub, wB_lmul, wB_land, wB_lneg, wB_i2l, wB_l2i, wB_lcmp, wB_idiv, wB_irem, wB_ldiv, wB_lrem, wB_goto, wB_nop, wB_ifeq, wB_ifne, wB_iflt, wB_ifge, wB_ifgt, wB_ifle, wB_icmpeq, wB_icmpne, wB_icmplt, wB_icmpge, wB_icmpgt, wB_icmple, wB_table, wB_lookup, wB_ireturn, wB_zreturn, wB_lreturn, wB_areturn, wB_return, wB_getf, wB_putf, wB_iald, wB_bald, wB_lald, wB_iast, wB_bast, wB_last, wB_min, wB_max, wB_abs, wB_minl, wB_maxl, wB_absl, wB_obj, wB_copy, wB_charAt, wB_strlen, sr_k1i, sr_k1r, sr_k1U, sr_k1l, sr_ms1, sr_ms0, sr_msn, sr_cs1, sr_csm1, sr_csm2, sr_cl1, sr_cl2, sr_szi, sr_szr, sr_szl, sr_szn, sr_tls, sr_tln, wB_il0, wB_ll0, wB_al0, wB_is0, wB_as0, wB_inc0, wB_ls0, wB_il1, wB_ll1, wB_al1, wB_is1, wB_as1, wB_inc1, wB_ls1, wB_il2, wB_ll2, wB_al2, wB_is2, wB_as2, wB_inc2, wB_ls2, wB_il3, wB_ll3, wB_al3, wB_is3, wB_as3, wB_inc3, wB_ls3, wB_il4, wB_ll4, wB_al4, wB_is4, wB_as4, wB_inc4, wB_ls4, wB_il5, wB_ll5, wB_al5, wB_is5, wB_as5, wB_inc5, wB_ls5, wB_il6, wB_ll6, wB_al6, wB_is6, wB_as6, wB_inc6, wB_ls6, wB_il7, wB_ll7, wB_al7, wB_is7, wB_as7, wB_inc7, wB_ls7, lb_194001, lb_194002, lb_194003, lb_194004, cl_178, cl_174, cl_185, cl_197, obj_11, fld_11_31, fld_11_32, fld_11_33, fld_11_26, fld_11_22, arr_11_22, fld_11_23, arr_11_23, nI_clamp, inb_nI, nI_leI, nI_ltI, nI_eq, nI_z, nI_ge0, nI_lt0, nI_add, n00, n11, n01, n10, true_or, or_true, not_true_eq_false, not_false_eq_true, bI_0, bI_z, Nat.le_refl, Nat.lt_irrefl, Nat.reduceLT, Nat.reduceEqDiff, nI_gt0, nI_le0, en_194, w, e31, q0, v32, q8, wr, w2, g2]
        exact z
      · simp (disch := first | assumption | omega) only [Nat.reduceAdd, Nat.reduceLeDiff, Nat.zero_le, true_and, and_true, ↓reduceIte, wB_const, wB_lconst, wB_ldc, wB_getstatic, wB_dupi, wB_dupr, wB_dup2, wB_popi, wB_iadd, wB_isub, wB_imul, wB_iand, wB_ior, wB_ixor, wB_ishl, wB_ishr, wB_iushr, wB_ineg, wB_ladd, wB_lsub, wB_lmul, wB_land, wB_lneg, wB_i2l, wB_l2i, wB_lcmp, wB_idiv, wB_irem, wB_ldiv, wB_lrem, wB_goto, wB_nop, wB_ifeq, wB_ifne, wB_iflt, wB_ifge, wB_ifgt, wB_ifle, wB_icmpeq, wB_icmpne, wB_icmplt, wB_icmpge, wB_icmpgt, wB_icmple, wB_table, wB_lookup, wB_ireturn, wB_zreturn, wB_lreturn, wB_areturn, wB_return, wB_getf, wB_putf, wB_iald, wB_bald, wB_lald, wB_iast, wB_bast, wB_last, wB_min, wB_max, wB_abs, wB_minl, wB_maxl, wB_absl, wB_obj, wB_copy, wB_charAt, wB_strlen, sr_k1i, sr_k1r, sr_k1U, sr_k1l, sr_ms1, sr_ms0, sr_msn, sr_cs1, sr_csm1, sr_csm2, sr_cl1, sr_cl2, sr_szi, sr_szr, sr_szl, sr_szn, sr_tls, sr_tln, wB_il0, wB_ll0, wB_al0, wB_is0, wB_as0, wB_inc0, wB_ls0, wB_il1, wB_ll1, wB_al1, wB_is1, wB_as1, wB_inc1, wB_ls1, wB_il2, wB_ll2, wB_al2, wB_is2, wB_as2, wB_inc2, wB_ls2, wB_il3, wB_ll3, wB_al3, wB_is3, wB_as3, wB_inc3, wB_ls3, wB_il4, wB_ll4, wB_al4, wB_is4, wB_as4, wB_inc4, wB_ls4, wB_il5, wB_ll5, wB_al5, wB_is5, wB_as5, wB_inc5, wB_ls5, wB_il6, wB_ll6, wB_al6, wB_is6, wB_as6, wB_inc6, wB_ls6, wB_il7, wB_ll7, wB_al7, wB_is7, wB_as7, wB_inc7, wB_ls7, lb_194001, lb_194002, lb_194003, lb_194004, cl_178, cl_174, cl_185, cl_197, obj_11, fld_11_31, fld_11_32, fld_11_33, fld_11_26, fld_11_22, arr_11_22, fld_11_23, arr_11_23, nI_clamp, inb_nI, nI_leI, nI_ltI, nI_eq, nI_z, nI_ge0, nI_lt0, nI_add, n00, n11, n01, n10, true_or, or_true, not_true_eq_false, not_false_eq_true, bI_0, bI_z, Nat.le_refl, Nat.lt_irrefl, Nat.reduceLT, Nat.reduceEqDiff, nI_gt0, nI_le0, en_194, w, e31, q0, v32, q8, show ¬ tK b n p - 20 ≤ 10 by omega, wr, w2, g2]
        exact z
    · simp (disch := first | assumption | omega) only [Nat.reduceAdd, Nat.reduceLeDiff, Nat.zero_le, true_and, and_true, ↓reduceIte, wB_const, wB_lconst, wB_ldc, wB_getstatic, wB_dupi, wB_dupr, wB_dup2, wB_popi, wB_iadd, wB_isub, wB_imul, wB_iand, wB_ior, wB_ixor, wB_ishl, wB_ishr, wB_iushr, wB_ineg, wB_ladd, wB_lsub, wB_lmul, wB_land, wB_lneg, wB_i2l, wB_l2i, wB_lcmp, wB_idiv, wB_irem, wB_ldiv, wB_lrem, wB_goto, wB_nop, wB_ifeq, wB_ifne, wB_iflt, wB_ifge, wB_ifgt, wB_ifle, wB_icmpeq, wB_icmpne, wB_icmplt, wB_icmpge, wB_icmpgt, wB_icmple, wB_table, wB_lookup, wB_ireturn, wB_zreturn, wB_lreturn, wB_areturn, wB_return, wB_getf, wB_putf, wB_iald, wB_bald, wB_lald, wB_iast, wB_bast, wB_last, wB_min, wB_max, wB_abs, wB_minl, wB_maxl, wB_absl, wB_obj, wB_copy, wB_charAt, wB_strlen, sr_k1i, sr_k1r, sr_k1U, sr_k1l, sr_ms1, sr_ms0, sr_msn, sr_cs1, sr_csm1, sr_csm2, sr_cl1, sr_cl2, sr_szi, sr_szr, sr_szl, sr_szn, sr_tls, sr_tln, wB_il0, wB_ll0, wB_al0, wB_is0, wB_as0, wB_inc0, wB_ls0, wB_il1, wB_ll1, wB_al1, wB_is1, wB_as1, wB_inc1, wB_ls1, wB_il2, wB_ll2, wB_al2, wB_is2, wB_as2, wB_inc2, wB_ls2, wB_il3, wB_ll3, wB_al3, wB_is3, wB_as3, wB_inc3, wB_ls3, wB_il4, wB_ll4, wB_al4, wB_is4, wB_as4, wB_inc4, wB_ls4, wB_il5, wB_ll5, wB_al5, wB_is5, wB_as5, wB_inc5, wB_ls5, wB_il6, wB_ll6, wB_al6, wB_is6, wB_as6, wB_inc6, wB_ls6, wB_il7, wB_ll7, wB_al7, wB_is7, wB_as7, wB_inc7, wB_ls7, lb_194001, lb_194002, lb_194003, lb_194004, cl_178, cl_174, cl_185, cl_197, obj_11, fld_11_31, fld_11_32, fld_11_33, fld_11_26, fld_11_22, arr_11_22, fld_11_23, arr_11_23, nI_clamp, inb_nI, nI_leI, nI_ltI, nI_eq, nI_z, nI_ge0, nI_lt0, nI_add, n00, n11, n01, n10, true_or, or_true, not_true_eq_false, not_false_eq_true, bI_0, bI_z, Nat.le_refl, Nat.lt_irrefl, Nat.reduceLT, Nat.reduceEqDiff, nI_gt0, nI_le0, en_194, w, e31, q0, wr, w2, g2]
      exact z
