/-! The reference: a room is copied, begun. -/
/-- room a is now what room b was -/
def CP (a b : Nat) (h h' : sr_H) : Prop := FM a h h' ∧ (∀ q, 168 ≤ q → q ≤ 170 → hI h' q a = hI h q b) ∧ (∀ q, 171 ≤ q → q ≤ 174 → ∀ s, s < 5 → hI h' q (5 * a + s) = hI h q (5 * b + s)) ∧ ∀ q, 175 ≤ q → q ≤ 178 → ∀ p, p < 6 → hI h' q (6 * a + p) = hI h q (6 * b + p)
theorem MX_CP {a b : Nat} {h h' : sr_H} {x : V} (c : CP a b h h') (hN : xN x ≤ 5) (hF : xF x ≤ 6) (m : MX h b x) : MX h' a x := by
  obtain ⟨f, k1, k2, k3⟩ := c
  obtain ⟨⟨n1, n2, n3, n4⟩, ms, mp, m1, m2, m3⟩ := m
  have o : ∀ a i, ¬ (a = 141 ∨ (166 ≤ a ∧ a ≤ 178)) → hI h' a i = hI h a i := fun a i ha => hI_of (f.2.1 a ha)
  have g := f.2.2.1
  refine ⟨⟨by rw [o _ _ (by omega)]; exact n1, by rw [o _ _ (by omega)]; exact n2, by rw [o _ _ (by omega)]; exact n3, by rw [o _ _ (by omega)]; exact n4⟩, fun s hs => ?_, fun p hp => ?_, by rw [k1 _ (by omega) (by omega)]; exact m1, by rw [k1 _ (by omega) (by omega)]; exact m2, by rw [k1 _ (by omega) (by omega)]; exact m3⟩
  · have := ms s hs
    unfold MS at this ⊢
    rw [g 55 (by omega), g 56 (by omega), g 57 (by omega), o 145 _ (by omega), o 148 _ (by omega), k2 171 (by omega) (by omega) s (by omega), k2 172 (by omega) (by omega) s (by omega), k2 173 (by omega) (by omega) s (by omega), k2 174 (by omega) (by omega) s (by omega)]
    exact this
  · have := mp p hp
    unfold MP at this ⊢
    rw [o 154 _ (by omega), k3 175 (by omega) (by omega) p (by omega), k3 176 (by omega) (by omega) p (by omega), k3 177 (by omega) (by omega) p (by omega), k3 178 (by omega) (by omega) p (by omega)]
    exact this
theorem q4 {q B : Nat} (h1 : B ≤ q) (h2 : q ≤ B + 3) : q = B ∨ q = B + 1 ∨ q = B + 2 ∨ q = B + 3 := by omega
theorem st4 {h : sr_H} {B A : Nat} {v1 v2 v3 v4 : Int32} (i1 : isA h B) (i2 : isA (sI h B A v1) (B + 1)) (i3 : isA (sI (sI h B A v1) (B + 1) A v2) (B + 2)) (i4 : isA (sI (sI (sI h B A v1) (B + 1) A v2) (B + 2) A v3) (B + 3)) : (∀ q j, ¬ j = A → hI (sI (sI (sI (sI h B A v1) (B + 1) A v2) (B + 2) A v3) (B + 3) A v4) q j = hI h q j) ∧ hI (sI (sI (sI (sI h B A v1) (B + 1) A v2) (B + 2) A v3) (B + 3) A v4) B A = v1 ∧ hI (sI (sI (sI (sI h B A v1) (B + 1) A v2) (B + 2) A v3) (B + 3) A v4) (B + 1) A = v2 ∧ hI (sI (sI (sI (sI h B A v1) (B + 1) A v2) (B + 2) A v3) (B + 3) A v4) (B + 2) A = v3 ∧ hI (sI (sI (sI (sI h B A v1) (B + 1) A v2) (B + 2) A v3) (B + 3) A v4) (B + 3) A = v4 := by
  refine ⟨fun q j hj => ?_, ?_, ?_, ?_, ?_⟩
  · rw [hI_n (by omega), hI_n (by omega), hI_n (by omega), hI_n (by omega)]
  · rw [hI_n (by omega), hI_n (by omega), hI_n (by omega)]; exact hI_y i1
  · rw [hI_n (by omega), hI_n (by omega)]; exact hI_y i2
  · rw [hI_n (by omega)]; exact hI_y i3
  · exact hI_y i4
set_option maxHeartbeats 4000000 in
set_option maxRecDepth 100000 in
theorem r_copies {d a b : Nat} {h : sr_H} {Q : sr_T} (w : Mdl h) (ha : a < 23) (hb : b < 23) (hab : ¬ a = b) (kk : ∀ h', CP a b h h' → Q none h') : sr_M (d + 1) 213 [.ref 141, .int (nI a), .int (nI b)] h Q := by
  have lp2 : ∀ h1, FM a h h1 → (∀ q, 168 ≤ q → q ≤ 170 → hI h1 q a = hI h q b) → (∀ q, 171 ≤ q → q ≤ 174 → ∀ s, s < 5 → hI h1 q (5 * a + s) = hI h q (5 * b + s)) → sr_W d 213003 [.ref 141, .int (nI a), .int (nI b), .int (nI 0), sr_U, sr_U] [] h1 Q := by
    intro h1 f1 c1 c2
    refine lp_h (W := fun i h => ∀ A B, sr_W d 213003 [.ref 141, .int (nI a), .int (nI b), .int (nI i), A, B] [] h Q) (fun i h' => FM a h h' ∧ (∀ q, 168 ≤ q → q ≤ 170 → hI h' q a = hI h q b) ∧ (∀ q, 171 ≤ q → q ≤ 174 → ∀ s, s < 5 → hI h' q (5 * a + s) = hI h q (5 * b + s)) ∧ ∀ q, 175 ≤ q → q ≤ 178 → ∀ p, p < i → hI h' q (6 * a + p) = hI h q (6 * b + p)) 6 ?_ ?_ h1 ⟨f1, c1, c2, fun _ _ _ _ z => absurd z (Nat.not_lt_zero _)⟩ _ _
    · rintro i h2 hi ⟨f2, k1, k2, k3⟩ next
      have w2 := w.ss f2.1
      intro A B
      rw [lb_213003]
      have e : ∀ q, 175 ≤ q → q ≤ 178 → hI h2 q (6 * b + i) = hI h q (6 * b + i) := fun q h1 h2 => f2.2.2.2.2.2 q _ h1 h2 (by omega)
      have n1 : ∀ h v, hI (sI h 175 (6 * a + i) v) 176 (6 * b + i) = hI h 176 (6 * b + i) := fun h v => hI_n (by omega)
      have n2 : ∀ h v, hI (sI h 175 (6 * a + i) v) 177 (6 * b + i) = hI h 177 (6 * b + i) := fun h v => hI_n (by omega)
      have n3 : ∀ h v, hI (sI h 175 (6 * a + i) v) 178 (6 * b + i) = hI h 178 (6 * b + i) := fun h v => hI_n (by omega)
      have n4 : ∀ h v, hI (sI h 176 (6 * a + i) v) 177 (6 * b + i) = hI h 177 (6 * b + i) := fun h v => hI_n (by omega)
      have n5 : ∀ h v, hI (sI h 176 (6 * a + i) v) 178 (6 * b + i) = hI h 178 (6 * b + i) := fun h v => hI_n (by omega)
      have n6 : ∀ h v, hI (sI h 177 (6 * a + i) v) 178 (6 * b + i) = hI h 178 (6 * b + i) := fun h v => hI_n (by omega)
      have e1 := e 175 (by omega) (by omega)
      have e2 := e 176 (by omega) (by omega)
      have e3 := e 177 (by omega) (by omega)
      have e4 := e 178 (by omega) (by omega)
      simp (disch := first | assumption | omega | (simp (disch := assumption) only [sr_szn, sr_szi, sr_szr, sr_szl, Nat.reduceAdd, Nat.reduceLeDiff, Nat.zero_le, Nat.le_refl, isA_sI, isA_sJ, isA_sC, isA_sF, isI_sI, isI_sJ, isI_sC, isI_sF, isJ_sI, isJ_sJ, isJ_sC, isJ_sF, oK_sI, oK_sJ, oK_sC, oK_sF, lI_sI, lI_sJ, lI_sC, lI_sF, oC_sI, oC_sJ, oC_sC, oC_sF, fld_11_42, arr_11_42, fld_11_43, arr_11_43, fld_11_44, arr_11_44, fld_11_45, arr_11_45, fld_11_46, arr_11_46, fld_11_47, arr_11_47, fld_11_48, arr_11_48, fld_11_49, arr_11_49, fld_11_50, arr_11_50, fld_11_51, arr_11_51, fld_11_52, arr_11_52])) only [Nat.reduceAdd, Nat.reduceLeDiff, Nat.zero_le, true_and, and_true, ↓reduceIte, wB_const, wB_lconst, wB_ldc, wB_getstatic, wB_dupi, wB_dupr, wB_dup2, wB_popi, wB_iadd, wB_isub, wB_imul, wB_iand, wB_ior, wB_ixor, wB_ishl, wB_ishr, wB_iushr, wB_ineg, wB_ladd, wB_lsub, wB_lmul, wB_land, wB_lneg, wB_i2l, wB_l2i, wB_lcmp, wB_idiv, wB_irem, wB_ldiv, wB_lrem, wB_goto, wB_nop, wB_ifeq, wB_ifne, wB_iflt, wB_ifge, wB_ifgt, wB_ifle, wB_icmpeq, wB_icmpne, wB_icmplt, wB_icmpge, wB_icmpgt, wB_icmple, wB_table, wB_lookup, wB_ireturn, wB_zreturn, wB_lreturn, wB_areturn, wB_return, wB_getf, wB_putf, wB_iald, wB_bald, wB_lald, wB_iast, wB_bast, wB_last, wB_min, wB_max, wB_abs, wB_minl, wB_maxl, wB_absl, wB_obj, wB_copy, wB_charAt, wB_strlen, sr_k1i, sr_k1r, sr_k1U, sr_k1l, sr_ms1, sr_ms0, sr_msn, sr_cs1, sr_csm1, sr_csm2, sr_cl1, sr_cl2, sr_szi, sr_szr, sr_szl, sr_szn, sr_tls, sr_tln, wB_il0, wB_ll0, wB_al0, wB_is0, wB_as0, wB_inc0, wB_ls0, wB_il1, wB_ll1, wB_al1, wB_is1, wB_as1, wB_inc1, wB_ls1, wB_il2, wB_ll2, wB_al2, wB_is2, wB_as2, wB_inc2, wB_ls2, wB_il3, wB_ll3, wB_al3, wB_is3, wB_as3, wB_inc3, wB_ls3, wB_il4, wB_ll4, wB_al4, wB_is4, wB_as4, wB_inc4, wB_ls4, wB_il5, wB_ll5, wB_al5, wB_is5, wB_as5, wB_inc5, wB_ls5, wB_il6, wB_ll6, wB_al6, wB_is6, wB_as6, wB_inc6, wB_ls6, wB_il7, wB_ll7, wB_al7, wB_is7, wB_as7, wB_inc7, wB_ls7, lb_213001, lb_213002, lb_213004, fld_11_42, arr_11_42, fld_11_43, arr_11_43, fld_11_44, arr_11_44, fld_11_45, arr_11_45, fld_11_46, arr_11_46, fld_11_47, arr_11_47, fld_11_48, arr_11_48, fld_11_49, arr_11_49, fld_11_50, arr_11_50, fld_11_51, arr_11_51, fld_11_52, arr_11_52, nI_clamp, inb_nI, nI_leI, nI_ltI, nI_eq, nI_z, nI_ge0, nI_lt0, nI_add, n00, n11, n01, n10, true_or, or_true, not_true_eq_false, not_false_eq_true, bI_0, bI_z, Nat.le_refl, Nat.lt_irrefl, Nat.reduceLT, Nat.reduceEqDiff, nI_gt0, nI_le0, w2, show ¬ 6 ≤ i by omega, pk_mul, show 6 * a + i < 138 by omega, show 6 * b + i < 138 by omega, n1, n2, n3, n4, n5, n6, e1, e2, e3, e4, lI_sI, lI_sJ, lI_sC, lI_sF, lZ_sI, lZ_sJ, lZ_sC, lZ_sF, lJ_sI, lJ_sJ, lJ_sC, lJ_sF, oC_sI, oC_sJ, oC_sC, oC_sF, oF_sI, oF_sJ, oF_sC, oF_sF, sI_1, sJ_1, sF_1, sC_1, sr_okI, sr_okJ, sr_okR, sr_okZ, hI_sJ, hI_sF, hJ_sI, hJ_sF, hJ_sC, hF_sI, hF_sJ, hF_sC, fI_sI, fI_sJ, fI_sC, fJ_sI, fJ_sJ, fJ_sC, hI_n, hI_y, hJ_n, hJ_y, hF_n, hF_y, fI_n, fI_y, fJ_n, fJ_y, hI_c]
      have g1 : FM a h2 (sI h2 175 (6 * a + i) (hI h 175 (6 * b + i))) := FM_sI (by omega)
      have g2 := g1.tr (FM_sI (r := a) (a := 176) (i := 6 * a + i) (v := hI h 176 (6 * b + i)) (by omega))
      have g3 := g2.tr (FM_sI (r := a) (a := 177) (i := 6 * a + i) (v := hI h 177 (6 * b + i)) (by omega))
      have g4 := g3.tr (FM_sI (r := a) (a := 178) (i := 6 * a + i) (v := hI h 178 (6 * b + i)) (by omega))
      obtain ⟨s0, s1, s2, s3, s4⟩ := st4 (v4 := hI h 178 (6 * b + i)) (arr_11_49 w2).2.1 (arr_11_50 (w2.ss g1.1)).2.1 (arr_11_51 (w2.ss g2.1)).2.1 (arr_11_52 (w2.ss g3.1)).2.1
      have far : ∀ q j, ¬ (175 ≤ q ∧ q ≤ 178) → hI (sI (sI (sI (sI h2 175 (6 * a + i) (hI h 175 (6 * b + i))) 176 (6 * a + i) (hI h 176 (6 * b + i))) 177 (6 * a + i) (hI h 177 (6 * b + i))) 178 (6 * a + i) (hI h 178 (6 * b + i))) q j = hI h2 q j := fun q j hq => by rw [hI_n (by omega), hI_n (by omega), hI_n (by omega), hI_n (by omega)]
      refine next _ ⟨f2.tr g4, fun q h1 h2 => by rw [far q _ (by omega)]; exact k1 q h1 h2, fun q h1 h2 s hs => by rw [far q _ (by omega)]; exact k2 q h1 h2 s hs, fun q h1 h2 p hp => ?_⟩ _ _
      by_cases z : p = i
      · subst z
        rcases q4 (B := 175) h1 h2 with rfl | rfl | rfl | rfl
        · exact s1
        · exact s2
        · exact s3
        · exact s4
      · rw [s0 q _ (by omega)]
        exact k3 q h1 h2 p (by omega)
    · rintro h2 ⟨f2, k1, k2, k3⟩
      intro A B
      rw [lb_213003]
      simp (disch := first | assumption | omega) only [Nat.reduceAdd, Nat.reduceLeDiff, Nat.zero_le, true_and, and_true, ↓reduceIte, wB_const, wB_lconst, wB_ldc, wB_getstatic, wB_dupi, wB_dupr, wB_dup2, wB_popi, wB_iadd, wB_isub, wB_imul, wB_iand, wB_ior, wB_ixor, wB_ishl, wB_ishr, wB_iushr, wB_ineg, wB_ladd, wB_lsub, wB_lmul, wB_land, wB_lneg, wB_i2l, wB_l2i, wB_lcmp, wB_idiv, wB_irem, wB_ldiv, wB_lrem, wB_goto, wB_nop, wB_ifeq, wB_ifne, wB_iflt, wB_ifge, wB_ifgt, wB_ifle, wB_icmpeq, wB_icmpne, wB_icmplt, wB_icmpge, wB_icmpgt, wB_icmple, wB_table, wB_lookup, wB_ireturn, wB_zreturn, wB_lreturn, wB_areturn, wB_return, wB_getf, wB_putf, wB_iald, wB_bald, wB_lald, wB_iast, wB_bast, wB_last, wB_min, wB_max, wB_abs, wB_minl, wB_maxl, wB_absl, wB_obj, wB_copy, wB_charAt, wB_strlen, sr_k1i, sr_k1r, sr_k1U, sr_k1l, sr_ms1, sr_ms0, sr_msn, sr_cs1, sr_csm1, sr_csm2, sr_cl1, sr_cl2, sr_szi, sr_szr, sr_szl, sr_szn, sr_tls, sr_tln, wB_il0, wB_ll0, wB_al0, wB_is0, wB_as0, wB_inc0, wB_ls0, wB_il1, wB_ll1, wB_al1, wB_is1, wB_as1, wB_inc1, wB_ls1, wB_il2, wB_ll2, wB_al2, wB_is2, wB_as2, wB_inc2, wB_ls2, wB_il3, wB_ll3, wB_al3, wB_is3, wB_as3, wB_inc3, wB_ls3, wB_il4, wB_ll4, wB_al4, wB_is4, wB_as4, wB_inc4, wB_ls4, wB_il5, wB_ll5, wB_al5, wB_is5, wB_as5, wB_inc5, wB_ls5, wB_il6, wB_ll6, wB_al6, wB_is6, wB_as6, wB_inc6, wB_ls6, wB_il7, wB_ll7, wB_al7, wB_is7, wB_as7, wB_inc7, wB_ls7, lb_213001, lb_213002, lb_213004, fld_11_42, arr_11_42, fld_11_43, arr_11_43, fld_11_44, arr_11_44, fld_11_45, arr_11_45, fld_11_46, arr_11_46, fld_11_47, arr_11_47, fld_11_48, arr_11_48, fld_11_49, arr_11_49, fld_11_50, arr_11_50, fld_11_51, arr_11_51, fld_11_52, arr_11_52, nI_clamp, inb_nI, nI_leI, nI_ltI, nI_eq, nI_z, nI_ge0, nI_lt0, nI_add, n00, n11, n01, n10, true_or, or_true, not_true_eq_false, not_false_eq_true, bI_0, bI_z, Nat.le_refl, Nat.lt_irrefl, Nat.reduceLT, Nat.reduceEqDiff, nI_gt0, nI_le0]
      exact kk h2 ⟨f2, k1, k2, k3⟩
  have lp1 : ∀ h1, FM a h h1 → (∀ q, 168 ≤ q → q ≤ 170 → hI h1 q a = hI h q b) → sr_W d 213001 [.ref 141, .int (nI a), .int (nI b), .int (nI 0), sr_U, sr_U] [] h1 Q := by
    intro h1 f1 c1
    refine lp_h (W := fun i h => ∀ A B, sr_W d 213001 [.ref 141, .int (nI a), .int (nI b), .int (nI i), A, B] [] h Q) (fun i h' => FM a h h' ∧ (∀ q, 168 ≤ q → q ≤ 170 → hI h' q a = hI h q b) ∧ ∀ q, 171 ≤ q → q ≤ 174 → ∀ s, s < i → hI h' q (5 * a + s) = hI h q (5 * b + s)) 5 ?_ ?_ h1 ⟨f1, c1, fun _ _ _ _ z => absurd z (Nat.not_lt_zero _)⟩ _ _
    · rintro i h2 hi ⟨f2, k1, k2⟩ next
      have w2 := w.ss f2.1
      intro A B
      rw [lb_213001]
      have e : ∀ q, 171 ≤ q → q ≤ 174 → hI h2 q (5 * b + i) = hI h q (5 * b + i) := fun q h1 h2 => f2.2.2.2.2.1 q _ h1 h2 (by omega)
      have n1 : ∀ h v, hI (sI h 171 (5 * a + i) v) 172 (5 * b + i) = hI h 172 (5 * b + i) := fun h v => hI_n (by omega)
      have n2 : ∀ h v, hI (sI h 171 (5 * a + i) v) 173 (5 * b + i) = hI h 173 (5 * b + i) := fun h v => hI_n (by omega)
      have n3 : ∀ h v, hI (sI h 171 (5 * a + i) v) 174 (5 * b + i) = hI h 174 (5 * b + i) := fun h v => hI_n (by omega)
      have n4 : ∀ h v, hI (sI h 172 (5 * a + i) v) 173 (5 * b + i) = hI h 173 (5 * b + i) := fun h v => hI_n (by omega)
      have n5 : ∀ h v, hI (sI h 172 (5 * a + i) v) 174 (5 * b + i) = hI h 174 (5 * b + i) := fun h v => hI_n (by omega)
      have n6 : ∀ h v, hI (sI h 173 (5 * a + i) v) 174 (5 * b + i) = hI h 174 (5 * b + i) := fun h v => hI_n (by omega)
      have e1 := e 171 (by omega) (by omega)
      have e2 := e 172 (by omega) (by omega)
      have e3 := e 173 (by omega) (by omega)
      have e4 := e 174 (by omega) (by omega)
      simp (disch := first | assumption | omega | (simp (disch := assumption) only [sr_szn, sr_szi, sr_szr, sr_szl, Nat.reduceAdd, Nat.reduceLeDiff, Nat.zero_le, Nat.le_refl, isA_sI, isA_sJ, isA_sC, isA_sF, isI_sI, isI_sJ, isI_sC, isI_sF, isJ_sI, isJ_sJ, isJ_sC, isJ_sF, oK_sI, oK_sJ, oK_sC, oK_sF, lI_sI, lI_sJ, lI_sC, lI_sF, oC_sI, oC_sJ, oC_sC, oC_sF, fld_11_42, arr_11_42, fld_11_43, arr_11_43, fld_11_44, arr_11_44, fld_11_45, arr_11_45, fld_11_46, arr_11_46, fld_11_47, arr_11_47, fld_11_48, arr_11_48, fld_11_49, arr_11_49, fld_11_50, arr_11_50, fld_11_51, arr_11_51, fld_11_52, arr_11_52])) only [Nat.reduceAdd, Nat.reduceLeDiff, Nat.zero_le, true_and, and_true, ↓reduceIte, wB_const, wB_lconst, wB_ldc, wB_getstatic, wB_dupi, wB_dupr, wB_dup2, wB_popi, wB_iadd, wB_isub, wB_imul, wB_iand, wB_ior, wB_ixor, wB_ishl, wB_ishr, wB_iushr, wB_ineg, wB_ladd, wB_lsub, wB_lmul, wB_land, wB_lneg, wB_i2l, wB_l2i, wB_lcmp, wB_idiv, wB_irem, wB_ldiv, wB_lrem, wB_goto, wB_nop, wB_ifeq, wB_ifne, wB_iflt, wB_ifge, wB_ifgt, wB_ifle, wB_icmpeq, wB_icmpne, wB_icmplt, wB_icmpge, wB_icmpgt, wB_icmple, wB_table, wB_lookup, wB_ireturn, wB_zreturn, wB_lreturn, wB_areturn, wB_return, wB_getf, wB_putf, wB_iald, wB_bald, wB_lald, wB_iast, wB_bast, wB_last, wB_min, wB_max, wB_abs, wB_minl, wB_maxl, wB_absl, wB_obj, wB_copy, wB_charAt, wB_strlen, sr_k1i, sr_k1r, sr_k1U, sr_k1l, sr_ms1, sr_ms0, sr_msn, sr_cs1, sr_csm1, sr_csm2, sr_cl1, sr_cl2, sr_szi, sr_szr, sr_szl, sr_szn, sr_tls, sr_tln, wB_il0, wB_ll0, wB_al0, wB_is0, wB_as0, wB_inc0, wB_ls0, wB_il1, wB_ll1, wB_al1, wB_is1, wB_as1, wB_inc1, wB_ls1, wB_il2, wB_ll2, wB_al2, wB_is2, wB_as2, wB_inc2, wB_ls2, wB_il3, wB_ll3, wB_al3, wB_is3, wB_as3, wB_inc3, wB_ls3, wB_il4, wB_ll4, wB_al4, wB_is4, wB_as4, wB_inc4, wB_ls4, wB_il5, wB_ll5, wB_al5, wB_is5, wB_as5, wB_inc5, wB_ls5, wB_il6, wB_ll6, wB_al6, wB_is6, wB_as6, wB_inc6, wB_ls6, wB_il7, wB_ll7, wB_al7, wB_is7, wB_as7, wB_inc7, wB_ls7, lb_213002, lb_213003, lb_213004, fld_11_42, arr_11_42, fld_11_43, arr_11_43, fld_11_44, arr_11_44, fld_11_45, arr_11_45, fld_11_46, arr_11_46, fld_11_47, arr_11_47, fld_11_48, arr_11_48, fld_11_49, arr_11_49, fld_11_50, arr_11_50, fld_11_51, arr_11_51, fld_11_52, arr_11_52, nI_clamp, inb_nI, nI_leI, nI_ltI, nI_eq, nI_z, nI_ge0, nI_lt0, nI_add, n00, n11, n01, n10, true_or, or_true, not_true_eq_false, not_false_eq_true, bI_0, bI_z, Nat.le_refl, Nat.lt_irrefl, Nat.reduceLT, Nat.reduceEqDiff, nI_gt0, nI_le0, w2, show ¬ 5 ≤ i by omega, pk_mul, show 5 * a + i < 115 by omega, show 5 * b + i < 115 by omega, n1, n2, n3, n4, n5, n6, e1, e2, e3, e4, lI_sI, lI_sJ, lI_sC, lI_sF, lZ_sI, lZ_sJ, lZ_sC, lZ_sF, lJ_sI, lJ_sJ, lJ_sC, lJ_sF, oC_sI, oC_sJ, oC_sC, oC_sF, oF_sI, oF_sJ, oF_sC, oF_sF, sI_1, sJ_1, sF_1, sC_1, sr_okI, sr_okJ, sr_okR, sr_okZ, hI_sJ, hI_sF, hJ_sI, hJ_sF, hJ_sC, hF_sI, hF_sJ, hF_sC, fI_sI, fI_sJ, fI_sC, fJ_sI, fJ_sJ, fJ_sC, hI_n, hI_y, hJ_n, hJ_y, hF_n, hF_y, fI_n, fI_y, fJ_n, fJ_y, hI_c]
      have g1 : FM a h2 (sI h2 171 (5 * a + i) (hI h 171 (5 * b + i))) := FM_sI (by omega)
      have g2 := g1.tr (FM_sI (r := a) (a := 172) (i := 5 * a + i) (v := hI h 172 (5 * b + i)) (by omega))
      have g3 := g2.tr (FM_sI (r := a) (a := 173) (i := 5 * a + i) (v := hI h 173 (5 * b + i)) (by omega))
      have g4 := g3.tr (FM_sI (r := a) (a := 174) (i := 5 * a + i) (v := hI h 174 (5 * b + i)) (by omega))
      obtain ⟨s0, s1, s2, s3, s4⟩ := st4 (v4 := hI h 174 (5 * b + i)) (arr_11_45 w2).2.1 (arr_11_46 (w2.ss g1.1)).2.1 (arr_11_47 (w2.ss g2.1)).2.1 (arr_11_48 (w2.ss g3.1)).2.1
      have far : ∀ q j, ¬ (171 ≤ q ∧ q ≤ 174) → hI (sI (sI (sI (sI h2 171 (5 * a + i) (hI h 171 (5 * b + i))) 172 (5 * a + i) (hI h 172 (5 * b + i))) 173 (5 * a + i) (hI h 173 (5 * b + i))) 174 (5 * a + i) (hI h 174 (5 * b + i))) q j = hI h2 q j := fun q j hq => by rw [hI_n (by omega), hI_n (by omega), hI_n (by omega), hI_n (by omega)]
      refine next _ ⟨f2.tr g4, fun q h1 h2 => by rw [far q _ (by omega)]; exact k1 q h1 h2, fun q h1 h2 p hp => ?_⟩ _ _
      by_cases z : p = i
      · subst z
        rcases q4 (B := 171) h1 h2 with rfl | rfl | rfl | rfl
        · exact s1
        · exact s2
        · exact s3
        · exact s4
      · rw [s0 q _ (by omega)]
        exact k2 q h1 h2 p (by omega)
    · rintro h2 ⟨f2, k1, k2⟩
      have k := lp2 h2 f2 k1 k2
      intro A B
      rw [lb_213001]
      simp (disch := first | assumption | omega) only [Nat.reduceAdd, Nat.reduceLeDiff, Nat.zero_le, true_and, and_true, ↓reduceIte, wB_const, wB_lconst, wB_ldc, wB_getstatic, wB_dupi, wB_dupr, wB_dup2, wB_popi, wB_iadd, wB_isub, wB_imul, wB_iand, wB_ior, wB_ixor, wB_ishl, wB_ishr, wB_iushr, wB_ineg, wB_ladd, wB_lsub, wB_lmul, wB_land, wB_lneg, wB_i2l, wB_l2i, wB_lcmp, wB_idiv, wB_irem, wB_ldiv, wB_lrem, wB_goto, wB_nop, wB_ifeq, wB_ifne, wB_iflt, wB_ifge, wB_ifgt, wB_ifle, wB_icmpeq, wB_icmpne, wB_icmplt, wB_icmpge, wB_icmpgt, wB_icmple, wB_table, wB_lookup, wB_ireturn, wB_zreturn, wB_lreturn, wB_areturn, wB_return, wB_getf, wB_putf, wB_iald, wB_bald, wB_lald, wB_iast, wB_bast, wB_last, wB_min, wB_max, wB_abs, wB_minl, wB_maxl, wB_absl, wB_obj, wB_copy, wB_charAt, wB_strlen, sr_k1i, sr_k1r, sr_k1U, sr_k1l, sr_ms1, sr_ms0, sr_msn, sr_cs1, sr_csm1, sr_csm2, sr_cl1, sr_cl2, sr_szi, sr_szr, sr_szl, sr_szn, sr_tls, sr_tln, wB_il0, wB_ll0, wB_al0, wB_is0, wB_as0, wB_inc0, wB_ls0, wB_il1, wB_ll1, wB_al1, wB_is1, wB_as1, wB_inc1, wB_ls1, wB_il2, wB_ll2, wB_al2, wB_is2, wB_as2, wB_inc2, wB_ls2, wB_il3, wB_ll3, wB_al3, wB_is3, wB_as3, wB_inc3, wB_ls3, wB_il4, wB_ll4, wB_al4, wB_is4, wB_as4, wB_inc4, wB_ls4, wB_il5, wB_ll5, wB_al5, wB_is5, wB_as5, wB_inc5, wB_ls5, wB_il6, wB_ll6, wB_al6, wB_is6, wB_as6, wB_inc6, wB_ls6, wB_il7, wB_ll7, wB_al7, wB_is7, wB_as7, wB_inc7, wB_ls7, lb_213002, lb_213004, fld_11_42, arr_11_42, fld_11_43, arr_11_43, fld_11_44, arr_11_44, fld_11_45, arr_11_45, fld_11_46, arr_11_46, fld_11_47, arr_11_47, fld_11_48, arr_11_48, fld_11_49, arr_11_49, fld_11_50, arr_11_50, fld_11_51, arr_11_51, fld_11_52, arr_11_52, nI_clamp, inb_nI, nI_leI, nI_ltI, nI_eq, nI_z, nI_ge0, nI_lt0, nI_add, n00, n11, n01, n10, true_or, or_true, not_true_eq_false, not_false_eq_true, bI_0, bI_z, Nat.le_refl, Nat.lt_irrefl, Nat.reduceLT, Nat.reduceEqDiff, nI_gt0, nI_le0]
      exact k
  have n1 : ∀ h v, hI (sI h 168 a v) 169 b = hI h 169 b := fun h v => hI_n (by omega)
  have n2 : ∀ h v, hI (sI h 168 a v) 170 b = hI h 170 b := fun h v => hI_n (by omega)
  have n3 : ∀ h v, hI (sI h 169 a v) 170 b = hI h 170 b := fun h v => hI_n (by omega)
  have g1 : FM a h (sI h 168 a (hI h 168 b)) := FM_sI (by omega)
  have g2 := g1.tr (FM_sI (r := a) (a := 169) (i := a) (v := hI h 169 b) (by omega))
  have g3 := g2.tr (FM_sI (r := a) (a := 170) (i := a) (v := hI h 170 b) (by omega))
  simp (disch := first | assumption | omega | (simp (disch := assumption) only [sr_szn, sr_szi, sr_szr, sr_szl, Nat.reduceAdd, Nat.reduceLeDiff, Nat.zero_le, Nat.le_refl, isA_sI, isA_sJ, isA_sC, isA_sF, isI_sI, isI_sJ, isI_sC, isI_sF, isJ_sI, isJ_sJ, isJ_sC, isJ_sF, oK_sI, oK_sJ, oK_sC, oK_sF, lI_sI, lI_sJ, lI_sC, lI_sF, oC_sI, oC_sJ, oC_sC, oC_sF, fld_11_42, arr_11_42, fld_11_43, arr_11_43, fld_11_44, arr_11_44, fld_11_45, arr_11_45, fld_11_46, arr_11_46, fld_11_47, arr_11_47, fld_11_48, arr_11_48, fld_11_49, arr_11_49, fld_11_50, arr_11_50, fld_11_51, arr_11_51, fld_11_52, arr_11_52])) only [Nat.reduceAdd, Nat.reduceLeDiff, Nat.zero_le, true_and, and_true, ↓reduceIte, wB_const, wB_lconst, wB_ldc, wB_getstatic, wB_dupi, wB_dupr, wB_dup2, wB_popi, wB_iadd, wB_isub, wB_imul, wB_iand, wB_ior, wB_ixor, wB_ishl, wB_ishr, wB_iushr, wB_ineg, wB_ladd, wB_lsub, wB_lmul, wB_land, wB_lneg, wB_i2l, wB_l2i, wB_lcmp, wB_idiv, wB_irem, wB_ldiv, wB_lrem, wB_goto, wB_nop, wB_ifeq, wB_ifne, wB_iflt, wB_ifge, wB_ifgt, wB_ifle, wB_icmpeq, wB_icmpne, wB_icmplt, wB_icmpge, wB_icmpgt, wB_icmple, wB_table, wB_lookup, wB_ireturn, wB_zreturn, wB_lreturn, wB_areturn, wB_return, wB_getf, wB_putf, wB_iald, wB_bald, wB_lald, wB_iast, wB_bast, wB_last, wB_min, wB_max, wB_abs, wB_minl, wB_maxl, wB_absl, wB_obj, wB_copy, wB_charAt, wB_strlen, sr_k1i, sr_k1r, sr_k1U, sr_k1l, sr_ms1, sr_ms0, sr_msn, sr_cs1, sr_csm1, sr_csm2, sr_cl1, sr_cl2, sr_szi, sr_szr, sr_szl, sr_szn, sr_tls, sr_tln, wB_il0, wB_ll0, wB_al0, wB_is0, wB_as0, wB_inc0, wB_ls0, wB_il1, wB_ll1, wB_al1, wB_is1, wB_as1, wB_inc1, wB_ls1, wB_il2, wB_ll2, wB_al2, wB_is2, wB_as2, wB_inc2, wB_ls2, wB_il3, wB_ll3, wB_al3, wB_is3, wB_as3, wB_inc3, wB_ls3, wB_il4, wB_ll4, wB_al4, wB_is4, wB_as4, wB_inc4, wB_ls4, wB_il5, wB_ll5, wB_al5, wB_is5, wB_as5, wB_inc5, wB_ls5, wB_il6, wB_ll6, wB_al6, wB_is6, wB_as6, wB_inc6, wB_ls6, wB_il7, wB_ll7, wB_al7, wB_is7, wB_as7, wB_inc7, wB_ls7, lb_213002, lb_213003, lb_213004, fld_11_42, arr_11_42, fld_11_43, arr_11_43, fld_11_44, arr_11_44, fld_11_45, arr_11_45, fld_11_46, arr_11_46, fld_11_47, arr_11_47, fld_11_48, arr_11_48, fld_11_49, arr_11_49, fld_11_50, arr_11_50, fld_11_51, arr_11_51, fld_11_52, arr_11_52, nI_clamp, inb_nI, nI_leI, nI_ltI, nI_eq, nI_z, nI_ge0, nI_lt0, nI_add, n00, n11, n01, n10, true_or, or_true, not_true_eq_false, not_false_eq_true, bI_0, bI_z, Nat.le_refl, Nat.lt_irrefl, Nat.reduceLT, Nat.reduceEqDiff, nI_gt0, nI_le0, en_213, w, ha, hb, n1, n2, n3, lI_sI, lI_sJ, lI_sC, lI_sF, lZ_sI, lZ_sJ, lZ_sC, lZ_sF, lJ_sI, lJ_sJ, lJ_sC, lJ_sF, oC_sI, oC_sJ, oC_sC, oC_sF, oF_sI, oF_sJ, oF_sC, oF_sF, sI_1, sJ_1, sF_1, sC_1, sr_okI, sr_okJ, sr_okR, sr_okZ, hI_sJ, hI_sF, hJ_sI, hJ_sF, hJ_sC, hF_sI, hF_sJ, hF_sC, fI_sI, fI_sJ, fI_sC, fJ_sI, fJ_sJ, fJ_sC, hI_n, hI_y, hJ_n, hJ_y, hF_n, hF_y, fI_n, fI_y, fJ_n, fJ_y, hI_c]
  refine lp1 _ g3 (fun q h1 h2 => ?_)
  have : q = 168 ∨ q = 169 ∨ q = 170 := by omega
  rcases this with rfl | rfl | rfl
  · rw [hI_n (by omega), hI_n (by omega)]; exact hI_y (arr_11_42 w).2.1
  · rw [hI_n (by omega)]; exact hI_y (arr_11_43 (w.ss g1.1)).2.1
  · exact hI_y (arr_11_44 (w.ss g2.1)).2.1
