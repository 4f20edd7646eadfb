/-! Judge: where a screen stands best. -/
/-- bits without screen s -/
def wob (b s : Nat) : Nat := if b / 2 ^ s % 2 = 1 then b - 2 ^ s else b
theorem wob_ok : ∀ b, b < 32 → ∀ s, s < 5 → nI b &&& (nI 1 <<< (nI s &&& 31) ^^^ -1) = nI (wob b s) ∧ wob b s < 32 ∧ (∀ j, j < 5 → (wob b s / 2 ^ j % 2 = 1 ↔ ¬ j = s ∧ b / 2 ^ j % 2 = 1)) := by decide +kernel
theorem nr_s {y : V} {b r c n : Nat} : nrN y b r c (n + 1) = if b / 2 ^ n % 2 = 1 ∧ far y n r c < (nrN y b r c n).2 then (n + 1, far y n r c) else nrN y b r c n := rfl
theorem nr_two {y : V} {b b' s r c : Nat} (hb : ∀ j, j < xN y → (b' / 2 ^ j % 2 = 1 ↔ ¬ j = s ∧ b / 2 ^ j % 2 = 1)) (hs : b / 2 ^ s % 2 = 1) : ∀ n, n ≤ xN y → nrN y b r c n = if s < n ∧ (far y s r c < (nrN y b' r c n).2 ∨ (far y s r c = (nrN y b' r c n).2 ∧ s + 1 < (nrN y b' r c n).1)) then (s + 1, far y s r c) else nrN y b' r c n
  | 0, _ => by
    rw [if_neg (by omega)]
    rfl
  | n + 1, hn => by
    have ih := nr_two hb hs (r := r) (c := c) n (by omega)
    have hg := (nr_le (x := y) (b := b') (r := r) (c := c) n).2
    have hbn := hb n (by omega)
    rw [nr_s, nr_s, ih]
    generalize nrN y b' r c n = G at *
    obtain ⟨g, f⟩ := G
    dsimp only at *
    by_cases e : n = s
    · subst e
      have h1 : ¬ b' / 2 ^ n % 2 = 1 := fun z => (hbn.mp z).1 rfl
      rw [if_neg (c := n < n ∧ _) (by omega), if_neg (c := b' / 2 ^ n % 2 = 1 ∧ _) (fun z => h1 z.1)]
      dsimp only
      by_cases q : far y n r c < f
      · rw [if_pos ⟨hs, q⟩, if_pos ⟨by omega, Or.inl q⟩]
      · rw [if_neg (fun z => q z.2), if_neg (by omega)]
    · by_cases e2 : s < n
      · by_cases bt : b / 2 ^ n % 2 = 1
        · have bt' : b' / 2 ^ n % 2 = 1 := hbn.mpr ⟨e, bt⟩
          by_cases c1 : far y n r c < f
          · rw [if_pos (c := b' / 2 ^ n % 2 = 1 ∧ _) ⟨bt', c1⟩]
            dsimp only
            by_cases c2 : far y s r c < f ∨ (far y s r c = f ∧ s + 1 < g)
            · rw [if_pos (c := s < n ∧ _) ⟨e2, c2⟩]
              dsimp only
              by_cases c3 : far y n r c < far y s r c
              · rw [if_pos ⟨bt, c3⟩, if_neg (by omega)]
              · rw [if_neg (fun z => c3 z.2), if_pos (by omega)]
            · rw [if_neg (c := s < n ∧ _) (fun z => c2 z.2)]
              dsimp only
              rw [if_pos ⟨bt, c1⟩, if_neg (by omega)]
          · rw [if_neg (c := b' / 2 ^ n % 2 = 1 ∧ _) (fun z => c1 z.2)]
            dsimp only
            by_cases c2 : far y s r c < f ∨ (far y s r c = f ∧ s + 1 < g)
            · rw [if_pos (c := s < n ∧ _) ⟨e2, c2⟩]
              dsimp only
              rw [if_neg (by omega), if_pos ⟨by omega, c2⟩]
            · rw [if_neg (c := s < n ∧ _) (fun z => c2 z.2)]
              dsimp only
              rw [if_neg (fun z => c1 z.2), if_neg (fun z => c2 z.2)]
        · have bt' : ¬ b' / 2 ^ n % 2 = 1 := fun z => bt (hbn.mp z).2
          rw [if_neg (c := b' / 2 ^ n % 2 = 1 ∧ _) (fun z => bt' z.1)]
          dsimp only
          rw [if_neg (c := b / 2 ^ n % 2 = 1 ∧ _) (fun z => bt z.1)]
          by_cases c2 : far y s r c < f ∨ (far y s r c = f ∧ s + 1 < g)
          · rw [if_pos ⟨e2, c2⟩, if_pos ⟨by omega, c2⟩]
          · rw [if_neg (fun z => c2 z.2), if_neg (fun z => c2 z.2)]
      · have hbb : (b / 2 ^ n % 2 = 1) ↔ (b' / 2 ^ n % 2 = 1) := ⟨fun z => hbn.mpr ⟨e, z⟩, fun z => (hbn.mp z).2⟩
        rw [if_neg (c := s < n ∧ _) (fun z => e2 z.1), if_neg (c := s < n + 1 ∧ _) (by omega)]
        dsimp only
        simp only [hbb]
theorem nr_f {x : V} {b r c : Nat} : ∀ n, (nrN x b r c n).2 = if (nrN x b r c n).1 = 0 then 1000 else far x ((nrN x b r c n).1 - 1) r c
  | 0 => rfl
  | n + 1 => by
    have ih := nr_f (x := x) (b := b) (r := r) (c := c) n
    rw [nr_s]
    by_cases q : b / 2 ^ n % 2 = 1 ∧ far x n r c < (nrN x b r c n).2
    · rw [if_pos q]
      dsimp only
      rw [if_neg (by omega)]
      rfl
    · rw [if_neg q]
      exact ih
/-- rows of all screens but one -/
def oth (x y : V) (s : Nat) : Prop := ∀ j, 1 ≤ j → j ≤ 6 → ∀ o, ¬ o = s → y j o = x j o
theorem far_o {x y : V} {s o r c : Nat} (e : oth x y s) (ho : ¬ o = s) : far y o r c = far x o r c := by
  have : ∀ n, farN y o r c n = farN x o r c n := by
    intro n
    induction n with
    | zero => rfl
    | succ n ih =>
      unfold farN
      rw [ih]
      unfold lfD lfR lfC sR sK sD sW
      rw [e 2 (by omega) (by omega) o ho, e 3 (by omega) (by omega) o ho, e 5 (by omega) (by omega) o ho, e 6 (by omega) (by omega) o ho]
  unfold far
  rw [this, sL, sL, e 4 (by omega) (by omega) o ho]
theorem nr_w {x y : V} {b s r c : Nat} (e : oth x y s) (hb : ¬ b / 2 ^ s % 2 = 1) : ∀ n, nrN y b r c n = nrN x b r c n
  | 0 => rfl
  | n + 1 => by
    have ih := nr_w e hb (r := r) (c := c) n
    rw [nr_s, nr_s, ih]
    by_cases q : n = s
    · subst q
      rw [if_neg (fun z => hb z.1), if_neg (fun z => hb z.1)]
    · rw [far_o e q]
theorem oth_plc {x : V} {s r c dn : Nat} : oth x (plc x s r c dn) s := by
  intro j h1 h2 o ho
  unfold plc
  rw [vs_n (fun z => ho z.2), vs_n (fun z => ho z.2), vs_n (fun z => ho z.2)]
/-- the others' nearest, for each of folk -/
def JR (h : sr_H) (x : V) (s : Nat) : Prop := ∀ p, p < xF x → hI h 135 p = oI (nrN x (wob (xP x) s) (pR x p) (pC x p) (xN x)).1 ∧ hI h 136 p = nI (nrN x (wob (xP x) s) (pR x p) (pC x p) (xN x)).2
set_option maxHeartbeats 4000000 in
set_option maxRecDepth 100000 in
theorem m_findRivals {d B s : Nat} {h : sr_H} {Q : sr_T} {x : V} (w : Jdg h) (wr : Rm h B) (hB : B + 15 < 130) (hx : Wr x) (rp : RC h B x) (hs : s < xN x) (kk : ∀ h', Fr h h' (fun a => a = 135 ∨ a = 136) → JR h' x s → Q none h') : sr_M (d + 3) 20 [.ref 134, .ref B, .int (nI s)] h Q := by
  have hN := hx.1.2.2.1
  have hF := hx.2.1
  have hP := hx.1.2.2.2.1
  have hR := hx.1.1
  have hC := hx.1.2.1
  obtain ⟨o1, o2, o3⟩ := wob_ok (xP x) hP s (by omega)
  simp (disch := first | assumption | omega) only [Nat.reduceAdd, Nat.reduceLeDiff, Nat.zero_le, true_and, and_true, ↓reduceIte, wB_const, wB_lconst, wB_ldc, wB_getstatic, wB_dupi, wB_dupr, wB_dup2, wB_popi, wB_iadd, wB_isub, wB_imul, wB_iand, wB_ior, wB_ixor, wB_ishl, wB_ishr, wB_iushr, wB_ineg, wB_ladd, wB_lsub, wB_lmul, wB_land, wB_lneg, wB_i2l, wB_l2i, wB_lcmp, wB_idiv, wB_irem, wB_ldiv, wB_lrem, wB_goto, wB_nop, wB_ifeq, wB_ifne, wB_iflt, wB_ifge, wB_ifgt, wB_ifle, wB_icmpeq, wB_icmpne, wB_icmplt, wB_icmpge, wB_icmpgt, wB_icmple, wB_table, wB_lookup, wB_ireturn, wB_zreturn, wB_lreturn, wB_areturn, wB_return, wB_getf, wB_putf, wB_iald, wB_bald, wB_lald, wB_iast, wB_bast, wB_last, wB_min, wB_max, wB_abs, wB_minl, wB_maxl, wB_absl, wB_obj, wB_copy, wB_charAt, wB_strlen, sr_k1i, sr_k1r, sr_k1U, sr_k1l, sr_ms1, sr_ms0, sr_msn, sr_cs1, sr_csm1, sr_csm2, sr_cl1, sr_cl2, sr_szi, sr_szr, sr_szl, sr_szn, sr_tls, sr_tln, wB_il0, wB_ll0, wB_al0, wB_is0, wB_as0, wB_inc0, wB_ls0, wB_il1, wB_ll1, wB_al1, wB_is1, wB_as1, wB_inc1, wB_ls1, wB_il2, wB_ll2, wB_al2, wB_is2, wB_as2, wB_inc2, wB_ls2, wB_il3, wB_ll3, wB_al3, wB_is3, wB_as3, wB_inc3, wB_ls3, wB_il4, wB_ll4, wB_al4, wB_is4, wB_as4, wB_inc4, wB_ls4, wB_il5, wB_ll5, wB_al5, wB_is5, wB_as5, wB_inc5, wB_ls5, wB_il6, wB_ll6, wB_al6, wB_is6, wB_as6, wB_inc6, wB_ls6, wB_il7, wB_ll7, wB_al7, wB_is7, wB_as7, wB_inc7, wB_ls7, lb_20002, lb_20004, cl_99, cl_98, obj_6, fld_5_0, fld_5_1, fld_6_3, fld_5_3, arr_5_3, fld_5_4, arr_5_4, fld_1_4, arr_1_4, fld_1_5, arr_1_5, nI_clamp, inb_nI, nI_leI, nI_ltI, nI_eq, nI_z, nI_ge0, nI_lt0, nI_add, n00, n11, n01, n10, true_or, or_true, not_true_eq_false, not_false_eq_true, bI_0, bI_z, Nat.le_refl, Nat.lt_irrefl, Nat.reduceLT, Nat.reduceEqDiff, nI_gt0, nI_le0, en_20, wr]
  refine lp_h (W := fun i h => sr_W (d + 2) 20001 [.ref 134, .ref B, .int (nI s), .ref (B + 1), .int (nI i), sr_U] [] h Q) (fun i h' => Fr h h' (fun a => a = 135 ∨ a = 136) ∧ ∀ p, p < i → hI h' 135 p = oI (nrN x (wob (xP x) s) (pR x p) (pC x p) (xN x)).1 ∧ hI h' 136 p = nI (nrN x (wob (xP x) s) (pR x p) (pC x p) (xN x)).2) (xF x) ?_ ?_ h ⟨Fr.rf, fun p hp => by omega⟩
  · rintro i h1 hi ⟨f1, j1⟩ next
    have w1 := w.ss f1.1
    have wr1 := wr.ss f1.1
    have ws1 := sub_5_screens wr1
    have r1 : RC h1 B x := RC_of rp (fun a h1 h2 => f1.2 a (by omega))
    have e1 := r1.2.1
    have e3 := r1.1.2.2.2.1
    have hlt : ¬ xF x ≤ i := by omega
    obtain ⟨b1, b2, b3, b4, b5⟩ := r1.2.2.2.2.2 i hi
    obtain ⟨g1, g2, g3, g4, g5⟩ := hx.2.2.2.2 i hi
    have i6 : i < 6 := by omega
    have hgv := nr_le (x := x) (b := wob (xP x) s) (r := pR x i) (c := pC x i) (xN x)
    have hnf := nr_f (x := x) (b := wob (xP x) s) (r := pR x i) (c := pC x i) (xN x)
    have fin : ∀ (u5 : Value) v, v = nI (nrN x (wob (xP x) s) (pR x i) (pC x i) (xN x)).2 → sr_W (d + 2) 20003 [.ref 134, .ref B, .int (nI s), .ref (B + 1), .int (nI i), u5] [.int v, .int (nI i), .ref 136] (sI h1 135 i (oI (nrN x (wob (xP x) s) (pR x i) (pC x i) (xN x)).1)) Q := by
      intro u5 v hv
      rw [lb_20003]
      simp (disch := first | assumption | omega | (simp (disch := assumption) only [sr_szn, sr_szi, sr_szr, sr_szl, Nat.reduceAdd, Nat.reduceLeDiff, Nat.zero_le, Nat.le_refl, isA_sI, isA_sJ, isA_sC, isA_sF, isI_sI, isI_sJ, isI_sC, isI_sF, isJ_sI, isJ_sJ, isJ_sC, isJ_sF, oK_sI, oK_sJ, oK_sC, oK_sF, lI_sI, lI_sJ, lI_sC, lI_sF, oC_sI, oC_sJ, oC_sC, oC_sF, obj_6, fld_5_0, fld_5_1, fld_6_3, fld_5_3, arr_5_3, fld_5_4, arr_5_4, fld_1_4, arr_1_4, fld_1_5, arr_1_5])) only [Nat.reduceAdd, Nat.reduceLeDiff, Nat.zero_le, true_and, and_true, ↓reduceIte, wB_const, wB_lconst, wB_ldc, wB_getstatic, wB_dupi, wB_dupr, wB_dup2, wB_popi, wB_iadd, wB_isub, wB_imul, wB_iand, wB_ior, wB_ixor, wB_ishl, wB_ishr, wB_iushr, wB_ineg, wB_ladd, wB_lsub, wB_lmul, wB_land, wB_lneg, wB_i2l, wB_l2i, wB_lcmp, wB_idiv, wB_irem, wB_ldiv, wB_lrem, wB_goto, wB_nop, wB_ifeq, wB_ifne, wB_iflt, wB_ifge, wB_ifgt, wB_ifle, wB_icmpeq, wB_icmpne, wB_icmplt, wB_icmpge, wB_icmpgt, wB_icmple, wB_table, wB_lookup, wB_ireturn, wB_zreturn, wB_lreturn, wB_areturn, wB_return, wB_getf, wB_putf, wB_iald, wB_bald, wB_lald, wB_iast, wB_bast, wB_last, wB_min, wB_max, wB_abs, wB_minl, wB_maxl, wB_absl, wB_obj, wB_copy, wB_charAt, wB_strlen, sr_k1i, sr_k1r, sr_k1U, sr_k1l, sr_ms1, sr_ms0, sr_msn, sr_cs1, sr_csm1, sr_csm2, sr_cl1, sr_cl2, sr_szi, sr_szr, sr_szl, sr_szn, sr_tls, sr_tln, wB_il0, wB_ll0, wB_al0, wB_is0, wB_as0, wB_inc0, wB_ls0, wB_il1, wB_ll1, wB_al1, wB_is1, wB_as1, wB_inc1, wB_ls1, wB_il2, wB_ll2, wB_al2, wB_is2, wB_as2, wB_inc2, wB_ls2, wB_il3, wB_ll3, wB_al3, wB_is3, wB_as3, wB_inc3, wB_ls3, wB_il4, wB_ll4, wB_al4, wB_is4, wB_as4, wB_inc4, wB_ls4, wB_il5, wB_ll5, wB_al5, wB_is5, wB_as5, wB_inc5, wB_ls5, wB_il6, wB_ll6, wB_al6, wB_is6, wB_as6, wB_inc6, wB_ls6, wB_il7, wB_ll7, wB_al7, wB_is7, wB_as7, wB_inc7, wB_ls7, lb_20002, lb_20004, cl_99, cl_98, obj_6, fld_5_0, fld_5_1, fld_6_3, fld_5_3, arr_5_3, fld_5_4, arr_5_4, fld_1_4, arr_1_4, fld_1_5, arr_1_5, nI_clamp, inb_nI, nI_leI, nI_ltI, nI_eq, nI_z, nI_ge0, nI_lt0, nI_add, n00, n11, n01, n10, true_or, or_true, not_true_eq_false, not_false_eq_true, bI_0, bI_z, Nat.le_refl, Nat.lt_irrefl, Nat.reduceLT, Nat.reduceEqDiff, nI_gt0, nI_le0, w1, i6, lI_sI, lI_sJ, lI_sC, lI_sF, lZ_sI, lZ_sJ, lZ_sC, lZ_sF, lJ_sI, lJ_sJ, lJ_sC, lJ_sF, oC_sI, oC_sJ, oC_sC, oC_sF, oF_sI, oF_sJ, oF_sC, oF_sF, sI_1, sJ_1, sF_1, sC_1, sr_okI, sr_okJ, sr_okR, sr_okZ, hI_sJ, hI_sF, hJ_sI, hJ_sF, hJ_sC, hF_sI, hF_sJ, hF_sC, fI_sI, fI_sJ, fI_sC, fJ_sI, fJ_sJ, fJ_sC, hI_n, hI_y, hJ_n, hJ_y, hF_n, hF_y, fI_n, fI_y, fJ_n, fJ_y, hI_c]
      refine next _ ⟨Fr_sI (Fr_sI f1 (Or.inl rfl)) (Or.inr rfl), fun p hp => ?_⟩
      by_cases z : p = i
      · subst z
        rw [hI_n (by omega), hI_y (arr_1_4 w1).2.1, hI_y (isA_sI.mpr (arr_1_5 w1).2.1)]
        exact ⟨rfl, hv⟩
      · rw [hI_n (by omega), hI_n (by omega), hI_n (by omega), hI_n (by omega)]
        exact j1 p (by omega)
    have m1 := fun (Q : sr_T) => m_nearestOf (d := d) (Q := Q) ws1 hx.1 r1.1 (show wob (xP x) s < 2 ^ 31 by omega) (show pR x i < 64 by omega) (show pC x i < 64 by omega)
    rw [lb_20001]
    unfold giv at m1
    by_cases z : (nrN x (wob (xP x) s) (pR x i) (pC x i) (xN x)).1 = 0
    · rw [if_pos z] at hnf
      rw [z] at m1 fin
      simp (disch := first | assumption | omega | (simp (disch := assumption) only [sr_szn, sr_szi, sr_szr, sr_szl, Nat.reduceAdd, Nat.reduceLeDiff, Nat.zero_le, Nat.le_refl, isA_sI, isA_sJ, isA_sC, isA_sF, isI_sI, isI_sJ, isI_sC, isI_sF, isJ_sI, isJ_sJ, isJ_sC, isJ_sF, oK_sI, oK_sJ, oK_sC, oK_sF, lI_sI, lI_sJ, lI_sC, lI_sF, oC_sI, oC_sJ, oC_sC, oC_sF, obj_6, fld_5_0, fld_5_1, fld_6_3, fld_5_3, arr_5_3, fld_5_4, arr_5_4, fld_1_4, arr_1_4, fld_1_5, arr_1_5])) only [Nat.reduceAdd, Nat.reduceLeDiff, Nat.zero_le, true_and, and_true, ↓reduceIte, wB_const, wB_lconst, wB_ldc, wB_getstatic, wB_dupi, wB_dupr, wB_dup2, wB_popi, wB_iadd, wB_isub, wB_imul, wB_iand, wB_ior, wB_ixor, wB_ishl, wB_ishr, wB_iushr, wB_ineg, wB_ladd, wB_lsub, wB_lmul, wB_land, wB_lneg, wB_i2l, wB_l2i, wB_lcmp, wB_idiv, wB_irem, wB_ldiv, wB_lrem, wB_goto, wB_nop, wB_ifeq, wB_ifne, wB_iflt, wB_ifge, wB_ifgt, wB_ifle, wB_icmpeq, wB_icmpne, wB_icmplt, wB_icmpge, wB_icmpgt, wB_icmple, wB_table, wB_lookup, wB_ireturn, wB_zreturn, wB_lreturn, wB_areturn, wB_return, wB_getf, wB_putf, wB_iald, wB_bald, wB_lald, wB_iast, wB_bast, wB_last, wB_min, wB_max, wB_abs, wB_minl, wB_maxl, wB_absl, wB_obj, wB_copy, wB_charAt, wB_strlen, sr_k1i, sr_k1r, sr_k1U, sr_k1l, sr_ms1, sr_ms0, sr_msn, sr_cs1, sr_csm1, sr_csm2, sr_cl1, sr_cl2, sr_szi, sr_szr, sr_szl, sr_szn, sr_tls, sr_tln, wB_il0, wB_ll0, wB_al0, wB_is0, wB_as0, wB_inc0, wB_ls0, wB_il1, wB_ll1, wB_al1, wB_is1, wB_as1, wB_inc1, wB_ls1, wB_il2, wB_ll2, wB_al2, wB_is2, wB_as2, wB_inc2, wB_ls2, wB_il3, wB_ll3, wB_al3, wB_is3, wB_as3, wB_inc3, wB_ls3, wB_il4, wB_ll4, wB_al4, wB_is4, wB_as4, wB_inc4, wB_ls4, wB_il5, wB_ll5, wB_al5, wB_is5, wB_as5, wB_inc5, wB_ls5, wB_il6, wB_ll6, wB_al6, wB_is6, wB_as6, wB_inc6, wB_ls6, wB_il7, wB_ll7, wB_al7, wB_is7, wB_as7, wB_inc7, wB_ls7, lb_20002, lb_20004, cl_99, cl_98, obj_6, fld_5_0, fld_5_1, fld_6_3, fld_5_3, arr_5_3, fld_5_4, arr_5_4, fld_1_4, arr_1_4, fld_1_5, arr_1_5, nI_clamp, inb_nI, nI_leI, nI_ltI, nI_eq, nI_z, nI_ge0, nI_lt0, nI_add, n00, n11, n01, n10, true_or, or_true, not_true_eq_false, not_false_eq_true, bI_0, bI_z, Nat.le_refl, Nat.lt_irrefl, Nat.reduceLT, Nat.reduceEqDiff, nI_gt0, nI_le0, w1, wr1, ws1, e1, e3, hlt, i6, b2, b3, o1, m1, oI_00, lb_20002, lI_sI, lI_sJ, lI_sC, lI_sF, lZ_sI, lZ_sJ, lZ_sC, lZ_sF, lJ_sI, lJ_sJ, lJ_sC, lJ_sF, oC_sI, oC_sJ, oC_sC, oC_sF, oF_sI, oF_sJ, oF_sC, oF_sF, sI_1, sJ_1, sF_1, sC_1, sr_okI, sr_okJ, sr_okR, sr_okZ, hI_sJ, hI_sF, hJ_sI, hJ_sF, hJ_sC, hF_sI, hF_sJ, hF_sC, fI_sI, fI_sJ, fI_sC, fJ_sI, fJ_sJ, fJ_sC, hI_n, hI_y, hJ_n, hJ_y, hF_n, hF_y, fI_n, fI_y, fJ_n, fJ_y, hI_c]
      refine fin _ _ ?_
      rw [hnf]
    · obtain ⟨g, hg⟩ : ∃ g, (nrN x (wob (xP x) s) (pR x i) (pC x i) (xN x)).1 = g + 1 := ⟨(nrN x (wob (xP x) s) (pR x i) (pC x i) (xN x)).1 - 1, by omega⟩
      rw [if_neg z, hg] at hnf
      rw [hg] at m1 fin
      have ws2 : Scr (sI h1 135 i (nI g)) (B + 1) := ws1.ss (SS_sI _ _ _ _)
      have r2 : SC (sI h1 135 i (nI g)) (B + 1) x := SC_of r1.1 (fun k hk => fI_sI) (fun j _ _ => sI_ne (by omega))
      have m2 := fun (Q : sr_T) => m_farFrom (d := d + 1) (Q := Q) ws2 hx.1 r2 (show g < xN x by omega) (show pR x i < 64 by omega) (show pC x i < 64 by omega)
      rw [oI_s] at fin
      simp (disch := first | assumption | omega | (simp (disch := assumption) only [sr_szn, sr_szi, sr_szr, sr_szl, Nat.reduceAdd, Nat.reduceLeDiff, Nat.zero_le, Nat.le_refl, isA_sI, isA_sJ, isA_sC, isA_sF, isI_sI, isI_sJ, isI_sC, isI_sF, isJ_sI, isJ_sJ, isJ_sC, isJ_sF, oK_sI, oK_sJ, oK_sC, oK_sF, lI_sI, lI_sJ, lI_sC, lI_sF, oC_sI, oC_sJ, oC_sC, oC_sF, obj_6, fld_5_0, fld_5_1, fld_6_3, fld_5_3, arr_5_3, fld_5_4, arr_5_4, fld_1_4, arr_1_4, fld_1_5, arr_1_5])) only [Nat.reduceAdd, Nat.reduceLeDiff, Nat.zero_le, true_and, and_true, ↓reduceIte, wB_const, wB_lconst, wB_ldc, wB_getstatic, wB_dupi, wB_dupr, wB_dup2, wB_popi, wB_iadd, wB_isub, wB_imul, wB_iand, wB_ior, wB_ixor, wB_ishl, wB_ishr, wB_iushr, wB_ineg, wB_ladd, wB_lsub, wB_lmul, wB_land, wB_lneg, wB_i2l, wB_l2i, wB_lcmp, wB_idiv, wB_irem, wB_ldiv, wB_lrem, wB_goto, wB_nop, wB_ifeq, wB_ifne, wB_iflt, wB_ifge, wB_ifgt, wB_ifle, wB_icmpeq, wB_icmpne, wB_icmplt, wB_icmpge, wB_icmpgt, wB_icmple, wB_table, wB_lookup, wB_ireturn, wB_zreturn, wB_lreturn, wB_areturn, wB_return, wB_getf, wB_putf, wB_iald, wB_bald, wB_lald, wB_iast, wB_bast, wB_last, wB_min, wB_max, wB_abs, wB_minl, wB_maxl, wB_absl, wB_obj, wB_copy, wB_charAt, wB_strlen, sr_k1i, sr_k1r, sr_k1U, sr_k1l, sr_ms1, sr_ms0, sr_msn, sr_cs1, sr_csm1, sr_csm2, sr_cl1, sr_cl2, sr_szi, sr_szr, sr_szl, sr_szn, sr_tls, sr_tln, wB_il0, wB_ll0, wB_al0, wB_is0, wB_as0, wB_inc0, wB_ls0, wB_il1, wB_ll1, wB_al1, wB_is1, wB_as1, wB_inc1, wB_ls1, wB_il2, wB_ll2, wB_al2, wB_is2, wB_as2, wB_inc2, wB_ls2, wB_il3, wB_ll3, wB_al3, wB_is3, wB_as3, wB_inc3, wB_ls3, wB_il4, wB_ll4, wB_al4, wB_is4, wB_as4, wB_inc4, wB_ls4, wB_il5, wB_ll5, wB_al5, wB_is5, wB_as5, wB_inc5, wB_ls5, wB_il6, wB_ll6, wB_al6, wB_is6, wB_as6, wB_inc6, wB_ls6, wB_il7, wB_ll7, wB_al7, wB_is7, wB_as7, wB_inc7, wB_ls7, lb_20002, lb_20004, cl_99, cl_98, obj_6, fld_5_0, fld_5_1, fld_6_3, fld_5_3, arr_5_3, fld_5_4, arr_5_4, fld_1_4, arr_1_4, fld_1_5, arr_1_5, nI_clamp, inb_nI, nI_leI, nI_ltI, nI_eq, nI_z, nI_ge0, nI_lt0, nI_add, n00, n11, n01, n10, true_or, or_true, not_true_eq_false, not_false_eq_true, bI_0, bI_z, Nat.le_refl, Nat.lt_irrefl, Nat.reduceLT, Nat.reduceEqDiff, nI_gt0, nI_le0, w1, wr1, ws1, e1, e3, hlt, i6, b2, b3, o1, m1, oI_s, m2, lI_sI, lI_sJ, lI_sC, lI_sF, lZ_sI, lZ_sJ, lZ_sC, lZ_sF, lJ_sI, lJ_sJ, lJ_sC, lJ_sF, oC_sI, oC_sJ, oC_sC, oC_sF, oF_sI, oF_sJ, oF_sC, oF_sF, sI_1, sJ_1, sF_1, sC_1, sr_okI, sr_okJ, sr_okR, sr_okZ, hI_sJ, hI_sF, hJ_sI, hJ_sF, hJ_sC, hF_sI, hF_sJ, hF_sC, fI_sI, fI_sJ, fI_sC, fJ_sI, fJ_sJ, fJ_sC, hI_n, hI_y, hJ_n, hJ_y, hF_n, hF_y, fI_n, fI_y, fJ_n, fJ_y, hI_c]
      refine fin _ _ ?_
      rw [hnf]
      rfl
  · rintro h1 ⟨f1, j1⟩
    have wr1 := wr.ss f1.1
    have r1 : RC h1 B x := RC_of rp (fun a h1 h2 => f1.2 a (by omega))
    have e1 := r1.2.1
    rw [lb_20001]
    simp (disch := first | assumption | omega) only [Nat.reduceAdd, Nat.reduceLeDiff, Nat.zero_le, true_and, and_true, ↓reduceIte, wB_const, wB_lconst, wB_ldc, wB_getstatic, wB_dupi, wB_dupr, wB_dup2, wB_popi, wB_iadd, wB_isub, wB_imul, wB_iand, wB_ior, wB_ixor, wB_ishl, wB_ishr, wB_iushr, wB_ineg, wB_ladd, wB_lsub, wB_lmul, wB_land, wB_lneg, wB_i2l, wB_l2i, wB_lcmp, wB_idiv, wB_irem, wB_ldiv, wB_lrem, wB_goto, wB_nop, wB_ifeq, wB_ifne, wB_iflt, wB_ifge, wB_ifgt, wB_ifle, wB_icmpeq, wB_icmpne, wB_icmplt, wB_icmpge, wB_icmpgt, wB_icmple, wB_table, wB_lookup, wB_ireturn, wB_zreturn, wB_lreturn, wB_areturn, wB_return, wB_getf, wB_putf, wB_iald, wB_bald, wB_lald, wB_iast, wB_bast, wB_last, wB_min, wB_max, wB_abs, wB_minl, wB_maxl, wB_absl, wB_obj, wB_copy, wB_charAt, wB_strlen, sr_k1i, sr_k1r, sr_k1U, sr_k1l, sr_ms1, sr_ms0, sr_msn, sr_cs1, sr_csm1, sr_csm2, sr_cl1, sr_cl2, sr_szi, sr_szr, sr_szl, sr_szn, sr_tls, sr_tln, wB_il0, wB_ll0, wB_al0, wB_is0, wB_as0, wB_inc0, wB_ls0, wB_il1, wB_ll1, wB_al1, wB_is1, wB_as1, wB_inc1, wB_ls1, wB_il2, wB_ll2, wB_al2, wB_is2, wB_as2, wB_inc2, wB_ls2, wB_il3, wB_ll3, wB_al3, wB_is3, wB_as3, wB_inc3, wB_ls3, wB_il4, wB_ll4, wB_al4, wB_is4, wB_as4, wB_inc4, wB_ls4, wB_il5, wB_ll5, wB_al5, wB_is5, wB_as5, wB_inc5, wB_ls5, wB_il6, wB_ll6, wB_al6, wB_is6, wB_as6, wB_inc6, wB_ls6, wB_il7, wB_ll7, wB_al7, wB_is7, wB_as7, wB_inc7, wB_ls7, lb_20002, lb_20004, cl_99, cl_98, obj_6, fld_5_0, fld_5_1, fld_6_3, fld_5_3, arr_5_3, fld_5_4, arr_5_4, fld_1_4, arr_1_4, fld_1_5, arr_1_5, nI_clamp, inb_nI, nI_leI, nI_ltI, nI_eq, nI_z, nI_ge0, nI_lt0, nI_add, n00, n11, n01, n10, true_or, or_true, not_true_eq_false, not_false_eq_true, bI_0, bI_z, Nat.le_refl, Nat.lt_irrefl, Nat.reduceLT, Nat.reduceEqDiff, nI_gt0, nI_le0, wr1, e1]
    exact kk h1 f1 j1
theorem oI_leN {g s : Nat} (hg : g < 2 ^ 31) (hs : s < 2 ^ 31) : oI g ≤ nI s ↔ g ≤ s + 1 := by
  unfold oI
  by_cases h : g = 0
  · rw [if_pos h]
    refine ⟨fun _ => by omega, fun _ => ?_⟩
    rw [Int32.le_iff_toInt_le, nI_toInt hs]
    have : (-1 : Int32).toInt = -1 := by decide
    omega
  · rw [if_neg h, nI_leI (by omega) hs]
    omega
theorem oI_ltN {g s : Nat} (hg : g < 2 ^ 31) (hs : s < 2 ^ 31) : oI g < nI s ↔ g ≤ s := by
  unfold oI
  by_cases h : g = 0
  · rw [if_pos h]
    refine ⟨fun _ => by omega, fun _ => ?_⟩
    rw [Int32.lt_iff_toInt_lt, nI_toInt hs]
    have : (-1 : Int32).toInt = -1 := by decide
    omega
  · rw [if_neg h, nI_ltI (by omega) hs]
    omega
set_option maxHeartbeats 4000000 in
set_option maxRecDepth 100000 in
theorem wb_6 {d B s k i : Nat} {h : sr_H} {Q : sr_T} {y : V} {u6 u7 u8 : Value} (wr : Rm h B) (hx : Wr y) (rp : RC h B y) (hi : i < xF y) : sr_W d 21006 [.ref 134, .ref B, .int (nI s), .ref (B + 1), .int (nI k), .int (nI i), u6, u7, u8] [.int (oI (giv y (xP y) (pR y i) (pC y i)))] h Q ↔ sr_W d 21001 [.ref 134, .ref B, .int (nI s), .ref (B + 1), .int (nI (k + tf (wrk y i) (Classical.propDecidable _))), .int (nI (i + 1)), sr_U, sr_U, sr_U] [] h Q := by
  have hF := hx.2.1
  have hN := hx.1.2.2.1
  have ws := sub_5_screens wr
  have i6 : i < 6 := by omega
  obtain ⟨b1, b2, b3, b4, b5⟩ := rp.2.2.2.2.2 i hi
  obtain ⟨g1, g2, g3, g4, g5⟩ := hx.2.2.2.2 i hi
  have hgv : giv y (xP y) (pR y i) (pC y i) ≤ xN y := (nr_le _).2
  rw [lb_21006]
  by_cases z : giv y (xP y) (pR y i) (pC y i) = 0
  · have hk : ¬ wrk y i := by
      unfold wrk sea
      rw [if_pos z]
      omega
    have oz : oI 0 < 0 := by decide
    simp (disch := first | assumption | omega) only [Nat.reduceAdd, Nat.reduceLeDiff, Nat.zero_le, true_and, and_true, ↓reduceIte, wB_const, wB_lconst, wB_ldc, wB_getstatic, wB_dupi, wB_dupr, wB_dup2, wB_popi, wB_iadd, wB_isub, wB_imul, wB_iand, wB_ior, wB_ixor, wB_ishl, wB_ishr, wB_iushr, wB_ineg, wB_ladd, wB_lsub, wB_lmul, wB_land, wB_lneg, wB_i2l, wB_l2i, wB_lcmp, wB_idiv, wB_irem, wB_ldiv, wB_lrem, wB_goto, wB_nop, wB_ifeq, wB_ifne, wB_iflt, wB_ifge, wB_ifgt, wB_ifle, wB_icmpeq, wB_icmpne, wB_icmplt, wB_icmpge, wB_icmpgt, wB_icmple, wB_table, wB_lookup, wB_ireturn, wB_zreturn, wB_lreturn, wB_areturn, wB_return, wB_getf, wB_putf, wB_iald, wB_bald, wB_lald, wB_iast, wB_bast, wB_last, wB_min, wB_max, wB_abs, wB_minl, wB_maxl, wB_absl, wB_obj, wB_copy, wB_charAt, wB_strlen, sr_k1i, sr_k1r, sr_k1U, sr_k1l, sr_ms1, sr_ms0, sr_msn, sr_cs1, sr_csm1, sr_csm2, sr_cl1, sr_cl2, sr_szi, sr_szr, sr_szl, sr_szn, sr_tls, sr_tln, wB_il0, wB_ll0, wB_al0, wB_is0, wB_as0, wB_inc0, wB_ls0, wB_il1, wB_ll1, wB_al1, wB_is1, wB_as1, wB_inc1, wB_ls1, wB_il2, wB_ll2, wB_al2, wB_is2, wB_as2, wB_inc2, wB_ls2, wB_il3, wB_ll3, wB_al3, wB_is3, wB_as3, wB_inc3, wB_ls3, wB_il4, wB_ll4, wB_al4, wB_is4, wB_as4, wB_inc4, wB_ls4, wB_il5, wB_ll5, wB_al5, wB_is5, wB_as5, wB_inc5, wB_ls5, wB_il6, wB_ll6, wB_al6, wB_is6, wB_as6, wB_inc6, wB_ls6, wB_il7, wB_ll7, wB_al7, wB_is7, wB_as7, wB_inc7, wB_ls7, wB_il8, wB_ll8, wB_al8, wB_is8, wB_as8, wB_inc8, wB_ls8, wB_il9, wB_ll9, wB_al9, wB_is9, wB_as9, wB_inc9, wB_ls9, wB_il10, wB_ll10, wB_al10, wB_is10, wB_as10, wB_inc10, wB_ls10, wB_il11, wB_ll11, wB_al11, wB_is11, wB_as11, wB_inc11, wB_ls11, wB_il12, wB_ll12, wB_al12, wB_is12, wB_as12, wB_inc12, wB_ls12, wB_il13, wB_ll13, wB_al13, wB_is13, wB_as13, wB_inc13, wB_ls13, wB_il14, wB_ll14, wB_al14, wB_is14, wB_as14, wB_inc14, wB_ls14, wB_il15, wB_ll15, wB_al15, wB_is15, wB_as15, wB_inc15, lb_21002, lb_21003, lb_21004, lb_21005, lb_21007, lb_21008, cl_98, obj_6, fld_5_0, fld_5_1, fld_5_3, arr_5_3, fld_5_4, arr_5_4, fld_1_5, arr_1_5, fld_1_4, arr_1_4, fld_6_5, arr_6_5, fld_5_5, arr_5_5, nI_clamp, inb_nI, nI_leI, nI_ltI, nI_eq, nI_z, nI_ge0, nI_lt0, nI_add, n00, n11, n01, n10, true_or, or_true, not_true_eq_false, not_false_eq_true, bI_0, bI_z, Nat.le_refl, Nat.lt_irrefl, Nat.reduceLT, Nat.reduceEqDiff, nI_gt0, nI_le0, z, oz, tf_0 hk, Nat.add_zero]
  · obtain ⟨g, hg⟩ : ∃ g, giv y (xP y) (pR y i) (pC y i) = g + 1 := ⟨giv y (xP y) (pR y i) (pC y i) - 1, by omega⟩
    have hgN : g < xN y := by omega
    have c1 := (rp.1.2.2.2.2 g hgN).1
    have c2 := (hx.1.2.2.2.2 g hgN).1
    have hse : sea y (xP y) (pR y i) (pC y i) = sS y g := by
      unfold sea
      rw [if_neg z, hg]
      rfl
    by_cases q : sS y g = pW y i
    · have hk : wrk y i := by rw [wrk, hse]; exact q
      simp (disch := first | assumption | omega) only [Nat.reduceAdd, Nat.reduceLeDiff, Nat.zero_le, true_and, and_true, ↓reduceIte, wB_const, wB_lconst, wB_ldc, wB_getstatic, wB_dupi, wB_dupr, wB_dup2, wB_popi, wB_iadd, wB_isub, wB_imul, wB_iand, wB_ior, wB_ixor, wB_ishl, wB_ishr, wB_iushr, wB_ineg, wB_ladd, wB_lsub, wB_lmul, wB_land, wB_lneg, wB_i2l, wB_l2i, wB_lcmp, wB_idiv, wB_irem, wB_ldiv, wB_lrem, wB_goto, wB_nop, wB_ifeq, wB_ifne, wB_iflt, wB_ifge, wB_ifgt, wB_ifle, wB_icmpeq, wB_icmpne, wB_icmplt, wB_icmpge, wB_icmpgt, wB_icmple, wB_table, wB_lookup, wB_ireturn, wB_zreturn, wB_lreturn, wB_areturn, wB_return, wB_getf, wB_putf, wB_iald, wB_bald, wB_lald, wB_iast, wB_bast, wB_last, wB_min, wB_max, wB_abs, wB_minl, wB_maxl, wB_absl, wB_obj, wB_copy, wB_charAt, wB_strlen, sr_k1i, sr_k1r, sr_k1U, sr_k1l, sr_ms1, sr_ms0, sr_msn, sr_cs1, sr_csm1, sr_csm2, sr_cl1, sr_cl2, sr_szi, sr_szr, sr_szl, sr_szn, sr_tls, sr_tln, wB_il0, wB_ll0, wB_al0, wB_is0, wB_as0, wB_inc0, wB_ls0, wB_il1, wB_ll1, wB_al1, wB_is1, wB_as1, wB_inc1, wB_ls1, wB_il2, wB_ll2, wB_al2, wB_is2, wB_as2, wB_inc2, wB_ls2, wB_il3, wB_ll3, wB_al3, wB_is3, wB_as3, wB_inc3, wB_ls3, wB_il4, wB_ll4, wB_al4, wB_is4, wB_as4, wB_inc4, wB_ls4, wB_il5, wB_ll5, wB_al5, wB_is5, wB_as5, wB_inc5, wB_ls5, wB_il6, wB_ll6, wB_al6, wB_is6, wB_as6, wB_inc6, wB_ls6, wB_il7, wB_ll7, wB_al7, wB_is7, wB_as7, wB_inc7, wB_ls7, wB_il8, wB_ll8, wB_al8, wB_is8, wB_as8, wB_inc8, wB_ls8, wB_il9, wB_ll9, wB_al9, wB_is9, wB_as9, wB_inc9, wB_ls9, wB_il10, wB_ll10, wB_al10, wB_is10, wB_as10, wB_inc10, wB_ls10, wB_il11, wB_ll11, wB_al11, wB_is11, wB_as11, wB_inc11, wB_ls11, wB_il12, wB_ll12, wB_al12, wB_is12, wB_as12, wB_inc12, wB_ls12, wB_il13, wB_ll13, wB_al13, wB_is13, wB_as13, wB_inc13, wB_ls13, wB_il14, wB_ll14, wB_al14, wB_is14, wB_as14, wB_inc14, wB_ls14, wB_il15, wB_ll15, wB_al15, wB_is15, wB_as15, wB_inc15, lb_21002, lb_21003, lb_21004, lb_21005, lb_21007, lb_21008, cl_98, obj_6, fld_5_0, fld_5_1, fld_5_3, arr_5_3, fld_5_4, arr_5_4, fld_1_5, arr_1_5, fld_1_4, arr_1_4, fld_6_5, arr_6_5, fld_5_5, arr_5_5, nI_clamp, inb_nI, nI_leI, nI_ltI, nI_eq, nI_z, nI_ge0, nI_lt0, nI_add, n00, n11, n01, n10, true_or, or_true, not_true_eq_false, not_false_eq_true, bI_0, bI_z, Nat.le_refl, Nat.lt_irrefl, Nat.reduceLT, Nat.reduceEqDiff, nI_gt0, nI_le0, wr, ws, hg, oI_s, show g < 5 by omega, c1, i6, b4, q, tf_1 hk]
    · have hk : ¬ wrk y i := by rw [wrk, hse]; exact q
      simp (disch := first | assumption | omega) only [Nat.reduceAdd, Nat.reduceLeDiff, Nat.zero_le, true_and, and_true, ↓reduceIte, wB_const, wB_lconst, wB_ldc, wB_getstatic, wB_dupi, wB_dupr, wB_dup2, wB_popi, wB_iadd, wB_isub, wB_imul, wB_iand, wB_ior, wB_ixor, wB_ishl, wB_ishr, wB_iushr, wB_ineg, wB_ladd, wB_lsub, wB_lmul, wB_land, wB_lneg, wB_i2l, wB_l2i, wB_lcmp, wB_idiv, wB_irem, wB_ldiv, wB_lrem, wB_goto, wB_nop, wB_ifeq, wB_ifne, wB_iflt, wB_ifge, wB_ifgt, wB_ifle, wB_icmpeq, wB_icmpne, wB_icmplt, wB_icmpge, wB_icmpgt, wB_icmple, wB_table, wB_lookup, wB_ireturn, wB_zreturn, wB_lreturn, wB_areturn, wB_return, wB_getf, wB_putf, wB_iald, wB_bald, wB_lald, wB_iast, wB_bast, wB_last, wB_min, wB_max, wB_abs, wB_minl, wB_maxl, wB_absl, wB_obj, wB_copy, wB_charAt, wB_strlen, sr_k1i, sr_k1r, sr_k1U, sr_k1l, sr_ms1, sr_ms0, sr_msn, sr_cs1, sr_csm1, sr_csm2, sr_cl1, sr_cl2, sr_szi, sr_szr, sr_szl, sr_szn, sr_tls, sr_tln, wB_il0, wB_ll0, wB_al0, wB_is0, wB_as0, wB_inc0, wB_ls0, wB_il1, wB_ll1, wB_al1, wB_is1, wB_as1, wB_inc1, wB_ls1, wB_il2, wB_ll2, wB_al2, wB_is2, wB_as2, wB_inc2, wB_ls2, wB_il3, wB_ll3, wB_al3, wB_is3, wB_as3, wB_inc3, wB_ls3, wB_il4, wB_ll4, wB_al4, wB_is4, wB_as4, wB_inc4, wB_ls4, wB_il5, wB_ll5, wB_al5, wB_is5, wB_as5, wB_inc5, wB_ls5, wB_il6, wB_ll6, wB_al6, wB_is6, wB_as6, wB_inc6, wB_ls6, wB_il7, wB_ll7, wB_al7, wB_is7, wB_as7, wB_inc7, wB_ls7, wB_il8, wB_ll8, wB_al8, wB_is8, wB_as8, wB_inc8, wB_ls8, wB_il9, wB_ll9, wB_al9, wB_is9, wB_as9, wB_inc9, wB_ls9, wB_il10, wB_ll10, wB_al10, wB_is10, wB_as10, wB_inc10, wB_ls10, wB_il11, wB_ll11, wB_al11, wB_is11, wB_as11, wB_inc11, wB_ls11, wB_il12, wB_ll12, wB_al12, wB_is12, wB_as12, wB_inc12, wB_ls12, wB_il13, wB_ll13, wB_al13, wB_is13, wB_as13, wB_inc13, wB_ls13, wB_il14, wB_ll14, wB_al14, wB_is14, wB_as14, wB_inc14, wB_ls14, wB_il15, wB_ll15, wB_al15, wB_is15, wB_as15, wB_inc15, lb_21002, lb_21003, lb_21004, lb_21005, lb_21007, lb_21008, cl_98, obj_6, fld_5_0, fld_5_1, fld_5_3, arr_5_3, fld_5_4, arr_5_4, fld_1_5, arr_1_5, fld_1_4, arr_1_4, fld_6_5, arr_6_5, fld_5_5, arr_5_5, nI_clamp, inb_nI, nI_leI, nI_ltI, nI_eq, nI_z, nI_ge0, nI_lt0, nI_add, n00, n11, n01, n10, true_or, or_true, not_true_eq_false, not_false_eq_true, bI_0, bI_z, Nat.le_refl, Nat.lt_irrefl, Nat.reduceLT, Nat.reduceEqDiff, nI_gt0, nI_le0, wr, ws, hg, oI_s, show g < 5 by omega, c1, i6, b4, q, tf_0 hk, Nat.add_zero]
set_option maxHeartbeats 4000000 in
set_option maxRecDepth 100000 in
theorem m_workingBeside {d B s : Nat} {h : sr_H} {Q : sr_T} {y : V} (w : Jdg h) (wr : Rm h B) (hx : Wr y) (rp : RC h B y) (hs : s < xN y) (hp : xP y / 2 ^ s % 2 = 1) (jr : JR h y s) : sr_M (d + 2) 21 [.ref 134, .ref B, .int (nI s)] h Q ↔ Q (some (.int (nI (wks y)))) h := by
  have hF := hx.2.1
  have hN := hx.1.2.2.1
  have hR := hx.1.1
  have hC := hx.1.2.1
  have ws := sub_5_screens wr
  have e1 := rp.2.1
  simp (disch := first | assumption | omega) only [Nat.reduceAdd, Nat.reduceLeDiff, Nat.zero_le, true_and, and_true, ↓reduceIte, wB_const, wB_lconst, wB_ldc, wB_getstatic, wB_dupi, wB_dupr, wB_dup2, wB_popi, wB_iadd, wB_isub, wB_imul, wB_iand, wB_ior, wB_ixor, wB_ishl, wB_ishr, wB_iushr, wB_ineg, wB_ladd, wB_lsub, wB_lmul, wB_land, wB_lneg, wB_i2l, wB_l2i, wB_lcmp, wB_idiv, wB_irem, wB_ldiv, wB_lrem, wB_goto, wB_nop, wB_ifeq, wB_ifne, wB_iflt, wB_ifge, wB_ifgt, wB_ifle, wB_icmpeq, wB_icmpne, wB_icmplt, wB_icmpge, wB_icmpgt, wB_icmple, wB_table, wB_lookup, wB_ireturn, wB_zreturn, wB_lreturn, wB_areturn, wB_return, wB_getf, wB_putf, wB_iald, wB_bald, wB_lald, wB_iast, wB_bast, wB_last, wB_min, wB_max, wB_abs, wB_minl, wB_maxl, wB_absl, wB_obj, wB_copy, wB_charAt, wB_strlen, sr_k1i, sr_k1r, sr_k1U, sr_k1l, sr_ms1, sr_ms0, sr_msn, sr_cs1, sr_csm1, sr_csm2, sr_cl1, sr_cl2, sr_szi, sr_szr, sr_szl, sr_szn, sr_tls, sr_tln, wB_il0, wB_ll0, wB_al0, wB_is0, wB_as0, wB_inc0, wB_ls0, wB_il1, wB_ll1, wB_al1, wB_is1, wB_as1, wB_inc1, wB_ls1, wB_il2, wB_ll2, wB_al2, wB_is2, wB_as2, wB_inc2, wB_ls2, wB_il3, wB_ll3, wB_al3, wB_is3, wB_as3, wB_inc3, wB_ls3, wB_il4, wB_ll4, wB_al4, wB_is4, wB_as4, wB_inc4, wB_ls4, wB_il5, wB_ll5, wB_al5, wB_is5, wB_as5, wB_inc5, wB_ls5, wB_il6, wB_ll6, wB_al6, wB_is6, wB_as6, wB_inc6, wB_ls6, wB_il7, wB_ll7, wB_al7, wB_is7, wB_as7, wB_inc7, wB_ls7, wB_il8, wB_ll8, wB_al8, wB_is8, wB_as8, wB_inc8, wB_ls8, wB_il9, wB_ll9, wB_al9, wB_is9, wB_as9, wB_inc9, wB_ls9, wB_il10, wB_ll10, wB_al10, wB_is10, wB_as10, wB_inc10, wB_ls10, wB_il11, wB_ll11, wB_al11, wB_is11, wB_as11, wB_inc11, wB_ls11, wB_il12, wB_ll12, wB_al12, wB_is12, wB_as12, wB_inc12, wB_ls12, wB_il13, wB_ll13, wB_al13, wB_is13, wB_as13, wB_inc13, wB_ls13, wB_il14, wB_ll14, wB_al14, wB_is14, wB_as14, wB_inc14, wB_ls14, wB_il15, wB_ll15, wB_al15, wB_is15, wB_as15, wB_inc15, lb_21002, lb_21003, lb_21004, lb_21005, lb_21007, lb_21008, cl_98, obj_6, fld_5_0, fld_5_1, fld_5_3, arr_5_3, fld_5_4, arr_5_4, fld_1_5, arr_1_5, fld_1_4, arr_1_4, fld_6_5, arr_6_5, fld_5_5, arr_5_5, nI_clamp, inb_nI, nI_leI, nI_ltI, nI_eq, nI_z, nI_ge0, nI_lt0, nI_add, n00, n11, n01, n10, true_or, or_true, not_true_eq_false, not_false_eq_true, bI_0, bI_z, Nat.le_refl, Nat.lt_irrefl, Nat.reduceLT, Nat.reduceEqDiff, nI_gt0, nI_le0, en_21, wr]
  refine lp_iff (W := fun i => sr_W (d + 1) 21001 [.ref 134, .ref B, .int (nI s), .ref (B + 1), .int (nI (sm (fun p => tf (wrk y p) (Classical.propDecidable _)) i)), .int (nI i), sr_U, sr_U, sr_U] [] h Q) (xF y) (fun i hi => ?_) ?_
  · have hlt : ¬ xF y ≤ i := by omega
    have i6 : i < 6 := by omega
    obtain ⟨b1, b2, b3, b4, b5⟩ := rp.2.2.2.2.2 i hi
    obtain ⟨g1, g2, g3, g4, g5⟩ := hx.2.2.2.2 i hi
    obtain ⟨j1, j2⟩ := jr i hi
    obtain ⟨-, -, o3⟩ := wob_ok (xP y) hx.1.2.2.2.1 s (by omega)
    have nt := nr_two (y := y) (b := xP y) (b' := wob (xP y) s) (s := s) (r := pR y i) (c := pC y i) (fun j hj => o3 j (by omega)) hp (xN y) (Nat.le_refl _)
    have hl := nr_le (x := y) (b := wob (xP y) s) (r := pR y i) (c := pC y i) (xN y)
    have hfl := far_le (x := y) (s := s) (r := pR y i) (c := pC y i)
    have m1 := fun (Q : sr_T) => m_farFrom (d := d) (Q := Q) ws hx.1 rp.1 hs (show pR y i < 64 by omega) (show pC y i < 64 by omega)
    rw [lb_21001]
    have nx := fun (u6 u7 u8 : Value) => wb_6 (d := d + 1) (s := s) (Q := Q) (k := sm (fun p => tf (wrk y p) (Classical.propDecidable _)) i) (u6 := u6) (u7 := u7) (u8 := u8) wr hx rp hi
    unfold giv at nx
    rw [nt] at nx
    by_cases c1 : far y s (pR y i) (pC y i) < (nrN y (wob (xP y) s) (pR y i) (pC y i) (xN y)).2
    · rw [if_pos ⟨hs, Or.inl c1⟩] at nx
      dsimp only at nx
      rw [oI_s] at nx
      simp (disch := first | assumption | omega) only [Nat.reduceAdd, Nat.reduceLeDiff, Nat.zero_le, true_and, and_true, ↓reduceIte, wB_const, wB_lconst, wB_ldc, wB_getstatic, wB_dupi, wB_dupr, wB_dup2, wB_popi, wB_iadd, wB_isub, wB_imul, wB_iand, wB_ior, wB_ixor, wB_ishl, wB_ishr, wB_iushr, wB_ineg, wB_ladd, wB_lsub, wB_lmul, wB_land, wB_lneg, wB_i2l, wB_l2i, wB_lcmp, wB_idiv, wB_irem, wB_ldiv, wB_lrem, wB_goto, wB_nop, wB_ifeq, wB_ifne, wB_iflt, wB_ifge, wB_ifgt, wB_ifle, wB_icmpeq, wB_icmpne, wB_icmplt, wB_icmpge, wB_icmpgt, wB_icmple, wB_table, wB_lookup, wB_ireturn, wB_zreturn, wB_lreturn, wB_areturn, wB_return, wB_getf, wB_putf, wB_iald, wB_bald, wB_lald, wB_iast, wB_bast, wB_last, wB_min, wB_max, wB_abs, wB_minl, wB_maxl, wB_absl, wB_obj, wB_copy, wB_charAt, wB_strlen, sr_k1i, sr_k1r, sr_k1U, sr_k1l, sr_ms1, sr_ms0, sr_msn, sr_cs1, sr_csm1, sr_csm2, sr_cl1, sr_cl2, sr_szi, sr_szr, sr_szl, sr_szn, sr_tls, sr_tln, wB_il0, wB_ll0, wB_al0, wB_is0, wB_as0, wB_inc0, wB_ls0, wB_il1, wB_ll1, wB_al1, wB_is1, wB_as1, wB_inc1, wB_ls1, wB_il2, wB_ll2, wB_al2, wB_is2, wB_as2, wB_inc2, wB_ls2, wB_il3, wB_ll3, wB_al3, wB_is3, wB_as3, wB_inc3, wB_ls3, wB_il4, wB_ll4, wB_al4, wB_is4, wB_as4, wB_inc4, wB_ls4, wB_il5, wB_ll5, wB_al5, wB_is5, wB_as5, wB_inc5, wB_ls5, wB_il6, wB_ll6, wB_al6, wB_is6, wB_as6, wB_inc6, wB_ls6, wB_il7, wB_ll7, wB_al7, wB_is7, wB_as7, wB_inc7, wB_ls7, wB_il8, wB_ll8, wB_al8, wB_is8, wB_as8, wB_inc8, wB_ls8, wB_il9, wB_ll9, wB_al9, wB_is9, wB_as9, wB_inc9, wB_ls9, wB_il10, wB_ll10, wB_al10, wB_is10, wB_as10, wB_inc10, wB_ls10, wB_il11, wB_ll11, wB_al11, wB_is11, wB_as11, wB_inc11, wB_ls11, wB_il12, wB_ll12, wB_al12, wB_is12, wB_as12, wB_inc12, wB_ls12, wB_il13, wB_ll13, wB_al13, wB_is13, wB_as13, wB_inc13, wB_ls13, wB_il14, wB_ll14, wB_al14, wB_is14, wB_as14, wB_inc14, wB_ls14, wB_il15, wB_ll15, wB_al15, wB_is15, wB_as15, wB_inc15, lb_21002, lb_21003, lb_21004, lb_21005, lb_21007, lb_21008, cl_98, obj_6, fld_5_0, fld_5_1, fld_5_3, arr_5_3, fld_5_4, arr_5_4, fld_1_5, arr_1_5, fld_1_4, arr_1_4, fld_6_5, arr_6_5, fld_5_5, arr_5_5, nI_clamp, inb_nI, nI_leI, nI_ltI, nI_eq, nI_z, nI_ge0, nI_lt0, nI_add, n00, n11, n01, n10, true_or, or_true, not_true_eq_false, not_false_eq_true, bI_0, bI_z, Nat.le_refl, Nat.lt_irrefl, Nat.reduceLT, Nat.reduceEqDiff, nI_gt0, nI_le0, w, wr, ws, e1, hlt, i6, b2, b3, m1, j2, c1, nx]
      exact Iff.rfl
    · by_cases c2 : far y s (pR y i) (pC y i) = (nrN y (wob (xP y) s) (pR y i) (pC y i) (xN y)).2
      · by_cases c3 : (nrN y (wob (xP y) s) (pR y i) (pC y i) (xN y)).1 ≤ s + 1
        · rw [if_neg (by omega)] at nx
          simp (disch := first | assumption | omega) only [Nat.reduceAdd, Nat.reduceLeDiff, Nat.zero_le, true_and, and_true, ↓reduceIte, wB_const, wB_lconst, wB_ldc, wB_getstatic, wB_dupi, wB_dupr, wB_dup2, wB_popi, wB_iadd, wB_isub, wB_imul, wB_iand, wB_ior, wB_ixor, wB_ishl, wB_ishr, wB_iushr, wB_ineg, wB_ladd, wB_lsub, wB_lmul, wB_land, wB_lneg, wB_i2l, wB_l2i, wB_lcmp, wB_idiv, wB_irem, wB_ldiv, wB_lrem, wB_goto, wB_nop, wB_ifeq, wB_ifne, wB_iflt, wB_ifge, wB_ifgt, wB_ifle, wB_icmpeq, wB_icmpne, wB_icmplt, wB_icmpge, wB_icmpgt, wB_icmple, wB_table, wB_lookup, wB_ireturn, wB_zreturn, wB_lreturn, wB_areturn, wB_return, wB_getf, wB_putf, wB_iald, wB_bald, wB_lald, wB_iast, wB_bast, wB_last, wB_min, wB_max, wB_abs, wB_minl, wB_maxl, wB_absl, wB_obj, wB_copy, wB_charAt, wB_strlen, sr_k1i, sr_k1r, sr_k1U, sr_k1l, sr_ms1, sr_ms0, sr_msn, sr_cs1, sr_csm1, sr_csm2, sr_cl1, sr_cl2, sr_szi, sr_szr, sr_szl, sr_szn, sr_tls, sr_tln, wB_il0, wB_ll0, wB_al0, wB_is0, wB_as0, wB_inc0, wB_ls0, wB_il1, wB_ll1, wB_al1, wB_is1, wB_as1, wB_inc1, wB_ls1, wB_il2, wB_ll2, wB_al2, wB_is2, wB_as2, wB_inc2, wB_ls2, wB_il3, wB_ll3, wB_al3, wB_is3, wB_as3, wB_inc3, wB_ls3, wB_il4, wB_ll4, wB_al4, wB_is4, wB_as4, wB_inc4, wB_ls4, wB_il5, wB_ll5, wB_al5, wB_is5, wB_as5, wB_inc5, wB_ls5, wB_il6, wB_ll6, wB_al6, wB_is6, wB_as6, wB_inc6, wB_ls6, wB_il7, wB_ll7, wB_al7, wB_is7, wB_as7, wB_inc7, wB_ls7, wB_il8, wB_ll8, wB_al8, wB_is8, wB_as8, wB_inc8, wB_ls8, wB_il9, wB_ll9, wB_al9, wB_is9, wB_as9, wB_inc9, wB_ls9, wB_il10, wB_ll10, wB_al10, wB_is10, wB_as10, wB_inc10, wB_ls10, wB_il11, wB_ll11, wB_al11, wB_is11, wB_as11, wB_inc11, wB_ls11, wB_il12, wB_ll12, wB_al12, wB_is12, wB_as12, wB_inc12, wB_ls12, wB_il13, wB_ll13, wB_al13, wB_is13, wB_as13, wB_inc13, wB_ls13, wB_il14, wB_ll14, wB_al14, wB_is14, wB_as14, wB_inc14, wB_ls14, wB_il15, wB_ll15, wB_al15, wB_is15, wB_as15, wB_inc15, lb_21002, lb_21003, lb_21004, lb_21005, lb_21007, lb_21008, cl_98, obj_6, fld_5_0, fld_5_1, fld_5_3, arr_5_3, fld_5_4, arr_5_4, fld_1_5, arr_1_5, fld_1_4, arr_1_4, fld_6_5, arr_6_5, fld_5_5, arr_5_5, nI_clamp, inb_nI, nI_leI, nI_ltI, nI_eq, nI_z, nI_ge0, nI_lt0, nI_add, n00, n11, n01, n10, true_or, or_true, not_true_eq_false, not_false_eq_true, bI_0, bI_z, Nat.le_refl, Nat.lt_irrefl, Nat.reduceLT, Nat.reduceEqDiff, nI_gt0, nI_le0, w, wr, ws, e1, hlt, i6, b2, b3, m1, j1, j2, c2, oI_leN, c3, nx]
          exact Iff.rfl
        · rw [if_pos ⟨hs, Or.inr ⟨c2, by omega⟩⟩] at nx
          dsimp only at nx
          rw [oI_s] at nx
          simp (disch := first | assumption | omega) only [Nat.reduceAdd, Nat.reduceLeDiff, Nat.zero_le, true_and, and_true, ↓reduceIte, wB_const, wB_lconst, wB_ldc, wB_getstatic, wB_dupi, wB_dupr, wB_dup2, wB_popi, wB_iadd, wB_isub, wB_imul, wB_iand, wB_ior, wB_ixor, wB_ishl, wB_ishr, wB_iushr, wB_ineg, wB_ladd, wB_lsub, wB_lmul, wB_land, wB_lneg, wB_i2l, wB_l2i, wB_lcmp, wB_idiv, wB_irem, wB_ldiv, wB_lrem, wB_goto, wB_nop, wB_ifeq, wB_ifne, wB_iflt, wB_ifge, wB_ifgt, wB_ifle, wB_icmpeq, wB_icmpne, wB_icmplt, wB_icmpge, wB_icmpgt, wB_icmple, wB_table, wB_lookup, wB_ireturn, wB_zreturn, wB_lreturn, wB_areturn, wB_return, wB_getf, wB_putf, wB_iald, wB_bald, wB_lald, wB_iast, wB_bast, wB_last, wB_min, wB_max, wB_abs, wB_minl, wB_maxl, wB_absl, wB_obj, wB_copy, wB_charAt, wB_strlen, sr_k1i, sr_k1r, sr_k1U, sr_k1l, sr_ms1, sr_ms0, sr_msn, sr_cs1, sr_csm1, sr_csm2, sr_cl1, sr_cl2, sr_szi, sr_szr, sr_szl, sr_szn, sr_tls, sr_tln, wB_il0, wB_ll0, wB_al0, wB_is0, wB_as0, wB_inc0, wB_ls0, wB_il1, wB_ll1, wB_al1, wB_is1, wB_as1, wB_inc1, wB_ls1, wB_il2, wB_ll2, wB_al2, wB_is2, wB_as2, wB_inc2, wB_ls2, wB_il3, wB_ll3, wB_al3, wB_is3, wB_as3, wB_inc3, wB_ls3, wB_il4, wB_ll4, wB_al4, wB_is4, wB_as4, wB_inc4, wB_ls4, wB_il5, wB_ll5, wB_al5, wB_is5, wB_as5, wB_inc5, wB_ls5, wB_il6, wB_ll6, wB_al6, wB_is6, wB_as6, wB_inc6, wB_ls6, wB_il7, wB_ll7, wB_al7, wB_is7, wB_as7, wB_inc7, wB_ls7, wB_il8, wB_ll8, wB_al8, wB_is8, wB_as8, wB_inc8, wB_ls8, wB_il9, wB_ll9, wB_al9, wB_is9, wB_as9, wB_inc9, wB_ls9, wB_il10, wB_ll10, wB_al10, wB_is10, wB_as10, wB_inc10, wB_ls10, wB_il11, wB_ll11, wB_al11, wB_is11, wB_as11, wB_inc11, wB_ls11, wB_il12, wB_ll12, wB_al12, wB_is12, wB_as12, wB_inc12, wB_ls12, wB_il13, wB_ll13, wB_al13, wB_is13, wB_as13, wB_inc13, wB_ls13, wB_il14, wB_ll14, wB_al14, wB_is14, wB_as14, wB_inc14, wB_ls14, wB_il15, wB_ll15, wB_al15, wB_is15, wB_as15, wB_inc15, lb_21002, lb_21003, lb_21004, lb_21005, lb_21007, lb_21008, cl_98, obj_6, fld_5_0, fld_5_1, fld_5_3, arr_5_3, fld_5_4, arr_5_4, fld_1_5, arr_1_5, fld_1_4, arr_1_4, fld_6_5, arr_6_5, fld_5_5, arr_5_5, nI_clamp, inb_nI, nI_leI, nI_ltI, nI_eq, nI_z, nI_ge0, nI_lt0, nI_add, n00, n11, n01, n10, true_or, or_true, not_true_eq_false, not_false_eq_true, bI_0, bI_z, Nat.le_refl, Nat.lt_irrefl, Nat.reduceLT, Nat.reduceEqDiff, nI_gt0, nI_le0, w, wr, ws, e1, hlt, i6, b2, b3, m1, j1, j2, c2, oI_leN, c3, nx]
          exact Iff.rfl
      · rw [if_neg (by omega)] at nx
        simp (disch := first | assumption | omega) only [Nat.reduceAdd, Nat.reduceLeDiff, Nat.zero_le, true_and, and_true, ↓reduceIte, wB_const, wB_lconst, wB_ldc, wB_getstatic, wB_dupi, wB_dupr, wB_dup2, wB_popi, wB_iadd, wB_isub, wB_imul, wB_iand, wB_ior, wB_ixor, wB_ishl, wB_ishr, wB_iushr, wB_ineg, wB_ladd, wB_lsub, wB_lmul, wB_land, wB_lneg, wB_i2l, wB_l2i, wB_lcmp, wB_idiv, wB_irem, wB_ldiv, wB_lrem, wB_goto, wB_nop, wB_ifeq, wB_ifne, wB_iflt, wB_ifge, wB_ifgt, wB_ifle, wB_icmpeq, wB_icmpne, wB_icmplt, wB_icmpge, wB_icmpgt, wB_icmple, wB_table, wB_lookup, wB_ireturn, wB_zreturn, wB_lreturn, wB_areturn, wB_return, wB_getf, wB_putf, wB_iald, wB_bald, wB_lald, wB_iast, wB_bast, wB_last, wB_min, wB_max, wB_abs, wB_minl, wB_maxl, wB_absl, wB_obj, wB_copy, wB_charAt, wB_strlen, sr_k1i, sr_k1r, sr_k1U, sr_k1l, sr_ms1, sr_ms0, sr_msn, sr_cs1, sr_csm1, sr_csm2, sr_cl1, sr_cl2, sr_szi, sr_szr, sr_szl, sr_szn, sr_tls, sr_tln, wB_il0, wB_ll0, wB_al0, wB_is0, wB_as0, wB_inc0, wB_ls0, wB_il1, wB_ll1, wB_al1, wB_is1, wB_as1, wB_inc1, wB_ls1, wB_il2, wB_ll2, wB_al2, wB_is2, wB_as2, wB_inc2, wB_ls2, wB_il3, wB_ll3, wB_al3, wB_is3, wB_as3, wB_inc3, wB_ls3, wB_il4, wB_ll4, wB_al4, wB_is4, wB_as4, wB_inc4, wB_ls4, wB_il5, wB_ll5, wB_al5, wB_is5, wB_as5, wB_inc5, wB_ls5, wB_il6, wB_ll6, wB_al6, wB_is6, wB_as6, wB_inc6, wB_ls6, wB_il7, wB_ll7, wB_al7, wB_is7, wB_as7, wB_inc7, wB_ls7, wB_il8, wB_ll8, wB_al8, wB_is8, wB_as8, wB_inc8, wB_ls8, wB_il9, wB_ll9, wB_al9, wB_is9, wB_as9, wB_inc9, wB_ls9, wB_il10, wB_ll10, wB_al10, wB_is10, wB_as10, wB_inc10, wB_ls10, wB_il11, wB_ll11, wB_al11, wB_is11, wB_as11, wB_inc11, wB_ls11, wB_il12, wB_ll12, wB_al12, wB_is12, wB_as12, wB_inc12, wB_ls12, wB_il13, wB_ll13, wB_al13, wB_is13, wB_as13, wB_inc13, wB_ls13, wB_il14, wB_ll14, wB_al14, wB_is14, wB_as14, wB_inc14, wB_ls14, wB_il15, wB_ll15, wB_al15, wB_is15, wB_as15, wB_inc15, lb_21002, lb_21003, lb_21004, lb_21005, lb_21007, lb_21008, cl_98, obj_6, fld_5_0, fld_5_1, fld_5_3, arr_5_3, fld_5_4, arr_5_4, fld_1_5, arr_1_5, fld_1_4, arr_1_4, fld_6_5, arr_6_5, fld_5_5, arr_5_5, nI_clamp, inb_nI, nI_leI, nI_ltI, nI_eq, nI_z, nI_ge0, nI_lt0, nI_add, n00, n11, n01, n10, true_or, or_true, not_true_eq_false, not_false_eq_true, bI_0, bI_z, Nat.le_refl, Nat.lt_irrefl, Nat.reduceLT, Nat.reduceEqDiff, nI_gt0, nI_le0, w, wr, ws, e1, hlt, i6, b2, b3, m1, j1, j2, c1, c2, nx]
        exact Iff.rfl
  · rw [lb_21001]
    simp (disch := first | assumption | omega) only [Nat.reduceAdd, Nat.reduceLeDiff, Nat.zero_le, true_and, and_true, ↓reduceIte, wB_const, wB_lconst, wB_ldc, wB_getstatic, wB_dupi, wB_dupr, wB_dup2, wB_popi, wB_iadd, wB_isub, wB_imul, wB_iand, wB_ior, wB_ixor, wB_ishl, wB_ishr, wB_iushr, wB_ineg, wB_ladd, wB_lsub, wB_lmul, wB_land, wB_lneg, wB_i2l, wB_l2i, wB_lcmp, wB_idiv, wB_irem, wB_ldiv, wB_lrem, wB_goto, wB_nop, wB_ifeq, wB_ifne, wB_iflt, wB_ifge, wB_ifgt, wB_ifle, wB_icmpeq, wB_icmpne, wB_icmplt, wB_icmpge, wB_icmpgt, wB_icmple, wB_table, wB_lookup, wB_ireturn, wB_zreturn, wB_lreturn, wB_areturn, wB_return, wB_getf, wB_putf, wB_iald, wB_bald, wB_lald, wB_iast, wB_bast, wB_last, wB_min, wB_max, wB_abs, wB_minl, wB_maxl, wB_absl, wB_obj, wB_copy, wB_charAt, wB_strlen, sr_k1i, sr_k1r, sr_k1U, sr_k1l, sr_ms1, sr_ms0, sr_msn, sr_cs1, sr_csm1, sr_csm2, sr_cl1, sr_cl2, sr_szi, sr_szr, sr_szl, sr_szn, sr_tls, sr_tln, wB_il0, wB_ll0, wB_al0, wB_is0, wB_as0, wB_inc0, wB_ls0, wB_il1, wB_ll1, wB_al1, wB_is1, wB_as1, wB_inc1, wB_ls1, wB_il2, wB_ll2, wB_al2, wB_is2, wB_as2, wB_inc2, wB_ls2, wB_il3, wB_ll3, wB_al3, wB_is3, wB_as3, wB_inc3, wB_ls3, wB_il4, wB_ll4, wB_al4, wB_is4, wB_as4, wB_inc4, wB_ls4, wB_il5, wB_ll5, wB_al5, wB_is5, wB_as5, wB_inc5, wB_ls5, wB_il6, wB_ll6, wB_al6, wB_is6, wB_as6, wB_inc6, wB_ls6, wB_il7, wB_ll7, wB_al7, wB_is7, wB_as7, wB_inc7, wB_ls7, wB_il8, wB_ll8, wB_al8, wB_is8, wB_as8, wB_inc8, wB_ls8, wB_il9, wB_ll9, wB_al9, wB_is9, wB_as9, wB_inc9, wB_ls9, wB_il10, wB_ll10, wB_al10, wB_is10, wB_as10, wB_inc10, wB_ls10, wB_il11, wB_ll11, wB_al11, wB_is11, wB_as11, wB_inc11, wB_ls11, wB_il12, wB_ll12, wB_al12, wB_is12, wB_as12, wB_inc12, wB_ls12, wB_il13, wB_ll13, wB_al13, wB_is13, wB_as13, wB_inc13, wB_ls13, wB_il14, wB_ll14, wB_al14, wB_is14, wB_as14, wB_inc14, wB_ls14, wB_il15, wB_ll15, wB_al15, wB_is15, wB_as15, wB_inc15, lb_21002, lb_21003, lb_21004, lb_21005, lb_21007, lb_21008, cl_98, obj_6, fld_5_0, fld_5_1, fld_5_3, arr_5_3, fld_5_4, arr_5_4, fld_1_5, arr_1_5, fld_1_4, arr_1_4, fld_6_5, arr_6_5, fld_5_5, arr_5_5, nI_clamp, inb_nI, nI_leI, nI_ltI, nI_eq, nI_z, nI_ge0, nI_lt0, nI_add, n00, n11, n01, n10, true_or, or_true, not_true_eq_false, not_false_eq_true, bI_0, bI_z, Nat.le_refl, Nat.lt_irrefl, Nat.reduceLT, Nat.reduceEqDiff, nI_gt0, nI_le0, wr, e1]
    exact Iff.rfl
