/-! Hours: screens are carried, moths come, hours pass. -/
theorem lp_a {α : Type} {W : Nat → α → sr_H → Prop} (I : Nat → α → sr_H → Prop) (N : Nat) (st : ∀ i a h, i < N → I i a h → (∀ a' h', I (i + 1) a' h' → W (i + 1) a' h') → W i a h) (fin : ∀ a h, I N a h → W N a h) (a : α) (h : sr_H) (h0 : I 0 a h) : W 0 a h := by
  have : ∀ n i a h, n + i = N → I i a h → W i a h := by
    intro n
    induction n with
    | zero =>
      intro i a h hi hI
      have : i = N := by omega
      subst this
      exact fin a h hI
    | succ n ih =>
      intro i a h hi hI
      exact st i a h (by omega) hI (fun a' h' h2 => ih (i + 1) a' h' (by omega) h2)
  exact this N 0 a h rfl h0
/-- a screen stands elsewhere -/
def plc (y : V) (s r c dn : Nat) : V := vs (vs (vs y 2 s r) 3 s c) 5 s dn
theorem plc_same {y : V} {s r c : Nat} : plc y s r c (sD y s) = vs (vs y 2 s r) 3 s c := by
  funext a b
  unfold plc
  by_cases q : a = 5 ∧ b = s
  · obtain ⟨rfl, rfl⟩ := q
    rw [vs_y, vs_n (by omega), vs_n (by omega)]
  · rw [vs_n q]
theorem shp_plc {y : V} {s r c dn : Nat} : shp y (plc y s r c dn) := ((shp_vs (Or.inl (by omega))).tr (shp_vs (Or.inl (by omega)))).tr (shp_vs (Or.inl (by omega)))
theorem Wx_at {x : V} {j s v : Nat} (hx : Wx x) (h1 : 1 ≤ j) (hv : (j = 1 → v < 4) ∧ (j = 2 → v < 8) ∧ (j = 3 → v < 8) ∧ (j = 4 → 1 ≤ v ∧ v ≤ 4) ∧ (j = 5 → v ≤ 1) ∧ (j = 6 → v < 16)) : Wx (vs x j s v) := by
  obtain ⟨a1, a2, a3, a4, a5⟩ := hx
  have z : ∀ b, vs x j s v 0 b = x 0 b := fun b => vs_n (by omega)
  refine ⟨?_, ?_, ?_, ?_, fun q hq => ?_⟩
  · rw [xR, z]; exact a1
  · rw [xC, z]; exact a2
  · rw [xN, z]; exact a3
  · rw [xP, z]; exact a4
  · rw [xN, z] at hq
    obtain ⟨b1, b2, b3, b4, b5, b6⟩ := a5 q hq
    simp only [sS, sL, sD, sW, sR, sK]
    unfold vs
    refine ⟨?_, ?_, ?_, ?_, ?_, ?_⟩
    · by_cases c : 1 = j ∧ q = s
      · rw [if_pos c]; exact hv.1 c.1.symm
      · rw [if_neg c]; exact b1
    · by_cases c : 4 = j ∧ q = s
      · rw [if_pos c]; exact hv.2.2.2.1 c.1.symm
      · rw [if_neg c]; exact b2
    · by_cases c : 5 = j ∧ q = s
      · rw [if_pos c]; exact hv.2.2.2.2.1 c.1.symm
      · rw [if_neg c]; exact b3
    · by_cases c : 6 = j ∧ q = s
      · rw [if_pos c]; exact hv.2.2.2.2.2 c.1.symm
      · rw [if_neg c]; exact b4
    · by_cases c : 2 = j ∧ q = s
      · rw [if_pos c]; exact hv.2.1 c.1.symm
      · rw [if_neg c]; exact b5
    · by_cases c : 3 = j ∧ q = s
      · rw [if_pos c]; exact hv.2.2.1 c.1.symm
      · rw [if_neg c]; exact b6
theorem Wr_s {x : V} {j s v : Nat} (hx : Wr x) (h1 : 1 ≤ j) (h6 : j ≤ 6) (hv : (j = 1 → v < 4) ∧ (j = 2 → v < 8) ∧ (j = 3 → v < 8) ∧ (j = 4 → 1 ≤ v ∧ v ≤ 4) ∧ (j = 5 → v ≤ 1) ∧ (j = 6 → v < 16)) : Wr (vs x j s v) := by
  obtain ⟨a1, a2, a3, a4, a5⟩ := hx
  have z : ∀ b, vs x j s v 0 b = x 0 b := fun b => vs_n (by omega)
  refine ⟨Wx_at a1 h1 hv, ?_, ?_, ?_, fun q hq => ?_⟩
  · rw [xF, z]; exact a2
  · rw [xH, z]; exact a3
  · rw [xD, z]; exact a4
  · rw [xF, z] at hq
    have := a5 q hq
    simp (disch := omega) only [pA, pR, pC, pW, pD, xR, xC, vs_n] at this ⊢
    exact this
theorem Wr_plc {x : V} {s r c dn : Nat} (hx : Wr x) (hr : r < 8) (hc : c < 8) (hd : dn ≤ 1) : Wr (plc x s r c dn) := by
  refine Wr_s (Wr_s (Wr_s hx (by omega) (by omega) ?_) (by omega) (by omega) ?_) (by omega) (by omega) ?_
  all_goals
    refine ⟨?_, ?_, ?_, ?_, ?_, ?_⟩
    all_goals intro; omega
theorem RC_plc {h : sr_H} {B s r c dn : Nat} {x : V} (w : Rm h B) (rp : RC h B x) (hs : s < xN x) : RC (sI (sI (sI h (B + 1 + 2) s (nI r)) (B + 1 + 3) s (nI c)) (B + 1 + 5) s (nI dn)) B (plc x s r c dn) := by
  have r1 := RC_sIs (j := 2) (v := r) w rp (by omega) (by omega) hs
  have w1 : Rm (sI h (B + 1 + 2) s (nI r)) B := Rm_sI.mpr w
  have r2 := RC_sIs (j := 3) (v := c) w1 r1 (by omega) (by omega) (by rw [xN, vs_n (by omega)]; exact hs)
  have w2 : Rm (sI (sI h (B + 1 + 2) s (nI r)) (B + 1 + 3) s (nI c)) B := Rm_sI.mpr w1
  exact RC_sIs (j := 5) (v := dn) w2 r2 (by omega) (by omega) (by rw [xN, vs_n (by omega), vs_n (by omega)]; exact hs)
theorem RC_RF {h h' : sr_H} {B : Nat} {x : V} (rp : RC h B x) (f : RF h h' (B + 1)) : RC h' B x :=
  RC_mk (f.sc rp.1) (by rw [fI_of (f.1.2 B (by unfold PK; omega))]; exact rp.2.1) (by rw [fI_of (f.1.2 B (by unfold PK; omega))]; exact rp.2.2.1) (by rw [fI_of (f.1.2 B (by unfold PK; omega))]; exact rp.2.2.2.1) (by rw [fJ_of (f.1.2 B (by unfold PK; omega))]; exact rp.2.2.2.2.1) (fun j h1 h2 p hp => by rw [hI_of (f.1.2 _ (by unfold PK; omega))]; exact RC_at rp h1 h2 hp)
/-- one carrying that the text tells -/
noncomputable def cst (y t : V) (k : Nat) : V := if t 2 k = xH y ∧ xP y / 2 ^ t 1 k % 2 = 1 then @ite V (fit y (t 1 k) (t 3 k) (t 4 k) (sD y (t 1 k))) (Classical.propDecidable _) (plc y (t 1 k) (t 3 k) (t 4 k) (sD y (t 1 k))) (vs y 0 6 (xU y + 1)) else y
noncomputable def crN (x t : V) : Nat → V
  | 0 => x
  | k + 1 => cst (crN x t k) t k
noncomputable def car (x t : V) : V := crN x t (t 0 1)
theorem fit_in {x : V} {s r c dn : Nat} (hx : Wx x) (hr : r < 2 ^ 31) (hc : c < 2 ^ 31) : ((inb (nI r) (xR x) ∧ inb (nI c) (xC x)) ∧ fit x s r c dn) ↔ fit x s r c dn := by
  rw [inb_nI hr, inb_nI hc]
  exact ⟨fun q => q.2, fun q => ⟨q.1.1, q⟩⟩
set_option maxHeartbeats 4000000 in
set_option maxRecDepth 100000 in
theorem m_carryAll {d B T : Nat} {h : sr_H} {Q : sr_T} {x t : V} (w : Rm h B) (wt : Txt h T) (hBT : T + 32 < B) (hx : Wr x) (rp : RC h B x) (kc : KC h (B + 1) x) (tc : TC h T t) (ht : Wt t (xN x) (xF x)) (kk : ∀ h', HI h h' B T x (car x t) t → Q none h') : sr_M (d + 4) 7 [.ref B, .ref T] h Q := by
  simp (disch := first | assumption | omega) only [Nat.reduceAdd, Nat.reduceLeDiff, Nat.zero_le, true_and, and_true, ↓reduceIte, wB_const, wB_lconst, wB_ldc, wB_getstatic, wB_dupi, wB_dupr, wB_dup2, wB_popi, wB_iadd, wB_isub, wB_imul, wB_iand, wB_ior, wB_ixor, wB_ishl, wB_ishr, wB_iushr, wB_ineg, wB_ladd, wB_lsub, wB_lmul, wB_land, wB_lneg, wB_i2l, wB_l2i, wB_lcmp, wB_idiv, wB_irem, wB_ldiv, wB_lrem, wB_goto, wB_nop, wB_ifeq, wB_ifne, wB_iflt, wB_ifge, wB_ifgt, wB_ifle, wB_icmpeq, wB_icmpne, wB_icmplt, wB_icmpge, wB_icmpgt, wB_icmple, wB_table, wB_lookup, wB_ireturn, wB_zreturn, wB_lreturn, wB_areturn, wB_return, wB_getf, wB_putf, wB_iald, wB_bald, wB_lald, wB_iast, wB_bast, wB_last, wB_min, wB_max, wB_abs, wB_minl, wB_maxl, wB_absl, wB_obj, wB_copy, wB_charAt, wB_strlen, sr_k1i, sr_k1r, sr_k1U, sr_k1l, sr_ms1, sr_ms0, sr_msn, sr_cs1, sr_csm1, sr_csm2, sr_cl1, sr_cl2, sr_szi, sr_szr, sr_szl, sr_szn, sr_tls, sr_tln, wB_il0, wB_ll0, wB_al0, wB_is0, wB_as0, wB_inc0, wB_ls0, wB_il1, wB_ll1, wB_al1, wB_is1, wB_as1, wB_inc1, wB_ls1, wB_il2, wB_ll2, wB_al2, wB_is2, wB_as2, wB_inc2, wB_ls2, wB_il3, wB_ll3, wB_al3, wB_is3, wB_as3, wB_inc3, wB_ls3, wB_il4, wB_ll4, wB_al4, wB_is4, wB_as4, wB_inc4, wB_ls4, wB_il5, wB_ll5, wB_al5, wB_is5, wB_as5, wB_inc5, wB_ls5, wB_il6, wB_ll6, wB_al6, wB_is6, wB_as6, wB_inc6, wB_ls6, wB_il7, wB_ll7, wB_al7, wB_is7, wB_as7, wB_inc7, wB_ls7, lb_7002, lb_7003, lb_7005, cl_93, cl_96, cl_94, cl_100, obj_6, fld_5_0, fld_8_9, fld_8_10, arr_8_10, fld_8_11, arr_8_11, fld_5_7, fld_6_9, arr_6_9, fld_8_12, arr_8_12, fld_8_13, arr_8_13, fld_5_8, nI_clamp, inb_nI, nI_leI, nI_ltI, nI_eq, nI_z, nI_ge0, nI_lt0, nI_add, n00, n11, n01, n10, true_or, or_true, not_true_eq_false, not_false_eq_true, bI_0, bI_z, Nat.le_refl, Nat.lt_irrefl, Nat.reduceLT, en_7, w]
  refine lp_a (α := Nat) (W := fun i ch h => sr_W (d + 3) 7001 [.ref B, .ref T, .ref (B + 1), .int (nI ch), .int (nI i), sr_U, sr_U] [] h Q) (fun i ch h' => (ch ≤ 1 ∧ Fr h h' (PH B T) ∧ RC h' B (crN x t i) ∧ Wr (crN x t i) ∧ shp x (crN x t i)) ∧ (ch = 0 → KC h' (B + 1) (crN x t i))) (t 0 1) ?_ ?_ 0 h ⟨⟨by omega, Fr.rf, rp, hx, shp.rf⟩, fun _ => kc⟩
  · rintro i ch h1 hi ⟨⟨hch, f1, r1, x1, sp⟩, q1⟩ next
    have w1 := w.ss f1.1
    have ws1 := sub_5_screens w1
    have wt1 := wt.ss f1.1
    have tc1 : TC h1 T t := TC_of tc (fun a h1 h2 h3 h4 => f1.2 a (by unfold PH; omega))
    have e1 := tc1.1.2.1
    have e7 := r1.2.2.1
    have e8 := r1.2.2.2.1
    have hlt : ¬ t 0 1 ≤ i := by omega
    have hb := ht.2.1
    have hi10 : i < 10 := by omega
    obtain ⟨b1, b2, b3, b4⟩ := hb.2 i hi
    have hH := x1.2.2.1
    have a1 : hI h1 (T + 26) i = nI (t 1 i) := tc1.2.1 1 (by omega) (by omega) i hi
    have a2 : hI h1 (T + 27) i = nI (t 2 i) := tc1.2.1 2 (by omega) (by omega) i hi
    have a3 : hI h1 (T + 28) i = nI (t 3 i) := tc1.2.1 3 (by omega) (by omega) i hi
    have a4 : hI h1 (T + 29) i = nI (t 4 i) := tc1.2.1 4 (by omega) (by omega) i hi
    have hs : t 1 i < xN (crN x t i) := by rw [sp.1]; exact b1
    have hN := x1.1.2.2.1
    have hs5 : t 1 i < 5 := by omega
    have d1 := (r1.1.2.2.2.2 _ hs).2.2.2.2.1
    have d2 := (x1.1.2.2.2.2 _ hs).2.2.1
    rw [lb_7001]
    by_cases q : t 2 i = xH (crN x t i)
    · by_cases qp : xP (crN x t i) / 2 ^ t 1 i % 2 = 1
      · by_cases qf : fit (crN x t i) (t 1 i) (t 3 i) (t 4 i) (sD (crN x t i) (t 1 i))
        · simp (disch := first | assumption | omega) only [Nat.reduceAdd, Nat.reduceLeDiff, Nat.zero_le, true_and, and_true, ↓reduceIte, wB_const, wB_lconst, wB_ldc, wB_getstatic, wB_dupi, wB_dupr, wB_dup2, wB_popi, wB_iadd, wB_isub, wB_imul, wB_iand, wB_ior, wB_ixor, wB_ishl, wB_ishr, wB_iushr, wB_ineg, wB_ladd, wB_lsub, wB_lmul, wB_land, wB_lneg, wB_i2l, wB_l2i, wB_lcmp, wB_idiv, wB_irem, wB_ldiv, wB_lrem, wB_goto, wB_nop, wB_ifeq, wB_ifne, wB_iflt, wB_ifge, wB_ifgt, wB_ifle, wB_icmpeq, wB_icmpne, wB_icmplt, wB_icmpge, wB_icmpgt, wB_icmple, wB_table, wB_lookup, wB_ireturn, wB_zreturn, wB_lreturn, wB_areturn, wB_return, wB_getf, wB_putf, wB_iald, wB_bald, wB_lald, wB_iast, wB_bast, wB_last, wB_min, wB_max, wB_abs, wB_minl, wB_maxl, wB_absl, wB_obj, wB_copy, wB_charAt, wB_strlen, sr_k1i, sr_k1r, sr_k1U, sr_k1l, sr_ms1, sr_ms0, sr_msn, sr_cs1, sr_csm1, sr_csm2, sr_cl1, sr_cl2, sr_szi, sr_szr, sr_szl, sr_szn, sr_tls, sr_tln, wB_il0, wB_ll0, wB_al0, wB_is0, wB_as0, wB_inc0, wB_ls0, wB_il1, wB_ll1, wB_al1, wB_is1, wB_as1, wB_inc1, wB_ls1, wB_il2, wB_ll2, wB_al2, wB_is2, wB_as2, wB_inc2, wB_ls2, wB_il3, wB_ll3, wB_al3, wB_is3, wB_as3, wB_inc3, wB_ls3, wB_il4, wB_ll4, wB_al4, wB_is4, wB_as4, wB_inc4, wB_ls4, wB_il5, wB_ll5, wB_al5, wB_is5, wB_as5, wB_inc5, wB_ls5, wB_il6, wB_ll6, wB_al6, wB_is6, wB_as6, wB_inc6, wB_ls6, wB_il7, wB_ll7, wB_al7, wB_is7, wB_as7, wB_inc7, wB_ls7, lb_7002, lb_7003, lb_7005, cl_93, cl_96, cl_94, cl_100, obj_6, fld_5_0, fld_8_9, fld_8_10, arr_8_10, fld_8_11, arr_8_11, fld_5_7, fld_6_9, arr_6_9, fld_8_12, arr_8_12, fld_8_13, arr_8_13, fld_5_8, nI_clamp, inb_nI, nI_leI, nI_ltI, nI_eq, nI_z, nI_ge0, nI_lt0, nI_add, n00, n11, n01, n10, true_or, or_true, not_true_eq_false, not_false_eq_true, bI_0, bI_z, Nat.le_refl, Nat.lt_irrefl, Nat.reduceLT, w1, ws1, wt1, e1, e7, hlt, hi10, a1, a2, a3, a4, q, m_isThere ws1 x1.1 r1.1 (show t 1 i < 32 by omega), qp, d1, hs5, m_fits ws1 x1.1 r1.1 hs (show sD (crN x t i) (t 1 i) < 2 ^ 31 by omega), fit_in, qf, qf.1.1.1, qf.1.1.2, and_self, m_place ws1 hs5]
          have hv : crN x t (i + 1) = plc (crN x t i) (t 1 i) (t 3 i) (t 4 i) (sD (crN x t i) (t 1 i)) := by
            show cst _ _ _ = _
            rw [cst, if_pos ⟨q, qp⟩]
            exact if_pos qf
          refine next 1 _ ⟨⟨by omega, Fr_sI (Fr_sI (Fr_sI f1 (Or.inl (by omega))) (Or.inl (by omega))) (Or.inl (by omega)), ?_, ?_, ?_⟩, fun z => by omega⟩
          · rw [hv]; exact RC_plc w1 r1 hs
          · rw [hv]; exact Wr_plc x1 b3 b4 d2
          · rw [hv]; exact sp.tr shp_plc
        · simp (disch := first | assumption | omega) only [Nat.reduceAdd, Nat.reduceLeDiff, Nat.zero_le, true_and, and_true, ↓reduceIte, wB_const, wB_lconst, wB_ldc, wB_getstatic, wB_dupi, wB_dupr, wB_dup2, wB_popi, wB_iadd, wB_isub, wB_imul, wB_iand, wB_ior, wB_ixor, wB_ishl, wB_ishr, wB_iushr, wB_ineg, wB_ladd, wB_lsub, wB_lmul, wB_land, wB_lneg, wB_i2l, wB_l2i, wB_lcmp, wB_idiv, wB_irem, wB_ldiv, wB_lrem, wB_goto, wB_nop, wB_ifeq, wB_ifne, wB_iflt, wB_ifge, wB_ifgt, wB_ifle, wB_icmpeq, wB_icmpne, wB_icmplt, wB_icmpge, wB_icmpgt, wB_icmple, wB_table, wB_lookup, wB_ireturn, wB_zreturn, wB_lreturn, wB_areturn, wB_return, wB_getf, wB_putf, wB_iald, wB_bald, wB_lald, wB_iast, wB_bast, wB_last, wB_min, wB_max, wB_abs, wB_minl, wB_maxl, wB_absl, wB_obj, wB_copy, wB_charAt, wB_strlen, sr_k1i, sr_k1r, sr_k1U, sr_k1l, sr_ms1, sr_ms0, sr_msn, sr_cs1, sr_csm1, sr_csm2, sr_cl1, sr_cl2, sr_szi, sr_szr, sr_szl, sr_szn, sr_tls, sr_tln, wB_il0, wB_ll0, wB_al0, wB_is0, wB_as0, wB_inc0, wB_ls0, wB_il1, wB_ll1, wB_al1, wB_is1, wB_as1, wB_inc1, wB_ls1, wB_il2, wB_ll2, wB_al2, wB_is2, wB_as2, wB_inc2, wB_ls2, wB_il3, wB_ll3, wB_al3, wB_is3, wB_as3, wB_inc3, wB_ls3, wB_il4, wB_ll4, wB_al4, wB_is4, wB_as4, wB_inc4, wB_ls4, wB_il5, wB_ll5, wB_al5, wB_is5, wB_as5, wB_inc5, wB_ls5, wB_il6, wB_ll6, wB_al6, wB_is6, wB_as6, wB_inc6, wB_ls6, wB_il7, wB_ll7, wB_al7, wB_is7, wB_as7, wB_inc7, wB_ls7, lb_7002, lb_7003, lb_7005, cl_93, cl_96, cl_94, cl_100, obj_6, fld_5_0, fld_8_9, fld_8_10, arr_8_10, fld_8_11, arr_8_11, fld_5_7, fld_6_9, arr_6_9, fld_8_12, arr_8_12, fld_8_13, arr_8_13, fld_5_8, nI_clamp, inb_nI, nI_leI, nI_ltI, nI_eq, nI_z, nI_ge0, nI_lt0, nI_add, n00, n11, n01, n10, true_or, or_true, not_true_eq_false, not_false_eq_true, bI_0, bI_z, Nat.le_refl, Nat.lt_irrefl, Nat.reduceLT, w1, ws1, wt1, e1, e7, e8, hlt, hi10, a1, a2, a3, a4, q, m_isThere ws1 x1.1 r1.1 (show t 1 i < 32 by omega), qp, d1, hs5, m_fits ws1 x1.1 r1.1 hs (show sD (crN x t i) (t 1 i) < 2 ^ 31 by omega), and_false, qf, sr_okI]
          have hv : crN x t (i + 1) = vs (crN x t i) 0 6 (xU (crN x t i) + 1) := by
            show cst _ _ _ = _
            rw [cst, if_pos ⟨q, qp⟩]
            exact if_neg qf
          refine next ch _ ?_
          rw [hv]
          refine ⟨⟨hch, Fr_sF f1 (erI (fld_5_8 w1).2) (Or.inl (by omega)), RC_sF w1 r1 (Or.inr ⟨rfl, rfl⟩), Wr_0 x1 (by omega) (by omega) (by omega), sp.tr (shp_vs (Or.inr (by omega)))⟩, fun z => KC_e (seq_vs (Or.inr ⟨rfl, by omega⟩)).sy (KC_of (q1 z) (fI_n (by omega)) (fun j a b => sF_ne (by omega)))⟩
      · simp (disch := first | assumption | omega) only [Nat.reduceAdd, Nat.reduceLeDiff, Nat.zero_le, true_and, and_true, ↓reduceIte, wB_const, wB_lconst, wB_ldc, wB_getstatic, wB_dupi, wB_dupr, wB_dup2, wB_popi, wB_iadd, wB_isub, wB_imul, wB_iand, wB_ior, wB_ixor, wB_ishl, wB_ishr, wB_iushr, wB_ineg, wB_ladd, wB_lsub, wB_lmul, wB_land, wB_lneg, wB_i2l, wB_l2i, wB_lcmp, wB_idiv, wB_irem, wB_ldiv, wB_lrem, wB_goto, wB_nop, wB_ifeq, wB_ifne, wB_iflt, wB_ifge, wB_ifgt, wB_ifle, wB_icmpeq, wB_icmpne, wB_icmplt, wB_icmpge, wB_icmpgt, wB_icmple, wB_table, wB_lookup, wB_ireturn, wB_zreturn, wB_lreturn, wB_areturn, wB_return, wB_getf, wB_putf, wB_iald, wB_bald, wB_lald, wB_iast, wB_bast, wB_last, wB_min, wB_max, wB_abs, wB_minl, wB_maxl, wB_absl, wB_obj, wB_copy, wB_charAt, wB_strlen, sr_k1i, sr_k1r, sr_k1U, sr_k1l, sr_ms1, sr_ms0, sr_msn, sr_cs1, sr_csm1, sr_csm2, sr_cl1, sr_cl2, sr_szi, sr_szr, sr_szl, sr_szn, sr_tls, sr_tln, wB_il0, wB_ll0, wB_al0, wB_is0, wB_as0, wB_inc0, wB_ls0, wB_il1, wB_ll1, wB_al1, wB_is1, wB_as1, wB_inc1, wB_ls1, wB_il2, wB_ll2, wB_al2, wB_is2, wB_as2, wB_inc2, wB_ls2, wB_il3, wB_ll3, wB_al3, wB_is3, wB_as3, wB_inc3, wB_ls3, wB_il4, wB_ll4, wB_al4, wB_is4, wB_as4, wB_inc4, wB_ls4, wB_il5, wB_ll5, wB_al5, wB_is5, wB_as5, wB_inc5, wB_ls5, wB_il6, wB_ll6, wB_al6, wB_is6, wB_as6, wB_inc6, wB_ls6, wB_il7, wB_ll7, wB_al7, wB_is7, wB_as7, wB_inc7, wB_ls7, lb_7002, lb_7003, lb_7005, cl_93, cl_96, cl_94, cl_100, obj_6, fld_5_0, fld_8_9, fld_8_10, arr_8_10, fld_8_11, arr_8_11, fld_5_7, fld_6_9, arr_6_9, fld_8_12, arr_8_12, fld_8_13, arr_8_13, fld_5_8, nI_clamp, inb_nI, nI_leI, nI_ltI, nI_eq, nI_z, nI_ge0, nI_lt0, nI_add, n00, n11, n01, n10, true_or, or_true, not_true_eq_false, not_false_eq_true, bI_0, bI_z, Nat.le_refl, Nat.lt_irrefl, Nat.reduceLT, w1, ws1, wt1, e1, e7, hlt, hi10, a1, a2, q, m_isThere ws1 x1.1 r1.1 (show t 1 i < 32 by omega), qp]
        have hv : crN x t (i + 1) = crN x t i := if_neg (fun z => qp z.2)
        refine next ch _ ?_
        rw [hv]
        exact ⟨⟨hch, f1, r1, x1, sp⟩, q1⟩
    · simp (disch := first | assumption | omega) only [Nat.reduceAdd, Nat.reduceLeDiff, Nat.zero_le, true_and, and_true, ↓reduceIte, wB_const, wB_lconst, wB_ldc, wB_getstatic, wB_dupi, wB_dupr, wB_dup2, wB_popi, wB_iadd, wB_isub, wB_imul, wB_iand, wB_ior, wB_ixor, wB_ishl, wB_ishr, wB_iushr, wB_ineg, wB_ladd, wB_lsub, wB_lmul, wB_land, wB_lneg, wB_i2l, wB_l2i, wB_lcmp, wB_idiv, wB_irem, wB_ldiv, wB_lrem, wB_goto, wB_nop, wB_ifeq, wB_ifne, wB_iflt, wB_ifge, wB_ifgt, wB_ifle, wB_icmpeq, wB_icmpne, wB_icmplt, wB_icmpge, wB_icmpgt, wB_icmple, wB_table, wB_lookup, wB_ireturn, wB_zreturn, wB_lreturn, wB_areturn, wB_return, wB_getf, wB_putf, wB_iald, wB_bald, wB_lald, wB_iast, wB_bast, wB_last, wB_min, wB_max, wB_abs, wB_minl, wB_maxl, wB_absl, wB_obj, wB_copy, wB_charAt, wB_strlen, sr_k1i, sr_k1r, sr_k1U, sr_k1l, sr_ms1, sr_ms0, sr_msn, sr_cs1, sr_csm1, sr_csm2, sr_cl1, sr_cl2, sr_szi, sr_szr, sr_szl, sr_szn, sr_tls, sr_tln, wB_il0, wB_ll0, wB_al0, wB_is0, wB_as0, wB_inc0, wB_ls0, wB_il1, wB_ll1, wB_al1, wB_is1, wB_as1, wB_inc1, wB_ls1, wB_il2, wB_ll2, wB_al2, wB_is2, wB_as2, wB_inc2, wB_ls2, wB_il3, wB_ll3, wB_al3, wB_is3, wB_as3, wB_inc3, wB_ls3, wB_il4, wB_ll4, wB_al4, wB_is4, wB_as4, wB_inc4, wB_ls4, wB_il5, wB_ll5, wB_al5, wB_is5, wB_as5, wB_inc5, wB_ls5, wB_il6, wB_ll6, wB_al6, wB_is6, wB_as6, wB_inc6, wB_ls6, wB_il7, wB_ll7, wB_al7, wB_is7, wB_as7, wB_inc7, wB_ls7, lb_7002, lb_7003, lb_7005, cl_93, cl_96, cl_94, cl_100, obj_6, fld_5_0, fld_8_9, fld_8_10, arr_8_10, fld_8_11, arr_8_11, fld_5_7, fld_6_9, arr_6_9, fld_8_12, arr_8_12, fld_8_13, arr_8_13, fld_5_8, nI_clamp, inb_nI, nI_leI, nI_ltI, nI_eq, nI_z, nI_ge0, nI_lt0, nI_add, n00, n11, n01, n10, true_or, or_true, not_true_eq_false, not_false_eq_true, bI_0, bI_z, Nat.le_refl, Nat.lt_irrefl, Nat.reduceLT, w1, ws1, wt1, e1, e7, hlt, hi10, a1, a2, q]
      have hv : crN x t (i + 1) = crN x t i := if_neg (fun z => q z.1)
      refine next ch _ ?_
      rw [hv]
      exact ⟨⟨hch, f1, r1, x1, sp⟩, q1⟩
  · rintro ch h1 ⟨⟨hch, f1, r1, x1, sp⟩, q1⟩
    have w1 := w.ss f1.1
    have ws1 := sub_5_screens w1
    have wt1 := wt.ss f1.1
    have tc1 : TC h1 T t := TC_of tc (fun a h1 h2 h3 h4 => f1.2 a (by unfold PH; omega))
    have e1 := tc1.1.2.1
    have hb := ht.2.1.1
    rw [lb_7001]
    simp (disch := first | assumption | omega) only [Nat.reduceAdd, Nat.reduceLeDiff, Nat.zero_le, true_and, and_true, ↓reduceIte, wB_const, wB_lconst, wB_ldc, wB_getstatic, wB_dupi, wB_dupr, wB_dup2, wB_popi, wB_iadd, wB_isub, wB_imul, wB_iand, wB_ior, wB_ixor, wB_ishl, wB_ishr, wB_iushr, wB_ineg, wB_ladd, wB_lsub, wB_lmul, wB_land, wB_lneg, wB_i2l, wB_l2i, wB_lcmp, wB_idiv, wB_irem, wB_ldiv, wB_lrem, wB_goto, wB_nop, wB_ifeq, wB_ifne, wB_iflt, wB_ifge, wB_ifgt, wB_ifle, wB_icmpeq, wB_icmpne, wB_icmplt, wB_icmpge, wB_icmpgt, wB_icmple, wB_table, wB_lookup, wB_ireturn, wB_zreturn, wB_lreturn, wB_areturn, wB_return, wB_getf, wB_putf, wB_iald, wB_bald, wB_lald, wB_iast, wB_bast, wB_last, wB_min, wB_max, wB_abs, wB_minl, wB_maxl, wB_absl, wB_obj, wB_copy, wB_charAt, wB_strlen, sr_k1i, sr_k1r, sr_k1U, sr_k1l, sr_ms1, sr_ms0, sr_msn, sr_cs1, sr_csm1, sr_csm2, sr_cl1, sr_cl2, sr_szi, sr_szr, sr_szl, sr_szn, sr_tls, sr_tln, wB_il0, wB_ll0, wB_al0, wB_is0, wB_as0, wB_inc0, wB_ls0, wB_il1, wB_ll1, wB_al1, wB_is1, wB_as1, wB_inc1, wB_ls1, wB_il2, wB_ll2, wB_al2, wB_is2, wB_as2, wB_inc2, wB_ls2, wB_il3, wB_ll3, wB_al3, wB_is3, wB_as3, wB_inc3, wB_ls3, wB_il4, wB_ll4, wB_al4, wB_is4, wB_as4, wB_inc4, wB_ls4, wB_il5, wB_ll5, wB_al5, wB_is5, wB_as5, wB_inc5, wB_ls5, wB_il6, wB_ll6, wB_al6, wB_is6, wB_as6, wB_inc6, wB_ls6, wB_il7, wB_ll7, wB_al7, wB_is7, wB_as7, wB_inc7, wB_ls7, lb_7002, lb_7003, lb_7005, cl_93, cl_96, cl_94, cl_100, obj_6, fld_5_0, fld_8_9, fld_8_10, arr_8_10, fld_8_11, arr_8_11, fld_5_7, fld_6_9, arr_6_9, fld_8_12, arr_8_12, fld_8_13, arr_8_13, fld_5_8, nI_clamp, inb_nI, nI_leI, nI_ltI, nI_eq, nI_z, nI_ge0, nI_lt0, nI_add, n00, n11, n01, n10, true_or, or_true, not_true_eq_false, not_false_eq_true, bI_0, bI_z, Nat.le_refl, Nat.lt_irrefl, Nat.reduceLT, wt1, e1]
    rw [lb_7004]
    by_cases c : ch = 0
    · simp (disch := first | assumption | omega) only [Nat.reduceAdd, Nat.reduceLeDiff, Nat.zero_le, true_and, and_true, ↓reduceIte, wB_const, wB_lconst, wB_ldc, wB_getstatic, wB_dupi, wB_dupr, wB_dup2, wB_popi, wB_iadd, wB_isub, wB_imul, wB_iand, wB_ior, wB_ixor, wB_ishl, wB_ishr, wB_iushr, wB_ineg, wB_ladd, wB_lsub, wB_lmul, wB_land, wB_lneg, wB_i2l, wB_l2i, wB_lcmp, wB_idiv, wB_irem, wB_ldiv, wB_lrem, wB_goto, wB_nop, wB_ifeq, wB_ifne, wB_iflt, wB_ifge, wB_ifgt, wB_ifle, wB_icmpeq, wB_icmpne, wB_icmplt, wB_icmpge, wB_icmpgt, wB_icmple, wB_table, wB_lookup, wB_ireturn, wB_zreturn, wB_lreturn, wB_areturn, wB_return, wB_getf, wB_putf, wB_iald, wB_bald, wB_lald, wB_iast, wB_bast, wB_last, wB_min, wB_max, wB_abs, wB_minl, wB_maxl, wB_absl, wB_obj, wB_copy, wB_charAt, wB_strlen, sr_k1i, sr_k1r, sr_k1U, sr_k1l, sr_ms1, sr_ms0, sr_msn, sr_cs1, sr_csm1, sr_csm2, sr_cl1, sr_cl2, sr_szi, sr_szr, sr_szl, sr_szn, sr_tls, sr_tln, wB_il0, wB_ll0, wB_al0, wB_is0, wB_as0, wB_inc0, wB_ls0, wB_il1, wB_ll1, wB_al1, wB_is1, wB_as1, wB_inc1, wB_ls1, wB_il2, wB_ll2, wB_al2, wB_is2, wB_as2, wB_inc2, wB_ls2, wB_il3, wB_ll3, wB_al3, wB_is3, wB_as3, wB_inc3, wB_ls3, wB_il4, wB_ll4, wB_al4, wB_is4, wB_as4, wB_inc4, wB_ls4, wB_il5, wB_ll5, wB_al5, wB_is5, wB_as5, wB_inc5, wB_ls5, wB_il6, wB_ll6, wB_al6, wB_is6, wB_as6, wB_inc6, wB_ls6, wB_il7, wB_ll7, wB_al7, wB_is7, wB_as7, wB_inc7, wB_ls7, lb_7002, lb_7003, lb_7005, cl_93, cl_96, cl_94, cl_100, obj_6, fld_5_0, fld_8_9, fld_8_10, arr_8_10, fld_8_11, arr_8_11, fld_5_7, fld_6_9, arr_6_9, fld_8_12, arr_8_12, fld_8_13, arr_8_13, fld_5_8, nI_clamp, inb_nI, nI_leI, nI_ltI, nI_eq, nI_z, nI_ge0, nI_lt0, nI_add, n00, n11, n01, n10, true_or, or_true, not_true_eq_false, not_false_eq_true, bI_0, bI_z, Nat.le_refl, Nat.lt_irrefl, Nat.reduceLT, c]
      exact kk h1 ⟨⟨f1, r1, q1 c, x1⟩, sp⟩
    · simp (disch := first | assumption | omega) only [Nat.reduceAdd, Nat.reduceLeDiff, Nat.zero_le, true_and, and_true, ↓reduceIte, wB_const, wB_lconst, wB_ldc, wB_getstatic, wB_dupi, wB_dupr, wB_dup2, wB_popi, wB_iadd, wB_isub, wB_imul, wB_iand, wB_ior, wB_ixor, wB_ishl, wB_ishr, wB_iushr, wB_ineg, wB_ladd, wB_lsub, wB_lmul, wB_land, wB_lneg, wB_i2l, wB_l2i, wB_lcmp, wB_idiv, wB_irem, wB_ldiv, wB_lrem, wB_goto, wB_nop, wB_ifeq, wB_ifne, wB_iflt, wB_ifge, wB_ifgt, wB_ifle, wB_icmpeq, wB_icmpne, wB_icmplt, wB_icmpge, wB_icmpgt, wB_icmple, wB_table, wB_lookup, wB_ireturn, wB_zreturn, wB_lreturn, wB_areturn, wB_return, wB_getf, wB_putf, wB_iald, wB_bald, wB_lald, wB_iast, wB_bast, wB_last, wB_min, wB_max, wB_abs, wB_minl, wB_maxl, wB_absl, wB_obj, wB_copy, wB_charAt, wB_strlen, sr_k1i, sr_k1r, sr_k1U, sr_k1l, sr_ms1, sr_ms0, sr_msn, sr_cs1, sr_csm1, sr_csm2, sr_cl1, sr_cl2, sr_szi, sr_szr, sr_szl, sr_szn, sr_tls, sr_tln, wB_il0, wB_ll0, wB_al0, wB_is0, wB_as0, wB_inc0, wB_ls0, wB_il1, wB_ll1, wB_al1, wB_is1, wB_as1, wB_inc1, wB_ls1, wB_il2, wB_ll2, wB_al2, wB_is2, wB_as2, wB_inc2, wB_ls2, wB_il3, wB_ll3, wB_al3, wB_is3, wB_as3, wB_inc3, wB_ls3, wB_il4, wB_ll4, wB_al4, wB_is4, wB_as4, wB_inc4, wB_ls4, wB_il5, wB_ll5, wB_al5, wB_is5, wB_as5, wB_inc5, wB_ls5, wB_il6, wB_ll6, wB_al6, wB_is6, wB_as6, wB_inc6, wB_ls6, wB_il7, wB_ll7, wB_al7, wB_is7, wB_as7, wB_inc7, wB_ls7, lb_7002, lb_7003, lb_7005, cl_93, cl_96, cl_94, cl_100, obj_6, fld_5_0, fld_8_9, fld_8_10, arr_8_10, fld_8_11, arr_8_11, fld_5_7, fld_6_9, arr_6_9, fld_8_12, arr_8_12, fld_8_13, arr_8_13, fld_5_8, nI_clamp, inb_nI, nI_leI, nI_ltI, nI_eq, nI_z, nI_ge0, nI_lt0, nI_add, n00, n11, n01, n10, true_or, or_true, not_true_eq_false, not_false_eq_true, bI_0, bI_z, Nat.le_refl, Nat.lt_irrefl, Nat.reduceLT, c, ws1]
      refine m_refresh (d := d) ws1 x1.1 r1.1 (fun h2 f2 k2 => ?_)
      simp (disch := first | assumption | omega) only [Nat.reduceAdd, Nat.reduceLeDiff, Nat.zero_le, true_and, and_true, ↓reduceIte, wB_const, wB_lconst, wB_ldc, wB_getstatic, wB_dupi, wB_dupr, wB_dup2, wB_popi, wB_iadd, wB_isub, wB_imul, wB_iand, wB_ior, wB_ixor, wB_ishl, wB_ishr, wB_iushr, wB_ineg, wB_ladd, wB_lsub, wB_lmul, wB_land, wB_lneg, wB_i2l, wB_l2i, wB_lcmp, wB_idiv, wB_irem, wB_ldiv, wB_lrem, wB_goto, wB_nop, wB_ifeq, wB_ifne, wB_iflt, wB_ifge, wB_ifgt, wB_ifle, wB_icmpeq, wB_icmpne, wB_icmplt, wB_icmpge, wB_icmpgt, wB_icmple, wB_table, wB_lookup, wB_ireturn, wB_zreturn, wB_lreturn, wB_areturn, wB_return, wB_getf, wB_putf, wB_iald, wB_bald, wB_lald, wB_iast, wB_bast, wB_last, wB_min, wB_max, wB_abs, wB_minl, wB_maxl, wB_absl, wB_obj, wB_copy, wB_charAt, wB_strlen, sr_k1i, sr_k1r, sr_k1U, sr_k1l, sr_ms1, sr_ms0, sr_msn, sr_cs1, sr_csm1, sr_csm2, sr_cl1, sr_cl2, sr_szi, sr_szr, sr_szl, sr_szn, sr_tls, sr_tln, wB_il0, wB_ll0, wB_al0, wB_is0, wB_as0, wB_inc0, wB_ls0, wB_il1, wB_ll1, wB_al1, wB_is1, wB_as1, wB_inc1, wB_ls1, wB_il2, wB_ll2, wB_al2, wB_is2, wB_as2, wB_inc2, wB_ls2, wB_il3, wB_ll3, wB_al3, wB_is3, wB_as3, wB_inc3, wB_ls3, wB_il4, wB_ll4, wB_al4, wB_is4, wB_as4, wB_inc4, wB_ls4, wB_il5, wB_ll5, wB_al5, wB_is5, wB_as5, wB_inc5, wB_ls5, wB_il6, wB_ll6, wB_al6, wB_is6, wB_as6, wB_inc6, wB_ls6, wB_il7, wB_ll7, wB_al7, wB_is7, wB_as7, wB_inc7, wB_ls7, lb_7002, lb_7003, lb_7005, cl_93, cl_96, cl_94, cl_100, obj_6, fld_5_0, fld_8_9, fld_8_10, arr_8_10, fld_8_11, arr_8_11, fld_5_7, fld_6_9, arr_6_9, fld_8_12, arr_8_12, fld_8_13, arr_8_13, fld_5_8, nI_clamp, inb_nI, nI_leI, nI_ltI, nI_eq, nI_z, nI_ge0, nI_lt0, nI_add, n00, n11, n01, n10, true_or, or_true, not_true_eq_false, not_false_eq_true, bI_0, bI_z, Nat.le_refl, Nat.lt_irrefl, Nat.reduceLT]
      exact kk h2 ⟨⟨f1.tr (f2.1.mono (fun q hq => Or.inl (by unfold PK at hq; omega))), RC_RF r1 f2, k2, x1⟩, sp⟩
