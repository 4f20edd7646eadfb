/-! Screens.refresh: what is kept beside the screens. -/
def whlN (x : V) : Nat → Nat
  | 0 => 0
  | s + 1 => whlN x s + if xP x / 2 ^ s % 2 = 1 then ones (sW x s) else 0
def whl (x : V) : Nat := whlN x (xN x)
def gF (x : V) (r c : Nat) : Nat := if giv x (xP x) r c = 0 then 0 else far x (giv x (xP x) r c - 1) r c
def lfI (x : V) (r c : Nat) : Int32 := if gF x r c = 0 then oI (giv x (xP x) r c) else -1
/-- one cell is as it should be -/
def K1 (h : sr_H) (S : Nat) (x : V) (r c : Nat) : Prop := hI h (S + 7) (8 * r + c) = nI (sea x (xP x) r c) ∧ hI h (S + 8) (8 * r + c) = nI (gF x r c) ∧ hI h (S + 9) (8 * r + c) = lfI x r c
def KC (h : sr_H) (S : Nat) (x : V) : Prop := fI h S 4 = nI (whl x) ∧ ∀ r c, r < xR x → c < xC x → K1 h S x r c
def PK (S : Nat) : Nat → Prop := fun a => a = S ∨ a = S + 7 ∨ a = S + 8 ∨ a = S + 9
theorem ones_le (n : Nat) : ones n ≤ 8 := by unfold ones; omega
theorem whlN_le (x : V) : ∀ n, whlN x n ≤ 8 * n
  | 0 => Nat.le_refl _
  | n + 1 => by
    have := whlN_le x n
    have := ones_le (sW x n)
    unfold whlN
    split <;> omega
theorem SC_of {h h' : sr_H} {S : Nat} {x : V} (rp : SC h S x) (h1 : ∀ k, k < 4 → fI h' S k = fI h S k) (h2 : ∀ j, 1 ≤ j → j ≤ 6 → h'.2 (S + j) = h.2 (S + j)) : SC h' S x := by
  obtain ⟨e1, e2, e3, e4, e5⟩ := rp
  refine ⟨by rw [h1 0 (by omega)]; exact e1, by rw [h1 1 (by omega)]; exact e2, by rw [h1 2 (by omega)]; exact e3, by rw [h1 3 (by omega)]; exact e4, fun s hs => ?_⟩
  obtain ⟨f1, f2, f3, f4, f5, f6⟩ := e5 s hs
  exact ⟨by rw [hI_of (h2 1 (by omega) (by omega))]; exact f1, by rw [hI_of (h2 2 (by omega) (by omega))]; exact f2, by rw [hI_of (h2 3 (by omega) (by omega))]; exact f3, by rw [hI_of (h2 4 (by omega) (by omega))]; exact f4, by rw [hI_of (h2 5 (by omega) (by omega))]; exact f5, by rw [hI_of (h2 6 (by omega) (by omega))]; exact f6⟩
/-- what refresh leaves as it is -/
def RF (h h' : sr_H) (S : Nat) : Prop := Fr h h' (PK S) ∧ ∀ k, k ≠ 4 → fI h' S k = fI h S k
theorem RF.sc {h h' : sr_H} {S : Nat} {x : V} (f : RF h h' S) (rp : SC h S x) : SC h' S x := SC_of rp (fun k hk => f.2 k (by omega)) (fun j h1 h2 => f.1.2 _ (by unfold PK; omega))
theorem RF.rf {h : sr_H} {S : Nat} : RF h h S := ⟨Fr.rf, fun _ _ => rfl⟩
theorem RF.sF {h h1 : sr_H} {S : Nat} {v : Int32} (w : Scr h1 S) (f : RF h h1 S) : RF h (sF h1 S 4 (.int v)) S := by
  refine ⟨Fr_sF f.1 (by rw [(fld_6_4 w).2]; rfl) (Or.inl rfl), fun k hk => ?_⟩
  rw [fI_sF (fld_6_4 w).1.2, if_neg (fun q => hk q.2)]
  exact f.2 k hk
theorem RF.sI {h h1 : sr_H} {S a i : Nat} {v : Int32} (f : RF h h1 S) (ha : a = S + 7 ∨ a = S + 8 ∨ a = S + 9) : RF h (sI h1 a i v) S := by
  refine ⟨Fr_sI f.1 (Or.inr ha), fun k hk => ?_⟩
  rw [fI_sI]
  exact f.2 k hk
set_option maxHeartbeats 4000000 in
set_option maxRecDepth 100000 in
theorem ref_1 {d S : Nat} {h0 : sr_H} {Q : sr_T} {x : V} (w0 : Scr h0 S) (hx : Wx x) (rp0 : SC h0 S x) (k : ∀ h, RF h0 h S → fI h S 4 = nI (whl x) → sr_W (d + 1) 100003 [.ref S, .int (nI (xN x)), sr_U, sr_U, sr_U, sr_U] [] h Q) : ∀ (n s : Nat) (h : sr_H), n + s = xN x → RF h0 h S → fI h S 4 = nI (whlN x s) → sr_W (d + 1) 100001 [.ref S, .int (nI s), sr_U, sr_U, sr_U, sr_U] [] h Q := by
  have hN := hx.2.2.1
  intro n
  induction n with
  | zero =>
    intro s h hs f e
    have : s = xN x := by omega
    subst this
    have w := w0.ss f.1.1
    have rp := f.sc rp0
    have g1 := rp.2.2.1
    rw [lb_100001]
    simp (disch := first | assumption | omega) only [Nat.reduceAdd, Nat.reduceLeDiff, Nat.zero_le, true_and, and_true, ↓reduceIte, wB_const, wB_lconst, wB_ldc, wB_getstatic, wB_dupi, wB_dupr, wB_dup2, wB_popi, wB_iadd, wB_isub, wB_imul, wB_iand, wB_ior, wB_ixor, wB_ishl, wB_ishr, wB_iushr, wB_ineg, wB_ladd, wB_lsub, wB_lmul, wB_land, wB_lneg, wB_i2l, wB_l2i, wB_lcmp, wB_idiv, wB_irem, wB_ldiv, wB_lrem, wB_goto, wB_nop, wB_ifeq, wB_ifne, wB_iflt, wB_ifge, wB_ifgt, wB_ifle, wB_icmpeq, wB_icmpne, wB_icmplt, wB_icmpge, wB_icmpgt, wB_icmple, wB_table, wB_lookup, wB_ireturn, wB_zreturn, wB_lreturn, wB_areturn, wB_return, wB_getf, wB_putf, wB_iald, wB_bald, wB_lald, wB_iast, wB_bast, wB_last, wB_min, wB_max, wB_abs, wB_minl, wB_maxl, wB_absl, wB_obj, wB_copy, wB_charAt, wB_strlen, sr_k1i, sr_k1r, sr_k1U, sr_k1l, sr_ms1, sr_ms0, sr_msn, sr_cs1, sr_csm1, sr_csm2, sr_cl1, sr_cl2, sr_szi, sr_szr, sr_szl, sr_szn, sr_tls, sr_tln, wB_il0, wB_ll0, wB_al0, wB_is0, wB_as0, wB_inc0, wB_ls0, wB_il1, wB_ll1, wB_al1, wB_is1, wB_as1, wB_inc1, wB_ls1, wB_il2, wB_ll2, wB_al2, wB_is2, wB_as2, wB_inc2, wB_ls2, wB_il3, wB_ll3, wB_al3, wB_is3, wB_as3, wB_inc3, wB_ls3, wB_il4, wB_ll4, wB_al4, wB_is4, wB_as4, wB_inc4, wB_ls4, wB_il5, wB_ll5, wB_al5, wB_is5, wB_as5, wB_inc5, wB_ls5, wB_il6, wB_ll6, wB_al6, wB_is6, wB_as6, wB_inc6, wB_ls6, wB_il7, wB_ll7, wB_al7, wB_is7, wB_as7, wB_inc7, wB_ls7, lb_100002, lb_100006, lb_100007, lb_100008, lb_100009, lb_100010, lb_100011, lb_100012, lb_100013, cl_93, cl_297, cl_99, cl_98, cl_85, obj_6, fld_6_4, fld_6_2, fld_6_10, arr_6_10, fld_6_0, fld_6_1, fld_6_3, fld_6_11, arr_6_11, fld_6_5, arr_6_5, fld_6_12, arr_6_12, fld_6_13, arr_6_13, w, g1, nI_leI, Nat.le_refl]
    exact k h f e
  | succ n ih =>
    intro s h hs f e
    have w := w0.ss f.1.1
    have rp := f.sc rp0
    have g1 := rp.2.2.1
    have hlt : ¬ xN x ≤ s := by omega
    have hsN : s < xN x := by omega
    obtain ⟨q1, q2, q3, q4, q5, q6⟩ := hx.2.2.2.2 s hsN
    obtain ⟨e1, e2, e3, e4, e5, e6⟩ := rp.2.2.2.2 s hsN
    have hs5 : s < 5 := by omega
    have hwl := whlN_le x s
    have hol := ones_le (sW x s)
    rw [lb_100001]
    by_cases hb : xP x / 2 ^ s % 2 = 1
    · simp (disch := first | assumption | omega) only [Nat.reduceAdd, Nat.reduceLeDiff, Nat.zero_le, true_and, and_true, ↓reduceIte, wB_const, wB_lconst, wB_ldc, wB_getstatic, wB_dupi, wB_dupr, wB_dup2, wB_popi, wB_iadd, wB_isub, wB_imul, wB_iand, wB_ior, wB_ixor, wB_ishl, wB_ishr, wB_iushr, wB_ineg, wB_ladd, wB_lsub, wB_lmul, wB_land, wB_lneg, wB_i2l, wB_l2i, wB_lcmp, wB_idiv, wB_irem, wB_ldiv, wB_lrem, wB_goto, wB_nop, wB_ifeq, wB_ifne, wB_iflt, wB_ifge, wB_ifgt, wB_ifle, wB_icmpeq, wB_icmpne, wB_icmplt, wB_icmpge, wB_icmpgt, wB_icmple, wB_table, wB_lookup, wB_ireturn, wB_zreturn, wB_lreturn, wB_areturn, wB_return, wB_getf, wB_putf, wB_iald, wB_bald, wB_lald, wB_iast, wB_bast, wB_last, wB_min, wB_max, wB_abs, wB_minl, wB_maxl, wB_absl, wB_obj, wB_copy, wB_charAt, wB_strlen, sr_k1i, sr_k1r, sr_k1U, sr_k1l, sr_ms1, sr_ms0, sr_msn, sr_cs1, sr_csm1, sr_csm2, sr_cl1, sr_cl2, sr_szi, sr_szr, sr_szl, sr_szn, sr_tls, sr_tln, wB_il0, wB_ll0, wB_al0, wB_is0, wB_as0, wB_inc0, wB_ls0, wB_il1, wB_ll1, wB_al1, wB_is1, wB_as1, wB_inc1, wB_ls1, wB_il2, wB_ll2, wB_al2, wB_is2, wB_as2, wB_inc2, wB_ls2, wB_il3, wB_ll3, wB_al3, wB_is3, wB_as3, wB_inc3, wB_ls3, wB_il4, wB_ll4, wB_al4, wB_is4, wB_as4, wB_inc4, wB_ls4, wB_il5, wB_ll5, wB_al5, wB_is5, wB_as5, wB_inc5, wB_ls5, wB_il6, wB_ll6, wB_al6, wB_is6, wB_as6, wB_inc6, wB_ls6, wB_il7, wB_ll7, wB_al7, wB_is7, wB_as7, wB_inc7, wB_ls7, lb_100002, lb_100006, lb_100007, lb_100008, lb_100009, lb_100010, lb_100011, lb_100012, lb_100013, cl_93, cl_297, cl_99, cl_98, cl_85, obj_6, fld_6_4, fld_6_2, fld_6_10, arr_6_10, fld_6_0, fld_6_1, fld_6_3, fld_6_11, arr_6_11, fld_6_5, arr_6_5, fld_6_12, arr_6_12, fld_6_13, arr_6_13, w, g1, nI_leI, hlt, m_isThere w hx rp (show s < 32 by omega), bI_0, hb, not_true_eq_false, e, e6, nI_clamp, inb_nI, hs5, m_bitCount, nI_add, sr_okI]
      refine ih (s + 1) _ (by omega) (f.sF w) ?_
      rw [fI_sF (fld_6_4 w).1.2, if_pos ⟨rfl, rfl⟩]
      simp [whlN, hb]
    · simp (disch := first | assumption | omega) only [Nat.reduceAdd, Nat.reduceLeDiff, Nat.zero_le, true_and, and_true, ↓reduceIte, wB_const, wB_lconst, wB_ldc, wB_getstatic, wB_dupi, wB_dupr, wB_dup2, wB_popi, wB_iadd, wB_isub, wB_imul, wB_iand, wB_ior, wB_ixor, wB_ishl, wB_ishr, wB_iushr, wB_ineg, wB_ladd, wB_lsub, wB_lmul, wB_land, wB_lneg, wB_i2l, wB_l2i, wB_lcmp, wB_idiv, wB_irem, wB_ldiv, wB_lrem, wB_goto, wB_nop, wB_ifeq, wB_ifne, wB_iflt, wB_ifge, wB_ifgt, wB_ifle, wB_icmpeq, wB_icmpne, wB_icmplt, wB_icmpge, wB_icmpgt, wB_icmple, wB_table, wB_lookup, wB_ireturn, wB_zreturn, wB_lreturn, wB_areturn, wB_return, wB_getf, wB_putf, wB_iald, wB_bald, wB_lald, wB_iast, wB_bast, wB_last, wB_min, wB_max, wB_abs, wB_minl, wB_maxl, wB_absl, wB_obj, wB_copy, wB_charAt, wB_strlen, sr_k1i, sr_k1r, sr_k1U, sr_k1l, sr_ms1, sr_ms0, sr_msn, sr_cs1, sr_csm1, sr_csm2, sr_cl1, sr_cl2, sr_szi, sr_szr, sr_szl, sr_szn, sr_tls, sr_tln, wB_il0, wB_ll0, wB_al0, wB_is0, wB_as0, wB_inc0, wB_ls0, wB_il1, wB_ll1, wB_al1, wB_is1, wB_as1, wB_inc1, wB_ls1, wB_il2, wB_ll2, wB_al2, wB_is2, wB_as2, wB_inc2, wB_ls2, wB_il3, wB_ll3, wB_al3, wB_is3, wB_as3, wB_inc3, wB_ls3, wB_il4, wB_ll4, wB_al4, wB_is4, wB_as4, wB_inc4, wB_ls4, wB_il5, wB_ll5, wB_al5, wB_is5, wB_as5, wB_inc5, wB_ls5, wB_il6, wB_ll6, wB_al6, wB_is6, wB_as6, wB_inc6, wB_ls6, wB_il7, wB_ll7, wB_al7, wB_is7, wB_as7, wB_inc7, wB_ls7, lb_100002, lb_100006, lb_100007, lb_100008, lb_100009, lb_100010, lb_100011, lb_100012, lb_100013, cl_93, cl_297, cl_99, cl_98, cl_85, obj_6, fld_6_4, fld_6_2, fld_6_10, arr_6_10, fld_6_0, fld_6_1, fld_6_3, fld_6_11, arr_6_11, fld_6_5, arr_6_5, fld_6_12, arr_6_12, fld_6_13, arr_6_13, w, g1, nI_leI, hlt, m_isThere w hx rp (show s < 32 by omega), bI_0, hb, not_false_eq_true, nI_add]
      refine ih (s + 1) _ (by omega) f ?_
      rw [e]
      simp [whlN, hb]
/-- the cells ahead of (r, c) -/
def KB (h : sr_H) (S : Nat) (x : V) (r c : Nat) : Prop := ∀ r' c', r' < xR x → c' < xC x → (r' < r ∨ (r' = r ∧ c' < c)) → K1 h S x r' c'
theorem oI_neg {g : Nat} (hg : g ≤ 5) : 0 ≤ oI g ↔ ¬ g = 0 := by
  unfold oI
  by_cases h : g = 0
  · simp only [h, if_true, not_true_eq_false, iff_false]
    decide
  · rw [if_neg h]
    exact ⟨fun _ => h, fun _ => nI_pos' (by omega)⟩
set_option maxHeartbeats 8000000 in
set_option maxRecDepth 100000 in
theorem ref_in {d S r : Nat} {h0 : sr_H} {Q : sr_T} {x : V} (w0 : Scr h0 S) (hx : Wx x) (rp0 : SC h0 S x) (hr : r < xR x) (k : ∀ h, RF h0 h S → fI h S 4 = nI (whl x) → KB h S x (r + 1) 0 → sr_W (d + 2) 100012 [.ref S, .int (nI r), .int (nI (xC x)), sr_U, sr_U, sr_U] [] h Q) : ∀ (n c : Nat) (h : sr_H), n + c = xC x → RF h0 h S → fI h S 4 = nI (whl x) → KB h S x r c → sr_W (d + 2) 100005 [.ref S, .int (nI r), .int (nI c), sr_U, sr_U, sr_U] [] h Q := by
  have hN := hx.2.2.1
  have hR := hx.1
  have hC := hx.2.1
  have hP := hx.2.2.2.1
  intro n
  induction n with
  | zero =>
    intro c h hs f e kb
    have : c = xC x := by omega
    subst this
    have w := w0.ss f.1.1
    have rp := f.sc rp0
    have g1 := rp.2.1
    rw [lb_100005]
    simp (disch := first | assumption | omega) only [Nat.reduceAdd, Nat.reduceLeDiff, Nat.zero_le, true_and, and_true, ↓reduceIte, wB_const, wB_lconst, wB_ldc, wB_getstatic, wB_dupi, wB_dupr, wB_dup2, wB_popi, wB_iadd, wB_isub, wB_imul, wB_iand, wB_ior, wB_ixor, wB_ishl, wB_ishr, wB_iushr, wB_ineg, wB_ladd, wB_lsub, wB_lmul, wB_land, wB_lneg, wB_i2l, wB_l2i, wB_lcmp, wB_idiv, wB_irem, wB_ldiv, wB_lrem, wB_goto, wB_nop, wB_ifeq, wB_ifne, wB_iflt, wB_ifge, wB_ifgt, wB_ifle, wB_icmpeq, wB_icmpne, wB_icmplt, wB_icmpge, wB_icmpgt, wB_icmple, wB_table, wB_lookup, wB_ireturn, wB_zreturn, wB_lreturn, wB_areturn, wB_return, wB_getf, wB_putf, wB_iald, wB_bald, wB_lald, wB_iast, wB_bast, wB_last, wB_min, wB_max, wB_abs, wB_minl, wB_maxl, wB_absl, wB_obj, wB_copy, wB_charAt, wB_strlen, sr_k1i, sr_k1r, sr_k1U, sr_k1l, sr_ms1, sr_ms0, sr_msn, sr_cs1, sr_csm1, sr_csm2, sr_cl1, sr_cl2, sr_szi, sr_szr, sr_szl, sr_szn, sr_tls, sr_tln, wB_il0, wB_ll0, wB_al0, wB_is0, wB_as0, wB_inc0, wB_ls0, wB_il1, wB_ll1, wB_al1, wB_is1, wB_as1, wB_inc1, wB_ls1, wB_il2, wB_ll2, wB_al2, wB_is2, wB_as2, wB_inc2, wB_ls2, wB_il3, wB_ll3, wB_al3, wB_is3, wB_as3, wB_inc3, wB_ls3, wB_il4, wB_ll4, wB_al4, wB_is4, wB_as4, wB_inc4, wB_ls4, wB_il5, wB_ll5, wB_al5, wB_is5, wB_as5, wB_inc5, wB_ls5, wB_il6, wB_ll6, wB_al6, wB_is6, wB_as6, wB_inc6, wB_ls6, wB_il7, wB_ll7, wB_al7, wB_is7, wB_as7, wB_inc7, wB_ls7, lb_100002, lb_100006, lb_100007, lb_100008, lb_100009, lb_100010, lb_100011, lb_100013, cl_93, cl_297, cl_99, cl_98, cl_85, obj_6, fld_6_4, fld_6_2, fld_6_10, arr_6_10, fld_6_0, fld_6_1, fld_6_3, fld_6_11, arr_6_11, fld_6_5, arr_6_5, fld_6_12, arr_6_12, fld_6_13, arr_6_13, w, g1, nI_leI, Nat.le_refl]
    refine k h f e (fun r' c' q1 q2 q3 => kb r' c' q1 q2 ?_)
    omega
  | succ n ih =>
    intro c h hs f e kb
    have w := w0.ss f.1.1
    have rp := f.sc rp0
    have g1 := rp.2.1
    have g2 := rp.2.2.2.1
    have hlt : ¬ xC x ≤ c := by omega
    have hg : giv x (xP x) r c ≤ xN x := (nr_le _).2
    have hcell : 8 * r + c < 64 := by omega
    have ihk : ∀ (v7 v8 v9 : Int32), v7 = nI (sea x (xP x) r c) → v8 = nI (gF x r c) → v9 = lfI x r c → sr_W (d + 2) 100005 [.ref S, .int (nI r), .int (nI (c + 1)), sr_U, sr_U, sr_U] [] (sI (sI (sI h (S + 7) (8 * r + c) v7) (S + 8) (8 * r + c) v8) (S + 9) (8 * r + c) v9) Q := by
      intro v7 v8 v9 z7 z8 z9
      refine ih (c + 1) _ (by omega) (((f.sI (Or.inl rfl)).sI (Or.inr (Or.inl rfl))).sI (Or.inr (Or.inr rfl))) ?_ ?_
      · simp only [fI_sI]
        exact e
      · intro r' c' q1 q2 q3
        have i7 := (arr_6_11 w).2.1
        have i8 : isA (sI h (S + 7) (8 * r + c) v7) (S + 8) := isA_sI.mpr (arr_6_12 w).2.1
        have i9 : isA (sI (sI h (S + 7) (8 * r + c) v7) (S + 8) (8 * r + c) v8) (S + 9) := isA_sI.mpr (isA_sI.mpr (arr_6_13 w).2.1)
        unfold K1
        rw [hI_sI i9, hI_sI i8, hI_sI i7, hI_sI i9, hI_sI i8, hI_sI i7, hI_sI i9, hI_sI i8, hI_sI i7]
        by_cases hcc : 8 * r' + c' = 8 * r + c
        · have : r' = r ∧ c' = c := by omega
          obtain ⟨rfl, rfl⟩ := this
          simp [z7, z8, z9]
        · have hb := kb r' c' q1 q2 (by omega)
          simp [hcc]
          exact hb
    rw [lb_100005]
    by_cases hz : giv x (xP x) r c = 0
    · have o1 : oI (giv x (xP x) r c) = -1 := by simp [oI, hz]
      have o2 : ¬ (0 : Int32) ≤ -1 := by decide
      simp (disch := first | assumption | omega) only [Nat.reduceAdd, Nat.reduceLeDiff, Nat.zero_le, true_and, and_true, ↓reduceIte, wB_const, wB_lconst, wB_ldc, wB_getstatic, wB_dupi, wB_dupr, wB_dup2, wB_popi, wB_iadd, wB_isub, wB_imul, wB_iand, wB_ior, wB_ixor, wB_ishl, wB_ishr, wB_iushr, wB_ineg, wB_ladd, wB_lsub, wB_lmul, wB_land, wB_lneg, wB_i2l, wB_l2i, wB_lcmp, wB_idiv, wB_irem, wB_ldiv, wB_lrem, wB_goto, wB_nop, wB_ifeq, wB_ifne, wB_iflt, wB_ifge, wB_ifgt, wB_ifle, wB_icmpeq, wB_icmpne, wB_icmplt, wB_icmpge, wB_icmpgt, wB_icmple, wB_table, wB_lookup, wB_ireturn, wB_zreturn, wB_lreturn, wB_areturn, wB_return, wB_getf, wB_putf, wB_iald, wB_bald, wB_lald, wB_iast, wB_bast, wB_last, wB_min, wB_max, wB_abs, wB_minl, wB_maxl, wB_absl, wB_obj, wB_copy, wB_charAt, wB_strlen, sr_k1i, sr_k1r, sr_k1U, sr_k1l, sr_ms1, sr_ms0, sr_msn, sr_cs1, sr_csm1, sr_csm2, sr_cl1, sr_cl2, sr_szi, sr_szr, sr_szl, sr_szn, sr_tls, sr_tln, wB_il0, wB_ll0, wB_al0, wB_is0, wB_as0, wB_inc0, wB_ls0, wB_il1, wB_ll1, wB_al1, wB_is1, wB_as1, wB_inc1, wB_ls1, wB_il2, wB_ll2, wB_al2, wB_is2, wB_as2, wB_inc2, wB_ls2, wB_il3, wB_ll3, wB_al3, wB_is3, wB_as3, wB_inc3, wB_ls3, wB_il4, wB_ll4, wB_al4, wB_is4, wB_as4, wB_inc4, wB_ls4, wB_il5, wB_ll5, wB_al5, wB_is5, wB_as5, wB_inc5, wB_ls5, wB_il6, wB_ll6, wB_al6, wB_is6, wB_as6, wB_inc6, wB_ls6, wB_il7, wB_ll7, wB_al7, wB_is7, wB_as7, wB_inc7, wB_ls7, lb_100002, lb_100006, lb_100007, lb_100008, lb_100009, lb_100010, lb_100011, lb_100013, cl_93, cl_297, cl_99, cl_98, cl_85, obj_6, fld_6_4, fld_6_2, fld_6_10, arr_6_10, fld_6_0, fld_6_1, fld_6_3, fld_6_11, arr_6_11, fld_6_5, arr_6_5, fld_6_12, arr_6_12, fld_6_13, arr_6_13, w, g1, g2, nI_leI, hlt, m_nearestOf w hx rp (show xP x < 2 ^ 31 by omega) (show r < 64 by omega) (show c < 64 by omega), o1, o2, m_cellOf, nI_clamp, inb_nI, hcell, n00, nI_add, lI_sI, isA_sI, isI_sI, sI_1, Scr_sI, hF_sI, oF_sI]
      refine ihk _ _ _ ?_ ?_ ?_
      · simp [sea, hz]
      · simp [gF, hz]
      · simp [lfI, gF, hz, oI]
    · obtain ⟨s, hs'⟩ : ∃ s, giv x (xP x) r c = s + 1 := ⟨giv x (xP x) r c - 1, by omega⟩
      have hsN : s < xN x := by omega
      have o1 : oI (giv x (xP x) r c) = nI s := by simp [oI, hs']
      obtain ⟨e1, e2, e3, e4, e5, e6⟩ := rp.2.2.2.2 s hsN
      have hs5 : s < 5 := by omega
      have hfl := far_le (x := x) (s := s) (r := r) (c := c)
      have hg1 : gF x r c = far x s r c := by simp [gF, hs']
      by_cases hf0 : far x s r c = 0
      · simp (disch := first | assumption | omega) only [Nat.reduceAdd, Nat.reduceLeDiff, Nat.zero_le, true_and, and_true, ↓reduceIte, wB_const, wB_lconst, wB_ldc, wB_getstatic, wB_dupi, wB_dupr, wB_dup2, wB_popi, wB_iadd, wB_isub, wB_imul, wB_iand, wB_ior, wB_ixor, wB_ishl, wB_ishr, wB_iushr, wB_ineg, wB_ladd, wB_lsub, wB_lmul, wB_land, wB_lneg, wB_i2l, wB_l2i, wB_lcmp, wB_idiv, wB_irem, wB_ldiv, wB_lrem, wB_goto, wB_nop, wB_ifeq, wB_ifne, wB_iflt, wB_ifge, wB_ifgt, wB_ifle, wB_icmpeq, wB_icmpne, wB_icmplt, wB_icmpge, wB_icmpgt, wB_icmple, wB_table, wB_lookup, wB_ireturn, wB_zreturn, wB_lreturn, wB_areturn, wB_return, wB_getf, wB_putf, wB_iald, wB_bald, wB_lald, wB_iast, wB_bast, wB_last, wB_min, wB_max, wB_abs, wB_minl, wB_maxl, wB_absl, wB_obj, wB_copy, wB_charAt, wB_strlen, sr_k1i, sr_k1r, sr_k1U, sr_k1l, sr_ms1, sr_ms0, sr_msn, sr_cs1, sr_csm1, sr_csm2, sr_cl1, sr_cl2, sr_szi, sr_szr, sr_szl, sr_szn, sr_tls, sr_tln, wB_il0, wB_ll0, wB_al0, wB_is0, wB_as0, wB_inc0, wB_ls0, wB_il1, wB_ll1, wB_al1, wB_is1, wB_as1, wB_inc1, wB_ls1, wB_il2, wB_ll2, wB_al2, wB_is2, wB_as2, wB_inc2, wB_ls2, wB_il3, wB_ll3, wB_al3, wB_is3, wB_as3, wB_inc3, wB_ls3, wB_il4, wB_ll4, wB_al4, wB_is4, wB_as4, wB_inc4, wB_ls4, wB_il5, wB_ll5, wB_al5, wB_is5, wB_as5, wB_inc5, wB_ls5, wB_il6, wB_ll6, wB_al6, wB_is6, wB_as6, wB_inc6, wB_ls6, wB_il7, wB_ll7, wB_al7, wB_is7, wB_as7, wB_inc7, wB_ls7, lb_100002, lb_100006, lb_100007, lb_100008, lb_100009, lb_100010, lb_100011, lb_100013, cl_93, cl_297, cl_99, cl_98, cl_85, obj_6, fld_6_4, fld_6_2, fld_6_10, arr_6_10, fld_6_0, fld_6_1, fld_6_3, fld_6_11, arr_6_11, fld_6_5, arr_6_5, fld_6_12, arr_6_12, fld_6_13, arr_6_13, w, g1, g2, nI_leI, hlt, m_nearestOf w hx rp (show xP x < 2 ^ 31 by omega) (show r < 64 by omega) (show c < 64 by omega), o1, nI_ge0, m_farFrom w hx rp hsN (show r < 64 by omega) (show c < 64 by omega), m_cellOf, nI_clamp, inb_nI, hcell, hs5, e1, nI_z, hf0, n00, nI_add, lI_sI, isA_sI, isI_sI, sI_1, Scr_sI, hF_sI, oF_sI]
        refine ihk _ _ _ ?_ ?_ ?_
        · simp [sea, hs']
        · simp [hg1, hf0]
        · simp [lfI, hg1, hf0, o1]
      · simp (disch := first | assumption | omega) only [Nat.reduceAdd, Nat.reduceLeDiff, Nat.zero_le, true_and, and_true, ↓reduceIte, wB_const, wB_lconst, wB_ldc, wB_getstatic, wB_dupi, wB_dupr, wB_dup2, wB_popi, wB_iadd, wB_isub, wB_imul, wB_iand, wB_ior, wB_ixor, wB_ishl, wB_ishr, wB_iushr, wB_ineg, wB_ladd, wB_lsub, wB_lmul, wB_land, wB_lneg, wB_i2l, wB_l2i, wB_lcmp, wB_idiv, wB_irem, wB_ldiv, wB_lrem, wB_goto, wB_nop, wB_ifeq, wB_ifne, wB_iflt, wB_ifge, wB_ifgt, wB_ifle, wB_icmpeq, wB_icmpne, wB_icmplt, wB_icmpge, wB_icmpgt, wB_icmple, wB_table, wB_lookup, wB_ireturn, wB_zreturn, wB_lreturn, wB_areturn, wB_return, wB_getf, wB_putf, wB_iald, wB_bald, wB_lald, wB_iast, wB_bast, wB_last, wB_min, wB_max, wB_abs, wB_minl, wB_maxl, wB_absl, wB_obj, wB_copy, wB_charAt, wB_strlen, sr_k1i, sr_k1r, sr_k1U, sr_k1l, sr_ms1, sr_ms0, sr_msn, sr_cs1, sr_csm1, sr_csm2, sr_cl1, sr_cl2, sr_szi, sr_szr, sr_szl, sr_szn, sr_tls, sr_tln, wB_il0, wB_ll0, wB_al0, wB_is0, wB_as0, wB_inc0, wB_ls0, wB_il1, wB_ll1, wB_al1, wB_is1, wB_as1, wB_inc1, wB_ls1, wB_il2, wB_ll2, wB_al2, wB_is2, wB_as2, wB_inc2, wB_ls2, wB_il3, wB_ll3, wB_al3, wB_is3, wB_as3, wB_inc3, wB_ls3, wB_il4, wB_ll4, wB_al4, wB_is4, wB_as4, wB_inc4, wB_ls4, wB_il5, wB_ll5, wB_al5, wB_is5, wB_as5, wB_inc5, wB_ls5, wB_il6, wB_ll6, wB_al6, wB_is6, wB_as6, wB_inc6, wB_ls6, wB_il7, wB_ll7, wB_al7, wB_is7, wB_as7, wB_inc7, wB_ls7, lb_100002, lb_100006, lb_100007, lb_100008, lb_100009, lb_100010, lb_100011, lb_100013, cl_93, cl_297, cl_99, cl_98, cl_85, obj_6, fld_6_4, fld_6_2, fld_6_10, arr_6_10, fld_6_0, fld_6_1, fld_6_3, fld_6_11, arr_6_11, fld_6_5, arr_6_5, fld_6_12, arr_6_12, fld_6_13, arr_6_13, w, g1, g2, nI_leI, hlt, m_nearestOf w hx rp (show xP x < 2 ^ 31 by omega) (show r < 64 by omega) (show c < 64 by omega), o1, nI_ge0, m_farFrom w hx rp hsN (show r < 64 by omega) (show c < 64 by omega), m_cellOf, nI_clamp, inb_nI, hcell, hs5, e1, nI_z, hf0, nI_add, lI_sI, isA_sI, isI_sI, sI_1, Scr_sI, hF_sI, oF_sI]
        refine ihk _ _ _ ?_ ?_ ?_
        · simp [sea, hs']
        · simp [hg1]
        · simp [lfI, hg1, hf0]
