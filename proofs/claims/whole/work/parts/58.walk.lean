/-! Ways: steps. -/
def inr (x : V) (k : Nat) : Prop := k / 8 < xR x ∧ k % 8 < xC x
theorem bynd_in {x : V} {r c w k : Nat} (hx : Wx x) (h : bynd x r c w = k + 1) : k < 64 ∧ inr x k := by
  have h1 := hx.1
  have h2 := hx.2.1
  rcases bynd_sp (r := r) (c := c) (w := w) hx with e | ⟨r', c', e, a1, a2⟩
  · omega
  · have e2 : k = 8 * r' + c' := by omega
    subst e2
    refine ⟨by omega, ?_⟩
    unfold inr
    omega
def cnf (f : Nat → Nat) (n : Nat) : Nat := sm (fun k => tf (f k < 1000000) inferInstance) n
theorem cnf_up {f : Nat → Nat} {k v : Nat} (hk : ¬ f k < 1000000) (hv : v < 1000000) : ∀ n, cnf (up f k v) n = cnf f n + if k < n then 1 else 0
  | 0 => by simp [cnf, sm]
  | n + 1 => by
    have ih := cnf_up hk hv n
    have e1 : cnf (up f k v) (n + 1) = cnf (up f k v) n + tf (up f k v n < 1000000) inferInstance := rfl
    have e2 : cnf f (n + 1) = cnf f n + tf (f n < 1000000) inferInstance := rfl
    rw [e1, e2, ih]
    by_cases q : n = k
    · subst q
      rw [tf_1 (show up f n v n < 1000000 by rw [up_y]; exact hv), tf_0 hk, if_neg (by omega), if_pos (by omega)]
    · have e3 : up f k v n = f n := up_n q
      rw [e3]
      by_cases z : k < n
      · rw [if_pos z, if_pos (by omega)]
        omega
      · rw [if_neg z, if_neg (by omega)]
        omega
theorem cnf_le {f : Nat → Nat} (n : Nat) : cnf f n ≤ n := by
  have := sm_le (f := fun k => tf (f k < 1000000) inferInstance) (b := 1) (fun n => tf_le) n
  unfold cnf
  omega
def BI (x : V) (s : Nat) (f q : Nat → Nat) (n i : Nat) : Prop := f s = 0 ∧ n = cnf f 64 ∧ (∀ k, 64 ≤ k → f k = 1000000) ∧ (∀ j, j < n → q j < 64 ∧ inr x (q j) ∧ f (q j) ≤ j) ∧ (∀ k, f k < 1000000 ↔ ∃ j, j < n ∧ q j = k) ∧ (∀ k, f k ≤ 1000000) ∧ (∀ j j', j ≤ j' → j' < n → f (q j) ≤ f (q j')) ∧ (∀ j, j < i → ∀ k, eg x (q j) k → f k ≤ f (q j) + 1) ∧ ∀ k, f k < 1000000 → ∃ m, rch (eg x) gS s m k (f k)
/-- where the walk stands within a cell -/
def BW (x : V) (f q : Nat → Nat) (n i w : Nat) : Prop := i < n ∧ (∀ j, j < n → f (q j) ≤ f (q i) + 1) ∧ ∀ w', w' < w → ∀ k, bynd x (q i / 8) (q i % 8) w' = k + 1 → f k ≤ f (q i) + 1
theorem BI_up {x : V} {s n i w k : Nat} {f q : Nat → Nat} (hx : Wx x) (hw : w < 4) (b : BI x s f q n i) (c : BW x f q n i w) (hk : bynd x (q i / 8) (q i % 8) w = k + 1) (hf : f k = 1000000) : (n < 64 ∧ BI x s (up f k (f (q i) + 1)) (up q n k) (n + 1) i) ∧ BW x (up f k (f (q i) + 1)) (up q n k) (n + 1) i (w + 1) := by
  obtain ⟨b1, b2, b3, b4, b5, b6, b7, b8, b9⟩ := b
  obtain ⟨c1, c2, c3⟩ := c
  obtain ⟨k1, k2⟩ := bynd_in hx hk
  have hn64 : n ≤ 64 := by rw [b2]; exact cnf_le 64
  obtain ⟨i1, i2, i3⟩ := b4 i c1
  have hc := cnf_up (f := f) (k := k) (v := f (q i) + 1) (by omega) (by omega) 64
  rw [if_pos k1, ← b2] at hc
  have hc2 := cnf_le (f := up f k (f (q i) + 1)) 64
  have hq : ∀ j, j < n → up q n k j = q j := fun j hj => up_n (by omega)
  have hqk : ∀ j, j < n → ¬ q j = k := fun j hj z => by
    have := (b5 k).mpr ⟨j, hj, z⟩
    omega
  have hfj : ∀ j, j < n → up f k (f (q i) + 1) (q j) = f (q j) := fun j hj => up_n (hqk j hj)
  have hle : ∀ k', up f k (f (q i) + 1) k' ≤ f k' := fun k' => by
    by_cases z : k' = k
    · rw [z, up_y]; omega
    · rw [up_n z]; exact Nat.le_refl _
  refine ⟨⟨by omega, ?_, by omega, ?_, ?_, ?_, ?_, ?_, ?_, ?_⟩, by omega, ?_, ?_⟩
  · rw [up_n (fun z => by rw [← z] at hf; omega)]; exact b1
  · intro k' hk'
    rw [up_n (by omega)]; exact b3 k' hk'
  · intro j hj
    by_cases z : j = n
    · subst z
      rw [up_y, up_y]
      exact ⟨k1, k2, by omega⟩
    · rw [hq j (by omega), hfj j (by omega)]
      exact b4 j (by omega)
  · intro k'
    constructor
    · intro h1
      by_cases z : k' = k
      · exact ⟨n, by omega, by rw [up_y, z]⟩
      · rw [up_n z] at h1
        obtain ⟨j, j1, j2⟩ := (b5 k').mp h1
        exact ⟨j, by omega, by rw [hq j j1]; exact j2⟩
    · rintro ⟨j, j1, j2⟩
      by_cases z : j = n
      · subst z
        rw [up_y] at j2
        subst j2
        rw [up_y]; omega
      · rw [hq j (by omega)] at j2
        have := hle k'
        have := (b5 k').mpr ⟨j, by omega, j2⟩
        omega
  · intro k'
    have := hle k'
    have := b6 k'
    omega
  · intro j j' h1 h2
    by_cases z : j' = n
    · subst z
      rw [up_y, up_y]
      by_cases z2 : j = j'
      · subst z2
        rw [up_y, up_y]; exact Nat.le_refl _
      · rw [hq j (by omega), hfj j (by omega)]
        exact c2 j (by omega)
    · rw [hq j (by omega), hfj j (by omega), hq j' (by omega), hfj j' (by omega)]
      exact b7 j j' h1 (by omega)
  · intro j hj k' he
    rw [hq j (by omega)] at he
    rw [hq j (by omega), hfj j (by omega)]
    have := hle k'
    have := b8 j hj k' he
    omega
  · intro k' h1
    by_cases z : k' = k
    · rw [z, up_y]
      obtain ⟨m, hm⟩ := b9 (q i) (by omega)
      exact ⟨m + 1, q i, f (q i), hm, ⟨w, hw, hk⟩, rfl⟩
    · rw [up_n z] at h1 ⊢
      exact b9 k' h1
  · intro j hj
    rw [hq i c1, hfj i c1]
    by_cases z : j = n
    · subst z
      rw [up_y, up_y]; exact Nat.le_refl _
    · rw [hq j (by omega), hfj j (by omega)]
      exact c2 j (by omega)
  · intro w' hw' k' he
    rw [hq i c1] at he
    rw [hq i c1, hfj i c1]
    by_cases z : w' = w
    · subst z
      have : k' = k := by omega
      rw [this, up_y]; exact Nat.le_refl _
    · have := hle k'
      have := c3 w' (by omega) k' he
      omega
theorem BW_nx {x : V} {n i w : Nat} {f q : Nat → Nat} (c : BW x f q n i w) (h : ∀ k, bynd x (q i / 8) (q i % 8) w = k + 1 → f k ≤ f (q i) + 1) : BW x f q n i (w + 1) := by
  refine ⟨c.1, c.2.1, fun w' hw' k hk => ?_⟩
  by_cases z : w' = w
  · subst z; exact h k hk
  · exact c.2.2 w' (by omega) k hk
def PW (L : Nat) : Nat → Prop := fun a => a = L ∨ a = 132 ∨ a = 133
def BH (h0 h : sr_H) (L : Nat) (f q : Nat → Nat) (n : Nat) : Prop := Fr h0 h (PW L) ∧ AR h L f ∧ ∀ j, j < n → hI h 132 j = nI (q j)
set_option maxHeartbeats 4000000 in
set_option maxRecDepth 100000 in
theorem wk_way {d S L s i n w : Nat} {h0 h : sr_H} {Q : sr_T} {x : V} {f q : Nat → Nat} (w0 : Wys h0) (ws0 : Scr h0 S) (hS : S + 9 < 130) (hL : L = 130 ∨ L = 131) (hm : h0.1.1 ≤ 1000) (hx : Wx x) (rp0 : SC h0 S x) (kc0 : KC h0 S x) (hw : w < 4) (bh : BH h0 h L f q n) (b : BI x s f q n i) (c : BW x f q n i w) (next : ∀ f' q' n' h', BH h0 h' L f' q' n' → BI x s f' q' n' i → BW x f' q' n' i (w + 1) → q' i = q i → sr_W (d + 2) 122002 [.ref 129, .ref S, sr_U, .ref L, .int (nI n'), .int (nI i), .int (nI (q i)), .int (nI (w + 1)), sr_U] [] h' Q) : sr_W (d + 2) 122002 [.ref 129, .ref S, sr_U, .ref L, .int (nI n), .int (nI i), .int (nI (q i)), .int (nI w), sr_U] [] h Q := by
  obtain ⟨f1, a1, l1⟩ := bh
  have w1 := w0.ss f1.1
  have ws1 := ws0.ss f1.1
  obtain ⟨la, lb, lc, ld⟩ := Wl w1 hL
  have rp1 : SC h S x := SC_of rp0 (fun k hk => fI_of (f1.2 _ (by unfold PW; omega))) (fun j h1 h2 => f1.2 _ (by unfold PW; omega))
  have kc1 : KC h S x := KC_of kc0 (fI_of (f1.2 _ (by unfold PW; omega))) (fun j h1 h2 => f1.2 _ (by unfold PW; omega))
  have hm1 : h.1.1 ≤ 1000 := by rw [f1.1.1]; exact hm
  obtain ⟨i1, i2, i3⟩ := b.2.2.2.1 i c.1
  have hn64 : n ≤ 64 := by rw [b.2.1]; exact cnf_le 64
  have m1 := fun (Q : sr_T) => m_beyond (d := d) (Q := Q) ws1 hx rp1 kc1 (show q i / 8 < 64 by omega) (show q i % 8 < 64 by omega) hw hm1
  have hlt : ¬ 4 ≤ w := by omega
  rw [lb_122002]
  by_cases z : bynd x (q i / 8) (q i % 8) w = 0
  · have oz : oI 0 < 0 := by decide
    simp (disch := first | assumption | omega) only [Nat.reduceAdd, Nat.reduceLeDiff, Nat.zero_le, true_and, and_true, ↓reduceIte, wB_const, wB_lconst, wB_ldc, wB_getstatic, wB_dupi, wB_dupr, wB_dup2, wB_popi, wB_iadd, wB_isub, wB_imul, wB_iand, wB_ior, wB_ixor, wB_ishl, wB_ishr, wB_iushr, wB_ineg, wB_ladd, wB_lsub, wB_lmul, wB_land, wB_lneg, wB_i2l, wB_l2i, wB_lcmp, wB_idiv, wB_irem, wB_ldiv, wB_lrem, wB_goto, wB_nop, wB_ifeq, wB_ifne, wB_iflt, wB_ifge, wB_ifgt, wB_ifle, wB_icmpeq, wB_icmpne, wB_icmplt, wB_icmpge, wB_icmpgt, wB_icmple, wB_table, wB_lookup, wB_ireturn, wB_zreturn, wB_lreturn, wB_areturn, wB_return, wB_getf, wB_putf, wB_iald, wB_bald, wB_lald, wB_iast, wB_bast, wB_last, wB_min, wB_max, wB_abs, wB_minl, wB_maxl, wB_absl, wB_obj, wB_copy, wB_charAt, wB_strlen, sr_k1i, sr_k1r, sr_k1U, sr_k1l, sr_ms1, sr_ms0, sr_msn, sr_cs1, sr_csm1, sr_csm2, sr_cl1, sr_cl2, sr_szi, sr_szr, sr_szl, sr_szn, sr_tls, sr_tln, wB_il0, wB_ll0, wB_al0, wB_is0, wB_as0, wB_inc0, wB_ls0, wB_il1, wB_ll1, wB_al1, wB_is1, wB_as1, wB_inc1, wB_ls1, wB_il2, wB_ll2, wB_al2, wB_is2, wB_as2, wB_inc2, wB_ls2, wB_il3, wB_ll3, wB_al3, wB_is3, wB_as3, wB_inc3, wB_ls3, wB_il4, wB_ll4, wB_al4, wB_is4, wB_as4, wB_inc4, wB_ls4, wB_il5, wB_ll5, wB_al5, wB_is5, wB_as5, wB_inc5, wB_ls5, wB_il6, wB_ll6, wB_al6, wB_is6, wB_as6, wB_inc6, wB_ls6, wB_il7, wB_ll7, wB_al7, wB_is7, wB_as7, wB_inc7, wB_ls7, wB_il8, wB_ll8, wB_al8, wB_is8, wB_as8, wB_inc8, wB_ls8, wB_il9, wB_ll9, wB_al9, wB_is9, wB_as9, wB_inc9, wB_ls9, wB_il10, wB_ll10, wB_al10, wB_is10, wB_as10, wB_inc10, wB_ls10, wB_il11, wB_ll11, wB_al11, wB_is11, wB_as11, wB_inc11, wB_ls11, wB_il12, wB_ll12, wB_al12, wB_is12, wB_as12, wB_inc12, wB_ls12, wB_il13, wB_ll13, wB_al13, wB_is13, wB_as13, wB_inc13, wB_ls13, wB_il14, wB_ll14, wB_al14, wB_is14, wB_as14, wB_inc14, wB_ls14, wB_il15, wB_ll15, wB_al15, wB_is15, wB_as15, wB_inc15, lb_122003, lb_122005, cl_121, cl_86, cl_87, cl_101, obj_9, obj_6, fld_9_2, arr_9_2, nI_clamp, inb_nI, nI_leI, nI_ltI, nI_eq, nI_z, nI_ge0, nI_lt0, nI_add, n00, n11, n01, n10, true_or, or_true, not_true_eq_false, not_false_eq_true, bI_0, bI_z, Nat.le_refl, Nat.lt_irrefl, Nat.reduceLT, Nat.reduceEqDiff, nI_gt0, nI_le0, hlt, ws1, m_rowOf, m_columnOf, m1, z, oz]
    exact next f q n h ⟨f1, a1, l1⟩ b (BW_nx c (fun k hk => by omega)) rfl
  · obtain ⟨k, hk⟩ : ∃ k, bynd x (q i / 8) (q i % 8) w = k + 1 := ⟨bynd x (q i / 8) (q i % 8) w - 1, by omega⟩
    obtain ⟨k1, k2⟩ := bynd_in hx hk
    have ak := a1 k k1
    have bk := b.2.2.2.2.2.1 k
    by_cases y : f k = 1000000
    · obtain ⟨⟨n64, b'⟩, c'⟩ := BI_up hx hw b c hk y
      have aq := a1 (q i) i1
      simp (disch := first | assumption | omega | (simp (disch := assumption) only [sr_szn, sr_szi, sr_szr, sr_szl, Nat.reduceAdd, Nat.reduceLeDiff, Nat.zero_le, Nat.le_refl, isA_sI, isA_sJ, isA_sC, isA_sF, isI_sI, isI_sJ, isI_sC, isI_sF, isJ_sI, isJ_sJ, isJ_sC, isJ_sF, oK_sI, oK_sJ, oK_sC, oK_sF, lI_sI, lI_sJ, lI_sC, lI_sF, oC_sI, oC_sJ, oC_sC, oC_sF, obj_9, obj_6, fld_9_2, arr_9_2])) only [Nat.reduceAdd, Nat.reduceLeDiff, Nat.zero_le, true_and, and_true, ↓reduceIte, wB_const, wB_lconst, wB_ldc, wB_getstatic, wB_dupi, wB_dupr, wB_dup2, wB_popi, wB_iadd, wB_isub, wB_imul, wB_iand, wB_ior, wB_ixor, wB_ishl, wB_ishr, wB_iushr, wB_ineg, wB_ladd, wB_lsub, wB_lmul, wB_land, wB_lneg, wB_i2l, wB_l2i, wB_lcmp, wB_idiv, wB_irem, wB_ldiv, wB_lrem, wB_goto, wB_nop, wB_ifeq, wB_ifne, wB_iflt, wB_ifge, wB_ifgt, wB_ifle, wB_icmpeq, wB_icmpne, wB_icmplt, wB_icmpge, wB_icmpgt, wB_icmple, wB_table, wB_lookup, wB_ireturn, wB_zreturn, wB_lreturn, wB_areturn, wB_return, wB_getf, wB_putf, wB_iald, wB_bald, wB_lald, wB_iast, wB_bast, wB_last, wB_min, wB_max, wB_abs, wB_minl, wB_maxl, wB_absl, wB_obj, wB_copy, wB_charAt, wB_strlen, sr_k1i, sr_k1r, sr_k1U, sr_k1l, sr_ms1, sr_ms0, sr_msn, sr_cs1, sr_csm1, sr_csm2, sr_cl1, sr_cl2, sr_szi, sr_szr, sr_szl, sr_szn, sr_tls, sr_tln, wB_il0, wB_ll0, wB_al0, wB_is0, wB_as0, wB_inc0, wB_ls0, wB_il1, wB_ll1, wB_al1, wB_is1, wB_as1, wB_inc1, wB_ls1, wB_il2, wB_ll2, wB_al2, wB_is2, wB_as2, wB_inc2, wB_ls2, wB_il3, wB_ll3, wB_al3, wB_is3, wB_as3, wB_inc3, wB_ls3, wB_il4, wB_ll4, wB_al4, wB_is4, wB_as4, wB_inc4, wB_ls4, wB_il5, wB_ll5, wB_al5, wB_is5, wB_as5, wB_inc5, wB_ls5, wB_il6, wB_ll6, wB_al6, wB_is6, wB_as6, wB_inc6, wB_ls6, wB_il7, wB_ll7, wB_al7, wB_is7, wB_as7, wB_inc7, wB_ls7, wB_il8, wB_ll8, wB_al8, wB_is8, wB_as8, wB_inc8, wB_ls8, wB_il9, wB_ll9, wB_al9, wB_is9, wB_as9, wB_inc9, wB_ls9, wB_il10, wB_ll10, wB_al10, wB_is10, wB_as10, wB_inc10, wB_ls10, wB_il11, wB_ll11, wB_al11, wB_is11, wB_as11, wB_inc11, wB_ls11, wB_il12, wB_ll12, wB_al12, wB_is12, wB_as12, wB_inc12, wB_ls12, wB_il13, wB_ll13, wB_al13, wB_is13, wB_as13, wB_inc13, wB_ls13, wB_il14, wB_ll14, wB_al14, wB_is14, wB_as14, wB_inc14, wB_ls14, wB_il15, wB_ll15, wB_al15, wB_is15, wB_as15, wB_inc15, lb_122003, lb_122005, cl_121, cl_86, cl_87, cl_101, obj_9, obj_6, fld_9_2, arr_9_2, nI_clamp, inb_nI, nI_leI, nI_ltI, nI_eq, nI_z, nI_ge0, nI_lt0, nI_add, n00, n11, n01, n10, true_or, or_true, not_true_eq_false, not_false_eq_true, bI_0, bI_z, Nat.le_refl, Nat.lt_irrefl, Nat.reduceLT, Nat.reduceEqDiff, nI_gt0, nI_le0, hlt, w1, ws1, m_rowOf, m_columnOf, m1, hk, oI_s, ak, aq, y, k1, i1, la, ld, n64, show ¬ 64 ≤ n by omega, lI_sI, lI_sJ, lI_sC, lI_sF, lZ_sI, lZ_sJ, lZ_sC, lZ_sF, lJ_sI, lJ_sJ, lJ_sC, lJ_sF, oC_sI, oC_sJ, oC_sC, oC_sF, oF_sI, oF_sJ, oF_sC, oF_sF, sI_1, sJ_1, sF_1, sC_1, sr_okI, sr_okJ, sr_okR, sr_okZ, hI_sJ, hI_sF, hJ_sI, hJ_sF, hJ_sC, hF_sI, hF_sJ, hF_sC, fI_sI, fI_sJ, fI_sC, fJ_sI, fJ_sJ, fJ_sC, hI_n, hI_y, hJ_n, hJ_y, hF_n, hF_y, fI_n, fI_y, fJ_n, fJ_y, hI_c]
      refine next _ _ (n + 1) _ ⟨Fr_sI (Fr_sI f1 (Or.inl rfl)) (Or.inr (Or.inl rfl)), ?_, fun j hj => ?_⟩ b' c' (up_n (by have := c.1; omega))
      · exact AR_of (AR_up lb a1) (sI_ne (by omega))
      · by_cases e : j = n
        · rw [e, hI_y (isA_sI.mpr (arr_9_2 w1).2.1), up_y]
        · rw [hI_n (fun z => e z.2), hI_n (by omega), up_n e]
          exact l1 j (by omega)
    · simp (disch := first | assumption | omega) only [Nat.reduceAdd, Nat.reduceLeDiff, Nat.zero_le, true_and, and_true, ↓reduceIte, wB_const, wB_lconst, wB_ldc, wB_getstatic, wB_dupi, wB_dupr, wB_dup2, wB_popi, wB_iadd, wB_isub, wB_imul, wB_iand, wB_ior, wB_ixor, wB_ishl, wB_ishr, wB_iushr, wB_ineg, wB_ladd, wB_lsub, wB_lmul, wB_land, wB_lneg, wB_i2l, wB_l2i, wB_lcmp, wB_idiv, wB_irem, wB_ldiv, wB_lrem, wB_goto, wB_nop, wB_ifeq, wB_ifne, wB_iflt, wB_ifge, wB_ifgt, wB_ifle, wB_icmpeq, wB_icmpne, wB_icmplt, wB_icmpge, wB_icmpgt, wB_icmple, wB_table, wB_lookup, wB_ireturn, wB_zreturn, wB_lreturn, wB_areturn, wB_return, wB_getf, wB_putf, wB_iald, wB_bald, wB_lald, wB_iast, wB_bast, wB_last, wB_min, wB_max, wB_abs, wB_minl, wB_maxl, wB_absl, wB_obj, wB_copy, wB_charAt, wB_strlen, sr_k1i, sr_k1r, sr_k1U, sr_k1l, sr_ms1, sr_ms0, sr_msn, sr_cs1, sr_csm1, sr_csm2, sr_cl1, sr_cl2, sr_szi, sr_szr, sr_szl, sr_szn, sr_tls, sr_tln, wB_il0, wB_ll0, wB_al0, wB_is0, wB_as0, wB_inc0, wB_ls0, wB_il1, wB_ll1, wB_al1, wB_is1, wB_as1, wB_inc1, wB_ls1, wB_il2, wB_ll2, wB_al2, wB_is2, wB_as2, wB_inc2, wB_ls2, wB_il3, wB_ll3, wB_al3, wB_is3, wB_as3, wB_inc3, wB_ls3, wB_il4, wB_ll4, wB_al4, wB_is4, wB_as4, wB_inc4, wB_ls4, wB_il5, wB_ll5, wB_al5, wB_is5, wB_as5, wB_inc5, wB_ls5, wB_il6, wB_ll6, wB_al6, wB_is6, wB_as6, wB_inc6, wB_ls6, wB_il7, wB_ll7, wB_al7, wB_is7, wB_as7, wB_inc7, wB_ls7, wB_il8, wB_ll8, wB_al8, wB_is8, wB_as8, wB_inc8, wB_ls8, wB_il9, wB_ll9, wB_al9, wB_is9, wB_as9, wB_inc9, wB_ls9, wB_il10, wB_ll10, wB_al10, wB_is10, wB_as10, wB_inc10, wB_ls10, wB_il11, wB_ll11, wB_al11, wB_is11, wB_as11, wB_inc11, wB_ls11, wB_il12, wB_ll12, wB_al12, wB_is12, wB_as12, wB_inc12, wB_ls12, wB_il13, wB_ll13, wB_al13, wB_is13, wB_as13, wB_inc13, wB_ls13, wB_il14, wB_ll14, wB_al14, wB_is14, wB_as14, wB_inc14, wB_ls14, wB_il15, wB_ll15, wB_al15, wB_is15, wB_as15, wB_inc15, lb_122003, lb_122005, cl_121, cl_86, cl_87, cl_101, obj_9, obj_6, fld_9_2, arr_9_2, nI_clamp, inb_nI, nI_leI, nI_ltI, nI_eq, nI_z, nI_ge0, nI_lt0, nI_add, n00, n11, n01, n10, true_or, or_true, not_true_eq_false, not_false_eq_true, bI_0, bI_z, Nat.le_refl, Nat.lt_irrefl, Nat.reduceLT, Nat.reduceEqDiff, nI_gt0, nI_le0, hlt, w1, ws1, m_rowOf, m_columnOf, m1, hk, oI_s, ak, y, k1, la, ld]
      refine next f q n h ⟨f1, a1, l1⟩ b (BW_nx c (fun k' hk' => ?_)) rfl
      have e : k' = k := by omega
      obtain ⟨j, j1, j2⟩ := (b.2.2.2.2.1 k).mp (by omega)
      rw [e, ← j2]
      exact c.2.1 j j1
set_option maxHeartbeats 4000000 in
set_option maxRecDepth 100000 in
theorem m_walk {d S L s : Nat} {h : sr_H} {Q : sr_T} {x : V} (w : Wys h) (ws : Scr h S) (hS : S + 9 < 130) (hL : L = 130 ∨ L = 131) (hm : h.1.1 ≤ 1000) (hx : Wx x) (rp : SC h S x) (kc : KC h S x) (hs : s < 64) (hi : inr x s) (kk : ∀ h' f, Fr h h' (PW L) → AR h' L f → (∀ k, f k ≤ 1000000) → (∀ k, f k < 1000000 → f k < 64 ∧ inr x k) → isD (eg x) gS s 1000000 f → Q none h') : sr_M (d + 3) 122 [.ref 129, .ref S, .int (nI s), .ref L] h Q := by
  simp (disch := first | assumption | omega) only [Nat.reduceAdd, Nat.reduceLeDiff, Nat.zero_le, true_and, and_true, ↓reduceIte, wB_const, wB_lconst, wB_ldc, wB_getstatic, wB_dupi, wB_dupr, wB_dup2, wB_popi, wB_iadd, wB_isub, wB_imul, wB_iand, wB_ior, wB_ixor, wB_ishl, wB_ishr, wB_iushr, wB_ineg, wB_ladd, wB_lsub, wB_lmul, wB_land, wB_lneg, wB_i2l, wB_l2i, wB_lcmp, wB_idiv, wB_irem, wB_ldiv, wB_lrem, wB_goto, wB_nop, wB_ifeq, wB_ifne, wB_iflt, wB_ifge, wB_ifgt, wB_ifle, wB_icmpeq, wB_icmpne, wB_icmplt, wB_icmpge, wB_icmpgt, wB_icmple, wB_table, wB_lookup, wB_ireturn, wB_zreturn, wB_lreturn, wB_areturn, wB_return, wB_getf, wB_putf, wB_iald, wB_bald, wB_lald, wB_iast, wB_bast, wB_last, wB_min, wB_max, wB_abs, wB_minl, wB_maxl, wB_absl, wB_obj, wB_copy, wB_charAt, wB_strlen, sr_k1i, sr_k1r, sr_k1U, sr_k1l, sr_ms1, sr_ms0, sr_msn, sr_cs1, sr_csm1, sr_csm2, sr_cl1, sr_cl2, sr_szi, sr_szr, sr_szl, sr_szn, sr_tls, sr_tln, wB_il0, wB_ll0, wB_al0, wB_is0, wB_as0, wB_inc0, wB_ls0, wB_il1, wB_ll1, wB_al1, wB_is1, wB_as1, wB_inc1, wB_ls1, wB_il2, wB_ll2, wB_al2, wB_is2, wB_as2, wB_inc2, wB_ls2, wB_il3, wB_ll3, wB_al3, wB_is3, wB_as3, wB_inc3, wB_ls3, wB_il4, wB_ll4, wB_al4, wB_is4, wB_as4, wB_inc4, wB_ls4, wB_il5, wB_ll5, wB_al5, wB_is5, wB_as5, wB_inc5, wB_ls5, wB_il6, wB_ll6, wB_al6, wB_is6, wB_as6, wB_inc6, wB_ls6, wB_il7, wB_ll7, wB_al7, wB_is7, wB_as7, wB_inc7, wB_ls7, wB_il8, wB_ll8, wB_al8, wB_is8, wB_as8, wB_inc8, wB_ls8, wB_il9, wB_ll9, wB_al9, wB_is9, wB_as9, wB_inc9, wB_ls9, wB_il10, wB_ll10, wB_al10, wB_is10, wB_as10, wB_inc10, wB_ls10, wB_il11, wB_ll11, wB_al11, wB_is11, wB_as11, wB_inc11, wB_ls11, wB_il12, wB_ll12, wB_al12, wB_is12, wB_as12, wB_inc12, wB_ls12, wB_il13, wB_ll13, wB_al13, wB_is13, wB_as13, wB_inc13, wB_ls13, wB_il14, wB_ll14, wB_al14, wB_is14, wB_as14, wB_inc14, wB_ls14, wB_il15, wB_ll15, wB_al15, wB_is15, wB_as15, wB_inc15, lb_122003, cl_121, cl_86, cl_87, cl_101, obj_9, obj_6, fld_9_2, arr_9_2, nI_clamp, inb_nI, nI_leI, nI_ltI, nI_eq, nI_z, nI_ge0, nI_lt0, nI_add, n00, n11, n01, n10, true_or, or_true, not_true_eq_false, not_false_eq_true, bI_0, bI_z, Nat.le_refl, Nat.lt_irrefl, Nat.reduceLT, Nat.reduceEqDiff, nI_gt0, nI_le0, en_122, w]
  refine m_begin (d := d + 1) w hL hs (fun h1 f1 a1 b1 => ?_)
  have w1 := w.ss f1.1
  simp (disch := first | assumption | omega) only [Nat.reduceAdd, Nat.reduceLeDiff, Nat.zero_le, true_and, and_true, ↓reduceIte, wB_const, wB_lconst, wB_ldc, wB_getstatic, wB_dupi, wB_dupr, wB_dup2, wB_popi, wB_iadd, wB_isub, wB_imul, wB_iand, wB_ior, wB_ixor, wB_ishl, wB_ishr, wB_iushr, wB_ineg, wB_ladd, wB_lsub, wB_lmul, wB_land, wB_lneg, wB_i2l, wB_l2i, wB_lcmp, wB_idiv, wB_irem, wB_ldiv, wB_lrem, wB_goto, wB_nop, wB_ifeq, wB_ifne, wB_iflt, wB_ifge, wB_ifgt, wB_ifle, wB_icmpeq, wB_icmpne, wB_icmplt, wB_icmpge, wB_icmpgt, wB_icmple, wB_table, wB_lookup, wB_ireturn, wB_zreturn, wB_lreturn, wB_areturn, wB_return, wB_getf, wB_putf, wB_iald, wB_bald, wB_lald, wB_iast, wB_bast, wB_last, wB_min, wB_max, wB_abs, wB_minl, wB_maxl, wB_absl, wB_obj, wB_copy, wB_charAt, wB_strlen, sr_k1i, sr_k1r, sr_k1U, sr_k1l, sr_ms1, sr_ms0, sr_msn, sr_cs1, sr_csm1, sr_csm2, sr_cl1, sr_cl2, sr_szi, sr_szr, sr_szl, sr_szn, sr_tls, sr_tln, wB_il0, wB_ll0, wB_al0, wB_is0, wB_as0, wB_inc0, wB_ls0, wB_il1, wB_ll1, wB_al1, wB_is1, wB_as1, wB_inc1, wB_ls1, wB_il2, wB_ll2, wB_al2, wB_is2, wB_as2, wB_inc2, wB_ls2, wB_il3, wB_ll3, wB_al3, wB_is3, wB_as3, wB_inc3, wB_ls3, wB_il4, wB_ll4, wB_al4, wB_is4, wB_as4, wB_inc4, wB_ls4, wB_il5, wB_ll5, wB_al5, wB_is5, wB_as5, wB_inc5, wB_ls5, wB_il6, wB_ll6, wB_al6, wB_is6, wB_as6, wB_inc6, wB_ls6, wB_il7, wB_ll7, wB_al7, wB_is7, wB_as7, wB_inc7, wB_ls7, wB_il8, wB_ll8, wB_al8, wB_is8, wB_as8, wB_inc8, wB_ls8, wB_il9, wB_ll9, wB_al9, wB_is9, wB_as9, wB_inc9, wB_ls9, wB_il10, wB_ll10, wB_al10, wB_is10, wB_as10, wB_inc10, wB_ls10, wB_il11, wB_ll11, wB_al11, wB_is11, wB_as11, wB_inc11, wB_ls11, wB_il12, wB_ll12, wB_al12, wB_is12, wB_as12, wB_inc12, wB_ls12, wB_il13, wB_ll13, wB_al13, wB_is13, wB_as13, wB_inc13, wB_ls13, wB_il14, wB_ll14, wB_al14, wB_is14, wB_as14, wB_inc14, wB_ls14, wB_il15, wB_ll15, wB_al15, wB_is15, wB_as15, wB_inc15, lb_122003, cl_121, cl_86, cl_87, cl_101, obj_9, obj_6, fld_9_2, arr_9_2, nI_clamp, inb_nI, nI_leI, nI_ltI, nI_eq, nI_z, nI_ge0, nI_lt0, nI_add, n00, n11, n01, n10, true_or, or_true, not_true_eq_false, not_false_eq_true, bI_0, bI_z, Nat.le_refl, Nat.lt_irrefl, Nat.reduceLT, Nat.reduceEqDiff, nI_gt0, nI_le0, w1]
  have key : ∀ m i (f q : Nat → Nat) (n : Nat) (h1 : sr_H) (u2 u6 u7 u8 : Value), m + i = 64 → i ≤ n → BH h h1 L f q n → BI x s f q n i → (i < n → ∀ j, j < n → f (q j) ≤ f (q i) + 1) → sr_W (d + 2) 122001 [.ref 129, .ref S, u2, .ref L, .int (nI n), .int (nI i), u6, u7, u8] [] h1 Q := by
    intro m
    induction m with
    | zero =>
      intro i f q n h1 u2 u6 u7 u8 hmi hin bh b c
      have hn64 : n ≤ 64 := by rw [b.2.1]; exact cnf_le 64
      rw [lb_122001]
      simp (disch := first | assumption | omega) only [Nat.reduceAdd, Nat.reduceLeDiff, Nat.zero_le, true_and, and_true, ↓reduceIte, wB_const, wB_lconst, wB_ldc, wB_getstatic, wB_dupi, wB_dupr, wB_dup2, wB_popi, wB_iadd, wB_isub, wB_imul, wB_iand, wB_ior, wB_ixor, wB_ishl, wB_ishr, wB_iushr, wB_ineg, wB_ladd, wB_lsub, wB_lmul, wB_land, wB_lneg, wB_i2l, wB_l2i, wB_lcmp, wB_idiv, wB_irem, wB_ldiv, wB_lrem, wB_goto, wB_nop, wB_ifeq, wB_ifne, wB_iflt, wB_ifge, wB_ifgt, wB_ifle, wB_icmpeq, wB_icmpne, wB_icmplt, wB_icmpge, wB_icmpgt, wB_icmple, wB_table, wB_lookup, wB_ireturn, wB_zreturn, wB_lreturn, wB_areturn, wB_return, wB_getf, wB_putf, wB_iald, wB_bald, wB_lald, wB_iast, wB_bast, wB_last, wB_min, wB_max, wB_abs, wB_minl, wB_maxl, wB_absl, wB_obj, wB_copy, wB_charAt, wB_strlen, sr_k1i, sr_k1r, sr_k1U, sr_k1l, sr_ms1, sr_ms0, sr_msn, sr_cs1, sr_csm1, sr_csm2, sr_cl1, sr_cl2, sr_szi, sr_szr, sr_szl, sr_szn, sr_tls, sr_tln, wB_il0, wB_ll0, wB_al0, wB_is0, wB_as0, wB_inc0, wB_ls0, wB_il1, wB_ll1, wB_al1, wB_is1, wB_as1, wB_inc1, wB_ls1, wB_il2, wB_ll2, wB_al2, wB_is2, wB_as2, wB_inc2, wB_ls2, wB_il3, wB_ll3, wB_al3, wB_is3, wB_as3, wB_inc3, wB_ls3, wB_il4, wB_ll4, wB_al4, wB_is4, wB_as4, wB_inc4, wB_ls4, wB_il5, wB_ll5, wB_al5, wB_is5, wB_as5, wB_inc5, wB_ls5, wB_il6, wB_ll6, wB_al6, wB_is6, wB_as6, wB_inc6, wB_ls6, wB_il7, wB_ll7, wB_al7, wB_is7, wB_as7, wB_inc7, wB_ls7, wB_il8, wB_ll8, wB_al8, wB_is8, wB_as8, wB_inc8, wB_ls8, wB_il9, wB_ll9, wB_al9, wB_is9, wB_as9, wB_inc9, wB_ls9, wB_il10, wB_ll10, wB_al10, wB_is10, wB_as10, wB_inc10, wB_ls10, wB_il11, wB_ll11, wB_al11, wB_is11, wB_as11, wB_inc11, wB_ls11, wB_il12, wB_ll12, wB_al12, wB_is12, wB_as12, wB_inc12, wB_ls12, wB_il13, wB_ll13, wB_al13, wB_is13, wB_as13, wB_inc13, wB_ls13, wB_il14, wB_ll14, wB_al14, wB_is14, wB_as14, wB_inc14, wB_ls14, wB_il15, wB_ll15, wB_al15, wB_is15, wB_as15, wB_inc15, lb_122003, cl_121, cl_86, cl_87, cl_101, obj_9, obj_6, fld_9_2, arr_9_2, nI_clamp, inb_nI, nI_leI, nI_ltI, nI_eq, nI_z, nI_ge0, nI_lt0, nI_add, n00, n11, n01, n10, true_or, or_true, not_true_eq_false, not_false_eq_true, bI_0, bI_z, Nat.le_refl, Nat.lt_irrefl, Nat.reduceLT, Nat.reduceEqDiff, nI_gt0, nI_le0, show n ≤ i by omega]
      rw [lb_122005]
      simp (disch := first | assumption | omega) only [Nat.reduceAdd, Nat.reduceLeDiff, Nat.zero_le, true_and, and_true, ↓reduceIte, wB_const, wB_lconst, wB_ldc, wB_getstatic, wB_dupi, wB_dupr, wB_dup2, wB_popi, wB_iadd, wB_isub, wB_imul, wB_iand, wB_ior, wB_ixor, wB_ishl, wB_ishr, wB_iushr, wB_ineg, wB_ladd, wB_lsub, wB_lmul, wB_land, wB_lneg, wB_i2l, wB_l2i, wB_lcmp, wB_idiv, wB_irem, wB_ldiv, wB_lrem, wB_goto, wB_nop, wB_ifeq, wB_ifne, wB_iflt, wB_ifge, wB_ifgt, wB_ifle, wB_icmpeq, wB_icmpne, wB_icmplt, wB_icmpge, wB_icmpgt, wB_icmple, wB_table, wB_lookup, wB_ireturn, wB_zreturn, wB_lreturn, wB_areturn, wB_return, wB_getf, wB_putf, wB_iald, wB_bald, wB_lald, wB_iast, wB_bast, wB_last, wB_min, wB_max, wB_abs, wB_minl, wB_maxl, wB_absl, wB_obj, wB_copy, wB_charAt, wB_strlen, sr_k1i, sr_k1r, sr_k1U, sr_k1l, sr_ms1, sr_ms0, sr_msn, sr_cs1, sr_csm1, sr_csm2, sr_cl1, sr_cl2, sr_szi, sr_szr, sr_szl, sr_szn, sr_tls, sr_tln, wB_il0, wB_ll0, wB_al0, wB_is0, wB_as0, wB_inc0, wB_ls0, wB_il1, wB_ll1, wB_al1, wB_is1, wB_as1, wB_inc1, wB_ls1, wB_il2, wB_ll2, wB_al2, wB_is2, wB_as2, wB_inc2, wB_ls2, wB_il3, wB_ll3, wB_al3, wB_is3, wB_as3, wB_inc3, wB_ls3, wB_il4, wB_ll4, wB_al4, wB_is4, wB_as4, wB_inc4, wB_ls4, wB_il5, wB_ll5, wB_al5, wB_is5, wB_as5, wB_inc5, wB_ls5, wB_il6, wB_ll6, wB_al6, wB_is6, wB_as6, wB_inc6, wB_ls6, wB_il7, wB_ll7, wB_al7, wB_is7, wB_as7, wB_inc7, wB_ls7, wB_il8, wB_ll8, wB_al8, wB_is8, wB_as8, wB_inc8, wB_ls8, wB_il9, wB_ll9, wB_al9, wB_is9, wB_as9, wB_inc9, wB_ls9, wB_il10, wB_ll10, wB_al10, wB_is10, wB_as10, wB_inc10, wB_ls10, wB_il11, wB_ll11, wB_al11, wB_is11, wB_as11, wB_inc11, wB_ls11, wB_il12, wB_ll12, wB_al12, wB_is12, wB_as12, wB_inc12, wB_ls12, wB_il13, wB_ll13, wB_al13, wB_is13, wB_as13, wB_inc13, wB_ls13, wB_il14, wB_ll14, wB_al14, wB_is14, wB_as14, wB_inc14, wB_ls14, wB_il15, wB_ll15, wB_al15, wB_is15, wB_as15, wB_inc15, lb_122003, cl_121, cl_86, cl_87, cl_101, obj_9, obj_6, fld_9_2, arr_9_2, nI_clamp, inb_nI, nI_leI, nI_ltI, nI_eq, nI_z, nI_ge0, nI_lt0, nI_add, n00, n11, n01, n10, true_or, or_true, not_true_eq_false, not_false_eq_true, bI_0, bI_z, Nat.le_refl, Nat.lt_irrefl, Nat.reduceLT, Nat.reduceEqDiff, nI_gt0, nI_le0]
      refine kk h1 f bh.1 bh.2.1 b.2.2.2.2.2.1 (fun k hk => ?_) ⟨b.1, fun j k hj he => ?_, b.2.2.2.2.2.2.2.2⟩
      · obtain ⟨j, j1, j2⟩ := (b.2.2.2.2.1 k).mp hk
        obtain ⟨z1, z2, z3⟩ := b.2.2.2.1 j j1
        rw [j2] at z2 z3
        exact ⟨by omega, z2⟩
      · obtain ⟨j', j1, j2⟩ := (b.2.2.2.2.1 j).mp hj
        have := b.2.2.2.2.2.2.2.1 j' (by omega) k (by rw [j2]; exact he)
        rw [j2] at this
        exact this
    | succ m ih =>
      intro i f q n h1 u2 u6 u7 u8 hmi hin bh b c
      have hn64 : n ≤ 64 := by rw [b.2.1]; exact cnf_le 64
      have w2 := w.ss bh.1.1
      rw [lb_122001]
      by_cases e : i = n
      · simp (disch := first | assumption | omega) only [Nat.reduceAdd, Nat.reduceLeDiff, Nat.zero_le, true_and, and_true, ↓reduceIte, wB_const, wB_lconst, wB_ldc, wB_getstatic, wB_dupi, wB_dupr, wB_dup2, wB_popi, wB_iadd, wB_isub, wB_imul, wB_iand, wB_ior, wB_ixor, wB_ishl, wB_ishr, wB_iushr, wB_ineg, wB_ladd, wB_lsub, wB_lmul, wB_land, wB_lneg, wB_i2l, wB_l2i, wB_lcmp, wB_idiv, wB_irem, wB_ldiv, wB_lrem, wB_goto, wB_nop, wB_ifeq, wB_ifne, wB_iflt, wB_ifge, wB_ifgt, wB_ifle, wB_icmpeq, wB_icmpne, wB_icmplt, wB_icmpge, wB_icmpgt, wB_icmple, wB_table, wB_lookup, wB_ireturn, wB_zreturn, wB_lreturn, wB_areturn, wB_return, wB_getf, wB_putf, wB_iald, wB_bald, wB_lald, wB_iast, wB_bast, wB_last, wB_min, wB_max, wB_abs, wB_minl, wB_maxl, wB_absl, wB_obj, wB_copy, wB_charAt, wB_strlen, sr_k1i, sr_k1r, sr_k1U, sr_k1l, sr_ms1, sr_ms0, sr_msn, sr_cs1, sr_csm1, sr_csm2, sr_cl1, sr_cl2, sr_szi, sr_szr, sr_szl, sr_szn, sr_tls, sr_tln, wB_il0, wB_ll0, wB_al0, wB_is0, wB_as0, wB_inc0, wB_ls0, wB_il1, wB_ll1, wB_al1, wB_is1, wB_as1, wB_inc1, wB_ls1, wB_il2, wB_ll2, wB_al2, wB_is2, wB_as2, wB_inc2, wB_ls2, wB_il3, wB_ll3, wB_al3, wB_is3, wB_as3, wB_inc3, wB_ls3, wB_il4, wB_ll4, wB_al4, wB_is4, wB_as4, wB_inc4, wB_ls4, wB_il5, wB_ll5, wB_al5, wB_is5, wB_as5, wB_inc5, wB_ls5, wB_il6, wB_ll6, wB_al6, wB_is6, wB_as6, wB_inc6, wB_ls6, wB_il7, wB_ll7, wB_al7, wB_is7, wB_as7, wB_inc7, wB_ls7, wB_il8, wB_ll8, wB_al8, wB_is8, wB_as8, wB_inc8, wB_ls8, wB_il9, wB_ll9, wB_al9, wB_is9, wB_as9, wB_inc9, wB_ls9, wB_il10, wB_ll10, wB_al10, wB_is10, wB_as10, wB_inc10, wB_ls10, wB_il11, wB_ll11, wB_al11, wB_is11, wB_as11, wB_inc11, wB_ls11, wB_il12, wB_ll12, wB_al12, wB_is12, wB_as12, wB_inc12, wB_ls12, wB_il13, wB_ll13, wB_al13, wB_is13, wB_as13, wB_inc13, wB_ls13, wB_il14, wB_ll14, wB_al14, wB_is14, wB_as14, wB_inc14, wB_ls14, wB_il15, wB_ll15, wB_al15, wB_is15, wB_as15, wB_inc15, lb_122003, cl_121, cl_86, cl_87, cl_101, obj_9, obj_6, fld_9_2, arr_9_2, nI_clamp, inb_nI, nI_leI, nI_ltI, nI_eq, nI_z, nI_ge0, nI_lt0, nI_add, n00, n11, n01, n10, true_or, or_true, not_true_eq_false, not_false_eq_true, bI_0, bI_z, Nat.le_refl, Nat.lt_irrefl, Nat.reduceLT, Nat.reduceEqDiff, nI_gt0, nI_le0, show n ≤ i by omega]
        rw [lb_122005]
        simp (disch := first | assumption | omega) only [Nat.reduceAdd, Nat.reduceLeDiff, Nat.zero_le, true_and, and_true, ↓reduceIte, wB_const, wB_lconst, wB_ldc, wB_getstatic, wB_dupi, wB_dupr, wB_dup2, wB_popi, wB_iadd, wB_isub, wB_imul, wB_iand, wB_ior, wB_ixor, wB_ishl, wB_ishr, wB_iushr, wB_ineg, wB_ladd, wB_lsub, wB_lmul, wB_land, wB_lneg, wB_i2l, wB_l2i, wB_lcmp, wB_idiv, wB_irem, wB_ldiv, wB_lrem, wB_goto, wB_nop, wB_ifeq, wB_ifne, wB_iflt, wB_ifge, wB_ifgt, wB_ifle, wB_icmpeq, wB_icmpne, wB_icmplt, wB_icmpge, wB_icmpgt, wB_icmple, wB_table, wB_lookup, wB_ireturn, wB_zreturn, wB_lreturn, wB_areturn, wB_return, wB_getf, wB_putf, wB_iald, wB_bald, wB_lald, wB_iast, wB_bast, wB_last, wB_min, wB_max, wB_abs, wB_minl, wB_maxl, wB_absl, wB_obj, wB_copy, wB_charAt, wB_strlen, sr_k1i, sr_k1r, sr_k1U, sr_k1l, sr_ms1, sr_ms0, sr_msn, sr_cs1, sr_csm1, sr_csm2, sr_cl1, sr_cl2, sr_szi, sr_szr, sr_szl, sr_szn, sr_tls, sr_tln, wB_il0, wB_ll0, wB_al0, wB_is0, wB_as0, wB_inc0, wB_ls0, wB_il1, wB_ll1, wB_al1, wB_is1, wB_as1, wB_inc1, wB_ls1, wB_il2, wB_ll2, wB_al2, wB_is2, wB_as2, wB_inc2, wB_ls2, wB_il3, wB_ll3, wB_al3, wB_is3, wB_as3, wB_inc3, wB_ls3, wB_il4, wB_ll4, wB_al4, wB_is4, wB_as4, wB_inc4, wB_ls4, wB_il5, wB_ll5, wB_al5, wB_is5, wB_as5, wB_inc5, wB_ls5, wB_il6, wB_ll6, wB_al6, wB_is6, wB_as6, wB_inc6, wB_ls6, wB_il7, wB_ll7, wB_al7, wB_is7, wB_as7, wB_inc7, wB_ls7, wB_il8, wB_ll8, wB_al8, wB_is8, wB_as8, wB_inc8, wB_ls8, wB_il9, wB_ll9, wB_al9, wB_is9, wB_as9, wB_inc9, wB_ls9, wB_il10, wB_ll10, wB_al10, wB_is10, wB_as10, wB_inc10, wB_ls10, wB_il11, wB_ll11, wB_al11, wB_is11, wB_as11, wB_inc11, wB_ls11, wB_il12, wB_ll12, wB_al12, wB_is12, wB_as12, wB_inc12, wB_ls12, wB_il13, wB_ll13, wB_al13, wB_is13, wB_as13, wB_inc13, wB_ls13, wB_il14, wB_ll14, wB_al14, wB_is14, wB_as14, wB_inc14, wB_ls14, wB_il15, wB_ll15, wB_al15, wB_is15, wB_as15, wB_inc15, lb_122003, cl_121, cl_86, cl_87, cl_101, obj_9, obj_6, fld_9_2, arr_9_2, nI_clamp, inb_nI, nI_leI, nI_ltI, nI_eq, nI_z, nI_ge0, nI_lt0, nI_add, n00, n11, n01, n10, true_or, or_true, not_true_eq_false, not_false_eq_true, bI_0, bI_z, Nat.le_refl, Nat.lt_irrefl, Nat.reduceLT, Nat.reduceEqDiff, nI_gt0, nI_le0]
        refine kk h1 f bh.1 bh.2.1 b.2.2.2.2.2.1 (fun k hk => ?_) ⟨b.1, fun j k hj he => ?_, b.2.2.2.2.2.2.2.2⟩
        · obtain ⟨j, j1, j2⟩ := (b.2.2.2.2.1 k).mp hk
          obtain ⟨z1, z2, z3⟩ := b.2.2.2.1 j j1
          rw [j2] at z2 z3
          exact ⟨by omega, z2⟩
        · obtain ⟨j', j1, j2⟩ := (b.2.2.2.2.1 j).mp hj
          have := b.2.2.2.2.2.2.2.1 j' (by omega) k (by rw [j2]; exact he)
          rw [j2] at this
          exact this
      · have hi' : i < n := by omega
        have li := bh.2.2 i hi'
        simp (disch := first | assumption | omega) only [Nat.reduceAdd, Nat.reduceLeDiff, Nat.zero_le, true_and, and_true, ↓reduceIte, wB_const, wB_lconst, wB_ldc, wB_getstatic, wB_dupi, wB_dupr, wB_dup2, wB_popi, wB_iadd, wB_isub, wB_imul, wB_iand, wB_ior, wB_ixor, wB_ishl, wB_ishr, wB_iushr, wB_ineg, wB_ladd, wB_lsub, wB_lmul, wB_land, wB_lneg, wB_i2l, wB_l2i, wB_lcmp, wB_idiv, wB_irem, wB_ldiv, wB_lrem, wB_goto, wB_nop, wB_ifeq, wB_ifne, wB_iflt, wB_ifge, wB_ifgt, wB_ifle, wB_icmpeq, wB_icmpne, wB_icmplt, wB_icmpge, wB_icmpgt, wB_icmple, wB_table, wB_lookup, wB_ireturn, wB_zreturn, wB_lreturn, wB_areturn, wB_return, wB_getf, wB_putf, wB_iald, wB_bald, wB_lald, wB_iast, wB_bast, wB_last, wB_min, wB_max, wB_abs, wB_minl, wB_maxl, wB_absl, wB_obj, wB_copy, wB_charAt, wB_strlen, sr_k1i, sr_k1r, sr_k1U, sr_k1l, sr_ms1, sr_ms0, sr_msn, sr_cs1, sr_csm1, sr_csm2, sr_cl1, sr_cl2, sr_szi, sr_szr, sr_szl, sr_szn, sr_tls, sr_tln, wB_il0, wB_ll0, wB_al0, wB_is0, wB_as0, wB_inc0, wB_ls0, wB_il1, wB_ll1, wB_al1, wB_is1, wB_as1, wB_inc1, wB_ls1, wB_il2, wB_ll2, wB_al2, wB_is2, wB_as2, wB_inc2, wB_ls2, wB_il3, wB_ll3, wB_al3, wB_is3, wB_as3, wB_inc3, wB_ls3, wB_il4, wB_ll4, wB_al4, wB_is4, wB_as4, wB_inc4, wB_ls4, wB_il5, wB_ll5, wB_al5, wB_is5, wB_as5, wB_inc5, wB_ls5, wB_il6, wB_ll6, wB_al6, wB_is6, wB_as6, wB_inc6, wB_ls6, wB_il7, wB_ll7, wB_al7, wB_is7, wB_as7, wB_inc7, wB_ls7, wB_il8, wB_ll8, wB_al8, wB_is8, wB_as8, wB_inc8, wB_ls8, wB_il9, wB_ll9, wB_al9, wB_is9, wB_as9, wB_inc9, wB_ls9, wB_il10, wB_ll10, wB_al10, wB_is10, wB_as10, wB_inc10, wB_ls10, wB_il11, wB_ll11, wB_al11, wB_is11, wB_as11, wB_inc11, wB_ls11, wB_il12, wB_ll12, wB_al12, wB_is12, wB_as12, wB_inc12, wB_ls12, wB_il13, wB_ll13, wB_al13, wB_is13, wB_as13, wB_inc13, wB_ls13, wB_il14, wB_ll14, wB_al14, wB_is14, wB_as14, wB_inc14, wB_ls14, wB_il15, wB_ll15, wB_al15, wB_is15, wB_as15, wB_inc15, lb_122003, cl_121, cl_86, cl_87, cl_101, obj_9, obj_6, fld_9_2, arr_9_2, nI_clamp, inb_nI, nI_leI, nI_ltI, nI_eq, nI_z, nI_ge0, nI_lt0, nI_add, n00, n11, n01, n10, true_or, or_true, not_true_eq_false, not_false_eq_true, bI_0, bI_z, Nat.le_refl, Nat.lt_irrefl, Nat.reduceLT, Nat.reduceEqDiff, nI_gt0, nI_le0, w2, show ¬ n ≤ i by omega, show i < 64 by omega, li]
        refine lp_a (α := (Nat → Nat) × (Nat → Nat) × Nat) (W := fun v a h => sr_W (d + 2) 122002 [.ref 129, .ref S, sr_U, .ref L, .int (nI a.2.2), .int (nI i), .int (nI (q i)), .int (nI v), sr_U] [] h Q) (fun v a h' => BH h h' L a.1 a.2.1 a.2.2 ∧ BI x s a.1 a.2.1 a.2.2 i ∧ BW x a.1 a.2.1 a.2.2 i v ∧ a.2.1 i = q i) 4 ?_ ?_ (f, q, n) h1 ⟨bh, b, ⟨hi', c hi', fun w' hw' => by omega⟩, rfl⟩
        · rintro v ⟨f2, q2, n2⟩ h2 hv ⟨bh2, b2, c2, e2⟩ next
          dsimp only at *
          rw [← e2]
          refine wk_way w ws hS hL hm hx rp kc hv bh2 b2 c2 (fun f3 q3 n3 h3 bh3 b3 c3 e3 => ?_)
          rw [e2]
          exact next (f3, q3, n3) h3 ⟨bh3, b3, c3, e3.trans e2⟩
        · rintro ⟨f2, q2, n2⟩ h2 ⟨bh2, b2, c2, e2⟩
          dsimp only at *
          rw [lb_122002]
          simp (disch := first | assumption | omega) only [Nat.reduceAdd, Nat.reduceLeDiff, Nat.zero_le, true_and, and_true, ↓reduceIte, wB_const, wB_lconst, wB_ldc, wB_getstatic, wB_dupi, wB_dupr, wB_dup2, wB_popi, wB_iadd, wB_isub, wB_imul, wB_iand, wB_ior, wB_ixor, wB_ishl, wB_ishr, wB_iushr, wB_ineg, wB_ladd, wB_lsub, wB_lmul, wB_land, wB_lneg, wB_i2l, wB_l2i, wB_lcmp, wB_idiv, wB_irem, wB_ldiv, wB_lrem, wB_goto, wB_nop, wB_ifeq, wB_ifne, wB_iflt, wB_ifge, wB_ifgt, wB_ifle, wB_icmpeq, wB_icmpne, wB_icmplt, wB_icmpge, wB_icmpgt, wB_icmple, wB_table, wB_lookup, wB_ireturn, wB_zreturn, wB_lreturn, wB_areturn, wB_return, wB_getf, wB_putf, wB_iald, wB_bald, wB_lald, wB_iast, wB_bast, wB_last, wB_min, wB_max, wB_abs, wB_minl, wB_maxl, wB_absl, wB_obj, wB_copy, wB_charAt, wB_strlen, sr_k1i, sr_k1r, sr_k1U, sr_k1l, sr_ms1, sr_ms0, sr_msn, sr_cs1, sr_csm1, sr_csm2, sr_cl1, sr_cl2, sr_szi, sr_szr, sr_szl, sr_szn, sr_tls, sr_tln, wB_il0, wB_ll0, wB_al0, wB_is0, wB_as0, wB_inc0, wB_ls0, wB_il1, wB_ll1, wB_al1, wB_is1, wB_as1, wB_inc1, wB_ls1, wB_il2, wB_ll2, wB_al2, wB_is2, wB_as2, wB_inc2, wB_ls2, wB_il3, wB_ll3, wB_al3, wB_is3, wB_as3, wB_inc3, wB_ls3, wB_il4, wB_ll4, wB_al4, wB_is4, wB_as4, wB_inc4, wB_ls4, wB_il5, wB_ll5, wB_al5, wB_is5, wB_as5, wB_inc5, wB_ls5, wB_il6, wB_ll6, wB_al6, wB_is6, wB_as6, wB_inc6, wB_ls6, wB_il7, wB_ll7, wB_al7, wB_is7, wB_as7, wB_inc7, wB_ls7, wB_il8, wB_ll8, wB_al8, wB_is8, wB_as8, wB_inc8, wB_ls8, wB_il9, wB_ll9, wB_al9, wB_is9, wB_as9, wB_inc9, wB_ls9, wB_il10, wB_ll10, wB_al10, wB_is10, wB_as10, wB_inc10, wB_ls10, wB_il11, wB_ll11, wB_al11, wB_is11, wB_as11, wB_inc11, wB_ls11, wB_il12, wB_ll12, wB_al12, wB_is12, wB_as12, wB_inc12, wB_ls12, wB_il13, wB_ll13, wB_al13, wB_is13, wB_as13, wB_inc13, wB_ls13, wB_il14, wB_ll14, wB_al14, wB_is14, wB_as14, wB_inc14, wB_ls14, wB_il15, wB_ll15, wB_al15, wB_is15, wB_as15, wB_inc15, lb_122003, cl_121, cl_86, cl_87, cl_101, obj_9, obj_6, fld_9_2, arr_9_2, nI_clamp, inb_nI, nI_leI, nI_ltI, nI_eq, nI_z, nI_ge0, nI_lt0, nI_add, n00, n11, n01, n10, true_or, or_true, not_true_eq_false, not_false_eq_true, bI_0, bI_z, Nat.le_refl, Nat.lt_irrefl, Nat.reduceLT, Nat.reduceEqDiff, nI_gt0, nI_le0]
          rw [lb_122004]
          simp (disch := first | assumption | omega) only [Nat.reduceAdd, Nat.reduceLeDiff, Nat.zero_le, true_and, and_true, ↓reduceIte, wB_const, wB_lconst, wB_ldc, wB_getstatic, wB_dupi, wB_dupr, wB_dup2, wB_popi, wB_iadd, wB_isub, wB_imul, wB_iand, wB_ior, wB_ixor, wB_ishl, wB_ishr, wB_iushr, wB_ineg, wB_ladd, wB_lsub, wB_lmul, wB_land, wB_lneg, wB_i2l, wB_l2i, wB_lcmp, wB_idiv, wB_irem, wB_ldiv, wB_lrem, wB_goto, wB_nop, wB_ifeq, wB_ifne, wB_iflt, wB_ifge, wB_ifgt, wB_ifle, wB_icmpeq, wB_icmpne, wB_icmplt, wB_icmpge, wB_icmpgt, wB_icmple, wB_table, wB_lookup, wB_ireturn, wB_zreturn, wB_lreturn, wB_areturn, wB_return, wB_getf, wB_putf, wB_iald, wB_bald, wB_lald, wB_iast, wB_bast, wB_last, wB_min, wB_max, wB_abs, wB_minl, wB_maxl, wB_absl, wB_obj, wB_copy, wB_charAt, wB_strlen, sr_k1i, sr_k1r, sr_k1U, sr_k1l, sr_ms1, sr_ms0, sr_msn, sr_cs1, sr_csm1, sr_csm2, sr_cl1, sr_cl2, sr_szi, sr_szr, sr_szl, sr_szn, sr_tls, sr_tln, wB_il0, wB_ll0, wB_al0, wB_is0, wB_as0, wB_inc0, wB_ls0, wB_il1, wB_ll1, wB_al1, wB_is1, wB_as1, wB_inc1, wB_ls1, wB_il2, wB_ll2, wB_al2, wB_is2, wB_as2, wB_inc2, wB_ls2, wB_il3, wB_ll3, wB_al3, wB_is3, wB_as3, wB_inc3, wB_ls3, wB_il4, wB_ll4, wB_al4, wB_is4, wB_as4, wB_inc4, wB_ls4, wB_il5, wB_ll5, wB_al5, wB_is5, wB_as5, wB_inc5, wB_ls5, wB_il6, wB_ll6, wB_al6, wB_is6, wB_as6, wB_inc6, wB_ls6, wB_il7, wB_ll7, wB_al7, wB_is7, wB_as7, wB_inc7, wB_ls7, wB_il8, wB_ll8, wB_al8, wB_is8, wB_as8, wB_inc8, wB_ls8, wB_il9, wB_ll9, wB_al9, wB_is9, wB_as9, wB_inc9, wB_ls9, wB_il10, wB_ll10, wB_al10, wB_is10, wB_as10, wB_inc10, wB_ls10, wB_il11, wB_ll11, wB_al11, wB_is11, wB_as11, wB_inc11, wB_ls11, wB_il12, wB_ll12, wB_al12, wB_is12, wB_as12, wB_inc12, wB_ls12, wB_il13, wB_ll13, wB_al13, wB_is13, wB_as13, wB_inc13, wB_ls13, wB_il14, wB_ll14, wB_al14, wB_is14, wB_as14, wB_inc14, wB_ls14, wB_il15, wB_ll15, wB_al15, wB_is15, wB_as15, wB_inc15, lb_122003, cl_121, cl_86, cl_87, cl_101, obj_9, obj_6, fld_9_2, arr_9_2, nI_clamp, inb_nI, nI_leI, nI_ltI, nI_eq, nI_z, nI_ge0, nI_lt0, nI_add, n00, n11, n01, n10, true_or, or_true, not_true_eq_false, not_false_eq_true, bI_0, bI_z, Nat.le_refl, Nat.lt_irrefl, Nat.reduceLT, Nat.reduceEqDiff, nI_gt0, nI_le0]
          refine ih (i + 1) f2 q2 n2 h2 _ _ _ _ (by omega) (by have := c2.1; omega) bh2 ?_ ?_
          · obtain ⟨z1, z2, z3, z4, z5, z6, z7, z8, z9⟩ := b2
            refine ⟨z1, z2, z3, z4, z5, z6, z7, fun j hj k he => ?_, z9⟩
            by_cases y : j = i
            · subst y
              obtain ⟨w', hw', hb⟩ := he
              exact c2.2.2 w' hw' k hb
            · exact z8 j (by omega) k he
          · intro hi2 j hj
            have y1 := c2.2.1 j hj
            have y2 := b2.2.2.2.2.2.2.1 i (i + 1) (by omega) hi2
            omega
  have w2 := w.ss (Fr_sI (i := 0) (v := nI s) (f1.mono (P' := PW L) (fun a ha => ha.imp id (fun z => Or.inr z))) (a := 132) (Or.inr (Or.inl rfl))).1
  refine key 64 0 (fun k => if k = s then 0 else 1000000) (fun _ => s) 1 _ _ _ _ _ rfl (by omega) ⟨Fr_sI (f1.mono (fun a ha => ha.imp id (fun z => Or.inr z))) (Or.inr (Or.inl rfl)), AR_of a1 (sI_ne (by omega)), fun j hj => ?_⟩ ?_ ?_
  · have : j = 0 := by omega
    subst this
    exact hI_y (arr_9_2 w1).2.1
  · refine ⟨if_pos rfl, ?_, fun k hk => if_neg (by omega), fun j hj => ⟨hs, hi, by simp⟩, fun k => ?_, fun k => ?_, fun j j' h1 h2 => Nat.le_refl _, fun j hj => by omega, fun k hk => ?_⟩
    · have z : (fun k => if k = s then 0 else 1000000) = up (fun _ => 1000000) s 0 := rfl
      have z2 : ∀ n, cnf (fun _ => 1000000) n = 0 := by
        intro n
        induction n with
        | zero => rfl
        | succ n ih =>
          show cnf (fun _ => 1000000) n + tf ((1000000 : Nat) < 1000000) inferInstance = 0
          rw [ih, tf_0 (Nat.lt_irrefl _)]
      rw [z, cnf_up (Nat.lt_irrefl _) (by omega) 64, if_pos hs, z2]
    · dsimp only
      by_cases z : k = s
      · rw [if_pos z]
        exact ⟨fun _ => ⟨0, by omega, z.symm⟩, fun _ => by omega⟩
      · rw [if_neg z]
        exact ⟨fun y => absurd y (Nat.lt_irrefl _), fun ⟨j, _, y⟩ => absurd y.symm z⟩
    · dsimp only
      by_cases z : k = s
      · rw [if_pos z]; omega
      · rw [if_neg z]; exact Nat.le_refl _
    · dsimp only at hk ⊢
      by_cases z : k = s
      · rw [if_pos z]
        exact ⟨0, z, rfl⟩
      · rw [if_neg z] at hk
        exact absurd hk (Nat.lt_irrefl _)
  · intro _ j hj
    exact Nat.le_succ _
