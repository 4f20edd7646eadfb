/-! The reference: what fits, how far, which gives the season. -/
theorem dst_0 {a b : Nat} : dst a b = 0 ↔ a = b := by unfold dst; omega
theorem farN_0 {x : V} {s r c : Nat} : ∀ n, farN x s r c n = 0 ↔ ∃ l, l < n ∧ sW x s / 2 ^ l % 2 = 1 ∧ lfR x s l = r ∧ lfC x s l = c
  | 0 => by
    simp [farN]
  | n + 1 => by
    have ih := farN_0 (x := x) (s := s) (r := r) (c := c) n
    unfold farN
    have hD : lfD x s r c n = 0 ↔ lfR x s n = r ∧ lfC x s n = c := by
      unfold lfD
      rw [Nat.add_eq_zero_iff, dst_0, dst_0]
      exact ⟨fun z => ⟨z.1.symm, z.2.symm⟩, fun z => ⟨z.1.symm, z.2.symm⟩⟩
    by_cases q : sW x s / 2 ^ n % 2 = 1 ∧ lfD x s r c n < farN x s r c n
    · rw [if_pos q, hD]
      constructor
      · exact fun z => ⟨n, by omega, q.1, z⟩
      · rintro ⟨l, h1, h2, h3⟩
        by_cases e : l = n
        · rw [e] at h3; exact h3
        · have := ih.mpr ⟨l, by omega, h2, h3⟩
          omega
    · rw [if_neg q, ih]
      constructor
      · rintro ⟨l, h1, h2⟩
        exact ⟨l, by omega, h2⟩
      · rintro ⟨l, h1, h2, h3⟩
        by_cases e : l = n
        · rw [e] at h2 h3
          have h0 := hD.mpr h3
          have : farN x s r c n = 0 := by
            by_cases z : lfD x s r c n < farN x s r c n
            · exact absurd ⟨h2, z⟩ q
            · omega
          exact ih.mp this
        · exact ⟨l, by omega, h2, h3⟩
theorem far_0 {x : V} {s r c : Nat} : far x s r c = 0 ↔ ∃ l, l < sL x s ∧ sW x s / 2 ^ l % 2 = 1 ∧ lfR x s l = r ∧ lfC x s l = c := farN_0 _
def lfP (x : V) (b r c : Nat) (s : Nat) : Prop := b / 2 ^ s % 2 = 1 ∧ far x s r c = 0
theorem nr_first {x : V} {b r c : Nat} : ∀ n, ((nrN x b r c n).2 = 0 → ∃ j, (nrN x b r c n).1 = j + 1 ∧ j < n ∧ lfP x b r c j ∧ ∀ k, k < j → ¬ lfP x b r c k) ∧ ((∃ s, s < n ∧ lfP x b r c s) → (nrN x b r c n).2 = 0)
  | 0 => ⟨fun z => by simp [nrN] at z, fun ⟨s, h, _⟩ => by omega⟩
  | n + 1 => by
    obtain ⟨i1, i2⟩ := nr_first (x := x) (b := b) (r := r) (c := c) n
    unfold nrN
    by_cases q : b / 2 ^ n % 2 = 1 ∧ far x n r c < (nrN x b r c n).2
    · rw [if_pos q]
      refine ⟨fun z => ⟨n, rfl, by omega, ⟨q.1, z⟩, fun k hk hp => ?_⟩, fun ⟨s, h1, h2⟩ => ?_⟩
      · have := i2 ⟨k, hk, hp⟩
        omega
      · by_cases e : s = n
        · rw [e] at h2; exact h2.2
        · have := i2 ⟨s, by omega, h2⟩
          omega
    · rw [if_neg q]
      refine ⟨fun z => ?_, fun ⟨s, h1, h2⟩ => ?_⟩
      · obtain ⟨j, h1, h2, h3⟩ := i1 z
        exact ⟨j, h1, by omega, h3⟩
      · by_cases e : s = n
        · rw [e] at h2
          by_cases z : far x n r c < (nrN x b r c n).2
          · exact absurd ⟨h2.1, z⟩ q
          · have := h2.2; omega
        · exact i2 ⟨s, by omega, h2⟩
theorem nr_far {x : V} {b r c : Nat} : ∀ n j, (nrN x b r c n).1 = j + 1 → (nrN x b r c n).2 = far x j r c
  | 0, j, h => by simp [nrN] at h
  | n + 1, j, h => by
    unfold nrN at h ⊢
    by_cases q : b / 2 ^ n % 2 = 1 ∧ far x n r c < (nrN x b r c n).2
    · rw [if_pos q] at h ⊢
      have : n = j := by simpa using h
      rw [this]
    · rw [if_neg q] at h ⊢
      exact nr_far n j h
theorem ff_uq {p : Nat → Prop} {N j : Nat} (h1 : j < N) (h2 : p j) (h3 : ∀ k, k < j → ¬ p k) : ff p N = j + 1 := by
  rcases ff_sp p N with z | ⟨i, z1, z2, z3, z4⟩
  · exact absurd h2 (z.2 j h1)
  · by_cases e : i < j
    · exact absurd z3 (h3 i e)
    · by_cases e2 : j < i
      · exact absurd h2 (z4 j e2)
      · have : i = j := by omega
        rw [z1, this]
theorem ff_no {p : Nat → Prop} {N : Nat} (h : ∀ j, j < N → ¬ p j) : ff p N = 0 := by
  rcases ff_sp p N with z | ⟨i, z1, z2, z3, z4⟩
  · exact z.1
  · exact absurd z3 (h i z2)
theorem lf_first {x : V} {r c : Nat} : lfN x r c = ff (lfP x (xP x) r c) (xN x) := by
  obtain ⟨i1, i2⟩ := nr_first (x := x) (b := xP x) (r := r) (c := c) (xN x)
  by_cases q : ∃ s, s < xN x ∧ lfP x (xP x) r c s
  · obtain ⟨j, h1, h2, h3, h4⟩ := i1 (i2 q)
    rw [ff_uq h2 h3 h4]
    have e : giv x (xP x) r c = j + 1 := h1
    have hg : gF x r c = 0 := by
      unfold gF
      rw [e, if_neg (Nat.succ_ne_zero j), Nat.add_sub_cancel]
      exact h3.2
    unfold lfN
    rw [if_pos hg, e]
  · rw [ff_no (fun j hj hp => q ⟨j, hj, hp⟩)]
    unfold lfN gF
    by_cases z : giv x (xP x) r c = 0
    · rw [z]; simp
    · rw [if_neg z]
      obtain ⟨j, hj⟩ : ∃ j, giv x (xP x) r c = j + 1 := ⟨giv x (xP x) r c - 1, by omega⟩
      have e := nr_far (x := x) (b := xP x) (r := r) (c := c) (xN x) j hj
      rw [hj, Nat.add_sub_cancel]
      by_cases f0 : far x j r c = 0
      · obtain ⟨i, h1, h2, h3, h4⟩ := i1 (e.trans f0)
        exact absurd ⟨i, h2, h3⟩ q
      · rw [if_neg f0]
theorem lf_bd {x : V} {s l : Nat} (hx : Wx x) (hs : s < xN x) (hl : l < 4) : lfR x s l < 12 ∧ lfC x s l < 12 := by
  obtain ⟨b1, b2, b3, b4, b5, b6⟩ := hx.2.2.2.2 s hs
  unfold lfR lfC
  constructor <;> split <;> omega
set_option maxHeartbeats 4000000 in
set_option maxRecDepth 100000 in
theorem r_leafAt {d r a b : Nat} {h : sr_H} {Q : sr_T} {x : V} (w : Mdl h) (hr : r < 23) (hx : Wx x) (m : MX h r x) (ha : a < 64) (hb : b < 64) : sr_M (d + 3) 223 [.ref 141, .int (nI r), .int (nI a), .int (nI b)] h Q ↔ Q (some (.int (oI (lfN x a b)))) h := by
  classical
  have hN := hx.2.2.1
  have e2 := m.1.2.2.1
  rw [lf_first]
  simp (disch := first | assumption | omega) only [Nat.reduceAdd, Nat.reduceLeDiff, Nat.zero_le, true_and, and_true, ↓reduceIte, wB_const, wB_lconst, wB_ldc, wB_getstatic, wB_dupi, wB_dupr, wB_dup2, wB_popi, wB_iadd, wB_isub, wB_imul, wB_iand, wB_ior, wB_ixor, wB_ishl, wB_ishr, wB_iushr, wB_ineg, wB_ladd, wB_lsub, wB_lmul, wB_land, wB_lneg, wB_i2l, wB_l2i, wB_lcmp, wB_idiv, wB_irem, wB_ldiv, wB_lrem, wB_goto, wB_nop, wB_ifeq, wB_ifne, wB_iflt, wB_ifge, wB_ifgt, wB_ifle, wB_icmpeq, wB_icmpne, wB_icmplt, wB_icmpge, wB_icmpgt, wB_icmple, wB_table, wB_lookup, wB_ireturn, wB_zreturn, wB_lreturn, wB_areturn, wB_return, wB_getf, wB_putf, wB_iald, wB_bald, wB_lald, wB_iast, wB_bast, wB_last, wB_min, wB_max, wB_abs, wB_minl, wB_maxl, wB_absl, wB_obj, wB_copy, wB_charAt, wB_strlen, sr_k1i, sr_k1r, sr_k1U, sr_k1l, sr_ms1, sr_ms0, sr_msn, sr_cs1, sr_csm1, sr_csm2, sr_cl1, sr_cl2, sr_szi, sr_szr, sr_szl, sr_szn, sr_tls, sr_tln, wB_il0, wB_ll0, wB_al0, wB_is0, wB_as0, wB_inc0, wB_ls0, wB_il1, wB_ll1, wB_al1, wB_is1, wB_as1, wB_inc1, wB_ls1, wB_il2, wB_ll2, wB_al2, wB_is2, wB_as2, wB_inc2, wB_ls2, wB_il3, wB_ll3, wB_al3, wB_is3, wB_as3, wB_inc3, wB_ls3, wB_il4, wB_ll4, wB_al4, wB_is4, wB_as4, wB_inc4, wB_ls4, wB_il5, wB_ll5, wB_al5, wB_is5, wB_as5, wB_inc5, wB_ls5, wB_il6, wB_ll6, wB_al6, wB_is6, wB_as6, wB_inc6, wB_ls6, wB_il7, wB_ll7, wB_al7, wB_is7, wB_as7, wB_inc7, wB_ls7, lb_223002, lb_223003, cl_218, cl_222, obj_11, fld_11_3, arr_11_3, nI_clamp, inb_nI, nI_leI, nI_ltI, nI_eq, nI_z, nI_ge0, nI_lt0, nI_add, n00, n11, n01, n10, true_or, or_true, not_true_eq_false, not_false_eq_true, bI_0, bI_z, Nat.le_refl, Nat.lt_irrefl, Nat.reduceLT, Nat.reduceEqDiff, nI_gt0, nI_le0, en_223]
  refine lp_find (W := fun i => sr_W (d + 2) 223001 [.ref 141, .int (nI r), .int (nI a), .int (nI b), .int (nI i)] [] h Q) (R := fun v => Q (some (.int (oI v))) h) (lfP x (xP x) a b) (xN x) ?_ ?_ ?_
  · intro i hi hp
    have mi := m.2.1 i hi
    have bi := hx.2.2.2.2 i hi
    have i1 := fun (Q : sr_T) => r_isHere (d := d + 1) (Q := Q) w mi
    have i2 := fun (Q : sr_T) => r_hasLeaf (d := d) (u := nI a) (v := nI b) (a := 0) (Q := Q) w hr hi hx (by omega) mi
    have ex : ∃ l, l < sL x i ∧ lfA x i (nI a) (nI b) 0 l := by
      obtain ⟨l, h1, h2, h3, h4⟩ := far_0.mp hp.2
      exact ⟨l, h1, Or.inr h2, by rw [h3], by rw [h4]⟩
    have hb1 := hp.1
    rw [lb_223001]
    simp (disch := first | assumption | omega) only [Nat.reduceAdd, Nat.reduceLeDiff, Nat.zero_le, true_and, and_true, ↓reduceIte, wB_const, wB_lconst, wB_ldc, wB_getstatic, wB_dupi, wB_dupr, wB_dup2, wB_popi, wB_iadd, wB_isub, wB_imul, wB_iand, wB_ior, wB_ixor, wB_ishl, wB_ishr, wB_iushr, wB_ineg, wB_ladd, wB_lsub, wB_lmul, wB_land, wB_lneg, wB_i2l, wB_l2i, wB_lcmp, wB_idiv, wB_irem, wB_ldiv, wB_lrem, wB_goto, wB_nop, wB_ifeq, wB_ifne, wB_iflt, wB_ifge, wB_ifgt, wB_ifle, wB_icmpeq, wB_icmpne, wB_icmplt, wB_icmpge, wB_icmpgt, wB_icmple, wB_table, wB_lookup, wB_ireturn, wB_zreturn, wB_lreturn, wB_areturn, wB_return, wB_getf, wB_putf, wB_iald, wB_bald, wB_lald, wB_iast, wB_bast, wB_last, wB_min, wB_max, wB_abs, wB_minl, wB_maxl, wB_absl, wB_obj, wB_copy, wB_charAt, wB_strlen, sr_k1i, sr_k1r, sr_k1U, sr_k1l, sr_ms1, sr_ms0, sr_msn, sr_cs1, sr_csm1, sr_csm2, sr_cl1, sr_cl2, sr_szi, sr_szr, sr_szl, sr_szn, sr_tls, sr_tln, wB_il0, wB_ll0, wB_al0, wB_is0, wB_as0, wB_inc0, wB_ls0, wB_il1, wB_ll1, wB_al1, wB_is1, wB_as1, wB_inc1, wB_ls1, wB_il2, wB_ll2, wB_al2, wB_is2, wB_as2, wB_inc2, wB_ls2, wB_il3, wB_ll3, wB_al3, wB_is3, wB_as3, wB_inc3, wB_ls3, wB_il4, wB_ll4, wB_al4, wB_is4, wB_as4, wB_inc4, wB_ls4, wB_il5, wB_ll5, wB_al5, wB_is5, wB_as5, wB_inc5, wB_ls5, wB_il6, wB_ll6, wB_al6, wB_is6, wB_as6, wB_inc6, wB_ls6, wB_il7, wB_ll7, wB_al7, wB_is7, wB_as7, wB_inc7, wB_ls7, lb_223002, lb_223003, cl_218, cl_222, obj_11, fld_11_3, arr_11_3, nI_clamp, inb_nI, nI_leI, nI_ltI, nI_eq, nI_z, nI_ge0, nI_lt0, nI_add, n00, n11, n01, n10, true_or, or_true, not_true_eq_false, not_false_eq_true, bI_0, bI_z, Nat.le_refl, Nat.lt_irrefl, Nat.reduceLT, Nat.reduceEqDiff, nI_gt0, nI_le0, w, e2, show ¬ xN x ≤ i by omega, i1, hb1, i2, ex, oI_s]
  · intro i hi hp
    have mi := m.2.1 i hi
    have bi := hx.2.2.2.2 i hi
    have i1 := fun (Q : sr_T) => r_isHere (d := d + 1) (Q := Q) w mi
    have i2 := fun (Q : sr_T) => r_hasLeaf (d := d) (u := nI a) (v := nI b) (a := 0) (Q := Q) w hr hi hx (by omega) mi
    rw [lb_223001]
    by_cases hb1 : xP x / 2 ^ i % 2 = 1
    · have ex : ¬ ∃ l, l < sL x i ∧ lfA x i (nI a) (nI b) 0 l := fun ⟨l, h1, h2, h3, h4⟩ => hp ⟨hb1, far_0.mpr ⟨l, h1, h2.resolve_left (by omega), (nI_eq (by have := lf_bd hx hi (l := l) (by omega); omega) (by omega)).mp h3, (nI_eq (by have := lf_bd hx hi (l := l) (by omega); omega) (by omega)).mp h4⟩⟩
      simp (disch := first | assumption | omega) only [Nat.reduceAdd, Nat.reduceLeDiff, Nat.zero_le, true_and, and_true, ↓reduceIte, wB_const, wB_lconst, wB_ldc, wB_getstatic, wB_dupi, wB_dupr, wB_dup2, wB_popi, wB_iadd, wB_isub, wB_imul, wB_iand, wB_ior, wB_ixor, wB_ishl, wB_ishr, wB_iushr, wB_ineg, wB_ladd, wB_lsub, wB_lmul, wB_land, wB_lneg, wB_i2l, wB_l2i, wB_lcmp, wB_idiv, wB_irem, wB_ldiv, wB_lrem, wB_goto, wB_nop, wB_ifeq, wB_ifne, wB_iflt, wB_ifge, wB_ifgt, wB_ifle, wB_icmpeq, wB_icmpne, wB_icmplt, wB_icmpge, wB_icmpgt, wB_icmple, wB_table, wB_lookup, wB_ireturn, wB_zreturn, wB_lreturn, wB_areturn, wB_return, wB_getf, wB_putf, wB_iald, wB_bald, wB_lald, wB_iast, wB_bast, wB_last, wB_min, wB_max, wB_abs, wB_minl, wB_maxl, wB_absl, wB_obj, wB_copy, wB_charAt, wB_strlen, sr_k1i, sr_k1r, sr_k1U, sr_k1l, sr_ms1, sr_ms0, sr_msn, sr_cs1, sr_csm1, sr_csm2, sr_cl1, sr_cl2, sr_szi, sr_szr, sr_szl, sr_szn, sr_tls, sr_tln, wB_il0, wB_ll0, wB_al0, wB_is0, wB_as0, wB_inc0, wB_ls0, wB_il1, wB_ll1, wB_al1, wB_is1, wB_as1, wB_inc1, wB_ls1, wB_il2, wB_ll2, wB_al2, wB_is2, wB_as2, wB_inc2, wB_ls2, wB_il3, wB_ll3, wB_al3, wB_is3, wB_as3, wB_inc3, wB_ls3, wB_il4, wB_ll4, wB_al4, wB_is4, wB_as4, wB_inc4, wB_ls4, wB_il5, wB_ll5, wB_al5, wB_is5, wB_as5, wB_inc5, wB_ls5, wB_il6, wB_ll6, wB_al6, wB_is6, wB_as6, wB_inc6, wB_ls6, wB_il7, wB_ll7, wB_al7, wB_is7, wB_as7, wB_inc7, wB_ls7, lb_223002, lb_223003, cl_218, cl_222, obj_11, fld_11_3, arr_11_3, nI_clamp, inb_nI, nI_leI, nI_ltI, nI_eq, nI_z, nI_ge0, nI_lt0, nI_add, n00, n11, n01, n10, true_or, or_true, not_true_eq_false, not_false_eq_true, bI_0, bI_z, Nat.le_refl, Nat.lt_irrefl, Nat.reduceLT, Nat.reduceEqDiff, nI_gt0, nI_le0, w, e2, show ¬ xN x ≤ i by omega, i1, hb1, i2, ex]
    · simp (disch := first | assumption | omega) only [Nat.reduceAdd, Nat.reduceLeDiff, Nat.zero_le, true_and, and_true, ↓reduceIte, wB_const, wB_lconst, wB_ldc, wB_getstatic, wB_dupi, wB_dupr, wB_dup2, wB_popi, wB_iadd, wB_isub, wB_imul, wB_iand, wB_ior, wB_ixor, wB_ishl, wB_ishr, wB_iushr, wB_ineg, wB_ladd, wB_lsub, wB_lmul, wB_land, wB_lneg, wB_i2l, wB_l2i, wB_lcmp, wB_idiv, wB_irem, wB_ldiv, wB_lrem, wB_goto, wB_nop, wB_ifeq, wB_ifne, wB_iflt, wB_ifge, wB_ifgt, wB_ifle, wB_icmpeq, wB_icmpne, wB_icmplt, wB_icmpge, wB_icmpgt, wB_icmple, wB_table, wB_lookup, wB_ireturn, wB_zreturn, wB_lreturn, wB_areturn, wB_return, wB_getf, wB_putf, wB_iald, wB_bald, wB_lald, wB_iast, wB_bast, wB_last, wB_min, wB_max, wB_abs, wB_minl, wB_maxl, wB_absl, wB_obj, wB_copy, wB_charAt, wB_strlen, sr_k1i, sr_k1r, sr_k1U, sr_k1l, sr_ms1, sr_ms0, sr_msn, sr_cs1, sr_csm1, sr_csm2, sr_cl1, sr_cl2, sr_szi, sr_szr, sr_szl, sr_szn, sr_tls, sr_tln, wB_il0, wB_ll0, wB_al0, wB_is0, wB_as0, wB_inc0, wB_ls0, wB_il1, wB_ll1, wB_al1, wB_is1, wB_as1, wB_inc1, wB_ls1, wB_il2, wB_ll2, wB_al2, wB_is2, wB_as2, wB_inc2, wB_ls2, wB_il3, wB_ll3, wB_al3, wB_is3, wB_as3, wB_inc3, wB_ls3, wB_il4, wB_ll4, wB_al4, wB_is4, wB_as4, wB_inc4, wB_ls4, wB_il5, wB_ll5, wB_al5, wB_is5, wB_as5, wB_inc5, wB_ls5, wB_il6, wB_ll6, wB_al6, wB_is6, wB_as6, wB_inc6, wB_ls6, wB_il7, wB_ll7, wB_al7, wB_is7, wB_as7, wB_inc7, wB_ls7, lb_223002, lb_223003, cl_218, cl_222, obj_11, fld_11_3, arr_11_3, nI_clamp, inb_nI, nI_leI, nI_ltI, nI_eq, nI_z, nI_ge0, nI_lt0, nI_add, n00, n11, n01, n10, true_or, or_true, not_true_eq_false, not_false_eq_true, bI_0, bI_z, Nat.le_refl, Nat.lt_irrefl, Nat.reduceLT, Nat.reduceEqDiff, nI_gt0, nI_le0, w, e2, show ¬ xN x ≤ i by omega, i1, hb1]
  · rw [lb_223001]
    simp (disch := first | assumption | omega) only [Nat.reduceAdd, Nat.reduceLeDiff, Nat.zero_le, true_and, and_true, ↓reduceIte, wB_const, wB_lconst, wB_ldc, wB_getstatic, wB_dupi, wB_dupr, wB_dup2, wB_popi, wB_iadd, wB_isub, wB_imul, wB_iand, wB_ior, wB_ixor, wB_ishl, wB_ishr, wB_iushr, wB_ineg, wB_ladd, wB_lsub, wB_lmul, wB_land, wB_lneg, wB_i2l, wB_l2i, wB_lcmp, wB_idiv, wB_irem, wB_ldiv, wB_lrem, wB_goto, wB_nop, wB_ifeq, wB_ifne, wB_iflt, wB_ifge, wB_ifgt, wB_ifle, wB_icmpeq, wB_icmpne, wB_icmplt, wB_icmpge, wB_icmpgt, wB_icmple, wB_table, wB_lookup, wB_ireturn, wB_zreturn, wB_lreturn, wB_areturn, wB_return, wB_getf, wB_putf, wB_iald, wB_bald, wB_lald, wB_iast, wB_bast, wB_last, wB_min, wB_max, wB_abs, wB_minl, wB_maxl, wB_absl, wB_obj, wB_copy, wB_charAt, wB_strlen, sr_k1i, sr_k1r, sr_k1U, sr_k1l, sr_ms1, sr_ms0, sr_msn, sr_cs1, sr_csm1, sr_csm2, sr_cl1, sr_cl2, sr_szi, sr_szr, sr_szl, sr_szn, sr_tls, sr_tln, wB_il0, wB_ll0, wB_al0, wB_is0, wB_as0, wB_inc0, wB_ls0, wB_il1, wB_ll1, wB_al1, wB_is1, wB_as1, wB_inc1, wB_ls1, wB_il2, wB_ll2, wB_al2, wB_is2, wB_as2, wB_inc2, wB_ls2, wB_il3, wB_ll3, wB_al3, wB_is3, wB_as3, wB_inc3, wB_ls3, wB_il4, wB_ll4, wB_al4, wB_is4, wB_as4, wB_inc4, wB_ls4, wB_il5, wB_ll5, wB_al5, wB_is5, wB_as5, wB_inc5, wB_ls5, wB_il6, wB_ll6, wB_al6, wB_is6, wB_as6, wB_inc6, wB_ls6, wB_il7, wB_ll7, wB_al7, wB_is7, wB_as7, wB_inc7, wB_ls7, lb_223002, lb_223003, cl_218, cl_222, obj_11, fld_11_3, arr_11_3, nI_clamp, inb_nI, nI_leI, nI_ltI, nI_eq, nI_z, nI_ge0, nI_lt0, nI_add, n00, n11, n01, n10, true_or, or_true, not_true_eq_false, not_false_eq_true, bI_0, bI_z, Nat.le_refl, Nat.lt_irrefl, Nat.reduceLT, Nat.reduceEqDiff, nI_gt0, nI_le0, w, e2]
    exact Iff.rfl
theorem cov_ex {x : V} {o p q : Nat} : (∃ l, l < sL x o ∧ lfR x o l = p ∧ lfC x o l = q) ↔ cov x o p q := by
  unfold cov lfR lfC
  by_cases z : sD x o = 1
  · simp only [z, if_true]
    constructor
    · rintro ⟨l, h1, h2, h3⟩; omega
    · rintro ⟨h1, h2, h3⟩; exact ⟨p - sR x o, by omega, by omega, by omega⟩
  · simp only [z, if_false]
    constructor
    · rintro ⟨l, h1, h2, h3⟩; omega
    · rintro ⟨h1, h2, h3⟩; exact ⟨q - sK x o, by omega, by omega, by omega⟩
theorem inRm_lf {x : V} {s : Nat} (hL : 1 ≤ sL x s) (hd : sD x s ≤ 1) : ((lfR x s 0 < xR x ∧ lfC x s 0 < xC x) ∧ lfR x s (sL x s - 1) < xR x ∧ lfC x s (sL x s - 1) < xC x) ↔ inRm x s (sR x s) (sK x s) (sD x s) := by
  unfold inRm lfR lfC
  by_cases z : sD x s = 1
  · simp only [z, if_true]; omega
  · simp only [z, if_false]; omega
set_option maxHeartbeats 4000000 in
set_option maxRecDepth 100000 in
theorem r_isInRoom {d r s : Nat} {h : sr_H} {Q : sr_T} {x : V} (w : Mdl h) (hr : r < 23) (hs : s < xN x) (hx : Wx x) (m : MX h r x) : sr_M (d + 2) 224 [.ref 141, .int (nI r), .int (nI s)] h Q ↔ Q (some (.int (bI (inRm x s (sR x s) (sK x s) (sD x s)) (Classical.propDecidable _)))) h := by
  classical
  have hN := hx.2.2.1
  obtain ⟨b1, b2, b3, b4, b5, b6⟩ := hx.2.2.2.2 s hs
  have ms := m.2.1 s hs
  have m3 := ms.2.2.1
  have i1 := fun (Q : sr_T) (l : Nat) => r_leafRow (d := d) (l := l) (Q := Q) w hr (show s < 5 by omega) b3 ms
  have i2 := fun (Q : sr_T) (l : Nat) => r_leafColumn (d := d) (l := l) (Q := Q) w hr (show s < 5 by omega) b3 ms
  have i3 := fun (Q : sr_T) (u v : Int32) => r_isCell (d := d) (u := u) (v := v) (Q := Q) w hx m
  have es : nI (sL x s) - nI 1 = nI (sL x s - 1) := nI_sub1 b2.1
  have k0 := lf_bd (l := 0) hx hs (by omega)
  have k1 := lf_bd (l := sL x s - 1) hx hs (by omega)
  have il := inRm_lf (x := x) (s := s) b2.1 b3
  refine Iff.trans ?_ ite_bI
  by_cases q1 : lfR x s 0 < xR x ∧ lfC x s 0 < xC x
  · by_cases q2 : lfR x s (sL x s - 1) < xR x ∧ lfC x s (sL x s - 1) < xC x
    · rw [if_pos (il.mp ⟨q1, q2⟩)]
      simp (disch := first | assumption | omega) only [Nat.reduceAdd, Nat.reduceLeDiff, Nat.zero_le, true_and, and_true, ↓reduceIte, wB_const, wB_lconst, wB_ldc, wB_getstatic, wB_dupi, wB_dupr, wB_dup2, wB_popi, wB_iadd, wB_isub, wB_imul, wB_iand, wB_ior, wB_ixor, wB_ishl, wB_ishr, wB_iushr, wB_ineg, wB_ladd, wB_lsub, wB_lmul, wB_land, wB_lneg, wB_i2l, wB_l2i, wB_lcmp, wB_idiv, wB_irem, wB_ldiv, wB_lrem, wB_goto, wB_nop, wB_ifeq, wB_ifne, wB_iflt, wB_ifge, wB_ifgt, wB_ifle, wB_icmpeq, wB_icmpne, wB_icmplt, wB_icmpge, wB_icmpgt, wB_icmple, wB_table, wB_lookup, wB_ireturn, wB_zreturn, wB_lreturn, wB_areturn, wB_return, wB_getf, wB_putf, wB_iald, wB_bald, wB_lald, wB_iast, wB_bast, wB_last, wB_min, wB_max, wB_abs, wB_minl, wB_maxl, wB_absl, wB_obj, wB_copy, wB_charAt, wB_strlen, sr_k1i, sr_k1r, sr_k1U, sr_k1l, sr_ms1, sr_ms0, sr_msn, sr_cs1, sr_csm1, sr_csm2, sr_cl1, sr_cl2, sr_szi, sr_szr, sr_szl, sr_szn, sr_tls, sr_tln, wB_il0, wB_ll0, wB_al0, wB_is0, wB_as0, wB_inc0, wB_ls0, wB_il1, wB_ll1, wB_al1, wB_is1, wB_as1, wB_inc1, wB_ls1, wB_il2, wB_ll2, wB_al2, wB_is2, wB_as2, wB_inc2, wB_ls2, wB_il3, wB_ll3, wB_al3, wB_is3, wB_as3, wB_inc3, wB_ls3, wB_il4, wB_ll4, wB_al4, wB_is4, wB_as4, wB_inc4, wB_ls4, wB_il5, wB_ll5, wB_al5, wB_is5, wB_as5, wB_inc5, wB_ls5, wB_il6, wB_ll6, wB_al6, wB_is6, wB_as6, wB_inc6, wB_ls6, wB_il7, wB_ll7, wB_al7, wB_is7, wB_as7, wB_inc7, wB_ls7, lb_224001, lb_224002, cl_220, cl_221, cl_216, obj_11, fld_11_8, arr_11_8, nI_clamp, inb_nI, nI_leI, nI_ltI, nI_eq, nI_z, nI_ge0, nI_lt0, nI_add, n00, n11, n01, n10, true_or, or_true, not_true_eq_false, not_false_eq_true, bI_0, bI_z, Nat.le_refl, Nat.lt_irrefl, Nat.reduceLT, Nat.reduceEqDiff, nI_gt0, nI_le0, en_224, w, show s < 10 by omega, m3, es, i1, i2, i3, q1.1, q1.2, q2.1, q2.2, and_self]
    · rw [if_neg (fun z => q2 (il.mpr z).2)]
      simp (disch := first | assumption | omega) only [Nat.reduceAdd, Nat.reduceLeDiff, Nat.zero_le, true_and, and_true, ↓reduceIte, wB_const, wB_lconst, wB_ldc, wB_getstatic, wB_dupi, wB_dupr, wB_dup2, wB_popi, wB_iadd, wB_isub, wB_imul, wB_iand, wB_ior, wB_ixor, wB_ishl, wB_ishr, wB_iushr, wB_ineg, wB_ladd, wB_lsub, wB_lmul, wB_land, wB_lneg, wB_i2l, wB_l2i, wB_lcmp, wB_idiv, wB_irem, wB_ldiv, wB_lrem, wB_goto, wB_nop, wB_ifeq, wB_ifne, wB_iflt, wB_ifge, wB_ifgt, wB_ifle, wB_icmpeq, wB_icmpne, wB_icmplt, wB_icmpge, wB_icmpgt, wB_icmple, wB_table, wB_lookup, wB_ireturn, wB_zreturn, wB_lreturn, wB_areturn, wB_return, wB_getf, wB_putf, wB_iald, wB_bald, wB_lald, wB_iast, wB_bast, wB_last, wB_min, wB_max, wB_abs, wB_minl, wB_maxl, wB_absl, wB_obj, wB_copy, wB_charAt, wB_strlen, sr_k1i, sr_k1r, sr_k1U, sr_k1l, sr_ms1, sr_ms0, sr_msn, sr_cs1, sr_csm1, sr_csm2, sr_cl1, sr_cl2, sr_szi, sr_szr, sr_szl, sr_szn, sr_tls, sr_tln, wB_il0, wB_ll0, wB_al0, wB_is0, wB_as0, wB_inc0, wB_ls0, wB_il1, wB_ll1, wB_al1, wB_is1, wB_as1, wB_inc1, wB_ls1, wB_il2, wB_ll2, wB_al2, wB_is2, wB_as2, wB_inc2, wB_ls2, wB_il3, wB_ll3, wB_al3, wB_is3, wB_as3, wB_inc3, wB_ls3, wB_il4, wB_ll4, wB_al4, wB_is4, wB_as4, wB_inc4, wB_ls4, wB_il5, wB_ll5, wB_al5, wB_is5, wB_as5, wB_inc5, wB_ls5, wB_il6, wB_ll6, wB_al6, wB_is6, wB_as6, wB_inc6, wB_ls6, wB_il7, wB_ll7, wB_al7, wB_is7, wB_as7, wB_inc7, wB_ls7, lb_224001, lb_224002, cl_220, cl_221, cl_216, obj_11, fld_11_8, arr_11_8, nI_clamp, inb_nI, nI_leI, nI_ltI, nI_eq, nI_z, nI_ge0, nI_lt0, nI_add, n00, n11, n01, n10, true_or, or_true, not_true_eq_false, not_false_eq_true, bI_0, bI_z, Nat.le_refl, Nat.lt_irrefl, Nat.reduceLT, Nat.reduceEqDiff, nI_gt0, nI_le0, en_224, w, show s < 10 by omega, m3, es, i1, i2, i3, q1.1, q1.2, q2, and_self]
  · rw [if_neg (fun z => q1 (il.mpr z).1)]
    simp (disch := first | assumption | omega) only [Nat.reduceAdd, Nat.reduceLeDiff, Nat.zero_le, true_and, and_true, ↓reduceIte, wB_const, wB_lconst, wB_ldc, wB_getstatic, wB_dupi, wB_dupr, wB_dup2, wB_popi, wB_iadd, wB_isub, wB_imul, wB_iand, wB_ior, wB_ixor, wB_ishl, wB_ishr, wB_iushr, wB_ineg, wB_ladd, wB_lsub, wB_lmul, wB_land, wB_lneg, wB_i2l, wB_l2i, wB_lcmp, wB_idiv, wB_irem, wB_ldiv, wB_lrem, wB_goto, wB_nop, wB_ifeq, wB_ifne, wB_iflt, wB_ifge, wB_ifgt, wB_ifle, wB_icmpeq, wB_icmpne, wB_icmplt, wB_icmpge, wB_icmpgt, wB_icmple, wB_table, wB_lookup, wB_ireturn, wB_zreturn, wB_lreturn, wB_areturn, wB_return, wB_getf, wB_putf, wB_iald, wB_bald, wB_lald, wB_iast, wB_bast, wB_last, wB_min, wB_max, wB_abs, wB_minl, wB_maxl, wB_absl, wB_obj, wB_copy, wB_charAt, wB_strlen, sr_k1i, sr_k1r, sr_k1U, sr_k1l, sr_ms1, sr_ms0, sr_msn, sr_cs1, sr_csm1, sr_csm2, sr_cl1, sr_cl2, sr_szi, sr_szr, sr_szl, sr_szn, sr_tls, sr_tln, wB_il0, wB_ll0, wB_al0, wB_is0, wB_as0, wB_inc0, wB_ls0, wB_il1, wB_ll1, wB_al1, wB_is1, wB_as1, wB_inc1, wB_ls1, wB_il2, wB_ll2, wB_al2, wB_is2, wB_as2, wB_inc2, wB_ls2, wB_il3, wB_ll3, wB_al3, wB_is3, wB_as3, wB_inc3, wB_ls3, wB_il4, wB_ll4, wB_al4, wB_is4, wB_as4, wB_inc4, wB_ls4, wB_il5, wB_ll5, wB_al5, wB_is5, wB_as5, wB_inc5, wB_ls5, wB_il6, wB_ll6, wB_al6, wB_is6, wB_as6, wB_inc6, wB_ls6, wB_il7, wB_ll7, wB_al7, wB_is7, wB_as7, wB_inc7, wB_ls7, lb_224001, lb_224002, cl_220, cl_221, cl_216, obj_11, fld_11_8, arr_11_8, nI_clamp, inb_nI, nI_leI, nI_ltI, nI_eq, nI_z, nI_ge0, nI_lt0, nI_add, n00, n11, n01, n10, true_or, or_true, not_true_eq_false, not_false_eq_true, bI_0, bI_z, Nat.le_refl, Nat.lt_irrefl, Nat.reduceLT, Nat.reduceEqDiff, nI_gt0, nI_le0, en_224, w, show s < 10 by omega, m3, es, i1, i2, i3, q1]
set_option maxHeartbeats 4000000 in
set_option maxRecDepth 100000 in
theorem r_fitsN {d r s : Nat} {h : sr_H} {Q : sr_T} {x : V} (w : Mdl h) (hr : r < 23) (hs : s < xN x) (hx : Wx x) (m : MX h r x) : sr_M (d + 3) 225 [.ref 141, .int (nI r), .int (nI s)] h Q ↔ Q (some (.int (bI (fit x s (sR x s) (sK x s) (sD x s)) (Classical.propDecidable _)))) h := by
  classical
  have hN := hx.2.2.1
  obtain ⟨b1, b2, b3, b4, b5, b6⟩ := hx.2.2.2.2 s hs
  have ms := m.2.1 s hs
  have m3 := ms.2.2.1
  have e2 := m.1.2.2.1
  have i0 := fun (Q : sr_T) => r_isInRoom (d := d) (Q := Q) w hr hs hx m
  have i1 := fun (Q : sr_T) (l : Nat) => r_leafRow (d := d + 1) (l := l) (Q := Q) w hr (show s < 5 by omega) b3 ms
  have i2 := fun (Q : sr_T) (l : Nat) => r_leafColumn (d := d + 1) (l := l) (Q := Q) w hr (show s < 5 by omega) b3 ms
  refine Iff.trans ?_ ite_bI
  by_cases qi : inRm x s (sR x s) (sK x s) (sD x s)
  case neg =>
    rw [if_neg (fun z => qi z.1)]
    simp (disch := first | assumption | omega) only [Nat.reduceAdd, Nat.reduceLeDiff, Nat.zero_le, true_and, and_true, ↓reduceIte, wB_const, wB_lconst, wB_ldc, wB_getstatic, wB_dupi, wB_dupr, wB_dup2, wB_popi, wB_iadd, wB_isub, wB_imul, wB_iand, wB_ior, wB_ixor, wB_ishl, wB_ishr, wB_iushr, wB_ineg, wB_ladd, wB_lsub, wB_lmul, wB_land, wB_lneg, wB_i2l, wB_l2i, wB_lcmp, wB_idiv, wB_irem, wB_ldiv, wB_lrem, wB_goto, wB_nop, wB_ifeq, wB_ifne, wB_iflt, wB_ifge, wB_ifgt, wB_ifle, wB_icmpeq, wB_icmpne, wB_icmplt, wB_icmpge, wB_icmpgt, wB_icmple, wB_table, wB_lookup, wB_ireturn, wB_zreturn, wB_lreturn, wB_areturn, wB_return, wB_getf, wB_putf, wB_iald, wB_bald, wB_lald, wB_iast, wB_bast, wB_last, wB_min, wB_max, wB_abs, wB_minl, wB_maxl, wB_absl, wB_obj, wB_copy, wB_charAt, wB_strlen, sr_k1i, sr_k1r, sr_k1U, sr_k1l, sr_ms1, sr_ms0, sr_msn, sr_cs1, sr_csm1, sr_csm2, sr_cl1, sr_cl2, sr_szi, sr_szr, sr_szl, sr_szn, sr_tls, sr_tln, wB_il0, wB_ll0, wB_al0, wB_is0, wB_as0, wB_inc0, wB_ls0, wB_il1, wB_ll1, wB_al1, wB_is1, wB_as1, wB_inc1, wB_ls1, wB_il2, wB_ll2, wB_al2, wB_is2, wB_as2, wB_inc2, wB_ls2, wB_il3, wB_ll3, wB_al3, wB_is3, wB_as3, wB_inc3, wB_ls3, wB_il4, wB_ll4, wB_al4, wB_is4, wB_as4, wB_inc4, wB_ls4, wB_il5, wB_ll5, wB_al5, wB_is5, wB_as5, wB_inc5, wB_ls5, wB_il6, wB_ll6, wB_al6, wB_is6, wB_as6, wB_inc6, wB_ls6, wB_il7, wB_ll7, wB_al7, wB_is7, wB_as7, wB_inc7, wB_ls7, lb_225001, lb_225003, lb_225004, lb_225005, lb_225006, cl_224, cl_218, cl_220, cl_221, cl_222, obj_11, fld_11_8, arr_11_8, fld_11_3, arr_11_3, nI_clamp, inb_nI, nI_leI, nI_ltI, nI_eq, nI_z, nI_ge0, nI_lt0, nI_add, n00, n11, n01, n10, true_or, or_true, not_true_eq_false, not_false_eq_true, bI_0, bI_z, Nat.le_refl, Nat.lt_irrefl, Nat.reduceLT, Nat.reduceEqDiff, nI_gt0, nI_le0, en_225, w, i0, qi]
  simp (disch := first | assumption | omega) only [Nat.reduceAdd, Nat.reduceLeDiff, Nat.zero_le, true_and, and_true, ↓reduceIte, wB_const, wB_lconst, wB_ldc, wB_getstatic, wB_dupi, wB_dupr, wB_dup2, wB_popi, wB_iadd, wB_isub, wB_imul, wB_iand, wB_ior, wB_ixor, wB_ishl, wB_ishr, wB_iushr, wB_ineg, wB_ladd, wB_lsub, wB_lmul, wB_land, wB_lneg, wB_i2l, wB_l2i, wB_lcmp, wB_idiv, wB_irem, wB_ldiv, wB_lrem, wB_goto, wB_nop, wB_ifeq, wB_ifne, wB_iflt, wB_ifge, wB_ifgt, wB_ifle, wB_icmpeq, wB_icmpne, wB_icmplt, wB_icmpge, wB_icmpgt, wB_icmple, wB_table, wB_lookup, wB_ireturn, wB_zreturn, wB_lreturn, wB_areturn, wB_return, wB_getf, wB_putf, wB_iald, wB_bald, wB_lald, wB_iast, wB_bast, wB_last, wB_min, wB_max, wB_abs, wB_minl, wB_maxl, wB_absl, wB_obj, wB_copy, wB_charAt, wB_strlen, sr_k1i, sr_k1r, sr_k1U, sr_k1l, sr_ms1, sr_ms0, sr_msn, sr_cs1, sr_csm1, sr_csm2, sr_cl1, sr_cl2, sr_szi, sr_szr, sr_szl, sr_szn, sr_tls, sr_tln, wB_il0, wB_ll0, wB_al0, wB_is0, wB_as0, wB_inc0, wB_ls0, wB_il1, wB_ll1, wB_al1, wB_is1, wB_as1, wB_inc1, wB_ls1, wB_il2, wB_ll2, wB_al2, wB_is2, wB_as2, wB_inc2, wB_ls2, wB_il3, wB_ll3, wB_al3, wB_is3, wB_as3, wB_inc3, wB_ls3, wB_il4, wB_ll4, wB_al4, wB_is4, wB_as4, wB_inc4, wB_ls4, wB_il5, wB_ll5, wB_al5, wB_is5, wB_as5, wB_inc5, wB_ls5, wB_il6, wB_ll6, wB_al6, wB_is6, wB_as6, wB_inc6, wB_ls6, wB_il7, wB_ll7, wB_al7, wB_is7, wB_as7, wB_inc7, wB_ls7, lb_225001, lb_225003, lb_225004, lb_225005, lb_225006, cl_224, cl_218, cl_220, cl_221, cl_222, obj_11, fld_11_8, arr_11_8, fld_11_3, arr_11_3, nI_clamp, inb_nI, nI_leI, nI_ltI, nI_eq, nI_z, nI_ge0, nI_lt0, nI_add, n00, n11, n01, n10, true_or, or_true, not_true_eq_false, not_false_eq_true, bI_0, bI_z, Nat.le_refl, Nat.lt_irrefl, Nat.reduceLT, Nat.reduceEqDiff, nI_gt0, nI_le0, en_225, w, i0, qi]
  have inner : ∀ n k l (u4 : Value), n + k = xN x → l < sL x s → (sr_W (d + 2) 225003 [.ref 141, .int (nI r), .int (nI s), .int (nI l), .int (nI k)] [] h Q ↔ if ∃ o, k ≤ o ∧ o < xN x ∧ hit x s o (lfR x s l) (lfC x s l) then Q (some (.int (nI 0))) h else sr_W (d + 2) 225002 [.ref 141, .int (nI r), .int (nI s), .int (nI (l + 1)), u4] [] h Q) := by
    intro n
    induction n with
    | zero =>
      intro k l u4 hk hl
      rw [if_neg (fun ⟨k, z1, z2, z3⟩ => by omega), lb_225003]
      simp (disch := first | assumption | omega) only [Nat.reduceAdd, Nat.reduceLeDiff, Nat.zero_le, true_and, and_true, ↓reduceIte, wB_const, wB_lconst, wB_ldc, wB_getstatic, wB_dupi, wB_dupr, wB_dup2, wB_popi, wB_iadd, wB_isub, wB_imul, wB_iand, wB_ior, wB_ixor, wB_ishl, wB_ishr, wB_iushr, wB_ineg, wB_ladd, wB_lsub, wB_lmul, wB_land, wB_lneg, wB_i2l, wB_l2i, wB_lcmp, wB_idiv, wB_irem, wB_ldiv, wB_lrem, wB_goto, wB_nop, wB_ifeq, wB_ifne, wB_iflt, wB_ifge, wB_ifgt, wB_ifle, wB_icmpeq, wB_icmpne, wB_icmplt, wB_icmpge, wB_icmpgt, wB_icmple, wB_table, wB_lookup, wB_ireturn, wB_zreturn, wB_lreturn, wB_areturn, wB_return, wB_getf, wB_putf, wB_iald, wB_bald, wB_lald, wB_iast, wB_bast, wB_last, wB_min, wB_max, wB_abs, wB_minl, wB_maxl, wB_absl, wB_obj, wB_copy, wB_charAt, wB_strlen, sr_k1i, sr_k1r, sr_k1U, sr_k1l, sr_ms1, sr_ms0, sr_msn, sr_cs1, sr_csm1, sr_csm2, sr_cl1, sr_cl2, sr_szi, sr_szr, sr_szl, sr_szn, sr_tls, sr_tln, wB_il0, wB_ll0, wB_al0, wB_is0, wB_as0, wB_inc0, wB_ls0, wB_il1, wB_ll1, wB_al1, wB_is1, wB_as1, wB_inc1, wB_ls1, wB_il2, wB_ll2, wB_al2, wB_is2, wB_as2, wB_inc2, wB_ls2, wB_il3, wB_ll3, wB_al3, wB_is3, wB_as3, wB_inc3, wB_ls3, wB_il4, wB_ll4, wB_al4, wB_is4, wB_as4, wB_inc4, wB_ls4, wB_il5, wB_ll5, wB_al5, wB_is5, wB_as5, wB_inc5, wB_ls5, wB_il6, wB_ll6, wB_al6, wB_is6, wB_as6, wB_inc6, wB_ls6, wB_il7, wB_ll7, wB_al7, wB_is7, wB_as7, wB_inc7, wB_ls7, lb_225001, lb_225004, lb_225005, lb_225006, cl_224, cl_218, cl_220, cl_221, cl_222, obj_11, fld_11_8, arr_11_8, fld_11_3, arr_11_3, nI_clamp, inb_nI, nI_leI, nI_ltI, nI_eq, nI_z, nI_ge0, nI_lt0, nI_add, n00, n11, n01, n10, true_or, or_true, not_true_eq_false, not_false_eq_true, bI_0, bI_z, Nat.le_refl, Nat.lt_irrefl, Nat.reduceLT, Nat.reduceEqDiff, nI_gt0, nI_le0, w, e2, show xN x ≤ k by omega]
      rw [lb_225002, lb_225002]
      exact Iff.rfl
    | succ n ih =>
      intro k l u4 hk hl
      have mk := m.2.1 k (by omega)
      have i4 := fun (Q : sr_T) => r_isHere (d := d + 1) (Q := Q) w mk
      have i5 := fun (Q : sr_T) => r_hasLeaf (d := d) (u := nI (lfR x s l)) (v := nI (lfC x s l)) (a := 1) (Q := Q) w hr (show k < xN x by omega) hx (by omega) mk
      have bs := lf_bd (l := l) hx hs (by omega)
      have hcv : (∃ l', l' < sL x k ∧ lfA x k (nI (lfR x s l)) (nI (lfC x s l)) 1 l') ↔ cov x k (lfR x s l) (lfC x s l) := by
        rw [← cov_ex]
        have bk := hx.2.2.2.2 k (by omega)
        constructor
        · rintro ⟨l', h1, h2, h3, h4⟩
          have b' := lf_bd (l := l') hx (show k < xN x by omega) (by omega)
          exact ⟨l', h1, (nI_eq (by omega) (by omega)).mp h3, (nI_eq (by omega) (by omega)).mp h4⟩
        · rintro ⟨l', h1, h3, h4⟩
          exact ⟨l', h1, Or.inl rfl, by rw [h3], by rw [h4]⟩
      have nxt : ¬ hit x s k (lfR x s l) (lfC x s l) → (sr_W (d + 2) 225003 [.ref 141, .int (nI r), .int (nI s), .int (nI l), .int (nI (k + 1))] [] h Q ↔ if ∃ o, k ≤ o ∧ o < xN x ∧ hit x s o (lfR x s l) (lfC x s l) then Q (some (.int (nI 0))) h else sr_W (d + 2) 225002 [.ref 141, .int (nI r), .int (nI s), .int (nI (l + 1)), u4] [] h Q) := fun z => by
        rw [ih (k + 1) l u4 (by omega) hl]
        simp only [ex_nx (P := fun o => hit x s o (lfR x s l) (lfC x s l)) z]
      rw [lb_225003]
      by_cases q1 : k = s
      · rw [← nxt (fun z => z.1 q1)]
        simp (disch := first | assumption | omega) only [Nat.reduceAdd, Nat.reduceLeDiff, Nat.zero_le, true_and, and_true, ↓reduceIte, wB_const, wB_lconst, wB_ldc, wB_getstatic, wB_dupi, wB_dupr, wB_dup2, wB_popi, wB_iadd, wB_isub, wB_imul, wB_iand, wB_ior, wB_ixor, wB_ishl, wB_ishr, wB_iushr, wB_ineg, wB_ladd, wB_lsub, wB_lmul, wB_land, wB_lneg, wB_i2l, wB_l2i, wB_lcmp, wB_idiv, wB_irem, wB_ldiv, wB_lrem, wB_goto, wB_nop, wB_ifeq, wB_ifne, wB_iflt, wB_ifge, wB_ifgt, wB_ifle, wB_icmpeq, wB_icmpne, wB_icmplt, wB_icmpge, wB_icmpgt, wB_icmple, wB_table, wB_lookup, wB_ireturn, wB_zreturn, wB_lreturn, wB_areturn, wB_return, wB_getf, wB_putf, wB_iald, wB_bald, wB_lald, wB_iast, wB_bast, wB_last, wB_min, wB_max, wB_abs, wB_minl, wB_maxl, wB_absl, wB_obj, wB_copy, wB_charAt, wB_strlen, sr_k1i, sr_k1r, sr_k1U, sr_k1l, sr_ms1, sr_ms0, sr_msn, sr_cs1, sr_csm1, sr_csm2, sr_cl1, sr_cl2, sr_szi, sr_szr, sr_szl, sr_szn, sr_tls, sr_tln, wB_il0, wB_ll0, wB_al0, wB_is0, wB_as0, wB_inc0, wB_ls0, wB_il1, wB_ll1, wB_al1, wB_is1, wB_as1, wB_inc1, wB_ls1, wB_il2, wB_ll2, wB_al2, wB_is2, wB_as2, wB_inc2, wB_ls2, wB_il3, wB_ll3, wB_al3, wB_is3, wB_as3, wB_inc3, wB_ls3, wB_il4, wB_ll4, wB_al4, wB_is4, wB_as4, wB_inc4, wB_ls4, wB_il5, wB_ll5, wB_al5, wB_is5, wB_as5, wB_inc5, wB_ls5, wB_il6, wB_ll6, wB_al6, wB_is6, wB_as6, wB_inc6, wB_ls6, wB_il7, wB_ll7, wB_al7, wB_is7, wB_as7, wB_inc7, wB_ls7, lb_225001, lb_225004, lb_225005, lb_225006, cl_224, cl_218, cl_220, cl_221, cl_222, obj_11, fld_11_8, arr_11_8, fld_11_3, arr_11_3, nI_clamp, inb_nI, nI_leI, nI_ltI, nI_eq, nI_z, nI_ge0, nI_lt0, nI_add, n00, n11, n01, n10, true_or, or_true, not_true_eq_false, not_false_eq_true, bI_0, bI_z, Nat.le_refl, Nat.lt_irrefl, Nat.reduceLT, Nat.reduceEqDiff, nI_gt0, nI_le0, w, e2, show ¬ xN x ≤ k by omega, q1, show ¬ xN x ≤ s by omega]
      by_cases q2 : xP x / 2 ^ k % 2 = 1
      case neg =>
        rw [← nxt (fun z => q2 z.2.1)]
        simp (disch := first | assumption | omega) only [Nat.reduceAdd, Nat.reduceLeDiff, Nat.zero_le, true_and, and_true, ↓reduceIte, wB_const, wB_lconst, wB_ldc, wB_getstatic, wB_dupi, wB_dupr, wB_dup2, wB_popi, wB_iadd, wB_isub, wB_imul, wB_iand, wB_ior, wB_ixor, wB_ishl, wB_ishr, wB_iushr, wB_ineg, wB_ladd, wB_lsub, wB_lmul, wB_land, wB_lneg, wB_i2l, wB_l2i, wB_lcmp, wB_idiv, wB_irem, wB_ldiv, wB_lrem, wB_goto, wB_nop, wB_ifeq, wB_ifne, wB_iflt, wB_ifge, wB_ifgt, wB_ifle, wB_icmpeq, wB_icmpne, wB_icmplt, wB_icmpge, wB_icmpgt, wB_icmple, wB_table, wB_lookup, wB_ireturn, wB_zreturn, wB_lreturn, wB_areturn, wB_return, wB_getf, wB_putf, wB_iald, wB_bald, wB_lald, wB_iast, wB_bast, wB_last, wB_min, wB_max, wB_abs, wB_minl, wB_maxl, wB_absl, wB_obj, wB_copy, wB_charAt, wB_strlen, sr_k1i, sr_k1r, sr_k1U, sr_k1l, sr_ms1, sr_ms0, sr_msn, sr_cs1, sr_csm1, sr_csm2, sr_cl1, sr_cl2, sr_szi, sr_szr, sr_szl, sr_szn, sr_tls, sr_tln, wB_il0, wB_ll0, wB_al0, wB_is0, wB_as0, wB_inc0, wB_ls0, wB_il1, wB_ll1, wB_al1, wB_is1, wB_as1, wB_inc1, wB_ls1, wB_il2, wB_ll2, wB_al2, wB_is2, wB_as2, wB_inc2, wB_ls2, wB_il3, wB_ll3, wB_al3, wB_is3, wB_as3, wB_inc3, wB_ls3, wB_il4, wB_ll4, wB_al4, wB_is4, wB_as4, wB_inc4, wB_ls4, wB_il5, wB_ll5, wB_al5, wB_is5, wB_as5, wB_inc5, wB_ls5, wB_il6, wB_ll6, wB_al6, wB_is6, wB_as6, wB_inc6, wB_ls6, wB_il7, wB_ll7, wB_al7, wB_is7, wB_as7, wB_inc7, wB_ls7, lb_225001, lb_225004, lb_225005, lb_225006, cl_224, cl_218, cl_220, cl_221, cl_222, obj_11, fld_11_8, arr_11_8, fld_11_3, arr_11_3, nI_clamp, inb_nI, nI_leI, nI_ltI, nI_eq, nI_z, nI_ge0, nI_lt0, nI_add, n00, n11, n01, n10, true_or, or_true, not_true_eq_false, not_false_eq_true, bI_0, bI_z, Nat.le_refl, Nat.lt_irrefl, Nat.reduceLT, Nat.reduceEqDiff, nI_gt0, nI_le0, w, e2, show ¬ xN x ≤ k by omega, q1, i4, q2]
      by_cases q3 : cov x k (lfR x s l) (lfC x s l)
      · rw [if_pos ⟨k, Nat.le_refl _, by omega, q1, q2, q3⟩]
        have q3' := hcv.mpr q3
        simp (disch := first | assumption | omega) only [Nat.reduceAdd, Nat.reduceLeDiff, Nat.zero_le, true_and, and_true, ↓reduceIte, wB_const, wB_lconst, wB_ldc, wB_getstatic, wB_dupi, wB_dupr, wB_dup2, wB_popi, wB_iadd, wB_isub, wB_imul, wB_iand, wB_ior, wB_ixor, wB_ishl, wB_ishr, wB_iushr, wB_ineg, wB_ladd, wB_lsub, wB_lmul, wB_land, wB_lneg, wB_i2l, wB_l2i, wB_lcmp, wB_idiv, wB_irem, wB_ldiv, wB_lrem, wB_goto, wB_nop, wB_ifeq, wB_ifne, wB_iflt, wB_ifge, wB_ifgt, wB_ifle, wB_icmpeq, wB_icmpne, wB_icmplt, wB_icmpge, wB_icmpgt, wB_icmple, wB_table, wB_lookup, wB_ireturn, wB_zreturn, wB_lreturn, wB_areturn, wB_return, wB_getf, wB_putf, wB_iald, wB_bald, wB_lald, wB_iast, wB_bast, wB_last, wB_min, wB_max, wB_abs, wB_minl, wB_maxl, wB_absl, wB_obj, wB_copy, wB_charAt, wB_strlen, sr_k1i, sr_k1r, sr_k1U, sr_k1l, sr_ms1, sr_ms0, sr_msn, sr_cs1, sr_csm1, sr_csm2, sr_cl1, sr_cl2, sr_szi, sr_szr, sr_szl, sr_szn, sr_tls, sr_tln, wB_il0, wB_ll0, wB_al0, wB_is0, wB_as0, wB_inc0, wB_ls0, wB_il1, wB_ll1, wB_al1, wB_is1, wB_as1, wB_inc1, wB_ls1, wB_il2, wB_ll2, wB_al2, wB_is2, wB_as2, wB_inc2, wB_ls2, wB_il3, wB_ll3, wB_al3, wB_is3, wB_as3, wB_inc3, wB_ls3, wB_il4, wB_ll4, wB_al4, wB_is4, wB_as4, wB_inc4, wB_ls4, wB_il5, wB_ll5, wB_al5, wB_is5, wB_as5, wB_inc5, wB_ls5, wB_il6, wB_ll6, wB_al6, wB_is6, wB_as6, wB_inc6, wB_ls6, wB_il7, wB_ll7, wB_al7, wB_is7, wB_as7, wB_inc7, wB_ls7, lb_225001, lb_225004, lb_225005, lb_225006, cl_224, cl_218, cl_220, cl_221, cl_222, obj_11, fld_11_8, arr_11_8, fld_11_3, arr_11_3, nI_clamp, inb_nI, nI_leI, nI_ltI, nI_eq, nI_z, nI_ge0, nI_lt0, nI_add, n00, n11, n01, n10, true_or, or_true, not_true_eq_false, not_false_eq_true, bI_0, bI_z, Nat.le_refl, Nat.lt_irrefl, Nat.reduceLT, Nat.reduceEqDiff, nI_gt0, nI_le0, w, e2, show ¬ xN x ≤ k by omega, q1, i4, q2, i1, i2, i5, q3']
      · rw [← nxt (fun z => q3 z.2.2)]
        have q3' : ¬ ∃ l', l' < sL x k ∧ lfA x k (nI (lfR x s l)) (nI (lfC x s l)) 1 l' := fun z => q3 (hcv.mp z)
        simp (disch := first | assumption | omega) only [Nat.reduceAdd, Nat.reduceLeDiff, Nat.zero_le, true_and, and_true, ↓reduceIte, wB_const, wB_lconst, wB_ldc, wB_getstatic, wB_dupi, wB_dupr, wB_dup2, wB_popi, wB_iadd, wB_isub, wB_imul, wB_iand, wB_ior, wB_ixor, wB_ishl, wB_ishr, wB_iushr, wB_ineg, wB_ladd, wB_lsub, wB_lmul, wB_land, wB_lneg, wB_i2l, wB_l2i, wB_lcmp, wB_idiv, wB_irem, wB_ldiv, wB_lrem, wB_goto, wB_nop, wB_ifeq, wB_ifne, wB_iflt, wB_ifge, wB_ifgt, wB_ifle, wB_icmpeq, wB_icmpne, wB_icmplt, wB_icmpge, wB_icmpgt, wB_icmple, wB_table, wB_lookup, wB_ireturn, wB_zreturn, wB_lreturn, wB_areturn, wB_return, wB_getf, wB_putf, wB_iald, wB_bald, wB_lald, wB_iast, wB_bast, wB_last, wB_min, wB_max, wB_abs, wB_minl, wB_maxl, wB_absl, wB_obj, wB_copy, wB_charAt, wB_strlen, sr_k1i, sr_k1r, sr_k1U, sr_k1l, sr_ms1, sr_ms0, sr_msn, sr_cs1, sr_csm1, sr_csm2, sr_cl1, sr_cl2, sr_szi, sr_szr, sr_szl, sr_szn, sr_tls, sr_tln, wB_il0, wB_ll0, wB_al0, wB_is0, wB_as0, wB_inc0, wB_ls0, wB_il1, wB_ll1, wB_al1, wB_is1, wB_as1, wB_inc1, wB_ls1, wB_il2, wB_ll2, wB_al2, wB_is2, wB_as2, wB_inc2, wB_ls2, wB_il3, wB_ll3, wB_al3, wB_is3, wB_as3, wB_inc3, wB_ls3, wB_il4, wB_ll4, wB_al4, wB_is4, wB_as4, wB_inc4, wB_ls4, wB_il5, wB_ll5, wB_al5, wB_is5, wB_as5, wB_inc5, wB_ls5, wB_il6, wB_ll6, wB_al6, wB_is6, wB_as6, wB_inc6, wB_ls6, wB_il7, wB_ll7, wB_al7, wB_is7, wB_as7, wB_inc7, wB_ls7, lb_225001, lb_225004, lb_225005, lb_225006, cl_224, cl_218, cl_220, cl_221, cl_222, obj_11, fld_11_8, arr_11_8, fld_11_3, arr_11_3, nI_clamp, inb_nI, nI_leI, nI_ltI, nI_eq, nI_z, nI_ge0, nI_lt0, nI_add, n00, n11, n01, n10, true_or, or_true, not_true_eq_false, not_false_eq_true, bI_0, bI_z, Nat.le_refl, Nat.lt_irrefl, Nat.reduceLT, Nat.reduceEqDiff, nI_gt0, nI_le0, w, e2, show ¬ xN x ≤ k by omega, q1, i4, q2, i1, i2, i5, q3']
  have outer : ∀ n l (u4 : Value), n + l = sL x s → (sr_W (d + 2) 225002 [.ref 141, .int (nI r), .int (nI s), .int (nI l), u4] [] h Q ↔ if ∃ k, l ≤ k ∧ k < sL x s ∧ ∃ o, o < xN x ∧ hit x s o (lfR x s k) (lfC x s k) then Q (some (.int (nI 0))) h else Q (some (.int (nI 1))) h) := by
    intro n
    induction n with
    | zero =>
      intro l u4 hl
      rw [if_neg (fun ⟨k, z1, z2, z3⟩ => by omega), lb_225002]
      simp (disch := first | assumption | omega) only [Nat.reduceAdd, Nat.reduceLeDiff, Nat.zero_le, true_and, and_true, ↓reduceIte, wB_const, wB_lconst, wB_ldc, wB_getstatic, wB_dupi, wB_dupr, wB_dup2, wB_popi, wB_iadd, wB_isub, wB_imul, wB_iand, wB_ior, wB_ixor, wB_ishl, wB_ishr, wB_iushr, wB_ineg, wB_ladd, wB_lsub, wB_lmul, wB_land, wB_lneg, wB_i2l, wB_l2i, wB_lcmp, wB_idiv, wB_irem, wB_ldiv, wB_lrem, wB_goto, wB_nop, wB_ifeq, wB_ifne, wB_iflt, wB_ifge, wB_ifgt, wB_ifle, wB_icmpeq, wB_icmpne, wB_icmplt, wB_icmpge, wB_icmpgt, wB_icmple, wB_table, wB_lookup, wB_ireturn, wB_zreturn, wB_lreturn, wB_areturn, wB_return, wB_getf, wB_putf, wB_iald, wB_bald, wB_lald, wB_iast, wB_bast, wB_last, wB_min, wB_max, wB_abs, wB_minl, wB_maxl, wB_absl, wB_obj, wB_copy, wB_charAt, wB_strlen, sr_k1i, sr_k1r, sr_k1U, sr_k1l, sr_ms1, sr_ms0, sr_msn, sr_cs1, sr_csm1, sr_csm2, sr_cl1, sr_cl2, sr_szi, sr_szr, sr_szl, sr_szn, sr_tls, sr_tln, wB_il0, wB_ll0, wB_al0, wB_is0, wB_as0, wB_inc0, wB_ls0, wB_il1, wB_ll1, wB_al1, wB_is1, wB_as1, wB_inc1, wB_ls1, wB_il2, wB_ll2, wB_al2, wB_is2, wB_as2, wB_inc2, wB_ls2, wB_il3, wB_ll3, wB_al3, wB_is3, wB_as3, wB_inc3, wB_ls3, wB_il4, wB_ll4, wB_al4, wB_is4, wB_as4, wB_inc4, wB_ls4, wB_il5, wB_ll5, wB_al5, wB_is5, wB_as5, wB_inc5, wB_ls5, wB_il6, wB_ll6, wB_al6, wB_is6, wB_as6, wB_inc6, wB_ls6, wB_il7, wB_ll7, wB_al7, wB_is7, wB_as7, wB_inc7, wB_ls7, lb_225001, lb_225004, lb_225005, lb_225006, cl_224, cl_218, cl_220, cl_221, cl_222, obj_11, fld_11_8, arr_11_8, fld_11_3, arr_11_3, nI_clamp, inb_nI, nI_leI, nI_ltI, nI_eq, nI_z, nI_ge0, nI_lt0, nI_add, n00, n11, n01, n10, true_or, or_true, not_true_eq_false, not_false_eq_true, bI_0, bI_z, Nat.le_refl, Nat.lt_irrefl, Nat.reduceLT, Nat.reduceEqDiff, nI_gt0, nI_le0, w, show s < 10 by omega, m3, show sL x s ≤ l by omega]
    | succ n ih =>
      intro l u4 hl
      rw [lb_225002]
      simp (disch := first | assumption | omega) only [Nat.reduceAdd, Nat.reduceLeDiff, Nat.zero_le, true_and, and_true, ↓reduceIte, wB_const, wB_lconst, wB_ldc, wB_getstatic, wB_dupi, wB_dupr, wB_dup2, wB_popi, wB_iadd, wB_isub, wB_imul, wB_iand, wB_ior, wB_ixor, wB_ishl, wB_ishr, wB_iushr, wB_ineg, wB_ladd, wB_lsub, wB_lmul, wB_land, wB_lneg, wB_i2l, wB_l2i, wB_lcmp, wB_idiv, wB_irem, wB_ldiv, wB_lrem, wB_goto, wB_nop, wB_ifeq, wB_ifne, wB_iflt, wB_ifge, wB_ifgt, wB_ifle, wB_icmpeq, wB_icmpne, wB_icmplt, wB_icmpge, wB_icmpgt, wB_icmple, wB_table, wB_lookup, wB_ireturn, wB_zreturn, wB_lreturn, wB_areturn, wB_return, wB_getf, wB_putf, wB_iald, wB_bald, wB_lald, wB_iast, wB_bast, wB_last, wB_min, wB_max, wB_abs, wB_minl, wB_maxl, wB_absl, wB_obj, wB_copy, wB_charAt, wB_strlen, sr_k1i, sr_k1r, sr_k1U, sr_k1l, sr_ms1, sr_ms0, sr_msn, sr_cs1, sr_csm1, sr_csm2, sr_cl1, sr_cl2, sr_szi, sr_szr, sr_szl, sr_szn, sr_tls, sr_tln, wB_il0, wB_ll0, wB_al0, wB_is0, wB_as0, wB_inc0, wB_ls0, wB_il1, wB_ll1, wB_al1, wB_is1, wB_as1, wB_inc1, wB_ls1, wB_il2, wB_ll2, wB_al2, wB_is2, wB_as2, wB_inc2, wB_ls2, wB_il3, wB_ll3, wB_al3, wB_is3, wB_as3, wB_inc3, wB_ls3, wB_il4, wB_ll4, wB_al4, wB_is4, wB_as4, wB_inc4, wB_ls4, wB_il5, wB_ll5, wB_al5, wB_is5, wB_as5, wB_inc5, wB_ls5, wB_il6, wB_ll6, wB_al6, wB_is6, wB_as6, wB_inc6, wB_ls6, wB_il7, wB_ll7, wB_al7, wB_is7, wB_as7, wB_inc7, wB_ls7, lb_225001, lb_225004, lb_225005, lb_225006, cl_224, cl_218, cl_220, cl_221, cl_222, obj_11, fld_11_8, arr_11_8, fld_11_3, arr_11_3, nI_clamp, inb_nI, nI_leI, nI_ltI, nI_eq, nI_z, nI_ge0, nI_lt0, nI_add, n00, n11, n01, n10, true_or, or_true, not_true_eq_false, not_false_eq_true, bI_0, bI_z, Nat.le_refl, Nat.lt_irrefl, Nat.reduceLT, Nat.reduceEqDiff, nI_gt0, nI_le0, w, show s < 10 by omega, m3, show ¬ sL x s ≤ l by omega]
      rw [inner (xN x) 0 l sr_U rfl (by omega)]
      by_cases q : ∃ o, o < xN x ∧ hit x s o (lfR x s l) (lfC x s l)
      · rw [if_pos (by obtain ⟨o, h1, h2⟩ := q; exact ⟨o, Nat.zero_le _, h1, h2⟩), if_pos ⟨l, Nat.le_refl _, by omega, q⟩]
      · rw [if_neg (fun ⟨o, _, h1, h2⟩ => q ⟨o, h1, h2⟩), ih (l + 1) sr_U (by omega)]
        simp only [ex_nx (P := fun k => ∃ o, o < xN x ∧ hit x s o (lfR x s k) (lfC x s k)) q]
  refine Iff.trans (outer (sL x s) 0 _ rfl) ?_
  have hf : fit x s (sR x s) (sK x s) (sD x s) ↔ ¬ ∃ k, 0 ≤ k ∧ k < sL x s ∧ ∃ o, o < xN x ∧ hit x s o (lfR x s k) (lfC x s k) := by
    constructor
    · rintro ⟨-, z⟩ ⟨k, -, h1, o, h2, h3⟩
      exact z k h1 o h2 h3
    · exact fun z => ⟨qi, fun l hl o ho hh => z ⟨l, Nat.zero_le _, hl, o, ho, hh⟩⟩
  by_cases q : fit x s (sR x s) (sK x s) (sD x s)
  · rw [if_pos q, if_neg (hf.mp q)]
  · rw [if_neg q, if_pos (Classical.not_not.mp (fun z => q (hf.mpr z)))]
