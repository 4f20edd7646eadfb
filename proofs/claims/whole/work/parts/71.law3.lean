/-! The parser: laws, as the class reads them; a law's line. -/
noncomputable def aSt (b : Nat → Nat) (n p : Nat) (y : V) (W : List Nat) (op cm du nm : Nat) : (Nat × Nat) ⊕ LT := if du = 1 then aOp b n p y W op cm du nm else aBh b n p y W op cm du nm
noncomputable def lRun (b : Nat → Nat) (n : Nat) : Nat → V → Nat → List Nat → Nat → Nat → Nat → Nat → PR
  | 0, _, p, _, _, _, _, _ => .inl (1, p)
  | f + 1, y, p, W, op, cm, du, nm => if du = 0 ∧ op = 0 ∧ tK b n p = 4 then .inr ((rel 1 y W).1, p) else bd (aSt b n p y W op cm du nm) (fun s => lRun b n f s.1 (tN b n p) s.2.1 s.2.2.1 s.2.2.2.1 s.2.2.2.2.1 s.2.2.2.2.2)
def kpt (y y' : V) : Prop := (∀ j, ¬ j = 8 → ¬ j = 13 → y' 0 j = y 0 j) ∧ ∀ i j, 1 ≤ i → ¬ i = 21 → ¬ i = 22 → y' i j = y i j
theorem kpt.rf {y : V} : kpt y y := ⟨fun _ _ _ => rfl, fun _ _ _ _ _ => rfl⟩
theorem kpt.tr {y y1 y2 : V} (a : kpt y y1) (b : kpt y1 y2) : kpt y y2 := ⟨fun j h1 h2 => (b.1 j h1 h2).trans (a.1 j h1 h2), fun i j h1 h2 h3 => (b.2 i j h1 h2 h3).trans (a.2 i j h1 h2 h3)⟩
theorem kpt_put {y : V} {k v : Nat} : kpt y (putk y k v) := ⟨fun j _ h2 => putk_0 h2, fun i j h1 h2 h3 => psh_n h1 (by omega)⟩
theorem kpt_8 {y : V} {v : Nat} : kpt y (vs y 0 8 v) := ⟨fun j h1 _ => vs_n (by omega), fun i j h1 _ _ => vs_n (by omega)⟩
def WR (y : V) : Prop := ∀ i, i < y 0 13 → y 21 i < 64 ∧ y 22 i < 10000 ∧ (y 21 i = 34 → y 22 i < 7)
theorem WR_put {y : V} {k v : Nat} (h : WR y) (h1 : k < 64) (h2 : v < 10000) (h3 : k = 34 → v < 7) : WR (putk y k v) := by
  intro i hi
  rw [putk_13] at hi
  by_cases q : i = y 0 13
  · have e1 : putk y k v 21 i = k := by rw [q]; exact psh_z (by omega) (by omega) (by omega)
    have e2 : putk y k v 22 i = v := by rw [q]; exact psh_z (by omega) (by omega) (by omega)
    rw [e1, e2]
    exact ⟨h1, h2, h3⟩
  · have e1 : putk y k v 21 i = y 21 i := psh_n (by omega) (fun z => q z.2)
    have e2 : putk y k v 22 i = y 22 i := psh_n (by omega) (fun z => q z.2)
    rw [e1, e2]
    exact h i (by omega)
theorem WR_8 {y : V} {v : Nat} (h : WR y) : WR (vs y 0 8 v) := by
  intro i hi
  rw [vs8_13] at hi
  rw [vs_n (by omega), vs_n (by omega)]
  exact h i hi
theorem rel_k {r : Nat} : ∀ (W : List Nat) (y : V), (∀ k, k ∈ W → k < 64) → kpt y (rel r y W).1 ∧ (WR y → WR (rel r y W).1) ∧ y 0 13 ≤ (rel r y W).1 0 13 ∧ ((rel r y W).2 = [] ∨ ∃ k W', (rel r y W).2 = k :: W' ∧ rk k < r)
  | [], y, _ => ⟨kpt.rf, fun h => h, Nat.le_refl _, Or.inl rfl⟩
  | k :: W, y, hW => by
    by_cases q : r ≤ rk k
    · have e : rel r y (k :: W) = rel r (putk y k 0) W := by rw [rel, if_pos q]
      obtain ⟨h1, h2, h3, h4⟩ := rel_k (r := r) W (putk y k 0) (fun j hj => hW j (List.mem_cons_of_mem _ hj))
      rw [e]
      rw [putk_13] at h3
      exact ⟨kpt_put.tr h1, fun h => h2 (WR_put h (hW k List.mem_cons_self) (by omega) (by omega)), by omega, h4⟩
    · have e : rel r y (k :: W) = (y, k :: W) := by rw [rel, if_neg q]
      rw [e]
      exact ⟨kpt.rf, fun h => h, Nat.le_refl _, Or.inr ⟨k, W, rfl, by omega⟩⟩
theorem sg_le : ∀ (W : List Nat), sg W ≤ W.length
  | [] => Nat.le_refl _
  | k :: W => by
    have := sg_le W
    rw [sg, List.length_cons]
    split <;> omega
/-- what a step keeps -/
def SO (y : V) (du : Nat) (s : LT) : Prop := LW s.1 s.2.1 s.2.2.1 s.2.2.2.1 s.2.2.2.2.1 s.2.2.2.2.2 ∧ kpt y s.1 ∧ (WR y → WR s.1) ∧ y 0 13 ≤ s.1 0 13 ∧ (s.2.2.2.2.1 = 0 → y 0 13 < s.1 0 13 ∨ du = 0)
theorem vs8_8 {y : V} {v : Nat} : vs y 0 8 v 0 8 = v := vs_y
theorem aOp_ok {b : Nat → Nat} {n p op cm du nm : Nat} {y : V} {W : List Nat} {s : LT} (hp : p ≤ n) (lw : LW y W op cm du nm) (e : aOp b n p y W op cm du nm = .inr s) : SO y du s ∧ ¬ tK b n p = 0 := by
  obtain ⟨l1, l2, l3, l4, l5, l6, l7, l8⟩ := lw
  have hK : tK b n p ≤ 40 := (lex_sp hp).1
  unfold aOp at e
  by_cases q5 : tK b n p = 5
  · rw [if_pos q5] at e
    unfold aOpen at e
    by_cases q : 8 ≤ op
    · rw [if_pos q] at e; cases e
    · rw [if_neg q] at e
      cases e
      have hs : sg (5 :: W) = sg W := by rw [sg, if_pos (by decide), Nat.zero_add]
      refine ⟨⟨⟨?_, l2, ?_, by dsimp only; omega, (cclr_ok (op + 1) (by omega) cm l5).2, l6, by dsimp only; omega, ?_⟩, kpt.rf, fun h => h, Nat.le_refl _, fun h => Or.inr h⟩, by omega⟩
      · dsimp only; omega
      · dsimp only; rw [hs, List.length_cons]; omega
      · intro k hk
        rcases List.mem_cons.mp hk with rfl | hk
        · omega
        · exact l8 k hk
  rw [if_neg q5] at e
  by_cases q2 : tK b n p = 2
  · rw [if_pos q2] at e
    by_cases qv : 9999 < tV b n p
    · rw [if_pos qv] at e; cases e
    rw [if_neg qv] at e
    by_cases q8 : y 0 8 = 64
    · rw [if_pos q8] at e; cases e
    rw [if_neg q8] at e
    cases e
    refine ⟨⟨⟨?_, ?_, l3, l4, l5, by dsimp only; omega, l7, l8⟩, kpt_8.tr kpt_put, fun h => WR_put (WR_8 h) (by omega) (by omega) (by omega), ?_, fun _ => Or.inl ?_⟩, by omega⟩
    · dsimp only; rw [putk_13, putk_0 (by omega), vs8_8, vs8_13]; omega
    · dsimp only; rw [putk_0 (by omega), vs8_8]; omega
    · dsimp only; rw [putk_13, vs8_13]; omega
    · dsimp only; rw [putk_13, vs8_13]; omega
  rw [if_neg q2] at e
  by_cases q3 : tK b n p = 33 ∧ nm = 1
  · rw [if_pos q3] at e
    by_cases q8 : y 0 8 = 64
    · rw [if_pos q8] at e; cases e
    rw [if_neg q8] at e
    cases e
    have hs : sg (33 :: W) = 1 + sg W := by rw [sg, if_neg (by decide)]
    refine ⟨⟨⟨?_, ?_, ?_, l4, l5, l6, l7, ?_⟩, kpt_8, WR_8, ?_, fun h => Or.inr h⟩, by omega⟩
    · dsimp only; rw [vs8_13, vs8_8, hs]; omega
    · dsimp only; rw [vs8_8]; omega
    · dsimp only; rw [hs, List.length_cons]; omega
    · intro k hk
      rcases List.mem_cons.mp hk with rfl | hk
      · omega
      · exact l8 k hk
    · dsimp only; rw [vs8_13]; omega
  rw [if_neg q3] at e
  by_cases q4 : 34 ≤ tK b n p
  · rw [if_pos q4] at e
    by_cases q8 : y 0 8 = 64
    · rw [if_pos q8] at e; cases e
    rw [if_neg q8] at e
    cases e
    refine ⟨⟨⟨?_, ?_, l3, l4, l5, by dsimp only; omega, l7, l8⟩, kpt_8.tr kpt_put, fun h => WR_put (WR_8 h) (by omega) (by omega) (by omega), ?_, fun _ => Or.inl ?_⟩, by omega⟩
    · dsimp only; rw [putk_13, putk_0 (by omega), vs8_8, vs8_13]; omega
    · dsimp only; rw [putk_0 (by omega), vs8_8]; omega
    · dsimp only; rw [putk_13, vs8_13]; omega
    · dsimp only; rw [putk_13, vs8_13]; omega
  · rw [if_neg q4] at e; cases e
theorem aBh_ok {b : Nat → Nat} {n p op cm du nm : Nat} {y : V} {W : List Nat} {s : LT} (hp : p ≤ n) (hd : du = 0) (lw : LW y W op cm du nm) (e : aBh b n p y W op cm du nm = .inr s) : SO y du s ∧ ¬ tK b n p = 0 := by
  obtain ⟨l1, l2, l3, l4, l5, l6, l7, l8⟩ := lw
  have hK : tK b n p ≤ 40 := (lex_sp hp).1
  unfold aBh at e
  by_cases qa : tK b n p = 6 ∧ 0 < op
  · rw [if_pos qa] at e
    cases e
    obtain ⟨r1, r2, r3, r4, r5⟩ := rel_ok (Nat.le_refl 1) W y
    obtain ⟨k1, k2, k3, k4⟩ := rel_k (r := 1) W y l8
    have hl := sg_le (rel 1 y W).2
    have h8 := r5 8 (by omega)
    rcases k4 with k4 | ⟨k, W', k4, k5⟩
    · rw [k4] at r2
      simp only [List.length_nil, sg] at r2
      omega
    · have hs : sg (k :: W') = sg W' := by rw [sg, if_pos (by omega), Nat.zero_add]
      rw [k4, hs, List.length_cons] at r2
      rw [k4, hs] at r1
      refine ⟨⟨⟨?_, ?_, ?_, ?_, l5, l6, l7, ?_⟩, k1, k2, k3, fun h => Or.inr h⟩, by omega⟩
      · dsimp only; rw [k4, h8, List.tail_cons]; omega
      · dsimp only; rw [h8]; exact l2
      · dsimp only; rw [k4, List.tail_cons]; omega
      · dsimp only; omega
      · dsimp only
        rw [k4, List.tail_cons]
        intro j hj
        exact l8 j (r4 j (by rw [k4]; exact List.mem_cons_of_mem _ hj))
  rw [if_neg qa] at e
  by_cases qb : rk (tK b n p) = 0 ∨ tK b n p = 33
  · rw [if_pos qb] at e; cases e
  rw [if_neg qb] at e
  by_cases qc : rk (tK b n p) = 4 ∧ cm / 2 ^ op % 2 = 1
  · rw [if_pos qc] at e; cases e
  rw [if_neg qc] at e
  by_cases q8 : y 0 8 = 64
  · rw [if_pos q8] at e; cases e
  rw [if_neg q8] at e
  cases e
  have qb1 : ¬ rk (tK b n p) = 0 := fun z => qb (Or.inl z)
  obtain ⟨r1, r2, r3, r4, r5⟩ := rel_ok (r := rk (tK b n p)) (by omega) W (vs y 0 8 (y 0 8 + 1))
  obtain ⟨k1, k2, k3, k4⟩ := rel_k (r := rk (tK b n p)) W (vs y 0 8 (y 0 8 + 1)) l8
  have h8 := r5 8 (by omega)
  rw [vs8_8] at h8
  rw [vs8_13] at r1 k3
  have hs : sg (tK b n p :: (rel (rk (tK b n p)) (vs y 0 8 (y 0 8 + 1)) W).2) = 1 + sg (rel (rk (tK b n p)) (vs y 0 8 (y 0 8 + 1)) W).2 := by rw [sg, if_neg qb1]
  have cs := cset_ok op (by omega) cm l5
  have cc := cclr_ok op (by omega) cm l5
  refine ⟨⟨⟨?_, ?_, ?_, l4, ?_, by dsimp only; omega, ?_, ?_⟩, kpt_8.tr k1, fun h => k2 (WR_8 h), k3, fun h => ?_⟩, ?_⟩
  · dsimp only; rw [hs, h8]; omega
  · dsimp only; rw [h8]; omega
  · dsimp only; rw [hs, List.length_cons]; omega
  · dsimp only
    repeat' split
    · exact cs.2
    · exact cc.2
    · exact l5
  · dsimp only; split <;> omega
  · dsimp only
    intro j hj
    rcases List.mem_cons.mp hj with rfl | hj
    · omega
    · exact l8 j (r4 j hj)
  · dsimp only at h; omega
  · intro z; rw [z] at qb1; exact qb1 rfl
theorem aSt_ok {b : Nat → Nat} {n p op cm du nm : Nat} {y : V} {W : List Nat} {s : LT} (hp : p ≤ n) (lw : LW y W op cm du nm) (e : aSt b n p y W op cm du nm = .inr s) : SO y du s ∧ ¬ tK b n p = 0 := by
  unfold aSt at e
  by_cases q : du = 1
  · rw [if_pos q] at e
    exact aOp_ok hp lw e
  · rw [if_neg q] at e
    have := lw.2.2.2.2.2.1
    exact aBh_ok hp (by omega) lw e
/-- what a law that was read leaves -/
theorem lRun_ok {b : Nat → Nat} {n : Nat} : ∀ (f : Nat) (y : V) (p : Nat) (W : List Nat) (op cm du nm : Nat) (y' : V) (p' q : Nat), p ≤ n → LW y W op cm du nm → (q ≤ y 0 13 ∧ (du = 0 → q < y 0 13)) → lRun b n f y p W op cm du nm = .inr (y', p') → (p ≤ p' ∧ p' ≤ n) ∧ (y' 0 13 = y' 0 8 ∧ y' 0 8 ≤ 64) ∧ q < y' 0 13 ∧ y 0 13 ≤ y' 0 13 ∧ kpt y y' ∧ (WR y → WR y')
  | 0, y, p, W, op, cm, du, nm, y', p', q, hp, lw, hq, e => by
    rw [lRun] at e; cases e
  | f + 1, y, p, W, op, cm, du, nm, y', p', q, hp, lw, hq, e => by
    rw [lRun] at e
    by_cases z : du = 0 ∧ op = 0 ∧ tK b n p = 4
    · rw [if_pos z] at e
      cases e
      obtain ⟨l1, l2, l3, l4, l5, l6, l7, l8⟩ := lw
      obtain ⟨r1, r2, r3, r4, r5⟩ := rel_ok (Nat.le_refl 1) W y
      obtain ⟨k1, k2, k3, k4⟩ := rel_k (r := 1) W y l8
      have h8 := r5 8 (by omega)
      have hl := sg_le (rel 1 y W).2
      have h0 : sg (rel 1 y W).2 = 0 := by
        rcases k4 with k4 | ⟨k, W', k4, k5⟩
        · rw [k4]; rfl
        · have hs : sg (k :: W') = sg W' := by rw [sg, if_pos (by omega), Nat.zero_add]
          have hl' := sg_le W'
          rw [k4, hs, List.length_cons] at r2
          omega
      have := hq.2 z.1
      exact ⟨⟨Nat.le_refl _, hp⟩, ⟨by omega, by omega⟩, by omega, k3, k1, k2⟩
    · rw [if_neg z] at e
      cases hs : aSt b n p y W op cm du nm with
      | inl x => rw [hs] at e; cases e
      | inr s =>
        rw [hs, bd_r] at e
        obtain ⟨⟨g1, g2, g3, g4, g5⟩, g6⟩ := aSt_ok hp lw hs
        obtain ⟨t1, t2⟩ := tN_lt (b := b) hp g6
        obtain ⟨i1, i2, i3, i4, i5, i6⟩ := lRun_ok f s.1 (tN b n p) s.2.1 s.2.2.1 s.2.2.2.1 s.2.2.2.2.1 s.2.2.2.2.2 y' p' q t2 g1 ⟨by omega, fun h => by
          rcases g5 h with g | g
          · omega
          · have := hq.2 g; omega⟩ e
        exact ⟨⟨by omega, i1.2⟩, i2, i3, by omega, g2.tr i5, fun h => i6 (g3 h)⟩
set_option maxHeartbeats 4000000 in
set_option maxRecDepth 100000 in
theorem m_lawLoop {d I n : Nat} {b : Nat → Nat} {Q : sr_T} (hI' : IOK I) (hb : Wb b n) : ∀ (f k : Nat) (y : V) (p : Nat) (W : List Nat) (op cm du nm : Nat) (h : sr_H), k + f = 701 → p ≤ n → LW y W op cm du nm → LSt h I b n y p W op cm du nm → (∀ h' r, PE h h' I b n (lRun b n f y p W op cm du nm) r → Q (some (.int r)) h') → sr_W (d + 10) 55001 [.ref 1, .int (nI k), sr_U] [] h Q
  | 0, k, y, p, W, op, cm, du, nm, h, hk, hp, lw, s, kk => by
    have hk : k = 701 := by omega
    subst hk
    have w1 := s.1.1.1
    rw [lRun] at kk
    rw [lb_55001]
    simp (disch := first | assumption | omega) only [Nat.reduceAdd, Nat.reduceLeDiff, Nat.zero_le, true_and, and_true, ↓reduceIte, wB_const, wB_lconst, wB_ldc, wB_getstatic, wB_dupi, wB_dupr, wB_dup2, wB_popi, wB_iadd, wB_isub, wB_imul, wB_iand, wB_ior, wB_ixor, wB_ishl, wB_ishr, wB_iushr, wB_ineg, wB_ladd, wB_lsub, wB_lmul, wB_land, wB_lneg, wB_i2l, wB_l2i, wB_lcmp, wB_idiv, wB_irem, wB_ldiv, wB_lrem, wB_goto, wB_nop, wB_ifeq, wB_ifne, wB_iflt, wB_ifge, wB_ifgt, wB_ifle, wB_icmpeq, wB_icmpne, wB_icmplt, wB_icmpge, wB_icmpgt, wB_icmple, wB_table, wB_lookup, wB_ireturn, wB_zreturn, wB_lreturn, wB_areturn, wB_return, wB_getf, wB_putf, wB_iald, wB_bald, wB_lald, wB_iast, wB_bast, wB_last, wB_min, wB_max, wB_abs, wB_minl, wB_maxl, wB_absl, wB_obj, wB_copy, wB_charAt, wB_strlen, sr_k1i, sr_k1r, sr_k1U, sr_k1l, sr_ms1, sr_ms0, sr_msn, sr_cs1, sr_csm1, sr_csm2, sr_cl1, sr_cl2, sr_szi, sr_szr, sr_szl, sr_szn, sr_tls, sr_tln, wB_il0, wB_ll0, wB_al0, wB_is0, wB_as0, wB_inc0, wB_ls0, wB_il1, wB_ll1, wB_al1, wB_is1, wB_as1, wB_inc1, wB_ls1, wB_il2, wB_ll2, wB_al2, wB_is2, wB_as2, wB_inc2, wB_ls2, wB_il3, wB_ll3, wB_al3, wB_is3, wB_as3, wB_inc3, wB_ls3, wB_il4, wB_ll4, wB_al4, wB_is4, wB_as4, wB_inc4, wB_ls4, wB_il5, wB_ll5, wB_al5, wB_is5, wB_as5, wB_inc5, wB_ls5, wB_il6, wB_ll6, wB_al6, wB_is6, wB_as6, wB_inc6, wB_ls6, wB_il7, wB_ll7, wB_al7, wB_is7, wB_as7, wB_inc7, wB_ls7, lb_55002, lb_55003, lb_55004, lb_55005, lb_55006, cl_61, cl_56, cl_58, cl_66, cl_43, obj_3, obj_4, fld_3_7, fld_3_8, fld_3_9, fld_3_10, fld_3_11, fld_3_2, fld_4_5, nI_clamp, inb_nI, nI_leI, nI_ltI, nI_eq, nI_z, nI_ge0, nI_lt0, nI_add, n00, n11, n01, n10, true_or, or_true, not_true_eq_false, not_false_eq_true, bI_0, bI_z, Nat.le_refl, Nat.lt_irrefl, Nat.reduceLT, Nat.reduceEqDiff, nI_gt0, nI_le0, w1]
    refine m_refuse (d := d + 9) s.1 (fun h' f ft => ?_)
    simp (disch := first | assumption | omega) only [Nat.reduceAdd, Nat.reduceLeDiff, Nat.zero_le, true_and, and_true, ↓reduceIte, wB_const, wB_lconst, wB_ldc, wB_getstatic, wB_dupi, wB_dupr, wB_dup2, wB_popi, wB_iadd, wB_isub, wB_imul, wB_iand, wB_ior, wB_ixor, wB_ishl, wB_ishr, wB_iushr, wB_ineg, wB_ladd, wB_lsub, wB_lmul, wB_land, wB_lneg, wB_i2l, wB_l2i, wB_lcmp, wB_idiv, wB_irem, wB_ldiv, wB_lrem, wB_goto, wB_nop, wB_ifeq, wB_ifne, wB_iflt, wB_ifge, wB_ifgt, wB_ifle, wB_icmpeq, wB_icmpne, wB_icmplt, wB_icmpge, wB_icmpgt, wB_icmple, wB_table, wB_lookup, wB_ireturn, wB_zreturn, wB_lreturn, wB_areturn, wB_return, wB_getf, wB_putf, wB_iald, wB_bald, wB_lald, wB_iast, wB_bast, wB_last, wB_min, wB_max, wB_abs, wB_minl, wB_maxl, wB_absl, wB_obj, wB_copy, wB_charAt, wB_strlen, sr_k1i, sr_k1r, sr_k1U, sr_k1l, sr_ms1, sr_ms0, sr_msn, sr_cs1, sr_csm1, sr_csm2, sr_cl1, sr_cl2, sr_szi, sr_szr, sr_szl, sr_szn, sr_tls, sr_tln, wB_il0, wB_ll0, wB_al0, wB_is0, wB_as0, wB_inc0, wB_ls0, wB_il1, wB_ll1, wB_al1, wB_is1, wB_as1, wB_inc1, wB_ls1, wB_il2, wB_ll2, wB_al2, wB_is2, wB_as2, wB_inc2, wB_ls2, wB_il3, wB_ll3, wB_al3, wB_is3, wB_as3, wB_inc3, wB_ls3, wB_il4, wB_ll4, wB_al4, wB_is4, wB_as4, wB_inc4, wB_ls4, wB_il5, wB_ll5, wB_al5, wB_is5, wB_as5, wB_inc5, wB_ls5, wB_il6, wB_ll6, wB_al6, wB_is6, wB_as6, wB_inc6, wB_ls6, wB_il7, wB_ll7, wB_al7, wB_is7, wB_as7, wB_inc7, wB_ls7, lb_55002, lb_55003, lb_55004, lb_55005, lb_55006, cl_61, cl_56, cl_58, cl_66, cl_43, obj_3, obj_4, fld_3_7, fld_3_8, fld_3_9, fld_3_10, fld_3_11, fld_3_2, fld_4_5, nI_clamp, inb_nI, nI_leI, nI_ltI, nI_eq, nI_z, nI_ge0, nI_lt0, nI_add, n00, n11, n01, n10, true_or, or_true, not_true_eq_false, not_false_eq_true, bI_0, bI_z, Nat.le_refl, Nat.lt_irrefl, Nat.reduceLT, Nat.reduceEqDiff, nI_gt0, nI_le0]
    exact kk _ _ ⟨f.mono (fun a ha => PX_1 ha), rfl, ft⟩
  | f + 1, k, y, p, W, op, cm, du, nm, h, hk, hp, lw, s, kk => by
    have lw' := lw
    obtain ⟨l1, l2, l3, l4, l5, l6, l7, l8⟩ := lw
    have w1 := s.1.1.1
    have w2 := s.1.1.2.1
    have e5 := s.1.2.1.2.2.1
    have a8 := s.2.1.2.1
    have a10 := s.2.1.2.2.2.1
    have hK : tK b n p ≤ 40 := (lex_sp hp).1
    rw [lRun] at kk
    rw [lb_55001]
    by_cases z : du = 0 ∧ op = 0 ∧ tK b n p = 4
    · rw [if_pos z] at kk
      obtain ⟨z1, z2, z3⟩ := z
      simp (disch := first | assumption | omega) only [Nat.reduceAdd, Nat.reduceLeDiff, Nat.zero_le, true_and, and_true, ↓reduceIte, wB_const, wB_lconst, wB_ldc, wB_getstatic, wB_dupi, wB_dupr, wB_dup2, wB_popi, wB_iadd, wB_isub, wB_imul, wB_iand, wB_ior, wB_ixor, wB_ishl, wB_ishr, wB_iushr, wB_ineg, wB_ladd, wB_lsub, wB_lmul, wB_land, wB_lneg, wB_i2l, wB_l2i, wB_lcmp, wB_idiv, wB_irem, wB_ldiv, wB_lrem, wB_goto, wB_nop, wB_ifeq, wB_ifne, wB_iflt, wB_ifge, wB_ifgt, wB_ifle, wB_icmpeq, wB_icmpne, wB_icmplt, wB_icmpge, wB_icmpgt, wB_icmple, wB_table, wB_lookup, wB_ireturn, wB_zreturn, wB_lreturn, wB_areturn, wB_return, wB_getf, wB_putf, wB_iald, wB_bald, wB_lald, wB_iast, wB_bast, wB_last, wB_min, wB_max, wB_abs, wB_minl, wB_maxl, wB_absl, wB_obj, wB_copy, wB_charAt, wB_strlen, sr_k1i, sr_k1r, sr_k1U, sr_k1l, sr_ms1, sr_ms0, sr_msn, sr_cs1, sr_csm1, sr_csm2, sr_cl1, sr_cl2, sr_szi, sr_szr, sr_szl, sr_szn, sr_tls, sr_tln, wB_il0, wB_ll0, wB_al0, wB_is0, wB_as0, wB_inc0, wB_ls0, wB_il1, wB_ll1, wB_al1, wB_is1, wB_as1, wB_inc1, wB_ls1, wB_il2, wB_ll2, wB_al2, wB_is2, wB_as2, wB_inc2, wB_ls2, wB_il3, wB_ll3, wB_al3, wB_is3, wB_as3, wB_inc3, wB_ls3, wB_il4, wB_ll4, wB_al4, wB_is4, wB_as4, wB_inc4, wB_ls4, wB_il5, wB_ll5, wB_al5, wB_is5, wB_as5, wB_inc5, wB_ls5, wB_il6, wB_ll6, wB_al6, wB_is6, wB_as6, wB_inc6, wB_ls6, wB_il7, wB_ll7, wB_al7, wB_is7, wB_as7, wB_inc7, wB_ls7, lb_55003, lb_55004, lb_55005, lb_55006, cl_61, cl_56, cl_58, cl_66, cl_43, obj_3, obj_4, fld_3_7, fld_3_8, fld_3_9, fld_3_10, fld_3_11, fld_3_2, fld_4_5, nI_clamp, inb_nI, nI_leI, nI_ltI, nI_eq, nI_z, nI_ge0, nI_lt0, nI_add, n00, n11, n01, n10, true_or, or_true, not_true_eq_false, not_false_eq_true, bI_0, bI_z, Nat.le_refl, Nat.lt_irrefl, Nat.reduceLT, Nat.reduceEqDiff, nI_gt0, nI_le0, show ¬ 700 < k by omega, w1, w2, a10, z1, a8, z2, e5, z3]
      refine m_release (d := d + 8) hI' (Nat.le_refl _) (by omega) s (by omega) (by omega) l8 (fun h1 f1 s1 => ?_)
      simp (disch := first | assumption | omega) only [Nat.reduceAdd, Nat.reduceLeDiff, Nat.zero_le, true_and, and_true, ↓reduceIte, wB_const, wB_lconst, wB_ldc, wB_getstatic, wB_dupi, wB_dupr, wB_dup2, wB_popi, wB_iadd, wB_isub, wB_imul, wB_iand, wB_ior, wB_ixor, wB_ishl, wB_ishr, wB_iushr, wB_ineg, wB_ladd, wB_lsub, wB_lmul, wB_land, wB_lneg, wB_i2l, wB_l2i, wB_lcmp, wB_idiv, wB_irem, wB_ldiv, wB_lrem, wB_goto, wB_nop, wB_ifeq, wB_ifne, wB_iflt, wB_ifge, wB_ifgt, wB_ifle, wB_icmpeq, wB_icmpne, wB_icmplt, wB_icmpge, wB_icmpgt, wB_icmple, wB_table, wB_lookup, wB_ireturn, wB_zreturn, wB_lreturn, wB_areturn, wB_return, wB_getf, wB_putf, wB_iald, wB_bald, wB_lald, wB_iast, wB_bast, wB_last, wB_min, wB_max, wB_abs, wB_minl, wB_maxl, wB_absl, wB_obj, wB_copy, wB_charAt, wB_strlen, sr_k1i, sr_k1r, sr_k1U, sr_k1l, sr_ms1, sr_ms0, sr_msn, sr_cs1, sr_csm1, sr_csm2, sr_cl1, sr_cl2, sr_szi, sr_szr, sr_szl, sr_szn, sr_tls, sr_tln, wB_il0, wB_ll0, wB_al0, wB_is0, wB_as0, wB_inc0, wB_ls0, wB_il1, wB_ll1, wB_al1, wB_is1, wB_as1, wB_inc1, wB_ls1, wB_il2, wB_ll2, wB_al2, wB_is2, wB_as2, wB_inc2, wB_ls2, wB_il3, wB_ll3, wB_al3, wB_is3, wB_as3, wB_inc3, wB_ls3, wB_il4, wB_ll4, wB_al4, wB_is4, wB_as4, wB_inc4, wB_ls4, wB_il5, wB_ll5, wB_al5, wB_is5, wB_as5, wB_inc5, wB_ls5, wB_il6, wB_ll6, wB_al6, wB_is6, wB_as6, wB_inc6, wB_ls6, wB_il7, wB_ll7, wB_al7, wB_is7, wB_as7, wB_inc7, wB_ls7, lb_55002, lb_55003, lb_55004, lb_55005, lb_55006, cl_61, cl_56, cl_58, cl_66, cl_43, obj_3, obj_4, fld_3_7, fld_3_8, fld_3_9, fld_3_10, fld_3_11, fld_3_2, fld_4_5, nI_clamp, inb_nI, nI_leI, nI_ltI, nI_eq, nI_z, nI_ge0, nI_lt0, nI_add, n00, n11, n01, n10, true_or, or_true, not_true_eq_false, not_false_eq_true, bI_0, bI_z, Nat.le_refl, Nat.lt_irrefl, Nat.reduceLT, Nat.reduceEqDiff, nI_gt0, nI_le0]
      exact kk _ _ ⟨f1, rfl, s1.1⟩
    rw [if_neg z] at kk
    have main : sr_W (d + 10) 55002 [.ref 1, .int (nI k), sr_U] [] h Q := by
      have fin : ∀ h1 r, LE h h1 I b n p (aSt b n p y W op cm du nm) r → sr_W (d + 10) 55004 [.ref 1, .int (nI k), sr_U] [.int r] h1 Q := by
        intro h1 r le
        obtain ⟨f1, le⟩ := le
        rw [lb_55004]
        cases hs : aSt b n p y W op cm du nm with
        | inl e =>
          rw [hs] at le kk
          rw [le.1]
          simp (disch := first | assumption | omega) only [Nat.reduceAdd, Nat.reduceLeDiff, Nat.zero_le, true_and, and_true, ↓reduceIte, wB_const, wB_lconst, wB_ldc, wB_getstatic, wB_dupi, wB_dupr, wB_dup2, wB_popi, wB_iadd, wB_isub, wB_imul, wB_iand, wB_ior, wB_ixor, wB_ishl, wB_ishr, wB_iushr, wB_ineg, wB_ladd, wB_lsub, wB_lmul, wB_land, wB_lneg, wB_i2l, wB_l2i, wB_lcmp, wB_idiv, wB_irem, wB_ldiv, wB_lrem, wB_goto, wB_nop, wB_ifeq, wB_ifne, wB_iflt, wB_ifge, wB_ifgt, wB_ifle, wB_icmpeq, wB_icmpne, wB_icmplt, wB_icmpge, wB_icmpgt, wB_icmple, wB_table, wB_lookup, wB_ireturn, wB_zreturn, wB_lreturn, wB_areturn, wB_return, wB_getf, wB_putf, wB_iald, wB_bald, wB_lald, wB_iast, wB_bast, wB_last, wB_min, wB_max, wB_abs, wB_minl, wB_maxl, wB_absl, wB_obj, wB_copy, wB_charAt, wB_strlen, sr_k1i, sr_k1r, sr_k1U, sr_k1l, sr_ms1, sr_ms0, sr_msn, sr_cs1, sr_csm1, sr_csm2, sr_cl1, sr_cl2, sr_szi, sr_szr, sr_szl, sr_szn, sr_tls, sr_tln, wB_il0, wB_ll0, wB_al0, wB_is0, wB_as0, wB_inc0, wB_ls0, wB_il1, wB_ll1, wB_al1, wB_is1, wB_as1, wB_inc1, wB_ls1, wB_il2, wB_ll2, wB_al2, wB_is2, wB_as2, wB_inc2, wB_ls2, wB_il3, wB_ll3, wB_al3, wB_is3, wB_as3, wB_inc3, wB_ls3, wB_il4, wB_ll4, wB_al4, wB_is4, wB_as4, wB_inc4, wB_ls4, wB_il5, wB_ll5, wB_al5, wB_is5, wB_as5, wB_inc5, wB_ls5, wB_il6, wB_ll6, wB_al6, wB_is6, wB_as6, wB_inc6, wB_ls6, wB_il7, wB_ll7, wB_al7, wB_is7, wB_as7, wB_inc7, wB_ls7, lb_55002, lb_55003, lb_55005, lb_55006, cl_61, cl_56, cl_58, cl_66, cl_43, obj_3, obj_4, fld_3_7, fld_3_8, fld_3_9, fld_3_10, fld_3_11, fld_3_2, fld_4_5, nI_clamp, inb_nI, nI_leI, nI_ltI, nI_eq, nI_z, nI_ge0, nI_lt0, nI_add, n00, n11, n01, n10, true_or, or_true, not_true_eq_false, not_false_eq_true, bI_0, bI_z, Nat.le_refl, Nat.lt_irrefl, Nat.reduceLT, Nat.reduceEqDiff, nI_gt0, nI_le0]
          exact kk _ _ ⟨f1, rfl, le.2⟩
        | inr t =>
          rw [hs, bd_r] at kk
          rw [hs] at le
          obtain ⟨⟨g1, g2, g3, g4, g5⟩, g6⟩ := aSt_ok hp lw' hs
          obtain ⟨t1, t2⟩ := tN_lt (b := b) hp g6
          have s1 := le.2
          have w11 := s1.1.1.1
          have w21 := s1.1.1.2.1
          rw [le.1]
          simp (disch := first | assumption | omega) only [Nat.reduceAdd, Nat.reduceLeDiff, Nat.zero_le, true_and, and_true, ↓reduceIte, wB_const, wB_lconst, wB_ldc, wB_getstatic, wB_dupi, wB_dupr, wB_dup2, wB_popi, wB_iadd, wB_isub, wB_imul, wB_iand, wB_ior, wB_ixor, wB_ishl, wB_ishr, wB_iushr, wB_ineg, wB_ladd, wB_lsub, wB_lmul, wB_land, wB_lneg, wB_i2l, wB_l2i, wB_lcmp, wB_idiv, wB_irem, wB_ldiv, wB_lrem, wB_goto, wB_nop, wB_ifeq, wB_ifne, wB_iflt, wB_ifge, wB_ifgt, wB_ifle, wB_icmpeq, wB_icmpne, wB_icmplt, wB_icmpge, wB_icmpgt, wB_icmple, wB_table, wB_lookup, wB_ireturn, wB_zreturn, wB_lreturn, wB_areturn, wB_return, wB_getf, wB_putf, wB_iald, wB_bald, wB_lald, wB_iast, wB_bast, wB_last, wB_min, wB_max, wB_abs, wB_minl, wB_maxl, wB_absl, wB_obj, wB_copy, wB_charAt, wB_strlen, sr_k1i, sr_k1r, sr_k1U, sr_k1l, sr_ms1, sr_ms0, sr_msn, sr_cs1, sr_csm1, sr_csm2, sr_cl1, sr_cl2, sr_szi, sr_szr, sr_szl, sr_szn, sr_tls, sr_tln, wB_il0, wB_ll0, wB_al0, wB_is0, wB_as0, wB_inc0, wB_ls0, wB_il1, wB_ll1, wB_al1, wB_is1, wB_as1, wB_inc1, wB_ls1, wB_il2, wB_ll2, wB_al2, wB_is2, wB_as2, wB_inc2, wB_ls2, wB_il3, wB_ll3, wB_al3, wB_is3, wB_as3, wB_inc3, wB_ls3, wB_il4, wB_ll4, wB_al4, wB_is4, wB_as4, wB_inc4, wB_ls4, wB_il5, wB_ll5, wB_al5, wB_is5, wB_as5, wB_inc5, wB_ls5, wB_il6, wB_ll6, wB_al6, wB_is6, wB_as6, wB_inc6, wB_ls6, wB_il7, wB_ll7, wB_al7, wB_is7, wB_as7, wB_inc7, wB_ls7, lb_55002, lb_55003, lb_55005, lb_55006, cl_61, cl_56, cl_58, cl_66, cl_43, obj_3, obj_4, fld_3_7, fld_3_8, fld_3_9, fld_3_10, fld_3_11, fld_3_2, fld_4_5, nI_clamp, inb_nI, nI_leI, nI_ltI, nI_eq, nI_z, nI_ge0, nI_lt0, nI_add, n00, n11, n01, n10, true_or, or_true, not_true_eq_false, not_false_eq_true, bI_0, bI_z, Nat.le_refl, Nat.lt_irrefl, Nat.reduceLT, Nat.reduceEqDiff, nI_gt0, nI_le0, w11, w21]
          refine m_nextP (d := d) hI' hb hp s1.1 (fun h2 r2 s2 => ?_)
          simp (disch := first | assumption | omega) only [Nat.reduceAdd, Nat.reduceLeDiff, Nat.zero_le, true_and, and_true, ↓reduceIte, wB_const, wB_lconst, wB_ldc, wB_getstatic, wB_dupi, wB_dupr, wB_dup2, wB_popi, wB_iadd, wB_isub, wB_imul, wB_iand, wB_ior, wB_ixor, wB_ishl, wB_ishr, wB_iushr, wB_ineg, wB_ladd, wB_lsub, wB_lmul, wB_land, wB_lneg, wB_i2l, wB_l2i, wB_lcmp, wB_idiv, wB_irem, wB_ldiv, wB_lrem, wB_goto, wB_nop, wB_ifeq, wB_ifne, wB_iflt, wB_ifge, wB_ifgt, wB_ifle, wB_icmpeq, wB_icmpne, wB_icmplt, wB_icmpge, wB_icmpgt, wB_icmple, wB_table, wB_lookup, wB_ireturn, wB_zreturn, wB_lreturn, wB_areturn, wB_return, wB_getf, wB_putf, wB_iald, wB_bald, wB_lald, wB_iast, wB_bast, wB_last, wB_min, wB_max, wB_abs, wB_minl, wB_maxl, wB_absl, wB_obj, wB_copy, wB_charAt, wB_strlen, sr_k1i, sr_k1r, sr_k1U, sr_k1l, sr_ms1, sr_ms0, sr_msn, sr_cs1, sr_csm1, sr_csm2, sr_cl1, sr_cl2, sr_szi, sr_szr, sr_szl, sr_szn, sr_tls, sr_tln, wB_il0, wB_ll0, wB_al0, wB_is0, wB_as0, wB_inc0, wB_ls0, wB_il1, wB_ll1, wB_al1, wB_is1, wB_as1, wB_inc1, wB_ls1, wB_il2, wB_ll2, wB_al2, wB_is2, wB_as2, wB_inc2, wB_ls2, wB_il3, wB_ll3, wB_al3, wB_is3, wB_as3, wB_inc3, wB_ls3, wB_il4, wB_ll4, wB_al4, wB_is4, wB_as4, wB_inc4, wB_ls4, wB_il5, wB_ll5, wB_al5, wB_is5, wB_as5, wB_inc5, wB_ls5, wB_il6, wB_ll6, wB_al6, wB_is6, wB_as6, wB_inc6, wB_ls6, wB_il7, wB_ll7, wB_al7, wB_is7, wB_as7, wB_inc7, wB_ls7, lb_55002, lb_55003, lb_55005, lb_55006, cl_61, cl_56, cl_58, cl_66, cl_43, obj_3, obj_4, fld_3_7, fld_3_8, fld_3_9, fld_3_10, fld_3_11, fld_3_2, fld_4_5, nI_clamp, inb_nI, nI_leI, nI_ltI, nI_eq, nI_z, nI_ge0, nI_lt0, nI_add, n00, n11, n01, n10, true_or, or_true, not_true_eq_false, not_false_eq_true, bI_0, bI_z, Nat.le_refl, Nat.lt_irrefl, Nat.reduceLT, Nat.reduceEqDiff, nI_gt0, nI_le0]
          refine m_lawLoop hI' hb f (k + 1) t.1 (tN b n p) t.2.1 t.2.2.1 t.2.2.2.1 t.2.2.2.2.1 t.2.2.2.2.2 h2 (by omega) t2 g1 (LS_2 s1 r2.1 s2) (fun h' r pe => kk h' r (PE_tr (f1.tr (r2.1.mono (fun a ha => PX_2 ha))) pe))
      rw [lb_55002]
      unfold aSt at fin
      by_cases q : du = 1
      · rw [if_pos q] at fin
        simp (disch := first | assumption | omega) only [Nat.reduceAdd, Nat.reduceLeDiff, Nat.zero_le, true_and, and_true, ↓reduceIte, wB_const, wB_lconst, wB_ldc, wB_getstatic, wB_dupi, wB_dupr, wB_dup2, wB_popi, wB_iadd, wB_isub, wB_imul, wB_iand, wB_ior, wB_ixor, wB_ishl, wB_ishr, wB_iushr, wB_ineg, wB_ladd, wB_lsub, wB_lmul, wB_land, wB_lneg, wB_i2l, wB_l2i, wB_lcmp, wB_idiv, wB_irem, wB_ldiv, wB_lrem, wB_goto, wB_nop, wB_ifeq, wB_ifne, wB_iflt, wB_ifge, wB_ifgt, wB_ifle, wB_icmpeq, wB_icmpne, wB_icmplt, wB_icmpge, wB_icmpgt, wB_icmple, wB_table, wB_lookup, wB_ireturn, wB_zreturn, wB_lreturn, wB_areturn, wB_return, wB_getf, wB_putf, wB_iald, wB_bald, wB_lald, wB_iast, wB_bast, wB_last, wB_min, wB_max, wB_abs, wB_minl, wB_maxl, wB_absl, wB_obj, wB_copy, wB_charAt, wB_strlen, sr_k1i, sr_k1r, sr_k1U, sr_k1l, sr_ms1, sr_ms0, sr_msn, sr_cs1, sr_csm1, sr_csm2, sr_cl1, sr_cl2, sr_szi, sr_szr, sr_szl, sr_szn, sr_tls, sr_tln, wB_il0, wB_ll0, wB_al0, wB_is0, wB_as0, wB_inc0, wB_ls0, wB_il1, wB_ll1, wB_al1, wB_is1, wB_as1, wB_inc1, wB_ls1, wB_il2, wB_ll2, wB_al2, wB_is2, wB_as2, wB_inc2, wB_ls2, wB_il3, wB_ll3, wB_al3, wB_is3, wB_as3, wB_inc3, wB_ls3, wB_il4, wB_ll4, wB_al4, wB_is4, wB_as4, wB_inc4, wB_ls4, wB_il5, wB_ll5, wB_al5, wB_is5, wB_as5, wB_inc5, wB_ls5, wB_il6, wB_ll6, wB_al6, wB_is6, wB_as6, wB_inc6, wB_ls6, wB_il7, wB_ll7, wB_al7, wB_is7, wB_as7, wB_inc7, wB_ls7, lb_55002, lb_55003, lb_55005, lb_55006, cl_61, cl_56, cl_58, cl_66, cl_43, obj_3, obj_4, fld_3_7, fld_3_8, fld_3_9, fld_3_10, fld_3_11, fld_3_2, fld_4_5, nI_clamp, inb_nI, nI_leI, nI_ltI, nI_eq, nI_z, nI_ge0, nI_lt0, nI_add, n00, n11, n01, n10, true_or, or_true, not_true_eq_false, not_false_eq_true, bI_0, bI_z, Nat.le_refl, Nat.lt_irrefl, Nat.reduceLT, Nat.reduceEqDiff, nI_gt0, nI_le0, w1, a10, q]
        refine m_takeOperand (d := d + 7) hI' hb hp s lw' (fun h1 r le => ?_)
        have z := fin h1 r le
        simp (disch := first | assumption | omega) only [Nat.reduceAdd, Nat.reduceLeDiff, Nat.zero_le, true_and, and_true, ↓reduceIte, wB_const, wB_lconst, wB_ldc, wB_getstatic, wB_dupi, wB_dupr, wB_dup2, wB_popi, wB_iadd, wB_isub, wB_imul, wB_iand, wB_ior, wB_ixor, wB_ishl, wB_ishr, wB_iushr, wB_ineg, wB_ladd, wB_lsub, wB_lmul, wB_land, wB_lneg, wB_i2l, wB_l2i, wB_lcmp, wB_idiv, wB_irem, wB_ldiv, wB_lrem, wB_goto, wB_nop, wB_ifeq, wB_ifne, wB_iflt, wB_ifge, wB_ifgt, wB_ifle, wB_icmpeq, wB_icmpne, wB_icmplt, wB_icmpge, wB_icmpgt, wB_icmple, wB_table, wB_lookup, wB_ireturn, wB_zreturn, wB_lreturn, wB_areturn, wB_return, wB_getf, wB_putf, wB_iald, wB_bald, wB_lald, wB_iast, wB_bast, wB_last, wB_min, wB_max, wB_abs, wB_minl, wB_maxl, wB_absl, wB_obj, wB_copy, wB_charAt, wB_strlen, sr_k1i, sr_k1r, sr_k1U, sr_k1l, sr_ms1, sr_ms0, sr_msn, sr_cs1, sr_csm1, sr_csm2, sr_cl1, sr_cl2, sr_szi, sr_szr, sr_szl, sr_szn, sr_tls, sr_tln, wB_il0, wB_ll0, wB_al0, wB_is0, wB_as0, wB_inc0, wB_ls0, wB_il1, wB_ll1, wB_al1, wB_is1, wB_as1, wB_inc1, wB_ls1, wB_il2, wB_ll2, wB_al2, wB_is2, wB_as2, wB_inc2, wB_ls2, wB_il3, wB_ll3, wB_al3, wB_is3, wB_as3, wB_inc3, wB_ls3, wB_il4, wB_ll4, wB_al4, wB_is4, wB_as4, wB_inc4, wB_ls4, wB_il5, wB_ll5, wB_al5, wB_is5, wB_as5, wB_inc5, wB_ls5, wB_il6, wB_ll6, wB_al6, wB_is6, wB_as6, wB_inc6, wB_ls6, wB_il7, wB_ll7, wB_al7, wB_is7, wB_as7, wB_inc7, wB_ls7, lb_55002, lb_55003, lb_55005, lb_55006, cl_61, cl_56, cl_58, cl_66, cl_43, obj_3, obj_4, fld_3_7, fld_3_8, fld_3_9, fld_3_10, fld_3_11, fld_3_2, fld_4_5, nI_clamp, inb_nI, nI_leI, nI_ltI, nI_eq, nI_z, nI_ge0, nI_lt0, nI_add, n00, n11, n01, n10, true_or, or_true, not_true_eq_false, not_false_eq_true, bI_0, bI_z, Nat.le_refl, Nat.lt_irrefl, Nat.reduceLT, Nat.reduceEqDiff, nI_gt0, nI_le0]
        rw [lb_55004] at z ⊢
        exact z
      · rw [if_neg q] at fin
        simp (disch := first | assumption | omega) only [Nat.reduceAdd, Nat.reduceLeDiff, Nat.zero_le, true_and, and_true, ↓reduceIte, wB_const, wB_lconst, wB_ldc, wB_getstatic, wB_dupi, wB_dupr, wB_dup2, wB_popi, wB_iadd, wB_isub, wB_imul, wB_iand, wB_ior, wB_ixor, wB_ishl, wB_ishr, wB_iushr, wB_ineg, wB_ladd, wB_lsub, wB_lmul, wB_land, wB_lneg, wB_i2l, wB_l2i, wB_lcmp, wB_idiv, wB_irem, wB_ldiv, wB_lrem, wB_goto, wB_nop, wB_ifeq, wB_ifne, wB_iflt, wB_ifge, wB_ifgt, wB_ifle, wB_icmpeq, wB_icmpne, wB_icmplt, wB_icmpge, wB_icmpgt, wB_icmple, wB_table, wB_lookup, wB_ireturn, wB_zreturn, wB_lreturn, wB_areturn, wB_return, wB_getf, wB_putf, wB_iald, wB_bald, wB_lald, wB_iast, wB_bast, wB_last, wB_min, wB_max, wB_abs, wB_minl, wB_maxl, wB_absl, wB_obj, wB_copy, wB_charAt, wB_strlen, sr_k1i, sr_k1r, sr_k1U, sr_k1l, sr_ms1, sr_ms0, sr_msn, sr_cs1, sr_csm1, sr_csm2, sr_cl1, sr_cl2, sr_szi, sr_szr, sr_szl, sr_szn, sr_tls, sr_tln, wB_il0, wB_ll0, wB_al0, wB_is0, wB_as0, wB_inc0, wB_ls0, wB_il1, wB_ll1, wB_al1, wB_is1, wB_as1, wB_inc1, wB_ls1, wB_il2, wB_ll2, wB_al2, wB_is2, wB_as2, wB_inc2, wB_ls2, wB_il3, wB_ll3, wB_al3, wB_is3, wB_as3, wB_inc3, wB_ls3, wB_il4, wB_ll4, wB_al4, wB_is4, wB_as4, wB_inc4, wB_ls4, wB_il5, wB_ll5, wB_al5, wB_is5, wB_as5, wB_inc5, wB_ls5, wB_il6, wB_ll6, wB_al6, wB_is6, wB_as6, wB_inc6, wB_ls6, wB_il7, wB_ll7, wB_al7, wB_is7, wB_as7, wB_inc7, wB_ls7, lb_55002, lb_55003, lb_55005, lb_55006, cl_61, cl_56, cl_58, cl_66, cl_43, obj_3, obj_4, fld_3_7, fld_3_8, fld_3_9, fld_3_10, fld_3_11, fld_3_2, fld_4_5, nI_clamp, inb_nI, nI_leI, nI_ltI, nI_eq, nI_z, nI_ge0, nI_lt0, nI_add, n00, n11, n01, n10, true_or, or_true, not_true_eq_false, not_false_eq_true, bI_0, bI_z, Nat.le_refl, Nat.lt_irrefl, Nat.reduceLT, Nat.reduceEqDiff, nI_gt0, nI_le0, w1, a10, show du = 0 by omega]
        refine m_takeBehind (d := d + 1) hI' hb hp s lw' (fun h1 r le => ?_)
        have z := fin h1 r le
        simp (disch := first | assumption | omega) only [Nat.reduceAdd, Nat.reduceLeDiff, Nat.zero_le, true_and, and_true, ↓reduceIte, wB_const, wB_lconst, wB_ldc, wB_getstatic, wB_dupi, wB_dupr, wB_dup2, wB_popi, wB_iadd, wB_isub, wB_imul, wB_iand, wB_ior, wB_ixor, wB_ishl, wB_ishr, wB_iushr, wB_ineg, wB_ladd, wB_lsub, wB_lmul, wB_land, wB_lneg, wB_i2l, wB_l2i, wB_lcmp, wB_idiv, wB_irem, wB_ldiv, wB_lrem, wB_goto, wB_nop, wB_ifeq, wB_ifne, wB_iflt, wB_ifge, wB_ifgt, wB_ifle, wB_icmpeq, wB_icmpne, wB_icmplt, wB_icmpge, wB_icmpgt, wB_icmple, wB_table, wB_lookup, wB_ireturn, wB_zreturn, wB_lreturn, wB_areturn, wB_return, wB_getf, wB_putf, wB_iald, wB_bald, wB_lald, wB_iast, wB_bast, wB_last, wB_min, wB_max, wB_abs, wB_minl, wB_maxl, wB_absl, wB_obj, wB_copy, wB_charAt, wB_strlen, sr_k1i, sr_k1r, sr_k1U, sr_k1l, sr_ms1, sr_ms0, sr_msn, sr_cs1, sr_csm1, sr_csm2, sr_cl1, sr_cl2, sr_szi, sr_szr, sr_szl, sr_szn, sr_tls, sr_tln, wB_il0, wB_ll0, wB_al0, wB_is0, wB_as0, wB_inc0, wB_ls0, wB_il1, wB_ll1, wB_al1, wB_is1, wB_as1, wB_inc1, wB_ls1, wB_il2, wB_ll2, wB_al2, wB_is2, wB_as2, wB_inc2, wB_ls2, wB_il3, wB_ll3, wB_al3, wB_is3, wB_as3, wB_inc3, wB_ls3, wB_il4, wB_ll4, wB_al4, wB_is4, wB_as4, wB_inc4, wB_ls4, wB_il5, wB_ll5, wB_al5, wB_is5, wB_as5, wB_inc5, wB_ls5, wB_il6, wB_ll6, wB_al6, wB_is6, wB_as6, wB_inc6, wB_ls6, wB_il7, wB_ll7, wB_al7, wB_is7, wB_as7, wB_inc7, wB_ls7, lb_55002, lb_55003, lb_55005, lb_55006, cl_61, cl_56, cl_58, cl_66, cl_43, obj_3, obj_4, fld_3_7, fld_3_8, fld_3_9, fld_3_10, fld_3_11, fld_3_2, fld_4_5, nI_clamp, inb_nI, nI_leI, nI_ltI, nI_eq, nI_z, nI_ge0, nI_lt0, nI_add, n00, n11, n01, n10, true_or, or_true, not_true_eq_false, not_false_eq_true, bI_0, bI_z, Nat.le_refl, Nat.lt_irrefl, Nat.reduceLT, Nat.reduceEqDiff, nI_gt0, nI_le0]
        rw [lb_55004] at z ⊢
        exact z
    rw [lb_55002] at main
    by_cases q : du = 0
    · by_cases q1 : op = 0
      · have q2 : ¬ tK b n p = 4 := fun y => z ⟨q, q1, y⟩
        simp (disch := first | assumption | omega) only [Nat.reduceAdd, Nat.reduceLeDiff, Nat.zero_le, true_and, and_true, ↓reduceIte, wB_const, wB_lconst, wB_ldc, wB_getstatic, wB_dupi, wB_dupr, wB_dup2, wB_popi, wB_iadd, wB_isub, wB_imul, wB_iand, wB_ior, wB_ixor, wB_ishl, wB_ishr, wB_iushr, wB_ineg, wB_ladd, wB_lsub, wB_lmul, wB_land, wB_lneg, wB_i2l, wB_l2i, wB_lcmp, wB_idiv, wB_irem, wB_ldiv, wB_lrem, wB_goto, wB_nop, wB_ifeq, wB_ifne, wB_iflt, wB_ifge, wB_ifgt, wB_ifle, wB_icmpeq, wB_icmpne, wB_icmplt, wB_icmpge, wB_icmpgt, wB_icmple, wB_table, wB_lookup, wB_ireturn, wB_zreturn, wB_lreturn, wB_areturn, wB_return, wB_getf, wB_putf, wB_iald, wB_bald, wB_lald, wB_iast, wB_bast, wB_last, wB_min, wB_max, wB_abs, wB_minl, wB_maxl, wB_absl, wB_obj, wB_copy, wB_charAt, wB_strlen, sr_k1i, sr_k1r, sr_k1U, sr_k1l, sr_ms1, sr_ms0, sr_msn, sr_cs1, sr_csm1, sr_csm2, sr_cl1, sr_cl2, sr_szi, sr_szr, sr_szl, sr_szn, sr_tls, sr_tln, wB_il0, wB_ll0, wB_al0, wB_is0, wB_as0, wB_inc0, wB_ls0, wB_il1, wB_ll1, wB_al1, wB_is1, wB_as1, wB_inc1, wB_ls1, wB_il2, wB_ll2, wB_al2, wB_is2, wB_as2, wB_inc2, wB_ls2, wB_il3, wB_ll3, wB_al3, wB_is3, wB_as3, wB_inc3, wB_ls3, wB_il4, wB_ll4, wB_al4, wB_is4, wB_as4, wB_inc4, wB_ls4, wB_il5, wB_ll5, wB_al5, wB_is5, wB_as5, wB_inc5, wB_ls5, wB_il6, wB_ll6, wB_al6, wB_is6, wB_as6, wB_inc6, wB_ls6, wB_il7, wB_ll7, wB_al7, wB_is7, wB_as7, wB_inc7, wB_ls7, lb_55003, lb_55004, lb_55005, lb_55006, cl_61, cl_56, cl_58, cl_66, cl_43, obj_3, obj_4, fld_3_7, fld_3_8, fld_3_9, fld_3_10, fld_3_11, fld_3_2, fld_4_5, nI_clamp, inb_nI, nI_leI, nI_ltI, nI_eq, nI_z, nI_ge0, nI_lt0, nI_add, n00, n11, n01, n10, true_or, or_true, not_true_eq_false, not_false_eq_true, bI_0, bI_z, Nat.le_refl, Nat.lt_irrefl, Nat.reduceLT, Nat.reduceEqDiff, nI_gt0, nI_le0, show ¬ 700 < k by omega, w1, w2, a10, q, a8, q1, e5, q2]
        rw [lb_55002]
        exact main
      · simp (disch := first | assumption | omega) only [Nat.reduceAdd, Nat.reduceLeDiff, Nat.zero_le, true_and, and_true, ↓reduceIte, wB_const, wB_lconst, wB_ldc, wB_getstatic, wB_dupi, wB_dupr, wB_dup2, wB_popi, wB_iadd, wB_isub, wB_imul, wB_iand, wB_ior, wB_ixor, wB_ishl, wB_ishr, wB_iushr, wB_ineg, wB_ladd, wB_lsub, wB_lmul, wB_land, wB_lneg, wB_i2l, wB_l2i, wB_lcmp, wB_idiv, wB_irem, wB_ldiv, wB_lrem, wB_goto, wB_nop, wB_ifeq, wB_ifne, wB_iflt, wB_ifge, wB_ifgt, wB_ifle, wB_icmpeq, wB_icmpne, wB_icmplt, wB_icmpge, wB_icmpgt, wB_icmple, wB_table, wB_lookup, wB_ireturn, wB_zreturn, wB_lreturn, wB_areturn, wB_return, wB_getf, wB_putf, wB_iald, wB_bald, wB_lald, wB_iast, wB_bast, wB_last, wB_min, wB_max, wB_abs, wB_minl, wB_maxl, wB_absl, wB_obj, wB_copy, wB_charAt, wB_strlen, sr_k1i, sr_k1r, sr_k1U, sr_k1l, sr_ms1, sr_ms0, sr_msn, sr_cs1, sr_csm1, sr_csm2, sr_cl1, sr_cl2, sr_szi, sr_szr, sr_szl, sr_szn, sr_tls, sr_tln, wB_il0, wB_ll0, wB_al0, wB_is0, wB_as0, wB_inc0, wB_ls0, wB_il1, wB_ll1, wB_al1, wB_is1, wB_as1, wB_inc1, wB_ls1, wB_il2, wB_ll2, wB_al2, wB_is2, wB_as2, wB_inc2, wB_ls2, wB_il3, wB_ll3, wB_al3, wB_is3, wB_as3, wB_inc3, wB_ls3, wB_il4, wB_ll4, wB_al4, wB_is4, wB_as4, wB_inc4, wB_ls4, wB_il5, wB_ll5, wB_al5, wB_is5, wB_as5, wB_inc5, wB_ls5, wB_il6, wB_ll6, wB_al6, wB_is6, wB_as6, wB_inc6, wB_ls6, wB_il7, wB_ll7, wB_al7, wB_is7, wB_as7, wB_inc7, wB_ls7, lb_55003, lb_55004, lb_55005, lb_55006, cl_61, cl_56, cl_58, cl_66, cl_43, obj_3, obj_4, fld_3_7, fld_3_8, fld_3_9, fld_3_10, fld_3_11, fld_3_2, fld_4_5, nI_clamp, inb_nI, nI_leI, nI_ltI, nI_eq, nI_z, nI_ge0, nI_lt0, nI_add, n00, n11, n01, n10, true_or, or_true, not_true_eq_false, not_false_eq_true, bI_0, bI_z, Nat.le_refl, Nat.lt_irrefl, Nat.reduceLT, Nat.reduceEqDiff, nI_gt0, nI_le0, show ¬ 700 < k by omega, w1, w2, a10, q, a8, q1]
        rw [lb_55002]
        exact main
    · simp (disch := first | assumption | omega) only [Nat.reduceAdd, Nat.reduceLeDiff, Nat.zero_le, true_and, and_true, ↓reduceIte, wB_const, wB_lconst, wB_ldc, wB_getstatic, wB_dupi, wB_dupr, wB_dup2, wB_popi, wB_iadd, wB_isub, wB_imul, wB_iand, wB_ior, wB_ixor, wB_ishl, wB_ishr, wB_iushr, wB_ineg, wB_ladd, wB_lsub, wB_lmul, wB_land, wB_lneg, wB_i2l, wB_l2i, wB_lcmp, wB_idiv, wB_irem, wB_ldiv, wB_lrem, wB_goto, wB_nop, wB_ifeq, wB_ifne, wB_iflt, wB_ifge, wB_ifgt, wB_ifle, wB_icmpeq, wB_icmpne, wB_icmplt, wB_icmpge, wB_icmpgt, wB_icmple, wB_table, wB_lookup, wB_ireturn, wB_zreturn, wB_lreturn, wB_areturn, wB_return, wB_getf, wB_putf, wB_iald, wB_bald, wB_lald, wB_iast, wB_bast, wB_last, wB_min, wB_max, wB_abs, wB_minl, wB_maxl, wB_absl, wB_obj, wB_copy, wB_charAt, wB_strlen, sr_k1i, sr_k1r, sr_k1U, sr_k1l, sr_ms1, sr_ms0, sr_msn, sr_cs1, sr_csm1, sr_csm2, sr_cl1, sr_cl2, sr_szi, sr_szr, sr_szl, sr_szn, sr_tls, sr_tln, wB_il0, wB_ll0, wB_al0, wB_is0, wB_as0, wB_inc0, wB_ls0, wB_il1, wB_ll1, wB_al1, wB_is1, wB_as1, wB_inc1, wB_ls1, wB_il2, wB_ll2, wB_al2, wB_is2, wB_as2, wB_inc2, wB_ls2, wB_il3, wB_ll3, wB_al3, wB_is3, wB_as3, wB_inc3, wB_ls3, wB_il4, wB_ll4, wB_al4, wB_is4, wB_as4, wB_inc4, wB_ls4, wB_il5, wB_ll5, wB_al5, wB_is5, wB_as5, wB_inc5, wB_ls5, wB_il6, wB_ll6, wB_al6, wB_is6, wB_as6, wB_inc6, wB_ls6, wB_il7, wB_ll7, wB_al7, wB_is7, wB_as7, wB_inc7, wB_ls7, lb_55003, lb_55004, lb_55005, lb_55006, cl_61, cl_56, cl_58, cl_66, cl_43, obj_3, obj_4, fld_3_7, fld_3_8, fld_3_9, fld_3_10, fld_3_11, fld_3_2, fld_4_5, nI_clamp, inb_nI, nI_leI, nI_ltI, nI_eq, nI_z, nI_ge0, nI_lt0, nI_add, n00, n11, n01, n10, true_or, or_true, not_true_eq_false, not_false_eq_true, bI_0, bI_z, Nat.le_refl, Nat.lt_irrefl, Nat.reduceLT, Nat.reduceEqDiff, nI_gt0, nI_le0, show ¬ 700 < k by omega, w1, w2, a10, q]
      rw [lb_55002]
      exact main
set_option maxHeartbeats 4000000 in
set_option maxRecDepth 100000 in
theorem m_lawBody {d I n p : Nat} {b : Nat → Nat} {y : V} {h : sr_H} {Q : sr_T} (hI' : IOK I) (hb : Wb b n) (hp : p ≤ n) (h8 : y 0 13 = y 0 8 ∧ y 0 8 ≤ 64) (s : PI h I b n y p) (kk : ∀ h' r, PE h h' I b n (lRun b n 701 y p [] 0 0 1 1) r → Q (some (.int r)) h') : sr_M (d + 11) 55 [.ref 1] h Q := by
  have w1 := s.1.1
  simp (disch := first | assumption | omega | (simp (disch := assumption) only [sr_szn, sr_szi, sr_szr, sr_szl, Nat.reduceAdd, Nat.reduceLeDiff, Nat.zero_le, Nat.le_refl, isA_sI, isA_sJ, isA_sC, isA_sF, isI_sI, isI_sJ, isI_sC, isI_sF, isJ_sI, isJ_sJ, isJ_sC, isJ_sF, oK_sI, oK_sJ, oK_sC, oK_sF, lI_sI, lI_sJ, lI_sC, lI_sF, oC_sI, oC_sJ, oC_sC, oC_sF, obj_3, obj_4, fld_3_7, fld_3_8, fld_3_9, fld_3_10, fld_3_11, fld_3_2, fld_4_5])) only [Nat.reduceAdd, Nat.reduceLeDiff, Nat.zero_le, true_and, and_true, ↓reduceIte, wB_const, wB_lconst, wB_ldc, wB_getstatic, wB_dupi, wB_dupr, wB_dup2, wB_popi, wB_iadd, wB_isub, wB_imul, wB_iand, wB_ior, wB_ixor, wB_ishl, wB_ishr, wB_iushr, wB_ineg, wB_ladd, wB_lsub, wB_lmul, wB_land, wB_lneg, wB_i2l, wB_l2i, wB_lcmp, wB_idiv, wB_irem, wB_ldiv, wB_lrem, wB_goto, wB_nop, wB_ifeq, wB_ifne, wB_iflt, wB_ifge, wB_ifgt, wB_ifle, wB_icmpeq, wB_icmpne, wB_icmplt, wB_icmpge, wB_icmpgt, wB_icmple, wB_table, wB_lookup, wB_ireturn, wB_zreturn, wB_lreturn, wB_areturn, wB_return, wB_getf, wB_putf, wB_iald, wB_bald, wB_lald, wB_iast, wB_bast, wB_last, wB_min, wB_max, wB_abs, wB_minl, wB_maxl, wB_absl, wB_obj, wB_copy, wB_charAt, wB_strlen, sr_k1i, sr_k1r, sr_k1U, sr_k1l, sr_ms1, sr_ms0, sr_msn, sr_cs1, sr_csm1, sr_csm2, sr_cl1, sr_cl2, sr_szi, sr_szr, sr_szl, sr_szn, sr_tls, sr_tln, wB_il0, wB_ll0, wB_al0, wB_is0, wB_as0, wB_inc0, wB_ls0, wB_il1, wB_ll1, wB_al1, wB_is1, wB_as1, wB_inc1, wB_ls1, wB_il2, wB_ll2, wB_al2, wB_is2, wB_as2, wB_inc2, wB_ls2, wB_il3, wB_ll3, wB_al3, wB_is3, wB_as3, wB_inc3, wB_ls3, wB_il4, wB_ll4, wB_al4, wB_is4, wB_as4, wB_inc4, wB_ls4, wB_il5, wB_ll5, wB_al5, wB_is5, wB_as5, wB_inc5, wB_ls5, wB_il6, wB_ll6, wB_al6, wB_is6, wB_as6, wB_inc6, wB_ls6, wB_il7, wB_ll7, wB_al7, wB_is7, wB_as7, wB_inc7, wB_ls7, lb_55002, lb_55003, lb_55004, lb_55005, lb_55006, cl_61, cl_56, cl_58, cl_66, cl_43, obj_3, obj_4, fld_3_7, fld_3_8, fld_3_9, fld_3_10, fld_3_11, fld_3_2, fld_4_5, nI_clamp, inb_nI, nI_leI, nI_ltI, nI_eq, nI_z, nI_ge0, nI_lt0, nI_add, n00, n11, n01, n10, true_or, or_true, not_true_eq_false, not_false_eq_true, bI_0, bI_z, Nat.le_refl, Nat.lt_irrefl, Nat.reduceLT, Nat.reduceEqDiff, nI_gt0, nI_le0, en_55, w1, or_true, lI_sI, lI_sJ, lI_sC, lI_sF, lZ_sI, lZ_sJ, lZ_sC, lZ_sF, lJ_sI, lJ_sJ, lJ_sC, lJ_sF, oC_sI, oC_sJ, oC_sC, oC_sF, oF_sI, oF_sJ, oF_sC, oF_sF, sI_1, sJ_1, sF_1, sC_1, sr_okI, sr_okJ, sr_okR, sr_okZ, hI_sJ, hI_sF, hJ_sI, hJ_sF, hJ_sC, hF_sI, hF_sJ, hF_sC, fI_sI, fI_sJ, fI_sC, fJ_sI, fJ_sJ, fJ_sC, hI_n, hI_y, hJ_n, hJ_y, hF_n, hF_y, fI_n, fI_y, fJ_n, fJ_y, hI_c]
  have f1 : Fr h (sF h 1 7 (.int (nI 0))) (fun a => a = 1) := Fr_sF Fr.rf (erI (fld_3_7 w1).2) rfl
  have w2 := w1.ss f1.1
  have f2 : Fr h (sF (sF h 1 7 (.int (nI 0))) 1 8 (.int (nI 0))) (fun a => a = 1) := Fr_sF f1 (erI (fld_3_8 w2).2) rfl
  have w3 := w1.ss f2.1
  have f3 : Fr h (sF (sF (sF h 1 7 (.int (nI 0))) 1 8 (.int (nI 0))) 1 9 (.int (nI 0))) (fun a => a = 1) := Fr_sF f2 (erI (fld_3_9 w3).2) rfl
  have w4 := w1.ss f3.1
  have f4 : Fr h (sF (sF (sF (sF h 1 7 (.int (nI 0))) 1 8 (.int (nI 0))) 1 9 (.int (nI 0))) 1 10 (.int (nI 1))) (fun a => a = 1) := Fr_sF f3 (erI (fld_3_10 w4).2) rfl
  have w5 := w1.ss f4.1
  have f5 : Fr h (sF (sF (sF (sF (sF h 1 7 (.int (nI 0))) 1 8 (.int (nI 0))) 1 9 (.int (nI 0))) 1 10 (.int (nI 1))) 1 11 (.int (nI 1))) (fun a => a = 1) := Fr_sF f4 (erI (fld_3_11 w5).2) rfl
  refine m_lawLoop hI' hb 701 0 y p [] 0 0 1 1 _ rfl hp ⟨by simp only [sg]; omega, h8.2, rfl, by omega, by omega, by omega, by omega, fun k hk => by cases hk⟩ ⟨PI_138 hI' s (f5.mono (fun a ha => Or.inl ha)) (FZ_f (by omega) (FZ_f (by omega) (FZ_f (by omega) (FZ_f (by omega) (FZ_f (by omega) s.2.1.2.2.2.2.2.2))))), ⟨?_, ?_, ?_, ?_, ?_⟩, trivial⟩ (fun h' r pe => kk h' r (PE_tr (f5.mono (fun a ha => PX_1 ha)) pe))
  · rw [fI_n (by omega), fI_n (by omega), fI_n (by omega), fI_n (by omega)]; exact fI_y (fld_3_7 w1).1.2
  · rw [fI_n (by omega), fI_n (by omega), fI_n (by omega)]; exact fI_y (fld_3_8 w2).1.2
  · rw [fI_n (by omega), fI_n (by omega)]; exact fI_y (fld_3_9 w3).1.2
  · rw [fI_n (by omega)]; exact fI_y (fld_3_10 w4).1.2
  · exact fI_y (fld_3_11 w5).1.2
