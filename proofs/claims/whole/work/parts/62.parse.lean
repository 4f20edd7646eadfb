/-! What a text tells; the small methods of the parser. -/
noncomputable def tK (b : Nat → Nat) (n p : Nat) : Nat := (lex b n p).1
noncomputable def tV (b : Nat → Nat) (n p : Nat) : Nat := (lex b n p).2.1
/-- where the next token begins -/
noncomputable def tN (b : Nat → Nat) (n p : Nat) : Nat := tkP b n (lex b n p).2.2
theorem wdK_le {c : Nat} : 3 ≤ wdK c ∧ wdK c ≤ 40 ∧ (wdK c = 3 ∨ 20 ≤ wdK c) := by
  have := ff_le (p := fun w => WC w = c) (N := 21)
  unfold wdK
  split <;> omega
theorem run_le {P : Nat → Prop} {n a : Nat} (hP : ∀ a, P a → a < n) (ha : a ≤ n) : a ≤ run P n a ∧ run P n a ≤ n := (run_sp hP (n - a) a (by omega)).1
theorem tkP_le {b : Nat → Nat} {n a : Nat} (ha : a ≤ n) : a ≤ tkP b n a ∧ tkP b n a ≤ n := run_le (fun a z => z.1) ha
theorem lex_sp {b : Nat → Nat} {n p : Nat} (hp : p ≤ n) : (lex b n p).1 ≤ 40 ∧ (p ≤ (lex b n p).2.2 ∧ (lex b n p).2.2 ≤ n) ∧ (p < n → p < (lex b n p).2.2) ∧ (n ≤ p ↔ (lex b n p).1 = 0) ∧ (lex b n p).2.1 < 2 ^ 30 := by
  unfold lex
  by_cases q : n ≤ p
  · rw [if_pos q]
    exact ⟨Nat.zero_le _, ⟨Nat.le_refl _, hp⟩, fun z => by omega, ⟨fun _ => rfl, fun _ => q⟩, by dsimp only; omega⟩
  · rw [if_neg q]
    by_cases ql : 97 ≤ b p ∧ b p ≤ 122
    · rw [if_pos ql]
      have hP : ∀ a, ltr b n a → a < n := fun a z => z.1
      have hr := run_le hP hp
      have h1 : p + 1 ≤ wEnd b n p := by
        unfold wEnd
        rw [run_y (show ltr b n p from ⟨by omega, ql⟩) (by omega)]
        exact (run_le hP (show p + 1 ≤ n by omega)).1
      have h2 : wEnd b n p ≤ n := hr.2
      by_cases q6 : 6 < wEnd b n p - p
      · rw [if_pos q6]
        exact ⟨by dsimp only; omega, ⟨by dsimp only; omega, h2⟩, fun _ => h1, ⟨fun z => absurd z q, fun z => absurd (show (1 : Nat) = 0 from z) (by decide)⟩, by dsimp only; omega⟩
      · rw [if_neg q6]
        have hw := wdK_le (c := wCode b n p)
        refine ⟨hw.2.1, ⟨by dsimp only; omega, h2⟩, fun _ => h1, ⟨fun z => absurd z q, fun z => ?_⟩, ?_⟩
        · have z' : wdK (wCode b n p) = 0 := z
          omega
        · show wCode b n p < 2 ^ 30
          unfold wCode
          obtain ⟨-, -, r4⟩ := run_sp (P := ltr b n) hP (n - p) p (by omega)
          have hc := cd_lt (b := b) (p := p) (wEnd b n p - p) (fun j hj => (r4 (p + j) (by omega) (by unfold wEnd at hj; omega)).2.2)
          have h3 : 32 ^ (wEnd b n p - p) * 32 ^ (6 - (wEnd b n p - p)) = 2 ^ 30 := by
            rw [← Nat.pow_add, show wEnd b n p - p + (6 - (wEnd b n p - p)) = 6 by omega]
          calc cdN b p (wEnd b n p - p) * 32 ^ (6 - (wEnd b n p - p)) < 32 ^ (wEnd b n p - p) * 32 ^ (6 - (wEnd b n p - p)) := Nat.mul_lt_mul_of_pos_right hc (Nat.pow_pos (by omega))
            _ = 2 ^ 30 := h3
    · rw [if_neg ql]
      by_cases qd : 48 ≤ b p ∧ b p ≤ 57
      · rw [if_pos qd]
        have hP : ∀ a, dgt b n a → a < n := fun a z => z.1
        have hr := run_le hP hp
        have h1 : p + 1 ≤ dEnd b n p := by
          unfold dEnd
          rw [run_y (show dgt b n p from ⟨by omega, qd⟩) (by omega)]
          exact (run_le hP (show p + 1 ≤ n by omega)).1
        refine ⟨by dsimp only; omega, ⟨by dsimp only; omega, hr.2⟩, fun _ => h1, ⟨fun z => absurd z q, fun z => absurd (show (2 : Nat) = 0 from z) (by decide)⟩, ?_⟩
        have := (vc_nm (b := b) (p := p) (dEnd b n p - p)).2
        show nmN b p (dEnd b n p - p) < 2 ^ 30
        omega
      · rw [if_neg qd]
        obtain ⟨s1, s2, s3, s4, s5⟩ := sgn_le (b p) (nxc b n p)
        refine ⟨by dsimp only; omega, ⟨by dsimp only; omega, ?_⟩, fun _ => by dsimp only; omega, ⟨fun z => absurd z q, fun z => ?_⟩, by dsimp only; omega⟩
        · dsimp only
          by_cases z : (sgn (b p) (nxc b n p)).2 = 1
          · omega
          · have : p + 1 < n := by
              by_cases y : p + 1 < n
              · exact y
              · exfalso
                apply z
                have : nxc b n p = 0 := if_neg y
                rw [this]
                unfold sgn
                repeat' split
                all_goals first | rfl | omega
            omega
        · dsimp only at z
          exfalso
          revert z
          unfold sgn
          repeat' split
          all_goals simp
theorem tN_le {b : Nat → Nat} {n p : Nat} (hp : p ≤ n) : p ≤ tN b n p ∧ tN b n p ≤ n ∧ (p < n → p < tN b n p) := by
  obtain ⟨h1, ⟨h2, h3⟩, h4, h5⟩ := lex_sp (b := b) hp
  have h6 := tkP_le (b := b) h3
  unfold tN
  exact ⟨by omega, by omega, fun z => by have := h4 z; omega⟩
/-- a row's place in a text of the class; how long it is -/
def ofL : List Nat := [0, 24, 3, 4, 5, 6, 7, 25, 12, 13, 14, 15, 26, 27, 28, 29, 30, 31, 32, 20, 21, 18, 19]
def off (j : Nat) : Nat := ofL.getD j 0
def cn (y : V) (j : Nat) : Nat := if j ≤ 6 then y 0 2 else if j ≤ 11 then y 0 3 else if j ≤ 15 then y 0 4 else if j ≤ 18 then y 0 5 else if j ≤ 20 then 3 else y 0 13
theorem off_inj : ∀ j, j < 23 → ∀ k, k < 23 → off j = off k → j = k := by decide
theorem off_le : ∀ j, j < 23 → off j ≤ 32 ∧ (1 ≤ j → 3 ≤ off j ∧ ¬ off j = 17 ∧ ¬ off j = 8 ∧ ¬ off j = 16 ∧ ¬ off j = 22 ∧ ¬ off j = 23) := by decide
/-- what a text tells so far, at I of the class -/
def TS (h : sr_H) (I : Nat) (y : V) : Prop := (fI h (I + 2) 0 = nI (y 0 0) ∧ fI h (I + 2) 1 = nI (y 0 1) ∧ fI h (I + 2) 2 = nI (y 0 2) ∧ fI h (I + 2) 3 = nI (2 ^ y 0 2 - 1)) ∧ (fI h (I + 1) 1 = nI (y 0 3) ∧ fI h (I + 1) 7 = nI 0 ∧ fI h (I + 1) 8 = nI 0 ∧ fJ h (I + 1) 9 = lN (y 0 7)) ∧ (fI h I 4 = nI (y 0 9) ∧ fI h I 5 = nI (y 0 6) ∧ fI h I 6 = nI (y 0 10) ∧ fI h I 7 = nI (y 0 11) ∧ fI h I 8 = nI (y 0 12) ∧ fI h I 9 = nI (y 0 4) ∧ fI h I 14 = nI (y 0 5)) ∧ fI h (I + 17) 0 = nI (y 0 8) ∧ fI h (I + 17) 1 = nI (y 0 13)
def TA (h : sr_H) (I : Nat) (y : V) : Prop := ∀ j, 1 ≤ j → j ≤ 22 → ∀ k, k < cn y j → hI h (I + off j) k = nI (y j k)
def TB (h : sr_H) (I : Nat) (y : V) : Prop := (∀ s, s < y 0 2 → hI h (I + 8) s = nI (2 ^ y 5 s - 1)) ∧ ∀ p, p < y 0 3 → hI h (I + 16) p = nI 0
/-- what may be told -/
def Wy (y : V) : Prop := ((1 ≤ y 0 0 ∧ y 0 0 ≤ 8) ∧ (1 ≤ y 0 1 ∧ y 0 1 ≤ 8) ∧ y 0 2 ≤ 5 ∧ y 0 3 ≤ 6 ∧ y 0 4 ≤ 10 ∧ y 0 5 ≤ 12 ∧ y 0 6 ≤ 100 ∧ y 0 7 ≤ 99999 ∧ y 0 8 ≤ 64 ∧ y 0 9 ≤ 700 ∧ y 0 10 ≤ 1 ∧ y 0 11 ≤ 1 ∧ y 0 12 ≤ 1 ∧ y 0 13 ≤ y 0 8) ∧ (∀ s, s < y 0 2 → y 1 s < 2 ^ 30 ∧ y 2 s < 4 ∧ y 3 s < y 0 0 ∧ y 4 s < y 0 1 ∧ (1 ≤ y 5 s ∧ y 5 s ≤ 4) ∧ y 6 s ≤ 1) ∧ (∀ p, p < y 0 3 → y 7 p < 2 ^ 30 ∧ y 8 p ≤ 99 ∧ y 9 p < y 0 0 ∧ y 10 p < y 0 1 ∧ y 11 p < 4) ∧ (∀ k, k < y 0 4 → y 12 k < y 0 2 ∧ y 13 k ≤ 99 ∧ y 14 k < 8 ∧ y 15 k < 8) ∧ (∀ k, k < y 0 5 → y 16 k < y 0 3 ∧ y 17 k ≤ 99 ∧ y 18 k < 4) ∧ (∀ k, k < 3 → y 19 k ≤ y 0 13 ∧ y 20 k ≤ y 0 13) ∧ ∀ i, i < y 0 13 → y 21 i < 64 ∧ y 22 i < 10000 ∧ (y 21 i = 34 → y 22 i < 7)
/-- no fault was told -/
def FZ (h : sr_H) : Prop := fI h 1 0 = nI 0 ∧ fI h 1 1 = oI 0
theorem FZ_of {h h' : sr_H} (e : h'.2 1 = h.2 1) (z : FZ h) : FZ h' := ⟨by rw [fI_of e]; exact z.1, by rw [fI_of e]; exact z.2⟩
def TKz (h : sr_H) (K v p : Nat) : Prop := fI h 2 5 = nI K ∧ fI h 2 7 = nI p ∧ (K = 2 → ∃ vc, vc ≤ 1000000 ∧ fI h 2 6 = nI vc ∧ min 100000 vc = v) ∧ (K = 3 → fI h 2 6 = nI v) ∧ FZ h
/-- the parser stands at p, y is told so far -/
def PI (h : sr_H) (I : Nat) (b : Nat → Nat) (n : Nat) (y : V) (p : Nat) : Prop := (Prs h I ∧ Rdr h ∧ Txt h I) ∧ (RD h b n ∧ fI h 2 4 = nI (lex b n p).2.2 ∧ TKz h (tK b n p) (tV b n p) p) ∧ TS h I y ∧ TA h I y ∧ TB h I y
def PX (I : Nat) : Nat → Prop := fun a => a = 1 ∨ a = 2 ∨ a = 38 ∨ (I ≤ a ∧ a ≤ I + 32)
/-- where the class has its texts -/
def IOK (I : Nat) : Prop := I = 5 ∨ I = 39
theorem TS_of {h h' : sr_H} {I : Nat} {y : V} (t : TS h I y) (e : ∀ a, I ≤ a → a ≤ I + 32 → h'.2 a = h.2 a) : TS h' I y := by
  unfold TS at *
  rw [fI_of (e (I + 2) (by omega) (by omega)), fI_of (e (I + 2) (by omega) (by omega)), fI_of (e (I + 2) (by omega) (by omega)), fI_of (e (I + 2) (by omega) (by omega)), fI_of (e (I + 1) (by omega) (by omega)), fI_of (e (I + 1) (by omega) (by omega)), fI_of (e (I + 1) (by omega) (by omega)), fJ_of (e (I + 1) (by omega) (by omega)), fI_of (e I (by omega) (by omega)), fI_of (e I (by omega) (by omega)), fI_of (e I (by omega) (by omega)), fI_of (e I (by omega) (by omega)), fI_of (e I (by omega) (by omega)), fI_of (e I (by omega) (by omega)), fI_of (e I (by omega) (by omega)), fI_of (e (I + 17) (by omega) (by omega)), fI_of (e (I + 17) (by omega) (by omega))]
  exact t
theorem TA_of {h h' : sr_H} {I : Nat} {y : V} (t : TA h I y) (e : ∀ a, I ≤ a → a ≤ I + 32 → h'.2 a = h.2 a) : TA h' I y := fun j h1 h2 k hk => by
  have := (off_le j (by omega)).1
  rw [hI_of (e _ (by omega) (by omega))]
  exact t j h1 h2 k hk
theorem TB_of {h h' : sr_H} {I : Nat} {y : V} (t : TB h I y) (e : ∀ a, I ≤ a → a ≤ I + 32 → h'.2 a = h.2 a) : TB h' I y := ⟨fun s hs => by rw [hI_of (e _ (by omega) (by omega))]; exact t.1 s hs, fun s hs => by rw [hI_of (e _ (by omega) (by omega))]; exact t.2 s hs⟩
/-- only the parser's own and the reader's numbers have changed -/
theorem PI_12 {h h' : sr_H} {I n p p' : Nat} {b : Nat → Nat} {y : V} (hI' : IOK I) (s : PI h I b n y p) (f : Fr h h' (fun a => a = 1 ∨ a = 2)) (rd : RD h' b n) (e4 : fI h' 2 4 = nI (lex b n p').2.2) (tk : TK h' (tK b n p') (tV b n p') p') (fz : FZ h') : PI h' I b n y p' := by
  have e : ∀ a, I ≤ a → a ≤ I + 32 → h'.2 a = h.2 a := fun a h1 h2 => f.2 a (by unfold IOK at hI'; omega)
  exact ⟨⟨s.1.1.ss f.1, s.1.2.1.ss f.1, s.1.2.2.ss f.1⟩, ⟨rd, e4, tk.1, tk.2.1, tk.2.2.1, tk.2.2.2, fz⟩, TS_of s.2.2.1 e, TA_of s.2.2.2.1 e, TB_of s.2.2.2.2 e⟩

set_option maxHeartbeats 4000000 in
set_option maxRecDepth 100000 in
theorem m_nextP {d I n p : Nat} {b : Nat → Nat} {y : V} {h : sr_H} {Q : sr_T} (hI' : IOK I) (hb : Wb b n) (hp : p ≤ n) (s : PI h I b n y p) (kk : ∀ h', RR h h' → PI h' I b n y (tN b n p) → Q none h') : sr_M (d + 10) 66 [.ref 2] h Q := by
  refine m_next (d := d) s.1.2.1 hb s.2.1.1 (lex_sp (b := b) hp).2.1.2 s.2.1.2.1 (fun h' rr e4 tk => kk h' rr ?_)
  exact PI_12 hI' s (rr.1.mono (fun a ha => Or.inr ha)) (rr.rd s.2.1.1) e4 tk (FZ_of (rr.1.2 1 (by omega)) s.2.1.2.2.2.2.2.2)
abbrev PR : Type := (Nat × Nat) ⊕ (V × Nat)
/-- a fault was told -/
def FT (h : sr_H) (e : Nat × Nat) : Prop := fI h 1 0 = nI e.1 ∧ fI h 1 1 = nI e.2
set_option maxHeartbeats 4000000 in
set_option maxRecDepth 100000 in
theorem m_refuse {d I n p k : Nat} {b : Nat → Nat} {y : V} {h : sr_H} {Q : sr_T} (s : PI h I b n y p) (kk : ∀ h', Fr h h' (fun a => a = 1) → FT h' (k, p) → Q (some (.int (nI 0))) h') : sr_M (d + 1) 43 [.ref 1, .int (nI k)] h Q := by
  have w1 := s.1.1
  have w2 := s.1.2.1
  have e7 := s.2.1.2.2.2.1
  simp (disch := first | assumption | omega | (simp (disch := assumption) only [sr_szn, sr_szi, sr_szr, sr_szl, Nat.reduceAdd, Nat.reduceLeDiff, Nat.zero_le, Nat.le_refl, isA_sI, isA_sJ, isA_sC, isA_sF, isI_sI, isI_sJ, isI_sC, isI_sF, isJ_sI, isJ_sJ, isJ_sC, isJ_sF, oK_sI, oK_sJ, oK_sC, oK_sF, lI_sI, lI_sJ, lI_sC, lI_sF, oC_sI, oC_sJ, oC_sC, oC_sF, fld_3_0, fld_3_2, fld_4_7, fld_3_1])) only [Nat.reduceAdd, Nat.reduceLeDiff, Nat.zero_le, true_and, and_true, ↓reduceIte, wB_const, wB_lconst, wB_ldc, wB_getstatic, wB_dupi, wB_dupr, wB_dup2, wB_popi, wB_iadd, wB_isub, wB_imul, wB_iand, wB_ior, wB_ixor, wB_ishl, wB_ishr, wB_iushr, wB_ineg, wB_ladd, wB_lsub, wB_lmul, wB_land, wB_lneg, wB_i2l, wB_l2i, wB_lcmp, wB_idiv, wB_irem, wB_ldiv, wB_lrem, wB_goto, wB_nop, wB_ifeq, wB_ifne, wB_iflt, wB_ifge, wB_ifgt, wB_ifle, wB_icmpeq, wB_icmpne, wB_icmplt, wB_icmpge, wB_icmpgt, wB_icmple, wB_table, wB_lookup, wB_ireturn, wB_zreturn, wB_lreturn, wB_areturn, wB_return, wB_getf, wB_putf, wB_iald, wB_bald, wB_lald, wB_iast, wB_bast, wB_last, wB_min, wB_max, wB_abs, wB_minl, wB_maxl, wB_absl, wB_obj, wB_copy, wB_charAt, wB_strlen, sr_k1i, sr_k1r, sr_k1U, sr_k1l, sr_ms1, sr_ms0, sr_msn, sr_cs1, sr_csm1, sr_csm2, sr_cl1, sr_cl2, sr_szi, sr_szr, sr_szl, sr_szn, sr_tls, sr_tln, wB_il0, wB_ll0, wB_al0, wB_is0, wB_as0, wB_inc0, wB_ls0, wB_il1, wB_ll1, wB_al1, wB_is1, wB_as1, wB_inc1, wB_ls1, wB_il2, wB_ll2, wB_al2, wB_is2, wB_as2, wB_inc2, wB_ls2, wB_il3, wB_ll3, wB_al3, wB_is3, wB_as3, wB_inc3, wB_ls3, wB_il4, wB_ll4, wB_al4, wB_is4, wB_as4, wB_inc4, wB_ls4, wB_il5, wB_ll5, wB_al5, wB_is5, wB_as5, wB_inc5, wB_ls5, wB_il6, wB_ll6, wB_al6, wB_is6, wB_as6, wB_inc6, wB_ls6, wB_il7, wB_ll7, wB_al7, wB_is7, wB_as7, wB_inc7, wB_ls7, fld_3_0, fld_3_2, fld_4_7, fld_3_1, nI_clamp, inb_nI, nI_leI, nI_ltI, nI_eq, nI_z, nI_ge0, nI_lt0, nI_add, n00, n11, n01, n10, true_or, or_true, not_true_eq_false, not_false_eq_true, bI_0, bI_z, Nat.le_refl, Nat.lt_irrefl, Nat.reduceLT, Nat.reduceEqDiff, nI_gt0, nI_le0, en_43, w1, w2, e7, lI_sI, lI_sJ, lI_sC, lI_sF, lZ_sI, lZ_sJ, lZ_sC, lZ_sF, lJ_sI, lJ_sJ, lJ_sC, lJ_sF, oC_sI, oC_sJ, oC_sC, oC_sF, oF_sI, oF_sJ, oF_sC, oF_sF, sI_1, sJ_1, sF_1, sC_1, sr_okI, sr_okJ, sr_okR, sr_okZ, hI_sJ, hI_sF, hJ_sI, hJ_sF, hJ_sC, hF_sI, hF_sJ, hF_sC, fI_sI, fI_sJ, fI_sC, fJ_sI, fJ_sJ, fJ_sC, hI_n, hI_y, hJ_n, hJ_y, hF_n, hF_y, fI_n, fI_y, fJ_n, fJ_y, hI_c]
  have f1 := Fr_sF (h := h) (v := .int (nI k)) (P := fun a => a = 1) Fr.rf (erI (fld_3_0 w1).2) rfl
  refine kk _ (Fr_sF f1 (erI (fld_3_1 (w1.ss f1.1)).2) rfl) ⟨?_, ?_⟩
  · simp (disch := first | assumption | omega | (simp (disch := assumption) only [sr_szn, sr_szi, sr_szr, sr_szl, Nat.reduceAdd, Nat.reduceLeDiff, Nat.zero_le, Nat.le_refl, isA_sI, isA_sJ, isA_sC, isA_sF, isI_sI, isI_sJ, isI_sC, isI_sF, isJ_sI, isJ_sJ, isJ_sC, isJ_sF, oK_sI, oK_sJ, oK_sC, oK_sF, lI_sI, lI_sJ, lI_sC, lI_sF, oC_sI, oC_sJ, oC_sC, oC_sF, fld_3_0, fld_3_2, fld_4_7, fld_3_1])) only [lI_sI, lI_sJ, lI_sC, lI_sF, lZ_sI, lZ_sJ, lZ_sC, lZ_sF, lJ_sI, lJ_sJ, lJ_sC, lJ_sF, oC_sI, oC_sJ, oC_sC, oC_sF, oF_sI, oF_sJ, oF_sC, oF_sF, sI_1, sJ_1, sF_1, sC_1, sr_okI, sr_okJ, sr_okR, sr_okZ, hI_sJ, hI_sF, hJ_sI, hJ_sF, hJ_sC, hF_sI, hF_sJ, hF_sC, fI_sI, fI_sJ, fI_sC, fJ_sI, fJ_sJ, fJ_sC, hI_n, hI_y, hJ_n, hJ_y, hF_n, hF_y, fI_n, fI_y, fJ_n, fJ_y, hI_c]
  · simp (disch := first | assumption | omega | (simp (disch := assumption) only [sr_szn, sr_szi, sr_szr, sr_szl, Nat.reduceAdd, Nat.reduceLeDiff, Nat.zero_le, Nat.le_refl, isA_sI, isA_sJ, isA_sC, isA_sF, isI_sI, isI_sJ, isI_sC, isI_sF, isJ_sI, isJ_sJ, isJ_sC, isJ_sF, oK_sI, oK_sJ, oK_sC, oK_sF, lI_sI, lI_sJ, lI_sC, lI_sF, oC_sI, oC_sJ, oC_sC, oC_sF, fld_3_0, fld_3_2, fld_4_7, fld_3_1])) only [lI_sI, lI_sJ, lI_sC, lI_sF, lZ_sI, lZ_sJ, lZ_sC, lZ_sF, lJ_sI, lJ_sJ, lJ_sC, lJ_sF, oC_sI, oC_sJ, oC_sC, oC_sF, oF_sI, oF_sJ, oF_sC, oF_sF, sI_1, sJ_1, sF_1, sC_1, sr_okI, sr_okJ, sr_okR, sr_okZ, hI_sJ, hI_sF, hJ_sI, hJ_sF, hJ_sC, hF_sI, hF_sJ, hF_sC, fI_sI, fI_sJ, fI_sC, fJ_sI, fJ_sJ, fJ_sC, hI_n, hI_y, hJ_n, hJ_y, hF_n, hF_y, fI_n, fI_y, fJ_n, fJ_y, hI_c]
/-- how a line, or a part of it, ends -/
def PE (h0 h : sr_H) (I : Nat) (b : Nat → Nat) (n : Nat) (o : PR) (r : Int32) : Prop := Fr h0 h (PX I) ∧ match o with
  | .inl e => r = nI 0 ∧ FT h e
  | .inr a => r = nI 1 ∧ PI h I b n a.1 a.2
theorem PE.r {h0 h : sr_H} {I n : Nat} {b : Nat → Nat} {o : PR} {r : Int32} (e : PE h0 h I b n o r) : r = 0 ∨ r = 1 := by
  obtain ⟨-, e⟩ := e
  cases o with
  | inl x => exact Or.inl (e.1.trans rfl)
  | inr x => exact Or.inr (e.1.trans rfl)
noncomputable def pend (b : Nat → Nat) (n : Nat) (y : V) (p : Nat) : PR := if tK b n p = 4 then .inr (y, tN b n p) else .inl (1, p)
set_option maxHeartbeats 4000000 in
set_option maxRecDepth 100000 in
theorem m_takeEnd {d I n p : Nat} {b : Nat → Nat} {y : V} {h : sr_H} {Q : sr_T} (hI' : IOK I) (hb : Wb b n) (hp : p ≤ n) (s : PI h I b n y p) (kk : ∀ h' r, PE h h' I b n (pend b n y p) r → Q (some (.int r)) h') : sr_M (d + 11) 45 [.ref 1] h Q := by
  have w1 := s.1.1
  have w2 := s.1.2.1
  have e5 := s.2.1.2.2.1
  have hK : tK b n p ≤ 40 := (lex_sp hp).1
  unfold pend at kk
  by_cases q : tK b n p = 4
  · rw [if_pos q] at kk
    simp (disch := first | assumption | omega) only [Nat.reduceAdd, Nat.reduceLeDiff, Nat.zero_le, true_and, and_true, ↓reduceIte, wB_const, wB_lconst, wB_ldc, wB_getstatic, wB_dupi, wB_dupr, wB_dup2, wB_popi, wB_iadd, wB_isub, wB_imul, wB_iand, wB_ior, wB_ixor, wB_ishl, wB_ishr, wB_iushr, wB_ineg, wB_ladd, wB_lsub, wB_lmul, wB_land, wB_lneg, wB_i2l, wB_l2i, wB_lcmp, wB_idiv, wB_irem, wB_ldiv, wB_lrem, wB_goto, wB_nop, wB_ifeq, wB_ifne, wB_iflt, wB_ifge, wB_ifgt, wB_ifle, wB_icmpeq, wB_icmpne, wB_icmplt, wB_icmpge, wB_icmpgt, wB_icmple, wB_table, wB_lookup, wB_ireturn, wB_zreturn, wB_lreturn, wB_areturn, wB_return, wB_getf, wB_putf, wB_iald, wB_bald, wB_lald, wB_iast, wB_bast, wB_last, wB_min, wB_max, wB_abs, wB_minl, wB_maxl, wB_absl, wB_obj, wB_copy, wB_charAt, wB_strlen, sr_k1i, sr_k1r, sr_k1U, sr_k1l, sr_ms1, sr_ms0, sr_msn, sr_cs1, sr_csm1, sr_csm2, sr_cl1, sr_cl2, sr_szi, sr_szr, sr_szl, sr_szn, sr_tls, sr_tln, wB_il0, wB_ll0, wB_al0, wB_is0, wB_as0, wB_inc0, wB_ls0, wB_il1, wB_ll1, wB_al1, wB_is1, wB_as1, wB_inc1, wB_ls1, wB_il2, wB_ll2, wB_al2, wB_is2, wB_as2, wB_inc2, wB_ls2, wB_il3, wB_ll3, wB_al3, wB_is3, wB_as3, wB_inc3, wB_ls3, wB_il4, wB_ll4, wB_al4, wB_is4, wB_as4, wB_inc4, wB_ls4, wB_il5, wB_ll5, wB_al5, wB_is5, wB_as5, wB_inc5, wB_ls5, wB_il6, wB_ll6, wB_al6, wB_is6, wB_as6, wB_inc6, wB_ls6, wB_il7, wB_ll7, wB_al7, wB_is7, wB_as7, wB_inc7, wB_ls7, lb_45001, cl_43, cl_66, obj_3, obj_4, fld_3_2, fld_4_5, nI_clamp, inb_nI, nI_leI, nI_ltI, nI_eq, nI_z, nI_ge0, nI_lt0, nI_add, n00, n11, n01, n10, true_or, or_true, not_true_eq_false, not_false_eq_true, bI_0, bI_z, Nat.le_refl, Nat.lt_irrefl, Nat.reduceLT, Nat.reduceEqDiff, nI_gt0, nI_le0, en_45, w1, w2, e5, q]
    refine m_nextP (d := d) hI' hb hp s (fun h' rr s' => ?_)
    simp (disch := first | assumption | omega) only [Nat.reduceAdd, Nat.reduceLeDiff, Nat.zero_le, true_and, and_true, ↓reduceIte, wB_const, wB_lconst, wB_ldc, wB_getstatic, wB_dupi, wB_dupr, wB_dup2, wB_popi, wB_iadd, wB_isub, wB_imul, wB_iand, wB_ior, wB_ixor, wB_ishl, wB_ishr, wB_iushr, wB_ineg, wB_ladd, wB_lsub, wB_lmul, wB_land, wB_lneg, wB_i2l, wB_l2i, wB_lcmp, wB_idiv, wB_irem, wB_ldiv, wB_lrem, wB_goto, wB_nop, wB_ifeq, wB_ifne, wB_iflt, wB_ifge, wB_ifgt, wB_ifle, wB_icmpeq, wB_icmpne, wB_icmplt, wB_icmpge, wB_icmpgt, wB_icmple, wB_table, wB_lookup, wB_ireturn, wB_zreturn, wB_lreturn, wB_areturn, wB_return, wB_getf, wB_putf, wB_iald, wB_bald, wB_lald, wB_iast, wB_bast, wB_last, wB_min, wB_max, wB_abs, wB_minl, wB_maxl, wB_absl, wB_obj, wB_copy, wB_charAt, wB_strlen, sr_k1i, sr_k1r, sr_k1U, sr_k1l, sr_ms1, sr_ms0, sr_msn, sr_cs1, sr_csm1, sr_csm2, sr_cl1, sr_cl2, sr_szi, sr_szr, sr_szl, sr_szn, sr_tls, sr_tln, wB_il0, wB_ll0, wB_al0, wB_is0, wB_as0, wB_inc0, wB_ls0, wB_il1, wB_ll1, wB_al1, wB_is1, wB_as1, wB_inc1, wB_ls1, wB_il2, wB_ll2, wB_al2, wB_is2, wB_as2, wB_inc2, wB_ls2, wB_il3, wB_ll3, wB_al3, wB_is3, wB_as3, wB_inc3, wB_ls3, wB_il4, wB_ll4, wB_al4, wB_is4, wB_as4, wB_inc4, wB_ls4, wB_il5, wB_ll5, wB_al5, wB_is5, wB_as5, wB_inc5, wB_ls5, wB_il6, wB_ll6, wB_al6, wB_is6, wB_as6, wB_inc6, wB_ls6, wB_il7, wB_ll7, wB_al7, wB_is7, wB_as7, wB_inc7, wB_ls7, lb_45001, cl_43, cl_66, obj_3, obj_4, fld_3_2, fld_4_5, nI_clamp, inb_nI, nI_leI, nI_ltI, nI_eq, nI_z, nI_ge0, nI_lt0, nI_add, n00, n11, n01, n10, true_or, or_true, not_true_eq_false, not_false_eq_true, bI_0, bI_z, Nat.le_refl, Nat.lt_irrefl, Nat.reduceLT, Nat.reduceEqDiff, nI_gt0, nI_le0]
    exact kk h' _ ⟨rr.1.mono (fun a ha => Or.inr (Or.inl ha)), rfl, s'⟩
  · rw [if_neg q] at kk
    simp (disch := first | assumption | omega) only [Nat.reduceAdd, Nat.reduceLeDiff, Nat.zero_le, true_and, and_true, ↓reduceIte, wB_const, wB_lconst, wB_ldc, wB_getstatic, wB_dupi, wB_dupr, wB_dup2, wB_popi, wB_iadd, wB_isub, wB_imul, wB_iand, wB_ior, wB_ixor, wB_ishl, wB_ishr, wB_iushr, wB_ineg, wB_ladd, wB_lsub, wB_lmul, wB_land, wB_lneg, wB_i2l, wB_l2i, wB_lcmp, wB_idiv, wB_irem, wB_ldiv, wB_lrem, wB_goto, wB_nop, wB_ifeq, wB_ifne, wB_iflt, wB_ifge, wB_ifgt, wB_ifle, wB_icmpeq, wB_icmpne, wB_icmplt, wB_icmpge, wB_icmpgt, wB_icmple, wB_table, wB_lookup, wB_ireturn, wB_zreturn, wB_lreturn, wB_areturn, wB_return, wB_getf, wB_putf, wB_iald, wB_bald, wB_lald, wB_iast, wB_bast, wB_last, wB_min, wB_max, wB_abs, wB_minl, wB_maxl, wB_absl, wB_obj, wB_copy, wB_charAt, wB_strlen, sr_k1i, sr_k1r, sr_k1U, sr_k1l, sr_ms1, sr_ms0, sr_msn, sr_cs1, sr_csm1, sr_csm2, sr_cl1, sr_cl2, sr_szi, sr_szr, sr_szl, sr_szn, sr_tls, sr_tln, wB_il0, wB_ll0, wB_al0, wB_is0, wB_as0, wB_inc0, wB_ls0, wB_il1, wB_ll1, wB_al1, wB_is1, wB_as1, wB_inc1, wB_ls1, wB_il2, wB_ll2, wB_al2, wB_is2, wB_as2, wB_inc2, wB_ls2, wB_il3, wB_ll3, wB_al3, wB_is3, wB_as3, wB_inc3, wB_ls3, wB_il4, wB_ll4, wB_al4, wB_is4, wB_as4, wB_inc4, wB_ls4, wB_il5, wB_ll5, wB_al5, wB_is5, wB_as5, wB_inc5, wB_ls5, wB_il6, wB_ll6, wB_al6, wB_is6, wB_as6, wB_inc6, wB_ls6, wB_il7, wB_ll7, wB_al7, wB_is7, wB_as7, wB_inc7, wB_ls7, lb_45001, cl_43, cl_66, obj_3, obj_4, fld_3_2, fld_4_5, nI_clamp, inb_nI, nI_leI, nI_ltI, nI_eq, nI_z, nI_ge0, nI_lt0, nI_add, n00, n11, n01, n10, true_or, or_true, not_true_eq_false, not_false_eq_true, bI_0, bI_z, Nat.le_refl, Nat.lt_irrefl, Nat.reduceLT, Nat.reduceEqDiff, nI_gt0, nI_le0, en_45, w1, w2, e5, q]
    refine m_refuse (d := d + 9) s (fun h' f ft => ?_)
    simp (disch := first | assumption | omega) only [Nat.reduceAdd, Nat.reduceLeDiff, Nat.zero_le, true_and, and_true, ↓reduceIte, wB_const, wB_lconst, wB_ldc, wB_getstatic, wB_dupi, wB_dupr, wB_dup2, wB_popi, wB_iadd, wB_isub, wB_imul, wB_iand, wB_ior, wB_ixor, wB_ishl, wB_ishr, wB_iushr, wB_ineg, wB_ladd, wB_lsub, wB_lmul, wB_land, wB_lneg, wB_i2l, wB_l2i, wB_lcmp, wB_idiv, wB_irem, wB_ldiv, wB_lrem, wB_goto, wB_nop, wB_ifeq, wB_ifne, wB_iflt, wB_ifge, wB_ifgt, wB_ifle, wB_icmpeq, wB_icmpne, wB_icmplt, wB_icmpge, wB_icmpgt, wB_icmple, wB_table, wB_lookup, wB_ireturn, wB_zreturn, wB_lreturn, wB_areturn, wB_return, wB_getf, wB_putf, wB_iald, wB_bald, wB_lald, wB_iast, wB_bast, wB_last, wB_min, wB_max, wB_abs, wB_minl, wB_maxl, wB_absl, wB_obj, wB_copy, wB_charAt, wB_strlen, sr_k1i, sr_k1r, sr_k1U, sr_k1l, sr_ms1, sr_ms0, sr_msn, sr_cs1, sr_csm1, sr_csm2, sr_cl1, sr_cl2, sr_szi, sr_szr, sr_szl, sr_szn, sr_tls, sr_tln, wB_il0, wB_ll0, wB_al0, wB_is0, wB_as0, wB_inc0, wB_ls0, wB_il1, wB_ll1, wB_al1, wB_is1, wB_as1, wB_inc1, wB_ls1, wB_il2, wB_ll2, wB_al2, wB_is2, wB_as2, wB_inc2, wB_ls2, wB_il3, wB_ll3, wB_al3, wB_is3, wB_as3, wB_inc3, wB_ls3, wB_il4, wB_ll4, wB_al4, wB_is4, wB_as4, wB_inc4, wB_ls4, wB_il5, wB_ll5, wB_al5, wB_is5, wB_as5, wB_inc5, wB_ls5, wB_il6, wB_ll6, wB_al6, wB_is6, wB_as6, wB_inc6, wB_ls6, wB_il7, wB_ll7, wB_al7, wB_is7, wB_as7, wB_inc7, wB_ls7, lb_45001, cl_43, cl_66, obj_3, obj_4, fld_3_2, fld_4_5, nI_clamp, inb_nI, nI_leI, nI_ltI, nI_eq, nI_z, nI_ge0, nI_lt0, nI_add, n00, n11, n01, n10, true_or, or_true, not_true_eq_false, not_false_eq_true, bI_0, bI_z, Nat.le_refl, Nat.lt_irrefl, Nat.reduceLT, Nat.reduceEqDiff, nI_gt0, nI_le0]
    exact kk h' _ ⟨f.mono (fun a ha => Or.inl ha), rfl, ft⟩
noncomputable def pnum (b : Nat → Nat) (n p lo hi : Nat) : (Nat × Nat) ⊕ (Nat × Nat) := if tK b n p = 2 then (if tV b n p < lo ∨ hi < tV b n p then .inl (2, p) else .inr (tV b n p, tN b n p)) else .inl (1, p)
def PN (h0 h : sr_H) (I : Nat) (b : Nat → Nat) (n : Nat) (y : V) (p : Nat) (o : (Nat × Nat) ⊕ (Nat × Nat)) (r : Int32) : Prop := Fr h0 h (fun a => a = 1 ∨ a = 2) ∧ match o with
  | .inl e => r = nI 0 ∧ FT h e
  | .inr a => r = nI 1 ∧ PI h I b n y a.2 ∧ fI h 1 4 = nI a.1 ∧ fI h 1 5 = nI p
set_option maxHeartbeats 4000000 in
set_option maxRecDepth 100000 in
theorem m_takeNumber {d I n p lo hi : Nat} {b : Nat → Nat} {y : V} {h : sr_H} {Q : sr_T} (hI' : IOK I) (hb : Wb b n) (hp : p ≤ n) (s : PI h I b n y p) (h1 : lo ≤ 99999) (h2 : hi ≤ 99999) (kk : ∀ h' r, PN h h' I b n y p (pnum b n p lo hi) r → Q (some (.int r)) h') : sr_M (d + 11) 46 [.ref 1, .int (nI lo), .int (nI hi)] h Q := by
  have w1 := s.1.1
  have w2 := s.1.2.1
  have e5 := s.2.1.2.2.1
  have e7 := s.2.1.2.2.2.1
  have hK : tK b n p ≤ 40 := (lex_sp hp).1
  have bn := hb.1
  unfold pnum at kk
  by_cases q : tK b n p = 2
  · obtain ⟨vc, v1, v2, v3⟩ := s.2.1.2.2.2.2.1 q
    rw [if_pos q] at kk
    have bad : tV b n p < lo ∨ hi < tV b n p → sr_W (d + 10) 46002 [.ref 1, sr_U, sr_U] [] h Q := by
      intro z
      rw [if_pos z] at kk
      rw [lb_46002]
      simp (disch := first | assumption | omega) only [Nat.reduceAdd, Nat.reduceLeDiff, Nat.zero_le, true_and, and_true, ↓reduceIte, wB_const, wB_lconst, wB_ldc, wB_getstatic, wB_dupi, wB_dupr, wB_dup2, wB_popi, wB_iadd, wB_isub, wB_imul, wB_iand, wB_ior, wB_ixor, wB_ishl, wB_ishr, wB_iushr, wB_ineg, wB_ladd, wB_lsub, wB_lmul, wB_land, wB_lneg, wB_i2l, wB_l2i, wB_lcmp, wB_idiv, wB_irem, wB_ldiv, wB_lrem, wB_goto, wB_nop, wB_ifeq, wB_ifne, wB_iflt, wB_ifge, wB_ifgt, wB_ifle, wB_icmpeq, wB_icmpne, wB_icmplt, wB_icmpge, wB_icmpgt, wB_icmple, wB_table, wB_lookup, wB_ireturn, wB_zreturn, wB_lreturn, wB_areturn, wB_return, wB_getf, wB_putf, wB_iald, wB_bald, wB_lald, wB_iast, wB_bast, wB_last, wB_min, wB_max, wB_abs, wB_minl, wB_maxl, wB_absl, wB_obj, wB_copy, wB_charAt, wB_strlen, sr_k1i, sr_k1r, sr_k1U, sr_k1l, sr_ms1, sr_ms0, sr_msn, sr_cs1, sr_csm1, sr_csm2, sr_cl1, sr_cl2, sr_szi, sr_szr, sr_szl, sr_szn, sr_tls, sr_tln, wB_il0, wB_ll0, wB_al0, wB_is0, wB_as0, wB_inc0, wB_ls0, wB_il1, wB_ll1, wB_al1, wB_is1, wB_as1, wB_inc1, wB_ls1, wB_il2, wB_ll2, wB_al2, wB_is2, wB_as2, wB_inc2, wB_ls2, wB_il3, wB_ll3, wB_al3, wB_is3, wB_as3, wB_inc3, wB_ls3, wB_il4, wB_ll4, wB_al4, wB_is4, wB_as4, wB_inc4, wB_ls4, wB_il5, wB_ll5, wB_al5, wB_is5, wB_as5, wB_inc5, wB_ls5, wB_il6, wB_ll6, wB_al6, wB_is6, wB_as6, wB_inc6, wB_ls6, wB_il7, wB_ll7, wB_al7, wB_is7, wB_as7, wB_inc7, wB_ls7, lb_46001, cl_43, cl_66, obj_3, obj_4, fld_3_2, fld_4_5, fld_4_6, fld_3_4, fld_4_7, fld_3_5, nI_clamp, inb_nI, nI_leI, nI_ltI, nI_eq, nI_z, nI_ge0, nI_lt0, nI_add, n00, n11, n01, n10, true_or, or_true, not_true_eq_false, not_false_eq_true, bI_0, bI_z, Nat.le_refl, Nat.lt_irrefl, Nat.reduceLT, Nat.reduceEqDiff, nI_gt0, nI_le0]
      refine m_refuse (d := d + 9) s (fun h' f ft => ?_)
      simp (disch := first | assumption | omega) only [Nat.reduceAdd, Nat.reduceLeDiff, Nat.zero_le, true_and, and_true, ↓reduceIte, wB_const, wB_lconst, wB_ldc, wB_getstatic, wB_dupi, wB_dupr, wB_dup2, wB_popi, wB_iadd, wB_isub, wB_imul, wB_iand, wB_ior, wB_ixor, wB_ishl, wB_ishr, wB_iushr, wB_ineg, wB_ladd, wB_lsub, wB_lmul, wB_land, wB_lneg, wB_i2l, wB_l2i, wB_lcmp, wB_idiv, wB_irem, wB_ldiv, wB_lrem, wB_goto, wB_nop, wB_ifeq, wB_ifne, wB_iflt, wB_ifge, wB_ifgt, wB_ifle, wB_icmpeq, wB_icmpne, wB_icmplt, wB_icmpge, wB_icmpgt, wB_icmple, wB_table, wB_lookup, wB_ireturn, wB_zreturn, wB_lreturn, wB_areturn, wB_return, wB_getf, wB_putf, wB_iald, wB_bald, wB_lald, wB_iast, wB_bast, wB_last, wB_min, wB_max, wB_abs, wB_minl, wB_maxl, wB_absl, wB_obj, wB_copy, wB_charAt, wB_strlen, sr_k1i, sr_k1r, sr_k1U, sr_k1l, sr_ms1, sr_ms0, sr_msn, sr_cs1, sr_csm1, sr_csm2, sr_cl1, sr_cl2, sr_szi, sr_szr, sr_szl, sr_szn, sr_tls, sr_tln, wB_il0, wB_ll0, wB_al0, wB_is0, wB_as0, wB_inc0, wB_ls0, wB_il1, wB_ll1, wB_al1, wB_is1, wB_as1, wB_inc1, wB_ls1, wB_il2, wB_ll2, wB_al2, wB_is2, wB_as2, wB_inc2, wB_ls2, wB_il3, wB_ll3, wB_al3, wB_is3, wB_as3, wB_inc3, wB_ls3, wB_il4, wB_ll4, wB_al4, wB_is4, wB_as4, wB_inc4, wB_ls4, wB_il5, wB_ll5, wB_al5, wB_is5, wB_as5, wB_inc5, wB_ls5, wB_il6, wB_ll6, wB_al6, wB_is6, wB_as6, wB_inc6, wB_ls6, wB_il7, wB_ll7, wB_al7, wB_is7, wB_as7, wB_inc7, wB_ls7, lb_46001, cl_43, cl_66, obj_3, obj_4, fld_3_2, fld_4_5, fld_4_6, fld_3_4, fld_4_7, fld_3_5, nI_clamp, inb_nI, nI_leI, nI_ltI, nI_eq, nI_z, nI_ge0, nI_lt0, nI_add, n00, n11, n01, n10, true_or, or_true, not_true_eq_false, not_false_eq_true, bI_0, bI_z, Nat.le_refl, Nat.lt_irrefl, Nat.reduceLT, Nat.reduceEqDiff, nI_gt0, nI_le0]
      exact kk h' _ ⟨f.mono (fun a ha => Or.inl ha), rfl, ft⟩
    by_cases q1 : vc < lo
    · simp (disch := first | assumption | omega) only [Nat.reduceAdd, Nat.reduceLeDiff, Nat.zero_le, true_and, and_true, ↓reduceIte, wB_const, wB_lconst, wB_ldc, wB_getstatic, wB_dupi, wB_dupr, wB_dup2, wB_popi, wB_iadd, wB_isub, wB_imul, wB_iand, wB_ior, wB_ixor, wB_ishl, wB_ishr, wB_iushr, wB_ineg, wB_ladd, wB_lsub, wB_lmul, wB_land, wB_lneg, wB_i2l, wB_l2i, wB_lcmp, wB_idiv, wB_irem, wB_ldiv, wB_lrem, wB_goto, wB_nop, wB_ifeq, wB_ifne, wB_iflt, wB_ifge, wB_ifgt, wB_ifle, wB_icmpeq, wB_icmpne, wB_icmplt, wB_icmpge, wB_icmpgt, wB_icmple, wB_table, wB_lookup, wB_ireturn, wB_zreturn, wB_lreturn, wB_areturn, wB_return, wB_getf, wB_putf, wB_iald, wB_bald, wB_lald, wB_iast, wB_bast, wB_last, wB_min, wB_max, wB_abs, wB_minl, wB_maxl, wB_absl, wB_obj, wB_copy, wB_charAt, wB_strlen, sr_k1i, sr_k1r, sr_k1U, sr_k1l, sr_ms1, sr_ms0, sr_msn, sr_cs1, sr_csm1, sr_csm2, sr_cl1, sr_cl2, sr_szi, sr_szr, sr_szl, sr_szn, sr_tls, sr_tln, wB_il0, wB_ll0, wB_al0, wB_is0, wB_as0, wB_inc0, wB_ls0, wB_il1, wB_ll1, wB_al1, wB_is1, wB_as1, wB_inc1, wB_ls1, wB_il2, wB_ll2, wB_al2, wB_is2, wB_as2, wB_inc2, wB_ls2, wB_il3, wB_ll3, wB_al3, wB_is3, wB_as3, wB_inc3, wB_ls3, wB_il4, wB_ll4, wB_al4, wB_is4, wB_as4, wB_inc4, wB_ls4, wB_il5, wB_ll5, wB_al5, wB_is5, wB_as5, wB_inc5, wB_ls5, wB_il6, wB_ll6, wB_al6, wB_is6, wB_as6, wB_inc6, wB_ls6, wB_il7, wB_ll7, wB_al7, wB_is7, wB_as7, wB_inc7, wB_ls7, lb_46001, cl_43, cl_66, obj_3, obj_4, fld_3_2, fld_4_5, fld_4_6, fld_3_4, fld_4_7, fld_3_5, nI_clamp, inb_nI, nI_leI, nI_ltI, nI_eq, nI_z, nI_ge0, nI_lt0, nI_add, n00, n11, n01, n10, true_or, or_true, not_true_eq_false, not_false_eq_true, bI_0, bI_z, Nat.le_refl, Nat.lt_irrefl, Nat.reduceLT, Nat.reduceEqDiff, nI_gt0, nI_le0, en_46, w1, w2, e5, q, v2, q1]
      have z := bad (Or.inl (by omega))
      rw [lb_46002] at z ⊢
      exact z
    · by_cases q2 : vc ≤ hi
      · have ev : tV b n p = vc := by omega
        have hv : ¬ (tV b n p < lo ∨ hi < tV b n p) := by omega
        rw [if_neg hv] at kk
        simp (disch := first | assumption | omega) only [Nat.reduceAdd, Nat.reduceLeDiff, Nat.zero_le, true_and, and_true, ↓reduceIte, wB_const, wB_lconst, wB_ldc, wB_getstatic, wB_dupi, wB_dupr, wB_dup2, wB_popi, wB_iadd, wB_isub, wB_imul, wB_iand, wB_ior, wB_ixor, wB_ishl, wB_ishr, wB_iushr, wB_ineg, wB_ladd, wB_lsub, wB_lmul, wB_land, wB_lneg, wB_i2l, wB_l2i, wB_lcmp, wB_idiv, wB_irem, wB_ldiv, wB_lrem, wB_goto, wB_nop, wB_ifeq, wB_ifne, wB_iflt, wB_ifge, wB_ifgt, wB_ifle, wB_icmpeq, wB_icmpne, wB_icmplt, wB_icmpge, wB_icmpgt, wB_icmple, wB_table, wB_lookup, wB_ireturn, wB_zreturn, wB_lreturn, wB_areturn, wB_return, wB_getf, wB_putf, wB_iald, wB_bald, wB_lald, wB_iast, wB_bast, wB_last, wB_min, wB_max, wB_abs, wB_minl, wB_maxl, wB_absl, wB_obj, wB_copy, wB_charAt, wB_strlen, sr_k1i, sr_k1r, sr_k1U, sr_k1l, sr_ms1, sr_ms0, sr_msn, sr_cs1, sr_csm1, sr_csm2, sr_cl1, sr_cl2, sr_szi, sr_szr, sr_szl, sr_szn, sr_tls, sr_tln, wB_il0, wB_ll0, wB_al0, wB_is0, wB_as0, wB_inc0, wB_ls0, wB_il1, wB_ll1, wB_al1, wB_is1, wB_as1, wB_inc1, wB_ls1, wB_il2, wB_ll2, wB_al2, wB_is2, wB_as2, wB_inc2, wB_ls2, wB_il3, wB_ll3, wB_al3, wB_is3, wB_as3, wB_inc3, wB_ls3, wB_il4, wB_ll4, wB_al4, wB_is4, wB_as4, wB_inc4, wB_ls4, wB_il5, wB_ll5, wB_al5, wB_is5, wB_as5, wB_inc5, wB_ls5, wB_il6, wB_ll6, wB_al6, wB_is6, wB_as6, wB_inc6, wB_ls6, wB_il7, wB_ll7, wB_al7, wB_is7, wB_as7, wB_inc7, wB_ls7, lb_46001, cl_43, cl_66, obj_3, obj_4, fld_3_2, fld_4_5, fld_4_6, fld_3_4, fld_4_7, fld_3_5, nI_clamp, inb_nI, nI_leI, nI_ltI, nI_eq, nI_z, nI_ge0, nI_lt0, nI_add, n00, n11, n01, n10, true_or, or_true, not_true_eq_false, not_false_eq_true, bI_0, bI_z, Nat.le_refl, Nat.lt_irrefl, Nat.reduceLT, Nat.reduceEqDiff, nI_gt0, nI_le0, en_46, w1, w2, e5, q, v2, q1, q2]
        rw [lb_46003]
        simp (disch := first | assumption | omega | (simp (disch := assumption) only [sr_szn, sr_szi, sr_szr, sr_szl, Nat.reduceAdd, Nat.reduceLeDiff, Nat.zero_le, Nat.le_refl, isA_sI, isA_sJ, isA_sC, isA_sF, isI_sI, isI_sJ, isI_sC, isI_sF, isJ_sI, isJ_sJ, isJ_sC, isJ_sF, oK_sI, oK_sJ, oK_sC, oK_sF, lI_sI, lI_sJ, lI_sC, lI_sF, oC_sI, oC_sJ, oC_sC, oC_sF, obj_3, obj_4, fld_3_2, fld_4_5, fld_4_6, fld_3_4, fld_4_7, fld_3_5])) only [Nat.reduceAdd, Nat.reduceLeDiff, Nat.zero_le, true_and, and_true, ↓reduceIte, wB_const, wB_lconst, wB_ldc, wB_getstatic, wB_dupi, wB_dupr, wB_dup2, wB_popi, wB_iadd, wB_isub, wB_imul, wB_iand, wB_ior, wB_ixor, wB_ishl, wB_ishr, wB_iushr, wB_ineg, wB_ladd, wB_lsub, wB_lmul, wB_land, wB_lneg, wB_i2l, wB_l2i, wB_lcmp, wB_idiv, wB_irem, wB_ldiv, wB_lrem, wB_goto, wB_nop, wB_ifeq, wB_ifne, wB_iflt, wB_ifge, wB_ifgt, wB_ifle, wB_icmpeq, wB_icmpne, wB_icmplt, wB_icmpge, wB_icmpgt, wB_icmple, wB_table, wB_lookup, wB_ireturn, wB_zreturn, wB_lreturn, wB_areturn, wB_return, wB_getf, wB_putf, wB_iald, wB_bald, wB_lald, wB_iast, wB_bast, wB_last, wB_min, wB_max, wB_abs, wB_minl, wB_maxl, wB_absl, wB_obj, wB_copy, wB_charAt, wB_strlen, sr_k1i, sr_k1r, sr_k1U, sr_k1l, sr_ms1, sr_ms0, sr_msn, sr_cs1, sr_csm1, sr_csm2, sr_cl1, sr_cl2, sr_szi, sr_szr, sr_szl, sr_szn, sr_tls, sr_tln, wB_il0, wB_ll0, wB_al0, wB_is0, wB_as0, wB_inc0, wB_ls0, wB_il1, wB_ll1, wB_al1, wB_is1, wB_as1, wB_inc1, wB_ls1, wB_il2, wB_ll2, wB_al2, wB_is2, wB_as2, wB_inc2, wB_ls2, wB_il3, wB_ll3, wB_al3, wB_is3, wB_as3, wB_inc3, wB_ls3, wB_il4, wB_ll4, wB_al4, wB_is4, wB_as4, wB_inc4, wB_ls4, wB_il5, wB_ll5, wB_al5, wB_is5, wB_as5, wB_inc5, wB_ls5, wB_il6, wB_ll6, wB_al6, wB_is6, wB_as6, wB_inc6, wB_ls6, wB_il7, wB_ll7, wB_al7, wB_is7, wB_as7, wB_inc7, wB_ls7, lb_46001, cl_43, cl_66, obj_3, obj_4, fld_3_2, fld_4_5, fld_4_6, fld_3_4, fld_4_7, fld_3_5, nI_clamp, inb_nI, nI_leI, nI_ltI, nI_eq, nI_z, nI_ge0, nI_lt0, nI_add, n00, n11, n01, n10, true_or, or_true, not_true_eq_false, not_false_eq_true, bI_0, bI_z, Nat.le_refl, Nat.lt_irrefl, Nat.reduceLT, Nat.reduceEqDiff, nI_gt0, nI_le0, w1, w2, v2, e7, lI_sI, lI_sJ, lI_sC, lI_sF, lZ_sI, lZ_sJ, lZ_sC, lZ_sF, lJ_sI, lJ_sJ, lJ_sC, lJ_sF, oC_sI, oC_sJ, oC_sC, oC_sF, oF_sI, oF_sJ, oF_sC, oF_sF, sI_1, sJ_1, sF_1, sC_1, sr_okI, sr_okJ, sr_okR, sr_okZ, hI_sJ, hI_sF, hJ_sI, hJ_sF, hJ_sC, hF_sI, hF_sJ, hF_sC, fI_sI, fI_sJ, fI_sC, fJ_sI, fJ_sJ, fJ_sC, hI_n, hI_y, hJ_n, hJ_y, hF_n, hF_y, fI_n, fI_y, fJ_n, fJ_y, hI_c]
        have f1 := Fr_sF (h := h) (v := .int (nI vc)) (P := fun a => a = 1 ∨ a = 2) Fr.rf (erI (fld_3_4 w1).2) (Or.inl rfl)
        have f2 := Fr_sF (v := .int (nI p)) f1 (erI (fld_3_5 (w1.ss f1.1)).2) (Or.inl rfl)
        have ne2 : ∀ k v, fI (sF (sF h 1 4 (.int (nI vc))) 1 5 v) 2 k = fI h 2 k := fun k v => by rw [fI_n (by omega), fI_n (by omega)]
        have s2 : PI (sF (sF h 1 4 (.int (nI vc))) 1 5 (.int (nI p))) I b n y p := by
          refine PI_12 hI' s f2 ⟨fun i hi => ?_, ?_, fun w hw => ?_⟩ ?_ ⟨?_, ?_, fun z => ?_, fun z => ?_⟩ ⟨by rw [fI_n (by omega), fI_n (by omega)]; exact s.2.1.2.2.2.2.2.2.1, by rw [fI_n (by omega), fI_n (by omega)]; exact s.2.1.2.2.2.2.2.2.2⟩
          · rw [hI_sF, hI_sF]; exact s.2.1.1.1 i hi
          · rw [ne2]; exact s.2.1.1.2.1
          · rw [hI_sF, hI_sF]; exact s.2.1.1.2.2 w hw
          · rw [ne2]; exact s.2.1.2.1
          · rw [ne2]; exact s.2.1.2.2.1
          · rw [ne2]; exact s.2.1.2.2.2.1
          · rw [ne2]; exact s.2.1.2.2.2.2.1 z
          · rw [ne2]; exact s.2.1.2.2.2.2.2.1 z
        refine m_nextP (d := d) hI' hb hp s2 (fun h' rr s' => ?_)
        simp (disch := first | assumption | omega) only [Nat.reduceAdd, Nat.reduceLeDiff, Nat.zero_le, true_and, and_true, ↓reduceIte, wB_const, wB_lconst, wB_ldc, wB_getstatic, wB_dupi, wB_dupr, wB_dup2, wB_popi, wB_iadd, wB_isub, wB_imul, wB_iand, wB_ior, wB_ixor, wB_ishl, wB_ishr, wB_iushr, wB_ineg, wB_ladd, wB_lsub, wB_lmul, wB_land, wB_lneg, wB_i2l, wB_l2i, wB_lcmp, wB_idiv, wB_irem, wB_ldiv, wB_lrem, wB_goto, wB_nop, wB_ifeq, wB_ifne, wB_iflt, wB_ifge, wB_ifgt, wB_ifle, wB_icmpeq, wB_icmpne, wB_icmplt, wB_icmpge, wB_icmpgt, wB_icmple, wB_table, wB_lookup, wB_ireturn, wB_zreturn, wB_lreturn, wB_areturn, wB_return, wB_getf, wB_putf, wB_iald, wB_bald, wB_lald, wB_iast, wB_bast, wB_last, wB_min, wB_max, wB_abs, wB_minl, wB_maxl, wB_absl, wB_obj, wB_copy, wB_charAt, wB_strlen, sr_k1i, sr_k1r, sr_k1U, sr_k1l, sr_ms1, sr_ms0, sr_msn, sr_cs1, sr_csm1, sr_csm2, sr_cl1, sr_cl2, sr_szi, sr_szr, sr_szl, sr_szn, sr_tls, sr_tln, wB_il0, wB_ll0, wB_al0, wB_is0, wB_as0, wB_inc0, wB_ls0, wB_il1, wB_ll1, wB_al1, wB_is1, wB_as1, wB_inc1, wB_ls1, wB_il2, wB_ll2, wB_al2, wB_is2, wB_as2, wB_inc2, wB_ls2, wB_il3, wB_ll3, wB_al3, wB_is3, wB_as3, wB_inc3, wB_ls3, wB_il4, wB_ll4, wB_al4, wB_is4, wB_as4, wB_inc4, wB_ls4, wB_il5, wB_ll5, wB_al5, wB_is5, wB_as5, wB_inc5, wB_ls5, wB_il6, wB_ll6, wB_al6, wB_is6, wB_as6, wB_inc6, wB_ls6, wB_il7, wB_ll7, wB_al7, wB_is7, wB_as7, wB_inc7, wB_ls7, lb_46001, cl_43, cl_66, obj_3, obj_4, fld_3_2, fld_4_5, fld_4_6, fld_3_4, fld_4_7, fld_3_5, nI_clamp, inb_nI, nI_leI, nI_ltI, nI_eq, nI_z, nI_ge0, nI_lt0, nI_add, n00, n11, n01, n10, true_or, or_true, not_true_eq_false, not_false_eq_true, bI_0, bI_z, Nat.le_refl, Nat.lt_irrefl, Nat.reduceLT, Nat.reduceEqDiff, nI_gt0, nI_le0]
        refine kk h' _ ⟨f2.tr (rr.1.mono (fun a ha => Or.inr ha)), rfl, s', ?_, ?_⟩
        · rw [fI_of (rr.1.2 1 (by omega)), ev]
          simp (disch := first | assumption | omega | (simp (disch := assumption) only [sr_szn, sr_szi, sr_szr, sr_szl, Nat.reduceAdd, Nat.reduceLeDiff, Nat.zero_le, Nat.le_refl, isA_sI, isA_sJ, isA_sC, isA_sF, isI_sI, isI_sJ, isI_sC, isI_sF, isJ_sI, isJ_sJ, isJ_sC, isJ_sF, oK_sI, oK_sJ, oK_sC, oK_sF, lI_sI, lI_sJ, lI_sC, lI_sF, oC_sI, oC_sJ, oC_sC, oC_sF, obj_3, obj_4, fld_3_2, fld_4_5, fld_4_6, fld_3_4, fld_4_7, fld_3_5])) only [lI_sI, lI_sJ, lI_sC, lI_sF, lZ_sI, lZ_sJ, lZ_sC, lZ_sF, lJ_sI, lJ_sJ, lJ_sC, lJ_sF, oC_sI, oC_sJ, oC_sC, oC_sF, oF_sI, oF_sJ, oF_sC, oF_sF, sI_1, sJ_1, sF_1, sC_1, sr_okI, sr_okJ, sr_okR, sr_okZ, hI_sJ, hI_sF, hJ_sI, hJ_sF, hJ_sC, hF_sI, hF_sJ, hF_sC, fI_sI, fI_sJ, fI_sC, fJ_sI, fJ_sJ, fJ_sC, hI_n, hI_y, hJ_n, hJ_y, hF_n, hF_y, fI_n, fI_y, fJ_n, fJ_y, hI_c]
        · rw [fI_of (rr.1.2 1 (by omega))]
          simp (disch := first | assumption | omega | (simp (disch := assumption) only [sr_szn, sr_szi, sr_szr, sr_szl, Nat.reduceAdd, Nat.reduceLeDiff, Nat.zero_le, Nat.le_refl, isA_sI, isA_sJ, isA_sC, isA_sF, isI_sI, isI_sJ, isI_sC, isI_sF, isJ_sI, isJ_sJ, isJ_sC, isJ_sF, oK_sI, oK_sJ, oK_sC, oK_sF, lI_sI, lI_sJ, lI_sC, lI_sF, oC_sI, oC_sJ, oC_sC, oC_sF, obj_3, obj_4, fld_3_2, fld_4_5, fld_4_6, fld_3_4, fld_4_7, fld_3_5])) only [lI_sI, lI_sJ, lI_sC, lI_sF, lZ_sI, lZ_sJ, lZ_sC, lZ_sF, lJ_sI, lJ_sJ, lJ_sC, lJ_sF, oC_sI, oC_sJ, oC_sC, oC_sF, oF_sI, oF_sJ, oF_sC, oF_sF, sI_1, sJ_1, sF_1, sC_1, sr_okI, sr_okJ, sr_okR, sr_okZ, hI_sJ, hI_sF, hJ_sI, hJ_sF, hJ_sC, hF_sI, hF_sJ, hF_sC, fI_sI, fI_sJ, fI_sC, fJ_sI, fJ_sJ, fJ_sC, hI_n, hI_y, hJ_n, hJ_y, hF_n, hF_y, fI_n, fI_y, fJ_n, fJ_y, hI_c]
      · simp (disch := first | assumption | omega) only [Nat.reduceAdd, Nat.reduceLeDiff, Nat.zero_le, true_and, and_true, ↓reduceIte, wB_const, wB_lconst, wB_ldc, wB_getstatic, wB_dupi, wB_dupr, wB_dup2, wB_popi, wB_iadd, wB_isub, wB_imul, wB_iand, wB_ior, wB_ixor, wB_ishl, wB_ishr, wB_iushr, wB_ineg, wB_ladd, wB_lsub, wB_lmul, wB_land, wB_lneg, wB_i2l, wB_l2i, wB_lcmp, wB_idiv, wB_irem, wB_ldiv, wB_lrem, wB_goto, wB_nop, wB_ifeq, wB_ifne, wB_iflt, wB_ifge, wB_ifgt, wB_ifle, wB_icmpeq, wB_icmpne, wB_icmplt, wB_icmpge, wB_icmpgt, wB_icmple, wB_table, wB_lookup, wB_ireturn, wB_zreturn, wB_lreturn, wB_areturn, wB_return, wB_getf, wB_putf, wB_iald, wB_bald, wB_lald, wB_iast, wB_bast, wB_last, wB_min, wB_max, wB_abs, wB_minl, wB_maxl, wB_absl, wB_obj, wB_copy, wB_charAt, wB_strlen, sr_k1i, sr_k1r, sr_k1U, sr_k1l, sr_ms1, sr_ms0, sr_msn, sr_cs1, sr_csm1, sr_csm2, sr_cl1, sr_cl2, sr_szi, sr_szr, sr_szl, sr_szn, sr_tls, sr_tln, wB_il0, wB_ll0, wB_al0, wB_is0, wB_as0, wB_inc0, wB_ls0, wB_il1, wB_ll1, wB_al1, wB_is1, wB_as1, wB_inc1, wB_ls1, wB_il2, wB_ll2, wB_al2, wB_is2, wB_as2, wB_inc2, wB_ls2, wB_il3, wB_ll3, wB_al3, wB_is3, wB_as3, wB_inc3, wB_ls3, wB_il4, wB_ll4, wB_al4, wB_is4, wB_as4, wB_inc4, wB_ls4, wB_il5, wB_ll5, wB_al5, wB_is5, wB_as5, wB_inc5, wB_ls5, wB_il6, wB_ll6, wB_al6, wB_is6, wB_as6, wB_inc6, wB_ls6, wB_il7, wB_ll7, wB_al7, wB_is7, wB_as7, wB_inc7, wB_ls7, lb_46001, cl_43, cl_66, obj_3, obj_4, fld_3_2, fld_4_5, fld_4_6, fld_3_4, fld_4_7, fld_3_5, nI_clamp, inb_nI, nI_leI, nI_ltI, nI_eq, nI_z, nI_ge0, nI_lt0, nI_add, n00, n11, n01, n10, true_or, or_true, not_true_eq_false, not_false_eq_true, bI_0, bI_z, Nat.le_refl, Nat.lt_irrefl, Nat.reduceLT, Nat.reduceEqDiff, nI_gt0, nI_le0, en_46, w1, w2, e5, q, v2, q1, q2]
        have z := bad (Or.inr (by omega))
        rw [lb_46002] at z ⊢
        exact z
  · rw [if_neg q] at kk
    simp (disch := first | assumption | omega) only [Nat.reduceAdd, Nat.reduceLeDiff, Nat.zero_le, true_and, and_true, ↓reduceIte, wB_const, wB_lconst, wB_ldc, wB_getstatic, wB_dupi, wB_dupr, wB_dup2, wB_popi, wB_iadd, wB_isub, wB_imul, wB_iand, wB_ior, wB_ixor, wB_ishl, wB_ishr, wB_iushr, wB_ineg, wB_ladd, wB_lsub, wB_lmul, wB_land, wB_lneg, wB_i2l, wB_l2i, wB_lcmp, wB_idiv, wB_irem, wB_ldiv, wB_lrem, wB_goto, wB_nop, wB_ifeq, wB_ifne, wB_iflt, wB_ifge, wB_ifgt, wB_ifle, wB_icmpeq, wB_icmpne, wB_icmplt, wB_icmpge, wB_icmpgt, wB_icmple, wB_table, wB_lookup, wB_ireturn, wB_zreturn, wB_lreturn, wB_areturn, wB_return, wB_getf, wB_putf, wB_iald, wB_bald, wB_lald, wB_iast, wB_bast, wB_last, wB_min, wB_max, wB_abs, wB_minl, wB_maxl, wB_absl, wB_obj, wB_copy, wB_charAt, wB_strlen, sr_k1i, sr_k1r, sr_k1U, sr_k1l, sr_ms1, sr_ms0, sr_msn, sr_cs1, sr_csm1, sr_csm2, sr_cl1, sr_cl2, sr_szi, sr_szr, sr_szl, sr_szn, sr_tls, sr_tln, wB_il0, wB_ll0, wB_al0, wB_is0, wB_as0, wB_inc0, wB_ls0, wB_il1, wB_ll1, wB_al1, wB_is1, wB_as1, wB_inc1, wB_ls1, wB_il2, wB_ll2, wB_al2, wB_is2, wB_as2, wB_inc2, wB_ls2, wB_il3, wB_ll3, wB_al3, wB_is3, wB_as3, wB_inc3, wB_ls3, wB_il4, wB_ll4, wB_al4, wB_is4, wB_as4, wB_inc4, wB_ls4, wB_il5, wB_ll5, wB_al5, wB_is5, wB_as5, wB_inc5, wB_ls5, wB_il6, wB_ll6, wB_al6, wB_is6, wB_as6, wB_inc6, wB_ls6, wB_il7, wB_ll7, wB_al7, wB_is7, wB_as7, wB_inc7, wB_ls7, lb_46001, cl_43, cl_66, obj_3, obj_4, fld_3_2, fld_4_5, fld_4_6, fld_3_4, fld_4_7, fld_3_5, nI_clamp, inb_nI, nI_leI, nI_ltI, nI_eq, nI_z, nI_ge0, nI_lt0, nI_add, n00, n11, n01, n10, true_or, or_true, not_true_eq_false, not_false_eq_true, bI_0, bI_z, Nat.le_refl, Nat.lt_irrefl, Nat.reduceLT, Nat.reduceEqDiff, nI_gt0, nI_le0, en_46, w1, w2, e5, q]
    refine m_refuse (d := d + 9) s (fun h' f ft => ?_)
    simp (disch := first | assumption | omega) only [Nat.reduceAdd, Nat.reduceLeDiff, Nat.zero_le, true_and, and_true, ↓reduceIte, wB_const, wB_lconst, wB_ldc, wB_getstatic, wB_dupi, wB_dupr, wB_dup2, wB_popi, wB_iadd, wB_isub, wB_imul, wB_iand, wB_ior, wB_ixor, wB_ishl, wB_ishr, wB_iushr, wB_ineg, wB_ladd, wB_lsub, wB_lmul, wB_land, wB_lneg, wB_i2l, wB_l2i, wB_lcmp, wB_idiv, wB_irem, wB_ldiv, wB_lrem, wB_goto, wB_nop, wB_ifeq, wB_ifne, wB_iflt, wB_ifge, wB_ifgt, wB_ifle, wB_icmpeq, wB_icmpne, wB_icmplt, wB_icmpge, wB_icmpgt, wB_icmple, wB_table, wB_lookup, wB_ireturn, wB_zreturn, wB_lreturn, wB_areturn, wB_return, wB_getf, wB_putf, wB_iald, wB_bald, wB_lald, wB_iast, wB_bast, wB_last, wB_min, wB_max, wB_abs, wB_minl, wB_maxl, wB_absl, wB_obj, wB_copy, wB_charAt, wB_strlen, sr_k1i, sr_k1r, sr_k1U, sr_k1l, sr_ms1, sr_ms0, sr_msn, sr_cs1, sr_csm1, sr_csm2, sr_cl1, sr_cl2, sr_szi, sr_szr, sr_szl, sr_szn, sr_tls, sr_tln, wB_il0, wB_ll0, wB_al0, wB_is0, wB_as0, wB_inc0, wB_ls0, wB_il1, wB_ll1, wB_al1, wB_is1, wB_as1, wB_inc1, wB_ls1, wB_il2, wB_ll2, wB_al2, wB_is2, wB_as2, wB_inc2, wB_ls2, wB_il3, wB_ll3, wB_al3, wB_is3, wB_as3, wB_inc3, wB_ls3, wB_il4, wB_ll4, wB_al4, wB_is4, wB_as4, wB_inc4, wB_ls4, wB_il5, wB_ll5, wB_al5, wB_is5, wB_as5, wB_inc5, wB_ls5, wB_il6, wB_ll6, wB_al6, wB_is6, wB_as6, wB_inc6, wB_ls6, wB_il7, wB_ll7, wB_al7, wB_is7, wB_as7, wB_inc7, wB_ls7, lb_46001, cl_43, cl_66, obj_3, obj_4, fld_3_2, fld_4_5, fld_4_6, fld_3_4, fld_4_7, fld_3_5, nI_clamp, inb_nI, nI_leI, nI_ltI, nI_eq, nI_z, nI_ge0, nI_lt0, nI_add, n00, n11, n01, n10, true_or, or_true, not_true_eq_false, not_false_eq_true, bI_0, bI_z, Nat.le_refl, Nat.lt_irrefl, Nat.reduceLT, Nat.reduceEqDiff, nI_gt0, nI_le0]
    exact kk h' _ ⟨f.mono (fun a ha => Or.inl ha), rfl, ft⟩
