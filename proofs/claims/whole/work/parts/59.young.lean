/-! Ways: by what each step adds to the age. -/
/-- k cells are settled -/
def DI (x : V) (s : Nat) (f st : Nat → Nat) (k : Nat) : Prop := f s = 0 ∧ (∀ j, f j ≤ 1000000) ∧ (∀ j, f j < 1000000 → (j < 64 ∧ inr x j) ∧ f j ≤ 3 * k) ∧ (∀ j, st j ≤ 1) ∧ (∀ j, 64 ≤ j → st j = 0) ∧ sm st 64 = k ∧ (∀ a, st a = 1 → f a < 1000000) ∧ (∀ a b, st a = 1 → st b = 0 → f a ≤ f b) ∧ ∀ j, f j < 1000000 → ∃ m, rch (eg x) (gY x) s m j (f j)
/-- all that is settled is gone on from, but c, of which w ways are -/
def DW (x : V) (f st : Nat → Nat) (c w : Nat) : Prop := st c = 1 ∧ (∀ a, st a = 1 → f a ≤ f c) ∧ (∀ a b, st a = 1 → ¬ a = c → eg x a b → f b ≤ f a + gY x a b) ∧ ∀ w', w' < w → ∀ b, bynd x (c / 8) (c % 8) w' = b + 1 → f b ≤ f c + gY x c b
def DA (x : V) (f st : Nat → Nat) : Prop := ∀ a b, st a = 1 → eg x a b → f b ≤ f a + gY x a b
theorem gY_lt {x : V} {a b : Nat} : gY x a b ≤ 3 := by
  unfold gY
  omega
theorem DI_up {x : V} {s k c w b : Nat} {f st : Nat → Nat} (hx : Wx x) (hw : w < 4) (d : DI x s f st k) (e : DW x f st c w) (fk : f c + 3 ≤ 3 * k) (hb : bynd x (c / 8) (c % 8) w = b + 1) : DI x s (up f b (min (f b) (f c + gY x c b))) st k ∧ DW x (up f b (min (f b) (f c + gY x c b))) st c (w + 1) ∧ up f b (min (f b) (f c + gY x c b)) c = f c := by
  obtain ⟨d1, d2, d3, d4, d5, d6, d7, d8, d9⟩ := d
  obtain ⟨e1, e2, e3, e4⟩ := e
  obtain ⟨k1, k2⟩ := bynd_in hx hb
  have hg := gY_lt (x := x) (a := c) (b := b)
  have hcf := d7 c e1
  have hle : ∀ j, up f b (min (f b) (f c + gY x c b)) j ≤ f j := fun j => by
    by_cases z : j = b
    · rw [z, up_y]; omega
    · rw [up_n z]; exact Nat.le_refl _
  have hst : ∀ a, st a = 1 → up f b (min (f b) (f c + gY x c b)) a = f a := fun a ha => by
    by_cases z : a = b
    · subst z
      rw [up_y]
      have := e2 a ha
      omega
    · exact up_n z
  have hge : ∀ j, st j = 0 → f c ≤ up f b (min (f b) (f c + gY x c b)) j := fun j hj => by
    have h1 := d8 c j e1 hj
    by_cases z : j = b
    · subst z
      rw [up_y]; omega
    · rw [up_n z]; exact h1
  refine ⟨⟨?_, fun j => ?_, fun j hj => ?_, d4, d5, d6, fun a ha => ?_, fun a j ha hj => ?_, fun j hj => ?_⟩, ⟨e1, fun a ha => ?_, fun a j ha hac he => ?_, fun w' hw' j hj => ?_⟩, hst c e1⟩
  · have := hle s
    omega
  · have := hle j
    have := d2 j
    omega
  · by_cases z : j = b
    · subst z
      rw [up_y]
      exact ⟨⟨k1, k2⟩, by omega⟩
    · rw [up_n z] at hj ⊢
      exact d3 j hj
  · rw [hst a ha]; exact d7 a ha
  · rw [hst a ha]
    have := e2 a ha
    have := hge j hj
    omega
  · by_cases z : j = b
    · subst z
      rw [up_y]
      by_cases y : f j ≤ f c + gY x c j
      · rw [Nat.min_eq_left y]
        rw [up_y, Nat.min_eq_left y] at hj
        exact d9 j hj
      · rw [Nat.min_eq_right (by omega)]
        obtain ⟨m, hm⟩ := d9 c hcf
        exact ⟨m + 1, c, f c, hm, ⟨w, hw, hb⟩, rfl⟩
    · rw [up_n z] at hj ⊢
      exact d9 j hj
  · rw [hst a ha, hst c e1]; exact e2 a ha
  · rw [hst a ha]
    have := hle j
    have := e3 a j ha hac he
    omega
  · rw [hst c e1]
    by_cases z : w' = w
    · subst z
      have : j = b := by omega
      subst this
      rw [up_y]; omega
    · have := hle j
      have := e4 w' (by omega) j hj
      omega
theorem DW_nx {x : V} {c w : Nat} {f st : Nat → Nat} (e : DW x f st c w) (h : bynd x (c / 8) (c % 8) w = 0) : DW x f st c (w + 1) := by
  refine ⟨e.1, e.2.1, e.2.2.1, fun w' hw' b hb => ?_⟩
  by_cases z : w' = w
  · subst z; omega
  · exact e.2.2.2 w' (by omega) b hb
theorem sm_up {f : Nat → Nat} {k : Nat} (hk : f k = 0) : ∀ n, sm (up f k 1) n = sm f n + if k < n then 1 else 0
  | 0 => by simp [sm]
  | n + 1 => by
    have ih := sm_up hk n
    have e1 : sm (up f k 1) (n + 1) = sm (up f k 1) n + up f k 1 n := rfl
    have e2 : sm f (n + 1) = sm f n + f n := rfl
    rw [e1, e2, ih]
    by_cases q : n = k
    · subst q
      rw [up_y, hk, if_neg (by omega), if_pos (by omega)]
    · rw [up_n q]
      by_cases z : k < n
      · rw [if_pos z, if_pos (by omega)]
        omega
      · rw [if_neg z, if_neg (by omega)]
        omega
theorem sm_all {f : Nat → Nat} (h : ∀ j, f j ≤ 1) : ∀ n, sm f n = n → ∀ j, j < n → f j = 1
  | 0, _, j, hj => by omega
  | n + 1, hs, j, hj => by
    have h1 := sm_le (b := 1) h n
    have h2 := h n
    have e2 : sm f (n + 1) = sm f n + f n := rfl
    by_cases q : j = n
    · subst q; omega
    · exact sm_all h n (by omega) j (by omega)
theorem DI_set {x : V} {s k c : Nat} {f st : Nat → Nat} (d : DI x s f st k) (da : DA x f st) (c64 : c < 64) (hc : st c = 0) (hf : f c < 1000000) (hl : ∀ j, j < 64 → st j = 0 → f c ≤ f j) : DI x s f (up st c 1) (k + 1) ∧ DW x f (up st c 1) c 0 := by
  obtain ⟨d1, d2, d3, d4, d5, d6, d7, d8, d9⟩ := d
  have hs := sm_up (f := st) (k := c) hc 64
  rw [if_pos c64, d6] at hs
  have hl' : ∀ j, st j = 0 → f c ≤ f j := fun j hj => by
    by_cases z : j < 64
    · exact hl j z hj
    · have h1 := d2 j
      have h2 : ¬ f j < 1000000 := fun y => z (d3 j y).1.1
      omega
  refine ⟨⟨d1, d2, fun j hj => ⟨(d3 j hj).1, by have := (d3 j hj).2; omega⟩, fun j => ?_, fun j hj => ?_, hs, fun a ha => ?_, fun a b ha hb => ?_, d9⟩, up_y, fun a ha => ?_, fun a b ha hac he => ?_, fun w' hw' => by omega⟩
  · by_cases z : j = c
    · rw [z, up_y]; exact Nat.le_refl _
    · rw [up_n z]; exact d4 j
  · rw [up_n (by omega)]; exact d5 j hj
  · by_cases z : a = c
    · rw [z]; exact hf
    · rw [up_n z] at ha; exact d7 a ha
  · have zb : ¬ b = c := fun z => by rw [z, up_y] at hb; omega
    rw [up_n zb] at hb
    by_cases z : a = c
    · rw [z]; exact hl' b hb
    · rw [up_n z] at ha; exact d8 a b ha hb
  · by_cases z : a = c
    · rw [z]; exact Nat.le_refl _
    · rw [up_n z] at ha; exact d8 a c ha hc
  · rw [up_n hac] at ha
    exact da a b ha he
def DH (h0 h : sr_H) (L : Nat) (f st : Nat → Nat) : Prop := Fr h0 h (PW L) ∧ AR h L f ∧ AR h 133 st
theorem turn_n : ∀ a, a < 5 → ∀ b, b < 5 → (nI a - nI b) &&& nI 3 = nI ((a + 8 - b) % 4) := by decide +kernel
theorem min_m {a b : Nat} : (if b < a then nI b else nI a) = nI (min a b) := by
  by_cases h : b < a
  · rw [if_pos h, Nat.min_eq_right (by omega)]
  · rw [if_neg h, Nat.min_eq_left (by omega)]
set_option maxHeartbeats 4000000 in
set_option maxRecDepth 100000 in
theorem yg_way {d S L s c w k : Nat} {h0 h : sr_H} {Q : sr_T} {x : V} {f st : Nat → Nat} (w0 : Wys h0) (ws0 : Scr h0 S) (hS : S + 9 < 130) (hL : L = 130 ∨ L = 131) (hm : h0.1.1 ≤ 1000) (hx : Wx x) (rp0 : SC h0 S x) (kc0 : KC h0 S x) (hw : w < 4) (hk : k ≤ 64) (dh : DH h0 h L f st) (b : DI x s f st k) (c' : DW x f st c w) (fk : f c + 3 ≤ 3 * k) {v4 : Int32} (next : ∀ f' h', DH h0 h' L f' st → DI x s f' st k → DW x f' st c (w + 1) → f' c = f c → sr_W (d + 8) 123003 [.ref 129, .ref S, sr_U, .ref L, .int v4, .int (nI c), .int (nI (w + 1)), sr_U, sr_U] [] h' Q) : sr_W (d + 8) 123003 [.ref 129, .ref S, sr_U, .ref L, .int v4, .int (nI c), .int (nI w), sr_U, sr_U] [] h Q := by
  obtain ⟨f1, a1, l1⟩ := dh
  have w1 := w0.ss f1.1
  have ws1 := ws0.ss f1.1
  obtain ⟨la, lb, lc, ld⟩ := Wl w1 hL
  have rp1 : SC h S x := SC_of rp0 (fun k hk => fI_of (f1.2 _ (by unfold PW; omega))) (fun j h1 h2 => f1.2 _ (by unfold PW; omega))
  have kc1 : KC h S x := KC_of kc0 (fI_of (f1.2 _ (by unfold PW; omega))) (fun j h1 h2 => f1.2 _ (by unfold PW; omega))
  have hm1 : h.1.1 ≤ 1000 := by rw [f1.1.1]; exact hm
  have cf := b.2.2.2.2.2.2.1 c c'.1
  obtain ⟨⟨c64, ci⟩, -⟩ := b.2.2.1 c cf
  have m1 := fun (Q : sr_T) => m_beyond (d := d + 6) (Q := Q) ws1 hx rp1 kc1 (show c / 8 < 64 by omega) (show c % 8 < 64 by omega) hw hm1
  have hlt : ¬ 4 ≤ w := by omega
  rw [lb_123003]
  by_cases z : bynd x (c / 8) (c % 8) w = 0
  · have oz : oI 0 < 0 := by decide
    simp (disch := first | assumption | omega) only [Nat.reduceAdd, Nat.reduceLeDiff, Nat.zero_le, true_and, and_true, ↓reduceIte, wB_const, wB_lconst, wB_ldc, wB_getstatic, wB_dupi, wB_dupr, wB_dup2, wB_popi, wB_iadd, wB_isub, wB_imul, wB_iand, wB_ior, wB_ixor, wB_ishl, wB_ishr, wB_iushr, wB_ineg, wB_ladd, wB_lsub, wB_lmul, wB_land, wB_lneg, wB_i2l, wB_l2i, wB_lcmp, wB_idiv, wB_irem, wB_ldiv, wB_lrem, wB_goto, wB_nop, wB_ifeq, wB_ifne, wB_iflt, wB_ifge, wB_ifgt, wB_ifle, wB_icmpeq, wB_icmpne, wB_icmplt, wB_icmpge, wB_icmpgt, wB_icmple, wB_table, wB_lookup, wB_ireturn, wB_zreturn, wB_lreturn, wB_areturn, wB_return, wB_getf, wB_putf, wB_iald, wB_bald, wB_lald, wB_iast, wB_bast, wB_last, wB_min, wB_max, wB_abs, wB_minl, wB_maxl, wB_absl, wB_obj, wB_copy, wB_charAt, wB_strlen, sr_k1i, sr_k1r, sr_k1U, sr_k1l, sr_ms1, sr_ms0, sr_msn, sr_cs1, sr_csm1, sr_csm2, sr_cl1, sr_cl2, sr_szi, sr_szr, sr_szl, sr_szn, sr_tls, sr_tln, wB_il0, wB_ll0, wB_al0, wB_is0, wB_as0, wB_inc0, wB_ls0, wB_il1, wB_ll1, wB_al1, wB_is1, wB_as1, wB_inc1, wB_ls1, wB_il2, wB_ll2, wB_al2, wB_is2, wB_as2, wB_inc2, wB_ls2, wB_il3, wB_ll3, wB_al3, wB_is3, wB_as3, wB_inc3, wB_ls3, wB_il4, wB_ll4, wB_al4, wB_is4, wB_as4, wB_inc4, wB_ls4, wB_il5, wB_ll5, wB_al5, wB_is5, wB_as5, wB_inc5, wB_ls5, wB_il6, wB_ll6, wB_al6, wB_is6, wB_as6, wB_inc6, wB_ls6, wB_il7, wB_ll7, wB_al7, wB_is7, wB_as7, wB_inc7, wB_ls7, wB_il8, wB_ll8, wB_al8, wB_is8, wB_as8, wB_inc8, wB_ls8, wB_il9, wB_ll9, wB_al9, wB_is9, wB_as9, wB_inc9, wB_ls9, wB_il10, wB_ll10, wB_al10, wB_is10, wB_as10, wB_inc10, wB_ls10, wB_il11, wB_ll11, wB_al11, wB_is11, wB_as11, wB_inc11, wB_ls11, wB_il12, wB_ll12, wB_al12, wB_is12, wB_as12, wB_inc12, wB_ls12, wB_il13, wB_ll13, wB_al13, wB_is13, wB_as13, wB_inc13, wB_ls13, wB_il14, wB_ll14, wB_al14, wB_is14, wB_as14, wB_inc14, wB_ls14, wB_il15, wB_ll15, wB_al15, wB_is15, wB_as15, wB_inc15, lb_123002, lb_123004, lb_123006, cl_121, cl_124, cl_86, cl_87, cl_101, obj_9, obj_6, fld_9_3, arr_9_3, fld_6_11, arr_6_11, nI_clamp, inb_nI, nI_leI, nI_ltI, nI_eq, nI_z, nI_ge0, nI_lt0, nI_add, n00, n11, n01, n10, true_or, or_true, not_true_eq_false, not_false_eq_true, bI_0, bI_z, Nat.le_refl, Nat.lt_irrefl, Nat.reduceLT, Nat.reduceEqDiff, nI_gt0, nI_le0, hlt, ws1, m_rowOf, m_columnOf, m1, z, oz]
    exact next f h ⟨f1, a1, l1⟩ b (DW_nx c' z) rfl
  · obtain ⟨j, hj⟩ : ∃ j, bynd x (c / 8) (c % 8) w = j + 1 := ⟨bynd x (c / 8) (c % 8) w - 1, by omega⟩
    obtain ⟨k1, k2⟩ := bynd_in hx hj
    obtain ⟨b', c2, e2⟩ := DI_up hx hw b c' fk hj
    have aj := a1 j k1
    have ac := a1 c c64
    have bj := b.2.1 j
    have sj := (kc1.2 _ _ k2.1 k2.2).1
    have sc := (kc1.2 _ _ ci.1 ci.2).1
    rw [show 8 * (j / 8) + j % 8 = j by omega] at sj
    rw [show 8 * (c / 8) + c % 8 = c by omega] at sc
    have s1 := sea_le (b := xP x) (r := j / 8) (c := j % 8) hx
    have s2 := sea_le (b := xP x) (r := c / 8) (c := c % 8) hx
    have tn := turn_n (sea x (xP x) (j / 8) (j % 8)) (by omega) (sea x (xP x) (c / 8) (c % 8)) (by omega)
    have hgy : (sea x (xP x) (j / 8) (j % 8) + 8 - sea x (xP x) (c / 8) (c % 8)) % 4 = gY x c j := rfl
    have hg := gY_lt (x := x) (a := c) (b := j)
    simp (disch := first | assumption | omega | (simp (disch := assumption) only [sr_szn, sr_szi, sr_szr, sr_szl, Nat.reduceAdd, Nat.reduceLeDiff, Nat.zero_le, Nat.le_refl, isA_sI, isA_sJ, isA_sC, isA_sF, isI_sI, isI_sJ, isI_sC, isI_sF, isJ_sI, isJ_sJ, isJ_sC, isJ_sF, oK_sI, oK_sJ, oK_sC, oK_sF, lI_sI, lI_sJ, lI_sC, lI_sF, oC_sI, oC_sJ, oC_sC, oC_sF, obj_9, obj_6, fld_9_3, arr_9_3, fld_6_11, arr_6_11])) only [Nat.reduceAdd, Nat.reduceLeDiff, Nat.zero_le, true_and, and_true, ↓reduceIte, wB_const, wB_lconst, wB_ldc, wB_getstatic, wB_dupi, wB_dupr, wB_dup2, wB_popi, wB_iadd, wB_isub, wB_imul, wB_iand, wB_ior, wB_ixor, wB_ishl, wB_ishr, wB_iushr, wB_ineg, wB_ladd, wB_lsub, wB_lmul, wB_land, wB_lneg, wB_i2l, wB_l2i, wB_lcmp, wB_idiv, wB_irem, wB_ldiv, wB_lrem, wB_goto, wB_nop, wB_ifeq, wB_ifne, wB_iflt, wB_ifge, wB_ifgt, wB_ifle, wB_icmpeq, wB_icmpne, wB_icmplt, wB_icmpge, wB_icmpgt, wB_icmple, wB_table, wB_lookup, wB_ireturn, wB_zreturn, wB_lreturn, wB_areturn, wB_return, wB_getf, wB_putf, wB_iald, wB_bald, wB_lald, wB_iast, wB_bast, wB_last, wB_min, wB_max, wB_abs, wB_minl, wB_maxl, wB_absl, wB_obj, wB_copy, wB_charAt, wB_strlen, sr_k1i, sr_k1r, sr_k1U, sr_k1l, sr_ms1, sr_ms0, sr_msn, sr_cs1, sr_csm1, sr_csm2, sr_cl1, sr_cl2, sr_szi, sr_szr, sr_szl, sr_szn, sr_tls, sr_tln, wB_il0, wB_ll0, wB_al0, wB_is0, wB_as0, wB_inc0, wB_ls0, wB_il1, wB_ll1, wB_al1, wB_is1, wB_as1, wB_inc1, wB_ls1, wB_il2, wB_ll2, wB_al2, wB_is2, wB_as2, wB_inc2, wB_ls2, wB_il3, wB_ll3, wB_al3, wB_is3, wB_as3, wB_inc3, wB_ls3, wB_il4, wB_ll4, wB_al4, wB_is4, wB_as4, wB_inc4, wB_ls4, wB_il5, wB_ll5, wB_al5, wB_is5, wB_as5, wB_inc5, wB_ls5, wB_il6, wB_ll6, wB_al6, wB_is6, wB_as6, wB_inc6, wB_ls6, wB_il7, wB_ll7, wB_al7, wB_is7, wB_as7, wB_inc7, wB_ls7, wB_il8, wB_ll8, wB_al8, wB_is8, wB_as8, wB_inc8, wB_ls8, wB_il9, wB_ll9, wB_al9, wB_is9, wB_as9, wB_inc9, wB_ls9, wB_il10, wB_ll10, wB_al10, wB_is10, wB_as10, wB_inc10, wB_ls10, wB_il11, wB_ll11, wB_al11, wB_is11, wB_as11, wB_inc11, wB_ls11, wB_il12, wB_ll12, wB_al12, wB_is12, wB_as12, wB_inc12, wB_ls12, wB_il13, wB_ll13, wB_al13, wB_is13, wB_as13, wB_inc13, wB_ls13, wB_il14, wB_ll14, wB_al14, wB_is14, wB_as14, wB_inc14, wB_ls14, wB_il15, wB_ll15, wB_al15, wB_is15, wB_as15, wB_inc15, lb_123002, lb_123004, lb_123006, cl_121, cl_124, cl_86, cl_87, cl_101, obj_9, obj_6, fld_9_3, arr_9_3, fld_6_11, arr_6_11, nI_clamp, inb_nI, nI_leI, nI_ltI, nI_eq, nI_z, nI_ge0, nI_lt0, nI_add, n00, n11, n01, n10, true_or, or_true, not_true_eq_false, not_false_eq_true, bI_0, bI_z, Nat.le_refl, Nat.lt_irrefl, Nat.reduceLT, Nat.reduceEqDiff, nI_gt0, nI_le0, hlt, w1, ws1, m_rowOf, m_columnOf, m1, hj, oI_s, aj, ac, sj, sc, tn, hgy, min_m, k1, c64, la, ld, lI_sI, lI_sJ, lI_sC, lI_sF, lZ_sI, lZ_sJ, lZ_sC, lZ_sF, lJ_sI, lJ_sJ, lJ_sC, lJ_sF, oC_sI, oC_sJ, oC_sC, oC_sF, oF_sI, oF_sJ, oF_sC, oF_sF, sI_1, sJ_1, sF_1, sC_1, sr_okI, sr_okJ, sr_okR, sr_okZ, hI_sJ, hI_sF, hJ_sI, hJ_sF, hJ_sC, hF_sI, hF_sJ, hF_sC, fI_sI, fI_sJ, fI_sC, fJ_sI, fJ_sJ, fJ_sC, hI_n, hI_y, hJ_n, hJ_y, hF_n, hF_y, fI_n, fI_y, fJ_n, fJ_y, hI_c]
    exact next _ _ ⟨Fr_sI f1 (Or.inl rfl), AR_up lb a1, AR_of l1 (sI_ne (by omega))⟩ b' c2 e2
set_option maxHeartbeats 4000000 in
set_option maxRecDepth 100000 in
theorem m_walkYoung {d S L s : Nat} {h : sr_H} {Q : sr_T} {x : V} (w : Wys h) (ws : Scr h S) (hS : S + 9 < 130) (hL : L = 130 ∨ L = 131) (hm : h.1.1 ≤ 1000) (hx : Wx x) (rp : SC h S x) (kc : KC h S x) (hs : s < 64) (hi : inr x s) (kk : ∀ h' f, Fr h h' (PW L) → AR h' L f → (∀ k, f k ≤ 1000000) → (∀ k, f k < 1000000 → f k < 1000 ∧ inr x k) → isD (eg x) (gY x) s 1000000 f → Q none h') : sr_M (d + 9) 123 [.ref 129, .ref S, .int (nI s), .ref L] h Q := by
  simp (disch := first | assumption | omega) only [Nat.reduceAdd, Nat.reduceLeDiff, Nat.zero_le, true_and, and_true, ↓reduceIte, wB_const, wB_lconst, wB_ldc, wB_getstatic, wB_dupi, wB_dupr, wB_dup2, wB_popi, wB_iadd, wB_isub, wB_imul, wB_iand, wB_ior, wB_ixor, wB_ishl, wB_ishr, wB_iushr, wB_ineg, wB_ladd, wB_lsub, wB_lmul, wB_land, wB_lneg, wB_i2l, wB_l2i, wB_lcmp, wB_idiv, wB_irem, wB_ldiv, wB_lrem, wB_goto, wB_nop, wB_ifeq, wB_ifne, wB_iflt, wB_ifge, wB_ifgt, wB_ifle, wB_icmpeq, wB_icmpne, wB_icmplt, wB_icmpge, wB_icmpgt, wB_icmple, wB_table, wB_lookup, wB_ireturn, wB_zreturn, wB_lreturn, wB_areturn, wB_return, wB_getf, wB_putf, wB_iald, wB_bald, wB_lald, wB_iast, wB_bast, wB_last, wB_min, wB_max, wB_abs, wB_minl, wB_maxl, wB_absl, wB_obj, wB_copy, wB_charAt, wB_strlen, sr_k1i, sr_k1r, sr_k1U, sr_k1l, sr_ms1, sr_ms0, sr_msn, sr_cs1, sr_csm1, sr_csm2, sr_cl1, sr_cl2, sr_szi, sr_szr, sr_szl, sr_szn, sr_tls, sr_tln, wB_il0, wB_ll0, wB_al0, wB_is0, wB_as0, wB_inc0, wB_ls0, wB_il1, wB_ll1, wB_al1, wB_is1, wB_as1, wB_inc1, wB_ls1, wB_il2, wB_ll2, wB_al2, wB_is2, wB_as2, wB_inc2, wB_ls2, wB_il3, wB_ll3, wB_al3, wB_is3, wB_as3, wB_inc3, wB_ls3, wB_il4, wB_ll4, wB_al4, wB_is4, wB_as4, wB_inc4, wB_ls4, wB_il5, wB_ll5, wB_al5, wB_is5, wB_as5, wB_inc5, wB_ls5, wB_il6, wB_ll6, wB_al6, wB_is6, wB_as6, wB_inc6, wB_ls6, wB_il7, wB_ll7, wB_al7, wB_is7, wB_as7, wB_inc7, wB_ls7, wB_il8, wB_ll8, wB_al8, wB_is8, wB_as8, wB_inc8, wB_ls8, wB_il9, wB_ll9, wB_al9, wB_is9, wB_as9, wB_inc9, wB_ls9, wB_il10, wB_ll10, wB_al10, wB_is10, wB_as10, wB_inc10, wB_ls10, wB_il11, wB_ll11, wB_al11, wB_is11, wB_as11, wB_inc11, wB_ls11, wB_il12, wB_ll12, wB_al12, wB_is12, wB_as12, wB_inc12, wB_ls12, wB_il13, wB_ll13, wB_al13, wB_is13, wB_as13, wB_inc13, wB_ls13, wB_il14, wB_ll14, wB_al14, wB_is14, wB_as14, wB_inc14, wB_ls14, wB_il15, wB_ll15, wB_al15, wB_is15, wB_as15, wB_inc15, lb_123004, cl_121, cl_124, cl_86, cl_87, cl_101, obj_9, obj_6, fld_9_3, arr_9_3, fld_6_11, arr_6_11, nI_clamp, inb_nI, nI_leI, nI_ltI, nI_eq, nI_z, nI_ge0, nI_lt0, nI_add, n00, n11, n01, n10, true_or, or_true, not_true_eq_false, not_false_eq_true, bI_0, bI_z, Nat.le_refl, Nat.lt_irrefl, Nat.reduceLT, Nat.reduceEqDiff, nI_gt0, nI_le0, en_123, w]
  refine m_begin (d := d + 7) w hL hs (fun h1 f1 a1 b1 => ?_)
  have w1 := w.ss f1.1
  simp (disch := first | assumption | omega) only [Nat.reduceAdd, Nat.reduceLeDiff, Nat.zero_le, true_and, and_true, ↓reduceIte, wB_const, wB_lconst, wB_ldc, wB_getstatic, wB_dupi, wB_dupr, wB_dup2, wB_popi, wB_iadd, wB_isub, wB_imul, wB_iand, wB_ior, wB_ixor, wB_ishl, wB_ishr, wB_iushr, wB_ineg, wB_ladd, wB_lsub, wB_lmul, wB_land, wB_lneg, wB_i2l, wB_l2i, wB_lcmp, wB_idiv, wB_irem, wB_ldiv, wB_lrem, wB_goto, wB_nop, wB_ifeq, wB_ifne, wB_iflt, wB_ifge, wB_ifgt, wB_ifle, wB_icmpeq, wB_icmpne, wB_icmplt, wB_icmpge, wB_icmpgt, wB_icmple, wB_table, wB_lookup, wB_ireturn, wB_zreturn, wB_lreturn, wB_areturn, wB_return, wB_getf, wB_putf, wB_iald, wB_bald, wB_lald, wB_iast, wB_bast, wB_last, wB_min, wB_max, wB_abs, wB_minl, wB_maxl, wB_absl, wB_obj, wB_copy, wB_charAt, wB_strlen, sr_k1i, sr_k1r, sr_k1U, sr_k1l, sr_ms1, sr_ms0, sr_msn, sr_cs1, sr_csm1, sr_csm2, sr_cl1, sr_cl2, sr_szi, sr_szr, sr_szl, sr_szn, sr_tls, sr_tln, wB_il0, wB_ll0, wB_al0, wB_is0, wB_as0, wB_inc0, wB_ls0, wB_il1, wB_ll1, wB_al1, wB_is1, wB_as1, wB_inc1, wB_ls1, wB_il2, wB_ll2, wB_al2, wB_is2, wB_as2, wB_inc2, wB_ls2, wB_il3, wB_ll3, wB_al3, wB_is3, wB_as3, wB_inc3, wB_ls3, wB_il4, wB_ll4, wB_al4, wB_is4, wB_as4, wB_inc4, wB_ls4, wB_il5, wB_ll5, wB_al5, wB_is5, wB_as5, wB_inc5, wB_ls5, wB_il6, wB_ll6, wB_al6, wB_is6, wB_as6, wB_inc6, wB_ls6, wB_il7, wB_ll7, wB_al7, wB_is7, wB_as7, wB_inc7, wB_ls7, wB_il8, wB_ll8, wB_al8, wB_is8, wB_as8, wB_inc8, wB_ls8, wB_il9, wB_ll9, wB_al9, wB_is9, wB_as9, wB_inc9, wB_ls9, wB_il10, wB_ll10, wB_al10, wB_is10, wB_as10, wB_inc10, wB_ls10, wB_il11, wB_ll11, wB_al11, wB_is11, wB_as11, wB_inc11, wB_ls11, wB_il12, wB_ll12, wB_al12, wB_is12, wB_as12, wB_inc12, wB_ls12, wB_il13, wB_ll13, wB_al13, wB_is13, wB_as13, wB_inc13, wB_ls13, wB_il14, wB_ll14, wB_al14, wB_is14, wB_as14, wB_inc14, wB_ls14, wB_il15, wB_ll15, wB_al15, wB_is15, wB_as15, wB_inc15, lb_123004, cl_121, cl_124, cl_86, cl_87, cl_101, obj_9, obj_6, fld_9_3, arr_9_3, fld_6_11, arr_6_11, nI_clamp, inb_nI, nI_leI, nI_ltI, nI_eq, nI_z, nI_ge0, nI_lt0, nI_add, n00, n11, n01, n10, true_or, or_true, not_true_eq_false, not_false_eq_true, bI_0, bI_z, Nat.le_refl, Nat.lt_irrefl, Nat.reduceLT, Nat.reduceEqDiff, nI_gt0, nI_le0, w1]
  have fin : ∀ h1 f st k, k ≤ 64 → DH h h1 L f st → DI x s f st k → DA x f st → (∀ j, f j < 1000000 → st j = 1) → Q none h1 := by
    intro h1 f st k hk dh di da hall
    refine kk h1 f dh.1 dh.2.1 di.2.1 (fun j hj => ?_) ⟨di.1, fun a b ha he => da a b (hall a ha) he, di.2.2.2.2.2.2.2.2⟩
    obtain ⟨z1, z2⟩ := di.2.2.1 j hj
    exact ⟨by omega, z1.2⟩
  have key : ∀ m i (f st : Nat → Nat) (h1 : sr_H) (u2 u5 u6 u7 u8 : Value), m + i = 64 → DH h h1 L f st → DI x s f st i → DA x f st → sr_W (d + 8) 123001 [.ref 129, .ref S, u2, .ref L, .int (nI i), u5, u6, u7, u8] [] h1 Q := by
    intro m
    induction m with
    | zero =>
      intro i f st h1 u2 u5 u6 u7 u8 hmi dh di da
      have hi64 : i = 64 := by omega
      subst hi64
      rw [lb_123001]
      simp (disch := first | assumption | omega) only [Nat.reduceAdd, Nat.reduceLeDiff, Nat.zero_le, true_and, and_true, ↓reduceIte, wB_const, wB_lconst, wB_ldc, wB_getstatic, wB_dupi, wB_dupr, wB_dup2, wB_popi, wB_iadd, wB_isub, wB_imul, wB_iand, wB_ior, wB_ixor, wB_ishl, wB_ishr, wB_iushr, wB_ineg, wB_ladd, wB_lsub, wB_lmul, wB_land, wB_lneg, wB_i2l, wB_l2i, wB_lcmp, wB_idiv, wB_irem, wB_ldiv, wB_lrem, wB_goto, wB_nop, wB_ifeq, wB_ifne, wB_iflt, wB_ifge, wB_ifgt, wB_ifle, wB_icmpeq, wB_icmpne, wB_icmplt, wB_icmpge, wB_icmpgt, wB_icmple, wB_table, wB_lookup, wB_ireturn, wB_zreturn, wB_lreturn, wB_areturn, wB_return, wB_getf, wB_putf, wB_iald, wB_bald, wB_lald, wB_iast, wB_bast, wB_last, wB_min, wB_max, wB_abs, wB_minl, wB_maxl, wB_absl, wB_obj, wB_copy, wB_charAt, wB_strlen, sr_k1i, sr_k1r, sr_k1U, sr_k1l, sr_ms1, sr_ms0, sr_msn, sr_cs1, sr_csm1, sr_csm2, sr_cl1, sr_cl2, sr_szi, sr_szr, sr_szl, sr_szn, sr_tls, sr_tln, wB_il0, wB_ll0, wB_al0, wB_is0, wB_as0, wB_inc0, wB_ls0, wB_il1, wB_ll1, wB_al1, wB_is1, wB_as1, wB_inc1, wB_ls1, wB_il2, wB_ll2, wB_al2, wB_is2, wB_as2, wB_inc2, wB_ls2, wB_il3, wB_ll3, wB_al3, wB_is3, wB_as3, wB_inc3, wB_ls3, wB_il4, wB_ll4, wB_al4, wB_is4, wB_as4, wB_inc4, wB_ls4, wB_il5, wB_ll5, wB_al5, wB_is5, wB_as5, wB_inc5, wB_ls5, wB_il6, wB_ll6, wB_al6, wB_is6, wB_as6, wB_inc6, wB_ls6, wB_il7, wB_ll7, wB_al7, wB_is7, wB_as7, wB_inc7, wB_ls7, wB_il8, wB_ll8, wB_al8, wB_is8, wB_as8, wB_inc8, wB_ls8, wB_il9, wB_ll9, wB_al9, wB_is9, wB_as9, wB_inc9, wB_ls9, wB_il10, wB_ll10, wB_al10, wB_is10, wB_as10, wB_inc10, wB_ls10, wB_il11, wB_ll11, wB_al11, wB_is11, wB_as11, wB_inc11, wB_ls11, wB_il12, wB_ll12, wB_al12, wB_is12, wB_as12, wB_inc12, wB_ls12, wB_il13, wB_ll13, wB_al13, wB_is13, wB_as13, wB_inc13, wB_ls13, wB_il14, wB_ll14, wB_al14, wB_is14, wB_as14, wB_inc14, wB_ls14, wB_il15, wB_ll15, wB_al15, wB_is15, wB_as15, wB_inc15, lb_123004, cl_121, cl_124, cl_86, cl_87, cl_101, obj_9, obj_6, fld_9_3, arr_9_3, fld_6_11, arr_6_11, nI_clamp, inb_nI, nI_leI, nI_ltI, nI_eq, nI_z, nI_ge0, nI_lt0, nI_add, n00, n11, n01, n10, true_or, or_true, not_true_eq_false, not_false_eq_true, bI_0, bI_z, Nat.le_refl, Nat.lt_irrefl, Nat.reduceLT, Nat.reduceEqDiff, nI_gt0, nI_le0]
      rw [lb_123006]
      simp (disch := first | assumption | omega) only [Nat.reduceAdd, Nat.reduceLeDiff, Nat.zero_le, true_and, and_true, ↓reduceIte, wB_const, wB_lconst, wB_ldc, wB_getstatic, wB_dupi, wB_dupr, wB_dup2, wB_popi, wB_iadd, wB_isub, wB_imul, wB_iand, wB_ior, wB_ixor, wB_ishl, wB_ishr, wB_iushr, wB_ineg, wB_ladd, wB_lsub, wB_lmul, wB_land, wB_lneg, wB_i2l, wB_l2i, wB_lcmp, wB_idiv, wB_irem, wB_ldiv, wB_lrem, wB_goto, wB_nop, wB_ifeq, wB_ifne, wB_iflt, wB_ifge, wB_ifgt, wB_ifle, wB_icmpeq, wB_icmpne, wB_icmplt, wB_icmpge, wB_icmpgt, wB_icmple, wB_table, wB_lookup, wB_ireturn, wB_zreturn, wB_lreturn, wB_areturn, wB_return, wB_getf, wB_putf, wB_iald, wB_bald, wB_lald, wB_iast, wB_bast, wB_last, wB_min, wB_max, wB_abs, wB_minl, wB_maxl, wB_absl, wB_obj, wB_copy, wB_charAt, wB_strlen, sr_k1i, sr_k1r, sr_k1U, sr_k1l, sr_ms1, sr_ms0, sr_msn, sr_cs1, sr_csm1, sr_csm2, sr_cl1, sr_cl2, sr_szi, sr_szr, sr_szl, sr_szn, sr_tls, sr_tln, wB_il0, wB_ll0, wB_al0, wB_is0, wB_as0, wB_inc0, wB_ls0, wB_il1, wB_ll1, wB_al1, wB_is1, wB_as1, wB_inc1, wB_ls1, wB_il2, wB_ll2, wB_al2, wB_is2, wB_as2, wB_inc2, wB_ls2, wB_il3, wB_ll3, wB_al3, wB_is3, wB_as3, wB_inc3, wB_ls3, wB_il4, wB_ll4, wB_al4, wB_is4, wB_as4, wB_inc4, wB_ls4, wB_il5, wB_ll5, wB_al5, wB_is5, wB_as5, wB_inc5, wB_ls5, wB_il6, wB_ll6, wB_al6, wB_is6, wB_as6, wB_inc6, wB_ls6, wB_il7, wB_ll7, wB_al7, wB_is7, wB_as7, wB_inc7, wB_ls7, wB_il8, wB_ll8, wB_al8, wB_is8, wB_as8, wB_inc8, wB_ls8, wB_il9, wB_ll9, wB_al9, wB_is9, wB_as9, wB_inc9, wB_ls9, wB_il10, wB_ll10, wB_al10, wB_is10, wB_as10, wB_inc10, wB_ls10, wB_il11, wB_ll11, wB_al11, wB_is11, wB_as11, wB_inc11, wB_ls11, wB_il12, wB_ll12, wB_al12, wB_is12, wB_as12, wB_inc12, wB_ls12, wB_il13, wB_ll13, wB_al13, wB_is13, wB_as13, wB_inc13, wB_ls13, wB_il14, wB_ll14, wB_al14, wB_is14, wB_as14, wB_inc14, wB_ls14, wB_il15, wB_ll15, wB_al15, wB_is15, wB_as15, wB_inc15, lb_123004, cl_121, cl_124, cl_86, cl_87, cl_101, obj_9, obj_6, fld_9_3, arr_9_3, fld_6_11, arr_6_11, nI_clamp, inb_nI, nI_leI, nI_ltI, nI_eq, nI_z, nI_ge0, nI_lt0, nI_add, n00, n11, n01, n10, true_or, or_true, not_true_eq_false, not_false_eq_true, bI_0, bI_z, Nat.le_refl, Nat.lt_irrefl, Nat.reduceLT, Nat.reduceEqDiff, nI_gt0, nI_le0]
      refine fin h1 f st 64 (Nat.le_refl _) dh di da (fun j hj => ?_)
      exact sm_all di.2.2.2.1 64 di.2.2.2.2.2.1 j (di.2.2.1 j hj).1.1
    | succ m ih =>
      intro i f st h1 u2 u5 u6 u7 u8 hmi dh di da
      have w2 := w.ss dh.1.1
      have mo := fun (Q : sr_T) => m_nearestOpen (d := d + 7) (Q := Q) w2 hL dh.2.1 dh.2.2 (fun k _ => di.2.1 k) (fun k _ => di.2.2.2.1 k)
      obtain ⟨n1, n2, n3⟩ := no_sp (f := f) (st := st) 64
      rw [lb_123001]
      rcases n3 with n3 | ⟨c, c64, n3, n4, n5⟩
      · rw [n3] at mo n2
        simp (disch := first | assumption | omega) only [Nat.reduceAdd, Nat.reduceLeDiff, Nat.zero_le, true_and, and_true, ↓reduceIte, wB_const, wB_lconst, wB_ldc, wB_getstatic, wB_dupi, wB_dupr, wB_dup2, wB_popi, wB_iadd, wB_isub, wB_imul, wB_iand, wB_ior, wB_ixor, wB_ishl, wB_ishr, wB_iushr, wB_ineg, wB_ladd, wB_lsub, wB_lmul, wB_land, wB_lneg, wB_i2l, wB_l2i, wB_lcmp, wB_idiv, wB_irem, wB_ldiv, wB_lrem, wB_goto, wB_nop, wB_ifeq, wB_ifne, wB_iflt, wB_ifge, wB_ifgt, wB_ifle, wB_icmpeq, wB_icmpne, wB_icmplt, wB_icmpge, wB_icmpgt, wB_icmple, wB_table, wB_lookup, wB_ireturn, wB_zreturn, wB_lreturn, wB_areturn, wB_return, wB_getf, wB_putf, wB_iald, wB_bald, wB_lald, wB_iast, wB_bast, wB_last, wB_min, wB_max, wB_abs, wB_minl, wB_maxl, wB_absl, wB_obj, wB_copy, wB_charAt, wB_strlen, sr_k1i, sr_k1r, sr_k1U, sr_k1l, sr_ms1, sr_ms0, sr_msn, sr_cs1, sr_csm1, sr_csm2, sr_cl1, sr_cl2, sr_szi, sr_szr, sr_szl, sr_szn, sr_tls, sr_tln, wB_il0, wB_ll0, wB_al0, wB_is0, wB_as0, wB_inc0, wB_ls0, wB_il1, wB_ll1, wB_al1, wB_is1, wB_as1, wB_inc1, wB_ls1, wB_il2, wB_ll2, wB_al2, wB_is2, wB_as2, wB_inc2, wB_ls2, wB_il3, wB_ll3, wB_al3, wB_is3, wB_as3, wB_inc3, wB_ls3, wB_il4, wB_ll4, wB_al4, wB_is4, wB_as4, wB_inc4, wB_ls4, wB_il5, wB_ll5, wB_al5, wB_is5, wB_as5, wB_inc5, wB_ls5, wB_il6, wB_ll6, wB_al6, wB_is6, wB_as6, wB_inc6, wB_ls6, wB_il7, wB_ll7, wB_al7, wB_is7, wB_as7, wB_inc7, wB_ls7, wB_il8, wB_ll8, wB_al8, wB_is8, wB_as8, wB_inc8, wB_ls8, wB_il9, wB_ll9, wB_al9, wB_is9, wB_as9, wB_inc9, wB_ls9, wB_il10, wB_ll10, wB_al10, wB_is10, wB_as10, wB_inc10, wB_ls10, wB_il11, wB_ll11, wB_al11, wB_is11, wB_as11, wB_inc11, wB_ls11, wB_il12, wB_ll12, wB_al12, wB_is12, wB_as12, wB_inc12, wB_ls12, wB_il13, wB_ll13, wB_al13, wB_is13, wB_as13, wB_inc13, wB_ls13, wB_il14, wB_ll14, wB_al14, wB_is14, wB_as14, wB_inc14, wB_ls14, wB_il15, wB_ll15, wB_al15, wB_is15, wB_as15, wB_inc15, lb_123004, cl_121, cl_124, cl_86, cl_87, cl_101, obj_9, obj_6, fld_9_3, arr_9_3, fld_6_11, arr_6_11, nI_clamp, inb_nI, nI_leI, nI_ltI, nI_eq, nI_z, nI_ge0, nI_lt0, nI_add, n00, n11, n01, n10, true_or, or_true, not_true_eq_false, not_false_eq_true, bI_0, bI_z, Nat.le_refl, Nat.lt_irrefl, Nat.reduceLT, Nat.reduceEqDiff, nI_gt0, nI_le0, w2, show ¬ 64 ≤ i by omega, mo, oI_00]
        refine fin h1 f st i (by omega) dh di da (fun j hj => ?_)
        have h64 := (di.2.2.1 j hj).1.1
        have h2 := di.2.2.2.1 j
        by_cases z : st j = 0
        · have h3 := n2 j h64 z
          dsimp only at h3
          omega
        · omega
      · rw [n3] at mo n2
        dsimp only at mo n2
        simp (disch := first | assumption | omega) only [Nat.reduceAdd, Nat.reduceLeDiff, Nat.zero_le, true_and, and_true, ↓reduceIte, wB_const, wB_lconst, wB_ldc, wB_getstatic, wB_dupi, wB_dupr, wB_dup2, wB_popi, wB_iadd, wB_isub, wB_imul, wB_iand, wB_ior, wB_ixor, wB_ishl, wB_ishr, wB_iushr, wB_ineg, wB_ladd, wB_lsub, wB_lmul, wB_land, wB_lneg, wB_i2l, wB_l2i, wB_lcmp, wB_idiv, wB_irem, wB_ldiv, wB_lrem, wB_goto, wB_nop, wB_ifeq, wB_ifne, wB_iflt, wB_ifge, wB_ifgt, wB_ifle, wB_icmpeq, wB_icmpne, wB_icmplt, wB_icmpge, wB_icmpgt, wB_icmple, wB_table, wB_lookup, wB_ireturn, wB_zreturn, wB_lreturn, wB_areturn, wB_return, wB_getf, wB_putf, wB_iald, wB_bald, wB_lald, wB_iast, wB_bast, wB_last, wB_min, wB_max, wB_abs, wB_minl, wB_maxl, wB_absl, wB_obj, wB_copy, wB_charAt, wB_strlen, sr_k1i, sr_k1r, sr_k1U, sr_k1l, sr_ms1, sr_ms0, sr_msn, sr_cs1, sr_csm1, sr_csm2, sr_cl1, sr_cl2, sr_szi, sr_szr, sr_szl, sr_szn, sr_tls, sr_tln, wB_il0, wB_ll0, wB_al0, wB_is0, wB_as0, wB_inc0, wB_ls0, wB_il1, wB_ll1, wB_al1, wB_is1, wB_as1, wB_inc1, wB_ls1, wB_il2, wB_ll2, wB_al2, wB_is2, wB_as2, wB_inc2, wB_ls2, wB_il3, wB_ll3, wB_al3, wB_is3, wB_as3, wB_inc3, wB_ls3, wB_il4, wB_ll4, wB_al4, wB_is4, wB_as4, wB_inc4, wB_ls4, wB_il5, wB_ll5, wB_al5, wB_is5, wB_as5, wB_inc5, wB_ls5, wB_il6, wB_ll6, wB_al6, wB_is6, wB_as6, wB_inc6, wB_ls6, wB_il7, wB_ll7, wB_al7, wB_is7, wB_as7, wB_inc7, wB_ls7, wB_il8, wB_ll8, wB_al8, wB_is8, wB_as8, wB_inc8, wB_ls8, wB_il9, wB_ll9, wB_al9, wB_is9, wB_as9, wB_inc9, wB_ls9, wB_il10, wB_ll10, wB_al10, wB_is10, wB_as10, wB_inc10, wB_ls10, wB_il11, wB_ll11, wB_al11, wB_is11, wB_as11, wB_inc11, wB_ls11, wB_il12, wB_ll12, wB_al12, wB_is12, wB_as12, wB_inc12, wB_ls12, wB_il13, wB_ll13, wB_al13, wB_is13, wB_as13, wB_inc13, wB_ls13, wB_il14, wB_ll14, wB_al14, wB_is14, wB_as14, wB_inc14, wB_ls14, wB_il15, wB_ll15, wB_al15, wB_is15, wB_as15, wB_inc15, lb_123004, cl_121, cl_124, cl_86, cl_87, cl_101, obj_9, obj_6, fld_9_3, arr_9_3, fld_6_11, arr_6_11, nI_clamp, inb_nI, nI_leI, nI_ltI, nI_eq, nI_z, nI_ge0, nI_lt0, nI_add, n00, n11, n01, n10, true_or, or_true, not_true_eq_false, not_false_eq_true, bI_0, bI_z, Nat.le_refl, Nat.lt_irrefl, Nat.reduceLT, Nat.reduceEqDiff, nI_gt0, nI_le0, w2, show ¬ 64 ≤ i by omega, mo, oI_s]
        rw [lb_123002]
        simp (disch := first | assumption | omega) only [Nat.reduceAdd, Nat.reduceLeDiff, Nat.zero_le, true_and, and_true, ↓reduceIte, wB_const, wB_lconst, wB_ldc, wB_getstatic, wB_dupi, wB_dupr, wB_dup2, wB_popi, wB_iadd, wB_isub, wB_imul, wB_iand, wB_ior, wB_ixor, wB_ishl, wB_ishr, wB_iushr, wB_ineg, wB_ladd, wB_lsub, wB_lmul, wB_land, wB_lneg, wB_i2l, wB_l2i, wB_lcmp, wB_idiv, wB_irem, wB_ldiv, wB_lrem, wB_goto, wB_nop, wB_ifeq, wB_ifne, wB_iflt, wB_ifge, wB_ifgt, wB_ifle, wB_icmpeq, wB_icmpne, wB_icmplt, wB_icmpge, wB_icmpgt, wB_icmple, wB_table, wB_lookup, wB_ireturn, wB_zreturn, wB_lreturn, wB_areturn, wB_return, wB_getf, wB_putf, wB_iald, wB_bald, wB_lald, wB_iast, wB_bast, wB_last, wB_min, wB_max, wB_abs, wB_minl, wB_maxl, wB_absl, wB_obj, wB_copy, wB_charAt, wB_strlen, sr_k1i, sr_k1r, sr_k1U, sr_k1l, sr_ms1, sr_ms0, sr_msn, sr_cs1, sr_csm1, sr_csm2, sr_cl1, sr_cl2, sr_szi, sr_szr, sr_szl, sr_szn, sr_tls, sr_tln, wB_il0, wB_ll0, wB_al0, wB_is0, wB_as0, wB_inc0, wB_ls0, wB_il1, wB_ll1, wB_al1, wB_is1, wB_as1, wB_inc1, wB_ls1, wB_il2, wB_ll2, wB_al2, wB_is2, wB_as2, wB_inc2, wB_ls2, wB_il3, wB_ll3, wB_al3, wB_is3, wB_as3, wB_inc3, wB_ls3, wB_il4, wB_ll4, wB_al4, wB_is4, wB_as4, wB_inc4, wB_ls4, wB_il5, wB_ll5, wB_al5, wB_is5, wB_as5, wB_inc5, wB_ls5, wB_il6, wB_ll6, wB_al6, wB_is6, wB_as6, wB_inc6, wB_ls6, wB_il7, wB_ll7, wB_al7, wB_is7, wB_as7, wB_inc7, wB_ls7, wB_il8, wB_ll8, wB_al8, wB_is8, wB_as8, wB_inc8, wB_ls8, wB_il9, wB_ll9, wB_al9, wB_is9, wB_as9, wB_inc9, wB_ls9, wB_il10, wB_ll10, wB_al10, wB_is10, wB_as10, wB_inc10, wB_ls10, wB_il11, wB_ll11, wB_al11, wB_is11, wB_as11, wB_inc11, wB_ls11, wB_il12, wB_ll12, wB_al12, wB_is12, wB_as12, wB_inc12, wB_ls12, wB_il13, wB_ll13, wB_al13, wB_is13, wB_as13, wB_inc13, wB_ls13, wB_il14, wB_ll14, wB_al14, wB_is14, wB_as14, wB_inc14, wB_ls14, wB_il15, wB_ll15, wB_al15, wB_is15, wB_as15, wB_inc15, lb_123004, cl_121, cl_124, cl_86, cl_87, cl_101, obj_9, obj_6, fld_9_3, arr_9_3, fld_6_11, arr_6_11, nI_clamp, inb_nI, nI_leI, nI_ltI, nI_eq, nI_z, nI_ge0, nI_lt0, nI_add, n00, n11, n01, n10, true_or, or_true, not_true_eq_false, not_false_eq_true, bI_0, bI_z, Nat.le_refl, Nat.lt_irrefl, Nat.reduceLT, Nat.reduceEqDiff, nI_gt0, nI_le0, w2, c64]
        obtain ⟨di2, dw2⟩ := DI_set di da c64 n4 n5 n2
        have fc3 := (di.2.2.1 c n5).2
        have dh2 : DH h (sI h1 133 c (nI 1)) L f (up st c 1) := ⟨Fr_sI dh.1 (Or.inr (Or.inr rfl)), AR_of dh.2.1 (sI_ne (by omega)), AR_up (arr_9_3 w2).2.1 dh.2.2⟩
        refine lp_a (α := Nat → Nat) (W := fun v a h => sr_W (d + 8) 123003 [.ref 129, .ref S, sr_U, .ref L, .int (nI i), .int (nI c), .int (nI v), sr_U, sr_U] [] h Q) (fun v a h' => DH h h' L a (up st c 1) ∧ DI x s a (up st c 1) (i + 1) ∧ DW x a (up st c 1) c v ∧ a c = f c) 4 ?_ ?_ f _ ⟨dh2, di2, dw2, rfl⟩
        · rintro v f2 h2 hv ⟨dh3, di3, dw3, e3⟩ next
          refine yg_way w ws hS hL hm hx rp kc hv (by omega) dh3 di3 dw3 (by omega) (fun f4 h4 dh4 di4 dw4 e4 => ?_)
          exact next f4 h4 ⟨dh4, di4, dw4, e4.trans e3⟩
        · rintro f2 h2 ⟨dh3, di3, dw3, e3⟩
          rw [lb_123003]
          simp (disch := first | assumption | omega) only [Nat.reduceAdd, Nat.reduceLeDiff, Nat.zero_le, true_and, and_true, ↓reduceIte, wB_const, wB_lconst, wB_ldc, wB_getstatic, wB_dupi, wB_dupr, wB_dup2, wB_popi, wB_iadd, wB_isub, wB_imul, wB_iand, wB_ior, wB_ixor, wB_ishl, wB_ishr, wB_iushr, wB_ineg, wB_ladd, wB_lsub, wB_lmul, wB_land, wB_lneg, wB_i2l, wB_l2i, wB_lcmp, wB_idiv, wB_irem, wB_ldiv, wB_lrem, wB_goto, wB_nop, wB_ifeq, wB_ifne, wB_iflt, wB_ifge, wB_ifgt, wB_ifle, wB_icmpeq, wB_icmpne, wB_icmplt, wB_icmpge, wB_icmpgt, wB_icmple, wB_table, wB_lookup, wB_ireturn, wB_zreturn, wB_lreturn, wB_areturn, wB_return, wB_getf, wB_putf, wB_iald, wB_bald, wB_lald, wB_iast, wB_bast, wB_last, wB_min, wB_max, wB_abs, wB_minl, wB_maxl, wB_absl, wB_obj, wB_copy, wB_charAt, wB_strlen, sr_k1i, sr_k1r, sr_k1U, sr_k1l, sr_ms1, sr_ms0, sr_msn, sr_cs1, sr_csm1, sr_csm2, sr_cl1, sr_cl2, sr_szi, sr_szr, sr_szl, sr_szn, sr_tls, sr_tln, wB_il0, wB_ll0, wB_al0, wB_is0, wB_as0, wB_inc0, wB_ls0, wB_il1, wB_ll1, wB_al1, wB_is1, wB_as1, wB_inc1, wB_ls1, wB_il2, wB_ll2, wB_al2, wB_is2, wB_as2, wB_inc2, wB_ls2, wB_il3, wB_ll3, wB_al3, wB_is3, wB_as3, wB_inc3, wB_ls3, wB_il4, wB_ll4, wB_al4, wB_is4, wB_as4, wB_inc4, wB_ls4, wB_il5, wB_ll5, wB_al5, wB_is5, wB_as5, wB_inc5, wB_ls5, wB_il6, wB_ll6, wB_al6, wB_is6, wB_as6, wB_inc6, wB_ls6, wB_il7, wB_ll7, wB_al7, wB_is7, wB_as7, wB_inc7, wB_ls7, wB_il8, wB_ll8, wB_al8, wB_is8, wB_as8, wB_inc8, wB_ls8, wB_il9, wB_ll9, wB_al9, wB_is9, wB_as9, wB_inc9, wB_ls9, wB_il10, wB_ll10, wB_al10, wB_is10, wB_as10, wB_inc10, wB_ls10, wB_il11, wB_ll11, wB_al11, wB_is11, wB_as11, wB_inc11, wB_ls11, wB_il12, wB_ll12, wB_al12, wB_is12, wB_as12, wB_inc12, wB_ls12, wB_il13, wB_ll13, wB_al13, wB_is13, wB_as13, wB_inc13, wB_ls13, wB_il14, wB_ll14, wB_al14, wB_is14, wB_as14, wB_inc14, wB_ls14, wB_il15, wB_ll15, wB_al15, wB_is15, wB_as15, wB_inc15, lb_123004, cl_121, cl_124, cl_86, cl_87, cl_101, obj_9, obj_6, fld_9_3, arr_9_3, fld_6_11, arr_6_11, nI_clamp, inb_nI, nI_leI, nI_ltI, nI_eq, nI_z, nI_ge0, nI_lt0, nI_add, n00, n11, n01, n10, true_or, or_true, not_true_eq_false, not_false_eq_true, bI_0, bI_z, Nat.le_refl, Nat.lt_irrefl, Nat.reduceLT, Nat.reduceEqDiff, nI_gt0, nI_le0]
          rw [lb_123005]
          simp (disch := first | assumption | omega) only [Nat.reduceAdd, Nat.reduceLeDiff, Nat.zero_le, true_and, and_true, ↓reduceIte, wB_const, wB_lconst, wB_ldc, wB_getstatic, wB_dupi, wB_dupr, wB_dup2, wB_popi, wB_iadd, wB_isub, wB_imul, wB_iand, wB_ior, wB_ixor, wB_ishl, wB_ishr, wB_iushr, wB_ineg, wB_ladd, wB_lsub, wB_lmul, wB_land, wB_lneg, wB_i2l, wB_l2i, wB_lcmp, wB_idiv, wB_irem, wB_ldiv, wB_lrem, wB_goto, wB_nop, wB_ifeq, wB_ifne, wB_iflt, wB_ifge, wB_ifgt, wB_ifle, wB_icmpeq, wB_icmpne, wB_icmplt, wB_icmpge, wB_icmpgt, wB_icmple, wB_table, wB_lookup, wB_ireturn, wB_zreturn, wB_lreturn, wB_areturn, wB_return, wB_getf, wB_putf, wB_iald, wB_bald, wB_lald, wB_iast, wB_bast, wB_last, wB_min, wB_max, wB_abs, wB_minl, wB_maxl, wB_absl, wB_obj, wB_copy, wB_charAt, wB_strlen, sr_k1i, sr_k1r, sr_k1U, sr_k1l, sr_ms1, sr_ms0, sr_msn, sr_cs1, sr_csm1, sr_csm2, sr_cl1, sr_cl2, sr_szi, sr_szr, sr_szl, sr_szn, sr_tls, sr_tln, wB_il0, wB_ll0, wB_al0, wB_is0, wB_as0, wB_inc0, wB_ls0, wB_il1, wB_ll1, wB_al1, wB_is1, wB_as1, wB_inc1, wB_ls1, wB_il2, wB_ll2, wB_al2, wB_is2, wB_as2, wB_inc2, wB_ls2, wB_il3, wB_ll3, wB_al3, wB_is3, wB_as3, wB_inc3, wB_ls3, wB_il4, wB_ll4, wB_al4, wB_is4, wB_as4, wB_inc4, wB_ls4, wB_il5, wB_ll5, wB_al5, wB_is5, wB_as5, wB_inc5, wB_ls5, wB_il6, wB_ll6, wB_al6, wB_is6, wB_as6, wB_inc6, wB_ls6, wB_il7, wB_ll7, wB_al7, wB_is7, wB_as7, wB_inc7, wB_ls7, wB_il8, wB_ll8, wB_al8, wB_is8, wB_as8, wB_inc8, wB_ls8, wB_il9, wB_ll9, wB_al9, wB_is9, wB_as9, wB_inc9, wB_ls9, wB_il10, wB_ll10, wB_al10, wB_is10, wB_as10, wB_inc10, wB_ls10, wB_il11, wB_ll11, wB_al11, wB_is11, wB_as11, wB_inc11, wB_ls11, wB_il12, wB_ll12, wB_al12, wB_is12, wB_as12, wB_inc12, wB_ls12, wB_il13, wB_ll13, wB_al13, wB_is13, wB_as13, wB_inc13, wB_ls13, wB_il14, wB_ll14, wB_al14, wB_is14, wB_as14, wB_inc14, wB_ls14, wB_il15, wB_ll15, wB_al15, wB_is15, wB_as15, wB_inc15, lb_123004, cl_121, cl_124, cl_86, cl_87, cl_101, obj_9, obj_6, fld_9_3, arr_9_3, fld_6_11, arr_6_11, nI_clamp, inb_nI, nI_leI, nI_ltI, nI_eq, nI_z, nI_ge0, nI_lt0, nI_add, n00, n11, n01, n10, true_or, or_true, not_true_eq_false, not_false_eq_true, bI_0, bI_z, Nat.le_refl, Nat.lt_irrefl, Nat.reduceLT, Nat.reduceEqDiff, nI_gt0, nI_le0]
          refine ih (i + 1) f2 (up st c 1) h2 _ _ _ _ _ (by omega) dh3 di3 (fun a b ha he => ?_)
          by_cases z : a = c
          · subst z
            obtain ⟨w', hw', hb⟩ := he
            exact dw3.2.2.2 w' hw' b hb
          · exact dw3.2.2.1 a b ha z he
  have z0 : ∀ n, sm (fun _ => 0) n = 0 := by
    intro n
    induction n with
    | zero => rfl
    | succ n ih => exact ih
  refine key 64 0 (fun k => if k = s then 0 else 1000000) (fun _ => 0) h1 _ _ _ _ _ rfl ⟨f1.mono (fun a ha => ha.imp id (fun z => Or.inr z)), a1, b1⟩ ?_ (fun a b ha => absurd ha Nat.zero_ne_one)
  refine ⟨if_pos rfl, fun k => ?_, fun k hk => ?_, fun _ => Nat.zero_le _, fun _ _ => rfl, z0 64, fun a ha => absurd ha Nat.zero_ne_one, fun a b ha => absurd ha Nat.zero_ne_one, fun k hk => ?_⟩
  · dsimp only
    by_cases z : k = s
    · rw [if_pos z]; omega
    · rw [if_neg z]; exact Nat.le_refl _
  · dsimp only at hk ⊢
    by_cases z : k = s
    · subst z
      rw [if_pos rfl]
      exact ⟨⟨hs, hi⟩, Nat.zero_le _⟩
    · rw [if_neg z] at hk
      exact absurd hk (Nat.lt_irrefl _)
  · dsimp only at hk ⊢
    by_cases z : k = s
    · rw [if_pos z]
      exact ⟨0, z, rfl⟩
    · rw [if_neg z] at hk
      exact absurd hk (Nat.lt_irrefl _)
