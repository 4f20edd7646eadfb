/-! The reference: ways. -/
theorem rm_s {a d : Nat} : nI a - nI (a / d * d) = nI (a % d) := by
  rw [pk_sub (Nat.div_mul_le_self a d)]
  congr 1
  have := Nat.div_add_mod a d
  rw [Nat.mul_comm] at this
  omega
theorem rm_t {a d : Nat} : nI a - nI (a / d) * nI d = nI (a % d) := by rw [pk_mul, rm_s]
def AQ (h : sr_H) (b : Nat) (f : Nat → Nat) : Prop := ∀ k, k < 64 → hI h 179 (64 * b + k) = nI (f k)
def rcF (f : Nat → Nat) : Nat := sm (fun j => if f j < 99999 then 1 else 0) 64
theorem sm_le1 {f : Nat → Nat} (h : ∀ j, f j ≤ 1) : ∀ n, sm f n ≤ n
  | 0 => Nat.le_refl _
  | n + 1 => by
    have h1 := sm_le1 h n
    have h2 := h n
    show sm f n + f n ≤ n + 1
    omega
theorem rcF_le {f : Nat → Nat} : rcF f ≤ 64 := sm_le1 (fun j => by split <;> omega) 64
theorem sm_dn {f : Nat → Nat} {b v : Nat} (h : v ≤ f b) : ∀ n, sm (up f b v) n + (if b < n then f b - v else 0) = sm f n
  | 0 => rfl
  | n + 1 => by
    have h1 := sm_dn h n
    show sm (up f b v) n + up f b v n + (if b < n + 1 then f b - v else 0) = sm f n + f n
    by_cases c : n = b
    · subst c
      rw [if_neg (Nat.lt_irrefl _)] at h1
      rw [up_y, if_pos (Nat.lt_succ_self _)]
      omega
    · rw [up_n c]
      by_cases e : b < n
      · rw [if_pos e] at h1
        rw [if_pos (by omega)]
        omega
      · rw [if_neg e] at h1
        rw [if_neg (by omega)]
        omega
theorem rcF_s {f : Nat → Nat} {b v : Nat} (h : f b < 99999) (hv : v < 99999) : rcF (up f b v) = rcF f := by
  unfold rcF
  congr 1
  funext j
  by_cases c : j = b
  · rw [c, up_y, if_pos hv, if_pos h]
  · rw [up_n c]
theorem rcF_n {f : Nat → Nat} {b v : Nat} (hb : b < 64) (h : ¬ f b < 99999) (hv : v < 99999) : rcF (up f b v) = rcF f + 1 := by
  have e : (fun j => if up f b v j < 99999 then 1 else 0) = up (fun j => if f j < 99999 then 1 else 0) b 1 := by
    funext j
    by_cases c : j = b
    · rw [c, up_y, up_y, if_pos hv]
    · rw [up_n c, up_n c]
  unfold rcF
  rw [e, sm_up (f := fun j => if f j < 99999 then 1 else 0) (k := b) (if_neg h), if_pos hb]
/-- f: costs so far -/
def LWy (x : V) (g : Nat → Nat → Nat) (s : Nat) (f : Nat → Nat) : Prop := f s = 0 ∧ (∀ j, f j ≤ 99999) ∧ ∀ j, f j < 99999 → ((j < 64 ∧ inr x j) ∧ f j ≤ 3 * rcF f) ∧ ∃ m, rch (eg x) g s m j (f j)
theorem LWy_up {x : V} {g : Nat → Nat → Nat} {s k b w : Nat} {f : Nat → Nat} (hg : ∀ a b, g a b ≤ 3) (hx : Wx x) (hw : w < 4) (l : LWy x g s f) (hk : f k < 99999) (hb : bynd x (k / 8) (k % 8) w = b + 1) (lt : f k + g k b < f b) : LWy x g s (up f b (f k + g k b)) ∧ sm (up f b (f k + g k b)) 64 < sm f 64 := by
  obtain ⟨l1, l2, l3⟩ := l
  obtain ⟨k1, k2⟩ := bynd_in hx hb
  have hgb := hg k b
  have lb := l2 b
  obtain ⟨⟨-, l4⟩, m, hm⟩ := l3 k hk
  have hr : rcF f ≤ rcF (up f b (f k + g k b)) ∧ f k + g k b ≤ 3 * rcF (up f b (f k + g k b)) := by
    by_cases c : f b < 99999
    · have := (l3 b c).1.2
      rw [rcF_s c (by omega)]
      omega
    · rw [rcF_n k1 c (by omega)]
      omega
  refine ⟨⟨?_, fun j => ?_, fun j hj => ?_⟩, ?_⟩
  · rw [up_n (fun z => by rw [← z] at lt; omega)]
    exact l1
  · by_cases c : j = b
    · rw [c, up_y]; omega
    · rw [up_n c]; exact l2 j
  · by_cases c : j = b
    · subst c
      rw [up_y]
      exact ⟨⟨⟨k1, k2⟩, hr.2⟩, m + 1, k, f k, hm, ⟨w, hw, hb⟩, rfl⟩
    · rw [up_n c] at hj ⊢
      obtain ⟨⟨z1, z2⟩, z3⟩ := l3 j hj
      exact ⟨⟨z1, by omega⟩, z3⟩
  · have := sm_dn (f := f) (b := b) (v := f k + g k b) (by omega) 64
    rw [if_pos k1] at this
    omega
theorem LWy_fin {x : V} {g : Nat → Nat → Nat} {s : Nat} {f : Nat → Nat} (hg : ∀ a b, g a b ≤ 3) (l : LWy x g s f) (c : ∀ j k, f j < 99999 → eg x j k → f k ≤ f j + g j k) : WF (eg x) g s = fun k => if f k < 99999 then f k else 1000000 := by
  obtain ⟨l1, l2, l3⟩ := l
  have h64 := rcF_le (f := f)
  refine WF_eq ⟨?_, fun j k hj he => ?_, fun k hk => ?_⟩ (fun k => ?_)
  · show (if f s < 99999 then f s else 1000000) = 0
    rw [l1]
    rfl
  · have hj' : f j < 99999 := by
      by_cases q : f j < 99999
      · exact q
      · have hj : (if f j < 99999 then f j else 1000000) < 1000000 := hj
        rw [if_neg q] at hj
        exact absurd hj (Nat.lt_irrefl _)
    have h1 := c j k hj' he
    have h2 := (l3 j hj').1.2
    have h3 := hg j k
    show (if f k < 99999 then f k else 1000000) ≤ (if f j < 99999 then f j else 1000000) + g j k
    rw [if_pos hj', if_pos (by omega)]
    exact h1
  · have hk : (if f k < 99999 then f k else 1000000) < 1000000 := hk
    have hk' : f k < 99999 := by
      by_cases q : f k < 99999
      · exact q
      · rw [if_neg q] at hk
        exact absurd hk (Nat.lt_irrefl _)
    obtain ⟨m, hm⟩ := (l3 k hk').2
    refine ⟨m, ?_⟩
    show rch (eg x) g s m k (if f k < 99999 then f k else 1000000)
    rw [if_pos hk']
    exact hm
  · show (if f k < 99999 then f k else 1000000) ≤ 1000000
    have := l2 k
    split <;> omega
def gW (x : V) (o : Nat) : Nat → Nat → Nat := if o = 1 then gY x else gS
theorem gW_le {x : V} {o : Nat} (a b : Nat) : gW x o a b ≤ 3 := by
  unfold gW
  split
  · exact gY_lt
  · show 1 ≤ 3
    omega
set_option maxHeartbeats 4000000 in
set_option maxRecDepth 100000 in
theorem r_isNearer {d b k v o : Nat} {h : sr_H} {Q : sr_T} {x : V} {f : Nat → Nat} (w : Mdl h) (hx : Wx x) (m : MX h 0 x) (hb : b < 2) (hk : k < 64) (hv : v < 4) (ho : o ≤ 1) (a : AQ h b f) (hf : ∀ j, f j ≤ 99999) (k0 : (∀ j, bynd x (k / 8) (k % 8) v = j + 1 → f j ≤ f k + gW x o k j) → Q (some (.int (nI 0))) h) (k1 : ∀ j, bynd x (k / 8) (k % 8) v = j + 1 → f k + gW x o k j < f j → Q (some (.int (nI 1))) (sI h 179 (64 * b + j) (nI (f k + gW x o k j)))) : sr_M (d + 12) 262 [.ref 141, .int (nI b), .int (nI k), .int (nI (k / 8) + onR v), .int (nI (k % 8) + onC v), .int (nI o)] h Q := by
  classical
  have i1 := fun (Q : sr_T) => r_isOpen (d := d + 7) (r := 0) (u := nI (k / 8) + onR v) (v := nI (k % 8) + onC v) (Q := Q) w (by omega) hx m
  have eo := opn_b (x := x) (r := k / 8) (c := k % 8) hv (by omega) (by omega)
  by_cases z : bynd x (k / 8) (k % 8) v = 0
  · have no : ¬ opn x (nI (k / 8) + onR v) (nI (k % 8) + onC v) := fun y => eo.mp y z
    have kz := k0 (fun j hj => by omega)
    simp (disch := first | assumption | omega) only [Nat.reduceAdd, Nat.reduceLeDiff, Nat.zero_le, true_and, and_true, ↓reduceIte, wB_const, wB_lconst, wB_ldc, wB_getstatic, wB_dupi, wB_dupr, wB_dup2, wB_popi, wB_iadd, wB_isub, wB_imul, wB_iand, wB_ior, wB_ixor, wB_ishl, wB_ishr, wB_iushr, wB_ineg, wB_ladd, wB_lsub, wB_lmul, wB_land, wB_lneg, wB_i2l, wB_l2i, wB_lcmp, wB_idiv, wB_irem, wB_ldiv, wB_lrem, wB_goto, wB_nop, wB_ifeq, wB_ifne, wB_iflt, wB_ifge, wB_ifgt, wB_ifle, wB_icmpeq, wB_icmpne, wB_icmplt, wB_icmpge, wB_icmpgt, wB_icmple, wB_table, wB_lookup, wB_ireturn, wB_zreturn, wB_lreturn, wB_areturn, wB_return, wB_getf, wB_putf, wB_iald, wB_bald, wB_lald, wB_iast, wB_bast, wB_last, wB_min, wB_max, wB_abs, wB_minl, wB_maxl, wB_absl, wB_obj, wB_copy, wB_charAt, wB_strlen, sr_k1i, sr_k1r, sr_k1U, sr_k1l, sr_ms1, sr_ms0, sr_msn, sr_cs1, sr_csm1, sr_csm2, sr_cl1, sr_cl2, sr_szi, sr_szr, sr_szl, sr_szn, sr_tls, sr_tln, wB_il0, wB_ll0, wB_al0, wB_is0, wB_as0, wB_inc0, wB_ls0, wB_il1, wB_ll1, wB_al1, wB_is1, wB_as1, wB_inc1, wB_ls1, wB_il2, wB_ll2, wB_al2, wB_is2, wB_as2, wB_inc2, wB_ls2, wB_il3, wB_ll3, wB_al3, wB_is3, wB_as3, wB_inc3, wB_ls3, wB_il4, wB_ll4, wB_al4, wB_is4, wB_as4, wB_inc4, wB_ls4, wB_il5, wB_ll5, wB_al5, wB_is5, wB_as5, wB_inc5, wB_ls5, wB_il6, wB_ll6, wB_al6, wB_is6, wB_as6, wB_inc6, wB_ls6, wB_il7, wB_ll7, wB_al7, wB_is7, wB_as7, wB_inc7, wB_ls7, lb_262001, lb_262002, lb_262003, lb_262004, cl_237, cl_228, cl_230, obj_11, fld_11_59, arr_11_59, nI_clamp, inb_nI, nI_leI, nI_ltI, nI_eq, nI_z, nI_ge0, nI_lt0, nI_add, n00, n11, n01, n10, true_or, or_true, not_true_eq_false, not_false_eq_true, bI_0, bI_z, Nat.le_refl, Nat.lt_irrefl, Nat.reduceLT, Nat.reduceEqDiff, nI_gt0, nI_le0, en_262, w, i1, no]
    exact kz
  have yo : opn x (nI (k / 8) + onR v) (nI (k % 8) + onC v) := eo.mpr z
  obtain ⟨hin, hbe⟩ := bynd_n z
  have j1 := onR_r (r := k / 8) hv hin.1.1
  have j2 := onC_c (c := k % 8) hv hin.1.2
  have bR := hx.1
  have bC := hx.2.1
  have g1 := hin.2.1
  have g2 := hin.2.2
  rw [j1, j2] at yo i1
  rw [j1, j2]
  have e1 : (8 * gr (k / 8) v + gc (k % 8) v) / 8 = gr (k / 8) v := by omega
  have e2 : (8 * gr (k / 8) v + gc (k % 8) v) % 8 = gc (k % 8) v := by omega
  have i2 := fun (Q : sr_T) => r_seasonAt (d := d) (r := 0) (Q := Q) w (by omega) hx m (show gr (k / 8) v < 64 by omega) (show gc (k % 8) v < 64 by omega)
  have i3 := fun (Q : sr_T) => r_seasonAt (d := d) (r := 0) (Q := Q) w (by omega) hx m (show k / 8 < 64 by omega) (show k % 8 < 64 by omega)
  have s1 := sea_le (x := x) (b := xP x) (r := gr (k / 8) v) (c := gc (k % 8) v) hx
  have s2 := sea_le (x := x) (b := xP x) (r := k / 8) (c := k % 8) hx
  have i4 := fun (Q : sr_T) => r_turnsOf (d := d + 10) (a := sea x (xP x) (gr (k / 8) v) (gc (k % 8) v)) (b := sea x (xP x) (k / 8) (k % 8)) (h := h) (Q := Q) (by omega) (by omega)
  have er := pk_rem (a := k) (d := 8) (by omega) (by omega) (by omega)
  have ed := pk_div (a := k) (d := 8) (by omega) (by omega) (by omega)
  have hj64 : 8 * gr (k / 8) v + gc (k % 8) v < 64 := by omega
  have ak := a k hk
  have aj := a _ hj64
  have f1 := hf k
  have f2 := hf (8 * gr (k / 8) v + gc (k % 8) v)
  have fin : ∀ (A B : Value), sr_W (d + 11) 262003 [.ref 141, .int (nI b), .int (nI k), .int (nI (gr (k / 8) v)), .int (nI (gc (k % 8) v)), B, A, sr_U] [.int (nI (gW x o k (8 * gr (k / 8) v + gc (k % 8) v)))] h Q := by
    intro A B
    have gl := gW_le (x := x) (o := o) k (8 * gr (k / 8) v + gc (k % 8) v)
    have aj' : hI h 179 (64 * b + 8 * gr (k / 8) v + gc (k % 8) v) = nI (f (8 * gr (k / 8) v + gc (k % 8) v)) := by rw [Nat.add_assoc]; exact aj
    rw [lb_262003]
    by_cases q : f (8 * gr (k / 8) v + gc (k % 8) v) ≤ f k + gW x o k (8 * gr (k / 8) v + gc (k % 8) v)
    · have kz := k0 (fun j hj => by have : j = 8 * gr (k / 8) v + gc (k % 8) v := by omega
                                    rw [this]; exact q)
      simp (disch := first | assumption | omega) only [Nat.reduceAdd, Nat.reduceLeDiff, Nat.zero_le, true_and, and_true, ↓reduceIte, wB_const, wB_lconst, wB_ldc, wB_getstatic, wB_dupi, wB_dupr, wB_dup2, wB_popi, wB_iadd, wB_isub, wB_imul, wB_iand, wB_ior, wB_ixor, wB_ishl, wB_ishr, wB_iushr, wB_ineg, wB_ladd, wB_lsub, wB_lmul, wB_land, wB_lneg, wB_i2l, wB_l2i, wB_lcmp, wB_idiv, wB_irem, wB_ldiv, wB_lrem, wB_goto, wB_nop, wB_ifeq, wB_ifne, wB_iflt, wB_ifge, wB_ifgt, wB_ifle, wB_icmpeq, wB_icmpne, wB_icmplt, wB_icmpge, wB_icmpgt, wB_icmple, wB_table, wB_lookup, wB_ireturn, wB_zreturn, wB_lreturn, wB_areturn, wB_return, wB_getf, wB_putf, wB_iald, wB_bald, wB_lald, wB_iast, wB_bast, wB_last, wB_min, wB_max, wB_abs, wB_minl, wB_maxl, wB_absl, wB_obj, wB_copy, wB_charAt, wB_strlen, sr_k1i, sr_k1r, sr_k1U, sr_k1l, sr_ms1, sr_ms0, sr_msn, sr_cs1, sr_csm1, sr_csm2, sr_cl1, sr_cl2, sr_szi, sr_szr, sr_szl, sr_szn, sr_tls, sr_tln, wB_il0, wB_ll0, wB_al0, wB_is0, wB_as0, wB_inc0, wB_ls0, wB_il1, wB_ll1, wB_al1, wB_is1, wB_as1, wB_inc1, wB_ls1, wB_il2, wB_ll2, wB_al2, wB_is2, wB_as2, wB_inc2, wB_ls2, wB_il3, wB_ll3, wB_al3, wB_is3, wB_as3, wB_inc3, wB_ls3, wB_il4, wB_ll4, wB_al4, wB_is4, wB_as4, wB_inc4, wB_ls4, wB_il5, wB_ll5, wB_al5, wB_is5, wB_as5, wB_inc5, wB_ls5, wB_il6, wB_ll6, wB_al6, wB_is6, wB_as6, wB_inc6, wB_ls6, wB_il7, wB_ll7, wB_al7, wB_is7, wB_as7, wB_inc7, wB_ls7, lb_262001, lb_262002, lb_262004, cl_237, cl_228, cl_230, obj_11, fld_11_59, arr_11_59, nI_clamp, inb_nI, nI_leI, nI_ltI, nI_eq, nI_z, nI_ge0, nI_lt0, nI_add, n00, n11, n01, n10, true_or, or_true, not_true_eq_false, not_false_eq_true, bI_0, bI_z, Nat.le_refl, Nat.lt_irrefl, Nat.reduceLT, Nat.reduceEqDiff, nI_gt0, nI_le0, w, pk_mul, show 64 * b + k < 128 by omega, show 64 * b + 8 * gr (k / 8) v + gc (k % 8) v < 128 by omega, ak, aj', show ¬ f k + gW x o k (8 * gr (k / 8) v + gc (k % 8) v) < f (8 * gr (k / 8) v + gc (k % 8) v) by omega]
      exact kz
    · have ky := k1 _ hbe (by omega)
      rw [← Nat.add_assoc] at ky
      simp (disch := first | assumption | omega | (simp (disch := assumption) only [sr_szn, sr_szi, sr_szr, sr_szl, Nat.reduceAdd, Nat.reduceLeDiff, Nat.zero_le, Nat.le_refl, isA_sI, isA_sJ, isA_sC, isA_sF, isI_sI, isI_sJ, isI_sC, isI_sF, isJ_sI, isJ_sJ, isJ_sC, isJ_sF, oK_sI, oK_sJ, oK_sC, oK_sF, lI_sI, lI_sJ, lI_sC, lI_sF, oC_sI, oC_sJ, oC_sC, oC_sF, obj_11, fld_11_59, arr_11_59])) only [Nat.reduceAdd, Nat.reduceLeDiff, Nat.zero_le, true_and, and_true, ↓reduceIte, wB_const, wB_lconst, wB_ldc, wB_getstatic, wB_dupi, wB_dupr, wB_dup2, wB_popi, wB_iadd, wB_isub, wB_imul, wB_iand, wB_ior, wB_ixor, wB_ishl, wB_ishr, wB_iushr, wB_ineg, wB_ladd, wB_lsub, wB_lmul, wB_land, wB_lneg, wB_i2l, wB_l2i, wB_lcmp, wB_idiv, wB_irem, wB_ldiv, wB_lrem, wB_goto, wB_nop, wB_ifeq, wB_ifne, wB_iflt, wB_ifge, wB_ifgt, wB_ifle, wB_icmpeq, wB_icmpne, wB_icmplt, wB_icmpge, wB_icmpgt, wB_icmple, wB_table, wB_lookup, wB_ireturn, wB_zreturn, wB_lreturn, wB_areturn, wB_return, wB_getf, wB_putf, wB_iald, wB_bald, wB_lald, wB_iast, wB_bast, wB_last, wB_min, wB_max, wB_abs, wB_minl, wB_maxl, wB_absl, wB_obj, wB_copy, wB_charAt, wB_strlen, sr_k1i, sr_k1r, sr_k1U, sr_k1l, sr_ms1, sr_ms0, sr_msn, sr_cs1, sr_csm1, sr_csm2, sr_cl1, sr_cl2, sr_szi, sr_szr, sr_szl, sr_szn, sr_tls, sr_tln, wB_il0, wB_ll0, wB_al0, wB_is0, wB_as0, wB_inc0, wB_ls0, wB_il1, wB_ll1, wB_al1, wB_is1, wB_as1, wB_inc1, wB_ls1, wB_il2, wB_ll2, wB_al2, wB_is2, wB_as2, wB_inc2, wB_ls2, wB_il3, wB_ll3, wB_al3, wB_is3, wB_as3, wB_inc3, wB_ls3, wB_il4, wB_ll4, wB_al4, wB_is4, wB_as4, wB_inc4, wB_ls4, wB_il5, wB_ll5, wB_al5, wB_is5, wB_as5, wB_inc5, wB_ls5, wB_il6, wB_ll6, wB_al6, wB_is6, wB_as6, wB_inc6, wB_ls6, wB_il7, wB_ll7, wB_al7, wB_is7, wB_as7, wB_inc7, wB_ls7, lb_262001, lb_262002, lb_262004, cl_237, cl_228, cl_230, obj_11, fld_11_59, arr_11_59, nI_clamp, inb_nI, nI_leI, nI_ltI, nI_eq, nI_z, nI_ge0, nI_lt0, nI_add, n00, n11, n01, n10, true_or, or_true, not_true_eq_false, not_false_eq_true, bI_0, bI_z, Nat.le_refl, Nat.lt_irrefl, Nat.reduceLT, Nat.reduceEqDiff, nI_gt0, nI_le0, w, pk_mul, show 64 * b + k < 128 by omega, show 64 * b + 8 * gr (k / 8) v + gc (k % 8) v < 128 by omega, ak, aj', show f k + gW x o k (8 * gr (k / 8) v + gc (k % 8) v) < f (8 * gr (k / 8) v + gc (k % 8) v) by omega, lI_sI, lI_sJ, lI_sC, lI_sF, lZ_sI, lZ_sJ, lZ_sC, lZ_sF, lJ_sI, lJ_sJ, lJ_sC, lJ_sF, oC_sI, oC_sJ, oC_sC, oC_sF, oF_sI, oF_sJ, oF_sC, oF_sF, sI_1, sJ_1, sF_1, sC_1, sr_okI, sr_okJ, sr_okR, sr_okZ, hI_sJ, hI_sF, hJ_sI, hJ_sF, hJ_sC, hF_sI, hF_sJ, hF_sC, fI_sI, fI_sJ, fI_sC, fJ_sI, fJ_sJ, fJ_sC, hI_n, hI_y, hJ_n, hJ_y, hF_n, hF_y, fI_n, fI_y, fJ_n, fJ_y, hI_c]
      exact ky
  by_cases qo : o = 1
  · subst qo
    have eg : gW x 1 k (8 * gr (k / 8) v + gc (k % 8) v) = (sea x (xP x) (gr (k / 8) v) (gc (k % 8) v) + 8 - sea x (xP x) (k / 8) (k % 8)) % 4 := by
      show gY x k _ = _
      unfold gY
      rw [e1, e2]
    rw [eg] at fin
    simp (disch := first | assumption | omega) only [Nat.reduceAdd, Nat.reduceLeDiff, Nat.zero_le, true_and, and_true, ↓reduceIte, wB_const, wB_lconst, wB_ldc, wB_getstatic, wB_dupi, wB_dupr, wB_dup2, wB_popi, wB_iadd, wB_isub, wB_imul, wB_iand, wB_ior, wB_ixor, wB_ishl, wB_ishr, wB_iushr, wB_ineg, wB_ladd, wB_lsub, wB_lmul, wB_land, wB_lneg, wB_i2l, wB_l2i, wB_lcmp, wB_idiv, wB_irem, wB_ldiv, wB_lrem, wB_goto, wB_nop, wB_ifeq, wB_ifne, wB_iflt, wB_ifge, wB_ifgt, wB_ifle, wB_icmpeq, wB_icmpne, wB_icmplt, wB_icmpge, wB_icmpgt, wB_icmple, wB_table, wB_lookup, wB_ireturn, wB_zreturn, wB_lreturn, wB_areturn, wB_return, wB_getf, wB_putf, wB_iald, wB_bald, wB_lald, wB_iast, wB_bast, wB_last, wB_min, wB_max, wB_abs, wB_minl, wB_maxl, wB_absl, wB_obj, wB_copy, wB_charAt, wB_strlen, sr_k1i, sr_k1r, sr_k1U, sr_k1l, sr_ms1, sr_ms0, sr_msn, sr_cs1, sr_csm1, sr_csm2, sr_cl1, sr_cl2, sr_szi, sr_szr, sr_szl, sr_szn, sr_tls, sr_tln, wB_il0, wB_ll0, wB_al0, wB_is0, wB_as0, wB_inc0, wB_ls0, wB_il1, wB_ll1, wB_al1, wB_is1, wB_as1, wB_inc1, wB_ls1, wB_il2, wB_ll2, wB_al2, wB_is2, wB_as2, wB_inc2, wB_ls2, wB_il3, wB_ll3, wB_al3, wB_is3, wB_as3, wB_inc3, wB_ls3, wB_il4, wB_ll4, wB_al4, wB_is4, wB_as4, wB_inc4, wB_ls4, wB_il5, wB_ll5, wB_al5, wB_is5, wB_as5, wB_inc5, wB_ls5, wB_il6, wB_ll6, wB_al6, wB_is6, wB_as6, wB_inc6, wB_ls6, wB_il7, wB_ll7, wB_al7, wB_is7, wB_as7, wB_inc7, wB_ls7, lb_262001, lb_262002, lb_262004, cl_237, cl_228, cl_230, obj_11, fld_11_59, arr_11_59, nI_clamp, inb_nI, nI_leI, nI_ltI, nI_eq, nI_z, nI_ge0, nI_lt0, nI_add, n00, n11, n01, n10, true_or, or_true, not_true_eq_false, not_false_eq_true, bI_0, bI_z, Nat.le_refl, Nat.lt_irrefl, Nat.reduceLT, Nat.reduceEqDiff, nI_gt0, nI_le0, en_262, w, i1, yo, i2, i3, i4, er, ed, n8z, rm_s, rm_t]
    exact fin _ _
  · have qz : o = 0 := by omega
    subst qz
    simp (disch := first | assumption | omega) only [Nat.reduceAdd, Nat.reduceLeDiff, Nat.zero_le, true_and, and_true, ↓reduceIte, wB_const, wB_lconst, wB_ldc, wB_getstatic, wB_dupi, wB_dupr, wB_dup2, wB_popi, wB_iadd, wB_isub, wB_imul, wB_iand, wB_ior, wB_ixor, wB_ishl, wB_ishr, wB_iushr, wB_ineg, wB_ladd, wB_lsub, wB_lmul, wB_land, wB_lneg, wB_i2l, wB_l2i, wB_lcmp, wB_idiv, wB_irem, wB_ldiv, wB_lrem, wB_goto, wB_nop, wB_ifeq, wB_ifne, wB_iflt, wB_ifge, wB_ifgt, wB_ifle, wB_icmpeq, wB_icmpne, wB_icmplt, wB_icmpge, wB_icmpgt, wB_icmple, wB_table, wB_lookup, wB_ireturn, wB_zreturn, wB_lreturn, wB_areturn, wB_return, wB_getf, wB_putf, wB_iald, wB_bald, wB_lald, wB_iast, wB_bast, wB_last, wB_min, wB_max, wB_abs, wB_minl, wB_maxl, wB_absl, wB_obj, wB_copy, wB_charAt, wB_strlen, sr_k1i, sr_k1r, sr_k1U, sr_k1l, sr_ms1, sr_ms0, sr_msn, sr_cs1, sr_csm1, sr_csm2, sr_cl1, sr_cl2, sr_szi, sr_szr, sr_szl, sr_szn, sr_tls, sr_tln, wB_il0, wB_ll0, wB_al0, wB_is0, wB_as0, wB_inc0, wB_ls0, wB_il1, wB_ll1, wB_al1, wB_is1, wB_as1, wB_inc1, wB_ls1, wB_il2, wB_ll2, wB_al2, wB_is2, wB_as2, wB_inc2, wB_ls2, wB_il3, wB_ll3, wB_al3, wB_is3, wB_as3, wB_inc3, wB_ls3, wB_il4, wB_ll4, wB_al4, wB_is4, wB_as4, wB_inc4, wB_ls4, wB_il5, wB_ll5, wB_al5, wB_is5, wB_as5, wB_inc5, wB_ls5, wB_il6, wB_ll6, wB_al6, wB_is6, wB_as6, wB_inc6, wB_ls6, wB_il7, wB_ll7, wB_al7, wB_is7, wB_as7, wB_inc7, wB_ls7, lb_262001, lb_262002, lb_262004, cl_237, cl_228, cl_230, obj_11, fld_11_59, arr_11_59, nI_clamp, inb_nI, nI_leI, nI_ltI, nI_eq, nI_z, nI_ge0, nI_lt0, nI_add, n00, n11, n01, n10, true_or, or_true, not_true_eq_false, not_false_eq_true, bI_0, bI_z, Nat.le_refl, Nat.lt_irrefl, Nat.reduceLT, Nat.reduceEqDiff, nI_gt0, nI_le0, en_262, w, i1, yo]
    exact fin _ _
