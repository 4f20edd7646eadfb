/-! Frames; Screens: what fits, what covers. -/
def Fr (h h' : sr_H) (P : Nat → Prop) : Prop := SS h h' ∧ ∀ a, ¬ P a → h'.2 a = h.2 a
theorem Fr.rf {h : sr_H} {P : Nat → Prop} : Fr h h P := ⟨SS.rf, fun _ _ => rfl⟩
theorem Fr.tr {h h1 h2 : sr_H} {P : Nat → Prop} (a : Fr h h1 P) (b : Fr h1 h2 P) : Fr h h2 P := ⟨a.1.tr b.1, fun q hq => (b.2 q hq).trans (a.2 q hq)⟩
theorem Fr.mono {h h1 : sr_H} {P P' : Nat → Prop} (a : Fr h h1 P) (hp : ∀ q, P q → P' q) : Fr h h1 P' := ⟨a.1, fun q hq => a.2 q (fun z => hq (hp q z))⟩
theorem hI_of {h h' : sr_H} {a i : Nat} (e : h'.2 a = h.2 a) : hI h' a i = hI h a i := by unfold hI; rw [e]
theorem hJ_of {h h' : sr_H} {a i : Nat} (e : h'.2 a = h.2 a) : hJ h' a i = hJ h a i := by unfold hJ; rw [e]
theorem hF_of {h h' : sr_H} {a i : Nat} (e : h'.2 a = h.2 a) : hF h' a i = hF h a i := by unfold hF; rw [e]
theorem fI_of {h h' : sr_H} {a i : Nat} (e : h'.2 a = h.2 a) : fI h' a i = fI h a i := by unfold fI; rw [hF_of e]
theorem fJ_of {h h' : sr_H} {a i : Nat} (e : h'.2 a = h.2 a) : fJ h' a i = fJ h a i := by unfold fJ; rw [hF_of e]
theorem sI_ne {h : sr_H} {a i b : Nat} {v : Int32} (hb : b ≠ a) : (sI h a i v).2 b = h.2 b := if_neg hb
theorem sJ_ne {h : sr_H} {a i b : Nat} {v : Int64} (hb : b ≠ a) : (sJ h a i v).2 b = h.2 b := if_neg hb
theorem sF_ne {h : sr_H} {a i b : Nat} {v : Value} (hb : b ≠ a) : (sF h a i v).2 b = h.2 b := if_neg hb
theorem sC_ne {h : sr_H} {q sp a dp n b : Nat} (hb : b ≠ a) : (sC h q sp a dp n).2 b = h.2 b := if_neg hb
theorem Fr_sI {h h1 : sr_H} {P : Nat → Prop} (f : Fr h h1 P) {a i : Nat} {v : Int32} (ha : P a) : Fr h (sI h1 a i v) P := ⟨f.1.tr (SS_sI _ _ _ _), fun q hq => (sI_ne (fun e => hq (by rw [e]; exact ha))).trans (f.2 q hq)⟩
theorem Fr_sJ {h h1 : sr_H} {P : Nat → Prop} (f : Fr h h1 P) {a i : Nat} {v : Int64} (ha : P a) : Fr h (sJ h1 a i v) P := ⟨f.1.tr (SS_sJ _ _ _ _), fun q hq => (sJ_ne (fun e => hq (by rw [e]; exact ha))).trans (f.2 q hq)⟩
theorem Fr_sC {h h1 : sr_H} {P : Nat → Prop} (f : Fr h h1 P) {b sp a dp n : Nat} (ha : P a) : Fr h (sC h1 b sp a dp n) P := ⟨f.1.tr (SS_sC _ _ _ _ _ _), fun q hq => (sC_ne (fun e => hq (by rw [e]; exact ha))).trans (f.2 q hq)⟩
theorem Fr_sF {h h1 : sr_H} {P : Nat → Prop} (f : Fr h h1 P) {a k : Nat} {v : Value} (hv : sr_er v = sr_er (hF h1 a k)) (ha : P a) : Fr h (sF h1 a k v) P := ⟨f.1.tr (SS_sF hv), fun q hq => (sF_ne (fun e => hq (by rw [e]; exact ha))).trans (f.2 q hq)⟩
/-- the ones among eight bits -/
def ones (n : Nat) : Nat := n % 2 + n / 2 % 2 + n / 4 % 2 + n / 8 % 2 + n / 16 % 2 + n / 32 % 2 + n / 64 % 2 + n / 128 % 2
def bcE (v : Int32) : Int32 :=
  let a := v - ((v.toUInt32 >>> ((nI 1).toUInt32 &&& Int32.toUInt32 31)).toInt32 &&& nI 1431655765)
  let b := (a &&& nI 858993459) + ((a.toUInt32 >>> ((nI 2).toUInt32 &&& Int32.toUInt32 31)).toInt32 &&& nI 858993459)
  let c := b + (b.toUInt32 >>> ((nI 4).toUInt32 &&& Int32.toUInt32 31)).toInt32 &&& nI 252645135
  let e := c + (c.toUInt32 >>> ((nI 8).toUInt32 &&& Int32.toUInt32 31)).toInt32
  let f := e + (e.toUInt32 >>> ((nI 16).toUInt32 &&& Int32.toUInt32 31)).toInt32
  f &&& nI 63
theorem bcE_ok : ∀ n, n < 256 → bcE (nI n) = nI (ones n) := by decide +kernel
set_option maxRecDepth 100000 in
theorem m_bitCount {d n : Nat} {h : sr_H} {Q : sr_T} (hn : n < 256) : sr_M (d + 1) 297 [.int (nI n)] h Q ↔ Q (some (.int (nI (ones n)))) h := by
  rw [← bcE_ok n hn]
  simp only [en_297, Nat.reduceAdd, Nat.reduceLeDiff, Nat.zero_le, true_and, and_true, ↓reduceIte, wB_const, wB_lconst, wB_ldc, wB_getstatic, wB_dupi, wB_dupr, wB_dup2, wB_popi, wB_iadd, wB_isub, wB_imul, wB_iand, wB_ior, wB_ixor, wB_ishl, wB_ishr, wB_iushr, wB_ineg, wB_ladd, wB_lsub, wB_lmul, wB_land, wB_lneg, wB_i2l, wB_l2i, wB_lcmp, wB_idiv, wB_irem, wB_ldiv, wB_lrem, wB_goto, wB_nop, wB_ifeq, wB_ifne, wB_iflt, wB_ifge, wB_ifgt, wB_ifle, wB_icmpeq, wB_icmpne, wB_icmplt, wB_icmpge, wB_icmpgt, wB_icmple, wB_table, wB_lookup, wB_ireturn, wB_zreturn, wB_lreturn, wB_areturn, wB_return, wB_getf, wB_putf, wB_iald, wB_bald, wB_lald, wB_iast, wB_bast, wB_last, wB_min, wB_max, wB_abs, wB_minl, wB_maxl, wB_absl, wB_obj, wB_copy, wB_charAt, wB_strlen, sr_k1i, sr_k1r, sr_k1U, sr_k1l, sr_ms1, sr_ms0, sr_msn, sr_cs1, sr_csm1, sr_csm2, sr_cl1, sr_cl2, sr_szi, sr_szr, sr_szl, sr_szn, sr_tls, sr_tln, wB_il0, wB_ll0, wB_al0, wB_is0, wB_as0, wB_inc0, wB_ls0, wB_il1, wB_ll1, wB_al1, wB_is1, wB_as1, wB_inc1, wB_ls1, wB_il2, wB_ll2, wB_al2, wB_is2, wB_as2, wB_inc2, wB_ls2, wB_il3, wB_ll3, wB_al3, wB_is3, wB_as3, wB_inc3, wB_ls3, wB_il4, wB_ll4, wB_al4, wB_is4, wB_as4, wB_inc4, wB_ls4, wB_il5, wB_ll5, wB_al5, wB_is5, wB_as5, wB_inc5, wB_ls5, wB_il6, wB_ll6, wB_al6, wB_is6, wB_as6, wB_inc6, wB_ls6, wB_il7, wB_ll7, wB_al7, wB_is7, wB_as7, wB_inc7, wB_ls7]
  exact Iff.rfl
set_option maxRecDepth 100000 in
theorem m_cellOf {d r c : Nat} {h : sr_H} {Q : sr_T} : sr_M (d + 1) 85 [.int (nI r), .int (nI c)] h Q ↔ Q (some (.int (nI (8 * r + c)))) h := by
  simp only [en_85, Nat.reduceAdd, Nat.reduceLeDiff, Nat.zero_le, true_and, and_true, ↓reduceIte, wB_const, wB_lconst, wB_ldc, wB_getstatic, wB_dupi, wB_dupr, wB_dup2, wB_popi, wB_iadd, wB_isub, wB_imul, wB_iand, wB_ior, wB_ixor, wB_ishl, wB_ishr, wB_iushr, wB_ineg, wB_ladd, wB_lsub, wB_lmul, wB_land, wB_lneg, wB_i2l, wB_l2i, wB_lcmp, wB_idiv, wB_irem, wB_ldiv, wB_lrem, wB_goto, wB_nop, wB_ifeq, wB_ifne, wB_iflt, wB_ifge, wB_ifgt, wB_ifle, wB_icmpeq, wB_icmpne, wB_icmplt, wB_icmpge, wB_icmpgt, wB_icmple, wB_table, wB_lookup, wB_ireturn, wB_zreturn, wB_lreturn, wB_areturn, wB_return, wB_getf, wB_putf, wB_iald, wB_bald, wB_lald, wB_iast, wB_bast, wB_last, wB_min, wB_max, wB_abs, wB_minl, wB_maxl, wB_absl, wB_obj, wB_copy, wB_charAt, wB_strlen, sr_k1i, sr_k1r, sr_k1U, sr_k1l, sr_ms1, sr_ms0, sr_msn, sr_cs1, sr_csm1, sr_csm2, sr_cl1, sr_cl2, sr_szi, sr_szr, sr_szl, sr_szn, sr_tls, sr_tln, wB_il0, wB_ll0, wB_al0, wB_is0, wB_as0, wB_inc0, wB_ls0, wB_il1, wB_ll1, wB_al1, wB_is1, wB_as1, wB_inc1, wB_ls1, wB_il2, wB_ll2, wB_al2, wB_is2, wB_as2, wB_inc2, wB_ls2, wB_il3, wB_ll3, wB_al3, wB_is3, wB_as3, wB_inc3, wB_ls3, wB_il4, wB_ll4, wB_al4, wB_is4, wB_as4, wB_inc4, wB_ls4, wB_il5, wB_ll5, wB_al5, wB_is5, wB_as5, wB_inc5, wB_ls5, wB_il6, wB_ll6, wB_al6, wB_is6, wB_as6, wB_inc6, wB_ls6, wB_il7, wB_ll7, wB_al7, wB_is7, wB_as7, wB_inc7, wB_ls7, pk_mul, nI_add, Nat.mul_comm r 8]
theorem n8 : ¬ nI 8 = 0 := by decide
set_option maxRecDepth 100000 in
theorem m_rowOf {d k : Nat} {h : sr_H} {Q : sr_T} (hk : k < 2 ^ 31) : sr_M (d + 1) 86 [.int (nI k)] h Q ↔ Q (some (.int (nI (k / 8)))) h := by
  simp (disch := first | assumption | omega) only [en_86, Nat.reduceAdd, Nat.reduceLeDiff, Nat.zero_le, true_and, and_true, ↓reduceIte, wB_const, wB_lconst, wB_ldc, wB_getstatic, wB_dupi, wB_dupr, wB_dup2, wB_popi, wB_iadd, wB_isub, wB_imul, wB_iand, wB_ior, wB_ixor, wB_ishl, wB_ishr, wB_iushr, wB_ineg, wB_ladd, wB_lsub, wB_lmul, wB_land, wB_lneg, wB_i2l, wB_l2i, wB_lcmp, wB_idiv, wB_irem, wB_ldiv, wB_lrem, wB_goto, wB_nop, wB_ifeq, wB_ifne, wB_iflt, wB_ifge, wB_ifgt, wB_ifle, wB_icmpeq, wB_icmpne, wB_icmplt, wB_icmpge, wB_icmpgt, wB_icmple, wB_table, wB_lookup, wB_ireturn, wB_zreturn, wB_lreturn, wB_areturn, wB_return, wB_getf, wB_putf, wB_iald, wB_bald, wB_lald, wB_iast, wB_bast, wB_last, wB_min, wB_max, wB_abs, wB_minl, wB_maxl, wB_absl, wB_obj, wB_copy, wB_charAt, wB_strlen, sr_k1i, sr_k1r, sr_k1U, sr_k1l, sr_ms1, sr_ms0, sr_msn, sr_cs1, sr_csm1, sr_csm2, sr_cl1, sr_cl2, sr_szi, sr_szr, sr_szl, sr_szn, sr_tls, sr_tln, wB_il0, wB_ll0, wB_al0, wB_is0, wB_as0, wB_inc0, wB_ls0, wB_il1, wB_ll1, wB_al1, wB_is1, wB_as1, wB_inc1, wB_ls1, wB_il2, wB_ll2, wB_al2, wB_is2, wB_as2, wB_inc2, wB_ls2, wB_il3, wB_ll3, wB_al3, wB_is3, wB_as3, wB_inc3, wB_ls3, wB_il4, wB_ll4, wB_al4, wB_is4, wB_as4, wB_inc4, wB_ls4, wB_il5, wB_ll5, wB_al5, wB_is5, wB_as5, wB_inc5, wB_ls5, wB_il6, wB_ll6, wB_al6, wB_is6, wB_as6, wB_inc6, wB_ls6, wB_il7, wB_ll7, wB_al7, wB_is7, wB_as7, wB_inc7, wB_ls7, pk_div, n8, not_false_eq_true]
set_option maxRecDepth 100000 in
theorem m_columnOf {d k : Nat} {h : sr_H} {Q : sr_T} (hk : k < 2 ^ 31) : sr_M (d + 1) 87 [.int (nI k)] h Q ↔ Q (some (.int (nI (k % 8)))) h := by
  simp (disch := first | assumption | omega) only [en_87, Nat.reduceAdd, Nat.reduceLeDiff, Nat.zero_le, true_and, and_true, ↓reduceIte, wB_const, wB_lconst, wB_ldc, wB_getstatic, wB_dupi, wB_dupr, wB_dup2, wB_popi, wB_iadd, wB_isub, wB_imul, wB_iand, wB_ior, wB_ixor, wB_ishl, wB_ishr, wB_iushr, wB_ineg, wB_ladd, wB_lsub, wB_lmul, wB_land, wB_lneg, wB_i2l, wB_l2i, wB_lcmp, wB_idiv, wB_irem, wB_ldiv, wB_lrem, wB_goto, wB_nop, wB_ifeq, wB_ifne, wB_iflt, wB_ifge, wB_ifgt, wB_ifle, wB_icmpeq, wB_icmpne, wB_icmplt, wB_icmpge, wB_icmpgt, wB_icmple, wB_table, wB_lookup, wB_ireturn, wB_zreturn, wB_lreturn, wB_areturn, wB_return, wB_getf, wB_putf, wB_iald, wB_bald, wB_lald, wB_iast, wB_bast, wB_last, wB_min, wB_max, wB_abs, wB_minl, wB_maxl, wB_absl, wB_obj, wB_copy, wB_charAt, wB_strlen, sr_k1i, sr_k1r, sr_k1U, sr_k1l, sr_ms1, sr_ms0, sr_msn, sr_cs1, sr_csm1, sr_csm2, sr_cl1, sr_cl2, sr_szi, sr_szr, sr_szl, sr_szn, sr_tls, sr_tln, wB_il0, wB_ll0, wB_al0, wB_is0, wB_as0, wB_inc0, wB_ls0, wB_il1, wB_ll1, wB_al1, wB_is1, wB_as1, wB_inc1, wB_ls1, wB_il2, wB_ll2, wB_al2, wB_is2, wB_as2, wB_inc2, wB_ls2, wB_il3, wB_ll3, wB_al3, wB_is3, wB_as3, wB_inc3, wB_ls3, wB_il4, wB_ll4, wB_al4, wB_is4, wB_as4, wB_inc4, wB_ls4, wB_il5, wB_ll5, wB_al5, wB_is5, wB_as5, wB_inc5, wB_ls5, wB_il6, wB_ll6, wB_al6, wB_is6, wB_as6, wB_inc6, wB_ls6, wB_il7, wB_ll7, wB_al7, wB_is7, wB_as7, wB_inc7, wB_ls7, pk_rem, n8, not_false_eq_true]
theorem bI_congr {p q : Prop} {dp : Decidable p} {dq : Decidable q} (h : p ↔ q) : bI p dp = bI q dq := by
  unfold bI
  by_cases hp : p
  · rw [if_pos hp, if_pos (h.mp hp)]
  · rw [if_neg hp, if_neg (fun z => hp (h.mpr z))]
theorem ite_bI {p : Prop} {dp : Decidable p} {Q : sr_T} {h : sr_H} : (if p then Q (some (.int (nI 1))) h else Q (some (.int (nI 0))) h) ↔ Q (some (.int (bI p dp))) h := by
  unfold bI
  by_cases hp : p <;> simp [hp, nI_0, show nI 1 = 1 from rfl]
set_option maxRecDepth 100000 in
theorem m_isAnySeason {d : Nat} {v : Int32} {h : sr_H} {Q : sr_T} : sr_M (d + 1) 88 [.int v] h Q ↔ Q (some (.int (bI (inb v 5) (Classical.propDecidable _)))) h := by
  simp only [en_88, Nat.reduceAdd, Nat.reduceLeDiff, Nat.zero_le, true_and, and_true, ↓reduceIte, wB_const, wB_lconst, wB_ldc, wB_getstatic, wB_dupi, wB_dupr, wB_dup2, wB_popi, wB_iadd, wB_isub, wB_imul, wB_iand, wB_ior, wB_ixor, wB_ishl, wB_ishr, wB_iushr, wB_ineg, wB_ladd, wB_lsub, wB_lmul, wB_land, wB_lneg, wB_i2l, wB_l2i, wB_lcmp, wB_idiv, wB_irem, wB_ldiv, wB_lrem, wB_goto, wB_nop, wB_ifeq, wB_ifne, wB_iflt, wB_ifge, wB_ifgt, wB_ifle, wB_icmpeq, wB_icmpne, wB_icmplt, wB_icmpge, wB_icmpgt, wB_icmple, wB_table, wB_lookup, wB_ireturn, wB_zreturn, wB_lreturn, wB_areturn, wB_return, wB_getf, wB_putf, wB_iald, wB_bald, wB_lald, wB_iast, wB_bast, wB_last, wB_min, wB_max, wB_abs, wB_minl, wB_maxl, wB_absl, wB_obj, wB_copy, wB_charAt, wB_strlen, sr_k1i, sr_k1r, sr_k1U, sr_k1l, sr_ms1, sr_ms0, sr_msn, sr_cs1, sr_csm1, sr_csm2, sr_cl1, sr_cl2, sr_szi, sr_szr, sr_szl, sr_szn, sr_tls, sr_tln, wB_il0, wB_ll0, wB_al0, wB_is0, wB_as0, wB_inc0, wB_ls0, wB_il1, wB_ll1, wB_al1, wB_is1, wB_as1, wB_inc1, wB_ls1, wB_il2, wB_ll2, wB_al2, wB_is2, wB_as2, wB_inc2, wB_ls2, wB_il3, wB_ll3, wB_al3, wB_is3, wB_as3, wB_inc3, wB_ls3, wB_il4, wB_ll4, wB_al4, wB_is4, wB_as4, wB_inc4, wB_ls4, wB_il5, wB_ll5, wB_al5, wB_is5, wB_as5, wB_inc5, wB_ls5, wB_il6, wB_ll6, wB_al6, wB_is6, wB_as6, wB_inc6, wB_ls6, wB_il7, wB_ll7, wB_al7, wB_is7, wB_as7, wB_inc7, wB_ls7, lb_88001, lb_88002, n00, n11, true_or, or_true]
  by_cases h1 : v < 0
  · have : ¬ inb v 5 := fun q => q.1 h1
    simp [h1, this, bI, nI_0]
  · obtain ⟨j, hj, rfl⟩ := nI_of h1
    by_cases h2 : 4 < j
    · have h3 : nI 4 < nI j := nI_lt h2 hj
      have : ¬ inb (nI j) 5 := by rw [inb_nI hj]; omega
      simp [h1, h3, this, bI, nI_0]
    · have h3 : ¬ nI 4 < nI j := nI_nlt (by omega) (by decide)
      have : inb (nI j) 5 := by rw [inb_nI hj]; omega
      simp [h1, h3, this, bI, show nI 1 = 1 from rfl]
theorem inb_le {v : Int32} {n : Nat} (hn : n < 2 ^ 31) : (¬ v < 0 ∧ ¬ nI n ≤ v) ↔ inb v n := by
  by_cases h1 : v < 0
  · exact ⟨fun q => absurd h1 q.1, fun q => absurd h1 q.1⟩
  · obtain ⟨j, hj, rfl⟩ := nI_of h1
    rw [inb_nI hj, nI_leI hn hj]
    exact ⟨fun q => by omega, fun q => ⟨h1, by omega⟩⟩
set_option maxRecDepth 100000 in
theorem m_isScreen {d S : Nat} {v : Int32} {h : sr_H} {Q : sr_T} {x : V} (w : Scr h S) (hx : Wx x) (rp : SC h S x) : sr_M (d + 1) 91 [.ref S, .int v] h Q ↔ Q (some (.int (bI (inb v (xN x)) (Classical.propDecidable _)))) h := by
  have hN := hx.2.2.1
  simp only [en_91, Nat.reduceAdd, Nat.reduceLeDiff, Nat.zero_le, true_and, and_true, ↓reduceIte, wB_const, wB_lconst, wB_ldc, wB_getstatic, wB_dupi, wB_dupr, wB_dup2, wB_popi, wB_iadd, wB_isub, wB_imul, wB_iand, wB_ior, wB_ixor, wB_ishl, wB_ishr, wB_iushr, wB_ineg, wB_ladd, wB_lsub, wB_lmul, wB_land, wB_lneg, wB_i2l, wB_l2i, wB_lcmp, wB_idiv, wB_irem, wB_ldiv, wB_lrem, wB_goto, wB_nop, wB_ifeq, wB_ifne, wB_iflt, wB_ifge, wB_ifgt, wB_ifle, wB_icmpeq, wB_icmpne, wB_icmplt, wB_icmpge, wB_icmpgt, wB_icmple, wB_table, wB_lookup, wB_ireturn, wB_zreturn, wB_lreturn, wB_areturn, wB_return, wB_getf, wB_putf, wB_iald, wB_bald, wB_lald, wB_iast, wB_bast, wB_last, wB_min, wB_max, wB_abs, wB_minl, wB_maxl, wB_absl, wB_obj, wB_copy, wB_charAt, wB_strlen, sr_k1i, sr_k1r, sr_k1U, sr_k1l, sr_ms1, sr_ms0, sr_msn, sr_cs1, sr_csm1, sr_csm2, sr_cl1, sr_cl2, sr_szi, sr_szr, sr_szl, sr_szn, sr_tls, sr_tln, wB_il0, wB_ll0, wB_al0, wB_is0, wB_as0, wB_inc0, wB_ls0, wB_il1, wB_ll1, wB_al1, wB_is1, wB_as1, wB_inc1, wB_ls1, wB_il2, wB_ll2, wB_al2, wB_is2, wB_as2, wB_inc2, wB_ls2, wB_il3, wB_ll3, wB_al3, wB_is3, wB_as3, wB_inc3, wB_ls3, wB_il4, wB_ll4, wB_al4, wB_is4, wB_as4, wB_inc4, wB_ls4, wB_il5, wB_ll5, wB_al5, wB_is5, wB_as5, wB_inc5, wB_ls5, wB_il6, wB_ll6, wB_al6, wB_is6, wB_as6, wB_inc6, wB_ls6, wB_il7, wB_ll7, wB_al7, wB_is7, wB_as7, wB_inc7, wB_ls7, lb_91001, lb_91002, fld_6_2, w, n00, n11, true_or, or_true, rp.2.2.1]
  refine Iff.trans ?_ ite_bI
  have := inb_le (v := v) (n := xN x) (by omega)
  by_cases h1 : v < 0 <;> by_cases h2 : nI (xN x) ≤ v <;> simp [h1, h2, ← this]
set_option maxRecDepth 100000 in
theorem m_isCellx {d S : Nat} {h : sr_H} {r c : Int32} {Q : sr_T} {x : V} (w : Scr h S) (hx : Wx x) (rp : SC h S x) : sr_M (d + 1) 92 [.ref S, .int r, .int c] h Q ↔ Q (some (.int (bI (inb r (xR x) ∧ inb c (xC x)) (Classical.propDecidable _)))) h := by
  have h1 := hx.1
  have h2 := hx.2.1
  rw [m_isCell w, rp.1, rp.2.1]
  have e1 := inb_le (v := r) (n := xR x) (by omega)
  have e2 := inb_le (v := c) (n := xC x) (by omega)
  have : (¬ r < 0 ∧ ¬ nI (xR x) ≤ r ∧ ¬ c < 0 ∧ ¬ nI (xC x) ≤ c) ↔ (inb r (xR x) ∧ inb c (xC x)) := by
    rw [← e1, ← e2, and_assoc]
  rw [bI_congr this]
set_option maxRecDepth 100000 in
theorem m_isThere {d S s : Nat} {h : sr_H} {Q : sr_T} {x : V} (w : Scr h S) (hx : Wx x) (rp : SC h S x) (hs : s < 32) : sr_M (d + 1) 93 [.ref S, .int (nI s)] h Q ↔ Q (some (.int (bI (xP x / 2 ^ s % 2 = 1) (Classical.propDecidable _)))) h := by
  have hP := hx.2.2.2.1
  simp (disch := first | assumption | omega) only [en_93, Nat.reduceAdd, Nat.reduceLeDiff, Nat.zero_le, true_and, and_true, ↓reduceIte, wB_const, wB_lconst, wB_ldc, wB_getstatic, wB_dupi, wB_dupr, wB_dup2, wB_popi, wB_iadd, wB_isub, wB_imul, wB_iand, wB_ior, wB_ixor, wB_ishl, wB_ishr, wB_iushr, wB_ineg, wB_ladd, wB_lsub, wB_lmul, wB_land, wB_lneg, wB_i2l, wB_l2i, wB_lcmp, wB_idiv, wB_irem, wB_ldiv, wB_lrem, wB_goto, wB_nop, wB_ifeq, wB_ifne, wB_iflt, wB_ifge, wB_ifgt, wB_ifle, wB_icmpeq, wB_icmpne, wB_icmplt, wB_icmpge, wB_icmpgt, wB_icmple, wB_table, wB_lookup, wB_ireturn, wB_zreturn, wB_lreturn, wB_areturn, wB_return, wB_getf, wB_putf, wB_iald, wB_bald, wB_lald, wB_iast, wB_bast, wB_last, wB_min, wB_max, wB_abs, wB_minl, wB_maxl, wB_absl, wB_obj, wB_copy, wB_charAt, wB_strlen, sr_k1i, sr_k1r, sr_k1U, sr_k1l, sr_ms1, sr_ms0, sr_msn, sr_cs1, sr_csm1, sr_csm2, sr_cl1, sr_cl2, sr_szi, sr_szr, sr_szl, sr_szn, sr_tls, sr_tln, wB_il0, wB_ll0, wB_al0, wB_is0, wB_as0, wB_inc0, wB_ls0, wB_il1, wB_ll1, wB_al1, wB_is1, wB_as1, wB_inc1, wB_ls1, wB_il2, wB_ll2, wB_al2, wB_is2, wB_as2, wB_inc2, wB_ls2, wB_il3, wB_ll3, wB_al3, wB_is3, wB_as3, wB_inc3, wB_ls3, wB_il4, wB_ll4, wB_al4, wB_is4, wB_as4, wB_inc4, wB_ls4, wB_il5, wB_ll5, wB_al5, wB_is5, wB_as5, wB_inc5, wB_ls5, wB_il6, wB_ll6, wB_al6, wB_is6, wB_as6, wB_inc6, wB_ls6, wB_il7, wB_ll7, wB_al7, wB_is7, wB_as7, wB_inc7, wB_ls7, lb_93001, lb_93002, fld_6_3, w, n00, n11, true_or, or_true, rp.2.2.2.1, nI_bit]
  refine Iff.trans ?_ ite_bI
  by_cases hq : xP x / 2 ^ s % 2 = 1 <;> simp [hq]
/-- a screen covers a cell, cut leaves too -/
def cov (x : V) (o r c : Nat) : Prop := if sD x o = 1 then c = sK x o ∧ sR x o ≤ r ∧ r < sR x o + sL x o else r = sR x o ∧ sK x o ≤ c ∧ c < sK x o + sL x o
theorem nI_d0 {a b : Nat} (ha : a < 2 ^ 30) (hb : b < 2 ^ 30) : nI a - nI b = 0 ↔ a = b := by
  constructor
  · intro e
    have h1 := pk_sub_toInt ha hb
    rw [e, Int32.toInt_zero] at h1
    omega
  · rintro rfl
    exact Int32.sub_self _
theorem nI_dlt {a b : Nat} (ha : a < 2 ^ 30) (hb : b < 2 ^ 30) : nI a - nI b < 0 ↔ a < b := by
  rw [Int32.lt_iff_toInt_lt, pk_sub_toInt ha hb, Int32.toInt_zero]
  omega
theorem nI_dle {a b n : Nat} (ha : a < 2 ^ 30) (hb : b < 2 ^ 30) (hn : n < 2 ^ 30) : nI n ≤ nI a - nI b ↔ b + n ≤ a := by
  rw [Int32.le_iff_toInt_le, pk_sub_toInt ha hb, nI_toInt (by omega)]
  omega
set_option maxHeartbeats 2000000 in
set_option maxRecDepth 100000 in
theorem m_covers {d S o r c : Nat} {h : sr_H} {Q : sr_T} {x : V} (w : Scr h S) (hx : Wx x) (rp : SC h S x) (ho : o < xN x) (hr : r < 64) (hc : c < 64) : sr_M (d + 1) 97 [.ref S, .int (nI o), .int (nI r), .int (nI c)] h Q ↔ Q (some (.int (bI (cov x o r c) (Classical.propDecidable _)))) h := by
  have hN := hx.2.2.1
  obtain ⟨h1, h2, h3, h4, h5, h6⟩ := hx.2.2.2.2 o ho
  obtain ⟨e1, e2, e3, e4, e5, e6⟩ := rp.2.2.2.2 o ho
  have ho5 : o < 5 := by omega
  refine Iff.trans ?_ ite_bI
  by_cases hd : sD x o = 1
  · simp (disch := first | assumption | omega) only [en_97, Nat.reduceAdd, Nat.reduceLeDiff, Nat.zero_le, true_and, and_true, ↓reduceIte, wB_const, wB_lconst, wB_ldc, wB_getstatic, wB_dupi, wB_dupr, wB_dup2, wB_popi, wB_iadd, wB_isub, wB_imul, wB_iand, wB_ior, wB_ixor, wB_ishl, wB_ishr, wB_iushr, wB_ineg, wB_ladd, wB_lsub, wB_lmul, wB_land, wB_lneg, wB_i2l, wB_l2i, wB_lcmp, wB_idiv, wB_irem, wB_ldiv, wB_lrem, wB_goto, wB_nop, wB_ifeq, wB_ifne, wB_iflt, wB_ifge, wB_ifgt, wB_ifle, wB_icmpeq, wB_icmpne, wB_icmplt, wB_icmpge, wB_icmpgt, wB_icmple, wB_table, wB_lookup, wB_ireturn, wB_zreturn, wB_lreturn, wB_areturn, wB_return, wB_getf, wB_putf, wB_iald, wB_bald, wB_lald, wB_iast, wB_bast, wB_last, wB_min, wB_max, wB_abs, wB_minl, wB_maxl, wB_absl, wB_obj, wB_copy, wB_charAt, wB_strlen, sr_k1i, sr_k1r, sr_k1U, sr_k1l, sr_ms1, sr_ms0, sr_msn, sr_cs1, sr_csm1, sr_csm2, sr_cl1, sr_cl2, sr_szi, sr_szr, sr_szl, sr_szn, sr_tls, sr_tln, wB_il0, wB_ll0, wB_al0, wB_is0, wB_as0, wB_inc0, wB_ls0, wB_il1, wB_ll1, wB_al1, wB_is1, wB_as1, wB_inc1, wB_ls1, wB_il2, wB_ll2, wB_al2, wB_is2, wB_as2, wB_inc2, wB_ls2, wB_il3, wB_ll3, wB_al3, wB_is3, wB_as3, wB_inc3, wB_ls3, wB_il4, wB_ll4, wB_al4, wB_is4, wB_as4, wB_inc4, wB_ls4, wB_il5, wB_ll5, wB_al5, wB_is5, wB_as5, wB_inc5, wB_ls5, wB_il6, wB_ll6, wB_al6, wB_is6, wB_as6, wB_inc6, wB_ls6, wB_il7, wB_ll7, wB_al7, wB_is7, wB_as7, wB_inc7, wB_ls7, lb_97001, lb_97002, lb_97003, lb_97004, lb_97005, lb_97006, fld_6_6, arr_6_6, fld_6_7, arr_6_7, fld_6_9, arr_6_9, fld_6_8, arr_6_8, w, n00, n11, true_or, or_true, e2, e3, e4, e5, nI_clamp, inb_nI, ho5, nI_eq, hd, cov, nI_d0, nI_dlt, nI_dle]
    by_cases a1 : c = sK x o <;> by_cases a2 : r < sR x o <;> by_cases a3 : sR x o + sL x o ≤ r <;> simp [a1, a2, a3] <;> intros <;> omega
  · simp (disch := first | assumption | omega) only [en_97, Nat.reduceAdd, Nat.reduceLeDiff, Nat.zero_le, true_and, and_true, ↓reduceIte, wB_const, wB_lconst, wB_ldc, wB_getstatic, wB_dupi, wB_dupr, wB_dup2, wB_popi, wB_iadd, wB_isub, wB_imul, wB_iand, wB_ior, wB_ixor, wB_ishl, wB_ishr, wB_iushr, wB_ineg, wB_ladd, wB_lsub, wB_lmul, wB_land, wB_lneg, wB_i2l, wB_l2i, wB_lcmp, wB_idiv, wB_irem, wB_ldiv, wB_lrem, wB_goto, wB_nop, wB_ifeq, wB_ifne, wB_iflt, wB_ifge, wB_ifgt, wB_ifle, wB_icmpeq, wB_icmpne, wB_icmplt, wB_icmpge, wB_icmpgt, wB_icmple, wB_table, wB_lookup, wB_ireturn, wB_zreturn, wB_lreturn, wB_areturn, wB_return, wB_getf, wB_putf, wB_iald, wB_bald, wB_lald, wB_iast, wB_bast, wB_last, wB_min, wB_max, wB_abs, wB_minl, wB_maxl, wB_absl, wB_obj, wB_copy, wB_charAt, wB_strlen, sr_k1i, sr_k1r, sr_k1U, sr_k1l, sr_ms1, sr_ms0, sr_msn, sr_cs1, sr_csm1, sr_csm2, sr_cl1, sr_cl2, sr_szi, sr_szr, sr_szl, sr_szn, sr_tls, sr_tln, wB_il0, wB_ll0, wB_al0, wB_is0, wB_as0, wB_inc0, wB_ls0, wB_il1, wB_ll1, wB_al1, wB_is1, wB_as1, wB_inc1, wB_ls1, wB_il2, wB_ll2, wB_al2, wB_is2, wB_as2, wB_inc2, wB_ls2, wB_il3, wB_ll3, wB_al3, wB_is3, wB_as3, wB_inc3, wB_ls3, wB_il4, wB_ll4, wB_al4, wB_is4, wB_as4, wB_inc4, wB_ls4, wB_il5, wB_ll5, wB_al5, wB_is5, wB_as5, wB_inc5, wB_ls5, wB_il6, wB_ll6, wB_al6, wB_is6, wB_as6, wB_inc6, wB_ls6, wB_il7, wB_ll7, wB_al7, wB_is7, wB_as7, wB_inc7, wB_ls7, lb_97001, lb_97002, lb_97003, lb_97004, lb_97005, lb_97006, fld_6_6, arr_6_6, fld_6_7, arr_6_7, fld_6_9, arr_6_9, fld_6_8, arr_6_8, w, n00, n11, true_or, or_true, e2, e3, e4, e5, nI_clamp, inb_nI, ho5, nI_eq, hd, cov, nI_d0, nI_dlt, nI_dle]
    by_cases a1 : r = sR x o <;> by_cases a2 : c < sK x o <;> by_cases a3 : sK x o + sL x o ≤ c <;> simp [a1, a2, a3] <;> intros <;> omega
