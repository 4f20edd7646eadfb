/-! The law's case of folk. -/
section LWG
variable {p : Program} {l : Launch} {e : Env} {s : State} {m : MethodId} {below : List Frame} {meth : Method} {c : Code} {b L : Nat} {xs : Nat → Int32} {G : sr_G} {H : Heap} {locs : List Loc} {cells slots : Nat} {Q : State → Prop} {ls : Array Slot} {h h2 : sr_H} {k : Nat}
set_option maxHeartbeats 2000000 in
/-- behind the law's own folk: the reference, and what it says it threw -/
theorem lf_rest {kN DB : Nat} {u : Int32} (E : lw_E p s m meth c b L xs G) (hk : k + 6 ≤ L) (hl : lv_has ls 7 (lw_V G b k)) (j0 : JX h) (h1 : h.1.1 = 187) (kr : sr_M DB 249 [.ref 141, .int (xs (k + 1)), .int (xs (k + 2))] h (fun r2 h2 => r2 = some (.int u) ∧ JX h2 ∧ gf h h2 ∧ fI h2 141 0 = nI kN)) (hDB : DB ≤ 1000) (hat : sr_at G h H) (hS : va_S (sr_A G) s.heap H locs) (hc : cells ≤ 601024) (hs : slots ≤ 7293034)
    (kk : ∀ (h2 : sr_H) (H1 : Heap) (locs1 : List Loc) (ls1 : Array Slot), JX h2 → gf h h2 → sr_at G h2 H1 → va_S (sr_A G) s.heap H1 locs1 → lv_has ls1 7 [(6, .int u), (5, .int (nI kN)), (0, .ref b), (1, .ref (G.1 + 0)), (2, .ref (G.1 + 141)), (3, .ref (G.1 + 186)), (4, .int (nI k))] → W p l e room_1 s m #[Value.ref b] below meth c H1 locs1 cells slots Q (F0 m 408 ls1 [])) : W p l e room_1 s m #[Value.ref b] below meth c H locs cells slots Q (F0 m 377 ls [.int (nI kN)]) := by
  have E' := E
  obtain ⟨⟨hx, hb, hr, hml, hown, hts, hX0, hbl, hlocks, hgv⟩, hL, hkn, hG⟩ := E'
  obtain ⟨n1, r1, h2, e1, rfl, j2, g2, f2⟩ := kr
  obtain ⟨dB, rfl⟩ := cf_pos e1
  obtain ⟨n3, r3, h3, e3, hr3, hh3⟩ := j_thrown (d := 0) j2 f2
  rw [hr3, hh3] at e3
  have hmx : sr_mx = 187 := rfl
  have h2e : h2.1 = h.1 := g2.2.1
  have h21 : h2.1.1 = 187 := by rw [h2e]; exact h1
  obtain ⟨fm, om⟩ := JX_m j0
  obtain ⟨fm2, om2⟩ := JX_m j2
  have q1 : sr_mq 249 = 0 ∧ sr_np 249 = 2 ∧ sr_mc 249 = 11 ∧ 3 ≤ sr_ml 249 := by decide +kernel
  have q2 : sr_mq 169 = 0 ∧ sr_np 169 = 0 ∧ sr_mc 169 = 11 ∧ 1 ≤ sr_ml 169 := by decide +kernel
  refine lv_istore (lv' := [(5, .int (nI kN)), (0, .ref b), (1, .ref (G.1 + 0)), (2, .ref (G.1 + 141)), (3, .ref (G.1 + 186)), (4, .int (nI k))]) hx hb (dk_ok (by decide +kernel : dk 377 (.istore 5) 2 = true)) hl (by decide) rfl (fun ls1 hl1 => ?_)
  have hl1' : lv_has ls1 7 (lw_V G b k) := lv_sub hl1 [1, 2, 3, 4, 5] rfl
  refine lv_aload_n hx hb (dk_ok (by decide +kernel : dk 379 (.aload_n 2) 1 = true)) rfl (lv_at hl1 3 rfl) ?_
  refine lw_args E hl1' hS 2 1 380 _ (by omega) (by omega) (by decide +kernel) ?_
  refine lw_call (mid := 249) (idx := 44) (a := 141) (as := [.int (xs (k + 1)), .int (xs (k + 2))]) (rest := []) E hl1.1 (by decide) q1.1 q1.2.1.symm q1.2.2.2 (sr_wd_in (j := 1883) (by decide +kernel)) (by omega) e1 (by omega) ⟨fm, by rw [q1.2.2.1]; exact om⟩ (by omega) h2e hat hS hc hs (by decide +kernel : dk 392 (.invokevirtual 44) 3 = true) (Nat.zero_le _) (fun H1 locs1 hat1 hS1 => ?_)
  refine lv_istore (lv' := [(6, .int u), (5, .int (nI kN)), (0, .ref b), (1, .ref (G.1 + 0)), (2, .ref (G.1 + 141)), (3, .ref (G.1 + 186)), (4, .int (nI k))]) hx hb (dk_ok (by decide +kernel : dk 395 (.istore 6) 2 = true)) hl1 (by decide) rfl (fun ls2 hl2 => ?_)
  refine lv_aload_n hx hb (dk_ok (by decide +kernel : dk 397 (.aload_n 2) 1 = true)) rfl (lv_at hl2 4 rfl) ?_
  refine lw_call (mid := 169) (idx := 45) (a := 141) (as := []) (rest := []) E hl2.1 (by decide) q2.1 q2.2.1.symm q2.2.2.2 (sr_wd_in (j := 1725) (by decide +kernel)) (by omega) e3 (by omega) ⟨fm2, by rw [q2.2.2.1]; exact om2⟩ (by omega) rfl hat1 hS1 hc hs (by decide +kernel : dk 398 (.invokevirtual 45) 3 = true) (Nat.zero_le _) (fun H2 locs2 hat2 hS2 => ?_)
  refine lv_iload hx hb (dk_ok (by decide +kernel : dk 401 (.iload 5) 2 = true)) (lv_at hl2 1 rfl) ?_
  refine lv_icmp_eq (tgt := 408) hx hb (dk_ok (by decide +kernel : dk 403 (.if_icmp .eq 5) 3 = true)) (by decide) (fun _ => ?_) (fun z => absurd rfl z)
  exact kk h2 H2 locs2 ls2 j2 g2 hat2 hS2 hl2
set_option maxHeartbeats 2000000 in
theorem lw_c4 (htr : l.stackTraces = false) (E : lw_E p s m meth c b L xs G) (hX : lf_X G s) : lw_G p l e s m below meth c b L G Q 360 := by
  intro k h H locs cells slots ls hk I hc hs hl kk
  obtain ⟨jx, eh, ⟨f, ef⟩, hat, hS⟩ := I
  have E' := E
  obtain ⟨⟨hx, hb, hr, hml, hown, hts, hX0, hbl, hlocks, hgv⟩, hL, hkn, hG⟩ := E'
  have h187 : h.1.1 = 187 := by rw [eh]; exact hS_1
  have n186 : ¬ gO 186 := by
    unfold gO
    omega
  have back : ∀ (h2 : sr_H) (H1 : Heap) (locs1 : List Loc) (ls1 : Array Slot) (u v : Int32), lw_I G s h2 H1 locs1 → lv_has ls1 7 [(6, .int u), (5, .int v), (0, .ref b), (1, .ref (G.1 + 0)), (2, .ref (G.1 + 141)), (3, .ref (G.1 + 186)), (4, .int (nI k))] → W p l e room_1 s m #[Value.ref b] below meth c H1 locs1 (cells + 1) (slots + 6) Q (F0 m 425 ls1 []) := fun h2 H1 locs1 ls1 u v I1 hl1 => lv_goto (tgt := 1521) hx hb (dk_ok (by decide +kernel : dk 425 (.goto 1096) 3 = true)) (by decide) (kk h2 H1 locs1 ls1 I1 (lv_sub hl1 [2, 3, 4, 5, 6] rfl))
  obtain ⟨T, q, y, x, xi, Hh, g, j⟩ := id jx
  refine lv_aload_n hx hb (dk_ok (by decide +kernel : dk 360 (.aload_n 1) 1 = true)) rfl (lv_at hl 1 rfl) ?_
  refine lw_args E hl hS 2 1 361 _ (by omega) (by omega) (by decide +kernel) ?_
  refine lv_aload_n hx hb (dk_ok (by decide +kernel : dk 373 (.aload_n 3) 1 = true)) rfl (lv_at hl 3 rfl) ?_
  by_cases hp : inb (xs (k + 1)) (xF x)
  · by_cases hw : inb (xs (k + 2)) 6
    · refine lf_call (pv := xs (k + 1)) (wv := xs (k + 2)) E hX hl.1 h187 (lf_0 j h187 ef hp hw) hat hS hc hs (fun H1 locs1 hat1 hS1 => ?_)
      have jo := JS_out (f' := vp_updL f 0 (a_folk x (xs (k + 1)).toNatClampNeg (xs (k + 2)).toNatClampNeg).toInt64) ef j
      refine lf_rest (kN := 0) E hk hl ⟨T, q, y, x, xi, Hh, g, jo⟩ h187 (j_folkR (dB := 0) jo hp hw) (by decide) hat1 hS1 hc hs (fun h2 H2 locs2 ls2 j2 g2 hat2 hS2 hl2 => ?_)
      have o2 : h2.2 186 = .inr (.inl (1, vp_updL f 0 (a_folk x (xs (k + 1)).toNatClampNeg (xs (k + 2)).toNatClampNeg).toInt64)) := (g2.2.2 186 n186).trans wo_eq
      have e2 : h2.1 = sr_hS.1 := g2.2.1.trans eh
      have h2n : h2.1.1 = 187 := by rw [e2]; exact hS_1
      have he := sr_w_get (G := G) (h := h2) (k := 186) (by omega)
      rw [o2] at he
      refine lv_iload hx hb (dk_ok (by decide +kernel : dk 408 (.iload 5) 2 = true)) (lv_at hl2 1 rfl) ?_
      refine lv_if_ne (tgt := 425) hx hb (dk_ok (by decide +kernel : dk 410 (.ifCond .ne 15) 3 = true)) (by decide) (fun z => absurd (by decide) z) (fun _ => ?_)
      refine lv_aload_n hx hb (dk_ok (by decide +kernel : dk 413 (.aload_n 3) 1 = true)) rfl (lv_at hl2 5 rfl) ?_
      refine lv_iconst (v := nI 0) hx hb (dk_ok (by decide +kernel : dk 414 (.iconst 0) 1 = true)) (by decide) ?_
      refine va_lald hx hb hkn.1 hat2.1 186 2 he rfl (vp_in_nI (by decide) (by decide)) (dk_ok (by decide +kernel : dk 415 .laload 1 = true)) ?_
      refine lv_iload hx hb (dk_ok (by decide +kernel : dk 416 (.iload 6) 2 = true)) (lv_at hl2 0 rfl) ?_
      refine lv_i2l (v := (a_folk x (xs (k + 1)).toNatClampNeg (xs (k + 2)).toNatClampNeg).toInt64) hx hb (dk_ok (by decide +kernel : dk 418 .i2l 1 = true)) rfl ?_
      refine W.lcmp hx hb (dk_ok (by decide +kernel : dk 419 .lcmp 1 = true)) ?_
      have e0 : (nI 0).toNatClampNeg = 0 := nI_clamp (by decide)
      have e9 : vp_updL f 0 (a_folk x (xs (k + 1)).toNatClampNeg (xs (k + 2)).toNatClampNeg).toInt64 (nI 0).toNatClampNeg = (a_folk x (xs (k + 1)).toNatClampNeg (xs (k + 2)).toNatClampNeg).toInt64 := by
        rw [e0]
        unfold vp_updL
        simp
      rw [e9]
      have e8 : lg_cmp (a_folk x (xs (k + 1)).toNatClampNeg (xs (k + 2)).toNatClampNeg).toInt64 (a_folk x (xs (k + 1)).toNatClampNeg (xs (k + 2)).toNatClampNeg).toInt64 = 0 := by
        unfold lg_cmp
        rw [if_neg Int64.lt_irrefl, if_pos rfl]
      rw [e8]
      refine lv_if_eq (tgt := 425) hx hb (dk_ok (by decide +kernel : dk 420 (.ifCond .eq 5) 3 = true)) (by decide) (fun _ => ?_) (fun z => absurd rfl z)
      exact back h2 H2 locs2 ls2 _ _ ⟨j2, e2, ⟨_, o2⟩, hat2, hS2⟩ hl2
    · refine lf_call (pv := xs (k + 1)) (wv := xs (k + 2)) E hX hl.1 h187 (lf_2 htr j h187 hp hw) hat hS hc hs (fun H1 locs1 hat1 hS1 => ?_)
      refine lf_rest (kN := 2) E hk hl jx h187 (j_folk2 (dB := 0) j hp hw) (by decide) hat1 hS1 hc hs (fun h2 H2 locs2 ls2 j2 g2 hat2 hS2 hl2 => ?_)
      refine lv_iload hx hb (dk_ok (by decide +kernel : dk 408 (.iload 5) 2 = true)) (lv_at hl2 1 rfl) ?_
      refine lv_if_ne (tgt := 425) hx hb (dk_ok (by decide +kernel : dk 410 (.ifCond .ne 15) 3 = true)) (by decide) (fun _ => ?_) (fun z => absurd z (by decide))
      exact back h2 H2 locs2 ls2 _ _ ⟨j2, g2.2.1.trans eh, ⟨f, (g2.2.2 186 n186).trans ef⟩, hat2, hS2⟩ hl2
  · refine lf_call (pv := xs (k + 1)) (wv := xs (k + 2)) E hX hl.1 h187 (lf_1 htr j h187 hp) hat hS hc hs (fun H1 locs1 hat1 hS1 => ?_)
    refine lf_rest (kN := 1) E hk hl jx h187 (j_folk1 (dB := 0) j hp) (by decide) hat1 hS1 hc hs (fun h2 H2 locs2 ls2 j2 g2 hat2 hS2 hl2 => ?_)
    refine lv_iload hx hb (dk_ok (by decide +kernel : dk 408 (.iload 5) 2 = true)) (lv_at hl2 1 rfl) ?_
    refine lv_if_ne (tgt := 425) hx hb (dk_ok (by decide +kernel : dk 410 (.ifCond .ne 15) 3 = true)) (by decide) (fun _ => ?_) (fun z => absurd z (by decide))
    exact back h2 H2 locs2 ls2 _ _ ⟨j2, g2.2.1.trans eh, ⟨f, (g2.2.2 186 n186).trans ef⟩, hat2, hS2⟩ hl2
end LWG
