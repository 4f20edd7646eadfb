/-! The law's loop, and its beginning. -/
theorem hS_2 : (decide (sr_h1.1.1 = 142 ∧ sr_h1.1.2 ≤ 7000000 ∧ sr_hS.1.2 ≤ 7000000)) = true := by decide +kernel
theorem lw_tr {l : Launch} (h : l.flags = flags0) : l.stackTraces = false := by
  unfold Launch.stackTraces
  rw [h]
  decide +kernel
theorem lf_X_of {args : Array Value} {s : State} {G : sr_G} (hts : ∀ w ∈ lw_tbl, w.before args s = true) (hg : (Jvm.Cond.and given_1 narrow_1).before args s = true) (hG : G.1 = s.heap.size) : lf_X G s := by
  have hA : ∀ a : Nat, a < s.heap.size → ¬ sr_A G a := fun a h => by
    unfold sr_A
    omega
  refine ⟨vx_Zqof (lw_tb_at hts (j := 1451) (by decide +kernel)) (lw_tb_at hts (j := 136) (by decide +kernel)) (lw_fl_at hg (j := 32) (by decide +kernel)) hA, vx_Zqof (lw_tb_at hts (j := 1453) (by decide +kernel)) (lw_tb_at hts (j := 136) (by decide +kernel)) (lw_fl_at hg (j := 33) (by decide +kernel)) hA, va_Nc.of (lw_fl_at hg (j := 46) (by decide +kernel)), fun w hw => ?_⟩
  refine va_Nw.of (lf_B_t w hw) (A := args) ?_
  simp only [lf_B, List.mem_cons, List.not_mem_nil, or_false] at hw
  rcases hw with rfl | rfl | rfl | rfl | rfl
  · exact lw_tb_at hts (j := 1426) (by decide +kernel)
  · exact lw_tb_at hts (j := 1492) (by decide +kernel)
  · exact lw_tb_at hts (j := 1428) (by decide +kernel)
  · exact lw_tb_at hts (j := 1430) (by decide +kernel)
  · exact lw_tb_at hts (j := 1432) (by decide +kernel)
section LWL
variable {p : Program} {l : Launch} {e : Env} {s : State} {m : MethodId} {below : List Frame} {meth : Method} {c : Code} {b L : Nat} {xs : Nat → Int32} {G : sr_G}
theorem lw_loop (E : lw_E p s m meth c b L xs G) (tn : lw_G p l e s m below meth c b L G (lw_Z below #[Value.ref b] s) 33) : ∀ (n k : Nat) (h : sr_H) (H : Heap) (locs : List Loc) (cells slots : Nat) (ls : Array Slot), L ≤ k + n → k ≤ 3072 → cells ≤ 187 + k → slots ≤ 7000000 + 6 * k → lw_I G s h H locs → lv_has ls 7 (lw_V G b k) → W p l e room_1 s m #[Value.ref b] below meth c H locs cells slots (lw_Z below #[Value.ref b] s) (F0 m 23 ls []) := by
  have E' := E
  obtain ⟨⟨hx, hb, hr, hml, hown, hts, hX, hbl, hlocks, hgv⟩, hL, hkn, hG⟩ := E'
  have hbA : ¬ sr_A G b := by
    unfold sr_A
    omega
  have head : ∀ (k : Nat) (h : sr_H) (H : Heap) (locs : List Loc) (cells slots : Nat) (ls : Array Slot), k ≤ 3072 → cells ≤ 187 + k → slots ≤ 7000000 + 6 * k → lw_I G s h H locs → lv_has ls 7 (lw_V G b k) → (6 + k ≤ L → W p l e room_1 s m #[Value.ref b] below meth c H locs cells slots (lw_Z below #[Value.ref b] s) (F0 m 33 ls [])) → W p l e room_1 s m #[Value.ref b] below meth c H locs cells slots (lw_Z below #[Value.ref b] s) (F0 m 23 ls []) := by
    intro k h H locs cells slots ls hk hc hs I hl kk
    have hS := I.2.2.2.2
    refine lv_iload hx hb (dk_ok (by decide +kernel : dk 23 (.iload 4) 2 = true)) (lv_at hl 4 rfl) ?_
    refine lv_aload_n hx hb (dk_ok (by decide +kernel : dk 25 (.aload_n 0) 1 = true)) rfl (lv_at hl 0 rfl) ?_
    refine va_slen hx hb hX hbl hbA hS (dk_ok (by decide +kernel : dk 26 .arraylength 1 = true)) ?_
    refine lv_bipush (v := nI 6) hx hb (dk_ok (by decide +kernel : dk 27 (.bipush 6) 2 = true)) (by decide) ?_
    refine lv_isub hx hb (dk_ok (by decide +kernel : dk 29 .isub 1 = true)) ?_
    refine lv_icmp_gt (tgt := 1527) hx hb (dk_ok (by decide +kernel : dk 30 (.if_icmp .gt 1497) 3 = true)) (by decide) (fun _ => ?_) (fun z => ?_)
    · refine lv_iconst (v := 1) hx hb (dk_ok (by decide +kernel : dk 1527 (.iconst 1) 1 = true)) (by decide) ?_
      refine va_forget (fun q hq => by have := hS.2.2 q hq; unfold sr_A at this; omega) ?_
      refine W.widen (k := 601024) (n := 7293034) (by omega) (by omega) ?_
      exact lw_ret hx hb hr hlocks (dk_ok (by decide +kernel : dk 1528 .ireturn 1 = true))
    · exact kk ((nI_dle (by omega) (by decide) (by omega)).mp (Int32.not_lt.mp z))
  intro n
  induction n with
  | zero =>
    intro k h H locs cells slots ls hn hk hc hs I hl
    exact head k h H locs cells slots ls hk hc hs I hl (fun z => absurd z (by omega))
  | succ n ih =>
    intro k h H locs cells slots ls hn hk hc hs I hl
    refine head k h H locs cells slots ls hk hc hs I hl (fun z => ?_)
    refine tn k h H locs cells slots ls (by omega) I (by omega) (by omega) hl (fun h' H' locs' ls' I' hl' => ?_)
    refine lv_iinc (v := nI (k + 6)) (lv' := [(4, .int (nI (k + 6))), (0, .ref b), (1, .ref (G.1 + 0)), (2, .ref (G.1 + 141)), (3, .ref (G.1 + 186))]) hx hb (dk_ok (by decide +kernel : dk 1521 (.iinc 4 6) 3 = true)) hl' (k := 4) rfl (nI_add k 6) (by decide) rfl (fun ls2 hl2 => ?_)
    refine lv_goto (tgt := 23) hx hb (dk_ok (by decide +kernel : dk 1524 (.goto (-1501)) 3 = true)) (by decide) ?_
    exact ih (k + 6) h' H' locs' _ _ ls2 (by omega) (by omega) (by omega) (by omega) I' (lv_sub hl2 [1, 2, 3, 4, 0] rfl)
variable {H : Heap} {locs : List Loc} {Q : State → Prop} {pc : Nat} {ls : Array Slot} {rest : List Value} {h : sr_H}
def lw_nw (h : sr_H) (ci : Nat) : sr_H := ((h.1.1 + 1, h.1.2 + (sr_df ci).length), sr_up h.2 h.1.1 (.inr (.inr (ci, sr_df ci))))
set_option maxHeartbeats 1000000 in
theorem lw_new {ci idx : Nat} {q : vw_C} (E : lw_E p s m meth c b L xs G) (hq1 : vwCl[ci]? = some q) (hlk : Cond.classLink R_law idx q.1 ∈ sr_tb) (hm : h.1.1 < sr_mx) (hat : sr_at G h H) (hS : va_S (sr_A G) s.heap H locs) (hsl : h.1.2 + (sr_df ci).length ≤ 7293034) (hd : dk pc (.new idx) 3 = true)
    (kk : ∀ (H1 : Heap), sr_at G (lw_nw h ci) H1 → va_S (sr_A G) s.heap H1 locs → W p l e room_1 s m #[Value.ref b] below meth c H1 locs (lw_nw h ci).1.1 (lw_nw h ci).1.2 Q (F0 m (pc + 3) ls (.ref (G.1 + h.1.1) :: rest))) : W p l e room_1 s m #[Value.ref b] below meth c H locs h.1.1 h.1.2 Q (F0 m pc ls rest) := by
  obtain ⟨⟨hx, hb, hr, hml, hown, hts, hX, hbl, hlocks, hgv⟩, hL, hkn, hG⟩ := E
  have hts' : ∀ w ∈ sr_tb, w.before #[Value.ref b] s = true := fun w hw => hts w (List.mem_filter.mp hw).1
  obtain ⟨CC, TT, NN⟩ := q
  obtain ⟨c1, c2, c3, c4, c5, c6, c7⟩ := sr_TF_ok.2.1 _ _ hq1
  dsimp only at c1 c2 c3 c4 c5 c6 c7 hlk
  have hmx : sr_mx = 187 := rfl
  refine va_new (Ts := sr_tb) (ci := ci) (fs := (sr_df ci).map (sr_v G)) hx hb hts' c1 (fun k => (parseFieldDescriptor (TT k).2.2.1).getD .int) (fun k hk => by obtain ⟨t1, t2, -⟩ := c7 k hk; rw [t2]; rfl) hown (hts' _ hlk) (hts' _ c2) (hts' _ c3) hkn.1 hat.1 (sr_w_D G h) hS (fun q hq => by show G.1 ≤ q; omega) hq1 (fun j hj => ?_) (by show h.1.1 + 1 ≤ 601024; omega) (by show h.1.2 + NN ≤ 7293034; rw [← c5]; exact hsl) (dk_ok hd) (fun q1 H1 hP1 hD1 hS1 => ?_)
  · obtain ⟨t1, t2, -, -, -, t3⟩ := c7 j hj
    rw [t2, vp_V, List.getD_eq_getElem?_getD, List.getElem?_map, t3]
    show defaultValue t1 = sr_v G (defaultValue t1)
    cases t1 <;> rfl
  · refine sr_peek (fun hpk => ?_)
    have hq1e : q1 = G.1 + h.1.1 := sr_addr hD1 hP1 (by omega)
    subst hq1e
    have h9 := sr_w_app (G := G) (h := h) (h.1.2 + (sr_df ci).length) (.inr (.inr (ci, sr_df ci)))
    have z := kk H1 ⟨by unfold lw_nw; rw [← h9]; exact hP1, by show h.1.1 + 1 ≤ sr_mx; omega, by have := hS1.1; omega⟩ hS1
    rw [show (lw_nw h ci).1.2 = h.1.2 + NN by show h.1.2 + (sr_df ci).length = _; rw [c5]] at z
    exact z
set_option maxHeartbeats 1000000 in
theorem lw_out (E : lw_E p s m meth c b L xs G) (hm : h.1.1 < sr_mx) (hat : sr_at G h H) (hS : va_S (sr_A G) s.heap H locs) (hsl : h.1.2 + 1 ≤ 7293034) (hd : dk pc (.newarray .long) 2 = true)
    (kk : ∀ (H1 : Heap), sr_at G (sr_ou h) H1 → va_S (sr_A G) s.heap H1 locs → W p l e room_1 s m #[Value.ref b] below meth c H1 locs (sr_ou h).1.1 (sr_ou h).1.2 Q (F0 m (pc + 2) ls (.ref (G.1 + h.1.1) :: rest))) : W p l e room_1 s m #[Value.ref b] below meth c H locs h.1.1 h.1.2 Q (F0 m pc ls (.int (nI 1) :: rest)) := by
  obtain ⟨⟨hx, hb, hr, hml, hown, hts, hX, hbl, hlocks, hgv⟩, hL, hkn, hG⟩ := E
  have hts' : ∀ w ∈ sr_tb, w.before #[Value.ref b] s = true := fun w hw => hts w (List.mem_filter.mp hw).1
  have hmx : sr_mx = 187 := rfl
  refine va_newa (atype := .long) (N' := 1) (a0 := (1, .inr (.inl fun _ => 0))) hx hb (hts' _ sr_TF_ok.2.2.2.2.2.2.2.2.2.1.2.2.2.2.2.2.2.2.2.2.2.2.2.2.2) rfl hkn.1 hat.1 (sr_w_D G h) hS (fun q hq => by show G.1 ≤ q; omega) (fun _ => rfl) (by decide) (by decide) (by decide) (by show h.1.1 + 1 ≤ 601024; omega) (by show h.1.2 + 1 ≤ 7293034; exact hsl) (dk_ok hd) (fun q1 cA H1 hK1 hP1 hD1 hS1 => ?_)
  have hcA : cA = G.2.2.2.2.2 := by
    have g1 := (hkn.1.2 2 _ rfl).2
    have g2 := (hK1.2 3 (cA, .long) rfl).2
    exact Option.some.inj (g2.symm.trans g1)
  subst hcA
  refine sr_peek (fun hpk => ?_)
  have hq1e : q1 = G.1 + h.1.1 := sr_addr hD1 hP1 (by omega)
  subst hq1e
  have h9 := sr_w_app (G := G) (h := h) (h.1.2 + 1) (.inr (.inl (1, fun _ => 0)))
  exact kk H1 ⟨by unfold sr_ou; rw [← h9]; exact hP1, by show h.1.1 + 1 ≤ sr_mx; omega, by have := hS1.1; omega⟩ hS1
set_option maxHeartbeats 1000000 in
theorem lw_init {mid a n d idx : Nat} {h' : sr_H} (E : lw_E p s m meth c b L xs G) (hls : ls.size = 7) (hm : mid < 298) (hq : sr_mq mid = 2) (hnp : sr_np mid = 0) (hsl : 1 ≤ sr_ml mid) (hlk : Cond.methodLink R_law idx (sr_y mid) ∈ sr_tb) (hdd : d ≤ 1000) (ev : sr_cf n (d + 1) mid [.ref a] h = some (none, h')) (ha : a < h.1.1) (hat : sr_at G h H) (hS : va_S (sr_A G) s.heap H locs) (hc : h'.1.1 ≤ 601024) (hs : h'.1.2 ≤ 7293034) (hd : dk pc (.invokespecial idx) 3 = true) (hrest : (rest.map fun v => v.category).sum ≤ 8)
    (kk : ∀ (H1 : Heap) (locs1 : List Loc), sr_at G h' H1 → va_S (sr_A G) s.heap H1 locs1 → W p l e room_1 s m #[Value.ref b] below meth c H1 locs1 h'.1.1 h'.1.2 Q (F0 m (pc + 3) ls rest)) : W p l e room_1 s m #[Value.ref b] below meth c H locs h.1.1 h.1.2 Q (F0 m pc ls (.ref (G.1 + a) :: rest)) := by
  obtain ⟨⟨hx, hb, hr, hml, hown, hts, hX, hbl, hlocks, hgv⟩, hL, hkn, hG⟩ := E
  have hts' : ∀ w ∈ sr_tb, w.before #[Value.ref b] s = true := fun w hw => hts w (List.mem_filter.mp hw).1
  obtain ⟨k1, k2, k3, k4, k5, k6, -, -, k7⟩ := sr_TF_ok.2.2.2.2.2.2.2.2.2.2.1 mid hm
  obtain ⟨k8, k9, k10⟩ := k7 hq
  have had := sr_ad_lt hat ha
  have hle := sr_cf_le _ _ _ _ _ _ _ ev
  have hM := sr_met (l := l) (G := G) hm (by show 1 ≤ sr_ml mid; exact hsl) ev
  have hwsE : sr_ws mid = Cond.code (sr_y mid) (sr_by mid) (sr_ml mid) none :: sr_tb := by rw [sr_ws, k10]
  refine sr_peek (fun hpk => ?_)
  have hge := sr_at_ge hat
  have hpre : PreS s H (sr_P G [.ref a] h) [.ref (G.1 + a)] := ⟨sr_P_blind G _ _, fun U hU hW => ⟨by rw [← had]; rfl, by rw [hU]; exact hat, fun _ => by rw [hU]; omega, hkn.go hS hU hW⟩⟩
  have hrun : va_Run p l e room_1 s m #[Value.ref b] below meth c H locs h.1.1 h.1.2 (h'.1.1 - h.1.1) (h'.1.2 - h.1.2) (F0 m pc ls (.ref (G.1 + a) :: rest)) rest (sr_Q G none h' ([.ref (G.1 + a)] : List Value).toArray) (sr_A G) :=
    va_runI (Ts := sr_tb) (As := []) ⟨hx, hb, hml, hown, hts'⟩ hM ⟨callB_of 0 hts' (sr_ws_in sr_TF_ok hm) hwsE rfl rfl (hts' _ k6) (hts' _ hlk) (by rw [hnp] at k3; exact k3) ⟨by show d + 1 ≤ 2048; omega, by show 8 + (sr_ml mid + 11) + 60 * d ≤ 84000; omega⟩, k9, hts' _ k8⟩ hpre rfl rfl hls rfl (lv_room hrest) (dk_ok hd) ⟨by show h.1.1 + _ ≤ 601024; have := hle.1; omega, by show h.1.2 + _ ≤ 7293034; have := hle.2; omega⟩
  refine sr_call hrun (fun _ h => h) hS (fun H1 locs1 hat1 hS1 => ?_)
  have z := kk H1 locs1 hat1 hS1
  rw [show h.1.1 + (h'.1.1 - h.1.1) = h'.1.1 by have := hle.1; omega, show h.1.2 + (h'.1.2 - h.1.2) = h'.1.2 by have := hle.2; omega]
  exact z
end LWL
def sr_hz : sr_H := ((0, 0), fun _ => .inl (0, 0, fun _ => 0))
theorem hz_0 : lw_nw sr_hz 10 = sr_h0 := rfl
set_option maxHeartbeats 4000000 in
theorem whole_start {p : Program} {e : Env} {s : State} {m : MethodId} {below : List Frame} {meth : Method} {c : Code} (l : Launch) (hflags : l.flags = flags0) {b L : Nat} {xs : Nat → Int32} (hL : L ≤ 3072) (C0 : lw_At p s m meth c b L xs) : W p l e room_1 s m #[Value.ref b] below meth c s.heap [] 0 0 (lw_Z below #[Value.ref b] s) (entryFrame m ([Value.ref b] : List Value).toArray 7) := by
  have htr := lw_tr hflags
  obtain ⟨G, hG, hkn⟩ := lw_kn C0.2.2.2.2.2.1 C0.2.2.2.2.2.2.2.2.2
  have E : lw_E p s m meth c b L xs G := ⟨C0, hL, hkn, hG⟩
  have hX9 : lf_X G s := lf_X_of C0.2.2.2.2.2.1 C0.2.2.2.2.2.2.2.2.2 hG
  obtain ⟨hx, hb, hr, hml, hown, hts, hX, hbl, hlocks, hgv⟩ := C0
  have hl := lv_entry [.ref b] (n := 7) (Nat.le_of_ble_eq_true rfl)
  rw [lg_entry_eq]
  generalize (lg_sl [.ref b] ++ List.replicate (7 - (lg_sl [.ref b]).length) Slot.unset).toArray = ls at hl ⊢
  have hl : lv_has ls 7 [(0, .ref b)] := hl
  have hmx : sr_mx = 187 := rfl
  obtain ⟨s1, s2, s3⟩ := of_decide_eq_true hS_2
  have hat0 : sr_at G sr_hz s.heap := ⟨(fun k q hk => by cases hk), Nat.zero_le _, by omega⟩
  obtain ⟨n1, r1, h1, e1, hr1, hn1⟩ := begin_c
  obtain ⟨n2, r2, h2, e2, hr2, hn2⟩ := begin_m
  rw [hr1] at e1
  rw [hr2] at e2
  have h141 : h1.1.1 = 141 := by
    have z : (sr_nx h1).1.1 = 142 := by rw [hn1]; exact s1
    have z2 : h1.1.1 + 1 = 142 := z
    omega
  have h1s : h1.1.2 + (sr_df 11).length ≤ 7000000 := by
    have z : (sr_nx h1).1.2 ≤ 7000000 := by rw [hn1]; exact s2
    exact z
  have h186 : h2.1.1 = 186 := by
    have z : (sr_ou h2).1.1 = 187 := by rw [hn2]; exact hS_1
    have z2 : h2.1.1 + 1 = 187 := z
    omega
  have h2s : h2.1.2 + 1 ≤ 7000000 := by
    have z : (sr_ou h2).1.2 ≤ 7000000 := by rw [hn2]; exact s3
    exact z
  have q1 : sr_mq 126 = 2 ∧ sr_np 126 = 0 ∧ 1 ≤ sr_ml 126 := by decide +kernel
  have q2 : sr_mq 168 = 2 ∧ sr_np 168 = 0 ∧ 1 ≤ sr_ml 168 := by decide +kernel
  refine lw_new (h := sr_hz) (ci := 10) (idx := 8) (ls := ls) (rest := []) (pc := 0) E (show vwCl[10]? = some _ from rfl) (sr_wd_in (j := 142) (by decide +kernel)) (by decide) hat0 va_S.rf (by decide) (by decide +kernel) (fun H1 hat1 hS1 => ?_)
  rw [hz_0] at hat1 ⊢
  refine lv_dup hx hb (dk_ok (by decide +kernel : dk 3 .dup 1 = true)) rfl ?_
  refine lw_init (mid := 126) (idx := 17) (a := 0) (rest := [.ref (G.1 + 0)]) E hl.1 (by decide) q1.1 q1.2.1 q1.2.2 (sr_wd_in (j := 144) (by decide +kernel)) (by decide) e1 (by decide) hat1 hS1 (by omega) (by omega) (by decide +kernel : dk 4 (.invokespecial 17) 3 = true) (by show 1 + 0 ≤ 8; decide) (fun H2 locs2 hat2 hS2 => ?_)
  refine lv_astore_n (i := 1) (lv' := [(1, .ref (G.1 + 0)), (0, .ref b)]) hx hb (dk_ok (by decide +kernel : dk 7 (.astore_n 1) 1 = true)) rfl hl (by decide) rfl (fun ls hl => ?_)
  refine lw_new (h := h1) (ci := 11) (idx := 18) (pc := 8) E (show vwCl[11]? = some _ from rfl) (sr_wd_in (j := 1506) (by decide +kernel)) (by omega) hat2 hS2 (by omega) (by decide +kernel) (fun H3 hat3 hS3 => ?_)
  have en : lw_nw h1 11 = sr_h1 := hn1
  rw [en] at hat3 ⊢
  rw [h141]
  refine lv_dup hx hb (dk_ok (by decide +kernel : dk 11 .dup 1 = true)) rfl ?_
  refine lw_init (mid := 168) (idx := 20) (a := 141) (rest := [.ref (G.1 + 141)]) E hl.1 (by decide) q2.1 q2.2.1 q2.2.2 (sr_wd_in (j := 1508) (by decide +kernel)) (by decide) e2 (by omega) hat3 hS3 (by omega) (by omega) (by decide +kernel : dk 12 (.invokespecial 20) 3 = true) (by show 1 + 0 ≤ 8; decide) (fun H4 locs4 hat4 hS4 => ?_)
  refine lv_astore_n (i := 2) (lv' := [(2, .ref (G.1 + 141)), (1, .ref (G.1 + 0)), (0, .ref b)]) hx hb (dk_ok (by decide +kernel : dk 15 (.astore_n 2) 1 = true)) rfl hl (by decide) rfl (fun ls hl => ?_)
  refine lv_iconst (v := nI 1) hx hb (dk_ok (by decide +kernel : dk 16 (.iconst 1) 1 = true)) (by decide) ?_
  refine lw_out (h := h2) (pc := 17) E (by omega) hat4 hS4 (by omega) (by decide +kernel) (fun H5 hat5 hS5 => ?_)
  have eo : sr_hS.2 186 = .inr (.inl (1, fun _ => 0)) := by
    rw [← hn2, ← h186]
    show sr_up h2.2 h2.1.1 _ h2.1.1 = _
    unfold sr_up
    rw [if_pos rfl]
  rw [hn2] at hat5 ⊢
  rw [h186]
  refine lv_astore_n (i := 3) (lv' := [(3, .ref (G.1 + 186)), (2, .ref (G.1 + 141)), (1, .ref (G.1 + 0)), (0, .ref b)]) hx hb (dk_ok (by decide +kernel : dk 19 (.astore_n 3) 1 = true)) rfl hl (by decide) rfl (fun ls hl => ?_)
  refine lv_iconst (v := nI 0) hx hb (dk_ok (by decide +kernel : dk 20 (.iconst 0) 1 = true)) (by decide) ?_
  refine lv_istore (lv' := [(4, .int (nI 0)), (3, .ref (G.1 + 186)), (2, .ref (G.1 + 141)), (1, .ref (G.1 + 0)), (0, .ref b)]) hx hb (dk_ok (by decide +kernel : dk 21 (.istore 4) 2 = true)) hl (by decide) rfl (fun ls hl => ?_)
  exact lw_loop E (lw_turn E (lw_c4 htr E hX9)) L 0 sr_hS H5 locs4 _ _ ls (by omega) (by omega) (by rw [hS_1]; exact Nat.le_refl _) (by omega) ⟨begin_JX, rfl, ⟨_, eo⟩, hat5, hS5⟩ (lv_sub hl [4, 3, 2, 1, 0] rfl)
