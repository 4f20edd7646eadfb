/-! The law's own rows: its bytes, its arguments, its calls. -/
def dk (pc : Nat) (i : Instr) (n : Nat) : Bool := decide (decode code pc = .ok (i, n))
theorem dk_ok {pc n : Nat} {i : Instr} (h : dk pc i n = true) : decode code pc = .ok (i, n) := of_decide_eq_true h
def dkA (pc j : Nat) : Bool := dk pc (.aload_n 0) 1 && (dk (pc + 1) (.iload 4) 2 && (dk (pc + 3) (.iconst (j : Int)) 1 && (dk (pc + 4) .iadd 1 && dk (pc + 5) .iaload 1)))
def dkL : Nat → Nat → Nat → Bool
  | _, _, 0 => true
  | pc, j, n + 1 => dkA pc j && dkL (pc + 6) (j + 1) n
def lw_A (xs : Nat → Int32) (k : Nat) : Nat → Nat → List Value
  | _, 0 => []
  | j, n + 1 => .int (xs (k + j)) :: lw_A xs k (j + 1) n
theorem lw_A_v {G : sr_G} {xs : Nat → Int32} {k : Nat} : ∀ (n j : Nat), (lw_A xs k j n).map (sr_v G) = lw_A xs k j n
  | 0, _ => rfl
  | n + 1, j => by
    show sr_v G (.int (xs (k + j))) :: (lw_A xs k (j + 1) n).map (sr_v G) = _
    rw [lw_A_v n (j + 1)]
    rfl
theorem lw_A_ar {xs : Nat → Int32} {k : Nat} : ∀ (n j : Nat), (sr_ar (lw_A xs k j n)).length = n
  | 0, _ => rfl
  | n + 1, j => by
    show (Value.int (xs (k + j)) :: sr_ar (lw_A xs k (j + 1) n)).length = _
    rw [List.length_cons, lw_A_ar n (j + 1)]
theorem lw_A_len {xs : Nat → Int32} {k : Nat} : ∀ (n j : Nat), (lw_A xs k j n).length = n
  | 0, _ => rfl
  | n + 1, j => by
    show (Value.int (xs (k + j)) :: lw_A xs k (j + 1) n).length = _
    rw [List.length_cons, lw_A_len n (j + 1)]
/-- all that holds throughout the law -/
def lw_E (p : Program) (s : State) (m : MethodId) (meth : Method) (c : Code) (b L : Nat) (xs : Nat → Int32) (G : sr_G) : Prop := lw_At p s m meth c b L xs ∧ L ≤ 3072 ∧ sr_kn G s ∧ G.1 = s.heap.size
/-- the law's locals -/
def lw_V (G : sr_G) (b k : Nat) : List (Nat × Value) := [(0, .ref b), (1, .ref (G.1 + 0)), (2, .ref (G.1 + 141)), (3, .ref (G.1 + 186)), (4, .int (nI k))]
/-- where both sides stand between two calls -/
def lw_I (G : sr_G) (s : State) (h : sr_H) (H : Heap) (locs : List Loc) : Prop := JX h ∧ h.1 = sr_hS.1 ∧ (∃ f, h.2 186 = .inr (.inl (1, f))) ∧ sr_at G h H ∧ va_S (sr_A G) s.heap H locs
def lw_ckM (mid ci n idx j : Nat) : Bool := decide (mid < 298 ∧ sr_mq mid = 0 ∧ sr_np mid = n ∧ sr_mc mid = ci ∧ n + 1 ≤ sr_ml mid) && sr_wd j (.methodLink R_law idx (sr_y mid))
theorem hS_1 : sr_hS.1.1 = 187 := by
  have b := begin_0
  simp only [Bool.and_eq_true] at b
  have b3 := b.2.2.1
  unfold bS at b3
  simp only [Bool.and_eq_true] at b3
  exact of_decide_eq_true b3.1
theorem sh_oi {c : sr_C} {ci : Nat} {fs : List Value} (e : sr_sh c = sr_sh (.inr (.inr (ci, fs)))) : ∃ fs', c = .inr (.inr (ci, fs')) := by
  rcases c with ⟨t, n, f⟩ | ⟨n, f⟩ | ⟨c', fs'⟩
  · cases e
  · cases e
  · simp only [sr_sh, Sum.inr.injEq, Prod.mk.injEq] at e
    exact ⟨fs', by rw [e.1]⟩
theorem JX_x {h : sr_H} (j : JX h) : ∃ fs, h.2 0 = .inr (.inr (10, fs)) := by
  obtain ⟨T, q, y, x, xi, H, g, c, m, v, b⟩ := j
  have e := c.1.2.2.1.2
  generalize h.2 0 = cc at e
  rcases cc with ⟨t, n, f⟩ | ⟨n, f⟩ | ⟨c', fs'⟩
  · cases e
  · cases e
  · simp only [sr_sh, Sum.inr.injEq, Prod.mk.injEq] at e
    exact ⟨fs', by rw [e.1]⟩
theorem JX_m {h : sr_H} (j : JX h) : ∃ fs, h.2 141 = .inr (.inr (11, fs)) := by
  obtain ⟨T, q, y, x, xi, H, g, c, m, v, b⟩ := j
  have e := (m.1 0 _ rfl).2
  generalize h.2 (141 + 0) = cc at e
  rcases cc with ⟨t, n, f⟩ | ⟨n, f⟩ | ⟨c', fs'⟩
  · cases e
  · cases e
  · simp only [sr_sh, Sum.inr.injEq, Prod.mk.injEq] at e
    exact ⟨fs', by rw [e.1]⟩
theorem jc_op2 {dA mA dB mB : Nat} {as : List Value} {K : Value → Prop} {h : sr_H} (k : sr_M dA mA (.ref 0 :: as) h (JC dB mB as K h)) : ∃ n1 h1 u n2 h2, sr_cf n1 dA mA (.ref 0 :: as) h = some (some u, h1) ∧ K u ∧ sr_cf n2 dB mB (.ref 141 :: as) h1 = some (some u, h2) ∧ JX h2 ∧ h1.1 = h.1 ∧ h2.1 = h1.1 ∧ h1.2 141 = h.2 141 ∧ h2.2 186 = h.2 186 := by
  obtain ⟨n1, r, h1, e1, ⟨u, rfl, hu⟩, f, n2, r2, h2, e2, rfl, j, g⟩ := k
  have n186 : ¬ gO 186 := by
    unfold gO
    omega
  exact ⟨n1, h1, u, n2, h2, e1, hu, e2, j, f.1, g.2.1, f.2 141 (by omega), (g.2.2 186 n186).trans (f.2 186 (by omega))⟩
theorem cf_pos {n D mid : Nat} {as : List Value} {h : sr_H} {z : sr_R} (e : sr_cf n D mid as h = some z) : ∃ d, D = d + 1 := by
  cases D with
  | zero => cases e
  | succ d => exact ⟨d, rfl⟩
theorem lw_ofInt : ∀ j : Nat, j < 10 → Int32.ofInt (j : Int) = nI j := by decide +kernel
theorem cat_le (v : Value) : v.category ≤ 2 := by
  cases v <;> first | exact Nat.le_refl 2 | exact Nat.le_succ 1
section SRI
variable {p : Program} {l : Launch} {e : Env} {R : Room} {s : State} {m : MethodId} {args : Array Value} {below : List Frame} {meth : Method} {c : Code} {G : sr_G} {H : Heap} {locs : List Loc} {cells slots : Nat} {Q : State → Prop} {pc nL : Nat} {ls : Array Slot} {rest : List Value} {h : sr_H} {cc : ByteArray} {own : String}
set_option maxHeartbeats 1000000 in
/-- a method of ours is called, whatever calls it: what the small machine answers -/
theorem sr_inv {mid a n d idx : Nat} {as : List Value} {r : Option Value} {h' : sr_H} (hx : p.tables.exec = Jvm.exec) (hb : c.code = cc) (hml : c.maxLocals = nL) (hown : s.vm.findClass own = some m.cls) (hts' : ∀ w ∈ sr_tb, w.before args s = true) (hkn : sr_kn G s) (hls : ls.size = nL) (hm : mid < 298) (hq : sr_mq mid = 0) (hnp : as.length = sr_np mid) (hsl : (sr_ar (.ref a :: as)).length ≤ sr_ml mid) (hlk : Cond.methodLink own idx (sr_y mid) ∈ sr_tb) (hR1 : d + 1 ≤ R.frames) (hR2 : 8 + (sr_ml mid + 11) + 60 * d ≤ R.locals) (ev : sr_cf n (d + 1) mid (.ref a :: as) h = some (r, h')) (ha : a < h.1.1) (hca : ∃ fs, h.2 a = .inr (.inr (sr_mc mid, fs))) (hmx : ¬ h.1.1 < sr_mx) (hh : h'.1 = h.1) (hat : sr_at G h H) (hS : va_S (sr_A G) s.heap H locs) (hc : cells ≤ R.cells) (hs : slots ≤ R.slots) (hd : decode cc pc = .ok (.invokevirtual idx, 3)) (hrest : (rest.map fun v => v.category).sum ≤ 8)
    (kk : ∀ (H1 : Heap) (locs1 : List Loc), sr_at G h' H1 → va_S (sr_A G) s.heap H1 locs1 → W p l e R s m args below meth c H1 locs1 cells slots Q (F0 m (pc + 3) ls ((r.map (sr_v G)).toList ++ rest))) : W p l e R s m args below meth c H locs cells slots Q (F0 m pc ls ((as.map (sr_v G)).reverse ++ .ref (G.1 + a) :: rest)) := by
  obtain ⟨k1, k2, k3, k4, k5, k6, k7, -, -⟩ := sr_TF_ok.2.2.2.2.2.2.2.2.2.2.1 mid hm
  obtain ⟨k8, k9, qc, k10, k11⟩ := k7 hq
  have he := sr_w_get (G := G) ha
  obtain ⟨fs, hfs⟩ := hca
  rw [hfs] at he
  have had := sr_ad_lt hat ha
  have hM := sr_met (l := l) (G := G) hm hsl ev
  have z1 : h'.1.1 - h.1.1 = 0 := by rw [hh]; omega
  have z2 : h'.1.2 - h.1.2 = 0 := by rw [hh]; omega
  rw [z1, z2] at hM
  have hrun : va_Run p l e R s m args below meth c H locs cells slots 0 0 (F0 m pc ls ((as.map (sr_v G)).reverse ++ .ref (G.1 + a) :: rest)) rest (sr_Q G r h' (Value.ref (G.1 + a) :: as.map (sr_v G)).toArray) (sr_A G) :=
    va_runV (Ts := sr_tb) (C := (sr_y mid).cls) ⟨hx, hb, hml, hown, hts'⟩ hM ⟨callB_of (sr_np mid) hts' (sr_ws_in sr_TF_ok hm) rfl rfl rfl (hts' _ k6) (hts' _ hlk) k3 ⟨hR1, hR2⟩, hts' _ k8, hts' _ k9⟩
      ⟨sr_P_blind G _ _, by rw [← k11]; exact va_recv hkn.1 hat.1 k10 he, fun U hU hW => ⟨by rw [← had]; rfl, by rw [hU]; exact hat, fun hm => absurd hm hmx, hkn.go hS hU hW⟩⟩ rfl (by rw [List.length_map]; exact hnp) hls rfl (lv_room hrest) hd ⟨hc, hs⟩
  exact sr_call hrun (fun _ h => h) hS (fun H1 locs1 hat1 hS1 => kk H1 locs1 hat1 hS1)
end SRI
section LWR
variable {p : Program} {l : Launch} {e : Env} {s : State} {m : MethodId} {below : List Frame} {meth : Method} {c : Code} {b L : Nat} {xs : Nat → Int32} {G : sr_G} {H : Heap} {locs : List Loc} {cells slots : Nat} {Q : State → Prop} {pc k : Nat} {ls : Array Slot} {rest : List Value} {h : sr_H}
theorem lw_arg {j : Nat} (E : lw_E p s m meth c b L xs G) (hl : lv_has ls 7 (lw_V G b k)) (hS : va_S (sr_A G) s.heap H locs) (hk : k + j < L) (hj : j < 10) (hd : dkA pc j = true)
    (kk : W p l e room_1 s m #[Value.ref b] below meth c H locs cells slots Q (F0 m (pc + 6) ls (.int (xs (k + j)) :: rest))) : W p l e room_1 s m #[Value.ref b] below meth c H locs cells slots Q (F0 m pc ls rest) := by
  obtain ⟨⟨hx, hb, hr, hml, hown, hts, hX, hbl, hlocks, hgv⟩, hL, hkn, hG⟩ := E
  unfold dkA at hd
  simp only [Bool.and_eq_true] at hd
  obtain ⟨d1, d2, d3, d4, d5⟩ := hd
  have hbA : ¬ sr_A G b := by
    unfold sr_A
    omega
  refine lv_aload_n hx hb (dk_ok d1) rfl (lv_at hl 0 rfl) ?_
  refine lv_iload hx hb (dk_ok d2) (lv_at hl 4 rfl) ?_
  refine lv_iconst (v := nI j) hx hb (dk_ok d3) (lw_ofInt j hj) ?_
  refine lv_iadd hx hb (dk_ok d4) ?_
  rw [nI_add]
  refine va_sld hx hb hX hbl hbA hS (vp_in_nI hk (by omega)) (dk_ok d5) ?_
  rw [nI_clamp (by omega)]
  exact kk
theorem lw_args (E : lw_E p s m meth c b L xs G) (hl : lv_has ls 7 (lw_V G b k)) (hS : va_S (sr_A G) s.heap H locs) : ∀ (n j pc : Nat) (rest : List Value), k + j + n ≤ L → j + n ≤ 10 → dkL pc j n = true →
    W p l e room_1 s m #[Value.ref b] below meth c H locs cells slots Q (F0 m (pc + 6 * n) ls ((lw_A xs k j n).reverse ++ rest)) → W p l e room_1 s m #[Value.ref b] below meth c H locs cells slots Q (F0 m pc ls rest) := by
  intro n
  induction n with
  | zero =>
    intro j pc rest _ _ _ kk
    exact kk
  | succ n ih =>
    intro j pc rest hk hj hd kk
    unfold dkL at hd
    simp only [Bool.and_eq_true] at hd
    refine lw_arg E hl hS (by omega) (by omega) hd.1 ?_
    refine ih (j + 1) (pc + 6) _ (by omega) (by omega) hd.2 ?_
    have e1 : pc + 6 + 6 * n = pc + 6 * (n + 1) := by omega
    have e2 : (lw_A xs k (j + 1) n).reverse ++ Value.int (xs (k + j)) :: rest = (lw_A xs k j (n + 1)).reverse ++ rest := by
      show _ = (Value.int (xs (k + j)) :: lw_A xs k (j + 1) n).reverse ++ rest
      rw [List.reverse_cons, List.append_assoc]
      rfl
    rw [e1, e2]
    exact kk
theorem lw_call {mid a n d idx : Nat} {as : List Value} {r : Option Value} {h' : sr_H} (E : lw_E p s m meth c b L xs G) (hls : ls.size = 7) (hm : mid < 298) (hq : sr_mq mid = 0) (hnp : as.length = sr_np mid) (hsl : (sr_ar (.ref a :: as)).length ≤ sr_ml mid) (hlk : Cond.methodLink R_law idx (sr_y mid) ∈ sr_tb) (hdd : d ≤ 1000) (ev : sr_cf n (d + 1) mid (.ref a :: as) h = some (r, h')) (ha : a < h.1.1) (hca : ∃ fs, h.2 a = .inr (.inr (sr_mc mid, fs))) (hmx : ¬ h.1.1 < sr_mx) (hh : h'.1 = h.1) (hat : sr_at G h H) (hS : va_S (sr_A G) s.heap H locs) (hc : cells ≤ 601024) (hs : slots ≤ 7293034) (hd : dk pc (.invokevirtual idx) 3 = true) (hrest : (rest.map fun v => v.category).sum ≤ 8)
    (kk : ∀ (H1 : Heap) (locs1 : List Loc), sr_at G h' H1 → va_S (sr_A G) s.heap H1 locs1 → W p l e room_1 s m #[Value.ref b] below meth c H1 locs1 cells slots Q (F0 m (pc + 3) ls ((r.map (sr_v G)).toList ++ rest))) : W p l e room_1 s m #[Value.ref b] below meth c H locs cells slots Q (F0 m pc ls ((as.map (sr_v G)).reverse ++ .ref (G.1 + a) :: rest)) := by
  obtain ⟨⟨hx, hb, hr, hml, hown, hts, hX, hbl, hlocks, hgv⟩, hL, hkn, hG⟩ := E
  have k4 := (sr_TF_ok.2.2.2.2.2.2.2.2.2.2.1 mid hm).2.2.2.1
  exact sr_inv hx hb hml hown (fun w hw => hts w (List.mem_filter.mp hw).1) hkn hls hm hq hnp hsl hlk (by show d + 1 ≤ 2048; omega) (by show 8 + (sr_ml mid + 11) + 60 * d ≤ 84000; omega) ev ha hca hmx hh hat hS hc hs (dk_ok hd) hrest kk
set_option maxHeartbeats 1000000 in
theorem lw_both {mA mB iA iB jA jB DA DB qA qB : Nat} {As : List Value} {K : Value → Prop} (E : lw_E p s m meth c b L xs G) (hl : lv_has ls 7 (lw_V G b k)) (I : lw_I G s h H locs) (hc : cells ≤ 601024) (hs : slots ≤ 7293034) (hV : As.map (sr_v G) = As) (hAr : (sr_ar As).length = As.length) (hK : ∀ u, K u → sr_v G u = u)
    (cA : lw_ckM mA 10 As.length iA jA = true) (cB : lw_ckM mB 11 As.length iB jB = true) (kc : sr_M DA mA (.ref 0 :: As) h (JC DB mB As K h)) (hDA : DA ≤ 1000) (hDB : DB ≤ 1000)
    (d1 : dk pc (.aload_n 1) 1 = true) (pa : ∀ (H : Heap) (locs : List Loc) (rest : List Value), va_S (sr_A G) s.heap H locs → W p l e room_1 s m #[Value.ref b] below meth c H locs cells slots Q (F0 m qA ls (As.reverse ++ rest)) → W p l e room_1 s m #[Value.ref b] below meth c H locs cells slots Q (F0 m (pc + 1) ls rest))
    (d2 : dk qA (.invokevirtual iA) 3 = true) (d3 : dk (qA + 3) (.aload_n 2) 1 = true) (pb : ∀ (H : Heap) (locs : List Loc) (rest : List Value), va_S (sr_A G) s.heap H locs → W p l e room_1 s m #[Value.ref b] below meth c H locs cells slots Q (F0 m qB ls (As.reverse ++ rest)) → W p l e room_1 s m #[Value.ref b] below meth c H locs cells slots Q (F0 m (qA + 3 + 1) ls rest))
    (d4 : dk qB (.invokevirtual iB) 3 = true)
    (kk : ∀ (u : Value) (h' : sr_H) (H' : Heap) (locs' : List Loc), K u → lw_I G s h' H' locs' → W p l e room_1 s m #[Value.ref b] below meth c H' locs' cells slots Q (F0 m (qB + 3) ls [u, u])) : W p l e room_1 s m #[Value.ref b] below meth c H locs cells slots Q (F0 m pc ls []) := by
  obtain ⟨j, eh, ⟨f, ef⟩, hat, hS⟩ := I
  have E' := E
  obtain ⟨⟨hx, hb, hr, hml, hown, hts, hX, hbl, hlocks, hgv⟩, hL, hkn, hG⟩ := E'
  obtain ⟨n1, h1, u, n2, h2, e1, hu, e2, j2, a1, a2, a3, a4⟩ := jc_op2 kc
  obtain ⟨dA, rfl⟩ := cf_pos e1
  obtain ⟨dB, rfl⟩ := cf_pos e2
  have h187 : h.1.1 = 187 := by rw [eh]; exact hS_1
  have h187' : h1.1.1 = 187 := by rw [a1]; exact h187
  unfold lw_ckM at cA cB
  simp only [Bool.and_eq_true] at cA cB
  obtain ⟨cA1, cA2⟩ := cA
  obtain ⟨cB1, cB2⟩ := cB
  obtain ⟨x1, x2, x3, x4, x5⟩ := of_decide_eq_true cA1
  obtain ⟨y1, y2, y3, y4, y5⟩ := of_decide_eq_true cB1
  have l1 : (sr_ar (Value.ref 0 :: As)).length = As.length + 1 := by
    show (Value.ref 0 :: sr_ar As).length = _
    rw [List.length_cons, hAr]
  have l2 : (sr_ar (Value.ref 141 :: As)).length = As.length + 1 := by
    show (Value.ref 141 :: sr_ar As).length = _
    rw [List.length_cons, hAr]
  have hmx : sr_mx = 187 := rfl
  obtain ⟨f0, o0⟩ := JX_x j
  obtain ⟨f1, o1⟩ := JX_m j
  refine lv_aload_n hx hb (dk_ok d1) rfl (lv_at hl 1 rfl) ?_
  refine pa _ _ _ hS ?_
  have k1 := lw_call (l := l) (e := e) (below := below) (rest := []) (Q := Q) (a := 0) E hl.1 x1 x2 x3.symm (by rw [l1]; exact x5) (sr_wd_in cA2) (by omega) e1 (by omega) ⟨f0, by rw [x4]; exact o0⟩ (by omega) a1 hat hS hc hs d2 (Nat.zero_le _) ?_
  · rw [hV] at k1
    exact k1
  intro H1 locs1 hat1 hS1
  show W p l e room_1 s m #[Value.ref b] below meth c H1 locs1 cells slots Q (F0 m (qA + 3) ls [sr_v G u])
  rw [hK u hu]
  refine lv_aload_n hx hb (dk_ok d3) rfl (lv_at hl 2 rfl) ?_
  refine pb _ _ _ hS1 ?_
  have k2 := lw_call (l := l) (e := e) (below := below) (rest := [u]) (Q := Q) (a := 141) E hl.1 y1 y2 y3.symm (by rw [l2]; exact y5) (sr_wd_in cB2) (by omega) e2 (by omega) ⟨f1, by rw [y4, a3]; exact o1⟩ (by omega) a2 hat1 hS1 hc hs d4 (by show u.category + 0 ≤ 8; have := cat_le u; omega) ?_
  · rw [hV] at k2
    exact k2
  intro H2 locs2 hat2 hS2
  show W p l e room_1 s m #[Value.ref b] below meth c H2 locs2 cells slots Q (F0 m (qB + 3) ls [sr_v G u, u])
  rw [hK u hu]
  exact kk u h2 H2 locs2 hu ⟨j2, by rw [a2, a1]; exact eh, ⟨f, by rw [a4]; exact ef⟩, hat2, hS2⟩
end LWR
/-- one case of the law's switch -/
def lw_G (p : Program) (l : Launch) (e : Env) (s : State) (m : MethodId) (below : List Frame) (meth : Method) (c : Code) (b L : Nat) (G : sr_G) (Q : State → Prop) (pc : Nat) : Prop := ∀ (k : Nat) (h : sr_H) (H : Heap) (locs : List Loc) (cells slots : Nat) (ls : Array Slot), k + 6 ≤ L → lw_I G s h H locs → cells + 1 ≤ 601024 → slots + 6 ≤ 7293034 → lv_has ls 7 (lw_V G b k) → (∀ (h' : sr_H) (H' : Heap) (locs' : List Loc) (ls' : Array Slot), lw_I G s h' H' locs' → lv_has ls' 7 (lw_V G b k) → W p l e room_1 s m #[Value.ref b] below meth c H' locs' (cells + 1) (slots + 6) Q (F0 m 1521 ls' [])) → W p l e room_1 s m #[Value.ref b] below meth c H locs cells slots Q (F0 m pc ls [])
def lw_ck (pc n iA iB : Nat) : Bool := dk pc (.aload_n 1) 1 && (dkL (pc + 1) 1 n && (dk (pc + 1 + 6 * n) (.invokevirtual iA) 3 && (dk (pc + 1 + 6 * n + 3) (.aload_n 2) 1 && (dkL (pc + 1 + 6 * n + 3 + 1) 1 n && dk (pc + 1 + 6 * n + 3 + 1 + 6 * n) (.invokevirtual iB) 3))))
section LWC
variable {p : Program} {l : Launch} {e : Env} {s : State} {m : MethodId} {below : List Frame} {meth : Method} {c : Code} {b L : Nat} {xs : Nat → Int32} {G : sr_G} {Q : State → Prop} {pc : Nat}
theorem lw_case {n mA mB iA iB jA jB DA DB : Nat} (E : lw_E p s m meth c b L xs G) (kc : ∀ (k : Nat) (h : sr_H), JX h → sr_M DA mA (.ref 0 :: lw_A xs k 1 n) h (JC DB mB (lw_A xs k 1 n) kI h)) (hn : n ≤ 5) (hD : DA ≤ 1000 ∧ DB ≤ 1000) (ck : lw_ck pc n iA iB = true) (cA : lw_ckM mA 10 n iA jA = true) (cB : lw_ckM mB 11 n iB jB = true) (ci : dk (pc + 1 + 6 * n + 3 + 1 + 6 * n + 3) (.if_icmp .eq (1521 - ((pc + 1 + 6 * n + 3 + 1 + 6 * n + 3 : Nat) : Int))) 3 = true) : lw_G p l e s m below meth c b L G Q pc := by
  intro k h H locs cells slots ls hk I hc hs hl kk
  unfold lw_ck at ck
  simp only [Bool.and_eq_true] at ck
  obtain ⟨d1, d2, d3, d4, d5, d6⟩ := ck
  have E' := E
  obtain ⟨⟨hx, hb, hr, hml, hown, hts, hX, hbl, hlocks, hgv⟩, hL, hkn, hG⟩ := E'
  refine lw_both E hl I (by omega) (by omega) (lw_A_v n 1) (by rw [lw_A_ar, lw_A_len]) (K := kI) (fun u hu => by obtain ⟨i, rfl⟩ := hu; rfl) (by rw [lw_A_len]; exact cA) (by rw [lw_A_len]; exact cB) (kc k h I.1) hD.1 hD.2 d1 (fun H locs rest hS z => lw_args E hl hS n 1 _ rest (by omega) (by omega) d2 z) d3 d4 (fun H locs rest hS z => lw_args E hl hS n 1 _ rest (by omega) (by omega) d5 z) d6 ?_
  rintro u h' H' locs' ⟨i, rfl⟩ I'
  refine lv_icmp_eq (tgt := 1521) hx hb (dk_ok ci) (by omega) (fun _ => ?_) (fun z => absurd rfl z)
  exact W.widen (Nat.le_add_right _ _) (Nat.le_add_right _ _) (kk h' H' locs' ls I' hl)
theorem lw_caseJ {n mA mB iA iB jA jB DA DB : Nat} (E : lw_E p s m meth c b L xs G) (kc : ∀ (k : Nat) (h : sr_H), JX h → sr_M DA mA (.ref 0 :: lw_A xs k 1 n) h (JC DB mB (lw_A xs k 1 n) kJ h)) (hn : n ≤ 5) (hD : DA ≤ 1000 ∧ DB ≤ 1000) (ck : lw_ck pc n iA iB = true) (cA : lw_ckM mA 10 n iA jA = true) (cB : lw_ckM mB 11 n iB jB = true) (cl : dk (pc + 1 + 6 * n + 3 + 1 + 6 * n + 3) .lcmp 1 = true) (ci : dk (pc + 1 + 6 * n + 3 + 1 + 6 * n + 3 + 1) (.ifCond .eq (1521 - ((pc + 1 + 6 * n + 3 + 1 + 6 * n + 3 + 1 : Nat) : Int))) 3 = true) : lw_G p l e s m below meth c b L G Q pc := by
  intro k h H locs cells slots ls hk I hc hs hl kk
  unfold lw_ck at ck
  simp only [Bool.and_eq_true] at ck
  obtain ⟨d1, d2, d3, d4, d5, d6⟩ := ck
  have E' := E
  obtain ⟨⟨hx, hb, hr, hml, hown, hts, hX, hbl, hlocks, hgv⟩, hL, hkn, hG⟩ := E'
  refine lw_both E hl I (by omega) (by omega) (lw_A_v n 1) (by rw [lw_A_ar, lw_A_len]) (K := kJ) (fun u hu => by obtain ⟨i, rfl⟩ := hu; rfl) (by rw [lw_A_len]; exact cA) (by rw [lw_A_len]; exact cB) (kc k h I.1) hD.1 hD.2 d1 (fun H locs rest hS z => lw_args E hl hS n 1 _ rest (by omega) (by omega) d2 z) d3 d4 (fun H locs rest hS z => lw_args E hl hS n 1 _ rest (by omega) (by omega) d5 z) d6 ?_
  rintro u h' H' locs' ⟨i, rfl⟩ I'
  refine W.lcmp hx hb (dk_ok cl) ?_
  have e0 : lg_cmp i i = 0 := by
    unfold lg_cmp
    rw [if_neg Int64.lt_irrefl, if_pos rfl]
  rw [e0]
  refine lv_if_eq (tgt := 1521) hx hb (dk_ok ci) (by omega) (fun _ => ?_) (fun z => absurd rfl z)
  exact W.widen (Nat.le_add_right _ _) (Nat.le_add_right _ _) (kk h' H' locs' ls I' hl)
end LWC
