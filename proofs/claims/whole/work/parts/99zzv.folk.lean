/-! folk: the class throws, the law catches. -/
abbrev fE1 : String := "java/lang/IndexOutOfBoundsException"
abbrev fE2 : String := "java/util/NoSuchElementException"
abbrev fRun : String := "java/lang/RuntimeException"
abbrev fUp : List String := ["java/lang/Exception"]
abbrev fNms : List String := fRun :: fUp
def lf_B : List Cond := [.castable fE1 fE1, .castable fE2 fE2, .declares (Bundle.initS "java/lang/RuntimeException"), .declares (Bundle.initS "java/lang/Exception"), .declares (Bundle.initS Bundle.tN)]
theorem lf_B_t : ∀ w ∈ lf_B, w.onTables = true := by
  intro w hw
  simp only [lf_B, List.mem_cons, List.not_mem_nil, or_false] at hw
  rcases hw with rfl | rfl | rfl | rfl | rfl <;> rfl
/-- what a throw asks of the class files, beyond the good words -/
def lf_X (G : sr_G) (U : State) : Prop := vx_Zq Bundle.tN "UNASSIGNED_STACK" Bundle.steD (sr_A G) U U.heap ∧ vx_Zq Bundle.tN "SUPPRESSED_SENTINEL" Bundle.listD (sr_A G) U U.heap ∧ va_Nc fE2 fE1 U ∧ ∀ w ∈ lf_B, va_Nw w U
theorem lf_X.go {G : sr_G} {s U : State} {H : Heap} {locs : List Loc} (h : lf_X G s) (hS : va_S (sr_A G) s.heap H locs) (hU : U.heap = H) (hW : s.WarmedH U.vm) : lf_X G U := by
  obtain ⟨h1, h2, h3, h4⟩ := h
  refine ⟨by rw [hU]; exact vx_Zq.moved hW.alike (h1.kept hS.2.1), by rw [hU]; exact vx_Zq.moved hW.alike (h2.kept hS.2.1), va_Nc.moved hW.alike h3, fun w hw => ?_⟩
  have z := h4 w hw
  simp only [lf_B, List.mem_cons, List.not_mem_nil, or_false] at hw
  rcases hw with rfl | rfl | rfl | rfl | rfl
  · exact va_Nw.warmC hW z
  · exact va_Nw.warmC hW z
  · exact va_Nw.warmD hW z
  · exact va_Nw.warmD hW z
  · exact va_Nw.warmD hW z
theorem lf_X.calling {G : sr_G} {U : State} {g : JFrame} {mk : MethodId} {a : Array Value} (h : lf_X G U) : lf_X G (U.calling g mk a) := by
  obtain ⟨h1, h2, h3, h4⟩ := h
  have hA : U.vm.Alike (U.calling g mk a).vm := Vm.Alike.refl U.vm
  exact ⟨vx_Zq.moved hA h1, vx_Zq.moved hA h2, va_Nc.moved hA h3, fun w hw => va_Nw.same (u := U) (lf_B_t w hw) rfl (h4 w hw)⟩
abbrev fr2 : ByteArray := prog_30_method_4_code
theorem fw1_g : ∀ w ∈ (vx_atS "ScreenRoom" 134 fE1 fNms).filter goodWord, w ∈ lw_tbl := by decide +kernel
theorem fw1_b : ∀ w ∈ (vx_atS "ScreenRoom" 134 fE1 fNms).filter (fun w => !goodWord w), w ∈ lf_B := by decide +kernel
theorem fw1_o : ∀ w ∈ Cond.classLink "ScreenRoom" 130 fE1 :: Cond.initialized fE1 :: vx_atS "ScreenRoom" 134 fE1 fNms, vx_ot w = true := by decide +kernel
theorem fw2_g : ∀ w ∈ (nx_at "ScreenRoom" 160 fE2 13 fr2 fRun fUp).filter goodWord, w ∈ lw_tbl := by decide +kernel
theorem fw2_b : ∀ w ∈ (nx_at "ScreenRoom" 160 fE2 13 fr2 fRun fUp).filter (fun w => !goodWord w), w ∈ lf_B := by decide +kernel
theorem fw2_o : ∀ w ∈ Cond.classLink "ScreenRoom" 156 fE2 :: Cond.initialized fE2 :: nx_at "ScreenRoom" 160 fE2 13 fr2 fRun fUp, vx_ot w = true := by decide +kernel
theorem fw_in {L : List Cond} {args : Array Value} {s : State} {G : sr_G} (hg : ∀ w ∈ L.filter goodWord, w ∈ lw_tbl) (hb : ∀ w ∈ L.filter (fun w => !goodWord w), w ∈ lf_B) (hts : ∀ w ∈ sr_tb, w.before args s = true) (hX : lf_X G s) : ∀ w ∈ L, w.before args s = true :=
  vx_hat (fun w hw => hts w (List.mem_filter.mpr ⟨hg w hw, (List.mem_filter.mp hw).2⟩)) hb (fun w hw => va_Nw.use (lf_B_t w hw) (hX.2.2.2 w hw))
/-- folk's start -/
def cf_P (G : sr_G) (as : List Value) (h : sr_H) : Array Value → State → Prop := fun v U => v = (as.map (sr_v G)).toArray ∧ sr_at G h U.heap ∧ sr_kn G U ∧ lf_X G U
theorem cf_P_blind (G : sr_G) (as : List Value) (h : sr_H) : FrameBlind (cf_P G as h) := fun _ _ _ _ q => ⟨q.1, q.2.1, q.2.2.1.calling, q.2.2.2.calling⟩
def cf_XC (G : sr_G) (h : sr_H) (E0 : String) : String → State → State → Prop := fun E st t => E = E0 ∧ sr_at G h t.heap ∧ va_F (sr_A G) st t
theorem sr_at_kept {G : sr_G} {h : sr_H} {H H1 : Heap} (hat : sr_at G h H) (hz : H.size ≤ H1.size) (hk : ∀ q : Nat, q < H.size → H1[q]? = H[q]?) : sr_at G h H1 := ⟨hat.1.kept (fun k x hx => hk x.1 ((hat.1 k x hx).lt)), hat.2.1, Nat.le_trans hat.2.2 hz⟩
theorem er_at {fs tm : List Value} {k b : Nat} (e : fs.map sr_er = tm) (hk : tm[k]? = some (.ref b)) : fs[k]? = some (.ref b) := by
  rw [← e, List.getElem?_map] at hk
  cases hf : fs[k]? with
  | none =>
    rw [hf] at hk
    cases hk
  | some v =>
    rw [hf] at hk
    have e2 : sr_er v = .ref b := Option.some.inj hk
    cases v with
    | ref a =>
      have e3 : Value.ref a = Value.ref b := e2
      rw [e3]
    | int x => cases e2
    | long x => cases e2
    | float x => cases e2
    | double x => cases e2
    | null => cases e2
    | retAddr x => cases e2
theorem cx_now {h : sr_H} {T : Nat} {q y x xi g : V} {Hh : Nat → V} (j : JS h T q y x xi Hh g) : ∃ fs, h.2 0 = .inr (.inr (10, fs)) ∧ fs[2]? = some (.ref 72) := by
  have e := j.1.1.2.2.1.2
  generalize h.2 0 = cc at e
  rcases cc with ⟨t, n, f⟩ | ⟨n, f⟩ | ⟨c', fs'⟩
  · cases e
  · cases e
  · simp only [sr_sh, Sum.inr.injEq, Prod.mk.injEq] at e
    exact ⟨fs', by rw [e.1], er_at e.2 rfl⟩
theorem cx_room {h : sr_H} {T : Nat} {q y x xi g : V} {Hh : Nat → V} (j : JS h T q y x xi Hh g) : ∃ fs, h.2 72 = .inr (.inr (5, fs)) := by
  have e := ((j.1.1.2.2.2.2.2.2.1.1) 0 _ rfl).2
  generalize h.2 (72 + 0) = cc at e
  rcases cc with ⟨t, n, f⟩ | ⟨n, f⟩ | ⟨c', fs'⟩
  · cases e
  · cases e
  · simp only [sr_sh, Sum.inr.injEq, Prod.mk.injEq] at e
    exact ⟨fs', by rw [e.1]⟩
theorem cx_isFolk {h : sr_H} {T : Nat} {q y x xi g : V} {Hh : Nat → V} (j : JS h T q y x xi Hh g) (v : Int32) : ∃ n, sr_cf n (0 + 1) 77 [.ref 72, .int v] h = some (some (.int (bI (inb v (xF x)) (Classical.propDecidable _))), h) := by
  obtain ⟨n, r, h', e, rfl, rfl⟩ := (m_isFolk (d := 0) (v := v) (Q := fun r h' => r = some (.int (bI (inb v (xF x)) (Classical.propDecidable _))) ∧ h' = h) j.1.1.2.2.2.2.2.2.1.1 j.2.2.1.2.2.1.2.1 j.1.2.2.2.1.1).mpr ⟨rfl, rfl⟩
  exact ⟨n, e⟩
theorem d131 : decode (sr_by 131) 0 = .ok (.aload_n 0, 1) ∧ decode (sr_by 131) 1 = .ok (.getfield 26, 3) ∧ decode (sr_by 131) 4 = .ok (.iload_n 1, 1) ∧ decode (sr_by 131) 5 = .ok (.invokevirtual 127, 3) ∧ decode (sr_by 131) 8 = .ok (.ifCond .ne 13, 3) := by decide +kernel
theorem d131b : (decode (sr_by 131) 11 = .ok (.new 130, 3) ∧ decode (sr_by 131) 14 = .ok (.dup, 1) ∧ decode (sr_by 131) 15 = .ok (.ldc 132, 2) ∧ decode (sr_by 131) 17 = .ok (.invokespecial 134, 3) ∧ decode (sr_by 131) 20 = .ok (.athrow, 1)) ∧ decode (sr_by 131) 21 = .ok (.iload_n 2, 1) ∧ decode (sr_by 131) 22 = .ok (.tableswitch 97 0 5 #[38, 48, 58, 68, 78, 88], 38) ∧ (decode (sr_by 131) 119 = .ok (.new 156, 3) ∧ decode (sr_by 131) 122 = .ok (.dup, 1) ∧ decode (sr_by 131) 123 = .ok (.ldc 158, 2) ∧ decode (sr_by 131) 125 = .ok (.invokespecial 160, 3) ∧ decode (sr_by 131) 128 = .ok (.athrow, 1)) := by decide +kernel
theorem y131 : sr_y 131 = ⟨"ScreenRoom", "folk", "(II)I"⟩ ∧ sr_ml 131 = 3 ∧ sr_rt 131 = some .int := by decide +kernel
section CFW
variable {p : Program} {l : Launch} {e : Env} {R : Room} {s : State} {m : MethodId} {args : Array Value} {below : List Frame} {meth : Method} {c : Code} {G : sr_G} {cells slots : Nat} {Q : State → Prop} {ls : Array Slot} {h : sr_H} {T : Nat} {q y x xi g : V} {Hh : Nat → V} {pv wv : Int32}
set_option maxHeartbeats 1000000 in
/-- class folk: up to the test whether there is such a one -/
theorem cf_pre (j : JS h T q y x xi Hh g) (h1 : h.1.1 = 187) (hx : p.tables.exec = Jvm.exec) (hb : c.code = sr_by 131) (hml : c.maxLocals = 3) (hown : s.vm.findClass "ScreenRoom" = some m.cls) (hts : ∀ w ∈ sr_tb, w.before args s = true) (hkn : sr_kn G s) (hl : lv_has ls 3 [(0, .ref (G.1 + 0)), (1, .int pv), (2, .int wv)]) (hat : sr_at G h s.heap) (hR : 20 ≤ R.frames ∧ 1200 ≤ R.locals)
    (kk : ∀ (H1 : Heap) (locs1 : List Loc), sr_at G h H1 → va_S (sr_A G) s.heap H1 locs1 → W p l e R s m args below meth c H1 locs1 0 0 Q (F0 m 8 ls [.int (bI (inb pv (xF x)) (Classical.propDecidable _))])) : W p l e R s m args below meth c s.heap [] 0 0 Q (F0 m 0 ls []) := by
  obtain ⟨d0, d1, d4, d5, -⟩ := d131
  obtain ⟨fs, o0, o2⟩ := cx_now j
  obtain ⟨n, ev⟩ := cx_isFolk j pv
  have hS : va_S (sr_A G) s.heap s.heap [] := va_S.rf
  have he := sr_w_get (G := G) (h := h) (k := 0) (by omega)
  rw [o0] at he
  obtain ⟨⟨CC, TT, NN⟩, hq1, hq2, hq3⟩ := sr_TF_ok.1 11 (26, 10, 2, 747) (by decide +kernel)
  refine lv_aload_n hx hb d0 rfl (lv_at hl 0 rfl) ?_
  have had : sr_ad G 72 = G.1 + 72 := sr_ad_lt hat (by omega)
  refine va_get (Ts := sr_tb) (v := .ref (G.1 + 72)) hx hb hts (sr_TF_ok.2.1 _ _ hq1).1 hown hkn.1 hat.1 0 he hq1 2 hq2 (hts _ hq3) (fun _ h9 => h9) (by rw [List.getElem?_map, o2]; show some (Value.ref (sr_ad G 72)) = _; rw [had]) d1 ?_
  refine lv_iload_n hx hb d4 rfl (lv_at hl 1 rfl) ?_
  have hmx : sr_mx = 187 := rfl
  have e9 : sr_ml 77 = 2 := by decide +kernel
  have e5 : sr_mc 77 = 5 := by decide +kernel
  obtain ⟨f5, o5⟩ := cx_room j
  exact sr_inv (mid := 77) (idx := 127) (a := 72) (as := [.int pv]) (rest := []) hx hb hml hown hts hkn hl.1 (by decide) (by decide +kernel) (show 1 = sr_np 77 by decide +kernel) (by rw [e9]; exact Nat.le_refl 2) (sr_wd_in (j := 1022) (by decide +kernel)) (by omega) (by omega) ev (by omega) ⟨f5, by rw [o5, e5]⟩ (by omega) rfl hat hS (Nat.zero_le _) (Nat.zero_le _) d5 (Nat.zero_le _) kk
end CFW
theorem cf_args {G : sr_G} {h : sr_H} {H : Heap} {pv wv : Int32} (hat : sr_at G h H) (h1 : h.1.1 = 187) : ([.ref 0, .int pv, .int wv] : List Value).map (sr_v G) = [.ref (G.1 + 0), .int pv, .int wv] := by
  show [Value.ref (sr_ad G 0), .int pv, .int wv] = _
  rw [sr_ad_lt hat (by omega)]
set_option maxHeartbeats 2000000 in
theorem cf_1 {l : Launch} (htr : l.stackTraces = false) {G : sr_G} {h : sr_H} {T : Nat} {q y x xi g : V} {Hh : Nat → V} {pv wv : Int32} (j : JS h T q y x xi Hh g) (h1 : h.1.1 = 187) (hp : ¬ inb pv (xF x)) : vx_Met l (sr_y 131) (sr_ws 131) (sr_rm 20 1 6) (cf_P G [.ref 0, .int pv, .int wv] h) (fun _ _ _ _ => False) (cf_XC G h fE1) 1 6 (sr_A G) := by
  obtain ⟨k1, k2, k3, k4, k5, k6, k7, k8, k9⟩ := sr_TF_ok.2.2.2.2.2.2.2.2.2.2.1 131 (by decide)
  refine vx_ofW (cc := sr_by 131) (maxL := sr_ml 131) (ret := sr_rt 131) k2 rfl ?_
  intro p e s m args below meth c s₁ B hml ht hv
  obtain ⟨hv, hat, hkn, hX⟩ := hv
  rw [cf_args hat h1] at hv
  subst hv
  have hx := B.exec
  have hb := B.bytes
  have hlocks := B.notSynchronized
  have hts0 := atoms_spec (ws := sr_ws 131) B.pre
  have hts : ∀ w ∈ sr_tb, w.before _ s = true := fun w hw => hts0 w (List.mem_cons_of_mem _ hw)
  have hown : s.vm.findClass "ScreenRoom" = some m.cls := by
    have z := findClass_of_methodNamed B.named
    rw [y131.1] at z
    exact z
  rw [y131.2.1] at hml ⊢
  have hl := lv_entry [.ref (G.1 + 0), .int pv, .int wv] (n := 3) (Nat.le_of_ble_eq_true rfl)
  rw [lg_entry_eq]
  show W p l e (sr_rm 20 1 6) s m _ below meth c s.heap [] 0 0 _ _
  generalize (lg_sl [.ref (G.1 + 0), .int pv, .int wv] ++ List.replicate (3 - (lg_sl [.ref (G.1 + 0), .int pv, .int wv]).length) Slot.unset).toArray = ls at hl ⊢
  obtain ⟨-, -, -, -, d8⟩ := d131
  obtain ⟨⟨t0, t1, t2, t3, t4⟩, -, -, -⟩ := d131b
  refine cf_pre (pv := pv) (wv := wv) j h1 hx hb hml hown hts hkn hl hat ⟨Nat.le_of_ble_eq_true rfl, Nat.le_of_ble_eq_true rfl⟩ (fun H1 locs1 hat1 hS1 => ?_)
  refine lv_if_ne (tgt := 21) hx hb d8 (by decide) (fun z => absurd ?_ z) (fun _ => ?_)
  · unfold bI
    exact if_neg hp
  · refine vx_throwS (cls := fE1) (own := "ScreenRoom") (names := fNms) (text := "no such one of folk") (A := sr_A G) (ik := 130) (is := 132) (ic := 134) hx hb htr hown (by decide +kernel) (by decide +kernel) (hts _ (sr_wd_in (j := 1424) (by decide +kernel))) (hts _ (sr_wd_in (j := 139) (by decide +kernel))) (hkn.2.2.2.1 1 (by decide)) (fw_in fw1_g fw1_b hts hX) fw1_o hX.1 hX.2.1 hS1 (hl.1.trans hml.symm) t0 t1 t2 t3 t4 (fun z hz => (ht z hz).elim) (Nat.le_of_ble_eq_true rfl) (Nat.le_of_ble_eq_true rfl) (Nat.le_of_ble_eq_true rfl) (Nat.le_of_ble_eq_true rfl) hlocks (fun t _ z1 z2 => ⟨rfl, sr_at_kept hat1 z1 z2, Nat.le_trans hS1.1 z1, fun q9 g1 g2 => (z2 q9 (Nat.lt_of_lt_of_le g1 hS1.1)).trans (hS1.2.1 q9 g1 g2)⟩) hS1.2.2 (Nat.le_refl _) (Nat.le_refl _)
theorem inb_out {w : Int32} (h : ¬ inb w 6) : w.toInt < 0 ∨ 5 < w.toInt := by
  by_cases z : w < 0
  · exact Or.inl (by have := Int32.lt_iff_toInt_lt.mp z; simpa using this)
  · obtain ⟨k, hk, rfl⟩ := nI_of z
    refine Or.inr ?_
    rw [nI_toInt hk]
    have : ¬ k < 6 := fun q => h ((inb_nI hk).mpr q)
    omega
set_option maxHeartbeats 2000000 in
theorem cf_2 {l : Launch} (htr : l.stackTraces = false) {G : sr_G} {h : sr_H} {T : Nat} {q y x xi g : V} {Hh : Nat → V} {pv wv : Int32} (j : JS h T q y x xi Hh g) (h1 : h.1.1 = 187) (hp : inb pv (xF x)) (hw : ¬ inb wv 6) : vx_Met l (sr_y 131) (sr_ws 131) (sr_rm 20 1 6) (cf_P G [.ref 0, .int pv, .int wv] h) (fun _ _ _ _ => False) (cf_XC G h fE2) 1 6 (sr_A G) := by
  obtain ⟨k1, k2, k3, k4, k5, k6, k7, k8, k9⟩ := sr_TF_ok.2.2.2.2.2.2.2.2.2.2.1 131 (by decide)
  refine vx_ofW (cc := sr_by 131) (maxL := sr_ml 131) (ret := sr_rt 131) k2 rfl ?_
  intro p e s m args below meth c s₁ B hml ht hv
  obtain ⟨hv, hat, hkn, hX⟩ := hv
  rw [cf_args hat h1] at hv
  subst hv
  have hx := B.exec
  have hb := B.bytes
  have hlocks := B.notSynchronized
  have hts0 := atoms_spec (ws := sr_ws 131) B.pre
  have hts : ∀ w ∈ sr_tb, w.before _ s = true := fun w hw => hts0 w (List.mem_cons_of_mem _ hw)
  have hown : s.vm.findClass "ScreenRoom" = some m.cls := by
    have z := findClass_of_methodNamed B.named
    rw [y131.1] at z
    exact z
  rw [y131.2.1] at hml ⊢
  have hl := lv_entry [.ref (G.1 + 0), .int pv, .int wv] (n := 3) (Nat.le_of_ble_eq_true rfl)
  rw [lg_entry_eq]
  show W p l e (sr_rm 20 1 6) s m _ below meth c s.heap [] 0 0 _ _
  generalize (lg_sl [.ref (G.1 + 0), .int pv, .int wv] ++ List.replicate (3 - (lg_sl [.ref (G.1 + 0), .int pv, .int wv]).length) Slot.unset).toArray = ls at hl ⊢
  obtain ⟨-, -, -, -, d8⟩ := d131
  obtain ⟨-, d21, d22, t0, t1, t2, t3, t4⟩ := d131b
  refine cf_pre (pv := pv) (wv := wv) j h1 hx hb hml hown hts hkn hl hat ⟨Nat.le_of_ble_eq_true rfl, Nat.le_of_ble_eq_true rfl⟩ (fun H1 locs1 hat1 hS1 => ?_)
  refine lv_if_ne (tgt := 21) hx hb d8 (by decide) (fun _ => ?_) (fun z => absurd z ?_)
  · refine lv_iload_n hx hb d21 rfl (lv_at hl 2 rfl) ?_
    refine lv_tableOut (tgt := 119) hx hb d22 (inb_out hw) (by decide) ?_
    refine nx_throw (cls := fE2) (own := "ScreenRoom") (Y0 := fRun) (r0 := fUp) (text := "no such what") (A := sr_A G) (ix := 13) (rx := fr2) (ik := 156) (is := 158) (ic := 160) hx hb htr (by decide +kernel) (by decide +kernel) (by decide +kernel) (by decide +kernel) hown (by decide +kernel) (by decide +kernel) (by decide +kernel) (hts _ (sr_wd_in (j := 1490) (by decide +kernel))) (hts _ (sr_wd_in (j := 140) (by decide +kernel))) (hkn.2.2.2.1 2 (by decide)) (fw_in fw2_g fw2_b hts hX) fw2_o hX.1 hX.2.1 hS1 (hl.1.trans hml.symm) t0 t1 t2 t3 t4 (fun z hz => (ht z hz).elim) (Nat.le_of_ble_eq_true rfl) (Nat.le_of_ble_eq_true rfl) (Nat.le_of_ble_eq_true rfl) (Nat.le_of_ble_eq_true rfl) hlocks (fun t _ z1 z2 => ⟨rfl, sr_at_kept hat1 z1 z2, Nat.le_trans hS1.1 z1, fun q9 g1 g2 => (z2 q9 (Nat.lt_of_lt_of_le g1 hS1.1)).trans (hS1.2.1 q9 g1 g2)⟩) hS1.2.2 (Nat.le_refl _) (Nat.le_refl _)
  · unfold bI
    rw [if_pos hp]
    decide
