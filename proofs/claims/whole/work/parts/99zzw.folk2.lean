/-! The law's own folk, and its case. -/
abbrev yF : MethodName := ⟨"ScreenRoomLaw", "folk", "(LScreenRoom;II[J)I"⟩
abbrev lf_hh : List (Nat × Nat × Nat × Nat) := [(0, 10, 13, 13), (0, 10, 17, 15)]
def lf_ws : List Cond := .codeWith yF method_3_code 5 (some .int) lf_hh :: sr_tb
theorem lf_ofW {l : Launch} {y : MethodName} {ws ws' : List Cond} {rm : Room} {Pc : Array Value → State → Prop} {Qc : Array Value → State → Outcome → State → Prop} {mc ms : Nat} {free : Addr → Prop} {cc : ByteArray} {maxL : Nat} {ret : Option FieldType} {hh : List (Nat × Nat × Nat × Nat)}
    (hy : plainName y.cls = true) (hw : ws = Cond.codeWith y cc maxL ret hh :: ws')
    (body : ∀ p e s m args below meth c s₁, BodyLoose p l y (headSpec ws rm) cc maxL ret e s m args below meth c s₁ → c.maxLocals = maxL → Pc args s →
      W p l e (headSpec ws rm).room s m args below meth c s.heap [] 0 0 (MQ below Qc args s mc ms free) (entryFrame m args maxL)) : Met l y ws rm Pc Qc mc ms free := by
  refine MetFree.of_bodyS (code := cc) (maxLocals := maxL) (ret := ret) hy ?_ ?_
  · intro args s m h hn
    obtain ⟨m9, meth, c, hn9, h1, h2, h3, h4, -, h5, h6, -⟩ := Cond.codeWith_spec (atoms_spec (ws := ws) h _ (by rw [hw]; exact List.mem_cons_self))
    cases hn.symm.trans hn9
    exact ⟨meth, c, h1, h2, h3, h4, h5, h6⟩
  · intro p e s m args below meth c s₁ B hml hP _
    have hh0 : s₁.heap = s.heap := by rw [B.state]; rfl
    obtain ⟨t, a1, o, b1, b2, b3⟩ := body p e s m args below meth c s₁ B hml hP s₁ hh0 (Stand.of_body B)
    exact ⟨t, o, a1, b1, b2, ⟨b3.1, b3.2⟩⟩
theorem d3f : (decode method_3_code 0 = .ok (.aload_n 3, 1) ∧ decode method_3_code 1 = .ok (.iconst 0, 1) ∧ decode method_3_code 2 = .ok (.aload_n 0, 1) ∧ decode method_3_code 3 = .ok (.iload_n 1, 1) ∧ decode method_3_code 4 = .ok (.iload_n 2, 1) ∧ decode method_3_code 5 = .ok (.invokevirtual 7, 3)) ∧ (decode method_3_code 8 = .ok (.i2l, 1) ∧ decode method_3_code 9 = .ok (.lastore, 1) ∧ decode method_3_code 10 = .ok (.goto 11, 3) ∧ decode method_3_code 21 = .ok (.iconst 0, 1) ∧ decode method_3_code 22 = .ok (.ireturn, 1)) ∧ (decode method_3_code 13 = .ok (.astore 4, 2) ∧ decode method_3_code 15 = .ok (.iconst 1, 1) ∧ decode method_3_code 16 = .ok (.ireturn, 1)) ∧ (decode method_3_code 17 = .ok (.astore 4, 2) ∧ decode method_3_code 19 = .ok (.iconst 2, 1) ∧ decode method_3_code 20 = .ok (.ireturn, 1)) := ⟨by decide +kernel, by decide +kernel, by decide +kernel, by decide +kernel⟩
theorem lf_args {G : sr_G} {h : sr_H} {H : Heap} {pv wv : Int32} (hat : sr_at G h H) (h1 : h.1.1 = 187) : ([.ref 0, .int pv, .int wv, .ref 186] : List Value).map (sr_v G) = [.ref (G.1 + 0), .int pv, .int wv, .ref (G.1 + 186)] := by
  show [Value.ref (sr_ad G 0), .int pv, .int wv, Value.ref (sr_ad G 186)] = _
  rw [sr_ad_lt hat (by omega), sr_ad_lt hat (by omega)]
theorem m131 : sr_mq 131 = 0 ∧ sr_np 131 = 2 ∧ sr_mc 131 = 10 := by decide +kernel
section LFT
variable {p : Program} {l : Launch} {e : Env} {R : Room} {s : State} {m : MethodId} {args : Array Value} {below : List Frame} {meth : Method} {c : Code} {G : sr_G} {H : Heap} {locs : List Loc} {cells slots mc ms : Nat} {Q : State → Prop} {ls : Array Slot} {h : sr_H} {pc : Nat} {st0 rest : List Value} {free : Addr → Prop}
theorem lf_thrown {E0 : String} (hr : vx_Run p l e R s m args below meth c H locs cells slots mc ms (F0 m pc ls st0) rest (fun _ _ _ => False) (cf_XC G h E0) free) (hf : ∀ q, free q → sr_A G q) (hS : va_S (sr_A G) s.heap H locs)
    (kx : ∀ (ce : Cell) (q : Addr) (H1 : Heap) (locs1 : List Loc), sr_at G h H1 → va_S (sr_A G) s.heap H1 locs1 → H1[q]? = some ce → ce.vm = .none → s.vm.findClass E0 = some ce.cls → vx_W p l e R s m args below meth c H1 locs1 (cells + mc) (slots + ms) Q (F0 m pc ls rest) q) : W p l e R s m args below meth c H locs cells slots Q (F0 m pc ls st0) := by
  intro T hT X
  rcases hr T hT X with ⟨v, st₀, t, T', L, h0, X', hL, e1, e2, hq, st⟩ | ⟨q, st₀, t, T', L, E, ce, h0, X', hL, e1, e2, ⟨hE, hat, hF⟩, hce, hcv, hcl, st⟩
  · exact hq.elim
  · subst hE
    obtain ⟨z1, z2, z3⟩ := vx_keep (A0 := sr_A G) (A1 := sr_A G) (H0 := s.heap) h0 e1 hS (fun _ _ z => z) hf hL hF
    obtain ⟨t2, a1, b1⟩ := kx ce q T'.heap (locs ++ L) (by rw [e1]; exact hat) z3 (by rw [e1]; exact hce) hcv hcl T' rfl X'
    exact ⟨t2, st.trans a1, b1⟩
end LFT
set_option maxHeartbeats 2000000 in
theorem lf_0 {l : Launch} {G : sr_G} {h : sr_H} {T : Nat} {q y x xi g : V} {Hh : Nat → V} {pv wv : Int32} {f : Nat → Int64} (j : JS h T q y x xi Hh g) (h1 : h.1.1 = 187) (ef : h.2 186 = .inr (.inl (1, f))) (hp : inb pv (xF x)) (hw : inb wv 6) : Met l yF lf_ws (sr_rm 40 1 6) (cf_P G [.ref 0, .int pv, .int wv, .ref 186] h) (sr_Q G (some (.int (nI 0))) (sr_wo h (vp_updL f 0 (a_folk x pv.toNatClampNeg wv.toNatClampNeg).toInt64))) 1 6 (sr_A G) := by
  obtain ⟨n, r, h', ev, hr9, hh9⟩ := j_folkC (dA := 0) j hp hw
  rw [hr9, hh9] at ev
  refine lf_ofW (cc := method_3_code) (maxL := 5) (ret := some .int) (hh := lf_hh) (by decide +kernel) rfl ?_
  intro p e s m args below meth c s₁ B hml hv
  obtain ⟨hv, hat, hkn, hX⟩ := hv
  rw [lf_args hat h1] at hv
  subst hv
  have hx := B.exec
  have hb := B.bytes
  have hr := B.returns
  have hts0 := atoms_spec (ws := lf_ws) B.pre
  have hts : ∀ w ∈ sr_tb, w.before _ s = true := fun w hw => hts0 w (List.mem_cons_of_mem _ hw)
  have hown : s.vm.findClass "ScreenRoomLaw" = some m.cls := findClass_of_methodNamed B.named
  have hl := lv_entry [.ref (G.1 + 0), .int pv, .int wv, .ref (G.1 + 186)] (n := 5) (Nat.le_of_ble_eq_true rfl)
  rw [lg_entry_eq]
  show W p l e (sr_rm 40 1 6) s m _ below meth c s.heap [] 0 0 _ _
  generalize (lg_sl [.ref (G.1 + 0), .int pv, .int wv, .ref (G.1 + 186)] ++ List.replicate (5 - (lg_sl [.ref (G.1 + 0), .int pv, .int wv, .ref (G.1 + 186)]).length) Slot.unset).toArray = ls at hl ⊢
  have hl : lv_has ls 5 [(0, .ref (G.1 + 0)), (1, .int pv), (2, .int wv), (3, .ref (G.1 + 186))] := hl
  obtain ⟨⟨d0, d1, d2, d3, d4, d5⟩, ⟨d8, d9, d10, d21, d22⟩, -, -⟩ := d3f
  obtain ⟨fs, o0, -⟩ := cx_now j
  have hmx : sr_mx = 187 := rfl
  have he := sr_w_get (G := G) (h := h) (k := 186) (by omega)
  rw [ef] at he
  refine lv_aload_n hx hb d0 rfl (lv_at hl 3 rfl) ?_
  refine lv_iconst (v := nI 0) hx hb d1 (by decide) ?_
  refine lv_aload_n hx hb d2 rfl (lv_at hl 0 rfl) ?_
  refine lv_iload_n hx hb d3 rfl (lv_at hl 1 rfl) ?_
  refine lv_iload_n hx hb d4 rfl (lv_at hl 2 rfl) ?_
  refine sr_inv (mid := 131) (idx := 7) (a := 0) (as := [.int pv, .int wv]) (rest := [.int (nI 0), .ref (G.1 + 186)]) hx hb hml hown hts hkn hl.1 (by decide) m131.1 m131.2.1.symm (by rw [y131.2.1]; exact Nat.le_refl 3) (sr_wd_in (j := 1420) (by decide +kernel)) (Nat.le_of_ble_eq_true rfl) (by rw [y131.2.1]; exact Nat.le_of_ble_eq_true rfl) ev (by omega) ⟨fs, by rw [o0, m131.2.2]⟩ (by omega) rfl hat va_S.rf (Nat.zero_le _) (Nat.zero_le _) d5 (by show 1 + (1 + 0) ≤ 8; decide) (fun H1 locs1 hat1 hS1 => ?_)
  refine lv_i2l (v := (a_folk x pv.toNatClampNeg wv.toNatClampNeg).toInt64) hx hb d8 rfl ?_
  refine va_last hx hb hkn.1 hat1.1 (sr_w_D G h) hS1 186 2 he rfl (vp_in_nI (by decide) (by decide)) d9 (fun H2 locs2 hP2 hD2 hS2 => ?_)
  have e0 : (nI 0).toNatClampNeg = 0 := nI_clamp (by decide)
  rw [e0] at hP2
  have hw9 := sr_w_set (G := G) (h := h) (k := 186) (.inr (.inl (1, vp_updL f 0 (a_folk x pv.toNatClampNeg wv.toNatClampNeg).toInt64)))
  refine lv_goto (tgt := 21) hx hb d10 (by decide) ?_
  refine lv_iconst (v := nI 0) hx hb d21 (by decide) ?_
  refine W.widen (k := 1) (n := 6) (Nat.zero_le _) (Nat.zero_le _) ?_
  exact W.iret hx hb hr (fun t ht _ => ⟨rfl, by rw [ht]; exact ⟨by rw [show sr_wo h (vp_updL f 0 (a_folk x pv.toNatClampNeg wv.toNatClampNeg).toInt64) = (h.1, sr_up h.2 186 (.inr (.inl (1, vp_updL f 0 (a_folk x pv.toNatClampNeg wv.toNatClampNeg).toInt64)))) from rfl, ← hw9]; exact hP2, hat1.2.1, Nat.le_trans hat.2.2 hS2.1⟩, hS2.F ht⟩) hS2.2.2 d22
set_option maxHeartbeats 2000000 in
theorem lf_1 {l : Launch} (htr : l.stackTraces = false) {G : sr_G} {h : sr_H} {T : Nat} {q y x xi g : V} {Hh : Nat → V} {pv wv : Int32} (j : JS h T q y x xi Hh g) (h1 : h.1.1 = 187) (hp : ¬ inb pv (xF x)) : Met l yF lf_ws (sr_rm 40 1 6) (cf_P G [.ref 0, .int pv, .int wv, .ref 186] h) (sr_Q G (some (.int (nI 1))) h) 1 6 (sr_A G) := by
  have hM := cf_1 (wv := wv) (G := G) htr j h1 hp
  refine lf_ofW (cc := method_3_code) (maxL := 5) (ret := some .int) (hh := lf_hh) (by decide +kernel) rfl ?_
  intro p e s m args below meth c s₁ B hml hv
  obtain ⟨hv, hat, hkn, hX⟩ := hv
  rw [lf_args hat h1] at hv
  subst hv
  have hx := B.exec
  have hb := B.bytes
  have hr := B.returns
  have hts0 := atoms_spec (ws := lf_ws) B.pre
  have hts : ∀ w ∈ sr_tb, w.before _ s = true := fun w hw => hts0 w (List.mem_cons_of_mem _ hw)
  have htab := vx_table (x := yF) B (hts0 _ List.mem_cons_self)
  have hown : s.vm.findClass "ScreenRoomLaw" = some m.cls := findClass_of_methodNamed B.named
  have hl := lv_entry [.ref (G.1 + 0), .int pv, .int wv, .ref (G.1 + 186)] (n := 5) (Nat.le_of_ble_eq_true rfl)
  rw [lg_entry_eq]
  show W p l e (sr_rm 40 1 6) s m _ below meth c s.heap [] 0 0 _ _
  generalize (lg_sl [.ref (G.1 + 0), .int pv, .int wv, .ref (G.1 + 186)] ++ List.replicate (5 - (lg_sl [.ref (G.1 + 0), .int pv, .int wv, .ref (G.1 + 186)]).length) Slot.unset).toArray = ls at hl ⊢
  have hl : lv_has ls 5 [(0, .ref (G.1 + 0)), (1, .int pv), (2, .int wv), (3, .ref (G.1 + 186))] := hl
  obtain ⟨⟨d0, d1, d2, d3, d4, d5⟩, -, ⟨d13, d15, d16⟩, -⟩ := d3f
  obtain ⟨fs, o0, -⟩ := cx_now j
  have he := sr_w_get (G := G) (h := h) (k := 0) (by omega)
  rw [o0] at he
  obtain ⟨k1, k2, k3, k4, k5, k6, k7, -, -⟩ := sr_TF_ok.2.2.2.2.2.2.2.2.2.2.1 131 (by decide)
  obtain ⟨k8, k9, qc, k10, k11⟩ := k7 m131.1
  rw [m131.2.2] at k10
  have hS : va_S (sr_A G) s.heap s.heap [] := va_S.rf
  refine lv_aload_n hx hb d0 rfl (lv_at hl 3 rfl) ?_
  refine lv_iconst (v := nI 0) hx hb d1 (by decide) ?_
  refine lv_aload_n hx hb d2 rfl (lv_at hl 0 rfl) ?_
  refine lv_iload_n hx hb d3 rfl (lv_at hl 1 rfl) ?_
  refine lv_iload_n hx hb d4 rfl (lv_at hl 2 rfl) ?_
  have hrun : vx_Run p l e (sr_rm 40 1 6) s m _ below meth c s.heap [] 0 0 1 6 (F0 m 5 ls [.int wv, .int pv, .ref (G.1 + 0), .int (nI 0), .ref (G.1 + 186)]) [.int (nI 0), .ref (G.1 + 186)] (fun _ _ _ => False) (cf_XC G h fE1) (sr_A G) :=
    vx_runV (Ts := sr_tb) (C := (sr_y 131).cls) (As := [.int pv, .int wv]) (b := G.1 + 0) (own := "ScreenRoomLaw") (index := 7) (n := 2) ⟨hx, hb, hml, hown, hts⟩ hM ⟨callB_of 2 hts (sr_ws_in sr_TF_ok (by decide)) rfl rfl rfl (hts _ k6) (hts _ (sr_wd_in (j := 1420) (by decide +kernel))) (by rw [m131.2.1] at k3; exact k3) ⟨Nat.le_of_ble_eq_true rfl, by rw [y131.2.1]; exact Nat.le_of_ble_eq_true rfl⟩, hts _ k8, hts _ k9⟩
      ⟨cf_P_blind G _ _, by rw [← k11]; exact va_recv hkn.1 hat.1 k10 he, fun U hU hW => ⟨by rw [cf_args hat h1], by rw [hU]; exact hat, hkn.go hS hU hW, hX.go hS hU hW⟩⟩ rfl rfl hl.1 rfl (lv_room (by show 1 + (1 + 0) ≤ 8; decide)) d5 ⟨Nat.le_refl _, Nat.le_refl _⟩
  refine lf_thrown hrun (fun _ h => h) hS (fun ce q9 H1 locs1 hat1 hS1 hce hcv hcl => ?_)
  refine vx_catch (own := "ScreenRoomLaw") (name := fE1) (E := fE1) hown [] ⟨0, 10, 13, 13⟩ [⟨0, 10, 17, 15⟩] htab (fun z hz => nomatch hz) (by decide) (by decide) (hts _ (sr_wd_in (j := 1418) (by decide +kernel))) (va_Nw.use rfl (hX.2.2.2 _ List.mem_cons_self)) hce hcv hcl ?_
  refine lv_astore (i := 4) (lv' := [(4, .ref q9), (0, .ref (G.1 + 0)), (1, .int pv), (2, .int wv), (3, .ref (G.1 + 186))]) hx hb d13 hl (by decide) rfl (fun ls hl => ?_)
  refine lv_iconst (v := nI 1) hx hb d15 (by decide) ?_
  exact W.iret hx hb hr (fun t ht _ => ⟨rfl, by rw [ht]; exact hat1, hS1.F ht⟩) hS1.2.2 d16
set_option maxHeartbeats 2000000 in
theorem lf_2 {l : Launch} (htr : l.stackTraces = false) {G : sr_G} {h : sr_H} {T : Nat} {q y x xi g : V} {Hh : Nat → V} {pv wv : Int32} (j : JS h T q y x xi Hh g) (h1 : h.1.1 = 187) (hp : inb pv (xF x)) (hw : ¬ inb wv 6) : Met l yF lf_ws (sr_rm 40 1 6) (cf_P G [.ref 0, .int pv, .int wv, .ref 186] h) (sr_Q G (some (.int (nI 2))) h) 1 6 (sr_A G) := by
  have hM := cf_2 (G := G) htr j h1 hp hw
  refine lf_ofW (cc := method_3_code) (maxL := 5) (ret := some .int) (hh := lf_hh) (by decide +kernel) rfl ?_
  intro p e s m args below meth c s₁ B hml hv
  obtain ⟨hv, hat, hkn, hX⟩ := hv
  rw [lf_args hat h1] at hv
  subst hv
  have hx := B.exec
  have hb := B.bytes
  have hr := B.returns
  have hts0 := atoms_spec (ws := lf_ws) B.pre
  have hts : ∀ w ∈ sr_tb, w.before _ s = true := fun w hw => hts0 w (List.mem_cons_of_mem _ hw)
  have htab := vx_table (x := yF) B (hts0 _ List.mem_cons_self)
  have hown : s.vm.findClass "ScreenRoomLaw" = some m.cls := findClass_of_methodNamed B.named
  have hl := lv_entry [.ref (G.1 + 0), .int pv, .int wv, .ref (G.1 + 186)] (n := 5) (Nat.le_of_ble_eq_true rfl)
  rw [lg_entry_eq]
  show W p l e (sr_rm 40 1 6) s m _ below meth c s.heap [] 0 0 _ _
  generalize (lg_sl [.ref (G.1 + 0), .int pv, .int wv, .ref (G.1 + 186)] ++ List.replicate (5 - (lg_sl [.ref (G.1 + 0), .int pv, .int wv, .ref (G.1 + 186)]).length) Slot.unset).toArray = ls at hl ⊢
  have hl : lv_has ls 5 [(0, .ref (G.1 + 0)), (1, .int pv), (2, .int wv), (3, .ref (G.1 + 186))] := hl
  obtain ⟨⟨d0, d1, d2, d3, d4, d5⟩, -, -, ⟨d17, d19, d20⟩⟩ := d3f
  obtain ⟨fs, o0, -⟩ := cx_now j
  have he := sr_w_get (G := G) (h := h) (k := 0) (by omega)
  rw [o0] at he
  obtain ⟨k1, k2, k3, k4, k5, k6, k7, -, -⟩ := sr_TF_ok.2.2.2.2.2.2.2.2.2.2.1 131 (by decide)
  obtain ⟨k8, k9, qc, k10, k11⟩ := k7 m131.1
  rw [m131.2.2] at k10
  have hS : va_S (sr_A G) s.heap s.heap [] := va_S.rf
  refine lv_aload_n hx hb d0 rfl (lv_at hl 3 rfl) ?_
  refine lv_iconst (v := nI 0) hx hb d1 (by decide) ?_
  refine lv_aload_n hx hb d2 rfl (lv_at hl 0 rfl) ?_
  refine lv_iload_n hx hb d3 rfl (lv_at hl 1 rfl) ?_
  refine lv_iload_n hx hb d4 rfl (lv_at hl 2 rfl) ?_
  have hrun : vx_Run p l e (sr_rm 40 1 6) s m _ below meth c s.heap [] 0 0 1 6 (F0 m 5 ls [.int wv, .int pv, .ref (G.1 + 0), .int (nI 0), .ref (G.1 + 186)]) [.int (nI 0), .ref (G.1 + 186)] (fun _ _ _ => False) (cf_XC G h fE2) (sr_A G) :=
    vx_runV (Ts := sr_tb) (C := (sr_y 131).cls) (As := [.int pv, .int wv]) (b := G.1 + 0) (own := "ScreenRoomLaw") (index := 7) (n := 2) ⟨hx, hb, hml, hown, hts⟩ hM ⟨callB_of 2 hts (sr_ws_in sr_TF_ok (by decide)) rfl rfl rfl (hts _ k6) (hts _ (sr_wd_in (j := 1420) (by decide +kernel))) (by rw [m131.2.1] at k3; exact k3) ⟨Nat.le_of_ble_eq_true rfl, by rw [y131.2.1]; exact Nat.le_of_ble_eq_true rfl⟩, hts _ k8, hts _ k9⟩
      ⟨cf_P_blind G _ _, by rw [← k11]; exact va_recv hkn.1 hat.1 k10 he, fun U hU hW => ⟨by rw [cf_args hat h1], by rw [hU]; exact hat, hkn.go hS hU hW, hX.go hS hU hW⟩⟩ rfl rfl hl.1 rfl (lv_room (by show 1 + (1 + 0) ≤ 8; decide)) d5 ⟨Nat.le_refl _, Nat.le_refl _⟩
  refine lf_thrown hrun (fun _ h => h) hS (fun ce q9 H1 locs1 hat1 hS1 hce hcv hcl => ?_)
  refine vx_catch (own := "ScreenRoomLaw") (name := fE2) (E := fE2) hown [⟨0, 10, 13, 13⟩] ⟨0, 10, 17, 15⟩ [] htab (fun z hz => ?_) (by decide) (by decide) (hts _ (sr_wd_in (j := 1419) (by decide +kernel))) (va_Nw.use rfl (hX.2.2.2 _ (List.mem_cons_of_mem _ List.mem_cons_self))) hce hcv hcl ?_
  · rcases List.mem_cons.mp hz with rfl | hz
    · exact Or.inr ⟨by decide, fE1, hts _ (sr_wd_in (j := 1418) (by decide +kernel)), hX.2.2.1⟩
    · exact nomatch hz
  refine lv_astore (i := 4) (lv' := [(4, .ref q9), (0, .ref (G.1 + 0)), (1, .int pv), (2, .int wv), (3, .ref (G.1 + 186))]) hx hb d17 hl (by decide) rfl (fun ls hl => ?_)
  refine lv_iconst (v := nI 2) hx hb d19 (by decide) ?_
  exact W.iret hx hb hr (fun t ht _ => ⟨rfl, by rw [ht]; exact hat1, hS1.F ht⟩) hS1.2.2 d20
section LWF
variable {p : Program} {l : Launch} {e : Env} {s : State} {m : MethodId} {below : List Frame} {meth : Method} {c : Code} {b L : Nat} {xs : Nat → Int32} {G : sr_G} {H : Heap} {locs : List Loc} {cells slots : Nat} {Q : State → Prop} {ls : Array Slot} {h h2 : sr_H} {pv wv kR : Int32}
set_option maxHeartbeats 1000000 in
theorem lf_call (E : lw_E p s m meth c b L xs G) (hX : lf_X G s) (hls : ls.size = 7) (h1 : h.1.1 = 187) (hM : Met l yF lf_ws (sr_rm 40 1 6) (cf_P G [.ref 0, .int pv, .int wv, .ref 186] h) (sr_Q G (some (.int kR)) h2) 1 6 (sr_A G)) (hat : sr_at G h H) (hS : va_S (sr_A G) s.heap H locs) (hc : cells + 1 ≤ 601024) (hs : slots + 6 ≤ 7293034)
    (kk : ∀ (H1 : Heap) (locs1 : List Loc), sr_at G h2 H1 → va_S (sr_A G) s.heap H1 locs1 → W p l e room_1 s m #[Value.ref b] below meth c H1 locs1 (cells + 1) (slots + 6) Q (F0 m 377 ls [.int kR])) : W p l e room_1 s m #[Value.ref b] below meth c H locs cells slots Q (F0 m 374 ls [.ref (G.1 + 186), .int wv, .int pv, .ref (G.1 + 0)]) := by
  obtain ⟨⟨hx, hb, hr, hml, hown, hts, hX0, hbl, hlocks, hgv⟩, hL, hkn, hG⟩ := E
  have hts' : ∀ w ∈ sr_tb, w.before #[Value.ref b] s = true := fun w hw => hts w (List.mem_filter.mp hw).1
  have hgd : GoodIn sr_tb (va_wsS R_law 39 yF lf_ws) := by
    intro w hw
    have hin : w ∈ sr_tb := by
      unfold va_wsS lf_ws at hw
      rcases List.mem_append.mp hw with hw | hw
      · simp only [List.mem_cons, List.not_mem_nil, or_false] at hw
        rcases hw with rfl | rfl | rfl
        · exact sr_wd_in (j := 1415) (by decide +kernel)
        · exact sr_wd_in (j := 1416) (by decide +kernel)
        · exact sr_wd_in (j := 116) (by decide +kernel)
      · rcases List.mem_cons.mp hw with rfl | hw
        · exact sr_wd_in (j := 1417) (by decide +kernel)
        · exact hw
    exact ⟨hin, sr_good hin⟩
  have hrun := vx_runSW (p := p) (e := e) (below := below) (meth := meth) (locs := locs) (cells := cells) (slots := slots) (Ts := sr_tb) (own := R_law) (index := 39) (As := [.ref (G.1 + 0), .int pv, .int wv, .ref (G.1 + 186)]) (rest := []) (g := F0 m 374 ls [.ref (G.1 + 186), .int wv, .int pv, .ref (G.1 + 0)]) (R := room_1) (H := H) ⟨hx, hb, hml, hown, hts'⟩ hM (vx_cwSW (hh := lf_hh) 4 hts' hgd rfl rfl rfl (by decide +kernel) ⟨Nat.le_of_ble_eq_true rfl, Nat.le_of_ble_eq_true rfl⟩) ⟨cf_P_blind G _ _, fun U hU hW => ⟨by rw [lf_args hat h1], by rw [hU]; exact hat, hkn.go hS hU hW, hX.go hS hU hW⟩⟩ rfl rfl hls rfl (lv_room (Nat.zero_le _)) (dk_ok (by decide +kernel : dk 374 (.invokestatic 39) 3 = true)) ⟨hc, hs⟩
  exact sr_call hrun (fun _ h => h) hS (fun H1 locs1 hat1 hS1 => kk H1 locs1 hat1 hS1)
end LWF
