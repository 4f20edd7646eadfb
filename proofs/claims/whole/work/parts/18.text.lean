/-! charAt and length of the class files' texts: walked. -/
def jq (r : Option Value) : Array Value → State → Outcome → State → Prop := fun _ st o t => o = .returned r ∧ t.heap = st.heap
theorem inb_no {i : Int32} {n : Nat} (h1 : ¬ i < 0) (h2 : i.toNatClampNeg < n) (q : i < 0 ∨ n ≤ i.toNatClampNeg) : False := by
  rcases q with q | q
  · exact h1 q
  · omega
section SRJ
variable {p : Program} {l : Launch} {e : Env} {R : Room} {s : State} {m : MethodId} {args : Array Value} {below : List Frame} {meth : Method} {c : Code} {H : Heap} {locs : List Loc} {cells slots : Nat} {Q : State → Prop} {pc : Nat} {ls : Array Slot} {st0 rest : List Value}
theorem jq_call {r : Option Value} {a : Array Value} (hr : va_Run p l e R s m args below meth c H locs cells slots 0 0 (F0 m pc ls st0) rest (jq r a) (fun _ => False)) (k : W p l e R s m args below meth c H locs cells slots Q (F0 m (pc + 3) ls (r.toList ++ rest))) : W p l e R s m args below meth c H locs cells slots Q (F0 m pc ls st0) := by
  intro T hT0 X
  obtain ⟨v1, st₀, t, T', L1, h0, X', hL, e1, e2, ⟨hv, hhp⟩, st⟩ := hr T hT0 X
  cases hv
  have hL1 : L1 = [] := by
    cases L1 with
    | nil => rfl
    | cons a _ => exact (hL a List.mem_cons_self).elim
  subst hL1
  rw [List.append_nil] at X'
  obtain ⟨t2, a1, b1⟩ := k T' (by rw [e1, hhp, h0]) X'
  exact ⟨t2, st t2 a1, b1⟩
end SRJ
theorem jw_good {y : MethodName} {b : ByteArray} {n : Nat} {r : Option FieldType} (h : Cond.code y b n r ∈ sr_tb) : GoodIn sr_tb (.code y b n r :: sr_tb) := fun w hw => by
  have h1 : w ∈ sr_tb := by
    rcases List.mem_cons.mp hw with rfl | hw
    · exact h
    · exact hw
  exact ⟨h1, sr_good h1⟩
set_option maxHeartbeats 4000000 in
theorem jm_pcheck (l : Launch) (i n : Int32) (fv : Value) (hf : fv.category = 1) (h1 : ¬ i < 0) (h2 : i < n) : Met l jy_pcheck (.code jy_pcheck jb_pcheck 3 (some .int) :: sr_tb) (sr_rm 1 0 0) (fun v _ => v = #[.int i, .int n, fv]) (jq (some (.int i))) 0 0 (fun _ => False) := by
  refine Met.ofW (cc := jb_pcheck) (maxL := 3) (ret := some .int) (by decide) rfl ?_
  intro p e s m args below meth c s₁ B hml hv
  subst hv
  have hx := B.exec
  have hb := B.bytes
  have hr := B.returns
  have hlocks := B.notSynchronized
  have hl : lv_has ((lg_sl [.int i, .int n, fv] ++ List.replicate (3 - (lg_sl [.int i, .int n, fv]).length) Slot.unset).toArray) 3 (lv_args 0 [.int i, .int n, fv]) := lv_entry [.int i, .int n, fv] (n := 3) (by
    have e1 : lg_sl [.int i, .int n, fv] = [.val (.int i), .val (.int n), .val fv] := by
      cases fv <;> first | rfl | cases hf
    rw [e1]
    exact Nat.le_refl 3)
  show W p l e (sr_rm 1 0 0) s m _ below meth c s.heap [] 0 0 _ (entryFrame m ([.int i, .int n, fv] : List Value).toArray 3)
  rw [lg_entry_eq]
  generalize (lg_sl [.int i, .int n, fv] ++ List.replicate (3 - (lg_sl [.int i, .int n, fv]).length) Slot.unset).toArray = ls at hl ⊢
  refine lv_iload_n hx hb jd_pcheck_0 rfl (lv_at hl 0 rfl) ?_
  refine lv_if_lt (tgt := 9) hx hb jd_pcheck_1 (by decide) (fun h => absurd h h1) (fun _ => ?_)
  refine lv_iload_n hx hb jd_pcheck_4 rfl (lv_at hl 0 rfl) ?_
  refine lv_iload_n hx hb jd_pcheck_5 rfl (lv_at hl 1 rfl) ?_
  refine lv_icmp_lt (tgt := 16) hx hb jd_pcheck_6 (by decide) (fun _ => ?_) (fun h => absurd h2 h)
  refine lv_iload_n hx hb jd_pcheck_16 rfl (lv_at hl 0 rfl) ?_
  exact W.iret hx hb hr (fun t ht _ => ⟨rfl, ht⟩) (fun q h => by cases h) jd_pcheck_17
set_option maxHeartbeats 4000000 in
theorem jm_check (l : Launch) (G : sr_G) (i n : Int32) (h1 : ¬ i < 0) (h2 : i < n) : Met l jy_checkIndex (.code jy_checkIndex jb_checkIndex 2 none :: sr_tb) (sr_rm 2 0 0) (fun v U => v = #[.int i, .int n] ∧ sr_kn G U) (jq none) 0 0 (fun _ => False) := by
  refine Met.ofW (cc := jb_checkIndex) (maxL := 2) (ret := none) (by decide) rfl ?_
  intro p e s m args below meth c s₁ B hml hv
  obtain ⟨rfl, hkn⟩ := hv
  have hx := B.exec
  have hb := B.bytes
  have hr := B.returns
  have hlocks := B.notSynchronized
  have hts0 := atoms_spec (ws := .code jy_checkIndex jb_checkIndex 2 none :: sr_tb) B.pre
  have hts : ∀ w ∈ sr_tb, w.before _ s = true := fun w hw => hts0 w (List.mem_cons_of_mem _ hw)
  have hown : s.vm.findClass "java/lang/String" = some m.cls := findClass_of_methodNamed B.named
  have hl := lv_entry [.int i, .int n] (n := 2) (Nat.le_of_ble_eq_true rfl)
  show W p l e (sr_rm 2 0 0) s m _ below meth c s.heap [] 0 0 _ (entryFrame m ([.int i, .int n] : List Value).toArray 2)
  rw [lg_entry_eq]
  generalize (lg_sl [.int i, .int n] ++ List.replicate (2 - (lg_sl [.int i, .int n]).length) Slot.unset).toArray = ls at hl ⊢
  refine lv_iload_n hx hb jd_checkIndex_0 rfl (lv_at hl 0 rfl) ?_
  refine lv_iload_n hx hb jd_checkIndex_1 rfl (lv_at hl 1 rfl) ?_
  have go : ∀ fv : Value, fv.category = 1 → va_Z "jdk/internal/util/Preconditions" "SIOOBE_FORMATTER" "Ljava/util/function/BiFunction;" fv (sr_A G) s s.heap → W p l e (sr_rm 2 0 0) s m #[.int i, .int n] below meth c s.heap [] 0 0 (MQ below (jq none) #[.int i, .int n] s 0 0 (fun _ => False)) (F0 m 2 ls [.int n, .int i]) := by
    intro fv hf hZ
    refine va_gets hx hb hZ va_S.rf hown (hts _ jw_f_fmt) (fun _ h9 => h9) jd_checkIndex_2 ?_
    refine jq_call (va_runS (Ts := sr_tb) (As := [.int i, .int n, fv]) (rest := []) ⟨hx, hb, hml, hown, hts⟩ (jm_pcheck l i n fv hf h1 h2) ⟨callB_of 3 hts (jw_good jw_c_pcheck) rfl rfl rfl (hts _ jw_n_P) (hts _ jw_l_pcheck) (by decide +kernel) ⟨Nat.le_of_ble_eq_true rfl, Nat.le_of_ble_eq_true rfl⟩, hts _ jw_s_pcheck⟩ ⟨fun _ _ _ _ q => q, fun U hU hW => rfl⟩ rfl rfl hl.1 rfl (lv_room (Nat.le_of_ble_eq_true rfl)) jd_checkIndex_5 ⟨Nat.le_refl _, Nat.le_refl _⟩) ?_
    refine lv_pop hx hb jd_checkIndex_8 rfl ?_
    exact W.vret hx hb hr (fun t ht _ => ⟨rfl, ht⟩) (fun q h => by cases h) jd_checkIndex_9
  rcases hkn.2.2.2.2.2.1 with hZ | ⟨t, hZ⟩
  · exact go .null rfl hZ
  · exact go (.ref t) rfl hZ
set_option maxHeartbeats 4000000 in
theorem jm_lchar (l : Launch) (G : sr_G) (V N : Nat) (f : Nat → Int32) (i : Int32) (hN : N < 2 ^ 31) (h1 : ¬ i < 0) (h2 : i.toNatClampNeg < N) {v : Int32} (hv : ((f i.toNatClampNeg &&& 255).toUInt32 % 65536).toInt32 = v) (hc : narrow .char (.int v) = .int v) : Met l jy_lcharAt (.code jy_lcharAt jb_lcharAt 2 (some .char) :: sr_tb) (sr_rm 4 0 0) (fun w U => w = #[.ref V, .int i] ∧ va_T .byte V N (fun j => .int (f j)) (sr_A G) U U.heap ∧ sr_kn G U) (jq (some (.int v))) 0 0 (fun _ => False) := by
  refine Met.ofW (cc := jb_lcharAt) (maxL := 2) (ret := some .char) (by decide) rfl ?_
  intro p e s m args below meth c s₁ B hml hv
  obtain ⟨rfl, hVT, hkn⟩ := hv
  have hx := B.exec
  have hb := B.bytes
  have hr := B.returns
  have hlocks := B.notSynchronized
  have hts0 := atoms_spec (ws := .code jy_lcharAt jb_lcharAt 2 (some .char) :: sr_tb) B.pre
  have hts : ∀ w ∈ sr_tb, w.before _ s = true := fun w hw => hts0 w (List.mem_cons_of_mem _ hw)
  have hown : s.vm.findClass "java/lang/StringLatin1" = some m.cls := findClass_of_methodNamed B.named
  have hl := lv_entry [.ref V, .int i] (n := 2) (Nat.le_of_ble_eq_true rfl)
  show W p l e (sr_rm 4 0 0) s m _ below meth c s.heap [] 0 0 _ (entryFrame m ([.ref V, .int i] : List Value).toArray 2)
  rw [lg_entry_eq]
  generalize (lg_sl [.ref V, .int i] ++ List.replicate (2 - (lg_sl [.ref V, .int i]).length) Slot.unset).toArray = ls at hl ⊢
  have hilt : i < Int32.ofNat N := by
    obtain ⟨j, hj, rfl⟩ := nI_of h1
    rw [nI_clamp hj] at h2
    exact nI_lt h2 hN
  refine lv_iload_n hx hb jd_lcharAt_0 rfl (lv_at hl 1 rfl) ?_
  refine lv_aload_n hx hb jd_lcharAt_1 rfl (lv_at hl 0 rfl) ?_
  refine va_tlen hx hb hVT va_S.rf rfl jd_lcharAt_2 ?_
  refine jq_call (va_runS (Ts := sr_tb) (As := [.int i, .int (Int32.ofNat N)]) (rest := []) ⟨hx, hb, hml, hown, hts⟩ (jm_check l G i (Int32.ofNat N) h1 hilt) ⟨callB_of 2 hts (jw_good jw_c_checkIndex) rfl rfl rfl (hts _ jw_n_S) (hts _ jw_l_checkIndex) (by decide +kernel) ⟨Nat.le_of_ble_eq_true rfl, Nat.le_of_ble_eq_true rfl⟩, hts _ jw_s_checkIndex⟩ ⟨fun _ _ _ _ q => ⟨q.1, q.2.calling⟩, fun U hU hW => ⟨rfl, hkn.go va_S.rf hU hW⟩⟩ rfl rfl hl.1 rfl (lv_room (Nat.le_of_ble_eq_true rfl)) jd_lcharAt_3 ⟨Nat.le_refl _, Nat.le_refl _⟩) ?_
  refine lv_aload_n hx hb jd_lcharAt_6 rfl (lv_at hl 0 rfl) ?_
  refine lv_iload_n hx hb jd_lcharAt_7 rfl (lv_at hl 1 rfl) ?_
  refine va_tb hx hb hVT va_S.rf (fun q => inb_no h1 h2 q) rfl jd_lcharAt_8 ?_
  refine lv_sipush (v := 255) hx hb jd_lcharAt_9 (by decide) ?_
  refine lv_iand hx hb jd_lcharAt_12 ?_
  refine lv_i2c hx hb jd_lcharAt_13 hv ?_
  exact W.zret hx hb hr hc (fun t ht _ => ⟨rfl, ht⟩) (fun q h => by cases h) jd_lcharAt_14
set_option maxHeartbeats 4000000 in
theorem jm_isLatin1 (l : Launch) (G : sr_G) (j : Nat) (hj : j < 4) : Met l jy_isLatin1 (.code jy_isLatin1 jb_isLatin1 1 (some .boolean) :: sr_tb) (sr_rm 1 0 0) (fun w U => w = #[.ref (G.2.1 (1000000 + j))] ∧ sr_kn G U) (jq (some (.int 1))) 0 0 (fun _ => False) := by
  refine Met.ofW (cc := jb_isLatin1) (maxL := 1) (ret := (some .boolean)) (by decide) rfl ?_
  intro p e s m args below meth c s₁ B hml hv
  obtain ⟨rfl, hkn⟩ := hv
  have hx := B.exec
  have hb := B.bytes
  have hr := B.returns
  have hlocks := B.notSynchronized
  have hts0 := atoms_spec (ws := .code jy_isLatin1 jb_isLatin1 1 (some .boolean) :: sr_tb) B.pre
  have hts : ∀ w ∈ sr_tb, w.before _ s = true := fun w hw => hts0 w (List.mem_cons_of_mem _ hw)
  have hown : s.vm.findClass "java/lang/String" = some m.cls := findClass_of_methodNamed B.named
  have hl := lv_entry [.ref (G.2.1 (1000000 + j))] (n := 1) (Nat.le_of_ble_eq_true rfl)
  show W p l e (sr_rm 1 0 0) s m _ below meth c s.heap [] 0 0 _ (entryFrame m ([.ref (G.2.1 (1000000 + j))] : List Value).toArray 1)
  rw [lg_entry_eq]
  generalize (lg_sl [.ref (G.2.1 (1000000 + j))] ++ List.replicate (1 - (lg_sl [.ref (G.2.1 (1000000 + j))]).length) Slot.unset).toArray = ls at hl ⊢
  obtain ⟨adV, hvk⟩ := hkn.2.2.1
  refine va_gets hx hb hkn.2.2.2.2.1 va_S.rf hown (hts _ jw_f_compact) (fun _ h9 => h9) jd_isLatin1_0 ?_
  refine lv_if_eq (tgt := 17) hx hb jd_isLatin1_3 (by decide) (fun h => absurd h (by decide)) (fun _ => ?_)
  refine lv_aload_n hx hb jd_isLatin1_6 rfl (lv_at hl 0 rfl) ?_
  refine vk_getf hx hb (hvk.1 j hj).2.1 va_S.rf hown (hts _ jw_f_coderf) (fun _ h9 => h9) jd_isLatin1_7 ?_
  refine lv_if_ne (tgt := 17) hx hb jd_isLatin1_10 (by decide) (fun h => absurd rfl h) (fun _ => ?_)
  refine lv_iconst (v := 1) hx hb jd_isLatin1_13 (by decide) ?_
  refine lv_goto (tgt := 18) hx hb jd_isLatin1_14 (by decide) ?_
  exact W.zret hx hb hr (by decide) (fun t ht _ => ⟨rfl, ht⟩) (fun q h => by cases h) jd_isLatin1_18
set_option maxHeartbeats 4000000 in
theorem jm_coder (l : Launch) (G : sr_G) (j : Nat) (hj : j < 4) : Met l jy_coder (.code jy_coder jb_coder 1 (some .byte) :: sr_tb) (sr_rm 1 0 0) (fun w U => w = #[.ref (G.2.1 (1000000 + j))] ∧ sr_kn G U) (jq (some (.int 0))) 0 0 (fun _ => False) := by
  refine Met.ofW (cc := jb_coder) (maxL := 1) (ret := (some .byte)) (by decide) rfl ?_
  intro p e s m args below meth c s₁ B hml hv
  obtain ⟨rfl, hkn⟩ := hv
  have hx := B.exec
  have hb := B.bytes
  have hr := B.returns
  have hlocks := B.notSynchronized
  have hts0 := atoms_spec (ws := .code jy_coder jb_coder 1 (some .byte) :: sr_tb) B.pre
  have hts : ∀ w ∈ sr_tb, w.before _ s = true := fun w hw => hts0 w (List.mem_cons_of_mem _ hw)
  have hown : s.vm.findClass "java/lang/String" = some m.cls := findClass_of_methodNamed B.named
  have hl := lv_entry [.ref (G.2.1 (1000000 + j))] (n := 1) (Nat.le_of_ble_eq_true rfl)
  show W p l e (sr_rm 1 0 0) s m _ below meth c s.heap [] 0 0 _ (entryFrame m ([.ref (G.2.1 (1000000 + j))] : List Value).toArray 1)
  rw [lg_entry_eq]
  generalize (lg_sl [.ref (G.2.1 (1000000 + j))] ++ List.replicate (1 - (lg_sl [.ref (G.2.1 (1000000 + j))]).length) Slot.unset).toArray = ls at hl ⊢
  obtain ⟨adV, hvk⟩ := hkn.2.2.1
  refine va_gets hx hb hkn.2.2.2.2.1 va_S.rf hown (hts _ jw_f_compact) (fun _ h9 => h9) jd_coder_0 ?_
  refine lv_if_eq (tgt := 13) hx hb jd_coder_3 (by decide) (fun h => absurd h (by decide)) (fun _ => ?_)
  refine lv_aload_n hx hb jd_coder_6 rfl (lv_at hl 0 rfl) ?_
  refine vk_getf hx hb (hvk.1 j hj).2.1 va_S.rf hown (hts _ jw_f_coderf) (fun _ h9 => h9) jd_coder_7 ?_
  refine lv_goto (tgt := 14) hx hb jd_coder_10 (by decide) ?_
  exact W.zret hx hb hr (by decide) (fun t ht _ => ⟨rfl, ht⟩) (fun q h => by cases h) jd_coder_14
/-- the texts' bytes are what their chars are -/
theorem jt_ok : ∀ j, j < 4 → sr_ln8.getD j 0 = (sr_tx j).length ∧ (sr_tx j).length < 2 ^ 31 ∧ (sr_tx j).all (fun b => decide (b < 128)) = true ∧ sr_by8.getD j [] = (sr_tx j).map nI := by
  intro j hj
  rcases (show j = 0 ∨ j = 1 ∨ j = 2 ∨ j = 3 by omega) with rfl | rfl | rfl | rfl
  · exact ⟨rfl, by decide +kernel, by decide +kernel, rfl⟩
  · exact ⟨rfl, by decide +kernel, by decide +kernel, rfl⟩
  · exact ⟨rfl, by decide +kernel, by decide +kernel, rfl⟩
  · exact ⟨rfl, by decide +kernel, by decide +kernel, rfl⟩
theorem jt_ch : ∀ b, b < 128 → ((nI b &&& 255).toUInt32 % 65536).toInt32 = nI b ∧ narrow .char (.int (nI b)) = .int (nI b) := by decide +kernel
set_option maxHeartbeats 4000000 in
theorem jm_charAt (l : Launch) (G : sr_G) (j : Nat) (hj : j < 4) (i : Int32) (h1 : ¬ i < 0) (h2 : i.toNatClampNeg < (sr_tx j).length) : Met l jy_charAt (.code jy_charAt jb_charAt 2 (some .char) :: sr_tb) (sr_rm 7 0 0) (fun w U => w = #[.ref (G.2.1 (1000000 + j)), .int i] ∧ sr_kn G U) (jq (some (.int (nI ((sr_tx j).getD i.toNatClampNeg 0))))) 0 0 (fun _ => False) := by
  refine Met.ofW (cc := jb_charAt) (maxL := 2) (ret := (some .char)) (by decide) rfl ?_
  intro p e s m args below meth c s₁ B hml hv
  obtain ⟨rfl, hkn⟩ := hv
  have hx := B.exec
  have hb := B.bytes
  have hr := B.returns
  have hlocks := B.notSynchronized
  have hts0 := atoms_spec (ws := .code jy_charAt jb_charAt 2 (some .char) :: sr_tb) B.pre
  have hts : ∀ w ∈ sr_tb, w.before _ s = true := fun w hw => hts0 w (List.mem_cons_of_mem _ hw)
  have hown : s.vm.findClass "java/lang/String" = some m.cls := findClass_of_methodNamed B.named
  have hl := lv_entry [.ref (G.2.1 (1000000 + j)), .int i] (n := 2) (Nat.le_of_ble_eq_true rfl)
  show W p l e (sr_rm 7 0 0) s m _ below meth c s.heap [] 0 0 _ (entryFrame m ([.ref (G.2.1 (1000000 + j)), .int i] : List Value).toArray 2)
  rw [lg_entry_eq]
  generalize (lg_sl [.ref (G.2.1 (1000000 + j)), .int i] ++ List.replicate (2 - (lg_sl [.ref (G.2.1 (1000000 + j)), .int i]).length) Slot.unset).toArray = ls at hl ⊢
  obtain ⟨adV, hvk⟩ := hkn.2.2.1
  obtain ⟨t1, t2, t3, t4⟩ := jt_ok j hj
  have hb8 : (sr_by8.getD j []).getD i.toNatClampNeg 0 = nI ((sr_tx j).getD i.toNatClampNeg 0) := by
    rw [t4, List.getD_eq_getElem?_getD, List.getElem?_map, List.getElem?_eq_getElem h2, List.getD_eq_getElem?_getD, List.getElem?_eq_getElem h2]
    rfl
  have hlt : (sr_tx j).getD i.toNatClampNeg 0 < 128 := by
    rw [List.getD_eq_getElem?_getD, List.getElem?_eq_getElem h2]
    have := List.all_eq_true.mp t3 _ (List.getElem_mem h2)
    simpa using this
  have hVT := (hvk.1 j hj).2.2.2
  rw [t1] at hVT
  refine lv_aload_n hx hb jd_charAt_0 rfl (lv_at hl 0 rfl) ?_
  refine jq_call (va_runV (Ts := sr_tb) (C := "java/lang/String") (As := []) (rest := []) ⟨hx, hb, hml, hown, hts⟩ (jm_isLatin1 l G j hj) ⟨callB_of 0 hts (jw_good jw_c_isLatin1) rfl rfl rfl (hts _ jw_n_S) (hts _ jw_l_isLatin1) (by decide +kernel) ⟨Nat.le_of_ble_eq_true rfl, Nat.le_of_ble_eq_true rfl⟩, hts _ jw_i_isLatin1, hts _ jw_v_isLatin1⟩ ⟨fun _ _ _ _ q => ⟨q.1, q.2.calling⟩, vk_recv (i := j) (adK := fun j => G.2.1 (1000000 + j)) hvk hj va_S.rf, fun U hU hW => ⟨rfl, hkn.go va_S.rf hU hW⟩⟩ rfl rfl hl.1 rfl (lv_room (Nat.le_of_ble_eq_true rfl)) jd_charAt_1 ⟨Nat.le_refl _, Nat.le_refl _⟩) ?_
  refine lv_if_eq (tgt := 16) hx hb jd_charAt_4 (by decide) (fun h => absurd h (by decide)) (fun _ => ?_)
  refine lv_aload_n hx hb jd_charAt_7 rfl (lv_at hl 0 rfl) ?_
  refine vk_getf hx hb (hvk.1 j hj).2.2.1 va_S.rf hown (hts _ jw_f_value) (fun _ h9 => h9) jd_charAt_8 ?_
  refine lv_iload_n hx hb jd_charAt_11 rfl (lv_at hl 1 rfl) ?_
  refine jq_call (va_runS (Ts := sr_tb) (As := [.ref (adV j), .int i]) (rest := []) ⟨hx, hb, hml, hown, hts⟩ (jm_lchar l G (adV j) (sr_tx j).length (fun k => (sr_by8.getD j []).getD k 0) i t2 h1 h2 (v := nI ((sr_tx j).getD i.toNatClampNeg 0)) (by rw [hb8]; exact (jt_ch _ hlt).1) (jt_ch _ hlt).2) ⟨callB_of 2 hts (jw_good jw_c_lcharAt) rfl rfl rfl (hts _ jw_n_S1) (hts _ jw_l_lcharAt) (by decide +kernel) ⟨Nat.le_of_ble_eq_true rfl, Nat.le_of_ble_eq_true rfl⟩, hts _ jw_s_lcharAt⟩ ⟨fun _ _ _ _ q => ⟨q.1, va_T.moved (Vm.Alike.refl _) q.2.1, q.2.2.calling⟩, fun U hU hW => ⟨rfl, by rw [hU]; exact va_T.moved hW.alike hVT, hkn.go va_S.rf hU hW⟩⟩ rfl rfl hl.1 rfl (lv_room (Nat.le_of_ble_eq_true rfl)) jd_charAt_12 ⟨Nat.le_refl _, Nat.le_refl _⟩) ?_
  exact W.zret hx hb hr (jt_ch _ hlt).2 (fun t ht _ => ⟨rfl, ht⟩) (fun q h => by cases h) jd_charAt_15
set_option maxHeartbeats 4000000 in
theorem jm_length (l : Launch) (G : sr_G) (j : Nat) (hj : j < 4) : Met l jy_length (.code jy_length jb_length 1 (some .int) :: sr_tb) (sr_rm 7 0 0) (fun w U => w = #[.ref (G.2.1 (1000000 + j))] ∧ sr_kn G U) (jq (some (.int (nI (sr_tx j).length)))) 0 0 (fun _ => False) := by
  refine Met.ofW (cc := jb_length) (maxL := 1) (ret := (some .int)) (by decide) rfl ?_
  intro p e s m args below meth c s₁ B hml hv
  obtain ⟨rfl, hkn⟩ := hv
  have hx := B.exec
  have hb := B.bytes
  have hr := B.returns
  have hlocks := B.notSynchronized
  have hts0 := atoms_spec (ws := .code jy_length jb_length 1 (some .int) :: sr_tb) B.pre
  have hts : ∀ w ∈ sr_tb, w.before _ s = true := fun w hw => hts0 w (List.mem_cons_of_mem _ hw)
  have hown : s.vm.findClass "java/lang/String" = some m.cls := findClass_of_methodNamed B.named
  have hl := lv_entry [.ref (G.2.1 (1000000 + j))] (n := 1) (Nat.le_of_ble_eq_true rfl)
  show W p l e (sr_rm 7 0 0) s m _ below meth c s.heap [] 0 0 _ (entryFrame m ([.ref (G.2.1 (1000000 + j))] : List Value).toArray 1)
  rw [lg_entry_eq]
  generalize (lg_sl [.ref (G.2.1 (1000000 + j))] ++ List.replicate (1 - (lg_sl [.ref (G.2.1 (1000000 + j))]).length) Slot.unset).toArray = ls at hl ⊢
  obtain ⟨adV, hvk⟩ := hkn.2.2.1
  obtain ⟨t1, t2, t3, t4⟩ := jt_ok j hj
  have hVT := (hvk.1 j hj).2.2.2
  rw [t1] at hVT
  refine lv_aload_n hx hb jd_length_0 rfl (lv_at hl 0 rfl) ?_
  refine vk_getf hx hb (hvk.1 j hj).2.2.1 va_S.rf hown (hts _ jw_f_value) (fun _ h9 => h9) jd_length_1 ?_
  refine va_tlen hx hb hVT va_S.rf rfl jd_length_4 ?_
  refine lv_aload_n hx hb jd_length_5 rfl (lv_at hl 0 rfl) ?_
  refine jq_call (va_runV (Ts := sr_tb) (C := "java/lang/String") (As := []) (rest := [.int (Int32.ofNat (sr_tx j).length)]) ⟨hx, hb, hml, hown, hts⟩ (jm_coder l G j hj) ⟨callB_of 0 hts (jw_good jw_c_coder) rfl rfl rfl (hts _ jw_n_S) (hts _ jw_l_coder) (by decide +kernel) ⟨Nat.le_of_ble_eq_true rfl, Nat.le_of_ble_eq_true rfl⟩, hts _ jw_i_coder, hts _ jw_v_coder⟩ ⟨fun _ _ _ _ q => ⟨q.1, q.2.calling⟩, vk_recv (i := j) (adK := fun j => G.2.1 (1000000 + j)) hvk hj va_S.rf, fun U hU hW => ⟨rfl, hkn.go va_S.rf hU hW⟩⟩ rfl rfl hl.1 rfl (lv_room (Nat.le_of_ble_eq_true rfl)) jd_length_6 ⟨Nat.le_refl _, Nat.le_refl _⟩) ?_
  refine lv_ishr hx hb jd_length_9 ?_
  rw [sb_shr0]
  exact W.iret hx hb hr (fun t ht _ => ⟨rfl, ht⟩) (fun q h => by cases h) jd_length_10
theorem sr_M7_ok (l : Launch) (G : sr_G) : sr_M7 l G := fun j i hj h1 h2 => jm_charAt l G j hj i h1 h2
theorem sr_M8_ok (l : Launch) (G : sr_G) : sr_M8 l G := fun j hj => jm_length l G j hj
/-- THE KEY: what the small machine answers of a method is its contract on the real one -/
theorem sr_met {l : Launch} {G : sr_G} {n d mid : Nat} {as : List Value} {h h' : sr_H} {r : Option Value} (hm : mid < 298) (ha : (sr_ar as).length ≤ sr_ml mid) (e : sr_cf n (d + 1) mid as h = some (r, h')) : Met l (sr_y mid) (sr_ws mid) (sr_rm d (h'.1.1 - h.1.1) (h'.1.2 - h.1.2)) (sr_P G as h) (sr_Q G r h') (h'.1.1 - h.1.1) (h'.1.2 - h.1.2) (sr_A G) := sr_snd sr_TF_ok (sr_M7_ok l G) (sr_M8_ok l G) n d mid as h r h' hm ha e
