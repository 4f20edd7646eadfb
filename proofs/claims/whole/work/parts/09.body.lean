/-! One body: block by block. -/
def sr_M7 (l : Launch) (G : sr_G) : Prop := ∀ (j : Nat) (i : Int32), j < 4 → ¬ i < 0 → i.toNatClampNeg < (sr_tx j).length → Met l (sr_bn 7) (.code (sr_bn 7) prog_23_method_56_code 2 (some .char) :: sr_tb) (sr_rm 7 0 0) (fun v U => v = #[.ref (G.2.1 (1000000 + j)), .int i] ∧ sr_kn G U) (fun _ st o t => o = .returned (some (.int (nI ((sr_tx j).getD i.toNatClampNeg 0)))) ∧ t.heap = st.heap) 0 0 (fun _ => False)
def sr_M8 (l : Launch) (G : sr_G) : Prop := ∀ (j : Nat), j < 4 → Met l (sr_bn 8) (.code (sr_bn 8) prog_23_method_54_code 1 (some .int) :: sr_tb) (sr_rm 7 0 0) (fun v U => v = #[.ref (G.2.1 (1000000 + j))] ∧ sr_kn G U) (fun _ st o t => o = .returned (some (.int (nI (sr_tx j).length))) ∧ t.heap = st.heap) 0 0 (fun _ => False)
theorem sr_lb_inv {mid t : Nat} {pc : Int} (h : sr_lb mid t pc = true) : t / 1000 = mid ∧ pc = (sr_pc t : Int) := by
  simp only [sr_lb, decide_eq_true_eq] at h
  exact ⟨h.1, h.2.symm⟩
theorem sr_lbs_inv {mid : Nat} {pc : Int} : ∀ (ts : List Nat) (os : List Int), sr_lbs mid pc ts os = true → ts.length = os.length ∧ ∀ (j : Nat) (t : Nat), ts[j]? = some t → ∃ o, os[j]? = some o ∧ sr_lb mid t (pc + o) = true
  | [], [], _ => ⟨rfl, fun j t h => by cases h⟩
  | [], _ :: _, h => by cases h
  | _ :: _, [], h => by cases h
  | a :: ts, o :: os, h => by
    simp only [sr_lbs, Bool.and_eq_true] at h
    obtain ⟨h1, h2⟩ := sr_lbs_inv ts os h.2
    refine ⟨by simp [h1], fun j t hj => ?_⟩
    cases j with
    | zero => cases hj; exact ⟨o, rfl, h.1⟩
    | succ j => exact h2 j t hj
theorem sr_any_inv {α : Type} {l : List α} {f : α → Bool} (h : l.any f = true) : ∃ e, e ∈ l ∧ f e = true := List.any_eq_true.mp h
/-- the switch by keys, as the machine reads it -/
theorem sr_lsw_eq : ∀ (ps ps' : List (Int × Int)) (ts : List Nat) (d : Nat) (dd : Int) (v : Int) (mid : Nat) (pc : Int), sr_keys ps ps' = true → sr_lbs mid pc ts (ps'.map (fun q => q.2)) = true → sr_lb mid d (pc + dd) = true →
    sr_lb mid (sr_lsw ps ts d v) (pc + Op.lookupswitch.offset ps' dd v) = true
  | [], [], ts, d, dd, v, mid, pc, _, _, h => by
    cases ts <;> exact h
  | [], _ :: _, _, _, _, _, _, _, h, _, _ => by cases h
  | _ :: _, [], _, _, _, _, _, _, h, _, _ => by cases h
  | (a, _) :: ps, (b, o) :: ps', [], d, dd, v, mid, pc, _, h, _ => by cases h
  | (a, _) :: ps, (b, o) :: ps', t :: ts, d, dd, v, mid, pc, hk, hl, h => by
    simp only [sr_keys, Bool.and_eq_true, decide_eq_true_eq] at hk
    simp only [List.map_cons, sr_lbs, Bool.and_eq_true] at hl
    obtain ⟨rfl, hk⟩ := hk
    simp only [sr_lsw, Op.lookupswitch.offset]
    by_cases hv : v = a
    · simp only [hv, if_true, beq_self_eq_true]
      exact hl.1
    · have := sr_lsw_eq ps ps' ts d dd v mid pc hk hl.2 h
      have hv' : ¬ a = v := fun e => hv e.symm
      simp only [hv, if_false]
      simpa [hv'] using this
theorem sr_addr {G : sr_G} {h : sr_H} {q : Nat} {ee : va_E} {H1 : Heap} (hD : va_D (sr_A G) (sr_w G h ++ [(q, ee)])) (hP : va_P G.2.2.1 vwCl (sr_w G h ++ [(q, ee)]) H1) (hz : H1.size ≤ G.1 + h.1.1 + 1) : q = G.1 + h.1.1 := by
  have e : (sr_w G h ++ [(q, ee)])[h.1.1]? = some (q, ee) := by
    rw [List.getElem?_append_right (by rw [sr_w_len]; exact Nat.le_refl _), sr_w_len, Nat.sub_self]
    rfl
  have h1 : G.1 ≤ q := hD.2 _ _ e
  have h2 : q < H1.size := (hP _ _ e).lt
  rcases Nat.lt_or_ge (q - G.1) h.1.1 with h3 | h3
  · have e2 : (sr_w G h ++ [(q, ee)])[q - G.1]? = some (G.1 + (q - G.1), sr_e G (h.2 (q - G.1))) := by
      rw [List.getElem?_append_left (by rw [sr_w_len]; exact h3)]
      exact sr_w_get h3
    have := hD.1 _ _ _ _ e2 e (by dsimp only; omega)
    omega
  · omega
theorem sr_sz_map {G : sr_G} (S : List Value) : ((S.map (sr_v G)).map fun v => v.category).sum = sr_sz S := by
  unfold sr_sz
  rw [List.map_map]
  congr 1
  apply List.map_congr_left
  intro v _
  cases v <;> rfl
theorem sr_ret_map {G : sr_G} (r : Option Value) (S : List Value) : (r.toList ++ S).map (sr_v G) = (r.map (sr_v G)).toList ++ S.map (sr_v G) := by
  cases r <;> simp
theorem sr_size {G : sr_G} {h h0 : sr_H} {H : Heap} {s : State} {cells : Nat} (hat : sr_at G h H) (hpk : H.size ≤ s.heap.size + cells) (h0s : h0.1.1 < sr_mx → s.heap.size = G.1 + h0.1.1) (hc : cells + h0.1.1 = h.1.1) (hm : h.1.1 < sr_mx) : H.size = G.1 + h.1.1 := by
  have h1 := sr_at_ge hat
  have h2 := h0s (by omega)
  omega
theorem sr_ad_tx {G : sr_G} {a : Nat} (h : sr_sc ≤ a) : sr_ad G a = G.2.1 (1000000 + (a - sr_sc)) := by
  obtain ⟨k, rfl⟩ := Nat.exists_eq_add_of_le h
  have e1 : ¬ sr_sc + k < sr_sb := by
    have : sr_sb ≤ sr_sc := Nat.le_of_ble_eq_true rfl
    omega
  have e2 : sr_sc + k - sr_sb = 1000000 + k := by
    show 2000000 + k - 1000000 = 1000000 + k
    omega
  rw [sr_ad, if_neg e1, e2, Nat.add_sub_cancel_left]
theorem sr_cpw {G : sr_G} {S : List Value} {d mc ms : Nat} (hz : sr_sz S ≤ 9) (hd : 8 ≤ d) : ((S.map (sr_v G)).map fun v => v.category).sum + (nativeFrameWords "java/lang/System" "arraycopy" 5 + 11) ≤ (sr_rm d mc ms).locals := by
  have h8 : nativeFrameWords "java/lang/System" "arraycopy" 5 + 11 ≤ 400 := by decide +kernel
  rw [sr_sz_map]
  show _ ≤ 60 * d
  omega
section SRB
variable {p : Program} {l : Launch} {e : Env} {s : State} {m : MethodId} {args : Array Value} {below : List Frame} {meth : Method} {c : Code} {G : sr_G} {own : Nat} {cc : ByteArray} {d mc ms nL cells slots : Nat} {K : sr_K} {C : Nat → List Value → sr_H → Option sr_R} {L S : List Value} {h h0 h' : sr_H} {r : Option Value} {ls : Array Slot} {H : Heap} {locs : List Loc} {k pc b : Nat} {Q : State → Prop}
/-- the JDK's own, virtual: charAt, length of a text -/
theorem sr_bivV (hT : sr_TF) (hx : p.tables.exec = Jvm.exec) (hb : c.code = cc) (hml : c.maxLocals = nL) (hown : s.vm.findClass (sr_cn own) = some m.cls) (hts : ∀ w ∈ sr_tb, w.before args s = true) (hkn : sr_kn G s) (M7 : sr_M7 l G) (M8 : sr_M8 l G)
    (hlk : Cond.methodLink (sr_cn own) k (sr_bn b) ∈ sr_tb) (hb7 : b = 7 ∨ b = 8) (hev : sr_iv (decide (8 ≤ d)) C [b] K L S h = some (r, h')) (hLn : L.length = nL) (hlo : sr_lo G ls L) (hS : va_S (sr_A G) s.heap H locs) (hKl : sr_leK K) (hmc : mc + h0.1.1 = h'.1.1) (hms : ms + h0.1.2 = h'.1.2) (hc1 : cells + h0.1.1 = h.1.1) (hc2 : slots + h0.1.2 = h.1.2) (hd : decode cc pc = .ok (.invokevirtual k, 3))
    (kk : ∀ S' : List Value, K L S' h = some (r, h') → W p l e (sr_rm d mc ms) s m args below meth c H locs cells slots Q (F0 m (pc + 3) ls (S'.map (sr_v G)))) :
    W p l e (sr_rm d mc ms) s m args below meth c H locs cells slots Q (F0 m pc ls (S.map (sr_v G))) := by
  simp only [sr_iv] at hev
  split at hev
  · rename_i hB
    simp only [decide_eq_true_eq] at hB
    have hgo : ∀ (j : Nat) (As rest : List Value) (y : MethodName) (bytes : ByteArray) (maxL np : Nat) (ret : Option FieldType) (v : Value), j < 4 → cells ≤ mc → slots ≤ ms → maxL ≤ 4 → sr_sz rest ≤ 8 → As.length = np → Cond.methodLink (sr_cn own) k y ∈ sr_tb → Cond.instanceMethod y ∈ sr_tb → Cond.selects "java/lang/String" y y ∈ sr_tb → Cond.code y bytes maxL ret ∈ sr_tb → y.cls = "java/lang/String" → (parseMethodDescriptor y.desc).map (fun d => d.parameters.length) = some np →
        Met l y (.code y bytes maxL ret :: sr_tb) (sr_rm 7 0 0) (fun w U => w = (Value.ref (G.2.1 (1000000 + j)) :: As).toArray ∧ sr_kn G U) (fun _ st o t => o = .returned (some v) ∧ t.heap = st.heap) 0 0 (fun _ => False) →
        S.map (sr_v G) = As.reverse ++ .ref (G.2.1 (1000000 + j)) :: rest.map (sr_v G) →
        W p l e (sr_rm d mc ms) s m args below meth c H locs cells slots Q (F0 m (pc + 3) ls (v :: rest.map (sr_v G))) →
        W p l e (sr_rm d mc ms) s m args below meth c H locs cells slots Q (F0 m pc ls (S.map (sr_v G))) := by
      intro j As rest y bytes maxL np ret v hj hcm hsm hmax hz hAs g1 g2 g3 g4 g5 g6 hM hst hk
      obtain ⟨adV, hvk⟩ := hkn.2.2.1
      have hini : Cond.initialized y.cls ∈ sr_tb := by rw [g5]; exact hT.2.2.2.2.2.2.2.2.2.1.2.2.2.1
      have hgood : GoodIn sr_tb (.code y bytes maxL ret :: sr_tb) := fun w hw => by
        have h1 : w ∈ sr_tb := by
          rcases List.mem_cons.mp hw with rfl | hw
          · exact g4
          · exact hw
        exact ⟨h1, sr_good h1⟩
      have hrun := va_runV (p := p) (e := e) (R := sr_rm d mc ms) (below := below) (meth := meth) (locs := locs) (cells := cells) (slots := slots) (Ts := sr_tb) (C := "java/lang/String") (g := F0 m pc ls (S.map (sr_v G))) (rest := rest.map (sr_v G)) (As := As) (b := G.2.1 (1000000 + j)) (H := H) ⟨hx, hb, hml, hown, hts⟩ hM ⟨callB_of np hts hgood rfl rfl rfl (hts _ hini) (hts _ g1) ⟨by rw [g5]; decide, by rw [g5]; decide, g6⟩ ⟨by show 7 + 1 ≤ d; omega, by show 8 + (maxL + 11) + 60 * 7 ≤ 60 * d; omega⟩, hts _ g2, hts _ g3⟩
        ⟨fun _ _ _ _ q => ⟨q.1, q.2.calling⟩, vk_recv (i := j) (adK := fun j => G.2.1 (1000000 + j)) hvk hj hS, fun U hU hW => ⟨rfl, hkn.go hS hU hW⟩⟩ rfl hAs (hlo.1.trans hLn) hst (lv_room (by rw [sr_sz_map]; exact hz)) hd ⟨by show cells + 0 ≤ mc; omega, by show slots + 0 ≤ ms; omega⟩
      intro T hT0 X
      obtain ⟨v1, st₀, t, T', L1, h0, X', hL, e1, e2, ⟨hv, hhp⟩, st⟩ := hrun T hT0 X
      cases hv
      have hL1 : L1 = [] := by
        cases L1 with
        | nil => rfl
        | cons a _ => exact (hL a List.mem_cons_self).elim
      subst hL1
      rw [List.append_nil] at X'
      obtain ⟨t2, a1, b1⟩ := hk T' (by rw [e1, hhp, h0]) X'
      exact ⟨t2, st t2 a1, b1⟩
    rcases hb7 with rfl | rfl
    · simp only [sr_bi] at hev
      obtain ⟨L1, S1, h1, e1, hk⟩ := sr_go_inv hev
      split at e1
      · rename_i i a S0
        split at e1
        · rename_i hc
          cases e1
          have hj : a - sr_sc < 4 := by
            rcases Nat.lt_or_ge (a - sr_sc) 4 with q | q
            · exact q
            · exfalso
              have h9 : sr_tx (a - sr_sc) = [] := by
                generalize a - sr_sc = b at q
                match b, q with
                | b + 4, _ => rfl
              rw [h9] at hc
              exact absurd hc.2.2 (Nat.not_lt_zero _)
          have had : sr_ad G a = G.2.1 (1000000 + (a - sr_sc)) := sr_ad_tx hc.1
          have hz : sr_sz S0 ≤ 8 := by
            have h1 := hB.2
            simp only [sr_sz, List.map_cons, List.sum_cons, Value.category] at h1 ⊢
            omega
          obtain ⟨w1, w2, w3, -, -, -⟩ := hT.2.2.2.2.2.2.2.2.2.2.2.2.1
          exact hgo (a - sr_sc) [.int i] S0 (sr_bn 7) prog_23_method_56_code 2 1 (some .char) _ hj (by have := (hKl _ _ _ _ _ hk).1; omega) (by have := (hKl _ _ _ _ _ hk).2; omega) (by decide) hz rfl hlk w1 w2 w3 rfl (by decide +kernel) (M7 _ _ hj hc.2.1 hc.2.2) (by simp [sr_v, had]) (kk _ hk)
        · cases e1
      · cases e1
    · simp only [sr_bi] at hev
      obtain ⟨L1, S1, h1, e1, hk⟩ := sr_go_inv hev
      split at e1
      · rename_i a S0
        split at e1
        · rename_i hc
          cases e1
          obtain ⟨hc, hj⟩ := hc
          have had : sr_ad G a = G.2.1 (1000000 + (a - sr_sc)) := sr_ad_tx hc
          have hz : sr_sz S0 ≤ 8 := by
            have h1 := hB.2
            simp only [sr_sz, List.map_cons, List.sum_cons, Value.category] at h1 ⊢
            omega
          obtain ⟨-, -, -, w1, w2, w3⟩ := hT.2.2.2.2.2.2.2.2.2.2.2.2.1
          exact hgo (a - sr_sc) [] S0 (sr_bn 8) prog_23_method_54_code 1 0 (some .int) _ hj (by have := (hKl _ _ _ _ _ hk).1; omega) (by have := (hKl _ _ _ _ _ hk).2; omega) (by decide) hz rfl hlk w1 w2 w3 rfl (by decide +kernel) (M8 _ hj) (by simp [sr_v, had]) (kk _ hk)
        · cases e1
      · cases e1
  · cases hev
/-- the JDK's own, static -/
theorem sr_bivS (hT : sr_TF) (hx : p.tables.exec = Jvm.exec) (hb : c.code = cc) (hml : c.maxLocals = nL) (hown : s.vm.findClass (sr_cn own) = some m.cls) (hts : ∀ w ∈ sr_tb, w.before args s = true) (hkn : sr_kn G s)
    (hlk : Cond.methodLink (sr_cn own) k (sr_bn b) ∈ sr_tb) (hb7 : b < 7) (hev : sr_iv (decide (8 ≤ d)) C [b] K L S h = some (r, h')) (hG : G.1 ≤ s.heap.size) (hLn : L.length = nL) (hlo : sr_lo G ls L) (hat : sr_at G h H) (hS : va_S (sr_A G) s.heap H locs) (hKl : sr_leK K) (hmc : mc + h0.1.1 = h'.1.1) (hms : ms + h0.1.2 = h'.1.2) (hc1 : cells + h0.1.1 = h.1.1) (hc2 : slots + h0.1.2 = h.1.2) (hd : decode cc pc = .ok (.invokestatic k, 3))
    (kk : ∀ (S' : List Value) (h1 : sr_H) (H1 : Heap) (locs1 : List Loc), K L S' h1 = some (r, h') → sr_at G h1 H1 → va_S (sr_A G) s.heap H1 locs1 → cells + h0.1.1 = h1.1.1 → slots + h0.1.2 = h1.1.2 → W p l e (sr_rm d mc ms) s m args below meth c H1 locs1 cells slots Q (F0 m (pc + 3) ls (S'.map (sr_v G)))) :
    W p l e (sr_rm d mc ms) s m args below meth c H locs cells slots Q (F0 m pc ls (S.map (sr_v G))) := by
  simp only [sr_iv] at hev
  split at hev
  · rename_i hB
    simp only [decide_eq_true_eq] at hB
    have hml' : c.maxLocals = ls.size := by rw [hml, ← hLn]; exact hlo.1.symm
    obtain ⟨w0, w1, w2, w3, w4, w5, w6, w7, w8, w9, w10, -⟩ := hT.2.2.2.2.2.2.2.2.2.1
    rcases (show b = 0 ∨ b = 1 ∨ b = 2 ∨ b = 3 ∨ b = 4 ∨ b = 5 ∨ b = 6 by omega) with rfl | rfl | rfl | rfl | rfl | rfl | rfl
    all_goals simp only [sr_bi] at hev
    · obtain ⟨x, y, S', rfl, hk⟩ := sr_i2_inv hev
      have hle := hKl _ _ _ _ _ hk
      have hz : sr_sz S' ≤ 9 := by
        have h1 := hB.2
        simp only [sr_sz, List.map_cons, List.sum_cons, Value.category] at h1 ⊢
        omega
      exact va_mmin hx hb hml' hown (hts _ hlk) (hts _ (w0 0 (by decide))) (hts _ w1) (hts _ w5) (by show 1 ≤ d; omega) (by show _ + _ ≤ 60 * d; rw [sr_sz_map]; omega) (by show cells ≤ mc; have := hle.1; omega) (by show slots ≤ ms; have := hle.2; omega) hd (kk _ _ _ _ hk hat hS hc1 hc2)
    · obtain ⟨x, y, S', rfl, hk⟩ := sr_i2_inv hev
      have hle := hKl _ _ _ _ _ hk
      have hz : sr_sz S' ≤ 9 := by
        have h1 := hB.2
        simp only [sr_sz, List.map_cons, List.sum_cons, Value.category] at h1 ⊢
        omega
      exact va_mmax hx hb hml' hown (hts _ hlk) (hts _ (w0 1 (by decide))) (hts _ w1) (hts _ w6) (by show 1 ≤ d; omega) (by show _ + _ ≤ 60 * d; rw [sr_sz_map]; omega) (by show cells ≤ mc; have := hle.1; omega) (by show slots ≤ ms; have := hle.2; omega) hd (kk _ _ _ _ hk hat hS hc1 hc2)
    · obtain ⟨x, S', rfl, hk⟩ := sr_i1_inv hev
      have hle := hKl _ _ _ _ _ hk
      have hz : sr_sz S' ≤ 9 := by
        have h1 := hB.2
        simp only [sr_sz, List.map_cons, List.sum_cons, Value.category] at h1 ⊢
        omega
      exact va_mabs hx hb hml' hown (hts _ hlk) (hts _ (w0 2 (by decide))) (hts _ w1) (hts _ w7) (by show 1 ≤ d; omega) (by show _ + _ ≤ 60 * d; rw [sr_sz_map]; omega) (by show cells ≤ mc; have := hle.1; omega) (by show slots ≤ ms; have := hle.2; omega) hd (kk _ _ _ _ hk hat hS hc1 hc2)
    · obtain ⟨x, y, S', rfl, hk⟩ := sr_l2_inv hev
      have hle := hKl _ _ _ _ _ hk
      have hz : sr_sz S' ≤ 9 := by
        have h1 := hB.2
        simp only [sr_sz, List.map_cons, List.sum_cons, Value.category] at h1 ⊢
        omega
      exact va_mmin_long hx hb hml' hown (hts _ hlk) (hts _ (w0 3 (by decide))) (hts _ w1) (hts _ w8) (by show 1 ≤ d; omega) (by show _ + _ ≤ 60 * d; rw [sr_sz_map]; omega) (by show cells ≤ mc; have := hle.1; omega) (by show slots ≤ ms; have := hle.2; omega) hd (kk _ _ _ _ hk hat hS hc1 hc2)
    · obtain ⟨x, y, S', rfl, hk⟩ := sr_l2_inv hev
      have hle := hKl _ _ _ _ _ hk
      have hz : sr_sz S' ≤ 9 := by
        have h1 := hB.2
        simp only [sr_sz, List.map_cons, List.sum_cons, Value.category] at h1 ⊢
        omega
      exact va_mmax_long hx hb hml' hown (hts _ hlk) (hts _ (w0 4 (by decide))) (hts _ w1) (hts _ w9) (by show 1 ≤ d; omega) (by show _ + _ ≤ 60 * d; rw [sr_sz_map]; omega) (by show cells ≤ mc; have := hle.1; omega) (by show slots ≤ ms; have := hle.2; omega) hd (kk _ _ _ _ hk hat hS hc1 hc2)
    · obtain ⟨x, S', rfl, hk⟩ := sr_l1_inv hev
      have hle := hKl _ _ _ _ _ hk
      have hz : sr_sz S' ≤ 9 := by
        have h1 := hB.2
        simp only [sr_sz, List.map_cons, List.sum_cons, Value.category] at h1 ⊢
        omega
      exact va_mabs_long hx hb hml' hown (hts _ hlk) (hts _ (w0 5 (by decide))) (hts _ w1) (hts _ w10) (by show 1 ≤ d; omega) (by show _ + _ ≤ 60 * d; rw [sr_sz_map]; omega) (by show cells ≤ mc; have := hle.1; omega) (by show slots ≤ ms; have := hle.2; omega) hd (kk _ _ _ _ hk hat hS hc1 hc2)
    · obtain ⟨n, dp, a, sp, b0, S', n0, f, n1, g, rfl, ha, hbb, h1, h2, h3, eb, ea, h4, h5, hk⟩ := sr_cp_inv hev
      have hle := hKl _ _ _ _ _ hk
      have hz : sr_sz S' ≤ 9 := by
        have h1 := hB.2
        simp only [sr_sz, List.map_cons, List.sum_cons, Value.category] at h1 ⊢
        omega
      have he0 := sr_w_get (G := G) hbb
      have he1 := sr_w_get (G := G) ha
      rw [eb] at he0
      rw [ea] at he1
      show W p l e (sr_rm d mc ms) s m args below meth c H locs cells slots Q (F0 m pc ls (.int n :: .int dp :: .ref (sr_ad G a) :: .int sp :: .ref (sr_ad G b0) :: S'.map (sr_v G)))
      rw [sr_ad_lt hat ha, sr_ad_lt hat hbb]
      refine va_copyi hx hb hml' hown (hts _ hlk) (hts _ w4) (hts _ (w0 6 (by decide))) (hts _ w2) hkn.1 hat.1 (sr_w_D G h) hS b0 a 0 0 he0 he1 rfl rfl rfl h1 h2 h3 h4 h5 (fun _ _ => rfl) (by show 1 ≤ d; omega) (sr_cpw hz hB.1) hd (fun H1 locs1 hP1 hD1 hS1 => ?_)
      have h9 := sr_w_set (G := G) (h := h) (k := a) (.inl (0, n1, va_cpy f g sp.toNatClampNeg dp.toNatClampNeg n.toNatClampNeg))
      exact kk _ _ _ _ hk ⟨by rw [← h9]; exact hP1, hat.2.1, Nat.le_trans hG hS1.1⟩ hS1 hc1 hc2
  · cases hev
end SRB
