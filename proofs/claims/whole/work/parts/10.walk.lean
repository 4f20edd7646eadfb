/-! One instruction after another. -/
set_option maxHeartbeats 8000000 in
set_option maxRecDepth 100000 in
theorem sr_blk (hT : sr_TF) {p : Program} {l : Launch} {e : Env} {R : Room} {s : State} {m : MethodId} {args : Array Value} {below : List Frame} {meth : Method} {c : Code} {G : sr_G} {own mid : Nat} {cc : ByteArray} {rt : Option FieldType} {ini : Bool} {d mc ms nL : Nat}
    (X : sr_cxt p R s m args meth c G own cc rt ini d mc ms) (hml : c.maxLocals = nL) {r : Option Value} {h0 h' : sr_H} (hmc : mc + h0.1.1 = h'.1.1) (hms : ms + h0.1.2 = h'.1.2) (h0s : h0.1.1 < sr_mx → s.heap.size = G.1 + h0.1.1) (M7 : sr_M7 l G) (M8 : sr_M8 l G)
    {J : Nat → sr_K} {C : Nat → List Value → sr_H → Option sr_R} (hJl : ∀ t, sr_leK (J t)) (hCl : sr_leC C)
    (hJ : ∀ (t : Nat) (L S : List Value) (h : sr_H) (ls : Array Slot) (H : Heap) (locs : List Loc) (cells slots : Nat), t / 1000 = mid → J t L S h = some (r, h') → L.length = nL → sr_lo G ls L → sr_at G h H → va_S (sr_A G) s.heap H locs → cells + h0.1.1 = h.1.1 → slots + h0.1.2 = h.1.2 →
      W p l e R s m args below meth c H locs cells slots (MQ below (sr_Q G r h') args s mc ms (sr_A G)) (F0 m (sr_pc t) ls (S.map (sr_v G))))
    (hC : ∀ (mid' : Nat) (as : List Value) (hh : sr_H) (rr : Option Value) (hh' : sr_H), C mid' as hh = some (rr, hh') → mid' < 298 → (sr_ar as).length ≤ sr_ml mid' → ∃ d', d = d' + 1 ∧ Met l (sr_y mid') (sr_ws mid') (sr_rm d' (hh'.1.1 - hh.1.1) (hh'.1.2 - hh.1.2)) (sr_P G as hh) (sr_Q G rr hh') (hh'.1.1 - hh.1.1) (hh'.1.2 - hh.1.2) (sr_A G)) :
    ∀ (cs : List sr_I) (pc : Nat) (L S : List Value) (h : sr_H) (ls : Array Slot) (H : Heap) (locs : List Loc) (cells slots : Nat), sr_ckB own mid cc rt ini pc cs = true → sr_ev (decide (8 ≤ d)) J C cs L S h = some (r, h') → L.length = nL → sr_lo G ls L → sr_at G h H → va_S (sr_A G) s.heap H locs → cells + h0.1.1 = h.1.1 → slots + h0.1.2 = h.1.2 →
      W p l e R s m args below meth c H locs cells slots (MQ below (sr_Q G r h') args s mc ms (sr_A G)) (F0 m pc ls (S.map (sr_v G))) := by
  obtain ⟨hx, hb, hr, hown, hts, hlocks, hin, hkn, rfl, hG⟩ := X
  intro cs
  induction cs with
  | nil =>
    intro pc L S h ls H locs cells slots _ hev
    cases hev
  | cons q cs ih =>
    obtain ⟨i, x⟩ := q
    intro pc L S h ls H locs cells slots hck hev hLn hlo hat hS hc1 hc2
    simp only [sr_ckB] at hck
    by_cases hn : i = .nop
    · subst hn
      rw [if_pos rfl] at hck
      obtain ⟨h1, h2⟩ := sr_lb_inv hck
      have h3 := hJ _ L S h ls H locs cells slots h1 hev hLn hlo hat hS hc1 hc2
      rw [← Int.ofNat_inj.mp h2] at h3
      exact h3
    rw [if_neg hn] at hck
    cases hd : decode cc pc with
    | error _ => rw [hd] at hck; cases hck
    | ok rl =>
    obtain ⟨ri, len⟩ := rl
    rw [hd] at hck
    simp only [Bool.and_eq_true] at hck
    obtain ⟨hck, hcs⟩ := hck
    have ih' := fun L S h ls H locs cells slots => ih (pc + len) L S h ls H locs cells slots hcs
    have hKl : sr_leK (sr_ev (decide (8 ≤ d)) J C cs) := sr_ev_le hJl hCl cs
    change sr_op (decide (8 ≤ d)) J C i x (sr_ev (decide (8 ≤ d)) J C cs) L S h = some (r, h') at hev
    generalize sr_ev (decide (8 ≤ d)) J C cs = K at hev ih' hKl
    clear ih hcs
    have hretI : ∀ (v : Int32) (ty : FieldType), rt = some ty → narrow ty (.int v) = .int v → r = some (.int v) → h' = h → decode cc pc = .ok (.ireturn, 1) → W p l e (sr_rm d mc ms) s m args below meth c H locs cells slots (MQ below (sr_Q G r h') args s mc ms (sr_A G)) (F0 m pc ls [.int v]) := by
      intro v ty h1 h2 h3 h4 h5
      subst h3 h4
      have e1 : cells = mc := by omega
      have e2 : slots = ms := by omega
      subst e1 e2
      exact W.zret hx hb (hr.trans h1) h2 (fun t ht _ => ⟨rfl, by rw [ht]; exact hat, hS.F ht⟩) hS.2.2 h5 hlocks
    cases i
    all_goals first
      | (exfalso; simp only [sr_op, sr_sm, sr_go, reduceCtorEq] at hev; done)
      | skip
    all_goals try simp only [sr_op, sr_sm] at hev
    all_goals try simp only [sr_ckI] at hck
    case iadd =>
      simp only [decide_eq_true_eq] at hck
      obtain ⟨rfl, rfl⟩ := hck
      obtain ⟨a, b, S, rfl, hk⟩ := sr_i2_inv hev
      exact lv_iadd hx hb hd (ih' _ _ _ _ _ _ _ _ hk hLn hlo hat hS hc1 hc2)
    case isub =>
      simp only [decide_eq_true_eq] at hck
      obtain ⟨rfl, rfl⟩ := hck
      obtain ⟨a, b, S, rfl, hk⟩ := sr_i2_inv hev
      exact lv_isub hx hb hd (ih' _ _ _ _ _ _ _ _ hk hLn hlo hat hS hc1 hc2)
    case imul =>
      simp only [decide_eq_true_eq] at hck
      obtain ⟨rfl, rfl⟩ := hck
      obtain ⟨a, b, S, rfl, hk⟩ := sr_i2_inv hev
      exact lv_imul hx hb hd (ih' _ _ _ _ _ _ _ _ hk hLn hlo hat hS hc1 hc2)
    case iand =>
      simp only [decide_eq_true_eq] at hck
      obtain ⟨rfl, rfl⟩ := hck
      obtain ⟨a, b, S, rfl, hk⟩ := sr_i2_inv hev
      exact lv_iand hx hb hd (ih' _ _ _ _ _ _ _ _ hk hLn hlo hat hS hc1 hc2)
    case ior =>
      simp only [decide_eq_true_eq] at hck
      obtain ⟨rfl, rfl⟩ := hck
      obtain ⟨a, b, S, rfl, hk⟩ := sr_i2_inv hev
      exact lv_ior hx hb hd (ih' _ _ _ _ _ _ _ _ hk hLn hlo hat hS hc1 hc2)
    case ixor =>
      simp only [decide_eq_true_eq] at hck
      obtain ⟨rfl, rfl⟩ := hck
      obtain ⟨a, b, S, rfl, hk⟩ := sr_i2_inv hev
      exact lv_ixor hx hb hd (ih' _ _ _ _ _ _ _ _ hk hLn hlo hat hS hc1 hc2)
    case ishl =>
      simp only [decide_eq_true_eq] at hck
      obtain ⟨rfl, rfl⟩ := hck
      obtain ⟨a, b, S, rfl, hk⟩ := sr_i2_inv hev
      exact lv_ishl hx hb hd (ih' _ _ _ _ _ _ _ _ hk hLn hlo hat hS hc1 hc2)
    case ishr =>
      simp only [decide_eq_true_eq] at hck
      obtain ⟨rfl, rfl⟩ := hck
      obtain ⟨a, b, S, rfl, hk⟩ := sr_i2_inv hev
      exact lv_ishr hx hb hd (ih' _ _ _ _ _ _ _ _ hk hLn hlo hat hS hc1 hc2)
    case iushr =>
      simp only [decide_eq_true_eq] at hck
      obtain ⟨rfl, rfl⟩ := hck
      obtain ⟨a, b, S, rfl, hk⟩ := sr_i2_inv hev
      exact lv_iushr hx hb hd rfl (ih' _ _ _ _ _ _ _ _ hk hLn hlo hat hS hc1 hc2)
    case idiv =>
      simp only [decide_eq_true_eq] at hck
      obtain ⟨rfl, rfl⟩ := hck
      obtain ⟨a, b, S, rfl, hne, hk⟩ := sr_id_inv hev
      exact lv_idiv hx hb hd hne (ih' _ _ _ _ _ _ _ _ hk hLn hlo hat hS hc1 hc2)
    case irem =>
      simp only [decide_eq_true_eq] at hck
      obtain ⟨rfl, rfl⟩ := hck
      obtain ⟨a, b, S, rfl, hne, hk⟩ := sr_id_inv hev
      exact lv_irem hx hb hd hne (ih' _ _ _ _ _ _ _ _ hk hLn hlo hat hS hc1 hc2)
    case ineg =>
      simp only [decide_eq_true_eq] at hck
      obtain ⟨rfl, rfl⟩ := hck
      obtain ⟨a, S, rfl, hk⟩ := sr_i1_inv hev
      exact lv_ineg hx hb hd (ih' _ _ _ _ _ _ _ _ hk hLn hlo hat hS hc1 hc2)
    case ladd =>
      simp only [decide_eq_true_eq] at hck
      obtain ⟨rfl, rfl⟩ := hck
      obtain ⟨a, b, S, rfl, hk⟩ := sr_l2_inv hev
      exact lv_ladd hx hb hd (ih' _ _ _ _ _ _ _ _ hk hLn hlo hat hS hc1 hc2)
    case lsub =>
      simp only [decide_eq_true_eq] at hck
      obtain ⟨rfl, rfl⟩ := hck
      obtain ⟨a, b, S, rfl, hk⟩ := sr_l2_inv hev
      exact lv_lsub hx hb hd (ih' _ _ _ _ _ _ _ _ hk hLn hlo hat hS hc1 hc2)
    case lmul =>
      simp only [decide_eq_true_eq] at hck
      obtain ⟨rfl, rfl⟩ := hck
      obtain ⟨a, b, S, rfl, hk⟩ := sr_l2_inv hev
      exact lv_lmul hx hb hd (ih' _ _ _ _ _ _ _ _ hk hLn hlo hat hS hc1 hc2)
    case land =>
      simp only [decide_eq_true_eq] at hck
      obtain ⟨rfl, rfl⟩ := hck
      obtain ⟨a, b, S, rfl, hk⟩ := sr_l2_inv hev
      exact lv_land hx hb hd (ih' _ _ _ _ _ _ _ _ hk hLn hlo hat hS hc1 hc2)
    case ldiv =>
      simp only [decide_eq_true_eq] at hck
      obtain ⟨rfl, rfl⟩ := hck
      obtain ⟨a, b, S, rfl, hne, hk⟩ := sr_ld_inv hev
      exact lv_ldiv hx hb hd hne (ih' _ _ _ _ _ _ _ _ hk hLn hlo hat hS hc1 hc2)
    case lrem =>
      simp only [decide_eq_true_eq] at hck
      obtain ⟨rfl, rfl⟩ := hck
      obtain ⟨a, b, S, rfl, hne, hk⟩ := sr_ld_inv hev
      exact lv_lrem hx hb hd hne (ih' _ _ _ _ _ _ _ _ hk hLn hlo hat hS hc1 hc2)
    case lneg =>
      simp only [decide_eq_true_eq] at hck
      obtain ⟨rfl, rfl⟩ := hck
      obtain ⟨a, S, rfl, hk⟩ := sr_l1_inv hev
      exact lv_lneg hx hb hd (ih' _ _ _ _ _ _ _ _ hk hLn hlo hat hS hc1 hc2)
    case i2l =>
      simp only [decide_eq_true_eq] at hck
      obtain ⟨rfl, rfl⟩ := hck
      obtain ⟨L1, S1, h1, e1, hk⟩ := sr_go_inv hev
      split at e1
      · cases e1
        exact lv_i2l hx hb hd rfl (ih' _ _ _ _ _ _ _ _ hk hLn hlo hat hS hc1 hc2)
      · cases e1
    case l2i =>
      simp only [decide_eq_true_eq] at hck
      obtain ⟨rfl, rfl⟩ := hck
      obtain ⟨L1, S1, h1, e1, hk⟩ := sr_go_inv hev
      split at e1
      · cases e1
        exact lv_l2i hx hb hd rfl (ih' _ _ _ _ _ _ _ _ hk hLn hlo hat hS hc1 hc2)
      · cases e1
    case lcmp =>
      simp only [decide_eq_true_eq] at hck
      obtain ⟨rfl, rfl⟩ := hck
      obtain ⟨L1, S1, h1, e1, hk⟩ := sr_go_inv hev
      split at e1
      · cases e1
        exact W.lcmp hx hb hd (ih' _ _ _ _ _ _ _ _ hk hLn hlo hat hS hc1 hc2)
      · cases e1
    case dup =>
      simp only [decide_eq_true_eq] at hck
      obtain ⟨rfl, rfl⟩ := hck
      obtain ⟨L1, S1, h1, e1, hk⟩ := sr_go_inv hev
      split at e1
      · cases e1
        exact lv_dup hx hb hd rfl (ih' _ _ _ _ _ _ _ _ hk hLn hlo hat hS hc1 hc2)
      · cases e1
        exact lv_dup hx hb hd rfl (ih' _ _ _ _ _ _ _ _ hk hLn hlo hat hS hc1 hc2)
      · cases e1
    case dup2 =>
      simp only [decide_eq_true_eq] at hck
      obtain ⟨rfl, rfl⟩ := hck
      obtain ⟨L1, S1, h1, e1, hk⟩ := sr_go_inv hev
      split at e1
      · cases e1
        exact lv_dup2_11 hx hb hd rfl rfl (ih' _ _ _ _ _ _ _ _ hk hLn hlo hat hS hc1 hc2)
      · cases e1
    case pop =>
      simp only [decide_eq_true_eq] at hck
      obtain ⟨rfl, rfl⟩ := hck
      obtain ⟨L1, S1, h1, e1, hk⟩ := sr_go_inv hev
      split at e1
      · cases e1
        exact lv_pop hx hb hd rfl (ih' _ _ _ _ _ _ _ _ hk hLn hlo hat hS hc1 hc2)
      · cases e1
        exact lv_pop hx hb hd rfl (ih' _ _ _ _ _ _ _ _ hk hLn hlo hat hS hc1 hc2)
      · cases e1
    case sipush =>
      obtain ⟨L1, S1, h1, e1, hk⟩ := sr_go_inv hev
      cases e1
      split at hck
      · simp only [decide_eq_true_eq] at hck
        obtain ⟨rfl, h2⟩ := hck
        exact lv_iconst hx hb hd h2 (ih' _ _ _ _ _ _ _ _ hk hLn hlo hat hS hc1 hc2)
      · simp only [decide_eq_true_eq] at hck
        obtain ⟨rfl, h2⟩ := hck
        exact lv_bipush hx hb hd h2 (ih' _ _ _ _ _ _ _ _ hk hLn hlo hat hS hc1 hc2)
      · simp only [decide_eq_true_eq] at hck
        obtain ⟨rfl, h2⟩ := hck
        exact lv_sipush hx hb hd h2 (ih' _ _ _ _ _ _ _ _ hk hLn hlo hat hS hc1 hc2)
      · simp only [Bool.and_eq_true, decide_eq_true_eq] at hck
        obtain ⟨rfl, h2⟩ := hck
        obtain ⟨q, hq, h3⟩ := sr_any_inv h2
        simp only [decide_eq_true_eq] at h3
        obtain ⟨rfl, rfl⟩ := h3
        exact lv_ldc hx hb hown (hts _ (hT.2.2.2.1 own q hq)) hd (ih' _ _ _ _ _ _ _ _ hk hLn hlo hat hS hc1 hc2)
      · simp only [Bool.and_eq_true, decide_eq_true_eq] at hck
        obtain ⟨rfl, h2⟩ := hck
        obtain ⟨q, hq, h3⟩ := sr_any_inv h2
        simp only [decide_eq_true_eq] at h3
        obtain ⟨rfl, rfl⟩ := h3
        exact lv_ldcw hx hb hown (hts _ (hT.2.2.2.1 own q hq)) hd (ih' _ _ _ _ _ _ _ _ hk hLn hlo hat hS hc1 hc2)
      · cases hck
    case lconst =>
      obtain ⟨L1, S1, h1, e1, hk⟩ := sr_go_inv hev
      cases e1
      split at hck
      · simp only [decide_eq_true_eq] at hck
        obtain ⟨rfl, h2⟩ := hck
        exact lv_lconst hx hb hd h2 (ih' _ _ _ _ _ _ _ _ hk hLn hlo hat hS hc1 hc2)
      · simp only [Bool.and_eq_true, decide_eq_true_eq] at hck
        obtain ⟨rfl, h2⟩ := hck
        obtain ⟨q, hq, h3⟩ := sr_any_inv h2
        simp only [decide_eq_true_eq] at h3
        obtain ⟨rfl, rfl⟩ := h3
        exact lv_ldc2 hx hb hown (hts _ (hT.2.2.2.2.1 own q hq)) hd (ih' _ _ _ _ _ _ _ _ hk hLn hlo hat hS hc1 hc2)
      · cases hck
    case ldc =>
      obtain ⟨L1, S1, h1, e1, hk⟩ := sr_go_inv hev
      cases e1
      split at hck
      · simp only [Bool.and_eq_true, decide_eq_true_eq] at hck
        obtain ⟨rfl, h2⟩ := hck
        obtain ⟨q, hq, h3⟩ := sr_any_inv h2
        simp only [decide_eq_true_eq] at h3
        obtain ⟨rfl, rfl⟩ := h3
        obtain ⟨h4, h5, h6⟩ := hT.2.2.2.2.2.1 own q hq
        have h7 := hkn.2.2.2.1 q.2.1 h4
        rw [h5, h6] at h7
        refine va_ldcS hx hb hown h7 hd ?_
        have h8 := ih' _ _ _ _ _ _ _ _ hk hLn hlo hat hS hc1 hc2
        have h9 : sr_ad G (sr_sc + q.2.1) = G.2.1 (1000000 + q.2.1) := by
          have e1 : ¬ sr_sc + q.2.1 < sr_sb := by
            have : sr_sb ≤ sr_sc := Nat.le_of_ble_eq_true rfl
            omega
          have e2 : sr_sc + q.2.1 - sr_sb = 1000000 + q.2.1 := by
            show 2000000 + q.2.1 - 1000000 = 1000000 + q.2.1
            omega
          rw [sr_ad, if_neg e1, e2]
        rw [← h9]
        exact h8
      · cases hck
    case iload =>
      obtain ⟨L1, S1, h1, e1, hk⟩ := sr_go_inv hev
      split at e1
      · rename_i hv
        cases e1
        split at hck
        · simp only [decide_eq_true_eq] at hck
          obtain ⟨rfl, rfl⟩ := hck
          exact lv_iload hx hb hd (sr_lo_get hlo hv rfl) (ih' _ _ _ _ _ _ _ _ hk hLn hlo hat hS hc1 hc2)
        · simp only [decide_eq_true_eq] at hck
          obtain ⟨rfl, h2⟩ := hck
          exact lv_iload_n hx hb hd h2 (sr_lo_get hlo hv rfl) (ih' _ _ _ _ _ _ _ _ hk hLn hlo hat hS hc1 hc2)
        · cases hck
      · cases e1
    case lload =>
      obtain ⟨L1, S1, h1, e1, hk⟩ := sr_go_inv hev
      split at e1
      · rename_i hv
        cases e1
        split at hck
        · simp only [decide_eq_true_eq] at hck
          obtain ⟨rfl, rfl⟩ := hck
          exact lv_lload hx hb hd (sr_lo_get hlo hv rfl) (ih' _ _ _ _ _ _ _ _ hk hLn hlo hat hS hc1 hc2)
        · simp only [decide_eq_true_eq] at hck
          obtain ⟨rfl, h2⟩ := hck
          exact lv_lload_n hx hb hd h2 (sr_lo_get hlo hv rfl) (ih' _ _ _ _ _ _ _ _ hk hLn hlo hat hS hc1 hc2)
        · cases hck
      · cases e1
    case aload =>
      obtain ⟨L1, S1, h1, e1, hk⟩ := sr_go_inv hev
      split at e1
      · rename_i hv
        cases e1
        split at hck
        · simp only [decide_eq_true_eq] at hck
          obtain ⟨rfl, rfl⟩ := hck
          exact lv_aload hx hb hd (sr_lo_get hlo hv rfl) (ih' _ _ _ _ _ _ _ _ hk hLn hlo hat hS hc1 hc2)
        · simp only [decide_eq_true_eq] at hck
          obtain ⟨rfl, h2⟩ := hck
          exact lv_aload_n hx hb hd h2 (sr_lo_get hlo hv rfl) (ih' _ _ _ _ _ _ _ _ hk hLn hlo hat hS hc1 hc2)
        · cases hck
      · cases e1
    case istore =>
      obtain ⟨L1, S1, h1, e1, hk⟩ := sr_go_inv hev
      split at e1
      · split at e1
        · rename_i hi
          cases e1
          split at hck
          · simp only [decide_eq_true_eq] at hck
            obtain ⟨rfl, rfl⟩ := hck
            exact lv_istore hx hb hd hlo hi rfl (fun ls' hl' => ih' _ _ _ _ _ _ _ _ hk (by simp [sr_st1, sr_kl_len, hLn]) (sr_lo_st1 rfl hl') hat hS hc1 hc2)
          · simp only [decide_eq_true_eq] at hck
            obtain ⟨rfl, h2⟩ := hck
            exact lv_istore_n hx hb hd h2 hlo hi rfl (fun ls' hl' => ih' _ _ _ _ _ _ _ _ hk (by simp [sr_st1, sr_kl_len, hLn]) (sr_lo_st1 rfl hl') hat hS hc1 hc2)
          · cases hck
        · cases e1
      · cases e1
    case astore =>
      obtain ⟨L1, S1, h1, e1, hk⟩ := sr_go_inv hev
      split at e1
      · split at e1
        · rename_i hi
          cases e1
          split at hck
          · simp only [decide_eq_true_eq] at hck
            obtain ⟨rfl, rfl⟩ := hck
            exact lv_astore hx hb hd hlo hi rfl (fun ls' hl' => ih' _ _ _ _ _ _ _ _ hk (by simp [sr_st1, sr_kl_len, hLn]) (sr_lo_st1 rfl hl') hat hS hc1 hc2)
          · simp only [decide_eq_true_eq] at hck
            obtain ⟨rfl, h2⟩ := hck
            exact lv_astore_n hx hb hd h2 hlo hi rfl (fun ls' hl' => ih' _ _ _ _ _ _ _ _ hk (by simp [sr_st1, sr_kl_len, hLn]) (sr_lo_st1 rfl hl') hat hS hc1 hc2)
          · cases hck
        · cases e1
      · cases e1
    case lstore =>
      obtain ⟨L1, S1, h1, e1, hk⟩ := sr_go_inv hev
      split at e1
      · split at e1
        · rename_i hi
          cases e1
          split at hck
          · simp only [decide_eq_true_eq] at hck
            obtain ⟨rfl, rfl⟩ := hck
            exact lv_lstore hx hb hd hlo hi rfl (fun ls' hl' => ih' _ _ _ _ _ _ _ _ hk (by simp [sr_st2, sr_kl_len, hLn]) (sr_lo_st2 hl') hat hS hc1 hc2)
          · simp only [decide_eq_true_eq] at hck
            obtain ⟨rfl, h2⟩ := hck
            exact lv_lstore_n hx hb hd h2 hlo hi rfl (fun ls' hl' => ih' _ _ _ _ _ _ _ _ hk (by simp [sr_st2, sr_kl_len, hLn]) (sr_lo_st2 hl') hat hS hc1 hc2)
          · cases hck
        · cases e1
      · cases e1
    case iinc =>
      obtain ⟨L1, S1, h1, e1, hk⟩ := sr_go_inv hev
      split at e1
      · rename_i v hv
        cases e1
        split at hck
        · simp only [decide_eq_true_eq] at hck
          obtain ⟨rfl, rfl, h2⟩ := hck
          obtain ⟨kk, hkk⟩ := List.getElem?_of_mem (sr_ll_mem (G := G) (q := (_, Value.int v)).mpr ⟨_, hv, rfl⟩)
          exact lv_iinc hx hb hd hlo hkk (by rw [h2]) (List.getElem?_eq_some_iff.mp hv).1 rfl (fun ls' hl' => ih' _ _ _ _ _ _ _ _ hk (by simp [sr_st1, sr_kl_len, hLn]) (sr_lo_st1 rfl hl') hat hS hc1 hc2)
        · cases hck
      · cases e1
    case ifCond cnd _ =>
      split at hev
      · split at hck
        · simp only [Bool.and_eq_true, decide_eq_true_eq] at hck
          obtain ⟨⟨rfl, rfl⟩, h2⟩ := hck
          obtain ⟨h3, h4⟩ := sr_lb_inv h2
          cases cnd
          · refine lv_if_eq hx hb hd h4 (fun hc => ?_) (fun hc => ?_)
            · rw [if_pos (by simpa only [sr_cd, decide_eq_true_eq] using hc)] at hev
              exact hJ _ _ _ _ _ _ _ _ _ h3 hev hLn hlo hat hS hc1 hc2
            · rw [if_neg (by simpa only [sr_cd, decide_eq_true_eq, Classical.not_not] using hc)] at hev
              exact ih' _ _ _ _ _ _ _ _ hev hLn hlo hat hS hc1 hc2
          · refine lv_if_ne hx hb hd h4 (fun hc => ?_) (fun hc => ?_)
            · rw [if_pos (by simpa only [sr_cd, decide_eq_true_eq] using hc)] at hev
              exact hJ _ _ _ _ _ _ _ _ _ h3 hev hLn hlo hat hS hc1 hc2
            · rw [if_neg (by simpa only [sr_cd, decide_eq_true_eq, Classical.not_not] using hc)] at hev
              exact ih' _ _ _ _ _ _ _ _ hev hLn hlo hat hS hc1 hc2
          · refine lv_if_lt hx hb hd h4 (fun hc => ?_) (fun hc => ?_)
            · rw [if_pos (by simpa only [sr_cd, decide_eq_true_eq] using hc)] at hev
              exact hJ _ _ _ _ _ _ _ _ _ h3 hev hLn hlo hat hS hc1 hc2
            · rw [if_neg (by simpa only [sr_cd, decide_eq_true_eq, Classical.not_not] using hc)] at hev
              exact ih' _ _ _ _ _ _ _ _ hev hLn hlo hat hS hc1 hc2
          · refine lv_if_ge hx hb hd h4 (fun hc => ?_) (fun hc => ?_)
            · rw [if_pos (by simpa only [sr_cd, decide_eq_true_eq] using hc)] at hev
              exact hJ _ _ _ _ _ _ _ _ _ h3 hev hLn hlo hat hS hc1 hc2
            · rw [if_neg (by simpa only [sr_cd, decide_eq_true_eq, Classical.not_not] using hc)] at hev
              exact ih' _ _ _ _ _ _ _ _ hev hLn hlo hat hS hc1 hc2
          · refine lv_if_gt hx hb hd h4 (fun hc => ?_) (fun hc => ?_)
            · rw [if_pos (by simpa only [sr_cd, decide_eq_true_eq] using hc)] at hev
              exact hJ _ _ _ _ _ _ _ _ _ h3 hev hLn hlo hat hS hc1 hc2
            · rw [if_neg (by simpa only [sr_cd, decide_eq_true_eq, Classical.not_not] using hc)] at hev
              exact ih' _ _ _ _ _ _ _ _ hev hLn hlo hat hS hc1 hc2
          · refine lv_if_le hx hb hd h4 (fun hc => ?_) (fun hc => ?_)
            · rw [if_pos (by simpa only [sr_cd, decide_eq_true_eq] using hc)] at hev
              exact hJ _ _ _ _ _ _ _ _ _ h3 hev hLn hlo hat hS hc1 hc2
            · rw [if_neg (by simpa only [sr_cd, decide_eq_true_eq, Classical.not_not] using hc)] at hev
              exact ih' _ _ _ _ _ _ _ _ hev hLn hlo hat hS hc1 hc2
        · cases hck
      · cases hev
    case if_icmp cnd _ =>
      split at hev
      · split at hck
        · simp only [Bool.and_eq_true, decide_eq_true_eq] at hck
          obtain ⟨⟨rfl, rfl⟩, h2⟩ := hck
          obtain ⟨h3, h4⟩ := sr_lb_inv h2
          cases cnd
          · refine lv_icmp_eq hx hb hd h4 (fun hc => ?_) (fun hc => ?_)
            · rw [if_pos (by simpa only [sr_cd, decide_eq_true_eq] using hc)] at hev
              exact hJ _ _ _ _ _ _ _ _ _ h3 hev hLn hlo hat hS hc1 hc2
            · rw [if_neg (by simpa only [sr_cd, decide_eq_true_eq, Classical.not_not] using hc)] at hev
              exact ih' _ _ _ _ _ _ _ _ hev hLn hlo hat hS hc1 hc2
          · refine lv_icmp_ne hx hb hd h4 (fun hc => ?_) (fun hc => ?_)
            · rw [if_pos (by simpa only [sr_cd, decide_eq_true_eq] using hc)] at hev
              exact hJ _ _ _ _ _ _ _ _ _ h3 hev hLn hlo hat hS hc1 hc2
            · rw [if_neg (by simpa only [sr_cd, decide_eq_true_eq, Classical.not_not] using hc)] at hev
              exact ih' _ _ _ _ _ _ _ _ hev hLn hlo hat hS hc1 hc2
          · refine lv_icmp_lt hx hb hd h4 (fun hc => ?_) (fun hc => ?_)
            · rw [if_pos (by simpa only [sr_cd, decide_eq_true_eq] using hc)] at hev
              exact hJ _ _ _ _ _ _ _ _ _ h3 hev hLn hlo hat hS hc1 hc2
            · rw [if_neg (by simpa only [sr_cd, decide_eq_true_eq, Classical.not_not] using hc)] at hev
              exact ih' _ _ _ _ _ _ _ _ hev hLn hlo hat hS hc1 hc2
          · refine lv_icmp_ge hx hb hd h4 (fun hc => ?_) (fun hc => ?_)
            · rw [if_pos (by simpa only [sr_cd, decide_eq_true_eq] using hc)] at hev
              exact hJ _ _ _ _ _ _ _ _ _ h3 hev hLn hlo hat hS hc1 hc2
            · rw [if_neg (by simpa only [sr_cd, decide_eq_true_eq, Classical.not_not] using hc)] at hev
              exact ih' _ _ _ _ _ _ _ _ hev hLn hlo hat hS hc1 hc2
          · refine lv_icmp_gt hx hb hd h4 (fun hc => ?_) (fun hc => ?_)
            · rw [if_pos (by simpa only [sr_cd, decide_eq_true_eq] using hc)] at hev
              exact hJ _ _ _ _ _ _ _ _ _ h3 hev hLn hlo hat hS hc1 hc2
            · rw [if_neg (by simpa only [sr_cd, decide_eq_true_eq, Classical.not_not] using hc)] at hev
              exact ih' _ _ _ _ _ _ _ _ hev hLn hlo hat hS hc1 hc2
          · refine lv_icmp_le hx hb hd h4 (fun hc => ?_) (fun hc => ?_)
            · rw [if_pos (by simpa only [sr_cd, decide_eq_true_eq] using hc)] at hev
              exact hJ _ _ _ _ _ _ _ _ _ h3 hev hLn hlo hat hS hc1 hc2
            · rw [if_neg (by simpa only [sr_cd, decide_eq_true_eq, Classical.not_not] using hc)] at hev
              exact ih' _ _ _ _ _ _ _ _ hev hLn hlo hat hS hc1 hc2
        · cases hck
      · cases hev
    case goto =>
      split at hck
      · simp only [Bool.and_eq_true, decide_eq_true_eq] at hck
        obtain ⟨rfl, h2⟩ := hck
        obtain ⟨h3, h4⟩ := sr_lb_inv h2
        exact lv_goto hx hb hd h4 (hJ _ _ _ _ _ _ _ _ _ h3 hev hLn hlo hat hS hc1 hc2)
      · cases hck
    case tableswitch q1 lo hi q2 =>
      split at hev
      · rename_i v S0
        split at hck
        · rename_i dd lo' hi' os
          simp only [Bool.and_eq_true, decide_eq_true_eq] at hck
          obtain ⟨⟨rfl, rfl, hlen⟩, h2⟩ := hck
          obtain ⟨hl1, hl2⟩ := sr_lbs_inv _ _ h2
          simp only [sr_tsw] at hev
          by_cases ho : v.toInt < lo ∨ hi < v.toInt
          · rw [if_pos ho] at hev
            cases x with
            | nil => simp at hl1
            | cons t ts =>
              obtain ⟨o, e1, e2⟩ := hl2 0 t rfl
              cases e1
              obtain ⟨h3, h4⟩ := sr_lb_inv e2
              exact lv_tableOut hx hb hd ho h4 (hJ _ _ _ _ _ _ _ _ _ h3 hev hLn hlo hat hS hc1 hc2)
          · rw [if_neg ho] at hev
            simp only [not_or, Int.not_lt] at ho
            have hj : (v.toInt - lo).toNat < os.toList.length := by omega
            have hx1 : 1 + (v.toInt - lo).toNat < x.length := by
              rw [hl1, List.length_cons]
              omega
            obtain ⟨o, e1, e2⟩ := hl2 (1 + (v.toInt - lo).toNat) _ (List.getElem?_eq_getElem hx1)
            rw [Nat.add_comm 1, List.getElem?_cons_succ] at e1
            obtain ⟨h3, h4⟩ := sr_lb_inv e2
            rw [List.getD_eq_getElem?_getD, List.getElem?_eq_getElem hx1] at hev
            exact lv_tableIn hx hb hd (by omega) (by omega) (by rw [← Array.getElem?_toList]; exact e1) h4 (hJ _ _ _ _ _ _ _ _ _ h3 hev hLn hlo hat hS hc1 hc2)
        · cases hck
      · cases hev
    case lookupswitch q1 ps =>
      split at hev
      · rename_i v S0
        split at hck
        · rename_i dd ps'
          simp only [Bool.and_eq_true] at hck
          obtain ⟨⟨h1, h2⟩, h3⟩ := hck
          cases x with
          | nil => cases h3
          | cons t ts =>
            simp only [sr_lbs, Bool.and_eq_true] at h3
            have h4 := sr_lsw_eq _ _ ts t dd v.toInt mid pc h1 h3.2 h3.1
            obtain ⟨h5, h6⟩ := sr_lb_inv h4
            exact lv_lookup hx hb hd h2 rfl h6 (hJ _ _ _ _ _ _ _ _ _ h5 hev hLn hlo hat hS hc1 hc2)
        · cases hck
      · cases hev
    case ireturn =>
      split at hev
      · split at hev
        · rename_i hz
          simp only [Bool.and_eq_true, Bool.or_eq_true, decide_eq_true_eq] at hck
          obtain ⟨⟨rfl, rfl⟩, h2⟩ := hck
          cases hev
          rcases h2 with ⟨h2, h3⟩ | ⟨h2, h3⟩
          · exact hretI _ _ h3 rfl rfl rfl hd
          · rcases hz with h4 | h4 | h4
            · exact absurd h4 h2
            · subst h4
              exact hretI _ _ h3 (by decide) rfl rfl hd
            · subst h4
              exact hretI _ _ h3 (by decide) rfl rfl hd
        · cases hev
      · cases hev
    case lreturn =>
      simp only [decide_eq_true_eq] at hck
      obtain ⟨rfl, rfl, h2⟩ := hck
      split at hev
      · cases hev
        have e1 : cells = mc := by omega
        have e2 : slots = ms := by omega
        subst e1 e2
        exact W.lret hx hb (hr.trans h2) (fun t ht _ => ⟨rfl, by rw [ht]; exact hat, hS.F ht⟩) hS.2.2 hd hlocks
      · cases hev
    case areturn =>
      simp only [Bool.and_eq_true, decide_eq_true_eq] at hck
      obtain ⟨⟨rfl, rfl⟩, h2⟩ := hck
      split at h2
      · rename_i nm
        split at hev
        · cases hev
          have e1 : cells = mc := by omega
          have e2 : slots = ms := by omega
          subst e1 e2
          exact W.aret hx hb hr (Or.inl ⟨nm, rfl⟩) (Or.inr ⟨_, rfl⟩) (fun t ht _ => ⟨rfl, by rw [ht]; exact hat, hS.F ht⟩) hS.2.2 hd hlocks
        · cases hev
      · cases h2
    case return_ =>
      simp only [decide_eq_true_eq] at hck
      obtain ⟨rfl, rfl, h2⟩ := hck
      split at hev
      · cases hev
        have e1 : cells = mc := by omega
        have e2 : slots = ms := by omega
        subst e1 e2
        exact W.vret hx hb (hr.trans h2) (fun t ht _ => ⟨rfl, by rw [ht]; exact hat, hS.F ht⟩) hS.2.2 hd hlocks
      · cases hev
    case iaload =>
      simp only [decide_eq_true_eq] at hck
      obtain ⟨rfl, rfl⟩ := hck
      obtain ⟨j, a, S', rfl, ⟨n, f, hlt, ha, hin, hk⟩ | ⟨h1, h2, hin, hk⟩⟩ := sr_ia_inv hev
      · have he := sr_w_get (G := G) hlt
        rw [ha] at he
        show W p l e (sr_rm d mc ms) s m args below meth c H locs cells slots _ (F0 m pc ls (.int j :: .ref (sr_ad G a) :: S'.map (sr_v G)))
        rw [sr_ad_lt hat hlt]
        exact va_iald hx hb hkn.1 hat.1 a 0 he rfl hin hd (ih' _ _ _ _ _ _ _ _ hk hLn hlo hat hS hc1 hc2)
      · have e1 : ¬ a < sr_sb := Nat.not_lt.mpr h1
        show W p l e (sr_rm d mc ms) s m args below meth c H locs cells slots _ (F0 m pc ls (.int j :: .ref (sr_ad G a) :: S'.map (sr_v G)))
        rw [show sr_ad G a = G.2.1 (a - sr_sb) from if_neg e1]
        have hj : a - sr_sb < 3 := by
          rcases Nat.lt_or_ge (a - sr_sb) 3 with q | q
          · exact q
          · exfalso
            have h9 : sr_sa (a - sr_sb) = [] := by
              generalize a - sr_sb = b at q
              match b, q with
              | b + 3, _ => rfl
            rw [h9] at hin
            exact hin (Or.inr (Nat.zero_le _))
        exact va_ti hx hb (hkn.2.1 _ hj).2 hS hin rfl hd (ih' _ _ _ _ _ _ _ _ hk hLn hlo hat hS hc1 hc2)
    case baload =>
      simp only [decide_eq_true_eq] at hck
      obtain ⟨rfl, rfl⟩ := hck
      obtain ⟨j, a, S', n, f, rfl, hlt, ha, hin, hk⟩ := sr_za_inv hev
      have he := sr_w_get (G := G) hlt
      rw [ha] at he
      show W p l e (sr_rm d mc ms) s m args below meth c H locs cells slots _ (F0 m pc ls (.int j :: .ref (sr_ad G a) :: S'.map (sr_v G)))
      rw [sr_ad_lt hat hlt]
      exact va_zald hx hb hkn.1 hat.1 a 1 he rfl hin hd (ih' _ _ _ _ _ _ _ _ hk hLn hlo hat hS hc1 hc2)
    case laload =>
      simp only [decide_eq_true_eq] at hck
      obtain ⟨rfl, rfl⟩ := hck
      obtain ⟨j, a, S', n, f, rfl, hlt, ha, hin, hk⟩ := sr_ja_inv hev
      have he := sr_w_get (G := G) hlt
      rw [ha] at he
      show W p l e (sr_rm d mc ms) s m args below meth c H locs cells slots _ (F0 m pc ls (.int j :: .ref (sr_ad G a) :: S'.map (sr_v G)))
      rw [sr_ad_lt hat hlt]
      exact va_lald hx hb hkn.1 hat.1 a 2 he rfl hin hd (ih' _ _ _ _ _ _ _ _ hk hLn hlo hat hS hc1 hc2)
    case arraylength =>
      simp only [decide_eq_true_eq] at hck
      obtain ⟨rfl, rfl⟩ := hck
      obtain ⟨a, S', n, rfl, hlt, ha, hk⟩ := sr_al_inv hev
      have he := sr_w_get (G := G) hlt
      show W p l e (sr_rm d mc ms) s m args below meth c H locs cells slots _ (F0 m pc ls (.ref (sr_ad G a) :: S'.map (sr_v G)))
      rw [sr_ad_lt hat hlt]
      rcases ha with ⟨t, f, ha⟩ | ⟨f, ha⟩
      · rw [ha] at he
        by_cases ht : t = 0
        · subst ht
          exact va_alen (ty := .int) hx hb hkn.1 hat.1 a 0 he rfl rfl hd (ih' _ _ _ _ _ _ _ _ hk hLn hlo hat hS hc1 hc2)
        · rw [show sr_e G (.inl (t, n, f)) = .inl (G.2.2.2.2.1, n, .inl f) by simp [sr_e, ht]] at he
          exact va_alen (ty := .boolean) hx hb hkn.1 hat.1 a 1 he rfl rfl hd (ih' _ _ _ _ _ _ _ _ hk hLn hlo hat hS hc1 hc2)
      · rw [ha] at he
        exact va_alen (ty := .long) hx hb hkn.1 hat.1 a 2 he rfl rfl hd (ih' _ _ _ _ _ _ _ _ hk hLn hlo hat hS hc1 hc2)
    case iastore =>
      simp only [decide_eq_true_eq] at hck
      obtain ⟨rfl, rfl⟩ := hck
      obtain ⟨xx, j, a, S', n, f, rfl, hlt, ha, hin, hk⟩ := sr_is_inv hev
      have he := sr_w_get (G := G) hlt
      rw [ha] at he
      show W p l e (sr_rm d mc ms) s m args below meth c H locs cells slots _ (F0 m pc ls (.int xx :: .int j :: .ref (sr_ad G a) :: S'.map (sr_v G)))
      rw [sr_ad_lt hat hlt]
      refine va_iast hx hb hkn.1 hat.1 (sr_w_D G h) hS a 0 he rfl hin hd (fun H1 locs1 hP1 hD1 hS1 => ?_)
      have h9 := sr_w_set (G := G) (h := h) (k := a) (.inl (0, n, upd f j.toNatClampNeg xx))
      exact ih' _ _ _ _ _ _ _ _ hk hLn hlo ⟨by rw [← h9]; exact hP1, hat.2.1, Nat.le_trans hG hS1.1⟩ hS1 hc1 hc2
    case lastore =>
      simp only [decide_eq_true_eq] at hck
      obtain ⟨rfl, rfl⟩ := hck
      obtain ⟨xx, j, a, S', n, f, rfl, hlt, ha, hin, hk⟩ := sr_js_inv hev
      have he := sr_w_get (G := G) hlt
      rw [ha] at he
      show W p l e (sr_rm d mc ms) s m args below meth c H locs cells slots _ (F0 m pc ls (.long xx :: .int j :: .ref (sr_ad G a) :: S'.map (sr_v G)))
      rw [sr_ad_lt hat hlt]
      refine va_last hx hb hkn.1 hat.1 (sr_w_D G h) hS a 2 he rfl hin hd (fun H1 locs1 hP1 hD1 hS1 => ?_)
      have h9 := sr_w_set (G := G) (h := h) (k := a) (.inr (.inl (n, vp_updL f j.toNatClampNeg xx)))
      exact ih' _ _ _ _ _ _ _ _ hk hLn hlo ⟨by rw [← h9]; exact hP1, hat.2.1, Nat.le_trans hG hS1.1⟩ hS1 hc1 hc2
    case bastore =>
      simp only [decide_eq_true_eq] at hck
      obtain ⟨rfl, rfl⟩ := hck
      obtain ⟨xx, j, a, S', n, f, rfl, hlt, hxx, ha, hin, hk⟩ := sr_zs_inv hev
      have he := sr_w_get (G := G) hlt
      rw [ha] at he
      show W p l e (sr_rm d mc ms) s m args below meth c H locs cells slots _ (F0 m pc ls (.int xx :: .int j :: .ref (sr_ad G a) :: S'.map (sr_v G)))
      rw [sr_ad_lt hat hlt]
      refine va_zast hx hb hkn.1 hat.1 (sr_w_D G h) hS a 1 he rfl hin hd (fun H1 locs1 hP1 hD1 hS1 => ?_)
      have h8 : vp_nar .boolean xx = xx := by rcases hxx with rfl | rfl <;> decide
      rw [h8] at hP1
      have h9 := sr_w_set (G := G) (h := h) (k := a) (.inl (1, n, upd f j.toNatClampNeg xx))
      exact ih' _ _ _ _ _ _ _ _ hk hLn hlo ⟨by rw [← h9]; exact hP1, hat.2.1, Nat.le_trans hG hS1.1⟩ hS1 hc1 hc2
    case getfield =>
      split at hck
      · simp only [Bool.and_eq_true, decide_eq_true_eq] at hck
        obtain ⟨rfl, h2⟩ := hck
        obtain ⟨q, hq, h3⟩ := sr_any_inv h2
        simp only [decide_eq_true_eq] at h3
        obtain ⟨rfl, rfl⟩ := h3
        have hev : sr_go K (sr_gf q.2.1 q.2.2.1 L S h) = some (r, h') := hev
        obtain ⟨a, S', fs, v, rfl, ha, hlt, hv, hk⟩ := sr_gf_inv hev
        obtain ⟨⟨CC, TT, NN⟩, hq1, hq2, hq3⟩ := hT.1 own q hq
        have he := sr_w_get (G := G) hlt
        rw [ha] at he
        show W p l e (sr_rm d mc ms) s m args below meth c H locs cells slots _ (F0 m pc ls (.ref (sr_ad G a) :: S'.map (sr_v G)))
        rw [sr_ad_lt hat hlt]
        exact va_get (Ts := sr_tb) hx hb hts (hT.2.1 _ _ hq1).1 hown hkn.1 hat.1 a he hq1 q.2.2.1 hq2 (hts _ hq3) (fun _ h9 => h9) (by rw [List.getElem?_map]; exact congrArg (Option.map (sr_v G)) hv) hd (ih' _ _ _ _ _ _ _ _ hk hLn hlo hat hS hc1 hc2)
      · cases hck
    case putfield =>
      split at hck
      · simp only [Bool.and_eq_true, decide_eq_true_eq] at hck
        obtain ⟨rfl, h2⟩ := hck
        obtain ⟨q, hq, h3⟩ := sr_any_inv h2
        simp only [decide_eq_true_eq] at h3
        obtain ⟨rfl, rfl, h4⟩ := h3
        have hev : sr_go K (sr_pf q.2.1 q.2.2.1 (sr_ft q.2.1 q.2.2.1) L S h) = some (r, h') := hev
        obtain ⟨a, S', fs, v, rfl, ha, hlt, hkl, hok, hk⟩ := sr_pf_inv hev
        obtain ⟨⟨CC, TT, NN⟩, hq1, hq2, hq3⟩ := hT.1 own q hq
        obtain ⟨c1, c2, c3, c4, c5, c6, c7⟩ := hT.2.1 _ _ hq1
        obtain ⟨ty, d1, d2, d3, d4, d5⟩ := c7 _ hq2
        obtain ⟨f1, f2⟩ := sr_tym_ok G d2 hok
        have he := sr_w_get (G := G) hlt
        rw [ha] at he
        show W p l e (sr_rm d mc ms) s m args below meth c H locs cells slots _ (F0 m pc ls (sr_v G v :: .ref (sr_ad G a) :: S'.map (sr_v G)))
        rw [sr_ad_lt hat hlt]
        have h9 := sr_w_set (G := G) (h := h) (k := a) (.inr (.inr (q.2.1, fs.set q.2.2.1 v)))
        have h10 : sr_e G (.inr (.inr (q.2.1, fs.set q.2.2.1 v))) = .inr (q.2.1, (fs.map (sr_v G)).set q.2.2.1 (sr_v G v)) := by
          simp only [sr_e, List.map_set]
        rw [h10] at h9
        by_cases hfin : (TT q.2.2.1).2.2.2 = true
        · obtain ⟨i1, i2⟩ := h4 (d3.trans hfin)
          refine va_putF (Ts := sr_tb) hx hb hts c1 (fun k => (parseFieldDescriptor (TT k).2.2.1).getD .int) (fun k hk => by obtain ⟨t1, t2, -⟩ := c7 k hk; dsimp only at t2 ⊢; rw [t2]; rfl) c4 hown hkn.1 hat.1 (sr_w_D G h) hS a he hq1 q.2.2.1 hq2 (hts _ hq3) (fun _ h9 => h9) hfin (hin i1) (d4.trans (c6 own i2).symm) d1 f1 f2 (by rw [List.length_map]; exact hkl) hd (fun H1 locs1 hP1 hD1 hS1 => ?_)
          exact ih' _ _ _ _ _ _ _ _ hk hLn hlo ⟨by rw [← h9]; exact hP1, hat.2.1, Nat.le_trans hG hS1.1⟩ hS1 hc1 hc2
        · refine va_put (Ts := sr_tb) hx hb hts c1 (fun k => (parseFieldDescriptor (TT k).2.2.1).getD .int) (fun k hk => by obtain ⟨t1, t2, -⟩ := c7 k hk; dsimp only at t2 ⊢; rw [t2]; rfl) c4 hown hkn.1 hat.1 (sr_w_D G h) hS a he hq1 q.2.2.1 hq2 (hts _ hq3) (fun _ h9 => h9) (by simpa using hfin) d1 f1 f2 (by rw [List.length_map]; exact hkl) hd (fun H1 locs1 hP1 hD1 hS1 => ?_)
          exact ih' _ _ _ _ _ _ _ _ hk hLn hlo ⟨by rw [← h9]; exact hP1, hat.2.1, Nat.le_trans hG hS1.1⟩ hS1 hc1 hc2
      · cases hck
    case getstatic =>
      obtain ⟨L1, S1, h1, e1, hk⟩ := sr_go_inv hev
      cases e1
      split at hck
      · simp only [Bool.and_eq_true, decide_eq_true_eq] at hck
        obtain ⟨rfl, h2⟩ := hck
        obtain ⟨q, hq, h3⟩ := sr_any_inv h2
        simp only [decide_eq_true_eq] at h3
        obtain ⟨rfl, rfl⟩ := h3
        obtain ⟨h4, h5⟩ := hT.2.2.1 own q hq
        refine va_gets hx hb (hkn.2.1 _ h4).1 hS hown (hts _ h5) (fun _ h9 => h9) hd ?_
        have h8 := ih' _ _ _ _ _ _ _ _ hk hLn hlo hat hS hc1 hc2
        have h9 : sr_ad G (sr_sb + q.2.1) = G.2.1 q.2.1 := by
          rw [sr_ad, if_neg (by omega), Nat.add_sub_cancel_left]
        rw [← h9]
        exact h8
      · cases hck
    case new =>
      split at hck
      · simp only [Bool.and_eq_true, decide_eq_true_eq] at hck
        obtain ⟨rfl, h2⟩ := hck
        obtain ⟨q, hq, h3⟩ := sr_any_inv h2
        simp only [decide_eq_true_eq] at h3
        obtain ⟨rfl, rfl⟩ := h3
        have hev : sr_go K (sr_nw q.2.1 (sr_df q.2.1) L S h) = some (r, h') := hev
        obtain ⟨hmx, hk⟩ := sr_nw_inv hev
        obtain ⟨⟨CC, TT, NN⟩, hq1, hq2⟩ := hT.2.2.2.2.2.2.1 own q hq
        obtain ⟨c1, c2, c3, c4, c5, c6, c7⟩ := hT.2.1 _ _ hq1
        dsimp only at c1 c2 c3 c4 c5 c6 c7 hq2
        have hle := hKl _ _ _ _ _ hk
        have hle1 : h.1.1 + 1 ≤ h'.1.1 := hle.1
        have hle2 : h.1.2 + NN ≤ h'.1.2 := by rw [← c5]; exact hle.2
        refine va_new (Ts := sr_tb) (ci := q.2.1) (fs := (sr_df q.2.1).map (sr_v G)) hx hb hts c1 (fun k => (parseFieldDescriptor (TT k).2.2.1).getD .int) (fun k hk => by obtain ⟨t1, t2, -⟩ := c7 k hk; rw [t2]; rfl) hown (hts _ hq2) (hts _ c2) (hts _ c3) hkn.1 hat.1 (sr_w_D G h) hS (fun q hq => Nat.le_trans hG hq) hq1 (fun j hj => ?_) (by show cells + 1 ≤ mc; omega) (by show slots + NN ≤ ms; omega) hd (fun q1 H1 hP1 hD1 hS1 => ?_)
        · obtain ⟨t1, t2, -, -, -, t3⟩ := c7 j hj
          rw [t2, vp_V, List.getD_eq_getElem?_getD, List.getElem?_map, t3]
          show defaultValue t1 = sr_v G (defaultValue t1)
          cases t1 <;> rfl
        · refine sr_peek (fun hpk => ?_)
          have hq1e : q1 = G.1 + h.1.1 := sr_addr hD1 hP1 (by rw [h0s (by omega)] at hpk; omega)
          subst hq1e
          have h9 := sr_w_app (G := G) (h := h) (h.1.2 + (sr_df q.2.1).length) (.inr (.inr (q.2.1, sr_df q.2.1)))
          have h10 : sr_ad G h.1.1 = G.1 + h.1.1 := if_pos (by have : sr_mx < sr_sb := Nat.le_of_ble_eq_true rfl; omega)
          have h11 := ih' _ _ _ ls H1 locs (cells + 1) (slots + NN) hk hLn hlo ⟨by rw [← h9]; exact hP1, hmx, Nat.le_trans hG hS1.1⟩ hS1 (by show _ = h.1.1 + 1; omega) (by show _ = h.1.2 + (sr_df q.2.1).length; rw [c5]; omega)
          rw [← h10]
          exact h11
      · cases hck
    case newarray =>
      simp only [decide_eq_true_eq] at hck
      obtain ⟨rfl, rfl⟩ := hck
      obtain ⟨L1, S1, h1, e1, hk⟩ := sr_go_inv hev
      unfold sr_na at e1
      split at e1
      · rename_i n S0
        split at e1
        · rename_i hc
          obtain ⟨hmx, hn0, hn1⟩ := hc
          have hle := hKl _ _ _ _ _ hk
          have key : ∀ (ty : FieldType) (k : Nat) (cA : ClassId), (sr_tys G)[k]? = some (cA, ty) → ∀ (cA' : ClassId) (tys : List (ClassId × FieldType)), va_K G.2.2.1 vwCl (sr_tys G ++ [(cA', ty)]) s → ty = .int ∨ ty = .boolean ∨ ty = .long → cA' = cA := by
            intro ty k cA hk1 cA' tys hK2 hty
            have g1 := (hkn.1.2 k _ hk1).2
            have g2 := (hK2.2 3 (cA', ty) rfl).2
            rcases hty with rfl | rfl | rfl <;> exact Option.some.inj (g2.symm.trans g1)
          split at e1
          all_goals first
            | (cases e1; done)
            | skip
          · cases e1
            refine va_newa (atype := .int) (a0 := (n.toNatClampNeg, .inl fun _ => 0)) hx hb (hts _ hT.2.2.2.2.2.2.2.2.2.1.2.2.2.2.2.2.2.2.2.2.2.2.2.1) rfl hkn.1 hat.1 (sr_w_D G h) hS (fun q hq => Nat.le_trans hG hq) (fun _ => rfl) hn0 rfl (Nat.le_trans (Nat.mul_le_mul_right _ hn1) (by decide)) (by show cells + 1 ≤ mc; have := hle.1; dsimp only at this; omega) (by show slots + _ ≤ ms; have := hle.2; dsimp only at this; omega) hd (fun q1 cA H1 hK1 hP1 hD1 hS1 => ?_)
            have hcA := key .int 0 _ rfl cA [] hK1 (Or.inl rfl)
            subst hcA
            refine sr_peek (fun hpk => ?_)
            have hq1e : q1 = G.1 + h.1.1 := sr_addr hD1 hP1 (by rw [h0s (by omega)] at hpk; omega)
            subst hq1e
            have h9 := sr_w_app (G := G) (h := h) (h.1.2 + n.toNatClampNeg) (.inl (0, n.toNatClampNeg, fun _ => 0))
            have h10 : sr_ad G h.1.1 = G.1 + h.1.1 := if_pos (by have : sr_mx < sr_sb := Nat.le_of_ble_eq_true rfl; omega)
            have h11 := ih' _ _ _ ls H1 locs (cells + 1) (slots + n.toNatClampNeg) hk hLn hlo ⟨by rw [← h9]; exact hP1, hmx, Nat.le_trans hG hS1.1⟩ hS1 (by show _ = h.1.1 + 1; omega) (by show _ = h.1.2 + n.toNatClampNeg; omega)
            rw [← h10]
            exact h11
          · cases e1
            refine va_newa (atype := .boolean) (a0 := (n.toNatClampNeg, .inl fun _ => 0)) hx hb (hts _ hT.2.2.2.2.2.2.2.2.2.1.2.2.2.2.2.2.2.2.2.2.2.2.2.2.1) rfl hkn.1 hat.1 (sr_w_D G h) hS (fun q hq => Nat.le_trans hG hq) (fun _ => rfl) hn0 rfl (Nat.le_trans (Nat.mul_le_mul_right _ hn1) (by decide)) (by show cells + 1 ≤ mc; have := hle.1; dsimp only at this; omega) (by show slots + _ ≤ ms; have := hle.2; dsimp only at this; omega) hd (fun q1 cA H1 hK1 hP1 hD1 hS1 => ?_)
            have hcA := key .boolean 1 _ rfl cA [] hK1 (Or.inr (Or.inl rfl))
            subst hcA
            refine sr_peek (fun hpk => ?_)
            have hq1e : q1 = G.1 + h.1.1 := sr_addr hD1 hP1 (by rw [h0s (by omega)] at hpk; omega)
            subst hq1e
            have h9 := sr_w_app (G := G) (h := h) (h.1.2 + n.toNatClampNeg) (.inl (1, n.toNatClampNeg, fun _ => 0))
            have h10 : sr_ad G h.1.1 = G.1 + h.1.1 := if_pos (by have : sr_mx < sr_sb := Nat.le_of_ble_eq_true rfl; omega)
            have h11 := ih' _ _ _ ls H1 locs (cells + 1) (slots + n.toNatClampNeg) hk hLn hlo ⟨by rw [← h9]; exact hP1, hmx, Nat.le_trans hG hS1.1⟩ hS1 (by show _ = h.1.1 + 1; omega) (by show _ = h.1.2 + n.toNatClampNeg; omega)
            rw [← h10]
            exact h11
          · cases e1
            refine va_newa (atype := .long) (a0 := (n.toNatClampNeg, .inr (.inl fun _ => 0))) hx hb (hts _ hT.2.2.2.2.2.2.2.2.2.1.2.2.2.2.2.2.2.2.2.2.2.2.2.2.2) rfl hkn.1 hat.1 (sr_w_D G h) hS (fun q hq => Nat.le_trans hG hq) (fun _ => rfl) hn0 rfl (Nat.le_trans (Nat.mul_le_mul_right _ hn1) (by decide)) (by show cells + 1 ≤ mc; have := hle.1; dsimp only at this; omega) (by show slots + _ ≤ ms; have := hle.2; dsimp only at this; omega) hd (fun q1 cA H1 hK1 hP1 hD1 hS1 => ?_)
            have hcA := key .long 2 _ rfl cA [] hK1 (Or.inr (Or.inr rfl))
            subst hcA
            refine sr_peek (fun hpk => ?_)
            have hq1e : q1 = G.1 + h.1.1 := sr_addr hD1 hP1 (by rw [h0s (by omega)] at hpk; omega)
            subst hq1e
            have h9 := sr_w_app (G := G) (h := h) (h.1.2 + n.toNatClampNeg) (.inr (.inl (n.toNatClampNeg, fun _ => 0)))
            have h10 : sr_ad G h.1.1 = G.1 + h.1.1 := if_pos (by have : sr_mx < sr_sb := Nat.le_of_ble_eq_true rfl; omega)
            have h11 := ih' _ _ _ ls H1 locs (cells + 1) (slots + n.toNatClampNeg) hk hLn hlo ⟨by rw [← h9]; exact hP1, hmx, Nat.le_trans hG hS1.1⟩ hS1 (by show _ = h.1.1 + 1; omega) (by show _ = h.1.2 + n.toNatClampNeg; omega)
            rw [← h10]
            exact h11
        · cases e1
      · cases e1
    case invokevirtual =>
      split at hck
      · simp only [Bool.and_eq_true, Bool.or_eq_true, decide_eq_true_eq] at hck
        obtain ⟨rfl, h2 | h2⟩ := hck
        · obtain ⟨q, hq, h3⟩ := sr_any_inv h2
          simp only [decide_eq_true_eq] at h3
          obtain ⟨rfl, rfl, h4⟩ := h3
          exact sr_bivV hT hx hb hml hown hts hkn M7 M8 (hT.2.2.2.2.2.2.2.1 own q hq) h4 hev hLn hlo hS hKl (by omega) (by omega) hc1 hc2 hd (fun S' hk => ih' _ _ _ _ _ _ _ _ hk hLn hlo hat hS hc1 hc2)
        · obtain ⟨q, hq, h3⟩ := sr_any_inv h2
          simp only [decide_eq_true_eq] at h3
          obtain ⟨rfl, rfl, h4, h5⟩ := h3
          obtain ⟨g1, g2, -⟩ := hT.2.2.2.2.2.2.2.2.1 own q hq
          have hev : sr_cl C q.2.1 (sr_np q.2.1 + 1) (sr_io (sr_mc q.2.1)) K L S h = some (r, h') := hev
          obtain ⟨as, S', rr, hh', e0, hz, hal, hio, hCc, hk⟩ := sr_cl_inv hev
          obtain ⟨TT, rfl, hTl, hTas⟩ := sr_pop_eq _ _ _ _ _ e0
          obtain ⟨a, as', fs, rfl, hlt, ha⟩ := sr_io_inv hio
          obtain ⟨d', rfl, hM⟩ := hC _ _ _ _ _ hCc g1 hal
          obtain ⟨k1, k2, k3, k4, k5, k6, k7, -, -⟩ := hT.2.2.2.2.2.2.2.2.2.2.1 q.2.1 g1
          obtain ⟨k8, k9, qc, k10, k11⟩ := k7 h5
          have he := sr_w_get (G := G) hlt
          rw [ha] at he
          have hle := hKl _ _ _ _ _ hk
          have hle' := hCl _ _ _ _ _ hCc
          have had := sr_ad_lt hat hlt
          rw [List.append_nil] at hTas
          have hTT : TT = as'.reverse ++ [.ref a] := by rw [← List.reverse_reverse TT, ← hTas]; simp
          have hnn : (as'.map (sr_v G)).length = sr_np q.2.1 := by
            rw [List.length_map]
            have : (Value.ref a :: as').length = TT.length := by rw [hTas]; simp
            rw [hTl] at this
            simpa using this
          refine sr_peek (fun hpk => ?_)
          have hrun : va_Run p l e (sr_rm (d' + 1) mc ms) s m args below meth c H locs cells slots (hh'.1.1 - h.1.1) (hh'.1.2 - h.1.2) (F0 m pc ls ((TT ++ S').map (sr_v G))) (S'.map (sr_v G)) (sr_Q G rr hh' (Value.ref (G.1 + a) :: as'.map (sr_v G)).toArray) (sr_A G) :=
            va_runV (Ts := sr_tb) (C := (sr_y q.2.1).cls) ⟨hx, hb, hml, hown, hts⟩ hM ⟨callB_of (sr_np q.2.1) hts (sr_ws_in hT g1) rfl rfl rfl (hts _ k6) (hts _ (g2 h4)) k3 ⟨Nat.le_refl _, by show 8 + (sr_ml q.2.1 + 11) + 60 * d' ≤ 60 * (d' + 1); omega⟩, hts _ k8, hts _ k9⟩
              ⟨sr_P_blind G _ _, by rw [← k11]; exact va_recv hkn.1 hat.1 k10 he, fun U hU hW => ⟨by rw [← had]; rfl, by rw [hU]; exact hat, fun hm => by rw [hU]; exact sr_size hat hpk h0s hc1 hm, hkn.go hS hU hW⟩⟩ rfl hnn (hlo.1.trans hLn) (by rw [hTT, ← had]; simp [sr_v]) (lv_room (by rw [sr_sz_map]; exact hz)) hd ⟨by show cells + _ ≤ mc; have := hle.1; have := hle'.1; omega, by show slots + _ ≤ ms; have := hle.2; have := hle'.2; omega⟩
          refine sr_call hrun (fun _ h => h) hS (fun H1 locs1 hat1 hS1 => ?_)
          have h11 := ih' _ _ _ ls H1 locs1 (cells + (hh'.1.1 - h.1.1)) (slots + (hh'.1.2 - h.1.2)) hk hLn hlo hat1 hS1 (by have := hle'.1; omega) (by have := hle'.2; omega)
          rw [sr_ret_map] at h11
          exact h11
      · cases hck
    case invokestatic =>
      split at hck
      · simp only [Bool.and_eq_true, Bool.or_eq_true, decide_eq_true_eq] at hck
        obtain ⟨rfl, h2 | h2⟩ := hck
        · obtain ⟨q, hq, h3⟩ := sr_any_inv h2
          simp only [decide_eq_true_eq] at h3
          obtain ⟨rfl, rfl, h4⟩ := h3
          exact sr_bivS hT hx hb hml hown hts hkn (hT.2.2.2.2.2.2.2.1 own q hq) h4 hev hG hLn hlo hat hS hKl (by omega) (by omega) hc1 hc2 hd (fun S' h1 H1 locs1 hk hat1 hS1 e1 e2 => ih' _ _ _ _ _ _ _ _ hk hLn hlo hat1 hS1 e1 e2)
        · obtain ⟨q, hq, h3⟩ := sr_any_inv h2
          simp only [decide_eq_true_eq] at h3
          obtain ⟨rfl, rfl, h4, h5⟩ := h3
          obtain ⟨g1, g2, -⟩ := hT.2.2.2.2.2.2.2.2.1 own q hq
          have hev : sr_cl C q.2.1 (sr_np q.2.1) (fun _ _ => true) K L S h = some (r, h') := hev
          obtain ⟨as, S', rr, hh', e0, hz, hal, -, hCc, hk⟩ := sr_cl_inv hev
          obtain ⟨TT, rfl, hTl, hTas⟩ := sr_pop_eq _ _ _ _ _ e0
          obtain ⟨d', rfl, hM⟩ := hC _ _ _ _ _ hCc g1 hal
          obtain ⟨k1, k2, k3, k4, k5, k6, -, k7, -⟩ := hT.2.2.2.2.2.2.2.2.2.2.1 q.2.1 g1
          have hle := hKl _ _ _ _ _ hk
          have hle' := hCl _ _ _ _ _ hCc
          rw [List.append_nil] at hTas
          have hTT : TT = as.reverse := by rw [hTas]; simp
          refine sr_peek (fun hpk => ?_)
          have hrun : va_Run p l e (sr_rm (d' + 1) mc ms) s m args below meth c H locs cells slots (hh'.1.1 - h.1.1) (hh'.1.2 - h.1.2) (F0 m pc ls ((TT ++ S').map (sr_v G))) (S'.map (sr_v G)) (sr_Q G rr hh' (as.map (sr_v G)).toArray) (sr_A G) :=
            va_runS (Ts := sr_tb) ⟨hx, hb, hml, hown, hts⟩ hM ⟨callB_of (sr_np q.2.1) hts (sr_ws_in hT g1) rfl rfl rfl (hts _ k6) (hts _ (g2 h4)) k3 ⟨Nat.le_refl _, by show 8 + (sr_ml q.2.1 + 11) + 60 * d' ≤ 60 * (d' + 1); omega⟩, hts _ (k7 h5)⟩
              ⟨sr_P_blind G _ _, fun U hU hW => ⟨rfl, by rw [hU]; exact hat, fun hm => by rw [hU]; exact sr_size hat hpk h0s hc1 hm, hkn.go hS hU hW⟩⟩ rfl (by rw [List.length_map, hTas, List.length_reverse, hTl]) (hlo.1.trans hLn) (by rw [hTT]; simp) (lv_room (by rw [sr_sz_map]; exact hz)) hd ⟨by show cells + _ ≤ mc; have := hle.1; have := hle'.1; omega, by show slots + _ ≤ ms; have := hle.2; have := hle'.2; omega⟩
          refine sr_call hrun (fun _ h => h) hS (fun H1 locs1 hat1 hS1 => ?_)
          have h11 := ih' _ _ _ ls H1 locs1 (cells + (hh'.1.1 - h.1.1)) (slots + (hh'.1.2 - h.1.2)) hk hLn hlo hat1 hS1 (by have := hle'.1; omega) (by have := hle'.2; omega)
          rw [sr_ret_map] at h11
          exact h11
      · cases hck
    case invokespecial =>
      split at hck
      · simp only [Bool.and_eq_true, Bool.or_eq_true, decide_eq_true_eq] at hck
        obtain ⟨rfl, h2 | h2⟩ := hck
        · obtain ⟨q, hq, h3⟩ := sr_any_inv h2
          simp only [decide_eq_true_eq] at h3
          obtain ⟨rfl, rfl, h4⟩ := h3
          have hlk := hT.2.2.2.2.2.2.2.1 own q hq
          rw [h4] at hlk hev
          simp only [sr_iv] at hev
          split at hev
          · rename_i hB
            simp only [decide_eq_true_eq] at hB
            simp only [sr_bi] at hev
            obtain ⟨L1, S1, h1, e1, hk⟩ := sr_go_inv hev
            split at e1
            · rename_i a S0
              cases e1
              have hz : sr_sz S1 ≤ 9 := Nat.le_trans (Nat.le_add_left _ _) hB.2
              refine W.objInit hx hb hown (hts _ hlk) (hts _ hT.2.2.2.2.2.2.2.2.2.1.2.2.2.2.2.2.2.2.2.2.2.1) (hts _ hT.2.2.2.2.2.2.2.2.2.1.2.2.2.2.2.2.2.2.2.2.2.2.1) rfl (by rw [hml]; exact hlo.1.trans hLn) (a := sr_ad G a) (rest := S1.map (sr_v G)) rfl hd (by show 1 ≤ d; omega) (by show 2 * 0 + _ + 12 ≤ 60 * d; rw [sr_sz_map]; omega) ?_
              exact ih' _ _ _ _ _ _ _ _ hk hLn hlo hat hS hc1 hc2
            · cases e1
          · cases hev
        · obtain ⟨q, hq, h3⟩ := sr_any_inv h2
          simp only [decide_eq_true_eq] at h3
          obtain ⟨rfl, rfl, h5⟩ := h3
          obtain ⟨g1, g2, g3⟩ := hT.2.2.2.2.2.2.2.2.1 own q hq
          have hev : sr_cl C q.2.1 (sr_np q.2.1 + 1) (sr_io (sr_mc q.2.1)) K L S h = some (r, h') := hev
          obtain ⟨as, S', rr, hh', e0, hz, hal, hio, hCc, hk⟩ := sr_cl_inv hev
          obtain ⟨TT, rfl, hTl, hTas⟩ := sr_pop_eq _ _ _ _ _ e0
          obtain ⟨a, as', fs, rfl, hlt, ha⟩ := sr_io_inv hio
          obtain ⟨d', rfl, hM⟩ := hC _ _ _ _ _ hCc g1 hal
          obtain ⟨k1, k2, k3, k4, k5, k6, -, -, k7⟩ := hT.2.2.2.2.2.2.2.2.2.2.1 q.2.1 g1
          obtain ⟨k8, k9, k10⟩ := k7 h5
          have hle := hKl _ _ _ _ _ hk
          have hle' := hCl _ _ _ _ _ hCc
          have had := sr_ad_lt hat hlt
          rw [List.append_nil] at hTas
          have hTT : TT = as'.reverse ++ [.ref a] := by rw [← List.reverse_reverse TT, ← hTas]; simp
          have hwsE : sr_ws q.2.1 = Cond.code (sr_y q.2.1) (sr_by q.2.1) (sr_ml q.2.1) none :: sr_tb := by rw [sr_ws, k10]
          have hnn : (as'.map (sr_v G)).length = sr_np q.2.1 := by
            rw [List.length_map]
            have : (Value.ref a :: as').length = TT.length := by rw [hTas]; simp
            rw [hTl] at this
            simpa using this
          refine sr_peek (fun hpk => ?_)
          have hpre : PreS s H (sr_P G (.ref a :: as') h) (.ref (G.1 + a) :: as'.map (sr_v G)) := ⟨sr_P_blind G _ _, fun U hU hW => ⟨by rw [← had]; rfl, by rw [hU]; exact hat, fun hm => by rw [hU]; exact sr_size hat hpk h0s hc1 hm, hkn.go hS hU hW⟩⟩
          have hrun : va_Run p l e (sr_rm (d' + 1) mc ms) s m args below meth c H locs cells slots (hh'.1.1 - h.1.1) (hh'.1.2 - h.1.2) (F0 m pc ls ((TT ++ S').map (sr_v G))) (S'.map (sr_v G)) (sr_Q G rr hh' (Value.ref (G.1 + a) :: as'.map (sr_v G)).toArray) (sr_A G) := by
            rcases g3 with g3 | g3
            · exact va_runI (Ts := sr_tb) ⟨hx, hb, hml, hown, hts⟩ hM ⟨callB_of (sr_np q.2.1) hts (sr_ws_in hT g1) hwsE rfl rfl (hts _ k6) (hts _ (g2 g3)) k3 ⟨Nat.le_refl _, by show 8 + (sr_ml q.2.1 + 11) + 60 * d' ≤ 60 * (d' + 1); omega⟩, k9, hts _ k8⟩ hpre rfl hnn (hlo.1.trans hLn) (by rw [hTT, ← had]; simp [sr_v]) (lv_room (by rw [sr_sz_map]; exact hz)) hd ⟨by show cells + _ ≤ mc; have := hle.1; have := hle'.1; omega, by show slots + _ ≤ ms; have := hle.2; have := hle'.2; omega⟩
            · exact va_runIN (Ts := sr_tb) ⟨hx, hb, hml, hown, hts⟩ hM ⟨va_cnB (sr_np q.2.1) hts (sr_ws_in hT g1) hwsE rfl rfl (hkn.2.2.2.2.2.2 own q hq g3) (hts _ k6) k3 ⟨Nat.le_refl _, by show 8 + (sr_ml q.2.1 + 11) + 60 * d' ≤ 60 * (d' + 1); omega⟩, k9, hts _ k8⟩ hpre rfl hnn (hlo.1.trans hLn) (by rw [hTT, ← had]; simp [sr_v]) (lv_room (by rw [sr_sz_map]; exact hz)) hd ⟨by show cells + _ ≤ mc; have := hle.1; have := hle'.1; omega, by show slots + _ ≤ ms; have := hle.2; have := hle'.2; omega⟩
          refine sr_call hrun (fun _ h => h) hS (fun H1 locs1 hat1 hS1 => ?_)
          have h11 := ih' _ _ _ ls H1 locs1 (cells + (hh'.1.1 - h.1.1)) (slots + (hh'.1.2 - h.1.2)) hk hLn hlo hat1 hS1 (by have := hle'.1; omega) (by have := hle'.2; omega)
          rw [sr_ret_map] at h11
          exact h11
      · cases hck
    case nop => exact absurd rfl hn
