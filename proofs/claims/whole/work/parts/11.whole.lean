/-! A method: what the small machine answers, its contract says. -/
theorem sr_ms_len : ∀ (bs : List Bool) (L : List Value), bs.length = L.length → (sr_ms bs L).length = L.length
  | [], [], _ => rfl
  | [], _ :: _, h => by cases h
  | _ :: _, [], h => by cases h
  | b :: bs, v :: L, h => by
    have := sr_ms_len bs L (by simpa using h)
    cases b <;> simp [sr_ms, this]
theorem sr_ar_cons (a : Value) (as : List Value) : sr_ar (a :: as) = if a.category = 2 then a :: sr_U :: sr_ar as else a :: sr_ar as := by cases a <;> rfl
theorem sr_v_cat {G : sr_G} (a : Value) : (sr_v G a).category = a.category := by cases a <;> rfl
theorem sr_cv_v {G : sr_G} {a w : Value} (h : sr_cv G a = some w) : w = sr_v G a := by
  cases a <;> simp only [sr_cv, Option.some.injEq, reduceCtorEq] at h <;> exact h.symm
theorem sr_ar_len {G : sr_G} : ∀ as : List Value, (lg_sl (as.map (sr_v G))).length = (sr_ar as).length
  | [] => rfl
  | v :: as => by
    have h := sr_ar_len (G := G) as
    have e : lg_sl ((v :: as).map (sr_v G)) = (if v.category = 2 then [.val (sr_v G v), .second] else [.val (sr_v G v)]) ++ lg_sl (as.map (sr_v G)) := by
      simp only [lg_sl, List.map_cons, List.flatMap_cons, sr_v_cat]
    rw [e, sr_ar_cons, List.length_append, h]
    split
    · show 2 + _ = _ + 1 + 1
      omega
    · show 1 + _ = _ + 1
      omega
theorem sr_ar_args {G : sr_G} : ∀ (as : List Value) (o i : Nat) (v w : Value), (sr_ar as)[i]? = some v → sr_cv G v = some w → (o + i, w) ∈ lv_args o (as.map (sr_v G))
  | [], o, i, v, w, h, _ => by cases h
  | a :: as, o, i, v, w, h, hw => by
    rw [sr_ar_cons] at h
    simp only [List.map_cons, lv_args, sr_v_cat]
    by_cases hc : a.category = 2
    · rw [if_pos hc] at h ⊢
      match i, h with
      | 0, h =>
        cases h
        rw [sr_cv_v hw]
        exact List.mem_cons_self
      | 1, h =>
        cases h
        cases hw
      | i + 2, h =>
        have := sr_ar_args as (o + 2) i v w h hw
        refine List.mem_cons_of_mem _ ?_
        rw [show o + (i + 2) = o + 2 + i by omega]
        exact this
    · rw [if_neg hc] at h ⊢
      match i, h with
      | 0, h =>
        cases h
        rw [sr_cv_v hw]
        exact List.mem_cons_self
      | i + 1, h =>
        have := sr_ar_args as (o + 1) i v w h hw
        refine List.mem_cons_of_mem _ ?_
        rw [show o + (i + 1) = o + 1 + i by omega]
        exact this
theorem sr_in_len {n : Nat} {as : List Value} (h : (sr_ar as).length ≤ n) : (sr_in n as).length = n := by
  simp only [sr_in, List.length_append, List.length_replicate]
  omega
theorem sr_in_lo {G : sr_G} {n : Nat} {as : List Value} (h : (sr_ar as).length ≤ n) : sr_lo G ((lg_sl (as.map (sr_v G)) ++ List.replicate (n - (lg_sl (as.map (sr_v G))).length) Slot.unset).toArray) (sr_in n as) := by
  have h1 := lv_entry (as.map (sr_v G)) (n := n) (by rw [sr_ar_len]; exact h)
  refine ⟨by rw [sr_in_len h]; exact h1.1, h1.2.1, fun q hq => h1.2.2 q ?_⟩
  obtain ⟨v, hv, hw⟩ := sr_ll_mem.mp hq
  unfold sr_in at hv
  by_cases hi : q.1 < (sr_ar as).length
  · rw [List.getElem?_append_left hi] at hv
    have := sr_ar_args as 0 q.1 v q.2 hv hw
    rw [Nat.zero_add] at this
    exact this
  · rw [List.getElem?_append_right (by omega)] at hv
    have h2 := List.mem_of_getElem? hv
    rw [List.mem_replicate] at h2
    rw [h2.2] at hw
    cases hw
set_option maxHeartbeats 4000000 in
theorem sr_snd (hT : sr_TF) {l : Launch} {G : sr_G} (M7 : sr_M7 l G) (M8 : sr_M8 l G) : ∀ (n d mid : Nat) (as : List Value) (h : sr_H) (r : Option Value) (h' : sr_H), mid < 298 → (sr_ar as).length ≤ sr_ml mid → sr_cf n (d + 1) mid as h = some (r, h') →
    Met l (sr_y mid) (sr_ws mid) (sr_rm d (h'.1.1 - h.1.1) (h'.1.2 - h.1.2)) (sr_P G as h) (sr_Q G r h') (h'.1.1 - h.1.1) (h'.1.2 - h.1.2) (sr_A G) := by
  intro n
  induction n using Nat.strongRecOn with
  | ind n IH =>
    intro d mid as h r h' hm hal hev
    have hle := sr_cf_le _ _ _ _ _ _ _ hev
    obtain ⟨k1, k2, k3, k4, k5, k6, k7, k8, k9⟩ := hT.2.2.2.2.2.2.2.2.2.2.1 mid hm
    refine Met.ofW (cc := sr_by mid) (maxL := sr_ml mid) (ret := sr_rt mid) k2 rfl ?_
    intro p e s m args below meth c s₁ B hml hv
    obtain ⟨rfl, hat, hsz, hkn⟩ := hv
    have hts0 := atoms_spec (ws := sr_ws mid) B.pre
    have hown0 : s.vm.findClass (sr_y mid).cls = some m.cls := findClass_of_methodNamed B.named
    have X : sr_cxt p (headSpec (sr_ws mid) (sr_rm d (h'.1.1 - h.1.1) (h'.1.2 - h.1.2))).room s m ((as.map (sr_v G)).toArray) meth c G (sr_mo mid) (sr_by mid) (sr_rt mid) (decide (sr_mq mid = 2)) d (h'.1.1 - h.1.1) (h'.1.2 - h.1.2) :=
      ⟨B.exec, B.bytes, B.returns, by rw [← k5]; exact hown0, fun w hw => hts0 w (List.mem_cons_of_mem _ hw), B.notSynchronized, fun hi => ((name_of_methodNamed B.named B.method).1).trans (k9 (of_decide_eq_true hi)).2.1, hkn, rfl, hat.2.2⟩
    have body : ∀ n', n' ≤ n → ∀ (t : Nat) (L S : List Value) (hh : sr_H) (ls : Array Slot) (H : Heap) (locs : List Loc) (cells slots : Nat), t / 1000 = mid → sr_ef n' d t L S hh = some (r, h') → L.length = sr_ml mid → sr_lo G ls L → sr_at G hh H → va_S (sr_A G) s.heap H locs → cells + h.1.1 = hh.1.1 → slots + h.1.2 = hh.1.2 →
        W p l e (headSpec (sr_ws mid) (sr_rm d (h'.1.1 - h.1.1) (h'.1.2 - h.1.2))).room s m ((as.map (sr_v G)).toArray) below meth c H locs cells slots (MQ below (sr_Q G r h') ((as.map (sr_v G)).toArray) s (h'.1.1 - h.1.1) (h'.1.2 - h.1.2) (sr_A G)) (F0 m (sr_pc t) ls (S.map (sr_v G))) := by
      intro n'
      induction n' with
      | zero =>
        intro _ t L S hh ls H locs cells slots _ hf
        cases hf
      | succ k ihk =>
        intro hk t L S hh ls H locs cells slots ht hf hLn hlo hat1 hS hc1 hc2
        rw [sr_ef_s] at hf
        obtain ⟨b1, b2⟩ := hT.2.2.2.2.2.2.2.2.2.2.2.1 t (by omega)
        rw [ht] at b1 b2
        have hmk : (sr_mk t).length = L.length := by
          rcases b2 with b2 | b2
          · rw [b2] at hf
            cases hf
          · rw [b2, hLn]
        refine sr_blk hT X hml (h0 := h) (by have := hle.1; omega) (by have := hle.2; omega) hsz M7 M8 (fun t => sr_ef_le k d t) (sr_cf_le k d) (fun t L S hh ls H locs cells slots => ihk (by omega) t L S hh ls H locs cells slots) ?_ (sr_bk t) (sr_pc t) (sr_ms (sr_mk t) L) S hh ls H locs cells slots b1 hf (by rw [sr_ms_len _ _ hmk, hLn]) (sr_lo_ms _ _ hmk hlo) hat1 hS hc1 hc2
        intro mid' as' h1 r1 h1' hcf hm' hal'
        cases d with
        | zero => cases hcf
        | succ d' => exact ⟨d', rfl, IH k (by omega) d' mid' as' h1 r1 h1' hm' hal' hcf⟩
    have hin := sr_in_lo (G := G) hal
    rw [lg_entry_eq]
    have h9 := body n (Nat.le_refl n) (1000 * mid) (sr_in (sr_ml mid) as) [] h _ s.heap [] 0 0 (by omega) hev (sr_in_len hal) hin hat va_S.rf (Nat.zero_add _) (Nat.zero_add _)
    rw [hT.2.2.2.2.2.2.2.2.2.2.2.2.2 mid hm] at h9
    exact h9
