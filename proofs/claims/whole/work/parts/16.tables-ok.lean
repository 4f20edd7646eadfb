/-! All that is asked of the tables holds. -/
theorem sr_c11_ok : ∀ mid, mid < 298 → sr_c11 mid = true := by
  intro mid h
  rcases Nat.lt_or_ge mid 20 with q | q
  · have := sr_c11_0 (mid - 0) (by omega)
    rw [show 0 + (mid - 0) = mid by omega] at this
    exact this
  rcases Nat.lt_or_ge mid 40 with q | q
  · have := sr_c11_1 (mid - 20) (by omega)
    rw [show 20 + (mid - 20) = mid by omega] at this
    exact this
  rcases Nat.lt_or_ge mid 60 with q | q
  · have := sr_c11_2 (mid - 40) (by omega)
    rw [show 40 + (mid - 40) = mid by omega] at this
    exact this
  rcases Nat.lt_or_ge mid 80 with q | q
  · have := sr_c11_3 (mid - 60) (by omega)
    rw [show 60 + (mid - 60) = mid by omega] at this
    exact this
  rcases Nat.lt_or_ge mid 100 with q | q
  · have := sr_c11_4 (mid - 80) (by omega)
    rw [show 80 + (mid - 80) = mid by omega] at this
    exact this
  rcases Nat.lt_or_ge mid 120 with q | q
  · have := sr_c11_5 (mid - 100) (by omega)
    rw [show 100 + (mid - 100) = mid by omega] at this
    exact this
  rcases Nat.lt_or_ge mid 140 with q | q
  · have := sr_c11_6 (mid - 120) (by omega)
    rw [show 120 + (mid - 120) = mid by omega] at this
    exact this
  rcases Nat.lt_or_ge mid 160 with q | q
  · have := sr_c11_7 (mid - 140) (by omega)
    rw [show 140 + (mid - 140) = mid by omega] at this
    exact this
  rcases Nat.lt_or_ge mid 180 with q | q
  · have := sr_c11_8 (mid - 160) (by omega)
    rw [show 160 + (mid - 160) = mid by omega] at this
    exact this
  rcases Nat.lt_or_ge mid 200 with q | q
  · have := sr_c11_9 (mid - 180) (by omega)
    rw [show 180 + (mid - 180) = mid by omega] at this
    exact this
  rcases Nat.lt_or_ge mid 220 with q | q
  · have := sr_c11_10 (mid - 200) (by omega)
    rw [show 200 + (mid - 200) = mid by omega] at this
    exact this
  rcases Nat.lt_or_ge mid 240 with q | q
  · have := sr_c11_11 (mid - 220) (by omega)
    rw [show 220 + (mid - 220) = mid by omega] at this
    exact this
  rcases Nat.lt_or_ge mid 260 with q | q
  · have := sr_c11_12 (mid - 240) (by omega)
    rw [show 240 + (mid - 240) = mid by omega] at this
    exact this
  rcases Nat.lt_or_ge mid 280 with q | q
  · have := sr_c11_13 (mid - 260) (by omega)
    rw [show 260 + (mid - 260) = mid by omega] at this
    exact this
  have := sr_c11_14 (mid - 280) (by omega)
  rw [show 280 + (mid - 280) = mid by omega] at this
  exact this
theorem sr_c12_ok : ∀ mid, mid < 298 → sr_c12 mid = true := by
  intro mid h
  rcases Nat.lt_or_ge mid 10 with q | q
  · have := sr_c12_0 (mid - 0) (by omega)
    rw [show 0 + (mid - 0) = mid by omega] at this
    exact this
  rcases Nat.lt_or_ge mid 20 with q | q
  · have := sr_c12_1 (mid - 10) (by omega)
    rw [show 10 + (mid - 10) = mid by omega] at this
    exact this
  rcases Nat.lt_or_ge mid 30 with q | q
  · have := sr_c12_2 (mid - 20) (by omega)
    rw [show 20 + (mid - 20) = mid by omega] at this
    exact this
  rcases Nat.lt_or_ge mid 40 with q | q
  · have := sr_c12_3 (mid - 30) (by omega)
    rw [show 30 + (mid - 30) = mid by omega] at this
    exact this
  rcases Nat.lt_or_ge mid 50 with q | q
  · have := sr_c12_4 (mid - 40) (by omega)
    rw [show 40 + (mid - 40) = mid by omega] at this
    exact this
  rcases Nat.lt_or_ge mid 60 with q | q
  · have := sr_c12_5 (mid - 50) (by omega)
    rw [show 50 + (mid - 50) = mid by omega] at this
    exact this
  rcases Nat.lt_or_ge mid 70 with q | q
  · have := sr_c12_6 (mid - 60) (by omega)
    rw [show 60 + (mid - 60) = mid by omega] at this
    exact this
  rcases Nat.lt_or_ge mid 80 with q | q
  · have := sr_c12_7 (mid - 70) (by omega)
    rw [show 70 + (mid - 70) = mid by omega] at this
    exact this
  rcases Nat.lt_or_ge mid 90 with q | q
  · have := sr_c12_8 (mid - 80) (by omega)
    rw [show 80 + (mid - 80) = mid by omega] at this
    exact this
  rcases Nat.lt_or_ge mid 100 with q | q
  · have := sr_c12_9 (mid - 90) (by omega)
    rw [show 90 + (mid - 90) = mid by omega] at this
    exact this
  rcases Nat.lt_or_ge mid 110 with q | q
  · have := sr_c12_10 (mid - 100) (by omega)
    rw [show 100 + (mid - 100) = mid by omega] at this
    exact this
  rcases Nat.lt_or_ge mid 120 with q | q
  · have := sr_c12_11 (mid - 110) (by omega)
    rw [show 110 + (mid - 110) = mid by omega] at this
    exact this
  rcases Nat.lt_or_ge mid 130 with q | q
  · have := sr_c12_12 (mid - 120) (by omega)
    rw [show 120 + (mid - 120) = mid by omega] at this
    exact this
  rcases Nat.lt_or_ge mid 140 with q | q
  · have := sr_c12_13 (mid - 130) (by omega)
    rw [show 130 + (mid - 130) = mid by omega] at this
    exact this
  rcases Nat.lt_or_ge mid 150 with q | q
  · have := sr_c12_14 (mid - 140) (by omega)
    rw [show 140 + (mid - 140) = mid by omega] at this
    exact this
  rcases Nat.lt_or_ge mid 160 with q | q
  · have := sr_c12_15 (mid - 150) (by omega)
    rw [show 150 + (mid - 150) = mid by omega] at this
    exact this
  rcases Nat.lt_or_ge mid 170 with q | q
  · have := sr_c12_16 (mid - 160) (by omega)
    rw [show 160 + (mid - 160) = mid by omega] at this
    exact this
  rcases Nat.lt_or_ge mid 180 with q | q
  · have := sr_c12_17 (mid - 170) (by omega)
    rw [show 170 + (mid - 170) = mid by omega] at this
    exact this
  rcases Nat.lt_or_ge mid 190 with q | q
  · have := sr_c12_18 (mid - 180) (by omega)
    rw [show 180 + (mid - 180) = mid by omega] at this
    exact this
  rcases Nat.lt_or_ge mid 200 with q | q
  · have := sr_c12_19 (mid - 190) (by omega)
    rw [show 190 + (mid - 190) = mid by omega] at this
    exact this
  rcases Nat.lt_or_ge mid 210 with q | q
  · have := sr_c12_20 (mid - 200) (by omega)
    rw [show 200 + (mid - 200) = mid by omega] at this
    exact this
  rcases Nat.lt_or_ge mid 220 with q | q
  · have := sr_c12_21 (mid - 210) (by omega)
    rw [show 210 + (mid - 210) = mid by omega] at this
    exact this
  rcases Nat.lt_or_ge mid 230 with q | q
  · have := sr_c12_22 (mid - 220) (by omega)
    rw [show 220 + (mid - 220) = mid by omega] at this
    exact this
  rcases Nat.lt_or_ge mid 240 with q | q
  · have := sr_c12_23 (mid - 230) (by omega)
    rw [show 230 + (mid - 230) = mid by omega] at this
    exact this
  rcases Nat.lt_or_ge mid 250 with q | q
  · have := sr_c12_24 (mid - 240) (by omega)
    rw [show 240 + (mid - 240) = mid by omega] at this
    exact this
  rcases Nat.lt_or_ge mid 260 with q | q
  · have := sr_c12_25 (mid - 250) (by omega)
    rw [show 250 + (mid - 250) = mid by omega] at this
    exact this
  rcases Nat.lt_or_ge mid 270 with q | q
  · have := sr_c12_26 (mid - 260) (by omega)
    rw [show 260 + (mid - 260) = mid by omega] at this
    exact this
  rcases Nat.lt_or_ge mid 280 with q | q
  · have := sr_c12_27 (mid - 270) (by omega)
    rw [show 270 + (mid - 270) = mid by omega] at this
    exact this
  rcases Nat.lt_or_ge mid 290 with q | q
  · have := sr_c12_28 (mid - 280) (by omega)
    rw [show 280 + (mid - 280) = mid by omega] at this
    exact this
  have := sr_c12_29 (mid - 290) (by omega)
  rw [show 290 + (mid - 290) = mid by omega] at this
  exact this
theorem sr_ckL_get {own mid : Nat} {cc : ByteArray} {rt : Option FieldType} {ini : Bool} : ∀ (bs : List (List sr_I)) (ps : List Nat), sr_ckL own mid cc rt ini bs ps = true → ∀ (k : Nat) (b : List sr_I), bs[k]? = some b → ∃ p, ps[k]? = some p ∧ sr_ckB own mid cc rt ini p b = true
  | [], _, _, k, b, h => by cases h
  | _ :: _, [], h, _, _, _ => by cases h
  | b0 :: bs, p :: ps, h, k, b, hk => by
    simp only [sr_ckL, Bool.and_eq_true] at h
    cases k with
    | zero => cases hk; exact ⟨p, rfl, h.1⟩
    | succ k => exact sr_ckL_get bs ps h.2 k b hk
theorem sr_bk_eq (t : Nat) : sr_bk t = (sr_bks (t / 1000)).getD (t % 1000) [] := by
  unfold sr_bk sr_bks
  rw [Nat.div_div_eq_div_mul]
theorem sr_mk_eq (t : Nat) : sr_mk t = (sr_mks (t / 1000)).getD (t % 1000) [] := by
  unfold sr_mk sr_mks
  rw [Nat.div_div_eq_div_mul]
theorem sr_pc_eq (t : Nat) : sr_pc t = (sr_pcs (t / 1000)).getD (t % 1000) 0 := by
  unfold sr_pc sr_pcs
  rw [Nat.div_div_eq_div_mul]
theorem sr_blocks_ok (t : Nat) (ht : t / 1000 < 298) : sr_ckB (sr_mo (t / 1000)) (t / 1000) (sr_by (t / 1000)) (sr_rt (t / 1000)) (decide (sr_mq (t / 1000) = 2)) (sr_pc t) (sr_bk t) = true ∧ (sr_bk t = [] ∨ (sr_mk t).length = sr_ml (t / 1000)) := by
  have h := sr_c12_ok _ ht
  simp only [sr_c12, Bool.and_eq_true, decide_eq_true_eq] at h
  obtain ⟨⟨h1, h2⟩, h3⟩ := h
  rw [sr_bk_eq, sr_mk_eq, sr_pc_eq]
  generalize t / 1000 = mid at h1 h2 h3 ⊢
  generalize t % 1000 = k
  simp only [List.getD_eq_getElem?_getD]
  cases hb : (sr_bks mid)[k]? with
  | none => exact ⟨rfl, Or.inl rfl⟩
  | some b =>
    obtain ⟨p, hp, hc⟩ := sr_ckL_get _ _ h1 k b hb
    rw [hp]
    refine ⟨hc, Or.inr ?_⟩
    have hlt : k < (sr_mks mid).length := by
      rw [← h3]
      exact (List.getElem?_eq_some_iff.mp hb).1
    rw [List.getElem?_eq_getElem hlt]
    have := List.all_eq_true.mp h2 _ (List.getElem_mem hlt)
    simpa using this
theorem sr_own14 {P : Nat → Prop} (h : ∀ own, own < 14 → P own) (h' : ∀ own, P (own + 14)) : ∀ own, P own := by
  intro own
  rcases Nat.lt_or_ge own 14 with q | q
  · exact h own q
  · have := h' (own - 14)
    rwa [show own - 14 + 14 = own by omega] at this
theorem sr_ci_lt {ci : Nat} {q : vw_C} (h : vwCl[ci]? = some q) : ci < 12 := (List.getElem?_eq_some_iff.mp h).1
theorem sr_nm_ok : ∀ (ci : Nat) (q : vw_C), vwCl[ci]? = some q → ∀ a, a < q.2.2 → ∀ b, b < q.2.2 → a ≠ b → (q.2.1 a).2.1 ≠ (q.2.1 b).2.1
  | 0, _, h => by cases h; exact nmX0
  | 1, _, h => by cases h; exact nmX2
  | 2, _, h => by cases h; exact nmX3
  | 3, _, h => by cases h; exact nmX4
  | 4, _, h => by cases h; exact nmX5
  | 5, _, h => by cases h; exact nmX6
  | 6, _, h => by cases h; exact nmX7
  | 7, _, h => by cases h; exact nmX8
  | 8, _, h => by cases h; exact nmX9
  | 9, _, h => by cases h; exact nmX10
  | 10, _, h => by cases h; exact nmX11
  | 11, _, h => by cases h; exact nmX12
  | n + 12, _, h => by cases h
theorem sr_TF_ok : sr_TF := by
  refine ⟨?_, ?_, ?_, ?_, ?_, ?_, ?_, ?_, ?_, ?_, ?_, sr_blocks_ok, ?_, ?_⟩
  · refine sr_own14 (fun own ho e he => ?_) (fun own e he => by cases he)
    have h := List.all_eq_true.mp (sr_c1_ok own ho) e he
    split at h
    · rename_i q hq
      simp only [Bool.and_eq_true, decide_eq_true_eq] at h
      exact ⟨q, hq, h.1, sr_wd_in h.2⟩
    · cases h
  · intro ci q hq
    have hci := sr_ci_lt hq
    have h1 : sr_c2 ci = true := by
      rcases Nat.lt_or_ge ci 11 with z | z
      · exact sr_c2_ok ci z
      · rw [show ci = 11 by omega]; exact sr_c2_11
    have h2 : sr_c2b ci = true := by
      rcases Nat.lt_or_ge ci 11 with z | z
      · exact sr_c2b_ok ci z
      · rw [show ci = 11 by omega]; exact sr_c2b_11
    unfold sr_c2 at h1
    unfold sr_c2b at h2
    rw [hq] at h1 h2
    simp only [Bool.and_eq_true, decide_eq_true_eq] at h1 h2
    obtain ⟨⟨a1, a2⟩, a3⟩ := h1
    obtain ⟨⟨b1, b2⟩, b3⟩ := h2
    refine ⟨fun w hw => ?_, sr_wd_in a2, sr_wd_in a3, sr_nm_ok ci q hq, b1, ?_, fun k hk => ?_⟩
    · obtain ⟨k, hk, rfl⟩ := List.mem_map.mp hw
      exact sr_wd_in (List.all_eq_true.mp a1 k hk)
    · refine sr_own14 (fun own ho hx => ?_) (fun own hx => ?_)
      · have := List.all_eq_true.mp b2 own (List.mem_range.mpr ho)
        simp only [Bool.or_eq_true, decide_eq_true_eq] at this
        rcases this with z | z
        · exact absurd hx z
        · exact z
      · have : sr_cx (own + 14) = 99 := rfl
        omega
    · have := List.all_eq_true.mp b3 k (List.mem_range.mpr hk)
      split at this
      · rename_i ty hty
        simp only [decide_eq_true_eq] at this
        exact ⟨ty, hty, this⟩
      · cases this
  · refine sr_own14 (fun own ho e he => ?_) (fun own e he => by cases he)
    have h := sr_c3_ok own ho
    simp only [Bool.and_eq_true] at h
    have := List.all_eq_true.mp h.1.1.1.1.1 e he
    simp only [Bool.and_eq_true, decide_eq_true_eq] at this
    exact ⟨this.1, sr_wd_in this.2⟩
  · refine sr_own14 (fun own ho e he => ?_) (fun own e he => by cases he)
    have h := sr_c3_ok own ho
    simp only [Bool.and_eq_true] at h
    exact sr_wd_in (List.all_eq_true.mp h.1.1.1.1.2 e he)
  · refine sr_own14 (fun own ho e he => ?_) (fun own e he => by cases he)
    have h := sr_c3_ok own ho
    simp only [Bool.and_eq_true] at h
    exact sr_wd_in (List.all_eq_true.mp h.1.1.1.2 e he)
  · refine sr_own14 (fun own ho e he => ?_) (fun own e he => by cases he)
    have h := sr_c3_ok own ho
    simp only [Bool.and_eq_true] at h
    have := List.all_eq_true.mp h.1.1.2 e he
    simpa only [decide_eq_true_eq] using this
  · refine sr_own14 (fun own ho e he => ?_) (fun own e he => by cases he)
    have h := sr_c3_ok own ho
    simp only [Bool.and_eq_true] at h
    have := List.all_eq_true.mp h.1.2 e he
    split at this
    · rename_i q hq
      exact ⟨q, hq, sr_wd_in this⟩
    · cases this
  · refine sr_own14 (fun own ho e he => ?_) (fun own e he => by cases he)
    have h := sr_c3_ok own ho
    simp only [Bool.and_eq_true] at h
    exact sr_wd_in (List.all_eq_true.mp h.2 e he)
  · refine sr_own14 (fun own ho e he => ?_) (fun own e he => by cases he)
    have := List.all_eq_true.mp (sr_c9_ok own ho) e he
    simp only [Bool.and_eq_true, decide_eq_true_eq] at this
    refine ⟨this.1, fun hz => ?_, ?_⟩
    · rw [if_pos hz] at this
      exact sr_wd_in this.2
    · by_cases hz : e.2.2.1 = 0
      · exact Or.inl hz
      · rw [if_neg hz] at this
        exact Or.inr (of_decide_eq_true this.2)
  · have h := sr_c10_ok
    simp only [Bool.and_eq_true] at h
    have g := fun (w : Cond) hw => sr_mem_in (List.all_eq_true.mp h.2 w hw)
    refine ⟨fun b hb => sr_mem_in (List.all_eq_true.mp h.1 b (List.mem_range.mpr hb)), ?_⟩
    exact ⟨g _ (List.mem_of_getElem? (i := 0) rfl), g _ (List.mem_of_getElem? (i := 1) rfl), g _ (List.mem_of_getElem? (i := 2) rfl), g _ (List.mem_of_getElem? (i := 3) rfl), g _ (List.mem_of_getElem? (i := 4) rfl), g _ (List.mem_of_getElem? (i := 5) rfl), g _ (List.mem_of_getElem? (i := 6) rfl), g _ (List.mem_of_getElem? (i := 7) rfl), g _ (List.mem_of_getElem? (i := 8) rfl), g _ (List.mem_of_getElem? (i := 9) rfl), g _ (List.mem_of_getElem? (i := 10) rfl), g _ (List.mem_of_getElem? (i := 11) rfl), g _ (List.mem_of_getElem? (i := 12) rfl), g _ (List.mem_of_getElem? (i := 13) rfl), g _ (List.mem_of_getElem? (i := 14) rfl)⟩
  · intro mid hm
    have h := sr_c11_ok mid hm
    simp only [sr_c11, Bool.and_eq_true, decide_eq_true_eq] at h
    obtain ⟨⟨⟨⟨⟨⟨⟨h1, h2⟩, h3⟩, h4⟩, h5⟩, h6⟩, h7⟩, h8⟩ := h
    refine ⟨sr_cdw_in h1, h2, h3, h4, h5, sr_wd_in h6, fun hz => ?_, fun hz => ?_, fun hz => ?_⟩
    · rw [if_pos hz] at h7
      simp only [Bool.and_eq_true] at h7
      refine ⟨sr_wd_in h7.1.1, sr_wd_in h7.1.2, ?_⟩
      have h9 := h7.2
      split at h9
      · rename_i q hq
        exact ⟨q, hq, of_decide_eq_true h9⟩
      · cases h9
    · rw [if_neg (by omega), if_pos hz] at h7
      exact sr_wd_in h7
    · rw [if_neg (by omega), if_neg (by omega)] at h7
      simp only [Bool.and_eq_true, decide_eq_true_eq] at h7
      exact ⟨sr_wd_in h7.1, h7.2⟩
  · have h := sr_c10_ok
    simp only [Bool.and_eq_true] at h
    have g := fun (w : Cond) hw => sr_mem_in (List.all_eq_true.mp h.2 w hw)
    exact ⟨g _ (List.mem_of_getElem? (i := 15) rfl), g _ (List.mem_of_getElem? (i := 16) rfl), g _ (List.mem_of_getElem? (i := 17) rfl), g _ (List.mem_of_getElem? (i := 18) rfl), g _ (List.mem_of_getElem? (i := 19) rfl), g _ (List.mem_of_getElem? (i := 20) rfl)⟩
  · intro mid hm
    have h := sr_c11_ok mid hm
    simp only [sr_c11, Bool.and_eq_true, decide_eq_true_eq] at h
    exact h.2
