/-! The parser: numbers that are told. -/
theorem vs_0 {y : V} {j v i k : Nat} (h : ¬ i = 0) : vs y 0 j v i k = y i k := vs_n (fun z => h z.1)
theorem cn_vs {y : V} {j v i : Nat} (h : ¬ j = 2 ∧ ¬ j = 3 ∧ ¬ j = 4 ∧ ¬ j = 5 ∧ ¬ j = 13) : cn (vs y 0 j v) i = cn y i := by
  unfold cn
  rw [vs_n (by omega), vs_n (by omega), vs_n (by omega), vs_n (by omega), vs_n (by omega)]
theorem PI_fr {h h' : sr_H} {I n p : Nat} {b : Nat → Nat} {y : V} (hI' : IOK I) (s : PI h I b n y p) (f : Fr h h' (fun a => I ≤ a ∧ a ≤ I + 32)) : (Prs h' I ∧ Rdr h' ∧ Txt h' I) ∧ (RD h' b n ∧ fI h' 2 4 = nI (lex b n p).2.2 ∧ TKz h' (tK b n p) (tV b n p) p) := by
  have e2 : h'.2 2 = h.2 2 := f.2 2 (by unfold IOK at hI'; omega)
  have e3 : h'.2 3 = h.2 3 := f.2 3 (by unfold IOK at hI'; omega)
  have e4 : h'.2 4 = h.2 4 := f.2 4 (by unfold IOK at hI'; omega)
  refine ⟨⟨s.1.1.ss f.1, s.1.2.1.ss f.1, s.1.2.2.ss f.1⟩, ⟨fun i hi => by rw [hI_of e3]; exact s.2.1.1.1 i hi, by rw [fI_of e2]; exact s.2.1.1.2.1, fun w hw => by rw [hI_of e4]; exact s.2.1.1.2.2 w hw⟩, by rw [fI_of e2]; exact s.2.1.2.1, ?_⟩
  have := s.2.1.2.2
  have e1 : h'.2 1 = h.2 1 := f.2 1 (by unfold IOK at hI'; omega)
  unfold TKz FZ at this ⊢
  rw [fI_of e2, fI_of e2, fI_of e2, fI_of e1, fI_of e1]
  exact this
theorem TA_v {h h' : sr_H} {I j v : Nat} {y : V} (t : TA h I y) (hj : ¬ j = 2 ∧ ¬ j = 3 ∧ ¬ j = 4 ∧ ¬ j = 5 ∧ ¬ j = 13) (e : ∀ a i, hI h' a i = hI h a i) : TA h' I (vs y 0 j v) := fun i h1 h2 k hk => by
  rw [cn_vs hj] at hk
  rw [e, vs_0 (by omega)]
  exact t i h1 h2 k hk
theorem TB_v {h h' : sr_H} {I j v : Nat} {y : V} (t : TB h I y) (hj : ¬ j = 2 ∧ ¬ j = 3) (e : ∀ a i, hI h' a i = hI h a i) : TB h' I (vs y 0 j v) := by
  refine ⟨fun s hs => ?_, fun s hs => ?_⟩
  · rw [vs_n (by omega)] at hs
    rw [e, vs_0 (by omega)]
    exact t.1 s hs
  · rw [vs_n (by omega)] at hs
    rw [e]
    exact t.2 s hs
set_option maxHeartbeats 4000000 in
set_option maxRecDepth 100000 in
theorem TS_0 {h : sr_H} {I v : Nat} {y : V} (w : Txt h I) (t : TS h I y) : TS (sF h (I + 1 + 1) 0 (.int (nI v))) I (vs y 0 0 v) := by
  have ok : oK h (I + 1 + 1) 0 := (fld_6_0 (sub_5_screens (sub_8_start w))).1.2
  have tt : TS h I (vs y 0 0 (vs y 0 0 v 0 0)) → True := fun _ => trivial
  obtain ⟨⟨a1, a2, a3, a4⟩, ⟨b1, b2, b3, b4⟩, ⟨c1, c2, c3, c4, c5, c6, c7⟩, d1, d2⟩ := t
  unfold TS vs
  refine ⟨⟨?_, ?_, ?_, ?_⟩, ⟨?_, ?_, ?_, ?_⟩, ⟨?_, ?_, ?_, ?_, ?_, ?_, ?_⟩, ?_, ?_⟩
  all_goals first | (rw [fI_y ok]; rfl) | (rw [fI_n (by omega)]; assumption) | (rw [fJ_n (by omega)]; assumption)
set_option maxHeartbeats 4000000 in
set_option maxRecDepth 100000 in
theorem PIs_0 {h : sr_H} {I n p v : Nat} {b : Nat → Nat} {y : V} (hI' : IOK I) (s : PI h I b n y p) : PI (sF h (I + 1 + 1) 0 (.int (nI v))) I b n (vs y 0 0 v) p := by
  have f : Fr h (sF h (I + 1 + 1) 0 (.int (nI v))) (fun a => I ≤ a ∧ a ≤ I + 32) := Fr_sF Fr.rf (erI (fld_6_0 (sub_5_screens (sub_8_start s.1.2.2))).2) (by omega)
  obtain ⟨q1, q2⟩ := PI_fr hI' s f
  exact ⟨q1, q2, TS_0 s.1.2.2 s.2.2.1, TA_v s.2.2.2.1 (by omega) (fun a i => hI_sF), TB_v s.2.2.2.2 (by omega) (fun a i => hI_sF)⟩
set_option maxHeartbeats 4000000 in
set_option maxRecDepth 100000 in
theorem TS_1 {h : sr_H} {I v : Nat} {y : V} (w : Txt h I) (t : TS h I y) : TS (sF h (I + 1 + 1) 1 (.int (nI v))) I (vs y 0 1 v) := by
  have ok : oK h (I + 1 + 1) 1 := (fld_6_1 (sub_5_screens (sub_8_start w))).1.2
  have tt : TS h I (vs y 0 1 (vs y 0 1 v 0 1)) → True := fun _ => trivial
  obtain ⟨⟨a1, a2, a3, a4⟩, ⟨b1, b2, b3, b4⟩, ⟨c1, c2, c3, c4, c5, c6, c7⟩, d1, d2⟩ := t
  unfold TS vs
  refine ⟨⟨?_, ?_, ?_, ?_⟩, ⟨?_, ?_, ?_, ?_⟩, ⟨?_, ?_, ?_, ?_, ?_, ?_, ?_⟩, ?_, ?_⟩
  all_goals first | (rw [fI_y ok]; rfl) | (rw [fI_n (by omega)]; assumption) | (rw [fJ_n (by omega)]; assumption)
set_option maxHeartbeats 4000000 in
set_option maxRecDepth 100000 in
theorem PIs_1 {h : sr_H} {I n p v : Nat} {b : Nat → Nat} {y : V} (hI' : IOK I) (s : PI h I b n y p) : PI (sF h (I + 1 + 1) 1 (.int (nI v))) I b n (vs y 0 1 v) p := by
  have f : Fr h (sF h (I + 1 + 1) 1 (.int (nI v))) (fun a => I ≤ a ∧ a ≤ I + 32) := Fr_sF Fr.rf (erI (fld_6_1 (sub_5_screens (sub_8_start s.1.2.2))).2) (by omega)
  obtain ⟨q1, q2⟩ := PI_fr hI' s f
  exact ⟨q1, q2, TS_1 s.1.2.2 s.2.2.1, TA_v s.2.2.2.1 (by omega) (fun a i => hI_sF), TB_v s.2.2.2.2 (by omega) (fun a i => hI_sF)⟩
set_option maxHeartbeats 4000000 in
set_option maxRecDepth 100000 in
theorem TS_3 {h : sr_H} {I v : Nat} {y : V} (w : Txt h I) (t : TS h I y) : TS (sF h (I + 1) 1 (.int (nI v))) I (vs y 0 3 v) := by
  have ok : oK h (I + 1) 1 := (fld_5_1 (sub_8_start w)).1.2
  have tt : TS h I (vs y 0 3 (vs y 0 3 v 0 3)) → True := fun _ => trivial
  obtain ⟨⟨a1, a2, a3, a4⟩, ⟨b1, b2, b3, b4⟩, ⟨c1, c2, c3, c4, c5, c6, c7⟩, d1, d2⟩ := t
  unfold TS vs
  refine ⟨⟨?_, ?_, ?_, ?_⟩, ⟨?_, ?_, ?_, ?_⟩, ⟨?_, ?_, ?_, ?_, ?_, ?_, ?_⟩, ?_, ?_⟩
  all_goals first | (rw [fI_y ok]; rfl) | (rw [fI_n (by omega)]; assumption) | (rw [fJ_n (by omega)]; assumption)
set_option maxHeartbeats 4000000 in
set_option maxRecDepth 100000 in
theorem TS_4 {h : sr_H} {I v : Nat} {y : V} (w : Txt h I) (t : TS h I y) : TS (sF h I 9 (.int (nI v))) I (vs y 0 4 v) := by
  have ok : oK h I 9 := (fld_8_9 w).1.2
  have tt : TS h I (vs y 0 4 (vs y 0 4 v 0 4)) → True := fun _ => trivial
  obtain ⟨⟨a1, a2, a3, a4⟩, ⟨b1, b2, b3, b4⟩, ⟨c1, c2, c3, c4, c5, c6, c7⟩, d1, d2⟩ := t
  unfold TS vs
  refine ⟨⟨?_, ?_, ?_, ?_⟩, ⟨?_, ?_, ?_, ?_⟩, ⟨?_, ?_, ?_, ?_, ?_, ?_, ?_⟩, ?_, ?_⟩
  all_goals first | (rw [fI_y ok]; rfl) | (rw [fI_n (by omega)]; assumption) | (rw [fJ_n (by omega)]; assumption)
set_option maxHeartbeats 4000000 in
set_option maxRecDepth 100000 in
theorem TS_5 {h : sr_H} {I v : Nat} {y : V} (w : Txt h I) (t : TS h I y) : TS (sF h I 14 (.int (nI v))) I (vs y 0 5 v) := by
  have ok : oK h I 14 := (fld_8_14 w).1.2
  have tt : TS h I (vs y 0 5 (vs y 0 5 v 0 5)) → True := fun _ => trivial
  obtain ⟨⟨a1, a2, a3, a4⟩, ⟨b1, b2, b3, b4⟩, ⟨c1, c2, c3, c4, c5, c6, c7⟩, d1, d2⟩ := t
  unfold TS vs
  refine ⟨⟨?_, ?_, ?_, ?_⟩, ⟨?_, ?_, ?_, ?_⟩, ⟨?_, ?_, ?_, ?_, ?_, ?_, ?_⟩, ?_, ?_⟩
  all_goals first | (rw [fI_y ok]; rfl) | (rw [fI_n (by omega)]; assumption) | (rw [fJ_n (by omega)]; assumption)
set_option maxHeartbeats 4000000 in
set_option maxRecDepth 100000 in
theorem TS_6 {h : sr_H} {I v : Nat} {y : V} (w : Txt h I) (t : TS h I y) : TS (sF h I 5 (.int (nI v))) I (vs y 0 6 v) := by
  have ok : oK h I 5 := (fld_8_5 w).1.2
  have tt : TS h I (vs y 0 6 (vs y 0 6 v 0 6)) → True := fun _ => trivial
  obtain ⟨⟨a1, a2, a3, a4⟩, ⟨b1, b2, b3, b4⟩, ⟨c1, c2, c3, c4, c5, c6, c7⟩, d1, d2⟩ := t
  unfold TS vs
  refine ⟨⟨?_, ?_, ?_, ?_⟩, ⟨?_, ?_, ?_, ?_⟩, ⟨?_, ?_, ?_, ?_, ?_, ?_, ?_⟩, ?_, ?_⟩
  all_goals first | (rw [fI_y ok]; rfl) | (rw [fI_n (by omega)]; assumption) | (rw [fJ_n (by omega)]; assumption)
set_option maxHeartbeats 4000000 in
set_option maxRecDepth 100000 in
theorem PIs_6 {h : sr_H} {I n p v : Nat} {b : Nat → Nat} {y : V} (hI' : IOK I) (s : PI h I b n y p) : PI (sF h I 5 (.int (nI v))) I b n (vs y 0 6 v) p := by
  have f : Fr h (sF h I 5 (.int (nI v))) (fun a => I ≤ a ∧ a ≤ I + 32) := Fr_sF Fr.rf (erI (fld_8_5 s.1.2.2).2) (by omega)
  obtain ⟨q1, q2⟩ := PI_fr hI' s f
  exact ⟨q1, q2, TS_6 s.1.2.2 s.2.2.1, TA_v s.2.2.2.1 (by omega) (fun a i => hI_sF), TB_v s.2.2.2.2 (by omega) (fun a i => hI_sF)⟩
set_option maxHeartbeats 4000000 in
set_option maxRecDepth 100000 in
theorem TS_8 {h : sr_H} {I v : Nat} {y : V} (w : Txt h I) (t : TS h I y) : TS (sF h (I + 17) 0 (.int (nI v))) I (vs y 0 8 v) := by
  have ok : oK h (I + 17) 0 := (fld_2_0 (sub_8_laws w)).1.2
  have tt : TS h I (vs y 0 8 (vs y 0 8 v 0 8)) → True := fun _ => trivial
  obtain ⟨⟨a1, a2, a3, a4⟩, ⟨b1, b2, b3, b4⟩, ⟨c1, c2, c3, c4, c5, c6, c7⟩, d1, d2⟩ := t
  unfold TS vs
  refine ⟨⟨?_, ?_, ?_, ?_⟩, ⟨?_, ?_, ?_, ?_⟩, ⟨?_, ?_, ?_, ?_, ?_, ?_, ?_⟩, ?_, ?_⟩
  all_goals first | (rw [fI_y ok]; rfl) | (rw [fI_n (by omega)]; assumption) | (rw [fJ_n (by omega)]; assumption)
set_option maxHeartbeats 4000000 in
set_option maxRecDepth 100000 in
theorem PIs_8 {h : sr_H} {I n p v : Nat} {b : Nat → Nat} {y : V} (hI' : IOK I) (s : PI h I b n y p) : PI (sF h (I + 17) 0 (.int (nI v))) I b n (vs y 0 8 v) p := by
  have f : Fr h (sF h (I + 17) 0 (.int (nI v))) (fun a => I ≤ a ∧ a ≤ I + 32) := Fr_sF Fr.rf (erI (fld_2_0 (sub_8_laws s.1.2.2)).2) (by omega)
  obtain ⟨q1, q2⟩ := PI_fr hI' s f
  exact ⟨q1, q2, TS_8 s.1.2.2 s.2.2.1, TA_v s.2.2.2.1 (by omega) (fun a i => hI_sF), TB_v s.2.2.2.2 (by omega) (fun a i => hI_sF)⟩
set_option maxHeartbeats 4000000 in
set_option maxRecDepth 100000 in
theorem TS_9 {h : sr_H} {I v : Nat} {y : V} (w : Txt h I) (t : TS h I y) : TS (sF h I 4 (.int (nI v))) I (vs y 0 9 v) := by
  have ok : oK h I 4 := (fld_8_4 w).1.2
  have tt : TS h I (vs y 0 9 (vs y 0 9 v 0 9)) → True := fun _ => trivial
  obtain ⟨⟨a1, a2, a3, a4⟩, ⟨b1, b2, b3, b4⟩, ⟨c1, c2, c3, c4, c5, c6, c7⟩, d1, d2⟩ := t
  unfold TS vs
  refine ⟨⟨?_, ?_, ?_, ?_⟩, ⟨?_, ?_, ?_, ?_⟩, ⟨?_, ?_, ?_, ?_, ?_, ?_, ?_⟩, ?_, ?_⟩
  all_goals first | (rw [fI_y ok]; rfl) | (rw [fI_n (by omega)]; assumption) | (rw [fJ_n (by omega)]; assumption)
set_option maxHeartbeats 4000000 in
set_option maxRecDepth 100000 in
theorem PIs_9 {h : sr_H} {I n p v : Nat} {b : Nat → Nat} {y : V} (hI' : IOK I) (s : PI h I b n y p) : PI (sF h I 4 (.int (nI v))) I b n (vs y 0 9 v) p := by
  have f : Fr h (sF h I 4 (.int (nI v))) (fun a => I ≤ a ∧ a ≤ I + 32) := Fr_sF Fr.rf (erI (fld_8_4 s.1.2.2).2) (by omega)
  obtain ⟨q1, q2⟩ := PI_fr hI' s f
  exact ⟨q1, q2, TS_9 s.1.2.2 s.2.2.1, TA_v s.2.2.2.1 (by omega) (fun a i => hI_sF), TB_v s.2.2.2.2 (by omega) (fun a i => hI_sF)⟩
set_option maxHeartbeats 4000000 in
set_option maxRecDepth 100000 in
theorem TS_10 {h : sr_H} {I v : Nat} {y : V} (w : Txt h I) (t : TS h I y) : TS (sF h I 6 (.int (nI v))) I (vs y 0 10 v) := by
  have ok : oK h I 6 := (fld_8_6 w).1.2
  have tt : TS h I (vs y 0 10 (vs y 0 10 v 0 10)) → True := fun _ => trivial
  obtain ⟨⟨a1, a2, a3, a4⟩, ⟨b1, b2, b3, b4⟩, ⟨c1, c2, c3, c4, c5, c6, c7⟩, d1, d2⟩ := t
  unfold TS vs
  refine ⟨⟨?_, ?_, ?_, ?_⟩, ⟨?_, ?_, ?_, ?_⟩, ⟨?_, ?_, ?_, ?_, ?_, ?_, ?_⟩, ?_, ?_⟩
  all_goals first | (rw [fI_y ok]; rfl) | (rw [fI_n (by omega)]; assumption) | (rw [fJ_n (by omega)]; assumption)
set_option maxHeartbeats 4000000 in
set_option maxRecDepth 100000 in
theorem PIs_10 {h : sr_H} {I n p v : Nat} {b : Nat → Nat} {y : V} (hI' : IOK I) (s : PI h I b n y p) : PI (sF h I 6 (.int (nI v))) I b n (vs y 0 10 v) p := by
  have f : Fr h (sF h I 6 (.int (nI v))) (fun a => I ≤ a ∧ a ≤ I + 32) := Fr_sF Fr.rf (erI (fld_8_6 s.1.2.2).2) (by omega)
  obtain ⟨q1, q2⟩ := PI_fr hI' s f
  exact ⟨q1, q2, TS_10 s.1.2.2 s.2.2.1, TA_v s.2.2.2.1 (by omega) (fun a i => hI_sF), TB_v s.2.2.2.2 (by omega) (fun a i => hI_sF)⟩
set_option maxHeartbeats 4000000 in
set_option maxRecDepth 100000 in
theorem TS_11 {h : sr_H} {I v : Nat} {y : V} (w : Txt h I) (t : TS h I y) : TS (sF h I 7 (.int (nI v))) I (vs y 0 11 v) := by
  have ok : oK h I 7 := (fld_8_7 w).1.2
  have tt : TS h I (vs y 0 11 (vs y 0 11 v 0 11)) → True := fun _ => trivial
  obtain ⟨⟨a1, a2, a3, a4⟩, ⟨b1, b2, b3, b4⟩, ⟨c1, c2, c3, c4, c5, c6, c7⟩, d1, d2⟩ := t
  unfold TS vs
  refine ⟨⟨?_, ?_, ?_, ?_⟩, ⟨?_, ?_, ?_, ?_⟩, ⟨?_, ?_, ?_, ?_, ?_, ?_, ?_⟩, ?_, ?_⟩
  all_goals first | (rw [fI_y ok]; rfl) | (rw [fI_n (by omega)]; assumption) | (rw [fJ_n (by omega)]; assumption)
set_option maxHeartbeats 4000000 in
set_option maxRecDepth 100000 in
theorem PIs_11 {h : sr_H} {I n p v : Nat} {b : Nat → Nat} {y : V} (hI' : IOK I) (s : PI h I b n y p) : PI (sF h I 7 (.int (nI v))) I b n (vs y 0 11 v) p := by
  have f : Fr h (sF h I 7 (.int (nI v))) (fun a => I ≤ a ∧ a ≤ I + 32) := Fr_sF Fr.rf (erI (fld_8_7 s.1.2.2).2) (by omega)
  obtain ⟨q1, q2⟩ := PI_fr hI' s f
  exact ⟨q1, q2, TS_11 s.1.2.2 s.2.2.1, TA_v s.2.2.2.1 (by omega) (fun a i => hI_sF), TB_v s.2.2.2.2 (by omega) (fun a i => hI_sF)⟩
set_option maxHeartbeats 4000000 in
set_option maxRecDepth 100000 in
theorem TS_12 {h : sr_H} {I v : Nat} {y : V} (w : Txt h I) (t : TS h I y) : TS (sF h I 8 (.int (nI v))) I (vs y 0 12 v) := by
  have ok : oK h I 8 := (fld_8_8 w).1.2
  have tt : TS h I (vs y 0 12 (vs y 0 12 v 0 12)) → True := fun _ => trivial
  obtain ⟨⟨a1, a2, a3, a4⟩, ⟨b1, b2, b3, b4⟩, ⟨c1, c2, c3, c4, c5, c6, c7⟩, d1, d2⟩ := t
  unfold TS vs
  refine ⟨⟨?_, ?_, ?_, ?_⟩, ⟨?_, ?_, ?_, ?_⟩, ⟨?_, ?_, ?_, ?_, ?_, ?_, ?_⟩, ?_, ?_⟩
  all_goals first | (rw [fI_y ok]; rfl) | (rw [fI_n (by omega)]; assumption) | (rw [fJ_n (by omega)]; assumption)
set_option maxHeartbeats 4000000 in
set_option maxRecDepth 100000 in
theorem PIs_12 {h : sr_H} {I n p v : Nat} {b : Nat → Nat} {y : V} (hI' : IOK I) (s : PI h I b n y p) : PI (sF h I 8 (.int (nI v))) I b n (vs y 0 12 v) p := by
  have f : Fr h (sF h I 8 (.int (nI v))) (fun a => I ≤ a ∧ a ≤ I + 32) := Fr_sF Fr.rf (erI (fld_8_8 s.1.2.2).2) (by omega)
  obtain ⟨q1, q2⟩ := PI_fr hI' s f
  exact ⟨q1, q2, TS_12 s.1.2.2 s.2.2.1, TA_v s.2.2.2.1 (by omega) (fun a i => hI_sF), TB_v s.2.2.2.2 (by omega) (fun a i => hI_sF)⟩
set_option maxHeartbeats 4000000 in
set_option maxRecDepth 100000 in
theorem TS_13 {h : sr_H} {I v : Nat} {y : V} (w : Txt h I) (t : TS h I y) : TS (sF h (I + 17) 1 (.int (nI v))) I (vs y 0 13 v) := by
  have ok : oK h (I + 17) 1 := (fld_2_1 (sub_8_laws w)).1.2
  have tt : TS h I (vs y 0 13 (vs y 0 13 v 0 13)) → True := fun _ => trivial
  obtain ⟨⟨a1, a2, a3, a4⟩, ⟨b1, b2, b3, b4⟩, ⟨c1, c2, c3, c4, c5, c6, c7⟩, d1, d2⟩ := t
  unfold TS vs
  refine ⟨⟨?_, ?_, ?_, ?_⟩, ⟨?_, ?_, ?_, ?_⟩, ⟨?_, ?_, ?_, ?_, ?_, ?_, ?_⟩, ?_, ?_⟩
  all_goals first | (rw [fI_y ok]; rfl) | (rw [fI_n (by omega)]; assumption) | (rw [fJ_n (by omega)]; assumption)
set_option maxHeartbeats 4000000 in
set_option maxRecDepth 100000 in
theorem PIs_7 {h : sr_H} {I n p v : Nat} {b : Nat → Nat} {y : V} (hI' : IOK I) (s : PI h I b n y p) : PI (sF h (I + 1) 9 (.long (lN v))) I b n (vs y 0 7 v) p := by
  have f : Fr h (sF h (I + 1) 9 (.long (lN v))) (fun a => I ≤ a ∧ a ≤ I + 32) := Fr_sF Fr.rf (erJ (fld_5_9 (sub_8_start s.1.2.2)).2) (by omega)
  have ok : oK h (I + 1) 9 := (fld_5_9 (sub_8_start s.1.2.2)).1.2
  obtain ⟨q1, q2⟩ := PI_fr hI' s f
  refine ⟨q1, q2, ?_, TA_v s.2.2.2.1 (by omega) (fun a i => hI_sF), TB_v s.2.2.2.2 (by omega) (fun a i => hI_sF)⟩
  obtain ⟨⟨a1, a2, a3, a4⟩, ⟨b1, b2, b3, b4⟩, ⟨c1, c2, c3, c4, c5, c6, c7⟩, d1, d2⟩ := s.2.2.1
  unfold TS vs
  refine ⟨⟨?_, ?_, ?_, ?_⟩, ⟨?_, ?_, ?_, ?_⟩, ⟨?_, ?_, ?_, ?_, ?_, ?_, ?_⟩, ?_, ?_⟩
  all_goals first | (rw [fJ_y ok]; rfl) | (rw [fI_n (by omega)]; assumption) | (rw [fJ_n (by omega)]; assumption)
/-- a row's next place is written: nothing that is told changes -/
theorem PI_w {h : sr_H} {I n p j k : Nat} {v : Int32} {b : Nat → Nat} {y : V} (hI' : IOK I) (s : PI h I b n y p) (h1 : 1 ≤ j) (h2 : j ≤ 22) (hk : cn y j ≤ k) : PI (sI h (I + off j) k v) I b n y p := by
  have ho := off_le j (by omega)
  obtain ⟨q1, q2⟩ := PI_fr hI' s (Fr_sI Fr.rf (a := I + off j) (i := k) (v := v) (by omega))
  have ho2 := ho.2 h1
  refine ⟨q1, q2, ?_, fun i z1 z2 q hq => ?_, ⟨fun t ht => ?_, fun t ht => ?_⟩⟩
  · unfold TS
    simp only [fI_sI, fJ_sI]
    exact s.2.2.1
  · by_cases e : i = j
    · subst e
      rw [hI_n (fun z => by omega)]
      exact s.2.2.2.1 i z1 z2 q hq
    · rw [hI_n (fun z => e (off_inj i (by omega) j (by omega) (by omega)))]
      exact s.2.2.2.1 i z1 z2 q hq
  · rw [hI_n (by omega)]
    exact s.2.2.2.2.1 t ht
  · rw [hI_n (by omega)]
    exact s.2.2.2.2.2 t ht
/-- one more of a sort is told: rows lo to hi, its count in c -/
def psh (y : V) (c lo hi : Nat) (z : Nat → Nat) : V := fun i j => if i = 0 ∧ j = c then y 0 c + 1 else if (lo ≤ i ∧ i ≤ hi) ∧ j = y 0 c then z i else y i j
theorem psh_0 {y : V} {c lo hi j : Nat} {z : Nat → Nat} (h : 1 ≤ lo) (hj : ¬ j = c) : psh y c lo hi z 0 j = y 0 j := by
  unfold psh
  rw [if_neg (by omega), if_neg (by omega)]
theorem psh_c {y : V} {c lo hi : Nat} {z : Nat → Nat} : psh y c lo hi z 0 c = y 0 c + 1 := if_pos ⟨rfl, rfl⟩
theorem psh_z {y : V} {c lo hi i : Nat} {z : Nat → Nat} (h : 1 ≤ lo) (h1 : lo ≤ i) (h2 : i ≤ hi) : psh y c lo hi z i (y 0 c) = z i := by
  unfold psh
  rw [if_neg (by omega), if_pos ⟨⟨h1, h2⟩, rfl⟩]
theorem psh_n {y : V} {c lo hi i j : Nat} {z : Nat → Nat} (h : 1 ≤ i) (h1 : ¬ ((lo ≤ i ∧ i ≤ hi) ∧ j = y 0 c)) : psh y c lo hi z i j = y i j := by
  unfold psh
  rw [if_neg (by omega), if_neg h1]
theorem TA_psh {h h' : sr_H} {I c lo hi : Nat} {y : V} {z : Nat → Nat} (t : TA h I y) (hc : (c = 2 ∧ lo = 1 ∧ hi = 6) ∨ (c = 3 ∧ lo = 7 ∧ hi = 11) ∨ (c = 4 ∧ lo = 12 ∧ hi = 15) ∨ (c = 5 ∧ lo = 16 ∧ hi = 18) ∨ (c = 13 ∧ lo = 21 ∧ hi = 22)) (e : ∀ a i, hI h' a i = hI h a i) (pe : ∀ j, lo ≤ j → j ≤ hi → hI h (I + off j) (y 0 c) = nI (z j)) : TA h' I (psh y c lo hi z) := by
  intro i h1 h2 k hk
  rw [e]
  have hcn : cn (psh y c lo hi z) i = if lo ≤ i ∧ i ≤ hi then y 0 c + 1 else cn y i := by
    unfold cn
    rcases hc with ⟨rfl, rfl, rfl⟩ | ⟨rfl, rfl, rfl⟩ | ⟨rfl, rfl, rfl⟩ | ⟨rfl, rfl, rfl⟩ | ⟨rfl, rfl, rfl⟩
    all_goals
      simp (disch := omega) only [psh_c, psh_0]
      repeat' split
      all_goals first | rfl | omega
  rw [hcn] at hk
  by_cases q : lo ≤ i ∧ i ≤ hi
  · rw [if_pos q] at hk
    by_cases q2 : k = y 0 c
    · rw [q2, psh_z (by omega) q.1 q.2]
      exact pe i q.1 q.2
    · rw [psh_n h1 (fun w => q2 w.2)]
      refine t i h1 h2 k ?_
      unfold cn
      rcases hc with ⟨rfl, rfl, rfl⟩ | ⟨rfl, rfl, rfl⟩ | ⟨rfl, rfl, rfl⟩ | ⟨rfl, rfl, rfl⟩ | ⟨rfl, rfl, rfl⟩
      all_goals
        repeat' split
        all_goals omega
  · rw [if_neg q] at hk
    rw [psh_n h1 (fun w => q w.1)]
    exact t i h1 h2 k hk
theorem vs_psh_4 {y : V} {z : Nat → Nat} : ∀ j, psh y 4 12 15 z 0 j = vs y 0 4 (y 0 4 + 1) 0 j := by
  intro j
  by_cases q : j = 4
  · rw [q, psh_c, vs_y]
  · rw [psh_0 (by omega) q, vs_n (fun w => q w.2)]
set_option maxHeartbeats 4000000 in
set_option maxRecDepth 100000 in
theorem PI_p4 {h : sr_H} {I n p : Nat} {b : Nat → Nat} {y : V} {z : Nat → Nat} (hI' : IOK I) (s : PI h I b n y p) (pe : ∀ j, 12 ≤ j → j ≤ 15 → hI h (I + off j) (y 0 4) = nI (z j)) : PI (sF h I 9 (.int (nI (y 0 4 + 1)))) I b n (psh y 4 12 15 z) p := by
  have f : Fr h (sF h I 9 (.int (nI (y 0 4 + 1)))) (fun a => I ≤ a ∧ a ≤ I + 32) := Fr_sF Fr.rf (erI (fld_8_9 s.1.2.2).2) (by omega)
  obtain ⟨q1, q2⟩ := PI_fr hI' s f
  have ts := TS_4 (v := y 0 4 + 1) s.1.2.2 s.2.2.1
  refine ⟨q1, q2, ?_, TA_psh s.2.2.2.1 (by omega) (fun a i => hI_sF) pe, ⟨fun s' hs => ?_, fun s' hs => ?_⟩⟩
  · unfold TS at ts ⊢
    simp only [vs_psh_4]
    exact ts
  · rw [vs_psh_4, vs_n (by omega)] at hs
    rw [hI_sF, psh_n (by omega) (by omega)]
    exact s.2.2.2.2.1 s' hs
  · rw [vs_psh_4, vs_n (by omega)] at hs
    rw [hI_sF]
    exact s.2.2.2.2.2 s' hs
theorem vs_psh_5 {y : V} {z : Nat → Nat} : ∀ j, psh y 5 16 18 z 0 j = vs y 0 5 (y 0 5 + 1) 0 j := by
  intro j
  by_cases q : j = 5
  · rw [q, psh_c, vs_y]
  · rw [psh_0 (by omega) q, vs_n (fun w => q w.2)]
set_option maxHeartbeats 4000000 in
set_option maxRecDepth 100000 in
theorem PI_p5 {h : sr_H} {I n p : Nat} {b : Nat → Nat} {y : V} {z : Nat → Nat} (hI' : IOK I) (s : PI h I b n y p) (pe : ∀ j, 16 ≤ j → j ≤ 18 → hI h (I + off j) (y 0 5) = nI (z j)) : PI (sF h I 14 (.int (nI (y 0 5 + 1)))) I b n (psh y 5 16 18 z) p := by
  have f : Fr h (sF h I 14 (.int (nI (y 0 5 + 1)))) (fun a => I ≤ a ∧ a ≤ I + 32) := Fr_sF Fr.rf (erI (fld_8_14 s.1.2.2).2) (by omega)
  obtain ⟨q1, q2⟩ := PI_fr hI' s f
  have ts := TS_5 (v := y 0 5 + 1) s.1.2.2 s.2.2.1
  refine ⟨q1, q2, ?_, TA_psh s.2.2.2.1 (by omega) (fun a i => hI_sF) pe, ⟨fun s' hs => ?_, fun s' hs => ?_⟩⟩
  · unfold TS at ts ⊢
    simp only [vs_psh_5]
    exact ts
  · rw [vs_psh_5, vs_n (by omega)] at hs
    rw [hI_sF, psh_n (by omega) (by omega)]
    exact s.2.2.2.2.1 s' hs
  · rw [vs_psh_5, vs_n (by omega)] at hs
    rw [hI_sF]
    exact s.2.2.2.2.2 s' hs
theorem vs_psh_13 {y : V} {z : Nat → Nat} : ∀ j, psh y 13 21 22 z 0 j = vs y 0 13 (y 0 13 + 1) 0 j := by
  intro j
  by_cases q : j = 13
  · rw [q, psh_c, vs_y]
  · rw [psh_0 (by omega) q, vs_n (fun w => q w.2)]
set_option maxHeartbeats 4000000 in
set_option maxRecDepth 100000 in
theorem PI_p13 {h : sr_H} {I n p : Nat} {b : Nat → Nat} {y : V} {z : Nat → Nat} (hI' : IOK I) (s : PI h I b n y p) (pe : ∀ j, 21 ≤ j → j ≤ 22 → hI h (I + off j) (y 0 13) = nI (z j)) : PI (sF h (I + 17) 1 (.int (nI (y 0 13 + 1)))) I b n (psh y 13 21 22 z) p := by
  have f : Fr h (sF h (I + 17) 1 (.int (nI (y 0 13 + 1)))) (fun a => I ≤ a ∧ a ≤ I + 32) := Fr_sF Fr.rf (erI (fld_2_1 (sub_8_laws s.1.2.2)).2) (by omega)
  obtain ⟨q1, q2⟩ := PI_fr hI' s f
  have ts := TS_13 (v := y 0 13 + 1) s.1.2.2 s.2.2.1
  refine ⟨q1, q2, ?_, TA_psh s.2.2.2.1 (by omega) (fun a i => hI_sF) pe, ⟨fun s' hs => ?_, fun s' hs => ?_⟩⟩
  · unfold TS at ts ⊢
    simp only [vs_psh_13]
    exact ts
  · rw [vs_psh_13, vs_n (by omega)] at hs
    rw [hI_sF, psh_n (by omega) (by omega)]
    exact s.2.2.2.2.1 s' hs
  · rw [vs_psh_13, vs_n (by omega)] at hs
    rw [hI_sF]
    exact s.2.2.2.2.2 s' hs
theorem vs_psh_3 {y : V} {z : Nat → Nat} : ∀ j, psh y 3 7 11 z 0 j = vs y 0 3 (y 0 3 + 1) 0 j := by
  intro j
  by_cases q : j = 3
  · rw [q, psh_c, vs_y]
  · rw [psh_0 (by omega) q, vs_n (fun w => q w.2)]
set_option maxHeartbeats 4000000 in
set_option maxRecDepth 100000 in
theorem PI_p3 {h : sr_H} {I n p : Nat} {b : Nat → Nat} {y : V} {z : Nat → Nat} (hI' : IOK I) (s : PI h I b n y p) (dn : hI h (I + 16) (y 0 3) = nI 0) (pe : ∀ j, 7 ≤ j → j ≤ 11 → hI h (I + off j) (y 0 3) = nI (z j)) : PI (sF h (I + 1) 1 (.int (nI (y 0 3 + 1)))) I b n (psh y 3 7 11 z) p := by
  have f : Fr h (sF h (I + 1) 1 (.int (nI (y 0 3 + 1)))) (fun a => I ≤ a ∧ a ≤ I + 32) := Fr_sF Fr.rf (erI (fld_5_1 (sub_8_start s.1.2.2)).2) (by omega)
  obtain ⟨q1, q2⟩ := PI_fr hI' s f
  have ts := TS_3 (v := y 0 3 + 1) s.1.2.2 s.2.2.1
  refine ⟨q1, q2, ?_, TA_psh s.2.2.2.1 (by omega) (fun a i => hI_sF) pe, ⟨fun s' hs => ?_, fun s' hs => ?_⟩⟩
  · unfold TS at ts ⊢
    simp only [vs_psh_3]
    exact ts
  · rw [vs_psh_3, vs_n (by omega)] at hs
    rw [hI_sF, psh_n (by omega) (by omega)]
    exact s.2.2.2.2.1 s' hs
  · rw [psh_c] at hs
    rw [hI_sF]
    by_cases e : s' = y 0 3
    · rw [e]; exact dn
    · exact s.2.2.2.2.2 s' (by omega)
