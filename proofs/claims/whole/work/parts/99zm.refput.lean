/-! The reference parses: what is told is written. -/
/-- a fault stands -/
def DD (k : Nat) (h : sr_H) : Prop := Mdl h ∧ fI h 141 33 = nI k
theorem ddI {k a i : Nat} {v : Int32} {h : sr_H} : DD k (sI h a i v) ↔ DD k h := ⟨fun z => ⟨z.1.ss (SS_sI h a i v).sy, by rw [← z.2, fI_sI]⟩, fun z => ⟨z.1.ss (SS_sI h a i v), by rw [fI_sI]; exact z.2⟩⟩
theorem mdI {a i : Nat} {v : Int32} {h : sr_H} : Mdl (sI h a i v) ↔ Mdl h := ⟨fun z => z.ss (SS_sI h a i v).sy, fun z => z.ss (SS_sI h a i v)⟩
theorem XF.dd {h : sr_H} {e : Nat × Nat} (x : XF h e) : DD e.1 h := ⟨x.1, x.2.1⟩
theorem FJ_sI {h h' : sr_H} {a i : Nat} {v : Int32} (f : FJ h h') (ha : 143 ≤ a ∧ a ≤ 165) (hi : hlf a ≤ i) : FJ h (sI h' a i v) := f.tr (FJ_i ha hi)
theorem XF_sI {h : sr_H} {a i : Nat} {v : Int32} {e : Nat × Nat} (x : XF h e) : XF (sI h a i v) e := ⟨x.1.ss (SS_sI h a i v), by rw [fI_sI]; exact x.2.1, by rw [fI_sI]; exact x.2.2.1, x.2.2.2⟩
theorem TLD_of {h h' : sr_H} {y : V} {op : Nat} (e : fI h' 141 26 = fI h 141 26) (t : TLD h y op) : TLD h' y op := by
  obtain ⟨τ, t1, t2⟩ := t
  exact ⟨τ, by rw [e]; exact t1, t2⟩
theorem TLD_y {h : sr_H} {y y' : V} {op : Nat} (e0 : y' 0 10 = y 0 10 ∧ y' 0 11 = y 0 11 ∧ y' 0 12 = y 0 12) (e1 : ∀ k, k < 3 → y' 19 k = y 19 k ∧ y' 20 k = y 20 k) (t : TLD h y op) : TLD h y' op := by
  obtain ⟨τ, t1, t2, t3, t4, t5, t6⟩ := t
  exact ⟨τ, t1, t2, by rw [e0.1]; exact t3, by rw [e0.2.1]; exact t4, by rw [e0.2.2]; exact t5, fun k hk => by rw [(e1 k hk).1, (e1 k hk).2]; exact t6 k hk⟩
theorem TQ_sI {h : sr_H} {a i K v p : Nat} {u : Int32} (t : TQ h K v p) : TQ (sI h a i u) K v p := by
  unfold TQ at *
  simp only [fI_sI]
  exact t
theorem PJ_cell {h : sr_H} {b : Nat → Nat} {n p op j k : Nat} {v : Int32} {y : V} (s : PJ h b n y p op) (h1 : 1 ≤ j) (h2 : j ≤ 18) (hk : cn y j ≤ k) : PJ (sI h (143 + j) (hlf (143 + j) + k) v) b n y p op := by
  obtain ⟨⟨s1, s2⟩, ⟨s3, t3⟩, ⟨s4, s5, s6⟩, ⟨s7, s8⟩, ⟨s9, s10, s11⟩, a1, a2, a3⟩ := s
  have o : ∀ a i, ¬ a = 143 + j → hI (sI h (143 + j) (hlf (143 + j) + k) v) a i = hI h a i := fun a i ha => hI_n (fun z => ha z.1)
  refine ⟨⟨s1.ss (SS_sI _ _ _ _), fun i hi => by rw [o _ _ (by omega)]; exact s2.1 i hi, by rw [fI_sI]; exact s2.2⟩, ⟨by rw [fI_sI]; exact s3, TQ_sI t3⟩, ⟨by rw [fI_sI]; exact s4, by rw [fI_sI]; exact s5, by rw [fI_sI]; exact s6⟩, ⟨fun i hi => by rw [o _ _ (by omega)]; exact s7 i hi, by rw [o _ _ (by omega)]; exact s8⟩, ⟨by rw [fI_sI]; exact s9, by rw [fI_sI]; exact s10, TLD_of fI_sI s11⟩, fun i g1 g2 m hm => ?_, fun m hm => by rw [o _ _ (by omega), o _ _ (by omega)]; exact a2 m hm, fun m hm => by rw [o _ _ (by omega), o _ _ (by omega)]; exact a3 m hm⟩
  by_cases c : i = j
  · subst c
    rw [hI_n (by omega)]
    exact a1 i g1 g2 m hm
  · rw [o _ _ (by omega)]
    exact a1 i g1 g2 m hm
theorem PJ_num {h : sr_H} {b : Nat → Nat} {n p op j v : Nat} {y : V} (s : PJ h b n y p op) (hj : j = 0 ∨ j = 1 ∨ j = 6 ∨ j = 7) : PJ (sI h 143 (9 + j) (nI v)) b n (vs y 0 j v) p op := by
  obtain ⟨⟨s1, s2⟩, ⟨s3, t3⟩, ⟨s4, s5, s6⟩, ⟨s7, s8⟩, ⟨s9, s10, s11⟩, a1, a2, a3⟩ := s
  have o : ∀ a i, ¬ a = 143 → hI (sI h 143 (9 + j) (nI v)) a i = hI h a i := fun a i ha => hI_n (fun z => ha z.1)
  refine ⟨⟨s1.ss (SS_sI _ _ _ _), fun i hi => by rw [o _ _ (by omega)]; exact s2.1 i hi, by rw [fI_sI]; exact s2.2⟩, ⟨by rw [fI_sI]; exact s3, TQ_sI t3⟩, ⟨by rw [fI_sI]; exact s4, by rw [fI_sI]; exact s5, by rw [fI_sI]; exact s6⟩, ⟨fun i hi => ?_, by rw [hI_n (by omega), vs_n (by omega)]; exact s8⟩, ⟨by rw [fI_sI, vs_n (by omega)]; exact s9, by rw [fI_sI, vs_n (by omega)]; exact s10, TLD_of fI_sI (TLD_y ⟨vs_n (by omega), vs_n (by omega), vs_n (by omega)⟩ (fun k _ => ⟨vs_n (by omega), vs_n (by omega)⟩) s11)⟩, fun i g1 g2 m hm => ?_, fun m hm => by rw [o _ _ (by omega), o _ _ (by omega), vs_n (by omega), vs_n (by omega)]; exact a2 m hm, fun m hm => ?_⟩
  · by_cases c : i = j
    · subst c
      rw [hI_y (arr_11_3 s1).2.1, vs_y]
    · rw [hI_n (by omega), vs_n (by omega)]
      exact s7 i hi
  · have ec : cn (vs y 0 j v) i = cn y i := by
      unfold cn
      rw [vs_n (by omega), vs_n (by omega), vs_n (by omega), vs_n (by omega), vs_n (by omega)]
    rw [ec] at hm
    rw [o _ _ (by omega), vs_n (by omega)]
    exact a1 i g1 g2 m hm
  · rw [vs_n (by omega)] at hm
    rw [o _ _ (by omega), o _ _ (by omega), vs_n (by omega), vs_n (by omega)]
    exact a3 m hm
theorem PJ_psh {h : sr_H} {b : Nat → Nat} {n p op c lo hi : Nat} {y : V} {z : Nat → Nat} (s : PJ h b n y p op) (hc : (c = 2 ∧ lo = 1 ∧ hi = 6) ∨ (c = 3 ∧ lo = 7 ∧ hi = 11) ∨ (c = 4 ∧ lo = 12 ∧ hi = 15) ∨ (c = 5 ∧ lo = 16 ∧ hi = 18)) (pe : ∀ j, lo ≤ j → j ≤ hi → hI h (143 + j) (hlf (143 + j) + y 0 c) = nI (z j)) : PJ (sI h 143 (9 + c) (nI (y 0 c + 1))) b n (psh y c lo hi z) p op := by
  obtain ⟨⟨s1, s2⟩, ⟨s3, t3⟩, ⟨s4, s5, s6⟩, ⟨s7, s8⟩, ⟨s9, s10, s11⟩, a1, a2, a3⟩ := s
  have o : ∀ a i, ¬ a = 143 → hI (sI h 143 (9 + c) (nI (y 0 c + 1))) a i = hI h a i := fun a i ha => hI_n (fun z => ha z.1)
  have p0 : ∀ j, ¬ j = c → psh y c lo hi z 0 j = y 0 j := fun j hj => psh_0 (by omega) hj
  have pn : ∀ i j, 19 ≤ i → psh y c lo hi z i j = y i j := fun i j hi => psh_n (by omega) (by omega)
  refine ⟨⟨s1.ss (SS_sI _ _ _ _), fun i hi => by rw [o _ _ (by omega)]; exact s2.1 i hi, by rw [fI_sI]; exact s2.2⟩, ⟨by rw [fI_sI]; exact s3, TQ_sI t3⟩, ⟨by rw [fI_sI]; exact s4, by rw [fI_sI]; exact s5, by rw [fI_sI]; exact s6⟩, ⟨fun i hi => ?_, by rw [hI_n (by omega), p0 _ (by omega)]; exact s8⟩, ⟨by rw [fI_sI, p0 _ (by omega)]; exact s9, by rw [fI_sI, p0 _ (by omega)]; exact s10, TLD_of fI_sI (TLD_y ⟨p0 _ (by omega), p0 _ (by omega), p0 _ (by omega)⟩ (fun k _ => ⟨pn _ _ (by omega), pn _ _ (by omega)⟩) s11)⟩, fun i g1 g2 m hm => ?_, fun m hm => by rw [o _ _ (by omega), o _ _ (by omega), pn _ _ (by omega), pn _ _ (by omega)]; exact a2 m hm, fun m hm => ?_⟩
  · by_cases e : i = c
    · subst e
      rw [hI_y (arr_11_3 s1).2.1, psh_c]
    · rw [hI_n (by omega), p0 _ e]
      exact s7 i hi
  · have hcn : cn (psh y c lo hi z) i = if lo ≤ i ∧ i ≤ hi then y 0 c + 1 else cn y i := by
      unfold cn
      rcases hc with ⟨rfl, rfl, rfl⟩ | ⟨rfl, rfl, rfl⟩ | ⟨rfl, rfl, rfl⟩ | ⟨rfl, rfl, rfl⟩
      all_goals
        simp (disch := omega) only [psh_c, psh_0]
        repeat' split
        all_goals first | rfl | omega
    rw [hcn] at hm
    rw [o _ _ (by omega)]
    by_cases q : lo ≤ i ∧ i ≤ hi
    · rw [if_pos q] at hm
      by_cases q2 : m = y 0 c
      · rw [q2, psh_z (by omega) q.1 q.2]
        exact pe i q.1 q.2
      · rw [psh_n g1 (fun w => q2 w.2)]
        refine a1 i g1 g2 m ?_
        unfold cn
        rcases hc with ⟨rfl, rfl, rfl⟩ | ⟨rfl, rfl, rfl⟩ | ⟨rfl, rfl, rfl⟩ | ⟨rfl, rfl, rfl⟩
        all_goals
          repeat' split
          all_goals omega
    · rw [if_neg q] at hm
      rw [psh_n g1 (fun w => q w.1)]
      exact a1 i g1 g2 m hm
  · rw [p0 _ (by omega)] at hm
    rw [o _ _ (by omega), o _ _ (by omega), pn _ _ (by omega), pn _ _ (by omega)]
    exact a3 m hm
theorem bt_or {t u j : Nat} : (t ||| 2 ^ u) / 2 ^ j % 2 = if j = u then 1 else t / 2 ^ j % 2 := by
  have a := Nat.testBit_or t (2 ^ u) j
  rw [Nat.testBit_two_pow] at a
  simp only [Nat.testBit_eq_decide_div_mod_eq] at a
  by_cases c : j = u
  · subst c
    rw [if_pos rfl]
    simpa using a
  · rw [if_neg c]
    have c' : ¬ u = j := fun z => c z.symm
    have h1 : (t ||| 2 ^ u) / 2 ^ j % 2 < 2 := Nat.mod_lt _ (by omega)
    have h2 : t / 2 ^ j % 2 < 2 := Nat.mod_lt _ (by omega)
    by_cases q : t / 2 ^ j % 2 = 1
    · simp [c', q] at a
      omega
    · simp [c', q] at a
      omega
def tlY (y : V) (u : Nat) : V := if u = 0 then vs y 0 10 1 else if u = 5 then vs y 0 11 1 else if u = 6 then vs y 0 12 1 else y
theorem tlY_n {y : V} {u i j : Nat} (h : ¬ (i = 0 ∧ 10 ≤ j ∧ j ≤ 12)) : tlY y u i j = y i j := by
  unfold tlY
  split
  · exact vs_n (by omega)
  · split
    · exact vs_n (by omega)
    · split
      · exact vs_n (by omega)
      · rfl
theorem shl_8 : ∀ u, u < 20 → nI 1 <<< (nI u &&& 31) = nI (2 ^ u) := by decide +kernel
theorem PJ_26 {h : sr_H} {b : Nat → Nat} {n p u τ : Nat} {y : V} (s : PJ h b n y p 0) (hu : u < 8) (t1 : fI h 141 26 = nI τ) (ht : τ < 2 ^ 20 ∧ τ % 2 = y 0 10 ∧ τ / 2 ^ 5 % 2 = y 0 11 ∧ τ / 2 ^ 6 % 2 = y 0 12 ∧ ∀ k, k < 3 → (τ / 2 ^ (16 + k) % 2 = 1 ↔ y 19 k < y 20 k)) : PJ (sF h 141 26 (.int (nI (τ ||| 2 ^ u)))) b n (tlY y u) p 0 := by
  obtain ⟨⟨s1, s2⟩, ⟨s3, t3⟩, ⟨s4, s5, s6⟩, ⟨s7, s8⟩, ⟨s9, s10, s11⟩, a1, a2, a3⟩ := s
  obtain ⟨t2, t3', t4, t5, t6⟩ := ht
  have f1 : FJ h (sF h 141 26 (.int (nI (τ ||| 2 ^ u)))) := FJ_f (erI (fld_11_26 s1).2) (by omega)
  have hu20 : 2 ^ u < 2 ^ 20 := Nat.pow_lt_pow_right (by omega) (by omega)
  refine ⟨⟨s1.ss f1.1, fun i hi => by rw [hI_sF]; exact s2.1 i hi, by rw [fI_n (by omega)]; exact s2.2⟩, ⟨by rw [fI_n (by omega)]; exact s3, ?_⟩, ⟨by rw [fI_n (by omega)]; exact s4, by rw [fI_n (by omega)]; exact s5, by rw [fI_n (by omega)]; exact s6⟩, ⟨fun i hi => by rw [hI_sF, tlY_n (by omega)]; exact s7 i hi, by rw [hI_sF, tlY_n (by omega)]; exact s8⟩, ⟨by rw [fI_n (by omega), tlY_n (by omega)]; exact s9, by rw [fI_n (by omega), tlY_n (by omega)]; exact s10, τ ||| 2 ^ u, fI_y (fld_11_26 s1).1.2, Nat.or_lt_two_pow t2 hu20, ?_, ?_, ?_, fun k hk => ?_⟩, fun i g1 g2 m hm => ?_, fun m hm => by rw [hI_sF, hI_sF, tlY_n (by omega), tlY_n (by omega)]; exact a2 m hm, fun m hm => ?_⟩
  · unfold TQ at *
    rw [fI_n (by omega), fI_n (by omega), fI_n (by omega)]
    exact t3
  · have := bt_or (t := τ) (u := u) (j := 0)
    rw [Nat.pow_zero, Nat.div_one, Nat.div_one] at this
    rw [this]
    unfold tlY
    by_cases c : u = 0
    · rw [if_pos c.symm, if_pos c]; exact vs_y.symm
    · rw [if_neg (fun z => c z.symm), if_neg c, t3']
      split
      · exact (vs_n (by omega)).symm
      · split
        · exact (vs_n (by omega)).symm
        · rfl
  · rw [bt_or]
    unfold tlY
    by_cases c : u = 5
    · rw [if_pos c.symm, if_neg (by omega), if_pos c]; exact vs_y.symm
    · rw [if_neg (fun z => c z.symm), if_neg c, t4]
      split
      · exact (vs_n (by omega)).symm
      · split
        · exact (vs_n (by omega)).symm
        · rfl
  · rw [bt_or]
    unfold tlY
    by_cases c : u = 6
    · rw [if_pos c.symm, if_neg (by omega), if_neg (by omega), if_pos c]; exact vs_y.symm
    · rw [if_neg (fun z => c z.symm), if_neg c, t5]
      split
      · exact (vs_n (by omega)).symm
      · split
        · exact (vs_n (by omega)).symm
        · rfl
  · rw [bt_or, if_neg (by omega), tlY_n (by omega), tlY_n (by omega)]
    exact ⟨fun z => Or.inr ((t6 k hk).mp z), fun z => (t6 k hk).mpr (z.resolve_left (by omega))⟩
  · have ec : cn (tlY y u) i = cn y i := by
      unfold cn
      rw [tlY_n (by omega), tlY_n (by omega), tlY_n (by omega), tlY_n (by omega), tlY_n (by omega)]
    rw [ec] at hm
    rw [hI_sF, tlY_n (by omega)]
    exact a1 i g1 g2 m hm
  · rw [tlY_n (by omega)] at hm
    rw [hI_sF, hI_sF, tlY_n (by omega), tlY_n (by omega)]
    exact a3 m hm
theorem PJ_9 {h : sr_H} {b : Nat → Nat} {n p op v : Nat} {y : V} (s : PJ h b n y p op) : PJ (sF h 141 27 (.int (nI v))) b n (vs y 0 9 v) p op := by
  obtain ⟨⟨s1, s2⟩, ⟨s3, t3⟩, ⟨s4, s5, s6⟩, ⟨s7, s8⟩, ⟨s9, s10, s11⟩, a1, a2, a3⟩ := s
  have f1 : FJ h (sF h 141 27 (.int (nI v))) := FJ_f (erI (fld_11_27 s1).2) (by omega)
  refine ⟨⟨s1.ss f1.1, fun i hi => by rw [hI_sF]; exact s2.1 i hi, by rw [fI_n (by omega)]; exact s2.2⟩, ⟨by rw [fI_n (by omega)]; exact s3, ?_⟩, ⟨by rw [fI_n (by omega)]; exact s4, by rw [fI_n (by omega)]; exact s5, by rw [fI_n (by omega)]; exact s6⟩, ⟨fun i hi => by rw [hI_sF, vs_n (by omega)]; exact s7 i hi, by rw [hI_sF, vs_n (by omega)]; exact s8⟩, ⟨by rw [fI_n (by omega), vs_n (by omega)]; exact s9, by rw [vs_y]; exact fI_y (fld_11_27 s1).1.2, TLD_of (fI_n (by omega)) (TLD_y ⟨vs_n (by omega), vs_n (by omega), vs_n (by omega)⟩ (fun k _ => ⟨vs_n (by omega), vs_n (by omega)⟩) s11)⟩, fun i g1 g2 m hm => ?_, fun m hm => by rw [hI_sF, hI_sF, vs_n (by omega), vs_n (by omega)]; exact a2 m hm, fun m hm => ?_⟩
  · unfold TQ at *
    rw [fI_n (by omega), fI_n (by omega), fI_n (by omega)]
    exact t3
  · have ec : cn (vs y 0 9 v) i = cn y i := by
      unfold cn
      rw [vs_n (by omega), vs_n (by omega), vs_n (by omega), vs_n (by omega), vs_n (by omega)]
    rw [ec] at hm
    rw [hI_sF, vs_n (by omega)]
    exact a1 i g1 g2 m hm
  · rw [vs_n (by omega)] at hm
    rw [hI_sF, hI_sF, vs_n (by omega), vs_n (by omega)]
    exact a3 m hm
