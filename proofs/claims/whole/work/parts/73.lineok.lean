/-! What a line tells is within bounds. -/
theorem pend_ok {b : Nat → Nat} {n p p' : Nat} {y y' : V} (hp : p ≤ n) (e : pend b n y p = .inr (y', p')) : y' = y ∧ p < p' ∧ p' ≤ n := by
  unfold pend at e
  by_cases q : tK b n p = 4
  · rw [if_pos q] at e
    cases e
    obtain ⟨h1, h2⟩ := tN_lt (b := b) hp (by omega)
    exact ⟨rfl, h1, h2⟩
  · rw [if_neg q] at e; cases e
theorem bd_i {α β : Type} {o : (Nat × Nat) ⊕ α} {f : α → (Nat × Nat) ⊕ β} {z : β} (e : bd o f = .inr z) : ∃ a, o = .inr a ∧ f a = .inr z := by
  cases o with
  | inl x => cases e
  | inr a => exact ⟨a, rfl, e⟩
def Wz (y : V) : Prop := Wy y ∧ y 0 13 = y 0 8
theorem Wz_s {y y' : V} (hy : Wz y) (hr : ∀ i k, 1 ≤ i → y' i k = y i k) (h0 : (y' 0 0 = y 0 0 ∧ y' 0 1 = y 0 1) ∨ (y 0 2 = 0 ∧ y 0 3 = 0 ∧ (1 ≤ y' 0 0 ∧ y' 0 0 ≤ 8) ∧ 1 ≤ y' 0 1 ∧ y' 0 1 ≤ 8)) (hc : ∀ j, (j = 2 ∨ j = 3 ∨ j = 4 ∨ j = 5 ∨ j = 8 ∨ j = 13) → y' 0 j = y 0 j) (hb : y' 0 6 ≤ 100 ∧ y' 0 7 ≤ 99999 ∧ y' 0 9 ≤ 700 ∧ y' 0 10 ≤ 1 ∧ y' 0 11 ≤ 1 ∧ y' 0 12 ≤ 1) : Wz y' := by
  obtain ⟨⟨⟨a0, a1, a2, a3, a4, a5, a6, a7, a8, a9, a10, a11, a12, a13⟩, s1, s2, s3, s4, s5, s6⟩, h8⟩ := hy
  have c2 := hc 2 (by omega)
  have c3 := hc 3 (by omega)
  have c4 := hc 4 (by omega)
  have c5 := hc 5 (by omega)
  have c8 := hc 8 (by omega)
  have c13 := hc 13 (by omega)
  obtain ⟨b6, b7, b9, b10, b11, b12⟩ := hb
  refine ⟨⟨⟨by omega, by omega, by omega, by omega, by omega, by omega, b6, b7, by omega, b9, b10, b11, b12, by omega⟩, fun s h => ?_, fun s h => ?_, fun s h => ?_, fun s h => ?_, fun s h => ?_, fun s h => ?_⟩, by omega⟩
  · rw [c2] at h
    rw [hr 1 s (by omega), hr 2 s (by omega), hr 3 s (by omega), hr 4 s (by omega), hr 5 s (by omega), hr 6 s (by omega)]
    have := s1 s h
    omega
  · rw [c3] at h
    rw [hr 7 s (by omega), hr 8 s (by omega), hr 9 s (by omega), hr 10 s (by omega), hr 11 s (by omega)]
    have := s2 s h
    omega
  · rw [c4] at h
    rw [hr 12 s (by omega), hr 13 s (by omega), hr 14 s (by omega), hr 15 s (by omega), c2]
    exact s3 s h
  · rw [c5] at h
    rw [hr 16 s (by omega), hr 17 s (by omega), hr 18 s (by omega), c3]
    exact s4 s h
  · rw [hr 19 s (by omega), hr 20 s (by omega), c13]
    exact s5 s h
  · rw [c13] at h
    rw [hr 21 s (by omega), hr 22 s (by omega)]
    exact s6 s h
theorem Wz_p2 {y : V} {z : Nat → Nat} (hy : Wz y) (hn : y 0 2 < 5) (hz : z 1 < 2 ^ 30 ∧ z 2 < 4 ∧ z 3 < y 0 0 ∧ z 4 < y 0 1 ∧ (1 ≤ z 5 ∧ z 5 ≤ 4) ∧ z 6 ≤ 1) : Wz (psh y 2 1 6 z) := by
  obtain ⟨⟨⟨a0, a1, a2, a3, a4, a5, a6, a7, a8, a9, a10, a11, a12, a13⟩, s1, s2, s3, s4, s5, s6⟩, h8⟩ := hy
  have e0 : ∀ j, ¬ j = 2 → psh y 2 1 6 z 0 j = y 0 j := fun j hj => psh_0 (by omega) hj
  have ec : psh y 2 1 6 z 0 2 = y 0 2 + 1 := psh_c
  have en : ∀ i k, 1 ≤ i → ¬ (1 ≤ i ∧ i ≤ 6) → psh y 2 1 6 z i k = y i k := fun i k h h1 => psh_n h (fun w => h1 w.1)
  have ek : ∀ i k, 1 ≤ i → ¬ k = y 0 2 → psh y 2 1 6 z i k = y i k := fun i k h h1 => psh_n h (fun w => h1 w.2)
  have ez : ∀ i, 1 ≤ i → i ≤ 6 → psh y 2 1 6 z i (y 0 2) = z i := fun i h1 h2 => psh_z (by omega) h1 h2
  have c0 := e0 0 (by omega)
  have c1 := e0 1 (by omega)
  have c3 := e0 3 (by omega)
  have c4 := e0 4 (by omega)
  have c5 := e0 5 (by omega)
  have c6 := e0 6 (by omega)
  have c7 := e0 7 (by omega)
  have c8 := e0 8 (by omega)
  have c9 := e0 9 (by omega)
  have c10 := e0 10 (by omega)
  have c11 := e0 11 (by omega)
  have c12 := e0 12 (by omega)
  have c13 := e0 13 (by omega)
  refine ⟨⟨⟨by omega, by omega, by omega, by omega, by omega, by omega, by omega, by omega, by omega, by omega, by omega, by omega, by omega, by omega⟩, fun s h => ?_, fun s h => ?_, fun s h => ?_, fun s h => ?_, fun s h => ?_, fun s h => ?_⟩, by omega⟩
  · by_cases q : s = y 0 2
    · rw [q, ez 1 (by omega) (by omega), ez 2 (by omega) (by omega), ez 3 (by omega) (by omega), ez 4 (by omega) (by omega), ez 5 (by omega) (by omega), ez 6 (by omega) (by omega)]
      omega
    · rw [ek 1 s (by omega) q, ek 2 s (by omega) q, ek 3 s (by omega) q, ek 4 s (by omega) q, ek 5 s (by omega) q, ek 6 s (by omega) q]
      have := s1 s (by omega)
      omega
  · rw [en 7 s (by omega) (by omega), en 8 s (by omega) (by omega), en 9 s (by omega) (by omega), en 10 s (by omega) (by omega), en 11 s (by omega) (by omega)]
    have := s2 s (by omega)
    omega
  · rw [en 12 s (by omega) (by omega), en 13 s (by omega) (by omega), en 14 s (by omega) (by omega), en 15 s (by omega) (by omega)]
    have := s3 s (by omega)
    omega
  · rw [en 16 s (by omega) (by omega), en 17 s (by omega) (by omega), en 18 s (by omega) (by omega)]
    have := s4 s (by omega)
    omega
  · rw [en 19 s (by omega) (by omega), en 20 s (by omega) (by omega)]
    have := s5 s h
    omega
  · rw [en 21 s (by omega) (by omega), en 22 s (by omega) (by omega)]
    have := s6 s (by omega)
    omega
theorem Wz_p3 {y : V} {z : Nat → Nat} (hy : Wz y) (hn : y 0 3 < 6) (hz : z 7 < 2 ^ 30 ∧ z 8 ≤ 99 ∧ z 9 < y 0 0 ∧ z 10 < y 0 1 ∧ z 11 < 4) : Wz (psh y 3 7 11 z) := by
  obtain ⟨⟨⟨a0, a1, a2, a3, a4, a5, a6, a7, a8, a9, a10, a11, a12, a13⟩, s1, s2, s3, s4, s5, s6⟩, h8⟩ := hy
  have e0 : ∀ j, ¬ j = 3 → psh y 3 7 11 z 0 j = y 0 j := fun j hj => psh_0 (by omega) hj
  have ec : psh y 3 7 11 z 0 3 = y 0 3 + 1 := psh_c
  have en : ∀ i k, 1 ≤ i → ¬ (7 ≤ i ∧ i ≤ 11) → psh y 3 7 11 z i k = y i k := fun i k h h1 => psh_n h (fun w => h1 w.1)
  have ek : ∀ i k, 1 ≤ i → ¬ k = y 0 3 → psh y 3 7 11 z i k = y i k := fun i k h h1 => psh_n h (fun w => h1 w.2)
  have ez : ∀ i, 7 ≤ i → i ≤ 11 → psh y 3 7 11 z i (y 0 3) = z i := fun i h1 h2 => psh_z (by omega) h1 h2
  have c0 := e0 0 (by omega)
  have c1 := e0 1 (by omega)
  have c2 := e0 2 (by omega)
  have c4 := e0 4 (by omega)
  have c5 := e0 5 (by omega)
  have c6 := e0 6 (by omega)
  have c7 := e0 7 (by omega)
  have c8 := e0 8 (by omega)
  have c9 := e0 9 (by omega)
  have c10 := e0 10 (by omega)
  have c11 := e0 11 (by omega)
  have c12 := e0 12 (by omega)
  have c13 := e0 13 (by omega)
  refine ⟨⟨⟨by omega, by omega, by omega, by omega, by omega, by omega, by omega, by omega, by omega, by omega, by omega, by omega, by omega, by omega⟩, fun s h => ?_, fun s h => ?_, fun s h => ?_, fun s h => ?_, fun s h => ?_, fun s h => ?_⟩, by omega⟩
  · rw [en 1 s (by omega) (by omega), en 2 s (by omega) (by omega), en 3 s (by omega) (by omega), en 4 s (by omega) (by omega), en 5 s (by omega) (by omega), en 6 s (by omega) (by omega)]
    have := s1 s (by omega)
    omega
  · by_cases q : s = y 0 3
    · rw [q, ez 7 (by omega) (by omega), ez 8 (by omega) (by omega), ez 9 (by omega) (by omega), ez 10 (by omega) (by omega), ez 11 (by omega) (by omega)]
      omega
    · rw [ek 7 s (by omega) q, ek 8 s (by omega) q, ek 9 s (by omega) q, ek 10 s (by omega) q, ek 11 s (by omega) q]
      have := s2 s (by omega)
      omega
  · rw [en 12 s (by omega) (by omega), en 13 s (by omega) (by omega), en 14 s (by omega) (by omega), en 15 s (by omega) (by omega)]
    have := s3 s (by omega)
    omega
  · rw [en 16 s (by omega) (by omega), en 17 s (by omega) (by omega), en 18 s (by omega) (by omega)]
    have := s4 s (by omega)
    omega
  · rw [en 19 s (by omega) (by omega), en 20 s (by omega) (by omega)]
    have := s5 s h
    omega
  · rw [en 21 s (by omega) (by omega), en 22 s (by omega) (by omega)]
    have := s6 s (by omega)
    omega
theorem Wz_p4 {y : V} {z : Nat → Nat} (hy : Wz y) (hn : y 0 4 < 10) (hz : z 12 < y 0 2 ∧ z 13 ≤ 99 ∧ z 14 < 8 ∧ z 15 < 8) : Wz (psh y 4 12 15 z) := by
  obtain ⟨⟨⟨a0, a1, a2, a3, a4, a5, a6, a7, a8, a9, a10, a11, a12, a13⟩, s1, s2, s3, s4, s5, s6⟩, h8⟩ := hy
  have e0 : ∀ j, ¬ j = 4 → psh y 4 12 15 z 0 j = y 0 j := fun j hj => psh_0 (by omega) hj
  have ec : psh y 4 12 15 z 0 4 = y 0 4 + 1 := psh_c
  have en : ∀ i k, 1 ≤ i → ¬ (12 ≤ i ∧ i ≤ 15) → psh y 4 12 15 z i k = y i k := fun i k h h1 => psh_n h (fun w => h1 w.1)
  have ek : ∀ i k, 1 ≤ i → ¬ k = y 0 4 → psh y 4 12 15 z i k = y i k := fun i k h h1 => psh_n h (fun w => h1 w.2)
  have ez : ∀ i, 12 ≤ i → i ≤ 15 → psh y 4 12 15 z i (y 0 4) = z i := fun i h1 h2 => psh_z (by omega) h1 h2
  have c0 := e0 0 (by omega)
  have c1 := e0 1 (by omega)
  have c2 := e0 2 (by omega)
  have c3 := e0 3 (by omega)
  have c5 := e0 5 (by omega)
  have c6 := e0 6 (by omega)
  have c7 := e0 7 (by omega)
  have c8 := e0 8 (by omega)
  have c9 := e0 9 (by omega)
  have c10 := e0 10 (by omega)
  have c11 := e0 11 (by omega)
  have c12 := e0 12 (by omega)
  have c13 := e0 13 (by omega)
  refine ⟨⟨⟨by omega, by omega, by omega, by omega, by omega, by omega, by omega, by omega, by omega, by omega, by omega, by omega, by omega, by omega⟩, fun s h => ?_, fun s h => ?_, fun s h => ?_, fun s h => ?_, fun s h => ?_, fun s h => ?_⟩, by omega⟩
  · rw [en 1 s (by omega) (by omega), en 2 s (by omega) (by omega), en 3 s (by omega) (by omega), en 4 s (by omega) (by omega), en 5 s (by omega) (by omega), en 6 s (by omega) (by omega)]
    have := s1 s (by omega)
    omega
  · rw [en 7 s (by omega) (by omega), en 8 s (by omega) (by omega), en 9 s (by omega) (by omega), en 10 s (by omega) (by omega), en 11 s (by omega) (by omega)]
    have := s2 s (by omega)
    omega
  · by_cases q : s = y 0 4
    · rw [q, ez 12 (by omega) (by omega), ez 13 (by omega) (by omega), ez 14 (by omega) (by omega), ez 15 (by omega) (by omega)]
      omega
    · rw [ek 12 s (by omega) q, ek 13 s (by omega) q, ek 14 s (by omega) q, ek 15 s (by omega) q]
      have := s3 s (by omega)
      omega
  · rw [en 16 s (by omega) (by omega), en 17 s (by omega) (by omega), en 18 s (by omega) (by omega)]
    have := s4 s (by omega)
    omega
  · rw [en 19 s (by omega) (by omega), en 20 s (by omega) (by omega)]
    have := s5 s h
    omega
  · rw [en 21 s (by omega) (by omega), en 22 s (by omega) (by omega)]
    have := s6 s (by omega)
    omega
theorem Wz_p5 {y : V} {z : Nat → Nat} (hy : Wz y) (hn : y 0 5 < 12) (hz : z 16 < y 0 3 ∧ z 17 ≤ 99 ∧ z 18 < 4) : Wz (psh y 5 16 18 z) := by
  obtain ⟨⟨⟨a0, a1, a2, a3, a4, a5, a6, a7, a8, a9, a10, a11, a12, a13⟩, s1, s2, s3, s4, s5, s6⟩, h8⟩ := hy
  have e0 : ∀ j, ¬ j = 5 → psh y 5 16 18 z 0 j = y 0 j := fun j hj => psh_0 (by omega) hj
  have ec : psh y 5 16 18 z 0 5 = y 0 5 + 1 := psh_c
  have en : ∀ i k, 1 ≤ i → ¬ (16 ≤ i ∧ i ≤ 18) → psh y 5 16 18 z i k = y i k := fun i k h h1 => psh_n h (fun w => h1 w.1)
  have ek : ∀ i k, 1 ≤ i → ¬ k = y 0 5 → psh y 5 16 18 z i k = y i k := fun i k h h1 => psh_n h (fun w => h1 w.2)
  have ez : ∀ i, 16 ≤ i → i ≤ 18 → psh y 5 16 18 z i (y 0 5) = z i := fun i h1 h2 => psh_z (by omega) h1 h2
  have c0 := e0 0 (by omega)
  have c1 := e0 1 (by omega)
  have c2 := e0 2 (by omega)
  have c3 := e0 3 (by omega)
  have c4 := e0 4 (by omega)
  have c6 := e0 6 (by omega)
  have c7 := e0 7 (by omega)
  have c8 := e0 8 (by omega)
  have c9 := e0 9 (by omega)
  have c10 := e0 10 (by omega)
  have c11 := e0 11 (by omega)
  have c12 := e0 12 (by omega)
  have c13 := e0 13 (by omega)
  refine ⟨⟨⟨by omega, by omega, by omega, by omega, by omega, by omega, by omega, by omega, by omega, by omega, by omega, by omega, by omega, by omega⟩, fun s h => ?_, fun s h => ?_, fun s h => ?_, fun s h => ?_, fun s h => ?_, fun s h => ?_⟩, by omega⟩
  · rw [en 1 s (by omega) (by omega), en 2 s (by omega) (by omega), en 3 s (by omega) (by omega), en 4 s (by omega) (by omega), en 5 s (by omega) (by omega), en 6 s (by omega) (by omega)]
    have := s1 s (by omega)
    omega
  · rw [en 7 s (by omega) (by omega), en 8 s (by omega) (by omega), en 9 s (by omega) (by omega), en 10 s (by omega) (by omega), en 11 s (by omega) (by omega)]
    have := s2 s (by omega)
    omega
  · rw [en 12 s (by omega) (by omega), en 13 s (by omega) (by omega), en 14 s (by omega) (by omega), en 15 s (by omega) (by omega)]
    have := s3 s (by omega)
    omega
  · by_cases q : s = y 0 5
    · rw [q, ez 16 (by omega) (by omega), ez 17 (by omega) (by omega), ez 18 (by omega) (by omega)]
      omega
    · rw [ek 16 s (by omega) q, ek 17 s (by omega) q, ek 18 s (by omega) q]
      have := s4 s (by omega)
      omega
  · rw [en 19 s (by omega) (by omega), en 20 s (by omega) (by omega)]
    have := s5 s h
    omega
  · rw [en 21 s (by omega) (by omega), en 22 s (by omega) (by omega)]
    have := s6 s (by omega)
    omega
theorem lnMoth_ok {b : Nat → Nat} {n p p' : Nat} {y y' : V} (hp : p ≤ n) (hk : ¬ tK b n p = 0) (hy : Wz y) (e : lnMoth b n y p = .inr (y', p')) : Wz y' ∧ (p < p' ∧ p' ≤ n) ∧ y' 0 9 = y 0 9 := by
  have hy' := hy
  obtain ⟨⟨⟨a0, a1, a2, a3, a4, a5, a6, a7, a8, a9, a10, a11, a12, a13⟩, -⟩, h8⟩ := hy
  unfold lnMoth at e
  by_cases q : y 0 11 = 0
  · rw [if_pos q] at e
    obtain ⟨a, e1, e2⟩ := bd_i e
    obtain ⟨t1, t2⟩ := tN_lt hp hk
    obtain ⟨z1, z2, z3⟩ := pnum_sp (v := a.1) (p' := a.2) t2 e1
    obtain ⟨rfl, g1, g2⟩ := pend_ok z2 e2
    refine ⟨Wz_s hy' (fun i k h => by rw [vs_n (by omega), vs_n (by omega)]) (Or.inl ⟨rfl, rfl⟩) (fun j hj => by rw [vs_n (by omega), vs_n (by omega)]) ⟨z1.2, a7, a9, a10, Nat.le_refl 1, a12⟩, ⟨by omega, g2⟩, rfl⟩
  · rw [if_neg q] at e; cases e
theorem lnSeed_ok {b : Nat → Nat} {n p p' : Nat} {y y' : V} (hp : p ≤ n) (hk : ¬ tK b n p = 0) (hy : Wz y) (e : lnSeed b n y p = .inr (y', p')) : Wz y' ∧ (p < p' ∧ p' ≤ n) ∧ y' 0 9 = y 0 9 := by
  have hy' := hy
  obtain ⟨⟨⟨a0, a1, a2, a3, a4, a5, a6, a7, a8, a9, a10, a11, a12, a13⟩, -⟩, h8⟩ := hy
  unfold lnSeed at e
  by_cases q : y 0 12 = 0
  · rw [if_pos q] at e
    obtain ⟨a, e1, e2⟩ := bd_i e
    obtain ⟨t1, t2⟩ := tN_lt hp hk
    obtain ⟨z1, z2, z3⟩ := pnum_sp (v := a.1) (p' := a.2) t2 e1
    obtain ⟨rfl, g1, g2⟩ := pend_ok z2 e2
    refine ⟨Wz_s hy' (fun i k h => by rw [vs_n (by omega), vs_n (by omega)]) (Or.inl ⟨rfl, rfl⟩) (fun j hj => by rw [vs_n (by omega), vs_n (by omega)]) ⟨a6, z1.2, a9, a10, a11, Nat.le_refl 1⟩, ⟨by omega, g2⟩, rfl⟩
  · rw [if_neg q] at e; cases e
theorem lnRoom_ok {b : Nat → Nat} {n p p' : Nat} {y y' : V} (hp : p ≤ n) (hk : ¬ tK b n p = 0) (hy : Wz y) (e : lnRoom b n y p = .inr (y', p')) : Wz y' ∧ (p < p' ∧ p' ≤ n) ∧ y' 0 9 = y 0 9 := by
  have hy' := hy
  obtain ⟨⟨⟨a0, a1, a2, a3, a4, a5, a6, a7, a8, a9, a10, a11, a12, a13⟩, -⟩, h8⟩ := hy
  unfold lnRoom at e
  by_cases q0 : 0 < y 0 2 ∨ 0 < y 0 3
  · rw [if_pos q0] at e; cases e
  rw [if_neg q0] at e
  by_cases q : y 0 10 = 0
  · rw [if_pos q] at e
    obtain ⟨a, e1, e2⟩ := bd_i e
    obtain ⟨t1, t2⟩ := tN_lt hp hk
    obtain ⟨z1, z2, z3⟩ := pnum_sp (v := a.1) (p' := a.2) t2 e1
    obtain ⟨c, e3, e4⟩ := bd_i e2
    obtain ⟨z4, z5, z6⟩ := pnum_sp (v := c.1) (p' := c.2) z2 e3
    obtain ⟨rfl, g1, g2⟩ := pend_ok z5 e4
    refine ⟨Wz_s hy' (fun i k h => by rw [vs_n (by omega), vs_n (by omega), vs_n (by omega)]) (Or.inr ⟨by omega, by omega, z1, z4⟩) (fun j hj => by rw [vs_n (by omega), vs_n (by omega), vs_n (by omega)]) ⟨a6, a7, a9, Nat.le_refl 1, a11, a12⟩, ⟨by omega, g2⟩, rfl⟩
  · rw [if_neg q] at e; cases e
theorem lnFolk_ok {b : Nat → Nat} {n p p' : Nat} {y y' : V} (hp : p ≤ n) (hk : ¬ tK b n p = 0) (hy : Wz y) (e : lnFolk b n y p = .inr (y', p')) : Wz y' ∧ (p < p' ∧ p' ≤ n) ∧ y' 0 9 = y 0 9 := by
  unfold lnFolk at e
  by_cases q0 : 6 ≤ y 0 3
  · rw [if_pos q0] at e; cases e
  rw [if_neg q0] at e
  obtain ⟨t1, t2⟩ := tN_lt hp hk
  by_cases q1 : tK b n (tN b n p) = 3
  case neg => rw [if_neg q1] at e; cases e
  rw [if_pos q1] at e
  obtain ⟨t3, t4⟩ := tN_lt (b := b) t2 (by omega)
  by_cases q2 : fNm y (tV b n (tN b n p)) = 0
  case neg => rw [if_neg q2] at e; cases e
  rw [if_pos q2] at e
  have bR := hy.1.1.1
  have bC := hy.1.1.2.1
  have hV : tV b n (tN b n p) < 2 ^ 30 := (lex_sp t2).2.2.2.2
  obtain ⟨a, e1, e⟩ := bd_i e
  obtain ⟨z1, z2, z3⟩ := pnum_sp (v := a.1) (p' := a.2) t4 e1
  obtain ⟨r, e1, e⟩ := bd_i e
  obtain ⟨z4, z5, z6⟩ := pnum_sp (v := r.1) (p' := r.2) z2 e1
  obtain ⟨c, e1, e⟩ := bd_i e
  obtain ⟨z7, z8, z9⟩ := pnum_sp (v := c.1) (p' := c.2) z5 e1
  obtain ⟨u, e1, e⟩ := bd_i e
  obtain ⟨y1, y2, y3⟩ := pnum_sp (v := u.1) (p' := u.2) z8 e1
  obtain ⟨rfl, g1, g2⟩ := pend_ok y2 e
  refine ⟨Wz_p3 hy (by omega) ⟨hV, z1.2, ?_, ?_, ?_⟩, ⟨by omega, g2⟩, psh_0 (by omega) (by omega)⟩
  · show r.1 < y 0 0
    omega
  · show c.1 < y 0 1
    omega
  · show u.1 < 4
    omega
theorem lnScreen_ok {b : Nat → Nat} {n p p' : Nat} {y y' : V} (hp : p ≤ n) (hk : ¬ tK b n p = 0) (hy : Wz y) (e : lnScreen b n y p = .inr (y', p')) : Wz y' ∧ (p < p' ∧ p' ≤ n) ∧ y' 0 9 = y 0 9 := by
  classical
  unfold lnScreen at e
  by_cases q0 : 5 ≤ y 0 2
  · rw [if_pos q0] at e; cases e
  rw [if_neg q0] at e
  obtain ⟨t1, t2⟩ := tN_lt hp hk
  by_cases q1 : tK b n (tN b n p) = 3
  case neg => rw [if_neg q1] at e; cases e
  rw [if_pos q1] at e
  obtain ⟨t3, t4⟩ := tN_lt (b := b) t2 (by omega)
  by_cases q2 : sNm y (tV b n (tN b n p)) = 0
  case neg => rw [if_neg q2] at e; cases e
  rw [if_pos q2] at e
  have bR := hy.1.1.1
  have bC := hy.1.1.2.1
  have hV : tV b n (tN b n p) < 2 ^ 30 := (lex_sp t2).2.2.2.2
  obtain ⟨a, e1, e⟩ := bd_i e
  obtain ⟨z1, z2, z3⟩ := pnum_sp (v := a.1) (p' := a.2) t4 e1
  obtain ⟨r, e1, e⟩ := bd_i e
  obtain ⟨z4, z5, z6⟩ := pnum_sp (v := r.1) (p' := r.2) z2 e1
  obtain ⟨c, e1, e⟩ := bd_i e
  obtain ⟨z7, z8, z9⟩ := pnum_sp (v := c.1) (p' := c.2) z5 e1
  obtain ⟨l, e1, e⟩ := bd_i e
  obtain ⟨y1, y2, y3⟩ := pnum_sp (v := l.1) (p' := l.2) z8 e1
  obtain ⟨u, e1, e⟩ := bd_i e
  obtain ⟨x1, x2, x3⟩ := pnum_sp (v := u.1) (p' := u.2) y2 e1
  by_cases qf : fit (vs (xo y) 4 (y 0 2) l.1) (y 0 2) r.1 c.1 u.1
  case neg => rw [if_neg qf] at e; cases e
  rw [if_pos qf] at e
  obtain ⟨rfl, g1, g2⟩ := pend_ok x2 e
  refine ⟨Wz_p2 hy (by omega) ⟨hV, ?_, ?_, ?_, y1, x1.2⟩, ⟨by omega, g2⟩, psh_0 (by omega) (by omega)⟩
  · show a.1 < 4
    omega
  · show r.1 < y 0 0
    omega
  · show c.1 < y 0 1
    omega
theorem lnCarry_ok {b : Nat → Nat} {n p p' : Nat} {y y' : V} (hp : p ≤ n) (hk : ¬ tK b n p = 0) (hy : Wz y) (e : lnCarry b n y p = .inr (y', p')) : Wz y' ∧ (p < p' ∧ p' ≤ n) ∧ y' 0 9 = y 0 9 := by
  unfold lnCarry at e
  by_cases q0 : 10 ≤ y 0 4
  · rw [if_pos q0] at e; cases e
  rw [if_neg q0] at e
  obtain ⟨t1, t2⟩ := tN_lt hp hk
  by_cases q1 : tK b n (tN b n p) = 3
  case neg => rw [if_neg q1] at e; cases e
  rw [if_pos q1] at e
  obtain ⟨t3, t4⟩ := tN_lt (b := b) t2 (by omega)
  by_cases q2 : sNm y (tV b n (tN b n p)) = 0
  · rw [if_pos q2] at e; cases e
  rw [if_neg q2] at e
  have hfl : sNm y (tV b n (tN b n p)) ≤ y 0 2 := ff_le
  obtain ⟨a, e1, e⟩ := bd_i e
  obtain ⟨z1, z2, z3⟩ := pnum_sp (v := a.1) (p' := a.2) t4 e1
  obtain ⟨r, e1, e⟩ := bd_i e
  obtain ⟨z4, z5, z6⟩ := pnum_sp (v := r.1) (p' := r.2) z2 e1
  obtain ⟨c, e1, e⟩ := bd_i e
  obtain ⟨z7, z8, z9⟩ := pnum_sp (v := c.1) (p' := c.2) z5 e1
  obtain ⟨rfl, g1, g2⟩ := pend_ok z8 e
  refine ⟨Wz_p4 hy (by omega) ⟨?_, z1.2, ?_, ?_⟩, ⟨by omega, g2⟩, psh_0 (by omega) (by omega)⟩
  · show sNm y (tV b n (tN b n p)) - 1 < y 0 2
    omega
  · show r.1 < 8
    omega
  · show c.1 < 8
    omega
theorem lnStep_ok {b : Nat → Nat} {n p p' : Nat} {y y' : V} (hp : p ≤ n) (hk : ¬ tK b n p = 0) (hy : Wz y) (e : lnStep b n y p = .inr (y', p')) : Wz y' ∧ (p < p' ∧ p' ≤ n) ∧ y' 0 9 = y 0 9 := by
  unfold lnStep at e
  by_cases q0 : 12 ≤ y 0 5
  · rw [if_pos q0] at e; cases e
  rw [if_neg q0] at e
  obtain ⟨t1, t2⟩ := tN_lt hp hk
  by_cases q1 : tK b n (tN b n p) = 3
  case neg => rw [if_neg q1] at e; cases e
  rw [if_pos q1] at e
  obtain ⟨t3, t4⟩ := tN_lt (b := b) t2 (by omega)
  by_cases q2 : fNm y (tV b n (tN b n p)) = 0
  · rw [if_pos q2] at e; cases e
  rw [if_neg q2] at e
  have hfl : fNm y (tV b n (tN b n p)) ≤ y 0 3 := ff_le
  obtain ⟨a, e1, e⟩ := bd_i e
  obtain ⟨z1, z2, z3⟩ := pnum_sp (v := a.1) (p' := a.2) t4 e1
  obtain ⟨r, e1, e⟩ := bd_i e
  obtain ⟨z4, z5, z6⟩ := pnum_sp (v := r.1) (p' := r.2) z2 e1
  obtain ⟨rfl, g1, g2⟩ := pend_ok z5 e
  refine ⟨Wz_p5 hy (by omega) ⟨?_, z1.2, ?_⟩, ⟨by omega, g2⟩, psh_0 (by omega) (by omega)⟩
  · show fNm y (tV b n (tN b n p)) - 1 < y 0 3
    omega
  · show r.1 < 4
    omega
theorem lnLaw_ok {b : Nat → Nat} {n p p' : Nat} {y y' : V} (hp : p ≤ n) (hk : ¬ tK b n p = 0) (hy : Wz y) (e : lnLaw b n y p = .inr (y', p')) : Wz y' ∧ (p < p' ∧ p' ≤ n) ∧ y' 0 9 = y 0 9 := by
  unfold lnLaw at e
  obtain ⟨t1, t2⟩ := tN_lt hp hk
  by_cases q0 : 28 ≤ tK b n (tN b n p) ∧ tK b n (tN b n p) ≤ 30
  case neg => rw [if_neg q0] at e; cases e
  rw [if_pos q0] at e
  obtain ⟨t3, t4⟩ := tN_lt (b := b) t2 (by omega)
  generalize tK b n (tN b n p) - 28 = r at *
  by_cases q1 : y 19 r < y 20 r
  · rw [if_pos q1] at e; cases e
  rw [if_neg q1] at e
  obtain ⟨a, e1, e⟩ := bd_i e
  obtain ⟨⟨⟨a0, a1, a2, a3, a4, a5, a6, a7, a8, a9, a10, a11, a12, a13⟩, s1, s2, s3, s4, s5, s6⟩, h8⟩ := hy
  obtain ⟨i1, i2, i3, i4, i5, i6⟩ := lRun_ok (b := b) (n := n) 701 _ _ _ _ _ _ _ a.1 a.2 (y 0 13) t4 ⟨by rw [vs_n (by omega), vs_n (by omega)]; simp only [sg]; omega, by rw [vs_n (by omega)]; exact a8, rfl, by omega, by omega, by omega, by omega, fun k hk => by cases hk⟩ ⟨by rw [vs_n (by omega)]; omega, fun z => by omega⟩ e1
  obtain ⟨rfl, g1, g2⟩ := pend_ok i1.2 e
  have k0 : ∀ j, ¬ j = 8 → ¬ j = 13 → vs a.1 20 r (a.1 0 13) 0 j = y 0 j := fun j h1 h2 => by
    rw [vs_n (by omega), i5.1 j h1 h2, vs_n (by omega)]
  have kr : ∀ i k, 1 ≤ i → i ≤ 18 → vs a.1 20 r (a.1 0 13) i k = y i k := fun i k h1 h2 => by
    rw [vs_n (by omega), i5.2 i k h1 (by omega) (by omega), vs_n (by omega)]
  have e8 : vs a.1 20 r (a.1 0 13) 0 8 = a.1 0 8 := vs_n (by omega)
  have e13 : vs a.1 20 r (a.1 0 13) 0 13 = a.1 0 13 := vs_n (by omega)
  rw [vs_n (by omega)] at i4
  have wr : WR a.1 := i6 (fun i hi => by
    rw [vs_n (by omega)] at hi
    rw [vs_n (by omega), vs_n (by omega)]
    exact s6 i hi)
  refine ⟨⟨⟨⟨?_, ?_, ?_, ?_, ?_, ?_, ?_, ?_, ?_, ?_, ?_, ?_, ?_, ?_⟩, fun s h => ?_, fun s h => ?_, fun s h => ?_, fun s h => ?_, fun s h => ?_, fun s h => ?_⟩, ?_⟩, ⟨by omega, g2⟩, k0 9 (by omega) (by omega)⟩
  · rw [k0 0 (by omega) (by omega)]; exact a0
  · rw [k0 1 (by omega) (by omega)]; exact a1
  · rw [k0 2 (by omega) (by omega)]; exact a2
  · rw [k0 3 (by omega) (by omega)]; exact a3
  · rw [k0 4 (by omega) (by omega)]; exact a4
  · rw [k0 5 (by omega) (by omega)]; exact a5
  · rw [k0 6 (by omega) (by omega)]; exact a6
  · rw [k0 7 (by omega) (by omega)]; exact a7
  · rw [e8]; omega
  · rw [k0 9 (by omega) (by omega)]; exact a9
  · rw [k0 10 (by omega) (by omega)]; exact a10
  · rw [k0 11 (by omega) (by omega)]; exact a11
  · rw [k0 12 (by omega) (by omega)]; exact a12
  · rw [e8, e13]; omega
  · rw [k0 2 (by omega) (by omega)] at h
    rw [k0 0 (by omega) (by omega), k0 1 (by omega) (by omega), kr 1 s (by omega) (by omega), kr 2 s (by omega) (by omega), kr 3 s (by omega) (by omega), kr 4 s (by omega) (by omega), kr 5 s (by omega) (by omega), kr 6 s (by omega) (by omega)]
    exact s1 s h
  · rw [k0 3 (by omega) (by omega)] at h
    rw [k0 0 (by omega) (by omega), k0 1 (by omega) (by omega), kr 7 s (by omega) (by omega), kr 8 s (by omega) (by omega), kr 9 s (by omega) (by omega), kr 10 s (by omega) (by omega), kr 11 s (by omega) (by omega)]
    exact s2 s h
  · rw [k0 4 (by omega) (by omega)] at h
    rw [k0 2 (by omega) (by omega), kr 12 s (by omega) (by omega), kr 13 s (by omega) (by omega), kr 14 s (by omega) (by omega), kr 15 s (by omega) (by omega)]
    exact s3 s h
  · rw [k0 5 (by omega) (by omega)] at h
    rw [k0 3 (by omega) (by omega), kr 16 s (by omega) (by omega), kr 17 s (by omega) (by omega), kr 18 s (by omega) (by omega)]
    exact s4 s h
  · have := s5 s h
    rw [e13]
    have k19 : vs a.1 20 r (a.1 0 13) 19 s = vs y 19 r (y 0 13) 19 s := by rw [vs_n (by omega), i5.2 19 s (by omega) (by omega) (by omega)]
    have k20 : vs a.1 20 r (a.1 0 13) 20 s = if s = r then a.1 0 13 else y 20 s := by
      by_cases q : s = r
      · rw [if_pos q, q, vs_y]
      · rw [if_neg q, vs_n (fun z => q z.2), i5.2 20 s (by omega) (by omega) (by omega), vs_n (by omega)]
    rw [k19, k20]
    by_cases q : s = r
    · rw [if_pos q, q, vs_y]
      omega
    · rw [if_neg q, vs_n (fun z => q z.2)]
      omega
  · rw [e13] at h
    rw [vs_n (by omega), vs_n (by omega)]
    exact wr s h
  · rw [e8, e13]; exact i2.1
theorem lnLine_ok {b : Nat → Nat} {n p p' : Nat} {y y' : V} (hp : p ≤ n) (hy : Wz y) (e : lnLine b n y p = .inr (y', p')) : Wz y' ∧ (p < p' ∧ p' ≤ n) ∧ y' 0 9 = y 0 9 := by
  unfold lnLine at e
  by_cases q20 : tK b n p = 20
  · rw [if_pos q20] at e; exact lnRoom_ok hp (by omega) hy e
  rw [if_neg q20] at e
  by_cases q21 : tK b n p = 21
  · rw [if_pos q21] at e; exact lnScreen_ok hp (by omega) hy e
  rw [if_neg q21] at e
  by_cases q22 : tK b n p = 22
  · rw [if_pos q22] at e; exact lnFolk_ok hp (by omega) hy e
  rw [if_neg q22] at e
  by_cases q23 : tK b n p = 23
  · rw [if_pos q23] at e; exact lnCarry_ok hp (by omega) hy e
  rw [if_neg q23] at e
  by_cases q24 : tK b n p = 24
  · rw [if_pos q24] at e; exact lnStep_ok hp (by omega) hy e
  rw [if_neg q24] at e
  by_cases q25 : tK b n p = 25
  · rw [if_pos q25] at e; exact lnMoth_ok hp (by omega) hy e
  rw [if_neg q25] at e
  by_cases q26 : tK b n p = 26
  · rw [if_pos q26] at e; exact lnSeed_ok hp (by omega) hy e
  rw [if_neg q26] at e
  by_cases q27 : tK b n p = 27
  · rw [if_pos q27] at e; exact lnLaw_ok hp (by omega) hy e
  rw [if_neg q27] at e
  cases e
