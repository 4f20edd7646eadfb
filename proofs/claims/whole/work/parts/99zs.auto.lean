/-! Laws read: the class's automaton step by step; what is put. -/
def flu : V → List Nat → V
  | y, [] => y
  | y, k :: P => flu (putk y k 0) P
theorem flu_app {k : Nat} : ∀ {P : List Nat} {y : V}, flu y (P ++ [k]) = putk (flu y P) k 0
  | [], _ => rfl
  | _ :: P, _ => flu_app (P := P)
def HB (r : Nat) (W : List Nat) : Prop := ∀ k W', W = k :: W' → rk k < r
theorem rel_hb {r : Nat} {y : V} {W : List Nat} (h : HB r W) : rel r y W = (y, W) := by
  cases W with
  | nil => rfl
  | cons k W => exact if_neg (by have := h k W rfl; omega)
theorem rel_flu {r : Nat} {W : List Nat} (h : HB r W) : ∀ {P : List Nat} {y : V}, (∀ k, k ∈ P → r ≤ rk k) → rel r y (P ++ W) = (flu y P, W)
  | [], y, _ => rel_hb h
  | k :: P, y, hP => by
    show rel r y (k :: (P ++ W)) = _
    rw [rel, if_pos (hP k (by simp))]
    exact rel_flu h (fun j hj => hP j (by simp [hj]))
theorem putk_vs8 {y : V} {k v u : Nat} : putk (vs y 0 8 u) k v = vs (putk y k v) 0 8 u := by
  funext i j
  unfold putk psh
  rw [show vs y 0 8 u 0 13 = y 0 13 from vs_n (by omega)]
  unfold vs
  by_cases c : i = 0 ∧ j = 8
  · rw [if_neg (by omega), if_neg (by omega), if_pos c, if_pos c]
  · rw [if_neg c, if_neg c]
theorem flu_vs8 {u : Nat} : ∀ {P : List Nat} {y : V}, flu (vs y 0 8 u) P = vs (flu y P) 0 8 u
  | [], _ => rfl
  | k :: P, y => by
    show flu (putk (vs y 0 8 u) k 0) P = vs (flu (putk y k 0) P) 0 8 u
    rw [putk_vs8, flu_vs8]
theorem flu_8 : ∀ {P : List Nat} {y : V}, flu y P 0 8 = y 0 8
  | [], _ => rfl
  | k :: P, y => by
    show flu (putk y k 0) P 0 8 = y 0 8
    rw [flu_8, putk_0 (by omega)]
theorem rk_33 {k : Nat} : rk k = 3 ↔ k = 33 := by
  unfold rk
  repeat' split
  all_goals omega
theorem rk_4 {k : Nat} : rk k = 4 ↔ 11 ≤ k ∧ k ≤ 16 := by
  unfold rk
  repeat' split
  all_goals omega
theorem rk_5 {k : Nat} : rk k = 5 ↔ k = 7 ∨ k = 8 := by
  unfold rk
  repeat' split
  all_goals omega
theorem rk_6 {k : Nat} : rk k = 6 ↔ k = 9 ∨ k = 10 := by
  unfold rk
  repeat' split
  all_goals omega
theorem rk_1 {k : Nat} : rk k = 1 ↔ k = 31 := by
  unfold rk
  repeat' split
  all_goals omega
theorem rk_2 {k : Nat} : rk k = 2 ↔ k = 32 := by
  unfold rk
  repeat' split
  all_goals omega
/-! one step of the automaton -/
theorem lr_open {b : Nat → Nat} {n f p op cm nm : Nat} {y : V} {W : List Nat} (hT : tK b n p = 5) : lRun b n (f + 1) y p W op cm 1 nm = if 8 ≤ op then .inl (2, p) else lRun b n f y (tN b n p) (5 :: W) (op + 1) (cclr cm (op + 1)) 1 1 := by
  rw [lRun, if_neg (fun z => by omega)]
  unfold aSt aOp aOpen
  rw [if_pos rfl, if_pos hT]
  by_cases q : 8 ≤ op
  · rw [if_pos q, if_pos q]; rfl
  · rw [if_neg q, if_neg q]; rfl
theorem lr_num {b : Nat → Nat} {n f p op cm nm : Nat} {y : V} {W : List Nat} (hT : tK b n p = 2) : lRun b n (f + 1) y p W op cm 1 nm = if 9999 < tV b n p then .inl (2, p) else if y 0 8 = 64 then .inl (2, p) else lRun b n f (putk (vs y 0 8 (y 0 8 + 1)) 2 (tV b n p)) (tN b n p) W op cm 0 nm := by
  rw [lRun, if_neg (fun z => by omega)]
  unfold aSt aOp
  rw [if_pos rfl, if_neg (by omega), if_pos hT]
  by_cases q : 9999 < tV b n p
  · rw [if_pos q, if_pos q]; rfl
  · rw [if_neg q, if_neg q]
    by_cases q2 : y 0 8 = 64
    · rw [if_pos q2, if_pos q2]; rfl
    · rw [if_neg q2, if_neg q2]; rfl
theorem lr_not {b : Nat → Nat} {n f p op cm : Nat} {y : V} {W : List Nat} (hT : tK b n p = 33) : lRun b n (f + 1) y p W op cm 1 1 = if y 0 8 = 64 then .inl (2, p) else lRun b n f (vs y 0 8 (y 0 8 + 1)) (tN b n p) (33 :: W) op cm 1 1 := by
  rw [lRun, if_neg (fun z => by omega)]
  unfold aSt aOp
  rw [if_pos rfl, if_neg (by omega), if_neg (by omega), if_pos ⟨hT, rfl⟩]
  by_cases q2 : y 0 8 = 64
  · rw [if_pos q2, if_pos q2]; rfl
  · rw [if_neg q2, if_neg q2]; rfl
theorem lr_name {b : Nat → Nat} {n f p op cm nm : Nat} {y : V} {W : List Nat} (hT : 34 ≤ tK b n p) : lRun b n (f + 1) y p W op cm 1 nm = if y 0 8 = 64 then .inl (2, p) else lRun b n f (putk (vs y 0 8 (y 0 8 + 1)) 34 (tK b n p - 34)) (tN b n p) W op cm 0 nm := by
  rw [lRun, if_neg (fun z => by omega)]
  unfold aSt aOp
  rw [if_pos rfl, if_neg (by omega), if_neg (by omega), if_neg (by omega), if_pos hT]
  by_cases q2 : y 0 8 = 64
  · rw [if_pos q2, if_pos q2]; rfl
  · rw [if_neg q2, if_neg q2]; rfl
theorem lr_none {b : Nat → Nat} {n f p op cm nm : Nat} {y : V} {W : List Nat} (h5 : ¬ tK b n p = 5) (h2 : ¬ tK b n p = 2) (h3 : ¬ (tK b n p = 33 ∧ nm = 1)) (h4 : ¬ 34 ≤ tK b n p) : lRun b n (f + 1) y p W op cm 1 nm = .inl (1, p) := by
  rw [lRun, if_neg (fun z => by omega)]
  unfold aSt aOp
  rw [if_pos rfl, if_neg h5, if_neg h2, if_neg h3, if_neg h4]
  rfl
theorem lr_close {b : Nat → Nat} {n f p op cm nm : Nat} {y : V} {W : List Nat} (hT : tK b n p = 6) (ho : 0 < op) : lRun b n (f + 1) y p W op cm 0 nm = lRun b n f (rel 1 y W).1 (tN b n p) (rel 1 y W).2.tail (op - 1) cm 0 nm := by
  rw [lRun, if_neg (fun z => by omega)]
  unfold aSt aBh
  rw [if_neg (by omega), if_pos ⟨hT, ho⟩]
  rfl
theorem lr_bad {b : Nat → Nat} {n f p op cm nm : Nat} {y : V} {W : List Nat} (h4 : ¬ (op = 0 ∧ tK b n p = 4)) (h6 : ¬ (tK b n p = 6 ∧ 0 < op)) (hb : rk (tK b n p) = 0 ∨ tK b n p = 33 ∨ (rk (tK b n p) = 4 ∧ cb cm op)) : lRun b n (f + 1) y p W op cm 0 nm = .inl (1, p) := by
  rw [lRun, if_neg (fun z => h4 z.2)]
  unfold aSt aBh
  rw [if_neg (by omega), if_neg h6]
  by_cases q : rk (tK b n p) = 0 ∨ tK b n p = 33
  · rw [if_pos q]; rfl
  · rw [if_neg q, if_pos (by
      rcases hb with z | z | z
      · exact absurd (Or.inl z) q
      · exact absurd (Or.inr z) q
      · exact z)]
    rfl
theorem lr_sign {b : Nat → Nat} {n f p op cm nm : Nat} {y : V} {W P : List Nat} (hW : HB (rk (tK b n p)) W) (hP : ∀ k, k ∈ P → rk (tK b n p) ≤ rk k) (h0 : 1 ≤ rk (tK b n p)) (h3 : ¬ tK b n p = 33) (h4 : rk (tK b n p) = 4 → ¬ cb cm op) : lRun b n (f + 1) y p (P ++ W) op cm 0 nm = if y 0 8 = 64 then .inl (2, p) else lRun b n f (vs (flu y P) 0 8 (y 0 8 + 1)) (tN b n p) (tK b n p :: W) op (if rk (tK b n p) = 4 then cset cm op else if rk (tK b n p) < 4 then cclr cm op else cm) 1 (if rk (tK b n p) < 4 then 1 else 0) := by
  have n4 : ¬ tK b n p = 4 := fun z => by rw [z] at h0; exact absurd h0 (by decide)
  have n6 : ¬ tK b n p = 6 := fun z => by rw [z] at h0; exact absurd h0 (by decide)
  rw [lRun, if_neg (fun z => n4 z.2.2)]
  unfold aSt aBh
  rw [if_neg (by omega), if_neg (fun z => n6 z.1), if_neg (by omega), if_neg (fun z => h4 z.1 z.2)]
  by_cases q2 : y 0 8 = 64
  · rw [if_pos q2, if_pos q2]; rfl
  · rw [if_neg q2, if_neg q2, rel_flu hW hP, flu_vs8]
    rfl
theorem lr_end {b : Nat → Nat} {n f p cm nm : Nat} {y : V} {W : List Nat} (h4 : tK b n p = 4) : lRun b n (f + 1) y p W 0 cm 0 nm = .inr ((rel 1 y W).1, p) := by
  rw [lRun, if_pos ⟨rfl, rfl, h4⟩]
theorem cset_b : ∀ s, s < 9 → ∀ c, c < 512 → cset c s < 512 ∧ cset c s / 2 ^ s % 2 = 1 ∧ ∀ j, j < 9 → ¬ j = s → (cset c s / 2 ^ j % 2 = 1 ↔ c / 2 ^ j % 2 = 1) := by decide +kernel
theorem cclr_b : ∀ s, s < 9 → ∀ c, c < 512 → cclr c s < 512 ∧ cclr c s / 2 ^ s % 2 = 0 ∧ ∀ j, j < 9 → ¬ j = s → (cclr c s / 2 ^ j % 2 = 1 ↔ c / 2 ^ j % 2 = 1) := by decide +kernel
/-! what is put never lacks its numbers -/
def dpe (y : V) : Nat → Nat → Nat → Nat → Prop
  | 0, _, D, E => D = E
  | n + 1, i, D, E => if y 21 i = 2 ∨ y 21 i = 34 then dpe y n (i + 1) (D + 1) E else if y 21 i = 33 then 1 ≤ D ∧ dpe y n (i + 1) D E else sgk (y 21 i) ∧ 2 ≤ D ∧ dpe y n (i + 1) (D - 1) E
theorem dpe_cat {y : V} {k E F : Nat} : ∀ m i D, dpe y m i D E → dpe y k (i + m) E F → dpe y (m + k) i D F
  | 0, i, D, h1, h2 => by
    have h1 : D = E := h1
    subst h1
    rw [Nat.zero_add]
    exact h2
  | m + 1, i, D, h1, h2 => by
    rw [show m + 1 + k = (m + k) + 1 by omega]
    rw [show i + (m + 1) = (i + 1) + m by omega] at h2
    unfold dpe at h1 ⊢
    by_cases q : y 21 i = 2 ∨ y 21 i = 34
    · rw [if_pos q] at h1 ⊢
      exact dpe_cat m _ _ h1 h2
    · rw [if_neg q] at h1 ⊢
      by_cases q2 : y 21 i = 33
      · rw [if_pos q2] at h1 ⊢
        exact ⟨h1.1, dpe_cat m _ _ h1.2 h2⟩
      · rw [if_neg q2] at h1 ⊢
        exact ⟨h1.1, h1.2.1, dpe_cat m _ _ h1.2.2 h2⟩
theorem dpe_eq {y y' : V} {E : Nat} : ∀ m i D, (∀ j, i ≤ j → j < i + m → y' 21 j = y 21 j) → dpe y m i D E → dpe y' m i D E
  | 0, i, D, _, h => h
  | m + 1, i, D, e, h => by
    have e0 := e i (Nat.le_refl _) (by omega)
    have r := fun D => dpe_eq (y := y) (y' := y') (E := E) m (i + 1) D (fun j h1 h2 => e j (by omega) (by omega))
    unfold dpe at h ⊢
    rw [e0]
    by_cases q : y 21 i = 2 ∨ y 21 i = 34
    · rw [if_pos q] at h ⊢
      exact r _ h
    · rw [if_neg q] at h ⊢
      by_cases q2 : y 21 i = 33
      · rw [if_pos q2] at h ⊢
        exact ⟨h.1, r _ h.2⟩
      · rw [if_neg q2] at h ⊢
        exact ⟨h.1, h.2.1, r _ h.2.2⟩
def CD (y y' : V) : Prop := y 0 13 ≤ y' 0 13 ∧ (∀ i, i < y 0 13 → y' 21 i = y 21 i) ∧ ∀ D, dpe y' (y' 0 13 - y 0 13) (y 0 13) D (D + 1)
theorem putk_21 {y : V} {k v i : Nat} : putk y k v 21 i = if i = y 0 13 then k else y 21 i := by
  by_cases c : i = y 0 13
  · rw [if_pos c, c]
    exact psh_z (by omega) (by omega) (by omega)
  · rw [if_neg c]
    exact psh_n (by omega) (by omega)
theorem CD_leaf {y : V} {k v u : Nat} (hk : k = 2 ∨ k = 34) : CD y (putk (vs y 0 8 u) k v) := by
  have e13 : vs y 0 8 u 0 13 = y 0 13 := vs_n (by omega)
  refine ⟨by rw [putk_13, e13]; omega, fun i hi => ?_, fun D => ?_⟩
  · rw [putk_21, if_neg (by rw [e13]; omega)]
    exact vs_n (by omega)
  · rw [putk_13, e13, show y 0 13 + 1 - y 0 13 = 1 by omega]
    unfold dpe
    rw [putk_21, if_pos e13.symm, if_pos hk]
    rfl
theorem CD_bin {y y1 y2 : V} {s u : Nat} (a : CD y y1) (c : CD (vs y1 0 8 u) y2) (hs : sgk s) : CD y (putk y2 s 0) := by
  obtain ⟨a1, a2, a3⟩ := a
  obtain ⟨c1, c2, c3⟩ := c
  have e13 : vs y1 0 8 u 0 13 = y1 0 13 := vs_n (by omega)
  have e21 : ∀ i, vs y1 0 8 u 21 i = y1 21 i := fun i => vs_n (by omega)
  rw [e13] at c1 c3
  have c2' : ∀ i, i < y1 0 13 → y2 21 i = y1 21 i := fun i hi => (c2 i (by rw [e13]; exact hi)).trans (e21 i)
  refine ⟨by rw [putk_13]; omega, fun i hi => ?_, fun D => ?_⟩
  · rw [putk_21, if_neg (by omega), c2' i (by omega), a2 i hi]
  · rw [putk_13]
    have h1 : dpe (putk y2 s 0) (y1 0 13 - y 0 13) (y 0 13) D (D + 1) := dpe_eq _ _ _ (fun j g1 g2 => by rw [putk_21, if_neg (by omega), c2' j (by omega)]) (a3 D)
    have h2 : dpe (putk y2 s 0) (y2 0 13 - y1 0 13) (y1 0 13) (D + 1) (D + 2) := dpe_eq _ _ _ (fun j g1 g2 => by rw [putk_21, if_neg (by omega)]) (c3 (D + 1))
    have h3 : dpe (putk y2 s 0) 1 (y2 0 13) (D + 2) (D + 1) := by
      unfold dpe
      rw [putk_21, if_pos rfl, if_neg (by unfold sgk at hs; omega), if_neg (by unfold sgk at hs; omega)]
      exact ⟨hs, by omega, rfl⟩
    have h12 := dpe_cat _ _ _ h1 (by rw [show y 0 13 + (y1 0 13 - y 0 13) = y1 0 13 by omega]; exact h2)
    have h123 := dpe_cat _ _ _ h12 (by rw [show y 0 13 + (y1 0 13 - y 0 13 + (y2 0 13 - y1 0 13)) = y2 0 13 by omega]; exact h3)
    rw [show y1 0 13 - y 0 13 + (y2 0 13 - y1 0 13) + 1 = y2 0 13 + 1 - y 0 13 by omega] at h123
    exact h123
theorem CD_not {y y1 : V} {u : Nat} (c : CD (vs y 0 8 u) y1) : CD y (putk y1 33 0) := by
  obtain ⟨c1, c2, c3⟩ := c
  have e13 : vs y 0 8 u 0 13 = y 0 13 := vs_n (by omega)
  have e21 : ∀ i, vs y 0 8 u 21 i = y 21 i := fun i => vs_n (by omega)
  rw [e13] at c1 c3
  have c2' : ∀ i, i < y 0 13 → y1 21 i = y 21 i := fun i hi => (c2 i (by rw [e13]; exact hi)).trans (e21 i)
  refine ⟨by rw [putk_13]; omega, fun i hi => ?_, fun D => ?_⟩
  · rw [putk_21, if_neg (by omega), c2' i hi]
  · rw [putk_13]
    have h2 : dpe (putk y1 33 0) (y1 0 13 - y 0 13) (y 0 13) D (D + 1) := dpe_eq _ _ _ (fun j g1 g2 => by rw [putk_21, if_neg (by omega)]) (c3 D)
    have h3 : dpe (putk y1 33 0) 1 (y1 0 13) (D + 1) (D + 1) := by
      unfold dpe
      rw [putk_21, if_pos rfl, if_neg (by omega), if_pos rfl]
      exact ⟨by omega, rfl⟩
    have h23 := dpe_cat _ _ _ h2 (by rw [show y 0 13 + (y1 0 13 - y 0 13) = y1 0 13 by omega]; exact h3)
    rw [show y1 0 13 - y 0 13 + 1 = y1 0 13 + 1 - y 0 13 by omega] at h23
    exact h23
