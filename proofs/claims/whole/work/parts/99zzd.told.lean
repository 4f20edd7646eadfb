/-! What a text tells stands; its faults are small. -/
def OKE {α : Type} (n : Nat) (o : (Nat × Nat) ⊕ α) : Prop := ∀ e, o = .inl e → e.1 ≤ 5 ∧ e.2 ≤ n
theorem oke_l {α : Type} {n k p : Nat} (hk : k ≤ 5) (hp : p ≤ n) : OKE (α := α) n (.inl (k, p)) := by
  intro e h
  cases h
  exact ⟨hk, hp⟩
theorem oke_r {α : Type} {n : Nat} {a : α} : OKE n (.inr a) := by
  intro e h
  cases h
theorem oke_pnum {b : Nat → Nat} {n p lo hi : Nat} (hp : p ≤ n) : OKE n (pnum b n p lo hi) := by
  unfold pnum
  split
  · split
    · exact oke_l (by omega) hp
    · exact oke_r
  · exact oke_l (by omega) hp
theorem oke_st {b : Nat → Nat} {n p op cm du nm : Nat} {y : V} {W : List Nat} (hp : p ≤ n) : OKE n (aSt b n p y W op cm du nm) := by
  unfold aSt aOp aBh aOpen
  repeat' split
  all_goals first | exact oke_l (by omega) hp | exact oke_r
theorem oke_run {b : Nat → Nat} {n : Nat} : ∀ (f : Nat) (y : V) (p : Nat) (W : List Nat) (op cm du nm : Nat), p ≤ n → OKE n (lRun b n f y p W op cm du nm)
  | 0, y, p, W, op, cm, du, nm, hp => by
    rw [lRun]
    exact oke_l (by omega) hp
  | f + 1, y, p, W, op, cm, du, nm, hp => by
    rw [lRun]
    split
    · exact oke_r
    · intro e h
      cases hs : aSt b n p y W op cm du nm with
      | inl e' =>
        rw [hs] at h
        cases h
        exact oke_st hp _ hs
      | inr s =>
        rw [hs] at h
        exact oke_run f _ _ _ _ _ _ _ (tN_le hp).2.1 e h
/-- a line's fault is small, or what it tells stands -/
def OKP (n : Nat) (o : PR) : Prop := OKE n o ∧ ∀ a, o = .inr a → nov (xo a.1)
theorem okp_l {n k p : Nat} (hk : k ≤ 5) (hp : p ≤ n) : OKP n (.inl (k, p)) := ⟨oke_l hk hp, fun a h => by cases h⟩
theorem okp_bd {α : Type} {n : Nat} {o : (Nat × Nat) ⊕ α} {f : α → PR} (h1 : OKE n o) (h2 : ∀ a, o = .inr a → OKP n (f a)) : OKP n (bd o f) := by
  cases o with
  | inl e => exact ⟨fun e' h => by cases h; exact h1 e rfl, fun a h => by cases h⟩
  | inr a => exact h2 a rfl
theorem okp_pend {b : Nat → Nat} {n p : Nat} {y : V} (hp : p ≤ n) (v : nov (xo y)) : OKP n (pend b n y p) := by
  unfold pend
  split
  · exact ⟨oke_r, fun a h => by cases h; exact v⟩
  · exact okp_l (by omega) hp
theorem xo_0 (y : V) (j : Nat) (hj : j < 3) : xo y 0 j = y 0 j := by
  unfold xo
  rw [if_pos rfl, if_neg (by omega), if_neg (by omega), if_neg (by omega), if_neg (by omega)]
theorem xo_i (y : V) (i j : Nat) (h1 : 1 ≤ i) (h2 : i ≤ 5) : xo y i j = y (i + 1) j := by
  unfold xo
  rw [if_neg (by omega), if_pos h2]
theorem nv_eq {y y' : V} (e0 : ∀ j, j < 3 → y' 0 j = y 0 j) (e : ∀ i j, 3 ≤ i → i ≤ 6 → y' i j = y i j) (n : nov (xo y)) : nov (xo y') := nov_eq (fun j hj => by rw [xo_0 _ _ hj, xo_0 _ _ hj]; exact e0 j hj) (fun i j h1 h2 => by rw [xo_i _ _ _ (by omega) h2, xo_i _ _ _ (by omega) h2]; exact e _ _ (by omega) (by omega)) n
theorem nv_none {y : V} (h : y 0 2 = 0) : nov (xo y) := by
  have e : xN (xo y) = 0 := h
  exact ⟨fun s hs => absurd hs (by omega), fun s o hs => absurd hs (by omega)⟩
theorem nv_scr {y : V} {z : Nat → Nat} (hN : y 0 2 < 5) (n : nov (xo y)) (f : fit (vs (xo y) 4 (y 0 2) (z 5)) (y 0 2) (z 3) (z 4) (z 6)) : nov (xo (psh y 2 1 6 z)) := by
  have ek : ∀ i k, 1 ≤ i → ¬ k = y 0 2 → psh y 2 1 6 z i k = y i k := fun i k h h1 => psh_n h (fun w => h1 w.2)
  have ez : ∀ i, 1 ≤ i → i ≤ 6 → psh y 2 1 6 z i (y 0 2) = z i := fun i h1 h2 => psh_z (by omega) h1 h2
  have eN : xN (xo (psh y 2 1 6 z)) = y 0 2 + 1 := (xo_0 _ 2 (by omega)).trans psh_c
  have eR : xR (xo (psh y 2 1 6 z)) = xR (xo y) := (xo_0 _ 0 (by omega)).trans (psh_0 (by omega) (by omega))
  have eC : xC (xo (psh y 2 1 6 z)) = xC (xo y) := (xo_0 _ 1 (by omega)).trans (psh_0 (by omega) (by omega))
  have rk : ∀ i s, 1 ≤ i → i ≤ 5 → ¬ s = y 0 2 → xo (psh y 2 1 6 z) i s = xo y i s := fun i s h1 h2 h3 => by
    rw [xo_i _ _ _ h1 h2, xo_i _ _ _ h1 h2]
    exact ek _ _ (by omega) h3
  have rz : ∀ i, 1 ≤ i → i ≤ 5 → xo (psh y 2 1 6 z) i (y 0 2) = z (i + 1) := fun i h1 h2 => by
    rw [xo_i _ _ _ h1 h2]
    exact ez _ (by omega) (by omega)
  have q2 : ∀ s, ¬ s = y 0 2 → sR (xo (psh y 2 1 6 z)) s = sR (xo y) s := fun s h => rk 2 s (by omega) (by omega) h
  have q3 : ∀ s, ¬ s = y 0 2 → sK (xo (psh y 2 1 6 z)) s = sK (xo y) s := fun s h => rk 3 s (by omega) (by omega) h
  have q4 : ∀ s, ¬ s = y 0 2 → sL (xo (psh y 2 1 6 z)) s = sL (xo y) s := fun s h => rk 4 s (by omega) (by omega) h
  have q5 : ∀ s, ¬ s = y 0 2 → sD (xo (psh y 2 1 6 z)) s = sD (xo y) s := fun s h => rk 5 s (by omega) (by omega) h
  have z2 : sR (xo (psh y 2 1 6 z)) (y 0 2) = z 3 := rz 2 (by omega) (by omega)
  have z3 : sK (xo (psh y 2 1 6 z)) (y 0 2) = z 4 := rz 3 (by omega) (by omega)
  have z4' : sL (xo (psh y 2 1 6 z)) (y 0 2) = z 5 := rz 4 (by omega) (by omega)
  have z5 : sD (xo (psh y 2 1 6 z)) (y 0 2) = z 6 := rz 5 (by omega) (by omega)
  have fR : xR (vs (xo y) 4 (y 0 2) (z 5)) = xR (xo y) := vs_n (by omega)
  have fC : xC (vs (xo y) 4 (y 0 2) (z 5)) = xC (xo y) := vs_n (by omega)
  have fN : xN (vs (xo y) 4 (y 0 2) (z 5)) = y 0 2 := (vs_n (by omega)).trans (xo_0 _ 2 (by omega))
  have fP : xP (vs (xo y) 4 (y 0 2) (z 5)) = 2 ^ y 0 2 - 1 := vs_n (by omega)
  have fL : sL (vs (xo y) 4 (y 0 2) (z 5)) (y 0 2) = z 5 := vs_y
  have f2 : ∀ s, sR (vs (xo y) 4 (y 0 2) (z 5)) s = sR (xo y) s := fun s => vs_n (by omega)
  have f3 : ∀ s, sK (vs (xo y) 4 (y 0 2) (z 5)) s = sK (xo y) s := fun s => vs_n (by omega)
  have f5 : ∀ s, sD (vs (xo y) 4 (y 0 2) (z 5)) s = sD (xo y) s := fun s => vs_n (by omega)
  have f4 : ∀ s, ¬ s = y 0 2 → sL (vs (xo y) 4 (y 0 2) (z 5)) s = sL (xo y) s := fun s h => vs_n (by omega)
  have cf : ∀ o r c, ¬ o = y 0 2 → (cov (vs (xo y) 4 (y 0 2) (z 5)) o r c ↔ cov (xo y) o r c) := fun o r c h => by
    unfold cov
    rw [f2, f3, f5, f4 o h]
  have co : ∀ o r c, ¬ o = y 0 2 → (cov (xo (psh y 2 1 6 z)) o r c ↔ cov (xo y) o r c) := fun o r c h => by
    unfold cov
    rw [q2 o h, q3 o h, q4 o h, q5 o h]
  have no : ∀ o, o < y 0 2 → ∀ r c, ¬ (cov (xo (psh y 2 1 6 z)) (y 0 2) r c ∧ cov (xo y) o r c) := by
    rintro o ho r c ⟨w1, w2⟩
    have hne : ¬ o = y 0 2 := by omega
    have hP : xP (vs (xo y) 4 (y 0 2) (z 5)) / 2 ^ o % 2 = 1 := by
      rw [fP]
      exact pw1 _ (by omega) o ho
    unfold cov at w1
    rw [z2, z3, z4', z5] at w1
    by_cases q : z 6 = 1
    · rw [if_pos q] at w1
      have := f.2 (r - z 3) (by rw [fL]; omega) o (by rw [fN]; exact ho)
      rw [if_pos q, if_pos q, show z 3 + (r - z 3) = r by omega, show z 4 + 0 = c by omega] at this
      exact this ⟨hne, hP, (cf o r c hne).mpr w2⟩
    · rw [if_neg q] at w1
      have := f.2 (c - z 4) (by rw [fL]; omega) o (by rw [fN]; exact ho)
      rw [if_neg q, if_neg q, show z 4 + (c - z 4) = c by omega, show z 3 + 0 = r by omega] at this
      exact this ⟨hne, hP, (cf o r c hne).mpr w2⟩
  have nN : xN (xo y) = y 0 2 := xo_0 _ 2 (by omega)
  refine ⟨fun s hs => ?_, fun s o hs ho hne r c w => ?_⟩
  · rw [eN] at hs
    by_cases q : s = y 0 2
    · subst q
      rw [z2, z3, z5]
      have := f.1
      unfold inRm at this ⊢
      rw [fR, fC, fL] at this
      rw [eR, eC, z4']
      exact this
    · rw [q2 s q, q3 s q, q5 s q]
      have := n.1 s (by rw [nN]; omega)
      unfold inRm at this ⊢
      rw [eR, eC, q4 s q]
      exact this
  · rw [eN] at hs ho
    by_cases qs : s = y 0 2
    · have qo : ¬ o = y 0 2 := fun e => hne (qs.trans e.symm)
      rw [qs] at w
      exact no o (by omega) r c ⟨w.1, (co o r c qo).mp w.2⟩
    · by_cases qo : o = y 0 2
      · rw [qo] at w
        exact no s (by omega) r c ⟨w.2, (co s r c qs).mp w.1⟩
      · exact n.2 s o (by rw [nN]; omega) (by rw [nN]; omega) hne r c ⟨(co s r c qs).mp w.1, (co o r c qo).mp w.2⟩
theorem okp_law {b : Nat → Nat} {n p : Nat} {y : V} (hp : p ≤ n) (hk : ¬ tK b n p = 0) (hy : Wz y) (v : nov (xo y)) : OKP n (lnLaw b n y p) := by
  unfold lnLaw
  obtain ⟨t1, t2⟩ := tN_lt hp hk
  by_cases q0 : 28 ≤ tK b n (tN b n p) ∧ tK b n (tN b n p) ≤ 30
  case neg => rw [if_neg q0]; exact okp_l (by omega) t2
  rw [if_pos q0]
  obtain ⟨t3, t4⟩ := tN_lt (b := b) t2 (by omega)
  generalize tK b n (tN b n p) - 28 = r at *
  by_cases q1 : y 19 r < y 20 r
  · rw [if_pos q1]; exact okp_l (by omega) t2
  rw [if_neg q1]
  refine okp_bd (oke_run _ _ _ _ _ _ _ _ t4) (fun a e1 => ?_)
  obtain ⟨⟨⟨a0, a1, a2, a3, a4, a5, a6, a7, a8, a9, a10, a11, a12, a13⟩, s1, s2, s3, s4, s5, s6⟩, h8⟩ := hy
  obtain ⟨i1, i2, i3, i4, i5, i6⟩ := lRun_ok (b := b) (n := n) 701 _ _ _ _ _ _ _ a.1 a.2 (y 0 13) t4 ⟨by rw [vs_n (by omega), vs_n (by omega)]; simp only [sg]; omega, by rw [vs_n (by omega)]; exact a8, rfl, by omega, by omega, by omega, by omega, fun k hk => by cases hk⟩ ⟨by rw [vs_n (by omega)]; omega, fun z => by omega⟩ e1
  have k0 : ∀ j, ¬ j = 8 → ¬ j = 13 → vs a.1 20 r (a.1 0 13) 0 j = y 0 j := fun j h1 h2 => by
    rw [vs_n (by omega), i5.1 j h1 h2, vs_n (by omega)]
  have kr : ∀ i k, 1 ≤ i → i ≤ 18 → vs a.1 20 r (a.1 0 13) i k = y i k := fun i k h1 h2 => by
    rw [vs_n (by omega), i5.2 i k h1 (by omega) (by omega), vs_n (by omega)]
  exact okp_pend i1.2 (nv_eq (fun j hj => k0 j (by omega) (by omega)) (fun i j h1 h2 => kr i j (by omega) (by omega)) v)
theorem okp_line {b : Nat → Nat} {n p : Nat} {y : V} (hp : p ≤ n) (hy : Wz y) (v : nov (xo y)) : OKP n (lnLine b n y p) := by
  classical
  have t2 := (tN_le (b := b) hp).2.1
  have t4 := (tN_le (b := b) t2).2.1
  have z2 : ∀ {p lo hi : Nat} {a : Nat × Nat}, p ≤ n → pnum b n p lo hi = .inr a → a.2 ≤ n := fun h e => (pnum_sp (v := _) (p' := _) h e).2.1
  unfold lnLine
  by_cases q20 : tK b n p = 20
  · rw [if_pos q20]
    unfold lnRoom
    by_cases q0 : 0 < y 0 2 ∨ 0 < y 0 3
    · rw [if_pos q0]; exact okp_l (by omega) hp
    rw [if_neg q0]
    by_cases q1 : y 0 10 = 0
    · rw [if_pos q1]
      refine okp_bd (oke_pnum t2) (fun a ea => okp_bd (oke_pnum (z2 t2 ea)) (fun c ec => okp_pend (z2 (z2 t2 ea) ec) (nv_none ?_)))
      rw [vs_n (by omega), vs_n (by omega), vs_n (by omega)]
      omega
    · rw [if_neg q1]; exact okp_l (by omega) hp
  rw [if_neg q20]
  by_cases q21 : tK b n p = 21
  · rw [if_pos q21]
    unfold lnScreen
    by_cases q0 : 5 ≤ y 0 2
    · rw [if_pos q0]; exact okp_l (by omega) hp
    rw [if_neg q0]
    by_cases q1 : tK b n (tN b n p) = 3
    case neg => rw [if_neg q1]; exact okp_l (by omega) t2
    rw [if_pos q1]
    by_cases q2 : sNm y (tV b n (tN b n p)) = 0
    case neg => rw [if_neg q2]; exact okp_l (by omega) t2
    rw [if_pos q2]
    refine okp_bd (oke_pnum t4) (fun a ea => okp_bd (oke_pnum (z2 t4 ea)) (fun r er => okp_bd (oke_pnum (z2 (z2 t4 ea) er)) (fun c ec => okp_bd (oke_pnum (z2 (z2 (z2 t4 ea) er) ec)) (fun l el => okp_bd (oke_pnum (z2 (z2 (z2 (z2 t4 ea) er) ec) el)) (fun u eu => ?_)))))
    by_cases qf : fit (vs (xo y) 4 (y 0 2) l.1) (y 0 2) r.1 c.1 u.1
    case neg => rw [if_neg qf]; exact okp_l (by omega) (z2 (z2 (z2 (z2 t4 ea) er) ec) el)
    rw [if_pos qf]
    exact okp_pend (z2 (z2 (z2 (z2 (z2 t4 ea) er) ec) el) eu) (nv_scr (z := z6 (tV b n (tN b n p)) a.1 r.1 c.1 l.1 u.1 1) (by omega) v qf)
  rw [if_neg q21]
  by_cases q22 : tK b n p = 22
  · rw [if_pos q22]
    unfold lnFolk
    by_cases q0 : 6 ≤ y 0 3
    · rw [if_pos q0]; exact okp_l (by omega) hp
    rw [if_neg q0]
    by_cases q1 : tK b n (tN b n p) = 3
    case neg => rw [if_neg q1]; exact okp_l (by omega) t2
    rw [if_pos q1]
    by_cases q2 : fNm y (tV b n (tN b n p)) = 0
    case neg => rw [if_neg q2]; exact okp_l (by omega) t2
    rw [if_pos q2]
    exact okp_bd (oke_pnum t4) (fun a ea => okp_bd (oke_pnum (z2 t4 ea)) (fun r er => okp_bd (oke_pnum (z2 (z2 t4 ea) er)) (fun c ec => okp_bd (oke_pnum (z2 (z2 (z2 t4 ea) er) ec)) (fun l el => okp_pend (z2 (z2 (z2 (z2 t4 ea) er) ec) el) (nv_eq (fun j hj => psh_0 (by omega) (by omega)) (fun i j h1 h2 => psh_n (by omega) (by omega)) v)))))
  rw [if_neg q22]
  by_cases q23 : tK b n p = 23
  · rw [if_pos q23]
    unfold lnCarry
    by_cases q0 : 10 ≤ y 0 4
    · rw [if_pos q0]; exact okp_l (by omega) hp
    rw [if_neg q0]
    by_cases q1 : tK b n (tN b n p) = 3
    case neg => rw [if_neg q1]; exact okp_l (by omega) t2
    rw [if_pos q1]
    by_cases q2 : sNm y (tV b n (tN b n p)) = 0
    · rw [if_pos q2]; exact okp_l (by omega) t2
    rw [if_neg q2]
    exact okp_bd (oke_pnum t4) (fun a ea => okp_bd (oke_pnum (z2 t4 ea)) (fun r er => okp_bd (oke_pnum (z2 (z2 t4 ea) er)) (fun c ec => okp_pend (z2 (z2 (z2 t4 ea) er) ec) (nv_eq (fun j hj => psh_0 (by omega) (by omega)) (fun i j h1 h2 => psh_n (by omega) (by omega)) v))))
  rw [if_neg q23]
  by_cases q24 : tK b n p = 24
  · rw [if_pos q24]
    unfold lnStep
    by_cases q0 : 12 ≤ y 0 5
    · rw [if_pos q0]; exact okp_l (by omega) hp
    rw [if_neg q0]
    by_cases q1 : tK b n (tN b n p) = 3
    case neg => rw [if_neg q1]; exact okp_l (by omega) t2
    rw [if_pos q1]
    by_cases q2 : fNm y (tV b n (tN b n p)) = 0
    · rw [if_pos q2]; exact okp_l (by omega) t2
    rw [if_neg q2]
    exact okp_bd (oke_pnum t4) (fun a ea => okp_bd (oke_pnum (z2 t4 ea)) (fun r er => okp_pend (z2 (z2 t4 ea) er) (nv_eq (fun j hj => psh_0 (by omega) (by omega)) (fun i j h1 h2 => psh_n (by omega) (by omega)) v)))
  rw [if_neg q24]
  by_cases q25 : tK b n p = 25
  · rw [if_pos q25]
    unfold lnMoth
    by_cases q0 : y 0 11 = 0
    · rw [if_pos q0]
      exact okp_bd (oke_pnum t2) (fun a ea => okp_pend (z2 t2 ea) (nv_eq (fun j hj => (vs_n (by omega)).trans (vs_n (by omega))) (fun i j h1 h2 => (vs_n (by omega)).trans (vs_n (by omega))) v))
    · rw [if_neg q0]; exact okp_l (by omega) hp
  rw [if_neg q25]
  by_cases q26 : tK b n p = 26
  · rw [if_pos q26]
    unfold lnSeed
    by_cases q0 : y 0 12 = 0
    · rw [if_pos q0]
      exact okp_bd (oke_pnum t2) (fun a ea => okp_pend (z2 t2 ea) (nv_eq (fun j hj => (vs_n (by omega)).trans (vs_n (by omega))) (fun i j h1 h2 => (vs_n (by omega)).trans (vs_n (by omega))) v))
    · rw [if_neg q0]; exact okp_l (by omega) hp
  rw [if_neg q26]
  by_cases q27 : tK b n p = 27
  · rw [if_pos q27]; exact okp_law hp (by omega) hy v
  rw [if_neg q27]
  exact okp_l (by omega) hp
theorem okp_prN {b : Nat → Nat} {n : Nat} (hn : n ≤ 700) : ∀ (f : Nat) (y : V) (p : Nat), p ≤ n → Wz y → y 0 9 ≤ p → nov (xo y) → OKP n (prN b n f y p)
  | 0, y, p, hp, hy, h9, v => by
    rw [prN]
    exact ⟨oke_r, fun a h => by cases h; exact v⟩
  | f + 1, y, p, hp, hy, h9, v => by
    rw [prN]
    split
    · exact ⟨oke_r, fun a h => by cases h; exact v⟩
    · have o := okp_line (b := b) hp hy v
      refine okp_bd o.1 (fun a ea => ?_)
      obtain ⟨g1, g2, g3⟩ := lnLine_ok (y' := a.1) (p' := a.2) hp hy ea
      exact okp_prN hn f _ _ g2.2 (Wz_9 g1 (by omega)) (by rw [vs_y]; omega) (nv_eq (fun j hj => vs_n (by omega)) (fun i j h1 h2 => vs_n (by omega)) (o.2 a ea))
theorem okp_prs {b : Nat → Nat} {n : Nat} (hn : n ≤ 700) : OKP n (prs b n) := okp_prN hn 700 y00 _ (tkP_le (Nat.zero_le _)).2 Wz_00 (Nat.zero_le _) (nv_none rfl)
