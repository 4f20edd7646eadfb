/-! The reference parses: a law whole. -/
theorem p_all {b : Nat → Nat} {n m : Nat} (hb : Wb b n) : ∀ q p, n - p < q → p ≤ n → EX b n m 202 1 7 p ∧ EX b n m 201 2 6 p ∧ EX b n m 200 3 5 p ∧ EX b n m 199 4 3 p ∧ EX b n m 198 5 2 p ∧ EX b n m 197 6 1 p := by
  intro q
  induction q with
  | zero => intro p hq; omega
  | succ q ih =>
    intro p hq hp
    have ih' : ∀ p', p < p' → p' ≤ n → _ := fun p' h1 h2 => ih p' (by omega) h2
    have a1 := p_prim hb (fun p' h1 h2 => (ih' p' h1 h2).2.2.2.2.2)
    have a2 := p_prod hb a1 (fun p' h1 h2 => (ih' p' h1 h2).1)
    have a3 := p_sum hb a2 (fun p' h1 h2 => (ih' p' h1 h2).2.1)
    have a4 := p_neg hb a3 (fun p' h1 h2 => (ih' p' h1 h2).2.2.1) (fun p' h1 h2 => (ih' p' h1 h2).2.2.2.1)
    have a5 := p_conj hb a4 (fun p' h1 h2 => (ih' p' h1 h2).2.2.2.1)
    have a6 := p_expr hb a5 (fun p' h1 h2 => (ih' p' h1 h2).2.2.2.2.1)
    exact ⟨a1, a2, a3, a4, a5, a6⟩
set_option maxHeartbeats 4000000 in
set_option maxRecDepth 100000 in
theorem r_expression {d n p m : Nat} {b : Nat → Nat} {y : V} {h : sr_H} {Q : sr_T} (hb : Wb b n) (hp : p ≤ n) (s : PJ h b n y p (100 * m)) (h8 : y 0 13 = y 0 8 ∧ y 0 8 ≤ 64) (kf : ∀ e, lRun b n 701 y p [] 0 0 1 1 = .inl e → ∀ h', FJ h h' → XF h' e → Q none h') (kb : ∀ y' p', p' ≤ n → ¬ tK b n p' = 4 → lRun b n 701 y p [] 0 0 1 1 = .inl (1, p') → ∀ h', FJ h h' → PJ h' b n y' p' (100 * m) → Q none h') (k1 : ∀ y' p', p' ≤ n → tK b n p' = 4 → lRun b n 701 y p [] 0 0 1 1 = .inr (y', p') → CD y y' → ∀ h', FJ h h' → PJ h' b n y' p' (100 * m) → Q none h') : sr_M (d + 150) 197 [.ref 141] h Q := by
  have e := (p_all (m := m) hb (n - p + 1) p (by omega) hp).2.2.2.2.2
  have hn := hb.1
  have s' : PJ h b n y p (0 + 100 * m) := by rw [Nat.zero_add]; exact s
  refine e (d + 150) y [] 0 0 1 701 h Q hp (by omega) s' ⟨⟨by show y 0 13 + 0 = y 0 8; omega, h8.2⟩, by omega, by omega⟩ (by omega) (fun k W' z => by cases z) (by rw [if_neg (by omega)]; exact ⟨rfl, by unfold cb; decide⟩) kf (fun h' y' p' yy P cm' nm' f' f1 s1 gd hl => ?_)
  obtain ⟨⟨g1, g2, g3⟩, gP, gy, -, gc, -, nb⟩ := gd
  rw [Nat.zero_add] at s1
  obtain ⟨f2, rfl⟩ : ∃ g, f' = g + 1 := ⟨f' - 1, by omega⟩
  by_cases q : tK b n p' = 4
  · have le := lr_end (f := f2) (cm := cm') (nm := nm') (y := yy) (W := P ++ []) q
    rw [rel_flu (fun k W' z => by cases z) gP, ← gy] at le
    exact k1 y' p' g2 q (hl.trans le) gc h' f1 s1
  · have lb := lr_bad (f := f2) (y := yy) (op := 0) (cm := cm') (nm := nm') (W := P ++ []) (p := p') (b := b) (n := n) (fun z => q z.2) (fun z => by omega) (by
      rcases nb with z | z | z
      · exact Or.inl (by omega)
      · exact Or.inr (Or.inl z)
      · exact Or.inr (Or.inr z))
    exact kb y' p' g2 q (hl.trans lb) h' f1 s1
