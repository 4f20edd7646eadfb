/-! What holds of the state goes on holding: call by call. -/
theorem sv_q {q q' y x xi g : V} {H : Nat → V} (v : SV q y x xi H g) (h1 : ∀ i, q' 1 i < 256) (h0 : q' 0 0 ≤ 700 ∧ q' 0 1 ≤ 5 ∧ q' 0 2 ≤ 701) (h3 : q' 0 3 = q 0 3) (h4 : q' 0 4 = q 0 4) : SV q' y x xi H g := by
  obtain ⟨⟨a1, a2, a3, a4, a5, a6⟩, b, c, d, e, f⟩ := v
  exact ⟨⟨h1, h0.1, h0.2.1, h0.2.2, by omega, by omega⟩, b, c, fun z => d (by omega), fun k hk => e k (by omega), f⟩
theorem sv_feed {q y x xi g : V} {H : Nat → V} {a b c d e : Int32} (v : SV q y x xi H g) (h : q 0 0 + 20 ≤ 700) : SV (fdQ q a b c d e) y x xi H g := by
  obtain ⟨a1, a2, a3, a4, a5, a6⟩ := v.1
  refine sv_q v (fun i => ?_) ⟨h, a3, a4⟩ rfl rfl
  have eq : fdQ q a b c d e 1 i = if q 0 0 ≤ i ∧ i < q 0 0 + 20 then fdB a b c d e (i - q 0 0) else q 1 i := by
    unfold fdQ
    rw [if_neg (show ¬ (1 = 0 ∧ i = 0) by omega)]
    simp only [true_and]
  rw [eq]
  split
  · unfold fdB
    exact (by4_ok _ _).2
  · exact a1 i
theorem sv_tf {q y x xi g : V} {H : Nat → V} {n : Nat} {e : Nat × Nat} (v : SV q y x xi H g) (hn : n ≤ q 0 0) (pe : prs (q 1) n = .inl e) : SV (txF q e) y x xi H g := by
  obtain ⟨a1, a2, a3, a4, a5, a6⟩ := v.1
  have o := (okp_prs (b := q 1) (n := n) (by omega)).1 e pe
  refine sv_q v (fun i => ?_) ⟨Nat.zero_le _, o.1, show e.2 + 1 ≤ 701 by omega⟩ rfl rfl
  have : txF q e 1 i = q 1 i := (vs_n (by omega)).trans ((vs_n (by omega)).trans (vs_n (by omega)))
  rw [this]
  exact a1 i
theorem sv_tq {q y x xi g y' : V} {H : Nat → V} {n p' : Nat} (v : SV q y x xi H g) (hn : n ≤ q 0 0) (pe : prs (q 1) n = .inr (y', p')) : SV (txQ q) y' (xo y') xi H (txG g) := by
  obtain ⟨a1, a2, a3, a4, a5, a6⟩ := v.1
  have o := (okp_prs (b := q 1) (n := n) (by omega)).2 _ pe
  have wy : Wz y' := prN_ok (b := q 1) (n := n) (by omega) 700 y00 (tkP (q 1) n 0) y' p' (tkP_le (Nat.zero_le _)).2 Wz_00 (Nat.zero_le _) pe
  obtain ⟨c1, c2, c3⟩ := cmp_xo wy
  refine ⟨⟨fun i => ?_, Nat.zero_le _, Nat.zero_le _, Nat.zero_le _, Nat.zero_le _, Nat.zero_le _⟩, wy, ⟨c1, c2, by omega, o⟩, fun z => absurd (show (0 : Nat) = 1 from z) (by decide), fun k hk => absurd hk (Nat.not_lt_zero _), Nat.zero_le _, Nat.zero_le _, fun k hk => absurd hk (Nat.not_lt_zero _)⟩
  have : txQ q 1 i = q 1 i := (vs_n (by omega)).trans ((vs_n (by omega)).trans ((vs_n (by omega)).trans ((vs_n (by omega)).trans (vs_n (by omega)))))
  rw [this]
  exact a1 i
theorem sv_push {q y x x' xi g : V} {H : Nat → V} (v : SV q y x xi H g) (w : VN y x') (hh : xH x' = xH x) : SV (vs q 0 4 (hps (q 0 4) + 1)) y x' xi (hsh H (q 0 4) x) g := by
  obtain ⟨⟨a1, a2, a3, a4, a5, a6⟩, b, c, d, e, f⟩ := v
  have h0 : ∀ j, ¬ j = 4 → vs q 0 4 (hps (q 0 4) + 1) 0 j = q 0 j := fun j hj => vs_n (by omega)
  have h4 : vs q 0 4 (hps (q 0 4) + 1) 0 4 = hps (q 0 4) + 1 := vs_y
  have hp : hps (q 0 4) ≤ 19 := by
    unfold hps
    split
    · omega
    · omega
  have hc := c.2.2.1
  refine ⟨⟨fun i => ?_, by rw [h0 0 (by omega)]; exact a2, by rw [h0 1 (by omega)]; exact a3, by rw [h0 2 (by omega)]; exact a4, by rw [h0 3 (by omega)]; exact a5, by rw [h4]; omega⟩, b, VW_vn w (by omega), fun z => d (by rw [h0 3 (by omega)] at z; exact z), fun k hk => ?_, f⟩
  · have : vs q 0 4 (hps (q 0 4) + 1) 1 i = q 1 i := vs_n (by omega)
    rw [this]
    exact a1 i
  · unfold hsh
    by_cases z : k < hps (q 0 4)
    · rw [if_pos z]
      refine e _ ?_
      unfold hps at z
      unfold hof
      split at z
      · rw [if_pos (by assumption)]; omega
      · rw [if_neg (by assumption)]; omega
    · rw [if_neg z]; exact c
theorem sv_carry {q y x xi g : V} {H : Nat → V} {s r k : Int32} (v : SV q y x xi H g) (a : a_carry x s r k) : SV (vs q 0 4 (hps (q 0 4) + 1)) y (plc x s.toNatClampNeg r.toNatClampNeg k.toNatClampNeg (sD x s.toNatClampNeg)) xi (hsh H (q 0 4) x) g := by
  have hs := a.1.2
  exact sv_push v (VN_plc v.2.1 (VN_vw v.2.2.1) hs (v.2.2.1.2.1.1.2.2.2.2 _ hs).2.2.1 a.2.2.2) shp_plc.2.2.1
theorem sv_turn {q y x xi g : V} {H : Nat → V} {s : Int32} (v : SV q y x xi H g) (a : a_turn x s) : SV (vs q 0 4 (hps (q 0 4) + 1)) y (plc x s.toNatClampNeg (sR x s.toNatClampNeg) (sK x s.toNatClampNeg) (1 - sD x s.toNatClampNeg)) xi (hsh H (q 0 4) x) g := by
  have hs := a.1.2
  have b := v.2.2.1.2.1.1.2.2.2.2 _ hs
  have f := a.2.2
  rw [nI_clamp (by omega), nI_clamp (by omega)] at f
  exact sv_push v (VN_plc v.2.1 (VN_vw v.2.2.1) hs (by omega) f) shp_plc.2.2.1
theorem sv_mend {q y x xi g : V} {H : Nat → V} {s : Int32} (v : SV q y x xi H g) (a : a_mendP x s) : SV (vs q 0 4 (hps (q 0 4) + 1)) y (vs x 6 s.toNatClampNeg (sW x s.toNatClampNeg + 2 ^ (fct x s.toNatClampNeg - 1))) xi (hsh H (q 0 4) x) g := sv_push v (VN_mend (VN_vw v.2.2.1) a.1.2 a.2) (vs_n (by omega))
theorem sv_step {q y x xi g : V} {H : Nat → V} {p u : Int32} (v : SV q y x xi H g) (a : a_stepP x p u) : SV (vs q 0 4 (hps (q 0 4) + 1)) y (stX (tt y) x p.toNatClampNeg u.toNatClampNeg) xi (hsh H (q 0 4) x) g := by
  have w := v.2.2.1.2.1
  unfold stX
  rcases bynd_sp (r := pR x p.toNatClampNeg) (c := pC x p.toNatClampNeg) (w := u.toNatClampNeg) w.1 with e | ⟨r', c', e, h1, h2⟩
  · exact absurd e a.2
  · have b2 := w.1.2.1
    have e : stB1 x p.toNatClampNeg u.toNatClampNeg = 8 * r' + c' + 1 := e
    rw [e, show (8 * r' + c' + 1 - 1) / 8 = r' by omega, show (8 * r' + c' + 1 - 1) % 8 = c' by omega]
    exact sv_push v (VN_ent (VN_vw v.2.2.1) a.1.1.2 h1 h2) ((vs_n (by omega)).trans ((vs_n (by omega)).trans (vs_n (by omega))))
theorem sv_go {q y x xi g : V} {H : Nat → V} {n : Int32} (v : SV q y x xi H g) (a : a_goP x n) : SV (goQ q n.toNatClampNeg) y (pas 1 x (tt y) n.toNatClampNeg) xi H g := by
  obtain ⟨⟨a1, a2, a3, a4, a5, a6⟩, b, c, d, e, f⟩ := v
  have ht := Wt_y b c.1
  rw [c.1.1.2.2.1, c.1.1.2.2.2.1] at ht
  obtain ⟨w, eh⟩ := VN_pas (w := 1) b ht (VN_vw c) n.toNatClampNeg (by have := a.2; omega)
  have h0 : ∀ j, ¬ j = 4 → goQ q n.toNatClampNeg 0 j = q 0 j := fun j hj => vs_n (by omega)
  have h4 : goQ q n.toNatClampNeg 0 4 = if n.toNatClampNeg = 0 then q 0 4 else 0 := vs_y
  have l4 : goQ q n.toNatClampNeg 0 4 ≤ q 0 4 := by
    rw [h4]
    split
    · exact Nat.le_refl _
    · exact Nat.zero_le _
  refine ⟨⟨fun i => ?_, by rw [h0 0 (by omega)]; exact a2, by rw [h0 1 (by omega)]; exact a3, by rw [h0 2 (by omega)]; exact a4, by rw [h0 3 (by omega)]; exact a5, by omega⟩, b, VW_vn w (by have := a.2; omega), fun z => d (by rw [h0 3 (by omega)] at z; exact z), fun k hk => e k (by omega), f⟩
  have : goQ q n.toNatClampNeg 1 i = q 1 i := vs_n (by omega)
  rw [this]
  exact a1 i
theorem sv_undo {q y x xi g : V} {H : Nat → V} {n : Nat} (v : SV q y x xi H g) (a : q 0 4 = n + 1) : SV (vs q 0 4 n) y (H n) xi H g := by
  obtain ⟨⟨a1, a2, a3, a4, a5, a6⟩, b, c, d, e, f⟩ := v
  have h0 : ∀ j, ¬ j = 4 → vs q 0 4 n 0 j = q 0 j := fun j hj => vs_n (by omega)
  have h4 : vs q 0 4 n 0 4 = n := vs_y
  refine ⟨⟨fun i => ?_, by rw [h0 0 (by omega)]; exact a2, by rw [h0 1 (by omega)]; exact a3, by rw [h0 2 (by omega)]; exact a4, by rw [h0 3 (by omega)]; exact a5, by omega⟩, b, e n (by omega), fun z => d (by rw [h0 3 (by omega)] at z; exact z), fun k hk => e k (by omega), f⟩
  have : vs q 0 4 n 1 i = q 1 i := vs_n (by omega)
  rw [this]
  exact a1 i
theorem sv_keep {q y x xi g : V} {H : Nat → V} (v : SV q y x xi H g) : SV (vs q 0 3 1) y x x H g := by
  obtain ⟨⟨a1, a2, a3, a4, a5, a6⟩, b, c, d, e, f⟩ := v
  have h0 : ∀ j, ¬ j = 3 → vs q 0 3 1 0 j = q 0 j := fun j hj => vs_n (by omega)
  have h3 : vs q 0 3 1 0 3 = 1 := vs_y
  refine ⟨⟨fun i => ?_, by rw [h0 0 (by omega)]; exact a2, by rw [h0 1 (by omega)]; exact a3, by rw [h0 2 (by omega)]; exact a4, by omega, by rw [h0 4 (by omega)]; exact a6⟩, b, c, fun _ => c, fun k hk => e k (by rw [h0 4 (by omega)] at hk; exact hk), f⟩
  have : vs q 0 3 1 1 i = q 1 i := vs_n (by omega)
  rw [this]
  exact a1 i
theorem sv_back {q y x xi g : V} {H : Nat → V} (v : SV q y x xi H g) (a : q 0 3 = 1) : SV (vs q 0 4 0) y xi xi H g := by
  obtain ⟨⟨a1, a2, a3, a4, a5, a6⟩, b, c, d, e, f⟩ := v
  have h0 : ∀ j, ¬ j = 4 → vs q 0 4 0 0 j = q 0 j := fun j hj => vs_n (by omega)
  have h4 : vs q 0 4 0 0 4 = 0 := vs_y
  refine ⟨⟨fun i => ?_, by rw [h0 0 (by omega)]; exact a2, by rw [h0 1 (by omega)]; exact a3, by rw [h0 2 (by omega)]; exact a4, by rw [h0 3 (by omega)]; exact a5, by omega⟩, b, d a, fun _ => d a, fun k hk => absurd hk (by omega), f⟩
  have : vs q 0 4 0 1 i = q 1 i := vs_n (by omega)
  rw [this]
  exact a1 i
theorem sv_g {q y x xi g g' : V} {H : Nat → V} (v : SV q y x xi H g) (w : Wg g' (y 0 0) (y 0 1)) : SV q y x xi H g' := ⟨v.1, v.2.1, v.2.2.1, v.2.2.2.1, v.2.2.2.2.1, w⟩
theorem sv_out {q y x xi g : V} {H : Nat → V} {s : Int32} (v : SV q y x xi H g) (a : a_outP g s) : SV q y x xi H (ouG g s.toNatClampNeg) := by
  obtain ⟨w1, w2, w3⟩ := v.2.2.2.2.2
  have hs := a.2.2
  have a1 := a.1
  have e0 : ouG g s.toNatClampNeg 0 0 = g 0 0 + 1 := vs_y
  have e1 : ouG g s.toNatClampNeg 0 1 = g 0 1 := (vs_n (by omega)).trans (vs_n (by omega))
  have ek : ∀ i k, 1 ≤ i → ¬ (i = 5 ∧ k = g 0 0) → ouG g s.toNatClampNeg i k = g i k := fun i k h1 h2 => (vs_n (by omega)).trans (vs_n (by omega))
  have e5 : ouG g s.toNatClampNeg 5 (g 0 0) = s.toNatClampNeg + 1 := (vs_n (by omega)).trans vs_y
  refine sv_g v ⟨by omega, by omega, fun k hk => ?_⟩
  by_cases z : k = g 0 0
  · subst z
    rw [e5]
    exact ⟨by omega, fun z => absurd z (by omega)⟩
  · rw [ek 5 k (by omega) (by omega), ek 1 k (by omega) (by omega), ek 2 k (by omega) (by omega), ek 3 k (by omega) (by omega), ek 4 k (by omega) (by omega)]
    exact w3 k (by omega)
theorem sv_see {q y x xi g : V} {H : Nat → V} {hr r k se : Int32} {b : Nat} (v : SV q y x xi H g) (hb : b ≤ 1) (a : a_seeP x g hr r k se) : SV q y x xi H (seG g hr.toNatClampNeg (8 * r.toNatClampNeg + k.toNatClampNeg) se.toNatClampNeg b) := by
  obtain ⟨w1, w2, w3⟩ := v.2.2.2.2.2
  obtain ⟨⟨⟨h1, h2⟩, h3⟩, ⟨h4, h5⟩, h6⟩ := a
  have cx := v.2.2.1.1.1
  have bC := v.2.2.1.2.1.1.2.1
  obtain ⟨hn, hnl, rfl⟩ := nI_of h1.1
  have hh := (inb_nI hnl).mp h1
  have h4' := h4.2
  have h5' := h5.2
  have h3' := h3.2
  have hz : ¬ hn = 0 := fun z => h2 (by rw [z]; rfl)
  rw [nI_clamp hnl]
  generalize r.toNatClampNeg = r0 at *
  generalize k.toNatClampNeg = k0 at *
  generalize se.toNatClampNeg = s0 at *
  rw [cx.1] at h4'
  rw [cx.2.1] at h5' bC
  have e0 : seG g hn (8 * r0 + k0) s0 b 0 0 = g 0 0 + 1 := vs_y
  have e1 : seG g hn (8 * r0 + k0) s0 b 0 1 = g 0 1 := (vs_n (by omega)).trans ((vs_n (by omega)).trans ((vs_n (by omega)).trans ((vs_n (by omega)).trans ((vs_n (by omega)).trans (vs_n (by omega))))))
  have ek : ∀ i k, 1 ≤ i → ¬ k = g 0 0 → seG g hn (8 * r0 + k0) s0 b i k = g i k := fun i k h1 h2 => (vs_n (by omega)).trans ((vs_n (by omega)).trans ((vs_n (by omega)).trans ((vs_n (by omega)).trans ((vs_n (by omega)).trans (vs_n (by omega))))))
  have z5 : seG g hn (8 * r0 + k0) s0 b 5 (g 0 0) = 0 := (vs_n (by omega)).trans vs_y
  have z4 : seG g hn (8 * r0 + k0) s0 b 4 (g 0 0) = b := (vs_n (by omega)).trans ((vs_n (by omega)).trans vs_y)
  have z3 : seG g hn (8 * r0 + k0) s0 b 3 (g 0 0) = s0 := (vs_n (by omega)).trans ((vs_n (by omega)).trans ((vs_n (by omega)).trans vs_y))
  have z2 : seG g hn (8 * r0 + k0) s0 b 2 (g 0 0) = 8 * r0 + k0 := (vs_n (by omega)).trans ((vs_n (by omega)).trans ((vs_n (by omega)).trans ((vs_n (by omega)).trans vs_y)))
  have z1 : seG g hn (8 * r0 + k0) s0 b 1 (g 0 0) = hn := (vs_n (by omega)).trans ((vs_n (by omega)).trans ((vs_n (by omega)).trans ((vs_n (by omega)).trans ((vs_n (by omega)).trans vs_y))))
  refine sv_g v ⟨by omega, by omega, fun k hk => ?_⟩
  by_cases z : k = g 0 0
  · subst z
    rw [z1, z2, z3, z4, z5]
    exact ⟨by omega, fun _ => ⟨⟨by omega, by omega⟩, ⟨by omega, by omega⟩, by omega, hb⟩⟩
  · rw [ek 5 k (by omega) z, ek 1 k (by omega) z, ek 2 k (by omega) z, ek 3 k (by omega) z, ek 4 k (by omega) z]
    exact w3 k (by omega)
