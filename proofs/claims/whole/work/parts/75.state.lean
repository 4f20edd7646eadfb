/-! The state of the class. -/
/-- what hours go by, of a text -/
def tt (y : V) : V := fun i j => if i = 0 then (if j = 0 then y 0 6 else if j = 1 then y 0 4 else y 0 5) else if i ≤ 11 then y (i + 11) j else if i = 12 then y 19 j else y 20 j
theorem TC_y {h : sr_H} {T : Nat} {y : V} (hy : Wz y) (ts : TS h T y) (ta : TA h T y) : TC h T (tt y) := by
  refine ⟨⟨ts.2.2.1.2.1, ts.2.2.1.2.2.2.2.2.1, ts.2.2.1.2.2.2.2.2.2⟩, fun j h1 h2 k hk => ?_, fun j h1 h2 k hk => ?_, fun k hk => ⟨?_, ?_, fun i h1 h2 => ⟨?_, ?_⟩⟩⟩
  · have hj : j = 1 ∨ j = 2 ∨ j = 3 ∨ j = 4 := by omega
    rcases hj with rfl | rfl | rfl | rfl
    · exact ta 12 (by omega) (by omega) k hk
    · exact ta 13 (by omega) (by omega) k hk
    · exact ta 14 (by omega) (by omega) k hk
    · exact ta 15 (by omega) (by omega) k hk
  · have hj : j = 5 ∨ j = 6 ∨ j = 7 := by omega
    rcases hj with rfl | rfl | rfl
    · exact ta 16 (by omega) (by omega) k hk
    · exact ta 17 (by omega) (by omega) k hk
    · exact ta 18 (by omega) (by omega) k hk
  · exact ta 19 (by omega) (by omega) k hk
  · exact ta 20 (by omega) (by omega) k hk
  · have := hy.1.2.2.2.2.2.1 k hk
    exact ta 21 (by omega) (by omega) i (show i < y 0 13 by have h2 : i < y 20 k := h2; omega)
  · have := hy.1.2.2.2.2.2.1 k hk
    exact ta 22 (by omega) (by omega) i (show i < y 0 13 by have h2 : i < y 20 k := h2; omega)
/-- a view of the room that this text tells -/
def cmp (y x : V) : Prop := (xR x = y 0 0 ∧ xC x = y 0 1 ∧ xN x = y 0 2 ∧ xF x = y 0 3 ∧ xP x = 2 ^ y 0 2 - 1) ∧ (∀ s, s < y 0 2 → sS x s = y 2 s ∧ sL x s = y 5 s ∧ sW x s < 2 ^ y 5 s) ∧ ∀ p, p < y 0 3 → pW x p = y 11 p
theorem Wt_y {y x : V} (hy : Wz y) (c : cmp y x) : Wt (tt y) (xN x) (xF x) := by
  obtain ⟨⟨⟨a0, a1, a2, a3, a4, a5, a6, a7, a8, a9, a10, a11, a12, a13⟩, s1, s2, s3, s4, s5, s6⟩, h8⟩ := hy
  rw [c.1.2.2.1, c.1.2.2.2.1]
  refine ⟨a6, ⟨a4, s3⟩, ⟨a5, s4⟩, fun k hk => ⟨⟨?_, fun i h1 h2 => ?_⟩, ?_⟩⟩
  · have := s5 k hk
    show y 20 k ≤ 64
    omega
  · have := s5 k hk
    have h2 : i < y 20 k := h2
    exact s6 i (by omega)
  · have := s5 k hk
    show y 19 k ≤ 64
    omega
theorem cmp_xo {y : V} (hy : Wz y) : cmp y (xo y) ∧ Wr (xo y) ∧ xH (xo y) = 0 := by
  refine ⟨⟨⟨rfl, rfl, rfl, rfl, rfl⟩, fun s hs => ⟨rfl, rfl, ?_⟩, fun p hp => rfl⟩, ⟨Wx_y hy.1, hy.1.1.2.2.2.1, Nat.zero_le _, ?_, fun p hp => ?_⟩, rfl⟩
  · show 2 ^ y 5 s - 1 < 2 ^ y 5 s
    have := Nat.two_pow_pos (y 5 s)
    omega
  · have := hy.1.1.2.2.2.2.2.2.2.1
    show y 0 7 < 2 ^ 31
    omega
  · obtain ⟨h1, h2, h3, h4, h5⟩ := hy.1.2.2.1 p hp
    exact ⟨show y 8 p ≤ 999 by omega, h3, h4, h5, Nat.zero_le _⟩
theorem RC_y {h : sr_H} {T : Nat} {y : V} (ts : TS h T y) (ta : TA h T y) (tb : TB h T y) : RC h (T + 1) (xo y) := by
  refine ⟨SC_y ts ta tb, ts.2.1.1, ts.2.1.2.1, ts.2.1.2.2.1, ts.2.1.2.2.2, fun p hp => ⟨?_, ?_, ?_, ?_, tb.2 p hp⟩⟩
  · exact ta 8 (by omega) (by omega) p hp
  · exact ta 9 (by omega) (by omega) p hp
  · exact ta 10 (by omega) (by omega) p hp
  · exact ta 11 (by omega) (by omega) p hp
/-- all of the class's objects, its text at T -/
def CSh (h : sr_H) (T : Nat) : Prop := IOK T ∧ h.1.1 ≤ 1000 ∧ Rom h T ∧ Prs h (44 - T) ∧ Rdr h ∧ (Txt h 5 ∧ Txt h 39) ∧ (Rm h 72 ∧ Rm h 88 ∧ Rm h 104) ∧ Hst h ∧ Sgt h ∧ Wys h ∧ Jdg h
def CQ (h : sr_H) (q : V) : Prop := (∀ i, i < 700 → hI h 3 i = nI (q 1 i)) ∧ fI h 2 1 = nI (q 0 0) ∧ (∀ w, w < 21 → hI h 4 w = nI (WC w)) ∧ fI h 1 0 = nI (q 0 1) ∧ fI h 1 1 = oI (q 0 2)
def CT (h : sr_H) (T : Nat) (y : V) : Prop := TS h T y ∧ TA h T y ∧ TB h T y ∧ KC h (T + 2) (xo y)
def CN (h : sr_H) (x : V) : Prop := RC h 72 x ∧ KC h 73 x
def CI (h : sr_H) (q xi : V) : Prop := fI h 0 5 = nI (q 0 3) ∧ (q 0 3 = 1 → RC h 104 xi ∧ KC h 105 xi)
/-- the class: fed, faults, image kept, undone in q; its text y, the room x, the image xi, what was before H, what was seen g -/
def CR (h : sr_H) (T : Nat) (q y x xi : V) (H : Nat → V) (g : V) : Prop := CSh h T ∧ CQ h q ∧ CT h T y ∧ CN h x ∧ CI h q xi ∧ HC h (q 0 4) H x ∧ SG h g
/-- screens are in the room and don't cross -/
def nov (x : V) : Prop := (∀ s, s < xN x → inRm x s (sR x s) (sK x s) (sD x s)) ∧ ∀ s o, s < xN x → o < xN x → ¬ s = o → ∀ r c, ¬ (cov x s r c ∧ cov x o r c)
/-- a view that may stand -/
def VW (y x : V) : Prop := cmp y x ∧ Wr x ∧ xH x ≤ 9900 ∧ nov x
def SV (q y x xi : V) (H : Nat → V) (g : V) : Prop := ((∀ i, q 1 i < 256) ∧ q 0 0 ≤ 700 ∧ q 0 1 ≤ 5 ∧ q 0 2 ≤ 701 ∧ q 0 3 ≤ 1 ∧ q 0 4 ≤ 20) ∧ Wz y ∧ VW y x ∧ (q 0 3 = 1 → VW y xi) ∧ (∀ k, k < q 0 4 → VW y (H k)) ∧ Wg g (y 0 0) (y 0 1)
theorem SS_CSh {h h' : sr_H} {T : Nat} (s : SS h h') (c : CSh h T) : CSh h' T := by
  obtain ⟨c1, c2, c3, c4, c5, ⟨c6, c7⟩, ⟨c8, c9, c10⟩, c11, c12, c13, c14⟩ := c
  exact ⟨c1, by rw [s.1]; exact c2, c3.ss s, c4.ss s, c5.ss s, ⟨c6.ss s, c7.ss s⟩, ⟨c8.ss s, c9.ss s, c10.ss s⟩, c11.ss s, c12.ss s, c13.ss s, c14.ss s⟩
theorem CQ_of {h h' : sr_H} {q : V} (e : ∀ a, 1 ≤ a → a ≤ 4 → h'.2 a = h.2 a) (c : CQ h q) : CQ h' q := ⟨fun i hi => by rw [hI_of (e 3 (by omega) (by omega))]; exact c.1 i hi, by rw [fI_of (e 2 (by omega) (by omega))]; exact c.2.1, fun w hw => by rw [hI_of (e 4 (by omega) (by omega))]; exact c.2.2.1 w hw, by rw [fI_of (e 1 (by omega) (by omega))]; exact c.2.2.2.1, by rw [fI_of (e 1 (by omega) (by omega))]; exact c.2.2.2.2⟩
theorem KC_oe {h h' : sr_H} {S : Nat} {x : V} (e : ∀ a, S ≤ a → a ≤ S + 9 → h'.2 a = h.2 a) (c : KC h S x) : KC h' S x := by
  refine ⟨by rw [fI_of (e S (by omega) (by omega))]; exact c.1, fun r k hr hk => ?_⟩
  obtain ⟨k1, k2, k3⟩ := c.2 r k hr hk
  exact ⟨by rw [hI_of (e (S + 7) (by omega) (by omega))]; exact k1, by rw [hI_of (e (S + 8) (by omega) (by omega))]; exact k2, by rw [hI_of (e (S + 9) (by omega) (by omega))]; exact k3⟩
theorem SC_oe {h h' : sr_H} {S : Nat} {x : V} (e : ∀ a, S ≤ a → a ≤ S + 9 → h'.2 a = h.2 a) (c : SC h S x) : SC h' S x := by
  obtain ⟨c1, c2, c3, c4, c5⟩ := c
  have es := e S (by omega) (by omega)
  refine ⟨by rw [fI_of es]; exact c1, by rw [fI_of es]; exact c2, by rw [fI_of es]; exact c3, by rw [fI_of es]; exact c4, fun s hs => ?_⟩
  obtain ⟨d1, d2, d3, d4, d5, d6⟩ := c5 s hs
  exact ⟨by rw [hI_of (e (S + 1) (by omega) (by omega))]; exact d1, by rw [hI_of (e (S + 2) (by omega) (by omega))]; exact d2, by rw [hI_of (e (S + 3) (by omega) (by omega))]; exact d3, by rw [hI_of (e (S + 4) (by omega) (by omega))]; exact d4, by rw [hI_of (e (S + 5) (by omega) (by omega))]; exact d5, by rw [hI_of (e (S + 6) (by omega) (by omega))]; exact d6⟩
theorem RC_oe {h h' : sr_H} {B : Nat} {x : V} (e : ∀ a, B ≤ a → a ≤ B + 15 → h'.2 a = h.2 a) (c : RC h B x) : RC h' B x := by
  obtain ⟨c1, c2, c3, c4, c5, c6⟩ := c
  have eb := e B (by omega) (by omega)
  refine ⟨SC_oe (fun a h1 h2 => e a (by omega) (by omega)) c1, by rw [fI_of eb]; exact c2, by rw [fI_of eb]; exact c3, by rw [fI_of eb]; exact c4, by rw [fJ_of eb]; exact c5, fun p hp => ?_⟩
  obtain ⟨d1, d2, d3, d4, d5⟩ := c6 p hp
  exact ⟨by rw [hI_of (e (B + 11) (by omega) (by omega))]; exact d1, by rw [hI_of (e (B + 12) (by omega) (by omega))]; exact d2, by rw [hI_of (e (B + 13) (by omega) (by omega))]; exact d3, by rw [hI_of (e (B + 14) (by omega) (by omega))]; exact d4, by rw [hI_of (e (B + 15) (by omega) (by omega))]; exact d5⟩
theorem CN_of {h h' : sr_H} {x : V} (e : ∀ a, 72 ≤ a → a ≤ 87 → h'.2 a = h.2 a) (c : CN h x) : CN h' x := ⟨RC_oe (fun a h1 h2 => e a h1 h2) c.1, KC_oe (fun a h1 h2 => e a (by omega) (by omega)) c.2⟩
theorem CI_of {h h' : sr_H} {q xi : V} (e0 : h'.2 0 = h.2 0) (e : ∀ a, 104 ≤ a → a ≤ 119 → h'.2 a = h.2 a) (c : CI h q xi) : CI h' q xi := ⟨by rw [fI_of e0]; exact c.1, fun z => ⟨RC_oe (fun a h1 h2 => e a h1 h2) (c.2 z).1, KC_oe (fun a h1 h2 => e a (by omega) (by omega)) (c.2 z).2⟩⟩
theorem HC_oe {h h' : sr_H} {n : Nat} {H : Nat → V} {x : V} (e0 : h'.2 120 = h.2 120) (e1 : h'.2 121 = h.2 121) (c : HC h n H x) : HC h' n H x := by
  refine ⟨c.1, by rw [fI_of e0]; exact c.2.1, fun k hk => ?_⟩
  obtain ⟨w, r, cc, a, b, ⟨h1, h2, h3, h4, h5⟩, hh⟩ := c.2.2 k hk
  exact ⟨w, r, cc, a, b, ⟨by rw [hI_of e1]; exact h1, by rw [hI_of e1]; exact h2, by rw [hI_of e1]; exact h3, by rw [hI_of e1]; exact h4, by rw [hI_of e1]; exact h5⟩, hh⟩
theorem SG_oe {h h' : sr_H} {g : V} (e : ∀ a, 122 ≤ a → a ≤ 127 → h'.2 a = h.2 a) (c : SG h g) : SG h' g := by
  refine ⟨by rw [fI_of (e 122 (by omega) (by omega))]; exact c.1, by rw [fI_of (e 122 (by omega) (by omega))]; exact c.2.1, fun k hk => ?_⟩
  obtain ⟨h1, h2⟩ := c.2.2 k hk
  refine ⟨by rw [hI_of (e 127 (by omega) (by omega))]; exact h1, fun z => ?_⟩
  obtain ⟨d1, d2, d3, d4⟩ := h2 z
  exact ⟨by rw [hI_of (e 123 (by omega) (by omega))]; exact d1, by rw [hI_of (e 124 (by omega) (by omega))]; exact d2, by rw [hI_of (e 125 (by omega) (by omega))]; exact d3, by rw [hI_of (e 126 (by omega) (by omega))]; exact d4⟩
theorem off_22 : ∀ j, j < 23 → 1 ≤ j → ¬ off j = 22 ∧ ¬ off j = 23 := by decide
theorem CT_of {h h' : sr_H} {T : Nat} {y : V} (e : ∀ a, T ≤ a → a ≤ T + 32 → ¬ a = T + 22 → ¬ a = T + 23 → h'.2 a = h.2 a) (c : CT h T y) : CT h' T y := by
  obtain ⟨ts, ta, tb, kc⟩ := c
  refine ⟨?_, fun j h1 h2 k hk => ?_, ⟨fun s hs => ?_, fun s hs => ?_⟩, KC_oe (fun a h1 h2 => e a (by omega) (by omega) (by omega) (by omega)) kc⟩
  · unfold TS at *
    rw [fI_of (e (T + 2) (by omega) (by omega) (by omega) (by omega)), fI_of (e (T + 2) (by omega) (by omega) (by omega) (by omega)), fI_of (e (T + 2) (by omega) (by omega) (by omega) (by omega)), fI_of (e (T + 2) (by omega) (by omega) (by omega) (by omega)), fI_of (e (T + 1) (by omega) (by omega) (by omega) (by omega)), fI_of (e (T + 1) (by omega) (by omega) (by omega) (by omega)), fI_of (e (T + 1) (by omega) (by omega) (by omega) (by omega)), fJ_of (e (T + 1) (by omega) (by omega) (by omega) (by omega)), fI_of (e T (by omega) (by omega) (by omega) (by omega)), fI_of (e T (by omega) (by omega) (by omega) (by omega)), fI_of (e T (by omega) (by omega) (by omega) (by omega)), fI_of (e T (by omega) (by omega) (by omega) (by omega)), fI_of (e T (by omega) (by omega) (by omega) (by omega)), fI_of (e T (by omega) (by omega) (by omega) (by omega)), fI_of (e T (by omega) (by omega) (by omega) (by omega)), fI_of (e (T + 17) (by omega) (by omega) (by omega) (by omega)), fI_of (e (T + 17) (by omega) (by omega) (by omega) (by omega))]
    exact ts
  · have o1 := (off_le j (by omega)).1
    have o2 := off_22 j (by omega) h1
    rw [hI_of (e _ (by omega) (by omega) (by omega) (by omega))]
    exact ta j h1 h2 k hk
  · rw [hI_of (e _ (by omega) (by omega) (by omega) (by omega))]
    exact tb.1 s hs
  · rw [hI_of (e _ (by omega) (by omega) (by omega) (by omega))]
    exact tb.2 s hs
/-- what is used and holds nothing between calls -/
def scr (T : Nat) : Nat → Prop := fun a => (88 ≤ a ∧ a ≤ 103) ∨ 128 ≤ a ∨ a = T + 22 ∨ a = T + 23
theorem CR_fr {h h' : sr_H} {T : Nat} {q y x xi g : V} {H : Nat → V} (c : CR h T q y x xi H g) (f : Fr h h' (scr T)) : CR h' T q y x xi H g := by
  obtain ⟨c1, c2, c3, c4, c5, c6, c7⟩ := c
  have hT := c1.1
  have e : ∀ a, ¬ scr T a → h'.2 a = h.2 a := f.2
  unfold IOK at hT
  refine ⟨SS_CSh f.1 c1, CQ_of (fun a h1 h2 => e a (by unfold scr; omega)) c2, CT_of (fun a h1 h2 h3 h4 => e a (by unfold scr; omega)) c3, CN_of (fun a h1 h2 => e a (by unfold scr; omega)) c4, CI_of (e 0 (by unfold scr; omega)) (fun a h1 h2 => e a (by unfold scr; omega)) c5, HC_oe (e 120 (by unfold scr; omega)) (e 121 (by unfold scr; omega)) c6, SG_oe (fun a h1 h2 => e a (by unfold scr; omega)) c7⟩
/-- the reference's cells are left -/
def Fq (h h' : sr_H) : Prop := h'.1 = h.1 ∧ ∀ a, 141 ≤ a → h'.2 a = h.2 a
theorem Fq.rf {h : sr_H} : Fq h h := ⟨rfl, fun _ _ => rfl⟩
theorem Fq.tr {h h1 h2 : sr_H} (a : Fq h h1) (b : Fq h1 h2) : Fq h h2 := ⟨b.1.trans a.1, fun q hq => (b.2 q hq).trans (a.2 q hq)⟩
theorem Fq_of {h h' : sr_H} {P : Nat → Prop} (f : Fr h h' P) (hP : ∀ a, P a → a < 141) : Fq h h' := ⟨f.1.1, fun a ha => f.2 a (fun z => by have := hP a z; omega)⟩
theorem Txt_T {h : sr_H} {T : Nat} (hT : IOK T) (w : Txt h 5 ∧ Txt h 39) : Txt h T ∧ Txt h (44 - T) := by
  rcases hT with rfl | rfl
  · exact ⟨w.1, w.2⟩
  · exact ⟨w.2, w.1⟩
/-- what hours keep -/
def srw (x y : V) : Prop := ∀ s, y 1 s = x 1 s ∧ y 4 s = x 4 s ∧ y 10 s = x 10 s ∧ y 6 s ≤ x 6 s
theorem srw.rf {x : V} : srw x x := fun _ => ⟨rfl, rfl, rfl, Nat.le_refl _⟩
theorem srw.tr {x y z : V} (a : srw x y) (b : srw y z) : srw x z := fun s => ⟨(b s).1.trans (a s).1, (b s).2.1.trans (a s).2.1, (b s).2.2.1.trans (a s).2.2.1, Nat.le_trans (b s).2.2.2 (a s).2.2.2⟩
theorem srw_vs {x : V} {i j v : Nat} (h : ¬ i = 1 ∧ ¬ i = 4 ∧ ¬ i = 10 ∧ ¬ i = 6) : srw x (vs x i j v) := fun s => ⟨vs_n (by omega), vs_n (by omega), vs_n (by omega), Nat.le_of_eq (vs_n (by omega))⟩
theorem srw_cut {x : V} {s : Nat} : srw x (cutv x s) := fun j => by
  refine ⟨vs_n (by omega), vs_n (by omega), vs_n (by omega), ?_⟩
  unfold cutv
  by_cases q : j = s
  · rw [q, vs_y]
    exact Nat.and_le_left
  · rw [vs_n (by omega)]
    exact Nat.le_refl _
theorem srw_car {x t : V} : srw x (car x t) := by
  classical
  have : ∀ n, srw x (crN x t n) := by
    intro n
    induction n with
    | zero => exact srw.rf
    | succ n ih =>
      refine ih.tr ?_
      show srw (crN x t n) (cst (crN x t n) t n)
      unfold cst
      split
      · split
        · exact ((srw_vs (by omega)).tr (srw_vs (by omega))).tr (srw_vs (by omega))
        · exact srw_vs (by omega)
      · exact srw.rf
  exact this _
theorem srw_stp {x t : V} : srw x (stp x t) := by
  have : ∀ n, srw x (stN x t n) := by
    intro n
    induction n with
    | zero => exact srw.rf
    | succ n ih =>
      refine ih.tr ?_
      show srw (stN x t n) (sst (stN x t n) t n)
      unfold sst
      split
      · split
        · exact srw_vs (by omega)
        · exact ((srw_vs (by omega)).tr (srw_vs (by omega))).tr (srw_vs (by omega))
      · exact srw.rf
  exact this _
theorem srw_pay {x t : V} : srw x (pay x t) := by
  classical
  have : ∀ n, srw x (pyN x t n) := by
    intro n
    induction n with
    | zero => exact srw.rf
    | succ n ih =>
      refine ih.tr ?_
      show srw (pyN x t n) (pst (pyN x t n) t n)
      unfold pst
      split
      · exact srw_vs (by omega)
      · exact srw.rf
  exact this _
theorem srw_mth {dr : Nat} {x t : V} : srw x (mth dr x t) := by
  have : ∀ n, srw x (mtN dr x t n) := by
    intro n
    induction n with
    | zero => exact srw.rf
    | succ n ih =>
      refine ih.tr ?_
      show srw (mtN dr x t n) (mst dr (mtN dr x t n) t n)
      unfold mst
      repeat' split
      all_goals first | exact srw.rf | exact srw_cut | exact srw_vs (by omega) | exact (srw_vs (by omega)).tr srw_cut
  exact this _
theorem srw_hor {w : Nat} {x t : V} : srw x (hor w x t) := by
  have h1 : srw x (ho1 w x t) := by unfold ho1; split <;> first | exact srw.rf | exact srw_car
  have h2 : srw (ho1 w x t) (ho2 w (ho1 w x t) t) := by unfold ho2; split <;> first | exact srw.rf | exact srw_stp
  have h3 : srw (ho2 w (ho1 w x t) t) (ho3 w (ho2 w (ho1 w x t) t) t) := by unfold ho3; split <;> first | exact srw.rf | exact srw_pay
  have h4 : srw (ho3 w (ho2 w (ho1 w x t) t) t) (ho4 w (ho3 w (ho2 w (ho1 w x t) t) t) t) := by unfold ho4; split <;> first | exact srw.rf | exact srw_mth
  exact (((h1.tr h2).tr h3).tr h4).tr (srw_vs (by omega))
theorem srw_pas {w : Nat} {x t : V} : ∀ n, srw x (pas w x t n)
  | 0 => srw.rf
  | n + 1 => (srw_pas n).tr srw_hor
theorem cmp_srw {y x z : V} (c : cmp y x) (s : srw x z) (h : xN z = xN x ∧ xF z = xF x ∧ xR z = xR x ∧ xC z = xC x ∧ xP z = xP x) : cmp y z := by
  obtain ⟨⟨c1, c2, c3, c4, c5⟩, c6, c7⟩ := c
  obtain ⟨h1, h2, h3, h4, h5⟩ := h
  refine ⟨⟨h3.trans c1, h4.trans c2, h1.trans c3, h2.trans c4, h5.trans c5⟩, fun k hk => ?_, fun p hp => (s p).2.2.1.trans (c7 p hp)⟩
  obtain ⟨d1, d2, d3⟩ := c6 k hk
  exact ⟨(s k).1.trans d1, (s k).2.1.trans d2, Nat.lt_of_le_of_lt (s k).2.2.2 d3⟩
