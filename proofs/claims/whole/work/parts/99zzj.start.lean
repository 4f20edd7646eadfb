/-! The beginning: both sides stand. -/
theorem dec_ok {p : Prop} {i : Decidable p} (h : @decide p i = true) : p := of_decide_eq_true h
def q00 : V := fun _ _ => 0
def gB (v : Value) : Bool := match v with
  | .ref a => decide (141 ≤ a ∧ a < 186)
  | _ => true
theorem gB_ok {v w : Value} (e : sr_er v = sr_er w) (b : gB w = true) : gv v := by
  intro a ea
  subst ea
  cases w with
  | ref c =>
    have : a = c := by
      have e : Value.ref a = Value.ref c := e
      injection e
    rw [this]
    exact Or.inl (of_decide_eq_true b)
  | int x => cases e
  | long x => cases e
  | float x => cases e
  | double x => cases e
  | null => cases e
  | retAddr x => cases e
def gCB (c : sr_C) : Bool := match c with
  | .inr (.inr (_, fs)) => fs.all gB
  | _ => true
theorem gl_er : ∀ (fs gs : List Value), fs.map sr_er = gs.map sr_er → gs.all gB = true → gl fs
  | [], _, _, _ => gl_nil
  | v :: fs, [], e, _ => by cases e
  | v :: fs, w :: gs, e, b => by
    rw [List.map_cons, List.map_cons] at e
    injection e with e1 e2
    simp only [List.all_cons, Bool.and_eq_true] at b
    exact gl_cons.mpr ⟨gB_ok e1 b.1, gl_er fs gs e2 b.2⟩
theorem szM_ok : szMdl.all gCB = true := by decide +kernel
theorem gh_mdl {h : sr_H} (b : shB h 141 szMdl = true) (e : h.1.1 = 187) : gh h := by
  refine ⟨by rw [e]; decide, fun a ha c fs ec hl => ?_⟩
  have ha' : 141 ≤ a ∧ a < 186 := by
    unfold gO at ha
    omega
  obtain ⟨k, rfl⟩ : ∃ k, a = 141 + k := ⟨a - 141, by omega⟩
  have hk : k < szMdl.length := by
    show k < 45
    omega
  have q := (shB_ok szMdl 141 b k szMdl[k] (List.getElem?_eq_getElem hk)).2
  have g := List.all_eq_true.mp szM_ok szMdl[k] (List.getElem_mem hk)
  generalize szMdl[k] = d at q g
  rw [ec] at q
  rcases d with ⟨t, n, f⟩ | ⟨n, f⟩ | ⟨c', fs'⟩
  · cases q
  · cases q
  · simp only [sr_sh, Sum.inr.injEq, Prod.mk.injEq] at q
    exact gl_er fs fs' q.2 g
theorem TA_00 {h : sr_H} {I : Nat} (e : ∀ k, k < 3 → hI h (I + off 19) k = nI 0 ∧ hI h (I + off 20) k = nI 0) : TA h I y00 := by
  intro j h1 h2 k hk
  by_cases q : j = 19
  · subst q
    exact (e k hk).1
  by_cases q2 : j = 20
  · subst q2
    exact (e k hk).2
  have ec : cn y00 j = 0 := by
    unfold cn
    repeat' split
    all_goals first | rfl | omega
  rw [ec] at hk
  exact absurd hk (Nat.not_lt_zero _)
theorem KC_b {h : sr_H} {S : Nat} (b : bK h S = true) : KC h S (xo y00) := by
  unfold bK at b
  simp only [Bool.and_eq_true] at b
  refine ⟨of_decide_eq_true b.1, fun r c hr hc => ?_⟩
  have z := of_decide_eq_true (allB_ok 4 (allB_ok 4 b.2 r hr) c hc)
  exact z
theorem sv_00 {H : Nat → V} : SV q00 y00 (xo y00) (xo y00) H q00 := by
  obtain ⟨c1, c2, c3⟩ := cmp_xo Wz_00
  have v : VW y00 (xo y00) := ⟨c1, c2, by omega, nv_none rfl⟩
  exact ⟨⟨fun _ => by show (0 : Nat) < 256; omega, Nat.zero_le _, Nat.zero_le _, Nat.zero_le _, Nat.zero_le _, Nat.zero_le _⟩, Wz_00, v, fun _ => v, fun k hk => absurd hk (Nat.not_lt_zero _), Nat.zero_le _, Nat.zero_le _, fun k hk => absurd hk (Nat.not_lt_zero _)⟩
theorem begin_CR {h : sr_H} {H : Nat → V} (s : bS h = true) (c1 : bC1 h = true) (c2 : bC2 h = true) (k1 : bK h 41 = true) (k2 : bK h 73 = true) (n : bN h = true) : CR h 39 q00 y00 (xo y00) (xo y00) H q00 := by
  unfold bS at s
  unfold bC1 at c1
  unfold bC2 at c2
  unfold bN at n
  simp only [Bool.and_eq_true] at s c1 c2
  obtain ⟨s0, s1, s2, s3, s4, s5, s6, s7, s8, s9, s10, s11, s12, s13⟩ := s
  have e1 := of_decide_eq_true s0
  obtain ⟨a1, a2, a3⟩ := c1
  obtain ⟨b1, b2, b3⟩ := c2
  have b1 := of_decide_eq_true b1
  have ts : TS h 39 y00 := dec_ok b2
  have b3 := of_decide_eq_true b3
  have n := of_decide_eq_true n
  have x0 := shB_ok _ _ s12 0 _ rfl
  have x1 := shB_ok _ _ s12 1 _ rfl
  have x38 := shB_ok _ _ s13 0 _ rfl
  have sc : SC h 73 (xo y00) := ⟨n.1.1, n.1.2.1, n.1.2.2.1, n.1.2.2.2, fun s hs => absurd hs (Nat.not_lt_zero _)⟩
  refine ⟨⟨Or.inr rfl, by omega, x0, ⟨x1.1, x1.2, x38.1, x38.2⟩, shB_S rfl s1, ⟨shB_S rfl s2, shB_S rfl s3⟩, ⟨shB_S rfl s4, shB_S rfl s5, shB_S rfl s6⟩, shB_S rfl s7, shB_S rfl s8, shB_S rfl s9, shB_S rfl s10⟩, ⟨fun i hi => of_decide_eq_true (allB_ok 700 a1 i hi), b1.1, fun w hw => of_decide_eq_true (allB_ok 21 a2 w hw), b1.2.1, b1.2.2⟩, ⟨ts, TA_00 (fun k hk => of_decide_eq_true (allB_ok 3 a3 k hk)), ⟨fun s hs => absurd hs (Nat.not_lt_zero _), fun p hp => absurd hp (Nat.not_lt_zero _)⟩, KC_b k1⟩, ⟨⟨sc, n.2.1, n.2.2.1, n.2.2.2.1, n.2.2.2.2, fun p hp => absurd hp (Nat.not_lt_zero _)⟩, KC_b k2⟩, ⟨b3.1, fun z => absurd (show (0 : Nat) = 1 from z) (by decide)⟩, ⟨Nat.zero_le _, b3.2.1, fun k hk => absurd hk (Nat.not_lt_zero _)⟩, ⟨b3.2.2.1, b3.2.2.2, fun k hk => absurd hk (Nat.not_lt_zero _)⟩⟩
theorem begin_MR {h : sr_H} {H : Nat → V} (s : bS h = true) (c1 : bM1 h = true) (c2 : bM2 h = true) : MR h q00 y00 (xo y00) (xo y00) H q00 := by
  unfold bS at s
  unfold bM1 at c1
  unfold bM2 at c2
  simp only [Bool.and_eq_true] at s c1
  obtain ⟨s0, s1, s2, s3, s4, s5, s6, s7, s8, s9, s10, s11, s12, s13⟩ := s
  obtain ⟨a1, a2, a3⟩ := c1
  obtain ⟨⟨b1, b2, b3⟩, ⟨b4, b5, b6⟩, ⟨b7, b8, b9, b10⟩, b11, b12, b13⟩ := of_decide_eq_true c2
  have y1 : ∀ j, j < 9 → hI h 143 j = nI (y00 0 j) := fun j hj => of_decide_eq_true (allB_ok 9 a1 j hj)
  have l1 : ∀ k, k < 3 → hI h 162 k = nI 0 ∧ hI h 163 k = nI 0 := fun k hk => of_decide_eq_true (allB_ok 3 a2 k hk)
  refine ⟨shB_S rfl s11, ⟨y1, fun j h1 h2 k hk => absurd hk (Nat.not_lt_zero _), fun j h1 h2 k hk => absurd hk (Nat.not_lt_zero _), fun j h1 h2 k hk => absurd hk (Nat.not_lt_zero _), fun j h1 h2 k hk => absurd hk (Nat.not_lt_zero _), fun k hk => ⟨⟨(l1 k hk).1, (l1 k hk).2, fun i g1 g2 => absurd g2 (Nat.not_lt_zero _)⟩, fun g => absurd g (Nat.lt_irrefl _)⟩⟩, ⟨⟨b1, b2⟩, b3⟩, ⟨⟨y1 0 (by omega), y1 1 (by omega), y1 2 (by omega), y1 3 (by omega)⟩, fun s hs => absurd hs (Nat.not_lt_zero _), fun p hp => absurd hp (Nat.not_lt_zero _), b4, b5, b6⟩, ⟨b7, fun z => absurd (show (0 : Nat) = 1 from z) (by decide)⟩, ⟨b8, fun k hk => absurd hk (Nat.not_lt_zero _)⟩, ⟨b9, b10, fun k hk => absurd hk (Nat.not_lt_zero _)⟩, ⟨fun i hi => of_decide_eq_true (allB_ok 700 a3 i hi), b11, b12, b13⟩⟩
theorem begin_JX : JX sr_hS := by
  have b := begin_0
  simp only [Bool.and_eq_true] at b
  obtain ⟨b1, b2, b3, b4, b5, b6, b7, b8, b9, b10⟩ := b
  have b3' := b3
  unfold bS at b3'
  simp only [Bool.and_eq_true] at b3'
  obtain ⟨s0, s1, s2, s3, s4, s5, s6, s7, s8, s9, s10, s11, s12, s13⟩ := b3'
  exact ⟨39, q00, y00, xo y00, xo y00, fun _ => y00, q00, begin_CR b3 b4 b5 b6 b7 b8, begin_MR b3 b9 b10, sv_00, gh_mdl s11 (of_decide_eq_true s0)⟩
