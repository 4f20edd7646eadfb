/-! Both sides stand side by side. -/
theorem MR_cell {h h' : sr_H} {q y x xi g : V} {H : Nat → V} (e1 : h'.1 = h.1) (e : ∀ a, 141 ≤ a → h'.2 a = h.2 a) (m : MR h q y x xi H g) : MR h' q y x xi H g := by
  obtain ⟨m1, m2, ⟨m3, m4⟩, m5, m6, m7, ⟨g1, g2, g3⟩, m9⟩ := m
  have f : ∀ j, fI h' 141 j = fI h 141 j := fun j => fI_of (e 141 (by omega))
  have o : ∀ a i, 141 ≤ a → hI h' a i = hI h a i := fun a i ha => hI_of (e a ha)
  have mx : ∀ {r : Nat} {x : V}, MX h r x → MX h' r x := fun z => MX_sam3 (fun a i ha => o a i (by omega)) (fun j _ _ => f j) z
  refine ⟨ShA_of e1 (fun k _ => e _ (by omega)) m1, MY_of (fun a i h1 h2 => o a i (by omega)) m2, ⟨⟨by rw [f]; exact m3.1, by rw [f]; exact m3.2⟩, by rw [f]; exact m4⟩, mx m5, ⟨by rw [f]; exact m6.1, fun z => mx (m6.2 z)⟩, ⟨by rw [f]; exact m7.1, fun k hk => mx (m7.2 k hk)⟩, ⟨by rw [f]; exact g1, by rw [f]; exact g2, fun k hk => ?_⟩, ⟨fun i hi => by rw [o _ _ (by omega)]; exact m9.1 i hi, by rw [f]; exact m9.2.1, by rw [f]; exact m9.2.2.1, by rw [f]; exact m9.2.2.2⟩⟩
  rw [o 184 _ (by omega), o 180 _ (by omega), o 181 _ (by omega), o 182 _ (by omega), o 183 _ (by omega)]
  exact g3 k hk
theorem CR_cell {h h' : sr_H} {T : Nat} {q y x xi g : V} {H : Nat → V} (e1 : h'.1 = h.1) (e : ∀ a, a < 141 → h'.2 a = h.2 a) (c : CR h T q y x xi H g) : CR h' T q y x xi H g := by
  obtain ⟨⟨c1, c2, c3, c4, c5, ⟨c6, c7⟩, ⟨c8, c9, c10⟩, c11, c12, c13, c14⟩, d2, d3, d4, d5, d6, d7⟩ := c
  have hT : T = 5 ∨ T = 39 := by unfold IOK at c1; omega
  have sh : ∀ {B : Nat} {l : List sr_C}, B + l.length ≤ 141 → ShA h B l → ShA h' B l := fun hl w => ShA_of e1 (fun k hk => e _ (by omega)) w
  refine ⟨⟨c1, by rw [e1]; exact c2, ⟨by rw [e1]; exact c3.1, by rw [e 0 (by omega)]; exact c3.2⟩, ⟨by rw [e1]; exact c4.1, by rw [e 1 (by omega)]; exact c4.2.1, by rw [e1]; exact c4.2.2.1, by rw [e 38 (by omega)]; exact c4.2.2.2⟩, sh (by decide) c5, ⟨sh (by decide) c6, sh (by decide) c7⟩, ⟨sh (by decide) c8, sh (by decide) c9, sh (by decide) c10⟩, sh (by decide) c11, sh (by decide) c12, sh (by decide) c13, sh (by decide) c14⟩, ⟨fun i hi => ?_, ?_, fun w hw => ?_, ?_, ?_⟩, CT_of (fun a z1 z2 z3 z4 => e a (by omega)) d3, CN_of (fun a z1 z2 => e a (by omega)) d4, CI_of (e 0 (by omega)) (fun a z1 z2 => e a (by omega)) d5, HC_oe (e 120 (by omega)) (e 121 (by omega)) d6, SG_oe (fun a z1 z2 => e a (by omega)) d7⟩
  · rw [hI_of (e 3 (by omega))]; exact d2.1 i hi
  · rw [fI_of (e 2 (by omega))]; exact d2.2.1
  · rw [hI_of (e 4 (by omega))]; exact d2.2.2.1 w hw
  · rw [fI_of (e 1 (by omega))]; exact d2.2.2.2.1
  · rw [fI_of (e 1 (by omega))]; exact d2.2.2.2.2
/-- both sides, one state -/
def JS (h : sr_H) (T : Nat) (q y x xi : V) (H : Nat → V) (g : V) : Prop := CR h T q y x xi H g ∧ MR h q y x xi H g ∧ SV q y x xi H g ∧ gh h
def JX (h : sr_H) : Prop := ∃ T q y x xi H g, JS h T q y x xi H g
theorem gh_fq {h h' : sr_H} (f : Fq h h') (g : gh h) : gh h' := ⟨by rw [f.1]; exact g.1, fun a ha c fs e hl => g.2 a ha c fs (by rw [← f.2 a (by unfold gO at ha; omega)]; exact e) (by rw [← f.1]; exact hl)⟩
theorem wM_mono {d m : Nat} {as : List Value} {h : sr_H} {Q Q' : sr_T} (k : sr_M d m as h Q) (z : ∀ r h', Q r h' → Q' r h') : sr_M d m as h Q' := by
  obtain ⟨n, r, h', e, q⟩ := k
  exact ⟨n, r, h', e, z r h' q⟩
/-- the class answered r; the reference answers the same, and both stand side by side again; cells beyond are as they were -/
def JC (d m : Nat) (as : List Value) (K : Value → Prop) (h : sr_H) : sr_T := fun r h1 => (∃ u, r = some u ∧ K u) ∧ Fq h h1 ∧ sr_M d m (.ref 141 :: as) h1 (fun r2 h2 => r2 = r ∧ JX h2 ∧ gf h1 h2)
def kI (v : Value) : Prop := ∃ i, v = .int i
def kJ (v : Value) : Prop := ∃ i, v = .long i
theorem gl_1 {as : List Value} (ga : gl as) : gl (.ref 141 :: as) := gl_cons.mpr ⟨gv_r.mpr (Or.inl ⟨by omega, by omega⟩), ga⟩
/-- the class's answer is known: what is left to the reference -/
theorem j_c {d m T T' : Nat} {as : List Value} {K : Value → Prop} {u : Value} {h h1 : sr_H} {q y x xi g q' y' x' xi' g' : V} {H H' : Nat → V} (j : JS h T q y x xi H g) (ga : gl as) (hu : K u) (f : Fq h h1) (c : CR h1 T' q' y' x' xi' H' g') (v : SV q' y' x' xi' H' g') (k : MR h1 q y x xi H g → sr_M d m (.ref 141 :: as) h1 (fun r2 h2 => r2 = some u ∧ MR h2 q' y' x' xi' H' g')) : JC d m as K h (some u) h1 := by
  refine ⟨⟨u, rfl, hu⟩, f, wM_mono (m_leaves (gl_1 ga) (gh_fq f j.2.2.2) (k (MR_cell f.1 f.2 j.2.1))) ?_⟩
  rintro r2 h2 ⟨⟨e, m⟩, l⟩
  exact ⟨e, ⟨T', q', y', x', xi', H', g', CR_cell l.2.1 (fun a ha => l.2.2 a (by unfold gO; omega)) c, m, v, l.1⟩, l⟩
theorem gl_i0 : gl [] := gl_nil
theorem gl_i1 {a : Int32} : gl [.int a] := gl_cons.mpr ⟨gv_i, gl_nil⟩
theorem gl_i2 {a b : Int32} : gl [.int a, .int b] := gl_cons.mpr ⟨gv_i, gl_i1⟩
theorem gl_i3 {a b c : Int32} : gl [.int a, .int b, .int c] := gl_cons.mpr ⟨gv_i, gl_i2⟩
theorem gl_i5 {a b c d e : Int32} : gl [.int a, .int b, .int c, .int d, .int e] := gl_cons.mpr ⟨gv_i, gl_cons.mpr ⟨gv_i, gl_i3⟩⟩
