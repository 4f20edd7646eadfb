/-! folk of both sides, each by itself: out is written between them. -/
theorem j_folkC {dA T : Nat} {q y x xi g : V} {H : Nat → V} {h : sr_H} {p w : Int32} (j : JS h T q y x xi H g) (hp : inb p (xF x)) (hw : inb w 6) : sr_M (dA + 4) 131 [.ref 0, .int p, .int w] h (fun r h1 => r = some (.int (a_folk x p.toNatClampNeg w.toNatClampNeg)) ∧ h1 = h) := by
  obtain ⟨p0, hp0, rfl⟩ := nI_of hp.1
  obtain ⟨w0, hw0, rfl⟩ := nI_of hw.1
  have hp' := (inb_nI hp0).mp hp
  have hw' := (inb_nI hw0).mp hw
  rw [nI_clamp hp0, nI_clamp hw0]
  exact (c_folk j.1 j.2.2.1 hp' (by omega)).mpr ⟨rfl, rfl⟩
theorem j_folkR {dB T : Nat} {q y x xi g : V} {H : Nat → V} {h : sr_H} {p w : Int32} (j : JS h T q y x xi H g) (hp : inb p (xF x)) (hw : inb w 6) : sr_M (dB + 12) 249 [.ref 141, .int p, .int w] h (fun r2 h2 => r2 = some (.int (a_folk x p.toNatClampNeg w.toNatClampNeg)) ∧ JX h2 ∧ gf h h2 ∧ fI h2 141 0 = nI 0) := by
  have v := j.2.2.1
  obtain ⟨p0, hp0, rfl⟩ := nI_of hp.1
  obtain ⟨w0, hw0, rfl⟩ := nI_of hw.1
  have hp' := (inb_nI hp0).mp hp
  have hw' := (inb_nI hw0).mp hw
  rw [nI_clamp hp0, nI_clamp hw0]
  refine wM_mono (m_leaves (gl_1 gl_i2) j.2.2.2 (e_folk (Q := fun r2 h2 => r2 = some (.int (a_folk x p0 w0)) ∧ MK h2 q y x xi H g) j.2.1 v hp' (by omega) (fun h' mk => ⟨rfl, mk⟩))) ?_
  rintro r2 h2 ⟨⟨e, m⟩, l⟩
  exact ⟨e, ⟨T, q, y, x, xi, H, g, CR_cell l.2.1 (fun a ha => l.2.2 a (by unfold gO; omega)) j.1, m.1, v, l.1⟩, l, m.2⟩
theorem j_thrown {d : Nat} {h : sr_H} {k : Nat} (j : JX h) (e : fI h 141 0 = nI k) : sr_M (d + 1) 169 [.ref 141] h (fun r h' => r = some (.int (nI k)) ∧ h' = h) := by
  obtain ⟨T, q, y, x, xi, H, g, c, m, v, b⟩ := j
  rw [r_thrown m.1, e]
  exact ⟨rfl, rfl⟩
