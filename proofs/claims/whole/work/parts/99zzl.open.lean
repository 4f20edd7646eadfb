/-! A call of both sides, as the real machine's rows take it. -/
theorem jc_open {dA mA dB mB : Nat} {as : List Value} {K : Value → Prop} {h : sr_H} (k : sr_M dA mA (.ref 0 :: as) h (JC dB mB as K h)) : ∃ n1 h1 u n2 h2, sr_cf n1 dA mA (.ref 0 :: as) h = some (some u, h1) ∧ K u ∧ sr_cf n2 dB mB (.ref 141 :: as) h1 = some (some u, h2) ∧ JX h2 ∧ h1.1 = h.1 ∧ h2.1 = h.1 ∧ h1.2 186 = h.2 186 ∧ h2.2 186 = h.2 186 := by
  obtain ⟨n1, r, h1, e1, ⟨u, rfl, hu⟩, f, n2, r2, h2, e2, rfl, j, g⟩ := k
  have n186 : ¬ gO 186 := by
    unfold gO
    omega
  exact ⟨n1, h1, u, n2, h2, e1, hu, e2, j, f.1, g.2.1.trans f.1, f.2 186 (by omega), (g.2.2 186 n186).trans (f.2 186 (by omega))⟩
theorem jf_open {dA dB T : Nat} {q y x xi g : V} {H : Nat → V} {h : sr_H} {p w : Int32} (j : JS h T q y x xi H g) (hp : inb p (xF x)) (hw : inb w 6) : ∃ n1 h1 u n2 h2, sr_cf n1 (dA + 4) 131 [.ref 0, .int p, .int w] h = some (some (.int u), h1) ∧ sr_cf n2 (dB + 12) 249 [.ref 141, .int p, .int w] h1 = some (some (.int u), h2) ∧ JX h2 ∧ fI h2 141 0 = nI 0 ∧ h1.1 = h.1 ∧ h2.1 = h.1 ∧ h1.2 186 = h.2 186 ∧ h2.2 186 = h.2 186 := by
  obtain ⟨n1, r, h1, e1, ⟨u, rfl⟩, f, n2, r2, h2, e2, rfl, j2, g2, e0⟩ := j_folk (dA := dA) (dB := dB) j hp hw
  have n186 : ¬ gO 186 := by
    unfold gO
    omega
  exact ⟨n1, h1, u, n2, h2, e1, e2, j2, e0, f.1, g2.2.1.trans f.1, f.2 186 (by omega), (g2.2.2 186 n186).trans (f.2 186 (by omega))⟩
