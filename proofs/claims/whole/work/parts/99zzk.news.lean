/-! The beginning: the constructors' contracts. -/
theorem z1_ok {o : Option sr_R} (h : sr_z1 o = true) : ∃ h', o = some (none, h') ∧ ∀ g, sr_gt o g = h' := by
  unfold sr_z1 at h
  split at h
  · exact ⟨_, rfl, fun _ => rfl⟩
  · cases h
theorem begin_z : sr_z1 sr_r0 = true ∧ sr_z1 sr_r1 = true := by
  have b := begin_0
  simp only [Bool.and_eq_true] at b
  exact ⟨b.1, b.2.1⟩
theorem begin_c : sr_M 60 126 [.ref 0] sr_h0 (fun r h' => r = none ∧ sr_nx h' = sr_h1) := by
  obtain ⟨h', e, k⟩ := z1_ok begin_z.1
  refine ⟨3000, none, h', e, rfl, ?_⟩
  unfold sr_h1
  rw [k]
def sr_ou (h : sr_H) : sr_H := ((h.1.1 + 1, h.1.2 + 1), sr_up h.2 h.1.1 (.inr (.inl (1, fun _ => 0))))
theorem begin_m : sr_M 60 168 [.ref 141] sr_h1 (fun r h' => r = none ∧ sr_ou h' = sr_hS) := by
  obtain ⟨h', e, k⟩ := z1_ok begin_z.2
  refine ⟨3000, none, h', e, rfl, ?_⟩
  unfold sr_hS
  rw [k]
  rfl
