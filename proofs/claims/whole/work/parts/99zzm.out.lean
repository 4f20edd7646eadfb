/-! out is written: both sides stand as before. -/
theorem MR_hI {h h' : sr_H} {q y x xi g : V} {H : Nat → V} (w : Mdl h') (f : ∀ j, fI h' 141 j = fI h 141 j) (o : ∀ a i, 141 ≤ a → hI h' a i = hI h a i) (m : MR h q y x xi H g) : MR h' q y x xi H g := by
  obtain ⟨m1, m2, ⟨m3, m4⟩, m5, m6, m7, ⟨g1, g2, g3⟩, m9⟩ := m
  have mx : ∀ {r : Nat} {x : V}, MX h r x → MX h' r x := fun z => MX_sam3 (fun a i ha => o a i (by omega)) (fun j _ _ => f j) z
  refine ⟨w, MY_of (fun a i h1 h2 => o a i (by omega)) m2, ⟨⟨by rw [f]; exact m3.1, by rw [f]; exact m3.2⟩, by rw [f]; exact m4⟩, mx m5, ⟨by rw [f]; exact m6.1, fun z => mx (m6.2 z)⟩, ⟨by rw [f]; exact m7.1, fun k hk => mx (m7.2 k hk)⟩, ⟨by rw [f]; exact g1, by rw [f]; exact g2, fun k hk => ?_⟩, ⟨fun i hi => by rw [o _ _ (by omega)]; exact m9.1 i hi, by rw [f]; exact m9.2.1, by rw [f]; exact m9.2.2.1, by rw [f]; exact m9.2.2.2⟩⟩
  rw [o 184 _ (by omega), o 180 _ (by omega), o 181 _ (by omega), o 182 _ (by omega), o 183 _ (by omega)]
  exact g3 k hk
def sr_wo (h : sr_H) (f : Nat → Int64) : sr_H := (h.1, sr_up h.2 186 (.inr (.inl (1, f))))
theorem wo_1 {h : sr_H} {f : Nat → Int64} : (sr_wo h f).1 = h.1 := rfl
theorem wo_ne {h : sr_H} {f : Nat → Int64} {a : Nat} (ha : ¬ a = 186) : (sr_wo h f).2 a = h.2 a := by
  show sr_up h.2 186 (.inr (.inl (1, f))) a = h.2 a
  unfold sr_up
  rw [if_neg ha]
theorem wo_eq {h : sr_H} {f : Nat → Int64} : (sr_wo h f).2 186 = .inr (.inl (1, f)) := by
  show sr_up h.2 186 (.inr (.inl (1, f))) 186 = _
  unfold sr_up
  rw [if_pos rfl]
theorem JS_out {h : sr_H} {T : Nat} {q y x xi g : V} {H : Nat → V} {f f' : Nat → Int64} (e : h.2 186 = .inr (.inl (1, f))) (j : JS h T q y x xi H g) : JS (sr_wo h f') T q y x xi H g := by
  obtain ⟨c, m, v, b⟩ := j
  refine ⟨CR_cell (h := h) wo_1 (fun a ha => wo_ne (by omega)) c, MR_hI (ShA_of (h := h) wo_1 (fun k hk => wo_ne (by have hk : k < 45 := hk; omega)) m.1) (fun j => fI_of (wo_ne (by omega))) (fun a i ha => ?_) m, v, b.1, fun a ha c fs ec hl => b.2 a ha c fs ?_ hl⟩
  · by_cases z : a = 186
    · subst z
      unfold hI
      rw [wo_eq, e]
    · exact hI_of (wo_ne z)
  · rw [wo_ne (by unfold gO at ha; omega)] at ec
    exact ec
