/-! Inversions: what an instruction that went on has found. -/
theorem sr_go_inv {K : sr_K} {o : sr_3} {R : sr_R} (h : sr_go K o = some R) : ∃ L S hh, o = some (L, S, hh) ∧ K L S hh = some R := by
  cases o with
  | none => cases h
  | some q => exact ⟨q.1, q.2.1, q.2.2, rfl, h⟩
theorem sr_i1_inv {f : Int32 → Int32} {L S : List Value} {h : sr_H} {K : sr_K} {R : sr_R} (hev : sr_go K (sr_i1 f L S h) = some R) : ∃ x S', S = .int x :: S' ∧ K L (.int (f x) :: S') h = some R := by
  unfold sr_i1 at hev
  split at hev
  · exact ⟨_, _, rfl, hev⟩
  · cases hev
theorem sr_i2_inv {f : Int32 → Int32 → Int32} {L S : List Value} {h : sr_H} {K : sr_K} {R : sr_R} (hev : sr_go K (sr_i2 f L S h) = some R) : ∃ x y S', S = .int y :: .int x :: S' ∧ K L (.int (f x y) :: S') h = some R := by
  unfold sr_i2 at hev
  split at hev
  · exact ⟨_, _, _, rfl, hev⟩
  · cases hev
theorem sr_id_inv {f : Int32 → Int32 → Int32} {L S : List Value} {h : sr_H} {K : sr_K} {R : sr_R} (hev : sr_go K (sr_id f L S h) = some R) : ∃ x y S', S = .int y :: .int x :: S' ∧ ¬ y = 0 ∧ K L (.int (f x y) :: S') h = some R := by
  unfold sr_id at hev
  split at hev
  · split at hev
    · cases hev
    · exact ⟨_, _, _, rfl, ‹_›, hev⟩
  · cases hev
theorem sr_l1_inv {f : Int64 → Int64} {L S : List Value} {h : sr_H} {K : sr_K} {R : sr_R} (hev : sr_go K (sr_l1 f L S h) = some R) : ∃ x S', S = .long x :: S' ∧ K L (.long (f x) :: S') h = some R := by
  unfold sr_l1 at hev
  split at hev
  · exact ⟨_, _, rfl, hev⟩
  · cases hev
theorem sr_l2_inv {f : Int64 → Int64 → Int64} {L S : List Value} {h : sr_H} {K : sr_K} {R : sr_R} (hev : sr_go K (sr_l2 f L S h) = some R) : ∃ x y S', S = .long y :: .long x :: S' ∧ K L (.long (f x y) :: S') h = some R := by
  unfold sr_l2 at hev
  split at hev
  · exact ⟨_, _, _, rfl, hev⟩
  · cases hev
theorem sr_ld_inv {f : Int64 → Int64 → Int64} {L S : List Value} {h : sr_H} {K : sr_K} {R : sr_R} (hev : sr_go K (sr_ld f L S h) = some R) : ∃ x y S', S = .long y :: .long x :: S' ∧ ¬ y = 0 ∧ K L (.long (f x y) :: S') h = some R := by
  unfold sr_ld at hev
  split at hev
  · split at hev
    · cases hev
    · exact ⟨_, _, _, rfl, ‹_›, hev⟩
  · cases hev
theorem sr_gf_inv {ci k : Nat} {L S : List Value} {h : sr_H} {K : sr_K} {R : sr_R} (hev : sr_go K (sr_gf ci k L S h) = some R) : ∃ a S' fs v, S = .ref a :: S' ∧ h.2 a = .inr (.inr (ci, fs)) ∧ a < h.1.1 ∧ fs[k]? = some v ∧ K L (v :: S') h = some R := by
  unfold sr_gf at hev
  split at hev
  · split at hev
    · split at hev
      · rename_i hc
        obtain ⟨h1, rfl⟩ := hc
        split at hev
        · exact ⟨_, _, _, _, rfl, ‹_›, h1, ‹_›, hev⟩
        · cases hev
      · cases hev
    · cases hev
  · cases hev
theorem sr_pf_inv {ci k ty : Nat} {L S : List Value} {h : sr_H} {K : sr_K} {R : sr_R} (hev : sr_go K (sr_pf ci k ty L S h) = some R) : ∃ a S' fs v, S = v :: .ref a :: S' ∧ h.2 a = .inr (.inr (ci, fs)) ∧ a < h.1.1 ∧ k < fs.length ∧ sr_ok ty v = true ∧ K L S' (h.1, sr_up h.2 a (.inr (.inr (ci, fs.set k v)))) = some R := by
  unfold sr_pf at hev
  split at hev
  · split at hev
    · split at hev
      · rename_i hc
        obtain ⟨h1, rfl, h2, h3⟩ := hc
        exact ⟨_, _, _, _, rfl, ‹_›, h1, h2, h3, hev⟩
      · cases hev
    · cases hev
  · cases hev
theorem sr_ia_inv {L S : List Value} {h : sr_H} {K : sr_K} {R : sr_R} (hev : sr_go K (sr_ia L S h) = some R) : ∃ i a S', S = .int i :: .ref a :: S' ∧ ((∃ n f, a < h.1.1 ∧ h.2 a = .inl (0, n, f) ∧ vp_in i n ∧ K L (.int (f i.toNatClampNeg) :: S') h = some R) ∨ (sr_sb ≤ a ∧ a < sr_sc ∧ vp_in i (sr_sa (a - sr_sb)).length ∧ K L (.int ((sr_sa (a - sr_sb)).getD i.toNatClampNeg 0) :: S') h = some R)) := by
  unfold sr_ia at hev
  split at hev
  · refine ⟨_, _, _, rfl, ?_⟩
    split at hev
    · split at hev
      · split at hev
        · cases hev
        · exact Or.inl ⟨_, _, ‹_›, ‹_›, ‹_›, hev⟩
      · cases hev
    · split at hev
      · split at hev
        · cases hev
        · rename_i hc _
          exact Or.inr ⟨hc.1, hc.2, ‹_›, hev⟩
      · cases hev
  · cases hev
theorem sr_za_inv {L S : List Value} {h : sr_H} {K : sr_K} {R : sr_R} (hev : sr_go K (sr_za L S h) = some R) : ∃ i a S' n f, S = .int i :: .ref a :: S' ∧ a < h.1.1 ∧ h.2 a = .inl (1, n, f) ∧ vp_in i n ∧ K L (.int (f i.toNatClampNeg) :: S') h = some R := by
  unfold sr_za at hev
  split at hev
  · split at hev
    · split at hev
      · split at hev
        · cases hev
        · exact ⟨_, _, _, _, _, rfl, ‹_›, ‹_›, ‹_›, hev⟩
      · cases hev
    · cases hev
  · cases hev
theorem sr_ja_inv {L S : List Value} {h : sr_H} {K : sr_K} {R : sr_R} (hev : sr_go K (sr_ja L S h) = some R) : ∃ i a S' n f, S = .int i :: .ref a :: S' ∧ a < h.1.1 ∧ h.2 a = .inr (.inl (n, f)) ∧ vp_in i n ∧ K L (.long (f i.toNatClampNeg) :: S') h = some R := by
  unfold sr_ja at hev
  split at hev
  · split at hev
    · split at hev
      · split at hev
        · cases hev
        · exact ⟨_, _, _, _, _, rfl, ‹_›, ‹_›, ‹_›, hev⟩
      · cases hev
    · cases hev
  · cases hev
theorem sr_is_inv {L S : List Value} {h : sr_H} {K : sr_K} {R : sr_R} (hev : sr_go K (sr_is L S h) = some R) : ∃ x i a S' n f, S = .int x :: .int i :: .ref a :: S' ∧ a < h.1.1 ∧ h.2 a = .inl (0, n, f) ∧ vp_in i n ∧ K L S' (h.1, sr_up h.2 a (.inl (0, n, upd f i.toNatClampNeg x))) = some R := by
  unfold sr_is at hev
  split at hev
  · split at hev
    · split at hev
      · split at hev
        · cases hev
        · exact ⟨_, _, _, _, _, _, rfl, ‹_›, ‹_›, ‹_›, hev⟩
      · cases hev
    · cases hev
  · cases hev
theorem sr_zs_inv {L S : List Value} {h : sr_H} {K : sr_K} {R : sr_R} (hev : sr_go K (sr_zs L S h) = some R) : ∃ x i a S' n f, S = .int x :: .int i :: .ref a :: S' ∧ a < h.1.1 ∧ (x = 0 ∨ x = 1) ∧ h.2 a = .inl (1, n, f) ∧ vp_in i n ∧ K L S' (h.1, sr_up h.2 a (.inl (1, n, upd f i.toNatClampNeg x))) = some R := by
  unfold sr_zs at hev
  split at hev
  · split at hev
    · rename_i hc
      split at hev
      · split at hev
        · cases hev
        · exact ⟨_, _, _, _, _, _, rfl, hc.1, hc.2, ‹_›, ‹_›, hev⟩
      · cases hev
    · cases hev
  · cases hev
theorem sr_js_inv {L S : List Value} {h : sr_H} {K : sr_K} {R : sr_R} (hev : sr_go K (sr_js L S h) = some R) : ∃ x i a S' n f, S = .long x :: .int i :: .ref a :: S' ∧ a < h.1.1 ∧ h.2 a = .inr (.inl (n, f)) ∧ vp_in i n ∧ K L S' (h.1, sr_up h.2 a (.inr (.inl (n, vp_updL f i.toNatClampNeg x)))) = some R := by
  unfold sr_js at hev
  split at hev
  · split at hev
    · split at hev
      · split at hev
        · cases hev
        · exact ⟨_, _, _, _, _, _, rfl, ‹_›, ‹_›, ‹_›, hev⟩
      · cases hev
    · cases hev
  · cases hev
theorem sr_al_inv {L S : List Value} {h : sr_H} {K : sr_K} {R : sr_R} (hev : sr_go K (sr_al L S h) = some R) : ∃ a S' n, S = .ref a :: S' ∧ a < h.1.1 ∧ ((∃ t f, h.2 a = .inl (t, n, f)) ∨ ∃ f, h.2 a = .inr (.inl (n, f))) ∧ K L (.int (nI n) :: S') h = some R := by
  unfold sr_al at hev
  split at hev
  · split at hev
    · split at hev
      · exact ⟨_, _, _, rfl, ‹_›, Or.inl ⟨_, _, ‹_›⟩, hev⟩
      · exact ⟨_, _, _, rfl, ‹_›, Or.inr ⟨_, ‹_›⟩, hev⟩
      · cases hev
    · cases hev
  · cases hev
theorem sr_nw_inv {ci : Nat} {fs L S : List Value} {h : sr_H} {K : sr_K} {R : sr_R} (hev : sr_go K (sr_nw ci fs L S h) = some R) : h.1.1 < sr_mx ∧ K L (.ref h.1.1 :: S) ((h.1.1 + 1, h.1.2 + fs.length), sr_up h.2 h.1.1 (.inr (.inr (ci, fs)))) = some R := by
  unfold sr_nw at hev
  split at hev
  · exact ⟨‹_›, hev⟩
  · cases hev
theorem sr_cp_inv {L S : List Value} {h : sr_H} {K : sr_K} {R : sr_R} (hev : sr_go K (sr_cp L S h) = some R) : ∃ n dp a sp b S' n0 f n1 g, S = .int n :: .int dp :: .ref a :: .int sp :: .ref b :: S' ∧ a < h.1.1 ∧ b < h.1.1 ∧ ¬ sp < 0 ∧ ¬ dp < 0 ∧ ¬ n < 0 ∧ h.2 b = .inl (0, n0, f) ∧ h.2 a = .inl (0, n1, g) ∧ sp.toNatClampNeg + n.toNatClampNeg ≤ n0 ∧ dp.toNatClampNeg + n.toNatClampNeg ≤ n1 ∧ K L S' (h.1, sr_up h.2 a (.inl (0, n1, va_cpy f g sp.toNatClampNeg dp.toNatClampNeg n.toNatClampNeg))) = some R := by
  unfold sr_cp at hev
  split at hev
  · split at hev
    · rename_i hc
      split at hev
      · split at hev
        · rename_i e1 e2 hd
          exact ⟨_, _, _, _, _, _, _, _, _, _, rfl, hc.1, hc.2.1, hc.2.2.1, hc.2.2.2.1, hc.2.2.2.2, e1, e2, hd.1, hd.2, hev⟩
        · cases hev
      · cases hev
    · cases hev
  · cases hev
theorem sr_cl_inv {C : Nat → List Value → sr_H → Option sr_R} {mid n : Nat} {ok : List Value → sr_H → Bool} {K : sr_K} {L S : List Value} {h : sr_H} {R : sr_R} (hev : sr_cl C mid n ok K L S h = some R) : ∃ as S' r h', sr_pop n [] S = some (as, S') ∧ sr_sz S' ≤ 8 ∧ (sr_ar as).length ≤ sr_ml mid ∧ ok as h = true ∧ C mid as h = some (r, h') ∧ K L (r.toList ++ S') h' = some R := by
  unfold sr_cl at hev
  split at hev
  · split at hev
    · rename_i hc
      split at hev
      · exact ⟨_, _, _, _, ‹_›, hc.1, hc.2.1, hc.2.2, ‹_›, hev⟩
      · cases hev
    · cases hev
  · cases hev
theorem sr_pop_eq : ∀ (n : Nat) (as S as' S' : List Value), sr_pop n as S = some (as', S') → ∃ T, S = T ++ S' ∧ T.length = n ∧ as' = T.reverse ++ as
  | 0, as, S, as', S', h => by
    cases h
    exact ⟨[], rfl, rfl, rfl⟩
  | n + 1, as, [], as', S', h => by cases h
  | n + 1, as, v :: S, as', S', h => by
    obtain ⟨T, h1, h2, h3⟩ := sr_pop_eq n (v :: as) S as' S' h
    exact ⟨v :: T, by rw [h1]; rfl, by simp [h2], by rw [h3]; simp⟩
theorem sr_io_inv {ci : Nat} {as : List Value} {h : sr_H} (hk : sr_io ci as h = true) : ∃ a as' fs, as = .ref a :: as' ∧ a < h.1.1 ∧ h.2 a = .inr (.inr (ci, fs)) := by
  unfold sr_io at hk
  split at hk
  · split at hk
    · rename_i e
      simp only [decide_eq_true_eq] at hk
      obtain ⟨h1, rfl⟩ := hk
      exact ⟨_, _, _, rfl, h1, e⟩
    · cases hk
  · cases hk
