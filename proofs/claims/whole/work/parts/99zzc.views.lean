/-! What may stand goes on standing: views. -/
theorem nov_eq {x x' : V} (e0 : ∀ j, j < 3 → x' 0 j = x 0 j) (e : ∀ i j, 2 ≤ i → i ≤ 5 → x' i j = x i j) (n : nov x) : nov x' := by
  have eR : xR x' = xR x := e0 0 (by omega)
  have eC : xC x' = xC x := e0 1 (by omega)
  have eN : xN x' = xN x := e0 2 (by omega)
  have r2 : ∀ s, sR x' s = sR x s := fun s => e 2 s (by omega) (by omega)
  have r3 : ∀ s, sK x' s = sK x s := fun s => e 3 s (by omega) (by omega)
  have r4 : ∀ s, sL x' s = sL x s := fun s => e 4 s (by omega) (by omega)
  have r5 : ∀ s, sD x' s = sD x s := fun s => e 5 s (by omega) (by omega)
  have c : ∀ s r k, cov x' s r k ↔ cov x s r k := fun s r k => by
    unfold cov
    rw [r2, r3, r4, r5]
  refine ⟨fun s hs => ?_, fun s o hs ho hne r k z => ?_⟩
  · rw [eN] at hs
    have := n.1 s hs
    unfold inRm at this ⊢
    rw [eR, eC, r2, r3, r4, r5]
    exact this
  · rw [eN] at hs ho
    exact n.2 s o hs ho hne r k ⟨(c s r k).mp z.1, (c o r k).mp z.2⟩
theorem cmp_eq {y x x' : V} (e0 : ∀ j, j < 5 → x' 0 j = x 0 j) (e : ∀ i j, i = 1 ∨ i = 4 ∨ i = 6 ∨ i = 10 → x' i j = x i j) (c : cmp y x) : cmp y x' := by
  obtain ⟨⟨c0, c1, c2, c3, c4⟩, cs, cp⟩ := c
  refine ⟨⟨(e0 0 (by omega)).trans c0, (e0 1 (by omega)).trans c1, (e0 2 (by omega)).trans c2, (e0 4 (by omega)).trans c3, (e0 3 (by omega)).trans c4⟩, fun s hs => ⟨(e 1 s (by omega)).trans (cs s hs).1, (e 4 s (by omega)).trans (cs s hs).2.1, ?_⟩, fun p hp => (e 10 p (by omega)).trans (cp p hp)⟩
  have e6 : sW x' s = sW x s := e 6 s (by omega)
  rw [e6]
  exact (cs s hs).2.2
/-- a view that may stand, at any hour -/
def VN (y x : V) : Prop := cmp y x ∧ Wr x ∧ nov x
theorem VN_vw {y x : V} (v : VW y x) : VN y x := ⟨v.1, v.2.1, v.2.2.2⟩
theorem VW_vn {y x : V} (v : VN y x) (h : xH x ≤ 9900) : VW y x := ⟨v.1, v.2.1, h, v.2.2⟩
theorem VN_0 {y x : V} {j v : Nat} (n : VN y x) (hj : 5 ≤ j) (h5 : j = 5 → v ≤ 10000) (h7 : j = 7 → v < 2 ^ 31) : VN y (vs x 0 j v) := ⟨cmp_eq (fun i hi => vs_n (by omega)) (fun i k hi => vs_n (by omega)) n.1, Wr_0 n.2.1 hj h5 h7, nov_eq (fun i hi => vs_n (by omega)) (fun i k h1 h2 => vs_n (by omega)) n.2.2⟩
theorem VN_11 {y x : V} {p v : Nat} (n : VN y x) (hv : v ≤ 9999) : VN y (vs x 11 p v) := ⟨cmp_eq (fun i hi => vs_n (by omega)) (fun i k hi => vs_n (by omega)) n.1, Wr_at n.2.1 (by omega) ⟨fun z => absurd z (by omega), fun z => absurd z (by omega), fun z => absurd z (by omega), fun z => absurd z (by omega), fun _ => hv⟩, nov_eq (fun i hi => vs_n (by omega)) (fun i k h1 h2 => vs_n (by omega)) n.2.2⟩
theorem VN_ent {y x t : V} {p r c : Nat} (n : VN y x) (hp : p < xF x) (hr : r < xR x) (hc : c < xC x) : VN y (ent x t p r c) := ⟨cmp_eq (fun i hi => (vs_n (by omega)).trans ((vs_n (by omega)).trans (vs_n (by omega)))) (fun i k hi => (vs_n (by omega)).trans ((vs_n (by omega)).trans (vs_n (by omega)))) n.1, ent_Wr n.2.1 hp hr hc, nov_eq (fun i hi => (vs_n (by omega)).trans ((vs_n (by omega)).trans (vs_n (by omega)))) (fun i k h1 h2 => (vs_n (by omega)).trans ((vs_n (by omega)).trans (vs_n (by omega)))) n.2.2⟩
theorem VN_6 {y x : V} {s v : Nat} (n : VN y x) (hs : s < xN x) (hv : v < 2 ^ sL x s) : VN y (vs x 6 s v) := by
  obtain ⟨⟨c0, cs, cp⟩, w, m⟩ := n
  have b := (w.1.2.2.2.2 s hs).2.1
  have p4 : 2 ^ sL x s ≤ 2 ^ 4 := Nat.pow_le_pow_right (by omega) b.2
  refine ⟨⟨c0, fun o ho => ⟨(cs o ho).1, (cs o ho).2.1, ?_⟩, cp⟩, Wr_s w (by omega) (by omega) ⟨fun z => absurd z (by omega), fun z => absurd z (by omega), fun z => absurd z (by omega), fun z => absurd z (by omega), fun z => absurd z (by omega), fun _ => by omega⟩, nov_eq (fun i hi => vs_n (by omega)) (fun i k h1 h2 => vs_n (by omega)) m⟩
  by_cases q : o = s
  · subst q
    have e : sW (vs x 6 o v) o = v := vs_y
    rw [e, ← (cs o ho).2.1]
    exact hv
  · have e : sW (vs x 6 s v) o = sW x o := vs_n (by omega)
    rw [e]
    exact (cs o ho).2.2
theorem cw_le (n : Nat) : cw n ≤ n := Nat.and_le_left
theorem VN_cut {y x : V} {s : Nat} (n : VN y x) (hs : s < xN x) : VN y (cutv x s) := by
  have c := n.1.2.1 s (by rw [← n.1.1.2.2.1]; exact hs)
  refine VN_6 n hs (Nat.lt_of_le_of_lt (cw_le _) ?_)
  rw [c.2.1]
  exact c.2.2
theorem cmp_P {y x : V} {o : Nat} (hy : Wz y) (c : cmp y x) (ho : o < xN x) : xP x / 2 ^ o % 2 = 1 := by
  rw [c.1.2.2.2.2]
  have b2 := hy.1.1.2.2.1
  exact pw1 _ (by omega) o (by rw [← c.1.2.2.1]; exact ho)
theorem VN_plc {y x : V} {s r c dn : Nat} (hy : Wz y) (n : VN y x) (hs : s < xN x) (hd : dn ≤ 1) (f : fit x s r c dn) : VN y (plc x s r c dn) := by
  obtain ⟨cm, w, m⟩ := n
  have b1 := w.1.1
  have b2 := w.1.2.1
  have i0 := f.1.1
  have r0 : ∀ j, plc x s r c dn 0 j = x 0 j := fun j => (vs_n (by omega)).trans ((vs_n (by omega)).trans (vs_n (by omega)))
  have ro : ∀ i o, ¬ o = s → plc x s r c dn i o = x i o := fun i o h => (vs_n (by omega)).trans ((vs_n (by omega)).trans (vs_n (by omega)))
  have r2 : sR (plc x s r c dn) s = r := (vs_n (by omega)).trans ((vs_n (by omega)).trans vs_y)
  have r3 : sK (plc x s r c dn) s = c := (vs_n (by omega)).trans vs_y
  have r4 : ∀ o, sL (plc x s r c dn) o = sL x o := fun o => (vs_n (by omega)).trans ((vs_n (by omega)).trans (vs_n (by omega)))
  have r5 : sD (plc x s r c dn) s = dn := vs_y
  have q2 : ∀ o, ¬ o = s → sR (plc x s r c dn) o = sR x o := fun o h => ro 2 o h
  have q3 : ∀ o, ¬ o = s → sK (plc x s r c dn) o = sK x o := fun o h => ro 3 o h
  have q5 : ∀ o, ¬ o = s → sD (plc x s r c dn) o = sD x o := fun o h => ro 5 o h
  have eN : xN (plc x s r c dn) = xN x := r0 2
  have eR : xR (plc x s r c dn) = xR x := r0 0
  have eC : xC (plc x s r c dn) = xC x := r0 1
  have co : ∀ o r' k', ¬ o = s → (cov (plc x s r c dn) o r' k' ↔ cov x o r' k') := fun o r' k' h => by
    unfold cov
    rw [q2 o h, q3 o h, q5 o h, r4]
  have no : ∀ o, o < xN x → ¬ o = s → ∀ r' k', ¬ (cov (plc x s r c dn) s r' k' ∧ cov x o r' k') := by
    rintro o ho hne r' k' ⟨z1, z2⟩
    unfold cov at z1
    rw [r2, r3, r4, r5] at z1
    by_cases q : dn = 1
    · rw [if_pos q] at z1
      have := f.2 (r' - r) (by omega) o ho
      rw [if_pos q, if_pos q, show r + (r' - r) = r' by omega, show c + 0 = k' by omega] at this
      exact this ⟨hne, cmp_P hy cm ho, z2⟩
    · rw [if_neg q] at z1
      have := f.2 (k' - c) (by omega) o ho
      rw [if_neg q, if_neg q, show c + (k' - c) = k' by omega, show r + 0 = r' by omega] at this
      exact this ⟨hne, cmp_P hy cm ho, z2⟩
  refine ⟨cmp_eq (fun j _ => r0 j) (fun i k hi => (vs_n (by omega)).trans ((vs_n (by omega)).trans (vs_n (by omega)))) cm, Wr_plc w (by omega) (by omega) hd, fun o ho => ?_, fun a o ha ho hne r' k' z => ?_⟩
  · rw [eN] at ho
    by_cases q : o = s
    · subst q
      rw [r2, r3, r5]
      have := f.1
      unfold inRm at this ⊢
      rw [eR, eC, r4]
      exact this
    · rw [q2 o q, q3 o q, q5 o q]
      have := m.1 o ho
      unfold inRm at this ⊢
      rw [eR, eC, r4]
      exact this
  · rw [eN] at ha ho
    by_cases qa : a = s
    · subst qa
      exact no o ho (fun e => hne e.symm) r' k' ⟨z.1, (co o r' k' (fun e => hne e.symm)).mp z.2⟩
    · by_cases qo : o = s
      · subst qo
        exact no a ha qa r' k' ⟨z.2, (co a r' k' qa).mp z.1⟩
      · exact m.2 a o ha ho hne r' k' ⟨(co a r' k' qa).mp z.1, (co o r' k' qo).mp z.2⟩
theorem VN_car {y x t : V} (hy : Wz y) (ht : Wt t (y 0 2) (y 0 3)) (n : VN y x) : ∀ k, k ≤ t 0 1 → VN y (crN x t k)
  | 0, _ => n
  | k + 1, hk => by
    have v := VN_car hy ht n k (by omega)
    have hs : t 1 k < xN (crN x t k) := by
      have := (ht.2.1.2 k (by omega)).1
      rw [v.1.1.2.2.1]
      exact this
    show VN y (cst (crN x t k) t k)
    generalize crN x t k = z at *
    unfold cst
    split
    · split
      · rename_i f
        exact VN_plc hy v hs (v.2.1.1.2.2.2.2 _ hs).2.2.1 f
      · exact VN_0 v (by omega) (fun z => absurd z (by omega)) (fun z => absurd z (by omega))
    · exact v
theorem VN_stp {y x t : V} (ht : Wt t (y 0 2) (y 0 3)) (n : VN y x) : ∀ k, k ≤ t 0 2 → VN y (stN x t k)
  | 0, _ => n
  | k + 1, hk => by
    have v := VN_stp ht n k (by omega)
    have hp : t 5 k < xF (stN x t k) := by
      have := (ht.2.2.1.2 k (by omega)).1
      rw [v.1.1.2.2.2.1]
      exact this
    show VN y (sst (stN x t k) t k)
    generalize stN x t k = z at *
    unfold sst
    split
    · split
      · exact VN_0 v (by omega) (fun z => absurd z (by omega)) (fun z => absurd z (by omega))
      · rename_i c
        rcases bynd_sp (r := pR z (t 5 k)) (c := pC z (t 5 k)) (w := t 7 k) v.2.1.1 with e | ⟨r', c', e, h1, h2⟩
        · exact absurd e c
        · have b2 := v.2.1.1.2.1
          rw [e, show (8 * r' + c' + 1 - 1) / 8 = r' by omega, show (8 * r' + c' + 1 - 1) % 8 = c' by omega]
          exact VN_ent v hp h1 h2
    · exact v
theorem VN_pay {y x t : V} (n : VN y x) : ∀ p, VN y (pyN x t p)
  | 0 => n
  | p + 1 => by
    have v := VN_pay (t := t) n p
    show VN y (pst (pyN x t p) t p)
    generalize pyN x t p = z at *
    unfold pst
    split
    · exact VN_11 v (Nat.min_le_left _ _)
    · exact v
theorem VN_mth {y x t : V} {dr : Nat} (n : VN y x) : ∀ s, s ≤ y 0 2 → VN y (mtN dr x t s)
  | 0, _ => n
  | s + 1, hs => by
    have v := VN_mth (dr := dr) (t := t) n s (by omega)
    have hs : s < xN (mtN dr x t s) := by
      rw [v.1.1.2.2.1]
      omega
    show VN y (mst dr (mtN dr x t s) t s)
    generalize mtN dr x t s = z at *
    have v7 : VN y (vs z 0 7 (nxt (xD z))) := VN_0 v (by omega) (fun z => absurd z (by omega)) (fun _ => nxt_lt _)
    have h7 : s < xN (vs z 0 7 (nxt (xD z))) := by
      have : xN (vs z 0 7 (nxt (xD z))) = xN z := vs_n (by omega)
      rw [this]
      exact hs
    unfold mst
    generalize nxt (xD z) = u at *
    generalize odd z t s = o at *
    by_cases c1 : xP z / 2 ^ s % 2 = 1 ∧ ¬ sW z s = 0
    · rw [if_pos c1]
      by_cases c2 : dr = 1
      · rw [if_pos c2]
        by_cases c3 : o = 0
        · rw [if_pos c3]; exact v
        rw [if_neg c3]
        by_cases c4 : 100 ≤ o
        · rw [if_pos c4]; exact VN_cut v hs
        rw [if_neg c4]
        by_cases c5 : u / 65536 % 100 < o
        · rw [if_pos c5]; exact VN_cut v7 h7
        · rw [if_neg c5]; exact v7
      · rw [if_neg c2]
        by_cases c3 : 50 ≤ o
        · rw [if_pos c3]; exact VN_cut v hs
        · rw [if_neg c3]; exact v
    · rw [if_neg c1]; exact v
theorem VN_hor {y x t : V} {w : Nat} (hy : Wz y) (ht : Wt t (y 0 2) (y 0 3)) (n : VN y x) (hh : xH x < 10000) : VN y (hor w x t) := by
  have v1 : VN y (ho1 w x t) := by
    unfold ho1
    split
    · exact n
    · exact VN_car hy ht n _ (Nat.le_refl _)
  have v2 : VN y (ho2 w (ho1 w x t) t) := by
    unfold ho2
    split
    · exact v1
    · exact VN_stp ht v1 _ (Nat.le_refl _)
  have v3 : VN y (ho3 w (ho2 w (ho1 w x t) t) t) := by
    unfold ho3
    split
    · exact v2
    · exact VN_pay v2 _
  have v4 : VN y (ho4 w (ho3 w (ho2 w (ho1 w x t) t) t) t) := by
    unfold ho4
    split
    · exact v3
    · exact VN_mth v3 _ (Nat.le_of_eq v3.1.1.2.2.1)
  exact VN_0 v4 (by omega) (fun _ => by omega) (fun z => absurd z (by omega))
theorem VN_pas {y x t : V} {w : Nat} (hy : Wz y) (ht : Wt t (y 0 2) (y 0 3)) (n : VN y x) : ∀ k, xH x + k ≤ 10000 → VN y (pas w x t k) ∧ xH (pas w x t k) = xH x + k
  | 0, _ => ⟨n, rfl⟩
  | k + 1, hk => by
    obtain ⟨v, e⟩ := VN_pas (w := w) hy ht n k (by omega)
    refine ⟨VN_hor hy ht v (by omega), ?_⟩
    have : xH (hor w (pas w x t k) t) = xH (pas w x t k) + 1 := vs_y
    show xH (hor w (pas w x t k) t) = _
    omega
theorem mnd_lt : ∀ L, L < 5 → ∀ w, w < 2 ^ L → ∀ l, l < L → ¬ w / 2 ^ l % 2 = 1 → w + 2 ^ l < 2 ^ L := by decide +kernel
theorem VN_mend {y x : V} {s : Nat} (n : VN y x) (hs : s < xN x) (hf : ¬ fct x s = 0) : VN y (vs x 6 s (sW x s + 2 ^ (fct x s - 1))) := by
  refine VN_6 n hs ?_
  have c := n.1.2.1 s (by rw [← n.1.1.2.2.1]; exact hs)
  have b := (n.2.1.1.2.2.2.2 s hs).2.1
  rw [← c.2.1] at c
  rcases ff_sp (fun l => ¬ sW x s / 2 ^ l % 2 = 1) (sL x s) with ⟨e, -⟩ | ⟨j, e, h1, h2, -⟩
  · exact absurd e hf
  · have e : fct x s = j + 1 := e
    rw [e, show j + 1 - 1 = j by omega]
    exact mnd_lt (sL x s) (by omega) _ c.2.2 j h1 h2
