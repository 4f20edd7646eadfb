/-! Objects, the JDK's own, and the bundle of all rules. -/
def oC (h : sr_H) (a ci : Nat) : Prop := match h.2 a with
  | .inr (.inr (c, _)) => a < h.1.1 ∧ c = ci
  | _ => False
theorem sr_io_oC {h : sr_H} {a ci : Nat} {as : List Value} : sr_io ci (.ref a :: as) h = true ↔ oC h a ci := by
  unfold sr_io oC
  dsimp only
  rcases hh : h.2 a with x | z | w <;> simp
theorem sr_and1 {p q : Prop} (h : q) : p ∧ q ↔ p := ⟨fun x => x.1, fun x => ⟨x, h⟩⟩
theorem sr_and2 {p q : Prop} {h : sr_H} {a ci : Nat} {as : List Value} (hq : q) : p ∧ q ∧ sr_io ci (.ref a :: as) h = true ↔ p ∧ oC h a ci := by
  rw [sr_io_oC]
  exact ⟨fun x => ⟨x.1, x.2.2⟩, fun x => ⟨x.1, hq, x.2⟩⟩
section SRX
variable {d k t ci a b : Nat} {x : List Nat} {cs : List sr_I} {L S : List Value} {h : sr_H} {Q : sr_T} {i : Int32}
theorem sr_exb {P : Prop} {o : Bool} (ho : o = true) {A : sr_3} {z : Nat} {L S : List Value} {h : sr_H} (h1 : P → A = some (L, S, h)) (h2 : ¬ P → A = none) : (∃ n r h', (if o = true ∧ z ≤ 9 then sr_go (sr_ev (decide (8 ≤ d)) (sr_ef n d) (sr_cf n d) cs) A else none) = some (r, h') ∧ Q r h') ↔ (z ≤ 9 ∧ P) ∧ sr_B d cs L S h Q := by
  by_cases hz : z ≤ 9
  · have e : ∀ n, (if o = true ∧ z ≤ 9 then sr_go (sr_ev (decide (8 ≤ d)) (sr_ef n d) (sr_cf n d) cs) A else none) = sr_go (sr_ev (decide (8 ≤ d)) (sr_ef n d) (sr_cf n d) cs) A := fun n => if_pos ⟨ho, hz⟩
    simp only [e]
    refine (sr_exg (K := fun n => sr_ev (decide (8 ≤ d)) (sr_ef n d) (sr_cf n d) cs) h1 h2).trans ?_
    exact ⟨fun q => ⟨⟨hz, q.1⟩, q.2⟩, fun q => ⟨q.1.2, q.2⟩⟩
  · constructor
    · rintro ⟨n, r, h', e, q⟩
      rw [if_neg (fun q => hz q.2)] at e
      cases e
    · intro q
      exact absurd q.1.1 hz
theorem sr_8 {d : Nat} : decide (8 ≤ d + 8) = true := decide_eq_true (Nat.le_add_left 8 d)
theorem wB_min {v w : Int32} : sr_B (d + 8) ((.invokestatic k, [0]) :: cs) L (.int w :: .int v :: S) h Q ↔ (sr_sz (.int w :: .int v :: S) ≤ 9 ∧ True) ∧ sr_B (d + 8) cs L (.int (if w < v then w else v) :: S) h Q := sr_exb sr_8 (fun _ => rfl) (fun q => absurd trivial q)
theorem wB_max {v w : Int32} : sr_B (d + 8) ((.invokestatic k, [1]) :: cs) L (.int w :: .int v :: S) h Q ↔ (sr_sz (.int w :: .int v :: S) ≤ 9 ∧ True) ∧ sr_B (d + 8) cs L (.int (if v < w then w else v) :: S) h Q := sr_exb sr_8 (fun _ => rfl) (fun q => absurd trivial q)
theorem wB_abs {v : Int32} : sr_B (d + 8) ((.invokestatic k, [2]) :: cs) L (.int v :: S) h Q ↔ (sr_sz (.int v :: S) ≤ 9 ∧ True) ∧ sr_B (d + 8) cs L (.int (if 0 ≤ v then v else 0 - v) :: S) h Q := sr_exb sr_8 (fun _ => rfl) (fun q => absurd trivial q)
theorem wB_minl {v w : Int64} : sr_B (d + 8) ((.invokestatic k, [3]) :: cs) L (.long w :: .long v :: S) h Q ↔ (sr_sz (.long w :: .long v :: S) ≤ 9 ∧ True) ∧ sr_B (d + 8) cs L (.long (if w < v then w else v) :: S) h Q := sr_exb sr_8 (fun _ => rfl) (fun q => absurd trivial q)
theorem wB_maxl {v w : Int64} : sr_B (d + 8) ((.invokestatic k, [4]) :: cs) L (.long w :: .long v :: S) h Q ↔ (sr_sz (.long w :: .long v :: S) ≤ 9 ∧ True) ∧ sr_B (d + 8) cs L (.long (if w < v then v else w) :: S) h Q := sr_exb sr_8 (fun _ => rfl) (fun q => absurd trivial q)
theorem wB_absl {v : Int64} : sr_B (d + 8) ((.invokestatic k, [5]) :: cs) L (.long v :: S) h Q ↔ (sr_sz (.long v :: S) ≤ 9 ∧ True) ∧ sr_B (d + 8) cs L (.long (if 0 < v then v else -v) :: S) h Q := sr_exb sr_8 (fun _ => rfl) (fun q => absurd trivial q)
theorem wB_obj {v : Nat} : sr_B (d + 8) ((.invokespecial k, [9]) :: cs) L (.ref v :: S) h Q ↔ (sr_sz (.ref v :: S) ≤ 9 ∧ True) ∧ sr_B (d + 8) cs L S h Q := sr_exb sr_8 (fun _ => rfl) (fun q => absurd trivial q)
theorem wB_copy {n dp sp : Int32} : sr_B (d + 8) ((.invokestatic k, [6]) :: cs) L (.int n :: .int dp :: .ref a :: .int sp :: .ref b :: S) h Q ↔ (sr_sz (.int n :: .int dp :: .ref a :: .int sp :: .ref b :: S) ≤ 9 ∧ (¬ sp < 0 ∧ ¬ dp < 0 ∧ ¬ n < 0 ∧ a < h.1.1 ∧ b < h.1.1 ∧ (∃ n0 f, h.2 b = .inl (0, n0, f) ∧ sp.toNatClampNeg + n.toNatClampNeg ≤ n0) ∧ ∃ n1 g, h.2 a = .inl (0, n1, g) ∧ dp.toNatClampNeg + n.toNatClampNeg ≤ n1)) ∧ sr_B (d + 8) cs L S (sC h b sp.toNatClampNeg a dp.toNatClampNeg n.toNatClampNeg) Q := by
  refine sr_exb sr_8 (fun q => ?_) (fun q => ?_)
  · obtain ⟨h1, h2, h3, h4, h5, ⟨n0, f, h6, h7⟩, n1, g, h8, h9⟩ := q
    simp only [sr_bi]
    unfold sr_cp sC
    dsimp only
    rw [if_pos ⟨h4, h5, h1, h2, h3⟩, h6, h8]
    refine (if_pos (c := sp.toNatClampNeg + n.toNatClampNeg ≤ n0 ∧ dp.toNatClampNeg + n.toNatClampNeg ≤ n1) ⟨h7, h9⟩).trans ?_
    simp only [Option.some.injEq, Prod.mk.injEq, true_and]
    funext q
    simp only [sr_up, hI, h6]
  · simp only [sr_bi]
    unfold sr_cp
    dsimp only
    split
    · rename_i hc
      split
      · rename_i e1 e2
        rw [if_neg]
        intro hd
        exact q ⟨hc.2.2.1, hc.2.2.2.1, hc.2.2.2.2, hc.1, hc.2.1, ⟨_, _, e1, hd.1⟩, _, _, e2, hd.2⟩
      · rfl
    · rfl
theorem wB_charAt : sr_B (d + 8) ((.invokevirtual k, [7]) :: cs) L (.int i :: .ref a :: S) h Q ↔ (sr_sz (.int i :: .ref a :: S) ≤ 9 ∧ (sr_sc ≤ a ∧ ¬ i < 0 ∧ i.toNatClampNeg < (sr_tx (a - sr_sc)).length)) ∧ sr_B (d + 8) cs L (.int (nI ((sr_tx (a - sr_sc)).getD i.toNatClampNeg 0)) :: S) h Q := sr_exb sr_8 (fun q => if_pos q) (fun q => if_neg q)
theorem wB_strlen : sr_B (d + 8) ((.invokevirtual k, [8]) :: cs) L (.ref a :: S) h Q ↔ (sr_sz (.ref a :: S) ≤ 9 ∧ (sr_sc ≤ a ∧ a - sr_sc < 4)) ∧ sr_B (d + 8) cs L (.int (nI (sr_tx (a - sr_sc)).length) :: S) h Q := sr_exb sr_8 (fun q => if_pos q) (fun q => if_neg q)
theorem wB_iload {n : Nat} {v : Int32} (hv : L[n]? = some (.int v)) : sr_B d ((.iload n, x) :: cs) L S h Q ↔ sr_B d cs L (.int v :: S) h Q := by
  show (∃ n1 r h', sr_go (sr_ev (decide (8 ≤ d)) (sr_ef n1 d) (sr_cf n1 d) cs) (match L[n]? with
    | some (.int v) => some (L, .int v :: S, h)
    | _ => none) = some (r, h') ∧ Q r h') ↔ _
  rw [hv]
  exact Iff.rfl
end SRX
