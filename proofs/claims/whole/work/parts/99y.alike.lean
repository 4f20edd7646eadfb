/-! Hours alike: what is left out for what is asked. -/
def eqK (K : Nat → Nat → Prop) (x z : V) : Prop := ∀ i j, K i j → z i j = x i j
theorem eqK.rf {K : Nat → Nat → Prop} {x : V} : eqK K x x := fun _ _ _ => rfl
theorem eqK.tr {K : Nat → Nat → Prop} {x y z : V} (a : eqK K x y) (b : eqK K y z) : eqK K x z := fun i j k => (b i j k).trans (a i j k)
theorem eqK_n {K : Nat → Nat → Prop} {x : V} {i j v : Nat} (h : ¬ K i j) : eqK K x (vs x i j v) := fun a b k => vs_n (fun z => h (by rw [← z.1, ← z.2]; exact k))
theorem eqK_vs {K : Nat → Nat → Prop} {x z : V} {i j v : Nat} (e : eqK K x z) : eqK K (vs x i j v) (vs z i j v) := fun a b k => by
  by_cases c : a = i ∧ b = j
  · unfold vs
    rw [if_pos c, if_pos c]
  · rw [vs_n c, vs_n c]
    exact e a b k
def Km (i j : Nat) : Prop := (i = 0 ∧ (j = 2 ∨ j = 3 ∨ j = 5 ∨ j = 7)) ∨ i = 1 ∨ i = 4 ∨ i = 6
def Kp (i j : Nat) : Prop := (i = 0 ∧ ¬ j = 6) ∨ (1 ≤ i ∧ i ≤ 6)
theorem Kmp : ∀ i j, Km i j → Kp i j := fun i j h => by unfold Km at h; unfold Kp; omega
theorem nmS_e {K : Nat → Nat → Prop} {x z : V} {s : Nat} (hK : ∀ i j, Km i j → K i j) (e : eqK K x z) : nmS z s = nmS x s := by
  have h1 : sS z s = sS x s := e 1 s (hK _ _ (by unfold Km; omega))
  have h2 : sL z s = sL x s := e 4 s (hK _ _ (by unfold Km; omega))
  have h3 : sW z s = sW x s := e 6 s (hK _ _ (by unfold Km; omega))
  have h4 : xH z = xH x := e 0 5 (hK _ _ (by unfold Km; omega))
  unfold nmS
  rw [h1, h2, h3, h4]
theorem cutv_e {K : Nat → Nat → Prop} {x z : V} {s : Nat} (hK : ∀ i j, Km i j → K i j) (e : eqK K x z) : eqK K (cutv x s) (cutv z s) := by
  have h3 : sW z s = sW x s := e 6 s (hK _ _ (by unfold Km; omega))
  unfold cutv
  rw [h3]
  exact eqK_vs e
theorem mst_e {K : Nat → Nat → Prop} {x z t : V} {dr s : Nat} (hK : ∀ i j, Km i j → K i j) (e : eqK K x z) : eqK K (mst dr x t s) (mst dr z t s) := by
  have h1 : xP z = xP x := e 0 3 (hK _ _ (by unfold Km; omega))
  have h3 : sW z s = sW x s := e 6 s (hK _ _ (by unfold Km; omega))
  have h4 : xD z = xD x := e 0 7 (hK _ _ (by unfold Km; omega))
  have h5 : odd z t s = odd x t s := by unfold odd; rw [nmS_e hK e]
  have c1 := cutv_e (s := s) hK e
  have c2 := eqK_vs (i := 0) (j := 7) (v := nxt (xD x)) e
  have c3 := cutv_e (s := s) hK c2
  unfold mst
  rw [h1, h3, h4, h5]
  repeat' split
  all_goals first | exact e | exact c1 | exact c2 | exact c3
theorem mth_e {K : Nat → Nat → Prop} {x z t : V} {dr : Nat} (hK : ∀ i j, Km i j → K i j) (e : eqK K x z) : eqK K (mth dr x t) (mth dr z t) := by
  have h1 : xN z = xN x := e 0 2 (hK _ _ (by unfold Km; omega))
  unfold mth
  rw [h1]
  have : ∀ n, eqK K (mtN dr x t n) (mtN dr z t n) := by
    intro n
    induction n with
    | zero => exact e
    | succ n ih => exact mst_e hK ih
  exact this _
theorem car_n {x t : V} : eqK Km x (car x t) := by
  classical
  have : ∀ n, eqK Km x (crN x t n) := by
    intro n
    induction n with
    | zero => exact eqK.rf
    | succ n ih =>
      refine ih.tr ?_
      show eqK Km (crN x t n) (cst (crN x t n) t n)
      unfold cst
      split
      · split
        · exact ((eqK_n (by unfold Km; omega)).tr (eqK_n (by unfold Km; omega))).tr (eqK_n (by unfold Km; omega))
        · exact eqK_n (by unfold Km; omega)
      · exact eqK.rf
  exact this _
theorem stp_n {K : Nat → Nat → Prop} {x t : V} (hK : ∀ i j, K i j → ¬ (7 ≤ i ∧ i ≤ 9) ∧ ¬ (i = 0 ∧ j = 6)) : eqK K x (stp x t) := by
  have a : ∀ i j, (7 ≤ i ∧ i ≤ 9) ∨ (i = 0 ∧ j = 6) → ¬ K i j := fun i j h k => by have := hK i j k; omega
  have : ∀ n, eqK K x (stN x t n) := by
    intro n
    induction n with
    | zero => exact eqK.rf
    | succ n ih =>
      refine ih.tr ?_
      show eqK K (stN x t n) (sst (stN x t n) t n)
      unfold sst
      split
      · split
        · exact eqK_n (a _ _ (by omega))
        · exact ((eqK_n (a _ _ (by omega))).tr (eqK_n (a _ _ (by omega)))).tr (eqK_n (a _ _ (by omega)))
      · exact eqK.rf
  exact this _
theorem pay_n {K : Nat → Nat → Prop} {x t : V} (hK : ∀ i j, K i j → ¬ i = 11) : eqK K x (pay x t) := by
  classical
  have : ∀ n, eqK K x (pyN x t n) := by
    intro n
    induction n with
    | zero => exact eqK.rf
    | succ n ih =>
      refine ih.tr ?_
      show eqK K (pyN x t n) (pst (pyN x t n) t n)
      unfold pst
      split
      · exact eqK_n (fun k => hK _ _ k rfl)
      · exact eqK.rf
  exact this _
theorem fit_K {x z : V} {s r c dn : Nat} (e : eqK Kp x z) : fit z s r c dn ↔ fit x s r c dn := by
  have h0 : xR z = xR x := e 0 0 (by unfold Kp; omega)
  have h1 : xC z = xC x := e 0 1 (by unfold Kp; omega)
  have h2 : xN z = xN x := e 0 2 (by unfold Kp; omega)
  have h3 : xP z = xP x := e 0 3 (by unfold Kp; omega)
  have g2 : ∀ s, sR z s = sR x s := fun s => e 2 s (by unfold Kp; omega)
  have g3 : ∀ s, sK z s = sK x s := fun s => e 3 s (by unfold Kp; omega)
  have g4 : ∀ s, sL z s = sL x s := fun s => e 4 s (by unfold Kp; omega)
  have g5 : ∀ s, sD z s = sD x s := fun s => e 5 s (by unfold Kp; omega)
  unfold fit inRm hit cov
  simp only [h0, h1, h2, h3, g2, g3, g4, g5]
theorem car_e {x z t : V} (e : eqK Kp x z) : eqK Kp (car x t) (car z t) := by
  classical
  have : ∀ n, eqK Kp (crN x t n) (crN z t n) := by
    intro n
    induction n with
    | zero => exact e
    | succ n ih =>
      show eqK Kp (cst (crN x t n) t n) (cst (crN z t n) t n)
      generalize crN x t n = a at *
      generalize crN z t n = b at *
      have h3 : xP b = xP a := ih 0 3 (by unfold Kp; omega)
      have h5 : xH b = xH a := ih 0 5 (by unfold Kp; omega)
      have g5 : sD b (t 1 n) = sD a (t 1 n) := ih 5 _ (by unfold Kp; omega)
      have hf := fit_K (s := t 1 n) (r := t 3 n) (c := t 4 n) (dn := sD a (t 1 n)) ih
      unfold cst
      rw [h3, h5, g5]
      by_cases c : t 2 n = xH a ∧ xP a / 2 ^ t 1 n % 2 = 1
      · rw [if_pos c, if_pos c]
        by_cases f : fit a (t 1 n) (t 3 n) (t 4 n) (sD a (t 1 n))
        · rw [if_pos f, if_pos (hf.mpr f)]
          exact eqK_vs (eqK_vs (eqK_vs ih))
        · rw [if_neg f, if_neg (fun q => f (hf.mp q))]
          have q : eqK Kp (vs a 0 6 (xU a + 1)) b := fun i j k => (ih i j k).trans ((eqK_n (x := a) (i := 0) (j := 6) (v := xU a + 1) (by unfold Kp; omega)) i j k).symm
          exact q.tr (eqK_n (by unfold Kp; omega))
      · rw [if_neg c, if_neg c]
        exact ih
  exact this _
theorem hor_21 {x z t : V} (e : eqK Km x z) : eqK Km (hor 21 x t) (hor 1 z t) := by
  have e1 : eqK Km x (pay (stp (car z t) t) t) := ((e.tr car_n).tr (stp_n (fun i j k => by unfold Km at k; omega))).tr (pay_n (fun i j k => by unfold Km at k; omega))
  have hH : xH z = xH x := e 0 5 (by unfold Km; omega)
  have a1 : hor 21 x t = vs (ho4 21 x t) 0 5 (xH x + 1) := by
    unfold hor
    rw [show ho1 21 x t = x from if_pos (by decide), show ho2 21 x t = x from if_pos (by decide), show ho3 21 x t = x from if_pos (by decide)]
  have a2 : hor 1 z t = vs (ho4 1 (pay (stp (car z t) t) t) t) 0 5 (xH z + 1) := by
    unfold hor
    rw [show ho1 1 z t = car z t from if_neg (by decide), show ho2 1 (car z t) t = stp (car z t) t from if_neg (by decide), show ho3 1 (stp (car z t) t) t = pay (stp (car z t) t) t from if_neg (by decide)]
  rw [a1, a2, hH]
  generalize pay (stp (car z t) t) t = u at *
  have hu : xH u = xH x := e1 0 5 (by unfold Km; omega)
  refine eqK_vs ?_
  by_cases c : xH x % 10 = 9
  · have b1 : ho4 21 x t = mth 1 x t := if_neg (fun k => k.elim (by decide) (fun n => n c))
    have b2 : ho4 1 u t = mth 1 u t := if_neg (fun k => k.elim (by decide) (fun n => n (by rw [hu]; exact c)))
    rw [b1, b2]
    exact mth_e (fun _ _ k => k) e1
  · have b1 : ho4 21 x t = x := if_pos (Or.inr c)
    have b2 : ho4 1 u t = u := if_pos (Or.inr (by rw [hu]; exact c))
    rw [b1, b2]
    exact e1
theorem pas_21 {x z t : V} (e : eqK Km x z) : ∀ n, eqK Km (pas 21 x t n) (pas 1 z t n)
  | 0 => e
  | n + 1 => hor_21 (pas_21 e n)
theorem hor_16 {x z t : V} (e : eqK Kp x z) : eqK Kp (hor 16 x t) (hor 0 z t) := by
  have e1 : eqK Kp (car x t) (pay (stp (car z t) t) t) := ((car_e e).tr (stp_n (fun i j k => by unfold Kp at k; omega))).tr (pay_n (fun i j k => by unfold Kp at k; omega))
  have hH : xH z = xH x := e 0 5 (by unfold Kp; omega)
  have a1 : hor 16 x t = vs (ho4 16 (car x t) t) 0 5 (xH x + 1) := by
    unfold hor
    rw [show ho1 16 x t = car x t from if_neg (by decide), show ho2 16 (car x t) t = car x t from if_pos (by decide), show ho3 16 (car x t) t = car x t from if_pos (by decide)]
  have a2 : hor 0 z t = vs (ho4 0 (pay (stp (car z t) t) t) t) 0 5 (xH z + 1) := by
    unfold hor
    rw [show ho1 0 z t = car z t from if_neg (by decide), show ho2 0 (car z t) t = stp (car z t) t from if_neg (by decide), show ho3 0 (stp (car z t) t) t = pay (stp (car z t) t) t from if_neg (by decide)]
  rw [a1, a2, hH]
  generalize pay (stp (car z t) t) t = u at *
  generalize car x t = w at *
  have hu : xH u = xH w := e1 0 5 (by unfold Kp; omega)
  refine eqK_vs ?_
  by_cases c : xH w % 10 = 9
  · have b1 : ho4 16 w t = mth 0 w t := if_neg (fun k => k.elim (by decide) (fun n => n c))
    have b2 : ho4 0 u t = mth 0 u t := if_neg (fun k => k.elim (by decide) (fun n => n (by rw [hu]; exact c)))
    rw [b1, b2]
    exact mth_e Kmp e1
  · have b1 : ho4 16 w t = w := if_pos (Or.inr c)
    have b2 : ho4 0 u t = u := if_pos (Or.inr (by rw [hu]; exact c))
    rw [b1, b2]
    exact e1
theorem pas_16 {x z t : V} (e : eqK Kp x z) : ∀ n, eqK Kp (pas 16 x t n) (pas 0 z t n)
  | 0 => e
  | n + 1 => hor_16 (pas_16 e n)
theorem whl_K {x z : V} (e : eqK Km x z) : whl z = whl x := by
  have h1 : xN z = xN x := e 0 2 (by unfold Km; omega)
  have h3 : xP z = xP x := e 0 3 (by unfold Km; omega)
  have g6 : ∀ s, sW z s = sW x s := fun s => e 6 s (by unfold Km; omega)
  have : ∀ n, whlN z n = whlN x n := by
    intro n
    induction n with
    | zero => rfl
    | succ n ih =>
      unfold whlN
      rw [ih, h3, g6]
  unfold whl
  rw [h1, this]
theorem agr_K {x z g : V} {f : Nat → Nat} {hr : Nat} (e : eqK Kp x z) : agr z g f hr = agr x g f hr := by
  have h3 : xP z = xP x := e 0 3 (by unfold Kp; omega)
  have sq : seq z x := ⟨fun k hk => e 0 k (by unfold Kp; omega), fun j h1 h2 s => e j s (by unfold Kp; omega)⟩
  have eb : bad z g f hr = bad x g f hr := by
    funext k
    unfold bad
    rw [h3, sea_e sq]
  unfold agr
  rw [eb]
