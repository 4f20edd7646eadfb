/-! The beginning: what the constructors make. -/
def sr_h0 : sr_H := ((1, 10), fun a => if a = 0 then .inr (.inr (10, sr_df 10)) else .inl (0, 0, fun _ => 0))
def sr_r0 : Option sr_R := sr_cf 3000 60 126 [.ref 0] sr_h0
def sr_gt (o : Option sr_R) (h : sr_H) : sr_H := match o with
  | some (none, h') => h'
  | _ => h
def sr_nx (h : sr_H) : sr_H := ((h.1.1 + 1, h.1.2 + (sr_df 11).length), sr_up h.2 h.1.1 (.inr (.inr (11, sr_df 11))))
def sr_h1 : sr_H := sr_nx (sr_gt sr_r0 sr_h0)
def sr_r1 : Option sr_R := sr_cf 3000 60 168 [.ref 141] sr_h1
def sr_hS : sr_H := (((sr_gt sr_r1 sr_h1).1.1 + 1, (sr_gt sr_r1 sr_h1).1.2 + 1), sr_up (sr_gt sr_r1 sr_h1).2 (sr_gt sr_r1 sr_h1).1.1 (.inr (.inl (1, fun _ => 0))))
def vq : Value → Value → Bool
  | .int _, .int y => decide (y = 0)
  | .long _, .long y => decide (y = 0)
  | .ref a, .ref b => decide (a = b)
  | _, _ => false
def lq : List Value → List Value → Bool
  | [], [] => true
  | a :: as, b :: bs => vq a b && lq as bs
  | _, _ => false
def cq : sr_C → sr_C → Bool
  | .inl (t, n, _), .inl (t', n', _) => decide (t = t' ∧ n = n')
  | .inr (.inl (n, _)), .inr (.inl (n', _)) => decide (n = n')
  | .inr (.inr (c, fs)), .inr (.inr (c', fs')) => decide (c = c') && lq fs fs'
  | _, _ => false
theorem vq_ok {a b : Value} (h : vq a b = true) : sr_er a = sr_er b := by
  unfold vq at h
  split at h
  · rfl
  · rfl
  · rw [of_decide_eq_true h]
  · cases h
theorem lq_ok : ∀ (as bs : List Value), lq as bs = true → as.map sr_er = bs.map sr_er
  | [], [], _ => rfl
  | a :: as, b :: bs, h => by
    unfold lq at h
    simp only [Bool.and_eq_true] at h
    rw [List.map_cons, List.map_cons, vq_ok h.1, lq_ok as bs h.2]
  | [], _ :: _, h => by cases h
  | _ :: _, [], h => by cases h
theorem cq_ok {a b : sr_C} (h : cq a b = true) : sr_sh a = sr_sh b := by
  unfold cq at h
  split at h
  · have := of_decide_eq_true h
    simp only [sr_sh, this.1, this.2]
  · have := of_decide_eq_true h
    simp only [sr_sh, this]
  · simp only [Bool.and_eq_true] at h
    have := of_decide_eq_true h.1
    simp only [sr_sh, this, lq_ok _ _ h.2]
  · cases h
def shB (h : sr_H) : Nat → List sr_C → Bool
  | _, [] => true
  | B, c :: l => decide (B < h.1.1) && (cq (h.2 B) c && shB h (B + 1) l)
theorem shB_ok {h : sr_H} : ∀ (l : List sr_C) (B : Nat), shB h B l = true → ∀ k c, l[k]? = some c → B + k < h.1.1 ∧ sr_sh (h.2 (B + k)) = sr_sh c
  | [], B, _, k, c, e => by
    rw [List.getElem?_nil] at e
    cases e
  | c0 :: l, B, b, 0, c, e => by
    unfold shB at b
    simp only [Bool.and_eq_true] at b
    cases e
    exact ⟨of_decide_eq_true b.1, cq_ok b.2.1⟩
  | c0 :: l, B, b, k + 1, c, e => by
    unfold shB at b
    simp only [Bool.and_eq_true] at b
    have := shB_ok l (B + 1) b.2.2 k c e
    rw [show B + (k + 1) = B + 1 + k by omega]
    exact this
theorem shB_S {h : sr_H} {B : Nat} {l : List sr_C} (hl : l.map sr_sh = l) (b : shB h B l = true) : ShA h B l := fun k c e => by
  have q := shB_ok l B b k c e
  have e2 : (l.map sr_sh)[k]? = some (sr_sh c) := by rw [List.getElem?_map, e]; rfl
  rw [hl, e] at e2
  have e3 : c = sr_sh c := by injection e2
  exact ⟨q.1, by rw [q.2]; exact e3.symm⟩
def bS (h : sr_H) : Bool := decide (h.1.1 = 187) && (shB h 2 szRdr && (shB h 5 (szTxt 5) && (shB h 39 (szTxt 39) && (shB h 72 (szRm 72) && (shB h 88 (szRm 88) && (shB h 104 (szRm 104) && (shB h 120 szHst && (shB h 122 szSgt && (shB h 129 szWys && (shB h 134 szJdg && (shB h 141 szMdl && (shB h 0 [.inr (.inr (10, [.ref 1, .ref 39, .ref 72, .ref 88, .ref 104, .int 0, .ref 120, .ref 122, .ref 129, .ref 134])), .inr (.inr (3, [.int 0, .int 0, .ref 2, .ref 5, .int 0, .int 0, .ref 38, .int 0, .int 0, .int 0, .int 0, .int 0]))] && shB h 38 [.inl (0, 72, fun _ => 0)]))))))))))))
def allB (p : Nat → Bool) : Nat → Bool
  | 0 => true
  | n + 1 => allB p n && p n
theorem allB_ok {p : Nat → Bool} : ∀ n, allB p n = true → ∀ i, i < n → p i = true
  | 0, _, i, hi => absurd hi (Nat.not_lt_zero _)
  | n + 1, h, i, hi => by
    unfold allB at h
    simp only [Bool.and_eq_true] at h
    by_cases q : i = n
    · rw [q]; exact h.2
    · exact allB_ok n h.1 i (by omega)
def bC1 (h : sr_H) : Bool := allB (fun i => decide (hI h 3 i = nI 0)) 700 && (allB (fun w => decide (hI h 4 w = nI (WC w))) 21 && allB (fun k => decide (hI h (39 + off 19) k = nI 0 ∧ hI h (39 + off 20) k = nI 0)) 3)
def bC2 (h : sr_H) : Bool := decide (fI h 2 1 = nI 0 ∧ fI h 1 0 = nI 0 ∧ fI h 1 1 = oI 0) && (@decide (TS h 39 y00) (by unfold TS; infer_instance) && decide (fI h 0 5 = nI 0 ∧ fI h 120 0 = nI 0 ∧ fI h 122 0 = nI 0 ∧ fI h 122 1 = oI 0))
def bK (h : sr_H) (S : Nat) : Bool := decide (fI h S 4 = nI (whl (xo y00))) && allB (fun r => allB (fun c => decide (hI h (S + 7) (8 * r + c) = nI (sea (xo y00) (xP (xo y00)) r c) ∧ hI h (S + 8) (8 * r + c) = nI (gF (xo y00) r c) ∧ hI h (S + 9) (8 * r + c) = lfI (xo y00) r c)) 4) 4
def bN (h : sr_H) : Bool := decide ((fI h 73 0 = nI (xR (xo y00)) ∧ fI h 73 1 = nI (xC (xo y00)) ∧ fI h 73 2 = nI (xN (xo y00)) ∧ fI h 73 3 = nI (xP (xo y00))) ∧ fI h 72 1 = nI (xF (xo y00)) ∧ fI h 72 7 = nI (xH (xo y00)) ∧ fI h 72 8 = nI (xU (xo y00)) ∧ fJ h 72 9 = lN (xD (xo y00)))
def bM1 (h : sr_H) : Bool := allB (fun j => decide (hI h 143 j = nI (y00 0 j))) 9 && (allB (fun k => decide (hI h 162 k = nI 0 ∧ hI h 163 k = nI 0)) 3 && allB (fun i => decide (hI h 142 i = nI 0)) 700)
def bM2 (h : sr_H) : Bool := decide ((fI h 141 55 = nI 0 ∧ fI h 141 56 = -1 ∧ fI h 141 58 = nI 0) ∧ (hI h 168 0 = nI 0 ∧ hI h 169 0 = nI 0 ∧ hI h 170 0 = nI 0) ∧ (fI h 141 53 = nI 0 ∧ fI h 141 54 = nI 0 ∧ fI h 141 60 = nI 0 ∧ fI h 141 61 = -1) ∧ fI h 141 2 = nI 0 ∧ fI h 141 35 = nI 0 ∧ fI h 141 36 = -1)
def sr_z1 (o : Option sr_R) : Bool := match o with
  | some (none, _) => true
  | _ => false
theorem begin_0 : (sr_z1 sr_r0 && (sr_z1 sr_r1 && (bS sr_hS && (bC1 sr_hS && (bC2 sr_hS && (bK sr_hS 41 && (bK sr_hS 73 && (bN sr_hS && (bM1 sr_hS && bM2 sr_hS))))))))) = true := by decide +kernel
