/-! Reads and writes of the heap, without conditions: what must hold is said beside what comes. -/
def hI (h : sr_H) (a i : Nat) : Int32 := match h.2 a with
  | .inl (_, _, f) => f i
  | _ => 0
def hJ (h : sr_H) (a i : Nat) : Int64 := match h.2 a with
  | .inr (.inl (_, f)) => f i
  | _ => 0
/-- how long: a row of ints, of booleans, of longs -/
def lI (h : sr_H) (a : Nat) : Nat := match h.2 a with
  | .inl (0, n, _) => if a < h.1.1 then n else 0
  | _ => 0
def lZ (h : sr_H) (a : Nat) : Nat := match h.2 a with
  | .inl (1, n, _) => if a < h.1.1 then n else 0
  | _ => 0
def lJ (h : sr_H) (a : Nat) : Nat := match h.2 a with
  | .inr (.inl (n, _)) => if a < h.1.1 then n else 0
  | _ => 0
def lA (h : sr_H) (a : Nat) : Option Nat := match h.2 a with
  | .inl (_, n, _) => if a < h.1.1 then some n else none
  | .inr (.inl (n, _)) => if a < h.1.1 then some n else none
  | _ => none
/-- a field -/
def hF (h : sr_H) (a k : Nat) : Value := match h.2 a with
  | .inr (.inr (_, fs)) => fs.getD k .null
  | _ => .null
/-- an object of this class with more than k fields -/
def oF (h : sr_H) (a ci k : Nat) : Prop := match h.2 a with
  | .inr (.inr (c, fs)) => a < h.1.1 ∧ c = ci ∧ k < fs.length
  | _ => False
def inb (i : Int32) (n : Nat) : Prop := ¬ i < 0 ∧ i.toNatClampNeg < n
def sI (h : sr_H) (a i : Nat) (v : Int32) : sr_H := (h.1, fun b => if b = a then (match h.2 a with
  | .inl (t, n, f) => .inl (t, n, upd f i v)
  | c => c) else h.2 b)
def sJ (h : sr_H) (a i : Nat) (v : Int64) : sr_H := (h.1, fun b => if b = a then (match h.2 a with
  | .inr (.inl (n, f)) => .inr (.inl (n, vp_updL f i v))
  | c => c) else h.2 b)
def sF (h : sr_H) (a k : Nat) (v : Value) : sr_H := (h.1, fun b => if b = a then (match h.2 a with
  | .inr (.inr (c, fs)) => .inr (.inr (c, fs.set k v))
  | c => c) else h.2 b)
/-- a stretch of a row of ints is copied into another -/
def sC (h : sr_H) (b sp a dp n : Nat) : sr_H := (h.1, fun q => if q = a then (match h.2 a with
  | .inl (t, m, g) => .inl (t, m, va_cpy (fun i => hI h b i) g sp dp n)
  | c => c) else h.2 q)
theorem sr_exg {K : Nat → sr_K} {P : Prop} {A : sr_3} {L S : List Value} {h : sr_H} {Q : sr_T} (h1 : P → A = some (L, S, h)) (h2 : ¬ P → A = none) : (∃ n r h', sr_go (K n) A = some (r, h') ∧ Q r h') ↔ P ∧ ∃ n r h', K n L S h = some (r, h') ∧ Q r h' := by
  by_cases hp : P
  · rw [h1 hp]
    exact ⟨fun q => ⟨hp, q⟩, fun q => q.2⟩
  · rw [h2 hp]
    constructor
    · rintro ⟨n, r, h', e, q⟩
      cases e
    · intro q
      exact absurd q.1 hp
section SRH
variable {d k t ci a ty : Nat} {x : List Nat} {cs : List sr_I} {L S : List Value} {h : sr_H} {Q : sr_T} {i : Int32}
theorem wB_getf {n : Nat} : sr_B d ((.getfield n, [ci, k]) :: cs) L (.ref a :: S) h Q ↔ oF h a ci k ∧ sr_B d cs L (hF h a k :: S) h Q := by
  refine sr_exg (K := fun n => sr_ev (decide (8 ≤ d)) (sr_ef n d) (sr_cf n d) cs) (A := sr_gf ci k L (.ref a :: S) h) (fun hp => ?_) (fun hp => ?_)
  · unfold oF at hp
    unfold sr_gf hF
    dsimp only
    split at hp
    · rename_i e
      rw [e]
      dsimp only
      rw [if_pos ⟨hp.1, hp.2.1⟩, List.getElem?_eq_getElem hp.2.2, List.getD_eq_getElem?_getD, List.getElem?_eq_getElem hp.2.2]
      rfl
    · exact hp.elim
  · unfold oF at hp
    unfold sr_gf
    dsimp only
    split
    · rename_i e
      rw [e] at hp
      dsimp only at hp
      split
      · rename_i hc
        have : ¬ k < _ := fun q => hp ⟨hc.1, hc.2, q⟩
        rw [List.getElem?_eq_none (Nat.not_lt.mp this)]
      · rfl
    · rfl
theorem wB_putf {n : Nat} {v : Value} : sr_B d ((.putfield n, [ci, k, ty]) :: cs) L (v :: .ref a :: S) h Q ↔ (oF h a ci k ∧ sr_ok ty v = true) ∧ sr_B d cs L S (sF h a k v) Q := by
  refine sr_exg (K := fun n => sr_ev (decide (8 ≤ d)) (sr_ef n d) (sr_cf n d) cs) (A := sr_pf ci k ty L (v :: .ref a :: S) h) (fun hp => ?_) (fun hp => ?_)
  · unfold oF at hp
    unfold sr_pf sF
    dsimp only
    obtain ⟨hp, hv⟩ := hp
    split at hp
    · rename_i e
      rw [e]
      dsimp only
      rw [if_pos ⟨hp.1, hp.2.1, hp.2.2, hv⟩]
      simp only [Option.some.injEq, Prod.mk.injEq, true_and]
      funext b
      simp only [sr_up]
    · exact hp.elim
  · unfold oF at hp
    unfold sr_pf
    dsimp only
    split
    · rename_i e
      rw [e] at hp
      dsimp only at hp
      rw [if_neg (fun hc => hp ⟨⟨hc.1, hc.2.1, hc.2.2.1⟩, hc.2.2.2⟩)]
    · rfl
theorem inb_not {i : Int32} {n : Nat} : (i < 0 ∨ n ≤ i.toNatClampNeg) ↔ ¬ inb i n := by
  unfold inb
  constructor
  · rintro (q | q) ⟨h1, h2⟩
    · exact h1 q
    · omega
  · intro q
    by_cases h1 : i < 0
    · exact Or.inl h1
    · exact Or.inr (Nat.not_lt.mp fun h2 => q ⟨h1, h2⟩)
theorem wB_iald : sr_B d ((.iaload, x) :: cs) L (.int i :: .ref a :: S) h Q ↔ if a < h.1.1 then inb i (lI h a) ∧ sr_B d cs L (.int (hI h a i.toNatClampNeg) :: S) h Q else (sr_sb ≤ a ∧ a < sr_sc) ∧ inb i (sr_sa (a - sr_sb)).length ∧ sr_B d cs L (.int ((sr_sa (a - sr_sb)).getD i.toNatClampNeg 0) :: S) h Q := by
  by_cases ha : a < h.1.1
  · rw [if_pos ha]
    refine sr_exg (K := fun n => sr_ev (decide (8 ≤ d)) (sr_ef n d) (sr_cf n d) cs) (A := sr_ia L (.int i :: .ref a :: S) h) (fun hp => ?_) (fun hp => ?_)
    · unfold lI at hp
      unfold sr_ia hI
      dsimp only
      rw [if_pos ha]
      split at hp
      · rename_i e
        rw [if_pos ha] at hp
        rw [e]
        exact if_neg (fun q => inb_not.mp q hp)
      · exact absurd hp.2 (Nat.not_lt_zero _)
    · unfold lI at hp
      unfold sr_ia
      dsimp only
      rw [if_pos ha]
      split
      · rename_i e
        rw [e] at hp
        change ¬ inb i (if a < h.1.1 then _ else 0) at hp
        rw [if_pos ha] at hp
        rw [if_pos (inb_not.mpr hp)]
      · rfl
  · rw [if_neg ha]
    by_cases hb : sr_sb ≤ a ∧ a < sr_sc
    · refine Iff.trans (sr_exg (P := inb i (sr_sa (a - sr_sb)).length) (K := fun n => sr_ev (decide (8 ≤ d)) (sr_ef n d) (sr_cf n d) cs) (A := sr_ia L (.int i :: .ref a :: S) h) (L := L) (S := .int ((sr_sa (a - sr_sb)).getD i.toNatClampNeg 0) :: S) (h := h) (fun hp => ?_) (fun hp => ?_)) ⟨fun q => ⟨hb, q⟩, fun q => q.2⟩
      · unfold sr_ia
        dsimp only
        rw [if_neg ha, if_pos hb, if_neg (fun q => inb_not.mp q hp)]
      · unfold sr_ia
        dsimp only
        rw [if_neg ha, if_pos hb, if_pos (inb_not.mpr hp)]
    · constructor
      · rintro ⟨n, r, h', e, q⟩
        have e : sr_go (sr_ev (decide (8 ≤ d)) (sr_ef n d) (sr_cf n d) cs) (sr_ia L (.int i :: .ref a :: S) h) = some (r, h') := e
        unfold sr_ia at e
        dsimp only at e
        rw [if_neg ha, if_neg hb] at e
        cases e
      · intro q
        exact absurd q.1 hb
theorem wB_bald : sr_B d ((.baload, x) :: cs) L (.int i :: .ref a :: S) h Q ↔ inb i (lZ h a) ∧ sr_B d cs L (.int (hI h a i.toNatClampNeg) :: S) h Q := by
  refine sr_exg (K := fun n => sr_ev (decide (8 ≤ d)) (sr_ef n d) (sr_cf n d) cs) (A := sr_za L (.int i :: .ref a :: S) h) (fun hp => ?_) (fun hp => ?_)
  · unfold lZ at hp
    unfold sr_za hI
    dsimp only
    split at hp
    · rename_i e
      by_cases ha : a < h.1.1
      · rw [if_pos ha] at hp ⊢
        rw [e]
        exact if_neg (fun q => inb_not.mp q hp)
      · rw [if_neg ha] at hp
        exact absurd hp.2 (Nat.not_lt_zero _)
    · exact absurd hp.2 (Nat.not_lt_zero _)
  · unfold lZ at hp
    unfold sr_za
    dsimp only
    split
    · rename_i ha
      split
      · rename_i e
        rw [e] at hp
        change ¬ inb i (if a < h.1.1 then _ else 0) at hp
        rw [if_pos ha] at hp
        rw [if_pos (inb_not.mpr hp)]
      · rfl
    · rfl
theorem wB_lald : sr_B d ((.laload, x) :: cs) L (.int i :: .ref a :: S) h Q ↔ inb i (lJ h a) ∧ sr_B d cs L (.long (hJ h a i.toNatClampNeg) :: S) h Q := by
  refine sr_exg (K := fun n => sr_ev (decide (8 ≤ d)) (sr_ef n d) (sr_cf n d) cs) (A := sr_ja L (.int i :: .ref a :: S) h) (fun hp => ?_) (fun hp => ?_)
  · unfold lJ at hp
    unfold sr_ja hJ
    dsimp only
    split at hp
    · rename_i e
      by_cases ha : a < h.1.1
      · rw [if_pos ha] at hp ⊢
        rw [e]
        exact if_neg (fun q => inb_not.mp q hp)
      · rw [if_neg ha] at hp
        exact absurd hp.2 (Nat.not_lt_zero _)
    · exact absurd hp.2 (Nat.not_lt_zero _)
  · unfold lJ at hp
    unfold sr_ja
    dsimp only
    split
    · rename_i ha
      split
      · rename_i e
        rw [e] at hp
        change ¬ inb i (if a < h.1.1 then _ else 0) at hp
        rw [if_pos ha] at hp
        rw [if_pos (inb_not.mpr hp)]
      · rfl
    · rfl
theorem wB_iast {v : Int32} : sr_B d ((.iastore, x) :: cs) L (.int v :: .int i :: .ref a :: S) h Q ↔ inb i (lI h a) ∧ sr_B d cs L S (sI h a i.toNatClampNeg v) Q := by
  refine sr_exg (K := fun n => sr_ev (decide (8 ≤ d)) (sr_ef n d) (sr_cf n d) cs) (A := sr_is L (.int v :: .int i :: .ref a :: S) h) (fun hp => ?_) (fun hp => ?_)
  · unfold lI at hp
    unfold sr_is sI
    dsimp only
    split at hp
    · rename_i e
      by_cases ha : a < h.1.1
      · rw [if_pos ha] at hp ⊢
        rw [e]
        exact if_neg (fun q => inb_not.mp q hp)
      · rw [if_neg ha] at hp
        exact absurd hp.2 (Nat.not_lt_zero _)
    · exact absurd hp.2 (Nat.not_lt_zero _)
  · unfold lI at hp
    unfold sr_is
    dsimp only
    split
    · rename_i ha
      split
      · rename_i e
        rw [e] at hp
        change ¬ inb i (if a < h.1.1 then _ else 0) at hp
        rw [if_pos ha] at hp
        rw [if_pos (inb_not.mpr hp)]
      · rfl
    · rfl
theorem wB_bast {v : Int32} : sr_B d ((.bastore, x) :: cs) L (.int v :: .int i :: .ref a :: S) h Q ↔ ((v = 0 ∨ v = 1) ∧ inb i (lZ h a)) ∧ sr_B d cs L S (sI h a i.toNatClampNeg v) Q := by
  refine sr_exg (K := fun n => sr_ev (decide (8 ≤ d)) (sr_ef n d) (sr_cf n d) cs) (A := sr_zs L (.int v :: .int i :: .ref a :: S) h) (fun hp => ?_) (fun hp => ?_)
  · unfold lZ at hp
    unfold sr_zs sI
    dsimp only
    obtain ⟨hv, hp⟩ := hp
    split at hp
    · rename_i e
      by_cases ha : a < h.1.1
      · rw [if_pos ha] at hp
        rw [if_pos ⟨ha, hv⟩, e]
        exact if_neg (fun q => inb_not.mp q hp)
      · rw [if_neg ha] at hp
        exact absurd hp.2 (Nat.not_lt_zero _)
    · exact absurd hp.2 (Nat.not_lt_zero _)
  · unfold lZ at hp
    unfold sr_zs
    dsimp only
    split
    · rename_i ha
      split
      · rename_i e
        rw [e] at hp
        change ¬ (_ ∧ inb i (if a < h.1.1 then _ else 0)) at hp
        rw [if_pos ha.1] at hp
        rw [if_pos (inb_not.mpr (fun q => hp ⟨ha.2, q⟩))]
      · rfl
    · rfl
theorem wB_last {v : Int64} : sr_B d ((.lastore, x) :: cs) L (.long v :: .int i :: .ref a :: S) h Q ↔ inb i (lJ h a) ∧ sr_B d cs L S (sJ h a i.toNatClampNeg v) Q := by
  refine sr_exg (K := fun n => sr_ev (decide (8 ≤ d)) (sr_ef n d) (sr_cf n d) cs) (A := sr_js L (.long v :: .int i :: .ref a :: S) h) (fun hp => ?_) (fun hp => ?_)
  · unfold lJ at hp
    unfold sr_js sJ
    dsimp only
    split at hp
    · rename_i e
      by_cases ha : a < h.1.1
      · rw [if_pos ha] at hp ⊢
        rw [e]
        exact if_neg (fun q => inb_not.mp q hp)
      · rw [if_neg ha] at hp
        exact absurd hp.2 (Nat.not_lt_zero _)
    · exact absurd hp.2 (Nat.not_lt_zero _)
  · unfold lJ at hp
    unfold sr_js
    dsimp only
    split
    · rename_i ha
      split
      · rename_i e
        rw [e] at hp
        change ¬ inb i (if a < h.1.1 then _ else 0) at hp
        rw [if_pos ha] at hp
        rw [if_pos (inb_not.mpr hp)]
      · rfl
    · rfl
theorem wB_alen {n : Nat} (hn : lA h a = some n) : sr_B d ((.arraylength, x) :: cs) L (.ref a :: S) h Q ↔ sr_B d cs L (.int (nI n) :: S) h Q := by
  have e1 : sr_al L (.ref a :: S) h = some (L, .int (nI n) :: S, h) := by
    unfold lA at hn
    unfold sr_al
    dsimp only
    split at hn
    · rename_i e
      split at hn
      · rename_i ha
        cases hn
        rw [if_pos ha, e]
      · cases hn
    · rename_i e
      split at hn
      · rename_i ha
        cases hn
        rw [if_pos ha, e]
      · cases hn
    · cases hn
  show (∃ n r h', sr_go (sr_ev (decide (8 ≤ d)) (sr_ef n d) (sr_cf n d) cs) (sr_al L (.ref a :: S) h) = some (r, h') ∧ Q r h') ↔ _
  rw [e1]
  exact Iff.rfl
/-! calls -/
theorem wB_cl {mid n : Nat} {ok : List Value → sr_H → Bool} {as S' : List Value} (hp : sr_pop n [] S = some (as, S')) : (∃ n1 r h', sr_cl (sr_cf n1 d) mid n ok (sr_ev (decide (8 ≤ d)) (sr_ef n1 d) (sr_cf n1 d) cs) L S h = some (r, h') ∧ Q r h') ↔ (sr_sz S' ≤ 8 ∧ (sr_ar as).length ≤ sr_ml mid ∧ ok as h = true) ∧ sr_M d mid as h (fun r h' => sr_B d cs L (r.toList ++ S') h' Q) := by
  constructor
  · rintro ⟨n1, r, h', e, q⟩
    obtain ⟨as1, S1, r1, h1, e0, e1, e2, e3, e4, e5⟩ := sr_cl_inv e
    cases hp.symm.trans e0
    exact ⟨⟨e1, e2, e3⟩, n1, r1, h1, e4, n1, r, h', e5, q⟩
  · rintro ⟨⟨e1, e2, e3⟩, n1, r1, h1, e4, n2, r, h', e5, q⟩
    refine ⟨max n1 n2, r, h', ?_, q⟩
    have f4 := sr_cf_up (Nat.le_max_left n1 n2) _ _ _ _ e4
    have f5 := sr_ev_mo (B := decide (8 ≤ d)) (fun t => sr_ef_up (Nat.le_max_right n1 n2)) (fun m as h R e => sr_cf_up (Nat.le_max_right n1 n2) m as h R e) cs _ _ _ _ e5
    simp only [sr_cl, hp, e1, e2, e3, f4, and_self, if_true]
    exact f5
theorem wB_iv {mid n : Nat} {as S' : List Value} (hp : sr_pop n [] S = some (as, S')) : sr_B d ((.invokevirtual k, [mid, n, ci]) :: cs) L S h Q ↔ (sr_sz S' ≤ 8 ∧ (sr_ar as).length ≤ sr_ml mid ∧ sr_io ci as h = true) ∧ sr_M d mid as h (fun r h' => sr_B d cs L (r.toList ++ S') h' Q) := wB_cl hp
theorem wB_isp {mid n : Nat} {as S' : List Value} (hp : sr_pop n [] S = some (as, S')) : sr_B d ((.invokespecial k, [mid, n, ci]) :: cs) L S h Q ↔ (sr_sz S' ≤ 8 ∧ (sr_ar as).length ≤ sr_ml mid ∧ sr_io ci as h = true) ∧ sr_M d mid as h (fun r h' => sr_B d cs L (r.toList ++ S') h' Q) := wB_cl hp
theorem wB_is {mid n : Nat} {as S' : List Value} (hp : sr_pop n [] S = some (as, S')) : sr_B d ((.invokestatic k, [mid, n]) :: cs) L S h Q ↔ (sr_sz S' ≤ 8 ∧ (sr_ar as).length ≤ sr_ml mid) ∧ sr_M d mid as h (fun r h' => sr_B d cs L (r.toList ++ S') h' Q) := by
  refine (wB_cl (ok := fun _ _ => true) hp).trans ?_
  simp only [and_true]
end SRH
