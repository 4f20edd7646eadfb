/-! The mathematical state: a view is a family of rows of numbers; both sides are tied to it. -/
abbrev V : Type := Nat → Nat → Nat
abbrev xR (x : V) : Nat := x 0 0
abbrev xC (x : V) : Nat := x 0 1
abbrev xN (x : V) : Nat := x 0 2
abbrev xP (x : V) : Nat := x 0 3
abbrev xF (x : V) : Nat := x 0 4
abbrev xH (x : V) : Nat := x 0 5
abbrev xU (x : V) : Nat := x 0 6
abbrev xD (x : V) : Nat := x 0 7
abbrev sS (x : V) (s : Nat) : Nat := x 1 s
abbrev sR (x : V) (s : Nat) : Nat := x 2 s
abbrev sK (x : V) (s : Nat) : Nat := x 3 s
abbrev sL (x : V) (s : Nat) : Nat := x 4 s
abbrev sD (x : V) (s : Nat) : Nat := x 5 s
abbrev sW (x : V) (s : Nat) : Nat := x 6 s
abbrev pA (x : V) (p : Nat) : Nat := x 7 p
abbrev pR (x : V) (p : Nat) : Nat := x 8 p
abbrev pC (x : V) (p : Nat) : Nat := x 9 p
abbrev pW (x : V) (p : Nat) : Nat := x 10 p
abbrev pD (x : V) (p : Nat) : Nat := x 11 p
/-- what a view may be, as to its screens: nothing here says that they don't cross -/
def Wx (x : V) : Prop := (1 ≤ xR x ∧ xR x ≤ 8) ∧ (1 ≤ xC x ∧ xC x ≤ 8) ∧ xN x ≤ 5 ∧ xP x < 32 ∧ ∀ s, s < xN x → sS x s < 4 ∧ (1 ≤ sL x s ∧ sL x s ≤ 4) ∧ sD x s ≤ 1 ∧ sW x s < 16 ∧ sR x s < 8 ∧ sK x s < 8
def dst (a b : Nat) : Nat := (a - b) + (b - a)
/-- leaf l of screen s: its cell, how far from a cell, whether it is whole -/
def lfR (x : V) (s l : Nat) : Nat := sR x s + if sD x s = 1 then l else 0
def lfC (x : V) (s l : Nat) : Nat := sK x s + if sD x s = 1 then 0 else l
def lfD (x : V) (s r c l : Nat) : Nat := dst r (lfR x s l) + dst c (lfC x s l)
def wb (x : V) (s l : Nat) : Prop := sW x s / 2 ^ l % 2 = 1
/-- how far, by the first n leaves; 1000: none is whole -/
def farN (x : V) (s r c : Nat) : Nat → Nat
  | 0 => 1000
  | n + 1 => if sW x s / 2 ^ n % 2 = 1 ∧ lfD x s r c n < farN x s r c n then lfD x s r c n else farN x s r c n
def far (x : V) (s r c : Nat) : Nat := farN x s r c (sL x s)
/-- of the first n screens of the bits that which is least far (by one more; 0: none), and how far -/
def nrN (x : V) (bits r c : Nat) : Nat → Nat × Nat
  | 0 => (0, 1000)
  | s + 1 => if bits / 2 ^ s % 2 = 1 ∧ far x s r c < (nrN x bits r c s).2 then (s + 1, far x s r c) else nrN x bits r c s
def giv (x : V) (bits r c : Nat) : Nat := (nrN x bits r c (xN x)).1
def sea (x : V) (bits r c : Nat) : Nat := if giv x bits r c = 0 then 4 else sS x (giv x bits r c - 1)
/-- the screens of the class at S hold the view -/
def SC (h : sr_H) (S : Nat) (x : V) : Prop := fI h S 0 = nI (xR x) ∧ fI h S 1 = nI (xC x) ∧ fI h S 2 = nI (xN x) ∧ fI h S 3 = nI (xP x) ∧
  ∀ s, s < xN x → hI h (S + 1) s = nI (sS x s) ∧ hI h (S + 2) s = nI (sR x s) ∧ hI h (S + 3) s = nI (sK x s) ∧ hI h (S + 4) s = nI (sL x s) ∧ hI h (S + 5) s = nI (sD x s) ∧ hI h (S + 6) s = nI (sW x s)
/-! numbers -/
def bI (p : Prop) (dp : Decidable p) : Int32 := if p then 1 else 0
theorem bI_0 {p : Prop} {dp : Decidable p} : bI p dp = 0 ↔ ¬ p := by
  unfold bI
  by_cases hp : p <;> simp [hp]
theorem bI_1 {p : Prop} {dp : Decidable p} : bI p dp = 1 ↔ p := by
  unfold bI
  by_cases hp : p <;> simp [hp]
theorem bI_z {p : Prop} {dp : Decidable p} : (bI p dp = 0 ∨ bI p dp = 1) ↔ True := by
  unfold bI
  by_cases hp : p <;> simp [hp]
theorem n00 : (nI 0 = 0) = True := by simp [nI_0]
theorem n01 : (nI 0 = 1) = False := by simp [nI_0]
theorem n11 : (nI 1 = 1) = True := eq_true (by decide)
theorem n10 : (nI 1 = 0) = False := eq_false (by decide)
theorem nI_z {n : Nat} (h : n < 2 ^ 31) : nI n = 0 ↔ n = 0 := by rw [← nI_0, nI_eq h (by decide)]
theorem nI_m1 {n : Nat} (h : n < 2 ^ 31) : ¬ nI n = -1 := by
  intro e
  have := nI_toInt h
  rw [e] at this
  have h2 : (-1 : Int32).toInt = -1 := by decide
  omega
theorem nI_lt0 {n : Nat} (h : n < 2 ^ 31) : nI n < 0 ↔ False := ⟨fun q => nI_pos h q, fun q => q.elim⟩
theorem nI_ge0 {n : Nat} (h : n < 2 ^ 31) : 0 ≤ nI n ↔ True := ⟨fun _ => trivial, fun _ => nI_pos' h⟩
theorem inb_nI {n N : Nat} (h : n < 2 ^ 31) : inb (nI n) N ↔ n < N := by
  unfold inb
  rw [nI_clamp h]
  exact ⟨fun q => q.2, fun q => ⟨nI_pos h, q⟩⟩
theorem nI_bit {w l : Nat} (hw : w < 2 ^ 31) (hl : l < 32) : ((nI w >>> (nI l &&& 31)) &&& nI 1 = nI 1) ↔ w / 2 ^ l % 2 = 1 := by
  have h1 : ((nI l &&& 31).toBitVec.smod 32).toNat = l := by
    have : ∀ l, l < 32 → ((nI l &&& 31).toBitVec.smod 32).toNat = l := by decide +kernel
    exact this l hl
  rw [pk_shrN hw _ l h1]
  have h2 : w / 2 ^ l < 2 ^ 31 := Nat.lt_of_le_of_lt (Nat.div_le_self _ _) hw
  rw [pk_andN (by omega) 1 (by decide), nI_eq (by omega) (by decide)]
theorem nI_sub2 (a b c : Nat) : nI a - nI b - nI c = nI a - nI (b + c) := by
  rw [← nI_add, Int32.sub_eq_add_neg, Int32.sub_eq_add_neg, Int32.sub_eq_add_neg, Int32.neg_add, Int32.sub_eq_add_neg, Int32.add_assoc]
theorem nI_dge {a b : Nat} (ha : a < 2 ^ 30) (hb : b < 2 ^ 30) : 0 ≤ nI a - nI b ↔ b ≤ a := by
  rw [Int32.le_iff_toInt_le, pk_sub_toInt ha hb, Int32.toInt_zero]
  omega
theorem nI_dneg {a b : Nat} (h : a ≤ b) : -(nI a - nI b) = nI (b - a) := by
  rw [← pk_sub h, Int32.neg_sub]
