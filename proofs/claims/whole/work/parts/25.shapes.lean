/-! Printed by wip/whole/gen5.py: what lies where: each class's object and rows. -/
/-- cells of these shapes lie from B on -/
def ShA (h : sr_H) (B : Nat) (l : List sr_C) : Prop := ∀ k c, l[k]? = some c → B + k < h.1.1 ∧ sr_sh (h.2 (B + k)) = c
theorem ShA.ss {h h' : sr_H} {B : Nat} {l : List sr_C} (s : SS h h') (w : ShA h B l) : ShA h' B l := fun k c hk => by
  rw [s.1, s.2]
  exact w k c hk
theorem ShA.sub {h : sr_H} {B B' n : Nat} {l l' : List sr_C} (w : ShA h B l) (hB : B' = B + n) (hl : l' <+: l.drop n) : ShA h B' l' := by
  intro k c hk
  obtain ⟨t, ht⟩ := hl
  have : l[n + k]? = some c := by
    rw [← List.getElem?_drop, ← ht, List.getElem?_append_left (List.getElem?_eq_some_iff.mp hk).1]
    exact hk
  have := w (n + k) c this
  rw [hB, Nat.add_assoc]
  exact this
def szScr (B : Nat) : List sr_C := [.inr (.inr (6, [.int 0, .int 0, .int 0, .int 0, .int 0, .ref (B + 1), .ref (B + 2), .ref (B + 3), .ref (B + 4), .ref (B + 5), .ref (B + 6), .ref (B + 7), .ref (B + 8), .ref (B + 9)]))] ++ ([.inl (0, 5, fun _ => 0), .inl (0, 5, fun _ => 0), .inl (0, 5, fun _ => 0), .inl (0, 5, fun _ => 0), .inl (0, 5, fun _ => 0), .inl (0, 5, fun _ => 0), .inl (0, 64, fun _ => 0), .inl (0, 64, fun _ => 0), .inl (0, 64, fun _ => 0)])
def Scr (h : sr_H) (B : Nat) : Prop := ShA h B (szScr B)
theorem Scr.ss {h h' : sr_H} {B : Nat} (s : SS h h') (w : Scr h B) : Scr h' B := ShA.ss s w
theorem obj_6 {h : sr_H} {B : Nat} (w : Scr h B) : oC h B 6 ∧ B < h.1.1 := ⟨(sh_O (a := B) (w 0 _ rfl).1 (w 0 _ rfl).2).1, (w 0 _ rfl).1⟩
theorem fld_6_0 {h : sr_H} {B : Nat} (w : Scr h B) : (oF h B 6 0 ∧ oK h B 0) ∧ hF h B 0 = .int (fI h B 0) := have q := (sh_O (a := B) (w 0 _ rfl).1 (w 0 _ rfl).2).2.2 0 _ rfl; ⟨⟨q.1, q.2.1⟩, er_int q.2.2⟩
theorem fld_6_1 {h : sr_H} {B : Nat} (w : Scr h B) : (oF h B 6 1 ∧ oK h B 1) ∧ hF h B 1 = .int (fI h B 1) := have q := (sh_O (a := B) (w 0 _ rfl).1 (w 0 _ rfl).2).2.2 1 _ rfl; ⟨⟨q.1, q.2.1⟩, er_int q.2.2⟩
theorem fld_6_2 {h : sr_H} {B : Nat} (w : Scr h B) : (oF h B 6 2 ∧ oK h B 2) ∧ hF h B 2 = .int (fI h B 2) := have q := (sh_O (a := B) (w 0 _ rfl).1 (w 0 _ rfl).2).2.2 2 _ rfl; ⟨⟨q.1, q.2.1⟩, er_int q.2.2⟩
theorem fld_6_3 {h : sr_H} {B : Nat} (w : Scr h B) : (oF h B 6 3 ∧ oK h B 3) ∧ hF h B 3 = .int (fI h B 3) := have q := (sh_O (a := B) (w 0 _ rfl).1 (w 0 _ rfl).2).2.2 3 _ rfl; ⟨⟨q.1, q.2.1⟩, er_int q.2.2⟩
theorem fld_6_4 {h : sr_H} {B : Nat} (w : Scr h B) : (oF h B 6 4 ∧ oK h B 4) ∧ hF h B 4 = .int (fI h B 4) := have q := (sh_O (a := B) (w 0 _ rfl).1 (w 0 _ rfl).2).2.2 4 _ rfl; ⟨⟨q.1, q.2.1⟩, er_int q.2.2⟩
theorem fld_6_5 {h : sr_H} {B : Nat} (w : Scr h B) : (oF h B 6 5 ∧ oK h B 5) ∧ hF h B 5 = .ref (B + 1) := have q := (sh_O (a := B) (w 0 _ rfl).1 (w 0 _ rfl).2).2.2 5 _ rfl; ⟨⟨q.1, q.2.1⟩, er_ref q.2.2⟩
theorem arr_6_5 {h : sr_H} {B : Nat} (w : Scr h B) : lI h (B + 1) = 5 ∧ isA h (B + 1) ∧ isI h (B + 1) ∧ B + 1 < h.1.1 := sh_I (w 1 _ rfl).1 (w 1 _ rfl).2
theorem fld_6_6 {h : sr_H} {B : Nat} (w : Scr h B) : (oF h B 6 6 ∧ oK h B 6) ∧ hF h B 6 = .ref (B + 2) := have q := (sh_O (a := B) (w 0 _ rfl).1 (w 0 _ rfl).2).2.2 6 _ rfl; ⟨⟨q.1, q.2.1⟩, er_ref q.2.2⟩
theorem arr_6_6 {h : sr_H} {B : Nat} (w : Scr h B) : lI h (B + 2) = 5 ∧ isA h (B + 2) ∧ isI h (B + 2) ∧ B + 2 < h.1.1 := sh_I (w 2 _ rfl).1 (w 2 _ rfl).2
theorem fld_6_7 {h : sr_H} {B : Nat} (w : Scr h B) : (oF h B 6 7 ∧ oK h B 7) ∧ hF h B 7 = .ref (B + 3) := have q := (sh_O (a := B) (w 0 _ rfl).1 (w 0 _ rfl).2).2.2 7 _ rfl; ⟨⟨q.1, q.2.1⟩, er_ref q.2.2⟩
theorem arr_6_7 {h : sr_H} {B : Nat} (w : Scr h B) : lI h (B + 3) = 5 ∧ isA h (B + 3) ∧ isI h (B + 3) ∧ B + 3 < h.1.1 := sh_I (w 3 _ rfl).1 (w 3 _ rfl).2
theorem fld_6_8 {h : sr_H} {B : Nat} (w : Scr h B) : (oF h B 6 8 ∧ oK h B 8) ∧ hF h B 8 = .ref (B + 4) := have q := (sh_O (a := B) (w 0 _ rfl).1 (w 0 _ rfl).2).2.2 8 _ rfl; ⟨⟨q.1, q.2.1⟩, er_ref q.2.2⟩
theorem arr_6_8 {h : sr_H} {B : Nat} (w : Scr h B) : lI h (B + 4) = 5 ∧ isA h (B + 4) ∧ isI h (B + 4) ∧ B + 4 < h.1.1 := sh_I (w 4 _ rfl).1 (w 4 _ rfl).2
theorem fld_6_9 {h : sr_H} {B : Nat} (w : Scr h B) : (oF h B 6 9 ∧ oK h B 9) ∧ hF h B 9 = .ref (B + 5) := have q := (sh_O (a := B) (w 0 _ rfl).1 (w 0 _ rfl).2).2.2 9 _ rfl; ⟨⟨q.1, q.2.1⟩, er_ref q.2.2⟩
theorem arr_6_9 {h : sr_H} {B : Nat} (w : Scr h B) : lI h (B + 5) = 5 ∧ isA h (B + 5) ∧ isI h (B + 5) ∧ B + 5 < h.1.1 := sh_I (w 5 _ rfl).1 (w 5 _ rfl).2
theorem fld_6_10 {h : sr_H} {B : Nat} (w : Scr h B) : (oF h B 6 10 ∧ oK h B 10) ∧ hF h B 10 = .ref (B + 6) := have q := (sh_O (a := B) (w 0 _ rfl).1 (w 0 _ rfl).2).2.2 10 _ rfl; ⟨⟨q.1, q.2.1⟩, er_ref q.2.2⟩
theorem arr_6_10 {h : sr_H} {B : Nat} (w : Scr h B) : lI h (B + 6) = 5 ∧ isA h (B + 6) ∧ isI h (B + 6) ∧ B + 6 < h.1.1 := sh_I (w 6 _ rfl).1 (w 6 _ rfl).2
theorem fld_6_11 {h : sr_H} {B : Nat} (w : Scr h B) : (oF h B 6 11 ∧ oK h B 11) ∧ hF h B 11 = .ref (B + 7) := have q := (sh_O (a := B) (w 0 _ rfl).1 (w 0 _ rfl).2).2.2 11 _ rfl; ⟨⟨q.1, q.2.1⟩, er_ref q.2.2⟩
theorem arr_6_11 {h : sr_H} {B : Nat} (w : Scr h B) : lI h (B + 7) = 64 ∧ isA h (B + 7) ∧ isI h (B + 7) ∧ B + 7 < h.1.1 := sh_I (w 7 _ rfl).1 (w 7 _ rfl).2
theorem fld_6_12 {h : sr_H} {B : Nat} (w : Scr h B) : (oF h B 6 12 ∧ oK h B 12) ∧ hF h B 12 = .ref (B + 8) := have q := (sh_O (a := B) (w 0 _ rfl).1 (w 0 _ rfl).2).2.2 12 _ rfl; ⟨⟨q.1, q.2.1⟩, er_ref q.2.2⟩
theorem arr_6_12 {h : sr_H} {B : Nat} (w : Scr h B) : lI h (B + 8) = 64 ∧ isA h (B + 8) ∧ isI h (B + 8) ∧ B + 8 < h.1.1 := sh_I (w 8 _ rfl).1 (w 8 _ rfl).2
theorem fld_6_13 {h : sr_H} {B : Nat} (w : Scr h B) : (oF h B 6 13 ∧ oK h B 13) ∧ hF h B 13 = .ref (B + 9) := have q := (sh_O (a := B) (w 0 _ rfl).1 (w 0 _ rfl).2).2.2 13 _ rfl; ⟨⟨q.1, q.2.1⟩, er_ref q.2.2⟩
theorem arr_6_13 {h : sr_H} {B : Nat} (w : Scr h B) : lI h (B + 9) = 64 ∧ isA h (B + 9) ∧ isI h (B + 9) ∧ B + 9 < h.1.1 := sh_I (w 9 _ rfl).1 (w 9 _ rfl).2
def szLws (B : Nat) : List sr_C := [.inr (.inr (2, [.int 0, .int 0, .ref (B + 1), .ref (B + 2), .ref (B + 3), .ref (B + 4), .ref (B + 5), .ref (B + 6)]))] ++ ([.inl (0, 64, fun _ => 0), .inl (0, 64, fun _ => 0), .inl (0, 3, fun _ => 0), .inl (0, 3, fun _ => 0), .inr (.inl (7, fun _ => 0)), .inr (.inl (64, fun _ => 0))])
def Lws (h : sr_H) (B : Nat) : Prop := ShA h B (szLws B)
theorem Lws.ss {h h' : sr_H} {B : Nat} (s : SS h h') (w : Lws h B) : Lws h' B := ShA.ss s w
theorem obj_2 {h : sr_H} {B : Nat} (w : Lws h B) : oC h B 2 ∧ B < h.1.1 := ⟨(sh_O (a := B) (w 0 _ rfl).1 (w 0 _ rfl).2).1, (w 0 _ rfl).1⟩
theorem fld_2_0 {h : sr_H} {B : Nat} (w : Lws h B) : (oF h B 2 0 ∧ oK h B 0) ∧ hF h B 0 = .int (fI h B 0) := have q := (sh_O (a := B) (w 0 _ rfl).1 (w 0 _ rfl).2).2.2 0 _ rfl; ⟨⟨q.1, q.2.1⟩, er_int q.2.2⟩
theorem fld_2_1 {h : sr_H} {B : Nat} (w : Lws h B) : (oF h B 2 1 ∧ oK h B 1) ∧ hF h B 1 = .int (fI h B 1) := have q := (sh_O (a := B) (w 0 _ rfl).1 (w 0 _ rfl).2).2.2 1 _ rfl; ⟨⟨q.1, q.2.1⟩, er_int q.2.2⟩
theorem fld_2_2 {h : sr_H} {B : Nat} (w : Lws h B) : (oF h B 2 2 ∧ oK h B 2) ∧ hF h B 2 = .ref (B + 1) := have q := (sh_O (a := B) (w 0 _ rfl).1 (w 0 _ rfl).2).2.2 2 _ rfl; ⟨⟨q.1, q.2.1⟩, er_ref q.2.2⟩
theorem arr_2_2 {h : sr_H} {B : Nat} (w : Lws h B) : lI h (B + 1) = 64 ∧ isA h (B + 1) ∧ isI h (B + 1) ∧ B + 1 < h.1.1 := sh_I (w 1 _ rfl).1 (w 1 _ rfl).2
theorem fld_2_3 {h : sr_H} {B : Nat} (w : Lws h B) : (oF h B 2 3 ∧ oK h B 3) ∧ hF h B 3 = .ref (B + 2) := have q := (sh_O (a := B) (w 0 _ rfl).1 (w 0 _ rfl).2).2.2 3 _ rfl; ⟨⟨q.1, q.2.1⟩, er_ref q.2.2⟩
theorem arr_2_3 {h : sr_H} {B : Nat} (w : Lws h B) : lI h (B + 2) = 64 ∧ isA h (B + 2) ∧ isI h (B + 2) ∧ B + 2 < h.1.1 := sh_I (w 2 _ rfl).1 (w 2 _ rfl).2
theorem fld_2_4 {h : sr_H} {B : Nat} (w : Lws h B) : (oF h B 2 4 ∧ oK h B 4) ∧ hF h B 4 = .ref (B + 3) := have q := (sh_O (a := B) (w 0 _ rfl).1 (w 0 _ rfl).2).2.2 4 _ rfl; ⟨⟨q.1, q.2.1⟩, er_ref q.2.2⟩
theorem arr_2_4 {h : sr_H} {B : Nat} (w : Lws h B) : lI h (B + 3) = 3 ∧ isA h (B + 3) ∧ isI h (B + 3) ∧ B + 3 < h.1.1 := sh_I (w 3 _ rfl).1 (w 3 _ rfl).2
theorem fld_2_5 {h : sr_H} {B : Nat} (w : Lws h B) : (oF h B 2 5 ∧ oK h B 5) ∧ hF h B 5 = .ref (B + 4) := have q := (sh_O (a := B) (w 0 _ rfl).1 (w 0 _ rfl).2).2.2 5 _ rfl; ⟨⟨q.1, q.2.1⟩, er_ref q.2.2⟩
theorem arr_2_5 {h : sr_H} {B : Nat} (w : Lws h B) : lI h (B + 4) = 3 ∧ isA h (B + 4) ∧ isI h (B + 4) ∧ B + 4 < h.1.1 := sh_I (w 4 _ rfl).1 (w 4 _ rfl).2
theorem fld_2_6 {h : sr_H} {B : Nat} (w : Lws h B) : (oF h B 2 6 ∧ oK h B 6) ∧ hF h B 6 = .ref (B + 5) := have q := (sh_O (a := B) (w 0 _ rfl).1 (w 0 _ rfl).2).2.2 6 _ rfl; ⟨⟨q.1, q.2.1⟩, er_ref q.2.2⟩
theorem arr_2_6 {h : sr_H} {B : Nat} (w : Lws h B) : lJ h (B + 5) = 7 ∧ isJ h (B + 5) ∧ B + 5 < h.1.1 := sh_J (w 5 _ rfl).1 (w 5 _ rfl).2
theorem fld_2_7 {h : sr_H} {B : Nat} (w : Lws h B) : (oF h B 2 7 ∧ oK h B 7) ∧ hF h B 7 = .ref (B + 6) := have q := (sh_O (a := B) (w 0 _ rfl).1 (w 0 _ rfl).2).2.2 7 _ rfl; ⟨⟨q.1, q.2.1⟩, er_ref q.2.2⟩
theorem arr_2_7 {h : sr_H} {B : Nat} (w : Lws h B) : lJ h (B + 6) = 64 ∧ isJ h (B + 6) ∧ B + 6 < h.1.1 := sh_J (w 6 _ rfl).1 (w 6 _ rfl).2
def szRm (B : Nat) : List sr_C := [.inr (.inr (5, [.ref (B + 1), .int 0, .ref (B + 11), .ref (B + 12), .ref (B + 13), .ref (B + 14), .ref (B + 15), .int 0, .int 0, .long 0]))] ++ (szScr (B + 1) ++ ([.inl (0, 6, fun _ => 0), .inl (0, 6, fun _ => 0), .inl (0, 6, fun _ => 0), .inl (0, 6, fun _ => 0), .inl (0, 6, fun _ => 0)]))
def Rm (h : sr_H) (B : Nat) : Prop := ShA h B (szRm B)
theorem Rm.ss {h h' : sr_H} {B : Nat} (s : SS h h') (w : Rm h B) : Rm h' B := ShA.ss s w
theorem obj_5 {h : sr_H} {B : Nat} (w : Rm h B) : oC h B 5 ∧ B < h.1.1 := ⟨(sh_O (a := B) (w 0 _ rfl).1 (w 0 _ rfl).2).1, (w 0 _ rfl).1⟩
theorem fld_5_0 {h : sr_H} {B : Nat} (w : Rm h B) : (oF h B 5 0 ∧ oK h B 0) ∧ hF h B 0 = .ref (B + 1) := have q := (sh_O (a := B) (w 0 _ rfl).1 (w 0 _ rfl).2).2.2 0 _ rfl; ⟨⟨q.1, q.2.1⟩, er_ref q.2.2⟩
theorem fld_5_1 {h : sr_H} {B : Nat} (w : Rm h B) : (oF h B 5 1 ∧ oK h B 1) ∧ hF h B 1 = .int (fI h B 1) := have q := (sh_O (a := B) (w 0 _ rfl).1 (w 0 _ rfl).2).2.2 1 _ rfl; ⟨⟨q.1, q.2.1⟩, er_int q.2.2⟩
theorem fld_5_2 {h : sr_H} {B : Nat} (w : Rm h B) : (oF h B 5 2 ∧ oK h B 2) ∧ hF h B 2 = .ref (B + 11) := have q := (sh_O (a := B) (w 0 _ rfl).1 (w 0 _ rfl).2).2.2 2 _ rfl; ⟨⟨q.1, q.2.1⟩, er_ref q.2.2⟩
theorem arr_5_2 {h : sr_H} {B : Nat} (w : Rm h B) : lI h (B + 11) = 6 ∧ isA h (B + 11) ∧ isI h (B + 11) ∧ B + 11 < h.1.1 := sh_I (w 11 _ rfl).1 (w 11 _ rfl).2
theorem fld_5_3 {h : sr_H} {B : Nat} (w : Rm h B) : (oF h B 5 3 ∧ oK h B 3) ∧ hF h B 3 = .ref (B + 12) := have q := (sh_O (a := B) (w 0 _ rfl).1 (w 0 _ rfl).2).2.2 3 _ rfl; ⟨⟨q.1, q.2.1⟩, er_ref q.2.2⟩
theorem arr_5_3 {h : sr_H} {B : Nat} (w : Rm h B) : lI h (B + 12) = 6 ∧ isA h (B + 12) ∧ isI h (B + 12) ∧ B + 12 < h.1.1 := sh_I (w 12 _ rfl).1 (w 12 _ rfl).2
theorem fld_5_4 {h : sr_H} {B : Nat} (w : Rm h B) : (oF h B 5 4 ∧ oK h B 4) ∧ hF h B 4 = .ref (B + 13) := have q := (sh_O (a := B) (w 0 _ rfl).1 (w 0 _ rfl).2).2.2 4 _ rfl; ⟨⟨q.1, q.2.1⟩, er_ref q.2.2⟩
theorem arr_5_4 {h : sr_H} {B : Nat} (w : Rm h B) : lI h (B + 13) = 6 ∧ isA h (B + 13) ∧ isI h (B + 13) ∧ B + 13 < h.1.1 := sh_I (w 13 _ rfl).1 (w 13 _ rfl).2
theorem fld_5_5 {h : sr_H} {B : Nat} (w : Rm h B) : (oF h B 5 5 ∧ oK h B 5) ∧ hF h B 5 = .ref (B + 14) := have q := (sh_O (a := B) (w 0 _ rfl).1 (w 0 _ rfl).2).2.2 5 _ rfl; ⟨⟨q.1, q.2.1⟩, er_ref q.2.2⟩
theorem arr_5_5 {h : sr_H} {B : Nat} (w : Rm h B) : lI h (B + 14) = 6 ∧ isA h (B + 14) ∧ isI h (B + 14) ∧ B + 14 < h.1.1 := sh_I (w 14 _ rfl).1 (w 14 _ rfl).2
theorem fld_5_6 {h : sr_H} {B : Nat} (w : Rm h B) : (oF h B 5 6 ∧ oK h B 6) ∧ hF h B 6 = .ref (B + 15) := have q := (sh_O (a := B) (w 0 _ rfl).1 (w 0 _ rfl).2).2.2 6 _ rfl; ⟨⟨q.1, q.2.1⟩, er_ref q.2.2⟩
theorem arr_5_6 {h : sr_H} {B : Nat} (w : Rm h B) : lI h (B + 15) = 6 ∧ isA h (B + 15) ∧ isI h (B + 15) ∧ B + 15 < h.1.1 := sh_I (w 15 _ rfl).1 (w 15 _ rfl).2
theorem fld_5_7 {h : sr_H} {B : Nat} (w : Rm h B) : (oF h B 5 7 ∧ oK h B 7) ∧ hF h B 7 = .int (fI h B 7) := have q := (sh_O (a := B) (w 0 _ rfl).1 (w 0 _ rfl).2).2.2 7 _ rfl; ⟨⟨q.1, q.2.1⟩, er_int q.2.2⟩
theorem fld_5_8 {h : sr_H} {B : Nat} (w : Rm h B) : (oF h B 5 8 ∧ oK h B 8) ∧ hF h B 8 = .int (fI h B 8) := have q := (sh_O (a := B) (w 0 _ rfl).1 (w 0 _ rfl).2).2.2 8 _ rfl; ⟨⟨q.1, q.2.1⟩, er_int q.2.2⟩
theorem fld_5_9 {h : sr_H} {B : Nat} (w : Rm h B) : (oF h B 5 9 ∧ oK h B 9) ∧ hF h B 9 = .long (fJ h B 9) := have q := (sh_O (a := B) (w 0 _ rfl).1 (w 0 _ rfl).2).2.2 9 _ rfl; ⟨⟨q.1, q.2.1⟩, er_long q.2.2⟩
theorem sub_5_screens {h : sr_H} {B : Nat} (w : Rm h B) : Scr h (B + 1) := ShA.sub (n := 1) w rfl ⟨_, rfl⟩
def szTxt (B : Nat) : List sr_C := [.inr (.inr (8, [.ref (B + 1), .ref (B + 17), .ref (B + 24), .ref (B + 25), .int 0, .int 0, .int 0, .int 0, .int 0, .int 0, .ref (B + 26), .ref (B + 27), .ref (B + 28), .ref (B + 29), .int 0, .ref (B + 30), .ref (B + 31), .ref (B + 32)]))] ++ (szRm (B + 1) ++ (szLws (B + 17) ++ ([.inl (0, 5, fun _ => 0), .inl (0, 6, fun _ => 0), .inl (0, 10, fun _ => 0), .inl (0, 10, fun _ => 0), .inl (0, 10, fun _ => 0), .inl (0, 10, fun _ => 0), .inl (0, 12, fun _ => 0), .inl (0, 12, fun _ => 0), .inl (0, 12, fun _ => 0)])))
def Txt (h : sr_H) (B : Nat) : Prop := ShA h B (szTxt B)
theorem Txt.ss {h h' : sr_H} {B : Nat} (s : SS h h') (w : Txt h B) : Txt h' B := ShA.ss s w
theorem obj_8 {h : sr_H} {B : Nat} (w : Txt h B) : oC h B 8 ∧ B < h.1.1 := ⟨(sh_O (a := B) (w 0 _ rfl).1 (w 0 _ rfl).2).1, (w 0 _ rfl).1⟩
theorem fld_8_0 {h : sr_H} {B : Nat} (w : Txt h B) : (oF h B 8 0 ∧ oK h B 0) ∧ hF h B 0 = .ref (B + 1) := have q := (sh_O (a := B) (w 0 _ rfl).1 (w 0 _ rfl).2).2.2 0 _ rfl; ⟨⟨q.1, q.2.1⟩, er_ref q.2.2⟩
theorem fld_8_1 {h : sr_H} {B : Nat} (w : Txt h B) : (oF h B 8 1 ∧ oK h B 1) ∧ hF h B 1 = .ref (B + 17) := have q := (sh_O (a := B) (w 0 _ rfl).1 (w 0 _ rfl).2).2.2 1 _ rfl; ⟨⟨q.1, q.2.1⟩, er_ref q.2.2⟩
theorem fld_8_2 {h : sr_H} {B : Nat} (w : Txt h B) : (oF h B 8 2 ∧ oK h B 2) ∧ hF h B 2 = .ref (B + 24) := have q := (sh_O (a := B) (w 0 _ rfl).1 (w 0 _ rfl).2).2.2 2 _ rfl; ⟨⟨q.1, q.2.1⟩, er_ref q.2.2⟩
theorem arr_8_2 {h : sr_H} {B : Nat} (w : Txt h B) : lI h (B + 24) = 5 ∧ isA h (B + 24) ∧ isI h (B + 24) ∧ B + 24 < h.1.1 := sh_I (w 24 _ rfl).1 (w 24 _ rfl).2
theorem fld_8_3 {h : sr_H} {B : Nat} (w : Txt h B) : (oF h B 8 3 ∧ oK h B 3) ∧ hF h B 3 = .ref (B + 25) := have q := (sh_O (a := B) (w 0 _ rfl).1 (w 0 _ rfl).2).2.2 3 _ rfl; ⟨⟨q.1, q.2.1⟩, er_ref q.2.2⟩
theorem arr_8_3 {h : sr_H} {B : Nat} (w : Txt h B) : lI h (B + 25) = 6 ∧ isA h (B + 25) ∧ isI h (B + 25) ∧ B + 25 < h.1.1 := sh_I (w 25 _ rfl).1 (w 25 _ rfl).2
theorem fld_8_4 {h : sr_H} {B : Nat} (w : Txt h B) : (oF h B 8 4 ∧ oK h B 4) ∧ hF h B 4 = .int (fI h B 4) := have q := (sh_O (a := B) (w 0 _ rfl).1 (w 0 _ rfl).2).2.2 4 _ rfl; ⟨⟨q.1, q.2.1⟩, er_int q.2.2⟩
theorem fld_8_5 {h : sr_H} {B : Nat} (w : Txt h B) : (oF h B 8 5 ∧ oK h B 5) ∧ hF h B 5 = .int (fI h B 5) := have q := (sh_O (a := B) (w 0 _ rfl).1 (w 0 _ rfl).2).2.2 5 _ rfl; ⟨⟨q.1, q.2.1⟩, er_int q.2.2⟩
theorem fld_8_6 {h : sr_H} {B : Nat} (w : Txt h B) : (oF h B 8 6 ∧ oK h B 6) ∧ hF h B 6 = .int (fI h B 6) := have q := (sh_O (a := B) (w 0 _ rfl).1 (w 0 _ rfl).2).2.2 6 _ rfl; ⟨⟨q.1, q.2.1⟩, er_int q.2.2⟩
theorem fld_8_7 {h : sr_H} {B : Nat} (w : Txt h B) : (oF h B 8 7 ∧ oK h B 7) ∧ hF h B 7 = .int (fI h B 7) := have q := (sh_O (a := B) (w 0 _ rfl).1 (w 0 _ rfl).2).2.2 7 _ rfl; ⟨⟨q.1, q.2.1⟩, er_int q.2.2⟩
theorem fld_8_8 {h : sr_H} {B : Nat} (w : Txt h B) : (oF h B 8 8 ∧ oK h B 8) ∧ hF h B 8 = .int (fI h B 8) := have q := (sh_O (a := B) (w 0 _ rfl).1 (w 0 _ rfl).2).2.2 8 _ rfl; ⟨⟨q.1, q.2.1⟩, er_int q.2.2⟩
theorem fld_8_9 {h : sr_H} {B : Nat} (w : Txt h B) : (oF h B 8 9 ∧ oK h B 9) ∧ hF h B 9 = .int (fI h B 9) := have q := (sh_O (a := B) (w 0 _ rfl).1 (w 0 _ rfl).2).2.2 9 _ rfl; ⟨⟨q.1, q.2.1⟩, er_int q.2.2⟩
theorem fld_8_10 {h : sr_H} {B : Nat} (w : Txt h B) : (oF h B 8 10 ∧ oK h B 10) ∧ hF h B 10 = .ref (B + 26) := have q := (sh_O (a := B) (w 0 _ rfl).1 (w 0 _ rfl).2).2.2 10 _ rfl; ⟨⟨q.1, q.2.1⟩, er_ref q.2.2⟩
theorem arr_8_10 {h : sr_H} {B : Nat} (w : Txt h B) : lI h (B + 26) = 10 ∧ isA h (B + 26) ∧ isI h (B + 26) ∧ B + 26 < h.1.1 := sh_I (w 26 _ rfl).1 (w 26 _ rfl).2
theorem fld_8_11 {h : sr_H} {B : Nat} (w : Txt h B) : (oF h B 8 11 ∧ oK h B 11) ∧ hF h B 11 = .ref (B + 27) := have q := (sh_O (a := B) (w 0 _ rfl).1 (w 0 _ rfl).2).2.2 11 _ rfl; ⟨⟨q.1, q.2.1⟩, er_ref q.2.2⟩
theorem arr_8_11 {h : sr_H} {B : Nat} (w : Txt h B) : lI h (B + 27) = 10 ∧ isA h (B + 27) ∧ isI h (B + 27) ∧ B + 27 < h.1.1 := sh_I (w 27 _ rfl).1 (w 27 _ rfl).2
theorem fld_8_12 {h : sr_H} {B : Nat} (w : Txt h B) : (oF h B 8 12 ∧ oK h B 12) ∧ hF h B 12 = .ref (B + 28) := have q := (sh_O (a := B) (w 0 _ rfl).1 (w 0 _ rfl).2).2.2 12 _ rfl; ⟨⟨q.1, q.2.1⟩, er_ref q.2.2⟩
theorem arr_8_12 {h : sr_H} {B : Nat} (w : Txt h B) : lI h (B + 28) = 10 ∧ isA h (B + 28) ∧ isI h (B + 28) ∧ B + 28 < h.1.1 := sh_I (w 28 _ rfl).1 (w 28 _ rfl).2
theorem fld_8_13 {h : sr_H} {B : Nat} (w : Txt h B) : (oF h B 8 13 ∧ oK h B 13) ∧ hF h B 13 = .ref (B + 29) := have q := (sh_O (a := B) (w 0 _ rfl).1 (w 0 _ rfl).2).2.2 13 _ rfl; ⟨⟨q.1, q.2.1⟩, er_ref q.2.2⟩
theorem arr_8_13 {h : sr_H} {B : Nat} (w : Txt h B) : lI h (B + 29) = 10 ∧ isA h (B + 29) ∧ isI h (B + 29) ∧ B + 29 < h.1.1 := sh_I (w 29 _ rfl).1 (w 29 _ rfl).2
theorem fld_8_14 {h : sr_H} {B : Nat} (w : Txt h B) : (oF h B 8 14 ∧ oK h B 14) ∧ hF h B 14 = .int (fI h B 14) := have q := (sh_O (a := B) (w 0 _ rfl).1 (w 0 _ rfl).2).2.2 14 _ rfl; ⟨⟨q.1, q.2.1⟩, er_int q.2.2⟩
theorem fld_8_15 {h : sr_H} {B : Nat} (w : Txt h B) : (oF h B 8 15 ∧ oK h B 15) ∧ hF h B 15 = .ref (B + 30) := have q := (sh_O (a := B) (w 0 _ rfl).1 (w 0 _ rfl).2).2.2 15 _ rfl; ⟨⟨q.1, q.2.1⟩, er_ref q.2.2⟩
theorem arr_8_15 {h : sr_H} {B : Nat} (w : Txt h B) : lI h (B + 30) = 12 ∧ isA h (B + 30) ∧ isI h (B + 30) ∧ B + 30 < h.1.1 := sh_I (w 30 _ rfl).1 (w 30 _ rfl).2
theorem fld_8_16 {h : sr_H} {B : Nat} (w : Txt h B) : (oF h B 8 16 ∧ oK h B 16) ∧ hF h B 16 = .ref (B + 31) := have q := (sh_O (a := B) (w 0 _ rfl).1 (w 0 _ rfl).2).2.2 16 _ rfl; ⟨⟨q.1, q.2.1⟩, er_ref q.2.2⟩
theorem arr_8_16 {h : sr_H} {B : Nat} (w : Txt h B) : lI h (B + 31) = 12 ∧ isA h (B + 31) ∧ isI h (B + 31) ∧ B + 31 < h.1.1 := sh_I (w 31 _ rfl).1 (w 31 _ rfl).2
theorem fld_8_17 {h : sr_H} {B : Nat} (w : Txt h B) : (oF h B 8 17 ∧ oK h B 17) ∧ hF h B 17 = .ref (B + 32) := have q := (sh_O (a := B) (w 0 _ rfl).1 (w 0 _ rfl).2).2.2 17 _ rfl; ⟨⟨q.1, q.2.1⟩, er_ref q.2.2⟩
theorem arr_8_17 {h : sr_H} {B : Nat} (w : Txt h B) : lI h (B + 32) = 12 ∧ isA h (B + 32) ∧ isI h (B + 32) ∧ B + 32 < h.1.1 := sh_I (w 32 _ rfl).1 (w 32 _ rfl).2
theorem sub_8_start {h : sr_H} {B : Nat} (w : Txt h B) : Rm h (B + 1) := ShA.sub (n := 1) w rfl ⟨_, rfl⟩
theorem sub_8_laws {h : sr_H} {B : Nat} (w : Txt h B) : Lws h (B + 17) := ShA.sub (n := 17) w rfl ⟨_, rfl⟩
def szHst : List sr_C := [.inr (.inr (0, [.int 0, .ref 121]))] ++ ([.inl (0, 100, fun _ => 0)])
def Hst (h : sr_H) : Prop := ShA h 120 (szHst)
theorem Hst.ss {h h' : sr_H} (s : SS h h') (w : Hst h) : Hst h' := ShA.ss s w
theorem obj_0 {h : sr_H} (w : Hst h) : oC h 120 0 ∧ 120 < h.1.1 := ⟨(sh_O (a := 120) (w 0 _ rfl).1 (w 0 _ rfl).2).1, (w 0 _ rfl).1⟩
theorem fld_0_0 {h : sr_H} (w : Hst h) : (oF h 120 0 0 ∧ oK h 120 0) ∧ hF h 120 0 = .int (fI h 120 0) := have q := (sh_O (a := 120) (w 0 _ rfl).1 (w 0 _ rfl).2).2.2 0 _ rfl; ⟨⟨q.1, q.2.1⟩, er_int q.2.2⟩
theorem fld_0_1 {h : sr_H} (w : Hst h) : (oF h 120 0 1 ∧ oK h 120 1) ∧ hF h 120 1 = .ref 121 := have q := (sh_O (a := 120) (w 0 _ rfl).1 (w 0 _ rfl).2).2.2 1 _ rfl; ⟨⟨q.1, q.2.1⟩, er_ref q.2.2⟩
theorem arr_0_1 {h : sr_H} (w : Hst h) : lI h (121) = 100 ∧ isA h (121) ∧ isI h (121) ∧ 121 < h.1.1 := sh_I (w 1 _ rfl).1 (w 1 _ rfl).2
def szJdg : List sr_C := [.inr (.inr (1, [.int 0, .int 0, .int 0, .int 0, .ref 135, .ref 136, .ref 137, .ref 138, .ref 139, .ref 140]))] ++ ([.inl (0, 6, fun _ => 0), .inl (0, 6, fun _ => 0), .inl (0, 32, fun _ => 0), .inl (1, 4, fun _ => 0), .inl (0, 4, fun _ => 0), .inl (0, 4, fun _ => 0)])
def Jdg (h : sr_H) : Prop := ShA h 134 (szJdg)
theorem Jdg.ss {h h' : sr_H} (s : SS h h') (w : Jdg h) : Jdg h' := ShA.ss s w
theorem obj_1 {h : sr_H} (w : Jdg h) : oC h 134 1 ∧ 134 < h.1.1 := ⟨(sh_O (a := 134) (w 0 _ rfl).1 (w 0 _ rfl).2).1, (w 0 _ rfl).1⟩
theorem fld_1_0 {h : sr_H} (w : Jdg h) : (oF h 134 1 0 ∧ oK h 134 0) ∧ hF h 134 0 = .int (fI h 134 0) := have q := (sh_O (a := 134) (w 0 _ rfl).1 (w 0 _ rfl).2).2.2 0 _ rfl; ⟨⟨q.1, q.2.1⟩, er_int q.2.2⟩
theorem fld_1_1 {h : sr_H} (w : Jdg h) : (oF h 134 1 1 ∧ oK h 134 1) ∧ hF h 134 1 = .int (fI h 134 1) := have q := (sh_O (a := 134) (w 0 _ rfl).1 (w 0 _ rfl).2).2.2 1 _ rfl; ⟨⟨q.1, q.2.1⟩, er_int q.2.2⟩
theorem fld_1_2 {h : sr_H} (w : Jdg h) : (oF h 134 1 2 ∧ oK h 134 2) ∧ hF h 134 2 = .int (fI h 134 2) := have q := (sh_O (a := 134) (w 0 _ rfl).1 (w 0 _ rfl).2).2.2 2 _ rfl; ⟨⟨q.1, q.2.1⟩, er_int q.2.2⟩
theorem fld_1_3 {h : sr_H} (w : Jdg h) : (oF h 134 1 3 ∧ oK h 134 3) ∧ hF h 134 3 = .int (fI h 134 3) := have q := (sh_O (a := 134) (w 0 _ rfl).1 (w 0 _ rfl).2).2.2 3 _ rfl; ⟨⟨q.1, q.2.1⟩, er_int q.2.2⟩
theorem fld_1_4 {h : sr_H} (w : Jdg h) : (oF h 134 1 4 ∧ oK h 134 4) ∧ hF h 134 4 = .ref 135 := have q := (sh_O (a := 134) (w 0 _ rfl).1 (w 0 _ rfl).2).2.2 4 _ rfl; ⟨⟨q.1, q.2.1⟩, er_ref q.2.2⟩
theorem arr_1_4 {h : sr_H} (w : Jdg h) : lI h (135) = 6 ∧ isA h (135) ∧ isI h (135) ∧ 135 < h.1.1 := sh_I (w 1 _ rfl).1 (w 1 _ rfl).2
theorem fld_1_5 {h : sr_H} (w : Jdg h) : (oF h 134 1 5 ∧ oK h 134 5) ∧ hF h 134 5 = .ref 136 := have q := (sh_O (a := 134) (w 0 _ rfl).1 (w 0 _ rfl).2).2.2 5 _ rfl; ⟨⟨q.1, q.2.1⟩, er_ref q.2.2⟩
theorem arr_1_5 {h : sr_H} (w : Jdg h) : lI h (136) = 6 ∧ isA h (136) ∧ isI h (136) ∧ 136 < h.1.1 := sh_I (w 2 _ rfl).1 (w 2 _ rfl).2
theorem fld_1_6 {h : sr_H} (w : Jdg h) : (oF h 134 1 6 ∧ oK h 134 6) ∧ hF h 134 6 = .ref 137 := have q := (sh_O (a := 134) (w 0 _ rfl).1 (w 0 _ rfl).2).2.2 6 _ rfl; ⟨⟨q.1, q.2.1⟩, er_ref q.2.2⟩
theorem arr_1_6 {h : sr_H} (w : Jdg h) : lI h (137) = 32 ∧ isA h (137) ∧ isI h (137) ∧ 137 < h.1.1 := sh_I (w 3 _ rfl).1 (w 3 _ rfl).2
theorem fld_1_7 {h : sr_H} (w : Jdg h) : (oF h 134 1 7 ∧ oK h 134 7) ∧ hF h 134 7 = .ref 138 := have q := (sh_O (a := 134) (w 0 _ rfl).1 (w 0 _ rfl).2).2.2 7 _ rfl; ⟨⟨q.1, q.2.1⟩, er_ref q.2.2⟩
theorem arr_1_7 {h : sr_H} (w : Jdg h) : lZ h (138) = 4 ∧ isA h (138) ∧ 138 < h.1.1 := sh_Z (w 4 _ rfl).1 (w 4 _ rfl).2
theorem fld_1_8 {h : sr_H} (w : Jdg h) : (oF h 134 1 8 ∧ oK h 134 8) ∧ hF h 134 8 = .ref 139 := have q := (sh_O (a := 134) (w 0 _ rfl).1 (w 0 _ rfl).2).2.2 8 _ rfl; ⟨⟨q.1, q.2.1⟩, er_ref q.2.2⟩
theorem arr_1_8 {h : sr_H} (w : Jdg h) : lI h (139) = 4 ∧ isA h (139) ∧ isI h (139) ∧ 139 < h.1.1 := sh_I (w 5 _ rfl).1 (w 5 _ rfl).2
theorem fld_1_9 {h : sr_H} (w : Jdg h) : (oF h 134 1 9 ∧ oK h 134 9) ∧ hF h 134 9 = .ref 140 := have q := (sh_O (a := 134) (w 0 _ rfl).1 (w 0 _ rfl).2).2.2 9 _ rfl; ⟨⟨q.1, q.2.1⟩, er_ref q.2.2⟩
theorem arr_1_9 {h : sr_H} (w : Jdg h) : lI h (140) = 4 ∧ isA h (140) ∧ isI h (140) ∧ 140 < h.1.1 := sh_I (w 6 _ rfl).1 (w 6 _ rfl).2
def szRdr : List sr_C := [.inr (.inr (4, [.ref 3, .int 0, .ref 4, .int 0, .int 0, .int 0, .int 0, .int 0]))] ++ ([.inl (0, 700, fun _ => 0), .inl (0, 21, fun _ => 0)])
def Rdr (h : sr_H) : Prop := ShA h 2 (szRdr)
theorem Rdr.ss {h h' : sr_H} (s : SS h h') (w : Rdr h) : Rdr h' := ShA.ss s w
theorem obj_4 {h : sr_H} (w : Rdr h) : oC h 2 4 ∧ 2 < h.1.1 := ⟨(sh_O (a := 2) (w 0 _ rfl).1 (w 0 _ rfl).2).1, (w 0 _ rfl).1⟩
theorem fld_4_0 {h : sr_H} (w : Rdr h) : (oF h 2 4 0 ∧ oK h 2 0) ∧ hF h 2 0 = .ref 3 := have q := (sh_O (a := 2) (w 0 _ rfl).1 (w 0 _ rfl).2).2.2 0 _ rfl; ⟨⟨q.1, q.2.1⟩, er_ref q.2.2⟩
theorem arr_4_0 {h : sr_H} (w : Rdr h) : lI h (3) = 700 ∧ isA h (3) ∧ isI h (3) ∧ 3 < h.1.1 := sh_I (w 1 _ rfl).1 (w 1 _ rfl).2
theorem fld_4_1 {h : sr_H} (w : Rdr h) : (oF h 2 4 1 ∧ oK h 2 1) ∧ hF h 2 1 = .int (fI h 2 1) := have q := (sh_O (a := 2) (w 0 _ rfl).1 (w 0 _ rfl).2).2.2 1 _ rfl; ⟨⟨q.1, q.2.1⟩, er_int q.2.2⟩
theorem fld_4_2 {h : sr_H} (w : Rdr h) : (oF h 2 4 2 ∧ oK h 2 2) ∧ hF h 2 2 = .ref 4 := have q := (sh_O (a := 2) (w 0 _ rfl).1 (w 0 _ rfl).2).2.2 2 _ rfl; ⟨⟨q.1, q.2.1⟩, er_ref q.2.2⟩
theorem arr_4_2 {h : sr_H} (w : Rdr h) : lI h (4) = 21 ∧ isA h (4) ∧ isI h (4) ∧ 4 < h.1.1 := sh_I (w 2 _ rfl).1 (w 2 _ rfl).2
theorem fld_4_3 {h : sr_H} (w : Rdr h) : (oF h 2 4 3 ∧ oK h 2 3) ∧ hF h 2 3 = .int (fI h 2 3) := have q := (sh_O (a := 2) (w 0 _ rfl).1 (w 0 _ rfl).2).2.2 3 _ rfl; ⟨⟨q.1, q.2.1⟩, er_int q.2.2⟩
theorem fld_4_4 {h : sr_H} (w : Rdr h) : (oF h 2 4 4 ∧ oK h 2 4) ∧ hF h 2 4 = .int (fI h 2 4) := have q := (sh_O (a := 2) (w 0 _ rfl).1 (w 0 _ rfl).2).2.2 4 _ rfl; ⟨⟨q.1, q.2.1⟩, er_int q.2.2⟩
theorem fld_4_5 {h : sr_H} (w : Rdr h) : (oF h 2 4 5 ∧ oK h 2 5) ∧ hF h 2 5 = .int (fI h 2 5) := have q := (sh_O (a := 2) (w 0 _ rfl).1 (w 0 _ rfl).2).2.2 5 _ rfl; ⟨⟨q.1, q.2.1⟩, er_int q.2.2⟩
theorem fld_4_6 {h : sr_H} (w : Rdr h) : (oF h 2 4 6 ∧ oK h 2 6) ∧ hF h 2 6 = .int (fI h 2 6) := have q := (sh_O (a := 2) (w 0 _ rfl).1 (w 0 _ rfl).2).2.2 6 _ rfl; ⟨⟨q.1, q.2.1⟩, er_int q.2.2⟩
theorem fld_4_7 {h : sr_H} (w : Rdr h) : (oF h 2 4 7 ∧ oK h 2 7) ∧ hF h 2 7 = .int (fI h 2 7) := have q := (sh_O (a := 2) (w 0 _ rfl).1 (w 0 _ rfl).2).2.2 7 _ rfl; ⟨⟨q.1, q.2.1⟩, er_int q.2.2⟩
def szSgt : List sr_C := [.inr (.inr (7, [.int 0, .int 0, .ref 123, .ref 124, .ref 125, .ref 126, .ref 127, .ref 128]))] ++ ([.inl (0, 24, fun _ => 0), .inl (0, 24, fun _ => 0), .inl (0, 24, fun _ => 0), .inl (1, 24, fun _ => 0), .inl (0, 24, fun _ => 0), .inl (1, 24, fun _ => 0)])
def Sgt (h : sr_H) : Prop := ShA h 122 (szSgt)
theorem Sgt.ss {h h' : sr_H} (s : SS h h') (w : Sgt h) : Sgt h' := ShA.ss s w
theorem obj_7 {h : sr_H} (w : Sgt h) : oC h 122 7 ∧ 122 < h.1.1 := ⟨(sh_O (a := 122) (w 0 _ rfl).1 (w 0 _ rfl).2).1, (w 0 _ rfl).1⟩
theorem fld_7_0 {h : sr_H} (w : Sgt h) : (oF h 122 7 0 ∧ oK h 122 0) ∧ hF h 122 0 = .int (fI h 122 0) := have q := (sh_O (a := 122) (w 0 _ rfl).1 (w 0 _ rfl).2).2.2 0 _ rfl; ⟨⟨q.1, q.2.1⟩, er_int q.2.2⟩
theorem fld_7_1 {h : sr_H} (w : Sgt h) : (oF h 122 7 1 ∧ oK h 122 1) ∧ hF h 122 1 = .int (fI h 122 1) := have q := (sh_O (a := 122) (w 0 _ rfl).1 (w 0 _ rfl).2).2.2 1 _ rfl; ⟨⟨q.1, q.2.1⟩, er_int q.2.2⟩
theorem fld_7_2 {h : sr_H} (w : Sgt h) : (oF h 122 7 2 ∧ oK h 122 2) ∧ hF h 122 2 = .ref 123 := have q := (sh_O (a := 122) (w 0 _ rfl).1 (w 0 _ rfl).2).2.2 2 _ rfl; ⟨⟨q.1, q.2.1⟩, er_ref q.2.2⟩
theorem arr_7_2 {h : sr_H} (w : Sgt h) : lI h (123) = 24 ∧ isA h (123) ∧ isI h (123) ∧ 123 < h.1.1 := sh_I (w 1 _ rfl).1 (w 1 _ rfl).2
theorem fld_7_3 {h : sr_H} (w : Sgt h) : (oF h 122 7 3 ∧ oK h 122 3) ∧ hF h 122 3 = .ref 124 := have q := (sh_O (a := 122) (w 0 _ rfl).1 (w 0 _ rfl).2).2.2 3 _ rfl; ⟨⟨q.1, q.2.1⟩, er_ref q.2.2⟩
theorem arr_7_3 {h : sr_H} (w : Sgt h) : lI h (124) = 24 ∧ isA h (124) ∧ isI h (124) ∧ 124 < h.1.1 := sh_I (w 2 _ rfl).1 (w 2 _ rfl).2
theorem fld_7_4 {h : sr_H} (w : Sgt h) : (oF h 122 7 4 ∧ oK h 122 4) ∧ hF h 122 4 = .ref 125 := have q := (sh_O (a := 122) (w 0 _ rfl).1 (w 0 _ rfl).2).2.2 4 _ rfl; ⟨⟨q.1, q.2.1⟩, er_ref q.2.2⟩
theorem arr_7_4 {h : sr_H} (w : Sgt h) : lI h (125) = 24 ∧ isA h (125) ∧ isI h (125) ∧ 125 < h.1.1 := sh_I (w 3 _ rfl).1 (w 3 _ rfl).2
theorem fld_7_5 {h : sr_H} (w : Sgt h) : (oF h 122 7 5 ∧ oK h 122 5) ∧ hF h 122 5 = .ref 126 := have q := (sh_O (a := 122) (w 0 _ rfl).1 (w 0 _ rfl).2).2.2 5 _ rfl; ⟨⟨q.1, q.2.1⟩, er_ref q.2.2⟩
theorem arr_7_5 {h : sr_H} (w : Sgt h) : lZ h (126) = 24 ∧ isA h (126) ∧ 126 < h.1.1 := sh_Z (w 4 _ rfl).1 (w 4 _ rfl).2
theorem fld_7_6 {h : sr_H} (w : Sgt h) : (oF h 122 7 6 ∧ oK h 122 6) ∧ hF h 122 6 = .ref 127 := have q := (sh_O (a := 122) (w 0 _ rfl).1 (w 0 _ rfl).2).2.2 6 _ rfl; ⟨⟨q.1, q.2.1⟩, er_ref q.2.2⟩
theorem arr_7_6 {h : sr_H} (w : Sgt h) : lI h (127) = 24 ∧ isA h (127) ∧ isI h (127) ∧ 127 < h.1.1 := sh_I (w 5 _ rfl).1 (w 5 _ rfl).2
theorem fld_7_7 {h : sr_H} (w : Sgt h) : (oF h 122 7 7 ∧ oK h 122 7) ∧ hF h 122 7 = .ref 128 := have q := (sh_O (a := 122) (w 0 _ rfl).1 (w 0 _ rfl).2).2.2 7 _ rfl; ⟨⟨q.1, q.2.1⟩, er_ref q.2.2⟩
theorem arr_7_7 {h : sr_H} (w : Sgt h) : lZ h (128) = 24 ∧ isA h (128) ∧ 128 < h.1.1 := sh_Z (w 6 _ rfl).1 (w 6 _ rfl).2
def szWys : List sr_C := [.inr (.inr (9, [.ref 130, .ref 131, .ref 132, .ref 133]))] ++ ([.inl (0, 64, fun _ => 0), .inl (0, 64, fun _ => 0), .inl (0, 64, fun _ => 0), .inl (0, 64, fun _ => 0)])
def Wys (h : sr_H) : Prop := ShA h 129 (szWys)
theorem Wys.ss {h h' : sr_H} (s : SS h h') (w : Wys h) : Wys h' := ShA.ss s w
theorem obj_9 {h : sr_H} (w : Wys h) : oC h 129 9 ∧ 129 < h.1.1 := ⟨(sh_O (a := 129) (w 0 _ rfl).1 (w 0 _ rfl).2).1, (w 0 _ rfl).1⟩
theorem fld_9_0 {h : sr_H} (w : Wys h) : (oF h 129 9 0 ∧ oK h 129 0) ∧ hF h 129 0 = .ref 130 := have q := (sh_O (a := 129) (w 0 _ rfl).1 (w 0 _ rfl).2).2.2 0 _ rfl; ⟨⟨q.1, q.2.1⟩, er_ref q.2.2⟩
theorem arr_9_0 {h : sr_H} (w : Wys h) : lI h (130) = 64 ∧ isA h (130) ∧ isI h (130) ∧ 130 < h.1.1 := sh_I (w 1 _ rfl).1 (w 1 _ rfl).2
theorem fld_9_1 {h : sr_H} (w : Wys h) : (oF h 129 9 1 ∧ oK h 129 1) ∧ hF h 129 1 = .ref 131 := have q := (sh_O (a := 129) (w 0 _ rfl).1 (w 0 _ rfl).2).2.2 1 _ rfl; ⟨⟨q.1, q.2.1⟩, er_ref q.2.2⟩
theorem arr_9_1 {h : sr_H} (w : Wys h) : lI h (131) = 64 ∧ isA h (131) ∧ isI h (131) ∧ 131 < h.1.1 := sh_I (w 2 _ rfl).1 (w 2 _ rfl).2
theorem fld_9_2 {h : sr_H} (w : Wys h) : (oF h 129 9 2 ∧ oK h 129 2) ∧ hF h 129 2 = .ref 132 := have q := (sh_O (a := 129) (w 0 _ rfl).1 (w 0 _ rfl).2).2.2 2 _ rfl; ⟨⟨q.1, q.2.1⟩, er_ref q.2.2⟩
theorem arr_9_2 {h : sr_H} (w : Wys h) : lI h (132) = 64 ∧ isA h (132) ∧ isI h (132) ∧ 132 < h.1.1 := sh_I (w 3 _ rfl).1 (w 3 _ rfl).2
theorem fld_9_3 {h : sr_H} (w : Wys h) : (oF h 129 9 3 ∧ oK h 129 3) ∧ hF h 129 3 = .ref 133 := have q := (sh_O (a := 129) (w 0 _ rfl).1 (w 0 _ rfl).2).2.2 3 _ rfl; ⟨⟨q.1, q.2.1⟩, er_ref q.2.2⟩
theorem arr_9_3 {h : sr_H} (w : Wys h) : lI h (133) = 64 ∧ isA h (133) ∧ isI h (133) ∧ 133 < h.1.1 := sh_I (w 4 _ rfl).1 (w 4 _ rfl).2
def szMdl : List sr_C := [.inr (.inr (11, [.int 0, .ref 142, .int 0, .ref 143, .ref 144, .ref 145, .ref 146, .ref 147, .ref 148, .ref 149, .ref 150, .ref 151, .ref 152, .ref 153, .ref 154, .ref 155, .ref 156, .ref 157, .ref 158, .ref 159, .ref 160, .ref 161, .ref 162, .ref 163, .ref 164, .ref 165, .int 0, .int 0, .int 0, .int 0, .int 0, .int 0, .int 0, .int 0, .int 0, .int 0, .int 0, .int 0, .int 0, .ref 166, .ref 167, .int 0, .ref 168, .ref 169, .ref 170, .ref 171, .ref 172, .ref 173, .ref 174, .ref 175, .ref 176, .ref 177, .ref 178, .int 0, .int 0, .int 0, .int 0, .int 0, .int 0, .ref 179, .int 0, .int 0, .ref 180, .ref 181, .ref 182, .ref 183, .ref 184, .ref 185]))] ++ ([.inl (0, 700, fun _ => 0), .inl (0, 18, fun _ => 0), .inl (0, 10, fun _ => 0), .inl (0, 10, fun _ => 0), .inl (0, 10, fun _ => 0), .inl (0, 10, fun _ => 0), .inl (0, 10, fun _ => 0), .inl (0, 10, fun _ => 0), .inl (0, 12, fun _ => 0), .inl (0, 12, fun _ => 0), .inl (0, 12, fun _ => 0), .inl (0, 12, fun _ => 0), .inl (0, 12, fun _ => 0), .inl (0, 20, fun _ => 0), .inl (0, 20, fun _ => 0), .inl (0, 20, fun _ => 0), .inl (0, 20, fun _ => 0), .inl (0, 24, fun _ => 0), .inl (0, 24, fun _ => 0), .inl (0, 24, fun _ => 0), .inl (0, 6, fun _ => 0), .inl (0, 6, fun _ => 0), .inl (0, 128, fun _ => 0), .inl (0, 128, fun _ => 0), .inr (.inl (7, fun _ => 0)), .inr (.inl (64, fun _ => 0)), .inl (0, 23, fun _ => 0), .inl (0, 23, fun _ => 0), .inl (0, 23, fun _ => 0), .inl (0, 115, fun _ => 0), .inl (0, 115, fun _ => 0), .inl (0, 115, fun _ => 0), .inl (0, 115, fun _ => 0), .inl (0, 138, fun _ => 0), .inl (0, 138, fun _ => 0), .inl (0, 138, fun _ => 0), .inl (0, 138, fun _ => 0), .inl (0, 128, fun _ => 0), .inl (0, 24, fun _ => 0), .inl (0, 24, fun _ => 0), .inl (0, 24, fun _ => 0), .inl (1, 24, fun _ => 0), .inl (0, 24, fun _ => 0), .inl (1, 24, fun _ => 0)])
def Mdl (h : sr_H) : Prop := ShA h 141 (szMdl)
theorem Mdl.ss {h h' : sr_H} (s : SS h h') (w : Mdl h) : Mdl h' := ShA.ss s w
theorem obj_11 {h : sr_H} (w : Mdl h) : oC h 141 11 ∧ 141 < h.1.1 := ⟨(sh_O (a := 141) (w 0 _ rfl).1 (w 0 _ rfl).2).1, (w 0 _ rfl).1⟩
theorem fld_11_0 {h : sr_H} (w : Mdl h) : (oF h 141 11 0 ∧ oK h 141 0) ∧ hF h 141 0 = .int (fI h 141 0) := have q := (sh_O (a := 141) (w 0 _ rfl).1 (w 0 _ rfl).2).2.2 0 _ rfl; ⟨⟨q.1, q.2.1⟩, er_int q.2.2⟩
theorem fld_11_1 {h : sr_H} (w : Mdl h) : (oF h 141 11 1 ∧ oK h 141 1) ∧ hF h 141 1 = .ref 142 := have q := (sh_O (a := 141) (w 0 _ rfl).1 (w 0 _ rfl).2).2.2 1 _ rfl; ⟨⟨q.1, q.2.1⟩, er_ref q.2.2⟩
theorem arr_11_1 {h : sr_H} (w : Mdl h) : lI h (142) = 700 ∧ isA h (142) ∧ isI h (142) ∧ 142 < h.1.1 := sh_I (w 1 _ rfl).1 (w 1 _ rfl).2
theorem fld_11_2 {h : sr_H} (w : Mdl h) : (oF h 141 11 2 ∧ oK h 141 2) ∧ hF h 141 2 = .int (fI h 141 2) := have q := (sh_O (a := 141) (w 0 _ rfl).1 (w 0 _ rfl).2).2.2 2 _ rfl; ⟨⟨q.1, q.2.1⟩, er_int q.2.2⟩
theorem fld_11_3 {h : sr_H} (w : Mdl h) : (oF h 141 11 3 ∧ oK h 141 3) ∧ hF h 141 3 = .ref 143 := have q := (sh_O (a := 141) (w 0 _ rfl).1 (w 0 _ rfl).2).2.2 3 _ rfl; ⟨⟨q.1, q.2.1⟩, er_ref q.2.2⟩
theorem arr_11_3 {h : sr_H} (w : Mdl h) : lI h (143) = 18 ∧ isA h (143) ∧ isI h (143) ∧ 143 < h.1.1 := sh_I (w 2 _ rfl).1 (w 2 _ rfl).2
theorem fld_11_4 {h : sr_H} (w : Mdl h) : (oF h 141 11 4 ∧ oK h 141 4) ∧ hF h 141 4 = .ref 144 := have q := (sh_O (a := 141) (w 0 _ rfl).1 (w 0 _ rfl).2).2.2 4 _ rfl; ⟨⟨q.1, q.2.1⟩, er_ref q.2.2⟩
theorem arr_11_4 {h : sr_H} (w : Mdl h) : lI h (144) = 10 ∧ isA h (144) ∧ isI h (144) ∧ 144 < h.1.1 := sh_I (w 3 _ rfl).1 (w 3 _ rfl).2
theorem fld_11_5 {h : sr_H} (w : Mdl h) : (oF h 141 11 5 ∧ oK h 141 5) ∧ hF h 141 5 = .ref 145 := have q := (sh_O (a := 141) (w 0 _ rfl).1 (w 0 _ rfl).2).2.2 5 _ rfl; ⟨⟨q.1, q.2.1⟩, er_ref q.2.2⟩
theorem arr_11_5 {h : sr_H} (w : Mdl h) : lI h (145) = 10 ∧ isA h (145) ∧ isI h (145) ∧ 145 < h.1.1 := sh_I (w 4 _ rfl).1 (w 4 _ rfl).2
theorem fld_11_6 {h : sr_H} (w : Mdl h) : (oF h 141 11 6 ∧ oK h 141 6) ∧ hF h 141 6 = .ref 146 := have q := (sh_O (a := 141) (w 0 _ rfl).1 (w 0 _ rfl).2).2.2 6 _ rfl; ⟨⟨q.1, q.2.1⟩, er_ref q.2.2⟩
theorem arr_11_6 {h : sr_H} (w : Mdl h) : lI h (146) = 10 ∧ isA h (146) ∧ isI h (146) ∧ 146 < h.1.1 := sh_I (w 5 _ rfl).1 (w 5 _ rfl).2
theorem fld_11_7 {h : sr_H} (w : Mdl h) : (oF h 141 11 7 ∧ oK h 141 7) ∧ hF h 141 7 = .ref 147 := have q := (sh_O (a := 141) (w 0 _ rfl).1 (w 0 _ rfl).2).2.2 7 _ rfl; ⟨⟨q.1, q.2.1⟩, er_ref q.2.2⟩
theorem arr_11_7 {h : sr_H} (w : Mdl h) : lI h (147) = 10 ∧ isA h (147) ∧ isI h (147) ∧ 147 < h.1.1 := sh_I (w 6 _ rfl).1 (w 6 _ rfl).2
theorem fld_11_8 {h : sr_H} (w : Mdl h) : (oF h 141 11 8 ∧ oK h 141 8) ∧ hF h 141 8 = .ref 148 := have q := (sh_O (a := 141) (w 0 _ rfl).1 (w 0 _ rfl).2).2.2 8 _ rfl; ⟨⟨q.1, q.2.1⟩, er_ref q.2.2⟩
theorem arr_11_8 {h : sr_H} (w : Mdl h) : lI h (148) = 10 ∧ isA h (148) ∧ isI h (148) ∧ 148 < h.1.1 := sh_I (w 7 _ rfl).1 (w 7 _ rfl).2
theorem fld_11_9 {h : sr_H} (w : Mdl h) : (oF h 141 11 9 ∧ oK h 141 9) ∧ hF h 141 9 = .ref 149 := have q := (sh_O (a := 141) (w 0 _ rfl).1 (w 0 _ rfl).2).2.2 9 _ rfl; ⟨⟨q.1, q.2.1⟩, er_ref q.2.2⟩
theorem arr_11_9 {h : sr_H} (w : Mdl h) : lI h (149) = 10 ∧ isA h (149) ∧ isI h (149) ∧ 149 < h.1.1 := sh_I (w 8 _ rfl).1 (w 8 _ rfl).2
theorem fld_11_10 {h : sr_H} (w : Mdl h) : (oF h 141 11 10 ∧ oK h 141 10) ∧ hF h 141 10 = .ref 150 := have q := (sh_O (a := 141) (w 0 _ rfl).1 (w 0 _ rfl).2).2.2 10 _ rfl; ⟨⟨q.1, q.2.1⟩, er_ref q.2.2⟩
theorem arr_11_10 {h : sr_H} (w : Mdl h) : lI h (150) = 12 ∧ isA h (150) ∧ isI h (150) ∧ 150 < h.1.1 := sh_I (w 9 _ rfl).1 (w 9 _ rfl).2
theorem fld_11_11 {h : sr_H} (w : Mdl h) : (oF h 141 11 11 ∧ oK h 141 11) ∧ hF h 141 11 = .ref 151 := have q := (sh_O (a := 141) (w 0 _ rfl).1 (w 0 _ rfl).2).2.2 11 _ rfl; ⟨⟨q.1, q.2.1⟩, er_ref q.2.2⟩
theorem arr_11_11 {h : sr_H} (w : Mdl h) : lI h (151) = 12 ∧ isA h (151) ∧ isI h (151) ∧ 151 < h.1.1 := sh_I (w 10 _ rfl).1 (w 10 _ rfl).2
theorem fld_11_12 {h : sr_H} (w : Mdl h) : (oF h 141 11 12 ∧ oK h 141 12) ∧ hF h 141 12 = .ref 152 := have q := (sh_O (a := 141) (w 0 _ rfl).1 (w 0 _ rfl).2).2.2 12 _ rfl; ⟨⟨q.1, q.2.1⟩, er_ref q.2.2⟩
theorem arr_11_12 {h : sr_H} (w : Mdl h) : lI h (152) = 12 ∧ isA h (152) ∧ isI h (152) ∧ 152 < h.1.1 := sh_I (w 11 _ rfl).1 (w 11 _ rfl).2
theorem fld_11_13 {h : sr_H} (w : Mdl h) : (oF h 141 11 13 ∧ oK h 141 13) ∧ hF h 141 13 = .ref 153 := have q := (sh_O (a := 141) (w 0 _ rfl).1 (w 0 _ rfl).2).2.2 13 _ rfl; ⟨⟨q.1, q.2.1⟩, er_ref q.2.2⟩
theorem arr_11_13 {h : sr_H} (w : Mdl h) : lI h (153) = 12 ∧ isA h (153) ∧ isI h (153) ∧ 153 < h.1.1 := sh_I (w 12 _ rfl).1 (w 12 _ rfl).2
theorem fld_11_14 {h : sr_H} (w : Mdl h) : (oF h 141 11 14 ∧ oK h 141 14) ∧ hF h 141 14 = .ref 154 := have q := (sh_O (a := 141) (w 0 _ rfl).1 (w 0 _ rfl).2).2.2 14 _ rfl; ⟨⟨q.1, q.2.1⟩, er_ref q.2.2⟩
theorem arr_11_14 {h : sr_H} (w : Mdl h) : lI h (154) = 12 ∧ isA h (154) ∧ isI h (154) ∧ 154 < h.1.1 := sh_I (w 13 _ rfl).1 (w 13 _ rfl).2
theorem fld_11_15 {h : sr_H} (w : Mdl h) : (oF h 141 11 15 ∧ oK h 141 15) ∧ hF h 141 15 = .ref 155 := have q := (sh_O (a := 141) (w 0 _ rfl).1 (w 0 _ rfl).2).2.2 15 _ rfl; ⟨⟨q.1, q.2.1⟩, er_ref q.2.2⟩
theorem arr_11_15 {h : sr_H} (w : Mdl h) : lI h (155) = 20 ∧ isA h (155) ∧ isI h (155) ∧ 155 < h.1.1 := sh_I (w 14 _ rfl).1 (w 14 _ rfl).2
theorem fld_11_16 {h : sr_H} (w : Mdl h) : (oF h 141 11 16 ∧ oK h 141 16) ∧ hF h 141 16 = .ref 156 := have q := (sh_O (a := 141) (w 0 _ rfl).1 (w 0 _ rfl).2).2.2 16 _ rfl; ⟨⟨q.1, q.2.1⟩, er_ref q.2.2⟩
theorem arr_11_16 {h : sr_H} (w : Mdl h) : lI h (156) = 20 ∧ isA h (156) ∧ isI h (156) ∧ 156 < h.1.1 := sh_I (w 15 _ rfl).1 (w 15 _ rfl).2
theorem fld_11_17 {h : sr_H} (w : Mdl h) : (oF h 141 11 17 ∧ oK h 141 17) ∧ hF h 141 17 = .ref 157 := have q := (sh_O (a := 141) (w 0 _ rfl).1 (w 0 _ rfl).2).2.2 17 _ rfl; ⟨⟨q.1, q.2.1⟩, er_ref q.2.2⟩
theorem arr_11_17 {h : sr_H} (w : Mdl h) : lI h (157) = 20 ∧ isA h (157) ∧ isI h (157) ∧ 157 < h.1.1 := sh_I (w 16 _ rfl).1 (w 16 _ rfl).2
theorem fld_11_18 {h : sr_H} (w : Mdl h) : (oF h 141 11 18 ∧ oK h 141 18) ∧ hF h 141 18 = .ref 158 := have q := (sh_O (a := 141) (w 0 _ rfl).1 (w 0 _ rfl).2).2.2 18 _ rfl; ⟨⟨q.1, q.2.1⟩, er_ref q.2.2⟩
theorem arr_11_18 {h : sr_H} (w : Mdl h) : lI h (158) = 20 ∧ isA h (158) ∧ isI h (158) ∧ 158 < h.1.1 := sh_I (w 17 _ rfl).1 (w 17 _ rfl).2
theorem fld_11_19 {h : sr_H} (w : Mdl h) : (oF h 141 11 19 ∧ oK h 141 19) ∧ hF h 141 19 = .ref 159 := have q := (sh_O (a := 141) (w 0 _ rfl).1 (w 0 _ rfl).2).2.2 19 _ rfl; ⟨⟨q.1, q.2.1⟩, er_ref q.2.2⟩
theorem arr_11_19 {h : sr_H} (w : Mdl h) : lI h (159) = 24 ∧ isA h (159) ∧ isI h (159) ∧ 159 < h.1.1 := sh_I (w 18 _ rfl).1 (w 18 _ rfl).2
theorem fld_11_20 {h : sr_H} (w : Mdl h) : (oF h 141 11 20 ∧ oK h 141 20) ∧ hF h 141 20 = .ref 160 := have q := (sh_O (a := 141) (w 0 _ rfl).1 (w 0 _ rfl).2).2.2 20 _ rfl; ⟨⟨q.1, q.2.1⟩, er_ref q.2.2⟩
theorem arr_11_20 {h : sr_H} (w : Mdl h) : lI h (160) = 24 ∧ isA h (160) ∧ isI h (160) ∧ 160 < h.1.1 := sh_I (w 19 _ rfl).1 (w 19 _ rfl).2
theorem fld_11_21 {h : sr_H} (w : Mdl h) : (oF h 141 11 21 ∧ oK h 141 21) ∧ hF h 141 21 = .ref 161 := have q := (sh_O (a := 141) (w 0 _ rfl).1 (w 0 _ rfl).2).2.2 21 _ rfl; ⟨⟨q.1, q.2.1⟩, er_ref q.2.2⟩
theorem arr_11_21 {h : sr_H} (w : Mdl h) : lI h (161) = 24 ∧ isA h (161) ∧ isI h (161) ∧ 161 < h.1.1 := sh_I (w 20 _ rfl).1 (w 20 _ rfl).2
theorem fld_11_22 {h : sr_H} (w : Mdl h) : (oF h 141 11 22 ∧ oK h 141 22) ∧ hF h 141 22 = .ref 162 := have q := (sh_O (a := 141) (w 0 _ rfl).1 (w 0 _ rfl).2).2.2 22 _ rfl; ⟨⟨q.1, q.2.1⟩, er_ref q.2.2⟩
theorem arr_11_22 {h : sr_H} (w : Mdl h) : lI h (162) = 6 ∧ isA h (162) ∧ isI h (162) ∧ 162 < h.1.1 := sh_I (w 21 _ rfl).1 (w 21 _ rfl).2
theorem fld_11_23 {h : sr_H} (w : Mdl h) : (oF h 141 11 23 ∧ oK h 141 23) ∧ hF h 141 23 = .ref 163 := have q := (sh_O (a := 141) (w 0 _ rfl).1 (w 0 _ rfl).2).2.2 23 _ rfl; ⟨⟨q.1, q.2.1⟩, er_ref q.2.2⟩
theorem arr_11_23 {h : sr_H} (w : Mdl h) : lI h (163) = 6 ∧ isA h (163) ∧ isI h (163) ∧ 163 < h.1.1 := sh_I (w 22 _ rfl).1 (w 22 _ rfl).2
theorem fld_11_24 {h : sr_H} (w : Mdl h) : (oF h 141 11 24 ∧ oK h 141 24) ∧ hF h 141 24 = .ref 164 := have q := (sh_O (a := 141) (w 0 _ rfl).1 (w 0 _ rfl).2).2.2 24 _ rfl; ⟨⟨q.1, q.2.1⟩, er_ref q.2.2⟩
theorem arr_11_24 {h : sr_H} (w : Mdl h) : lI h (164) = 128 ∧ isA h (164) ∧ isI h (164) ∧ 164 < h.1.1 := sh_I (w 23 _ rfl).1 (w 23 _ rfl).2
theorem fld_11_25 {h : sr_H} (w : Mdl h) : (oF h 141 11 25 ∧ oK h 141 25) ∧ hF h 141 25 = .ref 165 := have q := (sh_O (a := 141) (w 0 _ rfl).1 (w 0 _ rfl).2).2.2 25 _ rfl; ⟨⟨q.1, q.2.1⟩, er_ref q.2.2⟩
theorem arr_11_25 {h : sr_H} (w : Mdl h) : lI h (165) = 128 ∧ isA h (165) ∧ isI h (165) ∧ 165 < h.1.1 := sh_I (w 24 _ rfl).1 (w 24 _ rfl).2
theorem fld_11_26 {h : sr_H} (w : Mdl h) : (oF h 141 11 26 ∧ oK h 141 26) ∧ hF h 141 26 = .int (fI h 141 26) := have q := (sh_O (a := 141) (w 0 _ rfl).1 (w 0 _ rfl).2).2.2 26 _ rfl; ⟨⟨q.1, q.2.1⟩, er_int q.2.2⟩
theorem fld_11_27 {h : sr_H} (w : Mdl h) : (oF h 141 11 27 ∧ oK h 141 27) ∧ hF h 141 27 = .int (fI h 141 27) := have q := (sh_O (a := 141) (w 0 _ rfl).1 (w 0 _ rfl).2).2.2 27 _ rfl; ⟨⟨q.1, q.2.1⟩, er_int q.2.2⟩
theorem fld_11_28 {h : sr_H} (w : Mdl h) : (oF h 141 11 28 ∧ oK h 141 28) ∧ hF h 141 28 = .int (fI h 141 28) := have q := (sh_O (a := 141) (w 0 _ rfl).1 (w 0 _ rfl).2).2.2 28 _ rfl; ⟨⟨q.1, q.2.1⟩, er_int q.2.2⟩
theorem fld_11_29 {h : sr_H} (w : Mdl h) : (oF h 141 11 29 ∧ oK h 141 29) ∧ hF h 141 29 = .int (fI h 141 29) := have q := (sh_O (a := 141) (w 0 _ rfl).1 (w 0 _ rfl).2).2.2 29 _ rfl; ⟨⟨q.1, q.2.1⟩, er_int q.2.2⟩
theorem fld_11_30 {h : sr_H} (w : Mdl h) : (oF h 141 11 30 ∧ oK h 141 30) ∧ hF h 141 30 = .int (fI h 141 30) := have q := (sh_O (a := 141) (w 0 _ rfl).1 (w 0 _ rfl).2).2.2 30 _ rfl; ⟨⟨q.1, q.2.1⟩, er_int q.2.2⟩
theorem fld_11_31 {h : sr_H} (w : Mdl h) : (oF h 141 11 31 ∧ oK h 141 31) ∧ hF h 141 31 = .int (fI h 141 31) := have q := (sh_O (a := 141) (w 0 _ rfl).1 (w 0 _ rfl).2).2.2 31 _ rfl; ⟨⟨q.1, q.2.1⟩, er_int q.2.2⟩
theorem fld_11_32 {h : sr_H} (w : Mdl h) : (oF h 141 11 32 ∧ oK h 141 32) ∧ hF h 141 32 = .int (fI h 141 32) := have q := (sh_O (a := 141) (w 0 _ rfl).1 (w 0 _ rfl).2).2.2 32 _ rfl; ⟨⟨q.1, q.2.1⟩, er_int q.2.2⟩
theorem fld_11_33 {h : sr_H} (w : Mdl h) : (oF h 141 11 33 ∧ oK h 141 33) ∧ hF h 141 33 = .int (fI h 141 33) := have q := (sh_O (a := 141) (w 0 _ rfl).1 (w 0 _ rfl).2).2.2 33 _ rfl; ⟨⟨q.1, q.2.1⟩, er_int q.2.2⟩
theorem fld_11_34 {h : sr_H} (w : Mdl h) : (oF h 141 11 34 ∧ oK h 141 34) ∧ hF h 141 34 = .int (fI h 141 34) := have q := (sh_O (a := 141) (w 0 _ rfl).1 (w 0 _ rfl).2).2.2 34 _ rfl; ⟨⟨q.1, q.2.1⟩, er_int q.2.2⟩
theorem fld_11_35 {h : sr_H} (w : Mdl h) : (oF h 141 11 35 ∧ oK h 141 35) ∧ hF h 141 35 = .int (fI h 141 35) := have q := (sh_O (a := 141) (w 0 _ rfl).1 (w 0 _ rfl).2).2.2 35 _ rfl; ⟨⟨q.1, q.2.1⟩, er_int q.2.2⟩
theorem fld_11_36 {h : sr_H} (w : Mdl h) : (oF h 141 11 36 ∧ oK h 141 36) ∧ hF h 141 36 = .int (fI h 141 36) := have q := (sh_O (a := 141) (w 0 _ rfl).1 (w 0 _ rfl).2).2.2 36 _ rfl; ⟨⟨q.1, q.2.1⟩, er_int q.2.2⟩
theorem fld_11_37 {h : sr_H} (w : Mdl h) : (oF h 141 11 37 ∧ oK h 141 37) ∧ hF h 141 37 = .int (fI h 141 37) := have q := (sh_O (a := 141) (w 0 _ rfl).1 (w 0 _ rfl).2).2.2 37 _ rfl; ⟨⟨q.1, q.2.1⟩, er_int q.2.2⟩
theorem fld_11_38 {h : sr_H} (w : Mdl h) : (oF h 141 11 38 ∧ oK h 141 38) ∧ hF h 141 38 = .int (fI h 141 38) := have q := (sh_O (a := 141) (w 0 _ rfl).1 (w 0 _ rfl).2).2.2 38 _ rfl; ⟨⟨q.1, q.2.1⟩, er_int q.2.2⟩
theorem fld_11_39 {h : sr_H} (w : Mdl h) : (oF h 141 11 39 ∧ oK h 141 39) ∧ hF h 141 39 = .ref 166 := have q := (sh_O (a := 141) (w 0 _ rfl).1 (w 0 _ rfl).2).2.2 39 _ rfl; ⟨⟨q.1, q.2.1⟩, er_ref q.2.2⟩
theorem arr_11_39 {h : sr_H} (w : Mdl h) : lJ h (166) = 7 ∧ isJ h (166) ∧ 166 < h.1.1 := sh_J (w 25 _ rfl).1 (w 25 _ rfl).2
theorem fld_11_40 {h : sr_H} (w : Mdl h) : (oF h 141 11 40 ∧ oK h 141 40) ∧ hF h 141 40 = .ref 167 := have q := (sh_O (a := 141) (w 0 _ rfl).1 (w 0 _ rfl).2).2.2 40 _ rfl; ⟨⟨q.1, q.2.1⟩, er_ref q.2.2⟩
theorem arr_11_40 {h : sr_H} (w : Mdl h) : lJ h (167) = 64 ∧ isJ h (167) ∧ 167 < h.1.1 := sh_J (w 26 _ rfl).1 (w 26 _ rfl).2
theorem fld_11_41 {h : sr_H} (w : Mdl h) : (oF h 141 11 41 ∧ oK h 141 41) ∧ hF h 141 41 = .int (fI h 141 41) := have q := (sh_O (a := 141) (w 0 _ rfl).1 (w 0 _ rfl).2).2.2 41 _ rfl; ⟨⟨q.1, q.2.1⟩, er_int q.2.2⟩
theorem fld_11_42 {h : sr_H} (w : Mdl h) : (oF h 141 11 42 ∧ oK h 141 42) ∧ hF h 141 42 = .ref 168 := have q := (sh_O (a := 141) (w 0 _ rfl).1 (w 0 _ rfl).2).2.2 42 _ rfl; ⟨⟨q.1, q.2.1⟩, er_ref q.2.2⟩
theorem arr_11_42 {h : sr_H} (w : Mdl h) : lI h (168) = 23 ∧ isA h (168) ∧ isI h (168) ∧ 168 < h.1.1 := sh_I (w 27 _ rfl).1 (w 27 _ rfl).2
theorem fld_11_43 {h : sr_H} (w : Mdl h) : (oF h 141 11 43 ∧ oK h 141 43) ∧ hF h 141 43 = .ref 169 := have q := (sh_O (a := 141) (w 0 _ rfl).1 (w 0 _ rfl).2).2.2 43 _ rfl; ⟨⟨q.1, q.2.1⟩, er_ref q.2.2⟩
theorem arr_11_43 {h : sr_H} (w : Mdl h) : lI h (169) = 23 ∧ isA h (169) ∧ isI h (169) ∧ 169 < h.1.1 := sh_I (w 28 _ rfl).1 (w 28 _ rfl).2
theorem fld_11_44 {h : sr_H} (w : Mdl h) : (oF h 141 11 44 ∧ oK h 141 44) ∧ hF h 141 44 = .ref 170 := have q := (sh_O (a := 141) (w 0 _ rfl).1 (w 0 _ rfl).2).2.2 44 _ rfl; ⟨⟨q.1, q.2.1⟩, er_ref q.2.2⟩
theorem arr_11_44 {h : sr_H} (w : Mdl h) : lI h (170) = 23 ∧ isA h (170) ∧ isI h (170) ∧ 170 < h.1.1 := sh_I (w 29 _ rfl).1 (w 29 _ rfl).2
theorem fld_11_45 {h : sr_H} (w : Mdl h) : (oF h 141 11 45 ∧ oK h 141 45) ∧ hF h 141 45 = .ref 171 := have q := (sh_O (a := 141) (w 0 _ rfl).1 (w 0 _ rfl).2).2.2 45 _ rfl; ⟨⟨q.1, q.2.1⟩, er_ref q.2.2⟩
theorem arr_11_45 {h : sr_H} (w : Mdl h) : lI h (171) = 115 ∧ isA h (171) ∧ isI h (171) ∧ 171 < h.1.1 := sh_I (w 30 _ rfl).1 (w 30 _ rfl).2
theorem fld_11_46 {h : sr_H} (w : Mdl h) : (oF h 141 11 46 ∧ oK h 141 46) ∧ hF h 141 46 = .ref 172 := have q := (sh_O (a := 141) (w 0 _ rfl).1 (w 0 _ rfl).2).2.2 46 _ rfl; ⟨⟨q.1, q.2.1⟩, er_ref q.2.2⟩
theorem arr_11_46 {h : sr_H} (w : Mdl h) : lI h (172) = 115 ∧ isA h (172) ∧ isI h (172) ∧ 172 < h.1.1 := sh_I (w 31 _ rfl).1 (w 31 _ rfl).2
theorem fld_11_47 {h : sr_H} (w : Mdl h) : (oF h 141 11 47 ∧ oK h 141 47) ∧ hF h 141 47 = .ref 173 := have q := (sh_O (a := 141) (w 0 _ rfl).1 (w 0 _ rfl).2).2.2 47 _ rfl; ⟨⟨q.1, q.2.1⟩, er_ref q.2.2⟩
theorem arr_11_47 {h : sr_H} (w : Mdl h) : lI h (173) = 115 ∧ isA h (173) ∧ isI h (173) ∧ 173 < h.1.1 := sh_I (w 32 _ rfl).1 (w 32 _ rfl).2
theorem fld_11_48 {h : sr_H} (w : Mdl h) : (oF h 141 11 48 ∧ oK h 141 48) ∧ hF h 141 48 = .ref 174 := have q := (sh_O (a := 141) (w 0 _ rfl).1 (w 0 _ rfl).2).2.2 48 _ rfl; ⟨⟨q.1, q.2.1⟩, er_ref q.2.2⟩
theorem arr_11_48 {h : sr_H} (w : Mdl h) : lI h (174) = 115 ∧ isA h (174) ∧ isI h (174) ∧ 174 < h.1.1 := sh_I (w 33 _ rfl).1 (w 33 _ rfl).2
theorem fld_11_49 {h : sr_H} (w : Mdl h) : (oF h 141 11 49 ∧ oK h 141 49) ∧ hF h 141 49 = .ref 175 := have q := (sh_O (a := 141) (w 0 _ rfl).1 (w 0 _ rfl).2).2.2 49 _ rfl; ⟨⟨q.1, q.2.1⟩, er_ref q.2.2⟩
theorem arr_11_49 {h : sr_H} (w : Mdl h) : lI h (175) = 138 ∧ isA h (175) ∧ isI h (175) ∧ 175 < h.1.1 := sh_I (w 34 _ rfl).1 (w 34 _ rfl).2
theorem fld_11_50 {h : sr_H} (w : Mdl h) : (oF h 141 11 50 ∧ oK h 141 50) ∧ hF h 141 50 = .ref 176 := have q := (sh_O (a := 141) (w 0 _ rfl).1 (w 0 _ rfl).2).2.2 50 _ rfl; ⟨⟨q.1, q.2.1⟩, er_ref q.2.2⟩
theorem arr_11_50 {h : sr_H} (w : Mdl h) : lI h (176) = 138 ∧ isA h (176) ∧ isI h (176) ∧ 176 < h.1.1 := sh_I (w 35 _ rfl).1 (w 35 _ rfl).2
theorem fld_11_51 {h : sr_H} (w : Mdl h) : (oF h 141 11 51 ∧ oK h 141 51) ∧ hF h 141 51 = .ref 177 := have q := (sh_O (a := 141) (w 0 _ rfl).1 (w 0 _ rfl).2).2.2 51 _ rfl; ⟨⟨q.1, q.2.1⟩, er_ref q.2.2⟩
theorem arr_11_51 {h : sr_H} (w : Mdl h) : lI h (177) = 138 ∧ isA h (177) ∧ isI h (177) ∧ 177 < h.1.1 := sh_I (w 36 _ rfl).1 (w 36 _ rfl).2
theorem fld_11_52 {h : sr_H} (w : Mdl h) : (oF h 141 11 52 ∧ oK h 141 52) ∧ hF h 141 52 = .ref 178 := have q := (sh_O (a := 141) (w 0 _ rfl).1 (w 0 _ rfl).2).2.2 52 _ rfl; ⟨⟨q.1, q.2.1⟩, er_ref q.2.2⟩
theorem arr_11_52 {h : sr_H} (w : Mdl h) : lI h (178) = 138 ∧ isA h (178) ∧ isI h (178) ∧ 178 < h.1.1 := sh_I (w 37 _ rfl).1 (w 37 _ rfl).2
theorem fld_11_53 {h : sr_H} (w : Mdl h) : (oF h 141 11 53 ∧ oK h 141 53) ∧ hF h 141 53 = .int (fI h 141 53) := have q := (sh_O (a := 141) (w 0 _ rfl).1 (w 0 _ rfl).2).2.2 53 _ rfl; ⟨⟨q.1, q.2.1⟩, er_int q.2.2⟩
theorem fld_11_54 {h : sr_H} (w : Mdl h) : (oF h 141 11 54 ∧ oK h 141 54) ∧ hF h 141 54 = .int (fI h 141 54) := have q := (sh_O (a := 141) (w 0 _ rfl).1 (w 0 _ rfl).2).2.2 54 _ rfl; ⟨⟨q.1, q.2.1⟩, er_int q.2.2⟩
theorem fld_11_55 {h : sr_H} (w : Mdl h) : (oF h 141 11 55 ∧ oK h 141 55) ∧ hF h 141 55 = .int (fI h 141 55) := have q := (sh_O (a := 141) (w 0 _ rfl).1 (w 0 _ rfl).2).2.2 55 _ rfl; ⟨⟨q.1, q.2.1⟩, er_int q.2.2⟩
theorem fld_11_56 {h : sr_H} (w : Mdl h) : (oF h 141 11 56 ∧ oK h 141 56) ∧ hF h 141 56 = .int (fI h 141 56) := have q := (sh_O (a := 141) (w 0 _ rfl).1 (w 0 _ rfl).2).2.2 56 _ rfl; ⟨⟨q.1, q.2.1⟩, er_int q.2.2⟩
theorem fld_11_57 {h : sr_H} (w : Mdl h) : (oF h 141 11 57 ∧ oK h 141 57) ∧ hF h 141 57 = .int (fI h 141 57) := have q := (sh_O (a := 141) (w 0 _ rfl).1 (w 0 _ rfl).2).2.2 57 _ rfl; ⟨⟨q.1, q.2.1⟩, er_int q.2.2⟩
theorem fld_11_58 {h : sr_H} (w : Mdl h) : (oF h 141 11 58 ∧ oK h 141 58) ∧ hF h 141 58 = .int (fI h 141 58) := have q := (sh_O (a := 141) (w 0 _ rfl).1 (w 0 _ rfl).2).2.2 58 _ rfl; ⟨⟨q.1, q.2.1⟩, er_int q.2.2⟩
theorem fld_11_59 {h : sr_H} (w : Mdl h) : (oF h 141 11 59 ∧ oK h 141 59) ∧ hF h 141 59 = .ref 179 := have q := (sh_O (a := 141) (w 0 _ rfl).1 (w 0 _ rfl).2).2.2 59 _ rfl; ⟨⟨q.1, q.2.1⟩, er_ref q.2.2⟩
theorem arr_11_59 {h : sr_H} (w : Mdl h) : lI h (179) = 128 ∧ isA h (179) ∧ isI h (179) ∧ 179 < h.1.1 := sh_I (w 38 _ rfl).1 (w 38 _ rfl).2
theorem fld_11_60 {h : sr_H} (w : Mdl h) : (oF h 141 11 60 ∧ oK h 141 60) ∧ hF h 141 60 = .int (fI h 141 60) := have q := (sh_O (a := 141) (w 0 _ rfl).1 (w 0 _ rfl).2).2.2 60 _ rfl; ⟨⟨q.1, q.2.1⟩, er_int q.2.2⟩
theorem fld_11_61 {h : sr_H} (w : Mdl h) : (oF h 141 11 61 ∧ oK h 141 61) ∧ hF h 141 61 = .int (fI h 141 61) := have q := (sh_O (a := 141) (w 0 _ rfl).1 (w 0 _ rfl).2).2.2 61 _ rfl; ⟨⟨q.1, q.2.1⟩, er_int q.2.2⟩
theorem fld_11_62 {h : sr_H} (w : Mdl h) : (oF h 141 11 62 ∧ oK h 141 62) ∧ hF h 141 62 = .ref 180 := have q := (sh_O (a := 141) (w 0 _ rfl).1 (w 0 _ rfl).2).2.2 62 _ rfl; ⟨⟨q.1, q.2.1⟩, er_ref q.2.2⟩
theorem arr_11_62 {h : sr_H} (w : Mdl h) : lI h (180) = 24 ∧ isA h (180) ∧ isI h (180) ∧ 180 < h.1.1 := sh_I (w 39 _ rfl).1 (w 39 _ rfl).2
theorem fld_11_63 {h : sr_H} (w : Mdl h) : (oF h 141 11 63 ∧ oK h 141 63) ∧ hF h 141 63 = .ref 181 := have q := (sh_O (a := 141) (w 0 _ rfl).1 (w 0 _ rfl).2).2.2 63 _ rfl; ⟨⟨q.1, q.2.1⟩, er_ref q.2.2⟩
theorem arr_11_63 {h : sr_H} (w : Mdl h) : lI h (181) = 24 ∧ isA h (181) ∧ isI h (181) ∧ 181 < h.1.1 := sh_I (w 40 _ rfl).1 (w 40 _ rfl).2
theorem fld_11_64 {h : sr_H} (w : Mdl h) : (oF h 141 11 64 ∧ oK h 141 64) ∧ hF h 141 64 = .ref 182 := have q := (sh_O (a := 141) (w 0 _ rfl).1 (w 0 _ rfl).2).2.2 64 _ rfl; ⟨⟨q.1, q.2.1⟩, er_ref q.2.2⟩
theorem arr_11_64 {h : sr_H} (w : Mdl h) : lI h (182) = 24 ∧ isA h (182) ∧ isI h (182) ∧ 182 < h.1.1 := sh_I (w 41 _ rfl).1 (w 41 _ rfl).2
theorem fld_11_65 {h : sr_H} (w : Mdl h) : (oF h 141 11 65 ∧ oK h 141 65) ∧ hF h 141 65 = .ref 183 := have q := (sh_O (a := 141) (w 0 _ rfl).1 (w 0 _ rfl).2).2.2 65 _ rfl; ⟨⟨q.1, q.2.1⟩, er_ref q.2.2⟩
theorem arr_11_65 {h : sr_H} (w : Mdl h) : lZ h (183) = 24 ∧ isA h (183) ∧ 183 < h.1.1 := sh_Z (w 42 _ rfl).1 (w 42 _ rfl).2
theorem fld_11_66 {h : sr_H} (w : Mdl h) : (oF h 141 11 66 ∧ oK h 141 66) ∧ hF h 141 66 = .ref 184 := have q := (sh_O (a := 141) (w 0 _ rfl).1 (w 0 _ rfl).2).2.2 66 _ rfl; ⟨⟨q.1, q.2.1⟩, er_ref q.2.2⟩
theorem arr_11_66 {h : sr_H} (w : Mdl h) : lI h (184) = 24 ∧ isA h (184) ∧ isI h (184) ∧ 184 < h.1.1 := sh_I (w 43 _ rfl).1 (w 43 _ rfl).2
theorem fld_11_67 {h : sr_H} (w : Mdl h) : (oF h 141 11 67 ∧ oK h 141 67) ∧ hF h 141 67 = .ref 185 := have q := (sh_O (a := 141) (w 0 _ rfl).1 (w 0 _ rfl).2).2.2 67 _ rfl; ⟨⟨q.1, q.2.1⟩, er_ref q.2.2⟩
theorem arr_11_67 {h : sr_H} (w : Mdl h) : lZ h (185) = 24 ∧ isA h (185) ∧ 185 < h.1.1 := sh_Z (w 44 _ rfl).1 (w 44 _ rfl).2
def Prs (h : sr_H) (I : Nat) : Prop := 1 < h.1.1 ∧ sr_sh (h.2 1) = .inr (.inr (3, [.int 0, .int 0, .ref 2, .ref I, .int 0, .int 0, .ref 38, .int 0, .int 0, .int 0, .int 0, .int 0])) ∧ 38 < h.1.1 ∧ sr_sh (h.2 38) = .inl (0, 72, fun _ => 0)
theorem Prs.ss {h h' : sr_H} {I : Nat} (s : SS h h') (w : Prs h I) : Prs h' I := by
  unfold Prs
  rw [s.1, s.2, s.2]
  exact w
theorem obj_3 {h : sr_H} {I : Nat} (w : Prs h I) : oC h 1 3 ∧ 1 < h.1.1 := ⟨(sh_O w.1 w.2.1).1, w.1⟩
theorem fld_3_0 {h : sr_H} {I : Nat} (w : Prs h I) : (oF h 1 3 0 ∧ oK h 1 0) ∧ hF h 1 0 = .int (fI h 1 0) := have q := (sh_O w.1 w.2.1).2.2 0 _ rfl; ⟨⟨q.1, q.2.1⟩, er_int q.2.2⟩
theorem fld_3_1 {h : sr_H} {I : Nat} (w : Prs h I) : (oF h 1 3 1 ∧ oK h 1 1) ∧ hF h 1 1 = .int (fI h 1 1) := have q := (sh_O w.1 w.2.1).2.2 1 _ rfl; ⟨⟨q.1, q.2.1⟩, er_int q.2.2⟩
theorem fld_3_2 {h : sr_H} {I : Nat} (w : Prs h I) : (oF h 1 3 2 ∧ oK h 1 2) ∧ hF h 1 2 = .ref 2 := have q := (sh_O w.1 w.2.1).2.2 2 _ rfl; ⟨⟨q.1, q.2.1⟩, er_ref q.2.2⟩
theorem fld_3_3 {h : sr_H} {I : Nat} (w : Prs h I) : (oF h 1 3 3 ∧ oK h 1 3) ∧ hF h 1 3 = .ref I := have q := (sh_O w.1 w.2.1).2.2 3 _ rfl; ⟨⟨q.1, q.2.1⟩, er_ref q.2.2⟩
theorem fld_3_4 {h : sr_H} {I : Nat} (w : Prs h I) : (oF h 1 3 4 ∧ oK h 1 4) ∧ hF h 1 4 = .int (fI h 1 4) := have q := (sh_O w.1 w.2.1).2.2 4 _ rfl; ⟨⟨q.1, q.2.1⟩, er_int q.2.2⟩
theorem fld_3_5 {h : sr_H} {I : Nat} (w : Prs h I) : (oF h 1 3 5 ∧ oK h 1 5) ∧ hF h 1 5 = .int (fI h 1 5) := have q := (sh_O w.1 w.2.1).2.2 5 _ rfl; ⟨⟨q.1, q.2.1⟩, er_int q.2.2⟩
theorem fld_3_6 {h : sr_H} {I : Nat} (w : Prs h I) : (oF h 1 3 6 ∧ oK h 1 6) ∧ hF h 1 6 = .ref 38 := have q := (sh_O w.1 w.2.1).2.2 6 _ rfl; ⟨⟨q.1, q.2.1⟩, er_ref q.2.2⟩
theorem fld_3_7 {h : sr_H} {I : Nat} (w : Prs h I) : (oF h 1 3 7 ∧ oK h 1 7) ∧ hF h 1 7 = .int (fI h 1 7) := have q := (sh_O w.1 w.2.1).2.2 7 _ rfl; ⟨⟨q.1, q.2.1⟩, er_int q.2.2⟩
theorem fld_3_8 {h : sr_H} {I : Nat} (w : Prs h I) : (oF h 1 3 8 ∧ oK h 1 8) ∧ hF h 1 8 = .int (fI h 1 8) := have q := (sh_O w.1 w.2.1).2.2 8 _ rfl; ⟨⟨q.1, q.2.1⟩, er_int q.2.2⟩
theorem fld_3_9 {h : sr_H} {I : Nat} (w : Prs h I) : (oF h 1 3 9 ∧ oK h 1 9) ∧ hF h 1 9 = .int (fI h 1 9) := have q := (sh_O w.1 w.2.1).2.2 9 _ rfl; ⟨⟨q.1, q.2.1⟩, er_int q.2.2⟩
theorem fld_3_10 {h : sr_H} {I : Nat} (w : Prs h I) : (oF h 1 3 10 ∧ oK h 1 10) ∧ hF h 1 10 = .int (fI h 1 10) := have q := (sh_O w.1 w.2.1).2.2 10 _ rfl; ⟨⟨q.1, q.2.1⟩, er_int q.2.2⟩
theorem fld_3_11 {h : sr_H} {I : Nat} (w : Prs h I) : (oF h 1 3 11 ∧ oK h 1 11) ∧ hF h 1 11 = .int (fI h 1 11) := have q := (sh_O w.1 w.2.1).2.2 11 _ rfl; ⟨⟨q.1, q.2.1⟩, er_int q.2.2⟩
theorem arr_3_6 {h : sr_H} {I : Nat} (w : Prs h I) : lI h 38 = 72 ∧ isA h 38 ∧ isI h 38 ∧ 38 < h.1.1 := sh_I w.2.2.1 w.2.2.2
def Rom (h : sr_H) (T : Nat) : Prop := 0 < h.1.1 ∧ sr_sh (h.2 0) = .inr (.inr (10, [.ref 1, .ref T, .ref 72, .ref 88, .ref 104, .int 0, .ref 120, .ref 122, .ref 129, .ref 134]))
theorem Rom.ss {h h' : sr_H} {T : Nat} (s : SS h h') (w : Rom h T) : Rom h' T := by
  unfold Rom
  rw [s.1, s.2]
  exact w
theorem obj_10 {h : sr_H} {T : Nat} (w : Rom h T) : oC h 0 10 ∧ 0 < h.1.1 := ⟨(sh_O w.1 w.2).1, w.1⟩
theorem fld_10_0 {h : sr_H} {T : Nat} (w : Rom h T) : (oF h 0 10 0 ∧ oK h 0 0) ∧ hF h 0 0 = .ref 1 := have q := (sh_O w.1 w.2).2.2 0 _ rfl; ⟨⟨q.1, q.2.1⟩, er_ref q.2.2⟩
theorem fld_10_1 {h : sr_H} {T : Nat} (w : Rom h T) : (oF h 0 10 1 ∧ oK h 0 1) ∧ hF h 0 1 = .ref T := have q := (sh_O w.1 w.2).2.2 1 _ rfl; ⟨⟨q.1, q.2.1⟩, er_ref q.2.2⟩
theorem fld_10_2 {h : sr_H} {T : Nat} (w : Rom h T) : (oF h 0 10 2 ∧ oK h 0 2) ∧ hF h 0 2 = .ref 72 := have q := (sh_O w.1 w.2).2.2 2 _ rfl; ⟨⟨q.1, q.2.1⟩, er_ref q.2.2⟩
theorem fld_10_3 {h : sr_H} {T : Nat} (w : Rom h T) : (oF h 0 10 3 ∧ oK h 0 3) ∧ hF h 0 3 = .ref 88 := have q := (sh_O w.1 w.2).2.2 3 _ rfl; ⟨⟨q.1, q.2.1⟩, er_ref q.2.2⟩
theorem fld_10_4 {h : sr_H} {T : Nat} (w : Rom h T) : (oF h 0 10 4 ∧ oK h 0 4) ∧ hF h 0 4 = .ref 104 := have q := (sh_O w.1 w.2).2.2 4 _ rfl; ⟨⟨q.1, q.2.1⟩, er_ref q.2.2⟩
theorem fld_10_5 {h : sr_H} {T : Nat} (w : Rom h T) : (oF h 0 10 5 ∧ oK h 0 5) ∧ hF h 0 5 = .int (fI h 0 5) := have q := (sh_O w.1 w.2).2.2 5 _ rfl; ⟨⟨q.1, q.2.1⟩, er_int q.2.2⟩
theorem fld_10_6 {h : sr_H} {T : Nat} (w : Rom h T) : (oF h 0 10 6 ∧ oK h 0 6) ∧ hF h 0 6 = .ref 120 := have q := (sh_O w.1 w.2).2.2 6 _ rfl; ⟨⟨q.1, q.2.1⟩, er_ref q.2.2⟩
theorem fld_10_7 {h : sr_H} {T : Nat} (w : Rom h T) : (oF h 0 10 7 ∧ oK h 0 7) ∧ hF h 0 7 = .ref 122 := have q := (sh_O w.1 w.2).2.2 7 _ rfl; ⟨⟨q.1, q.2.1⟩, er_ref q.2.2⟩
theorem fld_10_8 {h : sr_H} {T : Nat} (w : Rom h T) : (oF h 0 10 8 ∧ oK h 0 8) ∧ hF h 0 8 = .ref 129 := have q := (sh_O w.1 w.2).2.2 8 _ rfl; ⟨⟨q.1, q.2.1⟩, er_ref q.2.2⟩
theorem fld_10_9 {h : sr_H} {T : Nat} (w : Rom h T) : (oF h 0 10 9 ∧ oK h 0 9) ∧ hF h 0 9 = .ref 134 := have q := (sh_O w.1 w.2).2.2 9 _ rfl; ⟨⟨q.1, q.2.1⟩, er_ref q.2.2⟩
