/-! Laws of reads over writes; shapes. -/
def fI (h : sr_H) (a k : Nat) : Int32 := match hF h a k with
  | .int x => x
  | _ => 0
def fJ (h : sr_H) (a k : Nat) : Int64 := match hF h a k with
  | .long x => x
  | _ => 0
def isA (h : sr_H) (a : Nat) : Prop := match h.2 a with
  | .inl _ => True
  | _ => False
def isI (h : sr_H) (a : Nat) : Prop := match h.2 a with
  | .inl (0, _, _) => True
  | _ => False
def isJ (h : sr_H) (a : Nat) : Prop := match h.2 a with
  | .inr (.inl _) => True
  | _ => False
def oK (h : sr_H) (a k : Nat) : Prop := match h.2 a with
  | .inr (.inr (_, fs)) => k < fs.length
  | _ => False
theorem sI_1 (h : sr_H) (a i : Nat) (v : Int32) : (sI h a i v).1 = h.1 := rfl
theorem sJ_1 (h : sr_H) (a i : Nat) (v : Int64) : (sJ h a i v).1 = h.1 := rfl
theorem sF_1 (h : sr_H) (a i : Nat) (v : Value) : (sF h a i v).1 = h.1 := rfl
theorem sC_1 (h : sr_H) (b sp a dp n : Nat) : (sC h b sp a dp n).1 = h.1 := rfl
section LAWS
variable {h : sr_H} {a b i j k n sp dp q ci : Nat} {v : Int32} {w : Int64} {x : Value}
theorem hI_sI (ha : isA h a) : hI (sI h a i v) b j = if b = a ∧ j = i then v else hI h b j := by
  unfold isA at ha
  unfold hI sI
  dsimp only
  by_cases hb : b = a
  · subst hb
    rcases e : h.2 b with ⟨t, n, f⟩ | z | w
    · simp only [if_true, true_and, upd]
    · rw [e] at ha; exact ha.elim
    · rw [e] at ha; exact ha.elim
  · simp only [hb, if_false, false_and]
theorem hI_sJ : hI (sJ h a i w) b j = hI h b j := by
  unfold hI sJ
  dsimp only
  by_cases hb : b = a
  · subst hb
    rcases e : h.2 b with ⟨t, n, f⟩ | ⟨n, f⟩ | z <;> simp
  · simp only [hb, if_false]
theorem hI_sF : hI (sF h a k x) b j = hI h b j := by
  unfold hI sF
  dsimp only
  by_cases hb : b = a
  · subst hb
    rcases e : h.2 b with ⟨t, n, f⟩ | ⟨n, f⟩ | ⟨c, fs⟩ <;> simp
  · simp only [hb, if_false]
theorem hI_sC (ha : isA h a) : hI (sC h b sp a dp n) q j = if q = a ∧ dp ≤ j ∧ j < dp + n then hI h b (sp + (j - dp)) else hI h q j := by
  unfold isA at ha
  by_cases hb : q = a
  · subst hb
    rcases e : h.2 q with ⟨t, m, f⟩ | z | w
    · have e1 : hI (sC h b sp q dp n) q j = va_cpy (fun i => hI h b i) f sp dp n j := by
        simp only [hI, sC, e, if_true]
      have e2 : hI h q j = f j := by simp only [hI, e]
      rw [e1, e2]
      simp only [va_cpy, true_and]
    · rw [e] at ha; exact ha.elim
    · rw [e] at ha; exact ha.elim
  · have : (sC h b sp a dp n).2 q = h.2 q := by simp only [sC, hb, if_false]
    simp only [hI, this, hb, false_and, if_false]
theorem hJ_sI : hJ (sI h a i v) b j = hJ h b j := by
  unfold hJ sI
  dsimp only
  by_cases hb : b = a
  · subst hb
    rcases e : h.2 b with ⟨t, n, f⟩ | ⟨n, f⟩ | z <;> simp
  · simp only [hb, if_false]
theorem hJ_sJ (ha : isJ h a) : hJ (sJ h a i w) b j = if b = a ∧ j = i then w else hJ h b j := by
  unfold isJ at ha
  unfold hJ sJ
  dsimp only
  by_cases hb : b = a
  · subst hb
    rcases e : h.2 b with z | ⟨n, f⟩ | z
    · rw [e] at ha; exact ha.elim
    · simp only [if_true, true_and, vp_updL]
    · rw [e] at ha; exact ha.elim
  · simp only [hb, if_false, false_and]
theorem hJ_sF : hJ (sF h a k x) b j = hJ h b j := by
  unfold hJ sF
  dsimp only
  by_cases hb : b = a
  · subst hb
    rcases e : h.2 b with ⟨t, n, f⟩ | ⟨n, f⟩ | ⟨c, fs⟩ <;> simp
  · simp only [hb, if_false]
theorem hJ_sC : hJ (sC h b sp a dp n) q j = hJ h q j := by
  unfold hJ sC
  dsimp only
  by_cases hb : q = a
  · subst hb
    rcases e : h.2 q with ⟨t, m, f⟩ | ⟨m, f⟩ | z <;> simp
  · simp only [hb, if_false]
theorem hF_sI : hF (sI h a i v) b j = hF h b j := by
  unfold hF sI
  dsimp only
  by_cases hb : b = a
  · subst hb
    rcases e : h.2 b with ⟨t, n, f⟩ | ⟨n, f⟩ | z <;> simp
  · simp only [hb, if_false]
theorem hF_sJ : hF (sJ h a i w) b j = hF h b j := by
  unfold hF sJ
  dsimp only
  by_cases hb : b = a
  · subst hb
    rcases e : h.2 b with ⟨t, n, f⟩ | ⟨n, f⟩ | z <;> simp
  · simp only [hb, if_false]
theorem hF_sC : hF (sC h b sp a dp n) q j = hF h q j := by
  unfold hF sC
  dsimp only
  by_cases hb : q = a
  · subst hb
    rcases e : h.2 q with ⟨t, m, f⟩ | ⟨m, f⟩ | z <;> simp
  · simp only [hb, if_false]
theorem hF_sF (ha : oK h a k) : hF (sF h a k x) b j = if b = a ∧ j = k then x else hF h b j := by
  unfold oK at ha
  unfold hF sF
  dsimp only
  by_cases hb : b = a
  · subst hb
    rcases e : h.2 b with z | z | ⟨c, fs⟩
    · rw [e] at ha; exact ha.elim
    · rw [e] at ha; exact ha.elim
    · rw [e] at ha
      simp only [if_true, true_and, List.getD_eq_getElem?_getD]
      by_cases hj : j = k
      · subst hj
        rw [List.getElem?_set_self ha]
        simp
      · rw [List.getElem?_set_ne (Ne.symm hj)]
        simp only [hj, if_false]
  · simp only [hb, if_false, false_and]
theorem fI_sI : fI (sI h a i v) b j = fI h b j := by simp only [fI, hF_sI]
theorem fI_sJ : fI (sJ h a i w) b j = fI h b j := by simp only [fI, hF_sJ]
theorem fI_sC : fI (sC h b sp a dp n) q j = fI h q j := by simp only [fI, hF_sC]
theorem fI_sF (ha : oK h a k) : fI (sF h a k (.int v)) b j = if b = a ∧ j = k then v else fI h b j := by
  simp only [fI, hF_sF ha]
  by_cases hc : b = a ∧ j = k <;> simp [hc]
theorem fJ_sI : fJ (sI h a i v) b j = fJ h b j := by simp only [fJ, hF_sI]
theorem fJ_sJ : fJ (sJ h a i w) b j = fJ h b j := by simp only [fJ, hF_sJ]
theorem fJ_sC : fJ (sC h b sp a dp n) q j = fJ h q j := by simp only [fJ, hF_sC]
theorem fJ_sFl (ha : oK h a k) : fJ (sF h a k (.long w)) b j = if b = a ∧ j = k then w else fJ h b j := by
  simp only [fJ, hF_sF ha]
  by_cases hc : b = a ∧ j = k <;> simp [hc]
end LAWS
/-- the shape of a cell: what no write changes -/
def sr_er : Value → Value
  | .int _ => .int 0
  | .long _ => .long 0
  | v => v
def sr_sh : sr_C → sr_C
  | .inl (t, n, _) => .inl (t, n, fun _ => 0)
  | .inr (.inl (n, _)) => .inr (.inl (n, fun _ => 0))
  | .inr (.inr (c, fs)) => .inr (.inr (c, fs.map sr_er))
def SS (h h' : sr_H) : Prop := h'.1 = h.1 ∧ ∀ a, sr_sh (h'.2 a) = sr_sh (h.2 a)
theorem SS.rf {h : sr_H} : SS h h := ⟨rfl, fun _ => rfl⟩
theorem SS.tr {h h1 h2 : sr_H} (a : SS h h1) (b : SS h1 h2) : SS h h2 := ⟨b.1.trans a.1, fun q => (b.2 q).trans (a.2 q)⟩
theorem SS.sy {h h1 : sr_H} (a : SS h h1) : SS h1 h := ⟨a.1.symm, fun q => (a.2 q).symm⟩
theorem SS_sI (h : sr_H) (a i : Nat) (v : Int32) : SS h (sI h a i v) := by
  refine ⟨rfl, fun b => ?_⟩
  unfold sI
  dsimp only
  by_cases hb : b = a
  · subst hb
    rcases e : h.2 b with ⟨t, n, f⟩ | ⟨n, f⟩ | z <;> simp [sr_sh]
  · simp only [hb, if_false]
theorem SS_sJ (h : sr_H) (a i : Nat) (v : Int64) : SS h (sJ h a i v) := by
  refine ⟨rfl, fun b => ?_⟩
  unfold sJ
  dsimp only
  by_cases hb : b = a
  · subst hb
    rcases e : h.2 b with ⟨t, n, f⟩ | ⟨n, f⟩ | z <;> simp [sr_sh]
  · simp only [hb, if_false]
theorem SS_sC (h : sr_H) (b sp a dp n : Nat) : SS h (sC h b sp a dp n) := by
  refine ⟨rfl, fun q => ?_⟩
  unfold sC
  dsimp only
  by_cases hb : q = a
  · subst hb
    rcases e : h.2 q with ⟨t, m, f⟩ | ⟨m, f⟩ | z <;> simp [sr_sh]
  · simp only [hb, if_false]
theorem SS_sF {h : sr_H} {a k : Nat} {v : Value} (hv : sr_er v = sr_er (hF h a k)) : SS h (sF h a k v) := by
  refine ⟨rfl, fun b => ?_⟩
  unfold sF
  dsimp only
  by_cases hb : b = a
  · subst hb
    rcases e : h.2 b with ⟨t, n, f⟩ | ⟨n, f⟩ | ⟨c, fs⟩
    · simp
    · simp
    · simp only [if_true, sr_sh, List.map_set]
      congr 3
      apply List.ext_getElem?
      intro i
      by_cases hi : i = k
      · subst hi
        by_cases hl : i < fs.length
        · rw [List.getElem?_set_self (by simpa using hl), hv]
          simp only [hF, e, List.getElem?_map, List.getD_eq_getElem?_getD, List.getElem?_eq_getElem hl, Option.map_some, Option.getD_some]
        · rw [List.getElem?_eq_none (by simp; omega), List.getElem?_eq_none (by simp; omega)]
      · rw [List.getElem?_set_ne (Ne.symm hi)]
  · simp only [hb, if_false]
/-- a shape, read -/
theorem sh_arr {h : sr_H} {a t n : Nat} {f : Nat → Int32} (e : sr_sh (h.2 a) = .inl (t, n, f)) : isA h a ∧ ∃ g, h.2 a = .inl (t, n, g) := by
  rcases e2 : h.2 a with ⟨t', n', g⟩ | ⟨n', g⟩ | ⟨c, fs⟩
  · rw [e2] at e
    simp only [sr_sh, Sum.inl.injEq, Prod.mk.injEq] at e
    obtain ⟨rfl, rfl, -⟩ := e
    refine ⟨?_, g, rfl⟩
    unfold isA
    rw [e2]
    trivial
  · rw [e2] at e; simp [sr_sh] at e
  · rw [e2] at e; simp [sr_sh] at e
theorem sh_I {h : sr_H} {a n : Nat} {f : Nat → Int32} (ha : a < h.1.1) (e : sr_sh (h.2 a) = .inl (0, n, f)) : lI h a = n ∧ isA h a ∧ isI h a ∧ a < h.1.1 := by
  obtain ⟨h1, g, h2⟩ := sh_arr e
  refine ⟨?_, h1, ?_, ha⟩
  · unfold lI
    rw [h2]
    exact if_pos ha
  · unfold isI
    rw [h2]
    trivial
theorem sh_Z {h : sr_H} {a n : Nat} {f : Nat → Int32} (ha : a < h.1.1) (e : sr_sh (h.2 a) = .inl (1, n, f)) : lZ h a = n ∧ isA h a ∧ a < h.1.1 := by
  obtain ⟨h1, g, h2⟩ := sh_arr e
  refine ⟨?_, h1, ha⟩
  unfold lZ
  rw [h2]
  exact if_pos ha
theorem sh_J {h : sr_H} {a n : Nat} {f : Nat → Int64} (ha : a < h.1.1) (e : sr_sh (h.2 a) = .inr (.inl (n, f))) : lJ h a = n ∧ isJ h a ∧ a < h.1.1 := by
  rcases e2 : h.2 a with ⟨t', n', g⟩ | ⟨n', g⟩ | ⟨c, fs⟩
  · rw [e2] at e; simp [sr_sh] at e
  · rw [e2] at e
    simp only [sr_sh, Sum.inr.injEq, Sum.inl.injEq, Prod.mk.injEq] at e
    obtain ⟨rfl, -⟩ := e
    refine ⟨?_, ?_, ha⟩
    · unfold lJ
      rw [e2]
      exact if_pos ha
    · unfold isJ
      rw [e2]
      trivial
  · rw [e2] at e; simp [sr_sh] at e
theorem sh_O {h : sr_H} {a ci : Nat} {tm : List Value} (ha : a < h.1.1) (e : sr_sh (h.2 a) = .inr (.inr (ci, tm))) : oC h a ci ∧ a < h.1.1 ∧ ∀ k v, tm[k]? = some v → oF h a ci k ∧ oK h a k ∧ sr_er (hF h a k) = v := by
  rcases e2 : h.2 a with ⟨t', n', g⟩ | ⟨n', g⟩ | ⟨c, fs⟩
  · rw [e2] at e; simp [sr_sh] at e
  · rw [e2] at e; simp [sr_sh] at e
  · rw [e2] at e
    simp only [sr_sh, Sum.inr.injEq, Prod.mk.injEq] at e
    obtain ⟨rfl, rfl⟩ := e
    refine ⟨?_, ha, fun k v hk => ?_⟩
    · unfold oC
      rw [e2]
      exact ⟨ha, rfl⟩
    · have hl : k < fs.length := by
        have := (List.getElem?_eq_some_iff.mp hk).1
        simpa using this
      rw [List.getElem?_map, List.getElem?_eq_getElem hl] at hk
      refine ⟨?_, ?_, ?_⟩
      · unfold oF
        rw [e2]
        exact ⟨ha, rfl, hl⟩
      · unfold oK
        rw [e2]
        exact hl
      · unfold hF
        rw [e2]
        simp only [List.getD_eq_getElem?_getD, List.getElem?_eq_getElem hl, Option.getD_some]
        exact Option.some.inj hk
theorem er_int {h : sr_H} {a k : Nat} (e : sr_er (hF h a k) = .int 0) : hF h a k = .int (fI h a k) := by
  unfold fI
  cases e2 : hF h a k <;> rw [e2] at e <;> simp_all [sr_er]
theorem er_long {h : sr_H} {a k : Nat} (e : sr_er (hF h a k) = .long 0) : hF h a k = .long (fJ h a k) := by
  unfold fJ
  cases e2 : hF h a k <;> rw [e2] at e <;> simp_all [sr_er]
theorem er_ref {h : sr_H} {a k b : Nat} (e : sr_er (hF h a k) = .ref b) : hF h a k = .ref b := by
  cases e2 : hF h a k <;> rw [e2] at e <;> simp_all [sr_er]
section LAW2
variable {h : sr_H} {a b i j k n sp dp q ci : Nat} {v : Int32} {w : Int64} {x : Value}
theorem lI_SS {h h' : sr_H} (s : SS h h') (a : Nat) : lI h' a = lI h a := by
  have e := s.2 a
  have e1 := s.1
  unfold lI
  rw [e1]
  rcases e2 : h.2 a with ⟨t, n, f⟩ | ⟨n, f⟩ | ⟨c, fs⟩ <;> rcases e3 : h'.2 a with ⟨t', n', f'⟩ | ⟨n', f'⟩ | ⟨c', fs'⟩ <;> rw [e2, e3] at e <;> simp_all [sr_sh]
  · rcases t with _ | _ | t <;> rfl
theorem lZ_SS {h h' : sr_H} (s : SS h h') (a : Nat) : lZ h' a = lZ h a := by
  have e := s.2 a
  have e1 := s.1
  unfold lZ
  rw [e1]
  rcases e2 : h.2 a with ⟨t, n, f⟩ | ⟨n, f⟩ | ⟨c, fs⟩ <;> rcases e3 : h'.2 a with ⟨t', n', f'⟩ | ⟨n', f'⟩ | ⟨c', fs'⟩ <;> rw [e2, e3] at e <;> simp_all [sr_sh]
  · rcases t with _ | _ | t <;> rfl
theorem lJ_SS {h h' : sr_H} (s : SS h h') (a : Nat) : lJ h' a = lJ h a := by
  have e := s.2 a
  have e1 := s.1
  unfold lJ
  rw [e1]
  rcases e2 : h.2 a with ⟨t, n, f⟩ | ⟨n, f⟩ | ⟨c, fs⟩ <;> rcases e3 : h'.2 a with ⟨t', n', f'⟩ | ⟨n', f'⟩ | ⟨c', fs'⟩ <;> rw [e2, e3] at e <;> simp_all [sr_sh]
theorem isA_SS {h h' : sr_H} (s : SS h h') (a : Nat) : isA h' a ↔ isA h a := by
  have e := s.2 a
  unfold isA
  rcases e2 : h.2 a with ⟨t, n, f⟩ | ⟨n, f⟩ | ⟨c, fs⟩ <;> rcases e3 : h'.2 a with ⟨t', n', f'⟩ | ⟨n', f'⟩ | ⟨c', fs'⟩ <;> rw [e2, e3] at e <;> simp_all [sr_sh]
theorem isI_SS {h h' : sr_H} (s : SS h h') (a : Nat) : isI h' a ↔ isI h a := by
  have e := s.2 a
  unfold isI
  rcases e2 : h.2 a with ⟨t, n, f⟩ | ⟨n, f⟩ | ⟨c, fs⟩ <;> rcases e3 : h'.2 a with ⟨t', n', f'⟩ | ⟨n', f'⟩ | ⟨c', fs'⟩ <;> rw [e2, e3] at e <;> simp_all [sr_sh]
  · rcases t with _ | _ | t <;> exact Iff.rfl
theorem isJ_SS {h h' : sr_H} (s : SS h h') (a : Nat) : isJ h' a ↔ isJ h a := by
  have e := s.2 a
  unfold isJ
  rcases e2 : h.2 a with ⟨t, n, f⟩ | ⟨n, f⟩ | ⟨c, fs⟩ <;> rcases e3 : h'.2 a with ⟨t', n', f'⟩ | ⟨n', f'⟩ | ⟨c', fs'⟩ <;> rw [e2, e3] at e <;> simp_all [sr_sh]
theorem oC_SS {h h' : sr_H} (s : SS h h') (a ci : Nat) : oC h' a ci ↔ oC h a ci := by
  have e := s.2 a
  have e1 := s.1
  unfold oC
  rw [e1]
  rcases e2 : h.2 a with ⟨t, n, f⟩ | ⟨n, f⟩ | ⟨c, fs⟩ <;> rcases e3 : h'.2 a with ⟨t', n', f'⟩ | ⟨n', f'⟩ | ⟨c', fs'⟩ <;> rw [e2, e3] at e <;> simp_all [sr_sh]
theorem map_len {fs fs' : List Value} (e : fs'.map sr_er = fs.map sr_er) : fs'.length = fs.length := by
  have := congrArg List.length e
  simpa using this
theorem oF_SS {h h' : sr_H} (s : SS h h') (a ci k : Nat) : oF h' a ci k ↔ oF h a ci k := by
  have e := s.2 a
  have e1 := s.1
  unfold oF
  rw [e1]
  rcases e2 : h.2 a with ⟨t, n, f⟩ | ⟨n, f⟩ | ⟨c, fs⟩ <;> rcases e3 : h'.2 a with ⟨t', n', f'⟩ | ⟨n', f'⟩ | ⟨c', fs'⟩ <;> rw [e2, e3] at e <;> simp only [sr_sh, Sum.inl.injEq, Sum.inr.injEq, Prod.mk.injEq, reduceCtorEq] at e ⊢
  rw [e.1, map_len e.2]
theorem oK_SS {h h' : sr_H} (s : SS h h') (a k : Nat) : oK h' a k ↔ oK h a k := by
  have e := s.2 a
  unfold oK
  rcases e2 : h.2 a with ⟨t, n, f⟩ | ⟨n, f⟩ | ⟨c, fs⟩ <;> rcases e3 : h'.2 a with ⟨t', n', f'⟩ | ⟨n', f'⟩ | ⟨c', fs'⟩ <;> rw [e2, e3] at e <;> simp only [sr_sh, Sum.inl.injEq, Sum.inr.injEq, Prod.mk.injEq, reduceCtorEq] at e ⊢
  rw [map_len e.2]
end LAW2
