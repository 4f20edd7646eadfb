/-! THE REAL MACHINE holds a heap of the small one: cell k lies at b0 + k, what the class files hold lies where g says. -/
abbrev sr_G : Type := Nat × (Nat → Nat) × va_G × ClassId × ClassId × ClassId
def sr_ad (G : sr_G) (k : Nat) : Nat := if k < sr_sb then G.1 + k else G.2.1 (k - sr_sb)
def sr_v (G : sr_G) : Value → Value
  | .ref k => .ref (sr_ad G k)
  | v => v
def sr_e (G : sr_G) : sr_C → va_E
  | .inl (t, n, f) => .inl (if t = 0 then G.2.2.2.1 else G.2.2.2.2.1, n, .inl f)
  | .inr (.inl (n, f)) => .inl (G.2.2.2.2.2, n, .inr (.inl f))
  | .inr (.inr (ci, fs)) => .inr (ci, fs.map (sr_v G))
def sr_w (G : sr_G) (h : sr_H) : va_W := (List.range h.1.1).map fun k => (G.1 + k, sr_e G (h.2 k))
def sr_A (G : sr_G) : Nat → Prop := fun q => G.1 ≤ q
def sr_tys (G : sr_G) : List (ClassId × FieldType) := [(G.2.2.2.1, .int), (G.2.2.2.2.1, .boolean), (G.2.2.2.2.2, .long)]
theorem sr_w_get {G : sr_G} {h : sr_H} {k : Nat} (hk : k < h.1.1) : (sr_w G h)[k]? = some (G.1 + k, sr_e G (h.2 k)) := by
  simp [sr_w, hk]
theorem sr_w_len {G : sr_G} {h : sr_H} : (sr_w G h).length = h.1.1 := by simp [sr_w]
theorem sr_w_inv {G : sr_G} {h : sr_H} {k : Nat} {q : Nat × va_E} (hk : (sr_w G h)[k]? = some q) : k < h.1.1 ∧ q = (G.1 + k, sr_e G (h.2 k)) := by
  have hl : k < h.1.1 := by
    have := (List.getElem?_eq_some_iff.mp hk).1
    rwa [sr_w_len] at this
  exact ⟨hl, Option.some.inj (hk.symm.trans (sr_w_get hl))⟩
theorem sr_w_D (G : sr_G) (h : sr_H) : va_D (sr_A G) (sr_w G h) := by
  refine ⟨fun i j p q hi hj e => ?_, fun k q hk => ?_⟩
  · obtain ⟨-, rfl⟩ := sr_w_inv hi
    obtain ⟨-, rfl⟩ := sr_w_inv hj
    dsimp only at e
    omega
  · obtain ⟨-, rfl⟩ := sr_w_inv hk
    exact Nat.le_add_right _ _
theorem sr_w_set {G : sr_G} {h : sr_H} {k : Nat} (c : sr_C) : (sr_w G h).set k (G.1 + k, sr_e G c) = sr_w G (h.1, sr_up h.2 k c) := by
  apply List.ext_getElem?
  intro j
  by_cases hj : j < h.1.1
  · rw [sr_w_get (h := (h.1, sr_up h.2 k c)) hj]
    by_cases hjk : j = k
    · subst hjk
      rw [List.getElem?_set_self (by rw [sr_w_len]; exact hj)]
      simp [sr_up]
    · rw [List.getElem?_set_ne (Ne.symm hjk), sr_w_get hj]
      simp [sr_up, hjk]
  · rw [List.getElem?_eq_none (by rw [List.length_set, sr_w_len]; omega), List.getElem?_eq_none (by rw [sr_w_len]; show h.1.1 ≤ j; omega)]
theorem sr_w_app {G : sr_G} {h : sr_H} (z : Nat) (c : sr_C) : sr_w G h ++ [(G.1 + h.1.1, sr_e G c)] = sr_w G ((h.1.1 + 1, z), sr_up h.2 h.1.1 c) := by
  simp only [sr_w, List.range_succ, List.map_append, List.map_cons, List.map_nil]
  congr 1
  · apply List.map_congr_left
    intro k hk
    have : k < h.1.1 := List.mem_range.mp hk
    simp [sr_up, Nat.ne_of_lt this]
  · simp [sr_up]
/-- the heap H holds h -/
def sr_at (G : sr_G) (h : sr_H) (H : Heap) : Prop := va_P G.2.2.1 vwCl (sr_w G h) H ∧ h.1.1 ≤ sr_mx ∧ G.1 ≤ H.size
/-- the class files' own things: the tables, the texts -/
def sr_sC : Nat → String × String
  | 0 => ("ScreenRoom$Screens", "ROWS_ON")
  | 1 => ("ScreenRoom$Screens", "COLUMNS_ON")
  | _ => ("ScreenRoom$Judge", "ORDERS_OF")
def sr_by8 : List (List Int32) := [(sr_tx 0).map nI, (sr_tx 1).map nI, (sr_tx 2).map nI, (sr_tx 3).map nI]
def sr_ln8 : List Nat := [(sr_tx 0).length, (sr_tx 1).length, (sr_tx 2).length, (sr_tx 3).length]
def sr_kn (G : sr_G) (s : State) : Prop := va_K G.2.2.1 vwCl (sr_tys G) s ∧
  (∀ j, j < 3 → va_Z (sr_sC j).1 (sr_sC j).2 "[I" (.ref (G.2.1 j)) (sr_A G) s s.heap ∧ va_T .int (G.2.1 j) (sr_sa j).length (fun i => .int ((sr_sa j).getD i 0)) (sr_A G) s s.heap) ∧
  (∃ adV, vk_S 4 sr_ln8 sr_by8 (fun j => G.2.1 (1000000 + j)) adV (sr_A G) s s.heap) ∧
  (∀ j, j < 4 → vk_R (sr_tR j).1 (sr_tR j).2.1 (sr_tR j).2.2 (G.2.1 (1000000 + j)) s) ∧
  va_Z "java/lang/String" "COMPACT_STRINGS" "Z" (.int 1) (sr_A G) s s.heap ∧ va_Zq "jdk/internal/util/Preconditions" "SIOOBE_FORMATTER" "Ljava/util/function/BiFunction;" (sr_A G) s s.heap ∧
  (∀ own e, e ∈ sr_ln own → e.2.2.1 = 1 → va_Nw (.methodLinkNest (sr_cn own) e.1 (sr_y e.2.1) "ScreenRoom") s)
theorem sr_kn.go {G : sr_G} {s U : State} {H : Heap} {locs : List Loc} (h : sr_kn G s) (hS : va_S (sr_A G) s.heap H locs) (hU : U.heap = H) (hW : s.WarmedH U.vm) : sr_kn G U := by
  obtain ⟨hK, hs, ⟨adV, h3⟩, h4, h5, h6, h7⟩ := h
  refine ⟨va_K.moved hW.alike hK, fun j hj => ?_, ⟨adV, ?_⟩, fun j hj => (h4 j hj).warm hW, ?_, ?_, fun own e he h1 => va_Nw.warmM hW (h7 own e he h1)⟩
  · rw [hU]
    exact ⟨va_Z.moved hW.alike ((hs j hj).1.kept hS.2.1), va_T.moved hW.alike ((hs j hj).2.kept hS.2.1)⟩
  · rw [hU]
    exact vk_S.moved hW.alike (h3.kept hS.2.1)
  · rw [hU]
    exact va_Z.moved hW.alike (h5.kept hS.2.1)
  · rw [hU]
    exact va_Zq.moved hW.alike (h6.kept hS.2.1)
theorem sr_kn.calling {G : sr_G} {U : State} {g : JFrame} {mk : MethodId} {a : Array Value} (h : sr_kn G U) : sr_kn G (U.calling g mk a) := by
  obtain ⟨hK, hs, ⟨adV, h3⟩, h4, h5, h6, h7⟩ := h
  have hA : U.vm.Alike (U.calling g mk a).vm := Vm.Alike.refl U.vm
  exact ⟨va_K.moved hA hK, fun j hj => ⟨va_Z.moved hA (hs j hj).1, va_T.moved hA (hs j hj).2⟩, ⟨adV, vk_S.moved hA h3⟩, fun j hj => (h4 j hj).same rfl, va_Z.moved hA h5, va_Zq.moved hA h6, fun own e he h1 => va_Nw.same rfl rfl (h7 own e he h1)⟩
/-- a method's start and end -/
def sr_P (G : sr_G) (as : List Value) (h : sr_H) : Array Value → State → Prop := fun v U => v = (as.map (sr_v G)).toArray ∧ sr_at G h U.heap ∧ (h.1.1 < sr_mx → U.heap.size = G.1 + h.1.1) ∧ sr_kn G U
def sr_Q (G : sr_G) (r : Option Value) (h' : sr_H) : Array Value → State → Outcome → State → Prop := fun _ st o t => o = .returned (r.map (sr_v G)) ∧ sr_at G h' t.heap ∧ va_F (sr_A G) st t
def sr_rm (d mc ms : Nat) : Room := { frames := d, cells := mc, slots := ms, locals := 60 * d }
theorem sr_P_blind (G : sr_G) (as : List Value) (h : sr_H) : FrameBlind (sr_P G as h) := fun _ _ _ _ q => ⟨q.1, q.2.1, q.2.2.1, q.2.2.2.calling⟩
section SRC
variable {p : Program} {l : Launch} {e : Env} {R : Room} {s : State} {m : MethodId} {args : Array Value} {below : List Frame} {meth : Method} {c : Code} {H : Heap} {locs : List Loc} {cells slots : Nat} {Q : State → Prop} {mc ms pc : Nat} {ls : Array Slot} {st0 rest : List Value}
theorem sr_call {G : sr_G} {r : Option Value} {h' : sr_H} {a : Array Value} {free : Addr → Prop} (hr : va_Run p l e R s m args below meth c H locs cells slots mc ms (F0 m pc ls st0) rest (sr_Q G r h' a) free) (hf : ∀ q, free q → sr_A G q) (hS : va_S (sr_A G) s.heap H locs)
    (kk : ∀ (H1 : Heap) (locs1 : List Loc), sr_at G h' H1 → va_S (sr_A G) s.heap H1 locs1 → W p l e R s m args below meth c H1 locs1 (cells + mc) (slots + ms) Q (F0 m (pc + 3) ls ((r.map (sr_v G)).toList ++ rest))) : W p l e R s m args below meth c H locs cells slots Q (F0 m pc ls st0) := by
  intro T hT X
  obtain ⟨v, st₀, t, T', L, h0, X', hL, e1, e2, ⟨hv, hp, hz, hk⟩, st⟩ := hr T hT X
  cases hv
  rw [h0] at hz hk
  obtain ⟨t2, a1, b1⟩ := kk T'.heap (locs ++ L) (by rw [e1]; exact hp)
    ⟨Nat.le_trans hS.1 (by rw [e1]; exact hz), fun q h1 h2 => by rw [e1, hk q (Nat.lt_of_lt_of_le h1 hS.1) h2]; exact hS.2.1 q h1 h2, fun q hq => by
      rcases List.mem_append.mp hq with h | h
      · exact hS.2.2 q h
      · exact hf _ (hL q h)⟩ T' rfl X'
  exact ⟨t2, st t2 a1, b1⟩
end SRC
theorem sr_at_ge {G : sr_G} {h : sr_H} {H : Heap} (a : sr_at G h H) : G.1 + h.1.1 ≤ H.size := by
  obtain ⟨hP, -, h2⟩ := a
  by_cases hz : h.1.1 = 0
  · omega
  · have := (hP (h.1.1 - 1) _ (sr_w_get (by omega))).lt
    dsimp only at this
    omega
theorem sr_ad_lt {G : sr_G} {h : sr_H} {H : Heap} (hat : sr_at G h H) {a : Nat} (ha : a < h.1.1) : sr_ad G a = G.1 + a := by
  have h1 := hat.2.1
  have h2 : sr_mx < sr_sb := Nat.le_of_ble_eq_true rfl
  exact if_pos (by omega)
section SRD
variable {p : Program} {l : Launch} {e : Env} {R : Room} {s : State} {m : MethodId} {args : Array Value} {below : List Frame} {meth : Method} {c : Code} {H : Heap} {locs : List Loc} {cells slots : Nat} {Q : State → Prop} {g : JFrame}
theorem sr_peek (k : H.size ≤ s.heap.size + cells → W p l e R s m args below meth c H locs cells slots Q g) : W p l e R s m args below meth c H locs cells slots Q g := fun T hT X => k (by
  have h1 := X.same.2.2.1
  have h2 : (T.setVm s.vm).heap = H := hT
  rw [h2] at h1
  exact h1) T hT X
end SRD
