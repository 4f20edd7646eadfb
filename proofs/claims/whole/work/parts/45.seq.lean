/-! Views that have the same screens. -/
def seq (x y : V) : Prop := (∀ k, k < 4 → x 0 k = y 0 k) ∧ ∀ j, 1 ≤ j → j ≤ 6 → ∀ s, x j s = y j s
theorem seq.rf {x : V} : seq x x := ⟨fun _ _ => rfl, fun _ _ _ _ => rfl⟩
theorem seq.sy {x y : V} (e : seq x y) : seq y x := ⟨fun k hk => (e.1 k hk).symm, fun j h1 h2 s => (e.2 j h1 h2 s).symm⟩
theorem seq.tr {x y z : V} (e : seq x y) (f : seq y z) : seq x z := ⟨fun k hk => (e.1 k hk).trans (f.1 k hk), fun j h1 h2 s => (e.2 j h1 h2 s).trans (f.2 j h1 h2 s)⟩
theorem seq_vs {x : V} {i j v : Nat} (h : 7 ≤ i ∨ (i = 0 ∧ 4 ≤ j)) : seq (vs x i j v) x := by
  refine ⟨fun k hk => ?_, fun a h1 h2 s => ?_⟩
  · unfold vs
    rw [if_neg (by omega)]
  · unfold vs
    rw [if_neg (by omega)]
/-- the rows that the screens' numbers are made of -/
def rw6 (x y : V) : Prop := ∀ j, 2 ≤ j → j ≤ 6 → ∀ s, x j s = y j s
theorem seq.r6 {x y : V} (e : seq x y) : rw6 x y := fun j h1 h2 s => e.2 j (by omega) h2 s
theorem lfD_e {x y : V} (e : rw6 x y) {s r c l : Nat} : lfD x s r c l = lfD y s r c l := by
  unfold lfD lfR lfC sR sK sD
  rw [e 2 (by omega) (by omega) s, e 3 (by omega) (by omega) s, e 5 (by omega) (by omega) s]
theorem farN_e {x y : V} (e : rw6 x y) {s r c : Nat} : ∀ n, farN x s r c n = farN y s r c n
  | 0 => rfl
  | n + 1 => by
    unfold farN
    rw [farN_e e n, lfD_e e, sW, sW, e 6 (by omega) (by omega) s]
theorem far_e {x y : V} (e : rw6 x y) {s r c : Nat} : far x s r c = far y s r c := by
  unfold far
  rw [farN_e e, sL, sL, e 4 (by omega) (by omega) s]
theorem nrN_e {x y : V} (e : rw6 x y) {b r c : Nat} : ∀ n, nrN x b r c n = nrN y b r c n
  | 0 => rfl
  | n + 1 => by
    unfold nrN
    rw [nrN_e e n, far_e e]
theorem giv_e {x y : V} (e : seq x y) {b r c : Nat} : giv x b r c = giv y b r c := by
  unfold giv
  rw [nrN_e e.r6, xN, xN, e.1 2 (by omega)]
theorem sea_e {x y : V} (e : seq x y) {b r c : Nat} : sea x b r c = sea y b r c := by
  unfold sea sS
  rw [giv_e e]
  split
  · rfl
  · exact e.2 1 (by omega) (by omega) _
theorem xP_e {x y : V} (e : seq x y) : xP x = xP y := e.1 3 (by omega)
theorem xN_e {x y : V} (e : seq x y) : xN x = xN y := e.1 2 (by omega)
theorem xR_e {x y : V} (e : seq x y) : xR x = xR y := e.1 0 (by omega)
theorem xC_e {x y : V} (e : seq x y) : xC x = xC y := e.1 1 (by omega)
theorem gF_e {x y : V} (e : seq x y) {r c : Nat} : gF x r c = gF y r c := by
  unfold gF
  rw [giv_e e, far_e e.r6, xP_e e]
theorem lfN_e {x y : V} (e : seq x y) {r c : Nat} : lfN x r c = lfN y r c := by
  unfold lfN
  rw [gF_e e, giv_e e, xP_e e]
theorem whlN_e {x y : V} (e : seq x y) : ∀ n, whlN x n = whlN y n
  | 0 => rfl
  | n + 1 => by
    unfold whlN
    rw [whlN_e e n, xP_e e, sW, sW, e.2 6 (by omega) (by omega) n]
theorem whl_e {x y : V} (e : seq x y) : whl x = whl y := by
  unfold whl
  rw [whlN_e e, xN_e e]
theorem KC_e {h : sr_H} {S : Nat} {x y : V} (e : seq x y) (k : KC h S x) : KC h S y := by
  refine ⟨by rw [← whl_e e]; exact k.1, fun r c hr hc => ?_⟩
  rw [← xR_e e] at hr
  rw [← xC_e e] at hc
  have := k.2 r c hr hc
  unfold K1 at this ⊢
  rw [lfI_N] at this ⊢
  rw [← sea_e e, ← gF_e e, ← lfN_e e, ← xP_e e]
  exact this
theorem inn_e {x y : V} (e : seq x y) {r c w : Nat} : inn x r c w ↔ inn y r c w := by
  unfold inn
  rw [xR_e e, xC_e e]
theorem bynd_e {x y : V} (e : seq x y) {r c w : Nat} : bynd x r c w = bynd y r c w := by
  unfold bynd
  rw [lfN_e e, propext (inn_e (r := r) (c := c) (w := w) e)]
theorem SC_e {h : sr_H} {S : Nat} {x y : V} (e : seq x y) (k : SC h S x) : SC h S y := SC_mk (fun k' hk => by rw [← e.1 k' hk]; exact SC_f k hk) (fun j h1 h2 s hs => by rw [← e.2 j h1 h2 s]; exact SC_at k h1 h2 (by rw [xN_e e]; exact hs))
theorem Wx_e {x y : V} (e : seq x y) (k : Wx x) : Wx y := by
  obtain ⟨a1, a2, a3, a4, a5⟩ := k
  rw [xR_e e] at a1
  rw [xC_e e] at a2
  rw [xN_e e] at a3
  rw [xP_e e] at a4
  refine ⟨a1, a2, a3, a4, fun s hs => ?_⟩
  have := a5 s (by rw [xN_e e]; exact hs)
  unfold sS sL sD sW sR sK at this ⊢
  rw [← e.2 1 (by omega) (by omega), ← e.2 2 (by omega) (by omega), ← e.2 3 (by omega) (by omega), ← e.2 4 (by omega) (by omega), ← e.2 5 (by omega) (by omega), ← e.2 6 (by omega) (by omega)]
  exact this
/-! views read after a change -/
theorem vs_y {x : V} {i j v : Nat} : vs x i j v i j = v := if_pos ⟨rfl, rfl⟩
theorem vs_n {x : V} {i j v a b : Nat} (h : ¬ (a = i ∧ b = j)) : vs x i j v a b = x a b := if_neg h
/-- room B after a write to its folk -/
theorem RC_sI {h : sr_H} {B j p v : Nat} {x : V} (w : Rm h B) (rp : RC h B x) (h1 : 7 ≤ j) (h2 : j ≤ 11) : RC (sI h (B + (j + 4)) p (nI v)) B (vs x j p v) := by
  have z : ∀ b, vs x j p v 0 b = x 0 b := fun b => vs_n (by omega)
  refine RC_mk ?_ ?_ ?_ ?_ ?_ ?_
  · refine SC_e (seq_vs (Or.inl h1)).sy (SC_of rp.1 (fun k hk => fI_sI) (fun i h3 h4 => sI_ne (by omega)))
  · rw [fI_sI, xF, z]; exact rp.2.1
  · rw [fI_sI, xH, z]; exact rp.2.2.1
  · rw [fI_sI, xU, z]; exact rp.2.2.2.1
  · rw [fJ_sI, xD, z]; exact rp.2.2.2.2.1
  · intro i h3 h4 q hq
    rw [xF, z] at hq
    rw [hI_sI (Rm_ia w h1 h2).2.1]
    by_cases c : i = j ∧ q = p
    · rw [if_pos ⟨by omega, c.2⟩, c.1, c.2, vs_y]
    · rw [if_neg (fun z => c ⟨by omega, z.2⟩), vs_n c]
      exact RC_at rp h3 h4 hq
/-- after a change of the text's law rows, or anything else far off -/
theorem RC_of {h h' : sr_H} {B : Nat} {x : V} (rp : RC h B x) (e : ∀ a, B ≤ a → a ≤ B + 15 → h'.2 a = h.2 a) : RC h' B x :=
  RC_mk (SC_of rp.1 (fun k _ => fI_of (e _ (by omega) (by omega))) (fun j h1 h2 => e _ (by omega) (by omega))) (by rw [fI_of (e B (by omega) (by omega))]; exact rp.2.1) (by rw [fI_of (e B (by omega) (by omega))]; exact rp.2.2.1) (by rw [fI_of (e B (by omega) (by omega))]; exact rp.2.2.2.1) (by rw [fJ_of (e B (by omega) (by omega))]; exact rp.2.2.2.2.1) (fun j h1 h2 p hp => by rw [hI_of (e _ (by omega) (by omega))]; exact RC_at rp h1 h2 hp)
theorem KC_of {h h' : sr_H} {S : Nat} {x : V} (k : KC h S x) (e4 : fI h' S 4 = fI h S 4) (e : ∀ j, 7 ≤ j → j ≤ 9 → h'.2 (S + j) = h.2 (S + j)) : KC h' S x := by
  refine ⟨e4.trans k.1, fun r c hr hc => ?_⟩
  obtain ⟨a, b, c'⟩ := k.2 r c hr hc
  exact ⟨(hI_of (e 7 (by omega) (by omega))).trans a, (hI_of (e 8 (by omega) (by omega))).trans b, (hI_of (e 9 (by omega) (by omega))).trans c'⟩
/-- room B after a write to one of its own numbers -/
theorem RC_sF {h : sr_H} {B k j v : Nat} {x : V} (w : Rm h B) (rp : RC h B x) (hk : (k = 7 ∧ j = 5) ∨ (k = 8 ∧ j = 6)) : RC (sF h B k (.int (nI v))) B (vs x 0 j v) := by
  have ok : oK h B k := by
    rcases hk with ⟨rfl, -⟩ | ⟨rfl, -⟩
    · exact (fld_5_7 w).1.2
    · exact (fld_5_8 w).1.2
  refine RC_mk ?_ ?_ ?_ ?_ ?_ ?_
  · refine SC_e (seq_vs (Or.inr ⟨rfl, by omega⟩)).sy (SC_of rp.1 (fun k' hk' => fI_n (by omega)) (fun i h3 h4 => sF_ne (by omega)))
  · rw [fI_n (by omega), xF, vs_n (by omega)]; exact rp.2.1
  · rw [fI_sF ok, xH]
    rcases hk with ⟨rfl, rfl⟩ | ⟨rfl, rfl⟩
    · rw [if_pos ⟨rfl, rfl⟩, vs_y]
    · rw [if_neg (by omega), vs_n (by omega)]; exact rp.2.2.1
  · rw [fI_sF ok, xU]
    rcases hk with ⟨rfl, rfl⟩ | ⟨rfl, rfl⟩
    · rw [if_neg (by omega), vs_n (by omega)]; exact rp.2.2.2.1
    · rw [if_pos ⟨rfl, rfl⟩, vs_y]
  · rw [fJ_n (by omega), xD, vs_n (by omega)]; exact rp.2.2.2.2.1
  · intro i h3 h4 q hq
    rw [xF, vs_n (by omega)] at hq
    rw [hI_sF, vs_n (by omega)]
    exact RC_at rp h3 h4 hq
theorem RC_sF9 {h : sr_H} {B v : Nat} {x : V} (w : Rm h B) (rp : RC h B x) : RC (sF h B 9 (.long (lN v))) B (vs x 0 7 v) := by
  refine RC_mk ?_ ?_ ?_ ?_ ?_ ?_
  · refine SC_e (seq_vs (Or.inr ⟨rfl, by omega⟩)).sy (SC_of rp.1 (fun k' hk' => fI_n (by omega)) (fun i h3 h4 => sF_ne (by omega)))
  · rw [fI_n (by omega), xF, vs_n (by omega)]; exact rp.2.1
  · rw [fI_n (by omega), xH, vs_n (by omega)]; exact rp.2.2.1
  · rw [fI_n (by omega), xU, vs_n (by omega)]; exact rp.2.2.2.1
  · rw [fJ_y (fld_5_9 w).1.2, xD, vs_y]
  · intro i h3 h4 q hq
    rw [xF, vs_n (by omega)] at hq
    rw [hI_sF, vs_n (by omega)]
    exact RC_at rp h3 h4 hq
/-- room B after a write to one of its screens -/
theorem RC_sIs {h : sr_H} {B j s v : Nat} {x : V} (w : Rm h B) (rp : RC h B x) (h1 : 1 ≤ j) (h2 : j ≤ 6) (hs : s < xN x) : RC (sI h (B + 1 + j) s (nI v)) B (vs x j s v) := by
  have z : ∀ b, vs x j s v 0 b = x 0 b := fun b => vs_n (by omega)
  refine RC_mk (SC_sI (sub_5_screens w) rp.1 h1 h2 hs) ?_ ?_ ?_ ?_ ?_
  · rw [fI_sI, xF, z]; exact rp.2.1
  · rw [fI_sI, xH, z]; exact rp.2.2.1
  · rw [fI_sI, xU, z]; exact rp.2.2.2.1
  · rw [fJ_sI, xD, z]; exact rp.2.2.2.2.1
  · intro i h3 h4 q hq
    rw [xF, z] at hq
    rw [hI_n (by omega), vs_n (by omega)]
    exact RC_at rp h3 h4 hq
