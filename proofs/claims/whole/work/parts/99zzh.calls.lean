/-! One theorem a call: both sides answer alike, and stand side by side again. -/
theorem sv_known {q y x xi g : V} {H : Nat → V} {n : Int32} (v : SV q y x xi H g) (a : a_known g n) : SV q y x xi H (knG g n) := by
  obtain ⟨w1, w2, w3⟩ := v.2.2.2.2.2
  have e0 : knG g n 0 0 = g 0 0 := vs_n (by omega)
  have e1 : knG g n 0 1 = if n = -1 then 0 else n.toNatClampNeg + 1 := vs_y
  have ek : ∀ i k, 1 ≤ i → knG g n i k = g i k := fun i k h1 => vs_n (by omega)
  refine sv_g v ⟨by rw [e0]; exact w1, ?_, fun k hk => ?_⟩
  · rw [e0, e1]
    rcases a with rfl | a
    · rw [if_pos rfl]; exact Nat.zero_le _
    · have := a.2
      split
      · exact Nat.zero_le _
      · omega
  · rw [e0] at hk
    rw [ek 5 k (by omega), ek 1 k (by omega), ek 2 k (by omega), ek 3 k (by omega), ek 4 k (by omega)]
    exact w3 k hk
theorem j_fault {dA dB : Nat} {h : sr_H} {w : Int32} (j : JX h) : sr_M (dA + 1) 129 [.ref 0, .int w] h (JC (dB + 1) 205 [.int w] kI h) := by
  obtain ⟨T, q, y, x, xi, H, g, j⟩ := j
  have v := j.2.2.1
  exact (c_fault j.1).mpr (j_c j gl_i1 ⟨_, rfl⟩ Fq.rf j.1 v (fun m => e_fault m v (fun _ mk => ⟨rfl, mk.1⟩)))
theorem j_named {dA dB : Nat} {h : sr_H} {w l : Int32} (j : JX h) : sr_M (dA + 2) 130 [.ref 0, .int w, .int l] h (JC (dB + 2) 206 [.int w, .int l] kI h) := by
  obtain ⟨T, q, y, x, xi, H, g, j⟩ := j
  have v := j.2.2.1
  exact (c_named j.1 v).mpr (j_c j gl_i2 ⟨_, rfl⟩ Fq.rf j.1 v (fun m => e_named m v (fun _ mk => ⟨rfl, mk.1⟩)))
theorem j_screen {dA dB : Nat} {h : sr_H} {s w : Int32} (j : JX h) : sr_M (dA + 2) 132 [.ref 0, .int s, .int w] h (JC (dB + 2) 250 [.int s, .int w] kI h) := by
  obtain ⟨T, q, y, x, xi, H, g, j⟩ := j
  have v := j.2.2.1
  exact (c_screen j.1 v).mpr (j_c j gl_i2 ⟨_, rfl⟩ Fq.rf j.1 v (fun m => e_screen m v (fun _ mk => ⟨rfl, mk.1⟩)))
theorem j_season {dA dB : Nat} {h : sr_H} {r k : Int32} (j : JX h) : sr_M (dA + 2) 133 [.ref 0, .int r, .int k] h (JC (dB + 12) 251 [.int r, .int k] kI h) := by
  obtain ⟨T, q, y, x, xi, H, g, j⟩ := j
  have v := j.2.2.1
  exact (c_season j.1 v).mpr (j_c j gl_i2 ⟨_, rfl⟩ Fq.rf j.1 v (fun m => e_season m v (fun _ mk => ⟨rfl, mk.1⟩)))
theorem j_leaf {dA dB : Nat} {h : sr_H} {r k : Int32} (j : JX h) : sr_M (dA + 2) 134 [.ref 0, .int r, .int k] h (JC (dB + 12) 252 [.int r, .int k] kI h) := by
  obtain ⟨T, q, y, x, xi, H, g, j⟩ := j
  have v := j.2.2.1
  exact (c_leaf j.1 v).mpr (j_c j gl_i2 ⟨_, rfl⟩ Fq.rf j.1 v (fun m => e_leaf m v (fun _ mk => ⟨rfl, mk.1⟩)))
theorem j_law {dA dB : Nat} {h : sr_H} {w k : Int32} (j : JX h) : sr_M (dA + 5) 135 [.ref 0, .int w, .int k] h (JC (dB + 13) 253 [.int w, .int k] kJ h) := by
  obtain ⟨T, q, y, x, xi, H, g, j⟩ := j
  have v := j.2.2.1
  exact c_law j.1 v (fun h1 c1 f1 => j_c j gl_i2 ⟨_, rfl⟩ f1 c1 v (fun m => e_law m v (fun _ mk => ⟨rfl, mk.1⟩)))
theorem j_ofSeason {dA dB : Nat} {h : sr_H} {s : Int32} (j : JX h) : sr_M (dA + 3) 149 [.ref 0, .int s] h (JC (dB + 13) 268 [.int s] kI h) := by
  obtain ⟨T, q, y, x, xi, H, g, j⟩ := j
  have v := j.2.2.1
  exact (c_ofSeason j.1 v).mpr (j_c j gl_i1 ⟨_, rfl⟩ Fq.rf j.1 v (fun m => e_ofSeason m v (fun _ mk => ⟨rfl, mk.1⟩)))
theorem j_worth {dA dB : Nat} {h : sr_H} {s : Int32} (j : JX h) : sr_M (dA + 4) 150 [.ref 0, .int s] h (JC (dB + 15) 271 [.int s] kI h) := by
  obtain ⟨T, q, y, x, xi, H, g, j⟩ := j
  have v := j.2.2.1
  exact c_worth j.1 v (fun h1 c1 f1 => j_c j gl_i1 ⟨_, rfl⟩ f1 c1 v (fun m => e_worth m v (fun _ mk => ⟨rfl, mk.1⟩)))
theorem j_needed {dA dB : Nat} {h : sr_H} (j : JX h) : sr_M (dA + 4) 156 [.ref 0] h (JC (dB + 14) 273 [] kI h) := by
  obtain ⟨T, q, y, x, xi, H, g, j⟩ := j
  have v := j.2.2.1
  exact c_needed j.1 v (fun h1 c1 f1 => j_c j gl_i0 ⟨_, rfl⟩ f1 c1 v (fun m => e_needed m v (fun _ mk => ⟨rfl, mk.1⟩)))
theorem j_count {dA dB : Nat} {h : sr_H} {w : Int32} (j : JX h) : sr_M (dA + 12) 167 [.ref 0, .int w] h (JC (dB + 14) 296 [.int w] kI h) := by
  obtain ⟨T, q, y, x, xi, H, g, j⟩ := j
  have v := j.2.2.1
  exact (c_count j.1 v).mpr (j_c j gl_i1 ⟨_, rfl⟩ Fq.rf j.1 v (fun m => e_count m v (fun _ mk => ⟨rfl, mk.1⟩)))
theorem j_nextTo {dA dB : Nat} {h : sr_H} {p : Int32} (j : JX h) : sr_M (dA + 10) 157 [.ref 0, .int p] h (JC (dB + 10) 283 [.int p] kI h) := by
  obtain ⟨T, q, y, x, xi, H, g, j⟩ := j
  have v := j.2.2.1
  exact (c_nextTo j.1 v).mpr (j_c j gl_i1 ⟨_, rfl⟩ Fq.rf j.1 v (fun m => e_nextTo m v (fun _ mk => ⟨rfl, mk.1⟩)))
theorem j_steps {dA dB : Nat} {h : sr_H} {p r k : Int32} (j : JX h) : sr_M (dA + 11) 145 [.ref 0, .int p, .int r, .int k] h (JC (dB + 15) 264 [.int p, .int r, .int k] kI h) := by
  obtain ⟨T, q, y, x, xi, H, g, j⟩ := j
  have v := j.2.2.1
  exact c_steps j.1 v (fun h1 c1 f1 => j_c j gl_i3 ⟨_, rfl⟩ f1 c1 v (fun m => e_steps m v (fun _ mk => ⟨rfl, mk.1⟩)))
theorem j_young {dA dB : Nat} {h : sr_H} {p r k : Int32} (j : JX h) : sr_M (dA + 11) 146 [.ref 0, .int p, .int r, .int k] h (JC (dB + 15) 265 [.int p, .int r, .int k] kI h) := by
  obtain ⟨T, q, y, x, xi, H, g, j⟩ := j
  have v := j.2.2.1
  exact c_young j.1 v (fun h1 c1 f1 => j_c j gl_i3 ⟨_, rfl⟩ f1 c1 v (fun m => e_young m v (fun _ mk => ⟨rfl, mk.1⟩)))
theorem j_stand {dA dB : Nat} {h : sr_H} {s u : Int32} (j : JX h) : sr_M (dA + 5) 148 [.ref 0, .int s, .int u] h (JC (dB + 14) 267 [.int s, .int u] kI h) := by
  obtain ⟨T, q, y, x, xi, H, g, j⟩ := j
  have v := j.2.2.1
  exact c_stand j.1 v (fun h1 c1 f1 => j_c j gl_i2 ⟨_, rfl⟩ f1 c1 v (fun m => e_stand m v (fun _ mk => ⟨rfl, mk.1⟩)))
theorem j_meet {dA dB : Nat} {h : sr_H} {a b u : Int32} (j : JX h) : sr_M (dA + 5) 155 [.ref 0, .int a, .int b, .int u] h (JC (dB + 14) 266 [.int a, .int b, .int u] kI h) := by
  obtain ⟨T, q, y, x, xi, H, g, j⟩ := j
  have v := j.2.2.1
  exact c_meet j.1 v (fun h1 c1 f1 => j_c j gl_i3 ⟨_, rfl⟩ f1 c1 v (fun m => e_meet m v (fun _ mk => ⟨rfl, mk.1⟩)))
theorem j_rests {dA dB : Nat} {h : sr_H} {a b : Int32} (j : JX h) : sr_M (dA + 11) 151 [.ref 0, .int a, .int b] h (JC (dB + 16) 279 [.int a, .int b] kI h) := by
  obtain ⟨T, q, y, x, xi, H, g, j⟩ := j
  have v := j.2.2.1
  exact c_rests j.1 v (fun h1 c1 f1 => j_c j gl_i2 ⟨_, rfl⟩ f1 c1 v (fun m => e_rests m v (fun _ mk => ⟨rfl, mk.1⟩)))
theorem j_rest {dA dB : Nat} {h : sr_H} {a b k : Int32} (j : JX h) : sr_M (dA + 11) 152 [.ref 0, .int a, .int b, .int k] h (JC (dB + 16) 280 [.int a, .int b, .int k] kI h) := by
  obtain ⟨T, q, y, x, xi, H, g, j⟩ := j
  have v := j.2.2.1
  exact c_rest j.1 v (fun h1 c1 f1 => j_c j gl_i3 ⟨_, rfl⟩ f1 c1 v (fun m => e_rest m v (fun _ mk => ⟨rfl, mk.1⟩)))
theorem j_holds {dA dB : Nat} {h : sr_H} {s n u : Int32} (j : JX h) : sr_M (dA + 2) 154 [.ref 0, .int s, .int n, .int u] h (JC (dB + 2) 282 [.int s, .int n, .int u] kJ h) := by
  obtain ⟨T, q, y, x, xi, H, g, j⟩ := j
  have v := j.2.2.1
  exact (c_holds j.1 v).mpr (j_c j gl_i3 ⟨_, rfl⟩ Fq.rf j.1 v (fun m => e_holds m v (fun _ mk => ⟨rfl, mk.1⟩)))
theorem j_ahead {dA dB : Nat} {h : sr_H} {n u i : Int32} (j : JX h) : sr_M (dA + 12) 143 [.ref 0, .int n, .int u, .int i] h (JC (dB + 16) 260 [.int n, .int u, .int i] kI h) := by
  obtain ⟨T, q, y, x, xi, H, g, j⟩ := j
  have v := j.2.2.1
  exact c_ahead j.1 v (fun h1 c1 f1 => j_c j gl_i3 ⟨_, rfl⟩ f1 c1 v (fun m => e_ahead m v (fun _ mk => ⟨rfl, mk.1⟩)))
theorem j_tried {dA dB : Nat} {h : sr_H} {u i n : Int32} (j : JX h) : sr_M (dA + 12) 163 [.ref 0, .int u, .int i, .int n] h (JC (dB + 17) 292 [.int u, .int i, .int n] kI h) := by
  obtain ⟨T, q, y, x, xi, H, g, j⟩ := j
  have v := j.2.2.1
  exact c_tried j.1 v (fun h1 c1 f1 => j_c j gl_i3 ⟨_, rfl⟩ f1 c1 v (fun m => e_tried m v (fun _ mk => ⟨rfl, mk.1⟩)))
theorem j_chance {dA dB : Nat} {h : sr_H} {sd n wl : Int32} (j : JX h) : sr_M (dA + 12) 162 [.ref 0, .int sd, .int n, .int wl] h (JC (dB + 15) 291 [.int sd, .int n, .int wl] kI h) := by
  obtain ⟨T, q, y, x, xi, H, g, j⟩ := j
  have v := j.2.2.1
  exact c_chance j.1 v (fun h1 c1 f1 => j_c j gl_i3 ⟨_, rfl⟩ f1 c1 v (fun m => e_chance m v (fun _ mk => ⟨rfl, mk.1⟩)))
theorem j_painted {dA dB : Nat} {h : sr_H} {s : Int32} (j : JX h) : sr_M (dA + 12) 161 [.ref 0, .int s] h (JC (dB + 16) 290 [.int s] kI h) := by
  obtain ⟨T, q, y, x, xi, H, g, j⟩ := j
  have v := j.2.2.1
  exact c_painted j.1 v (fun h1 c1 f1 => j_c j gl_i1 ⟨_, rfl⟩ f1 c1 v (fun m => e_painted m v (fun _ mk => ⟨rfl, mk.1⟩)))
theorem j_carry {dA dB : Nat} {h : sr_H} {s r k : Int32} (j : JX h) : sr_M (dA + 12) 136 [.ref 0, .int s, .int r, .int k] h (JC (dB + 5) 255 [.int s, .int r, .int k] kI h) := by
  obtain ⟨T, q, y, x, xi, H, g, j⟩ := j
  have v := j.2.2.1
  exact c_carry j.1 v (fun n => j_c j gl_i3 ⟨_, rfl⟩ Fq.rf j.1 v (fun m => e_carry m v (fun _ _ mk => ⟨rfl, mk.1⟩) (fun a => absurd a n))) (fun a h1 c1 f1 => j_c j gl_i3 ⟨_, rfl⟩ f1 c1 (sv_carry v a) (fun m => e_carry m v (fun n => absurd a n) (fun _ _ mk => ⟨rfl, mk.1⟩)))
theorem j_turn {dA dB : Nat} {h : sr_H} {s : Int32} (j : JX h) : sr_M (dA + 12) 137 [.ref 0, .int s] h (JC (dB + 5) 256 [.int s] kI h) := by
  obtain ⟨T, q, y, x, xi, H, g, j⟩ := j
  have v := j.2.2.1
  exact c_turn j.1 v (fun n => j_c j gl_i1 ⟨_, rfl⟩ Fq.rf j.1 v (fun m => e_turn m v (fun _ _ mk => ⟨rfl, mk.1⟩) (fun a => absurd a n))) (fun a h1 c1 f1 => j_c j gl_i1 ⟨_, rfl⟩ f1 c1 (sv_turn v a) (fun m => e_turn m v (fun n => absurd a n) (fun _ _ mk => ⟨rfl, mk.1⟩)))
theorem j_mend {dA dB : Nat} {h : sr_H} {s : Int32} (j : JX h) : sr_M (dA + 11) 139 [.ref 0, .int s] h (JC (dB + 3) 257 [.int s] kI h) := by
  obtain ⟨T, q, y, x, xi, H, g, j⟩ := j
  have v := j.2.2.1
  exact c_mend j.1 v (fun n => j_c j gl_i1 ⟨_, rfl⟩ Fq.rf j.1 v (fun m => e_mend m v (fun _ _ mk => ⟨rfl, mk.1⟩) (fun a => absurd a n))) (fun a h1 c1 f1 => j_c j gl_i1 ⟨_, rfl⟩ f1 c1 (sv_mend v a) (fun m => e_mend m v (fun n => absurd a n) (fun _ _ mk => ⟨rfl, mk.1⟩)))
theorem j_step {dA dB : Nat} {h : sr_H} {p u : Int32} (j : JX h) : sr_M (dA + 11) 140 [.ref 0, .int p, .int u] h (JC (dB + 14) 258 [.int p, .int u] kI h) := by
  obtain ⟨T, q, y, x, xi, H, g, j⟩ := j
  have v := j.2.2.1
  exact c_step j.1 v (fun n => j_c j gl_i2 ⟨_, rfl⟩ Fq.rf j.1 v (fun m => e_step m v (fun _ _ mk => ⟨rfl, mk.1⟩) (fun a => absurd a n))) (fun a h1 c1 f1 => j_c j gl_i2 ⟨_, rfl⟩ f1 c1 (sv_step v a) (fun m => e_step m v (fun n => absurd a n) (fun _ _ mk => ⟨rfl, mk.1⟩)))
theorem j_go {dA dB : Nat} {h : sr_H} {n : Int32} (j : JX h) : sr_M (dA + 12) 141 [.ref 0, .int n] h (JC (dB + 15) 259 [.int n] kI h) := by
  obtain ⟨T, q, y, x, xi, H, g, j⟩ := j
  have v := j.2.2.1
  exact c_go j.1 v (fun n => j_c j gl_i1 ⟨_, rfl⟩ Fq.rf j.1 v (fun m => e_go m v (fun _ _ mk => ⟨rfl, mk.1⟩) (fun a => absurd a n))) (fun a h1 c1 f1 => j_c j gl_i1 ⟨_, rfl⟩ f1 c1 (sv_go v a) (fun m => e_go m v (fun n => absurd a n) (fun _ _ mk => ⟨rfl, mk.1⟩)))
theorem j_known {dA dB : Nat} {h : sr_H} {n : Int32} (j : JX h) : sr_M (dA + 1) 160 [.ref 0, .int n] h (JC (dB + 1) 286 [.int n] kI h) := by
  obtain ⟨T, q, y, x, xi, H, g, j⟩ := j
  have v := j.2.2.1
  exact c_known j.1 v (fun n => j_c j gl_i1 ⟨_, rfl⟩ Fq.rf j.1 v (fun m => e_known m v (fun _ _ mk => ⟨rfl, mk.1⟩) (fun a => absurd a n))) (fun a h1 c1 f1 => j_c j gl_i1 ⟨_, rfl⟩ f1 c1 (sv_known v a) (fun m => e_known m v (fun n => absurd a n) (fun _ _ mk => ⟨rfl, mk.1⟩)))
theorem j_out {dA dB : Nat} {h : sr_H} {s : Int32} (j : JX h) : sr_M (dA + 2) 159 [.ref 0, .int s] h (JC (dB + 1) 285 [.int s] kI h) := by
  obtain ⟨T, q, y, x, xi, H, g, j⟩ := j
  have v := j.2.2.1
  exact c_out j.1 v (fun n => j_c j gl_i1 ⟨_, rfl⟩ Fq.rf j.1 v (fun m => e_out m v (fun _ _ mk => ⟨rfl, mk.1⟩) (fun a => absurd a n))) (fun a h1 c1 f1 => j_c j gl_i1 ⟨_, rfl⟩ f1 c1 (sv_out v a) (fun m => e_out m v (fun n => absurd a n) (fun _ _ mk => ⟨rfl, mk.1⟩)))
theorem j_see {dA dB : Nat} {h : sr_H} {hr r k se : Int32} {b : Nat} (hb : b ≤ 1) (j : JX h) : sr_M (dA + 2) 158 [.ref 0, .int hr, .int r, .int k, .int se, .int (nI b)] h (JC (dB + 2) 284 [.int hr, .int r, .int k, .int se, .int (nI b)] kI h) := by
  obtain ⟨T, q, y, x, xi, H, g, j⟩ := j
  have v := j.2.2.1
  exact c_see j.1 v hb (fun n => j_c j gl_i5 ⟨_, rfl⟩ Fq.rf j.1 v (fun m => e_see m v hb (fun _ _ mk => ⟨rfl, mk.1⟩) (fun a => absurd a n))) (fun a h1 c1 f1 => j_c j gl_i5 ⟨_, rfl⟩ f1 c1 (sv_see v hb a) (fun m => e_see m v hb (fun n => absurd a n) (fun _ _ mk => ⟨rfl, mk.1⟩)))
theorem j_feed {dA dB : Nat} {h : sr_H} {a b c' d' e : Int32} (j : JX h) : sr_M (dA + 2) 127 [.ref 0, .int a, .int b, .int c', .int d', .int e] h (JC (dB + 1) 170 [.int a, .int b, .int c', .int d', .int e] kI h) := by
  obtain ⟨T, q, y, x, xi, H, g, j⟩ := j
  have v := j.2.2.1
  exact c_feed j.1 v (fun n => j_c j gl_i5 ⟨_, rfl⟩ Fq.rf j.1 v (fun m => e_feed m v (fun _ _ mk => ⟨rfl, mk.1⟩) (fun a => absurd a (by omega)))) (fun a h1 c1 f1 => j_c j gl_i5 ⟨_, rfl⟩ f1 c1 (sv_feed v a) (fun m => e_feed m v (fun n => absurd a (by omega)) (fun _ _ mk => ⟨rfl, mk.1⟩)))
theorem j_undo {dA dB : Nat} {h : sr_H} (j : JX h) : sr_M (dA + 4) 164 [.ref 0] h (JC (dB + 2) 293 [] kI h) := by
  obtain ⟨T, q, y, x, xi, H, g, j⟩ := j
  have v := j.2.2.1
  refine c_undo j.1 v (fun z => j_c j gl_i0 ⟨_, rfl⟩ Fq.rf j.1 v (fun m => e_undo m v (fun _ _ mk => ⟨rfl, mk.1⟩) (fun k a => absurd a (by omega)))) (fun k a h1 c1 f1 => j_c j gl_i0 ⟨_, rfl⟩ f1 c1 (sv_undo v a) (fun m => e_undo m v (fun z => absurd a (by omega)) (fun k2 a2 _ mk => ?_)))
  have e : k2 = k := by omega
  subst e
  exact ⟨rfl, mk.1⟩
theorem j_keep {dA dB : Nat} {h : sr_H} (j : JX h) : sr_M (dA + 11) 165 [.ref 0] h (JC (dB + 2) 294 [] kI h) := by
  obtain ⟨T, q, y, x, xi, H, g, j⟩ := j
  have v := j.2.2.1
  exact c_keep j.1 v (fun h1 c1 f1 => j_c j gl_i0 ⟨_, rfl⟩ f1 c1 (sv_keep v) (fun m => e_keep m v (fun _ mk => ⟨rfl, mk.1⟩)))
theorem j_back {dA dB : Nat} {h : sr_H} (j : JX h) : sr_M (dA + 11) 166 [.ref 0] h (JC (dB + 2) 295 [] kI h) := by
  obtain ⟨T, q, y, x, xi, H, g, j⟩ := j
  have v := j.2.2.1
  exact c_back j.1 v (fun z => j_c j gl_i0 ⟨_, rfl⟩ Fq.rf j.1 v (fun m => e_back m v (fun _ _ mk => ⟨rfl, mk.1⟩) (fun a => absurd a (by omega)))) (fun a h1 c1 f1 => j_c j gl_i0 ⟨_, rfl⟩ f1 c1 (sv_back v a) (fun m => e_back m v (fun z => absurd a (by omega)) (fun _ _ mk => ⟨rfl, mk.1⟩)))
theorem j_text {dA dB : Nat} {h : sr_H} {n : Int32} (j : JX h) : sr_M (dA + 16) 128 [.ref 0, .int n] h (JC (dB + 153) 204 [.int n] kI h) := by
  obtain ⟨T, q, y, x, xi, H, g, j⟩ := j
  have v := j.2.2.1
  refine c_text j.1 v (fun n => ?_) (fun e i pe h1 c1 f1 => ?_) (fun y' p' i pe h1 c1 f1 => ?_)
  · exact j_c j gl_i1 ⟨_, rfl⟩ Fq.rf j.1 v (fun m => e_text m v (fun _ _ mk => ⟨rfl, mk.1⟩) (fun e i => absurd i n) (fun y' p' i => absurd i n))
  · refine j_c j gl_i1 ⟨_, rfl⟩ f1 c1 (sv_tf v (Nat.le_of_lt_succ i.2) pe) (fun m => e_text m v (fun n => absurd i n) (fun e2 i2 pe2 h2 mk => ?_) (fun y2 p2 i2 pe2 => ?_))
    · rw [pe] at pe2
      cases pe2
      exact ⟨rfl, mk.1⟩
    · rw [pe] at pe2
      cases pe2
  · refine j_c j gl_i1 ⟨_, rfl⟩ f1 c1 (sv_tq v (Nat.le_of_lt_succ i.2) pe) (fun m => e_text m v (fun n => absurd i n) (fun e2 i2 pe2 => ?_) (fun y2 p2 i2 pe2 h2 mk => ?_))
    · rw [pe] at pe2
      cases pe2
    · rw [pe] at pe2
      cases pe2
      exact ⟨rfl, mk.1⟩
/-- folk, where it doesn't throw -/
theorem j_folk {dA dB T : Nat} {q y x xi g : V} {H : Nat → V} {h : sr_H} {p w : Int32} (j : JS h T q y x xi H g) (hp : inb p (xF x)) (hw : inb w 6) : sr_M (dA + 4) 131 [.ref 0, .int p, .int w] h (fun r h1 => (∃ u, r = some (.int u)) ∧ Fq h h1 ∧ sr_M (dB + 12) 249 [.ref 141, .int p, .int w] h1 (fun r2 h2 => r2 = r ∧ JX h2 ∧ gf h1 h2 ∧ fI h2 141 0 = nI 0)) := by
  have v := j.2.2.1
  obtain ⟨p0, hp0, rfl⟩ := nI_of hp.1
  obtain ⟨w0, hw0, rfl⟩ := nI_of hw.1
  have hp' := (inb_nI hp0).mp hp
  have hw' := (inb_nI hw0).mp hw
  refine (c_folk j.1 v hp' (by omega)).mpr ⟨⟨_, rfl⟩, Fq.rf, ?_⟩
  refine wM_mono (m_leaves (gl_1 gl_i2) j.2.2.2 (e_folk (Q := fun r2 h2 => r2 = some (.int (a_folk x p0 w0)) ∧ MK h2 q y x xi H g) j.2.1 v hp' (by omega) (fun h' mk => ⟨rfl, mk⟩))) ?_
  rintro r2 h2 ⟨⟨e, m⟩, l⟩
  exact ⟨e, ⟨T, q, y, x, xi, H, g, CR_cell l.2.1 (fun a ha => l.2.2 a (by unfold gO; omega)) j.1, m.1, v, l.1⟩, l, m.2⟩
theorem j_folk1 {dB T : Nat} {q y x xi g : V} {H : Nat → V} {h : sr_H} {p w : Int32} (j : JS h T q y x xi H g) (hp : ¬ inb p (xF x)) : sr_M (dB + 2) 249 [.ref 141, .int p, .int w] h (fun r2 h2 => r2 = some (.int (nI 0)) ∧ JX h2 ∧ gf h h2 ∧ fI h2 141 0 = nI 1) := by
  have v := j.2.2.1
  refine wM_mono (m_leaves (gl_1 gl_i2) j.2.2.2 (e_folk1 (Q := fun r2 h2 => r2 = some (.int (nI 0)) ∧ MR h2 q y x xi H g ∧ fI h2 141 0 = nI 1) j.2.1 v hp (fun h' mr e => ⟨rfl, mr, e⟩))) ?_
  rintro r2 h2 ⟨⟨e, m, e0⟩, l⟩
  exact ⟨e, ⟨T, q, y, x, xi, H, g, CR_cell l.2.1 (fun a ha => l.2.2 a (by unfold gO; omega)) j.1, m, v, l.1⟩, l, e0⟩
theorem j_folk2 {dB T : Nat} {q y x xi g : V} {H : Nat → V} {h : sr_H} {p w : Int32} (j : JS h T q y x xi H g) (hp : inb p (xF x)) (hw : ¬ inb w 6) : sr_M (dB + 2) 249 [.ref 141, .int p, .int w] h (fun r2 h2 => r2 = some (.int (nI 0)) ∧ JX h2 ∧ gf h h2 ∧ fI h2 141 0 = nI 2) := by
  have v := j.2.2.1
  refine wM_mono (m_leaves (gl_1 gl_i2) j.2.2.2 (e_folk2 (Q := fun r2 h2 => r2 = some (.int (nI 0)) ∧ MR h2 q y x xi H g ∧ fI h2 141 0 = nI 2) j.2.1 v hp hw (fun h' mr e => ⟨rfl, mr, e⟩))) ?_
  rintro r2 h2 ⟨⟨e, m, e0⟩, l⟩
  exact ⟨e, ⟨T, q, y, x, xi, H, g, CR_cell l.2.1 (fun a ha => l.2.2 a (by unfold gO; omega)) j.1, m, v, l.1⟩, l, e0⟩
