/-! What the class files hold at the law's entry. -/
def lw_fl : List Cond := flatC (Jvm.Cond.and given_1 narrow_1)
theorem lw_fl_at {args : Array Value} {s : State} (h : (Jvm.Cond.and given_1 narrow_1).before args s = true) {j : Nat} {w : Cond} (hj : decide (lw_fl[j]? = some w) = true) : w.before args s = true := flat_of_before _ h w (List.mem_of_getElem? (of_decide_eq_true hj))
theorem lw_tb_at {args : Array Value} {s : State} (h : ∀ w ∈ lw_tbl, w.before args s = true) {j : Nat} {w : Cond} (hj : decide (lw_tbl[j]? = some w) = true) : w.before args s = true := h w (List.mem_of_getElem? (of_decide_eq_true hj))
def lw_tS (j : Nat) : Term := .static (sr_sC j).1 (sr_sC j).2 "[I"
def lw_jS : Nat → Nat
  | 0 => 1087
  | 1 => 1089
  | _ => 1255
def lw_nS : Nat → Nat
  | 0 => 126
  | 1 => 126
  | _ => 131
def lw_cS : Bool := allB (fun j => decide (lw_fl[10 + 7 * j]? = some (.arrayOf (lw_tS j) .int)) && (decide (lw_fl[11 + 7 * j]? = some (.eq (.length (lw_tS j)) (.int (Int32.ofNat (sr_sa j).length)))) && (allB (fun i => decide (lw_fl[12 + 7 * j + i]? = some (.eq (.elem (lw_tS j) (.int (Int32.ofNat i))) (.int ((sr_sa j).getD i 0))))) (sr_sa j).length && (decide (lw_tbl[lw_jS j]? = some (.laysStatic (sr_sC j).1 (sr_sC j).2 "[I")) && decide (lw_tbl[lw_nS j]? = some (.initialized (sr_sC j).1)))))) 3
theorem lw_cS_ok : lw_cS = true := by decide +kernel
def lw_tK (j : Nat) : Term := .string (sr_tR j).1 (sr_tR j).2.1
def lw_oK : Nat → Nat
  | 0 => 60
  | 1 => 190
  | 2 => 214
  | _ => 232
def lw_jK : Nat → Nat
  | 0 => 162
  | 1 => 1464
  | 2 => 1499
  | _ => 1756
def lw_vK (j : Nat) : Term := .field (lw_tK j) "java/lang/String" "value" "[B"
def lw_cK : Bool := allB (fun j => decide (lw_fl[lw_oK j]? = some (.exactly (lw_tK j) "java/lang/String")) && (decide (lw_fl[lw_oK j + 1]? = some (.eq (.field (lw_tK j) "java/lang/String" "coder" "B") (.int 0))) && (decide (lw_fl[lw_oK j + 2]? = some (.arrayOf (lw_vK j) .byte)) && (decide (lw_fl[lw_oK j + 3]? = some (.eq (.length (lw_vK j)) (.int (Int32.ofNat (sr_ln8.getD j 0))))) && (allB (fun i => decide (lw_fl[lw_oK j + 4 + i]? = some (.eq (.elem (lw_vK j) (.int (Int32.ofNat i))) (.int ((sr_by8.getD j []).getD i 0))))) (sr_ln8.getD j 0) && (decide (lw_tbl[lw_jK j]? = some (.stringRef (sr_tR j).1 (sr_tR j).2.1 (sr_tR j).2.2)) && decide (sr_ln8.getD j 0 < 1000))))))) 4
theorem lw_cK_ok : lw_cK = true := by decide +kernel
def lw_cD : Bool := decide (lw_fl[213]? = some (.not (.eq (lw_tK 0) (lw_tK 1)))) && (decide (lw_fl[230]? = some (.not (.eq (lw_tK 0) (lw_tK 2)))) && (decide (lw_fl[231]? = some (.not (.eq (lw_tK 1) (lw_tK 2)))) && (decide (lw_fl[341]? = some (.not (.eq (lw_tK 0) (lw_tK 3)))) && (decide (lw_fl[342]? = some (.not (.eq (lw_tK 1) (lw_tK 3)))) && decide (lw_fl[343]? = some (.not (.eq (lw_tK 2) (lw_tK 3))))))))
theorem lw_cD_ok : lw_cD = true := by decide +kernel
def lw_cN : Bool := allB (fun own => (sr_ln own).all fun e => !decide (e.2.2.1 = 1) || decide (lw_tbl[e.2.2.2]? = some (.methodLinkNest (sr_cn own) e.1 (sr_y e.2.1) "ScreenRoom"))) 14
theorem lw_cN_ok : lw_cN = true := by decide +kernel
theorem lw_ln_14 : ∀ own, 14 ≤ own → sr_ln own = [] := by
  intro own h
  obtain ⟨k, rfl⟩ : ∃ k, own = k + 14 := ⟨own - 14, by omega⟩
  rfl
theorem lw_arr {args : Array Value} {s : State} {ty : FieldType} (h : (Cond.arrayClass ty).before args s = true) : ∃ cA : ClassId, ArrOfT s cA ty ∧ s.vm.findClass ("[" ++ ty.toString) = some cA := by
  obtain ⟨cA, kA, comp, h1, h2, h3⟩ := Cond.arrayClass_spec h
  exact ⟨cA, fun n z => ⟨fun k h => (by cases h), kA, h2, comp, h3⟩, h1⟩
set_option maxHeartbeats 1000000 in
theorem lw_kn {args : Array Value} {s : State} (hts : ∀ w ∈ lw_tbl, w.before args s = true) (hg : (Jvm.Cond.and given_1 narrow_1).before args s = true) : ∃ G : sr_G, G.1 = s.heap.size ∧ sr_kn G s := by
  have hts' : ∀ w ∈ sr_tb, w.before args s = true := fun w hw => hts w (List.mem_filter.mp hw).1
  have hA : ∀ a : Nat, a < s.heap.size → ¬ (fun q : Nat => s.heap.size ≤ q) a := fun a h => Nat.not_le.mpr h
  have hcS := allB_ok 3 lw_cS_ok
  have hcK := allB_ok 4 lw_cK_ok
  have hcD := lw_cD_ok
  unfold lw_cD at hcD
  simp only [Bool.and_eq_true] at hcD
  obtain ⟨d1, d2, d3, d4, d5, d6⟩ := hcD
  -- the statics
  have hS : ∀ j : Nat, ∃ t : Nat, j < 3 → va_Z (sr_sC j).1 (sr_sC j).2 "[I" (.ref t) (fun q => s.heap.size ≤ q) s s.heap ∧ va_T .int t (sr_sa j).length (fun i => .int ((sr_sa j).getD i 0)) (fun q => s.heap.size ≤ q) s s.heap := by
    intro j
    by_cases hj : j < 3
    · have c := hcS j hj
      simp only [Bool.and_eq_true] at c
      obtain ⟨c1, c2, c3, c4, c5⟩ := c
      have c3 := allB_ok _ c3
      have hlt : (sr_sa j).length < 2 ^ 31 := by
        have : j = 0 ∨ j = 1 ∨ j = 2 := by omega
        rcases this with rfl | rfl | rfl <;> decide
      obtain ⟨t, e, T⟩ := va_Tof (tm := lw_tS j) (ty := .int) (f := fun i => .int ((sr_sa j).getD i 0)) (A := fun q => s.heap.size ≤ q) hlt (lw_fl_at hg c1) (va_eqt (lw_fl_at hg c2)) (fun i hi => va_eqt (lw_fl_at hg (c3 i hi))) hA
      exact ⟨t, fun _ => ⟨va_Zof (lw_tb_at hts c4) (lw_tb_at hts c5) e hA, T⟩⟩
    · exact ⟨0, fun h => absurd h hj⟩
  obtain ⟨tS, hS⟩ := Classical.axiomOfChoice hS
  -- the texts
  have hK : ∀ j : Nat, j < 4 → _ := fun j hj => hcK j hj
  have cK : ∀ j : Nat, j < 4 → (Cond.exactly (lw_tK j) "java/lang/String").before args s = true ∧ (Cond.eq (.field (lw_tK j) "java/lang/String" "coder" "B") (.int 0)).before args s = true ∧ (Cond.arrayOf (lw_vK j) .byte).before args s = true ∧ (Cond.eq (.length (lw_vK j)) (.int (Int32.ofNat (sr_ln8.getD j 0)))).before args s = true ∧ (∀ i, i < sr_ln8.getD j 0 → (Cond.eq (.elem (lw_vK j) (.int (Int32.ofNat i))) (.int ((sr_by8.getD j []).getD i 0))).before args s = true) ∧ (Cond.stringRef (sr_tR j).1 (sr_tR j).2.1 (sr_tR j).2.2).before args s = true ∧ sr_ln8.getD j 0 < 1000 := by
    intro j hj
    have c := hK j hj
    simp only [Bool.and_eq_true] at c
    obtain ⟨c1, c2, c3, c4, c5, c6, c7⟩ := c
    have c5 := allB_ok _ c5
    exact ⟨lw_fl_at hg c1, lw_fl_at hg c2, lw_fl_at hg c3, lw_fl_at hg c4, fun i hi => lw_fl_at hg (c5 i hi), lw_tb_at hts c6, of_decide_eq_true c7⟩
  obtain ⟨adK, adV, hVS, hVR⟩ := vk_Sof (args := args) (s := s) (N := 4) (tm := lw_tK) (len := sr_ln8) (byt := sr_by8) (A := fun q => s.heap.size ≤ q) (fun i hi => Nat.lt_trans (cK i hi).2.2.2.2.2.2 (by decide)) (fun i hi => (cK i hi).1) (fun i hi => (cK i hi).2.1) (fun i hi => (cK i hi).2.2.1) (fun i hi => (cK i hi).2.2.2.1) (fun i hi j hj => (cK i hi).2.2.2.2.1 j hj) (by
    intro i j hi hj hne
    have hi' : i = 0 ∨ i = 1 ∨ i = 2 ∨ i = 3 := by omega
    have hj' : j = 0 ∨ j = 1 ∨ j = 2 ∨ j = 3 := by omega
    rcases hi' with rfl | rfl | rfl | rfl <;> rcases hj' with rfl | rfl | rfl | rfl
    · exact absurd rfl hne
    · exact Or.inl (lw_fl_at hg d1)
    · exact Or.inl (lw_fl_at hg d2)
    · exact Or.inl (lw_fl_at hg d4)
    · exact Or.inr (lw_fl_at hg d1)
    · exact absurd rfl hne
    · exact Or.inl (lw_fl_at hg d3)
    · exact Or.inl (lw_fl_at hg d5)
    · exact Or.inr (lw_fl_at hg d2)
    · exact Or.inr (lw_fl_at hg d3)
    · exact absurd rfl hne
    · exact Or.inl (lw_fl_at hg d6)
    · exact Or.inr (lw_fl_at hg d4)
    · exact Or.inr (lw_fl_at hg d5)
    · exact Or.inr (lw_fl_at hg d6)
    · exact absurd rfl hne) hA
  -- the classes
  have hC : ∀ ci : Nat, ∃ z : ClassId × (Nat → Nat), ∀ q : vw_C, vwCl[ci]? = some q → u_Kn s q.1 q.2.1 q.2.2 z.1 z.2 := by
    intro ci
    cases e : vwCl[ci]? with
    | none => exact ⟨(0, fun _ => 0), fun q h => by cases h⟩
    | some q =>
      obtain ⟨c1, c2, -⟩ := sr_TF_ok.2.1 ci q e
      obtain ⟨cC, iS, k⟩ := u_known (ws := sr_tb) hts' c1 (hts' _ c2)
      exact ⟨(cC, iS), fun q' h => by cases h; exact k⟩
  obtain ⟨dC, hC⟩ := Classical.axiomOfChoice hC
  obtain ⟨aI, fI1, fI2⟩ := lw_arr (hts' _ sr_TF_ok.2.2.2.2.2.2.2.2.2.1.2.2.2.2.2.2.2.2.2.2.2.2.2.1)
  obtain ⟨aZ, fZ1, fZ2⟩ := lw_arr (hts' _ sr_TF_ok.2.2.2.2.2.2.2.2.2.1.2.2.2.2.2.2.2.2.2.2.2.2.2.2.1)
  obtain ⟨aJ, fJ1, fJ2⟩ := lw_arr (hts' _ sr_TF_ok.2.2.2.2.2.2.2.2.2.1.2.2.2.2.2.2.2.2.2.2.2.2.2.2.2)
  refine ⟨(s.heap.size, (fun k => if k < 3 then tS k else adK (k - 1000000)), (fun c => (dC c).1, fun c => (dC c).2), aI, aZ, aJ), rfl, ⟨fun c q hq => hC c q hq, fun k q hk => ?_⟩, fun j hj => ?_, ⟨adV, ?_⟩, fun j hj => ?_, ?_, ?_, fun own e he h1 => ?_⟩
  · have hk3 : k < 3 := (List.getElem?_eq_some_iff.mp hk).1
    have hk' : k = 0 ∨ k = 1 ∨ k = 2 := by omega
    rcases hk' with rfl | rfl | rfl
    · cases hk
      exact ⟨fI1, fI2⟩
    · cases hk
      exact ⟨fZ1, fZ2⟩
    · cases hk
      exact ⟨fJ1, fJ2⟩
  · have e : (if j < 3 then tS j else adK (j - 1000000)) = tS j := if_pos hj
    have z := hS j hj
    rw [← e] at z
    exact z
  · have e : (fun j => if 1000000 + j < 3 then tS (1000000 + j) else adK (1000000 + j - 1000000)) = adK := by
      funext j
      rw [if_neg (by omega), Nat.add_sub_cancel_left]
    have z := hVS
    rw [← e] at z
    exact z
  · have e : (if 1000000 + j < 3 then tS (1000000 + j) else adK (1000000 + j - 1000000)) = adK j := by
      rw [if_neg (by omega), Nat.add_sub_cancel_left]
    have z := vk_R.of (cK j hj).2.2.2.2.2.1 (hVR j hj)
    rw [← e] at z
    exact z
  · exact va_Zof (lw_tb_at hts (j := 172) (by decide +kernel)) (lw_tb_at hts (j := 120) (by decide +kernel)) (va_eqi (lw_fl_at hg (j := 4) (by decide +kernel))) hA
  · exact va_Zqof (lw_tb_at hts (j := 180) (by decide +kernel)) (lw_tb_at hts (j := 122) (by decide +kernel)) (lw_fl_at hg (j := 5) (by decide +kernel)) hA
  · have ho : own < 14 := by
      rcases Nat.lt_or_ge own 14 with q | q
      · exact q
      · rw [lw_ln_14 own q] at he
        cases he
    have c := List.all_eq_true.mp (allB_ok 14 lw_cN_ok own ho) e he
    simp only [Bool.or_eq_true, Bool.not_eq_true', decide_eq_false_iff_not] at c
    rcases c with c | c
    · exact absurd h1 c
    · exact va_Nw.of rfl (lw_tb_at hts c)
