/-! One body: block by block. -/
def sr_M7 (l : Launch) (G : sr_G) : Prop := ∀ (j : Nat) (i : Int32), j < 4 → ¬ i < 0 → i.toNatClampNeg < (sr_tx j).length → Met l (sr_bn 7) (.code (sr_bn 7) prog_23_method_56_code 2 (some .char) :: sr_tb) (sr_rm 7 0 0) (fun v U => v = #[.ref (G.2.1 (1000000 + j)), .int i] ∧ sr_kn G U) (fun _ st o t => o = .returned (some (.int (nI ((sr_tx j).getD i.toNatClampNeg 0)))) ∧ t.heap = st.heap) 0 0 (fun _ => False)
def sr_M8 (l : Launch) (G : sr_G) : Prop := ∀ (j : Nat), j < 4 → Met l (sr_bn 8) (.code (sr_bn 8) prog_23_method_54_code 1 (some .int) :: sr_tb) (sr_rm 7 0 0) (fun v U => v = #[.ref (G.2.1 (1000000 + j))] ∧ sr_kn G U) (fun _ st o t => o = .returned (some (.int (nI (sr_tx j).length))) ∧ t.heap = st.heap) 0 0 (fun _ => False)
theorem sr_lb_inv {mid t : Nat} {pc : Int} (h : sr_lb mid t pc = true) : t / 1000 = mid ∧ pc = (sr_pc t : Int) := by
  simp only [sr_lb, decide_eq_true_eq] at h
  exact ⟨h.1, h.2.symm⟩
theorem sr_lbs_inv {mid : Nat} {pc : Int} : ∀ (ts : List Nat) (os : List Int), sr_lbs mid pc ts os = true → ts.length = os.length ∧ ∀ (j : Nat) (t : Nat), ts[j]? = some t → ∃ o, os[j]? = some o ∧ sr_lb mid t (pc + o) = true
  | [], [], _ => ⟨rfl, fun j t h => by cases h⟩
  | [], _ :: _, h => by cases h
  | _ :: _, [], h => by cases h
  | a :: ts, o :: os, h => by
    simp only [sr_lbs, Bool.and_eq_true] at h
    obtain ⟨h1, h2⟩ := sr_lbs_inv ts os h.2
    refine ⟨by simp [h1], fun j t hj => ?_⟩
    cases j with
    | zero => cases hj; exact ⟨o, rfl, h.1⟩
    | succ j => exact h2 j t hj
theorem sr_any_inv {α : Type} {l : List α} {f : α → Bool} (h : l.any f = true) : ∃ e, e ∈ l ∧ f e = true := List.any_eq_true.mp h
/-- the switch by keys, as the machine reads it -/
theorem sr_lsw_eq : ∀ (ps ps' : List (Int × Int)) (ts : List Nat) (d : Nat) (dd : Int) (v : Int) (mid : Nat) (pc : Int), sr_keys ps ps' = true → sr_lbs mid pc ts (ps'.map (fun q => q.2)) = true → sr_lb mid d (pc + dd) = true →
    sr_lb mid (sr_lsw ps ts d v) (pc + Op.lookupswitch.offset ps' dd v) = true
  | [], [], ts, d, dd, v, mid, pc, _, _, h => by
    cases ts <;> exact h
  | [], _ :: _, _, _, _, _, _, _, h, _, _ => by cases h
  | _ :: _, [], _, _, _, _, _, _, h, _, _ => by cases h
  | (a, _) :: ps, (b, o) :: ps', [], d, dd, v, mid, pc, _, h, _ => by cases h
  | (a, _) :: ps, (b, o) :: ps', t :: ts, d, dd, v, mid, pc, hk, hl, h => by
    simp only [sr_keys, Bool.and_eq_true, decide_eq_true_eq] at hk
    simp only [List.map_cons, sr_lbs, Bool.and_eq_true] at hl
    obtain ⟨rfl, hk⟩ := hk
    simp only [sr_lsw, Op.lookupswitch.offset]
    by_cases hv : v = a
    · simp only [hv, if_true, beq_self_eq_true]
      exact hl.1
    · have := sr_lsw_eq ps ps' ts d dd v mid pc hk hl.2 h
      have hv' : ¬ a = v := fun e => hv e.symm
      simp only [hv, if_false]
      simpa [hv'] using this
