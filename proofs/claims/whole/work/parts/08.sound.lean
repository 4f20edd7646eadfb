/-! THE SMALL MACHINE IS RIGHT: what it answers is what the method does on the real one. -/
def sr_cv (G : sr_G) : Value → Option Value
  | .int x => some (.int x)
  | .long x => some (.long x)
  | .ref a => some (.ref (sr_ad G a))
  | _ => none
def sr_ll (G : sr_G) (L : List Value) : List (Nat × Value) := (List.range L.length).filterMap fun i => (L[i]?).bind fun v => (sr_cv G v).map fun w => (i, w)
def sr_lo (G : sr_G) (ls : Array Slot) (L : List Value) : Prop := lv_has ls L.length (sr_ll G L)
theorem sr_ll_mem {G : sr_G} {L : List Value} {q : Nat × Value} : q ∈ sr_ll G L ↔ ∃ v, L[q.1]? = some v ∧ sr_cv G v = some q.2 := by
  obtain ⟨i, w⟩ := q
  simp only [sr_ll, List.mem_filterMap, List.mem_range]
  constructor
  · rintro ⟨j, hj, h⟩
    obtain ⟨v, hv, h2⟩ := Option.bind_eq_some_iff.mp h
    obtain ⟨w', hw, h3⟩ := Option.map_eq_some_iff.mp h2
    cases h3
    exact ⟨v, hv, hw⟩
  · rintro ⟨v, hv, hw⟩
    exact ⟨i, (List.getElem?_eq_some_iff.mp hv).1, by rw [hv]; simp [hw]⟩
theorem sr_cv_2 {G : sr_G} {v w : Value} (h : sr_cv G v = some w) (h2 : w.category = 2) : ∃ x, v = .long x := by
  cases v <;> simp only [sr_cv, Option.some.injEq, reduceCtorEq] at h
  · subst h; cases h2
  · exact ⟨_, rfl⟩
  · subst h; cases h2
theorem sr_kl_len (L : List Value) (i : Nat) : (sr_kl L i).length = L.length := by
  cases i with
  | zero => rfl
  | succ j =>
    simp only [sr_kl]
    split <;> simp only [List.length_set]
theorem sr_kl_get {L : List Value} {i j : Nat} {v : Value} (h : (sr_kl L i)[j]? = some v) (hv : v ≠ sr_U) : L[j]? = some v ∧ ¬ (j + 1 = i ∧ ∃ x, v = .long x) := by
  cases i with
  | zero => exact ⟨h, fun q => by omega⟩
  | succ k =>
    simp only [sr_kl] at h
    split at h
    · rename_i x hx
      by_cases hjk : j = k
      · subst hjk
        rw [List.getElem?_set_self (List.getElem?_eq_some_iff.mp hx).1] at h
        exact absurd (Option.some.inj h).symm hv
      · rw [List.getElem?_set_ne (Ne.symm hjk)] at h
        exact ⟨h, fun q => hjk (by omega)⟩
    · rename_i hx
      refine ⟨h, ?_⟩
      rintro ⟨q, x, rfl⟩
      have : j = k := by omega
      subst this
      exact hx _ h
theorem sr_cv_U {G : sr_G} {v w : Value} (h : sr_cv G v = some w) : v ≠ sr_U := by
  rintro rfl
  cases h
theorem sr_lo_st1 {G : sr_G} {ls' : Array Slot} {L : List Value} {i : Nat} {v w : Value} (hv : sr_cv G v = some w)
    (h : lv_has ls' L.length ((i, w) :: (sr_ll G L).filter (fun q => !(q.1 == i) && !(q.1 + 1 == i && q.2.category == 2)))) : sr_lo G ls' (sr_st1 L i v) := by
  have hl : (sr_st1 L i v).length = L.length := by simp [sr_st1, sr_kl_len]
  refine ⟨by rw [hl]; exact h.1, h.2.1, fun q hq => h.2.2 q ?_⟩
  obtain ⟨u, hu, hw⟩ := sr_ll_mem.mp hq
  unfold sr_st1 at hu
  by_cases hj : q.1 = i
  · rw [hj] at hu
    have hlt : i < (sr_kl L i).length := by
      have := (List.getElem?_eq_some_iff.mp hu).1
      simpa using this
    rw [List.getElem?_set_self hlt] at hu
    cases hu
    rw [hv] at hw
    have : q = (i, w) := Prod.ext hj (Option.some.inj hw).symm
    rw [this]
    exact List.mem_cons_self
  · rw [List.getElem?_set_ne (fun e => hj e.symm)] at hu
    obtain ⟨h1, h2⟩ := sr_kl_get hu (sr_cv_U hw)
    refine List.mem_cons_of_mem _ (List.mem_filter.mpr ⟨sr_ll_mem.mpr ⟨u, h1, hw⟩, ?_⟩)
    simp only [Bool.and_eq_true, Bool.not_eq_true', beq_eq_false_iff_ne, ne_eq, Bool.and_eq_false_iff]
    refine ⟨hj, ?_⟩
    by_cases hc : q.2.category = 2
    · left
      intro e
      exact h2 ⟨e, sr_cv_2 hw hc⟩
    · exact Or.inr hc
theorem sr_lo_st2 {G : sr_G} {ls' : Array Slot} {L : List Value} {i : Nat} {x : Int64}
    (h : lv_has ls' L.length ((i, Value.long x) :: (sr_ll G L).filter (fun q => !(q.1 == i) && (!(q.1 == i + 1) && !(q.1 + 1 == i && q.2.category == 2))))) : sr_lo G ls' (sr_st2 L i (.long x)) := by
  have hl : (sr_st2 L i (.long x)).length = L.length := by simp [sr_st2, sr_kl_len]
  refine ⟨by rw [hl]; exact h.1, h.2.1, fun q hq => h.2.2 q ?_⟩
  obtain ⟨u, hu, hw⟩ := sr_ll_mem.mp hq
  unfold sr_st2 at hu
  by_cases hj1 : q.1 = i + 1
  · rw [hj1] at hu
    have hlt : i + 1 < ((sr_kl L i).set i (.long x)).length := by
      have := (List.getElem?_eq_some_iff.mp hu).1
      simpa using this
    rw [List.getElem?_set_self hlt] at hu
    cases hu
    cases hw
  · rw [List.getElem?_set_ne (fun e => hj1 e.symm)] at hu
    by_cases hj : q.1 = i
    · rw [hj] at hu
      have hlt : i < (sr_kl L i).length := by
        have := (List.getElem?_eq_some_iff.mp hu).1
        simpa using this
      rw [List.getElem?_set_self hlt] at hu
      cases hu
      have : q = (i, .long x) := Prod.ext hj (Option.some.inj hw).symm
      rw [this]
      exact List.mem_cons_self
    · rw [List.getElem?_set_ne (fun e => hj e.symm)] at hu
      obtain ⟨h1, h2⟩ := sr_kl_get hu (sr_cv_U hw)
      refine List.mem_cons_of_mem _ (List.mem_filter.mpr ⟨sr_ll_mem.mpr ⟨u, h1, hw⟩, ?_⟩)
      simp only [Bool.and_eq_true, Bool.not_eq_true', beq_eq_false_iff_ne, ne_eq, Bool.and_eq_false_iff]
      refine ⟨hj, hj1, ?_⟩
      by_cases hc : q.2.category = 2
      · left
        intro e
        exact h2 ⟨e, sr_cv_2 hw hc⟩
      · exact Or.inr hc
theorem sr_lo_ms {G : sr_G} {ls : Array Slot} : ∀ (bs : List Bool) (L : List Value) , bs.length = L.length → sr_lo G ls L → sr_lo G ls (sr_ms bs L) := by
  have key : ∀ (bs : List Bool) (L : List Value), bs.length = L.length → (sr_ms bs L).length = L.length ∧ ∀ (i : Nat) (v : Value), (sr_ms bs L)[i]? = some v → v ≠ sr_U → L[i]? = some v := by
    intro bs
    induction bs with
    | nil =>
      intro L hL
      cases L with
      | nil => exact ⟨rfl, fun i v h => by cases h⟩
      | cons a L => cases hL
    | cons b bs ih =>
      intro L hL
      cases L with
      | nil => cases hL
      | cons a L =>
        obtain ⟨h1, h2⟩ := ih L (by simpa using hL)
        cases b with
        | true =>
          refine ⟨by simp [sr_ms, h1], fun i v h hv => ?_⟩
          cases i with
          | zero => exact h
          | succ i => exact h2 i v h hv
        | false =>
          refine ⟨by simp [sr_ms, h1], fun i v h hv => ?_⟩
          cases i with
          | zero => exact absurd (Option.some.inj h).symm hv
          | succ i => exact h2 i v h hv
  intro bs L hb h
  obtain ⟨h1, h2⟩ := key bs L hb
  refine ⟨by rw [h1]; exact h.1, h.2.1, fun q hq => h.2.2 q ?_⟩
  obtain ⟨u, hu, hw⟩ := sr_ll_mem.mp hq
  exact sr_ll_mem.mpr ⟨u, h2 _ _ hu (sr_cv_U hw), hw⟩
theorem sr_lo_get {G : sr_G} {ls : Array Slot} {L : List Value} (h : sr_lo G ls L) {i : Nat} {v w : Value} (hv : L[i]? = some v) (hw : sr_cv G v = some w) : ls[i]? = some (.val w) := h.2.2 (i, w) (sr_ll_mem.mpr ⟨v, hv, hw⟩)
/-- the tables' own truths -/
def sr_tym : Nat → FieldType → Bool
  | 0, .int => true
  | 1, .boolean => true
  | 2, .long => true
  | 3, .object _ => true
  | 3, .array _ => true
  | _, _ => false
theorem sr_tym_ok {k : Nat} {ty : FieldType} {v : Value} (G : sr_G) (h : sr_tym k ty = true) (hv : sr_ok k v = true) : narrow ty (sr_v G v) = sr_v G v ∧ fits ty (sr_v G v) = true := by
  unfold sr_tym at h
  split at h
  · cases v <;> first | (exact ⟨rfl, rfl⟩) | (cases hv; done)
  · cases v <;> first | (cases hv; done) | skip
    rename_i x
    simp only [sr_ok, decide_eq_true_eq] at hv
    rcases hv with rfl | rfl
    · exact ⟨(by decide : narrow .boolean (.int 0) = .int 0), (by decide : fits .boolean (.int 0) = true)⟩
    · exact ⟨(by decide : narrow .boolean (.int 1) = .int 1), (by decide : fits .boolean (.int 1) = true)⟩
  · cases v <;> first | (exact ⟨rfl, rfl⟩) | (cases hv; done)
  · cases v <;> first | (exact ⟨rfl, rfl⟩) | (cases hv; done)
  · cases v <;> first | (exact ⟨rfl, rfl⟩) | (cases hv; done)
  · cases h
def sr_bn : Nat → MethodName
  | 0 => Lib.Math.min.name
  | 1 => Lib.Math.max.name
  | 2 => Lib.Math.abs.name
  | 3 => Lib.MathLoose.min_long.x
  | 4 => Lib.MathLoose.max_long.x
  | 5 => Lib.MathLoose.abs_long.x
  | 6 => arraycopyName
  | 7 => ⟨"java/lang/String", "charAt", "(I)C"⟩
  | 8 => ⟨"java/lang/String", "length", "()I"⟩
  | _ => Lib.objectInit
def sr_TF : Prop :=
  (∀ own e, e ∈ sr_fl own → ∃ q : vw_C, vwCl[e.2.1]? = some q ∧ e.2.2.1 < q.2.2 ∧ Cond.fieldLink (sr_cn own) e.1 (q.2.1 e.2.2.1).1 (q.2.1 e.2.2.1).2.1 (q.2.1 e.2.2.1).2.2.1 ∈ sr_tb) ∧
  (∀ ci (q : vw_C), vwCl[ci]? = some q → (∀ w ∈ u_ws q.1 q.2.1 q.2.2, w ∈ sr_tb) ∧ Cond.instantiable q.1 q.2.2 ∈ sr_tb ∧ Cond.initialized q.1 ∈ sr_tb ∧ (∀ a, a < q.2.2 → ∀ b, b < q.2.2 → a ≠ b → (q.2.1 a).2.1 ≠ (q.2.1 b).2.1) ∧ (sr_df ci).length = q.2.2 ∧ (∀ own, sr_cx own = ci → sr_cn own = q.1) ∧ ∀ k, k < q.2.2 → ∃ ty, parseFieldDescriptor (q.2.1 k).2.2.1 = some ty ∧ sr_tym (sr_ft ci k) ty = true ∧ sr_fn ci k = (q.2.1 k).2.2.2 ∧ (q.2.1 k).1 = q.1 ∧ (sr_df ci)[k]? = some (defaultValue ty)) ∧
  (∀ own e, e ∈ sr_sl own → e.2.1 < 3 ∧ Cond.fieldLink (sr_cn own) e.1 (sr_sC e.2.1).1 (sr_sC e.2.1).2 "[I" ∈ sr_tb) ∧
  (∀ own e, e ∈ sr_kc own → Cond.constant (sr_cn own) e.1 (sr_cst e.2.1) ∈ sr_tb) ∧
  (∀ own e, e ∈ sr_kd own → Cond.constantLong (sr_cn own) e.1 (sr_csl e.2.1) ∈ sr_tb) ∧
  (∀ own e, e ∈ sr_ks own → e.2.1 < 4 ∧ (sr_tR e.2.1).1 = sr_cn own ∧ (sr_tR e.2.1).2.1 = e.1) ∧
  (∀ own e, e ∈ sr_cc own → ∃ q : vw_C, vwCl[e.2.1]? = some q ∧ Cond.classLink (sr_cn own) e.1 q.1 ∈ sr_tb) ∧
  (∀ own e, e ∈ sr_bl own → Cond.methodLink (sr_cn own) e.1 (sr_bn e.2.1) ∈ sr_tb) ∧
  (∀ own e, e ∈ sr_ln own → e.2.1 < 298 ∧ (e.2.2.1 = 0 → Cond.methodLink (sr_cn own) e.1 (sr_y e.2.1) ∈ sr_tb) ∧ (e.2.2.1 = 0 ∨ e.2.2.1 = 1)) ∧
  ((∀ b, b < 7 → Cond.static (sr_bn b) ∈ sr_tb) ∧ Cond.initialized "java/lang/Math" ∈ sr_tb ∧ Cond.initialized "java/lang/System" ∈ sr_tb ∧ Cond.initialized "java/lang/String" ∈ sr_tb ∧ Cond.native arraycopyName ∈ sr_tb ∧ Cond.code Lib.Math.min.name Lib.Math.min.code 2 (some .int) ∈ sr_tb ∧ Cond.code Lib.Math.max.name Lib.Math.max.code 2 (some .int) ∈ sr_tb ∧ Cond.code Lib.Math.abs.name Lib.Math.abs.code 1 (some .int) ∈ sr_tb ∧ Cond.code Lib.MathLoose.min_long.x Lib.MathLoose.min_long.code 4 (some .long) ∈ sr_tb ∧ Cond.code Lib.MathLoose.max_long.x Lib.MathLoose.max_long.code 4 (some .long) ∈ sr_tb ∧ Cond.code Lib.MathLoose.abs_long.x Lib.MathLoose.abs_long.code 2 (some .long) ∈ sr_tb ∧ Cond.instanceMethod Lib.objectInit ∈ sr_tb ∧ Cond.code Lib.objectInit ⟨#[0xb1]⟩ 1 none ∈ sr_tb ∧ Cond.arrayClass .int ∈ sr_tb ∧ Cond.arrayClass .boolean ∈ sr_tb ∧ Cond.arrayClass .long ∈ sr_tb) ∧
  (∀ mid, mid < 298 → Cond.code (sr_y mid) (sr_by mid) (sr_ml mid) (sr_rt mid) ∈ sr_tb ∧ plainName (sr_y mid).cls = true ∧ ((sr_y mid).cls ≠ "java/lang/invoke/MethodHandle" ∧ (sr_y mid).cls ≠ "java/lang/invoke/VarHandle" ∧ (parseMethodDescriptor (sr_y mid).desc).map (fun d => d.parameters.length) = some (sr_np mid)) ∧ sr_ml mid ≤ 40 ∧ (sr_y mid).cls = sr_cn (sr_mo mid) ∧ Cond.initialized (sr_y mid).cls ∈ sr_tb ∧
    (sr_mq mid = 0 → Cond.instanceMethod (sr_y mid) ∈ sr_tb ∧ Cond.selects (sr_y mid).cls (sr_y mid) (sr_y mid) ∈ sr_tb ∧ ∃ q : vw_C, vwCl[sr_mc mid]? = some q ∧ q.1 = (sr_y mid).cls) ∧
    (sr_mq mid = 1 → Cond.static (sr_y mid) ∈ sr_tb) ∧
    (sr_mq mid = 2 → Cond.instanceMethod (sr_y mid) ∈ sr_tb ∧ (sr_y mid).name = "<init>" ∧ sr_rt mid = none)) ∧
  (∀ t, t / 1000 < 298 → sr_ckB (sr_mo (t / 1000)) (t / 1000) (sr_by (t / 1000)) (sr_rt (t / 1000)) (decide (sr_mq (t / 1000) = 2)) (sr_pc t) (sr_bk t) = true ∧ (sr_bk t = [] ∨ (sr_mk t).length = sr_ml (t / 1000))) ∧
  (Cond.instanceMethod (sr_bn 7) ∈ sr_tb ∧ Cond.selects "java/lang/String" (sr_bn 7) (sr_bn 7) ∈ sr_tb ∧ Cond.code (sr_bn 7) prog_23_method_56_code 2 (some .char) ∈ sr_tb ∧ Cond.instanceMethod (sr_bn 8) ∈ sr_tb ∧ Cond.selects "java/lang/String" (sr_bn 8) (sr_bn 8) ∈ sr_tb ∧ Cond.code (sr_bn 8) prog_23_method_54_code 1 (some .int) ∈ sr_tb) ∧
  (∀ mid, mid < 298 → sr_pc (1000 * mid) = 0)
def sr_ws (mid : Nat) : List Cond := .code (sr_y mid) (sr_by mid) (sr_ml mid) (sr_rt mid) :: sr_tb
theorem sr_good {w : Cond} (h : w ∈ sr_tb) : (w.onTables && w.keeps) = true ∨ ∃ ty, w = .arrayClass ty := good_of_word (List.mem_filter.mp h).2
theorem sr_ws_in (hT : sr_TF) {mid : Nat} (h : mid < 298) : GoodIn sr_tb (sr_ws mid) := by
  intro w hw
  have h1 : w ∈ sr_tb := by
    rcases List.mem_cons.mp hw with rfl | hw
    · exact (hT.2.2.2.2.2.2.2.2.2.2.1 mid h).1
    · exact hw
  exact ⟨h1, sr_good h1⟩
/-- where a body stands -/
def sr_cxt (p : Program) (R : Room) (s : State) (m : MethodId) (args : Array Value) (meth : Method) (c : Code) (G : sr_G) (own : Nat) (cc : ByteArray) (rt : Option FieldType) (ini : Bool) (d mc ms : Nat) : Prop :=
  p.tables.exec = Jvm.exec ∧ c.code = cc ∧ meth.sig.returnType = rt ∧ s.vm.findClass (sr_cn own) = some m.cls ∧ (∀ w ∈ sr_tb, w.before args s = true) ∧ meth.locks = false ∧ (ini = true → meth.name = "<init>") ∧ sr_kn G s ∧ R = sr_rm d mc ms ∧ G.1 ≤ s.heap.size
