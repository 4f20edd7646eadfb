/-! The number of cells only grows; more fuel does no harm. -/
def sr_le (h h' : sr_H) : Prop := h.1.1 ≤ h'.1.1 ∧ h.1.2 ≤ h'.1.2
theorem sr_le.rf {h : sr_H} : sr_le h h := ⟨Nat.le_refl _, Nat.le_refl _⟩
theorem sr_le.tr {h h1 h2 : sr_H} (a : sr_le h h1) (b : sr_le h1 h2) : sr_le h h2 := ⟨Nat.le_trans a.1 b.1, Nat.le_trans a.2 b.2⟩
theorem sr_sm_le {i : Instr} {x : List Nat} {L S : List Value} {h : sr_H} {L' S' : List Value} {h' : sr_H} (e : sr_sm i x L S h = some (L', S', h')) : sr_le h h' := by
  unfold sr_sm at e
  split at e
  all_goals
    try simp only [sr_i1, sr_i2, sr_id, sr_l1, sr_l2, sr_ld, sr_gf, sr_pf, sr_ia, sr_za, sr_ja, sr_is, sr_zs, sr_js, sr_al, sr_nw, sr_na] at e
    repeat' (split at e)
    all_goals first
      | (cases e; done)
      | (cases e; exact sr_le.rf)
      | (cases e; exact ⟨Nat.le_succ _, Nat.le_add_right _ _⟩)
theorem sr_bi_le {b : Nat} {L S : List Value} {h : sr_H} {L' S' : List Value} {h' : sr_H} (e : sr_bi b L S h = some (L', S', h')) : sr_le h h' := by
  unfold sr_bi at e
  split at e
  all_goals
    try simp only [sr_i1, sr_i2, sr_id, sr_l1, sr_l2, sr_ld, sr_cp] at e
    repeat' (split at e)
    all_goals first
      | (cases e; done)
      | (cases e; exact sr_le.rf)
def sr_leK (K : sr_K) : Prop := ∀ L S h r h', K L S h = some (r, h') → sr_le h h'
def sr_leC (C : Nat → List Value → sr_H → Option sr_R) : Prop := ∀ m as h r h', C m as h = some (r, h') → sr_le h h'
theorem sr_go_le {K : sr_K} (hK : sr_leK K) {h : sr_H} {o : sr_3} (ho : ∀ L S h', o = some (L, S, h') → sr_le h h') {r : Option Value} {h' : sr_H} (e : sr_go K o = some (r, h')) : sr_le h h' := by
  obtain ⟨L, S, h1, e1, e2⟩ := sr_go_inv e
  exact (ho _ _ _ e1).tr (hK _ _ _ _ _ e2)
theorem sr_cl_le {C : Nat → List Value → sr_H → Option sr_R} (hC : sr_leC C) {K : sr_K} (hK : sr_leK K) {mid n : Nat} {ok : List Value → sr_H → Bool} {L S : List Value} {h : sr_H} {r : Option Value} {h' : sr_H} (e : sr_cl C mid n ok K L S h = some (r, h')) : sr_le h h' := by
  obtain ⟨as, S', r1, h1, -, -, -, -, e1, e2⟩ := sr_cl_inv e
  exact (hC _ _ _ _ _ e1).tr (hK _ _ _ _ _ e2)
theorem sr_op_le {B : Bool} {J : Nat → sr_K} {C : Nat → List Value → sr_H → Option sr_R} (hJ : ∀ t, sr_leK (J t)) (hC : sr_leC C) {K : sr_K} (hK : sr_leK K) (i : Instr) (x : List Nat) : sr_leK (sr_op B J C i x K) := by
  intro L S h r h' e
  unfold sr_op at e
  split at e
  all_goals first
    | exact hJ _ _ _ _ _ _ e
    | exact sr_go_le hK (fun _ _ _ => sr_sm_le) e
    | (unfold sr_iv at e
       split at e
       · split at e
         · exact sr_go_le hK (fun _ _ _ => sr_bi_le) e
         · cases e
       · exact sr_cl_le hC hK e
       · exact sr_cl_le hC hK e
       · cases e)
    | (split at e
       · first
         | exact hJ _ _ _ _ _ _ e
         | (cases e; exact sr_le.rf)
         | (split at e
            · first | exact hJ _ _ _ _ _ _ e | (cases e; exact sr_le.rf)
            · first | exact hK _ _ _ _ _ e | (cases e; done))
       · cases e)
theorem sr_ev_le {B : Bool} {J : Nat → sr_K} {C : Nat → List Value → sr_H → Option sr_R} (hJ : ∀ t, sr_leK (J t)) (hC : sr_leC C) : ∀ cs, sr_leK (sr_ev B J C cs)
  | [] => fun _ _ _ _ _ e => by cases e
  | (i, x) :: cs => sr_op_le hJ hC (sr_ev_le hJ hC cs) i x
theorem sr_ef_le : ∀ (n d t : Nat), sr_leK (sr_ef n d t)
  | 0, _, _ => fun _ _ _ _ _ e => by cases e
  | n + 1, d, t => fun L S h r h' e => by
    rw [sr_ef_s] at e
    refine sr_ev_le (fun t => sr_ef_le n d t) (fun m as h r h' e => ?_) _ _ _ _ _ _ e
    unfold sr_cf at e
    split at e
    · cases e
    · exact sr_ef_le n _ _ _ _ _ _ _ e
theorem sr_cf_le (n d : Nat) : sr_leC (sr_cf n d) := by
  intro m as h r h' e
  unfold sr_cf at e
  split at e
  · cases e
  · exact sr_ef_le n _ _ _ _ _ _ _ e
/-- more is answered -/
def sr_mo_K (K K' : sr_K) : Prop := ∀ L S h R, K L S h = some R → K' L S h = some R
theorem sr_op_mo {B : Bool} {J J' : Nat → sr_K} {C C' : Nat → List Value → sr_H → Option sr_R} (hJ : ∀ t, sr_mo_K (J t) (J' t)) (hC : ∀ m as h R, C m as h = some R → C' m as h = some R) {K K' : sr_K} (hK : sr_mo_K K K') (i : Instr) (x : List Nat) : sr_mo_K (sr_op B J C i x K) (sr_op B J' C' i x K') := by
  have hcl : ∀ mid n ok L S h R, sr_cl C mid n ok K L S h = some R → sr_cl C' mid n ok K' L S h = some R := by
    intro mid n ok L S h R e
    obtain ⟨as, S', r1, h1, e0, e1, e2, e3, e4, e5⟩ := sr_cl_inv e
    simp only [sr_cl, e0, e1, e2, e3, hC _ _ _ _ e4, and_self, if_true]
    exact hK _ _ _ _ e5
  have hgo : ∀ o R, sr_go K o = some R → sr_go K' o = some R := by
    intro o R e
    obtain ⟨L, S, h1, rfl, e2⟩ := sr_go_inv e
    exact hK _ _ _ _ e2
  have hiv : ∀ L S h R, sr_iv B C x K L S h = some R → sr_iv B C' x K' L S h = some R := by
    intro L S h R e
    unfold sr_iv at e ⊢
    split at e
    · split at e
      · rename_i hc
        simp only [hc, and_self, if_true]
        exact hgo _ _ e
      · cases e
    · exact hcl _ _ _ _ _ _ _ e
    · exact hcl _ _ _ _ _ _ _ e
    · cases e
  intro L S h R e
  unfold sr_op at e ⊢
  split at e
  all_goals first
    | exact hJ _ _ _ _ _ e
    | exact hgo _ _ e
    | exact hiv _ _ _ _ e
    | (split at e
       · first
         | exact hJ _ _ _ _ _ e
         | exact e
         | (split at e
            · rename_i hc
              simp only [hc, if_true]
              first | exact hJ _ _ _ _ _ e | exact e
            · rename_i hc
              simp only [hc, if_false]
              first | exact hK _ _ _ _ e | exact e)
       · cases e)
theorem sr_ev_mo {B : Bool} {J J' : Nat → sr_K} {C C' : Nat → List Value → sr_H → Option sr_R} (hJ : ∀ t, sr_mo_K (J t) (J' t)) (hC : ∀ m as h R, C m as h = some R → C' m as h = some R) : ∀ cs, sr_mo_K (sr_ev B J C cs) (sr_ev B J' C' cs)
  | [] => fun _ _ _ _ e => by cases e
  | (i, x) :: cs => sr_op_mo hJ hC (sr_ev_mo hJ hC cs) i x
theorem sr_ef_mo : ∀ (n d t : Nat), sr_mo_K (sr_ef n d t) (sr_ef (n + 1) d t)
  | 0, _, _ => fun _ _ _ _ e => by cases e
  | n + 1, d, t => fun L S h R e => by
    rw [sr_ef_s] at e ⊢
    refine sr_ev_mo (fun t => sr_ef_mo n d t) (fun m as h R e => ?_) _ _ _ _ _ e
    unfold sr_cf at e ⊢
    split at e
    · cases e
    · exact sr_ef_mo n _ _ _ _ _ _ e
theorem sr_ef_up {n n' d t : Nat} (hn : n ≤ n') : sr_mo_K (sr_ef n d t) (sr_ef n' d t) := by
  induction hn with
  | refl => exact fun _ _ _ _ e => e
  | step _ ih => exact fun L S h R e => sr_ef_mo _ _ _ _ _ _ _ (ih _ _ _ _ e)
theorem sr_cf_up {n n' d : Nat} (hn : n ≤ n') (m : Nat) (as : List Value) (h : sr_H) (R : sr_R) (e : sr_cf n d m as h = some R) : sr_cf n' d m as h = some R := by
  unfold sr_cf at e ⊢
  split at e
  · cases e
  · exact sr_ef_up hn _ _ _ _ e
