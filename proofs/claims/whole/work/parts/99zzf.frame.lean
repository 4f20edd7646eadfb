/-! What the reference can't reach stays: cells before 141. -/
/-- where the reference may come -/
def gO (a : Nat) : Prop := (141 ≤ a ∧ a < 186) ∨ 1000000 ≤ a
def gv (v : Value) : Prop := ∀ a, v = .ref a → gO a
def gl (L : List Value) : Prop := ∀ v, v ∈ L → gv v
def gh (h : sr_H) : Prop := sr_mx ≤ h.1.1 ∧ ∀ a, gO a → ∀ c fs, h.2 a = .inr (.inr (c, fs)) → a < h.1.1 → gl fs
def gf (h h' : sr_H) : Prop := gh h' ∧ h'.1 = h.1 ∧ ∀ a, ¬ gO a → h'.2 a = h.2 a
theorem gf.rf {h : sr_H} (g : gh h) : gf h h := ⟨g, rfl, fun _ _ => rfl⟩
theorem gf.tr {h h1 h2 : sr_H} (a : gf h h1) (b : gf h1 h2) : gf h h2 := ⟨b.1, b.2.1.trans a.2.1, fun q hq => (b.2.2 q hq).trans (a.2.2 q hq)⟩
theorem gl_cons {v : Value} {L : List Value} : gl (v :: L) ↔ gv v ∧ gl L := ⟨fun h => ⟨h v List.mem_cons_self, fun w hw => h w (List.mem_cons_of_mem _ hw)⟩, fun h w hw => by
  rcases List.mem_cons.mp hw with e | e
  · rw [e]; exact h.1
  · exact h.2 w e⟩
theorem gv_i {x : Int32} : gv (.int x) := fun a e => by cases e
theorem gv_l {x : Int64} : gv (.long x) := fun a e => by cases e
theorem gv_r {a : Nat} : gv (.ref a) ↔ gO a := ⟨fun h => h a rfl, fun h b e => by cases e; exact h⟩
theorem gv_U : gv sr_U := fun a e => by cases e
theorem gl_nil : gl [] := fun v h => by cases h
theorem gl_set {L : List Value} {i : Nat} {v : Value} (h : gl L) (hv : gv v) : gl (L.set i v) := fun w hw => by
  rcases List.mem_or_eq_of_mem_set hw with h1 | h1
  · exact h w h1
  · rw [h1]; exact hv
theorem gl_kl {L : List Value} {i : Nat} (h : gl L) : gl (sr_kl L i) := by
  cases i with
  | zero => exact h
  | succ j =>
    simp only [sr_kl]
    split
    · exact gl_set h gv_U
    · exact h
theorem gl_st1 {L : List Value} {i : Nat} {v : Value} (h : gl L) (hv : gv v) : gl (sr_st1 L i v) := gl_set (gl_kl h) hv
theorem gl_st2 {L : List Value} {i : Nat} {v : Value} (h : gl L) (hv : gv v) : gl (sr_st2 L i v) := gl_set (gl_set (gl_kl h) hv) gv_U
theorem gl_get {L : List Value} {i : Nat} {v : Value} (h : gl L) (e : L[i]? = some v) : gv v := h v (List.mem_of_getElem? e)
theorem gf_up {h : sr_H} {a : Nat} {c : sr_C} (g : gh h) (ha : gO a) (hc : ∀ ci fs, c = .inr (.inr (ci, fs)) → gl fs) : gf h (h.1, sr_up h.2 a c) := by
  refine ⟨⟨g.1, fun b hb ci fs e hl => ?_⟩, rfl, fun b hb => ?_⟩
  · have e : sr_up h.2 a c b = .inr (.inr (ci, fs)) := e
    unfold sr_up at e
    by_cases q : b = a
    · rw [if_pos q] at e
      exact hc ci fs e
    · rw [if_neg q] at e
      exact g.2 b hb ci fs e hl
  · show sr_up h.2 a c b = h.2 b
    unfold sr_up
    rw [if_neg (fun z => hb (by rw [z]; exact ha))]
def g3 (h : sr_H) (o : sr_3) : Prop := ∀ L S h', o = some (L, S, h') → gl L ∧ gl S ∧ gf h h'
theorem g3_no {h : sr_H} : g3 h none := fun _ _ _ e => by cases e
theorem g3_s {h : sr_H} {L S : List Value} (g : gh h) (gL : gl L) (gS : gl S) : g3 h (some (L, S, h)) := fun _ _ _ e => by
  cases e
  exact ⟨gL, gS, gf.rf g⟩
theorem g3_u {h h1 : sr_H} {L S : List Value} (f : gf h h1) (gL : gl L) (gS : gl S) : g3 h (some (L, S, h1)) := fun _ _ _ e => by
  cases e
  exact ⟨gL, gS, f⟩
theorem g3_i1 {f : Int32 → Int32} {L S : List Value} {h : sr_H} (g : gh h) (gL : gl L) (gS : gl S) : g3 h (sr_i1 f L S h) := by
  unfold sr_i1
  split
  · exact g3_s g gL (gl_cons.mpr ⟨gv_i, (gl_cons.mp gS).2⟩)
  · exact g3_no
theorem g3_i2 {f : Int32 → Int32 → Int32} {L S : List Value} {h : sr_H} (g : gh h) (gL : gl L) (gS : gl S) : g3 h (sr_i2 f L S h) := by
  unfold sr_i2
  split
  · exact g3_s g gL (gl_cons.mpr ⟨gv_i, (gl_cons.mp (gl_cons.mp gS).2).2⟩)
  · exact g3_no
theorem g3_id {f : Int32 → Int32 → Int32} {L S : List Value} {h : sr_H} (g : gh h) (gL : gl L) (gS : gl S) : g3 h (sr_id f L S h) := by
  unfold sr_id
  split
  · split
    · exact g3_no
    · exact g3_s g gL (gl_cons.mpr ⟨gv_i, (gl_cons.mp (gl_cons.mp gS).2).2⟩)
  · exact g3_no
theorem g3_l1 {f : Int64 → Int64} {L S : List Value} {h : sr_H} (g : gh h) (gL : gl L) (gS : gl S) : g3 h (sr_l1 f L S h) := by
  unfold sr_l1
  split
  · exact g3_s g gL (gl_cons.mpr ⟨gv_l, (gl_cons.mp gS).2⟩)
  · exact g3_no
theorem g3_l2 {f : Int64 → Int64 → Int64} {L S : List Value} {h : sr_H} (g : gh h) (gL : gl L) (gS : gl S) : g3 h (sr_l2 f L S h) := by
  unfold sr_l2
  split
  · exact g3_s g gL (gl_cons.mpr ⟨gv_l, (gl_cons.mp (gl_cons.mp gS).2).2⟩)
  · exact g3_no
theorem g3_ld {f : Int64 → Int64 → Int64} {L S : List Value} {h : sr_H} (g : gh h) (gL : gl L) (gS : gl S) : g3 h (sr_ld f L S h) := by
  unfold sr_ld
  split
  · split
    · exact g3_no
    · exact g3_s g gL (gl_cons.mpr ⟨gv_l, (gl_cons.mp (gl_cons.mp gS).2).2⟩)
  · exact g3_no
theorem g3_gf {ci k : Nat} {L S : List Value} {h : sr_H} (g : gh h) (gL : gl L) (gS : gl S) : g3 h (sr_gf ci k L S h) := by
  unfold sr_gf
  split
  · have ga := gv_r.mp (gl_cons.mp gS).1
    split
    · rename_i e
      split
      · rename_i hc
        split
        · rename_i e2
          exact g3_s g gL (gl_cons.mpr ⟨gl_get (g.2 _ ga _ _ e hc.1) e2, (gl_cons.mp gS).2⟩)
        · exact g3_no
      · exact g3_no
    · exact g3_no
  · exact g3_no
theorem g3_pf {ci k ty : Nat} {L S : List Value} {h : sr_H} (g : gh h) (gL : gl L) (gS : gl S) : g3 h (sr_pf ci k ty L S h) := by
  unfold sr_pf
  split
  · have g1 := gl_cons.mp gS
    have g2 := gl_cons.mp g1.2
    have ga := gv_r.mp g2.1
    split
    · rename_i e
      split
      · rename_i hc
        refine g3_u (gf_up g ga (fun ci fs z => ?_)) gL g2.2
        cases z
        exact gl_set (g.2 _ ga _ _ e hc.1) g1.1
      · exact g3_no
    · exact g3_no
  · exact g3_no
theorem g3_ia {L S : List Value} {h : sr_H} (g : gh h) (gL : gl L) (gS : gl S) : g3 h (sr_ia L S h) := by
  unfold sr_ia
  split
  · have g2 := (gl_cons.mp (gl_cons.mp gS).2).2
    repeat' split
    all_goals first | exact g3_no | exact g3_s g gL (gl_cons.mpr ⟨gv_i, g2⟩)
  · exact g3_no
theorem g3_za {L S : List Value} {h : sr_H} (g : gh h) (gL : gl L) (gS : gl S) : g3 h (sr_za L S h) := by
  unfold sr_za
  split
  · have g2 := (gl_cons.mp (gl_cons.mp gS).2).2
    repeat' split
    all_goals first | exact g3_no | exact g3_s g gL (gl_cons.mpr ⟨gv_i, g2⟩)
  · exact g3_no
theorem g3_ja {L S : List Value} {h : sr_H} (g : gh h) (gL : gl L) (gS : gl S) : g3 h (sr_ja L S h) := by
  unfold sr_ja
  split
  · have g2 := (gl_cons.mp (gl_cons.mp gS).2).2
    repeat' split
    all_goals first | exact g3_no | exact g3_s g gL (gl_cons.mpr ⟨gv_l, g2⟩)
  · exact g3_no
theorem g3_is {L S : List Value} {h : sr_H} (g : gh h) (gL : gl L) (gS : gl S) : g3 h (sr_is L S h) := by
  unfold sr_is
  split
  · have g2 := gl_cons.mp (gl_cons.mp (gl_cons.mp gS).2).2
    have ga := gv_r.mp g2.1
    repeat' split
    all_goals first | exact g3_no | exact g3_u (gf_up g ga (fun ci fs z => by cases z)) gL g2.2
  · exact g3_no
theorem g3_zs {L S : List Value} {h : sr_H} (g : gh h) (gL : gl L) (gS : gl S) : g3 h (sr_zs L S h) := by
  unfold sr_zs
  split
  · have g2 := gl_cons.mp (gl_cons.mp (gl_cons.mp gS).2).2
    have ga := gv_r.mp g2.1
    repeat' split
    all_goals first | exact g3_no | exact g3_u (gf_up g ga (fun ci fs z => by cases z)) gL g2.2
  · exact g3_no
theorem g3_js {L S : List Value} {h : sr_H} (g : gh h) (gL : gl L) (gS : gl S) : g3 h (sr_js L S h) := by
  unfold sr_js
  split
  · have g2 := gl_cons.mp (gl_cons.mp (gl_cons.mp gS).2).2
    have ga := gv_r.mp g2.1
    repeat' split
    all_goals first | exact g3_no | exact g3_u (gf_up g ga (fun ci fs z => by cases z)) gL g2.2
  · exact g3_no
theorem g3_al {L S : List Value} {h : sr_H} (g : gh h) (gL : gl L) (gS : gl S) : g3 h (sr_al L S h) := by
  unfold sr_al
  split
  · have g2 := (gl_cons.mp gS).2
    repeat' split
    all_goals first | exact g3_no | exact g3_s g gL (gl_cons.mpr ⟨gv_i, g2⟩)
  · exact g3_no
theorem g3_nw {ci : Nat} {fs : List Value} {L S : List Value} {h : sr_H} (g : gh h) : g3 h (sr_nw ci fs L S h) := by
  unfold sr_nw
  rw [if_neg (Nat.not_lt.mpr g.1)]
  exact g3_no
theorem g3_na {ty : ArrayType} {L S : List Value} {h : sr_H} (g : gh h) : g3 h (sr_na ty L S h) := by
  unfold sr_na
  split
  · rw [if_neg (fun z => Nat.not_lt.mpr g.1 z.1)]
    exact g3_no
  · exact g3_no
theorem g3_cp {L S : List Value} {h : sr_H} (g : gh h) (gL : gl L) (gS : gl S) : g3 h (sr_cp L S h) := by
  unfold sr_cp
  split
  · have g1 := gl_cons.mp (gl_cons.mp (gl_cons.mp gS).2).2
    have ga := gv_r.mp g1.1
    have g2 := (gl_cons.mp (gl_cons.mp g1.2).2).2
    repeat' split
    all_goals first | exact g3_no | exact g3_u (gf_up g ga (fun ci fs z => by cases z)) gL g2
  · exact g3_no
theorem g3_sm {i : Instr} {x : List Nat} {L S : List Value} {h : sr_H} (g : gh h) (gL : gl L) (gS : gl S) : g3 h (sr_sm i x L S h) := by
  unfold sr_sm
  split
  all_goals first
    | exact g3_no
    | exact g3_i1 g gL gS
    | exact g3_i2 g gL gS
    | exact g3_id g gL gS
    | exact g3_l1 g gL gS
    | exact g3_l2 g gL gS
    | exact g3_ld g gL gS
    | exact g3_gf g gL gS
    | exact g3_pf g gL gS
    | exact g3_ia g gL gS
    | exact g3_za g gL gS
    | exact g3_ja g gL gS
    | exact g3_is g gL gS
    | exact g3_zs g gL gS
    | exact g3_js g gL gS
    | exact g3_al g gL gS
    | exact g3_nw g
    | exact g3_na g
    | exact g3_s g gL (gl_cons.mpr ⟨gv_i, gS⟩)
    | exact g3_s g gL (gl_cons.mpr ⟨gv_l, gS⟩)
    | exact g3_s g gL (gl_cons.mpr ⟨gv_r.mpr (Or.inr (by unfold sr_sc; omega)), gS⟩)
    | exact g3_s g gL (gl_cons.mpr ⟨gv_r.mpr (Or.inr (by unfold sr_sb; omega)), gS⟩)
    | skip
  all_goals
    split
    all_goals first
      | exact g3_no
      | exact g3_s g gL (gl_cons.mpr ⟨gv_i, gS⟩)
      | exact g3_s g gL (gl_cons.mpr ⟨gv_l, gS⟩)
      | exact g3_s g gL (gl_cons.mpr ⟨gl_get gL (by assumption), gS⟩)
      | exact g3_s g (gl_st1 gL gv_i) gS
      | exact g3_s g gL (gl_cons.mpr ⟨gv_i, (gl_cons.mp gS).2⟩)
      | exact g3_s g gL (gl_cons.mpr ⟨gv_l, (gl_cons.mp gS).2⟩)
      | exact g3_s g gL (gl_cons.mpr ⟨(gl_cons.mp gS).1, gS⟩)
      | exact g3_s g gL (gl_cons.mp gS).2
      | exact g3_s g gL (gl_cons.mpr ⟨gv_i, (gl_cons.mp (gl_cons.mp gS).2).2⟩)
      | exact g3_s g gL (gl_cons.mpr ⟨gv_i, gl_cons.mpr ⟨(gl_cons.mp (gl_cons.mp gS).2).1, gS⟩⟩)
      | (split
         · first
           | exact g3_s g (gl_st1 gL (gl_cons.mp gS).1) (gl_cons.mp gS).2
           | exact g3_s g (gl_st2 gL (gl_cons.mp gS).1) (gl_cons.mp gS).2
         · exact g3_no)
theorem g3_bi {b : Nat} {L S : List Value} {h : sr_H} (g : gh h) (gL : gl L) (gS : gl S) : g3 h (sr_bi b L S h) := by
  unfold sr_bi
  split
  all_goals first
    | exact g3_no
    | exact g3_i1 g gL gS
    | exact g3_i2 g gL gS
    | exact g3_l1 g gL gS
    | exact g3_l2 g gL gS
    | exact g3_cp g gL gS
    | skip
  · split
    · split
      · exact g3_s g gL (gl_cons.mpr ⟨gv_i, (gl_cons.mp (gl_cons.mp gS).2).2⟩)
      · exact g3_no
    · exact g3_no
  · split
    · split
      · exact g3_s g gL (gl_cons.mpr ⟨gv_i, (gl_cons.mp gS).2⟩)
      · exact g3_no
    · exact g3_no
  · split
    · exact g3_s g gL (gl_cons.mp gS).2
    · exact g3_no
def gR (h : sr_H) (r : Option Value) (h' : sr_H) : Prop := (∀ v, r = some v → gv v) ∧ gf h h'
theorem gR_tr {h h1 h' : sr_H} {r : Option Value} (f : gf h h1) (a : gR h1 r h') : gR h r h' := ⟨a.1, f.tr a.2⟩
def gK (K : sr_K) : Prop := ∀ L S h r h', gl L → gl S → gh h → K L S h = some (r, h') → gR h r h'
def gC (C : Nat → List Value → sr_H → Option sr_R) : Prop := ∀ m as h r h', gl as → gh h → C m as h = some (r, h') → gR h r h'
theorem gK_go {K : sr_K} (hK : gK K) {h : sr_H} {o : sr_3} (ho : g3 h o) {r : Option Value} {h' : sr_H} (e : sr_go K o = some (r, h')) : gR h r h' := by
  obtain ⟨L, S, h1, e1, e2⟩ := sr_go_inv e
  obtain ⟨a, b, c⟩ := ho _ _ _ e1
  exact gR_tr c (hK _ _ _ _ _ a b c.1 e2)
theorem gl_pop : ∀ (n : Nat) (as S as' S' : List Value), gl as → gl S → sr_pop n as S = some (as', S') → gl as' ∧ gl S'
  | 0, as, S, as', S', ga, gS, e => by
    rw [sr_pop] at e
    cases e
    exact ⟨ga, gS⟩
  | n + 1, as, v :: S, as', S', ga, gS, e => by
    rw [sr_pop] at e
    exact gl_pop n _ _ _ _ (gl_cons.mpr ⟨(gl_cons.mp gS).1, ga⟩) (gl_cons.mp gS).2 e
  | n + 1, as, [], as', S', ga, gS, e => by
    rw [sr_pop] at e
    cases e
theorem gK_cl {C : Nat → List Value → sr_H → Option sr_R} (hC : gC C) {K : sr_K} (hK : gK K) {mid n : Nat} {ok : List Value → sr_H → Bool} {L S : List Value} {h : sr_H} {r : Option Value} {h' : sr_H} (gL : gl L) (gS : gl S) (g : gh h) (e : sr_cl C mid n ok K L S h = some (r, h')) : gR h r h' := by
  obtain ⟨as, S', r1, h1, e0, -, -, -, e1, e2⟩ := sr_cl_inv e
  obtain ⟨ga, gs⟩ := gl_pop _ _ _ _ _ gl_nil gS e0
  have a := hC _ _ _ _ _ ga g e1
  refine gR_tr a.2 (hK _ _ _ _ _ gL ?_ a.2.1 e2)
  cases r1 with
  | none => exact gs
  | some v => exact gl_cons.mpr ⟨a.1 v rfl, gs⟩
theorem gK_op {B : Bool} {J : Nat → sr_K} {C : Nat → List Value → sr_H → Option sr_R} (hJ : ∀ t, gK (J t)) (hC : gC C) {K : sr_K} (hK : gK K) (i : Instr) (x : List Nat) : gK (sr_op B J C i x K) := by
  intro L S h r h' gL gS g e
  unfold sr_op at e
  split at e
  all_goals first
    | exact hJ _ _ _ _ _ _ gL gS g e
    | exact gK_go hK (g3_sm g gL gS) e
    | (unfold sr_iv at e
       split at e
       · split at e
         · exact gK_go hK (g3_bi g gL gS) e
         · cases e
       · exact gK_cl hC hK gL gS g e
       · exact gK_cl hC hK gL gS g e
       · cases e)
    | (split at e
       · first
         | exact hJ _ _ _ _ _ _ gL (gl_cons.mp gS).2 g e
         | (cases e; exact ⟨fun v z => by cases z; exact (gl_cons.mp gS).1, gf.rf g⟩)
         | (cases e; exact ⟨(fun v z => by cases z), gf.rf g⟩)
         | (split at e
            · first
              | exact hJ _ _ _ _ _ _ gL (gl_cons.mp gS).2 g e
              | exact hJ _ _ _ _ _ _ gL (gl_cons.mp (gl_cons.mp gS).2).2 g e
              | (cases e; exact ⟨fun v z => by cases z; exact (gl_cons.mp gS).1, gf.rf g⟩)
            · first
              | exact hK _ _ _ _ _ gL (gl_cons.mp gS).2 g e
              | exact hK _ _ _ _ _ gL (gl_cons.mp (gl_cons.mp gS).2).2 g e
              | (cases e; done))
       · cases e)
theorem gK_ev {B : Bool} {J : Nat → sr_K} {C : Nat → List Value → sr_H → Option sr_R} (hJ : ∀ t, gK (J t)) (hC : gC C) : ∀ cs, gK (sr_ev B J C cs)
  | [] => fun _ _ _ _ _ _ _ _ e => by cases e
  | (i, x) :: cs => gK_op hJ hC (gK_ev hJ hC cs) i x
theorem gl_ms : ∀ (bs : List Bool) (L : List Value), gl L → gl (sr_ms bs L)
  | true :: bs, v :: vs, h => gl_cons.mpr ⟨(gl_cons.mp h).1, gl_ms bs vs (gl_cons.mp h).2⟩
  | false :: bs, _ :: vs, h => gl_cons.mpr ⟨gv_U, gl_ms bs vs (gl_cons.mp h).2⟩
  | [], _, _ => gl_nil
  | true :: _, [], _ => gl_nil
  | false :: _, [], _ => gl_nil
theorem gl_ar : ∀ (as : List Value), gl as → gl (sr_ar as)
  | [], _ => gl_nil
  | v :: vs, h => by
    have a := gl_cons.mp h
    unfold sr_ar
    split
    · exact gl_nil
    · rename_i e
      cases e
      exact gl_cons.mpr ⟨a.1, gl_cons.mpr ⟨gv_U, gl_ar vs a.2⟩⟩
    · rename_i e
      cases e
      exact gl_cons.mpr ⟨a.1, gl_cons.mpr ⟨gv_U, gl_ar vs a.2⟩⟩
    · rename_i e
      cases e
      exact gl_cons.mpr ⟨a.1, gl_ar vs a.2⟩
theorem gl_in {n : Nat} {as : List Value} (h : gl as) : gl (sr_in n as) := fun v hv => by
  unfold sr_in at hv
  rcases List.mem_append.mp hv with q | q
  · exact gl_ar as h v q
  · rw [List.eq_of_mem_replicate q]
    exact gv_U
theorem gK_ef : ∀ (n d t : Nat), gK (sr_ef n d t)
  | 0, _, _ => fun _ _ _ _ _ _ _ _ e => by cases e
  | n + 1, d, t => fun L S h r h' gL gS g e => by
    rw [sr_ef_s] at e
    refine gK_ev (fun t => gK_ef n d t) (fun m as h r h' ga g e => ?_) _ _ _ _ _ _ (gl_ms _ _ gL) gS g e
    unfold sr_cf at e
    split at e
    · cases e
    · exact gK_ef n _ _ _ _ _ _ _ (gl_in ga) gl_nil g e
theorem gC_cf (n d : Nat) : gC (sr_cf n d) := by
  intro m as h r h' ga g e
  unfold sr_cf at e
  split at e
  · cases e
  · exact gK_ef n _ _ _ _ _ _ _ (gl_in ga) gl_nil g e
/-- the reference leaves what lies before it -/
theorem m_leaves {d m : Nat} {as : List Value} {h : sr_H} {Q : sr_T} (ga : gl as) (g : gh h) (k : sr_M d m as h Q) : sr_M d m as h (fun r h' => Q r h' ∧ gf h h') := by
  obtain ⟨n, r, h', e, q⟩ := k
  exact ⟨n, r, h', e, q, (gC_cf n d m as h r h' ga g e).2⟩
