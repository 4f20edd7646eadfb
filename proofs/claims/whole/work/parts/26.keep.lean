/-! Printed by wip/whole/gen6.py: what writes leave as it is. -/
section KEEP
variable {h : sr_H} {a b i j k n sp dp q ci : Nat} {v : Int32} {w : Int64} {x : Value}
theorem SS_up {P : sr_H → Prop} (hp : ∀ {h h' : sr_H}, SS h h' → P h → P h') {h h' : sr_H} (s : SS h h') : P h' ↔ P h := ⟨hp s.sy, hp s⟩
theorem sF_cell (h : sr_H) (a k : Nat) (x : Value) (b : Nat) : (sF h a k x).2 b = h.2 b ∨ ∃ c fs, h.2 b = .inr (.inr (c, fs)) ∧ (sF h a k x).2 b = .inr (.inr (c, fs.set k x)) := by
  unfold sF
  dsimp only
  by_cases hb : b = a
  · subst hb
    rcases e : h.2 b with ⟨t, n, f⟩ | ⟨n, f⟩ | ⟨c, fs⟩
    · exact Or.inl (by simp)
    · exact Or.inl (by simp)
    · exact Or.inr ⟨c, fs, rfl, by simp⟩
  · exact Or.inl (by simp only [hb, if_false])
theorem lI_sI : lI (sI h a i v) b = lI h b := lI_SS (SS_sI h a i v) b
theorem lI_sJ : lI (sJ h a i w) b = lI h b := lI_SS (SS_sJ h a i w) b
theorem lI_sC : lI (sC h q sp a dp n) b = lI h b := lI_SS (SS_sC h q sp a dp n) b
theorem lI_sF : lI (sF h a k x) b = lI h b := by
  unfold lI
  rcases sF_cell h a k x b with e | ⟨c, fs, e1, e2⟩
  · rw [e]; rfl
  · rw [e1, e2]
theorem lZ_sI : lZ (sI h a i v) b = lZ h b := lZ_SS (SS_sI h a i v) b
theorem lZ_sJ : lZ (sJ h a i w) b = lZ h b := lZ_SS (SS_sJ h a i w) b
theorem lZ_sC : lZ (sC h q sp a dp n) b = lZ h b := lZ_SS (SS_sC h q sp a dp n) b
theorem lZ_sF : lZ (sF h a k x) b = lZ h b := by
  unfold lZ
  rcases sF_cell h a k x b with e | ⟨c, fs, e1, e2⟩
  · rw [e]; rfl
  · rw [e1, e2]
theorem lJ_sI : lJ (sI h a i v) b = lJ h b := lJ_SS (SS_sI h a i v) b
theorem lJ_sJ : lJ (sJ h a i w) b = lJ h b := lJ_SS (SS_sJ h a i w) b
theorem lJ_sC : lJ (sC h q sp a dp n) b = lJ h b := lJ_SS (SS_sC h q sp a dp n) b
theorem lJ_sF : lJ (sF h a k x) b = lJ h b := by
  unfold lJ
  rcases sF_cell h a k x b with e | ⟨c, fs, e1, e2⟩
  · rw [e]; rfl
  · rw [e1, e2]
theorem isA_sI : isA (sI h a i v) b ↔ isA h b := isA_SS (SS_sI h a i v) b
theorem isA_sJ : isA (sJ h a i w) b ↔ isA h b := isA_SS (SS_sJ h a i w) b
theorem isA_sC : isA (sC h q sp a dp n) b ↔ isA h b := isA_SS (SS_sC h q sp a dp n) b
theorem isA_sF : isA (sF h a k x) b ↔ isA h b := by
  unfold isA
  rcases sF_cell h a k x b with e | ⟨c, fs, e1, e2⟩
  · rw [e]
  · rw [e1, e2]
theorem isI_sI : isI (sI h a i v) b ↔ isI h b := isI_SS (SS_sI h a i v) b
theorem isI_sJ : isI (sJ h a i w) b ↔ isI h b := isI_SS (SS_sJ h a i w) b
theorem isI_sC : isI (sC h q sp a dp n) b ↔ isI h b := isI_SS (SS_sC h q sp a dp n) b
theorem isI_sF : isI (sF h a k x) b ↔ isI h b := by
  unfold isI
  rcases sF_cell h a k x b with e | ⟨c, fs, e1, e2⟩
  · rw [e]
  · rw [e1, e2]
theorem isJ_sI : isJ (sI h a i v) b ↔ isJ h b := isJ_SS (SS_sI h a i v) b
theorem isJ_sJ : isJ (sJ h a i w) b ↔ isJ h b := isJ_SS (SS_sJ h a i w) b
theorem isJ_sC : isJ (sC h q sp a dp n) b ↔ isJ h b := isJ_SS (SS_sC h q sp a dp n) b
theorem isJ_sF : isJ (sF h a k x) b ↔ isJ h b := by
  unfold isJ
  rcases sF_cell h a k x b with e | ⟨c, fs, e1, e2⟩
  · rw [e]
  · rw [e1, e2]
theorem oC_sI : oC (sI h a i v) b ci ↔ oC h b ci := oC_SS (SS_sI h a i v) b ci
theorem oC_sJ : oC (sJ h a i w) b ci ↔ oC h b ci := oC_SS (SS_sJ h a i w) b ci
theorem oC_sC : oC (sC h q sp a dp n) b ci ↔ oC h b ci := oC_SS (SS_sC h q sp a dp n) b ci
theorem oC_sF : oC (sF h a k x) b ci ↔ oC h b ci := by
  unfold oC
  rcases sF_cell h a k x b with e | ⟨c, fs, e1, e2⟩
  · rw [e]; rfl
  · rw [e1, e2]; simp [sF_1]
theorem oF_sI : oF (sI h a i v) b ci j ↔ oF h b ci j := oF_SS (SS_sI h a i v) b ci j
theorem oF_sJ : oF (sJ h a i w) b ci j ↔ oF h b ci j := oF_SS (SS_sJ h a i w) b ci j
theorem oF_sC : oF (sC h q sp a dp n) b ci j ↔ oF h b ci j := oF_SS (SS_sC h q sp a dp n) b ci j
theorem oF_sF : oF (sF h a k x) b ci j ↔ oF h b ci j := by
  unfold oF
  rcases sF_cell h a k x b with e | ⟨c, fs, e1, e2⟩
  · rw [e]; rfl
  · rw [e1, e2]; simp [sF_1]
theorem oK_sI : oK (sI h a i v) b j ↔ oK h b j := oK_SS (SS_sI h a i v) b j
theorem oK_sJ : oK (sJ h a i w) b j ↔ oK h b j := oK_SS (SS_sJ h a i w) b j
theorem oK_sC : oK (sC h q sp a dp n) b j ↔ oK h b j := oK_SS (SS_sC h q sp a dp n) b j
theorem oK_sF : oK (sF h a k x) b j ↔ oK h b j := by
  unfold oK
  rcases sF_cell h a k x b with e | ⟨c, fs, e1, e2⟩
  · rw [e]
  · rw [e1, e2]; simp
theorem Hst_sI : Hst (sI h a i v) ↔ Hst h := ⟨Hst.ss (SS.sy (SS_sI h a i v)), Hst.ss (SS_sI h a i v)⟩
theorem Hst_sJ : Hst (sJ h a i w) ↔ Hst h := ⟨Hst.ss (SS.sy (SS_sJ h a i w)), Hst.ss (SS_sJ h a i w)⟩
theorem Hst_sC : Hst (sC h q sp a dp n) ↔ Hst h := ⟨Hst.ss (SS.sy (SS_sC h q sp a dp n)), Hst.ss (SS_sC h q sp a dp n)⟩
theorem Hst_sF (hx : sr_er x = sr_er (hF h a k)) : Hst (sF h a k x) ↔ Hst h := ⟨Hst.ss (SS.sy (SS_sF hx)), Hst.ss (SS_sF hx)⟩
theorem Jdg_sI : Jdg (sI h a i v) ↔ Jdg h := ⟨Jdg.ss (SS.sy (SS_sI h a i v)), Jdg.ss (SS_sI h a i v)⟩
theorem Jdg_sJ : Jdg (sJ h a i w) ↔ Jdg h := ⟨Jdg.ss (SS.sy (SS_sJ h a i w)), Jdg.ss (SS_sJ h a i w)⟩
theorem Jdg_sC : Jdg (sC h q sp a dp n) ↔ Jdg h := ⟨Jdg.ss (SS.sy (SS_sC h q sp a dp n)), Jdg.ss (SS_sC h q sp a dp n)⟩
theorem Jdg_sF (hx : sr_er x = sr_er (hF h a k)) : Jdg (sF h a k x) ↔ Jdg h := ⟨Jdg.ss (SS.sy (SS_sF hx)), Jdg.ss (SS_sF hx)⟩
theorem Lws_sI : Lws (sI h a i v) b ↔ Lws h b := ⟨Lws.ss (SS.sy (SS_sI h a i v)), Lws.ss (SS_sI h a i v)⟩
theorem Lws_sJ : Lws (sJ h a i w) b ↔ Lws h b := ⟨Lws.ss (SS.sy (SS_sJ h a i w)), Lws.ss (SS_sJ h a i w)⟩
theorem Lws_sC : Lws (sC h q sp a dp n) b ↔ Lws h b := ⟨Lws.ss (SS.sy (SS_sC h q sp a dp n)), Lws.ss (SS_sC h q sp a dp n)⟩
theorem Lws_sF (hx : sr_er x = sr_er (hF h a k)) : Lws (sF h a k x) b ↔ Lws h b := ⟨Lws.ss (SS.sy (SS_sF hx)), Lws.ss (SS_sF hx)⟩
theorem Rdr_sI : Rdr (sI h a i v) ↔ Rdr h := ⟨Rdr.ss (SS.sy (SS_sI h a i v)), Rdr.ss (SS_sI h a i v)⟩
theorem Rdr_sJ : Rdr (sJ h a i w) ↔ Rdr h := ⟨Rdr.ss (SS.sy (SS_sJ h a i w)), Rdr.ss (SS_sJ h a i w)⟩
theorem Rdr_sC : Rdr (sC h q sp a dp n) ↔ Rdr h := ⟨Rdr.ss (SS.sy (SS_sC h q sp a dp n)), Rdr.ss (SS_sC h q sp a dp n)⟩
theorem Rdr_sF (hx : sr_er x = sr_er (hF h a k)) : Rdr (sF h a k x) ↔ Rdr h := ⟨Rdr.ss (SS.sy (SS_sF hx)), Rdr.ss (SS_sF hx)⟩
theorem Rm_sI : Rm (sI h a i v) b ↔ Rm h b := ⟨Rm.ss (SS.sy (SS_sI h a i v)), Rm.ss (SS_sI h a i v)⟩
theorem Rm_sJ : Rm (sJ h a i w) b ↔ Rm h b := ⟨Rm.ss (SS.sy (SS_sJ h a i w)), Rm.ss (SS_sJ h a i w)⟩
theorem Rm_sC : Rm (sC h q sp a dp n) b ↔ Rm h b := ⟨Rm.ss (SS.sy (SS_sC h q sp a dp n)), Rm.ss (SS_sC h q sp a dp n)⟩
theorem Rm_sF (hx : sr_er x = sr_er (hF h a k)) : Rm (sF h a k x) b ↔ Rm h b := ⟨Rm.ss (SS.sy (SS_sF hx)), Rm.ss (SS_sF hx)⟩
theorem Scr_sI : Scr (sI h a i v) b ↔ Scr h b := ⟨Scr.ss (SS.sy (SS_sI h a i v)), Scr.ss (SS_sI h a i v)⟩
theorem Scr_sJ : Scr (sJ h a i w) b ↔ Scr h b := ⟨Scr.ss (SS.sy (SS_sJ h a i w)), Scr.ss (SS_sJ h a i w)⟩
theorem Scr_sC : Scr (sC h q sp a dp n) b ↔ Scr h b := ⟨Scr.ss (SS.sy (SS_sC h q sp a dp n)), Scr.ss (SS_sC h q sp a dp n)⟩
theorem Scr_sF (hx : sr_er x = sr_er (hF h a k)) : Scr (sF h a k x) b ↔ Scr h b := ⟨Scr.ss (SS.sy (SS_sF hx)), Scr.ss (SS_sF hx)⟩
theorem Sgt_sI : Sgt (sI h a i v) ↔ Sgt h := ⟨Sgt.ss (SS.sy (SS_sI h a i v)), Sgt.ss (SS_sI h a i v)⟩
theorem Sgt_sJ : Sgt (sJ h a i w) ↔ Sgt h := ⟨Sgt.ss (SS.sy (SS_sJ h a i w)), Sgt.ss (SS_sJ h a i w)⟩
theorem Sgt_sC : Sgt (sC h q sp a dp n) ↔ Sgt h := ⟨Sgt.ss (SS.sy (SS_sC h q sp a dp n)), Sgt.ss (SS_sC h q sp a dp n)⟩
theorem Sgt_sF (hx : sr_er x = sr_er (hF h a k)) : Sgt (sF h a k x) ↔ Sgt h := ⟨Sgt.ss (SS.sy (SS_sF hx)), Sgt.ss (SS_sF hx)⟩
theorem Txt_sI : Txt (sI h a i v) b ↔ Txt h b := ⟨Txt.ss (SS.sy (SS_sI h a i v)), Txt.ss (SS_sI h a i v)⟩
theorem Txt_sJ : Txt (sJ h a i w) b ↔ Txt h b := ⟨Txt.ss (SS.sy (SS_sJ h a i w)), Txt.ss (SS_sJ h a i w)⟩
theorem Txt_sC : Txt (sC h q sp a dp n) b ↔ Txt h b := ⟨Txt.ss (SS.sy (SS_sC h q sp a dp n)), Txt.ss (SS_sC h q sp a dp n)⟩
theorem Txt_sF (hx : sr_er x = sr_er (hF h a k)) : Txt (sF h a k x) b ↔ Txt h b := ⟨Txt.ss (SS.sy (SS_sF hx)), Txt.ss (SS_sF hx)⟩
theorem Wys_sI : Wys (sI h a i v) ↔ Wys h := ⟨Wys.ss (SS.sy (SS_sI h a i v)), Wys.ss (SS_sI h a i v)⟩
theorem Wys_sJ : Wys (sJ h a i w) ↔ Wys h := ⟨Wys.ss (SS.sy (SS_sJ h a i w)), Wys.ss (SS_sJ h a i w)⟩
theorem Wys_sC : Wys (sC h q sp a dp n) ↔ Wys h := ⟨Wys.ss (SS.sy (SS_sC h q sp a dp n)), Wys.ss (SS_sC h q sp a dp n)⟩
theorem Wys_sF (hx : sr_er x = sr_er (hF h a k)) : Wys (sF h a k x) ↔ Wys h := ⟨Wys.ss (SS.sy (SS_sF hx)), Wys.ss (SS_sF hx)⟩
theorem Mdl_sI : Mdl (sI h a i v) ↔ Mdl h := ⟨Mdl.ss (SS.sy (SS_sI h a i v)), Mdl.ss (SS_sI h a i v)⟩
theorem Mdl_sJ : Mdl (sJ h a i w) ↔ Mdl h := ⟨Mdl.ss (SS.sy (SS_sJ h a i w)), Mdl.ss (SS_sJ h a i w)⟩
theorem Mdl_sC : Mdl (sC h q sp a dp n) ↔ Mdl h := ⟨Mdl.ss (SS.sy (SS_sC h q sp a dp n)), Mdl.ss (SS_sC h q sp a dp n)⟩
theorem Mdl_sF (hx : sr_er x = sr_er (hF h a k)) : Mdl (sF h a k x) ↔ Mdl h := ⟨Mdl.ss (SS.sy (SS_sF hx)), Mdl.ss (SS_sF hx)⟩
theorem Prs_sI : Prs (sI h a i v) b ↔ Prs h b := ⟨Prs.ss (SS.sy (SS_sI h a i v)), Prs.ss (SS_sI h a i v)⟩
theorem Prs_sJ : Prs (sJ h a i w) b ↔ Prs h b := ⟨Prs.ss (SS.sy (SS_sJ h a i w)), Prs.ss (SS_sJ h a i w)⟩
theorem Prs_sC : Prs (sC h q sp a dp n) b ↔ Prs h b := ⟨Prs.ss (SS.sy (SS_sC h q sp a dp n)), Prs.ss (SS_sC h q sp a dp n)⟩
theorem Prs_sF (hx : sr_er x = sr_er (hF h a k)) : Prs (sF h a k x) b ↔ Prs h b := ⟨Prs.ss (SS.sy (SS_sF hx)), Prs.ss (SS_sF hx)⟩
theorem Rom_sI : Rom (sI h a i v) b ↔ Rom h b := ⟨Rom.ss (SS.sy (SS_sI h a i v)), Rom.ss (SS_sI h a i v)⟩
theorem Rom_sJ : Rom (sJ h a i w) b ↔ Rom h b := ⟨Rom.ss (SS.sy (SS_sJ h a i w)), Rom.ss (SS_sJ h a i w)⟩
theorem Rom_sC : Rom (sC h q sp a dp n) b ↔ Rom h b := ⟨Rom.ss (SS.sy (SS_sC h q sp a dp n)), Rom.ss (SS_sC h q sp a dp n)⟩
theorem Rom_sF (hx : sr_er x = sr_er (hF h a k)) : Rom (sF h a k x) b ↔ Rom h b := ⟨Rom.ss (SS.sy (SS_sF hx)), Rom.ss (SS_sF hx)⟩
theorem sr_eri : sr_er (.int v) = .int 0 := rfl
theorem sr_erl : sr_er (.long w) = .long 0 := rfl
theorem sr_okI : sr_ok 0 (.int v) = true := rfl
theorem sr_okJ : sr_ok 2 (.long w) = true := rfl
theorem sr_okR : sr_ok 3 (.ref a) = true := rfl
theorem sr_okZ : sr_ok 1 (.int v) = true ↔ v = 0 ∨ v = 1 := by simp [sr_ok]
end KEEP
