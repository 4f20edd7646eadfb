/-! A turn of the law's loop. -/
theorem lw_d40 : dk 40 (.tableswitch 1481 0 35 #[160, 233, 258, 283, 320, 388, 425, 462, 499, 537, 586, 611, 636, 673, 698, 747, 796, 845, 882, 907, 932, 969, 1018, 1068, 1117, 1130, 1155, 1244, 1269, 1294, 1319, 1368, 1417, 1430, 1443, 1456]) 160 = true := by decide +kernel
set_option maxHeartbeats 2000000 in
theorem lw_turn {p : Program} {l : Launch} {e : Env} {s : State} {m : MethodId} {below : List Frame} {meth : Method} {c : Code} {b L : Nat} {xs : Nat → Int32} {G : sr_G} {Q : State → Prop} (E : lw_E p s m meth c b L xs G) (c4 : lw_G p l e s m below meth c b L G Q 360) : lw_G p l e s m below meth c b L G Q 33 := by
  intro k h H locs cells slots ls hk I hc hs hl kk
  have E' := E
  obtain ⟨⟨hx, hb, hr, hml, hown, hts, hX, hbl, hlocks, hgv⟩, hL, hkn, hG⟩ := E'
  have hbA : ¬ sr_A G b := by
    unfold sr_A
    omega
  have hS := I.2.2.2.2
  refine lv_aload_n hx hb (dk_ok (by decide +kernel : dk 33 (.aload_n 0) 1 = true)) rfl (lv_at hl 0 rfl) ?_
  refine lv_iload hx hb (dk_ok (by decide +kernel : dk 34 (.iload 4) 2 = true)) (lv_at hl 4 rfl) ?_
  refine va_sld hx hb hX hbl hbA hS (vp_in_nI (by omega) (by omega)) (dk_ok (by decide +kernel : dk 36 .iaload 1 = true)) ?_
  refine lv_bipush (v := 63) hx hb (dk_ok (by decide +kernel : dk 37 (.bipush 63) 2 = true)) (by decide) ?_
  refine lv_iand hx hb (dk_ok (by decide +kernel : dk 39 .iand 1 = true)) ?_
  refine lv_topi (fun v _ => ?_)
  by_cases hv : v.toInt < 0 ∨ 35 < v.toInt
  · refine lv_tableOut (tgt := 1521) hx hb (dk_ok lw_d40) hv (by decide) ?_
    exact W.widen (Nat.le_add_right _ _) (Nat.le_add_right _ _) (kk h H locs ls I hl)
  have h1 : ¬ v.toInt < 0 := fun z => hv (Or.inl z)
  have h2 : ¬ 35 < v.toInt := fun z => hv (Or.inr z)
  have hj : v.toInt = 0 ∨ v.toInt = 1 ∨ v.toInt = 2 ∨ v.toInt = 3 ∨ v.toInt = 4 ∨ v.toInt = 5 ∨ v.toInt = 6 ∨ v.toInt = 7 ∨ v.toInt = 8 ∨ v.toInt = 9 ∨ v.toInt = 10 ∨ v.toInt = 11 ∨ v.toInt = 12 ∨ v.toInt = 13 ∨ v.toInt = 14 ∨ v.toInt = 15 ∨ v.toInt = 16 ∨ v.toInt = 17 ∨ v.toInt = 18 ∨ v.toInt = 19 ∨ v.toInt = 20 ∨ v.toInt = 21 ∨ v.toInt = 22 ∨ v.toInt = 23 ∨ v.toInt = 24 ∨ v.toInt = 25 ∨ v.toInt = 26 ∨ v.toInt = 27 ∨ v.toInt = 28 ∨ v.toInt = 29 ∨ v.toInt = 30 ∨ v.toInt = 31 ∨ v.toInt = 32 ∨ v.toInt = 33 ∨ v.toInt = 34 ∨ v.toInt = 35 := by omega
  rcases hj with hj | hj | hj | hj | hj | hj | hj | hj | hj | hj | hj | hj | hj | hj | hj | hj | hj | hj | hj | hj | hj | hj | hj | hj | hj | hj | hj | hj | hj | hj | hj | hj | hj | hj | hj | hj
  · exact lv_tableIn (tgt := 200) (off := 160) hx hb (dk_ok lw_d40) h1 h2 (by rw [hj]; rfl) (by decide) ((lw_c0 E) k h H locs cells slots ls hk I hc hs hl kk)
  · exact lv_tableIn (tgt := 273) (off := 233) hx hb (dk_ok lw_d40) h1 h2 (by rw [hj]; rfl) (by decide) ((lw_c1 E) k h H locs cells slots ls hk I hc hs hl kk)
  · exact lv_tableIn (tgt := 298) (off := 258) hx hb (dk_ok lw_d40) h1 h2 (by rw [hj]; rfl) (by decide) ((lw_c2 E) k h H locs cells slots ls hk I hc hs hl kk)
  · exact lv_tableIn (tgt := 323) (off := 283) hx hb (dk_ok lw_d40) h1 h2 (by rw [hj]; rfl) (by decide) ((lw_c3 E) k h H locs cells slots ls hk I hc hs hl kk)
  · exact lv_tableIn (tgt := 360) (off := 320) hx hb (dk_ok lw_d40) h1 h2 (by rw [hj]; rfl) (by decide) ((c4) k h H locs cells slots ls hk I hc hs hl kk)
  · exact lv_tableIn (tgt := 428) (off := 388) hx hb (dk_ok lw_d40) h1 h2 (by rw [hj]; rfl) (by decide) ((lw_c5 E) k h H locs cells slots ls hk I hc hs hl kk)
  · exact lv_tableIn (tgt := 465) (off := 425) hx hb (dk_ok lw_d40) h1 h2 (by rw [hj]; rfl) (by decide) ((lw_c6 E) k h H locs cells slots ls hk I hc hs hl kk)
  · exact lv_tableIn (tgt := 502) (off := 462) hx hb (dk_ok lw_d40) h1 h2 (by rw [hj]; rfl) (by decide) ((lw_c7 E) k h H locs cells slots ls hk I hc hs hl kk)
  · exact lv_tableIn (tgt := 539) (off := 499) hx hb (dk_ok lw_d40) h1 h2 (by rw [hj]; rfl) (by decide) ((lw_c8 E) k h H locs cells slots ls hk I hc hs hl kk)
  · exact lv_tableIn (tgt := 577) (off := 537) hx hb (dk_ok lw_d40) h1 h2 (by rw [hj]; rfl) (by decide) ((lw_c9 E) k h H locs cells slots ls hk I hc hs hl kk)
  · exact lv_tableIn (tgt := 626) (off := 586) hx hb (dk_ok lw_d40) h1 h2 (by rw [hj]; rfl) (by decide) ((lw_c10 E) k h H locs cells slots ls hk I hc hs hl kk)
  · exact lv_tableIn (tgt := 651) (off := 611) hx hb (dk_ok lw_d40) h1 h2 (by rw [hj]; rfl) (by decide) ((lw_c11 E) k h H locs cells slots ls hk I hc hs hl kk)
  · exact lv_tableIn (tgt := 676) (off := 636) hx hb (dk_ok lw_d40) h1 h2 (by rw [hj]; rfl) (by decide) ((lw_c12 E) k h H locs cells slots ls hk I hc hs hl kk)
  · exact lv_tableIn (tgt := 713) (off := 673) hx hb (dk_ok lw_d40) h1 h2 (by rw [hj]; rfl) (by decide) ((lw_c13 E) k h H locs cells slots ls hk I hc hs hl kk)
  · exact lv_tableIn (tgt := 738) (off := 698) hx hb (dk_ok lw_d40) h1 h2 (by rw [hj]; rfl) (by decide) ((lw_c14 E) k h H locs cells slots ls hk I hc hs hl kk)
  · exact lv_tableIn (tgt := 787) (off := 747) hx hb (dk_ok lw_d40) h1 h2 (by rw [hj]; rfl) (by decide) ((lw_c15 E) k h H locs cells slots ls hk I hc hs hl kk)
  · exact lv_tableIn (tgt := 836) (off := 796) hx hb (dk_ok lw_d40) h1 h2 (by rw [hj]; rfl) (by decide) ((lw_c16 E) k h H locs cells slots ls hk I hc hs hl kk)
  · exact lv_tableIn (tgt := 885) (off := 845) hx hb (dk_ok lw_d40) h1 h2 (by rw [hj]; rfl) (by decide) ((lw_c17 E) k h H locs cells slots ls hk I hc hs hl kk)
  · exact lv_tableIn (tgt := 922) (off := 882) hx hb (dk_ok lw_d40) h1 h2 (by rw [hj]; rfl) (by decide) ((lw_c18 E) k h H locs cells slots ls hk I hc hs hl kk)
  · exact lv_tableIn (tgt := 947) (off := 907) hx hb (dk_ok lw_d40) h1 h2 (by rw [hj]; rfl) (by decide) ((lw_c19 E) k h H locs cells slots ls hk I hc hs hl kk)
  · exact lv_tableIn (tgt := 972) (off := 932) hx hb (dk_ok lw_d40) h1 h2 (by rw [hj]; rfl) (by decide) ((lw_c20 E) k h H locs cells slots ls hk I hc hs hl kk)
  · exact lv_tableIn (tgt := 1009) (off := 969) hx hb (dk_ok lw_d40) h1 h2 (by rw [hj]; rfl) (by decide) ((lw_c21 E) k h H locs cells slots ls hk I hc hs hl kk)
  · exact lv_tableIn (tgt := 1058) (off := 1018) hx hb (dk_ok lw_d40) h1 h2 (by rw [hj]; rfl) (by decide) ((lw_c22 E) k h H locs cells slots ls hk I hc hs hl kk)
  · exact lv_tableIn (tgt := 1108) (off := 1068) hx hb (dk_ok lw_d40) h1 h2 (by rw [hj]; rfl) (by decide) ((lw_c23 E) k h H locs cells slots ls hk I hc hs hl kk)
  · exact lv_tableIn (tgt := 1157) (off := 1117) hx hb (dk_ok lw_d40) h1 h2 (by rw [hj]; rfl) (by decide) ((lw_c24 E) k h H locs cells slots ls hk I hc hs hl kk)
  · exact lv_tableIn (tgt := 1170) (off := 1130) hx hb (dk_ok lw_d40) h1 h2 (by rw [hj]; rfl) (by decide) ((lw_c25 E) k h H locs cells slots ls hk I hc hs hl kk)
  · exact lv_tableIn (tgt := 1195) (off := 1155) hx hb (dk_ok lw_d40) h1 h2 (by rw [hj]; rfl) (by decide) ((lw_c26 E) k h H locs cells slots ls hk I hc hs hl kk)
  · exact lv_tableIn (tgt := 1284) (off := 1244) hx hb (dk_ok lw_d40) h1 h2 (by rw [hj]; rfl) (by decide) ((lw_c27 E) k h H locs cells slots ls hk I hc hs hl kk)
  · exact lv_tableIn (tgt := 1309) (off := 1269) hx hb (dk_ok lw_d40) h1 h2 (by rw [hj]; rfl) (by decide) ((lw_c28 E) k h H locs cells slots ls hk I hc hs hl kk)
  · exact lv_tableIn (tgt := 1334) (off := 1294) hx hb (dk_ok lw_d40) h1 h2 (by rw [hj]; rfl) (by decide) ((lw_c29 E) k h H locs cells slots ls hk I hc hs hl kk)
  · exact lv_tableIn (tgt := 1359) (off := 1319) hx hb (dk_ok lw_d40) h1 h2 (by rw [hj]; rfl) (by decide) ((lw_c30 E) k h H locs cells slots ls hk I hc hs hl kk)
  · exact lv_tableIn (tgt := 1408) (off := 1368) hx hb (dk_ok lw_d40) h1 h2 (by rw [hj]; rfl) (by decide) ((lw_c31 E) k h H locs cells slots ls hk I hc hs hl kk)
  · exact lv_tableIn (tgt := 1457) (off := 1417) hx hb (dk_ok lw_d40) h1 h2 (by rw [hj]; rfl) (by decide) ((lw_c32 E) k h H locs cells slots ls hk I hc hs hl kk)
  · exact lv_tableIn (tgt := 1470) (off := 1430) hx hb (dk_ok lw_d40) h1 h2 (by rw [hj]; rfl) (by decide) ((lw_c33 E) k h H locs cells slots ls hk I hc hs hl kk)
  · exact lv_tableIn (tgt := 1483) (off := 1443) hx hb (dk_ok lw_d40) h1 h2 (by rw [hj]; rfl) (by decide) ((lw_c34 E) k h H locs cells slots ls hk I hc hs hl kk)
  · exact lv_tableIn (tgt := 1496) (off := 1456) hx hb (dk_ok lw_d40) h1 h2 (by rw [hj]; rfl) (by decide) ((lw_c35 E) k h H locs cells slots ls hk I hc hs hl kk)
