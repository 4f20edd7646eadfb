/-! Switches. -/
def swt (v : Int32) (d : Nat) : Nat → List Nat → Nat
  | _, [] => d
  | j, t :: ts => if v = nI j then t else swt v d (j + 1) ts
theorem swt_n {k d : Nat} (hk : k < 2 ^ 31) : ∀ (ts : List Nat) (j : Nat), j + ts.length < 2 ^ 31 → swt (nI k) d j ts = if k < j ∨ j + ts.length ≤ k then d else ts.getD (k - j) 0
  | [], j, _ => by
    simp only [swt, List.length_nil]
    rw [if_pos (by omega)]
  | t :: ts, j, h => by
    simp only [List.length_cons] at h ⊢
    rw [swt, swt_n hk ts (j + 1) (by omega)]
    simp only [nI_eq hk (show j < 2 ^ 31 by omega)]
    by_cases e : k = j
    · subst e
      rw [if_pos rfl, if_neg (by omega), Nat.sub_self]
      rfl
    · rw [if_neg e]
      by_cases c : k < j ∨ j + (ts.length + 1) ≤ k
      · rw [if_pos c, if_pos (by omega)]
      · rw [if_neg c, if_neg (by omega)]
        obtain ⟨m, hm⟩ : ∃ m, k - j = m + 1 := ⟨k - j - 1, by omega⟩
        have hm' : k - (j + 1) = m := by omega
        rw [hm, hm']
        rfl
theorem swt_neg {v : Int32} {d : Nat} (hv : v < 0) : ∀ (ts : List Nat) (j : Nat), j + ts.length < 2 ^ 31 → swt v d j ts = d
  | [], _, _ => rfl
  | t :: ts, j, h => by
    simp only [List.length_cons] at h
    rw [swt, if_neg, swt_neg hv ts (j + 1) (by omega)]
    intro e
    rw [e] at hv
    exact nI_pos (by omega) hv
theorem sw_gen (v : Int32) (lo d : Nat) (hi : Int) (ts : List Nat) (h1 : hi + 1 = (lo : Int) + ts.length) (h2 : lo + ts.length < 2 ^ 31) (h3 : 0 < ts.length) : sr_tsw (lo : Int) hi (d :: ts) v = swt v d lo ts := by
  unfold sr_tsw
  by_cases hv : v < 0
  · have h4 := Int32.lt_iff_toInt_lt.mp hv
    rw [Int32.toInt_zero] at h4
    rw [swt_neg hv ts lo h2, if_pos (Or.inl (by omega))]
    rfl
  · obtain ⟨k, hk, rfl⟩ := nI_of hv
    rw [swt_n hk ts lo h2, nI_toInt hk]
    by_cases c : k < lo ∨ lo + ts.length ≤ k
    · rw [if_pos c, if_pos (by omega)]
      rfl
    · rw [if_neg c, if_neg (by omega)]
      have : 1 + ((k : Int) - (lo : Int)).toNat = (k - lo) + 1 := by omega
      rw [this]
      rfl
theorem tI_eq {v : Int32} {k : Nat} (hk : k < 2 ^ 31) : v.toInt = (k : Int) ↔ v = nI k := by
  constructor
  · intro e
    exact Int32.toInt_inj.mp (by rw [e, nI_toInt hk])
  · rintro rfl
    exact nI_toInt hk
theorem sw_37 {v : Int32} : sr_tsw 7 32 [37032, 37001, 37002, 37003, 37004, 37007, 37010, 37013, 37016, 37019, 37022, 37032, 37032, 37032, 37032, 37032, 37032, 37032, 37032, 37032, 37032, 37032, 37032, 37032, 37032, 37028, 37025] v = if v = nI 7 then 37001 else (if v = nI 8 then 37002 else (if v = nI 9 then 37003 else (if v = nI 10 then 37004 else (if v = nI 11 then 37007 else (if v = nI 12 then 37010 else (if v = nI 13 then 37013 else (if v = nI 14 then 37016 else (if v = nI 15 then 37019 else (if v = nI 16 then 37022 else (if v = nI 17 then 37032 else (if v = nI 18 then 37032 else (if v = nI 19 then 37032 else (if v = nI 20 then 37032 else (if v = nI 21 then 37032 else (if v = nI 22 then 37032 else (if v = nI 23 then 37032 else (if v = nI 24 then 37032 else (if v = nI 25 then 37032 else (if v = nI 26 then 37032 else (if v = nI 27 then 37032 else (if v = nI 28 then 37032 else (if v = nI 29 then 37032 else (if v = nI 30 then 37032 else (if v = nI 31 then 37028 else (if v = nI 32 then 37025 else 37032))))))))))))))))))))))))) := sw_gen v 7 37032 32 [37001, 37002, 37003, 37004, 37007, 37010, 37013, 37016, 37019, 37022, 37032, 37032, 37032, 37032, 37032, 37032, 37032, 37032, 37032, 37032, 37032, 37032, 37032, 37032, 37028, 37025] (by decide) (by decide) (by decide)
theorem sw_44 {v : Int32} : sr_tsw 20 27 [44009, 44001, 44002, 44003, 44004, 44005, 44006, 44007, 44008] v = if v = nI 20 then 44001 else (if v = nI 21 then 44002 else (if v = nI 22 then 44003 else (if v = nI 23 then 44004 else (if v = nI 24 then 44005 else (if v = nI 25 then 44006 else (if v = nI 26 then 44007 else (if v = nI 27 then 44008 else 44009))))))) := sw_gen v 20 44009 27 [44001, 44002, 44003, 44004, 44005, 44006, 44007, 44008] (by decide) (by decide) (by decide)
theorem sw_62 {v : Int32} : sr_tsw 7 33 [62007, 62005, 62005, 62006, 62006, 62004, 62004, 62004, 62004, 62004, 62004, 62007, 62007, 62007, 62007, 62007, 62007, 62007, 62007, 62007, 62007, 62007, 62007, 62007, 62007, 62001, 62002, 62003] v = if v = nI 7 then 62005 else (if v = nI 8 then 62005 else (if v = nI 9 then 62006 else (if v = nI 10 then 62006 else (if v = nI 11 then 62004 else (if v = nI 12 then 62004 else (if v = nI 13 then 62004 else (if v = nI 14 then 62004 else (if v = nI 15 then 62004 else (if v = nI 16 then 62004 else (if v = nI 17 then 62007 else (if v = nI 18 then 62007 else (if v = nI 19 then 62007 else (if v = nI 20 then 62007 else (if v = nI 21 then 62007 else (if v = nI 22 then 62007 else (if v = nI 23 then 62007 else (if v = nI 24 then 62007 else (if v = nI 25 then 62007 else (if v = nI 26 then 62007 else (if v = nI 27 then 62007 else (if v = nI 28 then 62007 else (if v = nI 29 then 62007 else (if v = nI 30 then 62007 else (if v = nI 31 then 62001 else (if v = nI 32 then 62002 else (if v = nI 33 then 62003 else 62007)))))))))))))))))))))))))) := sw_gen v 7 62007 33 [62005, 62005, 62006, 62006, 62004, 62004, 62004, 62004, 62004, 62004, 62007, 62007, 62007, 62007, 62007, 62007, 62007, 62007, 62007, 62007, 62007, 62007, 62007, 62007, 62001, 62002, 62003] (by decide) (by decide) (by decide)
theorem sw_73 {v : Int32} : sr_tsw 40 62 [73018, 73004, 73005, 73008, 73006, 73018, 73007, 73018, 73009, 73018, 73018, 73018, 73018, 73018, 73018, 73018, 73018, 73018, 73018, 73018, 73003, 73011, 73010, 73015] v = if v = nI 40 then 73004 else (if v = nI 41 then 73005 else (if v = nI 42 then 73008 else (if v = nI 43 then 73006 else (if v = nI 44 then 73018 else (if v = nI 45 then 73007 else (if v = nI 46 then 73018 else (if v = nI 47 then 73009 else (if v = nI 48 then 73018 else (if v = nI 49 then 73018 else (if v = nI 50 then 73018 else (if v = nI 51 then 73018 else (if v = nI 52 then 73018 else (if v = nI 53 then 73018 else (if v = nI 54 then 73018 else (if v = nI 55 then 73018 else (if v = nI 56 then 73018 else (if v = nI 57 then 73018 else (if v = nI 58 then 73018 else (if v = nI 59 then 73003 else (if v = nI 60 then 73011 else (if v = nI 61 then 73010 else (if v = nI 62 then 73015 else 73018)))))))))))))))))))))) := sw_gen v 40 73018 62 [73004, 73005, 73008, 73006, 73018, 73007, 73018, 73009, 73018, 73018, 73018, 73018, 73018, 73018, 73018, 73018, 73018, 73018, 73018, 73003, 73011, 73010, 73015] (by decide) (by decide) (by decide)
theorem sw_131 {v : Int32} : sr_tsw 0 5 [131008, 131002, 131003, 131004, 131005, 131006, 131007] v = if v = nI 0 then 131002 else (if v = nI 1 then 131003 else (if v = nI 2 then 131004 else (if v = nI 3 then 131005 else (if v = nI 4 then 131006 else (if v = nI 5 then 131007 else 131008))))) := sw_gen v 0 131008 5 [131002, 131003, 131004, 131005, 131006, 131007] (by decide) (by decide) (by decide)
theorem sw_132 {v : Int32} : sr_tsw 0 5 [132008, 132002, 132003, 132004, 132005, 132006, 132007] v = if v = nI 0 then 132002 else (if v = nI 1 then 132003 else (if v = nI 2 then 132004 else (if v = nI 3 then 132005 else (if v = nI 4 then 132006 else (if v = nI 5 then 132007 else 132008))))) := sw_gen v 0 132008 5 [132002, 132003, 132004, 132005, 132006, 132007] (by decide) (by decide) (by decide)
theorem sw_143 {v : Int32} : sr_tsw 0 3 [143007, 143003, 143004, 143005, 143006] v = if v = nI 0 then 143003 else (if v = nI 1 then 143004 else (if v = nI 2 then 143005 else (if v = nI 3 then 143006 else 143007))) := sw_gen v 0 143007 3 [143003, 143004, 143005, 143006] (by decide) (by decide) (by decide)
theorem sw_144 {v : Int32} : sr_tsw 0 4 [144004, 144001, 144001, 144002, 144002, 144003] v = if v = nI 0 then 144001 else (if v = nI 1 then 144001 else (if v = nI 2 then 144002 else (if v = nI 3 then 144002 else (if v = nI 4 then 144003 else 144004)))) := sw_gen v 0 144004 4 [144001, 144001, 144002, 144002, 144003] (by decide) (by decide) (by decide)
theorem sw_148 {v : Int32} : sr_tsw 0 2 [148006, 148003, 148004, 148005] v = if v = nI 0 then 148003 else (if v = nI 1 then 148004 else (if v = nI 2 then 148005 else 148006)) := sw_gen v 0 148006 2 [148003, 148004, 148005] (by decide) (by decide) (by decide)
theorem sw_163 {v : Int32} : sr_tsw 1 5 [163011, 163006, 163007, 163008, 163009, 163010] v = if v = nI 1 then 163006 else (if v = nI 2 then 163007 else (if v = nI 3 then 163008 else (if v = nI 4 then 163009 else (if v = nI 5 then 163010 else 163011)))) := sw_gen v 1 163011 5 [163006, 163007, 163008, 163009, 163010] (by decide) (by decide) (by decide)
theorem sw_167 {v : Int32} : sr_tsw 0 14 [167016, 167001, 167002, 167003, 167004, 167005, 167006, 167007, 167008, 167009, 167010, 167011, 167012, 167013, 167014, 167015] v = if v = nI 0 then 167001 else (if v = nI 1 then 167002 else (if v = nI 2 then 167003 else (if v = nI 3 then 167004 else (if v = nI 4 then 167005 else (if v = nI 5 then 167006 else (if v = nI 6 then 167007 else (if v = nI 7 then 167008 else (if v = nI 8 then 167009 else (if v = nI 9 then 167010 else (if v = nI 10 then 167011 else (if v = nI 11 then 167012 else (if v = nI 12 then 167013 else (if v = nI 13 then 167014 else (if v = nI 14 then 167015 else 167016)))))))))))))) := sw_gen v 0 167016 14 [167001, 167002, 167003, 167004, 167005, 167006, 167007, 167008, 167009, 167010, 167011, 167012, 167013, 167014, 167015] (by decide) (by decide) (by decide)
theorem sw_188 {v : Int32} : sr_tsw 1 4 [188013, 188001, 188004, 188007, 188010] v = if v = nI 1 then 188001 else (if v = nI 2 then 188004 else (if v = nI 3 then 188007 else (if v = nI 4 then 188010 else 188013))) := sw_gen v 1 188013 4 [188001, 188004, 188007, 188010] (by decide) (by decide) (by decide)
theorem sw_190 {v : Int32} : sr_tsw 0 6 [190013, 190006, 190007, 190008, 190009, 190010, 190011, 190012] v = if v = nI 0 then 190006 else (if v = nI 1 then 190007 else (if v = nI 2 then 190008 else (if v = nI 3 then 190009 else (if v = nI 4 then 190010 else (if v = nI 5 then 190011 else (if v = nI 6 then 190012 else 190013)))))) := sw_gen v 0 190013 6 [190006, 190007, 190008, 190009, 190010, 190011, 190012] (by decide) (by decide) (by decide)
theorem sw_206 {v : Int32} : sr_lsw (#[(0, 0), (1, 0)] : Array (Int × Int)).toList ([206003, 206001, 206002].drop 1) ([206003, 206001, 206002].getD 0 0) v.toInt = if v = nI 0 then 206001 else (if v = nI 1 then 206002 else (206003)) := by
  show (if v.toInt = ((0 : Nat) : Int) then 206001 else (if v.toInt = ((1 : Nat) : Int) then 206002 else (206003))) = _
  simp only [tI_eq (v := v) (k := 0) (by decide), tI_eq (v := v) (k := 1) (by decide)]
theorem sw_208 {v : Int32} : sr_lsw (#[(42, 0), (43, 0), (45, 0), (47, 0), (60, 0), (61, 0), (62, 0), (256, 0), (257, 0), (258, 0), (261, 0)] : Array (Int × Int)).toList ([208031, 208006, 208004, 208005, 208008, 208010, 208016, 208013, 208019, 208025, 208022, 208028].drop 1) ([208031, 208006, 208004, 208005, 208008, 208010, 208016, 208013, 208019, 208025, 208022, 208028].getD 0 0) v.toInt = if v = nI 42 then 208006 else (if v = nI 43 then 208004 else (if v = nI 45 then 208005 else (if v = nI 47 then 208008 else (if v = nI 60 then 208010 else (if v = nI 61 then 208016 else (if v = nI 62 then 208013 else (if v = nI 256 then 208019 else (if v = nI 257 then 208025 else (if v = nI 258 then 208022 else (if v = nI 261 then 208028 else (208031))))))))))) := by
  show (if v.toInt = ((42 : Nat) : Int) then 208006 else (if v.toInt = ((43 : Nat) : Int) then 208004 else (if v.toInt = ((45 : Nat) : Int) then 208005 else (if v.toInt = ((47 : Nat) : Int) then 208008 else (if v.toInt = ((60 : Nat) : Int) then 208010 else (if v.toInt = ((61 : Nat) : Int) then 208016 else (if v.toInt = ((62 : Nat) : Int) then 208013 else (if v.toInt = ((256 : Nat) : Int) then 208019 else (if v.toInt = ((257 : Nat) : Int) then 208025 else (if v.toInt = ((258 : Nat) : Int) then 208022 else (if v.toInt = ((261 : Nat) : Int) then 208028 else (208031)))))))))))) = _
  simp only [tI_eq (v := v) (k := 42) (by decide), tI_eq (v := v) (k := 43) (by decide), tI_eq (v := v) (k := 45) (by decide), tI_eq (v := v) (k := 47) (by decide), tI_eq (v := v) (k := 60) (by decide), tI_eq (v := v) (k := 61) (by decide), tI_eq (v := v) (k := 62) (by decide), tI_eq (v := v) (k := 256) (by decide), tI_eq (v := v) (k := 257) (by decide), tI_eq (v := v) (k := 258) (by decide), tI_eq (v := v) (k := 261) (by decide)]
theorem sw_249 {v : Int32} : sr_tsw 0 4 [249011, 249006, 249007, 249008, 249009, 249010] v = if v = nI 0 then 249006 else (if v = nI 1 then 249007 else (if v = nI 2 then 249008 else (if v = nI 3 then 249009 else (if v = nI 4 then 249010 else 249011)))) := sw_gen v 0 249011 4 [249006, 249007, 249008, 249009, 249010] (by decide) (by decide) (by decide)
theorem sw_250 {v : Int32} : sr_tsw 0 5 [250008, 250002, 250003, 250004, 250005, 250006, 250007] v = if v = nI 0 then 250002 else (if v = nI 1 then 250003 else (if v = nI 2 then 250004 else (if v = nI 3 then 250005 else (if v = nI 4 then 250006 else (if v = nI 5 then 250007 else 250008))))) := sw_gen v 0 250008 5 [250002, 250003, 250004, 250005, 250006, 250007] (by decide) (by decide) (by decide)
theorem sw_260 {v : Int32} : sr_tsw 0 3 [260008, 260004, 260005, 260006, 260007] v = if v = nI 0 then 260004 else (if v = nI 1 then 260005 else (if v = nI 2 then 260006 else (if v = nI 3 then 260007 else 260008))) := sw_gen v 0 260008 3 [260004, 260005, 260006, 260007] (by decide) (by decide) (by decide)
theorem sw_296 {v : Int32} : sr_tsw 0 14 [296022, 296001, 296002, 296003, 296004, 296005, 296006, 296007, 296008, 296009, 296010, 296013, 296018, 296019, 296020, 296021] v = if v = nI 0 then 296001 else (if v = nI 1 then 296002 else (if v = nI 2 then 296003 else (if v = nI 3 then 296004 else (if v = nI 4 then 296005 else (if v = nI 5 then 296006 else (if v = nI 6 then 296007 else (if v = nI 7 then 296008 else (if v = nI 8 then 296009 else (if v = nI 9 then 296010 else (if v = nI 10 then 296013 else (if v = nI 11 then 296018 else (if v = nI 12 then 296019 else (if v = nI 13 then 296020 else (if v = nI 14 then 296021 else 296022)))))))))))))) := sw_gen v 0 296022 14 [296001, 296002, 296003, 296004, 296005, 296006, 296007, 296008, 296009, 296010, 296013, 296018, 296019, 296020, 296021] (by decide) (by decide) (by decide)
