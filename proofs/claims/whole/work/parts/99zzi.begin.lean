/-! The beginning: what the constructors make. -/
def sr_h0 : sr_H := ((1, 10), fun a => if a = 0 then .inr (.inr (10, sr_df 10)) else .inl (0, 0, fun _ => 0))
def sr_r0 : Option sr_R := sr_cf 3000 60 126 [.ref 0] sr_h0
theorem begin_0 : (match sr_r0 with | some (none, h) => h.1.1 == 141 | _ => false) = true := by decide +kernel
