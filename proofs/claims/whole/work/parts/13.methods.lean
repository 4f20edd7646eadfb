/-! Every method, every block. -/
set_option maxRecDepth 20000 in
theorem sr_c11_0 : ∀ i, i < 20 → sr_c11 (0 + i) = true := by decide +kernel
set_option maxRecDepth 20000 in
theorem sr_c11_1 : ∀ i, i < 20 → sr_c11 (20 + i) = true := by decide +kernel
set_option maxRecDepth 20000 in
theorem sr_c11_2 : ∀ i, i < 20 → sr_c11 (40 + i) = true := by decide +kernel
set_option maxRecDepth 20000 in
theorem sr_c11_3 : ∀ i, i < 20 → sr_c11 (60 + i) = true := by decide +kernel
set_option maxRecDepth 20000 in
theorem sr_c11_4 : ∀ i, i < 20 → sr_c11 (80 + i) = true := by decide +kernel
set_option maxRecDepth 20000 in
theorem sr_c11_5 : ∀ i, i < 20 → sr_c11 (100 + i) = true := by decide +kernel
set_option maxRecDepth 20000 in
theorem sr_c11_6 : ∀ i, i < 20 → sr_c11 (120 + i) = true := by decide +kernel
set_option maxRecDepth 20000 in
theorem sr_c11_7 : ∀ i, i < 20 → sr_c11 (140 + i) = true := by decide +kernel
set_option maxRecDepth 20000 in
theorem sr_c11_8 : ∀ i, i < 20 → sr_c11 (160 + i) = true := by decide +kernel
set_option maxRecDepth 20000 in
theorem sr_c11_9 : ∀ i, i < 20 → sr_c11 (180 + i) = true := by decide +kernel
set_option maxRecDepth 20000 in
theorem sr_c11_10 : ∀ i, i < 20 → sr_c11 (200 + i) = true := by decide +kernel
set_option maxRecDepth 20000 in
theorem sr_c11_11 : ∀ i, i < 20 → sr_c11 (220 + i) = true := by decide +kernel
set_option maxRecDepth 20000 in
theorem sr_c11_12 : ∀ i, i < 20 → sr_c11 (240 + i) = true := by decide +kernel
set_option maxRecDepth 20000 in
theorem sr_c11_13 : ∀ i, i < 20 → sr_c11 (260 + i) = true := by decide +kernel
set_option maxRecDepth 20000 in
theorem sr_c11_14 : ∀ i, i < 18 → sr_c11 (280 + i) = true := by decide +kernel
