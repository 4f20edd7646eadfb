set_option maxRecDepth 20000 in
theorem sr_c12_0 : ∀ i, i < 10 → sr_c12 (0 + i) = true := by decide +kernel
set_option maxRecDepth 20000 in
theorem sr_c12_1 : ∀ i, i < 10 → sr_c12 (10 + i) = true := by decide +kernel
set_option maxRecDepth 20000 in
theorem sr_c12_2 : ∀ i, i < 10 → sr_c12 (20 + i) = true := by decide +kernel
set_option maxRecDepth 20000 in
theorem sr_c12_3 : ∀ i, i < 10 → sr_c12 (30 + i) = true := by decide +kernel
set_option maxRecDepth 20000 in
theorem sr_c12_4 : ∀ i, i < 10 → sr_c12 (40 + i) = true := by decide +kernel
set_option maxRecDepth 20000 in
theorem sr_c12_5 : ∀ i, i < 10 → sr_c12 (50 + i) = true := by decide +kernel
set_option maxRecDepth 20000 in
theorem sr_c12_6 : ∀ i, i < 10 → sr_c12 (60 + i) = true := by decide +kernel
set_option maxRecDepth 20000 in
theorem sr_c12_7 : ∀ i, i < 10 → sr_c12 (70 + i) = true := by decide +kernel
set_option maxRecDepth 20000 in
theorem sr_c12_8 : ∀ i, i < 10 → sr_c12 (80 + i) = true := by decide +kernel
set_option maxRecDepth 20000 in
theorem sr_c12_9 : ∀ i, i < 10 → sr_c12 (90 + i) = true := by decide +kernel
set_option maxRecDepth 20000 in
theorem sr_c12_10 : ∀ i, i < 10 → sr_c12 (100 + i) = true := by decide +kernel
set_option maxRecDepth 20000 in
theorem sr_c12_11 : ∀ i, i < 10 → sr_c12 (110 + i) = true := by decide +kernel
set_option maxRecDepth 20000 in
theorem sr_c12_12 : ∀ i, i < 10 → sr_c12 (120 + i) = true := by decide +kernel
set_option maxRecDepth 20000 in
theorem sr_c12_13 : ∀ i, i < 10 → sr_c12 (130 + i) = true := by decide +kernel
set_option maxRecDepth 20000 in
theorem sr_c12_14 : ∀ i, i < 10 → sr_c12 (140 + i) = true := by decide +kernel
