set_option maxRecDepth 20000 in
theorem sr_c12_15 : ∀ i, i < 10 → sr_c12 (150 + i) = true := by decide +kernel
set_option maxRecDepth 20000 in
theorem sr_c12_16 : ∀ i, i < 10 → sr_c12 (160 + i) = true := by decide +kernel
set_option maxRecDepth 20000 in
theorem sr_c12_17 : ∀ i, i < 10 → sr_c12 (170 + i) = true := by decide +kernel
set_option maxRecDepth 20000 in
theorem sr_c12_18 : ∀ i, i < 10 → sr_c12 (180 + i) = true := by decide +kernel
set_option maxRecDepth 20000 in
theorem sr_c12_19 : ∀ i, i < 10 → sr_c12 (190 + i) = true := by decide +kernel
set_option maxRecDepth 20000 in
theorem sr_c12_20 : ∀ i, i < 10 → sr_c12 (200 + i) = true := by decide +kernel
set_option maxRecDepth 20000 in
theorem sr_c12_21 : ∀ i, i < 10 → sr_c12 (210 + i) = true := by decide +kernel
set_option maxRecDepth 20000 in
theorem sr_c12_22 : ∀ i, i < 10 → sr_c12 (220 + i) = true := by decide +kernel
set_option maxRecDepth 20000 in
theorem sr_c12_23 : ∀ i, i < 10 → sr_c12 (230 + i) = true := by decide +kernel
set_option maxRecDepth 20000 in
theorem sr_c12_24 : ∀ i, i < 10 → sr_c12 (240 + i) = true := by decide +kernel
set_option maxRecDepth 20000 in
theorem sr_c12_25 : ∀ i, i < 10 → sr_c12 (250 + i) = true := by decide +kernel
set_option maxRecDepth 20000 in
theorem sr_c12_26 : ∀ i, i < 10 → sr_c12 (260 + i) = true := by decide +kernel
set_option maxRecDepth 20000 in
theorem sr_c12_27 : ∀ i, i < 10 → sr_c12 (270 + i) = true := by decide +kernel
set_option maxRecDepth 20000 in
theorem sr_c12_28 : ∀ i, i < 10 → sr_c12 (280 + i) = true := by decide +kernel
set_option maxRecDepth 20000 in
theorem sr_c12_29 : ∀ i, i < 8 → sr_c12 (290 + i) = true := by decide +kernel
