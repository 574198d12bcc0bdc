set_option maxRecDepth 100000 in
set_option maxHeartbeats 4000000 in
theorem ck_0_0 : ∀ pc, pc < 40 → pm_chk 0 (0 + pc) code (k_0 (0 + pc)) = true := by decide +kernel
set_option maxRecDepth 100000 in
set_option maxHeartbeats 4000000 in
theorem ck_0_1 : ∀ pc, pc < 40 → pm_chk 0 (40 + pc) code (k_0 (40 + pc)) = true := by decide +kernel
set_option maxRecDepth 100000 in
set_option maxHeartbeats 4000000 in
theorem ck_0_2 : ∀ pc, pc < 40 → pm_chk 0 (80 + pc) code (k_0 (80 + pc)) = true := by decide +kernel
set_option maxRecDepth 100000 in
set_option maxHeartbeats 4000000 in
theorem ck_0_3 : ∀ pc, pc < 40 → pm_chk 0 (120 + pc) code (k_0 (120 + pc)) = true := by decide +kernel
set_option maxRecDepth 100000 in
set_option maxHeartbeats 4000000 in
theorem ck_0_4 : ∀ pc, pc < 40 → pm_chk 0 (160 + pc) code (k_0 (160 + pc)) = true := by decide +kernel
set_option maxRecDepth 100000 in
set_option maxHeartbeats 4000000 in
theorem ck_0_5 : ∀ pc, pc < 40 → pm_chk 0 (200 + pc) code (k_0 (200 + pc)) = true := by decide +kernel
set_option maxRecDepth 100000 in
set_option maxHeartbeats 4000000 in
theorem ck_0_6 : ∀ pc, pc < 40 → pm_chk 0 (240 + pc) code (k_0 (240 + pc)) = true := by decide +kernel
set_option maxRecDepth 100000 in
set_option maxHeartbeats 4000000 in
theorem ck_0_7 : ∀ pc, pc < 40 → pm_chk 0 (280 + pc) code (k_0 (280 + pc)) = true := by decide +kernel
set_option maxRecDepth 100000 in
set_option maxHeartbeats 4000000 in
theorem ck_0_8 : ∀ pc, pc < 40 → pm_chk 0 (320 + pc) code (k_0 (320 + pc)) = true := by decide +kernel
set_option maxRecDepth 100000 in
set_option maxHeartbeats 4000000 in
theorem ck_0_9 : ∀ pc, pc < 40 → pm_chk 0 (360 + pc) code (k_0 (360 + pc)) = true := by decide +kernel
set_option maxRecDepth 100000 in
set_option maxHeartbeats 4000000 in
theorem ck_0_10 : ∀ pc, pc < 40 → pm_chk 0 (400 + pc) code (k_0 (400 + pc)) = true := by decide +kernel
set_option maxRecDepth 100000 in
set_option maxHeartbeats 4000000 in
theorem ck_0_11 : ∀ pc, pc < 40 → pm_chk 0 (440 + pc) code (k_0 (440 + pc)) = true := by decide +kernel
set_option maxRecDepth 100000 in
set_option maxHeartbeats 4000000 in
theorem ck_0_12 : ∀ pc, pc < 40 → pm_chk 0 (480 + pc) code (k_0 (480 + pc)) = true := by decide +kernel
set_option maxRecDepth 100000 in
set_option maxHeartbeats 4000000 in
theorem ck_0_13 : ∀ pc, pc < 40 → pm_chk 0 (520 + pc) code (k_0 (520 + pc)) = true := by decide +kernel
set_option maxRecDepth 100000 in
set_option maxHeartbeats 4000000 in
theorem ck_0_14 : ∀ pc, pc < 40 → pm_chk 0 (560 + pc) code (k_0 (560 + pc)) = true := by decide +kernel
set_option maxRecDepth 100000 in
set_option maxHeartbeats 4000000 in
theorem ck_0_15 : ∀ pc, pc < 40 → pm_chk 0 (600 + pc) code (k_0 (600 + pc)) = true := by decide +kernel
