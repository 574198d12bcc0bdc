set_option maxRecDepth 100000 in
set_option maxHeartbeats 4000000 in
theorem ck_20_1 : ∀ pc, pc < 21 → pm_chk 20 (60 + pc) cX2_namesOneAlone (k_20 (60 + pc)) = true := by decide +kernel
theorem ck_20 (pc : Nat) (h : pc < 81) : pm_chk 20 pc cX2_namesOneAlone (k_20 pc) = true := by
  by_cases h0 : pc < 60
  · have e := ck_20_0 (pc - 0) (by omega)
    rwa [show 0 + (pc - 0) = pc by omega] at e
  have e := ck_20_1 (pc - 60) (by omega)
  rwa [show 60 + (pc - 60) = pc by omega] at e
set_option maxRecDepth 100000 in
set_option maxHeartbeats 4000000 in
theorem ck_21 : ∀ pc, pc < 27 → pm_chk 21 pc cX2_typeSearched (k_21 pc) = true := by decide +kernel
set_option maxRecDepth 100000 in
set_option maxHeartbeats 4000000 in
theorem ck_22_0 : ∀ pc, pc < 60 → pm_chk 22 (0 + pc) cX2_faultOf (k_22 (0 + pc)) = true := by decide +kernel
set_option maxRecDepth 100000 in
set_option maxHeartbeats 4000000 in
theorem ck_22_1 : ∀ pc, pc < 60 → pm_chk 22 (60 + pc) cX2_faultOf (k_22 (60 + pc)) = true := by decide +kernel
set_option maxRecDepth 100000 in
set_option maxHeartbeats 4000000 in
theorem ck_22_2 : ∀ pc, pc < 1 → pm_chk 22 (120 + pc) cX2_faultOf (k_22 (120 + pc)) = true := by decide +kernel
theorem ck_22 (pc : Nat) (h : pc < 121) : pm_chk 22 pc cX2_faultOf (k_22 pc) = true := by
  by_cases h0 : pc < 60
  · have e := ck_22_0 (pc - 0) (by omega)
    rwa [show 0 + (pc - 0) = pc by omega] at e
  by_cases h1 : pc < 120
  · have e := ck_22_1 (pc - 60) (by omega)
    rwa [show 60 + (pc - 60) = pc by omega] at e
  have e := ck_22_2 (pc - 120) (by omega)
  rwa [show 120 + (pc - 120) = pc by omega] at e
set_option maxRecDepth 100000 in
set_option maxHeartbeats 4000000 in
theorem ck_23_0 : ∀ pc, pc < 60 → pm_chk 23 (0 + pc) cX2_faultOfFirst (k_23 (0 + pc)) = true := by decide +kernel
set_option maxRecDepth 100000 in
set_option maxHeartbeats 4000000 in
theorem ck_23_1 : ∀ pc, pc < 8 → pm_chk 23 (60 + pc) cX2_faultOfFirst (k_23 (60 + pc)) = true := by decide +kernel
theorem ck_23 (pc : Nat) (h : pc < 68) : pm_chk 23 pc cX2_faultOfFirst (k_23 pc) = true := by
  by_cases h0 : pc < 60
  · have e := ck_23_0 (pc - 0) (by omega)
    rwa [show 0 + (pc - 0) = pc by omega] at e
  have e := ck_23_1 (pc - 60) (by omega)
  rwa [show 60 + (pc - 60) = pc by omega] at e
set_option maxRecDepth 100000 in
set_option maxHeartbeats 4000000 in
theorem ck_24_0 : ∀ pc, pc < 60 → pm_chk 24 (0 + pc) cX2_faultOfBoth (k_24 (0 + pc)) = true := by decide +kernel
set_option maxRecDepth 100000 in
set_option maxHeartbeats 4000000 in
theorem ck_24_1 : ∀ pc, pc < 60 → pm_chk 24 (60 + pc) cX2_faultOfBoth (k_24 (60 + pc)) = true := by decide +kernel
set_option maxRecDepth 100000 in
set_option maxHeartbeats 4000000 in
theorem ck_24_2 : ∀ pc, pc < 23 → pm_chk 24 (120 + pc) cX2_faultOfBoth (k_24 (120 + pc)) = true := by decide +kernel
theorem ck_24 (pc : Nat) (h : pc < 143) : pm_chk 24 pc cX2_faultOfBoth (k_24 pc) = true := by
  by_cases h0 : pc < 60
  · have e := ck_24_0 (pc - 0) (by omega)
    rwa [show 0 + (pc - 0) = pc by omega] at e
  by_cases h1 : pc < 120
  · have e := ck_24_1 (pc - 60) (by omega)
    rwa [show 60 + (pc - 60) = pc by omega] at e
  have e := ck_24_2 (pc - 120) (by omega)
  rwa [show 120 + (pc - 120) = pc by omega] at e
set_option maxRecDepth 100000 in
set_option maxHeartbeats 4000000 in
theorem ck_25 : ∀ pc, pc < 48 → pm_chk 25 pc cX3_init (k_25 pc) = true := by decide +kernel
set_option maxRecDepth 100000 in
set_option maxHeartbeats 4000000 in
theorem ck_26 : ∀ pc, pc < 42 → pm_chk 26 pc cX3_signatureOf (k_26 pc) = true := by decide +kernel
