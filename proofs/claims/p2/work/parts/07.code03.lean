set_option maxRecDepth 100000 in
set_option maxHeartbeats 4000000 in
theorem ck_10 : ∀ pc, pc < 36 → pm_chk 10 pc cX0_sumOfPlaces (k_10 pc) = true := by decide +kernel
set_option maxRecDepth 100000 in
set_option maxHeartbeats 4000000 in
theorem ck_11_0 : ∀ pc, pc < 60 → pm_chk 11 (0 + pc) cX0_convert (k_11 (0 + pc)) = true := by decide +kernel
set_option maxRecDepth 100000 in
set_option maxHeartbeats 4000000 in
theorem ck_11_1 : ∀ pc, pc < 6 → pm_chk 11 (60 + pc) cX0_convert (k_11 (60 + pc)) = true := by decide +kernel
theorem ck_11 (pc : Nat) (h : pc < 66) : pm_chk 11 pc cX0_convert (k_11 pc) = true := by
  by_cases h0 : pc < 60
  · have e := ck_11_0 (pc - 0) (by omega)
    rwa [show 0 + (pc - 0) = pc by omega] at e
  have e := ck_11_1 (pc - 60) (by omega)
  rwa [show 60 + (pc - 60) = pc by omega] at e
set_option maxRecDepth 100000 in
set_option maxHeartbeats 4000000 in
theorem ck_12 : ∀ pc, pc < 35 → pm_chk 12 pc cX0_newThing (k_12 pc) = true := by decide +kernel
set_option maxRecDepth 100000 in
set_option maxHeartbeats 4000000 in
theorem ck_13 : ∀ pc, pc < 15 → pm_chk 13 pc cX1_init (k_13 pc) = true := by decide +kernel
set_option maxRecDepth 100000 in
set_option maxHeartbeats 4000000 in
theorem ck_14 : ∀ pc, pc < 41 → pm_chk 14 pc cX2_init (k_14 pc) = true := by decide +kernel
set_option maxRecDepth 100000 in
set_option maxHeartbeats 4000000 in
theorem ck_15_0 : ∀ pc, pc < 60 → pm_chk 15 (0 + pc) cX2_find (k_15 (0 + pc)) = true := by decide +kernel
set_option maxRecDepth 100000 in
set_option maxHeartbeats 4000000 in
theorem ck_15_1 : ∀ pc, pc < 60 → pm_chk 15 (60 + pc) cX2_find (k_15 (60 + pc)) = true := by decide +kernel
set_option maxRecDepth 100000 in
set_option maxHeartbeats 4000000 in
theorem ck_15_2 : ∀ pc, pc < 16 → pm_chk 15 (120 + pc) cX2_find (k_15 (120 + pc)) = true := by decide +kernel
theorem ck_15 (pc : Nat) (h : pc < 136) : pm_chk 15 pc cX2_find (k_15 pc) = true := by
  by_cases h0 : pc < 60
  · have e := ck_15_0 (pc - 0) (by omega)
    rwa [show 0 + (pc - 0) = pc by omega] at e
  by_cases h1 : pc < 120
  · have e := ck_15_1 (pc - 60) (by omega)
    rwa [show 60 + (pc - 60) = pc by omega] at e
  have e := ck_15_2 (pc - 120) (by omega)
  rwa [show 120 + (pc - 120) = pc by omega] at e
set_option maxRecDepth 100000 in
set_option maxHeartbeats 4000000 in
theorem ck_16 : ∀ pc, pc < 19 → pm_chk 16 pc cX2_memberMeant (k_16 pc) = true := by decide +kernel
set_option maxRecDepth 100000 in
set_option maxHeartbeats 4000000 in
theorem ck_17 : ∀ pc, pc < 24 → pm_chk 17 pc cX2_isInPhase3 (k_17 pc) = true := by decide +kernel
set_option maxRecDepth 100000 in
set_option maxHeartbeats 4000000 in
theorem ck_18 : ∀ pc, pc < 51 → pm_chk 18 pc cX2_whatComes (k_18 pc) = true := by decide +kernel
set_option maxRecDepth 100000 in
set_option maxHeartbeats 4000000 in
theorem ck_19 : ∀ pc, pc < 56 → pm_chk 19 pc cX2_runSearch (k_19 pc) = true := by decide +kernel
set_option maxRecDepth 100000 in
set_option maxHeartbeats 4000000 in
theorem ck_20_0 : ∀ pc, pc < 60 → pm_chk 20 (0 + pc) cX2_namesOneAlone (k_20 (0 + pc)) = true := by decide +kernel
