set_option maxRecDepth 100000 in
set_option maxHeartbeats 4000000 in
theorem ck_4_1 : ∀ pc, pc < 58 → pm_chk 4 (60 + pc) cX0_callMember (k_4 (60 + pc)) = true := by decide +kernel
theorem ck_4 (pc : Nat) (h : pc < 118) : pm_chk 4 pc cX0_callMember (k_4 pc) = true := by
  by_cases h0 : pc < 60
  · have e := ck_4_0 (pc - 0) (by omega)
    rwa [show 0 + (pc - 0) = pc by omega] at e
  have e := ck_4_1 (pc - 60) (by omega)
  rwa [show 60 + (pc - 60) = pc by omega] at e
set_option maxRecDepth 100000 in
set_option maxHeartbeats 4000000 in
theorem ck_5_0 : ∀ pc, pc < 60 → pm_chk 5 (0 + pc) cX0_memberTaken (k_5 (0 + pc)) = true := by decide +kernel
set_option maxRecDepth 100000 in
set_option maxHeartbeats 4000000 in
theorem ck_5_1 : ∀ pc, pc < 16 → pm_chk 5 (60 + pc) cX0_memberTaken (k_5 (60 + pc)) = true := by decide +kernel
theorem ck_5 (pc : Nat) (h : pc < 76) : pm_chk 5 pc cX0_memberTaken (k_5 pc) = true := by
  by_cases h0 : pc < 60
  · have e := ck_5_0 (pc - 0) (by omega)
    rwa [show 0 + (pc - 0) = pc by omega] at e
  have e := ck_5_1 (pc - 60) (by omega)
  rwa [show 60 + (pc - 60) = pc by omega] at e
set_option maxRecDepth 100000 in
set_option maxHeartbeats 4000000 in
theorem ck_6 : ∀ pc, pc < 59 → pm_chk 6 pc cX0_passAlone (k_6 pc) = true := by decide +kernel
set_option maxRecDepth 100000 in
set_option maxHeartbeats 4000000 in
theorem ck_7_0 : ∀ pc, pc < 60 → pm_chk 7 (0 + pc) cX0_passRow (k_7 (0 + pc)) = true := by decide +kernel
set_option maxRecDepth 100000 in
set_option maxHeartbeats 4000000 in
theorem ck_7_1 : ∀ pc, pc < 21 → pm_chk 7 (60 + pc) cX0_passRow (k_7 (60 + pc)) = true := by decide +kernel
theorem ck_7 (pc : Nat) (h : pc < 81) : pm_chk 7 pc cX0_passRow (k_7 pc) = true := by
  by_cases h0 : pc < 60
  · have e := ck_7_0 (pc - 0) (by omega)
    rwa [show 0 + (pc - 0) = pc by omega] at e
  have e := ck_7_1 (pc - 60) (by omega)
  rwa [show 60 + (pc - 60) = pc by omega] at e
set_option maxRecDepth 100000 in
set_option maxHeartbeats 4000000 in
theorem ck_8_0 : ∀ pc, pc < 60 → pm_chk 8 (0 + pc) cX0_giveResult (k_8 (0 + pc)) = true := by decide +kernel
set_option maxRecDepth 100000 in
set_option maxHeartbeats 4000000 in
theorem ck_8_1 : ∀ pc, pc < 24 → pm_chk 8 (60 + pc) cX0_giveResult (k_8 (60 + pc)) = true := by decide +kernel
theorem ck_8 (pc : Nat) (h : pc < 84) : pm_chk 8 pc cX0_giveResult (k_8 pc) = true := by
  by_cases h0 : pc < 60
  · have e := ck_8_0 (pc - 0) (by omega)
    rwa [show 0 + (pc - 0) = pc by omega] at e
  have e := ck_8_1 (pc - 60) (by omega)
  rwa [show 60 + (pc - 60) = pc by omega] at e
set_option maxRecDepth 100000 in
set_option maxHeartbeats 4000000 in
theorem ck_9_0 : ∀ pc, pc < 60 → pm_chk 9 (0 + pc) cX0_sumOfGot (k_9 (0 + pc)) = true := by decide +kernel
set_option maxRecDepth 100000 in
set_option maxHeartbeats 4000000 in
theorem ck_9_1 : ∀ pc, pc < 60 → pm_chk 9 (60 + pc) cX0_sumOfGot (k_9 (60 + pc)) = true := by decide +kernel
set_option maxRecDepth 100000 in
set_option maxHeartbeats 4000000 in
theorem ck_9_2 : ∀ pc, pc < 3 → pm_chk 9 (120 + pc) cX0_sumOfGot (k_9 (120 + pc)) = true := by decide +kernel
theorem ck_9 (pc : Nat) (h : pc < 123) : pm_chk 9 pc cX0_sumOfGot (k_9 pc) = true := by
  by_cases h0 : pc < 60
  · have e := ck_9_0 (pc - 0) (by omega)
    rwa [show 0 + (pc - 0) = pc by omega] at e
  by_cases h1 : pc < 120
  · have e := ck_9_1 (pc - 60) (by omega)
    rwa [show 60 + (pc - 60) = pc by omega] at e
  have e := ck_9_2 (pc - 120) (by omega)
  rwa [show 120 + (pc - 120) = pc by omega] at e
