set_option maxRecDepth 100000 in
set_option maxHeartbeats 4000000 in
theorem ck_50 : ∀ pc, pc < 16 → pm_chk 50 pc cX4_isIn (k_50 pc) = true := by decide +kernel
set_option maxRecDepth 100000 in
set_option maxHeartbeats 4000000 in
theorem ck_51 : ∀ pc, pc < 20 → pm_chk 51 pc cX5_init (k_51 pc) = true := by decide +kernel
set_option maxRecDepth 100000 in
set_option maxHeartbeats 4000000 in
theorem ck_52 : ∀ pc, pc < 15 → pm_chk 52 pc cX6_init (k_52 pc) = true := by decide +kernel
set_option maxRecDepth 100000 in
set_option maxHeartbeats 4000000 in
theorem ck_53_0 : ∀ pc, pc < 60 → pm_chk 53 (0 + pc) cX6_run (k_53 (0 + pc)) = true := by decide +kernel
set_option maxRecDepth 100000 in
set_option maxHeartbeats 4000000 in
theorem ck_53_1 : ∀ pc, pc < 57 → pm_chk 53 (60 + pc) cX6_run (k_53 (60 + pc)) = true := by decide +kernel
theorem ck_53 (pc : Nat) (h : pc < 117) : pm_chk 53 pc cX6_run (k_53 pc) = true := by
  by_cases h0 : pc < 60
  · have e := ck_53_0 (pc - 0) (by omega)
    rwa [show 0 + (pc - 0) = pc by omega] at e
  have e := ck_53_1 (pc - 60) (by omega)
  rwa [show 60 + (pc - 60) = pc by omega] at e
set_option maxRecDepth 100000 in
set_option maxHeartbeats 4000000 in
theorem ck_54 : ∀ pc, pc < 32 → pm_chk 54 pc cX6_answer (k_54 pc) = true := by decide +kernel
set_option maxRecDepth 100000 in
set_option maxHeartbeats 4000000 in
theorem ck_55 : ∀ pc, pc < 12 → pm_chk 55 pc cX6_hasStatic (k_55 pc) = true := by decide +kernel
set_option maxRecDepth 100000 in
set_option maxHeartbeats 4000000 in
theorem ck_56 : ∀ pc, pc < 12 → pm_chk 56 pc cX6_hasOtherThanStatic (k_56 pc) = true := by decide +kernel
set_option maxRecDepth 100000 in
set_option maxHeartbeats 4000000 in
theorem ck_57 : ∀ pc, pc < 11 → pm_chk 57 pc cX6_argumentCount (k_57 pc) = true := by decide +kernel
set_option maxRecDepth 100000 in
set_option maxHeartbeats 4000000 in
theorem ck_58_0 : ∀ pc, pc < 60 → pm_chk 58 (0 + pc) cX6_gatherFit (k_58 (0 + pc)) = true := by decide +kernel
set_option maxRecDepth 100000 in
set_option maxHeartbeats 4000000 in
theorem ck_58_1 : ∀ pc, pc < 6 → pm_chk 58 (60 + pc) cX6_gatherFit (k_58 (60 + pc)) = true := by decide +kernel
theorem ck_58 (pc : Nat) (h : pc < 66) : pm_chk 58 pc cX6_gatherFit (k_58 pc) = true := by
  by_cases h0 : pc < 60
  · have e := ck_58_0 (pc - 0) (by omega)
    rwa [show 0 + (pc - 0) = pc by omega] at e
  have e := ck_58_1 (pc - 60) (by omega)
  rwa [show 60 + (pc - 60) = pc by omega] at e
set_option maxRecDepth 100000 in
set_option maxHeartbeats 4000000 in
theorem ck_59_0 : ∀ pc, pc < 60 → pm_chk 59 (0 + pc) cX6_fits (k_59 (0 + pc)) = true := by decide +kernel
set_option maxRecDepth 100000 in
set_option maxHeartbeats 4000000 in
theorem ck_59_1 : ∀ pc, pc < 60 → pm_chk 59 (60 + pc) cX6_fits (k_59 (60 + pc)) = true := by decide +kernel
set_option maxRecDepth 100000 in
set_option maxHeartbeats 4000000 in
theorem ck_59_2 : ∀ pc, pc < 2 → pm_chk 59 (120 + pc) cX6_fits (k_59 (120 + pc)) = true := by decide +kernel
