theorem ck_59 (pc : Nat) (h : pc < 122) : pm_chk 59 pc cX6_fits (k_59 pc) = true := by
  by_cases h0 : pc < 60
  · have e := ck_59_0 (pc - 0) (by omega)
    rwa [show 0 + (pc - 0) = pc by omega] at e
  by_cases h1 : pc < 120
  · have e := ck_59_1 (pc - 60) (by omega)
    rwa [show 60 + (pc - 60) = pc by omega] at e
  have e := ck_59_2 (pc - 120) (by omega)
  rwa [show 120 + (pc - 120) = pc by omega] at e
set_option maxRecDepth 100000 in
set_option maxHeartbeats 4000000 in
theorem ck_60_0 : ∀ pc, pc < 60 → pm_chk 60 (0 + pc) cX6_mostSpecial (k_60 (0 + pc)) = true := by decide +kernel
set_option maxRecDepth 100000 in
set_option maxHeartbeats 4000000 in
theorem ck_60_1 : ∀ pc, pc < 4 → pm_chk 60 (60 + pc) cX6_mostSpecial (k_60 (60 + pc)) = true := by decide +kernel
theorem ck_60 (pc : Nat) (h : pc < 64) : pm_chk 60 pc cX6_mostSpecial (k_60 pc) = true := by
  by_cases h0 : pc < 60
  · have e := ck_60_0 (pc - 0) (by omega)
    rwa [show 0 + (pc - 0) = pc by omega] at e
  have e := ck_60_1 (pc - 60) (by omega)
  rwa [show 60 + (pc - 60) = pc by omega] at e
set_option maxRecDepth 100000 in
set_option maxHeartbeats 4000000 in
theorem ck_61 : ∀ pc, pc < 50 → pm_chk 61 pc cX6_isSpecial (k_61 pc) = true := by decide +kernel
set_option maxRecDepth 100000 in
set_option maxHeartbeats 4000000 in
theorem ck_62_0 : ∀ pc, pc < 60 → pm_chk 62 (0 + pc) cX6_isUnderAll (k_62 (0 + pc)) = true := by decide +kernel
set_option maxRecDepth 100000 in
set_option maxHeartbeats 4000000 in
theorem ck_62_1 : ∀ pc, pc < 20 → pm_chk 62 (60 + pc) cX6_isUnderAll (k_62 (60 + pc)) = true := by decide +kernel
theorem ck_62 (pc : Nat) (h : pc < 80) : pm_chk 62 pc cX6_isUnderAll (k_62 pc) = true := by
  by_cases h0 : pc < 60
  · have e := ck_62_0 (pc - 0) (by omega)
    rwa [show 0 + (pc - 0) = pc by omega] at e
  have e := ck_62_1 (pc - 60) (by omega)
  rwa [show 60 + (pc - 60) = pc by omega] at e
set_option maxRecDepth 100000 in
set_option maxHeartbeats 4000000 in
theorem ck_63 : ∀ pc, pc < 30 → pm_chk 63 pc cX7_init (k_63 pc) = true := by decide +kernel
set_option maxRecDepth 100000 in
set_option maxHeartbeats 4000000 in
theorem ck_64 : ∀ pc, pc < 5 → pm_chk 64 pc cX7_size (k_64 pc) = true := by decide +kernel
set_option maxRecDepth 100000 in
set_option maxHeartbeats 4000000 in
theorem ck_65 : ∀ pc, pc < 19 → pm_chk 65 pc cX7_isThing (k_65 pc) = true := by decide +kernel
set_option maxRecDepth 100000 in
set_option maxHeartbeats 4000000 in
theorem ck_66_0 : ∀ pc, pc < 60 → pm_chk 66 (0 + pc) cX7_add (k_66 (0 + pc)) = true := by decide +kernel
set_option maxRecDepth 100000 in
set_option maxHeartbeats 4000000 in
theorem ck_66_1 : ∀ pc, pc < 16 → pm_chk 66 (60 + pc) cX7_add (k_66 (60 + pc)) = true := by decide +kernel
theorem ck_66 (pc : Nat) (h : pc < 76) : pm_chk 66 pc cX7_add (k_66 pc) = true := by
  by_cases h0 : pc < 60
  · have e := ck_66_0 (pc - 0) (by omega)
    rwa [show 0 + (pc - 0) = pc by omega] at e
  have e := ck_66_1 (pc - 60) (by omega)
  rwa [show 60 + (pc - 60) = pc by omega] at e
set_option maxRecDepth 100000 in
set_option maxHeartbeats 4000000 in
theorem ck_67 : ∀ pc, pc < 19 → pm_chk 67 pc cX7_kindOf (k_67 pc) = true := by decide +kernel
set_option maxRecDepth 100000 in
set_option maxHeartbeats 4000000 in
theorem ck_68 : ∀ pc, pc < 19 → pm_chk 68 pc cX7_amountOf (k_68 pc) = true := by decide +kernel
