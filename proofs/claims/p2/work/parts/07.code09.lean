set_option maxRecDepth 100000 in
set_option maxHeartbeats 4000000 in
theorem ck_69 : ∀ pc, pc < 25 → pm_chk 69 pc cX7_placeOf (k_69 pc) = true := by decide +kernel
set_option maxRecDepth 100000 in
set_option maxHeartbeats 4000000 in
theorem ck_70 : ∀ pc, pc < 22 → pm_chk 70 pc cX7_setPlace (k_70 pc) = true := by decide +kernel
set_option maxRecDepth 100000 in
set_option maxHeartbeats 4000000 in
theorem ck_71 : ∀ pc, pc < 29 → pm_chk 71 pc cX7_isPlace (k_71 pc) = true := by decide +kernel
set_option maxRecDepth 100000 in
set_option maxHeartbeats 4000000 in
theorem ck_72 : ∀ pc, pc < 13 → pm_chk 72 pc cX7_keepFirst (k_72 pc) = true := by decide +kernel
set_option maxRecDepth 100000 in
set_option maxHeartbeats 4000000 in
theorem ck_73 : ∀ pc, pc < 13 → pm_chk 73 pc cX8_init (k_73 pc) = true := by decide +kernel
set_option maxRecDepth 100000 in
set_option maxHeartbeats 4000000 in
theorem ck_74 : ∀ pc, pc < 54 → pm_chk 74 pc cX8_add (k_74 pc) = true := by decide +kernel
set_option maxRecDepth 100000 in
set_option maxHeartbeats 4000000 in
theorem ck_75 : ∀ pc, pc < 32 → pm_chk 75 pc cX8_at (k_75 pc) = true := by decide +kernel
set_option maxRecDepth 100000 in
set_option maxHeartbeats 4000000 in
theorem ck_76 : ∀ pc, pc < 11 → pm_chk 76 pc cX8_forget (k_76 pc) = true := by decide +kernel
set_option maxRecDepth 100000 in
set_option maxHeartbeats 4000000 in
theorem ck_77_0 : ∀ pc, pc < 60 → pm_chk 77 (0 + pc) cX9_init (k_77 (0 + pc)) = true := by decide +kernel
set_option maxRecDepth 100000 in
set_option maxHeartbeats 4000000 in
theorem ck_77_1 : ∀ pc, pc < 60 → pm_chk 77 (60 + pc) cX9_init (k_77 (60 + pc)) = true := by decide +kernel
set_option maxRecDepth 100000 in
set_option maxHeartbeats 4000000 in
theorem ck_77_2 : ∀ pc, pc < 23 → pm_chk 77 (120 + pc) cX9_init (k_77 (120 + pc)) = true := by decide +kernel
theorem ck_77 (pc : Nat) (h : pc < 143) : pm_chk 77 pc cX9_init (k_77 pc) = true := by
  by_cases h0 : pc < 60
  · have e := ck_77_0 (pc - 0) (by omega)
    rwa [show 0 + (pc - 0) = pc by omega] at e
  by_cases h1 : pc < 120
  · have e := ck_77_1 (pc - 60) (by omega)
    rwa [show 60 + (pc - 60) = pc by omega] at e
  have e := ck_77_2 (pc - 120) (by omega)
  rwa [show 120 + (pc - 120) = pc by omega] at e
set_option maxRecDepth 100000 in
set_option maxHeartbeats 4000000 in
theorem ck_78 : ∀ pc, pc < 4 → pm_chk 78 pc cX9_bit (k_78 pc) = true := by decide +kernel
set_option maxRecDepth 100000 in
set_option maxHeartbeats 4000000 in
theorem ck_79 : ∀ pc, pc < 5 → pm_chk 79 pc cX9_size (k_79 pc) = true := by decide +kernel
set_option maxRecDepth 100000 in
set_option maxHeartbeats 4000000 in
theorem ck_80_0 : ∀ pc, pc < 60 → pm_chk 80 (0 + pc) cX9_add (k_80 (0 + pc)) = true := by decide +kernel
set_option maxRecDepth 100000 in
set_option maxHeartbeats 4000000 in
theorem ck_80_1 : ∀ pc, pc < 27 → pm_chk 80 (60 + pc) cX9_add (k_80 (60 + pc)) = true := by decide +kernel
