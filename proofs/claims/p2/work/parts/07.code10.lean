theorem ck_80 (pc : Nat) (h : pc < 87) : pm_chk 80 pc cX9_add (k_80 pc) = true := by
  by_cases h0 : pc < 60
  · have e := ck_80_0 (pc - 0) (by omega)
    rwa [show 0 + (pc - 0) = pc by omega] at e
  have e := ck_80_1 (pc - 60) (by omega)
  rwa [show 60 + (pc - 60) = pc by omega] at e
set_option maxRecDepth 100000 in
set_option maxHeartbeats 4000000 in
theorem ck_81 : ∀ pc, pc < 18 → pm_chk 81 pc cX9_isClass (k_81 pc) = true := by decide +kernel
set_option maxRecDepth 100000 in
set_option maxHeartbeats 4000000 in
theorem ck_82 : ∀ pc, pc < 19 → pm_chk 82 pc cX9_isOwner (k_82 pc) = true := by decide +kernel
set_option maxRecDepth 100000 in
set_option maxHeartbeats 4000000 in
theorem ck_83 : ∀ pc, pc < 25 → pm_chk 83 pc cX9_isAnyType (k_83 pc) = true := by decide +kernel
set_option maxRecDepth 100000 in
set_option maxHeartbeats 4000000 in
theorem ck_84 : ∀ pc, pc < 20 → pm_chk 84 pc cX9_isParameter (k_84 pc) = true := by decide +kernel
set_option maxRecDepth 100000 in
set_option maxHeartbeats 4000000 in
theorem ck_85 : ∀ pc, pc < 20 → pm_chk 85 pc cX9_isRow (k_85 pc) = true := by decide +kernel
set_option maxRecDepth 100000 in
set_option maxHeartbeats 4000000 in
theorem ck_86 : ∀ pc, pc < 19 → pm_chk 86 pc cX9_parentOf (k_86 pc) = true := by decide +kernel
set_option maxRecDepth 100000 in
set_option maxHeartbeats 4000000 in
theorem ck_87 : ∀ pc, pc < 39 → pm_chk 87 pc cX9_isUnder (k_87 pc) = true := by decide +kernel
set_option maxRecDepth 100000 in
set_option maxHeartbeats 4000000 in
theorem ck_88 : ∀ pc, pc < 41 → pm_chk 88 pc cX9_isLoose (k_88 pc) = true := by decide +kernel
set_option maxRecDepth 100000 in
set_option maxHeartbeats 4000000 in
theorem ck_89 : ∀ pc, pc < 57 → pm_chk 89 pc cX10_init (k_89 pc) = true := by decide +kernel
set_option maxRecDepth 100000 in
set_option maxHeartbeats 4000000 in
theorem ck_90_0 : ∀ pc, pc < 60 → pm_chk 90 (0 + pc) cX11_init (k_90 (0 + pc)) = true := by decide +kernel
set_option maxRecDepth 100000 in
set_option maxHeartbeats 4000000 in
theorem ck_90_1 : ∀ pc, pc < 60 → pm_chk 90 (60 + pc) cX11_init (k_90 (60 + pc)) = true := by decide +kernel
set_option maxRecDepth 100000 in
set_option maxHeartbeats 4000000 in
theorem ck_90_2 : ∀ pc, pc < 12 → pm_chk 90 (120 + pc) cX11_init (k_90 (120 + pc)) = true := by decide +kernel
theorem ck_90 (pc : Nat) (h : pc < 132) : pm_chk 90 pc cX11_init (k_90 pc) = true := by
  by_cases h0 : pc < 60
  · have e := ck_90_0 (pc - 0) (by omega)
    rwa [show 0 + (pc - 0) = pc by omega] at e
  by_cases h1 : pc < 120
  · have e := ck_90_1 (pc - 60) (by omega)
    rwa [show 60 + (pc - 60) = pc by omega] at e
  have e := ck_90_2 (pc - 120) (by omega)
  rwa [show 120 + (pc - 120) = pc by omega] at e
set_option maxRecDepth 100000 in
set_option maxHeartbeats 4000000 in
theorem ck_91 : ∀ pc, pc < 33 → pm_chk 91 pc cX11_type (k_91 pc) = true := by decide +kernel
set_option maxRecDepth 100000 in
set_option maxHeartbeats 4000000 in
theorem ck_92 : ∀ pc, pc < 42 → pm_chk 92 pc cX11_under (k_92 pc) = true := by decide +kernel
