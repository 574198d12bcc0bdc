set_option maxRecDepth 100000 in
set_option maxHeartbeats 4000000 in
theorem ck_27 : ∀ pc, pc < 15 → pm_chk 27 pc cX3_isStatic (k_27 pc) = true := by decide +kernel
set_option maxRecDepth 100000 in
set_option maxHeartbeats 4000000 in
theorem ck_28 : ∀ pc, pc < 15 → pm_chk 28 pc cX3_isAbstract (k_28 pc) = true := by decide +kernel
set_option maxRecDepth 100000 in
set_option maxHeartbeats 4000000 in
theorem ck_29 : ∀ pc, pc < 15 → pm_chk 29 pc cX3_isVaried (k_29 pc) = true := by decide +kernel
set_option maxRecDepth 100000 in
set_option maxHeartbeats 4000000 in
theorem ck_30_0 : ∀ pc, pc < 60 → pm_chk 30 (0 + pc) cX3_typeAt (k_30 (0 + pc)) = true := by decide +kernel
set_option maxRecDepth 100000 in
set_option maxHeartbeats 4000000 in
theorem ck_30_1 : ∀ pc, pc < 10 → pm_chk 30 (60 + pc) cX3_typeAt (k_30 (60 + pc)) = true := by decide +kernel
theorem ck_30 (pc : Nat) (h : pc < 70) : pm_chk 30 pc cX3_typeAt (k_30 pc) = true := by
  by_cases h0 : pc < 60
  · have e := ck_30_0 (pc - 0) (by omega)
    rwa [show 0 + (pc - 0) = pc by omega] at e
  have e := ck_30_1 (pc - 60) (by omega)
  rwa [show 60 + (pc - 60) = pc by omega] at e
set_option maxRecDepth 100000 in
set_option maxHeartbeats 4000000 in
theorem ck_31 : ∀ pc, pc < 42 → pm_chk 31 pc cX3_agreesWith (k_31 pc) = true := by decide +kernel
set_option maxRecDepth 100000 in
set_option maxHeartbeats 4000000 in
theorem ck_32 : ∀ pc, pc < 35 → pm_chk 32 pc cX4_init (k_32 pc) = true := by decide +kernel
set_option maxRecDepth 100000 in
set_option maxHeartbeats 4000000 in
theorem ck_33 : ∀ pc, pc < 5 → pm_chk 33 pc cX4_size (k_33 pc) = true := by decide +kernel
set_option maxRecDepth 100000 in
set_option maxHeartbeats 4000000 in
theorem ck_34 : ∀ pc, pc < 15 → pm_chk 34 pc cX4_isFull (k_34 pc) = true := by decide +kernel
set_option maxRecDepth 100000 in
set_option maxHeartbeats 4000000 in
theorem ck_35 : ∀ pc, pc < 47 → pm_chk 35 pc cX4_inherit (k_35 pc) = true := by decide +kernel
set_option maxRecDepth 100000 in
set_option maxHeartbeats 4000000 in
theorem ck_36_0 : ∀ pc, pc < 60 → pm_chk 36 (0 + pc) cX4_add (k_36 (0 + pc)) = true := by decide +kernel
set_option maxRecDepth 100000 in
set_option maxHeartbeats 4000000 in
theorem ck_36_1 : ∀ pc, pc < 60 → pm_chk 36 (60 + pc) cX4_add (k_36 (60 + pc)) = true := by decide +kernel
set_option maxRecDepth 100000 in
set_option maxHeartbeats 4000000 in
theorem ck_36_2 : ∀ pc, pc < 60 → pm_chk 36 (120 + pc) cX4_add (k_36 (120 + pc)) = true := by decide +kernel
theorem ck_36 (pc : Nat) (h : pc < 180) : pm_chk 36 pc cX4_add (k_36 pc) = true := by
  by_cases h0 : pc < 60
  · have e := ck_36_0 (pc - 0) (by omega)
    rwa [show 0 + (pc - 0) = pc by omega] at e
  by_cases h1 : pc < 120
  · have e := ck_36_1 (pc - 60) (by omega)
    rwa [show 60 + (pc - 60) = pc by omega] at e
  have e := ck_36_2 (pc - 120) (by omega)
  rwa [show 120 + (pc - 120) = pc by omega] at e
set_option maxRecDepth 100000 in
set_option maxHeartbeats 4000000 in
theorem ck_37_0 : ∀ pc, pc < 60 → pm_chk 37 (0 + pc) cX4_putInto (k_37 (0 + pc)) = true := by decide +kernel
