set_option maxRecDepth 100000 in
set_option maxHeartbeats 4000000 in
theorem ck_37_1 : ∀ pc, pc < 41 → pm_chk 37 (60 + pc) cX4_putInto (k_37 (60 + pc)) = true := by decide +kernel
theorem ck_37 (pc : Nat) (h : pc < 101) : pm_chk 37 pc cX4_putInto (k_37 pc) = true := by
  by_cases h0 : pc < 60
  · have e := ck_37_0 (pc - 0) (by omega)
    rwa [show 0 + (pc - 0) = pc by omega] at e
  have e := ck_37_1 (pc - 60) (by omega)
  rwa [show 60 + (pc - 60) = pc by omega] at e
set_option maxRecDepth 100000 in
set_option maxHeartbeats 4000000 in
theorem ck_38 : ∀ pc, pc < 50 → pm_chk 38 pc cX4_clashes (k_38 pc) = true := by decide +kernel
set_option maxRecDepth 100000 in
set_option maxHeartbeats 4000000 in
theorem ck_39_0 : ∀ pc, pc < 60 → pm_chk 39 (0 + pc) cX4_clashesWith (k_39 (0 + pc)) = true := by decide +kernel
set_option maxRecDepth 100000 in
set_option maxHeartbeats 4000000 in
theorem ck_39_1 : ∀ pc, pc < 22 → pm_chk 39 (60 + pc) cX4_clashesWith (k_39 (60 + pc)) = true := by decide +kernel
theorem ck_39 (pc : Nat) (h : pc < 82) : pm_chk 39 pc cX4_clashesWith (k_39 pc) = true := by
  by_cases h0 : pc < 60
  · have e := ck_39_0 (pc - 0) (by omega)
    rwa [show 0 + (pc - 0) = pc by omega] at e
  have e := ck_39_1 (pc - 60) (by omega)
  rwa [show 60 + (pc - 60) = pc by omega] at e
set_option maxRecDepth 100000 in
set_option maxHeartbeats 4000000 in
theorem ck_40 : ∀ pc, pc < 47 → pm_chk 40 pc cX4_numberOfHad (k_40 pc) = true := by decide +kernel
set_option maxRecDepth 100000 in
set_option maxHeartbeats 4000000 in
theorem ck_41 : ∀ pc, pc < 21 → pm_chk 41 pc cX4_isOpen (k_41 pc) = true := by decide +kernel
set_option maxRecDepth 100000 in
set_option maxHeartbeats 4000000 in
theorem ck_42 : ∀ pc, pc < 27 → pm_chk 42 pc cX4_namedIn (k_42 pc) = true := by decide +kernel
set_option maxRecDepth 100000 in
set_option maxHeartbeats 4000000 in
theorem ck_43 : ∀ pc, pc < 18 → pm_chk 43 pc cX4_hasMaker (k_43 pc) = true := by decide +kernel
set_option maxRecDepth 100000 in
set_option maxHeartbeats 4000000 in
theorem ck_44 : ∀ pc, pc < 53 → pm_chk 44 pc cX4_takenFor (k_44 pc) = true := by decide +kernel
set_option maxRecDepth 100000 in
set_option maxHeartbeats 4000000 in
theorem ck_45 : ∀ pc, pc < 23 → pm_chk 45 pc cX4_at (k_45 pc) = true := by decide +kernel
set_option maxRecDepth 100000 in
set_option maxHeartbeats 4000000 in
theorem ck_46 : ∀ pc, pc < 17 → pm_chk 46 pc cX4_isAnyStatic (k_46 pc) = true := by decide +kernel
set_option maxRecDepth 100000 in
set_option maxHeartbeats 4000000 in
theorem ck_47 : ∀ pc, pc < 21 → pm_chk 47 pc cX4_isAnyOtherThanStatic (k_47 pc) = true := by decide +kernel
set_option maxRecDepth 100000 in
set_option maxHeartbeats 4000000 in
theorem ck_48 : ∀ pc, pc < 17 → pm_chk 48 pc cX4_isAnyVaried (k_48 pc) = true := by decide +kernel
set_option maxRecDepth 100000 in
set_option maxHeartbeats 4000000 in
theorem ck_49 : ∀ pc, pc < 38 → pm_chk 49 pc cX4_hadBy (k_49 pc) = true := by decide +kernel
