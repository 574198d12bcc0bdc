set_option maxRecDepth 100000 in
set_option maxHeartbeats 4000000 in
theorem ck_93 : ∀ pc, pc < 42 → pm_chk 93 pc cX11_loose (k_93 pc) = true := by decide +kernel
set_option maxRecDepth 100000 in
set_option maxHeartbeats 4000000 in
theorem ck_94 : ∀ pc, pc < 49 → pm_chk 94 pc cX11_tell (k_94 pc) = true := by decide +kernel
set_option maxRecDepth 100000 in
set_option maxHeartbeats 4000000 in
theorem ck_95 : ∀ pc, pc < 12 → pm_chk 95 pc cX11_untell (k_95 pc) = true := by decide +kernel
set_option maxRecDepth 100000 in
set_option maxHeartbeats 4000000 in
theorem ck_96_0 : ∀ pc, pc < 60 → pm_chk 96 (0 + pc) cX11_member (k_96 (0 + pc)) = true := by decide +kernel
set_option maxRecDepth 100000 in
set_option maxHeartbeats 4000000 in
theorem ck_96_1 : ∀ pc, pc < 53 → pm_chk 96 (60 + pc) cX11_member (k_96 (60 + pc)) = true := by decide +kernel
theorem ck_96 (pc : Nat) (h : pc < 113) : pm_chk 96 pc cX11_member (k_96 pc) = true := by
  by_cases h0 : pc < 60
  · have e := ck_96_0 (pc - 0) (by omega)
    rwa [show 0 + (pc - 0) = pc by omega] at e
  have e := ck_96_1 (pc - 60) (by omega)
  rwa [show 60 + (pc - 60) = pc by omega] at e
set_option maxRecDepth 100000 in
set_option maxHeartbeats 4000000 in
theorem ck_97 : ∀ pc, pc < 23 → pm_chk 97 pc cX11_has (k_97 pc) = true := by decide +kernel
set_option maxRecDepth 100000 in
set_option maxHeartbeats 4000000 in
theorem ck_98 : ∀ pc, pc < 30 → pm_chk 98 pc cX11_open (k_98 pc) = true := by decide +kernel
set_option maxRecDepth 100000 in
set_option maxHeartbeats 4000000 in
theorem ck_99_0 : ∀ pc, pc < 60 → pm_chk 99 (0 + pc) cX11_isMemberHead (k_99 (0 + pc)) = true := by decide +kernel
set_option maxRecDepth 100000 in
set_option maxHeartbeats 4000000 in
theorem ck_99_1 : ∀ pc, pc < 1 → pm_chk 99 (60 + pc) cX11_isMemberHead (k_99 (60 + pc)) = true := by decide +kernel
theorem ck_99 (pc : Nat) (h : pc < 61) : pm_chk 99 pc cX11_isMemberHead (k_99 pc) = true := by
  by_cases h0 : pc < 60
  · have e := ck_99_0 (pc - 0) (by omega)
    rwa [show 0 + (pc - 0) = pc by omega] at e
  have e := ck_99_1 (pc - 60) (by omega)
  rwa [show 60 + (pc - 60) = pc by omega] at e
set_option maxRecDepth 100000 in
set_option maxHeartbeats 4000000 in
theorem ck_100_0 : ∀ pc, pc < 60 → pm_chk 100 (0 + pc) cX11_areMarksAllowed (k_100 (0 + pc)) = true := by decide +kernel
set_option maxRecDepth 100000 in
set_option maxHeartbeats 4000000 in
theorem ck_100_1 : ∀ pc, pc < 19 → pm_chk 100 (60 + pc) cX11_areMarksAllowed (k_100 (60 + pc)) = true := by decide +kernel
theorem ck_100 (pc : Nat) (h : pc < 79) : pm_chk 100 pc cX11_areMarksAllowed (k_100 pc) = true := by
  by_cases h0 : pc < 60
  · have e := ck_100_0 (pc - 0) (by omega)
    rwa [show 0 + (pc - 0) = pc by omega] at e
  have e := ck_100_1 (pc - 60) (by omega)
  rwa [show 60 + (pc - 60) = pc by omega] at e
set_option maxRecDepth 100000 in
set_option maxHeartbeats 4000000 in
theorem ck_101 : ∀ pc, pc < 34 → pm_chk 101 pc cX11_isLastToldRow (k_101 pc) = true := by decide +kernel
set_option maxRecDepth 100000 in
set_option maxHeartbeats 4000000 in
theorem ck_102 : ∀ pc, pc < 23 → pm_chk 102 pc cX11_copyOfTold (k_102 pc) = true := by decide +kernel
