set_option maxRecDepth 100000 in
set_option maxHeartbeats 4000000 in
theorem ck_130 : ∀ pc, pc < 19 → pm_chk 130 pc cX12_isOwn (k_130 pc) = true := by decide +kernel
set_option maxRecDepth 100000 in
set_option maxHeartbeats 4000000 in
theorem ck_131 : ∀ pc, pc < 44 → pm_chk 131 pc cX12_isPlace (k_131 pc) = true := by decide +kernel
set_option maxRecDepth 100000 in
set_option maxHeartbeats 4000000 in
theorem ck_132_0 : ∀ pc, pc < 60 → pm_chk 132 (0 + pc) cX12_isUnder (k_132 (0 + pc)) = true := by decide +kernel
set_option maxRecDepth 100000 in
set_option maxHeartbeats 4000000 in
theorem ck_132_1 : ∀ pc, pc < 25 → pm_chk 132 (60 + pc) cX12_isUnder (k_132 (60 + pc)) = true := by decide +kernel
theorem ck_132 (pc : Nat) (h : pc < 85) : pm_chk 132 pc cX12_isUnder (k_132 pc) = true := by
  by_cases h0 : pc < 60
  · have e := ck_132_0 (pc - 0) (by omega)
    rwa [show 0 + (pc - 0) = pc by omega] at e
  have e := ck_132_1 (pc - 60) (by omega)
  rwa [show 60 + (pc - 60) = pc by omega] at e
set_option maxRecDepth 100000 in
set_option maxHeartbeats 4000000 in
theorem ck_133 : ∀ pc, pc < 41 → pm_chk 133 pc cX12_isLoose (k_133 pc) = true := by decide +kernel
set_option maxRecDepth 100000 in
set_option maxHeartbeats 4000000 in
theorem ck_134 : ∀ pc, pc < 49 → pm_chk 134 pc cX12_type (k_134 pc) = true := by decide +kernel
set_option maxRecDepth 100000 in
set_option maxHeartbeats 4000000 in
theorem ck_135 : ∀ pc, pc < 45 → pm_chk 135 pc cX12_under (k_135 pc) = true := by decide +kernel
set_option maxRecDepth 100000 in
set_option maxHeartbeats 4000000 in
theorem ck_136 : ∀ pc, pc < 45 → pm_chk 136 pc cX12_loose (k_136 pc) = true := by decide +kernel
set_option maxRecDepth 100000 in
set_option maxHeartbeats 4000000 in
theorem ck_137 : ∀ pc, pc < 46 → pm_chk 137 pc cX12_tell (k_137 pc) = true := by decide +kernel
set_option maxRecDepth 100000 in
set_option maxHeartbeats 4000000 in
theorem ck_138 : ∀ pc, pc < 12 → pm_chk 138 pc cX12_untell (k_138 pc) = true := by decide +kernel
set_option maxRecDepth 100000 in
set_option maxHeartbeats 4000000 in
theorem ck_139 : ∀ pc, pc < 17 → pm_chk 139 pc cX12_isMark (k_139 pc) = true := by decide +kernel
set_option maxRecDepth 100000 in
set_option maxHeartbeats 4000000 in
theorem ck_140_0 : ∀ pc, pc < 60 → pm_chk 140 (0 + pc) cX12_isSame (k_140 (0 + pc)) = true := by decide +kernel
set_option maxRecDepth 100000 in
set_option maxHeartbeats 4000000 in
theorem ck_140_1 : ∀ pc, pc < 33 → pm_chk 140 (60 + pc) cX12_isSame (k_140 (60 + pc)) = true := by decide +kernel
theorem ck_140 (pc : Nat) (h : pc < 93) : pm_chk 140 pc cX12_isSame (k_140 pc) = true := by
  by_cases h0 : pc < 60
  · have e := ck_140_0 (pc - 0) (by omega)
    rwa [show 0 + (pc - 0) = pc by omega] at e
  have e := ck_140_1 (pc - 60) (by omega)
  rwa [show 60 + (pc - 60) = pc by omega] at e
set_option maxRecDepth 100000 in
set_option maxHeartbeats 4000000 in
theorem ck_141_0 : ∀ pc, pc < 60 → pm_chk 141 (0 + pc) cX12_isClash (k_141 (0 + pc)) = true := by decide +kernel
