set_option maxRecDepth 100000 in
set_option maxHeartbeats 4000000 in
theorem ck_141_1 : ∀ pc, pc < 60 → pm_chk 141 (60 + pc) cX12_isClash (k_141 (60 + pc)) = true := by decide +kernel
set_option maxRecDepth 100000 in
set_option maxHeartbeats 4000000 in
theorem ck_141_2 : ∀ pc, pc < 60 → pm_chk 141 (120 + pc) cX12_isClash (k_141 (120 + pc)) = true := by decide +kernel
set_option maxRecDepth 100000 in
set_option maxHeartbeats 4000000 in
theorem ck_141_3 : ∀ pc, pc < 1 → pm_chk 141 (180 + pc) cX12_isClash (k_141 (180 + pc)) = true := by decide +kernel
theorem ck_141 (pc : Nat) (h : pc < 181) : pm_chk 141 pc cX12_isClash (k_141 pc) = true := by
  by_cases h0 : pc < 60
  · have e := ck_141_0 (pc - 0) (by omega)
    rwa [show 0 + (pc - 0) = pc by omega] at e
  by_cases h1 : pc < 120
  · have e := ck_141_1 (pc - 60) (by omega)
    rwa [show 60 + (pc - 60) = pc by omega] at e
  by_cases h2 : pc < 180
  · have e := ck_141_2 (pc - 120) (by omega)
    rwa [show 120 + (pc - 120) = pc by omega] at e
  have e := ck_141_3 (pc - 180) (by omega)
  rwa [show 180 + (pc - 180) = pc by omega] at e
set_option maxRecDepth 100000 in
set_option maxHeartbeats 4000000 in
theorem ck_142_0 : ∀ pc, pc < 60 → pm_chk 142 (0 + pc) cX12_member (k_142 (0 + pc)) = true := by decide +kernel
set_option maxRecDepth 100000 in
set_option maxHeartbeats 4000000 in
theorem ck_142_1 : ∀ pc, pc < 60 → pm_chk 142 (60 + pc) cX12_member (k_142 (60 + pc)) = true := by decide +kernel
set_option maxRecDepth 100000 in
set_option maxHeartbeats 4000000 in
theorem ck_142_2 : ∀ pc, pc < 60 → pm_chk 142 (120 + pc) cX12_member (k_142 (120 + pc)) = true := by decide +kernel
set_option maxRecDepth 100000 in
set_option maxHeartbeats 4000000 in
theorem ck_142_3 : ∀ pc, pc < 60 → pm_chk 142 (180 + pc) cX12_member (k_142 (180 + pc)) = true := by decide +kernel
set_option maxRecDepth 100000 in
set_option maxHeartbeats 4000000 in
theorem ck_142_4 : ∀ pc, pc < 60 → pm_chk 142 (240 + pc) cX12_member (k_142 (240 + pc)) = true := by decide +kernel
set_option maxRecDepth 100000 in
set_option maxHeartbeats 4000000 in
theorem ck_142_5 : ∀ pc, pc < 7 → pm_chk 142 (300 + pc) cX12_member (k_142 (300 + pc)) = true := by decide +kernel
theorem ck_142 (pc : Nat) (h : pc < 307) : pm_chk 142 pc cX12_member (k_142 pc) = true := by
  by_cases h0 : pc < 60
  · have e := ck_142_0 (pc - 0) (by omega)
    rwa [show 0 + (pc - 0) = pc by omega] at e
  by_cases h1 : pc < 120
  · have e := ck_142_1 (pc - 60) (by omega)
    rwa [show 60 + (pc - 60) = pc by omega] at e
  by_cases h2 : pc < 180
  · have e := ck_142_2 (pc - 120) (by omega)
    rwa [show 120 + (pc - 120) = pc by omega] at e
  by_cases h3 : pc < 240
  · have e := ck_142_3 (pc - 180) (by omega)
    rwa [show 180 + (pc - 180) = pc by omega] at e
  by_cases h4 : pc < 300
  · have e := ck_142_4 (pc - 240) (by omega)
    rwa [show 240 + (pc - 240) = pc by omega] at e
  have e := ck_142_5 (pc - 300) (by omega)
  rwa [show 300 + (pc - 300) = pc by omega] at e
set_option maxRecDepth 100000 in
set_option maxHeartbeats 4000000 in
theorem ck_143_0 : ∀ pc, pc < 60 → pm_chk 143 (0 + pc) cX12_isHad (k_143 (0 + pc)) = true := by decide +kernel
set_option maxRecDepth 100000 in
set_option maxHeartbeats 4000000 in
theorem ck_143_1 : ∀ pc, pc < 60 → pm_chk 143 (60 + pc) cX12_isHad (k_143 (60 + pc)) = true := by decide +kernel
set_option maxRecDepth 100000 in
set_option maxHeartbeats 4000000 in
theorem ck_143_2 : ∀ pc, pc < 34 → pm_chk 143 (120 + pc) cX12_isHad (k_143 (120 + pc)) = true := by decide +kernel
theorem ck_143 (pc : Nat) (h : pc < 154) : pm_chk 143 pc cX12_isHad (k_143 pc) = true := by
  by_cases h0 : pc < 60
  · have e := ck_143_0 (pc - 0) (by omega)
    rwa [show 0 + (pc - 0) = pc by omega] at e
  by_cases h1 : pc < 120
  · have e := ck_143_1 (pc - 60) (by omega)
    rwa [show 60 + (pc - 60) = pc by omega] at e
  have e := ck_143_2 (pc - 120) (by omega)
  rwa [show 120 + (pc - 120) = pc by omega] at e
set_option maxRecDepth 100000 in
set_option maxHeartbeats 4000000 in
theorem ck_144 : ∀ pc, pc < 54 → pm_chk 144 pc cX12_has (k_144 pc) = true := by decide +kernel
