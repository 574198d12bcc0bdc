set_option maxRecDepth 100000 in
set_option maxHeartbeats 4000000 in
theorem ck_145 : ∀ pc, pc < 48 → pm_chk 145 pc cX12_isOpen (k_145 pc) = true := by decide +kernel
set_option maxRecDepth 100000 in
set_option maxHeartbeats 4000000 in
theorem ck_146 : ∀ pc, pc < 26 → pm_chk 146 pc cX12_open (k_146 pc) = true := by decide +kernel
set_option maxRecDepth 100000 in
set_option maxHeartbeats 4000000 in
theorem ck_147 : ∀ pc, pc < 58 → pm_chk 147 pc cX12_placeOf (k_147 pc) = true := by decide +kernel
set_option maxRecDepth 100000 in
set_option maxHeartbeats 4000000 in
theorem ck_148_0 : ∀ pc, pc < 60 → pm_chk 148 (0 + pc) cX12_takes (k_148 (0 + pc)) = true := by decide +kernel
set_option maxRecDepth 100000 in
set_option maxHeartbeats 4000000 in
theorem ck_148_1 : ∀ pc, pc < 60 → pm_chk 148 (60 + pc) cX12_takes (k_148 (60 + pc)) = true := by decide +kernel
set_option maxRecDepth 100000 in
set_option maxHeartbeats 4000000 in
theorem ck_148_2 : ∀ pc, pc < 37 → pm_chk 148 (120 + pc) cX12_takes (k_148 (120 + pc)) = true := by decide +kernel
theorem ck_148 (pc : Nat) (h : pc < 157) : pm_chk 148 pc cX12_takes (k_148 pc) = true := by
  by_cases h0 : pc < 60
  · have e := ck_148_0 (pc - 0) (by omega)
    rwa [show 0 + (pc - 0) = pc by omega] at e
  by_cases h1 : pc < 120
  · have e := ck_148_1 (pc - 60) (by omega)
    rwa [show 60 + (pc - 60) = pc by omega] at e
  have e := ck_148_2 (pc - 120) (by omega)
  rwa [show 120 + (pc - 120) = pc by omega] at e
set_option maxRecDepth 100000 in
set_option maxHeartbeats 4000000 in
theorem ck_149_0 : ∀ pc, pc < 60 → pm_chk 149 (0 + pc) cX12_isSpecial (k_149 (0 + pc)) = true := by decide +kernel
set_option maxRecDepth 100000 in
set_option maxHeartbeats 4000000 in
theorem ck_149_1 : ∀ pc, pc < 60 → pm_chk 149 (60 + pc) cX12_isSpecial (k_149 (60 + pc)) = true := by decide +kernel
set_option maxRecDepth 100000 in
set_option maxHeartbeats 4000000 in
theorem ck_149_2 : ∀ pc, pc < 60 → pm_chk 149 (120 + pc) cX12_isSpecial (k_149 (120 + pc)) = true := by decide +kernel
set_option maxRecDepth 100000 in
set_option maxHeartbeats 4000000 in
theorem ck_149_3 : ∀ pc, pc < 13 → pm_chk 149 (180 + pc) cX12_isSpecial (k_149 (180 + pc)) = true := by decide +kernel
theorem ck_149 (pc : Nat) (h : pc < 193) : pm_chk 149 pc cX12_isSpecial (k_149 pc) = true := by
  by_cases h0 : pc < 60
  · have e := ck_149_0 (pc - 0) (by omega)
    rwa [show 0 + (pc - 0) = pc by omega] at e
  by_cases h1 : pc < 120
  · have e := ck_149_1 (pc - 60) (by omega)
    rwa [show 60 + (pc - 60) = pc by omega] at e
  by_cases h2 : pc < 180
  · have e := ck_149_2 (pc - 120) (by omega)
    rwa [show 120 + (pc - 120) = pc by omega] at e
  have e := ck_149_3 (pc - 180) (by omega)
  rwa [show 180 + (pc - 180) = pc by omega] at e
set_option maxRecDepth 100000 in
set_option maxHeartbeats 4000000 in
theorem ck_150_0 : ∀ pc, pc < 60 → pm_chk 150 (0 + pc) cX12_searched (k_150 (0 + pc)) = true := by decide +kernel
set_option maxRecDepth 100000 in
set_option maxHeartbeats 4000000 in
theorem ck_150_1 : ∀ pc, pc < 60 → pm_chk 150 (60 + pc) cX12_searched (k_150 (60 + pc)) = true := by decide +kernel
set_option maxRecDepth 100000 in
set_option maxHeartbeats 4000000 in
theorem ck_150_2 : ∀ pc, pc < 60 → pm_chk 150 (120 + pc) cX12_searched (k_150 (120 + pc)) = true := by decide +kernel
set_option maxRecDepth 100000 in
set_option maxHeartbeats 4000000 in
theorem ck_150_3 : ∀ pc, pc < 36 → pm_chk 150 (180 + pc) cX12_searched (k_150 (180 + pc)) = true := by decide +kernel
