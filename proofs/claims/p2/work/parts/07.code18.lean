theorem ck_150 (pc : Nat) (h : pc < 216) : pm_chk 150 pc cX12_searched (k_150 pc) = true := by
  by_cases h0 : pc < 60
  · have e := ck_150_0 (pc - 0) (by omega)
    rwa [show 0 + (pc - 0) = pc by omega] at e
  by_cases h1 : pc < 120
  · have e := ck_150_1 (pc - 60) (by omega)
    rwa [show 60 + (pc - 60) = pc by omega] at e
  by_cases h2 : pc < 180
  · have e := ck_150_2 (pc - 120) (by omega)
    rwa [show 120 + (pc - 120) = pc by omega] at e
  have e := ck_150_3 (pc - 180) (by omega)
  rwa [show 180 + (pc - 180) = pc by omega] at e
set_option maxRecDepth 100000 in
set_option maxHeartbeats 4000000 in
theorem ck_151 : ∀ pc, pc < 32 → pm_chk 151 pc cX12_nothingFits (k_151 pc) = true := by decide +kernel
set_option maxRecDepth 100000 in
set_option maxHeartbeats 4000000 in
theorem ck_152 : ∀ pc, pc < 41 → pm_chk 152 pc cX12_secondSearched (k_152 pc) = true := by decide +kernel
set_option maxRecDepth 100000 in
set_option maxHeartbeats 4000000 in
theorem ck_153 : ∀ pc, pc < 46 → pm_chk 153 pc cX12_statics (k_153 pc) = true := by decide +kernel
set_option maxRecDepth 100000 in
set_option maxHeartbeats 4000000 in
theorem ck_154 : ∀ pc, pc < 49 → pm_chk 154 pc cX12_makers (k_154 pc) = true := by decide +kernel
set_option maxRecDepth 100000 in
set_option maxHeartbeats 4000000 in
theorem ck_155_0 : ∀ pc, pc < 60 → pm_chk 155 (0 + pc) cX12_ofBoth (k_155 (0 + pc)) = true := by decide +kernel
set_option maxRecDepth 100000 in
set_option maxHeartbeats 4000000 in
theorem ck_155_1 : ∀ pc, pc < 60 → pm_chk 155 (60 + pc) cX12_ofBoth (k_155 (60 + pc)) = true := by decide +kernel
set_option maxRecDepth 100000 in
set_option maxHeartbeats 4000000 in
theorem ck_155_2 : ∀ pc, pc < 27 → pm_chk 155 (120 + pc) cX12_ofBoth (k_155 (120 + pc)) = true := by decide +kernel
theorem ck_155 (pc : Nat) (h : pc < 147) : pm_chk 155 pc cX12_ofBoth (k_155 pc) = true := by
  by_cases h0 : pc < 60
  · have e := ck_155_0 (pc - 0) (by omega)
    rwa [show 0 + (pc - 0) = pc by omega] at e
  by_cases h1 : pc < 120
  · have e := ck_155_1 (pc - 60) (by omega)
    rwa [show 60 + (pc - 60) = pc by omega] at e
  have e := ck_155_2 (pc - 120) (by omega)
  rwa [show 120 + (pc - 120) = pc by omega] at e
set_option maxRecDepth 100000 in
set_option maxHeartbeats 4000000 in
theorem ck_156 : ∀ pc, pc < 45 → pm_chk 156 pc cX12_ofOne (k_156 pc) = true := by decide +kernel
set_option maxRecDepth 100000 in
set_option maxHeartbeats 4000000 in
theorem ck_157_0 : ∀ pc, pc < 60 → pm_chk 157 (0 + pc) cX12_means (k_157 (0 + pc)) = true := by decide +kernel
set_option maxRecDepth 100000 in
set_option maxHeartbeats 4000000 in
theorem ck_157_1 : ∀ pc, pc < 60 → pm_chk 157 (60 + pc) cX12_means (k_157 (60 + pc)) = true := by decide +kernel
set_option maxRecDepth 100000 in
set_option maxHeartbeats 4000000 in
theorem ck_157_2 : ∀ pc, pc < 60 → pm_chk 157 (120 + pc) cX12_means (k_157 (120 + pc)) = true := by decide +kernel
set_option maxRecDepth 100000 in
set_option maxHeartbeats 4000000 in
theorem ck_157_3 : ∀ pc, pc < 60 → pm_chk 157 (180 + pc) cX12_means (k_157 (180 + pc)) = true := by decide +kernel
theorem ck_157 (pc : Nat) (h : pc < 240) : pm_chk 157 pc cX12_means (k_157 pc) = true := by
  by_cases h0 : pc < 60
  · have e := ck_157_0 (pc - 0) (by omega)
    rwa [show 0 + (pc - 0) = pc by omega] at e
  by_cases h1 : pc < 120
  · have e := ck_157_1 (pc - 60) (by omega)
    rwa [show 60 + (pc - 60) = pc by omega] at e
  by_cases h2 : pc < 180
  · have e := ck_157_2 (pc - 120) (by omega)
    rwa [show 120 + (pc - 120) = pc by omega] at e
  have e := ck_157_3 (pc - 180) (by omega)
  rwa [show 180 + (pc - 180) = pc by omega] at e
set_option maxRecDepth 100000 in
set_option maxHeartbeats 4000000 in
theorem ck_158 : ∀ pc, pc < 56 → pm_chk 158 pc cX12_comes (k_158 pc) = true := by decide +kernel
