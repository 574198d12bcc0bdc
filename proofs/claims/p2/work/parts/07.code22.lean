set_option maxRecDepth 100000 in
set_option maxHeartbeats 4000000 in
theorem ck_181_0 : ∀ pc, pc < 60 → pm_chk 181 (0 + pc) cX12_gives (k_181 (0 + pc)) = true := by decide +kernel
set_option maxRecDepth 100000 in
set_option maxHeartbeats 4000000 in
theorem ck_181_1 : ∀ pc, pc < 40 → pm_chk 181 (60 + pc) cX12_gives (k_181 (60 + pc)) = true := by decide +kernel
theorem ck_181 (pc : Nat) (h : pc < 100) : pm_chk 181 pc cX12_gives (k_181 pc) = true := by
  by_cases h0 : pc < 60
  · have e := ck_181_0 (pc - 0) (by omega)
    rwa [show 0 + (pc - 0) = pc by omega] at e
  have e := ck_181_1 (pc - 60) (by omega)
  rwa [show 60 + (pc - 60) = pc by omega] at e
set_option maxRecDepth 100000 in
set_option maxHeartbeats 4000000 in
theorem ck_182_0 : ∀ pc, pc < 60 → pm_chk 182 (0 + pc) cX12_remember (k_182 (0 + pc)) = true := by decide +kernel
set_option maxRecDepth 100000 in
set_option maxHeartbeats 4000000 in
theorem ck_182_1 : ∀ pc, pc < 8 → pm_chk 182 (60 + pc) cX12_remember (k_182 (60 + pc)) = true := by decide +kernel
theorem ck_182 (pc : Nat) (h : pc < 68) : pm_chk 182 pc cX12_remember (k_182 pc) = true := by
  by_cases h0 : pc < 60
  · have e := ck_182_0 (pc - 0) (by omega)
    rwa [show 0 + (pc - 0) = pc by omega] at e
  have e := ck_182_1 (pc - 60) (by omega)
  rwa [show 60 + (pc - 60) = pc by omega] at e
set_option maxRecDepth 100000 in
set_option maxHeartbeats 4000000 in
theorem ck_183 : ∀ pc, pc < 50 → pm_chk 183 pc cX12_chosen (k_183 pc) = true := by decide +kernel
set_option maxRecDepth 100000 in
set_option maxHeartbeats 4000000 in
theorem ck_184 : ∀ pc, pc < 60 → pm_chk 184 pc cX12_sized (k_184 pc) = true := by decide +kernel
set_option maxRecDepth 100000 in
set_option maxHeartbeats 4000000 in
theorem ck_185_0 : ∀ pc, pc < 40 → pm_chk 185 (0 + pc) cX12_call (k_185 (0 + pc)) = true := by decide +kernel
set_option maxRecDepth 100000 in
set_option maxHeartbeats 4000000 in
theorem ck_185_1 : ∀ pc, pc < 40 → pm_chk 185 (40 + pc) cX12_call (k_185 (40 + pc)) = true := by decide +kernel
set_option maxRecDepth 100000 in
set_option maxHeartbeats 4000000 in
theorem ck_185_2 : ∀ pc, pc < 40 → pm_chk 185 (80 + pc) cX12_call (k_185 (80 + pc)) = true := by decide +kernel
set_option maxRecDepth 100000 in
set_option maxHeartbeats 4000000 in
theorem ck_185_3 : ∀ pc, pc < 40 → pm_chk 185 (120 + pc) cX12_call (k_185 (120 + pc)) = true := by decide +kernel
set_option maxRecDepth 100000 in
set_option maxHeartbeats 4000000 in
theorem ck_185_4 : ∀ pc, pc < 40 → pm_chk 185 (160 + pc) cX12_call (k_185 (160 + pc)) = true := by decide +kernel
set_option maxRecDepth 100000 in
set_option maxHeartbeats 4000000 in
theorem ck_185_5 : ∀ pc, pc < 40 → pm_chk 185 (200 + pc) cX12_call (k_185 (200 + pc)) = true := by decide +kernel
set_option maxRecDepth 100000 in
set_option maxHeartbeats 4000000 in
theorem ck_185_6 : ∀ pc, pc < 40 → pm_chk 185 (240 + pc) cX12_call (k_185 (240 + pc)) = true := by decide +kernel
set_option maxRecDepth 100000 in
set_option maxHeartbeats 4000000 in
theorem ck_185_7 : ∀ pc, pc < 40 → pm_chk 185 (280 + pc) cX12_call (k_185 (280 + pc)) = true := by decide +kernel
