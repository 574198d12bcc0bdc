set_option maxRecDepth 100000 in
set_option maxHeartbeats 4000000 in
theorem ck_176_1 : ∀ pc, pc < 60 → pm_chk 176 (60 + pc) cX12_make (k_176 (60 + pc)) = true := by decide +kernel
set_option maxRecDepth 100000 in
set_option maxHeartbeats 4000000 in
theorem ck_176_2 : ∀ pc, pc < 43 → pm_chk 176 (120 + pc) cX12_make (k_176 (120 + pc)) = true := by decide +kernel
theorem ck_176 (pc : Nat) (h : pc < 163) : pm_chk 176 pc cX12_make (k_176 pc) = true := by
  by_cases h0 : pc < 60
  · have e := ck_176_0 (pc - 0) (by omega)
    rwa [show 0 + (pc - 0) = pc by omega] at e
  by_cases h1 : pc < 120
  · have e := ck_176_1 (pc - 60) (by omega)
    rwa [show 60 + (pc - 60) = pc by omega] at e
  have e := ck_176_2 (pc - 120) (by omega)
  rwa [show 120 + (pc - 120) = pc by omega] at e
set_option maxRecDepth 100000 in
set_option maxHeartbeats 4000000 in
theorem ck_177 : ∀ pc, pc < 20 → pm_chk 177 pc cX12_arg (k_177 pc) = true := by decide +kernel
set_option maxRecDepth 100000 in
set_option maxHeartbeats 4000000 in
theorem ck_178_0 : ∀ pc, pc < 60 → pm_chk 178 (0 + pc) cX12_turned (k_178 (0 + pc)) = true := by decide +kernel
set_option maxRecDepth 100000 in
set_option maxHeartbeats 4000000 in
theorem ck_178_1 : ∀ pc, pc < 15 → pm_chk 178 (60 + pc) cX12_turned (k_178 (60 + pc)) = true := by decide +kernel
theorem ck_178 (pc : Nat) (h : pc < 75) : pm_chk 178 pc cX12_turned (k_178 pc) = true := by
  by_cases h0 : pc < 60
  · have e := ck_178_0 (pc - 0) (by omega)
    rwa [show 0 + (pc - 0) = pc by omega] at e
  have e := ck_178_1 (pc - 60) (by omega)
  rwa [show 60 + (pc - 60) = pc by omega] at e
set_option maxRecDepth 100000 in
set_option maxHeartbeats 4000000 in
theorem ck_179_0 : ∀ pc, pc < 60 → pm_chk 179 (0 + pc) cX12_give (k_179 (0 + pc)) = true := by decide +kernel
set_option maxRecDepth 100000 in
set_option maxHeartbeats 4000000 in
theorem ck_179_1 : ∀ pc, pc < 60 → pm_chk 179 (60 + pc) cX12_give (k_179 (60 + pc)) = true := by decide +kernel
set_option maxRecDepth 100000 in
set_option maxHeartbeats 4000000 in
theorem ck_179_2 : ∀ pc, pc < 60 → pm_chk 179 (120 + pc) cX12_give (k_179 (120 + pc)) = true := by decide +kernel
set_option maxRecDepth 100000 in
set_option maxHeartbeats 4000000 in
theorem ck_179_3 : ∀ pc, pc < 30 → pm_chk 179 (180 + pc) cX12_give (k_179 (180 + pc)) = true := by decide +kernel
theorem ck_179 (pc : Nat) (h : pc < 210) : pm_chk 179 pc cX12_give (k_179 pc) = true := by
  by_cases h0 : pc < 60
  · have e := ck_179_0 (pc - 0) (by omega)
    rwa [show 0 + (pc - 0) = pc by omega] at e
  by_cases h1 : pc < 120
  · have e := ck_179_1 (pc - 60) (by omega)
    rwa [show 60 + (pc - 60) = pc by omega] at e
  by_cases h2 : pc < 180
  · have e := ck_179_2 (pc - 120) (by omega)
    rwa [show 120 + (pc - 120) = pc by omega] at e
  have e := ck_179_3 (pc - 180) (by omega)
  rwa [show 180 + (pc - 180) = pc by omega] at e
set_option maxRecDepth 100000 in
set_option maxHeartbeats 4000000 in
theorem ck_180_0 : ∀ pc, pc < 60 → pm_chk 180 (0 + pc) cX12_sumOf (k_180 (0 + pc)) = true := by decide +kernel
set_option maxRecDepth 100000 in
set_option maxHeartbeats 4000000 in
theorem ck_180_1 : ∀ pc, pc < 60 → pm_chk 180 (60 + pc) cX12_sumOf (k_180 (60 + pc)) = true := by decide +kernel
set_option maxRecDepth 100000 in
set_option maxHeartbeats 4000000 in
theorem ck_180_2 : ∀ pc, pc < 48 → pm_chk 180 (120 + pc) cX12_sumOf (k_180 (120 + pc)) = true := by decide +kernel
theorem ck_180 (pc : Nat) (h : pc < 168) : pm_chk 180 pc cX12_sumOf (k_180 pc) = true := by
  by_cases h0 : pc < 60
  · have e := ck_180_0 (pc - 0) (by omega)
    rwa [show 0 + (pc - 0) = pc by omega] at e
  by_cases h1 : pc < 120
  · have e := ck_180_1 (pc - 60) (by omega)
    rwa [show 60 + (pc - 60) = pc by omega] at e
  have e := ck_180_2 (pc - 120) (by omega)
  rwa [show 120 + (pc - 120) = pc by omega] at e
