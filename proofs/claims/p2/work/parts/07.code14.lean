set_option maxRecDepth 100000 in
set_option maxHeartbeats 4000000 in
theorem ck_122_0 : ∀ pc, pc < 60 → pm_chk 122 (0 + pc) cX11_count (k_122 (0 + pc)) = true := by decide +kernel
set_option maxRecDepth 100000 in
set_option maxHeartbeats 4000000 in
theorem ck_122_1 : ∀ pc, pc < 30 → pm_chk 122 (60 + pc) cX11_count (k_122 (60 + pc)) = true := by decide +kernel
theorem ck_122 (pc : Nat) (h : pc < 90) : pm_chk 122 pc cX11_count (k_122 pc) = true := by
  by_cases h0 : pc < 60
  · have e := ck_122_0 (pc - 0) (by omega)
    rwa [show 0 + (pc - 0) = pc by omega] at e
  have e := ck_122_1 (pc - 60) (by omega)
  rwa [show 60 + (pc - 60) = pc by omega] at e
set_option maxRecDepth 100000 in
set_option maxHeartbeats 4000000 in
theorem ck_123_0 : ∀ pc, pc < 60 → pm_chk 123 (0 + pc) cX11_clear (k_123 (0 + pc)) = true := by decide +kernel
set_option maxRecDepth 100000 in
set_option maxHeartbeats 4000000 in
theorem ck_123_1 : ∀ pc, pc < 18 → pm_chk 123 (60 + pc) cX11_clear (k_123 (60 + pc)) = true := by decide +kernel
theorem ck_123 (pc : Nat) (h : pc < 78) : pm_chk 123 pc cX11_clear (k_123 pc) = true := by
  by_cases h0 : pc < 60
  · have e := ck_123_0 (pc - 0) (by omega)
    rwa [show 0 + (pc - 0) = pc by omega] at e
  have e := ck_123_1 (pc - 60) (by omega)
  rwa [show 60 + (pc - 60) = pc by omega] at e
set_option maxRecDepth 100000 in
set_option maxHeartbeats 4000000 in
theorem ck_124 : ∀ pc, pc < 40 → pm_chk 124 pc cX11_isReceiver (k_124 pc) = true := by decide +kernel
set_option maxRecDepth 100000 in
set_option maxHeartbeats 4000000 in
theorem ck_125 : ∀ pc, pc < 36 → pm_chk 125 pc cX11_isThingUnder (k_125 pc) = true := by decide +kernel
set_option maxRecDepth 100000 in
set_option maxHeartbeats 4000000 in
theorem ck_126 : ∀ pc, pc < 57 → pm_chk 126 pc cX11_doArgsSuit (k_126 pc) = true := by decide +kernel
set_option maxRecDepth 100000 in
set_option maxHeartbeats 4000000 in
theorem ck_127_0 : ∀ pc, pc < 60 → pm_chk 127 (0 + pc) cX12_init (k_127 (0 + pc)) = true := by decide +kernel
set_option maxRecDepth 100000 in
set_option maxHeartbeats 4000000 in
theorem ck_127_1 : ∀ pc, pc < 60 → pm_chk 127 (60 + pc) cX12_init (k_127 (60 + pc)) = true := by decide +kernel
set_option maxRecDepth 100000 in
set_option maxHeartbeats 4000000 in
theorem ck_127_2 : ∀ pc, pc < 60 → pm_chk 127 (120 + pc) cX12_init (k_127 (120 + pc)) = true := by decide +kernel
set_option maxRecDepth 100000 in
set_option maxHeartbeats 4000000 in
theorem ck_127_3 : ∀ pc, pc < 35 → pm_chk 127 (180 + pc) cX12_init (k_127 (180 + pc)) = true := by decide +kernel
theorem ck_127 (pc : Nat) (h : pc < 215) : pm_chk 127 pc cX12_init (k_127 pc) = true := by
  by_cases h0 : pc < 60
  · have e := ck_127_0 (pc - 0) (by omega)
    rwa [show 0 + (pc - 0) = pc by omega] at e
  by_cases h1 : pc < 120
  · have e := ck_127_1 (pc - 60) (by omega)
    rwa [show 60 + (pc - 60) = pc by omega] at e
  by_cases h2 : pc < 180
  · have e := ck_127_2 (pc - 120) (by omega)
    rwa [show 120 + (pc - 120) = pc by omega] at e
  have e := ck_127_3 (pc - 180) (by omega)
  rwa [show 180 + (pc - 180) = pc by omega] at e
set_option maxRecDepth 100000 in
set_option maxHeartbeats 4000000 in
theorem ck_128 : ∀ pc, pc < 16 → pm_chk 128 pc cX12_isIn (k_128 pc) = true := by decide +kernel
set_option maxRecDepth 100000 in
set_option maxHeartbeats 4000000 in
theorem ck_129 : ∀ pc, pc < 12 → pm_chk 129 pc cX12_isClass (k_129 pc) = true := by decide +kernel
