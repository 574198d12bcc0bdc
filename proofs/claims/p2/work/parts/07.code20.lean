set_option maxRecDepth 100000 in
set_option maxHeartbeats 4000000 in
theorem ck_167 : ∀ pc, pc < 32 → pm_chk 167 pc cX12_phase (k_167 pc) = true := by decide +kernel
set_option maxRecDepth 100000 in
set_option maxHeartbeats 4000000 in
theorem ck_168_0 : ∀ pc, pc < 60 → pm_chk 168 (0 + pc) cX12_exact (k_168 (0 + pc)) = true := by decide +kernel
set_option maxRecDepth 100000 in
set_option maxHeartbeats 4000000 in
theorem ck_168_1 : ∀ pc, pc < 60 → pm_chk 168 (60 + pc) cX12_exact (k_168 (60 + pc)) = true := by decide +kernel
set_option maxRecDepth 100000 in
set_option maxHeartbeats 4000000 in
theorem ck_168_2 : ∀ pc, pc < 60 → pm_chk 168 (120 + pc) cX12_exact (k_168 (120 + pc)) = true := by decide +kernel
set_option maxRecDepth 100000 in
set_option maxHeartbeats 4000000 in
theorem ck_168_3 : ∀ pc, pc < 35 → pm_chk 168 (180 + pc) cX12_exact (k_168 (180 + pc)) = true := by decide +kernel
theorem ck_168 (pc : Nat) (h : pc < 215) : pm_chk 168 pc cX12_exact (k_168 pc) = true := by
  by_cases h0 : pc < 60
  · have e := ck_168_0 (pc - 0) (by omega)
    rwa [show 0 + (pc - 0) = pc by omega] at e
  by_cases h1 : pc < 120
  · have e := ck_168_1 (pc - 60) (by omega)
    rwa [show 60 + (pc - 60) = pc by omega] at e
  by_cases h2 : pc < 180
  · have e := ck_168_2 (pc - 120) (by omega)
    rwa [show 120 + (pc - 120) = pc by omega] at e
  have e := ck_168_3 (pc - 180) (by omega)
  rwa [show 180 + (pc - 180) = pc by omega] at e
set_option maxRecDepth 100000 in
set_option maxHeartbeats 4000000 in
theorem ck_169_0 : ∀ pc, pc < 60 → pm_chk 169 (0 + pc) cX12_made (k_169 (0 + pc)) = true := by decide +kernel
set_option maxRecDepth 100000 in
set_option maxHeartbeats 4000000 in
theorem ck_169_1 : ∀ pc, pc < 30 → pm_chk 169 (60 + pc) cX12_made (k_169 (60 + pc)) = true := by decide +kernel
theorem ck_169 (pc : Nat) (h : pc < 90) : pm_chk 169 pc cX12_made (k_169 pc) = true := by
  by_cases h0 : pc < 60
  · have e := ck_169_0 (pc - 0) (by omega)
    rwa [show 0 + (pc - 0) = pc by omega] at e
  have e := ck_169_1 (pc - 60) (by omega)
  rwa [show 60 + (pc - 60) = pc by omega] at e
set_option maxRecDepth 100000 in
set_option maxHeartbeats 4000000 in
theorem ck_170 : ∀ pc, pc < 10 → pm_chk 170 pc cX12_isThing (k_170 pc) = true := by decide +kernel
set_option maxRecDepth 100000 in
set_option maxHeartbeats 4000000 in
theorem ck_171 : ∀ pc, pc < 49 → pm_chk 171 pc cX12_thing (k_171 pc) = true := by decide +kernel
set_option maxRecDepth 100000 in
set_option maxHeartbeats 4000000 in
theorem ck_172 : ∀ pc, pc < 28 → pm_chk 172 pc cX12_box (k_172 pc) = true := by decide +kernel
set_option maxRecDepth 100000 in
set_option maxHeartbeats 4000000 in
theorem ck_173 : ∀ pc, pc < 39 → pm_chk 173 pc cX12_of (k_173 pc) = true := by decide +kernel
set_option maxRecDepth 100000 in
set_option maxHeartbeats 4000000 in
theorem ck_174 : ∀ pc, pc < 51 → pm_chk 174 pc cX12_place (k_174 pc) = true := by decide +kernel
set_option maxRecDepth 100000 in
set_option maxHeartbeats 4000000 in
theorem ck_175 : ∀ pc, pc < 32 → pm_chk 175 pc cX12_isGiven (k_175 pc) = true := by decide +kernel
set_option maxRecDepth 100000 in
set_option maxHeartbeats 4000000 in
theorem ck_176_0 : ∀ pc, pc < 60 → pm_chk 176 (0 + pc) cX12_make (k_176 (0 + pc)) = true := by decide +kernel
