set_option maxRecDepth 100000 in
set_option maxHeartbeats 4000000 in
theorem ck_159 : ∀ pc, pc < 48 → pm_chk 159 pc cX12_wholeMeaning (k_159 pc) = true := by decide +kernel
set_option maxRecDepth 100000 in
set_option maxHeartbeats 4000000 in
theorem ck_160 : ∀ pc, pc < 12 → pm_chk 160 pc cX12_isReference (k_160 pc) = true := by decide +kernel
set_option maxRecDepth 100000 in
set_option maxHeartbeats 4000000 in
theorem ck_161 : ∀ pc, pc < 12 → pm_chk 161 pc cX12_isFace (k_161 pc) = true := by decide +kernel
set_option maxRecDepth 100000 in
set_option maxHeartbeats 4000000 in
theorem ck_162_0 : ∀ pc, pc < 60 → pm_chk 162 (0 + pc) cX12_face (k_162 (0 + pc)) = true := by decide +kernel
set_option maxRecDepth 100000 in
set_option maxHeartbeats 4000000 in
theorem ck_162_1 : ∀ pc, pc < 48 → pm_chk 162 (60 + pc) cX12_face (k_162 (60 + pc)) = true := by decide +kernel
theorem ck_162 (pc : Nat) (h : pc < 108) : pm_chk 162 pc cX12_face (k_162 pc) = true := by
  by_cases h0 : pc < 60
  · have e := ck_162_0 (pc - 0) (by omega)
    rwa [show 0 + (pc - 0) = pc by omega] at e
  have e := ck_162_1 (pc - 60) (by omega)
  rwa [show 60 + (pc - 60) = pc by omega] at e
set_option maxRecDepth 100000 in
set_option maxHeartbeats 4000000 in
theorem ck_163_0 : ∀ pc, pc < 60 → pm_chk 163 (0 + pc) cX12_reference (k_163 (0 + pc)) = true := by decide +kernel
set_option maxRecDepth 100000 in
set_option maxHeartbeats 4000000 in
theorem ck_163_1 : ∀ pc, pc < 60 → pm_chk 163 (60 + pc) cX12_reference (k_163 (60 + pc)) = true := by decide +kernel
set_option maxRecDepth 100000 in
set_option maxHeartbeats 4000000 in
theorem ck_163_2 : ∀ pc, pc < 43 → pm_chk 163 (120 + pc) cX12_reference (k_163 (120 + pc)) = true := by decide +kernel
theorem ck_163 (pc : Nat) (h : pc < 163) : pm_chk 163 pc cX12_reference (k_163 pc) = true := by
  by_cases h0 : pc < 60
  · have e := ck_163_0 (pc - 0) (by omega)
    rwa [show 0 + (pc - 0) = pc by omega] at e
  by_cases h1 : pc < 120
  · have e := ck_163_1 (pc - 60) (by omega)
    rwa [show 60 + (pc - 60) = pc by omega] at e
  have e := ck_163_2 (pc - 120) (by omega)
  rwa [show 120 + (pc - 120) = pc by omega] at e
set_option maxRecDepth 100000 in
set_option maxHeartbeats 4000000 in
theorem ck_164 : ∀ pc, pc < 27 → pm_chk 164 pc cX12_meant (k_164 pc) = true := by decide +kernel
set_option maxRecDepth 100000 in
set_option maxHeartbeats 4000000 in
theorem ck_165_0 : ∀ pc, pc < 60 → pm_chk 165 (0 + pc) cX12_looked (k_165 (0 + pc)) = true := by decide +kernel
set_option maxRecDepth 100000 in
set_option maxHeartbeats 4000000 in
theorem ck_165_1 : ∀ pc, pc < 60 → pm_chk 165 (60 + pc) cX12_looked (k_165 (60 + pc)) = true := by decide +kernel
set_option maxRecDepth 100000 in
set_option maxHeartbeats 4000000 in
theorem ck_165_2 : ∀ pc, pc < 38 → pm_chk 165 (120 + pc) cX12_looked (k_165 (120 + pc)) = true := by decide +kernel
theorem ck_165 (pc : Nat) (h : pc < 158) : pm_chk 165 pc cX12_looked (k_165 pc) = true := by
  by_cases h0 : pc < 60
  · have e := ck_165_0 (pc - 0) (by omega)
    rwa [show 0 + (pc - 0) = pc by omega] at e
  by_cases h1 : pc < 120
  · have e := ck_165_1 (pc - 60) (by omega)
    rwa [show 60 + (pc - 60) = pc by omega] at e
  have e := ck_165_2 (pc - 120) (by omega)
  rwa [show 120 + (pc - 120) = pc by omega] at e
set_option maxRecDepth 100000 in
set_option maxHeartbeats 4000000 in
theorem ck_166 : ∀ pc, pc < 8 → pm_chk 166 pc cX12_search (k_166 pc) = true := by decide +kernel
