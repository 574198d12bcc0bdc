set_option maxRecDepth 100000 in
set_option maxHeartbeats 4000000 in
theorem ck_185_8 : ∀ pc, pc < 40 → pm_chk 185 (320 + pc) cX12_call (k_185 (320 + pc)) = true := by decide +kernel
set_option maxRecDepth 100000 in
set_option maxHeartbeats 4000000 in
theorem ck_185_9 : ∀ pc, pc < 40 → pm_chk 185 (360 + pc) cX12_call (k_185 (360 + pc)) = true := by decide +kernel
set_option maxRecDepth 100000 in
set_option maxHeartbeats 4000000 in
theorem ck_185_10 : ∀ pc, pc < 38 → pm_chk 185 (400 + pc) cX12_call (k_185 (400 + pc)) = true := by decide +kernel
theorem ck_185 (pc : Nat) (h : pc < 438) : pm_chk 185 pc cX12_call (k_185 pc) = true := by
  by_cases h0 : pc < 40
  · have e := ck_185_0 (pc - 0) (by omega)
    rwa [show 0 + (pc - 0) = pc by omega] at e
  by_cases h1 : pc < 80
  · have e := ck_185_1 (pc - 40) (by omega)
    rwa [show 40 + (pc - 40) = pc by omega] at e
  by_cases h2 : pc < 120
  · have e := ck_185_2 (pc - 80) (by omega)
    rwa [show 80 + (pc - 80) = pc by omega] at e
  by_cases h3 : pc < 160
  · have e := ck_185_3 (pc - 120) (by omega)
    rwa [show 120 + (pc - 120) = pc by omega] at e
  by_cases h4 : pc < 200
  · have e := ck_185_4 (pc - 160) (by omega)
    rwa [show 160 + (pc - 160) = pc by omega] at e
  by_cases h5 : pc < 240
  · have e := ck_185_5 (pc - 200) (by omega)
    rwa [show 200 + (pc - 200) = pc by omega] at e
  by_cases h6 : pc < 280
  · have e := ck_185_6 (pc - 240) (by omega)
    rwa [show 240 + (pc - 240) = pc by omega] at e
  by_cases h7 : pc < 320
  · have e := ck_185_7 (pc - 280) (by omega)
    rwa [show 280 + (pc - 280) = pc by omega] at e
  by_cases h8 : pc < 360
  · have e := ck_185_8 (pc - 320) (by omega)
    rwa [show 320 + (pc - 320) = pc by omega] at e
  by_cases h9 : pc < 400
  · have e := ck_185_9 (pc - 360) (by omega)
    rwa [show 360 + (pc - 360) = pc by omega] at e
  have e := ck_185_10 (pc - 400) (by omega)
  rwa [show 400 + (pc - 400) = pc by omega] at e
set_option maxRecDepth 100000 in
set_option maxHeartbeats 4000000 in
theorem ck_186 : ∀ pc, pc < 5 → pm_chk 186 pc cX12_result (k_186 pc) = true := by decide +kernel
set_option maxRecDepth 100000 in
set_option maxHeartbeats 4000000 in
theorem ck_187 : ∀ pc, pc < 26 → pm_chk 187 pc cX12_traced (k_187 pc) = true := by decide +kernel
set_option maxRecDepth 100000 in
set_option maxHeartbeats 4000000 in
theorem ck_188_0 : ∀ pc, pc < 60 → pm_chk 188 (0 + pc) cX12_count (k_188 (0 + pc)) = true := by decide +kernel
set_option maxRecDepth 100000 in
set_option maxHeartbeats 4000000 in
theorem ck_188_1 : ∀ pc, pc < 21 → pm_chk 188 (60 + pc) cX12_count (k_188 (60 + pc)) = true := by decide +kernel
theorem ck_188 (pc : Nat) (h : pc < 81) : pm_chk 188 pc cX12_count (k_188 pc) = true := by
  by_cases h0 : pc < 60
  · have e := ck_188_0 (pc - 0) (by omega)
    rwa [show 0 + (pc - 0) = pc by omega] at e
  have e := ck_188_1 (pc - 60) (by omega)
  rwa [show 60 + (pc - 60) = pc by omega] at e
set_option maxRecDepth 100000 in
set_option maxHeartbeats 4000000 in
theorem ck_189 : ∀ pc, pc < 47 → pm_chk 189 pc cX12_clear (k_189 pc) = true := by decide +kernel
set_option maxRecDepth 100000 in
set_option maxHeartbeats 4000000 in
theorem ck_190_0 : ∀ pc, pc < 60 → pm_chk 190 (0 + pc) cJ13_bitCount_95d88 (k_190 (0 + pc)) = true := by decide +kernel
set_option maxRecDepth 100000 in
set_option maxHeartbeats 4000000 in
theorem ck_190_1 : ∀ pc, pc < 1 → pm_chk 190 (60 + pc) cJ13_bitCount_95d88 (k_190 (60 + pc)) = true := by decide +kernel
theorem ck_190 (pc : Nat) (h : pc < 61) : pm_chk 190 pc cJ13_bitCount_95d88 (k_190 pc) = true := by
  by_cases h0 : pc < 60
  · have e := ck_190_0 (pc - 0) (by omega)
    rwa [show 0 + (pc - 0) = pc by omega] at e
  have e := ck_190_1 (pc - 60) (by omega)
  rwa [show 60 + (pc - 60) = pc by omega] at e
