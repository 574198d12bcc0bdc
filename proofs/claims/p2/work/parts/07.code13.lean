set_option maxRecDepth 100000 in
set_option maxHeartbeats 4000000 in
theorem ck_112_1 : ∀ pc, pc < 51 → pm_chk 112 (60 + pc) cX11_searchRefusal (k_112 (60 + pc)) = true := by decide +kernel
theorem ck_112 (pc : Nat) (h : pc < 111) : pm_chk 112 pc cX11_searchRefusal (k_112 pc) = true := by
  by_cases h0 : pc < 60
  · have e := ck_112_0 (pc - 0) (by omega)
    rwa [show 0 + (pc - 0) = pc by omega] at e
  have e := ck_112_1 (pc - 60) (by omega)
  rwa [show 60 + (pc - 60) = pc by omega] at e
set_option maxRecDepth 100000 in
set_option maxHeartbeats 4000000 in
theorem ck_113 : ∀ pc, pc < 37 → pm_chk 113 pc cX11_thing (k_113 pc) = true := by decide +kernel
set_option maxRecDepth 100000 in
set_option maxHeartbeats 4000000 in
theorem ck_114 : ∀ pc, pc < 10 → pm_chk 114 pc cX11_box (k_114 pc) = true := by decide +kernel
set_option maxRecDepth 100000 in
set_option maxHeartbeats 4000000 in
theorem ck_115 : ∀ pc, pc < 46 → pm_chk 115 pc cX11_of (k_115 pc) = true := by decide +kernel
set_option maxRecDepth 100000 in
set_option maxHeartbeats 4000000 in
theorem ck_116 : ∀ pc, pc < 57 → pm_chk 116 pc cX11_place (k_116 pc) = true := by decide +kernel
set_option maxRecDepth 100000 in
set_option maxHeartbeats 4000000 in
theorem ck_117_0 : ∀ pc, pc < 60 → pm_chk 117 (0 + pc) cX11_make (k_117 (0 + pc)) = true := by decide +kernel
set_option maxRecDepth 100000 in
set_option maxHeartbeats 4000000 in
theorem ck_117_1 : ∀ pc, pc < 60 → pm_chk 117 (60 + pc) cX11_make (k_117 (60 + pc)) = true := by decide +kernel
set_option maxRecDepth 100000 in
set_option maxHeartbeats 4000000 in
theorem ck_117_2 : ∀ pc, pc < 40 → pm_chk 117 (120 + pc) cX11_make (k_117 (120 + pc)) = true := by decide +kernel
theorem ck_117 (pc : Nat) (h : pc < 160) : pm_chk 117 pc cX11_make (k_117 pc) = true := by
  by_cases h0 : pc < 60
  · have e := ck_117_0 (pc - 0) (by omega)
    rwa [show 0 + (pc - 0) = pc by omega] at e
  by_cases h1 : pc < 120
  · have e := ck_117_1 (pc - 60) (by omega)
    rwa [show 60 + (pc - 60) = pc by omega] at e
  have e := ck_117_2 (pc - 120) (by omega)
  rwa [show 120 + (pc - 120) = pc by omega] at e
set_option maxRecDepth 100000 in
set_option maxHeartbeats 4000000 in
theorem ck_118 : ∀ pc, pc < 20 → pm_chk 118 pc cX11_arg (k_118 pc) = true := by decide +kernel
set_option maxRecDepth 100000 in
set_option maxHeartbeats 4000000 in
theorem ck_119_0 : ∀ pc, pc < 60 → pm_chk 119 (0 + pc) cX11_call (k_119 (0 + pc)) = true := by decide +kernel
set_option maxRecDepth 100000 in
set_option maxHeartbeats 4000000 in
theorem ck_119_1 : ∀ pc, pc < 56 → pm_chk 119 (60 + pc) cX11_call (k_119 (60 + pc)) = true := by decide +kernel
theorem ck_119 (pc : Nat) (h : pc < 116) : pm_chk 119 pc cX11_call (k_119 pc) = true := by
  by_cases h0 : pc < 60
  · have e := ck_119_0 (pc - 0) (by omega)
    rwa [show 0 + (pc - 0) = pc by omega] at e
  have e := ck_119_1 (pc - 60) (by omega)
  rwa [show 60 + (pc - 60) = pc by omega] at e
set_option maxRecDepth 100000 in
set_option maxHeartbeats 4000000 in
theorem ck_120 : ∀ pc, pc < 5 → pm_chk 120 pc cX11_result (k_120 pc) = true := by decide +kernel
set_option maxRecDepth 100000 in
set_option maxHeartbeats 4000000 in
theorem ck_121 : ∀ pc, pc < 9 → pm_chk 121 pc cX11_traced (k_121 pc) = true := by decide +kernel
