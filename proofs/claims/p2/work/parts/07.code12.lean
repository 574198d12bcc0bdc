set_option maxRecDepth 100000 in
set_option maxHeartbeats 4000000 in
theorem ck_103_0 : ∀ pc, pc < 60 → pm_chk 103 (0 + pc) cX11_face (k_103 (0 + pc)) = true := by decide +kernel
set_option maxRecDepth 100000 in
set_option maxHeartbeats 4000000 in
theorem ck_103_1 : ∀ pc, pc < 8 → pm_chk 103 (60 + pc) cX11_face (k_103 (60 + pc)) = true := by decide +kernel
theorem ck_103 (pc : Nat) (h : pc < 68) : pm_chk 103 pc cX11_face (k_103 pc) = true := by
  by_cases h0 : pc < 60
  · have e := ck_103_0 (pc - 0) (by omega)
    rwa [show 0 + (pc - 0) = pc by omega] at e
  have e := ck_103_1 (pc - 60) (by omega)
  rwa [show 60 + (pc - 60) = pc by omega] at e
set_option maxRecDepth 100000 in
set_option maxHeartbeats 4000000 in
theorem ck_104_0 : ∀ pc, pc < 60 → pm_chk 104 (0 + pc) cX11_reference (k_104 (0 + pc)) = true := by decide +kernel
set_option maxRecDepth 100000 in
set_option maxHeartbeats 4000000 in
theorem ck_104_1 : ∀ pc, pc < 24 → pm_chk 104 (60 + pc) cX11_reference (k_104 (60 + pc)) = true := by decide +kernel
theorem ck_104 (pc : Nat) (h : pc < 84) : pm_chk 104 pc cX11_reference (k_104 pc) = true := by
  by_cases h0 : pc < 60
  · have e := ck_104_0 (pc - 0) (by omega)
    rwa [show 0 + (pc - 0) = pc by omega] at e
  have e := ck_104_1 (pc - 60) (by omega)
  rwa [show 60 + (pc - 60) = pc by omega] at e
set_option maxRecDepth 100000 in
set_option maxHeartbeats 4000000 in
theorem ck_105 : ∀ pc, pc < 38 → pm_chk 105 pc cX11_meant (k_105 pc) = true := by decide +kernel
set_option maxRecDepth 100000 in
set_option maxHeartbeats 4000000 in
theorem ck_106 : ∀ pc, pc < 41 → pm_chk 106 pc cX11_search (k_106 pc) = true := by decide +kernel
set_option maxRecDepth 100000 in
set_option maxHeartbeats 4000000 in
theorem ck_107 : ∀ pc, pc < 41 → pm_chk 107 pc cX11_phase (k_107 pc) = true := by decide +kernel
set_option maxRecDepth 100000 in
set_option maxHeartbeats 4000000 in
theorem ck_108 : ∀ pc, pc < 32 → pm_chk 108 pc cX11_exact (k_108 pc) = true := by decide +kernel
set_option maxRecDepth 100000 in
set_option maxHeartbeats 4000000 in
theorem ck_109 : ∀ pc, pc < 18 → pm_chk 109 pc cX11_isReference (k_109 pc) = true := by decide +kernel
set_option maxRecDepth 100000 in
set_option maxHeartbeats 4000000 in
theorem ck_110 : ∀ pc, pc < 18 → pm_chk 110 pc cX11_isFace (k_110 pc) = true := by decide +kernel
set_option maxRecDepth 100000 in
set_option maxHeartbeats 4000000 in
theorem ck_111_0 : ∀ pc, pc < 60 → pm_chk 111 (0 + pc) cX11_isFormOfType (k_111 (0 + pc)) = true := by decide +kernel
set_option maxRecDepth 100000 in
set_option maxHeartbeats 4000000 in
theorem ck_111_1 : ∀ pc, pc < 40 → pm_chk 111 (60 + pc) cX11_isFormOfType (k_111 (60 + pc)) = true := by decide +kernel
theorem ck_111 (pc : Nat) (h : pc < 100) : pm_chk 111 pc cX11_isFormOfType (k_111 pc) = true := by
  by_cases h0 : pc < 60
  · have e := ck_111_0 (pc - 0) (by omega)
    rwa [show 0 + (pc - 0) = pc by omega] at e
  have e := ck_111_1 (pc - 60) (by omega)
  rwa [show 60 + (pc - 60) = pc by omega] at e
set_option maxRecDepth 100000 in
set_option maxHeartbeats 4000000 in
theorem ck_112_0 : ∀ pc, pc < 60 → pm_chk 112 (0 + pc) cX11_searchRefusal (k_112 (0 + pc)) = true := by decide +kernel
