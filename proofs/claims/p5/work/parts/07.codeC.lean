set_option maxRecDepth 100000 in
set_option maxHeartbeats 4000000 in
theorem ck_103_0 : ∀ pc, pc < 60 → pm_chk 103 (0 + pc) cX11_face (k_103 (0 + pc)) = true := by decide +kernel
set_option maxRecDepth 100000 in
set_option maxHeartbeats 4000000 in
theorem ck_103_1 : ∀ pc, pc < 8 → pm_chk 103 (60 + pc) cX11_face (k_103 (60 + pc)) = true := by decide +kernel
theorem ck_103 (pc : Nat) (h : pc < 68) : pm_chk 103 pc cX11_face (k_103 pc) = true := by
  by_cases h0 : pc < 60
  · have e := ck_103_0 (pc - 0) (by omega)
    rwa [show 0 + (pc - 0) = pc by omega] at e
  have e := ck_103_1 (pc - 60) (by omega)
  rwa [show 60 + (pc - 60) = pc by omega] at e
set_option maxRecDepth 100000 in
set_option maxHeartbeats 4000000 in
theorem ck_104_0 : ∀ pc, pc < 60 → pm_chk 104 (0 + pc) cX11_reference (k_104 (0 + pc)) = true := by decide +kernel
set_option maxRecDepth 100000 in
set_option maxHeartbeats 4000000 in
theorem ck_104_1 : ∀ pc, pc < 24 → pm_chk 104 (60 + pc) cX11_reference (k_104 (60 + pc)) = true := by decide +kernel
theorem ck_104 (pc : Nat) (h : pc < 84) : pm_chk 104 pc cX11_reference (k_104 pc) = true := by
  by_cases h0 : pc < 60
  · have e := ck_104_0 (pc - 0) (by omega)
    rwa [show 0 + (pc - 0) = pc by omega] at e
  have e := ck_104_1 (pc - 60) (by omega)
  rwa [show 60 + (pc - 60) = pc by omega] at e
set_option maxRecDepth 100000 in
set_option maxHeartbeats 4000000 in
theorem ck_105 : ∀ pc, pc < 38 → pm_chk 105 pc cX11_meant (k_105 pc) = true := by decide +kernel
set_option maxRecDepth 100000 in
set_option maxHeartbeats 4000000 in
theorem ck_106 : ∀ pc, pc < 41 → pm_chk 106 pc cX11_search (k_106 pc) = true := by decide +kernel
set_option maxRecDepth 100000 in
set_option maxHeartbeats 4000000 in
theorem ck_107 : ∀ pc, pc < 41 → pm_chk 107 pc cX11_phase (k_107 pc) = true := by decide +kernel
set_option maxRecDepth 100000 in
set_option maxHeartbeats 4000000 in
theorem ck_108 : ∀ pc, pc < 32 → pm_chk 108 pc cX11_exact (k_108 pc) = true := by decide +kernel
set_option maxRecDepth 100000 in
set_option maxHeartbeats 4000000 in
theorem ck_109 : ∀ pc, pc < 18 → pm_chk 109 pc cX11_isReference (k_109 pc) = true := by decide +kernel
set_option maxRecDepth 100000 in
set_option maxHeartbeats 4000000 in
theorem ck_110 : ∀ pc, pc < 18 → pm_chk 110 pc cX11_isFace (k_110 pc) = true := by decide +kernel
set_option maxRecDepth 100000 in
set_option maxHeartbeats 4000000 in
theorem ck_111_0 : ∀ pc, pc < 60 → pm_chk 111 (0 + pc) cX11_isFormOfType (k_111 (0 + pc)) = true := by decide +kernel
set_option maxRecDepth 100000 in
set_option maxHeartbeats 4000000 in
theorem ck_111_1 : ∀ pc, pc < 40 → pm_chk 111 (60 + pc) cX11_isFormOfType (k_111 (60 + pc)) = true := by decide +kernel
theorem ck_111 (pc : Nat) (h : pc < 100) : pm_chk 111 pc cX11_isFormOfType (k_111 pc) = true := by
  by_cases h0 : pc < 60
  · have e := ck_111_0 (pc - 0) (by omega)
    rwa [show 0 + (pc - 0) = pc by omega] at e
  have e := ck_111_1 (pc - 60) (by omega)
  rwa [show 60 + (pc - 60) = pc by omega] at e
set_option maxRecDepth 100000 in
set_option maxHeartbeats 4000000 in
theorem ck_112_0 : ∀ pc, pc < 60 → pm_chk 112 (0 + pc) cX11_searchRefusal (k_112 (0 + pc)) = true := by decide +kernel
set_option maxRecDepth 100000 in
set_option maxHeartbeats 4000000 in
theorem ck_112_1 : ∀ pc, pc < 51 → pm_chk 112 (60 + pc) cX11_searchRefusal (k_112 (60 + pc)) = true := by decide +kernel
theorem ck_112 (pc : Nat) (h : pc < 111) : pm_chk 112 pc cX11_searchRefusal (k_112 pc) = true := by
  by_cases h0 : pc < 60
  · have e := ck_112_0 (pc - 0) (by omega)
    rwa [show 0 + (pc - 0) = pc by omega] at e
  have e := ck_112_1 (pc - 60) (by omega)
  rwa [show 60 + (pc - 60) = pc by omega] at e
set_option maxRecDepth 100000 in
set_option maxHeartbeats 4000000 in
theorem ck_113 : ∀ pc, pc < 37 → pm_chk 113 pc cX11_thing (k_113 pc) = true := by decide +kernel
set_option maxRecDepth 100000 in
set_option maxHeartbeats 4000000 in
theorem ck_114 : ∀ pc, pc < 10 → pm_chk 114 pc cX11_box (k_114 pc) = true := by decide +kernel
set_option maxRecDepth 100000 in
set_option maxHeartbeats 4000000 in
theorem ck_115 : ∀ pc, pc < 46 → pm_chk 115 pc cX11_of (k_115 pc) = true := by decide +kernel
set_option maxRecDepth 100000 in
set_option maxHeartbeats 4000000 in
theorem ck_116 : ∀ pc, pc < 57 → pm_chk 116 pc cX11_place (k_116 pc) = true := by decide +kernel
set_option maxRecDepth 100000 in
set_option maxHeartbeats 4000000 in
theorem ck_117_0 : ∀ pc, pc < 60 → pm_chk 117 (0 + pc) cX11_make (k_117 (0 + pc)) = true := by decide +kernel
set_option maxRecDepth 100000 in
set_option maxHeartbeats 4000000 in
theorem ck_117_1 : ∀ pc, pc < 60 → pm_chk 117 (60 + pc) cX11_make (k_117 (60 + pc)) = true := by decide +kernel
set_option maxRecDepth 100000 in
set_option maxHeartbeats 4000000 in
theorem ck_117_2 : ∀ pc, pc < 40 → pm_chk 117 (120 + pc) cX11_make (k_117 (120 + pc)) = true := by decide +kernel
theorem ck_117 (pc : Nat) (h : pc < 160) : pm_chk 117 pc cX11_make (k_117 pc) = true := by
  by_cases h0 : pc < 60
  · have e := ck_117_0 (pc - 0) (by omega)
    rwa [show 0 + (pc - 0) = pc by omega] at e
  by_cases h1 : pc < 120
  · have e := ck_117_1 (pc - 60) (by omega)
    rwa [show 60 + (pc - 60) = pc by omega] at e
  have e := ck_117_2 (pc - 120) (by omega)
  rwa [show 120 + (pc - 120) = pc by omega] at e
set_option maxRecDepth 100000 in
set_option maxHeartbeats 4000000 in
theorem ck_118 : ∀ pc, pc < 20 → pm_chk 118 pc cX11_arg (k_118 pc) = true := by decide +kernel
set_option maxRecDepth 100000 in
set_option maxHeartbeats 4000000 in
theorem ck_119_0 : ∀ pc, pc < 60 → pm_chk 119 (0 + pc) cX11_call (k_119 (0 + pc)) = true := by decide +kernel
set_option maxRecDepth 100000 in
set_option maxHeartbeats 4000000 in
theorem ck_119_1 : ∀ pc, pc < 56 → pm_chk 119 (60 + pc) cX11_call (k_119 (60 + pc)) = true := by decide +kernel
theorem ck_119 (pc : Nat) (h : pc < 116) : pm_chk 119 pc cX11_call (k_119 pc) = true := by
  by_cases h0 : pc < 60
  · have e := ck_119_0 (pc - 0) (by omega)
    rwa [show 0 + (pc - 0) = pc by omega] at e
  have e := ck_119_1 (pc - 60) (by omega)
  rwa [show 60 + (pc - 60) = pc by omega] at e
set_option maxRecDepth 100000 in
set_option maxHeartbeats 4000000 in
theorem ck_120 : ∀ pc, pc < 5 → pm_chk 120 pc cX11_result (k_120 pc) = true := by decide +kernel
set_option maxRecDepth 100000 in
set_option maxHeartbeats 4000000 in
theorem ck_121 : ∀ pc, pc < 9 → pm_chk 121 pc cX11_traced (k_121 pc) = true := by decide +kernel
set_option maxRecDepth 100000 in
set_option maxHeartbeats 4000000 in
theorem ck_122_0 : ∀ pc, pc < 60 → pm_chk 122 (0 + pc) cX11_count (k_122 (0 + pc)) = true := by decide +kernel
set_option maxRecDepth 100000 in
set_option maxHeartbeats 4000000 in
theorem ck_122_1 : ∀ pc, pc < 30 → pm_chk 122 (60 + pc) cX11_count (k_122 (60 + pc)) = true := by decide +kernel
theorem ck_122 (pc : Nat) (h : pc < 90) : pm_chk 122 pc cX11_count (k_122 pc) = true := by
  by_cases h0 : pc < 60
  · have e := ck_122_0 (pc - 0) (by omega)
    rwa [show 0 + (pc - 0) = pc by omega] at e
  have e := ck_122_1 (pc - 60) (by omega)
  rwa [show 60 + (pc - 60) = pc by omega] at e
set_option maxRecDepth 100000 in
set_option maxHeartbeats 4000000 in
theorem ck_123_0 : ∀ pc, pc < 60 → pm_chk 123 (0 + pc) cX11_clear (k_123 (0 + pc)) = true := by decide +kernel
set_option maxRecDepth 100000 in
set_option maxHeartbeats 4000000 in
theorem ck_123_1 : ∀ pc, pc < 18 → pm_chk 123 (60 + pc) cX11_clear (k_123 (60 + pc)) = true := by decide +kernel
theorem ck_123 (pc : Nat) (h : pc < 78) : pm_chk 123 pc cX11_clear (k_123 pc) = true := by
  by_cases h0 : pc < 60
  · have e := ck_123_0 (pc - 0) (by omega)
    rwa [show 0 + (pc - 0) = pc by omega] at e
  have e := ck_123_1 (pc - 60) (by omega)
  rwa [show 60 + (pc - 60) = pc by omega] at e
set_option maxRecDepth 100000 in
set_option maxHeartbeats 4000000 in
theorem ck_124 : ∀ pc, pc < 40 → pm_chk 124 pc cX11_isReceiver (k_124 pc) = true := by decide +kernel
set_option maxRecDepth 100000 in
set_option maxHeartbeats 4000000 in
theorem ck_125 : ∀ pc, pc < 36 → pm_chk 125 pc cX11_isThingUnder (k_125 pc) = true := by decide +kernel
set_option maxRecDepth 100000 in
set_option maxHeartbeats 4000000 in
theorem ck_126 : ∀ pc, pc < 57 → pm_chk 126 pc cX11_doArgsSuit (k_126 pc) = true := by decide +kernel
set_option maxRecDepth 100000 in
set_option maxHeartbeats 4000000 in
theorem ck_127_0 : ∀ pc, pc < 60 → pm_chk 127 (0 + pc) cX12_init (k_127 (0 + pc)) = true := by decide +kernel
set_option maxRecDepth 100000 in
set_option maxHeartbeats 4000000 in
theorem ck_127_1 : ∀ pc, pc < 60 → pm_chk 127 (60 + pc) cX12_init (k_127 (60 + pc)) = true := by decide +kernel
set_option maxRecDepth 100000 in
set_option maxHeartbeats 4000000 in
theorem ck_127_2 : ∀ pc, pc < 60 → pm_chk 127 (120 + pc) cX12_init (k_127 (120 + pc)) = true := by decide +kernel
set_option maxRecDepth 100000 in
set_option maxHeartbeats 4000000 in
theorem ck_127_3 : ∀ pc, pc < 35 → pm_chk 127 (180 + pc) cX12_init (k_127 (180 + pc)) = true := by decide +kernel
theorem ck_127 (pc : Nat) (h : pc < 215) : pm_chk 127 pc cX12_init (k_127 pc) = true := by
  by_cases h0 : pc < 60
  · have e := ck_127_0 (pc - 0) (by omega)
    rwa [show 0 + (pc - 0) = pc by omega] at e
  by_cases h1 : pc < 120
  · have e := ck_127_1 (pc - 60) (by omega)
    rwa [show 60 + (pc - 60) = pc by omega] at e
  by_cases h2 : pc < 180
  · have e := ck_127_2 (pc - 120) (by omega)
    rwa [show 120 + (pc - 120) = pc by omega] at e
  have e := ck_127_3 (pc - 180) (by omega)
  rwa [show 180 + (pc - 180) = pc by omega] at e
set_option maxRecDepth 100000 in
set_option maxHeartbeats 4000000 in
theorem ck_128 : ∀ pc, pc < 16 → pm_chk 128 pc cX12_isIn (k_128 pc) = true := by decide +kernel
set_option maxRecDepth 100000 in
set_option maxHeartbeats 4000000 in
theorem ck_129 : ∀ pc, pc < 12 → pm_chk 129 pc cX12_isClass (k_129 pc) = true := by decide +kernel
set_option maxRecDepth 100000 in
set_option maxHeartbeats 4000000 in
theorem ck_130 : ∀ pc, pc < 19 → pm_chk 130 pc cX12_isOwn (k_130 pc) = true := by decide +kernel
set_option maxRecDepth 100000 in
set_option maxHeartbeats 4000000 in
theorem ck_131 : ∀ pc, pc < 44 → pm_chk 131 pc cX12_isPlace (k_131 pc) = true := by decide +kernel
set_option maxRecDepth 100000 in
set_option maxHeartbeats 4000000 in
theorem ck_132_0 : ∀ pc, pc < 60 → pm_chk 132 (0 + pc) cX12_isUnder (k_132 (0 + pc)) = true := by decide +kernel
set_option maxRecDepth 100000 in
set_option maxHeartbeats 4000000 in
theorem ck_132_1 : ∀ pc, pc < 25 → pm_chk 132 (60 + pc) cX12_isUnder (k_132 (60 + pc)) = true := by decide +kernel
theorem ck_132 (pc : Nat) (h : pc < 85) : pm_chk 132 pc cX12_isUnder (k_132 pc) = true := by
  by_cases h0 : pc < 60
  · have e := ck_132_0 (pc - 0) (by omega)
    rwa [show 0 + (pc - 0) = pc by omega] at e
  have e := ck_132_1 (pc - 60) (by omega)
  rwa [show 60 + (pc - 60) = pc by omega] at e
set_option maxRecDepth 100000 in
set_option maxHeartbeats 4000000 in
theorem ck_133 : ∀ pc, pc < 41 → pm_chk 133 pc cX12_isLoose (k_133 pc) = true := by decide +kernel
set_option maxRecDepth 100000 in
set_option maxHeartbeats 4000000 in
theorem ck_134 : ∀ pc, pc < 49 → pm_chk 134 pc cX12_type (k_134 pc) = true := by decide +kernel
set_option maxRecDepth 100000 in
set_option maxHeartbeats 4000000 in
theorem ck_135 : ∀ pc, pc < 45 → pm_chk 135 pc cX12_under (k_135 pc) = true := by decide +kernel
set_option maxRecDepth 100000 in
set_option maxHeartbeats 4000000 in
theorem ck_136 : ∀ pc, pc < 45 → pm_chk 136 pc cX12_loose (k_136 pc) = true := by decide +kernel
set_option maxRecDepth 100000 in
set_option maxHeartbeats 4000000 in
theorem ck_137 : ∀ pc, pc < 46 → pm_chk 137 pc cX12_tell (k_137 pc) = true := by decide +kernel
set_option maxRecDepth 100000 in
set_option maxHeartbeats 4000000 in
theorem ck_138 : ∀ pc, pc < 12 → pm_chk 138 pc cX12_untell (k_138 pc) = true := by decide +kernel
set_option maxRecDepth 100000 in
set_option maxHeartbeats 4000000 in
theorem ck_139 : ∀ pc, pc < 17 → pm_chk 139 pc cX12_isMark (k_139 pc) = true := by decide +kernel
set_option maxRecDepth 100000 in
set_option maxHeartbeats 4000000 in
theorem ck_140_0 : ∀ pc, pc < 60 → pm_chk 140 (0 + pc) cX12_isSame (k_140 (0 + pc)) = true := by decide +kernel
set_option maxRecDepth 100000 in
set_option maxHeartbeats 4000000 in
theorem ck_140_1 : ∀ pc, pc < 33 → pm_chk 140 (60 + pc) cX12_isSame (k_140 (60 + pc)) = true := by decide +kernel
theorem ck_140 (pc : Nat) (h : pc < 93) : pm_chk 140 pc cX12_isSame (k_140 pc) = true := by
  by_cases h0 : pc < 60
  · have e := ck_140_0 (pc - 0) (by omega)
    rwa [show 0 + (pc - 0) = pc by omega] at e
  have e := ck_140_1 (pc - 60) (by omega)
  rwa [show 60 + (pc - 60) = pc by omega] at e
set_option maxRecDepth 100000 in
set_option maxHeartbeats 4000000 in
theorem ck_141_0 : ∀ pc, pc < 60 → pm_chk 141 (0 + pc) cX12_isClash (k_141 (0 + pc)) = true := by decide +kernel
set_option maxRecDepth 100000 in
set_option maxHeartbeats 4000000 in
theorem ck_141_1 : ∀ pc, pc < 60 → pm_chk 141 (60 + pc) cX12_isClash (k_141 (60 + pc)) = true := by decide +kernel
set_option maxRecDepth 100000 in
set_option maxHeartbeats 4000000 in
theorem ck_141_2 : ∀ pc, pc < 60 → pm_chk 141 (120 + pc) cX12_isClash (k_141 (120 + pc)) = true := by decide +kernel
set_option maxRecDepth 100000 in
set_option maxHeartbeats 4000000 in
theorem ck_141_3 : ∀ pc, pc < 1 → pm_chk 141 (180 + pc) cX12_isClash (k_141 (180 + pc)) = true := by decide +kernel
theorem ck_141 (pc : Nat) (h : pc < 181) : pm_chk 141 pc cX12_isClash (k_141 pc) = true := by
  by_cases h0 : pc < 60
  · have e := ck_141_0 (pc - 0) (by omega)
    rwa [show 0 + (pc - 0) = pc by omega] at e
  by_cases h1 : pc < 120
  · have e := ck_141_1 (pc - 60) (by omega)
    rwa [show 60 + (pc - 60) = pc by omega] at e
  by_cases h2 : pc < 180
  · have e := ck_141_2 (pc - 120) (by omega)
    rwa [show 120 + (pc - 120) = pc by omega] at e
  have e := ck_141_3 (pc - 180) (by omega)
  rwa [show 180 + (pc - 180) = pc by omega] at e
set_option maxRecDepth 100000 in
set_option maxHeartbeats 4000000 in
theorem ck_142_0 : ∀ pc, pc < 60 → pm_chk 142 (0 + pc) cX12_member (k_142 (0 + pc)) = true := by decide +kernel
set_option maxRecDepth 100000 in
set_option maxHeartbeats 4000000 in
theorem ck_142_1 : ∀ pc, pc < 60 → pm_chk 142 (60 + pc) cX12_member (k_142 (60 + pc)) = true := by decide +kernel
set_option maxRecDepth 100000 in
set_option maxHeartbeats 4000000 in
theorem ck_142_2 : ∀ pc, pc < 60 → pm_chk 142 (120 + pc) cX12_member (k_142 (120 + pc)) = true := by decide +kernel
set_option maxRecDepth 100000 in
set_option maxHeartbeats 4000000 in
theorem ck_142_3 : ∀ pc, pc < 60 → pm_chk 142 (180 + pc) cX12_member (k_142 (180 + pc)) = true := by decide +kernel
set_option maxRecDepth 100000 in
set_option maxHeartbeats 4000000 in
theorem ck_142_4 : ∀ pc, pc < 60 → pm_chk 142 (240 + pc) cX12_member (k_142 (240 + pc)) = true := by decide +kernel
set_option maxRecDepth 100000 in
set_option maxHeartbeats 4000000 in
theorem ck_142_5 : ∀ pc, pc < 7 → pm_chk 142 (300 + pc) cX12_member (k_142 (300 + pc)) = true := by decide +kernel
theorem ck_142 (pc : Nat) (h : pc < 307) : pm_chk 142 pc cX12_member (k_142 pc) = true := by
  by_cases h0 : pc < 60
  · have e := ck_142_0 (pc - 0) (by omega)
    rwa [show 0 + (pc - 0) = pc by omega] at e
  by_cases h1 : pc < 120
  · have e := ck_142_1 (pc - 60) (by omega)
    rwa [show 60 + (pc - 60) = pc by omega] at e
  by_cases h2 : pc < 180
  · have e := ck_142_2 (pc - 120) (by omega)
    rwa [show 120 + (pc - 120) = pc by omega] at e
  by_cases h3 : pc < 240
  · have e := ck_142_3 (pc - 180) (by omega)
    rwa [show 180 + (pc - 180) = pc by omega] at e
  by_cases h4 : pc < 300
  · have e := ck_142_4 (pc - 240) (by omega)
    rwa [show 240 + (pc - 240) = pc by omega] at e
  have e := ck_142_5 (pc - 300) (by omega)
  rwa [show 300 + (pc - 300) = pc by omega] at e
set_option maxRecDepth 100000 in
set_option maxHeartbeats 4000000 in
theorem ck_143_0 : ∀ pc, pc < 60 → pm_chk 143 (0 + pc) cX12_isHad (k_143 (0 + pc)) = true := by decide +kernel
set_option maxRecDepth 100000 in
set_option maxHeartbeats 4000000 in
theorem ck_143_1 : ∀ pc, pc < 60 → pm_chk 143 (60 + pc) cX12_isHad (k_143 (60 + pc)) = true := by decide +kernel
set_option maxRecDepth 100000 in
set_option maxHeartbeats 4000000 in
theorem ck_143_2 : ∀ pc, pc < 34 → pm_chk 143 (120 + pc) cX12_isHad (k_143 (120 + pc)) = true := by decide +kernel
theorem ck_143 (pc : Nat) (h : pc < 154) : pm_chk 143 pc cX12_isHad (k_143 pc) = true := by
  by_cases h0 : pc < 60
  · have e := ck_143_0 (pc - 0) (by omega)
    rwa [show 0 + (pc - 0) = pc by omega] at e
  by_cases h1 : pc < 120
  · have e := ck_143_1 (pc - 60) (by omega)
    rwa [show 60 + (pc - 60) = pc by omega] at e
  have e := ck_143_2 (pc - 120) (by omega)
  rwa [show 120 + (pc - 120) = pc by omega] at e
set_option maxRecDepth 100000 in
set_option maxHeartbeats 4000000 in
theorem ck_144 : ∀ pc, pc < 54 → pm_chk 144 pc cX12_has (k_144 pc) = true := by decide +kernel
set_option maxRecDepth 100000 in
set_option maxHeartbeats 4000000 in
theorem ck_145 : ∀ pc, pc < 48 → pm_chk 145 pc cX12_isOpen (k_145 pc) = true := by decide +kernel
set_option maxRecDepth 100000 in
set_option maxHeartbeats 4000000 in
theorem ck_146 : ∀ pc, pc < 26 → pm_chk 146 pc cX12_open (k_146 pc) = true := by decide +kernel
set_option maxRecDepth 100000 in
set_option maxHeartbeats 4000000 in
theorem ck_147 : ∀ pc, pc < 58 → pm_chk 147 pc cX12_placeOf (k_147 pc) = true := by decide +kernel
set_option maxRecDepth 100000 in
set_option maxHeartbeats 4000000 in
theorem ck_148_0 : ∀ pc, pc < 60 → pm_chk 148 (0 + pc) cX12_takes (k_148 (0 + pc)) = true := by decide +kernel
set_option maxRecDepth 100000 in
set_option maxHeartbeats 4000000 in
theorem ck_148_1 : ∀ pc, pc < 60 → pm_chk 148 (60 + pc) cX12_takes (k_148 (60 + pc)) = true := by decide +kernel
set_option maxRecDepth 100000 in
set_option maxHeartbeats 4000000 in
theorem ck_148_2 : ∀ pc, pc < 37 → pm_chk 148 (120 + pc) cX12_takes (k_148 (120 + pc)) = true := by decide +kernel
theorem ck_148 (pc : Nat) (h : pc < 157) : pm_chk 148 pc cX12_takes (k_148 pc) = true := by
  by_cases h0 : pc < 60
  · have e := ck_148_0 (pc - 0) (by omega)
    rwa [show 0 + (pc - 0) = pc by omega] at e
  by_cases h1 : pc < 120
  · have e := ck_148_1 (pc - 60) (by omega)
    rwa [show 60 + (pc - 60) = pc by omega] at e
  have e := ck_148_2 (pc - 120) (by omega)
  rwa [show 120 + (pc - 120) = pc by omega] at e
set_option maxRecDepth 100000 in
set_option maxHeartbeats 4000000 in
theorem ck_149_0 : ∀ pc, pc < 60 → pm_chk 149 (0 + pc) cX12_isSpecial (k_149 (0 + pc)) = true := by decide +kernel
set_option maxRecDepth 100000 in
set_option maxHeartbeats 4000000 in
theorem ck_149_1 : ∀ pc, pc < 60 → pm_chk 149 (60 + pc) cX12_isSpecial (k_149 (60 + pc)) = true := by decide +kernel
set_option maxRecDepth 100000 in
set_option maxHeartbeats 4000000 in
theorem ck_149_2 : ∀ pc, pc < 60 → pm_chk 149 (120 + pc) cX12_isSpecial (k_149 (120 + pc)) = true := by decide +kernel
set_option maxRecDepth 100000 in
set_option maxHeartbeats 4000000 in
theorem ck_149_3 : ∀ pc, pc < 13 → pm_chk 149 (180 + pc) cX12_isSpecial (k_149 (180 + pc)) = true := by decide +kernel
theorem ck_149 (pc : Nat) (h : pc < 193) : pm_chk 149 pc cX12_isSpecial (k_149 pc) = true := by
  by_cases h0 : pc < 60
  · have e := ck_149_0 (pc - 0) (by omega)
    rwa [show 0 + (pc - 0) = pc by omega] at e
  by_cases h1 : pc < 120
  · have e := ck_149_1 (pc - 60) (by omega)
    rwa [show 60 + (pc - 60) = pc by omega] at e
  by_cases h2 : pc < 180
  · have e := ck_149_2 (pc - 120) (by omega)
    rwa [show 120 + (pc - 120) = pc by omega] at e
  have e := ck_149_3 (pc - 180) (by omega)
  rwa [show 180 + (pc - 180) = pc by omega] at e
set_option maxRecDepth 100000 in
set_option maxHeartbeats 4000000 in
theorem ck_150_0 : ∀ pc, pc < 60 → pm_chk 150 (0 + pc) cX12_searched (k_150 (0 + pc)) = true := by decide +kernel
set_option maxRecDepth 100000 in
set_option maxHeartbeats 4000000 in
theorem ck_150_1 : ∀ pc, pc < 60 → pm_chk 150 (60 + pc) cX12_searched (k_150 (60 + pc)) = true := by decide +kernel
set_option maxRecDepth 100000 in
set_option maxHeartbeats 4000000 in
theorem ck_150_2 : ∀ pc, pc < 60 → pm_chk 150 (120 + pc) cX12_searched (k_150 (120 + pc)) = true := by decide +kernel
set_option maxRecDepth 100000 in
set_option maxHeartbeats 4000000 in
theorem ck_150_3 : ∀ pc, pc < 36 → pm_chk 150 (180 + pc) cX12_searched (k_150 (180 + pc)) = true := by decide +kernel
