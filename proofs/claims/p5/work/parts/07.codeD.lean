theorem ck_150 (pc : Nat) (h : pc < 216) : pm_chk 150 pc cX12_searched (k_150 pc) = true := by
  by_cases h0 : pc < 60
  · have e := ck_150_0 (pc - 0) (by omega)
    rwa [show 0 + (pc - 0) = pc by omega] at e
  by_cases h1 : pc < 120
  · have e := ck_150_1 (pc - 60) (by omega)
    rwa [show 60 + (pc - 60) = pc by omega] at e
  by_cases h2 : pc < 180
  · have e := ck_150_2 (pc - 120) (by omega)
    rwa [show 120 + (pc - 120) = pc by omega] at e
  have e := ck_150_3 (pc - 180) (by omega)
  rwa [show 180 + (pc - 180) = pc by omega] at e
set_option maxRecDepth 100000 in
set_option maxHeartbeats 4000000 in
theorem ck_151 : ∀ pc, pc < 32 → pm_chk 151 pc cX12_nothingFits (k_151 pc) = true := by decide +kernel
set_option maxRecDepth 100000 in
set_option maxHeartbeats 4000000 in
theorem ck_152 : ∀ pc, pc < 41 → pm_chk 152 pc cX12_secondSearched (k_152 pc) = true := by decide +kernel
set_option maxRecDepth 100000 in
set_option maxHeartbeats 4000000 in
theorem ck_153 : ∀ pc, pc < 46 → pm_chk 153 pc cX12_statics (k_153 pc) = true := by decide +kernel
set_option maxRecDepth 100000 in
set_option maxHeartbeats 4000000 in
theorem ck_154 : ∀ pc, pc < 49 → pm_chk 154 pc cX12_makers (k_154 pc) = true := by decide +kernel
set_option maxRecDepth 100000 in
set_option maxHeartbeats 4000000 in
theorem ck_155_0 : ∀ pc, pc < 60 → pm_chk 155 (0 + pc) cX12_ofBoth (k_155 (0 + pc)) = true := by decide +kernel
set_option maxRecDepth 100000 in
set_option maxHeartbeats 4000000 in
theorem ck_155_1 : ∀ pc, pc < 60 → pm_chk 155 (60 + pc) cX12_ofBoth (k_155 (60 + pc)) = true := by decide +kernel
set_option maxRecDepth 100000 in
set_option maxHeartbeats 4000000 in
theorem ck_155_2 : ∀ pc, pc < 27 → pm_chk 155 (120 + pc) cX12_ofBoth (k_155 (120 + pc)) = true := by decide +kernel
theorem ck_155 (pc : Nat) (h : pc < 147) : pm_chk 155 pc cX12_ofBoth (k_155 pc) = true := by
  by_cases h0 : pc < 60
  · have e := ck_155_0 (pc - 0) (by omega)
    rwa [show 0 + (pc - 0) = pc by omega] at e
  by_cases h1 : pc < 120
  · have e := ck_155_1 (pc - 60) (by omega)
    rwa [show 60 + (pc - 60) = pc by omega] at e
  have e := ck_155_2 (pc - 120) (by omega)
  rwa [show 120 + (pc - 120) = pc by omega] at e
set_option maxRecDepth 100000 in
set_option maxHeartbeats 4000000 in
theorem ck_156 : ∀ pc, pc < 45 → pm_chk 156 pc cX12_ofOne (k_156 pc) = true := by decide +kernel
set_option maxRecDepth 100000 in
set_option maxHeartbeats 4000000 in
theorem ck_157_0 : ∀ pc, pc < 60 → pm_chk 157 (0 + pc) cX12_means (k_157 (0 + pc)) = true := by decide +kernel
set_option maxRecDepth 100000 in
set_option maxHeartbeats 4000000 in
theorem ck_157_1 : ∀ pc, pc < 60 → pm_chk 157 (60 + pc) cX12_means (k_157 (60 + pc)) = true := by decide +kernel
set_option maxRecDepth 100000 in
set_option maxHeartbeats 4000000 in
theorem ck_157_2 : ∀ pc, pc < 60 → pm_chk 157 (120 + pc) cX12_means (k_157 (120 + pc)) = true := by decide +kernel
set_option maxRecDepth 100000 in
set_option maxHeartbeats 4000000 in
theorem ck_157_3 : ∀ pc, pc < 60 → pm_chk 157 (180 + pc) cX12_means (k_157 (180 + pc)) = true := by decide +kernel
theorem ck_157 (pc : Nat) (h : pc < 240) : pm_chk 157 pc cX12_means (k_157 pc) = true := by
  by_cases h0 : pc < 60
  · have e := ck_157_0 (pc - 0) (by omega)
    rwa [show 0 + (pc - 0) = pc by omega] at e
  by_cases h1 : pc < 120
  · have e := ck_157_1 (pc - 60) (by omega)
    rwa [show 60 + (pc - 60) = pc by omega] at e
  by_cases h2 : pc < 180
  · have e := ck_157_2 (pc - 120) (by omega)
    rwa [show 120 + (pc - 120) = pc by omega] at e
  have e := ck_157_3 (pc - 180) (by omega)
  rwa [show 180 + (pc - 180) = pc by omega] at e
set_option maxRecDepth 100000 in
set_option maxHeartbeats 4000000 in
theorem ck_158 : ∀ pc, pc < 56 → pm_chk 158 pc cX12_comes (k_158 pc) = true := by decide +kernel
set_option maxRecDepth 100000 in
set_option maxHeartbeats 4000000 in
theorem ck_159 : ∀ pc, pc < 48 → pm_chk 159 pc cX12_wholeMeaning (k_159 pc) = true := by decide +kernel
set_option maxRecDepth 100000 in
set_option maxHeartbeats 4000000 in
theorem ck_160 : ∀ pc, pc < 12 → pm_chk 160 pc cX12_isReference (k_160 pc) = true := by decide +kernel
set_option maxRecDepth 100000 in
set_option maxHeartbeats 4000000 in
theorem ck_161 : ∀ pc, pc < 12 → pm_chk 161 pc cX12_isFace (k_161 pc) = true := by decide +kernel
set_option maxRecDepth 100000 in
set_option maxHeartbeats 4000000 in
theorem ck_162_0 : ∀ pc, pc < 60 → pm_chk 162 (0 + pc) cX12_face (k_162 (0 + pc)) = true := by decide +kernel
set_option maxRecDepth 100000 in
set_option maxHeartbeats 4000000 in
theorem ck_162_1 : ∀ pc, pc < 48 → pm_chk 162 (60 + pc) cX12_face (k_162 (60 + pc)) = true := by decide +kernel
theorem ck_162 (pc : Nat) (h : pc < 108) : pm_chk 162 pc cX12_face (k_162 pc) = true := by
  by_cases h0 : pc < 60
  · have e := ck_162_0 (pc - 0) (by omega)
    rwa [show 0 + (pc - 0) = pc by omega] at e
  have e := ck_162_1 (pc - 60) (by omega)
  rwa [show 60 + (pc - 60) = pc by omega] at e
set_option maxRecDepth 100000 in
set_option maxHeartbeats 4000000 in
theorem ck_163_0 : ∀ pc, pc < 60 → pm_chk 163 (0 + pc) cX12_reference (k_163 (0 + pc)) = true := by decide +kernel
set_option maxRecDepth 100000 in
set_option maxHeartbeats 4000000 in
theorem ck_163_1 : ∀ pc, pc < 60 → pm_chk 163 (60 + pc) cX12_reference (k_163 (60 + pc)) = true := by decide +kernel
set_option maxRecDepth 100000 in
set_option maxHeartbeats 4000000 in
theorem ck_163_2 : ∀ pc, pc < 43 → pm_chk 163 (120 + pc) cX12_reference (k_163 (120 + pc)) = true := by decide +kernel
theorem ck_163 (pc : Nat) (h : pc < 163) : pm_chk 163 pc cX12_reference (k_163 pc) = true := by
  by_cases h0 : pc < 60
  · have e := ck_163_0 (pc - 0) (by omega)
    rwa [show 0 + (pc - 0) = pc by omega] at e
  by_cases h1 : pc < 120
  · have e := ck_163_1 (pc - 60) (by omega)
    rwa [show 60 + (pc - 60) = pc by omega] at e
  have e := ck_163_2 (pc - 120) (by omega)
  rwa [show 120 + (pc - 120) = pc by omega] at e
set_option maxRecDepth 100000 in
set_option maxHeartbeats 4000000 in
theorem ck_164 : ∀ pc, pc < 27 → pm_chk 164 pc cX12_meant (k_164 pc) = true := by decide +kernel
set_option maxRecDepth 100000 in
set_option maxHeartbeats 4000000 in
theorem ck_165_0 : ∀ pc, pc < 60 → pm_chk 165 (0 + pc) cX12_looked (k_165 (0 + pc)) = true := by decide +kernel
set_option maxRecDepth 100000 in
set_option maxHeartbeats 4000000 in
theorem ck_165_1 : ∀ pc, pc < 60 → pm_chk 165 (60 + pc) cX12_looked (k_165 (60 + pc)) = true := by decide +kernel
set_option maxRecDepth 100000 in
set_option maxHeartbeats 4000000 in
theorem ck_165_2 : ∀ pc, pc < 38 → pm_chk 165 (120 + pc) cX12_looked (k_165 (120 + pc)) = true := by decide +kernel
theorem ck_165 (pc : Nat) (h : pc < 158) : pm_chk 165 pc cX12_looked (k_165 pc) = true := by
  by_cases h0 : pc < 60
  · have e := ck_165_0 (pc - 0) (by omega)
    rwa [show 0 + (pc - 0) = pc by omega] at e
  by_cases h1 : pc < 120
  · have e := ck_165_1 (pc - 60) (by omega)
    rwa [show 60 + (pc - 60) = pc by omega] at e
  have e := ck_165_2 (pc - 120) (by omega)
  rwa [show 120 + (pc - 120) = pc by omega] at e
set_option maxRecDepth 100000 in
set_option maxHeartbeats 4000000 in
theorem ck_166 : ∀ pc, pc < 8 → pm_chk 166 pc cX12_search (k_166 pc) = true := by decide +kernel
set_option maxRecDepth 100000 in
set_option maxHeartbeats 4000000 in
theorem ck_167 : ∀ pc, pc < 32 → pm_chk 167 pc cX12_phase (k_167 pc) = true := by decide +kernel
set_option maxRecDepth 100000 in
set_option maxHeartbeats 4000000 in
theorem ck_168_0 : ∀ pc, pc < 60 → pm_chk 168 (0 + pc) cX12_exact (k_168 (0 + pc)) = true := by decide +kernel
set_option maxRecDepth 100000 in
set_option maxHeartbeats 4000000 in
theorem ck_168_1 : ∀ pc, pc < 60 → pm_chk 168 (60 + pc) cX12_exact (k_168 (60 + pc)) = true := by decide +kernel
set_option maxRecDepth 100000 in
set_option maxHeartbeats 4000000 in
theorem ck_168_2 : ∀ pc, pc < 60 → pm_chk 168 (120 + pc) cX12_exact (k_168 (120 + pc)) = true := by decide +kernel
set_option maxRecDepth 100000 in
set_option maxHeartbeats 4000000 in
theorem ck_168_3 : ∀ pc, pc < 35 → pm_chk 168 (180 + pc) cX12_exact (k_168 (180 + pc)) = true := by decide +kernel
theorem ck_168 (pc : Nat) (h : pc < 215) : pm_chk 168 pc cX12_exact (k_168 pc) = true := by
  by_cases h0 : pc < 60
  · have e := ck_168_0 (pc - 0) (by omega)
    rwa [show 0 + (pc - 0) = pc by omega] at e
  by_cases h1 : pc < 120
  · have e := ck_168_1 (pc - 60) (by omega)
    rwa [show 60 + (pc - 60) = pc by omega] at e
  by_cases h2 : pc < 180
  · have e := ck_168_2 (pc - 120) (by omega)
    rwa [show 120 + (pc - 120) = pc by omega] at e
  have e := ck_168_3 (pc - 180) (by omega)
  rwa [show 180 + (pc - 180) = pc by omega] at e
set_option maxRecDepth 100000 in
set_option maxHeartbeats 4000000 in
theorem ck_169_0 : ∀ pc, pc < 60 → pm_chk 169 (0 + pc) cX12_made (k_169 (0 + pc)) = true := by decide +kernel
set_option maxRecDepth 100000 in
set_option maxHeartbeats 4000000 in
theorem ck_169_1 : ∀ pc, pc < 30 → pm_chk 169 (60 + pc) cX12_made (k_169 (60 + pc)) = true := by decide +kernel
theorem ck_169 (pc : Nat) (h : pc < 90) : pm_chk 169 pc cX12_made (k_169 pc) = true := by
  by_cases h0 : pc < 60
  · have e := ck_169_0 (pc - 0) (by omega)
    rwa [show 0 + (pc - 0) = pc by omega] at e
  have e := ck_169_1 (pc - 60) (by omega)
  rwa [show 60 + (pc - 60) = pc by omega] at e
set_option maxRecDepth 100000 in
set_option maxHeartbeats 4000000 in
theorem ck_170 : ∀ pc, pc < 10 → pm_chk 170 pc cX12_isThing (k_170 pc) = true := by decide +kernel
set_option maxRecDepth 100000 in
set_option maxHeartbeats 4000000 in
theorem ck_171 : ∀ pc, pc < 49 → pm_chk 171 pc cX12_thing (k_171 pc) = true := by decide +kernel
set_option maxRecDepth 100000 in
set_option maxHeartbeats 4000000 in
theorem ck_172 : ∀ pc, pc < 28 → pm_chk 172 pc cX12_box (k_172 pc) = true := by decide +kernel
set_option maxRecDepth 100000 in
set_option maxHeartbeats 4000000 in
theorem ck_173 : ∀ pc, pc < 39 → pm_chk 173 pc cX12_of (k_173 pc) = true := by decide +kernel
set_option maxRecDepth 100000 in
set_option maxHeartbeats 4000000 in
theorem ck_174 : ∀ pc, pc < 51 → pm_chk 174 pc cX12_place (k_174 pc) = true := by decide +kernel
set_option maxRecDepth 100000 in
set_option maxHeartbeats 4000000 in
theorem ck_175 : ∀ pc, pc < 32 → pm_chk 175 pc cX12_isGiven (k_175 pc) = true := by decide +kernel
set_option maxRecDepth 100000 in
set_option maxHeartbeats 4000000 in
theorem ck_176_0 : ∀ pc, pc < 60 → pm_chk 176 (0 + pc) cX12_make (k_176 (0 + pc)) = true := by decide +kernel
set_option maxRecDepth 100000 in
set_option maxHeartbeats 4000000 in
theorem ck_176_1 : ∀ pc, pc < 60 → pm_chk 176 (60 + pc) cX12_make (k_176 (60 + pc)) = true := by decide +kernel
set_option maxRecDepth 100000 in
set_option maxHeartbeats 4000000 in
theorem ck_176_2 : ∀ pc, pc < 43 → pm_chk 176 (120 + pc) cX12_make (k_176 (120 + pc)) = true := by decide +kernel
theorem ck_176 (pc : Nat) (h : pc < 163) : pm_chk 176 pc cX12_make (k_176 pc) = true := by
  by_cases h0 : pc < 60
  · have e := ck_176_0 (pc - 0) (by omega)
    rwa [show 0 + (pc - 0) = pc by omega] at e
  by_cases h1 : pc < 120
  · have e := ck_176_1 (pc - 60) (by omega)
    rwa [show 60 + (pc - 60) = pc by omega] at e
  have e := ck_176_2 (pc - 120) (by omega)
  rwa [show 120 + (pc - 120) = pc by omega] at e
set_option maxRecDepth 100000 in
set_option maxHeartbeats 4000000 in
theorem ck_177 : ∀ pc, pc < 20 → pm_chk 177 pc cX12_arg (k_177 pc) = true := by decide +kernel
set_option maxRecDepth 100000 in
set_option maxHeartbeats 4000000 in
theorem ck_178_0 : ∀ pc, pc < 60 → pm_chk 178 (0 + pc) cX12_turned (k_178 (0 + pc)) = true := by decide +kernel
set_option maxRecDepth 100000 in
set_option maxHeartbeats 4000000 in
theorem ck_178_1 : ∀ pc, pc < 15 → pm_chk 178 (60 + pc) cX12_turned (k_178 (60 + pc)) = true := by decide +kernel
theorem ck_178 (pc : Nat) (h : pc < 75) : pm_chk 178 pc cX12_turned (k_178 pc) = true := by
  by_cases h0 : pc < 60
  · have e := ck_178_0 (pc - 0) (by omega)
    rwa [show 0 + (pc - 0) = pc by omega] at e
  have e := ck_178_1 (pc - 60) (by omega)
  rwa [show 60 + (pc - 60) = pc by omega] at e
set_option maxRecDepth 100000 in
set_option maxHeartbeats 4000000 in
theorem ck_179_0 : ∀ pc, pc < 60 → pm_chk 179 (0 + pc) cX12_give (k_179 (0 + pc)) = true := by decide +kernel
set_option maxRecDepth 100000 in
set_option maxHeartbeats 4000000 in
theorem ck_179_1 : ∀ pc, pc < 60 → pm_chk 179 (60 + pc) cX12_give (k_179 (60 + pc)) = true := by decide +kernel
set_option maxRecDepth 100000 in
set_option maxHeartbeats 4000000 in
theorem ck_179_2 : ∀ pc, pc < 60 → pm_chk 179 (120 + pc) cX12_give (k_179 (120 + pc)) = true := by decide +kernel
set_option maxRecDepth 100000 in
set_option maxHeartbeats 4000000 in
theorem ck_179_3 : ∀ pc, pc < 30 → pm_chk 179 (180 + pc) cX12_give (k_179 (180 + pc)) = true := by decide +kernel
theorem ck_179 (pc : Nat) (h : pc < 210) : pm_chk 179 pc cX12_give (k_179 pc) = true := by
  by_cases h0 : pc < 60
  · have e := ck_179_0 (pc - 0) (by omega)
    rwa [show 0 + (pc - 0) = pc by omega] at e
  by_cases h1 : pc < 120
  · have e := ck_179_1 (pc - 60) (by omega)
    rwa [show 60 + (pc - 60) = pc by omega] at e
  by_cases h2 : pc < 180
  · have e := ck_179_2 (pc - 120) (by omega)
    rwa [show 120 + (pc - 120) = pc by omega] at e
  have e := ck_179_3 (pc - 180) (by omega)
  rwa [show 180 + (pc - 180) = pc by omega] at e
set_option maxRecDepth 100000 in
set_option maxHeartbeats 4000000 in
theorem ck_180_0 : ∀ pc, pc < 60 → pm_chk 180 (0 + pc) cX12_sumOf (k_180 (0 + pc)) = true := by decide +kernel
set_option maxRecDepth 100000 in
set_option maxHeartbeats 4000000 in
theorem ck_180_1 : ∀ pc, pc < 60 → pm_chk 180 (60 + pc) cX12_sumOf (k_180 (60 + pc)) = true := by decide +kernel
set_option maxRecDepth 100000 in
set_option maxHeartbeats 4000000 in
theorem ck_180_2 : ∀ pc, pc < 48 → pm_chk 180 (120 + pc) cX12_sumOf (k_180 (120 + pc)) = true := by decide +kernel
theorem ck_180 (pc : Nat) (h : pc < 168) : pm_chk 180 pc cX12_sumOf (k_180 pc) = true := by
  by_cases h0 : pc < 60
  · have e := ck_180_0 (pc - 0) (by omega)
    rwa [show 0 + (pc - 0) = pc by omega] at e
  by_cases h1 : pc < 120
  · have e := ck_180_1 (pc - 60) (by omega)
    rwa [show 60 + (pc - 60) = pc by omega] at e
  have e := ck_180_2 (pc - 120) (by omega)
  rwa [show 120 + (pc - 120) = pc by omega] at e
set_option maxRecDepth 100000 in
set_option maxHeartbeats 4000000 in
theorem ck_181_0 : ∀ pc, pc < 60 → pm_chk 181 (0 + pc) cX12_gives (k_181 (0 + pc)) = true := by decide +kernel
set_option maxRecDepth 100000 in
set_option maxHeartbeats 4000000 in
theorem ck_181_1 : ∀ pc, pc < 40 → pm_chk 181 (60 + pc) cX12_gives (k_181 (60 + pc)) = true := by decide +kernel
theorem ck_181 (pc : Nat) (h : pc < 100) : pm_chk 181 pc cX12_gives (k_181 pc) = true := by
  by_cases h0 : pc < 60
  · have e := ck_181_0 (pc - 0) (by omega)
    rwa [show 0 + (pc - 0) = pc by omega] at e
  have e := ck_181_1 (pc - 60) (by omega)
  rwa [show 60 + (pc - 60) = pc by omega] at e
set_option maxRecDepth 100000 in
set_option maxHeartbeats 4000000 in
theorem ck_182_0 : ∀ pc, pc < 60 → pm_chk 182 (0 + pc) cX12_remember (k_182 (0 + pc)) = true := by decide +kernel
set_option maxRecDepth 100000 in
set_option maxHeartbeats 4000000 in
theorem ck_182_1 : ∀ pc, pc < 8 → pm_chk 182 (60 + pc) cX12_remember (k_182 (60 + pc)) = true := by decide +kernel
theorem ck_182 (pc : Nat) (h : pc < 68) : pm_chk 182 pc cX12_remember (k_182 pc) = true := by
  by_cases h0 : pc < 60
  · have e := ck_182_0 (pc - 0) (by omega)
    rwa [show 0 + (pc - 0) = pc by omega] at e
  have e := ck_182_1 (pc - 60) (by omega)
  rwa [show 60 + (pc - 60) = pc by omega] at e
set_option maxRecDepth 100000 in
set_option maxHeartbeats 4000000 in
theorem ck_183 : ∀ pc, pc < 50 → pm_chk 183 pc cX12_chosen (k_183 pc) = true := by decide +kernel
set_option maxRecDepth 100000 in
set_option maxHeartbeats 4000000 in
theorem ck_184 : ∀ pc, pc < 60 → pm_chk 184 pc cX12_sized (k_184 pc) = true := by decide +kernel
set_option maxRecDepth 100000 in
set_option maxHeartbeats 4000000 in
theorem ck_185_0 : ∀ pc, pc < 40 → pm_chk 185 (0 + pc) cX12_call (k_185 (0 + pc)) = true := by decide +kernel
set_option maxRecDepth 100000 in
set_option maxHeartbeats 4000000 in
theorem ck_185_1 : ∀ pc, pc < 40 → pm_chk 185 (40 + pc) cX12_call (k_185 (40 + pc)) = true := by decide +kernel
set_option maxRecDepth 100000 in
set_option maxHeartbeats 4000000 in
theorem ck_185_2 : ∀ pc, pc < 40 → pm_chk 185 (80 + pc) cX12_call (k_185 (80 + pc)) = true := by decide +kernel
set_option maxRecDepth 100000 in
set_option maxHeartbeats 4000000 in
theorem ck_185_3 : ∀ pc, pc < 40 → pm_chk 185 (120 + pc) cX12_call (k_185 (120 + pc)) = true := by decide +kernel
set_option maxRecDepth 100000 in
set_option maxHeartbeats 4000000 in
theorem ck_185_4 : ∀ pc, pc < 40 → pm_chk 185 (160 + pc) cX12_call (k_185 (160 + pc)) = true := by decide +kernel
set_option maxRecDepth 100000 in
set_option maxHeartbeats 4000000 in
theorem ck_185_5 : ∀ pc, pc < 40 → pm_chk 185 (200 + pc) cX12_call (k_185 (200 + pc)) = true := by decide +kernel
set_option maxRecDepth 100000 in
set_option maxHeartbeats 4000000 in
theorem ck_185_6 : ∀ pc, pc < 40 → pm_chk 185 (240 + pc) cX12_call (k_185 (240 + pc)) = true := by decide +kernel
set_option maxRecDepth 100000 in
set_option maxHeartbeats 4000000 in
theorem ck_185_7 : ∀ pc, pc < 40 → pm_chk 185 (280 + pc) cX12_call (k_185 (280 + pc)) = true := by decide +kernel
set_option maxRecDepth 100000 in
set_option maxHeartbeats 4000000 in
theorem ck_185_8 : ∀ pc, pc < 40 → pm_chk 185 (320 + pc) cX12_call (k_185 (320 + pc)) = true := by decide +kernel
set_option maxRecDepth 100000 in
set_option maxHeartbeats 4000000 in
theorem ck_185_9 : ∀ pc, pc < 40 → pm_chk 185 (360 + pc) cX12_call (k_185 (360 + pc)) = true := by decide +kernel
set_option maxRecDepth 100000 in
set_option maxHeartbeats 4000000 in
theorem ck_185_10 : ∀ pc, pc < 38 → pm_chk 185 (400 + pc) cX12_call (k_185 (400 + pc)) = true := by decide +kernel
theorem ck_185 (pc : Nat) (h : pc < 438) : pm_chk 185 pc cX12_call (k_185 pc) = true := by
  by_cases h0 : pc < 40
  · have e := ck_185_0 (pc - 0) (by omega)
    rwa [show 0 + (pc - 0) = pc by omega] at e
  by_cases h1 : pc < 80
  · have e := ck_185_1 (pc - 40) (by omega)
    rwa [show 40 + (pc - 40) = pc by omega] at e
  by_cases h2 : pc < 120
  · have e := ck_185_2 (pc - 80) (by omega)
    rwa [show 80 + (pc - 80) = pc by omega] at e
  by_cases h3 : pc < 160
  · have e := ck_185_3 (pc - 120) (by omega)
    rwa [show 120 + (pc - 120) = pc by omega] at e
  by_cases h4 : pc < 200
  · have e := ck_185_4 (pc - 160) (by omega)
    rwa [show 160 + (pc - 160) = pc by omega] at e
  by_cases h5 : pc < 240
  · have e := ck_185_5 (pc - 200) (by omega)
    rwa [show 200 + (pc - 200) = pc by omega] at e
  by_cases h6 : pc < 280
  · have e := ck_185_6 (pc - 240) (by omega)
    rwa [show 240 + (pc - 240) = pc by omega] at e
  by_cases h7 : pc < 320
  · have e := ck_185_7 (pc - 280) (by omega)
    rwa [show 280 + (pc - 280) = pc by omega] at e
  by_cases h8 : pc < 360
  · have e := ck_185_8 (pc - 320) (by omega)
    rwa [show 320 + (pc - 320) = pc by omega] at e
  by_cases h9 : pc < 400
  · have e := ck_185_9 (pc - 360) (by omega)
    rwa [show 360 + (pc - 360) = pc by omega] at e
  have e := ck_185_10 (pc - 400) (by omega)
  rwa [show 400 + (pc - 400) = pc by omega] at e
set_option maxRecDepth 100000 in
set_option maxHeartbeats 4000000 in
theorem ck_186 : ∀ pc, pc < 5 → pm_chk 186 pc cX12_result (k_186 pc) = true := by decide +kernel
set_option maxRecDepth 100000 in
set_option maxHeartbeats 4000000 in
theorem ck_187 : ∀ pc, pc < 26 → pm_chk 187 pc cX12_traced (k_187 pc) = true := by decide +kernel
set_option maxRecDepth 100000 in
set_option maxHeartbeats 4000000 in
theorem ck_188_0 : ∀ pc, pc < 60 → pm_chk 188 (0 + pc) cX12_count (k_188 (0 + pc)) = true := by decide +kernel
set_option maxRecDepth 100000 in
set_option maxHeartbeats 4000000 in
theorem ck_188_1 : ∀ pc, pc < 21 → pm_chk 188 (60 + pc) cX12_count (k_188 (60 + pc)) = true := by decide +kernel
theorem ck_188 (pc : Nat) (h : pc < 81) : pm_chk 188 pc cX12_count (k_188 pc) = true := by
  by_cases h0 : pc < 60
  · have e := ck_188_0 (pc - 0) (by omega)
    rwa [show 0 + (pc - 0) = pc by omega] at e
  have e := ck_188_1 (pc - 60) (by omega)
  rwa [show 60 + (pc - 60) = pc by omega] at e
set_option maxRecDepth 100000 in
set_option maxHeartbeats 4000000 in
theorem ck_189 : ∀ pc, pc < 47 → pm_chk 189 pc cX12_clear (k_189 pc) = true := by decide +kernel
set_option maxRecDepth 100000 in
set_option maxHeartbeats 4000000 in
theorem ck_190_0 : ∀ pc, pc < 60 → pm_chk 190 (0 + pc) cJ13_bitCount_95d88 (k_190 (0 + pc)) = true := by decide +kernel
set_option maxRecDepth 100000 in
set_option maxHeartbeats 4000000 in
theorem ck_190_1 : ∀ pc, pc < 1 → pm_chk 190 (60 + pc) cJ13_bitCount_95d88 (k_190 (60 + pc)) = true := by decide +kernel
theorem ck_190 (pc : Nat) (h : pc < 61) : pm_chk 190 pc cJ13_bitCount_95d88 (k_190 pc) = true := by
  by_cases h0 : pc < 60
  · have e := ck_190_0 (pc - 0) (by omega)
    rwa [show 0 + (pc - 0) = pc by omega] at e
  have e := ck_190_1 (pc - 60) (by omega)
  rwa [show 60 + (pc - 60) = pc by omega] at e
