set_option maxRecDepth 100000 in
set_option maxHeartbeats 4000000 in
theorem ck_0_16 : ∀ pc, pc < 40 → pm_chk 0 (640 + pc) code (k_0 (640 + pc)) = true := by decide +kernel
set_option maxRecDepth 100000 in
set_option maxHeartbeats 4000000 in
theorem ck_0_17 : ∀ pc, pc < 40 → pm_chk 0 (680 + pc) code (k_0 (680 + pc)) = true := by decide +kernel
set_option maxRecDepth 100000 in
set_option maxHeartbeats 4000000 in
theorem ck_0_18 : ∀ pc, pc < 40 → pm_chk 0 (720 + pc) code (k_0 (720 + pc)) = true := by decide +kernel
set_option maxRecDepth 100000 in
set_option maxHeartbeats 4000000 in
theorem ck_0_19 : ∀ pc, pc < 40 → pm_chk 0 (760 + pc) code (k_0 (760 + pc)) = true := by decide +kernel
set_option maxRecDepth 100000 in
set_option maxHeartbeats 4000000 in
theorem ck_0_20 : ∀ pc, pc < 40 → pm_chk 0 (800 + pc) code (k_0 (800 + pc)) = true := by decide +kernel
set_option maxRecDepth 100000 in
set_option maxHeartbeats 4000000 in
theorem ck_0_21 : ∀ pc, pc < 40 → pm_chk 0 (840 + pc) code (k_0 (840 + pc)) = true := by decide +kernel
set_option maxRecDepth 100000 in
set_option maxHeartbeats 4000000 in
theorem ck_0_22 : ∀ pc, pc < 1 → pm_chk 0 (880 + pc) code (k_0 (880 + pc)) = true := by decide +kernel
theorem ck_0 (pc : Nat) (h : pc < 881) : pm_chk 0 pc code (k_0 pc) = true := by
  by_cases h0 : pc < 40
  · have e := ck_0_0 (pc - 0) (by omega)
    rwa [show 0 + (pc - 0) = pc by omega] at e
  by_cases h1 : pc < 80
  · have e := ck_0_1 (pc - 40) (by omega)
    rwa [show 40 + (pc - 40) = pc by omega] at e
  by_cases h2 : pc < 120
  · have e := ck_0_2 (pc - 80) (by omega)
    rwa [show 80 + (pc - 80) = pc by omega] at e
  by_cases h3 : pc < 160
  · have e := ck_0_3 (pc - 120) (by omega)
    rwa [show 120 + (pc - 120) = pc by omega] at e
  by_cases h4 : pc < 200
  · have e := ck_0_4 (pc - 160) (by omega)
    rwa [show 160 + (pc - 160) = pc by omega] at e
  by_cases h5 : pc < 240
  · have e := ck_0_5 (pc - 200) (by omega)
    rwa [show 200 + (pc - 200) = pc by omega] at e
  by_cases h6 : pc < 280
  · have e := ck_0_6 (pc - 240) (by omega)
    rwa [show 240 + (pc - 240) = pc by omega] at e
  by_cases h7 : pc < 320
  · have e := ck_0_7 (pc - 280) (by omega)
    rwa [show 280 + (pc - 280) = pc by omega] at e
  by_cases h8 : pc < 360
  · have e := ck_0_8 (pc - 320) (by omega)
    rwa [show 320 + (pc - 320) = pc by omega] at e
  by_cases h9 : pc < 400
  · have e := ck_0_9 (pc - 360) (by omega)
    rwa [show 360 + (pc - 360) = pc by omega] at e
  by_cases h10 : pc < 440
  · have e := ck_0_10 (pc - 400) (by omega)
    rwa [show 400 + (pc - 400) = pc by omega] at e
  by_cases h11 : pc < 480
  · have e := ck_0_11 (pc - 440) (by omega)
    rwa [show 440 + (pc - 440) = pc by omega] at e
  by_cases h12 : pc < 520
  · have e := ck_0_12 (pc - 480) (by omega)
    rwa [show 480 + (pc - 480) = pc by omega] at e
  by_cases h13 : pc < 560
  · have e := ck_0_13 (pc - 520) (by omega)
    rwa [show 520 + (pc - 520) = pc by omega] at e
  by_cases h14 : pc < 600
  · have e := ck_0_14 (pc - 560) (by omega)
    rwa [show 560 + (pc - 560) = pc by omega] at e
  by_cases h15 : pc < 640
  · have e := ck_0_15 (pc - 600) (by omega)
    rwa [show 600 + (pc - 600) = pc by omega] at e
  by_cases h16 : pc < 680
  · have e := ck_0_16 (pc - 640) (by omega)
    rwa [show 640 + (pc - 640) = pc by omega] at e
  by_cases h17 : pc < 720
  · have e := ck_0_17 (pc - 680) (by omega)
    rwa [show 680 + (pc - 680) = pc by omega] at e
  by_cases h18 : pc < 760
  · have e := ck_0_18 (pc - 720) (by omega)
    rwa [show 720 + (pc - 720) = pc by omega] at e
  by_cases h19 : pc < 800
  · have e := ck_0_19 (pc - 760) (by omega)
    rwa [show 760 + (pc - 760) = pc by omega] at e
  by_cases h20 : pc < 840
  · have e := ck_0_20 (pc - 800) (by omega)
    rwa [show 800 + (pc - 800) = pc by omega] at e
  by_cases h21 : pc < 880
  · have e := ck_0_21 (pc - 840) (by omega)
    rwa [show 840 + (pc - 840) = pc by omega] at e
  have e := ck_0_22 (pc - 880) (by omega)
  rwa [show 880 + (pc - 880) = pc by omega] at e
set_option maxRecDepth 100000 in
set_option maxHeartbeats 4000000 in
theorem ck_1 : ∀ pc, pc < 22 → pm_chk 1 pc cX0_init (k_1 pc) = true := by decide +kernel
set_option maxRecDepth 100000 in
set_option maxHeartbeats 4000000 in
theorem ck_2_0 : ∀ pc, pc < 60 → pm_chk 2 (0 + pc) cX0_run (k_2 (0 + pc)) = true := by decide +kernel
set_option maxRecDepth 100000 in
set_option maxHeartbeats 4000000 in
theorem ck_2_1 : ∀ pc, pc < 23 → pm_chk 2 (60 + pc) cX0_run (k_2 (60 + pc)) = true := by decide +kernel
theorem ck_2 (pc : Nat) (h : pc < 83) : pm_chk 2 pc cX0_run (k_2 pc) = true := by
  by_cases h0 : pc < 60
  · have e := ck_2_0 (pc - 0) (by omega)
    rwa [show 0 + (pc - 0) = pc by omega] at e
  have e := ck_2_1 (pc - 60) (by omega)
  rwa [show 60 + (pc - 60) = pc by omega] at e
set_option maxRecDepth 100000 in
set_option maxHeartbeats 4000000 in
theorem ck_3_0 : ∀ pc, pc < 60 → pm_chk 3 (0 + pc) cX0_makePlain (k_3 (0 + pc)) = true := by decide +kernel
set_option maxRecDepth 100000 in
set_option maxHeartbeats 4000000 in
theorem ck_3_1 : ∀ pc, pc < 23 → pm_chk 3 (60 + pc) cX0_makePlain (k_3 (60 + pc)) = true := by decide +kernel
theorem ck_3 (pc : Nat) (h : pc < 83) : pm_chk 3 pc cX0_makePlain (k_3 pc) = true := by
  by_cases h0 : pc < 60
  · have e := ck_3_0 (pc - 0) (by omega)
    rwa [show 0 + (pc - 0) = pc by omega] at e
  have e := ck_3_1 (pc - 60) (by omega)
  rwa [show 60 + (pc - 60) = pc by omega] at e
set_option maxRecDepth 100000 in
set_option maxHeartbeats 4000000 in
theorem ck_4_0 : ∀ pc, pc < 60 → pm_chk 4 (0 + pc) cX0_callMember (k_4 (0 + pc)) = true := by decide +kernel
