section
set_option maxRecDepth 100000 in
set_option maxHeartbeats 4000000 in
theorem ck_0_0 : ∀ pc, pc < 40 → pm_chk 0 (0 + pc) code (k_0 (0 + pc)) = true := fun pc h => pm_chq_ok ((by decide +kernel : ∀ pc, pc < 40 → pm_chq 0 0 pc code (k_0 (0 + pc)) = true) pc h)
set_option maxRecDepth 100000 in
set_option maxHeartbeats 4000000 in
theorem ck_0_1 : ∀ pc, pc < 40 → pm_chk 0 (40 + pc) code (k_0 (40 + pc)) = true := fun pc h => pm_chq_ok ((by decide +kernel : ∀ pc, pc < 40 → pm_chq 0 40 pc code (k_0 (40 + pc)) = true) pc h)
set_option maxRecDepth 100000 in
set_option maxHeartbeats 4000000 in
theorem ck_0_2 : ∀ pc, pc < 40 → pm_chk 0 (80 + pc) code (k_0 (80 + pc)) = true := fun pc h => pm_chq_ok ((by decide +kernel : ∀ pc, pc < 40 → pm_chq 0 80 pc code (k_0 (80 + pc)) = true) pc h)
set_option maxRecDepth 100000 in
set_option maxHeartbeats 4000000 in
theorem ck_0_3 : ∀ pc, pc < 40 → pm_chk 0 (120 + pc) code (k_0 (120 + pc)) = true := fun pc h => pm_chq_ok ((by decide +kernel : ∀ pc, pc < 40 → pm_chq 0 120 pc code (k_0 (120 + pc)) = true) pc h)
set_option maxRecDepth 100000 in
set_option maxHeartbeats 4000000 in
theorem ck_0_4 : ∀ pc, pc < 40 → pm_chk 0 (160 + pc) code (k_0 (160 + pc)) = true := fun pc h => pm_chq_ok ((by decide +kernel : ∀ pc, pc < 40 → pm_chq 0 160 pc code (k_0 (160 + pc)) = true) pc h)
set_option maxRecDepth 100000 in
set_option maxHeartbeats 4000000 in
theorem ck_0_5 : ∀ pc, pc < 40 → pm_chk 0 (200 + pc) code (k_0 (200 + pc)) = true := fun pc h => pm_chq_ok ((by decide +kernel : ∀ pc, pc < 40 → pm_chq 0 200 pc code (k_0 (200 + pc)) = true) pc h)
set_option maxRecDepth 100000 in
set_option maxHeartbeats 4000000 in
theorem ck_0_6 : ∀ pc, pc < 40 → pm_chk 0 (240 + pc) code (k_0 (240 + pc)) = true := fun pc h => pm_chq_ok ((by decide +kernel : ∀ pc, pc < 40 → pm_chq 0 240 pc code (k_0 (240 + pc)) = true) pc h)
set_option maxRecDepth 100000 in
set_option maxHeartbeats 4000000 in
theorem ck_0_7 : ∀ pc, pc < 40 → pm_chk 0 (280 + pc) code (k_0 (280 + pc)) = true := fun pc h => pm_chq_ok ((by decide +kernel : ∀ pc, pc < 40 → pm_chq 0 280 pc code (k_0 (280 + pc)) = true) pc h)
set_option maxRecDepth 100000 in
set_option maxHeartbeats 4000000 in
theorem ck_0_8 : ∀ pc, pc < 40 → pm_chk 0 (320 + pc) code (k_0 (320 + pc)) = true := fun pc h => pm_chq_ok ((by decide +kernel : ∀ pc, pc < 40 → pm_chq 0 320 pc code (k_0 (320 + pc)) = true) pc h)
set_option maxRecDepth 100000 in
set_option maxHeartbeats 4000000 in
theorem ck_0_9 : ∀ pc, pc < 40 → pm_chk 0 (360 + pc) code (k_0 (360 + pc)) = true := fun pc h => pm_chq_ok ((by decide +kernel : ∀ pc, pc < 40 → pm_chq 0 360 pc code (k_0 (360 + pc)) = true) pc h)
set_option maxRecDepth 100000 in
set_option maxHeartbeats 4000000 in
theorem ck_0_10 : ∀ pc, pc < 40 → pm_chk 0 (400 + pc) code (k_0 (400 + pc)) = true := fun pc h => pm_chq_ok ((by decide +kernel : ∀ pc, pc < 40 → pm_chq 0 400 pc code (k_0 (400 + pc)) = true) pc h)
set_option maxRecDepth 100000 in
set_option maxHeartbeats 4000000 in
theorem ck_0_11 : ∀ pc, pc < 40 → pm_chk 0 (440 + pc) code (k_0 (440 + pc)) = true := fun pc h => pm_chq_ok ((by decide +kernel : ∀ pc, pc < 40 → pm_chq 0 440 pc code (k_0 (440 + pc)) = true) pc h)
set_option maxRecDepth 100000 in
set_option maxHeartbeats 4000000 in
theorem ck_0_12 : ∀ pc, pc < 40 → pm_chk 0 (480 + pc) code (k_0 (480 + pc)) = true := fun pc h => pm_chq_ok ((by decide +kernel : ∀ pc, pc < 40 → pm_chq 0 480 pc code (k_0 (480 + pc)) = true) pc h)
set_option maxRecDepth 100000 in
set_option maxHeartbeats 4000000 in
theorem ck_0_13 : ∀ pc, pc < 40 → pm_chk 0 (520 + pc) code (k_0 (520 + pc)) = true := fun pc h => pm_chq_ok ((by decide +kernel : ∀ pc, pc < 40 → pm_chq 0 520 pc code (k_0 (520 + pc)) = true) pc h)
set_option maxRecDepth 100000 in
set_option maxHeartbeats 4000000 in
theorem ck_0_14 : ∀ pc, pc < 40 → pm_chk 0 (560 + pc) code (k_0 (560 + pc)) = true := fun pc h => pm_chq_ok ((by decide +kernel : ∀ pc, pc < 40 → pm_chq 0 560 pc code (k_0 (560 + pc)) = true) pc h)
set_option maxRecDepth 100000 in
set_option maxHeartbeats 4000000 in
theorem ck_0_15 : ∀ pc, pc < 40 → pm_chk 0 (600 + pc) code (k_0 (600 + pc)) = true := fun pc h => pm_chq_ok ((by decide +kernel : ∀ pc, pc < 40 → pm_chq 0 600 pc code (k_0 (600 + pc)) = true) pc h)
set_option maxRecDepth 100000 in
set_option maxHeartbeats 4000000 in
theorem ck_0_16 : ∀ pc, pc < 40 → pm_chk 0 (640 + pc) code (k_0 (640 + pc)) = true := fun pc h => pm_chq_ok ((by decide +kernel : ∀ pc, pc < 40 → pm_chq 0 640 pc code (k_0 (640 + pc)) = true) pc h)
set_option maxRecDepth 100000 in
set_option maxHeartbeats 4000000 in
theorem ck_0_17 : ∀ pc, pc < 40 → pm_chk 0 (680 + pc) code (k_0 (680 + pc)) = true := fun pc h => pm_chq_ok ((by decide +kernel : ∀ pc, pc < 40 → pm_chq 0 680 pc code (k_0 (680 + pc)) = true) pc h)
set_option maxRecDepth 100000 in
set_option maxHeartbeats 4000000 in
theorem ck_0_18 : ∀ pc, pc < 40 → pm_chk 0 (720 + pc) code (k_0 (720 + pc)) = true := fun pc h => pm_chq_ok ((by decide +kernel : ∀ pc, pc < 40 → pm_chq 0 720 pc code (k_0 (720 + pc)) = true) pc h)
set_option maxRecDepth 100000 in
set_option maxHeartbeats 4000000 in
theorem ck_0_19 : ∀ pc, pc < 40 → pm_chk 0 (760 + pc) code (k_0 (760 + pc)) = true := fun pc h => pm_chq_ok ((by decide +kernel : ∀ pc, pc < 40 → pm_chq 0 760 pc code (k_0 (760 + pc)) = true) pc h)
set_option maxRecDepth 100000 in
set_option maxHeartbeats 4000000 in
theorem ck_0_20 : ∀ pc, pc < 40 → pm_chk 0 (800 + pc) code (k_0 (800 + pc)) = true := fun pc h => pm_chq_ok ((by decide +kernel : ∀ pc, pc < 40 → pm_chq 0 800 pc code (k_0 (800 + pc)) = true) pc h)
set_option maxRecDepth 100000 in
set_option maxHeartbeats 4000000 in
theorem ck_0_21 : ∀ pc, pc < 40 → pm_chk 0 (840 + pc) code (k_0 (840 + pc)) = true := fun pc h => pm_chq_ok ((by decide +kernel : ∀ pc, pc < 40 → pm_chq 0 840 pc code (k_0 (840 + pc)) = true) pc h)
set_option maxRecDepth 100000 in
set_option maxHeartbeats 4000000 in
theorem ck_0_22 : ∀ pc, pc < 1 → pm_chk 0 (880 + pc) code (k_0 (880 + pc)) = true := fun pc h => pm_chq_ok ((by decide +kernel : ∀ pc, pc < 1 → pm_chq 0 880 pc code (k_0 (880 + pc)) = true) pc h)
theorem ck_0 (pc : Nat) (h : pc < 881) : pm_chk 0 pc code (k_0 pc) = true := by
  by_cases h0 : pc < 40
  · have e := ck_0_0 (pc - 0) (by omega)
    rwa [show 0 + (pc - 0) = pc by omega] at e
  by_cases h1 : pc < 80
  · have e := ck_0_1 (pc - 40) (by omega)
    rwa [show 40 + (pc - 40) = pc by omega] at e
  by_cases h2 : pc < 120
  · have e := ck_0_2 (pc - 80) (by omega)
    rwa [show 80 + (pc - 80) = pc by omega] at e
  by_cases h3 : pc < 160
  · have e := ck_0_3 (pc - 120) (by omega)
    rwa [show 120 + (pc - 120) = pc by omega] at e
  by_cases h4 : pc < 200
  · have e := ck_0_4 (pc - 160) (by omega)
    rwa [show 160 + (pc - 160) = pc by omega] at e
  by_cases h5 : pc < 240
  · have e := ck_0_5 (pc - 200) (by omega)
    rwa [show 200 + (pc - 200) = pc by omega] at e
  by_cases h6 : pc < 280
  · have e := ck_0_6 (pc - 240) (by omega)
    rwa [show 240 + (pc - 240) = pc by omega] at e
  by_cases h7 : pc < 320
  · have e := ck_0_7 (pc - 280) (by omega)
    rwa [show 280 + (pc - 280) = pc by omega] at e
  by_cases h8 : pc < 360
  · have e := ck_0_8 (pc - 320) (by omega)
    rwa [show 320 + (pc - 320) = pc by omega] at e
  by_cases h9 : pc < 400
  · have e := ck_0_9 (pc - 360) (by omega)
    rwa [show 360 + (pc - 360) = pc by omega] at e
  by_cases h10 : pc < 440
  · have e := ck_0_10 (pc - 400) (by omega)
    rwa [show 400 + (pc - 400) = pc by omega] at e
  by_cases h11 : pc < 480
  · have e := ck_0_11 (pc - 440) (by omega)
    rwa [show 440 + (pc - 440) = pc by omega] at e
  by_cases h12 : pc < 520
  · have e := ck_0_12 (pc - 480) (by omega)
    rwa [show 480 + (pc - 480) = pc by omega] at e
  by_cases h13 : pc < 560
  · have e := ck_0_13 (pc - 520) (by omega)
    rwa [show 520 + (pc - 520) = pc by omega] at e
  by_cases h14 : pc < 600
  · have e := ck_0_14 (pc - 560) (by omega)
    rwa [show 560 + (pc - 560) = pc by omega] at e
  by_cases h15 : pc < 640
  · have e := ck_0_15 (pc - 600) (by omega)
    rwa [show 600 + (pc - 600) = pc by omega] at e
  by_cases h16 : pc < 680
  · have e := ck_0_16 (pc - 640) (by omega)
    rwa [show 640 + (pc - 640) = pc by omega] at e
  by_cases h17 : pc < 720
  · have e := ck_0_17 (pc - 680) (by omega)
    rwa [show 680 + (pc - 680) = pc by omega] at e
  by_cases h18 : pc < 760
  · have e := ck_0_18 (pc - 720) (by omega)
    rwa [show 720 + (pc - 720) = pc by omega] at e
  by_cases h19 : pc < 800
  · have e := ck_0_19 (pc - 760) (by omega)
    rwa [show 760 + (pc - 760) = pc by omega] at e
  by_cases h20 : pc < 840
  · have e := ck_0_20 (pc - 800) (by omega)
    rwa [show 800 + (pc - 800) = pc by omega] at e
  by_cases h21 : pc < 880
  · have e := ck_0_21 (pc - 840) (by omega)
    rwa [show 840 + (pc - 840) = pc by omega] at e
  have e := ck_0_22 (pc - 880) (by omega)
  rwa [show 880 + (pc - 880) = pc by omega] at e
set_option maxRecDepth 100000 in
set_option maxHeartbeats 4000000 in
theorem ck_1 : ∀ pc, pc < 22 → pm_chk 1 pc cX0_init (k_1 pc) = true := fun pc h => pm_chq_0 ((by decide +kernel : ∀ pc, pc < 22 → pm_chq 1 0 pc cX0_init (k_1 pc) = true) pc h)
set_option maxRecDepth 100000 in
set_option maxHeartbeats 4000000 in
theorem ck_2_0 : ∀ pc, pc < 40 → pm_chk 2 (0 + pc) cX0_run (k_2 (0 + pc)) = true := fun pc h => pm_chq_ok ((by decide +kernel : ∀ pc, pc < 40 → pm_chq 2 0 pc cX0_run (k_2 (0 + pc)) = true) pc h)
set_option maxRecDepth 100000 in
set_option maxHeartbeats 4000000 in
theorem ck_2_1 : ∀ pc, pc < 40 → pm_chk 2 (40 + pc) cX0_run (k_2 (40 + pc)) = true := fun pc h => pm_chq_ok ((by decide +kernel : ∀ pc, pc < 40 → pm_chq 2 40 pc cX0_run (k_2 (40 + pc)) = true) pc h)
set_option maxRecDepth 100000 in
set_option maxHeartbeats 4000000 in
theorem ck_2_2 : ∀ pc, pc < 3 → pm_chk 2 (80 + pc) cX0_run (k_2 (80 + pc)) = true := fun pc h => pm_chq_ok ((by decide +kernel : ∀ pc, pc < 3 → pm_chq 2 80 pc cX0_run (k_2 (80 + pc)) = true) pc h)
theorem ck_2 (pc : Nat) (h : pc < 83) : pm_chk 2 pc cX0_run (k_2 pc) = true := by
  by_cases h0 : pc < 40
  · have e := ck_2_0 (pc - 0) (by omega)
    rwa [show 0 + (pc - 0) = pc by omega] at e
  by_cases h1 : pc < 80
  · have e := ck_2_1 (pc - 40) (by omega)
    rwa [show 40 + (pc - 40) = pc by omega] at e
  have e := ck_2_2 (pc - 80) (by omega)
  rwa [show 80 + (pc - 80) = pc by omega] at e
set_option maxRecDepth 100000 in
set_option maxHeartbeats 4000000 in
theorem ck_3_0 : ∀ pc, pc < 40 → pm_chk 3 (0 + pc) cX0_makePlain (k_3 (0 + pc)) = true := fun pc h => pm_chq_ok ((by decide +kernel : ∀ pc, pc < 40 → pm_chq 3 0 pc cX0_makePlain (k_3 (0 + pc)) = true) pc h)
set_option maxRecDepth 100000 in
set_option maxHeartbeats 4000000 in
theorem ck_3_1 : ∀ pc, pc < 40 → pm_chk 3 (40 + pc) cX0_makePlain (k_3 (40 + pc)) = true := fun pc h => pm_chq_ok ((by decide +kernel : ∀ pc, pc < 40 → pm_chq 3 40 pc cX0_makePlain (k_3 (40 + pc)) = true) pc h)
set_option maxRecDepth 100000 in
set_option maxHeartbeats 4000000 in
theorem ck_3_2 : ∀ pc, pc < 3 → pm_chk 3 (80 + pc) cX0_makePlain (k_3 (80 + pc)) = true := fun pc h => pm_chq_ok ((by decide +kernel : ∀ pc, pc < 3 → pm_chq 3 80 pc cX0_makePlain (k_3 (80 + pc)) = true) pc h)
theorem ck_3 (pc : Nat) (h : pc < 83) : pm_chk 3 pc cX0_makePlain (k_3 pc) = true := by
  by_cases h0 : pc < 40
  · have e := ck_3_0 (pc - 0) (by omega)
    rwa [show 0 + (pc - 0) = pc by omega] at e
  by_cases h1 : pc < 80
  · have e := ck_3_1 (pc - 40) (by omega)
    rwa [show 40 + (pc - 40) = pc by omega] at e
  have e := ck_3_2 (pc - 80) (by omega)
  rwa [show 80 + (pc - 80) = pc by omega] at e
set_option maxRecDepth 100000 in
set_option maxHeartbeats 4000000 in
theorem ck_4_0 : ∀ pc, pc < 40 → pm_chk 4 (0 + pc) cX0_callMember (k_4 (0 + pc)) = true := fun pc h => pm_chq_ok ((by decide +kernel : ∀ pc, pc < 40 → pm_chq 4 0 pc cX0_callMember (k_4 (0 + pc)) = true) pc h)
set_option maxRecDepth 100000 in
set_option maxHeartbeats 4000000 in
theorem ck_4_1 : ∀ pc, pc < 40 → pm_chk 4 (40 + pc) cX0_callMember (k_4 (40 + pc)) = true := fun pc h => pm_chq_ok ((by decide +kernel : ∀ pc, pc < 40 → pm_chq 4 40 pc cX0_callMember (k_4 (40 + pc)) = true) pc h)
set_option maxRecDepth 100000 in
set_option maxHeartbeats 4000000 in
theorem ck_4_2 : ∀ pc, pc < 38 → pm_chk 4 (80 + pc) cX0_callMember (k_4 (80 + pc)) = true := fun pc h => pm_chq_ok ((by decide +kernel : ∀ pc, pc < 38 → pm_chq 4 80 pc cX0_callMember (k_4 (80 + pc)) = true) pc h)
theorem ck_4 (pc : Nat) (h : pc < 118) : pm_chk 4 pc cX0_callMember (k_4 pc) = true := by
  by_cases h0 : pc < 40
  · have e := ck_4_0 (pc - 0) (by omega)
    rwa [show 0 + (pc - 0) = pc by omega] at e
  by_cases h1 : pc < 80
  · have e := ck_4_1 (pc - 40) (by omega)
    rwa [show 40 + (pc - 40) = pc by omega] at e
  have e := ck_4_2 (pc - 80) (by omega)
  rwa [show 80 + (pc - 80) = pc by omega] at e
set_option maxRecDepth 100000 in
set_option maxHeartbeats 4000000 in
theorem ck_5_0 : ∀ pc, pc < 40 → pm_chk 5 (0 + pc) cX0_memberTaken (k_5 (0 + pc)) = true := fun pc h => pm_chq_ok ((by decide +kernel : ∀ pc, pc < 40 → pm_chq 5 0 pc cX0_memberTaken (k_5 (0 + pc)) = true) pc h)
set_option maxRecDepth 100000 in
set_option maxHeartbeats 4000000 in
theorem ck_5_1 : ∀ pc, pc < 36 → pm_chk 5 (40 + pc) cX0_memberTaken (k_5 (40 + pc)) = true := fun pc h => pm_chq_ok ((by decide +kernel : ∀ pc, pc < 36 → pm_chq 5 40 pc cX0_memberTaken (k_5 (40 + pc)) = true) pc h)
theorem ck_5 (pc : Nat) (h : pc < 76) : pm_chk 5 pc cX0_memberTaken (k_5 pc) = true := by
  by_cases h0 : pc < 40
  · have e := ck_5_0 (pc - 0) (by omega)
    rwa [show 0 + (pc - 0) = pc by omega] at e
  have e := ck_5_1 (pc - 40) (by omega)
  rwa [show 40 + (pc - 40) = pc by omega] at e
set_option maxRecDepth 100000 in
set_option maxHeartbeats 4000000 in
theorem ck_6_0 : ∀ pc, pc < 40 → pm_chk 6 (0 + pc) cX0_passAlone (k_6 (0 + pc)) = true := fun pc h => pm_chq_ok ((by decide +kernel : ∀ pc, pc < 40 → pm_chq 6 0 pc cX0_passAlone (k_6 (0 + pc)) = true) pc h)
set_option maxRecDepth 100000 in
set_option maxHeartbeats 4000000 in
theorem ck_6_1 : ∀ pc, pc < 19 → pm_chk 6 (40 + pc) cX0_passAlone (k_6 (40 + pc)) = true := fun pc h => pm_chq_ok ((by decide +kernel : ∀ pc, pc < 19 → pm_chq 6 40 pc cX0_passAlone (k_6 (40 + pc)) = true) pc h)
theorem ck_6 (pc : Nat) (h : pc < 59) : pm_chk 6 pc cX0_passAlone (k_6 pc) = true := by
  by_cases h0 : pc < 40
  · have e := ck_6_0 (pc - 0) (by omega)
    rwa [show 0 + (pc - 0) = pc by omega] at e
  have e := ck_6_1 (pc - 40) (by omega)
  rwa [show 40 + (pc - 40) = pc by omega] at e
set_option maxRecDepth 100000 in
set_option maxHeartbeats 4000000 in
theorem ck_7_0 : ∀ pc, pc < 40 → pm_chk 7 (0 + pc) cX0_passRow (k_7 (0 + pc)) = true := fun pc h => pm_chq_ok ((by decide +kernel : ∀ pc, pc < 40 → pm_chq 7 0 pc cX0_passRow (k_7 (0 + pc)) = true) pc h)
set_option maxRecDepth 100000 in
set_option maxHeartbeats 4000000 in
theorem ck_7_1 : ∀ pc, pc < 40 → pm_chk 7 (40 + pc) cX0_passRow (k_7 (40 + pc)) = true := fun pc h => pm_chq_ok ((by decide +kernel : ∀ pc, pc < 40 → pm_chq 7 40 pc cX0_passRow (k_7 (40 + pc)) = true) pc h)
set_option maxRecDepth 100000 in
set_option maxHeartbeats 4000000 in
theorem ck_7_2 : ∀ pc, pc < 1 → pm_chk 7 (80 + pc) cX0_passRow (k_7 (80 + pc)) = true := fun pc h => pm_chq_ok ((by decide +kernel : ∀ pc, pc < 1 → pm_chq 7 80 pc cX0_passRow (k_7 (80 + pc)) = true) pc h)
theorem ck_7 (pc : Nat) (h : pc < 81) : pm_chk 7 pc cX0_passRow (k_7 pc) = true := by
  by_cases h0 : pc < 40
  · have e := ck_7_0 (pc - 0) (by omega)
    rwa [show 0 + (pc - 0) = pc by omega] at e
  by_cases h1 : pc < 80
  · have e := ck_7_1 (pc - 40) (by omega)
    rwa [show 40 + (pc - 40) = pc by omega] at e
  have e := ck_7_2 (pc - 80) (by omega)
  rwa [show 80 + (pc - 80) = pc by omega] at e
set_option maxRecDepth 100000 in
set_option maxHeartbeats 4000000 in
theorem ck_8_0 : ∀ pc, pc < 40 → pm_chk 8 (0 + pc) cX0_giveResult (k_8 (0 + pc)) = true := fun pc h => pm_chq_ok ((by decide +kernel : ∀ pc, pc < 40 → pm_chq 8 0 pc cX0_giveResult (k_8 (0 + pc)) = true) pc h)
set_option maxRecDepth 100000 in
set_option maxHeartbeats 4000000 in
theorem ck_8_1 : ∀ pc, pc < 40 → pm_chk 8 (40 + pc) cX0_giveResult (k_8 (40 + pc)) = true := fun pc h => pm_chq_ok ((by decide +kernel : ∀ pc, pc < 40 → pm_chq 8 40 pc cX0_giveResult (k_8 (40 + pc)) = true) pc h)
set_option maxRecDepth 100000 in
set_option maxHeartbeats 4000000 in
theorem ck_8_2 : ∀ pc, pc < 4 → pm_chk 8 (80 + pc) cX0_giveResult (k_8 (80 + pc)) = true := fun pc h => pm_chq_ok ((by decide +kernel : ∀ pc, pc < 4 → pm_chq 8 80 pc cX0_giveResult (k_8 (80 + pc)) = true) pc h)
theorem ck_8 (pc : Nat) (h : pc < 84) : pm_chk 8 pc cX0_giveResult (k_8 pc) = true := by
  by_cases h0 : pc < 40
  · have e := ck_8_0 (pc - 0) (by omega)
    rwa [show 0 + (pc - 0) = pc by omega] at e
  by_cases h1 : pc < 80
  · have e := ck_8_1 (pc - 40) (by omega)
    rwa [show 40 + (pc - 40) = pc by omega] at e
  have e := ck_8_2 (pc - 80) (by omega)
  rwa [show 80 + (pc - 80) = pc by omega] at e
set_option maxRecDepth 100000 in
set_option maxHeartbeats 4000000 in
theorem ck_9_0 : ∀ pc, pc < 40 → pm_chk 9 (0 + pc) cX0_sumOfGot (k_9 (0 + pc)) = true := fun pc h => pm_chq_ok ((by decide +kernel : ∀ pc, pc < 40 → pm_chq 9 0 pc cX0_sumOfGot (k_9 (0 + pc)) = true) pc h)
set_option maxRecDepth 100000 in
set_option maxHeartbeats 4000000 in
theorem ck_9_1 : ∀ pc, pc < 40 → pm_chk 9 (40 + pc) cX0_sumOfGot (k_9 (40 + pc)) = true := fun pc h => pm_chq_ok ((by decide +kernel : ∀ pc, pc < 40 → pm_chq 9 40 pc cX0_sumOfGot (k_9 (40 + pc)) = true) pc h)
set_option maxRecDepth 100000 in
set_option maxHeartbeats 4000000 in
theorem ck_9_2 : ∀ pc, pc < 40 → pm_chk 9 (80 + pc) cX0_sumOfGot (k_9 (80 + pc)) = true := fun pc h => pm_chq_ok ((by decide +kernel : ∀ pc, pc < 40 → pm_chq 9 80 pc cX0_sumOfGot (k_9 (80 + pc)) = true) pc h)
set_option maxRecDepth 100000 in
set_option maxHeartbeats 4000000 in
theorem ck_9_3 : ∀ pc, pc < 3 → pm_chk 9 (120 + pc) cX0_sumOfGot (k_9 (120 + pc)) = true := fun pc h => pm_chq_ok ((by decide +kernel : ∀ pc, pc < 3 → pm_chq 9 120 pc cX0_sumOfGot (k_9 (120 + pc)) = true) pc h)
theorem ck_9 (pc : Nat) (h : pc < 123) : pm_chk 9 pc cX0_sumOfGot (k_9 pc) = true := by
  by_cases h0 : pc < 40
  · have e := ck_9_0 (pc - 0) (by omega)
    rwa [show 0 + (pc - 0) = pc by omega] at e
  by_cases h1 : pc < 80
  · have e := ck_9_1 (pc - 40) (by omega)
    rwa [show 40 + (pc - 40) = pc by omega] at e
  by_cases h2 : pc < 120
  · have e := ck_9_2 (pc - 80) (by omega)
    rwa [show 80 + (pc - 80) = pc by omega] at e
  have e := ck_9_3 (pc - 120) (by omega)
  rwa [show 120 + (pc - 120) = pc by omega] at e
set_option maxRecDepth 100000 in
set_option maxHeartbeats 4000000 in
theorem ck_10 : ∀ pc, pc < 36 → pm_chk 10 pc cX0_sumOfPlaces (k_10 pc) = true := fun pc h => pm_chq_0 ((by decide +kernel : ∀ pc, pc < 36 → pm_chq 10 0 pc cX0_sumOfPlaces (k_10 pc) = true) pc h)
set_option maxRecDepth 100000 in
set_option maxHeartbeats 4000000 in
theorem ck_11_0 : ∀ pc, pc < 40 → pm_chk 11 (0 + pc) cX0_convert (k_11 (0 + pc)) = true := fun pc h => pm_chq_ok ((by decide +kernel : ∀ pc, pc < 40 → pm_chq 11 0 pc cX0_convert (k_11 (0 + pc)) = true) pc h)
set_option maxRecDepth 100000 in
set_option maxHeartbeats 4000000 in
theorem ck_11_1 : ∀ pc, pc < 26 → pm_chk 11 (40 + pc) cX0_convert (k_11 (40 + pc)) = true := fun pc h => pm_chq_ok ((by decide +kernel : ∀ pc, pc < 26 → pm_chq 11 40 pc cX0_convert (k_11 (40 + pc)) = true) pc h)
theorem ck_11 (pc : Nat) (h : pc < 66) : pm_chk 11 pc cX0_convert (k_11 pc) = true := by
  by_cases h0 : pc < 40
  · have e := ck_11_0 (pc - 0) (by omega)
    rwa [show 0 + (pc - 0) = pc by omega] at e
  have e := ck_11_1 (pc - 40) (by omega)
  rwa [show 40 + (pc - 40) = pc by omega] at e
set_option maxRecDepth 100000 in
set_option maxHeartbeats 4000000 in
theorem ck_12 : ∀ pc, pc < 35 → pm_chk 12 pc cX0_newThing (k_12 pc) = true := fun pc h => pm_chq_0 ((by decide +kernel : ∀ pc, pc < 35 → pm_chq 12 0 pc cX0_newThing (k_12 pc) = true) pc h)
set_option maxRecDepth 100000 in
set_option maxHeartbeats 4000000 in
theorem ck_13 : ∀ pc, pc < 15 → pm_chk 13 pc cX1_init (k_13 pc) = true := fun pc h => pm_chq_0 ((by decide +kernel : ∀ pc, pc < 15 → pm_chq 13 0 pc cX1_init (k_13 pc) = true) pc h)
set_option maxRecDepth 100000 in
set_option maxHeartbeats 4000000 in
theorem ck_14_0 : ∀ pc, pc < 40 → pm_chk 14 (0 + pc) cX2_init (k_14 (0 + pc)) = true := fun pc h => pm_chq_ok ((by decide +kernel : ∀ pc, pc < 40 → pm_chq 14 0 pc cX2_init (k_14 (0 + pc)) = true) pc h)
set_option maxRecDepth 100000 in
set_option maxHeartbeats 4000000 in
theorem ck_14_1 : ∀ pc, pc < 1 → pm_chk 14 (40 + pc) cX2_init (k_14 (40 + pc)) = true := fun pc h => pm_chq_ok ((by decide +kernel : ∀ pc, pc < 1 → pm_chq 14 40 pc cX2_init (k_14 (40 + pc)) = true) pc h)
theorem ck_14 (pc : Nat) (h : pc < 41) : pm_chk 14 pc cX2_init (k_14 pc) = true := by
  by_cases h0 : pc < 40
  · have e := ck_14_0 (pc - 0) (by omega)
    rwa [show 0 + (pc - 0) = pc by omega] at e
  have e := ck_14_1 (pc - 40) (by omega)
  rwa [show 40 + (pc - 40) = pc by omega] at e
set_option maxRecDepth 100000 in
set_option maxHeartbeats 4000000 in
theorem ck_15_0 : ∀ pc, pc < 40 → pm_chk 15 (0 + pc) cX2_find (k_15 (0 + pc)) = true := fun pc h => pm_chq_ok ((by decide +kernel : ∀ pc, pc < 40 → pm_chq 15 0 pc cX2_find (k_15 (0 + pc)) = true) pc h)
set_option maxRecDepth 100000 in
set_option maxHeartbeats 4000000 in
theorem ck_15_1 : ∀ pc, pc < 40 → pm_chk 15 (40 + pc) cX2_find (k_15 (40 + pc)) = true := fun pc h => pm_chq_ok ((by decide +kernel : ∀ pc, pc < 40 → pm_chq 15 40 pc cX2_find (k_15 (40 + pc)) = true) pc h)
set_option maxRecDepth 100000 in
set_option maxHeartbeats 4000000 in
theorem ck_15_2 : ∀ pc, pc < 40 → pm_chk 15 (80 + pc) cX2_find (k_15 (80 + pc)) = true := fun pc h => pm_chq_ok ((by decide +kernel : ∀ pc, pc < 40 → pm_chq 15 80 pc cX2_find (k_15 (80 + pc)) = true) pc h)
set_option maxRecDepth 100000 in
set_option maxHeartbeats 4000000 in
theorem ck_15_3 : ∀ pc, pc < 16 → pm_chk 15 (120 + pc) cX2_find (k_15 (120 + pc)) = true := fun pc h => pm_chq_ok ((by decide +kernel : ∀ pc, pc < 16 → pm_chq 15 120 pc cX2_find (k_15 (120 + pc)) = true) pc h)
theorem ck_15 (pc : Nat) (h : pc < 136) : pm_chk 15 pc cX2_find (k_15 pc) = true := by
  by_cases h0 : pc < 40
  · have e := ck_15_0 (pc - 0) (by omega)
    rwa [show 0 + (pc - 0) = pc by omega] at e
  by_cases h1 : pc < 80
  · have e := ck_15_1 (pc - 40) (by omega)
    rwa [show 40 + (pc - 40) = pc by omega] at e
  by_cases h2 : pc < 120
  · have e := ck_15_2 (pc - 80) (by omega)
    rwa [show 80 + (pc - 80) = pc by omega] at e
  have e := ck_15_3 (pc - 120) (by omega)
  rwa [show 120 + (pc - 120) = pc by omega] at e
set_option maxRecDepth 100000 in
set_option maxHeartbeats 4000000 in
theorem ck_16 : ∀ pc, pc < 19 → pm_chk 16 pc cX2_memberMeant (k_16 pc) = true := fun pc h => pm_chq_0 ((by decide +kernel : ∀ pc, pc < 19 → pm_chq 16 0 pc cX2_memberMeant (k_16 pc) = true) pc h)
set_option maxRecDepth 100000 in
set_option maxHeartbeats 4000000 in
theorem ck_17 : ∀ pc, pc < 24 → pm_chk 17 pc cX2_isInPhase3 (k_17 pc) = true := fun pc h => pm_chq_0 ((by decide +kernel : ∀ pc, pc < 24 → pm_chq 17 0 pc cX2_isInPhase3 (k_17 pc) = true) pc h)
set_option maxRecDepth 100000 in
set_option maxHeartbeats 4000000 in
theorem ck_18_0 : ∀ pc, pc < 40 → pm_chk 18 (0 + pc) cX2_whatComes (k_18 (0 + pc)) = true := fun pc h => pm_chq_ok ((by decide +kernel : ∀ pc, pc < 40 → pm_chq 18 0 pc cX2_whatComes (k_18 (0 + pc)) = true) pc h)
set_option maxRecDepth 100000 in
set_option maxHeartbeats 4000000 in
theorem ck_18_1 : ∀ pc, pc < 11 → pm_chk 18 (40 + pc) cX2_whatComes (k_18 (40 + pc)) = true := fun pc h => pm_chq_ok ((by decide +kernel : ∀ pc, pc < 11 → pm_chq 18 40 pc cX2_whatComes (k_18 (40 + pc)) = true) pc h)
theorem ck_18 (pc : Nat) (h : pc < 51) : pm_chk 18 pc cX2_whatComes (k_18 pc) = true := by
  by_cases h0 : pc < 40
  · have e := ck_18_0 (pc - 0) (by omega)
    rwa [show 0 + (pc - 0) = pc by omega] at e
  have e := ck_18_1 (pc - 40) (by omega)
  rwa [show 40 + (pc - 40) = pc by omega] at e
set_option maxRecDepth 100000 in
set_option maxHeartbeats 4000000 in
theorem ck_19_0 : ∀ pc, pc < 40 → pm_chk 19 (0 + pc) cX2_runSearch (k_19 (0 + pc)) = true := fun pc h => pm_chq_ok ((by decide +kernel : ∀ pc, pc < 40 → pm_chq 19 0 pc cX2_runSearch (k_19 (0 + pc)) = true) pc h)
set_option maxRecDepth 100000 in
set_option maxHeartbeats 4000000 in
theorem ck_19_1 : ∀ pc, pc < 16 → pm_chk 19 (40 + pc) cX2_runSearch (k_19 (40 + pc)) = true := fun pc h => pm_chq_ok ((by decide +kernel : ∀ pc, pc < 16 → pm_chq 19 40 pc cX2_runSearch (k_19 (40 + pc)) = true) pc h)
theorem ck_19 (pc : Nat) (h : pc < 56) : pm_chk 19 pc cX2_runSearch (k_19 pc) = true := by
  by_cases h0 : pc < 40
  · have e := ck_19_0 (pc - 0) (by omega)
    rwa [show 0 + (pc - 0) = pc by omega] at e
  have e := ck_19_1 (pc - 40) (by omega)
  rwa [show 40 + (pc - 40) = pc by omega] at e
set_option maxRecDepth 100000 in
set_option maxHeartbeats 4000000 in
theorem ck_20_0 : ∀ pc, pc < 40 → pm_chk 20 (0 + pc) cX2_namesOneAlone (k_20 (0 + pc)) = true := fun pc h => pm_chq_ok ((by decide +kernel : ∀ pc, pc < 40 → pm_chq 20 0 pc cX2_namesOneAlone (k_20 (0 + pc)) = true) pc h)
set_option maxRecDepth 100000 in
set_option maxHeartbeats 4000000 in
theorem ck_20_1 : ∀ pc, pc < 40 → pm_chk 20 (40 + pc) cX2_namesOneAlone (k_20 (40 + pc)) = true := fun pc h => pm_chq_ok ((by decide +kernel : ∀ pc, pc < 40 → pm_chq 20 40 pc cX2_namesOneAlone (k_20 (40 + pc)) = true) pc h)
set_option maxRecDepth 100000 in
set_option maxHeartbeats 4000000 in
theorem ck_20_2 : ∀ pc, pc < 1 → pm_chk 20 (80 + pc) cX2_namesOneAlone (k_20 (80 + pc)) = true := fun pc h => pm_chq_ok ((by decide +kernel : ∀ pc, pc < 1 → pm_chq 20 80 pc cX2_namesOneAlone (k_20 (80 + pc)) = true) pc h)
theorem ck_20 (pc : Nat) (h : pc < 81) : pm_chk 20 pc cX2_namesOneAlone (k_20 pc) = true := by
  by_cases h0 : pc < 40
  · have e := ck_20_0 (pc - 0) (by omega)
    rwa [show 0 + (pc - 0) = pc by omega] at e
  by_cases h1 : pc < 80
  · have e := ck_20_1 (pc - 40) (by omega)
    rwa [show 40 + (pc - 40) = pc by omega] at e
  have e := ck_20_2 (pc - 80) (by omega)
  rwa [show 80 + (pc - 80) = pc by omega] at e
set_option maxRecDepth 100000 in
set_option maxHeartbeats 4000000 in
theorem ck_21 : ∀ pc, pc < 27 → pm_chk 21 pc cX2_typeSearched (k_21 pc) = true := fun pc h => pm_chq_0 ((by decide +kernel : ∀ pc, pc < 27 → pm_chq 21 0 pc cX2_typeSearched (k_21 pc) = true) pc h)
set_option maxRecDepth 100000 in
set_option maxHeartbeats 4000000 in
theorem ck_22_0 : ∀ pc, pc < 40 → pm_chk 22 (0 + pc) cX2_faultOf (k_22 (0 + pc)) = true := fun pc h => pm_chq_ok ((by decide +kernel : ∀ pc, pc < 40 → pm_chq 22 0 pc cX2_faultOf (k_22 (0 + pc)) = true) pc h)
set_option maxRecDepth 100000 in
set_option maxHeartbeats 4000000 in
theorem ck_22_1 : ∀ pc, pc < 40 → pm_chk 22 (40 + pc) cX2_faultOf (k_22 (40 + pc)) = true := fun pc h => pm_chq_ok ((by decide +kernel : ∀ pc, pc < 40 → pm_chq 22 40 pc cX2_faultOf (k_22 (40 + pc)) = true) pc h)
set_option maxRecDepth 100000 in
set_option maxHeartbeats 4000000 in
theorem ck_22_2 : ∀ pc, pc < 40 → pm_chk 22 (80 + pc) cX2_faultOf (k_22 (80 + pc)) = true := fun pc h => pm_chq_ok ((by decide +kernel : ∀ pc, pc < 40 → pm_chq 22 80 pc cX2_faultOf (k_22 (80 + pc)) = true) pc h)
set_option maxRecDepth 100000 in
set_option maxHeartbeats 4000000 in
theorem ck_22_3 : ∀ pc, pc < 1 → pm_chk 22 (120 + pc) cX2_faultOf (k_22 (120 + pc)) = true := fun pc h => pm_chq_ok ((by decide +kernel : ∀ pc, pc < 1 → pm_chq 22 120 pc cX2_faultOf (k_22 (120 + pc)) = true) pc h)
theorem ck_22 (pc : Nat) (h : pc < 121) : pm_chk 22 pc cX2_faultOf (k_22 pc) = true := by
  by_cases h0 : pc < 40
  · have e := ck_22_0 (pc - 0) (by omega)
    rwa [show 0 + (pc - 0) = pc by omega] at e
  by_cases h1 : pc < 80
  · have e := ck_22_1 (pc - 40) (by omega)
    rwa [show 40 + (pc - 40) = pc by omega] at e
  by_cases h2 : pc < 120
  · have e := ck_22_2 (pc - 80) (by omega)
    rwa [show 80 + (pc - 80) = pc by omega] at e
  have e := ck_22_3 (pc - 120) (by omega)
  rwa [show 120 + (pc - 120) = pc by omega] at e
set_option maxRecDepth 100000 in
set_option maxHeartbeats 4000000 in
theorem ck_23_0 : ∀ pc, pc < 40 → pm_chk 23 (0 + pc) cX2_faultOfFirst (k_23 (0 + pc)) = true := fun pc h => pm_chq_ok ((by decide +kernel : ∀ pc, pc < 40 → pm_chq 23 0 pc cX2_faultOfFirst (k_23 (0 + pc)) = true) pc h)
set_option maxRecDepth 100000 in
set_option maxHeartbeats 4000000 in
theorem ck_23_1 : ∀ pc, pc < 28 → pm_chk 23 (40 + pc) cX2_faultOfFirst (k_23 (40 + pc)) = true := fun pc h => pm_chq_ok ((by decide +kernel : ∀ pc, pc < 28 → pm_chq 23 40 pc cX2_faultOfFirst (k_23 (40 + pc)) = true) pc h)
theorem ck_23 (pc : Nat) (h : pc < 68) : pm_chk 23 pc cX2_faultOfFirst (k_23 pc) = true := by
  by_cases h0 : pc < 40
  · have e := ck_23_0 (pc - 0) (by omega)
    rwa [show 0 + (pc - 0) = pc by omega] at e
  have e := ck_23_1 (pc - 40) (by omega)
  rwa [show 40 + (pc - 40) = pc by omega] at e
set_option maxRecDepth 100000 in
set_option maxHeartbeats 4000000 in
theorem ck_24_0 : ∀ pc, pc < 40 → pm_chk 24 (0 + pc) cX2_faultOfBoth (k_24 (0 + pc)) = true := fun pc h => pm_chq_ok ((by decide +kernel : ∀ pc, pc < 40 → pm_chq 24 0 pc cX2_faultOfBoth (k_24 (0 + pc)) = true) pc h)
set_option maxRecDepth 100000 in
set_option maxHeartbeats 4000000 in
theorem ck_24_1 : ∀ pc, pc < 40 → pm_chk 24 (40 + pc) cX2_faultOfBoth (k_24 (40 + pc)) = true := fun pc h => pm_chq_ok ((by decide +kernel : ∀ pc, pc < 40 → pm_chq 24 40 pc cX2_faultOfBoth (k_24 (40 + pc)) = true) pc h)
set_option maxRecDepth 100000 in
set_option maxHeartbeats 4000000 in
theorem ck_24_2 : ∀ pc, pc < 40 → pm_chk 24 (80 + pc) cX2_faultOfBoth (k_24 (80 + pc)) = true := fun pc h => pm_chq_ok ((by decide +kernel : ∀ pc, pc < 40 → pm_chq 24 80 pc cX2_faultOfBoth (k_24 (80 + pc)) = true) pc h)
set_option maxRecDepth 100000 in
set_option maxHeartbeats 4000000 in
theorem ck_24_3 : ∀ pc, pc < 23 → pm_chk 24 (120 + pc) cX2_faultOfBoth (k_24 (120 + pc)) = true := fun pc h => pm_chq_ok ((by decide +kernel : ∀ pc, pc < 23 → pm_chq 24 120 pc cX2_faultOfBoth (k_24 (120 + pc)) = true) pc h)
theorem ck_24 (pc : Nat) (h : pc < 143) : pm_chk 24 pc cX2_faultOfBoth (k_24 pc) = true := by
  by_cases h0 : pc < 40
  · have e := ck_24_0 (pc - 0) (by omega)
    rwa [show 0 + (pc - 0) = pc by omega] at e
  by_cases h1 : pc < 80
  · have e := ck_24_1 (pc - 40) (by omega)
    rwa [show 40 + (pc - 40) = pc by omega] at e
  by_cases h2 : pc < 120
  · have e := ck_24_2 (pc - 80) (by omega)
    rwa [show 80 + (pc - 80) = pc by omega] at e
  have e := ck_24_3 (pc - 120) (by omega)
  rwa [show 120 + (pc - 120) = pc by omega] at e
set_option maxRecDepth 100000 in
set_option maxHeartbeats 4000000 in
theorem ck_25_0 : ∀ pc, pc < 40 → pm_chk 25 (0 + pc) cX3_init (k_25 (0 + pc)) = true := fun pc h => pm_chq_ok ((by decide +kernel : ∀ pc, pc < 40 → pm_chq 25 0 pc cX3_init (k_25 (0 + pc)) = true) pc h)
set_option maxRecDepth 100000 in
set_option maxHeartbeats 4000000 in
theorem ck_25_1 : ∀ pc, pc < 8 → pm_chk 25 (40 + pc) cX3_init (k_25 (40 + pc)) = true := fun pc h => pm_chq_ok ((by decide +kernel : ∀ pc, pc < 8 → pm_chq 25 40 pc cX3_init (k_25 (40 + pc)) = true) pc h)
theorem ck_25 (pc : Nat) (h : pc < 48) : pm_chk 25 pc cX3_init (k_25 pc) = true := by
  by_cases h0 : pc < 40
  · have e := ck_25_0 (pc - 0) (by omega)
    rwa [show 0 + (pc - 0) = pc by omega] at e
  have e := ck_25_1 (pc - 40) (by omega)
  rwa [show 40 + (pc - 40) = pc by omega] at e
set_option maxRecDepth 100000 in
set_option maxHeartbeats 4000000 in
theorem ck_26_0 : ∀ pc, pc < 40 → pm_chk 26 (0 + pc) cX3_signatureOf (k_26 (0 + pc)) = true := fun pc h => pm_chq_ok ((by decide +kernel : ∀ pc, pc < 40 → pm_chq 26 0 pc cX3_signatureOf (k_26 (0 + pc)) = true) pc h)
set_option maxRecDepth 100000 in
set_option maxHeartbeats 4000000 in
theorem ck_26_1 : ∀ pc, pc < 2 → pm_chk 26 (40 + pc) cX3_signatureOf (k_26 (40 + pc)) = true := fun pc h => pm_chq_ok ((by decide +kernel : ∀ pc, pc < 2 → pm_chq 26 40 pc cX3_signatureOf (k_26 (40 + pc)) = true) pc h)
theorem ck_26 (pc : Nat) (h : pc < 42) : pm_chk 26 pc cX3_signatureOf (k_26 pc) = true := by
  by_cases h0 : pc < 40
  · have e := ck_26_0 (pc - 0) (by omega)
    rwa [show 0 + (pc - 0) = pc by omega] at e
  have e := ck_26_1 (pc - 40) (by omega)
  rwa [show 40 + (pc - 40) = pc by omega] at e
set_option maxRecDepth 100000 in
set_option maxHeartbeats 4000000 in
theorem ck_27 : ∀ pc, pc < 15 → pm_chk 27 pc cX3_isStatic (k_27 pc) = true := fun pc h => pm_chq_0 ((by decide +kernel : ∀ pc, pc < 15 → pm_chq 27 0 pc cX3_isStatic (k_27 pc) = true) pc h)
set_option maxRecDepth 100000 in
set_option maxHeartbeats 4000000 in
theorem ck_28 : ∀ pc, pc < 15 → pm_chk 28 pc cX3_isAbstract (k_28 pc) = true := fun pc h => pm_chq_0 ((by decide +kernel : ∀ pc, pc < 15 → pm_chq 28 0 pc cX3_isAbstract (k_28 pc) = true) pc h)
set_option maxRecDepth 100000 in
set_option maxHeartbeats 4000000 in
theorem ck_29 : ∀ pc, pc < 15 → pm_chk 29 pc cX3_isVaried (k_29 pc) = true := fun pc h => pm_chq_0 ((by decide +kernel : ∀ pc, pc < 15 → pm_chq 29 0 pc cX3_isVaried (k_29 pc) = true) pc h)
set_option maxRecDepth 100000 in
set_option maxHeartbeats 4000000 in
theorem ck_30_0 : ∀ pc, pc < 40 → pm_chk 30 (0 + pc) cX3_typeAt (k_30 (0 + pc)) = true := fun pc h => pm_chq_ok ((by decide +kernel : ∀ pc, pc < 40 → pm_chq 30 0 pc cX3_typeAt (k_30 (0 + pc)) = true) pc h)
set_option maxRecDepth 100000 in
set_option maxHeartbeats 4000000 in
theorem ck_30_1 : ∀ pc, pc < 30 → pm_chk 30 (40 + pc) cX3_typeAt (k_30 (40 + pc)) = true := fun pc h => pm_chq_ok ((by decide +kernel : ∀ pc, pc < 30 → pm_chq 30 40 pc cX3_typeAt (k_30 (40 + pc)) = true) pc h)
theorem ck_30 (pc : Nat) (h : pc < 70) : pm_chk 30 pc cX3_typeAt (k_30 pc) = true := by
  by_cases h0 : pc < 40
  · have e := ck_30_0 (pc - 0) (by omega)
    rwa [show 0 + (pc - 0) = pc by omega] at e
  have e := ck_30_1 (pc - 40) (by omega)
  rwa [show 40 + (pc - 40) = pc by omega] at e
set_option maxRecDepth 100000 in
set_option maxHeartbeats 4000000 in
theorem ck_31_0 : ∀ pc, pc < 40 → pm_chk 31 (0 + pc) cX3_agreesWith (k_31 (0 + pc)) = true := fun pc h => pm_chq_ok ((by decide +kernel : ∀ pc, pc < 40 → pm_chq 31 0 pc cX3_agreesWith (k_31 (0 + pc)) = true) pc h)
set_option maxRecDepth 100000 in
set_option maxHeartbeats 4000000 in
theorem ck_31_1 : ∀ pc, pc < 2 → pm_chk 31 (40 + pc) cX3_agreesWith (k_31 (40 + pc)) = true := fun pc h => pm_chq_ok ((by decide +kernel : ∀ pc, pc < 2 → pm_chq 31 40 pc cX3_agreesWith (k_31 (40 + pc)) = true) pc h)
theorem ck_31 (pc : Nat) (h : pc < 42) : pm_chk 31 pc cX3_agreesWith (k_31 pc) = true := by
  by_cases h0 : pc < 40
  · have e := ck_31_0 (pc - 0) (by omega)
    rwa [show 0 + (pc - 0) = pc by omega] at e
  have e := ck_31_1 (pc - 40) (by omega)
  rwa [show 40 + (pc - 40) = pc by omega] at e
set_option maxRecDepth 100000 in
set_option maxHeartbeats 4000000 in
theorem ck_32 : ∀ pc, pc < 35 → pm_chk 32 pc cX4_init (k_32 pc) = true := fun pc h => pm_chq_0 ((by decide +kernel : ∀ pc, pc < 35 → pm_chq 32 0 pc cX4_init (k_32 pc) = true) pc h)
set_option maxRecDepth 100000 in
set_option maxHeartbeats 4000000 in
theorem ck_33 : ∀ pc, pc < 5 → pm_chk 33 pc cX4_size (k_33 pc) = true := fun pc h => pm_chq_0 ((by decide +kernel : ∀ pc, pc < 5 → pm_chq 33 0 pc cX4_size (k_33 pc) = true) pc h)
set_option maxRecDepth 100000 in
set_option maxHeartbeats 4000000 in
theorem ck_34 : ∀ pc, pc < 15 → pm_chk 34 pc cX4_isFull (k_34 pc) = true := fun pc h => pm_chq_0 ((by decide +kernel : ∀ pc, pc < 15 → pm_chq 34 0 pc cX4_isFull (k_34 pc) = true) pc h)
set_option maxRecDepth 100000 in
set_option maxHeartbeats 4000000 in
theorem ck_35_0 : ∀ pc, pc < 40 → pm_chk 35 (0 + pc) cX4_inherit (k_35 (0 + pc)) = true := fun pc h => pm_chq_ok ((by decide +kernel : ∀ pc, pc < 40 → pm_chq 35 0 pc cX4_inherit (k_35 (0 + pc)) = true) pc h)
set_option maxRecDepth 100000 in
set_option maxHeartbeats 4000000 in
theorem ck_35_1 : ∀ pc, pc < 7 → pm_chk 35 (40 + pc) cX4_inherit (k_35 (40 + pc)) = true := fun pc h => pm_chq_ok ((by decide +kernel : ∀ pc, pc < 7 → pm_chq 35 40 pc cX4_inherit (k_35 (40 + pc)) = true) pc h)
theorem ck_35 (pc : Nat) (h : pc < 47) : pm_chk 35 pc cX4_inherit (k_35 pc) = true := by
  by_cases h0 : pc < 40
  · have e := ck_35_0 (pc - 0) (by omega)
    rwa [show 0 + (pc - 0) = pc by omega] at e
  have e := ck_35_1 (pc - 40) (by omega)
  rwa [show 40 + (pc - 40) = pc by omega] at e
set_option maxRecDepth 100000 in
set_option maxHeartbeats 4000000 in
theorem ck_36_0 : ∀ pc, pc < 40 → pm_chk 36 (0 + pc) cX4_add (k_36 (0 + pc)) = true := fun pc h => pm_chq_ok ((by decide +kernel : ∀ pc, pc < 40 → pm_chq 36 0 pc cX4_add (k_36 (0 + pc)) = true) pc h)
set_option maxRecDepth 100000 in
set_option maxHeartbeats 4000000 in
theorem ck_36_1 : ∀ pc, pc < 40 → pm_chk 36 (40 + pc) cX4_add (k_36 (40 + pc)) = true := fun pc h => pm_chq_ok ((by decide +kernel : ∀ pc, pc < 40 → pm_chq 36 40 pc cX4_add (k_36 (40 + pc)) = true) pc h)
set_option maxRecDepth 100000 in
set_option maxHeartbeats 4000000 in
theorem ck_36_2 : ∀ pc, pc < 40 → pm_chk 36 (80 + pc) cX4_add (k_36 (80 + pc)) = true := fun pc h => pm_chq_ok ((by decide +kernel : ∀ pc, pc < 40 → pm_chq 36 80 pc cX4_add (k_36 (80 + pc)) = true) pc h)
set_option maxRecDepth 100000 in
set_option maxHeartbeats 4000000 in
theorem ck_36_3 : ∀ pc, pc < 40 → pm_chk 36 (120 + pc) cX4_add (k_36 (120 + pc)) = true := fun pc h => pm_chq_ok ((by decide +kernel : ∀ pc, pc < 40 → pm_chq 36 120 pc cX4_add (k_36 (120 + pc)) = true) pc h)
set_option maxRecDepth 100000 in
set_option maxHeartbeats 4000000 in
theorem ck_36_4 : ∀ pc, pc < 20 → pm_chk 36 (160 + pc) cX4_add (k_36 (160 + pc)) = true := fun pc h => pm_chq_ok ((by decide +kernel : ∀ pc, pc < 20 → pm_chq 36 160 pc cX4_add (k_36 (160 + pc)) = true) pc h)
theorem ck_36 (pc : Nat) (h : pc < 180) : pm_chk 36 pc cX4_add (k_36 pc) = true := by
  by_cases h0 : pc < 40
  · have e := ck_36_0 (pc - 0) (by omega)
    rwa [show 0 + (pc - 0) = pc by omega] at e
  by_cases h1 : pc < 80
  · have e := ck_36_1 (pc - 40) (by omega)
    rwa [show 40 + (pc - 40) = pc by omega] at e
  by_cases h2 : pc < 120
  · have e := ck_36_2 (pc - 80) (by omega)
    rwa [show 80 + (pc - 80) = pc by omega] at e
  by_cases h3 : pc < 160
  · have e := ck_36_3 (pc - 120) (by omega)
    rwa [show 120 + (pc - 120) = pc by omega] at e
  have e := ck_36_4 (pc - 160) (by omega)
  rwa [show 160 + (pc - 160) = pc by omega] at e
set_option maxRecDepth 100000 in
set_option maxHeartbeats 4000000 in
theorem ck_37_0 : ∀ pc, pc < 40 → pm_chk 37 (0 + pc) cX4_putInto (k_37 (0 + pc)) = true := fun pc h => pm_chq_ok ((by decide +kernel : ∀ pc, pc < 40 → pm_chq 37 0 pc cX4_putInto (k_37 (0 + pc)) = true) pc h)
set_option maxRecDepth 100000 in
set_option maxHeartbeats 4000000 in
theorem ck_37_1 : ∀ pc, pc < 40 → pm_chk 37 (40 + pc) cX4_putInto (k_37 (40 + pc)) = true := fun pc h => pm_chq_ok ((by decide +kernel : ∀ pc, pc < 40 → pm_chq 37 40 pc cX4_putInto (k_37 (40 + pc)) = true) pc h)
set_option maxRecDepth 100000 in
set_option maxHeartbeats 4000000 in
theorem ck_37_2 : ∀ pc, pc < 21 → pm_chk 37 (80 + pc) cX4_putInto (k_37 (80 + pc)) = true := fun pc h => pm_chq_ok ((by decide +kernel : ∀ pc, pc < 21 → pm_chq 37 80 pc cX4_putInto (k_37 (80 + pc)) = true) pc h)
theorem ck_37 (pc : Nat) (h : pc < 101) : pm_chk 37 pc cX4_putInto (k_37 pc) = true := by
  by_cases h0 : pc < 40
  · have e := ck_37_0 (pc - 0) (by omega)
    rwa [show 0 + (pc - 0) = pc by omega] at e
  by_cases h1 : pc < 80
  · have e := ck_37_1 (pc - 40) (by omega)
    rwa [show 40 + (pc - 40) = pc by omega] at e
  have e := ck_37_2 (pc - 80) (by omega)
  rwa [show 80 + (pc - 80) = pc by omega] at e
set_option maxRecDepth 100000 in
set_option maxHeartbeats 4000000 in
theorem ck_38_0 : ∀ pc, pc < 40 → pm_chk 38 (0 + pc) cX4_clashes (k_38 (0 + pc)) = true := fun pc h => pm_chq_ok ((by decide +kernel : ∀ pc, pc < 40 → pm_chq 38 0 pc cX4_clashes (k_38 (0 + pc)) = true) pc h)
set_option maxRecDepth 100000 in
set_option maxHeartbeats 4000000 in
theorem ck_38_1 : ∀ pc, pc < 10 → pm_chk 38 (40 + pc) cX4_clashes (k_38 (40 + pc)) = true := fun pc h => pm_chq_ok ((by decide +kernel : ∀ pc, pc < 10 → pm_chq 38 40 pc cX4_clashes (k_38 (40 + pc)) = true) pc h)
theorem ck_38 (pc : Nat) (h : pc < 50) : pm_chk 38 pc cX4_clashes (k_38 pc) = true := by
  by_cases h0 : pc < 40
  · have e := ck_38_0 (pc - 0) (by omega)
    rwa [show 0 + (pc - 0) = pc by omega] at e
  have e := ck_38_1 (pc - 40) (by omega)
  rwa [show 40 + (pc - 40) = pc by omega] at e
set_option maxRecDepth 100000 in
set_option maxHeartbeats 4000000 in
theorem ck_39_0 : ∀ pc, pc < 40 → pm_chk 39 (0 + pc) cX4_clashesWith (k_39 (0 + pc)) = true := fun pc h => pm_chq_ok ((by decide +kernel : ∀ pc, pc < 40 → pm_chq 39 0 pc cX4_clashesWith (k_39 (0 + pc)) = true) pc h)
set_option maxRecDepth 100000 in
set_option maxHeartbeats 4000000 in
theorem ck_39_1 : ∀ pc, pc < 40 → pm_chk 39 (40 + pc) cX4_clashesWith (k_39 (40 + pc)) = true := fun pc h => pm_chq_ok ((by decide +kernel : ∀ pc, pc < 40 → pm_chq 39 40 pc cX4_clashesWith (k_39 (40 + pc)) = true) pc h)
set_option maxRecDepth 100000 in
set_option maxHeartbeats 4000000 in
theorem ck_39_2 : ∀ pc, pc < 2 → pm_chk 39 (80 + pc) cX4_clashesWith (k_39 (80 + pc)) = true := fun pc h => pm_chq_ok ((by decide +kernel : ∀ pc, pc < 2 → pm_chq 39 80 pc cX4_clashesWith (k_39 (80 + pc)) = true) pc h)
theorem ck_39 (pc : Nat) (h : pc < 82) : pm_chk 39 pc cX4_clashesWith (k_39 pc) = true := by
  by_cases h0 : pc < 40
  · have e := ck_39_0 (pc - 0) (by omega)
    rwa [show 0 + (pc - 0) = pc by omega] at e
  by_cases h1 : pc < 80
  · have e := ck_39_1 (pc - 40) (by omega)
    rwa [show 40 + (pc - 40) = pc by omega] at e
  have e := ck_39_2 (pc - 80) (by omega)
  rwa [show 80 + (pc - 80) = pc by omega] at e
set_option maxRecDepth 100000 in
set_option maxHeartbeats 4000000 in
theorem ck_40_0 : ∀ pc, pc < 40 → pm_chk 40 (0 + pc) cX4_numberOfHad (k_40 (0 + pc)) = true := fun pc h => pm_chq_ok ((by decide +kernel : ∀ pc, pc < 40 → pm_chq 40 0 pc cX4_numberOfHad (k_40 (0 + pc)) = true) pc h)
set_option maxRecDepth 100000 in
set_option maxHeartbeats 4000000 in
theorem ck_40_1 : ∀ pc, pc < 7 → pm_chk 40 (40 + pc) cX4_numberOfHad (k_40 (40 + pc)) = true := fun pc h => pm_chq_ok ((by decide +kernel : ∀ pc, pc < 7 → pm_chq 40 40 pc cX4_numberOfHad (k_40 (40 + pc)) = true) pc h)
theorem ck_40 (pc : Nat) (h : pc < 47) : pm_chk 40 pc cX4_numberOfHad (k_40 pc) = true := by
  by_cases h0 : pc < 40
  · have e := ck_40_0 (pc - 0) (by omega)
    rwa [show 0 + (pc - 0) = pc by omega] at e
  have e := ck_40_1 (pc - 40) (by omega)
  rwa [show 40 + (pc - 40) = pc by omega] at e
set_option maxRecDepth 100000 in
set_option maxHeartbeats 4000000 in
theorem ck_41 : ∀ pc, pc < 21 → pm_chk 41 pc cX4_isOpen (k_41 pc) = true := fun pc h => pm_chq_0 ((by decide +kernel : ∀ pc, pc < 21 → pm_chq 41 0 pc cX4_isOpen (k_41 pc) = true) pc h)
set_option maxRecDepth 100000 in
set_option maxHeartbeats 4000000 in
theorem ck_42 : ∀ pc, pc < 27 → pm_chk 42 pc cX4_namedIn (k_42 pc) = true := fun pc h => pm_chq_0 ((by decide +kernel : ∀ pc, pc < 27 → pm_chq 42 0 pc cX4_namedIn (k_42 pc) = true) pc h)
set_option maxRecDepth 100000 in
set_option maxHeartbeats 4000000 in
theorem ck_43 : ∀ pc, pc < 18 → pm_chk 43 pc cX4_hasMaker (k_43 pc) = true := fun pc h => pm_chq_0 ((by decide +kernel : ∀ pc, pc < 18 → pm_chq 43 0 pc cX4_hasMaker (k_43 pc) = true) pc h)
set_option maxRecDepth 100000 in
set_option maxHeartbeats 4000000 in
theorem ck_44_0 : ∀ pc, pc < 40 → pm_chk 44 (0 + pc) cX4_takenFor (k_44 (0 + pc)) = true := fun pc h => pm_chq_ok ((by decide +kernel : ∀ pc, pc < 40 → pm_chq 44 0 pc cX4_takenFor (k_44 (0 + pc)) = true) pc h)
set_option maxRecDepth 100000 in
set_option maxHeartbeats 4000000 in
theorem ck_44_1 : ∀ pc, pc < 13 → pm_chk 44 (40 + pc) cX4_takenFor (k_44 (40 + pc)) = true := fun pc h => pm_chq_ok ((by decide +kernel : ∀ pc, pc < 13 → pm_chq 44 40 pc cX4_takenFor (k_44 (40 + pc)) = true) pc h)
theorem ck_44 (pc : Nat) (h : pc < 53) : pm_chk 44 pc cX4_takenFor (k_44 pc) = true := by
  by_cases h0 : pc < 40
  · have e := ck_44_0 (pc - 0) (by omega)
    rwa [show 0 + (pc - 0) = pc by omega] at e
  have e := ck_44_1 (pc - 40) (by omega)
  rwa [show 40 + (pc - 40) = pc by omega] at e
set_option maxRecDepth 100000 in
set_option maxHeartbeats 4000000 in
theorem ck_45 : ∀ pc, pc < 23 → pm_chk 45 pc cX4_at (k_45 pc) = true := fun pc h => pm_chq_0 ((by decide +kernel : ∀ pc, pc < 23 → pm_chq 45 0 pc cX4_at (k_45 pc) = true) pc h)
set_option maxRecDepth 100000 in
set_option maxHeartbeats 4000000 in
theorem ck_46 : ∀ pc, pc < 17 → pm_chk 46 pc cX4_isAnyStatic (k_46 pc) = true := fun pc h => pm_chq_0 ((by decide +kernel : ∀ pc, pc < 17 → pm_chq 46 0 pc cX4_isAnyStatic (k_46 pc) = true) pc h)
set_option maxRecDepth 100000 in
set_option maxHeartbeats 4000000 in
theorem ck_47 : ∀ pc, pc < 21 → pm_chk 47 pc cX4_isAnyOtherThanStatic (k_47 pc) = true := fun pc h => pm_chq_0 ((by decide +kernel : ∀ pc, pc < 21 → pm_chq 47 0 pc cX4_isAnyOtherThanStatic (k_47 pc) = true) pc h)
set_option maxRecDepth 100000 in
set_option maxHeartbeats 4000000 in
theorem ck_48 : ∀ pc, pc < 17 → pm_chk 48 pc cX4_isAnyVaried (k_48 pc) = true := fun pc h => pm_chq_0 ((by decide +kernel : ∀ pc, pc < 17 → pm_chq 48 0 pc cX4_isAnyVaried (k_48 pc) = true) pc h)
set_option maxRecDepth 100000 in
set_option maxHeartbeats 4000000 in
theorem ck_49 : ∀ pc, pc < 38 → pm_chk 49 pc cX4_hadBy (k_49 pc) = true := fun pc h => pm_chq_0 ((by decide +kernel : ∀ pc, pc < 38 → pm_chq 49 0 pc cX4_hadBy (k_49 pc) = true) pc h)
set_option maxRecDepth 100000 in
set_option maxHeartbeats 4000000 in
theorem ck_50 : ∀ pc, pc < 16 → pm_chk 50 pc cX4_isIn (k_50 pc) = true := fun pc h => pm_chq_0 ((by decide +kernel : ∀ pc, pc < 16 → pm_chq 50 0 pc cX4_isIn (k_50 pc) = true) pc h)
set_option maxRecDepth 100000 in
set_option maxHeartbeats 4000000 in
theorem ck_51 : ∀ pc, pc < 20 → pm_chk 51 pc cX5_init (k_51 pc) = true := fun pc h => pm_chq_0 ((by decide +kernel : ∀ pc, pc < 20 → pm_chq 51 0 pc cX5_init (k_51 pc) = true) pc h)
set_option maxRecDepth 100000 in
set_option maxHeartbeats 4000000 in
theorem ck_52 : ∀ pc, pc < 15 → pm_chk 52 pc cX6_init (k_52 pc) = true := fun pc h => pm_chq_0 ((by decide +kernel : ∀ pc, pc < 15 → pm_chq 52 0 pc cX6_init (k_52 pc) = true) pc h)
set_option maxRecDepth 100000 in
set_option maxHeartbeats 4000000 in
theorem ck_53_0 : ∀ pc, pc < 40 → pm_chk 53 (0 + pc) cX6_run (k_53 (0 + pc)) = true := fun pc h => pm_chq_ok ((by decide +kernel : ∀ pc, pc < 40 → pm_chq 53 0 pc cX6_run (k_53 (0 + pc)) = true) pc h)
set_option maxRecDepth 100000 in
set_option maxHeartbeats 4000000 in
theorem ck_53_1 : ∀ pc, pc < 40 → pm_chk 53 (40 + pc) cX6_run (k_53 (40 + pc)) = true := fun pc h => pm_chq_ok ((by decide +kernel : ∀ pc, pc < 40 → pm_chq 53 40 pc cX6_run (k_53 (40 + pc)) = true) pc h)
set_option maxRecDepth 100000 in
set_option maxHeartbeats 4000000 in
theorem ck_53_2 : ∀ pc, pc < 37 → pm_chk 53 (80 + pc) cX6_run (k_53 (80 + pc)) = true := fun pc h => pm_chq_ok ((by decide +kernel : ∀ pc, pc < 37 → pm_chq 53 80 pc cX6_run (k_53 (80 + pc)) = true) pc h)
theorem ck_53 (pc : Nat) (h : pc < 117) : pm_chk 53 pc cX6_run (k_53 pc) = true := by
  by_cases h0 : pc < 40
  · have e := ck_53_0 (pc - 0) (by omega)
    rwa [show 0 + (pc - 0) = pc by omega] at e
  by_cases h1 : pc < 80
  · have e := ck_53_1 (pc - 40) (by omega)
    rwa [show 40 + (pc - 40) = pc by omega] at e
  have e := ck_53_2 (pc - 80) (by omega)
  rwa [show 80 + (pc - 80) = pc by omega] at e
set_option maxRecDepth 100000 in
set_option maxHeartbeats 4000000 in
theorem ck_54 : ∀ pc, pc < 32 → pm_chk 54 pc cX6_answer (k_54 pc) = true := fun pc h => pm_chq_0 ((by decide +kernel : ∀ pc, pc < 32 → pm_chq 54 0 pc cX6_answer (k_54 pc) = true) pc h)
set_option maxRecDepth 100000 in
set_option maxHeartbeats 4000000 in
theorem ck_55 : ∀ pc, pc < 12 → pm_chk 55 pc cX6_hasStatic (k_55 pc) = true := fun pc h => pm_chq_0 ((by decide +kernel : ∀ pc, pc < 12 → pm_chq 55 0 pc cX6_hasStatic (k_55 pc) = true) pc h)
set_option maxRecDepth 100000 in
set_option maxHeartbeats 4000000 in
theorem ck_56 : ∀ pc, pc < 12 → pm_chk 56 pc cX6_hasOtherThanStatic (k_56 pc) = true := fun pc h => pm_chq_0 ((by decide +kernel : ∀ pc, pc < 12 → pm_chq 56 0 pc cX6_hasOtherThanStatic (k_56 pc) = true) pc h)
set_option maxRecDepth 100000 in
set_option maxHeartbeats 4000000 in
theorem ck_57 : ∀ pc, pc < 11 → pm_chk 57 pc cX6_argumentCount (k_57 pc) = true := fun pc h => pm_chq_0 ((by decide +kernel : ∀ pc, pc < 11 → pm_chq 57 0 pc cX6_argumentCount (k_57 pc) = true) pc h)
set_option maxRecDepth 100000 in
set_option maxHeartbeats 4000000 in
theorem ck_58_0 : ∀ pc, pc < 40 → pm_chk 58 (0 + pc) cX6_gatherFit (k_58 (0 + pc)) = true := fun pc h => pm_chq_ok ((by decide +kernel : ∀ pc, pc < 40 → pm_chq 58 0 pc cX6_gatherFit (k_58 (0 + pc)) = true) pc h)
set_option maxRecDepth 100000 in
set_option maxHeartbeats 4000000 in
theorem ck_58_1 : ∀ pc, pc < 26 → pm_chk 58 (40 + pc) cX6_gatherFit (k_58 (40 + pc)) = true := fun pc h => pm_chq_ok ((by decide +kernel : ∀ pc, pc < 26 → pm_chq 58 40 pc cX6_gatherFit (k_58 (40 + pc)) = true) pc h)
theorem ck_58 (pc : Nat) (h : pc < 66) : pm_chk 58 pc cX6_gatherFit (k_58 pc) = true := by
  by_cases h0 : pc < 40
  · have e := ck_58_0 (pc - 0) (by omega)
    rwa [show 0 + (pc - 0) = pc by omega] at e
  have e := ck_58_1 (pc - 40) (by omega)
  rwa [show 40 + (pc - 40) = pc by omega] at e
set_option maxRecDepth 100000 in
set_option maxHeartbeats 4000000 in
theorem ck_59_0 : ∀ pc, pc < 40 → pm_chk 59 (0 + pc) cX6_fits (k_59 (0 + pc)) = true := fun pc h => pm_chq_ok ((by decide +kernel : ∀ pc, pc < 40 → pm_chq 59 0 pc cX6_fits (k_59 (0 + pc)) = true) pc h)
set_option maxRecDepth 100000 in
set_option maxHeartbeats 4000000 in
theorem ck_59_1 : ∀ pc, pc < 40 → pm_chk 59 (40 + pc) cX6_fits (k_59 (40 + pc)) = true := fun pc h => pm_chq_ok ((by decide +kernel : ∀ pc, pc < 40 → pm_chq 59 40 pc cX6_fits (k_59 (40 + pc)) = true) pc h)
set_option maxRecDepth 100000 in
set_option maxHeartbeats 4000000 in
theorem ck_59_2 : ∀ pc, pc < 40 → pm_chk 59 (80 + pc) cX6_fits (k_59 (80 + pc)) = true := fun pc h => pm_chq_ok ((by decide +kernel : ∀ pc, pc < 40 → pm_chq 59 80 pc cX6_fits (k_59 (80 + pc)) = true) pc h)
set_option maxRecDepth 100000 in
set_option maxHeartbeats 4000000 in
theorem ck_59_3 : ∀ pc, pc < 2 → pm_chk 59 (120 + pc) cX6_fits (k_59 (120 + pc)) = true := fun pc h => pm_chq_ok ((by decide +kernel : ∀ pc, pc < 2 → pm_chq 59 120 pc cX6_fits (k_59 (120 + pc)) = true) pc h)
theorem ck_59 (pc : Nat) (h : pc < 122) : pm_chk 59 pc cX6_fits (k_59 pc) = true := by
  by_cases h0 : pc < 40
  · have e := ck_59_0 (pc - 0) (by omega)
    rwa [show 0 + (pc - 0) = pc by omega] at e
  by_cases h1 : pc < 80
  · have e := ck_59_1 (pc - 40) (by omega)
    rwa [show 40 + (pc - 40) = pc by omega] at e
  by_cases h2 : pc < 120
  · have e := ck_59_2 (pc - 80) (by omega)
    rwa [show 80 + (pc - 80) = pc by omega] at e
  have e := ck_59_3 (pc - 120) (by omega)
  rwa [show 120 + (pc - 120) = pc by omega] at e
set_option maxRecDepth 100000 in
set_option maxHeartbeats 4000000 in
theorem ck_60_0 : ∀ pc, pc < 40 → pm_chk 60 (0 + pc) cX6_mostSpecial (k_60 (0 + pc)) = true := fun pc h => pm_chq_ok ((by decide +kernel : ∀ pc, pc < 40 → pm_chq 60 0 pc cX6_mostSpecial (k_60 (0 + pc)) = true) pc h)
set_option maxRecDepth 100000 in
set_option maxHeartbeats 4000000 in
theorem ck_60_1 : ∀ pc, pc < 24 → pm_chk 60 (40 + pc) cX6_mostSpecial (k_60 (40 + pc)) = true := fun pc h => pm_chq_ok ((by decide +kernel : ∀ pc, pc < 24 → pm_chq 60 40 pc cX6_mostSpecial (k_60 (40 + pc)) = true) pc h)
theorem ck_60 (pc : Nat) (h : pc < 64) : pm_chk 60 pc cX6_mostSpecial (k_60 pc) = true := by
  by_cases h0 : pc < 40
  · have e := ck_60_0 (pc - 0) (by omega)
    rwa [show 0 + (pc - 0) = pc by omega] at e
  have e := ck_60_1 (pc - 40) (by omega)
  rwa [show 40 + (pc - 40) = pc by omega] at e
set_option maxRecDepth 100000 in
set_option maxHeartbeats 4000000 in
theorem ck_61_0 : ∀ pc, pc < 40 → pm_chk 61 (0 + pc) cX6_isSpecial (k_61 (0 + pc)) = true := fun pc h => pm_chq_ok ((by decide +kernel : ∀ pc, pc < 40 → pm_chq 61 0 pc cX6_isSpecial (k_61 (0 + pc)) = true) pc h)
set_option maxRecDepth 100000 in
set_option maxHeartbeats 4000000 in
theorem ck_61_1 : ∀ pc, pc < 10 → pm_chk 61 (40 + pc) cX6_isSpecial (k_61 (40 + pc)) = true := fun pc h => pm_chq_ok ((by decide +kernel : ∀ pc, pc < 10 → pm_chq 61 40 pc cX6_isSpecial (k_61 (40 + pc)) = true) pc h)
theorem ck_61 (pc : Nat) (h : pc < 50) : pm_chk 61 pc cX6_isSpecial (k_61 pc) = true := by
  by_cases h0 : pc < 40
  · have e := ck_61_0 (pc - 0) (by omega)
    rwa [show 0 + (pc - 0) = pc by omega] at e
  have e := ck_61_1 (pc - 40) (by omega)
  rwa [show 40 + (pc - 40) = pc by omega] at e
set_option maxRecDepth 100000 in
set_option maxHeartbeats 4000000 in
theorem ck_62_0 : ∀ pc, pc < 40 → pm_chk 62 (0 + pc) cX6_isUnderAll (k_62 (0 + pc)) = true := fun pc h => pm_chq_ok ((by decide +kernel : ∀ pc, pc < 40 → pm_chq 62 0 pc cX6_isUnderAll (k_62 (0 + pc)) = true) pc h)
set_option maxRecDepth 100000 in
set_option maxHeartbeats 4000000 in
theorem ck_62_1 : ∀ pc, pc < 40 → pm_chk 62 (40 + pc) cX6_isUnderAll (k_62 (40 + pc)) = true := fun pc h => pm_chq_ok ((by decide +kernel : ∀ pc, pc < 40 → pm_chq 62 40 pc cX6_isUnderAll (k_62 (40 + pc)) = true) pc h)
theorem ck_62 (pc : Nat) (h : pc < 80) : pm_chk 62 pc cX6_isUnderAll (k_62 pc) = true := by
  by_cases h0 : pc < 40
  · have e := ck_62_0 (pc - 0) (by omega)
    rwa [show 0 + (pc - 0) = pc by omega] at e
  have e := ck_62_1 (pc - 40) (by omega)
  rwa [show 40 + (pc - 40) = pc by omega] at e
set_option maxRecDepth 100000 in
set_option maxHeartbeats 4000000 in
theorem ck_63 : ∀ pc, pc < 30 → pm_chk 63 pc cX7_init (k_63 pc) = true := fun pc h => pm_chq_0 ((by decide +kernel : ∀ pc, pc < 30 → pm_chq 63 0 pc cX7_init (k_63 pc) = true) pc h)
set_option maxRecDepth 100000 in
set_option maxHeartbeats 4000000 in
theorem ck_64 : ∀ pc, pc < 5 → pm_chk 64 pc cX7_size (k_64 pc) = true := fun pc h => pm_chq_0 ((by decide +kernel : ∀ pc, pc < 5 → pm_chq 64 0 pc cX7_size (k_64 pc) = true) pc h)
set_option maxRecDepth 100000 in
set_option maxHeartbeats 4000000 in
theorem ck_65 : ∀ pc, pc < 19 → pm_chk 65 pc cX7_isThing (k_65 pc) = true := fun pc h => pm_chq_0 ((by decide +kernel : ∀ pc, pc < 19 → pm_chq 65 0 pc cX7_isThing (k_65 pc) = true) pc h)
set_option maxRecDepth 100000 in
set_option maxHeartbeats 4000000 in
theorem ck_66_0 : ∀ pc, pc < 40 → pm_chk 66 (0 + pc) cX7_add (k_66 (0 + pc)) = true := fun pc h => pm_chq_ok ((by decide +kernel : ∀ pc, pc < 40 → pm_chq 66 0 pc cX7_add (k_66 (0 + pc)) = true) pc h)
set_option maxRecDepth 100000 in
set_option maxHeartbeats 4000000 in
theorem ck_66_1 : ∀ pc, pc < 36 → pm_chk 66 (40 + pc) cX7_add (k_66 (40 + pc)) = true := fun pc h => pm_chq_ok ((by decide +kernel : ∀ pc, pc < 36 → pm_chq 66 40 pc cX7_add (k_66 (40 + pc)) = true) pc h)
theorem ck_66 (pc : Nat) (h : pc < 76) : pm_chk 66 pc cX7_add (k_66 pc) = true := by
  by_cases h0 : pc < 40
  · have e := ck_66_0 (pc - 0) (by omega)
    rwa [show 0 + (pc - 0) = pc by omega] at e
  have e := ck_66_1 (pc - 40) (by omega)
  rwa [show 40 + (pc - 40) = pc by omega] at e
set_option maxRecDepth 100000 in
set_option maxHeartbeats 4000000 in
theorem ck_67 : ∀ pc, pc < 19 → pm_chk 67 pc cX7_kindOf (k_67 pc) = true := fun pc h => pm_chq_0 ((by decide +kernel : ∀ pc, pc < 19 → pm_chq 67 0 pc cX7_kindOf (k_67 pc) = true) pc h)
set_option maxRecDepth 100000 in
set_option maxHeartbeats 4000000 in
theorem ck_68 : ∀ pc, pc < 19 → pm_chk 68 pc cX7_amountOf (k_68 pc) = true := fun pc h => pm_chq_0 ((by decide +kernel : ∀ pc, pc < 19 → pm_chq 68 0 pc cX7_amountOf (k_68 pc) = true) pc h)
set_option maxRecDepth 100000 in
set_option maxHeartbeats 4000000 in
theorem ck_69 : ∀ pc, pc < 25 → pm_chk 69 pc cX7_placeOf (k_69 pc) = true := fun pc h => pm_chq_0 ((by decide +kernel : ∀ pc, pc < 25 → pm_chq 69 0 pc cX7_placeOf (k_69 pc) = true) pc h)
set_option maxRecDepth 100000 in
set_option maxHeartbeats 4000000 in
theorem ck_70 : ∀ pc, pc < 22 → pm_chk 70 pc cX7_setPlace (k_70 pc) = true := fun pc h => pm_chq_0 ((by decide +kernel : ∀ pc, pc < 22 → pm_chq 70 0 pc cX7_setPlace (k_70 pc) = true) pc h)
set_option maxRecDepth 100000 in
set_option maxHeartbeats 4000000 in
theorem ck_71 : ∀ pc, pc < 29 → pm_chk 71 pc cX7_isPlace (k_71 pc) = true := fun pc h => pm_chq_0 ((by decide +kernel : ∀ pc, pc < 29 → pm_chq 71 0 pc cX7_isPlace (k_71 pc) = true) pc h)
set_option maxRecDepth 100000 in
set_option maxHeartbeats 4000000 in
theorem ck_72 : ∀ pc, pc < 13 → pm_chk 72 pc cX7_keepFirst (k_72 pc) = true := fun pc h => pm_chq_0 ((by decide +kernel : ∀ pc, pc < 13 → pm_chq 72 0 pc cX7_keepFirst (k_72 pc) = true) pc h)
set_option maxRecDepth 100000 in
set_option maxHeartbeats 4000000 in
theorem ck_73 : ∀ pc, pc < 13 → pm_chk 73 pc cX8_init (k_73 pc) = true := fun pc h => pm_chq_0 ((by decide +kernel : ∀ pc, pc < 13 → pm_chq 73 0 pc cX8_init (k_73 pc) = true) pc h)
set_option maxRecDepth 100000 in
set_option maxHeartbeats 4000000 in
theorem ck_74_0 : ∀ pc, pc < 40 → pm_chk 74 (0 + pc) cX8_add (k_74 (0 + pc)) = true := fun pc h => pm_chq_ok ((by decide +kernel : ∀ pc, pc < 40 → pm_chq 74 0 pc cX8_add (k_74 (0 + pc)) = true) pc h)
set_option maxRecDepth 100000 in
set_option maxHeartbeats 4000000 in
theorem ck_74_1 : ∀ pc, pc < 14 → pm_chk 74 (40 + pc) cX8_add (k_74 (40 + pc)) = true := fun pc h => pm_chq_ok ((by decide +kernel : ∀ pc, pc < 14 → pm_chq 74 40 pc cX8_add (k_74 (40 + pc)) = true) pc h)
theorem ck_74 (pc : Nat) (h : pc < 54) : pm_chk 74 pc cX8_add (k_74 pc) = true := by
  by_cases h0 : pc < 40
  · have e := ck_74_0 (pc - 0) (by omega)
    rwa [show 0 + (pc - 0) = pc by omega] at e
  have e := ck_74_1 (pc - 40) (by omega)
  rwa [show 40 + (pc - 40) = pc by omega] at e
set_option maxRecDepth 100000 in
set_option maxHeartbeats 4000000 in
theorem ck_75 : ∀ pc, pc < 32 → pm_chk 75 pc cX8_at (k_75 pc) = true := fun pc h => pm_chq_0 ((by decide +kernel : ∀ pc, pc < 32 → pm_chq 75 0 pc cX8_at (k_75 pc) = true) pc h)
set_option maxRecDepth 100000 in
set_option maxHeartbeats 4000000 in
theorem ck_76 : ∀ pc, pc < 11 → pm_chk 76 pc cX8_forget (k_76 pc) = true := fun pc h => pm_chq_0 ((by decide +kernel : ∀ pc, pc < 11 → pm_chq 76 0 pc cX8_forget (k_76 pc) = true) pc h)
set_option maxRecDepth 100000 in
set_option maxHeartbeats 4000000 in
theorem ck_77_0 : ∀ pc, pc < 40 → pm_chk 77 (0 + pc) cX9_init (k_77 (0 + pc)) = true := fun pc h => pm_chq_ok ((by decide +kernel : ∀ pc, pc < 40 → pm_chq 77 0 pc cX9_init (k_77 (0 + pc)) = true) pc h)
set_option maxRecDepth 100000 in
set_option maxHeartbeats 4000000 in
theorem ck_77_1 : ∀ pc, pc < 40 → pm_chk 77 (40 + pc) cX9_init (k_77 (40 + pc)) = true := fun pc h => pm_chq_ok ((by decide +kernel : ∀ pc, pc < 40 → pm_chq 77 40 pc cX9_init (k_77 (40 + pc)) = true) pc h)
set_option maxRecDepth 100000 in
set_option maxHeartbeats 4000000 in
theorem ck_77_2 : ∀ pc, pc < 40 → pm_chk 77 (80 + pc) cX9_init (k_77 (80 + pc)) = true := fun pc h => pm_chq_ok ((by decide +kernel : ∀ pc, pc < 40 → pm_chq 77 80 pc cX9_init (k_77 (80 + pc)) = true) pc h)
set_option maxRecDepth 100000 in
set_option maxHeartbeats 4000000 in
theorem ck_77_3 : ∀ pc, pc < 23 → pm_chk 77 (120 + pc) cX9_init (k_77 (120 + pc)) = true := fun pc h => pm_chq_ok ((by decide +kernel : ∀ pc, pc < 23 → pm_chq 77 120 pc cX9_init (k_77 (120 + pc)) = true) pc h)
theorem ck_77 (pc : Nat) (h : pc < 143) : pm_chk 77 pc cX9_init (k_77 pc) = true := by
  by_cases h0 : pc < 40
  · have e := ck_77_0 (pc - 0) (by omega)
    rwa [show 0 + (pc - 0) = pc by omega] at e
  by_cases h1 : pc < 80
  · have e := ck_77_1 (pc - 40) (by omega)
    rwa [show 40 + (pc - 40) = pc by omega] at e
  by_cases h2 : pc < 120
  · have e := ck_77_2 (pc - 80) (by omega)
    rwa [show 80 + (pc - 80) = pc by omega] at e
  have e := ck_77_3 (pc - 120) (by omega)
  rwa [show 120 + (pc - 120) = pc by omega] at e
set_option maxRecDepth 100000 in
set_option maxHeartbeats 4000000 in
theorem ck_78 : ∀ pc, pc < 4 → pm_chk 78 pc cX9_bit (k_78 pc) = true := fun pc h => pm_chq_0 ((by decide +kernel : ∀ pc, pc < 4 → pm_chq 78 0 pc cX9_bit (k_78 pc) = true) pc h)
set_option maxRecDepth 100000 in
set_option maxHeartbeats 4000000 in
theorem ck_79 : ∀ pc, pc < 5 → pm_chk 79 pc cX9_size (k_79 pc) = true := fun pc h => pm_chq_0 ((by decide +kernel : ∀ pc, pc < 5 → pm_chq 79 0 pc cX9_size (k_79 pc) = true) pc h)
set_option maxRecDepth 100000 in
set_option maxHeartbeats 4000000 in
theorem ck_80_0 : ∀ pc, pc < 40 → pm_chk 80 (0 + pc) cX9_add (k_80 (0 + pc)) = true := fun pc h => pm_chq_ok ((by decide +kernel : ∀ pc, pc < 40 → pm_chq 80 0 pc cX9_add (k_80 (0 + pc)) = true) pc h)
set_option maxRecDepth 100000 in
set_option maxHeartbeats 4000000 in
theorem ck_80_1 : ∀ pc, pc < 40 → pm_chk 80 (40 + pc) cX9_add (k_80 (40 + pc)) = true := fun pc h => pm_chq_ok ((by decide +kernel : ∀ pc, pc < 40 → pm_chq 80 40 pc cX9_add (k_80 (40 + pc)) = true) pc h)
set_option maxRecDepth 100000 in
set_option maxHeartbeats 4000000 in
theorem ck_80_2 : ∀ pc, pc < 7 → pm_chk 80 (80 + pc) cX9_add (k_80 (80 + pc)) = true := fun pc h => pm_chq_ok ((by decide +kernel : ∀ pc, pc < 7 → pm_chq 80 80 pc cX9_add (k_80 (80 + pc)) = true) pc h)
theorem ck_80 (pc : Nat) (h : pc < 87) : pm_chk 80 pc cX9_add (k_80 pc) = true := by
  by_cases h0 : pc < 40
  · have e := ck_80_0 (pc - 0) (by omega)
    rwa [show 0 + (pc - 0) = pc by omega] at e
  by_cases h1 : pc < 80
  · have e := ck_80_1 (pc - 40) (by omega)
    rwa [show 40 + (pc - 40) = pc by omega] at e
  have e := ck_80_2 (pc - 80) (by omega)
  rwa [show 80 + (pc - 80) = pc by omega] at e
set_option maxRecDepth 100000 in
set_option maxHeartbeats 4000000 in
theorem ck_81 : ∀ pc, pc < 18 → pm_chk 81 pc cX9_isClass (k_81 pc) = true := fun pc h => pm_chq_0 ((by decide +kernel : ∀ pc, pc < 18 → pm_chq 81 0 pc cX9_isClass (k_81 pc) = true) pc h)
set_option maxRecDepth 100000 in
set_option maxHeartbeats 4000000 in
theorem ck_82 : ∀ pc, pc < 19 → pm_chk 82 pc cX9_isOwner (k_82 pc) = true := fun pc h => pm_chq_0 ((by decide +kernel : ∀ pc, pc < 19 → pm_chq 82 0 pc cX9_isOwner (k_82 pc) = true) pc h)
set_option maxRecDepth 100000 in
set_option maxHeartbeats 4000000 in
theorem ck_83 : ∀ pc, pc < 25 → pm_chk 83 pc cX9_isAnyType (k_83 pc) = true := fun pc h => pm_chq_0 ((by decide +kernel : ∀ pc, pc < 25 → pm_chq 83 0 pc cX9_isAnyType (k_83 pc) = true) pc h)
set_option maxRecDepth 100000 in
set_option maxHeartbeats 4000000 in
theorem ck_84 : ∀ pc, pc < 20 → pm_chk 84 pc cX9_isParameter (k_84 pc) = true := fun pc h => pm_chq_0 ((by decide +kernel : ∀ pc, pc < 20 → pm_chq 84 0 pc cX9_isParameter (k_84 pc) = true) pc h)
set_option maxRecDepth 100000 in
set_option maxHeartbeats 4000000 in
theorem ck_85 : ∀ pc, pc < 20 → pm_chk 85 pc cX9_isRow (k_85 pc) = true := fun pc h => pm_chq_0 ((by decide +kernel : ∀ pc, pc < 20 → pm_chq 85 0 pc cX9_isRow (k_85 pc) = true) pc h)
set_option maxRecDepth 100000 in
set_option maxHeartbeats 4000000 in
theorem ck_86 : ∀ pc, pc < 19 → pm_chk 86 pc cX9_parentOf (k_86 pc) = true := fun pc h => pm_chq_0 ((by decide +kernel : ∀ pc, pc < 19 → pm_chq 86 0 pc cX9_parentOf (k_86 pc) = true) pc h)
set_option maxRecDepth 100000 in
set_option maxHeartbeats 4000000 in
theorem ck_87 : ∀ pc, pc < 39 → pm_chk 87 pc cX9_isUnder (k_87 pc) = true := fun pc h => pm_chq_0 ((by decide +kernel : ∀ pc, pc < 39 → pm_chq 87 0 pc cX9_isUnder (k_87 pc) = true) pc h)
set_option maxRecDepth 100000 in
set_option maxHeartbeats 4000000 in
theorem ck_88_0 : ∀ pc, pc < 40 → pm_chk 88 (0 + pc) cX9_isLoose (k_88 (0 + pc)) = true := fun pc h => pm_chq_ok ((by decide +kernel : ∀ pc, pc < 40 → pm_chq 88 0 pc cX9_isLoose (k_88 (0 + pc)) = true) pc h)
set_option maxRecDepth 100000 in
set_option maxHeartbeats 4000000 in
theorem ck_88_1 : ∀ pc, pc < 1 → pm_chk 88 (40 + pc) cX9_isLoose (k_88 (40 + pc)) = true := fun pc h => pm_chq_ok ((by decide +kernel : ∀ pc, pc < 1 → pm_chq 88 40 pc cX9_isLoose (k_88 (40 + pc)) = true) pc h)
theorem ck_88 (pc : Nat) (h : pc < 41) : pm_chk 88 pc cX9_isLoose (k_88 pc) = true := by
  by_cases h0 : pc < 40
  · have e := ck_88_0 (pc - 0) (by omega)
    rwa [show 0 + (pc - 0) = pc by omega] at e
  have e := ck_88_1 (pc - 40) (by omega)
  rwa [show 40 + (pc - 40) = pc by omega] at e
set_option maxRecDepth 100000 in
set_option maxHeartbeats 4000000 in
theorem ck_89_0 : ∀ pc, pc < 40 → pm_chk 89 (0 + pc) cX10_init (k_89 (0 + pc)) = true := fun pc h => pm_chq_ok ((by decide +kernel : ∀ pc, pc < 40 → pm_chq 89 0 pc cX10_init (k_89 (0 + pc)) = true) pc h)
set_option maxRecDepth 100000 in
set_option maxHeartbeats 4000000 in
theorem ck_89_1 : ∀ pc, pc < 17 → pm_chk 89 (40 + pc) cX10_init (k_89 (40 + pc)) = true := fun pc h => pm_chq_ok ((by decide +kernel : ∀ pc, pc < 17 → pm_chq 89 40 pc cX10_init (k_89 (40 + pc)) = true) pc h)
theorem ck_89 (pc : Nat) (h : pc < 57) : pm_chk 89 pc cX10_init (k_89 pc) = true := by
  by_cases h0 : pc < 40
  · have e := ck_89_0 (pc - 0) (by omega)
    rwa [show 0 + (pc - 0) = pc by omega] at e
  have e := ck_89_1 (pc - 40) (by omega)
  rwa [show 40 + (pc - 40) = pc by omega] at e
set_option maxRecDepth 100000 in
set_option maxHeartbeats 4000000 in
theorem ck_90_0 : ∀ pc, pc < 40 → pm_chk 90 (0 + pc) cX11_init (k_90 (0 + pc)) = true := fun pc h => pm_chq_ok ((by decide +kernel : ∀ pc, pc < 40 → pm_chq 90 0 pc cX11_init (k_90 (0 + pc)) = true) pc h)
set_option maxRecDepth 100000 in
set_option maxHeartbeats 4000000 in
theorem ck_90_1 : ∀ pc, pc < 40 → pm_chk 90 (40 + pc) cX11_init (k_90 (40 + pc)) = true := fun pc h => pm_chq_ok ((by decide +kernel : ∀ pc, pc < 40 → pm_chq 90 40 pc cX11_init (k_90 (40 + pc)) = true) pc h)
set_option maxRecDepth 100000 in
set_option maxHeartbeats 4000000 in
theorem ck_90_2 : ∀ pc, pc < 40 → pm_chk 90 (80 + pc) cX11_init (k_90 (80 + pc)) = true := fun pc h => pm_chq_ok ((by decide +kernel : ∀ pc, pc < 40 → pm_chq 90 80 pc cX11_init (k_90 (80 + pc)) = true) pc h)
set_option maxRecDepth 100000 in
set_option maxHeartbeats 4000000 in
theorem ck_90_3 : ∀ pc, pc < 12 → pm_chk 90 (120 + pc) cX11_init (k_90 (120 + pc)) = true := fun pc h => pm_chq_ok ((by decide +kernel : ∀ pc, pc < 12 → pm_chq 90 120 pc cX11_init (k_90 (120 + pc)) = true) pc h)
theorem ck_90 (pc : Nat) (h : pc < 132) : pm_chk 90 pc cX11_init (k_90 pc) = true := by
  by_cases h0 : pc < 40
  · have e := ck_90_0 (pc - 0) (by omega)
    rwa [show 0 + (pc - 0) = pc by omega] at e
  by_cases h1 : pc < 80
  · have e := ck_90_1 (pc - 40) (by omega)
    rwa [show 40 + (pc - 40) = pc by omega] at e
  by_cases h2 : pc < 120
  · have e := ck_90_2 (pc - 80) (by omega)
    rwa [show 80 + (pc - 80) = pc by omega] at e
  have e := ck_90_3 (pc - 120) (by omega)
  rwa [show 120 + (pc - 120) = pc by omega] at e
set_option maxRecDepth 100000 in
set_option maxHeartbeats 4000000 in
theorem ck_91 : ∀ pc, pc < 33 → pm_chk 91 pc cX11_type (k_91 pc) = true := fun pc h => pm_chq_0 ((by decide +kernel : ∀ pc, pc < 33 → pm_chq 91 0 pc cX11_type (k_91 pc) = true) pc h)
set_option maxRecDepth 100000 in
set_option maxHeartbeats 4000000 in
theorem ck_92_0 : ∀ pc, pc < 40 → pm_chk 92 (0 + pc) cX11_under (k_92 (0 + pc)) = true := fun pc h => pm_chq_ok ((by decide +kernel : ∀ pc, pc < 40 → pm_chq 92 0 pc cX11_under (k_92 (0 + pc)) = true) pc h)
set_option maxRecDepth 100000 in
set_option maxHeartbeats 4000000 in
theorem ck_92_1 : ∀ pc, pc < 2 → pm_chk 92 (40 + pc) cX11_under (k_92 (40 + pc)) = true := fun pc h => pm_chq_ok ((by decide +kernel : ∀ pc, pc < 2 → pm_chq 92 40 pc cX11_under (k_92 (40 + pc)) = true) pc h)
theorem ck_92 (pc : Nat) (h : pc < 42) : pm_chk 92 pc cX11_under (k_92 pc) = true := by
  by_cases h0 : pc < 40
  · have e := ck_92_0 (pc - 0) (by omega)
    rwa [show 0 + (pc - 0) = pc by omega] at e
  have e := ck_92_1 (pc - 40) (by omega)
  rwa [show 40 + (pc - 40) = pc by omega] at e
set_option maxRecDepth 100000 in
set_option maxHeartbeats 4000000 in
theorem ck_93_0 : ∀ pc, pc < 40 → pm_chk 93 (0 + pc) cX11_loose (k_93 (0 + pc)) = true := fun pc h => pm_chq_ok ((by decide +kernel : ∀ pc, pc < 40 → pm_chq 93 0 pc cX11_loose (k_93 (0 + pc)) = true) pc h)
set_option maxRecDepth 100000 in
set_option maxHeartbeats 4000000 in
theorem ck_93_1 : ∀ pc, pc < 2 → pm_chk 93 (40 + pc) cX11_loose (k_93 (40 + pc)) = true := fun pc h => pm_chq_ok ((by decide +kernel : ∀ pc, pc < 2 → pm_chq 93 40 pc cX11_loose (k_93 (40 + pc)) = true) pc h)
theorem ck_93 (pc : Nat) (h : pc < 42) : pm_chk 93 pc cX11_loose (k_93 pc) = true := by
  by_cases h0 : pc < 40
  · have e := ck_93_0 (pc - 0) (by omega)
    rwa [show 0 + (pc - 0) = pc by omega] at e
  have e := ck_93_1 (pc - 40) (by omega)
  rwa [show 40 + (pc - 40) = pc by omega] at e
set_option maxRecDepth 100000 in
set_option maxHeartbeats 4000000 in
theorem ck_94_0 : ∀ pc, pc < 40 → pm_chk 94 (0 + pc) cX11_tell (k_94 (0 + pc)) = true := fun pc h => pm_chq_ok ((by decide +kernel : ∀ pc, pc < 40 → pm_chq 94 0 pc cX11_tell (k_94 (0 + pc)) = true) pc h)
set_option maxRecDepth 100000 in
set_option maxHeartbeats 4000000 in
theorem ck_94_1 : ∀ pc, pc < 9 → pm_chk 94 (40 + pc) cX11_tell (k_94 (40 + pc)) = true := fun pc h => pm_chq_ok ((by decide +kernel : ∀ pc, pc < 9 → pm_chq 94 40 pc cX11_tell (k_94 (40 + pc)) = true) pc h)
theorem ck_94 (pc : Nat) (h : pc < 49) : pm_chk 94 pc cX11_tell (k_94 pc) = true := by
  by_cases h0 : pc < 40
  · have e := ck_94_0 (pc - 0) (by omega)
    rwa [show 0 + (pc - 0) = pc by omega] at e
  have e := ck_94_1 (pc - 40) (by omega)
  rwa [show 40 + (pc - 40) = pc by omega] at e
set_option maxRecDepth 100000 in
set_option maxHeartbeats 4000000 in
theorem ck_95 : ∀ pc, pc < 12 → pm_chk 95 pc cX11_untell (k_95 pc) = true := fun pc h => pm_chq_0 ((by decide +kernel : ∀ pc, pc < 12 → pm_chq 95 0 pc cX11_untell (k_95 pc) = true) pc h)
set_option maxRecDepth 100000 in
set_option maxHeartbeats 4000000 in
theorem ck_96_0 : ∀ pc, pc < 40 → pm_chk 96 (0 + pc) cX11_member (k_96 (0 + pc)) = true := fun pc h => pm_chq_ok ((by decide +kernel : ∀ pc, pc < 40 → pm_chq 96 0 pc cX11_member (k_96 (0 + pc)) = true) pc h)
set_option maxRecDepth 100000 in
set_option maxHeartbeats 4000000 in
theorem ck_96_1 : ∀ pc, pc < 40 → pm_chk 96 (40 + pc) cX11_member (k_96 (40 + pc)) = true := fun pc h => pm_chq_ok ((by decide +kernel : ∀ pc, pc < 40 → pm_chq 96 40 pc cX11_member (k_96 (40 + pc)) = true) pc h)
set_option maxRecDepth 100000 in
set_option maxHeartbeats 4000000 in
theorem ck_96_2 : ∀ pc, pc < 33 → pm_chk 96 (80 + pc) cX11_member (k_96 (80 + pc)) = true := fun pc h => pm_chq_ok ((by decide +kernel : ∀ pc, pc < 33 → pm_chq 96 80 pc cX11_member (k_96 (80 + pc)) = true) pc h)
theorem ck_96 (pc : Nat) (h : pc < 113) : pm_chk 96 pc cX11_member (k_96 pc) = true := by
  by_cases h0 : pc < 40
  · have e := ck_96_0 (pc - 0) (by omega)
    rwa [show 0 + (pc - 0) = pc by omega] at e
  by_cases h1 : pc < 80
  · have e := ck_96_1 (pc - 40) (by omega)
    rwa [show 40 + (pc - 40) = pc by omega] at e
  have e := ck_96_2 (pc - 80) (by omega)
  rwa [show 80 + (pc - 80) = pc by omega] at e
set_option maxRecDepth 100000 in
set_option maxHeartbeats 4000000 in
theorem ck_97 : ∀ pc, pc < 23 → pm_chk 97 pc cX11_has (k_97 pc) = true := fun pc h => pm_chq_0 ((by decide +kernel : ∀ pc, pc < 23 → pm_chq 97 0 pc cX11_has (k_97 pc) = true) pc h)
set_option maxRecDepth 100000 in
set_option maxHeartbeats 4000000 in
theorem ck_98 : ∀ pc, pc < 30 → pm_chk 98 pc cX11_open (k_98 pc) = true := fun pc h => pm_chq_0 ((by decide +kernel : ∀ pc, pc < 30 → pm_chq 98 0 pc cX11_open (k_98 pc) = true) pc h)
set_option maxRecDepth 100000 in
set_option maxHeartbeats 4000000 in
theorem ck_99_0 : ∀ pc, pc < 40 → pm_chk 99 (0 + pc) cX11_isMemberHead (k_99 (0 + pc)) = true := fun pc h => pm_chq_ok ((by decide +kernel : ∀ pc, pc < 40 → pm_chq 99 0 pc cX11_isMemberHead (k_99 (0 + pc)) = true) pc h)
set_option maxRecDepth 100000 in
set_option maxHeartbeats 4000000 in
theorem ck_99_1 : ∀ pc, pc < 21 → pm_chk 99 (40 + pc) cX11_isMemberHead (k_99 (40 + pc)) = true := fun pc h => pm_chq_ok ((by decide +kernel : ∀ pc, pc < 21 → pm_chq 99 40 pc cX11_isMemberHead (k_99 (40 + pc)) = true) pc h)
theorem ck_99 (pc : Nat) (h : pc < 61) : pm_chk 99 pc cX11_isMemberHead (k_99 pc) = true := by
  by_cases h0 : pc < 40
  · have e := ck_99_0 (pc - 0) (by omega)
    rwa [show 0 + (pc - 0) = pc by omega] at e
  have e := ck_99_1 (pc - 40) (by omega)
  rwa [show 40 + (pc - 40) = pc by omega] at e
set_option maxRecDepth 100000 in
set_option maxHeartbeats 4000000 in
theorem ck_100_0 : ∀ pc, pc < 40 → pm_chk 100 (0 + pc) cX11_areMarksAllowed (k_100 (0 + pc)) = true := fun pc h => pm_chq_ok ((by decide +kernel : ∀ pc, pc < 40 → pm_chq 100 0 pc cX11_areMarksAllowed (k_100 (0 + pc)) = true) pc h)
set_option maxRecDepth 100000 in
set_option maxHeartbeats 4000000 in
theorem ck_100_1 : ∀ pc, pc < 39 → pm_chk 100 (40 + pc) cX11_areMarksAllowed (k_100 (40 + pc)) = true := fun pc h => pm_chq_ok ((by decide +kernel : ∀ pc, pc < 39 → pm_chq 100 40 pc cX11_areMarksAllowed (k_100 (40 + pc)) = true) pc h)
theorem ck_100 (pc : Nat) (h : pc < 79) : pm_chk 100 pc cX11_areMarksAllowed (k_100 pc) = true := by
  by_cases h0 : pc < 40
  · have e := ck_100_0 (pc - 0) (by omega)
    rwa [show 0 + (pc - 0) = pc by omega] at e
  have e := ck_100_1 (pc - 40) (by omega)
  rwa [show 40 + (pc - 40) = pc by omega] at e
set_option maxRecDepth 100000 in
set_option maxHeartbeats 4000000 in
theorem ck_101 : ∀ pc, pc < 34 → pm_chk 101 pc cX11_isLastToldRow (k_101 pc) = true := fun pc h => pm_chq_0 ((by decide +kernel : ∀ pc, pc < 34 → pm_chq 101 0 pc cX11_isLastToldRow (k_101 pc) = true) pc h)
set_option maxRecDepth 100000 in
set_option maxHeartbeats 4000000 in
theorem ck_102 : ∀ pc, pc < 23 → pm_chk 102 pc cX11_copyOfTold (k_102 pc) = true := fun pc h => pm_chq_0 ((by decide +kernel : ∀ pc, pc < 23 → pm_chq 102 0 pc cX11_copyOfTold (k_102 pc) = true) pc h)
set_option maxRecDepth 100000 in
set_option maxHeartbeats 4000000 in
theorem ck_103_0 : ∀ pc, pc < 40 → pm_chk 103 (0 + pc) cX11_face (k_103 (0 + pc)) = true := fun pc h => pm_chq_ok ((by decide +kernel : ∀ pc, pc < 40 → pm_chq 103 0 pc cX11_face (k_103 (0 + pc)) = true) pc h)
set_option maxRecDepth 100000 in
set_option maxHeartbeats 4000000 in
theorem ck_103_1 : ∀ pc, pc < 28 → pm_chk 103 (40 + pc) cX11_face (k_103 (40 + pc)) = true := fun pc h => pm_chq_ok ((by decide +kernel : ∀ pc, pc < 28 → pm_chq 103 40 pc cX11_face (k_103 (40 + pc)) = true) pc h)
theorem ck_103 (pc : Nat) (h : pc < 68) : pm_chk 103 pc cX11_face (k_103 pc) = true := by
  by_cases h0 : pc < 40
  · have e := ck_103_0 (pc - 0) (by omega)
    rwa [show 0 + (pc - 0) = pc by omega] at e
  have e := ck_103_1 (pc - 40) (by omega)
  rwa [show 40 + (pc - 40) = pc by omega] at e
set_option maxRecDepth 100000 in
set_option maxHeartbeats 4000000 in
theorem ck_104_0 : ∀ pc, pc < 40 → pm_chk 104 (0 + pc) cX11_reference (k_104 (0 + pc)) = true := fun pc h => pm_chq_ok ((by decide +kernel : ∀ pc, pc < 40 → pm_chq 104 0 pc cX11_reference (k_104 (0 + pc)) = true) pc h)
set_option maxRecDepth 100000 in
set_option maxHeartbeats 4000000 in
theorem ck_104_1 : ∀ pc, pc < 40 → pm_chk 104 (40 + pc) cX11_reference (k_104 (40 + pc)) = true := fun pc h => pm_chq_ok ((by decide +kernel : ∀ pc, pc < 40 → pm_chq 104 40 pc cX11_reference (k_104 (40 + pc)) = true) pc h)
set_option maxRecDepth 100000 in
set_option maxHeartbeats 4000000 in
theorem ck_104_2 : ∀ pc, pc < 4 → pm_chk 104 (80 + pc) cX11_reference (k_104 (80 + pc)) = true := fun pc h => pm_chq_ok ((by decide +kernel : ∀ pc, pc < 4 → pm_chq 104 80 pc cX11_reference (k_104 (80 + pc)) = true) pc h)
theorem ck_104 (pc : Nat) (h : pc < 84) : pm_chk 104 pc cX11_reference (k_104 pc) = true := by
  by_cases h0 : pc < 40
  · have e := ck_104_0 (pc - 0) (by omega)
    rwa [show 0 + (pc - 0) = pc by omega] at e
  by_cases h1 : pc < 80
  · have e := ck_104_1 (pc - 40) (by omega)
    rwa [show 40 + (pc - 40) = pc by omega] at e
  have e := ck_104_2 (pc - 80) (by omega)
  rwa [show 80 + (pc - 80) = pc by omega] at e
set_option maxRecDepth 100000 in
set_option maxHeartbeats 4000000 in
theorem ck_105 : ∀ pc, pc < 38 → pm_chk 105 pc cX11_meant (k_105 pc) = true := fun pc h => pm_chq_0 ((by decide +kernel : ∀ pc, pc < 38 → pm_chq 105 0 pc cX11_meant (k_105 pc) = true) pc h)
set_option maxRecDepth 100000 in
set_option maxHeartbeats 4000000 in
theorem ck_106_0 : ∀ pc, pc < 40 → pm_chk 106 (0 + pc) cX11_search (k_106 (0 + pc)) = true := fun pc h => pm_chq_ok ((by decide +kernel : ∀ pc, pc < 40 → pm_chq 106 0 pc cX11_search (k_106 (0 + pc)) = true) pc h)
set_option maxRecDepth 100000 in
set_option maxHeartbeats 4000000 in
theorem ck_106_1 : ∀ pc, pc < 1 → pm_chk 106 (40 + pc) cX11_search (k_106 (40 + pc)) = true := fun pc h => pm_chq_ok ((by decide +kernel : ∀ pc, pc < 1 → pm_chq 106 40 pc cX11_search (k_106 (40 + pc)) = true) pc h)
theorem ck_106 (pc : Nat) (h : pc < 41) : pm_chk 106 pc cX11_search (k_106 pc) = true := by
  by_cases h0 : pc < 40
  · have e := ck_106_0 (pc - 0) (by omega)
    rwa [show 0 + (pc - 0) = pc by omega] at e
  have e := ck_106_1 (pc - 40) (by omega)
  rwa [show 40 + (pc - 40) = pc by omega] at e
set_option maxRecDepth 100000 in
set_option maxHeartbeats 4000000 in
theorem ck_107_0 : ∀ pc, pc < 40 → pm_chk 107 (0 + pc) cX11_phase (k_107 (0 + pc)) = true := fun pc h => pm_chq_ok ((by decide +kernel : ∀ pc, pc < 40 → pm_chq 107 0 pc cX11_phase (k_107 (0 + pc)) = true) pc h)
set_option maxRecDepth 100000 in
set_option maxHeartbeats 4000000 in
theorem ck_107_1 : ∀ pc, pc < 1 → pm_chk 107 (40 + pc) cX11_phase (k_107 (40 + pc)) = true := fun pc h => pm_chq_ok ((by decide +kernel : ∀ pc, pc < 1 → pm_chq 107 40 pc cX11_phase (k_107 (40 + pc)) = true) pc h)
theorem ck_107 (pc : Nat) (h : pc < 41) : pm_chk 107 pc cX11_phase (k_107 pc) = true := by
  by_cases h0 : pc < 40
  · have e := ck_107_0 (pc - 0) (by omega)
    rwa [show 0 + (pc - 0) = pc by omega] at e
  have e := ck_107_1 (pc - 40) (by omega)
  rwa [show 40 + (pc - 40) = pc by omega] at e
set_option maxRecDepth 100000 in
set_option maxHeartbeats 4000000 in
theorem ck_108 : ∀ pc, pc < 32 → pm_chk 108 pc cX11_exact (k_108 pc) = true := fun pc h => pm_chq_0 ((by decide +kernel : ∀ pc, pc < 32 → pm_chq 108 0 pc cX11_exact (k_108 pc) = true) pc h)
set_option maxRecDepth 100000 in
set_option maxHeartbeats 4000000 in
theorem ck_109 : ∀ pc, pc < 18 → pm_chk 109 pc cX11_isReference (k_109 pc) = true := fun pc h => pm_chq_0 ((by decide +kernel : ∀ pc, pc < 18 → pm_chq 109 0 pc cX11_isReference (k_109 pc) = true) pc h)
set_option maxRecDepth 100000 in
set_option maxHeartbeats 4000000 in
theorem ck_110 : ∀ pc, pc < 18 → pm_chk 110 pc cX11_isFace (k_110 pc) = true := fun pc h => pm_chq_0 ((by decide +kernel : ∀ pc, pc < 18 → pm_chq 110 0 pc cX11_isFace (k_110 pc) = true) pc h)
set_option maxRecDepth 100000 in
set_option maxHeartbeats 4000000 in
theorem ck_111_0 : ∀ pc, pc < 40 → pm_chk 111 (0 + pc) cX11_isFormOfType (k_111 (0 + pc)) = true := fun pc h => pm_chq_ok ((by decide +kernel : ∀ pc, pc < 40 → pm_chq 111 0 pc cX11_isFormOfType (k_111 (0 + pc)) = true) pc h)
set_option maxRecDepth 100000 in
set_option maxHeartbeats 4000000 in
theorem ck_111_1 : ∀ pc, pc < 40 → pm_chk 111 (40 + pc) cX11_isFormOfType (k_111 (40 + pc)) = true := fun pc h => pm_chq_ok ((by decide +kernel : ∀ pc, pc < 40 → pm_chq 111 40 pc cX11_isFormOfType (k_111 (40 + pc)) = true) pc h)
set_option maxRecDepth 100000 in
set_option maxHeartbeats 4000000 in
theorem ck_111_2 : ∀ pc, pc < 20 → pm_chk 111 (80 + pc) cX11_isFormOfType (k_111 (80 + pc)) = true := fun pc h => pm_chq_ok ((by decide +kernel : ∀ pc, pc < 20 → pm_chq 111 80 pc cX11_isFormOfType (k_111 (80 + pc)) = true) pc h)
theorem ck_111 (pc : Nat) (h : pc < 100) : pm_chk 111 pc cX11_isFormOfType (k_111 pc) = true := by
  by_cases h0 : pc < 40
  · have e := ck_111_0 (pc - 0) (by omega)
    rwa [show 0 + (pc - 0) = pc by omega] at e
  by_cases h1 : pc < 80
  · have e := ck_111_1 (pc - 40) (by omega)
    rwa [show 40 + (pc - 40) = pc by omega] at e
  have e := ck_111_2 (pc - 80) (by omega)
  rwa [show 80 + (pc - 80) = pc by omega] at e
set_option maxRecDepth 100000 in
set_option maxHeartbeats 4000000 in
theorem ck_112_0 : ∀ pc, pc < 40 → pm_chk 112 (0 + pc) cX11_searchRefusal (k_112 (0 + pc)) = true := fun pc h => pm_chq_ok ((by decide +kernel : ∀ pc, pc < 40 → pm_chq 112 0 pc cX11_searchRefusal (k_112 (0 + pc)) = true) pc h)
set_option maxRecDepth 100000 in
set_option maxHeartbeats 4000000 in
theorem ck_112_1 : ∀ pc, pc < 40 → pm_chk 112 (40 + pc) cX11_searchRefusal (k_112 (40 + pc)) = true := fun pc h => pm_chq_ok ((by decide +kernel : ∀ pc, pc < 40 → pm_chq 112 40 pc cX11_searchRefusal (k_112 (40 + pc)) = true) pc h)
set_option maxRecDepth 100000 in
set_option maxHeartbeats 4000000 in
theorem ck_112_2 : ∀ pc, pc < 31 → pm_chk 112 (80 + pc) cX11_searchRefusal (k_112 (80 + pc)) = true := fun pc h => pm_chq_ok ((by decide +kernel : ∀ pc, pc < 31 → pm_chq 112 80 pc cX11_searchRefusal (k_112 (80 + pc)) = true) pc h)
theorem ck_112 (pc : Nat) (h : pc < 111) : pm_chk 112 pc cX11_searchRefusal (k_112 pc) = true := by
  by_cases h0 : pc < 40
  · have e := ck_112_0 (pc - 0) (by omega)
    rwa [show 0 + (pc - 0) = pc by omega] at e
  by_cases h1 : pc < 80
  · have e := ck_112_1 (pc - 40) (by omega)
    rwa [show 40 + (pc - 40) = pc by omega] at e
  have e := ck_112_2 (pc - 80) (by omega)
  rwa [show 80 + (pc - 80) = pc by omega] at e
set_option maxRecDepth 100000 in
set_option maxHeartbeats 4000000 in
theorem ck_113 : ∀ pc, pc < 37 → pm_chk 113 pc cX11_thing (k_113 pc) = true := fun pc h => pm_chq_0 ((by decide +kernel : ∀ pc, pc < 37 → pm_chq 113 0 pc cX11_thing (k_113 pc) = true) pc h)
set_option maxRecDepth 100000 in
set_option maxHeartbeats 4000000 in
theorem ck_114 : ∀ pc, pc < 10 → pm_chk 114 pc cX11_box (k_114 pc) = true := fun pc h => pm_chq_0 ((by decide +kernel : ∀ pc, pc < 10 → pm_chq 114 0 pc cX11_box (k_114 pc) = true) pc h)
set_option maxRecDepth 100000 in
set_option maxHeartbeats 4000000 in
theorem ck_115_0 : ∀ pc, pc < 40 → pm_chk 115 (0 + pc) cX11_of (k_115 (0 + pc)) = true := fun pc h => pm_chq_ok ((by decide +kernel : ∀ pc, pc < 40 → pm_chq 115 0 pc cX11_of (k_115 (0 + pc)) = true) pc h)
set_option maxRecDepth 100000 in
set_option maxHeartbeats 4000000 in
theorem ck_115_1 : ∀ pc, pc < 6 → pm_chk 115 (40 + pc) cX11_of (k_115 (40 + pc)) = true := fun pc h => pm_chq_ok ((by decide +kernel : ∀ pc, pc < 6 → pm_chq 115 40 pc cX11_of (k_115 (40 + pc)) = true) pc h)
theorem ck_115 (pc : Nat) (h : pc < 46) : pm_chk 115 pc cX11_of (k_115 pc) = true := by
  by_cases h0 : pc < 40
  · have e := ck_115_0 (pc - 0) (by omega)
    rwa [show 0 + (pc - 0) = pc by omega] at e
  have e := ck_115_1 (pc - 40) (by omega)
  rwa [show 40 + (pc - 40) = pc by omega] at e
set_option maxRecDepth 100000 in
set_option maxHeartbeats 4000000 in
theorem ck_116_0 : ∀ pc, pc < 40 → pm_chk 116 (0 + pc) cX11_place (k_116 (0 + pc)) = true := fun pc h => pm_chq_ok ((by decide +kernel : ∀ pc, pc < 40 → pm_chq 116 0 pc cX11_place (k_116 (0 + pc)) = true) pc h)
set_option maxRecDepth 100000 in
set_option maxHeartbeats 4000000 in
theorem ck_116_1 : ∀ pc, pc < 17 → pm_chk 116 (40 + pc) cX11_place (k_116 (40 + pc)) = true := fun pc h => pm_chq_ok ((by decide +kernel : ∀ pc, pc < 17 → pm_chq 116 40 pc cX11_place (k_116 (40 + pc)) = true) pc h)
theorem ck_116 (pc : Nat) (h : pc < 57) : pm_chk 116 pc cX11_place (k_116 pc) = true := by
  by_cases h0 : pc < 40
  · have e := ck_116_0 (pc - 0) (by omega)
    rwa [show 0 + (pc - 0) = pc by omega] at e
  have e := ck_116_1 (pc - 40) (by omega)
  rwa [show 40 + (pc - 40) = pc by omega] at e
set_option maxRecDepth 100000 in
set_option maxHeartbeats 4000000 in
theorem ck_117_0 : ∀ pc, pc < 40 → pm_chk 117 (0 + pc) cX11_make (k_117 (0 + pc)) = true := fun pc h => pm_chq_ok ((by decide +kernel : ∀ pc, pc < 40 → pm_chq 117 0 pc cX11_make (k_117 (0 + pc)) = true) pc h)
set_option maxRecDepth 100000 in
set_option maxHeartbeats 4000000 in
theorem ck_117_1 : ∀ pc, pc < 40 → pm_chk 117 (40 + pc) cX11_make (k_117 (40 + pc)) = true := fun pc h => pm_chq_ok ((by decide +kernel : ∀ pc, pc < 40 → pm_chq 117 40 pc cX11_make (k_117 (40 + pc)) = true) pc h)
set_option maxRecDepth 100000 in
set_option maxHeartbeats 4000000 in
theorem ck_117_2 : ∀ pc, pc < 40 → pm_chk 117 (80 + pc) cX11_make (k_117 (80 + pc)) = true := fun pc h => pm_chq_ok ((by decide +kernel : ∀ pc, pc < 40 → pm_chq 117 80 pc cX11_make (k_117 (80 + pc)) = true) pc h)
set_option maxRecDepth 100000 in
set_option maxHeartbeats 4000000 in
theorem ck_117_3 : ∀ pc, pc < 40 → pm_chk 117 (120 + pc) cX11_make (k_117 (120 + pc)) = true := fun pc h => pm_chq_ok ((by decide +kernel : ∀ pc, pc < 40 → pm_chq 117 120 pc cX11_make (k_117 (120 + pc)) = true) pc h)
theorem ck_117 (pc : Nat) (h : pc < 160) : pm_chk 117 pc cX11_make (k_117 pc) = true := by
  by_cases h0 : pc < 40
  · have e := ck_117_0 (pc - 0) (by omega)
    rwa [show 0 + (pc - 0) = pc by omega] at e
  by_cases h1 : pc < 80
  · have e := ck_117_1 (pc - 40) (by omega)
    rwa [show 40 + (pc - 40) = pc by omega] at e
  by_cases h2 : pc < 120
  · have e := ck_117_2 (pc - 80) (by omega)
    rwa [show 80 + (pc - 80) = pc by omega] at e
  have e := ck_117_3 (pc - 120) (by omega)
  rwa [show 120 + (pc - 120) = pc by omega] at e
set_option maxRecDepth 100000 in
set_option maxHeartbeats 4000000 in
theorem ck_118 : ∀ pc, pc < 20 → pm_chk 118 pc cX11_arg (k_118 pc) = true := fun pc h => pm_chq_0 ((by decide +kernel : ∀ pc, pc < 20 → pm_chq 118 0 pc cX11_arg (k_118 pc) = true) pc h)
set_option maxRecDepth 100000 in
set_option maxHeartbeats 4000000 in
theorem ck_119_0 : ∀ pc, pc < 40 → pm_chk 119 (0 + pc) cX11_call (k_119 (0 + pc)) = true := fun pc h => pm_chq_ok ((by decide +kernel : ∀ pc, pc < 40 → pm_chq 119 0 pc cX11_call (k_119 (0 + pc)) = true) pc h)
set_option maxRecDepth 100000 in
set_option maxHeartbeats 4000000 in
theorem ck_119_1 : ∀ pc, pc < 40 → pm_chk 119 (40 + pc) cX11_call (k_119 (40 + pc)) = true := fun pc h => pm_chq_ok ((by decide +kernel : ∀ pc, pc < 40 → pm_chq 119 40 pc cX11_call (k_119 (40 + pc)) = true) pc h)
set_option maxRecDepth 100000 in
set_option maxHeartbeats 4000000 in
theorem ck_119_2 : ∀ pc, pc < 36 → pm_chk 119 (80 + pc) cX11_call (k_119 (80 + pc)) = true := fun pc h => pm_chq_ok ((by decide +kernel : ∀ pc, pc < 36 → pm_chq 119 80 pc cX11_call (k_119 (80 + pc)) = true) pc h)
theorem ck_119 (pc : Nat) (h : pc < 116) : pm_chk 119 pc cX11_call (k_119 pc) = true := by
  by_cases h0 : pc < 40
  · have e := ck_119_0 (pc - 0) (by omega)
    rwa [show 0 + (pc - 0) = pc by omega] at e
  by_cases h1 : pc < 80
  · have e := ck_119_1 (pc - 40) (by omega)
    rwa [show 40 + (pc - 40) = pc by omega] at e
  have e := ck_119_2 (pc - 80) (by omega)
  rwa [show 80 + (pc - 80) = pc by omega] at e
set_option maxRecDepth 100000 in
set_option maxHeartbeats 4000000 in
theorem ck_120 : ∀ pc, pc < 5 → pm_chk 120 pc cX11_result (k_120 pc) = true := fun pc h => pm_chq_0 ((by decide +kernel : ∀ pc, pc < 5 → pm_chq 120 0 pc cX11_result (k_120 pc) = true) pc h)
set_option maxRecDepth 100000 in
set_option maxHeartbeats 4000000 in
theorem ck_121 : ∀ pc, pc < 9 → pm_chk 121 pc cX11_traced (k_121 pc) = true := fun pc h => pm_chq_0 ((by decide +kernel : ∀ pc, pc < 9 → pm_chq 121 0 pc cX11_traced (k_121 pc) = true) pc h)
set_option maxRecDepth 100000 in
set_option maxHeartbeats 4000000 in
theorem ck_122_0 : ∀ pc, pc < 40 → pm_chk 122 (0 + pc) cX11_count (k_122 (0 + pc)) = true := fun pc h => pm_chq_ok ((by decide +kernel : ∀ pc, pc < 40 → pm_chq 122 0 pc cX11_count (k_122 (0 + pc)) = true) pc h)
set_option maxRecDepth 100000 in
set_option maxHeartbeats 4000000 in
theorem ck_122_1 : ∀ pc, pc < 40 → pm_chk 122 (40 + pc) cX11_count (k_122 (40 + pc)) = true := fun pc h => pm_chq_ok ((by decide +kernel : ∀ pc, pc < 40 → pm_chq 122 40 pc cX11_count (k_122 (40 + pc)) = true) pc h)
set_option maxRecDepth 100000 in
set_option maxHeartbeats 4000000 in
theorem ck_122_2 : ∀ pc, pc < 10 → pm_chk 122 (80 + pc) cX11_count (k_122 (80 + pc)) = true := fun pc h => pm_chq_ok ((by decide +kernel : ∀ pc, pc < 10 → pm_chq 122 80 pc cX11_count (k_122 (80 + pc)) = true) pc h)
theorem ck_122 (pc : Nat) (h : pc < 90) : pm_chk 122 pc cX11_count (k_122 pc) = true := by
  by_cases h0 : pc < 40
  · have e := ck_122_0 (pc - 0) (by omega)
    rwa [show 0 + (pc - 0) = pc by omega] at e
  by_cases h1 : pc < 80
  · have e := ck_122_1 (pc - 40) (by omega)
    rwa [show 40 + (pc - 40) = pc by omega] at e
  have e := ck_122_2 (pc - 80) (by omega)
  rwa [show 80 + (pc - 80) = pc by omega] at e
set_option maxRecDepth 100000 in
set_option maxHeartbeats 4000000 in
theorem ck_123_0 : ∀ pc, pc < 40 → pm_chk 123 (0 + pc) cX11_clear (k_123 (0 + pc)) = true := fun pc h => pm_chq_ok ((by decide +kernel : ∀ pc, pc < 40 → pm_chq 123 0 pc cX11_clear (k_123 (0 + pc)) = true) pc h)
set_option maxRecDepth 100000 in
set_option maxHeartbeats 4000000 in
theorem ck_123_1 : ∀ pc, pc < 38 → pm_chk 123 (40 + pc) cX11_clear (k_123 (40 + pc)) = true := fun pc h => pm_chq_ok ((by decide +kernel : ∀ pc, pc < 38 → pm_chq 123 40 pc cX11_clear (k_123 (40 + pc)) = true) pc h)
theorem ck_123 (pc : Nat) (h : pc < 78) : pm_chk 123 pc cX11_clear (k_123 pc) = true := by
  by_cases h0 : pc < 40
  · have e := ck_123_0 (pc - 0) (by omega)
    rwa [show 0 + (pc - 0) = pc by omega] at e
  have e := ck_123_1 (pc - 40) (by omega)
  rwa [show 40 + (pc - 40) = pc by omega] at e
set_option maxRecDepth 100000 in
set_option maxHeartbeats 4000000 in
theorem ck_124 : ∀ pc, pc < 40 → pm_chk 124 pc cX11_isReceiver (k_124 pc) = true := fun pc h => pm_chq_0 ((by decide +kernel : ∀ pc, pc < 40 → pm_chq 124 0 pc cX11_isReceiver (k_124 pc) = true) pc h)
set_option maxRecDepth 100000 in
set_option maxHeartbeats 4000000 in
theorem ck_125 : ∀ pc, pc < 36 → pm_chk 125 pc cX11_isThingUnder (k_125 pc) = true := fun pc h => pm_chq_0 ((by decide +kernel : ∀ pc, pc < 36 → pm_chq 125 0 pc cX11_isThingUnder (k_125 pc) = true) pc h)
set_option maxRecDepth 100000 in
set_option maxHeartbeats 4000000 in
theorem ck_126_0 : ∀ pc, pc < 40 → pm_chk 126 (0 + pc) cX11_doArgsSuit (k_126 (0 + pc)) = true := fun pc h => pm_chq_ok ((by decide +kernel : ∀ pc, pc < 40 → pm_chq 126 0 pc cX11_doArgsSuit (k_126 (0 + pc)) = true) pc h)
set_option maxRecDepth 100000 in
set_option maxHeartbeats 4000000 in
theorem ck_126_1 : ∀ pc, pc < 17 → pm_chk 126 (40 + pc) cX11_doArgsSuit (k_126 (40 + pc)) = true := fun pc h => pm_chq_ok ((by decide +kernel : ∀ pc, pc < 17 → pm_chq 126 40 pc cX11_doArgsSuit (k_126 (40 + pc)) = true) pc h)
theorem ck_126 (pc : Nat) (h : pc < 57) : pm_chk 126 pc cX11_doArgsSuit (k_126 pc) = true := by
  by_cases h0 : pc < 40
  · have e := ck_126_0 (pc - 0) (by omega)
    rwa [show 0 + (pc - 0) = pc by omega] at e
  have e := ck_126_1 (pc - 40) (by omega)
  rwa [show 40 + (pc - 40) = pc by omega] at e
set_option maxRecDepth 100000 in
set_option maxHeartbeats 4000000 in
theorem ck_127_0 : ∀ pc, pc < 40 → pm_chk 127 (0 + pc) cX12_init (k_127 (0 + pc)) = true := fun pc h => pm_chq_ok ((by decide +kernel : ∀ pc, pc < 40 → pm_chq 127 0 pc cX12_init (k_127 (0 + pc)) = true) pc h)
set_option maxRecDepth 100000 in
set_option maxHeartbeats 4000000 in
theorem ck_127_1 : ∀ pc, pc < 40 → pm_chk 127 (40 + pc) cX12_init (k_127 (40 + pc)) = true := fun pc h => pm_chq_ok ((by decide +kernel : ∀ pc, pc < 40 → pm_chq 127 40 pc cX12_init (k_127 (40 + pc)) = true) pc h)
set_option maxRecDepth 100000 in
set_option maxHeartbeats 4000000 in
theorem ck_127_2 : ∀ pc, pc < 40 → pm_chk 127 (80 + pc) cX12_init (k_127 (80 + pc)) = true := fun pc h => pm_chq_ok ((by decide +kernel : ∀ pc, pc < 40 → pm_chq 127 80 pc cX12_init (k_127 (80 + pc)) = true) pc h)
set_option maxRecDepth 100000 in
set_option maxHeartbeats 4000000 in
theorem ck_127_3 : ∀ pc, pc < 40 → pm_chk 127 (120 + pc) cX12_init (k_127 (120 + pc)) = true := fun pc h => pm_chq_ok ((by decide +kernel : ∀ pc, pc < 40 → pm_chq 127 120 pc cX12_init (k_127 (120 + pc)) = true) pc h)
set_option maxRecDepth 100000 in
set_option maxHeartbeats 4000000 in
theorem ck_127_4 : ∀ pc, pc < 40 → pm_chk 127 (160 + pc) cX12_init (k_127 (160 + pc)) = true := fun pc h => pm_chq_ok ((by decide +kernel : ∀ pc, pc < 40 → pm_chq 127 160 pc cX12_init (k_127 (160 + pc)) = true) pc h)
set_option maxRecDepth 100000 in
set_option maxHeartbeats 4000000 in
theorem ck_127_5 : ∀ pc, pc < 15 → pm_chk 127 (200 + pc) cX12_init (k_127 (200 + pc)) = true := fun pc h => pm_chq_ok ((by decide +kernel : ∀ pc, pc < 15 → pm_chq 127 200 pc cX12_init (k_127 (200 + pc)) = true) pc h)
theorem ck_127 (pc : Nat) (h : pc < 215) : pm_chk 127 pc cX12_init (k_127 pc) = true := by
  by_cases h0 : pc < 40
  · have e := ck_127_0 (pc - 0) (by omega)
    rwa [show 0 + (pc - 0) = pc by omega] at e
  by_cases h1 : pc < 80
  · have e := ck_127_1 (pc - 40) (by omega)
    rwa [show 40 + (pc - 40) = pc by omega] at e
  by_cases h2 : pc < 120
  · have e := ck_127_2 (pc - 80) (by omega)
    rwa [show 80 + (pc - 80) = pc by omega] at e
  by_cases h3 : pc < 160
  · have e := ck_127_3 (pc - 120) (by omega)
    rwa [show 120 + (pc - 120) = pc by omega] at e
  by_cases h4 : pc < 200
  · have e := ck_127_4 (pc - 160) (by omega)
    rwa [show 160 + (pc - 160) = pc by omega] at e
  have e := ck_127_5 (pc - 200) (by omega)
  rwa [show 200 + (pc - 200) = pc by omega] at e
set_option maxRecDepth 100000 in
set_option maxHeartbeats 4000000 in
theorem ck_128 : ∀ pc, pc < 16 → pm_chk 128 pc cX12_isIn (k_128 pc) = true := fun pc h => pm_chq_0 ((by decide +kernel : ∀ pc, pc < 16 → pm_chq 128 0 pc cX12_isIn (k_128 pc) = true) pc h)
set_option maxRecDepth 100000 in
set_option maxHeartbeats 4000000 in
theorem ck_129 : ∀ pc, pc < 12 → pm_chk 129 pc cX12_isClass (k_129 pc) = true := fun pc h => pm_chq_0 ((by decide +kernel : ∀ pc, pc < 12 → pm_chq 129 0 pc cX12_isClass (k_129 pc) = true) pc h)
set_option maxRecDepth 100000 in
set_option maxHeartbeats 4000000 in
theorem ck_130 : ∀ pc, pc < 19 → pm_chk 130 pc cX12_isOwn (k_130 pc) = true := fun pc h => pm_chq_0 ((by decide +kernel : ∀ pc, pc < 19 → pm_chq 130 0 pc cX12_isOwn (k_130 pc) = true) pc h)
set_option maxRecDepth 100000 in
set_option maxHeartbeats 4000000 in
theorem ck_131_0 : ∀ pc, pc < 40 → pm_chk 131 (0 + pc) cX12_isPlace (k_131 (0 + pc)) = true := fun pc h => pm_chq_ok ((by decide +kernel : ∀ pc, pc < 40 → pm_chq 131 0 pc cX12_isPlace (k_131 (0 + pc)) = true) pc h)
set_option maxRecDepth 100000 in
set_option maxHeartbeats 4000000 in
theorem ck_131_1 : ∀ pc, pc < 4 → pm_chk 131 (40 + pc) cX12_isPlace (k_131 (40 + pc)) = true := fun pc h => pm_chq_ok ((by decide +kernel : ∀ pc, pc < 4 → pm_chq 131 40 pc cX12_isPlace (k_131 (40 + pc)) = true) pc h)
theorem ck_131 (pc : Nat) (h : pc < 44) : pm_chk 131 pc cX12_isPlace (k_131 pc) = true := by
  by_cases h0 : pc < 40
  · have e := ck_131_0 (pc - 0) (by omega)
    rwa [show 0 + (pc - 0) = pc by omega] at e
  have e := ck_131_1 (pc - 40) (by omega)
  rwa [show 40 + (pc - 40) = pc by omega] at e
set_option maxRecDepth 100000 in
set_option maxHeartbeats 4000000 in
theorem ck_132_0 : ∀ pc, pc < 40 → pm_chk 132 (0 + pc) cX12_isUnder (k_132 (0 + pc)) = true := fun pc h => pm_chq_ok ((by decide +kernel : ∀ pc, pc < 40 → pm_chq 132 0 pc cX12_isUnder (k_132 (0 + pc)) = true) pc h)
set_option maxRecDepth 100000 in
set_option maxHeartbeats 4000000 in
theorem ck_132_1 : ∀ pc, pc < 40 → pm_chk 132 (40 + pc) cX12_isUnder (k_132 (40 + pc)) = true := fun pc h => pm_chq_ok ((by decide +kernel : ∀ pc, pc < 40 → pm_chq 132 40 pc cX12_isUnder (k_132 (40 + pc)) = true) pc h)
set_option maxRecDepth 100000 in
set_option maxHeartbeats 4000000 in
theorem ck_132_2 : ∀ pc, pc < 5 → pm_chk 132 (80 + pc) cX12_isUnder (k_132 (80 + pc)) = true := fun pc h => pm_chq_ok ((by decide +kernel : ∀ pc, pc < 5 → pm_chq 132 80 pc cX12_isUnder (k_132 (80 + pc)) = true) pc h)
theorem ck_132 (pc : Nat) (h : pc < 85) : pm_chk 132 pc cX12_isUnder (k_132 pc) = true := by
  by_cases h0 : pc < 40
  · have e := ck_132_0 (pc - 0) (by omega)
    rwa [show 0 + (pc - 0) = pc by omega] at e
  by_cases h1 : pc < 80
  · have e := ck_132_1 (pc - 40) (by omega)
    rwa [show 40 + (pc - 40) = pc by omega] at e
  have e := ck_132_2 (pc - 80) (by omega)
  rwa [show 80 + (pc - 80) = pc by omega] at e
set_option maxRecDepth 100000 in
set_option maxHeartbeats 4000000 in
theorem ck_133_0 : ∀ pc, pc < 40 → pm_chk 133 (0 + pc) cX12_isLoose (k_133 (0 + pc)) = true := fun pc h => pm_chq_ok ((by decide +kernel : ∀ pc, pc < 40 → pm_chq 133 0 pc cX12_isLoose (k_133 (0 + pc)) = true) pc h)
set_option maxRecDepth 100000 in
set_option maxHeartbeats 4000000 in
theorem ck_133_1 : ∀ pc, pc < 1 → pm_chk 133 (40 + pc) cX12_isLoose (k_133 (40 + pc)) = true := fun pc h => pm_chq_ok ((by decide +kernel : ∀ pc, pc < 1 → pm_chq 133 40 pc cX12_isLoose (k_133 (40 + pc)) = true) pc h)
theorem ck_133 (pc : Nat) (h : pc < 41) : pm_chk 133 pc cX12_isLoose (k_133 pc) = true := by
  by_cases h0 : pc < 40
  · have e := ck_133_0 (pc - 0) (by omega)
    rwa [show 0 + (pc - 0) = pc by omega] at e
  have e := ck_133_1 (pc - 40) (by omega)
  rwa [show 40 + (pc - 40) = pc by omega] at e
set_option maxRecDepth 100000 in
set_option maxHeartbeats 4000000 in
theorem ck_134_0 : ∀ pc, pc < 40 → pm_chk 134 (0 + pc) cX12_type (k_134 (0 + pc)) = true := fun pc h => pm_chq_ok ((by decide +kernel : ∀ pc, pc < 40 → pm_chq 134 0 pc cX12_type (k_134 (0 + pc)) = true) pc h)
set_option maxRecDepth 100000 in
set_option maxHeartbeats 4000000 in
theorem ck_134_1 : ∀ pc, pc < 9 → pm_chk 134 (40 + pc) cX12_type (k_134 (40 + pc)) = true := fun pc h => pm_chq_ok ((by decide +kernel : ∀ pc, pc < 9 → pm_chq 134 40 pc cX12_type (k_134 (40 + pc)) = true) pc h)
theorem ck_134 (pc : Nat) (h : pc < 49) : pm_chk 134 pc cX12_type (k_134 pc) = true := by
  by_cases h0 : pc < 40
  · have e := ck_134_0 (pc - 0) (by omega)
    rwa [show 0 + (pc - 0) = pc by omega] at e
  have e := ck_134_1 (pc - 40) (by omega)
  rwa [show 40 + (pc - 40) = pc by omega] at e
set_option maxRecDepth 100000 in
set_option maxHeartbeats 4000000 in
theorem ck_135_0 : ∀ pc, pc < 40 → pm_chk 135 (0 + pc) cX12_under (k_135 (0 + pc)) = true := fun pc h => pm_chq_ok ((by decide +kernel : ∀ pc, pc < 40 → pm_chq 135 0 pc cX12_under (k_135 (0 + pc)) = true) pc h)
set_option maxRecDepth 100000 in
set_option maxHeartbeats 4000000 in
theorem ck_135_1 : ∀ pc, pc < 5 → pm_chk 135 (40 + pc) cX12_under (k_135 (40 + pc)) = true := fun pc h => pm_chq_ok ((by decide +kernel : ∀ pc, pc < 5 → pm_chq 135 40 pc cX12_under (k_135 (40 + pc)) = true) pc h)
theorem ck_135 (pc : Nat) (h : pc < 45) : pm_chk 135 pc cX12_under (k_135 pc) = true := by
  by_cases h0 : pc < 40
  · have e := ck_135_0 (pc - 0) (by omega)
    rwa [show 0 + (pc - 0) = pc by omega] at e
  have e := ck_135_1 (pc - 40) (by omega)
  rwa [show 40 + (pc - 40) = pc by omega] at e
set_option maxRecDepth 100000 in
set_option maxHeartbeats 4000000 in
theorem ck_136_0 : ∀ pc, pc < 40 → pm_chk 136 (0 + pc) cX12_loose (k_136 (0 + pc)) = true := fun pc h => pm_chq_ok ((by decide +kernel : ∀ pc, pc < 40 → pm_chq 136 0 pc cX12_loose (k_136 (0 + pc)) = true) pc h)
set_option maxRecDepth 100000 in
set_option maxHeartbeats 4000000 in
theorem ck_136_1 : ∀ pc, pc < 5 → pm_chk 136 (40 + pc) cX12_loose (k_136 (40 + pc)) = true := fun pc h => pm_chq_ok ((by decide +kernel : ∀ pc, pc < 5 → pm_chq 136 40 pc cX12_loose (k_136 (40 + pc)) = true) pc h)
theorem ck_136 (pc : Nat) (h : pc < 45) : pm_chk 136 pc cX12_loose (k_136 pc) = true := by
  by_cases h0 : pc < 40
  · have e := ck_136_0 (pc - 0) (by omega)
    rwa [show 0 + (pc - 0) = pc by omega] at e
  have e := ck_136_1 (pc - 40) (by omega)
  rwa [show 40 + (pc - 40) = pc by omega] at e
set_option maxRecDepth 100000 in
set_option maxHeartbeats 4000000 in
theorem ck_137_0 : ∀ pc, pc < 40 → pm_chk 137 (0 + pc) cX12_tell (k_137 (0 + pc)) = true := fun pc h => pm_chq_ok ((by decide +kernel : ∀ pc, pc < 40 → pm_chq 137 0 pc cX12_tell (k_137 (0 + pc)) = true) pc h)
set_option maxRecDepth 100000 in
set_option maxHeartbeats 4000000 in
theorem ck_137_1 : ∀ pc, pc < 6 → pm_chk 137 (40 + pc) cX12_tell (k_137 (40 + pc)) = true := fun pc h => pm_chq_ok ((by decide +kernel : ∀ pc, pc < 6 → pm_chq 137 40 pc cX12_tell (k_137 (40 + pc)) = true) pc h)
theorem ck_137 (pc : Nat) (h : pc < 46) : pm_chk 137 pc cX12_tell (k_137 pc) = true := by
  by_cases h0 : pc < 40
  · have e := ck_137_0 (pc - 0) (by omega)
    rwa [show 0 + (pc - 0) = pc by omega] at e
  have e := ck_137_1 (pc - 40) (by omega)
  rwa [show 40 + (pc - 40) = pc by omega] at e
set_option maxRecDepth 100000 in
set_option maxHeartbeats 4000000 in
theorem ck_138 : ∀ pc, pc < 12 → pm_chk 138 pc cX12_untell (k_138 pc) = true := fun pc h => pm_chq_0 ((by decide +kernel : ∀ pc, pc < 12 → pm_chq 138 0 pc cX12_untell (k_138 pc) = true) pc h)
set_option maxRecDepth 100000 in
set_option maxHeartbeats 4000000 in
theorem ck_139 : ∀ pc, pc < 17 → pm_chk 139 pc cX12_isMark (k_139 pc) = true := fun pc h => pm_chq_0 ((by decide +kernel : ∀ pc, pc < 17 → pm_chq 139 0 pc cX12_isMark (k_139 pc) = true) pc h)
set_option maxRecDepth 100000 in
set_option maxHeartbeats 4000000 in
theorem ck_140_0 : ∀ pc, pc < 40 → pm_chk 140 (0 + pc) cX12_isSame (k_140 (0 + pc)) = true := fun pc h => pm_chq_ok ((by decide +kernel : ∀ pc, pc < 40 → pm_chq 140 0 pc cX12_isSame (k_140 (0 + pc)) = true) pc h)
set_option maxRecDepth 100000 in
set_option maxHeartbeats 4000000 in
theorem ck_140_1 : ∀ pc, pc < 40 → pm_chk 140 (40 + pc) cX12_isSame (k_140 (40 + pc)) = true := fun pc h => pm_chq_ok ((by decide +kernel : ∀ pc, pc < 40 → pm_chq 140 40 pc cX12_isSame (k_140 (40 + pc)) = true) pc h)
set_option maxRecDepth 100000 in
set_option maxHeartbeats 4000000 in
theorem ck_140_2 : ∀ pc, pc < 13 → pm_chk 140 (80 + pc) cX12_isSame (k_140 (80 + pc)) = true := fun pc h => pm_chq_ok ((by decide +kernel : ∀ pc, pc < 13 → pm_chq 140 80 pc cX12_isSame (k_140 (80 + pc)) = true) pc h)
theorem ck_140 (pc : Nat) (h : pc < 93) : pm_chk 140 pc cX12_isSame (k_140 pc) = true := by
  by_cases h0 : pc < 40
  · have e := ck_140_0 (pc - 0) (by omega)
    rwa [show 0 + (pc - 0) = pc by omega] at e
  by_cases h1 : pc < 80
  · have e := ck_140_1 (pc - 40) (by omega)
    rwa [show 40 + (pc - 40) = pc by omega] at e
  have e := ck_140_2 (pc - 80) (by omega)
  rwa [show 80 + (pc - 80) = pc by omega] at e
set_option maxRecDepth 100000 in
set_option maxHeartbeats 4000000 in
theorem ck_141_0 : ∀ pc, pc < 40 → pm_chk 141 (0 + pc) cX12_isClash (k_141 (0 + pc)) = true := fun pc h => pm_chq_ok ((by decide +kernel : ∀ pc, pc < 40 → pm_chq 141 0 pc cX12_isClash (k_141 (0 + pc)) = true) pc h)
set_option maxRecDepth 100000 in
set_option maxHeartbeats 4000000 in
theorem ck_141_1 : ∀ pc, pc < 40 → pm_chk 141 (40 + pc) cX12_isClash (k_141 (40 + pc)) = true := fun pc h => pm_chq_ok ((by decide +kernel : ∀ pc, pc < 40 → pm_chq 141 40 pc cX12_isClash (k_141 (40 + pc)) = true) pc h)
set_option maxRecDepth 100000 in
set_option maxHeartbeats 4000000 in
theorem ck_141_2 : ∀ pc, pc < 40 → pm_chk 141 (80 + pc) cX12_isClash (k_141 (80 + pc)) = true := fun pc h => pm_chq_ok ((by decide +kernel : ∀ pc, pc < 40 → pm_chq 141 80 pc cX12_isClash (k_141 (80 + pc)) = true) pc h)
set_option maxRecDepth 100000 in
set_option maxHeartbeats 4000000 in
theorem ck_141_3 : ∀ pc, pc < 40 → pm_chk 141 (120 + pc) cX12_isClash (k_141 (120 + pc)) = true := fun pc h => pm_chq_ok ((by decide +kernel : ∀ pc, pc < 40 → pm_chq 141 120 pc cX12_isClash (k_141 (120 + pc)) = true) pc h)
set_option maxRecDepth 100000 in
set_option maxHeartbeats 4000000 in
theorem ck_141_4 : ∀ pc, pc < 21 → pm_chk 141 (160 + pc) cX12_isClash (k_141 (160 + pc)) = true := fun pc h => pm_chq_ok ((by decide +kernel : ∀ pc, pc < 21 → pm_chq 141 160 pc cX12_isClash (k_141 (160 + pc)) = true) pc h)
theorem ck_141 (pc : Nat) (h : pc < 181) : pm_chk 141 pc cX12_isClash (k_141 pc) = true := by
  by_cases h0 : pc < 40
  · have e := ck_141_0 (pc - 0) (by omega)
    rwa [show 0 + (pc - 0) = pc by omega] at e
  by_cases h1 : pc < 80
  · have e := ck_141_1 (pc - 40) (by omega)
    rwa [show 40 + (pc - 40) = pc by omega] at e
  by_cases h2 : pc < 120
  · have e := ck_141_2 (pc - 80) (by omega)
    rwa [show 80 + (pc - 80) = pc by omega] at e
  by_cases h3 : pc < 160
  · have e := ck_141_3 (pc - 120) (by omega)
    rwa [show 120 + (pc - 120) = pc by omega] at e
  have e := ck_141_4 (pc - 160) (by omega)
  rwa [show 160 + (pc - 160) = pc by omega] at e
set_option maxRecDepth 100000 in
set_option maxHeartbeats 4000000 in
theorem ck_142_0 : ∀ pc, pc < 40 → pm_chk 142 (0 + pc) cX12_member (k_142 (0 + pc)) = true := fun pc h => pm_chq_ok ((by decide +kernel : ∀ pc, pc < 40 → pm_chq 142 0 pc cX12_member (k_142 (0 + pc)) = true) pc h)
set_option maxRecDepth 100000 in
set_option maxHeartbeats 4000000 in
theorem ck_142_1 : ∀ pc, pc < 40 → pm_chk 142 (40 + pc) cX12_member (k_142 (40 + pc)) = true := fun pc h => pm_chq_ok ((by decide +kernel : ∀ pc, pc < 40 → pm_chq 142 40 pc cX12_member (k_142 (40 + pc)) = true) pc h)
set_option maxRecDepth 100000 in
set_option maxHeartbeats 4000000 in
theorem ck_142_2 : ∀ pc, pc < 40 → pm_chk 142 (80 + pc) cX12_member (k_142 (80 + pc)) = true := fun pc h => pm_chq_ok ((by decide +kernel : ∀ pc, pc < 40 → pm_chq 142 80 pc cX12_member (k_142 (80 + pc)) = true) pc h)
set_option maxRecDepth 100000 in
set_option maxHeartbeats 4000000 in
theorem ck_142_3 : ∀ pc, pc < 40 → pm_chk 142 (120 + pc) cX12_member (k_142 (120 + pc)) = true := fun pc h => pm_chq_ok ((by decide +kernel : ∀ pc, pc < 40 → pm_chq 142 120 pc cX12_member (k_142 (120 + pc)) = true) pc h)
set_option maxRecDepth 100000 in
set_option maxHeartbeats 4000000 in
theorem ck_142_4 : ∀ pc, pc < 40 → pm_chk 142 (160 + pc) cX12_member (k_142 (160 + pc)) = true := fun pc h => pm_chq_ok ((by decide +kernel : ∀ pc, pc < 40 → pm_chq 142 160 pc cX12_member (k_142 (160 + pc)) = true) pc h)
set_option maxRecDepth 100000 in
set_option maxHeartbeats 4000000 in
theorem ck_142_5 : ∀ pc, pc < 40 → pm_chk 142 (200 + pc) cX12_member (k_142 (200 + pc)) = true := fun pc h => pm_chq_ok ((by decide +kernel : ∀ pc, pc < 40 → pm_chq 142 200 pc cX12_member (k_142 (200 + pc)) = true) pc h)
set_option maxRecDepth 100000 in
set_option maxHeartbeats 4000000 in
theorem ck_142_6 : ∀ pc, pc < 40 → pm_chk 142 (240 + pc) cX12_member (k_142 (240 + pc)) = true := fun pc h => pm_chq_ok ((by decide +kernel : ∀ pc, pc < 40 → pm_chq 142 240 pc cX12_member (k_142 (240 + pc)) = true) pc h)
set_option maxRecDepth 100000 in
set_option maxHeartbeats 4000000 in
theorem ck_142_7 : ∀ pc, pc < 27 → pm_chk 142 (280 + pc) cX12_member (k_142 (280 + pc)) = true := fun pc h => pm_chq_ok ((by decide +kernel : ∀ pc, pc < 27 → pm_chq 142 280 pc cX12_member (k_142 (280 + pc)) = true) pc h)
theorem ck_142 (pc : Nat) (h : pc < 307) : pm_chk 142 pc cX12_member (k_142 pc) = true := by
  by_cases h0 : pc < 40
  · have e := ck_142_0 (pc - 0) (by omega)
    rwa [show 0 + (pc - 0) = pc by omega] at e
  by_cases h1 : pc < 80
  · have e := ck_142_1 (pc - 40) (by omega)
    rwa [show 40 + (pc - 40) = pc by omega] at e
  by_cases h2 : pc < 120
  · have e := ck_142_2 (pc - 80) (by omega)
    rwa [show 80 + (pc - 80) = pc by omega] at e
  by_cases h3 : pc < 160
  · have e := ck_142_3 (pc - 120) (by omega)
    rwa [show 120 + (pc - 120) = pc by omega] at e
  by_cases h4 : pc < 200
  · have e := ck_142_4 (pc - 160) (by omega)
    rwa [show 160 + (pc - 160) = pc by omega] at e
  by_cases h5 : pc < 240
  · have e := ck_142_5 (pc - 200) (by omega)
    rwa [show 200 + (pc - 200) = pc by omega] at e
  by_cases h6 : pc < 280
  · have e := ck_142_6 (pc - 240) (by omega)
    rwa [show 240 + (pc - 240) = pc by omega] at e
  have e := ck_142_7 (pc - 280) (by omega)
  rwa [show 280 + (pc - 280) = pc by omega] at e
set_option maxRecDepth 100000 in
set_option maxHeartbeats 4000000 in
theorem ck_143_0 : ∀ pc, pc < 40 → pm_chk 143 (0 + pc) cX12_isHad (k_143 (0 + pc)) = true := fun pc h => pm_chq_ok ((by decide +kernel : ∀ pc, pc < 40 → pm_chq 143 0 pc cX12_isHad (k_143 (0 + pc)) = true) pc h)
set_option maxRecDepth 100000 in
set_option maxHeartbeats 4000000 in
theorem ck_143_1 : ∀ pc, pc < 40 → pm_chk 143 (40 + pc) cX12_isHad (k_143 (40 + pc)) = true := fun pc h => pm_chq_ok ((by decide +kernel : ∀ pc, pc < 40 → pm_chq 143 40 pc cX12_isHad (k_143 (40 + pc)) = true) pc h)
set_option maxRecDepth 100000 in
set_option maxHeartbeats 4000000 in
theorem ck_143_2 : ∀ pc, pc < 40 → pm_chk 143 (80 + pc) cX12_isHad (k_143 (80 + pc)) = true := fun pc h => pm_chq_ok ((by decide +kernel : ∀ pc, pc < 40 → pm_chq 143 80 pc cX12_isHad (k_143 (80 + pc)) = true) pc h)
set_option maxRecDepth 100000 in
set_option maxHeartbeats 4000000 in
theorem ck_143_3 : ∀ pc, pc < 34 → pm_chk 143 (120 + pc) cX12_isHad (k_143 (120 + pc)) = true := fun pc h => pm_chq_ok ((by decide +kernel : ∀ pc, pc < 34 → pm_chq 143 120 pc cX12_isHad (k_143 (120 + pc)) = true) pc h)
theorem ck_143 (pc : Nat) (h : pc < 154) : pm_chk 143 pc cX12_isHad (k_143 pc) = true := by
  by_cases h0 : pc < 40
  · have e := ck_143_0 (pc - 0) (by omega)
    rwa [show 0 + (pc - 0) = pc by omega] at e
  by_cases h1 : pc < 80
  · have e := ck_143_1 (pc - 40) (by omega)
    rwa [show 40 + (pc - 40) = pc by omega] at e
  by_cases h2 : pc < 120
  · have e := ck_143_2 (pc - 80) (by omega)
    rwa [show 80 + (pc - 80) = pc by omega] at e
  have e := ck_143_3 (pc - 120) (by omega)
  rwa [show 120 + (pc - 120) = pc by omega] at e
set_option maxRecDepth 100000 in
set_option maxHeartbeats 4000000 in
theorem ck_144_0 : ∀ pc, pc < 40 → pm_chk 144 (0 + pc) cX12_has (k_144 (0 + pc)) = true := fun pc h => pm_chq_ok ((by decide +kernel : ∀ pc, pc < 40 → pm_chq 144 0 pc cX12_has (k_144 (0 + pc)) = true) pc h)
set_option maxRecDepth 100000 in
set_option maxHeartbeats 4000000 in
theorem ck_144_1 : ∀ pc, pc < 14 → pm_chk 144 (40 + pc) cX12_has (k_144 (40 + pc)) = true := fun pc h => pm_chq_ok ((by decide +kernel : ∀ pc, pc < 14 → pm_chq 144 40 pc cX12_has (k_144 (40 + pc)) = true) pc h)
theorem ck_144 (pc : Nat) (h : pc < 54) : pm_chk 144 pc cX12_has (k_144 pc) = true := by
  by_cases h0 : pc < 40
  · have e := ck_144_0 (pc - 0) (by omega)
    rwa [show 0 + (pc - 0) = pc by omega] at e
  have e := ck_144_1 (pc - 40) (by omega)
  rwa [show 40 + (pc - 40) = pc by omega] at e
set_option maxRecDepth 100000 in
set_option maxHeartbeats 4000000 in
theorem ck_145_0 : ∀ pc, pc < 40 → pm_chk 145 (0 + pc) cX12_isOpen (k_145 (0 + pc)) = true := fun pc h => pm_chq_ok ((by decide +kernel : ∀ pc, pc < 40 → pm_chq 145 0 pc cX12_isOpen (k_145 (0 + pc)) = true) pc h)
set_option maxRecDepth 100000 in
set_option maxHeartbeats 4000000 in
theorem ck_145_1 : ∀ pc, pc < 8 → pm_chk 145 (40 + pc) cX12_isOpen (k_145 (40 + pc)) = true := fun pc h => pm_chq_ok ((by decide +kernel : ∀ pc, pc < 8 → pm_chq 145 40 pc cX12_isOpen (k_145 (40 + pc)) = true) pc h)
theorem ck_145 (pc : Nat) (h : pc < 48) : pm_chk 145 pc cX12_isOpen (k_145 pc) = true := by
  by_cases h0 : pc < 40
  · have e := ck_145_0 (pc - 0) (by omega)
    rwa [show 0 + (pc - 0) = pc by omega] at e
  have e := ck_145_1 (pc - 40) (by omega)
  rwa [show 40 + (pc - 40) = pc by omega] at e
set_option maxRecDepth 100000 in
set_option maxHeartbeats 4000000 in
theorem ck_146 : ∀ pc, pc < 26 → pm_chk 146 pc cX12_open (k_146 pc) = true := fun pc h => pm_chq_0 ((by decide +kernel : ∀ pc, pc < 26 → pm_chq 146 0 pc cX12_open (k_146 pc) = true) pc h)
set_option maxRecDepth 100000 in
set_option maxHeartbeats 4000000 in
theorem ck_147_0 : ∀ pc, pc < 40 → pm_chk 147 (0 + pc) cX12_placeOf (k_147 (0 + pc)) = true := fun pc h => pm_chq_ok ((by decide +kernel : ∀ pc, pc < 40 → pm_chq 147 0 pc cX12_placeOf (k_147 (0 + pc)) = true) pc h)
set_option maxRecDepth 100000 in
set_option maxHeartbeats 4000000 in
theorem ck_147_1 : ∀ pc, pc < 18 → pm_chk 147 (40 + pc) cX12_placeOf (k_147 (40 + pc)) = true := fun pc h => pm_chq_ok ((by decide +kernel : ∀ pc, pc < 18 → pm_chq 147 40 pc cX12_placeOf (k_147 (40 + pc)) = true) pc h)
theorem ck_147 (pc : Nat) (h : pc < 58) : pm_chk 147 pc cX12_placeOf (k_147 pc) = true := by
  by_cases h0 : pc < 40
  · have e := ck_147_0 (pc - 0) (by omega)
    rwa [show 0 + (pc - 0) = pc by omega] at e
  have e := ck_147_1 (pc - 40) (by omega)
  rwa [show 40 + (pc - 40) = pc by omega] at e
set_option maxRecDepth 100000 in
set_option maxHeartbeats 4000000 in
theorem ck_148_0 : ∀ pc, pc < 40 → pm_chk 148 (0 + pc) cX12_takes (k_148 (0 + pc)) = true := fun pc h => pm_chq_ok ((by decide +kernel : ∀ pc, pc < 40 → pm_chq 148 0 pc cX12_takes (k_148 (0 + pc)) = true) pc h)
set_option maxRecDepth 100000 in
set_option maxHeartbeats 4000000 in
theorem ck_148_1 : ∀ pc, pc < 40 → pm_chk 148 (40 + pc) cX12_takes (k_148 (40 + pc)) = true := fun pc h => pm_chq_ok ((by decide +kernel : ∀ pc, pc < 40 → pm_chq 148 40 pc cX12_takes (k_148 (40 + pc)) = true) pc h)
set_option maxRecDepth 100000 in
set_option maxHeartbeats 4000000 in
theorem ck_148_2 : ∀ pc, pc < 40 → pm_chk 148 (80 + pc) cX12_takes (k_148 (80 + pc)) = true := fun pc h => pm_chq_ok ((by decide +kernel : ∀ pc, pc < 40 → pm_chq 148 80 pc cX12_takes (k_148 (80 + pc)) = true) pc h)
set_option maxRecDepth 100000 in
set_option maxHeartbeats 4000000 in
theorem ck_148_3 : ∀ pc, pc < 37 → pm_chk 148 (120 + pc) cX12_takes (k_148 (120 + pc)) = true := fun pc h => pm_chq_ok ((by decide +kernel : ∀ pc, pc < 37 → pm_chq 148 120 pc cX12_takes (k_148 (120 + pc)) = true) pc h)
theorem ck_148 (pc : Nat) (h : pc < 157) : pm_chk 148 pc cX12_takes (k_148 pc) = true := by
  by_cases h0 : pc < 40
  · have e := ck_148_0 (pc - 0) (by omega)
    rwa [show 0 + (pc - 0) = pc by omega] at e
  by_cases h1 : pc < 80
  · have e := ck_148_1 (pc - 40) (by omega)
    rwa [show 40 + (pc - 40) = pc by omega] at e
  by_cases h2 : pc < 120
  · have e := ck_148_2 (pc - 80) (by omega)
    rwa [show 80 + (pc - 80) = pc by omega] at e
  have e := ck_148_3 (pc - 120) (by omega)
  rwa [show 120 + (pc - 120) = pc by omega] at e
set_option maxRecDepth 100000 in
set_option maxHeartbeats 4000000 in
theorem ck_149_0 : ∀ pc, pc < 40 → pm_chk 149 (0 + pc) cX12_isSpecial (k_149 (0 + pc)) = true := fun pc h => pm_chq_ok ((by decide +kernel : ∀ pc, pc < 40 → pm_chq 149 0 pc cX12_isSpecial (k_149 (0 + pc)) = true) pc h)
set_option maxRecDepth 100000 in
set_option maxHeartbeats 4000000 in
theorem ck_149_1 : ∀ pc, pc < 40 → pm_chk 149 (40 + pc) cX12_isSpecial (k_149 (40 + pc)) = true := fun pc h => pm_chq_ok ((by decide +kernel : ∀ pc, pc < 40 → pm_chq 149 40 pc cX12_isSpecial (k_149 (40 + pc)) = true) pc h)
set_option maxRecDepth 100000 in
set_option maxHeartbeats 4000000 in
theorem ck_149_2 : ∀ pc, pc < 40 → pm_chk 149 (80 + pc) cX12_isSpecial (k_149 (80 + pc)) = true := fun pc h => pm_chq_ok ((by decide +kernel : ∀ pc, pc < 40 → pm_chq 149 80 pc cX12_isSpecial (k_149 (80 + pc)) = true) pc h)
set_option maxRecDepth 100000 in
set_option maxHeartbeats 4000000 in
theorem ck_149_3 : ∀ pc, pc < 40 → pm_chk 149 (120 + pc) cX12_isSpecial (k_149 (120 + pc)) = true := fun pc h => pm_chq_ok ((by decide +kernel : ∀ pc, pc < 40 → pm_chq 149 120 pc cX12_isSpecial (k_149 (120 + pc)) = true) pc h)
set_option maxRecDepth 100000 in
set_option maxHeartbeats 4000000 in
theorem ck_149_4 : ∀ pc, pc < 33 → pm_chk 149 (160 + pc) cX12_isSpecial (k_149 (160 + pc)) = true := fun pc h => pm_chq_ok ((by decide +kernel : ∀ pc, pc < 33 → pm_chq 149 160 pc cX12_isSpecial (k_149 (160 + pc)) = true) pc h)
theorem ck_149 (pc : Nat) (h : pc < 193) : pm_chk 149 pc cX12_isSpecial (k_149 pc) = true := by
  by_cases h0 : pc < 40
  · have e := ck_149_0 (pc - 0) (by omega)
    rwa [show 0 + (pc - 0) = pc by omega] at e
  by_cases h1 : pc < 80
  · have e := ck_149_1 (pc - 40) (by omega)
    rwa [show 40 + (pc - 40) = pc by omega] at e
  by_cases h2 : pc < 120
  · have e := ck_149_2 (pc - 80) (by omega)
    rwa [show 80 + (pc - 80) = pc by omega] at e
  by_cases h3 : pc < 160
  · have e := ck_149_3 (pc - 120) (by omega)
    rwa [show 120 + (pc - 120) = pc by omega] at e
  have e := ck_149_4 (pc - 160) (by omega)
  rwa [show 160 + (pc - 160) = pc by omega] at e
set_option maxRecDepth 100000 in
set_option maxHeartbeats 4000000 in
theorem ck_150_0 : ∀ pc, pc < 40 → pm_chk 150 (0 + pc) cX12_searched (k_150 (0 + pc)) = true := fun pc h => pm_chq_ok ((by decide +kernel : ∀ pc, pc < 40 → pm_chq 150 0 pc cX12_searched (k_150 (0 + pc)) = true) pc h)
set_option maxRecDepth 100000 in
set_option maxHeartbeats 4000000 in
theorem ck_150_1 : ∀ pc, pc < 40 → pm_chk 150 (40 + pc) cX12_searched (k_150 (40 + pc)) = true := fun pc h => pm_chq_ok ((by decide +kernel : ∀ pc, pc < 40 → pm_chq 150 40 pc cX12_searched (k_150 (40 + pc)) = true) pc h)
set_option maxRecDepth 100000 in
set_option maxHeartbeats 4000000 in
theorem ck_150_2 : ∀ pc, pc < 40 → pm_chk 150 (80 + pc) cX12_searched (k_150 (80 + pc)) = true := fun pc h => pm_chq_ok ((by decide +kernel : ∀ pc, pc < 40 → pm_chq 150 80 pc cX12_searched (k_150 (80 + pc)) = true) pc h)
set_option maxRecDepth 100000 in
set_option maxHeartbeats 4000000 in
theorem ck_150_3 : ∀ pc, pc < 40 → pm_chk 150 (120 + pc) cX12_searched (k_150 (120 + pc)) = true := fun pc h => pm_chq_ok ((by decide +kernel : ∀ pc, pc < 40 → pm_chq 150 120 pc cX12_searched (k_150 (120 + pc)) = true) pc h)
set_option maxRecDepth 100000 in
set_option maxHeartbeats 4000000 in
theorem ck_150_4 : ∀ pc, pc < 40 → pm_chk 150 (160 + pc) cX12_searched (k_150 (160 + pc)) = true := fun pc h => pm_chq_ok ((by decide +kernel : ∀ pc, pc < 40 → pm_chq 150 160 pc cX12_searched (k_150 (160 + pc)) = true) pc h)
set_option maxRecDepth 100000 in
set_option maxHeartbeats 4000000 in
theorem ck_150_5 : ∀ pc, pc < 16 → pm_chk 150 (200 + pc) cX12_searched (k_150 (200 + pc)) = true := fun pc h => pm_chq_ok ((by decide +kernel : ∀ pc, pc < 16 → pm_chq 150 200 pc cX12_searched (k_150 (200 + pc)) = true) pc h)
theorem ck_150 (pc : Nat) (h : pc < 216) : pm_chk 150 pc cX12_searched (k_150 pc) = true := by
  by_cases h0 : pc < 40
  · have e := ck_150_0 (pc - 0) (by omega)
    rwa [show 0 + (pc - 0) = pc by omega] at e
  by_cases h1 : pc < 80
  · have e := ck_150_1 (pc - 40) (by omega)
    rwa [show 40 + (pc - 40) = pc by omega] at e
  by_cases h2 : pc < 120
  · have e := ck_150_2 (pc - 80) (by omega)
    rwa [show 80 + (pc - 80) = pc by omega] at e
  by_cases h3 : pc < 160
  · have e := ck_150_3 (pc - 120) (by omega)
    rwa [show 120 + (pc - 120) = pc by omega] at e
  by_cases h4 : pc < 200
  · have e := ck_150_4 (pc - 160) (by omega)
    rwa [show 160 + (pc - 160) = pc by omega] at e
  have e := ck_150_5 (pc - 200) (by omega)
  rwa [show 200 + (pc - 200) = pc by omega] at e
set_option maxRecDepth 100000 in
set_option maxHeartbeats 4000000 in
theorem ck_151 : ∀ pc, pc < 32 → pm_chk 151 pc cX12_nothingFits (k_151 pc) = true := fun pc h => pm_chq_0 ((by decide +kernel : ∀ pc, pc < 32 → pm_chq 151 0 pc cX12_nothingFits (k_151 pc) = true) pc h)
set_option maxRecDepth 100000 in
set_option maxHeartbeats 4000000 in
theorem ck_152_0 : ∀ pc, pc < 40 → pm_chk 152 (0 + pc) cX12_secondSearched (k_152 (0 + pc)) = true := fun pc h => pm_chq_ok ((by decide +kernel : ∀ pc, pc < 40 → pm_chq 152 0 pc cX12_secondSearched (k_152 (0 + pc)) = true) pc h)
set_option maxRecDepth 100000 in
set_option maxHeartbeats 4000000 in
theorem ck_152_1 : ∀ pc, pc < 1 → pm_chk 152 (40 + pc) cX12_secondSearched (k_152 (40 + pc)) = true := fun pc h => pm_chq_ok ((by decide +kernel : ∀ pc, pc < 1 → pm_chq 152 40 pc cX12_secondSearched (k_152 (40 + pc)) = true) pc h)
theorem ck_152 (pc : Nat) (h : pc < 41) : pm_chk 152 pc cX12_secondSearched (k_152 pc) = true := by
  by_cases h0 : pc < 40
  · have e := ck_152_0 (pc - 0) (by omega)
    rwa [show 0 + (pc - 0) = pc by omega] at e
  have e := ck_152_1 (pc - 40) (by omega)
  rwa [show 40 + (pc - 40) = pc by omega] at e
set_option maxRecDepth 100000 in
set_option maxHeartbeats 4000000 in
theorem ck_153_0 : ∀ pc, pc < 40 → pm_chk 153 (0 + pc) cX12_statics (k_153 (0 + pc)) = true := fun pc h => pm_chq_ok ((by decide +kernel : ∀ pc, pc < 40 → pm_chq 153 0 pc cX12_statics (k_153 (0 + pc)) = true) pc h)
set_option maxRecDepth 100000 in
set_option maxHeartbeats 4000000 in
theorem ck_153_1 : ∀ pc, pc < 6 → pm_chk 153 (40 + pc) cX12_statics (k_153 (40 + pc)) = true := fun pc h => pm_chq_ok ((by decide +kernel : ∀ pc, pc < 6 → pm_chq 153 40 pc cX12_statics (k_153 (40 + pc)) = true) pc h)
theorem ck_153 (pc : Nat) (h : pc < 46) : pm_chk 153 pc cX12_statics (k_153 pc) = true := by
  by_cases h0 : pc < 40
  · have e := ck_153_0 (pc - 0) (by omega)
    rwa [show 0 + (pc - 0) = pc by omega] at e
  have e := ck_153_1 (pc - 40) (by omega)
  rwa [show 40 + (pc - 40) = pc by omega] at e
set_option maxRecDepth 100000 in
set_option maxHeartbeats 4000000 in
theorem ck_154_0 : ∀ pc, pc < 40 → pm_chk 154 (0 + pc) cX12_makers (k_154 (0 + pc)) = true := fun pc h => pm_chq_ok ((by decide +kernel : ∀ pc, pc < 40 → pm_chq 154 0 pc cX12_makers (k_154 (0 + pc)) = true) pc h)
set_option maxRecDepth 100000 in
set_option maxHeartbeats 4000000 in
theorem ck_154_1 : ∀ pc, pc < 9 → pm_chk 154 (40 + pc) cX12_makers (k_154 (40 + pc)) = true := fun pc h => pm_chq_ok ((by decide +kernel : ∀ pc, pc < 9 → pm_chq 154 40 pc cX12_makers (k_154 (40 + pc)) = true) pc h)
theorem ck_154 (pc : Nat) (h : pc < 49) : pm_chk 154 pc cX12_makers (k_154 pc) = true := by
  by_cases h0 : pc < 40
  · have e := ck_154_0 (pc - 0) (by omega)
    rwa [show 0 + (pc - 0) = pc by omega] at e
  have e := ck_154_1 (pc - 40) (by omega)
  rwa [show 40 + (pc - 40) = pc by omega] at e
set_option maxRecDepth 100000 in
set_option maxHeartbeats 4000000 in
theorem ck_155_0 : ∀ pc, pc < 40 → pm_chk 155 (0 + pc) cX12_ofBoth (k_155 (0 + pc)) = true := fun pc h => pm_chq_ok ((by decide +kernel : ∀ pc, pc < 40 → pm_chq 155 0 pc cX12_ofBoth (k_155 (0 + pc)) = true) pc h)
set_option maxRecDepth 100000 in
set_option maxHeartbeats 4000000 in
theorem ck_155_1 : ∀ pc, pc < 40 → pm_chk 155 (40 + pc) cX12_ofBoth (k_155 (40 + pc)) = true := fun pc h => pm_chq_ok ((by decide +kernel : ∀ pc, pc < 40 → pm_chq 155 40 pc cX12_ofBoth (k_155 (40 + pc)) = true) pc h)
set_option maxRecDepth 100000 in
set_option maxHeartbeats 4000000 in
theorem ck_155_2 : ∀ pc, pc < 40 → pm_chk 155 (80 + pc) cX12_ofBoth (k_155 (80 + pc)) = true := fun pc h => pm_chq_ok ((by decide +kernel : ∀ pc, pc < 40 → pm_chq 155 80 pc cX12_ofBoth (k_155 (80 + pc)) = true) pc h)
set_option maxRecDepth 100000 in
set_option maxHeartbeats 4000000 in
theorem ck_155_3 : ∀ pc, pc < 27 → pm_chk 155 (120 + pc) cX12_ofBoth (k_155 (120 + pc)) = true := fun pc h => pm_chq_ok ((by decide +kernel : ∀ pc, pc < 27 → pm_chq 155 120 pc cX12_ofBoth (k_155 (120 + pc)) = true) pc h)
theorem ck_155 (pc : Nat) (h : pc < 147) : pm_chk 155 pc cX12_ofBoth (k_155 pc) = true := by
  by_cases h0 : pc < 40
  · have e := ck_155_0 (pc - 0) (by omega)
    rwa [show 0 + (pc - 0) = pc by omega] at e
  by_cases h1 : pc < 80
  · have e := ck_155_1 (pc - 40) (by omega)
    rwa [show 40 + (pc - 40) = pc by omega] at e
  by_cases h2 : pc < 120
  · have e := ck_155_2 (pc - 80) (by omega)
    rwa [show 80 + (pc - 80) = pc by omega] at e
  have e := ck_155_3 (pc - 120) (by omega)
  rwa [show 120 + (pc - 120) = pc by omega] at e
set_option maxRecDepth 100000 in
set_option maxHeartbeats 4000000 in
theorem ck_156_0 : ∀ pc, pc < 40 → pm_chk 156 (0 + pc) cX12_ofOne (k_156 (0 + pc)) = true := fun pc h => pm_chq_ok ((by decide +kernel : ∀ pc, pc < 40 → pm_chq 156 0 pc cX12_ofOne (k_156 (0 + pc)) = true) pc h)
set_option maxRecDepth 100000 in
set_option maxHeartbeats 4000000 in
theorem ck_156_1 : ∀ pc, pc < 5 → pm_chk 156 (40 + pc) cX12_ofOne (k_156 (40 + pc)) = true := fun pc h => pm_chq_ok ((by decide +kernel : ∀ pc, pc < 5 → pm_chq 156 40 pc cX12_ofOne (k_156 (40 + pc)) = true) pc h)
theorem ck_156 (pc : Nat) (h : pc < 45) : pm_chk 156 pc cX12_ofOne (k_156 pc) = true := by
  by_cases h0 : pc < 40
  · have e := ck_156_0 (pc - 0) (by omega)
    rwa [show 0 + (pc - 0) = pc by omega] at e
  have e := ck_156_1 (pc - 40) (by omega)
  rwa [show 40 + (pc - 40) = pc by omega] at e
set_option maxRecDepth 100000 in
set_option maxHeartbeats 4000000 in
theorem ck_157_0 : ∀ pc, pc < 40 → pm_chk 157 (0 + pc) cX12_means (k_157 (0 + pc)) = true := fun pc h => pm_chq_ok ((by decide +kernel : ∀ pc, pc < 40 → pm_chq 157 0 pc cX12_means (k_157 (0 + pc)) = true) pc h)
set_option maxRecDepth 100000 in
set_option maxHeartbeats 4000000 in
theorem ck_157_1 : ∀ pc, pc < 40 → pm_chk 157 (40 + pc) cX12_means (k_157 (40 + pc)) = true := fun pc h => pm_chq_ok ((by decide +kernel : ∀ pc, pc < 40 → pm_chq 157 40 pc cX12_means (k_157 (40 + pc)) = true) pc h)
set_option maxRecDepth 100000 in
set_option maxHeartbeats 4000000 in
theorem ck_157_2 : ∀ pc, pc < 40 → pm_chk 157 (80 + pc) cX12_means (k_157 (80 + pc)) = true := fun pc h => pm_chq_ok ((by decide +kernel : ∀ pc, pc < 40 → pm_chq 157 80 pc cX12_means (k_157 (80 + pc)) = true) pc h)
set_option maxRecDepth 100000 in
set_option maxHeartbeats 4000000 in
theorem ck_157_3 : ∀ pc, pc < 40 → pm_chk 157 (120 + pc) cX12_means (k_157 (120 + pc)) = true := fun pc h => pm_chq_ok ((by decide +kernel : ∀ pc, pc < 40 → pm_chq 157 120 pc cX12_means (k_157 (120 + pc)) = true) pc h)
set_option maxRecDepth 100000 in
set_option maxHeartbeats 4000000 in
theorem ck_157_4 : ∀ pc, pc < 40 → pm_chk 157 (160 + pc) cX12_means (k_157 (160 + pc)) = true := fun pc h => pm_chq_ok ((by decide +kernel : ∀ pc, pc < 40 → pm_chq 157 160 pc cX12_means (k_157 (160 + pc)) = true) pc h)
set_option maxRecDepth 100000 in
set_option maxHeartbeats 4000000 in
theorem ck_157_5 : ∀ pc, pc < 40 → pm_chk 157 (200 + pc) cX12_means (k_157 (200 + pc)) = true := fun pc h => pm_chq_ok ((by decide +kernel : ∀ pc, pc < 40 → pm_chq 157 200 pc cX12_means (k_157 (200 + pc)) = true) pc h)
theorem ck_157 (pc : Nat) (h : pc < 240) : pm_chk 157 pc cX12_means (k_157 pc) = true := by
  by_cases h0 : pc < 40
  · have e := ck_157_0 (pc - 0) (by omega)
    rwa [show 0 + (pc - 0) = pc by omega] at e
  by_cases h1 : pc < 80
  · have e := ck_157_1 (pc - 40) (by omega)
    rwa [show 40 + (pc - 40) = pc by omega] at e
  by_cases h2 : pc < 120
  · have e := ck_157_2 (pc - 80) (by omega)
    rwa [show 80 + (pc - 80) = pc by omega] at e
  by_cases h3 : pc < 160
  · have e := ck_157_3 (pc - 120) (by omega)
    rwa [show 120 + (pc - 120) = pc by omega] at e
  by_cases h4 : pc < 200
  · have e := ck_157_4 (pc - 160) (by omega)
    rwa [show 160 + (pc - 160) = pc by omega] at e
  have e := ck_157_5 (pc - 200) (by omega)
  rwa [show 200 + (pc - 200) = pc by omega] at e
set_option maxRecDepth 100000 in
set_option maxHeartbeats 4000000 in
theorem ck_158_0 : ∀ pc, pc < 40 → pm_chk 158 (0 + pc) cX12_comes (k_158 (0 + pc)) = true := fun pc h => pm_chq_ok ((by decide +kernel : ∀ pc, pc < 40 → pm_chq 158 0 pc cX12_comes (k_158 (0 + pc)) = true) pc h)
set_option maxRecDepth 100000 in
set_option maxHeartbeats 4000000 in
theorem ck_158_1 : ∀ pc, pc < 16 → pm_chk 158 (40 + pc) cX12_comes (k_158 (40 + pc)) = true := fun pc h => pm_chq_ok ((by decide +kernel : ∀ pc, pc < 16 → pm_chq 158 40 pc cX12_comes (k_158 (40 + pc)) = true) pc h)
theorem ck_158 (pc : Nat) (h : pc < 56) : pm_chk 158 pc cX12_comes (k_158 pc) = true := by
  by_cases h0 : pc < 40
  · have e := ck_158_0 (pc - 0) (by omega)
    rwa [show 0 + (pc - 0) = pc by omega] at e
  have e := ck_158_1 (pc - 40) (by omega)
  rwa [show 40 + (pc - 40) = pc by omega] at e
set_option maxRecDepth 100000 in
set_option maxHeartbeats 4000000 in
theorem ck_159_0 : ∀ pc, pc < 40 → pm_chk 159 (0 + pc) cX12_wholeMeaning (k_159 (0 + pc)) = true := fun pc h => pm_chq_ok ((by decide +kernel : ∀ pc, pc < 40 → pm_chq 159 0 pc cX12_wholeMeaning (k_159 (0 + pc)) = true) pc h)
set_option maxRecDepth 100000 in
set_option maxHeartbeats 4000000 in
theorem ck_159_1 : ∀ pc, pc < 8 → pm_chk 159 (40 + pc) cX12_wholeMeaning (k_159 (40 + pc)) = true := fun pc h => pm_chq_ok ((by decide +kernel : ∀ pc, pc < 8 → pm_chq 159 40 pc cX12_wholeMeaning (k_159 (40 + pc)) = true) pc h)
theorem ck_159 (pc : Nat) (h : pc < 48) : pm_chk 159 pc cX12_wholeMeaning (k_159 pc) = true := by
  by_cases h0 : pc < 40
  · have e := ck_159_0 (pc - 0) (by omega)
    rwa [show 0 + (pc - 0) = pc by omega] at e
  have e := ck_159_1 (pc - 40) (by omega)
  rwa [show 40 + (pc - 40) = pc by omega] at e
set_option maxRecDepth 100000 in
set_option maxHeartbeats 4000000 in
theorem ck_160 : ∀ pc, pc < 12 → pm_chk 160 pc cX12_isReference (k_160 pc) = true := fun pc h => pm_chq_0 ((by decide +kernel : ∀ pc, pc < 12 → pm_chq 160 0 pc cX12_isReference (k_160 pc) = true) pc h)
set_option maxRecDepth 100000 in
set_option maxHeartbeats 4000000 in
theorem ck_161 : ∀ pc, pc < 12 → pm_chk 161 pc cX12_isFace (k_161 pc) = true := fun pc h => pm_chq_0 ((by decide +kernel : ∀ pc, pc < 12 → pm_chq 161 0 pc cX12_isFace (k_161 pc) = true) pc h)
set_option maxRecDepth 100000 in
set_option maxHeartbeats 4000000 in
theorem ck_162_0 : ∀ pc, pc < 40 → pm_chk 162 (0 + pc) cX12_face (k_162 (0 + pc)) = true := fun pc h => pm_chq_ok ((by decide +kernel : ∀ pc, pc < 40 → pm_chq 162 0 pc cX12_face (k_162 (0 + pc)) = true) pc h)
set_option maxRecDepth 100000 in
set_option maxHeartbeats 4000000 in
theorem ck_162_1 : ∀ pc, pc < 40 → pm_chk 162 (40 + pc) cX12_face (k_162 (40 + pc)) = true := fun pc h => pm_chq_ok ((by decide +kernel : ∀ pc, pc < 40 → pm_chq 162 40 pc cX12_face (k_162 (40 + pc)) = true) pc h)
set_option maxRecDepth 100000 in
set_option maxHeartbeats 4000000 in
theorem ck_162_2 : ∀ pc, pc < 28 → pm_chk 162 (80 + pc) cX12_face (k_162 (80 + pc)) = true := fun pc h => pm_chq_ok ((by decide +kernel : ∀ pc, pc < 28 → pm_chq 162 80 pc cX12_face (k_162 (80 + pc)) = true) pc h)
theorem ck_162 (pc : Nat) (h : pc < 108) : pm_chk 162 pc cX12_face (k_162 pc) = true := by
  by_cases h0 : pc < 40
  · have e := ck_162_0 (pc - 0) (by omega)
    rwa [show 0 + (pc - 0) = pc by omega] at e
  by_cases h1 : pc < 80
  · have e := ck_162_1 (pc - 40) (by omega)
    rwa [show 40 + (pc - 40) = pc by omega] at e
  have e := ck_162_2 (pc - 80) (by omega)
  rwa [show 80 + (pc - 80) = pc by omega] at e
set_option maxRecDepth 100000 in
set_option maxHeartbeats 4000000 in
theorem ck_163_0 : ∀ pc, pc < 40 → pm_chk 163 (0 + pc) cX12_reference (k_163 (0 + pc)) = true := fun pc h => pm_chq_ok ((by decide +kernel : ∀ pc, pc < 40 → pm_chq 163 0 pc cX12_reference (k_163 (0 + pc)) = true) pc h)
set_option maxRecDepth 100000 in
set_option maxHeartbeats 4000000 in
theorem ck_163_1 : ∀ pc, pc < 40 → pm_chk 163 (40 + pc) cX12_reference (k_163 (40 + pc)) = true := fun pc h => pm_chq_ok ((by decide +kernel : ∀ pc, pc < 40 → pm_chq 163 40 pc cX12_reference (k_163 (40 + pc)) = true) pc h)
set_option maxRecDepth 100000 in
set_option maxHeartbeats 4000000 in
theorem ck_163_2 : ∀ pc, pc < 40 → pm_chk 163 (80 + pc) cX12_reference (k_163 (80 + pc)) = true := fun pc h => pm_chq_ok ((by decide +kernel : ∀ pc, pc < 40 → pm_chq 163 80 pc cX12_reference (k_163 (80 + pc)) = true) pc h)
set_option maxRecDepth 100000 in
set_option maxHeartbeats 4000000 in
theorem ck_163_3 : ∀ pc, pc < 40 → pm_chk 163 (120 + pc) cX12_reference (k_163 (120 + pc)) = true := fun pc h => pm_chq_ok ((by decide +kernel : ∀ pc, pc < 40 → pm_chq 163 120 pc cX12_reference (k_163 (120 + pc)) = true) pc h)
set_option maxRecDepth 100000 in
set_option maxHeartbeats 4000000 in
theorem ck_163_4 : ∀ pc, pc < 3 → pm_chk 163 (160 + pc) cX12_reference (k_163 (160 + pc)) = true := fun pc h => pm_chq_ok ((by decide +kernel : ∀ pc, pc < 3 → pm_chq 163 160 pc cX12_reference (k_163 (160 + pc)) = true) pc h)
theorem ck_163 (pc : Nat) (h : pc < 163) : pm_chk 163 pc cX12_reference (k_163 pc) = true := by
  by_cases h0 : pc < 40
  · have e := ck_163_0 (pc - 0) (by omega)
    rwa [show 0 + (pc - 0) = pc by omega] at e
  by_cases h1 : pc < 80
  · have e := ck_163_1 (pc - 40) (by omega)
    rwa [show 40 + (pc - 40) = pc by omega] at e
  by_cases h2 : pc < 120
  · have e := ck_163_2 (pc - 80) (by omega)
    rwa [show 80 + (pc - 80) = pc by omega] at e
  by_cases h3 : pc < 160
  · have e := ck_163_3 (pc - 120) (by omega)
    rwa [show 120 + (pc - 120) = pc by omega] at e
  have e := ck_163_4 (pc - 160) (by omega)
  rwa [show 160 + (pc - 160) = pc by omega] at e
set_option maxRecDepth 100000 in
set_option maxHeartbeats 4000000 in
theorem ck_164 : ∀ pc, pc < 27 → pm_chk 164 pc cX12_meant (k_164 pc) = true := fun pc h => pm_chq_0 ((by decide +kernel : ∀ pc, pc < 27 → pm_chq 164 0 pc cX12_meant (k_164 pc) = true) pc h)
set_option maxRecDepth 100000 in
set_option maxHeartbeats 4000000 in
theorem ck_165_0 : ∀ pc, pc < 40 → pm_chk 165 (0 + pc) cX12_looked (k_165 (0 + pc)) = true := fun pc h => pm_chq_ok ((by decide +kernel : ∀ pc, pc < 40 → pm_chq 165 0 pc cX12_looked (k_165 (0 + pc)) = true) pc h)
set_option maxRecDepth 100000 in
set_option maxHeartbeats 4000000 in
theorem ck_165_1 : ∀ pc, pc < 40 → pm_chk 165 (40 + pc) cX12_looked (k_165 (40 + pc)) = true := fun pc h => pm_chq_ok ((by decide +kernel : ∀ pc, pc < 40 → pm_chq 165 40 pc cX12_looked (k_165 (40 + pc)) = true) pc h)
set_option maxRecDepth 100000 in
set_option maxHeartbeats 4000000 in
theorem ck_165_2 : ∀ pc, pc < 40 → pm_chk 165 (80 + pc) cX12_looked (k_165 (80 + pc)) = true := fun pc h => pm_chq_ok ((by decide +kernel : ∀ pc, pc < 40 → pm_chq 165 80 pc cX12_looked (k_165 (80 + pc)) = true) pc h)
set_option maxRecDepth 100000 in
set_option maxHeartbeats 4000000 in
theorem ck_165_3 : ∀ pc, pc < 38 → pm_chk 165 (120 + pc) cX12_looked (k_165 (120 + pc)) = true := fun pc h => pm_chq_ok ((by decide +kernel : ∀ pc, pc < 38 → pm_chq 165 120 pc cX12_looked (k_165 (120 + pc)) = true) pc h)
theorem ck_165 (pc : Nat) (h : pc < 158) : pm_chk 165 pc cX12_looked (k_165 pc) = true := by
  by_cases h0 : pc < 40
  · have e := ck_165_0 (pc - 0) (by omega)
    rwa [show 0 + (pc - 0) = pc by omega] at e
  by_cases h1 : pc < 80
  · have e := ck_165_1 (pc - 40) (by omega)
    rwa [show 40 + (pc - 40) = pc by omega] at e
  by_cases h2 : pc < 120
  · have e := ck_165_2 (pc - 80) (by omega)
    rwa [show 80 + (pc - 80) = pc by omega] at e
  have e := ck_165_3 (pc - 120) (by omega)
  rwa [show 120 + (pc - 120) = pc by omega] at e
set_option maxRecDepth 100000 in
set_option maxHeartbeats 4000000 in
theorem ck_166 : ∀ pc, pc < 8 → pm_chk 166 pc cX12_search (k_166 pc) = true := fun pc h => pm_chq_0 ((by decide +kernel : ∀ pc, pc < 8 → pm_chq 166 0 pc cX12_search (k_166 pc) = true) pc h)
set_option maxRecDepth 100000 in
set_option maxHeartbeats 4000000 in
theorem ck_167 : ∀ pc, pc < 32 → pm_chk 167 pc cX12_phase (k_167 pc) = true := fun pc h => pm_chq_0 ((by decide +kernel : ∀ pc, pc < 32 → pm_chq 167 0 pc cX12_phase (k_167 pc) = true) pc h)
set_option maxRecDepth 100000 in
set_option maxHeartbeats 4000000 in
theorem ck_168_0 : ∀ pc, pc < 40 → pm_chk 168 (0 + pc) cX12_exact (k_168 (0 + pc)) = true := fun pc h => pm_chq_ok ((by decide +kernel : ∀ pc, pc < 40 → pm_chq 168 0 pc cX12_exact (k_168 (0 + pc)) = true) pc h)
set_option maxRecDepth 100000 in
set_option maxHeartbeats 4000000 in
theorem ck_168_1 : ∀ pc, pc < 40 → pm_chk 168 (40 + pc) cX12_exact (k_168 (40 + pc)) = true := fun pc h => pm_chq_ok ((by decide +kernel : ∀ pc, pc < 40 → pm_chq 168 40 pc cX12_exact (k_168 (40 + pc)) = true) pc h)
set_option maxRecDepth 100000 in
set_option maxHeartbeats 4000000 in
theorem ck_168_2 : ∀ pc, pc < 40 → pm_chk 168 (80 + pc) cX12_exact (k_168 (80 + pc)) = true := fun pc h => pm_chq_ok ((by decide +kernel : ∀ pc, pc < 40 → pm_chq 168 80 pc cX12_exact (k_168 (80 + pc)) = true) pc h)
set_option maxRecDepth 100000 in
set_option maxHeartbeats 4000000 in
theorem ck_168_3 : ∀ pc, pc < 40 → pm_chk 168 (120 + pc) cX12_exact (k_168 (120 + pc)) = true := fun pc h => pm_chq_ok ((by decide +kernel : ∀ pc, pc < 40 → pm_chq 168 120 pc cX12_exact (k_168 (120 + pc)) = true) pc h)
set_option maxRecDepth 100000 in
set_option maxHeartbeats 4000000 in
theorem ck_168_4 : ∀ pc, pc < 40 → pm_chk 168 (160 + pc) cX12_exact (k_168 (160 + pc)) = true := fun pc h => pm_chq_ok ((by decide +kernel : ∀ pc, pc < 40 → pm_chq 168 160 pc cX12_exact (k_168 (160 + pc)) = true) pc h)
set_option maxRecDepth 100000 in
set_option maxHeartbeats 4000000 in
theorem ck_168_5 : ∀ pc, pc < 15 → pm_chk 168 (200 + pc) cX12_exact (k_168 (200 + pc)) = true := fun pc h => pm_chq_ok ((by decide +kernel : ∀ pc, pc < 15 → pm_chq 168 200 pc cX12_exact (k_168 (200 + pc)) = true) pc h)
theorem ck_168 (pc : Nat) (h : pc < 215) : pm_chk 168 pc cX12_exact (k_168 pc) = true := by
  by_cases h0 : pc < 40
  · have e := ck_168_0 (pc - 0) (by omega)
    rwa [show 0 + (pc - 0) = pc by omega] at e
  by_cases h1 : pc < 80
  · have e := ck_168_1 (pc - 40) (by omega)
    rwa [show 40 + (pc - 40) = pc by omega] at e
  by_cases h2 : pc < 120
  · have e := ck_168_2 (pc - 80) (by omega)
    rwa [show 80 + (pc - 80) = pc by omega] at e
  by_cases h3 : pc < 160
  · have e := ck_168_3 (pc - 120) (by omega)
    rwa [show 120 + (pc - 120) = pc by omega] at e
  by_cases h4 : pc < 200
  · have e := ck_168_4 (pc - 160) (by omega)
    rwa [show 160 + (pc - 160) = pc by omega] at e
  have e := ck_168_5 (pc - 200) (by omega)
  rwa [show 200 + (pc - 200) = pc by omega] at e
set_option maxRecDepth 100000 in
set_option maxHeartbeats 4000000 in
theorem ck_169_0 : ∀ pc, pc < 40 → pm_chk 169 (0 + pc) cX12_made (k_169 (0 + pc)) = true := fun pc h => pm_chq_ok ((by decide +kernel : ∀ pc, pc < 40 → pm_chq 169 0 pc cX12_made (k_169 (0 + pc)) = true) pc h)
set_option maxRecDepth 100000 in
set_option maxHeartbeats 4000000 in
theorem ck_169_1 : ∀ pc, pc < 40 → pm_chk 169 (40 + pc) cX12_made (k_169 (40 + pc)) = true := fun pc h => pm_chq_ok ((by decide +kernel : ∀ pc, pc < 40 → pm_chq 169 40 pc cX12_made (k_169 (40 + pc)) = true) pc h)
set_option maxRecDepth 100000 in
set_option maxHeartbeats 4000000 in
theorem ck_169_2 : ∀ pc, pc < 10 → pm_chk 169 (80 + pc) cX12_made (k_169 (80 + pc)) = true := fun pc h => pm_chq_ok ((by decide +kernel : ∀ pc, pc < 10 → pm_chq 169 80 pc cX12_made (k_169 (80 + pc)) = true) pc h)
theorem ck_169 (pc : Nat) (h : pc < 90) : pm_chk 169 pc cX12_made (k_169 pc) = true := by
  by_cases h0 : pc < 40
  · have e := ck_169_0 (pc - 0) (by omega)
    rwa [show 0 + (pc - 0) = pc by omega] at e
  by_cases h1 : pc < 80
  · have e := ck_169_1 (pc - 40) (by omega)
    rwa [show 40 + (pc - 40) = pc by omega] at e
  have e := ck_169_2 (pc - 80) (by omega)
  rwa [show 80 + (pc - 80) = pc by omega] at e
set_option maxRecDepth 100000 in
set_option maxHeartbeats 4000000 in
theorem ck_170 : ∀ pc, pc < 10 → pm_chk 170 pc cX12_isThing (k_170 pc) = true := fun pc h => pm_chq_0 ((by decide +kernel : ∀ pc, pc < 10 → pm_chq 170 0 pc cX12_isThing (k_170 pc) = true) pc h)
set_option maxRecDepth 100000 in
set_option maxHeartbeats 4000000 in
theorem ck_171_0 : ∀ pc, pc < 40 → pm_chk 171 (0 + pc) cX12_thing (k_171 (0 + pc)) = true := fun pc h => pm_chq_ok ((by decide +kernel : ∀ pc, pc < 40 → pm_chq 171 0 pc cX12_thing (k_171 (0 + pc)) = true) pc h)
set_option maxRecDepth 100000 in
set_option maxHeartbeats 4000000 in
theorem ck_171_1 : ∀ pc, pc < 9 → pm_chk 171 (40 + pc) cX12_thing (k_171 (40 + pc)) = true := fun pc h => pm_chq_ok ((by decide +kernel : ∀ pc, pc < 9 → pm_chq 171 40 pc cX12_thing (k_171 (40 + pc)) = true) pc h)
theorem ck_171 (pc : Nat) (h : pc < 49) : pm_chk 171 pc cX12_thing (k_171 pc) = true := by
  by_cases h0 : pc < 40
  · have e := ck_171_0 (pc - 0) (by omega)
    rwa [show 0 + (pc - 0) = pc by omega] at e
  have e := ck_171_1 (pc - 40) (by omega)
  rwa [show 40 + (pc - 40) = pc by omega] at e
set_option maxRecDepth 100000 in
set_option maxHeartbeats 4000000 in
theorem ck_172 : ∀ pc, pc < 28 → pm_chk 172 pc cX12_box (k_172 pc) = true := fun pc h => pm_chq_0 ((by decide +kernel : ∀ pc, pc < 28 → pm_chq 172 0 pc cX12_box (k_172 pc) = true) pc h)
set_option maxRecDepth 100000 in
set_option maxHeartbeats 4000000 in
theorem ck_173 : ∀ pc, pc < 39 → pm_chk 173 pc cX12_of (k_173 pc) = true := fun pc h => pm_chq_0 ((by decide +kernel : ∀ pc, pc < 39 → pm_chq 173 0 pc cX12_of (k_173 pc) = true) pc h)
set_option maxRecDepth 100000 in
set_option maxHeartbeats 4000000 in
theorem ck_174_0 : ∀ pc, pc < 40 → pm_chk 174 (0 + pc) cX12_place (k_174 (0 + pc)) = true := fun pc h => pm_chq_ok ((by decide +kernel : ∀ pc, pc < 40 → pm_chq 174 0 pc cX12_place (k_174 (0 + pc)) = true) pc h)
set_option maxRecDepth 100000 in
set_option maxHeartbeats 4000000 in
theorem ck_174_1 : ∀ pc, pc < 11 → pm_chk 174 (40 + pc) cX12_place (k_174 (40 + pc)) = true := fun pc h => pm_chq_ok ((by decide +kernel : ∀ pc, pc < 11 → pm_chq 174 40 pc cX12_place (k_174 (40 + pc)) = true) pc h)
theorem ck_174 (pc : Nat) (h : pc < 51) : pm_chk 174 pc cX12_place (k_174 pc) = true := by
  by_cases h0 : pc < 40
  · have e := ck_174_0 (pc - 0) (by omega)
    rwa [show 0 + (pc - 0) = pc by omega] at e
  have e := ck_174_1 (pc - 40) (by omega)
  rwa [show 40 + (pc - 40) = pc by omega] at e
set_option maxRecDepth 100000 in
set_option maxHeartbeats 4000000 in
theorem ck_175 : ∀ pc, pc < 32 → pm_chk 175 pc cX12_isGiven (k_175 pc) = true := fun pc h => pm_chq_0 ((by decide +kernel : ∀ pc, pc < 32 → pm_chq 175 0 pc cX12_isGiven (k_175 pc) = true) pc h)
set_option maxRecDepth 100000 in
set_option maxHeartbeats 4000000 in
theorem ck_176_0 : ∀ pc, pc < 40 → pm_chk 176 (0 + pc) cX12_make (k_176 (0 + pc)) = true := fun pc h => pm_chq_ok ((by decide +kernel : ∀ pc, pc < 40 → pm_chq 176 0 pc cX12_make (k_176 (0 + pc)) = true) pc h)
set_option maxRecDepth 100000 in
set_option maxHeartbeats 4000000 in
theorem ck_176_1 : ∀ pc, pc < 40 → pm_chk 176 (40 + pc) cX12_make (k_176 (40 + pc)) = true := fun pc h => pm_chq_ok ((by decide +kernel : ∀ pc, pc < 40 → pm_chq 176 40 pc cX12_make (k_176 (40 + pc)) = true) pc h)
set_option maxRecDepth 100000 in
set_option maxHeartbeats 4000000 in
theorem ck_176_2 : ∀ pc, pc < 40 → pm_chk 176 (80 + pc) cX12_make (k_176 (80 + pc)) = true := fun pc h => pm_chq_ok ((by decide +kernel : ∀ pc, pc < 40 → pm_chq 176 80 pc cX12_make (k_176 (80 + pc)) = true) pc h)
set_option maxRecDepth 100000 in
set_option maxHeartbeats 4000000 in
theorem ck_176_3 : ∀ pc, pc < 40 → pm_chk 176 (120 + pc) cX12_make (k_176 (120 + pc)) = true := fun pc h => pm_chq_ok ((by decide +kernel : ∀ pc, pc < 40 → pm_chq 176 120 pc cX12_make (k_176 (120 + pc)) = true) pc h)
set_option maxRecDepth 100000 in
set_option maxHeartbeats 4000000 in
theorem ck_176_4 : ∀ pc, pc < 3 → pm_chk 176 (160 + pc) cX12_make (k_176 (160 + pc)) = true := fun pc h => pm_chq_ok ((by decide +kernel : ∀ pc, pc < 3 → pm_chq 176 160 pc cX12_make (k_176 (160 + pc)) = true) pc h)
theorem ck_176 (pc : Nat) (h : pc < 163) : pm_chk 176 pc cX12_make (k_176 pc) = true := by
  by_cases h0 : pc < 40
  · have e := ck_176_0 (pc - 0) (by omega)
    rwa [show 0 + (pc - 0) = pc by omega] at e
  by_cases h1 : pc < 80
  · have e := ck_176_1 (pc - 40) (by omega)
    rwa [show 40 + (pc - 40) = pc by omega] at e
  by_cases h2 : pc < 120
  · have e := ck_176_2 (pc - 80) (by omega)
    rwa [show 80 + (pc - 80) = pc by omega] at e
  by_cases h3 : pc < 160
  · have e := ck_176_3 (pc - 120) (by omega)
    rwa [show 120 + (pc - 120) = pc by omega] at e
  have e := ck_176_4 (pc - 160) (by omega)
  rwa [show 160 + (pc - 160) = pc by omega] at e
set_option maxRecDepth 100000 in
set_option maxHeartbeats 4000000 in
theorem ck_177 : ∀ pc, pc < 20 → pm_chk 177 pc cX12_arg (k_177 pc) = true := fun pc h => pm_chq_0 ((by decide +kernel : ∀ pc, pc < 20 → pm_chq 177 0 pc cX12_arg (k_177 pc) = true) pc h)
set_option maxRecDepth 100000 in
set_option maxHeartbeats 4000000 in
theorem ck_178_0 : ∀ pc, pc < 40 → pm_chk 178 (0 + pc) cX12_turned (k_178 (0 + pc)) = true := fun pc h => pm_chq_ok ((by decide +kernel : ∀ pc, pc < 40 → pm_chq 178 0 pc cX12_turned (k_178 (0 + pc)) = true) pc h)
set_option maxRecDepth 100000 in
set_option maxHeartbeats 4000000 in
theorem ck_178_1 : ∀ pc, pc < 35 → pm_chk 178 (40 + pc) cX12_turned (k_178 (40 + pc)) = true := fun pc h => pm_chq_ok ((by decide +kernel : ∀ pc, pc < 35 → pm_chq 178 40 pc cX12_turned (k_178 (40 + pc)) = true) pc h)
theorem ck_178 (pc : Nat) (h : pc < 75) : pm_chk 178 pc cX12_turned (k_178 pc) = true := by
  by_cases h0 : pc < 40
  · have e := ck_178_0 (pc - 0) (by omega)
    rwa [show 0 + (pc - 0) = pc by omega] at e
  have e := ck_178_1 (pc - 40) (by omega)
  rwa [show 40 + (pc - 40) = pc by omega] at e
set_option maxRecDepth 100000 in
set_option maxHeartbeats 4000000 in
theorem ck_179_0 : ∀ pc, pc < 40 → pm_chk 179 (0 + pc) cX12_give (k_179 (0 + pc)) = true := fun pc h => pm_chq_ok ((by decide +kernel : ∀ pc, pc < 40 → pm_chq 179 0 pc cX12_give (k_179 (0 + pc)) = true) pc h)
set_option maxRecDepth 100000 in
set_option maxHeartbeats 4000000 in
theorem ck_179_1 : ∀ pc, pc < 40 → pm_chk 179 (40 + pc) cX12_give (k_179 (40 + pc)) = true := fun pc h => pm_chq_ok ((by decide +kernel : ∀ pc, pc < 40 → pm_chq 179 40 pc cX12_give (k_179 (40 + pc)) = true) pc h)
set_option maxRecDepth 100000 in
set_option maxHeartbeats 4000000 in
theorem ck_179_2 : ∀ pc, pc < 40 → pm_chk 179 (80 + pc) cX12_give (k_179 (80 + pc)) = true := fun pc h => pm_chq_ok ((by decide +kernel : ∀ pc, pc < 40 → pm_chq 179 80 pc cX12_give (k_179 (80 + pc)) = true) pc h)
set_option maxRecDepth 100000 in
set_option maxHeartbeats 4000000 in
theorem ck_179_3 : ∀ pc, pc < 40 → pm_chk 179 (120 + pc) cX12_give (k_179 (120 + pc)) = true := fun pc h => pm_chq_ok ((by decide +kernel : ∀ pc, pc < 40 → pm_chq 179 120 pc cX12_give (k_179 (120 + pc)) = true) pc h)
set_option maxRecDepth 100000 in
set_option maxHeartbeats 4000000 in
theorem ck_179_4 : ∀ pc, pc < 40 → pm_chk 179 (160 + pc) cX12_give (k_179 (160 + pc)) = true := fun pc h => pm_chq_ok ((by decide +kernel : ∀ pc, pc < 40 → pm_chq 179 160 pc cX12_give (k_179 (160 + pc)) = true) pc h)
set_option maxRecDepth 100000 in
set_option maxHeartbeats 4000000 in
theorem ck_179_5 : ∀ pc, pc < 10 → pm_chk 179 (200 + pc) cX12_give (k_179 (200 + pc)) = true := fun pc h => pm_chq_ok ((by decide +kernel : ∀ pc, pc < 10 → pm_chq 179 200 pc cX12_give (k_179 (200 + pc)) = true) pc h)
theorem ck_179 (pc : Nat) (h : pc < 210) : pm_chk 179 pc cX12_give (k_179 pc) = true := by
  by_cases h0 : pc < 40
  · have e := ck_179_0 (pc - 0) (by omega)
    rwa [show 0 + (pc - 0) = pc by omega] at e
  by_cases h1 : pc < 80
  · have e := ck_179_1 (pc - 40) (by omega)
    rwa [show 40 + (pc - 40) = pc by omega] at e
  by_cases h2 : pc < 120
  · have e := ck_179_2 (pc - 80) (by omega)
    rwa [show 80 + (pc - 80) = pc by omega] at e
  by_cases h3 : pc < 160
  · have e := ck_179_3 (pc - 120) (by omega)
    rwa [show 120 + (pc - 120) = pc by omega] at e
  by_cases h4 : pc < 200
  · have e := ck_179_4 (pc - 160) (by omega)
    rwa [show 160 + (pc - 160) = pc by omega] at e
  have e := ck_179_5 (pc - 200) (by omega)
  rwa [show 200 + (pc - 200) = pc by omega] at e
set_option maxRecDepth 100000 in
set_option maxHeartbeats 4000000 in
theorem ck_180_0 : ∀ pc, pc < 40 → pm_chk 180 (0 + pc) cX12_sumOf (k_180 (0 + pc)) = true := fun pc h => pm_chq_ok ((by decide +kernel : ∀ pc, pc < 40 → pm_chq 180 0 pc cX12_sumOf (k_180 (0 + pc)) = true) pc h)
set_option maxRecDepth 100000 in
set_option maxHeartbeats 4000000 in
theorem ck_180_1 : ∀ pc, pc < 40 → pm_chk 180 (40 + pc) cX12_sumOf (k_180 (40 + pc)) = true := fun pc h => pm_chq_ok ((by decide +kernel : ∀ pc, pc < 40 → pm_chq 180 40 pc cX12_sumOf (k_180 (40 + pc)) = true) pc h)
set_option maxRecDepth 100000 in
set_option maxHeartbeats 4000000 in
theorem ck_180_2 : ∀ pc, pc < 40 → pm_chk 180 (80 + pc) cX12_sumOf (k_180 (80 + pc)) = true := fun pc h => pm_chq_ok ((by decide +kernel : ∀ pc, pc < 40 → pm_chq 180 80 pc cX12_sumOf (k_180 (80 + pc)) = true) pc h)
set_option maxRecDepth 100000 in
set_option maxHeartbeats 4000000 in
theorem ck_180_3 : ∀ pc, pc < 40 → pm_chk 180 (120 + pc) cX12_sumOf (k_180 (120 + pc)) = true := fun pc h => pm_chq_ok ((by decide +kernel : ∀ pc, pc < 40 → pm_chq 180 120 pc cX12_sumOf (k_180 (120 + pc)) = true) pc h)
set_option maxRecDepth 100000 in
set_option maxHeartbeats 4000000 in
theorem ck_180_4 : ∀ pc, pc < 8 → pm_chk 180 (160 + pc) cX12_sumOf (k_180 (160 + pc)) = true := fun pc h => pm_chq_ok ((by decide +kernel : ∀ pc, pc < 8 → pm_chq 180 160 pc cX12_sumOf (k_180 (160 + pc)) = true) pc h)
theorem ck_180 (pc : Nat) (h : pc < 168) : pm_chk 180 pc cX12_sumOf (k_180 pc) = true := by
  by_cases h0 : pc < 40
  · have e := ck_180_0 (pc - 0) (by omega)
    rwa [show 0 + (pc - 0) = pc by omega] at e
  by_cases h1 : pc < 80
  · have e := ck_180_1 (pc - 40) (by omega)
    rwa [show 40 + (pc - 40) = pc by omega] at e
  by_cases h2 : pc < 120
  · have e := ck_180_2 (pc - 80) (by omega)
    rwa [show 80 + (pc - 80) = pc by omega] at e
  by_cases h3 : pc < 160
  · have e := ck_180_3 (pc - 120) (by omega)
    rwa [show 120 + (pc - 120) = pc by omega] at e
  have e := ck_180_4 (pc - 160) (by omega)
  rwa [show 160 + (pc - 160) = pc by omega] at e
set_option maxRecDepth 100000 in
set_option maxHeartbeats 4000000 in
theorem ck_181_0 : ∀ pc, pc < 40 → pm_chk 181 (0 + pc) cX12_gives (k_181 (0 + pc)) = true := fun pc h => pm_chq_ok ((by decide +kernel : ∀ pc, pc < 40 → pm_chq 181 0 pc cX12_gives (k_181 (0 + pc)) = true) pc h)
set_option maxRecDepth 100000 in
set_option maxHeartbeats 4000000 in
theorem ck_181_1 : ∀ pc, pc < 40 → pm_chk 181 (40 + pc) cX12_gives (k_181 (40 + pc)) = true := fun pc h => pm_chq_ok ((by decide +kernel : ∀ pc, pc < 40 → pm_chq 181 40 pc cX12_gives (k_181 (40 + pc)) = true) pc h)
set_option maxRecDepth 100000 in
set_option maxHeartbeats 4000000 in
theorem ck_181_2 : ∀ pc, pc < 20 → pm_chk 181 (80 + pc) cX12_gives (k_181 (80 + pc)) = true := fun pc h => pm_chq_ok ((by decide +kernel : ∀ pc, pc < 20 → pm_chq 181 80 pc cX12_gives (k_181 (80 + pc)) = true) pc h)
theorem ck_181 (pc : Nat) (h : pc < 100) : pm_chk 181 pc cX12_gives (k_181 pc) = true := by
  by_cases h0 : pc < 40
  · have e := ck_181_0 (pc - 0) (by omega)
    rwa [show 0 + (pc - 0) = pc by omega] at e
  by_cases h1 : pc < 80
  · have e := ck_181_1 (pc - 40) (by omega)
    rwa [show 40 + (pc - 40) = pc by omega] at e
  have e := ck_181_2 (pc - 80) (by omega)
  rwa [show 80 + (pc - 80) = pc by omega] at e
set_option maxRecDepth 100000 in
set_option maxHeartbeats 4000000 in
theorem ck_182_0 : ∀ pc, pc < 40 → pm_chk 182 (0 + pc) cX12_remember (k_182 (0 + pc)) = true := fun pc h => pm_chq_ok ((by decide +kernel : ∀ pc, pc < 40 → pm_chq 182 0 pc cX12_remember (k_182 (0 + pc)) = true) pc h)
set_option maxRecDepth 100000 in
set_option maxHeartbeats 4000000 in
theorem ck_182_1 : ∀ pc, pc < 28 → pm_chk 182 (40 + pc) cX12_remember (k_182 (40 + pc)) = true := fun pc h => pm_chq_ok ((by decide +kernel : ∀ pc, pc < 28 → pm_chq 182 40 pc cX12_remember (k_182 (40 + pc)) = true) pc h)
theorem ck_182 (pc : Nat) (h : pc < 68) : pm_chk 182 pc cX12_remember (k_182 pc) = true := by
  by_cases h0 : pc < 40
  · have e := ck_182_0 (pc - 0) (by omega)
    rwa [show 0 + (pc - 0) = pc by omega] at e
  have e := ck_182_1 (pc - 40) (by omega)
  rwa [show 40 + (pc - 40) = pc by omega] at e
set_option maxRecDepth 100000 in
set_option maxHeartbeats 4000000 in
theorem ck_183_0 : ∀ pc, pc < 40 → pm_chk 183 (0 + pc) cX12_chosen (k_183 (0 + pc)) = true := fun pc h => pm_chq_ok ((by decide +kernel : ∀ pc, pc < 40 → pm_chq 183 0 pc cX12_chosen (k_183 (0 + pc)) = true) pc h)
set_option maxRecDepth 100000 in
set_option maxHeartbeats 4000000 in
theorem ck_183_1 : ∀ pc, pc < 10 → pm_chk 183 (40 + pc) cX12_chosen (k_183 (40 + pc)) = true := fun pc h => pm_chq_ok ((by decide +kernel : ∀ pc, pc < 10 → pm_chq 183 40 pc cX12_chosen (k_183 (40 + pc)) = true) pc h)
theorem ck_183 (pc : Nat) (h : pc < 50) : pm_chk 183 pc cX12_chosen (k_183 pc) = true := by
  by_cases h0 : pc < 40
  · have e := ck_183_0 (pc - 0) (by omega)
    rwa [show 0 + (pc - 0) = pc by omega] at e
  have e := ck_183_1 (pc - 40) (by omega)
  rwa [show 40 + (pc - 40) = pc by omega] at e
set_option maxRecDepth 100000 in
set_option maxHeartbeats 4000000 in
theorem ck_184_0 : ∀ pc, pc < 40 → pm_chk 184 (0 + pc) cX12_sized (k_184 (0 + pc)) = true := fun pc h => pm_chq_ok ((by decide +kernel : ∀ pc, pc < 40 → pm_chq 184 0 pc cX12_sized (k_184 (0 + pc)) = true) pc h)
set_option maxRecDepth 100000 in
set_option maxHeartbeats 4000000 in
theorem ck_184_1 : ∀ pc, pc < 20 → pm_chk 184 (40 + pc) cX12_sized (k_184 (40 + pc)) = true := fun pc h => pm_chq_ok ((by decide +kernel : ∀ pc, pc < 20 → pm_chq 184 40 pc cX12_sized (k_184 (40 + pc)) = true) pc h)
theorem ck_184 (pc : Nat) (h : pc < 60) : pm_chk 184 pc cX12_sized (k_184 pc) = true := by
  by_cases h0 : pc < 40
  · have e := ck_184_0 (pc - 0) (by omega)
    rwa [show 0 + (pc - 0) = pc by omega] at e
  have e := ck_184_1 (pc - 40) (by omega)
  rwa [show 40 + (pc - 40) = pc by omega] at e
set_option maxRecDepth 100000 in
set_option maxHeartbeats 4000000 in
theorem ck_185_0 : ∀ pc, pc < 40 → pm_chk 185 (0 + pc) cX12_call (k_185 (0 + pc)) = true := fun pc h => pm_chq_ok ((by decide +kernel : ∀ pc, pc < 40 → pm_chq 185 0 pc cX12_call (k_185 (0 + pc)) = true) pc h)
set_option maxRecDepth 100000 in
set_option maxHeartbeats 4000000 in
theorem ck_185_1 : ∀ pc, pc < 40 → pm_chk 185 (40 + pc) cX12_call (k_185 (40 + pc)) = true := fun pc h => pm_chq_ok ((by decide +kernel : ∀ pc, pc < 40 → pm_chq 185 40 pc cX12_call (k_185 (40 + pc)) = true) pc h)
set_option maxRecDepth 100000 in
set_option maxHeartbeats 4000000 in
theorem ck_185_2 : ∀ pc, pc < 40 → pm_chk 185 (80 + pc) cX12_call (k_185 (80 + pc)) = true := fun pc h => pm_chq_ok ((by decide +kernel : ∀ pc, pc < 40 → pm_chq 185 80 pc cX12_call (k_185 (80 + pc)) = true) pc h)
set_option maxRecDepth 100000 in
set_option maxHeartbeats 4000000 in
theorem ck_185_3 : ∀ pc, pc < 40 → pm_chk 185 (120 + pc) cX12_call (k_185 (120 + pc)) = true := fun pc h => pm_chq_ok ((by decide +kernel : ∀ pc, pc < 40 → pm_chq 185 120 pc cX12_call (k_185 (120 + pc)) = true) pc h)
set_option maxRecDepth 100000 in
set_option maxHeartbeats 4000000 in
theorem ck_185_4 : ∀ pc, pc < 40 → pm_chk 185 (160 + pc) cX12_call (k_185 (160 + pc)) = true := fun pc h => pm_chq_ok ((by decide +kernel : ∀ pc, pc < 40 → pm_chq 185 160 pc cX12_call (k_185 (160 + pc)) = true) pc h)
set_option maxRecDepth 100000 in
set_option maxHeartbeats 4000000 in
theorem ck_185_5 : ∀ pc, pc < 40 → pm_chk 185 (200 + pc) cX12_call (k_185 (200 + pc)) = true := fun pc h => pm_chq_ok ((by decide +kernel : ∀ pc, pc < 40 → pm_chq 185 200 pc cX12_call (k_185 (200 + pc)) = true) pc h)
set_option maxRecDepth 100000 in
set_option maxHeartbeats 4000000 in
theorem ck_185_6 : ∀ pc, pc < 40 → pm_chk 185 (240 + pc) cX12_call (k_185 (240 + pc)) = true := fun pc h => pm_chq_ok ((by decide +kernel : ∀ pc, pc < 40 → pm_chq 185 240 pc cX12_call (k_185 (240 + pc)) = true) pc h)
set_option maxRecDepth 100000 in
set_option maxHeartbeats 4000000 in
theorem ck_185_7 : ∀ pc, pc < 40 → pm_chk 185 (280 + pc) cX12_call (k_185 (280 + pc)) = true := fun pc h => pm_chq_ok ((by decide +kernel : ∀ pc, pc < 40 → pm_chq 185 280 pc cX12_call (k_185 (280 + pc)) = true) pc h)
set_option maxRecDepth 100000 in
set_option maxHeartbeats 4000000 in
theorem ck_185_8 : ∀ pc, pc < 40 → pm_chk 185 (320 + pc) cX12_call (k_185 (320 + pc)) = true := fun pc h => pm_chq_ok ((by decide +kernel : ∀ pc, pc < 40 → pm_chq 185 320 pc cX12_call (k_185 (320 + pc)) = true) pc h)
set_option maxRecDepth 100000 in
set_option maxHeartbeats 4000000 in
theorem ck_185_9 : ∀ pc, pc < 40 → pm_chk 185 (360 + pc) cX12_call (k_185 (360 + pc)) = true := fun pc h => pm_chq_ok ((by decide +kernel : ∀ pc, pc < 40 → pm_chq 185 360 pc cX12_call (k_185 (360 + pc)) = true) pc h)
set_option maxRecDepth 100000 in
set_option maxHeartbeats 4000000 in
theorem ck_185_10 : ∀ pc, pc < 38 → pm_chk 185 (400 + pc) cX12_call (k_185 (400 + pc)) = true := fun pc h => pm_chq_ok ((by decide +kernel : ∀ pc, pc < 38 → pm_chq 185 400 pc cX12_call (k_185 (400 + pc)) = true) pc h)
theorem ck_185 (pc : Nat) (h : pc < 438) : pm_chk 185 pc cX12_call (k_185 pc) = true := by
  by_cases h0 : pc < 40
  · have e := ck_185_0 (pc - 0) (by omega)
    rwa [show 0 + (pc - 0) = pc by omega] at e
  by_cases h1 : pc < 80
  · have e := ck_185_1 (pc - 40) (by omega)
    rwa [show 40 + (pc - 40) = pc by omega] at e
  by_cases h2 : pc < 120
  · have e := ck_185_2 (pc - 80) (by omega)
    rwa [show 80 + (pc - 80) = pc by omega] at e
  by_cases h3 : pc < 160
  · have e := ck_185_3 (pc - 120) (by omega)
    rwa [show 120 + (pc - 120) = pc by omega] at e
  by_cases h4 : pc < 200
  · have e := ck_185_4 (pc - 160) (by omega)
    rwa [show 160 + (pc - 160) = pc by omega] at e
  by_cases h5 : pc < 240
  · have e := ck_185_5 (pc - 200) (by omega)
    rwa [show 200 + (pc - 200) = pc by omega] at e
  by_cases h6 : pc < 280
  · have e := ck_185_6 (pc - 240) (by omega)
    rwa [show 240 + (pc - 240) = pc by omega] at e
  by_cases h7 : pc < 320
  · have e := ck_185_7 (pc - 280) (by omega)
    rwa [show 280 + (pc - 280) = pc by omega] at e
  by_cases h8 : pc < 360
  · have e := ck_185_8 (pc - 320) (by omega)
    rwa [show 320 + (pc - 320) = pc by omega] at e
  by_cases h9 : pc < 400
  · have e := ck_185_9 (pc - 360) (by omega)
    rwa [show 360 + (pc - 360) = pc by omega] at e
  have e := ck_185_10 (pc - 400) (by omega)
  rwa [show 400 + (pc - 400) = pc by omega] at e
set_option maxRecDepth 100000 in
set_option maxHeartbeats 4000000 in
theorem ck_186 : ∀ pc, pc < 5 → pm_chk 186 pc cX12_result (k_186 pc) = true := fun pc h => pm_chq_0 ((by decide +kernel : ∀ pc, pc < 5 → pm_chq 186 0 pc cX12_result (k_186 pc) = true) pc h)
set_option maxRecDepth 100000 in
set_option maxHeartbeats 4000000 in
theorem ck_187 : ∀ pc, pc < 26 → pm_chk 187 pc cX12_traced (k_187 pc) = true := fun pc h => pm_chq_0 ((by decide +kernel : ∀ pc, pc < 26 → pm_chq 187 0 pc cX12_traced (k_187 pc) = true) pc h)
set_option maxRecDepth 100000 in
set_option maxHeartbeats 4000000 in
theorem ck_188_0 : ∀ pc, pc < 40 → pm_chk 188 (0 + pc) cX12_count (k_188 (0 + pc)) = true := fun pc h => pm_chq_ok ((by decide +kernel : ∀ pc, pc < 40 → pm_chq 188 0 pc cX12_count (k_188 (0 + pc)) = true) pc h)
set_option maxRecDepth 100000 in
set_option maxHeartbeats 4000000 in
theorem ck_188_1 : ∀ pc, pc < 40 → pm_chk 188 (40 + pc) cX12_count (k_188 (40 + pc)) = true := fun pc h => pm_chq_ok ((by decide +kernel : ∀ pc, pc < 40 → pm_chq 188 40 pc cX12_count (k_188 (40 + pc)) = true) pc h)
set_option maxRecDepth 100000 in
set_option maxHeartbeats 4000000 in
theorem ck_188_2 : ∀ pc, pc < 1 → pm_chk 188 (80 + pc) cX12_count (k_188 (80 + pc)) = true := fun pc h => pm_chq_ok ((by decide +kernel : ∀ pc, pc < 1 → pm_chq 188 80 pc cX12_count (k_188 (80 + pc)) = true) pc h)
theorem ck_188 (pc : Nat) (h : pc < 81) : pm_chk 188 pc cX12_count (k_188 pc) = true := by
  by_cases h0 : pc < 40
  · have e := ck_188_0 (pc - 0) (by omega)
    rwa [show 0 + (pc - 0) = pc by omega] at e
  by_cases h1 : pc < 80
  · have e := ck_188_1 (pc - 40) (by omega)
    rwa [show 40 + (pc - 40) = pc by omega] at e
  have e := ck_188_2 (pc - 80) (by omega)
  rwa [show 80 + (pc - 80) = pc by omega] at e
set_option maxRecDepth 100000 in
set_option maxHeartbeats 4000000 in
theorem ck_189_0 : ∀ pc, pc < 40 → pm_chk 189 (0 + pc) cX12_clear (k_189 (0 + pc)) = true := fun pc h => pm_chq_ok ((by decide +kernel : ∀ pc, pc < 40 → pm_chq 189 0 pc cX12_clear (k_189 (0 + pc)) = true) pc h)
set_option maxRecDepth 100000 in
set_option maxHeartbeats 4000000 in
theorem ck_189_1 : ∀ pc, pc < 7 → pm_chk 189 (40 + pc) cX12_clear (k_189 (40 + pc)) = true := fun pc h => pm_chq_ok ((by decide +kernel : ∀ pc, pc < 7 → pm_chq 189 40 pc cX12_clear (k_189 (40 + pc)) = true) pc h)
theorem ck_189 (pc : Nat) (h : pc < 47) : pm_chk 189 pc cX12_clear (k_189 pc) = true := by
  by_cases h0 : pc < 40
  · have e := ck_189_0 (pc - 0) (by omega)
    rwa [show 0 + (pc - 0) = pc by omega] at e
  have e := ck_189_1 (pc - 40) (by omega)
  rwa [show 40 + (pc - 40) = pc by omega] at e
set_option maxRecDepth 100000 in
set_option maxHeartbeats 4000000 in
theorem ck_190_0 : ∀ pc, pc < 40 → pm_chk 190 (0 + pc) cJ13_bitCount_95d88 (k_190 (0 + pc)) = true := fun pc h => pm_chq_ok ((by decide +kernel : ∀ pc, pc < 40 → pm_chq 190 0 pc cJ13_bitCount_95d88 (k_190 (0 + pc)) = true) pc h)
set_option maxRecDepth 100000 in
set_option maxHeartbeats 4000000 in
theorem ck_190_1 : ∀ pc, pc < 21 → pm_chk 190 (40 + pc) cJ13_bitCount_95d88 (k_190 (40 + pc)) = true := fun pc h => pm_chq_ok ((by decide +kernel : ∀ pc, pc < 21 → pm_chq 190 40 pc cJ13_bitCount_95d88 (k_190 (40 + pc)) = true) pc h)
theorem ck_190 (pc : Nat) (h : pc < 61) : pm_chk 190 pc cJ13_bitCount_95d88 (k_190 pc) = true := by
  by_cases h0 : pc < 40
  · have e := ck_190_0 (pc - 0) (by omega)
    rwa [show 0 + (pc - 0) = pc by omega] at e
  have e := ck_190_1 (pc - 40) (by omega)
  rwa [show 40 + (pc - 40) = pc by omega] at e
end
section
theorem pm_ck1 {y N : Nat} {kf : Nat → Option (Instr × Nat × Nat)} {cc : ByteArray} (h1 : ∀ pc, pm_k y pc = cond (Nat.blt pc N) (kf pc) none) (h2 : pm_by y = cc) (ck : ∀ pc, pc < N → pm_chk y pc cc (kf pc) = true) : ∀ pc, pm_chk y pc (pm_by y) (pm_k y pc) = true := by
  intro pc
  rw [h1, h2]
  by_cases h : pc < N
  · rw [show Nat.blt pc N = true from Nat.ble_eq_true_of_le h]
    exact ck pc h
  · rw [show Nat.blt pc N = false from Bool.eq_false_iff.mpr (fun q => h (pm_blt q))]
    rfl
set_option maxRecDepth 100000 in
set_option maxHeartbeats 4000000 in
theorem pm_all0 (h : ∀ y, y < 0 → ∀ pc, pm_chk y pc (pm_by y) (pm_k y pc) = true) : ∀ y, y < 24 → ∀ pc, pm_chk y pc (pm_by y) (pm_k y pc) = true := (lt_s (p := fun y => ∀ pc, pm_chk y pc (pm_by y) (pm_k y pc) = true) (lt_s (p := fun y => ∀ pc, pm_chk y pc (pm_by y) (pm_k y pc) = true) (lt_s (p := fun y => ∀ pc, pm_chk y pc (pm_by y) (pm_k y pc) = true) (lt_s (p := fun y => ∀ pc, pm_chk y pc (pm_by y) (pm_k y pc) = true) (lt_s (p := fun y => ∀ pc, pm_chk y pc (pm_by y) (pm_k y pc) = true) (lt_s (p := fun y => ∀ pc, pm_chk y pc (pm_by y) (pm_k y pc) = true) (lt_s (p := fun y => ∀ pc, pm_chk y pc (pm_by y) (pm_k y pc) = true) (lt_s (p := fun y => ∀ pc, pm_chk y pc (pm_by y) (pm_k y pc) = true) (lt_s (p := fun y => ∀ pc, pm_chk y pc (pm_by y) (pm_k y pc) = true) (lt_s (p := fun y => ∀ pc, pm_chk y pc (pm_by y) (pm_k y pc) = true) (lt_s (p := fun y => ∀ pc, pm_chk y pc (pm_by y) (pm_k y pc) = true) (lt_s (p := fun y => ∀ pc, pm_chk y pc (pm_by y) (pm_k y pc) = true) (lt_s (p := fun y => ∀ pc, pm_chk y pc (pm_by y) (pm_k y pc) = true) (lt_s (p := fun y => ∀ pc, pm_chk y pc (pm_by y) (pm_k y pc) = true) (lt_s (p := fun y => ∀ pc, pm_chk y pc (pm_by y) (pm_k y pc) = true) (lt_s (p := fun y => ∀ pc, pm_chk y pc (pm_by y) (pm_k y pc) = true) (lt_s (p := fun y => ∀ pc, pm_chk y pc (pm_by y) (pm_k y pc) = true) (lt_s (p := fun y => ∀ pc, pm_chk y pc (pm_by y) (pm_k y pc) = true) (lt_s (p := fun y => ∀ pc, pm_chk y pc (pm_by y) (pm_k y pc) = true) (lt_s (p := fun y => ∀ pc, pm_chk y pc (pm_by y) (pm_k y pc) = true) (lt_s (p := fun y => ∀ pc, pm_chk y pc (pm_by y) (pm_k y pc) = true) (lt_s (p := fun y => ∀ pc, pm_chk y pc (pm_by y) (pm_k y pc) = true) (lt_s (p := fun y => ∀ pc, pm_chk y pc (pm_by y) (pm_k y pc) = true) (lt_s (p := fun y => ∀ pc, pm_chk y pc (pm_by y) (pm_k y pc) = true) h (pm_ck1 (N := 881) (kf := k_0) (fun _ => rfl) rfl ck_0)) (pm_ck1 (N := 22) (kf := k_1) (fun _ => rfl) rfl ck_1)) (pm_ck1 (N := 83) (kf := k_2) (fun _ => rfl) rfl ck_2)) (pm_ck1 (N := 83) (kf := k_3) (fun _ => rfl) rfl ck_3)) (pm_ck1 (N := 118) (kf := k_4) (fun _ => rfl) rfl ck_4)) (pm_ck1 (N := 76) (kf := k_5) (fun _ => rfl) rfl ck_5)) (pm_ck1 (N := 59) (kf := k_6) (fun _ => rfl) rfl ck_6)) (pm_ck1 (N := 81) (kf := k_7) (fun _ => rfl) rfl ck_7)) (pm_ck1 (N := 84) (kf := k_8) (fun _ => rfl) rfl ck_8)) (pm_ck1 (N := 123) (kf := k_9) (fun _ => rfl) rfl ck_9)) (pm_ck1 (N := 36) (kf := k_10) (fun _ => rfl) rfl ck_10)) (pm_ck1 (N := 66) (kf := k_11) (fun _ => rfl) rfl ck_11)) (pm_ck1 (N := 35) (kf := k_12) (fun _ => rfl) rfl ck_12)) (pm_ck1 (N := 15) (kf := k_13) (fun _ => rfl) rfl ck_13)) (pm_ck1 (N := 41) (kf := k_14) (fun _ => rfl) rfl ck_14)) (pm_ck1 (N := 136) (kf := k_15) (fun _ => rfl) rfl ck_15)) (pm_ck1 (N := 19) (kf := k_16) (fun _ => rfl) rfl ck_16)) (pm_ck1 (N := 24) (kf := k_17) (fun _ => rfl) rfl ck_17)) (pm_ck1 (N := 51) (kf := k_18) (fun _ => rfl) rfl ck_18)) (pm_ck1 (N := 56) (kf := k_19) (fun _ => rfl) rfl ck_19)) (pm_ck1 (N := 81) (kf := k_20) (fun _ => rfl) rfl ck_20)) (pm_ck1 (N := 27) (kf := k_21) (fun _ => rfl) rfl ck_21)) (pm_ck1 (N := 121) (kf := k_22) (fun _ => rfl) rfl ck_22)) (pm_ck1 (N := 68) (kf := k_23) (fun _ => rfl) rfl ck_23))
set_option maxRecDepth 100000 in
set_option maxHeartbeats 4000000 in
theorem pm_all24 (h : ∀ y, y < 24 → ∀ pc, pm_chk y pc (pm_by y) (pm_k y pc) = true) : ∀ y, y < 48 → ∀ pc, pm_chk y pc (pm_by y) (pm_k y pc) = true := (lt_s (p := fun y => ∀ pc, pm_chk y pc (pm_by y) (pm_k y pc) = true) (lt_s (p := fun y => ∀ pc, pm_chk y pc (pm_by y) (pm_k y pc) = true) (lt_s (p := fun y => ∀ pc, pm_chk y pc (pm_by y) (pm_k y pc) = true) (lt_s (p := fun y => ∀ pc, pm_chk y pc (pm_by y) (pm_k y pc) = true) (lt_s (p := fun y => ∀ pc, pm_chk y pc (pm_by y) (pm_k y pc) = true) (lt_s (p := fun y => ∀ pc, pm_chk y pc (pm_by y) (pm_k y pc) = true) (lt_s (p := fun y => ∀ pc, pm_chk y pc (pm_by y) (pm_k y pc) = true) (lt_s (p := fun y => ∀ pc, pm_chk y pc (pm_by y) (pm_k y pc) = true) (lt_s (p := fun y => ∀ pc, pm_chk y pc (pm_by y) (pm_k y pc) = true) (lt_s (p := fun y => ∀ pc, pm_chk y pc (pm_by y) (pm_k y pc) = true) (lt_s (p := fun y => ∀ pc, pm_chk y pc (pm_by y) (pm_k y pc) = true) (lt_s (p := fun y => ∀ pc, pm_chk y pc (pm_by y) (pm_k y pc) = true) (lt_s (p := fun y => ∀ pc, pm_chk y pc (pm_by y) (pm_k y pc) = true) (lt_s (p := fun y => ∀ pc, pm_chk y pc (pm_by y) (pm_k y pc) = true) (lt_s (p := fun y => ∀ pc, pm_chk y pc (pm_by y) (pm_k y pc) = true) (lt_s (p := fun y => ∀ pc, pm_chk y pc (pm_by y) (pm_k y pc) = true) (lt_s (p := fun y => ∀ pc, pm_chk y pc (pm_by y) (pm_k y pc) = true) (lt_s (p := fun y => ∀ pc, pm_chk y pc (pm_by y) (pm_k y pc) = true) (lt_s (p := fun y => ∀ pc, pm_chk y pc (pm_by y) (pm_k y pc) = true) (lt_s (p := fun y => ∀ pc, pm_chk y pc (pm_by y) (pm_k y pc) = true) (lt_s (p := fun y => ∀ pc, pm_chk y pc (pm_by y) (pm_k y pc) = true) (lt_s (p := fun y => ∀ pc, pm_chk y pc (pm_by y) (pm_k y pc) = true) (lt_s (p := fun y => ∀ pc, pm_chk y pc (pm_by y) (pm_k y pc) = true) (lt_s (p := fun y => ∀ pc, pm_chk y pc (pm_by y) (pm_k y pc) = true) h (pm_ck1 (N := 143) (kf := k_24) (fun _ => rfl) rfl ck_24)) (pm_ck1 (N := 48) (kf := k_25) (fun _ => rfl) rfl ck_25)) (pm_ck1 (N := 42) (kf := k_26) (fun _ => rfl) rfl ck_26)) (pm_ck1 (N := 15) (kf := k_27) (fun _ => rfl) rfl ck_27)) (pm_ck1 (N := 15) (kf := k_28) (fun _ => rfl) rfl ck_28)) (pm_ck1 (N := 15) (kf := k_29) (fun _ => rfl) rfl ck_29)) (pm_ck1 (N := 70) (kf := k_30) (fun _ => rfl) rfl ck_30)) (pm_ck1 (N := 42) (kf := k_31) (fun _ => rfl) rfl ck_31)) (pm_ck1 (N := 35) (kf := k_32) (fun _ => rfl) rfl ck_32)) (pm_ck1 (N := 5) (kf := k_33) (fun _ => rfl) rfl ck_33)) (pm_ck1 (N := 15) (kf := k_34) (fun _ => rfl) rfl ck_34)) (pm_ck1 (N := 47) (kf := k_35) (fun _ => rfl) rfl ck_35)) (pm_ck1 (N := 180) (kf := k_36) (fun _ => rfl) rfl ck_36)) (pm_ck1 (N := 101) (kf := k_37) (fun _ => rfl) rfl ck_37)) (pm_ck1 (N := 50) (kf := k_38) (fun _ => rfl) rfl ck_38)) (pm_ck1 (N := 82) (kf := k_39) (fun _ => rfl) rfl ck_39)) (pm_ck1 (N := 47) (kf := k_40) (fun _ => rfl) rfl ck_40)) (pm_ck1 (N := 21) (kf := k_41) (fun _ => rfl) rfl ck_41)) (pm_ck1 (N := 27) (kf := k_42) (fun _ => rfl) rfl ck_42)) (pm_ck1 (N := 18) (kf := k_43) (fun _ => rfl) rfl ck_43)) (pm_ck1 (N := 53) (kf := k_44) (fun _ => rfl) rfl ck_44)) (pm_ck1 (N := 23) (kf := k_45) (fun _ => rfl) rfl ck_45)) (pm_ck1 (N := 17) (kf := k_46) (fun _ => rfl) rfl ck_46)) (pm_ck1 (N := 21) (kf := k_47) (fun _ => rfl) rfl ck_47))
set_option maxRecDepth 100000 in
set_option maxHeartbeats 4000000 in
theorem pm_all48 (h : ∀ y, y < 48 → ∀ pc, pm_chk y pc (pm_by y) (pm_k y pc) = true) : ∀ y, y < 72 → ∀ pc, pm_chk y pc (pm_by y) (pm_k y pc) = true := (lt_s (p := fun y => ∀ pc, pm_chk y pc (pm_by y) (pm_k y pc) = true) (lt_s (p := fun y => ∀ pc, pm_chk y pc (pm_by y) (pm_k y pc) = true) (lt_s (p := fun y => ∀ pc, pm_chk y pc (pm_by y) (pm_k y pc) = true) (lt_s (p := fun y => ∀ pc, pm_chk y pc (pm_by y) (pm_k y pc) = true) (lt_s (p := fun y => ∀ pc, pm_chk y pc (pm_by y) (pm_k y pc) = true) (lt_s (p := fun y => ∀ pc, pm_chk y pc (pm_by y) (pm_k y pc) = true) (lt_s (p := fun y => ∀ pc, pm_chk y pc (pm_by y) (pm_k y pc) = true) (lt_s (p := fun y => ∀ pc, pm_chk y pc (pm_by y) (pm_k y pc) = true) (lt_s (p := fun y => ∀ pc, pm_chk y pc (pm_by y) (pm_k y pc) = true) (lt_s (p := fun y => ∀ pc, pm_chk y pc (pm_by y) (pm_k y pc) = true) (lt_s (p := fun y => ∀ pc, pm_chk y pc (pm_by y) (pm_k y pc) = true) (lt_s (p := fun y => ∀ pc, pm_chk y pc (pm_by y) (pm_k y pc) = true) (lt_s (p := fun y => ∀ pc, pm_chk y pc (pm_by y) (pm_k y pc) = true) (lt_s (p := fun y => ∀ pc, pm_chk y pc (pm_by y) (pm_k y pc) = true) (lt_s (p := fun y => ∀ pc, pm_chk y pc (pm_by y) (pm_k y pc) = true) (lt_s (p := fun y => ∀ pc, pm_chk y pc (pm_by y) (pm_k y pc) = true) (lt_s (p := fun y => ∀ pc, pm_chk y pc (pm_by y) (pm_k y pc) = true) (lt_s (p := fun y => ∀ pc, pm_chk y pc (pm_by y) (pm_k y pc) = true) (lt_s (p := fun y => ∀ pc, pm_chk y pc (pm_by y) (pm_k y pc) = true) (lt_s (p := fun y => ∀ pc, pm_chk y pc (pm_by y) (pm_k y pc) = true) (lt_s (p := fun y => ∀ pc, pm_chk y pc (pm_by y) (pm_k y pc) = true) (lt_s (p := fun y => ∀ pc, pm_chk y pc (pm_by y) (pm_k y pc) = true) (lt_s (p := fun y => ∀ pc, pm_chk y pc (pm_by y) (pm_k y pc) = true) (lt_s (p := fun y => ∀ pc, pm_chk y pc (pm_by y) (pm_k y pc) = true) h (pm_ck1 (N := 17) (kf := k_48) (fun _ => rfl) rfl ck_48)) (pm_ck1 (N := 38) (kf := k_49) (fun _ => rfl) rfl ck_49)) (pm_ck1 (N := 16) (kf := k_50) (fun _ => rfl) rfl ck_50)) (pm_ck1 (N := 20) (kf := k_51) (fun _ => rfl) rfl ck_51)) (pm_ck1 (N := 15) (kf := k_52) (fun _ => rfl) rfl ck_52)) (pm_ck1 (N := 117) (kf := k_53) (fun _ => rfl) rfl ck_53)) (pm_ck1 (N := 32) (kf := k_54) (fun _ => rfl) rfl ck_54)) (pm_ck1 (N := 12) (kf := k_55) (fun _ => rfl) rfl ck_55)) (pm_ck1 (N := 12) (kf := k_56) (fun _ => rfl) rfl ck_56)) (pm_ck1 (N := 11) (kf := k_57) (fun _ => rfl) rfl ck_57)) (pm_ck1 (N := 66) (kf := k_58) (fun _ => rfl) rfl ck_58)) (pm_ck1 (N := 122) (kf := k_59) (fun _ => rfl) rfl ck_59)) (pm_ck1 (N := 64) (kf := k_60) (fun _ => rfl) rfl ck_60)) (pm_ck1 (N := 50) (kf := k_61) (fun _ => rfl) rfl ck_61)) (pm_ck1 (N := 80) (kf := k_62) (fun _ => rfl) rfl ck_62)) (pm_ck1 (N := 30) (kf := k_63) (fun _ => rfl) rfl ck_63)) (pm_ck1 (N := 5) (kf := k_64) (fun _ => rfl) rfl ck_64)) (pm_ck1 (N := 19) (kf := k_65) (fun _ => rfl) rfl ck_65)) (pm_ck1 (N := 76) (kf := k_66) (fun _ => rfl) rfl ck_66)) (pm_ck1 (N := 19) (kf := k_67) (fun _ => rfl) rfl ck_67)) (pm_ck1 (N := 19) (kf := k_68) (fun _ => rfl) rfl ck_68)) (pm_ck1 (N := 25) (kf := k_69) (fun _ => rfl) rfl ck_69)) (pm_ck1 (N := 22) (kf := k_70) (fun _ => rfl) rfl ck_70)) (pm_ck1 (N := 29) (kf := k_71) (fun _ => rfl) rfl ck_71))
set_option maxRecDepth 100000 in
set_option maxHeartbeats 4000000 in
theorem pm_all72 (h : ∀ y, y < 72 → ∀ pc, pm_chk y pc (pm_by y) (pm_k y pc) = true) : ∀ y, y < 96 → ∀ pc, pm_chk y pc (pm_by y) (pm_k y pc) = true := (lt_s (p := fun y => ∀ pc, pm_chk y pc (pm_by y) (pm_k y pc) = true) (lt_s (p := fun y => ∀ pc, pm_chk y pc (pm_by y) (pm_k y pc) = true) (lt_s (p := fun y => ∀ pc, pm_chk y pc (pm_by y) (pm_k y pc) = true) (lt_s (p := fun y => ∀ pc, pm_chk y pc (pm_by y) (pm_k y pc) = true) (lt_s (p := fun y => ∀ pc, pm_chk y pc (pm_by y) (pm_k y pc) = true) (lt_s (p := fun y => ∀ pc, pm_chk y pc (pm_by y) (pm_k y pc) = true) (lt_s (p := fun y => ∀ pc, pm_chk y pc (pm_by y) (pm_k y pc) = true) (lt_s (p := fun y => ∀ pc, pm_chk y pc (pm_by y) (pm_k y pc) = true) (lt_s (p := fun y => ∀ pc, pm_chk y pc (pm_by y) (pm_k y pc) = true) (lt_s (p := fun y => ∀ pc, pm_chk y pc (pm_by y) (pm_k y pc) = true) (lt_s (p := fun y => ∀ pc, pm_chk y pc (pm_by y) (pm_k y pc) = true) (lt_s (p := fun y => ∀ pc, pm_chk y pc (pm_by y) (pm_k y pc) = true) (lt_s (p := fun y => ∀ pc, pm_chk y pc (pm_by y) (pm_k y pc) = true) (lt_s (p := fun y => ∀ pc, pm_chk y pc (pm_by y) (pm_k y pc) = true) (lt_s (p := fun y => ∀ pc, pm_chk y pc (pm_by y) (pm_k y pc) = true) (lt_s (p := fun y => ∀ pc, pm_chk y pc (pm_by y) (pm_k y pc) = true) (lt_s (p := fun y => ∀ pc, pm_chk y pc (pm_by y) (pm_k y pc) = true) (lt_s (p := fun y => ∀ pc, pm_chk y pc (pm_by y) (pm_k y pc) = true) (lt_s (p := fun y => ∀ pc, pm_chk y pc (pm_by y) (pm_k y pc) = true) (lt_s (p := fun y => ∀ pc, pm_chk y pc (pm_by y) (pm_k y pc) = true) (lt_s (p := fun y => ∀ pc, pm_chk y pc (pm_by y) (pm_k y pc) = true) (lt_s (p := fun y => ∀ pc, pm_chk y pc (pm_by y) (pm_k y pc) = true) (lt_s (p := fun y => ∀ pc, pm_chk y pc (pm_by y) (pm_k y pc) = true) (lt_s (p := fun y => ∀ pc, pm_chk y pc (pm_by y) (pm_k y pc) = true) h (pm_ck1 (N := 13) (kf := k_72) (fun _ => rfl) rfl ck_72)) (pm_ck1 (N := 13) (kf := k_73) (fun _ => rfl) rfl ck_73)) (pm_ck1 (N := 54) (kf := k_74) (fun _ => rfl) rfl ck_74)) (pm_ck1 (N := 32) (kf := k_75) (fun _ => rfl) rfl ck_75)) (pm_ck1 (N := 11) (kf := k_76) (fun _ => rfl) rfl ck_76)) (pm_ck1 (N := 143) (kf := k_77) (fun _ => rfl) rfl ck_77)) (pm_ck1 (N := 4) (kf := k_78) (fun _ => rfl) rfl ck_78)) (pm_ck1 (N := 5) (kf := k_79) (fun _ => rfl) rfl ck_79)) (pm_ck1 (N := 87) (kf := k_80) (fun _ => rfl) rfl ck_80)) (pm_ck1 (N := 18) (kf := k_81) (fun _ => rfl) rfl ck_81)) (pm_ck1 (N := 19) (kf := k_82) (fun _ => rfl) rfl ck_82)) (pm_ck1 (N := 25) (kf := k_83) (fun _ => rfl) rfl ck_83)) (pm_ck1 (N := 20) (kf := k_84) (fun _ => rfl) rfl ck_84)) (pm_ck1 (N := 20) (kf := k_85) (fun _ => rfl) rfl ck_85)) (pm_ck1 (N := 19) (kf := k_86) (fun _ => rfl) rfl ck_86)) (pm_ck1 (N := 39) (kf := k_87) (fun _ => rfl) rfl ck_87)) (pm_ck1 (N := 41) (kf := k_88) (fun _ => rfl) rfl ck_88)) (pm_ck1 (N := 57) (kf := k_89) (fun _ => rfl) rfl ck_89)) (pm_ck1 (N := 132) (kf := k_90) (fun _ => rfl) rfl ck_90)) (pm_ck1 (N := 33) (kf := k_91) (fun _ => rfl) rfl ck_91)) (pm_ck1 (N := 42) (kf := k_92) (fun _ => rfl) rfl ck_92)) (pm_ck1 (N := 42) (kf := k_93) (fun _ => rfl) rfl ck_93)) (pm_ck1 (N := 49) (kf := k_94) (fun _ => rfl) rfl ck_94)) (pm_ck1 (N := 12) (kf := k_95) (fun _ => rfl) rfl ck_95))
set_option maxRecDepth 100000 in
set_option maxHeartbeats 4000000 in
theorem pm_all96 (h : ∀ y, y < 96 → ∀ pc, pm_chk y pc (pm_by y) (pm_k y pc) = true) : ∀ y, y < 120 → ∀ pc, pm_chk y pc (pm_by y) (pm_k y pc) = true := (lt_s (p := fun y => ∀ pc, pm_chk y pc (pm_by y) (pm_k y pc) = true) (lt_s (p := fun y => ∀ pc, pm_chk y pc (pm_by y) (pm_k y pc) = true) (lt_s (p := fun y => ∀ pc, pm_chk y pc (pm_by y) (pm_k y pc) = true) (lt_s (p := fun y => ∀ pc, pm_chk y pc (pm_by y) (pm_k y pc) = true) (lt_s (p := fun y => ∀ pc, pm_chk y pc (pm_by y) (pm_k y pc) = true) (lt_s (p := fun y => ∀ pc, pm_chk y pc (pm_by y) (pm_k y pc) = true) (lt_s (p := fun y => ∀ pc, pm_chk y pc (pm_by y) (pm_k y pc) = true) (lt_s (p := fun y => ∀ pc, pm_chk y pc (pm_by y) (pm_k y pc) = true) (lt_s (p := fun y => ∀ pc, pm_chk y pc (pm_by y) (pm_k y pc) = true) (lt_s (p := fun y => ∀ pc, pm_chk y pc (pm_by y) (pm_k y pc) = true) (lt_s (p := fun y => ∀ pc, pm_chk y pc (pm_by y) (pm_k y pc) = true) (lt_s (p := fun y => ∀ pc, pm_chk y pc (pm_by y) (pm_k y pc) = true) (lt_s (p := fun y => ∀ pc, pm_chk y pc (pm_by y) (pm_k y pc) = true) (lt_s (p := fun y => ∀ pc, pm_chk y pc (pm_by y) (pm_k y pc) = true) (lt_s (p := fun y => ∀ pc, pm_chk y pc (pm_by y) (pm_k y pc) = true) (lt_s (p := fun y => ∀ pc, pm_chk y pc (pm_by y) (pm_k y pc) = true) (lt_s (p := fun y => ∀ pc, pm_chk y pc (pm_by y) (pm_k y pc) = true) (lt_s (p := fun y => ∀ pc, pm_chk y pc (pm_by y) (pm_k y pc) = true) (lt_s (p := fun y => ∀ pc, pm_chk y pc (pm_by y) (pm_k y pc) = true) (lt_s (p := fun y => ∀ pc, pm_chk y pc (pm_by y) (pm_k y pc) = true) (lt_s (p := fun y => ∀ pc, pm_chk y pc (pm_by y) (pm_k y pc) = true) (lt_s (p := fun y => ∀ pc, pm_chk y pc (pm_by y) (pm_k y pc) = true) (lt_s (p := fun y => ∀ pc, pm_chk y pc (pm_by y) (pm_k y pc) = true) (lt_s (p := fun y => ∀ pc, pm_chk y pc (pm_by y) (pm_k y pc) = true) h (pm_ck1 (N := 113) (kf := k_96) (fun _ => rfl) rfl ck_96)) (pm_ck1 (N := 23) (kf := k_97) (fun _ => rfl) rfl ck_97)) (pm_ck1 (N := 30) (kf := k_98) (fun _ => rfl) rfl ck_98)) (pm_ck1 (N := 61) (kf := k_99) (fun _ => rfl) rfl ck_99)) (pm_ck1 (N := 79) (kf := k_100) (fun _ => rfl) rfl ck_100)) (pm_ck1 (N := 34) (kf := k_101) (fun _ => rfl) rfl ck_101)) (pm_ck1 (N := 23) (kf := k_102) (fun _ => rfl) rfl ck_102)) (pm_ck1 (N := 68) (kf := k_103) (fun _ => rfl) rfl ck_103)) (pm_ck1 (N := 84) (kf := k_104) (fun _ => rfl) rfl ck_104)) (pm_ck1 (N := 38) (kf := k_105) (fun _ => rfl) rfl ck_105)) (pm_ck1 (N := 41) (kf := k_106) (fun _ => rfl) rfl ck_106)) (pm_ck1 (N := 41) (kf := k_107) (fun _ => rfl) rfl ck_107)) (pm_ck1 (N := 32) (kf := k_108) (fun _ => rfl) rfl ck_108)) (pm_ck1 (N := 18) (kf := k_109) (fun _ => rfl) rfl ck_109)) (pm_ck1 (N := 18) (kf := k_110) (fun _ => rfl) rfl ck_110)) (pm_ck1 (N := 100) (kf := k_111) (fun _ => rfl) rfl ck_111)) (pm_ck1 (N := 111) (kf := k_112) (fun _ => rfl) rfl ck_112)) (pm_ck1 (N := 37) (kf := k_113) (fun _ => rfl) rfl ck_113)) (pm_ck1 (N := 10) (kf := k_114) (fun _ => rfl) rfl ck_114)) (pm_ck1 (N := 46) (kf := k_115) (fun _ => rfl) rfl ck_115)) (pm_ck1 (N := 57) (kf := k_116) (fun _ => rfl) rfl ck_116)) (pm_ck1 (N := 160) (kf := k_117) (fun _ => rfl) rfl ck_117)) (pm_ck1 (N := 20) (kf := k_118) (fun _ => rfl) rfl ck_118)) (pm_ck1 (N := 116) (kf := k_119) (fun _ => rfl) rfl ck_119))
set_option maxRecDepth 100000 in
set_option maxHeartbeats 4000000 in
theorem pm_all120 (h : ∀ y, y < 120 → ∀ pc, pm_chk y pc (pm_by y) (pm_k y pc) = true) : ∀ y, y < 144 → ∀ pc, pm_chk y pc (pm_by y) (pm_k y pc) = true := (lt_s (p := fun y => ∀ pc, pm_chk y pc (pm_by y) (pm_k y pc) = true) (lt_s (p := fun y => ∀ pc, pm_chk y pc (pm_by y) (pm_k y pc) = true) (lt_s (p := fun y => ∀ pc, pm_chk y pc (pm_by y) (pm_k y pc) = true) (lt_s (p := fun y => ∀ pc, pm_chk y pc (pm_by y) (pm_k y pc) = true) (lt_s (p := fun y => ∀ pc, pm_chk y pc (pm_by y) (pm_k y pc) = true) (lt_s (p := fun y => ∀ pc, pm_chk y pc (pm_by y) (pm_k y pc) = true) (lt_s (p := fun y => ∀ pc, pm_chk y pc (pm_by y) (pm_k y pc) = true) (lt_s (p := fun y => ∀ pc, pm_chk y pc (pm_by y) (pm_k y pc) = true) (lt_s (p := fun y => ∀ pc, pm_chk y pc (pm_by y) (pm_k y pc) = true) (lt_s (p := fun y => ∀ pc, pm_chk y pc (pm_by y) (pm_k y pc) = true) (lt_s (p := fun y => ∀ pc, pm_chk y pc (pm_by y) (pm_k y pc) = true) (lt_s (p := fun y => ∀ pc, pm_chk y pc (pm_by y) (pm_k y pc) = true) (lt_s (p := fun y => ∀ pc, pm_chk y pc (pm_by y) (pm_k y pc) = true) (lt_s (p := fun y => ∀ pc, pm_chk y pc (pm_by y) (pm_k y pc) = true) (lt_s (p := fun y => ∀ pc, pm_chk y pc (pm_by y) (pm_k y pc) = true) (lt_s (p := fun y => ∀ pc, pm_chk y pc (pm_by y) (pm_k y pc) = true) (lt_s (p := fun y => ∀ pc, pm_chk y pc (pm_by y) (pm_k y pc) = true) (lt_s (p := fun y => ∀ pc, pm_chk y pc (pm_by y) (pm_k y pc) = true) (lt_s (p := fun y => ∀ pc, pm_chk y pc (pm_by y) (pm_k y pc) = true) (lt_s (p := fun y => ∀ pc, pm_chk y pc (pm_by y) (pm_k y pc) = true) (lt_s (p := fun y => ∀ pc, pm_chk y pc (pm_by y) (pm_k y pc) = true) (lt_s (p := fun y => ∀ pc, pm_chk y pc (pm_by y) (pm_k y pc) = true) (lt_s (p := fun y => ∀ pc, pm_chk y pc (pm_by y) (pm_k y pc) = true) (lt_s (p := fun y => ∀ pc, pm_chk y pc (pm_by y) (pm_k y pc) = true) h (pm_ck1 (N := 5) (kf := k_120) (fun _ => rfl) rfl ck_120)) (pm_ck1 (N := 9) (kf := k_121) (fun _ => rfl) rfl ck_121)) (pm_ck1 (N := 90) (kf := k_122) (fun _ => rfl) rfl ck_122)) (pm_ck1 (N := 78) (kf := k_123) (fun _ => rfl) rfl ck_123)) (pm_ck1 (N := 40) (kf := k_124) (fun _ => rfl) rfl ck_124)) (pm_ck1 (N := 36) (kf := k_125) (fun _ => rfl) rfl ck_125)) (pm_ck1 (N := 57) (kf := k_126) (fun _ => rfl) rfl ck_126)) (pm_ck1 (N := 215) (kf := k_127) (fun _ => rfl) rfl ck_127)) (pm_ck1 (N := 16) (kf := k_128) (fun _ => rfl) rfl ck_128)) (pm_ck1 (N := 12) (kf := k_129) (fun _ => rfl) rfl ck_129)) (pm_ck1 (N := 19) (kf := k_130) (fun _ => rfl) rfl ck_130)) (pm_ck1 (N := 44) (kf := k_131) (fun _ => rfl) rfl ck_131)) (pm_ck1 (N := 85) (kf := k_132) (fun _ => rfl) rfl ck_132)) (pm_ck1 (N := 41) (kf := k_133) (fun _ => rfl) rfl ck_133)) (pm_ck1 (N := 49) (kf := k_134) (fun _ => rfl) rfl ck_134)) (pm_ck1 (N := 45) (kf := k_135) (fun _ => rfl) rfl ck_135)) (pm_ck1 (N := 45) (kf := k_136) (fun _ => rfl) rfl ck_136)) (pm_ck1 (N := 46) (kf := k_137) (fun _ => rfl) rfl ck_137)) (pm_ck1 (N := 12) (kf := k_138) (fun _ => rfl) rfl ck_138)) (pm_ck1 (N := 17) (kf := k_139) (fun _ => rfl) rfl ck_139)) (pm_ck1 (N := 93) (kf := k_140) (fun _ => rfl) rfl ck_140)) (pm_ck1 (N := 181) (kf := k_141) (fun _ => rfl) rfl ck_141)) (pm_ck1 (N := 307) (kf := k_142) (fun _ => rfl) rfl ck_142)) (pm_ck1 (N := 154) (kf := k_143) (fun _ => rfl) rfl ck_143))
set_option maxRecDepth 100000 in
set_option maxHeartbeats 4000000 in
theorem pm_all144 (h : ∀ y, y < 144 → ∀ pc, pm_chk y pc (pm_by y) (pm_k y pc) = true) : ∀ y, y < 168 → ∀ pc, pm_chk y pc (pm_by y) (pm_k y pc) = true := (lt_s (p := fun y => ∀ pc, pm_chk y pc (pm_by y) (pm_k y pc) = true) (lt_s (p := fun y => ∀ pc, pm_chk y pc (pm_by y) (pm_k y pc) = true) (lt_s (p := fun y => ∀ pc, pm_chk y pc (pm_by y) (pm_k y pc) = true) (lt_s (p := fun y => ∀ pc, pm_chk y pc (pm_by y) (pm_k y pc) = true) (lt_s (p := fun y => ∀ pc, pm_chk y pc (pm_by y) (pm_k y pc) = true) (lt_s (p := fun y => ∀ pc, pm_chk y pc (pm_by y) (pm_k y pc) = true) (lt_s (p := fun y => ∀ pc, pm_chk y pc (pm_by y) (pm_k y pc) = true) (lt_s (p := fun y => ∀ pc, pm_chk y pc (pm_by y) (pm_k y pc) = true) (lt_s (p := fun y => ∀ pc, pm_chk y pc (pm_by y) (pm_k y pc) = true) (lt_s (p := fun y => ∀ pc, pm_chk y pc (pm_by y) (pm_k y pc) = true) (lt_s (p := fun y => ∀ pc, pm_chk y pc (pm_by y) (pm_k y pc) = true) (lt_s (p := fun y => ∀ pc, pm_chk y pc (pm_by y) (pm_k y pc) = true) (lt_s (p := fun y => ∀ pc, pm_chk y pc (pm_by y) (pm_k y pc) = true) (lt_s (p := fun y => ∀ pc, pm_chk y pc (pm_by y) (pm_k y pc) = true) (lt_s (p := fun y => ∀ pc, pm_chk y pc (pm_by y) (pm_k y pc) = true) (lt_s (p := fun y => ∀ pc, pm_chk y pc (pm_by y) (pm_k y pc) = true) (lt_s (p := fun y => ∀ pc, pm_chk y pc (pm_by y) (pm_k y pc) = true) (lt_s (p := fun y => ∀ pc, pm_chk y pc (pm_by y) (pm_k y pc) = true) (lt_s (p := fun y => ∀ pc, pm_chk y pc (pm_by y) (pm_k y pc) = true) (lt_s (p := fun y => ∀ pc, pm_chk y pc (pm_by y) (pm_k y pc) = true) (lt_s (p := fun y => ∀ pc, pm_chk y pc (pm_by y) (pm_k y pc) = true) (lt_s (p := fun y => ∀ pc, pm_chk y pc (pm_by y) (pm_k y pc) = true) (lt_s (p := fun y => ∀ pc, pm_chk y pc (pm_by y) (pm_k y pc) = true) (lt_s (p := fun y => ∀ pc, pm_chk y pc (pm_by y) (pm_k y pc) = true) h (pm_ck1 (N := 54) (kf := k_144) (fun _ => rfl) rfl ck_144)) (pm_ck1 (N := 48) (kf := k_145) (fun _ => rfl) rfl ck_145)) (pm_ck1 (N := 26) (kf := k_146) (fun _ => rfl) rfl ck_146)) (pm_ck1 (N := 58) (kf := k_147) (fun _ => rfl) rfl ck_147)) (pm_ck1 (N := 157) (kf := k_148) (fun _ => rfl) rfl ck_148)) (pm_ck1 (N := 193) (kf := k_149) (fun _ => rfl) rfl ck_149)) (pm_ck1 (N := 216) (kf := k_150) (fun _ => rfl) rfl ck_150)) (pm_ck1 (N := 32) (kf := k_151) (fun _ => rfl) rfl ck_151)) (pm_ck1 (N := 41) (kf := k_152) (fun _ => rfl) rfl ck_152)) (pm_ck1 (N := 46) (kf := k_153) (fun _ => rfl) rfl ck_153)) (pm_ck1 (N := 49) (kf := k_154) (fun _ => rfl) rfl ck_154)) (pm_ck1 (N := 147) (kf := k_155) (fun _ => rfl) rfl ck_155)) (pm_ck1 (N := 45) (kf := k_156) (fun _ => rfl) rfl ck_156)) (pm_ck1 (N := 240) (kf := k_157) (fun _ => rfl) rfl ck_157)) (pm_ck1 (N := 56) (kf := k_158) (fun _ => rfl) rfl ck_158)) (pm_ck1 (N := 48) (kf := k_159) (fun _ => rfl) rfl ck_159)) (pm_ck1 (N := 12) (kf := k_160) (fun _ => rfl) rfl ck_160)) (pm_ck1 (N := 12) (kf := k_161) (fun _ => rfl) rfl ck_161)) (pm_ck1 (N := 108) (kf := k_162) (fun _ => rfl) rfl ck_162)) (pm_ck1 (N := 163) (kf := k_163) (fun _ => rfl) rfl ck_163)) (pm_ck1 (N := 27) (kf := k_164) (fun _ => rfl) rfl ck_164)) (pm_ck1 (N := 158) (kf := k_165) (fun _ => rfl) rfl ck_165)) (pm_ck1 (N := 8) (kf := k_166) (fun _ => rfl) rfl ck_166)) (pm_ck1 (N := 32) (kf := k_167) (fun _ => rfl) rfl ck_167))
set_option maxRecDepth 100000 in
set_option maxHeartbeats 4000000 in
theorem pm_all168 (h : ∀ y, y < 168 → ∀ pc, pm_chk y pc (pm_by y) (pm_k y pc) = true) : ∀ y, y < 191 → ∀ pc, pm_chk y pc (pm_by y) (pm_k y pc) = true := (lt_s (p := fun y => ∀ pc, pm_chk y pc (pm_by y) (pm_k y pc) = true) (lt_s (p := fun y => ∀ pc, pm_chk y pc (pm_by y) (pm_k y pc) = true) (lt_s (p := fun y => ∀ pc, pm_chk y pc (pm_by y) (pm_k y pc) = true) (lt_s (p := fun y => ∀ pc, pm_chk y pc (pm_by y) (pm_k y pc) = true) (lt_s (p := fun y => ∀ pc, pm_chk y pc (pm_by y) (pm_k y pc) = true) (lt_s (p := fun y => ∀ pc, pm_chk y pc (pm_by y) (pm_k y pc) = true) (lt_s (p := fun y => ∀ pc, pm_chk y pc (pm_by y) (pm_k y pc) = true) (lt_s (p := fun y => ∀ pc, pm_chk y pc (pm_by y) (pm_k y pc) = true) (lt_s (p := fun y => ∀ pc, pm_chk y pc (pm_by y) (pm_k y pc) = true) (lt_s (p := fun y => ∀ pc, pm_chk y pc (pm_by y) (pm_k y pc) = true) (lt_s (p := fun y => ∀ pc, pm_chk y pc (pm_by y) (pm_k y pc) = true) (lt_s (p := fun y => ∀ pc, pm_chk y pc (pm_by y) (pm_k y pc) = true) (lt_s (p := fun y => ∀ pc, pm_chk y pc (pm_by y) (pm_k y pc) = true) (lt_s (p := fun y => ∀ pc, pm_chk y pc (pm_by y) (pm_k y pc) = true) (lt_s (p := fun y => ∀ pc, pm_chk y pc (pm_by y) (pm_k y pc) = true) (lt_s (p := fun y => ∀ pc, pm_chk y pc (pm_by y) (pm_k y pc) = true) (lt_s (p := fun y => ∀ pc, pm_chk y pc (pm_by y) (pm_k y pc) = true) (lt_s (p := fun y => ∀ pc, pm_chk y pc (pm_by y) (pm_k y pc) = true) (lt_s (p := fun y => ∀ pc, pm_chk y pc (pm_by y) (pm_k y pc) = true) (lt_s (p := fun y => ∀ pc, pm_chk y pc (pm_by y) (pm_k y pc) = true) (lt_s (p := fun y => ∀ pc, pm_chk y pc (pm_by y) (pm_k y pc) = true) (lt_s (p := fun y => ∀ pc, pm_chk y pc (pm_by y) (pm_k y pc) = true) (lt_s (p := fun y => ∀ pc, pm_chk y pc (pm_by y) (pm_k y pc) = true) h (pm_ck1 (N := 215) (kf := k_168) (fun _ => rfl) rfl ck_168)) (pm_ck1 (N := 90) (kf := k_169) (fun _ => rfl) rfl ck_169)) (pm_ck1 (N := 10) (kf := k_170) (fun _ => rfl) rfl ck_170)) (pm_ck1 (N := 49) (kf := k_171) (fun _ => rfl) rfl ck_171)) (pm_ck1 (N := 28) (kf := k_172) (fun _ => rfl) rfl ck_172)) (pm_ck1 (N := 39) (kf := k_173) (fun _ => rfl) rfl ck_173)) (pm_ck1 (N := 51) (kf := k_174) (fun _ => rfl) rfl ck_174)) (pm_ck1 (N := 32) (kf := k_175) (fun _ => rfl) rfl ck_175)) (pm_ck1 (N := 163) (kf := k_176) (fun _ => rfl) rfl ck_176)) (pm_ck1 (N := 20) (kf := k_177) (fun _ => rfl) rfl ck_177)) (pm_ck1 (N := 75) (kf := k_178) (fun _ => rfl) rfl ck_178)) (pm_ck1 (N := 210) (kf := k_179) (fun _ => rfl) rfl ck_179)) (pm_ck1 (N := 168) (kf := k_180) (fun _ => rfl) rfl ck_180)) (pm_ck1 (N := 100) (kf := k_181) (fun _ => rfl) rfl ck_181)) (pm_ck1 (N := 68) (kf := k_182) (fun _ => rfl) rfl ck_182)) (pm_ck1 (N := 50) (kf := k_183) (fun _ => rfl) rfl ck_183)) (pm_ck1 (N := 60) (kf := k_184) (fun _ => rfl) rfl ck_184)) (pm_ck1 (N := 438) (kf := k_185) (fun _ => rfl) rfl ck_185)) (pm_ck1 (N := 5) (kf := k_186) (fun _ => rfl) rfl ck_186)) (pm_ck1 (N := 26) (kf := k_187) (fun _ => rfl) rfl ck_187)) (pm_ck1 (N := 81) (kf := k_188) (fun _ => rfl) rfl ck_188)) (pm_ck1 (N := 47) (kf := k_189) (fun _ => rfl) rfl ck_189)) (pm_ck1 (N := 61) (kf := k_190) (fun _ => rfl) rfl ck_190))
theorem pm_alls : ∀ y, y < 191 → ∀ pc, pm_chk y pc (pm_by y) (pm_k y pc) = true := pm_all168 (pm_all144 (pm_all120 (pm_all96 (pm_all72 (pm_all48 (pm_all24 (pm_all0 (lt_0 (p := fun y => ∀ pc, pm_chk y pc (pm_by y) (pm_k y pc) = true)))))))))
theorem pm_ck : ∀ y pc i a b, pm_k y pc = some (i, a, b) → decode (pm_by y) pc = .ok (pm_dec i a) ∧ pm_lnk y pc i a b = true := by
  intro y pc i a b h
  by_cases hy : y < 191
  · have g := pm_alls y hy pc
    rw [h] at g
    obtain ⟨g1, g2⟩ := pm_and g
    exact ⟨of_decide_eq_true g1, g2⟩
  · unfold pm_k at h
    rw [show Nat.blt y 191 = false from Bool.eq_false_iff.mpr (fun q => hy (pm_blt q))] at h
    cases h
end
