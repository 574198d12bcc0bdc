set_option maxRecDepth 100000 in
set_option maxHeartbeats 4000000 in
theorem ck_0_0 : ∀ pc, pc < 40 → pm_chk 0 (0 + pc) code (k_0 (0 + pc)) = true := by decide +kernel
set_option maxRecDepth 100000 in
set_option maxHeartbeats 4000000 in
theorem ck_0_1 : ∀ pc, pc < 40 → pm_chk 0 (40 + pc) code (k_0 (40 + pc)) = true := by decide +kernel
set_option maxRecDepth 100000 in
set_option maxHeartbeats 4000000 in
theorem ck_0_2 : ∀ pc, pc < 40 → pm_chk 0 (80 + pc) code (k_0 (80 + pc)) = true := by decide +kernel
set_option maxRecDepth 100000 in
set_option maxHeartbeats 4000000 in
theorem ck_0_3 : ∀ pc, pc < 40 → pm_chk 0 (120 + pc) code (k_0 (120 + pc)) = true := by decide +kernel
set_option maxRecDepth 100000 in
set_option maxHeartbeats 4000000 in
theorem ck_0_4 : ∀ pc, pc < 40 → pm_chk 0 (160 + pc) code (k_0 (160 + pc)) = true := by decide +kernel
set_option maxRecDepth 100000 in
set_option maxHeartbeats 4000000 in
theorem ck_0_5 : ∀ pc, pc < 40 → pm_chk 0 (200 + pc) code (k_0 (200 + pc)) = true := by decide +kernel
set_option maxRecDepth 100000 in
set_option maxHeartbeats 4000000 in
theorem ck_0_6 : ∀ pc, pc < 40 → pm_chk 0 (240 + pc) code (k_0 (240 + pc)) = true := by decide +kernel
set_option maxRecDepth 100000 in
set_option maxHeartbeats 4000000 in
theorem ck_0_7 : ∀ pc, pc < 40 → pm_chk 0 (280 + pc) code (k_0 (280 + pc)) = true := by decide +kernel
set_option maxRecDepth 100000 in
set_option maxHeartbeats 4000000 in
theorem ck_0_8 : ∀ pc, pc < 40 → pm_chk 0 (320 + pc) code (k_0 (320 + pc)) = true := by decide +kernel
set_option maxRecDepth 100000 in
set_option maxHeartbeats 4000000 in
theorem ck_0_9 : ∀ pc, pc < 40 → pm_chk 0 (360 + pc) code (k_0 (360 + pc)) = true := by decide +kernel
set_option maxRecDepth 100000 in
set_option maxHeartbeats 4000000 in
theorem ck_0_10 : ∀ pc, pc < 40 → pm_chk 0 (400 + pc) code (k_0 (400 + pc)) = true := by decide +kernel
set_option maxRecDepth 100000 in
set_option maxHeartbeats 4000000 in
theorem ck_0_11 : ∀ pc, pc < 40 → pm_chk 0 (440 + pc) code (k_0 (440 + pc)) = true := by decide +kernel
set_option maxRecDepth 100000 in
set_option maxHeartbeats 4000000 in
theorem ck_0_12 : ∀ pc, pc < 40 → pm_chk 0 (480 + pc) code (k_0 (480 + pc)) = true := by decide +kernel
set_option maxRecDepth 100000 in
set_option maxHeartbeats 4000000 in
theorem ck_0_13 : ∀ pc, pc < 40 → pm_chk 0 (520 + pc) code (k_0 (520 + pc)) = true := by decide +kernel
set_option maxRecDepth 100000 in
set_option maxHeartbeats 4000000 in
theorem ck_0_14 : ∀ pc, pc < 40 → pm_chk 0 (560 + pc) code (k_0 (560 + pc)) = true := by decide +kernel
set_option maxRecDepth 100000 in
set_option maxHeartbeats 4000000 in
theorem ck_0_15 : ∀ pc, pc < 40 → pm_chk 0 (600 + pc) code (k_0 (600 + pc)) = true := by decide +kernel
set_option maxRecDepth 100000 in
set_option maxHeartbeats 4000000 in
theorem ck_0_16 : ∀ pc, pc < 40 → pm_chk 0 (640 + pc) code (k_0 (640 + pc)) = true := by decide +kernel
set_option maxRecDepth 100000 in
set_option maxHeartbeats 4000000 in
theorem ck_0_17 : ∀ pc, pc < 40 → pm_chk 0 (680 + pc) code (k_0 (680 + pc)) = true := by decide +kernel
set_option maxRecDepth 100000 in
set_option maxHeartbeats 4000000 in
theorem ck_0_18 : ∀ pc, pc < 40 → pm_chk 0 (720 + pc) code (k_0 (720 + pc)) = true := by decide +kernel
set_option maxRecDepth 100000 in
set_option maxHeartbeats 4000000 in
theorem ck_0_19 : ∀ pc, pc < 40 → pm_chk 0 (760 + pc) code (k_0 (760 + pc)) = true := by decide +kernel
set_option maxRecDepth 100000 in
set_option maxHeartbeats 4000000 in
theorem ck_0_20 : ∀ pc, pc < 40 → pm_chk 0 (800 + pc) code (k_0 (800 + pc)) = true := by decide +kernel
set_option maxRecDepth 100000 in
set_option maxHeartbeats 4000000 in
theorem ck_0_21 : ∀ pc, pc < 40 → pm_chk 0 (840 + pc) code (k_0 (840 + pc)) = true := by decide +kernel
set_option maxRecDepth 100000 in
set_option maxHeartbeats 4000000 in
theorem ck_0_22 : ∀ pc, pc < 1 → pm_chk 0 (880 + pc) code (k_0 (880 + pc)) = true := by decide +kernel
theorem ck_0 (pc : Nat) (h : pc < 881) : pm_chk 0 pc code (k_0 pc) = true := by
  by_cases h0 : pc < 40
  · have e := ck_0_0 (pc - 0) (by omega)
    rwa [show 0 + (pc - 0) = pc by omega] at e
  by_cases h1 : pc < 80
  · have e := ck_0_1 (pc - 40) (by omega)
    rwa [show 40 + (pc - 40) = pc by omega] at e
  by_cases h2 : pc < 120
  · have e := ck_0_2 (pc - 80) (by omega)
    rwa [show 80 + (pc - 80) = pc by omega] at e
  by_cases h3 : pc < 160
  · have e := ck_0_3 (pc - 120) (by omega)
    rwa [show 120 + (pc - 120) = pc by omega] at e
  by_cases h4 : pc < 200
  · have e := ck_0_4 (pc - 160) (by omega)
    rwa [show 160 + (pc - 160) = pc by omega] at e
  by_cases h5 : pc < 240
  · have e := ck_0_5 (pc - 200) (by omega)
    rwa [show 200 + (pc - 200) = pc by omega] at e
  by_cases h6 : pc < 280
  · have e := ck_0_6 (pc - 240) (by omega)
    rwa [show 240 + (pc - 240) = pc by omega] at e
  by_cases h7 : pc < 320
  · have e := ck_0_7 (pc - 280) (by omega)
    rwa [show 280 + (pc - 280) = pc by omega] at e
  by_cases h8 : pc < 360
  · have e := ck_0_8 (pc - 320) (by omega)
    rwa [show 320 + (pc - 320) = pc by omega] at e
  by_cases h9 : pc < 400
  · have e := ck_0_9 (pc - 360) (by omega)
    rwa [show 360 + (pc - 360) = pc by omega] at e
  by_cases h10 : pc < 440
  · have e := ck_0_10 (pc - 400) (by omega)
    rwa [show 400 + (pc - 400) = pc by omega] at e
  by_cases h11 : pc < 480
  · have e := ck_0_11 (pc - 440) (by omega)
    rwa [show 440 + (pc - 440) = pc by omega] at e
  by_cases h12 : pc < 520
  · have e := ck_0_12 (pc - 480) (by omega)
    rwa [show 480 + (pc - 480) = pc by omega] at e
  by_cases h13 : pc < 560
  · have e := ck_0_13 (pc - 520) (by omega)
    rwa [show 520 + (pc - 520) = pc by omega] at e
  by_cases h14 : pc < 600
  · have e := ck_0_14 (pc - 560) (by omega)
    rwa [show 560 + (pc - 560) = pc by omega] at e
  by_cases h15 : pc < 640
  · have e := ck_0_15 (pc - 600) (by omega)
    rwa [show 600 + (pc - 600) = pc by omega] at e
  by_cases h16 : pc < 680
  · have e := ck_0_16 (pc - 640) (by omega)
    rwa [show 640 + (pc - 640) = pc by omega] at e
  by_cases h17 : pc < 720
  · have e := ck_0_17 (pc - 680) (by omega)
    rwa [show 680 + (pc - 680) = pc by omega] at e
  by_cases h18 : pc < 760
  · have e := ck_0_18 (pc - 720) (by omega)
    rwa [show 720 + (pc - 720) = pc by omega] at e
  by_cases h19 : pc < 800
  · have e := ck_0_19 (pc - 760) (by omega)
    rwa [show 760 + (pc - 760) = pc by omega] at e
  by_cases h20 : pc < 840
  · have e := ck_0_20 (pc - 800) (by omega)
    rwa [show 800 + (pc - 800) = pc by omega] at e
  by_cases h21 : pc < 880
  · have e := ck_0_21 (pc - 840) (by omega)
    rwa [show 840 + (pc - 840) = pc by omega] at e
  have e := ck_0_22 (pc - 880) (by omega)
  rwa [show 880 + (pc - 880) = pc by omega] at e
set_option maxRecDepth 100000 in
set_option maxHeartbeats 4000000 in
theorem ck_1 : ∀ pc, pc < 22 → pm_chk 1 pc cX0_init (k_1 pc) = true := by decide +kernel
set_option maxRecDepth 100000 in
set_option maxHeartbeats 4000000 in
theorem ck_2_0 : ∀ pc, pc < 60 → pm_chk 2 (0 + pc) cX0_run (k_2 (0 + pc)) = true := by decide +kernel
set_option maxRecDepth 100000 in
set_option maxHeartbeats 4000000 in
theorem ck_2_1 : ∀ pc, pc < 23 → pm_chk 2 (60 + pc) cX0_run (k_2 (60 + pc)) = true := by decide +kernel
theorem ck_2 (pc : Nat) (h : pc < 83) : pm_chk 2 pc cX0_run (k_2 pc) = true := by
  by_cases h0 : pc < 60
  · have e := ck_2_0 (pc - 0) (by omega)
    rwa [show 0 + (pc - 0) = pc by omega] at e
  have e := ck_2_1 (pc - 60) (by omega)
  rwa [show 60 + (pc - 60) = pc by omega] at e
set_option maxRecDepth 100000 in
set_option maxHeartbeats 4000000 in
theorem ck_3_0 : ∀ pc, pc < 60 → pm_chk 3 (0 + pc) cX0_makePlain (k_3 (0 + pc)) = true := by decide +kernel
set_option maxRecDepth 100000 in
set_option maxHeartbeats 4000000 in
theorem ck_3_1 : ∀ pc, pc < 23 → pm_chk 3 (60 + pc) cX0_makePlain (k_3 (60 + pc)) = true := by decide +kernel
theorem ck_3 (pc : Nat) (h : pc < 83) : pm_chk 3 pc cX0_makePlain (k_3 pc) = true := by
  by_cases h0 : pc < 60
  · have e := ck_3_0 (pc - 0) (by omega)
    rwa [show 0 + (pc - 0) = pc by omega] at e
  have e := ck_3_1 (pc - 60) (by omega)
  rwa [show 60 + (pc - 60) = pc by omega] at e
set_option maxRecDepth 100000 in
set_option maxHeartbeats 4000000 in
theorem ck_4_0 : ∀ pc, pc < 60 → pm_chk 4 (0 + pc) cX0_callMember (k_4 (0 + pc)) = true := by decide +kernel
set_option maxRecDepth 100000 in
set_option maxHeartbeats 4000000 in
theorem ck_4_1 : ∀ pc, pc < 58 → pm_chk 4 (60 + pc) cX0_callMember (k_4 (60 + pc)) = true := by decide +kernel
theorem ck_4 (pc : Nat) (h : pc < 118) : pm_chk 4 pc cX0_callMember (k_4 pc) = true := by
  by_cases h0 : pc < 60
  · have e := ck_4_0 (pc - 0) (by omega)
    rwa [show 0 + (pc - 0) = pc by omega] at e
  have e := ck_4_1 (pc - 60) (by omega)
  rwa [show 60 + (pc - 60) = pc by omega] at e
set_option maxRecDepth 100000 in
set_option maxHeartbeats 4000000 in
theorem ck_5_0 : ∀ pc, pc < 60 → pm_chk 5 (0 + pc) cX0_memberTaken (k_5 (0 + pc)) = true := by decide +kernel
set_option maxRecDepth 100000 in
set_option maxHeartbeats 4000000 in
theorem ck_5_1 : ∀ pc, pc < 16 → pm_chk 5 (60 + pc) cX0_memberTaken (k_5 (60 + pc)) = true := by decide +kernel
theorem ck_5 (pc : Nat) (h : pc < 76) : pm_chk 5 pc cX0_memberTaken (k_5 pc) = true := by
  by_cases h0 : pc < 60
  · have e := ck_5_0 (pc - 0) (by omega)
    rwa [show 0 + (pc - 0) = pc by omega] at e
  have e := ck_5_1 (pc - 60) (by omega)
  rwa [show 60 + (pc - 60) = pc by omega] at e
set_option maxRecDepth 100000 in
set_option maxHeartbeats 4000000 in
theorem ck_6 : ∀ pc, pc < 59 → pm_chk 6 pc cX0_passAlone (k_6 pc) = true := by decide +kernel
set_option maxRecDepth 100000 in
set_option maxHeartbeats 4000000 in
theorem ck_7_0 : ∀ pc, pc < 60 → pm_chk 7 (0 + pc) cX0_passRow (k_7 (0 + pc)) = true := by decide +kernel
set_option maxRecDepth 100000 in
set_option maxHeartbeats 4000000 in
theorem ck_7_1 : ∀ pc, pc < 21 → pm_chk 7 (60 + pc) cX0_passRow (k_7 (60 + pc)) = true := by decide +kernel
theorem ck_7 (pc : Nat) (h : pc < 81) : pm_chk 7 pc cX0_passRow (k_7 pc) = true := by
  by_cases h0 : pc < 60
  · have e := ck_7_0 (pc - 0) (by omega)
    rwa [show 0 + (pc - 0) = pc by omega] at e
  have e := ck_7_1 (pc - 60) (by omega)
  rwa [show 60 + (pc - 60) = pc by omega] at e
set_option maxRecDepth 100000 in
set_option maxHeartbeats 4000000 in
theorem ck_8_0 : ∀ pc, pc < 60 → pm_chk 8 (0 + pc) cX0_giveResult (k_8 (0 + pc)) = true := by decide +kernel
set_option maxRecDepth 100000 in
set_option maxHeartbeats 4000000 in
theorem ck_8_1 : ∀ pc, pc < 24 → pm_chk 8 (60 + pc) cX0_giveResult (k_8 (60 + pc)) = true := by decide +kernel
theorem ck_8 (pc : Nat) (h : pc < 84) : pm_chk 8 pc cX0_giveResult (k_8 pc) = true := by
  by_cases h0 : pc < 60
  · have e := ck_8_0 (pc - 0) (by omega)
    rwa [show 0 + (pc - 0) = pc by omega] at e
  have e := ck_8_1 (pc - 60) (by omega)
  rwa [show 60 + (pc - 60) = pc by omega] at e
set_option maxRecDepth 100000 in
set_option maxHeartbeats 4000000 in
theorem ck_9_0 : ∀ pc, pc < 60 → pm_chk 9 (0 + pc) cX0_sumOfGot (k_9 (0 + pc)) = true := by decide +kernel
set_option maxRecDepth 100000 in
set_option maxHeartbeats 4000000 in
theorem ck_9_1 : ∀ pc, pc < 60 → pm_chk 9 (60 + pc) cX0_sumOfGot (k_9 (60 + pc)) = true := by decide +kernel
set_option maxRecDepth 100000 in
set_option maxHeartbeats 4000000 in
theorem ck_9_2 : ∀ pc, pc < 3 → pm_chk 9 (120 + pc) cX0_sumOfGot (k_9 (120 + pc)) = true := by decide +kernel
theorem ck_9 (pc : Nat) (h : pc < 123) : pm_chk 9 pc cX0_sumOfGot (k_9 pc) = true := by
  by_cases h0 : pc < 60
  · have e := ck_9_0 (pc - 0) (by omega)
    rwa [show 0 + (pc - 0) = pc by omega] at e
  by_cases h1 : pc < 120
  · have e := ck_9_1 (pc - 60) (by omega)
    rwa [show 60 + (pc - 60) = pc by omega] at e
  have e := ck_9_2 (pc - 120) (by omega)
  rwa [show 120 + (pc - 120) = pc by omega] at e
set_option maxRecDepth 100000 in
set_option maxHeartbeats 4000000 in
theorem ck_10 : ∀ pc, pc < 36 → pm_chk 10 pc cX0_sumOfPlaces (k_10 pc) = true := by decide +kernel
set_option maxRecDepth 100000 in
set_option maxHeartbeats 4000000 in
theorem ck_11_0 : ∀ pc, pc < 60 → pm_chk 11 (0 + pc) cX0_convert (k_11 (0 + pc)) = true := by decide +kernel
set_option maxRecDepth 100000 in
set_option maxHeartbeats 4000000 in
theorem ck_11_1 : ∀ pc, pc < 6 → pm_chk 11 (60 + pc) cX0_convert (k_11 (60 + pc)) = true := by decide +kernel
theorem ck_11 (pc : Nat) (h : pc < 66) : pm_chk 11 pc cX0_convert (k_11 pc) = true := by
  by_cases h0 : pc < 60
  · have e := ck_11_0 (pc - 0) (by omega)
    rwa [show 0 + (pc - 0) = pc by omega] at e
  have e := ck_11_1 (pc - 60) (by omega)
  rwa [show 60 + (pc - 60) = pc by omega] at e
set_option maxRecDepth 100000 in
set_option maxHeartbeats 4000000 in
theorem ck_12 : ∀ pc, pc < 35 → pm_chk 12 pc cX0_newThing (k_12 pc) = true := by decide +kernel
set_option maxRecDepth 100000 in
set_option maxHeartbeats 4000000 in
theorem ck_13 : ∀ pc, pc < 15 → pm_chk 13 pc cX1_init (k_13 pc) = true := by decide +kernel
set_option maxRecDepth 100000 in
set_option maxHeartbeats 4000000 in
theorem ck_14 : ∀ pc, pc < 41 → pm_chk 14 pc cX2_init (k_14 pc) = true := by decide +kernel
set_option maxRecDepth 100000 in
set_option maxHeartbeats 4000000 in
theorem ck_15_0 : ∀ pc, pc < 60 → pm_chk 15 (0 + pc) cX2_find (k_15 (0 + pc)) = true := by decide +kernel
set_option maxRecDepth 100000 in
set_option maxHeartbeats 4000000 in
theorem ck_15_1 : ∀ pc, pc < 60 → pm_chk 15 (60 + pc) cX2_find (k_15 (60 + pc)) = true := by decide +kernel
set_option maxRecDepth 100000 in
set_option maxHeartbeats 4000000 in
theorem ck_15_2 : ∀ pc, pc < 16 → pm_chk 15 (120 + pc) cX2_find (k_15 (120 + pc)) = true := by decide +kernel
theorem ck_15 (pc : Nat) (h : pc < 136) : pm_chk 15 pc cX2_find (k_15 pc) = true := by
  by_cases h0 : pc < 60
  · have e := ck_15_0 (pc - 0) (by omega)
    rwa [show 0 + (pc - 0) = pc by omega] at e
  by_cases h1 : pc < 120
  · have e := ck_15_1 (pc - 60) (by omega)
    rwa [show 60 + (pc - 60) = pc by omega] at e
  have e := ck_15_2 (pc - 120) (by omega)
  rwa [show 120 + (pc - 120) = pc by omega] at e
set_option maxRecDepth 100000 in
set_option maxHeartbeats 4000000 in
theorem ck_16 : ∀ pc, pc < 19 → pm_chk 16 pc cX2_memberMeant (k_16 pc) = true := by decide +kernel
set_option maxRecDepth 100000 in
set_option maxHeartbeats 4000000 in
theorem ck_17 : ∀ pc, pc < 24 → pm_chk 17 pc cX2_isInPhase3 (k_17 pc) = true := by decide +kernel
set_option maxRecDepth 100000 in
set_option maxHeartbeats 4000000 in
theorem ck_18 : ∀ pc, pc < 51 → pm_chk 18 pc cX2_whatComes (k_18 pc) = true := by decide +kernel
set_option maxRecDepth 100000 in
set_option maxHeartbeats 4000000 in
theorem ck_19 : ∀ pc, pc < 56 → pm_chk 19 pc cX2_runSearch (k_19 pc) = true := by decide +kernel
set_option maxRecDepth 100000 in
set_option maxHeartbeats 4000000 in
theorem ck_20_0 : ∀ pc, pc < 60 → pm_chk 20 (0 + pc) cX2_namesOneAlone (k_20 (0 + pc)) = true := by decide +kernel
set_option maxRecDepth 100000 in
set_option maxHeartbeats 4000000 in
theorem ck_20_1 : ∀ pc, pc < 21 → pm_chk 20 (60 + pc) cX2_namesOneAlone (k_20 (60 + pc)) = true := by decide +kernel
theorem ck_20 (pc : Nat) (h : pc < 81) : pm_chk 20 pc cX2_namesOneAlone (k_20 pc) = true := by
  by_cases h0 : pc < 60
  · have e := ck_20_0 (pc - 0) (by omega)
    rwa [show 0 + (pc - 0) = pc by omega] at e
  have e := ck_20_1 (pc - 60) (by omega)
  rwa [show 60 + (pc - 60) = pc by omega] at e
set_option maxRecDepth 100000 in
set_option maxHeartbeats 4000000 in
theorem ck_21 : ∀ pc, pc < 27 → pm_chk 21 pc cX2_typeSearched (k_21 pc) = true := by decide +kernel
set_option maxRecDepth 100000 in
set_option maxHeartbeats 4000000 in
theorem ck_22_0 : ∀ pc, pc < 60 → pm_chk 22 (0 + pc) cX2_faultOf (k_22 (0 + pc)) = true := by decide +kernel
set_option maxRecDepth 100000 in
set_option maxHeartbeats 4000000 in
theorem ck_22_1 : ∀ pc, pc < 60 → pm_chk 22 (60 + pc) cX2_faultOf (k_22 (60 + pc)) = true := by decide +kernel
set_option maxRecDepth 100000 in
set_option maxHeartbeats 4000000 in
theorem ck_22_2 : ∀ pc, pc < 1 → pm_chk 22 (120 + pc) cX2_faultOf (k_22 (120 + pc)) = true := by decide +kernel
theorem ck_22 (pc : Nat) (h : pc < 121) : pm_chk 22 pc cX2_faultOf (k_22 pc) = true := by
  by_cases h0 : pc < 60
  · have e := ck_22_0 (pc - 0) (by omega)
    rwa [show 0 + (pc - 0) = pc by omega] at e
  by_cases h1 : pc < 120
  · have e := ck_22_1 (pc - 60) (by omega)
    rwa [show 60 + (pc - 60) = pc by omega] at e
  have e := ck_22_2 (pc - 120) (by omega)
  rwa [show 120 + (pc - 120) = pc by omega] at e
set_option maxRecDepth 100000 in
set_option maxHeartbeats 4000000 in
theorem ck_23_0 : ∀ pc, pc < 60 → pm_chk 23 (0 + pc) cX2_faultOfFirst (k_23 (0 + pc)) = true := by decide +kernel
set_option maxRecDepth 100000 in
set_option maxHeartbeats 4000000 in
theorem ck_23_1 : ∀ pc, pc < 8 → pm_chk 23 (60 + pc) cX2_faultOfFirst (k_23 (60 + pc)) = true := by decide +kernel
theorem ck_23 (pc : Nat) (h : pc < 68) : pm_chk 23 pc cX2_faultOfFirst (k_23 pc) = true := by
  by_cases h0 : pc < 60
  · have e := ck_23_0 (pc - 0) (by omega)
    rwa [show 0 + (pc - 0) = pc by omega] at e
  have e := ck_23_1 (pc - 60) (by omega)
  rwa [show 60 + (pc - 60) = pc by omega] at e
set_option maxRecDepth 100000 in
set_option maxHeartbeats 4000000 in
theorem ck_24_0 : ∀ pc, pc < 60 → pm_chk 24 (0 + pc) cX2_faultOfBoth (k_24 (0 + pc)) = true := by decide +kernel
set_option maxRecDepth 100000 in
set_option maxHeartbeats 4000000 in
theorem ck_24_1 : ∀ pc, pc < 60 → pm_chk 24 (60 + pc) cX2_faultOfBoth (k_24 (60 + pc)) = true := by decide +kernel
set_option maxRecDepth 100000 in
set_option maxHeartbeats 4000000 in
theorem ck_24_2 : ∀ pc, pc < 23 → pm_chk 24 (120 + pc) cX2_faultOfBoth (k_24 (120 + pc)) = true := by decide +kernel
theorem ck_24 (pc : Nat) (h : pc < 143) : pm_chk 24 pc cX2_faultOfBoth (k_24 pc) = true := by
  by_cases h0 : pc < 60
  · have e := ck_24_0 (pc - 0) (by omega)
    rwa [show 0 + (pc - 0) = pc by omega] at e
  by_cases h1 : pc < 120
  · have e := ck_24_1 (pc - 60) (by omega)
    rwa [show 60 + (pc - 60) = pc by omega] at e
  have e := ck_24_2 (pc - 120) (by omega)
  rwa [show 120 + (pc - 120) = pc by omega] at e
set_option maxRecDepth 100000 in
set_option maxHeartbeats 4000000 in
theorem ck_25 : ∀ pc, pc < 48 → pm_chk 25 pc cX3_init (k_25 pc) = true := by decide +kernel
set_option maxRecDepth 100000 in
set_option maxHeartbeats 4000000 in
theorem ck_26 : ∀ pc, pc < 42 → pm_chk 26 pc cX3_signatureOf (k_26 pc) = true := by decide +kernel
set_option maxRecDepth 100000 in
set_option maxHeartbeats 4000000 in
theorem ck_27 : ∀ pc, pc < 15 → pm_chk 27 pc cX3_isStatic (k_27 pc) = true := by decide +kernel
set_option maxRecDepth 100000 in
set_option maxHeartbeats 4000000 in
theorem ck_28 : ∀ pc, pc < 15 → pm_chk 28 pc cX3_isAbstract (k_28 pc) = true := by decide +kernel
set_option maxRecDepth 100000 in
set_option maxHeartbeats 4000000 in
theorem ck_29 : ∀ pc, pc < 15 → pm_chk 29 pc cX3_isVaried (k_29 pc) = true := by decide +kernel
set_option maxRecDepth 100000 in
set_option maxHeartbeats 4000000 in
theorem ck_30_0 : ∀ pc, pc < 60 → pm_chk 30 (0 + pc) cX3_typeAt (k_30 (0 + pc)) = true := by decide +kernel
set_option maxRecDepth 100000 in
set_option maxHeartbeats 4000000 in
theorem ck_30_1 : ∀ pc, pc < 10 → pm_chk 30 (60 + pc) cX3_typeAt (k_30 (60 + pc)) = true := by decide +kernel
theorem ck_30 (pc : Nat) (h : pc < 70) : pm_chk 30 pc cX3_typeAt (k_30 pc) = true := by
  by_cases h0 : pc < 60
  · have e := ck_30_0 (pc - 0) (by omega)
    rwa [show 0 + (pc - 0) = pc by omega] at e
  have e := ck_30_1 (pc - 60) (by omega)
  rwa [show 60 + (pc - 60) = pc by omega] at e
set_option maxRecDepth 100000 in
set_option maxHeartbeats 4000000 in
theorem ck_31 : ∀ pc, pc < 42 → pm_chk 31 pc cX3_agreesWith (k_31 pc) = true := by decide +kernel
set_option maxRecDepth 100000 in
set_option maxHeartbeats 4000000 in
theorem ck_32 : ∀ pc, pc < 35 → pm_chk 32 pc cX4_init (k_32 pc) = true := by decide +kernel
set_option maxRecDepth 100000 in
set_option maxHeartbeats 4000000 in
theorem ck_33 : ∀ pc, pc < 5 → pm_chk 33 pc cX4_size (k_33 pc) = true := by decide +kernel
set_option maxRecDepth 100000 in
set_option maxHeartbeats 4000000 in
theorem ck_34 : ∀ pc, pc < 15 → pm_chk 34 pc cX4_isFull (k_34 pc) = true := by decide +kernel
set_option maxRecDepth 100000 in
set_option maxHeartbeats 4000000 in
theorem ck_35 : ∀ pc, pc < 47 → pm_chk 35 pc cX4_inherit (k_35 pc) = true := by decide +kernel
set_option maxRecDepth 100000 in
set_option maxHeartbeats 4000000 in
theorem ck_36_0 : ∀ pc, pc < 60 → pm_chk 36 (0 + pc) cX4_add (k_36 (0 + pc)) = true := by decide +kernel
set_option maxRecDepth 100000 in
set_option maxHeartbeats 4000000 in
theorem ck_36_1 : ∀ pc, pc < 60 → pm_chk 36 (60 + pc) cX4_add (k_36 (60 + pc)) = true := by decide +kernel
set_option maxRecDepth 100000 in
set_option maxHeartbeats 4000000 in
theorem ck_36_2 : ∀ pc, pc < 60 → pm_chk 36 (120 + pc) cX4_add (k_36 (120 + pc)) = true := by decide +kernel
theorem ck_36 (pc : Nat) (h : pc < 180) : pm_chk 36 pc cX4_add (k_36 pc) = true := by
  by_cases h0 : pc < 60
  · have e := ck_36_0 (pc - 0) (by omega)
    rwa [show 0 + (pc - 0) = pc by omega] at e
  by_cases h1 : pc < 120
  · have e := ck_36_1 (pc - 60) (by omega)
    rwa [show 60 + (pc - 60) = pc by omega] at e
  have e := ck_36_2 (pc - 120) (by omega)
  rwa [show 120 + (pc - 120) = pc by omega] at e
set_option maxRecDepth 100000 in
set_option maxHeartbeats 4000000 in
theorem ck_37_0 : ∀ pc, pc < 60 → pm_chk 37 (0 + pc) cX4_putInto (k_37 (0 + pc)) = true := by decide +kernel
