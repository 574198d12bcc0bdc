set_option maxRecDepth 100000 in
set_option maxHeartbeats 4000000 in
theorem ck_37_1 : ∀ pc, pc < 41 → pm_chk 37 (60 + pc) cX4_putInto (k_37 (60 + pc)) = true := by decide +kernel
theorem ck_37 (pc : Nat) (h : pc < 101) : pm_chk 37 pc cX4_putInto (k_37 pc) = true := by
  by_cases h0 : pc < 60
  · have e := ck_37_0 (pc - 0) (by omega)
    rwa [show 0 + (pc - 0) = pc by omega] at e
  have e := ck_37_1 (pc - 60) (by omega)
  rwa [show 60 + (pc - 60) = pc by omega] at e
set_option maxRecDepth 100000 in
set_option maxHeartbeats 4000000 in
theorem ck_38 : ∀ pc, pc < 50 → pm_chk 38 pc cX4_clashes (k_38 pc) = true := by decide +kernel
set_option maxRecDepth 100000 in
set_option maxHeartbeats 4000000 in
theorem ck_39_0 : ∀ pc, pc < 60 → pm_chk 39 (0 + pc) cX4_clashesWith (k_39 (0 + pc)) = true := by decide +kernel
set_option maxRecDepth 100000 in
set_option maxHeartbeats 4000000 in
theorem ck_39_1 : ∀ pc, pc < 22 → pm_chk 39 (60 + pc) cX4_clashesWith (k_39 (60 + pc)) = true := by decide +kernel
theorem ck_39 (pc : Nat) (h : pc < 82) : pm_chk 39 pc cX4_clashesWith (k_39 pc) = true := by
  by_cases h0 : pc < 60
  · have e := ck_39_0 (pc - 0) (by omega)
    rwa [show 0 + (pc - 0) = pc by omega] at e
  have e := ck_39_1 (pc - 60) (by omega)
  rwa [show 60 + (pc - 60) = pc by omega] at e
set_option maxRecDepth 100000 in
set_option maxHeartbeats 4000000 in
theorem ck_40 : ∀ pc, pc < 47 → pm_chk 40 pc cX4_numberOfHad (k_40 pc) = true := by decide +kernel
set_option maxRecDepth 100000 in
set_option maxHeartbeats 4000000 in
theorem ck_41 : ∀ pc, pc < 21 → pm_chk 41 pc cX4_isOpen (k_41 pc) = true := by decide +kernel
set_option maxRecDepth 100000 in
set_option maxHeartbeats 4000000 in
theorem ck_42 : ∀ pc, pc < 27 → pm_chk 42 pc cX4_namedIn (k_42 pc) = true := by decide +kernel
set_option maxRecDepth 100000 in
set_option maxHeartbeats 4000000 in
theorem ck_43 : ∀ pc, pc < 18 → pm_chk 43 pc cX4_hasMaker (k_43 pc) = true := by decide +kernel
set_option maxRecDepth 100000 in
set_option maxHeartbeats 4000000 in
theorem ck_44 : ∀ pc, pc < 53 → pm_chk 44 pc cX4_takenFor (k_44 pc) = true := by decide +kernel
set_option maxRecDepth 100000 in
set_option maxHeartbeats 4000000 in
theorem ck_45 : ∀ pc, pc < 23 → pm_chk 45 pc cX4_at (k_45 pc) = true := by decide +kernel
set_option maxRecDepth 100000 in
set_option maxHeartbeats 4000000 in
theorem ck_46 : ∀ pc, pc < 17 → pm_chk 46 pc cX4_isAnyStatic (k_46 pc) = true := by decide +kernel
set_option maxRecDepth 100000 in
set_option maxHeartbeats 4000000 in
theorem ck_47 : ∀ pc, pc < 21 → pm_chk 47 pc cX4_isAnyOtherThanStatic (k_47 pc) = true := by decide +kernel
set_option maxRecDepth 100000 in
set_option maxHeartbeats 4000000 in
theorem ck_48 : ∀ pc, pc < 17 → pm_chk 48 pc cX4_isAnyVaried (k_48 pc) = true := by decide +kernel
set_option maxRecDepth 100000 in
set_option maxHeartbeats 4000000 in
theorem ck_49 : ∀ pc, pc < 38 → pm_chk 49 pc cX4_hadBy (k_49 pc) = true := by decide +kernel
set_option maxRecDepth 100000 in
set_option maxHeartbeats 4000000 in
theorem ck_50 : ∀ pc, pc < 16 → pm_chk 50 pc cX4_isIn (k_50 pc) = true := by decide +kernel
set_option maxRecDepth 100000 in
set_option maxHeartbeats 4000000 in
theorem ck_51 : ∀ pc, pc < 20 → pm_chk 51 pc cX5_init (k_51 pc) = true := by decide +kernel
set_option maxRecDepth 100000 in
set_option maxHeartbeats 4000000 in
theorem ck_52 : ∀ pc, pc < 15 → pm_chk 52 pc cX6_init (k_52 pc) = true := by decide +kernel
set_option maxRecDepth 100000 in
set_option maxHeartbeats 4000000 in
theorem ck_53_0 : ∀ pc, pc < 60 → pm_chk 53 (0 + pc) cX6_run (k_53 (0 + pc)) = true := by decide +kernel
set_option maxRecDepth 100000 in
set_option maxHeartbeats 4000000 in
theorem ck_53_1 : ∀ pc, pc < 57 → pm_chk 53 (60 + pc) cX6_run (k_53 (60 + pc)) = true := by decide +kernel
theorem ck_53 (pc : Nat) (h : pc < 117) : pm_chk 53 pc cX6_run (k_53 pc) = true := by
  by_cases h0 : pc < 60
  · have e := ck_53_0 (pc - 0) (by omega)
    rwa [show 0 + (pc - 0) = pc by omega] at e
  have e := ck_53_1 (pc - 60) (by omega)
  rwa [show 60 + (pc - 60) = pc by omega] at e
set_option maxRecDepth 100000 in
set_option maxHeartbeats 4000000 in
theorem ck_54 : ∀ pc, pc < 32 → pm_chk 54 pc cX6_answer (k_54 pc) = true := by decide +kernel
set_option maxRecDepth 100000 in
set_option maxHeartbeats 4000000 in
theorem ck_55 : ∀ pc, pc < 12 → pm_chk 55 pc cX6_hasStatic (k_55 pc) = true := by decide +kernel
set_option maxRecDepth 100000 in
set_option maxHeartbeats 4000000 in
theorem ck_56 : ∀ pc, pc < 12 → pm_chk 56 pc cX6_hasOtherThanStatic (k_56 pc) = true := by decide +kernel
set_option maxRecDepth 100000 in
set_option maxHeartbeats 4000000 in
theorem ck_57 : ∀ pc, pc < 11 → pm_chk 57 pc cX6_argumentCount (k_57 pc) = true := by decide +kernel
set_option maxRecDepth 100000 in
set_option maxHeartbeats 4000000 in
theorem ck_58_0 : ∀ pc, pc < 60 → pm_chk 58 (0 + pc) cX6_gatherFit (k_58 (0 + pc)) = true := by decide +kernel
set_option maxRecDepth 100000 in
set_option maxHeartbeats 4000000 in
theorem ck_58_1 : ∀ pc, pc < 6 → pm_chk 58 (60 + pc) cX6_gatherFit (k_58 (60 + pc)) = true := by decide +kernel
theorem ck_58 (pc : Nat) (h : pc < 66) : pm_chk 58 pc cX6_gatherFit (k_58 pc) = true := by
  by_cases h0 : pc < 60
  · have e := ck_58_0 (pc - 0) (by omega)
    rwa [show 0 + (pc - 0) = pc by omega] at e
  have e := ck_58_1 (pc - 60) (by omega)
  rwa [show 60 + (pc - 60) = pc by omega] at e
set_option maxRecDepth 100000 in
set_option maxHeartbeats 4000000 in
theorem ck_59_0 : ∀ pc, pc < 60 → pm_chk 59 (0 + pc) cX6_fits (k_59 (0 + pc)) = true := by decide +kernel
set_option maxRecDepth 100000 in
set_option maxHeartbeats 4000000 in
theorem ck_59_1 : ∀ pc, pc < 60 → pm_chk 59 (60 + pc) cX6_fits (k_59 (60 + pc)) = true := by decide +kernel
set_option maxRecDepth 100000 in
set_option maxHeartbeats 4000000 in
theorem ck_59_2 : ∀ pc, pc < 2 → pm_chk 59 (120 + pc) cX6_fits (k_59 (120 + pc)) = true := by decide +kernel
theorem ck_59 (pc : Nat) (h : pc < 122) : pm_chk 59 pc cX6_fits (k_59 pc) = true := by
  by_cases h0 : pc < 60
  · have e := ck_59_0 (pc - 0) (by omega)
    rwa [show 0 + (pc - 0) = pc by omega] at e
  by_cases h1 : pc < 120
  · have e := ck_59_1 (pc - 60) (by omega)
    rwa [show 60 + (pc - 60) = pc by omega] at e
  have e := ck_59_2 (pc - 120) (by omega)
  rwa [show 120 + (pc - 120) = pc by omega] at e
set_option maxRecDepth 100000 in
set_option maxHeartbeats 4000000 in
theorem ck_60_0 : ∀ pc, pc < 60 → pm_chk 60 (0 + pc) cX6_mostSpecial (k_60 (0 + pc)) = true := by decide +kernel
set_option maxRecDepth 100000 in
set_option maxHeartbeats 4000000 in
theorem ck_60_1 : ∀ pc, pc < 4 → pm_chk 60 (60 + pc) cX6_mostSpecial (k_60 (60 + pc)) = true := by decide +kernel
theorem ck_60 (pc : Nat) (h : pc < 64) : pm_chk 60 pc cX6_mostSpecial (k_60 pc) = true := by
  by_cases h0 : pc < 60
  · have e := ck_60_0 (pc - 0) (by omega)
    rwa [show 0 + (pc - 0) = pc by omega] at e
  have e := ck_60_1 (pc - 60) (by omega)
  rwa [show 60 + (pc - 60) = pc by omega] at e
set_option maxRecDepth 100000 in
set_option maxHeartbeats 4000000 in
theorem ck_61 : ∀ pc, pc < 50 → pm_chk 61 pc cX6_isSpecial (k_61 pc) = true := by decide +kernel
set_option maxRecDepth 100000 in
set_option maxHeartbeats 4000000 in
theorem ck_62_0 : ∀ pc, pc < 60 → pm_chk 62 (0 + pc) cX6_isUnderAll (k_62 (0 + pc)) = true := by decide +kernel
set_option maxRecDepth 100000 in
set_option maxHeartbeats 4000000 in
theorem ck_62_1 : ∀ pc, pc < 20 → pm_chk 62 (60 + pc) cX6_isUnderAll (k_62 (60 + pc)) = true := by decide +kernel
theorem ck_62 (pc : Nat) (h : pc < 80) : pm_chk 62 pc cX6_isUnderAll (k_62 pc) = true := by
  by_cases h0 : pc < 60
  · have e := ck_62_0 (pc - 0) (by omega)
    rwa [show 0 + (pc - 0) = pc by omega] at e
  have e := ck_62_1 (pc - 60) (by omega)
  rwa [show 60 + (pc - 60) = pc by omega] at e
set_option maxRecDepth 100000 in
set_option maxHeartbeats 4000000 in
theorem ck_63 : ∀ pc, pc < 30 → pm_chk 63 pc cX7_init (k_63 pc) = true := by decide +kernel
set_option maxRecDepth 100000 in
set_option maxHeartbeats 4000000 in
theorem ck_64 : ∀ pc, pc < 5 → pm_chk 64 pc cX7_size (k_64 pc) = true := by decide +kernel
set_option maxRecDepth 100000 in
set_option maxHeartbeats 4000000 in
theorem ck_65 : ∀ pc, pc < 19 → pm_chk 65 pc cX7_isThing (k_65 pc) = true := by decide +kernel
set_option maxRecDepth 100000 in
set_option maxHeartbeats 4000000 in
theorem ck_66_0 : ∀ pc, pc < 60 → pm_chk 66 (0 + pc) cX7_add (k_66 (0 + pc)) = true := by decide +kernel
set_option maxRecDepth 100000 in
set_option maxHeartbeats 4000000 in
theorem ck_66_1 : ∀ pc, pc < 16 → pm_chk 66 (60 + pc) cX7_add (k_66 (60 + pc)) = true := by decide +kernel
theorem ck_66 (pc : Nat) (h : pc < 76) : pm_chk 66 pc cX7_add (k_66 pc) = true := by
  by_cases h0 : pc < 60
  · have e := ck_66_0 (pc - 0) (by omega)
    rwa [show 0 + (pc - 0) = pc by omega] at e
  have e := ck_66_1 (pc - 60) (by omega)
  rwa [show 60 + (pc - 60) = pc by omega] at e
set_option maxRecDepth 100000 in
set_option maxHeartbeats 4000000 in
theorem ck_67 : ∀ pc, pc < 19 → pm_chk 67 pc cX7_kindOf (k_67 pc) = true := by decide +kernel
set_option maxRecDepth 100000 in
set_option maxHeartbeats 4000000 in
theorem ck_68 : ∀ pc, pc < 19 → pm_chk 68 pc cX7_amountOf (k_68 pc) = true := by decide +kernel
set_option maxRecDepth 100000 in
set_option maxHeartbeats 4000000 in
theorem ck_69 : ∀ pc, pc < 25 → pm_chk 69 pc cX7_placeOf (k_69 pc) = true := by decide +kernel
set_option maxRecDepth 100000 in
set_option maxHeartbeats 4000000 in
theorem ck_70 : ∀ pc, pc < 22 → pm_chk 70 pc cX7_setPlace (k_70 pc) = true := by decide +kernel
set_option maxRecDepth 100000 in
set_option maxHeartbeats 4000000 in
theorem ck_71 : ∀ pc, pc < 29 → pm_chk 71 pc cX7_isPlace (k_71 pc) = true := by decide +kernel
set_option maxRecDepth 100000 in
set_option maxHeartbeats 4000000 in
theorem ck_72 : ∀ pc, pc < 13 → pm_chk 72 pc cX7_keepFirst (k_72 pc) = true := by decide +kernel
set_option maxRecDepth 100000 in
set_option maxHeartbeats 4000000 in
theorem ck_73 : ∀ pc, pc < 13 → pm_chk 73 pc cX8_init (k_73 pc) = true := by decide +kernel
set_option maxRecDepth 100000 in
set_option maxHeartbeats 4000000 in
theorem ck_74 : ∀ pc, pc < 54 → pm_chk 74 pc cX8_add (k_74 pc) = true := by decide +kernel
set_option maxRecDepth 100000 in
set_option maxHeartbeats 4000000 in
theorem ck_75 : ∀ pc, pc < 32 → pm_chk 75 pc cX8_at (k_75 pc) = true := by decide +kernel
set_option maxRecDepth 100000 in
set_option maxHeartbeats 4000000 in
theorem ck_76 : ∀ pc, pc < 11 → pm_chk 76 pc cX8_forget (k_76 pc) = true := by decide +kernel
set_option maxRecDepth 100000 in
set_option maxHeartbeats 4000000 in
theorem ck_77_0 : ∀ pc, pc < 60 → pm_chk 77 (0 + pc) cX9_init (k_77 (0 + pc)) = true := by decide +kernel
set_option maxRecDepth 100000 in
set_option maxHeartbeats 4000000 in
theorem ck_77_1 : ∀ pc, pc < 60 → pm_chk 77 (60 + pc) cX9_init (k_77 (60 + pc)) = true := by decide +kernel
set_option maxRecDepth 100000 in
set_option maxHeartbeats 4000000 in
theorem ck_77_2 : ∀ pc, pc < 23 → pm_chk 77 (120 + pc) cX9_init (k_77 (120 + pc)) = true := by decide +kernel
theorem ck_77 (pc : Nat) (h : pc < 143) : pm_chk 77 pc cX9_init (k_77 pc) = true := by
  by_cases h0 : pc < 60
  · have e := ck_77_0 (pc - 0) (by omega)
    rwa [show 0 + (pc - 0) = pc by omega] at e
  by_cases h1 : pc < 120
  · have e := ck_77_1 (pc - 60) (by omega)
    rwa [show 60 + (pc - 60) = pc by omega] at e
  have e := ck_77_2 (pc - 120) (by omega)
  rwa [show 120 + (pc - 120) = pc by omega] at e
set_option maxRecDepth 100000 in
set_option maxHeartbeats 4000000 in
theorem ck_78 : ∀ pc, pc < 4 → pm_chk 78 pc cX9_bit (k_78 pc) = true := by decide +kernel
set_option maxRecDepth 100000 in
set_option maxHeartbeats 4000000 in
theorem ck_79 : ∀ pc, pc < 5 → pm_chk 79 pc cX9_size (k_79 pc) = true := by decide +kernel
set_option maxRecDepth 100000 in
set_option maxHeartbeats 4000000 in
theorem ck_80_0 : ∀ pc, pc < 60 → pm_chk 80 (0 + pc) cX9_add (k_80 (0 + pc)) = true := by decide +kernel
set_option maxRecDepth 100000 in
set_option maxHeartbeats 4000000 in
theorem ck_80_1 : ∀ pc, pc < 27 → pm_chk 80 (60 + pc) cX9_add (k_80 (60 + pc)) = true := by decide +kernel
theorem ck_80 (pc : Nat) (h : pc < 87) : pm_chk 80 pc cX9_add (k_80 pc) = true := by
  by_cases h0 : pc < 60
  · have e := ck_80_0 (pc - 0) (by omega)
    rwa [show 0 + (pc - 0) = pc by omega] at e
  have e := ck_80_1 (pc - 60) (by omega)
  rwa [show 60 + (pc - 60) = pc by omega] at e
set_option maxRecDepth 100000 in
set_option maxHeartbeats 4000000 in
theorem ck_81 : ∀ pc, pc < 18 → pm_chk 81 pc cX9_isClass (k_81 pc) = true := by decide +kernel
set_option maxRecDepth 100000 in
set_option maxHeartbeats 4000000 in
theorem ck_82 : ∀ pc, pc < 19 → pm_chk 82 pc cX9_isOwner (k_82 pc) = true := by decide +kernel
set_option maxRecDepth 100000 in
set_option maxHeartbeats 4000000 in
theorem ck_83 : ∀ pc, pc < 25 → pm_chk 83 pc cX9_isAnyType (k_83 pc) = true := by decide +kernel
set_option maxRecDepth 100000 in
set_option maxHeartbeats 4000000 in
theorem ck_84 : ∀ pc, pc < 20 → pm_chk 84 pc cX9_isParameter (k_84 pc) = true := by decide +kernel
set_option maxRecDepth 100000 in
set_option maxHeartbeats 4000000 in
theorem ck_85 : ∀ pc, pc < 20 → pm_chk 85 pc cX9_isRow (k_85 pc) = true := by decide +kernel
set_option maxRecDepth 100000 in
set_option maxHeartbeats 4000000 in
theorem ck_86 : ∀ pc, pc < 19 → pm_chk 86 pc cX9_parentOf (k_86 pc) = true := by decide +kernel
set_option maxRecDepth 100000 in
set_option maxHeartbeats 4000000 in
theorem ck_87 : ∀ pc, pc < 39 → pm_chk 87 pc cX9_isUnder (k_87 pc) = true := by decide +kernel
set_option maxRecDepth 100000 in
set_option maxHeartbeats 4000000 in
theorem ck_88 : ∀ pc, pc < 41 → pm_chk 88 pc cX9_isLoose (k_88 pc) = true := by decide +kernel
set_option maxRecDepth 100000 in
set_option maxHeartbeats 4000000 in
theorem ck_89 : ∀ pc, pc < 57 → pm_chk 89 pc cX10_init (k_89 pc) = true := by decide +kernel
set_option maxRecDepth 100000 in
set_option maxHeartbeats 4000000 in
theorem ck_90_0 : ∀ pc, pc < 60 → pm_chk 90 (0 + pc) cX11_init (k_90 (0 + pc)) = true := by decide +kernel
set_option maxRecDepth 100000 in
set_option maxHeartbeats 4000000 in
theorem ck_90_1 : ∀ pc, pc < 60 → pm_chk 90 (60 + pc) cX11_init (k_90 (60 + pc)) = true := by decide +kernel
set_option maxRecDepth 100000 in
set_option maxHeartbeats 4000000 in
theorem ck_90_2 : ∀ pc, pc < 12 → pm_chk 90 (120 + pc) cX11_init (k_90 (120 + pc)) = true := by decide +kernel
theorem ck_90 (pc : Nat) (h : pc < 132) : pm_chk 90 pc cX11_init (k_90 pc) = true := by
  by_cases h0 : pc < 60
  · have e := ck_90_0 (pc - 0) (by omega)
    rwa [show 0 + (pc - 0) = pc by omega] at e
  by_cases h1 : pc < 120
  · have e := ck_90_1 (pc - 60) (by omega)
    rwa [show 60 + (pc - 60) = pc by omega] at e
  have e := ck_90_2 (pc - 120) (by omega)
  rwa [show 120 + (pc - 120) = pc by omega] at e
set_option maxRecDepth 100000 in
set_option maxHeartbeats 4000000 in
theorem ck_91 : ∀ pc, pc < 33 → pm_chk 91 pc cX11_type (k_91 pc) = true := by decide +kernel
set_option maxRecDepth 100000 in
set_option maxHeartbeats 4000000 in
theorem ck_92 : ∀ pc, pc < 42 → pm_chk 92 pc cX11_under (k_92 pc) = true := by decide +kernel
set_option maxRecDepth 100000 in
set_option maxHeartbeats 4000000 in
theorem ck_93 : ∀ pc, pc < 42 → pm_chk 93 pc cX11_loose (k_93 pc) = true := by decide +kernel
set_option maxRecDepth 100000 in
set_option maxHeartbeats 4000000 in
theorem ck_94 : ∀ pc, pc < 49 → pm_chk 94 pc cX11_tell (k_94 pc) = true := by decide +kernel
set_option maxRecDepth 100000 in
set_option maxHeartbeats 4000000 in
theorem ck_95 : ∀ pc, pc < 12 → pm_chk 95 pc cX11_untell (k_95 pc) = true := by decide +kernel
set_option maxRecDepth 100000 in
set_option maxHeartbeats 4000000 in
theorem ck_96_0 : ∀ pc, pc < 60 → pm_chk 96 (0 + pc) cX11_member (k_96 (0 + pc)) = true := by decide +kernel
set_option maxRecDepth 100000 in
set_option maxHeartbeats 4000000 in
theorem ck_96_1 : ∀ pc, pc < 53 → pm_chk 96 (60 + pc) cX11_member (k_96 (60 + pc)) = true := by decide +kernel
theorem ck_96 (pc : Nat) (h : pc < 113) : pm_chk 96 pc cX11_member (k_96 pc) = true := by
  by_cases h0 : pc < 60
  · have e := ck_96_0 (pc - 0) (by omega)
    rwa [show 0 + (pc - 0) = pc by omega] at e
  have e := ck_96_1 (pc - 60) (by omega)
  rwa [show 60 + (pc - 60) = pc by omega] at e
set_option maxRecDepth 100000 in
set_option maxHeartbeats 4000000 in
theorem ck_97 : ∀ pc, pc < 23 → pm_chk 97 pc cX11_has (k_97 pc) = true := by decide +kernel
set_option maxRecDepth 100000 in
set_option maxHeartbeats 4000000 in
theorem ck_98 : ∀ pc, pc < 30 → pm_chk 98 pc cX11_open (k_98 pc) = true := by decide +kernel
set_option maxRecDepth 100000 in
set_option maxHeartbeats 4000000 in
theorem ck_99_0 : ∀ pc, pc < 60 → pm_chk 99 (0 + pc) cX11_isMemberHead (k_99 (0 + pc)) = true := by decide +kernel
set_option maxRecDepth 100000 in
set_option maxHeartbeats 4000000 in
theorem ck_99_1 : ∀ pc, pc < 1 → pm_chk 99 (60 + pc) cX11_isMemberHead (k_99 (60 + pc)) = true := by decide +kernel
theorem ck_99 (pc : Nat) (h : pc < 61) : pm_chk 99 pc cX11_isMemberHead (k_99 pc) = true := by
  by_cases h0 : pc < 60
  · have e := ck_99_0 (pc - 0) (by omega)
    rwa [show 0 + (pc - 0) = pc by omega] at e
  have e := ck_99_1 (pc - 60) (by omega)
  rwa [show 60 + (pc - 60) = pc by omega] at e
set_option maxRecDepth 100000 in
set_option maxHeartbeats 4000000 in
theorem ck_100_0 : ∀ pc, pc < 60 → pm_chk 100 (0 + pc) cX11_areMarksAllowed (k_100 (0 + pc)) = true := by decide +kernel
set_option maxRecDepth 100000 in
set_option maxHeartbeats 4000000 in
theorem ck_100_1 : ∀ pc, pc < 19 → pm_chk 100 (60 + pc) cX11_areMarksAllowed (k_100 (60 + pc)) = true := by decide +kernel
theorem ck_100 (pc : Nat) (h : pc < 79) : pm_chk 100 pc cX11_areMarksAllowed (k_100 pc) = true := by
  by_cases h0 : pc < 60
  · have e := ck_100_0 (pc - 0) (by omega)
    rwa [show 0 + (pc - 0) = pc by omega] at e
  have e := ck_100_1 (pc - 60) (by omega)
  rwa [show 60 + (pc - 60) = pc by omega] at e
set_option maxRecDepth 100000 in
set_option maxHeartbeats 4000000 in
theorem ck_101 : ∀ pc, pc < 34 → pm_chk 101 pc cX11_isLastToldRow (k_101 pc) = true := by decide +kernel
set_option maxRecDepth 100000 in
set_option maxHeartbeats 4000000 in
theorem ck_102 : ∀ pc, pc < 23 → pm_chk 102 pc cX11_copyOfTold (k_102 pc) = true := by decide +kernel
