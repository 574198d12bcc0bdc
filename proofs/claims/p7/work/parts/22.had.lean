/-- as many places are alike, from the k-th on -/
def smL (my pm : Nat → Int32) (m o : Int32) (k : Nat) : Prop := ∀ j : Nat, k ≤ j → (j : Int) < (my m.toNatClampNeg).toInt → pm (3 * m + nI j).toNatClampNeg = pm (3 * o + nI j).toNatClampNeg
/-- the reference's isSame -/
def smM (na my pm : Nat → Int32) (m o : Int32) : Prop := na m.toNatClampNeg = na o.toNatClampNeg ∧ my m.toNatClampNeg = my o.toNatClampNeg ∧ smL my pm m o 0
def myD (my : Nat → Int32) : Prop := ∀ j : Nat, j < 40 → 0 ≤ (my j).toInt ∧ (my j).toInt ≤ 3
theorem xJ {a b : Int32} (h : a.toInt = b.toInt) : a = b := Int32.toInt_inj.mp h
theorem xK {a b : Int32} (h : a.toInt ≠ b.toInt) : a ≠ b := fun q => h (by rw [q])
theorem myD_at {my : Nat → Int32} (h : myD my) {m : Int32} (h0 : 0 ≤ m.toInt) (h1 : m.toInt < 40) : 0 ≤ (my m.toNatClampNeg).toInt ∧ (my m.toNatClampNeg).toInt ≤ 3 := h _ (by have := xN h0; omega)
set_option maxRecDepth 100000 in
set_option maxHeartbeats 4000000 in
theorem w_isSame_loop {g c1 c2 c3 c4 c5 c6 c7 c8 c9 c10 c11 c12 c13 c14 c15 c16 c17 c18 c19 c20 c21 c22 c23 c24 : pm_C} {dyn : pm_H} {mTy : Int32} {mPa : Nat → Int32} {mTo : Nat → Int32} {mTm : Int32} {mMn : Int32} {mOt : Nat → Int32} {mNa : Nat → Int32} {mRe : Nat → Int32} {mMa : Nat → Int32} {mMy : Nat → Int32} {mPm : Nat → Int32} {mFn : Int32} {mFy : Nat → Int32} {mFa : Nat → Int32} {mFr : Nat → Int32} {mRn : Int32} {mFo : Nat → Int32} {mRt : Nat → Int32} {mRm : Nat → Int32} {mTn : Int32} {mTt : Nat → Int32} {mTi : Nat → Int32} {mPl : Nat → Int32} {mVn : Int32} {mVr : Nat → Int32} {mVf : Nat → Int32} {mVc : Nat → Int32} {mAr : Nat → Int32} {mLr : Int32} {mTc : Nat → Int32} {mTr : Int32} {mFl : Int32} {mFt : Nat → Int32} {mFm : Int32} {mFp : Int32} {mSc : Int32} {mMp : Int32} {mEn : Int32} {mGo : Nat → Int32} {Q : pm_Q} (m o : Int32) (hm : 0 ≤ m.toInt ∧ m.toInt < 40) (ho : 0 ≤ o.toInt ∧ o.toInt < 40) (hy : myD mMy) : ∀ (n k : Nat), (k ≤ 3) → (3 < k + n) → (smL mMy mPm m o k → Q (some (.int 1)) (hq g c1 c2 c3 c4 c5 c6 c7 c8 c9 c10 c11 c12 c13 c14 c15 c16 c17 c18 c19 c20 c21 c22 c23 c24 (hc25 mTy mTm mMn mFn mRn mTn mVn mLr mTr mFl mFm mFp mSc mMp mEn) (hc26 mPa) (hc27 mTo) (hc28 mOt) (hc29 mNa) (hc30 mRe) (hc31 mMa) (hc32 mMy) (hc33 mPm) (hc34 mFy) (hc35 mFa) (hc36 mFr) (hc37 mFo) (hc38 mRt) (hc39 mRm) (hc40 mTt) (hc41 mTi) (hc42 mPl) (hc43 mVr) (hc44 mVf) (hc45 mVc) (hc46 mAr) (hc47 mTc) (hc48 mFt) (hc49 mGo) dyn)) → (¬ smL mMy mPm m o k → Q (some (.int 0)) (hq g c1 c2 c3 c4 c5 c6 c7 c8 c9 c10 c11 c12 c13 c14 c15 c16 c17 c18 c19 c20 c21 c22 c23 c24 (hc25 mTy mTm mMn mFn mRn mTn mVn mLr mTr mFl mFm mFp mSc mMp mEn) (hc26 mPa) (hc27 mTo) (hc28 mOt) (hc29 mNa) (hc30 mRe) (hc31 mMa) (hc32 mMy) (hc33 mPm) (hc34 mFy) (hc35 mFa) (hc36 mFr) (hc37 mFo) (hc38 mRt) (hc39 mRm) (hc40 mTt) (hc41 mTi) (hc42 mPl) (hc43 mVr) (hc44 mVf) (hc45 mVc) (hc46 mAr) (hc47 mTc) (hc48 mFt) (hc49 mGo) dyn)) → pm_WP 140 (39, [(4, .int (nI k)), (3, .int 1), (0, .ref 25), (1, .int m), (2, .int o)], [], hq g c1 c2 c3 c4 c5 c6 c7 c8 c9 c10 c11 c12 c13 c14 c15 c16 c17 c18 c19 c20 c21 c22 c23 c24 (hc25 mTy mTm mMn mFn mRn mTn mVn mLr mTr mFl mFm mFp mSc mMp mEn) (hc26 mPa) (hc27 mTo) (hc28 mOt) (hc29 mNa) (hc30 mRe) (hc31 mMa) (hc32 mMy) (hc33 mPm) (hc34 mFy) (hc35 mFa) (hc36 mFr) (hc37 mFo) (hc38 mRt) (hc39 mRm) (hc40 mTt) (hc41 mTi) (hc42 mPl) (hc43 mVr) (hc44 mVf) (hc45 mVc) (hc46 mAr) (hc47 mTc) (hc48 mFt) (hc49 mGo) dyn, 0, 0) Q := by
  intro n
  induction n with
  | zero =>
    intro k g1 g2 k0 k1
    exfalso; omega
  | succ n ih =>
    intro k g1 g2 k0 k1
    have hk := nI_toInt (n := k) (by omega)
    have hkc : (nI k).toNatClampNeg = k := nI_clamp (by omega)
    have hyy := myD_at hy hm.1 hm.2
    refine pm_go (g := (40, [(4, .int (nI k)), (3, .int 1), (0, .ref 25), (1, .int m), (2, .int o)], [.int 1], hq g c1 c2 c3 c4 c5 c6 c7 c8 c9 c10 c11 c12 c13 c14 c15 c16 c17 c18 c19 c20 c21 c22 c23 c24 (hc25 mTy mTm mMn mFn mRn mTn mVn mLr mTr mFl mFm mFp mSc mMp mEn) (hc26 mPa) (hc27 mTo) (hc28 mOt) (hc29 mNa) (hc30 mRe) (hc31 mMa) (hc32 mMy) (hc33 mPm) (hc34 mFy) (hc35 mFa) (hc36 mFr) (hc37 mFo) (hc38 mRt) (hc39 mRm) (hc40 mTt) (hc41 mTi) (hc42 mPl) (hc43 mVr) (hc44 mVf) (hc45 mVc) (hc46 mAr) (hc47 mTc) (hc48 mFt) (hc49 mGo) dyn, 0, 0)) rfl ?_
    refine pm_brF (h := (43, [(4, .int (nI k)), (3, .int 1), (0, .ref 25), (1, .int m), (2, .int o)], [], hq g c1 c2 c3 c4 c5 c6 c7 c8 c9 c10 c11 c12 c13 c14 c15 c16 c17 c18 c19 c20 c21 c22 c23 c24 (hc25 mTy mTm mMn mFn mRn mTn mVn mLr mTr mFl mFm mFp mSc mMp mEn) (hc26 mPa) (hc27 mTo) (hc28 mOt) (hc29 mNa) (hc30 mRe) (hc31 mMa) (hc32 mMy) (hc33 mPm) (hc34 mFy) (hc35 mFa) (hc36 mFr) (hc37 mFo) (hc38 mRt) (hc39 mRm) (hc40 mTt) (hc41 mTi) (hc42 mPl) (hc43 mVr) (hc44 mVf) (hc45 mVc) (hc46 mAr) (hc47 mTc) (hc48 mFt) (hc49 mGo) dyn, 0, 0)) rfl ?_
    refine pm_go (g := (45, _, [.int (nI k)], _, 0, 0)) rfl ?_
    refine pm_go (g := (46, _, [.ref 25, .int (nI k)], _, 0, 0)) rfl ?_
    refine pm_go (g := (49, _, [.ref 32, .int (nI k)], _, 0, 0)) rfl ?_
    refine pm_go (g := (50, _, [.int m, .ref 32, .int (nI k)], _, 0, 0)) rfl ?_
    refine pm_sd (g := (51, _, [.int (mMy (m).toNatClampNeg), .int (nI k)], _, 0, 0)) rfl (pm_inI (by omega) (by omega)) ?_
    refine pm_if2 (g := (91, [(4, .int (nI k)), (3, .int 1), (0, .ref 25), (1, .int m), (2, .int o)], [], hq g c1 c2 c3 c4 c5 c6 c7 c8 c9 c10 c11 c12 c13 c14 c15 c16 c17 c18 c19 c20 c21 c22 c23 c24 (hc25 mTy mTm mMn mFn mRn mTn mVn mLr mTr mFl mFm mFp mSc mMp mEn) (hc26 mPa) (hc27 mTo) (hc28 mOt) (hc29 mNa) (hc30 mRe) (hc31 mMa) (hc32 mMy) (hc33 mPm) (hc34 mFy) (hc35 mFa) (hc36 mFr) (hc37 mFo) (hc38 mRt) (hc39 mRm) (hc40 mTt) (hc41 mTi) (hc42 mPl) (hc43 mVr) (hc44 mVf) (hc45 mVc) (hc46 mAr) (hc47 mTc) (hc48 mFt) (hc49 mGo) dyn, 0, 0)) (h := (54, [(4, .int (nI k)), (3, .int 1), (0, .ref 25), (1, .int m), (2, .int o)], [], hq g c1 c2 c3 c4 c5 c6 c7 c8 c9 c10 c11 c12 c13 c14 c15 c16 c17 c18 c19 c20 c21 c22 c23 c24 (hc25 mTy mTm mMn mFn mRn mTn mVn mLr mTr mFl mFm mFp mSc mMp mEn) (hc26 mPa) (hc27 mTo) (hc28 mOt) (hc29 mNa) (hc30 mRe) (hc31 mMa) (hc32 mMy) (hc33 mPm) (hc34 mFy) (hc35 mFa) (hc36 mFr) (hc37 mFo) (hc38 mRt) (hc39 mRm) (hc40 mTt) (hc41 mTi) (hc42 mPl) (hc43 mVr) (hc44 mVf) (hc45 mVc) (hc46 mAr) (hc47 mTc) (hc48 mFt) (hc49 mGo) dyn, 0, 0)) rfl (fun h1 => ?_) (fun h1 => ?_)
    ·
      have h1 := qT_ge (cx := (nI k).toInt) (cy := (mMy (m).toNatClampNeg).toInt) rfl rfl h1
      refine pm_go (g := (92, _, [.int 1], _, 0, 0)) rfl ?_
      exact pm_ret rfl (k0 (fun j g1 g2 => absurd g2 (by omega)))
    have h1 := qF_ge (cx := (nI k).toInt) (cy := (mMy (m).toNatClampNeg).toInt) rfl rfl h1
    refine pm_go (g := (55, _, [.ref 25], _, 0, 0)) rfl ?_
    refine pm_go (g := (58, _, [.ref 33], _, 0, 0)) rfl ?_
    refine pm_go (g := (59, _, [.int 3, .ref 33], _, 0, 0)) rfl ?_
    refine pm_go (g := (60, _, [.int m, .int 3, .ref 33], _, 0, 0)) rfl ?_
    refine pm_go (g := (61, _, [.int (3 * m), .ref 33], _, 0, 0)) rfl ?_
    try have h2 : (3 * m).toInt = 3 * (m).toInt := iMul (x := 3) (y := (m).toInt) (by decide) rfl (by omega) (by omega)
    refine pm_go (g := (63, _, [.int (nI k), .int (3 * m), .ref 33], _, 0, 0)) rfl ?_
    refine pm_go (g := (64, _, [.int ((3 * m) + (nI k)), .ref 33], _, 0, 0)) rfl ?_
    try have h3 : ((3 * m) + (nI k)).toInt = (3 * m).toInt + (nI k).toInt := iAdd (x := (3 * m).toInt) (y := (nI k).toInt) rfl rfl (by omega) (by omega)
    refine pm_sd (g := (65, _, [.int (mPm ((3 * m) + (nI k)).toNatClampNeg)], _, 0, 0)) rfl (pm_inI (by omega) (by omega)) ?_
    refine pm_go (g := (66, _, [.ref 25, .int (mPm ((3 * m) + (nI k)).toNatClampNeg)], _, 0, 0)) rfl ?_
    refine pm_go (g := (69, _, [.ref 33, .int (mPm ((3 * m) + (nI k)).toNatClampNeg)], _, 0, 0)) rfl ?_
    refine pm_go (g := (70, _, [.int 3, .ref 33, .int (mPm ((3 * m) + (nI k)).toNatClampNeg)], _, 0, 0)) rfl ?_
    refine pm_go (g := (71, _, [.int o, .int 3, .ref 33, .int (mPm ((3 * m) + (nI k)).toNatClampNeg)], _, 0, 0)) rfl ?_
    refine pm_go (g := (72, _, [.int (3 * o), .ref 33, .int (mPm ((3 * m) + (nI k)).toNatClampNeg)], _, 0, 0)) rfl ?_
    try have h4 : (3 * o).toInt = 3 * (o).toInt := iMul (x := 3) (y := (o).toInt) (by decide) rfl (by omega) (by omega)
    refine pm_go (g := (74, _, [.int (nI k), .int (3 * o), .ref 33, .int (mPm ((3 * m) + (nI k)).toNatClampNeg)], _, 0, 0)) rfl ?_
    refine pm_go (g := (75, _, [.int ((3 * o) + (nI k)), .ref 33, .int (mPm ((3 * m) + (nI k)).toNatClampNeg)], _, 0, 0)) rfl ?_
    try have h5 : ((3 * o) + (nI k)).toInt = (3 * o).toInt + (nI k).toInt := iAdd (x := (3 * o).toInt) (y := (nI k).toInt) rfl rfl (by omega) (by omega)
    refine pm_sd (g := (76, _, [.int (mPm ((3 * o) + (nI k)).toNatClampNeg), .int (mPm ((3 * m) + (nI k)).toNatClampNeg)], _, 0, 0)) rfl (pm_inI (by omega) (by omega)) ?_
    refine pm_if2 (g := (83, [(4, .int (nI k)), (3, .int 1), (0, .ref 25), (1, .int m), (2, .int o)], [], hq g c1 c2 c3 c4 c5 c6 c7 c8 c9 c10 c11 c12 c13 c14 c15 c16 c17 c18 c19 c20 c21 c22 c23 c24 (hc25 mTy mTm mMn mFn mRn mTn mVn mLr mTr mFl mFm mFp mSc mMp mEn) (hc26 mPa) (hc27 mTo) (hc28 mOt) (hc29 mNa) (hc30 mRe) (hc31 mMa) (hc32 mMy) (hc33 mPm) (hc34 mFy) (hc35 mFa) (hc36 mFr) (hc37 mFo) (hc38 mRt) (hc39 mRm) (hc40 mTt) (hc41 mTi) (hc42 mPl) (hc43 mVr) (hc44 mVf) (hc45 mVc) (hc46 mAr) (hc47 mTc) (hc48 mFt) (hc49 mGo) dyn, 0, 0)) (h := (79, [(4, .int (nI k)), (3, .int 1), (0, .ref 25), (1, .int m), (2, .int o)], [], hq g c1 c2 c3 c4 c5 c6 c7 c8 c9 c10 c11 c12 c13 c14 c15 c16 c17 c18 c19 c20 c21 c22 c23 c24 (hc25 mTy mTm mMn mFn mRn mTn mVn mLr mTr mFl mFm mFp mSc mMp mEn) (hc26 mPa) (hc27 mTo) (hc28 mOt) (hc29 mNa) (hc30 mRe) (hc31 mMa) (hc32 mMy) (hc33 mPm) (hc34 mFy) (hc35 mFa) (hc36 mFr) (hc37 mFo) (hc38 mRt) (hc39 mRm) (hc40 mTt) (hc41 mTi) (hc42 mPl) (hc43 mVr) (hc44 mVf) (hc45 mVc) (hc46 mAr) (hc47 mTc) (hc48 mFt) (hc49 mGo) dyn, 0, 0)) rfl (fun h6 => ?_) (fun h6 => ?_)
    ·
      have h6 := qT_ne (cx := (mPm ((3 * m) + (nI k)).toNatClampNeg).toInt) (cy := (mPm ((3 * o) + (nI k)).toNatClampNeg).toInt) rfl rfl h6
      refine pm_go (g := (84, _, [.int 0], _, 0, 0)) rfl ?_
      refine pm_go (g := (85, [(3, .int 0), (4, .int (nI k)), (0, .ref 25), (1, .int m), (2, .int o)], [], _, 0, 0)) rfl ?_
      refine pm_go (g := (88, [(4, .int ((nI k) + 1)), (3, .int 0), (0, .ref 25), (1, .int m), (2, .int o)], [], _, 0, 0)) rfl ?_
      refine pm_go (g := (39, _, [], _, 0, 0)) rfl ?_
      refine pm_go (g := (40, _, [.int 0], _, 0, 0)) rfl ?_
      refine pm_brT (g := (91, [(4, .int ((nI k) + 1)), (3, .int 0), (0, .ref 25), (1, .int m), (2, .int o)], [], hq g c1 c2 c3 c4 c5 c6 c7 c8 c9 c10 c11 c12 c13 c14 c15 c16 c17 c18 c19 c20 c21 c22 c23 c24 (hc25 mTy mTm mMn mFn mRn mTn mVn mLr mTr mFl mFm mFp mSc mMp mEn) (hc26 mPa) (hc27 mTo) (hc28 mOt) (hc29 mNa) (hc30 mRe) (hc31 mMa) (hc32 mMy) (hc33 mPm) (hc34 mFy) (hc35 mFa) (hc36 mFr) (hc37 mFo) (hc38 mRt) (hc39 mRm) (hc40 mTt) (hc41 mTi) (hc42 mPl) (hc43 mVr) (hc44 mVf) (hc45 mVc) (hc46 mAr) (hc47 mTc) (hc48 mFt) (hc49 mGo) dyn, 0, 0)) rfl ?_
      refine pm_go (g := (92, _, [.int 0], _, 0, 0)) rfl ?_
      exact pm_ret rfl (k1 (fun q => absurd (q k (Nat.le_refl k) (by omega)) (xK (by omega))))
    have h6 := qF_ne (cx := (mPm ((3 * m) + (nI k)).toNatClampNeg).toInt) (cy := (mPm ((3 * o) + (nI k)).toNatClampNeg).toInt) rfl rfl h6
    refine pm_go (g := (80, [(4, .int (nI k)), (3, .int 1), (0, .ref 25), (1, .int m), (2, .int o)], [.int 1], _, 0, 0)) rfl ?_
    refine pm_go (g := (84, _, [.int 1], _, 0, 0)) rfl ?_
    refine pm_go (g := (85, [(3, .int 1), (4, .int (nI k)), (0, .ref 25), (1, .int m), (2, .int o)], [], _, 0, 0)) rfl ?_
    refine pm_go (g := (88, [(4, .int ((nI k) + 1)), (3, .int 1), (0, .ref 25), (1, .int m), (2, .int o)], [], _, 0, 0)) rfl ?_
    refine pm_go (g := (39, _, [], _, 0, 0)) rfl ?_
    rw [nI_1]
    refine ih (k + 1) (by omega) (by omega) (fun h => k0 (fun j g1 g2 => ?_)) (fun h => k1 (fun q => h (fun j g1 g2 => q j (by omega) g2)))
    rcases Nat.eq_or_lt_of_le g1 with e9 | e9
    · subst e9; exact xJ (by omega)
    · exact h j e9 g2
set_option maxRecDepth 100000 in
set_option maxHeartbeats 4000000 in
theorem w_X12_isSame {g c1 c2 c3 c4 c5 c6 c7 c8 c9 c10 c11 c12 c13 c14 c15 c16 c17 c18 c19 c20 c21 c22 c23 c24 : pm_C} {dyn : pm_H} {mTy : Int32} {mPa : Nat → Int32} {mTo : Nat → Int32} {mTm : Int32} {mMn : Int32} {mOt : Nat → Int32} {mNa : Nat → Int32} {mRe : Nat → Int32} {mMa : Nat → Int32} {mMy : Nat → Int32} {mPm : Nat → Int32} {mFn : Int32} {mFy : Nat → Int32} {mFa : Nat → Int32} {mFr : Nat → Int32} {mRn : Int32} {mFo : Nat → Int32} {mRt : Nat → Int32} {mRm : Nat → Int32} {mTn : Int32} {mTt : Nat → Int32} {mTi : Nat → Int32} {mPl : Nat → Int32} {mVn : Int32} {mVr : Nat → Int32} {mVf : Nat → Int32} {mVc : Nat → Int32} {mAr : Nat → Int32} {mLr : Int32} {mTc : Nat → Int32} {mTr : Int32} {mFl : Int32} {mFt : Nat → Int32} {mFm : Int32} {mFp : Int32} {mSc : Int32} {mMp : Int32} {mEn : Int32} {mGo : Nat → Int32} {Q : pm_Q} (m : Int32) (o : Int32) (p0 : 0 ≤ m.toInt ∧ m.toInt < 40) (p1 : 0 ≤ o.toInt ∧ o.toInt < 40) (p2 : myD mMy) (k0 : smM mNa mMy mPm m o → Q (some (.int 1)) (hq g c1 c2 c3 c4 c5 c6 c7 c8 c9 c10 c11 c12 c13 c14 c15 c16 c17 c18 c19 c20 c21 c22 c23 c24 (hc25 mTy mTm mMn mFn mRn mTn mVn mLr mTr mFl mFm mFp mSc mMp mEn) (hc26 mPa) (hc27 mTo) (hc28 mOt) (hc29 mNa) (hc30 mRe) (hc31 mMa) (hc32 mMy) (hc33 mPm) (hc34 mFy) (hc35 mFa) (hc36 mFr) (hc37 mFo) (hc38 mRt) (hc39 mRm) (hc40 mTt) (hc41 mTi) (hc42 mPl) (hc43 mVr) (hc44 mVf) (hc45 mVc) (hc46 mAr) (hc47 mTc) (hc48 mFt) (hc49 mGo) dyn)) (k1 : ¬ smM mNa mMy mPm m o → Q (some (.int 0)) (hq g c1 c2 c3 c4 c5 c6 c7 c8 c9 c10 c11 c12 c13 c14 c15 c16 c17 c18 c19 c20 c21 c22 c23 c24 (hc25 mTy mTm mMn mFn mRn mTn mVn mLr mTr mFl mFm mFp mSc mMp mEn) (hc26 mPa) (hc27 mTo) (hc28 mOt) (hc29 mNa) (hc30 mRe) (hc31 mMa) (hc32 mMy) (hc33 mPm) (hc34 mFy) (hc35 mFa) (hc36 mFr) (hc37 mFo) (hc38 mRt) (hc39 mRm) (hc40 mTt) (hc41 mTi) (hc42 mPl) (hc43 mVr) (hc44 mVf) (hc45 mVc) (hc46 mAr) (hc47 mTc) (hc48 mFt) (hc49 mGo) dyn)) : pm_WP 140 (0, [(0, .ref 25), (1, .int m), (2, .int o)], [], hq g c1 c2 c3 c4 c5 c6 c7 c8 c9 c10 c11 c12 c13 c14 c15 c16 c17 c18 c19 c20 c21 c22 c23 c24 (hc25 mTy mTm mMn mFn mRn mTn mVn mLr mTr mFl mFm mFp mSc mMp mEn) (hc26 mPa) (hc27 mTo) (hc28 mOt) (hc29 mNa) (hc30 mRe) (hc31 mMa) (hc32 mMy) (hc33 mPm) (hc34 mFy) (hc35 mFa) (hc36 mFr) (hc37 mFo) (hc38 mRt) (hc39 mRm) (hc40 mTt) (hc41 mTi) (hc42 mPl) (hc43 mVr) (hc44 mVf) (hc45 mVc) (hc46 mAr) (hc47 mTc) (hc48 mFt) (hc49 mGo) dyn, 0, 0) Q := by
  refine pm_go (g := (1, [(0, .ref 25), (1, .int m), (2, .int o)], [.ref 25], hq g c1 c2 c3 c4 c5 c6 c7 c8 c9 c10 c11 c12 c13 c14 c15 c16 c17 c18 c19 c20 c21 c22 c23 c24 (hc25 mTy mTm mMn mFn mRn mTn mVn mLr mTr mFl mFm mFp mSc mMp mEn) (hc26 mPa) (hc27 mTo) (hc28 mOt) (hc29 mNa) (hc30 mRe) (hc31 mMa) (hc32 mMy) (hc33 mPm) (hc34 mFy) (hc35 mFa) (hc36 mFr) (hc37 mFo) (hc38 mRt) (hc39 mRm) (hc40 mTt) (hc41 mTi) (hc42 mPl) (hc43 mVr) (hc44 mVf) (hc45 mVc) (hc46 mAr) (hc47 mTc) (hc48 mFt) (hc49 mGo) dyn, 0, 0)) rfl ?_
  refine pm_go (g := (4, _, [.ref 29], _, 0, 0)) rfl ?_
  refine pm_go (g := (5, _, [.int m, .ref 29], _, 0, 0)) rfl ?_
  refine pm_sd (g := (6, _, [.int (mNa (m).toNatClampNeg)], _, 0, 0)) rfl (pm_inI (by omega) (by omega)) ?_
  refine pm_go (g := (7, _, [.ref 25, .int (mNa (m).toNatClampNeg)], _, 0, 0)) rfl ?_
  refine pm_go (g := (10, _, [.ref 29, .int (mNa (m).toNatClampNeg)], _, 0, 0)) rfl ?_
  refine pm_go (g := (11, _, [.int o, .ref 29, .int (mNa (m).toNatClampNeg)], _, 0, 0)) rfl ?_
  refine pm_sd (g := (12, _, [.int (mNa (o).toNatClampNeg), .int (mNa (m).toNatClampNeg)], _, 0, 0)) rfl (pm_inI (by omega) (by omega)) ?_
  refine pm_if2 (g := (34, [(0, .ref 25), (1, .int m), (2, .int o)], [], hq g c1 c2 c3 c4 c5 c6 c7 c8 c9 c10 c11 c12 c13 c14 c15 c16 c17 c18 c19 c20 c21 c22 c23 c24 (hc25 mTy mTm mMn mFn mRn mTn mVn mLr mTr mFl mFm mFp mSc mMp mEn) (hc26 mPa) (hc27 mTo) (hc28 mOt) (hc29 mNa) (hc30 mRe) (hc31 mMa) (hc32 mMy) (hc33 mPm) (hc34 mFy) (hc35 mFa) (hc36 mFr) (hc37 mFo) (hc38 mRt) (hc39 mRm) (hc40 mTt) (hc41 mTi) (hc42 mPl) (hc43 mVr) (hc44 mVf) (hc45 mVc) (hc46 mAr) (hc47 mTc) (hc48 mFt) (hc49 mGo) dyn, 0, 0)) (h := (15, [(0, .ref 25), (1, .int m), (2, .int o)], [], hq g c1 c2 c3 c4 c5 c6 c7 c8 c9 c10 c11 c12 c13 c14 c15 c16 c17 c18 c19 c20 c21 c22 c23 c24 (hc25 mTy mTm mMn mFn mRn mTn mVn mLr mTr mFl mFm mFp mSc mMp mEn) (hc26 mPa) (hc27 mTo) (hc28 mOt) (hc29 mNa) (hc30 mRe) (hc31 mMa) (hc32 mMy) (hc33 mPm) (hc34 mFy) (hc35 mFa) (hc36 mFr) (hc37 mFo) (hc38 mRt) (hc39 mRm) (hc40 mTt) (hc41 mTi) (hc42 mPl) (hc43 mVr) (hc44 mVf) (hc45 mVc) (hc46 mAr) (hc47 mTc) (hc48 mFt) (hc49 mGo) dyn, 0, 0)) rfl (fun h1 => ?_) (fun h1 => ?_)
  ·
    have h1 := qT_ne (cx := (mNa (m).toNatClampNeg).toInt) (cy := (mNa (o).toNatClampNeg).toInt) rfl rfl h1
    refine pm_go (g := (35, _, [.int 0], _, 0, 0)) rfl ?_
    refine pm_go (g := (36, [(3, .int 0), (0, .ref 25), (1, .int m), (2, .int o)], [], _, 0, 0)) rfl ?_
    refine pm_go (g := (37, _, [.int 0], _, 0, 0)) rfl ?_
    refine pm_go (g := (39, [(4, .int 0), (3, .int 0), (0, .ref 25), (1, .int m), (2, .int o)], [], _, 0, 0)) rfl ?_
    refine pm_go (g := (40, _, [.int 0], _, 0, 0)) rfl ?_
    refine pm_brT (g := (91, [(4, .int 0), (3, .int 0), (0, .ref 25), (1, .int m), (2, .int o)], [], hq g c1 c2 c3 c4 c5 c6 c7 c8 c9 c10 c11 c12 c13 c14 c15 c16 c17 c18 c19 c20 c21 c22 c23 c24 (hc25 mTy mTm mMn mFn mRn mTn mVn mLr mTr mFl mFm mFp mSc mMp mEn) (hc26 mPa) (hc27 mTo) (hc28 mOt) (hc29 mNa) (hc30 mRe) (hc31 mMa) (hc32 mMy) (hc33 mPm) (hc34 mFy) (hc35 mFa) (hc36 mFr) (hc37 mFo) (hc38 mRt) (hc39 mRm) (hc40 mTt) (hc41 mTi) (hc42 mPl) (hc43 mVr) (hc44 mVf) (hc45 mVc) (hc46 mAr) (hc47 mTc) (hc48 mFt) (hc49 mGo) dyn, 0, 0)) rfl ?_
    refine pm_go (g := (92, _, [.int 0], _, 0, 0)) rfl ?_
    exact pm_ret rfl (k1 (fun q => by have e1 := congrArg Int32.toInt q.1; have e2 := congrArg Int32.toInt q.2.1; omega))
  have h1 := qF_ne (cx := (mNa (m).toNatClampNeg).toInt) (cy := (mNa (o).toNatClampNeg).toInt) rfl rfl h1
  refine pm_go (g := (16, [(0, .ref 25), (1, .int m), (2, .int o)], [.ref 25], _, 0, 0)) rfl ?_
  refine pm_go (g := (19, _, [.ref 32], _, 0, 0)) rfl ?_
  refine pm_go (g := (20, _, [.int m, .ref 32], _, 0, 0)) rfl ?_
  refine pm_sd (g := (21, _, [.int (mMy (m).toNatClampNeg)], _, 0, 0)) rfl (pm_inI (by omega) (by omega)) ?_
  refine pm_go (g := (22, _, [.ref 25, .int (mMy (m).toNatClampNeg)], _, 0, 0)) rfl ?_
  refine pm_go (g := (25, _, [.ref 32, .int (mMy (m).toNatClampNeg)], _, 0, 0)) rfl ?_
  refine pm_go (g := (26, _, [.int o, .ref 32, .int (mMy (m).toNatClampNeg)], _, 0, 0)) rfl ?_
  refine pm_sd (g := (27, _, [.int (mMy (o).toNatClampNeg), .int (mMy (m).toNatClampNeg)], _, 0, 0)) rfl (pm_inI (by omega) (by omega)) ?_
  refine pm_if2 (g := (34, [(0, .ref 25), (1, .int m), (2, .int o)], [], hq g c1 c2 c3 c4 c5 c6 c7 c8 c9 c10 c11 c12 c13 c14 c15 c16 c17 c18 c19 c20 c21 c22 c23 c24 (hc25 mTy mTm mMn mFn mRn mTn mVn mLr mTr mFl mFm mFp mSc mMp mEn) (hc26 mPa) (hc27 mTo) (hc28 mOt) (hc29 mNa) (hc30 mRe) (hc31 mMa) (hc32 mMy) (hc33 mPm) (hc34 mFy) (hc35 mFa) (hc36 mFr) (hc37 mFo) (hc38 mRt) (hc39 mRm) (hc40 mTt) (hc41 mTi) (hc42 mPl) (hc43 mVr) (hc44 mVf) (hc45 mVc) (hc46 mAr) (hc47 mTc) (hc48 mFt) (hc49 mGo) dyn, 0, 0)) (h := (30, [(0, .ref 25), (1, .int m), (2, .int o)], [], hq g c1 c2 c3 c4 c5 c6 c7 c8 c9 c10 c11 c12 c13 c14 c15 c16 c17 c18 c19 c20 c21 c22 c23 c24 (hc25 mTy mTm mMn mFn mRn mTn mVn mLr mTr mFl mFm mFp mSc mMp mEn) (hc26 mPa) (hc27 mTo) (hc28 mOt) (hc29 mNa) (hc30 mRe) (hc31 mMa) (hc32 mMy) (hc33 mPm) (hc34 mFy) (hc35 mFa) (hc36 mFr) (hc37 mFo) (hc38 mRt) (hc39 mRm) (hc40 mTt) (hc41 mTi) (hc42 mPl) (hc43 mVr) (hc44 mVf) (hc45 mVc) (hc46 mAr) (hc47 mTc) (hc48 mFt) (hc49 mGo) dyn, 0, 0)) rfl (fun h2 => ?_) (fun h2 => ?_)
  ·
    have h2 := qT_ne (cx := (mMy (m).toNatClampNeg).toInt) (cy := (mMy (o).toNatClampNeg).toInt) rfl rfl h2
    refine pm_go (g := (35, _, [.int 0], _, 0, 0)) rfl ?_
    refine pm_go (g := (36, [(3, .int 0), (0, .ref 25), (1, .int m), (2, .int o)], [], _, 0, 0)) rfl ?_
    refine pm_go (g := (37, _, [.int 0], _, 0, 0)) rfl ?_
    refine pm_go (g := (39, [(4, .int 0), (3, .int 0), (0, .ref 25), (1, .int m), (2, .int o)], [], _, 0, 0)) rfl ?_
    refine pm_go (g := (40, _, [.int 0], _, 0, 0)) rfl ?_
    refine pm_brT (g := (91, [(4, .int 0), (3, .int 0), (0, .ref 25), (1, .int m), (2, .int o)], [], hq g c1 c2 c3 c4 c5 c6 c7 c8 c9 c10 c11 c12 c13 c14 c15 c16 c17 c18 c19 c20 c21 c22 c23 c24 (hc25 mTy mTm mMn mFn mRn mTn mVn mLr mTr mFl mFm mFp mSc mMp mEn) (hc26 mPa) (hc27 mTo) (hc28 mOt) (hc29 mNa) (hc30 mRe) (hc31 mMa) (hc32 mMy) (hc33 mPm) (hc34 mFy) (hc35 mFa) (hc36 mFr) (hc37 mFo) (hc38 mRt) (hc39 mRm) (hc40 mTt) (hc41 mTi) (hc42 mPl) (hc43 mVr) (hc44 mVf) (hc45 mVc) (hc46 mAr) (hc47 mTc) (hc48 mFt) (hc49 mGo) dyn, 0, 0)) rfl ?_
    refine pm_go (g := (92, _, [.int 0], _, 0, 0)) rfl ?_
    exact pm_ret rfl (k1 (fun q => by have e1 := congrArg Int32.toInt q.1; have e2 := congrArg Int32.toInt q.2.1; omega))
  have h2 := qF_ne (cx := (mMy (m).toNatClampNeg).toInt) (cy := (mMy (o).toNatClampNeg).toInt) rfl rfl h2
  refine pm_go (g := (31, [(0, .ref 25), (1, .int m), (2, .int o)], [.int 1], _, 0, 0)) rfl ?_
  refine pm_go (g := (35, _, [.int 1], _, 0, 0)) rfl ?_
  refine pm_go (g := (36, [(3, .int 1), (0, .ref 25), (1, .int m), (2, .int o)], [], _, 0, 0)) rfl ?_
  refine pm_go (g := (37, _, [.int 0], _, 0, 0)) rfl ?_
  refine pm_go (g := (39, [(4, .int 0), (3, .int 1), (0, .ref 25), (1, .int m), (2, .int o)], [], _, 0, 0)) rfl ?_
  exact w_isSame_loop m o p0 p1 p2 4 0 (by omega) (by omega) (fun h => k0 ⟨xJ (by omega), xJ (by omega), h⟩) (fun h => k1 (fun q => h q.2.2))
/-- o stands in the way of m, as c sees it -/
def ovM (pa ot na my pm : Nat → Int32) (c m o : Int32) : Prop := (ot o.toNatClampNeg).toInt ≠ (ot m.toNatClampNeg).toInt ∧ uM pa c (ot o.toNatClampNeg) = true ∧ uM pa (ot o.toNatClampNeg) (ot m.toNatClampNeg) = true ∧ smM na my pm o m
/-- the type that a row stands for -/
def cM (t : Int32) : Int32 := if 20 ≤ t.toInt then 0 else t
/-- the reference's isHad -/
def hadM (pa ot na my pm : Nat → Int32) (mn t m : Int32) : Prop := ((ot m.toNatClampNeg).toInt = (cM t).toInt ∧ ((na m.toNatClampNeg).toInt ≠ 6 ∨ (cM t).toInt = t.toInt)) ∨ ((ot m.toNatClampNeg).toInt ≠ (cM t).toInt ∧ (na m.toNatClampNeg).toInt ≠ 6 ∧ uM pa (cM t) (ot m.toNatClampNeg) = true ∧ ∀ j : Nat, (j : Int) < mn.toInt → ¬ ovM pa ot na my pm (cM t) m (nI j))
theorem cM_1 {t : Int32} (h : 20 ≤ t.toInt) : cM t = 0 := by unfold cM; rw [if_pos h]
theorem cM_2 {t : Int32} (h : t.toInt < 20) : cM t = t := by unfold cM; rw [if_neg (by omega)]
set_option maxRecDepth 100000 in
set_option maxHeartbeats 4000000 in
theorem w_isHad_loop {g c1 c2 c3 c4 c5 c6 c7 c8 c9 c10 c11 c12 c13 c14 c15 c16 c17 c18 c19 c20 c21 c22 c23 c24 : pm_C} {dyn : pm_H} {mTy : Int32} {mPa : Nat → Int32} {mTo : Nat → Int32} {mTm : Int32} {mMn : Int32} {mOt : Nat → Int32} {mNa : Nat → Int32} {mRe : Nat → Int32} {mMa : Nat → Int32} {mMy : Nat → Int32} {mPm : Nat → Int32} {mFn : Int32} {mFy : Nat → Int32} {mFa : Nat → Int32} {mFr : Nat → Int32} {mRn : Int32} {mFo : Nat → Int32} {mRt : Nat → Int32} {mRm : Nat → Int32} {mTn : Int32} {mTt : Nat → Int32} {mTi : Nat → Int32} {mPl : Nat → Int32} {mVn : Int32} {mVr : Nat → Int32} {mVf : Nat → Int32} {mVc : Nat → Int32} {mAr : Nat → Int32} {mLr : Int32} {mTc : Nat → Int32} {mTr : Int32} {mFl : Int32} {mFt : Nat → Int32} {mFm : Int32} {mFp : Int32} {mSc : Int32} {mMp : Int32} {mEn : Int32} {mGo : Nat → Int32} {Q : pm_Q} (t m c : Int32) (hm : 0 ≤ m.toInt ∧ m.toInt < 40) (hp : paD mPa) (hy : myD mMy) (hn : 0 ≤ mMn.toInt ∧ mMn.toInt ≤ 40) : ∀ (n k : Nat), (k ≤ 40) → (40 < k + n) → ((∀ j : Nat, k ≤ j → (j : Int) < mMn.toInt → ¬ ovM mPa mOt mNa mMy mPm c m (nI j)) → Q (some (.int 1)) (hq g c1 c2 c3 c4 c5 c6 c7 c8 c9 c10 c11 c12 c13 c14 c15 c16 c17 c18 c19 c20 c21 c22 c23 c24 (hc25 mTy mTm mMn mFn mRn mTn mVn mLr mTr mFl mFm mFp mSc mMp mEn) (hc26 mPa) (hc27 mTo) (hc28 mOt) (hc29 mNa) (hc30 mRe) (hc31 mMa) (hc32 mMy) (hc33 mPm) (hc34 mFy) (hc35 mFa) (hc36 mFr) (hc37 mFo) (hc38 mRt) (hc39 mRm) (hc40 mTt) (hc41 mTi) (hc42 mPl) (hc43 mVr) (hc44 mVf) (hc45 mVc) (hc46 mAr) (hc47 mTc) (hc48 mFt) (hc49 mGo) dyn)) → ((∃ j : Nat, k ≤ j ∧ (j : Int) < mMn.toInt ∧ ovM mPa mOt mNa mMy mPm c m (nI j)) → Q (some (.int 0)) (hq g c1 c2 c3 c4 c5 c6 c7 c8 c9 c10 c11 c12 c13 c14 c15 c16 c17 c18 c19 c20 c21 c22 c23 c24 (hc25 mTy mTm mMn mFn mRn mTn mVn mLr mTr mFl mFm mFp mSc mMp mEn) (hc26 mPa) (hc27 mTo) (hc28 mOt) (hc29 mNa) (hc30 mRe) (hc31 mMa) (hc32 mMy) (hc33 mPm) (hc34 mFy) (hc35 mFa) (hc36 mFr) (hc37 mFo) (hc38 mRt) (hc39 mRm) (hc40 mTt) (hc41 mTi) (hc42 mPl) (hc43 mVr) (hc44 mVf) (hc45 mVc) (hc46 mAr) (hc47 mTc) (hc48 mFt) (hc49 mGo) dyn)) → pm_WP 143 (74, [(4, .int (nI k)), (3, .int c), (0, .ref 25), (1, .int t), (2, .int m)], [], hq g c1 c2 c3 c4 c5 c6 c7 c8 c9 c10 c11 c12 c13 c14 c15 c16 c17 c18 c19 c20 c21 c22 c23 c24 (hc25 mTy mTm mMn mFn mRn mTn mVn mLr mTr mFl mFm mFp mSc mMp mEn) (hc26 mPa) (hc27 mTo) (hc28 mOt) (hc29 mNa) (hc30 mRe) (hc31 mMa) (hc32 mMy) (hc33 mPm) (hc34 mFy) (hc35 mFa) (hc36 mFr) (hc37 mFo) (hc38 mRt) (hc39 mRm) (hc40 mTt) (hc41 mTi) (hc42 mPl) (hc43 mVr) (hc44 mVf) (hc45 mVc) (hc46 mAr) (hc47 mTc) (hc48 mFt) (hc49 mGo) dyn, 0, 0) Q := by
  intro n
  induction n with
  | zero =>
    intro k g1 g2 k0 k1
    exfalso; omega
  | succ n ih =>
    intro k g1 g2 k0 k1
    have hk := nI_toInt (n := k) (by omega)
    have hkc : (nI k).toNatClampNeg = k := nI_clamp (by omega)
    refine pm_go (g := (76, [(4, .int (nI k)), (3, .int c), (0, .ref 25), (1, .int t), (2, .int m)], [.int (nI k)], hq g c1 c2 c3 c4 c5 c6 c7 c8 c9 c10 c11 c12 c13 c14 c15 c16 c17 c18 c19 c20 c21 c22 c23 c24 (hc25 mTy mTm mMn mFn mRn mTn mVn mLr mTr mFl mFm mFp mSc mMp mEn) (hc26 mPa) (hc27 mTo) (hc28 mOt) (hc29 mNa) (hc30 mRe) (hc31 mMa) (hc32 mMy) (hc33 mPm) (hc34 mFy) (hc35 mFa) (hc36 mFr) (hc37 mFo) (hc38 mRt) (hc39 mRm) (hc40 mTt) (hc41 mTi) (hc42 mPl) (hc43 mVr) (hc44 mVf) (hc45 mVc) (hc46 mAr) (hc47 mTc) (hc48 mFt) (hc49 mGo) dyn, 0, 0)) rfl ?_
    refine pm_go (g := (77, _, [.ref 25, .int (nI k)], _, 0, 0)) rfl ?_
    refine pm_go (g := (80, _, [.int mMn, .int (nI k)], _, 0, 0)) rfl ?_
    refine pm_if2 (g := (152, [(4, .int (nI k)), (3, .int c), (0, .ref 25), (1, .int t), (2, .int m)], [], hq g c1 c2 c3 c4 c5 c6 c7 c8 c9 c10 c11 c12 c13 c14 c15 c16 c17 c18 c19 c20 c21 c22 c23 c24 (hc25 mTy mTm mMn mFn mRn mTn mVn mLr mTr mFl mFm mFp mSc mMp mEn) (hc26 mPa) (hc27 mTo) (hc28 mOt) (hc29 mNa) (hc30 mRe) (hc31 mMa) (hc32 mMy) (hc33 mPm) (hc34 mFy) (hc35 mFa) (hc36 mFr) (hc37 mFo) (hc38 mRt) (hc39 mRm) (hc40 mTt) (hc41 mTi) (hc42 mPl) (hc43 mVr) (hc44 mVf) (hc45 mVc) (hc46 mAr) (hc47 mTc) (hc48 mFt) (hc49 mGo) dyn, 0, 0)) (h := (83, [(4, .int (nI k)), (3, .int c), (0, .ref 25), (1, .int t), (2, .int m)], [], hq g c1 c2 c3 c4 c5 c6 c7 c8 c9 c10 c11 c12 c13 c14 c15 c16 c17 c18 c19 c20 c21 c22 c23 c24 (hc25 mTy mTm mMn mFn mRn mTn mVn mLr mTr mFl mFm mFp mSc mMp mEn) (hc26 mPa) (hc27 mTo) (hc28 mOt) (hc29 mNa) (hc30 mRe) (hc31 mMa) (hc32 mMy) (hc33 mPm) (hc34 mFy) (hc35 mFa) (hc36 mFr) (hc37 mFo) (hc38 mRt) (hc39 mRm) (hc40 mTt) (hc41 mTi) (hc42 mPl) (hc43 mVr) (hc44 mVf) (hc45 mVc) (hc46 mAr) (hc47 mTc) (hc48 mFt) (hc49 mGo) dyn, 0, 0)) rfl (fun h1 => ?_) (fun h1 => ?_)
    ·
      have h1 := qT_ge (cx := (nI k).toInt) (cy := (mMn).toInt) rfl rfl h1
      refine pm_go (g := (153, _, [.int 1], _, 0, 0)) rfl ?_
      exact pm_ret rfl (k0 (fun j g1 g2 => absurd g2 (by omega)))
    have h1 := qF_ge (cx := (nI k).toInt) (cy := (mMn).toInt) rfl rfl h1
    refine pm_go (g := (84, _, [.ref 25], _, 0, 0)) rfl ?_
    refine pm_go (g := (87, _, [.ref 28], _, 0, 0)) rfl ?_
    refine pm_go (g := (89, _, [.int (nI k), .ref 28], _, 0, 0)) rfl ?_
    refine pm_sd (g := (90, _, [.int (mOt (nI k).toNatClampNeg)], _, 0, 0)) rfl (pm_inI (by omega) (by omega)) ?_
    refine pm_go (g := (91, _, [.ref 25, .int (mOt (nI k).toNatClampNeg)], _, 0, 0)) rfl ?_
    refine pm_go (g := (94, _, [.ref 28, .int (mOt (nI k).toNatClampNeg)], _, 0, 0)) rfl ?_
    refine pm_go (g := (95, _, [.int m, .ref 28, .int (mOt (nI k).toNatClampNeg)], _, 0, 0)) rfl ?_
    refine pm_sd (g := (96, _, [.int (mOt (m).toNatClampNeg), .int (mOt (nI k).toNatClampNeg)], _, 0, 0)) rfl (pm_inI (by omega) (by omega)) ?_
    refine pm_if2 (g := (146, [(4, .int (nI k)), (3, .int c), (0, .ref 25), (1, .int t), (2, .int m)], [], hq g c1 c2 c3 c4 c5 c6 c7 c8 c9 c10 c11 c12 c13 c14 c15 c16 c17 c18 c19 c20 c21 c22 c23 c24 (hc25 mTy mTm mMn mFn mRn mTn mVn mLr mTr mFl mFm mFp mSc mMp mEn) (hc26 mPa) (hc27 mTo) (hc28 mOt) (hc29 mNa) (hc30 mRe) (hc31 mMa) (hc32 mMy) (hc33 mPm) (hc34 mFy) (hc35 mFa) (hc36 mFr) (hc37 mFo) (hc38 mRt) (hc39 mRm) (hc40 mTt) (hc41 mTi) (hc42 mPl) (hc43 mVr) (hc44 mVf) (hc45 mVc) (hc46 mAr) (hc47 mTc) (hc48 mFt) (hc49 mGo) dyn, 0, 0)) (h := (99, [(4, .int (nI k)), (3, .int c), (0, .ref 25), (1, .int t), (2, .int m)], [], hq g c1 c2 c3 c4 c5 c6 c7 c8 c9 c10 c11 c12 c13 c14 c15 c16 c17 c18 c19 c20 c21 c22 c23 c24 (hc25 mTy mTm mMn mFn mRn mTn mVn mLr mTr mFl mFm mFp mSc mMp mEn) (hc26 mPa) (hc27 mTo) (hc28 mOt) (hc29 mNa) (hc30 mRe) (hc31 mMa) (hc32 mMy) (hc33 mPm) (hc34 mFy) (hc35 mFa) (hc36 mFr) (hc37 mFo) (hc38 mRt) (hc39 mRm) (hc40 mTt) (hc41 mTi) (hc42 mPl) (hc43 mVr) (hc44 mVf) (hc45 mVc) (hc46 mAr) (hc47 mTc) (hc48 mFt) (hc49 mGo) dyn, 0, 0)) rfl (fun h2 => ?_) (fun h2 => ?_)
    ·
      have h2 := qT_eq (cx := (mOt (nI k).toNatClampNeg).toInt) (cy := (mOt (m).toNatClampNeg).toInt) rfl rfl h2
      refine pm_go (g := (149, [(4, .int ((nI k) + 1)), (3, .int c), (0, .ref 25), (1, .int t), (2, .int m)], [], _, 0, 0)) rfl ?_
      refine pm_go (g := (74, _, [], _, 0, 0)) rfl ?_
      rw [nI_1]
      refine ih (k + 1) (by omega) (by omega) (fun h => k0 (fun j g1 g2 => ?_)) (fun h => k1 (by obtain ⟨j, q1, q2, q3⟩ := h; exact ⟨j, by omega, q2, q3⟩))
      rcases Nat.eq_or_lt_of_le g1 with e9 | e9
      · subst e9; rintro ⟨q1, q2, q3, q4⟩; first | omega | (simp_all; done)
      · exact h j e9 g2
    have h2 := qF_eq (cx := (mOt (nI k).toNatClampNeg).toInt) (cy := (mOt (m).toNatClampNeg).toInt) rfl rfl h2
    refine pm_go (g := (100, [(4, .int (nI k)), (3, .int c), (0, .ref 25), (1, .int t), (2, .int m)], [.ref 25], _, 0, 0)) rfl ?_
    refine pm_go (g := (101, _, [.int c, .ref 25], _, 0, 0)) rfl ?_
    refine pm_go (g := (102, _, [.ref 25, .int c, .ref 25], _, 0, 0)) rfl ?_
    refine pm_go (g := (105, _, [.ref 28, .int c, .ref 25], _, 0, 0)) rfl ?_
    refine pm_go (g := (107, _, [.int (nI k), .ref 28, .int c, .ref 25], _, 0, 0)) rfl ?_
    refine pm_sd (g := (108, _, [.int (mOt (nI k).toNatClampNeg), .int c, .ref 25], _, 0, 0)) rfl (pm_inI (by omega) (by omega)) ?_
    refine pm_callD (z := 132) (as := [.ref 25, .int c, .int (mOt (nI k).toNatClampNeg)]) (rest := []) rfl ?_
    refine w_X12_isUnder c (mOt (nI k).toNatClampNeg) (by assumption) (fun h3 => ?_) (fun h4 => ?_)
    ·
      show pm_WP 143 (111, [(4, .int (nI k)), (3, .int c), (0, .ref 25), (1, .int t), (2, .int m)], [.int 1], _, 0, 0) _
      refine pm_brF (h := (114, [(4, .int (nI k)), (3, .int c), (0, .ref 25), (1, .int t), (2, .int m)], [], hq g c1 c2 c3 c4 c5 c6 c7 c8 c9 c10 c11 c12 c13 c14 c15 c16 c17 c18 c19 c20 c21 c22 c23 c24 (hc25 mTy mTm mMn mFn mRn mTn mVn mLr mTr mFl mFm mFp mSc mMp mEn) (hc26 mPa) (hc27 mTo) (hc28 mOt) (hc29 mNa) (hc30 mRe) (hc31 mMa) (hc32 mMy) (hc33 mPm) (hc34 mFy) (hc35 mFa) (hc36 mFr) (hc37 mFo) (hc38 mRt) (hc39 mRm) (hc40 mTt) (hc41 mTi) (hc42 mPl) (hc43 mVr) (hc44 mVf) (hc45 mVc) (hc46 mAr) (hc47 mTc) (hc48 mFt) (hc49 mGo) dyn, 0, 0)) rfl ?_
      refine pm_go (g := (115, _, [.ref 25], _, 0, 0)) rfl ?_
      refine pm_go (g := (116, _, [.ref 25, .ref 25], _, 0, 0)) rfl ?_
      refine pm_go (g := (119, _, [.ref 28, .ref 25], _, 0, 0)) rfl ?_
      refine pm_go (g := (121, _, [.int (nI k), .ref 28, .ref 25], _, 0, 0)) rfl ?_
      refine pm_sd (g := (122, _, [.int (mOt (nI k).toNatClampNeg), .ref 25], _, 0, 0)) rfl (pm_inI (by omega) (by omega)) ?_
      refine pm_go (g := (123, _, [.ref 25, .int (mOt (nI k).toNatClampNeg), .ref 25], _, 0, 0)) rfl ?_
      refine pm_go (g := (126, _, [.ref 28, .int (mOt (nI k).toNatClampNeg), .ref 25], _, 0, 0)) rfl ?_
      refine pm_go (g := (127, _, [.int m, .ref 28, .int (mOt (nI k).toNatClampNeg), .ref 25], _, 0, 0)) rfl ?_
      refine pm_sd (g := (128, _, [.int (mOt (m).toNatClampNeg), .int (mOt (nI k).toNatClampNeg), .ref 25], _, 0, 0)) rfl (pm_inI (by omega) (by omega)) ?_
      refine pm_callD (z := 132) (as := [.ref 25, .int (mOt (nI k).toNatClampNeg), .int (mOt (m).toNatClampNeg)]) (rest := []) rfl ?_
      refine w_X12_isUnder (mOt (nI k).toNatClampNeg) (mOt (m).toNatClampNeg) (by assumption) (fun h6 => ?_) (fun h7 => ?_)
      ·
        show pm_WP 143 (131, [(4, .int (nI k)), (3, .int c), (0, .ref 25), (1, .int t), (2, .int m)], [.int 1], _, 0, 0) _
        refine pm_brF (h := (134, [(4, .int (nI k)), (3, .int c), (0, .ref 25), (1, .int t), (2, .int m)], [], hq g c1 c2 c3 c4 c5 c6 c7 c8 c9 c10 c11 c12 c13 c14 c15 c16 c17 c18 c19 c20 c21 c22 c23 c24 (hc25 mTy mTm mMn mFn mRn mTn mVn mLr mTr mFl mFm mFp mSc mMp mEn) (hc26 mPa) (hc27 mTo) (hc28 mOt) (hc29 mNa) (hc30 mRe) (hc31 mMa) (hc32 mMy) (hc33 mPm) (hc34 mFy) (hc35 mFa) (hc36 mFr) (hc37 mFo) (hc38 mRt) (hc39 mRm) (hc40 mTt) (hc41 mTi) (hc42 mPl) (hc43 mVr) (hc44 mVf) (hc45 mVc) (hc46 mAr) (hc47 mTc) (hc48 mFt) (hc49 mGo) dyn, 0, 0)) rfl ?_
        refine pm_go (g := (135, _, [.ref 25], _, 0, 0)) rfl ?_
        refine pm_go (g := (137, _, [.int (nI k), .ref 25], _, 0, 0)) rfl ?_
        refine pm_go (g := (138, _, [.int m, .int (nI k), .ref 25], _, 0, 0)) rfl ?_
        refine pm_callD (z := 140) (as := [.ref 25, .int (nI k), .int m]) (rest := []) rfl ?_
        refine w_X12_isSame (nI k) m (by omega) (by omega) (by assumption) (fun h9 => ?_) (fun h10 => ?_)
        ·
          show pm_WP 143 (141, [(4, .int (nI k)), (3, .int c), (0, .ref 25), (1, .int t), (2, .int m)], [.int 1], _, 0, 0) _
          refine pm_brF (h := (144, [(4, .int (nI k)), (3, .int c), (0, .ref 25), (1, .int t), (2, .int m)], [], hq g c1 c2 c3 c4 c5 c6 c7 c8 c9 c10 c11 c12 c13 c14 c15 c16 c17 c18 c19 c20 c21 c22 c23 c24 (hc25 mTy mTm mMn mFn mRn mTn mVn mLr mTr mFl mFm mFp mSc mMp mEn) (hc26 mPa) (hc27 mTo) (hc28 mOt) (hc29 mNa) (hc30 mRe) (hc31 mMa) (hc32 mMy) (hc33 mPm) (hc34 mFy) (hc35 mFa) (hc36 mFr) (hc37 mFo) (hc38 mRt) (hc39 mRm) (hc40 mTt) (hc41 mTi) (hc42 mPl) (hc43 mVr) (hc44 mVf) (hc45 mVc) (hc46 mAr) (hc47 mTc) (hc48 mFt) (hc49 mGo) dyn, 0, 0)) rfl ?_
          refine pm_go (g := (145, _, [.int 0], _, 0, 0)) rfl ?_
          exact pm_ret rfl (k1 ⟨k, Nat.le_refl k, by omega, by omega, by assumption, by assumption, by assumption⟩)
        show pm_WP 143 (141, [(4, .int (nI k)), (3, .int c), (0, .ref 25), (1, .int t), (2, .int m)], [.int 0], hq g c1 c2 c3 c4 c5 c6 c7 c8 c9 c10 c11 c12 c13 c14 c15 c16 c17 c18 c19 c20 c21 c22 c23 c24 (hc25 mTy mTm mMn mFn mRn mTn mVn mLr mTr mFl mFm mFp mSc mMp mEn) (hc26 mPa) (hc27 mTo) (hc28 mOt) (hc29 mNa) (hc30 mRe) (hc31 mMa) (hc32 mMy) (hc33 mPm) (hc34 mFy) (hc35 mFa) (hc36 mFr) (hc37 mFo) (hc38 mRt) (hc39 mRm) (hc40 mTt) (hc41 mTi) (hc42 mPl) (hc43 mVr) (hc44 mVf) (hc45 mVc) (hc46 mAr) (hc47 mTc) (hc48 mFt) (hc49 mGo) dyn, 0, 0) _
        refine pm_brT (g := (146, [(4, .int (nI k)), (3, .int c), (0, .ref 25), (1, .int t), (2, .int m)], [], hq g c1 c2 c3 c4 c5 c6 c7 c8 c9 c10 c11 c12 c13 c14 c15 c16 c17 c18 c19 c20 c21 c22 c23 c24 (hc25 mTy mTm mMn mFn mRn mTn mVn mLr mTr mFl mFm mFp mSc mMp mEn) (hc26 mPa) (hc27 mTo) (hc28 mOt) (hc29 mNa) (hc30 mRe) (hc31 mMa) (hc32 mMy) (hc33 mPm) (hc34 mFy) (hc35 mFa) (hc36 mFr) (hc37 mFo) (hc38 mRt) (hc39 mRm) (hc40 mTt) (hc41 mTi) (hc42 mPl) (hc43 mVr) (hc44 mVf) (hc45 mVc) (hc46 mAr) (hc47 mTc) (hc48 mFt) (hc49 mGo) dyn, 0, 0)) rfl ?_
        refine pm_go (g := (149, [(4, .int ((nI k) + 1)), (3, .int c), (0, .ref 25), (1, .int t), (2, .int m)], [], _, 0, 0)) rfl ?_
        refine pm_go (g := (74, _, [], _, 0, 0)) rfl ?_
        rw [nI_1]
        refine ih (k + 1) (by omega) (by omega) (fun h => k0 (fun j g1 g2 => ?_)) (fun h => k1 (by obtain ⟨j, q1, q2, q3⟩ := h; exact ⟨j, by omega, q2, q3⟩))
        rcases Nat.eq_or_lt_of_le g1 with e9 | e9
        · subst e9; rintro ⟨q1, q2, q3, q4⟩; first | omega | (simp_all; done)
        · exact h j e9 g2
      show pm_WP 143 (131, [(4, .int (nI k)), (3, .int c), (0, .ref 25), (1, .int t), (2, .int m)], [.int 0], hq g c1 c2 c3 c4 c5 c6 c7 c8 c9 c10 c11 c12 c13 c14 c15 c16 c17 c18 c19 c20 c21 c22 c23 c24 (hc25 mTy mTm mMn mFn mRn mTn mVn mLr mTr mFl mFm mFp mSc mMp mEn) (hc26 mPa) (hc27 mTo) (hc28 mOt) (hc29 mNa) (hc30 mRe) (hc31 mMa) (hc32 mMy) (hc33 mPm) (hc34 mFy) (hc35 mFa) (hc36 mFr) (hc37 mFo) (hc38 mRt) (hc39 mRm) (hc40 mTt) (hc41 mTi) (hc42 mPl) (hc43 mVr) (hc44 mVf) (hc45 mVc) (hc46 mAr) (hc47 mTc) (hc48 mFt) (hc49 mGo) dyn, 0, 0) _
      refine pm_brT (g := (146, [(4, .int (nI k)), (3, .int c), (0, .ref 25), (1, .int t), (2, .int m)], [], hq g c1 c2 c3 c4 c5 c6 c7 c8 c9 c10 c11 c12 c13 c14 c15 c16 c17 c18 c19 c20 c21 c22 c23 c24 (hc25 mTy mTm mMn mFn mRn mTn mVn mLr mTr mFl mFm mFp mSc mMp mEn) (hc26 mPa) (hc27 mTo) (hc28 mOt) (hc29 mNa) (hc30 mRe) (hc31 mMa) (hc32 mMy) (hc33 mPm) (hc34 mFy) (hc35 mFa) (hc36 mFr) (hc37 mFo) (hc38 mRt) (hc39 mRm) (hc40 mTt) (hc41 mTi) (hc42 mPl) (hc43 mVr) (hc44 mVf) (hc45 mVc) (hc46 mAr) (hc47 mTc) (hc48 mFt) (hc49 mGo) dyn, 0, 0)) rfl ?_
      refine pm_go (g := (149, [(4, .int ((nI k) + 1)), (3, .int c), (0, .ref 25), (1, .int t), (2, .int m)], [], _, 0, 0)) rfl ?_
      refine pm_go (g := (74, _, [], _, 0, 0)) rfl ?_
      rw [nI_1]
      refine ih (k + 1) (by omega) (by omega) (fun h => k0 (fun j g1 g2 => ?_)) (fun h => k1 (by obtain ⟨j, q1, q2, q3⟩ := h; exact ⟨j, by omega, q2, q3⟩))
      rcases Nat.eq_or_lt_of_le g1 with e9 | e9
      · subst e9; rintro ⟨q1, q2, q3, q4⟩; first | omega | (simp_all; done)
      · exact h j e9 g2
    show pm_WP 143 (111, [(4, .int (nI k)), (3, .int c), (0, .ref 25), (1, .int t), (2, .int m)], [.int 0], hq g c1 c2 c3 c4 c5 c6 c7 c8 c9 c10 c11 c12 c13 c14 c15 c16 c17 c18 c19 c20 c21 c22 c23 c24 (hc25 mTy mTm mMn mFn mRn mTn mVn mLr mTr mFl mFm mFp mSc mMp mEn) (hc26 mPa) (hc27 mTo) (hc28 mOt) (hc29 mNa) (hc30 mRe) (hc31 mMa) (hc32 mMy) (hc33 mPm) (hc34 mFy) (hc35 mFa) (hc36 mFr) (hc37 mFo) (hc38 mRt) (hc39 mRm) (hc40 mTt) (hc41 mTi) (hc42 mPl) (hc43 mVr) (hc44 mVf) (hc45 mVc) (hc46 mAr) (hc47 mTc) (hc48 mFt) (hc49 mGo) dyn, 0, 0) _
    refine pm_brT (g := (146, [(4, .int (nI k)), (3, .int c), (0, .ref 25), (1, .int t), (2, .int m)], [], hq g c1 c2 c3 c4 c5 c6 c7 c8 c9 c10 c11 c12 c13 c14 c15 c16 c17 c18 c19 c20 c21 c22 c23 c24 (hc25 mTy mTm mMn mFn mRn mTn mVn mLr mTr mFl mFm mFp mSc mMp mEn) (hc26 mPa) (hc27 mTo) (hc28 mOt) (hc29 mNa) (hc30 mRe) (hc31 mMa) (hc32 mMy) (hc33 mPm) (hc34 mFy) (hc35 mFa) (hc36 mFr) (hc37 mFo) (hc38 mRt) (hc39 mRm) (hc40 mTt) (hc41 mTi) (hc42 mPl) (hc43 mVr) (hc44 mVf) (hc45 mVc) (hc46 mAr) (hc47 mTc) (hc48 mFt) (hc49 mGo) dyn, 0, 0)) rfl ?_
    refine pm_go (g := (149, [(4, .int ((nI k) + 1)), (3, .int c), (0, .ref 25), (1, .int t), (2, .int m)], [], _, 0, 0)) rfl ?_
    refine pm_go (g := (74, _, [], _, 0, 0)) rfl ?_
    rw [nI_1]
    refine ih (k + 1) (by omega) (by omega) (fun h => k0 (fun j g1 g2 => ?_)) (fun h => k1 (by obtain ⟨j, q1, q2, q3⟩ := h; exact ⟨j, by omega, q2, q3⟩))
    rcases Nat.eq_or_lt_of_le g1 with e9 | e9
    · subst e9; rintro ⟨q1, q2, q3, q4⟩; first | omega | (simp_all; done)
    · exact h j e9 g2
set_option maxRecDepth 100000 in
set_option maxHeartbeats 4000000 in
theorem w_X12_isHad {g c1 c2 c3 c4 c5 c6 c7 c8 c9 c10 c11 c12 c13 c14 c15 c16 c17 c18 c19 c20 c21 c22 c23 c24 : pm_C} {dyn : pm_H} {mTy : Int32} {mPa : Nat → Int32} {mTo : Nat → Int32} {mTm : Int32} {mMn : Int32} {mOt : Nat → Int32} {mNa : Nat → Int32} {mRe : Nat → Int32} {mMa : Nat → Int32} {mMy : Nat → Int32} {mPm : Nat → Int32} {mFn : Int32} {mFy : Nat → Int32} {mFa : Nat → Int32} {mFr : Nat → Int32} {mRn : Int32} {mFo : Nat → Int32} {mRt : Nat → Int32} {mRm : Nat → Int32} {mTn : Int32} {mTt : Nat → Int32} {mTi : Nat → Int32} {mPl : Nat → Int32} {mVn : Int32} {mVr : Nat → Int32} {mVf : Nat → Int32} {mVc : Nat → Int32} {mAr : Nat → Int32} {mLr : Int32} {mTc : Nat → Int32} {mTr : Int32} {mFl : Int32} {mFt : Nat → Int32} {mFm : Int32} {mFp : Int32} {mSc : Int32} {mMp : Int32} {mEn : Int32} {mGo : Nat → Int32} {Q : pm_Q} (t : Int32) (m : Int32) (p0 : 0 ≤ m.toInt ∧ m.toInt < 40) (p1 : paD mPa) (p2 : myD mMy) (p3 : 0 ≤ mMn.toInt ∧ mMn.toInt ≤ 40) (k0 : hadM mPa mOt mNa mMy mPm mMn t m → Q (some (.int 1)) (hq g c1 c2 c3 c4 c5 c6 c7 c8 c9 c10 c11 c12 c13 c14 c15 c16 c17 c18 c19 c20 c21 c22 c23 c24 (hc25 mTy mTm mMn mFn mRn mTn mVn mLr mTr mFl mFm mFp mSc mMp mEn) (hc26 mPa) (hc27 mTo) (hc28 mOt) (hc29 mNa) (hc30 mRe) (hc31 mMa) (hc32 mMy) (hc33 mPm) (hc34 mFy) (hc35 mFa) (hc36 mFr) (hc37 mFo) (hc38 mRt) (hc39 mRm) (hc40 mTt) (hc41 mTi) (hc42 mPl) (hc43 mVr) (hc44 mVf) (hc45 mVc) (hc46 mAr) (hc47 mTc) (hc48 mFt) (hc49 mGo) dyn)) (k1 : ¬ hadM mPa mOt mNa mMy mPm mMn t m → Q (some (.int 0)) (hq g c1 c2 c3 c4 c5 c6 c7 c8 c9 c10 c11 c12 c13 c14 c15 c16 c17 c18 c19 c20 c21 c22 c23 c24 (hc25 mTy mTm mMn mFn mRn mTn mVn mLr mTr mFl mFm mFp mSc mMp mEn) (hc26 mPa) (hc27 mTo) (hc28 mOt) (hc29 mNa) (hc30 mRe) (hc31 mMa) (hc32 mMy) (hc33 mPm) (hc34 mFy) (hc35 mFa) (hc36 mFr) (hc37 mFo) (hc38 mRt) (hc39 mRm) (hc40 mTt) (hc41 mTi) (hc42 mPl) (hc43 mVr) (hc44 mVf) (hc45 mVc) (hc46 mAr) (hc47 mTc) (hc48 mFt) (hc49 mGo) dyn)) : pm_WP 143 (0, [(0, .ref 25), (1, .int t), (2, .int m)], [], hq g c1 c2 c3 c4 c5 c6 c7 c8 c9 c10 c11 c12 c13 c14 c15 c16 c17 c18 c19 c20 c21 c22 c23 c24 (hc25 mTy mTm mMn mFn mRn mTn mVn mLr mTr mFl mFm mFp mSc mMp mEn) (hc26 mPa) (hc27 mTo) (hc28 mOt) (hc29 mNa) (hc30 mRe) (hc31 mMa) (hc32 mMy) (hc33 mPm) (hc34 mFy) (hc35 mFa) (hc36 mFr) (hc37 mFo) (hc38 mRt) (hc39 mRm) (hc40 mTt) (hc41 mTi) (hc42 mPl) (hc43 mVr) (hc44 mVf) (hc45 mVc) (hc46 mAr) (hc47 mTc) (hc48 mFt) (hc49 mGo) dyn, 0, 0) Q := by
  refine pm_go (g := (1, [(0, .ref 25), (1, .int t), (2, .int m)], [.int t], hq g c1 c2 c3 c4 c5 c6 c7 c8 c9 c10 c11 c12 c13 c14 c15 c16 c17 c18 c19 c20 c21 c22 c23 c24 (hc25 mTy mTm mMn mFn mRn mTn mVn mLr mTr mFl mFm mFp mSc mMp mEn) (hc26 mPa) (hc27 mTo) (hc28 mOt) (hc29 mNa) (hc30 mRe) (hc31 mMa) (hc32 mMy) (hc33 mPm) (hc34 mFy) (hc35 mFa) (hc36 mFr) (hc37 mFo) (hc38 mRt) (hc39 mRm) (hc40 mTt) (hc41 mTi) (hc42 mPl) (hc43 mVr) (hc44 mVf) (hc45 mVc) (hc46 mAr) (hc47 mTc) (hc48 mFt) (hc49 mGo) dyn, 0, 0)) rfl ?_
  refine pm_go (g := (3, _, [.int 20, .int t], _, 0, 0)) rfl ?_
  refine pm_if2 (g := (10, [(0, .ref 25), (1, .int t), (2, .int m)], [], hq g c1 c2 c3 c4 c5 c6 c7 c8 c9 c10 c11 c12 c13 c14 c15 c16 c17 c18 c19 c20 c21 c22 c23 c24 (hc25 mTy mTm mMn mFn mRn mTn mVn mLr mTr mFl mFm mFp mSc mMp mEn) (hc26 mPa) (hc27 mTo) (hc28 mOt) (hc29 mNa) (hc30 mRe) (hc31 mMa) (hc32 mMy) (hc33 mPm) (hc34 mFy) (hc35 mFa) (hc36 mFr) (hc37 mFo) (hc38 mRt) (hc39 mRm) (hc40 mTt) (hc41 mTi) (hc42 mPl) (hc43 mVr) (hc44 mVf) (hc45 mVc) (hc46 mAr) (hc47 mTc) (hc48 mFt) (hc49 mGo) dyn, 0, 0)) (h := (6, [(0, .ref 25), (1, .int t), (2, .int m)], [], hq g c1 c2 c3 c4 c5 c6 c7 c8 c9 c10 c11 c12 c13 c14 c15 c16 c17 c18 c19 c20 c21 c22 c23 c24 (hc25 mTy mTm mMn mFn mRn mTn mVn mLr mTr mFl mFm mFp mSc mMp mEn) (hc26 mPa) (hc27 mTo) (hc28 mOt) (hc29 mNa) (hc30 mRe) (hc31 mMa) (hc32 mMy) (hc33 mPm) (hc34 mFy) (hc35 mFa) (hc36 mFr) (hc37 mFo) (hc38 mRt) (hc39 mRm) (hc40 mTt) (hc41 mTi) (hc42 mPl) (hc43 mVr) (hc44 mVf) (hc45 mVc) (hc46 mAr) (hc47 mTc) (hc48 mFt) (hc49 mGo) dyn, 0, 0)) rfl (fun h1 => ?_) (fun h1 => ?_)
  ·
    have h1 := qT_lt (cx := (t).toInt) (cy := 20) rfl (by decide) h1
    have hc := cM_2 (t := t) (by omega)
    refine pm_go (g := (11, _, [.int t], _, 0, 0)) rfl ?_
    refine pm_go (g := (12, [(3, .int t), (0, .ref 25), (1, .int t), (2, .int m)], [], _, 0, 0)) rfl ?_
    refine pm_go (g := (13, _, [.ref 25], _, 0, 0)) rfl ?_
    refine pm_go (g := (16, _, [.ref 28], _, 0, 0)) rfl ?_
    refine pm_go (g := (17, _, [.int m, .ref 28], _, 0, 0)) rfl ?_
    refine pm_sd (g := (18, _, [.int (mOt (m).toNatClampNeg)], _, 0, 0)) rfl (pm_inI (by omega) (by omega)) ?_
    refine pm_go (g := (19, _, [.int t, .int (mOt (m).toNatClampNeg)], _, 0, 0)) rfl ?_
    refine pm_if2 (g := (44, [(3, .int t), (0, .ref 25), (1, .int t), (2, .int m)], [], hq g c1 c2 c3 c4 c5 c6 c7 c8 c9 c10 c11 c12 c13 c14 c15 c16 c17 c18 c19 c20 c21 c22 c23 c24 (hc25 mTy mTm mMn mFn mRn mTn mVn mLr mTr mFl mFm mFp mSc mMp mEn) (hc26 mPa) (hc27 mTo) (hc28 mOt) (hc29 mNa) (hc30 mRe) (hc31 mMa) (hc32 mMy) (hc33 mPm) (hc34 mFy) (hc35 mFa) (hc36 mFr) (hc37 mFo) (hc38 mRt) (hc39 mRm) (hc40 mTt) (hc41 mTi) (hc42 mPl) (hc43 mVr) (hc44 mVf) (hc45 mVc) (hc46 mAr) (hc47 mTc) (hc48 mFt) (hc49 mGo) dyn, 0, 0)) (h := (22, [(3, .int t), (0, .ref 25), (1, .int t), (2, .int m)], [], hq g c1 c2 c3 c4 c5 c6 c7 c8 c9 c10 c11 c12 c13 c14 c15 c16 c17 c18 c19 c20 c21 c22 c23 c24 (hc25 mTy mTm mMn mFn mRn mTn mVn mLr mTr mFl mFm mFp mSc mMp mEn) (hc26 mPa) (hc27 mTo) (hc28 mOt) (hc29 mNa) (hc30 mRe) (hc31 mMa) (hc32 mMy) (hc33 mPm) (hc34 mFy) (hc35 mFa) (hc36 mFr) (hc37 mFo) (hc38 mRt) (hc39 mRm) (hc40 mTt) (hc41 mTi) (hc42 mPl) (hc43 mVr) (hc44 mVf) (hc45 mVc) (hc46 mAr) (hc47 mTc) (hc48 mFt) (hc49 mGo) dyn, 0, 0)) rfl (fun h2 => ?_) (fun h2 => ?_)
    ·
      have h2 := qT_ne (cx := (mOt (m).toNatClampNeg).toInt) (cy := (t).toInt) rfl rfl h2
      refine pm_go (g := (45, _, [.ref 25], _, 0, 0)) rfl ?_
      refine pm_go (g := (48, _, [.ref 29], _, 0, 0)) rfl ?_
      refine pm_go (g := (49, _, [.int m, .ref 29], _, 0, 0)) rfl ?_
      refine pm_sd (g := (50, _, [.int (mNa (m).toNatClampNeg)], _, 0, 0)) rfl (pm_inI (by omega) (by omega)) ?_
      refine pm_go (g := (52, _, [.int 6, .int (mNa (m).toNatClampNeg)], _, 0, 0)) rfl ?_
      refine pm_if2 (g := (69, [(3, .int t), (0, .ref 25), (1, .int t), (2, .int m)], [], hq g c1 c2 c3 c4 c5 c6 c7 c8 c9 c10 c11 c12 c13 c14 c15 c16 c17 c18 c19 c20 c21 c22 c23 c24 (hc25 mTy mTm mMn mFn mRn mTn mVn mLr mTr mFl mFm mFp mSc mMp mEn) (hc26 mPa) (hc27 mTo) (hc28 mOt) (hc29 mNa) (hc30 mRe) (hc31 mMa) (hc32 mMy) (hc33 mPm) (hc34 mFy) (hc35 mFa) (hc36 mFr) (hc37 mFo) (hc38 mRt) (hc39 mRm) (hc40 mTt) (hc41 mTi) (hc42 mPl) (hc43 mVr) (hc44 mVf) (hc45 mVc) (hc46 mAr) (hc47 mTc) (hc48 mFt) (hc49 mGo) dyn, 0, 0)) (h := (55, [(3, .int t), (0, .ref 25), (1, .int t), (2, .int m)], [], hq g c1 c2 c3 c4 c5 c6 c7 c8 c9 c10 c11 c12 c13 c14 c15 c16 c17 c18 c19 c20 c21 c22 c23 c24 (hc25 mTy mTm mMn mFn mRn mTn mVn mLr mTr mFl mFm mFp mSc mMp mEn) (hc26 mPa) (hc27 mTo) (hc28 mOt) (hc29 mNa) (hc30 mRe) (hc31 mMa) (hc32 mMy) (hc33 mPm) (hc34 mFy) (hc35 mFa) (hc36 mFr) (hc37 mFo) (hc38 mRt) (hc39 mRm) (hc40 mTt) (hc41 mTi) (hc42 mPl) (hc43 mVr) (hc44 mVf) (hc45 mVc) (hc46 mAr) (hc47 mTc) (hc48 mFt) (hc49 mGo) dyn, 0, 0)) rfl (fun h3 => ?_) (fun h3 => ?_)
      ·
        have h3 := qT_eq (cx := (mNa (m).toNatClampNeg).toInt) (cy := 6) rfl (by decide) h3
        refine pm_go (g := (70, _, [.int 0], _, 0, 0)) rfl ?_
        refine pm_ret rfl (k1 ?_)
        unfold hadM; rw [hc]; rintro (⟨r1, r2⟩ | ⟨r1, r2, r3, r4⟩) <;> first | omega | (simp_all; done)
      have h3 := qF_eq (cx := (mNa (m).toNatClampNeg).toInt) (cy := 6) rfl (by decide) h3
      refine pm_go (g := (56, _, [.ref 25], _, 0, 0)) rfl ?_
      refine pm_go (g := (57, _, [.int t, .ref 25], _, 0, 0)) rfl ?_
      refine pm_go (g := (58, _, [.ref 25, .int t, .ref 25], _, 0, 0)) rfl ?_
      refine pm_go (g := (61, _, [.ref 28, .int t, .ref 25], _, 0, 0)) rfl ?_
      refine pm_go (g := (62, _, [.int m, .ref 28, .int t, .ref 25], _, 0, 0)) rfl ?_
      refine pm_sd (g := (63, _, [.int (mOt (m).toNatClampNeg), .int t, .ref 25], _, 0, 0)) rfl (pm_inI (by omega) (by omega)) ?_
      refine pm_callD (z := 132) (as := [.ref 25, .int t, .int (mOt (m).toNatClampNeg)]) (rest := []) rfl ?_
      refine w_X12_isUnder t (mOt (m).toNatClampNeg) (by assumption) (fun h4 => ?_) (fun h5 => ?_)
      ·
        show pm_WP 143 (66, [(3, .int t), (0, .ref 25), (1, .int t), (2, .int m)], [.int 1], _, 0, 0) _
        refine pm_brT (g := (71, [(3, .int t), (0, .ref 25), (1, .int t), (2, .int m)], [], hq g c1 c2 c3 c4 c5 c6 c7 c8 c9 c10 c11 c12 c13 c14 c15 c16 c17 c18 c19 c20 c21 c22 c23 c24 (hc25 mTy mTm mMn mFn mRn mTn mVn mLr mTr mFl mFm mFp mSc mMp mEn) (hc26 mPa) (hc27 mTo) (hc28 mOt) (hc29 mNa) (hc30 mRe) (hc31 mMa) (hc32 mMy) (hc33 mPm) (hc34 mFy) (hc35 mFa) (hc36 mFr) (hc37 mFo) (hc38 mRt) (hc39 mRm) (hc40 mTt) (hc41 mTi) (hc42 mPl) (hc43 mVr) (hc44 mVf) (hc45 mVc) (hc46 mAr) (hc47 mTc) (hc48 mFt) (hc49 mGo) dyn, 0, 0)) rfl ?_
        refine pm_go (g := (72, _, [.int 0], _, 0, 0)) rfl ?_
        refine pm_go (g := (74, [(4, .int 0), (3, .int t), (0, .ref 25), (1, .int t), (2, .int m)], [], _, 0, 0)) rfl ?_
        refine w_isHad_loop t m t p0 p1 p2 p3 41 0 (by omega) (by omega) (fun h => k0 (Or.inr ?_)) (fun h => k1 ?_)
        · rw [hc]; exact ⟨by omega, by omega, by assumption, fun j g => h j (Nat.zero_le j) g⟩
        · obtain ⟨j, q1, q2, q3⟩ := h; rintro (⟨r1, r2⟩ | ⟨r1, r2, r3, r4⟩)
          · rw [hc] at r1; omega
          · rw [hc] at r4; exact r4 j q2 q3
      show pm_WP 143 (66, [(3, .int t), (0, .ref 25), (1, .int t), (2, .int m)], [.int 0], hq g c1 c2 c3 c4 c5 c6 c7 c8 c9 c10 c11 c12 c13 c14 c15 c16 c17 c18 c19 c20 c21 c22 c23 c24 (hc25 mTy mTm mMn mFn mRn mTn mVn mLr mTr mFl mFm mFp mSc mMp mEn) (hc26 mPa) (hc27 mTo) (hc28 mOt) (hc29 mNa) (hc30 mRe) (hc31 mMa) (hc32 mMy) (hc33 mPm) (hc34 mFy) (hc35 mFa) (hc36 mFr) (hc37 mFo) (hc38 mRt) (hc39 mRm) (hc40 mTt) (hc41 mTi) (hc42 mPl) (hc43 mVr) (hc44 mVf) (hc45 mVc) (hc46 mAr) (hc47 mTc) (hc48 mFt) (hc49 mGo) dyn, 0, 0) _
      refine pm_brF (h := (69, [(3, .int t), (0, .ref 25), (1, .int t), (2, .int m)], [], hq g c1 c2 c3 c4 c5 c6 c7 c8 c9 c10 c11 c12 c13 c14 c15 c16 c17 c18 c19 c20 c21 c22 c23 c24 (hc25 mTy mTm mMn mFn mRn mTn mVn mLr mTr mFl mFm mFp mSc mMp mEn) (hc26 mPa) (hc27 mTo) (hc28 mOt) (hc29 mNa) (hc30 mRe) (hc31 mMa) (hc32 mMy) (hc33 mPm) (hc34 mFy) (hc35 mFa) (hc36 mFr) (hc37 mFo) (hc38 mRt) (hc39 mRm) (hc40 mTt) (hc41 mTi) (hc42 mPl) (hc43 mVr) (hc44 mVf) (hc45 mVc) (hc46 mAr) (hc47 mTc) (hc48 mFt) (hc49 mGo) dyn, 0, 0)) rfl ?_
      refine pm_go (g := (70, _, [.int 0], _, 0, 0)) rfl ?_
      refine pm_ret rfl (k1 ?_)
      unfold hadM; rw [hc]; rintro (⟨r1, r2⟩ | ⟨r1, r2, r3, r4⟩) <;> first | omega | (simp_all; done)
    have h2 := qF_ne (cx := (mOt (m).toNatClampNeg).toInt) (cy := (t).toInt) rfl rfl h2
    refine pm_go (g := (23, _, [.ref 25], _, 0, 0)) rfl ?_
    refine pm_go (g := (26, _, [.ref 29], _, 0, 0)) rfl ?_
    refine pm_go (g := (27, _, [.int m, .ref 29], _, 0, 0)) rfl ?_
    refine pm_sd (g := (28, _, [.int (mNa (m).toNatClampNeg)], _, 0, 0)) rfl (pm_inI (by omega) (by omega)) ?_
    refine pm_go (g := (30, _, [.int 6, .int (mNa (m).toNatClampNeg)], _, 0, 0)) rfl ?_
    refine pm_if2 (g := (38, [(3, .int t), (0, .ref 25), (1, .int t), (2, .int m)], [], hq g c1 c2 c3 c4 c5 c6 c7 c8 c9 c10 c11 c12 c13 c14 c15 c16 c17 c18 c19 c20 c21 c22 c23 c24 (hc25 mTy mTm mMn mFn mRn mTn mVn mLr mTr mFl mFm mFp mSc mMp mEn) (hc26 mPa) (hc27 mTo) (hc28 mOt) (hc29 mNa) (hc30 mRe) (hc31 mMa) (hc32 mMy) (hc33 mPm) (hc34 mFy) (hc35 mFa) (hc36 mFr) (hc37 mFo) (hc38 mRt) (hc39 mRm) (hc40 mTt) (hc41 mTi) (hc42 mPl) (hc43 mVr) (hc44 mVf) (hc45 mVc) (hc46 mAr) (hc47 mTc) (hc48 mFt) (hc49 mGo) dyn, 0, 0)) (h := (33, [(3, .int t), (0, .ref 25), (1, .int t), (2, .int m)], [], hq g c1 c2 c3 c4 c5 c6 c7 c8 c9 c10 c11 c12 c13 c14 c15 c16 c17 c18 c19 c20 c21 c22 c23 c24 (hc25 mTy mTm mMn mFn mRn mTn mVn mLr mTr mFl mFm mFp mSc mMp mEn) (hc26 mPa) (hc27 mTo) (hc28 mOt) (hc29 mNa) (hc30 mRe) (hc31 mMa) (hc32 mMy) (hc33 mPm) (hc34 mFy) (hc35 mFa) (hc36 mFr) (hc37 mFo) (hc38 mRt) (hc39 mRm) (hc40 mTt) (hc41 mTi) (hc42 mPl) (hc43 mVr) (hc44 mVf) (hc45 mVc) (hc46 mAr) (hc47 mTc) (hc48 mFt) (hc49 mGo) dyn, 0, 0)) rfl (fun h7 => ?_) (fun h7 => ?_)
    ·
      have h7 := qT_ne (cx := (mNa (m).toNatClampNeg).toInt) (cy := 6) rfl (by decide) h7
      refine pm_go (g := (39, _, [.int 1], _, 0, 0)) rfl ?_
      refine pm_go (g := (43, _, [.int 1], _, 0, 0)) rfl ?_
      exact pm_ret rfl (k0 (Or.inl (by rw [hc]; omega)))
    have h7 := qF_ne (cx := (mNa (m).toNatClampNeg).toInt) (cy := 6) rfl (by decide) h7
    refine pm_go (g := (34, _, [.int t], _, 0, 0)) rfl ?_
    refine pm_go (g := (35, _, [.int t, .int t], _, 0, 0)) rfl ?_
    refine pm_if2 (g := (42, [(3, .int t), (0, .ref 25), (1, .int t), (2, .int m)], [], hq g c1 c2 c3 c4 c5 c6 c7 c8 c9 c10 c11 c12 c13 c14 c15 c16 c17 c18 c19 c20 c21 c22 c23 c24 (hc25 mTy mTm mMn mFn mRn mTn mVn mLr mTr mFl mFm mFp mSc mMp mEn) (hc26 mPa) (hc27 mTo) (hc28 mOt) (hc29 mNa) (hc30 mRe) (hc31 mMa) (hc32 mMy) (hc33 mPm) (hc34 mFy) (hc35 mFa) (hc36 mFr) (hc37 mFo) (hc38 mRt) (hc39 mRm) (hc40 mTt) (hc41 mTi) (hc42 mPl) (hc43 mVr) (hc44 mVf) (hc45 mVc) (hc46 mAr) (hc47 mTc) (hc48 mFt) (hc49 mGo) dyn, 0, 0)) (h := (38, [(3, .int t), (0, .ref 25), (1, .int t), (2, .int m)], [], hq g c1 c2 c3 c4 c5 c6 c7 c8 c9 c10 c11 c12 c13 c14 c15 c16 c17 c18 c19 c20 c21 c22 c23 c24 (hc25 mTy mTm mMn mFn mRn mTn mVn mLr mTr mFl mFm mFp mSc mMp mEn) (hc26 mPa) (hc27 mTo) (hc28 mOt) (hc29 mNa) (hc30 mRe) (hc31 mMa) (hc32 mMy) (hc33 mPm) (hc34 mFy) (hc35 mFa) (hc36 mFr) (hc37 mFo) (hc38 mRt) (hc39 mRm) (hc40 mTt) (hc41 mTi) (hc42 mPl) (hc43 mVr) (hc44 mVf) (hc45 mVc) (hc46 mAr) (hc47 mTc) (hc48 mFt) (hc49 mGo) dyn, 0, 0)) rfl (fun h8 => ?_) (fun h8 => ?_)
    ·
      have h8 := qT_ne (cx := (t).toInt) (cy := (t).toInt) rfl rfl h8
      refine pm_go (g := (43, _, [.int 0], _, 0, 0)) rfl ?_
      refine pm_ret rfl (k1 ?_)
      unfold hadM; rw [hc]; rintro (⟨r1, r2⟩ | ⟨r1, r2, r3, r4⟩) <;> first | omega | (simp_all; done)
    have h8 := qF_ne (cx := (t).toInt) (cy := (t).toInt) rfl rfl h8
    refine pm_go (g := (39, _, [.int 1], _, 0, 0)) rfl ?_
    refine pm_go (g := (43, _, [.int 1], _, 0, 0)) rfl ?_
    exact pm_ret rfl (k0 (Or.inl (by rw [hc]; omega)))
  have h1 := qF_lt (cx := (t).toInt) (cy := 20) rfl (by decide) h1
  have hc := cM_1 (t := t) (by omega)
  have hz0 : (0 : Int32).toInt = 0 := by decide
  refine pm_go (g := (7, [(0, .ref 25), (1, .int t), (2, .int m)], [.int 0], _, 0, 0)) rfl ?_
  refine pm_go (g := (11, _, [.int 0], _, 0, 0)) rfl ?_
  refine pm_go (g := (12, [(3, .int 0), (0, .ref 25), (1, .int t), (2, .int m)], [], _, 0, 0)) rfl ?_
  refine pm_go (g := (13, _, [.ref 25], _, 0, 0)) rfl ?_
  refine pm_go (g := (16, _, [.ref 28], _, 0, 0)) rfl ?_
  refine pm_go (g := (17, _, [.int m, .ref 28], _, 0, 0)) rfl ?_
  refine pm_sd (g := (18, _, [.int (mOt (m).toNatClampNeg)], _, 0, 0)) rfl (pm_inI (by omega) (by omega)) ?_
  refine pm_go (g := (19, _, [.int 0, .int (mOt (m).toNatClampNeg)], _, 0, 0)) rfl ?_
  refine pm_if2 (g := (44, [(3, .int 0), (0, .ref 25), (1, .int t), (2, .int m)], [], hq g c1 c2 c3 c4 c5 c6 c7 c8 c9 c10 c11 c12 c13 c14 c15 c16 c17 c18 c19 c20 c21 c22 c23 c24 (hc25 mTy mTm mMn mFn mRn mTn mVn mLr mTr mFl mFm mFp mSc mMp mEn) (hc26 mPa) (hc27 mTo) (hc28 mOt) (hc29 mNa) (hc30 mRe) (hc31 mMa) (hc32 mMy) (hc33 mPm) (hc34 mFy) (hc35 mFa) (hc36 mFr) (hc37 mFo) (hc38 mRt) (hc39 mRm) (hc40 mTt) (hc41 mTi) (hc42 mPl) (hc43 mVr) (hc44 mVf) (hc45 mVc) (hc46 mAr) (hc47 mTc) (hc48 mFt) (hc49 mGo) dyn, 0, 0)) (h := (22, [(3, .int 0), (0, .ref 25), (1, .int t), (2, .int m)], [], hq g c1 c2 c3 c4 c5 c6 c7 c8 c9 c10 c11 c12 c13 c14 c15 c16 c17 c18 c19 c20 c21 c22 c23 c24 (hc25 mTy mTm mMn mFn mRn mTn mVn mLr mTr mFl mFm mFp mSc mMp mEn) (hc26 mPa) (hc27 mTo) (hc28 mOt) (hc29 mNa) (hc30 mRe) (hc31 mMa) (hc32 mMy) (hc33 mPm) (hc34 mFy) (hc35 mFa) (hc36 mFr) (hc37 mFo) (hc38 mRt) (hc39 mRm) (hc40 mTt) (hc41 mTi) (hc42 mPl) (hc43 mVr) (hc44 mVf) (hc45 mVc) (hc46 mAr) (hc47 mTc) (hc48 mFt) (hc49 mGo) dyn, 0, 0)) rfl (fun h9 => ?_) (fun h9 => ?_)
  ·
    have h9 := qT_ne (cx := (mOt (m).toNatClampNeg).toInt) (cy := 0) rfl (by decide) h9
    refine pm_go (g := (45, _, [.ref 25], _, 0, 0)) rfl ?_
    refine pm_go (g := (48, _, [.ref 29], _, 0, 0)) rfl ?_
    refine pm_go (g := (49, _, [.int m, .ref 29], _, 0, 0)) rfl ?_
    refine pm_sd (g := (50, _, [.int (mNa (m).toNatClampNeg)], _, 0, 0)) rfl (pm_inI (by omega) (by omega)) ?_
    refine pm_go (g := (52, _, [.int 6, .int (mNa (m).toNatClampNeg)], _, 0, 0)) rfl ?_
    refine pm_if2 (g := (69, [(3, .int 0), (0, .ref 25), (1, .int t), (2, .int m)], [], hq g c1 c2 c3 c4 c5 c6 c7 c8 c9 c10 c11 c12 c13 c14 c15 c16 c17 c18 c19 c20 c21 c22 c23 c24 (hc25 mTy mTm mMn mFn mRn mTn mVn mLr mTr mFl mFm mFp mSc mMp mEn) (hc26 mPa) (hc27 mTo) (hc28 mOt) (hc29 mNa) (hc30 mRe) (hc31 mMa) (hc32 mMy) (hc33 mPm) (hc34 mFy) (hc35 mFa) (hc36 mFr) (hc37 mFo) (hc38 mRt) (hc39 mRm) (hc40 mTt) (hc41 mTi) (hc42 mPl) (hc43 mVr) (hc44 mVf) (hc45 mVc) (hc46 mAr) (hc47 mTc) (hc48 mFt) (hc49 mGo) dyn, 0, 0)) (h := (55, [(3, .int 0), (0, .ref 25), (1, .int t), (2, .int m)], [], hq g c1 c2 c3 c4 c5 c6 c7 c8 c9 c10 c11 c12 c13 c14 c15 c16 c17 c18 c19 c20 c21 c22 c23 c24 (hc25 mTy mTm mMn mFn mRn mTn mVn mLr mTr mFl mFm mFp mSc mMp mEn) (hc26 mPa) (hc27 mTo) (hc28 mOt) (hc29 mNa) (hc30 mRe) (hc31 mMa) (hc32 mMy) (hc33 mPm) (hc34 mFy) (hc35 mFa) (hc36 mFr) (hc37 mFo) (hc38 mRt) (hc39 mRm) (hc40 mTt) (hc41 mTi) (hc42 mPl) (hc43 mVr) (hc44 mVf) (hc45 mVc) (hc46 mAr) (hc47 mTc) (hc48 mFt) (hc49 mGo) dyn, 0, 0)) rfl (fun h10 => ?_) (fun h10 => ?_)
    ·
      have h10 := qT_eq (cx := (mNa (m).toNatClampNeg).toInt) (cy := 6) rfl (by decide) h10
      refine pm_go (g := (70, _, [.int 0], _, 0, 0)) rfl ?_
      refine pm_ret rfl (k1 ?_)
      unfold hadM; rw [hc]; rintro (⟨r1, r2⟩ | ⟨r1, r2, r3, r4⟩) <;> first | omega | (simp_all; done)
    have h10 := qF_eq (cx := (mNa (m).toNatClampNeg).toInt) (cy := 6) rfl (by decide) h10
    refine pm_go (g := (56, _, [.ref 25], _, 0, 0)) rfl ?_
    refine pm_go (g := (57, _, [.int 0, .ref 25], _, 0, 0)) rfl ?_
    refine pm_go (g := (58, _, [.ref 25, .int 0, .ref 25], _, 0, 0)) rfl ?_
    refine pm_go (g := (61, _, [.ref 28, .int 0, .ref 25], _, 0, 0)) rfl ?_
    refine pm_go (g := (62, _, [.int m, .ref 28, .int 0, .ref 25], _, 0, 0)) rfl ?_
    refine pm_sd (g := (63, _, [.int (mOt (m).toNatClampNeg), .int 0, .ref 25], _, 0, 0)) rfl (pm_inI (by omega) (by omega)) ?_
    refine pm_callD (z := 132) (as := [.ref 25, .int 0, .int (mOt (m).toNatClampNeg)]) (rest := []) rfl ?_
    have h11 : (0 : Int32).toInt = 0 := by decide
    refine w_X12_isUnder 0 (mOt (m).toNatClampNeg) (by assumption) (fun h12 => ?_) (fun h13 => ?_)
    ·
      show pm_WP 143 (66, [(3, .int 0), (0, .ref 25), (1, .int t), (2, .int m)], [.int 1], _, 0, 0) _
      refine pm_brT (g := (71, [(3, .int 0), (0, .ref 25), (1, .int t), (2, .int m)], [], hq g c1 c2 c3 c4 c5 c6 c7 c8 c9 c10 c11 c12 c13 c14 c15 c16 c17 c18 c19 c20 c21 c22 c23 c24 (hc25 mTy mTm mMn mFn mRn mTn mVn mLr mTr mFl mFm mFp mSc mMp mEn) (hc26 mPa) (hc27 mTo) (hc28 mOt) (hc29 mNa) (hc30 mRe) (hc31 mMa) (hc32 mMy) (hc33 mPm) (hc34 mFy) (hc35 mFa) (hc36 mFr) (hc37 mFo) (hc38 mRt) (hc39 mRm) (hc40 mTt) (hc41 mTi) (hc42 mPl) (hc43 mVr) (hc44 mVf) (hc45 mVc) (hc46 mAr) (hc47 mTc) (hc48 mFt) (hc49 mGo) dyn, 0, 0)) rfl ?_
      refine pm_go (g := (72, _, [.int 0], _, 0, 0)) rfl ?_
      refine pm_go (g := (74, [(4, .int 0), (3, .int 0), (0, .ref 25), (1, .int t), (2, .int m)], [], _, 0, 0)) rfl ?_
      refine w_isHad_loop t m 0 p0 p1 p2 p3 41 0 (by omega) (by omega) (fun h => k0 (Or.inr ?_)) (fun h => k1 ?_)
      · rw [hc]; exact ⟨by omega, by omega, by assumption, fun j g => h j (Nat.zero_le j) g⟩
      · obtain ⟨j, q1, q2, q3⟩ := h; rintro (⟨r1, r2⟩ | ⟨r1, r2, r3, r4⟩)
        · rw [hc] at r1; omega
        · rw [hc] at r4; exact r4 j q2 q3
    show pm_WP 143 (66, [(3, .int 0), (0, .ref 25), (1, .int t), (2, .int m)], [.int 0], hq g c1 c2 c3 c4 c5 c6 c7 c8 c9 c10 c11 c12 c13 c14 c15 c16 c17 c18 c19 c20 c21 c22 c23 c24 (hc25 mTy mTm mMn mFn mRn mTn mVn mLr mTr mFl mFm mFp mSc mMp mEn) (hc26 mPa) (hc27 mTo) (hc28 mOt) (hc29 mNa) (hc30 mRe) (hc31 mMa) (hc32 mMy) (hc33 mPm) (hc34 mFy) (hc35 mFa) (hc36 mFr) (hc37 mFo) (hc38 mRt) (hc39 mRm) (hc40 mTt) (hc41 mTi) (hc42 mPl) (hc43 mVr) (hc44 mVf) (hc45 mVc) (hc46 mAr) (hc47 mTc) (hc48 mFt) (hc49 mGo) dyn, 0, 0) _
    refine pm_brF (h := (69, [(3, .int 0), (0, .ref 25), (1, .int t), (2, .int m)], [], hq g c1 c2 c3 c4 c5 c6 c7 c8 c9 c10 c11 c12 c13 c14 c15 c16 c17 c18 c19 c20 c21 c22 c23 c24 (hc25 mTy mTm mMn mFn mRn mTn mVn mLr mTr mFl mFm mFp mSc mMp mEn) (hc26 mPa) (hc27 mTo) (hc28 mOt) (hc29 mNa) (hc30 mRe) (hc31 mMa) (hc32 mMy) (hc33 mPm) (hc34 mFy) (hc35 mFa) (hc36 mFr) (hc37 mFo) (hc38 mRt) (hc39 mRm) (hc40 mTt) (hc41 mTi) (hc42 mPl) (hc43 mVr) (hc44 mVf) (hc45 mVc) (hc46 mAr) (hc47 mTc) (hc48 mFt) (hc49 mGo) dyn, 0, 0)) rfl ?_
    refine pm_go (g := (70, _, [.int 0], _, 0, 0)) rfl ?_
    refine pm_ret rfl (k1 ?_)
    unfold hadM; rw [hc]; rintro (⟨r1, r2⟩ | ⟨r1, r2, r3, r4⟩) <;> first | omega | (simp_all; done)
  have h9 := qF_ne (cx := (mOt (m).toNatClampNeg).toInt) (cy := 0) rfl (by decide) h9
  refine pm_go (g := (23, _, [.ref 25], _, 0, 0)) rfl ?_
  refine pm_go (g := (26, _, [.ref 29], _, 0, 0)) rfl ?_
  refine pm_go (g := (27, _, [.int m, .ref 29], _, 0, 0)) rfl ?_
  refine pm_sd (g := (28, _, [.int (mNa (m).toNatClampNeg)], _, 0, 0)) rfl (pm_inI (by omega) (by omega)) ?_
  refine pm_go (g := (30, _, [.int 6, .int (mNa (m).toNatClampNeg)], _, 0, 0)) rfl ?_
  refine pm_if2 (g := (38, [(3, .int 0), (0, .ref 25), (1, .int t), (2, .int m)], [], hq g c1 c2 c3 c4 c5 c6 c7 c8 c9 c10 c11 c12 c13 c14 c15 c16 c17 c18 c19 c20 c21 c22 c23 c24 (hc25 mTy mTm mMn mFn mRn mTn mVn mLr mTr mFl mFm mFp mSc mMp mEn) (hc26 mPa) (hc27 mTo) (hc28 mOt) (hc29 mNa) (hc30 mRe) (hc31 mMa) (hc32 mMy) (hc33 mPm) (hc34 mFy) (hc35 mFa) (hc36 mFr) (hc37 mFo) (hc38 mRt) (hc39 mRm) (hc40 mTt) (hc41 mTi) (hc42 mPl) (hc43 mVr) (hc44 mVf) (hc45 mVc) (hc46 mAr) (hc47 mTc) (hc48 mFt) (hc49 mGo) dyn, 0, 0)) (h := (33, [(3, .int 0), (0, .ref 25), (1, .int t), (2, .int m)], [], hq g c1 c2 c3 c4 c5 c6 c7 c8 c9 c10 c11 c12 c13 c14 c15 c16 c17 c18 c19 c20 c21 c22 c23 c24 (hc25 mTy mTm mMn mFn mRn mTn mVn mLr mTr mFl mFm mFp mSc mMp mEn) (hc26 mPa) (hc27 mTo) (hc28 mOt) (hc29 mNa) (hc30 mRe) (hc31 mMa) (hc32 mMy) (hc33 mPm) (hc34 mFy) (hc35 mFa) (hc36 mFr) (hc37 mFo) (hc38 mRt) (hc39 mRm) (hc40 mTt) (hc41 mTi) (hc42 mPl) (hc43 mVr) (hc44 mVf) (hc45 mVc) (hc46 mAr) (hc47 mTc) (hc48 mFt) (hc49 mGo) dyn, 0, 0)) rfl (fun h15 => ?_) (fun h15 => ?_)
  ·
    have h15 := qT_ne (cx := (mNa (m).toNatClampNeg).toInt) (cy := 6) rfl (by decide) h15
    refine pm_go (g := (39, _, [.int 1], _, 0, 0)) rfl ?_
    refine pm_go (g := (43, _, [.int 1], _, 0, 0)) rfl ?_
    exact pm_ret rfl (k0 (Or.inl (by rw [hc]; omega)))
  have h15 := qF_ne (cx := (mNa (m).toNatClampNeg).toInt) (cy := 6) rfl (by decide) h15
  refine pm_go (g := (34, _, [.int 0], _, 0, 0)) rfl ?_
  refine pm_go (g := (35, _, [.int t, .int 0], _, 0, 0)) rfl ?_
  refine pm_if2 (g := (42, [(3, .int 0), (0, .ref 25), (1, .int t), (2, .int m)], [], hq g c1 c2 c3 c4 c5 c6 c7 c8 c9 c10 c11 c12 c13 c14 c15 c16 c17 c18 c19 c20 c21 c22 c23 c24 (hc25 mTy mTm mMn mFn mRn mTn mVn mLr mTr mFl mFm mFp mSc mMp mEn) (hc26 mPa) (hc27 mTo) (hc28 mOt) (hc29 mNa) (hc30 mRe) (hc31 mMa) (hc32 mMy) (hc33 mPm) (hc34 mFy) (hc35 mFa) (hc36 mFr) (hc37 mFo) (hc38 mRt) (hc39 mRm) (hc40 mTt) (hc41 mTi) (hc42 mPl) (hc43 mVr) (hc44 mVf) (hc45 mVc) (hc46 mAr) (hc47 mTc) (hc48 mFt) (hc49 mGo) dyn, 0, 0)) (h := (38, [(3, .int 0), (0, .ref 25), (1, .int t), (2, .int m)], [], hq g c1 c2 c3 c4 c5 c6 c7 c8 c9 c10 c11 c12 c13 c14 c15 c16 c17 c18 c19 c20 c21 c22 c23 c24 (hc25 mTy mTm mMn mFn mRn mTn mVn mLr mTr mFl mFm mFp mSc mMp mEn) (hc26 mPa) (hc27 mTo) (hc28 mOt) (hc29 mNa) (hc30 mRe) (hc31 mMa) (hc32 mMy) (hc33 mPm) (hc34 mFy) (hc35 mFa) (hc36 mFr) (hc37 mFo) (hc38 mRt) (hc39 mRm) (hc40 mTt) (hc41 mTi) (hc42 mPl) (hc43 mVr) (hc44 mVf) (hc45 mVc) (hc46 mAr) (hc47 mTc) (hc48 mFt) (hc49 mGo) dyn, 0, 0)) rfl (fun h16 => ?_) (fun h16 => ?_)
  ·
    have h16 := qT_ne (cx := 0) (cy := (t).toInt) (by decide) rfl h16
    refine pm_go (g := (43, _, [.int 0], _, 0, 0)) rfl ?_
    refine pm_ret rfl (k1 ?_)
    unfold hadM; rw [hc]; rintro (⟨r1, r2⟩ | ⟨r1, r2, r3, r4⟩) <;> first | omega | (simp_all; done)
  have h16 := qF_ne (cx := 0) (cy := (t).toInt) (by decide) rfl h16
  refine pm_go (g := (39, _, [.int 1], _, 0, 0)) rfl ?_
  refine pm_go (g := (43, _, [.int 1], _, 0, 0)) rfl ?_
  exact pm_ret rfl (k0 (Or.inl (by rw [hc]; omega)))
/-- the reference's isOpen, from the k-th member on -/
def opL (pa ot na my pm ma : Nat → Int32) (mn t : Int32) (k : Nat) : Prop := ∃ j : Nat, k ≤ j ∧ (j : Int) < mn.toInt ∧ (ma (nI j).toNatClampNeg &&& 2).toInt ≠ 0 ∧ hadM pa ot na my pm mn t (nI j)
set_option maxRecDepth 100000 in
set_option maxHeartbeats 4000000 in
theorem w_isOpen_loop1 {g c1 c2 c3 c4 c5 c6 c7 c8 c9 c10 c11 c12 c13 c14 c15 c16 c17 c18 c19 c20 c21 c22 c23 c24 : pm_C} {dyn : pm_H} {mTy : Int32} {mPa : Nat → Int32} {mTo : Nat → Int32} {mTm : Int32} {mMn : Int32} {mOt : Nat → Int32} {mNa : Nat → Int32} {mRe : Nat → Int32} {mMa : Nat → Int32} {mMy : Nat → Int32} {mPm : Nat → Int32} {mFn : Int32} {mFy : Nat → Int32} {mFa : Nat → Int32} {mFr : Nat → Int32} {mRn : Int32} {mFo : Nat → Int32} {mRt : Nat → Int32} {mRm : Nat → Int32} {mTn : Int32} {mTt : Nat → Int32} {mTi : Nat → Int32} {mPl : Nat → Int32} {mVn : Int32} {mVr : Nat → Int32} {mVf : Nat → Int32} {mVc : Nat → Int32} {mAr : Nat → Int32} {mLr : Int32} {mTc : Nat → Int32} {mTr : Int32} {mFl : Int32} {mFt : Nat → Int32} {mFm : Int32} {mFp : Int32} {mSc : Int32} {mMp : Int32} {mEn : Int32} {mGo : Nat → Int32} {Q : pm_Q} (t : Int32) (hp : paD mPa) (hy : myD mMy) (hn : 0 ≤ mMn.toInt ∧ mMn.toInt ≤ 40) : ∀ (n k : Nat), (k ≤ 40) → (40 < k + n) → (Q (some (.int 1)) (hq g c1 c2 c3 c4 c5 c6 c7 c8 c9 c10 c11 c12 c13 c14 c15 c16 c17 c18 c19 c20 c21 c22 c23 c24 (hc25 mTy mTm mMn mFn mRn mTn mVn mLr mTr mFl mFm mFp mSc mMp mEn) (hc26 mPa) (hc27 mTo) (hc28 mOt) (hc29 mNa) (hc30 mRe) (hc31 mMa) (hc32 mMy) (hc33 mPm) (hc34 mFy) (hc35 mFa) (hc36 mFr) (hc37 mFo) (hc38 mRt) (hc39 mRm) (hc40 mTt) (hc41 mTi) (hc42 mPl) (hc43 mVr) (hc44 mVf) (hc45 mVc) (hc46 mAr) (hc47 mTc) (hc48 mFt) (hc49 mGo) dyn)) → pm_WP 145 (4, [(3, .int (nI k)), (2, .int 1), (0, .ref 25), (1, .int t)], [], hq g c1 c2 c3 c4 c5 c6 c7 c8 c9 c10 c11 c12 c13 c14 c15 c16 c17 c18 c19 c20 c21 c22 c23 c24 (hc25 mTy mTm mMn mFn mRn mTn mVn mLr mTr mFl mFm mFp mSc mMp mEn) (hc26 mPa) (hc27 mTo) (hc28 mOt) (hc29 mNa) (hc30 mRe) (hc31 mMa) (hc32 mMy) (hc33 mPm) (hc34 mFy) (hc35 mFa) (hc36 mFr) (hc37 mFo) (hc38 mRt) (hc39 mRm) (hc40 mTt) (hc41 mTi) (hc42 mPl) (hc43 mVr) (hc44 mVf) (hc45 mVc) (hc46 mAr) (hc47 mTc) (hc48 mFt) (hc49 mGo) dyn, 0, 0) Q := by
  intro n
  induction n with
  | zero =>
    intro k g1 g2 k0
    exfalso; omega
  | succ n ih =>
    intro k g1 g2 k0
    have hk := nI_toInt (n := k) (by omega)
    have hkc : (nI k).toNatClampNeg = k := nI_clamp (by omega)
    refine pm_go (g := (5, [(3, .int (nI k)), (2, .int 1), (0, .ref 25), (1, .int t)], [.int (nI k)], hq g c1 c2 c3 c4 c5 c6 c7 c8 c9 c10 c11 c12 c13 c14 c15 c16 c17 c18 c19 c20 c21 c22 c23 c24 (hc25 mTy mTm mMn mFn mRn mTn mVn mLr mTr mFl mFm mFp mSc mMp mEn) (hc26 mPa) (hc27 mTo) (hc28 mOt) (hc29 mNa) (hc30 mRe) (hc31 mMa) (hc32 mMy) (hc33 mPm) (hc34 mFy) (hc35 mFa) (hc36 mFr) (hc37 mFo) (hc38 mRt) (hc39 mRm) (hc40 mTt) (hc41 mTi) (hc42 mPl) (hc43 mVr) (hc44 mVf) (hc45 mVc) (hc46 mAr) (hc47 mTc) (hc48 mFt) (hc49 mGo) dyn, 0, 0)) rfl ?_
    refine pm_go (g := (6, _, [.ref 25, .int (nI k)], _, 0, 0)) rfl ?_
    refine pm_go (g := (9, _, [.int mMn, .int (nI k)], _, 0, 0)) rfl ?_
    refine pm_if2 (g := (46, [(3, .int (nI k)), (2, .int 1), (0, .ref 25), (1, .int t)], [], hq g c1 c2 c3 c4 c5 c6 c7 c8 c9 c10 c11 c12 c13 c14 c15 c16 c17 c18 c19 c20 c21 c22 c23 c24 (hc25 mTy mTm mMn mFn mRn mTn mVn mLr mTr mFl mFm mFp mSc mMp mEn) (hc26 mPa) (hc27 mTo) (hc28 mOt) (hc29 mNa) (hc30 mRe) (hc31 mMa) (hc32 mMy) (hc33 mPm) (hc34 mFy) (hc35 mFa) (hc36 mFr) (hc37 mFo) (hc38 mRt) (hc39 mRm) (hc40 mTt) (hc41 mTi) (hc42 mPl) (hc43 mVr) (hc44 mVf) (hc45 mVc) (hc46 mAr) (hc47 mTc) (hc48 mFt) (hc49 mGo) dyn, 0, 0)) (h := (12, [(3, .int (nI k)), (2, .int 1), (0, .ref 25), (1, .int t)], [], hq g c1 c2 c3 c4 c5 c6 c7 c8 c9 c10 c11 c12 c13 c14 c15 c16 c17 c18 c19 c20 c21 c22 c23 c24 (hc25 mTy mTm mMn mFn mRn mTn mVn mLr mTr mFl mFm mFp mSc mMp mEn) (hc26 mPa) (hc27 mTo) (hc28 mOt) (hc29 mNa) (hc30 mRe) (hc31 mMa) (hc32 mMy) (hc33 mPm) (hc34 mFy) (hc35 mFa) (hc36 mFr) (hc37 mFo) (hc38 mRt) (hc39 mRm) (hc40 mTt) (hc41 mTi) (hc42 mPl) (hc43 mVr) (hc44 mVf) (hc45 mVc) (hc46 mAr) (hc47 mTc) (hc48 mFt) (hc49 mGo) dyn, 0, 0)) rfl (fun h1 => ?_) (fun h1 => ?_)
    ·
      have h1 := qT_ge (cx := (nI k).toInt) (cy := (mMn).toInt) rfl rfl h1
      refine pm_go (g := (47, _, [.int 1], _, 0, 0)) rfl ?_
      exact pm_ret rfl k0
    have h1 := qF_ge (cx := (nI k).toInt) (cy := (mMn).toInt) rfl rfl h1
    refine pm_go (g := (13, _, [.int 1], _, 0, 0)) rfl ?_
    refine pm_brT (g := (34, [(3, .int (nI k)), (2, .int 1), (0, .ref 25), (1, .int t)], [], hq g c1 c2 c3 c4 c5 c6 c7 c8 c9 c10 c11 c12 c13 c14 c15 c16 c17 c18 c19 c20 c21 c22 c23 c24 (hc25 mTy mTm mMn mFn mRn mTn mVn mLr mTr mFl mFm mFp mSc mMp mEn) (hc26 mPa) (hc27 mTo) (hc28 mOt) (hc29 mNa) (hc30 mRe) (hc31 mMa) (hc32 mMy) (hc33 mPm) (hc34 mFy) (hc35 mFa) (hc36 mFr) (hc37 mFo) (hc38 mRt) (hc39 mRm) (hc40 mTt) (hc41 mTi) (hc42 mPl) (hc43 mVr) (hc44 mVf) (hc45 mVc) (hc46 mAr) (hc47 mTc) (hc48 mFt) (hc49 mGo) dyn, 0, 0)) rfl ?_
    refine pm_go (g := (35, _, [.int 1], _, 0, 0)) rfl ?_
    refine pm_go (g := (39, _, [.int 1], _, 0, 0)) rfl ?_
    refine pm_go (g := (40, [(2, .int 1), (3, .int (nI k)), (0, .ref 25), (1, .int t)], [], _, 0, 0)) rfl ?_
    refine pm_go (g := (43, [(3, .int ((nI k) + 1)), (2, .int 1), (0, .ref 25), (1, .int t)], [], _, 0, 0)) rfl ?_
    refine pm_go (g := (4, _, [], _, 0, 0)) rfl ?_
    rw [nI_1]
    exact ih (k + 1) (by omega) (by omega) k0
set_option maxRecDepth 100000 in
set_option maxHeartbeats 4000000 in
theorem w_isOpen_loop {g c1 c2 c3 c4 c5 c6 c7 c8 c9 c10 c11 c12 c13 c14 c15 c16 c17 c18 c19 c20 c21 c22 c23 c24 : pm_C} {dyn : pm_H} {mTy : Int32} {mPa : Nat → Int32} {mTo : Nat → Int32} {mTm : Int32} {mMn : Int32} {mOt : Nat → Int32} {mNa : Nat → Int32} {mRe : Nat → Int32} {mMa : Nat → Int32} {mMy : Nat → Int32} {mPm : Nat → Int32} {mFn : Int32} {mFy : Nat → Int32} {mFa : Nat → Int32} {mFr : Nat → Int32} {mRn : Int32} {mFo : Nat → Int32} {mRt : Nat → Int32} {mRm : Nat → Int32} {mTn : Int32} {mTt : Nat → Int32} {mTi : Nat → Int32} {mPl : Nat → Int32} {mVn : Int32} {mVr : Nat → Int32} {mVf : Nat → Int32} {mVc : Nat → Int32} {mAr : Nat → Int32} {mLr : Int32} {mTc : Nat → Int32} {mTr : Int32} {mFl : Int32} {mFt : Nat → Int32} {mFm : Int32} {mFp : Int32} {mSc : Int32} {mMp : Int32} {mEn : Int32} {mGo : Nat → Int32} {Q : pm_Q} (t : Int32) (hp : paD mPa) (hy : myD mMy) (hn : 0 ≤ mMn.toInt ∧ mMn.toInt ≤ 40) : ∀ (n k : Nat), (k ≤ 40) → (40 < k + n) → (opL mPa mOt mNa mMy mPm mMa mMn t k → Q (some (.int 1)) (hq g c1 c2 c3 c4 c5 c6 c7 c8 c9 c10 c11 c12 c13 c14 c15 c16 c17 c18 c19 c20 c21 c22 c23 c24 (hc25 mTy mTm mMn mFn mRn mTn mVn mLr mTr mFl mFm mFp mSc mMp mEn) (hc26 mPa) (hc27 mTo) (hc28 mOt) (hc29 mNa) (hc30 mRe) (hc31 mMa) (hc32 mMy) (hc33 mPm) (hc34 mFy) (hc35 mFa) (hc36 mFr) (hc37 mFo) (hc38 mRt) (hc39 mRm) (hc40 mTt) (hc41 mTi) (hc42 mPl) (hc43 mVr) (hc44 mVf) (hc45 mVc) (hc46 mAr) (hc47 mTc) (hc48 mFt) (hc49 mGo) dyn)) → (¬ opL mPa mOt mNa mMy mPm mMa mMn t k → Q (some (.int 0)) (hq g c1 c2 c3 c4 c5 c6 c7 c8 c9 c10 c11 c12 c13 c14 c15 c16 c17 c18 c19 c20 c21 c22 c23 c24 (hc25 mTy mTm mMn mFn mRn mTn mVn mLr mTr mFl mFm mFp mSc mMp mEn) (hc26 mPa) (hc27 mTo) (hc28 mOt) (hc29 mNa) (hc30 mRe) (hc31 mMa) (hc32 mMy) (hc33 mPm) (hc34 mFy) (hc35 mFa) (hc36 mFr) (hc37 mFo) (hc38 mRt) (hc39 mRm) (hc40 mTt) (hc41 mTi) (hc42 mPl) (hc43 mVr) (hc44 mVf) (hc45 mVc) (hc46 mAr) (hc47 mTc) (hc48 mFt) (hc49 mGo) dyn)) → pm_WP 145 (4, [(3, .int (nI k)), (2, .int 0), (0, .ref 25), (1, .int t)], [], hq g c1 c2 c3 c4 c5 c6 c7 c8 c9 c10 c11 c12 c13 c14 c15 c16 c17 c18 c19 c20 c21 c22 c23 c24 (hc25 mTy mTm mMn mFn mRn mTn mVn mLr mTr mFl mFm mFp mSc mMp mEn) (hc26 mPa) (hc27 mTo) (hc28 mOt) (hc29 mNa) (hc30 mRe) (hc31 mMa) (hc32 mMy) (hc33 mPm) (hc34 mFy) (hc35 mFa) (hc36 mFr) (hc37 mFo) (hc38 mRt) (hc39 mRm) (hc40 mTt) (hc41 mTi) (hc42 mPl) (hc43 mVr) (hc44 mVf) (hc45 mVc) (hc46 mAr) (hc47 mTc) (hc48 mFt) (hc49 mGo) dyn, 0, 0) Q := by
  intro n
  induction n with
  | zero =>
    intro k g1 g2 k0 k1
    exfalso; omega
  | succ n ih =>
    intro k g1 g2 k0 k1
    have hk := nI_toInt (n := k) (by omega)
    have hkc : (nI k).toNatClampNeg = k := nI_clamp (by omega)
    refine pm_go (g := (5, [(3, .int (nI k)), (2, .int 0), (0, .ref 25), (1, .int t)], [.int (nI k)], hq g c1 c2 c3 c4 c5 c6 c7 c8 c9 c10 c11 c12 c13 c14 c15 c16 c17 c18 c19 c20 c21 c22 c23 c24 (hc25 mTy mTm mMn mFn mRn mTn mVn mLr mTr mFl mFm mFp mSc mMp mEn) (hc26 mPa) (hc27 mTo) (hc28 mOt) (hc29 mNa) (hc30 mRe) (hc31 mMa) (hc32 mMy) (hc33 mPm) (hc34 mFy) (hc35 mFa) (hc36 mFr) (hc37 mFo) (hc38 mRt) (hc39 mRm) (hc40 mTt) (hc41 mTi) (hc42 mPl) (hc43 mVr) (hc44 mVf) (hc45 mVc) (hc46 mAr) (hc47 mTc) (hc48 mFt) (hc49 mGo) dyn, 0, 0)) rfl ?_
    refine pm_go (g := (6, _, [.ref 25, .int (nI k)], _, 0, 0)) rfl ?_
    refine pm_go (g := (9, _, [.int mMn, .int (nI k)], _, 0, 0)) rfl ?_
    refine pm_if2 (g := (46, [(3, .int (nI k)), (2, .int 0), (0, .ref 25), (1, .int t)], [], hq g c1 c2 c3 c4 c5 c6 c7 c8 c9 c10 c11 c12 c13 c14 c15 c16 c17 c18 c19 c20 c21 c22 c23 c24 (hc25 mTy mTm mMn mFn mRn mTn mVn mLr mTr mFl mFm mFp mSc mMp mEn) (hc26 mPa) (hc27 mTo) (hc28 mOt) (hc29 mNa) (hc30 mRe) (hc31 mMa) (hc32 mMy) (hc33 mPm) (hc34 mFy) (hc35 mFa) (hc36 mFr) (hc37 mFo) (hc38 mRt) (hc39 mRm) (hc40 mTt) (hc41 mTi) (hc42 mPl) (hc43 mVr) (hc44 mVf) (hc45 mVc) (hc46 mAr) (hc47 mTc) (hc48 mFt) (hc49 mGo) dyn, 0, 0)) (h := (12, [(3, .int (nI k)), (2, .int 0), (0, .ref 25), (1, .int t)], [], hq g c1 c2 c3 c4 c5 c6 c7 c8 c9 c10 c11 c12 c13 c14 c15 c16 c17 c18 c19 c20 c21 c22 c23 c24 (hc25 mTy mTm mMn mFn mRn mTn mVn mLr mTr mFl mFm mFp mSc mMp mEn) (hc26 mPa) (hc27 mTo) (hc28 mOt) (hc29 mNa) (hc30 mRe) (hc31 mMa) (hc32 mMy) (hc33 mPm) (hc34 mFy) (hc35 mFa) (hc36 mFr) (hc37 mFo) (hc38 mRt) (hc39 mRm) (hc40 mTt) (hc41 mTi) (hc42 mPl) (hc43 mVr) (hc44 mVf) (hc45 mVc) (hc46 mAr) (hc47 mTc) (hc48 mFt) (hc49 mGo) dyn, 0, 0)) rfl (fun h1 => ?_) (fun h1 => ?_)
    ·
      have h1 := qT_ge (cx := (nI k).toInt) (cy := (mMn).toInt) rfl rfl h1
      refine pm_go (g := (47, _, [.int 0], _, 0, 0)) rfl ?_
      refine pm_ret rfl (k1 ?_)
      rintro ⟨j, q1, q2, q3⟩; omega
    have h1 := qF_ge (cx := (nI k).toInt) (cy := (mMn).toInt) rfl rfl h1
    refine pm_go (g := (13, _, [.int 0], _, 0, 0)) rfl ?_
    refine pm_brF (h := (16, [(3, .int (nI k)), (2, .int 0), (0, .ref 25), (1, .int t)], [], hq g c1 c2 c3 c4 c5 c6 c7 c8 c9 c10 c11 c12 c13 c14 c15 c16 c17 c18 c19 c20 c21 c22 c23 c24 (hc25 mTy mTm mMn mFn mRn mTn mVn mLr mTr mFl mFm mFp mSc mMp mEn) (hc26 mPa) (hc27 mTo) (hc28 mOt) (hc29 mNa) (hc30 mRe) (hc31 mMa) (hc32 mMy) (hc33 mPm) (hc34 mFy) (hc35 mFa) (hc36 mFr) (hc37 mFo) (hc38 mRt) (hc39 mRm) (hc40 mTt) (hc41 mTi) (hc42 mPl) (hc43 mVr) (hc44 mVf) (hc45 mVc) (hc46 mAr) (hc47 mTc) (hc48 mFt) (hc49 mGo) dyn, 0, 0)) rfl ?_
    refine pm_go (g := (17, _, [.ref 25], _, 0, 0)) rfl ?_
    refine pm_go (g := (18, _, [.int (nI k), .ref 25], _, 0, 0)) rfl ?_
    refine pm_go (g := (19, _, [.int 2, .int (nI k), .ref 25], _, 0, 0)) rfl ?_
    refine pm_callD (z := 139) (as := [.ref 25, .int (nI k), .int 2]) (rest := []) rfl ?_
    have h2 : (2 : Int32).toInt = 2 := by decide
    refine w_X12_isMark (nI k) 2 (by omega) (fun h3 => ?_) (fun h4 => ?_)
    ·
      show pm_WP 145 (22, [(3, .int (nI k)), (2, .int 0), (0, .ref 25), (1, .int t)], [.int 1], _, 0, 0) _
      refine pm_brF (h := (25, [(3, .int (nI k)), (2, .int 0), (0, .ref 25), (1, .int t)], [], hq g c1 c2 c3 c4 c5 c6 c7 c8 c9 c10 c11 c12 c13 c14 c15 c16 c17 c18 c19 c20 c21 c22 c23 c24 (hc25 mTy mTm mMn mFn mRn mTn mVn mLr mTr mFl mFm mFp mSc mMp mEn) (hc26 mPa) (hc27 mTo) (hc28 mOt) (hc29 mNa) (hc30 mRe) (hc31 mMa) (hc32 mMy) (hc33 mPm) (hc34 mFy) (hc35 mFa) (hc36 mFr) (hc37 mFo) (hc38 mRt) (hc39 mRm) (hc40 mTt) (hc41 mTi) (hc42 mPl) (hc43 mVr) (hc44 mVf) (hc45 mVc) (hc46 mAr) (hc47 mTc) (hc48 mFt) (hc49 mGo) dyn, 0, 0)) rfl ?_
      refine pm_go (g := (26, _, [.ref 25], _, 0, 0)) rfl ?_
      refine pm_go (g := (27, _, [.int t, .ref 25], _, 0, 0)) rfl ?_
      refine pm_go (g := (28, _, [.int (nI k), .int t, .ref 25], _, 0, 0)) rfl ?_
      refine pm_callD (z := 143) (as := [.ref 25, .int t, .int (nI k)]) (rest := []) rfl ?_
      refine w_X12_isHad t (nI k) (by omega) (by assumption) (by assumption) (by omega) (fun h6 => ?_) (fun h7 => ?_)
      ·
        show pm_WP 145 (31, [(3, .int (nI k)), (2, .int 0), (0, .ref 25), (1, .int t)], [.int 1], _, 0, 0) _
        refine pm_brF (h := (34, [(3, .int (nI k)), (2, .int 0), (0, .ref 25), (1, .int t)], [], hq g c1 c2 c3 c4 c5 c6 c7 c8 c9 c10 c11 c12 c13 c14 c15 c16 c17 c18 c19 c20 c21 c22 c23 c24 (hc25 mTy mTm mMn mFn mRn mTn mVn mLr mTr mFl mFm mFp mSc mMp mEn) (hc26 mPa) (hc27 mTo) (hc28 mOt) (hc29 mNa) (hc30 mRe) (hc31 mMa) (hc32 mMy) (hc33 mPm) (hc34 mFy) (hc35 mFa) (hc36 mFr) (hc37 mFo) (hc38 mRt) (hc39 mRm) (hc40 mTt) (hc41 mTi) (hc42 mPl) (hc43 mVr) (hc44 mVf) (hc45 mVc) (hc46 mAr) (hc47 mTc) (hc48 mFt) (hc49 mGo) dyn, 0, 0)) rfl ?_
        refine pm_go (g := (35, _, [.int 1], _, 0, 0)) rfl ?_
        refine pm_go (g := (39, _, [.int 1], _, 0, 0)) rfl ?_
        refine pm_go (g := (40, [(2, .int 1), (3, .int (nI k)), (0, .ref 25), (1, .int t)], [], _, 0, 0)) rfl ?_
        refine pm_go (g := (43, [(3, .int ((nI k) + 1)), (2, .int 1), (0, .ref 25), (1, .int t)], [], _, 0, 0)) rfl ?_
        refine pm_go (g := (4, _, [], _, 0, 0)) rfl ?_
        rw [nI_1]
        exact w_isOpen_loop1 t hp hy hn n (k + 1) (by omega) (by omega) (k0 ⟨k, Nat.le_refl k, by omega, by assumption, by assumption⟩)
      show pm_WP 145 (31, [(3, .int (nI k)), (2, .int 0), (0, .ref 25), (1, .int t)], [.int 0], hq g c1 c2 c3 c4 c5 c6 c7 c8 c9 c10 c11 c12 c13 c14 c15 c16 c17 c18 c19 c20 c21 c22 c23 c24 (hc25 mTy mTm mMn mFn mRn mTn mVn mLr mTr mFl mFm mFp mSc mMp mEn) (hc26 mPa) (hc27 mTo) (hc28 mOt) (hc29 mNa) (hc30 mRe) (hc31 mMa) (hc32 mMy) (hc33 mPm) (hc34 mFy) (hc35 mFa) (hc36 mFr) (hc37 mFo) (hc38 mRt) (hc39 mRm) (hc40 mTt) (hc41 mTi) (hc42 mPl) (hc43 mVr) (hc44 mVf) (hc45 mVc) (hc46 mAr) (hc47 mTc) (hc48 mFt) (hc49 mGo) dyn, 0, 0) _
      refine pm_brT (g := (38, [(3, .int (nI k)), (2, .int 0), (0, .ref 25), (1, .int t)], [], hq g c1 c2 c3 c4 c5 c6 c7 c8 c9 c10 c11 c12 c13 c14 c15 c16 c17 c18 c19 c20 c21 c22 c23 c24 (hc25 mTy mTm mMn mFn mRn mTn mVn mLr mTr mFl mFm mFp mSc mMp mEn) (hc26 mPa) (hc27 mTo) (hc28 mOt) (hc29 mNa) (hc30 mRe) (hc31 mMa) (hc32 mMy) (hc33 mPm) (hc34 mFy) (hc35 mFa) (hc36 mFr) (hc37 mFo) (hc38 mRt) (hc39 mRm) (hc40 mTt) (hc41 mTi) (hc42 mPl) (hc43 mVr) (hc44 mVf) (hc45 mVc) (hc46 mAr) (hc47 mTc) (hc48 mFt) (hc49 mGo) dyn, 0, 0)) rfl ?_
      refine pm_go (g := (39, _, [.int 0], _, 0, 0)) rfl ?_
      refine pm_go (g := (40, [(2, .int 0), (3, .int (nI k)), (0, .ref 25), (1, .int t)], [], _, 0, 0)) rfl ?_
      refine pm_go (g := (43, [(3, .int ((nI k) + 1)), (2, .int 0), (0, .ref 25), (1, .int t)], [], _, 0, 0)) rfl ?_
      refine pm_go (g := (4, _, [], _, 0, 0)) rfl ?_
      rw [nI_1]
      refine ih (k + 1) (by omega) (by omega) (fun h => k0 (by obtain ⟨j, q1, q2, q3⟩ := h; exact ⟨j, by omega, q2, q3⟩)) (fun h => k1 ?_)
      rintro ⟨j, q1, q2, q3, q4⟩
      rcases Nat.eq_or_lt_of_le q1 with e9 | e9
      · subst e9; first | omega | (simp_all; done)
      · exact h ⟨j, e9, q2, q3, q4⟩
    show pm_WP 145 (22, [(3, .int (nI k)), (2, .int 0), (0, .ref 25), (1, .int t)], [.int 0], hq g c1 c2 c3 c4 c5 c6 c7 c8 c9 c10 c11 c12 c13 c14 c15 c16 c17 c18 c19 c20 c21 c22 c23 c24 (hc25 mTy mTm mMn mFn mRn mTn mVn mLr mTr mFl mFm mFp mSc mMp mEn) (hc26 mPa) (hc27 mTo) (hc28 mOt) (hc29 mNa) (hc30 mRe) (hc31 mMa) (hc32 mMy) (hc33 mPm) (hc34 mFy) (hc35 mFa) (hc36 mFr) (hc37 mFo) (hc38 mRt) (hc39 mRm) (hc40 mTt) (hc41 mTi) (hc42 mPl) (hc43 mVr) (hc44 mVf) (hc45 mVc) (hc46 mAr) (hc47 mTc) (hc48 mFt) (hc49 mGo) dyn, 0, 0) _
    refine pm_brT (g := (38, [(3, .int (nI k)), (2, .int 0), (0, .ref 25), (1, .int t)], [], hq g c1 c2 c3 c4 c5 c6 c7 c8 c9 c10 c11 c12 c13 c14 c15 c16 c17 c18 c19 c20 c21 c22 c23 c24 (hc25 mTy mTm mMn mFn mRn mTn mVn mLr mTr mFl mFm mFp mSc mMp mEn) (hc26 mPa) (hc27 mTo) (hc28 mOt) (hc29 mNa) (hc30 mRe) (hc31 mMa) (hc32 mMy) (hc33 mPm) (hc34 mFy) (hc35 mFa) (hc36 mFr) (hc37 mFo) (hc38 mRt) (hc39 mRm) (hc40 mTt) (hc41 mTi) (hc42 mPl) (hc43 mVr) (hc44 mVf) (hc45 mVc) (hc46 mAr) (hc47 mTc) (hc48 mFt) (hc49 mGo) dyn, 0, 0)) rfl ?_
    refine pm_go (g := (39, _, [.int 0], _, 0, 0)) rfl ?_
    refine pm_go (g := (40, [(2, .int 0), (3, .int (nI k)), (0, .ref 25), (1, .int t)], [], _, 0, 0)) rfl ?_
    refine pm_go (g := (43, [(3, .int ((nI k) + 1)), (2, .int 0), (0, .ref 25), (1, .int t)], [], _, 0, 0)) rfl ?_
    refine pm_go (g := (4, _, [], _, 0, 0)) rfl ?_
    rw [nI_1]
    refine ih (k + 1) (by omega) (by omega) (fun h => k0 (by obtain ⟨j, q1, q2, q3⟩ := h; exact ⟨j, by omega, q2, q3⟩)) (fun h => k1 ?_)
    rintro ⟨j, q1, q2, q3, q4⟩
    rcases Nat.eq_or_lt_of_le q1 with e9 | e9
    · subst e9; first | omega | (simp_all; done)
    · exact h ⟨j, e9, q2, q3, q4⟩
set_option maxRecDepth 100000 in
set_option maxHeartbeats 4000000 in
theorem w_X12_isOpen {g c1 c2 c3 c4 c5 c6 c7 c8 c9 c10 c11 c12 c13 c14 c15 c16 c17 c18 c19 c20 c21 c22 c23 c24 : pm_C} {dyn : pm_H} {mTy : Int32} {mPa : Nat → Int32} {mTo : Nat → Int32} {mTm : Int32} {mMn : Int32} {mOt : Nat → Int32} {mNa : Nat → Int32} {mRe : Nat → Int32} {mMa : Nat → Int32} {mMy : Nat → Int32} {mPm : Nat → Int32} {mFn : Int32} {mFy : Nat → Int32} {mFa : Nat → Int32} {mFr : Nat → Int32} {mRn : Int32} {mFo : Nat → Int32} {mRt : Nat → Int32} {mRm : Nat → Int32} {mTn : Int32} {mTt : Nat → Int32} {mTi : Nat → Int32} {mPl : Nat → Int32} {mVn : Int32} {mVr : Nat → Int32} {mVf : Nat → Int32} {mVc : Nat → Int32} {mAr : Nat → Int32} {mLr : Int32} {mTc : Nat → Int32} {mTr : Int32} {mFl : Int32} {mFt : Nat → Int32} {mFm : Int32} {mFp : Int32} {mSc : Int32} {mMp : Int32} {mEn : Int32} {mGo : Nat → Int32} {Q : pm_Q} (t : Int32) (p0 : paD mPa) (p1 : myD mMy) (p2 : 0 ≤ mMn.toInt ∧ mMn.toInt ≤ 40) (k0 : opL mPa mOt mNa mMy mPm mMa mMn t 0 → Q (some (.int 1)) (hq g c1 c2 c3 c4 c5 c6 c7 c8 c9 c10 c11 c12 c13 c14 c15 c16 c17 c18 c19 c20 c21 c22 c23 c24 (hc25 mTy mTm mMn mFn mRn mTn mVn mLr mTr mFl mFm mFp mSc mMp mEn) (hc26 mPa) (hc27 mTo) (hc28 mOt) (hc29 mNa) (hc30 mRe) (hc31 mMa) (hc32 mMy) (hc33 mPm) (hc34 mFy) (hc35 mFa) (hc36 mFr) (hc37 mFo) (hc38 mRt) (hc39 mRm) (hc40 mTt) (hc41 mTi) (hc42 mPl) (hc43 mVr) (hc44 mVf) (hc45 mVc) (hc46 mAr) (hc47 mTc) (hc48 mFt) (hc49 mGo) dyn)) (k1 : ¬ opL mPa mOt mNa mMy mPm mMa mMn t 0 → Q (some (.int 0)) (hq g c1 c2 c3 c4 c5 c6 c7 c8 c9 c10 c11 c12 c13 c14 c15 c16 c17 c18 c19 c20 c21 c22 c23 c24 (hc25 mTy mTm mMn mFn mRn mTn mVn mLr mTr mFl mFm mFp mSc mMp mEn) (hc26 mPa) (hc27 mTo) (hc28 mOt) (hc29 mNa) (hc30 mRe) (hc31 mMa) (hc32 mMy) (hc33 mPm) (hc34 mFy) (hc35 mFa) (hc36 mFr) (hc37 mFo) (hc38 mRt) (hc39 mRm) (hc40 mTt) (hc41 mTi) (hc42 mPl) (hc43 mVr) (hc44 mVf) (hc45 mVc) (hc46 mAr) (hc47 mTc) (hc48 mFt) (hc49 mGo) dyn)) : pm_WP 145 (0, [(0, .ref 25), (1, .int t)], [], hq g c1 c2 c3 c4 c5 c6 c7 c8 c9 c10 c11 c12 c13 c14 c15 c16 c17 c18 c19 c20 c21 c22 c23 c24 (hc25 mTy mTm mMn mFn mRn mTn mVn mLr mTr mFl mFm mFp mSc mMp mEn) (hc26 mPa) (hc27 mTo) (hc28 mOt) (hc29 mNa) (hc30 mRe) (hc31 mMa) (hc32 mMy) (hc33 mPm) (hc34 mFy) (hc35 mFa) (hc36 mFr) (hc37 mFo) (hc38 mRt) (hc39 mRm) (hc40 mTt) (hc41 mTi) (hc42 mPl) (hc43 mVr) (hc44 mVf) (hc45 mVc) (hc46 mAr) (hc47 mTc) (hc48 mFt) (hc49 mGo) dyn, 0, 0) Q := by
  refine pm_go (g := (1, [(0, .ref 25), (1, .int t)], [.int 0], hq g c1 c2 c3 c4 c5 c6 c7 c8 c9 c10 c11 c12 c13 c14 c15 c16 c17 c18 c19 c20 c21 c22 c23 c24 (hc25 mTy mTm mMn mFn mRn mTn mVn mLr mTr mFl mFm mFp mSc mMp mEn) (hc26 mPa) (hc27 mTo) (hc28 mOt) (hc29 mNa) (hc30 mRe) (hc31 mMa) (hc32 mMy) (hc33 mPm) (hc34 mFy) (hc35 mFa) (hc36 mFr) (hc37 mFo) (hc38 mRt) (hc39 mRm) (hc40 mTt) (hc41 mTi) (hc42 mPl) (hc43 mVr) (hc44 mVf) (hc45 mVc) (hc46 mAr) (hc47 mTc) (hc48 mFt) (hc49 mGo) dyn, 0, 0)) rfl ?_
  refine pm_go (g := (2, [(2, .int 0), (0, .ref 25), (1, .int t)], [], _, 0, 0)) rfl ?_
  refine pm_go (g := (3, _, [.int 0], _, 0, 0)) rfl ?_
  refine pm_go (g := (4, [(3, .int 0), (2, .int 0), (0, .ref 25), (1, .int t)], [], _, 0, 0)) rfl ?_
  exact w_isOpen_loop t p0 p1 p2 41 0 (by omega) (by omega) k0 k1
set_option maxRecDepth 100000 in
set_option maxHeartbeats 4000000 in
theorem w_X12_open {g c1 c2 c3 c4 c5 c6 c7 c8 c9 c10 c11 c12 c13 c14 c15 c16 c17 c18 c19 c20 c21 c22 c23 c24 : pm_C} {dyn : pm_H} {mTy : Int32} {mPa : Nat → Int32} {mTo : Nat → Int32} {mTm : Int32} {mMn : Int32} {mOt : Nat → Int32} {mNa : Nat → Int32} {mRe : Nat → Int32} {mMa : Nat → Int32} {mMy : Nat → Int32} {mPm : Nat → Int32} {mFn : Int32} {mFy : Nat → Int32} {mFa : Nat → Int32} {mFr : Nat → Int32} {mRn : Int32} {mFo : Nat → Int32} {mRt : Nat → Int32} {mRm : Nat → Int32} {mTn : Int32} {mTt : Nat → Int32} {mTi : Nat → Int32} {mPl : Nat → Int32} {mVn : Int32} {mVr : Nat → Int32} {mVf : Nat → Int32} {mVc : Nat → Int32} {mAr : Nat → Int32} {mLr : Int32} {mTc : Nat → Int32} {mTr : Int32} {mFl : Int32} {mFt : Nat → Int32} {mFm : Int32} {mFp : Int32} {mSc : Int32} {mMp : Int32} {mEn : Int32} {mGo : Nat → Int32} {Q : pm_Q} (t : Int32) (p0 : 2 ≤ mTy.toInt ∧ mTy.toInt ≤ 10) (p1 : paD mPa) (p2 : myD mMy) (p3 : 0 ≤ mMn.toInt ∧ mMn.toInt ≤ 40) (k0 : (t.toInt < 0 ∨ mTy.toInt ≤ t.toInt) → Q (some (.int (-1))) (hq g c1 c2 c3 c4 c5 c6 c7 c8 c9 c10 c11 c12 c13 c14 c15 c16 c17 c18 c19 c20 c21 c22 c23 c24 (hc25 mTy mTm mMn mFn mRn mTn mVn mLr mTr mFl mFm mFp mSc mMp mEn) (hc26 mPa) (hc27 mTo) (hc28 mOt) (hc29 mNa) (hc30 mRe) (hc31 mMa) (hc32 mMy) (hc33 mPm) (hc34 mFy) (hc35 mFa) (hc36 mFr) (hc37 mFo) (hc38 mRt) (hc39 mRm) (hc40 mTt) (hc41 mTi) (hc42 mPl) (hc43 mVr) (hc44 mVf) (hc45 mVc) (hc46 mAr) (hc47 mTc) (hc48 mFt) (hc49 mGo) dyn)) (k1 : (0 ≤ t.toInt ∧ t.toInt < mTy.toInt) ∧ opL mPa mOt mNa mMy mPm mMa mMn t 0 → Q (some (.int 1)) (hq g c1 c2 c3 c4 c5 c6 c7 c8 c9 c10 c11 c12 c13 c14 c15 c16 c17 c18 c19 c20 c21 c22 c23 c24 (hc25 mTy mTm mMn mFn mRn mTn mVn mLr mTr mFl mFm mFp mSc mMp mEn) (hc26 mPa) (hc27 mTo) (hc28 mOt) (hc29 mNa) (hc30 mRe) (hc31 mMa) (hc32 mMy) (hc33 mPm) (hc34 mFy) (hc35 mFa) (hc36 mFr) (hc37 mFo) (hc38 mRt) (hc39 mRm) (hc40 mTt) (hc41 mTi) (hc42 mPl) (hc43 mVr) (hc44 mVf) (hc45 mVc) (hc46 mAr) (hc47 mTc) (hc48 mFt) (hc49 mGo) dyn)) (k2 : (0 ≤ t.toInt ∧ t.toInt < mTy.toInt) ∧ ¬ opL mPa mOt mNa mMy mPm mMa mMn t 0 → Q (some (.int 0)) (hq g c1 c2 c3 c4 c5 c6 c7 c8 c9 c10 c11 c12 c13 c14 c15 c16 c17 c18 c19 c20 c21 c22 c23 c24 (hc25 mTy mTm mMn mFn mRn mTn mVn mLr mTr mFl mFm mFp mSc mMp mEn) (hc26 mPa) (hc27 mTo) (hc28 mOt) (hc29 mNa) (hc30 mRe) (hc31 mMa) (hc32 mMy) (hc33 mPm) (hc34 mFy) (hc35 mFa) (hc36 mFr) (hc37 mFo) (hc38 mRt) (hc39 mRm) (hc40 mTt) (hc41 mTi) (hc42 mPl) (hc43 mVr) (hc44 mVf) (hc45 mVc) (hc46 mAr) (hc47 mTc) (hc48 mFt) (hc49 mGo) dyn)) : pm_WP 146 (0, [(0, .ref 25), (1, .int t)], [], hq g c1 c2 c3 c4 c5 c6 c7 c8 c9 c10 c11 c12 c13 c14 c15 c16 c17 c18 c19 c20 c21 c22 c23 c24 (hc25 mTy mTm mMn mFn mRn mTn mVn mLr mTr mFl mFm mFp mSc mMp mEn) (hc26 mPa) (hc27 mTo) (hc28 mOt) (hc29 mNa) (hc30 mRe) (hc31 mMa) (hc32 mMy) (hc33 mPm) (hc34 mFy) (hc35 mFa) (hc36 mFr) (hc37 mFo) (hc38 mRt) (hc39 mRm) (hc40 mTt) (hc41 mTi) (hc42 mPl) (hc43 mVr) (hc44 mVf) (hc45 mVc) (hc46 mAr) (hc47 mTc) (hc48 mFt) (hc49 mGo) dyn, 0, 0) Q := by
  refine pm_go (g := (1, [(0, .ref 25), (1, .int t)], [.ref 25], hq g c1 c2 c3 c4 c5 c6 c7 c8 c9 c10 c11 c12 c13 c14 c15 c16 c17 c18 c19 c20 c21 c22 c23 c24 (hc25 mTy mTm mMn mFn mRn mTn mVn mLr mTr mFl mFm mFp mSc mMp mEn) (hc26 mPa) (hc27 mTo) (hc28 mOt) (hc29 mNa) (hc30 mRe) (hc31 mMa) (hc32 mMy) (hc33 mPm) (hc34 mFy) (hc35 mFa) (hc36 mFr) (hc37 mFo) (hc38 mRt) (hc39 mRm) (hc40 mTt) (hc41 mTi) (hc42 mPl) (hc43 mVr) (hc44 mVf) (hc45 mVc) (hc46 mAr) (hc47 mTc) (hc48 mFt) (hc49 mGo) dyn, 0, 0)) rfl ?_
  refine pm_go (g := (2, _, [.int t, .ref 25], _, 0, 0)) rfl ?_
  refine pm_callD (z := 129) (as := [.ref 25, .int t]) (rest := []) rfl ?_
  refine w_X12_isClass t (by omega) (fun h1 => ?_) (fun h2 => ?_)
  ·
    show pm_WP 146 (5, [(0, .ref 25), (1, .int t)], [.int 1], _, 0, 0) _
    refine pm_brT (g := (12, [(0, .ref 25), (1, .int t)], [], hq g c1 c2 c3 c4 c5 c6 c7 c8 c9 c10 c11 c12 c13 c14 c15 c16 c17 c18 c19 c20 c21 c22 c23 c24 (hc25 mTy mTm mMn mFn mRn mTn mVn mLr mTr mFl mFm mFp mSc mMp mEn) (hc26 mPa) (hc27 mTo) (hc28 mOt) (hc29 mNa) (hc30 mRe) (hc31 mMa) (hc32 mMy) (hc33 mPm) (hc34 mFy) (hc35 mFa) (hc36 mFr) (hc37 mFo) (hc38 mRt) (hc39 mRm) (hc40 mTt) (hc41 mTi) (hc42 mPl) (hc43 mVr) (hc44 mVf) (hc45 mVc) (hc46 mAr) (hc47 mTc) (hc48 mFt) (hc49 mGo) dyn, 0, 0)) rfl ?_
    refine pm_go (g := (13, _, [.ref 25], _, 0, 0)) rfl ?_
    refine pm_go (g := (14, _, [.int t, .ref 25], _, 0, 0)) rfl ?_
    refine pm_callD (z := 145) (as := [.ref 25, .int t]) (rest := []) rfl ?_
    refine w_X12_isOpen t (by assumption) (by assumption) (by omega) (fun h4 => ?_) (fun h5 => ?_)
    ·
      show pm_WP 146 (17, [(0, .ref 25), (1, .int t)], [.int 1], _, 0, 0) _
      refine pm_brF (h := (20, [(0, .ref 25), (1, .int t)], [], hq g c1 c2 c3 c4 c5 c6 c7 c8 c9 c10 c11 c12 c13 c14 c15 c16 c17 c18 c19 c20 c21 c22 c23 c24 (hc25 mTy mTm mMn mFn mRn mTn mVn mLr mTr mFl mFm mFp mSc mMp mEn) (hc26 mPa) (hc27 mTo) (hc28 mOt) (hc29 mNa) (hc30 mRe) (hc31 mMa) (hc32 mMy) (hc33 mPm) (hc34 mFy) (hc35 mFa) (hc36 mFr) (hc37 mFo) (hc38 mRt) (hc39 mRm) (hc40 mTt) (hc41 mTi) (hc42 mPl) (hc43 mVr) (hc44 mVf) (hc45 mVc) (hc46 mAr) (hc47 mTc) (hc48 mFt) (hc49 mGo) dyn, 0, 0)) rfl ?_
      refine pm_go (g := (21, _, [.int 1], _, 0, 0)) rfl ?_
      refine pm_go (g := (25, _, [.int 1], _, 0, 0)) rfl ?_
      exact pm_ret rfl (k1 ⟨by omega, by assumption⟩)
    show pm_WP 146 (17, [(0, .ref 25), (1, .int t)], [.int 0], hq g c1 c2 c3 c4 c5 c6 c7 c8 c9 c10 c11 c12 c13 c14 c15 c16 c17 c18 c19 c20 c21 c22 c23 c24 (hc25 mTy mTm mMn mFn mRn mTn mVn mLr mTr mFl mFm mFp mSc mMp mEn) (hc26 mPa) (hc27 mTo) (hc28 mOt) (hc29 mNa) (hc30 mRe) (hc31 mMa) (hc32 mMy) (hc33 mPm) (hc34 mFy) (hc35 mFa) (hc36 mFr) (hc37 mFo) (hc38 mRt) (hc39 mRm) (hc40 mTt) (hc41 mTi) (hc42 mPl) (hc43 mVr) (hc44 mVf) (hc45 mVc) (hc46 mAr) (hc47 mTc) (hc48 mFt) (hc49 mGo) dyn, 0, 0) _
    refine pm_brT (g := (24, [(0, .ref 25), (1, .int t)], [], hq g c1 c2 c3 c4 c5 c6 c7 c8 c9 c10 c11 c12 c13 c14 c15 c16 c17 c18 c19 c20 c21 c22 c23 c24 (hc25 mTy mTm mMn mFn mRn mTn mVn mLr mTr mFl mFm mFp mSc mMp mEn) (hc26 mPa) (hc27 mTo) (hc28 mOt) (hc29 mNa) (hc30 mRe) (hc31 mMa) (hc32 mMy) (hc33 mPm) (hc34 mFy) (hc35 mFa) (hc36 mFr) (hc37 mFo) (hc38 mRt) (hc39 mRm) (hc40 mTt) (hc41 mTi) (hc42 mPl) (hc43 mVr) (hc44 mVf) (hc45 mVc) (hc46 mAr) (hc47 mTc) (hc48 mFt) (hc49 mGo) dyn, 0, 0)) rfl ?_
    refine pm_go (g := (25, _, [.int 0], _, 0, 0)) rfl ?_
    exact pm_ret rfl (k2 ⟨by omega, by assumption⟩)
  show pm_WP 146 (5, [(0, .ref 25), (1, .int t)], [.int 0], hq g c1 c2 c3 c4 c5 c6 c7 c8 c9 c10 c11 c12 c13 c14 c15 c16 c17 c18 c19 c20 c21 c22 c23 c24 (hc25 mTy mTm mMn mFn mRn mTn mVn mLr mTr mFl mFm mFp mSc mMp mEn) (hc26 mPa) (hc27 mTo) (hc28 mOt) (hc29 mNa) (hc30 mRe) (hc31 mMa) (hc32 mMy) (hc33 mPm) (hc34 mFy) (hc35 mFa) (hc36 mFr) (hc37 mFo) (hc38 mRt) (hc39 mRm) (hc40 mTt) (hc41 mTi) (hc42 mPl) (hc43 mVr) (hc44 mVf) (hc45 mVc) (hc46 mAr) (hc47 mTc) (hc48 mFt) (hc49 mGo) dyn, 0, 0) _
  refine pm_brF (h := (8, [(0, .ref 25), (1, .int t)], [], hq g c1 c2 c3 c4 c5 c6 c7 c8 c9 c10 c11 c12 c13 c14 c15 c16 c17 c18 c19 c20 c21 c22 c23 c24 (hc25 mTy mTm mMn mFn mRn mTn mVn mLr mTr mFl mFm mFp mSc mMp mEn) (hc26 mPa) (hc27 mTo) (hc28 mOt) (hc29 mNa) (hc30 mRe) (hc31 mMa) (hc32 mMy) (hc33 mPm) (hc34 mFy) (hc35 mFa) (hc36 mFr) (hc37 mFo) (hc38 mRt) (hc39 mRm) (hc40 mTt) (hc41 mTi) (hc42 mPl) (hc43 mVr) (hc44 mVf) (hc45 mVc) (hc46 mAr) (hc47 mTc) (hc48 mFt) (hc49 mGo) dyn, 0, 0)) rfl ?_
  refine pm_go (g := (9, _, [.int (-1)], _, 0, 0)) rfl ?_
  refine pm_go (g := (25, _, [.int (-1)], _, 0, 0)) rfl ?_
  exact pm_ret rfl (k0 (by omega))
