section
set_option maxRecDepth 100000 in
set_option maxHeartbeats 4000000 in
theorem w_X12_has {g c1 c2 c3 c4 c5 c6 c7 c8 c9 c10 c11 c12 c13 c14 c15 c16 c17 c18 c19 c20 c21 c22 c23 c24 : pm_C} {dyn : pm_H} {mTy : Int32} {mPa : Nat → Int32} {mTo : Nat → Int32} {mTm : Int32} {mMn : Int32} {mOt : Nat → Int32} {mNa : Nat → Int32} {mRe : Nat → Int32} {mMa : Nat → Int32} {mMy : Nat → Int32} {mPm : Nat → Int32} {mFn : Int32} {mFy : Nat → Int32} {mFa : Nat → Int32} {mFr : Nat → Int32} {mRn : Int32} {mFo : Nat → Int32} {mRt : Nat → Int32} {mRm : Nat → Int32} {mTn : Int32} {mTt : Nat → Int32} {mTi : Nat → Int32} {mPl : Nat → Int32} {mVn : Int32} {mVr : Nat → Int32} {mVf : Nat → Int32} {mVc : Nat → Int32} {mAr : Nat → Int32} {mLr : Int32} {mTc : Nat → Int32} {mTr : Int32} {mFl : Int32} {mFt : Nat → Int32} {mFm : Int32} {mFp : Int32} {mSc : Int32} {mMp : Int32} {mEn : Int32} {mGo : Nat → Int32} {Q : pm_Q} (t : Int32) (i : Int32) (p0 : 2 ≤ mTy.toInt ∧ mTy.toInt ≤ 10) (p1 : paD mPa) (p2 : myD mMy) (p3 : 0 ≤ mMn.toInt ∧ mMn.toInt ≤ 40) (k0 : (t.toInt < 0 ∨ mTy.toInt ≤ t.toInt) → Q (some (.int (-1))) (hq g c1 c2 c3 c4 c5 c6 c7 c8 c9 c10 c11 c12 c13 c14 c15 c16 c17 c18 c19 c20 c21 c22 c23 c24 (hc25 mTy mTm mMn mFn mRn mTn mVn mLr mTr mFl mFm mFp mSc mMp mEn) (hc26 mPa) (hc27 mTo) (hc28 mOt) (hc29 mNa) (hc30 mRe) (hc31 mMa) (hc32 mMy) (hc33 mPm) (hc34 mFy) (hc35 mFa) (hc36 mFr) (hc37 mFo) (hc38 mRt) (hc39 mRm) (hc40 mTt) (hc41 mTi) (hc42 mPl) (hc43 mVr) (hc44 mVf) (hc45 mVc) (hc46 mAr) (hc47 mTc) (hc48 mFt) (hc49 mGo) dyn)) (k1 : ∀ (r9 : Int32), (0 ≤ t.toInt ∧ t.toInt < mTy.toInt) → Q (some (.int r9)) (hq g c1 c2 c3 c4 c5 c6 c7 c8 c9 c10 c11 c12 c13 c14 c15 c16 c17 c18 c19 c20 c21 c22 c23 c24 (hc25 mTy mTm mMn mFn mRn mTn mVn mLr mTr mFl mFm mFp mSc mMp mEn) (hc26 mPa) (hc27 mTo) (hc28 mOt) (hc29 mNa) (hc30 mRe) (hc31 mMa) (hc32 mMy) (hc33 mPm) (hc34 mFy) (hc35 mFa) (hc36 mFr) (hc37 mFo) (hc38 mRt) (hc39 mRm) (hc40 mTt) (hc41 mTi) (hc42 mPl) (hc43 mVr) (hc44 mVf) (hc45 mVc) (hc46 mAr) (hc47 mTc) (hc48 mFt) (hc49 mGo) dyn)) : pm_WP 144 (0, [(0, .ref 25), (1, .int t), (2, .int i)], [], hq g c1 c2 c3 c4 c5 c6 c7 c8 c9 c10 c11 c12 c13 c14 c15 c16 c17 c18 c19 c20 c21 c22 c23 c24 (hc25 mTy mTm mMn mFn mRn mTn mVn mLr mTr mFl mFm mFp mSc mMp mEn) (hc26 mPa) (hc27 mTo) (hc28 mOt) (hc29 mNa) (hc30 mRe) (hc31 mMa) (hc32 mMy) (hc33 mPm) (hc34 mFy) (hc35 mFa) (hc36 mFr) (hc37 mFo) (hc38 mRt) (hc39 mRm) (hc40 mTt) (hc41 mTi) (hc42 mPl) (hc43 mVr) (hc44 mVf) (hc45 mVc) (hc46 mAr) (hc47 mTc) (hc48 mFt) (hc49 mGo) dyn, 0, 0) Q := by
  refine pm_go (g := (1, [(0, .ref 25), (1, .int t), (2, .int i)], [.ref 25], hq g c1 c2 c3 c4 c5 c6 c7 c8 c9 c10 c11 c12 c13 c14 c15 c16 c17 c18 c19 c20 c21 c22 c23 c24 (hc25 mTy mTm mMn mFn mRn mTn mVn mLr mTr mFl mFm mFp mSc mMp mEn) (hc26 mPa) (hc27 mTo) (hc28 mOt) (hc29 mNa) (hc30 mRe) (hc31 mMa) (hc32 mMy) (hc33 mPm) (hc34 mFy) (hc35 mFa) (hc36 mFr) (hc37 mFo) (hc38 mRt) (hc39 mRm) (hc40 mTt) (hc41 mTi) (hc42 mPl) (hc43 mVr) (hc44 mVf) (hc45 mVc) (hc46 mAr) (hc47 mTc) (hc48 mFt) (hc49 mGo) dyn, 0, 0)) rfl ?_
  refine pm_go (g := (2, _, [.int t, .ref 25], _, 0, 0)) rfl ?_
  refine pm_callD (z := 129) (as := [.ref 25, .int t]) (rest := []) rfl ?_
  refine w_X12_isClass t (by omega) (fun h1 => ?_) (fun h2 => ?_)
  ·
    show pm_WP 144 (5, [(0, .ref 25), (1, .int t), (2, .int i)], [.int 1], _, 0, 0) _
    refine pm_brT (g := (10, [(0, .ref 25), (1, .int t), (2, .int i)], [], hq g c1 c2 c3 c4 c5 c6 c7 c8 c9 c10 c11 c12 c13 c14 c15 c16 c17 c18 c19 c20 c21 c22 c23 c24 (hc25 mTy mTm mMn mFn mRn mTn mVn mLr mTr mFl mFm mFp mSc mMp mEn) (hc26 mPa) (hc27 mTo) (hc28 mOt) (hc29 mNa) (hc30 mRe) (hc31 mMa) (hc32 mMy) (hc33 mPm) (hc34 mFy) (hc35 mFa) (hc36 mFr) (hc37 mFo) (hc38 mRt) (hc39 mRm) (hc40 mTt) (hc41 mTi) (hc42 mPl) (hc43 mVr) (hc44 mVf) (hc45 mVc) (hc46 mAr) (hc47 mTc) (hc48 mFt) (hc49 mGo) dyn, 0, 0)) rfl ?_
    refine pm_go (g := (11, _, [.int 0], _, 0, 0)) rfl ?_
    refine pm_go (g := (12, [(3, .int 0), (0, .ref 25), (1, .int t), (2, .int i)], [], _, 0, 0)) rfl ?_
    refine pm_go (g := (13, _, [.int 0], _, 0, 0)) rfl ?_
    refine pm_go (g := (15, [(4, .int 0), (3, .int 0), (0, .ref 25), (1, .int t), (2, .int i)], [], _, 0, 0)) rfl ?_
    exact w_has_loop t i p1 p2 p3 41 0 0 (by omega) (by omega) (fun r9 => k1 r9 (by omega))
  show pm_WP 144 (5, [(0, .ref 25), (1, .int t), (2, .int i)], [.int 0], hq g c1 c2 c3 c4 c5 c6 c7 c8 c9 c10 c11 c12 c13 c14 c15 c16 c17 c18 c19 c20 c21 c22 c23 c24 (hc25 mTy mTm mMn mFn mRn mTn mVn mLr mTr mFl mFm mFp mSc mMp mEn) (hc26 mPa) (hc27 mTo) (hc28 mOt) (hc29 mNa) (hc30 mRe) (hc31 mMa) (hc32 mMy) (hc33 mPm) (hc34 mFy) (hc35 mFa) (hc36 mFr) (hc37 mFo) (hc38 mRt) (hc39 mRm) (hc40 mTt) (hc41 mTi) (hc42 mPl) (hc43 mVr) (hc44 mVf) (hc45 mVc) (hc46 mAr) (hc47 mTc) (hc48 mFt) (hc49 mGo) dyn, 0, 0) _
  refine pm_brF (h := (8, [(0, .ref 25), (1, .int t), (2, .int i)], [], hq g c1 c2 c3 c4 c5 c6 c7 c8 c9 c10 c11 c12 c13 c14 c15 c16 c17 c18 c19 c20 c21 c22 c23 c24 (hc25 mTy mTm mMn mFn mRn mTn mVn mLr mTr mFl mFm mFp mSc mMp mEn) (hc26 mPa) (hc27 mTo) (hc28 mOt) (hc29 mNa) (hc30 mRe) (hc31 mMa) (hc32 mMy) (hc33 mPm) (hc34 mFy) (hc35 mFa) (hc36 mFr) (hc37 mFo) (hc38 mRt) (hc39 mRm) (hc40 mTt) (hc41 mTi) (hc42 mPl) (hc43 mVr) (hc44 mVf) (hc45 mVc) (hc46 mAr) (hc47 mTc) (hc48 mFt) (hc49 mGo) dyn, 0, 0)) rfl ?_
  refine pm_go (g := (9, _, [.int (-1)], _, 0, 0)) rfl ?_
  exact pm_ret rfl (k0 (by omega))
/-- what was told is what m takes, from the k-th on -/
def alL (pm to : Nat → Int32) (tm m : Int32) (k : Nat) : Prop := ∀ j : Nat, k ≤ j → (j : Int) < tm.toInt → pm (3 * m + nI j).toNatClampNeg = to (nI j).toNatClampNeg
def clR (pa ot re ma : Nat → Int32) (m t w r a : Int32) : Prop := (ot m.toNatClampNeg).toInt = t.toInt ∨ ((ot m.toNatClampNeg).toInt ≠ t.toInt ∧ w.toInt ≠ 6 ∧ (uM pa t (ot m.toNatClampNeg) = true ∨ uM pa (ot m.toNatClampNeg) t = true) ∧ (((ma m.toNatClampNeg ||| a) &&& 1).toInt ≠ 0 ∨ (re m.toNatClampNeg).toInt ≠ r.toInt ∨ ((ma m.toNatClampNeg ^^^ a) &&& 4).toInt ≠ 0))
/-- the reference's isClash -/
def clM (pa ot na re ma my pm to : Nat → Int32) (tm m t w r a : Int32) : Prop := (na m.toNatClampNeg).toInt = w.toInt ∧ (my m.toNatClampNeg).toInt = tm.toInt ∧ alL pm to tm m 0 ∧ clR pa ot re ma m t w r a
set_option maxRecDepth 100000 in
set_option maxHeartbeats 4000000 in
theorem w_isClash_loop {g c1 c2 c3 c4 c5 c6 c7 c8 c9 c10 c11 c12 c13 c14 c15 c16 c17 c18 c19 c20 c21 c22 c23 c24 : pm_C} {dyn : pm_H} {mTy : Int32} {mPa : Nat → Int32} {mTo : Nat → Int32} {mTm : Int32} {mMn : Int32} {mOt : Nat → Int32} {mNa : Nat → Int32} {mRe : Nat → Int32} {mMa : Nat → Int32} {mMy : Nat → Int32} {mPm : Nat → Int32} {mFn : Int32} {mFy : Nat → Int32} {mFa : Nat → Int32} {mFr : Nat → Int32} {mRn : Int32} {mFo : Nat → Int32} {mRt : Nat → Int32} {mRm : Nat → Int32} {mTn : Int32} {mTt : Nat → Int32} {mTi : Nat → Int32} {mPl : Nat → Int32} {mVn : Int32} {mVr : Nat → Int32} {mVf : Nat → Int32} {mVc : Nat → Int32} {mAr : Nat → Int32} {mLr : Int32} {mTc : Nat → Int32} {mTr : Int32} {mFl : Int32} {mFt : Nat → Int32} {mFm : Int32} {mFp : Int32} {mSc : Int32} {mMp : Int32} {mEn : Int32} {mGo : Nat → Int32} {Q : pm_Q} (m t w r a : Int32) (hm : 0 ≤ m.toInt ∧ m.toInt < 40) (hp : paD mPa) (ht : 0 ≤ mTm.toInt ∧ mTm.toInt ≤ 3) : ∀ (n k : Nat), (k ≤ 3) → (3 < k + n) → ((alL mPm mTo mTm m k ∧ clR mPa mOt mRe mMa m t w r a) → Q (some (.int 1)) (hq g c1 c2 c3 c4 c5 c6 c7 c8 c9 c10 c11 c12 c13 c14 c15 c16 c17 c18 c19 c20 c21 c22 c23 c24 (hc25 mTy mTm mMn mFn mRn mTn mVn mLr mTr mFl mFm mFp mSc mMp mEn) (hc26 mPa) (hc27 mTo) (hc28 mOt) (hc29 mNa) (hc30 mRe) (hc31 mMa) (hc32 mMy) (hc33 mPm) (hc34 mFy) (hc35 mFa) (hc36 mFr) (hc37 mFo) (hc38 mRt) (hc39 mRm) (hc40 mTt) (hc41 mTi) (hc42 mPl) (hc43 mVr) (hc44 mVf) (hc45 mVc) (hc46 mAr) (hc47 mTc) (hc48 mFt) (hc49 mGo) dyn)) → (¬ (alL mPm mTo mTm m k ∧ clR mPa mOt mRe mMa m t w r a) → Q (some (.int 0)) (hq g c1 c2 c3 c4 c5 c6 c7 c8 c9 c10 c11 c12 c13 c14 c15 c16 c17 c18 c19 c20 c21 c22 c23 c24 (hc25 mTy mTm mMn mFn mRn mTn mVn mLr mTr mFl mFm mFp mSc mMp mEn) (hc26 mPa) (hc27 mTo) (hc28 mOt) (hc29 mNa) (hc30 mRe) (hc31 mMa) (hc32 mMy) (hc33 mPm) (hc34 mFy) (hc35 mFa) (hc36 mFr) (hc37 mFo) (hc38 mRt) (hc39 mRm) (hc40 mTt) (hc41 mTi) (hc42 mPl) (hc43 mVr) (hc44 mVf) (hc45 mVc) (hc46 mAr) (hc47 mTc) (hc48 mFt) (hc49 mGo) dyn)) → pm_WP 141 (33, [(7, .int (nI k)), (6, .int 1), (0, .ref 25), (1, .int m), (2, .int t), (3, .int w), (4, .int r), (5, .int a)], [], hq g c1 c2 c3 c4 c5 c6 c7 c8 c9 c10 c11 c12 c13 c14 c15 c16 c17 c18 c19 c20 c21 c22 c23 c24 (hc25 mTy mTm mMn mFn mRn mTn mVn mLr mTr mFl mFm mFp mSc mMp mEn) (hc26 mPa) (hc27 mTo) (hc28 mOt) (hc29 mNa) (hc30 mRe) (hc31 mMa) (hc32 mMy) (hc33 mPm) (hc34 mFy) (hc35 mFa) (hc36 mFr) (hc37 mFo) (hc38 mRt) (hc39 mRm) (hc40 mTt) (hc41 mTi) (hc42 mPl) (hc43 mVr) (hc44 mVf) (hc45 mVc) (hc46 mAr) (hc47 mTc) (hc48 mFt) (hc49 mGo) dyn, 0, 0) Q := by
  intro n
  induction n with
  | zero =>
    intro k g1 g2 k0 k1
    exfalso; omega
  | succ n ih =>
    intro k g1 g2 k0 k1
    have hk := nI_toInt (n := k) (by omega)
    have hkc : (nI k).toNatClampNeg = k := nI_clamp (by omega)
    refine pm_go (g := (35, [(7, .int (nI k)), (6, .int 1), (0, .ref 25), (1, .int m), (2, .int t), (3, .int w), (4, .int r), (5, .int a)], [.int 1], hq g c1 c2 c3 c4 c5 c6 c7 c8 c9 c10 c11 c12 c13 c14 c15 c16 c17 c18 c19 c20 c21 c22 c23 c24 (hc25 mTy mTm mMn mFn mRn mTn mVn mLr mTr mFl mFm mFp mSc mMp mEn) (hc26 mPa) (hc27 mTo) (hc28 mOt) (hc29 mNa) (hc30 mRe) (hc31 mMa) (hc32 mMy) (hc33 mPm) (hc34 mFy) (hc35 mFa) (hc36 mFr) (hc37 mFo) (hc38 mRt) (hc39 mRm) (hc40 mTt) (hc41 mTi) (hc42 mPl) (hc43 mVr) (hc44 mVf) (hc45 mVc) (hc46 mAr) (hc47 mTc) (hc48 mFt) (hc49 mGo) dyn, 0, 0)) rfl ?_
    refine pm_brF (h := (38, [(7, .int (nI k)), (6, .int 1), (0, .ref 25), (1, .int m), (2, .int t), (3, .int w), (4, .int r), (5, .int a)], [], hq g c1 c2 c3 c4 c5 c6 c7 c8 c9 c10 c11 c12 c13 c14 c15 c16 c17 c18 c19 c20 c21 c22 c23 c24 (hc25 mTy mTm mMn mFn mRn mTn mVn mLr mTr mFl mFm mFp mSc mMp mEn) (hc26 mPa) (hc27 mTo) (hc28 mOt) (hc29 mNa) (hc30 mRe) (hc31 mMa) (hc32 mMy) (hc33 mPm) (hc34 mFy) (hc35 mFa) (hc36 mFr) (hc37 mFo) (hc38 mRt) (hc39 mRm) (hc40 mTt) (hc41 mTi) (hc42 mPl) (hc43 mVr) (hc44 mVf) (hc45 mVc) (hc46 mAr) (hc47 mTc) (hc48 mFt) (hc49 mGo) dyn, 0, 0)) rfl ?_
    refine pm_go (g := (40, _, [.int (nI k)], _, 0, 0)) rfl ?_
    refine pm_go (g := (41, _, [.ref 25, .int (nI k)], _, 0, 0)) rfl ?_
    refine pm_go (g := (44, _, [.int mTm, .int (nI k)], _, 0, 0)) rfl ?_
    refine pm_if2 (g := (81, [(7, .int (nI k)), (6, .int 1), (0, .ref 25), (1, .int m), (2, .int t), (3, .int w), (4, .int r), (5, .int a)], [], hq g c1 c2 c3 c4 c5 c6 c7 c8 c9 c10 c11 c12 c13 c14 c15 c16 c17 c18 c19 c20 c21 c22 c23 c24 (hc25 mTy mTm mMn mFn mRn mTn mVn mLr mTr mFl mFm mFp mSc mMp mEn) (hc26 mPa) (hc27 mTo) (hc28 mOt) (hc29 mNa) (hc30 mRe) (hc31 mMa) (hc32 mMy) (hc33 mPm) (hc34 mFy) (hc35 mFa) (hc36 mFr) (hc37 mFo) (hc38 mRt) (hc39 mRm) (hc40 mTt) (hc41 mTi) (hc42 mPl) (hc43 mVr) (hc44 mVf) (hc45 mVc) (hc46 mAr) (hc47 mTc) (hc48 mFt) (hc49 mGo) dyn, 0, 0)) (h := (47, [(7, .int (nI k)), (6, .int 1), (0, .ref 25), (1, .int m), (2, .int t), (3, .int w), (4, .int r), (5, .int a)], [], hq g c1 c2 c3 c4 c5 c6 c7 c8 c9 c10 c11 c12 c13 c14 c15 c16 c17 c18 c19 c20 c21 c22 c23 c24 (hc25 mTy mTm mMn mFn mRn mTn mVn mLr mTr mFl mFm mFp mSc mMp mEn) (hc26 mPa) (hc27 mTo) (hc28 mOt) (hc29 mNa) (hc30 mRe) (hc31 mMa) (hc32 mMy) (hc33 mPm) (hc34 mFy) (hc35 mFa) (hc36 mFr) (hc37 mFo) (hc38 mRt) (hc39 mRm) (hc40 mTt) (hc41 mTi) (hc42 mPl) (hc43 mVr) (hc44 mVf) (hc45 mVc) (hc46 mAr) (hc47 mTc) (hc48 mFt) (hc49 mGo) dyn, 0, 0)) rfl (fun h1 => ?_) (fun h1 => ?_)
    ·
      have h1 := qT_ge (cx := (nI k).toInt) (cy := (mTm).toInt) rfl rfl h1
      refine pm_go (g := (83, _, [.int 1], _, 0, 0)) rfl ?_
      refine pm_brT (g := (88, [(7, .int (nI k)), (6, .int 1), (0, .ref 25), (1, .int m), (2, .int t), (3, .int w), (4, .int r), (5, .int a)], [], hq g c1 c2 c3 c4 c5 c6 c7 c8 c9 c10 c11 c12 c13 c14 c15 c16 c17 c18 c19 c20 c21 c22 c23 c24 (hc25 mTy mTm mMn mFn mRn mTn mVn mLr mTr mFl mFm mFp mSc mMp mEn) (hc26 mPa) (hc27 mTo) (hc28 mOt) (hc29 mNa) (hc30 mRe) (hc31 mMa) (hc32 mMy) (hc33 mPm) (hc34 mFy) (hc35 mFa) (hc36 mFr) (hc37 mFo) (hc38 mRt) (hc39 mRm) (hc40 mTt) (hc41 mTi) (hc42 mPl) (hc43 mVr) (hc44 mVf) (hc45 mVc) (hc46 mAr) (hc47 mTc) (hc48 mFt) (hc49 mGo) dyn, 0, 0)) rfl ?_
      refine pm_go (g := (89, _, [.ref 25], _, 0, 0)) rfl ?_
      refine pm_go (g := (92, _, [.ref 28], _, 0, 0)) rfl ?_
      refine pm_go (g := (93, _, [.int m, .ref 28], _, 0, 0)) rfl ?_
      refine pm_sd (g := (94, _, [.int (mOt (m).toNatClampNeg)], _, 0, 0)) rfl (pm_inI (by omega) (by omega)) ?_
      refine pm_go (g := (95, _, [.int t, .int (mOt (m).toNatClampNeg)], _, 0, 0)) rfl ?_
      refine pm_if2 (g := (100, [(7, .int (nI k)), (6, .int 1), (0, .ref 25), (1, .int m), (2, .int t), (3, .int w), (4, .int r), (5, .int a)], [], hq g c1 c2 c3 c4 c5 c6 c7 c8 c9 c10 c11 c12 c13 c14 c15 c16 c17 c18 c19 c20 c21 c22 c23 c24 (hc25 mTy mTm mMn mFn mRn mTn mVn mLr mTr mFl mFm mFp mSc mMp mEn) (hc26 mPa) (hc27 mTo) (hc28 mOt) (hc29 mNa) (hc30 mRe) (hc31 mMa) (hc32 mMy) (hc33 mPm) (hc34 mFy) (hc35 mFa) (hc36 mFr) (hc37 mFo) (hc38 mRt) (hc39 mRm) (hc40 mTt) (hc41 mTi) (hc42 mPl) (hc43 mVr) (hc44 mVf) (hc45 mVc) (hc46 mAr) (hc47 mTc) (hc48 mFt) (hc49 mGo) dyn, 0, 0)) (h := (98, [(7, .int (nI k)), (6, .int 1), (0, .ref 25), (1, .int m), (2, .int t), (3, .int w), (4, .int r), (5, .int a)], [], hq g c1 c2 c3 c4 c5 c6 c7 c8 c9 c10 c11 c12 c13 c14 c15 c16 c17 c18 c19 c20 c21 c22 c23 c24 (hc25 mTy mTm mMn mFn mRn mTn mVn mLr mTr mFl mFm mFp mSc mMp mEn) (hc26 mPa) (hc27 mTo) (hc28 mOt) (hc29 mNa) (hc30 mRe) (hc31 mMa) (hc32 mMy) (hc33 mPm) (hc34 mFy) (hc35 mFa) (hc36 mFr) (hc37 mFo) (hc38 mRt) (hc39 mRm) (hc40 mTt) (hc41 mTi) (hc42 mPl) (hc43 mVr) (hc44 mVf) (hc45 mVc) (hc46 mAr) (hc47 mTc) (hc48 mFt) (hc49 mGo) dyn, 0, 0)) rfl (fun h2 => ?_) (fun h2 => ?_)
      ·
        have h2 := qT_ne (cx := (mOt (m).toNatClampNeg).toInt) (cy := (t).toInt) rfl rfl h2
        refine pm_go (g := (101, _, [.int w], _, 0, 0)) rfl ?_
        refine pm_go (g := (103, _, [.int 6, .int w], _, 0, 0)) rfl ?_
        refine pm_if2 (g := (134, [(7, .int (nI k)), (6, .int 1), (0, .ref 25), (1, .int m), (2, .int t), (3, .int w), (4, .int r), (5, .int a)], [], hq g c1 c2 c3 c4 c5 c6 c7 c8 c9 c10 c11 c12 c13 c14 c15 c16 c17 c18 c19 c20 c21 c22 c23 c24 (hc25 mTy mTm mMn mFn mRn mTn mVn mLr mTr mFl mFm mFp mSc mMp mEn) (hc26 mPa) (hc27 mTo) (hc28 mOt) (hc29 mNa) (hc30 mRe) (hc31 mMa) (hc32 mMy) (hc33 mPm) (hc34 mFy) (hc35 mFa) (hc36 mFr) (hc37 mFo) (hc38 mRt) (hc39 mRm) (hc40 mTt) (hc41 mTi) (hc42 mPl) (hc43 mVr) (hc44 mVf) (hc45 mVc) (hc46 mAr) (hc47 mTc) (hc48 mFt) (hc49 mGo) dyn, 0, 0)) (h := (106, [(7, .int (nI k)), (6, .int 1), (0, .ref 25), (1, .int m), (2, .int t), (3, .int w), (4, .int r), (5, .int a)], [], hq g c1 c2 c3 c4 c5 c6 c7 c8 c9 c10 c11 c12 c13 c14 c15 c16 c17 c18 c19 c20 c21 c22 c23 c24 (hc25 mTy mTm mMn mFn mRn mTn mVn mLr mTr mFl mFm mFp mSc mMp mEn) (hc26 mPa) (hc27 mTo) (hc28 mOt) (hc29 mNa) (hc30 mRe) (hc31 mMa) (hc32 mMy) (hc33 mPm) (hc34 mFy) (hc35 mFa) (hc36 mFr) (hc37 mFo) (hc38 mRt) (hc39 mRm) (hc40 mTt) (hc41 mTi) (hc42 mPl) (hc43 mVr) (hc44 mVf) (hc45 mVc) (hc46 mAr) (hc47 mTc) (hc48 mFt) (hc49 mGo) dyn, 0, 0)) rfl (fun h3 => ?_) (fun h3 => ?_)
        ·
          have h3 := qT_eq (cx := (w).toInt) (cy := 6) rfl (by decide) h3
          refine pm_go (g := (135, _, [.int 0], _, 0, 0)) rfl ?_
          refine pm_ret rfl (k1 (fun q => absurd q.2 ?_))
          unfold clR; rintro (q | ⟨q0, q, q2, q3⟩) <;> first | omega | (rcases q3 with q3 | q3 | q3 <;> omega) | (rcases q2 with q2 | q2 <;> simp_all; done)
        have h3 := qF_eq (cx := (w).toInt) (cy := 6) rfl (by decide) h3
        refine pm_go (g := (107, _, [.ref 25], _, 0, 0)) rfl ?_
        refine pm_go (g := (108, _, [.int t, .ref 25], _, 0, 0)) rfl ?_
        refine pm_go (g := (109, _, [.ref 25, .int t, .ref 25], _, 0, 0)) rfl ?_
        refine pm_go (g := (112, _, [.ref 28, .int t, .ref 25], _, 0, 0)) rfl ?_
        refine pm_go (g := (113, _, [.int m, .ref 28, .int t, .ref 25], _, 0, 0)) rfl ?_
        refine pm_sd (g := (114, _, [.int (mOt (m).toNatClampNeg), .int t, .ref 25], _, 0, 0)) rfl (pm_inI (by omega) (by omega)) ?_
        refine pm_callD (z := 132) (as := [.ref 25, .int t, .int (mOt (m).toNatClampNeg)]) (rest := []) rfl ?_
        refine w_X12_isUnder t (mOt (m).toNatClampNeg) (by assumption) (fun h4 => ?_) (fun h5 => ?_)
        ·
          show pm_WP 141 (117, [(7, .int (nI k)), (6, .int 1), (0, .ref 25), (1, .int m), (2, .int t), (3, .int w), (4, .int r), (5, .int a)], [.int 1], _, 0, 0) _
          refine pm_brT (g := (136, [(7, .int (nI k)), (6, .int 1), (0, .ref 25), (1, .int m), (2, .int t), (3, .int w), (4, .int r), (5, .int a)], [], hq g c1 c2 c3 c4 c5 c6 c7 c8 c9 c10 c11 c12 c13 c14 c15 c16 c17 c18 c19 c20 c21 c22 c23 c24 (hc25 mTy mTm mMn mFn mRn mTn mVn mLr mTr mFl mFm mFp mSc mMp mEn) (hc26 mPa) (hc27 mTo) (hc28 mOt) (hc29 mNa) (hc30 mRe) (hc31 mMa) (hc32 mMy) (hc33 mPm) (hc34 mFy) (hc35 mFa) (hc36 mFr) (hc37 mFo) (hc38 mRt) (hc39 mRm) (hc40 mTt) (hc41 mTi) (hc42 mPl) (hc43 mVr) (hc44 mVf) (hc45 mVc) (hc46 mAr) (hc47 mTc) (hc48 mFt) (hc49 mGo) dyn, 0, 0)) rfl ?_
          refine pm_go (g := (137, _, [.ref 25], _, 0, 0)) rfl ?_
          refine pm_go (g := (140, _, [.ref 31], _, 0, 0)) rfl ?_
          refine pm_go (g := (141, _, [.int m, .ref 31], _, 0, 0)) rfl ?_
          refine pm_sd (g := (142, _, [.int (mMa (m).toNatClampNeg)], _, 0, 0)) rfl (pm_inI (by omega) (by omega)) ?_
          refine pm_go (g := (144, _, [.int a, .int (mMa (m).toNatClampNeg)], _, 0, 0)) rfl ?_
          refine pm_go (g := (145, _, [.int ((mMa (m).toNatClampNeg) ||| a)], _, 0, 0)) rfl ?_
          refine pm_go (g := (146, _, [.int 1, .int ((mMa (m).toNatClampNeg) ||| a)], _, 0, 0)) rfl ?_
          refine pm_go (g := (147, _, [.int (((mMa (m).toNatClampNeg) ||| a) &&& 1)], _, 0, 0)) rfl ?_
          refine pm_if2 (g := (175, [(7, .int (nI k)), (6, .int 1), (0, .ref 25), (1, .int m), (2, .int t), (3, .int w), (4, .int r), (5, .int a)], [], hq g c1 c2 c3 c4 c5 c6 c7 c8 c9 c10 c11 c12 c13 c14 c15 c16 c17 c18 c19 c20 c21 c22 c23 c24 (hc25 mTy mTm mMn mFn mRn mTn mVn mLr mTr mFl mFm mFp mSc mMp mEn) (hc26 mPa) (hc27 mTo) (hc28 mOt) (hc29 mNa) (hc30 mRe) (hc31 mMa) (hc32 mMy) (hc33 mPm) (hc34 mFy) (hc35 mFa) (hc36 mFr) (hc37 mFo) (hc38 mRt) (hc39 mRm) (hc40 mTt) (hc41 mTi) (hc42 mPl) (hc43 mVr) (hc44 mVf) (hc45 mVc) (hc46 mAr) (hc47 mTc) (hc48 mFt) (hc49 mGo) dyn, 0, 0)) (h := (150, [(7, .int (nI k)), (6, .int 1), (0, .ref 25), (1, .int m), (2, .int t), (3, .int w), (4, .int r), (5, .int a)], [], hq g c1 c2 c3 c4 c5 c6 c7 c8 c9 c10 c11 c12 c13 c14 c15 c16 c17 c18 c19 c20 c21 c22 c23 c24 (hc25 mTy mTm mMn mFn mRn mTn mVn mLr mTr mFl mFm mFp mSc mMp mEn) (hc26 mPa) (hc27 mTo) (hc28 mOt) (hc29 mNa) (hc30 mRe) (hc31 mMa) (hc32 mMy) (hc33 mPm) (hc34 mFy) (hc35 mFa) (hc36 mFr) (hc37 mFo) (hc38 mRt) (hc39 mRm) (hc40 mTt) (hc41 mTi) (hc42 mPl) (hc43 mVr) (hc44 mVf) (hc45 mVc) (hc46 mAr) (hc47 mTc) (hc48 mFt) (hc49 mGo) dyn, 0, 0)) rfl (fun h7 => ?_) (fun h7 => ?_)
          ·
            have h7 := qT_ne (cx := (((mMa (m).toNatClampNeg) ||| a) &&& 1).toInt) (cy := 0) rfl (by decide) h7
            refine pm_go (g := (176, _, [.int 1], _, 0, 0)) rfl ?_
            refine pm_go (g := (180, _, [.int 1], _, 0, 0)) rfl ?_
            exact pm_ret rfl (k0 ⟨fun j g1 g2 => absurd g2 (by omega), (by unfold clR; first | (left; omega) | (right; refine ⟨by omega, by omega, ?_, ?_⟩; (first | (left; assumption) | (right; assumption)); (first | (left; omega) | (right; left; omega) | (right; right; omega))))⟩)
          have h7 := qF_ne (cx := (((mMa (m).toNatClampNeg) ||| a) &&& 1).toInt) (cy := 0) rfl (by decide) h7
          refine pm_go (g := (151, _, [.ref 25], _, 0, 0)) rfl ?_
          refine pm_go (g := (154, _, [.ref 30], _, 0, 0)) rfl ?_
          refine pm_go (g := (155, _, [.int m, .ref 30], _, 0, 0)) rfl ?_
          refine pm_sd (g := (156, _, [.int (mRe (m).toNatClampNeg)], _, 0, 0)) rfl (pm_inI (by omega) (by omega)) ?_
          refine pm_go (g := (158, _, [.int r, .int (mRe (m).toNatClampNeg)], _, 0, 0)) rfl ?_
          refine pm_if2 (g := (175, [(7, .int (nI k)), (6, .int 1), (0, .ref 25), (1, .int m), (2, .int t), (3, .int w), (4, .int r), (5, .int a)], [], hq g c1 c2 c3 c4 c5 c6 c7 c8 c9 c10 c11 c12 c13 c14 c15 c16 c17 c18 c19 c20 c21 c22 c23 c24 (hc25 mTy mTm mMn mFn mRn mTn mVn mLr mTr mFl mFm mFp mSc mMp mEn) (hc26 mPa) (hc27 mTo) (hc28 mOt) (hc29 mNa) (hc30 mRe) (hc31 mMa) (hc32 mMy) (hc33 mPm) (hc34 mFy) (hc35 mFa) (hc36 mFr) (hc37 mFo) (hc38 mRt) (hc39 mRm) (hc40 mTt) (hc41 mTi) (hc42 mPl) (hc43 mVr) (hc44 mVf) (hc45 mVc) (hc46 mAr) (hc47 mTc) (hc48 mFt) (hc49 mGo) dyn, 0, 0)) (h := (161, [(7, .int (nI k)), (6, .int 1), (0, .ref 25), (1, .int m), (2, .int t), (3, .int w), (4, .int r), (5, .int a)], [], hq g c1 c2 c3 c4 c5 c6 c7 c8 c9 c10 c11 c12 c13 c14 c15 c16 c17 c18 c19 c20 c21 c22 c23 c24 (hc25 mTy mTm mMn mFn mRn mTn mVn mLr mTr mFl mFm mFp mSc mMp mEn) (hc26 mPa) (hc27 mTo) (hc28 mOt) (hc29 mNa) (hc30 mRe) (hc31 mMa) (hc32 mMy) (hc33 mPm) (hc34 mFy) (hc35 mFa) (hc36 mFr) (hc37 mFo) (hc38 mRt) (hc39 mRm) (hc40 mTt) (hc41 mTi) (hc42 mPl) (hc43 mVr) (hc44 mVf) (hc45 mVc) (hc46 mAr) (hc47 mTc) (hc48 mFt) (hc49 mGo) dyn, 0, 0)) rfl (fun h8 => ?_) (fun h8 => ?_)
          ·
            have h8 := qT_ne (cx := (mRe (m).toNatClampNeg).toInt) (cy := (r).toInt) rfl rfl h8
            refine pm_go (g := (176, _, [.int 1], _, 0, 0)) rfl ?_
            refine pm_go (g := (180, _, [.int 1], _, 0, 0)) rfl ?_
            exact pm_ret rfl (k0 ⟨fun j g1 g2 => absurd g2 (by omega), (by unfold clR; first | (left; omega) | (right; refine ⟨by omega, by omega, ?_, ?_⟩; (first | (left; assumption) | (right; assumption)); (first | (left; omega) | (right; left; omega) | (right; right; omega))))⟩)
          have h8 := qF_ne (cx := (mRe (m).toNatClampNeg).toInt) (cy := (r).toInt) rfl rfl h8
          refine pm_go (g := (162, _, [.ref 25], _, 0, 0)) rfl ?_
          refine pm_go (g := (165, _, [.ref 31], _, 0, 0)) rfl ?_
          refine pm_go (g := (166, _, [.int m, .ref 31], _, 0, 0)) rfl ?_
          refine pm_sd (g := (167, _, [.int (mMa (m).toNatClampNeg)], _, 0, 0)) rfl (pm_inI (by omega) (by omega)) ?_
          refine pm_go (g := (169, _, [.int a, .int (mMa (m).toNatClampNeg)], _, 0, 0)) rfl ?_
          refine pm_go (g := (170, _, [.int ((mMa (m).toNatClampNeg) ^^^ a)], _, 0, 0)) rfl ?_
          refine pm_go (g := (171, _, [.int 4, .int ((mMa (m).toNatClampNeg) ^^^ a)], _, 0, 0)) rfl ?_
          refine pm_go (g := (172, _, [.int (((mMa (m).toNatClampNeg) ^^^ a) &&& 4)], _, 0, 0)) rfl ?_
          refine pm_if2 (g := (179, [(7, .int (nI k)), (6, .int 1), (0, .ref 25), (1, .int m), (2, .int t), (3, .int w), (4, .int r), (5, .int a)], [], hq g c1 c2 c3 c4 c5 c6 c7 c8 c9 c10 c11 c12 c13 c14 c15 c16 c17 c18 c19 c20 c21 c22 c23 c24 (hc25 mTy mTm mMn mFn mRn mTn mVn mLr mTr mFl mFm mFp mSc mMp mEn) (hc26 mPa) (hc27 mTo) (hc28 mOt) (hc29 mNa) (hc30 mRe) (hc31 mMa) (hc32 mMy) (hc33 mPm) (hc34 mFy) (hc35 mFa) (hc36 mFr) (hc37 mFo) (hc38 mRt) (hc39 mRm) (hc40 mTt) (hc41 mTi) (hc42 mPl) (hc43 mVr) (hc44 mVf) (hc45 mVc) (hc46 mAr) (hc47 mTc) (hc48 mFt) (hc49 mGo) dyn, 0, 0)) (h := (175, [(7, .int (nI k)), (6, .int 1), (0, .ref 25), (1, .int m), (2, .int t), (3, .int w), (4, .int r), (5, .int a)], [], hq g c1 c2 c3 c4 c5 c6 c7 c8 c9 c10 c11 c12 c13 c14 c15 c16 c17 c18 c19 c20 c21 c22 c23 c24 (hc25 mTy mTm mMn mFn mRn mTn mVn mLr mTr mFl mFm mFp mSc mMp mEn) (hc26 mPa) (hc27 mTo) (hc28 mOt) (hc29 mNa) (hc30 mRe) (hc31 mMa) (hc32 mMy) (hc33 mPm) (hc34 mFy) (hc35 mFa) (hc36 mFr) (hc37 mFo) (hc38 mRt) (hc39 mRm) (hc40 mTt) (hc41 mTi) (hc42 mPl) (hc43 mVr) (hc44 mVf) (hc45 mVc) (hc46 mAr) (hc47 mTc) (hc48 mFt) (hc49 mGo) dyn, 0, 0)) rfl (fun h9 => ?_) (fun h9 => ?_)
          ·
            have h9 := qT_eq (cx := (((mMa (m).toNatClampNeg) ^^^ a) &&& 4).toInt) (cy := 0) rfl (by decide) h9
            refine pm_go (g := (180, _, [.int 0], _, 0, 0)) rfl ?_
            refine pm_ret rfl (k1 (fun q => absurd q.2 ?_))
            unfold clR; rintro (q | ⟨q0, q, q2, q3⟩) <;> first | omega | (rcases q3 with q3 | q3 | q3 <;> omega) | (rcases q2 with q2 | q2 <;> simp_all; done)
          have h9 := qF_eq (cx := (((mMa (m).toNatClampNeg) ^^^ a) &&& 4).toInt) (cy := 0) rfl (by decide) h9
          refine pm_go (g := (176, _, [.int 1], _, 0, 0)) rfl ?_
          refine pm_go (g := (180, _, [.int 1], _, 0, 0)) rfl ?_
          exact pm_ret rfl (k0 ⟨fun j g1 g2 => absurd g2 (by omega), (by unfold clR; first | (left; omega) | (right; refine ⟨by omega, by omega, ?_, ?_⟩; (first | (left; assumption) | (right; assumption)); (first | (left; omega) | (right; left; omega) | (right; right; omega))))⟩)
        show pm_WP 141 (117, [(7, .int (nI k)), (6, .int 1), (0, .ref 25), (1, .int m), (2, .int t), (3, .int w), (4, .int r), (5, .int a)], [.int 0], hq g c1 c2 c3 c4 c5 c6 c7 c8 c9 c10 c11 c12 c13 c14 c15 c16 c17 c18 c19 c20 c21 c22 c23 c24 (hc25 mTy mTm mMn mFn mRn mTn mVn mLr mTr mFl mFm mFp mSc mMp mEn) (hc26 mPa) (hc27 mTo) (hc28 mOt) (hc29 mNa) (hc30 mRe) (hc31 mMa) (hc32 mMy) (hc33 mPm) (hc34 mFy) (hc35 mFa) (hc36 mFr) (hc37 mFo) (hc38 mRt) (hc39 mRm) (hc40 mTt) (hc41 mTi) (hc42 mPl) (hc43 mVr) (hc44 mVf) (hc45 mVc) (hc46 mAr) (hc47 mTc) (hc48 mFt) (hc49 mGo) dyn, 0, 0) _
        refine pm_brF (h := (120, [(7, .int (nI k)), (6, .int 1), (0, .ref 25), (1, .int m), (2, .int t), (3, .int w), (4, .int r), (5, .int a)], [], hq g c1 c2 c3 c4 c5 c6 c7 c8 c9 c10 c11 c12 c13 c14 c15 c16 c17 c18 c19 c20 c21 c22 c23 c24 (hc25 mTy mTm mMn mFn mRn mTn mVn mLr mTr mFl mFm mFp mSc mMp mEn) (hc26 mPa) (hc27 mTo) (hc28 mOt) (hc29 mNa) (hc30 mRe) (hc31 mMa) (hc32 mMy) (hc33 mPm) (hc34 mFy) (hc35 mFa) (hc36 mFr) (hc37 mFo) (hc38 mRt) (hc39 mRm) (hc40 mTt) (hc41 mTi) (hc42 mPl) (hc43 mVr) (hc44 mVf) (hc45 mVc) (hc46 mAr) (hc47 mTc) (hc48 mFt) (hc49 mGo) dyn, 0, 0)) rfl ?_
        refine pm_go (g := (121, _, [.ref 25], _, 0, 0)) rfl ?_
        refine pm_go (g := (122, _, [.ref 25, .ref 25], _, 0, 0)) rfl ?_
        refine pm_go (g := (125, _, [.ref 28, .ref 25], _, 0, 0)) rfl ?_
        refine pm_go (g := (126, _, [.int m, .ref 28, .ref 25], _, 0, 0)) rfl ?_
        refine pm_sd (g := (127, _, [.int (mOt (m).toNatClampNeg), .ref 25], _, 0, 0)) rfl (pm_inI (by omega) (by omega)) ?_
        refine pm_go (g := (128, _, [.int t, .int (mOt (m).toNatClampNeg), .ref 25], _, 0, 0)) rfl ?_
        refine pm_callD (z := 132) (as := [.ref 25, .int (mOt (m).toNatClampNeg), .int t]) (rest := []) rfl ?_
        refine w_X12_isUnder (mOt (m).toNatClampNeg) t (by assumption) (fun h10 => ?_) (fun h11 => ?_)
        ·
          show pm_WP 141 (131, [(7, .int (nI k)), (6, .int 1), (0, .ref 25), (1, .int m), (2, .int t), (3, .int w), (4, .int r), (5, .int a)], [.int 1], _, 0, 0) _
          refine pm_brT (g := (136, [(7, .int (nI k)), (6, .int 1), (0, .ref 25), (1, .int m), (2, .int t), (3, .int w), (4, .int r), (5, .int a)], [], hq g c1 c2 c3 c4 c5 c6 c7 c8 c9 c10 c11 c12 c13 c14 c15 c16 c17 c18 c19 c20 c21 c22 c23 c24 (hc25 mTy mTm mMn mFn mRn mTn mVn mLr mTr mFl mFm mFp mSc mMp mEn) (hc26 mPa) (hc27 mTo) (hc28 mOt) (hc29 mNa) (hc30 mRe) (hc31 mMa) (hc32 mMy) (hc33 mPm) (hc34 mFy) (hc35 mFa) (hc36 mFr) (hc37 mFo) (hc38 mRt) (hc39 mRm) (hc40 mTt) (hc41 mTi) (hc42 mPl) (hc43 mVr) (hc44 mVf) (hc45 mVc) (hc46 mAr) (hc47 mTc) (hc48 mFt) (hc49 mGo) dyn, 0, 0)) rfl ?_
          refine pm_go (g := (137, _, [.ref 25], _, 0, 0)) rfl ?_
          refine pm_go (g := (140, _, [.ref 31], _, 0, 0)) rfl ?_
          refine pm_go (g := (141, _, [.int m, .ref 31], _, 0, 0)) rfl ?_
          refine pm_sd (g := (142, _, [.int (mMa (m).toNatClampNeg)], _, 0, 0)) rfl (pm_inI (by omega) (by omega)) ?_
          refine pm_go (g := (144, _, [.int a, .int (mMa (m).toNatClampNeg)], _, 0, 0)) rfl ?_
          refine pm_go (g := (145, _, [.int ((mMa (m).toNatClampNeg) ||| a)], _, 0, 0)) rfl ?_
          refine pm_go (g := (146, _, [.int 1, .int ((mMa (m).toNatClampNeg) ||| a)], _, 0, 0)) rfl ?_
          refine pm_go (g := (147, _, [.int (((mMa (m).toNatClampNeg) ||| a) &&& 1)], _, 0, 0)) rfl ?_
          refine pm_if2 (g := (175, [(7, .int (nI k)), (6, .int 1), (0, .ref 25), (1, .int m), (2, .int t), (3, .int w), (4, .int r), (5, .int a)], [], hq g c1 c2 c3 c4 c5 c6 c7 c8 c9 c10 c11 c12 c13 c14 c15 c16 c17 c18 c19 c20 c21 c22 c23 c24 (hc25 mTy mTm mMn mFn mRn mTn mVn mLr mTr mFl mFm mFp mSc mMp mEn) (hc26 mPa) (hc27 mTo) (hc28 mOt) (hc29 mNa) (hc30 mRe) (hc31 mMa) (hc32 mMy) (hc33 mPm) (hc34 mFy) (hc35 mFa) (hc36 mFr) (hc37 mFo) (hc38 mRt) (hc39 mRm) (hc40 mTt) (hc41 mTi) (hc42 mPl) (hc43 mVr) (hc44 mVf) (hc45 mVc) (hc46 mAr) (hc47 mTc) (hc48 mFt) (hc49 mGo) dyn, 0, 0)) (h := (150, [(7, .int (nI k)), (6, .int 1), (0, .ref 25), (1, .int m), (2, .int t), (3, .int w), (4, .int r), (5, .int a)], [], hq g c1 c2 c3 c4 c5 c6 c7 c8 c9 c10 c11 c12 c13 c14 c15 c16 c17 c18 c19 c20 c21 c22 c23 c24 (hc25 mTy mTm mMn mFn mRn mTn mVn mLr mTr mFl mFm mFp mSc mMp mEn) (hc26 mPa) (hc27 mTo) (hc28 mOt) (hc29 mNa) (hc30 mRe) (hc31 mMa) (hc32 mMy) (hc33 mPm) (hc34 mFy) (hc35 mFa) (hc36 mFr) (hc37 mFo) (hc38 mRt) (hc39 mRm) (hc40 mTt) (hc41 mTi) (hc42 mPl) (hc43 mVr) (hc44 mVf) (hc45 mVc) (hc46 mAr) (hc47 mTc) (hc48 mFt) (hc49 mGo) dyn, 0, 0)) rfl (fun h13 => ?_) (fun h13 => ?_)
          ·
            have h13 := qT_ne (cx := (((mMa (m).toNatClampNeg) ||| a) &&& 1).toInt) (cy := 0) rfl (by decide) h13
            refine pm_go (g := (176, _, [.int 1], _, 0, 0)) rfl ?_
            refine pm_go (g := (180, _, [.int 1], _, 0, 0)) rfl ?_
            exact pm_ret rfl (k0 ⟨fun j g1 g2 => absurd g2 (by omega), (by unfold clR; first | (left; omega) | (right; refine ⟨by omega, by omega, ?_, ?_⟩; (first | (left; assumption) | (right; assumption)); (first | (left; omega) | (right; left; omega) | (right; right; omega))))⟩)
          have h13 := qF_ne (cx := (((mMa (m).toNatClampNeg) ||| a) &&& 1).toInt) (cy := 0) rfl (by decide) h13
          refine pm_go (g := (151, _, [.ref 25], _, 0, 0)) rfl ?_
          refine pm_go (g := (154, _, [.ref 30], _, 0, 0)) rfl ?_
          refine pm_go (g := (155, _, [.int m, .ref 30], _, 0, 0)) rfl ?_
          refine pm_sd (g := (156, _, [.int (mRe (m).toNatClampNeg)], _, 0, 0)) rfl (pm_inI (by omega) (by omega)) ?_
          refine pm_go (g := (158, _, [.int r, .int (mRe (m).toNatClampNeg)], _, 0, 0)) rfl ?_
          refine pm_if2 (g := (175, [(7, .int (nI k)), (6, .int 1), (0, .ref 25), (1, .int m), (2, .int t), (3, .int w), (4, .int r), (5, .int a)], [], hq g c1 c2 c3 c4 c5 c6 c7 c8 c9 c10 c11 c12 c13 c14 c15 c16 c17 c18 c19 c20 c21 c22 c23 c24 (hc25 mTy mTm mMn mFn mRn mTn mVn mLr mTr mFl mFm mFp mSc mMp mEn) (hc26 mPa) (hc27 mTo) (hc28 mOt) (hc29 mNa) (hc30 mRe) (hc31 mMa) (hc32 mMy) (hc33 mPm) (hc34 mFy) (hc35 mFa) (hc36 mFr) (hc37 mFo) (hc38 mRt) (hc39 mRm) (hc40 mTt) (hc41 mTi) (hc42 mPl) (hc43 mVr) (hc44 mVf) (hc45 mVc) (hc46 mAr) (hc47 mTc) (hc48 mFt) (hc49 mGo) dyn, 0, 0)) (h := (161, [(7, .int (nI k)), (6, .int 1), (0, .ref 25), (1, .int m), (2, .int t), (3, .int w), (4, .int r), (5, .int a)], [], hq g c1 c2 c3 c4 c5 c6 c7 c8 c9 c10 c11 c12 c13 c14 c15 c16 c17 c18 c19 c20 c21 c22 c23 c24 (hc25 mTy mTm mMn mFn mRn mTn mVn mLr mTr mFl mFm mFp mSc mMp mEn) (hc26 mPa) (hc27 mTo) (hc28 mOt) (hc29 mNa) (hc30 mRe) (hc31 mMa) (hc32 mMy) (hc33 mPm) (hc34 mFy) (hc35 mFa) (hc36 mFr) (hc37 mFo) (hc38 mRt) (hc39 mRm) (hc40 mTt) (hc41 mTi) (hc42 mPl) (hc43 mVr) (hc44 mVf) (hc45 mVc) (hc46 mAr) (hc47 mTc) (hc48 mFt) (hc49 mGo) dyn, 0, 0)) rfl (fun h14 => ?_) (fun h14 => ?_)
          ·
            have h14 := qT_ne (cx := (mRe (m).toNatClampNeg).toInt) (cy := (r).toInt) rfl rfl h14
            refine pm_go (g := (176, _, [.int 1], _, 0, 0)) rfl ?_
            refine pm_go (g := (180, _, [.int 1], _, 0, 0)) rfl ?_
            exact pm_ret rfl (k0 ⟨fun j g1 g2 => absurd g2 (by omega), (by unfold clR; first | (left; omega) | (right; refine ⟨by omega, by omega, ?_, ?_⟩; (first | (left; assumption) | (right; assumption)); (first | (left; omega) | (right; left; omega) | (right; right; omega))))⟩)
          have h14 := qF_ne (cx := (mRe (m).toNatClampNeg).toInt) (cy := (r).toInt) rfl rfl h14
          refine pm_go (g := (162, _, [.ref 25], _, 0, 0)) rfl ?_
          refine pm_go (g := (165, _, [.ref 31], _, 0, 0)) rfl ?_
          refine pm_go (g := (166, _, [.int m, .ref 31], _, 0, 0)) rfl ?_
          refine pm_sd (g := (167, _, [.int (mMa (m).toNatClampNeg)], _, 0, 0)) rfl (pm_inI (by omega) (by omega)) ?_
          refine pm_go (g := (169, _, [.int a, .int (mMa (m).toNatClampNeg)], _, 0, 0)) rfl ?_
          refine pm_go (g := (170, _, [.int ((mMa (m).toNatClampNeg) ^^^ a)], _, 0, 0)) rfl ?_
          refine pm_go (g := (171, _, [.int 4, .int ((mMa (m).toNatClampNeg) ^^^ a)], _, 0, 0)) rfl ?_
          refine pm_go (g := (172, _, [.int (((mMa (m).toNatClampNeg) ^^^ a) &&& 4)], _, 0, 0)) rfl ?_
          refine pm_if2 (g := (179, [(7, .int (nI k)), (6, .int 1), (0, .ref 25), (1, .int m), (2, .int t), (3, .int w), (4, .int r), (5, .int a)], [], hq g c1 c2 c3 c4 c5 c6 c7 c8 c9 c10 c11 c12 c13 c14 c15 c16 c17 c18 c19 c20 c21 c22 c23 c24 (hc25 mTy mTm mMn mFn mRn mTn mVn mLr mTr mFl mFm mFp mSc mMp mEn) (hc26 mPa) (hc27 mTo) (hc28 mOt) (hc29 mNa) (hc30 mRe) (hc31 mMa) (hc32 mMy) (hc33 mPm) (hc34 mFy) (hc35 mFa) (hc36 mFr) (hc37 mFo) (hc38 mRt) (hc39 mRm) (hc40 mTt) (hc41 mTi) (hc42 mPl) (hc43 mVr) (hc44 mVf) (hc45 mVc) (hc46 mAr) (hc47 mTc) (hc48 mFt) (hc49 mGo) dyn, 0, 0)) (h := (175, [(7, .int (nI k)), (6, .int 1), (0, .ref 25), (1, .int m), (2, .int t), (3, .int w), (4, .int r), (5, .int a)], [], hq g c1 c2 c3 c4 c5 c6 c7 c8 c9 c10 c11 c12 c13 c14 c15 c16 c17 c18 c19 c20 c21 c22 c23 c24 (hc25 mTy mTm mMn mFn mRn mTn mVn mLr mTr mFl mFm mFp mSc mMp mEn) (hc26 mPa) (hc27 mTo) (hc28 mOt) (hc29 mNa) (hc30 mRe) (hc31 mMa) (hc32 mMy) (hc33 mPm) (hc34 mFy) (hc35 mFa) (hc36 mFr) (hc37 mFo) (hc38 mRt) (hc39 mRm) (hc40 mTt) (hc41 mTi) (hc42 mPl) (hc43 mVr) (hc44 mVf) (hc45 mVc) (hc46 mAr) (hc47 mTc) (hc48 mFt) (hc49 mGo) dyn, 0, 0)) rfl (fun h15 => ?_) (fun h15 => ?_)
          ·
            have h15 := qT_eq (cx := (((mMa (m).toNatClampNeg) ^^^ a) &&& 4).toInt) (cy := 0) rfl (by decide) h15
            refine pm_go (g := (180, _, [.int 0], _, 0, 0)) rfl ?_
            refine pm_ret rfl (k1 (fun q => absurd q.2 ?_))
            unfold clR; rintro (q | ⟨q0, q, q2, q3⟩) <;> first | omega | (rcases q3 with q3 | q3 | q3 <;> omega) | (rcases q2 with q2 | q2 <;> simp_all; done)
          have h15 := qF_eq (cx := (((mMa (m).toNatClampNeg) ^^^ a) &&& 4).toInt) (cy := 0) rfl (by decide) h15
          refine pm_go (g := (176, _, [.int 1], _, 0, 0)) rfl ?_
          refine pm_go (g := (180, _, [.int 1], _, 0, 0)) rfl ?_
          exact pm_ret rfl (k0 ⟨fun j g1 g2 => absurd g2 (by omega), (by unfold clR; first | (left; omega) | (right; refine ⟨by omega, by omega, ?_, ?_⟩; (first | (left; assumption) | (right; assumption)); (first | (left; omega) | (right; left; omega) | (right; right; omega))))⟩)
        show pm_WP 141 (131, [(7, .int (nI k)), (6, .int 1), (0, .ref 25), (1, .int m), (2, .int t), (3, .int w), (4, .int r), (5, .int a)], [.int 0], hq g c1 c2 c3 c4 c5 c6 c7 c8 c9 c10 c11 c12 c13 c14 c15 c16 c17 c18 c19 c20 c21 c22 c23 c24 (hc25 mTy mTm mMn mFn mRn mTn mVn mLr mTr mFl mFm mFp mSc mMp mEn) (hc26 mPa) (hc27 mTo) (hc28 mOt) (hc29 mNa) (hc30 mRe) (hc31 mMa) (hc32 mMy) (hc33 mPm) (hc34 mFy) (hc35 mFa) (hc36 mFr) (hc37 mFo) (hc38 mRt) (hc39 mRm) (hc40 mTt) (hc41 mTi) (hc42 mPl) (hc43 mVr) (hc44 mVf) (hc45 mVc) (hc46 mAr) (hc47 mTc) (hc48 mFt) (hc49 mGo) dyn, 0, 0) _
        refine pm_brF (h := (134, [(7, .int (nI k)), (6, .int 1), (0, .ref 25), (1, .int m), (2, .int t), (3, .int w), (4, .int r), (5, .int a)], [], hq g c1 c2 c3 c4 c5 c6 c7 c8 c9 c10 c11 c12 c13 c14 c15 c16 c17 c18 c19 c20 c21 c22 c23 c24 (hc25 mTy mTm mMn mFn mRn mTn mVn mLr mTr mFl mFm mFp mSc mMp mEn) (hc26 mPa) (hc27 mTo) (hc28 mOt) (hc29 mNa) (hc30 mRe) (hc31 mMa) (hc32 mMy) (hc33 mPm) (hc34 mFy) (hc35 mFa) (hc36 mFr) (hc37 mFo) (hc38 mRt) (hc39 mRm) (hc40 mTt) (hc41 mTi) (hc42 mPl) (hc43 mVr) (hc44 mVf) (hc45 mVc) (hc46 mAr) (hc47 mTc) (hc48 mFt) (hc49 mGo) dyn, 0, 0)) rfl ?_
        refine pm_go (g := (135, _, [.int 0], _, 0, 0)) rfl ?_
        refine pm_ret rfl (k1 (fun q => absurd q.2 ?_))
        unfold clR; rintro (q | ⟨q0, q, q2, q3⟩) <;> first | omega | (rcases q3 with q3 | q3 | q3 <;> omega) | (rcases q2 with q2 | q2 <;> simp_all; done)
      have h2 := qF_ne (cx := (mOt (m).toNatClampNeg).toInt) (cy := (t).toInt) rfl rfl h2
      refine pm_go (g := (99, _, [.int 1], _, 0, 0)) rfl ?_
      exact pm_ret rfl (k0 ⟨fun j g1 g2 => absurd g2 (by omega), (by unfold clR; first | (left; omega) | (right; refine ⟨by omega, by omega, ?_, ?_⟩; (first | (left; assumption) | (right; assumption)); (first | (left; omega) | (right; left; omega) | (right; right; omega))))⟩)
    have h1 := qF_ge (cx := (nI k).toInt) (cy := (mTm).toInt) rfl rfl h1
    refine pm_go (g := (48, _, [.ref 25], _, 0, 0)) rfl ?_
    refine pm_go (g := (51, _, [.ref 33], _, 0, 0)) rfl ?_
    refine pm_go (g := (52, _, [.int 3, .ref 33], _, 0, 0)) rfl ?_
    refine pm_go (g := (53, _, [.int m, .int 3, .ref 33], _, 0, 0)) rfl ?_
    refine pm_go (g := (54, _, [.int (3 * m), .ref 33], _, 0, 0)) rfl ?_
    try have h16 : (3 * m).toInt = 3 * (m).toInt := iMul (x := 3) (y := (m).toInt) (by decide) rfl (by omega) (by omega)
    refine pm_go (g := (56, _, [.int (nI k), .int (3 * m), .ref 33], _, 0, 0)) rfl ?_
    refine pm_go (g := (57, _, [.int ((3 * m) + (nI k)), .ref 33], _, 0, 0)) rfl ?_
    try have h17 : ((3 * m) + (nI k)).toInt = (3 * m).toInt + (nI k).toInt := iAdd (x := (3 * m).toInt) (y := (nI k).toInt) rfl rfl (by omega) (by omega)
    refine pm_sd (g := (58, _, [.int (mPm ((3 * m) + (nI k)).toNatClampNeg)], _, 0, 0)) rfl (pm_inI (by omega) (by omega)) ?_
    refine pm_go (g := (59, _, [.ref 25, .int (mPm ((3 * m) + (nI k)).toNatClampNeg)], _, 0, 0)) rfl ?_
    refine pm_go (g := (62, _, [.ref 27, .int (mPm ((3 * m) + (nI k)).toNatClampNeg)], _, 0, 0)) rfl ?_
    refine pm_go (g := (64, _, [.int (nI k), .ref 27, .int (mPm ((3 * m) + (nI k)).toNatClampNeg)], _, 0, 0)) rfl ?_
    refine pm_sd (g := (65, _, [.int (mTo (nI k).toNatClampNeg), .int (mPm ((3 * m) + (nI k)).toNatClampNeg)], _, 0, 0)) rfl (pm_inI (by omega) (by omega)) ?_
    refine pm_if2 (g := (72, [(7, .int (nI k)), (6, .int 1), (0, .ref 25), (1, .int m), (2, .int t), (3, .int w), (4, .int r), (5, .int a)], [], hq g c1 c2 c3 c4 c5 c6 c7 c8 c9 c10 c11 c12 c13 c14 c15 c16 c17 c18 c19 c20 c21 c22 c23 c24 (hc25 mTy mTm mMn mFn mRn mTn mVn mLr mTr mFl mFm mFp mSc mMp mEn) (hc26 mPa) (hc27 mTo) (hc28 mOt) (hc29 mNa) (hc30 mRe) (hc31 mMa) (hc32 mMy) (hc33 mPm) (hc34 mFy) (hc35 mFa) (hc36 mFr) (hc37 mFo) (hc38 mRt) (hc39 mRm) (hc40 mTt) (hc41 mTi) (hc42 mPl) (hc43 mVr) (hc44 mVf) (hc45 mVc) (hc46 mAr) (hc47 mTc) (hc48 mFt) (hc49 mGo) dyn, 0, 0)) (h := (68, [(7, .int (nI k)), (6, .int 1), (0, .ref 25), (1, .int m), (2, .int t), (3, .int w), (4, .int r), (5, .int a)], [], hq g c1 c2 c3 c4 c5 c6 c7 c8 c9 c10 c11 c12 c13 c14 c15 c16 c17 c18 c19 c20 c21 c22 c23 c24 (hc25 mTy mTm mMn mFn mRn mTn mVn mLr mTr mFl mFm mFp mSc mMp mEn) (hc26 mPa) (hc27 mTo) (hc28 mOt) (hc29 mNa) (hc30 mRe) (hc31 mMa) (hc32 mMy) (hc33 mPm) (hc34 mFy) (hc35 mFa) (hc36 mFr) (hc37 mFo) (hc38 mRt) (hc39 mRm) (hc40 mTt) (hc41 mTi) (hc42 mPl) (hc43 mVr) (hc44 mVf) (hc45 mVc) (hc46 mAr) (hc47 mTc) (hc48 mFt) (hc49 mGo) dyn, 0, 0)) rfl (fun h18 => ?_) (fun h18 => ?_)
    ·
      have h18 := qT_ne (cx := (mPm ((3 * m) + (nI k)).toNatClampNeg).toInt) (cy := (mTo (nI k).toNatClampNeg).toInt) rfl rfl h18
      refine pm_go (g := (73, _, [.int 0], _, 0, 0)) rfl ?_
      refine pm_go (g := (75, [(6, .int 0), (7, .int (nI k)), (0, .ref 25), (1, .int m), (2, .int t), (3, .int w), (4, .int r), (5, .int a)], [], _, 0, 0)) rfl ?_
      refine pm_go (g := (78, [(7, .int ((nI k) + 1)), (6, .int 0), (0, .ref 25), (1, .int m), (2, .int t), (3, .int w), (4, .int r), (5, .int a)], [], _, 0, 0)) rfl ?_
      refine pm_go (g := (33, _, [], _, 0, 0)) rfl ?_
      refine pm_go (g := (35, _, [.int 0], _, 0, 0)) rfl ?_
      refine pm_brT (g := (81, [(7, .int ((nI k) + 1)), (6, .int 0), (0, .ref 25), (1, .int m), (2, .int t), (3, .int w), (4, .int r), (5, .int a)], [], hq g c1 c2 c3 c4 c5 c6 c7 c8 c9 c10 c11 c12 c13 c14 c15 c16 c17 c18 c19 c20 c21 c22 c23 c24 (hc25 mTy mTm mMn mFn mRn mTn mVn mLr mTr mFl mFm mFp mSc mMp mEn) (hc26 mPa) (hc27 mTo) (hc28 mOt) (hc29 mNa) (hc30 mRe) (hc31 mMa) (hc32 mMy) (hc33 mPm) (hc34 mFy) (hc35 mFa) (hc36 mFr) (hc37 mFo) (hc38 mRt) (hc39 mRm) (hc40 mTt) (hc41 mTi) (hc42 mPl) (hc43 mVr) (hc44 mVf) (hc45 mVc) (hc46 mAr) (hc47 mTc) (hc48 mFt) (hc49 mGo) dyn, 0, 0)) rfl ?_
      refine pm_go (g := (83, _, [.int 0], _, 0, 0)) rfl ?_
      refine pm_brF (h := (86, [(7, .int ((nI k) + 1)), (6, .int 0), (0, .ref 25), (1, .int m), (2, .int t), (3, .int w), (4, .int r), (5, .int a)], [], hq g c1 c2 c3 c4 c5 c6 c7 c8 c9 c10 c11 c12 c13 c14 c15 c16 c17 c18 c19 c20 c21 c22 c23 c24 (hc25 mTy mTm mMn mFn mRn mTn mVn mLr mTr mFl mFm mFp mSc mMp mEn) (hc26 mPa) (hc27 mTo) (hc28 mOt) (hc29 mNa) (hc30 mRe) (hc31 mMa) (hc32 mMy) (hc33 mPm) (hc34 mFy) (hc35 mFa) (hc36 mFr) (hc37 mFo) (hc38 mRt) (hc39 mRm) (hc40 mTt) (hc41 mTi) (hc42 mPl) (hc43 mVr) (hc44 mVf) (hc45 mVc) (hc46 mAr) (hc47 mTc) (hc48 mFt) (hc49 mGo) dyn, 0, 0)) rfl ?_
      refine pm_go (g := (87, _, [.int 0], _, 0, 0)) rfl ?_
      exact pm_ret rfl (k1 (fun q => absurd (q.1 k (Nat.le_refl k) (by omega)) (xK (by omega))))
    have h18 := qF_ne (cx := (mPm ((3 * m) + (nI k)).toNatClampNeg).toInt) (cy := (mTo (nI k).toNatClampNeg).toInt) rfl rfl h18
    refine pm_go (g := (69, [(7, .int (nI k)), (6, .int 1), (0, .ref 25), (1, .int m), (2, .int t), (3, .int w), (4, .int r), (5, .int a)], [.int 1], _, 0, 0)) rfl ?_
    refine pm_go (g := (73, _, [.int 1], _, 0, 0)) rfl ?_
    refine pm_go (g := (75, [(6, .int 1), (7, .int (nI k)), (0, .ref 25), (1, .int m), (2, .int t), (3, .int w), (4, .int r), (5, .int a)], [], _, 0, 0)) rfl ?_
    refine pm_go (g := (78, [(7, .int ((nI k) + 1)), (6, .int 1), (0, .ref 25), (1, .int m), (2, .int t), (3, .int w), (4, .int r), (5, .int a)], [], _, 0, 0)) rfl ?_
    refine pm_go (g := (33, _, [], _, 0, 0)) rfl ?_
    rw [nI_1]
    refine ih (k + 1) (by omega) (by omega) (fun h => k0 ⟨fun j g1 g2 => ?_, h.2⟩) (fun h => k1 (fun q => h ⟨fun j g1 g2 => q.1 j (by omega) g2, q.2⟩))
    rcases Nat.eq_or_lt_of_le g1 with e9 | e9
    · subst e9; exact xJ (by omega)
    · exact h.1 j e9 g2
set_option maxRecDepth 100000 in
set_option maxHeartbeats 4000000 in
theorem w_X12_isClash {g c1 c2 c3 c4 c5 c6 c7 c8 c9 c10 c11 c12 c13 c14 c15 c16 c17 c18 c19 c20 c21 c22 c23 c24 : pm_C} {dyn : pm_H} {mTy : Int32} {mPa : Nat → Int32} {mTo : Nat → Int32} {mTm : Int32} {mMn : Int32} {mOt : Nat → Int32} {mNa : Nat → Int32} {mRe : Nat → Int32} {mMa : Nat → Int32} {mMy : Nat → Int32} {mPm : Nat → Int32} {mFn : Int32} {mFy : Nat → Int32} {mFa : Nat → Int32} {mFr : Nat → Int32} {mRn : Int32} {mFo : Nat → Int32} {mRt : Nat → Int32} {mRm : Nat → Int32} {mTn : Int32} {mTt : Nat → Int32} {mTi : Nat → Int32} {mPl : Nat → Int32} {mVn : Int32} {mVr : Nat → Int32} {mVf : Nat → Int32} {mVc : Nat → Int32} {mAr : Nat → Int32} {mLr : Int32} {mTc : Nat → Int32} {mTr : Int32} {mFl : Int32} {mFt : Nat → Int32} {mFm : Int32} {mFp : Int32} {mSc : Int32} {mMp : Int32} {mEn : Int32} {mGo : Nat → Int32} {Q : pm_Q} (m : Int32) (t : Int32) (w : Int32) (r : Int32) (a : Int32) (p0 : 0 ≤ m.toInt ∧ m.toInt < 40) (p1 : paD mPa) (p2 : 0 ≤ mTm.toInt ∧ mTm.toInt ≤ 3) (k0 : clM mPa mOt mNa mRe mMa mMy mPm mTo mTm m t w r a → Q (some (.int 1)) (hq g c1 c2 c3 c4 c5 c6 c7 c8 c9 c10 c11 c12 c13 c14 c15 c16 c17 c18 c19 c20 c21 c22 c23 c24 (hc25 mTy mTm mMn mFn mRn mTn mVn mLr mTr mFl mFm mFp mSc mMp mEn) (hc26 mPa) (hc27 mTo) (hc28 mOt) (hc29 mNa) (hc30 mRe) (hc31 mMa) (hc32 mMy) (hc33 mPm) (hc34 mFy) (hc35 mFa) (hc36 mFr) (hc37 mFo) (hc38 mRt) (hc39 mRm) (hc40 mTt) (hc41 mTi) (hc42 mPl) (hc43 mVr) (hc44 mVf) (hc45 mVc) (hc46 mAr) (hc47 mTc) (hc48 mFt) (hc49 mGo) dyn)) (k1 : ¬ clM mPa mOt mNa mRe mMa mMy mPm mTo mTm m t w r a → Q (some (.int 0)) (hq g c1 c2 c3 c4 c5 c6 c7 c8 c9 c10 c11 c12 c13 c14 c15 c16 c17 c18 c19 c20 c21 c22 c23 c24 (hc25 mTy mTm mMn mFn mRn mTn mVn mLr mTr mFl mFm mFp mSc mMp mEn) (hc26 mPa) (hc27 mTo) (hc28 mOt) (hc29 mNa) (hc30 mRe) (hc31 mMa) (hc32 mMy) (hc33 mPm) (hc34 mFy) (hc35 mFa) (hc36 mFr) (hc37 mFo) (hc38 mRt) (hc39 mRm) (hc40 mTt) (hc41 mTi) (hc42 mPl) (hc43 mVr) (hc44 mVf) (hc45 mVc) (hc46 mAr) (hc47 mTc) (hc48 mFt) (hc49 mGo) dyn)) : pm_WP 141 (0, [(0, .ref 25), (1, .int m), (2, .int t), (3, .int w), (4, .int r), (5, .int a)], [], hq g c1 c2 c3 c4 c5 c6 c7 c8 c9 c10 c11 c12 c13 c14 c15 c16 c17 c18 c19 c20 c21 c22 c23 c24 (hc25 mTy mTm mMn mFn mRn mTn mVn mLr mTr mFl mFm mFp mSc mMp mEn) (hc26 mPa) (hc27 mTo) (hc28 mOt) (hc29 mNa) (hc30 mRe) (hc31 mMa) (hc32 mMy) (hc33 mPm) (hc34 mFy) (hc35 mFa) (hc36 mFr) (hc37 mFo) (hc38 mRt) (hc39 mRm) (hc40 mTt) (hc41 mTi) (hc42 mPl) (hc43 mVr) (hc44 mVf) (hc45 mVc) (hc46 mAr) (hc47 mTc) (hc48 mFt) (hc49 mGo) dyn, 0, 0) Q := by
  refine pm_go (g := (1, [(0, .ref 25), (1, .int m), (2, .int t), (3, .int w), (4, .int r), (5, .int a)], [.ref 25], hq g c1 c2 c3 c4 c5 c6 c7 c8 c9 c10 c11 c12 c13 c14 c15 c16 c17 c18 c19 c20 c21 c22 c23 c24 (hc25 mTy mTm mMn mFn mRn mTn mVn mLr mTr mFl mFm mFp mSc mMp mEn) (hc26 mPa) (hc27 mTo) (hc28 mOt) (hc29 mNa) (hc30 mRe) (hc31 mMa) (hc32 mMy) (hc33 mPm) (hc34 mFy) (hc35 mFa) (hc36 mFr) (hc37 mFo) (hc38 mRt) (hc39 mRm) (hc40 mTt) (hc41 mTi) (hc42 mPl) (hc43 mVr) (hc44 mVf) (hc45 mVc) (hc46 mAr) (hc47 mTc) (hc48 mFt) (hc49 mGo) dyn, 0, 0)) rfl ?_
  refine pm_go (g := (4, _, [.ref 29], _, 0, 0)) rfl ?_
  refine pm_go (g := (5, _, [.int m, .ref 29], _, 0, 0)) rfl ?_
  refine pm_sd (g := (6, _, [.int (mNa (m).toNatClampNeg)], _, 0, 0)) rfl (pm_inI (by omega) (by omega)) ?_
  refine pm_go (g := (7, _, [.int w, .int (mNa (m).toNatClampNeg)], _, 0, 0)) rfl ?_
  refine pm_if2 (g := (27, [(0, .ref 25), (1, .int m), (2, .int t), (3, .int w), (4, .int r), (5, .int a)], [], hq g c1 c2 c3 c4 c5 c6 c7 c8 c9 c10 c11 c12 c13 c14 c15 c16 c17 c18 c19 c20 c21 c22 c23 c24 (hc25 mTy mTm mMn mFn mRn mTn mVn mLr mTr mFl mFm mFp mSc mMp mEn) (hc26 mPa) (hc27 mTo) (hc28 mOt) (hc29 mNa) (hc30 mRe) (hc31 mMa) (hc32 mMy) (hc33 mPm) (hc34 mFy) (hc35 mFa) (hc36 mFr) (hc37 mFo) (hc38 mRt) (hc39 mRm) (hc40 mTt) (hc41 mTi) (hc42 mPl) (hc43 mVr) (hc44 mVf) (hc45 mVc) (hc46 mAr) (hc47 mTc) (hc48 mFt) (hc49 mGo) dyn, 0, 0)) (h := (10, [(0, .ref 25), (1, .int m), (2, .int t), (3, .int w), (4, .int r), (5, .int a)], [], hq g c1 c2 c3 c4 c5 c6 c7 c8 c9 c10 c11 c12 c13 c14 c15 c16 c17 c18 c19 c20 c21 c22 c23 c24 (hc25 mTy mTm mMn mFn mRn mTn mVn mLr mTr mFl mFm mFp mSc mMp mEn) (hc26 mPa) (hc27 mTo) (hc28 mOt) (hc29 mNa) (hc30 mRe) (hc31 mMa) (hc32 mMy) (hc33 mPm) (hc34 mFy) (hc35 mFa) (hc36 mFr) (hc37 mFo) (hc38 mRt) (hc39 mRm) (hc40 mTt) (hc41 mTi) (hc42 mPl) (hc43 mVr) (hc44 mVf) (hc45 mVc) (hc46 mAr) (hc47 mTc) (hc48 mFt) (hc49 mGo) dyn, 0, 0)) rfl (fun h1 => ?_) (fun h1 => ?_)
  ·
    have h1 := qT_ne (cx := (mNa (m).toNatClampNeg).toInt) (cy := (w).toInt) rfl rfl h1
    refine pm_go (g := (28, _, [.int 0], _, 0, 0)) rfl ?_
    refine pm_go (g := (30, [(6, .int 0), (0, .ref 25), (1, .int m), (2, .int t), (3, .int w), (4, .int r), (5, .int a)], [], _, 0, 0)) rfl ?_
    refine pm_go (g := (31, _, [.int 0], _, 0, 0)) rfl ?_
    refine pm_go (g := (33, [(7, .int 0), (6, .int 0), (0, .ref 25), (1, .int m), (2, .int t), (3, .int w), (4, .int r), (5, .int a)], [], _, 0, 0)) rfl ?_
    refine pm_go (g := (35, _, [.int 0], _, 0, 0)) rfl ?_
    refine pm_brT (g := (81, [(7, .int 0), (6, .int 0), (0, .ref 25), (1, .int m), (2, .int t), (3, .int w), (4, .int r), (5, .int a)], [], hq g c1 c2 c3 c4 c5 c6 c7 c8 c9 c10 c11 c12 c13 c14 c15 c16 c17 c18 c19 c20 c21 c22 c23 c24 (hc25 mTy mTm mMn mFn mRn mTn mVn mLr mTr mFl mFm mFp mSc mMp mEn) (hc26 mPa) (hc27 mTo) (hc28 mOt) (hc29 mNa) (hc30 mRe) (hc31 mMa) (hc32 mMy) (hc33 mPm) (hc34 mFy) (hc35 mFa) (hc36 mFr) (hc37 mFo) (hc38 mRt) (hc39 mRm) (hc40 mTt) (hc41 mTi) (hc42 mPl) (hc43 mVr) (hc44 mVf) (hc45 mVc) (hc46 mAr) (hc47 mTc) (hc48 mFt) (hc49 mGo) dyn, 0, 0)) rfl ?_
    refine pm_go (g := (83, _, [.int 0], _, 0, 0)) rfl ?_
    refine pm_brF (h := (86, [(7, .int 0), (6, .int 0), (0, .ref 25), (1, .int m), (2, .int t), (3, .int w), (4, .int r), (5, .int a)], [], hq g c1 c2 c3 c4 c5 c6 c7 c8 c9 c10 c11 c12 c13 c14 c15 c16 c17 c18 c19 c20 c21 c22 c23 c24 (hc25 mTy mTm mMn mFn mRn mTn mVn mLr mTr mFl mFm mFp mSc mMp mEn) (hc26 mPa) (hc27 mTo) (hc28 mOt) (hc29 mNa) (hc30 mRe) (hc31 mMa) (hc32 mMy) (hc33 mPm) (hc34 mFy) (hc35 mFa) (hc36 mFr) (hc37 mFo) (hc38 mRt) (hc39 mRm) (hc40 mTt) (hc41 mTi) (hc42 mPl) (hc43 mVr) (hc44 mVf) (hc45 mVc) (hc46 mAr) (hc47 mTc) (hc48 mFt) (hc49 mGo) dyn, 0, 0)) rfl ?_
    refine pm_go (g := (87, _, [.int 0], _, 0, 0)) rfl ?_
    exact pm_ret rfl (k1 (fun q => by have e1 := q.1; have e2 := q.2.1; omega))
  have h1 := qF_ne (cx := (mNa (m).toNatClampNeg).toInt) (cy := (w).toInt) rfl rfl h1
  refine pm_go (g := (11, [(0, .ref 25), (1, .int m), (2, .int t), (3, .int w), (4, .int r), (5, .int a)], [.ref 25], _, 0, 0)) rfl ?_
  refine pm_go (g := (14, _, [.ref 32], _, 0, 0)) rfl ?_
  refine pm_go (g := (15, _, [.int m, .ref 32], _, 0, 0)) rfl ?_
  refine pm_sd (g := (16, _, [.int (mMy (m).toNatClampNeg)], _, 0, 0)) rfl (pm_inI (by omega) (by omega)) ?_
  refine pm_go (g := (17, _, [.ref 25, .int (mMy (m).toNatClampNeg)], _, 0, 0)) rfl ?_
  refine pm_go (g := (20, _, [.int mTm, .int (mMy (m).toNatClampNeg)], _, 0, 0)) rfl ?_
  refine pm_if2 (g := (27, [(0, .ref 25), (1, .int m), (2, .int t), (3, .int w), (4, .int r), (5, .int a)], [], hq g c1 c2 c3 c4 c5 c6 c7 c8 c9 c10 c11 c12 c13 c14 c15 c16 c17 c18 c19 c20 c21 c22 c23 c24 (hc25 mTy mTm mMn mFn mRn mTn mVn mLr mTr mFl mFm mFp mSc mMp mEn) (hc26 mPa) (hc27 mTo) (hc28 mOt) (hc29 mNa) (hc30 mRe) (hc31 mMa) (hc32 mMy) (hc33 mPm) (hc34 mFy) (hc35 mFa) (hc36 mFr) (hc37 mFo) (hc38 mRt) (hc39 mRm) (hc40 mTt) (hc41 mTi) (hc42 mPl) (hc43 mVr) (hc44 mVf) (hc45 mVc) (hc46 mAr) (hc47 mTc) (hc48 mFt) (hc49 mGo) dyn, 0, 0)) (h := (23, [(0, .ref 25), (1, .int m), (2, .int t), (3, .int w), (4, .int r), (5, .int a)], [], hq g c1 c2 c3 c4 c5 c6 c7 c8 c9 c10 c11 c12 c13 c14 c15 c16 c17 c18 c19 c20 c21 c22 c23 c24 (hc25 mTy mTm mMn mFn mRn mTn mVn mLr mTr mFl mFm mFp mSc mMp mEn) (hc26 mPa) (hc27 mTo) (hc28 mOt) (hc29 mNa) (hc30 mRe) (hc31 mMa) (hc32 mMy) (hc33 mPm) (hc34 mFy) (hc35 mFa) (hc36 mFr) (hc37 mFo) (hc38 mRt) (hc39 mRm) (hc40 mTt) (hc41 mTi) (hc42 mPl) (hc43 mVr) (hc44 mVf) (hc45 mVc) (hc46 mAr) (hc47 mTc) (hc48 mFt) (hc49 mGo) dyn, 0, 0)) rfl (fun h2 => ?_) (fun h2 => ?_)
  ·
    have h2 := qT_ne (cx := (mMy (m).toNatClampNeg).toInt) (cy := (mTm).toInt) rfl rfl h2
    refine pm_go (g := (28, _, [.int 0], _, 0, 0)) rfl ?_
    refine pm_go (g := (30, [(6, .int 0), (0, .ref 25), (1, .int m), (2, .int t), (3, .int w), (4, .int r), (5, .int a)], [], _, 0, 0)) rfl ?_
    refine pm_go (g := (31, _, [.int 0], _, 0, 0)) rfl ?_
    refine pm_go (g := (33, [(7, .int 0), (6, .int 0), (0, .ref 25), (1, .int m), (2, .int t), (3, .int w), (4, .int r), (5, .int a)], [], _, 0, 0)) rfl ?_
    refine pm_go (g := (35, _, [.int 0], _, 0, 0)) rfl ?_
    refine pm_brT (g := (81, [(7, .int 0), (6, .int 0), (0, .ref 25), (1, .int m), (2, .int t), (3, .int w), (4, .int r), (5, .int a)], [], hq g c1 c2 c3 c4 c5 c6 c7 c8 c9 c10 c11 c12 c13 c14 c15 c16 c17 c18 c19 c20 c21 c22 c23 c24 (hc25 mTy mTm mMn mFn mRn mTn mVn mLr mTr mFl mFm mFp mSc mMp mEn) (hc26 mPa) (hc27 mTo) (hc28 mOt) (hc29 mNa) (hc30 mRe) (hc31 mMa) (hc32 mMy) (hc33 mPm) (hc34 mFy) (hc35 mFa) (hc36 mFr) (hc37 mFo) (hc38 mRt) (hc39 mRm) (hc40 mTt) (hc41 mTi) (hc42 mPl) (hc43 mVr) (hc44 mVf) (hc45 mVc) (hc46 mAr) (hc47 mTc) (hc48 mFt) (hc49 mGo) dyn, 0, 0)) rfl ?_
    refine pm_go (g := (83, _, [.int 0], _, 0, 0)) rfl ?_
    refine pm_brF (h := (86, [(7, .int 0), (6, .int 0), (0, .ref 25), (1, .int m), (2, .int t), (3, .int w), (4, .int r), (5, .int a)], [], hq g c1 c2 c3 c4 c5 c6 c7 c8 c9 c10 c11 c12 c13 c14 c15 c16 c17 c18 c19 c20 c21 c22 c23 c24 (hc25 mTy mTm mMn mFn mRn mTn mVn mLr mTr mFl mFm mFp mSc mMp mEn) (hc26 mPa) (hc27 mTo) (hc28 mOt) (hc29 mNa) (hc30 mRe) (hc31 mMa) (hc32 mMy) (hc33 mPm) (hc34 mFy) (hc35 mFa) (hc36 mFr) (hc37 mFo) (hc38 mRt) (hc39 mRm) (hc40 mTt) (hc41 mTi) (hc42 mPl) (hc43 mVr) (hc44 mVf) (hc45 mVc) (hc46 mAr) (hc47 mTc) (hc48 mFt) (hc49 mGo) dyn, 0, 0)) rfl ?_
    refine pm_go (g := (87, _, [.int 0], _, 0, 0)) rfl ?_
    exact pm_ret rfl (k1 (fun q => by have e1 := q.1; have e2 := q.2.1; omega))
  have h2 := qF_ne (cx := (mMy (m).toNatClampNeg).toInt) (cy := (mTm).toInt) rfl rfl h2
  refine pm_go (g := (24, [(0, .ref 25), (1, .int m), (2, .int t), (3, .int w), (4, .int r), (5, .int a)], [.int 1], _, 0, 0)) rfl ?_
  refine pm_go (g := (28, _, [.int 1], _, 0, 0)) rfl ?_
  refine pm_go (g := (30, [(6, .int 1), (0, .ref 25), (1, .int m), (2, .int t), (3, .int w), (4, .int r), (5, .int a)], [], _, 0, 0)) rfl ?_
  refine pm_go (g := (31, _, [.int 0], _, 0, 0)) rfl ?_
  refine pm_go (g := (33, [(7, .int 0), (6, .int 1), (0, .ref 25), (1, .int m), (2, .int t), (3, .int w), (4, .int r), (5, .int a)], [], _, 0, 0)) rfl ?_
  exact w_isClash_loop m t w r a p0 p1 p2 4 0 (by omega) (by omega) (fun h => k0 ⟨by omega, by omega, h.1, h.2⟩) (fun h => k1 (fun q => h ⟨q.2.2.1, q.2.2.2⟩))
set_option maxRecDepth 100000 in
set_option maxHeartbeats 4000000 in
theorem w_member_copy {g c1 c2 c3 c4 c5 c6 c7 c8 c9 c10 c11 c12 c13 c14 c15 c16 c17 c18 c19 c20 c21 c22 c23 c24 : pm_C} {dyn : pm_H} {mTy : Int32} {mPa : Nat → Int32} {mTo : Nat → Int32} {mTm : Int32} {mMn : Int32} {mOt : Nat → Int32} {mNa : Nat → Int32} {mRe : Nat → Int32} {mMa : Nat → Int32} {mMy : Nat → Int32} {mPm : Nat → Int32} {mFn : Int32} {mFy : Nat → Int32} {mFa : Nat → Int32} {mFr : Nat → Int32} {mRn : Int32} {mFo : Nat → Int32} {mRt : Nat → Int32} {mRm : Nat → Int32} {mTn : Int32} {mTt : Nat → Int32} {mTi : Nat → Int32} {mPl : Nat → Int32} {mVn : Int32} {mVr : Nat → Int32} {mVf : Nat → Int32} {mVc : Nat → Int32} {mAr : Nat → Int32} {mLr : Int32} {mTc : Nat → Int32} {mTr : Int32} {mFl : Int32} {mFt : Nat → Int32} {mFm : Int32} {mFp : Int32} {mSc : Int32} {mMp : Int32} {mEn : Int32} {mGo : Nat → Int32} {Q : pm_Q} (t w r a u : Int32) (f0 : Nat → Int32) (hf : 0 ≤ mMn.toInt ∧ mMn.toInt < 40) (ht : 0 ≤ mTm.toInt ∧ mTm.toInt ≤ 3) : ∀ (n k : Nat) (f : Nat → Int32), ((k : Int) ≤ mTm.toInt) → (3 < k + n) → (∀ i : Nat, f i = if 3 * mMn.toNatClampNeg ≤ i ∧ i < 3 * mMn.toNatClampNeg + k then mTo (i - 3 * mMn.toNatClampNeg) else f0 i) → (Q (some (.int (mMn + 1 - 1))) (hq g c1 c2 c3 c4 c5 c6 c7 c8 c9 c10 c11 c12 c13 c14 c15 c16 c17 c18 c19 c20 c21 c22 c23 c24 (hc25 mTy 0 (mMn + 1) mFn mRn mTn mVn mLr mTr mFl mFm mFp mSc mMp mEn) (hc26 mPa) (hc27 mTo) (hc28 mOt) (hc29 mNa) (hc30 mRe) (hc31 mMa) (hc32 mMy) (hc33 (cpF f0 mTo mMn mTm)) (hc34 mFy) (hc35 mFa) (hc36 mFr) (hc37 mFo) (hc38 mRt) (hc39 mRm) (hc40 mTt) (hc41 mTi) (hc42 mPl) (hc43 mVr) (hc44 mVf) (hc45 mVc) (hc46 mAr) (hc47 mTc) (hc48 mFt) (hc49 mGo) dyn)) → pm_WP 142 (249, [(6, .int (nI k)), (5, .int u), (0, .ref 25), (1, .int t), (2, .int w), (3, .int r), (4, .int a)], [], hq g c1 c2 c3 c4 c5 c6 c7 c8 c9 c10 c11 c12 c13 c14 c15 c16 c17 c18 c19 c20 c21 c22 c23 c24 (hc25 mTy mTm mMn mFn mRn mTn mVn mLr mTr mFl mFm mFp mSc mMp mEn) (hc26 mPa) (hc27 mTo) (hc28 mOt) (hc29 mNa) (hc30 mRe) (hc31 mMa) (hc32 mMy) (hc33 f) (hc34 mFy) (hc35 mFa) (hc36 mFr) (hc37 mFo) (hc38 mRt) (hc39 mRm) (hc40 mTt) (hc41 mTi) (hc42 mPl) (hc43 mVr) (hc44 mVf) (hc45 mVc) (hc46 mAr) (hc47 mTc) (hc48 mFt) (hc49 mGo) dyn, 0, 0) Q := by
  intro n
  induction n with
  | zero =>
    intro k f g1 g2 g3 k0
    exfalso; omega
  | succ n ih =>
    intro k f g1 g2 g3 k0
    have hk := nI_toInt (n := k) (by omega)
    have hkc : (nI k).toNatClampNeg = k := nI_clamp (by omega)
    have hxt := xN (x := mMn) (by omega)
    refine pm_go (g := (251, [(6, .int (nI k)), (5, .int u), (0, .ref 25), (1, .int t), (2, .int w), (3, .int r), (4, .int a)], [.int (nI k)], hq g c1 c2 c3 c4 c5 c6 c7 c8 c9 c10 c11 c12 c13 c14 c15 c16 c17 c18 c19 c20 c21 c22 c23 c24 (hc25 mTy mTm mMn mFn mRn mTn mVn mLr mTr mFl mFm mFp mSc mMp mEn) (hc26 mPa) (hc27 mTo) (hc28 mOt) (hc29 mNa) (hc30 mRe) (hc31 mMa) (hc32 mMy) (hc33 f) (hc34 mFy) (hc35 mFa) (hc36 mFr) (hc37 mFo) (hc38 mRt) (hc39 mRm) (hc40 mTt) (hc41 mTi) (hc42 mPl) (hc43 mVr) (hc44 mVf) (hc45 mVc) (hc46 mAr) (hc47 mTc) (hc48 mFt) (hc49 mGo) dyn, 0, 0)) rfl ?_
    refine pm_go (g := (252, _, [.ref 25, .int (nI k)], _, 0, 0)) rfl ?_
    refine pm_go (g := (255, _, [.int mTm, .int (nI k)], _, 0, 0)) rfl ?_
    refine pm_if2 (g := (285, [(6, .int (nI k)), (5, .int u), (0, .ref 25), (1, .int t), (2, .int w), (3, .int r), (4, .int a)], [], hq g c1 c2 c3 c4 c5 c6 c7 c8 c9 c10 c11 c12 c13 c14 c15 c16 c17 c18 c19 c20 c21 c22 c23 c24 (hc25 mTy mTm mMn mFn mRn mTn mVn mLr mTr mFl mFm mFp mSc mMp mEn) (hc26 mPa) (hc27 mTo) (hc28 mOt) (hc29 mNa) (hc30 mRe) (hc31 mMa) (hc32 mMy) (hc33 f) (hc34 mFy) (hc35 mFa) (hc36 mFr) (hc37 mFo) (hc38 mRt) (hc39 mRm) (hc40 mTt) (hc41 mTi) (hc42 mPl) (hc43 mVr) (hc44 mVf) (hc45 mVc) (hc46 mAr) (hc47 mTc) (hc48 mFt) (hc49 mGo) dyn, 0, 0)) (h := (258, [(6, .int (nI k)), (5, .int u), (0, .ref 25), (1, .int t), (2, .int w), (3, .int r), (4, .int a)], [], hq g c1 c2 c3 c4 c5 c6 c7 c8 c9 c10 c11 c12 c13 c14 c15 c16 c17 c18 c19 c20 c21 c22 c23 c24 (hc25 mTy mTm mMn mFn mRn mTn mVn mLr mTr mFl mFm mFp mSc mMp mEn) (hc26 mPa) (hc27 mTo) (hc28 mOt) (hc29 mNa) (hc30 mRe) (hc31 mMa) (hc32 mMy) (hc33 f) (hc34 mFy) (hc35 mFa) (hc36 mFr) (hc37 mFo) (hc38 mRt) (hc39 mRm) (hc40 mTt) (hc41 mTi) (hc42 mPl) (hc43 mVr) (hc44 mVf) (hc45 mVc) (hc46 mAr) (hc47 mTc) (hc48 mFt) (hc49 mGo) dyn, 0, 0)) rfl (fun h1 => ?_) (fun h1 => ?_)
    ·
      have h1 := qT_ge (cx := (nI k).toInt) (cy := (mTm).toInt) rfl rfl h1
      refine pm_go (g := (286, _, [.ref 25], _, 0, 0)) rfl ?_
      refine pm_go (g := (287, _, [.int 0, .ref 25], _, 0, 0)) rfl ?_
      refine pm_go (g := (290, _, [], hq g c1 c2 c3 c4 c5 c6 c7 c8 c9 c10 c11 c12 c13 c14 c15 c16 c17 c18 c19 c20 c21 c22 c23 c24 (hc25 mTy 0 mMn mFn mRn mTn mVn mLr mTr mFl mFm mFp mSc mMp mEn) (hc26 mPa) (hc27 mTo) (hc28 mOt) (hc29 mNa) (hc30 mRe) (hc31 mMa) (hc32 mMy) (hc33 f) (hc34 mFy) (hc35 mFa) (hc36 mFr) (hc37 mFo) (hc38 mRt) (hc39 mRm) (hc40 mTt) (hc41 mTi) (hc42 mPl) (hc43 mVr) (hc44 mVf) (hc45 mVc) (hc46 mAr) (hc47 mTc) (hc48 mFt) (hc49 mGo) dyn, 0, 0)) rfl ?_
      refine pm_go (g := (291, _, [.ref 25], _, 0, 0)) rfl ?_
      refine pm_go (g := (292, _, [.ref 25, .ref 25], _, 0, 0)) rfl ?_
      refine pm_go (g := (295, _, [.int mMn, .ref 25], _, 0, 0)) rfl ?_
      refine pm_go (g := (296, _, [.int 1, .int mMn, .ref 25], _, 0, 0)) rfl ?_
      refine pm_go (g := (297, _, [.int (mMn + 1), .ref 25], _, 0, 0)) rfl ?_
      try have h2 : (mMn + 1).toInt = (mMn).toInt + 1 := iAdd (x := (mMn).toInt) (y := 1) rfl (by decide) (by omega) (by omega)
      refine pm_go (g := (300, _, [], hq g c1 c2 c3 c4 c5 c6 c7 c8 c9 c10 c11 c12 c13 c14 c15 c16 c17 c18 c19 c20 c21 c22 c23 c24 (hc25 mTy 0 (mMn + 1) mFn mRn mTn mVn mLr mTr mFl mFm mFp mSc mMp mEn) (hc26 mPa) (hc27 mTo) (hc28 mOt) (hc29 mNa) (hc30 mRe) (hc31 mMa) (hc32 mMy) (hc33 f) (hc34 mFy) (hc35 mFa) (hc36 mFr) (hc37 mFo) (hc38 mRt) (hc39 mRm) (hc40 mTt) (hc41 mTi) (hc42 mPl) (hc43 mVr) (hc44 mVf) (hc45 mVc) (hc46 mAr) (hc47 mTc) (hc48 mFt) (hc49 mGo) dyn, 0, 0)) rfl ?_
      refine pm_go (g := (301, _, [.ref 25], _, 0, 0)) rfl ?_
      refine pm_go (g := (304, _, [.int (mMn + 1)], _, 0, 0)) rfl ?_
      refine pm_go (g := (305, _, [.int 1, .int (mMn + 1)], _, 0, 0)) rfl ?_
      refine pm_go (g := (306, _, [.int ((mMn + 1) - 1)], _, 0, 0)) rfl ?_
      try have h3 : ((mMn + 1) - 1).toInt = (mMn + 1).toInt - 1 := iSub (x := (mMn + 1).toInt) (y := 1) rfl (by decide) (by omega) (by omega)
      have ef : f = cpF f0 mTo mMn mTm := funext (fun i => by rw [g3 i]; unfold cpF; rw [show mTm.toNatClampNeg = k from tN (by omega)])
      rw [ef]
      exact pm_ret rfl k0
    have h1 := qF_ge (cx := (nI k).toInt) (cy := (mTm).toInt) rfl rfl h1
    refine pm_go (g := (259, _, [.ref 25], hq g c1 c2 c3 c4 c5 c6 c7 c8 c9 c10 c11 c12 c13 c14 c15 c16 c17 c18 c19 c20 c21 c22 c23 c24 (hc25 mTy mTm mMn mFn mRn mTn mVn mLr mTr mFl mFm mFp mSc mMp mEn) (hc26 mPa) (hc27 mTo) (hc28 mOt) (hc29 mNa) (hc30 mRe) (hc31 mMa) (hc32 mMy) (hc33 f) (hc34 mFy) (hc35 mFa) (hc36 mFr) (hc37 mFo) (hc38 mRt) (hc39 mRm) (hc40 mTt) (hc41 mTi) (hc42 mPl) (hc43 mVr) (hc44 mVf) (hc45 mVc) (hc46 mAr) (hc47 mTc) (hc48 mFt) (hc49 mGo) dyn, 0, 0)) rfl ?_
    refine pm_go (g := (262, _, [.ref 33], _, 0, 0)) rfl ?_
    refine pm_go (g := (263, _, [.int 3, .ref 33], _, 0, 0)) rfl ?_
    refine pm_go (g := (264, _, [.ref 25, .int 3, .ref 33], _, 0, 0)) rfl ?_
    refine pm_go (g := (267, _, [.int mMn, .int 3, .ref 33], _, 0, 0)) rfl ?_
    refine pm_go (g := (268, _, [.int (3 * mMn), .ref 33], _, 0, 0)) rfl ?_
    try have h4 : (3 * mMn).toInt = 3 * (mMn).toInt := iMul (x := 3) (y := (mMn).toInt) (by decide) rfl (by omega) (by omega)
    refine pm_go (g := (270, _, [.int (nI k), .int (3 * mMn), .ref 33], _, 0, 0)) rfl ?_
    refine pm_go (g := (271, _, [.int ((3 * mMn) + (nI k)), .ref 33], _, 0, 0)) rfl ?_
    try have h5 : ((3 * mMn) + (nI k)).toInt = (3 * mMn).toInt + (nI k).toInt := iAdd (x := (3 * mMn).toInt) (y := (nI k).toInt) rfl rfl (by omega) (by omega)
    refine pm_go (g := (272, _, [.ref 25, .int ((3 * mMn) + (nI k)), .ref 33], _, 0, 0)) rfl ?_
    refine pm_go (g := (275, _, [.ref 27, .int ((3 * mMn) + (nI k)), .ref 33], _, 0, 0)) rfl ?_
    refine pm_go (g := (277, _, [.int (nI k), .ref 27, .int ((3 * mMn) + (nI k)), .ref 33], _, 0, 0)) rfl ?_
    refine pm_sd (g := (278, _, [.int (mTo (nI k).toNatClampNeg), .int ((3 * mMn) + (nI k)), .ref 33], _, 0, 0)) rfl (pm_inI (by omega) (by omega)) ?_
    refine pm_sd (g := (279, _, [], hq g c1 c2 c3 c4 c5 c6 c7 c8 c9 c10 c11 c12 c13 c14 c15 c16 c17 c18 c19 c20 c21 c22 c23 c24 (hc25 mTy mTm mMn mFn mRn mTn mVn mLr mTr mFl mFm mFp mSc mMp mEn) (hc26 mPa) (hc27 mTo) (hc28 mOt) (hc29 mNa) (hc30 mRe) (hc31 mMa) (hc32 mMy) (hc33 (upd f ((3 * mMn) + (nI k)).toNatClampNeg (mTo (nI k).toNatClampNeg))) (hc34 mFy) (hc35 mFa) (hc36 mFr) (hc37 mFo) (hc38 mRt) (hc39 mRm) (hc40 mTt) (hc41 mTi) (hc42 mPl) (hc43 mVr) (hc44 mVf) (hc45 mVc) (hc46 mAr) (hc47 mTc) (hc48 mFt) (hc49 mGo) dyn, 0, 0)) rfl (pm_inI (by omega) (by omega)) ?_
    refine pm_go (g := (282, [(6, .int ((nI k) + 1)), (5, .int u), (0, .ref 25), (1, .int t), (2, .int w), (3, .int r), (4, .int a)], [], _, 0, 0)) rfl ?_
    refine pm_go (g := (249, _, [], _, 0, 0)) rfl ?_
    have hix : (3 * mMn + nI k).toNatClampNeg = 3 * mMn.toNatClampNeg + k := tN (by omega)
    rw [nI_1, hix, hkc]
    refine ih (k + 1) (upd f (3 * mMn.toNatClampNeg + k) (mTo k)) (by omega) (by omega) (fun i => ?_) k0
    unfold upd
    by_cases e9 : i = 3 * mMn.toNatClampNeg + k
    · rw [if_pos e9, if_pos (by omega), show i - 3 * mMn.toNatClampNeg = k by omega]
    · rw [if_neg e9, g3 i]
      by_cases e8 : 3 * mMn.toNatClampNeg ≤ i ∧ i < 3 * mMn.toNatClampNeg + k
      · rw [if_pos e8, if_pos (by omega)]
      · rw [if_neg e8, if_neg (by omega)]
set_option maxRecDepth 100000 in
set_option maxHeartbeats 4000000 in
theorem w_member_loop {g c1 c2 c3 c4 c5 c6 c7 c8 c9 c10 c11 c12 c13 c14 c15 c16 c17 c18 c19 c20 c21 c22 c23 c24 : pm_C} {dyn : pm_H} {mTy : Int32} {mPa : Nat → Int32} {mTo : Nat → Int32} {mTm : Int32} {mMn : Int32} {mOt : Nat → Int32} {mNa : Nat → Int32} {mRe : Nat → Int32} {mMa : Nat → Int32} {mMy : Nat → Int32} {mPm : Nat → Int32} {mFn : Int32} {mFy : Nat → Int32} {mFa : Nat → Int32} {mFr : Nat → Int32} {mRn : Int32} {mFo : Nat → Int32} {mRt : Nat → Int32} {mRm : Nat → Int32} {mTn : Int32} {mTt : Nat → Int32} {mTi : Nat → Int32} {mPl : Nat → Int32} {mVn : Int32} {mVr : Nat → Int32} {mVf : Nat → Int32} {mVc : Nat → Int32} {mAr : Nat → Int32} {mLr : Int32} {mTc : Nat → Int32} {mTr : Int32} {mFl : Int32} {mFt : Nat → Int32} {mFm : Int32} {mFp : Int32} {mSc : Int32} {mMp : Int32} {mEn : Int32} {mGo : Nat → Int32} {Q : pm_Q} (t w r a u : Int32) (hp : paD mPa) (ht : 0 ≤ mTm.toInt ∧ mTm.toInt ≤ 3) (hn : 0 ≤ mMn.toInt ∧ mMn.toInt ≤ 40) : ∀ (n k : Nat), (k ≤ 40) → (40 < k + n) → ((∃ j : Nat, k ≤ j ∧ (j : Int) < mMn.toInt ∧ clM mPa mOt mNa mRe mMa mMy mPm mTo mTm (nI j) t w r a) → Q (some (.int (-6))) (hq g c1 c2 c3 c4 c5 c6 c7 c8 c9 c10 c11 c12 c13 c14 c15 c16 c17 c18 c19 c20 c21 c22 c23 c24 (hc25 mTy mTm mMn mFn mRn mTn mVn mLr mTr mFl mFm mFp mSc mMp mEn) (hc26 mPa) (hc27 mTo) (hc28 mOt) (hc29 mNa) (hc30 mRe) (hc31 mMa) (hc32 mMy) (hc33 mPm) (hc34 mFy) (hc35 mFa) (hc36 mFr) (hc37 mFo) (hc38 mRt) (hc39 mRm) (hc40 mTt) (hc41 mTi) (hc42 mPl) (hc43 mVr) (hc44 mVf) (hc45 mVc) (hc46 mAr) (hc47 mTc) (hc48 mFt) (hc49 mGo) dyn)) → (((∀ j : Nat, k ≤ j → (j : Int) < mMn.toInt → ¬ clM mPa mOt mNa mRe mMa mMy mPm mTo mTm (nI j) t w r a) ∧ mMn.toInt = 40) → Q (some (.int (-2))) (hq g c1 c2 c3 c4 c5 c6 c7 c8 c9 c10 c11 c12 c13 c14 c15 c16 c17 c18 c19 c20 c21 c22 c23 c24 (hc25 mTy mTm mMn mFn mRn mTn mVn mLr mTr mFl mFm mFp mSc mMp mEn) (hc26 mPa) (hc27 mTo) (hc28 mOt) (hc29 mNa) (hc30 mRe) (hc31 mMa) (hc32 mMy) (hc33 mPm) (hc34 mFy) (hc35 mFa) (hc36 mFr) (hc37 mFo) (hc38 mRt) (hc39 mRm) (hc40 mTt) (hc41 mTi) (hc42 mPl) (hc43 mVr) (hc44 mVf) (hc45 mVc) (hc46 mAr) (hc47 mTc) (hc48 mFt) (hc49 mGo) dyn)) → (((∀ j : Nat, k ≤ j → (j : Int) < mMn.toInt → ¬ clM mPa mOt mNa mRe mMa mMy mPm mTo mTm (nI j) t w r a) ∧ mMn.toInt < 40) → Q (some (.int (mMn + 1 - 1))) (hq g c1 c2 c3 c4 c5 c6 c7 c8 c9 c10 c11 c12 c13 c14 c15 c16 c17 c18 c19 c20 c21 c22 c23 c24 (hc25 mTy 0 (mMn + 1) mFn mRn mTn mVn mLr mTr mFl mFm mFp mSc mMp mEn) (hc26 mPa) (hc27 mTo) (hc28 (upd mOt mMn.toNatClampNeg t)) (hc29 (upd mNa mMn.toNatClampNeg w)) (hc30 (upd mRe mMn.toNatClampNeg r)) (hc31 (upd mMa mMn.toNatClampNeg a)) (hc32 (upd mMy mMn.toNatClampNeg mTm)) (hc33 (cpF mPm mTo mMn mTm)) (hc34 mFy) (hc35 mFa) (hc36 mFr) (hc37 mFo) (hc38 mRt) (hc39 mRm) (hc40 mTt) (hc41 mTi) (hc42 mPl) (hc43 mVr) (hc44 mVf) (hc45 mVc) (hc46 mAr) (hc47 mTc) (hc48 mFt) (hc49 mGo) dyn)) → pm_WP 142 (148, [(6, .int (nI k)), (5, .int u), (0, .ref 25), (1, .int t), (2, .int w), (3, .int r), (4, .int a)], [], hq g c1 c2 c3 c4 c5 c6 c7 c8 c9 c10 c11 c12 c13 c14 c15 c16 c17 c18 c19 c20 c21 c22 c23 c24 (hc25 mTy mTm mMn mFn mRn mTn mVn mLr mTr mFl mFm mFp mSc mMp mEn) (hc26 mPa) (hc27 mTo) (hc28 mOt) (hc29 mNa) (hc30 mRe) (hc31 mMa) (hc32 mMy) (hc33 mPm) (hc34 mFy) (hc35 mFa) (hc36 mFr) (hc37 mFo) (hc38 mRt) (hc39 mRm) (hc40 mTt) (hc41 mTi) (hc42 mPl) (hc43 mVr) (hc44 mVf) (hc45 mVc) (hc46 mAr) (hc47 mTc) (hc48 mFt) (hc49 mGo) dyn, 0, 0) Q := by
  intro n
  induction n with
  | zero =>
    intro k g1 g2 k0 k1 k2
    exfalso; omega
  | succ n ih =>
    intro k g1 g2 k0 k1 k2
    have hk := nI_toInt (n := k) (by omega)
    refine pm_go (g := (150, [(6, .int (nI k)), (5, .int u), (0, .ref 25), (1, .int t), (2, .int w), (3, .int r), (4, .int a)], [.int (nI k)], hq g c1 c2 c3 c4 c5 c6 c7 c8 c9 c10 c11 c12 c13 c14 c15 c16 c17 c18 c19 c20 c21 c22 c23 c24 (hc25 mTy mTm mMn mFn mRn mTn mVn mLr mTr mFl mFm mFp mSc mMp mEn) (hc26 mPa) (hc27 mTo) (hc28 mOt) (hc29 mNa) (hc30 mRe) (hc31 mMa) (hc32 mMy) (hc33 mPm) (hc34 mFy) (hc35 mFa) (hc36 mFr) (hc37 mFo) (hc38 mRt) (hc39 mRm) (hc40 mTt) (hc41 mTi) (hc42 mPl) (hc43 mVr) (hc44 mVf) (hc45 mVc) (hc46 mAr) (hc47 mTc) (hc48 mFt) (hc49 mGo) dyn, 0, 0)) rfl ?_
    refine pm_go (g := (151, _, [.ref 25, .int (nI k)], _, 0, 0)) rfl ?_
    refine pm_go (g := (154, _, [.int mMn, .int (nI k)], _, 0, 0)) rfl ?_
    refine pm_if2 (g := (180, [(6, .int (nI k)), (5, .int u), (0, .ref 25), (1, .int t), (2, .int w), (3, .int r), (4, .int a)], [], hq g c1 c2 c3 c4 c5 c6 c7 c8 c9 c10 c11 c12 c13 c14 c15 c16 c17 c18 c19 c20 c21 c22 c23 c24 (hc25 mTy mTm mMn mFn mRn mTn mVn mLr mTr mFl mFm mFp mSc mMp mEn) (hc26 mPa) (hc27 mTo) (hc28 mOt) (hc29 mNa) (hc30 mRe) (hc31 mMa) (hc32 mMy) (hc33 mPm) (hc34 mFy) (hc35 mFa) (hc36 mFr) (hc37 mFo) (hc38 mRt) (hc39 mRm) (hc40 mTt) (hc41 mTi) (hc42 mPl) (hc43 mVr) (hc44 mVf) (hc45 mVc) (hc46 mAr) (hc47 mTc) (hc48 mFt) (hc49 mGo) dyn, 0, 0)) (h := (157, [(6, .int (nI k)), (5, .int u), (0, .ref 25), (1, .int t), (2, .int w), (3, .int r), (4, .int a)], [], hq g c1 c2 c3 c4 c5 c6 c7 c8 c9 c10 c11 c12 c13 c14 c15 c16 c17 c18 c19 c20 c21 c22 c23 c24 (hc25 mTy mTm mMn mFn mRn mTn mVn mLr mTr mFl mFm mFp mSc mMp mEn) (hc26 mPa) (hc27 mTo) (hc28 mOt) (hc29 mNa) (hc30 mRe) (hc31 mMa) (hc32 mMy) (hc33 mPm) (hc34 mFy) (hc35 mFa) (hc36 mFr) (hc37 mFo) (hc38 mRt) (hc39 mRm) (hc40 mTt) (hc41 mTi) (hc42 mPl) (hc43 mVr) (hc44 mVf) (hc45 mVc) (hc46 mAr) (hc47 mTc) (hc48 mFt) (hc49 mGo) dyn, 0, 0)) rfl (fun h1 => ?_) (fun h1 => ?_)
    ·
      have h1 := qT_ge (cx := (nI k).toInt) (cy := (mMn).toInt) rfl rfl h1
      refine pm_go (g := (181, _, [.ref 25], _, 0, 0)) rfl ?_
      refine pm_go (g := (184, _, [.int mMn], _, 0, 0)) rfl ?_
      refine pm_go (g := (186, _, [.int 40, .int mMn], _, 0, 0)) rfl ?_
      refine pm_if2 (g := (192, [(6, .int (nI k)), (5, .int u), (0, .ref 25), (1, .int t), (2, .int w), (3, .int r), (4, .int a)], [], hq g c1 c2 c3 c4 c5 c6 c7 c8 c9 c10 c11 c12 c13 c14 c15 c16 c17 c18 c19 c20 c21 c22 c23 c24 (hc25 mTy mTm mMn mFn mRn mTn mVn mLr mTr mFl mFm mFp mSc mMp mEn) (hc26 mPa) (hc27 mTo) (hc28 mOt) (hc29 mNa) (hc30 mRe) (hc31 mMa) (hc32 mMy) (hc33 mPm) (hc34 mFy) (hc35 mFa) (hc36 mFr) (hc37 mFo) (hc38 mRt) (hc39 mRm) (hc40 mTt) (hc41 mTi) (hc42 mPl) (hc43 mVr) (hc44 mVf) (hc45 mVc) (hc46 mAr) (hc47 mTc) (hc48 mFt) (hc49 mGo) dyn, 0, 0)) (h := (189, [(6, .int (nI k)), (5, .int u), (0, .ref 25), (1, .int t), (2, .int w), (3, .int r), (4, .int a)], [], hq g c1 c2 c3 c4 c5 c6 c7 c8 c9 c10 c11 c12 c13 c14 c15 c16 c17 c18 c19 c20 c21 c22 c23 c24 (hc25 mTy mTm mMn mFn mRn mTn mVn mLr mTr mFl mFm mFp mSc mMp mEn) (hc26 mPa) (hc27 mTo) (hc28 mOt) (hc29 mNa) (hc30 mRe) (hc31 mMa) (hc32 mMy) (hc33 mPm) (hc34 mFy) (hc35 mFa) (hc36 mFr) (hc37 mFo) (hc38 mRt) (hc39 mRm) (hc40 mTt) (hc41 mTi) (hc42 mPl) (hc43 mVr) (hc44 mVf) (hc45 mVc) (hc46 mAr) (hc47 mTc) (hc48 mFt) (hc49 mGo) dyn, 0, 0)) rfl (fun h2 => ?_) (fun h2 => ?_)
      ·
        have h2 := qT_ne (cx := (mMn).toInt) (cy := 40) rfl (by decide) h2
        refine pm_go (g := (193, _, [.ref 25], _, 0, 0)) rfl ?_
        refine pm_go (g := (196, _, [.ref 28], _, 0, 0)) rfl ?_
        refine pm_go (g := (197, _, [.ref 25, .ref 28], _, 0, 0)) rfl ?_
        refine pm_go (g := (200, _, [.int mMn, .ref 28], _, 0, 0)) rfl ?_
        refine pm_go (g := (201, _, [.int t, .int mMn, .ref 28], _, 0, 0)) rfl ?_
        refine pm_sd (g := (202, _, [], hq g c1 c2 c3 c4 c5 c6 c7 c8 c9 c10 c11 c12 c13 c14 c15 c16 c17 c18 c19 c20 c21 c22 c23 c24 (hc25 mTy mTm mMn mFn mRn mTn mVn mLr mTr mFl mFm mFp mSc mMp mEn) (hc26 mPa) (hc27 mTo) (hc28 (upd mOt (mMn).toNatClampNeg t)) (hc29 mNa) (hc30 mRe) (hc31 mMa) (hc32 mMy) (hc33 mPm) (hc34 mFy) (hc35 mFa) (hc36 mFr) (hc37 mFo) (hc38 mRt) (hc39 mRm) (hc40 mTt) (hc41 mTi) (hc42 mPl) (hc43 mVr) (hc44 mVf) (hc45 mVc) (hc46 mAr) (hc47 mTc) (hc48 mFt) (hc49 mGo) dyn, 0, 0)) rfl (pm_inI (by omega) (by omega)) ?_
        refine pm_go (g := (203, _, [.ref 25], _, 0, 0)) rfl ?_
        refine pm_go (g := (206, _, [.ref 29], _, 0, 0)) rfl ?_
        refine pm_go (g := (207, _, [.ref 25, .ref 29], _, 0, 0)) rfl ?_
        refine pm_go (g := (210, _, [.int mMn, .ref 29], _, 0, 0)) rfl ?_
        refine pm_go (g := (211, _, [.int w, .int mMn, .ref 29], _, 0, 0)) rfl ?_
        refine pm_sd (g := (212, _, [], hq g c1 c2 c3 c4 c5 c6 c7 c8 c9 c10 c11 c12 c13 c14 c15 c16 c17 c18 c19 c20 c21 c22 c23 c24 (hc25 mTy mTm mMn mFn mRn mTn mVn mLr mTr mFl mFm mFp mSc mMp mEn) (hc26 mPa) (hc27 mTo) (hc28 (upd mOt (mMn).toNatClampNeg t)) (hc29 (upd mNa (mMn).toNatClampNeg w)) (hc30 mRe) (hc31 mMa) (hc32 mMy) (hc33 mPm) (hc34 mFy) (hc35 mFa) (hc36 mFr) (hc37 mFo) (hc38 mRt) (hc39 mRm) (hc40 mTt) (hc41 mTi) (hc42 mPl) (hc43 mVr) (hc44 mVf) (hc45 mVc) (hc46 mAr) (hc47 mTc) (hc48 mFt) (hc49 mGo) dyn, 0, 0)) rfl (pm_inI (by omega) (by omega)) ?_
        refine pm_go (g := (213, _, [.ref 25], _, 0, 0)) rfl ?_
        refine pm_go (g := (216, _, [.ref 30], _, 0, 0)) rfl ?_
        refine pm_go (g := (217, _, [.ref 25, .ref 30], _, 0, 0)) rfl ?_
        refine pm_go (g := (220, _, [.int mMn, .ref 30], _, 0, 0)) rfl ?_
        refine pm_go (g := (221, _, [.int r, .int mMn, .ref 30], _, 0, 0)) rfl ?_
        refine pm_sd (g := (222, _, [], hq g c1 c2 c3 c4 c5 c6 c7 c8 c9 c10 c11 c12 c13 c14 c15 c16 c17 c18 c19 c20 c21 c22 c23 c24 (hc25 mTy mTm mMn mFn mRn mTn mVn mLr mTr mFl mFm mFp mSc mMp mEn) (hc26 mPa) (hc27 mTo) (hc28 (upd mOt (mMn).toNatClampNeg t)) (hc29 (upd mNa (mMn).toNatClampNeg w)) (hc30 (upd mRe (mMn).toNatClampNeg r)) (hc31 mMa) (hc32 mMy) (hc33 mPm) (hc34 mFy) (hc35 mFa) (hc36 mFr) (hc37 mFo) (hc38 mRt) (hc39 mRm) (hc40 mTt) (hc41 mTi) (hc42 mPl) (hc43 mVr) (hc44 mVf) (hc45 mVc) (hc46 mAr) (hc47 mTc) (hc48 mFt) (hc49 mGo) dyn, 0, 0)) rfl (pm_inI (by omega) (by omega)) ?_
        refine pm_go (g := (223, _, [.ref 25], _, 0, 0)) rfl ?_
        refine pm_go (g := (226, _, [.ref 31], _, 0, 0)) rfl ?_
        refine pm_go (g := (227, _, [.ref 25, .ref 31], _, 0, 0)) rfl ?_
        refine pm_go (g := (230, _, [.int mMn, .ref 31], _, 0, 0)) rfl ?_
        refine pm_go (g := (232, _, [.int a, .int mMn, .ref 31], _, 0, 0)) rfl ?_
        refine pm_sd (g := (233, _, [], hq g c1 c2 c3 c4 c5 c6 c7 c8 c9 c10 c11 c12 c13 c14 c15 c16 c17 c18 c19 c20 c21 c22 c23 c24 (hc25 mTy mTm mMn mFn mRn mTn mVn mLr mTr mFl mFm mFp mSc mMp mEn) (hc26 mPa) (hc27 mTo) (hc28 (upd mOt (mMn).toNatClampNeg t)) (hc29 (upd mNa (mMn).toNatClampNeg w)) (hc30 (upd mRe (mMn).toNatClampNeg r)) (hc31 (upd mMa (mMn).toNatClampNeg a)) (hc32 mMy) (hc33 mPm) (hc34 mFy) (hc35 mFa) (hc36 mFr) (hc37 mFo) (hc38 mRt) (hc39 mRm) (hc40 mTt) (hc41 mTi) (hc42 mPl) (hc43 mVr) (hc44 mVf) (hc45 mVc) (hc46 mAr) (hc47 mTc) (hc48 mFt) (hc49 mGo) dyn, 0, 0)) rfl (pm_inI (by omega) (by omega)) ?_
        refine pm_go (g := (234, _, [.ref 25], _, 0, 0)) rfl ?_
        refine pm_go (g := (237, _, [.ref 32], _, 0, 0)) rfl ?_
        refine pm_go (g := (238, _, [.ref 25, .ref 32], _, 0, 0)) rfl ?_
        refine pm_go (g := (241, _, [.int mMn, .ref 32], _, 0, 0)) rfl ?_
        refine pm_go (g := (242, _, [.ref 25, .int mMn, .ref 32], _, 0, 0)) rfl ?_
        refine pm_go (g := (245, _, [.int mTm, .int mMn, .ref 32], _, 0, 0)) rfl ?_
        refine pm_sd (g := (246, _, [], hq g c1 c2 c3 c4 c5 c6 c7 c8 c9 c10 c11 c12 c13 c14 c15 c16 c17 c18 c19 c20 c21 c22 c23 c24 (hc25 mTy mTm mMn mFn mRn mTn mVn mLr mTr mFl mFm mFp mSc mMp mEn) (hc26 mPa) (hc27 mTo) (hc28 (upd mOt (mMn).toNatClampNeg t)) (hc29 (upd mNa (mMn).toNatClampNeg w)) (hc30 (upd mRe (mMn).toNatClampNeg r)) (hc31 (upd mMa (mMn).toNatClampNeg a)) (hc32 (upd mMy (mMn).toNatClampNeg mTm)) (hc33 mPm) (hc34 mFy) (hc35 mFa) (hc36 mFr) (hc37 mFo) (hc38 mRt) (hc39 mRm) (hc40 mTt) (hc41 mTi) (hc42 mPl) (hc43 mVr) (hc44 mVf) (hc45 mVc) (hc46 mAr) (hc47 mTc) (hc48 mFt) (hc49 mGo) dyn, 0, 0)) rfl (pm_inI (by omega) (by omega)) ?_
        refine pm_go (g := (247, _, [.int 0], _, 0, 0)) rfl ?_
        refine pm_go (g := (249, [(6, .int 0), (5, .int u), (0, .ref 25), (1, .int t), (2, .int w), (3, .int r), (4, .int a)], [], _, 0, 0)) rfl ?_
        exact w_member_copy (mPm := mPm) t w r a u mPm (by omega) ht 4 0 mPm (by omega) (by omega) (fun i => by rw [if_neg (by omega)]) (k2 ⟨fun j g1 g2 => absurd g2 (by omega), by omega⟩)
      have h2 := qF_ne (cx := (mMn).toInt) (cy := 40) rfl (by decide) h2
      refine pm_go (g := (191, [(6, .int (nI k)), (5, .int u), (0, .ref 25), (1, .int t), (2, .int w), (3, .int r), (4, .int a)], [.int (-2)], hq g c1 c2 c3 c4 c5 c6 c7 c8 c9 c10 c11 c12 c13 c14 c15 c16 c17 c18 c19 c20 c21 c22 c23 c24 (hc25 mTy mTm mMn mFn mRn mTn mVn mLr mTr mFl mFm mFp mSc mMp mEn) (hc26 mPa) (hc27 mTo) (hc28 mOt) (hc29 mNa) (hc30 mRe) (hc31 mMa) (hc32 mMy) (hc33 mPm) (hc34 mFy) (hc35 mFa) (hc36 mFr) (hc37 mFo) (hc38 mRt) (hc39 mRm) (hc40 mTt) (hc41 mTi) (hc42 mPl) (hc43 mVr) (hc44 mVf) (hc45 mVc) (hc46 mAr) (hc47 mTc) (hc48 mFt) (hc49 mGo) dyn, 0, 0)) rfl ?_
      exact pm_ret rfl (k1 ⟨fun j g1 g2 => absurd g2 (by omega), by omega⟩)
    have h1 := qF_ge (cx := (nI k).toInt) (cy := (mMn).toInt) rfl rfl h1
    refine pm_go (g := (158, _, [.ref 25], _, 0, 0)) rfl ?_
    refine pm_go (g := (160, _, [.int (nI k), .ref 25], _, 0, 0)) rfl ?_
    refine pm_go (g := (161, _, [.int t, .int (nI k), .ref 25], _, 0, 0)) rfl ?_
    refine pm_go (g := (162, _, [.int w, .int t, .int (nI k), .ref 25], _, 0, 0)) rfl ?_
    refine pm_go (g := (163, _, [.int r, .int w, .int t, .int (nI k), .ref 25], _, 0, 0)) rfl ?_
    refine pm_go (g := (165, _, [.int a, .int r, .int w, .int t, .int (nI k), .ref 25], _, 0, 0)) rfl ?_
    refine pm_callD (z := 141) (as := [.ref 25, .int (nI k), .int t, .int w, .int r, .int a]) (rest := []) rfl ?_
    refine w_X12_isClash (nI k) t w r a (by omega) (by assumption) (by omega) (fun h3 => ?_) (fun h4 => ?_)
    ·
      show pm_WP 142 (168, [(6, .int (nI k)), (5, .int u), (0, .ref 25), (1, .int t), (2, .int w), (3, .int r), (4, .int a)], [.int 1], _, 0, 0) _
      refine pm_brF (h := (171, [(6, .int (nI k)), (5, .int u), (0, .ref 25), (1, .int t), (2, .int w), (3, .int r), (4, .int a)], [], hq g c1 c2 c3 c4 c5 c6 c7 c8 c9 c10 c11 c12 c13 c14 c15 c16 c17 c18 c19 c20 c21 c22 c23 c24 (hc25 mTy mTm mMn mFn mRn mTn mVn mLr mTr mFl mFm mFp mSc mMp mEn) (hc26 mPa) (hc27 mTo) (hc28 mOt) (hc29 mNa) (hc30 mRe) (hc31 mMa) (hc32 mMy) (hc33 mPm) (hc34 mFy) (hc35 mFa) (hc36 mFr) (hc37 mFo) (hc38 mRt) (hc39 mRm) (hc40 mTt) (hc41 mTi) (hc42 mPl) (hc43 mVr) (hc44 mVf) (hc45 mVc) (hc46 mAr) (hc47 mTc) (hc48 mFt) (hc49 mGo) dyn, 0, 0)) rfl ?_
      refine pm_go (g := (173, _, [.int (-6)], _, 0, 0)) rfl ?_
      exact pm_ret rfl (k0 ⟨k, Nat.le_refl k, by omega, by assumption⟩)
    show pm_WP 142 (168, [(6, .int (nI k)), (5, .int u), (0, .ref 25), (1, .int t), (2, .int w), (3, .int r), (4, .int a)], [.int 0], hq g c1 c2 c3 c4 c5 c6 c7 c8 c9 c10 c11 c12 c13 c14 c15 c16 c17 c18 c19 c20 c21 c22 c23 c24 (hc25 mTy mTm mMn mFn mRn mTn mVn mLr mTr mFl mFm mFp mSc mMp mEn) (hc26 mPa) (hc27 mTo) (hc28 mOt) (hc29 mNa) (hc30 mRe) (hc31 mMa) (hc32 mMy) (hc33 mPm) (hc34 mFy) (hc35 mFa) (hc36 mFr) (hc37 mFo) (hc38 mRt) (hc39 mRm) (hc40 mTt) (hc41 mTi) (hc42 mPl) (hc43 mVr) (hc44 mVf) (hc45 mVc) (hc46 mAr) (hc47 mTc) (hc48 mFt) (hc49 mGo) dyn, 0, 0) _
    refine pm_brT (g := (174, [(6, .int (nI k)), (5, .int u), (0, .ref 25), (1, .int t), (2, .int w), (3, .int r), (4, .int a)], [], hq g c1 c2 c3 c4 c5 c6 c7 c8 c9 c10 c11 c12 c13 c14 c15 c16 c17 c18 c19 c20 c21 c22 c23 c24 (hc25 mTy mTm mMn mFn mRn mTn mVn mLr mTr mFl mFm mFp mSc mMp mEn) (hc26 mPa) (hc27 mTo) (hc28 mOt) (hc29 mNa) (hc30 mRe) (hc31 mMa) (hc32 mMy) (hc33 mPm) (hc34 mFy) (hc35 mFa) (hc36 mFr) (hc37 mFo) (hc38 mRt) (hc39 mRm) (hc40 mTt) (hc41 mTi) (hc42 mPl) (hc43 mVr) (hc44 mVf) (hc45 mVc) (hc46 mAr) (hc47 mTc) (hc48 mFt) (hc49 mGo) dyn, 0, 0)) rfl ?_
    refine pm_go (g := (177, [(6, .int ((nI k) + 1)), (5, .int u), (0, .ref 25), (1, .int t), (2, .int w), (3, .int r), (4, .int a)], [], _, 0, 0)) rfl ?_
    refine pm_go (g := (148, _, [], _, 0, 0)) rfl ?_
    rw [nI_1]
    refine ih (k + 1) (by omega) (by omega) (fun h => k0 (by obtain ⟨j, q1, q2⟩ := h; exact ⟨j, by omega, q2⟩)) (fun h => k1 ⟨fun j g1 g2 => ?_, h.2⟩) (fun h => k2 ⟨fun j g1 g2 => ?_, h.2⟩) <;>
      (rcases Nat.eq_or_lt_of_le g1 with e9 | e9; (subst e9; assumption); exact h.1 j e9 g2)
set_option maxRecDepth 100000 in
set_option maxHeartbeats 4000000 in
theorem w_X12_member {g c1 c2 c3 c4 c5 c6 c7 c8 c9 c10 c11 c12 c13 c14 c15 c16 c17 c18 c19 c20 c21 c22 c23 c24 : pm_C} {dyn : pm_H} {mTy : Int32} {mPa : Nat → Int32} {mTo : Nat → Int32} {mTm : Int32} {mMn : Int32} {mOt : Nat → Int32} {mNa : Nat → Int32} {mRe : Nat → Int32} {mMa : Nat → Int32} {mMy : Nat → Int32} {mPm : Nat → Int32} {mFn : Int32} {mFy : Nat → Int32} {mFa : Nat → Int32} {mFr : Nat → Int32} {mRn : Int32} {mFo : Nat → Int32} {mRt : Nat → Int32} {mRm : Nat → Int32} {mTn : Int32} {mTt : Nat → Int32} {mTi : Nat → Int32} {mPl : Nat → Int32} {mVn : Int32} {mVr : Nat → Int32} {mVf : Nat → Int32} {mVc : Nat → Int32} {mAr : Nat → Int32} {mLr : Int32} {mTc : Nat → Int32} {mTr : Int32} {mFl : Int32} {mFt : Nat → Int32} {mFm : Int32} {mFp : Int32} {mSc : Int32} {mMp : Int32} {mEn : Int32} {mGo : Nat → Int32} {Q : pm_Q} (t : Int32) (w : Int32) (r : Int32) (a : Int32) (p0 : 2 ≤ mTy.toInt ∧ mTy.toInt ≤ 10) (p1 : paD mPa) (p2 : 0 ≤ mTm.toInt ∧ mTm.toInt ≤ 3) (p3 : 0 ≤ mMn.toInt ∧ mMn.toInt ≤ 40) (k0 : ¬ ((0 ≤ t.toInt ∧ t.toInt < mTy.toInt ∧ t.toInt ≠ 1) ∧ (0 ≤ w.toInt ∧ w.toInt ≤ 6) ∧ ((((0 ≤ r.toInt ∧ r.toInt < mTy.toInt) ∨ r.toInt = 10 ∨ (20 ≤ r.toInt ∧ r.toInt < 20 + mTy.toInt) ∨ r.toInt = 30)) ∨ r.toInt = 11) ∧ (0 ≤ a.toInt ∧ a.toInt ≤ 7) ∧ ((a &&& 4).toInt = 0 ∨ (mTm.toInt ≠ 0 ∧ 20 ≤ (mTo (mTm - 1).toNatClampNeg).toInt)) ∧ (a &&& 3).toInt ≠ 3 ∧ ((a &&& 2).toInt = 0 ∨ t.toInt ≠ 0) ∧ (w.toInt ≠ 6 ∨ ((a &&& 3).toInt = 0 ∧ r.toInt = t.toInt))) → Q (some (.int (-1))) (hq g c1 c2 c3 c4 c5 c6 c7 c8 c9 c10 c11 c12 c13 c14 c15 c16 c17 c18 c19 c20 c21 c22 c23 c24 (hc25 mTy mTm mMn mFn mRn mTn mVn mLr mTr mFl mFm mFp mSc mMp mEn) (hc26 mPa) (hc27 mTo) (hc28 mOt) (hc29 mNa) (hc30 mRe) (hc31 mMa) (hc32 mMy) (hc33 mPm) (hc34 mFy) (hc35 mFa) (hc36 mFr) (hc37 mFo) (hc38 mRt) (hc39 mRm) (hc40 mTt) (hc41 mTi) (hc42 mPl) (hc43 mVr) (hc44 mVf) (hc45 mVc) (hc46 mAr) (hc47 mTc) (hc48 mFt) (hc49 mGo) dyn)) (k1 : ((0 ≤ t.toInt ∧ t.toInt < mTy.toInt ∧ t.toInt ≠ 1) ∧ (0 ≤ w.toInt ∧ w.toInt ≤ 6) ∧ ((((0 ≤ r.toInt ∧ r.toInt < mTy.toInt) ∨ r.toInt = 10 ∨ (20 ≤ r.toInt ∧ r.toInt < 20 + mTy.toInt) ∨ r.toInt = 30)) ∨ r.toInt = 11) ∧ (0 ≤ a.toInt ∧ a.toInt ≤ 7) ∧ ((a &&& 4).toInt = 0 ∨ (mTm.toInt ≠ 0 ∧ 20 ≤ (mTo (mTm - 1).toNatClampNeg).toInt)) ∧ (a &&& 3).toInt ≠ 3 ∧ ((a &&& 2).toInt = 0 ∨ t.toInt ≠ 0) ∧ (w.toInt ≠ 6 ∨ ((a &&& 3).toInt = 0 ∧ r.toInt = t.toInt))) ∧ (0 < mTn.toInt ∨ 0 < mVn.toInt) → Q (some (.int (-3))) (hq g c1 c2 c3 c4 c5 c6 c7 c8 c9 c10 c11 c12 c13 c14 c15 c16 c17 c18 c19 c20 c21 c22 c23 c24 (hc25 mTy mTm mMn mFn mRn mTn mVn mLr mTr mFl mFm mFp mSc mMp mEn) (hc26 mPa) (hc27 mTo) (hc28 mOt) (hc29 mNa) (hc30 mRe) (hc31 mMa) (hc32 mMy) (hc33 mPm) (hc34 mFy) (hc35 mFa) (hc36 mFr) (hc37 mFo) (hc38 mRt) (hc39 mRm) (hc40 mTt) (hc41 mTi) (hc42 mPl) (hc43 mVr) (hc44 mVf) (hc45 mVc) (hc46 mAr) (hc47 mTc) (hc48 mFt) (hc49 mGo) dyn)) (k2 : (((0 ≤ t.toInt ∧ t.toInt < mTy.toInt ∧ t.toInt ≠ 1) ∧ (0 ≤ w.toInt ∧ w.toInt ≤ 6) ∧ ((((0 ≤ r.toInt ∧ r.toInt < mTy.toInt) ∨ r.toInt = 10 ∨ (20 ≤ r.toInt ∧ r.toInt < 20 + mTy.toInt) ∨ r.toInt = 30)) ∨ r.toInt = 11) ∧ (0 ≤ a.toInt ∧ a.toInt ≤ 7) ∧ ((a &&& 4).toInt = 0 ∨ (mTm.toInt ≠ 0 ∧ 20 ≤ (mTo (mTm - 1).toNatClampNeg).toInt)) ∧ (a &&& 3).toInt ≠ 3 ∧ ((a &&& 2).toInt = 0 ∨ t.toInt ≠ 0) ∧ (w.toInt ≠ 6 ∨ ((a &&& 3).toInt = 0 ∧ r.toInt = t.toInt))) ∧ ¬ (0 < mTn.toInt ∨ 0 < mVn.toInt)) ∧ (∃ j : Nat, (j : Int) < mMn.toInt ∧ clM mPa mOt mNa mRe mMa mMy mPm mTo mTm (nI j) t w r a) → Q (some (.int (-6))) (hq g c1 c2 c3 c4 c5 c6 c7 c8 c9 c10 c11 c12 c13 c14 c15 c16 c17 c18 c19 c20 c21 c22 c23 c24 (hc25 mTy mTm mMn mFn mRn mTn mVn mLr mTr mFl mFm mFp mSc mMp mEn) (hc26 mPa) (hc27 mTo) (hc28 mOt) (hc29 mNa) (hc30 mRe) (hc31 mMa) (hc32 mMy) (hc33 mPm) (hc34 mFy) (hc35 mFa) (hc36 mFr) (hc37 mFo) (hc38 mRt) (hc39 mRm) (hc40 mTt) (hc41 mTi) (hc42 mPl) (hc43 mVr) (hc44 mVf) (hc45 mVc) (hc46 mAr) (hc47 mTc) (hc48 mFt) (hc49 mGo) dyn)) (k3 : (((0 ≤ t.toInt ∧ t.toInt < mTy.toInt ∧ t.toInt ≠ 1) ∧ (0 ≤ w.toInt ∧ w.toInt ≤ 6) ∧ ((((0 ≤ r.toInt ∧ r.toInt < mTy.toInt) ∨ r.toInt = 10 ∨ (20 ≤ r.toInt ∧ r.toInt < 20 + mTy.toInt) ∨ r.toInt = 30)) ∨ r.toInt = 11) ∧ (0 ≤ a.toInt ∧ a.toInt ≤ 7) ∧ ((a &&& 4).toInt = 0 ∨ (mTm.toInt ≠ 0 ∧ 20 ≤ (mTo (mTm - 1).toNatClampNeg).toInt)) ∧ (a &&& 3).toInt ≠ 3 ∧ ((a &&& 2).toInt = 0 ∨ t.toInt ≠ 0) ∧ (w.toInt ≠ 6 ∨ ((a &&& 3).toInt = 0 ∧ r.toInt = t.toInt))) ∧ ¬ (0 < mTn.toInt ∨ 0 < mVn.toInt)) ∧ (∀ j : Nat, (j : Int) < mMn.toInt → ¬ clM mPa mOt mNa mRe mMa mMy mPm mTo mTm (nI j) t w r a) ∧ mMn.toInt = 40 → Q (some (.int (-2))) (hq g c1 c2 c3 c4 c5 c6 c7 c8 c9 c10 c11 c12 c13 c14 c15 c16 c17 c18 c19 c20 c21 c22 c23 c24 (hc25 mTy mTm mMn mFn mRn mTn mVn mLr mTr mFl mFm mFp mSc mMp mEn) (hc26 mPa) (hc27 mTo) (hc28 mOt) (hc29 mNa) (hc30 mRe) (hc31 mMa) (hc32 mMy) (hc33 mPm) (hc34 mFy) (hc35 mFa) (hc36 mFr) (hc37 mFo) (hc38 mRt) (hc39 mRm) (hc40 mTt) (hc41 mTi) (hc42 mPl) (hc43 mVr) (hc44 mVf) (hc45 mVc) (hc46 mAr) (hc47 mTc) (hc48 mFt) (hc49 mGo) dyn)) (k4 : (((0 ≤ t.toInt ∧ t.toInt < mTy.toInt ∧ t.toInt ≠ 1) ∧ (0 ≤ w.toInt ∧ w.toInt ≤ 6) ∧ ((((0 ≤ r.toInt ∧ r.toInt < mTy.toInt) ∨ r.toInt = 10 ∨ (20 ≤ r.toInt ∧ r.toInt < 20 + mTy.toInt) ∨ r.toInt = 30)) ∨ r.toInt = 11) ∧ (0 ≤ a.toInt ∧ a.toInt ≤ 7) ∧ ((a &&& 4).toInt = 0 ∨ (mTm.toInt ≠ 0 ∧ 20 ≤ (mTo (mTm - 1).toNatClampNeg).toInt)) ∧ (a &&& 3).toInt ≠ 3 ∧ ((a &&& 2).toInt = 0 ∨ t.toInt ≠ 0) ∧ (w.toInt ≠ 6 ∨ ((a &&& 3).toInt = 0 ∧ r.toInt = t.toInt))) ∧ ¬ (0 < mTn.toInt ∨ 0 < mVn.toInt)) ∧ (∀ j : Nat, (j : Int) < mMn.toInt → ¬ clM mPa mOt mNa mRe mMa mMy mPm mTo mTm (nI j) t w r a) ∧ mMn.toInt < 40 → Q (some (.int (mMn + 1 - 1))) (hq g c1 c2 c3 c4 c5 c6 c7 c8 c9 c10 c11 c12 c13 c14 c15 c16 c17 c18 c19 c20 c21 c22 c23 c24 (hc25 mTy 0 (mMn + 1) mFn mRn mTn mVn mLr mTr mFl mFm mFp mSc mMp mEn) (hc26 mPa) (hc27 mTo) (hc28 (upd mOt mMn.toNatClampNeg t)) (hc29 (upd mNa mMn.toNatClampNeg w)) (hc30 (upd mRe mMn.toNatClampNeg r)) (hc31 (upd mMa mMn.toNatClampNeg a)) (hc32 (upd mMy mMn.toNatClampNeg mTm)) (hc33 (cpF mPm mTo mMn mTm)) (hc34 mFy) (hc35 mFa) (hc36 mFr) (hc37 mFo) (hc38 mRt) (hc39 mRm) (hc40 mTt) (hc41 mTi) (hc42 mPl) (hc43 mVr) (hc44 mVf) (hc45 mVc) (hc46 mAr) (hc47 mTc) (hc48 mFt) (hc49 mGo) dyn)) : pm_WP 142 (0, [(0, .ref 25), (1, .int t), (2, .int w), (3, .int r), (4, .int a)], [], hq g c1 c2 c3 c4 c5 c6 c7 c8 c9 c10 c11 c12 c13 c14 c15 c16 c17 c18 c19 c20 c21 c22 c23 c24 (hc25 mTy mTm mMn mFn mRn mTn mVn mLr mTr mFl mFm mFp mSc mMp mEn) (hc26 mPa) (hc27 mTo) (hc28 mOt) (hc29 mNa) (hc30 mRe) (hc31 mMa) (hc32 mMy) (hc33 mPm) (hc34 mFy) (hc35 mFa) (hc36 mFr) (hc37 mFo) (hc38 mRt) (hc39 mRm) (hc40 mTt) (hc41 mTi) (hc42 mPl) (hc43 mVr) (hc44 mVf) (hc45 mVc) (hc46 mAr) (hc47 mTc) (hc48 mFt) (hc49 mGo) dyn, 0, 0) Q := by
  refine pm_go (g := (1, [(0, .ref 25), (1, .int t), (2, .int w), (3, .int r), (4, .int a)], [.int w], hq g c1 c2 c3 c4 c5 c6 c7 c8 c9 c10 c11 c12 c13 c14 c15 c16 c17 c18 c19 c20 c21 c22 c23 c24 (hc25 mTy mTm mMn mFn mRn mTn mVn mLr mTr mFl mFm mFp mSc mMp mEn) (hc26 mPa) (hc27 mTo) (hc28 mOt) (hc29 mNa) (hc30 mRe) (hc31 mMa) (hc32 mMy) (hc33 mPm) (hc34 mFy) (hc35 mFa) (hc36 mFr) (hc37 mFo) (hc38 mRt) (hc39 mRm) (hc40 mTt) (hc41 mTi) (hc42 mPl) (hc43 mVr) (hc44 mVf) (hc45 mVc) (hc46 mAr) (hc47 mTc) (hc48 mFt) (hc49 mGo) dyn, 0, 0)) rfl ?_
  refine pm_go (g := (3, _, [.int 6, .int w], _, 0, 0)) rfl ?_
  refine pm_if2 (g := (10, [(0, .ref 25), (1, .int t), (2, .int w), (3, .int r), (4, .int a)], [], hq g c1 c2 c3 c4 c5 c6 c7 c8 c9 c10 c11 c12 c13 c14 c15 c16 c17 c18 c19 c20 c21 c22 c23 c24 (hc25 mTy mTm mMn mFn mRn mTn mVn mLr mTr mFl mFm mFp mSc mMp mEn) (hc26 mPa) (hc27 mTo) (hc28 mOt) (hc29 mNa) (hc30 mRe) (hc31 mMa) (hc32 mMy) (hc33 mPm) (hc34 mFy) (hc35 mFa) (hc36 mFr) (hc37 mFo) (hc38 mRt) (hc39 mRm) (hc40 mTt) (hc41 mTi) (hc42 mPl) (hc43 mVr) (hc44 mVf) (hc45 mVc) (hc46 mAr) (hc47 mTc) (hc48 mFt) (hc49 mGo) dyn, 0, 0)) (h := (6, [(0, .ref 25), (1, .int t), (2, .int w), (3, .int r), (4, .int a)], [], hq g c1 c2 c3 c4 c5 c6 c7 c8 c9 c10 c11 c12 c13 c14 c15 c16 c17 c18 c19 c20 c21 c22 c23 c24 (hc25 mTy mTm mMn mFn mRn mTn mVn mLr mTr mFl mFm mFp mSc mMp mEn) (hc26 mPa) (hc27 mTo) (hc28 mOt) (hc29 mNa) (hc30 mRe) (hc31 mMa) (hc32 mMy) (hc33 mPm) (hc34 mFy) (hc35 mFa) (hc36 mFr) (hc37 mFo) (hc38 mRt) (hc39 mRm) (hc40 mTt) (hc41 mTi) (hc42 mPl) (hc43 mVr) (hc44 mVf) (hc45 mVc) (hc46 mAr) (hc47 mTc) (hc48 mFt) (hc49 mGo) dyn, 0, 0)) rfl (fun h1 => ?_) (fun h1 => ?_)
  ·
    have h1 := qT_ne (cx := (w).toInt) (cy := 6) rfl (by decide) h1
    refine pm_go (g := (11, _, [.int 0], _, 0, 0)) rfl ?_
    refine pm_go (g := (13, [(5, .int 0), (0, .ref 25), (1, .int t), (2, .int w), (3, .int r), (4, .int a)], [], _, 0, 0)) rfl ?_
    refine pm_go (g := (14, _, [.ref 25], _, 0, 0)) rfl ?_
    refine pm_go (g := (15, _, [.int t, .ref 25], _, 0, 0)) rfl ?_
    refine pm_callD (z := 130) (as := [.ref 25, .int t]) (rest := []) rfl ?_
    refine w_X12_isOwn t (by omega) (fun h2 => ?_) (fun h3 => ?_)
    ·
      show pm_WP 142 (18, [(5, .int 0), (0, .ref 25), (1, .int t), (2, .int w), (3, .int r), (4, .int a)], [.int 1], _, 0, 0) _
      refine pm_brF (h := (21, [(5, .int 0), (0, .ref 25), (1, .int t), (2, .int w), (3, .int r), (4, .int a)], [], hq g c1 c2 c3 c4 c5 c6 c7 c8 c9 c10 c11 c12 c13 c14 c15 c16 c17 c18 c19 c20 c21 c22 c23 c24 (hc25 mTy mTm mMn mFn mRn mTn mVn mLr mTr mFl mFm mFp mSc mMp mEn) (hc26 mPa) (hc27 mTo) (hc28 mOt) (hc29 mNa) (hc30 mRe) (hc31 mMa) (hc32 mMy) (hc33 mPm) (hc34 mFy) (hc35 mFa) (hc36 mFr) (hc37 mFo) (hc38 mRt) (hc39 mRm) (hc40 mTt) (hc41 mTi) (hc42 mPl) (hc43 mVr) (hc44 mVf) (hc45 mVc) (hc46 mAr) (hc47 mTc) (hc48 mFt) (hc49 mGo) dyn, 0, 0)) rfl ?_
      refine pm_go (g := (22, _, [.int w], _, 0, 0)) rfl ?_
      refine pm_go (g := (23, _, [.int 0, .int w], _, 0, 0)) rfl ?_
      refine pm_go (g := (25, _, [.int 6, .int 0, .int w], _, 0, 0)) rfl ?_
      refine pm_callD (z := 128) (as := [.int w, .int 0, .int 6]) (rest := []) rfl ?_
      have h5 : (0 : Int32).toInt = 0 := by decide
      have h6 : (6 : Int32).toInt = 6 := by decide
      refine w_X12_isIn w 0 6 (fun h7 => ?_) (fun h8 => ?_)
      ·
        show pm_WP 142 (28, [(5, .int 0), (0, .ref 25), (1, .int t), (2, .int w), (3, .int r), (4, .int a)], [.int 1], _, 0, 0) _
        refine pm_brF (h := (31, [(5, .int 0), (0, .ref 25), (1, .int t), (2, .int w), (3, .int r), (4, .int a)], [], hq g c1 c2 c3 c4 c5 c6 c7 c8 c9 c10 c11 c12 c13 c14 c15 c16 c17 c18 c19 c20 c21 c22 c23 c24 (hc25 mTy mTm mMn mFn mRn mTn mVn mLr mTr mFl mFm mFp mSc mMp mEn) (hc26 mPa) (hc27 mTo) (hc28 mOt) (hc29 mNa) (hc30 mRe) (hc31 mMa) (hc32 mMy) (hc33 mPm) (hc34 mFy) (hc35 mFa) (hc36 mFr) (hc37 mFo) (hc38 mRt) (hc39 mRm) (hc40 mTt) (hc41 mTi) (hc42 mPl) (hc43 mVr) (hc44 mVf) (hc45 mVc) (hc46 mAr) (hc47 mTc) (hc48 mFt) (hc49 mGo) dyn, 0, 0)) rfl ?_
        refine pm_go (g := (32, _, [.ref 25], _, 0, 0)) rfl ?_
        refine pm_go (g := (33, _, [.int r, .ref 25], _, 0, 0)) rfl ?_
        refine pm_callD (z := 131) (as := [.ref 25, .int r]) (rest := []) rfl ?_
        refine w_X12_isPlace r (by omega) (fun h10 => ?_) (fun h11 => ?_)
        ·
          show pm_WP 142 (36, [(5, .int 0), (0, .ref 25), (1, .int t), (2, .int w), (3, .int r), (4, .int a)], [.int 1], _, 0, 0) _
          refine pm_brT (g := (45, [(5, .int 0), (0, .ref 25), (1, .int t), (2, .int w), (3, .int r), (4, .int a)], [], hq g c1 c2 c3 c4 c5 c6 c7 c8 c9 c10 c11 c12 c13 c14 c15 c16 c17 c18 c19 c20 c21 c22 c23 c24 (hc25 mTy mTm mMn mFn mRn mTn mVn mLr mTr mFl mFm mFp mSc mMp mEn) (hc26 mPa) (hc27 mTo) (hc28 mOt) (hc29 mNa) (hc30 mRe) (hc31 mMa) (hc32 mMy) (hc33 mPm) (hc34 mFy) (hc35 mFa) (hc36 mFr) (hc37 mFo) (hc38 mRt) (hc39 mRm) (hc40 mTt) (hc41 mTi) (hc42 mPl) (hc43 mVr) (hc44 mVf) (hc45 mVc) (hc46 mAr) (hc47 mTc) (hc48 mFt) (hc49 mGo) dyn, 0, 0)) rfl ?_
          refine pm_go (g := (47, _, [.int a], _, 0, 0)) rfl ?_
          refine pm_go (g := (48, _, [.int 0, .int a], _, 0, 0)) rfl ?_
          refine pm_go (g := (50, _, [.int 7, .int 0, .int a], _, 0, 0)) rfl ?_
          refine pm_callD (z := 128) (as := [.int a, .int 0, .int 7]) (rest := []) rfl ?_
          have h13 : (0 : Int32).toInt = 0 := by decide
          have h14 : (7 : Int32).toInt = 7 := by decide
          refine w_X12_isIn a 0 7 (fun h15 => ?_) (fun h16 => ?_)
          ·
            show pm_WP 142 (53, [(5, .int 0), (0, .ref 25), (1, .int t), (2, .int w), (3, .int r), (4, .int a)], [.int 1], _, 0, 0) _
            refine pm_brT (g := (58, [(5, .int 0), (0, .ref 25), (1, .int t), (2, .int w), (3, .int r), (4, .int a)], [], hq g c1 c2 c3 c4 c5 c6 c7 c8 c9 c10 c11 c12 c13 c14 c15 c16 c17 c18 c19 c20 c21 c22 c23 c24 (hc25 mTy mTm mMn mFn mRn mTn mVn mLr mTr mFl mFm mFp mSc mMp mEn) (hc26 mPa) (hc27 mTo) (hc28 mOt) (hc29 mNa) (hc30 mRe) (hc31 mMa) (hc32 mMy) (hc33 mPm) (hc34 mFy) (hc35 mFa) (hc36 mFr) (hc37 mFo) (hc38 mRt) (hc39 mRm) (hc40 mTt) (hc41 mTi) (hc42 mPl) (hc43 mVr) (hc44 mVf) (hc45 mVc) (hc46 mAr) (hc47 mTc) (hc48 mFt) (hc49 mGo) dyn, 0, 0)) rfl ?_
            refine pm_go (g := (60, _, [.int a], _, 0, 0)) rfl ?_
            refine pm_go (g := (61, _, [.int 4, .int a], _, 0, 0)) rfl ?_
            refine pm_go (g := (62, _, [.int (a &&& 4)], _, 0, 0)) rfl ?_
            refine pm_if2 (g := (90, [(5, .int 0), (0, .ref 25), (1, .int t), (2, .int w), (3, .int r), (4, .int a)], [], hq g c1 c2 c3 c4 c5 c6 c7 c8 c9 c10 c11 c12 c13 c14 c15 c16 c17 c18 c19 c20 c21 c22 c23 c24 (hc25 mTy mTm mMn mFn mRn mTn mVn mLr mTr mFl mFm mFp mSc mMp mEn) (hc26 mPa) (hc27 mTo) (hc28 mOt) (hc29 mNa) (hc30 mRe) (hc31 mMa) (hc32 mMy) (hc33 mPm) (hc34 mFy) (hc35 mFa) (hc36 mFr) (hc37 mFo) (hc38 mRt) (hc39 mRm) (hc40 mTt) (hc41 mTi) (hc42 mPl) (hc43 mVr) (hc44 mVf) (hc45 mVc) (hc46 mAr) (hc47 mTc) (hc48 mFt) (hc49 mGo) dyn, 0, 0)) (h := (65, [(5, .int 0), (0, .ref 25), (1, .int t), (2, .int w), (3, .int r), (4, .int a)], [], hq g c1 c2 c3 c4 c5 c6 c7 c8 c9 c10 c11 c12 c13 c14 c15 c16 c17 c18 c19 c20 c21 c22 c23 c24 (hc25 mTy mTm mMn mFn mRn mTn mVn mLr mTr mFl mFm mFp mSc mMp mEn) (hc26 mPa) (hc27 mTo) (hc28 mOt) (hc29 mNa) (hc30 mRe) (hc31 mMa) (hc32 mMy) (hc33 mPm) (hc34 mFy) (hc35 mFa) (hc36 mFr) (hc37 mFo) (hc38 mRt) (hc39 mRm) (hc40 mTt) (hc41 mTi) (hc42 mPl) (hc43 mVr) (hc44 mVf) (hc45 mVc) (hc46 mAr) (hc47 mTc) (hc48 mFt) (hc49 mGo) dyn, 0, 0)) rfl (fun h18 => ?_) (fun h18 => ?_)
            ·
              have h18 := qT_eq (cx := (a &&& 4).toInt) (cy := 0) rfl (by decide) h18
              refine pm_go (g := (92, _, [.int a], _, 0, 0)) rfl ?_
              refine pm_go (g := (93, _, [.int 3, .int a], _, 0, 0)) rfl ?_
              refine pm_go (g := (94, _, [.int (a &&& 3)], _, 0, 0)) rfl ?_
              refine pm_go (g := (95, _, [.int 3, .int (a &&& 3)], _, 0, 0)) rfl ?_
              refine pm_if2 (g := (126, [(5, .int 0), (0, .ref 25), (1, .int t), (2, .int w), (3, .int r), (4, .int a)], [], hq g c1 c2 c3 c4 c5 c6 c7 c8 c9 c10 c11 c12 c13 c14 c15 c16 c17 c18 c19 c20 c21 c22 c23 c24 (hc25 mTy mTm mMn mFn mRn mTn mVn mLr mTr mFl mFm mFp mSc mMp mEn) (hc26 mPa) (hc27 mTo) (hc28 mOt) (hc29 mNa) (hc30 mRe) (hc31 mMa) (hc32 mMy) (hc33 mPm) (hc34 mFy) (hc35 mFa) (hc36 mFr) (hc37 mFo) (hc38 mRt) (hc39 mRm) (hc40 mTt) (hc41 mTi) (hc42 mPl) (hc43 mVr) (hc44 mVf) (hc45 mVc) (hc46 mAr) (hc47 mTc) (hc48 mFt) (hc49 mGo) dyn, 0, 0)) (h := (98, [(5, .int 0), (0, .ref 25), (1, .int t), (2, .int w), (3, .int r), (4, .int a)], [], hq g c1 c2 c3 c4 c5 c6 c7 c8 c9 c10 c11 c12 c13 c14 c15 c16 c17 c18 c19 c20 c21 c22 c23 c24 (hc25 mTy mTm mMn mFn mRn mTn mVn mLr mTr mFl mFm mFp mSc mMp mEn) (hc26 mPa) (hc27 mTo) (hc28 mOt) (hc29 mNa) (hc30 mRe) (hc31 mMa) (hc32 mMy) (hc33 mPm) (hc34 mFy) (hc35 mFa) (hc36 mFr) (hc37 mFo) (hc38 mRt) (hc39 mRm) (hc40 mTt) (hc41 mTi) (hc42 mPl) (hc43 mVr) (hc44 mVf) (hc45 mVc) (hc46 mAr) (hc47 mTc) (hc48 mFt) (hc49 mGo) dyn, 0, 0)) rfl (fun h19 => ?_) (fun h19 => ?_)
              ·
                have h19 := qT_eq (cx := (a &&& 3).toInt) (cy := 3) rfl (by decide) h19
                refine pm_go (g := (127, _, [.int (-1)], _, 0, 0)) rfl ?_
                exact pm_ret rfl (k0 (by omega))
              have h19 := qF_eq (cx := (a &&& 3).toInt) (cy := 3) rfl (by decide) h19
              refine pm_go (g := (100, _, [.int a], _, 0, 0)) rfl ?_
              refine pm_go (g := (101, _, [.int 2, .int a], _, 0, 0)) rfl ?_
              refine pm_go (g := (102, _, [.int (a &&& 2)], _, 0, 0)) rfl ?_
              refine pm_if2 (g := (109, [(5, .int 0), (0, .ref 25), (1, .int t), (2, .int w), (3, .int r), (4, .int a)], [], hq g c1 c2 c3 c4 c5 c6 c7 c8 c9 c10 c11 c12 c13 c14 c15 c16 c17 c18 c19 c20 c21 c22 c23 c24 (hc25 mTy mTm mMn mFn mRn mTn mVn mLr mTr mFl mFm mFp mSc mMp mEn) (hc26 mPa) (hc27 mTo) (hc28 mOt) (hc29 mNa) (hc30 mRe) (hc31 mMa) (hc32 mMy) (hc33 mPm) (hc34 mFy) (hc35 mFa) (hc36 mFr) (hc37 mFo) (hc38 mRt) (hc39 mRm) (hc40 mTt) (hc41 mTi) (hc42 mPl) (hc43 mVr) (hc44 mVf) (hc45 mVc) (hc46 mAr) (hc47 mTc) (hc48 mFt) (hc49 mGo) dyn, 0, 0)) (h := (105, [(5, .int 0), (0, .ref 25), (1, .int t), (2, .int w), (3, .int r), (4, .int a)], [], hq g c1 c2 c3 c4 c5 c6 c7 c8 c9 c10 c11 c12 c13 c14 c15 c16 c17 c18 c19 c20 c21 c22 c23 c24 (hc25 mTy mTm mMn mFn mRn mTn mVn mLr mTr mFl mFm mFp mSc mMp mEn) (hc26 mPa) (hc27 mTo) (hc28 mOt) (hc29 mNa) (hc30 mRe) (hc31 mMa) (hc32 mMy) (hc33 mPm) (hc34 mFy) (hc35 mFa) (hc36 mFr) (hc37 mFo) (hc38 mRt) (hc39 mRm) (hc40 mTt) (hc41 mTi) (hc42 mPl) (hc43 mVr) (hc44 mVf) (hc45 mVc) (hc46 mAr) (hc47 mTc) (hc48 mFt) (hc49 mGo) dyn, 0, 0)) rfl (fun h20 => ?_) (fun h20 => ?_)
              ·
                have h20 := qT_eq (cx := (a &&& 2).toInt) (cy := 0) rfl (by decide) h20
                refine pm_go (g := (111, _, [.int 0], _, 0, 0)) rfl ?_
                refine pm_brT (g := (128, [(5, .int 0), (0, .ref 25), (1, .int t), (2, .int w), (3, .int r), (4, .int a)], [], hq g c1 c2 c3 c4 c5 c6 c7 c8 c9 c10 c11 c12 c13 c14 c15 c16 c17 c18 c19 c20 c21 c22 c23 c24 (hc25 mTy mTm mMn mFn mRn mTn mVn mLr mTr mFl mFm mFp mSc mMp mEn) (hc26 mPa) (hc27 mTo) (hc28 mOt) (hc29 mNa) (hc30 mRe) (hc31 mMa) (hc32 mMy) (hc33 mPm) (hc34 mFy) (hc35 mFa) (hc36 mFr) (hc37 mFo) (hc38 mRt) (hc39 mRm) (hc40 mTt) (hc41 mTi) (hc42 mPl) (hc43 mVr) (hc44 mVf) (hc45 mVc) (hc46 mAr) (hc47 mTc) (hc48 mFt) (hc49 mGo) dyn, 0, 0)) rfl ?_
                refine pm_go (g := (129, _, [.ref 25], _, 0, 0)) rfl ?_
                refine pm_go (g := (132, _, [.int mTn], _, 0, 0)) rfl ?_
                refine pm_if2 (g := (142, [(5, .int 0), (0, .ref 25), (1, .int t), (2, .int w), (3, .int r), (4, .int a)], [], hq g c1 c2 c3 c4 c5 c6 c7 c8 c9 c10 c11 c12 c13 c14 c15 c16 c17 c18 c19 c20 c21 c22 c23 c24 (hc25 mTy mTm mMn mFn mRn mTn mVn mLr mTr mFl mFm mFp mSc mMp mEn) (hc26 mPa) (hc27 mTo) (hc28 mOt) (hc29 mNa) (hc30 mRe) (hc31 mMa) (hc32 mMy) (hc33 mPm) (hc34 mFy) (hc35 mFa) (hc36 mFr) (hc37 mFo) (hc38 mRt) (hc39 mRm) (hc40 mTt) (hc41 mTi) (hc42 mPl) (hc43 mVr) (hc44 mVf) (hc45 mVc) (hc46 mAr) (hc47 mTc) (hc48 mFt) (hc49 mGo) dyn, 0, 0)) (h := (135, [(5, .int 0), (0, .ref 25), (1, .int t), (2, .int w), (3, .int r), (4, .int a)], [], hq g c1 c2 c3 c4 c5 c6 c7 c8 c9 c10 c11 c12 c13 c14 c15 c16 c17 c18 c19 c20 c21 c22 c23 c24 (hc25 mTy mTm mMn mFn mRn mTn mVn mLr mTr mFl mFm mFp mSc mMp mEn) (hc26 mPa) (hc27 mTo) (hc28 mOt) (hc29 mNa) (hc30 mRe) (hc31 mMa) (hc32 mMy) (hc33 mPm) (hc34 mFy) (hc35 mFa) (hc36 mFr) (hc37 mFo) (hc38 mRt) (hc39 mRm) (hc40 mTt) (hc41 mTi) (hc42 mPl) (hc43 mVr) (hc44 mVf) (hc45 mVc) (hc46 mAr) (hc47 mTc) (hc48 mFt) (hc49 mGo) dyn, 0, 0)) rfl (fun h21 => ?_) (fun h21 => ?_)
                ·
                  have h21 := qT_gt (cx := (mTn).toInt) (cy := 0) rfl (by decide) h21
                  refine pm_go (g := (144, _, [.int (-3)], _, 0, 0)) rfl ?_
                  exact pm_ret rfl (k1 (by omega))
                have h21 := qF_gt (cx := (mTn).toInt) (cy := 0) rfl (by decide) h21
                refine pm_go (g := (136, _, [.ref 25], _, 0, 0)) rfl ?_
                refine pm_go (g := (139, _, [.int mVn], _, 0, 0)) rfl ?_
                refine pm_if2 (g := (145, [(5, .int 0), (0, .ref 25), (1, .int t), (2, .int w), (3, .int r), (4, .int a)], [], hq g c1 c2 c3 c4 c5 c6 c7 c8 c9 c10 c11 c12 c13 c14 c15 c16 c17 c18 c19 c20 c21 c22 c23 c24 (hc25 mTy mTm mMn mFn mRn mTn mVn mLr mTr mFl mFm mFp mSc mMp mEn) (hc26 mPa) (hc27 mTo) (hc28 mOt) (hc29 mNa) (hc30 mRe) (hc31 mMa) (hc32 mMy) (hc33 mPm) (hc34 mFy) (hc35 mFa) (hc36 mFr) (hc37 mFo) (hc38 mRt) (hc39 mRm) (hc40 mTt) (hc41 mTi) (hc42 mPl) (hc43 mVr) (hc44 mVf) (hc45 mVc) (hc46 mAr) (hc47 mTc) (hc48 mFt) (hc49 mGo) dyn, 0, 0)) (h := (142, [(5, .int 0), (0, .ref 25), (1, .int t), (2, .int w), (3, .int r), (4, .int a)], [], hq g c1 c2 c3 c4 c5 c6 c7 c8 c9 c10 c11 c12 c13 c14 c15 c16 c17 c18 c19 c20 c21 c22 c23 c24 (hc25 mTy mTm mMn mFn mRn mTn mVn mLr mTr mFl mFm mFp mSc mMp mEn) (hc26 mPa) (hc27 mTo) (hc28 mOt) (hc29 mNa) (hc30 mRe) (hc31 mMa) (hc32 mMy) (hc33 mPm) (hc34 mFy) (hc35 mFa) (hc36 mFr) (hc37 mFo) (hc38 mRt) (hc39 mRm) (hc40 mTt) (hc41 mTi) (hc42 mPl) (hc43 mVr) (hc44 mVf) (hc45 mVc) (hc46 mAr) (hc47 mTc) (hc48 mFt) (hc49 mGo) dyn, 0, 0)) rfl (fun h22 => ?_) (fun h22 => ?_)
                ·
                  have h22 := qT_le (cx := (mVn).toInt) (cy := 0) rfl (by decide) h22
                  refine pm_go (g := (146, _, [.int 0], _, 0, 0)) rfl ?_
                  refine pm_go (g := (148, [(6, .int 0), (5, .int 0), (0, .ref 25), (1, .int t), (2, .int w), (3, .int r), (4, .int a)], [], _, 0, 0)) rfl ?_
                  exact w_member_loop t w r a (0) p1 p2 p3 41 0 (by omega) (by omega) (fun h => k2 ⟨by omega, by obtain ⟨j, q1, q2⟩ := h; exact ⟨j, q2⟩⟩) (fun h => k3 ⟨by omega, fun j g => h.1 j (Nat.zero_le j) g, h.2⟩) (fun h => k4 ⟨by omega, fun j g => h.1 j (Nat.zero_le j) g, h.2⟩)
                have h22 := qF_le (cx := (mVn).toInt) (cy := 0) rfl (by decide) h22
                refine pm_go (g := (144, [(5, .int 0), (0, .ref 25), (1, .int t), (2, .int w), (3, .int r), (4, .int a)], [.int (-3)], _, 0, 0)) rfl ?_
                exact pm_ret rfl (k1 (by omega))
              have h20 := qF_eq (cx := (a &&& 2).toInt) (cy := 0) rfl (by decide) h20
              refine pm_go (g := (106, _, [.int t], _, 0, 0)) rfl ?_
              refine pm_if2 (g := (126, [(5, .int 0), (0, .ref 25), (1, .int t), (2, .int w), (3, .int r), (4, .int a)], [], hq g c1 c2 c3 c4 c5 c6 c7 c8 c9 c10 c11 c12 c13 c14 c15 c16 c17 c18 c19 c20 c21 c22 c23 c24 (hc25 mTy mTm mMn mFn mRn mTn mVn mLr mTr mFl mFm mFp mSc mMp mEn) (hc26 mPa) (hc27 mTo) (hc28 mOt) (hc29 mNa) (hc30 mRe) (hc31 mMa) (hc32 mMy) (hc33 mPm) (hc34 mFy) (hc35 mFa) (hc36 mFr) (hc37 mFo) (hc38 mRt) (hc39 mRm) (hc40 mTt) (hc41 mTi) (hc42 mPl) (hc43 mVr) (hc44 mVf) (hc45 mVc) (hc46 mAr) (hc47 mTc) (hc48 mFt) (hc49 mGo) dyn, 0, 0)) (h := (109, [(5, .int 0), (0, .ref 25), (1, .int t), (2, .int w), (3, .int r), (4, .int a)], [], hq g c1 c2 c3 c4 c5 c6 c7 c8 c9 c10 c11 c12 c13 c14 c15 c16 c17 c18 c19 c20 c21 c22 c23 c24 (hc25 mTy mTm mMn mFn mRn mTn mVn mLr mTr mFl mFm mFp mSc mMp mEn) (hc26 mPa) (hc27 mTo) (hc28 mOt) (hc29 mNa) (hc30 mRe) (hc31 mMa) (hc32 mMy) (hc33 mPm) (hc34 mFy) (hc35 mFa) (hc36 mFr) (hc37 mFo) (hc38 mRt) (hc39 mRm) (hc40 mTt) (hc41 mTi) (hc42 mPl) (hc43 mVr) (hc44 mVf) (hc45 mVc) (hc46 mAr) (hc47 mTc) (hc48 mFt) (hc49 mGo) dyn, 0, 0)) rfl (fun h23 => ?_) (fun h23 => ?_)
              ·
                have h23 := qT_eq (cx := (t).toInt) (cy := 0) rfl (by decide) h23
                refine pm_go (g := (127, _, [.int (-1)], _, 0, 0)) rfl ?_
                exact pm_ret rfl (k0 (by omega))
              have h23 := qF_eq (cx := (t).toInt) (cy := 0) rfl (by decide) h23
              refine pm_go (g := (111, _, [.int 0], _, 0, 0)) rfl ?_
              refine pm_brT (g := (128, [(5, .int 0), (0, .ref 25), (1, .int t), (2, .int w), (3, .int r), (4, .int a)], [], hq g c1 c2 c3 c4 c5 c6 c7 c8 c9 c10 c11 c12 c13 c14 c15 c16 c17 c18 c19 c20 c21 c22 c23 c24 (hc25 mTy mTm mMn mFn mRn mTn mVn mLr mTr mFl mFm mFp mSc mMp mEn) (hc26 mPa) (hc27 mTo) (hc28 mOt) (hc29 mNa) (hc30 mRe) (hc31 mMa) (hc32 mMy) (hc33 mPm) (hc34 mFy) (hc35 mFa) (hc36 mFr) (hc37 mFo) (hc38 mRt) (hc39 mRm) (hc40 mTt) (hc41 mTi) (hc42 mPl) (hc43 mVr) (hc44 mVf) (hc45 mVc) (hc46 mAr) (hc47 mTc) (hc48 mFt) (hc49 mGo) dyn, 0, 0)) rfl ?_
              refine pm_go (g := (129, _, [.ref 25], _, 0, 0)) rfl ?_
              refine pm_go (g := (132, _, [.int mTn], _, 0, 0)) rfl ?_
              refine pm_if2 (g := (142, [(5, .int 0), (0, .ref 25), (1, .int t), (2, .int w), (3, .int r), (4, .int a)], [], hq g c1 c2 c3 c4 c5 c6 c7 c8 c9 c10 c11 c12 c13 c14 c15 c16 c17 c18 c19 c20 c21 c22 c23 c24 (hc25 mTy mTm mMn mFn mRn mTn mVn mLr mTr mFl mFm mFp mSc mMp mEn) (hc26 mPa) (hc27 mTo) (hc28 mOt) (hc29 mNa) (hc30 mRe) (hc31 mMa) (hc32 mMy) (hc33 mPm) (hc34 mFy) (hc35 mFa) (hc36 mFr) (hc37 mFo) (hc38 mRt) (hc39 mRm) (hc40 mTt) (hc41 mTi) (hc42 mPl) (hc43 mVr) (hc44 mVf) (hc45 mVc) (hc46 mAr) (hc47 mTc) (hc48 mFt) (hc49 mGo) dyn, 0, 0)) (h := (135, [(5, .int 0), (0, .ref 25), (1, .int t), (2, .int w), (3, .int r), (4, .int a)], [], hq g c1 c2 c3 c4 c5 c6 c7 c8 c9 c10 c11 c12 c13 c14 c15 c16 c17 c18 c19 c20 c21 c22 c23 c24 (hc25 mTy mTm mMn mFn mRn mTn mVn mLr mTr mFl mFm mFp mSc mMp mEn) (hc26 mPa) (hc27 mTo) (hc28 mOt) (hc29 mNa) (hc30 mRe) (hc31 mMa) (hc32 mMy) (hc33 mPm) (hc34 mFy) (hc35 mFa) (hc36 mFr) (hc37 mFo) (hc38 mRt) (hc39 mRm) (hc40 mTt) (hc41 mTi) (hc42 mPl) (hc43 mVr) (hc44 mVf) (hc45 mVc) (hc46 mAr) (hc47 mTc) (hc48 mFt) (hc49 mGo) dyn, 0, 0)) rfl (fun h24 => ?_) (fun h24 => ?_)
              ·
                have h24 := qT_gt (cx := (mTn).toInt) (cy := 0) rfl (by decide) h24
                refine pm_go (g := (144, _, [.int (-3)], _, 0, 0)) rfl ?_
                exact pm_ret rfl (k1 (by omega))
              have h24 := qF_gt (cx := (mTn).toInt) (cy := 0) rfl (by decide) h24
              refine pm_go (g := (136, _, [.ref 25], _, 0, 0)) rfl ?_
              refine pm_go (g := (139, _, [.int mVn], _, 0, 0)) rfl ?_
              refine pm_if2 (g := (145, [(5, .int 0), (0, .ref 25), (1, .int t), (2, .int w), (3, .int r), (4, .int a)], [], hq g c1 c2 c3 c4 c5 c6 c7 c8 c9 c10 c11 c12 c13 c14 c15 c16 c17 c18 c19 c20 c21 c22 c23 c24 (hc25 mTy mTm mMn mFn mRn mTn mVn mLr mTr mFl mFm mFp mSc mMp mEn) (hc26 mPa) (hc27 mTo) (hc28 mOt) (hc29 mNa) (hc30 mRe) (hc31 mMa) (hc32 mMy) (hc33 mPm) (hc34 mFy) (hc35 mFa) (hc36 mFr) (hc37 mFo) (hc38 mRt) (hc39 mRm) (hc40 mTt) (hc41 mTi) (hc42 mPl) (hc43 mVr) (hc44 mVf) (hc45 mVc) (hc46 mAr) (hc47 mTc) (hc48 mFt) (hc49 mGo) dyn, 0, 0)) (h := (142, [(5, .int 0), (0, .ref 25), (1, .int t), (2, .int w), (3, .int r), (4, .int a)], [], hq g c1 c2 c3 c4 c5 c6 c7 c8 c9 c10 c11 c12 c13 c14 c15 c16 c17 c18 c19 c20 c21 c22 c23 c24 (hc25 mTy mTm mMn mFn mRn mTn mVn mLr mTr mFl mFm mFp mSc mMp mEn) (hc26 mPa) (hc27 mTo) (hc28 mOt) (hc29 mNa) (hc30 mRe) (hc31 mMa) (hc32 mMy) (hc33 mPm) (hc34 mFy) (hc35 mFa) (hc36 mFr) (hc37 mFo) (hc38 mRt) (hc39 mRm) (hc40 mTt) (hc41 mTi) (hc42 mPl) (hc43 mVr) (hc44 mVf) (hc45 mVc) (hc46 mAr) (hc47 mTc) (hc48 mFt) (hc49 mGo) dyn, 0, 0)) rfl (fun h25 => ?_) (fun h25 => ?_)
              ·
                have h25 := qT_le (cx := (mVn).toInt) (cy := 0) rfl (by decide) h25
                refine pm_go (g := (146, _, [.int 0], _, 0, 0)) rfl ?_
                refine pm_go (g := (148, [(6, .int 0), (5, .int 0), (0, .ref 25), (1, .int t), (2, .int w), (3, .int r), (4, .int a)], [], _, 0, 0)) rfl ?_
                exact w_member_loop t w r a (0) p1 p2 p3 41 0 (by omega) (by omega) (fun h => k2 ⟨by omega, by obtain ⟨j, q1, q2⟩ := h; exact ⟨j, q2⟩⟩) (fun h => k3 ⟨by omega, fun j g => h.1 j (Nat.zero_le j) g, h.2⟩) (fun h => k4 ⟨by omega, fun j g => h.1 j (Nat.zero_le j) g, h.2⟩)
              have h25 := qF_le (cx := (mVn).toInt) (cy := 0) rfl (by decide) h25
              refine pm_go (g := (144, [(5, .int 0), (0, .ref 25), (1, .int t), (2, .int w), (3, .int r), (4, .int a)], [.int (-3)], _, 0, 0)) rfl ?_
              exact pm_ret rfl (k1 (by omega))
            have h18 := qF_eq (cx := (a &&& 4).toInt) (cy := 0) rfl (by decide) h18
            refine pm_go (g := (66, _, [.ref 25], _, 0, 0)) rfl ?_
            refine pm_go (g := (69, _, [.int mTm], _, 0, 0)) rfl ?_
            refine pm_if2 (g := (88, [(5, .int 0), (0, .ref 25), (1, .int t), (2, .int w), (3, .int r), (4, .int a)], [], hq g c1 c2 c3 c4 c5 c6 c7 c8 c9 c10 c11 c12 c13 c14 c15 c16 c17 c18 c19 c20 c21 c22 c23 c24 (hc25 mTy mTm mMn mFn mRn mTn mVn mLr mTr mFl mFm mFp mSc mMp mEn) (hc26 mPa) (hc27 mTo) (hc28 mOt) (hc29 mNa) (hc30 mRe) (hc31 mMa) (hc32 mMy) (hc33 mPm) (hc34 mFy) (hc35 mFa) (hc36 mFr) (hc37 mFo) (hc38 mRt) (hc39 mRm) (hc40 mTt) (hc41 mTi) (hc42 mPl) (hc43 mVr) (hc44 mVf) (hc45 mVc) (hc46 mAr) (hc47 mTc) (hc48 mFt) (hc49 mGo) dyn, 0, 0)) (h := (72, [(5, .int 0), (0, .ref 25), (1, .int t), (2, .int w), (3, .int r), (4, .int a)], [], hq g c1 c2 c3 c4 c5 c6 c7 c8 c9 c10 c11 c12 c13 c14 c15 c16 c17 c18 c19 c20 c21 c22 c23 c24 (hc25 mTy mTm mMn mFn mRn mTn mVn mLr mTr mFl mFm mFp mSc mMp mEn) (hc26 mPa) (hc27 mTo) (hc28 mOt) (hc29 mNa) (hc30 mRe) (hc31 mMa) (hc32 mMy) (hc33 mPm) (hc34 mFy) (hc35 mFa) (hc36 mFr) (hc37 mFo) (hc38 mRt) (hc39 mRm) (hc40 mTt) (hc41 mTi) (hc42 mPl) (hc43 mVr) (hc44 mVf) (hc45 mVc) (hc46 mAr) (hc47 mTc) (hc48 mFt) (hc49 mGo) dyn, 0, 0)) rfl (fun h26 => ?_) (fun h26 => ?_)
            ·
              have h26 := qT_eq (cx := (mTm).toInt) (cy := 0) rfl (by decide) h26
              refine pm_go (g := (89, _, [.int (-1)], _, 0, 0)) rfl ?_
              exact pm_ret rfl (k0 (by omega))
            have h26 := qF_eq (cx := (mTm).toInt) (cy := 0) rfl (by decide) h26
            refine pm_go (g := (73, _, [.ref 25], _, 0, 0)) rfl ?_
            refine pm_go (g := (76, _, [.ref 27], _, 0, 0)) rfl ?_
            refine pm_go (g := (77, _, [.ref 25, .ref 27], _, 0, 0)) rfl ?_
            refine pm_go (g := (80, _, [.int mTm, .ref 27], _, 0, 0)) rfl ?_
            refine pm_go (g := (81, _, [.int 1, .int mTm, .ref 27], _, 0, 0)) rfl ?_
            refine pm_go (g := (82, _, [.int (mTm - 1), .ref 27], _, 0, 0)) rfl ?_
            try have h27 : (mTm - 1).toInt = (mTm).toInt - 1 := iSub (x := (mTm).toInt) (y := 1) rfl (by decide) (by omega) (by omega)
            refine pm_sd (g := (83, _, [.int (mTo (mTm - 1).toNatClampNeg)], _, 0, 0)) rfl (pm_inI (by omega) (by omega)) ?_
            refine pm_go (g := (85, _, [.int 20, .int (mTo (mTm - 1).toNatClampNeg)], _, 0, 0)) rfl ?_
            refine pm_if2 (g := (90, [(5, .int 0), (0, .ref 25), (1, .int t), (2, .int w), (3, .int r), (4, .int a)], [], hq g c1 c2 c3 c4 c5 c6 c7 c8 c9 c10 c11 c12 c13 c14 c15 c16 c17 c18 c19 c20 c21 c22 c23 c24 (hc25 mTy mTm mMn mFn mRn mTn mVn mLr mTr mFl mFm mFp mSc mMp mEn) (hc26 mPa) (hc27 mTo) (hc28 mOt) (hc29 mNa) (hc30 mRe) (hc31 mMa) (hc32 mMy) (hc33 mPm) (hc34 mFy) (hc35 mFa) (hc36 mFr) (hc37 mFo) (hc38 mRt) (hc39 mRm) (hc40 mTt) (hc41 mTi) (hc42 mPl) (hc43 mVr) (hc44 mVf) (hc45 mVc) (hc46 mAr) (hc47 mTc) (hc48 mFt) (hc49 mGo) dyn, 0, 0)) (h := (88, [(5, .int 0), (0, .ref 25), (1, .int t), (2, .int w), (3, .int r), (4, .int a)], [], hq g c1 c2 c3 c4 c5 c6 c7 c8 c9 c10 c11 c12 c13 c14 c15 c16 c17 c18 c19 c20 c21 c22 c23 c24 (hc25 mTy mTm mMn mFn mRn mTn mVn mLr mTr mFl mFm mFp mSc mMp mEn) (hc26 mPa) (hc27 mTo) (hc28 mOt) (hc29 mNa) (hc30 mRe) (hc31 mMa) (hc32 mMy) (hc33 mPm) (hc34 mFy) (hc35 mFa) (hc36 mFr) (hc37 mFo) (hc38 mRt) (hc39 mRm) (hc40 mTt) (hc41 mTi) (hc42 mPl) (hc43 mVr) (hc44 mVf) (hc45 mVc) (hc46 mAr) (hc47 mTc) (hc48 mFt) (hc49 mGo) dyn, 0, 0)) rfl (fun h28 => ?_) (fun h28 => ?_)
            ·
              have h28 := qT_ge (cx := (mTo (mTm - 1).toNatClampNeg).toInt) (cy := 20) rfl (by decide) h28
              refine pm_go (g := (92, _, [.int a], _, 0, 0)) rfl ?_
              refine pm_go (g := (93, _, [.int 3, .int a], _, 0, 0)) rfl ?_
              refine pm_go (g := (94, _, [.int (a &&& 3)], _, 0, 0)) rfl ?_
              refine pm_go (g := (95, _, [.int 3, .int (a &&& 3)], _, 0, 0)) rfl ?_
              refine pm_if2 (g := (126, [(5, .int 0), (0, .ref 25), (1, .int t), (2, .int w), (3, .int r), (4, .int a)], [], hq g c1 c2 c3 c4 c5 c6 c7 c8 c9 c10 c11 c12 c13 c14 c15 c16 c17 c18 c19 c20 c21 c22 c23 c24 (hc25 mTy mTm mMn mFn mRn mTn mVn mLr mTr mFl mFm mFp mSc mMp mEn) (hc26 mPa) (hc27 mTo) (hc28 mOt) (hc29 mNa) (hc30 mRe) (hc31 mMa) (hc32 mMy) (hc33 mPm) (hc34 mFy) (hc35 mFa) (hc36 mFr) (hc37 mFo) (hc38 mRt) (hc39 mRm) (hc40 mTt) (hc41 mTi) (hc42 mPl) (hc43 mVr) (hc44 mVf) (hc45 mVc) (hc46 mAr) (hc47 mTc) (hc48 mFt) (hc49 mGo) dyn, 0, 0)) (h := (98, [(5, .int 0), (0, .ref 25), (1, .int t), (2, .int w), (3, .int r), (4, .int a)], [], hq g c1 c2 c3 c4 c5 c6 c7 c8 c9 c10 c11 c12 c13 c14 c15 c16 c17 c18 c19 c20 c21 c22 c23 c24 (hc25 mTy mTm mMn mFn mRn mTn mVn mLr mTr mFl mFm mFp mSc mMp mEn) (hc26 mPa) (hc27 mTo) (hc28 mOt) (hc29 mNa) (hc30 mRe) (hc31 mMa) (hc32 mMy) (hc33 mPm) (hc34 mFy) (hc35 mFa) (hc36 mFr) (hc37 mFo) (hc38 mRt) (hc39 mRm) (hc40 mTt) (hc41 mTi) (hc42 mPl) (hc43 mVr) (hc44 mVf) (hc45 mVc) (hc46 mAr) (hc47 mTc) (hc48 mFt) (hc49 mGo) dyn, 0, 0)) rfl (fun h29 => ?_) (fun h29 => ?_)
              ·
                have h29 := qT_eq (cx := (a &&& 3).toInt) (cy := 3) rfl (by decide) h29
                refine pm_go (g := (127, _, [.int (-1)], _, 0, 0)) rfl ?_
                exact pm_ret rfl (k0 (by omega))
              have h29 := qF_eq (cx := (a &&& 3).toInt) (cy := 3) rfl (by decide) h29
              refine pm_go (g := (100, _, [.int a], _, 0, 0)) rfl ?_
              refine pm_go (g := (101, _, [.int 2, .int a], _, 0, 0)) rfl ?_
              refine pm_go (g := (102, _, [.int (a &&& 2)], _, 0, 0)) rfl ?_
              refine pm_if2 (g := (109, [(5, .int 0), (0, .ref 25), (1, .int t), (2, .int w), (3, .int r), (4, .int a)], [], hq g c1 c2 c3 c4 c5 c6 c7 c8 c9 c10 c11 c12 c13 c14 c15 c16 c17 c18 c19 c20 c21 c22 c23 c24 (hc25 mTy mTm mMn mFn mRn mTn mVn mLr mTr mFl mFm mFp mSc mMp mEn) (hc26 mPa) (hc27 mTo) (hc28 mOt) (hc29 mNa) (hc30 mRe) (hc31 mMa) (hc32 mMy) (hc33 mPm) (hc34 mFy) (hc35 mFa) (hc36 mFr) (hc37 mFo) (hc38 mRt) (hc39 mRm) (hc40 mTt) (hc41 mTi) (hc42 mPl) (hc43 mVr) (hc44 mVf) (hc45 mVc) (hc46 mAr) (hc47 mTc) (hc48 mFt) (hc49 mGo) dyn, 0, 0)) (h := (105, [(5, .int 0), (0, .ref 25), (1, .int t), (2, .int w), (3, .int r), (4, .int a)], [], hq g c1 c2 c3 c4 c5 c6 c7 c8 c9 c10 c11 c12 c13 c14 c15 c16 c17 c18 c19 c20 c21 c22 c23 c24 (hc25 mTy mTm mMn mFn mRn mTn mVn mLr mTr mFl mFm mFp mSc mMp mEn) (hc26 mPa) (hc27 mTo) (hc28 mOt) (hc29 mNa) (hc30 mRe) (hc31 mMa) (hc32 mMy) (hc33 mPm) (hc34 mFy) (hc35 mFa) (hc36 mFr) (hc37 mFo) (hc38 mRt) (hc39 mRm) (hc40 mTt) (hc41 mTi) (hc42 mPl) (hc43 mVr) (hc44 mVf) (hc45 mVc) (hc46 mAr) (hc47 mTc) (hc48 mFt) (hc49 mGo) dyn, 0, 0)) rfl (fun h30 => ?_) (fun h30 => ?_)
              ·
                have h30 := qT_eq (cx := (a &&& 2).toInt) (cy := 0) rfl (by decide) h30
                refine pm_go (g := (111, _, [.int 0], _, 0, 0)) rfl ?_
                refine pm_brT (g := (128, [(5, .int 0), (0, .ref 25), (1, .int t), (2, .int w), (3, .int r), (4, .int a)], [], hq g c1 c2 c3 c4 c5 c6 c7 c8 c9 c10 c11 c12 c13 c14 c15 c16 c17 c18 c19 c20 c21 c22 c23 c24 (hc25 mTy mTm mMn mFn mRn mTn mVn mLr mTr mFl mFm mFp mSc mMp mEn) (hc26 mPa) (hc27 mTo) (hc28 mOt) (hc29 mNa) (hc30 mRe) (hc31 mMa) (hc32 mMy) (hc33 mPm) (hc34 mFy) (hc35 mFa) (hc36 mFr) (hc37 mFo) (hc38 mRt) (hc39 mRm) (hc40 mTt) (hc41 mTi) (hc42 mPl) (hc43 mVr) (hc44 mVf) (hc45 mVc) (hc46 mAr) (hc47 mTc) (hc48 mFt) (hc49 mGo) dyn, 0, 0)) rfl ?_
                refine pm_go (g := (129, _, [.ref 25], _, 0, 0)) rfl ?_
                refine pm_go (g := (132, _, [.int mTn], _, 0, 0)) rfl ?_
                refine pm_if2 (g := (142, [(5, .int 0), (0, .ref 25), (1, .int t), (2, .int w), (3, .int r), (4, .int a)], [], hq g c1 c2 c3 c4 c5 c6 c7 c8 c9 c10 c11 c12 c13 c14 c15 c16 c17 c18 c19 c20 c21 c22 c23 c24 (hc25 mTy mTm mMn mFn mRn mTn mVn mLr mTr mFl mFm mFp mSc mMp mEn) (hc26 mPa) (hc27 mTo) (hc28 mOt) (hc29 mNa) (hc30 mRe) (hc31 mMa) (hc32 mMy) (hc33 mPm) (hc34 mFy) (hc35 mFa) (hc36 mFr) (hc37 mFo) (hc38 mRt) (hc39 mRm) (hc40 mTt) (hc41 mTi) (hc42 mPl) (hc43 mVr) (hc44 mVf) (hc45 mVc) (hc46 mAr) (hc47 mTc) (hc48 mFt) (hc49 mGo) dyn, 0, 0)) (h := (135, [(5, .int 0), (0, .ref 25), (1, .int t), (2, .int w), (3, .int r), (4, .int a)], [], hq g c1 c2 c3 c4 c5 c6 c7 c8 c9 c10 c11 c12 c13 c14 c15 c16 c17 c18 c19 c20 c21 c22 c23 c24 (hc25 mTy mTm mMn mFn mRn mTn mVn mLr mTr mFl mFm mFp mSc mMp mEn) (hc26 mPa) (hc27 mTo) (hc28 mOt) (hc29 mNa) (hc30 mRe) (hc31 mMa) (hc32 mMy) (hc33 mPm) (hc34 mFy) (hc35 mFa) (hc36 mFr) (hc37 mFo) (hc38 mRt) (hc39 mRm) (hc40 mTt) (hc41 mTi) (hc42 mPl) (hc43 mVr) (hc44 mVf) (hc45 mVc) (hc46 mAr) (hc47 mTc) (hc48 mFt) (hc49 mGo) dyn, 0, 0)) rfl (fun h31 => ?_) (fun h31 => ?_)
                ·
                  have h31 := qT_gt (cx := (mTn).toInt) (cy := 0) rfl (by decide) h31
                  refine pm_go (g := (144, _, [.int (-3)], _, 0, 0)) rfl ?_
                  exact pm_ret rfl (k1 (by omega))
                have h31 := qF_gt (cx := (mTn).toInt) (cy := 0) rfl (by decide) h31
                refine pm_go (g := (136, _, [.ref 25], _, 0, 0)) rfl ?_
                refine pm_go (g := (139, _, [.int mVn], _, 0, 0)) rfl ?_
                refine pm_if2 (g := (145, [(5, .int 0), (0, .ref 25), (1, .int t), (2, .int w), (3, .int r), (4, .int a)], [], hq g c1 c2 c3 c4 c5 c6 c7 c8 c9 c10 c11 c12 c13 c14 c15 c16 c17 c18 c19 c20 c21 c22 c23 c24 (hc25 mTy mTm mMn mFn mRn mTn mVn mLr mTr mFl mFm mFp mSc mMp mEn) (hc26 mPa) (hc27 mTo) (hc28 mOt) (hc29 mNa) (hc30 mRe) (hc31 mMa) (hc32 mMy) (hc33 mPm) (hc34 mFy) (hc35 mFa) (hc36 mFr) (hc37 mFo) (hc38 mRt) (hc39 mRm) (hc40 mTt) (hc41 mTi) (hc42 mPl) (hc43 mVr) (hc44 mVf) (hc45 mVc) (hc46 mAr) (hc47 mTc) (hc48 mFt) (hc49 mGo) dyn, 0, 0)) (h := (142, [(5, .int 0), (0, .ref 25), (1, .int t), (2, .int w), (3, .int r), (4, .int a)], [], hq g c1 c2 c3 c4 c5 c6 c7 c8 c9 c10 c11 c12 c13 c14 c15 c16 c17 c18 c19 c20 c21 c22 c23 c24 (hc25 mTy mTm mMn mFn mRn mTn mVn mLr mTr mFl mFm mFp mSc mMp mEn) (hc26 mPa) (hc27 mTo) (hc28 mOt) (hc29 mNa) (hc30 mRe) (hc31 mMa) (hc32 mMy) (hc33 mPm) (hc34 mFy) (hc35 mFa) (hc36 mFr) (hc37 mFo) (hc38 mRt) (hc39 mRm) (hc40 mTt) (hc41 mTi) (hc42 mPl) (hc43 mVr) (hc44 mVf) (hc45 mVc) (hc46 mAr) (hc47 mTc) (hc48 mFt) (hc49 mGo) dyn, 0, 0)) rfl (fun h32 => ?_) (fun h32 => ?_)
                ·
                  have h32 := qT_le (cx := (mVn).toInt) (cy := 0) rfl (by decide) h32
                  refine pm_go (g := (146, _, [.int 0], _, 0, 0)) rfl ?_
                  refine pm_go (g := (148, [(6, .int 0), (5, .int 0), (0, .ref 25), (1, .int t), (2, .int w), (3, .int r), (4, .int a)], [], _, 0, 0)) rfl ?_
                  exact w_member_loop t w r a (0) p1 p2 p3 41 0 (by omega) (by omega) (fun h => k2 ⟨by omega, by obtain ⟨j, q1, q2⟩ := h; exact ⟨j, q2⟩⟩) (fun h => k3 ⟨by omega, fun j g => h.1 j (Nat.zero_le j) g, h.2⟩) (fun h => k4 ⟨by omega, fun j g => h.1 j (Nat.zero_le j) g, h.2⟩)
                have h32 := qF_le (cx := (mVn).toInt) (cy := 0) rfl (by decide) h32
                refine pm_go (g := (144, [(5, .int 0), (0, .ref 25), (1, .int t), (2, .int w), (3, .int r), (4, .int a)], [.int (-3)], _, 0, 0)) rfl ?_
                exact pm_ret rfl (k1 (by omega))
              have h30 := qF_eq (cx := (a &&& 2).toInt) (cy := 0) rfl (by decide) h30
              refine pm_go (g := (106, _, [.int t], _, 0, 0)) rfl ?_
              refine pm_if2 (g := (126, [(5, .int 0), (0, .ref 25), (1, .int t), (2, .int w), (3, .int r), (4, .int a)], [], hq g c1 c2 c3 c4 c5 c6 c7 c8 c9 c10 c11 c12 c13 c14 c15 c16 c17 c18 c19 c20 c21 c22 c23 c24 (hc25 mTy mTm mMn mFn mRn mTn mVn mLr mTr mFl mFm mFp mSc mMp mEn) (hc26 mPa) (hc27 mTo) (hc28 mOt) (hc29 mNa) (hc30 mRe) (hc31 mMa) (hc32 mMy) (hc33 mPm) (hc34 mFy) (hc35 mFa) (hc36 mFr) (hc37 mFo) (hc38 mRt) (hc39 mRm) (hc40 mTt) (hc41 mTi) (hc42 mPl) (hc43 mVr) (hc44 mVf) (hc45 mVc) (hc46 mAr) (hc47 mTc) (hc48 mFt) (hc49 mGo) dyn, 0, 0)) (h := (109, [(5, .int 0), (0, .ref 25), (1, .int t), (2, .int w), (3, .int r), (4, .int a)], [], hq g c1 c2 c3 c4 c5 c6 c7 c8 c9 c10 c11 c12 c13 c14 c15 c16 c17 c18 c19 c20 c21 c22 c23 c24 (hc25 mTy mTm mMn mFn mRn mTn mVn mLr mTr mFl mFm mFp mSc mMp mEn) (hc26 mPa) (hc27 mTo) (hc28 mOt) (hc29 mNa) (hc30 mRe) (hc31 mMa) (hc32 mMy) (hc33 mPm) (hc34 mFy) (hc35 mFa) (hc36 mFr) (hc37 mFo) (hc38 mRt) (hc39 mRm) (hc40 mTt) (hc41 mTi) (hc42 mPl) (hc43 mVr) (hc44 mVf) (hc45 mVc) (hc46 mAr) (hc47 mTc) (hc48 mFt) (hc49 mGo) dyn, 0, 0)) rfl (fun h33 => ?_) (fun h33 => ?_)
              ·
                have h33 := qT_eq (cx := (t).toInt) (cy := 0) rfl (by decide) h33
                refine pm_go (g := (127, _, [.int (-1)], _, 0, 0)) rfl ?_
                exact pm_ret rfl (k0 (by omega))
              have h33 := qF_eq (cx := (t).toInt) (cy := 0) rfl (by decide) h33
              refine pm_go (g := (111, _, [.int 0], _, 0, 0)) rfl ?_
              refine pm_brT (g := (128, [(5, .int 0), (0, .ref 25), (1, .int t), (2, .int w), (3, .int r), (4, .int a)], [], hq g c1 c2 c3 c4 c5 c6 c7 c8 c9 c10 c11 c12 c13 c14 c15 c16 c17 c18 c19 c20 c21 c22 c23 c24 (hc25 mTy mTm mMn mFn mRn mTn mVn mLr mTr mFl mFm mFp mSc mMp mEn) (hc26 mPa) (hc27 mTo) (hc28 mOt) (hc29 mNa) (hc30 mRe) (hc31 mMa) (hc32 mMy) (hc33 mPm) (hc34 mFy) (hc35 mFa) (hc36 mFr) (hc37 mFo) (hc38 mRt) (hc39 mRm) (hc40 mTt) (hc41 mTi) (hc42 mPl) (hc43 mVr) (hc44 mVf) (hc45 mVc) (hc46 mAr) (hc47 mTc) (hc48 mFt) (hc49 mGo) dyn, 0, 0)) rfl ?_
              refine pm_go (g := (129, _, [.ref 25], _, 0, 0)) rfl ?_
              refine pm_go (g := (132, _, [.int mTn], _, 0, 0)) rfl ?_
              refine pm_if2 (g := (142, [(5, .int 0), (0, .ref 25), (1, .int t), (2, .int w), (3, .int r), (4, .int a)], [], hq g c1 c2 c3 c4 c5 c6 c7 c8 c9 c10 c11 c12 c13 c14 c15 c16 c17 c18 c19 c20 c21 c22 c23 c24 (hc25 mTy mTm mMn mFn mRn mTn mVn mLr mTr mFl mFm mFp mSc mMp mEn) (hc26 mPa) (hc27 mTo) (hc28 mOt) (hc29 mNa) (hc30 mRe) (hc31 mMa) (hc32 mMy) (hc33 mPm) (hc34 mFy) (hc35 mFa) (hc36 mFr) (hc37 mFo) (hc38 mRt) (hc39 mRm) (hc40 mTt) (hc41 mTi) (hc42 mPl) (hc43 mVr) (hc44 mVf) (hc45 mVc) (hc46 mAr) (hc47 mTc) (hc48 mFt) (hc49 mGo) dyn, 0, 0)) (h := (135, [(5, .int 0), (0, .ref 25), (1, .int t), (2, .int w), (3, .int r), (4, .int a)], [], hq g c1 c2 c3 c4 c5 c6 c7 c8 c9 c10 c11 c12 c13 c14 c15 c16 c17 c18 c19 c20 c21 c22 c23 c24 (hc25 mTy mTm mMn mFn mRn mTn mVn mLr mTr mFl mFm mFp mSc mMp mEn) (hc26 mPa) (hc27 mTo) (hc28 mOt) (hc29 mNa) (hc30 mRe) (hc31 mMa) (hc32 mMy) (hc33 mPm) (hc34 mFy) (hc35 mFa) (hc36 mFr) (hc37 mFo) (hc38 mRt) (hc39 mRm) (hc40 mTt) (hc41 mTi) (hc42 mPl) (hc43 mVr) (hc44 mVf) (hc45 mVc) (hc46 mAr) (hc47 mTc) (hc48 mFt) (hc49 mGo) dyn, 0, 0)) rfl (fun h34 => ?_) (fun h34 => ?_)
              ·
                have h34 := qT_gt (cx := (mTn).toInt) (cy := 0) rfl (by decide) h34
                refine pm_go (g := (144, _, [.int (-3)], _, 0, 0)) rfl ?_
                exact pm_ret rfl (k1 (by omega))
              have h34 := qF_gt (cx := (mTn).toInt) (cy := 0) rfl (by decide) h34
              refine pm_go (g := (136, _, [.ref 25], _, 0, 0)) rfl ?_
              refine pm_go (g := (139, _, [.int mVn], _, 0, 0)) rfl ?_
              refine pm_if2 (g := (145, [(5, .int 0), (0, .ref 25), (1, .int t), (2, .int w), (3, .int r), (4, .int a)], [], hq g c1 c2 c3 c4 c5 c6 c7 c8 c9 c10 c11 c12 c13 c14 c15 c16 c17 c18 c19 c20 c21 c22 c23 c24 (hc25 mTy mTm mMn mFn mRn mTn mVn mLr mTr mFl mFm mFp mSc mMp mEn) (hc26 mPa) (hc27 mTo) (hc28 mOt) (hc29 mNa) (hc30 mRe) (hc31 mMa) (hc32 mMy) (hc33 mPm) (hc34 mFy) (hc35 mFa) (hc36 mFr) (hc37 mFo) (hc38 mRt) (hc39 mRm) (hc40 mTt) (hc41 mTi) (hc42 mPl) (hc43 mVr) (hc44 mVf) (hc45 mVc) (hc46 mAr) (hc47 mTc) (hc48 mFt) (hc49 mGo) dyn, 0, 0)) (h := (142, [(5, .int 0), (0, .ref 25), (1, .int t), (2, .int w), (3, .int r), (4, .int a)], [], hq g c1 c2 c3 c4 c5 c6 c7 c8 c9 c10 c11 c12 c13 c14 c15 c16 c17 c18 c19 c20 c21 c22 c23 c24 (hc25 mTy mTm mMn mFn mRn mTn mVn mLr mTr mFl mFm mFp mSc mMp mEn) (hc26 mPa) (hc27 mTo) (hc28 mOt) (hc29 mNa) (hc30 mRe) (hc31 mMa) (hc32 mMy) (hc33 mPm) (hc34 mFy) (hc35 mFa) (hc36 mFr) (hc37 mFo) (hc38 mRt) (hc39 mRm) (hc40 mTt) (hc41 mTi) (hc42 mPl) (hc43 mVr) (hc44 mVf) (hc45 mVc) (hc46 mAr) (hc47 mTc) (hc48 mFt) (hc49 mGo) dyn, 0, 0)) rfl (fun h35 => ?_) (fun h35 => ?_)
              ·
                have h35 := qT_le (cx := (mVn).toInt) (cy := 0) rfl (by decide) h35
                refine pm_go (g := (146, _, [.int 0], _, 0, 0)) rfl ?_
                refine pm_go (g := (148, [(6, .int 0), (5, .int 0), (0, .ref 25), (1, .int t), (2, .int w), (3, .int r), (4, .int a)], [], _, 0, 0)) rfl ?_
                exact w_member_loop t w r a (0) p1 p2 p3 41 0 (by omega) (by omega) (fun h => k2 ⟨by omega, by obtain ⟨j, q1, q2⟩ := h; exact ⟨j, q2⟩⟩) (fun h => k3 ⟨by omega, fun j g => h.1 j (Nat.zero_le j) g, h.2⟩) (fun h => k4 ⟨by omega, fun j g => h.1 j (Nat.zero_le j) g, h.2⟩)
              have h35 := qF_le (cx := (mVn).toInt) (cy := 0) rfl (by decide) h35
              refine pm_go (g := (144, [(5, .int 0), (0, .ref 25), (1, .int t), (2, .int w), (3, .int r), (4, .int a)], [.int (-3)], _, 0, 0)) rfl ?_
              exact pm_ret rfl (k1 (by omega))
            have h28 := qF_ge (cx := (mTo (mTm - 1).toNatClampNeg).toInt) (cy := 20) rfl (by decide) h28
            refine pm_go (g := (89, _, [.int (-1)], _, 0, 0)) rfl ?_
            exact pm_ret rfl (k0 (by omega))
          show pm_WP 142 (53, [(5, .int 0), (0, .ref 25), (1, .int t), (2, .int w), (3, .int r), (4, .int a)], [.int 0], hq g c1 c2 c3 c4 c5 c6 c7 c8 c9 c10 c11 c12 c13 c14 c15 c16 c17 c18 c19 c20 c21 c22 c23 c24 (hc25 mTy mTm mMn mFn mRn mTn mVn mLr mTr mFl mFm mFp mSc mMp mEn) (hc26 mPa) (hc27 mTo) (hc28 mOt) (hc29 mNa) (hc30 mRe) (hc31 mMa) (hc32 mMy) (hc33 mPm) (hc34 mFy) (hc35 mFa) (hc36 mFr) (hc37 mFo) (hc38 mRt) (hc39 mRm) (hc40 mTt) (hc41 mTi) (hc42 mPl) (hc43 mVr) (hc44 mVf) (hc45 mVc) (hc46 mAr) (hc47 mTc) (hc48 mFt) (hc49 mGo) dyn, 0, 0) _
          refine pm_brF (h := (56, [(5, .int 0), (0, .ref 25), (1, .int t), (2, .int w), (3, .int r), (4, .int a)], [], hq g c1 c2 c3 c4 c5 c6 c7 c8 c9 c10 c11 c12 c13 c14 c15 c16 c17 c18 c19 c20 c21 c22 c23 c24 (hc25 mTy mTm mMn mFn mRn mTn mVn mLr mTr mFl mFm mFp mSc mMp mEn) (hc26 mPa) (hc27 mTo) (hc28 mOt) (hc29 mNa) (hc30 mRe) (hc31 mMa) (hc32 mMy) (hc33 mPm) (hc34 mFy) (hc35 mFa) (hc36 mFr) (hc37 mFo) (hc38 mRt) (hc39 mRm) (hc40 mTt) (hc41 mTi) (hc42 mPl) (hc43 mVr) (hc44 mVf) (hc45 mVc) (hc46 mAr) (hc47 mTc) (hc48 mFt) (hc49 mGo) dyn, 0, 0)) rfl ?_
          refine pm_go (g := (57, _, [.int (-1)], _, 0, 0)) rfl ?_
          exact pm_ret rfl (k0 (by omega))
        show pm_WP 142 (36, [(5, .int 0), (0, .ref 25), (1, .int t), (2, .int w), (3, .int r), (4, .int a)], [.int 0], hq g c1 c2 c3 c4 c5 c6 c7 c8 c9 c10 c11 c12 c13 c14 c15 c16 c17 c18 c19 c20 c21 c22 c23 c24 (hc25 mTy mTm mMn mFn mRn mTn mVn mLr mTr mFl mFm mFp mSc mMp mEn) (hc26 mPa) (hc27 mTo) (hc28 mOt) (hc29 mNa) (hc30 mRe) (hc31 mMa) (hc32 mMy) (hc33 mPm) (hc34 mFy) (hc35 mFa) (hc36 mFr) (hc37 mFo) (hc38 mRt) (hc39 mRm) (hc40 mTt) (hc41 mTi) (hc42 mPl) (hc43 mVr) (hc44 mVf) (hc45 mVc) (hc46 mAr) (hc47 mTc) (hc48 mFt) (hc49 mGo) dyn, 0, 0) _
        refine pm_brF (h := (39, [(5, .int 0), (0, .ref 25), (1, .int t), (2, .int w), (3, .int r), (4, .int a)], [], hq g c1 c2 c3 c4 c5 c6 c7 c8 c9 c10 c11 c12 c13 c14 c15 c16 c17 c18 c19 c20 c21 c22 c23 c24 (hc25 mTy mTm mMn mFn mRn mTn mVn mLr mTr mFl mFm mFp mSc mMp mEn) (hc26 mPa) (hc27 mTo) (hc28 mOt) (hc29 mNa) (hc30 mRe) (hc31 mMa) (hc32 mMy) (hc33 mPm) (hc34 mFy) (hc35 mFa) (hc36 mFr) (hc37 mFo) (hc38 mRt) (hc39 mRm) (hc40 mTt) (hc41 mTi) (hc42 mPl) (hc43 mVr) (hc44 mVf) (hc45 mVc) (hc46 mAr) (hc47 mTc) (hc48 mFt) (hc49 mGo) dyn, 0, 0)) rfl ?_
        refine pm_go (g := (40, _, [.int r], _, 0, 0)) rfl ?_
        refine pm_go (g := (42, _, [.int 11, .int r], _, 0, 0)) rfl ?_
        refine pm_if2 (g := (56, [(5, .int 0), (0, .ref 25), (1, .int t), (2, .int w), (3, .int r), (4, .int a)], [], hq g c1 c2 c3 c4 c5 c6 c7 c8 c9 c10 c11 c12 c13 c14 c15 c16 c17 c18 c19 c20 c21 c22 c23 c24 (hc25 mTy mTm mMn mFn mRn mTn mVn mLr mTr mFl mFm mFp mSc mMp mEn) (hc26 mPa) (hc27 mTo) (hc28 mOt) (hc29 mNa) (hc30 mRe) (hc31 mMa) (hc32 mMy) (hc33 mPm) (hc34 mFy) (hc35 mFa) (hc36 mFr) (hc37 mFo) (hc38 mRt) (hc39 mRm) (hc40 mTt) (hc41 mTi) (hc42 mPl) (hc43 mVr) (hc44 mVf) (hc45 mVc) (hc46 mAr) (hc47 mTc) (hc48 mFt) (hc49 mGo) dyn, 0, 0)) (h := (45, [(5, .int 0), (0, .ref 25), (1, .int t), (2, .int w), (3, .int r), (4, .int a)], [], hq g c1 c2 c3 c4 c5 c6 c7 c8 c9 c10 c11 c12 c13 c14 c15 c16 c17 c18 c19 c20 c21 c22 c23 c24 (hc25 mTy mTm mMn mFn mRn mTn mVn mLr mTr mFl mFm mFp mSc mMp mEn) (hc26 mPa) (hc27 mTo) (hc28 mOt) (hc29 mNa) (hc30 mRe) (hc31 mMa) (hc32 mMy) (hc33 mPm) (hc34 mFy) (hc35 mFa) (hc36 mFr) (hc37 mFo) (hc38 mRt) (hc39 mRm) (hc40 mTt) (hc41 mTi) (hc42 mPl) (hc43 mVr) (hc44 mVf) (hc45 mVc) (hc46 mAr) (hc47 mTc) (hc48 mFt) (hc49 mGo) dyn, 0, 0)) rfl (fun h36 => ?_) (fun h36 => ?_)
        ·
          have h36 := qT_ne (cx := (r).toInt) (cy := 11) rfl (by decide) h36
          refine pm_go (g := (57, _, [.int (-1)], _, 0, 0)) rfl ?_
          exact pm_ret rfl (k0 (by omega))
        have h36 := qF_ne (cx := (r).toInt) (cy := 11) rfl (by decide) h36
        refine pm_go (g := (47, _, [.int a], _, 0, 0)) rfl ?_
        refine pm_go (g := (48, _, [.int 0, .int a], _, 0, 0)) rfl ?_
        refine pm_go (g := (50, _, [.int 7, .int 0, .int a], _, 0, 0)) rfl ?_
        refine pm_callD (z := 128) (as := [.int a, .int 0, .int 7]) (rest := []) rfl ?_
        have h37 : (0 : Int32).toInt = 0 := by decide
        have h38 : (7 : Int32).toInt = 7 := by decide
        refine w_X12_isIn a 0 7 (fun h39 => ?_) (fun h40 => ?_)
        ·
          show pm_WP 142 (53, [(5, .int 0), (0, .ref 25), (1, .int t), (2, .int w), (3, .int r), (4, .int a)], [.int 1], _, 0, 0) _
          refine pm_brT (g := (58, [(5, .int 0), (0, .ref 25), (1, .int t), (2, .int w), (3, .int r), (4, .int a)], [], hq g c1 c2 c3 c4 c5 c6 c7 c8 c9 c10 c11 c12 c13 c14 c15 c16 c17 c18 c19 c20 c21 c22 c23 c24 (hc25 mTy mTm mMn mFn mRn mTn mVn mLr mTr mFl mFm mFp mSc mMp mEn) (hc26 mPa) (hc27 mTo) (hc28 mOt) (hc29 mNa) (hc30 mRe) (hc31 mMa) (hc32 mMy) (hc33 mPm) (hc34 mFy) (hc35 mFa) (hc36 mFr) (hc37 mFo) (hc38 mRt) (hc39 mRm) (hc40 mTt) (hc41 mTi) (hc42 mPl) (hc43 mVr) (hc44 mVf) (hc45 mVc) (hc46 mAr) (hc47 mTc) (hc48 mFt) (hc49 mGo) dyn, 0, 0)) rfl ?_
          refine pm_go (g := (60, _, [.int a], _, 0, 0)) rfl ?_
          refine pm_go (g := (61, _, [.int 4, .int a], _, 0, 0)) rfl ?_
          refine pm_go (g := (62, _, [.int (a &&& 4)], _, 0, 0)) rfl ?_
          refine pm_if2 (g := (90, [(5, .int 0), (0, .ref 25), (1, .int t), (2, .int w), (3, .int r), (4, .int a)], [], hq g c1 c2 c3 c4 c5 c6 c7 c8 c9 c10 c11 c12 c13 c14 c15 c16 c17 c18 c19 c20 c21 c22 c23 c24 (hc25 mTy mTm mMn mFn mRn mTn mVn mLr mTr mFl mFm mFp mSc mMp mEn) (hc26 mPa) (hc27 mTo) (hc28 mOt) (hc29 mNa) (hc30 mRe) (hc31 mMa) (hc32 mMy) (hc33 mPm) (hc34 mFy) (hc35 mFa) (hc36 mFr) (hc37 mFo) (hc38 mRt) (hc39 mRm) (hc40 mTt) (hc41 mTi) (hc42 mPl) (hc43 mVr) (hc44 mVf) (hc45 mVc) (hc46 mAr) (hc47 mTc) (hc48 mFt) (hc49 mGo) dyn, 0, 0)) (h := (65, [(5, .int 0), (0, .ref 25), (1, .int t), (2, .int w), (3, .int r), (4, .int a)], [], hq g c1 c2 c3 c4 c5 c6 c7 c8 c9 c10 c11 c12 c13 c14 c15 c16 c17 c18 c19 c20 c21 c22 c23 c24 (hc25 mTy mTm mMn mFn mRn mTn mVn mLr mTr mFl mFm mFp mSc mMp mEn) (hc26 mPa) (hc27 mTo) (hc28 mOt) (hc29 mNa) (hc30 mRe) (hc31 mMa) (hc32 mMy) (hc33 mPm) (hc34 mFy) (hc35 mFa) (hc36 mFr) (hc37 mFo) (hc38 mRt) (hc39 mRm) (hc40 mTt) (hc41 mTi) (hc42 mPl) (hc43 mVr) (hc44 mVf) (hc45 mVc) (hc46 mAr) (hc47 mTc) (hc48 mFt) (hc49 mGo) dyn, 0, 0)) rfl (fun h42 => ?_) (fun h42 => ?_)
          ·
            have h42 := qT_eq (cx := (a &&& 4).toInt) (cy := 0) rfl (by decide) h42
            refine pm_go (g := (92, _, [.int a], _, 0, 0)) rfl ?_
            refine pm_go (g := (93, _, [.int 3, .int a], _, 0, 0)) rfl ?_
            refine pm_go (g := (94, _, [.int (a &&& 3)], _, 0, 0)) rfl ?_
            refine pm_go (g := (95, _, [.int 3, .int (a &&& 3)], _, 0, 0)) rfl ?_
            refine pm_if2 (g := (126, [(5, .int 0), (0, .ref 25), (1, .int t), (2, .int w), (3, .int r), (4, .int a)], [], hq g c1 c2 c3 c4 c5 c6 c7 c8 c9 c10 c11 c12 c13 c14 c15 c16 c17 c18 c19 c20 c21 c22 c23 c24 (hc25 mTy mTm mMn mFn mRn mTn mVn mLr mTr mFl mFm mFp mSc mMp mEn) (hc26 mPa) (hc27 mTo) (hc28 mOt) (hc29 mNa) (hc30 mRe) (hc31 mMa) (hc32 mMy) (hc33 mPm) (hc34 mFy) (hc35 mFa) (hc36 mFr) (hc37 mFo) (hc38 mRt) (hc39 mRm) (hc40 mTt) (hc41 mTi) (hc42 mPl) (hc43 mVr) (hc44 mVf) (hc45 mVc) (hc46 mAr) (hc47 mTc) (hc48 mFt) (hc49 mGo) dyn, 0, 0)) (h := (98, [(5, .int 0), (0, .ref 25), (1, .int t), (2, .int w), (3, .int r), (4, .int a)], [], hq g c1 c2 c3 c4 c5 c6 c7 c8 c9 c10 c11 c12 c13 c14 c15 c16 c17 c18 c19 c20 c21 c22 c23 c24 (hc25 mTy mTm mMn mFn mRn mTn mVn mLr mTr mFl mFm mFp mSc mMp mEn) (hc26 mPa) (hc27 mTo) (hc28 mOt) (hc29 mNa) (hc30 mRe) (hc31 mMa) (hc32 mMy) (hc33 mPm) (hc34 mFy) (hc35 mFa) (hc36 mFr) (hc37 mFo) (hc38 mRt) (hc39 mRm) (hc40 mTt) (hc41 mTi) (hc42 mPl) (hc43 mVr) (hc44 mVf) (hc45 mVc) (hc46 mAr) (hc47 mTc) (hc48 mFt) (hc49 mGo) dyn, 0, 0)) rfl (fun h43 => ?_) (fun h43 => ?_)
            ·
              have h43 := qT_eq (cx := (a &&& 3).toInt) (cy := 3) rfl (by decide) h43
              refine pm_go (g := (127, _, [.int (-1)], _, 0, 0)) rfl ?_
              exact pm_ret rfl (k0 (by omega))
            have h43 := qF_eq (cx := (a &&& 3).toInt) (cy := 3) rfl (by decide) h43
            refine pm_go (g := (100, _, [.int a], _, 0, 0)) rfl ?_
            refine pm_go (g := (101, _, [.int 2, .int a], _, 0, 0)) rfl ?_
            refine pm_go (g := (102, _, [.int (a &&& 2)], _, 0, 0)) rfl ?_
            refine pm_if2 (g := (109, [(5, .int 0), (0, .ref 25), (1, .int t), (2, .int w), (3, .int r), (4, .int a)], [], hq g c1 c2 c3 c4 c5 c6 c7 c8 c9 c10 c11 c12 c13 c14 c15 c16 c17 c18 c19 c20 c21 c22 c23 c24 (hc25 mTy mTm mMn mFn mRn mTn mVn mLr mTr mFl mFm mFp mSc mMp mEn) (hc26 mPa) (hc27 mTo) (hc28 mOt) (hc29 mNa) (hc30 mRe) (hc31 mMa) (hc32 mMy) (hc33 mPm) (hc34 mFy) (hc35 mFa) (hc36 mFr) (hc37 mFo) (hc38 mRt) (hc39 mRm) (hc40 mTt) (hc41 mTi) (hc42 mPl) (hc43 mVr) (hc44 mVf) (hc45 mVc) (hc46 mAr) (hc47 mTc) (hc48 mFt) (hc49 mGo) dyn, 0, 0)) (h := (105, [(5, .int 0), (0, .ref 25), (1, .int t), (2, .int w), (3, .int r), (4, .int a)], [], hq g c1 c2 c3 c4 c5 c6 c7 c8 c9 c10 c11 c12 c13 c14 c15 c16 c17 c18 c19 c20 c21 c22 c23 c24 (hc25 mTy mTm mMn mFn mRn mTn mVn mLr mTr mFl mFm mFp mSc mMp mEn) (hc26 mPa) (hc27 mTo) (hc28 mOt) (hc29 mNa) (hc30 mRe) (hc31 mMa) (hc32 mMy) (hc33 mPm) (hc34 mFy) (hc35 mFa) (hc36 mFr) (hc37 mFo) (hc38 mRt) (hc39 mRm) (hc40 mTt) (hc41 mTi) (hc42 mPl) (hc43 mVr) (hc44 mVf) (hc45 mVc) (hc46 mAr) (hc47 mTc) (hc48 mFt) (hc49 mGo) dyn, 0, 0)) rfl (fun h44 => ?_) (fun h44 => ?_)
            ·
              have h44 := qT_eq (cx := (a &&& 2).toInt) (cy := 0) rfl (by decide) h44
              refine pm_go (g := (111, _, [.int 0], _, 0, 0)) rfl ?_
              refine pm_brT (g := (128, [(5, .int 0), (0, .ref 25), (1, .int t), (2, .int w), (3, .int r), (4, .int a)], [], hq g c1 c2 c3 c4 c5 c6 c7 c8 c9 c10 c11 c12 c13 c14 c15 c16 c17 c18 c19 c20 c21 c22 c23 c24 (hc25 mTy mTm mMn mFn mRn mTn mVn mLr mTr mFl mFm mFp mSc mMp mEn) (hc26 mPa) (hc27 mTo) (hc28 mOt) (hc29 mNa) (hc30 mRe) (hc31 mMa) (hc32 mMy) (hc33 mPm) (hc34 mFy) (hc35 mFa) (hc36 mFr) (hc37 mFo) (hc38 mRt) (hc39 mRm) (hc40 mTt) (hc41 mTi) (hc42 mPl) (hc43 mVr) (hc44 mVf) (hc45 mVc) (hc46 mAr) (hc47 mTc) (hc48 mFt) (hc49 mGo) dyn, 0, 0)) rfl ?_
              refine pm_go (g := (129, _, [.ref 25], _, 0, 0)) rfl ?_
              refine pm_go (g := (132, _, [.int mTn], _, 0, 0)) rfl ?_
              refine pm_if2 (g := (142, [(5, .int 0), (0, .ref 25), (1, .int t), (2, .int w), (3, .int r), (4, .int a)], [], hq g c1 c2 c3 c4 c5 c6 c7 c8 c9 c10 c11 c12 c13 c14 c15 c16 c17 c18 c19 c20 c21 c22 c23 c24 (hc25 mTy mTm mMn mFn mRn mTn mVn mLr mTr mFl mFm mFp mSc mMp mEn) (hc26 mPa) (hc27 mTo) (hc28 mOt) (hc29 mNa) (hc30 mRe) (hc31 mMa) (hc32 mMy) (hc33 mPm) (hc34 mFy) (hc35 mFa) (hc36 mFr) (hc37 mFo) (hc38 mRt) (hc39 mRm) (hc40 mTt) (hc41 mTi) (hc42 mPl) (hc43 mVr) (hc44 mVf) (hc45 mVc) (hc46 mAr) (hc47 mTc) (hc48 mFt) (hc49 mGo) dyn, 0, 0)) (h := (135, [(5, .int 0), (0, .ref 25), (1, .int t), (2, .int w), (3, .int r), (4, .int a)], [], hq g c1 c2 c3 c4 c5 c6 c7 c8 c9 c10 c11 c12 c13 c14 c15 c16 c17 c18 c19 c20 c21 c22 c23 c24 (hc25 mTy mTm mMn mFn mRn mTn mVn mLr mTr mFl mFm mFp mSc mMp mEn) (hc26 mPa) (hc27 mTo) (hc28 mOt) (hc29 mNa) (hc30 mRe) (hc31 mMa) (hc32 mMy) (hc33 mPm) (hc34 mFy) (hc35 mFa) (hc36 mFr) (hc37 mFo) (hc38 mRt) (hc39 mRm) (hc40 mTt) (hc41 mTi) (hc42 mPl) (hc43 mVr) (hc44 mVf) (hc45 mVc) (hc46 mAr) (hc47 mTc) (hc48 mFt) (hc49 mGo) dyn, 0, 0)) rfl (fun h45 => ?_) (fun h45 => ?_)
              ·
                have h45 := qT_gt (cx := (mTn).toInt) (cy := 0) rfl (by decide) h45
                refine pm_go (g := (144, _, [.int (-3)], _, 0, 0)) rfl ?_
                exact pm_ret rfl (k1 (by omega))
              have h45 := qF_gt (cx := (mTn).toInt) (cy := 0) rfl (by decide) h45
              refine pm_go (g := (136, _, [.ref 25], _, 0, 0)) rfl ?_
              refine pm_go (g := (139, _, [.int mVn], _, 0, 0)) rfl ?_
              refine pm_if2 (g := (145, [(5, .int 0), (0, .ref 25), (1, .int t), (2, .int w), (3, .int r), (4, .int a)], [], hq g c1 c2 c3 c4 c5 c6 c7 c8 c9 c10 c11 c12 c13 c14 c15 c16 c17 c18 c19 c20 c21 c22 c23 c24 (hc25 mTy mTm mMn mFn mRn mTn mVn mLr mTr mFl mFm mFp mSc mMp mEn) (hc26 mPa) (hc27 mTo) (hc28 mOt) (hc29 mNa) (hc30 mRe) (hc31 mMa) (hc32 mMy) (hc33 mPm) (hc34 mFy) (hc35 mFa) (hc36 mFr) (hc37 mFo) (hc38 mRt) (hc39 mRm) (hc40 mTt) (hc41 mTi) (hc42 mPl) (hc43 mVr) (hc44 mVf) (hc45 mVc) (hc46 mAr) (hc47 mTc) (hc48 mFt) (hc49 mGo) dyn, 0, 0)) (h := (142, [(5, .int 0), (0, .ref 25), (1, .int t), (2, .int w), (3, .int r), (4, .int a)], [], hq g c1 c2 c3 c4 c5 c6 c7 c8 c9 c10 c11 c12 c13 c14 c15 c16 c17 c18 c19 c20 c21 c22 c23 c24 (hc25 mTy mTm mMn mFn mRn mTn mVn mLr mTr mFl mFm mFp mSc mMp mEn) (hc26 mPa) (hc27 mTo) (hc28 mOt) (hc29 mNa) (hc30 mRe) (hc31 mMa) (hc32 mMy) (hc33 mPm) (hc34 mFy) (hc35 mFa) (hc36 mFr) (hc37 mFo) (hc38 mRt) (hc39 mRm) (hc40 mTt) (hc41 mTi) (hc42 mPl) (hc43 mVr) (hc44 mVf) (hc45 mVc) (hc46 mAr) (hc47 mTc) (hc48 mFt) (hc49 mGo) dyn, 0, 0)) rfl (fun h46 => ?_) (fun h46 => ?_)
              ·
                have h46 := qT_le (cx := (mVn).toInt) (cy := 0) rfl (by decide) h46
                refine pm_go (g := (146, _, [.int 0], _, 0, 0)) rfl ?_
                refine pm_go (g := (148, [(6, .int 0), (5, .int 0), (0, .ref 25), (1, .int t), (2, .int w), (3, .int r), (4, .int a)], [], _, 0, 0)) rfl ?_
                exact w_member_loop t w r a (0) p1 p2 p3 41 0 (by omega) (by omega) (fun h => k2 ⟨by omega, by obtain ⟨j, q1, q2⟩ := h; exact ⟨j, q2⟩⟩) (fun h => k3 ⟨by omega, fun j g => h.1 j (Nat.zero_le j) g, h.2⟩) (fun h => k4 ⟨by omega, fun j g => h.1 j (Nat.zero_le j) g, h.2⟩)
              have h46 := qF_le (cx := (mVn).toInt) (cy := 0) rfl (by decide) h46
              refine pm_go (g := (144, [(5, .int 0), (0, .ref 25), (1, .int t), (2, .int w), (3, .int r), (4, .int a)], [.int (-3)], _, 0, 0)) rfl ?_
              exact pm_ret rfl (k1 (by omega))
            have h44 := qF_eq (cx := (a &&& 2).toInt) (cy := 0) rfl (by decide) h44
            refine pm_go (g := (106, _, [.int t], _, 0, 0)) rfl ?_
            refine pm_if2 (g := (126, [(5, .int 0), (0, .ref 25), (1, .int t), (2, .int w), (3, .int r), (4, .int a)], [], hq g c1 c2 c3 c4 c5 c6 c7 c8 c9 c10 c11 c12 c13 c14 c15 c16 c17 c18 c19 c20 c21 c22 c23 c24 (hc25 mTy mTm mMn mFn mRn mTn mVn mLr mTr mFl mFm mFp mSc mMp mEn) (hc26 mPa) (hc27 mTo) (hc28 mOt) (hc29 mNa) (hc30 mRe) (hc31 mMa) (hc32 mMy) (hc33 mPm) (hc34 mFy) (hc35 mFa) (hc36 mFr) (hc37 mFo) (hc38 mRt) (hc39 mRm) (hc40 mTt) (hc41 mTi) (hc42 mPl) (hc43 mVr) (hc44 mVf) (hc45 mVc) (hc46 mAr) (hc47 mTc) (hc48 mFt) (hc49 mGo) dyn, 0, 0)) (h := (109, [(5, .int 0), (0, .ref 25), (1, .int t), (2, .int w), (3, .int r), (4, .int a)], [], hq g c1 c2 c3 c4 c5 c6 c7 c8 c9 c10 c11 c12 c13 c14 c15 c16 c17 c18 c19 c20 c21 c22 c23 c24 (hc25 mTy mTm mMn mFn mRn mTn mVn mLr mTr mFl mFm mFp mSc mMp mEn) (hc26 mPa) (hc27 mTo) (hc28 mOt) (hc29 mNa) (hc30 mRe) (hc31 mMa) (hc32 mMy) (hc33 mPm) (hc34 mFy) (hc35 mFa) (hc36 mFr) (hc37 mFo) (hc38 mRt) (hc39 mRm) (hc40 mTt) (hc41 mTi) (hc42 mPl) (hc43 mVr) (hc44 mVf) (hc45 mVc) (hc46 mAr) (hc47 mTc) (hc48 mFt) (hc49 mGo) dyn, 0, 0)) rfl (fun h47 => ?_) (fun h47 => ?_)
            ·
              have h47 := qT_eq (cx := (t).toInt) (cy := 0) rfl (by decide) h47
              refine pm_go (g := (127, _, [.int (-1)], _, 0, 0)) rfl ?_
              exact pm_ret rfl (k0 (by omega))
            have h47 := qF_eq (cx := (t).toInt) (cy := 0) rfl (by decide) h47
            refine pm_go (g := (111, _, [.int 0], _, 0, 0)) rfl ?_
            refine pm_brT (g := (128, [(5, .int 0), (0, .ref 25), (1, .int t), (2, .int w), (3, .int r), (4, .int a)], [], hq g c1 c2 c3 c4 c5 c6 c7 c8 c9 c10 c11 c12 c13 c14 c15 c16 c17 c18 c19 c20 c21 c22 c23 c24 (hc25 mTy mTm mMn mFn mRn mTn mVn mLr mTr mFl mFm mFp mSc mMp mEn) (hc26 mPa) (hc27 mTo) (hc28 mOt) (hc29 mNa) (hc30 mRe) (hc31 mMa) (hc32 mMy) (hc33 mPm) (hc34 mFy) (hc35 mFa) (hc36 mFr) (hc37 mFo) (hc38 mRt) (hc39 mRm) (hc40 mTt) (hc41 mTi) (hc42 mPl) (hc43 mVr) (hc44 mVf) (hc45 mVc) (hc46 mAr) (hc47 mTc) (hc48 mFt) (hc49 mGo) dyn, 0, 0)) rfl ?_
            refine pm_go (g := (129, _, [.ref 25], _, 0, 0)) rfl ?_
            refine pm_go (g := (132, _, [.int mTn], _, 0, 0)) rfl ?_
            refine pm_if2 (g := (142, [(5, .int 0), (0, .ref 25), (1, .int t), (2, .int w), (3, .int r), (4, .int a)], [], hq g c1 c2 c3 c4 c5 c6 c7 c8 c9 c10 c11 c12 c13 c14 c15 c16 c17 c18 c19 c20 c21 c22 c23 c24 (hc25 mTy mTm mMn mFn mRn mTn mVn mLr mTr mFl mFm mFp mSc mMp mEn) (hc26 mPa) (hc27 mTo) (hc28 mOt) (hc29 mNa) (hc30 mRe) (hc31 mMa) (hc32 mMy) (hc33 mPm) (hc34 mFy) (hc35 mFa) (hc36 mFr) (hc37 mFo) (hc38 mRt) (hc39 mRm) (hc40 mTt) (hc41 mTi) (hc42 mPl) (hc43 mVr) (hc44 mVf) (hc45 mVc) (hc46 mAr) (hc47 mTc) (hc48 mFt) (hc49 mGo) dyn, 0, 0)) (h := (135, [(5, .int 0), (0, .ref 25), (1, .int t), (2, .int w), (3, .int r), (4, .int a)], [], hq g c1 c2 c3 c4 c5 c6 c7 c8 c9 c10 c11 c12 c13 c14 c15 c16 c17 c18 c19 c20 c21 c22 c23 c24 (hc25 mTy mTm mMn mFn mRn mTn mVn mLr mTr mFl mFm mFp mSc mMp mEn) (hc26 mPa) (hc27 mTo) (hc28 mOt) (hc29 mNa) (hc30 mRe) (hc31 mMa) (hc32 mMy) (hc33 mPm) (hc34 mFy) (hc35 mFa) (hc36 mFr) (hc37 mFo) (hc38 mRt) (hc39 mRm) (hc40 mTt) (hc41 mTi) (hc42 mPl) (hc43 mVr) (hc44 mVf) (hc45 mVc) (hc46 mAr) (hc47 mTc) (hc48 mFt) (hc49 mGo) dyn, 0, 0)) rfl (fun h48 => ?_) (fun h48 => ?_)
            ·
              have h48 := qT_gt (cx := (mTn).toInt) (cy := 0) rfl (by decide) h48
              refine pm_go (g := (144, _, [.int (-3)], _, 0, 0)) rfl ?_
              exact pm_ret rfl (k1 (by omega))
            have h48 := qF_gt (cx := (mTn).toInt) (cy := 0) rfl (by decide) h48
            refine pm_go (g := (136, _, [.ref 25], _, 0, 0)) rfl ?_
            refine pm_go (g := (139, _, [.int mVn], _, 0, 0)) rfl ?_
            refine pm_if2 (g := (145, [(5, .int 0), (0, .ref 25), (1, .int t), (2, .int w), (3, .int r), (4, .int a)], [], hq g c1 c2 c3 c4 c5 c6 c7 c8 c9 c10 c11 c12 c13 c14 c15 c16 c17 c18 c19 c20 c21 c22 c23 c24 (hc25 mTy mTm mMn mFn mRn mTn mVn mLr mTr mFl mFm mFp mSc mMp mEn) (hc26 mPa) (hc27 mTo) (hc28 mOt) (hc29 mNa) (hc30 mRe) (hc31 mMa) (hc32 mMy) (hc33 mPm) (hc34 mFy) (hc35 mFa) (hc36 mFr) (hc37 mFo) (hc38 mRt) (hc39 mRm) (hc40 mTt) (hc41 mTi) (hc42 mPl) (hc43 mVr) (hc44 mVf) (hc45 mVc) (hc46 mAr) (hc47 mTc) (hc48 mFt) (hc49 mGo) dyn, 0, 0)) (h := (142, [(5, .int 0), (0, .ref 25), (1, .int t), (2, .int w), (3, .int r), (4, .int a)], [], hq g c1 c2 c3 c4 c5 c6 c7 c8 c9 c10 c11 c12 c13 c14 c15 c16 c17 c18 c19 c20 c21 c22 c23 c24 (hc25 mTy mTm mMn mFn mRn mTn mVn mLr mTr mFl mFm mFp mSc mMp mEn) (hc26 mPa) (hc27 mTo) (hc28 mOt) (hc29 mNa) (hc30 mRe) (hc31 mMa) (hc32 mMy) (hc33 mPm) (hc34 mFy) (hc35 mFa) (hc36 mFr) (hc37 mFo) (hc38 mRt) (hc39 mRm) (hc40 mTt) (hc41 mTi) (hc42 mPl) (hc43 mVr) (hc44 mVf) (hc45 mVc) (hc46 mAr) (hc47 mTc) (hc48 mFt) (hc49 mGo) dyn, 0, 0)) rfl (fun h49 => ?_) (fun h49 => ?_)
            ·
              have h49 := qT_le (cx := (mVn).toInt) (cy := 0) rfl (by decide) h49
              refine pm_go (g := (146, _, [.int 0], _, 0, 0)) rfl ?_
              refine pm_go (g := (148, [(6, .int 0), (5, .int 0), (0, .ref 25), (1, .int t), (2, .int w), (3, .int r), (4, .int a)], [], _, 0, 0)) rfl ?_
              exact w_member_loop t w r a (0) p1 p2 p3 41 0 (by omega) (by omega) (fun h => k2 ⟨by omega, by obtain ⟨j, q1, q2⟩ := h; exact ⟨j, q2⟩⟩) (fun h => k3 ⟨by omega, fun j g => h.1 j (Nat.zero_le j) g, h.2⟩) (fun h => k4 ⟨by omega, fun j g => h.1 j (Nat.zero_le j) g, h.2⟩)
            have h49 := qF_le (cx := (mVn).toInt) (cy := 0) rfl (by decide) h49
            refine pm_go (g := (144, [(5, .int 0), (0, .ref 25), (1, .int t), (2, .int w), (3, .int r), (4, .int a)], [.int (-3)], _, 0, 0)) rfl ?_
            exact pm_ret rfl (k1 (by omega))
          have h42 := qF_eq (cx := (a &&& 4).toInt) (cy := 0) rfl (by decide) h42
          refine pm_go (g := (66, _, [.ref 25], _, 0, 0)) rfl ?_
          refine pm_go (g := (69, _, [.int mTm], _, 0, 0)) rfl ?_
          refine pm_if2 (g := (88, [(5, .int 0), (0, .ref 25), (1, .int t), (2, .int w), (3, .int r), (4, .int a)], [], hq g c1 c2 c3 c4 c5 c6 c7 c8 c9 c10 c11 c12 c13 c14 c15 c16 c17 c18 c19 c20 c21 c22 c23 c24 (hc25 mTy mTm mMn mFn mRn mTn mVn mLr mTr mFl mFm mFp mSc mMp mEn) (hc26 mPa) (hc27 mTo) (hc28 mOt) (hc29 mNa) (hc30 mRe) (hc31 mMa) (hc32 mMy) (hc33 mPm) (hc34 mFy) (hc35 mFa) (hc36 mFr) (hc37 mFo) (hc38 mRt) (hc39 mRm) (hc40 mTt) (hc41 mTi) (hc42 mPl) (hc43 mVr) (hc44 mVf) (hc45 mVc) (hc46 mAr) (hc47 mTc) (hc48 mFt) (hc49 mGo) dyn, 0, 0)) (h := (72, [(5, .int 0), (0, .ref 25), (1, .int t), (2, .int w), (3, .int r), (4, .int a)], [], hq g c1 c2 c3 c4 c5 c6 c7 c8 c9 c10 c11 c12 c13 c14 c15 c16 c17 c18 c19 c20 c21 c22 c23 c24 (hc25 mTy mTm mMn mFn mRn mTn mVn mLr mTr mFl mFm mFp mSc mMp mEn) (hc26 mPa) (hc27 mTo) (hc28 mOt) (hc29 mNa) (hc30 mRe) (hc31 mMa) (hc32 mMy) (hc33 mPm) (hc34 mFy) (hc35 mFa) (hc36 mFr) (hc37 mFo) (hc38 mRt) (hc39 mRm) (hc40 mTt) (hc41 mTi) (hc42 mPl) (hc43 mVr) (hc44 mVf) (hc45 mVc) (hc46 mAr) (hc47 mTc) (hc48 mFt) (hc49 mGo) dyn, 0, 0)) rfl (fun h50 => ?_) (fun h50 => ?_)
          ·
            have h50 := qT_eq (cx := (mTm).toInt) (cy := 0) rfl (by decide) h50
            refine pm_go (g := (89, _, [.int (-1)], _, 0, 0)) rfl ?_
            exact pm_ret rfl (k0 (by omega))
          have h50 := qF_eq (cx := (mTm).toInt) (cy := 0) rfl (by decide) h50
          refine pm_go (g := (73, _, [.ref 25], _, 0, 0)) rfl ?_
          refine pm_go (g := (76, _, [.ref 27], _, 0, 0)) rfl ?_
          refine pm_go (g := (77, _, [.ref 25, .ref 27], _, 0, 0)) rfl ?_
          refine pm_go (g := (80, _, [.int mTm, .ref 27], _, 0, 0)) rfl ?_
          refine pm_go (g := (81, _, [.int 1, .int mTm, .ref 27], _, 0, 0)) rfl ?_
          refine pm_go (g := (82, _, [.int (mTm - 1), .ref 27], _, 0, 0)) rfl ?_
          try have h51 : (mTm - 1).toInt = (mTm).toInt - 1 := iSub (x := (mTm).toInt) (y := 1) rfl (by decide) (by omega) (by omega)
          refine pm_sd (g := (83, _, [.int (mTo (mTm - 1).toNatClampNeg)], _, 0, 0)) rfl (pm_inI (by omega) (by omega)) ?_
          refine pm_go (g := (85, _, [.int 20, .int (mTo (mTm - 1).toNatClampNeg)], _, 0, 0)) rfl ?_
          refine pm_if2 (g := (90, [(5, .int 0), (0, .ref 25), (1, .int t), (2, .int w), (3, .int r), (4, .int a)], [], hq g c1 c2 c3 c4 c5 c6 c7 c8 c9 c10 c11 c12 c13 c14 c15 c16 c17 c18 c19 c20 c21 c22 c23 c24 (hc25 mTy mTm mMn mFn mRn mTn mVn mLr mTr mFl mFm mFp mSc mMp mEn) (hc26 mPa) (hc27 mTo) (hc28 mOt) (hc29 mNa) (hc30 mRe) (hc31 mMa) (hc32 mMy) (hc33 mPm) (hc34 mFy) (hc35 mFa) (hc36 mFr) (hc37 mFo) (hc38 mRt) (hc39 mRm) (hc40 mTt) (hc41 mTi) (hc42 mPl) (hc43 mVr) (hc44 mVf) (hc45 mVc) (hc46 mAr) (hc47 mTc) (hc48 mFt) (hc49 mGo) dyn, 0, 0)) (h := (88, [(5, .int 0), (0, .ref 25), (1, .int t), (2, .int w), (3, .int r), (4, .int a)], [], hq g c1 c2 c3 c4 c5 c6 c7 c8 c9 c10 c11 c12 c13 c14 c15 c16 c17 c18 c19 c20 c21 c22 c23 c24 (hc25 mTy mTm mMn mFn mRn mTn mVn mLr mTr mFl mFm mFp mSc mMp mEn) (hc26 mPa) (hc27 mTo) (hc28 mOt) (hc29 mNa) (hc30 mRe) (hc31 mMa) (hc32 mMy) (hc33 mPm) (hc34 mFy) (hc35 mFa) (hc36 mFr) (hc37 mFo) (hc38 mRt) (hc39 mRm) (hc40 mTt) (hc41 mTi) (hc42 mPl) (hc43 mVr) (hc44 mVf) (hc45 mVc) (hc46 mAr) (hc47 mTc) (hc48 mFt) (hc49 mGo) dyn, 0, 0)) rfl (fun h52 => ?_) (fun h52 => ?_)
          ·
            have h52 := qT_ge (cx := (mTo (mTm - 1).toNatClampNeg).toInt) (cy := 20) rfl (by decide) h52
            refine pm_go (g := (92, _, [.int a], _, 0, 0)) rfl ?_
            refine pm_go (g := (93, _, [.int 3, .int a], _, 0, 0)) rfl ?_
            refine pm_go (g := (94, _, [.int (a &&& 3)], _, 0, 0)) rfl ?_
            refine pm_go (g := (95, _, [.int 3, .int (a &&& 3)], _, 0, 0)) rfl ?_
            refine pm_if2 (g := (126, [(5, .int 0), (0, .ref 25), (1, .int t), (2, .int w), (3, .int r), (4, .int a)], [], hq g c1 c2 c3 c4 c5 c6 c7 c8 c9 c10 c11 c12 c13 c14 c15 c16 c17 c18 c19 c20 c21 c22 c23 c24 (hc25 mTy mTm mMn mFn mRn mTn mVn mLr mTr mFl mFm mFp mSc mMp mEn) (hc26 mPa) (hc27 mTo) (hc28 mOt) (hc29 mNa) (hc30 mRe) (hc31 mMa) (hc32 mMy) (hc33 mPm) (hc34 mFy) (hc35 mFa) (hc36 mFr) (hc37 mFo) (hc38 mRt) (hc39 mRm) (hc40 mTt) (hc41 mTi) (hc42 mPl) (hc43 mVr) (hc44 mVf) (hc45 mVc) (hc46 mAr) (hc47 mTc) (hc48 mFt) (hc49 mGo) dyn, 0, 0)) (h := (98, [(5, .int 0), (0, .ref 25), (1, .int t), (2, .int w), (3, .int r), (4, .int a)], [], hq g c1 c2 c3 c4 c5 c6 c7 c8 c9 c10 c11 c12 c13 c14 c15 c16 c17 c18 c19 c20 c21 c22 c23 c24 (hc25 mTy mTm mMn mFn mRn mTn mVn mLr mTr mFl mFm mFp mSc mMp mEn) (hc26 mPa) (hc27 mTo) (hc28 mOt) (hc29 mNa) (hc30 mRe) (hc31 mMa) (hc32 mMy) (hc33 mPm) (hc34 mFy) (hc35 mFa) (hc36 mFr) (hc37 mFo) (hc38 mRt) (hc39 mRm) (hc40 mTt) (hc41 mTi) (hc42 mPl) (hc43 mVr) (hc44 mVf) (hc45 mVc) (hc46 mAr) (hc47 mTc) (hc48 mFt) (hc49 mGo) dyn, 0, 0)) rfl (fun h53 => ?_) (fun h53 => ?_)
            ·
              have h53 := qT_eq (cx := (a &&& 3).toInt) (cy := 3) rfl (by decide) h53
              refine pm_go (g := (127, _, [.int (-1)], _, 0, 0)) rfl ?_
              exact pm_ret rfl (k0 (by omega))
            have h53 := qF_eq (cx := (a &&& 3).toInt) (cy := 3) rfl (by decide) h53
            refine pm_go (g := (100, _, [.int a], _, 0, 0)) rfl ?_
            refine pm_go (g := (101, _, [.int 2, .int a], _, 0, 0)) rfl ?_
            refine pm_go (g := (102, _, [.int (a &&& 2)], _, 0, 0)) rfl ?_
            refine pm_if2 (g := (109, [(5, .int 0), (0, .ref 25), (1, .int t), (2, .int w), (3, .int r), (4, .int a)], [], hq g c1 c2 c3 c4 c5 c6 c7 c8 c9 c10 c11 c12 c13 c14 c15 c16 c17 c18 c19 c20 c21 c22 c23 c24 (hc25 mTy mTm mMn mFn mRn mTn mVn mLr mTr mFl mFm mFp mSc mMp mEn) (hc26 mPa) (hc27 mTo) (hc28 mOt) (hc29 mNa) (hc30 mRe) (hc31 mMa) (hc32 mMy) (hc33 mPm) (hc34 mFy) (hc35 mFa) (hc36 mFr) (hc37 mFo) (hc38 mRt) (hc39 mRm) (hc40 mTt) (hc41 mTi) (hc42 mPl) (hc43 mVr) (hc44 mVf) (hc45 mVc) (hc46 mAr) (hc47 mTc) (hc48 mFt) (hc49 mGo) dyn, 0, 0)) (h := (105, [(5, .int 0), (0, .ref 25), (1, .int t), (2, .int w), (3, .int r), (4, .int a)], [], hq g c1 c2 c3 c4 c5 c6 c7 c8 c9 c10 c11 c12 c13 c14 c15 c16 c17 c18 c19 c20 c21 c22 c23 c24 (hc25 mTy mTm mMn mFn mRn mTn mVn mLr mTr mFl mFm mFp mSc mMp mEn) (hc26 mPa) (hc27 mTo) (hc28 mOt) (hc29 mNa) (hc30 mRe) (hc31 mMa) (hc32 mMy) (hc33 mPm) (hc34 mFy) (hc35 mFa) (hc36 mFr) (hc37 mFo) (hc38 mRt) (hc39 mRm) (hc40 mTt) (hc41 mTi) (hc42 mPl) (hc43 mVr) (hc44 mVf) (hc45 mVc) (hc46 mAr) (hc47 mTc) (hc48 mFt) (hc49 mGo) dyn, 0, 0)) rfl (fun h54 => ?_) (fun h54 => ?_)
            ·
              have h54 := qT_eq (cx := (a &&& 2).toInt) (cy := 0) rfl (by decide) h54
              refine pm_go (g := (111, _, [.int 0], _, 0, 0)) rfl ?_
              refine pm_brT (g := (128, [(5, .int 0), (0, .ref 25), (1, .int t), (2, .int w), (3, .int r), (4, .int a)], [], hq g c1 c2 c3 c4 c5 c6 c7 c8 c9 c10 c11 c12 c13 c14 c15 c16 c17 c18 c19 c20 c21 c22 c23 c24 (hc25 mTy mTm mMn mFn mRn mTn mVn mLr mTr mFl mFm mFp mSc mMp mEn) (hc26 mPa) (hc27 mTo) (hc28 mOt) (hc29 mNa) (hc30 mRe) (hc31 mMa) (hc32 mMy) (hc33 mPm) (hc34 mFy) (hc35 mFa) (hc36 mFr) (hc37 mFo) (hc38 mRt) (hc39 mRm) (hc40 mTt) (hc41 mTi) (hc42 mPl) (hc43 mVr) (hc44 mVf) (hc45 mVc) (hc46 mAr) (hc47 mTc) (hc48 mFt) (hc49 mGo) dyn, 0, 0)) rfl ?_
              refine pm_go (g := (129, _, [.ref 25], _, 0, 0)) rfl ?_
              refine pm_go (g := (132, _, [.int mTn], _, 0, 0)) rfl ?_
              refine pm_if2 (g := (142, [(5, .int 0), (0, .ref 25), (1, .int t), (2, .int w), (3, .int r), (4, .int a)], [], hq g c1 c2 c3 c4 c5 c6 c7 c8 c9 c10 c11 c12 c13 c14 c15 c16 c17 c18 c19 c20 c21 c22 c23 c24 (hc25 mTy mTm mMn mFn mRn mTn mVn mLr mTr mFl mFm mFp mSc mMp mEn) (hc26 mPa) (hc27 mTo) (hc28 mOt) (hc29 mNa) (hc30 mRe) (hc31 mMa) (hc32 mMy) (hc33 mPm) (hc34 mFy) (hc35 mFa) (hc36 mFr) (hc37 mFo) (hc38 mRt) (hc39 mRm) (hc40 mTt) (hc41 mTi) (hc42 mPl) (hc43 mVr) (hc44 mVf) (hc45 mVc) (hc46 mAr) (hc47 mTc) (hc48 mFt) (hc49 mGo) dyn, 0, 0)) (h := (135, [(5, .int 0), (0, .ref 25), (1, .int t), (2, .int w), (3, .int r), (4, .int a)], [], hq g c1 c2 c3 c4 c5 c6 c7 c8 c9 c10 c11 c12 c13 c14 c15 c16 c17 c18 c19 c20 c21 c22 c23 c24 (hc25 mTy mTm mMn mFn mRn mTn mVn mLr mTr mFl mFm mFp mSc mMp mEn) (hc26 mPa) (hc27 mTo) (hc28 mOt) (hc29 mNa) (hc30 mRe) (hc31 mMa) (hc32 mMy) (hc33 mPm) (hc34 mFy) (hc35 mFa) (hc36 mFr) (hc37 mFo) (hc38 mRt) (hc39 mRm) (hc40 mTt) (hc41 mTi) (hc42 mPl) (hc43 mVr) (hc44 mVf) (hc45 mVc) (hc46 mAr) (hc47 mTc) (hc48 mFt) (hc49 mGo) dyn, 0, 0)) rfl (fun h55 => ?_) (fun h55 => ?_)
              ·
                have h55 := qT_gt (cx := (mTn).toInt) (cy := 0) rfl (by decide) h55
                refine pm_go (g := (144, _, [.int (-3)], _, 0, 0)) rfl ?_
                exact pm_ret rfl (k1 (by omega))
              have h55 := qF_gt (cx := (mTn).toInt) (cy := 0) rfl (by decide) h55
              refine pm_go (g := (136, _, [.ref 25], _, 0, 0)) rfl ?_
              refine pm_go (g := (139, _, [.int mVn], _, 0, 0)) rfl ?_
              refine pm_if2 (g := (145, [(5, .int 0), (0, .ref 25), (1, .int t), (2, .int w), (3, .int r), (4, .int a)], [], hq g c1 c2 c3 c4 c5 c6 c7 c8 c9 c10 c11 c12 c13 c14 c15 c16 c17 c18 c19 c20 c21 c22 c23 c24 (hc25 mTy mTm mMn mFn mRn mTn mVn mLr mTr mFl mFm mFp mSc mMp mEn) (hc26 mPa) (hc27 mTo) (hc28 mOt) (hc29 mNa) (hc30 mRe) (hc31 mMa) (hc32 mMy) (hc33 mPm) (hc34 mFy) (hc35 mFa) (hc36 mFr) (hc37 mFo) (hc38 mRt) (hc39 mRm) (hc40 mTt) (hc41 mTi) (hc42 mPl) (hc43 mVr) (hc44 mVf) (hc45 mVc) (hc46 mAr) (hc47 mTc) (hc48 mFt) (hc49 mGo) dyn, 0, 0)) (h := (142, [(5, .int 0), (0, .ref 25), (1, .int t), (2, .int w), (3, .int r), (4, .int a)], [], hq g c1 c2 c3 c4 c5 c6 c7 c8 c9 c10 c11 c12 c13 c14 c15 c16 c17 c18 c19 c20 c21 c22 c23 c24 (hc25 mTy mTm mMn mFn mRn mTn mVn mLr mTr mFl mFm mFp mSc mMp mEn) (hc26 mPa) (hc27 mTo) (hc28 mOt) (hc29 mNa) (hc30 mRe) (hc31 mMa) (hc32 mMy) (hc33 mPm) (hc34 mFy) (hc35 mFa) (hc36 mFr) (hc37 mFo) (hc38 mRt) (hc39 mRm) (hc40 mTt) (hc41 mTi) (hc42 mPl) (hc43 mVr) (hc44 mVf) (hc45 mVc) (hc46 mAr) (hc47 mTc) (hc48 mFt) (hc49 mGo) dyn, 0, 0)) rfl (fun h56 => ?_) (fun h56 => ?_)
              ·
                have h56 := qT_le (cx := (mVn).toInt) (cy := 0) rfl (by decide) h56
                refine pm_go (g := (146, _, [.int 0], _, 0, 0)) rfl ?_
                refine pm_go (g := (148, [(6, .int 0), (5, .int 0), (0, .ref 25), (1, .int t), (2, .int w), (3, .int r), (4, .int a)], [], _, 0, 0)) rfl ?_
                exact w_member_loop t w r a (0) p1 p2 p3 41 0 (by omega) (by omega) (fun h => k2 ⟨by omega, by obtain ⟨j, q1, q2⟩ := h; exact ⟨j, q2⟩⟩) (fun h => k3 ⟨by omega, fun j g => h.1 j (Nat.zero_le j) g, h.2⟩) (fun h => k4 ⟨by omega, fun j g => h.1 j (Nat.zero_le j) g, h.2⟩)
              have h56 := qF_le (cx := (mVn).toInt) (cy := 0) rfl (by decide) h56
              refine pm_go (g := (144, [(5, .int 0), (0, .ref 25), (1, .int t), (2, .int w), (3, .int r), (4, .int a)], [.int (-3)], _, 0, 0)) rfl ?_
              exact pm_ret rfl (k1 (by omega))
            have h54 := qF_eq (cx := (a &&& 2).toInt) (cy := 0) rfl (by decide) h54
            refine pm_go (g := (106, _, [.int t], _, 0, 0)) rfl ?_
            refine pm_if2 (g := (126, [(5, .int 0), (0, .ref 25), (1, .int t), (2, .int w), (3, .int r), (4, .int a)], [], hq g c1 c2 c3 c4 c5 c6 c7 c8 c9 c10 c11 c12 c13 c14 c15 c16 c17 c18 c19 c20 c21 c22 c23 c24 (hc25 mTy mTm mMn mFn mRn mTn mVn mLr mTr mFl mFm mFp mSc mMp mEn) (hc26 mPa) (hc27 mTo) (hc28 mOt) (hc29 mNa) (hc30 mRe) (hc31 mMa) (hc32 mMy) (hc33 mPm) (hc34 mFy) (hc35 mFa) (hc36 mFr) (hc37 mFo) (hc38 mRt) (hc39 mRm) (hc40 mTt) (hc41 mTi) (hc42 mPl) (hc43 mVr) (hc44 mVf) (hc45 mVc) (hc46 mAr) (hc47 mTc) (hc48 mFt) (hc49 mGo) dyn, 0, 0)) (h := (109, [(5, .int 0), (0, .ref 25), (1, .int t), (2, .int w), (3, .int r), (4, .int a)], [], hq g c1 c2 c3 c4 c5 c6 c7 c8 c9 c10 c11 c12 c13 c14 c15 c16 c17 c18 c19 c20 c21 c22 c23 c24 (hc25 mTy mTm mMn mFn mRn mTn mVn mLr mTr mFl mFm mFp mSc mMp mEn) (hc26 mPa) (hc27 mTo) (hc28 mOt) (hc29 mNa) (hc30 mRe) (hc31 mMa) (hc32 mMy) (hc33 mPm) (hc34 mFy) (hc35 mFa) (hc36 mFr) (hc37 mFo) (hc38 mRt) (hc39 mRm) (hc40 mTt) (hc41 mTi) (hc42 mPl) (hc43 mVr) (hc44 mVf) (hc45 mVc) (hc46 mAr) (hc47 mTc) (hc48 mFt) (hc49 mGo) dyn, 0, 0)) rfl (fun h57 => ?_) (fun h57 => ?_)
            ·
              have h57 := qT_eq (cx := (t).toInt) (cy := 0) rfl (by decide) h57
              refine pm_go (g := (127, _, [.int (-1)], _, 0, 0)) rfl ?_
              exact pm_ret rfl (k0 (by omega))
            have h57 := qF_eq (cx := (t).toInt) (cy := 0) rfl (by decide) h57
            refine pm_go (g := (111, _, [.int 0], _, 0, 0)) rfl ?_
            refine pm_brT (g := (128, [(5, .int 0), (0, .ref 25), (1, .int t), (2, .int w), (3, .int r), (4, .int a)], [], hq g c1 c2 c3 c4 c5 c6 c7 c8 c9 c10 c11 c12 c13 c14 c15 c16 c17 c18 c19 c20 c21 c22 c23 c24 (hc25 mTy mTm mMn mFn mRn mTn mVn mLr mTr mFl mFm mFp mSc mMp mEn) (hc26 mPa) (hc27 mTo) (hc28 mOt) (hc29 mNa) (hc30 mRe) (hc31 mMa) (hc32 mMy) (hc33 mPm) (hc34 mFy) (hc35 mFa) (hc36 mFr) (hc37 mFo) (hc38 mRt) (hc39 mRm) (hc40 mTt) (hc41 mTi) (hc42 mPl) (hc43 mVr) (hc44 mVf) (hc45 mVc) (hc46 mAr) (hc47 mTc) (hc48 mFt) (hc49 mGo) dyn, 0, 0)) rfl ?_
            refine pm_go (g := (129, _, [.ref 25], _, 0, 0)) rfl ?_
            refine pm_go (g := (132, _, [.int mTn], _, 0, 0)) rfl ?_
            refine pm_if2 (g := (142, [(5, .int 0), (0, .ref 25), (1, .int t), (2, .int w), (3, .int r), (4, .int a)], [], hq g c1 c2 c3 c4 c5 c6 c7 c8 c9 c10 c11 c12 c13 c14 c15 c16 c17 c18 c19 c20 c21 c22 c23 c24 (hc25 mTy mTm mMn mFn mRn mTn mVn mLr mTr mFl mFm mFp mSc mMp mEn) (hc26 mPa) (hc27 mTo) (hc28 mOt) (hc29 mNa) (hc30 mRe) (hc31 mMa) (hc32 mMy) (hc33 mPm) (hc34 mFy) (hc35 mFa) (hc36 mFr) (hc37 mFo) (hc38 mRt) (hc39 mRm) (hc40 mTt) (hc41 mTi) (hc42 mPl) (hc43 mVr) (hc44 mVf) (hc45 mVc) (hc46 mAr) (hc47 mTc) (hc48 mFt) (hc49 mGo) dyn, 0, 0)) (h := (135, [(5, .int 0), (0, .ref 25), (1, .int t), (2, .int w), (3, .int r), (4, .int a)], [], hq g c1 c2 c3 c4 c5 c6 c7 c8 c9 c10 c11 c12 c13 c14 c15 c16 c17 c18 c19 c20 c21 c22 c23 c24 (hc25 mTy mTm mMn mFn mRn mTn mVn mLr mTr mFl mFm mFp mSc mMp mEn) (hc26 mPa) (hc27 mTo) (hc28 mOt) (hc29 mNa) (hc30 mRe) (hc31 mMa) (hc32 mMy) (hc33 mPm) (hc34 mFy) (hc35 mFa) (hc36 mFr) (hc37 mFo) (hc38 mRt) (hc39 mRm) (hc40 mTt) (hc41 mTi) (hc42 mPl) (hc43 mVr) (hc44 mVf) (hc45 mVc) (hc46 mAr) (hc47 mTc) (hc48 mFt) (hc49 mGo) dyn, 0, 0)) rfl (fun h58 => ?_) (fun h58 => ?_)
            ·
              have h58 := qT_gt (cx := (mTn).toInt) (cy := 0) rfl (by decide) h58
              refine pm_go (g := (144, _, [.int (-3)], _, 0, 0)) rfl ?_
              exact pm_ret rfl (k1 (by omega))
            have h58 := qF_gt (cx := (mTn).toInt) (cy := 0) rfl (by decide) h58
            refine pm_go (g := (136, _, [.ref 25], _, 0, 0)) rfl ?_
            refine pm_go (g := (139, _, [.int mVn], _, 0, 0)) rfl ?_
            refine pm_if2 (g := (145, [(5, .int 0), (0, .ref 25), (1, .int t), (2, .int w), (3, .int r), (4, .int a)], [], hq g c1 c2 c3 c4 c5 c6 c7 c8 c9 c10 c11 c12 c13 c14 c15 c16 c17 c18 c19 c20 c21 c22 c23 c24 (hc25 mTy mTm mMn mFn mRn mTn mVn mLr mTr mFl mFm mFp mSc mMp mEn) (hc26 mPa) (hc27 mTo) (hc28 mOt) (hc29 mNa) (hc30 mRe) (hc31 mMa) (hc32 mMy) (hc33 mPm) (hc34 mFy) (hc35 mFa) (hc36 mFr) (hc37 mFo) (hc38 mRt) (hc39 mRm) (hc40 mTt) (hc41 mTi) (hc42 mPl) (hc43 mVr) (hc44 mVf) (hc45 mVc) (hc46 mAr) (hc47 mTc) (hc48 mFt) (hc49 mGo) dyn, 0, 0)) (h := (142, [(5, .int 0), (0, .ref 25), (1, .int t), (2, .int w), (3, .int r), (4, .int a)], [], hq g c1 c2 c3 c4 c5 c6 c7 c8 c9 c10 c11 c12 c13 c14 c15 c16 c17 c18 c19 c20 c21 c22 c23 c24 (hc25 mTy mTm mMn mFn mRn mTn mVn mLr mTr mFl mFm mFp mSc mMp mEn) (hc26 mPa) (hc27 mTo) (hc28 mOt) (hc29 mNa) (hc30 mRe) (hc31 mMa) (hc32 mMy) (hc33 mPm) (hc34 mFy) (hc35 mFa) (hc36 mFr) (hc37 mFo) (hc38 mRt) (hc39 mRm) (hc40 mTt) (hc41 mTi) (hc42 mPl) (hc43 mVr) (hc44 mVf) (hc45 mVc) (hc46 mAr) (hc47 mTc) (hc48 mFt) (hc49 mGo) dyn, 0, 0)) rfl (fun h59 => ?_) (fun h59 => ?_)
            ·
              have h59 := qT_le (cx := (mVn).toInt) (cy := 0) rfl (by decide) h59
              refine pm_go (g := (146, _, [.int 0], _, 0, 0)) rfl ?_
              refine pm_go (g := (148, [(6, .int 0), (5, .int 0), (0, .ref 25), (1, .int t), (2, .int w), (3, .int r), (4, .int a)], [], _, 0, 0)) rfl ?_
              exact w_member_loop t w r a (0) p1 p2 p3 41 0 (by omega) (by omega) (fun h => k2 ⟨by omega, by obtain ⟨j, q1, q2⟩ := h; exact ⟨j, q2⟩⟩) (fun h => k3 ⟨by omega, fun j g => h.1 j (Nat.zero_le j) g, h.2⟩) (fun h => k4 ⟨by omega, fun j g => h.1 j (Nat.zero_le j) g, h.2⟩)
            have h59 := qF_le (cx := (mVn).toInt) (cy := 0) rfl (by decide) h59
            refine pm_go (g := (144, [(5, .int 0), (0, .ref 25), (1, .int t), (2, .int w), (3, .int r), (4, .int a)], [.int (-3)], _, 0, 0)) rfl ?_
            exact pm_ret rfl (k1 (by omega))
          have h52 := qF_ge (cx := (mTo (mTm - 1).toNatClampNeg).toInt) (cy := 20) rfl (by decide) h52
          refine pm_go (g := (89, _, [.int (-1)], _, 0, 0)) rfl ?_
          exact pm_ret rfl (k0 (by omega))
        show pm_WP 142 (53, [(5, .int 0), (0, .ref 25), (1, .int t), (2, .int w), (3, .int r), (4, .int a)], [.int 0], hq g c1 c2 c3 c4 c5 c6 c7 c8 c9 c10 c11 c12 c13 c14 c15 c16 c17 c18 c19 c20 c21 c22 c23 c24 (hc25 mTy mTm mMn mFn mRn mTn mVn mLr mTr mFl mFm mFp mSc mMp mEn) (hc26 mPa) (hc27 mTo) (hc28 mOt) (hc29 mNa) (hc30 mRe) (hc31 mMa) (hc32 mMy) (hc33 mPm) (hc34 mFy) (hc35 mFa) (hc36 mFr) (hc37 mFo) (hc38 mRt) (hc39 mRm) (hc40 mTt) (hc41 mTi) (hc42 mPl) (hc43 mVr) (hc44 mVf) (hc45 mVc) (hc46 mAr) (hc47 mTc) (hc48 mFt) (hc49 mGo) dyn, 0, 0) _
        refine pm_brF (h := (56, [(5, .int 0), (0, .ref 25), (1, .int t), (2, .int w), (3, .int r), (4, .int a)], [], hq g c1 c2 c3 c4 c5 c6 c7 c8 c9 c10 c11 c12 c13 c14 c15 c16 c17 c18 c19 c20 c21 c22 c23 c24 (hc25 mTy mTm mMn mFn mRn mTn mVn mLr mTr mFl mFm mFp mSc mMp mEn) (hc26 mPa) (hc27 mTo) (hc28 mOt) (hc29 mNa) (hc30 mRe) (hc31 mMa) (hc32 mMy) (hc33 mPm) (hc34 mFy) (hc35 mFa) (hc36 mFr) (hc37 mFo) (hc38 mRt) (hc39 mRm) (hc40 mTt) (hc41 mTi) (hc42 mPl) (hc43 mVr) (hc44 mVf) (hc45 mVc) (hc46 mAr) (hc47 mTc) (hc48 mFt) (hc49 mGo) dyn, 0, 0)) rfl ?_
        refine pm_go (g := (57, _, [.int (-1)], _, 0, 0)) rfl ?_
        exact pm_ret rfl (k0 (by omega))
      show pm_WP 142 (28, [(5, .int 0), (0, .ref 25), (1, .int t), (2, .int w), (3, .int r), (4, .int a)], [.int 0], hq g c1 c2 c3 c4 c5 c6 c7 c8 c9 c10 c11 c12 c13 c14 c15 c16 c17 c18 c19 c20 c21 c22 c23 c24 (hc25 mTy mTm mMn mFn mRn mTn mVn mLr mTr mFl mFm mFp mSc mMp mEn) (hc26 mPa) (hc27 mTo) (hc28 mOt) (hc29 mNa) (hc30 mRe) (hc31 mMa) (hc32 mMy) (hc33 mPm) (hc34 mFy) (hc35 mFa) (hc36 mFr) (hc37 mFo) (hc38 mRt) (hc39 mRm) (hc40 mTt) (hc41 mTi) (hc42 mPl) (hc43 mVr) (hc44 mVf) (hc45 mVc) (hc46 mAr) (hc47 mTc) (hc48 mFt) (hc49 mGo) dyn, 0, 0) _
      refine pm_brT (g := (56, [(5, .int 0), (0, .ref 25), (1, .int t), (2, .int w), (3, .int r), (4, .int a)], [], hq g c1 c2 c3 c4 c5 c6 c7 c8 c9 c10 c11 c12 c13 c14 c15 c16 c17 c18 c19 c20 c21 c22 c23 c24 (hc25 mTy mTm mMn mFn mRn mTn mVn mLr mTr mFl mFm mFp mSc mMp mEn) (hc26 mPa) (hc27 mTo) (hc28 mOt) (hc29 mNa) (hc30 mRe) (hc31 mMa) (hc32 mMy) (hc33 mPm) (hc34 mFy) (hc35 mFa) (hc36 mFr) (hc37 mFo) (hc38 mRt) (hc39 mRm) (hc40 mTt) (hc41 mTi) (hc42 mPl) (hc43 mVr) (hc44 mVf) (hc45 mVc) (hc46 mAr) (hc47 mTc) (hc48 mFt) (hc49 mGo) dyn, 0, 0)) rfl ?_
      refine pm_go (g := (57, _, [.int (-1)], _, 0, 0)) rfl ?_
      exact pm_ret rfl (k0 (by omega))
    show pm_WP 142 (18, [(5, .int 0), (0, .ref 25), (1, .int t), (2, .int w), (3, .int r), (4, .int a)], [.int 0], hq g c1 c2 c3 c4 c5 c6 c7 c8 c9 c10 c11 c12 c13 c14 c15 c16 c17 c18 c19 c20 c21 c22 c23 c24 (hc25 mTy mTm mMn mFn mRn mTn mVn mLr mTr mFl mFm mFp mSc mMp mEn) (hc26 mPa) (hc27 mTo) (hc28 mOt) (hc29 mNa) (hc30 mRe) (hc31 mMa) (hc32 mMy) (hc33 mPm) (hc34 mFy) (hc35 mFa) (hc36 mFr) (hc37 mFo) (hc38 mRt) (hc39 mRm) (hc40 mTt) (hc41 mTi) (hc42 mPl) (hc43 mVr) (hc44 mVf) (hc45 mVc) (hc46 mAr) (hc47 mTc) (hc48 mFt) (hc49 mGo) dyn, 0, 0) _
    refine pm_brT (g := (56, [(5, .int 0), (0, .ref 25), (1, .int t), (2, .int w), (3, .int r), (4, .int a)], [], hq g c1 c2 c3 c4 c5 c6 c7 c8 c9 c10 c11 c12 c13 c14 c15 c16 c17 c18 c19 c20 c21 c22 c23 c24 (hc25 mTy mTm mMn mFn mRn mTn mVn mLr mTr mFl mFm mFp mSc mMp mEn) (hc26 mPa) (hc27 mTo) (hc28 mOt) (hc29 mNa) (hc30 mRe) (hc31 mMa) (hc32 mMy) (hc33 mPm) (hc34 mFy) (hc35 mFa) (hc36 mFr) (hc37 mFo) (hc38 mRt) (hc39 mRm) (hc40 mTt) (hc41 mTi) (hc42 mPl) (hc43 mVr) (hc44 mVf) (hc45 mVc) (hc46 mAr) (hc47 mTc) (hc48 mFt) (hc49 mGo) dyn, 0, 0)) rfl ?_
    refine pm_go (g := (57, _, [.int (-1)], _, 0, 0)) rfl ?_
    exact pm_ret rfl (k0 (by omega))
  have h1 := qF_ne (cx := (w).toInt) (cy := 6) rfl (by decide) h1
  refine pm_go (g := (7, [(0, .ref 25), (1, .int t), (2, .int w), (3, .int r), (4, .int a)], [.int 1], _, 0, 0)) rfl ?_
  refine pm_go (g := (11, _, [.int 1], _, 0, 0)) rfl ?_
  refine pm_go (g := (13, [(5, .int 1), (0, .ref 25), (1, .int t), (2, .int w), (3, .int r), (4, .int a)], [], _, 0, 0)) rfl ?_
  refine pm_go (g := (14, _, [.ref 25], _, 0, 0)) rfl ?_
  refine pm_go (g := (15, _, [.int t, .ref 25], _, 0, 0)) rfl ?_
  refine pm_callD (z := 130) (as := [.ref 25, .int t]) (rest := []) rfl ?_
  refine w_X12_isOwn t (by omega) (fun h60 => ?_) (fun h61 => ?_)
  ·
    show pm_WP 142 (18, [(5, .int 1), (0, .ref 25), (1, .int t), (2, .int w), (3, .int r), (4, .int a)], [.int 1], _, 0, 0) _
    refine pm_brF (h := (21, [(5, .int 1), (0, .ref 25), (1, .int t), (2, .int w), (3, .int r), (4, .int a)], [], hq g c1 c2 c3 c4 c5 c6 c7 c8 c9 c10 c11 c12 c13 c14 c15 c16 c17 c18 c19 c20 c21 c22 c23 c24 (hc25 mTy mTm mMn mFn mRn mTn mVn mLr mTr mFl mFm mFp mSc mMp mEn) (hc26 mPa) (hc27 mTo) (hc28 mOt) (hc29 mNa) (hc30 mRe) (hc31 mMa) (hc32 mMy) (hc33 mPm) (hc34 mFy) (hc35 mFa) (hc36 mFr) (hc37 mFo) (hc38 mRt) (hc39 mRm) (hc40 mTt) (hc41 mTi) (hc42 mPl) (hc43 mVr) (hc44 mVf) (hc45 mVc) (hc46 mAr) (hc47 mTc) (hc48 mFt) (hc49 mGo) dyn, 0, 0)) rfl ?_
    refine pm_go (g := (22, _, [.int w], _, 0, 0)) rfl ?_
    refine pm_go (g := (23, _, [.int 0, .int w], _, 0, 0)) rfl ?_
    refine pm_go (g := (25, _, [.int 6, .int 0, .int w], _, 0, 0)) rfl ?_
    refine pm_callD (z := 128) (as := [.int w, .int 0, .int 6]) (rest := []) rfl ?_
    have h63 : (0 : Int32).toInt = 0 := by decide
    have h64 : (6 : Int32).toInt = 6 := by decide
    refine w_X12_isIn w 0 6 (fun h65 => ?_) (fun h66 => ?_)
    ·
      show pm_WP 142 (28, [(5, .int 1), (0, .ref 25), (1, .int t), (2, .int w), (3, .int r), (4, .int a)], [.int 1], _, 0, 0) _
      refine pm_brF (h := (31, [(5, .int 1), (0, .ref 25), (1, .int t), (2, .int w), (3, .int r), (4, .int a)], [], hq g c1 c2 c3 c4 c5 c6 c7 c8 c9 c10 c11 c12 c13 c14 c15 c16 c17 c18 c19 c20 c21 c22 c23 c24 (hc25 mTy mTm mMn mFn mRn mTn mVn mLr mTr mFl mFm mFp mSc mMp mEn) (hc26 mPa) (hc27 mTo) (hc28 mOt) (hc29 mNa) (hc30 mRe) (hc31 mMa) (hc32 mMy) (hc33 mPm) (hc34 mFy) (hc35 mFa) (hc36 mFr) (hc37 mFo) (hc38 mRt) (hc39 mRm) (hc40 mTt) (hc41 mTi) (hc42 mPl) (hc43 mVr) (hc44 mVf) (hc45 mVc) (hc46 mAr) (hc47 mTc) (hc48 mFt) (hc49 mGo) dyn, 0, 0)) rfl ?_
      refine pm_go (g := (32, _, [.ref 25], _, 0, 0)) rfl ?_
      refine pm_go (g := (33, _, [.int r, .ref 25], _, 0, 0)) rfl ?_
      refine pm_callD (z := 131) (as := [.ref 25, .int r]) (rest := []) rfl ?_
      refine w_X12_isPlace r (by omega) (fun h68 => ?_) (fun h69 => ?_)
      ·
        show pm_WP 142 (36, [(5, .int 1), (0, .ref 25), (1, .int t), (2, .int w), (3, .int r), (4, .int a)], [.int 1], _, 0, 0) _
        refine pm_brT (g := (45, [(5, .int 1), (0, .ref 25), (1, .int t), (2, .int w), (3, .int r), (4, .int a)], [], hq g c1 c2 c3 c4 c5 c6 c7 c8 c9 c10 c11 c12 c13 c14 c15 c16 c17 c18 c19 c20 c21 c22 c23 c24 (hc25 mTy mTm mMn mFn mRn mTn mVn mLr mTr mFl mFm mFp mSc mMp mEn) (hc26 mPa) (hc27 mTo) (hc28 mOt) (hc29 mNa) (hc30 mRe) (hc31 mMa) (hc32 mMy) (hc33 mPm) (hc34 mFy) (hc35 mFa) (hc36 mFr) (hc37 mFo) (hc38 mRt) (hc39 mRm) (hc40 mTt) (hc41 mTi) (hc42 mPl) (hc43 mVr) (hc44 mVf) (hc45 mVc) (hc46 mAr) (hc47 mTc) (hc48 mFt) (hc49 mGo) dyn, 0, 0)) rfl ?_
        refine pm_go (g := (47, _, [.int a], _, 0, 0)) rfl ?_
        refine pm_go (g := (48, _, [.int 0, .int a], _, 0, 0)) rfl ?_
        refine pm_go (g := (50, _, [.int 7, .int 0, .int a], _, 0, 0)) rfl ?_
        refine pm_callD (z := 128) (as := [.int a, .int 0, .int 7]) (rest := []) rfl ?_
        have h71 : (0 : Int32).toInt = 0 := by decide
        have h72 : (7 : Int32).toInt = 7 := by decide
        refine w_X12_isIn a 0 7 (fun h73 => ?_) (fun h74 => ?_)
        ·
          show pm_WP 142 (53, [(5, .int 1), (0, .ref 25), (1, .int t), (2, .int w), (3, .int r), (4, .int a)], [.int 1], _, 0, 0) _
          refine pm_brT (g := (58, [(5, .int 1), (0, .ref 25), (1, .int t), (2, .int w), (3, .int r), (4, .int a)], [], hq g c1 c2 c3 c4 c5 c6 c7 c8 c9 c10 c11 c12 c13 c14 c15 c16 c17 c18 c19 c20 c21 c22 c23 c24 (hc25 mTy mTm mMn mFn mRn mTn mVn mLr mTr mFl mFm mFp mSc mMp mEn) (hc26 mPa) (hc27 mTo) (hc28 mOt) (hc29 mNa) (hc30 mRe) (hc31 mMa) (hc32 mMy) (hc33 mPm) (hc34 mFy) (hc35 mFa) (hc36 mFr) (hc37 mFo) (hc38 mRt) (hc39 mRm) (hc40 mTt) (hc41 mTi) (hc42 mPl) (hc43 mVr) (hc44 mVf) (hc45 mVc) (hc46 mAr) (hc47 mTc) (hc48 mFt) (hc49 mGo) dyn, 0, 0)) rfl ?_
          refine pm_go (g := (60, _, [.int a], _, 0, 0)) rfl ?_
          refine pm_go (g := (61, _, [.int 4, .int a], _, 0, 0)) rfl ?_
          refine pm_go (g := (62, _, [.int (a &&& 4)], _, 0, 0)) rfl ?_
          refine pm_if2 (g := (90, [(5, .int 1), (0, .ref 25), (1, .int t), (2, .int w), (3, .int r), (4, .int a)], [], hq g c1 c2 c3 c4 c5 c6 c7 c8 c9 c10 c11 c12 c13 c14 c15 c16 c17 c18 c19 c20 c21 c22 c23 c24 (hc25 mTy mTm mMn mFn mRn mTn mVn mLr mTr mFl mFm mFp mSc mMp mEn) (hc26 mPa) (hc27 mTo) (hc28 mOt) (hc29 mNa) (hc30 mRe) (hc31 mMa) (hc32 mMy) (hc33 mPm) (hc34 mFy) (hc35 mFa) (hc36 mFr) (hc37 mFo) (hc38 mRt) (hc39 mRm) (hc40 mTt) (hc41 mTi) (hc42 mPl) (hc43 mVr) (hc44 mVf) (hc45 mVc) (hc46 mAr) (hc47 mTc) (hc48 mFt) (hc49 mGo) dyn, 0, 0)) (h := (65, [(5, .int 1), (0, .ref 25), (1, .int t), (2, .int w), (3, .int r), (4, .int a)], [], hq g c1 c2 c3 c4 c5 c6 c7 c8 c9 c10 c11 c12 c13 c14 c15 c16 c17 c18 c19 c20 c21 c22 c23 c24 (hc25 mTy mTm mMn mFn mRn mTn mVn mLr mTr mFl mFm mFp mSc mMp mEn) (hc26 mPa) (hc27 mTo) (hc28 mOt) (hc29 mNa) (hc30 mRe) (hc31 mMa) (hc32 mMy) (hc33 mPm) (hc34 mFy) (hc35 mFa) (hc36 mFr) (hc37 mFo) (hc38 mRt) (hc39 mRm) (hc40 mTt) (hc41 mTi) (hc42 mPl) (hc43 mVr) (hc44 mVf) (hc45 mVc) (hc46 mAr) (hc47 mTc) (hc48 mFt) (hc49 mGo) dyn, 0, 0)) rfl (fun h76 => ?_) (fun h76 => ?_)
          ·
            have h76 := qT_eq (cx := (a &&& 4).toInt) (cy := 0) rfl (by decide) h76
            refine pm_go (g := (92, _, [.int a], _, 0, 0)) rfl ?_
            refine pm_go (g := (93, _, [.int 3, .int a], _, 0, 0)) rfl ?_
            refine pm_go (g := (94, _, [.int (a &&& 3)], _, 0, 0)) rfl ?_
            refine pm_go (g := (95, _, [.int 3, .int (a &&& 3)], _, 0, 0)) rfl ?_
            refine pm_if2 (g := (126, [(5, .int 1), (0, .ref 25), (1, .int t), (2, .int w), (3, .int r), (4, .int a)], [], hq g c1 c2 c3 c4 c5 c6 c7 c8 c9 c10 c11 c12 c13 c14 c15 c16 c17 c18 c19 c20 c21 c22 c23 c24 (hc25 mTy mTm mMn mFn mRn mTn mVn mLr mTr mFl mFm mFp mSc mMp mEn) (hc26 mPa) (hc27 mTo) (hc28 mOt) (hc29 mNa) (hc30 mRe) (hc31 mMa) (hc32 mMy) (hc33 mPm) (hc34 mFy) (hc35 mFa) (hc36 mFr) (hc37 mFo) (hc38 mRt) (hc39 mRm) (hc40 mTt) (hc41 mTi) (hc42 mPl) (hc43 mVr) (hc44 mVf) (hc45 mVc) (hc46 mAr) (hc47 mTc) (hc48 mFt) (hc49 mGo) dyn, 0, 0)) (h := (98, [(5, .int 1), (0, .ref 25), (1, .int t), (2, .int w), (3, .int r), (4, .int a)], [], hq g c1 c2 c3 c4 c5 c6 c7 c8 c9 c10 c11 c12 c13 c14 c15 c16 c17 c18 c19 c20 c21 c22 c23 c24 (hc25 mTy mTm mMn mFn mRn mTn mVn mLr mTr mFl mFm mFp mSc mMp mEn) (hc26 mPa) (hc27 mTo) (hc28 mOt) (hc29 mNa) (hc30 mRe) (hc31 mMa) (hc32 mMy) (hc33 mPm) (hc34 mFy) (hc35 mFa) (hc36 mFr) (hc37 mFo) (hc38 mRt) (hc39 mRm) (hc40 mTt) (hc41 mTi) (hc42 mPl) (hc43 mVr) (hc44 mVf) (hc45 mVc) (hc46 mAr) (hc47 mTc) (hc48 mFt) (hc49 mGo) dyn, 0, 0)) rfl (fun h77 => ?_) (fun h77 => ?_)
            ·
              have h77 := qT_eq (cx := (a &&& 3).toInt) (cy := 3) rfl (by decide) h77
              refine pm_go (g := (127, _, [.int (-1)], _, 0, 0)) rfl ?_
              exact pm_ret rfl (k0 (by omega))
            have h77 := qF_eq (cx := (a &&& 3).toInt) (cy := 3) rfl (by decide) h77
            refine pm_go (g := (100, _, [.int a], _, 0, 0)) rfl ?_
            refine pm_go (g := (101, _, [.int 2, .int a], _, 0, 0)) rfl ?_
            refine pm_go (g := (102, _, [.int (a &&& 2)], _, 0, 0)) rfl ?_
            refine pm_if2 (g := (109, [(5, .int 1), (0, .ref 25), (1, .int t), (2, .int w), (3, .int r), (4, .int a)], [], hq g c1 c2 c3 c4 c5 c6 c7 c8 c9 c10 c11 c12 c13 c14 c15 c16 c17 c18 c19 c20 c21 c22 c23 c24 (hc25 mTy mTm mMn mFn mRn mTn mVn mLr mTr mFl mFm mFp mSc mMp mEn) (hc26 mPa) (hc27 mTo) (hc28 mOt) (hc29 mNa) (hc30 mRe) (hc31 mMa) (hc32 mMy) (hc33 mPm) (hc34 mFy) (hc35 mFa) (hc36 mFr) (hc37 mFo) (hc38 mRt) (hc39 mRm) (hc40 mTt) (hc41 mTi) (hc42 mPl) (hc43 mVr) (hc44 mVf) (hc45 mVc) (hc46 mAr) (hc47 mTc) (hc48 mFt) (hc49 mGo) dyn, 0, 0)) (h := (105, [(5, .int 1), (0, .ref 25), (1, .int t), (2, .int w), (3, .int r), (4, .int a)], [], hq g c1 c2 c3 c4 c5 c6 c7 c8 c9 c10 c11 c12 c13 c14 c15 c16 c17 c18 c19 c20 c21 c22 c23 c24 (hc25 mTy mTm mMn mFn mRn mTn mVn mLr mTr mFl mFm mFp mSc mMp mEn) (hc26 mPa) (hc27 mTo) (hc28 mOt) (hc29 mNa) (hc30 mRe) (hc31 mMa) (hc32 mMy) (hc33 mPm) (hc34 mFy) (hc35 mFa) (hc36 mFr) (hc37 mFo) (hc38 mRt) (hc39 mRm) (hc40 mTt) (hc41 mTi) (hc42 mPl) (hc43 mVr) (hc44 mVf) (hc45 mVc) (hc46 mAr) (hc47 mTc) (hc48 mFt) (hc49 mGo) dyn, 0, 0)) rfl (fun h78 => ?_) (fun h78 => ?_)
            ·
              have h78 := qT_eq (cx := (a &&& 2).toInt) (cy := 0) rfl (by decide) h78
              refine pm_go (g := (111, _, [.int 1], _, 0, 0)) rfl ?_
              refine pm_brF (h := (114, [(5, .int 1), (0, .ref 25), (1, .int t), (2, .int w), (3, .int r), (4, .int a)], [], hq g c1 c2 c3 c4 c5 c6 c7 c8 c9 c10 c11 c12 c13 c14 c15 c16 c17 c18 c19 c20 c21 c22 c23 c24 (hc25 mTy mTm mMn mFn mRn mTn mVn mLr mTr mFl mFm mFp mSc mMp mEn) (hc26 mPa) (hc27 mTo) (hc28 mOt) (hc29 mNa) (hc30 mRe) (hc31 mMa) (hc32 mMy) (hc33 mPm) (hc34 mFy) (hc35 mFa) (hc36 mFr) (hc37 mFo) (hc38 mRt) (hc39 mRm) (hc40 mTt) (hc41 mTi) (hc42 mPl) (hc43 mVr) (hc44 mVf) (hc45 mVc) (hc46 mAr) (hc47 mTc) (hc48 mFt) (hc49 mGo) dyn, 0, 0)) rfl ?_
              refine pm_go (g := (116, _, [.int a], _, 0, 0)) rfl ?_
              refine pm_go (g := (117, _, [.int 3, .int a], _, 0, 0)) rfl ?_
              refine pm_go (g := (118, _, [.int (a &&& 3)], _, 0, 0)) rfl ?_
              refine pm_if2 (g := (126, [(5, .int 1), (0, .ref 25), (1, .int t), (2, .int w), (3, .int r), (4, .int a)], [], hq g c1 c2 c3 c4 c5 c6 c7 c8 c9 c10 c11 c12 c13 c14 c15 c16 c17 c18 c19 c20 c21 c22 c23 c24 (hc25 mTy mTm mMn mFn mRn mTn mVn mLr mTr mFl mFm mFp mSc mMp mEn) (hc26 mPa) (hc27 mTo) (hc28 mOt) (hc29 mNa) (hc30 mRe) (hc31 mMa) (hc32 mMy) (hc33 mPm) (hc34 mFy) (hc35 mFa) (hc36 mFr) (hc37 mFo) (hc38 mRt) (hc39 mRm) (hc40 mTt) (hc41 mTi) (hc42 mPl) (hc43 mVr) (hc44 mVf) (hc45 mVc) (hc46 mAr) (hc47 mTc) (hc48 mFt) (hc49 mGo) dyn, 0, 0)) (h := (121, [(5, .int 1), (0, .ref 25), (1, .int t), (2, .int w), (3, .int r), (4, .int a)], [], hq g c1 c2 c3 c4 c5 c6 c7 c8 c9 c10 c11 c12 c13 c14 c15 c16 c17 c18 c19 c20 c21 c22 c23 c24 (hc25 mTy mTm mMn mFn mRn mTn mVn mLr mTr mFl mFm mFp mSc mMp mEn) (hc26 mPa) (hc27 mTo) (hc28 mOt) (hc29 mNa) (hc30 mRe) (hc31 mMa) (hc32 mMy) (hc33 mPm) (hc34 mFy) (hc35 mFa) (hc36 mFr) (hc37 mFo) (hc38 mRt) (hc39 mRm) (hc40 mTt) (hc41 mTi) (hc42 mPl) (hc43 mVr) (hc44 mVf) (hc45 mVc) (hc46 mAr) (hc47 mTc) (hc48 mFt) (hc49 mGo) dyn, 0, 0)) rfl (fun h79 => ?_) (fun h79 => ?_)
              ·
                have h79 := qT_ne (cx := (a &&& 3).toInt) (cy := 0) rfl (by decide) h79
                refine pm_go (g := (127, _, [.int (-1)], _, 0, 0)) rfl ?_
                exact pm_ret rfl (k0 (by omega))
              have h79 := qF_ne (cx := (a &&& 3).toInt) (cy := 0) rfl (by decide) h79
              refine pm_go (g := (122, _, [.int r], _, 0, 0)) rfl ?_
              refine pm_go (g := (123, _, [.int t, .int r], _, 0, 0)) rfl ?_
              refine pm_if2 (g := (128, [(5, .int 1), (0, .ref 25), (1, .int t), (2, .int w), (3, .int r), (4, .int a)], [], hq g c1 c2 c3 c4 c5 c6 c7 c8 c9 c10 c11 c12 c13 c14 c15 c16 c17 c18 c19 c20 c21 c22 c23 c24 (hc25 mTy mTm mMn mFn mRn mTn mVn mLr mTr mFl mFm mFp mSc mMp mEn) (hc26 mPa) (hc27 mTo) (hc28 mOt) (hc29 mNa) (hc30 mRe) (hc31 mMa) (hc32 mMy) (hc33 mPm) (hc34 mFy) (hc35 mFa) (hc36 mFr) (hc37 mFo) (hc38 mRt) (hc39 mRm) (hc40 mTt) (hc41 mTi) (hc42 mPl) (hc43 mVr) (hc44 mVf) (hc45 mVc) (hc46 mAr) (hc47 mTc) (hc48 mFt) (hc49 mGo) dyn, 0, 0)) (h := (126, [(5, .int 1), (0, .ref 25), (1, .int t), (2, .int w), (3, .int r), (4, .int a)], [], hq g c1 c2 c3 c4 c5 c6 c7 c8 c9 c10 c11 c12 c13 c14 c15 c16 c17 c18 c19 c20 c21 c22 c23 c24 (hc25 mTy mTm mMn mFn mRn mTn mVn mLr mTr mFl mFm mFp mSc mMp mEn) (hc26 mPa) (hc27 mTo) (hc28 mOt) (hc29 mNa) (hc30 mRe) (hc31 mMa) (hc32 mMy) (hc33 mPm) (hc34 mFy) (hc35 mFa) (hc36 mFr) (hc37 mFo) (hc38 mRt) (hc39 mRm) (hc40 mTt) (hc41 mTi) (hc42 mPl) (hc43 mVr) (hc44 mVf) (hc45 mVc) (hc46 mAr) (hc47 mTc) (hc48 mFt) (hc49 mGo) dyn, 0, 0)) rfl (fun h80 => ?_) (fun h80 => ?_)
              ·
                have h80 := qT_eq (cx := (r).toInt) (cy := (t).toInt) rfl rfl h80
                refine pm_go (g := (129, _, [.ref 25], _, 0, 0)) rfl ?_
                refine pm_go (g := (132, _, [.int mTn], _, 0, 0)) rfl ?_
                refine pm_if2 (g := (142, [(5, .int 1), (0, .ref 25), (1, .int t), (2, .int w), (3, .int r), (4, .int a)], [], hq g c1 c2 c3 c4 c5 c6 c7 c8 c9 c10 c11 c12 c13 c14 c15 c16 c17 c18 c19 c20 c21 c22 c23 c24 (hc25 mTy mTm mMn mFn mRn mTn mVn mLr mTr mFl mFm mFp mSc mMp mEn) (hc26 mPa) (hc27 mTo) (hc28 mOt) (hc29 mNa) (hc30 mRe) (hc31 mMa) (hc32 mMy) (hc33 mPm) (hc34 mFy) (hc35 mFa) (hc36 mFr) (hc37 mFo) (hc38 mRt) (hc39 mRm) (hc40 mTt) (hc41 mTi) (hc42 mPl) (hc43 mVr) (hc44 mVf) (hc45 mVc) (hc46 mAr) (hc47 mTc) (hc48 mFt) (hc49 mGo) dyn, 0, 0)) (h := (135, [(5, .int 1), (0, .ref 25), (1, .int t), (2, .int w), (3, .int r), (4, .int a)], [], hq g c1 c2 c3 c4 c5 c6 c7 c8 c9 c10 c11 c12 c13 c14 c15 c16 c17 c18 c19 c20 c21 c22 c23 c24 (hc25 mTy mTm mMn mFn mRn mTn mVn mLr mTr mFl mFm mFp mSc mMp mEn) (hc26 mPa) (hc27 mTo) (hc28 mOt) (hc29 mNa) (hc30 mRe) (hc31 mMa) (hc32 mMy) (hc33 mPm) (hc34 mFy) (hc35 mFa) (hc36 mFr) (hc37 mFo) (hc38 mRt) (hc39 mRm) (hc40 mTt) (hc41 mTi) (hc42 mPl) (hc43 mVr) (hc44 mVf) (hc45 mVc) (hc46 mAr) (hc47 mTc) (hc48 mFt) (hc49 mGo) dyn, 0, 0)) rfl (fun h81 => ?_) (fun h81 => ?_)
                ·
                  have h81 := qT_gt (cx := (mTn).toInt) (cy := 0) rfl (by decide) h81
                  refine pm_go (g := (144, _, [.int (-3)], _, 0, 0)) rfl ?_
                  exact pm_ret rfl (k1 (by omega))
                have h81 := qF_gt (cx := (mTn).toInt) (cy := 0) rfl (by decide) h81
                refine pm_go (g := (136, _, [.ref 25], _, 0, 0)) rfl ?_
                refine pm_go (g := (139, _, [.int mVn], _, 0, 0)) rfl ?_
                refine pm_if2 (g := (145, [(5, .int 1), (0, .ref 25), (1, .int t), (2, .int w), (3, .int r), (4, .int a)], [], hq g c1 c2 c3 c4 c5 c6 c7 c8 c9 c10 c11 c12 c13 c14 c15 c16 c17 c18 c19 c20 c21 c22 c23 c24 (hc25 mTy mTm mMn mFn mRn mTn mVn mLr mTr mFl mFm mFp mSc mMp mEn) (hc26 mPa) (hc27 mTo) (hc28 mOt) (hc29 mNa) (hc30 mRe) (hc31 mMa) (hc32 mMy) (hc33 mPm) (hc34 mFy) (hc35 mFa) (hc36 mFr) (hc37 mFo) (hc38 mRt) (hc39 mRm) (hc40 mTt) (hc41 mTi) (hc42 mPl) (hc43 mVr) (hc44 mVf) (hc45 mVc) (hc46 mAr) (hc47 mTc) (hc48 mFt) (hc49 mGo) dyn, 0, 0)) (h := (142, [(5, .int 1), (0, .ref 25), (1, .int t), (2, .int w), (3, .int r), (4, .int a)], [], hq g c1 c2 c3 c4 c5 c6 c7 c8 c9 c10 c11 c12 c13 c14 c15 c16 c17 c18 c19 c20 c21 c22 c23 c24 (hc25 mTy mTm mMn mFn mRn mTn mVn mLr mTr mFl mFm mFp mSc mMp mEn) (hc26 mPa) (hc27 mTo) (hc28 mOt) (hc29 mNa) (hc30 mRe) (hc31 mMa) (hc32 mMy) (hc33 mPm) (hc34 mFy) (hc35 mFa) (hc36 mFr) (hc37 mFo) (hc38 mRt) (hc39 mRm) (hc40 mTt) (hc41 mTi) (hc42 mPl) (hc43 mVr) (hc44 mVf) (hc45 mVc) (hc46 mAr) (hc47 mTc) (hc48 mFt) (hc49 mGo) dyn, 0, 0)) rfl (fun h82 => ?_) (fun h82 => ?_)
                ·
                  have h82 := qT_le (cx := (mVn).toInt) (cy := 0) rfl (by decide) h82
                  refine pm_go (g := (146, _, [.int 0], _, 0, 0)) rfl ?_
                  refine pm_go (g := (148, [(6, .int 0), (5, .int 1), (0, .ref 25), (1, .int t), (2, .int w), (3, .int r), (4, .int a)], [], _, 0, 0)) rfl ?_
                  exact w_member_loop t w r a (1) p1 p2 p3 41 0 (by omega) (by omega) (fun h => k2 ⟨by omega, by obtain ⟨j, q1, q2⟩ := h; exact ⟨j, q2⟩⟩) (fun h => k3 ⟨by omega, fun j g => h.1 j (Nat.zero_le j) g, h.2⟩) (fun h => k4 ⟨by omega, fun j g => h.1 j (Nat.zero_le j) g, h.2⟩)
                have h82 := qF_le (cx := (mVn).toInt) (cy := 0) rfl (by decide) h82
                refine pm_go (g := (144, [(5, .int 1), (0, .ref 25), (1, .int t), (2, .int w), (3, .int r), (4, .int a)], [.int (-3)], _, 0, 0)) rfl ?_
                exact pm_ret rfl (k1 (by omega))
              have h80 := qF_eq (cx := (r).toInt) (cy := (t).toInt) rfl rfl h80
              refine pm_go (g := (127, _, [.int (-1)], _, 0, 0)) rfl ?_
              exact pm_ret rfl (k0 (by omega))
            have h78 := qF_eq (cx := (a &&& 2).toInt) (cy := 0) rfl (by decide) h78
            refine pm_go (g := (106, _, [.int t], _, 0, 0)) rfl ?_
            refine pm_if2 (g := (126, [(5, .int 1), (0, .ref 25), (1, .int t), (2, .int w), (3, .int r), (4, .int a)], [], hq g c1 c2 c3 c4 c5 c6 c7 c8 c9 c10 c11 c12 c13 c14 c15 c16 c17 c18 c19 c20 c21 c22 c23 c24 (hc25 mTy mTm mMn mFn mRn mTn mVn mLr mTr mFl mFm mFp mSc mMp mEn) (hc26 mPa) (hc27 mTo) (hc28 mOt) (hc29 mNa) (hc30 mRe) (hc31 mMa) (hc32 mMy) (hc33 mPm) (hc34 mFy) (hc35 mFa) (hc36 mFr) (hc37 mFo) (hc38 mRt) (hc39 mRm) (hc40 mTt) (hc41 mTi) (hc42 mPl) (hc43 mVr) (hc44 mVf) (hc45 mVc) (hc46 mAr) (hc47 mTc) (hc48 mFt) (hc49 mGo) dyn, 0, 0)) (h := (109, [(5, .int 1), (0, .ref 25), (1, .int t), (2, .int w), (3, .int r), (4, .int a)], [], hq g c1 c2 c3 c4 c5 c6 c7 c8 c9 c10 c11 c12 c13 c14 c15 c16 c17 c18 c19 c20 c21 c22 c23 c24 (hc25 mTy mTm mMn mFn mRn mTn mVn mLr mTr mFl mFm mFp mSc mMp mEn) (hc26 mPa) (hc27 mTo) (hc28 mOt) (hc29 mNa) (hc30 mRe) (hc31 mMa) (hc32 mMy) (hc33 mPm) (hc34 mFy) (hc35 mFa) (hc36 mFr) (hc37 mFo) (hc38 mRt) (hc39 mRm) (hc40 mTt) (hc41 mTi) (hc42 mPl) (hc43 mVr) (hc44 mVf) (hc45 mVc) (hc46 mAr) (hc47 mTc) (hc48 mFt) (hc49 mGo) dyn, 0, 0)) rfl (fun h83 => ?_) (fun h83 => ?_)
            ·
              have h83 := qT_eq (cx := (t).toInt) (cy := 0) rfl (by decide) h83
              refine pm_go (g := (127, _, [.int (-1)], _, 0, 0)) rfl ?_
              exact pm_ret rfl (k0 (by omega))
            have h83 := qF_eq (cx := (t).toInt) (cy := 0) rfl (by decide) h83
            refine pm_go (g := (111, _, [.int 1], _, 0, 0)) rfl ?_
            refine pm_brF (h := (114, [(5, .int 1), (0, .ref 25), (1, .int t), (2, .int w), (3, .int r), (4, .int a)], [], hq g c1 c2 c3 c4 c5 c6 c7 c8 c9 c10 c11 c12 c13 c14 c15 c16 c17 c18 c19 c20 c21 c22 c23 c24 (hc25 mTy mTm mMn mFn mRn mTn mVn mLr mTr mFl mFm mFp mSc mMp mEn) (hc26 mPa) (hc27 mTo) (hc28 mOt) (hc29 mNa) (hc30 mRe) (hc31 mMa) (hc32 mMy) (hc33 mPm) (hc34 mFy) (hc35 mFa) (hc36 mFr) (hc37 mFo) (hc38 mRt) (hc39 mRm) (hc40 mTt) (hc41 mTi) (hc42 mPl) (hc43 mVr) (hc44 mVf) (hc45 mVc) (hc46 mAr) (hc47 mTc) (hc48 mFt) (hc49 mGo) dyn, 0, 0)) rfl ?_
            refine pm_go (g := (116, _, [.int a], _, 0, 0)) rfl ?_
            refine pm_go (g := (117, _, [.int 3, .int a], _, 0, 0)) rfl ?_
            refine pm_go (g := (118, _, [.int (a &&& 3)], _, 0, 0)) rfl ?_
            refine pm_if2 (g := (126, [(5, .int 1), (0, .ref 25), (1, .int t), (2, .int w), (3, .int r), (4, .int a)], [], hq g c1 c2 c3 c4 c5 c6 c7 c8 c9 c10 c11 c12 c13 c14 c15 c16 c17 c18 c19 c20 c21 c22 c23 c24 (hc25 mTy mTm mMn mFn mRn mTn mVn mLr mTr mFl mFm mFp mSc mMp mEn) (hc26 mPa) (hc27 mTo) (hc28 mOt) (hc29 mNa) (hc30 mRe) (hc31 mMa) (hc32 mMy) (hc33 mPm) (hc34 mFy) (hc35 mFa) (hc36 mFr) (hc37 mFo) (hc38 mRt) (hc39 mRm) (hc40 mTt) (hc41 mTi) (hc42 mPl) (hc43 mVr) (hc44 mVf) (hc45 mVc) (hc46 mAr) (hc47 mTc) (hc48 mFt) (hc49 mGo) dyn, 0, 0)) (h := (121, [(5, .int 1), (0, .ref 25), (1, .int t), (2, .int w), (3, .int r), (4, .int a)], [], hq g c1 c2 c3 c4 c5 c6 c7 c8 c9 c10 c11 c12 c13 c14 c15 c16 c17 c18 c19 c20 c21 c22 c23 c24 (hc25 mTy mTm mMn mFn mRn mTn mVn mLr mTr mFl mFm mFp mSc mMp mEn) (hc26 mPa) (hc27 mTo) (hc28 mOt) (hc29 mNa) (hc30 mRe) (hc31 mMa) (hc32 mMy) (hc33 mPm) (hc34 mFy) (hc35 mFa) (hc36 mFr) (hc37 mFo) (hc38 mRt) (hc39 mRm) (hc40 mTt) (hc41 mTi) (hc42 mPl) (hc43 mVr) (hc44 mVf) (hc45 mVc) (hc46 mAr) (hc47 mTc) (hc48 mFt) (hc49 mGo) dyn, 0, 0)) rfl (fun h84 => ?_) (fun h84 => ?_)
            ·
              have h84 := qT_ne (cx := (a &&& 3).toInt) (cy := 0) rfl (by decide) h84
              refine pm_go (g := (127, _, [.int (-1)], _, 0, 0)) rfl ?_
              exact pm_ret rfl (k0 (by omega))
            have h84 := qF_ne (cx := (a &&& 3).toInt) (cy := 0) rfl (by decide) h84
            refine pm_go (g := (122, _, [.int r], _, 0, 0)) rfl ?_
            refine pm_go (g := (123, _, [.int t, .int r], _, 0, 0)) rfl ?_
            refine pm_if2 (g := (128, [(5, .int 1), (0, .ref 25), (1, .int t), (2, .int w), (3, .int r), (4, .int a)], [], hq g c1 c2 c3 c4 c5 c6 c7 c8 c9 c10 c11 c12 c13 c14 c15 c16 c17 c18 c19 c20 c21 c22 c23 c24 (hc25 mTy mTm mMn mFn mRn mTn mVn mLr mTr mFl mFm mFp mSc mMp mEn) (hc26 mPa) (hc27 mTo) (hc28 mOt) (hc29 mNa) (hc30 mRe) (hc31 mMa) (hc32 mMy) (hc33 mPm) (hc34 mFy) (hc35 mFa) (hc36 mFr) (hc37 mFo) (hc38 mRt) (hc39 mRm) (hc40 mTt) (hc41 mTi) (hc42 mPl) (hc43 mVr) (hc44 mVf) (hc45 mVc) (hc46 mAr) (hc47 mTc) (hc48 mFt) (hc49 mGo) dyn, 0, 0)) (h := (126, [(5, .int 1), (0, .ref 25), (1, .int t), (2, .int w), (3, .int r), (4, .int a)], [], hq g c1 c2 c3 c4 c5 c6 c7 c8 c9 c10 c11 c12 c13 c14 c15 c16 c17 c18 c19 c20 c21 c22 c23 c24 (hc25 mTy mTm mMn mFn mRn mTn mVn mLr mTr mFl mFm mFp mSc mMp mEn) (hc26 mPa) (hc27 mTo) (hc28 mOt) (hc29 mNa) (hc30 mRe) (hc31 mMa) (hc32 mMy) (hc33 mPm) (hc34 mFy) (hc35 mFa) (hc36 mFr) (hc37 mFo) (hc38 mRt) (hc39 mRm) (hc40 mTt) (hc41 mTi) (hc42 mPl) (hc43 mVr) (hc44 mVf) (hc45 mVc) (hc46 mAr) (hc47 mTc) (hc48 mFt) (hc49 mGo) dyn, 0, 0)) rfl (fun h85 => ?_) (fun h85 => ?_)
            ·
              have h85 := qT_eq (cx := (r).toInt) (cy := (t).toInt) rfl rfl h85
              refine pm_go (g := (129, _, [.ref 25], _, 0, 0)) rfl ?_
              refine pm_go (g := (132, _, [.int mTn], _, 0, 0)) rfl ?_
              refine pm_if2 (g := (142, [(5, .int 1), (0, .ref 25), (1, .int t), (2, .int w), (3, .int r), (4, .int a)], [], hq g c1 c2 c3 c4 c5 c6 c7 c8 c9 c10 c11 c12 c13 c14 c15 c16 c17 c18 c19 c20 c21 c22 c23 c24 (hc25 mTy mTm mMn mFn mRn mTn mVn mLr mTr mFl mFm mFp mSc mMp mEn) (hc26 mPa) (hc27 mTo) (hc28 mOt) (hc29 mNa) (hc30 mRe) (hc31 mMa) (hc32 mMy) (hc33 mPm) (hc34 mFy) (hc35 mFa) (hc36 mFr) (hc37 mFo) (hc38 mRt) (hc39 mRm) (hc40 mTt) (hc41 mTi) (hc42 mPl) (hc43 mVr) (hc44 mVf) (hc45 mVc) (hc46 mAr) (hc47 mTc) (hc48 mFt) (hc49 mGo) dyn, 0, 0)) (h := (135, [(5, .int 1), (0, .ref 25), (1, .int t), (2, .int w), (3, .int r), (4, .int a)], [], hq g c1 c2 c3 c4 c5 c6 c7 c8 c9 c10 c11 c12 c13 c14 c15 c16 c17 c18 c19 c20 c21 c22 c23 c24 (hc25 mTy mTm mMn mFn mRn mTn mVn mLr mTr mFl mFm mFp mSc mMp mEn) (hc26 mPa) (hc27 mTo) (hc28 mOt) (hc29 mNa) (hc30 mRe) (hc31 mMa) (hc32 mMy) (hc33 mPm) (hc34 mFy) (hc35 mFa) (hc36 mFr) (hc37 mFo) (hc38 mRt) (hc39 mRm) (hc40 mTt) (hc41 mTi) (hc42 mPl) (hc43 mVr) (hc44 mVf) (hc45 mVc) (hc46 mAr) (hc47 mTc) (hc48 mFt) (hc49 mGo) dyn, 0, 0)) rfl (fun h86 => ?_) (fun h86 => ?_)
              ·
                have h86 := qT_gt (cx := (mTn).toInt) (cy := 0) rfl (by decide) h86
                refine pm_go (g := (144, _, [.int (-3)], _, 0, 0)) rfl ?_
                exact pm_ret rfl (k1 (by omega))
              have h86 := qF_gt (cx := (mTn).toInt) (cy := 0) rfl (by decide) h86
              refine pm_go (g := (136, _, [.ref 25], _, 0, 0)) rfl ?_
              refine pm_go (g := (139, _, [.int mVn], _, 0, 0)) rfl ?_
              refine pm_if2 (g := (145, [(5, .int 1), (0, .ref 25), (1, .int t), (2, .int w), (3, .int r), (4, .int a)], [], hq g c1 c2 c3 c4 c5 c6 c7 c8 c9 c10 c11 c12 c13 c14 c15 c16 c17 c18 c19 c20 c21 c22 c23 c24 (hc25 mTy mTm mMn mFn mRn mTn mVn mLr mTr mFl mFm mFp mSc mMp mEn) (hc26 mPa) (hc27 mTo) (hc28 mOt) (hc29 mNa) (hc30 mRe) (hc31 mMa) (hc32 mMy) (hc33 mPm) (hc34 mFy) (hc35 mFa) (hc36 mFr) (hc37 mFo) (hc38 mRt) (hc39 mRm) (hc40 mTt) (hc41 mTi) (hc42 mPl) (hc43 mVr) (hc44 mVf) (hc45 mVc) (hc46 mAr) (hc47 mTc) (hc48 mFt) (hc49 mGo) dyn, 0, 0)) (h := (142, [(5, .int 1), (0, .ref 25), (1, .int t), (2, .int w), (3, .int r), (4, .int a)], [], hq g c1 c2 c3 c4 c5 c6 c7 c8 c9 c10 c11 c12 c13 c14 c15 c16 c17 c18 c19 c20 c21 c22 c23 c24 (hc25 mTy mTm mMn mFn mRn mTn mVn mLr mTr mFl mFm mFp mSc mMp mEn) (hc26 mPa) (hc27 mTo) (hc28 mOt) (hc29 mNa) (hc30 mRe) (hc31 mMa) (hc32 mMy) (hc33 mPm) (hc34 mFy) (hc35 mFa) (hc36 mFr) (hc37 mFo) (hc38 mRt) (hc39 mRm) (hc40 mTt) (hc41 mTi) (hc42 mPl) (hc43 mVr) (hc44 mVf) (hc45 mVc) (hc46 mAr) (hc47 mTc) (hc48 mFt) (hc49 mGo) dyn, 0, 0)) rfl (fun h87 => ?_) (fun h87 => ?_)
              ·
                have h87 := qT_le (cx := (mVn).toInt) (cy := 0) rfl (by decide) h87
                refine pm_go (g := (146, _, [.int 0], _, 0, 0)) rfl ?_
                refine pm_go (g := (148, [(6, .int 0), (5, .int 1), (0, .ref 25), (1, .int t), (2, .int w), (3, .int r), (4, .int a)], [], _, 0, 0)) rfl ?_
                exact w_member_loop t w r a (1) p1 p2 p3 41 0 (by omega) (by omega) (fun h => k2 ⟨by omega, by obtain ⟨j, q1, q2⟩ := h; exact ⟨j, q2⟩⟩) (fun h => k3 ⟨by omega, fun j g => h.1 j (Nat.zero_le j) g, h.2⟩) (fun h => k4 ⟨by omega, fun j g => h.1 j (Nat.zero_le j) g, h.2⟩)
              have h87 := qF_le (cx := (mVn).toInt) (cy := 0) rfl (by decide) h87
              refine pm_go (g := (144, [(5, .int 1), (0, .ref 25), (1, .int t), (2, .int w), (3, .int r), (4, .int a)], [.int (-3)], _, 0, 0)) rfl ?_
              exact pm_ret rfl (k1 (by omega))
            have h85 := qF_eq (cx := (r).toInt) (cy := (t).toInt) rfl rfl h85
            refine pm_go (g := (127, _, [.int (-1)], _, 0, 0)) rfl ?_
            exact pm_ret rfl (k0 (by omega))
          have h76 := qF_eq (cx := (a &&& 4).toInt) (cy := 0) rfl (by decide) h76
          refine pm_go (g := (66, _, [.ref 25], _, 0, 0)) rfl ?_
          refine pm_go (g := (69, _, [.int mTm], _, 0, 0)) rfl ?_
          refine pm_if2 (g := (88, [(5, .int 1), (0, .ref 25), (1, .int t), (2, .int w), (3, .int r), (4, .int a)], [], hq g c1 c2 c3 c4 c5 c6 c7 c8 c9 c10 c11 c12 c13 c14 c15 c16 c17 c18 c19 c20 c21 c22 c23 c24 (hc25 mTy mTm mMn mFn mRn mTn mVn mLr mTr mFl mFm mFp mSc mMp mEn) (hc26 mPa) (hc27 mTo) (hc28 mOt) (hc29 mNa) (hc30 mRe) (hc31 mMa) (hc32 mMy) (hc33 mPm) (hc34 mFy) (hc35 mFa) (hc36 mFr) (hc37 mFo) (hc38 mRt) (hc39 mRm) (hc40 mTt) (hc41 mTi) (hc42 mPl) (hc43 mVr) (hc44 mVf) (hc45 mVc) (hc46 mAr) (hc47 mTc) (hc48 mFt) (hc49 mGo) dyn, 0, 0)) (h := (72, [(5, .int 1), (0, .ref 25), (1, .int t), (2, .int w), (3, .int r), (4, .int a)], [], hq g c1 c2 c3 c4 c5 c6 c7 c8 c9 c10 c11 c12 c13 c14 c15 c16 c17 c18 c19 c20 c21 c22 c23 c24 (hc25 mTy mTm mMn mFn mRn mTn mVn mLr mTr mFl mFm mFp mSc mMp mEn) (hc26 mPa) (hc27 mTo) (hc28 mOt) (hc29 mNa) (hc30 mRe) (hc31 mMa) (hc32 mMy) (hc33 mPm) (hc34 mFy) (hc35 mFa) (hc36 mFr) (hc37 mFo) (hc38 mRt) (hc39 mRm) (hc40 mTt) (hc41 mTi) (hc42 mPl) (hc43 mVr) (hc44 mVf) (hc45 mVc) (hc46 mAr) (hc47 mTc) (hc48 mFt) (hc49 mGo) dyn, 0, 0)) rfl (fun h88 => ?_) (fun h88 => ?_)
          ·
            have h88 := qT_eq (cx := (mTm).toInt) (cy := 0) rfl (by decide) h88
            refine pm_go (g := (89, _, [.int (-1)], _, 0, 0)) rfl ?_
            exact pm_ret rfl (k0 (by omega))
          have h88 := qF_eq (cx := (mTm).toInt) (cy := 0) rfl (by decide) h88
          refine pm_go (g := (73, _, [.ref 25], _, 0, 0)) rfl ?_
          refine pm_go (g := (76, _, [.ref 27], _, 0, 0)) rfl ?_
          refine pm_go (g := (77, _, [.ref 25, .ref 27], _, 0, 0)) rfl ?_
          refine pm_go (g := (80, _, [.int mTm, .ref 27], _, 0, 0)) rfl ?_
          refine pm_go (g := (81, _, [.int 1, .int mTm, .ref 27], _, 0, 0)) rfl ?_
          refine pm_go (g := (82, _, [.int (mTm - 1), .ref 27], _, 0, 0)) rfl ?_
          try have h89 : (mTm - 1).toInt = (mTm).toInt - 1 := iSub (x := (mTm).toInt) (y := 1) rfl (by decide) (by omega) (by omega)
          refine pm_sd (g := (83, _, [.int (mTo (mTm - 1).toNatClampNeg)], _, 0, 0)) rfl (pm_inI (by omega) (by omega)) ?_
          refine pm_go (g := (85, _, [.int 20, .int (mTo (mTm - 1).toNatClampNeg)], _, 0, 0)) rfl ?_
          refine pm_if2 (g := (90, [(5, .int 1), (0, .ref 25), (1, .int t), (2, .int w), (3, .int r), (4, .int a)], [], hq g c1 c2 c3 c4 c5 c6 c7 c8 c9 c10 c11 c12 c13 c14 c15 c16 c17 c18 c19 c20 c21 c22 c23 c24 (hc25 mTy mTm mMn mFn mRn mTn mVn mLr mTr mFl mFm mFp mSc mMp mEn) (hc26 mPa) (hc27 mTo) (hc28 mOt) (hc29 mNa) (hc30 mRe) (hc31 mMa) (hc32 mMy) (hc33 mPm) (hc34 mFy) (hc35 mFa) (hc36 mFr) (hc37 mFo) (hc38 mRt) (hc39 mRm) (hc40 mTt) (hc41 mTi) (hc42 mPl) (hc43 mVr) (hc44 mVf) (hc45 mVc) (hc46 mAr) (hc47 mTc) (hc48 mFt) (hc49 mGo) dyn, 0, 0)) (h := (88, [(5, .int 1), (0, .ref 25), (1, .int t), (2, .int w), (3, .int r), (4, .int a)], [], hq g c1 c2 c3 c4 c5 c6 c7 c8 c9 c10 c11 c12 c13 c14 c15 c16 c17 c18 c19 c20 c21 c22 c23 c24 (hc25 mTy mTm mMn mFn mRn mTn mVn mLr mTr mFl mFm mFp mSc mMp mEn) (hc26 mPa) (hc27 mTo) (hc28 mOt) (hc29 mNa) (hc30 mRe) (hc31 mMa) (hc32 mMy) (hc33 mPm) (hc34 mFy) (hc35 mFa) (hc36 mFr) (hc37 mFo) (hc38 mRt) (hc39 mRm) (hc40 mTt) (hc41 mTi) (hc42 mPl) (hc43 mVr) (hc44 mVf) (hc45 mVc) (hc46 mAr) (hc47 mTc) (hc48 mFt) (hc49 mGo) dyn, 0, 0)) rfl (fun h90 => ?_) (fun h90 => ?_)
          ·
            have h90 := qT_ge (cx := (mTo (mTm - 1).toNatClampNeg).toInt) (cy := 20) rfl (by decide) h90
            refine pm_go (g := (92, _, [.int a], _, 0, 0)) rfl ?_
            refine pm_go (g := (93, _, [.int 3, .int a], _, 0, 0)) rfl ?_
            refine pm_go (g := (94, _, [.int (a &&& 3)], _, 0, 0)) rfl ?_
            refine pm_go (g := (95, _, [.int 3, .int (a &&& 3)], _, 0, 0)) rfl ?_
            refine pm_if2 (g := (126, [(5, .int 1), (0, .ref 25), (1, .int t), (2, .int w), (3, .int r), (4, .int a)], [], hq g c1 c2 c3 c4 c5 c6 c7 c8 c9 c10 c11 c12 c13 c14 c15 c16 c17 c18 c19 c20 c21 c22 c23 c24 (hc25 mTy mTm mMn mFn mRn mTn mVn mLr mTr mFl mFm mFp mSc mMp mEn) (hc26 mPa) (hc27 mTo) (hc28 mOt) (hc29 mNa) (hc30 mRe) (hc31 mMa) (hc32 mMy) (hc33 mPm) (hc34 mFy) (hc35 mFa) (hc36 mFr) (hc37 mFo) (hc38 mRt) (hc39 mRm) (hc40 mTt) (hc41 mTi) (hc42 mPl) (hc43 mVr) (hc44 mVf) (hc45 mVc) (hc46 mAr) (hc47 mTc) (hc48 mFt) (hc49 mGo) dyn, 0, 0)) (h := (98, [(5, .int 1), (0, .ref 25), (1, .int t), (2, .int w), (3, .int r), (4, .int a)], [], hq g c1 c2 c3 c4 c5 c6 c7 c8 c9 c10 c11 c12 c13 c14 c15 c16 c17 c18 c19 c20 c21 c22 c23 c24 (hc25 mTy mTm mMn mFn mRn mTn mVn mLr mTr mFl mFm mFp mSc mMp mEn) (hc26 mPa) (hc27 mTo) (hc28 mOt) (hc29 mNa) (hc30 mRe) (hc31 mMa) (hc32 mMy) (hc33 mPm) (hc34 mFy) (hc35 mFa) (hc36 mFr) (hc37 mFo) (hc38 mRt) (hc39 mRm) (hc40 mTt) (hc41 mTi) (hc42 mPl) (hc43 mVr) (hc44 mVf) (hc45 mVc) (hc46 mAr) (hc47 mTc) (hc48 mFt) (hc49 mGo) dyn, 0, 0)) rfl (fun h91 => ?_) (fun h91 => ?_)
            ·
              have h91 := qT_eq (cx := (a &&& 3).toInt) (cy := 3) rfl (by decide) h91
              refine pm_go (g := (127, _, [.int (-1)], _, 0, 0)) rfl ?_
              exact pm_ret rfl (k0 (by omega))
            have h91 := qF_eq (cx := (a &&& 3).toInt) (cy := 3) rfl (by decide) h91
            refine pm_go (g := (100, _, [.int a], _, 0, 0)) rfl ?_
            refine pm_go (g := (101, _, [.int 2, .int a], _, 0, 0)) rfl ?_
            refine pm_go (g := (102, _, [.int (a &&& 2)], _, 0, 0)) rfl ?_
            refine pm_if2 (g := (109, [(5, .int 1), (0, .ref 25), (1, .int t), (2, .int w), (3, .int r), (4, .int a)], [], hq g c1 c2 c3 c4 c5 c6 c7 c8 c9 c10 c11 c12 c13 c14 c15 c16 c17 c18 c19 c20 c21 c22 c23 c24 (hc25 mTy mTm mMn mFn mRn mTn mVn mLr mTr mFl mFm mFp mSc mMp mEn) (hc26 mPa) (hc27 mTo) (hc28 mOt) (hc29 mNa) (hc30 mRe) (hc31 mMa) (hc32 mMy) (hc33 mPm) (hc34 mFy) (hc35 mFa) (hc36 mFr) (hc37 mFo) (hc38 mRt) (hc39 mRm) (hc40 mTt) (hc41 mTi) (hc42 mPl) (hc43 mVr) (hc44 mVf) (hc45 mVc) (hc46 mAr) (hc47 mTc) (hc48 mFt) (hc49 mGo) dyn, 0, 0)) (h := (105, [(5, .int 1), (0, .ref 25), (1, .int t), (2, .int w), (3, .int r), (4, .int a)], [], hq g c1 c2 c3 c4 c5 c6 c7 c8 c9 c10 c11 c12 c13 c14 c15 c16 c17 c18 c19 c20 c21 c22 c23 c24 (hc25 mTy mTm mMn mFn mRn mTn mVn mLr mTr mFl mFm mFp mSc mMp mEn) (hc26 mPa) (hc27 mTo) (hc28 mOt) (hc29 mNa) (hc30 mRe) (hc31 mMa) (hc32 mMy) (hc33 mPm) (hc34 mFy) (hc35 mFa) (hc36 mFr) (hc37 mFo) (hc38 mRt) (hc39 mRm) (hc40 mTt) (hc41 mTi) (hc42 mPl) (hc43 mVr) (hc44 mVf) (hc45 mVc) (hc46 mAr) (hc47 mTc) (hc48 mFt) (hc49 mGo) dyn, 0, 0)) rfl (fun h92 => ?_) (fun h92 => ?_)
            ·
              have h92 := qT_eq (cx := (a &&& 2).toInt) (cy := 0) rfl (by decide) h92
              refine pm_go (g := (111, _, [.int 1], _, 0, 0)) rfl ?_
              refine pm_brF (h := (114, [(5, .int 1), (0, .ref 25), (1, .int t), (2, .int w), (3, .int r), (4, .int a)], [], hq g c1 c2 c3 c4 c5 c6 c7 c8 c9 c10 c11 c12 c13 c14 c15 c16 c17 c18 c19 c20 c21 c22 c23 c24 (hc25 mTy mTm mMn mFn mRn mTn mVn mLr mTr mFl mFm mFp mSc mMp mEn) (hc26 mPa) (hc27 mTo) (hc28 mOt) (hc29 mNa) (hc30 mRe) (hc31 mMa) (hc32 mMy) (hc33 mPm) (hc34 mFy) (hc35 mFa) (hc36 mFr) (hc37 mFo) (hc38 mRt) (hc39 mRm) (hc40 mTt) (hc41 mTi) (hc42 mPl) (hc43 mVr) (hc44 mVf) (hc45 mVc) (hc46 mAr) (hc47 mTc) (hc48 mFt) (hc49 mGo) dyn, 0, 0)) rfl ?_
              refine pm_go (g := (116, _, [.int a], _, 0, 0)) rfl ?_
              refine pm_go (g := (117, _, [.int 3, .int a], _, 0, 0)) rfl ?_
              refine pm_go (g := (118, _, [.int (a &&& 3)], _, 0, 0)) rfl ?_
              refine pm_if2 (g := (126, [(5, .int 1), (0, .ref 25), (1, .int t), (2, .int w), (3, .int r), (4, .int a)], [], hq g c1 c2 c3 c4 c5 c6 c7 c8 c9 c10 c11 c12 c13 c14 c15 c16 c17 c18 c19 c20 c21 c22 c23 c24 (hc25 mTy mTm mMn mFn mRn mTn mVn mLr mTr mFl mFm mFp mSc mMp mEn) (hc26 mPa) (hc27 mTo) (hc28 mOt) (hc29 mNa) (hc30 mRe) (hc31 mMa) (hc32 mMy) (hc33 mPm) (hc34 mFy) (hc35 mFa) (hc36 mFr) (hc37 mFo) (hc38 mRt) (hc39 mRm) (hc40 mTt) (hc41 mTi) (hc42 mPl) (hc43 mVr) (hc44 mVf) (hc45 mVc) (hc46 mAr) (hc47 mTc) (hc48 mFt) (hc49 mGo) dyn, 0, 0)) (h := (121, [(5, .int 1), (0, .ref 25), (1, .int t), (2, .int w), (3, .int r), (4, .int a)], [], hq g c1 c2 c3 c4 c5 c6 c7 c8 c9 c10 c11 c12 c13 c14 c15 c16 c17 c18 c19 c20 c21 c22 c23 c24 (hc25 mTy mTm mMn mFn mRn mTn mVn mLr mTr mFl mFm mFp mSc mMp mEn) (hc26 mPa) (hc27 mTo) (hc28 mOt) (hc29 mNa) (hc30 mRe) (hc31 mMa) (hc32 mMy) (hc33 mPm) (hc34 mFy) (hc35 mFa) (hc36 mFr) (hc37 mFo) (hc38 mRt) (hc39 mRm) (hc40 mTt) (hc41 mTi) (hc42 mPl) (hc43 mVr) (hc44 mVf) (hc45 mVc) (hc46 mAr) (hc47 mTc) (hc48 mFt) (hc49 mGo) dyn, 0, 0)) rfl (fun h93 => ?_) (fun h93 => ?_)
              ·
                have h93 := qT_ne (cx := (a &&& 3).toInt) (cy := 0) rfl (by decide) h93
                refine pm_go (g := (127, _, [.int (-1)], _, 0, 0)) rfl ?_
                exact pm_ret rfl (k0 (by omega))
              have h93 := qF_ne (cx := (a &&& 3).toInt) (cy := 0) rfl (by decide) h93
              refine pm_go (g := (122, _, [.int r], _, 0, 0)) rfl ?_
              refine pm_go (g := (123, _, [.int t, .int r], _, 0, 0)) rfl ?_
              refine pm_if2 (g := (128, [(5, .int 1), (0, .ref 25), (1, .int t), (2, .int w), (3, .int r), (4, .int a)], [], hq g c1 c2 c3 c4 c5 c6 c7 c8 c9 c10 c11 c12 c13 c14 c15 c16 c17 c18 c19 c20 c21 c22 c23 c24 (hc25 mTy mTm mMn mFn mRn mTn mVn mLr mTr mFl mFm mFp mSc mMp mEn) (hc26 mPa) (hc27 mTo) (hc28 mOt) (hc29 mNa) (hc30 mRe) (hc31 mMa) (hc32 mMy) (hc33 mPm) (hc34 mFy) (hc35 mFa) (hc36 mFr) (hc37 mFo) (hc38 mRt) (hc39 mRm) (hc40 mTt) (hc41 mTi) (hc42 mPl) (hc43 mVr) (hc44 mVf) (hc45 mVc) (hc46 mAr) (hc47 mTc) (hc48 mFt) (hc49 mGo) dyn, 0, 0)) (h := (126, [(5, .int 1), (0, .ref 25), (1, .int t), (2, .int w), (3, .int r), (4, .int a)], [], hq g c1 c2 c3 c4 c5 c6 c7 c8 c9 c10 c11 c12 c13 c14 c15 c16 c17 c18 c19 c20 c21 c22 c23 c24 (hc25 mTy mTm mMn mFn mRn mTn mVn mLr mTr mFl mFm mFp mSc mMp mEn) (hc26 mPa) (hc27 mTo) (hc28 mOt) (hc29 mNa) (hc30 mRe) (hc31 mMa) (hc32 mMy) (hc33 mPm) (hc34 mFy) (hc35 mFa) (hc36 mFr) (hc37 mFo) (hc38 mRt) (hc39 mRm) (hc40 mTt) (hc41 mTi) (hc42 mPl) (hc43 mVr) (hc44 mVf) (hc45 mVc) (hc46 mAr) (hc47 mTc) (hc48 mFt) (hc49 mGo) dyn, 0, 0)) rfl (fun h94 => ?_) (fun h94 => ?_)
              ·
                have h94 := qT_eq (cx := (r).toInt) (cy := (t).toInt) rfl rfl h94
                refine pm_go (g := (129, _, [.ref 25], _, 0, 0)) rfl ?_
                refine pm_go (g := (132, _, [.int mTn], _, 0, 0)) rfl ?_
                refine pm_if2 (g := (142, [(5, .int 1), (0, .ref 25), (1, .int t), (2, .int w), (3, .int r), (4, .int a)], [], hq g c1 c2 c3 c4 c5 c6 c7 c8 c9 c10 c11 c12 c13 c14 c15 c16 c17 c18 c19 c20 c21 c22 c23 c24 (hc25 mTy mTm mMn mFn mRn mTn mVn mLr mTr mFl mFm mFp mSc mMp mEn) (hc26 mPa) (hc27 mTo) (hc28 mOt) (hc29 mNa) (hc30 mRe) (hc31 mMa) (hc32 mMy) (hc33 mPm) (hc34 mFy) (hc35 mFa) (hc36 mFr) (hc37 mFo) (hc38 mRt) (hc39 mRm) (hc40 mTt) (hc41 mTi) (hc42 mPl) (hc43 mVr) (hc44 mVf) (hc45 mVc) (hc46 mAr) (hc47 mTc) (hc48 mFt) (hc49 mGo) dyn, 0, 0)) (h := (135, [(5, .int 1), (0, .ref 25), (1, .int t), (2, .int w), (3, .int r), (4, .int a)], [], hq g c1 c2 c3 c4 c5 c6 c7 c8 c9 c10 c11 c12 c13 c14 c15 c16 c17 c18 c19 c20 c21 c22 c23 c24 (hc25 mTy mTm mMn mFn mRn mTn mVn mLr mTr mFl mFm mFp mSc mMp mEn) (hc26 mPa) (hc27 mTo) (hc28 mOt) (hc29 mNa) (hc30 mRe) (hc31 mMa) (hc32 mMy) (hc33 mPm) (hc34 mFy) (hc35 mFa) (hc36 mFr) (hc37 mFo) (hc38 mRt) (hc39 mRm) (hc40 mTt) (hc41 mTi) (hc42 mPl) (hc43 mVr) (hc44 mVf) (hc45 mVc) (hc46 mAr) (hc47 mTc) (hc48 mFt) (hc49 mGo) dyn, 0, 0)) rfl (fun h95 => ?_) (fun h95 => ?_)
                ·
                  have h95 := qT_gt (cx := (mTn).toInt) (cy := 0) rfl (by decide) h95
                  refine pm_go (g := (144, _, [.int (-3)], _, 0, 0)) rfl ?_
                  exact pm_ret rfl (k1 (by omega))
                have h95 := qF_gt (cx := (mTn).toInt) (cy := 0) rfl (by decide) h95
                refine pm_go (g := (136, _, [.ref 25], _, 0, 0)) rfl ?_
                refine pm_go (g := (139, _, [.int mVn], _, 0, 0)) rfl ?_
                refine pm_if2 (g := (145, [(5, .int 1), (0, .ref 25), (1, .int t), (2, .int w), (3, .int r), (4, .int a)], [], hq g c1 c2 c3 c4 c5 c6 c7 c8 c9 c10 c11 c12 c13 c14 c15 c16 c17 c18 c19 c20 c21 c22 c23 c24 (hc25 mTy mTm mMn mFn mRn mTn mVn mLr mTr mFl mFm mFp mSc mMp mEn) (hc26 mPa) (hc27 mTo) (hc28 mOt) (hc29 mNa) (hc30 mRe) (hc31 mMa) (hc32 mMy) (hc33 mPm) (hc34 mFy) (hc35 mFa) (hc36 mFr) (hc37 mFo) (hc38 mRt) (hc39 mRm) (hc40 mTt) (hc41 mTi) (hc42 mPl) (hc43 mVr) (hc44 mVf) (hc45 mVc) (hc46 mAr) (hc47 mTc) (hc48 mFt) (hc49 mGo) dyn, 0, 0)) (h := (142, [(5, .int 1), (0, .ref 25), (1, .int t), (2, .int w), (3, .int r), (4, .int a)], [], hq g c1 c2 c3 c4 c5 c6 c7 c8 c9 c10 c11 c12 c13 c14 c15 c16 c17 c18 c19 c20 c21 c22 c23 c24 (hc25 mTy mTm mMn mFn mRn mTn mVn mLr mTr mFl mFm mFp mSc mMp mEn) (hc26 mPa) (hc27 mTo) (hc28 mOt) (hc29 mNa) (hc30 mRe) (hc31 mMa) (hc32 mMy) (hc33 mPm) (hc34 mFy) (hc35 mFa) (hc36 mFr) (hc37 mFo) (hc38 mRt) (hc39 mRm) (hc40 mTt) (hc41 mTi) (hc42 mPl) (hc43 mVr) (hc44 mVf) (hc45 mVc) (hc46 mAr) (hc47 mTc) (hc48 mFt) (hc49 mGo) dyn, 0, 0)) rfl (fun h96 => ?_) (fun h96 => ?_)
                ·
                  have h96 := qT_le (cx := (mVn).toInt) (cy := 0) rfl (by decide) h96
                  refine pm_go (g := (146, _, [.int 0], _, 0, 0)) rfl ?_
                  refine pm_go (g := (148, [(6, .int 0), (5, .int 1), (0, .ref 25), (1, .int t), (2, .int w), (3, .int r), (4, .int a)], [], _, 0, 0)) rfl ?_
                  exact w_member_loop t w r a (1) p1 p2 p3 41 0 (by omega) (by omega) (fun h => k2 ⟨by omega, by obtain ⟨j, q1, q2⟩ := h; exact ⟨j, q2⟩⟩) (fun h => k3 ⟨by omega, fun j g => h.1 j (Nat.zero_le j) g, h.2⟩) (fun h => k4 ⟨by omega, fun j g => h.1 j (Nat.zero_le j) g, h.2⟩)
                have h96 := qF_le (cx := (mVn).toInt) (cy := 0) rfl (by decide) h96
                refine pm_go (g := (144, [(5, .int 1), (0, .ref 25), (1, .int t), (2, .int w), (3, .int r), (4, .int a)], [.int (-3)], _, 0, 0)) rfl ?_
                exact pm_ret rfl (k1 (by omega))
              have h94 := qF_eq (cx := (r).toInt) (cy := (t).toInt) rfl rfl h94
              refine pm_go (g := (127, _, [.int (-1)], _, 0, 0)) rfl ?_
              exact pm_ret rfl (k0 (by omega))
            have h92 := qF_eq (cx := (a &&& 2).toInt) (cy := 0) rfl (by decide) h92
            refine pm_go (g := (106, _, [.int t], _, 0, 0)) rfl ?_
            refine pm_if2 (g := (126, [(5, .int 1), (0, .ref 25), (1, .int t), (2, .int w), (3, .int r), (4, .int a)], [], hq g c1 c2 c3 c4 c5 c6 c7 c8 c9 c10 c11 c12 c13 c14 c15 c16 c17 c18 c19 c20 c21 c22 c23 c24 (hc25 mTy mTm mMn mFn mRn mTn mVn mLr mTr mFl mFm mFp mSc mMp mEn) (hc26 mPa) (hc27 mTo) (hc28 mOt) (hc29 mNa) (hc30 mRe) (hc31 mMa) (hc32 mMy) (hc33 mPm) (hc34 mFy) (hc35 mFa) (hc36 mFr) (hc37 mFo) (hc38 mRt) (hc39 mRm) (hc40 mTt) (hc41 mTi) (hc42 mPl) (hc43 mVr) (hc44 mVf) (hc45 mVc) (hc46 mAr) (hc47 mTc) (hc48 mFt) (hc49 mGo) dyn, 0, 0)) (h := (109, [(5, .int 1), (0, .ref 25), (1, .int t), (2, .int w), (3, .int r), (4, .int a)], [], hq g c1 c2 c3 c4 c5 c6 c7 c8 c9 c10 c11 c12 c13 c14 c15 c16 c17 c18 c19 c20 c21 c22 c23 c24 (hc25 mTy mTm mMn mFn mRn mTn mVn mLr mTr mFl mFm mFp mSc mMp mEn) (hc26 mPa) (hc27 mTo) (hc28 mOt) (hc29 mNa) (hc30 mRe) (hc31 mMa) (hc32 mMy) (hc33 mPm) (hc34 mFy) (hc35 mFa) (hc36 mFr) (hc37 mFo) (hc38 mRt) (hc39 mRm) (hc40 mTt) (hc41 mTi) (hc42 mPl) (hc43 mVr) (hc44 mVf) (hc45 mVc) (hc46 mAr) (hc47 mTc) (hc48 mFt) (hc49 mGo) dyn, 0, 0)) rfl (fun h97 => ?_) (fun h97 => ?_)
            ·
              have h97 := qT_eq (cx := (t).toInt) (cy := 0) rfl (by decide) h97
              refine pm_go (g := (127, _, [.int (-1)], _, 0, 0)) rfl ?_
              exact pm_ret rfl (k0 (by omega))
            have h97 := qF_eq (cx := (t).toInt) (cy := 0) rfl (by decide) h97
            refine pm_go (g := (111, _, [.int 1], _, 0, 0)) rfl ?_
            refine pm_brF (h := (114, [(5, .int 1), (0, .ref 25), (1, .int t), (2, .int w), (3, .int r), (4, .int a)], [], hq g c1 c2 c3 c4 c5 c6 c7 c8 c9 c10 c11 c12 c13 c14 c15 c16 c17 c18 c19 c20 c21 c22 c23 c24 (hc25 mTy mTm mMn mFn mRn mTn mVn mLr mTr mFl mFm mFp mSc mMp mEn) (hc26 mPa) (hc27 mTo) (hc28 mOt) (hc29 mNa) (hc30 mRe) (hc31 mMa) (hc32 mMy) (hc33 mPm) (hc34 mFy) (hc35 mFa) (hc36 mFr) (hc37 mFo) (hc38 mRt) (hc39 mRm) (hc40 mTt) (hc41 mTi) (hc42 mPl) (hc43 mVr) (hc44 mVf) (hc45 mVc) (hc46 mAr) (hc47 mTc) (hc48 mFt) (hc49 mGo) dyn, 0, 0)) rfl ?_
            refine pm_go (g := (116, _, [.int a], _, 0, 0)) rfl ?_
            refine pm_go (g := (117, _, [.int 3, .int a], _, 0, 0)) rfl ?_
            refine pm_go (g := (118, _, [.int (a &&& 3)], _, 0, 0)) rfl ?_
            refine pm_if2 (g := (126, [(5, .int 1), (0, .ref 25), (1, .int t), (2, .int w), (3, .int r), (4, .int a)], [], hq g c1 c2 c3 c4 c5 c6 c7 c8 c9 c10 c11 c12 c13 c14 c15 c16 c17 c18 c19 c20 c21 c22 c23 c24 (hc25 mTy mTm mMn mFn mRn mTn mVn mLr mTr mFl mFm mFp mSc mMp mEn) (hc26 mPa) (hc27 mTo) (hc28 mOt) (hc29 mNa) (hc30 mRe) (hc31 mMa) (hc32 mMy) (hc33 mPm) (hc34 mFy) (hc35 mFa) (hc36 mFr) (hc37 mFo) (hc38 mRt) (hc39 mRm) (hc40 mTt) (hc41 mTi) (hc42 mPl) (hc43 mVr) (hc44 mVf) (hc45 mVc) (hc46 mAr) (hc47 mTc) (hc48 mFt) (hc49 mGo) dyn, 0, 0)) (h := (121, [(5, .int 1), (0, .ref 25), (1, .int t), (2, .int w), (3, .int r), (4, .int a)], [], hq g c1 c2 c3 c4 c5 c6 c7 c8 c9 c10 c11 c12 c13 c14 c15 c16 c17 c18 c19 c20 c21 c22 c23 c24 (hc25 mTy mTm mMn mFn mRn mTn mVn mLr mTr mFl mFm mFp mSc mMp mEn) (hc26 mPa) (hc27 mTo) (hc28 mOt) (hc29 mNa) (hc30 mRe) (hc31 mMa) (hc32 mMy) (hc33 mPm) (hc34 mFy) (hc35 mFa) (hc36 mFr) (hc37 mFo) (hc38 mRt) (hc39 mRm) (hc40 mTt) (hc41 mTi) (hc42 mPl) (hc43 mVr) (hc44 mVf) (hc45 mVc) (hc46 mAr) (hc47 mTc) (hc48 mFt) (hc49 mGo) dyn, 0, 0)) rfl (fun h98 => ?_) (fun h98 => ?_)
            ·
              have h98 := qT_ne (cx := (a &&& 3).toInt) (cy := 0) rfl (by decide) h98
              refine pm_go (g := (127, _, [.int (-1)], _, 0, 0)) rfl ?_
              exact pm_ret rfl (k0 (by omega))
            have h98 := qF_ne (cx := (a &&& 3).toInt) (cy := 0) rfl (by decide) h98
            refine pm_go (g := (122, _, [.int r], _, 0, 0)) rfl ?_
            refine pm_go (g := (123, _, [.int t, .int r], _, 0, 0)) rfl ?_
            refine pm_if2 (g := (128, [(5, .int 1), (0, .ref 25), (1, .int t), (2, .int w), (3, .int r), (4, .int a)], [], hq g c1 c2 c3 c4 c5 c6 c7 c8 c9 c10 c11 c12 c13 c14 c15 c16 c17 c18 c19 c20 c21 c22 c23 c24 (hc25 mTy mTm mMn mFn mRn mTn mVn mLr mTr mFl mFm mFp mSc mMp mEn) (hc26 mPa) (hc27 mTo) (hc28 mOt) (hc29 mNa) (hc30 mRe) (hc31 mMa) (hc32 mMy) (hc33 mPm) (hc34 mFy) (hc35 mFa) (hc36 mFr) (hc37 mFo) (hc38 mRt) (hc39 mRm) (hc40 mTt) (hc41 mTi) (hc42 mPl) (hc43 mVr) (hc44 mVf) (hc45 mVc) (hc46 mAr) (hc47 mTc) (hc48 mFt) (hc49 mGo) dyn, 0, 0)) (h := (126, [(5, .int 1), (0, .ref 25), (1, .int t), (2, .int w), (3, .int r), (4, .int a)], [], hq g c1 c2 c3 c4 c5 c6 c7 c8 c9 c10 c11 c12 c13 c14 c15 c16 c17 c18 c19 c20 c21 c22 c23 c24 (hc25 mTy mTm mMn mFn mRn mTn mVn mLr mTr mFl mFm mFp mSc mMp mEn) (hc26 mPa) (hc27 mTo) (hc28 mOt) (hc29 mNa) (hc30 mRe) (hc31 mMa) (hc32 mMy) (hc33 mPm) (hc34 mFy) (hc35 mFa) (hc36 mFr) (hc37 mFo) (hc38 mRt) (hc39 mRm) (hc40 mTt) (hc41 mTi) (hc42 mPl) (hc43 mVr) (hc44 mVf) (hc45 mVc) (hc46 mAr) (hc47 mTc) (hc48 mFt) (hc49 mGo) dyn, 0, 0)) rfl (fun h99 => ?_) (fun h99 => ?_)
            ·
              have h99 := qT_eq (cx := (r).toInt) (cy := (t).toInt) rfl rfl h99
              refine pm_go (g := (129, _, [.ref 25], _, 0, 0)) rfl ?_
              refine pm_go (g := (132, _, [.int mTn], _, 0, 0)) rfl ?_
              refine pm_if2 (g := (142, [(5, .int 1), (0, .ref 25), (1, .int t), (2, .int w), (3, .int r), (4, .int a)], [], hq g c1 c2 c3 c4 c5 c6 c7 c8 c9 c10 c11 c12 c13 c14 c15 c16 c17 c18 c19 c20 c21 c22 c23 c24 (hc25 mTy mTm mMn mFn mRn mTn mVn mLr mTr mFl mFm mFp mSc mMp mEn) (hc26 mPa) (hc27 mTo) (hc28 mOt) (hc29 mNa) (hc30 mRe) (hc31 mMa) (hc32 mMy) (hc33 mPm) (hc34 mFy) (hc35 mFa) (hc36 mFr) (hc37 mFo) (hc38 mRt) (hc39 mRm) (hc40 mTt) (hc41 mTi) (hc42 mPl) (hc43 mVr) (hc44 mVf) (hc45 mVc) (hc46 mAr) (hc47 mTc) (hc48 mFt) (hc49 mGo) dyn, 0, 0)) (h := (135, [(5, .int 1), (0, .ref 25), (1, .int t), (2, .int w), (3, .int r), (4, .int a)], [], hq g c1 c2 c3 c4 c5 c6 c7 c8 c9 c10 c11 c12 c13 c14 c15 c16 c17 c18 c19 c20 c21 c22 c23 c24 (hc25 mTy mTm mMn mFn mRn mTn mVn mLr mTr mFl mFm mFp mSc mMp mEn) (hc26 mPa) (hc27 mTo) (hc28 mOt) (hc29 mNa) (hc30 mRe) (hc31 mMa) (hc32 mMy) (hc33 mPm) (hc34 mFy) (hc35 mFa) (hc36 mFr) (hc37 mFo) (hc38 mRt) (hc39 mRm) (hc40 mTt) (hc41 mTi) (hc42 mPl) (hc43 mVr) (hc44 mVf) (hc45 mVc) (hc46 mAr) (hc47 mTc) (hc48 mFt) (hc49 mGo) dyn, 0, 0)) rfl (fun h100 => ?_) (fun h100 => ?_)
              ·
                have h100 := qT_gt (cx := (mTn).toInt) (cy := 0) rfl (by decide) h100
                refine pm_go (g := (144, _, [.int (-3)], _, 0, 0)) rfl ?_
                exact pm_ret rfl (k1 (by omega))
              have h100 := qF_gt (cx := (mTn).toInt) (cy := 0) rfl (by decide) h100
              refine pm_go (g := (136, _, [.ref 25], _, 0, 0)) rfl ?_
              refine pm_go (g := (139, _, [.int mVn], _, 0, 0)) rfl ?_
              refine pm_if2 (g := (145, [(5, .int 1), (0, .ref 25), (1, .int t), (2, .int w), (3, .int r), (4, .int a)], [], hq g c1 c2 c3 c4 c5 c6 c7 c8 c9 c10 c11 c12 c13 c14 c15 c16 c17 c18 c19 c20 c21 c22 c23 c24 (hc25 mTy mTm mMn mFn mRn mTn mVn mLr mTr mFl mFm mFp mSc mMp mEn) (hc26 mPa) (hc27 mTo) (hc28 mOt) (hc29 mNa) (hc30 mRe) (hc31 mMa) (hc32 mMy) (hc33 mPm) (hc34 mFy) (hc35 mFa) (hc36 mFr) (hc37 mFo) (hc38 mRt) (hc39 mRm) (hc40 mTt) (hc41 mTi) (hc42 mPl) (hc43 mVr) (hc44 mVf) (hc45 mVc) (hc46 mAr) (hc47 mTc) (hc48 mFt) (hc49 mGo) dyn, 0, 0)) (h := (142, [(5, .int 1), (0, .ref 25), (1, .int t), (2, .int w), (3, .int r), (4, .int a)], [], hq g c1 c2 c3 c4 c5 c6 c7 c8 c9 c10 c11 c12 c13 c14 c15 c16 c17 c18 c19 c20 c21 c22 c23 c24 (hc25 mTy mTm mMn mFn mRn mTn mVn mLr mTr mFl mFm mFp mSc mMp mEn) (hc26 mPa) (hc27 mTo) (hc28 mOt) (hc29 mNa) (hc30 mRe) (hc31 mMa) (hc32 mMy) (hc33 mPm) (hc34 mFy) (hc35 mFa) (hc36 mFr) (hc37 mFo) (hc38 mRt) (hc39 mRm) (hc40 mTt) (hc41 mTi) (hc42 mPl) (hc43 mVr) (hc44 mVf) (hc45 mVc) (hc46 mAr) (hc47 mTc) (hc48 mFt) (hc49 mGo) dyn, 0, 0)) rfl (fun h101 => ?_) (fun h101 => ?_)
              ·
                have h101 := qT_le (cx := (mVn).toInt) (cy := 0) rfl (by decide) h101
                refine pm_go (g := (146, _, [.int 0], _, 0, 0)) rfl ?_
                refine pm_go (g := (148, [(6, .int 0), (5, .int 1), (0, .ref 25), (1, .int t), (2, .int w), (3, .int r), (4, .int a)], [], _, 0, 0)) rfl ?_
                exact w_member_loop t w r a (1) p1 p2 p3 41 0 (by omega) (by omega) (fun h => k2 ⟨by omega, by obtain ⟨j, q1, q2⟩ := h; exact ⟨j, q2⟩⟩) (fun h => k3 ⟨by omega, fun j g => h.1 j (Nat.zero_le j) g, h.2⟩) (fun h => k4 ⟨by omega, fun j g => h.1 j (Nat.zero_le j) g, h.2⟩)
              have h101 := qF_le (cx := (mVn).toInt) (cy := 0) rfl (by decide) h101
              refine pm_go (g := (144, [(5, .int 1), (0, .ref 25), (1, .int t), (2, .int w), (3, .int r), (4, .int a)], [.int (-3)], _, 0, 0)) rfl ?_
              exact pm_ret rfl (k1 (by omega))
            have h99 := qF_eq (cx := (r).toInt) (cy := (t).toInt) rfl rfl h99
            refine pm_go (g := (127, _, [.int (-1)], _, 0, 0)) rfl ?_
            exact pm_ret rfl (k0 (by omega))
          have h90 := qF_ge (cx := (mTo (mTm - 1).toNatClampNeg).toInt) (cy := 20) rfl (by decide) h90
          refine pm_go (g := (89, _, [.int (-1)], _, 0, 0)) rfl ?_
          exact pm_ret rfl (k0 (by omega))
        show pm_WP 142 (53, [(5, .int 1), (0, .ref 25), (1, .int t), (2, .int w), (3, .int r), (4, .int a)], [.int 0], hq g c1 c2 c3 c4 c5 c6 c7 c8 c9 c10 c11 c12 c13 c14 c15 c16 c17 c18 c19 c20 c21 c22 c23 c24 (hc25 mTy mTm mMn mFn mRn mTn mVn mLr mTr mFl mFm mFp mSc mMp mEn) (hc26 mPa) (hc27 mTo) (hc28 mOt) (hc29 mNa) (hc30 mRe) (hc31 mMa) (hc32 mMy) (hc33 mPm) (hc34 mFy) (hc35 mFa) (hc36 mFr) (hc37 mFo) (hc38 mRt) (hc39 mRm) (hc40 mTt) (hc41 mTi) (hc42 mPl) (hc43 mVr) (hc44 mVf) (hc45 mVc) (hc46 mAr) (hc47 mTc) (hc48 mFt) (hc49 mGo) dyn, 0, 0) _
        refine pm_brF (h := (56, [(5, .int 1), (0, .ref 25), (1, .int t), (2, .int w), (3, .int r), (4, .int a)], [], hq g c1 c2 c3 c4 c5 c6 c7 c8 c9 c10 c11 c12 c13 c14 c15 c16 c17 c18 c19 c20 c21 c22 c23 c24 (hc25 mTy mTm mMn mFn mRn mTn mVn mLr mTr mFl mFm mFp mSc mMp mEn) (hc26 mPa) (hc27 mTo) (hc28 mOt) (hc29 mNa) (hc30 mRe) (hc31 mMa) (hc32 mMy) (hc33 mPm) (hc34 mFy) (hc35 mFa) (hc36 mFr) (hc37 mFo) (hc38 mRt) (hc39 mRm) (hc40 mTt) (hc41 mTi) (hc42 mPl) (hc43 mVr) (hc44 mVf) (hc45 mVc) (hc46 mAr) (hc47 mTc) (hc48 mFt) (hc49 mGo) dyn, 0, 0)) rfl ?_
        refine pm_go (g := (57, _, [.int (-1)], _, 0, 0)) rfl ?_
        exact pm_ret rfl (k0 (by omega))
      show pm_WP 142 (36, [(5, .int 1), (0, .ref 25), (1, .int t), (2, .int w), (3, .int r), (4, .int a)], [.int 0], hq g c1 c2 c3 c4 c5 c6 c7 c8 c9 c10 c11 c12 c13 c14 c15 c16 c17 c18 c19 c20 c21 c22 c23 c24 (hc25 mTy mTm mMn mFn mRn mTn mVn mLr mTr mFl mFm mFp mSc mMp mEn) (hc26 mPa) (hc27 mTo) (hc28 mOt) (hc29 mNa) (hc30 mRe) (hc31 mMa) (hc32 mMy) (hc33 mPm) (hc34 mFy) (hc35 mFa) (hc36 mFr) (hc37 mFo) (hc38 mRt) (hc39 mRm) (hc40 mTt) (hc41 mTi) (hc42 mPl) (hc43 mVr) (hc44 mVf) (hc45 mVc) (hc46 mAr) (hc47 mTc) (hc48 mFt) (hc49 mGo) dyn, 0, 0) _
      refine pm_brF (h := (39, [(5, .int 1), (0, .ref 25), (1, .int t), (2, .int w), (3, .int r), (4, .int a)], [], hq g c1 c2 c3 c4 c5 c6 c7 c8 c9 c10 c11 c12 c13 c14 c15 c16 c17 c18 c19 c20 c21 c22 c23 c24 (hc25 mTy mTm mMn mFn mRn mTn mVn mLr mTr mFl mFm mFp mSc mMp mEn) (hc26 mPa) (hc27 mTo) (hc28 mOt) (hc29 mNa) (hc30 mRe) (hc31 mMa) (hc32 mMy) (hc33 mPm) (hc34 mFy) (hc35 mFa) (hc36 mFr) (hc37 mFo) (hc38 mRt) (hc39 mRm) (hc40 mTt) (hc41 mTi) (hc42 mPl) (hc43 mVr) (hc44 mVf) (hc45 mVc) (hc46 mAr) (hc47 mTc) (hc48 mFt) (hc49 mGo) dyn, 0, 0)) rfl ?_
      refine pm_go (g := (40, _, [.int r], _, 0, 0)) rfl ?_
      refine pm_go (g := (42, _, [.int 11, .int r], _, 0, 0)) rfl ?_
      refine pm_if2 (g := (56, [(5, .int 1), (0, .ref 25), (1, .int t), (2, .int w), (3, .int r), (4, .int a)], [], hq g c1 c2 c3 c4 c5 c6 c7 c8 c9 c10 c11 c12 c13 c14 c15 c16 c17 c18 c19 c20 c21 c22 c23 c24 (hc25 mTy mTm mMn mFn mRn mTn mVn mLr mTr mFl mFm mFp mSc mMp mEn) (hc26 mPa) (hc27 mTo) (hc28 mOt) (hc29 mNa) (hc30 mRe) (hc31 mMa) (hc32 mMy) (hc33 mPm) (hc34 mFy) (hc35 mFa) (hc36 mFr) (hc37 mFo) (hc38 mRt) (hc39 mRm) (hc40 mTt) (hc41 mTi) (hc42 mPl) (hc43 mVr) (hc44 mVf) (hc45 mVc) (hc46 mAr) (hc47 mTc) (hc48 mFt) (hc49 mGo) dyn, 0, 0)) (h := (45, [(5, .int 1), (0, .ref 25), (1, .int t), (2, .int w), (3, .int r), (4, .int a)], [], hq g c1 c2 c3 c4 c5 c6 c7 c8 c9 c10 c11 c12 c13 c14 c15 c16 c17 c18 c19 c20 c21 c22 c23 c24 (hc25 mTy mTm mMn mFn mRn mTn mVn mLr mTr mFl mFm mFp mSc mMp mEn) (hc26 mPa) (hc27 mTo) (hc28 mOt) (hc29 mNa) (hc30 mRe) (hc31 mMa) (hc32 mMy) (hc33 mPm) (hc34 mFy) (hc35 mFa) (hc36 mFr) (hc37 mFo) (hc38 mRt) (hc39 mRm) (hc40 mTt) (hc41 mTi) (hc42 mPl) (hc43 mVr) (hc44 mVf) (hc45 mVc) (hc46 mAr) (hc47 mTc) (hc48 mFt) (hc49 mGo) dyn, 0, 0)) rfl (fun h102 => ?_) (fun h102 => ?_)
      ·
        have h102 := qT_ne (cx := (r).toInt) (cy := 11) rfl (by decide) h102
        refine pm_go (g := (57, _, [.int (-1)], _, 0, 0)) rfl ?_
        exact pm_ret rfl (k0 (by omega))
      have h102 := qF_ne (cx := (r).toInt) (cy := 11) rfl (by decide) h102
      refine pm_go (g := (47, _, [.int a], _, 0, 0)) rfl ?_
      refine pm_go (g := (48, _, [.int 0, .int a], _, 0, 0)) rfl ?_
      refine pm_go (g := (50, _, [.int 7, .int 0, .int a], _, 0, 0)) rfl ?_
      refine pm_callD (z := 128) (as := [.int a, .int 0, .int 7]) (rest := []) rfl ?_
      have h103 : (0 : Int32).toInt = 0 := by decide
      have h104 : (7 : Int32).toInt = 7 := by decide
      refine w_X12_isIn a 0 7 (fun h105 => ?_) (fun h106 => ?_)
      ·
        show pm_WP 142 (53, [(5, .int 1), (0, .ref 25), (1, .int t), (2, .int w), (3, .int r), (4, .int a)], [.int 1], _, 0, 0) _
        refine pm_brT (g := (58, [(5, .int 1), (0, .ref 25), (1, .int t), (2, .int w), (3, .int r), (4, .int a)], [], hq g c1 c2 c3 c4 c5 c6 c7 c8 c9 c10 c11 c12 c13 c14 c15 c16 c17 c18 c19 c20 c21 c22 c23 c24 (hc25 mTy mTm mMn mFn mRn mTn mVn mLr mTr mFl mFm mFp mSc mMp mEn) (hc26 mPa) (hc27 mTo) (hc28 mOt) (hc29 mNa) (hc30 mRe) (hc31 mMa) (hc32 mMy) (hc33 mPm) (hc34 mFy) (hc35 mFa) (hc36 mFr) (hc37 mFo) (hc38 mRt) (hc39 mRm) (hc40 mTt) (hc41 mTi) (hc42 mPl) (hc43 mVr) (hc44 mVf) (hc45 mVc) (hc46 mAr) (hc47 mTc) (hc48 mFt) (hc49 mGo) dyn, 0, 0)) rfl ?_
        refine pm_go (g := (60, _, [.int a], _, 0, 0)) rfl ?_
        refine pm_go (g := (61, _, [.int 4, .int a], _, 0, 0)) rfl ?_
        refine pm_go (g := (62, _, [.int (a &&& 4)], _, 0, 0)) rfl ?_
        refine pm_if2 (g := (90, [(5, .int 1), (0, .ref 25), (1, .int t), (2, .int w), (3, .int r), (4, .int a)], [], hq g c1 c2 c3 c4 c5 c6 c7 c8 c9 c10 c11 c12 c13 c14 c15 c16 c17 c18 c19 c20 c21 c22 c23 c24 (hc25 mTy mTm mMn mFn mRn mTn mVn mLr mTr mFl mFm mFp mSc mMp mEn) (hc26 mPa) (hc27 mTo) (hc28 mOt) (hc29 mNa) (hc30 mRe) (hc31 mMa) (hc32 mMy) (hc33 mPm) (hc34 mFy) (hc35 mFa) (hc36 mFr) (hc37 mFo) (hc38 mRt) (hc39 mRm) (hc40 mTt) (hc41 mTi) (hc42 mPl) (hc43 mVr) (hc44 mVf) (hc45 mVc) (hc46 mAr) (hc47 mTc) (hc48 mFt) (hc49 mGo) dyn, 0, 0)) (h := (65, [(5, .int 1), (0, .ref 25), (1, .int t), (2, .int w), (3, .int r), (4, .int a)], [], hq g c1 c2 c3 c4 c5 c6 c7 c8 c9 c10 c11 c12 c13 c14 c15 c16 c17 c18 c19 c20 c21 c22 c23 c24 (hc25 mTy mTm mMn mFn mRn mTn mVn mLr mTr mFl mFm mFp mSc mMp mEn) (hc26 mPa) (hc27 mTo) (hc28 mOt) (hc29 mNa) (hc30 mRe) (hc31 mMa) (hc32 mMy) (hc33 mPm) (hc34 mFy) (hc35 mFa) (hc36 mFr) (hc37 mFo) (hc38 mRt) (hc39 mRm) (hc40 mTt) (hc41 mTi) (hc42 mPl) (hc43 mVr) (hc44 mVf) (hc45 mVc) (hc46 mAr) (hc47 mTc) (hc48 mFt) (hc49 mGo) dyn, 0, 0)) rfl (fun h108 => ?_) (fun h108 => ?_)
        ·
          have h108 := qT_eq (cx := (a &&& 4).toInt) (cy := 0) rfl (by decide) h108
          refine pm_go (g := (92, _, [.int a], _, 0, 0)) rfl ?_
          refine pm_go (g := (93, _, [.int 3, .int a], _, 0, 0)) rfl ?_
          refine pm_go (g := (94, _, [.int (a &&& 3)], _, 0, 0)) rfl ?_
          refine pm_go (g := (95, _, [.int 3, .int (a &&& 3)], _, 0, 0)) rfl ?_
          refine pm_if2 (g := (126, [(5, .int 1), (0, .ref 25), (1, .int t), (2, .int w), (3, .int r), (4, .int a)], [], hq g c1 c2 c3 c4 c5 c6 c7 c8 c9 c10 c11 c12 c13 c14 c15 c16 c17 c18 c19 c20 c21 c22 c23 c24 (hc25 mTy mTm mMn mFn mRn mTn mVn mLr mTr mFl mFm mFp mSc mMp mEn) (hc26 mPa) (hc27 mTo) (hc28 mOt) (hc29 mNa) (hc30 mRe) (hc31 mMa) (hc32 mMy) (hc33 mPm) (hc34 mFy) (hc35 mFa) (hc36 mFr) (hc37 mFo) (hc38 mRt) (hc39 mRm) (hc40 mTt) (hc41 mTi) (hc42 mPl) (hc43 mVr) (hc44 mVf) (hc45 mVc) (hc46 mAr) (hc47 mTc) (hc48 mFt) (hc49 mGo) dyn, 0, 0)) (h := (98, [(5, .int 1), (0, .ref 25), (1, .int t), (2, .int w), (3, .int r), (4, .int a)], [], hq g c1 c2 c3 c4 c5 c6 c7 c8 c9 c10 c11 c12 c13 c14 c15 c16 c17 c18 c19 c20 c21 c22 c23 c24 (hc25 mTy mTm mMn mFn mRn mTn mVn mLr mTr mFl mFm mFp mSc mMp mEn) (hc26 mPa) (hc27 mTo) (hc28 mOt) (hc29 mNa) (hc30 mRe) (hc31 mMa) (hc32 mMy) (hc33 mPm) (hc34 mFy) (hc35 mFa) (hc36 mFr) (hc37 mFo) (hc38 mRt) (hc39 mRm) (hc40 mTt) (hc41 mTi) (hc42 mPl) (hc43 mVr) (hc44 mVf) (hc45 mVc) (hc46 mAr) (hc47 mTc) (hc48 mFt) (hc49 mGo) dyn, 0, 0)) rfl (fun h109 => ?_) (fun h109 => ?_)
          ·
            have h109 := qT_eq (cx := (a &&& 3).toInt) (cy := 3) rfl (by decide) h109
            refine pm_go (g := (127, _, [.int (-1)], _, 0, 0)) rfl ?_
            exact pm_ret rfl (k0 (by omega))
          have h109 := qF_eq (cx := (a &&& 3).toInt) (cy := 3) rfl (by decide) h109
          refine pm_go (g := (100, _, [.int a], _, 0, 0)) rfl ?_
          refine pm_go (g := (101, _, [.int 2, .int a], _, 0, 0)) rfl ?_
          refine pm_go (g := (102, _, [.int (a &&& 2)], _, 0, 0)) rfl ?_
          refine pm_if2 (g := (109, [(5, .int 1), (0, .ref 25), (1, .int t), (2, .int w), (3, .int r), (4, .int a)], [], hq g c1 c2 c3 c4 c5 c6 c7 c8 c9 c10 c11 c12 c13 c14 c15 c16 c17 c18 c19 c20 c21 c22 c23 c24 (hc25 mTy mTm mMn mFn mRn mTn mVn mLr mTr mFl mFm mFp mSc mMp mEn) (hc26 mPa) (hc27 mTo) (hc28 mOt) (hc29 mNa) (hc30 mRe) (hc31 mMa) (hc32 mMy) (hc33 mPm) (hc34 mFy) (hc35 mFa) (hc36 mFr) (hc37 mFo) (hc38 mRt) (hc39 mRm) (hc40 mTt) (hc41 mTi) (hc42 mPl) (hc43 mVr) (hc44 mVf) (hc45 mVc) (hc46 mAr) (hc47 mTc) (hc48 mFt) (hc49 mGo) dyn, 0, 0)) (h := (105, [(5, .int 1), (0, .ref 25), (1, .int t), (2, .int w), (3, .int r), (4, .int a)], [], hq g c1 c2 c3 c4 c5 c6 c7 c8 c9 c10 c11 c12 c13 c14 c15 c16 c17 c18 c19 c20 c21 c22 c23 c24 (hc25 mTy mTm mMn mFn mRn mTn mVn mLr mTr mFl mFm mFp mSc mMp mEn) (hc26 mPa) (hc27 mTo) (hc28 mOt) (hc29 mNa) (hc30 mRe) (hc31 mMa) (hc32 mMy) (hc33 mPm) (hc34 mFy) (hc35 mFa) (hc36 mFr) (hc37 mFo) (hc38 mRt) (hc39 mRm) (hc40 mTt) (hc41 mTi) (hc42 mPl) (hc43 mVr) (hc44 mVf) (hc45 mVc) (hc46 mAr) (hc47 mTc) (hc48 mFt) (hc49 mGo) dyn, 0, 0)) rfl (fun h110 => ?_) (fun h110 => ?_)
          ·
            have h110 := qT_eq (cx := (a &&& 2).toInt) (cy := 0) rfl (by decide) h110
            refine pm_go (g := (111, _, [.int 1], _, 0, 0)) rfl ?_
            refine pm_brF (h := (114, [(5, .int 1), (0, .ref 25), (1, .int t), (2, .int w), (3, .int r), (4, .int a)], [], hq g c1 c2 c3 c4 c5 c6 c7 c8 c9 c10 c11 c12 c13 c14 c15 c16 c17 c18 c19 c20 c21 c22 c23 c24 (hc25 mTy mTm mMn mFn mRn mTn mVn mLr mTr mFl mFm mFp mSc mMp mEn) (hc26 mPa) (hc27 mTo) (hc28 mOt) (hc29 mNa) (hc30 mRe) (hc31 mMa) (hc32 mMy) (hc33 mPm) (hc34 mFy) (hc35 mFa) (hc36 mFr) (hc37 mFo) (hc38 mRt) (hc39 mRm) (hc40 mTt) (hc41 mTi) (hc42 mPl) (hc43 mVr) (hc44 mVf) (hc45 mVc) (hc46 mAr) (hc47 mTc) (hc48 mFt) (hc49 mGo) dyn, 0, 0)) rfl ?_
            refine pm_go (g := (116, _, [.int a], _, 0, 0)) rfl ?_
            refine pm_go (g := (117, _, [.int 3, .int a], _, 0, 0)) rfl ?_
            refine pm_go (g := (118, _, [.int (a &&& 3)], _, 0, 0)) rfl ?_
            refine pm_if2 (g := (126, [(5, .int 1), (0, .ref 25), (1, .int t), (2, .int w), (3, .int r), (4, .int a)], [], hq g c1 c2 c3 c4 c5 c6 c7 c8 c9 c10 c11 c12 c13 c14 c15 c16 c17 c18 c19 c20 c21 c22 c23 c24 (hc25 mTy mTm mMn mFn mRn mTn mVn mLr mTr mFl mFm mFp mSc mMp mEn) (hc26 mPa) (hc27 mTo) (hc28 mOt) (hc29 mNa) (hc30 mRe) (hc31 mMa) (hc32 mMy) (hc33 mPm) (hc34 mFy) (hc35 mFa) (hc36 mFr) (hc37 mFo) (hc38 mRt) (hc39 mRm) (hc40 mTt) (hc41 mTi) (hc42 mPl) (hc43 mVr) (hc44 mVf) (hc45 mVc) (hc46 mAr) (hc47 mTc) (hc48 mFt) (hc49 mGo) dyn, 0, 0)) (h := (121, [(5, .int 1), (0, .ref 25), (1, .int t), (2, .int w), (3, .int r), (4, .int a)], [], hq g c1 c2 c3 c4 c5 c6 c7 c8 c9 c10 c11 c12 c13 c14 c15 c16 c17 c18 c19 c20 c21 c22 c23 c24 (hc25 mTy mTm mMn mFn mRn mTn mVn mLr mTr mFl mFm mFp mSc mMp mEn) (hc26 mPa) (hc27 mTo) (hc28 mOt) (hc29 mNa) (hc30 mRe) (hc31 mMa) (hc32 mMy) (hc33 mPm) (hc34 mFy) (hc35 mFa) (hc36 mFr) (hc37 mFo) (hc38 mRt) (hc39 mRm) (hc40 mTt) (hc41 mTi) (hc42 mPl) (hc43 mVr) (hc44 mVf) (hc45 mVc) (hc46 mAr) (hc47 mTc) (hc48 mFt) (hc49 mGo) dyn, 0, 0)) rfl (fun h111 => ?_) (fun h111 => ?_)
            ·
              have h111 := qT_ne (cx := (a &&& 3).toInt) (cy := 0) rfl (by decide) h111
              refine pm_go (g := (127, _, [.int (-1)], _, 0, 0)) rfl ?_
              exact pm_ret rfl (k0 (by omega))
            have h111 := qF_ne (cx := (a &&& 3).toInt) (cy := 0) rfl (by decide) h111
            refine pm_go (g := (122, _, [.int r], _, 0, 0)) rfl ?_
            refine pm_go (g := (123, _, [.int t, .int r], _, 0, 0)) rfl ?_
            refine pm_if2 (g := (128, [(5, .int 1), (0, .ref 25), (1, .int t), (2, .int w), (3, .int r), (4, .int a)], [], hq g c1 c2 c3 c4 c5 c6 c7 c8 c9 c10 c11 c12 c13 c14 c15 c16 c17 c18 c19 c20 c21 c22 c23 c24 (hc25 mTy mTm mMn mFn mRn mTn mVn mLr mTr mFl mFm mFp mSc mMp mEn) (hc26 mPa) (hc27 mTo) (hc28 mOt) (hc29 mNa) (hc30 mRe) (hc31 mMa) (hc32 mMy) (hc33 mPm) (hc34 mFy) (hc35 mFa) (hc36 mFr) (hc37 mFo) (hc38 mRt) (hc39 mRm) (hc40 mTt) (hc41 mTi) (hc42 mPl) (hc43 mVr) (hc44 mVf) (hc45 mVc) (hc46 mAr) (hc47 mTc) (hc48 mFt) (hc49 mGo) dyn, 0, 0)) (h := (126, [(5, .int 1), (0, .ref 25), (1, .int t), (2, .int w), (3, .int r), (4, .int a)], [], hq g c1 c2 c3 c4 c5 c6 c7 c8 c9 c10 c11 c12 c13 c14 c15 c16 c17 c18 c19 c20 c21 c22 c23 c24 (hc25 mTy mTm mMn mFn mRn mTn mVn mLr mTr mFl mFm mFp mSc mMp mEn) (hc26 mPa) (hc27 mTo) (hc28 mOt) (hc29 mNa) (hc30 mRe) (hc31 mMa) (hc32 mMy) (hc33 mPm) (hc34 mFy) (hc35 mFa) (hc36 mFr) (hc37 mFo) (hc38 mRt) (hc39 mRm) (hc40 mTt) (hc41 mTi) (hc42 mPl) (hc43 mVr) (hc44 mVf) (hc45 mVc) (hc46 mAr) (hc47 mTc) (hc48 mFt) (hc49 mGo) dyn, 0, 0)) rfl (fun h112 => ?_) (fun h112 => ?_)
            ·
              have h112 := qT_eq (cx := (r).toInt) (cy := (t).toInt) rfl rfl h112
              refine pm_go (g := (129, _, [.ref 25], _, 0, 0)) rfl ?_
              refine pm_go (g := (132, _, [.int mTn], _, 0, 0)) rfl ?_
              refine pm_if2 (g := (142, [(5, .int 1), (0, .ref 25), (1, .int t), (2, .int w), (3, .int r), (4, .int a)], [], hq g c1 c2 c3 c4 c5 c6 c7 c8 c9 c10 c11 c12 c13 c14 c15 c16 c17 c18 c19 c20 c21 c22 c23 c24 (hc25 mTy mTm mMn mFn mRn mTn mVn mLr mTr mFl mFm mFp mSc mMp mEn) (hc26 mPa) (hc27 mTo) (hc28 mOt) (hc29 mNa) (hc30 mRe) (hc31 mMa) (hc32 mMy) (hc33 mPm) (hc34 mFy) (hc35 mFa) (hc36 mFr) (hc37 mFo) (hc38 mRt) (hc39 mRm) (hc40 mTt) (hc41 mTi) (hc42 mPl) (hc43 mVr) (hc44 mVf) (hc45 mVc) (hc46 mAr) (hc47 mTc) (hc48 mFt) (hc49 mGo) dyn, 0, 0)) (h := (135, [(5, .int 1), (0, .ref 25), (1, .int t), (2, .int w), (3, .int r), (4, .int a)], [], hq g c1 c2 c3 c4 c5 c6 c7 c8 c9 c10 c11 c12 c13 c14 c15 c16 c17 c18 c19 c20 c21 c22 c23 c24 (hc25 mTy mTm mMn mFn mRn mTn mVn mLr mTr mFl mFm mFp mSc mMp mEn) (hc26 mPa) (hc27 mTo) (hc28 mOt) (hc29 mNa) (hc30 mRe) (hc31 mMa) (hc32 mMy) (hc33 mPm) (hc34 mFy) (hc35 mFa) (hc36 mFr) (hc37 mFo) (hc38 mRt) (hc39 mRm) (hc40 mTt) (hc41 mTi) (hc42 mPl) (hc43 mVr) (hc44 mVf) (hc45 mVc) (hc46 mAr) (hc47 mTc) (hc48 mFt) (hc49 mGo) dyn, 0, 0)) rfl (fun h113 => ?_) (fun h113 => ?_)
              ·
                have h113 := qT_gt (cx := (mTn).toInt) (cy := 0) rfl (by decide) h113
                refine pm_go (g := (144, _, [.int (-3)], _, 0, 0)) rfl ?_
                exact pm_ret rfl (k1 (by omega))
              have h113 := qF_gt (cx := (mTn).toInt) (cy := 0) rfl (by decide) h113
              refine pm_go (g := (136, _, [.ref 25], _, 0, 0)) rfl ?_
              refine pm_go (g := (139, _, [.int mVn], _, 0, 0)) rfl ?_
              refine pm_if2 (g := (145, [(5, .int 1), (0, .ref 25), (1, .int t), (2, .int w), (3, .int r), (4, .int a)], [], hq g c1 c2 c3 c4 c5 c6 c7 c8 c9 c10 c11 c12 c13 c14 c15 c16 c17 c18 c19 c20 c21 c22 c23 c24 (hc25 mTy mTm mMn mFn mRn mTn mVn mLr mTr mFl mFm mFp mSc mMp mEn) (hc26 mPa) (hc27 mTo) (hc28 mOt) (hc29 mNa) (hc30 mRe) (hc31 mMa) (hc32 mMy) (hc33 mPm) (hc34 mFy) (hc35 mFa) (hc36 mFr) (hc37 mFo) (hc38 mRt) (hc39 mRm) (hc40 mTt) (hc41 mTi) (hc42 mPl) (hc43 mVr) (hc44 mVf) (hc45 mVc) (hc46 mAr) (hc47 mTc) (hc48 mFt) (hc49 mGo) dyn, 0, 0)) (h := (142, [(5, .int 1), (0, .ref 25), (1, .int t), (2, .int w), (3, .int r), (4, .int a)], [], hq g c1 c2 c3 c4 c5 c6 c7 c8 c9 c10 c11 c12 c13 c14 c15 c16 c17 c18 c19 c20 c21 c22 c23 c24 (hc25 mTy mTm mMn mFn mRn mTn mVn mLr mTr mFl mFm mFp mSc mMp mEn) (hc26 mPa) (hc27 mTo) (hc28 mOt) (hc29 mNa) (hc30 mRe) (hc31 mMa) (hc32 mMy) (hc33 mPm) (hc34 mFy) (hc35 mFa) (hc36 mFr) (hc37 mFo) (hc38 mRt) (hc39 mRm) (hc40 mTt) (hc41 mTi) (hc42 mPl) (hc43 mVr) (hc44 mVf) (hc45 mVc) (hc46 mAr) (hc47 mTc) (hc48 mFt) (hc49 mGo) dyn, 0, 0)) rfl (fun h114 => ?_) (fun h114 => ?_)
              ·
                have h114 := qT_le (cx := (mVn).toInt) (cy := 0) rfl (by decide) h114
                refine pm_go (g := (146, _, [.int 0], _, 0, 0)) rfl ?_
                refine pm_go (g := (148, [(6, .int 0), (5, .int 1), (0, .ref 25), (1, .int t), (2, .int w), (3, .int r), (4, .int a)], [], _, 0, 0)) rfl ?_
                exact w_member_loop t w r a (1) p1 p2 p3 41 0 (by omega) (by omega) (fun h => k2 ⟨by omega, by obtain ⟨j, q1, q2⟩ := h; exact ⟨j, q2⟩⟩) (fun h => k3 ⟨by omega, fun j g => h.1 j (Nat.zero_le j) g, h.2⟩) (fun h => k4 ⟨by omega, fun j g => h.1 j (Nat.zero_le j) g, h.2⟩)
              have h114 := qF_le (cx := (mVn).toInt) (cy := 0) rfl (by decide) h114
              refine pm_go (g := (144, [(5, .int 1), (0, .ref 25), (1, .int t), (2, .int w), (3, .int r), (4, .int a)], [.int (-3)], _, 0, 0)) rfl ?_
              exact pm_ret rfl (k1 (by omega))
            have h112 := qF_eq (cx := (r).toInt) (cy := (t).toInt) rfl rfl h112
            refine pm_go (g := (127, _, [.int (-1)], _, 0, 0)) rfl ?_
            exact pm_ret rfl (k0 (by omega))
          have h110 := qF_eq (cx := (a &&& 2).toInt) (cy := 0) rfl (by decide) h110
          refine pm_go (g := (106, _, [.int t], _, 0, 0)) rfl ?_
          refine pm_if2 (g := (126, [(5, .int 1), (0, .ref 25), (1, .int t), (2, .int w), (3, .int r), (4, .int a)], [], hq g c1 c2 c3 c4 c5 c6 c7 c8 c9 c10 c11 c12 c13 c14 c15 c16 c17 c18 c19 c20 c21 c22 c23 c24 (hc25 mTy mTm mMn mFn mRn mTn mVn mLr mTr mFl mFm mFp mSc mMp mEn) (hc26 mPa) (hc27 mTo) (hc28 mOt) (hc29 mNa) (hc30 mRe) (hc31 mMa) (hc32 mMy) (hc33 mPm) (hc34 mFy) (hc35 mFa) (hc36 mFr) (hc37 mFo) (hc38 mRt) (hc39 mRm) (hc40 mTt) (hc41 mTi) (hc42 mPl) (hc43 mVr) (hc44 mVf) (hc45 mVc) (hc46 mAr) (hc47 mTc) (hc48 mFt) (hc49 mGo) dyn, 0, 0)) (h := (109, [(5, .int 1), (0, .ref 25), (1, .int t), (2, .int w), (3, .int r), (4, .int a)], [], hq g c1 c2 c3 c4 c5 c6 c7 c8 c9 c10 c11 c12 c13 c14 c15 c16 c17 c18 c19 c20 c21 c22 c23 c24 (hc25 mTy mTm mMn mFn mRn mTn mVn mLr mTr mFl mFm mFp mSc mMp mEn) (hc26 mPa) (hc27 mTo) (hc28 mOt) (hc29 mNa) (hc30 mRe) (hc31 mMa) (hc32 mMy) (hc33 mPm) (hc34 mFy) (hc35 mFa) (hc36 mFr) (hc37 mFo) (hc38 mRt) (hc39 mRm) (hc40 mTt) (hc41 mTi) (hc42 mPl) (hc43 mVr) (hc44 mVf) (hc45 mVc) (hc46 mAr) (hc47 mTc) (hc48 mFt) (hc49 mGo) dyn, 0, 0)) rfl (fun h115 => ?_) (fun h115 => ?_)
          ·
            have h115 := qT_eq (cx := (t).toInt) (cy := 0) rfl (by decide) h115
            refine pm_go (g := (127, _, [.int (-1)], _, 0, 0)) rfl ?_
            exact pm_ret rfl (k0 (by omega))
          have h115 := qF_eq (cx := (t).toInt) (cy := 0) rfl (by decide) h115
          refine pm_go (g := (111, _, [.int 1], _, 0, 0)) rfl ?_
          refine pm_brF (h := (114, [(5, .int 1), (0, .ref 25), (1, .int t), (2, .int w), (3, .int r), (4, .int a)], [], hq g c1 c2 c3 c4 c5 c6 c7 c8 c9 c10 c11 c12 c13 c14 c15 c16 c17 c18 c19 c20 c21 c22 c23 c24 (hc25 mTy mTm mMn mFn mRn mTn mVn mLr mTr mFl mFm mFp mSc mMp mEn) (hc26 mPa) (hc27 mTo) (hc28 mOt) (hc29 mNa) (hc30 mRe) (hc31 mMa) (hc32 mMy) (hc33 mPm) (hc34 mFy) (hc35 mFa) (hc36 mFr) (hc37 mFo) (hc38 mRt) (hc39 mRm) (hc40 mTt) (hc41 mTi) (hc42 mPl) (hc43 mVr) (hc44 mVf) (hc45 mVc) (hc46 mAr) (hc47 mTc) (hc48 mFt) (hc49 mGo) dyn, 0, 0)) rfl ?_
          refine pm_go (g := (116, _, [.int a], _, 0, 0)) rfl ?_
          refine pm_go (g := (117, _, [.int 3, .int a], _, 0, 0)) rfl ?_
          refine pm_go (g := (118, _, [.int (a &&& 3)], _, 0, 0)) rfl ?_
          refine pm_if2 (g := (126, [(5, .int 1), (0, .ref 25), (1, .int t), (2, .int w), (3, .int r), (4, .int a)], [], hq g c1 c2 c3 c4 c5 c6 c7 c8 c9 c10 c11 c12 c13 c14 c15 c16 c17 c18 c19 c20 c21 c22 c23 c24 (hc25 mTy mTm mMn mFn mRn mTn mVn mLr mTr mFl mFm mFp mSc mMp mEn) (hc26 mPa) (hc27 mTo) (hc28 mOt) (hc29 mNa) (hc30 mRe) (hc31 mMa) (hc32 mMy) (hc33 mPm) (hc34 mFy) (hc35 mFa) (hc36 mFr) (hc37 mFo) (hc38 mRt) (hc39 mRm) (hc40 mTt) (hc41 mTi) (hc42 mPl) (hc43 mVr) (hc44 mVf) (hc45 mVc) (hc46 mAr) (hc47 mTc) (hc48 mFt) (hc49 mGo) dyn, 0, 0)) (h := (121, [(5, .int 1), (0, .ref 25), (1, .int t), (2, .int w), (3, .int r), (4, .int a)], [], hq g c1 c2 c3 c4 c5 c6 c7 c8 c9 c10 c11 c12 c13 c14 c15 c16 c17 c18 c19 c20 c21 c22 c23 c24 (hc25 mTy mTm mMn mFn mRn mTn mVn mLr mTr mFl mFm mFp mSc mMp mEn) (hc26 mPa) (hc27 mTo) (hc28 mOt) (hc29 mNa) (hc30 mRe) (hc31 mMa) (hc32 mMy) (hc33 mPm) (hc34 mFy) (hc35 mFa) (hc36 mFr) (hc37 mFo) (hc38 mRt) (hc39 mRm) (hc40 mTt) (hc41 mTi) (hc42 mPl) (hc43 mVr) (hc44 mVf) (hc45 mVc) (hc46 mAr) (hc47 mTc) (hc48 mFt) (hc49 mGo) dyn, 0, 0)) rfl (fun h116 => ?_) (fun h116 => ?_)
          ·
            have h116 := qT_ne (cx := (a &&& 3).toInt) (cy := 0) rfl (by decide) h116
            refine pm_go (g := (127, _, [.int (-1)], _, 0, 0)) rfl ?_
            exact pm_ret rfl (k0 (by omega))
          have h116 := qF_ne (cx := (a &&& 3).toInt) (cy := 0) rfl (by decide) h116
          refine pm_go (g := (122, _, [.int r], _, 0, 0)) rfl ?_
          refine pm_go (g := (123, _, [.int t, .int r], _, 0, 0)) rfl ?_
          refine pm_if2 (g := (128, [(5, .int 1), (0, .ref 25), (1, .int t), (2, .int w), (3, .int r), (4, .int a)], [], hq g c1 c2 c3 c4 c5 c6 c7 c8 c9 c10 c11 c12 c13 c14 c15 c16 c17 c18 c19 c20 c21 c22 c23 c24 (hc25 mTy mTm mMn mFn mRn mTn mVn mLr mTr mFl mFm mFp mSc mMp mEn) (hc26 mPa) (hc27 mTo) (hc28 mOt) (hc29 mNa) (hc30 mRe) (hc31 mMa) (hc32 mMy) (hc33 mPm) (hc34 mFy) (hc35 mFa) (hc36 mFr) (hc37 mFo) (hc38 mRt) (hc39 mRm) (hc40 mTt) (hc41 mTi) (hc42 mPl) (hc43 mVr) (hc44 mVf) (hc45 mVc) (hc46 mAr) (hc47 mTc) (hc48 mFt) (hc49 mGo) dyn, 0, 0)) (h := (126, [(5, .int 1), (0, .ref 25), (1, .int t), (2, .int w), (3, .int r), (4, .int a)], [], hq g c1 c2 c3 c4 c5 c6 c7 c8 c9 c10 c11 c12 c13 c14 c15 c16 c17 c18 c19 c20 c21 c22 c23 c24 (hc25 mTy mTm mMn mFn mRn mTn mVn mLr mTr mFl mFm mFp mSc mMp mEn) (hc26 mPa) (hc27 mTo) (hc28 mOt) (hc29 mNa) (hc30 mRe) (hc31 mMa) (hc32 mMy) (hc33 mPm) (hc34 mFy) (hc35 mFa) (hc36 mFr) (hc37 mFo) (hc38 mRt) (hc39 mRm) (hc40 mTt) (hc41 mTi) (hc42 mPl) (hc43 mVr) (hc44 mVf) (hc45 mVc) (hc46 mAr) (hc47 mTc) (hc48 mFt) (hc49 mGo) dyn, 0, 0)) rfl (fun h117 => ?_) (fun h117 => ?_)
          ·
            have h117 := qT_eq (cx := (r).toInt) (cy := (t).toInt) rfl rfl h117
            refine pm_go (g := (129, _, [.ref 25], _, 0, 0)) rfl ?_
            refine pm_go (g := (132, _, [.int mTn], _, 0, 0)) rfl ?_
            refine pm_if2 (g := (142, [(5, .int 1), (0, .ref 25), (1, .int t), (2, .int w), (3, .int r), (4, .int a)], [], hq g c1 c2 c3 c4 c5 c6 c7 c8 c9 c10 c11 c12 c13 c14 c15 c16 c17 c18 c19 c20 c21 c22 c23 c24 (hc25 mTy mTm mMn mFn mRn mTn mVn mLr mTr mFl mFm mFp mSc mMp mEn) (hc26 mPa) (hc27 mTo) (hc28 mOt) (hc29 mNa) (hc30 mRe) (hc31 mMa) (hc32 mMy) (hc33 mPm) (hc34 mFy) (hc35 mFa) (hc36 mFr) (hc37 mFo) (hc38 mRt) (hc39 mRm) (hc40 mTt) (hc41 mTi) (hc42 mPl) (hc43 mVr) (hc44 mVf) (hc45 mVc) (hc46 mAr) (hc47 mTc) (hc48 mFt) (hc49 mGo) dyn, 0, 0)) (h := (135, [(5, .int 1), (0, .ref 25), (1, .int t), (2, .int w), (3, .int r), (4, .int a)], [], hq g c1 c2 c3 c4 c5 c6 c7 c8 c9 c10 c11 c12 c13 c14 c15 c16 c17 c18 c19 c20 c21 c22 c23 c24 (hc25 mTy mTm mMn mFn mRn mTn mVn mLr mTr mFl mFm mFp mSc mMp mEn) (hc26 mPa) (hc27 mTo) (hc28 mOt) (hc29 mNa) (hc30 mRe) (hc31 mMa) (hc32 mMy) (hc33 mPm) (hc34 mFy) (hc35 mFa) (hc36 mFr) (hc37 mFo) (hc38 mRt) (hc39 mRm) (hc40 mTt) (hc41 mTi) (hc42 mPl) (hc43 mVr) (hc44 mVf) (hc45 mVc) (hc46 mAr) (hc47 mTc) (hc48 mFt) (hc49 mGo) dyn, 0, 0)) rfl (fun h118 => ?_) (fun h118 => ?_)
            ·
              have h118 := qT_gt (cx := (mTn).toInt) (cy := 0) rfl (by decide) h118
              refine pm_go (g := (144, _, [.int (-3)], _, 0, 0)) rfl ?_
              exact pm_ret rfl (k1 (by omega))
            have h118 := qF_gt (cx := (mTn).toInt) (cy := 0) rfl (by decide) h118
            refine pm_go (g := (136, _, [.ref 25], _, 0, 0)) rfl ?_
            refine pm_go (g := (139, _, [.int mVn], _, 0, 0)) rfl ?_
            refine pm_if2 (g := (145, [(5, .int 1), (0, .ref 25), (1, .int t), (2, .int w), (3, .int r), (4, .int a)], [], hq g c1 c2 c3 c4 c5 c6 c7 c8 c9 c10 c11 c12 c13 c14 c15 c16 c17 c18 c19 c20 c21 c22 c23 c24 (hc25 mTy mTm mMn mFn mRn mTn mVn mLr mTr mFl mFm mFp mSc mMp mEn) (hc26 mPa) (hc27 mTo) (hc28 mOt) (hc29 mNa) (hc30 mRe) (hc31 mMa) (hc32 mMy) (hc33 mPm) (hc34 mFy) (hc35 mFa) (hc36 mFr) (hc37 mFo) (hc38 mRt) (hc39 mRm) (hc40 mTt) (hc41 mTi) (hc42 mPl) (hc43 mVr) (hc44 mVf) (hc45 mVc) (hc46 mAr) (hc47 mTc) (hc48 mFt) (hc49 mGo) dyn, 0, 0)) (h := (142, [(5, .int 1), (0, .ref 25), (1, .int t), (2, .int w), (3, .int r), (4, .int a)], [], hq g c1 c2 c3 c4 c5 c6 c7 c8 c9 c10 c11 c12 c13 c14 c15 c16 c17 c18 c19 c20 c21 c22 c23 c24 (hc25 mTy mTm mMn mFn mRn mTn mVn mLr mTr mFl mFm mFp mSc mMp mEn) (hc26 mPa) (hc27 mTo) (hc28 mOt) (hc29 mNa) (hc30 mRe) (hc31 mMa) (hc32 mMy) (hc33 mPm) (hc34 mFy) (hc35 mFa) (hc36 mFr) (hc37 mFo) (hc38 mRt) (hc39 mRm) (hc40 mTt) (hc41 mTi) (hc42 mPl) (hc43 mVr) (hc44 mVf) (hc45 mVc) (hc46 mAr) (hc47 mTc) (hc48 mFt) (hc49 mGo) dyn, 0, 0)) rfl (fun h119 => ?_) (fun h119 => ?_)
            ·
              have h119 := qT_le (cx := (mVn).toInt) (cy := 0) rfl (by decide) h119
              refine pm_go (g := (146, _, [.int 0], _, 0, 0)) rfl ?_
              refine pm_go (g := (148, [(6, .int 0), (5, .int 1), (0, .ref 25), (1, .int t), (2, .int w), (3, .int r), (4, .int a)], [], _, 0, 0)) rfl ?_
              exact w_member_loop t w r a (1) p1 p2 p3 41 0 (by omega) (by omega) (fun h => k2 ⟨by omega, by obtain ⟨j, q1, q2⟩ := h; exact ⟨j, q2⟩⟩) (fun h => k3 ⟨by omega, fun j g => h.1 j (Nat.zero_le j) g, h.2⟩) (fun h => k4 ⟨by omega, fun j g => h.1 j (Nat.zero_le j) g, h.2⟩)
            have h119 := qF_le (cx := (mVn).toInt) (cy := 0) rfl (by decide) h119
            refine pm_go (g := (144, [(5, .int 1), (0, .ref 25), (1, .int t), (2, .int w), (3, .int r), (4, .int a)], [.int (-3)], _, 0, 0)) rfl ?_
            exact pm_ret rfl (k1 (by omega))
          have h117 := qF_eq (cx := (r).toInt) (cy := (t).toInt) rfl rfl h117
          refine pm_go (g := (127, _, [.int (-1)], _, 0, 0)) rfl ?_
          exact pm_ret rfl (k0 (by omega))
        have h108 := qF_eq (cx := (a &&& 4).toInt) (cy := 0) rfl (by decide) h108
        refine pm_go (g := (66, _, [.ref 25], _, 0, 0)) rfl ?_
        refine pm_go (g := (69, _, [.int mTm], _, 0, 0)) rfl ?_
        refine pm_if2 (g := (88, [(5, .int 1), (0, .ref 25), (1, .int t), (2, .int w), (3, .int r), (4, .int a)], [], hq g c1 c2 c3 c4 c5 c6 c7 c8 c9 c10 c11 c12 c13 c14 c15 c16 c17 c18 c19 c20 c21 c22 c23 c24 (hc25 mTy mTm mMn mFn mRn mTn mVn mLr mTr mFl mFm mFp mSc mMp mEn) (hc26 mPa) (hc27 mTo) (hc28 mOt) (hc29 mNa) (hc30 mRe) (hc31 mMa) (hc32 mMy) (hc33 mPm) (hc34 mFy) (hc35 mFa) (hc36 mFr) (hc37 mFo) (hc38 mRt) (hc39 mRm) (hc40 mTt) (hc41 mTi) (hc42 mPl) (hc43 mVr) (hc44 mVf) (hc45 mVc) (hc46 mAr) (hc47 mTc) (hc48 mFt) (hc49 mGo) dyn, 0, 0)) (h := (72, [(5, .int 1), (0, .ref 25), (1, .int t), (2, .int w), (3, .int r), (4, .int a)], [], hq g c1 c2 c3 c4 c5 c6 c7 c8 c9 c10 c11 c12 c13 c14 c15 c16 c17 c18 c19 c20 c21 c22 c23 c24 (hc25 mTy mTm mMn mFn mRn mTn mVn mLr mTr mFl mFm mFp mSc mMp mEn) (hc26 mPa) (hc27 mTo) (hc28 mOt) (hc29 mNa) (hc30 mRe) (hc31 mMa) (hc32 mMy) (hc33 mPm) (hc34 mFy) (hc35 mFa) (hc36 mFr) (hc37 mFo) (hc38 mRt) (hc39 mRm) (hc40 mTt) (hc41 mTi) (hc42 mPl) (hc43 mVr) (hc44 mVf) (hc45 mVc) (hc46 mAr) (hc47 mTc) (hc48 mFt) (hc49 mGo) dyn, 0, 0)) rfl (fun h120 => ?_) (fun h120 => ?_)
        ·
          have h120 := qT_eq (cx := (mTm).toInt) (cy := 0) rfl (by decide) h120
          refine pm_go (g := (89, _, [.int (-1)], _, 0, 0)) rfl ?_
          exact pm_ret rfl (k0 (by omega))
        have h120 := qF_eq (cx := (mTm).toInt) (cy := 0) rfl (by decide) h120
        refine pm_go (g := (73, _, [.ref 25], _, 0, 0)) rfl ?_
        refine pm_go (g := (76, _, [.ref 27], _, 0, 0)) rfl ?_
        refine pm_go (g := (77, _, [.ref 25, .ref 27], _, 0, 0)) rfl ?_
        refine pm_go (g := (80, _, [.int mTm, .ref 27], _, 0, 0)) rfl ?_
        refine pm_go (g := (81, _, [.int 1, .int mTm, .ref 27], _, 0, 0)) rfl ?_
        refine pm_go (g := (82, _, [.int (mTm - 1), .ref 27], _, 0, 0)) rfl ?_
        try have h121 : (mTm - 1).toInt = (mTm).toInt - 1 := iSub (x := (mTm).toInt) (y := 1) rfl (by decide) (by omega) (by omega)
        refine pm_sd (g := (83, _, [.int (mTo (mTm - 1).toNatClampNeg)], _, 0, 0)) rfl (pm_inI (by omega) (by omega)) ?_
        refine pm_go (g := (85, _, [.int 20, .int (mTo (mTm - 1).toNatClampNeg)], _, 0, 0)) rfl ?_
        refine pm_if2 (g := (90, [(5, .int 1), (0, .ref 25), (1, .int t), (2, .int w), (3, .int r), (4, .int a)], [], hq g c1 c2 c3 c4 c5 c6 c7 c8 c9 c10 c11 c12 c13 c14 c15 c16 c17 c18 c19 c20 c21 c22 c23 c24 (hc25 mTy mTm mMn mFn mRn mTn mVn mLr mTr mFl mFm mFp mSc mMp mEn) (hc26 mPa) (hc27 mTo) (hc28 mOt) (hc29 mNa) (hc30 mRe) (hc31 mMa) (hc32 mMy) (hc33 mPm) (hc34 mFy) (hc35 mFa) (hc36 mFr) (hc37 mFo) (hc38 mRt) (hc39 mRm) (hc40 mTt) (hc41 mTi) (hc42 mPl) (hc43 mVr) (hc44 mVf) (hc45 mVc) (hc46 mAr) (hc47 mTc) (hc48 mFt) (hc49 mGo) dyn, 0, 0)) (h := (88, [(5, .int 1), (0, .ref 25), (1, .int t), (2, .int w), (3, .int r), (4, .int a)], [], hq g c1 c2 c3 c4 c5 c6 c7 c8 c9 c10 c11 c12 c13 c14 c15 c16 c17 c18 c19 c20 c21 c22 c23 c24 (hc25 mTy mTm mMn mFn mRn mTn mVn mLr mTr mFl mFm mFp mSc mMp mEn) (hc26 mPa) (hc27 mTo) (hc28 mOt) (hc29 mNa) (hc30 mRe) (hc31 mMa) (hc32 mMy) (hc33 mPm) (hc34 mFy) (hc35 mFa) (hc36 mFr) (hc37 mFo) (hc38 mRt) (hc39 mRm) (hc40 mTt) (hc41 mTi) (hc42 mPl) (hc43 mVr) (hc44 mVf) (hc45 mVc) (hc46 mAr) (hc47 mTc) (hc48 mFt) (hc49 mGo) dyn, 0, 0)) rfl (fun h122 => ?_) (fun h122 => ?_)
        ·
          have h122 := qT_ge (cx := (mTo (mTm - 1).toNatClampNeg).toInt) (cy := 20) rfl (by decide) h122
          refine pm_go (g := (92, _, [.int a], _, 0, 0)) rfl ?_
          refine pm_go (g := (93, _, [.int 3, .int a], _, 0, 0)) rfl ?_
          refine pm_go (g := (94, _, [.int (a &&& 3)], _, 0, 0)) rfl ?_
          refine pm_go (g := (95, _, [.int 3, .int (a &&& 3)], _, 0, 0)) rfl ?_
          refine pm_if2 (g := (126, [(5, .int 1), (0, .ref 25), (1, .int t), (2, .int w), (3, .int r), (4, .int a)], [], hq g c1 c2 c3 c4 c5 c6 c7 c8 c9 c10 c11 c12 c13 c14 c15 c16 c17 c18 c19 c20 c21 c22 c23 c24 (hc25 mTy mTm mMn mFn mRn mTn mVn mLr mTr mFl mFm mFp mSc mMp mEn) (hc26 mPa) (hc27 mTo) (hc28 mOt) (hc29 mNa) (hc30 mRe) (hc31 mMa) (hc32 mMy) (hc33 mPm) (hc34 mFy) (hc35 mFa) (hc36 mFr) (hc37 mFo) (hc38 mRt) (hc39 mRm) (hc40 mTt) (hc41 mTi) (hc42 mPl) (hc43 mVr) (hc44 mVf) (hc45 mVc) (hc46 mAr) (hc47 mTc) (hc48 mFt) (hc49 mGo) dyn, 0, 0)) (h := (98, [(5, .int 1), (0, .ref 25), (1, .int t), (2, .int w), (3, .int r), (4, .int a)], [], hq g c1 c2 c3 c4 c5 c6 c7 c8 c9 c10 c11 c12 c13 c14 c15 c16 c17 c18 c19 c20 c21 c22 c23 c24 (hc25 mTy mTm mMn mFn mRn mTn mVn mLr mTr mFl mFm mFp mSc mMp mEn) (hc26 mPa) (hc27 mTo) (hc28 mOt) (hc29 mNa) (hc30 mRe) (hc31 mMa) (hc32 mMy) (hc33 mPm) (hc34 mFy) (hc35 mFa) (hc36 mFr) (hc37 mFo) (hc38 mRt) (hc39 mRm) (hc40 mTt) (hc41 mTi) (hc42 mPl) (hc43 mVr) (hc44 mVf) (hc45 mVc) (hc46 mAr) (hc47 mTc) (hc48 mFt) (hc49 mGo) dyn, 0, 0)) rfl (fun h123 => ?_) (fun h123 => ?_)
          ·
            have h123 := qT_eq (cx := (a &&& 3).toInt) (cy := 3) rfl (by decide) h123
            refine pm_go (g := (127, _, [.int (-1)], _, 0, 0)) rfl ?_
            exact pm_ret rfl (k0 (by omega))
          have h123 := qF_eq (cx := (a &&& 3).toInt) (cy := 3) rfl (by decide) h123
          refine pm_go (g := (100, _, [.int a], _, 0, 0)) rfl ?_
          refine pm_go (g := (101, _, [.int 2, .int a], _, 0, 0)) rfl ?_
          refine pm_go (g := (102, _, [.int (a &&& 2)], _, 0, 0)) rfl ?_
          refine pm_if2 (g := (109, [(5, .int 1), (0, .ref 25), (1, .int t), (2, .int w), (3, .int r), (4, .int a)], [], hq g c1 c2 c3 c4 c5 c6 c7 c8 c9 c10 c11 c12 c13 c14 c15 c16 c17 c18 c19 c20 c21 c22 c23 c24 (hc25 mTy mTm mMn mFn mRn mTn mVn mLr mTr mFl mFm mFp mSc mMp mEn) (hc26 mPa) (hc27 mTo) (hc28 mOt) (hc29 mNa) (hc30 mRe) (hc31 mMa) (hc32 mMy) (hc33 mPm) (hc34 mFy) (hc35 mFa) (hc36 mFr) (hc37 mFo) (hc38 mRt) (hc39 mRm) (hc40 mTt) (hc41 mTi) (hc42 mPl) (hc43 mVr) (hc44 mVf) (hc45 mVc) (hc46 mAr) (hc47 mTc) (hc48 mFt) (hc49 mGo) dyn, 0, 0)) (h := (105, [(5, .int 1), (0, .ref 25), (1, .int t), (2, .int w), (3, .int r), (4, .int a)], [], hq g c1 c2 c3 c4 c5 c6 c7 c8 c9 c10 c11 c12 c13 c14 c15 c16 c17 c18 c19 c20 c21 c22 c23 c24 (hc25 mTy mTm mMn mFn mRn mTn mVn mLr mTr mFl mFm mFp mSc mMp mEn) (hc26 mPa) (hc27 mTo) (hc28 mOt) (hc29 mNa) (hc30 mRe) (hc31 mMa) (hc32 mMy) (hc33 mPm) (hc34 mFy) (hc35 mFa) (hc36 mFr) (hc37 mFo) (hc38 mRt) (hc39 mRm) (hc40 mTt) (hc41 mTi) (hc42 mPl) (hc43 mVr) (hc44 mVf) (hc45 mVc) (hc46 mAr) (hc47 mTc) (hc48 mFt) (hc49 mGo) dyn, 0, 0)) rfl (fun h124 => ?_) (fun h124 => ?_)
          ·
            have h124 := qT_eq (cx := (a &&& 2).toInt) (cy := 0) rfl (by decide) h124
            refine pm_go (g := (111, _, [.int 1], _, 0, 0)) rfl ?_
            refine pm_brF (h := (114, [(5, .int 1), (0, .ref 25), (1, .int t), (2, .int w), (3, .int r), (4, .int a)], [], hq g c1 c2 c3 c4 c5 c6 c7 c8 c9 c10 c11 c12 c13 c14 c15 c16 c17 c18 c19 c20 c21 c22 c23 c24 (hc25 mTy mTm mMn mFn mRn mTn mVn mLr mTr mFl mFm mFp mSc mMp mEn) (hc26 mPa) (hc27 mTo) (hc28 mOt) (hc29 mNa) (hc30 mRe) (hc31 mMa) (hc32 mMy) (hc33 mPm) (hc34 mFy) (hc35 mFa) (hc36 mFr) (hc37 mFo) (hc38 mRt) (hc39 mRm) (hc40 mTt) (hc41 mTi) (hc42 mPl) (hc43 mVr) (hc44 mVf) (hc45 mVc) (hc46 mAr) (hc47 mTc) (hc48 mFt) (hc49 mGo) dyn, 0, 0)) rfl ?_
            refine pm_go (g := (116, _, [.int a], _, 0, 0)) rfl ?_
            refine pm_go (g := (117, _, [.int 3, .int a], _, 0, 0)) rfl ?_
            refine pm_go (g := (118, _, [.int (a &&& 3)], _, 0, 0)) rfl ?_
            refine pm_if2 (g := (126, [(5, .int 1), (0, .ref 25), (1, .int t), (2, .int w), (3, .int r), (4, .int a)], [], hq g c1 c2 c3 c4 c5 c6 c7 c8 c9 c10 c11 c12 c13 c14 c15 c16 c17 c18 c19 c20 c21 c22 c23 c24 (hc25 mTy mTm mMn mFn mRn mTn mVn mLr mTr mFl mFm mFp mSc mMp mEn) (hc26 mPa) (hc27 mTo) (hc28 mOt) (hc29 mNa) (hc30 mRe) (hc31 mMa) (hc32 mMy) (hc33 mPm) (hc34 mFy) (hc35 mFa) (hc36 mFr) (hc37 mFo) (hc38 mRt) (hc39 mRm) (hc40 mTt) (hc41 mTi) (hc42 mPl) (hc43 mVr) (hc44 mVf) (hc45 mVc) (hc46 mAr) (hc47 mTc) (hc48 mFt) (hc49 mGo) dyn, 0, 0)) (h := (121, [(5, .int 1), (0, .ref 25), (1, .int t), (2, .int w), (3, .int r), (4, .int a)], [], hq g c1 c2 c3 c4 c5 c6 c7 c8 c9 c10 c11 c12 c13 c14 c15 c16 c17 c18 c19 c20 c21 c22 c23 c24 (hc25 mTy mTm mMn mFn mRn mTn mVn mLr mTr mFl mFm mFp mSc mMp mEn) (hc26 mPa) (hc27 mTo) (hc28 mOt) (hc29 mNa) (hc30 mRe) (hc31 mMa) (hc32 mMy) (hc33 mPm) (hc34 mFy) (hc35 mFa) (hc36 mFr) (hc37 mFo) (hc38 mRt) (hc39 mRm) (hc40 mTt) (hc41 mTi) (hc42 mPl) (hc43 mVr) (hc44 mVf) (hc45 mVc) (hc46 mAr) (hc47 mTc) (hc48 mFt) (hc49 mGo) dyn, 0, 0)) rfl (fun h125 => ?_) (fun h125 => ?_)
            ·
              have h125 := qT_ne (cx := (a &&& 3).toInt) (cy := 0) rfl (by decide) h125
              refine pm_go (g := (127, _, [.int (-1)], _, 0, 0)) rfl ?_
              exact pm_ret rfl (k0 (by omega))
            have h125 := qF_ne (cx := (a &&& 3).toInt) (cy := 0) rfl (by decide) h125
            refine pm_go (g := (122, _, [.int r], _, 0, 0)) rfl ?_
            refine pm_go (g := (123, _, [.int t, .int r], _, 0, 0)) rfl ?_
            refine pm_if2 (g := (128, [(5, .int 1), (0, .ref 25), (1, .int t), (2, .int w), (3, .int r), (4, .int a)], [], hq g c1 c2 c3 c4 c5 c6 c7 c8 c9 c10 c11 c12 c13 c14 c15 c16 c17 c18 c19 c20 c21 c22 c23 c24 (hc25 mTy mTm mMn mFn mRn mTn mVn mLr mTr mFl mFm mFp mSc mMp mEn) (hc26 mPa) (hc27 mTo) (hc28 mOt) (hc29 mNa) (hc30 mRe) (hc31 mMa) (hc32 mMy) (hc33 mPm) (hc34 mFy) (hc35 mFa) (hc36 mFr) (hc37 mFo) (hc38 mRt) (hc39 mRm) (hc40 mTt) (hc41 mTi) (hc42 mPl) (hc43 mVr) (hc44 mVf) (hc45 mVc) (hc46 mAr) (hc47 mTc) (hc48 mFt) (hc49 mGo) dyn, 0, 0)) (h := (126, [(5, .int 1), (0, .ref 25), (1, .int t), (2, .int w), (3, .int r), (4, .int a)], [], hq g c1 c2 c3 c4 c5 c6 c7 c8 c9 c10 c11 c12 c13 c14 c15 c16 c17 c18 c19 c20 c21 c22 c23 c24 (hc25 mTy mTm mMn mFn mRn mTn mVn mLr mTr mFl mFm mFp mSc mMp mEn) (hc26 mPa) (hc27 mTo) (hc28 mOt) (hc29 mNa) (hc30 mRe) (hc31 mMa) (hc32 mMy) (hc33 mPm) (hc34 mFy) (hc35 mFa) (hc36 mFr) (hc37 mFo) (hc38 mRt) (hc39 mRm) (hc40 mTt) (hc41 mTi) (hc42 mPl) (hc43 mVr) (hc44 mVf) (hc45 mVc) (hc46 mAr) (hc47 mTc) (hc48 mFt) (hc49 mGo) dyn, 0, 0)) rfl (fun h126 => ?_) (fun h126 => ?_)
            ·
              have h126 := qT_eq (cx := (r).toInt) (cy := (t).toInt) rfl rfl h126
              refine pm_go (g := (129, _, [.ref 25], _, 0, 0)) rfl ?_
              refine pm_go (g := (132, _, [.int mTn], _, 0, 0)) rfl ?_
              refine pm_if2 (g := (142, [(5, .int 1), (0, .ref 25), (1, .int t), (2, .int w), (3, .int r), (4, .int a)], [], hq g c1 c2 c3 c4 c5 c6 c7 c8 c9 c10 c11 c12 c13 c14 c15 c16 c17 c18 c19 c20 c21 c22 c23 c24 (hc25 mTy mTm mMn mFn mRn mTn mVn mLr mTr mFl mFm mFp mSc mMp mEn) (hc26 mPa) (hc27 mTo) (hc28 mOt) (hc29 mNa) (hc30 mRe) (hc31 mMa) (hc32 mMy) (hc33 mPm) (hc34 mFy) (hc35 mFa) (hc36 mFr) (hc37 mFo) (hc38 mRt) (hc39 mRm) (hc40 mTt) (hc41 mTi) (hc42 mPl) (hc43 mVr) (hc44 mVf) (hc45 mVc) (hc46 mAr) (hc47 mTc) (hc48 mFt) (hc49 mGo) dyn, 0, 0)) (h := (135, [(5, .int 1), (0, .ref 25), (1, .int t), (2, .int w), (3, .int r), (4, .int a)], [], hq g c1 c2 c3 c4 c5 c6 c7 c8 c9 c10 c11 c12 c13 c14 c15 c16 c17 c18 c19 c20 c21 c22 c23 c24 (hc25 mTy mTm mMn mFn mRn mTn mVn mLr mTr mFl mFm mFp mSc mMp mEn) (hc26 mPa) (hc27 mTo) (hc28 mOt) (hc29 mNa) (hc30 mRe) (hc31 mMa) (hc32 mMy) (hc33 mPm) (hc34 mFy) (hc35 mFa) (hc36 mFr) (hc37 mFo) (hc38 mRt) (hc39 mRm) (hc40 mTt) (hc41 mTi) (hc42 mPl) (hc43 mVr) (hc44 mVf) (hc45 mVc) (hc46 mAr) (hc47 mTc) (hc48 mFt) (hc49 mGo) dyn, 0, 0)) rfl (fun h127 => ?_) (fun h127 => ?_)
              ·
                have h127 := qT_gt (cx := (mTn).toInt) (cy := 0) rfl (by decide) h127
                refine pm_go (g := (144, _, [.int (-3)], _, 0, 0)) rfl ?_
                exact pm_ret rfl (k1 (by omega))
              have h127 := qF_gt (cx := (mTn).toInt) (cy := 0) rfl (by decide) h127
              refine pm_go (g := (136, _, [.ref 25], _, 0, 0)) rfl ?_
              refine pm_go (g := (139, _, [.int mVn], _, 0, 0)) rfl ?_
              refine pm_if2 (g := (145, [(5, .int 1), (0, .ref 25), (1, .int t), (2, .int w), (3, .int r), (4, .int a)], [], hq g c1 c2 c3 c4 c5 c6 c7 c8 c9 c10 c11 c12 c13 c14 c15 c16 c17 c18 c19 c20 c21 c22 c23 c24 (hc25 mTy mTm mMn mFn mRn mTn mVn mLr mTr mFl mFm mFp mSc mMp mEn) (hc26 mPa) (hc27 mTo) (hc28 mOt) (hc29 mNa) (hc30 mRe) (hc31 mMa) (hc32 mMy) (hc33 mPm) (hc34 mFy) (hc35 mFa) (hc36 mFr) (hc37 mFo) (hc38 mRt) (hc39 mRm) (hc40 mTt) (hc41 mTi) (hc42 mPl) (hc43 mVr) (hc44 mVf) (hc45 mVc) (hc46 mAr) (hc47 mTc) (hc48 mFt) (hc49 mGo) dyn, 0, 0)) (h := (142, [(5, .int 1), (0, .ref 25), (1, .int t), (2, .int w), (3, .int r), (4, .int a)], [], hq g c1 c2 c3 c4 c5 c6 c7 c8 c9 c10 c11 c12 c13 c14 c15 c16 c17 c18 c19 c20 c21 c22 c23 c24 (hc25 mTy mTm mMn mFn mRn mTn mVn mLr mTr mFl mFm mFp mSc mMp mEn) (hc26 mPa) (hc27 mTo) (hc28 mOt) (hc29 mNa) (hc30 mRe) (hc31 mMa) (hc32 mMy) (hc33 mPm) (hc34 mFy) (hc35 mFa) (hc36 mFr) (hc37 mFo) (hc38 mRt) (hc39 mRm) (hc40 mTt) (hc41 mTi) (hc42 mPl) (hc43 mVr) (hc44 mVf) (hc45 mVc) (hc46 mAr) (hc47 mTc) (hc48 mFt) (hc49 mGo) dyn, 0, 0)) rfl (fun h128 => ?_) (fun h128 => ?_)
              ·
                have h128 := qT_le (cx := (mVn).toInt) (cy := 0) rfl (by decide) h128
                refine pm_go (g := (146, _, [.int 0], _, 0, 0)) rfl ?_
                refine pm_go (g := (148, [(6, .int 0), (5, .int 1), (0, .ref 25), (1, .int t), (2, .int w), (3, .int r), (4, .int a)], [], _, 0, 0)) rfl ?_
                exact w_member_loop t w r a (1) p1 p2 p3 41 0 (by omega) (by omega) (fun h => k2 ⟨by omega, by obtain ⟨j, q1, q2⟩ := h; exact ⟨j, q2⟩⟩) (fun h => k3 ⟨by omega, fun j g => h.1 j (Nat.zero_le j) g, h.2⟩) (fun h => k4 ⟨by omega, fun j g => h.1 j (Nat.zero_le j) g, h.2⟩)
              have h128 := qF_le (cx := (mVn).toInt) (cy := 0) rfl (by decide) h128
              refine pm_go (g := (144, [(5, .int 1), (0, .ref 25), (1, .int t), (2, .int w), (3, .int r), (4, .int a)], [.int (-3)], _, 0, 0)) rfl ?_
              exact pm_ret rfl (k1 (by omega))
            have h126 := qF_eq (cx := (r).toInt) (cy := (t).toInt) rfl rfl h126
            refine pm_go (g := (127, _, [.int (-1)], _, 0, 0)) rfl ?_
            exact pm_ret rfl (k0 (by omega))
          have h124 := qF_eq (cx := (a &&& 2).toInt) (cy := 0) rfl (by decide) h124
          refine pm_go (g := (106, _, [.int t], _, 0, 0)) rfl ?_
          refine pm_if2 (g := (126, [(5, .int 1), (0, .ref 25), (1, .int t), (2, .int w), (3, .int r), (4, .int a)], [], hq g c1 c2 c3 c4 c5 c6 c7 c8 c9 c10 c11 c12 c13 c14 c15 c16 c17 c18 c19 c20 c21 c22 c23 c24 (hc25 mTy mTm mMn mFn mRn mTn mVn mLr mTr mFl mFm mFp mSc mMp mEn) (hc26 mPa) (hc27 mTo) (hc28 mOt) (hc29 mNa) (hc30 mRe) (hc31 mMa) (hc32 mMy) (hc33 mPm) (hc34 mFy) (hc35 mFa) (hc36 mFr) (hc37 mFo) (hc38 mRt) (hc39 mRm) (hc40 mTt) (hc41 mTi) (hc42 mPl) (hc43 mVr) (hc44 mVf) (hc45 mVc) (hc46 mAr) (hc47 mTc) (hc48 mFt) (hc49 mGo) dyn, 0, 0)) (h := (109, [(5, .int 1), (0, .ref 25), (1, .int t), (2, .int w), (3, .int r), (4, .int a)], [], hq g c1 c2 c3 c4 c5 c6 c7 c8 c9 c10 c11 c12 c13 c14 c15 c16 c17 c18 c19 c20 c21 c22 c23 c24 (hc25 mTy mTm mMn mFn mRn mTn mVn mLr mTr mFl mFm mFp mSc mMp mEn) (hc26 mPa) (hc27 mTo) (hc28 mOt) (hc29 mNa) (hc30 mRe) (hc31 mMa) (hc32 mMy) (hc33 mPm) (hc34 mFy) (hc35 mFa) (hc36 mFr) (hc37 mFo) (hc38 mRt) (hc39 mRm) (hc40 mTt) (hc41 mTi) (hc42 mPl) (hc43 mVr) (hc44 mVf) (hc45 mVc) (hc46 mAr) (hc47 mTc) (hc48 mFt) (hc49 mGo) dyn, 0, 0)) rfl (fun h129 => ?_) (fun h129 => ?_)
          ·
            have h129 := qT_eq (cx := (t).toInt) (cy := 0) rfl (by decide) h129
            refine pm_go (g := (127, _, [.int (-1)], _, 0, 0)) rfl ?_
            exact pm_ret rfl (k0 (by omega))
          have h129 := qF_eq (cx := (t).toInt) (cy := 0) rfl (by decide) h129
          refine pm_go (g := (111, _, [.int 1], _, 0, 0)) rfl ?_
          refine pm_brF (h := (114, [(5, .int 1), (0, .ref 25), (1, .int t), (2, .int w), (3, .int r), (4, .int a)], [], hq g c1 c2 c3 c4 c5 c6 c7 c8 c9 c10 c11 c12 c13 c14 c15 c16 c17 c18 c19 c20 c21 c22 c23 c24 (hc25 mTy mTm mMn mFn mRn mTn mVn mLr mTr mFl mFm mFp mSc mMp mEn) (hc26 mPa) (hc27 mTo) (hc28 mOt) (hc29 mNa) (hc30 mRe) (hc31 mMa) (hc32 mMy) (hc33 mPm) (hc34 mFy) (hc35 mFa) (hc36 mFr) (hc37 mFo) (hc38 mRt) (hc39 mRm) (hc40 mTt) (hc41 mTi) (hc42 mPl) (hc43 mVr) (hc44 mVf) (hc45 mVc) (hc46 mAr) (hc47 mTc) (hc48 mFt) (hc49 mGo) dyn, 0, 0)) rfl ?_
          refine pm_go (g := (116, _, [.int a], _, 0, 0)) rfl ?_
          refine pm_go (g := (117, _, [.int 3, .int a], _, 0, 0)) rfl ?_
          refine pm_go (g := (118, _, [.int (a &&& 3)], _, 0, 0)) rfl ?_
          refine pm_if2 (g := (126, [(5, .int 1), (0, .ref 25), (1, .int t), (2, .int w), (3, .int r), (4, .int a)], [], hq g c1 c2 c3 c4 c5 c6 c7 c8 c9 c10 c11 c12 c13 c14 c15 c16 c17 c18 c19 c20 c21 c22 c23 c24 (hc25 mTy mTm mMn mFn mRn mTn mVn mLr mTr mFl mFm mFp mSc mMp mEn) (hc26 mPa) (hc27 mTo) (hc28 mOt) (hc29 mNa) (hc30 mRe) (hc31 mMa) (hc32 mMy) (hc33 mPm) (hc34 mFy) (hc35 mFa) (hc36 mFr) (hc37 mFo) (hc38 mRt) (hc39 mRm) (hc40 mTt) (hc41 mTi) (hc42 mPl) (hc43 mVr) (hc44 mVf) (hc45 mVc) (hc46 mAr) (hc47 mTc) (hc48 mFt) (hc49 mGo) dyn, 0, 0)) (h := (121, [(5, .int 1), (0, .ref 25), (1, .int t), (2, .int w), (3, .int r), (4, .int a)], [], hq g c1 c2 c3 c4 c5 c6 c7 c8 c9 c10 c11 c12 c13 c14 c15 c16 c17 c18 c19 c20 c21 c22 c23 c24 (hc25 mTy mTm mMn mFn mRn mTn mVn mLr mTr mFl mFm mFp mSc mMp mEn) (hc26 mPa) (hc27 mTo) (hc28 mOt) (hc29 mNa) (hc30 mRe) (hc31 mMa) (hc32 mMy) (hc33 mPm) (hc34 mFy) (hc35 mFa) (hc36 mFr) (hc37 mFo) (hc38 mRt) (hc39 mRm) (hc40 mTt) (hc41 mTi) (hc42 mPl) (hc43 mVr) (hc44 mVf) (hc45 mVc) (hc46 mAr) (hc47 mTc) (hc48 mFt) (hc49 mGo) dyn, 0, 0)) rfl (fun h130 => ?_) (fun h130 => ?_)
          ·
            have h130 := qT_ne (cx := (a &&& 3).toInt) (cy := 0) rfl (by decide) h130
            refine pm_go (g := (127, _, [.int (-1)], _, 0, 0)) rfl ?_
            exact pm_ret rfl (k0 (by omega))
          have h130 := qF_ne (cx := (a &&& 3).toInt) (cy := 0) rfl (by decide) h130
          refine pm_go (g := (122, _, [.int r], _, 0, 0)) rfl ?_
          refine pm_go (g := (123, _, [.int t, .int r], _, 0, 0)) rfl ?_
          refine pm_if2 (g := (128, [(5, .int 1), (0, .ref 25), (1, .int t), (2, .int w), (3, .int r), (4, .int a)], [], hq g c1 c2 c3 c4 c5 c6 c7 c8 c9 c10 c11 c12 c13 c14 c15 c16 c17 c18 c19 c20 c21 c22 c23 c24 (hc25 mTy mTm mMn mFn mRn mTn mVn mLr mTr mFl mFm mFp mSc mMp mEn) (hc26 mPa) (hc27 mTo) (hc28 mOt) (hc29 mNa) (hc30 mRe) (hc31 mMa) (hc32 mMy) (hc33 mPm) (hc34 mFy) (hc35 mFa) (hc36 mFr) (hc37 mFo) (hc38 mRt) (hc39 mRm) (hc40 mTt) (hc41 mTi) (hc42 mPl) (hc43 mVr) (hc44 mVf) (hc45 mVc) (hc46 mAr) (hc47 mTc) (hc48 mFt) (hc49 mGo) dyn, 0, 0)) (h := (126, [(5, .int 1), (0, .ref 25), (1, .int t), (2, .int w), (3, .int r), (4, .int a)], [], hq g c1 c2 c3 c4 c5 c6 c7 c8 c9 c10 c11 c12 c13 c14 c15 c16 c17 c18 c19 c20 c21 c22 c23 c24 (hc25 mTy mTm mMn mFn mRn mTn mVn mLr mTr mFl mFm mFp mSc mMp mEn) (hc26 mPa) (hc27 mTo) (hc28 mOt) (hc29 mNa) (hc30 mRe) (hc31 mMa) (hc32 mMy) (hc33 mPm) (hc34 mFy) (hc35 mFa) (hc36 mFr) (hc37 mFo) (hc38 mRt) (hc39 mRm) (hc40 mTt) (hc41 mTi) (hc42 mPl) (hc43 mVr) (hc44 mVf) (hc45 mVc) (hc46 mAr) (hc47 mTc) (hc48 mFt) (hc49 mGo) dyn, 0, 0)) rfl (fun h131 => ?_) (fun h131 => ?_)
          ·
            have h131 := qT_eq (cx := (r).toInt) (cy := (t).toInt) rfl rfl h131
            refine pm_go (g := (129, _, [.ref 25], _, 0, 0)) rfl ?_
            refine pm_go (g := (132, _, [.int mTn], _, 0, 0)) rfl ?_
            refine pm_if2 (g := (142, [(5, .int 1), (0, .ref 25), (1, .int t), (2, .int w), (3, .int r), (4, .int a)], [], hq g c1 c2 c3 c4 c5 c6 c7 c8 c9 c10 c11 c12 c13 c14 c15 c16 c17 c18 c19 c20 c21 c22 c23 c24 (hc25 mTy mTm mMn mFn mRn mTn mVn mLr mTr mFl mFm mFp mSc mMp mEn) (hc26 mPa) (hc27 mTo) (hc28 mOt) (hc29 mNa) (hc30 mRe) (hc31 mMa) (hc32 mMy) (hc33 mPm) (hc34 mFy) (hc35 mFa) (hc36 mFr) (hc37 mFo) (hc38 mRt) (hc39 mRm) (hc40 mTt) (hc41 mTi) (hc42 mPl) (hc43 mVr) (hc44 mVf) (hc45 mVc) (hc46 mAr) (hc47 mTc) (hc48 mFt) (hc49 mGo) dyn, 0, 0)) (h := (135, [(5, .int 1), (0, .ref 25), (1, .int t), (2, .int w), (3, .int r), (4, .int a)], [], hq g c1 c2 c3 c4 c5 c6 c7 c8 c9 c10 c11 c12 c13 c14 c15 c16 c17 c18 c19 c20 c21 c22 c23 c24 (hc25 mTy mTm mMn mFn mRn mTn mVn mLr mTr mFl mFm mFp mSc mMp mEn) (hc26 mPa) (hc27 mTo) (hc28 mOt) (hc29 mNa) (hc30 mRe) (hc31 mMa) (hc32 mMy) (hc33 mPm) (hc34 mFy) (hc35 mFa) (hc36 mFr) (hc37 mFo) (hc38 mRt) (hc39 mRm) (hc40 mTt) (hc41 mTi) (hc42 mPl) (hc43 mVr) (hc44 mVf) (hc45 mVc) (hc46 mAr) (hc47 mTc) (hc48 mFt) (hc49 mGo) dyn, 0, 0)) rfl (fun h132 => ?_) (fun h132 => ?_)
            ·
              have h132 := qT_gt (cx := (mTn).toInt) (cy := 0) rfl (by decide) h132
              refine pm_go (g := (144, _, [.int (-3)], _, 0, 0)) rfl ?_
              exact pm_ret rfl (k1 (by omega))
            have h132 := qF_gt (cx := (mTn).toInt) (cy := 0) rfl (by decide) h132
            refine pm_go (g := (136, _, [.ref 25], _, 0, 0)) rfl ?_
            refine pm_go (g := (139, _, [.int mVn], _, 0, 0)) rfl ?_
            refine pm_if2 (g := (145, [(5, .int 1), (0, .ref 25), (1, .int t), (2, .int w), (3, .int r), (4, .int a)], [], hq g c1 c2 c3 c4 c5 c6 c7 c8 c9 c10 c11 c12 c13 c14 c15 c16 c17 c18 c19 c20 c21 c22 c23 c24 (hc25 mTy mTm mMn mFn mRn mTn mVn mLr mTr mFl mFm mFp mSc mMp mEn) (hc26 mPa) (hc27 mTo) (hc28 mOt) (hc29 mNa) (hc30 mRe) (hc31 mMa) (hc32 mMy) (hc33 mPm) (hc34 mFy) (hc35 mFa) (hc36 mFr) (hc37 mFo) (hc38 mRt) (hc39 mRm) (hc40 mTt) (hc41 mTi) (hc42 mPl) (hc43 mVr) (hc44 mVf) (hc45 mVc) (hc46 mAr) (hc47 mTc) (hc48 mFt) (hc49 mGo) dyn, 0, 0)) (h := (142, [(5, .int 1), (0, .ref 25), (1, .int t), (2, .int w), (3, .int r), (4, .int a)], [], hq g c1 c2 c3 c4 c5 c6 c7 c8 c9 c10 c11 c12 c13 c14 c15 c16 c17 c18 c19 c20 c21 c22 c23 c24 (hc25 mTy mTm mMn mFn mRn mTn mVn mLr mTr mFl mFm mFp mSc mMp mEn) (hc26 mPa) (hc27 mTo) (hc28 mOt) (hc29 mNa) (hc30 mRe) (hc31 mMa) (hc32 mMy) (hc33 mPm) (hc34 mFy) (hc35 mFa) (hc36 mFr) (hc37 mFo) (hc38 mRt) (hc39 mRm) (hc40 mTt) (hc41 mTi) (hc42 mPl) (hc43 mVr) (hc44 mVf) (hc45 mVc) (hc46 mAr) (hc47 mTc) (hc48 mFt) (hc49 mGo) dyn, 0, 0)) rfl (fun h133 => ?_) (fun h133 => ?_)
            ·
              have h133 := qT_le (cx := (mVn).toInt) (cy := 0) rfl (by decide) h133
              refine pm_go (g := (146, _, [.int 0], _, 0, 0)) rfl ?_
              refine pm_go (g := (148, [(6, .int 0), (5, .int 1), (0, .ref 25), (1, .int t), (2, .int w), (3, .int r), (4, .int a)], [], _, 0, 0)) rfl ?_
              exact w_member_loop t w r a (1) p1 p2 p3 41 0 (by omega) (by omega) (fun h => k2 ⟨by omega, by obtain ⟨j, q1, q2⟩ := h; exact ⟨j, q2⟩⟩) (fun h => k3 ⟨by omega, fun j g => h.1 j (Nat.zero_le j) g, h.2⟩) (fun h => k4 ⟨by omega, fun j g => h.1 j (Nat.zero_le j) g, h.2⟩)
            have h133 := qF_le (cx := (mVn).toInt) (cy := 0) rfl (by decide) h133
            refine pm_go (g := (144, [(5, .int 1), (0, .ref 25), (1, .int t), (2, .int w), (3, .int r), (4, .int a)], [.int (-3)], _, 0, 0)) rfl ?_
            exact pm_ret rfl (k1 (by omega))
          have h131 := qF_eq (cx := (r).toInt) (cy := (t).toInt) rfl rfl h131
          refine pm_go (g := (127, _, [.int (-1)], _, 0, 0)) rfl ?_
          exact pm_ret rfl (k0 (by omega))
        have h122 := qF_ge (cx := (mTo (mTm - 1).toNatClampNeg).toInt) (cy := 20) rfl (by decide) h122
        refine pm_go (g := (89, _, [.int (-1)], _, 0, 0)) rfl ?_
        exact pm_ret rfl (k0 (by omega))
      show pm_WP 142 (53, [(5, .int 1), (0, .ref 25), (1, .int t), (2, .int w), (3, .int r), (4, .int a)], [.int 0], hq g c1 c2 c3 c4 c5 c6 c7 c8 c9 c10 c11 c12 c13 c14 c15 c16 c17 c18 c19 c20 c21 c22 c23 c24 (hc25 mTy mTm mMn mFn mRn mTn mVn mLr mTr mFl mFm mFp mSc mMp mEn) (hc26 mPa) (hc27 mTo) (hc28 mOt) (hc29 mNa) (hc30 mRe) (hc31 mMa) (hc32 mMy) (hc33 mPm) (hc34 mFy) (hc35 mFa) (hc36 mFr) (hc37 mFo) (hc38 mRt) (hc39 mRm) (hc40 mTt) (hc41 mTi) (hc42 mPl) (hc43 mVr) (hc44 mVf) (hc45 mVc) (hc46 mAr) (hc47 mTc) (hc48 mFt) (hc49 mGo) dyn, 0, 0) _
      refine pm_brF (h := (56, [(5, .int 1), (0, .ref 25), (1, .int t), (2, .int w), (3, .int r), (4, .int a)], [], hq g c1 c2 c3 c4 c5 c6 c7 c8 c9 c10 c11 c12 c13 c14 c15 c16 c17 c18 c19 c20 c21 c22 c23 c24 (hc25 mTy mTm mMn mFn mRn mTn mVn mLr mTr mFl mFm mFp mSc mMp mEn) (hc26 mPa) (hc27 mTo) (hc28 mOt) (hc29 mNa) (hc30 mRe) (hc31 mMa) (hc32 mMy) (hc33 mPm) (hc34 mFy) (hc35 mFa) (hc36 mFr) (hc37 mFo) (hc38 mRt) (hc39 mRm) (hc40 mTt) (hc41 mTi) (hc42 mPl) (hc43 mVr) (hc44 mVf) (hc45 mVc) (hc46 mAr) (hc47 mTc) (hc48 mFt) (hc49 mGo) dyn, 0, 0)) rfl ?_
      refine pm_go (g := (57, _, [.int (-1)], _, 0, 0)) rfl ?_
      exact pm_ret rfl (k0 (by omega))
    show pm_WP 142 (28, [(5, .int 1), (0, .ref 25), (1, .int t), (2, .int w), (3, .int r), (4, .int a)], [.int 0], hq g c1 c2 c3 c4 c5 c6 c7 c8 c9 c10 c11 c12 c13 c14 c15 c16 c17 c18 c19 c20 c21 c22 c23 c24 (hc25 mTy mTm mMn mFn mRn mTn mVn mLr mTr mFl mFm mFp mSc mMp mEn) (hc26 mPa) (hc27 mTo) (hc28 mOt) (hc29 mNa) (hc30 mRe) (hc31 mMa) (hc32 mMy) (hc33 mPm) (hc34 mFy) (hc35 mFa) (hc36 mFr) (hc37 mFo) (hc38 mRt) (hc39 mRm) (hc40 mTt) (hc41 mTi) (hc42 mPl) (hc43 mVr) (hc44 mVf) (hc45 mVc) (hc46 mAr) (hc47 mTc) (hc48 mFt) (hc49 mGo) dyn, 0, 0) _
    refine pm_brT (g := (56, [(5, .int 1), (0, .ref 25), (1, .int t), (2, .int w), (3, .int r), (4, .int a)], [], hq g c1 c2 c3 c4 c5 c6 c7 c8 c9 c10 c11 c12 c13 c14 c15 c16 c17 c18 c19 c20 c21 c22 c23 c24 (hc25 mTy mTm mMn mFn mRn mTn mVn mLr mTr mFl mFm mFp mSc mMp mEn) (hc26 mPa) (hc27 mTo) (hc28 mOt) (hc29 mNa) (hc30 mRe) (hc31 mMa) (hc32 mMy) (hc33 mPm) (hc34 mFy) (hc35 mFa) (hc36 mFr) (hc37 mFo) (hc38 mRt) (hc39 mRm) (hc40 mTt) (hc41 mTi) (hc42 mPl) (hc43 mVr) (hc44 mVf) (hc45 mVc) (hc46 mAr) (hc47 mTc) (hc48 mFt) (hc49 mGo) dyn, 0, 0)) rfl ?_
    refine pm_go (g := (57, _, [.int (-1)], _, 0, 0)) rfl ?_
    exact pm_ret rfl (k0 (by omega))
  show pm_WP 142 (18, [(5, .int 1), (0, .ref 25), (1, .int t), (2, .int w), (3, .int r), (4, .int a)], [.int 0], hq g c1 c2 c3 c4 c5 c6 c7 c8 c9 c10 c11 c12 c13 c14 c15 c16 c17 c18 c19 c20 c21 c22 c23 c24 (hc25 mTy mTm mMn mFn mRn mTn mVn mLr mTr mFl mFm mFp mSc mMp mEn) (hc26 mPa) (hc27 mTo) (hc28 mOt) (hc29 mNa) (hc30 mRe) (hc31 mMa) (hc32 mMy) (hc33 mPm) (hc34 mFy) (hc35 mFa) (hc36 mFr) (hc37 mFo) (hc38 mRt) (hc39 mRm) (hc40 mTt) (hc41 mTi) (hc42 mPl) (hc43 mVr) (hc44 mVf) (hc45 mVc) (hc46 mAr) (hc47 mTc) (hc48 mFt) (hc49 mGo) dyn, 0, 0) _
  refine pm_brT (g := (56, [(5, .int 1), (0, .ref 25), (1, .int t), (2, .int w), (3, .int r), (4, .int a)], [], hq g c1 c2 c3 c4 c5 c6 c7 c8 c9 c10 c11 c12 c13 c14 c15 c16 c17 c18 c19 c20 c21 c22 c23 c24 (hc25 mTy mTm mMn mFn mRn mTn mVn mLr mTr mFl mFm mFp mSc mMp mEn) (hc26 mPa) (hc27 mTo) (hc28 mOt) (hc29 mNa) (hc30 mRe) (hc31 mMa) (hc32 mMy) (hc33 mPm) (hc34 mFy) (hc35 mFa) (hc36 mFr) (hc37 mFo) (hc38 mRt) (hc39 mRm) (hc40 mTt) (hc41 mTi) (hc42 mPl) (hc43 mVr) (hc44 mVf) (hc45 mVc) (hc46 mAr) (hc47 mTc) (hc48 mFt) (hc49 mGo) dyn, 0, 0)) rfl ?_
  refine pm_go (g := (57, _, [.int (-1)], _, 0, 0)) rfl ?_
  exact pm_ret rfl (k0 (by omega))
end
section
/-! more locals do no harm -/
def pm_le (lv lv' : pm_L) : Prop := (∀ q, q ∈ lv → q ∈ lv') ∧ (lv'.map Prod.fst).Nodup
theorem pm_lvmem : ∀ {lv : pm_L} {i : Nat} {v : Value}, pm_lv lv i = some v → (i, v) ∈ lv := by
  intro lv
  induction lv with
  | nil => intro i v h; cases h
  | cons q t ih =>
    intro i v h
    obtain ⟨j, w⟩ := q
    show (i, v) ∈ (j, w) :: t
    change cond (Nat.beq j i) (some w) (pm_lv t i) = some v at h
    cases e : Nat.beq j i with
    | true =>
      rw [e] at h
      have e1 := Nat.eq_of_beq_eq_true e
      cases h
      subst e1
      exact List.mem_cons_self ..
    | false =>
      rw [e] at h
      exact List.mem_cons_of_mem _ (ih h)
theorem pm_memlv : ∀ {lv : pm_L} {i : Nat} {v : Value}, (lv.map Prod.fst).Nodup → (i, v) ∈ lv → pm_lv lv i = some v := by
  intro lv
  induction lv with
  | nil => intro i v _ h; cases h
  | cons q t ih =>
    intro i v hn h
    obtain ⟨j, w⟩ := q
    change (j :: t.map Prod.fst).Nodup at hn
    rw [List.nodup_cons] at hn
    show cond (Nat.beq j i) (some w) (pm_lv t i) = some v
    rcases List.mem_cons.mp h with h | h
    · cases h
      rw [Nat.beq_refl]
      rfl
    · have hi : i ∈ t.map Prod.fst := List.mem_map.mpr ⟨(i, v), h, rfl⟩
      have hne : ¬ j = i := fun q => hn.1 (by rw [q]; exact hi)
      have e : Nat.beq j i = false := by
        cases e : Nat.beq j i with
        | false => rfl
        | true => exact absurd (Nat.eq_of_beq_eq_true e) hne
      rw [e]
      exact ih hn.2 h
theorem pm_le_lv {lv lv' : pm_L} (h : pm_le lv lv') {i : Nat} {v : Value} (e : pm_lv lv i = some v) : pm_lv lv' i = some v := pm_memlv h.2 (h.1 _ (pm_lvmem e))
theorem pm_le_f {lv lv' : pm_L} (h : pm_le lv lv') (i : Nat) (v : Value) (p : Nat × Value → Bool) (hp : ∀ q, p q = true → q.1 ≠ i) : pm_le ((i, v) :: lv.filter p) ((i, v) :: lv'.filter p) := by
  refine ⟨fun q hq => ?_, ?_⟩
  · rcases List.mem_cons.mp hq with e | e
    · rw [e]; exact List.mem_cons_self ..
    · rw [List.mem_filter] at e
      exact List.mem_cons_of_mem _ (List.mem_filter.mpr ⟨h.1 _ e.1, e.2⟩)
  · show (i :: (lv'.filter p).map Prod.fst).Nodup
    rw [List.nodup_cons]
    refine ⟨fun hm => ?_, ?_⟩
    · obtain ⟨q, hq, e⟩ := List.mem_map.mp hm
      exact hp q (List.mem_filter.mp hq).2 e
    · exact List.Nodup.sublist (List.Sublist.map _ List.filter_sublist) h.2
theorem pm_le_s1 {lv lv' : pm_L} (h : pm_le lv lv') (i : Nat) (v : Value) : pm_le (pm_s1 lv i v) (pm_s1 lv' i v) := pm_le_f h i v _ (fun q hq e => by subst e; simp at hq)
theorem pm_le_s2 {lv lv' : pm_L} (h : pm_le lv lv') (i : Nat) (v : Value) : pm_le (pm_s2 lv i v) (pm_s2 lv' i v) := pm_le_f h i v _ (fun q hq e => by subst e; simp at hq)
def pm_fr (f g : pm_F) : Prop := f.1 = g.1 ∧ pm_le f.2.1 g.2.1 ∧ f.2.2 = g.2.2
def pm_rr (d e : pm_R) : Prop := match d with
  | .inl (s, g) => ∃ g', e = .inl (s, g') ∧ pm_fr g g'
  | .inr (.inl (t, g, h)) => ∃ g' h', e = .inr (.inl (t, g', h')) ∧ pm_fr g g' ∧ pm_fr h h'
  | .inr (.inr (.inl x)) => e = .inr (.inr (.inl x))
  | .inr (.inr (.inr (.inl x))) => e = .inr (.inr (.inr (.inl x)))
  | .inr (.inr (.inr (.inr _))) => True
theorem rr_ok {lv lv' : pm_L} (h : pm_le lv lv') {pc : Nat} {x : List Value × pm_H × Nat × Nat} : pm_rr (pm_ok (pc, lv, x)) (pm_ok (pc, lv', x)) := ⟨_, rfl, rfl, h, rfl⟩
theorem rr_if {s : Bool} {lv lv' : pm_L} (h : pm_le lv lv') {pc : Nat} {x : List Value × pm_H × Nat × Nat} : pm_rr (pm_if s (pc, lv, x)) (pm_if s (pc, lv', x)) := ⟨_, rfl, rfl, h, rfl⟩
theorem rr_br {s : Bool} {lv lv' : pm_L} (h : pm_le lv lv') {pc pc2 : Nat} {x x2 : List Value × pm_H × Nat × Nat} : pm_rr (pm_br s (pc, lv, x) (pc2, lv, x2)) (pm_br s (pc, lv', x) (pc2, lv', x2)) := ⟨_, _, rfl, ⟨rfl, h, rfl⟩, ⟨rfl, h, rfl⟩⟩
theorem rr_rt {s : Bool} {r : Option Value} : pm_rr (pm_rt s r) (pm_rt s r) := rfl
theorem rr_cl {s : Bool} {z : Nat} {as rest : List Value} : pm_rr (pm_cl s z as rest) (pm_cl s z as rest) := rfl
theorem rr_bad {e : pm_R} : pm_rr pm_bad e := trivial
set_option maxHeartbeats 4000000 in
theorem pm_subI {lv lv' : pm_L} (h : pm_le lv lv') (y : Nat) (i : Instr) (a b pc : Nat) (st : List Value) (G : pm_H) (c n : Nat) : pm_rr (pm_I y i a b pc lv st G c n) (pm_I y i a b pc lv' st G c n) := by
  cases i <;> dsimp only [pm_I] <;> first
    | exact rr_bad
    | exact rr_ok h
    | exact rr_if h
    | (split <;> first
        | exact rr_bad
        | exact rr_ok h
        | exact rr_if h
        | exact rr_br h
        | exact rr_if (pm_le_s1 h _ _)
        | exact rr_if (pm_le_s2 h _ _)
        | (next e => rw [pm_le_lv h e]; exact rr_ok h)
        | (next e => rw [pm_le_lv h e]; exact rr_if (pm_le_s1 h _ _))
        | (split <;> first
            | exact rr_bad
            | exact rr_ok h
            | exact rr_if h
            | exact rr_rt
            | exact rr_cl
            | (split <;> first
                | exact rr_bad
                | exact rr_ok h
                | exact rr_if h
                | exact rr_cl
                | (split <;> first
                  | exact rr_bad
                  | exact rr_if h
                  | exact rr_cl))))
theorem pm_subD {lv lv' : pm_L} (h : pm_le lv lv') (y pc : Nat) (x : List Value × pm_H × Nat × Nat) : pm_rr (pm_D y (pc, lv, x)) (pm_D y (pc, lv', x)) := by
  unfold pm_D
  dsimp only
  split
  · exact rr_bad
  · exact pm_subI h _ _ _ _ _ _ _ _ _
theorem pm_sub {y pc : Nat} {lv lv' : pm_L} {x : List Value × pm_H × Nat × Nat} {Q : pm_Q} (hw : pm_WP y (pc, lv, x) Q) (hl : pm_le lv lv') : pm_WP y (pc, lv', x) Q := by
  have gen : ∀ (y : Nat) (f : pm_F) (Q : pm_Q), pm_WP y f Q → ∀ g : pm_F, f = g ∨ pm_fr f g → pm_WP y g Q := by
    intro y f Q hw
    refine hw (fun y f Q => ∀ g : pm_F, f = g ∨ pm_fr f g → pm_WP y g Q) ?_
    intro y f Q hN g hg
    rcases hg with hg | hg
    · subst hg
      exact pm_step (pm_mono (fun _ _ _ k => k _ (Or.inl rfl)) hN)
    obtain ⟨pc, lv, x⟩ := f
    obtain ⟨pc', lv', x'⟩ := g
    obtain ⟨e1, e2, e3⟩ := hg
    dsimp only at e1 e2 e3
    subst e1
    subst e3
    have hD := pm_subD e2 y pc x
    refine pm_step ?_
    unfold pm_N at hN ⊢
    generalize pm_D y (pc, lv, x) = d at hN hD
    generalize pm_D y (pc, lv', x) = d' at hD
    unfold pm_K at hN
    split at hN
    · obtain ⟨g', rfl, hf⟩ := hD
      exact ⟨hN.1, hN.2 _ (Or.inr hf)⟩
    · obtain ⟨g', h', rfl, hf, hf2⟩ := hD
      exact ⟨fun z => hN.1 z _ (Or.inr hf), fun z => hN.2 z _ (Or.inr hf2)⟩
    · change d' = _ at hD
      rw [hD]
      exact hN
    · change d' = _ at hD
      rw [hD]
      obtain ⟨h1, Q2, h2, h3⟩ := hN
      exact ⟨h1, Q2, h2 _ (Or.inl rfl), fun r G q => h3 r G q _ (Or.inr ⟨rfl, e2, rfl⟩)⟩
    · exact hN.elim
  exact gen y _ Q hw _ (Or.inr ⟨rfl, hl, rfl⟩)
theorem le_n {L : pm_L} : ∀ q, q ∈ ([] : pm_L) → q ∈ L := fun _ h => by cases h
theorem le_c {a : Nat × Value} {l L : pm_L} (h : a ∈ L) (t : ∀ q, q ∈ l → q ∈ L) : ∀ q, q ∈ a :: l → q ∈ L := fun q hq => by
  rcases List.mem_cons.mp hq with e | e
  · rw [e]; exact h
  · exact t q e
end
