section
/-- the place that m has for the k-th of many -/
def plV (my pm : Nat → Int32) (m k : Int32) : Int32 := if k.toInt < (my m.toNatClampNeg).toInt - 1 then pm (3 * m + k).toNatClampNeg else if (pm (3 * m + (my m.toNatClampNeg - 1)).toNatClampNeg).toInt = 30 then 10 else pm (3 * m + (my m.toNatClampNeg - 1)).toNatClampNeg - 20
theorem plV_1 {my pm : Nat → Int32} {m k : Int32} (h : k.toInt < (my m.toNatClampNeg).toInt - 1) : plV my pm m k = pm (3 * m + k).toNatClampNeg := by unfold plV; rw [if_pos h]
theorem plV_2 {my pm : Nat → Int32} {m k : Int32} (h : (my m.toNatClampNeg).toInt - 1 ≤ k.toInt ∧ (pm (3 * m + (my m.toNatClampNeg - 1)).toNatClampNeg).toInt = 30) : plV my pm m k = 10 := by unfold plV; rw [if_neg (by omega), if_pos h.2]
theorem plV_3 {my pm : Nat → Int32} {m k : Int32} (h : (my m.toNatClampNeg).toInt - 1 ≤ k.toInt ∧ (pm (3 * m + (my m.toNatClampNeg - 1)).toNatClampNeg).toInt ≠ 30) : plV my pm m k = pm (3 * m + (my m.toNatClampNeg - 1)).toNatClampNeg - 20 := by unfold plV; rw [if_neg (by omega), if_neg h.2]
def vrD (ma my : Nat → Int32) : Prop := ∀ j : Nat, j < 40 → (ma j &&& 4).toInt ≠ 0 → 1 ≤ (my j).toInt
theorem vrD_at {ma my : Nat → Int32} (h : vrD ma my) {m : Int32} (h0 : 0 ≤ m.toInt) (h1 : m.toInt < 40) (h2 : (ma m.toNatClampNeg &&& 4).toInt ≠ 0) : 1 ≤ (my m.toNatClampNeg).toInt := h _ (by have := xN h0; omega) h2
/-- the k-th argument of the face goes into m, in phase p -/
def fJ (pa my pm fa : Nat → Int32) (m f s p k : Int32) : Prop := (p.toInt = 1 → uM pa (fa (3 * f + s + k).toNatClampNeg) (pm (3 * m + k).toNatClampNeg) = true) ∧ (p.toInt = 2 → lM pa (fa (3 * f + s + k).toNatClampNeg) (pm (3 * m + k).toNatClampNeg)) ∧ (p.toInt = 3 → lM pa (fa (3 * f + s + k).toNatClampNeg) (plV my pm m k))
def tkL (pa my pm fa : Nat → Int32) (m f s p : Int32) (n : Int) (k : Nat) : Prop := ∀ j : Nat, k ≤ j → (j : Int) < n → fJ pa my pm fa m f s p (nI j)
/-- the reference's takes -/
def tkM (pa my pm fa ma fy : Nat → Int32) (m f s p : Int32) : Prop := ((p.toInt < 3 ∧ (my m.toNatClampNeg).toInt = (fy f.toNatClampNeg).toInt - s.toInt) ∨ (p.toInt = 3 ∧ (ma m.toNatClampNeg &&& 4).toInt ≠ 0 ∧ (my m.toNatClampNeg).toInt ≤ (fy f.toNatClampNeg).toInt - s.toInt + 1)) ∧ tkL pa my pm fa m f s p ((fy f.toNatClampNeg).toInt - s.toInt) 0
set_option maxRecDepth 100000 in
set_option maxHeartbeats 4000000 in
theorem w2_X12_placeOf {g c1 c2 c3 c4 c5 c6 c7 c8 c9 c10 c11 c12 c13 c14 c15 c16 c17 c18 c19 c20 c21 c22 c23 c24 : pm_C} {dyn : pm_H} {mTy : Int32} {mPa : Nat → Int32} {mTo : Nat → Int32} {mTm : Int32} {mMn : Int32} {mOt : Nat → Int32} {mNa : Nat → Int32} {mRe : Nat → Int32} {mMa : Nat → Int32} {mMy : Nat → Int32} {mPm : Nat → Int32} {mFn : Int32} {mFy : Nat → Int32} {mFa : Nat → Int32} {mFr : Nat → Int32} {mRn : Int32} {mFo : Nat → Int32} {mRt : Nat → Int32} {mRm : Nat → Int32} {mTn : Int32} {mTt : Nat → Int32} {mTi : Nat → Int32} {mPl : Nat → Int32} {mVn : Int32} {mVr : Nat → Int32} {mVf : Nat → Int32} {mVc : Nat → Int32} {mAr : Nat → Int32} {mLr : Int32} {mTc : Nat → Int32} {mTr : Int32} {mFl : Int32} {mFt : Nat → Int32} {mFm : Int32} {mFp : Int32} {mSc : Int32} {mMp : Int32} {mEn : Int32} {mGo : Nat → Int32} {Q : pm_Q} (m : Int32) (k : Int32) (p0 : 0 ≤ m.toInt ∧ m.toInt < 40) (p1 : 0 ≤ k.toInt) (p2 : 1 ≤ (mMy m.toNatClampNeg).toInt ∧ (mMy m.toNatClampNeg).toInt ≤ 3) (k0 : Q (some (.int (plV mMy mPm m k))) (hq g c1 c2 c3 c4 c5 c6 c7 c8 c9 c10 c11 c12 c13 c14 c15 c16 c17 c18 c19 c20 c21 c22 c23 c24 (hc25 mTy mTm mMn mFn mRn mTn mVn mLr mTr mFl mFm mFp mSc mMp mEn) (hc26 mPa) (hc27 mTo) (hc28 mOt) (hc29 mNa) (hc30 mRe) (hc31 mMa) (hc32 mMy) (hc33 mPm) (hc34 mFy) (hc35 mFa) (hc36 mFr) (hc37 mFo) (hc38 mRt) (hc39 mRm) (hc40 mTt) (hc41 mTi) (hc42 mPl) (hc43 mVr) (hc44 mVf) (hc45 mVc) (hc46 mAr) (hc47 mTc) (hc48 mFt) (hc49 mGo) dyn)) : pm_WP 147 (0, [(0, .ref 25), (1, .int m), (2, .int k)], [], hq g c1 c2 c3 c4 c5 c6 c7 c8 c9 c10 c11 c12 c13 c14 c15 c16 c17 c18 c19 c20 c21 c22 c23 c24 (hc25 mTy mTm mMn mFn mRn mTn mVn mLr mTr mFl mFm mFp mSc mMp mEn) (hc26 mPa) (hc27 mTo) (hc28 mOt) (hc29 mNa) (hc30 mRe) (hc31 mMa) (hc32 mMy) (hc33 mPm) (hc34 mFy) (hc35 mFa) (hc36 mFr) (hc37 mFo) (hc38 mRt) (hc39 mRm) (hc40 mTt) (hc41 mTi) (hc42 mPl) (hc43 mVr) (hc44 mVf) (hc45 mVc) (hc46 mAr) (hc47 mTc) (hc48 mFt) (hc49 mGo) dyn, 0, 0) Q := by
  refine w_X12_placeOf m k p0 p1 p2 (fun h => ?_) (fun h => ?_) (fun h => ?_)
  · rw [plV_1 h] at k0; exact k0
  · rw [plV_2 h] at k0; exact k0
  · rw [plV_3 h] at k0; exact k0
set_option maxRecDepth 100000 in
set_option maxHeartbeats 4000000 in
theorem w_takes_loop {g c1 c2 c3 c4 c5 c6 c7 c8 c9 c10 c11 c12 c13 c14 c15 c16 c17 c18 c19 c20 c21 c22 c23 c24 : pm_C} {dyn : pm_H} {mTy : Int32} {mPa : Nat → Int32} {mTo : Nat → Int32} {mTm : Int32} {mMn : Int32} {mOt : Nat → Int32} {mNa : Nat → Int32} {mRe : Nat → Int32} {mMa : Nat → Int32} {mMy : Nat → Int32} {mPm : Nat → Int32} {mFn : Int32} {mFy : Nat → Int32} {mFa : Nat → Int32} {mFr : Nat → Int32} {mRn : Int32} {mFo : Nat → Int32} {mRt : Nat → Int32} {mRm : Nat → Int32} {mTn : Int32} {mTt : Nat → Int32} {mTi : Nat → Int32} {mPl : Nat → Int32} {mVn : Int32} {mVr : Nat → Int32} {mVf : Nat → Int32} {mVc : Nat → Int32} {mAr : Nat → Int32} {mLr : Int32} {mTc : Nat → Int32} {mTr : Int32} {mFl : Int32} {mFt : Nat → Int32} {mFm : Int32} {mFp : Int32} {mSc : Int32} {mMp : Int32} {mEn : Int32} {mGo : Nat → Int32} {Q : pm_Q} (m f s p n9 : Int32) (hm : 0 ≤ m.toInt ∧ m.toInt < 40) (hf : 0 ≤ f.toInt ∧ f.toInt < 10) (hs : 0 ≤ s.toInt ∧ s.toInt ≤ 1) (hn9 : 0 ≤ n9.toInt ∧ n9.toInt + s.toInt ≤ 3) (hp : 1 ≤ p.toInt ∧ p.toInt ≤ 3) (hpa : paD mPa) (hmy : p.toInt < 3 ∧ (mMy m.toNatClampNeg).toInt = n9.toInt ∨ p.toInt = 3 ∧ 1 ≤ (mMy m.toNatClampNeg).toInt ∧ (mMy m.toNatClampNeg).toInt ≤ 3) : ∀ (n k : Nat), (k ≤ 3) → (3 < k + n) → (tkL mPa mMy mPm mFa m f s p n9.toInt k → Q (some (.int 1)) (hq g c1 c2 c3 c4 c5 c6 c7 c8 c9 c10 c11 c12 c13 c14 c15 c16 c17 c18 c19 c20 c21 c22 c23 c24 (hc25 mTy mTm mMn mFn mRn mTn mVn mLr mTr mFl mFm mFp mSc mMp mEn) (hc26 mPa) (hc27 mTo) (hc28 mOt) (hc29 mNa) (hc30 mRe) (hc31 mMa) (hc32 mMy) (hc33 mPm) (hc34 mFy) (hc35 mFa) (hc36 mFr) (hc37 mFo) (hc38 mRt) (hc39 mRm) (hc40 mTt) (hc41 mTi) (hc42 mPl) (hc43 mVr) (hc44 mVf) (hc45 mVc) (hc46 mAr) (hc47 mTc) (hc48 mFt) (hc49 mGo) dyn)) → (¬ tkL mPa mMy mPm mFa m f s p n9.toInt k → Q (some (.int 0)) (hq g c1 c2 c3 c4 c5 c6 c7 c8 c9 c10 c11 c12 c13 c14 c15 c16 c17 c18 c19 c20 c21 c22 c23 c24 (hc25 mTy mTm mMn mFn mRn mTn mVn mLr mTr mFl mFm mFp mSc mMp mEn) (hc26 mPa) (hc27 mTo) (hc28 mOt) (hc29 mNa) (hc30 mRe) (hc31 mMa) (hc32 mMy) (hc33 mPm) (hc34 mFy) (hc35 mFa) (hc36 mFr) (hc37 mFo) (hc38 mRt) (hc39 mRm) (hc40 mTt) (hc41 mTi) (hc42 mPl) (hc43 mVr) (hc44 mVf) (hc45 mVc) (hc46 mAr) (hc47 mTc) (hc48 mFt) (hc49 mGo) dyn)) → pm_WP 148 (60, [(7, .int (nI k)), (6, .int 1), (5, .int n9), (0, .ref 25), (1, .int m), (2, .int f), (3, .int s), (4, .int p)], [], hq g c1 c2 c3 c4 c5 c6 c7 c8 c9 c10 c11 c12 c13 c14 c15 c16 c17 c18 c19 c20 c21 c22 c23 c24 (hc25 mTy mTm mMn mFn mRn mTn mVn mLr mTr mFl mFm mFp mSc mMp mEn) (hc26 mPa) (hc27 mTo) (hc28 mOt) (hc29 mNa) (hc30 mRe) (hc31 mMa) (hc32 mMy) (hc33 mPm) (hc34 mFy) (hc35 mFa) (hc36 mFr) (hc37 mFo) (hc38 mRt) (hc39 mRm) (hc40 mTt) (hc41 mTi) (hc42 mPl) (hc43 mVr) (hc44 mVf) (hc45 mVc) (hc46 mAr) (hc47 mTc) (hc48 mFt) (hc49 mGo) dyn, 0, 0) Q := by
  intro n
  induction n with
  | zero =>
    intro k g1 g2 k0 k1
    exfalso; omega
  | succ n ih =>
    intro k g1 g2 k0 k1
    have hk := nI_toInt (n := k) (by omega)
    have hkc : (nI k).toNatClampNeg = k := nI_clamp (by omega)
    refine pm_go (g := (62, [(7, .int (nI k)), (6, .int 1), (5, .int n9), (0, .ref 25), (1, .int m), (2, .int f), (3, .int s), (4, .int p)], [.int 1], hq g c1 c2 c3 c4 c5 c6 c7 c8 c9 c10 c11 c12 c13 c14 c15 c16 c17 c18 c19 c20 c21 c22 c23 c24 (hc25 mTy mTm mMn mFn mRn mTn mVn mLr mTr mFl mFm mFp mSc mMp mEn) (hc26 mPa) (hc27 mTo) (hc28 mOt) (hc29 mNa) (hc30 mRe) (hc31 mMa) (hc32 mMy) (hc33 mPm) (hc34 mFy) (hc35 mFa) (hc36 mFr) (hc37 mFo) (hc38 mRt) (hc39 mRm) (hc40 mTt) (hc41 mTi) (hc42 mPl) (hc43 mVr) (hc44 mVf) (hc45 mVc) (hc46 mAr) (hc47 mTc) (hc48 mFt) (hc49 mGo) dyn, 0, 0)) rfl ?_
    refine pm_brF (h := (65, [(7, .int (nI k)), (6, .int 1), (5, .int n9), (0, .ref 25), (1, .int m), (2, .int f), (3, .int s), (4, .int p)], [], hq g c1 c2 c3 c4 c5 c6 c7 c8 c9 c10 c11 c12 c13 c14 c15 c16 c17 c18 c19 c20 c21 c22 c23 c24 (hc25 mTy mTm mMn mFn mRn mTn mVn mLr mTr mFl mFm mFp mSc mMp mEn) (hc26 mPa) (hc27 mTo) (hc28 mOt) (hc29 mNa) (hc30 mRe) (hc31 mMa) (hc32 mMy) (hc33 mPm) (hc34 mFy) (hc35 mFa) (hc36 mFr) (hc37 mFo) (hc38 mRt) (hc39 mRm) (hc40 mTt) (hc41 mTi) (hc42 mPl) (hc43 mVr) (hc44 mVf) (hc45 mVc) (hc46 mAr) (hc47 mTc) (hc48 mFt) (hc49 mGo) dyn, 0, 0)) rfl ?_
    refine pm_go (g := (67, _, [.int (nI k)], _, 0, 0)) rfl ?_
    refine pm_go (g := (69, _, [.int n9, .int (nI k)], _, 0, 0)) rfl ?_
    refine pm_if2 (g := (154, [(7, .int (nI k)), (6, .int 1), (5, .int n9), (0, .ref 25), (1, .int m), (2, .int f), (3, .int s), (4, .int p)], [], hq g c1 c2 c3 c4 c5 c6 c7 c8 c9 c10 c11 c12 c13 c14 c15 c16 c17 c18 c19 c20 c21 c22 c23 c24 (hc25 mTy mTm mMn mFn mRn mTn mVn mLr mTr mFl mFm mFp mSc mMp mEn) (hc26 mPa) (hc27 mTo) (hc28 mOt) (hc29 mNa) (hc30 mRe) (hc31 mMa) (hc32 mMy) (hc33 mPm) (hc34 mFy) (hc35 mFa) (hc36 mFr) (hc37 mFo) (hc38 mRt) (hc39 mRm) (hc40 mTt) (hc41 mTi) (hc42 mPl) (hc43 mVr) (hc44 mVf) (hc45 mVc) (hc46 mAr) (hc47 mTc) (hc48 mFt) (hc49 mGo) dyn, 0, 0)) (h := (72, [(7, .int (nI k)), (6, .int 1), (5, .int n9), (0, .ref 25), (1, .int m), (2, .int f), (3, .int s), (4, .int p)], [], hq g c1 c2 c3 c4 c5 c6 c7 c8 c9 c10 c11 c12 c13 c14 c15 c16 c17 c18 c19 c20 c21 c22 c23 c24 (hc25 mTy mTm mMn mFn mRn mTn mVn mLr mTr mFl mFm mFp mSc mMp mEn) (hc26 mPa) (hc27 mTo) (hc28 mOt) (hc29 mNa) (hc30 mRe) (hc31 mMa) (hc32 mMy) (hc33 mPm) (hc34 mFy) (hc35 mFa) (hc36 mFr) (hc37 mFo) (hc38 mRt) (hc39 mRm) (hc40 mTt) (hc41 mTi) (hc42 mPl) (hc43 mVr) (hc44 mVf) (hc45 mVc) (hc46 mAr) (hc47 mTc) (hc48 mFt) (hc49 mGo) dyn, 0, 0)) rfl (fun h1 => ?_) (fun h1 => ?_)
    ·
      have h1 := qT_ge (cx := (nI k).toInt) (cy := (n9).toInt) rfl rfl h1
      refine pm_go (g := (156, _, [.int 1], _, 0, 0)) rfl ?_
      exact pm_ret rfl (k0 (fun j g1 g2 => absurd g2 (by omega)))
    have h1 := qF_ge (cx := (nI k).toInt) (cy := (n9).toInt) rfl rfl h1
    refine pm_go (g := (73, _, [.ref 25], _, 0, 0)) rfl ?_
    refine pm_go (g := (76, _, [.ref 35], _, 0, 0)) rfl ?_
    refine pm_go (g := (77, _, [.int 3, .ref 35], _, 0, 0)) rfl ?_
    refine pm_go (g := (78, _, [.int f, .int 3, .ref 35], _, 0, 0)) rfl ?_
    refine pm_go (g := (79, _, [.int (3 * f), .ref 35], _, 0, 0)) rfl ?_
    try have h2 : (3 * f).toInt = 3 * (f).toInt := iMul (x := 3) (y := (f).toInt) (by decide) rfl (by omega) (by omega)
    refine pm_go (g := (80, _, [.int s, .int (3 * f), .ref 35], _, 0, 0)) rfl ?_
    refine pm_go (g := (81, _, [.int ((3 * f) + s), .ref 35], _, 0, 0)) rfl ?_
    try have h3 : ((3 * f) + s).toInt = (3 * f).toInt + (s).toInt := iAdd (x := (3 * f).toInt) (y := (s).toInt) rfl rfl (by omega) (by omega)
    refine pm_go (g := (83, _, [.int (nI k), .int ((3 * f) + s), .ref 35], _, 0, 0)) rfl ?_
    refine pm_go (g := (84, _, [.int (((3 * f) + s) + (nI k)), .ref 35], _, 0, 0)) rfl ?_
    try have h4 : (((3 * f) + s) + (nI k)).toInt = ((3 * f) + s).toInt + (nI k).toInt := iAdd (x := ((3 * f) + s).toInt) (y := (nI k).toInt) rfl rfl (by omega) (by omega)
    refine pm_sd (g := (85, _, [.int (mFa (((3 * f) + s) + (nI k)).toNatClampNeg)], _, 0, 0)) rfl (pm_inI (by omega) (by omega)) ?_
    refine pm_go (g := (87, [(8, .int (mFa (((3 * f) + s) + (nI k)).toNatClampNeg)), (7, .int (nI k)), (6, .int 1), (5, .int n9), (0, .ref 25), (1, .int m), (2, .int f), (3, .int s), (4, .int p)], [], _, 0, 0)) rfl ?_
    refine pm_go (g := (89, _, [.int p], _, 0, 0)) rfl ?_
    refine pm_go (g := (90, _, [.int 1, .int p], _, 0, 0)) rfl ?_
    refine pm_if2 (g := (113, [(8, .int (mFa (((3 * f) + s) + (nI k)).toNatClampNeg)), (7, .int (nI k)), (6, .int 1), (5, .int n9), (0, .ref 25), (1, .int m), (2, .int f), (3, .int s), (4, .int p)], [], hq g c1 c2 c3 c4 c5 c6 c7 c8 c9 c10 c11 c12 c13 c14 c15 c16 c17 c18 c19 c20 c21 c22 c23 c24 (hc25 mTy mTm mMn mFn mRn mTn mVn mLr mTr mFl mFm mFp mSc mMp mEn) (hc26 mPa) (hc27 mTo) (hc28 mOt) (hc29 mNa) (hc30 mRe) (hc31 mMa) (hc32 mMy) (hc33 mPm) (hc34 mFy) (hc35 mFa) (hc36 mFr) (hc37 mFo) (hc38 mRt) (hc39 mRm) (hc40 mTt) (hc41 mTi) (hc42 mPl) (hc43 mVr) (hc44 mVf) (hc45 mVc) (hc46 mAr) (hc47 mTc) (hc48 mFt) (hc49 mGo) dyn, 0, 0)) (h := (93, [(8, .int (mFa (((3 * f) + s) + (nI k)).toNatClampNeg)), (7, .int (nI k)), (6, .int 1), (5, .int n9), (0, .ref 25), (1, .int m), (2, .int f), (3, .int s), (4, .int p)], [], hq g c1 c2 c3 c4 c5 c6 c7 c8 c9 c10 c11 c12 c13 c14 c15 c16 c17 c18 c19 c20 c21 c22 c23 c24 (hc25 mTy mTm mMn mFn mRn mTn mVn mLr mTr mFl mFm mFp mSc mMp mEn) (hc26 mPa) (hc27 mTo) (hc28 mOt) (hc29 mNa) (hc30 mRe) (hc31 mMa) (hc32 mMy) (hc33 mPm) (hc34 mFy) (hc35 mFa) (hc36 mFr) (hc37 mFo) (hc38 mRt) (hc39 mRm) (hc40 mTt) (hc41 mTi) (hc42 mPl) (hc43 mVr) (hc44 mVf) (hc45 mVc) (hc46 mAr) (hc47 mTc) (hc48 mFt) (hc49 mGo) dyn, 0, 0)) rfl (fun h5 => ?_) (fun h5 => ?_)
    ·
      have h5 := qT_ne (cx := (p).toInt) (cy := 1) rfl (by decide) h5
      refine pm_go (g := (114, _, [.ref 25], _, 0, 0)) rfl ?_
      refine pm_go (g := (116, _, [.int (mFa (((3 * f) + s) + (nI k)).toNatClampNeg), .ref 25], _, 0, 0)) rfl ?_
      refine pm_go (g := (118, _, [.int p, .int (mFa (((3 * f) + s) + (nI k)).toNatClampNeg), .ref 25], _, 0, 0)) rfl ?_
      refine pm_go (g := (119, _, [.int 2, .int p, .int (mFa (((3 * f) + s) + (nI k)).toNatClampNeg), .ref 25], _, 0, 0)) rfl ?_
      refine pm_if2 (g := (136, [(8, .int (mFa (((3 * f) + s) + (nI k)).toNatClampNeg)), (7, .int (nI k)), (6, .int 1), (5, .int n9), (0, .ref 25), (1, .int m), (2, .int f), (3, .int s), (4, .int p)], [.int (mFa (((3 * f) + s) + (nI k)).toNatClampNeg), .ref 25], hq g c1 c2 c3 c4 c5 c6 c7 c8 c9 c10 c11 c12 c13 c14 c15 c16 c17 c18 c19 c20 c21 c22 c23 c24 (hc25 mTy mTm mMn mFn mRn mTn mVn mLr mTr mFl mFm mFp mSc mMp mEn) (hc26 mPa) (hc27 mTo) (hc28 mOt) (hc29 mNa) (hc30 mRe) (hc31 mMa) (hc32 mMy) (hc33 mPm) (hc34 mFy) (hc35 mFa) (hc36 mFr) (hc37 mFo) (hc38 mRt) (hc39 mRm) (hc40 mTt) (hc41 mTi) (hc42 mPl) (hc43 mVr) (hc44 mVf) (hc45 mVc) (hc46 mAr) (hc47 mTc) (hc48 mFt) (hc49 mGo) dyn, 0, 0)) (h := (122, [(8, .int (mFa (((3 * f) + s) + (nI k)).toNatClampNeg)), (7, .int (nI k)), (6, .int 1), (5, .int n9), (0, .ref 25), (1, .int m), (2, .int f), (3, .int s), (4, .int p)], [.int (mFa (((3 * f) + s) + (nI k)).toNatClampNeg), .ref 25], hq g c1 c2 c3 c4 c5 c6 c7 c8 c9 c10 c11 c12 c13 c14 c15 c16 c17 c18 c19 c20 c21 c22 c23 c24 (hc25 mTy mTm mMn mFn mRn mTn mVn mLr mTr mFl mFm mFp mSc mMp mEn) (hc26 mPa) (hc27 mTo) (hc28 mOt) (hc29 mNa) (hc30 mRe) (hc31 mMa) (hc32 mMy) (hc33 mPm) (hc34 mFy) (hc35 mFa) (hc36 mFr) (hc37 mFo) (hc38 mRt) (hc39 mRm) (hc40 mTt) (hc41 mTi) (hc42 mPl) (hc43 mVr) (hc44 mVf) (hc45 mVc) (hc46 mAr) (hc47 mTc) (hc48 mFt) (hc49 mGo) dyn, 0, 0)) rfl (fun h6 => ?_) (fun h6 => ?_)
      ·
        have h6 := qT_ne (cx := (p).toInt) (cy := 2) rfl (by decide) h6
        refine pm_go (g := (137, _, [.ref 25, .int (mFa (((3 * f) + s) + (nI k)).toNatClampNeg), .ref 25], _, 0, 0)) rfl ?_
        refine pm_go (g := (138, _, [.int m, .ref 25, .int (mFa (((3 * f) + s) + (nI k)).toNatClampNeg), .ref 25], _, 0, 0)) rfl ?_
        refine pm_go (g := (140, _, [.int (nI k), .int m, .ref 25, .int (mFa (((3 * f) + s) + (nI k)).toNatClampNeg), .ref 25], _, 0, 0)) rfl ?_
        refine pm_callD (z := 147) (as := [.ref 25, .int m, .int (nI k)]) (rest := [.int (mFa (((3 * f) + s) + (nI k)).toNatClampNeg), .ref 25]) rfl ?_
        refine w2_X12_placeOf m (nI k) (by omega) (by omega) (by omega) ?_
        show pm_WP 148 (143, [(8, .int (mFa (((3 * f) + s) + (nI k)).toNatClampNeg)), (7, .int (nI k)), (6, .int 1), (5, .int n9), (0, .ref 25), (1, .int m), (2, .int f), (3, .int s), (4, .int p)], [.int (plV mMy mPm m (nI k)), .int (mFa (((3 * f) + s) + (nI k)).toNatClampNeg), .ref 25], _, 0, 0) _
        refine pm_callD (z := 133) (as := [.ref 25, .int (mFa (((3 * f) + s) + (nI k)).toNatClampNeg), .int (plV mMy mPm m (nI k))]) (rest := []) rfl ?_
        refine w_X12_isLoose (mFa (((3 * f) + s) + (nI k)).toNatClampNeg) (plV mMy mPm m (nI k)) (by assumption) (fun h8 => ?_) (fun h9 => ?_)
        ·
          show pm_WP 148 (146, [(8, .int (mFa (((3 * f) + s) + (nI k)).toNatClampNeg)), (7, .int (nI k)), (6, .int 1), (5, .int n9), (0, .ref 25), (1, .int m), (2, .int f), (3, .int s), (4, .int p)], [.int 1], _, 0, 0) _
          refine pm_go (g := (148, [(6, .int 1), (8, .int (mFa (((3 * f) + s) + (nI k)).toNatClampNeg)), (7, .int (nI k)), (5, .int n9), (0, .ref 25), (1, .int m), (2, .int f), (3, .int s), (4, .int p)], [], _, 0, 0)) rfl ?_
          refine pm_go (g := (151, [(7, .int ((nI k) + 1)), (6, .int 1), (8, .int (mFa (((3 * f) + s) + (nI k)).toNatClampNeg)), (5, .int n9), (0, .ref 25), (1, .int m), (2, .int f), (3, .int s), (4, .int p)], [], _, 0, 0)) rfl ?_
          refine pm_go (g := (60, _, [], _, 0, 0)) rfl ?_
          refine pm_sub (lv := [(7, .int ((nI k) + 1)), (6, .int 1), (5, .int n9), (0, .ref 25), (1, .int m), (2, .int f), (3, .int s), (4, .int p)]) ?_ ⟨le_c (List.Mem.head _) (le_c (List.Mem.tail _ (List.Mem.head _)) (le_c (List.Mem.tail _ (List.Mem.tail _ (List.Mem.tail _ (List.Mem.head _)))) (le_c (List.Mem.tail _ (List.Mem.tail _ (List.Mem.tail _ (List.Mem.tail _ (List.Mem.head _))))) (le_c (List.Mem.tail _ (List.Mem.tail _ (List.Mem.tail _ (List.Mem.tail _ (List.Mem.tail _ (List.Mem.head _)))))) (le_c (List.Mem.tail _ (List.Mem.tail _ (List.Mem.tail _ (List.Mem.tail _ (List.Mem.tail _ (List.Mem.tail _ (List.Mem.head _))))))) (le_c (List.Mem.tail _ (List.Mem.tail _ (List.Mem.tail _ (List.Mem.tail _ (List.Mem.tail _ (List.Mem.tail _ (List.Mem.tail _ (List.Mem.head _)))))))) (le_c (List.Mem.tail _ (List.Mem.tail _ (List.Mem.tail _ (List.Mem.tail _ (List.Mem.tail _ (List.Mem.tail _ (List.Mem.tail _ (List.Mem.tail _ (List.Mem.head _))))))))) le_n))))))), (show ([7, 6, 8, 5, 0, 1, 2, 3, 4] : List Nat).Nodup by decide)⟩
          rw [nI_1]
          refine ih (k + 1) (by omega) (by omega) (fun h => k0 (fun j g1 g2 => ?_)) (fun h => k1 (fun q => h (fun j g1 g2 => q j (by omega) g2)))
          rcases Nat.eq_or_lt_of_le g1 with e9 | e9
          · subst e9; exact (by refine ⟨fun q => ?_, fun q => ?_, fun q => ?_⟩ <;> first | (exfalso; omega) | assumption)
          · exact h j e9 g2
        show pm_WP 148 (146, [(8, .int (mFa (((3 * f) + s) + (nI k)).toNatClampNeg)), (7, .int (nI k)), (6, .int 1), (5, .int n9), (0, .ref 25), (1, .int m), (2, .int f), (3, .int s), (4, .int p)], [.int 0], hq g c1 c2 c3 c4 c5 c6 c7 c8 c9 c10 c11 c12 c13 c14 c15 c16 c17 c18 c19 c20 c21 c22 c23 c24 (hc25 mTy mTm mMn mFn mRn mTn mVn mLr mTr mFl mFm mFp mSc mMp mEn) (hc26 mPa) (hc27 mTo) (hc28 mOt) (hc29 mNa) (hc30 mRe) (hc31 mMa) (hc32 mMy) (hc33 mPm) (hc34 mFy) (hc35 mFa) (hc36 mFr) (hc37 mFo) (hc38 mRt) (hc39 mRm) (hc40 mTt) (hc41 mTi) (hc42 mPl) (hc43 mVr) (hc44 mVf) (hc45 mVc) (hc46 mAr) (hc47 mTc) (hc48 mFt) (hc49 mGo) dyn, 0, 0) _
        refine pm_go (g := (148, [(6, .int 0), (8, .int (mFa (((3 * f) + s) + (nI k)).toNatClampNeg)), (7, .int (nI k)), (5, .int n9), (0, .ref 25), (1, .int m), (2, .int f), (3, .int s), (4, .int p)], [], _, 0, 0)) rfl ?_
        refine pm_go (g := (151, [(7, .int ((nI k) + 1)), (6, .int 0), (8, .int (mFa (((3 * f) + s) + (nI k)).toNatClampNeg)), (5, .int n9), (0, .ref 25), (1, .int m), (2, .int f), (3, .int s), (4, .int p)], [], _, 0, 0)) rfl ?_
        refine pm_go (g := (60, _, [], _, 0, 0)) rfl ?_
        refine pm_go (g := (62, _, [.int 0], _, 0, 0)) rfl ?_
        refine pm_brT (g := (154, [(7, .int ((nI k) + 1)), (6, .int 0), (8, .int (mFa (((3 * f) + s) + (nI k)).toNatClampNeg)), (5, .int n9), (0, .ref 25), (1, .int m), (2, .int f), (3, .int s), (4, .int p)], [], hq g c1 c2 c3 c4 c5 c6 c7 c8 c9 c10 c11 c12 c13 c14 c15 c16 c17 c18 c19 c20 c21 c22 c23 c24 (hc25 mTy mTm mMn mFn mRn mTn mVn mLr mTr mFl mFm mFp mSc mMp mEn) (hc26 mPa) (hc27 mTo) (hc28 mOt) (hc29 mNa) (hc30 mRe) (hc31 mMa) (hc32 mMy) (hc33 mPm) (hc34 mFy) (hc35 mFa) (hc36 mFr) (hc37 mFo) (hc38 mRt) (hc39 mRm) (hc40 mTt) (hc41 mTi) (hc42 mPl) (hc43 mVr) (hc44 mVf) (hc45 mVc) (hc46 mAr) (hc47 mTc) (hc48 mFt) (hc49 mGo) dyn, 0, 0)) rfl ?_
        refine pm_go (g := (156, _, [.int 0], _, 0, 0)) rfl ?_
        refine pm_ret rfl (k1 (fun q' => ?_))
        obtain ⟨q1, q2, q3⟩ := q' k (Nat.le_refl k) (by omega)
        first | (have q4 := q1 (by omega); simp_all; done) | (have q4 := q2 (by omega); contradiction) | (have q4 := q3 (by omega); contradiction)
      have h6 := qF_ne (cx := (p).toInt) (cy := 2) rfl (by decide) h6
      refine pm_go (g := (123, [(8, .int (mFa (((3 * f) + s) + (nI k)).toNatClampNeg)), (7, .int (nI k)), (6, .int 1), (5, .int n9), (0, .ref 25), (1, .int m), (2, .int f), (3, .int s), (4, .int p)], [.ref 25, .int (mFa (((3 * f) + s) + (nI k)).toNatClampNeg), .ref 25], _, 0, 0)) rfl ?_
      refine pm_go (g := (126, _, [.ref 33, .int (mFa (((3 * f) + s) + (nI k)).toNatClampNeg), .ref 25], _, 0, 0)) rfl ?_
      refine pm_go (g := (127, _, [.int 3, .ref 33, .int (mFa (((3 * f) + s) + (nI k)).toNatClampNeg), .ref 25], _, 0, 0)) rfl ?_
      refine pm_go (g := (128, _, [.int m, .int 3, .ref 33, .int (mFa (((3 * f) + s) + (nI k)).toNatClampNeg), .ref 25], _, 0, 0)) rfl ?_
      refine pm_go (g := (129, _, [.int (3 * m), .ref 33, .int (mFa (((3 * f) + s) + (nI k)).toNatClampNeg), .ref 25], _, 0, 0)) rfl ?_
      try have h11 : (3 * m).toInt = 3 * (m).toInt := iMul (x := 3) (y := (m).toInt) (by decide) rfl (by omega) (by omega)
      refine pm_go (g := (131, _, [.int (nI k), .int (3 * m), .ref 33, .int (mFa (((3 * f) + s) + (nI k)).toNatClampNeg), .ref 25], _, 0, 0)) rfl ?_
      refine pm_go (g := (132, _, [.int ((3 * m) + (nI k)), .ref 33, .int (mFa (((3 * f) + s) + (nI k)).toNatClampNeg), .ref 25], _, 0, 0)) rfl ?_
      try have h12 : ((3 * m) + (nI k)).toInt = (3 * m).toInt + (nI k).toInt := iAdd (x := (3 * m).toInt) (y := (nI k).toInt) rfl rfl (by omega) (by omega)
      refine pm_sd (g := (133, _, [.int (mPm ((3 * m) + (nI k)).toNatClampNeg), .int (mFa (((3 * f) + s) + (nI k)).toNatClampNeg), .ref 25], _, 0, 0)) rfl (pm_inI (by omega) (by omega)) ?_
      refine pm_go (g := (143, _, [.int (mPm ((3 * m) + (nI k)).toNatClampNeg), .int (mFa (((3 * f) + s) + (nI k)).toNatClampNeg), .ref 25], _, 0, 0)) rfl ?_
      refine pm_callD (z := 133) (as := [.ref 25, .int (mFa (((3 * f) + s) + (nI k)).toNatClampNeg), .int (mPm ((3 * m) + (nI k)).toNatClampNeg)]) (rest := []) rfl ?_
      refine w_X12_isLoose (mFa (((3 * f) + s) + (nI k)).toNatClampNeg) (mPm ((3 * m) + (nI k)).toNatClampNeg) (by assumption) (fun h13 => ?_) (fun h14 => ?_)
      ·
        show pm_WP 148 (146, [(8, .int (mFa (((3 * f) + s) + (nI k)).toNatClampNeg)), (7, .int (nI k)), (6, .int 1), (5, .int n9), (0, .ref 25), (1, .int m), (2, .int f), (3, .int s), (4, .int p)], [.int 1], _, 0, 0) _
        refine pm_go (g := (148, [(6, .int 1), (8, .int (mFa (((3 * f) + s) + (nI k)).toNatClampNeg)), (7, .int (nI k)), (5, .int n9), (0, .ref 25), (1, .int m), (2, .int f), (3, .int s), (4, .int p)], [], _, 0, 0)) rfl ?_
        refine pm_go (g := (151, [(7, .int ((nI k) + 1)), (6, .int 1), (8, .int (mFa (((3 * f) + s) + (nI k)).toNatClampNeg)), (5, .int n9), (0, .ref 25), (1, .int m), (2, .int f), (3, .int s), (4, .int p)], [], _, 0, 0)) rfl ?_
        refine pm_go (g := (60, _, [], _, 0, 0)) rfl ?_
        refine pm_sub (lv := [(7, .int ((nI k) + 1)), (6, .int 1), (5, .int n9), (0, .ref 25), (1, .int m), (2, .int f), (3, .int s), (4, .int p)]) ?_ ⟨le_c (List.Mem.head _) (le_c (List.Mem.tail _ (List.Mem.head _)) (le_c (List.Mem.tail _ (List.Mem.tail _ (List.Mem.tail _ (List.Mem.head _)))) (le_c (List.Mem.tail _ (List.Mem.tail _ (List.Mem.tail _ (List.Mem.tail _ (List.Mem.head _))))) (le_c (List.Mem.tail _ (List.Mem.tail _ (List.Mem.tail _ (List.Mem.tail _ (List.Mem.tail _ (List.Mem.head _)))))) (le_c (List.Mem.tail _ (List.Mem.tail _ (List.Mem.tail _ (List.Mem.tail _ (List.Mem.tail _ (List.Mem.tail _ (List.Mem.head _))))))) (le_c (List.Mem.tail _ (List.Mem.tail _ (List.Mem.tail _ (List.Mem.tail _ (List.Mem.tail _ (List.Mem.tail _ (List.Mem.tail _ (List.Mem.head _)))))))) (le_c (List.Mem.tail _ (List.Mem.tail _ (List.Mem.tail _ (List.Mem.tail _ (List.Mem.tail _ (List.Mem.tail _ (List.Mem.tail _ (List.Mem.tail _ (List.Mem.head _))))))))) le_n))))))), (show ([7, 6, 8, 5, 0, 1, 2, 3, 4] : List Nat).Nodup by decide)⟩
        rw [nI_1]
        refine ih (k + 1) (by omega) (by omega) (fun h => k0 (fun j g1 g2 => ?_)) (fun h => k1 (fun q => h (fun j g1 g2 => q j (by omega) g2)))
        rcases Nat.eq_or_lt_of_le g1 with e9 | e9
        · subst e9; exact (by refine ⟨fun q => ?_, fun q => ?_, fun q => ?_⟩ <;> first | (exfalso; omega) | assumption)
        · exact h j e9 g2
      show pm_WP 148 (146, [(8, .int (mFa (((3 * f) + s) + (nI k)).toNatClampNeg)), (7, .int (nI k)), (6, .int 1), (5, .int n9), (0, .ref 25), (1, .int m), (2, .int f), (3, .int s), (4, .int p)], [.int 0], hq g c1 c2 c3 c4 c5 c6 c7 c8 c9 c10 c11 c12 c13 c14 c15 c16 c17 c18 c19 c20 c21 c22 c23 c24 (hc25 mTy mTm mMn mFn mRn mTn mVn mLr mTr mFl mFm mFp mSc mMp mEn) (hc26 mPa) (hc27 mTo) (hc28 mOt) (hc29 mNa) (hc30 mRe) (hc31 mMa) (hc32 mMy) (hc33 mPm) (hc34 mFy) (hc35 mFa) (hc36 mFr) (hc37 mFo) (hc38 mRt) (hc39 mRm) (hc40 mTt) (hc41 mTi) (hc42 mPl) (hc43 mVr) (hc44 mVf) (hc45 mVc) (hc46 mAr) (hc47 mTc) (hc48 mFt) (hc49 mGo) dyn, 0, 0) _
      refine pm_go (g := (148, [(6, .int 0), (8, .int (mFa (((3 * f) + s) + (nI k)).toNatClampNeg)), (7, .int (nI k)), (5, .int n9), (0, .ref 25), (1, .int m), (2, .int f), (3, .int s), (4, .int p)], [], _, 0, 0)) rfl ?_
      refine pm_go (g := (151, [(7, .int ((nI k) + 1)), (6, .int 0), (8, .int (mFa (((3 * f) + s) + (nI k)).toNatClampNeg)), (5, .int n9), (0, .ref 25), (1, .int m), (2, .int f), (3, .int s), (4, .int p)], [], _, 0, 0)) rfl ?_
      refine pm_go (g := (60, _, [], _, 0, 0)) rfl ?_
      refine pm_go (g := (62, _, [.int 0], _, 0, 0)) rfl ?_
      refine pm_brT (g := (154, [(7, .int ((nI k) + 1)), (6, .int 0), (8, .int (mFa (((3 * f) + s) + (nI k)).toNatClampNeg)), (5, .int n9), (0, .ref 25), (1, .int m), (2, .int f), (3, .int s), (4, .int p)], [], hq g c1 c2 c3 c4 c5 c6 c7 c8 c9 c10 c11 c12 c13 c14 c15 c16 c17 c18 c19 c20 c21 c22 c23 c24 (hc25 mTy mTm mMn mFn mRn mTn mVn mLr mTr mFl mFm mFp mSc mMp mEn) (hc26 mPa) (hc27 mTo) (hc28 mOt) (hc29 mNa) (hc30 mRe) (hc31 mMa) (hc32 mMy) (hc33 mPm) (hc34 mFy) (hc35 mFa) (hc36 mFr) (hc37 mFo) (hc38 mRt) (hc39 mRm) (hc40 mTt) (hc41 mTi) (hc42 mPl) (hc43 mVr) (hc44 mVf) (hc45 mVc) (hc46 mAr) (hc47 mTc) (hc48 mFt) (hc49 mGo) dyn, 0, 0)) rfl ?_
      refine pm_go (g := (156, _, [.int 0], _, 0, 0)) rfl ?_
      refine pm_ret rfl (k1 (fun q' => ?_))
      obtain ⟨q1, q2, q3⟩ := q' k (Nat.le_refl k) (by omega)
      first | (have q4 := q1 (by omega); simp_all; done) | (have q4 := q2 (by omega); contradiction) | (have q4 := q3 (by omega); contradiction)
    have h5 := qF_ne (cx := (p).toInt) (cy := 1) rfl (by decide) h5
    refine pm_go (g := (94, [(8, .int (mFa (((3 * f) + s) + (nI k)).toNatClampNeg)), (7, .int (nI k)), (6, .int 1), (5, .int n9), (0, .ref 25), (1, .int m), (2, .int f), (3, .int s), (4, .int p)], [.ref 25], _, 0, 0)) rfl ?_
    refine pm_go (g := (96, _, [.int (mFa (((3 * f) + s) + (nI k)).toNatClampNeg), .ref 25], _, 0, 0)) rfl ?_
    refine pm_go (g := (97, _, [.ref 25, .int (mFa (((3 * f) + s) + (nI k)).toNatClampNeg), .ref 25], _, 0, 0)) rfl ?_
    refine pm_go (g := (100, _, [.ref 33, .int (mFa (((3 * f) + s) + (nI k)).toNatClampNeg), .ref 25], _, 0, 0)) rfl ?_
    refine pm_go (g := (101, _, [.int 3, .ref 33, .int (mFa (((3 * f) + s) + (nI k)).toNatClampNeg), .ref 25], _, 0, 0)) rfl ?_
    refine pm_go (g := (102, _, [.int m, .int 3, .ref 33, .int (mFa (((3 * f) + s) + (nI k)).toNatClampNeg), .ref 25], _, 0, 0)) rfl ?_
    refine pm_go (g := (103, _, [.int (3 * m), .ref 33, .int (mFa (((3 * f) + s) + (nI k)).toNatClampNeg), .ref 25], _, 0, 0)) rfl ?_
    try have h16 : (3 * m).toInt = 3 * (m).toInt := iMul (x := 3) (y := (m).toInt) (by decide) rfl (by omega) (by omega)
    refine pm_go (g := (105, _, [.int (nI k), .int (3 * m), .ref 33, .int (mFa (((3 * f) + s) + (nI k)).toNatClampNeg), .ref 25], _, 0, 0)) rfl ?_
    refine pm_go (g := (106, _, [.int ((3 * m) + (nI k)), .ref 33, .int (mFa (((3 * f) + s) + (nI k)).toNatClampNeg), .ref 25], _, 0, 0)) rfl ?_
    try have h17 : ((3 * m) + (nI k)).toInt = (3 * m).toInt + (nI k).toInt := iAdd (x := (3 * m).toInt) (y := (nI k).toInt) rfl rfl (by omega) (by omega)
    refine pm_sd (g := (107, _, [.int (mPm ((3 * m) + (nI k)).toNatClampNeg), .int (mFa (((3 * f) + s) + (nI k)).toNatClampNeg), .ref 25], _, 0, 0)) rfl (pm_inI (by omega) (by omega)) ?_
    refine pm_callD (z := 132) (as := [.ref 25, .int (mFa (((3 * f) + s) + (nI k)).toNatClampNeg), .int (mPm ((3 * m) + (nI k)).toNatClampNeg)]) (rest := []) rfl ?_
    refine w_X12_isUnder (mFa (((3 * f) + s) + (nI k)).toNatClampNeg) (mPm ((3 * m) + (nI k)).toNatClampNeg) (by assumption) (fun h18 => ?_) (fun h19 => ?_)
    ·
      show pm_WP 148 (110, [(8, .int (mFa (((3 * f) + s) + (nI k)).toNatClampNeg)), (7, .int (nI k)), (6, .int 1), (5, .int n9), (0, .ref 25), (1, .int m), (2, .int f), (3, .int s), (4, .int p)], [.int 1], _, 0, 0) _
      refine pm_go (g := (146, _, [.int 1], _, 0, 0)) rfl ?_
      refine pm_go (g := (148, [(6, .int 1), (8, .int (mFa (((3 * f) + s) + (nI k)).toNatClampNeg)), (7, .int (nI k)), (5, .int n9), (0, .ref 25), (1, .int m), (2, .int f), (3, .int s), (4, .int p)], [], _, 0, 0)) rfl ?_
      refine pm_go (g := (151, [(7, .int ((nI k) + 1)), (6, .int 1), (8, .int (mFa (((3 * f) + s) + (nI k)).toNatClampNeg)), (5, .int n9), (0, .ref 25), (1, .int m), (2, .int f), (3, .int s), (4, .int p)], [], _, 0, 0)) rfl ?_
      refine pm_go (g := (60, _, [], _, 0, 0)) rfl ?_
      refine pm_sub (lv := [(7, .int ((nI k) + 1)), (6, .int 1), (5, .int n9), (0, .ref 25), (1, .int m), (2, .int f), (3, .int s), (4, .int p)]) ?_ ⟨le_c (List.Mem.head _) (le_c (List.Mem.tail _ (List.Mem.head _)) (le_c (List.Mem.tail _ (List.Mem.tail _ (List.Mem.tail _ (List.Mem.head _)))) (le_c (List.Mem.tail _ (List.Mem.tail _ (List.Mem.tail _ (List.Mem.tail _ (List.Mem.head _))))) (le_c (List.Mem.tail _ (List.Mem.tail _ (List.Mem.tail _ (List.Mem.tail _ (List.Mem.tail _ (List.Mem.head _)))))) (le_c (List.Mem.tail _ (List.Mem.tail _ (List.Mem.tail _ (List.Mem.tail _ (List.Mem.tail _ (List.Mem.tail _ (List.Mem.head _))))))) (le_c (List.Mem.tail _ (List.Mem.tail _ (List.Mem.tail _ (List.Mem.tail _ (List.Mem.tail _ (List.Mem.tail _ (List.Mem.tail _ (List.Mem.head _)))))))) (le_c (List.Mem.tail _ (List.Mem.tail _ (List.Mem.tail _ (List.Mem.tail _ (List.Mem.tail _ (List.Mem.tail _ (List.Mem.tail _ (List.Mem.tail _ (List.Mem.head _))))))))) le_n))))))), (show ([7, 6, 8, 5, 0, 1, 2, 3, 4] : List Nat).Nodup by decide)⟩
      rw [nI_1]
      refine ih (k + 1) (by omega) (by omega) (fun h => k0 (fun j g1 g2 => ?_)) (fun h => k1 (fun q => h (fun j g1 g2 => q j (by omega) g2)))
      rcases Nat.eq_or_lt_of_le g1 with e9 | e9
      · subst e9; exact (by refine ⟨fun q => ?_, fun q => ?_, fun q => ?_⟩ <;> first | (exfalso; omega) | assumption)
      · exact h j e9 g2
    show pm_WP 148 (110, [(8, .int (mFa (((3 * f) + s) + (nI k)).toNatClampNeg)), (7, .int (nI k)), (6, .int 1), (5, .int n9), (0, .ref 25), (1, .int m), (2, .int f), (3, .int s), (4, .int p)], [.int 0], hq g c1 c2 c3 c4 c5 c6 c7 c8 c9 c10 c11 c12 c13 c14 c15 c16 c17 c18 c19 c20 c21 c22 c23 c24 (hc25 mTy mTm mMn mFn mRn mTn mVn mLr mTr mFl mFm mFp mSc mMp mEn) (hc26 mPa) (hc27 mTo) (hc28 mOt) (hc29 mNa) (hc30 mRe) (hc31 mMa) (hc32 mMy) (hc33 mPm) (hc34 mFy) (hc35 mFa) (hc36 mFr) (hc37 mFo) (hc38 mRt) (hc39 mRm) (hc40 mTt) (hc41 mTi) (hc42 mPl) (hc43 mVr) (hc44 mVf) (hc45 mVc) (hc46 mAr) (hc47 mTc) (hc48 mFt) (hc49 mGo) dyn, 0, 0) _
    refine pm_go (g := (146, _, [.int 0], _, 0, 0)) rfl ?_
    refine pm_go (g := (148, [(6, .int 0), (8, .int (mFa (((3 * f) + s) + (nI k)).toNatClampNeg)), (7, .int (nI k)), (5, .int n9), (0, .ref 25), (1, .int m), (2, .int f), (3, .int s), (4, .int p)], [], _, 0, 0)) rfl ?_
    refine pm_go (g := (151, [(7, .int ((nI k) + 1)), (6, .int 0), (8, .int (mFa (((3 * f) + s) + (nI k)).toNatClampNeg)), (5, .int n9), (0, .ref 25), (1, .int m), (2, .int f), (3, .int s), (4, .int p)], [], _, 0, 0)) rfl ?_
    refine pm_go (g := (60, _, [], _, 0, 0)) rfl ?_
    refine pm_go (g := (62, _, [.int 0], _, 0, 0)) rfl ?_
    refine pm_brT (g := (154, [(7, .int ((nI k) + 1)), (6, .int 0), (8, .int (mFa (((3 * f) + s) + (nI k)).toNatClampNeg)), (5, .int n9), (0, .ref 25), (1, .int m), (2, .int f), (3, .int s), (4, .int p)], [], hq g c1 c2 c3 c4 c5 c6 c7 c8 c9 c10 c11 c12 c13 c14 c15 c16 c17 c18 c19 c20 c21 c22 c23 c24 (hc25 mTy mTm mMn mFn mRn mTn mVn mLr mTr mFl mFm mFp mSc mMp mEn) (hc26 mPa) (hc27 mTo) (hc28 mOt) (hc29 mNa) (hc30 mRe) (hc31 mMa) (hc32 mMy) (hc33 mPm) (hc34 mFy) (hc35 mFa) (hc36 mFr) (hc37 mFo) (hc38 mRt) (hc39 mRm) (hc40 mTt) (hc41 mTi) (hc42 mPl) (hc43 mVr) (hc44 mVf) (hc45 mVc) (hc46 mAr) (hc47 mTc) (hc48 mFt) (hc49 mGo) dyn, 0, 0)) rfl ?_
    refine pm_go (g := (156, _, [.int 0], _, 0, 0)) rfl ?_
    refine pm_ret rfl (k1 (fun q' => ?_))
    obtain ⟨q1, q2, q3⟩ := q' k (Nat.le_refl k) (by omega)
    first | (have q4 := q1 (by omega); simp_all; done) | (have q4 := q2 (by omega); contradiction) | (have q4 := q3 (by omega); contradiction)
set_option maxRecDepth 100000 in
set_option maxHeartbeats 4000000 in
theorem w_X12_takes {g c1 c2 c3 c4 c5 c6 c7 c8 c9 c10 c11 c12 c13 c14 c15 c16 c17 c18 c19 c20 c21 c22 c23 c24 : pm_C} {dyn : pm_H} {mTy : Int32} {mPa : Nat → Int32} {mTo : Nat → Int32} {mTm : Int32} {mMn : Int32} {mOt : Nat → Int32} {mNa : Nat → Int32} {mRe : Nat → Int32} {mMa : Nat → Int32} {mMy : Nat → Int32} {mPm : Nat → Int32} {mFn : Int32} {mFy : Nat → Int32} {mFa : Nat → Int32} {mFr : Nat → Int32} {mRn : Int32} {mFo : Nat → Int32} {mRt : Nat → Int32} {mRm : Nat → Int32} {mTn : Int32} {mTt : Nat → Int32} {mTi : Nat → Int32} {mPl : Nat → Int32} {mVn : Int32} {mVr : Nat → Int32} {mVf : Nat → Int32} {mVc : Nat → Int32} {mAr : Nat → Int32} {mLr : Int32} {mTc : Nat → Int32} {mTr : Int32} {mFl : Int32} {mFt : Nat → Int32} {mFm : Int32} {mFp : Int32} {mSc : Int32} {mMp : Int32} {mEn : Int32} {mGo : Nat → Int32} {Q : pm_Q} (m : Int32) (f : Int32) (s : Int32) (p : Int32) (p0 : 0 ≤ m.toInt ∧ m.toInt < 40) (p1 : 0 ≤ f.toInt ∧ f.toInt < 10) (p2 : 0 ≤ s.toInt ∧ s.toInt ≤ 1) (p3 : s.toInt ≤ (mFy f.toNatClampNeg).toInt ∧ (mFy f.toNatClampNeg).toInt ≤ 3) (p4 : 1 ≤ p.toInt ∧ p.toInt ≤ 3) (p5 : paD mPa) (p6 : myD mMy) (p7 : vrD mMa mMy) (k0 : tkM mPa mMy mPm mFa mMa mFy m f s p → Q (some (.int 1)) (hq g c1 c2 c3 c4 c5 c6 c7 c8 c9 c10 c11 c12 c13 c14 c15 c16 c17 c18 c19 c20 c21 c22 c23 c24 (hc25 mTy mTm mMn mFn mRn mTn mVn mLr mTr mFl mFm mFp mSc mMp mEn) (hc26 mPa) (hc27 mTo) (hc28 mOt) (hc29 mNa) (hc30 mRe) (hc31 mMa) (hc32 mMy) (hc33 mPm) (hc34 mFy) (hc35 mFa) (hc36 mFr) (hc37 mFo) (hc38 mRt) (hc39 mRm) (hc40 mTt) (hc41 mTi) (hc42 mPl) (hc43 mVr) (hc44 mVf) (hc45 mVc) (hc46 mAr) (hc47 mTc) (hc48 mFt) (hc49 mGo) dyn)) (k1 : ¬ tkM mPa mMy mPm mFa mMa mFy m f s p → Q (some (.int 0)) (hq g c1 c2 c3 c4 c5 c6 c7 c8 c9 c10 c11 c12 c13 c14 c15 c16 c17 c18 c19 c20 c21 c22 c23 c24 (hc25 mTy mTm mMn mFn mRn mTn mVn mLr mTr mFl mFm mFp mSc mMp mEn) (hc26 mPa) (hc27 mTo) (hc28 mOt) (hc29 mNa) (hc30 mRe) (hc31 mMa) (hc32 mMy) (hc33 mPm) (hc34 mFy) (hc35 mFa) (hc36 mFr) (hc37 mFo) (hc38 mRt) (hc39 mRm) (hc40 mTt) (hc41 mTi) (hc42 mPl) (hc43 mVr) (hc44 mVf) (hc45 mVc) (hc46 mAr) (hc47 mTc) (hc48 mFt) (hc49 mGo) dyn)) : pm_WP 148 (0, [(0, .ref 25), (1, .int m), (2, .int f), (3, .int s), (4, .int p)], [], hq g c1 c2 c3 c4 c5 c6 c7 c8 c9 c10 c11 c12 c13 c14 c15 c16 c17 c18 c19 c20 c21 c22 c23 c24 (hc25 mTy mTm mMn mFn mRn mTn mVn mLr mTr mFl mFm mFp mSc mMp mEn) (hc26 mPa) (hc27 mTo) (hc28 mOt) (hc29 mNa) (hc30 mRe) (hc31 mMa) (hc32 mMy) (hc33 mPm) (hc34 mFy) (hc35 mFa) (hc36 mFr) (hc37 mFo) (hc38 mRt) (hc39 mRm) (hc40 mTt) (hc41 mTi) (hc42 mPl) (hc43 mVr) (hc44 mVf) (hc45 mVc) (hc46 mAr) (hc47 mTc) (hc48 mFt) (hc49 mGo) dyn, 0, 0) Q := by
  have hyy := myD_at p6 p0.1 p0.2
  refine pm_go (g := (1, [(0, .ref 25), (1, .int m), (2, .int f), (3, .int s), (4, .int p)], [.ref 25], hq g c1 c2 c3 c4 c5 c6 c7 c8 c9 c10 c11 c12 c13 c14 c15 c16 c17 c18 c19 c20 c21 c22 c23 c24 (hc25 mTy mTm mMn mFn mRn mTn mVn mLr mTr mFl mFm mFp mSc mMp mEn) (hc26 mPa) (hc27 mTo) (hc28 mOt) (hc29 mNa) (hc30 mRe) (hc31 mMa) (hc32 mMy) (hc33 mPm) (hc34 mFy) (hc35 mFa) (hc36 mFr) (hc37 mFo) (hc38 mRt) (hc39 mRm) (hc40 mTt) (hc41 mTi) (hc42 mPl) (hc43 mVr) (hc44 mVf) (hc45 mVc) (hc46 mAr) (hc47 mTc) (hc48 mFt) (hc49 mGo) dyn, 0, 0)) rfl ?_
  refine pm_go (g := (4, _, [.ref 34], _, 0, 0)) rfl ?_
  refine pm_go (g := (5, _, [.int f, .ref 34], _, 0, 0)) rfl ?_
  refine pm_sd (g := (6, _, [.int (mFy (f).toNatClampNeg)], _, 0, 0)) rfl (pm_inI (by omega) (by omega)) ?_
  refine pm_go (g := (7, _, [.int s, .int (mFy (f).toNatClampNeg)], _, 0, 0)) rfl ?_
  refine pm_go (g := (8, _, [.int ((mFy (f).toNatClampNeg) - s)], _, 0, 0)) rfl ?_
  try have h1 : ((mFy (f).toNatClampNeg) - s).toInt = (mFy (f).toNatClampNeg).toInt - (s).toInt := iSub (x := (mFy (f).toNatClampNeg).toInt) (y := (s).toInt) rfl rfl (by omega) (by omega)
  refine pm_go (g := (10, [(5, .int ((mFy (f).toNatClampNeg) - s)), (0, .ref 25), (1, .int m), (2, .int f), (3, .int s), (4, .int p)], [], _, 0, 0)) rfl ?_
  refine pm_go (g := (12, _, [.int p], _, 0, 0)) rfl ?_
  refine pm_go (g := (13, _, [.int 3, .int p], _, 0, 0)) rfl ?_
  refine pm_if2 (g := (30, [(5, .int ((mFy (f).toNatClampNeg) - s)), (0, .ref 25), (1, .int m), (2, .int f), (3, .int s), (4, .int p)], [], hq g c1 c2 c3 c4 c5 c6 c7 c8 c9 c10 c11 c12 c13 c14 c15 c16 c17 c18 c19 c20 c21 c22 c23 c24 (hc25 mTy mTm mMn mFn mRn mTn mVn mLr mTr mFl mFm mFp mSc mMp mEn) (hc26 mPa) (hc27 mTo) (hc28 mOt) (hc29 mNa) (hc30 mRe) (hc31 mMa) (hc32 mMy) (hc33 mPm) (hc34 mFy) (hc35 mFa) (hc36 mFr) (hc37 mFo) (hc38 mRt) (hc39 mRm) (hc40 mTt) (hc41 mTi) (hc42 mPl) (hc43 mVr) (hc44 mVf) (hc45 mVc) (hc46 mAr) (hc47 mTc) (hc48 mFt) (hc49 mGo) dyn, 0, 0)) (h := (16, [(5, .int ((mFy (f).toNatClampNeg) - s)), (0, .ref 25), (1, .int m), (2, .int f), (3, .int s), (4, .int p)], [], hq g c1 c2 c3 c4 c5 c6 c7 c8 c9 c10 c11 c12 c13 c14 c15 c16 c17 c18 c19 c20 c21 c22 c23 c24 (hc25 mTy mTm mMn mFn mRn mTn mVn mLr mTr mFl mFm mFp mSc mMp mEn) (hc26 mPa) (hc27 mTo) (hc28 mOt) (hc29 mNa) (hc30 mRe) (hc31 mMa) (hc32 mMy) (hc33 mPm) (hc34 mFy) (hc35 mFa) (hc36 mFr) (hc37 mFo) (hc38 mRt) (hc39 mRm) (hc40 mTt) (hc41 mTi) (hc42 mPl) (hc43 mVr) (hc44 mVf) (hc45 mVc) (hc46 mAr) (hc47 mTc) (hc48 mFt) (hc49 mGo) dyn, 0, 0)) rfl (fun h2 => ?_) (fun h2 => ?_)
  ·
    have h2 := qT_ge (cx := (p).toInt) (cy := 3) rfl (by decide) h2
    refine pm_go (g := (31, _, [.ref 25], _, 0, 0)) rfl ?_
    refine pm_go (g := (32, _, [.int m, .ref 25], _, 0, 0)) rfl ?_
    refine pm_go (g := (33, _, [.int 4, .int m, .ref 25], _, 0, 0)) rfl ?_
    refine pm_callD (z := 139) (as := [.ref 25, .int m, .int 4]) (rest := []) rfl ?_
    have h3 : (4 : Int32).toInt = 4 := by decide
    refine w_X12_isMark m 4 (by omega) (fun h4 => ?_) (fun h5 => ?_)
    ·
      show pm_WP 148 (36, [(5, .int ((mFy (f).toNatClampNeg) - s)), (0, .ref 25), (1, .int m), (2, .int f), (3, .int s), (4, .int p)], [.int 1], _, 0, 0) _
      refine pm_brF (h := (39, [(5, .int ((mFy (f).toNatClampNeg) - s)), (0, .ref 25), (1, .int m), (2, .int f), (3, .int s), (4, .int p)], [], hq g c1 c2 c3 c4 c5 c6 c7 c8 c9 c10 c11 c12 c13 c14 c15 c16 c17 c18 c19 c20 c21 c22 c23 c24 (hc25 mTy mTm mMn mFn mRn mTn mVn mLr mTr mFl mFm mFp mSc mMp mEn) (hc26 mPa) (hc27 mTo) (hc28 mOt) (hc29 mNa) (hc30 mRe) (hc31 mMa) (hc32 mMy) (hc33 mPm) (hc34 mFy) (hc35 mFa) (hc36 mFr) (hc37 mFo) (hc38 mRt) (hc39 mRm) (hc40 mTt) (hc41 mTi) (hc42 mPl) (hc43 mVr) (hc44 mVf) (hc45 mVc) (hc46 mAr) (hc47 mTc) (hc48 mFt) (hc49 mGo) dyn, 0, 0)) rfl ?_
      refine pm_go (g := (40, _, [.ref 25], _, 0, 0)) rfl ?_
      refine pm_go (g := (43, _, [.ref 32], _, 0, 0)) rfl ?_
      refine pm_go (g := (44, _, [.int m, .ref 32], _, 0, 0)) rfl ?_
      refine pm_sd (g := (45, _, [.int (mMy (m).toNatClampNeg)], _, 0, 0)) rfl (pm_inI (by omega) (by omega)) ?_
      refine pm_go (g := (47, _, [.int ((mFy (f).toNatClampNeg) - s), .int (mMy (m).toNatClampNeg)], _, 0, 0)) rfl ?_
      refine pm_go (g := (48, _, [.int 1, .int ((mFy (f).toNatClampNeg) - s), .int (mMy (m).toNatClampNeg)], _, 0, 0)) rfl ?_
      refine pm_go (g := (49, _, [.int (((mFy (f).toNatClampNeg) - s) + 1), .int (mMy (m).toNatClampNeg)], _, 0, 0)) rfl ?_
      try have h7 : (((mFy (f).toNatClampNeg) - s) + 1).toInt = ((mFy (f).toNatClampNeg) - s).toInt + 1 := iAdd (x := ((mFy (f).toNatClampNeg) - s).toInt) (y := 1) rfl (by decide) (by omega) (by omega)
      refine pm_if2 (g := (54, [(5, .int ((mFy (f).toNatClampNeg) - s)), (0, .ref 25), (1, .int m), (2, .int f), (3, .int s), (4, .int p)], [], hq g c1 c2 c3 c4 c5 c6 c7 c8 c9 c10 c11 c12 c13 c14 c15 c16 c17 c18 c19 c20 c21 c22 c23 c24 (hc25 mTy mTm mMn mFn mRn mTn mVn mLr mTr mFl mFm mFp mSc mMp mEn) (hc26 mPa) (hc27 mTo) (hc28 mOt) (hc29 mNa) (hc30 mRe) (hc31 mMa) (hc32 mMy) (hc33 mPm) (hc34 mFy) (hc35 mFa) (hc36 mFr) (hc37 mFo) (hc38 mRt) (hc39 mRm) (hc40 mTt) (hc41 mTi) (hc42 mPl) (hc43 mVr) (hc44 mVf) (hc45 mVc) (hc46 mAr) (hc47 mTc) (hc48 mFt) (hc49 mGo) dyn, 0, 0)) (h := (52, [(5, .int ((mFy (f).toNatClampNeg) - s)), (0, .ref 25), (1, .int m), (2, .int f), (3, .int s), (4, .int p)], [], hq g c1 c2 c3 c4 c5 c6 c7 c8 c9 c10 c11 c12 c13 c14 c15 c16 c17 c18 c19 c20 c21 c22 c23 c24 (hc25 mTy mTm mMn mFn mRn mTn mVn mLr mTr mFl mFm mFp mSc mMp mEn) (hc26 mPa) (hc27 mTo) (hc28 mOt) (hc29 mNa) (hc30 mRe) (hc31 mMa) (hc32 mMy) (hc33 mPm) (hc34 mFy) (hc35 mFa) (hc36 mFr) (hc37 mFo) (hc38 mRt) (hc39 mRm) (hc40 mTt) (hc41 mTi) (hc42 mPl) (hc43 mVr) (hc44 mVf) (hc45 mVc) (hc46 mAr) (hc47 mTc) (hc48 mFt) (hc49 mGo) dyn, 0, 0)) rfl (fun h8 => ?_) (fun h8 => ?_)
      ·
        have h8 := qT_le (cx := (mMy (m).toNatClampNeg).toInt) (cy := (((mFy (f).toNatClampNeg) - s) + 1).toInt) rfl rfl h8
        refine pm_go (g := (55, _, [.int 1], _, 0, 0)) rfl ?_
        refine pm_go (g := (57, [(6, .int 1), (5, .int ((mFy (f).toNatClampNeg) - s)), (0, .ref 25), (1, .int m), (2, .int f), (3, .int s), (4, .int p)], [], _, 0, 0)) rfl ?_
        refine pm_go (g := (58, _, [.int 0], _, 0, 0)) rfl ?_
        refine pm_go (g := (60, [(7, .int 0), (6, .int 1), (5, .int ((mFy (f).toNatClampNeg) - s)), (0, .ref 25), (1, .int m), (2, .int f), (3, .int s), (4, .int p)], [], _, 0, 0)) rfl ?_
        refine pm_sub (lv := [(7, .int 0), (6, .int 1), (5, .int ((mFy (f).toNatClampNeg) - s)), (0, .ref 25), (1, .int m), (2, .int f), (3, .int s), (4, .int p)]) ?_ ⟨le_c (List.Mem.head _) (le_c (List.Mem.tail _ (List.Mem.head _)) (le_c (List.Mem.tail _ (List.Mem.tail _ (List.Mem.head _))) (le_c (List.Mem.tail _ (List.Mem.tail _ (List.Mem.tail _ (List.Mem.head _)))) (le_c (List.Mem.tail _ (List.Mem.tail _ (List.Mem.tail _ (List.Mem.tail _ (List.Mem.head _))))) (le_c (List.Mem.tail _ (List.Mem.tail _ (List.Mem.tail _ (List.Mem.tail _ (List.Mem.tail _ (List.Mem.head _)))))) (le_c (List.Mem.tail _ (List.Mem.tail _ (List.Mem.tail _ (List.Mem.tail _ (List.Mem.tail _ (List.Mem.tail _ (List.Mem.head _))))))) (le_c (List.Mem.tail _ (List.Mem.tail _ (List.Mem.tail _ (List.Mem.tail _ (List.Mem.tail _ (List.Mem.tail _ (List.Mem.tail _ (List.Mem.head _)))))))) le_n))))))), (show ([7, 6, 5, 0, 1, 2, 3, 4] : List Nat).Nodup by decide)⟩
        have hcnt : (p.toInt < 3 ∧ (mMy m.toNatClampNeg).toInt = (mFy f.toNatClampNeg).toInt - s.toInt) ∨ (p.toInt = 3 ∧ (mMa m.toNatClampNeg &&& 4).toInt ≠ 0 ∧ (mMy m.toNatClampNeg).toInt ≤ (mFy f.toNatClampNeg).toInt - s.toInt + 1) := by omega
        have hmy : p.toInt < 3 ∧ (mMy m.toNatClampNeg).toInt = ((mFy (f).toNatClampNeg) - s).toInt ∨ p.toInt = 3 ∧ 1 ≤ (mMy m.toNatClampNeg).toInt ∧ (mMy m.toNatClampNeg).toInt ≤ 3 := by first | omega | (have hv1 := vrD_at p7 p0.1 p0.2 (by omega); omega)
        exact w_takes_loop m f s p ((mFy (f).toNatClampNeg) - s) p0 p1 p2 (by omega) p4 p5 hmy 4 0 (by omega) (by omega) (fun h => k0 ⟨hcnt, fun j g1 g2 => h j g1 (by omega)⟩) (fun h => k1 (fun q => h (fun j g1 g2 => q.2 j g1 (by omega))))
      have h8 := qF_le (cx := (mMy (m).toNatClampNeg).toInt) (cy := (((mFy (f).toNatClampNeg) - s) + 1).toInt) rfl rfl h8
      refine pm_go (g := (53, [(5, .int ((mFy (f).toNatClampNeg) - s)), (0, .ref 25), (1, .int m), (2, .int f), (3, .int s), (4, .int p)], [.int 0], _, 0, 0)) rfl ?_
      exact pm_ret rfl (k1 (fun q => by have e1 := q.1; omega))
    show pm_WP 148 (36, [(5, .int ((mFy (f).toNatClampNeg) - s)), (0, .ref 25), (1, .int m), (2, .int f), (3, .int s), (4, .int p)], [.int 0], hq g c1 c2 c3 c4 c5 c6 c7 c8 c9 c10 c11 c12 c13 c14 c15 c16 c17 c18 c19 c20 c21 c22 c23 c24 (hc25 mTy mTm mMn mFn mRn mTn mVn mLr mTr mFl mFm mFp mSc mMp mEn) (hc26 mPa) (hc27 mTo) (hc28 mOt) (hc29 mNa) (hc30 mRe) (hc31 mMa) (hc32 mMy) (hc33 mPm) (hc34 mFy) (hc35 mFa) (hc36 mFr) (hc37 mFo) (hc38 mRt) (hc39 mRm) (hc40 mTt) (hc41 mTi) (hc42 mPl) (hc43 mVr) (hc44 mVf) (hc45 mVc) (hc46 mAr) (hc47 mTc) (hc48 mFt) (hc49 mGo) dyn, 0, 0) _
    refine pm_brT (g := (52, [(5, .int ((mFy (f).toNatClampNeg) - s)), (0, .ref 25), (1, .int m), (2, .int f), (3, .int s), (4, .int p)], [], hq g c1 c2 c3 c4 c5 c6 c7 c8 c9 c10 c11 c12 c13 c14 c15 c16 c17 c18 c19 c20 c21 c22 c23 c24 (hc25 mTy mTm mMn mFn mRn mTn mVn mLr mTr mFl mFm mFp mSc mMp mEn) (hc26 mPa) (hc27 mTo) (hc28 mOt) (hc29 mNa) (hc30 mRe) (hc31 mMa) (hc32 mMy) (hc33 mPm) (hc34 mFy) (hc35 mFa) (hc36 mFr) (hc37 mFo) (hc38 mRt) (hc39 mRm) (hc40 mTt) (hc41 mTi) (hc42 mPl) (hc43 mVr) (hc44 mVf) (hc45 mVc) (hc46 mAr) (hc47 mTc) (hc48 mFt) (hc49 mGo) dyn, 0, 0)) rfl ?_
    refine pm_go (g := (53, _, [.int 0], _, 0, 0)) rfl ?_
    exact pm_ret rfl (k1 (fun q => by have e1 := q.1; omega))
  have h2 := qF_ge (cx := (p).toInt) (cy := 3) rfl (by decide) h2
  refine pm_go (g := (17, _, [.ref 25], _, 0, 0)) rfl ?_
  refine pm_go (g := (20, _, [.ref 32], _, 0, 0)) rfl ?_
  refine pm_go (g := (21, _, [.int m, .ref 32], _, 0, 0)) rfl ?_
  refine pm_sd (g := (22, _, [.int (mMy (m).toNatClampNeg)], _, 0, 0)) rfl (pm_inI (by omega) (by omega)) ?_
  refine pm_go (g := (24, _, [.int ((mFy (f).toNatClampNeg) - s), .int (mMy (m).toNatClampNeg)], _, 0, 0)) rfl ?_
  refine pm_if2 (g := (54, [(5, .int ((mFy (f).toNatClampNeg) - s)), (0, .ref 25), (1, .int m), (2, .int f), (3, .int s), (4, .int p)], [], hq g c1 c2 c3 c4 c5 c6 c7 c8 c9 c10 c11 c12 c13 c14 c15 c16 c17 c18 c19 c20 c21 c22 c23 c24 (hc25 mTy mTm mMn mFn mRn mTn mVn mLr mTr mFl mFm mFp mSc mMp mEn) (hc26 mPa) (hc27 mTo) (hc28 mOt) (hc29 mNa) (hc30 mRe) (hc31 mMa) (hc32 mMy) (hc33 mPm) (hc34 mFy) (hc35 mFa) (hc36 mFr) (hc37 mFo) (hc38 mRt) (hc39 mRm) (hc40 mTt) (hc41 mTi) (hc42 mPl) (hc43 mVr) (hc44 mVf) (hc45 mVc) (hc46 mAr) (hc47 mTc) (hc48 mFt) (hc49 mGo) dyn, 0, 0)) (h := (27, [(5, .int ((mFy (f).toNatClampNeg) - s)), (0, .ref 25), (1, .int m), (2, .int f), (3, .int s), (4, .int p)], [], hq g c1 c2 c3 c4 c5 c6 c7 c8 c9 c10 c11 c12 c13 c14 c15 c16 c17 c18 c19 c20 c21 c22 c23 c24 (hc25 mTy mTm mMn mFn mRn mTn mVn mLr mTr mFl mFm mFp mSc mMp mEn) (hc26 mPa) (hc27 mTo) (hc28 mOt) (hc29 mNa) (hc30 mRe) (hc31 mMa) (hc32 mMy) (hc33 mPm) (hc34 mFy) (hc35 mFa) (hc36 mFr) (hc37 mFo) (hc38 mRt) (hc39 mRm) (hc40 mTt) (hc41 mTi) (hc42 mPl) (hc43 mVr) (hc44 mVf) (hc45 mVc) (hc46 mAr) (hc47 mTc) (hc48 mFt) (hc49 mGo) dyn, 0, 0)) rfl (fun h9 => ?_) (fun h9 => ?_)
  ·
    have h9 := qT_eq (cx := (mMy (m).toNatClampNeg).toInt) (cy := ((mFy (f).toNatClampNeg) - s).toInt) rfl rfl h9
    refine pm_go (g := (55, _, [.int 1], _, 0, 0)) rfl ?_
    refine pm_go (g := (57, [(6, .int 1), (5, .int ((mFy (f).toNatClampNeg) - s)), (0, .ref 25), (1, .int m), (2, .int f), (3, .int s), (4, .int p)], [], _, 0, 0)) rfl ?_
    refine pm_go (g := (58, _, [.int 0], _, 0, 0)) rfl ?_
    refine pm_go (g := (60, [(7, .int 0), (6, .int 1), (5, .int ((mFy (f).toNatClampNeg) - s)), (0, .ref 25), (1, .int m), (2, .int f), (3, .int s), (4, .int p)], [], _, 0, 0)) rfl ?_
    refine pm_sub (lv := [(7, .int 0), (6, .int 1), (5, .int ((mFy (f).toNatClampNeg) - s)), (0, .ref 25), (1, .int m), (2, .int f), (3, .int s), (4, .int p)]) ?_ ⟨le_c (List.Mem.head _) (le_c (List.Mem.tail _ (List.Mem.head _)) (le_c (List.Mem.tail _ (List.Mem.tail _ (List.Mem.head _))) (le_c (List.Mem.tail _ (List.Mem.tail _ (List.Mem.tail _ (List.Mem.head _)))) (le_c (List.Mem.tail _ (List.Mem.tail _ (List.Mem.tail _ (List.Mem.tail _ (List.Mem.head _))))) (le_c (List.Mem.tail _ (List.Mem.tail _ (List.Mem.tail _ (List.Mem.tail _ (List.Mem.tail _ (List.Mem.head _)))))) (le_c (List.Mem.tail _ (List.Mem.tail _ (List.Mem.tail _ (List.Mem.tail _ (List.Mem.tail _ (List.Mem.tail _ (List.Mem.head _))))))) (le_c (List.Mem.tail _ (List.Mem.tail _ (List.Mem.tail _ (List.Mem.tail _ (List.Mem.tail _ (List.Mem.tail _ (List.Mem.tail _ (List.Mem.head _)))))))) le_n))))))), (show ([7, 6, 5, 0, 1, 2, 3, 4] : List Nat).Nodup by decide)⟩
    have hcnt : (p.toInt < 3 ∧ (mMy m.toNatClampNeg).toInt = (mFy f.toNatClampNeg).toInt - s.toInt) ∨ (p.toInt = 3 ∧ (mMa m.toNatClampNeg &&& 4).toInt ≠ 0 ∧ (mMy m.toNatClampNeg).toInt ≤ (mFy f.toNatClampNeg).toInt - s.toInt + 1) := by omega
    have hmy : p.toInt < 3 ∧ (mMy m.toNatClampNeg).toInt = ((mFy (f).toNatClampNeg) - s).toInt ∨ p.toInt = 3 ∧ 1 ≤ (mMy m.toNatClampNeg).toInt ∧ (mMy m.toNatClampNeg).toInt ≤ 3 := by first | omega | (have hv1 := vrD_at p7 p0.1 p0.2 (by omega); omega)
    exact w_takes_loop m f s p ((mFy (f).toNatClampNeg) - s) p0 p1 p2 (by omega) p4 p5 hmy 4 0 (by omega) (by omega) (fun h => k0 ⟨hcnt, fun j g1 g2 => h j g1 (by omega)⟩) (fun h => k1 (fun q => h (fun j g1 g2 => q.2 j g1 (by omega))))
  have h9 := qF_eq (cx := (mMy (m).toNatClampNeg).toInt) (cy := ((mFy (f).toNatClampNeg) - s).toInt) rfl rfl h9
  refine pm_go (g := (52, [(5, .int ((mFy (f).toNatClampNeg) - s)), (0, .ref 25), (1, .int m), (2, .int f), (3, .int s), (4, .int p)], [], _, 0, 0)) rfl ?_
  refine pm_go (g := (53, _, [.int 0], _, 0, 0)) rfl ?_
  exact pm_ret rfl (k1 (fun q => by have e1 := q.1; omega))
/-- there is a maker of t, from the k-th member on -/
def mkE (ot na : Nat → Int32) (mn t : Int32) (k : Nat) : Prop := ∃ j : Nat, k ≤ j ∧ (j : Int) < mn.toInt ∧ (ot (nI j).toNatClampNeg).toInt = t.toInt ∧ (na (nI j).toNatClampNeg).toInt = 6
theorem mkE_s {ot na : Nat → Int32} {mn t : Int32} {k : Nat} (h : ¬ ((k : Int) < mn.toInt ∧ (ot (nI k).toNatClampNeg).toInt = t.toInt ∧ (na (nI k).toNatClampNeg).toInt = 6)) : mkE ot na mn t k ↔ mkE ot na mn t (k + 1) := by
  constructor
  · rintro ⟨j, q1, q2⟩
    rcases Nat.eq_or_lt_of_le q1 with e9 | e9
    · subst e9; exact absurd q2 h
    · exact ⟨j, e9, q2⟩
  · rintro ⟨j, q1, q2⟩
    exact ⟨j, by omega, q2⟩
theorem mkE_n {ot na : Nat → Int32} {mn t : Int32} {k : Nat} (h : mn.toInt ≤ k) : ¬ mkE ot na mn t k := by
  rintro ⟨j, q1, q2, q3⟩
  omega
set_option maxRecDepth 100000 in
set_option maxHeartbeats 4000000 in
theorem w_makers_loop {g c1 c2 c3 c4 c5 c6 c7 c8 c9 c10 c11 c12 c13 c14 c15 c16 c17 c18 c19 c20 c21 c22 c23 c24 : pm_C} {dyn : pm_H} {mTy : Int32} {mPa : Nat → Int32} {mTo : Nat → Int32} {mTm : Int32} {mMn : Int32} {mOt : Nat → Int32} {mNa : Nat → Int32} {mRe : Nat → Int32} {mMa : Nat → Int32} {mMy : Nat → Int32} {mPm : Nat → Int32} {mFn : Int32} {mFy : Nat → Int32} {mFa : Nat → Int32} {mFr : Nat → Int32} {mRn : Int32} {mFo : Nat → Int32} {mRt : Nat → Int32} {mRm : Nat → Int32} {mTn : Int32} {mTt : Nat → Int32} {mTi : Nat → Int32} {mPl : Nat → Int32} {mVn : Int32} {mVr : Nat → Int32} {mVf : Nat → Int32} {mVc : Nat → Int32} {mAr : Nat → Int32} {mLr : Int32} {mTc : Nat → Int32} {mTr : Int32} {mFl : Int32} {mFt : Nat → Int32} {mFm : Int32} {mFp : Int32} {mSc : Int32} {mMp : Int32} {mEn : Int32} {mGo : Nat → Int32} {Q : pm_Q} (t : Int32) (hn : 0 ≤ mMn.toInt ∧ mMn.toInt ≤ 40) : ∀ (n k : Nat) (c : Int32), (k ≤ 40) → (40 < k + n) → (0 ≤ c.toInt ∧ c.toInt ≤ k) → (∀ r9 : Int32, (0 ≤ r9.toInt ∧ r9.toInt ≤ 40) → (r9.toInt = 0 ↔ (c.toInt = 0 ∧ ¬ mkE mOt mNa mMn t k)) → Q (some (.int r9)) (hq g c1 c2 c3 c4 c5 c6 c7 c8 c9 c10 c11 c12 c13 c14 c15 c16 c17 c18 c19 c20 c21 c22 c23 c24 (hc25 mTy mTm mMn mFn mRn mTn mVn mLr mTr mFl mFm mFp mSc mMp mEn) (hc26 mPa) (hc27 mTo) (hc28 mOt) (hc29 mNa) (hc30 mRe) (hc31 mMa) (hc32 mMy) (hc33 mPm) (hc34 mFy) (hc35 mFa) (hc36 mFr) (hc37 mFo) (hc38 mRt) (hc39 mRm) (hc40 mTt) (hc41 mTi) (hc42 mPl) (hc43 mVr) (hc44 mVf) (hc45 mVc) (hc46 mAr) (hc47 mTc) (hc48 mFt) (hc49 mGo) dyn)) → pm_WP 154 (4, [(3, .int (nI k)), (2, .int c), (0, .ref 25), (1, .int t)], [], hq g c1 c2 c3 c4 c5 c6 c7 c8 c9 c10 c11 c12 c13 c14 c15 c16 c17 c18 c19 c20 c21 c22 c23 c24 (hc25 mTy mTm mMn mFn mRn mTn mVn mLr mTr mFl mFm mFp mSc mMp mEn) (hc26 mPa) (hc27 mTo) (hc28 mOt) (hc29 mNa) (hc30 mRe) (hc31 mMa) (hc32 mMy) (hc33 mPm) (hc34 mFy) (hc35 mFa) (hc36 mFr) (hc37 mFo) (hc38 mRt) (hc39 mRm) (hc40 mTt) (hc41 mTi) (hc42 mPl) (hc43 mVr) (hc44 mVf) (hc45 mVc) (hc46 mAr) (hc47 mTc) (hc48 mFt) (hc49 mGo) dyn, 0, 0) Q := by
  intro n
  induction n with
  | zero =>
    intro k c g1 g2 g3 k0
    exfalso; omega
  | succ n ih =>
    intro k c g1 g2 g3 k0
    have hk := nI_toInt (n := k) (by omega)
    have hkc : (nI k).toNatClampNeg = k := nI_clamp (by omega)
    refine pm_go (g := (5, [(3, .int (nI k)), (2, .int c), (0, .ref 25), (1, .int t)], [.int (nI k)], hq g c1 c2 c3 c4 c5 c6 c7 c8 c9 c10 c11 c12 c13 c14 c15 c16 c17 c18 c19 c20 c21 c22 c23 c24 (hc25 mTy mTm mMn mFn mRn mTn mVn mLr mTr mFl mFm mFp mSc mMp mEn) (hc26 mPa) (hc27 mTo) (hc28 mOt) (hc29 mNa) (hc30 mRe) (hc31 mMa) (hc32 mMy) (hc33 mPm) (hc34 mFy) (hc35 mFa) (hc36 mFr) (hc37 mFo) (hc38 mRt) (hc39 mRm) (hc40 mTt) (hc41 mTi) (hc42 mPl) (hc43 mVr) (hc44 mVf) (hc45 mVc) (hc46 mAr) (hc47 mTc) (hc48 mFt) (hc49 mGo) dyn, 0, 0)) rfl ?_
    refine pm_go (g := (6, _, [.ref 25, .int (nI k)], _, 0, 0)) rfl ?_
    refine pm_go (g := (9, _, [.int mMn, .int (nI k)], _, 0, 0)) rfl ?_
    refine pm_if2 (g := (47, [(3, .int (nI k)), (2, .int c), (0, .ref 25), (1, .int t)], [], hq g c1 c2 c3 c4 c5 c6 c7 c8 c9 c10 c11 c12 c13 c14 c15 c16 c17 c18 c19 c20 c21 c22 c23 c24 (hc25 mTy mTm mMn mFn mRn mTn mVn mLr mTr mFl mFm mFp mSc mMp mEn) (hc26 mPa) (hc27 mTo) (hc28 mOt) (hc29 mNa) (hc30 mRe) (hc31 mMa) (hc32 mMy) (hc33 mPm) (hc34 mFy) (hc35 mFa) (hc36 mFr) (hc37 mFo) (hc38 mRt) (hc39 mRm) (hc40 mTt) (hc41 mTi) (hc42 mPl) (hc43 mVr) (hc44 mVf) (hc45 mVc) (hc46 mAr) (hc47 mTc) (hc48 mFt) (hc49 mGo) dyn, 0, 0)) (h := (12, [(3, .int (nI k)), (2, .int c), (0, .ref 25), (1, .int t)], [], hq g c1 c2 c3 c4 c5 c6 c7 c8 c9 c10 c11 c12 c13 c14 c15 c16 c17 c18 c19 c20 c21 c22 c23 c24 (hc25 mTy mTm mMn mFn mRn mTn mVn mLr mTr mFl mFm mFp mSc mMp mEn) (hc26 mPa) (hc27 mTo) (hc28 mOt) (hc29 mNa) (hc30 mRe) (hc31 mMa) (hc32 mMy) (hc33 mPm) (hc34 mFy) (hc35 mFa) (hc36 mFr) (hc37 mFo) (hc38 mRt) (hc39 mRm) (hc40 mTt) (hc41 mTi) (hc42 mPl) (hc43 mVr) (hc44 mVf) (hc45 mVc) (hc46 mAr) (hc47 mTc) (hc48 mFt) (hc49 mGo) dyn, 0, 0)) rfl (fun h1 => ?_) (fun h1 => ?_)
    ·
      have h1 := qT_ge (cx := (nI k).toInt) (cy := (mMn).toInt) rfl rfl h1
      refine pm_go (g := (48, _, [.int c], _, 0, 0)) rfl ?_
      exact pm_ret rfl (k0 _ (by omega) ⟨fun q => ⟨q, mkE_n (by omega)⟩, fun q => q.1⟩)
    have h1 := qF_ge (cx := (nI k).toInt) (cy := (mMn).toInt) rfl rfl h1
    refine pm_go (g := (13, _, [.int c], _, 0, 0)) rfl ?_
    refine pm_go (g := (14, _, [.ref 25, .int c], _, 0, 0)) rfl ?_
    refine pm_go (g := (17, _, [.ref 28, .int c], _, 0, 0)) rfl ?_
    refine pm_go (g := (18, _, [.int (nI k), .ref 28, .int c], _, 0, 0)) rfl ?_
    refine pm_sd (g := (19, _, [.int (mOt (nI k).toNatClampNeg), .int c], _, 0, 0)) rfl (pm_inI (by omega) (by omega)) ?_
    refine pm_go (g := (20, _, [.int t, .int (mOt (nI k).toNatClampNeg), .int c], _, 0, 0)) rfl ?_
    refine pm_if2 (g := (38, [(3, .int (nI k)), (2, .int c), (0, .ref 25), (1, .int t)], [.int c], hq g c1 c2 c3 c4 c5 c6 c7 c8 c9 c10 c11 c12 c13 c14 c15 c16 c17 c18 c19 c20 c21 c22 c23 c24 (hc25 mTy mTm mMn mFn mRn mTn mVn mLr mTr mFl mFm mFp mSc mMp mEn) (hc26 mPa) (hc27 mTo) (hc28 mOt) (hc29 mNa) (hc30 mRe) (hc31 mMa) (hc32 mMy) (hc33 mPm) (hc34 mFy) (hc35 mFa) (hc36 mFr) (hc37 mFo) (hc38 mRt) (hc39 mRm) (hc40 mTt) (hc41 mTi) (hc42 mPl) (hc43 mVr) (hc44 mVf) (hc45 mVc) (hc46 mAr) (hc47 mTc) (hc48 mFt) (hc49 mGo) dyn, 0, 0)) (h := (23, [(3, .int (nI k)), (2, .int c), (0, .ref 25), (1, .int t)], [.int c], hq g c1 c2 c3 c4 c5 c6 c7 c8 c9 c10 c11 c12 c13 c14 c15 c16 c17 c18 c19 c20 c21 c22 c23 c24 (hc25 mTy mTm mMn mFn mRn mTn mVn mLr mTr mFl mFm mFp mSc mMp mEn) (hc26 mPa) (hc27 mTo) (hc28 mOt) (hc29 mNa) (hc30 mRe) (hc31 mMa) (hc32 mMy) (hc33 mPm) (hc34 mFy) (hc35 mFa) (hc36 mFr) (hc37 mFo) (hc38 mRt) (hc39 mRm) (hc40 mTt) (hc41 mTi) (hc42 mPl) (hc43 mVr) (hc44 mVf) (hc45 mVc) (hc46 mAr) (hc47 mTc) (hc48 mFt) (hc49 mGo) dyn, 0, 0)) rfl (fun h2 => ?_) (fun h2 => ?_)
    ·
      have h2 := qT_ne (cx := (mOt (nI k).toNatClampNeg).toInt) (cy := (t).toInt) rfl rfl h2
      refine pm_go (g := (39, _, [.int 0, .int c], _, 0, 0)) rfl ?_
      refine pm_go (g := (40, _, [.int (c + 0)], _, 0, 0)) rfl ?_
      try have h3 : (c + 0).toInt = (c).toInt + 0 := iAdd (x := (c).toInt) (y := 0) rfl (by decide) (by omega) (by omega)
      refine pm_go (g := (41, [(2, .int (c + 0)), (3, .int (nI k)), (0, .ref 25), (1, .int t)], [], _, 0, 0)) rfl ?_
      refine pm_go (g := (44, [(3, .int ((nI k) + 1)), (2, .int (c + 0)), (0, .ref 25), (1, .int t)], [], _, 0, 0)) rfl ?_
      refine pm_go (g := (4, _, [], _, 0, 0)) rfl ?_
      rw [nI_1]
      have hE := mkE_s (ot := mOt) (na := mNa) (mn := mMn) (t := t) (k := k) (by omega)
      exact ih (k + 1) (c + 0) (by omega) (by omega) (by omega) (fun r9 q1 q2 => k0 r9 q1 (by rw [q2, hE]; exact ⟨fun q => ⟨by omega, q.2⟩, fun q => ⟨by omega, q.2⟩⟩))
    have h2 := qF_ne (cx := (mOt (nI k).toNatClampNeg).toInt) (cy := (t).toInt) rfl rfl h2
    refine pm_go (g := (24, [(3, .int (nI k)), (2, .int c), (0, .ref 25), (1, .int t)], [.ref 25, .int c], _, 0, 0)) rfl ?_
    refine pm_go (g := (27, _, [.ref 29, .int c], _, 0, 0)) rfl ?_
    refine pm_go (g := (28, _, [.int (nI k), .ref 29, .int c], _, 0, 0)) rfl ?_
    refine pm_sd (g := (29, _, [.int (mNa (nI k).toNatClampNeg), .int c], _, 0, 0)) rfl (pm_inI (by omega) (by omega)) ?_
    refine pm_go (g := (31, _, [.int 6, .int (mNa (nI k).toNatClampNeg), .int c], _, 0, 0)) rfl ?_
    refine pm_if2 (g := (38, [(3, .int (nI k)), (2, .int c), (0, .ref 25), (1, .int t)], [.int c], hq g c1 c2 c3 c4 c5 c6 c7 c8 c9 c10 c11 c12 c13 c14 c15 c16 c17 c18 c19 c20 c21 c22 c23 c24 (hc25 mTy mTm mMn mFn mRn mTn mVn mLr mTr mFl mFm mFp mSc mMp mEn) (hc26 mPa) (hc27 mTo) (hc28 mOt) (hc29 mNa) (hc30 mRe) (hc31 mMa) (hc32 mMy) (hc33 mPm) (hc34 mFy) (hc35 mFa) (hc36 mFr) (hc37 mFo) (hc38 mRt) (hc39 mRm) (hc40 mTt) (hc41 mTi) (hc42 mPl) (hc43 mVr) (hc44 mVf) (hc45 mVc) (hc46 mAr) (hc47 mTc) (hc48 mFt) (hc49 mGo) dyn, 0, 0)) (h := (34, [(3, .int (nI k)), (2, .int c), (0, .ref 25), (1, .int t)], [.int c], hq g c1 c2 c3 c4 c5 c6 c7 c8 c9 c10 c11 c12 c13 c14 c15 c16 c17 c18 c19 c20 c21 c22 c23 c24 (hc25 mTy mTm mMn mFn mRn mTn mVn mLr mTr mFl mFm mFp mSc mMp mEn) (hc26 mPa) (hc27 mTo) (hc28 mOt) (hc29 mNa) (hc30 mRe) (hc31 mMa) (hc32 mMy) (hc33 mPm) (hc34 mFy) (hc35 mFa) (hc36 mFr) (hc37 mFo) (hc38 mRt) (hc39 mRm) (hc40 mTt) (hc41 mTi) (hc42 mPl) (hc43 mVr) (hc44 mVf) (hc45 mVc) (hc46 mAr) (hc47 mTc) (hc48 mFt) (hc49 mGo) dyn, 0, 0)) rfl (fun h4 => ?_) (fun h4 => ?_)
    ·
      have h4 := qT_ne (cx := (mNa (nI k).toNatClampNeg).toInt) (cy := 6) rfl (by decide) h4
      refine pm_go (g := (39, _, [.int 0, .int c], _, 0, 0)) rfl ?_
      refine pm_go (g := (40, _, [.int (c + 0)], _, 0, 0)) rfl ?_
      try have h5 : (c + 0).toInt = (c).toInt + 0 := iAdd (x := (c).toInt) (y := 0) rfl (by decide) (by omega) (by omega)
      refine pm_go (g := (41, [(2, .int (c + 0)), (3, .int (nI k)), (0, .ref 25), (1, .int t)], [], _, 0, 0)) rfl ?_
      refine pm_go (g := (44, [(3, .int ((nI k) + 1)), (2, .int (c + 0)), (0, .ref 25), (1, .int t)], [], _, 0, 0)) rfl ?_
      refine pm_go (g := (4, _, [], _, 0, 0)) rfl ?_
      rw [nI_1]
      have hE := mkE_s (ot := mOt) (na := mNa) (mn := mMn) (t := t) (k := k) (by omega)
      exact ih (k + 1) (c + 0) (by omega) (by omega) (by omega) (fun r9 q1 q2 => k0 r9 q1 (by rw [q2, hE]; exact ⟨fun q => ⟨by omega, q.2⟩, fun q => ⟨by omega, q.2⟩⟩))
    have h4 := qF_ne (cx := (mNa (nI k).toNatClampNeg).toInt) (cy := 6) rfl (by decide) h4
    refine pm_go (g := (35, [(3, .int (nI k)), (2, .int c), (0, .ref 25), (1, .int t)], [.int 1, .int c], _, 0, 0)) rfl ?_
    refine pm_go (g := (39, _, [.int 1, .int c], _, 0, 0)) rfl ?_
    refine pm_go (g := (40, _, [.int (c + 1)], _, 0, 0)) rfl ?_
    try have h6 : (c + 1).toInt = (c).toInt + 1 := iAdd (x := (c).toInt) (y := 1) rfl (by decide) (by omega) (by omega)
    refine pm_go (g := (41, [(2, .int (c + 1)), (3, .int (nI k)), (0, .ref 25), (1, .int t)], [], _, 0, 0)) rfl ?_
    refine pm_go (g := (44, [(3, .int ((nI k) + 1)), (2, .int (c + 1)), (0, .ref 25), (1, .int t)], [], _, 0, 0)) rfl ?_
    refine pm_go (g := (4, _, [], _, 0, 0)) rfl ?_
    rw [nI_1]
    have hE : mkE mOt mNa mMn t k := ⟨k, Nat.le_refl k, by omega, by omega, by omega⟩
    exact ih (k + 1) (c + 1) (by omega) (by omega) (by omega) (fun r9 q1 q2 => k0 r9 q1 ⟨fun q => absurd (q2.mp q).1 (by omega), fun q => absurd hE q.2⟩)
set_option maxRecDepth 100000 in
set_option maxHeartbeats 4000000 in
theorem w_X12_makers {g c1 c2 c3 c4 c5 c6 c7 c8 c9 c10 c11 c12 c13 c14 c15 c16 c17 c18 c19 c20 c21 c22 c23 c24 : pm_C} {dyn : pm_H} {mTy : Int32} {mPa : Nat → Int32} {mTo : Nat → Int32} {mTm : Int32} {mMn : Int32} {mOt : Nat → Int32} {mNa : Nat → Int32} {mRe : Nat → Int32} {mMa : Nat → Int32} {mMy : Nat → Int32} {mPm : Nat → Int32} {mFn : Int32} {mFy : Nat → Int32} {mFa : Nat → Int32} {mFr : Nat → Int32} {mRn : Int32} {mFo : Nat → Int32} {mRt : Nat → Int32} {mRm : Nat → Int32} {mTn : Int32} {mTt : Nat → Int32} {mTi : Nat → Int32} {mPl : Nat → Int32} {mVn : Int32} {mVr : Nat → Int32} {mVf : Nat → Int32} {mVc : Nat → Int32} {mAr : Nat → Int32} {mLr : Int32} {mTc : Nat → Int32} {mTr : Int32} {mFl : Int32} {mFt : Nat → Int32} {mFm : Int32} {mFp : Int32} {mSc : Int32} {mMp : Int32} {mEn : Int32} {mGo : Nat → Int32} {Q : pm_Q} (t : Int32) (p0 : 0 ≤ mMn.toInt ∧ mMn.toInt ≤ 40) (k0 : ∀ (r9 : Int32), (r9.toInt = 0 ↔ ¬ mkE mOt mNa mMn t 0) → Q (some (.int r9)) (hq g c1 c2 c3 c4 c5 c6 c7 c8 c9 c10 c11 c12 c13 c14 c15 c16 c17 c18 c19 c20 c21 c22 c23 c24 (hc25 mTy mTm mMn mFn mRn mTn mVn mLr mTr mFl mFm mFp mSc mMp mEn) (hc26 mPa) (hc27 mTo) (hc28 mOt) (hc29 mNa) (hc30 mRe) (hc31 mMa) (hc32 mMy) (hc33 mPm) (hc34 mFy) (hc35 mFa) (hc36 mFr) (hc37 mFo) (hc38 mRt) (hc39 mRm) (hc40 mTt) (hc41 mTi) (hc42 mPl) (hc43 mVr) (hc44 mVf) (hc45 mVc) (hc46 mAr) (hc47 mTc) (hc48 mFt) (hc49 mGo) dyn)) : pm_WP 154 (0, [(0, .ref 25), (1, .int t)], [], hq g c1 c2 c3 c4 c5 c6 c7 c8 c9 c10 c11 c12 c13 c14 c15 c16 c17 c18 c19 c20 c21 c22 c23 c24 (hc25 mTy mTm mMn mFn mRn mTn mVn mLr mTr mFl mFm mFp mSc mMp mEn) (hc26 mPa) (hc27 mTo) (hc28 mOt) (hc29 mNa) (hc30 mRe) (hc31 mMa) (hc32 mMy) (hc33 mPm) (hc34 mFy) (hc35 mFa) (hc36 mFr) (hc37 mFo) (hc38 mRt) (hc39 mRm) (hc40 mTt) (hc41 mTi) (hc42 mPl) (hc43 mVr) (hc44 mVf) (hc45 mVc) (hc46 mAr) (hc47 mTc) (hc48 mFt) (hc49 mGo) dyn, 0, 0) Q := by
  refine pm_go (g := (1, [(0, .ref 25), (1, .int t)], [.int 0], hq g c1 c2 c3 c4 c5 c6 c7 c8 c9 c10 c11 c12 c13 c14 c15 c16 c17 c18 c19 c20 c21 c22 c23 c24 (hc25 mTy mTm mMn mFn mRn mTn mVn mLr mTr mFl mFm mFp mSc mMp mEn) (hc26 mPa) (hc27 mTo) (hc28 mOt) (hc29 mNa) (hc30 mRe) (hc31 mMa) (hc32 mMy) (hc33 mPm) (hc34 mFy) (hc35 mFa) (hc36 mFr) (hc37 mFo) (hc38 mRt) (hc39 mRm) (hc40 mTt) (hc41 mTi) (hc42 mPl) (hc43 mVr) (hc44 mVf) (hc45 mVc) (hc46 mAr) (hc47 mTc) (hc48 mFt) (hc49 mGo) dyn, 0, 0)) rfl ?_
  refine pm_go (g := (2, [(2, .int 0), (0, .ref 25), (1, .int t)], [], _, 0, 0)) rfl ?_
  refine pm_go (g := (3, _, [.int 0], _, 0, 0)) rfl ?_
  refine pm_go (g := (4, [(3, .int 0), (2, .int 0), (0, .ref 25), (1, .int t)], [], _, 0, 0)) rfl ?_
  exact w_makers_loop t p0 41 0 0 (by omega) (by omega) (by decide) (fun r9 q1 q2 => k0 r9 (by rw [q2]; exact ⟨fun q => q.2, fun q => ⟨by decide, q⟩⟩))
/-- how many fit, and how many of them are static, of the first k -/
def cF (ft : Nat → Int32) : Nat → Int
  | 0 => 0
  | k + 1 => cF ft k + if (ft k).toInt ≠ 0 then 1 else 0
def cT (ft ma : Nat → Int32) : Nat → Int
  | 0 => 0
  | k + 1 => cT ft ma k + if (ft k).toInt ≠ 0 ∧ (ma k &&& 1).toInt ≠ 0 then 1 else 0
theorem cF_b (ft : Nat → Int32) : ∀ k : Nat, 0 ≤ cF ft k ∧ cF ft k ≤ k := by
  intro k
  induction k with
  | zero => exact ⟨Int.le_refl 0, Int.le_refl 0⟩
  | succ k ih => show 0 ≤ cF ft k + _ ∧ cF ft k + _ ≤ _; split <;> omega
theorem cT_b (ft ma : Nat → Int32) : ∀ k : Nat, 0 ≤ cT ft ma k ∧ cT ft ma k ≤ cF ft k := by
  intro k
  induction k with
  | zero => exact ⟨Int.le_refl 0, Int.le_refl 0⟩
  | succ k ih =>
    show 0 ≤ cT ft ma k + _ ∧ cT ft ma k + _ ≤ cF ft k + _
    split <;> split <;> omega
theorem cF_0 {ft : Nat → Int32} : ∀ {k : Nat}, cF ft k = 0 ↔ ∀ j : Nat, j < k → (ft j).toInt = 0 := by
  intro k
  induction k with
  | zero => exact ⟨fun _ j q => absurd q (Nat.not_lt_zero j), fun _ => rfl⟩
  | succ k ih =>
    have hb := cF_b ft k
    show cF ft k + (if (ft k).toInt ≠ 0 then 1 else 0) = 0 ↔ _
    constructor
    · intro h j q
      split at h
      · omega
      · next e =>
        rcases Nat.lt_succ_iff_lt_or_eq.mp q with q | q
        · exact ih.mp (by omega) j q
        · subst q; omega
    · intro h
      rw [if_neg (by have := h k (by omega); omega), ih.mpr (fun j q => h j (by omega))]
      rfl
theorem cT_0 {ft ma : Nat → Int32} : ∀ {k : Nat}, cT ft ma k = 0 ↔ ∀ j : Nat, j < k → ¬ ((ft j).toInt ≠ 0 ∧ (ma j &&& 1).toInt ≠ 0) := by
  intro k
  induction k with
  | zero => exact ⟨fun _ j q => absurd q (Nat.not_lt_zero j), fun _ => rfl⟩
  | succ k ih =>
    have hb := cT_b ft ma k
    show cT ft ma k + (if (ft k).toInt ≠ 0 ∧ (ma k &&& 1).toInt ≠ 0 then 1 else 0) = 0 ↔ _
    constructor
    · intro h j q
      split at h
      · omega
      · next e =>
        rcases Nat.lt_succ_iff_lt_or_eq.mp q with q | q
        · exact ih.mp (by omega) j q
        · subst q; exact e
    · intro h
      rw [if_neg (h k (by omega)), ih.mpr (fun j q => h j (by omega))]
      rfl
theorem cT_all {ft ma : Nat → Int32} : ∀ {k : Nat}, cT ft ma k = cF ft k ↔ ∀ j : Nat, j < k → (ft j).toInt ≠ 0 → (ma j &&& 1).toInt ≠ 0 := by
  intro k
  induction k with
  | zero => exact ⟨fun _ j q => absurd q (Nat.not_lt_zero j), fun _ => rfl⟩
  | succ k ih =>
    have hb := cT_b ft ma k
    show cT ft ma k + (if (ft k).toInt ≠ 0 ∧ (ma k &&& 1).toInt ≠ 0 then 1 else 0) = cF ft k + (if (ft k).toInt ≠ 0 then 1 else 0) ↔ _
    constructor
    · intro h j q hj
      rcases Nat.lt_succ_iff_lt_or_eq.mp q with q | q
      · refine ih.mp ?_ j q hj
        split at h <;> split at h <;> omega
      · subst q
        split at h
        · next e => exact e.2
        · omega
    · intro h
      have e := ih.mpr (fun j q => h j (by omega))
      by_cases e2 : (ft k).toInt ≠ 0
      · rw [if_pos ⟨e2, h k (by omega) e2⟩, if_pos e2, e]
      · rw [if_neg (fun q => e2 q.1), if_neg e2, e]
set_option maxRecDepth 100000 in
set_option maxHeartbeats 4000000 in
theorem w_statics_loop {g c1 c2 c3 c4 c5 c6 c7 c8 c9 c10 c11 c12 c13 c14 c15 c16 c17 c18 c19 c20 c21 c22 c23 c24 : pm_C} {dyn : pm_H} {mTy : Int32} {mPa : Nat → Int32} {mTo : Nat → Int32} {mTm : Int32} {mMn : Int32} {mOt : Nat → Int32} {mNa : Nat → Int32} {mRe : Nat → Int32} {mMa : Nat → Int32} {mMy : Nat → Int32} {mPm : Nat → Int32} {mFn : Int32} {mFy : Nat → Int32} {mFa : Nat → Int32} {mFr : Nat → Int32} {mRn : Int32} {mFo : Nat → Int32} {mRt : Nat → Int32} {mRm : Nat → Int32} {mTn : Int32} {mTt : Nat → Int32} {mTi : Nat → Int32} {mPl : Nat → Int32} {mVn : Int32} {mVr : Nat → Int32} {mVf : Nat → Int32} {mVc : Nat → Int32} {mAr : Nat → Int32} {mLr : Int32} {mTc : Nat → Int32} {mTr : Int32} {mFl : Int32} {mFt : Nat → Int32} {mFm : Int32} {mFp : Int32} {mSc : Int32} {mMp : Int32} {mEn : Int32} {mGo : Nat → Int32} {Q : pm_Q} (hn : 0 ≤ mMn.toInt ∧ mMn.toInt ≤ 40) : ∀ (n k : Nat) (c : Int32), ((k : Int) ≤ mMn.toInt) → (40 < k + n) → (c.toInt = cT mFt mMa k) → (∀ r9 : Int32, r9.toInt = cT mFt mMa mMn.toNatClampNeg → Q (some (.int r9)) (hq g c1 c2 c3 c4 c5 c6 c7 c8 c9 c10 c11 c12 c13 c14 c15 c16 c17 c18 c19 c20 c21 c22 c23 c24 (hc25 mTy mTm mMn mFn mRn mTn mVn mLr mTr mFl mFm mFp mSc mMp mEn) (hc26 mPa) (hc27 mTo) (hc28 mOt) (hc29 mNa) (hc30 mRe) (hc31 mMa) (hc32 mMy) (hc33 mPm) (hc34 mFy) (hc35 mFa) (hc36 mFr) (hc37 mFo) (hc38 mRt) (hc39 mRm) (hc40 mTt) (hc41 mTi) (hc42 mPl) (hc43 mVr) (hc44 mVf) (hc45 mVc) (hc46 mAr) (hc47 mTc) (hc48 mFt) (hc49 mGo) dyn)) → pm_WP 153 (4, [(2, .int (nI k)), (1, .int c), (0, .ref 25)], [], hq g c1 c2 c3 c4 c5 c6 c7 c8 c9 c10 c11 c12 c13 c14 c15 c16 c17 c18 c19 c20 c21 c22 c23 c24 (hc25 mTy mTm mMn mFn mRn mTn mVn mLr mTr mFl mFm mFp mSc mMp mEn) (hc26 mPa) (hc27 mTo) (hc28 mOt) (hc29 mNa) (hc30 mRe) (hc31 mMa) (hc32 mMy) (hc33 mPm) (hc34 mFy) (hc35 mFa) (hc36 mFr) (hc37 mFo) (hc38 mRt) (hc39 mRm) (hc40 mTt) (hc41 mTi) (hc42 mPl) (hc43 mVr) (hc44 mVf) (hc45 mVc) (hc46 mAr) (hc47 mTc) (hc48 mFt) (hc49 mGo) dyn, 0, 0) Q := by
  intro n
  induction n with
  | zero =>
    intro k c g1 g2 g3 k0
    exfalso; omega
  | succ n ih =>
    intro k c g1 g2 g3 k0
    have hk := nI_toInt (n := k) (by omega)
    have hkc : (nI k).toNatClampNeg = k := nI_clamp (by omega)
    have hb1 := cT_b mFt mMa k
    have hb2 := cF_b mFt k
    refine pm_go (g := (5, [(2, .int (nI k)), (1, .int c), (0, .ref 25)], [.int (nI k)], hq g c1 c2 c3 c4 c5 c6 c7 c8 c9 c10 c11 c12 c13 c14 c15 c16 c17 c18 c19 c20 c21 c22 c23 c24 (hc25 mTy mTm mMn mFn mRn mTn mVn mLr mTr mFl mFm mFp mSc mMp mEn) (hc26 mPa) (hc27 mTo) (hc28 mOt) (hc29 mNa) (hc30 mRe) (hc31 mMa) (hc32 mMy) (hc33 mPm) (hc34 mFy) (hc35 mFa) (hc36 mFr) (hc37 mFo) (hc38 mRt) (hc39 mRm) (hc40 mTt) (hc41 mTi) (hc42 mPl) (hc43 mVr) (hc44 mVf) (hc45 mVc) (hc46 mAr) (hc47 mTc) (hc48 mFt) (hc49 mGo) dyn, 0, 0)) rfl ?_
    refine pm_go (g := (6, _, [.ref 25, .int (nI k)], _, 0, 0)) rfl ?_
    refine pm_go (g := (9, _, [.int mMn, .int (nI k)], _, 0, 0)) rfl ?_
    refine pm_if2 (g := (44, [(2, .int (nI k)), (1, .int c), (0, .ref 25)], [], hq g c1 c2 c3 c4 c5 c6 c7 c8 c9 c10 c11 c12 c13 c14 c15 c16 c17 c18 c19 c20 c21 c22 c23 c24 (hc25 mTy mTm mMn mFn mRn mTn mVn mLr mTr mFl mFm mFp mSc mMp mEn) (hc26 mPa) (hc27 mTo) (hc28 mOt) (hc29 mNa) (hc30 mRe) (hc31 mMa) (hc32 mMy) (hc33 mPm) (hc34 mFy) (hc35 mFa) (hc36 mFr) (hc37 mFo) (hc38 mRt) (hc39 mRm) (hc40 mTt) (hc41 mTi) (hc42 mPl) (hc43 mVr) (hc44 mVf) (hc45 mVc) (hc46 mAr) (hc47 mTc) (hc48 mFt) (hc49 mGo) dyn, 0, 0)) (h := (12, [(2, .int (nI k)), (1, .int c), (0, .ref 25)], [], hq g c1 c2 c3 c4 c5 c6 c7 c8 c9 c10 c11 c12 c13 c14 c15 c16 c17 c18 c19 c20 c21 c22 c23 c24 (hc25 mTy mTm mMn mFn mRn mTn mVn mLr mTr mFl mFm mFp mSc mMp mEn) (hc26 mPa) (hc27 mTo) (hc28 mOt) (hc29 mNa) (hc30 mRe) (hc31 mMa) (hc32 mMy) (hc33 mPm) (hc34 mFy) (hc35 mFa) (hc36 mFr) (hc37 mFo) (hc38 mRt) (hc39 mRm) (hc40 mTt) (hc41 mTi) (hc42 mPl) (hc43 mVr) (hc44 mVf) (hc45 mVc) (hc46 mAr) (hc47 mTc) (hc48 mFt) (hc49 mGo) dyn, 0, 0)) rfl (fun h1 => ?_) (fun h1 => ?_)
    ·
      have h1 := qT_ge (cx := (nI k).toInt) (cy := (mMn).toInt) rfl rfl h1
      refine pm_go (g := (45, _, [.int c], _, 0, 0)) rfl ?_
      exact pm_ret rfl (k0 _ (by rw [g3, show k = mMn.toNatClampNeg from (tN (by omega)).symm]))
    have h1 := qF_ge (cx := (nI k).toInt) (cy := (mMn).toInt) rfl rfl h1
    refine pm_go (g := (13, _, [.int c], _, 0, 0)) rfl ?_
    refine pm_go (g := (14, _, [.ref 25, .int c], _, 0, 0)) rfl ?_
    refine pm_go (g := (17, _, [.ref 48, .int c], _, 0, 0)) rfl ?_
    refine pm_go (g := (18, _, [.int (nI k), .ref 48, .int c], _, 0, 0)) rfl ?_
    refine pm_sd (g := (19, _, [.int (mFt (nI k).toNatClampNeg), .int c], _, 0, 0)) rfl (pm_inI (by omega) (by omega)) ?_
    refine pm_if2 (g := (35, [(2, .int (nI k)), (1, .int c), (0, .ref 25)], [.int c], hq g c1 c2 c3 c4 c5 c6 c7 c8 c9 c10 c11 c12 c13 c14 c15 c16 c17 c18 c19 c20 c21 c22 c23 c24 (hc25 mTy mTm mMn mFn mRn mTn mVn mLr mTr mFl mFm mFp mSc mMp mEn) (hc26 mPa) (hc27 mTo) (hc28 mOt) (hc29 mNa) (hc30 mRe) (hc31 mMa) (hc32 mMy) (hc33 mPm) (hc34 mFy) (hc35 mFa) (hc36 mFr) (hc37 mFo) (hc38 mRt) (hc39 mRm) (hc40 mTt) (hc41 mTi) (hc42 mPl) (hc43 mVr) (hc44 mVf) (hc45 mVc) (hc46 mAr) (hc47 mTc) (hc48 mFt) (hc49 mGo) dyn, 0, 0)) (h := (22, [(2, .int (nI k)), (1, .int c), (0, .ref 25)], [.int c], hq g c1 c2 c3 c4 c5 c6 c7 c8 c9 c10 c11 c12 c13 c14 c15 c16 c17 c18 c19 c20 c21 c22 c23 c24 (hc25 mTy mTm mMn mFn mRn mTn mVn mLr mTr mFl mFm mFp mSc mMp mEn) (hc26 mPa) (hc27 mTo) (hc28 mOt) (hc29 mNa) (hc30 mRe) (hc31 mMa) (hc32 mMy) (hc33 mPm) (hc34 mFy) (hc35 mFa) (hc36 mFr) (hc37 mFo) (hc38 mRt) (hc39 mRm) (hc40 mTt) (hc41 mTi) (hc42 mPl) (hc43 mVr) (hc44 mVf) (hc45 mVc) (hc46 mAr) (hc47 mTc) (hc48 mFt) (hc49 mGo) dyn, 0, 0)) rfl (fun h2 => ?_) (fun h2 => ?_)
    ·
      have h2 := qT_eq (cx := (mFt (nI k).toNatClampNeg).toInt) (cy := 0) rfl (by decide) h2
      refine pm_go (g := (36, _, [.int 0, .int c], _, 0, 0)) rfl ?_
      refine pm_go (g := (37, _, [.int (c + 0)], _, 0, 0)) rfl ?_
      try have h3 : (c + 0).toInt = (c).toInt + 0 := iAdd (x := (c).toInt) (y := 0) rfl (by decide) (by omega) (by omega)
      refine pm_go (g := (38, [(1, .int (c + 0)), (2, .int (nI k)), (0, .ref 25)], [], _, 0, 0)) rfl ?_
      refine pm_go (g := (41, [(2, .int ((nI k) + 1)), (1, .int (c + 0)), (0, .ref 25)], [], _, 0, 0)) rfl ?_
      refine pm_go (g := (4, _, [], _, 0, 0)) rfl ?_
      rw [nI_1]
      rw [hkc] at *
      refine ih (k + 1) (c + 0) (by omega) (by omega) ?_ k0
      show _ = cT mFt mMa k + (if (mFt k).toInt ≠ 0 ∧ (mMa k &&& 1).toInt ≠ 0 then 1 else 0)
      rw [if_neg (by omega)]; omega
    have h2 := qF_eq (cx := (mFt (nI k).toNatClampNeg).toInt) (cy := 0) rfl (by decide) h2
    refine pm_go (g := (23, [(2, .int (nI k)), (1, .int c), (0, .ref 25)], [.ref 25, .int c], _, 0, 0)) rfl ?_
    refine pm_go (g := (24, _, [.int (nI k), .ref 25, .int c], _, 0, 0)) rfl ?_
    refine pm_go (g := (25, _, [.int 1, .int (nI k), .ref 25, .int c], _, 0, 0)) rfl ?_
    refine pm_callD (z := 139) (as := [.ref 25, .int (nI k), .int 1]) (rest := [.int c]) rfl ?_
    have h4 : (1 : Int32).toInt = 1 := by decide
    refine w_X12_isMark (nI k) 1 (by omega) (fun h5 => ?_) (fun h6 => ?_)
    ·
      show pm_WP 153 (28, [(2, .int (nI k)), (1, .int c), (0, .ref 25)], [.int 1, .int c], _, 0, 0) _
      refine pm_brF (h := (31, [(2, .int (nI k)), (1, .int c), (0, .ref 25)], [.int c], hq g c1 c2 c3 c4 c5 c6 c7 c8 c9 c10 c11 c12 c13 c14 c15 c16 c17 c18 c19 c20 c21 c22 c23 c24 (hc25 mTy mTm mMn mFn mRn mTn mVn mLr mTr mFl mFm mFp mSc mMp mEn) (hc26 mPa) (hc27 mTo) (hc28 mOt) (hc29 mNa) (hc30 mRe) (hc31 mMa) (hc32 mMy) (hc33 mPm) (hc34 mFy) (hc35 mFa) (hc36 mFr) (hc37 mFo) (hc38 mRt) (hc39 mRm) (hc40 mTt) (hc41 mTi) (hc42 mPl) (hc43 mVr) (hc44 mVf) (hc45 mVc) (hc46 mAr) (hc47 mTc) (hc48 mFt) (hc49 mGo) dyn, 0, 0)) rfl ?_
      refine pm_go (g := (32, _, [.int 1, .int c], _, 0, 0)) rfl ?_
      refine pm_go (g := (36, _, [.int 1, .int c], _, 0, 0)) rfl ?_
      refine pm_go (g := (37, _, [.int (c + 1)], _, 0, 0)) rfl ?_
      try have h8 : (c + 1).toInt = (c).toInt + 1 := iAdd (x := (c).toInt) (y := 1) rfl (by decide) (by omega) (by omega)
      refine pm_go (g := (38, [(1, .int (c + 1)), (2, .int (nI k)), (0, .ref 25)], [], _, 0, 0)) rfl ?_
      refine pm_go (g := (41, [(2, .int ((nI k) + 1)), (1, .int (c + 1)), (0, .ref 25)], [], _, 0, 0)) rfl ?_
      refine pm_go (g := (4, _, [], _, 0, 0)) rfl ?_
      rw [nI_1]
      rw [hkc] at *
      refine ih (k + 1) (c + 1) (by omega) (by omega) ?_ k0
      show _ = cT mFt mMa k + (if (mFt k).toInt ≠ 0 ∧ (mMa k &&& 1).toInt ≠ 0 then 1 else 0)
      rw [if_pos ⟨by omega, by omega⟩]; omega
    show pm_WP 153 (28, [(2, .int (nI k)), (1, .int c), (0, .ref 25)], [.int 0, .int c], hq g c1 c2 c3 c4 c5 c6 c7 c8 c9 c10 c11 c12 c13 c14 c15 c16 c17 c18 c19 c20 c21 c22 c23 c24 (hc25 mTy mTm mMn mFn mRn mTn mVn mLr mTr mFl mFm mFp mSc mMp mEn) (hc26 mPa) (hc27 mTo) (hc28 mOt) (hc29 mNa) (hc30 mRe) (hc31 mMa) (hc32 mMy) (hc33 mPm) (hc34 mFy) (hc35 mFa) (hc36 mFr) (hc37 mFo) (hc38 mRt) (hc39 mRm) (hc40 mTt) (hc41 mTi) (hc42 mPl) (hc43 mVr) (hc44 mVf) (hc45 mVc) (hc46 mAr) (hc47 mTc) (hc48 mFt) (hc49 mGo) dyn, 0, 0) _
    refine pm_brT (g := (35, [(2, .int (nI k)), (1, .int c), (0, .ref 25)], [.int c], hq g c1 c2 c3 c4 c5 c6 c7 c8 c9 c10 c11 c12 c13 c14 c15 c16 c17 c18 c19 c20 c21 c22 c23 c24 (hc25 mTy mTm mMn mFn mRn mTn mVn mLr mTr mFl mFm mFp mSc mMp mEn) (hc26 mPa) (hc27 mTo) (hc28 mOt) (hc29 mNa) (hc30 mRe) (hc31 mMa) (hc32 mMy) (hc33 mPm) (hc34 mFy) (hc35 mFa) (hc36 mFr) (hc37 mFo) (hc38 mRt) (hc39 mRm) (hc40 mTt) (hc41 mTi) (hc42 mPl) (hc43 mVr) (hc44 mVf) (hc45 mVc) (hc46 mAr) (hc47 mTc) (hc48 mFt) (hc49 mGo) dyn, 0, 0)) rfl ?_
    refine pm_go (g := (36, _, [.int 0, .int c], _, 0, 0)) rfl ?_
    refine pm_go (g := (37, _, [.int (c + 0)], _, 0, 0)) rfl ?_
    try have h9 : (c + 0).toInt = (c).toInt + 0 := iAdd (x := (c).toInt) (y := 0) rfl (by decide) (by omega) (by omega)
    refine pm_go (g := (38, [(1, .int (c + 0)), (2, .int (nI k)), (0, .ref 25)], [], _, 0, 0)) rfl ?_
    refine pm_go (g := (41, [(2, .int ((nI k) + 1)), (1, .int (c + 0)), (0, .ref 25)], [], _, 0, 0)) rfl ?_
    refine pm_go (g := (4, _, [], _, 0, 0)) rfl ?_
    rw [nI_1]
    rw [hkc] at *
    refine ih (k + 1) (c + 0) (by omega) (by omega) ?_ k0
    show _ = cT mFt mMa k + (if (mFt k).toInt ≠ 0 ∧ (mMa k &&& 1).toInt ≠ 0 then 1 else 0)
    rw [if_neg (by omega)]; omega
set_option maxRecDepth 100000 in
set_option maxHeartbeats 4000000 in
theorem w_X12_statics {g c1 c2 c3 c4 c5 c6 c7 c8 c9 c10 c11 c12 c13 c14 c15 c16 c17 c18 c19 c20 c21 c22 c23 c24 : pm_C} {dyn : pm_H} {mTy : Int32} {mPa : Nat → Int32} {mTo : Nat → Int32} {mTm : Int32} {mMn : Int32} {mOt : Nat → Int32} {mNa : Nat → Int32} {mRe : Nat → Int32} {mMa : Nat → Int32} {mMy : Nat → Int32} {mPm : Nat → Int32} {mFn : Int32} {mFy : Nat → Int32} {mFa : Nat → Int32} {mFr : Nat → Int32} {mRn : Int32} {mFo : Nat → Int32} {mRt : Nat → Int32} {mRm : Nat → Int32} {mTn : Int32} {mTt : Nat → Int32} {mTi : Nat → Int32} {mPl : Nat → Int32} {mVn : Int32} {mVr : Nat → Int32} {mVf : Nat → Int32} {mVc : Nat → Int32} {mAr : Nat → Int32} {mLr : Int32} {mTc : Nat → Int32} {mTr : Int32} {mFl : Int32} {mFt : Nat → Int32} {mFm : Int32} {mFp : Int32} {mSc : Int32} {mMp : Int32} {mEn : Int32} {mGo : Nat → Int32} {Q : pm_Q} (p0 : 0 ≤ mMn.toInt ∧ mMn.toInt ≤ 40) (k0 : ∀ (r9 : Int32), r9.toInt = cT mFt mMa mMn.toNatClampNeg → Q (some (.int r9)) (hq g c1 c2 c3 c4 c5 c6 c7 c8 c9 c10 c11 c12 c13 c14 c15 c16 c17 c18 c19 c20 c21 c22 c23 c24 (hc25 mTy mTm mMn mFn mRn mTn mVn mLr mTr mFl mFm mFp mSc mMp mEn) (hc26 mPa) (hc27 mTo) (hc28 mOt) (hc29 mNa) (hc30 mRe) (hc31 mMa) (hc32 mMy) (hc33 mPm) (hc34 mFy) (hc35 mFa) (hc36 mFr) (hc37 mFo) (hc38 mRt) (hc39 mRm) (hc40 mTt) (hc41 mTi) (hc42 mPl) (hc43 mVr) (hc44 mVf) (hc45 mVc) (hc46 mAr) (hc47 mTc) (hc48 mFt) (hc49 mGo) dyn)) : pm_WP 153 (0, [(0, .ref 25)], [], hq g c1 c2 c3 c4 c5 c6 c7 c8 c9 c10 c11 c12 c13 c14 c15 c16 c17 c18 c19 c20 c21 c22 c23 c24 (hc25 mTy mTm mMn mFn mRn mTn mVn mLr mTr mFl mFm mFp mSc mMp mEn) (hc26 mPa) (hc27 mTo) (hc28 mOt) (hc29 mNa) (hc30 mRe) (hc31 mMa) (hc32 mMy) (hc33 mPm) (hc34 mFy) (hc35 mFa) (hc36 mFr) (hc37 mFo) (hc38 mRt) (hc39 mRm) (hc40 mTt) (hc41 mTi) (hc42 mPl) (hc43 mVr) (hc44 mVf) (hc45 mVc) (hc46 mAr) (hc47 mTc) (hc48 mFt) (hc49 mGo) dyn, 0, 0) Q := by
  refine pm_go (g := (1, [(0, .ref 25)], [.int 0], hq g c1 c2 c3 c4 c5 c6 c7 c8 c9 c10 c11 c12 c13 c14 c15 c16 c17 c18 c19 c20 c21 c22 c23 c24 (hc25 mTy mTm mMn mFn mRn mTn mVn mLr mTr mFl mFm mFp mSc mMp mEn) (hc26 mPa) (hc27 mTo) (hc28 mOt) (hc29 mNa) (hc30 mRe) (hc31 mMa) (hc32 mMy) (hc33 mPm) (hc34 mFy) (hc35 mFa) (hc36 mFr) (hc37 mFo) (hc38 mRt) (hc39 mRm) (hc40 mTt) (hc41 mTi) (hc42 mPl) (hc43 mVr) (hc44 mVf) (hc45 mVc) (hc46 mAr) (hc47 mTc) (hc48 mFt) (hc49 mGo) dyn, 0, 0)) rfl ?_
  refine pm_go (g := (2, [(1, .int 0), (0, .ref 25)], [], _, 0, 0)) rfl ?_
  refine pm_go (g := (3, _, [.int 0], _, 0, 0)) rfl ?_
  refine pm_go (g := (4, [(2, .int 0), (1, .int 0), (0, .ref 25)], [], _, 0, 0)) rfl ?_
  exact w_statics_loop p0 41 0 0 (by omega) (by omega) rfl k0
end
section
theorem updS {f : Nat → Int32} {i : Nat} {x : Int32} : upd f i x i = x := by simp [upd]
theorem updN {f : Nat → Int32} {i j : Nat} {x : Int32} (h : j ≠ i) : upd f i x j = f j := by simp [upd, h]
/-- the k-th place of m is under that of o -/
def spK (pa my pm : Nat → Int32) (p m o k : Int32) : Prop := (p.toInt < 3 → uM pa (pm (3 * m + k).toNatClampNeg) (pm (3 * o + k).toNatClampNeg) = true) ∧ (p.toInt = 3 → uM pa (plV my pm m k) (plV my pm o k) = true)
def spB (my : Nat → Int32) (p n m o : Int32) (k : Int) : Prop := (p.toInt < 3 ∧ k < (my m.toNatClampNeg).toInt) ∨ (p.toInt = 3 ∧ (k < (my m.toNatClampNeg).toInt ∨ k < (my o.toNatClampNeg).toInt ∨ k < n.toInt))
def spO (pa my pm : Nat → Int32) (p n m o : Int32) : Prop := ∀ k : Nat, spB my p n m o k → spK pa my pm p m o (nI k)
def spL (pa my pm ft : Nat → Int32) (mn p n m : Int32) (k : Nat) : Prop := ∀ j : Nat, k ≤ j → (j : Int) < mn.toInt → (ft j).toInt ≠ 0 → (j : Int) ≠ m.toInt → spO pa my pm p n m (nI j)
def fvD (p : Int32) (my ft : Nat → Int32) (mn : Int32) : Prop := p.toInt = 3 → ∀ j : Nat, (j : Int) < mn.toInt → (ft j).toInt ≠ 0 → 1 ≤ (my j).toInt
set_option maxRecDepth 100000 in
set_option maxHeartbeats 4000000 in
theorem w_isSpecial_in {g c1 c2 c3 c4 c5 c6 c7 c8 c9 c10 c11 c12 c13 c14 c15 c16 c17 c18 c19 c20 c21 c22 c23 c24 : pm_C} {dyn : pm_H} {mTy : Int32} {mPa : Nat → Int32} {mTo : Nat → Int32} {mTm : Int32} {mMn : Int32} {mOt : Nat → Int32} {mNa : Nat → Int32} {mRe : Nat → Int32} {mMa : Nat → Int32} {mMy : Nat → Int32} {mPm : Nat → Int32} {mFn : Int32} {mFy : Nat → Int32} {mFa : Nat → Int32} {mFr : Nat → Int32} {mRn : Int32} {mFo : Nat → Int32} {mRt : Nat → Int32} {mRm : Nat → Int32} {mTn : Int32} {mTt : Nat → Int32} {mTi : Nat → Int32} {mPl : Nat → Int32} {mVn : Int32} {mVr : Nat → Int32} {mVf : Nat → Int32} {mVc : Nat → Int32} {mAr : Nat → Int32} {mLr : Int32} {mTc : Nat → Int32} {mTr : Int32} {mFl : Int32} {mFt : Nat → Int32} {mFm : Int32} {mFp : Int32} {mSc : Int32} {mMp : Int32} {mEn : Int32} {mGo : Nat → Int32} {Q : pm_Q} (m n0 o x : Int32) (hm : 0 ≤ m.toInt ∧ m.toInt < 40) (ho : 0 ≤ o.toInt ∧ o.toInt < 40) (hx : x.toInt ≤ 3) (hpp : 1 ≤ mFp.toInt ∧ mFp.toInt ≤ 3) (hp : paD mPa) (hx3 : mFp.toInt < 3 → x.toInt ≤ (mMy m.toNatClampNeg).toInt) (hmy : 0 ≤ (mMy m.toNatClampNeg).toInt ∧ (mMy m.toNatClampNeg).toInt ≤ 3) (hoy : 0 ≤ (mMy o.toNatClampNeg).toInt ∧ (mMy o.toNatClampNeg).toInt ≤ 3) (h3 : mFp.toInt = 3 → 1 ≤ (mMy m.toNatClampNeg).toInt ∧ 1 ≤ (mMy o.toNatClampNeg).toInt) : ∀ (n k : Nat), (k ≤ 3) → (3 < k + n) → ((∀ j : Nat, k ≤ j → (j : Int) < (x).toInt → spK mPa mMy mPm mFp m o (nI j)) → pm_WP 149 (185, [(4, .int o), (3, .int 1), (0, .ref 25), (1, .int m), (2, .int n0)], [], hq g c1 c2 c3 c4 c5 c6 c7 c8 c9 c10 c11 c12 c13 c14 c15 c16 c17 c18 c19 c20 c21 c22 c23 c24 (hc25 mTy mTm mMn mFn mRn mTn mVn mLr mTr mFl mFm mFp mSc mMp mEn) (hc26 mPa) (hc27 mTo) (hc28 mOt) (hc29 mNa) (hc30 mRe) (hc31 mMa) (hc32 mMy) (hc33 mPm) (hc34 mFy) (hc35 mFa) (hc36 mFr) (hc37 mFo) (hc38 mRt) (hc39 mRm) (hc40 mTt) (hc41 mTi) (hc42 mPl) (hc43 mVr) (hc44 mVf) (hc45 mVc) (hc46 mAr) (hc47 mTc) (hc48 mFt) (hc49 mGo) dyn, 0, 0) Q) → (¬ (∀ j : Nat, k ≤ j → (j : Int) < (x).toInt → spK mPa mMy mPm mFp m o (nI j)) → pm_WP 149 (185, [(4, .int o), (3, .int 0), (0, .ref 25), (1, .int m), (2, .int n0)], [], hq g c1 c2 c3 c4 c5 c6 c7 c8 c9 c10 c11 c12 c13 c14 c15 c16 c17 c18 c19 c20 c21 c22 c23 c24 (hc25 mTy mTm mMn mFn mRn mTn mVn mLr mTr mFl mFm mFp mSc mMp mEn) (hc26 mPa) (hc27 mTo) (hc28 mOt) (hc29 mNa) (hc30 mRe) (hc31 mMa) (hc32 mMy) (hc33 mPm) (hc34 mFy) (hc35 mFa) (hc36 mFr) (hc37 mFo) (hc38 mRt) (hc39 mRm) (hc40 mTt) (hc41 mTi) (hc42 mPl) (hc43 mVr) (hc44 mVf) (hc45 mVc) (hc46 mAr) (hc47 mTc) (hc48 mFt) (hc49 mGo) dyn, 0, 0) Q) → pm_WP 149 (110, [(6, .int (nI k)), (5, .int x), (4, .int o), (3, .int 1), (0, .ref 25), (1, .int m), (2, .int n0)], [], hq g c1 c2 c3 c4 c5 c6 c7 c8 c9 c10 c11 c12 c13 c14 c15 c16 c17 c18 c19 c20 c21 c22 c23 c24 (hc25 mTy mTm mMn mFn mRn mTn mVn mLr mTr mFl mFm mFp mSc mMp mEn) (hc26 mPa) (hc27 mTo) (hc28 mOt) (hc29 mNa) (hc30 mRe) (hc31 mMa) (hc32 mMy) (hc33 mPm) (hc34 mFy) (hc35 mFa) (hc36 mFr) (hc37 mFo) (hc38 mRt) (hc39 mRm) (hc40 mTt) (hc41 mTi) (hc42 mPl) (hc43 mVr) (hc44 mVf) (hc45 mVc) (hc46 mAr) (hc47 mTc) (hc48 mFt) (hc49 mGo) dyn, 0, 0) Q := by
  intro n
  induction n with
  | zero =>
    intro k g1 g2 k0 k1
    exfalso; omega
  | succ n ih =>
    intro k g1 g2 k0 k1
    have hk := nI_toInt (n := k) (by omega)
    have hkc : (nI k).toNatClampNeg = k := nI_clamp (by omega)
    refine pm_go (g := (111, [(6, .int (nI k)), (5, .int x), (4, .int o), (3, .int 1), (0, .ref 25), (1, .int m), (2, .int n0)], [.int 1], hq g c1 c2 c3 c4 c5 c6 c7 c8 c9 c10 c11 c12 c13 c14 c15 c16 c17 c18 c19 c20 c21 c22 c23 c24 (hc25 mTy mTm mMn mFn mRn mTn mVn mLr mTr mFl mFm mFp mSc mMp mEn) (hc26 mPa) (hc27 mTo) (hc28 mOt) (hc29 mNa) (hc30 mRe) (hc31 mMa) (hc32 mMy) (hc33 mPm) (hc34 mFy) (hc35 mFa) (hc36 mFr) (hc37 mFo) (hc38 mRt) (hc39 mRm) (hc40 mTt) (hc41 mTi) (hc42 mPl) (hc43 mVr) (hc44 mVf) (hc45 mVc) (hc46 mAr) (hc47 mTc) (hc48 mFt) (hc49 mGo) dyn, 0, 0)) rfl ?_
    refine pm_brF (h := (114, [(6, .int (nI k)), (5, .int x), (4, .int o), (3, .int 1), (0, .ref 25), (1, .int m), (2, .int n0)], [], hq g c1 c2 c3 c4 c5 c6 c7 c8 c9 c10 c11 c12 c13 c14 c15 c16 c17 c18 c19 c20 c21 c22 c23 c24 (hc25 mTy mTm mMn mFn mRn mTn mVn mLr mTr mFl mFm mFp mSc mMp mEn) (hc26 mPa) (hc27 mTo) (hc28 mOt) (hc29 mNa) (hc30 mRe) (hc31 mMa) (hc32 mMy) (hc33 mPm) (hc34 mFy) (hc35 mFa) (hc36 mFr) (hc37 mFo) (hc38 mRt) (hc39 mRm) (hc40 mTt) (hc41 mTi) (hc42 mPl) (hc43 mVr) (hc44 mVf) (hc45 mVc) (hc46 mAr) (hc47 mTc) (hc48 mFt) (hc49 mGo) dyn, 0, 0)) rfl ?_
    refine pm_go (g := (116, _, [.int (nI k)], _, 0, 0)) rfl ?_
    refine pm_go (g := (118, _, [.int x, .int (nI k)], _, 0, 0)) rfl ?_
    refine pm_if2 (g := (185, [(6, .int (nI k)), (5, .int x), (4, .int o), (3, .int 1), (0, .ref 25), (1, .int m), (2, .int n0)], [], hq g c1 c2 c3 c4 c5 c6 c7 c8 c9 c10 c11 c12 c13 c14 c15 c16 c17 c18 c19 c20 c21 c22 c23 c24 (hc25 mTy mTm mMn mFn mRn mTn mVn mLr mTr mFl mFm mFp mSc mMp mEn) (hc26 mPa) (hc27 mTo) (hc28 mOt) (hc29 mNa) (hc30 mRe) (hc31 mMa) (hc32 mMy) (hc33 mPm) (hc34 mFy) (hc35 mFa) (hc36 mFr) (hc37 mFo) (hc38 mRt) (hc39 mRm) (hc40 mTt) (hc41 mTi) (hc42 mPl) (hc43 mVr) (hc44 mVf) (hc45 mVc) (hc46 mAr) (hc47 mTc) (hc48 mFt) (hc49 mGo) dyn, 0, 0)) (h := (121, [(6, .int (nI k)), (5, .int x), (4, .int o), (3, .int 1), (0, .ref 25), (1, .int m), (2, .int n0)], [], hq g c1 c2 c3 c4 c5 c6 c7 c8 c9 c10 c11 c12 c13 c14 c15 c16 c17 c18 c19 c20 c21 c22 c23 c24 (hc25 mTy mTm mMn mFn mRn mTn mVn mLr mTr mFl mFm mFp mSc mMp mEn) (hc26 mPa) (hc27 mTo) (hc28 mOt) (hc29 mNa) (hc30 mRe) (hc31 mMa) (hc32 mMy) (hc33 mPm) (hc34 mFy) (hc35 mFa) (hc36 mFr) (hc37 mFo) (hc38 mRt) (hc39 mRm) (hc40 mTt) (hc41 mTi) (hc42 mPl) (hc43 mVr) (hc44 mVf) (hc45 mVc) (hc46 mAr) (hc47 mTc) (hc48 mFt) (hc49 mGo) dyn, 0, 0)) rfl (fun h1 => ?_) (fun h1 => ?_)
    ·
      have h1 := qT_ge (cx := (nI k).toInt) (cy := (x).toInt) rfl rfl h1
      refine pm_sub (lv := [(4, .int o), (3, .int 1), (0, .ref 25), (1, .int m), (2, .int n0)]) ?_ ⟨le_c (List.Mem.tail _ (List.Mem.tail _ (List.Mem.head _))) (le_c (List.Mem.tail _ (List.Mem.tail _ (List.Mem.tail _ (List.Mem.head _)))) (le_c (List.Mem.tail _ (List.Mem.tail _ (List.Mem.tail _ (List.Mem.tail _ (List.Mem.head _))))) (le_c (List.Mem.tail _ (List.Mem.tail _ (List.Mem.tail _ (List.Mem.tail _ (List.Mem.tail _ (List.Mem.head _)))))) (le_c (List.Mem.tail _ (List.Mem.tail _ (List.Mem.tail _ (List.Mem.tail _ (List.Mem.tail _ (List.Mem.tail _ (List.Mem.head _))))))) le_n)))), (show ([6, 5, 4, 3, 0, 1, 2] : List Nat).Nodup by decide)⟩
      exact k0 (fun j q1 q2 => absurd q2 (by omega))
    have h1 := qF_ge (cx := (nI k).toInt) (cy := (x).toInt) rfl rfl h1
    refine pm_go (g := (122, _, [.ref 25], _, 0, 0)) rfl ?_
    refine pm_go (g := (125, _, [.int mFp], _, 0, 0)) rfl ?_
    refine pm_go (g := (126, _, [.int 3, .int mFp], _, 0, 0)) rfl ?_
    refine pm_if2 (g := (159, [(6, .int (nI k)), (5, .int x), (4, .int o), (3, .int 1), (0, .ref 25), (1, .int m), (2, .int n0)], [], hq g c1 c2 c3 c4 c5 c6 c7 c8 c9 c10 c11 c12 c13 c14 c15 c16 c17 c18 c19 c20 c21 c22 c23 c24 (hc25 mTy mTm mMn mFn mRn mTn mVn mLr mTr mFl mFm mFp mSc mMp mEn) (hc26 mPa) (hc27 mTo) (hc28 mOt) (hc29 mNa) (hc30 mRe) (hc31 mMa) (hc32 mMy) (hc33 mPm) (hc34 mFy) (hc35 mFa) (hc36 mFr) (hc37 mFo) (hc38 mRt) (hc39 mRm) (hc40 mTt) (hc41 mTi) (hc42 mPl) (hc43 mVr) (hc44 mVf) (hc45 mVc) (hc46 mAr) (hc47 mTc) (hc48 mFt) (hc49 mGo) dyn, 0, 0)) (h := (129, [(6, .int (nI k)), (5, .int x), (4, .int o), (3, .int 1), (0, .ref 25), (1, .int m), (2, .int n0)], [], hq g c1 c2 c3 c4 c5 c6 c7 c8 c9 c10 c11 c12 c13 c14 c15 c16 c17 c18 c19 c20 c21 c22 c23 c24 (hc25 mTy mTm mMn mFn mRn mTn mVn mLr mTr mFl mFm mFp mSc mMp mEn) (hc26 mPa) (hc27 mTo) (hc28 mOt) (hc29 mNa) (hc30 mRe) (hc31 mMa) (hc32 mMy) (hc33 mPm) (hc34 mFy) (hc35 mFa) (hc36 mFr) (hc37 mFo) (hc38 mRt) (hc39 mRm) (hc40 mTt) (hc41 mTi) (hc42 mPl) (hc43 mVr) (hc44 mVf) (hc45 mVc) (hc46 mAr) (hc47 mTc) (hc48 mFt) (hc49 mGo) dyn, 0, 0)) rfl (fun h2 => ?_) (fun h2 => ?_)
    ·
      have h2 := qT_ge (cx := (mFp).toInt) (cy := 3) rfl (by decide) h2
      refine pm_go (g := (160, _, [.ref 25], _, 0, 0)) rfl ?_
      refine pm_go (g := (161, _, [.ref 25, .ref 25], _, 0, 0)) rfl ?_
      refine pm_go (g := (162, _, [.int m, .ref 25, .ref 25], _, 0, 0)) rfl ?_
      refine pm_go (g := (164, _, [.int (nI k), .int m, .ref 25, .ref 25], _, 0, 0)) rfl ?_
      refine pm_callD (z := 147) (as := [.ref 25, .int m, .int (nI k)]) (rest := [.ref 25]) rfl ?_
      refine w2_X12_placeOf m (nI k) (by omega) (by omega) (by omega) ?_
      show pm_WP 149 (167, [(6, .int (nI k)), (5, .int x), (4, .int o), (3, .int 1), (0, .ref 25), (1, .int m), (2, .int n0)], [.int (plV mMy mPm m (nI k)), .ref 25], _, 0, 0) _
      refine pm_go (g := (168, _, [.ref 25, .int (plV mMy mPm m (nI k)), .ref 25], _, 0, 0)) rfl ?_
      refine pm_go (g := (170, _, [.int o, .ref 25, .int (plV mMy mPm m (nI k)), .ref 25], _, 0, 0)) rfl ?_
      refine pm_go (g := (172, _, [.int (nI k), .int o, .ref 25, .int (plV mMy mPm m (nI k)), .ref 25], _, 0, 0)) rfl ?_
      refine pm_callD (z := 147) (as := [.ref 25, .int o, .int (nI k)]) (rest := [.int (plV mMy mPm m (nI k)), .ref 25]) rfl ?_
      refine w2_X12_placeOf o (nI k) (by omega) (by omega) (by omega) ?_
      show pm_WP 149 (175, [(6, .int (nI k)), (5, .int x), (4, .int o), (3, .int 1), (0, .ref 25), (1, .int m), (2, .int n0)], [.int (plV mMy mPm o (nI k)), .int (plV mMy mPm m (nI k)), .ref 25], _, 0, 0) _
      refine pm_callD (z := 132) (as := [.ref 25, .int (plV mMy mPm m (nI k)), .int (plV mMy mPm o (nI k))]) (rest := []) rfl ?_
      refine w_X12_isUnder (plV mMy mPm m (nI k)) (plV mMy mPm o (nI k)) (by assumption) (fun h5 => ?_) (fun h6 => ?_)
      ·
        show pm_WP 149 (178, [(6, .int (nI k)), (5, .int x), (4, .int o), (3, .int 1), (0, .ref 25), (1, .int m), (2, .int n0)], [.int 1], _, 0, 0) _
        refine pm_go (g := (179, [(3, .int 1), (6, .int (nI k)), (5, .int x), (4, .int o), (0, .ref 25), (1, .int m), (2, .int n0)], [], _, 0, 0)) rfl ?_
        refine pm_go (g := (182, [(6, .int ((nI k) + 1)), (3, .int 1), (5, .int x), (4, .int o), (0, .ref 25), (1, .int m), (2, .int n0)], [], _, 0, 0)) rfl ?_
        refine pm_go (g := (110, _, [], _, 0, 0)) rfl ?_
        refine pm_sub (lv := [(6, .int ((nI k) + 1)), (5, .int x), (4, .int o), (3, .int 1), (0, .ref 25), (1, .int m), (2, .int n0)]) ?_ ⟨le_c (List.Mem.head _) (le_c (List.Mem.tail _ (List.Mem.tail _ (List.Mem.head _))) (le_c (List.Mem.tail _ (List.Mem.tail _ (List.Mem.tail _ (List.Mem.head _)))) (le_c (List.Mem.tail _ (List.Mem.head _)) (le_c (List.Mem.tail _ (List.Mem.tail _ (List.Mem.tail _ (List.Mem.tail _ (List.Mem.head _))))) (le_c (List.Mem.tail _ (List.Mem.tail _ (List.Mem.tail _ (List.Mem.tail _ (List.Mem.tail _ (List.Mem.head _)))))) (le_c (List.Mem.tail _ (List.Mem.tail _ (List.Mem.tail _ (List.Mem.tail _ (List.Mem.tail _ (List.Mem.tail _ (List.Mem.head _))))))) le_n)))))), (show ([6, 3, 5, 4, 0, 1, 2] : List Nat).Nodup by decide)⟩
        rw [nI_1]
        refine ih (k + 1) (by omega) (by omega) (fun h => k0 (fun j q1 q2 => ?_)) (fun h => k1 (fun q => h (fun j q1 q2 => q j (by omega) q2)))
        rcases Nat.eq_or_lt_of_le q1 with e9 | e9
        · subst e9; refine ⟨fun q => ?_, fun q => ?_⟩ <;> first | (exfalso; omega) | assumption
        · exact h j e9 q2
      show pm_WP 149 (178, [(6, .int (nI k)), (5, .int x), (4, .int o), (3, .int 1), (0, .ref 25), (1, .int m), (2, .int n0)], [.int 0], hq g c1 c2 c3 c4 c5 c6 c7 c8 c9 c10 c11 c12 c13 c14 c15 c16 c17 c18 c19 c20 c21 c22 c23 c24 (hc25 mTy mTm mMn mFn mRn mTn mVn mLr mTr mFl mFm mFp mSc mMp mEn) (hc26 mPa) (hc27 mTo) (hc28 mOt) (hc29 mNa) (hc30 mRe) (hc31 mMa) (hc32 mMy) (hc33 mPm) (hc34 mFy) (hc35 mFa) (hc36 mFr) (hc37 mFo) (hc38 mRt) (hc39 mRm) (hc40 mTt) (hc41 mTi) (hc42 mPl) (hc43 mVr) (hc44 mVf) (hc45 mVc) (hc46 mAr) (hc47 mTc) (hc48 mFt) (hc49 mGo) dyn, 0, 0) _
      refine pm_go (g := (179, [(3, .int 0), (6, .int (nI k)), (5, .int x), (4, .int o), (0, .ref 25), (1, .int m), (2, .int n0)], [], _, 0, 0)) rfl ?_
      refine pm_go (g := (182, [(6, .int ((nI k) + 1)), (3, .int 0), (5, .int x), (4, .int o), (0, .ref 25), (1, .int m), (2, .int n0)], [], _, 0, 0)) rfl ?_
      refine pm_go (g := (110, _, [], _, 0, 0)) rfl ?_
      refine pm_go (g := (111, _, [.int 0], _, 0, 0)) rfl ?_
      refine pm_brT (g := (185, [(6, .int ((nI k) + 1)), (3, .int 0), (5, .int x), (4, .int o), (0, .ref 25), (1, .int m), (2, .int n0)], [], hq g c1 c2 c3 c4 c5 c6 c7 c8 c9 c10 c11 c12 c13 c14 c15 c16 c17 c18 c19 c20 c21 c22 c23 c24 (hc25 mTy mTm mMn mFn mRn mTn mVn mLr mTr mFl mFm mFp mSc mMp mEn) (hc26 mPa) (hc27 mTo) (hc28 mOt) (hc29 mNa) (hc30 mRe) (hc31 mMa) (hc32 mMy) (hc33 mPm) (hc34 mFy) (hc35 mFa) (hc36 mFr) (hc37 mFo) (hc38 mRt) (hc39 mRm) (hc40 mTt) (hc41 mTi) (hc42 mPl) (hc43 mVr) (hc44 mVf) (hc45 mVc) (hc46 mAr) (hc47 mTc) (hc48 mFt) (hc49 mGo) dyn, 0, 0)) rfl ?_
      refine pm_sub (lv := [(4, .int o), (3, .int 0), (0, .ref 25), (1, .int m), (2, .int n0)]) ?_ ⟨le_c (List.Mem.tail _ (List.Mem.tail _ (List.Mem.tail _ (List.Mem.head _)))) (le_c (List.Mem.tail _ (List.Mem.head _)) (le_c (List.Mem.tail _ (List.Mem.tail _ (List.Mem.tail _ (List.Mem.tail _ (List.Mem.head _))))) (le_c (List.Mem.tail _ (List.Mem.tail _ (List.Mem.tail _ (List.Mem.tail _ (List.Mem.tail _ (List.Mem.head _)))))) (le_c (List.Mem.tail _ (List.Mem.tail _ (List.Mem.tail _ (List.Mem.tail _ (List.Mem.tail _ (List.Mem.tail _ (List.Mem.head _))))))) le_n)))), (show ([6, 3, 5, 4, 0, 1, 2] : List Nat).Nodup by decide)⟩
      refine k1 (fun q' => ?_)
      obtain ⟨q1, q2⟩ := q' k (Nat.le_refl k) (by omega)
      first | (have q4 := q1 (by omega); simp_all; done) | (have q4 := q2 (by omega); simp_all; done)
    have h2 := qF_ge (cx := (mFp).toInt) (cy := 3) rfl (by decide) h2
    refine pm_go (g := (130, [(6, .int (nI k)), (5, .int x), (4, .int o), (3, .int 1), (0, .ref 25), (1, .int m), (2, .int n0)], [.ref 25], _, 0, 0)) rfl ?_
    refine pm_go (g := (131, _, [.ref 25, .ref 25], _, 0, 0)) rfl ?_
    refine pm_go (g := (134, _, [.ref 33, .ref 25], _, 0, 0)) rfl ?_
    refine pm_go (g := (135, _, [.int 3, .ref 33, .ref 25], _, 0, 0)) rfl ?_
    refine pm_go (g := (136, _, [.int m, .int 3, .ref 33, .ref 25], _, 0, 0)) rfl ?_
    refine pm_go (g := (137, _, [.int (3 * m), .ref 33, .ref 25], _, 0, 0)) rfl ?_
    try have h8 : (3 * m).toInt = 3 * (m).toInt := iMul (x := 3) (y := (m).toInt) (by decide) rfl (by omega) (by omega)
    refine pm_go (g := (139, _, [.int (nI k), .int (3 * m), .ref 33, .ref 25], _, 0, 0)) rfl ?_
    refine pm_go (g := (140, _, [.int ((3 * m) + (nI k)), .ref 33, .ref 25], _, 0, 0)) rfl ?_
    try have h9 : ((3 * m) + (nI k)).toInt = (3 * m).toInt + (nI k).toInt := iAdd (x := (3 * m).toInt) (y := (nI k).toInt) rfl rfl (by omega) (by omega)
    refine pm_sd (g := (141, _, [.int (mPm ((3 * m) + (nI k)).toNatClampNeg), .ref 25], _, 0, 0)) rfl (pm_inI (by omega) (by omega)) ?_
    refine pm_go (g := (142, _, [.ref 25, .int (mPm ((3 * m) + (nI k)).toNatClampNeg), .ref 25], _, 0, 0)) rfl ?_
    refine pm_go (g := (145, _, [.ref 33, .int (mPm ((3 * m) + (nI k)).toNatClampNeg), .ref 25], _, 0, 0)) rfl ?_
    refine pm_go (g := (146, _, [.int 3, .ref 33, .int (mPm ((3 * m) + (nI k)).toNatClampNeg), .ref 25], _, 0, 0)) rfl ?_
    refine pm_go (g := (148, _, [.int o, .int 3, .ref 33, .int (mPm ((3 * m) + (nI k)).toNatClampNeg), .ref 25], _, 0, 0)) rfl ?_
    refine pm_go (g := (149, _, [.int (3 * o), .ref 33, .int (mPm ((3 * m) + (nI k)).toNatClampNeg), .ref 25], _, 0, 0)) rfl ?_
    try have h10 : (3 * o).toInt = 3 * (o).toInt := iMul (x := 3) (y := (o).toInt) (by decide) rfl (by omega) (by omega)
    refine pm_go (g := (151, _, [.int (nI k), .int (3 * o), .ref 33, .int (mPm ((3 * m) + (nI k)).toNatClampNeg), .ref 25], _, 0, 0)) rfl ?_
    refine pm_go (g := (152, _, [.int ((3 * o) + (nI k)), .ref 33, .int (mPm ((3 * m) + (nI k)).toNatClampNeg), .ref 25], _, 0, 0)) rfl ?_
    try have h11 : ((3 * o) + (nI k)).toInt = (3 * o).toInt + (nI k).toInt := iAdd (x := (3 * o).toInt) (y := (nI k).toInt) rfl rfl (by omega) (by omega)
    refine pm_sd (g := (153, _, [.int (mPm ((3 * o) + (nI k)).toNatClampNeg), .int (mPm ((3 * m) + (nI k)).toNatClampNeg), .ref 25], _, 0, 0)) rfl (pm_inI (by omega) (by omega)) ?_
    refine pm_callD (z := 132) (as := [.ref 25, .int (mPm ((3 * m) + (nI k)).toNatClampNeg), .int (mPm ((3 * o) + (nI k)).toNatClampNeg)]) (rest := []) rfl ?_
    refine w_X12_isUnder (mPm ((3 * m) + (nI k)).toNatClampNeg) (mPm ((3 * o) + (nI k)).toNatClampNeg) (by assumption) (fun h12 => ?_) (fun h13 => ?_)
    ·
      show pm_WP 149 (156, [(6, .int (nI k)), (5, .int x), (4, .int o), (3, .int 1), (0, .ref 25), (1, .int m), (2, .int n0)], [.int 1], _, 0, 0) _
      refine pm_go (g := (178, _, [.int 1], _, 0, 0)) rfl ?_
      refine pm_go (g := (179, [(3, .int 1), (6, .int (nI k)), (5, .int x), (4, .int o), (0, .ref 25), (1, .int m), (2, .int n0)], [], _, 0, 0)) rfl ?_
      refine pm_go (g := (182, [(6, .int ((nI k) + 1)), (3, .int 1), (5, .int x), (4, .int o), (0, .ref 25), (1, .int m), (2, .int n0)], [], _, 0, 0)) rfl ?_
      refine pm_go (g := (110, _, [], _, 0, 0)) rfl ?_
      refine pm_sub (lv := [(6, .int ((nI k) + 1)), (5, .int x), (4, .int o), (3, .int 1), (0, .ref 25), (1, .int m), (2, .int n0)]) ?_ ⟨le_c (List.Mem.head _) (le_c (List.Mem.tail _ (List.Mem.tail _ (List.Mem.head _))) (le_c (List.Mem.tail _ (List.Mem.tail _ (List.Mem.tail _ (List.Mem.head _)))) (le_c (List.Mem.tail _ (List.Mem.head _)) (le_c (List.Mem.tail _ (List.Mem.tail _ (List.Mem.tail _ (List.Mem.tail _ (List.Mem.head _))))) (le_c (List.Mem.tail _ (List.Mem.tail _ (List.Mem.tail _ (List.Mem.tail _ (List.Mem.tail _ (List.Mem.head _)))))) (le_c (List.Mem.tail _ (List.Mem.tail _ (List.Mem.tail _ (List.Mem.tail _ (List.Mem.tail _ (List.Mem.tail _ (List.Mem.head _))))))) le_n)))))), (show ([6, 3, 5, 4, 0, 1, 2] : List Nat).Nodup by decide)⟩
      rw [nI_1]
      refine ih (k + 1) (by omega) (by omega) (fun h => k0 (fun j q1 q2 => ?_)) (fun h => k1 (fun q => h (fun j q1 q2 => q j (by omega) q2)))
      rcases Nat.eq_or_lt_of_le q1 with e9 | e9
      · subst e9; refine ⟨fun q => ?_, fun q => ?_⟩ <;> first | (exfalso; omega) | assumption
      · exact h j e9 q2
    show pm_WP 149 (156, [(6, .int (nI k)), (5, .int x), (4, .int o), (3, .int 1), (0, .ref 25), (1, .int m), (2, .int n0)], [.int 0], hq g c1 c2 c3 c4 c5 c6 c7 c8 c9 c10 c11 c12 c13 c14 c15 c16 c17 c18 c19 c20 c21 c22 c23 c24 (hc25 mTy mTm mMn mFn mRn mTn mVn mLr mTr mFl mFm mFp mSc mMp mEn) (hc26 mPa) (hc27 mTo) (hc28 mOt) (hc29 mNa) (hc30 mRe) (hc31 mMa) (hc32 mMy) (hc33 mPm) (hc34 mFy) (hc35 mFa) (hc36 mFr) (hc37 mFo) (hc38 mRt) (hc39 mRm) (hc40 mTt) (hc41 mTi) (hc42 mPl) (hc43 mVr) (hc44 mVf) (hc45 mVc) (hc46 mAr) (hc47 mTc) (hc48 mFt) (hc49 mGo) dyn, 0, 0) _
    refine pm_go (g := (178, _, [.int 0], _, 0, 0)) rfl ?_
    refine pm_go (g := (179, [(3, .int 0), (6, .int (nI k)), (5, .int x), (4, .int o), (0, .ref 25), (1, .int m), (2, .int n0)], [], _, 0, 0)) rfl ?_
    refine pm_go (g := (182, [(6, .int ((nI k) + 1)), (3, .int 0), (5, .int x), (4, .int o), (0, .ref 25), (1, .int m), (2, .int n0)], [], _, 0, 0)) rfl ?_
    refine pm_go (g := (110, _, [], _, 0, 0)) rfl ?_
    refine pm_go (g := (111, _, [.int 0], _, 0, 0)) rfl ?_
    refine pm_brT (g := (185, [(6, .int ((nI k) + 1)), (3, .int 0), (5, .int x), (4, .int o), (0, .ref 25), (1, .int m), (2, .int n0)], [], hq g c1 c2 c3 c4 c5 c6 c7 c8 c9 c10 c11 c12 c13 c14 c15 c16 c17 c18 c19 c20 c21 c22 c23 c24 (hc25 mTy mTm mMn mFn mRn mTn mVn mLr mTr mFl mFm mFp mSc mMp mEn) (hc26 mPa) (hc27 mTo) (hc28 mOt) (hc29 mNa) (hc30 mRe) (hc31 mMa) (hc32 mMy) (hc33 mPm) (hc34 mFy) (hc35 mFa) (hc36 mFr) (hc37 mFo) (hc38 mRt) (hc39 mRm) (hc40 mTt) (hc41 mTi) (hc42 mPl) (hc43 mVr) (hc44 mVf) (hc45 mVc) (hc46 mAr) (hc47 mTc) (hc48 mFt) (hc49 mGo) dyn, 0, 0)) rfl ?_
    refine pm_sub (lv := [(4, .int o), (3, .int 0), (0, .ref 25), (1, .int m), (2, .int n0)]) ?_ ⟨le_c (List.Mem.tail _ (List.Mem.tail _ (List.Mem.tail _ (List.Mem.head _)))) (le_c (List.Mem.tail _ (List.Mem.head _)) (le_c (List.Mem.tail _ (List.Mem.tail _ (List.Mem.tail _ (List.Mem.tail _ (List.Mem.head _))))) (le_c (List.Mem.tail _ (List.Mem.tail _ (List.Mem.tail _ (List.Mem.tail _ (List.Mem.tail _ (List.Mem.head _)))))) (le_c (List.Mem.tail _ (List.Mem.tail _ (List.Mem.tail _ (List.Mem.tail _ (List.Mem.tail _ (List.Mem.tail _ (List.Mem.head _))))))) le_n)))), (show ([6, 3, 5, 4, 0, 1, 2] : List Nat).Nodup by decide)⟩
    refine k1 (fun q' => ?_)
    obtain ⟨q1, q2⟩ := q' k (Nat.le_refl k) (by omega)
    first | (have q4 := q1 (by omega); simp_all; done) | (have q4 := q2 (by omega); simp_all; done)
set_option maxRecDepth 100000 in
set_option maxHeartbeats 4000000 in
theorem w_isSpecial_loop {g c1 c2 c3 c4 c5 c6 c7 c8 c9 c10 c11 c12 c13 c14 c15 c16 c17 c18 c19 c20 c21 c22 c23 c24 : pm_C} {dyn : pm_H} {mTy : Int32} {mPa : Nat → Int32} {mTo : Nat → Int32} {mTm : Int32} {mMn : Int32} {mOt : Nat → Int32} {mNa : Nat → Int32} {mRe : Nat → Int32} {mMa : Nat → Int32} {mMy : Nat → Int32} {mPm : Nat → Int32} {mFn : Int32} {mFy : Nat → Int32} {mFa : Nat → Int32} {mFr : Nat → Int32} {mRn : Int32} {mFo : Nat → Int32} {mRt : Nat → Int32} {mRm : Nat → Int32} {mTn : Int32} {mTt : Nat → Int32} {mTi : Nat → Int32} {mPl : Nat → Int32} {mVn : Int32} {mVr : Nat → Int32} {mVf : Nat → Int32} {mVc : Nat → Int32} {mAr : Nat → Int32} {mLr : Int32} {mTc : Nat → Int32} {mTr : Int32} {mFl : Int32} {mFt : Nat → Int32} {mFm : Int32} {mFp : Int32} {mSc : Int32} {mMp : Int32} {mEn : Int32} {mGo : Nat → Int32} {Q : pm_Q} (m n0 : Int32) (hm : 0 ≤ m.toInt ∧ m.toInt < 40) (hn0 : 0 ≤ n0.toInt ∧ n0.toInt ≤ 3) (hpp : 1 ≤ mFp.toInt ∧ mFp.toInt ≤ 3) (hp : paD mPa) (hy : myD mMy) (hn : 0 ≤ mMn.toInt ∧ mMn.toInt ≤ 40) (hfv : fvD mFp mMy mFt mMn) (h3m : mFp.toInt = 3 → 1 ≤ (mMy m.toNatClampNeg).toInt) : ∀ (n k : Nat), (k ≤ 40) → (40 < k + n) → (spL mPa mMy mPm mFt mMn mFp n0 m k → Q (some (.int 1)) (hq g c1 c2 c3 c4 c5 c6 c7 c8 c9 c10 c11 c12 c13 c14 c15 c16 c17 c18 c19 c20 c21 c22 c23 c24 (hc25 mTy mTm mMn mFn mRn mTn mVn mLr mTr mFl mFm mFp mSc mMp mEn) (hc26 mPa) (hc27 mTo) (hc28 mOt) (hc29 mNa) (hc30 mRe) (hc31 mMa) (hc32 mMy) (hc33 mPm) (hc34 mFy) (hc35 mFa) (hc36 mFr) (hc37 mFo) (hc38 mRt) (hc39 mRm) (hc40 mTt) (hc41 mTi) (hc42 mPl) (hc43 mVr) (hc44 mVf) (hc45 mVc) (hc46 mAr) (hc47 mTc) (hc48 mFt) (hc49 mGo) dyn)) → (¬ spL mPa mMy mPm mFt mMn mFp n0 m k → Q (some (.int 0)) (hq g c1 c2 c3 c4 c5 c6 c7 c8 c9 c10 c11 c12 c13 c14 c15 c16 c17 c18 c19 c20 c21 c22 c23 c24 (hc25 mTy mTm mMn mFn mRn mTn mVn mLr mTr mFl mFm mFp mSc mMp mEn) (hc26 mPa) (hc27 mTo) (hc28 mOt) (hc29 mNa) (hc30 mRe) (hc31 mMa) (hc32 mMy) (hc33 mPm) (hc34 mFy) (hc35 mFa) (hc36 mFr) (hc37 mFo) (hc38 mRt) (hc39 mRm) (hc40 mTt) (hc41 mTi) (hc42 mPl) (hc43 mVr) (hc44 mVf) (hc45 mVc) (hc46 mAr) (hc47 mTc) (hc48 mFt) (hc49 mGo) dyn)) → pm_WP 149 (5, [(4, .int (nI k)), (3, .int 1), (0, .ref 25), (1, .int m), (2, .int n0)], [], hq g c1 c2 c3 c4 c5 c6 c7 c8 c9 c10 c11 c12 c13 c14 c15 c16 c17 c18 c19 c20 c21 c22 c23 c24 (hc25 mTy mTm mMn mFn mRn mTn mVn mLr mTr mFl mFm mFp mSc mMp mEn) (hc26 mPa) (hc27 mTo) (hc28 mOt) (hc29 mNa) (hc30 mRe) (hc31 mMa) (hc32 mMy) (hc33 mPm) (hc34 mFy) (hc35 mFa) (hc36 mFr) (hc37 mFo) (hc38 mRt) (hc39 mRm) (hc40 mTt) (hc41 mTi) (hc42 mPl) (hc43 mVr) (hc44 mVf) (hc45 mVc) (hc46 mAr) (hc47 mTc) (hc48 mFt) (hc49 mGo) dyn, 0, 0) Q := by
  intro n
  induction n with
  | zero =>
    intro k g1 g2 k0 k1
    exfalso; omega
  | succ n ih =>
    intro k g1 g2 k0 k1
    have hk := nI_toInt (n := k) (by omega)
    have hkc : (nI k).toNatClampNeg = k := nI_clamp (by omega)
    have hmm := myD_at hy hm.1 hm.2
    have hmk : k < 40 → 0 ≤ (mMy (nI k).toNatClampNeg).toInt ∧ (mMy (nI k).toNatClampNeg).toInt ≤ 3 := fun q => myD_at hy (by omega) (by omega)
    have hft : (mFt (nI k).toNatClampNeg).toInt = (mFt k).toInt := by rw [hkc]
    refine pm_go (g := (6, [(4, .int (nI k)), (3, .int 1), (0, .ref 25), (1, .int m), (2, .int n0)], [.int 1], hq g c1 c2 c3 c4 c5 c6 c7 c8 c9 c10 c11 c12 c13 c14 c15 c16 c17 c18 c19 c20 c21 c22 c23 c24 (hc25 mTy mTm mMn mFn mRn mTn mVn mLr mTr mFl mFm mFp mSc mMp mEn) (hc26 mPa) (hc27 mTo) (hc28 mOt) (hc29 mNa) (hc30 mRe) (hc31 mMa) (hc32 mMy) (hc33 mPm) (hc34 mFy) (hc35 mFa) (hc36 mFr) (hc37 mFo) (hc38 mRt) (hc39 mRm) (hc40 mTt) (hc41 mTi) (hc42 mPl) (hc43 mVr) (hc44 mVf) (hc45 mVc) (hc46 mAr) (hc47 mTc) (hc48 mFt) (hc49 mGo) dyn, 0, 0)) rfl ?_
    refine pm_brF (h := (9, [(4, .int (nI k)), (3, .int 1), (0, .ref 25), (1, .int m), (2, .int n0)], [], hq g c1 c2 c3 c4 c5 c6 c7 c8 c9 c10 c11 c12 c13 c14 c15 c16 c17 c18 c19 c20 c21 c22 c23 c24 (hc25 mTy mTm mMn mFn mRn mTn mVn mLr mTr mFl mFm mFp mSc mMp mEn) (hc26 mPa) (hc27 mTo) (hc28 mOt) (hc29 mNa) (hc30 mRe) (hc31 mMa) (hc32 mMy) (hc33 mPm) (hc34 mFy) (hc35 mFa) (hc36 mFr) (hc37 mFo) (hc38 mRt) (hc39 mRm) (hc40 mTt) (hc41 mTi) (hc42 mPl) (hc43 mVr) (hc44 mVf) (hc45 mVc) (hc46 mAr) (hc47 mTc) (hc48 mFt) (hc49 mGo) dyn, 0, 0)) rfl ?_
    refine pm_go (g := (11, _, [.int (nI k)], _, 0, 0)) rfl ?_
    refine pm_go (g := (12, _, [.ref 25, .int (nI k)], _, 0, 0)) rfl ?_
    refine pm_go (g := (15, _, [.int mMn, .int (nI k)], _, 0, 0)) rfl ?_
    refine pm_if2 (g := (191, [(4, .int (nI k)), (3, .int 1), (0, .ref 25), (1, .int m), (2, .int n0)], [], hq g c1 c2 c3 c4 c5 c6 c7 c8 c9 c10 c11 c12 c13 c14 c15 c16 c17 c18 c19 c20 c21 c22 c23 c24 (hc25 mTy mTm mMn mFn mRn mTn mVn mLr mTr mFl mFm mFp mSc mMp mEn) (hc26 mPa) (hc27 mTo) (hc28 mOt) (hc29 mNa) (hc30 mRe) (hc31 mMa) (hc32 mMy) (hc33 mPm) (hc34 mFy) (hc35 mFa) (hc36 mFr) (hc37 mFo) (hc38 mRt) (hc39 mRm) (hc40 mTt) (hc41 mTi) (hc42 mPl) (hc43 mVr) (hc44 mVf) (hc45 mVc) (hc46 mAr) (hc47 mTc) (hc48 mFt) (hc49 mGo) dyn, 0, 0)) (h := (18, [(4, .int (nI k)), (3, .int 1), (0, .ref 25), (1, .int m), (2, .int n0)], [], hq g c1 c2 c3 c4 c5 c6 c7 c8 c9 c10 c11 c12 c13 c14 c15 c16 c17 c18 c19 c20 c21 c22 c23 c24 (hc25 mTy mTm mMn mFn mRn mTn mVn mLr mTr mFl mFm mFp mSc mMp mEn) (hc26 mPa) (hc27 mTo) (hc28 mOt) (hc29 mNa) (hc30 mRe) (hc31 mMa) (hc32 mMy) (hc33 mPm) (hc34 mFy) (hc35 mFa) (hc36 mFr) (hc37 mFo) (hc38 mRt) (hc39 mRm) (hc40 mTt) (hc41 mTi) (hc42 mPl) (hc43 mVr) (hc44 mVf) (hc45 mVc) (hc46 mAr) (hc47 mTc) (hc48 mFt) (hc49 mGo) dyn, 0, 0)) rfl (fun h1 => ?_) (fun h1 => ?_)
    ·
      have h1 := qT_ge (cx := (nI k).toInt) (cy := (mMn).toInt) rfl rfl h1
      refine pm_go (g := (192, _, [.int 1], _, 0, 0)) rfl ?_
      exact pm_ret rfl (k0 (fun j q1 q2 => absurd q2 (by omega)))
    have h1 := qF_ge (cx := (nI k).toInt) (cy := (mMn).toInt) rfl rfl h1
    refine pm_go (g := (19, _, [.ref 25], _, 0, 0)) rfl ?_
    refine pm_go (g := (22, _, [.ref 48], _, 0, 0)) rfl ?_
    refine pm_go (g := (24, _, [.int (nI k), .ref 48], _, 0, 0)) rfl ?_
    refine pm_sd (g := (25, _, [.int (mFt (nI k).toNatClampNeg)], _, 0, 0)) rfl (pm_inI (by omega) (by omega)) ?_
    refine pm_if2 (g := (185, [(4, .int (nI k)), (3, .int 1), (0, .ref 25), (1, .int m), (2, .int n0)], [], hq g c1 c2 c3 c4 c5 c6 c7 c8 c9 c10 c11 c12 c13 c14 c15 c16 c17 c18 c19 c20 c21 c22 c23 c24 (hc25 mTy mTm mMn mFn mRn mTn mVn mLr mTr mFl mFm mFp mSc mMp mEn) (hc26 mPa) (hc27 mTo) (hc28 mOt) (hc29 mNa) (hc30 mRe) (hc31 mMa) (hc32 mMy) (hc33 mPm) (hc34 mFy) (hc35 mFa) (hc36 mFr) (hc37 mFo) (hc38 mRt) (hc39 mRm) (hc40 mTt) (hc41 mTi) (hc42 mPl) (hc43 mVr) (hc44 mVf) (hc45 mVc) (hc46 mAr) (hc47 mTc) (hc48 mFt) (hc49 mGo) dyn, 0, 0)) (h := (28, [(4, .int (nI k)), (3, .int 1), (0, .ref 25), (1, .int m), (2, .int n0)], [], hq g c1 c2 c3 c4 c5 c6 c7 c8 c9 c10 c11 c12 c13 c14 c15 c16 c17 c18 c19 c20 c21 c22 c23 c24 (hc25 mTy mTm mMn mFn mRn mTn mVn mLr mTr mFl mFm mFp mSc mMp mEn) (hc26 mPa) (hc27 mTo) (hc28 mOt) (hc29 mNa) (hc30 mRe) (hc31 mMa) (hc32 mMy) (hc33 mPm) (hc34 mFy) (hc35 mFa) (hc36 mFr) (hc37 mFo) (hc38 mRt) (hc39 mRm) (hc40 mTt) (hc41 mTi) (hc42 mPl) (hc43 mVr) (hc44 mVf) (hc45 mVc) (hc46 mAr) (hc47 mTc) (hc48 mFt) (hc49 mGo) dyn, 0, 0)) rfl (fun h2 => ?_) (fun h2 => ?_)
    ·
      have h2 := qT_eq (cx := (mFt (nI k).toNatClampNeg).toInt) (cy := 0) rfl (by decide) h2
      refine pm_go (g := (188, [(4, .int ((nI k) + 1)), (3, .int 1), (0, .ref 25), (1, .int m), (2, .int n0)], [], _, 0, 0)) rfl ?_
      refine pm_go (g := (5, _, [], _, 0, 0)) rfl ?_
      refine pm_sub (lv := [(4, .int ((nI k) + 1)), (3, .int 1), (0, .ref 25), (1, .int m), (2, .int n0)]) ?_ ⟨le_c (List.Mem.head _) (le_c (List.Mem.tail _ (List.Mem.head _)) (le_c (List.Mem.tail _ (List.Mem.tail _ (List.Mem.head _))) (le_c (List.Mem.tail _ (List.Mem.tail _ (List.Mem.tail _ (List.Mem.head _)))) (le_c (List.Mem.tail _ (List.Mem.tail _ (List.Mem.tail _ (List.Mem.tail _ (List.Mem.head _))))) le_n)))), (show ([4, 3, 0, 1, 2] : List Nat).Nodup by decide)⟩
      rw [nI_1]
      refine ih (k + 1) (by omega) (by omega) (fun h => k0 (fun j q1 q2 q3 q4 => ?_)) (fun h => k1 (fun q => h (fun j q1 q2 q3 q4 => q j (by omega) q2 q3 q4)))
      rcases Nat.eq_or_lt_of_le q1 with e9 | e9
      · subst e9; first | assumption | (exfalso; omega)
      · exact h j e9 q2 q3 q4
    have h2 := qF_eq (cx := (mFt (nI k).toNatClampNeg).toInt) (cy := 0) rfl (by decide) h2
    refine pm_go (g := (30, [(4, .int (nI k)), (3, .int 1), (0, .ref 25), (1, .int m), (2, .int n0)], [.int (nI k)], _, 0, 0)) rfl ?_
    refine pm_go (g := (31, _, [.int m, .int (nI k)], _, 0, 0)) rfl ?_
    refine pm_if2 (g := (185, [(4, .int (nI k)), (3, .int 1), (0, .ref 25), (1, .int m), (2, .int n0)], [], hq g c1 c2 c3 c4 c5 c6 c7 c8 c9 c10 c11 c12 c13 c14 c15 c16 c17 c18 c19 c20 c21 c22 c23 c24 (hc25 mTy mTm mMn mFn mRn mTn mVn mLr mTr mFl mFm mFp mSc mMp mEn) (hc26 mPa) (hc27 mTo) (hc28 mOt) (hc29 mNa) (hc30 mRe) (hc31 mMa) (hc32 mMy) (hc33 mPm) (hc34 mFy) (hc35 mFa) (hc36 mFr) (hc37 mFo) (hc38 mRt) (hc39 mRm) (hc40 mTt) (hc41 mTi) (hc42 mPl) (hc43 mVr) (hc44 mVf) (hc45 mVc) (hc46 mAr) (hc47 mTc) (hc48 mFt) (hc49 mGo) dyn, 0, 0)) (h := (34, [(4, .int (nI k)), (3, .int 1), (0, .ref 25), (1, .int m), (2, .int n0)], [], hq g c1 c2 c3 c4 c5 c6 c7 c8 c9 c10 c11 c12 c13 c14 c15 c16 c17 c18 c19 c20 c21 c22 c23 c24 (hc25 mTy mTm mMn mFn mRn mTn mVn mLr mTr mFl mFm mFp mSc mMp mEn) (hc26 mPa) (hc27 mTo) (hc28 mOt) (hc29 mNa) (hc30 mRe) (hc31 mMa) (hc32 mMy) (hc33 mPm) (hc34 mFy) (hc35 mFa) (hc36 mFr) (hc37 mFo) (hc38 mRt) (hc39 mRm) (hc40 mTt) (hc41 mTi) (hc42 mPl) (hc43 mVr) (hc44 mVf) (hc45 mVc) (hc46 mAr) (hc47 mTc) (hc48 mFt) (hc49 mGo) dyn, 0, 0)) rfl (fun h3 => ?_) (fun h3 => ?_)
    ·
      have h3 := qT_eq (cx := (nI k).toInt) (cy := (m).toInt) rfl rfl h3
      refine pm_go (g := (188, [(4, .int ((nI k) + 1)), (3, .int 1), (0, .ref 25), (1, .int m), (2, .int n0)], [], _, 0, 0)) rfl ?_
      refine pm_go (g := (5, _, [], _, 0, 0)) rfl ?_
      refine pm_sub (lv := [(4, .int ((nI k) + 1)), (3, .int 1), (0, .ref 25), (1, .int m), (2, .int n0)]) ?_ ⟨le_c (List.Mem.head _) (le_c (List.Mem.tail _ (List.Mem.head _)) (le_c (List.Mem.tail _ (List.Mem.tail _ (List.Mem.head _))) (le_c (List.Mem.tail _ (List.Mem.tail _ (List.Mem.tail _ (List.Mem.head _)))) (le_c (List.Mem.tail _ (List.Mem.tail _ (List.Mem.tail _ (List.Mem.tail _ (List.Mem.head _))))) le_n)))), (show ([4, 3, 0, 1, 2] : List Nat).Nodup by decide)⟩
      rw [nI_1]
      refine ih (k + 1) (by omega) (by omega) (fun h => k0 (fun j q1 q2 q3 q4 => ?_)) (fun h => k1 (fun q => h (fun j q1 q2 q3 q4 => q j (by omega) q2 q3 q4)))
      rcases Nat.eq_or_lt_of_le q1 with e9 | e9
      · subst e9; first | assumption | (exfalso; omega)
      · exact h j e9 q2 q3 q4
    have h3 := qF_eq (cx := (nI k).toInt) (cy := (m).toInt) rfl rfl h3
    refine pm_go (g := (35, [(4, .int (nI k)), (3, .int 1), (0, .ref 25), (1, .int m), (2, .int n0)], [.ref 25], _, 0, 0)) rfl ?_
    refine pm_go (g := (38, _, [.int mFp], _, 0, 0)) rfl ?_
    refine pm_go (g := (39, _, [.int 3, .int mFp], _, 0, 0)) rfl ?_
    refine pm_if2 (g := (51, [(4, .int (nI k)), (3, .int 1), (0, .ref 25), (1, .int m), (2, .int n0)], [], hq g c1 c2 c3 c4 c5 c6 c7 c8 c9 c10 c11 c12 c13 c14 c15 c16 c17 c18 c19 c20 c21 c22 c23 c24 (hc25 mTy mTm mMn mFn mRn mTn mVn mLr mTr mFl mFm mFp mSc mMp mEn) (hc26 mPa) (hc27 mTo) (hc28 mOt) (hc29 mNa) (hc30 mRe) (hc31 mMa) (hc32 mMy) (hc33 mPm) (hc34 mFy) (hc35 mFa) (hc36 mFr) (hc37 mFo) (hc38 mRt) (hc39 mRm) (hc40 mTt) (hc41 mTi) (hc42 mPl) (hc43 mVr) (hc44 mVf) (hc45 mVc) (hc46 mAr) (hc47 mTc) (hc48 mFt) (hc49 mGo) dyn, 0, 0)) (h := (42, [(4, .int (nI k)), (3, .int 1), (0, .ref 25), (1, .int m), (2, .int n0)], [], hq g c1 c2 c3 c4 c5 c6 c7 c8 c9 c10 c11 c12 c13 c14 c15 c16 c17 c18 c19 c20 c21 c22 c23 c24 (hc25 mTy mTm mMn mFn mRn mTn mVn mLr mTr mFl mFm mFp mSc mMp mEn) (hc26 mPa) (hc27 mTo) (hc28 mOt) (hc29 mNa) (hc30 mRe) (hc31 mMa) (hc32 mMy) (hc33 mPm) (hc34 mFy) (hc35 mFa) (hc36 mFr) (hc37 mFo) (hc38 mRt) (hc39 mRm) (hc40 mTt) (hc41 mTi) (hc42 mPl) (hc43 mVr) (hc44 mVf) (hc45 mVc) (hc46 mAr) (hc47 mTc) (hc48 mFt) (hc49 mGo) dyn, 0, 0)) rfl (fun h4 => ?_) (fun h4 => ?_)
    ·
      have h4 := qT_ge (cx := (mFp).toInt) (cy := 3) rfl (by decide) h4
      refine pm_go (g := (52, _, [.ref 25], _, 0, 0)) rfl ?_
      refine pm_go (g := (55, _, [.ref 32], _, 0, 0)) rfl ?_
      refine pm_go (g := (56, _, [.int m, .ref 32], _, 0, 0)) rfl ?_
      refine pm_sd (g := (57, _, [.int (mMy (m).toNatClampNeg)], _, 0, 0)) rfl (pm_inI (by omega) (by omega)) ?_
      refine pm_go (g := (58, _, [.ref 25, .int (mMy (m).toNatClampNeg)], _, 0, 0)) rfl ?_
      refine pm_go (g := (61, _, [.ref 32, .int (mMy (m).toNatClampNeg)], _, 0, 0)) rfl ?_
      refine pm_go (g := (63, _, [.int (nI k), .ref 32, .int (mMy (m).toNatClampNeg)], _, 0, 0)) rfl ?_
      refine pm_sd (g := (64, _, [.int (mMy (nI k).toNatClampNeg), .int (mMy (m).toNatClampNeg)], _, 0, 0)) rfl (pm_inI (by omega) (by omega)) ?_
      refine pm_if2 (g := (76, [(4, .int (nI k)), (3, .int 1), (0, .ref 25), (1, .int m), (2, .int n0)], [], hq g c1 c2 c3 c4 c5 c6 c7 c8 c9 c10 c11 c12 c13 c14 c15 c16 c17 c18 c19 c20 c21 c22 c23 c24 (hc25 mTy mTm mMn mFn mRn mTn mVn mLr mTr mFl mFm mFp mSc mMp mEn) (hc26 mPa) (hc27 mTo) (hc28 mOt) (hc29 mNa) (hc30 mRe) (hc31 mMa) (hc32 mMy) (hc33 mPm) (hc34 mFy) (hc35 mFa) (hc36 mFr) (hc37 mFo) (hc38 mRt) (hc39 mRm) (hc40 mTt) (hc41 mTi) (hc42 mPl) (hc43 mVr) (hc44 mVf) (hc45 mVc) (hc46 mAr) (hc47 mTc) (hc48 mFt) (hc49 mGo) dyn, 0, 0)) (h := (67, [(4, .int (nI k)), (3, .int 1), (0, .ref 25), (1, .int m), (2, .int n0)], [], hq g c1 c2 c3 c4 c5 c6 c7 c8 c9 c10 c11 c12 c13 c14 c15 c16 c17 c18 c19 c20 c21 c22 c23 c24 (hc25 mTy mTm mMn mFn mRn mTn mVn mLr mTr mFl mFm mFp mSc mMp mEn) (hc26 mPa) (hc27 mTo) (hc28 mOt) (hc29 mNa) (hc30 mRe) (hc31 mMa) (hc32 mMy) (hc33 mPm) (hc34 mFy) (hc35 mFa) (hc36 mFr) (hc37 mFo) (hc38 mRt) (hc39 mRm) (hc40 mTt) (hc41 mTi) (hc42 mPl) (hc43 mVr) (hc44 mVf) (hc45 mVc) (hc46 mAr) (hc47 mTc) (hc48 mFt) (hc49 mGo) dyn, 0, 0)) rfl (fun h5 => ?_) (fun h5 => ?_)
      ·
        have h5 := qT_le (cx := (mMy (m).toNatClampNeg).toInt) (cy := (mMy (nI k).toNatClampNeg).toInt) rfl rfl h5
        refine pm_go (g := (77, _, [.ref 25], _, 0, 0)) rfl ?_
        refine pm_go (g := (80, _, [.ref 32], _, 0, 0)) rfl ?_
        refine pm_go (g := (82, _, [.int (nI k), .ref 32], _, 0, 0)) rfl ?_
        refine pm_sd (g := (83, _, [.int (mMy (nI k).toNatClampNeg)], _, 0, 0)) rfl (pm_inI (by omega) (by omega)) ?_
        refine pm_go (g := (85, [(5, .int (mMy (nI k).toNatClampNeg)), (4, .int (nI k)), (3, .int 1), (0, .ref 25), (1, .int m), (2, .int n0)], [], _, 0, 0)) rfl ?_
        refine pm_go (g := (86, _, [.ref 25], _, 0, 0)) rfl ?_
        refine pm_go (g := (89, _, [.int mFp], _, 0, 0)) rfl ?_
        refine pm_go (g := (90, _, [.int 3, .int mFp], _, 0, 0)) rfl ?_
        refine pm_if2 (g := (103, [(5, .int (mMy (nI k).toNatClampNeg)), (4, .int (nI k)), (3, .int 1), (0, .ref 25), (1, .int m), (2, .int n0)], [], hq g c1 c2 c3 c4 c5 c6 c7 c8 c9 c10 c11 c12 c13 c14 c15 c16 c17 c18 c19 c20 c21 c22 c23 c24 (hc25 mTy mTm mMn mFn mRn mTn mVn mLr mTr mFl mFm mFp mSc mMp mEn) (hc26 mPa) (hc27 mTo) (hc28 mOt) (hc29 mNa) (hc30 mRe) (hc31 mMa) (hc32 mMy) (hc33 mPm) (hc34 mFy) (hc35 mFa) (hc36 mFr) (hc37 mFo) (hc38 mRt) (hc39 mRm) (hc40 mTt) (hc41 mTi) (hc42 mPl) (hc43 mVr) (hc44 mVf) (hc45 mVc) (hc46 mAr) (hc47 mTc) (hc48 mFt) (hc49 mGo) dyn, 0, 0)) (h := (93, [(5, .int (mMy (nI k).toNatClampNeg)), (4, .int (nI k)), (3, .int 1), (0, .ref 25), (1, .int m), (2, .int n0)], [], hq g c1 c2 c3 c4 c5 c6 c7 c8 c9 c10 c11 c12 c13 c14 c15 c16 c17 c18 c19 c20 c21 c22 c23 c24 (hc25 mTy mTm mMn mFn mRn mTn mVn mLr mTr mFl mFm mFp mSc mMp mEn) (hc26 mPa) (hc27 mTo) (hc28 mOt) (hc29 mNa) (hc30 mRe) (hc31 mMa) (hc32 mMy) (hc33 mPm) (hc34 mFy) (hc35 mFa) (hc36 mFr) (hc37 mFo) (hc38 mRt) (hc39 mRm) (hc40 mTt) (hc41 mTi) (hc42 mPl) (hc43 mVr) (hc44 mVf) (hc45 mVc) (hc46 mAr) (hc47 mTc) (hc48 mFt) (hc49 mGo) dyn, 0, 0)) rfl (fun h6 => ?_) (fun h6 => ?_)
        ·
          have h6 := qT_ne (cx := (mFp).toInt) (cy := 3) rfl (by decide) h6
          refine pm_go (g := (105, _, [.int (mMy (nI k).toNatClampNeg)], _, 0, 0)) rfl ?_
          refine pm_go (g := (107, _, [], _, 0, 0)) rfl ?_
          refine pm_go (g := (108, _, [.int 0], _, 0, 0)) rfl ?_
          refine pm_go (g := (110, [(6, .int 0), (5, .int (mMy (nI k).toNatClampNeg)), (4, .int (nI k)), (3, .int 1), (0, .ref 25), (1, .int m), (2, .int n0)], [], _, 0, 0)) rfl ?_
          refine pm_sub (lv := [(6, .int 0), (5, .int (mMy (nI k).toNatClampNeg)), (4, .int (nI k)), (3, .int 1), (0, .ref 25), (1, .int m), (2, .int n0)]) ?_ ⟨le_c (List.Mem.head _) (le_c (List.Mem.tail _ (List.Mem.head _)) (le_c (List.Mem.tail _ (List.Mem.tail _ (List.Mem.head _))) (le_c (List.Mem.tail _ (List.Mem.tail _ (List.Mem.tail _ (List.Mem.head _)))) (le_c (List.Mem.tail _ (List.Mem.tail _ (List.Mem.tail _ (List.Mem.tail _ (List.Mem.head _))))) (le_c (List.Mem.tail _ (List.Mem.tail _ (List.Mem.tail _ (List.Mem.tail _ (List.Mem.tail _ (List.Mem.head _)))))) (le_c (List.Mem.tail _ (List.Mem.tail _ (List.Mem.tail _ (List.Mem.tail _ (List.Mem.tail _ (List.Mem.tail _ (List.Mem.head _))))))) le_n)))))), (show ([6, 5, 4, 3, 0, 1, 2] : List Nat).Nodup by decide)⟩
          have h3k : mFp.toInt = 3 → 1 ≤ (mMy (nI k).toNatClampNeg).toInt := fun q => by have q1 := hfv q k (by omega) (by omega); rw [hkc]; exact q1
          refine w_isSpecial_in m n0 (nI k) (mMy (nI k).toNatClampNeg) hm (by omega) (by omega) hpp hp (by omega) hmm (hmk (by omega)) (by omega) 4 0 (by omega) (by omega) (fun h => ?_) (fun h => ?_)
          ·
            show pm_WP 149 (185, [(4, .int (nI k)), (3, .int 1), (0, .ref 25), (1, .int m), (2, .int n0)], [], _, 0, 0) _
            have hO : spO mPa mMy mPm mFp n0 m (nI k) := fun j q => h j (Nat.zero_le j) (by unfold spB at q; omega)
            refine pm_go (g := (188, [(4, .int ((nI k) + 1)), (3, .int 1), (0, .ref 25), (1, .int m), (2, .int n0)], [], _, 0, 0)) rfl ?_
            refine pm_go (g := (5, _, [], _, 0, 0)) rfl ?_
            refine pm_sub (lv := [(4, .int ((nI k) + 1)), (3, .int 1), (0, .ref 25), (1, .int m), (2, .int n0)]) ?_ ⟨le_c (List.Mem.head _) (le_c (List.Mem.tail _ (List.Mem.head _)) (le_c (List.Mem.tail _ (List.Mem.tail _ (List.Mem.head _))) (le_c (List.Mem.tail _ (List.Mem.tail _ (List.Mem.tail _ (List.Mem.head _)))) (le_c (List.Mem.tail _ (List.Mem.tail _ (List.Mem.tail _ (List.Mem.tail _ (List.Mem.head _))))) le_n)))), (show ([4, 3, 0, 1, 2] : List Nat).Nodup by decide)⟩
            rw [nI_1]
            refine ih (k + 1) (by omega) (by omega) (fun h => k0 (fun j q1 q2 q3 q4 => ?_)) (fun h => k1 (fun q => h (fun j q1 q2 q3 q4 => q j (by omega) q2 q3 q4)))
            rcases Nat.eq_or_lt_of_le q1 with e9 | e9
            · subst e9; first | assumption | (exfalso; omega)
            · exact h j e9 q2 q3 q4
          show pm_WP 149 (185, [(4, .int (nI k)), (3, .int 0), (0, .ref 25), (1, .int m), (2, .int n0)], [], hq g c1 c2 c3 c4 c5 c6 c7 c8 c9 c10 c11 c12 c13 c14 c15 c16 c17 c18 c19 c20 c21 c22 c23 c24 (hc25 mTy mTm mMn mFn mRn mTn mVn mLr mTr mFl mFm mFp mSc mMp mEn) (hc26 mPa) (hc27 mTo) (hc28 mOt) (hc29 mNa) (hc30 mRe) (hc31 mMa) (hc32 mMy) (hc33 mPm) (hc34 mFy) (hc35 mFa) (hc36 mFr) (hc37 mFo) (hc38 mRt) (hc39 mRm) (hc40 mTt) (hc41 mTi) (hc42 mPl) (hc43 mVr) (hc44 mVf) (hc45 mVc) (hc46 mAr) (hc47 mTc) (hc48 mFt) (hc49 mGo) dyn, 0, 0) _
          refine pm_go (g := (188, [(4, .int ((nI k) + 1)), (3, .int 0), (0, .ref 25), (1, .int m), (2, .int n0)], [], _, 0, 0)) rfl ?_
          refine pm_go (g := (5, _, [], _, 0, 0)) rfl ?_
          refine pm_go (g := (6, _, [.int 0], _, 0, 0)) rfl ?_
          refine pm_brT (g := (191, [(4, .int ((nI k) + 1)), (3, .int 0), (0, .ref 25), (1, .int m), (2, .int n0)], [], hq g c1 c2 c3 c4 c5 c6 c7 c8 c9 c10 c11 c12 c13 c14 c15 c16 c17 c18 c19 c20 c21 c22 c23 c24 (hc25 mTy mTm mMn mFn mRn mTn mVn mLr mTr mFl mFm mFp mSc mMp mEn) (hc26 mPa) (hc27 mTo) (hc28 mOt) (hc29 mNa) (hc30 mRe) (hc31 mMa) (hc32 mMy) (hc33 mPm) (hc34 mFy) (hc35 mFa) (hc36 mFr) (hc37 mFo) (hc38 mRt) (hc39 mRm) (hc40 mTt) (hc41 mTi) (hc42 mPl) (hc43 mVr) (hc44 mVf) (hc45 mVc) (hc46 mAr) (hc47 mTc) (hc48 mFt) (hc49 mGo) dyn, 0, 0)) rfl ?_
          refine pm_go (g := (192, _, [.int 0], _, 0, 0)) rfl ?_
          exact pm_ret rfl (k1 (fun q => h (fun j q1 q2 => q k (Nat.le_refl k) (by omega) (by omega) (by omega) j (by unfold spB; omega))))
        have h6 := qF_ne (cx := (mFp).toInt) (cy := 3) rfl (by decide) h6
        refine pm_go (g := (94, [(5, .int (mMy (nI k).toNatClampNeg)), (4, .int (nI k)), (3, .int 1), (0, .ref 25), (1, .int m), (2, .int n0)], [.int n0], _, 0, 0)) rfl ?_
        refine pm_go (g := (96, _, [.int (mMy (nI k).toNatClampNeg), .int n0], _, 0, 0)) rfl ?_
        refine pm_if2 (g := (103, [(5, .int (mMy (nI k).toNatClampNeg)), (4, .int (nI k)), (3, .int 1), (0, .ref 25), (1, .int m), (2, .int n0)], [], hq g c1 c2 c3 c4 c5 c6 c7 c8 c9 c10 c11 c12 c13 c14 c15 c16 c17 c18 c19 c20 c21 c22 c23 c24 (hc25 mTy mTm mMn mFn mRn mTn mVn mLr mTr mFl mFm mFp mSc mMp mEn) (hc26 mPa) (hc27 mTo) (hc28 mOt) (hc29 mNa) (hc30 mRe) (hc31 mMa) (hc32 mMy) (hc33 mPm) (hc34 mFy) (hc35 mFa) (hc36 mFr) (hc37 mFo) (hc38 mRt) (hc39 mRm) (hc40 mTt) (hc41 mTi) (hc42 mPl) (hc43 mVr) (hc44 mVf) (hc45 mVc) (hc46 mAr) (hc47 mTc) (hc48 mFt) (hc49 mGo) dyn, 0, 0)) (h := (99, [(5, .int (mMy (nI k).toNatClampNeg)), (4, .int (nI k)), (3, .int 1), (0, .ref 25), (1, .int m), (2, .int n0)], [], hq g c1 c2 c3 c4 c5 c6 c7 c8 c9 c10 c11 c12 c13 c14 c15 c16 c17 c18 c19 c20 c21 c22 c23 c24 (hc25 mTy mTm mMn mFn mRn mTn mVn mLr mTr mFl mFm mFp mSc mMp mEn) (hc26 mPa) (hc27 mTo) (hc28 mOt) (hc29 mNa) (hc30 mRe) (hc31 mMa) (hc32 mMy) (hc33 mPm) (hc34 mFy) (hc35 mFa) (hc36 mFr) (hc37 mFo) (hc38 mRt) (hc39 mRm) (hc40 mTt) (hc41 mTi) (hc42 mPl) (hc43 mVr) (hc44 mVf) (hc45 mVc) (hc46 mAr) (hc47 mTc) (hc48 mFt) (hc49 mGo) dyn, 0, 0)) rfl (fun h7 => ?_) (fun h7 => ?_)
        ·
          have h7 := qT_le (cx := (n0).toInt) (cy := (mMy (nI k).toNatClampNeg).toInt) rfl rfl h7
          refine pm_go (g := (105, _, [.int (mMy (nI k).toNatClampNeg)], _, 0, 0)) rfl ?_
          refine pm_go (g := (107, _, [], _, 0, 0)) rfl ?_
          refine pm_go (g := (108, _, [.int 0], _, 0, 0)) rfl ?_
          refine pm_go (g := (110, [(6, .int 0), (5, .int (mMy (nI k).toNatClampNeg)), (4, .int (nI k)), (3, .int 1), (0, .ref 25), (1, .int m), (2, .int n0)], [], _, 0, 0)) rfl ?_
          refine pm_sub (lv := [(6, .int 0), (5, .int (mMy (nI k).toNatClampNeg)), (4, .int (nI k)), (3, .int 1), (0, .ref 25), (1, .int m), (2, .int n0)]) ?_ ⟨le_c (List.Mem.head _) (le_c (List.Mem.tail _ (List.Mem.head _)) (le_c (List.Mem.tail _ (List.Mem.tail _ (List.Mem.head _))) (le_c (List.Mem.tail _ (List.Mem.tail _ (List.Mem.tail _ (List.Mem.head _)))) (le_c (List.Mem.tail _ (List.Mem.tail _ (List.Mem.tail _ (List.Mem.tail _ (List.Mem.head _))))) (le_c (List.Mem.tail _ (List.Mem.tail _ (List.Mem.tail _ (List.Mem.tail _ (List.Mem.tail _ (List.Mem.head _)))))) (le_c (List.Mem.tail _ (List.Mem.tail _ (List.Mem.tail _ (List.Mem.tail _ (List.Mem.tail _ (List.Mem.tail _ (List.Mem.head _))))))) le_n)))))), (show ([6, 5, 4, 3, 0, 1, 2] : List Nat).Nodup by decide)⟩
          have h3k : mFp.toInt = 3 → 1 ≤ (mMy (nI k).toNatClampNeg).toInt := fun q => by have q1 := hfv q k (by omega) (by omega); rw [hkc]; exact q1
          refine w_isSpecial_in m n0 (nI k) (mMy (nI k).toNatClampNeg) hm (by omega) (by omega) hpp hp (by omega) hmm (hmk (by omega)) (by omega) 4 0 (by omega) (by omega) (fun h => ?_) (fun h => ?_)
          ·
            show pm_WP 149 (185, [(4, .int (nI k)), (3, .int 1), (0, .ref 25), (1, .int m), (2, .int n0)], [], _, 0, 0) _
            have hO : spO mPa mMy mPm mFp n0 m (nI k) := fun j q => h j (Nat.zero_le j) (by unfold spB at q; omega)
            refine pm_go (g := (188, [(4, .int ((nI k) + 1)), (3, .int 1), (0, .ref 25), (1, .int m), (2, .int n0)], [], _, 0, 0)) rfl ?_
            refine pm_go (g := (5, _, [], _, 0, 0)) rfl ?_
            refine pm_sub (lv := [(4, .int ((nI k) + 1)), (3, .int 1), (0, .ref 25), (1, .int m), (2, .int n0)]) ?_ ⟨le_c (List.Mem.head _) (le_c (List.Mem.tail _ (List.Mem.head _)) (le_c (List.Mem.tail _ (List.Mem.tail _ (List.Mem.head _))) (le_c (List.Mem.tail _ (List.Mem.tail _ (List.Mem.tail _ (List.Mem.head _)))) (le_c (List.Mem.tail _ (List.Mem.tail _ (List.Mem.tail _ (List.Mem.tail _ (List.Mem.head _))))) le_n)))), (show ([4, 3, 0, 1, 2] : List Nat).Nodup by decide)⟩
            rw [nI_1]
            refine ih (k + 1) (by omega) (by omega) (fun h => k0 (fun j q1 q2 q3 q4 => ?_)) (fun h => k1 (fun q => h (fun j q1 q2 q3 q4 => q j (by omega) q2 q3 q4)))
            rcases Nat.eq_or_lt_of_le q1 with e9 | e9
            · subst e9; first | assumption | (exfalso; omega)
            · exact h j e9 q2 q3 q4
          show pm_WP 149 (185, [(4, .int (nI k)), (3, .int 0), (0, .ref 25), (1, .int m), (2, .int n0)], [], hq g c1 c2 c3 c4 c5 c6 c7 c8 c9 c10 c11 c12 c13 c14 c15 c16 c17 c18 c19 c20 c21 c22 c23 c24 (hc25 mTy mTm mMn mFn mRn mTn mVn mLr mTr mFl mFm mFp mSc mMp mEn) (hc26 mPa) (hc27 mTo) (hc28 mOt) (hc29 mNa) (hc30 mRe) (hc31 mMa) (hc32 mMy) (hc33 mPm) (hc34 mFy) (hc35 mFa) (hc36 mFr) (hc37 mFo) (hc38 mRt) (hc39 mRm) (hc40 mTt) (hc41 mTi) (hc42 mPl) (hc43 mVr) (hc44 mVf) (hc45 mVc) (hc46 mAr) (hc47 mTc) (hc48 mFt) (hc49 mGo) dyn, 0, 0) _
          refine pm_go (g := (188, [(4, .int ((nI k) + 1)), (3, .int 0), (0, .ref 25), (1, .int m), (2, .int n0)], [], _, 0, 0)) rfl ?_
          refine pm_go (g := (5, _, [], _, 0, 0)) rfl ?_
          refine pm_go (g := (6, _, [.int 0], _, 0, 0)) rfl ?_
          refine pm_brT (g := (191, [(4, .int ((nI k) + 1)), (3, .int 0), (0, .ref 25), (1, .int m), (2, .int n0)], [], hq g c1 c2 c3 c4 c5 c6 c7 c8 c9 c10 c11 c12 c13 c14 c15 c16 c17 c18 c19 c20 c21 c22 c23 c24 (hc25 mTy mTm mMn mFn mRn mTn mVn mLr mTr mFl mFm mFp mSc mMp mEn) (hc26 mPa) (hc27 mTo) (hc28 mOt) (hc29 mNa) (hc30 mRe) (hc31 mMa) (hc32 mMy) (hc33 mPm) (hc34 mFy) (hc35 mFa) (hc36 mFr) (hc37 mFo) (hc38 mRt) (hc39 mRm) (hc40 mTt) (hc41 mTi) (hc42 mPl) (hc43 mVr) (hc44 mVf) (hc45 mVc) (hc46 mAr) (hc47 mTc) (hc48 mFt) (hc49 mGo) dyn, 0, 0)) rfl ?_
          refine pm_go (g := (192, _, [.int 0], _, 0, 0)) rfl ?_
          exact pm_ret rfl (k1 (fun q => h (fun j q1 q2 => q k (Nat.le_refl k) (by omega) (by omega) (by omega) j (by unfold spB; omega))))
        have h7 := qF_le (cx := (n0).toInt) (cy := (mMy (nI k).toNatClampNeg).toInt) rfl rfl h7
        refine pm_go (g := (100, [(5, .int (mMy (nI k).toNatClampNeg)), (4, .int (nI k)), (3, .int 1), (0, .ref 25), (1, .int m), (2, .int n0)], [.int n0], _, 0, 0)) rfl ?_
        refine pm_go (g := (105, _, [.int n0], _, 0, 0)) rfl ?_
        refine pm_go (g := (107, [(5, .int n0), (4, .int (nI k)), (3, .int 1), (0, .ref 25), (1, .int m), (2, .int n0)], [], _, 0, 0)) rfl ?_
        refine pm_go (g := (108, _, [.int 0], _, 0, 0)) rfl ?_
        refine pm_go (g := (110, [(6, .int 0), (5, .int n0), (4, .int (nI k)), (3, .int 1), (0, .ref 25), (1, .int m), (2, .int n0)], [], _, 0, 0)) rfl ?_
        refine pm_sub (lv := [(6, .int 0), (5, .int n0), (4, .int (nI k)), (3, .int 1), (0, .ref 25), (1, .int m), (2, .int n0)]) ?_ ⟨le_c (List.Mem.head _) (le_c (List.Mem.tail _ (List.Mem.head _)) (le_c (List.Mem.tail _ (List.Mem.tail _ (List.Mem.head _))) (le_c (List.Mem.tail _ (List.Mem.tail _ (List.Mem.tail _ (List.Mem.head _)))) (le_c (List.Mem.tail _ (List.Mem.tail _ (List.Mem.tail _ (List.Mem.tail _ (List.Mem.head _))))) (le_c (List.Mem.tail _ (List.Mem.tail _ (List.Mem.tail _ (List.Mem.tail _ (List.Mem.tail _ (List.Mem.head _)))))) (le_c (List.Mem.tail _ (List.Mem.tail _ (List.Mem.tail _ (List.Mem.tail _ (List.Mem.tail _ (List.Mem.tail _ (List.Mem.head _))))))) le_n)))))), (show ([6, 5, 4, 3, 0, 1, 2] : List Nat).Nodup by decide)⟩
        have h3k : mFp.toInt = 3 → 1 ≤ (mMy (nI k).toNatClampNeg).toInt := fun q => by have q1 := hfv q k (by omega) (by omega); rw [hkc]; exact q1
        refine w_isSpecial_in m n0 (nI k) (n0) hm (by omega) (by omega) hpp hp (by omega) hmm (hmk (by omega)) (by omega) 4 0 (by omega) (by omega) (fun h => ?_) (fun h => ?_)
        ·
          show pm_WP 149 (185, [(4, .int (nI k)), (3, .int 1), (0, .ref 25), (1, .int m), (2, .int n0)], [], _, 0, 0) _
          have hO : spO mPa mMy mPm mFp n0 m (nI k) := fun j q => h j (Nat.zero_le j) (by unfold spB at q; omega)
          refine pm_go (g := (188, [(4, .int ((nI k) + 1)), (3, .int 1), (0, .ref 25), (1, .int m), (2, .int n0)], [], _, 0, 0)) rfl ?_
          refine pm_go (g := (5, _, [], _, 0, 0)) rfl ?_
          refine pm_sub (lv := [(4, .int ((nI k) + 1)), (3, .int 1), (0, .ref 25), (1, .int m), (2, .int n0)]) ?_ ⟨le_c (List.Mem.head _) (le_c (List.Mem.tail _ (List.Mem.head _)) (le_c (List.Mem.tail _ (List.Mem.tail _ (List.Mem.head _))) (le_c (List.Mem.tail _ (List.Mem.tail _ (List.Mem.tail _ (List.Mem.head _)))) (le_c (List.Mem.tail _ (List.Mem.tail _ (List.Mem.tail _ (List.Mem.tail _ (List.Mem.head _))))) le_n)))), (show ([4, 3, 0, 1, 2] : List Nat).Nodup by decide)⟩
          rw [nI_1]
          refine ih (k + 1) (by omega) (by omega) (fun h => k0 (fun j q1 q2 q3 q4 => ?_)) (fun h => k1 (fun q => h (fun j q1 q2 q3 q4 => q j (by omega) q2 q3 q4)))
          rcases Nat.eq_or_lt_of_le q1 with e9 | e9
          · subst e9; first | assumption | (exfalso; omega)
          · exact h j e9 q2 q3 q4
        show pm_WP 149 (185, [(4, .int (nI k)), (3, .int 0), (0, .ref 25), (1, .int m), (2, .int n0)], [], hq g c1 c2 c3 c4 c5 c6 c7 c8 c9 c10 c11 c12 c13 c14 c15 c16 c17 c18 c19 c20 c21 c22 c23 c24 (hc25 mTy mTm mMn mFn mRn mTn mVn mLr mTr mFl mFm mFp mSc mMp mEn) (hc26 mPa) (hc27 mTo) (hc28 mOt) (hc29 mNa) (hc30 mRe) (hc31 mMa) (hc32 mMy) (hc33 mPm) (hc34 mFy) (hc35 mFa) (hc36 mFr) (hc37 mFo) (hc38 mRt) (hc39 mRm) (hc40 mTt) (hc41 mTi) (hc42 mPl) (hc43 mVr) (hc44 mVf) (hc45 mVc) (hc46 mAr) (hc47 mTc) (hc48 mFt) (hc49 mGo) dyn, 0, 0) _
        refine pm_go (g := (188, [(4, .int ((nI k) + 1)), (3, .int 0), (0, .ref 25), (1, .int m), (2, .int n0)], [], _, 0, 0)) rfl ?_
        refine pm_go (g := (5, _, [], _, 0, 0)) rfl ?_
        refine pm_go (g := (6, _, [.int 0], _, 0, 0)) rfl ?_
        refine pm_brT (g := (191, [(4, .int ((nI k) + 1)), (3, .int 0), (0, .ref 25), (1, .int m), (2, .int n0)], [], hq g c1 c2 c3 c4 c5 c6 c7 c8 c9 c10 c11 c12 c13 c14 c15 c16 c17 c18 c19 c20 c21 c22 c23 c24 (hc25 mTy mTm mMn mFn mRn mTn mVn mLr mTr mFl mFm mFp mSc mMp mEn) (hc26 mPa) (hc27 mTo) (hc28 mOt) (hc29 mNa) (hc30 mRe) (hc31 mMa) (hc32 mMy) (hc33 mPm) (hc34 mFy) (hc35 mFa) (hc36 mFr) (hc37 mFo) (hc38 mRt) (hc39 mRm) (hc40 mTt) (hc41 mTi) (hc42 mPl) (hc43 mVr) (hc44 mVf) (hc45 mVc) (hc46 mAr) (hc47 mTc) (hc48 mFt) (hc49 mGo) dyn, 0, 0)) rfl ?_
        refine pm_go (g := (192, _, [.int 0], _, 0, 0)) rfl ?_
        exact pm_ret rfl (k1 (fun q => h (fun j q1 q2 => q k (Nat.le_refl k) (by omega) (by omega) (by omega) j (by unfold spB; omega))))
      have h5 := qF_le (cx := (mMy (m).toNatClampNeg).toInt) (cy := (mMy (nI k).toNatClampNeg).toInt) rfl rfl h5
      refine pm_go (g := (68, [(4, .int (nI k)), (3, .int 1), (0, .ref 25), (1, .int m), (2, .int n0)], [.ref 25], _, 0, 0)) rfl ?_
      refine pm_go (g := (71, _, [.ref 32], _, 0, 0)) rfl ?_
      refine pm_go (g := (72, _, [.int m, .ref 32], _, 0, 0)) rfl ?_
      refine pm_sd (g := (73, _, [.int (mMy (m).toNatClampNeg)], _, 0, 0)) rfl (pm_inI (by omega) (by omega)) ?_
      refine pm_go (g := (83, _, [.int (mMy (m).toNatClampNeg)], _, 0, 0)) rfl ?_
      refine pm_go (g := (85, [(5, .int (mMy (m).toNatClampNeg)), (4, .int (nI k)), (3, .int 1), (0, .ref 25), (1, .int m), (2, .int n0)], [], _, 0, 0)) rfl ?_
      refine pm_go (g := (86, _, [.ref 25], _, 0, 0)) rfl ?_
      refine pm_go (g := (89, _, [.int mFp], _, 0, 0)) rfl ?_
      refine pm_go (g := (90, _, [.int 3, .int mFp], _, 0, 0)) rfl ?_
      refine pm_if2 (g := (103, [(5, .int (mMy (m).toNatClampNeg)), (4, .int (nI k)), (3, .int 1), (0, .ref 25), (1, .int m), (2, .int n0)], [], hq g c1 c2 c3 c4 c5 c6 c7 c8 c9 c10 c11 c12 c13 c14 c15 c16 c17 c18 c19 c20 c21 c22 c23 c24 (hc25 mTy mTm mMn mFn mRn mTn mVn mLr mTr mFl mFm mFp mSc mMp mEn) (hc26 mPa) (hc27 mTo) (hc28 mOt) (hc29 mNa) (hc30 mRe) (hc31 mMa) (hc32 mMy) (hc33 mPm) (hc34 mFy) (hc35 mFa) (hc36 mFr) (hc37 mFo) (hc38 mRt) (hc39 mRm) (hc40 mTt) (hc41 mTi) (hc42 mPl) (hc43 mVr) (hc44 mVf) (hc45 mVc) (hc46 mAr) (hc47 mTc) (hc48 mFt) (hc49 mGo) dyn, 0, 0)) (h := (93, [(5, .int (mMy (m).toNatClampNeg)), (4, .int (nI k)), (3, .int 1), (0, .ref 25), (1, .int m), (2, .int n0)], [], hq g c1 c2 c3 c4 c5 c6 c7 c8 c9 c10 c11 c12 c13 c14 c15 c16 c17 c18 c19 c20 c21 c22 c23 c24 (hc25 mTy mTm mMn mFn mRn mTn mVn mLr mTr mFl mFm mFp mSc mMp mEn) (hc26 mPa) (hc27 mTo) (hc28 mOt) (hc29 mNa) (hc30 mRe) (hc31 mMa) (hc32 mMy) (hc33 mPm) (hc34 mFy) (hc35 mFa) (hc36 mFr) (hc37 mFo) (hc38 mRt) (hc39 mRm) (hc40 mTt) (hc41 mTi) (hc42 mPl) (hc43 mVr) (hc44 mVf) (hc45 mVc) (hc46 mAr) (hc47 mTc) (hc48 mFt) (hc49 mGo) dyn, 0, 0)) rfl (fun h8 => ?_) (fun h8 => ?_)
      ·
        have h8 := qT_ne (cx := (mFp).toInt) (cy := 3) rfl (by decide) h8
        refine pm_go (g := (105, _, [.int (mMy (m).toNatClampNeg)], _, 0, 0)) rfl ?_
        refine pm_go (g := (107, _, [], _, 0, 0)) rfl ?_
        refine pm_go (g := (108, _, [.int 0], _, 0, 0)) rfl ?_
        refine pm_go (g := (110, [(6, .int 0), (5, .int (mMy (m).toNatClampNeg)), (4, .int (nI k)), (3, .int 1), (0, .ref 25), (1, .int m), (2, .int n0)], [], _, 0, 0)) rfl ?_
        refine pm_sub (lv := [(6, .int 0), (5, .int (mMy (m).toNatClampNeg)), (4, .int (nI k)), (3, .int 1), (0, .ref 25), (1, .int m), (2, .int n0)]) ?_ ⟨le_c (List.Mem.head _) (le_c (List.Mem.tail _ (List.Mem.head _)) (le_c (List.Mem.tail _ (List.Mem.tail _ (List.Mem.head _))) (le_c (List.Mem.tail _ (List.Mem.tail _ (List.Mem.tail _ (List.Mem.head _)))) (le_c (List.Mem.tail _ (List.Mem.tail _ (List.Mem.tail _ (List.Mem.tail _ (List.Mem.head _))))) (le_c (List.Mem.tail _ (List.Mem.tail _ (List.Mem.tail _ (List.Mem.tail _ (List.Mem.tail _ (List.Mem.head _)))))) (le_c (List.Mem.tail _ (List.Mem.tail _ (List.Mem.tail _ (List.Mem.tail _ (List.Mem.tail _ (List.Mem.tail _ (List.Mem.head _))))))) le_n)))))), (show ([6, 5, 4, 3, 0, 1, 2] : List Nat).Nodup by decide)⟩
        have h3k : mFp.toInt = 3 → 1 ≤ (mMy (nI k).toNatClampNeg).toInt := fun q => by have q1 := hfv q k (by omega) (by omega); rw [hkc]; exact q1
        refine w_isSpecial_in m n0 (nI k) (mMy (m).toNatClampNeg) hm (by omega) (by omega) hpp hp (by omega) hmm (hmk (by omega)) (by omega) 4 0 (by omega) (by omega) (fun h => ?_) (fun h => ?_)
        ·
          show pm_WP 149 (185, [(4, .int (nI k)), (3, .int 1), (0, .ref 25), (1, .int m), (2, .int n0)], [], _, 0, 0) _
          have hO : spO mPa mMy mPm mFp n0 m (nI k) := fun j q => h j (Nat.zero_le j) (by unfold spB at q; omega)
          refine pm_go (g := (188, [(4, .int ((nI k) + 1)), (3, .int 1), (0, .ref 25), (1, .int m), (2, .int n0)], [], _, 0, 0)) rfl ?_
          refine pm_go (g := (5, _, [], _, 0, 0)) rfl ?_
          refine pm_sub (lv := [(4, .int ((nI k) + 1)), (3, .int 1), (0, .ref 25), (1, .int m), (2, .int n0)]) ?_ ⟨le_c (List.Mem.head _) (le_c (List.Mem.tail _ (List.Mem.head _)) (le_c (List.Mem.tail _ (List.Mem.tail _ (List.Mem.head _))) (le_c (List.Mem.tail _ (List.Mem.tail _ (List.Mem.tail _ (List.Mem.head _)))) (le_c (List.Mem.tail _ (List.Mem.tail _ (List.Mem.tail _ (List.Mem.tail _ (List.Mem.head _))))) le_n)))), (show ([4, 3, 0, 1, 2] : List Nat).Nodup by decide)⟩
          rw [nI_1]
          refine ih (k + 1) (by omega) (by omega) (fun h => k0 (fun j q1 q2 q3 q4 => ?_)) (fun h => k1 (fun q => h (fun j q1 q2 q3 q4 => q j (by omega) q2 q3 q4)))
          rcases Nat.eq_or_lt_of_le q1 with e9 | e9
          · subst e9; first | assumption | (exfalso; omega)
          · exact h j e9 q2 q3 q4
        show pm_WP 149 (185, [(4, .int (nI k)), (3, .int 0), (0, .ref 25), (1, .int m), (2, .int n0)], [], hq g c1 c2 c3 c4 c5 c6 c7 c8 c9 c10 c11 c12 c13 c14 c15 c16 c17 c18 c19 c20 c21 c22 c23 c24 (hc25 mTy mTm mMn mFn mRn mTn mVn mLr mTr mFl mFm mFp mSc mMp mEn) (hc26 mPa) (hc27 mTo) (hc28 mOt) (hc29 mNa) (hc30 mRe) (hc31 mMa) (hc32 mMy) (hc33 mPm) (hc34 mFy) (hc35 mFa) (hc36 mFr) (hc37 mFo) (hc38 mRt) (hc39 mRm) (hc40 mTt) (hc41 mTi) (hc42 mPl) (hc43 mVr) (hc44 mVf) (hc45 mVc) (hc46 mAr) (hc47 mTc) (hc48 mFt) (hc49 mGo) dyn, 0, 0) _
        refine pm_go (g := (188, [(4, .int ((nI k) + 1)), (3, .int 0), (0, .ref 25), (1, .int m), (2, .int n0)], [], _, 0, 0)) rfl ?_
        refine pm_go (g := (5, _, [], _, 0, 0)) rfl ?_
        refine pm_go (g := (6, _, [.int 0], _, 0, 0)) rfl ?_
        refine pm_brT (g := (191, [(4, .int ((nI k) + 1)), (3, .int 0), (0, .ref 25), (1, .int m), (2, .int n0)], [], hq g c1 c2 c3 c4 c5 c6 c7 c8 c9 c10 c11 c12 c13 c14 c15 c16 c17 c18 c19 c20 c21 c22 c23 c24 (hc25 mTy mTm mMn mFn mRn mTn mVn mLr mTr mFl mFm mFp mSc mMp mEn) (hc26 mPa) (hc27 mTo) (hc28 mOt) (hc29 mNa) (hc30 mRe) (hc31 mMa) (hc32 mMy) (hc33 mPm) (hc34 mFy) (hc35 mFa) (hc36 mFr) (hc37 mFo) (hc38 mRt) (hc39 mRm) (hc40 mTt) (hc41 mTi) (hc42 mPl) (hc43 mVr) (hc44 mVf) (hc45 mVc) (hc46 mAr) (hc47 mTc) (hc48 mFt) (hc49 mGo) dyn, 0, 0)) rfl ?_
        refine pm_go (g := (192, _, [.int 0], _, 0, 0)) rfl ?_
        exact pm_ret rfl (k1 (fun q => h (fun j q1 q2 => q k (Nat.le_refl k) (by omega) (by omega) (by omega) j (by unfold spB; omega))))
      have h8 := qF_ne (cx := (mFp).toInt) (cy := 3) rfl (by decide) h8
      refine pm_go (g := (94, [(5, .int (mMy (m).toNatClampNeg)), (4, .int (nI k)), (3, .int 1), (0, .ref 25), (1, .int m), (2, .int n0)], [.int n0], _, 0, 0)) rfl ?_
      refine pm_go (g := (96, _, [.int (mMy (m).toNatClampNeg), .int n0], _, 0, 0)) rfl ?_
      refine pm_if2 (g := (103, [(5, .int (mMy (m).toNatClampNeg)), (4, .int (nI k)), (3, .int 1), (0, .ref 25), (1, .int m), (2, .int n0)], [], hq g c1 c2 c3 c4 c5 c6 c7 c8 c9 c10 c11 c12 c13 c14 c15 c16 c17 c18 c19 c20 c21 c22 c23 c24 (hc25 mTy mTm mMn mFn mRn mTn mVn mLr mTr mFl mFm mFp mSc mMp mEn) (hc26 mPa) (hc27 mTo) (hc28 mOt) (hc29 mNa) (hc30 mRe) (hc31 mMa) (hc32 mMy) (hc33 mPm) (hc34 mFy) (hc35 mFa) (hc36 mFr) (hc37 mFo) (hc38 mRt) (hc39 mRm) (hc40 mTt) (hc41 mTi) (hc42 mPl) (hc43 mVr) (hc44 mVf) (hc45 mVc) (hc46 mAr) (hc47 mTc) (hc48 mFt) (hc49 mGo) dyn, 0, 0)) (h := (99, [(5, .int (mMy (m).toNatClampNeg)), (4, .int (nI k)), (3, .int 1), (0, .ref 25), (1, .int m), (2, .int n0)], [], hq g c1 c2 c3 c4 c5 c6 c7 c8 c9 c10 c11 c12 c13 c14 c15 c16 c17 c18 c19 c20 c21 c22 c23 c24 (hc25 mTy mTm mMn mFn mRn mTn mVn mLr mTr mFl mFm mFp mSc mMp mEn) (hc26 mPa) (hc27 mTo) (hc28 mOt) (hc29 mNa) (hc30 mRe) (hc31 mMa) (hc32 mMy) (hc33 mPm) (hc34 mFy) (hc35 mFa) (hc36 mFr) (hc37 mFo) (hc38 mRt) (hc39 mRm) (hc40 mTt) (hc41 mTi) (hc42 mPl) (hc43 mVr) (hc44 mVf) (hc45 mVc) (hc46 mAr) (hc47 mTc) (hc48 mFt) (hc49 mGo) dyn, 0, 0)) rfl (fun h9 => ?_) (fun h9 => ?_)
      ·
        have h9 := qT_le (cx := (n0).toInt) (cy := (mMy (m).toNatClampNeg).toInt) rfl rfl h9
        refine pm_go (g := (105, _, [.int (mMy (m).toNatClampNeg)], _, 0, 0)) rfl ?_
        refine pm_go (g := (107, _, [], _, 0, 0)) rfl ?_
        refine pm_go (g := (108, _, [.int 0], _, 0, 0)) rfl ?_
        refine pm_go (g := (110, [(6, .int 0), (5, .int (mMy (m).toNatClampNeg)), (4, .int (nI k)), (3, .int 1), (0, .ref 25), (1, .int m), (2, .int n0)], [], _, 0, 0)) rfl ?_
        refine pm_sub (lv := [(6, .int 0), (5, .int (mMy (m).toNatClampNeg)), (4, .int (nI k)), (3, .int 1), (0, .ref 25), (1, .int m), (2, .int n0)]) ?_ ⟨le_c (List.Mem.head _) (le_c (List.Mem.tail _ (List.Mem.head _)) (le_c (List.Mem.tail _ (List.Mem.tail _ (List.Mem.head _))) (le_c (List.Mem.tail _ (List.Mem.tail _ (List.Mem.tail _ (List.Mem.head _)))) (le_c (List.Mem.tail _ (List.Mem.tail _ (List.Mem.tail _ (List.Mem.tail _ (List.Mem.head _))))) (le_c (List.Mem.tail _ (List.Mem.tail _ (List.Mem.tail _ (List.Mem.tail _ (List.Mem.tail _ (List.Mem.head _)))))) (le_c (List.Mem.tail _ (List.Mem.tail _ (List.Mem.tail _ (List.Mem.tail _ (List.Mem.tail _ (List.Mem.tail _ (List.Mem.head _))))))) le_n)))))), (show ([6, 5, 4, 3, 0, 1, 2] : List Nat).Nodup by decide)⟩
        have h3k : mFp.toInt = 3 → 1 ≤ (mMy (nI k).toNatClampNeg).toInt := fun q => by have q1 := hfv q k (by omega) (by omega); rw [hkc]; exact q1
        refine w_isSpecial_in m n0 (nI k) (mMy (m).toNatClampNeg) hm (by omega) (by omega) hpp hp (by omega) hmm (hmk (by omega)) (by omega) 4 0 (by omega) (by omega) (fun h => ?_) (fun h => ?_)
        ·
          show pm_WP 149 (185, [(4, .int (nI k)), (3, .int 1), (0, .ref 25), (1, .int m), (2, .int n0)], [], _, 0, 0) _
          have hO : spO mPa mMy mPm mFp n0 m (nI k) := fun j q => h j (Nat.zero_le j) (by unfold spB at q; omega)
          refine pm_go (g := (188, [(4, .int ((nI k) + 1)), (3, .int 1), (0, .ref 25), (1, .int m), (2, .int n0)], [], _, 0, 0)) rfl ?_
          refine pm_go (g := (5, _, [], _, 0, 0)) rfl ?_
          refine pm_sub (lv := [(4, .int ((nI k) + 1)), (3, .int 1), (0, .ref 25), (1, .int m), (2, .int n0)]) ?_ ⟨le_c (List.Mem.head _) (le_c (List.Mem.tail _ (List.Mem.head _)) (le_c (List.Mem.tail _ (List.Mem.tail _ (List.Mem.head _))) (le_c (List.Mem.tail _ (List.Mem.tail _ (List.Mem.tail _ (List.Mem.head _)))) (le_c (List.Mem.tail _ (List.Mem.tail _ (List.Mem.tail _ (List.Mem.tail _ (List.Mem.head _))))) le_n)))), (show ([4, 3, 0, 1, 2] : List Nat).Nodup by decide)⟩
          rw [nI_1]
          refine ih (k + 1) (by omega) (by omega) (fun h => k0 (fun j q1 q2 q3 q4 => ?_)) (fun h => k1 (fun q => h (fun j q1 q2 q3 q4 => q j (by omega) q2 q3 q4)))
          rcases Nat.eq_or_lt_of_le q1 with e9 | e9
          · subst e9; first | assumption | (exfalso; omega)
          · exact h j e9 q2 q3 q4
        show pm_WP 149 (185, [(4, .int (nI k)), (3, .int 0), (0, .ref 25), (1, .int m), (2, .int n0)], [], hq g c1 c2 c3 c4 c5 c6 c7 c8 c9 c10 c11 c12 c13 c14 c15 c16 c17 c18 c19 c20 c21 c22 c23 c24 (hc25 mTy mTm mMn mFn mRn mTn mVn mLr mTr mFl mFm mFp mSc mMp mEn) (hc26 mPa) (hc27 mTo) (hc28 mOt) (hc29 mNa) (hc30 mRe) (hc31 mMa) (hc32 mMy) (hc33 mPm) (hc34 mFy) (hc35 mFa) (hc36 mFr) (hc37 mFo) (hc38 mRt) (hc39 mRm) (hc40 mTt) (hc41 mTi) (hc42 mPl) (hc43 mVr) (hc44 mVf) (hc45 mVc) (hc46 mAr) (hc47 mTc) (hc48 mFt) (hc49 mGo) dyn, 0, 0) _
        refine pm_go (g := (188, [(4, .int ((nI k) + 1)), (3, .int 0), (0, .ref 25), (1, .int m), (2, .int n0)], [], _, 0, 0)) rfl ?_
        refine pm_go (g := (5, _, [], _, 0, 0)) rfl ?_
        refine pm_go (g := (6, _, [.int 0], _, 0, 0)) rfl ?_
        refine pm_brT (g := (191, [(4, .int ((nI k) + 1)), (3, .int 0), (0, .ref 25), (1, .int m), (2, .int n0)], [], hq g c1 c2 c3 c4 c5 c6 c7 c8 c9 c10 c11 c12 c13 c14 c15 c16 c17 c18 c19 c20 c21 c22 c23 c24 (hc25 mTy mTm mMn mFn mRn mTn mVn mLr mTr mFl mFm mFp mSc mMp mEn) (hc26 mPa) (hc27 mTo) (hc28 mOt) (hc29 mNa) (hc30 mRe) (hc31 mMa) (hc32 mMy) (hc33 mPm) (hc34 mFy) (hc35 mFa) (hc36 mFr) (hc37 mFo) (hc38 mRt) (hc39 mRm) (hc40 mTt) (hc41 mTi) (hc42 mPl) (hc43 mVr) (hc44 mVf) (hc45 mVc) (hc46 mAr) (hc47 mTc) (hc48 mFt) (hc49 mGo) dyn, 0, 0)) rfl ?_
        refine pm_go (g := (192, _, [.int 0], _, 0, 0)) rfl ?_
        exact pm_ret rfl (k1 (fun q => h (fun j q1 q2 => q k (Nat.le_refl k) (by omega) (by omega) (by omega) j (by unfold spB; omega))))
      have h9 := qF_le (cx := (n0).toInt) (cy := (mMy (m).toNatClampNeg).toInt) rfl rfl h9
      refine pm_go (g := (100, [(5, .int (mMy (m).toNatClampNeg)), (4, .int (nI k)), (3, .int 1), (0, .ref 25), (1, .int m), (2, .int n0)], [.int n0], _, 0, 0)) rfl ?_
      refine pm_go (g := (105, _, [.int n0], _, 0, 0)) rfl ?_
      refine pm_go (g := (107, [(5, .int n0), (4, .int (nI k)), (3, .int 1), (0, .ref 25), (1, .int m), (2, .int n0)], [], _, 0, 0)) rfl ?_
      refine pm_go (g := (108, _, [.int 0], _, 0, 0)) rfl ?_
      refine pm_go (g := (110, [(6, .int 0), (5, .int n0), (4, .int (nI k)), (3, .int 1), (0, .ref 25), (1, .int m), (2, .int n0)], [], _, 0, 0)) rfl ?_
      refine pm_sub (lv := [(6, .int 0), (5, .int n0), (4, .int (nI k)), (3, .int 1), (0, .ref 25), (1, .int m), (2, .int n0)]) ?_ ⟨le_c (List.Mem.head _) (le_c (List.Mem.tail _ (List.Mem.head _)) (le_c (List.Mem.tail _ (List.Mem.tail _ (List.Mem.head _))) (le_c (List.Mem.tail _ (List.Mem.tail _ (List.Mem.tail _ (List.Mem.head _)))) (le_c (List.Mem.tail _ (List.Mem.tail _ (List.Mem.tail _ (List.Mem.tail _ (List.Mem.head _))))) (le_c (List.Mem.tail _ (List.Mem.tail _ (List.Mem.tail _ (List.Mem.tail _ (List.Mem.tail _ (List.Mem.head _)))))) (le_c (List.Mem.tail _ (List.Mem.tail _ (List.Mem.tail _ (List.Mem.tail _ (List.Mem.tail _ (List.Mem.tail _ (List.Mem.head _))))))) le_n)))))), (show ([6, 5, 4, 3, 0, 1, 2] : List Nat).Nodup by decide)⟩
      have h3k : mFp.toInt = 3 → 1 ≤ (mMy (nI k).toNatClampNeg).toInt := fun q => by have q1 := hfv q k (by omega) (by omega); rw [hkc]; exact q1
      refine w_isSpecial_in m n0 (nI k) (n0) hm (by omega) (by omega) hpp hp (by omega) hmm (hmk (by omega)) (by omega) 4 0 (by omega) (by omega) (fun h => ?_) (fun h => ?_)
      ·
        show pm_WP 149 (185, [(4, .int (nI k)), (3, .int 1), (0, .ref 25), (1, .int m), (2, .int n0)], [], _, 0, 0) _
        have hO : spO mPa mMy mPm mFp n0 m (nI k) := fun j q => h j (Nat.zero_le j) (by unfold spB at q; omega)
        refine pm_go (g := (188, [(4, .int ((nI k) + 1)), (3, .int 1), (0, .ref 25), (1, .int m), (2, .int n0)], [], _, 0, 0)) rfl ?_
        refine pm_go (g := (5, _, [], _, 0, 0)) rfl ?_
        refine pm_sub (lv := [(4, .int ((nI k) + 1)), (3, .int 1), (0, .ref 25), (1, .int m), (2, .int n0)]) ?_ ⟨le_c (List.Mem.head _) (le_c (List.Mem.tail _ (List.Mem.head _)) (le_c (List.Mem.tail _ (List.Mem.tail _ (List.Mem.head _))) (le_c (List.Mem.tail _ (List.Mem.tail _ (List.Mem.tail _ (List.Mem.head _)))) (le_c (List.Mem.tail _ (List.Mem.tail _ (List.Mem.tail _ (List.Mem.tail _ (List.Mem.head _))))) le_n)))), (show ([4, 3, 0, 1, 2] : List Nat).Nodup by decide)⟩
        rw [nI_1]
        refine ih (k + 1) (by omega) (by omega) (fun h => k0 (fun j q1 q2 q3 q4 => ?_)) (fun h => k1 (fun q => h (fun j q1 q2 q3 q4 => q j (by omega) q2 q3 q4)))
        rcases Nat.eq_or_lt_of_le q1 with e9 | e9
        · subst e9; first | assumption | (exfalso; omega)
        · exact h j e9 q2 q3 q4
      show pm_WP 149 (185, [(4, .int (nI k)), (3, .int 0), (0, .ref 25), (1, .int m), (2, .int n0)], [], hq g c1 c2 c3 c4 c5 c6 c7 c8 c9 c10 c11 c12 c13 c14 c15 c16 c17 c18 c19 c20 c21 c22 c23 c24 (hc25 mTy mTm mMn mFn mRn mTn mVn mLr mTr mFl mFm mFp mSc mMp mEn) (hc26 mPa) (hc27 mTo) (hc28 mOt) (hc29 mNa) (hc30 mRe) (hc31 mMa) (hc32 mMy) (hc33 mPm) (hc34 mFy) (hc35 mFa) (hc36 mFr) (hc37 mFo) (hc38 mRt) (hc39 mRm) (hc40 mTt) (hc41 mTi) (hc42 mPl) (hc43 mVr) (hc44 mVf) (hc45 mVc) (hc46 mAr) (hc47 mTc) (hc48 mFt) (hc49 mGo) dyn, 0, 0) _
      refine pm_go (g := (188, [(4, .int ((nI k) + 1)), (3, .int 0), (0, .ref 25), (1, .int m), (2, .int n0)], [], _, 0, 0)) rfl ?_
      refine pm_go (g := (5, _, [], _, 0, 0)) rfl ?_
      refine pm_go (g := (6, _, [.int 0], _, 0, 0)) rfl ?_
      refine pm_brT (g := (191, [(4, .int ((nI k) + 1)), (3, .int 0), (0, .ref 25), (1, .int m), (2, .int n0)], [], hq g c1 c2 c3 c4 c5 c6 c7 c8 c9 c10 c11 c12 c13 c14 c15 c16 c17 c18 c19 c20 c21 c22 c23 c24 (hc25 mTy mTm mMn mFn mRn mTn mVn mLr mTr mFl mFm mFp mSc mMp mEn) (hc26 mPa) (hc27 mTo) (hc28 mOt) (hc29 mNa) (hc30 mRe) (hc31 mMa) (hc32 mMy) (hc33 mPm) (hc34 mFy) (hc35 mFa) (hc36 mFr) (hc37 mFo) (hc38 mRt) (hc39 mRm) (hc40 mTt) (hc41 mTi) (hc42 mPl) (hc43 mVr) (hc44 mVf) (hc45 mVc) (hc46 mAr) (hc47 mTc) (hc48 mFt) (hc49 mGo) dyn, 0, 0)) rfl ?_
      refine pm_go (g := (192, _, [.int 0], _, 0, 0)) rfl ?_
      exact pm_ret rfl (k1 (fun q => h (fun j q1 q2 => q k (Nat.le_refl k) (by omega) (by omega) (by omega) j (by unfold spB; omega))))
    have h4 := qF_ge (cx := (mFp).toInt) (cy := 3) rfl (by decide) h4
    refine pm_go (g := (43, [(4, .int (nI k)), (3, .int 1), (0, .ref 25), (1, .int m), (2, .int n0)], [.ref 25], _, 0, 0)) rfl ?_
    refine pm_go (g := (46, _, [.ref 32], _, 0, 0)) rfl ?_
    refine pm_go (g := (47, _, [.int m, .ref 32], _, 0, 0)) rfl ?_
    refine pm_sd (g := (48, _, [.int (mMy (m).toNatClampNeg)], _, 0, 0)) rfl (pm_inI (by omega) (by omega)) ?_
    refine pm_go (g := (83, _, [.int (mMy (m).toNatClampNeg)], _, 0, 0)) rfl ?_
    refine pm_go (g := (85, [(5, .int (mMy (m).toNatClampNeg)), (4, .int (nI k)), (3, .int 1), (0, .ref 25), (1, .int m), (2, .int n0)], [], _, 0, 0)) rfl ?_
    refine pm_go (g := (86, _, [.ref 25], _, 0, 0)) rfl ?_
    refine pm_go (g := (89, _, [.int mFp], _, 0, 0)) rfl ?_
    refine pm_go (g := (90, _, [.int 3, .int mFp], _, 0, 0)) rfl ?_
    refine pm_if2 (g := (103, [(5, .int (mMy (m).toNatClampNeg)), (4, .int (nI k)), (3, .int 1), (0, .ref 25), (1, .int m), (2, .int n0)], [], hq g c1 c2 c3 c4 c5 c6 c7 c8 c9 c10 c11 c12 c13 c14 c15 c16 c17 c18 c19 c20 c21 c22 c23 c24 (hc25 mTy mTm mMn mFn mRn mTn mVn mLr mTr mFl mFm mFp mSc mMp mEn) (hc26 mPa) (hc27 mTo) (hc28 mOt) (hc29 mNa) (hc30 mRe) (hc31 mMa) (hc32 mMy) (hc33 mPm) (hc34 mFy) (hc35 mFa) (hc36 mFr) (hc37 mFo) (hc38 mRt) (hc39 mRm) (hc40 mTt) (hc41 mTi) (hc42 mPl) (hc43 mVr) (hc44 mVf) (hc45 mVc) (hc46 mAr) (hc47 mTc) (hc48 mFt) (hc49 mGo) dyn, 0, 0)) (h := (93, [(5, .int (mMy (m).toNatClampNeg)), (4, .int (nI k)), (3, .int 1), (0, .ref 25), (1, .int m), (2, .int n0)], [], hq g c1 c2 c3 c4 c5 c6 c7 c8 c9 c10 c11 c12 c13 c14 c15 c16 c17 c18 c19 c20 c21 c22 c23 c24 (hc25 mTy mTm mMn mFn mRn mTn mVn mLr mTr mFl mFm mFp mSc mMp mEn) (hc26 mPa) (hc27 mTo) (hc28 mOt) (hc29 mNa) (hc30 mRe) (hc31 mMa) (hc32 mMy) (hc33 mPm) (hc34 mFy) (hc35 mFa) (hc36 mFr) (hc37 mFo) (hc38 mRt) (hc39 mRm) (hc40 mTt) (hc41 mTi) (hc42 mPl) (hc43 mVr) (hc44 mVf) (hc45 mVc) (hc46 mAr) (hc47 mTc) (hc48 mFt) (hc49 mGo) dyn, 0, 0)) rfl (fun h10 => ?_) (fun h10 => ?_)
    ·
      have h10 := qT_ne (cx := (mFp).toInt) (cy := 3) rfl (by decide) h10
      refine pm_go (g := (105, _, [.int (mMy (m).toNatClampNeg)], _, 0, 0)) rfl ?_
      refine pm_go (g := (107, _, [], _, 0, 0)) rfl ?_
      refine pm_go (g := (108, _, [.int 0], _, 0, 0)) rfl ?_
      refine pm_go (g := (110, [(6, .int 0), (5, .int (mMy (m).toNatClampNeg)), (4, .int (nI k)), (3, .int 1), (0, .ref 25), (1, .int m), (2, .int n0)], [], _, 0, 0)) rfl ?_
      refine pm_sub (lv := [(6, .int 0), (5, .int (mMy (m).toNatClampNeg)), (4, .int (nI k)), (3, .int 1), (0, .ref 25), (1, .int m), (2, .int n0)]) ?_ ⟨le_c (List.Mem.head _) (le_c (List.Mem.tail _ (List.Mem.head _)) (le_c (List.Mem.tail _ (List.Mem.tail _ (List.Mem.head _))) (le_c (List.Mem.tail _ (List.Mem.tail _ (List.Mem.tail _ (List.Mem.head _)))) (le_c (List.Mem.tail _ (List.Mem.tail _ (List.Mem.tail _ (List.Mem.tail _ (List.Mem.head _))))) (le_c (List.Mem.tail _ (List.Mem.tail _ (List.Mem.tail _ (List.Mem.tail _ (List.Mem.tail _ (List.Mem.head _)))))) (le_c (List.Mem.tail _ (List.Mem.tail _ (List.Mem.tail _ (List.Mem.tail _ (List.Mem.tail _ (List.Mem.tail _ (List.Mem.head _))))))) le_n)))))), (show ([6, 5, 4, 3, 0, 1, 2] : List Nat).Nodup by decide)⟩
      have h3k : mFp.toInt = 3 → 1 ≤ (mMy (nI k).toNatClampNeg).toInt := fun q => by have q1 := hfv q k (by omega) (by omega); rw [hkc]; exact q1
      refine w_isSpecial_in m n0 (nI k) (mMy (m).toNatClampNeg) hm (by omega) (by omega) hpp hp (by omega) hmm (hmk (by omega)) (by omega) 4 0 (by omega) (by omega) (fun h => ?_) (fun h => ?_)
      ·
        show pm_WP 149 (185, [(4, .int (nI k)), (3, .int 1), (0, .ref 25), (1, .int m), (2, .int n0)], [], _, 0, 0) _
        have hO : spO mPa mMy mPm mFp n0 m (nI k) := fun j q => h j (Nat.zero_le j) (by unfold spB at q; omega)
        refine pm_go (g := (188, [(4, .int ((nI k) + 1)), (3, .int 1), (0, .ref 25), (1, .int m), (2, .int n0)], [], _, 0, 0)) rfl ?_
        refine pm_go (g := (5, _, [], _, 0, 0)) rfl ?_
        refine pm_sub (lv := [(4, .int ((nI k) + 1)), (3, .int 1), (0, .ref 25), (1, .int m), (2, .int n0)]) ?_ ⟨le_c (List.Mem.head _) (le_c (List.Mem.tail _ (List.Mem.head _)) (le_c (List.Mem.tail _ (List.Mem.tail _ (List.Mem.head _))) (le_c (List.Mem.tail _ (List.Mem.tail _ (List.Mem.tail _ (List.Mem.head _)))) (le_c (List.Mem.tail _ (List.Mem.tail _ (List.Mem.tail _ (List.Mem.tail _ (List.Mem.head _))))) le_n)))), (show ([4, 3, 0, 1, 2] : List Nat).Nodup by decide)⟩
        rw [nI_1]
        refine ih (k + 1) (by omega) (by omega) (fun h => k0 (fun j q1 q2 q3 q4 => ?_)) (fun h => k1 (fun q => h (fun j q1 q2 q3 q4 => q j (by omega) q2 q3 q4)))
        rcases Nat.eq_or_lt_of_le q1 with e9 | e9
        · subst e9; first | assumption | (exfalso; omega)
        · exact h j e9 q2 q3 q4
      show pm_WP 149 (185, [(4, .int (nI k)), (3, .int 0), (0, .ref 25), (1, .int m), (2, .int n0)], [], hq g c1 c2 c3 c4 c5 c6 c7 c8 c9 c10 c11 c12 c13 c14 c15 c16 c17 c18 c19 c20 c21 c22 c23 c24 (hc25 mTy mTm mMn mFn mRn mTn mVn mLr mTr mFl mFm mFp mSc mMp mEn) (hc26 mPa) (hc27 mTo) (hc28 mOt) (hc29 mNa) (hc30 mRe) (hc31 mMa) (hc32 mMy) (hc33 mPm) (hc34 mFy) (hc35 mFa) (hc36 mFr) (hc37 mFo) (hc38 mRt) (hc39 mRm) (hc40 mTt) (hc41 mTi) (hc42 mPl) (hc43 mVr) (hc44 mVf) (hc45 mVc) (hc46 mAr) (hc47 mTc) (hc48 mFt) (hc49 mGo) dyn, 0, 0) _
      refine pm_go (g := (188, [(4, .int ((nI k) + 1)), (3, .int 0), (0, .ref 25), (1, .int m), (2, .int n0)], [], _, 0, 0)) rfl ?_
      refine pm_go (g := (5, _, [], _, 0, 0)) rfl ?_
      refine pm_go (g := (6, _, [.int 0], _, 0, 0)) rfl ?_
      refine pm_brT (g := (191, [(4, .int ((nI k) + 1)), (3, .int 0), (0, .ref 25), (1, .int m), (2, .int n0)], [], hq g c1 c2 c3 c4 c5 c6 c7 c8 c9 c10 c11 c12 c13 c14 c15 c16 c17 c18 c19 c20 c21 c22 c23 c24 (hc25 mTy mTm mMn mFn mRn mTn mVn mLr mTr mFl mFm mFp mSc mMp mEn) (hc26 mPa) (hc27 mTo) (hc28 mOt) (hc29 mNa) (hc30 mRe) (hc31 mMa) (hc32 mMy) (hc33 mPm) (hc34 mFy) (hc35 mFa) (hc36 mFr) (hc37 mFo) (hc38 mRt) (hc39 mRm) (hc40 mTt) (hc41 mTi) (hc42 mPl) (hc43 mVr) (hc44 mVf) (hc45 mVc) (hc46 mAr) (hc47 mTc) (hc48 mFt) (hc49 mGo) dyn, 0, 0)) rfl ?_
      refine pm_go (g := (192, _, [.int 0], _, 0, 0)) rfl ?_
      exact pm_ret rfl (k1 (fun q => h (fun j q1 q2 => q k (Nat.le_refl k) (by omega) (by omega) (by omega) j (by unfold spB; omega))))
    have h10 := qF_ne (cx := (mFp).toInt) (cy := 3) rfl (by decide) h10
    refine pm_go (g := (94, [(5, .int (mMy (m).toNatClampNeg)), (4, .int (nI k)), (3, .int 1), (0, .ref 25), (1, .int m), (2, .int n0)], [.int n0], _, 0, 0)) rfl ?_
    refine pm_go (g := (96, _, [.int (mMy (m).toNatClampNeg), .int n0], _, 0, 0)) rfl ?_
    refine pm_if2 (g := (103, [(5, .int (mMy (m).toNatClampNeg)), (4, .int (nI k)), (3, .int 1), (0, .ref 25), (1, .int m), (2, .int n0)], [], hq g c1 c2 c3 c4 c5 c6 c7 c8 c9 c10 c11 c12 c13 c14 c15 c16 c17 c18 c19 c20 c21 c22 c23 c24 (hc25 mTy mTm mMn mFn mRn mTn mVn mLr mTr mFl mFm mFp mSc mMp mEn) (hc26 mPa) (hc27 mTo) (hc28 mOt) (hc29 mNa) (hc30 mRe) (hc31 mMa) (hc32 mMy) (hc33 mPm) (hc34 mFy) (hc35 mFa) (hc36 mFr) (hc37 mFo) (hc38 mRt) (hc39 mRm) (hc40 mTt) (hc41 mTi) (hc42 mPl) (hc43 mVr) (hc44 mVf) (hc45 mVc) (hc46 mAr) (hc47 mTc) (hc48 mFt) (hc49 mGo) dyn, 0, 0)) (h := (99, [(5, .int (mMy (m).toNatClampNeg)), (4, .int (nI k)), (3, .int 1), (0, .ref 25), (1, .int m), (2, .int n0)], [], hq g c1 c2 c3 c4 c5 c6 c7 c8 c9 c10 c11 c12 c13 c14 c15 c16 c17 c18 c19 c20 c21 c22 c23 c24 (hc25 mTy mTm mMn mFn mRn mTn mVn mLr mTr mFl mFm mFp mSc mMp mEn) (hc26 mPa) (hc27 mTo) (hc28 mOt) (hc29 mNa) (hc30 mRe) (hc31 mMa) (hc32 mMy) (hc33 mPm) (hc34 mFy) (hc35 mFa) (hc36 mFr) (hc37 mFo) (hc38 mRt) (hc39 mRm) (hc40 mTt) (hc41 mTi) (hc42 mPl) (hc43 mVr) (hc44 mVf) (hc45 mVc) (hc46 mAr) (hc47 mTc) (hc48 mFt) (hc49 mGo) dyn, 0, 0)) rfl (fun h11 => ?_) (fun h11 => ?_)
    ·
      have h11 := qT_le (cx := (n0).toInt) (cy := (mMy (m).toNatClampNeg).toInt) rfl rfl h11
      refine pm_go (g := (105, _, [.int (mMy (m).toNatClampNeg)], _, 0, 0)) rfl ?_
      refine pm_go (g := (107, _, [], _, 0, 0)) rfl ?_
      refine pm_go (g := (108, _, [.int 0], _, 0, 0)) rfl ?_
      refine pm_go (g := (110, [(6, .int 0), (5, .int (mMy (m).toNatClampNeg)), (4, .int (nI k)), (3, .int 1), (0, .ref 25), (1, .int m), (2, .int n0)], [], _, 0, 0)) rfl ?_
      refine pm_sub (lv := [(6, .int 0), (5, .int (mMy (m).toNatClampNeg)), (4, .int (nI k)), (3, .int 1), (0, .ref 25), (1, .int m), (2, .int n0)]) ?_ ⟨le_c (List.Mem.head _) (le_c (List.Mem.tail _ (List.Mem.head _)) (le_c (List.Mem.tail _ (List.Mem.tail _ (List.Mem.head _))) (le_c (List.Mem.tail _ (List.Mem.tail _ (List.Mem.tail _ (List.Mem.head _)))) (le_c (List.Mem.tail _ (List.Mem.tail _ (List.Mem.tail _ (List.Mem.tail _ (List.Mem.head _))))) (le_c (List.Mem.tail _ (List.Mem.tail _ (List.Mem.tail _ (List.Mem.tail _ (List.Mem.tail _ (List.Mem.head _)))))) (le_c (List.Mem.tail _ (List.Mem.tail _ (List.Mem.tail _ (List.Mem.tail _ (List.Mem.tail _ (List.Mem.tail _ (List.Mem.head _))))))) le_n)))))), (show ([6, 5, 4, 3, 0, 1, 2] : List Nat).Nodup by decide)⟩
      have h3k : mFp.toInt = 3 → 1 ≤ (mMy (nI k).toNatClampNeg).toInt := fun q => by have q1 := hfv q k (by omega) (by omega); rw [hkc]; exact q1
      refine w_isSpecial_in m n0 (nI k) (mMy (m).toNatClampNeg) hm (by omega) (by omega) hpp hp (by omega) hmm (hmk (by omega)) (by omega) 4 0 (by omega) (by omega) (fun h => ?_) (fun h => ?_)
      ·
        show pm_WP 149 (185, [(4, .int (nI k)), (3, .int 1), (0, .ref 25), (1, .int m), (2, .int n0)], [], _, 0, 0) _
        have hO : spO mPa mMy mPm mFp n0 m (nI k) := fun j q => h j (Nat.zero_le j) (by unfold spB at q; omega)
        refine pm_go (g := (188, [(4, .int ((nI k) + 1)), (3, .int 1), (0, .ref 25), (1, .int m), (2, .int n0)], [], _, 0, 0)) rfl ?_
        refine pm_go (g := (5, _, [], _, 0, 0)) rfl ?_
        refine pm_sub (lv := [(4, .int ((nI k) + 1)), (3, .int 1), (0, .ref 25), (1, .int m), (2, .int n0)]) ?_ ⟨le_c (List.Mem.head _) (le_c (List.Mem.tail _ (List.Mem.head _)) (le_c (List.Mem.tail _ (List.Mem.tail _ (List.Mem.head _))) (le_c (List.Mem.tail _ (List.Mem.tail _ (List.Mem.tail _ (List.Mem.head _)))) (le_c (List.Mem.tail _ (List.Mem.tail _ (List.Mem.tail _ (List.Mem.tail _ (List.Mem.head _))))) le_n)))), (show ([4, 3, 0, 1, 2] : List Nat).Nodup by decide)⟩
        rw [nI_1]
        refine ih (k + 1) (by omega) (by omega) (fun h => k0 (fun j q1 q2 q3 q4 => ?_)) (fun h => k1 (fun q => h (fun j q1 q2 q3 q4 => q j (by omega) q2 q3 q4)))
        rcases Nat.eq_or_lt_of_le q1 with e9 | e9
        · subst e9; first | assumption | (exfalso; omega)
        · exact h j e9 q2 q3 q4
      show pm_WP 149 (185, [(4, .int (nI k)), (3, .int 0), (0, .ref 25), (1, .int m), (2, .int n0)], [], hq g c1 c2 c3 c4 c5 c6 c7 c8 c9 c10 c11 c12 c13 c14 c15 c16 c17 c18 c19 c20 c21 c22 c23 c24 (hc25 mTy mTm mMn mFn mRn mTn mVn mLr mTr mFl mFm mFp mSc mMp mEn) (hc26 mPa) (hc27 mTo) (hc28 mOt) (hc29 mNa) (hc30 mRe) (hc31 mMa) (hc32 mMy) (hc33 mPm) (hc34 mFy) (hc35 mFa) (hc36 mFr) (hc37 mFo) (hc38 mRt) (hc39 mRm) (hc40 mTt) (hc41 mTi) (hc42 mPl) (hc43 mVr) (hc44 mVf) (hc45 mVc) (hc46 mAr) (hc47 mTc) (hc48 mFt) (hc49 mGo) dyn, 0, 0) _
      refine pm_go (g := (188, [(4, .int ((nI k) + 1)), (3, .int 0), (0, .ref 25), (1, .int m), (2, .int n0)], [], _, 0, 0)) rfl ?_
      refine pm_go (g := (5, _, [], _, 0, 0)) rfl ?_
      refine pm_go (g := (6, _, [.int 0], _, 0, 0)) rfl ?_
      refine pm_brT (g := (191, [(4, .int ((nI k) + 1)), (3, .int 0), (0, .ref 25), (1, .int m), (2, .int n0)], [], hq g c1 c2 c3 c4 c5 c6 c7 c8 c9 c10 c11 c12 c13 c14 c15 c16 c17 c18 c19 c20 c21 c22 c23 c24 (hc25 mTy mTm mMn mFn mRn mTn mVn mLr mTr mFl mFm mFp mSc mMp mEn) (hc26 mPa) (hc27 mTo) (hc28 mOt) (hc29 mNa) (hc30 mRe) (hc31 mMa) (hc32 mMy) (hc33 mPm) (hc34 mFy) (hc35 mFa) (hc36 mFr) (hc37 mFo) (hc38 mRt) (hc39 mRm) (hc40 mTt) (hc41 mTi) (hc42 mPl) (hc43 mVr) (hc44 mVf) (hc45 mVc) (hc46 mAr) (hc47 mTc) (hc48 mFt) (hc49 mGo) dyn, 0, 0)) rfl ?_
      refine pm_go (g := (192, _, [.int 0], _, 0, 0)) rfl ?_
      exact pm_ret rfl (k1 (fun q => h (fun j q1 q2 => q k (Nat.le_refl k) (by omega) (by omega) (by omega) j (by unfold spB; omega))))
    have h11 := qF_le (cx := (n0).toInt) (cy := (mMy (m).toNatClampNeg).toInt) rfl rfl h11
    refine pm_go (g := (100, [(5, .int (mMy (m).toNatClampNeg)), (4, .int (nI k)), (3, .int 1), (0, .ref 25), (1, .int m), (2, .int n0)], [.int n0], _, 0, 0)) rfl ?_
    refine pm_go (g := (105, _, [.int n0], _, 0, 0)) rfl ?_
    refine pm_go (g := (107, [(5, .int n0), (4, .int (nI k)), (3, .int 1), (0, .ref 25), (1, .int m), (2, .int n0)], [], _, 0, 0)) rfl ?_
    refine pm_go (g := (108, _, [.int 0], _, 0, 0)) rfl ?_
    refine pm_go (g := (110, [(6, .int 0), (5, .int n0), (4, .int (nI k)), (3, .int 1), (0, .ref 25), (1, .int m), (2, .int n0)], [], _, 0, 0)) rfl ?_
    refine pm_sub (lv := [(6, .int 0), (5, .int n0), (4, .int (nI k)), (3, .int 1), (0, .ref 25), (1, .int m), (2, .int n0)]) ?_ ⟨le_c (List.Mem.head _) (le_c (List.Mem.tail _ (List.Mem.head _)) (le_c (List.Mem.tail _ (List.Mem.tail _ (List.Mem.head _))) (le_c (List.Mem.tail _ (List.Mem.tail _ (List.Mem.tail _ (List.Mem.head _)))) (le_c (List.Mem.tail _ (List.Mem.tail _ (List.Mem.tail _ (List.Mem.tail _ (List.Mem.head _))))) (le_c (List.Mem.tail _ (List.Mem.tail _ (List.Mem.tail _ (List.Mem.tail _ (List.Mem.tail _ (List.Mem.head _)))))) (le_c (List.Mem.tail _ (List.Mem.tail _ (List.Mem.tail _ (List.Mem.tail _ (List.Mem.tail _ (List.Mem.tail _ (List.Mem.head _))))))) le_n)))))), (show ([6, 5, 4, 3, 0, 1, 2] : List Nat).Nodup by decide)⟩
    have h3k : mFp.toInt = 3 → 1 ≤ (mMy (nI k).toNatClampNeg).toInt := fun q => by have q1 := hfv q k (by omega) (by omega); rw [hkc]; exact q1
    refine w_isSpecial_in m n0 (nI k) (n0) hm (by omega) (by omega) hpp hp (by omega) hmm (hmk (by omega)) (by omega) 4 0 (by omega) (by omega) (fun h => ?_) (fun h => ?_)
    ·
      show pm_WP 149 (185, [(4, .int (nI k)), (3, .int 1), (0, .ref 25), (1, .int m), (2, .int n0)], [], _, 0, 0) _
      have hO : spO mPa mMy mPm mFp n0 m (nI k) := fun j q => h j (Nat.zero_le j) (by unfold spB at q; omega)
      refine pm_go (g := (188, [(4, .int ((nI k) + 1)), (3, .int 1), (0, .ref 25), (1, .int m), (2, .int n0)], [], _, 0, 0)) rfl ?_
      refine pm_go (g := (5, _, [], _, 0, 0)) rfl ?_
      refine pm_sub (lv := [(4, .int ((nI k) + 1)), (3, .int 1), (0, .ref 25), (1, .int m), (2, .int n0)]) ?_ ⟨le_c (List.Mem.head _) (le_c (List.Mem.tail _ (List.Mem.head _)) (le_c (List.Mem.tail _ (List.Mem.tail _ (List.Mem.head _))) (le_c (List.Mem.tail _ (List.Mem.tail _ (List.Mem.tail _ (List.Mem.head _)))) (le_c (List.Mem.tail _ (List.Mem.tail _ (List.Mem.tail _ (List.Mem.tail _ (List.Mem.head _))))) le_n)))), (show ([4, 3, 0, 1, 2] : List Nat).Nodup by decide)⟩
      rw [nI_1]
      refine ih (k + 1) (by omega) (by omega) (fun h => k0 (fun j q1 q2 q3 q4 => ?_)) (fun h => k1 (fun q => h (fun j q1 q2 q3 q4 => q j (by omega) q2 q3 q4)))
      rcases Nat.eq_or_lt_of_le q1 with e9 | e9
      · subst e9; first | assumption | (exfalso; omega)
      · exact h j e9 q2 q3 q4
    show pm_WP 149 (185, [(4, .int (nI k)), (3, .int 0), (0, .ref 25), (1, .int m), (2, .int n0)], [], hq g c1 c2 c3 c4 c5 c6 c7 c8 c9 c10 c11 c12 c13 c14 c15 c16 c17 c18 c19 c20 c21 c22 c23 c24 (hc25 mTy mTm mMn mFn mRn mTn mVn mLr mTr mFl mFm mFp mSc mMp mEn) (hc26 mPa) (hc27 mTo) (hc28 mOt) (hc29 mNa) (hc30 mRe) (hc31 mMa) (hc32 mMy) (hc33 mPm) (hc34 mFy) (hc35 mFa) (hc36 mFr) (hc37 mFo) (hc38 mRt) (hc39 mRm) (hc40 mTt) (hc41 mTi) (hc42 mPl) (hc43 mVr) (hc44 mVf) (hc45 mVc) (hc46 mAr) (hc47 mTc) (hc48 mFt) (hc49 mGo) dyn, 0, 0) _
    refine pm_go (g := (188, [(4, .int ((nI k) + 1)), (3, .int 0), (0, .ref 25), (1, .int m), (2, .int n0)], [], _, 0, 0)) rfl ?_
    refine pm_go (g := (5, _, [], _, 0, 0)) rfl ?_
    refine pm_go (g := (6, _, [.int 0], _, 0, 0)) rfl ?_
    refine pm_brT (g := (191, [(4, .int ((nI k) + 1)), (3, .int 0), (0, .ref 25), (1, .int m), (2, .int n0)], [], hq g c1 c2 c3 c4 c5 c6 c7 c8 c9 c10 c11 c12 c13 c14 c15 c16 c17 c18 c19 c20 c21 c22 c23 c24 (hc25 mTy mTm mMn mFn mRn mTn mVn mLr mTr mFl mFm mFp mSc mMp mEn) (hc26 mPa) (hc27 mTo) (hc28 mOt) (hc29 mNa) (hc30 mRe) (hc31 mMa) (hc32 mMy) (hc33 mPm) (hc34 mFy) (hc35 mFa) (hc36 mFr) (hc37 mFo) (hc38 mRt) (hc39 mRm) (hc40 mTt) (hc41 mTi) (hc42 mPl) (hc43 mVr) (hc44 mVf) (hc45 mVc) (hc46 mAr) (hc47 mTc) (hc48 mFt) (hc49 mGo) dyn, 0, 0)) rfl ?_
    refine pm_go (g := (192, _, [.int 0], _, 0, 0)) rfl ?_
    exact pm_ret rfl (k1 (fun q => h (fun j q1 q2 => q k (Nat.le_refl k) (by omega) (by omega) (by omega) j (by unfold spB; omega))))
set_option maxRecDepth 100000 in
set_option maxHeartbeats 4000000 in
theorem w_X12_isSpecial {g c1 c2 c3 c4 c5 c6 c7 c8 c9 c10 c11 c12 c13 c14 c15 c16 c17 c18 c19 c20 c21 c22 c23 c24 : pm_C} {dyn : pm_H} {mTy : Int32} {mPa : Nat → Int32} {mTo : Nat → Int32} {mTm : Int32} {mMn : Int32} {mOt : Nat → Int32} {mNa : Nat → Int32} {mRe : Nat → Int32} {mMa : Nat → Int32} {mMy : Nat → Int32} {mPm : Nat → Int32} {mFn : Int32} {mFy : Nat → Int32} {mFa : Nat → Int32} {mFr : Nat → Int32} {mRn : Int32} {mFo : Nat → Int32} {mRt : Nat → Int32} {mRm : Nat → Int32} {mTn : Int32} {mTt : Nat → Int32} {mTi : Nat → Int32} {mPl : Nat → Int32} {mVn : Int32} {mVr : Nat → Int32} {mVf : Nat → Int32} {mVc : Nat → Int32} {mAr : Nat → Int32} {mLr : Int32} {mTc : Nat → Int32} {mTr : Int32} {mFl : Int32} {mFt : Nat → Int32} {mFm : Int32} {mFp : Int32} {mSc : Int32} {mMp : Int32} {mEn : Int32} {mGo : Nat → Int32} {Q : pm_Q} (m : Int32) (n0 : Int32) (p0 : 0 ≤ m.toInt ∧ m.toInt < 40) (p1 : 0 ≤ n0.toInt ∧ n0.toInt ≤ 3) (p2 : 1 ≤ mFp.toInt ∧ mFp.toInt ≤ 3) (p3 : paD mPa) (p4 : myD mMy) (p5 : 0 ≤ mMn.toInt ∧ mMn.toInt ≤ 40) (p6 : fvD mFp mMy mFt mMn) (p7 : mFp.toInt = 3 → 1 ≤ (mMy m.toNatClampNeg).toInt) (k0 : spL mPa mMy mPm mFt mMn mFp n0 m 0 → Q (some (.int 1)) (hq g c1 c2 c3 c4 c5 c6 c7 c8 c9 c10 c11 c12 c13 c14 c15 c16 c17 c18 c19 c20 c21 c22 c23 c24 (hc25 mTy mTm mMn mFn mRn mTn mVn mLr mTr mFl mFm mFp mSc mMp mEn) (hc26 mPa) (hc27 mTo) (hc28 mOt) (hc29 mNa) (hc30 mRe) (hc31 mMa) (hc32 mMy) (hc33 mPm) (hc34 mFy) (hc35 mFa) (hc36 mFr) (hc37 mFo) (hc38 mRt) (hc39 mRm) (hc40 mTt) (hc41 mTi) (hc42 mPl) (hc43 mVr) (hc44 mVf) (hc45 mVc) (hc46 mAr) (hc47 mTc) (hc48 mFt) (hc49 mGo) dyn)) (k1 : ¬ spL mPa mMy mPm mFt mMn mFp n0 m 0 → Q (some (.int 0)) (hq g c1 c2 c3 c4 c5 c6 c7 c8 c9 c10 c11 c12 c13 c14 c15 c16 c17 c18 c19 c20 c21 c22 c23 c24 (hc25 mTy mTm mMn mFn mRn mTn mVn mLr mTr mFl mFm mFp mSc mMp mEn) (hc26 mPa) (hc27 mTo) (hc28 mOt) (hc29 mNa) (hc30 mRe) (hc31 mMa) (hc32 mMy) (hc33 mPm) (hc34 mFy) (hc35 mFa) (hc36 mFr) (hc37 mFo) (hc38 mRt) (hc39 mRm) (hc40 mTt) (hc41 mTi) (hc42 mPl) (hc43 mVr) (hc44 mVf) (hc45 mVc) (hc46 mAr) (hc47 mTc) (hc48 mFt) (hc49 mGo) dyn)) : pm_WP 149 (0, [(0, .ref 25), (1, .int m), (2, .int n0)], [], hq g c1 c2 c3 c4 c5 c6 c7 c8 c9 c10 c11 c12 c13 c14 c15 c16 c17 c18 c19 c20 c21 c22 c23 c24 (hc25 mTy mTm mMn mFn mRn mTn mVn mLr mTr mFl mFm mFp mSc mMp mEn) (hc26 mPa) (hc27 mTo) (hc28 mOt) (hc29 mNa) (hc30 mRe) (hc31 mMa) (hc32 mMy) (hc33 mPm) (hc34 mFy) (hc35 mFa) (hc36 mFr) (hc37 mFo) (hc38 mRt) (hc39 mRm) (hc40 mTt) (hc41 mTi) (hc42 mPl) (hc43 mVr) (hc44 mVf) (hc45 mVc) (hc46 mAr) (hc47 mTc) (hc48 mFt) (hc49 mGo) dyn, 0, 0) Q := by
  refine pm_go (g := (1, [(0, .ref 25), (1, .int m), (2, .int n0)], [.int 1], hq g c1 c2 c3 c4 c5 c6 c7 c8 c9 c10 c11 c12 c13 c14 c15 c16 c17 c18 c19 c20 c21 c22 c23 c24 (hc25 mTy mTm mMn mFn mRn mTn mVn mLr mTr mFl mFm mFp mSc mMp mEn) (hc26 mPa) (hc27 mTo) (hc28 mOt) (hc29 mNa) (hc30 mRe) (hc31 mMa) (hc32 mMy) (hc33 mPm) (hc34 mFy) (hc35 mFa) (hc36 mFr) (hc37 mFo) (hc38 mRt) (hc39 mRm) (hc40 mTt) (hc41 mTi) (hc42 mPl) (hc43 mVr) (hc44 mVf) (hc45 mVc) (hc46 mAr) (hc47 mTc) (hc48 mFt) (hc49 mGo) dyn, 0, 0)) rfl ?_
  refine pm_go (g := (2, [(3, .int 1), (0, .ref 25), (1, .int m), (2, .int n0)], [], _, 0, 0)) rfl ?_
  refine pm_go (g := (3, _, [.int 0], _, 0, 0)) rfl ?_
  refine pm_go (g := (5, [(4, .int 0), (3, .int 1), (0, .ref 25), (1, .int m), (2, .int n0)], [], _, 0, 0)) rfl ?_
  exact w_isSpecial_loop m n0 p0 p1 p2 p3 p4 p5 p6 p7 41 0 (by omega) (by omega) k0 k1
end
section
/-- the j-th member fits in phase p -/
def fitM (pa ot na my pm ma fa fy : Nat → Int32) (mn t w f s p : Int32) (j : Nat) : Prop := (na (nI j).toNatClampNeg).toInt = w.toInt ∧ hadM pa ot na my pm mn t (nI j) ∧ tkM pa my pm fa ma fy (nI j) f s p
def nfM (pa ot na my pm ma fa fy : Nat → Int32) (mn t w f s p : Int32) : Prop := ∀ j : Nat, (j : Int) < mn.toInt → ¬ fitM pa ot na my pm ma fa fy mn t w f s p j
/-- it fits, and all its places are under those of the others that fit -/
def spF (pa ot na my pm ma fa fy : Nat → Int32) (mn t w f s p : Int32) (j : Nat) : Prop := fitM pa ot na my pm ma fa fy mn t w f s p j ∧ ∀ o : Nat, (o : Int) < mn.toInt → fitM pa ot na my pm ma fa fy mn t w f s p o → (o : Int) ≠ j → spO pa my pm p (fy f.toNatClampNeg - s) (nI j) (nI o)
/-- the one, or -5 -/
def uqM (sp : Nat → Prop) (mn r : Int32) : Prop := (∃ b : Nat, (b : Int) < mn.toInt ∧ r = nI b ∧ sp b ∧ ∀ j : Nat, (j : Int) < mn.toInt → sp j → j = b) ∨ (r = -5 ∧ ¬ ∃ b : Nat, (b : Int) < mn.toInt ∧ sp b ∧ ∀ j : Nat, (j : Int) < mn.toInt → sp j → j = b)
/-- the reference's searched: phase and answer -/
def srM (pa ot na my pm ma fa fy : Nat → Int32) (mn t w f s p r : Int32) : Prop := (p = 0 ∧ r = -4 ∧ nfM pa ot na my pm ma fa fy mn t w f s 1 ∧ nfM pa ot na my pm ma fa fy mn t w f s 2 ∧ nfM pa ot na my pm ma fa fy mn t w f s 3) ∨ (p = 1 ∧ ¬ nfM pa ot na my pm ma fa fy mn t w f s 1 ∧ uqM (spF pa ot na my pm ma fa fy mn t w f s 1) mn r) ∨ (p = 2 ∧ nfM pa ot na my pm ma fa fy mn t w f s 1 ∧ ¬ nfM pa ot na my pm ma fa fy mn t w f s 2 ∧ uqM (spF pa ot na my pm ma fa fy mn t w f s 2) mn r) ∨ (p = 3 ∧ nfM pa ot na my pm ma fa fy mn t w f s 1 ∧ nfM pa ot na my pm ma fa fy mn t w f s 2 ∧ ¬ nfM pa ot na my pm ma fa fy mn t w f s 3 ∧ uqM (spF pa ot na my pm ma fa fy mn t w f s 3) mn r)
/-- what lies in fit afterwards -/
def ftM (pa ot na my pm ma fa fy : Nat → Int32) (mn t w f s p : Int32) (ft : Nat → Int32) : Prop := ∀ j : Nat, (j : Int) < mn.toInt → ((ft j).toInt ≠ 0 ↔ (p.toInt ≠ 0 ∧ fitM pa ot na my pm ma fa fy mn t w f s p j))
theorem cF_upd {f : Nat → Int32} {x : Int32} {m : Nat} : ∀ {k : Nat}, k ≤ m → cF (upd f m x) k = cF f k := by
  intro k
  induction k with
  | zero => intro _; rfl
  | succ k ih =>
    intro h
    show cF (upd f m x) k + (if (upd f m x k).toInt ≠ 0 then 1 else 0) = cF f k + (if (f k).toInt ≠ 0 then 1 else 0)
    rw [ih (by omega), updN (by omega)]
/-- how many were found among the first k, and the last of them -/
def bsM (sp : Nat → Prop) (c b : Int32) (k : Nat) : Prop := (c.toInt = 0 ∧ ∀ j : Nat, j < k → ¬ sp j) ∨ (c.toInt = 1 ∧ ∃ i : Nat, i < k ∧ b = nI i ∧ sp i ∧ ∀ j : Nat, j < k → sp j → j = i) ∨ (2 ≤ c.toInt ∧ c.toInt ≤ k ∧ ∃ i j : Nat, i < k ∧ j < k ∧ i ≠ j ∧ sp i ∧ sp j)
theorem bsM_b {sp : Nat → Prop} {c b : Int32} {k : Nat} (h : bsM sp c b k) : 0 ≤ c.toInt ∧ c.toInt ≤ k := by
  rcases h with ⟨h, _⟩ | ⟨h, i, h2, _⟩ | ⟨h, h2, _⟩ <;> omega
theorem bsM_n {sp : Nat → Prop} {c b : Int32} {k : Nat} (h : bsM sp c b k) (hs : ¬ sp k) : bsM sp c b (k + 1) := by
  rcases h with ⟨h, h2⟩ | ⟨h, i, h2, h3, h4, h5⟩ | ⟨h, h2, i, j, h3, h4, h5⟩
  · refine Or.inl ⟨h, fun j q => ?_⟩
    rcases Nat.lt_succ_iff_lt_or_eq.mp q with q | q
    · exact h2 j q
    · subst q; exact hs
  · refine Or.inr (Or.inl ⟨h, i, by omega, h3, h4, fun j q q2 => ?_⟩)
    rcases Nat.lt_succ_iff_lt_or_eq.mp q with q | q
    · exact h5 j q q2
    · subst q; exact absurd q2 hs
  · exact Or.inr (Or.inr ⟨h, by omega, i, j, by omega, by omega, h5⟩)
theorem bsM_y {sp : Nat → Prop} {c b : Int32} {k : Nat} (h : bsM sp c b k) (hs : sp k) {c' : Int32} (hc : c'.toInt = c.toInt + 1) : bsM sp c' (nI k) (k + 1) := by
  rcases h with ⟨h, h2⟩ | ⟨h, i, h2, h3, h4, h5⟩ | ⟨h, h2, i, j, h3, h4, h5⟩
  · refine Or.inr (Or.inl ⟨by omega, k, by omega, rfl, hs, fun j q q2 => ?_⟩)
    rcases Nat.lt_succ_iff_lt_or_eq.mp q with q | q
    · exact absurd q2 (h2 j q)
    · exact q
  · exact Or.inr (Or.inr ⟨by omega, by omega, i, k, by omega, by omega, by omega, h4, hs⟩)
  · exact Or.inr (Or.inr ⟨by omega, by omega, i, j, by omega, by omega, h5⟩)
theorem bsM_1 {sp : Nat → Prop} {c b mn : Int32} {k : Nat} (h : bsM sp c b k) (hk : (k : Int) = mn.toInt) (hc : c.toInt = 1) : uqM sp mn b := by
  rcases h with ⟨h, h2⟩ | ⟨h, i, h2, h3, h4, h5⟩ | ⟨h, h2, i, j, h3, h4, h5⟩
  · omega
  · exact Or.inl ⟨i, by omega, h3, h4, fun j q => h5 j (by omega)⟩
  · omega
theorem bsM_2 {sp : Nat → Prop} {c b mn : Int32} {k : Nat} (h : bsM sp c b k) (hk : (k : Int) = mn.toInt) (hc : c.toInt ≠ 1) : uqM sp mn (-5) := by
  refine Or.inr ⟨rfl, ?_⟩
  rintro ⟨x, q1, q2, q3⟩
  rcases h with ⟨h, h2⟩ | ⟨h, i, h2, h3, h4, h5⟩ | ⟨h, h2, i, j, h3, h4, h5, h6, h7⟩
  · exact h2 x (by omega) q2
  · omega
  · exact h5 ((q3 i (by omega) h6).trans (q3 j (by omega) h7).symm)
theorem uqM_c {sp sq : Nat → Prop} {mn r : Int32} (h : ∀ j : Nat, (j : Int) < mn.toInt → (sp j ↔ sq j)) (k : uqM sp mn r) : uqM sq mn r := by
  rcases k with ⟨b, h1, h2, h3, h4⟩ | ⟨h1, h2⟩
  · exact Or.inl ⟨b, h1, h2, (h b h1).mp h3, fun j q q2 => h4 j q ((h j q).mpr q2)⟩
  · exact Or.inr ⟨h1, fun ⟨b, q1, q2, q3⟩ => h2 ⟨b, q1, (h b q1).mpr q2, fun j q q4 => q3 j q ((h j q).mp q4)⟩⟩
theorem uqM_b {sp : Nat → Prop} {mn r : Int32} (hn : 0 ≤ mn.toInt ∧ mn.toInt ≤ 40) (k : uqM sp mn r) : -5 ≤ r.toInt ∧ r.toInt < mn.toInt := by
  rcases k with ⟨b, h1, h2, h3, h4⟩ | ⟨h1, h2⟩
  · have := nI_toInt (n := b) (by omega)
    rw [h2]; omega
  · have : (-5 : Int32).toInt = -5 := by decide
    rw [h1]; omega
theorem srM_b {pa ot na my pm ma fa fy : Nat → Int32} {mn t w f s p r : Int32} (hn : 0 ≤ mn.toInt ∧ mn.toInt ≤ 40) (k : srM pa ot na my pm ma fa fy mn t w f s p r) : (-5 ≤ r.toInt ∧ r.toInt < mn.toInt) ∧ (0 ≤ p.toInt ∧ p.toInt ≤ 3) := by
  have z0 : (0 : Int32).toInt = 0 := by decide
  have z1 : (1 : Int32).toInt = 1 := by decide
  have z2 : (2 : Int32).toInt = 2 := by decide
  have z3 : (3 : Int32).toInt = 3 := by decide
  have z4 : (-4 : Int32).toInt = -4 := by decide
  rcases k with ⟨h1, h2, _⟩ | ⟨h1, _, h2⟩ | ⟨h1, _, _, h2⟩ | ⟨h1, _, _, _, h2⟩
  · rw [h1, h2]; omega
  · have := uqM_b hn h2; rw [h1]; omega
  · have := uqM_b hn h2; rw [h1]; omega
  · have := uqM_b hn h2; rw [h1]; omega
theorem spF_c {pa ot na my pm ma fa fy ft : Nat → Int32} {mn t w f s p : Int32} (hn : mn.toInt ≤ 40) (h : ∀ j : Nat, (j : Int) < mn.toInt → ((ft j).toInt ≠ 0 ↔ fitM pa ot na my pm ma fa fy mn t w f s p j)) : ∀ j : Nat, (j : Int) < mn.toInt → (((ft j).toInt ≠ 0 ∧ spL pa my pm ft mn p (fy f.toNatClampNeg - s) (nI j) 0) ↔ spF pa ot na my pm ma fa fy mn t w f s p j) := by
  intro j q
  have hj := nI_toInt (n := j) (by omega)
  constructor
  · rintro ⟨h1, h2⟩
    exact ⟨(h j q).mp h1, fun o q1 q2 q3 => h2 o (Nat.zero_le o) q1 ((h o q1).mpr q2) (by omega)⟩
  · rintro ⟨h1, h2⟩
    exact ⟨(h j q).mpr h1, fun o _ q1 q2 q3 => h2 o q1 ((h o q1).mp q2) (by omega)⟩
set_option maxRecDepth 100000 in
set_option maxHeartbeats 4000000 in
theorem w_searched_phase {g c1 c2 c3 c4 c5 c6 c7 c8 c9 c10 c11 c12 c13 c14 c15 c16 c17 c18 c19 c20 c21 c22 c23 c24 : pm_C} {dyn : pm_H} {mTy : Int32} {mPa : Nat → Int32} {mTo : Nat → Int32} {mTm : Int32} {mMn : Int32} {mOt : Nat → Int32} {mNa : Nat → Int32} {mRe : Nat → Int32} {mMa : Nat → Int32} {mMy : Nat → Int32} {mPm : Nat → Int32} {mFn : Int32} {mFy : Nat → Int32} {mFa : Nat → Int32} {mFr : Nat → Int32} {mRn : Int32} {mFo : Nat → Int32} {mRt : Nat → Int32} {mRm : Nat → Int32} {mTn : Int32} {mTt : Nat → Int32} {mTi : Nat → Int32} {mPl : Nat → Int32} {mVn : Int32} {mVr : Nat → Int32} {mVf : Nat → Int32} {mVc : Nat → Int32} {mAr : Nat → Int32} {mLr : Int32} {mTc : Nat → Int32} {mTr : Int32} {mFl : Int32} {mFt : Nat → Int32} {mFm : Int32} {mFp : Int32} {mSc : Int32} {mMp : Int32} {mEn : Int32} {mGo : Nat → Int32} {Q : pm_Q} (t w f s p : Int32) (hf : 0 ≤ f.toInt ∧ f.toInt < 10) (hs : 0 ≤ s.toInt ∧ s.toInt ≤ 1) (hfy : s.toInt ≤ (mFy f.toNatClampNeg).toInt ∧ (mFy f.toNatClampNeg).toInt ≤ 3) (hp : 1 ≤ p.toInt ∧ p.toInt ≤ 3) (hpa : paD mPa) (hy : myD mMy) (hv : vrD mMa mMy) (hn : 0 ≤ mMn.toInt ∧ mMn.toInt ≤ 40) : ∀ (n k : Nat) (u0 : Nat → Int32) (c : Int32), ((k : Int) ≤ mMn.toInt) → (40 < k + n) → (∀ j : Nat, j < k → ((u0 j).toInt ≠ 0 ↔ fitM mPa mOt mNa mMy mPm mMa mFa mFy mMn t w f s p j)) → (c.toInt = cF u0 k) → (∀ (f9 : Nat → Int32) (w9 : Int32), (∀ j : Nat, (j : Int) < mMn.toInt → ((f9 j).toInt ≠ 0 ↔ fitM mPa mOt mNa mMy mPm mMa mFa mFy mMn t w f s p j)) → w9.toInt = cF f9 mMn.toNatClampNeg → pm_WP 150 (109, [(5, .int p), (0, .ref 25), (1, .int t), (2, .int w), (3, .int f), (4, .int s)], [], hq g c1 c2 c3 c4 c5 c6 c7 c8 c9 c10 c11 c12 c13 c14 c15 c16 c17 c18 c19 c20 c21 c22 c23 c24 (hc25 mTy mTm mMn mFn mRn mTn mVn mLr mTr mFl w9 mFp mSc mMp mEn) (hc26 mPa) (hc27 mTo) (hc28 mOt) (hc29 mNa) (hc30 mRe) (hc31 mMa) (hc32 mMy) (hc33 mPm) (hc34 mFy) (hc35 mFa) (hc36 mFr) (hc37 mFo) (hc38 mRt) (hc39 mRm) (hc40 mTt) (hc41 mTi) (hc42 mPl) (hc43 mVr) (hc44 mVf) (hc45 mVc) (hc46 mAr) (hc47 mTc) (hc48 f9) (hc49 mGo) dyn, 0, 0) Q) → pm_WP 150 (23, [(6, .int (nI k)), (5, .int p), (0, .ref 25), (1, .int t), (2, .int w), (3, .int f), (4, .int s)], [], hq g c1 c2 c3 c4 c5 c6 c7 c8 c9 c10 c11 c12 c13 c14 c15 c16 c17 c18 c19 c20 c21 c22 c23 c24 (hc25 mTy mTm mMn mFn mRn mTn mVn mLr mTr mFl c mFp mSc mMp mEn) (hc26 mPa) (hc27 mTo) (hc28 mOt) (hc29 mNa) (hc30 mRe) (hc31 mMa) (hc32 mMy) (hc33 mPm) (hc34 mFy) (hc35 mFa) (hc36 mFr) (hc37 mFo) (hc38 mRt) (hc39 mRm) (hc40 mTt) (hc41 mTi) (hc42 mPl) (hc43 mVr) (hc44 mVf) (hc45 mVc) (hc46 mAr) (hc47 mTc) (hc48 u0) (hc49 mGo) dyn, 0, 0) Q := by
  intro n
  induction n with
  | zero =>
    intro k u0 c g1 g2 g3 g4 k0
    exfalso; omega
  | succ n ih =>
    intro k u0 c g1 g2 g3 g4 k0
    have hk := nI_toInt (n := k) (by omega)
    have hkc : (nI k).toNatClampNeg = k := nI_clamp (by omega)
    have hb := cF_b u0 k
    refine pm_go (g := (25, [(6, .int (nI k)), (5, .int p), (0, .ref 25), (1, .int t), (2, .int w), (3, .int f), (4, .int s)], [.int (nI k)], hq g c1 c2 c3 c4 c5 c6 c7 c8 c9 c10 c11 c12 c13 c14 c15 c16 c17 c18 c19 c20 c21 c22 c23 c24 (hc25 mTy mTm mMn mFn mRn mTn mVn mLr mTr mFl c mFp mSc mMp mEn) (hc26 mPa) (hc27 mTo) (hc28 mOt) (hc29 mNa) (hc30 mRe) (hc31 mMa) (hc32 mMy) (hc33 mPm) (hc34 mFy) (hc35 mFa) (hc36 mFr) (hc37 mFo) (hc38 mRt) (hc39 mRm) (hc40 mTt) (hc41 mTi) (hc42 mPl) (hc43 mVr) (hc44 mVf) (hc45 mVc) (hc46 mAr) (hc47 mTc) (hc48 u0) (hc49 mGo) dyn, 0, 0)) rfl ?_
    refine pm_go (g := (26, _, [.ref 25, .int (nI k)], _, 0, 0)) rfl ?_
    refine pm_go (g := (29, _, [.int mMn, .int (nI k)], _, 0, 0)) rfl ?_
    refine pm_if2 (g := (109, [(6, .int (nI k)), (5, .int p), (0, .ref 25), (1, .int t), (2, .int w), (3, .int f), (4, .int s)], [], hq g c1 c2 c3 c4 c5 c6 c7 c8 c9 c10 c11 c12 c13 c14 c15 c16 c17 c18 c19 c20 c21 c22 c23 c24 (hc25 mTy mTm mMn mFn mRn mTn mVn mLr mTr mFl c mFp mSc mMp mEn) (hc26 mPa) (hc27 mTo) (hc28 mOt) (hc29 mNa) (hc30 mRe) (hc31 mMa) (hc32 mMy) (hc33 mPm) (hc34 mFy) (hc35 mFa) (hc36 mFr) (hc37 mFo) (hc38 mRt) (hc39 mRm) (hc40 mTt) (hc41 mTi) (hc42 mPl) (hc43 mVr) (hc44 mVf) (hc45 mVc) (hc46 mAr) (hc47 mTc) (hc48 u0) (hc49 mGo) dyn, 0, 0)) (h := (32, [(6, .int (nI k)), (5, .int p), (0, .ref 25), (1, .int t), (2, .int w), (3, .int f), (4, .int s)], [], hq g c1 c2 c3 c4 c5 c6 c7 c8 c9 c10 c11 c12 c13 c14 c15 c16 c17 c18 c19 c20 c21 c22 c23 c24 (hc25 mTy mTm mMn mFn mRn mTn mVn mLr mTr mFl c mFp mSc mMp mEn) (hc26 mPa) (hc27 mTo) (hc28 mOt) (hc29 mNa) (hc30 mRe) (hc31 mMa) (hc32 mMy) (hc33 mPm) (hc34 mFy) (hc35 mFa) (hc36 mFr) (hc37 mFo) (hc38 mRt) (hc39 mRm) (hc40 mTt) (hc41 mTi) (hc42 mPl) (hc43 mVr) (hc44 mVf) (hc45 mVc) (hc46 mAr) (hc47 mTc) (hc48 u0) (hc49 mGo) dyn, 0, 0)) rfl (fun h1 => ?_) (fun h1 => ?_)
    ·
      have h1 := qT_ge (cx := (nI k).toInt) (cy := (mMn).toInt) rfl rfl h1
      refine pm_sub (lv := [(5, .int p), (0, .ref 25), (1, .int t), (2, .int w), (3, .int f), (4, .int s)]) ?_ ⟨le_c (List.Mem.tail _ (List.Mem.head _)) (le_c (List.Mem.tail _ (List.Mem.tail _ (List.Mem.head _))) (le_c (List.Mem.tail _ (List.Mem.tail _ (List.Mem.tail _ (List.Mem.head _)))) (le_c (List.Mem.tail _ (List.Mem.tail _ (List.Mem.tail _ (List.Mem.tail _ (List.Mem.head _))))) (le_c (List.Mem.tail _ (List.Mem.tail _ (List.Mem.tail _ (List.Mem.tail _ (List.Mem.tail _ (List.Mem.head _)))))) (le_c (List.Mem.tail _ (List.Mem.tail _ (List.Mem.tail _ (List.Mem.tail _ (List.Mem.tail _ (List.Mem.tail _ (List.Mem.head _))))))) le_n))))), (show ([6, 5, 0, 1, 2, 3, 4] : List Nat).Nodup by decide)⟩
      exact k0 u0 c (fun j q => g3 j (by omega)) (by rw [g4, show k = mMn.toNatClampNeg from (tN (by omega)).symm])
    have h1 := qF_ge (cx := (nI k).toInt) (cy := (mMn).toInt) rfl rfl h1
    refine pm_go (g := (33, _, [.ref 25], _, 0, 0)) rfl ?_
    refine pm_go (g := (36, _, [.ref 48], _, 0, 0)) rfl ?_
    refine pm_go (g := (38, _, [.int (nI k), .ref 48], _, 0, 0)) rfl ?_
    refine pm_go (g := (39, _, [.ref 25, .int (nI k), .ref 48], _, 0, 0)) rfl ?_
    refine pm_go (g := (42, _, [.ref 29, .int (nI k), .ref 48], _, 0, 0)) rfl ?_
    refine pm_go (g := (44, _, [.int (nI k), .ref 29, .int (nI k), .ref 48], _, 0, 0)) rfl ?_
    refine pm_sd (g := (45, _, [.int (mNa (nI k).toNatClampNeg), .int (nI k), .ref 48], _, 0, 0)) rfl (pm_inI (by omega) (by omega)) ?_
    refine pm_go (g := (46, _, [.int w, .int (mNa (nI k).toNatClampNeg), .int (nI k), .ref 48], _, 0, 0)) rfl ?_
    refine pm_if2 (g := (77, [(6, .int (nI k)), (5, .int p), (0, .ref 25), (1, .int t), (2, .int w), (3, .int f), (4, .int s)], [.int (nI k), .ref 48], hq g c1 c2 c3 c4 c5 c6 c7 c8 c9 c10 c11 c12 c13 c14 c15 c16 c17 c18 c19 c20 c21 c22 c23 c24 (hc25 mTy mTm mMn mFn mRn mTn mVn mLr mTr mFl c mFp mSc mMp mEn) (hc26 mPa) (hc27 mTo) (hc28 mOt) (hc29 mNa) (hc30 mRe) (hc31 mMa) (hc32 mMy) (hc33 mPm) (hc34 mFy) (hc35 mFa) (hc36 mFr) (hc37 mFo) (hc38 mRt) (hc39 mRm) (hc40 mTt) (hc41 mTi) (hc42 mPl) (hc43 mVr) (hc44 mVf) (hc45 mVc) (hc46 mAr) (hc47 mTc) (hc48 u0) (hc49 mGo) dyn, 0, 0)) (h := (49, [(6, .int (nI k)), (5, .int p), (0, .ref 25), (1, .int t), (2, .int w), (3, .int f), (4, .int s)], [.int (nI k), .ref 48], hq g c1 c2 c3 c4 c5 c6 c7 c8 c9 c10 c11 c12 c13 c14 c15 c16 c17 c18 c19 c20 c21 c22 c23 c24 (hc25 mTy mTm mMn mFn mRn mTn mVn mLr mTr mFl c mFp mSc mMp mEn) (hc26 mPa) (hc27 mTo) (hc28 mOt) (hc29 mNa) (hc30 mRe) (hc31 mMa) (hc32 mMy) (hc33 mPm) (hc34 mFy) (hc35 mFa) (hc36 mFr) (hc37 mFo) (hc38 mRt) (hc39 mRm) (hc40 mTt) (hc41 mTi) (hc42 mPl) (hc43 mVr) (hc44 mVf) (hc45 mVc) (hc46 mAr) (hc47 mTc) (hc48 u0) (hc49 mGo) dyn, 0, 0)) rfl (fun h2 => ?_) (fun h2 => ?_)
    ·
      have h2 := qT_ne (cx := (mNa (nI k).toNatClampNeg).toInt) (cy := (w).toInt) rfl rfl h2
      refine pm_go (g := (78, _, [.int 0, .int (nI k), .ref 48], _, 0, 0)) rfl ?_
      refine pm_sd (g := (79, _, [], hq g c1 c2 c3 c4 c5 c6 c7 c8 c9 c10 c11 c12 c13 c14 c15 c16 c17 c18 c19 c20 c21 c22 c23 c24 (hc25 mTy mTm mMn mFn mRn mTn mVn mLr mTr mFl c mFp mSc mMp mEn) (hc26 mPa) (hc27 mTo) (hc28 mOt) (hc29 mNa) (hc30 mRe) (hc31 mMa) (hc32 mMy) (hc33 mPm) (hc34 mFy) (hc35 mFa) (hc36 mFr) (hc37 mFo) (hc38 mRt) (hc39 mRm) (hc40 mTt) (hc41 mTi) (hc42 mPl) (hc43 mVr) (hc44 mVf) (hc45 mVc) (hc46 mAr) (hc47 mTc) (hc48 (upd u0 (nI k).toNatClampNeg 0)) (hc49 mGo) dyn, 0, 0)) rfl (pm_inI (by omega) (by omega)) ?_
      refine pm_go (g := (80, _, [.ref 25], _, 0, 0)) rfl ?_
      refine pm_go (g := (81, _, [.ref 25, .ref 25], _, 0, 0)) rfl ?_
      refine pm_go (g := (84, _, [.int c, .ref 25], _, 0, 0)) rfl ?_
      refine pm_go (g := (85, _, [.ref 25, .int c, .ref 25], _, 0, 0)) rfl ?_
      refine pm_go (g := (88, _, [.ref 48, .int c, .ref 25], _, 0, 0)) rfl ?_
      refine pm_go (g := (90, _, [.int (nI k), .ref 48, .int c, .ref 25], _, 0, 0)) rfl ?_
      refine pm_sd (g := (91, _, [.int ((upd u0 (nI k).toNatClampNeg 0) (nI k).toNatClampNeg), .int c, .ref 25], _, 0, 0)) rfl (pm_inI (by omega) (by omega)) ?_
      rw [updS]
      refine pm_brT (g := (98, [(6, .int (nI k)), (5, .int p), (0, .ref 25), (1, .int t), (2, .int w), (3, .int f), (4, .int s)], [.int c, .ref 25], hq g c1 c2 c3 c4 c5 c6 c7 c8 c9 c10 c11 c12 c13 c14 c15 c16 c17 c18 c19 c20 c21 c22 c23 c24 (hc25 mTy mTm mMn mFn mRn mTn mVn mLr mTr mFl c mFp mSc mMp mEn) (hc26 mPa) (hc27 mTo) (hc28 mOt) (hc29 mNa) (hc30 mRe) (hc31 mMa) (hc32 mMy) (hc33 mPm) (hc34 mFy) (hc35 mFa) (hc36 mFr) (hc37 mFo) (hc38 mRt) (hc39 mRm) (hc40 mTt) (hc41 mTi) (hc42 mPl) (hc43 mVr) (hc44 mVf) (hc45 mVc) (hc46 mAr) (hc47 mTc) (hc48 (upd u0 (nI k).toNatClampNeg 0)) (hc49 mGo) dyn, 0, 0)) rfl ?_
      refine pm_go (g := (99, _, [.int 0, .int c, .ref 25], _, 0, 0)) rfl ?_
      refine pm_go (g := (100, _, [.int (c + 0), .ref 25], _, 0, 0)) rfl ?_
      try have h3 : (c + 0).toInt = (c).toInt + 0 := iAdd (x := (c).toInt) (y := 0) rfl (by decide) (by omega) (by omega)
      refine pm_go (g := (103, _, [], hq g c1 c2 c3 c4 c5 c6 c7 c8 c9 c10 c11 c12 c13 c14 c15 c16 c17 c18 c19 c20 c21 c22 c23 c24 (hc25 mTy mTm mMn mFn mRn mTn mVn mLr mTr mFl (c + 0) mFp mSc mMp mEn) (hc26 mPa) (hc27 mTo) (hc28 mOt) (hc29 mNa) (hc30 mRe) (hc31 mMa) (hc32 mMy) (hc33 mPm) (hc34 mFy) (hc35 mFa) (hc36 mFr) (hc37 mFo) (hc38 mRt) (hc39 mRm) (hc40 mTt) (hc41 mTi) (hc42 mPl) (hc43 mVr) (hc44 mVf) (hc45 mVc) (hc46 mAr) (hc47 mTc) (hc48 (upd u0 (nI k).toNatClampNeg 0)) (hc49 mGo) dyn, 0, 0)) rfl ?_
      refine pm_go (g := (106, [(6, .int ((nI k) + 1)), (5, .int p), (0, .ref 25), (1, .int t), (2, .int w), (3, .int f), (4, .int s)], [], _, 0, 0)) rfl ?_
      refine pm_go (g := (23, _, [], _, 0, 0)) rfl ?_
      refine pm_sub (lv := [(6, .int ((nI k) + 1)), (5, .int p), (0, .ref 25), (1, .int t), (2, .int w), (3, .int f), (4, .int s)]) ?_ ⟨le_c (List.Mem.head _) (le_c (List.Mem.tail _ (List.Mem.head _)) (le_c (List.Mem.tail _ (List.Mem.tail _ (List.Mem.head _))) (le_c (List.Mem.tail _ (List.Mem.tail _ (List.Mem.tail _ (List.Mem.head _)))) (le_c (List.Mem.tail _ (List.Mem.tail _ (List.Mem.tail _ (List.Mem.tail _ (List.Mem.head _))))) (le_c (List.Mem.tail _ (List.Mem.tail _ (List.Mem.tail _ (List.Mem.tail _ (List.Mem.tail _ (List.Mem.head _)))))) (le_c (List.Mem.tail _ (List.Mem.tail _ (List.Mem.tail _ (List.Mem.tail _ (List.Mem.tail _ (List.Mem.tail _ (List.Mem.head _))))))) le_n)))))), (show ([6, 5, 0, 1, 2, 3, 4] : List Nat).Nodup by decide)⟩
      rw [nI_1, hkc]
      refine ih (k + 1) (upd u0 k 0) (c + 0) (by omega) (by omega) (fun j q => ?_) ?_ k0
      · rcases Nat.lt_succ_iff_lt_or_eq.mp q with q | q
        · rw [updN (by omega)]; exact g3 j q
        · subst q; rw [updS]; exact ⟨fun q => absurd (show (0 : Int32).toInt = 0 by decide) q, fun q => absurd q (by rintro ⟨q1, q2, q3⟩; first | omega | contradiction)⟩
      · show _ = cF (upd u0 k 0) k + (if (upd u0 k 0 k).toInt ≠ 0 then 1 else 0)
        rw [cF_upd (Nat.le_refl k), updS, if_neg (by decide)]; omega
    have h2 := qF_ne (cx := (mNa (nI k).toNatClampNeg).toInt) (cy := (w).toInt) rfl rfl h2
    refine pm_go (g := (50, [(6, .int (nI k)), (5, .int p), (0, .ref 25), (1, .int t), (2, .int w), (3, .int f), (4, .int s)], [.ref 25, .int (nI k), .ref 48], hq g c1 c2 c3 c4 c5 c6 c7 c8 c9 c10 c11 c12 c13 c14 c15 c16 c17 c18 c19 c20 c21 c22 c23 c24 (hc25 mTy mTm mMn mFn mRn mTn mVn mLr mTr mFl c mFp mSc mMp mEn) (hc26 mPa) (hc27 mTo) (hc28 mOt) (hc29 mNa) (hc30 mRe) (hc31 mMa) (hc32 mMy) (hc33 mPm) (hc34 mFy) (hc35 mFa) (hc36 mFr) (hc37 mFo) (hc38 mRt) (hc39 mRm) (hc40 mTt) (hc41 mTi) (hc42 mPl) (hc43 mVr) (hc44 mVf) (hc45 mVc) (hc46 mAr) (hc47 mTc) (hc48 u0) (hc49 mGo) dyn, 0, 0)) rfl ?_
    refine pm_go (g := (51, _, [.int t, .ref 25, .int (nI k), .ref 48], _, 0, 0)) rfl ?_
    refine pm_go (g := (53, _, [.int (nI k), .int t, .ref 25, .int (nI k), .ref 48], _, 0, 0)) rfl ?_
    refine pm_callD (z := 143) (as := [.ref 25, .int t, .int (nI k)]) (rest := [.int (nI k), .ref 48]) rfl ?_
    refine w_X12_isHad t (nI k) (by omega) (by assumption) (by assumption) (by omega) (fun h4 => ?_) (fun h5 => ?_)
    ·
      show pm_WP 150 (56, [(6, .int (nI k)), (5, .int p), (0, .ref 25), (1, .int t), (2, .int w), (3, .int f), (4, .int s)], [.int 1, .int (nI k), .ref 48], _, 0, 0) _
      refine pm_brF (h := (59, [(6, .int (nI k)), (5, .int p), (0, .ref 25), (1, .int t), (2, .int w), (3, .int f), (4, .int s)], [.int (nI k), .ref 48], hq g c1 c2 c3 c4 c5 c6 c7 c8 c9 c10 c11 c12 c13 c14 c15 c16 c17 c18 c19 c20 c21 c22 c23 c24 (hc25 mTy mTm mMn mFn mRn mTn mVn mLr mTr mFl c mFp mSc mMp mEn) (hc26 mPa) (hc27 mTo) (hc28 mOt) (hc29 mNa) (hc30 mRe) (hc31 mMa) (hc32 mMy) (hc33 mPm) (hc34 mFy) (hc35 mFa) (hc36 mFr) (hc37 mFo) (hc38 mRt) (hc39 mRm) (hc40 mTt) (hc41 mTi) (hc42 mPl) (hc43 mVr) (hc44 mVf) (hc45 mVc) (hc46 mAr) (hc47 mTc) (hc48 u0) (hc49 mGo) dyn, 0, 0)) rfl ?_
      refine pm_go (g := (60, _, [.ref 25, .int (nI k), .ref 48], _, 0, 0)) rfl ?_
      refine pm_go (g := (62, _, [.int (nI k), .ref 25, .int (nI k), .ref 48], _, 0, 0)) rfl ?_
      refine pm_go (g := (63, _, [.int f, .int (nI k), .ref 25, .int (nI k), .ref 48], _, 0, 0)) rfl ?_
      refine pm_go (g := (65, _, [.int s, .int f, .int (nI k), .ref 25, .int (nI k), .ref 48], _, 0, 0)) rfl ?_
      refine pm_go (g := (67, _, [.int p, .int s, .int f, .int (nI k), .ref 25, .int (nI k), .ref 48], _, 0, 0)) rfl ?_
      refine pm_callD (z := 148) (as := [.ref 25, .int (nI k), .int f, .int s, .int p]) (rest := [.int (nI k), .ref 48]) rfl ?_
      refine w_X12_takes (nI k) f s p (by omega) (by omega) (by omega) (by omega) (by omega) (by assumption) (by assumption) (by assumption) (fun h7 => ?_) (fun h8 => ?_)
      ·
        show pm_WP 150 (70, [(6, .int (nI k)), (5, .int p), (0, .ref 25), (1, .int t), (2, .int w), (3, .int f), (4, .int s)], [.int 1, .int (nI k), .ref 48], _, 0, 0) _
        refine pm_brF (h := (73, [(6, .int (nI k)), (5, .int p), (0, .ref 25), (1, .int t), (2, .int w), (3, .int f), (4, .int s)], [.int (nI k), .ref 48], hq g c1 c2 c3 c4 c5 c6 c7 c8 c9 c10 c11 c12 c13 c14 c15 c16 c17 c18 c19 c20 c21 c22 c23 c24 (hc25 mTy mTm mMn mFn mRn mTn mVn mLr mTr mFl c mFp mSc mMp mEn) (hc26 mPa) (hc27 mTo) (hc28 mOt) (hc29 mNa) (hc30 mRe) (hc31 mMa) (hc32 mMy) (hc33 mPm) (hc34 mFy) (hc35 mFa) (hc36 mFr) (hc37 mFo) (hc38 mRt) (hc39 mRm) (hc40 mTt) (hc41 mTi) (hc42 mPl) (hc43 mVr) (hc44 mVf) (hc45 mVc) (hc46 mAr) (hc47 mTc) (hc48 u0) (hc49 mGo) dyn, 0, 0)) rfl ?_
        refine pm_go (g := (74, _, [.int 1, .int (nI k), .ref 48], _, 0, 0)) rfl ?_
        refine pm_go (g := (78, _, [.int 1, .int (nI k), .ref 48], _, 0, 0)) rfl ?_
        refine pm_sd (g := (79, _, [], hq g c1 c2 c3 c4 c5 c6 c7 c8 c9 c10 c11 c12 c13 c14 c15 c16 c17 c18 c19 c20 c21 c22 c23 c24 (hc25 mTy mTm mMn mFn mRn mTn mVn mLr mTr mFl c mFp mSc mMp mEn) (hc26 mPa) (hc27 mTo) (hc28 mOt) (hc29 mNa) (hc30 mRe) (hc31 mMa) (hc32 mMy) (hc33 mPm) (hc34 mFy) (hc35 mFa) (hc36 mFr) (hc37 mFo) (hc38 mRt) (hc39 mRm) (hc40 mTt) (hc41 mTi) (hc42 mPl) (hc43 mVr) (hc44 mVf) (hc45 mVc) (hc46 mAr) (hc47 mTc) (hc48 (upd u0 (nI k).toNatClampNeg 1)) (hc49 mGo) dyn, 0, 0)) rfl (pm_inI (by omega) (by omega)) ?_
        refine pm_go (g := (80, _, [.ref 25], _, 0, 0)) rfl ?_
        refine pm_go (g := (81, _, [.ref 25, .ref 25], _, 0, 0)) rfl ?_
        refine pm_go (g := (84, _, [.int c, .ref 25], _, 0, 0)) rfl ?_
        refine pm_go (g := (85, _, [.ref 25, .int c, .ref 25], _, 0, 0)) rfl ?_
        refine pm_go (g := (88, _, [.ref 48, .int c, .ref 25], _, 0, 0)) rfl ?_
        refine pm_go (g := (90, _, [.int (nI k), .ref 48, .int c, .ref 25], _, 0, 0)) rfl ?_
        refine pm_sd (g := (91, _, [.int ((upd u0 (nI k).toNatClampNeg 1) (nI k).toNatClampNeg), .int c, .ref 25], _, 0, 0)) rfl (pm_inI (by omega) (by omega)) ?_
        rw [updS]
        refine pm_brF (h := (94, [(6, .int (nI k)), (5, .int p), (0, .ref 25), (1, .int t), (2, .int w), (3, .int f), (4, .int s)], [.int c, .ref 25], hq g c1 c2 c3 c4 c5 c6 c7 c8 c9 c10 c11 c12 c13 c14 c15 c16 c17 c18 c19 c20 c21 c22 c23 c24 (hc25 mTy mTm mMn mFn mRn mTn mVn mLr mTr mFl c mFp mSc mMp mEn) (hc26 mPa) (hc27 mTo) (hc28 mOt) (hc29 mNa) (hc30 mRe) (hc31 mMa) (hc32 mMy) (hc33 mPm) (hc34 mFy) (hc35 mFa) (hc36 mFr) (hc37 mFo) (hc38 mRt) (hc39 mRm) (hc40 mTt) (hc41 mTi) (hc42 mPl) (hc43 mVr) (hc44 mVf) (hc45 mVc) (hc46 mAr) (hc47 mTc) (hc48 (upd u0 (nI k).toNatClampNeg 1)) (hc49 mGo) dyn, 0, 0)) rfl ?_
        refine pm_go (g := (95, _, [.int 1, .int c, .ref 25], _, 0, 0)) rfl ?_
        refine pm_go (g := (99, _, [.int 1, .int c, .ref 25], _, 0, 0)) rfl ?_
        refine pm_go (g := (100, _, [.int (c + 1), .ref 25], _, 0, 0)) rfl ?_
        try have h10 : (c + 1).toInt = (c).toInt + 1 := iAdd (x := (c).toInt) (y := 1) rfl (by decide) (by omega) (by omega)
        refine pm_go (g := (103, _, [], hq g c1 c2 c3 c4 c5 c6 c7 c8 c9 c10 c11 c12 c13 c14 c15 c16 c17 c18 c19 c20 c21 c22 c23 c24 (hc25 mTy mTm mMn mFn mRn mTn mVn mLr mTr mFl (c + 1) mFp mSc mMp mEn) (hc26 mPa) (hc27 mTo) (hc28 mOt) (hc29 mNa) (hc30 mRe) (hc31 mMa) (hc32 mMy) (hc33 mPm) (hc34 mFy) (hc35 mFa) (hc36 mFr) (hc37 mFo) (hc38 mRt) (hc39 mRm) (hc40 mTt) (hc41 mTi) (hc42 mPl) (hc43 mVr) (hc44 mVf) (hc45 mVc) (hc46 mAr) (hc47 mTc) (hc48 (upd u0 (nI k).toNatClampNeg 1)) (hc49 mGo) dyn, 0, 0)) rfl ?_
        refine pm_go (g := (106, [(6, .int ((nI k) + 1)), (5, .int p), (0, .ref 25), (1, .int t), (2, .int w), (3, .int f), (4, .int s)], [], _, 0, 0)) rfl ?_
        refine pm_go (g := (23, _, [], _, 0, 0)) rfl ?_
        refine pm_sub (lv := [(6, .int ((nI k) + 1)), (5, .int p), (0, .ref 25), (1, .int t), (2, .int w), (3, .int f), (4, .int s)]) ?_ ⟨le_c (List.Mem.head _) (le_c (List.Mem.tail _ (List.Mem.head _)) (le_c (List.Mem.tail _ (List.Mem.tail _ (List.Mem.head _))) (le_c (List.Mem.tail _ (List.Mem.tail _ (List.Mem.tail _ (List.Mem.head _)))) (le_c (List.Mem.tail _ (List.Mem.tail _ (List.Mem.tail _ (List.Mem.tail _ (List.Mem.head _))))) (le_c (List.Mem.tail _ (List.Mem.tail _ (List.Mem.tail _ (List.Mem.tail _ (List.Mem.tail _ (List.Mem.head _)))))) (le_c (List.Mem.tail _ (List.Mem.tail _ (List.Mem.tail _ (List.Mem.tail _ (List.Mem.tail _ (List.Mem.tail _ (List.Mem.head _))))))) le_n)))))), (show ([6, 5, 0, 1, 2, 3, 4] : List Nat).Nodup by decide)⟩
        rw [nI_1, hkc]
        refine ih (k + 1) (upd u0 k 1) (c + 1) (by omega) (by omega) (fun j q => ?_) ?_ k0
        · rcases Nat.lt_succ_iff_lt_or_eq.mp q with q | q
          · rw [updN (by omega)]; exact g3 j q
          · subst q; rw [updS]; exact ⟨fun _ => ⟨by omega, by assumption, by assumption⟩, fun _ => by decide⟩
        · show _ = cF (upd u0 k 1) k + (if (upd u0 k 1 k).toInt ≠ 0 then 1 else 0)
          rw [cF_upd (Nat.le_refl k), updS, if_pos (by decide)]; omega
      show pm_WP 150 (70, [(6, .int (nI k)), (5, .int p), (0, .ref 25), (1, .int t), (2, .int w), (3, .int f), (4, .int s)], [.int 0, .int (nI k), .ref 48], hq g c1 c2 c3 c4 c5 c6 c7 c8 c9 c10 c11 c12 c13 c14 c15 c16 c17 c18 c19 c20 c21 c22 c23 c24 (hc25 mTy mTm mMn mFn mRn mTn mVn mLr mTr mFl c mFp mSc mMp mEn) (hc26 mPa) (hc27 mTo) (hc28 mOt) (hc29 mNa) (hc30 mRe) (hc31 mMa) (hc32 mMy) (hc33 mPm) (hc34 mFy) (hc35 mFa) (hc36 mFr) (hc37 mFo) (hc38 mRt) (hc39 mRm) (hc40 mTt) (hc41 mTi) (hc42 mPl) (hc43 mVr) (hc44 mVf) (hc45 mVc) (hc46 mAr) (hc47 mTc) (hc48 u0) (hc49 mGo) dyn, 0, 0) _
      refine pm_brT (g := (77, [(6, .int (nI k)), (5, .int p), (0, .ref 25), (1, .int t), (2, .int w), (3, .int f), (4, .int s)], [.int (nI k), .ref 48], hq g c1 c2 c3 c4 c5 c6 c7 c8 c9 c10 c11 c12 c13 c14 c15 c16 c17 c18 c19 c20 c21 c22 c23 c24 (hc25 mTy mTm mMn mFn mRn mTn mVn mLr mTr mFl c mFp mSc mMp mEn) (hc26 mPa) (hc27 mTo) (hc28 mOt) (hc29 mNa) (hc30 mRe) (hc31 mMa) (hc32 mMy) (hc33 mPm) (hc34 mFy) (hc35 mFa) (hc36 mFr) (hc37 mFo) (hc38 mRt) (hc39 mRm) (hc40 mTt) (hc41 mTi) (hc42 mPl) (hc43 mVr) (hc44 mVf) (hc45 mVc) (hc46 mAr) (hc47 mTc) (hc48 u0) (hc49 mGo) dyn, 0, 0)) rfl ?_
      refine pm_go (g := (78, _, [.int 0, .int (nI k), .ref 48], _, 0, 0)) rfl ?_
      refine pm_sd (g := (79, _, [], hq g c1 c2 c3 c4 c5 c6 c7 c8 c9 c10 c11 c12 c13 c14 c15 c16 c17 c18 c19 c20 c21 c22 c23 c24 (hc25 mTy mTm mMn mFn mRn mTn mVn mLr mTr mFl c mFp mSc mMp mEn) (hc26 mPa) (hc27 mTo) (hc28 mOt) (hc29 mNa) (hc30 mRe) (hc31 mMa) (hc32 mMy) (hc33 mPm) (hc34 mFy) (hc35 mFa) (hc36 mFr) (hc37 mFo) (hc38 mRt) (hc39 mRm) (hc40 mTt) (hc41 mTi) (hc42 mPl) (hc43 mVr) (hc44 mVf) (hc45 mVc) (hc46 mAr) (hc47 mTc) (hc48 (upd u0 (nI k).toNatClampNeg 0)) (hc49 mGo) dyn, 0, 0)) rfl (pm_inI (by omega) (by omega)) ?_
      refine pm_go (g := (80, _, [.ref 25], _, 0, 0)) rfl ?_
      refine pm_go (g := (81, _, [.ref 25, .ref 25], _, 0, 0)) rfl ?_
      refine pm_go (g := (84, _, [.int c, .ref 25], _, 0, 0)) rfl ?_
      refine pm_go (g := (85, _, [.ref 25, .int c, .ref 25], _, 0, 0)) rfl ?_
      refine pm_go (g := (88, _, [.ref 48, .int c, .ref 25], _, 0, 0)) rfl ?_
      refine pm_go (g := (90, _, [.int (nI k), .ref 48, .int c, .ref 25], _, 0, 0)) rfl ?_
      refine pm_sd (g := (91, _, [.int ((upd u0 (nI k).toNatClampNeg 0) (nI k).toNatClampNeg), .int c, .ref 25], _, 0, 0)) rfl (pm_inI (by omega) (by omega)) ?_
      rw [updS]
      refine pm_brT (g := (98, [(6, .int (nI k)), (5, .int p), (0, .ref 25), (1, .int t), (2, .int w), (3, .int f), (4, .int s)], [.int c, .ref 25], hq g c1 c2 c3 c4 c5 c6 c7 c8 c9 c10 c11 c12 c13 c14 c15 c16 c17 c18 c19 c20 c21 c22 c23 c24 (hc25 mTy mTm mMn mFn mRn mTn mVn mLr mTr mFl c mFp mSc mMp mEn) (hc26 mPa) (hc27 mTo) (hc28 mOt) (hc29 mNa) (hc30 mRe) (hc31 mMa) (hc32 mMy) (hc33 mPm) (hc34 mFy) (hc35 mFa) (hc36 mFr) (hc37 mFo) (hc38 mRt) (hc39 mRm) (hc40 mTt) (hc41 mTi) (hc42 mPl) (hc43 mVr) (hc44 mVf) (hc45 mVc) (hc46 mAr) (hc47 mTc) (hc48 (upd u0 (nI k).toNatClampNeg 0)) (hc49 mGo) dyn, 0, 0)) rfl ?_
      refine pm_go (g := (99, _, [.int 0, .int c, .ref 25], _, 0, 0)) rfl ?_
      refine pm_go (g := (100, _, [.int (c + 0), .ref 25], _, 0, 0)) rfl ?_
      try have h11 : (c + 0).toInt = (c).toInt + 0 := iAdd (x := (c).toInt) (y := 0) rfl (by decide) (by omega) (by omega)
      refine pm_go (g := (103, _, [], hq g c1 c2 c3 c4 c5 c6 c7 c8 c9 c10 c11 c12 c13 c14 c15 c16 c17 c18 c19 c20 c21 c22 c23 c24 (hc25 mTy mTm mMn mFn mRn mTn mVn mLr mTr mFl (c + 0) mFp mSc mMp mEn) (hc26 mPa) (hc27 mTo) (hc28 mOt) (hc29 mNa) (hc30 mRe) (hc31 mMa) (hc32 mMy) (hc33 mPm) (hc34 mFy) (hc35 mFa) (hc36 mFr) (hc37 mFo) (hc38 mRt) (hc39 mRm) (hc40 mTt) (hc41 mTi) (hc42 mPl) (hc43 mVr) (hc44 mVf) (hc45 mVc) (hc46 mAr) (hc47 mTc) (hc48 (upd u0 (nI k).toNatClampNeg 0)) (hc49 mGo) dyn, 0, 0)) rfl ?_
      refine pm_go (g := (106, [(6, .int ((nI k) + 1)), (5, .int p), (0, .ref 25), (1, .int t), (2, .int w), (3, .int f), (4, .int s)], [], _, 0, 0)) rfl ?_
      refine pm_go (g := (23, _, [], _, 0, 0)) rfl ?_
      refine pm_sub (lv := [(6, .int ((nI k) + 1)), (5, .int p), (0, .ref 25), (1, .int t), (2, .int w), (3, .int f), (4, .int s)]) ?_ ⟨le_c (List.Mem.head _) (le_c (List.Mem.tail _ (List.Mem.head _)) (le_c (List.Mem.tail _ (List.Mem.tail _ (List.Mem.head _))) (le_c (List.Mem.tail _ (List.Mem.tail _ (List.Mem.tail _ (List.Mem.head _)))) (le_c (List.Mem.tail _ (List.Mem.tail _ (List.Mem.tail _ (List.Mem.tail _ (List.Mem.head _))))) (le_c (List.Mem.tail _ (List.Mem.tail _ (List.Mem.tail _ (List.Mem.tail _ (List.Mem.tail _ (List.Mem.head _)))))) (le_c (List.Mem.tail _ (List.Mem.tail _ (List.Mem.tail _ (List.Mem.tail _ (List.Mem.tail _ (List.Mem.tail _ (List.Mem.head _))))))) le_n)))))), (show ([6, 5, 0, 1, 2, 3, 4] : List Nat).Nodup by decide)⟩
      rw [nI_1, hkc]
      refine ih (k + 1) (upd u0 k 0) (c + 0) (by omega) (by omega) (fun j q => ?_) ?_ k0
      · rcases Nat.lt_succ_iff_lt_or_eq.mp q with q | q
        · rw [updN (by omega)]; exact g3 j q
        · subst q; rw [updS]; exact ⟨fun q => absurd (show (0 : Int32).toInt = 0 by decide) q, fun q => absurd q (by rintro ⟨q1, q2, q3⟩; first | omega | contradiction)⟩
      · show _ = cF (upd u0 k 0) k + (if (upd u0 k 0 k).toInt ≠ 0 then 1 else 0)
        rw [cF_upd (Nat.le_refl k), updS, if_neg (by decide)]; omega
    show pm_WP 150 (56, [(6, .int (nI k)), (5, .int p), (0, .ref 25), (1, .int t), (2, .int w), (3, .int f), (4, .int s)], [.int 0, .int (nI k), .ref 48], hq g c1 c2 c3 c4 c5 c6 c7 c8 c9 c10 c11 c12 c13 c14 c15 c16 c17 c18 c19 c20 c21 c22 c23 c24 (hc25 mTy mTm mMn mFn mRn mTn mVn mLr mTr mFl c mFp mSc mMp mEn) (hc26 mPa) (hc27 mTo) (hc28 mOt) (hc29 mNa) (hc30 mRe) (hc31 mMa) (hc32 mMy) (hc33 mPm) (hc34 mFy) (hc35 mFa) (hc36 mFr) (hc37 mFo) (hc38 mRt) (hc39 mRm) (hc40 mTt) (hc41 mTi) (hc42 mPl) (hc43 mVr) (hc44 mVf) (hc45 mVc) (hc46 mAr) (hc47 mTc) (hc48 u0) (hc49 mGo) dyn, 0, 0) _
    refine pm_brT (g := (77, [(6, .int (nI k)), (5, .int p), (0, .ref 25), (1, .int t), (2, .int w), (3, .int f), (4, .int s)], [.int (nI k), .ref 48], hq g c1 c2 c3 c4 c5 c6 c7 c8 c9 c10 c11 c12 c13 c14 c15 c16 c17 c18 c19 c20 c21 c22 c23 c24 (hc25 mTy mTm mMn mFn mRn mTn mVn mLr mTr mFl c mFp mSc mMp mEn) (hc26 mPa) (hc27 mTo) (hc28 mOt) (hc29 mNa) (hc30 mRe) (hc31 mMa) (hc32 mMy) (hc33 mPm) (hc34 mFy) (hc35 mFa) (hc36 mFr) (hc37 mFo) (hc38 mRt) (hc39 mRm) (hc40 mTt) (hc41 mTi) (hc42 mPl) (hc43 mVr) (hc44 mVf) (hc45 mVc) (hc46 mAr) (hc47 mTc) (hc48 u0) (hc49 mGo) dyn, 0, 0)) rfl ?_
    refine pm_go (g := (78, _, [.int 0, .int (nI k), .ref 48], _, 0, 0)) rfl ?_
    refine pm_sd (g := (79, _, [], hq g c1 c2 c3 c4 c5 c6 c7 c8 c9 c10 c11 c12 c13 c14 c15 c16 c17 c18 c19 c20 c21 c22 c23 c24 (hc25 mTy mTm mMn mFn mRn mTn mVn mLr mTr mFl c mFp mSc mMp mEn) (hc26 mPa) (hc27 mTo) (hc28 mOt) (hc29 mNa) (hc30 mRe) (hc31 mMa) (hc32 mMy) (hc33 mPm) (hc34 mFy) (hc35 mFa) (hc36 mFr) (hc37 mFo) (hc38 mRt) (hc39 mRm) (hc40 mTt) (hc41 mTi) (hc42 mPl) (hc43 mVr) (hc44 mVf) (hc45 mVc) (hc46 mAr) (hc47 mTc) (hc48 (upd u0 (nI k).toNatClampNeg 0)) (hc49 mGo) dyn, 0, 0)) rfl (pm_inI (by omega) (by omega)) ?_
    refine pm_go (g := (80, _, [.ref 25], _, 0, 0)) rfl ?_
    refine pm_go (g := (81, _, [.ref 25, .ref 25], _, 0, 0)) rfl ?_
    refine pm_go (g := (84, _, [.int c, .ref 25], _, 0, 0)) rfl ?_
    refine pm_go (g := (85, _, [.ref 25, .int c, .ref 25], _, 0, 0)) rfl ?_
    refine pm_go (g := (88, _, [.ref 48, .int c, .ref 25], _, 0, 0)) rfl ?_
    refine pm_go (g := (90, _, [.int (nI k), .ref 48, .int c, .ref 25], _, 0, 0)) rfl ?_
    refine pm_sd (g := (91, _, [.int ((upd u0 (nI k).toNatClampNeg 0) (nI k).toNatClampNeg), .int c, .ref 25], _, 0, 0)) rfl (pm_inI (by omega) (by omega)) ?_
    rw [updS]
    refine pm_brT (g := (98, [(6, .int (nI k)), (5, .int p), (0, .ref 25), (1, .int t), (2, .int w), (3, .int f), (4, .int s)], [.int c, .ref 25], hq g c1 c2 c3 c4 c5 c6 c7 c8 c9 c10 c11 c12 c13 c14 c15 c16 c17 c18 c19 c20 c21 c22 c23 c24 (hc25 mTy mTm mMn mFn mRn mTn mVn mLr mTr mFl c mFp mSc mMp mEn) (hc26 mPa) (hc27 mTo) (hc28 mOt) (hc29 mNa) (hc30 mRe) (hc31 mMa) (hc32 mMy) (hc33 mPm) (hc34 mFy) (hc35 mFa) (hc36 mFr) (hc37 mFo) (hc38 mRt) (hc39 mRm) (hc40 mTt) (hc41 mTi) (hc42 mPl) (hc43 mVr) (hc44 mVf) (hc45 mVc) (hc46 mAr) (hc47 mTc) (hc48 (upd u0 (nI k).toNatClampNeg 0)) (hc49 mGo) dyn, 0, 0)) rfl ?_
    refine pm_go (g := (99, _, [.int 0, .int c, .ref 25], _, 0, 0)) rfl ?_
    refine pm_go (g := (100, _, [.int (c + 0), .ref 25], _, 0, 0)) rfl ?_
    try have h12 : (c + 0).toInt = (c).toInt + 0 := iAdd (x := (c).toInt) (y := 0) rfl (by decide) (by omega) (by omega)
    refine pm_go (g := (103, _, [], hq g c1 c2 c3 c4 c5 c6 c7 c8 c9 c10 c11 c12 c13 c14 c15 c16 c17 c18 c19 c20 c21 c22 c23 c24 (hc25 mTy mTm mMn mFn mRn mTn mVn mLr mTr mFl (c + 0) mFp mSc mMp mEn) (hc26 mPa) (hc27 mTo) (hc28 mOt) (hc29 mNa) (hc30 mRe) (hc31 mMa) (hc32 mMy) (hc33 mPm) (hc34 mFy) (hc35 mFa) (hc36 mFr) (hc37 mFo) (hc38 mRt) (hc39 mRm) (hc40 mTt) (hc41 mTi) (hc42 mPl) (hc43 mVr) (hc44 mVf) (hc45 mVc) (hc46 mAr) (hc47 mTc) (hc48 (upd u0 (nI k).toNatClampNeg 0)) (hc49 mGo) dyn, 0, 0)) rfl ?_
    refine pm_go (g := (106, [(6, .int ((nI k) + 1)), (5, .int p), (0, .ref 25), (1, .int t), (2, .int w), (3, .int f), (4, .int s)], [], _, 0, 0)) rfl ?_
    refine pm_go (g := (23, _, [], _, 0, 0)) rfl ?_
    refine pm_sub (lv := [(6, .int ((nI k) + 1)), (5, .int p), (0, .ref 25), (1, .int t), (2, .int w), (3, .int f), (4, .int s)]) ?_ ⟨le_c (List.Mem.head _) (le_c (List.Mem.tail _ (List.Mem.head _)) (le_c (List.Mem.tail _ (List.Mem.tail _ (List.Mem.head _))) (le_c (List.Mem.tail _ (List.Mem.tail _ (List.Mem.tail _ (List.Mem.head _)))) (le_c (List.Mem.tail _ (List.Mem.tail _ (List.Mem.tail _ (List.Mem.tail _ (List.Mem.head _))))) (le_c (List.Mem.tail _ (List.Mem.tail _ (List.Mem.tail _ (List.Mem.tail _ (List.Mem.tail _ (List.Mem.head _)))))) (le_c (List.Mem.tail _ (List.Mem.tail _ (List.Mem.tail _ (List.Mem.tail _ (List.Mem.tail _ (List.Mem.tail _ (List.Mem.head _))))))) le_n)))))), (show ([6, 5, 0, 1, 2, 3, 4] : List Nat).Nodup by decide)⟩
    rw [nI_1, hkc]
    refine ih (k + 1) (upd u0 k 0) (c + 0) (by omega) (by omega) (fun j q => ?_) ?_ k0
    · rcases Nat.lt_succ_iff_lt_or_eq.mp q with q | q
      · rw [updN (by omega)]; exact g3 j q
      · subst q; rw [updS]; exact ⟨fun q => absurd (show (0 : Int32).toInt = 0 by decide) q, fun q => absurd q (by rintro ⟨q1, q2, q3⟩; first | omega | contradiction)⟩
    · show _ = cF (upd u0 k 0) k + (if (upd u0 k 0 k).toInt ≠ 0 then 1 else 0)
      rw [cF_upd (Nat.le_refl k), updS, if_neg (by decide)]; omega
set_option maxRecDepth 100000 in
set_option maxHeartbeats 4000000 in
theorem w_searched_best {g c1 c2 c3 c4 c5 c6 c7 c8 c9 c10 c11 c12 c13 c14 c15 c16 c17 c18 c19 c20 c21 c22 c23 c24 : pm_C} {dyn : pm_H} {mTy : Int32} {mPa : Nat → Int32} {mTo : Nat → Int32} {mTm : Int32} {mMn : Int32} {mOt : Nat → Int32} {mNa : Nat → Int32} {mRe : Nat → Int32} {mMa : Nat → Int32} {mMy : Nat → Int32} {mPm : Nat → Int32} {mFn : Int32} {mFy : Nat → Int32} {mFa : Nat → Int32} {mFr : Nat → Int32} {mRn : Int32} {mFo : Nat → Int32} {mRt : Nat → Int32} {mRm : Nat → Int32} {mTn : Int32} {mTt : Nat → Int32} {mTi : Nat → Int32} {mPl : Nat → Int32} {mVn : Int32} {mVr : Nat → Int32} {mVf : Nat → Int32} {mVc : Nat → Int32} {mAr : Nat → Int32} {mLr : Int32} {mTc : Nat → Int32} {mTr : Int32} {mFl : Int32} {mFt : Nat → Int32} {mFm : Int32} {mFp : Int32} {mSc : Int32} {mMp : Int32} {mEn : Int32} {mGo : Nat → Int32} {Q : pm_Q} (t w f s : Int32) (hf : 0 ≤ f.toInt ∧ f.toInt < 10) (hs : 0 ≤ s.toInt ∧ s.toInt ≤ 1) (hfy : s.toInt ≤ (mFy f.toNatClampNeg).toInt ∧ (mFy f.toNatClampNeg).toInt ≤ 3) (hpp : 1 ≤ mFp.toInt ∧ mFp.toInt ≤ 3) (hp : paD mPa) (hy : myD mMy) (hn : 0 ≤ mMn.toInt ∧ mMn.toInt ≤ 40) (hfv : fvD mFp mMy mFt mMn) : ∀ (n k : Nat) (b : Int32) (c : Int32), ((k : Int) ≤ mMn.toInt) → (40 < k + n) → (bsM (fun j : Nat => ((mFt j).toInt ≠ 0 ∧ spL mPa mMy mPm mFt mMn mFp (mFy f.toNatClampNeg - s) (nI j) 0)) c b k) → (∀ r9 : Int32, uqM (fun j : Nat => ((mFt j).toInt ≠ 0 ∧ spL mPa mMy mPm mFt mMn mFp (mFy f.toNatClampNeg - s) (nI j) 0)) mMn r9 → Q (some (.int r9)) (hq g c1 c2 c3 c4 c5 c6 c7 c8 c9 c10 c11 c12 c13 c14 c15 c16 c17 c18 c19 c20 c21 c22 c23 c24 (hc25 mTy mTm mMn mFn mRn mTn mVn mLr mTr mFl mFm mFp mSc mMp mEn) (hc26 mPa) (hc27 mTo) (hc28 mOt) (hc29 mNa) (hc30 mRe) (hc31 mMa) (hc32 mMy) (hc33 mPm) (hc34 mFy) (hc35 mFa) (hc36 mFr) (hc37 mFo) (hc38 mRt) (hc39 mRm) (hc40 mTt) (hc41 mTi) (hc42 mPl) (hc43 mVr) (hc44 mVf) (hc45 mVc) (hc46 mAr) (hc47 mTc) (hc48 mFt) (hc49 mGo) dyn)) → pm_WP 150 (152, [(7, .int (nI k)), (6, .int c), (5, .int b), (0, .ref 25), (1, .int t), (2, .int w), (3, .int f), (4, .int s)], [], hq g c1 c2 c3 c4 c5 c6 c7 c8 c9 c10 c11 c12 c13 c14 c15 c16 c17 c18 c19 c20 c21 c22 c23 c24 (hc25 mTy mTm mMn mFn mRn mTn mVn mLr mTr mFl mFm mFp mSc mMp mEn) (hc26 mPa) (hc27 mTo) (hc28 mOt) (hc29 mNa) (hc30 mRe) (hc31 mMa) (hc32 mMy) (hc33 mPm) (hc34 mFy) (hc35 mFa) (hc36 mFr) (hc37 mFo) (hc38 mRt) (hc39 mRm) (hc40 mTt) (hc41 mTi) (hc42 mPl) (hc43 mVr) (hc44 mVf) (hc45 mVc) (hc46 mAr) (hc47 mTc) (hc48 mFt) (hc49 mGo) dyn, 0, 0) Q := by
  intro n
  induction n with
  | zero =>
    intro k b c g1 g2 g3 k0
    exfalso; omega
  | succ n ih =>
    intro k b c g1 g2 g3 k0
    have hk := nI_toInt (n := k) (by omega)
    have hkc : (nI k).toNatClampNeg = k := nI_clamp (by omega)
    have hb := bsM_b g3
    have hft : (mFt (nI k).toNatClampNeg).toInt = (mFt k).toInt := by rw [hkc]
    have h3k : mFp.toInt = 3 → (k : Int) < mMn.toInt → (mFt k).toInt ≠ 0 → 1 ≤ (mMy (nI k).toNatClampNeg).toInt := fun q q1 q2 => by rw [hkc]; exact hfv q k q1 q2
    refine pm_go (g := (154, [(7, .int (nI k)), (6, .int c), (5, .int b), (0, .ref 25), (1, .int t), (2, .int w), (3, .int f), (4, .int s)], [.int (nI k)], hq g c1 c2 c3 c4 c5 c6 c7 c8 c9 c10 c11 c12 c13 c14 c15 c16 c17 c18 c19 c20 c21 c22 c23 c24 (hc25 mTy mTm mMn mFn mRn mTn mVn mLr mTr mFl mFm mFp mSc mMp mEn) (hc26 mPa) (hc27 mTo) (hc28 mOt) (hc29 mNa) (hc30 mRe) (hc31 mMa) (hc32 mMy) (hc33 mPm) (hc34 mFy) (hc35 mFa) (hc36 mFr) (hc37 mFo) (hc38 mRt) (hc39 mRm) (hc40 mTt) (hc41 mTi) (hc42 mPl) (hc43 mVr) (hc44 mVf) (hc45 mVc) (hc46 mAr) (hc47 mTc) (hc48 mFt) (hc49 mGo) dyn, 0, 0)) rfl ?_
    refine pm_go (g := (155, _, [.ref 25, .int (nI k)], _, 0, 0)) rfl ?_
    refine pm_go (g := (158, _, [.int mMn, .int (nI k)], _, 0, 0)) rfl ?_
    refine pm_if2 (g := (202, [(7, .int (nI k)), (6, .int c), (5, .int b), (0, .ref 25), (1, .int t), (2, .int w), (3, .int f), (4, .int s)], [], hq g c1 c2 c3 c4 c5 c6 c7 c8 c9 c10 c11 c12 c13 c14 c15 c16 c17 c18 c19 c20 c21 c22 c23 c24 (hc25 mTy mTm mMn mFn mRn mTn mVn mLr mTr mFl mFm mFp mSc mMp mEn) (hc26 mPa) (hc27 mTo) (hc28 mOt) (hc29 mNa) (hc30 mRe) (hc31 mMa) (hc32 mMy) (hc33 mPm) (hc34 mFy) (hc35 mFa) (hc36 mFr) (hc37 mFo) (hc38 mRt) (hc39 mRm) (hc40 mTt) (hc41 mTi) (hc42 mPl) (hc43 mVr) (hc44 mVf) (hc45 mVc) (hc46 mAr) (hc47 mTc) (hc48 mFt) (hc49 mGo) dyn, 0, 0)) (h := (161, [(7, .int (nI k)), (6, .int c), (5, .int b), (0, .ref 25), (1, .int t), (2, .int w), (3, .int f), (4, .int s)], [], hq g c1 c2 c3 c4 c5 c6 c7 c8 c9 c10 c11 c12 c13 c14 c15 c16 c17 c18 c19 c20 c21 c22 c23 c24 (hc25 mTy mTm mMn mFn mRn mTn mVn mLr mTr mFl mFm mFp mSc mMp mEn) (hc26 mPa) (hc27 mTo) (hc28 mOt) (hc29 mNa) (hc30 mRe) (hc31 mMa) (hc32 mMy) (hc33 mPm) (hc34 mFy) (hc35 mFa) (hc36 mFr) (hc37 mFo) (hc38 mRt) (hc39 mRm) (hc40 mTt) (hc41 mTi) (hc42 mPl) (hc43 mVr) (hc44 mVf) (hc45 mVc) (hc46 mAr) (hc47 mTc) (hc48 mFt) (hc49 mGo) dyn, 0, 0)) rfl (fun h1 => ?_) (fun h1 => ?_)
    ·
      have h1 := qT_ge (cx := (nI k).toInt) (cy := (mMn).toInt) rfl rfl h1
      refine pm_go (g := (204, _, [.int c], _, 0, 0)) rfl ?_
      refine pm_go (g := (205, _, [.int 1, .int c], _, 0, 0)) rfl ?_
      refine pm_if2 (g := (213, [(7, .int (nI k)), (6, .int c), (5, .int b), (0, .ref 25), (1, .int t), (2, .int w), (3, .int f), (4, .int s)], [], hq g c1 c2 c3 c4 c5 c6 c7 c8 c9 c10 c11 c12 c13 c14 c15 c16 c17 c18 c19 c20 c21 c22 c23 c24 (hc25 mTy mTm mMn mFn mRn mTn mVn mLr mTr mFl mFm mFp mSc mMp mEn) (hc26 mPa) (hc27 mTo) (hc28 mOt) (hc29 mNa) (hc30 mRe) (hc31 mMa) (hc32 mMy) (hc33 mPm) (hc34 mFy) (hc35 mFa) (hc36 mFr) (hc37 mFo) (hc38 mRt) (hc39 mRm) (hc40 mTt) (hc41 mTi) (hc42 mPl) (hc43 mVr) (hc44 mVf) (hc45 mVc) (hc46 mAr) (hc47 mTc) (hc48 mFt) (hc49 mGo) dyn, 0, 0)) (h := (208, [(7, .int (nI k)), (6, .int c), (5, .int b), (0, .ref 25), (1, .int t), (2, .int w), (3, .int f), (4, .int s)], [], hq g c1 c2 c3 c4 c5 c6 c7 c8 c9 c10 c11 c12 c13 c14 c15 c16 c17 c18 c19 c20 c21 c22 c23 c24 (hc25 mTy mTm mMn mFn mRn mTn mVn mLr mTr mFl mFm mFp mSc mMp mEn) (hc26 mPa) (hc27 mTo) (hc28 mOt) (hc29 mNa) (hc30 mRe) (hc31 mMa) (hc32 mMy) (hc33 mPm) (hc34 mFy) (hc35 mFa) (hc36 mFr) (hc37 mFo) (hc38 mRt) (hc39 mRm) (hc40 mTt) (hc41 mTi) (hc42 mPl) (hc43 mVr) (hc44 mVf) (hc45 mVc) (hc46 mAr) (hc47 mTc) (hc48 mFt) (hc49 mGo) dyn, 0, 0)) rfl (fun h2 => ?_) (fun h2 => ?_)
      ·
        have h2 := qT_ne (cx := (c).toInt) (cy := 1) rfl (by decide) h2
        refine pm_go (g := (215, _, [.int (-5)], _, 0, 0)) rfl ?_
        exact pm_ret rfl (k0 _ (bsM_2 g3 (by omega) (by omega)))
      have h2 := qF_ne (cx := (c).toInt) (cy := 1) rfl (by decide) h2
      refine pm_go (g := (210, _, [.int b], _, 0, 0)) rfl ?_
      refine pm_go (g := (215, _, [.int b], _, 0, 0)) rfl ?_
      exact pm_ret rfl (k0 _ (bsM_1 g3 (by omega) (by omega)))
    have h1 := qF_ge (cx := (nI k).toInt) (cy := (mMn).toInt) rfl rfl h1
    refine pm_go (g := (162, _, [.ref 25], _, 0, 0)) rfl ?_
    refine pm_go (g := (165, _, [.ref 48], _, 0, 0)) rfl ?_
    refine pm_go (g := (167, _, [.int (nI k), .ref 48], _, 0, 0)) rfl ?_
    refine pm_sd (g := (168, _, [.int (mFt (nI k).toNatClampNeg)], _, 0, 0)) rfl (pm_inI (by omega) (by omega)) ?_
    refine pm_if2 (g := (196, [(7, .int (nI k)), (6, .int c), (5, .int b), (0, .ref 25), (1, .int t), (2, .int w), (3, .int f), (4, .int s)], [], hq g c1 c2 c3 c4 c5 c6 c7 c8 c9 c10 c11 c12 c13 c14 c15 c16 c17 c18 c19 c20 c21 c22 c23 c24 (hc25 mTy mTm mMn mFn mRn mTn mVn mLr mTr mFl mFm mFp mSc mMp mEn) (hc26 mPa) (hc27 mTo) (hc28 mOt) (hc29 mNa) (hc30 mRe) (hc31 mMa) (hc32 mMy) (hc33 mPm) (hc34 mFy) (hc35 mFa) (hc36 mFr) (hc37 mFo) (hc38 mRt) (hc39 mRm) (hc40 mTt) (hc41 mTi) (hc42 mPl) (hc43 mVr) (hc44 mVf) (hc45 mVc) (hc46 mAr) (hc47 mTc) (hc48 mFt) (hc49 mGo) dyn, 0, 0)) (h := (171, [(7, .int (nI k)), (6, .int c), (5, .int b), (0, .ref 25), (1, .int t), (2, .int w), (3, .int f), (4, .int s)], [], hq g c1 c2 c3 c4 c5 c6 c7 c8 c9 c10 c11 c12 c13 c14 c15 c16 c17 c18 c19 c20 c21 c22 c23 c24 (hc25 mTy mTm mMn mFn mRn mTn mVn mLr mTr mFl mFm mFp mSc mMp mEn) (hc26 mPa) (hc27 mTo) (hc28 mOt) (hc29 mNa) (hc30 mRe) (hc31 mMa) (hc32 mMy) (hc33 mPm) (hc34 mFy) (hc35 mFa) (hc36 mFr) (hc37 mFo) (hc38 mRt) (hc39 mRm) (hc40 mTt) (hc41 mTi) (hc42 mPl) (hc43 mVr) (hc44 mVf) (hc45 mVc) (hc46 mAr) (hc47 mTc) (hc48 mFt) (hc49 mGo) dyn, 0, 0)) rfl (fun h3 => ?_) (fun h3 => ?_)
    ·
      have h3 := qT_eq (cx := (mFt (nI k).toNatClampNeg).toInt) (cy := 0) rfl (by decide) h3
      refine pm_go (g := (199, [(7, .int ((nI k) + 1)), (6, .int c), (5, .int b), (0, .ref 25), (1, .int t), (2, .int w), (3, .int f), (4, .int s)], [], _, 0, 0)) rfl ?_
      refine pm_go (g := (152, _, [], _, 0, 0)) rfl ?_
      refine pm_sub (lv := [(7, .int ((nI k) + 1)), (6, .int c), (5, .int b), (0, .ref 25), (1, .int t), (2, .int w), (3, .int f), (4, .int s)]) ?_ ⟨le_c (List.Mem.head _) (le_c (List.Mem.tail _ (List.Mem.head _)) (le_c (List.Mem.tail _ (List.Mem.tail _ (List.Mem.head _))) (le_c (List.Mem.tail _ (List.Mem.tail _ (List.Mem.tail _ (List.Mem.head _)))) (le_c (List.Mem.tail _ (List.Mem.tail _ (List.Mem.tail _ (List.Mem.tail _ (List.Mem.head _))))) (le_c (List.Mem.tail _ (List.Mem.tail _ (List.Mem.tail _ (List.Mem.tail _ (List.Mem.tail _ (List.Mem.head _)))))) (le_c (List.Mem.tail _ (List.Mem.tail _ (List.Mem.tail _ (List.Mem.tail _ (List.Mem.tail _ (List.Mem.tail _ (List.Mem.head _))))))) (le_c (List.Mem.tail _ (List.Mem.tail _ (List.Mem.tail _ (List.Mem.tail _ (List.Mem.tail _ (List.Mem.tail _ (List.Mem.tail _ (List.Mem.head _)))))))) le_n))))))), (show ([7, 6, 5, 0, 1, 2, 3, 4] : List Nat).Nodup by decide)⟩
      rw [nI_1]
      exact ih (k + 1) b c (by omega) (by omega) (bsM_n g3 (by rintro ⟨q1, q2⟩; first | omega | contradiction)) k0
    have h3 := qF_eq (cx := (mFt (nI k).toNatClampNeg).toInt) (cy := 0) rfl (by decide) h3
    refine pm_go (g := (172, [(7, .int (nI k)), (6, .int c), (5, .int b), (0, .ref 25), (1, .int t), (2, .int w), (3, .int f), (4, .int s)], [.ref 25], _, 0, 0)) rfl ?_
    refine pm_go (g := (174, _, [.int (nI k), .ref 25], _, 0, 0)) rfl ?_
    refine pm_go (g := (175, _, [.ref 25, .int (nI k), .ref 25], _, 0, 0)) rfl ?_
    refine pm_go (g := (178, _, [.ref 34, .int (nI k), .ref 25], _, 0, 0)) rfl ?_
    refine pm_go (g := (179, _, [.int f, .ref 34, .int (nI k), .ref 25], _, 0, 0)) rfl ?_
    refine pm_sd (g := (180, _, [.int (mFy (f).toNatClampNeg), .int (nI k), .ref 25], _, 0, 0)) rfl (pm_inI (by omega) (by omega)) ?_
    refine pm_go (g := (182, _, [.int s, .int (mFy (f).toNatClampNeg), .int (nI k), .ref 25], _, 0, 0)) rfl ?_
    refine pm_go (g := (183, _, [.int ((mFy (f).toNatClampNeg) - s), .int (nI k), .ref 25], _, 0, 0)) rfl ?_
    try have h4 : ((mFy (f).toNatClampNeg) - s).toInt = (mFy (f).toNatClampNeg).toInt - (s).toInt := iSub (x := (mFy (f).toNatClampNeg).toInt) (y := (s).toInt) rfl rfl (by omega) (by omega)
    refine pm_callD (z := 149) (as := [.ref 25, .int (nI k), .int ((mFy (f).toNatClampNeg) - s)]) (rest := []) rfl ?_
    refine w_X12_isSpecial (nI k) ((mFy (f).toNatClampNeg) - s) (by omega) (by omega) (by omega) (by assumption) (by assumption) (by omega) (by assumption) (by omega) (fun h5 => ?_) (fun h6 => ?_)
    ·
      show pm_WP 150 (186, [(7, .int (nI k)), (6, .int c), (5, .int b), (0, .ref 25), (1, .int t), (2, .int w), (3, .int f), (4, .int s)], [.int 1], _, 0, 0) _
      refine pm_brF (h := (189, [(7, .int (nI k)), (6, .int c), (5, .int b), (0, .ref 25), (1, .int t), (2, .int w), (3, .int f), (4, .int s)], [], hq g c1 c2 c3 c4 c5 c6 c7 c8 c9 c10 c11 c12 c13 c14 c15 c16 c17 c18 c19 c20 c21 c22 c23 c24 (hc25 mTy mTm mMn mFn mRn mTn mVn mLr mTr mFl mFm mFp mSc mMp mEn) (hc26 mPa) (hc27 mTo) (hc28 mOt) (hc29 mNa) (hc30 mRe) (hc31 mMa) (hc32 mMy) (hc33 mPm) (hc34 mFy) (hc35 mFa) (hc36 mFr) (hc37 mFo) (hc38 mRt) (hc39 mRm) (hc40 mTt) (hc41 mTi) (hc42 mPl) (hc43 mVr) (hc44 mVf) (hc45 mVc) (hc46 mAr) (hc47 mTc) (hc48 mFt) (hc49 mGo) dyn, 0, 0)) rfl ?_
      refine pm_go (g := (191, _, [.int (nI k)], _, 0, 0)) rfl ?_
      refine pm_go (g := (193, [(5, .int (nI k)), (7, .int (nI k)), (6, .int c), (0, .ref 25), (1, .int t), (2, .int w), (3, .int f), (4, .int s)], [], _, 0, 0)) rfl ?_
      refine pm_go (g := (196, [(6, .int (c + 1)), (5, .int (nI k)), (7, .int (nI k)), (0, .ref 25), (1, .int t), (2, .int w), (3, .int f), (4, .int s)], [], _, 0, 0)) rfl ?_
      refine pm_go (g := (199, [(7, .int ((nI k) + 1)), (6, .int (c + 1)), (5, .int (nI k)), (0, .ref 25), (1, .int t), (2, .int w), (3, .int f), (4, .int s)], [], _, 0, 0)) rfl ?_
      refine pm_go (g := (152, _, [], _, 0, 0)) rfl ?_
      refine pm_sub (lv := [(7, .int ((nI k) + 1)), (6, .int (c + 1)), (5, .int (nI k)), (0, .ref 25), (1, .int t), (2, .int w), (3, .int f), (4, .int s)]) ?_ ⟨le_c (List.Mem.head _) (le_c (List.Mem.tail _ (List.Mem.head _)) (le_c (List.Mem.tail _ (List.Mem.tail _ (List.Mem.head _))) (le_c (List.Mem.tail _ (List.Mem.tail _ (List.Mem.tail _ (List.Mem.head _)))) (le_c (List.Mem.tail _ (List.Mem.tail _ (List.Mem.tail _ (List.Mem.tail _ (List.Mem.head _))))) (le_c (List.Mem.tail _ (List.Mem.tail _ (List.Mem.tail _ (List.Mem.tail _ (List.Mem.tail _ (List.Mem.head _)))))) (le_c (List.Mem.tail _ (List.Mem.tail _ (List.Mem.tail _ (List.Mem.tail _ (List.Mem.tail _ (List.Mem.tail _ (List.Mem.head _))))))) (le_c (List.Mem.tail _ (List.Mem.tail _ (List.Mem.tail _ (List.Mem.tail _ (List.Mem.tail _ (List.Mem.tail _ (List.Mem.tail _ (List.Mem.head _)))))))) le_n))))))), (show ([7, 6, 5, 0, 1, 2, 3, 4] : List Nat).Nodup by decide)⟩
      rw [nI_1]
      have hc1 : (c + 1).toInt = c.toInt + 1 := iAdd rfl (by decide) (by omega) (by omega)
      exact ih (k + 1) (nI k) (c + 1) (by omega) (by omega) (bsM_y g3 ⟨by omega, by assumption⟩ hc1) k0
    show pm_WP 150 (186, [(7, .int (nI k)), (6, .int c), (5, .int b), (0, .ref 25), (1, .int t), (2, .int w), (3, .int f), (4, .int s)], [.int 0], hq g c1 c2 c3 c4 c5 c6 c7 c8 c9 c10 c11 c12 c13 c14 c15 c16 c17 c18 c19 c20 c21 c22 c23 c24 (hc25 mTy mTm mMn mFn mRn mTn mVn mLr mTr mFl mFm mFp mSc mMp mEn) (hc26 mPa) (hc27 mTo) (hc28 mOt) (hc29 mNa) (hc30 mRe) (hc31 mMa) (hc32 mMy) (hc33 mPm) (hc34 mFy) (hc35 mFa) (hc36 mFr) (hc37 mFo) (hc38 mRt) (hc39 mRm) (hc40 mTt) (hc41 mTi) (hc42 mPl) (hc43 mVr) (hc44 mVf) (hc45 mVc) (hc46 mAr) (hc47 mTc) (hc48 mFt) (hc49 mGo) dyn, 0, 0) _
    refine pm_brT (g := (196, [(7, .int (nI k)), (6, .int c), (5, .int b), (0, .ref 25), (1, .int t), (2, .int w), (3, .int f), (4, .int s)], [], hq g c1 c2 c3 c4 c5 c6 c7 c8 c9 c10 c11 c12 c13 c14 c15 c16 c17 c18 c19 c20 c21 c22 c23 c24 (hc25 mTy mTm mMn mFn mRn mTn mVn mLr mTr mFl mFm mFp mSc mMp mEn) (hc26 mPa) (hc27 mTo) (hc28 mOt) (hc29 mNa) (hc30 mRe) (hc31 mMa) (hc32 mMy) (hc33 mPm) (hc34 mFy) (hc35 mFa) (hc36 mFr) (hc37 mFo) (hc38 mRt) (hc39 mRm) (hc40 mTt) (hc41 mTi) (hc42 mPl) (hc43 mVr) (hc44 mVf) (hc45 mVc) (hc46 mAr) (hc47 mTc) (hc48 mFt) (hc49 mGo) dyn, 0, 0)) rfl ?_
    refine pm_go (g := (199, [(7, .int ((nI k) + 1)), (6, .int c), (5, .int b), (0, .ref 25), (1, .int t), (2, .int w), (3, .int f), (4, .int s)], [], _, 0, 0)) rfl ?_
    refine pm_go (g := (152, _, [], _, 0, 0)) rfl ?_
    refine pm_sub (lv := [(7, .int ((nI k) + 1)), (6, .int c), (5, .int b), (0, .ref 25), (1, .int t), (2, .int w), (3, .int f), (4, .int s)]) ?_ ⟨le_c (List.Mem.head _) (le_c (List.Mem.tail _ (List.Mem.head _)) (le_c (List.Mem.tail _ (List.Mem.tail _ (List.Mem.head _))) (le_c (List.Mem.tail _ (List.Mem.tail _ (List.Mem.tail _ (List.Mem.head _)))) (le_c (List.Mem.tail _ (List.Mem.tail _ (List.Mem.tail _ (List.Mem.tail _ (List.Mem.head _))))) (le_c (List.Mem.tail _ (List.Mem.tail _ (List.Mem.tail _ (List.Mem.tail _ (List.Mem.tail _ (List.Mem.head _)))))) (le_c (List.Mem.tail _ (List.Mem.tail _ (List.Mem.tail _ (List.Mem.tail _ (List.Mem.tail _ (List.Mem.tail _ (List.Mem.head _))))))) (le_c (List.Mem.tail _ (List.Mem.tail _ (List.Mem.tail _ (List.Mem.tail _ (List.Mem.tail _ (List.Mem.tail _ (List.Mem.tail _ (List.Mem.head _)))))))) le_n))))))), (show ([7, 6, 5, 0, 1, 2, 3, 4] : List Nat).Nodup by decide)⟩
    rw [nI_1]
    exact ih (k + 1) b c (by omega) (by omega) (bsM_n g3 (by rintro ⟨q1, q2⟩; first | omega | contradiction)) k0
end
section
theorem nf_of {pa ot na my pm ma fa fy ft : Nat → Int32} {mn t w f s p : Int32} (h : ∀ j : Nat, (j : Int) < mn.toInt → ((ft j).toInt ≠ 0 ↔ fitM pa ot na my pm ma fa fy mn t w f s p j)) (hn : 0 ≤ mn.toInt) (hc : cF ft mn.toNatClampNeg = 0) : nfM pa ot na my pm ma fa fy mn t w f s p := by
  intro j q q2
  have hx := xN hn
  exact (h j q).mpr q2 (cF_0.mp hc j (by omega))
theorem nn_of {pa ot na my pm ma fa fy ft : Nat → Int32} {mn t w f s p : Int32} (h : ∀ j : Nat, (j : Int) < mn.toInt → ((ft j).toInt ≠ 0 ↔ fitM pa ot na my pm ma fa fy mn t w f s p j)) (hn : 0 ≤ mn.toInt) (hc : cF ft mn.toNatClampNeg ≠ 0) : ¬ nfM pa ot na my pm ma fa fy mn t w f s p := by
  intro q
  have hx := xN hn
  refine hc (cF_0.mpr (fun j q2 => ?_))
  by_cases e : (ft j).toInt = 0
  · exact e
  · exact absurd ((h j (by omega)).mp e) (q j (by omega))
theorem fv_of {pa ot na my pm ma fa fy ft : Nat → Int32} {mn t w f s p : Int32} (h : ∀ j : Nat, (j : Int) < mn.toInt → ((ft j).toInt ≠ 0 ↔ fitM pa ot na my pm ma fa fy mn t w f s p j)) (hn : 0 ≤ mn.toInt ∧ mn.toInt ≤ 40) (hv : vrD ma my) : fvD p my ft mn := by
  intro q j q1 q2
  have hc : (nI j).toNatClampNeg = j := nI_clamp (by omega)
  have ht := ((h j q1).mp q2).2.2.1
  rw [hc] at ht
  rcases ht with ht | ht
  · omega
  · exact hv j (by omega) ht.2.1
theorem ft_of {pa ot na my pm ma fa fy ft : Nat → Int32} {mn t w f s p : Int32} (h : ∀ j : Nat, (j : Int) < mn.toInt → ((ft j).toInt ≠ 0 ↔ fitM pa ot na my pm ma fa fy mn t w f s p j)) (hp : p.toInt ≠ 0) : ftM pa ot na my pm ma fa fy mn t w f s p ft := fun j q => ⟨fun q2 => ⟨hp, (h j q).mp q2⟩, fun q2 => (h j q).mpr q2.2⟩
theorem ft_0 {pa ot na my pm ma fa fy ft : Nat → Int32} {mn t w f s : Int32} (hn : 0 ≤ mn.toInt) (hc : cF ft mn.toNatClampNeg = 0) : ftM pa ot na my pm ma fa fy mn t w f s 0 ft := by
  intro j q
  have hx := xN hn
  have e := cF_0.mp hc j (by omega)
  exact ⟨fun q2 => absurd e q2, fun q2 => absurd (show (0 : Int32).toInt = 0 by decide) q2.1⟩
theorem bs_0 {sp : Nat → Prop} {b : Int32} : bsM sp 0 b 0 := Or.inl ⟨by decide, fun j q => absurd q (Nat.not_lt_zero j)⟩
theorem cF_z {f : Nat → Int32} (h : ∀ j : Nat, j < 40 → f j = 0) {k : Nat} (hk : k ≤ 40) : cF f k = 0 := cF_0.mpr (fun j q => by rw [h j (by omega)]; decide)
set_option maxRecDepth 100000 in
set_option maxHeartbeats 4000000 in
theorem w_X12_searched {g c1 c2 c3 c4 c5 c6 c7 c8 c9 c10 c11 c12 c13 c14 c15 c16 c17 c18 c19 c20 c21 c22 c23 c24 : pm_C} {dyn : pm_H} {mTy : Int32} {mPa : Nat → Int32} {mTo : Nat → Int32} {mTm : Int32} {mMn : Int32} {mOt : Nat → Int32} {mNa : Nat → Int32} {mRe : Nat → Int32} {mMa : Nat → Int32} {mMy : Nat → Int32} {mPm : Nat → Int32} {mFn : Int32} {mFy : Nat → Int32} {mFa : Nat → Int32} {mFr : Nat → Int32} {mRn : Int32} {mFo : Nat → Int32} {mRt : Nat → Int32} {mRm : Nat → Int32} {mTn : Int32} {mTt : Nat → Int32} {mTi : Nat → Int32} {mPl : Nat → Int32} {mVn : Int32} {mVr : Nat → Int32} {mVf : Nat → Int32} {mVc : Nat → Int32} {mAr : Nat → Int32} {mLr : Int32} {mTc : Nat → Int32} {mTr : Int32} {mFl : Int32} {mFt : Nat → Int32} {mFm : Int32} {mFp : Int32} {mSc : Int32} {mMp : Int32} {mEn : Int32} {mGo : Nat → Int32} {Q : pm_Q} (t : Int32) (w : Int32) (f : Int32) (s : Int32) (p0 : 0 ≤ f.toInt ∧ f.toInt < 10) (p1 : 0 ≤ s.toInt ∧ s.toInt ≤ 1) (p2 : s.toInt ≤ (mFy f.toNatClampNeg).toInt ∧ (mFy f.toNatClampNeg).toInt ≤ 3) (p3 : paD mPa) (p4 : myD mMy) (p5 : vrD mMa mMy) (p6 : 0 ≤ mMn.toInt ∧ mMn.toInt ≤ 40) (k0 : ∀ (f9 : Nat → Int32), ∀ (m9 : Int32), ∀ (p9 : Int32), ∀ (r9 : Int32), (srM mPa mOt mNa mMy mPm mMa mFa mFy mMn t w f s p9 r9) → (ftM mPa mOt mNa mMy mPm mMa mFa mFy mMn t w f s p9 f9) → (m9.toInt = cF f9 mMn.toNatClampNeg) → ((-5 ≤ r9.toInt ∧ r9.toInt < mMn.toInt) ∧ (0 ≤ p9.toInt ∧ p9.toInt ≤ 3)) → Q (some (.int r9)) (hq g c1 c2 c3 c4 c5 c6 c7 c8 c9 c10 c11 c12 c13 c14 c15 c16 c17 c18 c19 c20 c21 c22 c23 c24 (hc25 mTy mTm mMn mFn mRn mTn mVn mLr mTr mFl m9 p9 mSc mMp mEn) (hc26 mPa) (hc27 mTo) (hc28 mOt) (hc29 mNa) (hc30 mRe) (hc31 mMa) (hc32 mMy) (hc33 mPm) (hc34 mFy) (hc35 mFa) (hc36 mFr) (hc37 mFo) (hc38 mRt) (hc39 mRm) (hc40 mTt) (hc41 mTi) (hc42 mPl) (hc43 mVr) (hc44 mVf) (hc45 mVc) (hc46 mAr) (hc47 mTc) (hc48 f9) (hc49 mGo) dyn)) : pm_WP 150 (0, [(0, .ref 25), (1, .int t), (2, .int w), (3, .int f), (4, .int s)], [], hq g c1 c2 c3 c4 c5 c6 c7 c8 c9 c10 c11 c12 c13 c14 c15 c16 c17 c18 c19 c20 c21 c22 c23 c24 (hc25 mTy mTm mMn mFn mRn mTn mVn mLr mTr mFl mFm mFp mSc mMp mEn) (hc26 mPa) (hc27 mTo) (hc28 mOt) (hc29 mNa) (hc30 mRe) (hc31 mMa) (hc32 mMy) (hc33 mPm) (hc34 mFy) (hc35 mFa) (hc36 mFr) (hc37 mFo) (hc38 mRt) (hc39 mRm) (hc40 mTt) (hc41 mTi) (hc42 mPl) (hc43 mVr) (hc44 mVf) (hc45 mVc) (hc46 mAr) (hc47 mTc) (hc48 mFt) (hc49 mGo) dyn, 0, 0) Q := by
  have z1 : (1 : Int32).toInt = 1 := by decide
  have z2 : (2 : Int32).toInt = 2 := by decide
  have z3 : (3 : Int32).toInt = 3 := by decide
  have z4 : (4 : Int32).toInt = 4 := by decide
  have z0 : (0 : Int32).toInt = 0 := by decide
  refine pm_go (g := (1, [(0, .ref 25), (1, .int t), (2, .int w), (3, .int f), (4, .int s)], [.ref 25], hq g c1 c2 c3 c4 c5 c6 c7 c8 c9 c10 c11 c12 c13 c14 c15 c16 c17 c18 c19 c20 c21 c22 c23 c24 (hc25 mTy mTm mMn mFn mRn mTn mVn mLr mTr mFl mFm mFp mSc mMp mEn) (hc26 mPa) (hc27 mTo) (hc28 mOt) (hc29 mNa) (hc30 mRe) (hc31 mMa) (hc32 mMy) (hc33 mPm) (hc34 mFy) (hc35 mFa) (hc36 mFr) (hc37 mFo) (hc38 mRt) (hc39 mRm) (hc40 mTt) (hc41 mTi) (hc42 mPl) (hc43 mVr) (hc44 mVf) (hc45 mVc) (hc46 mAr) (hc47 mTc) (hc48 mFt) (hc49 mGo) dyn, 0, 0)) rfl ?_
  refine pm_callD (z := 151) (as := [.ref 25]) (rest := []) rfl ?_
  refine w_X12_nothingFits  (fun v1_f9 h1 => ?_)
  show pm_WP 150 (4, [(0, .ref 25), (1, .int t), (2, .int w), (3, .int f), (4, .int s)], [], _, 0, 0) _
  refine pm_go (g := (5, _, [.int 1], _, 0, 0)) rfl ?_
  refine pm_go (g := (7, [(5, .int 1), (0, .ref 25), (1, .int t), (2, .int w), (3, .int f), (4, .int s)], [], _, 0, 0)) rfl ?_
  refine pm_go (g := (9, _, [.int 1], _, 0, 0)) rfl ?_
  refine pm_go (g := (10, _, [.int 3, .int 1], _, 0, 0)) rfl ?_
  refine pm_brF (h := (13, [(5, .int 1), (0, .ref 25), (1, .int t), (2, .int w), (3, .int f), (4, .int s)], [], hq g c1 c2 c3 c4 c5 c6 c7 c8 c9 c10 c11 c12 c13 c14 c15 c16 c17 c18 c19 c20 c21 c22 c23 c24 (hc25 mTy mTm mMn mFn mRn mTn mVn mLr mTr mFl 0 0 mSc mMp mEn) (hc26 mPa) (hc27 mTo) (hc28 mOt) (hc29 mNa) (hc30 mRe) (hc31 mMa) (hc32 mMy) (hc33 mPm) (hc34 mFy) (hc35 mFa) (hc36 mFr) (hc37 mFo) (hc38 mRt) (hc39 mRm) (hc40 mTt) (hc41 mTi) (hc42 mPl) (hc43 mVr) (hc44 mVf) (hc45 mVc) (hc46 mAr) (hc47 mTc) (hc48 v1_f9) (hc49 mGo) dyn, 0, 0)) rfl ?_
  refine pm_go (g := (14, _, [.ref 25], _, 0, 0)) rfl ?_
  refine pm_go (g := (17, _, [.int 0], _, 0, 0)) rfl ?_
  refine pm_brF (h := (20, [(5, .int 1), (0, .ref 25), (1, .int t), (2, .int w), (3, .int f), (4, .int s)], [], hq g c1 c2 c3 c4 c5 c6 c7 c8 c9 c10 c11 c12 c13 c14 c15 c16 c17 c18 c19 c20 c21 c22 c23 c24 (hc25 mTy mTm mMn mFn mRn mTn mVn mLr mTr mFl 0 0 mSc mMp mEn) (hc26 mPa) (hc27 mTo) (hc28 mOt) (hc29 mNa) (hc30 mRe) (hc31 mMa) (hc32 mMy) (hc33 mPm) (hc34 mFy) (hc35 mFa) (hc36 mFr) (hc37 mFo) (hc38 mRt) (hc39 mRm) (hc40 mTt) (hc41 mTi) (hc42 mPl) (hc43 mVr) (hc44 mVf) (hc45 mVc) (hc46 mAr) (hc47 mTc) (hc48 v1_f9) (hc49 mGo) dyn, 0, 0)) rfl ?_
  refine pm_go (g := (21, _, [.int 0], _, 0, 0)) rfl ?_
  refine pm_go (g := (23, [(6, .int 0), (5, .int 1), (0, .ref 25), (1, .int t), (2, .int w), (3, .int f), (4, .int s)], [], _, 0, 0)) rfl ?_
  refine pm_sub (lv := [(6, .int 0), (5, .int 1), (0, .ref 25), (1, .int t), (2, .int w), (3, .int f), (4, .int s)]) ?_ ⟨le_c (List.Mem.head _) (le_c (List.Mem.tail _ (List.Mem.head _)) (le_c (List.Mem.tail _ (List.Mem.tail _ (List.Mem.head _))) (le_c (List.Mem.tail _ (List.Mem.tail _ (List.Mem.tail _ (List.Mem.head _)))) (le_c (List.Mem.tail _ (List.Mem.tail _ (List.Mem.tail _ (List.Mem.tail _ (List.Mem.head _))))) (le_c (List.Mem.tail _ (List.Mem.tail _ (List.Mem.tail _ (List.Mem.tail _ (List.Mem.tail _ (List.Mem.head _)))))) (le_c (List.Mem.tail _ (List.Mem.tail _ (List.Mem.tail _ (List.Mem.tail _ (List.Mem.tail _ (List.Mem.tail _ (List.Mem.head _))))))) le_n)))))), (show ([6, 5, 0, 1, 2, 3, 4] : List Nat).Nodup by decide)⟩
  refine w_searched_phase (mFm := mFm) (mFt := mFt) t w f s 1 p0 p1 p2 (by omega) p3 p4 p5 p6 41 0 v1_f9 0 (by omega) (by omega) (fun j q => absurd q (Nat.not_lt_zero j)) (by first | rfl | (show _ = (0 : Int); omega)) (fun f_1 w_1 hX1 hC1 => ?_)
  show pm_WP 150 (109, [(5, .int 1), (0, .ref 25), (1, .int t), (2, .int w), (3, .int f), (4, .int s)], [], _, 0, 0) _
  have hb1 := cF_b f_1 mMn.toNatClampNeg
  refine pm_go (g := (110, _, [.ref 25], _, 0, 0)) rfl ?_
  refine pm_go (g := (111, _, [.ref 25, .ref 25], _, 0, 0)) rfl ?_
  refine pm_go (g := (114, _, [.int w_1, .ref 25], _, 0, 0)) rfl ?_
  refine pm_if2 (g := (122, [(5, .int 1), (0, .ref 25), (1, .int t), (2, .int w), (3, .int f), (4, .int s)], [.ref 25], hq g c1 c2 c3 c4 c5 c6 c7 c8 c9 c10 c11 c12 c13 c14 c15 c16 c17 c18 c19 c20 c21 c22 c23 c24 (hc25 mTy mTm mMn mFn mRn mTn mVn mLr mTr mFl w_1 0 mSc mMp mEn) (hc26 mPa) (hc27 mTo) (hc28 mOt) (hc29 mNa) (hc30 mRe) (hc31 mMa) (hc32 mMy) (hc33 mPm) (hc34 mFy) (hc35 mFa) (hc36 mFr) (hc37 mFo) (hc38 mRt) (hc39 mRm) (hc40 mTt) (hc41 mTi) (hc42 mPl) (hc43 mVr) (hc44 mVf) (hc45 mVc) (hc46 mAr) (hc47 mTc) (hc48 f_1) (hc49 mGo) dyn, 0, 0)) (h := (117, [(5, .int 1), (0, .ref 25), (1, .int t), (2, .int w), (3, .int f), (4, .int s)], [.ref 25], hq g c1 c2 c3 c4 c5 c6 c7 c8 c9 c10 c11 c12 c13 c14 c15 c16 c17 c18 c19 c20 c21 c22 c23 c24 (hc25 mTy mTm mMn mFn mRn mTn mVn mLr mTr mFl w_1 0 mSc mMp mEn) (hc26 mPa) (hc27 mTo) (hc28 mOt) (hc29 mNa) (hc30 mRe) (hc31 mMa) (hc32 mMy) (hc33 mPm) (hc34 mFy) (hc35 mFa) (hc36 mFr) (hc37 mFo) (hc38 mRt) (hc39 mRm) (hc40 mTt) (hc41 mTi) (hc42 mPl) (hc43 mVr) (hc44 mVf) (hc45 mVc) (hc46 mAr) (hc47 mTc) (hc48 f_1) (hc49 mGo) dyn, 0, 0)) rfl (fun h3 => ?_) (fun h3 => ?_)
  ·
    have h3 := qT_le (cx := (w_1).toInt) (cy := 0) rfl (by decide) h3
    refine pm_go (g := (123, _, [.int 0, .ref 25], _, 0, 0)) rfl ?_
    refine pm_go (g := (126, _, [], _, 0, 0)) rfl ?_
    refine pm_go (g := (129, [(5, .int 2), (0, .ref 25), (1, .int t), (2, .int w), (3, .int f), (4, .int s)], [], _, 0, 0)) rfl ?_
    refine pm_go (g := (7, _, [], _, 0, 0)) rfl ?_
    refine pm_go (g := (9, _, [.int 2], _, 0, 0)) rfl ?_
    refine pm_go (g := (10, _, [.int 3, .int 2], _, 0, 0)) rfl ?_
    refine pm_brF (h := (13, [(5, .int 2), (0, .ref 25), (1, .int t), (2, .int w), (3, .int f), (4, .int s)], [], hq g c1 c2 c3 c4 c5 c6 c7 c8 c9 c10 c11 c12 c13 c14 c15 c16 c17 c18 c19 c20 c21 c22 c23 c24 (hc25 mTy mTm mMn mFn mRn mTn mVn mLr mTr mFl w_1 0 mSc mMp mEn) (hc26 mPa) (hc27 mTo) (hc28 mOt) (hc29 mNa) (hc30 mRe) (hc31 mMa) (hc32 mMy) (hc33 mPm) (hc34 mFy) (hc35 mFa) (hc36 mFr) (hc37 mFo) (hc38 mRt) (hc39 mRm) (hc40 mTt) (hc41 mTi) (hc42 mPl) (hc43 mVr) (hc44 mVf) (hc45 mVc) (hc46 mAr) (hc47 mTc) (hc48 f_1) (hc49 mGo) dyn, 0, 0)) rfl ?_
    refine pm_go (g := (14, _, [.ref 25], _, 0, 0)) rfl ?_
    refine pm_go (g := (17, _, [.int w_1], _, 0, 0)) rfl ?_
    refine pm_if2 (g := (132, [(5, .int 2), (0, .ref 25), (1, .int t), (2, .int w), (3, .int f), (4, .int s)], [], hq g c1 c2 c3 c4 c5 c6 c7 c8 c9 c10 c11 c12 c13 c14 c15 c16 c17 c18 c19 c20 c21 c22 c23 c24 (hc25 mTy mTm mMn mFn mRn mTn mVn mLr mTr mFl w_1 0 mSc mMp mEn) (hc26 mPa) (hc27 mTo) (hc28 mOt) (hc29 mNa) (hc30 mRe) (hc31 mMa) (hc32 mMy) (hc33 mPm) (hc34 mFy) (hc35 mFa) (hc36 mFr) (hc37 mFo) (hc38 mRt) (hc39 mRm) (hc40 mTt) (hc41 mTi) (hc42 mPl) (hc43 mVr) (hc44 mVf) (hc45 mVc) (hc46 mAr) (hc47 mTc) (hc48 f_1) (hc49 mGo) dyn, 0, 0)) (h := (20, [(5, .int 2), (0, .ref 25), (1, .int t), (2, .int w), (3, .int f), (4, .int s)], [], hq g c1 c2 c3 c4 c5 c6 c7 c8 c9 c10 c11 c12 c13 c14 c15 c16 c17 c18 c19 c20 c21 c22 c23 c24 (hc25 mTy mTm mMn mFn mRn mTn mVn mLr mTr mFl w_1 0 mSc mMp mEn) (hc26 mPa) (hc27 mTo) (hc28 mOt) (hc29 mNa) (hc30 mRe) (hc31 mMa) (hc32 mMy) (hc33 mPm) (hc34 mFy) (hc35 mFa) (hc36 mFr) (hc37 mFo) (hc38 mRt) (hc39 mRm) (hc40 mTt) (hc41 mTi) (hc42 mPl) (hc43 mVr) (hc44 mVf) (hc45 mVc) (hc46 mAr) (hc47 mTc) (hc48 f_1) (hc49 mGo) dyn, 0, 0)) rfl (fun h4 => ?_) (fun h4 => ?_)
    ·
      have h4 := qT_ne (cx := (w_1).toInt) (cy := 0) rfl (by decide) h4
      refine pm_go (g := (133, _, [.ref 25], _, 0, 0)) rfl ?_
      refine pm_go (g := (136, _, [.int w_1], _, 0, 0)) rfl ?_
      refine pm_if2 (g := (142, [(5, .int 2), (0, .ref 25), (1, .int t), (2, .int w), (3, .int f), (4, .int s)], [], hq g c1 c2 c3 c4 c5 c6 c7 c8 c9 c10 c11 c12 c13 c14 c15 c16 c17 c18 c19 c20 c21 c22 c23 c24 (hc25 mTy mTm mMn mFn mRn mTn mVn mLr mTr mFl w_1 0 mSc mMp mEn) (hc26 mPa) (hc27 mTo) (hc28 mOt) (hc29 mNa) (hc30 mRe) (hc31 mMa) (hc32 mMy) (hc33 mPm) (hc34 mFy) (hc35 mFa) (hc36 mFr) (hc37 mFo) (hc38 mRt) (hc39 mRm) (hc40 mTt) (hc41 mTi) (hc42 mPl) (hc43 mVr) (hc44 mVf) (hc45 mVc) (hc46 mAr) (hc47 mTc) (hc48 f_1) (hc49 mGo) dyn, 0, 0)) (h := (139, [(5, .int 2), (0, .ref 25), (1, .int t), (2, .int w), (3, .int f), (4, .int s)], [], hq g c1 c2 c3 c4 c5 c6 c7 c8 c9 c10 c11 c12 c13 c14 c15 c16 c17 c18 c19 c20 c21 c22 c23 c24 (hc25 mTy mTm mMn mFn mRn mTn mVn mLr mTr mFl w_1 0 mSc mMp mEn) (hc26 mPa) (hc27 mTo) (hc28 mOt) (hc29 mNa) (hc30 mRe) (hc31 mMa) (hc32 mMy) (hc33 mPm) (hc34 mFy) (hc35 mFa) (hc36 mFr) (hc37 mFo) (hc38 mRt) (hc39 mRm) (hc40 mTt) (hc41 mTi) (hc42 mPl) (hc43 mVr) (hc44 mVf) (hc45 mVc) (hc46 mAr) (hc47 mTc) (hc48 f_1) (hc49 mGo) dyn, 0, 0)) rfl (fun h5 => ?_) (fun h5 => ?_)
      ·
        have h5 := qT_ne (cx := (w_1).toInt) (cy := 0) rfl (by decide) h5
        refine pm_go (g := (144, _, [.int (-4)], _, 0, 0)) rfl ?_
        refine pm_go (g := (146, [(5, .int (-4)), (0, .ref 25), (1, .int t), (2, .int w), (3, .int f), (4, .int s)], [], _, 0, 0)) rfl ?_
        refine pm_go (g := (147, _, [.int 0], _, 0, 0)) rfl ?_
        refine pm_go (g := (149, [(6, .int 0), (5, .int (-4)), (0, .ref 25), (1, .int t), (2, .int w), (3, .int f), (4, .int s)], [], _, 0, 0)) rfl ?_
        refine pm_go (g := (150, _, [.int 0], _, 0, 0)) rfl ?_
        refine pm_go (g := (152, [(7, .int 0), (6, .int 0), (5, .int (-4)), (0, .ref 25), (1, .int t), (2, .int w), (3, .int f), (4, .int s)], [], _, 0, 0)) rfl ?_
        exfalso; omega
      have h5 := qF_ne (cx := (w_1).toInt) (cy := 0) rfl (by decide) h5
      refine pm_go (g := (141, [(5, .int 2), (0, .ref 25), (1, .int t), (2, .int w), (3, .int f), (4, .int s)], [.int (-4)], _, 0, 0)) rfl ?_
      exfalso; omega
    have h4 := qF_ne (cx := (w_1).toInt) (cy := 0) rfl (by decide) h4
    refine pm_go (g := (21, _, [.int 0], _, 0, 0)) rfl ?_
    refine pm_go (g := (23, [(6, .int 0), (5, .int 2), (0, .ref 25), (1, .int t), (2, .int w), (3, .int f), (4, .int s)], [], _, 0, 0)) rfl ?_
    refine pm_sub (lv := [(6, .int 0), (5, .int 2), (0, .ref 25), (1, .int t), (2, .int w), (3, .int f), (4, .int s)]) ?_ ⟨le_c (List.Mem.head _) (le_c (List.Mem.tail _ (List.Mem.head _)) (le_c (List.Mem.tail _ (List.Mem.tail _ (List.Mem.head _))) (le_c (List.Mem.tail _ (List.Mem.tail _ (List.Mem.tail _ (List.Mem.head _)))) (le_c (List.Mem.tail _ (List.Mem.tail _ (List.Mem.tail _ (List.Mem.tail _ (List.Mem.head _))))) (le_c (List.Mem.tail _ (List.Mem.tail _ (List.Mem.tail _ (List.Mem.tail _ (List.Mem.tail _ (List.Mem.head _)))))) (le_c (List.Mem.tail _ (List.Mem.tail _ (List.Mem.tail _ (List.Mem.tail _ (List.Mem.tail _ (List.Mem.tail _ (List.Mem.head _))))))) le_n)))))), (show ([6, 5, 0, 1, 2, 3, 4] : List Nat).Nodup by decide)⟩
    refine w_searched_phase (mFm := mFm) (mFt := mFt) t w f s 2 p0 p1 p2 (by omega) p3 p4 p5 p6 41 0 f_1 w_1 (by omega) (by omega) (fun j q => absurd q (Nat.not_lt_zero j)) (by first | rfl | (show _ = (0 : Int); omega)) (fun f_2 w_2 hX2 hC2 => ?_)
    show pm_WP 150 (109, [(5, .int 2), (0, .ref 25), (1, .int t), (2, .int w), (3, .int f), (4, .int s)], [], _, 0, 0) _
    have hb2 := cF_b f_2 mMn.toNatClampNeg
    refine pm_go (g := (110, _, [.ref 25], _, 0, 0)) rfl ?_
    refine pm_go (g := (111, _, [.ref 25, .ref 25], _, 0, 0)) rfl ?_
    refine pm_go (g := (114, _, [.int w_2, .ref 25], _, 0, 0)) rfl ?_
    refine pm_if2 (g := (122, [(5, .int 2), (0, .ref 25), (1, .int t), (2, .int w), (3, .int f), (4, .int s)], [.ref 25], hq g c1 c2 c3 c4 c5 c6 c7 c8 c9 c10 c11 c12 c13 c14 c15 c16 c17 c18 c19 c20 c21 c22 c23 c24 (hc25 mTy mTm mMn mFn mRn mTn mVn mLr mTr mFl w_2 0 mSc mMp mEn) (hc26 mPa) (hc27 mTo) (hc28 mOt) (hc29 mNa) (hc30 mRe) (hc31 mMa) (hc32 mMy) (hc33 mPm) (hc34 mFy) (hc35 mFa) (hc36 mFr) (hc37 mFo) (hc38 mRt) (hc39 mRm) (hc40 mTt) (hc41 mTi) (hc42 mPl) (hc43 mVr) (hc44 mVf) (hc45 mVc) (hc46 mAr) (hc47 mTc) (hc48 f_2) (hc49 mGo) dyn, 0, 0)) (h := (117, [(5, .int 2), (0, .ref 25), (1, .int t), (2, .int w), (3, .int f), (4, .int s)], [.ref 25], hq g c1 c2 c3 c4 c5 c6 c7 c8 c9 c10 c11 c12 c13 c14 c15 c16 c17 c18 c19 c20 c21 c22 c23 c24 (hc25 mTy mTm mMn mFn mRn mTn mVn mLr mTr mFl w_2 0 mSc mMp mEn) (hc26 mPa) (hc27 mTo) (hc28 mOt) (hc29 mNa) (hc30 mRe) (hc31 mMa) (hc32 mMy) (hc33 mPm) (hc34 mFy) (hc35 mFa) (hc36 mFr) (hc37 mFo) (hc38 mRt) (hc39 mRm) (hc40 mTt) (hc41 mTi) (hc42 mPl) (hc43 mVr) (hc44 mVf) (hc45 mVc) (hc46 mAr) (hc47 mTc) (hc48 f_2) (hc49 mGo) dyn, 0, 0)) rfl (fun h6 => ?_) (fun h6 => ?_)
    ·
      have h6 := qT_le (cx := (w_2).toInt) (cy := 0) rfl (by decide) h6
      refine pm_go (g := (123, _, [.int 0, .ref 25], _, 0, 0)) rfl ?_
      refine pm_go (g := (126, _, [], _, 0, 0)) rfl ?_
      refine pm_go (g := (129, [(5, .int 3), (0, .ref 25), (1, .int t), (2, .int w), (3, .int f), (4, .int s)], [], _, 0, 0)) rfl ?_
      refine pm_go (g := (7, _, [], _, 0, 0)) rfl ?_
      refine pm_go (g := (9, _, [.int 3], _, 0, 0)) rfl ?_
      refine pm_go (g := (10, _, [.int 3, .int 3], _, 0, 0)) rfl ?_
      refine pm_brF (h := (13, [(5, .int 3), (0, .ref 25), (1, .int t), (2, .int w), (3, .int f), (4, .int s)], [], hq g c1 c2 c3 c4 c5 c6 c7 c8 c9 c10 c11 c12 c13 c14 c15 c16 c17 c18 c19 c20 c21 c22 c23 c24 (hc25 mTy mTm mMn mFn mRn mTn mVn mLr mTr mFl w_2 0 mSc mMp mEn) (hc26 mPa) (hc27 mTo) (hc28 mOt) (hc29 mNa) (hc30 mRe) (hc31 mMa) (hc32 mMy) (hc33 mPm) (hc34 mFy) (hc35 mFa) (hc36 mFr) (hc37 mFo) (hc38 mRt) (hc39 mRm) (hc40 mTt) (hc41 mTi) (hc42 mPl) (hc43 mVr) (hc44 mVf) (hc45 mVc) (hc46 mAr) (hc47 mTc) (hc48 f_2) (hc49 mGo) dyn, 0, 0)) rfl ?_
      refine pm_go (g := (14, _, [.ref 25], _, 0, 0)) rfl ?_
      refine pm_go (g := (17, _, [.int w_2], _, 0, 0)) rfl ?_
      refine pm_if2 (g := (132, [(5, .int 3), (0, .ref 25), (1, .int t), (2, .int w), (3, .int f), (4, .int s)], [], hq g c1 c2 c3 c4 c5 c6 c7 c8 c9 c10 c11 c12 c13 c14 c15 c16 c17 c18 c19 c20 c21 c22 c23 c24 (hc25 mTy mTm mMn mFn mRn mTn mVn mLr mTr mFl w_2 0 mSc mMp mEn) (hc26 mPa) (hc27 mTo) (hc28 mOt) (hc29 mNa) (hc30 mRe) (hc31 mMa) (hc32 mMy) (hc33 mPm) (hc34 mFy) (hc35 mFa) (hc36 mFr) (hc37 mFo) (hc38 mRt) (hc39 mRm) (hc40 mTt) (hc41 mTi) (hc42 mPl) (hc43 mVr) (hc44 mVf) (hc45 mVc) (hc46 mAr) (hc47 mTc) (hc48 f_2) (hc49 mGo) dyn, 0, 0)) (h := (20, [(5, .int 3), (0, .ref 25), (1, .int t), (2, .int w), (3, .int f), (4, .int s)], [], hq g c1 c2 c3 c4 c5 c6 c7 c8 c9 c10 c11 c12 c13 c14 c15 c16 c17 c18 c19 c20 c21 c22 c23 c24 (hc25 mTy mTm mMn mFn mRn mTn mVn mLr mTr mFl w_2 0 mSc mMp mEn) (hc26 mPa) (hc27 mTo) (hc28 mOt) (hc29 mNa) (hc30 mRe) (hc31 mMa) (hc32 mMy) (hc33 mPm) (hc34 mFy) (hc35 mFa) (hc36 mFr) (hc37 mFo) (hc38 mRt) (hc39 mRm) (hc40 mTt) (hc41 mTi) (hc42 mPl) (hc43 mVr) (hc44 mVf) (hc45 mVc) (hc46 mAr) (hc47 mTc) (hc48 f_2) (hc49 mGo) dyn, 0, 0)) rfl (fun h7 => ?_) (fun h7 => ?_)
      ·
        have h7 := qT_ne (cx := (w_2).toInt) (cy := 0) rfl (by decide) h7
        refine pm_go (g := (133, _, [.ref 25], _, 0, 0)) rfl ?_
        refine pm_go (g := (136, _, [.int w_2], _, 0, 0)) rfl ?_
        refine pm_if2 (g := (142, [(5, .int 3), (0, .ref 25), (1, .int t), (2, .int w), (3, .int f), (4, .int s)], [], hq g c1 c2 c3 c4 c5 c6 c7 c8 c9 c10 c11 c12 c13 c14 c15 c16 c17 c18 c19 c20 c21 c22 c23 c24 (hc25 mTy mTm mMn mFn mRn mTn mVn mLr mTr mFl w_2 0 mSc mMp mEn) (hc26 mPa) (hc27 mTo) (hc28 mOt) (hc29 mNa) (hc30 mRe) (hc31 mMa) (hc32 mMy) (hc33 mPm) (hc34 mFy) (hc35 mFa) (hc36 mFr) (hc37 mFo) (hc38 mRt) (hc39 mRm) (hc40 mTt) (hc41 mTi) (hc42 mPl) (hc43 mVr) (hc44 mVf) (hc45 mVc) (hc46 mAr) (hc47 mTc) (hc48 f_2) (hc49 mGo) dyn, 0, 0)) (h := (139, [(5, .int 3), (0, .ref 25), (1, .int t), (2, .int w), (3, .int f), (4, .int s)], [], hq g c1 c2 c3 c4 c5 c6 c7 c8 c9 c10 c11 c12 c13 c14 c15 c16 c17 c18 c19 c20 c21 c22 c23 c24 (hc25 mTy mTm mMn mFn mRn mTn mVn mLr mTr mFl w_2 0 mSc mMp mEn) (hc26 mPa) (hc27 mTo) (hc28 mOt) (hc29 mNa) (hc30 mRe) (hc31 mMa) (hc32 mMy) (hc33 mPm) (hc34 mFy) (hc35 mFa) (hc36 mFr) (hc37 mFo) (hc38 mRt) (hc39 mRm) (hc40 mTt) (hc41 mTi) (hc42 mPl) (hc43 mVr) (hc44 mVf) (hc45 mVc) (hc46 mAr) (hc47 mTc) (hc48 f_2) (hc49 mGo) dyn, 0, 0)) rfl (fun h8 => ?_) (fun h8 => ?_)
        ·
          have h8 := qT_ne (cx := (w_2).toInt) (cy := 0) rfl (by decide) h8
          refine pm_go (g := (144, _, [.int (-4)], _, 0, 0)) rfl ?_
          refine pm_go (g := (146, [(5, .int (-4)), (0, .ref 25), (1, .int t), (2, .int w), (3, .int f), (4, .int s)], [], _, 0, 0)) rfl ?_
          refine pm_go (g := (147, _, [.int 0], _, 0, 0)) rfl ?_
          refine pm_go (g := (149, [(6, .int 0), (5, .int (-4)), (0, .ref 25), (1, .int t), (2, .int w), (3, .int f), (4, .int s)], [], _, 0, 0)) rfl ?_
          refine pm_go (g := (150, _, [.int 0], _, 0, 0)) rfl ?_
          refine pm_go (g := (152, [(7, .int 0), (6, .int 0), (5, .int (-4)), (0, .ref 25), (1, .int t), (2, .int w), (3, .int f), (4, .int s)], [], _, 0, 0)) rfl ?_
          exfalso; omega
        have h8 := qF_ne (cx := (w_2).toInt) (cy := 0) rfl (by decide) h8
        refine pm_go (g := (141, [(5, .int 3), (0, .ref 25), (1, .int t), (2, .int w), (3, .int f), (4, .int s)], [.int (-4)], _, 0, 0)) rfl ?_
        exfalso; omega
      have h7 := qF_ne (cx := (w_2).toInt) (cy := 0) rfl (by decide) h7
      refine pm_go (g := (21, _, [.int 0], _, 0, 0)) rfl ?_
      refine pm_go (g := (23, [(6, .int 0), (5, .int 3), (0, .ref 25), (1, .int t), (2, .int w), (3, .int f), (4, .int s)], [], _, 0, 0)) rfl ?_
      refine pm_sub (lv := [(6, .int 0), (5, .int 3), (0, .ref 25), (1, .int t), (2, .int w), (3, .int f), (4, .int s)]) ?_ ⟨le_c (List.Mem.head _) (le_c (List.Mem.tail _ (List.Mem.head _)) (le_c (List.Mem.tail _ (List.Mem.tail _ (List.Mem.head _))) (le_c (List.Mem.tail _ (List.Mem.tail _ (List.Mem.tail _ (List.Mem.head _)))) (le_c (List.Mem.tail _ (List.Mem.tail _ (List.Mem.tail _ (List.Mem.tail _ (List.Mem.head _))))) (le_c (List.Mem.tail _ (List.Mem.tail _ (List.Mem.tail _ (List.Mem.tail _ (List.Mem.tail _ (List.Mem.head _)))))) (le_c (List.Mem.tail _ (List.Mem.tail _ (List.Mem.tail _ (List.Mem.tail _ (List.Mem.tail _ (List.Mem.tail _ (List.Mem.head _))))))) le_n)))))), (show ([6, 5, 0, 1, 2, 3, 4] : List Nat).Nodup by decide)⟩
      refine w_searched_phase (mFm := mFm) (mFt := mFt) t w f s 3 p0 p1 p2 (by omega) p3 p4 p5 p6 41 0 f_2 w_2 (by omega) (by omega) (fun j q => absurd q (Nat.not_lt_zero j)) (by first | rfl | (show _ = (0 : Int); omega)) (fun f_3 w_3 hX3 hC3 => ?_)
      show pm_WP 150 (109, [(5, .int 3), (0, .ref 25), (1, .int t), (2, .int w), (3, .int f), (4, .int s)], [], _, 0, 0) _
      have hb3 := cF_b f_3 mMn.toNatClampNeg
      refine pm_go (g := (110, _, [.ref 25], _, 0, 0)) rfl ?_
      refine pm_go (g := (111, _, [.ref 25, .ref 25], _, 0, 0)) rfl ?_
      refine pm_go (g := (114, _, [.int w_3, .ref 25], _, 0, 0)) rfl ?_
      refine pm_if2 (g := (122, [(5, .int 3), (0, .ref 25), (1, .int t), (2, .int w), (3, .int f), (4, .int s)], [.ref 25], hq g c1 c2 c3 c4 c5 c6 c7 c8 c9 c10 c11 c12 c13 c14 c15 c16 c17 c18 c19 c20 c21 c22 c23 c24 (hc25 mTy mTm mMn mFn mRn mTn mVn mLr mTr mFl w_3 0 mSc mMp mEn) (hc26 mPa) (hc27 mTo) (hc28 mOt) (hc29 mNa) (hc30 mRe) (hc31 mMa) (hc32 mMy) (hc33 mPm) (hc34 mFy) (hc35 mFa) (hc36 mFr) (hc37 mFo) (hc38 mRt) (hc39 mRm) (hc40 mTt) (hc41 mTi) (hc42 mPl) (hc43 mVr) (hc44 mVf) (hc45 mVc) (hc46 mAr) (hc47 mTc) (hc48 f_3) (hc49 mGo) dyn, 0, 0)) (h := (117, [(5, .int 3), (0, .ref 25), (1, .int t), (2, .int w), (3, .int f), (4, .int s)], [.ref 25], hq g c1 c2 c3 c4 c5 c6 c7 c8 c9 c10 c11 c12 c13 c14 c15 c16 c17 c18 c19 c20 c21 c22 c23 c24 (hc25 mTy mTm mMn mFn mRn mTn mVn mLr mTr mFl w_3 0 mSc mMp mEn) (hc26 mPa) (hc27 mTo) (hc28 mOt) (hc29 mNa) (hc30 mRe) (hc31 mMa) (hc32 mMy) (hc33 mPm) (hc34 mFy) (hc35 mFa) (hc36 mFr) (hc37 mFo) (hc38 mRt) (hc39 mRm) (hc40 mTt) (hc41 mTi) (hc42 mPl) (hc43 mVr) (hc44 mVf) (hc45 mVc) (hc46 mAr) (hc47 mTc) (hc48 f_3) (hc49 mGo) dyn, 0, 0)) rfl (fun h9 => ?_) (fun h9 => ?_)
      ·
        have h9 := qT_le (cx := (w_3).toInt) (cy := 0) rfl (by decide) h9
        refine pm_go (g := (123, _, [.int 0, .ref 25], _, 0, 0)) rfl ?_
        refine pm_go (g := (126, _, [], _, 0, 0)) rfl ?_
        refine pm_go (g := (129, [(5, .int 4), (0, .ref 25), (1, .int t), (2, .int w), (3, .int f), (4, .int s)], [], _, 0, 0)) rfl ?_
        refine pm_go (g := (7, _, [], _, 0, 0)) rfl ?_
        refine pm_go (g := (9, _, [.int 4], _, 0, 0)) rfl ?_
        refine pm_go (g := (10, _, [.int 3, .int 4], _, 0, 0)) rfl ?_
        refine pm_brT (g := (132, [(5, .int 4), (0, .ref 25), (1, .int t), (2, .int w), (3, .int f), (4, .int s)], [], hq g c1 c2 c3 c4 c5 c6 c7 c8 c9 c10 c11 c12 c13 c14 c15 c16 c17 c18 c19 c20 c21 c22 c23 c24 (hc25 mTy mTm mMn mFn mRn mTn mVn mLr mTr mFl w_3 0 mSc mMp mEn) (hc26 mPa) (hc27 mTo) (hc28 mOt) (hc29 mNa) (hc30 mRe) (hc31 mMa) (hc32 mMy) (hc33 mPm) (hc34 mFy) (hc35 mFa) (hc36 mFr) (hc37 mFo) (hc38 mRt) (hc39 mRm) (hc40 mTt) (hc41 mTi) (hc42 mPl) (hc43 mVr) (hc44 mVf) (hc45 mVc) (hc46 mAr) (hc47 mTc) (hc48 f_3) (hc49 mGo) dyn, 0, 0)) rfl ?_
        refine pm_go (g := (133, _, [.ref 25], _, 0, 0)) rfl ?_
        refine pm_go (g := (136, _, [.int w_3], _, 0, 0)) rfl ?_
        refine pm_if2 (g := (142, [(5, .int 4), (0, .ref 25), (1, .int t), (2, .int w), (3, .int f), (4, .int s)], [], hq g c1 c2 c3 c4 c5 c6 c7 c8 c9 c10 c11 c12 c13 c14 c15 c16 c17 c18 c19 c20 c21 c22 c23 c24 (hc25 mTy mTm mMn mFn mRn mTn mVn mLr mTr mFl w_3 0 mSc mMp mEn) (hc26 mPa) (hc27 mTo) (hc28 mOt) (hc29 mNa) (hc30 mRe) (hc31 mMa) (hc32 mMy) (hc33 mPm) (hc34 mFy) (hc35 mFa) (hc36 mFr) (hc37 mFo) (hc38 mRt) (hc39 mRm) (hc40 mTt) (hc41 mTi) (hc42 mPl) (hc43 mVr) (hc44 mVf) (hc45 mVc) (hc46 mAr) (hc47 mTc) (hc48 f_3) (hc49 mGo) dyn, 0, 0)) (h := (139, [(5, .int 4), (0, .ref 25), (1, .int t), (2, .int w), (3, .int f), (4, .int s)], [], hq g c1 c2 c3 c4 c5 c6 c7 c8 c9 c10 c11 c12 c13 c14 c15 c16 c17 c18 c19 c20 c21 c22 c23 c24 (hc25 mTy mTm mMn mFn mRn mTn mVn mLr mTr mFl w_3 0 mSc mMp mEn) (hc26 mPa) (hc27 mTo) (hc28 mOt) (hc29 mNa) (hc30 mRe) (hc31 mMa) (hc32 mMy) (hc33 mPm) (hc34 mFy) (hc35 mFa) (hc36 mFr) (hc37 mFo) (hc38 mRt) (hc39 mRm) (hc40 mTt) (hc41 mTi) (hc42 mPl) (hc43 mVr) (hc44 mVf) (hc45 mVc) (hc46 mAr) (hc47 mTc) (hc48 f_3) (hc49 mGo) dyn, 0, 0)) rfl (fun h10 => ?_) (fun h10 => ?_)
        ·
          have h10 := qT_ne (cx := (w_3).toInt) (cy := 0) rfl (by decide) h10
          refine pm_go (g := (144, _, [.int (-4)], _, 0, 0)) rfl ?_
          refine pm_go (g := (146, [(5, .int (-4)), (0, .ref 25), (1, .int t), (2, .int w), (3, .int f), (4, .int s)], [], _, 0, 0)) rfl ?_
          refine pm_go (g := (147, _, [.int 0], _, 0, 0)) rfl ?_
          refine pm_go (g := (149, [(6, .int 0), (5, .int (-4)), (0, .ref 25), (1, .int t), (2, .int w), (3, .int f), (4, .int s)], [], _, 0, 0)) rfl ?_
          refine pm_go (g := (150, _, [.int 0], _, 0, 0)) rfl ?_
          refine pm_go (g := (152, [(7, .int 0), (6, .int 0), (5, .int (-4)), (0, .ref 25), (1, .int t), (2, .int w), (3, .int f), (4, .int s)], [], _, 0, 0)) rfl ?_
          exfalso; omega
        have h10 := qF_ne (cx := (w_3).toInt) (cy := 0) rfl (by decide) h10
        refine pm_go (g := (141, [(5, .int 4), (0, .ref 25), (1, .int t), (2, .int w), (3, .int f), (4, .int s)], [.int (-4)], _, 0, 0)) rfl ?_
        have hsr : srM mPa mOt mNa mMy mPm mMa mFa mFy mMn t w f s 0 (-4) := Or.inl ⟨rfl, rfl, nf_of hX1 p6.1 (by omega), nf_of hX2 p6.1 (by omega), nf_of hX3 p6.1 (by omega)⟩
        exact pm_ret rfl (k0 f_3 w_3 0 (-4) hsr (ft_0 p6.1 (by omega)) hC3 (srM_b p6 hsr))
      have h9 := qF_le (cx := (w_3).toInt) (cy := 0) rfl (by decide) h9
      refine pm_go (g := (119, [(5, .int 3), (0, .ref 25), (1, .int t), (2, .int w), (3, .int f), (4, .int s)], [.int 3, .ref 25], _, 0, 0)) rfl ?_
      refine pm_go (g := (123, _, [.int 3, .ref 25], _, 0, 0)) rfl ?_
      refine pm_go (g := (126, _, [], hq g c1 c2 c3 c4 c5 c6 c7 c8 c9 c10 c11 c12 c13 c14 c15 c16 c17 c18 c19 c20 c21 c22 c23 c24 (hc25 mTy mTm mMn mFn mRn mTn mVn mLr mTr mFl w_3 3 mSc mMp mEn) (hc26 mPa) (hc27 mTo) (hc28 mOt) (hc29 mNa) (hc30 mRe) (hc31 mMa) (hc32 mMy) (hc33 mPm) (hc34 mFy) (hc35 mFa) (hc36 mFr) (hc37 mFo) (hc38 mRt) (hc39 mRm) (hc40 mTt) (hc41 mTi) (hc42 mPl) (hc43 mVr) (hc44 mVf) (hc45 mVc) (hc46 mAr) (hc47 mTc) (hc48 f_3) (hc49 mGo) dyn, 0, 0)) rfl ?_
      refine pm_go (g := (129, [(5, .int 4), (0, .ref 25), (1, .int t), (2, .int w), (3, .int f), (4, .int s)], [], _, 0, 0)) rfl ?_
      refine pm_go (g := (7, _, [], _, 0, 0)) rfl ?_
      refine pm_go (g := (9, _, [.int 4], _, 0, 0)) rfl ?_
      refine pm_go (g := (10, _, [.int 3, .int 4], _, 0, 0)) rfl ?_
      refine pm_brT (g := (132, [(5, .int 4), (0, .ref 25), (1, .int t), (2, .int w), (3, .int f), (4, .int s)], [], hq g c1 c2 c3 c4 c5 c6 c7 c8 c9 c10 c11 c12 c13 c14 c15 c16 c17 c18 c19 c20 c21 c22 c23 c24 (hc25 mTy mTm mMn mFn mRn mTn mVn mLr mTr mFl w_3 3 mSc mMp mEn) (hc26 mPa) (hc27 mTo) (hc28 mOt) (hc29 mNa) (hc30 mRe) (hc31 mMa) (hc32 mMy) (hc33 mPm) (hc34 mFy) (hc35 mFa) (hc36 mFr) (hc37 mFo) (hc38 mRt) (hc39 mRm) (hc40 mTt) (hc41 mTi) (hc42 mPl) (hc43 mVr) (hc44 mVf) (hc45 mVc) (hc46 mAr) (hc47 mTc) (hc48 f_3) (hc49 mGo) dyn, 0, 0)) rfl ?_
      refine pm_go (g := (133, _, [.ref 25], _, 0, 0)) rfl ?_
      refine pm_go (g := (136, _, [.int w_3], _, 0, 0)) rfl ?_
      refine pm_if2 (g := (142, [(5, .int 4), (0, .ref 25), (1, .int t), (2, .int w), (3, .int f), (4, .int s)], [], hq g c1 c2 c3 c4 c5 c6 c7 c8 c9 c10 c11 c12 c13 c14 c15 c16 c17 c18 c19 c20 c21 c22 c23 c24 (hc25 mTy mTm mMn mFn mRn mTn mVn mLr mTr mFl w_3 3 mSc mMp mEn) (hc26 mPa) (hc27 mTo) (hc28 mOt) (hc29 mNa) (hc30 mRe) (hc31 mMa) (hc32 mMy) (hc33 mPm) (hc34 mFy) (hc35 mFa) (hc36 mFr) (hc37 mFo) (hc38 mRt) (hc39 mRm) (hc40 mTt) (hc41 mTi) (hc42 mPl) (hc43 mVr) (hc44 mVf) (hc45 mVc) (hc46 mAr) (hc47 mTc) (hc48 f_3) (hc49 mGo) dyn, 0, 0)) (h := (139, [(5, .int 4), (0, .ref 25), (1, .int t), (2, .int w), (3, .int f), (4, .int s)], [], hq g c1 c2 c3 c4 c5 c6 c7 c8 c9 c10 c11 c12 c13 c14 c15 c16 c17 c18 c19 c20 c21 c22 c23 c24 (hc25 mTy mTm mMn mFn mRn mTn mVn mLr mTr mFl w_3 3 mSc mMp mEn) (hc26 mPa) (hc27 mTo) (hc28 mOt) (hc29 mNa) (hc30 mRe) (hc31 mMa) (hc32 mMy) (hc33 mPm) (hc34 mFy) (hc35 mFa) (hc36 mFr) (hc37 mFo) (hc38 mRt) (hc39 mRm) (hc40 mTt) (hc41 mTi) (hc42 mPl) (hc43 mVr) (hc44 mVf) (hc45 mVc) (hc46 mAr) (hc47 mTc) (hc48 f_3) (hc49 mGo) dyn, 0, 0)) rfl (fun h11 => ?_) (fun h11 => ?_)
      ·
        have h11 := qT_ne (cx := (w_3).toInt) (cy := 0) rfl (by decide) h11
        refine pm_go (g := (144, _, [.int (-4)], _, 0, 0)) rfl ?_
        refine pm_go (g := (146, [(5, .int (-4)), (0, .ref 25), (1, .int t), (2, .int w), (3, .int f), (4, .int s)], [], _, 0, 0)) rfl ?_
        refine pm_go (g := (147, _, [.int 0], _, 0, 0)) rfl ?_
        refine pm_go (g := (149, [(6, .int 0), (5, .int (-4)), (0, .ref 25), (1, .int t), (2, .int w), (3, .int f), (4, .int s)], [], _, 0, 0)) rfl ?_
        refine pm_go (g := (150, _, [.int 0], _, 0, 0)) rfl ?_
        refine pm_go (g := (152, [(7, .int 0), (6, .int 0), (5, .int (-4)), (0, .ref 25), (1, .int t), (2, .int w), (3, .int f), (4, .int s)], [], _, 0, 0)) rfl ?_
        refine pm_sub (lv := [(7, .int 0), (6, .int 0), (5, .int (-4)), (0, .ref 25), (1, .int t), (2, .int w), (3, .int f), (4, .int s)]) ?_ ⟨le_c (List.Mem.head _) (le_c (List.Mem.tail _ (List.Mem.head _)) (le_c (List.Mem.tail _ (List.Mem.tail _ (List.Mem.head _))) (le_c (List.Mem.tail _ (List.Mem.tail _ (List.Mem.tail _ (List.Mem.head _)))) (le_c (List.Mem.tail _ (List.Mem.tail _ (List.Mem.tail _ (List.Mem.tail _ (List.Mem.head _))))) (le_c (List.Mem.tail _ (List.Mem.tail _ (List.Mem.tail _ (List.Mem.tail _ (List.Mem.tail _ (List.Mem.head _)))))) (le_c (List.Mem.tail _ (List.Mem.tail _ (List.Mem.tail _ (List.Mem.tail _ (List.Mem.tail _ (List.Mem.tail _ (List.Mem.head _))))))) (le_c (List.Mem.tail _ (List.Mem.tail _ (List.Mem.tail _ (List.Mem.tail _ (List.Mem.tail _ (List.Mem.tail _ (List.Mem.tail _ (List.Mem.head _)))))))) le_n))))))), (show ([7, 6, 5, 0, 1, 2, 3, 4] : List Nat).Nodup by decide)⟩
        refine w_searched_best t w f s p0 p1 p2 (by omega) p3 p4 p6 (fv_of hX3 p6 p5) 41 0 (-4) 0 (by omega) (by omega) bs_0 (fun r9 hu => ?_)
        have hu2 := uqM_c (spF_c p6.2 hX3) hu
        have hsr : srM mPa mOt mNa mMy mPm mMa mFa mFy mMn t w f s 3 r9 := Or.inr (Or.inr (Or.inr ⟨rfl, nf_of hX1 p6.1 (by omega), nf_of hX2 p6.1 (by omega), nn_of hX3 p6.1 (by omega), hu2⟩))
        exact k0 f_3 w_3 3 r9 hsr (ft_of hX3 (by omega)) hC3 (srM_b p6 hsr)
      have h11 := qF_ne (cx := (w_3).toInt) (cy := 0) rfl (by decide) h11
      refine pm_go (g := (141, [(5, .int 4), (0, .ref 25), (1, .int t), (2, .int w), (3, .int f), (4, .int s)], [.int (-4)], _, 0, 0)) rfl ?_
      exfalso; omega
    have h6 := qF_le (cx := (w_2).toInt) (cy := 0) rfl (by decide) h6
    refine pm_go (g := (119, [(5, .int 2), (0, .ref 25), (1, .int t), (2, .int w), (3, .int f), (4, .int s)], [.int 2, .ref 25], hq g c1 c2 c3 c4 c5 c6 c7 c8 c9 c10 c11 c12 c13 c14 c15 c16 c17 c18 c19 c20 c21 c22 c23 c24 (hc25 mTy mTm mMn mFn mRn mTn mVn mLr mTr mFl w_2 0 mSc mMp mEn) (hc26 mPa) (hc27 mTo) (hc28 mOt) (hc29 mNa) (hc30 mRe) (hc31 mMa) (hc32 mMy) (hc33 mPm) (hc34 mFy) (hc35 mFa) (hc36 mFr) (hc37 mFo) (hc38 mRt) (hc39 mRm) (hc40 mTt) (hc41 mTi) (hc42 mPl) (hc43 mVr) (hc44 mVf) (hc45 mVc) (hc46 mAr) (hc47 mTc) (hc48 f_2) (hc49 mGo) dyn, 0, 0)) rfl ?_
    refine pm_go (g := (123, _, [.int 2, .ref 25], _, 0, 0)) rfl ?_
    refine pm_go (g := (126, _, [], hq g c1 c2 c3 c4 c5 c6 c7 c8 c9 c10 c11 c12 c13 c14 c15 c16 c17 c18 c19 c20 c21 c22 c23 c24 (hc25 mTy mTm mMn mFn mRn mTn mVn mLr mTr mFl w_2 2 mSc mMp mEn) (hc26 mPa) (hc27 mTo) (hc28 mOt) (hc29 mNa) (hc30 mRe) (hc31 mMa) (hc32 mMy) (hc33 mPm) (hc34 mFy) (hc35 mFa) (hc36 mFr) (hc37 mFo) (hc38 mRt) (hc39 mRm) (hc40 mTt) (hc41 mTi) (hc42 mPl) (hc43 mVr) (hc44 mVf) (hc45 mVc) (hc46 mAr) (hc47 mTc) (hc48 f_2) (hc49 mGo) dyn, 0, 0)) rfl ?_
    refine pm_go (g := (129, [(5, .int 3), (0, .ref 25), (1, .int t), (2, .int w), (3, .int f), (4, .int s)], [], _, 0, 0)) rfl ?_
    refine pm_go (g := (7, _, [], _, 0, 0)) rfl ?_
    refine pm_go (g := (9, _, [.int 3], _, 0, 0)) rfl ?_
    refine pm_go (g := (10, _, [.int 3, .int 3], _, 0, 0)) rfl ?_
    refine pm_brF (h := (13, [(5, .int 3), (0, .ref 25), (1, .int t), (2, .int w), (3, .int f), (4, .int s)], [], hq g c1 c2 c3 c4 c5 c6 c7 c8 c9 c10 c11 c12 c13 c14 c15 c16 c17 c18 c19 c20 c21 c22 c23 c24 (hc25 mTy mTm mMn mFn mRn mTn mVn mLr mTr mFl w_2 2 mSc mMp mEn) (hc26 mPa) (hc27 mTo) (hc28 mOt) (hc29 mNa) (hc30 mRe) (hc31 mMa) (hc32 mMy) (hc33 mPm) (hc34 mFy) (hc35 mFa) (hc36 mFr) (hc37 mFo) (hc38 mRt) (hc39 mRm) (hc40 mTt) (hc41 mTi) (hc42 mPl) (hc43 mVr) (hc44 mVf) (hc45 mVc) (hc46 mAr) (hc47 mTc) (hc48 f_2) (hc49 mGo) dyn, 0, 0)) rfl ?_
    refine pm_go (g := (14, _, [.ref 25], _, 0, 0)) rfl ?_
    refine pm_go (g := (17, _, [.int w_2], _, 0, 0)) rfl ?_
    refine pm_if2 (g := (132, [(5, .int 3), (0, .ref 25), (1, .int t), (2, .int w), (3, .int f), (4, .int s)], [], hq g c1 c2 c3 c4 c5 c6 c7 c8 c9 c10 c11 c12 c13 c14 c15 c16 c17 c18 c19 c20 c21 c22 c23 c24 (hc25 mTy mTm mMn mFn mRn mTn mVn mLr mTr mFl w_2 2 mSc mMp mEn) (hc26 mPa) (hc27 mTo) (hc28 mOt) (hc29 mNa) (hc30 mRe) (hc31 mMa) (hc32 mMy) (hc33 mPm) (hc34 mFy) (hc35 mFa) (hc36 mFr) (hc37 mFo) (hc38 mRt) (hc39 mRm) (hc40 mTt) (hc41 mTi) (hc42 mPl) (hc43 mVr) (hc44 mVf) (hc45 mVc) (hc46 mAr) (hc47 mTc) (hc48 f_2) (hc49 mGo) dyn, 0, 0)) (h := (20, [(5, .int 3), (0, .ref 25), (1, .int t), (2, .int w), (3, .int f), (4, .int s)], [], hq g c1 c2 c3 c4 c5 c6 c7 c8 c9 c10 c11 c12 c13 c14 c15 c16 c17 c18 c19 c20 c21 c22 c23 c24 (hc25 mTy mTm mMn mFn mRn mTn mVn mLr mTr mFl w_2 2 mSc mMp mEn) (hc26 mPa) (hc27 mTo) (hc28 mOt) (hc29 mNa) (hc30 mRe) (hc31 mMa) (hc32 mMy) (hc33 mPm) (hc34 mFy) (hc35 mFa) (hc36 mFr) (hc37 mFo) (hc38 mRt) (hc39 mRm) (hc40 mTt) (hc41 mTi) (hc42 mPl) (hc43 mVr) (hc44 mVf) (hc45 mVc) (hc46 mAr) (hc47 mTc) (hc48 f_2) (hc49 mGo) dyn, 0, 0)) rfl (fun h12 => ?_) (fun h12 => ?_)
    ·
      have h12 := qT_ne (cx := (w_2).toInt) (cy := 0) rfl (by decide) h12
      refine pm_go (g := (133, _, [.ref 25], _, 0, 0)) rfl ?_
      refine pm_go (g := (136, _, [.int w_2], _, 0, 0)) rfl ?_
      refine pm_if2 (g := (142, [(5, .int 3), (0, .ref 25), (1, .int t), (2, .int w), (3, .int f), (4, .int s)], [], hq g c1 c2 c3 c4 c5 c6 c7 c8 c9 c10 c11 c12 c13 c14 c15 c16 c17 c18 c19 c20 c21 c22 c23 c24 (hc25 mTy mTm mMn mFn mRn mTn mVn mLr mTr mFl w_2 2 mSc mMp mEn) (hc26 mPa) (hc27 mTo) (hc28 mOt) (hc29 mNa) (hc30 mRe) (hc31 mMa) (hc32 mMy) (hc33 mPm) (hc34 mFy) (hc35 mFa) (hc36 mFr) (hc37 mFo) (hc38 mRt) (hc39 mRm) (hc40 mTt) (hc41 mTi) (hc42 mPl) (hc43 mVr) (hc44 mVf) (hc45 mVc) (hc46 mAr) (hc47 mTc) (hc48 f_2) (hc49 mGo) dyn, 0, 0)) (h := (139, [(5, .int 3), (0, .ref 25), (1, .int t), (2, .int w), (3, .int f), (4, .int s)], [], hq g c1 c2 c3 c4 c5 c6 c7 c8 c9 c10 c11 c12 c13 c14 c15 c16 c17 c18 c19 c20 c21 c22 c23 c24 (hc25 mTy mTm mMn mFn mRn mTn mVn mLr mTr mFl w_2 2 mSc mMp mEn) (hc26 mPa) (hc27 mTo) (hc28 mOt) (hc29 mNa) (hc30 mRe) (hc31 mMa) (hc32 mMy) (hc33 mPm) (hc34 mFy) (hc35 mFa) (hc36 mFr) (hc37 mFo) (hc38 mRt) (hc39 mRm) (hc40 mTt) (hc41 mTi) (hc42 mPl) (hc43 mVr) (hc44 mVf) (hc45 mVc) (hc46 mAr) (hc47 mTc) (hc48 f_2) (hc49 mGo) dyn, 0, 0)) rfl (fun h13 => ?_) (fun h13 => ?_)
      ·
        have h13 := qT_ne (cx := (w_2).toInt) (cy := 0) rfl (by decide) h13
        refine pm_go (g := (144, _, [.int (-4)], _, 0, 0)) rfl ?_
        refine pm_go (g := (146, [(5, .int (-4)), (0, .ref 25), (1, .int t), (2, .int w), (3, .int f), (4, .int s)], [], _, 0, 0)) rfl ?_
        refine pm_go (g := (147, _, [.int 0], _, 0, 0)) rfl ?_
        refine pm_go (g := (149, [(6, .int 0), (5, .int (-4)), (0, .ref 25), (1, .int t), (2, .int w), (3, .int f), (4, .int s)], [], _, 0, 0)) rfl ?_
        refine pm_go (g := (150, _, [.int 0], _, 0, 0)) rfl ?_
        refine pm_go (g := (152, [(7, .int 0), (6, .int 0), (5, .int (-4)), (0, .ref 25), (1, .int t), (2, .int w), (3, .int f), (4, .int s)], [], _, 0, 0)) rfl ?_
        refine pm_sub (lv := [(7, .int 0), (6, .int 0), (5, .int (-4)), (0, .ref 25), (1, .int t), (2, .int w), (3, .int f), (4, .int s)]) ?_ ⟨le_c (List.Mem.head _) (le_c (List.Mem.tail _ (List.Mem.head _)) (le_c (List.Mem.tail _ (List.Mem.tail _ (List.Mem.head _))) (le_c (List.Mem.tail _ (List.Mem.tail _ (List.Mem.tail _ (List.Mem.head _)))) (le_c (List.Mem.tail _ (List.Mem.tail _ (List.Mem.tail _ (List.Mem.tail _ (List.Mem.head _))))) (le_c (List.Mem.tail _ (List.Mem.tail _ (List.Mem.tail _ (List.Mem.tail _ (List.Mem.tail _ (List.Mem.head _)))))) (le_c (List.Mem.tail _ (List.Mem.tail _ (List.Mem.tail _ (List.Mem.tail _ (List.Mem.tail _ (List.Mem.tail _ (List.Mem.head _))))))) (le_c (List.Mem.tail _ (List.Mem.tail _ (List.Mem.tail _ (List.Mem.tail _ (List.Mem.tail _ (List.Mem.tail _ (List.Mem.tail _ (List.Mem.head _)))))))) le_n))))))), (show ([7, 6, 5, 0, 1, 2, 3, 4] : List Nat).Nodup by decide)⟩
        refine w_searched_best t w f s p0 p1 p2 (by omega) p3 p4 p6 (fv_of hX2 p6 p5) 41 0 (-4) 0 (by omega) (by omega) bs_0 (fun r9 hu => ?_)
        have hu2 := uqM_c (spF_c p6.2 hX2) hu
        have hsr : srM mPa mOt mNa mMy mPm mMa mFa mFy mMn t w f s 2 r9 := Or.inr (Or.inr (Or.inl ⟨rfl, nf_of hX1 p6.1 (by omega), nn_of hX2 p6.1 (by omega), hu2⟩))
        exact k0 f_2 w_2 2 r9 hsr (ft_of hX2 (by omega)) hC2 (srM_b p6 hsr)
      have h13 := qF_ne (cx := (w_2).toInt) (cy := 0) rfl (by decide) h13
      refine pm_go (g := (141, [(5, .int 3), (0, .ref 25), (1, .int t), (2, .int w), (3, .int f), (4, .int s)], [.int (-4)], _, 0, 0)) rfl ?_
      exfalso; omega
    have h12 := qF_ne (cx := (w_2).toInt) (cy := 0) rfl (by decide) h12
    refine pm_go (g := (21, _, [.int 0], _, 0, 0)) rfl ?_
    refine pm_go (g := (23, [(6, .int 0), (5, .int 3), (0, .ref 25), (1, .int t), (2, .int w), (3, .int f), (4, .int s)], [], _, 0, 0)) rfl ?_
    refine pm_sub (lv := [(6, .int 0), (5, .int 3), (0, .ref 25), (1, .int t), (2, .int w), (3, .int f), (4, .int s)]) ?_ ⟨le_c (List.Mem.head _) (le_c (List.Mem.tail _ (List.Mem.head _)) (le_c (List.Mem.tail _ (List.Mem.tail _ (List.Mem.head _))) (le_c (List.Mem.tail _ (List.Mem.tail _ (List.Mem.tail _ (List.Mem.head _)))) (le_c (List.Mem.tail _ (List.Mem.tail _ (List.Mem.tail _ (List.Mem.tail _ (List.Mem.head _))))) (le_c (List.Mem.tail _ (List.Mem.tail _ (List.Mem.tail _ (List.Mem.tail _ (List.Mem.tail _ (List.Mem.head _)))))) (le_c (List.Mem.tail _ (List.Mem.tail _ (List.Mem.tail _ (List.Mem.tail _ (List.Mem.tail _ (List.Mem.tail _ (List.Mem.head _))))))) le_n)))))), (show ([6, 5, 0, 1, 2, 3, 4] : List Nat).Nodup by decide)⟩
    refine w_searched_phase (mFm := mFm) (mFt := mFt) t w f s 3 p0 p1 p2 (by omega) p3 p4 p5 p6 41 0 f_2 w_2 (by omega) (by omega) (fun j q => absurd q (Nat.not_lt_zero j)) (by first | rfl | (show _ = (0 : Int); omega)) (fun f_3 w_3 hX3 hC3 => ?_)
    show pm_WP 150 (109, [(5, .int 3), (0, .ref 25), (1, .int t), (2, .int w), (3, .int f), (4, .int s)], [], _, 0, 0) _
    have hb3 := cF_b f_3 mMn.toNatClampNeg
    refine pm_go (g := (110, _, [.ref 25], _, 0, 0)) rfl ?_
    refine pm_go (g := (111, _, [.ref 25, .ref 25], _, 0, 0)) rfl ?_
    refine pm_go (g := (114, _, [.int w_3, .ref 25], _, 0, 0)) rfl ?_
    refine pm_if2 (g := (122, [(5, .int 3), (0, .ref 25), (1, .int t), (2, .int w), (3, .int f), (4, .int s)], [.ref 25], hq g c1 c2 c3 c4 c5 c6 c7 c8 c9 c10 c11 c12 c13 c14 c15 c16 c17 c18 c19 c20 c21 c22 c23 c24 (hc25 mTy mTm mMn mFn mRn mTn mVn mLr mTr mFl w_3 2 mSc mMp mEn) (hc26 mPa) (hc27 mTo) (hc28 mOt) (hc29 mNa) (hc30 mRe) (hc31 mMa) (hc32 mMy) (hc33 mPm) (hc34 mFy) (hc35 mFa) (hc36 mFr) (hc37 mFo) (hc38 mRt) (hc39 mRm) (hc40 mTt) (hc41 mTi) (hc42 mPl) (hc43 mVr) (hc44 mVf) (hc45 mVc) (hc46 mAr) (hc47 mTc) (hc48 f_3) (hc49 mGo) dyn, 0, 0)) (h := (117, [(5, .int 3), (0, .ref 25), (1, .int t), (2, .int w), (3, .int f), (4, .int s)], [.ref 25], hq g c1 c2 c3 c4 c5 c6 c7 c8 c9 c10 c11 c12 c13 c14 c15 c16 c17 c18 c19 c20 c21 c22 c23 c24 (hc25 mTy mTm mMn mFn mRn mTn mVn mLr mTr mFl w_3 2 mSc mMp mEn) (hc26 mPa) (hc27 mTo) (hc28 mOt) (hc29 mNa) (hc30 mRe) (hc31 mMa) (hc32 mMy) (hc33 mPm) (hc34 mFy) (hc35 mFa) (hc36 mFr) (hc37 mFo) (hc38 mRt) (hc39 mRm) (hc40 mTt) (hc41 mTi) (hc42 mPl) (hc43 mVr) (hc44 mVf) (hc45 mVc) (hc46 mAr) (hc47 mTc) (hc48 f_3) (hc49 mGo) dyn, 0, 0)) rfl (fun h14 => ?_) (fun h14 => ?_)
    ·
      have h14 := qT_le (cx := (w_3).toInt) (cy := 0) rfl (by decide) h14
      refine pm_go (g := (123, _, [.int 0, .ref 25], _, 0, 0)) rfl ?_
      refine pm_go (g := (126, _, [], hq g c1 c2 c3 c4 c5 c6 c7 c8 c9 c10 c11 c12 c13 c14 c15 c16 c17 c18 c19 c20 c21 c22 c23 c24 (hc25 mTy mTm mMn mFn mRn mTn mVn mLr mTr mFl w_3 0 mSc mMp mEn) (hc26 mPa) (hc27 mTo) (hc28 mOt) (hc29 mNa) (hc30 mRe) (hc31 mMa) (hc32 mMy) (hc33 mPm) (hc34 mFy) (hc35 mFa) (hc36 mFr) (hc37 mFo) (hc38 mRt) (hc39 mRm) (hc40 mTt) (hc41 mTi) (hc42 mPl) (hc43 mVr) (hc44 mVf) (hc45 mVc) (hc46 mAr) (hc47 mTc) (hc48 f_3) (hc49 mGo) dyn, 0, 0)) rfl ?_
      refine pm_go (g := (129, [(5, .int 4), (0, .ref 25), (1, .int t), (2, .int w), (3, .int f), (4, .int s)], [], _, 0, 0)) rfl ?_
      refine pm_go (g := (7, _, [], _, 0, 0)) rfl ?_
      refine pm_go (g := (9, _, [.int 4], _, 0, 0)) rfl ?_
      refine pm_go (g := (10, _, [.int 3, .int 4], _, 0, 0)) rfl ?_
      refine pm_brT (g := (132, [(5, .int 4), (0, .ref 25), (1, .int t), (2, .int w), (3, .int f), (4, .int s)], [], hq g c1 c2 c3 c4 c5 c6 c7 c8 c9 c10 c11 c12 c13 c14 c15 c16 c17 c18 c19 c20 c21 c22 c23 c24 (hc25 mTy mTm mMn mFn mRn mTn mVn mLr mTr mFl w_3 0 mSc mMp mEn) (hc26 mPa) (hc27 mTo) (hc28 mOt) (hc29 mNa) (hc30 mRe) (hc31 mMa) (hc32 mMy) (hc33 mPm) (hc34 mFy) (hc35 mFa) (hc36 mFr) (hc37 mFo) (hc38 mRt) (hc39 mRm) (hc40 mTt) (hc41 mTi) (hc42 mPl) (hc43 mVr) (hc44 mVf) (hc45 mVc) (hc46 mAr) (hc47 mTc) (hc48 f_3) (hc49 mGo) dyn, 0, 0)) rfl ?_
      refine pm_go (g := (133, _, [.ref 25], _, 0, 0)) rfl ?_
      refine pm_go (g := (136, _, [.int w_3], _, 0, 0)) rfl ?_
      refine pm_if2 (g := (142, [(5, .int 4), (0, .ref 25), (1, .int t), (2, .int w), (3, .int f), (4, .int s)], [], hq g c1 c2 c3 c4 c5 c6 c7 c8 c9 c10 c11 c12 c13 c14 c15 c16 c17 c18 c19 c20 c21 c22 c23 c24 (hc25 mTy mTm mMn mFn mRn mTn mVn mLr mTr mFl w_3 0 mSc mMp mEn) (hc26 mPa) (hc27 mTo) (hc28 mOt) (hc29 mNa) (hc30 mRe) (hc31 mMa) (hc32 mMy) (hc33 mPm) (hc34 mFy) (hc35 mFa) (hc36 mFr) (hc37 mFo) (hc38 mRt) (hc39 mRm) (hc40 mTt) (hc41 mTi) (hc42 mPl) (hc43 mVr) (hc44 mVf) (hc45 mVc) (hc46 mAr) (hc47 mTc) (hc48 f_3) (hc49 mGo) dyn, 0, 0)) (h := (139, [(5, .int 4), (0, .ref 25), (1, .int t), (2, .int w), (3, .int f), (4, .int s)], [], hq g c1 c2 c3 c4 c5 c6 c7 c8 c9 c10 c11 c12 c13 c14 c15 c16 c17 c18 c19 c20 c21 c22 c23 c24 (hc25 mTy mTm mMn mFn mRn mTn mVn mLr mTr mFl w_3 0 mSc mMp mEn) (hc26 mPa) (hc27 mTo) (hc28 mOt) (hc29 mNa) (hc30 mRe) (hc31 mMa) (hc32 mMy) (hc33 mPm) (hc34 mFy) (hc35 mFa) (hc36 mFr) (hc37 mFo) (hc38 mRt) (hc39 mRm) (hc40 mTt) (hc41 mTi) (hc42 mPl) (hc43 mVr) (hc44 mVf) (hc45 mVc) (hc46 mAr) (hc47 mTc) (hc48 f_3) (hc49 mGo) dyn, 0, 0)) rfl (fun h15 => ?_) (fun h15 => ?_)
      ·
        have h15 := qT_ne (cx := (w_3).toInt) (cy := 0) rfl (by decide) h15
        refine pm_go (g := (144, _, [.int (-4)], _, 0, 0)) rfl ?_
        refine pm_go (g := (146, [(5, .int (-4)), (0, .ref 25), (1, .int t), (2, .int w), (3, .int f), (4, .int s)], [], _, 0, 0)) rfl ?_
        refine pm_go (g := (147, _, [.int 0], _, 0, 0)) rfl ?_
        refine pm_go (g := (149, [(6, .int 0), (5, .int (-4)), (0, .ref 25), (1, .int t), (2, .int w), (3, .int f), (4, .int s)], [], _, 0, 0)) rfl ?_
        refine pm_go (g := (150, _, [.int 0], _, 0, 0)) rfl ?_
        refine pm_go (g := (152, [(7, .int 0), (6, .int 0), (5, .int (-4)), (0, .ref 25), (1, .int t), (2, .int w), (3, .int f), (4, .int s)], [], _, 0, 0)) rfl ?_
        exfalso; omega
      have h15 := qF_ne (cx := (w_3).toInt) (cy := 0) rfl (by decide) h15
      refine pm_go (g := (141, [(5, .int 4), (0, .ref 25), (1, .int t), (2, .int w), (3, .int f), (4, .int s)], [.int (-4)], _, 0, 0)) rfl ?_
      have hsr : srM mPa mOt mNa mMy mPm mMa mFa mFy mMn t w f s 0 (-4) := Or.inl ⟨rfl, rfl, nf_of hX1 p6.1 (by omega), nf_of hX2 p6.1 (by omega), nf_of hX3 p6.1 (by omega)⟩
      exact pm_ret rfl (k0 f_3 w_3 0 (-4) hsr (ft_0 p6.1 (by omega)) hC3 (srM_b p6 hsr))
    have h14 := qF_le (cx := (w_3).toInt) (cy := 0) rfl (by decide) h14
    refine pm_go (g := (119, [(5, .int 3), (0, .ref 25), (1, .int t), (2, .int w), (3, .int f), (4, .int s)], [.int 3, .ref 25], hq g c1 c2 c3 c4 c5 c6 c7 c8 c9 c10 c11 c12 c13 c14 c15 c16 c17 c18 c19 c20 c21 c22 c23 c24 (hc25 mTy mTm mMn mFn mRn mTn mVn mLr mTr mFl w_3 2 mSc mMp mEn) (hc26 mPa) (hc27 mTo) (hc28 mOt) (hc29 mNa) (hc30 mRe) (hc31 mMa) (hc32 mMy) (hc33 mPm) (hc34 mFy) (hc35 mFa) (hc36 mFr) (hc37 mFo) (hc38 mRt) (hc39 mRm) (hc40 mTt) (hc41 mTi) (hc42 mPl) (hc43 mVr) (hc44 mVf) (hc45 mVc) (hc46 mAr) (hc47 mTc) (hc48 f_3) (hc49 mGo) dyn, 0, 0)) rfl ?_
    refine pm_go (g := (123, _, [.int 3, .ref 25], _, 0, 0)) rfl ?_
    refine pm_go (g := (126, _, [], hq g c1 c2 c3 c4 c5 c6 c7 c8 c9 c10 c11 c12 c13 c14 c15 c16 c17 c18 c19 c20 c21 c22 c23 c24 (hc25 mTy mTm mMn mFn mRn mTn mVn mLr mTr mFl w_3 3 mSc mMp mEn) (hc26 mPa) (hc27 mTo) (hc28 mOt) (hc29 mNa) (hc30 mRe) (hc31 mMa) (hc32 mMy) (hc33 mPm) (hc34 mFy) (hc35 mFa) (hc36 mFr) (hc37 mFo) (hc38 mRt) (hc39 mRm) (hc40 mTt) (hc41 mTi) (hc42 mPl) (hc43 mVr) (hc44 mVf) (hc45 mVc) (hc46 mAr) (hc47 mTc) (hc48 f_3) (hc49 mGo) dyn, 0, 0)) rfl ?_
    refine pm_go (g := (129, [(5, .int 4), (0, .ref 25), (1, .int t), (2, .int w), (3, .int f), (4, .int s)], [], _, 0, 0)) rfl ?_
    refine pm_go (g := (7, _, [], _, 0, 0)) rfl ?_
    refine pm_go (g := (9, _, [.int 4], _, 0, 0)) rfl ?_
    refine pm_go (g := (10, _, [.int 3, .int 4], _, 0, 0)) rfl ?_
    refine pm_brT (g := (132, [(5, .int 4), (0, .ref 25), (1, .int t), (2, .int w), (3, .int f), (4, .int s)], [], hq g c1 c2 c3 c4 c5 c6 c7 c8 c9 c10 c11 c12 c13 c14 c15 c16 c17 c18 c19 c20 c21 c22 c23 c24 (hc25 mTy mTm mMn mFn mRn mTn mVn mLr mTr mFl w_3 3 mSc mMp mEn) (hc26 mPa) (hc27 mTo) (hc28 mOt) (hc29 mNa) (hc30 mRe) (hc31 mMa) (hc32 mMy) (hc33 mPm) (hc34 mFy) (hc35 mFa) (hc36 mFr) (hc37 mFo) (hc38 mRt) (hc39 mRm) (hc40 mTt) (hc41 mTi) (hc42 mPl) (hc43 mVr) (hc44 mVf) (hc45 mVc) (hc46 mAr) (hc47 mTc) (hc48 f_3) (hc49 mGo) dyn, 0, 0)) rfl ?_
    refine pm_go (g := (133, _, [.ref 25], _, 0, 0)) rfl ?_
    refine pm_go (g := (136, _, [.int w_3], _, 0, 0)) rfl ?_
    refine pm_if2 (g := (142, [(5, .int 4), (0, .ref 25), (1, .int t), (2, .int w), (3, .int f), (4, .int s)], [], hq g c1 c2 c3 c4 c5 c6 c7 c8 c9 c10 c11 c12 c13 c14 c15 c16 c17 c18 c19 c20 c21 c22 c23 c24 (hc25 mTy mTm mMn mFn mRn mTn mVn mLr mTr mFl w_3 3 mSc mMp mEn) (hc26 mPa) (hc27 mTo) (hc28 mOt) (hc29 mNa) (hc30 mRe) (hc31 mMa) (hc32 mMy) (hc33 mPm) (hc34 mFy) (hc35 mFa) (hc36 mFr) (hc37 mFo) (hc38 mRt) (hc39 mRm) (hc40 mTt) (hc41 mTi) (hc42 mPl) (hc43 mVr) (hc44 mVf) (hc45 mVc) (hc46 mAr) (hc47 mTc) (hc48 f_3) (hc49 mGo) dyn, 0, 0)) (h := (139, [(5, .int 4), (0, .ref 25), (1, .int t), (2, .int w), (3, .int f), (4, .int s)], [], hq g c1 c2 c3 c4 c5 c6 c7 c8 c9 c10 c11 c12 c13 c14 c15 c16 c17 c18 c19 c20 c21 c22 c23 c24 (hc25 mTy mTm mMn mFn mRn mTn mVn mLr mTr mFl w_3 3 mSc mMp mEn) (hc26 mPa) (hc27 mTo) (hc28 mOt) (hc29 mNa) (hc30 mRe) (hc31 mMa) (hc32 mMy) (hc33 mPm) (hc34 mFy) (hc35 mFa) (hc36 mFr) (hc37 mFo) (hc38 mRt) (hc39 mRm) (hc40 mTt) (hc41 mTi) (hc42 mPl) (hc43 mVr) (hc44 mVf) (hc45 mVc) (hc46 mAr) (hc47 mTc) (hc48 f_3) (hc49 mGo) dyn, 0, 0)) rfl (fun h16 => ?_) (fun h16 => ?_)
    ·
      have h16 := qT_ne (cx := (w_3).toInt) (cy := 0) rfl (by decide) h16
      refine pm_go (g := (144, _, [.int (-4)], _, 0, 0)) rfl ?_
      refine pm_go (g := (146, [(5, .int (-4)), (0, .ref 25), (1, .int t), (2, .int w), (3, .int f), (4, .int s)], [], _, 0, 0)) rfl ?_
      refine pm_go (g := (147, _, [.int 0], _, 0, 0)) rfl ?_
      refine pm_go (g := (149, [(6, .int 0), (5, .int (-4)), (0, .ref 25), (1, .int t), (2, .int w), (3, .int f), (4, .int s)], [], _, 0, 0)) rfl ?_
      refine pm_go (g := (150, _, [.int 0], _, 0, 0)) rfl ?_
      refine pm_go (g := (152, [(7, .int 0), (6, .int 0), (5, .int (-4)), (0, .ref 25), (1, .int t), (2, .int w), (3, .int f), (4, .int s)], [], _, 0, 0)) rfl ?_
      refine pm_sub (lv := [(7, .int 0), (6, .int 0), (5, .int (-4)), (0, .ref 25), (1, .int t), (2, .int w), (3, .int f), (4, .int s)]) ?_ ⟨le_c (List.Mem.head _) (le_c (List.Mem.tail _ (List.Mem.head _)) (le_c (List.Mem.tail _ (List.Mem.tail _ (List.Mem.head _))) (le_c (List.Mem.tail _ (List.Mem.tail _ (List.Mem.tail _ (List.Mem.head _)))) (le_c (List.Mem.tail _ (List.Mem.tail _ (List.Mem.tail _ (List.Mem.tail _ (List.Mem.head _))))) (le_c (List.Mem.tail _ (List.Mem.tail _ (List.Mem.tail _ (List.Mem.tail _ (List.Mem.tail _ (List.Mem.head _)))))) (le_c (List.Mem.tail _ (List.Mem.tail _ (List.Mem.tail _ (List.Mem.tail _ (List.Mem.tail _ (List.Mem.tail _ (List.Mem.head _))))))) (le_c (List.Mem.tail _ (List.Mem.tail _ (List.Mem.tail _ (List.Mem.tail _ (List.Mem.tail _ (List.Mem.tail _ (List.Mem.tail _ (List.Mem.head _)))))))) le_n))))))), (show ([7, 6, 5, 0, 1, 2, 3, 4] : List Nat).Nodup by decide)⟩
      refine w_searched_best t w f s p0 p1 p2 (by omega) p3 p4 p6 (fv_of hX3 p6 p5) 41 0 (-4) 0 (by omega) (by omega) bs_0 (fun r9 hu => ?_)
      have hu2 := uqM_c (spF_c p6.2 hX3) hu
      have hsr : srM mPa mOt mNa mMy mPm mMa mFa mFy mMn t w f s 3 r9 := Or.inr (Or.inr (Or.inr ⟨rfl, nf_of hX1 p6.1 (by omega), nf_of hX2 p6.1 (by omega), nn_of hX3 p6.1 (by omega), hu2⟩))
      exact k0 f_3 w_3 3 r9 hsr (ft_of hX3 (by omega)) hC3 (srM_b p6 hsr)
    have h16 := qF_ne (cx := (w_3).toInt) (cy := 0) rfl (by decide) h16
    refine pm_go (g := (141, [(5, .int 4), (0, .ref 25), (1, .int t), (2, .int w), (3, .int f), (4, .int s)], [.int (-4)], _, 0, 0)) rfl ?_
    exfalso; omega
  have h3 := qF_le (cx := (w_1).toInt) (cy := 0) rfl (by decide) h3
  refine pm_go (g := (119, [(5, .int 1), (0, .ref 25), (1, .int t), (2, .int w), (3, .int f), (4, .int s)], [.int 1, .ref 25], hq g c1 c2 c3 c4 c5 c6 c7 c8 c9 c10 c11 c12 c13 c14 c15 c16 c17 c18 c19 c20 c21 c22 c23 c24 (hc25 mTy mTm mMn mFn mRn mTn mVn mLr mTr mFl w_1 0 mSc mMp mEn) (hc26 mPa) (hc27 mTo) (hc28 mOt) (hc29 mNa) (hc30 mRe) (hc31 mMa) (hc32 mMy) (hc33 mPm) (hc34 mFy) (hc35 mFa) (hc36 mFr) (hc37 mFo) (hc38 mRt) (hc39 mRm) (hc40 mTt) (hc41 mTi) (hc42 mPl) (hc43 mVr) (hc44 mVf) (hc45 mVc) (hc46 mAr) (hc47 mTc) (hc48 f_1) (hc49 mGo) dyn, 0, 0)) rfl ?_
  refine pm_go (g := (123, _, [.int 1, .ref 25], _, 0, 0)) rfl ?_
  refine pm_go (g := (126, _, [], hq g c1 c2 c3 c4 c5 c6 c7 c8 c9 c10 c11 c12 c13 c14 c15 c16 c17 c18 c19 c20 c21 c22 c23 c24 (hc25 mTy mTm mMn mFn mRn mTn mVn mLr mTr mFl w_1 1 mSc mMp mEn) (hc26 mPa) (hc27 mTo) (hc28 mOt) (hc29 mNa) (hc30 mRe) (hc31 mMa) (hc32 mMy) (hc33 mPm) (hc34 mFy) (hc35 mFa) (hc36 mFr) (hc37 mFo) (hc38 mRt) (hc39 mRm) (hc40 mTt) (hc41 mTi) (hc42 mPl) (hc43 mVr) (hc44 mVf) (hc45 mVc) (hc46 mAr) (hc47 mTc) (hc48 f_1) (hc49 mGo) dyn, 0, 0)) rfl ?_
  refine pm_go (g := (129, [(5, .int 2), (0, .ref 25), (1, .int t), (2, .int w), (3, .int f), (4, .int s)], [], _, 0, 0)) rfl ?_
  refine pm_go (g := (7, _, [], _, 0, 0)) rfl ?_
  refine pm_go (g := (9, _, [.int 2], _, 0, 0)) rfl ?_
  refine pm_go (g := (10, _, [.int 3, .int 2], _, 0, 0)) rfl ?_
  refine pm_brF (h := (13, [(5, .int 2), (0, .ref 25), (1, .int t), (2, .int w), (3, .int f), (4, .int s)], [], hq g c1 c2 c3 c4 c5 c6 c7 c8 c9 c10 c11 c12 c13 c14 c15 c16 c17 c18 c19 c20 c21 c22 c23 c24 (hc25 mTy mTm mMn mFn mRn mTn mVn mLr mTr mFl w_1 1 mSc mMp mEn) (hc26 mPa) (hc27 mTo) (hc28 mOt) (hc29 mNa) (hc30 mRe) (hc31 mMa) (hc32 mMy) (hc33 mPm) (hc34 mFy) (hc35 mFa) (hc36 mFr) (hc37 mFo) (hc38 mRt) (hc39 mRm) (hc40 mTt) (hc41 mTi) (hc42 mPl) (hc43 mVr) (hc44 mVf) (hc45 mVc) (hc46 mAr) (hc47 mTc) (hc48 f_1) (hc49 mGo) dyn, 0, 0)) rfl ?_
  refine pm_go (g := (14, _, [.ref 25], _, 0, 0)) rfl ?_
  refine pm_go (g := (17, _, [.int w_1], _, 0, 0)) rfl ?_
  refine pm_if2 (g := (132, [(5, .int 2), (0, .ref 25), (1, .int t), (2, .int w), (3, .int f), (4, .int s)], [], hq g c1 c2 c3 c4 c5 c6 c7 c8 c9 c10 c11 c12 c13 c14 c15 c16 c17 c18 c19 c20 c21 c22 c23 c24 (hc25 mTy mTm mMn mFn mRn mTn mVn mLr mTr mFl w_1 1 mSc mMp mEn) (hc26 mPa) (hc27 mTo) (hc28 mOt) (hc29 mNa) (hc30 mRe) (hc31 mMa) (hc32 mMy) (hc33 mPm) (hc34 mFy) (hc35 mFa) (hc36 mFr) (hc37 mFo) (hc38 mRt) (hc39 mRm) (hc40 mTt) (hc41 mTi) (hc42 mPl) (hc43 mVr) (hc44 mVf) (hc45 mVc) (hc46 mAr) (hc47 mTc) (hc48 f_1) (hc49 mGo) dyn, 0, 0)) (h := (20, [(5, .int 2), (0, .ref 25), (1, .int t), (2, .int w), (3, .int f), (4, .int s)], [], hq g c1 c2 c3 c4 c5 c6 c7 c8 c9 c10 c11 c12 c13 c14 c15 c16 c17 c18 c19 c20 c21 c22 c23 c24 (hc25 mTy mTm mMn mFn mRn mTn mVn mLr mTr mFl w_1 1 mSc mMp mEn) (hc26 mPa) (hc27 mTo) (hc28 mOt) (hc29 mNa) (hc30 mRe) (hc31 mMa) (hc32 mMy) (hc33 mPm) (hc34 mFy) (hc35 mFa) (hc36 mFr) (hc37 mFo) (hc38 mRt) (hc39 mRm) (hc40 mTt) (hc41 mTi) (hc42 mPl) (hc43 mVr) (hc44 mVf) (hc45 mVc) (hc46 mAr) (hc47 mTc) (hc48 f_1) (hc49 mGo) dyn, 0, 0)) rfl (fun h17 => ?_) (fun h17 => ?_)
  ·
    have h17 := qT_ne (cx := (w_1).toInt) (cy := 0) rfl (by decide) h17
    refine pm_go (g := (133, _, [.ref 25], _, 0, 0)) rfl ?_
    refine pm_go (g := (136, _, [.int w_1], _, 0, 0)) rfl ?_
    refine pm_if2 (g := (142, [(5, .int 2), (0, .ref 25), (1, .int t), (2, .int w), (3, .int f), (4, .int s)], [], hq g c1 c2 c3 c4 c5 c6 c7 c8 c9 c10 c11 c12 c13 c14 c15 c16 c17 c18 c19 c20 c21 c22 c23 c24 (hc25 mTy mTm mMn mFn mRn mTn mVn mLr mTr mFl w_1 1 mSc mMp mEn) (hc26 mPa) (hc27 mTo) (hc28 mOt) (hc29 mNa) (hc30 mRe) (hc31 mMa) (hc32 mMy) (hc33 mPm) (hc34 mFy) (hc35 mFa) (hc36 mFr) (hc37 mFo) (hc38 mRt) (hc39 mRm) (hc40 mTt) (hc41 mTi) (hc42 mPl) (hc43 mVr) (hc44 mVf) (hc45 mVc) (hc46 mAr) (hc47 mTc) (hc48 f_1) (hc49 mGo) dyn, 0, 0)) (h := (139, [(5, .int 2), (0, .ref 25), (1, .int t), (2, .int w), (3, .int f), (4, .int s)], [], hq g c1 c2 c3 c4 c5 c6 c7 c8 c9 c10 c11 c12 c13 c14 c15 c16 c17 c18 c19 c20 c21 c22 c23 c24 (hc25 mTy mTm mMn mFn mRn mTn mVn mLr mTr mFl w_1 1 mSc mMp mEn) (hc26 mPa) (hc27 mTo) (hc28 mOt) (hc29 mNa) (hc30 mRe) (hc31 mMa) (hc32 mMy) (hc33 mPm) (hc34 mFy) (hc35 mFa) (hc36 mFr) (hc37 mFo) (hc38 mRt) (hc39 mRm) (hc40 mTt) (hc41 mTi) (hc42 mPl) (hc43 mVr) (hc44 mVf) (hc45 mVc) (hc46 mAr) (hc47 mTc) (hc48 f_1) (hc49 mGo) dyn, 0, 0)) rfl (fun h18 => ?_) (fun h18 => ?_)
    ·
      have h18 := qT_ne (cx := (w_1).toInt) (cy := 0) rfl (by decide) h18
      refine pm_go (g := (144, _, [.int (-4)], _, 0, 0)) rfl ?_
      refine pm_go (g := (146, [(5, .int (-4)), (0, .ref 25), (1, .int t), (2, .int w), (3, .int f), (4, .int s)], [], _, 0, 0)) rfl ?_
      refine pm_go (g := (147, _, [.int 0], _, 0, 0)) rfl ?_
      refine pm_go (g := (149, [(6, .int 0), (5, .int (-4)), (0, .ref 25), (1, .int t), (2, .int w), (3, .int f), (4, .int s)], [], _, 0, 0)) rfl ?_
      refine pm_go (g := (150, _, [.int 0], _, 0, 0)) rfl ?_
      refine pm_go (g := (152, [(7, .int 0), (6, .int 0), (5, .int (-4)), (0, .ref 25), (1, .int t), (2, .int w), (3, .int f), (4, .int s)], [], _, 0, 0)) rfl ?_
      refine pm_sub (lv := [(7, .int 0), (6, .int 0), (5, .int (-4)), (0, .ref 25), (1, .int t), (2, .int w), (3, .int f), (4, .int s)]) ?_ ⟨le_c (List.Mem.head _) (le_c (List.Mem.tail _ (List.Mem.head _)) (le_c (List.Mem.tail _ (List.Mem.tail _ (List.Mem.head _))) (le_c (List.Mem.tail _ (List.Mem.tail _ (List.Mem.tail _ (List.Mem.head _)))) (le_c (List.Mem.tail _ (List.Mem.tail _ (List.Mem.tail _ (List.Mem.tail _ (List.Mem.head _))))) (le_c (List.Mem.tail _ (List.Mem.tail _ (List.Mem.tail _ (List.Mem.tail _ (List.Mem.tail _ (List.Mem.head _)))))) (le_c (List.Mem.tail _ (List.Mem.tail _ (List.Mem.tail _ (List.Mem.tail _ (List.Mem.tail _ (List.Mem.tail _ (List.Mem.head _))))))) (le_c (List.Mem.tail _ (List.Mem.tail _ (List.Mem.tail _ (List.Mem.tail _ (List.Mem.tail _ (List.Mem.tail _ (List.Mem.tail _ (List.Mem.head _)))))))) le_n))))))), (show ([7, 6, 5, 0, 1, 2, 3, 4] : List Nat).Nodup by decide)⟩
      refine w_searched_best t w f s p0 p1 p2 (by omega) p3 p4 p6 (fv_of hX1 p6 p5) 41 0 (-4) 0 (by omega) (by omega) bs_0 (fun r9 hu => ?_)
      have hu2 := uqM_c (spF_c p6.2 hX1) hu
      have hsr : srM mPa mOt mNa mMy mPm mMa mFa mFy mMn t w f s 1 r9 := Or.inr (Or.inl ⟨rfl, nn_of hX1 p6.1 (by omega), hu2⟩)
      exact k0 f_1 w_1 1 r9 hsr (ft_of hX1 (by omega)) hC1 (srM_b p6 hsr)
    have h18 := qF_ne (cx := (w_1).toInt) (cy := 0) rfl (by decide) h18
    refine pm_go (g := (141, [(5, .int 2), (0, .ref 25), (1, .int t), (2, .int w), (3, .int f), (4, .int s)], [.int (-4)], _, 0, 0)) rfl ?_
    exfalso; omega
  have h17 := qF_ne (cx := (w_1).toInt) (cy := 0) rfl (by decide) h17
  refine pm_go (g := (21, _, [.int 0], _, 0, 0)) rfl ?_
  refine pm_go (g := (23, [(6, .int 0), (5, .int 2), (0, .ref 25), (1, .int t), (2, .int w), (3, .int f), (4, .int s)], [], _, 0, 0)) rfl ?_
  refine pm_sub (lv := [(6, .int 0), (5, .int 2), (0, .ref 25), (1, .int t), (2, .int w), (3, .int f), (4, .int s)]) ?_ ⟨le_c (List.Mem.head _) (le_c (List.Mem.tail _ (List.Mem.head _)) (le_c (List.Mem.tail _ (List.Mem.tail _ (List.Mem.head _))) (le_c (List.Mem.tail _ (List.Mem.tail _ (List.Mem.tail _ (List.Mem.head _)))) (le_c (List.Mem.tail _ (List.Mem.tail _ (List.Mem.tail _ (List.Mem.tail _ (List.Mem.head _))))) (le_c (List.Mem.tail _ (List.Mem.tail _ (List.Mem.tail _ (List.Mem.tail _ (List.Mem.tail _ (List.Mem.head _)))))) (le_c (List.Mem.tail _ (List.Mem.tail _ (List.Mem.tail _ (List.Mem.tail _ (List.Mem.tail _ (List.Mem.tail _ (List.Mem.head _))))))) le_n)))))), (show ([6, 5, 0, 1, 2, 3, 4] : List Nat).Nodup by decide)⟩
  refine w_searched_phase (mFm := mFm) (mFt := mFt) t w f s 2 p0 p1 p2 (by omega) p3 p4 p5 p6 41 0 f_1 w_1 (by omega) (by omega) (fun j q => absurd q (Nat.not_lt_zero j)) (by first | rfl | (show _ = (0 : Int); omega)) (fun f_2 w_2 hX2 hC2 => ?_)
  show pm_WP 150 (109, [(5, .int 2), (0, .ref 25), (1, .int t), (2, .int w), (3, .int f), (4, .int s)], [], _, 0, 0) _
  have hb2 := cF_b f_2 mMn.toNatClampNeg
  refine pm_go (g := (110, _, [.ref 25], _, 0, 0)) rfl ?_
  refine pm_go (g := (111, _, [.ref 25, .ref 25], _, 0, 0)) rfl ?_
  refine pm_go (g := (114, _, [.int w_2, .ref 25], _, 0, 0)) rfl ?_
  refine pm_if2 (g := (122, [(5, .int 2), (0, .ref 25), (1, .int t), (2, .int w), (3, .int f), (4, .int s)], [.ref 25], hq g c1 c2 c3 c4 c5 c6 c7 c8 c9 c10 c11 c12 c13 c14 c15 c16 c17 c18 c19 c20 c21 c22 c23 c24 (hc25 mTy mTm mMn mFn mRn mTn mVn mLr mTr mFl w_2 1 mSc mMp mEn) (hc26 mPa) (hc27 mTo) (hc28 mOt) (hc29 mNa) (hc30 mRe) (hc31 mMa) (hc32 mMy) (hc33 mPm) (hc34 mFy) (hc35 mFa) (hc36 mFr) (hc37 mFo) (hc38 mRt) (hc39 mRm) (hc40 mTt) (hc41 mTi) (hc42 mPl) (hc43 mVr) (hc44 mVf) (hc45 mVc) (hc46 mAr) (hc47 mTc) (hc48 f_2) (hc49 mGo) dyn, 0, 0)) (h := (117, [(5, .int 2), (0, .ref 25), (1, .int t), (2, .int w), (3, .int f), (4, .int s)], [.ref 25], hq g c1 c2 c3 c4 c5 c6 c7 c8 c9 c10 c11 c12 c13 c14 c15 c16 c17 c18 c19 c20 c21 c22 c23 c24 (hc25 mTy mTm mMn mFn mRn mTn mVn mLr mTr mFl w_2 1 mSc mMp mEn) (hc26 mPa) (hc27 mTo) (hc28 mOt) (hc29 mNa) (hc30 mRe) (hc31 mMa) (hc32 mMy) (hc33 mPm) (hc34 mFy) (hc35 mFa) (hc36 mFr) (hc37 mFo) (hc38 mRt) (hc39 mRm) (hc40 mTt) (hc41 mTi) (hc42 mPl) (hc43 mVr) (hc44 mVf) (hc45 mVc) (hc46 mAr) (hc47 mTc) (hc48 f_2) (hc49 mGo) dyn, 0, 0)) rfl (fun h19 => ?_) (fun h19 => ?_)
  ·
    have h19 := qT_le (cx := (w_2).toInt) (cy := 0) rfl (by decide) h19
    refine pm_go (g := (123, _, [.int 0, .ref 25], _, 0, 0)) rfl ?_
    refine pm_go (g := (126, _, [], hq g c1 c2 c3 c4 c5 c6 c7 c8 c9 c10 c11 c12 c13 c14 c15 c16 c17 c18 c19 c20 c21 c22 c23 c24 (hc25 mTy mTm mMn mFn mRn mTn mVn mLr mTr mFl w_2 0 mSc mMp mEn) (hc26 mPa) (hc27 mTo) (hc28 mOt) (hc29 mNa) (hc30 mRe) (hc31 mMa) (hc32 mMy) (hc33 mPm) (hc34 mFy) (hc35 mFa) (hc36 mFr) (hc37 mFo) (hc38 mRt) (hc39 mRm) (hc40 mTt) (hc41 mTi) (hc42 mPl) (hc43 mVr) (hc44 mVf) (hc45 mVc) (hc46 mAr) (hc47 mTc) (hc48 f_2) (hc49 mGo) dyn, 0, 0)) rfl ?_
    refine pm_go (g := (129, [(5, .int 3), (0, .ref 25), (1, .int t), (2, .int w), (3, .int f), (4, .int s)], [], _, 0, 0)) rfl ?_
    refine pm_go (g := (7, _, [], _, 0, 0)) rfl ?_
    refine pm_go (g := (9, _, [.int 3], _, 0, 0)) rfl ?_
    refine pm_go (g := (10, _, [.int 3, .int 3], _, 0, 0)) rfl ?_
    refine pm_brF (h := (13, [(5, .int 3), (0, .ref 25), (1, .int t), (2, .int w), (3, .int f), (4, .int s)], [], hq g c1 c2 c3 c4 c5 c6 c7 c8 c9 c10 c11 c12 c13 c14 c15 c16 c17 c18 c19 c20 c21 c22 c23 c24 (hc25 mTy mTm mMn mFn mRn mTn mVn mLr mTr mFl w_2 0 mSc mMp mEn) (hc26 mPa) (hc27 mTo) (hc28 mOt) (hc29 mNa) (hc30 mRe) (hc31 mMa) (hc32 mMy) (hc33 mPm) (hc34 mFy) (hc35 mFa) (hc36 mFr) (hc37 mFo) (hc38 mRt) (hc39 mRm) (hc40 mTt) (hc41 mTi) (hc42 mPl) (hc43 mVr) (hc44 mVf) (hc45 mVc) (hc46 mAr) (hc47 mTc) (hc48 f_2) (hc49 mGo) dyn, 0, 0)) rfl ?_
    refine pm_go (g := (14, _, [.ref 25], _, 0, 0)) rfl ?_
    refine pm_go (g := (17, _, [.int w_2], _, 0, 0)) rfl ?_
    refine pm_if2 (g := (132, [(5, .int 3), (0, .ref 25), (1, .int t), (2, .int w), (3, .int f), (4, .int s)], [], hq g c1 c2 c3 c4 c5 c6 c7 c8 c9 c10 c11 c12 c13 c14 c15 c16 c17 c18 c19 c20 c21 c22 c23 c24 (hc25 mTy mTm mMn mFn mRn mTn mVn mLr mTr mFl w_2 0 mSc mMp mEn) (hc26 mPa) (hc27 mTo) (hc28 mOt) (hc29 mNa) (hc30 mRe) (hc31 mMa) (hc32 mMy) (hc33 mPm) (hc34 mFy) (hc35 mFa) (hc36 mFr) (hc37 mFo) (hc38 mRt) (hc39 mRm) (hc40 mTt) (hc41 mTi) (hc42 mPl) (hc43 mVr) (hc44 mVf) (hc45 mVc) (hc46 mAr) (hc47 mTc) (hc48 f_2) (hc49 mGo) dyn, 0, 0)) (h := (20, [(5, .int 3), (0, .ref 25), (1, .int t), (2, .int w), (3, .int f), (4, .int s)], [], hq g c1 c2 c3 c4 c5 c6 c7 c8 c9 c10 c11 c12 c13 c14 c15 c16 c17 c18 c19 c20 c21 c22 c23 c24 (hc25 mTy mTm mMn mFn mRn mTn mVn mLr mTr mFl w_2 0 mSc mMp mEn) (hc26 mPa) (hc27 mTo) (hc28 mOt) (hc29 mNa) (hc30 mRe) (hc31 mMa) (hc32 mMy) (hc33 mPm) (hc34 mFy) (hc35 mFa) (hc36 mFr) (hc37 mFo) (hc38 mRt) (hc39 mRm) (hc40 mTt) (hc41 mTi) (hc42 mPl) (hc43 mVr) (hc44 mVf) (hc45 mVc) (hc46 mAr) (hc47 mTc) (hc48 f_2) (hc49 mGo) dyn, 0, 0)) rfl (fun h20 => ?_) (fun h20 => ?_)
    ·
      have h20 := qT_ne (cx := (w_2).toInt) (cy := 0) rfl (by decide) h20
      refine pm_go (g := (133, _, [.ref 25], _, 0, 0)) rfl ?_
      refine pm_go (g := (136, _, [.int w_2], _, 0, 0)) rfl ?_
      refine pm_if2 (g := (142, [(5, .int 3), (0, .ref 25), (1, .int t), (2, .int w), (3, .int f), (4, .int s)], [], hq g c1 c2 c3 c4 c5 c6 c7 c8 c9 c10 c11 c12 c13 c14 c15 c16 c17 c18 c19 c20 c21 c22 c23 c24 (hc25 mTy mTm mMn mFn mRn mTn mVn mLr mTr mFl w_2 0 mSc mMp mEn) (hc26 mPa) (hc27 mTo) (hc28 mOt) (hc29 mNa) (hc30 mRe) (hc31 mMa) (hc32 mMy) (hc33 mPm) (hc34 mFy) (hc35 mFa) (hc36 mFr) (hc37 mFo) (hc38 mRt) (hc39 mRm) (hc40 mTt) (hc41 mTi) (hc42 mPl) (hc43 mVr) (hc44 mVf) (hc45 mVc) (hc46 mAr) (hc47 mTc) (hc48 f_2) (hc49 mGo) dyn, 0, 0)) (h := (139, [(5, .int 3), (0, .ref 25), (1, .int t), (2, .int w), (3, .int f), (4, .int s)], [], hq g c1 c2 c3 c4 c5 c6 c7 c8 c9 c10 c11 c12 c13 c14 c15 c16 c17 c18 c19 c20 c21 c22 c23 c24 (hc25 mTy mTm mMn mFn mRn mTn mVn mLr mTr mFl w_2 0 mSc mMp mEn) (hc26 mPa) (hc27 mTo) (hc28 mOt) (hc29 mNa) (hc30 mRe) (hc31 mMa) (hc32 mMy) (hc33 mPm) (hc34 mFy) (hc35 mFa) (hc36 mFr) (hc37 mFo) (hc38 mRt) (hc39 mRm) (hc40 mTt) (hc41 mTi) (hc42 mPl) (hc43 mVr) (hc44 mVf) (hc45 mVc) (hc46 mAr) (hc47 mTc) (hc48 f_2) (hc49 mGo) dyn, 0, 0)) rfl (fun h21 => ?_) (fun h21 => ?_)
      ·
        have h21 := qT_ne (cx := (w_2).toInt) (cy := 0) rfl (by decide) h21
        refine pm_go (g := (144, _, [.int (-4)], _, 0, 0)) rfl ?_
        refine pm_go (g := (146, [(5, .int (-4)), (0, .ref 25), (1, .int t), (2, .int w), (3, .int f), (4, .int s)], [], _, 0, 0)) rfl ?_
        refine pm_go (g := (147, _, [.int 0], _, 0, 0)) rfl ?_
        refine pm_go (g := (149, [(6, .int 0), (5, .int (-4)), (0, .ref 25), (1, .int t), (2, .int w), (3, .int f), (4, .int s)], [], _, 0, 0)) rfl ?_
        refine pm_go (g := (150, _, [.int 0], _, 0, 0)) rfl ?_
        refine pm_go (g := (152, [(7, .int 0), (6, .int 0), (5, .int (-4)), (0, .ref 25), (1, .int t), (2, .int w), (3, .int f), (4, .int s)], [], _, 0, 0)) rfl ?_
        exfalso; omega
      have h21 := qF_ne (cx := (w_2).toInt) (cy := 0) rfl (by decide) h21
      refine pm_go (g := (141, [(5, .int 3), (0, .ref 25), (1, .int t), (2, .int w), (3, .int f), (4, .int s)], [.int (-4)], _, 0, 0)) rfl ?_
      exfalso; omega
    have h20 := qF_ne (cx := (w_2).toInt) (cy := 0) rfl (by decide) h20
    refine pm_go (g := (21, _, [.int 0], _, 0, 0)) rfl ?_
    refine pm_go (g := (23, [(6, .int 0), (5, .int 3), (0, .ref 25), (1, .int t), (2, .int w), (3, .int f), (4, .int s)], [], _, 0, 0)) rfl ?_
    refine pm_sub (lv := [(6, .int 0), (5, .int 3), (0, .ref 25), (1, .int t), (2, .int w), (3, .int f), (4, .int s)]) ?_ ⟨le_c (List.Mem.head _) (le_c (List.Mem.tail _ (List.Mem.head _)) (le_c (List.Mem.tail _ (List.Mem.tail _ (List.Mem.head _))) (le_c (List.Mem.tail _ (List.Mem.tail _ (List.Mem.tail _ (List.Mem.head _)))) (le_c (List.Mem.tail _ (List.Mem.tail _ (List.Mem.tail _ (List.Mem.tail _ (List.Mem.head _))))) (le_c (List.Mem.tail _ (List.Mem.tail _ (List.Mem.tail _ (List.Mem.tail _ (List.Mem.tail _ (List.Mem.head _)))))) (le_c (List.Mem.tail _ (List.Mem.tail _ (List.Mem.tail _ (List.Mem.tail _ (List.Mem.tail _ (List.Mem.tail _ (List.Mem.head _))))))) le_n)))))), (show ([6, 5, 0, 1, 2, 3, 4] : List Nat).Nodup by decide)⟩
    refine w_searched_phase (mFm := mFm) (mFt := mFt) t w f s 3 p0 p1 p2 (by omega) p3 p4 p5 p6 41 0 f_2 w_2 (by omega) (by omega) (fun j q => absurd q (Nat.not_lt_zero j)) (by first | rfl | (show _ = (0 : Int); omega)) (fun f_3 w_3 hX3 hC3 => ?_)
    show pm_WP 150 (109, [(5, .int 3), (0, .ref 25), (1, .int t), (2, .int w), (3, .int f), (4, .int s)], [], _, 0, 0) _
    have hb3 := cF_b f_3 mMn.toNatClampNeg
    refine pm_go (g := (110, _, [.ref 25], _, 0, 0)) rfl ?_
    refine pm_go (g := (111, _, [.ref 25, .ref 25], _, 0, 0)) rfl ?_
    refine pm_go (g := (114, _, [.int w_3, .ref 25], _, 0, 0)) rfl ?_
    refine pm_if2 (g := (122, [(5, .int 3), (0, .ref 25), (1, .int t), (2, .int w), (3, .int f), (4, .int s)], [.ref 25], hq g c1 c2 c3 c4 c5 c6 c7 c8 c9 c10 c11 c12 c13 c14 c15 c16 c17 c18 c19 c20 c21 c22 c23 c24 (hc25 mTy mTm mMn mFn mRn mTn mVn mLr mTr mFl w_3 0 mSc mMp mEn) (hc26 mPa) (hc27 mTo) (hc28 mOt) (hc29 mNa) (hc30 mRe) (hc31 mMa) (hc32 mMy) (hc33 mPm) (hc34 mFy) (hc35 mFa) (hc36 mFr) (hc37 mFo) (hc38 mRt) (hc39 mRm) (hc40 mTt) (hc41 mTi) (hc42 mPl) (hc43 mVr) (hc44 mVf) (hc45 mVc) (hc46 mAr) (hc47 mTc) (hc48 f_3) (hc49 mGo) dyn, 0, 0)) (h := (117, [(5, .int 3), (0, .ref 25), (1, .int t), (2, .int w), (3, .int f), (4, .int s)], [.ref 25], hq g c1 c2 c3 c4 c5 c6 c7 c8 c9 c10 c11 c12 c13 c14 c15 c16 c17 c18 c19 c20 c21 c22 c23 c24 (hc25 mTy mTm mMn mFn mRn mTn mVn mLr mTr mFl w_3 0 mSc mMp mEn) (hc26 mPa) (hc27 mTo) (hc28 mOt) (hc29 mNa) (hc30 mRe) (hc31 mMa) (hc32 mMy) (hc33 mPm) (hc34 mFy) (hc35 mFa) (hc36 mFr) (hc37 mFo) (hc38 mRt) (hc39 mRm) (hc40 mTt) (hc41 mTi) (hc42 mPl) (hc43 mVr) (hc44 mVf) (hc45 mVc) (hc46 mAr) (hc47 mTc) (hc48 f_3) (hc49 mGo) dyn, 0, 0)) rfl (fun h22 => ?_) (fun h22 => ?_)
    ·
      have h22 := qT_le (cx := (w_3).toInt) (cy := 0) rfl (by decide) h22
      refine pm_go (g := (123, _, [.int 0, .ref 25], _, 0, 0)) rfl ?_
      refine pm_go (g := (126, _, [], _, 0, 0)) rfl ?_
      refine pm_go (g := (129, [(5, .int 4), (0, .ref 25), (1, .int t), (2, .int w), (3, .int f), (4, .int s)], [], _, 0, 0)) rfl ?_
      refine pm_go (g := (7, _, [], _, 0, 0)) rfl ?_
      refine pm_go (g := (9, _, [.int 4], _, 0, 0)) rfl ?_
      refine pm_go (g := (10, _, [.int 3, .int 4], _, 0, 0)) rfl ?_
      refine pm_brT (g := (132, [(5, .int 4), (0, .ref 25), (1, .int t), (2, .int w), (3, .int f), (4, .int s)], [], hq g c1 c2 c3 c4 c5 c6 c7 c8 c9 c10 c11 c12 c13 c14 c15 c16 c17 c18 c19 c20 c21 c22 c23 c24 (hc25 mTy mTm mMn mFn mRn mTn mVn mLr mTr mFl w_3 0 mSc mMp mEn) (hc26 mPa) (hc27 mTo) (hc28 mOt) (hc29 mNa) (hc30 mRe) (hc31 mMa) (hc32 mMy) (hc33 mPm) (hc34 mFy) (hc35 mFa) (hc36 mFr) (hc37 mFo) (hc38 mRt) (hc39 mRm) (hc40 mTt) (hc41 mTi) (hc42 mPl) (hc43 mVr) (hc44 mVf) (hc45 mVc) (hc46 mAr) (hc47 mTc) (hc48 f_3) (hc49 mGo) dyn, 0, 0)) rfl ?_
      refine pm_go (g := (133, _, [.ref 25], _, 0, 0)) rfl ?_
      refine pm_go (g := (136, _, [.int w_3], _, 0, 0)) rfl ?_
      refine pm_if2 (g := (142, [(5, .int 4), (0, .ref 25), (1, .int t), (2, .int w), (3, .int f), (4, .int s)], [], hq g c1 c2 c3 c4 c5 c6 c7 c8 c9 c10 c11 c12 c13 c14 c15 c16 c17 c18 c19 c20 c21 c22 c23 c24 (hc25 mTy mTm mMn mFn mRn mTn mVn mLr mTr mFl w_3 0 mSc mMp mEn) (hc26 mPa) (hc27 mTo) (hc28 mOt) (hc29 mNa) (hc30 mRe) (hc31 mMa) (hc32 mMy) (hc33 mPm) (hc34 mFy) (hc35 mFa) (hc36 mFr) (hc37 mFo) (hc38 mRt) (hc39 mRm) (hc40 mTt) (hc41 mTi) (hc42 mPl) (hc43 mVr) (hc44 mVf) (hc45 mVc) (hc46 mAr) (hc47 mTc) (hc48 f_3) (hc49 mGo) dyn, 0, 0)) (h := (139, [(5, .int 4), (0, .ref 25), (1, .int t), (2, .int w), (3, .int f), (4, .int s)], [], hq g c1 c2 c3 c4 c5 c6 c7 c8 c9 c10 c11 c12 c13 c14 c15 c16 c17 c18 c19 c20 c21 c22 c23 c24 (hc25 mTy mTm mMn mFn mRn mTn mVn mLr mTr mFl w_3 0 mSc mMp mEn) (hc26 mPa) (hc27 mTo) (hc28 mOt) (hc29 mNa) (hc30 mRe) (hc31 mMa) (hc32 mMy) (hc33 mPm) (hc34 mFy) (hc35 mFa) (hc36 mFr) (hc37 mFo) (hc38 mRt) (hc39 mRm) (hc40 mTt) (hc41 mTi) (hc42 mPl) (hc43 mVr) (hc44 mVf) (hc45 mVc) (hc46 mAr) (hc47 mTc) (hc48 f_3) (hc49 mGo) dyn, 0, 0)) rfl (fun h23 => ?_) (fun h23 => ?_)
      ·
        have h23 := qT_ne (cx := (w_3).toInt) (cy := 0) rfl (by decide) h23
        refine pm_go (g := (144, _, [.int (-4)], _, 0, 0)) rfl ?_
        refine pm_go (g := (146, [(5, .int (-4)), (0, .ref 25), (1, .int t), (2, .int w), (3, .int f), (4, .int s)], [], _, 0, 0)) rfl ?_
        refine pm_go (g := (147, _, [.int 0], _, 0, 0)) rfl ?_
        refine pm_go (g := (149, [(6, .int 0), (5, .int (-4)), (0, .ref 25), (1, .int t), (2, .int w), (3, .int f), (4, .int s)], [], _, 0, 0)) rfl ?_
        refine pm_go (g := (150, _, [.int 0], _, 0, 0)) rfl ?_
        refine pm_go (g := (152, [(7, .int 0), (6, .int 0), (5, .int (-4)), (0, .ref 25), (1, .int t), (2, .int w), (3, .int f), (4, .int s)], [], _, 0, 0)) rfl ?_
        exfalso; omega
      have h23 := qF_ne (cx := (w_3).toInt) (cy := 0) rfl (by decide) h23
      refine pm_go (g := (141, [(5, .int 4), (0, .ref 25), (1, .int t), (2, .int w), (3, .int f), (4, .int s)], [.int (-4)], _, 0, 0)) rfl ?_
      have hsr : srM mPa mOt mNa mMy mPm mMa mFa mFy mMn t w f s 0 (-4) := Or.inl ⟨rfl, rfl, nf_of hX1 p6.1 (by omega), nf_of hX2 p6.1 (by omega), nf_of hX3 p6.1 (by omega)⟩
      exact pm_ret rfl (k0 f_3 w_3 0 (-4) hsr (ft_0 p6.1 (by omega)) hC3 (srM_b p6 hsr))
    have h22 := qF_le (cx := (w_3).toInt) (cy := 0) rfl (by decide) h22
    refine pm_go (g := (119, [(5, .int 3), (0, .ref 25), (1, .int t), (2, .int w), (3, .int f), (4, .int s)], [.int 3, .ref 25], _, 0, 0)) rfl ?_
    refine pm_go (g := (123, _, [.int 3, .ref 25], _, 0, 0)) rfl ?_
    refine pm_go (g := (126, _, [], hq g c1 c2 c3 c4 c5 c6 c7 c8 c9 c10 c11 c12 c13 c14 c15 c16 c17 c18 c19 c20 c21 c22 c23 c24 (hc25 mTy mTm mMn mFn mRn mTn mVn mLr mTr mFl w_3 3 mSc mMp mEn) (hc26 mPa) (hc27 mTo) (hc28 mOt) (hc29 mNa) (hc30 mRe) (hc31 mMa) (hc32 mMy) (hc33 mPm) (hc34 mFy) (hc35 mFa) (hc36 mFr) (hc37 mFo) (hc38 mRt) (hc39 mRm) (hc40 mTt) (hc41 mTi) (hc42 mPl) (hc43 mVr) (hc44 mVf) (hc45 mVc) (hc46 mAr) (hc47 mTc) (hc48 f_3) (hc49 mGo) dyn, 0, 0)) rfl ?_
    refine pm_go (g := (129, [(5, .int 4), (0, .ref 25), (1, .int t), (2, .int w), (3, .int f), (4, .int s)], [], _, 0, 0)) rfl ?_
    refine pm_go (g := (7, _, [], _, 0, 0)) rfl ?_
    refine pm_go (g := (9, _, [.int 4], _, 0, 0)) rfl ?_
    refine pm_go (g := (10, _, [.int 3, .int 4], _, 0, 0)) rfl ?_
    refine pm_brT (g := (132, [(5, .int 4), (0, .ref 25), (1, .int t), (2, .int w), (3, .int f), (4, .int s)], [], hq g c1 c2 c3 c4 c5 c6 c7 c8 c9 c10 c11 c12 c13 c14 c15 c16 c17 c18 c19 c20 c21 c22 c23 c24 (hc25 mTy mTm mMn mFn mRn mTn mVn mLr mTr mFl w_3 3 mSc mMp mEn) (hc26 mPa) (hc27 mTo) (hc28 mOt) (hc29 mNa) (hc30 mRe) (hc31 mMa) (hc32 mMy) (hc33 mPm) (hc34 mFy) (hc35 mFa) (hc36 mFr) (hc37 mFo) (hc38 mRt) (hc39 mRm) (hc40 mTt) (hc41 mTi) (hc42 mPl) (hc43 mVr) (hc44 mVf) (hc45 mVc) (hc46 mAr) (hc47 mTc) (hc48 f_3) (hc49 mGo) dyn, 0, 0)) rfl ?_
    refine pm_go (g := (133, _, [.ref 25], _, 0, 0)) rfl ?_
    refine pm_go (g := (136, _, [.int w_3], _, 0, 0)) rfl ?_
    refine pm_if2 (g := (142, [(5, .int 4), (0, .ref 25), (1, .int t), (2, .int w), (3, .int f), (4, .int s)], [], hq g c1 c2 c3 c4 c5 c6 c7 c8 c9 c10 c11 c12 c13 c14 c15 c16 c17 c18 c19 c20 c21 c22 c23 c24 (hc25 mTy mTm mMn mFn mRn mTn mVn mLr mTr mFl w_3 3 mSc mMp mEn) (hc26 mPa) (hc27 mTo) (hc28 mOt) (hc29 mNa) (hc30 mRe) (hc31 mMa) (hc32 mMy) (hc33 mPm) (hc34 mFy) (hc35 mFa) (hc36 mFr) (hc37 mFo) (hc38 mRt) (hc39 mRm) (hc40 mTt) (hc41 mTi) (hc42 mPl) (hc43 mVr) (hc44 mVf) (hc45 mVc) (hc46 mAr) (hc47 mTc) (hc48 f_3) (hc49 mGo) dyn, 0, 0)) (h := (139, [(5, .int 4), (0, .ref 25), (1, .int t), (2, .int w), (3, .int f), (4, .int s)], [], hq g c1 c2 c3 c4 c5 c6 c7 c8 c9 c10 c11 c12 c13 c14 c15 c16 c17 c18 c19 c20 c21 c22 c23 c24 (hc25 mTy mTm mMn mFn mRn mTn mVn mLr mTr mFl w_3 3 mSc mMp mEn) (hc26 mPa) (hc27 mTo) (hc28 mOt) (hc29 mNa) (hc30 mRe) (hc31 mMa) (hc32 mMy) (hc33 mPm) (hc34 mFy) (hc35 mFa) (hc36 mFr) (hc37 mFo) (hc38 mRt) (hc39 mRm) (hc40 mTt) (hc41 mTi) (hc42 mPl) (hc43 mVr) (hc44 mVf) (hc45 mVc) (hc46 mAr) (hc47 mTc) (hc48 f_3) (hc49 mGo) dyn, 0, 0)) rfl (fun h24 => ?_) (fun h24 => ?_)
    ·
      have h24 := qT_ne (cx := (w_3).toInt) (cy := 0) rfl (by decide) h24
      refine pm_go (g := (144, _, [.int (-4)], _, 0, 0)) rfl ?_
      refine pm_go (g := (146, [(5, .int (-4)), (0, .ref 25), (1, .int t), (2, .int w), (3, .int f), (4, .int s)], [], _, 0, 0)) rfl ?_
      refine pm_go (g := (147, _, [.int 0], _, 0, 0)) rfl ?_
      refine pm_go (g := (149, [(6, .int 0), (5, .int (-4)), (0, .ref 25), (1, .int t), (2, .int w), (3, .int f), (4, .int s)], [], _, 0, 0)) rfl ?_
      refine pm_go (g := (150, _, [.int 0], _, 0, 0)) rfl ?_
      refine pm_go (g := (152, [(7, .int 0), (6, .int 0), (5, .int (-4)), (0, .ref 25), (1, .int t), (2, .int w), (3, .int f), (4, .int s)], [], _, 0, 0)) rfl ?_
      refine pm_sub (lv := [(7, .int 0), (6, .int 0), (5, .int (-4)), (0, .ref 25), (1, .int t), (2, .int w), (3, .int f), (4, .int s)]) ?_ ⟨le_c (List.Mem.head _) (le_c (List.Mem.tail _ (List.Mem.head _)) (le_c (List.Mem.tail _ (List.Mem.tail _ (List.Mem.head _))) (le_c (List.Mem.tail _ (List.Mem.tail _ (List.Mem.tail _ (List.Mem.head _)))) (le_c (List.Mem.tail _ (List.Mem.tail _ (List.Mem.tail _ (List.Mem.tail _ (List.Mem.head _))))) (le_c (List.Mem.tail _ (List.Mem.tail _ (List.Mem.tail _ (List.Mem.tail _ (List.Mem.tail _ (List.Mem.head _)))))) (le_c (List.Mem.tail _ (List.Mem.tail _ (List.Mem.tail _ (List.Mem.tail _ (List.Mem.tail _ (List.Mem.tail _ (List.Mem.head _))))))) (le_c (List.Mem.tail _ (List.Mem.tail _ (List.Mem.tail _ (List.Mem.tail _ (List.Mem.tail _ (List.Mem.tail _ (List.Mem.tail _ (List.Mem.head _)))))))) le_n))))))), (show ([7, 6, 5, 0, 1, 2, 3, 4] : List Nat).Nodup by decide)⟩
      refine w_searched_best t w f s p0 p1 p2 (by omega) p3 p4 p6 (fv_of hX3 p6 p5) 41 0 (-4) 0 (by omega) (by omega) bs_0 (fun r9 hu => ?_)
      have hu2 := uqM_c (spF_c p6.2 hX3) hu
      have hsr : srM mPa mOt mNa mMy mPm mMa mFa mFy mMn t w f s 3 r9 := Or.inr (Or.inr (Or.inr ⟨rfl, nf_of hX1 p6.1 (by omega), nf_of hX2 p6.1 (by omega), nn_of hX3 p6.1 (by omega), hu2⟩))
      exact k0 f_3 w_3 3 r9 hsr (ft_of hX3 (by omega)) hC3 (srM_b p6 hsr)
    have h24 := qF_ne (cx := (w_3).toInt) (cy := 0) rfl (by decide) h24
    refine pm_go (g := (141, [(5, .int 4), (0, .ref 25), (1, .int t), (2, .int w), (3, .int f), (4, .int s)], [.int (-4)], _, 0, 0)) rfl ?_
    exfalso; omega
  have h19 := qF_le (cx := (w_2).toInt) (cy := 0) rfl (by decide) h19
  refine pm_go (g := (119, [(5, .int 2), (0, .ref 25), (1, .int t), (2, .int w), (3, .int f), (4, .int s)], [.int 2, .ref 25], hq g c1 c2 c3 c4 c5 c6 c7 c8 c9 c10 c11 c12 c13 c14 c15 c16 c17 c18 c19 c20 c21 c22 c23 c24 (hc25 mTy mTm mMn mFn mRn mTn mVn mLr mTr mFl w_2 1 mSc mMp mEn) (hc26 mPa) (hc27 mTo) (hc28 mOt) (hc29 mNa) (hc30 mRe) (hc31 mMa) (hc32 mMy) (hc33 mPm) (hc34 mFy) (hc35 mFa) (hc36 mFr) (hc37 mFo) (hc38 mRt) (hc39 mRm) (hc40 mTt) (hc41 mTi) (hc42 mPl) (hc43 mVr) (hc44 mVf) (hc45 mVc) (hc46 mAr) (hc47 mTc) (hc48 f_2) (hc49 mGo) dyn, 0, 0)) rfl ?_
  refine pm_go (g := (123, _, [.int 2, .ref 25], _, 0, 0)) rfl ?_
  refine pm_go (g := (126, _, [], hq g c1 c2 c3 c4 c5 c6 c7 c8 c9 c10 c11 c12 c13 c14 c15 c16 c17 c18 c19 c20 c21 c22 c23 c24 (hc25 mTy mTm mMn mFn mRn mTn mVn mLr mTr mFl w_2 2 mSc mMp mEn) (hc26 mPa) (hc27 mTo) (hc28 mOt) (hc29 mNa) (hc30 mRe) (hc31 mMa) (hc32 mMy) (hc33 mPm) (hc34 mFy) (hc35 mFa) (hc36 mFr) (hc37 mFo) (hc38 mRt) (hc39 mRm) (hc40 mTt) (hc41 mTi) (hc42 mPl) (hc43 mVr) (hc44 mVf) (hc45 mVc) (hc46 mAr) (hc47 mTc) (hc48 f_2) (hc49 mGo) dyn, 0, 0)) rfl ?_
  refine pm_go (g := (129, [(5, .int 3), (0, .ref 25), (1, .int t), (2, .int w), (3, .int f), (4, .int s)], [], _, 0, 0)) rfl ?_
  refine pm_go (g := (7, _, [], _, 0, 0)) rfl ?_
  refine pm_go (g := (9, _, [.int 3], _, 0, 0)) rfl ?_
  refine pm_go (g := (10, _, [.int 3, .int 3], _, 0, 0)) rfl ?_
  refine pm_brF (h := (13, [(5, .int 3), (0, .ref 25), (1, .int t), (2, .int w), (3, .int f), (4, .int s)], [], hq g c1 c2 c3 c4 c5 c6 c7 c8 c9 c10 c11 c12 c13 c14 c15 c16 c17 c18 c19 c20 c21 c22 c23 c24 (hc25 mTy mTm mMn mFn mRn mTn mVn mLr mTr mFl w_2 2 mSc mMp mEn) (hc26 mPa) (hc27 mTo) (hc28 mOt) (hc29 mNa) (hc30 mRe) (hc31 mMa) (hc32 mMy) (hc33 mPm) (hc34 mFy) (hc35 mFa) (hc36 mFr) (hc37 mFo) (hc38 mRt) (hc39 mRm) (hc40 mTt) (hc41 mTi) (hc42 mPl) (hc43 mVr) (hc44 mVf) (hc45 mVc) (hc46 mAr) (hc47 mTc) (hc48 f_2) (hc49 mGo) dyn, 0, 0)) rfl ?_
  refine pm_go (g := (14, _, [.ref 25], _, 0, 0)) rfl ?_
  refine pm_go (g := (17, _, [.int w_2], _, 0, 0)) rfl ?_
  refine pm_if2 (g := (132, [(5, .int 3), (0, .ref 25), (1, .int t), (2, .int w), (3, .int f), (4, .int s)], [], hq g c1 c2 c3 c4 c5 c6 c7 c8 c9 c10 c11 c12 c13 c14 c15 c16 c17 c18 c19 c20 c21 c22 c23 c24 (hc25 mTy mTm mMn mFn mRn mTn mVn mLr mTr mFl w_2 2 mSc mMp mEn) (hc26 mPa) (hc27 mTo) (hc28 mOt) (hc29 mNa) (hc30 mRe) (hc31 mMa) (hc32 mMy) (hc33 mPm) (hc34 mFy) (hc35 mFa) (hc36 mFr) (hc37 mFo) (hc38 mRt) (hc39 mRm) (hc40 mTt) (hc41 mTi) (hc42 mPl) (hc43 mVr) (hc44 mVf) (hc45 mVc) (hc46 mAr) (hc47 mTc) (hc48 f_2) (hc49 mGo) dyn, 0, 0)) (h := (20, [(5, .int 3), (0, .ref 25), (1, .int t), (2, .int w), (3, .int f), (4, .int s)], [], hq g c1 c2 c3 c4 c5 c6 c7 c8 c9 c10 c11 c12 c13 c14 c15 c16 c17 c18 c19 c20 c21 c22 c23 c24 (hc25 mTy mTm mMn mFn mRn mTn mVn mLr mTr mFl w_2 2 mSc mMp mEn) (hc26 mPa) (hc27 mTo) (hc28 mOt) (hc29 mNa) (hc30 mRe) (hc31 mMa) (hc32 mMy) (hc33 mPm) (hc34 mFy) (hc35 mFa) (hc36 mFr) (hc37 mFo) (hc38 mRt) (hc39 mRm) (hc40 mTt) (hc41 mTi) (hc42 mPl) (hc43 mVr) (hc44 mVf) (hc45 mVc) (hc46 mAr) (hc47 mTc) (hc48 f_2) (hc49 mGo) dyn, 0, 0)) rfl (fun h25 => ?_) (fun h25 => ?_)
  ·
    have h25 := qT_ne (cx := (w_2).toInt) (cy := 0) rfl (by decide) h25
    refine pm_go (g := (133, _, [.ref 25], _, 0, 0)) rfl ?_
    refine pm_go (g := (136, _, [.int w_2], _, 0, 0)) rfl ?_
    refine pm_if2 (g := (142, [(5, .int 3), (0, .ref 25), (1, .int t), (2, .int w), (3, .int f), (4, .int s)], [], hq g c1 c2 c3 c4 c5 c6 c7 c8 c9 c10 c11 c12 c13 c14 c15 c16 c17 c18 c19 c20 c21 c22 c23 c24 (hc25 mTy mTm mMn mFn mRn mTn mVn mLr mTr mFl w_2 2 mSc mMp mEn) (hc26 mPa) (hc27 mTo) (hc28 mOt) (hc29 mNa) (hc30 mRe) (hc31 mMa) (hc32 mMy) (hc33 mPm) (hc34 mFy) (hc35 mFa) (hc36 mFr) (hc37 mFo) (hc38 mRt) (hc39 mRm) (hc40 mTt) (hc41 mTi) (hc42 mPl) (hc43 mVr) (hc44 mVf) (hc45 mVc) (hc46 mAr) (hc47 mTc) (hc48 f_2) (hc49 mGo) dyn, 0, 0)) (h := (139, [(5, .int 3), (0, .ref 25), (1, .int t), (2, .int w), (3, .int f), (4, .int s)], [], hq g c1 c2 c3 c4 c5 c6 c7 c8 c9 c10 c11 c12 c13 c14 c15 c16 c17 c18 c19 c20 c21 c22 c23 c24 (hc25 mTy mTm mMn mFn mRn mTn mVn mLr mTr mFl w_2 2 mSc mMp mEn) (hc26 mPa) (hc27 mTo) (hc28 mOt) (hc29 mNa) (hc30 mRe) (hc31 mMa) (hc32 mMy) (hc33 mPm) (hc34 mFy) (hc35 mFa) (hc36 mFr) (hc37 mFo) (hc38 mRt) (hc39 mRm) (hc40 mTt) (hc41 mTi) (hc42 mPl) (hc43 mVr) (hc44 mVf) (hc45 mVc) (hc46 mAr) (hc47 mTc) (hc48 f_2) (hc49 mGo) dyn, 0, 0)) rfl (fun h26 => ?_) (fun h26 => ?_)
    ·
      have h26 := qT_ne (cx := (w_2).toInt) (cy := 0) rfl (by decide) h26
      refine pm_go (g := (144, _, [.int (-4)], _, 0, 0)) rfl ?_
      refine pm_go (g := (146, [(5, .int (-4)), (0, .ref 25), (1, .int t), (2, .int w), (3, .int f), (4, .int s)], [], _, 0, 0)) rfl ?_
      refine pm_go (g := (147, _, [.int 0], _, 0, 0)) rfl ?_
      refine pm_go (g := (149, [(6, .int 0), (5, .int (-4)), (0, .ref 25), (1, .int t), (2, .int w), (3, .int f), (4, .int s)], [], _, 0, 0)) rfl ?_
      refine pm_go (g := (150, _, [.int 0], _, 0, 0)) rfl ?_
      refine pm_go (g := (152, [(7, .int 0), (6, .int 0), (5, .int (-4)), (0, .ref 25), (1, .int t), (2, .int w), (3, .int f), (4, .int s)], [], _, 0, 0)) rfl ?_
      refine pm_sub (lv := [(7, .int 0), (6, .int 0), (5, .int (-4)), (0, .ref 25), (1, .int t), (2, .int w), (3, .int f), (4, .int s)]) ?_ ⟨le_c (List.Mem.head _) (le_c (List.Mem.tail _ (List.Mem.head _)) (le_c (List.Mem.tail _ (List.Mem.tail _ (List.Mem.head _))) (le_c (List.Mem.tail _ (List.Mem.tail _ (List.Mem.tail _ (List.Mem.head _)))) (le_c (List.Mem.tail _ (List.Mem.tail _ (List.Mem.tail _ (List.Mem.tail _ (List.Mem.head _))))) (le_c (List.Mem.tail _ (List.Mem.tail _ (List.Mem.tail _ (List.Mem.tail _ (List.Mem.tail _ (List.Mem.head _)))))) (le_c (List.Mem.tail _ (List.Mem.tail _ (List.Mem.tail _ (List.Mem.tail _ (List.Mem.tail _ (List.Mem.tail _ (List.Mem.head _))))))) (le_c (List.Mem.tail _ (List.Mem.tail _ (List.Mem.tail _ (List.Mem.tail _ (List.Mem.tail _ (List.Mem.tail _ (List.Mem.tail _ (List.Mem.head _)))))))) le_n))))))), (show ([7, 6, 5, 0, 1, 2, 3, 4] : List Nat).Nodup by decide)⟩
      refine w_searched_best t w f s p0 p1 p2 (by omega) p3 p4 p6 (fv_of hX2 p6 p5) 41 0 (-4) 0 (by omega) (by omega) bs_0 (fun r9 hu => ?_)
      have hu2 := uqM_c (spF_c p6.2 hX2) hu
      have hsr : srM mPa mOt mNa mMy mPm mMa mFa mFy mMn t w f s 2 r9 := Or.inr (Or.inr (Or.inl ⟨rfl, nf_of hX1 p6.1 (by omega), nn_of hX2 p6.1 (by omega), hu2⟩))
      exact k0 f_2 w_2 2 r9 hsr (ft_of hX2 (by omega)) hC2 (srM_b p6 hsr)
    have h26 := qF_ne (cx := (w_2).toInt) (cy := 0) rfl (by decide) h26
    refine pm_go (g := (141, [(5, .int 3), (0, .ref 25), (1, .int t), (2, .int w), (3, .int f), (4, .int s)], [.int (-4)], _, 0, 0)) rfl ?_
    exfalso; omega
  have h25 := qF_ne (cx := (w_2).toInt) (cy := 0) rfl (by decide) h25
  refine pm_go (g := (21, _, [.int 0], _, 0, 0)) rfl ?_
  refine pm_go (g := (23, [(6, .int 0), (5, .int 3), (0, .ref 25), (1, .int t), (2, .int w), (3, .int f), (4, .int s)], [], _, 0, 0)) rfl ?_
  refine pm_sub (lv := [(6, .int 0), (5, .int 3), (0, .ref 25), (1, .int t), (2, .int w), (3, .int f), (4, .int s)]) ?_ ⟨le_c (List.Mem.head _) (le_c (List.Mem.tail _ (List.Mem.head _)) (le_c (List.Mem.tail _ (List.Mem.tail _ (List.Mem.head _))) (le_c (List.Mem.tail _ (List.Mem.tail _ (List.Mem.tail _ (List.Mem.head _)))) (le_c (List.Mem.tail _ (List.Mem.tail _ (List.Mem.tail _ (List.Mem.tail _ (List.Mem.head _))))) (le_c (List.Mem.tail _ (List.Mem.tail _ (List.Mem.tail _ (List.Mem.tail _ (List.Mem.tail _ (List.Mem.head _)))))) (le_c (List.Mem.tail _ (List.Mem.tail _ (List.Mem.tail _ (List.Mem.tail _ (List.Mem.tail _ (List.Mem.tail _ (List.Mem.head _))))))) le_n)))))), (show ([6, 5, 0, 1, 2, 3, 4] : List Nat).Nodup by decide)⟩
  refine w_searched_phase (mFm := mFm) (mFt := mFt) t w f s 3 p0 p1 p2 (by omega) p3 p4 p5 p6 41 0 f_2 w_2 (by omega) (by omega) (fun j q => absurd q (Nat.not_lt_zero j)) (by first | rfl | (show _ = (0 : Int); omega)) (fun f_3 w_3 hX3 hC3 => ?_)
  show pm_WP 150 (109, [(5, .int 3), (0, .ref 25), (1, .int t), (2, .int w), (3, .int f), (4, .int s)], [], _, 0, 0) _
  have hb3 := cF_b f_3 mMn.toNatClampNeg
  refine pm_go (g := (110, _, [.ref 25], _, 0, 0)) rfl ?_
  refine pm_go (g := (111, _, [.ref 25, .ref 25], _, 0, 0)) rfl ?_
  refine pm_go (g := (114, _, [.int w_3, .ref 25], _, 0, 0)) rfl ?_
  refine pm_if2 (g := (122, [(5, .int 3), (0, .ref 25), (1, .int t), (2, .int w), (3, .int f), (4, .int s)], [.ref 25], hq g c1 c2 c3 c4 c5 c6 c7 c8 c9 c10 c11 c12 c13 c14 c15 c16 c17 c18 c19 c20 c21 c22 c23 c24 (hc25 mTy mTm mMn mFn mRn mTn mVn mLr mTr mFl w_3 2 mSc mMp mEn) (hc26 mPa) (hc27 mTo) (hc28 mOt) (hc29 mNa) (hc30 mRe) (hc31 mMa) (hc32 mMy) (hc33 mPm) (hc34 mFy) (hc35 mFa) (hc36 mFr) (hc37 mFo) (hc38 mRt) (hc39 mRm) (hc40 mTt) (hc41 mTi) (hc42 mPl) (hc43 mVr) (hc44 mVf) (hc45 mVc) (hc46 mAr) (hc47 mTc) (hc48 f_3) (hc49 mGo) dyn, 0, 0)) (h := (117, [(5, .int 3), (0, .ref 25), (1, .int t), (2, .int w), (3, .int f), (4, .int s)], [.ref 25], hq g c1 c2 c3 c4 c5 c6 c7 c8 c9 c10 c11 c12 c13 c14 c15 c16 c17 c18 c19 c20 c21 c22 c23 c24 (hc25 mTy mTm mMn mFn mRn mTn mVn mLr mTr mFl w_3 2 mSc mMp mEn) (hc26 mPa) (hc27 mTo) (hc28 mOt) (hc29 mNa) (hc30 mRe) (hc31 mMa) (hc32 mMy) (hc33 mPm) (hc34 mFy) (hc35 mFa) (hc36 mFr) (hc37 mFo) (hc38 mRt) (hc39 mRm) (hc40 mTt) (hc41 mTi) (hc42 mPl) (hc43 mVr) (hc44 mVf) (hc45 mVc) (hc46 mAr) (hc47 mTc) (hc48 f_3) (hc49 mGo) dyn, 0, 0)) rfl (fun h27 => ?_) (fun h27 => ?_)
  ·
    have h27 := qT_le (cx := (w_3).toInt) (cy := 0) rfl (by decide) h27
    refine pm_go (g := (123, _, [.int 0, .ref 25], _, 0, 0)) rfl ?_
    refine pm_go (g := (126, _, [], hq g c1 c2 c3 c4 c5 c6 c7 c8 c9 c10 c11 c12 c13 c14 c15 c16 c17 c18 c19 c20 c21 c22 c23 c24 (hc25 mTy mTm mMn mFn mRn mTn mVn mLr mTr mFl w_3 0 mSc mMp mEn) (hc26 mPa) (hc27 mTo) (hc28 mOt) (hc29 mNa) (hc30 mRe) (hc31 mMa) (hc32 mMy) (hc33 mPm) (hc34 mFy) (hc35 mFa) (hc36 mFr) (hc37 mFo) (hc38 mRt) (hc39 mRm) (hc40 mTt) (hc41 mTi) (hc42 mPl) (hc43 mVr) (hc44 mVf) (hc45 mVc) (hc46 mAr) (hc47 mTc) (hc48 f_3) (hc49 mGo) dyn, 0, 0)) rfl ?_
    refine pm_go (g := (129, [(5, .int 4), (0, .ref 25), (1, .int t), (2, .int w), (3, .int f), (4, .int s)], [], _, 0, 0)) rfl ?_
    refine pm_go (g := (7, _, [], _, 0, 0)) rfl ?_
    refine pm_go (g := (9, _, [.int 4], _, 0, 0)) rfl ?_
    refine pm_go (g := (10, _, [.int 3, .int 4], _, 0, 0)) rfl ?_
    refine pm_brT (g := (132, [(5, .int 4), (0, .ref 25), (1, .int t), (2, .int w), (3, .int f), (4, .int s)], [], hq g c1 c2 c3 c4 c5 c6 c7 c8 c9 c10 c11 c12 c13 c14 c15 c16 c17 c18 c19 c20 c21 c22 c23 c24 (hc25 mTy mTm mMn mFn mRn mTn mVn mLr mTr mFl w_3 0 mSc mMp mEn) (hc26 mPa) (hc27 mTo) (hc28 mOt) (hc29 mNa) (hc30 mRe) (hc31 mMa) (hc32 mMy) (hc33 mPm) (hc34 mFy) (hc35 mFa) (hc36 mFr) (hc37 mFo) (hc38 mRt) (hc39 mRm) (hc40 mTt) (hc41 mTi) (hc42 mPl) (hc43 mVr) (hc44 mVf) (hc45 mVc) (hc46 mAr) (hc47 mTc) (hc48 f_3) (hc49 mGo) dyn, 0, 0)) rfl ?_
    refine pm_go (g := (133, _, [.ref 25], _, 0, 0)) rfl ?_
    refine pm_go (g := (136, _, [.int w_3], _, 0, 0)) rfl ?_
    refine pm_if2 (g := (142, [(5, .int 4), (0, .ref 25), (1, .int t), (2, .int w), (3, .int f), (4, .int s)], [], hq g c1 c2 c3 c4 c5 c6 c7 c8 c9 c10 c11 c12 c13 c14 c15 c16 c17 c18 c19 c20 c21 c22 c23 c24 (hc25 mTy mTm mMn mFn mRn mTn mVn mLr mTr mFl w_3 0 mSc mMp mEn) (hc26 mPa) (hc27 mTo) (hc28 mOt) (hc29 mNa) (hc30 mRe) (hc31 mMa) (hc32 mMy) (hc33 mPm) (hc34 mFy) (hc35 mFa) (hc36 mFr) (hc37 mFo) (hc38 mRt) (hc39 mRm) (hc40 mTt) (hc41 mTi) (hc42 mPl) (hc43 mVr) (hc44 mVf) (hc45 mVc) (hc46 mAr) (hc47 mTc) (hc48 f_3) (hc49 mGo) dyn, 0, 0)) (h := (139, [(5, .int 4), (0, .ref 25), (1, .int t), (2, .int w), (3, .int f), (4, .int s)], [], hq g c1 c2 c3 c4 c5 c6 c7 c8 c9 c10 c11 c12 c13 c14 c15 c16 c17 c18 c19 c20 c21 c22 c23 c24 (hc25 mTy mTm mMn mFn mRn mTn mVn mLr mTr mFl w_3 0 mSc mMp mEn) (hc26 mPa) (hc27 mTo) (hc28 mOt) (hc29 mNa) (hc30 mRe) (hc31 mMa) (hc32 mMy) (hc33 mPm) (hc34 mFy) (hc35 mFa) (hc36 mFr) (hc37 mFo) (hc38 mRt) (hc39 mRm) (hc40 mTt) (hc41 mTi) (hc42 mPl) (hc43 mVr) (hc44 mVf) (hc45 mVc) (hc46 mAr) (hc47 mTc) (hc48 f_3) (hc49 mGo) dyn, 0, 0)) rfl (fun h28 => ?_) (fun h28 => ?_)
    ·
      have h28 := qT_ne (cx := (w_3).toInt) (cy := 0) rfl (by decide) h28
      refine pm_go (g := (144, _, [.int (-4)], _, 0, 0)) rfl ?_
      refine pm_go (g := (146, [(5, .int (-4)), (0, .ref 25), (1, .int t), (2, .int w), (3, .int f), (4, .int s)], [], _, 0, 0)) rfl ?_
      refine pm_go (g := (147, _, [.int 0], _, 0, 0)) rfl ?_
      refine pm_go (g := (149, [(6, .int 0), (5, .int (-4)), (0, .ref 25), (1, .int t), (2, .int w), (3, .int f), (4, .int s)], [], _, 0, 0)) rfl ?_
      refine pm_go (g := (150, _, [.int 0], _, 0, 0)) rfl ?_
      refine pm_go (g := (152, [(7, .int 0), (6, .int 0), (5, .int (-4)), (0, .ref 25), (1, .int t), (2, .int w), (3, .int f), (4, .int s)], [], _, 0, 0)) rfl ?_
      exfalso; omega
    have h28 := qF_ne (cx := (w_3).toInt) (cy := 0) rfl (by decide) h28
    refine pm_go (g := (141, [(5, .int 4), (0, .ref 25), (1, .int t), (2, .int w), (3, .int f), (4, .int s)], [.int (-4)], _, 0, 0)) rfl ?_
    have hsr : srM mPa mOt mNa mMy mPm mMa mFa mFy mMn t w f s 0 (-4) := Or.inl ⟨rfl, rfl, nf_of hX1 p6.1 (by omega), nf_of hX2 p6.1 (by omega), nf_of hX3 p6.1 (by omega)⟩
    exact pm_ret rfl (k0 f_3 w_3 0 (-4) hsr (ft_0 p6.1 (by omega)) hC3 (srM_b p6 hsr))
  have h27 := qF_le (cx := (w_3).toInt) (cy := 0) rfl (by decide) h27
  refine pm_go (g := (119, [(5, .int 3), (0, .ref 25), (1, .int t), (2, .int w), (3, .int f), (4, .int s)], [.int 3, .ref 25], hq g c1 c2 c3 c4 c5 c6 c7 c8 c9 c10 c11 c12 c13 c14 c15 c16 c17 c18 c19 c20 c21 c22 c23 c24 (hc25 mTy mTm mMn mFn mRn mTn mVn mLr mTr mFl w_3 2 mSc mMp mEn) (hc26 mPa) (hc27 mTo) (hc28 mOt) (hc29 mNa) (hc30 mRe) (hc31 mMa) (hc32 mMy) (hc33 mPm) (hc34 mFy) (hc35 mFa) (hc36 mFr) (hc37 mFo) (hc38 mRt) (hc39 mRm) (hc40 mTt) (hc41 mTi) (hc42 mPl) (hc43 mVr) (hc44 mVf) (hc45 mVc) (hc46 mAr) (hc47 mTc) (hc48 f_3) (hc49 mGo) dyn, 0, 0)) rfl ?_
  refine pm_go (g := (123, _, [.int 3, .ref 25], _, 0, 0)) rfl ?_
  refine pm_go (g := (126, _, [], hq g c1 c2 c3 c4 c5 c6 c7 c8 c9 c10 c11 c12 c13 c14 c15 c16 c17 c18 c19 c20 c21 c22 c23 c24 (hc25 mTy mTm mMn mFn mRn mTn mVn mLr mTr mFl w_3 3 mSc mMp mEn) (hc26 mPa) (hc27 mTo) (hc28 mOt) (hc29 mNa) (hc30 mRe) (hc31 mMa) (hc32 mMy) (hc33 mPm) (hc34 mFy) (hc35 mFa) (hc36 mFr) (hc37 mFo) (hc38 mRt) (hc39 mRm) (hc40 mTt) (hc41 mTi) (hc42 mPl) (hc43 mVr) (hc44 mVf) (hc45 mVc) (hc46 mAr) (hc47 mTc) (hc48 f_3) (hc49 mGo) dyn, 0, 0)) rfl ?_
  refine pm_go (g := (129, [(5, .int 4), (0, .ref 25), (1, .int t), (2, .int w), (3, .int f), (4, .int s)], [], _, 0, 0)) rfl ?_
  refine pm_go (g := (7, _, [], _, 0, 0)) rfl ?_
  refine pm_go (g := (9, _, [.int 4], _, 0, 0)) rfl ?_
  refine pm_go (g := (10, _, [.int 3, .int 4], _, 0, 0)) rfl ?_
  refine pm_brT (g := (132, [(5, .int 4), (0, .ref 25), (1, .int t), (2, .int w), (3, .int f), (4, .int s)], [], hq g c1 c2 c3 c4 c5 c6 c7 c8 c9 c10 c11 c12 c13 c14 c15 c16 c17 c18 c19 c20 c21 c22 c23 c24 (hc25 mTy mTm mMn mFn mRn mTn mVn mLr mTr mFl w_3 3 mSc mMp mEn) (hc26 mPa) (hc27 mTo) (hc28 mOt) (hc29 mNa) (hc30 mRe) (hc31 mMa) (hc32 mMy) (hc33 mPm) (hc34 mFy) (hc35 mFa) (hc36 mFr) (hc37 mFo) (hc38 mRt) (hc39 mRm) (hc40 mTt) (hc41 mTi) (hc42 mPl) (hc43 mVr) (hc44 mVf) (hc45 mVc) (hc46 mAr) (hc47 mTc) (hc48 f_3) (hc49 mGo) dyn, 0, 0)) rfl ?_
  refine pm_go (g := (133, _, [.ref 25], _, 0, 0)) rfl ?_
  refine pm_go (g := (136, _, [.int w_3], _, 0, 0)) rfl ?_
  refine pm_if2 (g := (142, [(5, .int 4), (0, .ref 25), (1, .int t), (2, .int w), (3, .int f), (4, .int s)], [], hq g c1 c2 c3 c4 c5 c6 c7 c8 c9 c10 c11 c12 c13 c14 c15 c16 c17 c18 c19 c20 c21 c22 c23 c24 (hc25 mTy mTm mMn mFn mRn mTn mVn mLr mTr mFl w_3 3 mSc mMp mEn) (hc26 mPa) (hc27 mTo) (hc28 mOt) (hc29 mNa) (hc30 mRe) (hc31 mMa) (hc32 mMy) (hc33 mPm) (hc34 mFy) (hc35 mFa) (hc36 mFr) (hc37 mFo) (hc38 mRt) (hc39 mRm) (hc40 mTt) (hc41 mTi) (hc42 mPl) (hc43 mVr) (hc44 mVf) (hc45 mVc) (hc46 mAr) (hc47 mTc) (hc48 f_3) (hc49 mGo) dyn, 0, 0)) (h := (139, [(5, .int 4), (0, .ref 25), (1, .int t), (2, .int w), (3, .int f), (4, .int s)], [], hq g c1 c2 c3 c4 c5 c6 c7 c8 c9 c10 c11 c12 c13 c14 c15 c16 c17 c18 c19 c20 c21 c22 c23 c24 (hc25 mTy mTm mMn mFn mRn mTn mVn mLr mTr mFl w_3 3 mSc mMp mEn) (hc26 mPa) (hc27 mTo) (hc28 mOt) (hc29 mNa) (hc30 mRe) (hc31 mMa) (hc32 mMy) (hc33 mPm) (hc34 mFy) (hc35 mFa) (hc36 mFr) (hc37 mFo) (hc38 mRt) (hc39 mRm) (hc40 mTt) (hc41 mTi) (hc42 mPl) (hc43 mVr) (hc44 mVf) (hc45 mVc) (hc46 mAr) (hc47 mTc) (hc48 f_3) (hc49 mGo) dyn, 0, 0)) rfl (fun h29 => ?_) (fun h29 => ?_)
  ·
    have h29 := qT_ne (cx := (w_3).toInt) (cy := 0) rfl (by decide) h29
    refine pm_go (g := (144, _, [.int (-4)], _, 0, 0)) rfl ?_
    refine pm_go (g := (146, [(5, .int (-4)), (0, .ref 25), (1, .int t), (2, .int w), (3, .int f), (4, .int s)], [], _, 0, 0)) rfl ?_
    refine pm_go (g := (147, _, [.int 0], _, 0, 0)) rfl ?_
    refine pm_go (g := (149, [(6, .int 0), (5, .int (-4)), (0, .ref 25), (1, .int t), (2, .int w), (3, .int f), (4, .int s)], [], _, 0, 0)) rfl ?_
    refine pm_go (g := (150, _, [.int 0], _, 0, 0)) rfl ?_
    refine pm_go (g := (152, [(7, .int 0), (6, .int 0), (5, .int (-4)), (0, .ref 25), (1, .int t), (2, .int w), (3, .int f), (4, .int s)], [], _, 0, 0)) rfl ?_
    refine pm_sub (lv := [(7, .int 0), (6, .int 0), (5, .int (-4)), (0, .ref 25), (1, .int t), (2, .int w), (3, .int f), (4, .int s)]) ?_ ⟨le_c (List.Mem.head _) (le_c (List.Mem.tail _ (List.Mem.head _)) (le_c (List.Mem.tail _ (List.Mem.tail _ (List.Mem.head _))) (le_c (List.Mem.tail _ (List.Mem.tail _ (List.Mem.tail _ (List.Mem.head _)))) (le_c (List.Mem.tail _ (List.Mem.tail _ (List.Mem.tail _ (List.Mem.tail _ (List.Mem.head _))))) (le_c (List.Mem.tail _ (List.Mem.tail _ (List.Mem.tail _ (List.Mem.tail _ (List.Mem.tail _ (List.Mem.head _)))))) (le_c (List.Mem.tail _ (List.Mem.tail _ (List.Mem.tail _ (List.Mem.tail _ (List.Mem.tail _ (List.Mem.tail _ (List.Mem.head _))))))) (le_c (List.Mem.tail _ (List.Mem.tail _ (List.Mem.tail _ (List.Mem.tail _ (List.Mem.tail _ (List.Mem.tail _ (List.Mem.tail _ (List.Mem.head _)))))))) le_n))))))), (show ([7, 6, 5, 0, 1, 2, 3, 4] : List Nat).Nodup by decide)⟩
    refine w_searched_best t w f s p0 p1 p2 (by omega) p3 p4 p6 (fv_of hX3 p6 p5) 41 0 (-4) 0 (by omega) (by omega) bs_0 (fun r9 hu => ?_)
    have hu2 := uqM_c (spF_c p6.2 hX3) hu
    have hsr : srM mPa mOt mNa mMy mPm mMa mFa mFy mMn t w f s 3 r9 := Or.inr (Or.inr (Or.inr ⟨rfl, nf_of hX1 p6.1 (by omega), nf_of hX2 p6.1 (by omega), nn_of hX3 p6.1 (by omega), hu2⟩))
    exact k0 f_3 w_3 3 r9 hsr (ft_of hX3 (by omega)) hC3 (srM_b p6 hsr)
  have h29 := qF_ne (cx := (w_3).toInt) (cy := 0) rfl (by decide) h29
  refine pm_go (g := (141, [(5, .int 4), (0, .ref 25), (1, .int t), (2, .int w), (3, .int f), (4, .int s)], [.int (-4)], _, 0, 0)) rfl ?_
  exfalso; omega
/-- the second search is made at all -/
def c2M (pa fa fy : Nat → Int32) (t f : Int32) : Prop := (fy f.toNatClampNeg).toInt ≠ 0 ∧ uM pa (fa (3 * f).toNatClampNeg) t = true
/-- the reference's secondSearched -/
def s2M (pa ot na my pm ma fa fy : Nat → Int32) (mn t w f p r : Int32) : Prop := (c2M pa fa fy t f ∧ srM pa ot na my pm ma fa fy mn t w f 1 p r) ∨ (¬ c2M pa fa fy t f ∧ p = 0 ∧ r = -4)
def f2M (pa ot na my pm ma fa fy : Nat → Int32) (mn t w f p : Int32) (ft : Nat → Int32) : Prop := ∀ j : Nat, (j : Int) < mn.toInt → ((ft j).toInt ≠ 0 ↔ (c2M pa fa fy t f ∧ p.toInt ≠ 0 ∧ fitM pa ot na my pm ma fa fy mn t w f 1 p j))
theorem f2_1 {pa ot na my pm ma fa fy ft : Nat → Int32} {mn t w f p : Int32} (hc : c2M pa fa fy t f) (h : ftM pa ot na my pm ma fa fy mn t w f 1 p ft) : f2M pa ot na my pm ma fa fy mn t w f p ft := fun j q => ⟨fun q2 => ⟨hc, (h j q).mp q2⟩, fun q2 => (h j q).mpr q2.2⟩
theorem f2_0 {pa ot na my pm ma fa fy ft : Nat → Int32} {mn t w f : Int32} (hn : mn.toInt ≤ 40) (hc : ∀ j : Nat, j < 40 → ft j = 0) : f2M pa ot na my pm ma fa fy mn t w f 0 ft := fun j q => ⟨fun q2 => absurd (show (ft j).toInt = 0 by rw [hc j (by omega)]; decide) q2, fun q2 => absurd (show (0 : Int32).toInt = 0 by decide) q2.2.1⟩
set_option maxRecDepth 100000 in
set_option maxHeartbeats 4000000 in
theorem w_X12_secondSearched {g c1 c2 c3 c4 c5 c6 c7 c8 c9 c10 c11 c12 c13 c14 c15 c16 c17 c18 c19 c20 c21 c22 c23 c24 : pm_C} {dyn : pm_H} {mTy : Int32} {mPa : Nat → Int32} {mTo : Nat → Int32} {mTm : Int32} {mMn : Int32} {mOt : Nat → Int32} {mNa : Nat → Int32} {mRe : Nat → Int32} {mMa : Nat → Int32} {mMy : Nat → Int32} {mPm : Nat → Int32} {mFn : Int32} {mFy : Nat → Int32} {mFa : Nat → Int32} {mFr : Nat → Int32} {mRn : Int32} {mFo : Nat → Int32} {mRt : Nat → Int32} {mRm : Nat → Int32} {mTn : Int32} {mTt : Nat → Int32} {mTi : Nat → Int32} {mPl : Nat → Int32} {mVn : Int32} {mVr : Nat → Int32} {mVf : Nat → Int32} {mVc : Nat → Int32} {mAr : Nat → Int32} {mLr : Int32} {mTc : Nat → Int32} {mTr : Int32} {mFl : Int32} {mFt : Nat → Int32} {mFm : Int32} {mFp : Int32} {mSc : Int32} {mMp : Int32} {mEn : Int32} {mGo : Nat → Int32} {Q : pm_Q} (t : Int32) (w : Int32) (f : Int32) (p0 : 0 ≤ f.toInt ∧ f.toInt < 10) (p1 : 0 ≤ (mFy f.toNatClampNeg).toInt ∧ (mFy f.toNatClampNeg).toInt ≤ 3) (p2 : paD mPa) (p3 : myD mMy) (p4 : vrD mMa mMy) (p5 : 0 ≤ mMn.toInt ∧ mMn.toInt ≤ 40) (k0 : ∀ (f9 : Nat → Int32), ∀ (m9 : Int32), ∀ (p9 : Int32), ∀ (r9 : Int32), (s2M mPa mOt mNa mMy mPm mMa mFa mFy mMn t w f p9 r9) → (f2M mPa mOt mNa mMy mPm mMa mFa mFy mMn t w f p9 f9) → (m9.toInt = cF f9 mMn.toNatClampNeg) → ((-5 ≤ r9.toInt ∧ r9.toInt < mMn.toInt) ∧ (0 ≤ p9.toInt ∧ p9.toInt ≤ 3)) → Q (some (.int r9)) (hq g c1 c2 c3 c4 c5 c6 c7 c8 c9 c10 c11 c12 c13 c14 c15 c16 c17 c18 c19 c20 c21 c22 c23 c24 (hc25 mTy mTm mMn mFn mRn mTn mVn mLr mTr mFl m9 p9 mSc mMp mEn) (hc26 mPa) (hc27 mTo) (hc28 mOt) (hc29 mNa) (hc30 mRe) (hc31 mMa) (hc32 mMy) (hc33 mPm) (hc34 mFy) (hc35 mFa) (hc36 mFr) (hc37 mFo) (hc38 mRt) (hc39 mRm) (hc40 mTt) (hc41 mTi) (hc42 mPl) (hc43 mVr) (hc44 mVf) (hc45 mVc) (hc46 mAr) (hc47 mTc) (hc48 f9) (hc49 mGo) dyn)) : pm_WP 152 (0, [(0, .ref 25), (1, .int t), (2, .int w), (3, .int f)], [], hq g c1 c2 c3 c4 c5 c6 c7 c8 c9 c10 c11 c12 c13 c14 c15 c16 c17 c18 c19 c20 c21 c22 c23 c24 (hc25 mTy mTm mMn mFn mRn mTn mVn mLr mTr mFl mFm mFp mSc mMp mEn) (hc26 mPa) (hc27 mTo) (hc28 mOt) (hc29 mNa) (hc30 mRe) (hc31 mMa) (hc32 mMy) (hc33 mPm) (hc34 mFy) (hc35 mFa) (hc36 mFr) (hc37 mFo) (hc38 mRt) (hc39 mRm) (hc40 mTt) (hc41 mTi) (hc42 mPl) (hc43 mVr) (hc44 mVf) (hc45 mVc) (hc46 mAr) (hc47 mTc) (hc48 mFt) (hc49 mGo) dyn, 0, 0) Q := by
  have z0 : (0 : Int32).toInt = 0 := by decide
  have z4 : (-4 : Int32).toInt = -4 := by decide
  refine pm_go (g := (1, [(0, .ref 25), (1, .int t), (2, .int w), (3, .int f)], [.ref 25], hq g c1 c2 c3 c4 c5 c6 c7 c8 c9 c10 c11 c12 c13 c14 c15 c16 c17 c18 c19 c20 c21 c22 c23 c24 (hc25 mTy mTm mMn mFn mRn mTn mVn mLr mTr mFl mFm mFp mSc mMp mEn) (hc26 mPa) (hc27 mTo) (hc28 mOt) (hc29 mNa) (hc30 mRe) (hc31 mMa) (hc32 mMy) (hc33 mPm) (hc34 mFy) (hc35 mFa) (hc36 mFr) (hc37 mFo) (hc38 mRt) (hc39 mRm) (hc40 mTt) (hc41 mTi) (hc42 mPl) (hc43 mVr) (hc44 mVf) (hc45 mVc) (hc46 mAr) (hc47 mTc) (hc48 mFt) (hc49 mGo) dyn, 0, 0)) rfl ?_
  refine pm_go (g := (4, _, [.ref 34], _, 0, 0)) rfl ?_
  refine pm_go (g := (5, _, [.int f, .ref 34], _, 0, 0)) rfl ?_
  refine pm_sd (g := (6, _, [.int (mFy (f).toNatClampNeg)], _, 0, 0)) rfl (pm_inI (by omega) (by omega)) ?_
  refine pm_if2 (g := (25, [(0, .ref 25), (1, .int t), (2, .int w), (3, .int f)], [], hq g c1 c2 c3 c4 c5 c6 c7 c8 c9 c10 c11 c12 c13 c14 c15 c16 c17 c18 c19 c20 c21 c22 c23 c24 (hc25 mTy mTm mMn mFn mRn mTn mVn mLr mTr mFl mFm mFp mSc mMp mEn) (hc26 mPa) (hc27 mTo) (hc28 mOt) (hc29 mNa) (hc30 mRe) (hc31 mMa) (hc32 mMy) (hc33 mPm) (hc34 mFy) (hc35 mFa) (hc36 mFr) (hc37 mFo) (hc38 mRt) (hc39 mRm) (hc40 mTt) (hc41 mTi) (hc42 mPl) (hc43 mVr) (hc44 mVf) (hc45 mVc) (hc46 mAr) (hc47 mTc) (hc48 mFt) (hc49 mGo) dyn, 0, 0)) (h := (9, [(0, .ref 25), (1, .int t), (2, .int w), (3, .int f)], [], hq g c1 c2 c3 c4 c5 c6 c7 c8 c9 c10 c11 c12 c13 c14 c15 c16 c17 c18 c19 c20 c21 c22 c23 c24 (hc25 mTy mTm mMn mFn mRn mTn mVn mLr mTr mFl mFm mFp mSc mMp mEn) (hc26 mPa) (hc27 mTo) (hc28 mOt) (hc29 mNa) (hc30 mRe) (hc31 mMa) (hc32 mMy) (hc33 mPm) (hc34 mFy) (hc35 mFa) (hc36 mFr) (hc37 mFo) (hc38 mRt) (hc39 mRm) (hc40 mTt) (hc41 mTi) (hc42 mPl) (hc43 mVr) (hc44 mVf) (hc45 mVc) (hc46 mAr) (hc47 mTc) (hc48 mFt) (hc49 mGo) dyn, 0, 0)) rfl (fun h1 => ?_) (fun h1 => ?_)
  ·
    have h1 := qT_eq (cx := (mFy (f).toNatClampNeg).toInt) (cy := 0) rfl (by decide) h1
    refine pm_go (g := (26, _, [.ref 25], _, 0, 0)) rfl ?_
    refine pm_callD (z := 151) (as := [.ref 25]) (rest := []) rfl ?_
    refine w_X12_nothingFits  (fun v2_f9 h2 => ?_)
    show pm_WP 152 (29, [(0, .ref 25), (1, .int t), (2, .int w), (3, .int f)], [], _, 0, 0) _
    refine pm_go (g := (31, _, [.int (-4)], _, 0, 0)) rfl ?_
    have hnc : ¬ c2M mPa mFa mFy t f := by rintro ⟨q1, q2⟩; first | omega | (simp_all; done)
    exact pm_ret rfl (k0 v2_f9 0 0 (-4) (Or.inr ⟨hnc, rfl, rfl⟩) (f2_0 p5.2 h2) (by rw [cF_z h2 (by have := xN p5.1; omega)]; decide) (by omega))
  have h1 := qF_eq (cx := (mFy (f).toNatClampNeg).toInt) (cy := 0) rfl (by decide) h1
  refine pm_go (g := (10, _, [.ref 25], hq g c1 c2 c3 c4 c5 c6 c7 c8 c9 c10 c11 c12 c13 c14 c15 c16 c17 c18 c19 c20 c21 c22 c23 c24 (hc25 mTy mTm mMn mFn mRn mTn mVn mLr mTr mFl mFm mFp mSc mMp mEn) (hc26 mPa) (hc27 mTo) (hc28 mOt) (hc29 mNa) (hc30 mRe) (hc31 mMa) (hc32 mMy) (hc33 mPm) (hc34 mFy) (hc35 mFa) (hc36 mFr) (hc37 mFo) (hc38 mRt) (hc39 mRm) (hc40 mTt) (hc41 mTi) (hc42 mPl) (hc43 mVr) (hc44 mVf) (hc45 mVc) (hc46 mAr) (hc47 mTc) (hc48 mFt) (hc49 mGo) dyn, 0, 0)) rfl ?_
  refine pm_go (g := (11, _, [.ref 25, .ref 25], _, 0, 0)) rfl ?_
  refine pm_go (g := (14, _, [.ref 35, .ref 25], _, 0, 0)) rfl ?_
  refine pm_go (g := (15, _, [.int 3, .ref 35, .ref 25], _, 0, 0)) rfl ?_
  refine pm_go (g := (16, _, [.int f, .int 3, .ref 35, .ref 25], _, 0, 0)) rfl ?_
  refine pm_go (g := (17, _, [.int (3 * f), .ref 35, .ref 25], _, 0, 0)) rfl ?_
  try have h4 : (3 * f).toInt = 3 * (f).toInt := iMul (x := 3) (y := (f).toInt) (by decide) rfl (by omega) (by omega)
  refine pm_sd (g := (18, _, [.int (mFa (3 * f).toNatClampNeg), .ref 25], _, 0, 0)) rfl (pm_inI (by omega) (by omega)) ?_
  refine pm_go (g := (19, _, [.int t, .int (mFa (3 * f).toNatClampNeg), .ref 25], _, 0, 0)) rfl ?_
  refine pm_callD (z := 132) (as := [.ref 25, .int (mFa (3 * f).toNatClampNeg), .int t]) (rest := []) rfl ?_
  refine w_X12_isUnder (mFa (3 * f).toNatClampNeg) t (by assumption) (fun h5 => ?_) (fun h6 => ?_)
  ·
    show pm_WP 152 (22, [(0, .ref 25), (1, .int t), (2, .int w), (3, .int f)], [.int 1], _, 0, 0) _
    refine pm_brT (g := (32, [(0, .ref 25), (1, .int t), (2, .int w), (3, .int f)], [], hq g c1 c2 c3 c4 c5 c6 c7 c8 c9 c10 c11 c12 c13 c14 c15 c16 c17 c18 c19 c20 c21 c22 c23 c24 (hc25 mTy mTm mMn mFn mRn mTn mVn mLr mTr mFl mFm mFp mSc mMp mEn) (hc26 mPa) (hc27 mTo) (hc28 mOt) (hc29 mNa) (hc30 mRe) (hc31 mMa) (hc32 mMy) (hc33 mPm) (hc34 mFy) (hc35 mFa) (hc36 mFr) (hc37 mFo) (hc38 mRt) (hc39 mRm) (hc40 mTt) (hc41 mTi) (hc42 mPl) (hc43 mVr) (hc44 mVf) (hc45 mVc) (hc46 mAr) (hc47 mTc) (hc48 mFt) (hc49 mGo) dyn, 0, 0)) rfl ?_
    refine pm_go (g := (33, _, [.ref 25], _, 0, 0)) rfl ?_
    refine pm_go (g := (34, _, [.int t, .ref 25], _, 0, 0)) rfl ?_
    refine pm_go (g := (35, _, [.int w, .int t, .ref 25], _, 0, 0)) rfl ?_
    refine pm_go (g := (36, _, [.int f, .int w, .int t, .ref 25], _, 0, 0)) rfl ?_
    refine pm_go (g := (37, _, [.int 1, .int f, .int w, .int t, .ref 25], _, 0, 0)) rfl ?_
    refine pm_callD (z := 150) (as := [.ref 25, .int t, .int w, .int f, .int 1]) (rest := []) rfl ?_
    have h8 : (1 : Int32).toInt = 1 := by decide
    refine w_X12_searched t w f 1 (by omega) (by omega) (by omega) (by assumption) (by assumption) (by assumption) (by omega) (fun v12_f9 v12_m9 v12_p9 v12_r9 h9 h10 h11 h12 => ?_)
    show pm_WP 152 (40, [(0, .ref 25), (1, .int t), (2, .int w), (3, .int f)], [.int v12_r9], _, 0, 0) _
    have hc : c2M mPa mFa mFy t f := ⟨by omega, by assumption⟩
    exact pm_ret rfl (k0 _ _ _ _ (Or.inl ⟨hc, h9⟩) (f2_1 hc h10) h11 h12)
  show pm_WP 152 (22, [(0, .ref 25), (1, .int t), (2, .int w), (3, .int f)], [.int 0], _, 0, 0) _
  refine pm_brF (h := (25, [(0, .ref 25), (1, .int t), (2, .int w), (3, .int f)], [], hq g c1 c2 c3 c4 c5 c6 c7 c8 c9 c10 c11 c12 c13 c14 c15 c16 c17 c18 c19 c20 c21 c22 c23 c24 (hc25 mTy mTm mMn mFn mRn mTn mVn mLr mTr mFl mFm mFp mSc mMp mEn) (hc26 mPa) (hc27 mTo) (hc28 mOt) (hc29 mNa) (hc30 mRe) (hc31 mMa) (hc32 mMy) (hc33 mPm) (hc34 mFy) (hc35 mFa) (hc36 mFr) (hc37 mFo) (hc38 mRt) (hc39 mRm) (hc40 mTt) (hc41 mTi) (hc42 mPl) (hc43 mVr) (hc44 mVf) (hc45 mVc) (hc46 mAr) (hc47 mTc) (hc48 mFt) (hc49 mGo) dyn, 0, 0)) rfl ?_
  refine pm_go (g := (26, _, [.ref 25], _, 0, 0)) rfl ?_
  refine pm_callD (z := 151) (as := [.ref 25]) (rest := []) rfl ?_
  refine w_X12_nothingFits  (fun v14_f9 h14 => ?_)
  show pm_WP 152 (29, [(0, .ref 25), (1, .int t), (2, .int w), (3, .int f)], [], _, 0, 0) _
  refine pm_go (g := (31, _, [.int (-4)], _, 0, 0)) rfl ?_
  have hnc : ¬ c2M mPa mFa mFy t f := by rintro ⟨q1, q2⟩; first | omega | (simp_all; done)
  exact pm_ret rfl (k0 v14_f9 0 0 (-4) (Or.inr ⟨hnc, rfl, rfl⟩) (f2_0 p5.2 h14) (by rw [cF_z h14 (by have := xN p5.1; omega)]; decide) (by omega))
/-- the reference's ofOne -/
def oneM (pa ot na my pm ma fa fy : Nat → Int32) (mn t w f p r : Int32) : Prop := ∃ r1 : Int32, srM pa ot na my pm ma fa fy mn t w f 0 p r1 ∧ ((r1.toInt = -4 ∧ r = -11) ∨ (r1.toInt = -5 ∧ r = -12) ∨ (r1.toInt ≠ -4 ∧ r1.toInt ≠ -5 ∧ r = r1))
set_option maxRecDepth 100000 in
set_option maxHeartbeats 4000000 in
theorem w_X12_ofOne {g c1 c2 c3 c4 c5 c6 c7 c8 c9 c10 c11 c12 c13 c14 c15 c16 c17 c18 c19 c20 c21 c22 c23 c24 : pm_C} {dyn : pm_H} {mTy : Int32} {mPa : Nat → Int32} {mTo : Nat → Int32} {mTm : Int32} {mMn : Int32} {mOt : Nat → Int32} {mNa : Nat → Int32} {mRe : Nat → Int32} {mMa : Nat → Int32} {mMy : Nat → Int32} {mPm : Nat → Int32} {mFn : Int32} {mFy : Nat → Int32} {mFa : Nat → Int32} {mFr : Nat → Int32} {mRn : Int32} {mFo : Nat → Int32} {mRt : Nat → Int32} {mRm : Nat → Int32} {mTn : Int32} {mTt : Nat → Int32} {mTi : Nat → Int32} {mPl : Nat → Int32} {mVn : Int32} {mVr : Nat → Int32} {mVf : Nat → Int32} {mVc : Nat → Int32} {mAr : Nat → Int32} {mLr : Int32} {mTc : Nat → Int32} {mTr : Int32} {mFl : Int32} {mFt : Nat → Int32} {mFm : Int32} {mFp : Int32} {mSc : Int32} {mMp : Int32} {mEn : Int32} {mGo : Nat → Int32} {Q : pm_Q} (t : Int32) (w : Int32) (f : Int32) (p0 : 0 ≤ f.toInt ∧ f.toInt < 10) (p1 : 0 ≤ (mFy f.toNatClampNeg).toInt ∧ (mFy f.toNatClampNeg).toInt ≤ 3) (p2 : paD mPa) (p3 : myD mMy) (p4 : vrD mMa mMy) (p5 : 0 ≤ mMn.toInt ∧ mMn.toInt ≤ 40) (k0 : ∀ (f9 : Nat → Int32), ∀ (m9 : Int32), ∀ (q9 : Int32), ∀ (p9 : Int32), ∀ (r9 : Int32), (oneM mPa mOt mNa mMy mPm mMa mFa mFy mMn t w f p9 r9) → ((-15 ≤ r9.toInt ∧ r9.toInt < mMn.toInt) ∧ (0 ≤ p9.toInt ∧ p9.toInt ≤ 3)) → Q (some (.int r9)) (hq g c1 c2 c3 c4 c5 c6 c7 c8 c9 c10 c11 c12 c13 c14 c15 c16 c17 c18 c19 c20 c21 c22 c23 c24 (hc25 mTy mTm mMn mFn mRn mTn mVn mLr mTr mFl m9 q9 mSc p9 mEn) (hc26 mPa) (hc27 mTo) (hc28 mOt) (hc29 mNa) (hc30 mRe) (hc31 mMa) (hc32 mMy) (hc33 mPm) (hc34 mFy) (hc35 mFa) (hc36 mFr) (hc37 mFo) (hc38 mRt) (hc39 mRm) (hc40 mTt) (hc41 mTi) (hc42 mPl) (hc43 mVr) (hc44 mVf) (hc45 mVc) (hc46 mAr) (hc47 mTc) (hc48 f9) (hc49 mGo) dyn)) : pm_WP 156 (0, [(0, .ref 25), (1, .int t), (2, .int w), (3, .int f)], [], hq g c1 c2 c3 c4 c5 c6 c7 c8 c9 c10 c11 c12 c13 c14 c15 c16 c17 c18 c19 c20 c21 c22 c23 c24 (hc25 mTy mTm mMn mFn mRn mTn mVn mLr mTr mFl mFm mFp mSc mMp mEn) (hc26 mPa) (hc27 mTo) (hc28 mOt) (hc29 mNa) (hc30 mRe) (hc31 mMa) (hc32 mMy) (hc33 mPm) (hc34 mFy) (hc35 mFa) (hc36 mFr) (hc37 mFo) (hc38 mRt) (hc39 mRm) (hc40 mTt) (hc41 mTi) (hc42 mPl) (hc43 mVr) (hc44 mVf) (hc45 mVc) (hc46 mAr) (hc47 mTc) (hc48 mFt) (hc49 mGo) dyn, 0, 0) Q := by
  have zz1 : (-11 : Int32).toInt = -11 := by decide
  have zz2 : (-12 : Int32).toInt = -12 := by decide
  refine pm_go (g := (1, [(0, .ref 25), (1, .int t), (2, .int w), (3, .int f)], [.ref 25], hq g c1 c2 c3 c4 c5 c6 c7 c8 c9 c10 c11 c12 c13 c14 c15 c16 c17 c18 c19 c20 c21 c22 c23 c24 (hc25 mTy mTm mMn mFn mRn mTn mVn mLr mTr mFl mFm mFp mSc mMp mEn) (hc26 mPa) (hc27 mTo) (hc28 mOt) (hc29 mNa) (hc30 mRe) (hc31 mMa) (hc32 mMy) (hc33 mPm) (hc34 mFy) (hc35 mFa) (hc36 mFr) (hc37 mFo) (hc38 mRt) (hc39 mRm) (hc40 mTt) (hc41 mTi) (hc42 mPl) (hc43 mVr) (hc44 mVf) (hc45 mVc) (hc46 mAr) (hc47 mTc) (hc48 mFt) (hc49 mGo) dyn, 0, 0)) rfl ?_
  refine pm_go (g := (2, _, [.int t, .ref 25], _, 0, 0)) rfl ?_
  refine pm_go (g := (3, _, [.int w, .int t, .ref 25], _, 0, 0)) rfl ?_
  refine pm_go (g := (4, _, [.int f, .int w, .int t, .ref 25], _, 0, 0)) rfl ?_
  refine pm_go (g := (5, _, [.int 0, .int f, .int w, .int t, .ref 25], _, 0, 0)) rfl ?_
  refine pm_callD (z := 150) (as := [.ref 25, .int t, .int w, .int f, .int 0]) (rest := []) rfl ?_
  have h1 : (0 : Int32).toInt = 0 := by decide
  refine w_X12_searched t w f 0 (by omega) (by omega) (by omega) (by assumption) (by assumption) (by assumption) (by omega) (fun v5_f9 v5_m9 v5_p9 v5_r9 h2 h3 h4 h5 => ?_)
  show pm_WP 156 (8, [(0, .ref 25), (1, .int t), (2, .int w), (3, .int f)], [.int v5_r9], _, 0, 0) _
  refine pm_go (g := (10, [(4, .int v5_r9), (0, .ref 25), (1, .int t), (2, .int w), (3, .int f)], [], _, 0, 0)) rfl ?_
  refine pm_go (g := (11, _, [.ref 25], _, 0, 0)) rfl ?_
  refine pm_go (g := (12, _, [.ref 25, .ref 25], _, 0, 0)) rfl ?_
  refine pm_go (g := (15, _, [.int v5_p9, .ref 25], _, 0, 0)) rfl ?_
  refine pm_go (g := (18, _, [], hq g c1 c2 c3 c4 c5 c6 c7 c8 c9 c10 c11 c12 c13 c14 c15 c16 c17 c18 c19 c20 c21 c22 c23 c24 (hc25 mTy mTm mMn mFn mRn mTn mVn mLr mTr mFl v5_m9 v5_p9 mSc v5_p9 mEn) (hc26 mPa) (hc27 mTo) (hc28 mOt) (hc29 mNa) (hc30 mRe) (hc31 mMa) (hc32 mMy) (hc33 mPm) (hc34 mFy) (hc35 mFa) (hc36 mFr) (hc37 mFo) (hc38 mRt) (hc39 mRm) (hc40 mTt) (hc41 mTi) (hc42 mPl) (hc43 mVr) (hc44 mVf) (hc45 mVc) (hc46 mAr) (hc47 mTc) (hc48 v5_f9) (hc49 mGo) dyn, 0, 0)) rfl ?_
  refine pm_go (g := (20, _, [.int v5_r9], _, 0, 0)) rfl ?_
  refine pm_go (g := (22, _, [.int (-4), .int v5_r9], _, 0, 0)) rfl ?_
  refine pm_if2 (g := (30, [(4, .int v5_r9), (0, .ref 25), (1, .int t), (2, .int w), (3, .int f)], [], hq g c1 c2 c3 c4 c5 c6 c7 c8 c9 c10 c11 c12 c13 c14 c15 c16 c17 c18 c19 c20 c21 c22 c23 c24 (hc25 mTy mTm mMn mFn mRn mTn mVn mLr mTr mFl v5_m9 v5_p9 mSc v5_p9 mEn) (hc26 mPa) (hc27 mTo) (hc28 mOt) (hc29 mNa) (hc30 mRe) (hc31 mMa) (hc32 mMy) (hc33 mPm) (hc34 mFy) (hc35 mFa) (hc36 mFr) (hc37 mFo) (hc38 mRt) (hc39 mRm) (hc40 mTt) (hc41 mTi) (hc42 mPl) (hc43 mVr) (hc44 mVf) (hc45 mVc) (hc46 mAr) (hc47 mTc) (hc48 v5_f9) (hc49 mGo) dyn, 0, 0)) (h := (25, [(4, .int v5_r9), (0, .ref 25), (1, .int t), (2, .int w), (3, .int f)], [], hq g c1 c2 c3 c4 c5 c6 c7 c8 c9 c10 c11 c12 c13 c14 c15 c16 c17 c18 c19 c20 c21 c22 c23 c24 (hc25 mTy mTm mMn mFn mRn mTn mVn mLr mTr mFl v5_m9 v5_p9 mSc v5_p9 mEn) (hc26 mPa) (hc27 mTo) (hc28 mOt) (hc29 mNa) (hc30 mRe) (hc31 mMa) (hc32 mMy) (hc33 mPm) (hc34 mFy) (hc35 mFa) (hc36 mFr) (hc37 mFo) (hc38 mRt) (hc39 mRm) (hc40 mTt) (hc41 mTi) (hc42 mPl) (hc43 mVr) (hc44 mVf) (hc45 mVc) (hc46 mAr) (hc47 mTc) (hc48 v5_f9) (hc49 mGo) dyn, 0, 0)) rfl (fun h7 => ?_) (fun h7 => ?_)
  ·
    have h7 := qT_ne (cx := (v5_r9).toInt) (cy := (-4)) rfl (by decide) h7
    refine pm_go (g := (32, _, [.int v5_r9], _, 0, 0)) rfl ?_
    refine pm_go (g := (34, _, [.int (-5), .int v5_r9], _, 0, 0)) rfl ?_
    refine pm_if2 (g := (42, [(4, .int v5_r9), (0, .ref 25), (1, .int t), (2, .int w), (3, .int f)], [], hq g c1 c2 c3 c4 c5 c6 c7 c8 c9 c10 c11 c12 c13 c14 c15 c16 c17 c18 c19 c20 c21 c22 c23 c24 (hc25 mTy mTm mMn mFn mRn mTn mVn mLr mTr mFl v5_m9 v5_p9 mSc v5_p9 mEn) (hc26 mPa) (hc27 mTo) (hc28 mOt) (hc29 mNa) (hc30 mRe) (hc31 mMa) (hc32 mMy) (hc33 mPm) (hc34 mFy) (hc35 mFa) (hc36 mFr) (hc37 mFo) (hc38 mRt) (hc39 mRm) (hc40 mTt) (hc41 mTi) (hc42 mPl) (hc43 mVr) (hc44 mVf) (hc45 mVc) (hc46 mAr) (hc47 mTc) (hc48 v5_f9) (hc49 mGo) dyn, 0, 0)) (h := (37, [(4, .int v5_r9), (0, .ref 25), (1, .int t), (2, .int w), (3, .int f)], [], hq g c1 c2 c3 c4 c5 c6 c7 c8 c9 c10 c11 c12 c13 c14 c15 c16 c17 c18 c19 c20 c21 c22 c23 c24 (hc25 mTy mTm mMn mFn mRn mTn mVn mLr mTr mFl v5_m9 v5_p9 mSc v5_p9 mEn) (hc26 mPa) (hc27 mTo) (hc28 mOt) (hc29 mNa) (hc30 mRe) (hc31 mMa) (hc32 mMy) (hc33 mPm) (hc34 mFy) (hc35 mFa) (hc36 mFr) (hc37 mFo) (hc38 mRt) (hc39 mRm) (hc40 mTt) (hc41 mTi) (hc42 mPl) (hc43 mVr) (hc44 mVf) (hc45 mVc) (hc46 mAr) (hc47 mTc) (hc48 v5_f9) (hc49 mGo) dyn, 0, 0)) rfl (fun h8 => ?_) (fun h8 => ?_)
    ·
      have h8 := qT_ne (cx := (v5_r9).toInt) (cy := (-5)) rfl (by decide) h8
      refine pm_go (g := (44, _, [.int v5_r9], _, 0, 0)) rfl ?_
      refine pm_ret rfl (k0 _ _ _ _ _ ⟨_, h2, ?_⟩ (by omega))
      exact Or.inr (Or.inr ⟨by omega, by omega, rfl⟩)
    have h8 := qF_ne (cx := (v5_r9).toInt) (cy := (-5)) rfl (by decide) h8
    refine pm_go (g := (39, _, [.int (-12)], _, 0, 0)) rfl ?_
    refine pm_go (g := (44, _, [.int (-12)], _, 0, 0)) rfl ?_
    refine pm_ret rfl (k0 _ _ _ _ _ ⟨_, h2, ?_⟩ (by omega))
    exact Or.inr (Or.inl ⟨by omega, rfl⟩)
  have h7 := qF_ne (cx := (v5_r9).toInt) (cy := (-4)) rfl (by decide) h7
  refine pm_go (g := (27, _, [.int (-11)], _, 0, 0)) rfl ?_
  refine pm_go (g := (44, _, [.int (-11)], _, 0, 0)) rfl ?_
  refine pm_ret rfl (k0 _ _ _ _ _ ⟨_, h2, ?_⟩ (by omega))
  exact Or.inl ⟨by omega, rfl⟩
end
