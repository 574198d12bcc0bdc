/-- the place that m has for the k-th of many -/
def plV (my pm : Nat → Int32) (m k : Int32) : Int32 := if k.toInt < (my m.toNatClampNeg).toInt - 1 then pm (3 * m + k).toNatClampNeg else if (pm (3 * m + (my m.toNatClampNeg - 1)).toNatClampNeg).toInt = 30 then 10 else pm (3 * m + (my m.toNatClampNeg - 1)).toNatClampNeg - 20
theorem plV_1 {my pm : Nat → Int32} {m k : Int32} (h : k.toInt < (my m.toNatClampNeg).toInt - 1) : plV my pm m k = pm (3 * m + k).toNatClampNeg := by unfold plV; rw [if_pos h]
theorem plV_2 {my pm : Nat → Int32} {m k : Int32} (h : (my m.toNatClampNeg).toInt - 1 ≤ k.toInt ∧ (pm (3 * m + (my m.toNatClampNeg - 1)).toNatClampNeg).toInt = 30) : plV my pm m k = 10 := by unfold plV; rw [if_neg (by omega), if_pos h.2]
theorem plV_3 {my pm : Nat → Int32} {m k : Int32} (h : (my m.toNatClampNeg).toInt - 1 ≤ k.toInt ∧ (pm (3 * m + (my m.toNatClampNeg - 1)).toNatClampNeg).toInt ≠ 30) : plV my pm m k = pm (3 * m + (my m.toNatClampNeg - 1)).toNatClampNeg - 20 := by unfold plV; rw [if_neg (by omega), if_neg h.2]
def vrD (ma my : Nat → Int32) : Prop := ∀ j : Nat, j < 40 → (ma j &&& 4).toInt ≠ 0 → 1 ≤ (my j).toInt
theorem vrD_at {ma my : Nat → Int32} (h : vrD ma my) {m : Int32} (h0 : 0 ≤ m.toInt) (h1 : m.toInt < 40) (h2 : (ma m.toNatClampNeg &&& 4).toInt ≠ 0) : 1 ≤ (my m.toNatClampNeg).toInt := h _ (by have := xN h0; omega) h2
/-- the k-th argument of the face goes into m, in phase p -/
def fJ (pa my pm fa : Nat → Int32) (m f s p k : Int32) : Prop := (p.toInt = 1 → uM pa (fa (3 * f + s + k).toNatClampNeg) (pm (3 * m + k).toNatClampNeg) = true) ∧ (p.toInt = 2 → lM pa (fa (3 * f + s + k).toNatClampNeg) (pm (3 * m + k).toNatClampNeg)) ∧ (p.toInt = 3 → lM pa (fa (3 * f + s + k).toNatClampNeg) (plV my pm m k))
def tkL (pa my pm fa : Nat → Int32) (m f s p : Int32) (n : Int) (k : Nat) : Prop := ∀ j : Nat, k ≤ j → (j : Int) < n → fJ pa my pm fa m f s p (nI j)
/-- the reference's takes -/
def tkM (pa my pm fa ma fy : Nat → Int32) (m f s p : Int32) : Prop := ((p.toInt < 3 ∧ (my m.toNatClampNeg).toInt = (fy f.toNatClampNeg).toInt - s.toInt) ∨ (p.toInt = 3 ∧ (ma m.toNatClampNeg &&& 4).toInt ≠ 0 ∧ (my m.toNatClampNeg).toInt ≤ (fy f.toNatClampNeg).toInt - s.toInt + 1)) ∧ tkL pa my pm fa m f s p ((fy f.toNatClampNeg).toInt - s.toInt) 0
set_option maxRecDepth 100000 in
set_option maxHeartbeats 4000000 in
theorem w2_X12_placeOf {g c1 c2 c3 c4 c5 c6 c7 c8 c9 c10 c11 c12 c13 c14 c15 c16 c17 c18 c19 c20 c21 c22 c23 c24 : pm_C} {dyn : pm_H} {mTy : Int32} {mPa : Nat → Int32} {mTo : Nat → Int32} {mTm : Int32} {mMn : Int32} {mOt : Nat → Int32} {mNa : Nat → Int32} {mRe : Nat → Int32} {mMa : Nat → Int32} {mMy : Nat → Int32} {mPm : Nat → Int32} {mFn : Int32} {mFy : Nat → Int32} {mFa : Nat → Int32} {mFr : Nat → Int32} {mRn : Int32} {mFo : Nat → Int32} {mRt : Nat → Int32} {mRm : Nat → Int32} {mTn : Int32} {mTt : Nat → Int32} {mTi : Nat → Int32} {mPl : Nat → Int32} {mVn : Int32} {mVr : Nat → Int32} {mVf : Nat → Int32} {mVc : Nat → Int32} {mAr : Nat → Int32} {mLr : Int32} {mTc : Nat → Int32} {mTr : Int32} {mFl : Int32} {mFt : Nat → Int32} {mFm : Int32} {mFp : Int32} {mSc : Int32} {mMp : Int32} {mEn : Int32} {mGo : Nat → Int32} {Q : pm_Q} (m : Int32) (k : Int32) (p0 : 0 ≤ m.toInt ∧ m.toInt < 40) (p1 : 0 ≤ k.toInt) (p2 : 1 ≤ (mMy m.toNatClampNeg).toInt ∧ (mMy m.toNatClampNeg).toInt ≤ 3) (k0 : Q (some (.int (plV mMy mPm m k))) (hq g c1 c2 c3 c4 c5 c6 c7 c8 c9 c10 c11 c12 c13 c14 c15 c16 c17 c18 c19 c20 c21 c22 c23 c24 (hc25 mTy mTm mMn mFn mRn mTn mVn mLr mTr mFl mFm mFp mSc mMp mEn) (hc26 mPa) (hc27 mTo) (hc28 mOt) (hc29 mNa) (hc30 mRe) (hc31 mMa) (hc32 mMy) (hc33 mPm) (hc34 mFy) (hc35 mFa) (hc36 mFr) (hc37 mFo) (hc38 mRt) (hc39 mRm) (hc40 mTt) (hc41 mTi) (hc42 mPl) (hc43 mVr) (hc44 mVf) (hc45 mVc) (hc46 mAr) (hc47 mTc) (hc48 mFt) (hc49 mGo) dyn)) : pm_WP 147 (0, [(0, .ref 25), (1, .int m), (2, .int k)], [], hq g c1 c2 c3 c4 c5 c6 c7 c8 c9 c10 c11 c12 c13 c14 c15 c16 c17 c18 c19 c20 c21 c22 c23 c24 (hc25 mTy mTm mMn mFn mRn mTn mVn mLr mTr mFl mFm mFp mSc mMp mEn) (hc26 mPa) (hc27 mTo) (hc28 mOt) (hc29 mNa) (hc30 mRe) (hc31 mMa) (hc32 mMy) (hc33 mPm) (hc34 mFy) (hc35 mFa) (hc36 mFr) (hc37 mFo) (hc38 mRt) (hc39 mRm) (hc40 mTt) (hc41 mTi) (hc42 mPl) (hc43 mVr) (hc44 mVf) (hc45 mVc) (hc46 mAr) (hc47 mTc) (hc48 mFt) (hc49 mGo) dyn, 0, 0) Q := by
  refine w_X12_placeOf m k p0 p1 p2 (fun h => ?_) (fun h => ?_) (fun h => ?_)
  · rw [plV_1 h] at k0; exact k0
  · rw [plV_2 h] at k0; exact k0
  · rw [plV_3 h] at k0; exact k0
set_option maxRecDepth 100000 in
set_option maxHeartbeats 4000000 in
theorem w_takes_loop {g c1 c2 c3 c4 c5 c6 c7 c8 c9 c10 c11 c12 c13 c14 c15 c16 c17 c18 c19 c20 c21 c22 c23 c24 : pm_C} {dyn : pm_H} {mTy : Int32} {mPa : Nat → Int32} {mTo : Nat → Int32} {mTm : Int32} {mMn : Int32} {mOt : Nat → Int32} {mNa : Nat → Int32} {mRe : Nat → Int32} {mMa : Nat → Int32} {mMy : Nat → Int32} {mPm : Nat → Int32} {mFn : Int32} {mFy : Nat → Int32} {mFa : Nat → Int32} {mFr : Nat → Int32} {mRn : Int32} {mFo : Nat → Int32} {mRt : Nat → Int32} {mRm : Nat → Int32} {mTn : Int32} {mTt : Nat → Int32} {mTi : Nat → Int32} {mPl : Nat → Int32} {mVn : Int32} {mVr : Nat → Int32} {mVf : Nat → Int32} {mVc : Nat → Int32} {mAr : Nat → Int32} {mLr : Int32} {mTc : Nat → Int32} {mTr : Int32} {mFl : Int32} {mFt : Nat → Int32} {mFm : Int32} {mFp : Int32} {mSc : Int32} {mMp : Int32} {mEn : Int32} {mGo : Nat → Int32} {Q : pm_Q} (m f s p n9 : Int32) (hm : 0 ≤ m.toInt ∧ m.toInt < 40) (hf : 0 ≤ f.toInt ∧ f.toInt < 10) (hs : 0 ≤ s.toInt ∧ s.toInt ≤ 1) (hn9 : 0 ≤ n9.toInt ∧ n9.toInt + s.toInt ≤ 3) (hp : 1 ≤ p.toInt ∧ p.toInt ≤ 3) (hpa : paD mPa) (hmy : p.toInt < 3 ∧ (mMy m.toNatClampNeg).toInt = n9.toInt ∨ p.toInt = 3 ∧ 1 ≤ (mMy m.toNatClampNeg).toInt ∧ (mMy m.toNatClampNeg).toInt ≤ 3) : ∀ (n k : Nat), (k ≤ 3) → (3 < k + n) → (tkL mPa mMy mPm mFa m f s p n9.toInt k → Q (some (.int 1)) (hq g c1 c2 c3 c4 c5 c6 c7 c8 c9 c10 c11 c12 c13 c14 c15 c16 c17 c18 c19 c20 c21 c22 c23 c24 (hc25 mTy mTm mMn mFn mRn mTn mVn mLr mTr mFl mFm mFp mSc mMp mEn) (hc26 mPa) (hc27 mTo) (hc28 mOt) (hc29 mNa) (hc30 mRe) (hc31 mMa) (hc32 mMy) (hc33 mPm) (hc34 mFy) (hc35 mFa) (hc36 mFr) (hc37 mFo) (hc38 mRt) (hc39 mRm) (hc40 mTt) (hc41 mTi) (hc42 mPl) (hc43 mVr) (hc44 mVf) (hc45 mVc) (hc46 mAr) (hc47 mTc) (hc48 mFt) (hc49 mGo) dyn)) → (¬ tkL mPa mMy mPm mFa m f s p n9.toInt k → Q (some (.int 0)) (hq g c1 c2 c3 c4 c5 c6 c7 c8 c9 c10 c11 c12 c13 c14 c15 c16 c17 c18 c19 c20 c21 c22 c23 c24 (hc25 mTy mTm mMn mFn mRn mTn mVn mLr mTr mFl mFm mFp mSc mMp mEn) (hc26 mPa) (hc27 mTo) (hc28 mOt) (hc29 mNa) (hc30 mRe) (hc31 mMa) (hc32 mMy) (hc33 mPm) (hc34 mFy) (hc35 mFa) (hc36 mFr) (hc37 mFo) (hc38 mRt) (hc39 mRm) (hc40 mTt) (hc41 mTi) (hc42 mPl) (hc43 mVr) (hc44 mVf) (hc45 mVc) (hc46 mAr) (hc47 mTc) (hc48 mFt) (hc49 mGo) dyn)) → pm_WP 148 (60, [(7, .int (nI k)), (6, .int 1), (5, .int n9), (0, .ref 25), (1, .int m), (2, .int f), (3, .int s), (4, .int p)], [], hq g c1 c2 c3 c4 c5 c6 c7 c8 c9 c10 c11 c12 c13 c14 c15 c16 c17 c18 c19 c20 c21 c22 c23 c24 (hc25 mTy mTm mMn mFn mRn mTn mVn mLr mTr mFl mFm mFp mSc mMp mEn) (hc26 mPa) (hc27 mTo) (hc28 mOt) (hc29 mNa) (hc30 mRe) (hc31 mMa) (hc32 mMy) (hc33 mPm) (hc34 mFy) (hc35 mFa) (hc36 mFr) (hc37 mFo) (hc38 mRt) (hc39 mRm) (hc40 mTt) (hc41 mTi) (hc42 mPl) (hc43 mVr) (hc44 mVf) (hc45 mVc) (hc46 mAr) (hc47 mTc) (hc48 mFt) (hc49 mGo) dyn, 0, 0) Q := by
  intro n
  induction n with
  | zero =>
    intro k g1 g2 k0 k1
    exfalso; omega
  | succ n ih =>
    intro k g1 g2 k0 k1
    have hk := nI_toInt (n := k) (by omega)
    have hkc : (nI k).toNatClampNeg = k := nI_clamp (by omega)
    refine pm_go (g := (62, [(7, .int (nI k)), (6, .int 1), (5, .int n9), (0, .ref 25), (1, .int m), (2, .int f), (3, .int s), (4, .int p)], [.int 1], hq g c1 c2 c3 c4 c5 c6 c7 c8 c9 c10 c11 c12 c13 c14 c15 c16 c17 c18 c19 c20 c21 c22 c23 c24 (hc25 mTy mTm mMn mFn mRn mTn mVn mLr mTr mFl mFm mFp mSc mMp mEn) (hc26 mPa) (hc27 mTo) (hc28 mOt) (hc29 mNa) (hc30 mRe) (hc31 mMa) (hc32 mMy) (hc33 mPm) (hc34 mFy) (hc35 mFa) (hc36 mFr) (hc37 mFo) (hc38 mRt) (hc39 mRm) (hc40 mTt) (hc41 mTi) (hc42 mPl) (hc43 mVr) (hc44 mVf) (hc45 mVc) (hc46 mAr) (hc47 mTc) (hc48 mFt) (hc49 mGo) dyn, 0, 0)) rfl ?_
    refine pm_brF (h := (65, [(7, .int (nI k)), (6, .int 1), (5, .int n9), (0, .ref 25), (1, .int m), (2, .int f), (3, .int s), (4, .int p)], [], hq g c1 c2 c3 c4 c5 c6 c7 c8 c9 c10 c11 c12 c13 c14 c15 c16 c17 c18 c19 c20 c21 c22 c23 c24 (hc25 mTy mTm mMn mFn mRn mTn mVn mLr mTr mFl mFm mFp mSc mMp mEn) (hc26 mPa) (hc27 mTo) (hc28 mOt) (hc29 mNa) (hc30 mRe) (hc31 mMa) (hc32 mMy) (hc33 mPm) (hc34 mFy) (hc35 mFa) (hc36 mFr) (hc37 mFo) (hc38 mRt) (hc39 mRm) (hc40 mTt) (hc41 mTi) (hc42 mPl) (hc43 mVr) (hc44 mVf) (hc45 mVc) (hc46 mAr) (hc47 mTc) (hc48 mFt) (hc49 mGo) dyn, 0, 0)) rfl ?_
    refine pm_go (g := (67, _, [.int (nI k)], _, 0, 0)) rfl ?_
    refine pm_go (g := (69, _, [.int n9, .int (nI k)], _, 0, 0)) rfl ?_
    refine pm_if2 (g := (154, [(7, .int (nI k)), (6, .int 1), (5, .int n9), (0, .ref 25), (1, .int m), (2, .int f), (3, .int s), (4, .int p)], [], hq g c1 c2 c3 c4 c5 c6 c7 c8 c9 c10 c11 c12 c13 c14 c15 c16 c17 c18 c19 c20 c21 c22 c23 c24 (hc25 mTy mTm mMn mFn mRn mTn mVn mLr mTr mFl mFm mFp mSc mMp mEn) (hc26 mPa) (hc27 mTo) (hc28 mOt) (hc29 mNa) (hc30 mRe) (hc31 mMa) (hc32 mMy) (hc33 mPm) (hc34 mFy) (hc35 mFa) (hc36 mFr) (hc37 mFo) (hc38 mRt) (hc39 mRm) (hc40 mTt) (hc41 mTi) (hc42 mPl) (hc43 mVr) (hc44 mVf) (hc45 mVc) (hc46 mAr) (hc47 mTc) (hc48 mFt) (hc49 mGo) dyn, 0, 0)) (h := (72, [(7, .int (nI k)), (6, .int 1), (5, .int n9), (0, .ref 25), (1, .int m), (2, .int f), (3, .int s), (4, .int p)], [], hq g c1 c2 c3 c4 c5 c6 c7 c8 c9 c10 c11 c12 c13 c14 c15 c16 c17 c18 c19 c20 c21 c22 c23 c24 (hc25 mTy mTm mMn mFn mRn mTn mVn mLr mTr mFl mFm mFp mSc mMp mEn) (hc26 mPa) (hc27 mTo) (hc28 mOt) (hc29 mNa) (hc30 mRe) (hc31 mMa) (hc32 mMy) (hc33 mPm) (hc34 mFy) (hc35 mFa) (hc36 mFr) (hc37 mFo) (hc38 mRt) (hc39 mRm) (hc40 mTt) (hc41 mTi) (hc42 mPl) (hc43 mVr) (hc44 mVf) (hc45 mVc) (hc46 mAr) (hc47 mTc) (hc48 mFt) (hc49 mGo) dyn, 0, 0)) rfl (fun h1 => ?_) (fun h1 => ?_)
    ·
      have h1 := qT_ge (cx := (nI k).toInt) (cy := (n9).toInt) rfl rfl h1
      refine pm_go (g := (156, _, [.int 1], _, 0, 0)) rfl ?_
      exact pm_ret rfl (k0 (fun j g1 g2 => absurd g2 (by omega)))
    have h1 := qF_ge (cx := (nI k).toInt) (cy := (n9).toInt) rfl rfl h1
    refine pm_go (g := (73, _, [.ref 25], _, 0, 0)) rfl ?_
    refine pm_go (g := (76, _, [.ref 35], _, 0, 0)) rfl ?_
    refine pm_go (g := (77, _, [.int 3, .ref 35], _, 0, 0)) rfl ?_
    refine pm_go (g := (78, _, [.int f, .int 3, .ref 35], _, 0, 0)) rfl ?_
    refine pm_go (g := (79, _, [.int (3 * f), .ref 35], _, 0, 0)) rfl ?_
    try have h2 : (3 * f).toInt = 3 * (f).toInt := iMul (x := 3) (y := (f).toInt) (by decide) rfl (by omega) (by omega)
    refine pm_go (g := (80, _, [.int s, .int (3 * f), .ref 35], _, 0, 0)) rfl ?_
    refine pm_go (g := (81, _, [.int ((3 * f) + s), .ref 35], _, 0, 0)) rfl ?_
    try have h3 : ((3 * f) + s).toInt = (3 * f).toInt + (s).toInt := iAdd (x := (3 * f).toInt) (y := (s).toInt) rfl rfl (by omega) (by omega)
    refine pm_go (g := (83, _, [.int (nI k), .int ((3 * f) + s), .ref 35], _, 0, 0)) rfl ?_
    refine pm_go (g := (84, _, [.int (((3 * f) + s) + (nI k)), .ref 35], _, 0, 0)) rfl ?_
    try have h4 : (((3 * f) + s) + (nI k)).toInt = ((3 * f) + s).toInt + (nI k).toInt := iAdd (x := ((3 * f) + s).toInt) (y := (nI k).toInt) rfl rfl (by omega) (by omega)
    refine pm_sd (g := (85, _, [.int (mFa (((3 * f) + s) + (nI k)).toNatClampNeg)], _, 0, 0)) rfl (pm_inI (by omega) (by omega)) ?_
    refine pm_go (g := (87, [(8, .int (mFa (((3 * f) + s) + (nI k)).toNatClampNeg)), (7, .int (nI k)), (6, .int 1), (5, .int n9), (0, .ref 25), (1, .int m), (2, .int f), (3, .int s), (4, .int p)], [], _, 0, 0)) rfl ?_
    refine pm_go (g := (89, _, [.int p], _, 0, 0)) rfl ?_
    refine pm_go (g := (90, _, [.int 1, .int p], _, 0, 0)) rfl ?_
    refine pm_if2 (g := (113, [(8, .int (mFa (((3 * f) + s) + (nI k)).toNatClampNeg)), (7, .int (nI k)), (6, .int 1), (5, .int n9), (0, .ref 25), (1, .int m), (2, .int f), (3, .int s), (4, .int p)], [], hq g c1 c2 c3 c4 c5 c6 c7 c8 c9 c10 c11 c12 c13 c14 c15 c16 c17 c18 c19 c20 c21 c22 c23 c24 (hc25 mTy mTm mMn mFn mRn mTn mVn mLr mTr mFl mFm mFp mSc mMp mEn) (hc26 mPa) (hc27 mTo) (hc28 mOt) (hc29 mNa) (hc30 mRe) (hc31 mMa) (hc32 mMy) (hc33 mPm) (hc34 mFy) (hc35 mFa) (hc36 mFr) (hc37 mFo) (hc38 mRt) (hc39 mRm) (hc40 mTt) (hc41 mTi) (hc42 mPl) (hc43 mVr) (hc44 mVf) (hc45 mVc) (hc46 mAr) (hc47 mTc) (hc48 mFt) (hc49 mGo) dyn, 0, 0)) (h := (93, [(8, .int (mFa (((3 * f) + s) + (nI k)).toNatClampNeg)), (7, .int (nI k)), (6, .int 1), (5, .int n9), (0, .ref 25), (1, .int m), (2, .int f), (3, .int s), (4, .int p)], [], hq g c1 c2 c3 c4 c5 c6 c7 c8 c9 c10 c11 c12 c13 c14 c15 c16 c17 c18 c19 c20 c21 c22 c23 c24 (hc25 mTy mTm mMn mFn mRn mTn mVn mLr mTr mFl mFm mFp mSc mMp mEn) (hc26 mPa) (hc27 mTo) (hc28 mOt) (hc29 mNa) (hc30 mRe) (hc31 mMa) (hc32 mMy) (hc33 mPm) (hc34 mFy) (hc35 mFa) (hc36 mFr) (hc37 mFo) (hc38 mRt) (hc39 mRm) (hc40 mTt) (hc41 mTi) (hc42 mPl) (hc43 mVr) (hc44 mVf) (hc45 mVc) (hc46 mAr) (hc47 mTc) (hc48 mFt) (hc49 mGo) dyn, 0, 0)) rfl (fun h5 => ?_) (fun h5 => ?_)
    ·
      have h5 := qT_ne (cx := (p).toInt) (cy := 1) rfl (by decide) h5
      refine pm_go (g := (114, _, [.ref 25], _, 0, 0)) rfl ?_
      refine pm_go (g := (116, _, [.int (mFa (((3 * f) + s) + (nI k)).toNatClampNeg), .ref 25], _, 0, 0)) rfl ?_
      refine pm_go (g := (118, _, [.int p, .int (mFa (((3 * f) + s) + (nI k)).toNatClampNeg), .ref 25], _, 0, 0)) rfl ?_
      refine pm_go (g := (119, _, [.int 2, .int p, .int (mFa (((3 * f) + s) + (nI k)).toNatClampNeg), .ref 25], _, 0, 0)) rfl ?_
      refine pm_if2 (g := (136, [(8, .int (mFa (((3 * f) + s) + (nI k)).toNatClampNeg)), (7, .int (nI k)), (6, .int 1), (5, .int n9), (0, .ref 25), (1, .int m), (2, .int f), (3, .int s), (4, .int p)], [.int (mFa (((3 * f) + s) + (nI k)).toNatClampNeg), .ref 25], hq g c1 c2 c3 c4 c5 c6 c7 c8 c9 c10 c11 c12 c13 c14 c15 c16 c17 c18 c19 c20 c21 c22 c23 c24 (hc25 mTy mTm mMn mFn mRn mTn mVn mLr mTr mFl mFm mFp mSc mMp mEn) (hc26 mPa) (hc27 mTo) (hc28 mOt) (hc29 mNa) (hc30 mRe) (hc31 mMa) (hc32 mMy) (hc33 mPm) (hc34 mFy) (hc35 mFa) (hc36 mFr) (hc37 mFo) (hc38 mRt) (hc39 mRm) (hc40 mTt) (hc41 mTi) (hc42 mPl) (hc43 mVr) (hc44 mVf) (hc45 mVc) (hc46 mAr) (hc47 mTc) (hc48 mFt) (hc49 mGo) dyn, 0, 0)) (h := (122, [(8, .int (mFa (((3 * f) + s) + (nI k)).toNatClampNeg)), (7, .int (nI k)), (6, .int 1), (5, .int n9), (0, .ref 25), (1, .int m), (2, .int f), (3, .int s), (4, .int p)], [.int (mFa (((3 * f) + s) + (nI k)).toNatClampNeg), .ref 25], hq g c1 c2 c3 c4 c5 c6 c7 c8 c9 c10 c11 c12 c13 c14 c15 c16 c17 c18 c19 c20 c21 c22 c23 c24 (hc25 mTy mTm mMn mFn mRn mTn mVn mLr mTr mFl mFm mFp mSc mMp mEn) (hc26 mPa) (hc27 mTo) (hc28 mOt) (hc29 mNa) (hc30 mRe) (hc31 mMa) (hc32 mMy) (hc33 mPm) (hc34 mFy) (hc35 mFa) (hc36 mFr) (hc37 mFo) (hc38 mRt) (hc39 mRm) (hc40 mTt) (hc41 mTi) (hc42 mPl) (hc43 mVr) (hc44 mVf) (hc45 mVc) (hc46 mAr) (hc47 mTc) (hc48 mFt) (hc49 mGo) dyn, 0, 0)) rfl (fun h6 => ?_) (fun h6 => ?_)
      ·
        have h6 := qT_ne (cx := (p).toInt) (cy := 2) rfl (by decide) h6
        refine pm_go (g := (137, _, [.ref 25, .int (mFa (((3 * f) + s) + (nI k)).toNatClampNeg), .ref 25], _, 0, 0)) rfl ?_
        refine pm_go (g := (138, _, [.int m, .ref 25, .int (mFa (((3 * f) + s) + (nI k)).toNatClampNeg), .ref 25], _, 0, 0)) rfl ?_
        refine pm_go (g := (140, _, [.int (nI k), .int m, .ref 25, .int (mFa (((3 * f) + s) + (nI k)).toNatClampNeg), .ref 25], _, 0, 0)) rfl ?_
        refine pm_callD (z := 147) (as := [.ref 25, .int m, .int (nI k)]) (rest := [.int (mFa (((3 * f) + s) + (nI k)).toNatClampNeg), .ref 25]) rfl ?_
        refine w2_X12_placeOf m (nI k) (by omega) (by omega) (by omega) ?_
        show pm_WP 148 (143, [(8, .int (mFa (((3 * f) + s) + (nI k)).toNatClampNeg)), (7, .int (nI k)), (6, .int 1), (5, .int n9), (0, .ref 25), (1, .int m), (2, .int f), (3, .int s), (4, .int p)], [.int (plV mMy mPm m (nI k)), .int (mFa (((3 * f) + s) + (nI k)).toNatClampNeg), .ref 25], _, 0, 0) _
        refine pm_callD (z := 133) (as := [.ref 25, .int (mFa (((3 * f) + s) + (nI k)).toNatClampNeg), .int (plV mMy mPm m (nI k))]) (rest := []) rfl ?_
        refine w_X12_isLoose (mFa (((3 * f) + s) + (nI k)).toNatClampNeg) (plV mMy mPm m (nI k)) (by assumption) (fun h8 => ?_) (fun h9 => ?_)
        ·
          show pm_WP 148 (146, [(8, .int (mFa (((3 * f) + s) + (nI k)).toNatClampNeg)), (7, .int (nI k)), (6, .int 1), (5, .int n9), (0, .ref 25), (1, .int m), (2, .int f), (3, .int s), (4, .int p)], [.int 1], _, 0, 0) _
          refine pm_go (g := (148, [(6, .int 1), (8, .int (mFa (((3 * f) + s) + (nI k)).toNatClampNeg)), (7, .int (nI k)), (5, .int n9), (0, .ref 25), (1, .int m), (2, .int f), (3, .int s), (4, .int p)], [], _, 0, 0)) rfl ?_
          refine pm_go (g := (151, [(7, .int ((nI k) + 1)), (6, .int 1), (8, .int (mFa (((3 * f) + s) + (nI k)).toNatClampNeg)), (5, .int n9), (0, .ref 25), (1, .int m), (2, .int f), (3, .int s), (4, .int p)], [], _, 0, 0)) rfl ?_
          refine pm_go (g := (60, _, [], _, 0, 0)) rfl ?_
          refine pm_sub (lv := [(7, .int ((nI k) + 1)), (6, .int 1), (5, .int n9), (0, .ref 25), (1, .int m), (2, .int f), (3, .int s), (4, .int p)]) ?_ ⟨le_c (List.Mem.head _) (le_c (List.Mem.tail _ (List.Mem.head _)) (le_c (List.Mem.tail _ (List.Mem.tail _ (List.Mem.tail _ (List.Mem.head _)))) (le_c (List.Mem.tail _ (List.Mem.tail _ (List.Mem.tail _ (List.Mem.tail _ (List.Mem.head _))))) (le_c (List.Mem.tail _ (List.Mem.tail _ (List.Mem.tail _ (List.Mem.tail _ (List.Mem.tail _ (List.Mem.head _)))))) (le_c (List.Mem.tail _ (List.Mem.tail _ (List.Mem.tail _ (List.Mem.tail _ (List.Mem.tail _ (List.Mem.tail _ (List.Mem.head _))))))) (le_c (List.Mem.tail _ (List.Mem.tail _ (List.Mem.tail _ (List.Mem.tail _ (List.Mem.tail _ (List.Mem.tail _ (List.Mem.tail _ (List.Mem.head _)))))))) (le_c (List.Mem.tail _ (List.Mem.tail _ (List.Mem.tail _ (List.Mem.tail _ (List.Mem.tail _ (List.Mem.tail _ (List.Mem.tail _ (List.Mem.tail _ (List.Mem.head _))))))))) le_n))))))), (show ([7, 6, 8, 5, 0, 1, 2, 3, 4] : List Nat).Nodup by decide)⟩
          rw [nI_1]
          refine ih (k + 1) (by omega) (by omega) (fun h => k0 (fun j g1 g2 => ?_)) (fun h => k1 (fun q => h (fun j g1 g2 => q j (by omega) g2)))
          rcases Nat.eq_or_lt_of_le g1 with e9 | e9
          · subst e9; exact (by refine ⟨fun q => ?_, fun q => ?_, fun q => ?_⟩ <;> first | (exfalso; omega) | assumption)
          · exact h j e9 g2
        show pm_WP 148 (146, [(8, .int (mFa (((3 * f) + s) + (nI k)).toNatClampNeg)), (7, .int (nI k)), (6, .int 1), (5, .int n9), (0, .ref 25), (1, .int m), (2, .int f), (3, .int s), (4, .int p)], [.int 0], hq g c1 c2 c3 c4 c5 c6 c7 c8 c9 c10 c11 c12 c13 c14 c15 c16 c17 c18 c19 c20 c21 c22 c23 c24 (hc25 mTy mTm mMn mFn mRn mTn mVn mLr mTr mFl mFm mFp mSc mMp mEn) (hc26 mPa) (hc27 mTo) (hc28 mOt) (hc29 mNa) (hc30 mRe) (hc31 mMa) (hc32 mMy) (hc33 mPm) (hc34 mFy) (hc35 mFa) (hc36 mFr) (hc37 mFo) (hc38 mRt) (hc39 mRm) (hc40 mTt) (hc41 mTi) (hc42 mPl) (hc43 mVr) (hc44 mVf) (hc45 mVc) (hc46 mAr) (hc47 mTc) (hc48 mFt) (hc49 mGo) dyn, 0, 0) _
        refine pm_go (g := (148, [(6, .int 0), (8, .int (mFa (((3 * f) + s) + (nI k)).toNatClampNeg)), (7, .int (nI k)), (5, .int n9), (0, .ref 25), (1, .int m), (2, .int f), (3, .int s), (4, .int p)], [], _, 0, 0)) rfl ?_
        refine pm_go (g := (151, [(7, .int ((nI k) + 1)), (6, .int 0), (8, .int (mFa (((3 * f) + s) + (nI k)).toNatClampNeg)), (5, .int n9), (0, .ref 25), (1, .int m), (2, .int f), (3, .int s), (4, .int p)], [], _, 0, 0)) rfl ?_
        refine pm_go (g := (60, _, [], _, 0, 0)) rfl ?_
        refine pm_go (g := (62, _, [.int 0], _, 0, 0)) rfl ?_
        refine pm_brT (g := (154, [(7, .int ((nI k) + 1)), (6, .int 0), (8, .int (mFa (((3 * f) + s) + (nI k)).toNatClampNeg)), (5, .int n9), (0, .ref 25), (1, .int m), (2, .int f), (3, .int s), (4, .int p)], [], hq g c1 c2 c3 c4 c5 c6 c7 c8 c9 c10 c11 c12 c13 c14 c15 c16 c17 c18 c19 c20 c21 c22 c23 c24 (hc25 mTy mTm mMn mFn mRn mTn mVn mLr mTr mFl mFm mFp mSc mMp mEn) (hc26 mPa) (hc27 mTo) (hc28 mOt) (hc29 mNa) (hc30 mRe) (hc31 mMa) (hc32 mMy) (hc33 mPm) (hc34 mFy) (hc35 mFa) (hc36 mFr) (hc37 mFo) (hc38 mRt) (hc39 mRm) (hc40 mTt) (hc41 mTi) (hc42 mPl) (hc43 mVr) (hc44 mVf) (hc45 mVc) (hc46 mAr) (hc47 mTc) (hc48 mFt) (hc49 mGo) dyn, 0, 0)) rfl ?_
        refine pm_go (g := (156, _, [.int 0], _, 0, 0)) rfl ?_
        refine pm_ret rfl (k1 (fun q' => ?_))
        obtain ⟨q1, q2, q3⟩ := q' k (Nat.le_refl k) (by omega)
        first | (have q4 := q1 (by omega); simp_all; done) | (have q4 := q2 (by omega); contradiction) | (have q4 := q3 (by omega); contradiction)
      have h6 := qF_ne (cx := (p).toInt) (cy := 2) rfl (by decide) h6
      refine pm_go (g := (123, [(8, .int (mFa (((3 * f) + s) + (nI k)).toNatClampNeg)), (7, .int (nI k)), (6, .int 1), (5, .int n9), (0, .ref 25), (1, .int m), (2, .int f), (3, .int s), (4, .int p)], [.ref 25, .int (mFa (((3 * f) + s) + (nI k)).toNatClampNeg), .ref 25], _, 0, 0)) rfl ?_
      refine pm_go (g := (126, _, [.ref 33, .int (mFa (((3 * f) + s) + (nI k)).toNatClampNeg), .ref 25], _, 0, 0)) rfl ?_
      refine pm_go (g := (127, _, [.int 3, .ref 33, .int (mFa (((3 * f) + s) + (nI k)).toNatClampNeg), .ref 25], _, 0, 0)) rfl ?_
      refine pm_go (g := (128, _, [.int m, .int 3, .ref 33, .int (mFa (((3 * f) + s) + (nI k)).toNatClampNeg), .ref 25], _, 0, 0)) rfl ?_
      refine pm_go (g := (129, _, [.int (3 * m), .ref 33, .int (mFa (((3 * f) + s) + (nI k)).toNatClampNeg), .ref 25], _, 0, 0)) rfl ?_
      try have h11 : (3 * m).toInt = 3 * (m).toInt := iMul (x := 3) (y := (m).toInt) (by decide) rfl (by omega) (by omega)
      refine pm_go (g := (131, _, [.int (nI k), .int (3 * m), .ref 33, .int (mFa (((3 * f) + s) + (nI k)).toNatClampNeg), .ref 25], _, 0, 0)) rfl ?_
      refine pm_go (g := (132, _, [.int ((3 * m) + (nI k)), .ref 33, .int (mFa (((3 * f) + s) + (nI k)).toNatClampNeg), .ref 25], _, 0, 0)) rfl ?_
      try have h12 : ((3 * m) + (nI k)).toInt = (3 * m).toInt + (nI k).toInt := iAdd (x := (3 * m).toInt) (y := (nI k).toInt) rfl rfl (by omega) (by omega)
      refine pm_sd (g := (133, _, [.int (mPm ((3 * m) + (nI k)).toNatClampNeg), .int (mFa (((3 * f) + s) + (nI k)).toNatClampNeg), .ref 25], _, 0, 0)) rfl (pm_inI (by omega) (by omega)) ?_
      refine pm_go (g := (143, _, [.int (mPm ((3 * m) + (nI k)).toNatClampNeg), .int (mFa (((3 * f) + s) + (nI k)).toNatClampNeg), .ref 25], _, 0, 0)) rfl ?_
      refine pm_callD (z := 133) (as := [.ref 25, .int (mFa (((3 * f) + s) + (nI k)).toNatClampNeg), .int (mPm ((3 * m) + (nI k)).toNatClampNeg)]) (rest := []) rfl ?_
      refine w_X12_isLoose (mFa (((3 * f) + s) + (nI k)).toNatClampNeg) (mPm ((3 * m) + (nI k)).toNatClampNeg) (by assumption) (fun h13 => ?_) (fun h14 => ?_)
      ·
        show pm_WP 148 (146, [(8, .int (mFa (((3 * f) + s) + (nI k)).toNatClampNeg)), (7, .int (nI k)), (6, .int 1), (5, .int n9), (0, .ref 25), (1, .int m), (2, .int f), (3, .int s), (4, .int p)], [.int 1], _, 0, 0) _
        refine pm_go (g := (148, [(6, .int 1), (8, .int (mFa (((3 * f) + s) + (nI k)).toNatClampNeg)), (7, .int (nI k)), (5, .int n9), (0, .ref 25), (1, .int m), (2, .int f), (3, .int s), (4, .int p)], [], _, 0, 0)) rfl ?_
        refine pm_go (g := (151, [(7, .int ((nI k) + 1)), (6, .int 1), (8, .int (mFa (((3 * f) + s) + (nI k)).toNatClampNeg)), (5, .int n9), (0, .ref 25), (1, .int m), (2, .int f), (3, .int s), (4, .int p)], [], _, 0, 0)) rfl ?_
        refine pm_go (g := (60, _, [], _, 0, 0)) rfl ?_
        refine pm_sub (lv := [(7, .int ((nI k) + 1)), (6, .int 1), (5, .int n9), (0, .ref 25), (1, .int m), (2, .int f), (3, .int s), (4, .int p)]) ?_ ⟨le_c (List.Mem.head _) (le_c (List.Mem.tail _ (List.Mem.head _)) (le_c (List.Mem.tail _ (List.Mem.tail _ (List.Mem.tail _ (List.Mem.head _)))) (le_c (List.Mem.tail _ (List.Mem.tail _ (List.Mem.tail _ (List.Mem.tail _ (List.Mem.head _))))) (le_c (List.Mem.tail _ (List.Mem.tail _ (List.Mem.tail _ (List.Mem.tail _ (List.Mem.tail _ (List.Mem.head _)))))) (le_c (List.Mem.tail _ (List.Mem.tail _ (List.Mem.tail _ (List.Mem.tail _ (List.Mem.tail _ (List.Mem.tail _ (List.Mem.head _))))))) (le_c (List.Mem.tail _ (List.Mem.tail _ (List.Mem.tail _ (List.Mem.tail _ (List.Mem.tail _ (List.Mem.tail _ (List.Mem.tail _ (List.Mem.head _)))))))) (le_c (List.Mem.tail _ (List.Mem.tail _ (List.Mem.tail _ (List.Mem.tail _ (List.Mem.tail _ (List.Mem.tail _ (List.Mem.tail _ (List.Mem.tail _ (List.Mem.head _))))))))) le_n))))))), (show ([7, 6, 8, 5, 0, 1, 2, 3, 4] : List Nat).Nodup by decide)⟩
        rw [nI_1]
        refine ih (k + 1) (by omega) (by omega) (fun h => k0 (fun j g1 g2 => ?_)) (fun h => k1 (fun q => h (fun j g1 g2 => q j (by omega) g2)))
        rcases Nat.eq_or_lt_of_le g1 with e9 | e9
        · subst e9; exact (by refine ⟨fun q => ?_, fun q => ?_, fun q => ?_⟩ <;> first | (exfalso; omega) | assumption)
        · exact h j e9 g2
      show pm_WP 148 (146, [(8, .int (mFa (((3 * f) + s) + (nI k)).toNatClampNeg)), (7, .int (nI k)), (6, .int 1), (5, .int n9), (0, .ref 25), (1, .int m), (2, .int f), (3, .int s), (4, .int p)], [.int 0], hq g c1 c2 c3 c4 c5 c6 c7 c8 c9 c10 c11 c12 c13 c14 c15 c16 c17 c18 c19 c20 c21 c22 c23 c24 (hc25 mTy mTm mMn mFn mRn mTn mVn mLr mTr mFl mFm mFp mSc mMp mEn) (hc26 mPa) (hc27 mTo) (hc28 mOt) (hc29 mNa) (hc30 mRe) (hc31 mMa) (hc32 mMy) (hc33 mPm) (hc34 mFy) (hc35 mFa) (hc36 mFr) (hc37 mFo) (hc38 mRt) (hc39 mRm) (hc40 mTt) (hc41 mTi) (hc42 mPl) (hc43 mVr) (hc44 mVf) (hc45 mVc) (hc46 mAr) (hc47 mTc) (hc48 mFt) (hc49 mGo) dyn, 0, 0) _
      refine pm_go (g := (148, [(6, .int 0), (8, .int (mFa (((3 * f) + s) + (nI k)).toNatClampNeg)), (7, .int (nI k)), (5, .int n9), (0, .ref 25), (1, .int m), (2, .int f), (3, .int s), (4, .int p)], [], _, 0, 0)) rfl ?_
      refine pm_go (g := (151, [(7, .int ((nI k) + 1)), (6, .int 0), (8, .int (mFa (((3 * f) + s) + (nI k)).toNatClampNeg)), (5, .int n9), (0, .ref 25), (1, .int m), (2, .int f), (3, .int s), (4, .int p)], [], _, 0, 0)) rfl ?_
      refine pm_go (g := (60, _, [], _, 0, 0)) rfl ?_
      refine pm_go (g := (62, _, [.int 0], _, 0, 0)) rfl ?_
      refine pm_brT (g := (154, [(7, .int ((nI k) + 1)), (6, .int 0), (8, .int (mFa (((3 * f) + s) + (nI k)).toNatClampNeg)), (5, .int n9), (0, .ref 25), (1, .int m), (2, .int f), (3, .int s), (4, .int p)], [], hq g c1 c2 c3 c4 c5 c6 c7 c8 c9 c10 c11 c12 c13 c14 c15 c16 c17 c18 c19 c20 c21 c22 c23 c24 (hc25 mTy mTm mMn mFn mRn mTn mVn mLr mTr mFl mFm mFp mSc mMp mEn) (hc26 mPa) (hc27 mTo) (hc28 mOt) (hc29 mNa) (hc30 mRe) (hc31 mMa) (hc32 mMy) (hc33 mPm) (hc34 mFy) (hc35 mFa) (hc36 mFr) (hc37 mFo) (hc38 mRt) (hc39 mRm) (hc40 mTt) (hc41 mTi) (hc42 mPl) (hc43 mVr) (hc44 mVf) (hc45 mVc) (hc46 mAr) (hc47 mTc) (hc48 mFt) (hc49 mGo) dyn, 0, 0)) rfl ?_
      refine pm_go (g := (156, _, [.int 0], _, 0, 0)) rfl ?_
      refine pm_ret rfl (k1 (fun q' => ?_))
      obtain ⟨q1, q2, q3⟩ := q' k (Nat.le_refl k) (by omega)
      first | (have q4 := q1 (by omega); simp_all; done) | (have q4 := q2 (by omega); contradiction) | (have q4 := q3 (by omega); contradiction)
    have h5 := qF_ne (cx := (p).toInt) (cy := 1) rfl (by decide) h5
    refine pm_go (g := (94, [(8, .int (mFa (((3 * f) + s) + (nI k)).toNatClampNeg)), (7, .int (nI k)), (6, .int 1), (5, .int n9), (0, .ref 25), (1, .int m), (2, .int f), (3, .int s), (4, .int p)], [.ref 25], _, 0, 0)) rfl ?_
    refine pm_go (g := (96, _, [.int (mFa (((3 * f) + s) + (nI k)).toNatClampNeg), .ref 25], _, 0, 0)) rfl ?_
    refine pm_go (g := (97, _, [.ref 25, .int (mFa (((3 * f) + s) + (nI k)).toNatClampNeg), .ref 25], _, 0, 0)) rfl ?_
    refine pm_go (g := (100, _, [.ref 33, .int (mFa (((3 * f) + s) + (nI k)).toNatClampNeg), .ref 25], _, 0, 0)) rfl ?_
    refine pm_go (g := (101, _, [.int 3, .ref 33, .int (mFa (((3 * f) + s) + (nI k)).toNatClampNeg), .ref 25], _, 0, 0)) rfl ?_
    refine pm_go (g := (102, _, [.int m, .int 3, .ref 33, .int (mFa (((3 * f) + s) + (nI k)).toNatClampNeg), .ref 25], _, 0, 0)) rfl ?_
    refine pm_go (g := (103, _, [.int (3 * m), .ref 33, .int (mFa (((3 * f) + s) + (nI k)).toNatClampNeg), .ref 25], _, 0, 0)) rfl ?_
    try have h16 : (3 * m).toInt = 3 * (m).toInt := iMul (x := 3) (y := (m).toInt) (by decide) rfl (by omega) (by omega)
    refine pm_go (g := (105, _, [.int (nI k), .int (3 * m), .ref 33, .int (mFa (((3 * f) + s) + (nI k)).toNatClampNeg), .ref 25], _, 0, 0)) rfl ?_
    refine pm_go (g := (106, _, [.int ((3 * m) + (nI k)), .ref 33, .int (mFa (((3 * f) + s) + (nI k)).toNatClampNeg), .ref 25], _, 0, 0)) rfl ?_
    try have h17 : ((3 * m) + (nI k)).toInt = (3 * m).toInt + (nI k).toInt := iAdd (x := (3 * m).toInt) (y := (nI k).toInt) rfl rfl (by omega) (by omega)
    refine pm_sd (g := (107, _, [.int (mPm ((3 * m) + (nI k)).toNatClampNeg), .int (mFa (((3 * f) + s) + (nI k)).toNatClampNeg), .ref 25], _, 0, 0)) rfl (pm_inI (by omega) (by omega)) ?_
    refine pm_callD (z := 132) (as := [.ref 25, .int (mFa (((3 * f) + s) + (nI k)).toNatClampNeg), .int (mPm ((3 * m) + (nI k)).toNatClampNeg)]) (rest := []) rfl ?_
    refine w_X12_isUnder (mFa (((3 * f) + s) + (nI k)).toNatClampNeg) (mPm ((3 * m) + (nI k)).toNatClampNeg) (by assumption) (fun h18 => ?_) (fun h19 => ?_)
    ·
      show pm_WP 148 (110, [(8, .int (mFa (((3 * f) + s) + (nI k)).toNatClampNeg)), (7, .int (nI k)), (6, .int 1), (5, .int n9), (0, .ref 25), (1, .int m), (2, .int f), (3, .int s), (4, .int p)], [.int 1], _, 0, 0) _
      refine pm_go (g := (146, _, [.int 1], _, 0, 0)) rfl ?_
      refine pm_go (g := (148, [(6, .int 1), (8, .int (mFa (((3 * f) + s) + (nI k)).toNatClampNeg)), (7, .int (nI k)), (5, .int n9), (0, .ref 25), (1, .int m), (2, .int f), (3, .int s), (4, .int p)], [], _, 0, 0)) rfl ?_
      refine pm_go (g := (151, [(7, .int ((nI k) + 1)), (6, .int 1), (8, .int (mFa (((3 * f) + s) + (nI k)).toNatClampNeg)), (5, .int n9), (0, .ref 25), (1, .int m), (2, .int f), (3, .int s), (4, .int p)], [], _, 0, 0)) rfl ?_
      refine pm_go (g := (60, _, [], _, 0, 0)) rfl ?_
      refine pm_sub (lv := [(7, .int ((nI k) + 1)), (6, .int 1), (5, .int n9), (0, .ref 25), (1, .int m), (2, .int f), (3, .int s), (4, .int p)]) ?_ ⟨le_c (List.Mem.head _) (le_c (List.Mem.tail _ (List.Mem.head _)) (le_c (List.Mem.tail _ (List.Mem.tail _ (List.Mem.tail _ (List.Mem.head _)))) (le_c (List.Mem.tail _ (List.Mem.tail _ (List.Mem.tail _ (List.Mem.tail _ (List.Mem.head _))))) (le_c (List.Mem.tail _ (List.Mem.tail _ (List.Mem.tail _ (List.Mem.tail _ (List.Mem.tail _ (List.Mem.head _)))))) (le_c (List.Mem.tail _ (List.Mem.tail _ (List.Mem.tail _ (List.Mem.tail _ (List.Mem.tail _ (List.Mem.tail _ (List.Mem.head _))))))) (le_c (List.Mem.tail _ (List.Mem.tail _ (List.Mem.tail _ (List.Mem.tail _ (List.Mem.tail _ (List.Mem.tail _ (List.Mem.tail _ (List.Mem.head _)))))))) (le_c (List.Mem.tail _ (List.Mem.tail _ (List.Mem.tail _ (List.Mem.tail _ (List.Mem.tail _ (List.Mem.tail _ (List.Mem.tail _ (List.Mem.tail _ (List.Mem.head _))))))))) le_n))))))), (show ([7, 6, 8, 5, 0, 1, 2, 3, 4] : List Nat).Nodup by decide)⟩
      rw [nI_1]
      refine ih (k + 1) (by omega) (by omega) (fun h => k0 (fun j g1 g2 => ?_)) (fun h => k1 (fun q => h (fun j g1 g2 => q j (by omega) g2)))
      rcases Nat.eq_or_lt_of_le g1 with e9 | e9
      · subst e9; exact (by refine ⟨fun q => ?_, fun q => ?_, fun q => ?_⟩ <;> first | (exfalso; omega) | assumption)
      · exact h j e9 g2
    show pm_WP 148 (110, [(8, .int (mFa (((3 * f) + s) + (nI k)).toNatClampNeg)), (7, .int (nI k)), (6, .int 1), (5, .int n9), (0, .ref 25), (1, .int m), (2, .int f), (3, .int s), (4, .int p)], [.int 0], hq g c1 c2 c3 c4 c5 c6 c7 c8 c9 c10 c11 c12 c13 c14 c15 c16 c17 c18 c19 c20 c21 c22 c23 c24 (hc25 mTy mTm mMn mFn mRn mTn mVn mLr mTr mFl mFm mFp mSc mMp mEn) (hc26 mPa) (hc27 mTo) (hc28 mOt) (hc29 mNa) (hc30 mRe) (hc31 mMa) (hc32 mMy) (hc33 mPm) (hc34 mFy) (hc35 mFa) (hc36 mFr) (hc37 mFo) (hc38 mRt) (hc39 mRm) (hc40 mTt) (hc41 mTi) (hc42 mPl) (hc43 mVr) (hc44 mVf) (hc45 mVc) (hc46 mAr) (hc47 mTc) (hc48 mFt) (hc49 mGo) dyn, 0, 0) _
    refine pm_go (g := (146, _, [.int 0], _, 0, 0)) rfl ?_
    refine pm_go (g := (148, [(6, .int 0), (8, .int (mFa (((3 * f) + s) + (nI k)).toNatClampNeg)), (7, .int (nI k)), (5, .int n9), (0, .ref 25), (1, .int m), (2, .int f), (3, .int s), (4, .int p)], [], _, 0, 0)) rfl ?_
    refine pm_go (g := (151, [(7, .int ((nI k) + 1)), (6, .int 0), (8, .int (mFa (((3 * f) + s) + (nI k)).toNatClampNeg)), (5, .int n9), (0, .ref 25), (1, .int m), (2, .int f), (3, .int s), (4, .int p)], [], _, 0, 0)) rfl ?_
    refine pm_go (g := (60, _, [], _, 0, 0)) rfl ?_
    refine pm_go (g := (62, _, [.int 0], _, 0, 0)) rfl ?_
    refine pm_brT (g := (154, [(7, .int ((nI k) + 1)), (6, .int 0), (8, .int (mFa (((3 * f) + s) + (nI k)).toNatClampNeg)), (5, .int n9), (0, .ref 25), (1, .int m), (2, .int f), (3, .int s), (4, .int p)], [], hq g c1 c2 c3 c4 c5 c6 c7 c8 c9 c10 c11 c12 c13 c14 c15 c16 c17 c18 c19 c20 c21 c22 c23 c24 (hc25 mTy mTm mMn mFn mRn mTn mVn mLr mTr mFl mFm mFp mSc mMp mEn) (hc26 mPa) (hc27 mTo) (hc28 mOt) (hc29 mNa) (hc30 mRe) (hc31 mMa) (hc32 mMy) (hc33 mPm) (hc34 mFy) (hc35 mFa) (hc36 mFr) (hc37 mFo) (hc38 mRt) (hc39 mRm) (hc40 mTt) (hc41 mTi) (hc42 mPl) (hc43 mVr) (hc44 mVf) (hc45 mVc) (hc46 mAr) (hc47 mTc) (hc48 mFt) (hc49 mGo) dyn, 0, 0)) rfl ?_
    refine pm_go (g := (156, _, [.int 0], _, 0, 0)) rfl ?_
    refine pm_ret rfl (k1 (fun q' => ?_))
    obtain ⟨q1, q2, q3⟩ := q' k (Nat.le_refl k) (by omega)
    first | (have q4 := q1 (by omega); simp_all; done) | (have q4 := q2 (by omega); contradiction) | (have q4 := q3 (by omega); contradiction)
set_option maxRecDepth 100000 in
set_option maxHeartbeats 4000000 in
theorem w_X12_takes {g c1 c2 c3 c4 c5 c6 c7 c8 c9 c10 c11 c12 c13 c14 c15 c16 c17 c18 c19 c20 c21 c22 c23 c24 : pm_C} {dyn : pm_H} {mTy : Int32} {mPa : Nat → Int32} {mTo : Nat → Int32} {mTm : Int32} {mMn : Int32} {mOt : Nat → Int32} {mNa : Nat → Int32} {mRe : Nat → Int32} {mMa : Nat → Int32} {mMy : Nat → Int32} {mPm : Nat → Int32} {mFn : Int32} {mFy : Nat → Int32} {mFa : Nat → Int32} {mFr : Nat → Int32} {mRn : Int32} {mFo : Nat → Int32} {mRt : Nat → Int32} {mRm : Nat → Int32} {mTn : Int32} {mTt : Nat → Int32} {mTi : Nat → Int32} {mPl : Nat → Int32} {mVn : Int32} {mVr : Nat → Int32} {mVf : Nat → Int32} {mVc : Nat → Int32} {mAr : Nat → Int32} {mLr : Int32} {mTc : Nat → Int32} {mTr : Int32} {mFl : Int32} {mFt : Nat → Int32} {mFm : Int32} {mFp : Int32} {mSc : Int32} {mMp : Int32} {mEn : Int32} {mGo : Nat → Int32} {Q : pm_Q} (m : Int32) (f : Int32) (s : Int32) (p : Int32) (p0 : 0 ≤ m.toInt ∧ m.toInt < 40) (p1 : 0 ≤ f.toInt ∧ f.toInt < 10) (p2 : 0 ≤ s.toInt ∧ s.toInt ≤ 1) (p3 : s.toInt ≤ (mFy f.toNatClampNeg).toInt ∧ (mFy f.toNatClampNeg).toInt ≤ 3) (p4 : 1 ≤ p.toInt ∧ p.toInt ≤ 3) (p5 : paD mPa) (p6 : myD mMy) (p7 : vrD mMa mMy) (k0 : tkM mPa mMy mPm mFa mMa mFy m f s p → Q (some (.int 1)) (hq g c1 c2 c3 c4 c5 c6 c7 c8 c9 c10 c11 c12 c13 c14 c15 c16 c17 c18 c19 c20 c21 c22 c23 c24 (hc25 mTy mTm mMn mFn mRn mTn mVn mLr mTr mFl mFm mFp mSc mMp mEn) (hc26 mPa) (hc27 mTo) (hc28 mOt) (hc29 mNa) (hc30 mRe) (hc31 mMa) (hc32 mMy) (hc33 mPm) (hc34 mFy) (hc35 mFa) (hc36 mFr) (hc37 mFo) (hc38 mRt) (hc39 mRm) (hc40 mTt) (hc41 mTi) (hc42 mPl) (hc43 mVr) (hc44 mVf) (hc45 mVc) (hc46 mAr) (hc47 mTc) (hc48 mFt) (hc49 mGo) dyn)) (k1 : ¬ tkM mPa mMy mPm mFa mMa mFy m f s p → Q (some (.int 0)) (hq g c1 c2 c3 c4 c5 c6 c7 c8 c9 c10 c11 c12 c13 c14 c15 c16 c17 c18 c19 c20 c21 c22 c23 c24 (hc25 mTy mTm mMn mFn mRn mTn mVn mLr mTr mFl mFm mFp mSc mMp mEn) (hc26 mPa) (hc27 mTo) (hc28 mOt) (hc29 mNa) (hc30 mRe) (hc31 mMa) (hc32 mMy) (hc33 mPm) (hc34 mFy) (hc35 mFa) (hc36 mFr) (hc37 mFo) (hc38 mRt) (hc39 mRm) (hc40 mTt) (hc41 mTi) (hc42 mPl) (hc43 mVr) (hc44 mVf) (hc45 mVc) (hc46 mAr) (hc47 mTc) (hc48 mFt) (hc49 mGo) dyn)) : pm_WP 148 (0, [(0, .ref 25), (1, .int m), (2, .int f), (3, .int s), (4, .int p)], [], hq g c1 c2 c3 c4 c5 c6 c7 c8 c9 c10 c11 c12 c13 c14 c15 c16 c17 c18 c19 c20 c21 c22 c23 c24 (hc25 mTy mTm mMn mFn mRn mTn mVn mLr mTr mFl mFm mFp mSc mMp mEn) (hc26 mPa) (hc27 mTo) (hc28 mOt) (hc29 mNa) (hc30 mRe) (hc31 mMa) (hc32 mMy) (hc33 mPm) (hc34 mFy) (hc35 mFa) (hc36 mFr) (hc37 mFo) (hc38 mRt) (hc39 mRm) (hc40 mTt) (hc41 mTi) (hc42 mPl) (hc43 mVr) (hc44 mVf) (hc45 mVc) (hc46 mAr) (hc47 mTc) (hc48 mFt) (hc49 mGo) dyn, 0, 0) Q := by
  have hyy := myD_at p6 p0.1 p0.2
  refine pm_go (g := (1, [(0, .ref 25), (1, .int m), (2, .int f), (3, .int s), (4, .int p)], [.ref 25], hq g c1 c2 c3 c4 c5 c6 c7 c8 c9 c10 c11 c12 c13 c14 c15 c16 c17 c18 c19 c20 c21 c22 c23 c24 (hc25 mTy mTm mMn mFn mRn mTn mVn mLr mTr mFl mFm mFp mSc mMp mEn) (hc26 mPa) (hc27 mTo) (hc28 mOt) (hc29 mNa) (hc30 mRe) (hc31 mMa) (hc32 mMy) (hc33 mPm) (hc34 mFy) (hc35 mFa) (hc36 mFr) (hc37 mFo) (hc38 mRt) (hc39 mRm) (hc40 mTt) (hc41 mTi) (hc42 mPl) (hc43 mVr) (hc44 mVf) (hc45 mVc) (hc46 mAr) (hc47 mTc) (hc48 mFt) (hc49 mGo) dyn, 0, 0)) rfl ?_
  refine pm_go (g := (4, _, [.ref 34], _, 0, 0)) rfl ?_
  refine pm_go (g := (5, _, [.int f, .ref 34], _, 0, 0)) rfl ?_
  refine pm_sd (g := (6, _, [.int (mFy (f).toNatClampNeg)], _, 0, 0)) rfl (pm_inI (by omega) (by omega)) ?_
  refine pm_go (g := (7, _, [.int s, .int (mFy (f).toNatClampNeg)], _, 0, 0)) rfl ?_
  refine pm_go (g := (8, _, [.int ((mFy (f).toNatClampNeg) - s)], _, 0, 0)) rfl ?_
  try have h1 : ((mFy (f).toNatClampNeg) - s).toInt = (mFy (f).toNatClampNeg).toInt - (s).toInt := iSub (x := (mFy (f).toNatClampNeg).toInt) (y := (s).toInt) rfl rfl (by omega) (by omega)
  refine pm_go (g := (10, [(5, .int ((mFy (f).toNatClampNeg) - s)), (0, .ref 25), (1, .int m), (2, .int f), (3, .int s), (4, .int p)], [], _, 0, 0)) rfl ?_
  refine pm_go (g := (12, _, [.int p], _, 0, 0)) rfl ?_
  refine pm_go (g := (13, _, [.int 3, .int p], _, 0, 0)) rfl ?_
  refine pm_if2 (g := (30, [(5, .int ((mFy (f).toNatClampNeg) - s)), (0, .ref 25), (1, .int m), (2, .int f), (3, .int s), (4, .int p)], [], hq g c1 c2 c3 c4 c5 c6 c7 c8 c9 c10 c11 c12 c13 c14 c15 c16 c17 c18 c19 c20 c21 c22 c23 c24 (hc25 mTy mTm mMn mFn mRn mTn mVn mLr mTr mFl mFm mFp mSc mMp mEn) (hc26 mPa) (hc27 mTo) (hc28 mOt) (hc29 mNa) (hc30 mRe) (hc31 mMa) (hc32 mMy) (hc33 mPm) (hc34 mFy) (hc35 mFa) (hc36 mFr) (hc37 mFo) (hc38 mRt) (hc39 mRm) (hc40 mTt) (hc41 mTi) (hc42 mPl) (hc43 mVr) (hc44 mVf) (hc45 mVc) (hc46 mAr) (hc47 mTc) (hc48 mFt) (hc49 mGo) dyn, 0, 0)) (h := (16, [(5, .int ((mFy (f).toNatClampNeg) - s)), (0, .ref 25), (1, .int m), (2, .int f), (3, .int s), (4, .int p)], [], hq g c1 c2 c3 c4 c5 c6 c7 c8 c9 c10 c11 c12 c13 c14 c15 c16 c17 c18 c19 c20 c21 c22 c23 c24 (hc25 mTy mTm mMn mFn mRn mTn mVn mLr mTr mFl mFm mFp mSc mMp mEn) (hc26 mPa) (hc27 mTo) (hc28 mOt) (hc29 mNa) (hc30 mRe) (hc31 mMa) (hc32 mMy) (hc33 mPm) (hc34 mFy) (hc35 mFa) (hc36 mFr) (hc37 mFo) (hc38 mRt) (hc39 mRm) (hc40 mTt) (hc41 mTi) (hc42 mPl) (hc43 mVr) (hc44 mVf) (hc45 mVc) (hc46 mAr) (hc47 mTc) (hc48 mFt) (hc49 mGo) dyn, 0, 0)) rfl (fun h2 => ?_) (fun h2 => ?_)
  ·
    have h2 := qT_ge (cx := (p).toInt) (cy := 3) rfl (by decide) h2
    refine pm_go (g := (31, _, [.ref 25], _, 0, 0)) rfl ?_
    refine pm_go (g := (32, _, [.int m, .ref 25], _, 0, 0)) rfl ?_
    refine pm_go (g := (33, _, [.int 4, .int m, .ref 25], _, 0, 0)) rfl ?_
    refine pm_callD (z := 139) (as := [.ref 25, .int m, .int 4]) (rest := []) rfl ?_
    have h3 : (4 : Int32).toInt = 4 := by decide
    refine w_X12_isMark m 4 (by omega) (fun h4 => ?_) (fun h5 => ?_)
    ·
      show pm_WP 148 (36, [(5, .int ((mFy (f).toNatClampNeg) - s)), (0, .ref 25), (1, .int m), (2, .int f), (3, .int s), (4, .int p)], [.int 1], _, 0, 0) _
      refine pm_brF (h := (39, [(5, .int ((mFy (f).toNatClampNeg) - s)), (0, .ref 25), (1, .int m), (2, .int f), (3, .int s), (4, .int p)], [], hq g c1 c2 c3 c4 c5 c6 c7 c8 c9 c10 c11 c12 c13 c14 c15 c16 c17 c18 c19 c20 c21 c22 c23 c24 (hc25 mTy mTm mMn mFn mRn mTn mVn mLr mTr mFl mFm mFp mSc mMp mEn) (hc26 mPa) (hc27 mTo) (hc28 mOt) (hc29 mNa) (hc30 mRe) (hc31 mMa) (hc32 mMy) (hc33 mPm) (hc34 mFy) (hc35 mFa) (hc36 mFr) (hc37 mFo) (hc38 mRt) (hc39 mRm) (hc40 mTt) (hc41 mTi) (hc42 mPl) (hc43 mVr) (hc44 mVf) (hc45 mVc) (hc46 mAr) (hc47 mTc) (hc48 mFt) (hc49 mGo) dyn, 0, 0)) rfl ?_
      refine pm_go (g := (40, _, [.ref 25], _, 0, 0)) rfl ?_
      refine pm_go (g := (43, _, [.ref 32], _, 0, 0)) rfl ?_
      refine pm_go (g := (44, _, [.int m, .ref 32], _, 0, 0)) rfl ?_
      refine pm_sd (g := (45, _, [.int (mMy (m).toNatClampNeg)], _, 0, 0)) rfl (pm_inI (by omega) (by omega)) ?_
      refine pm_go (g := (47, _, [.int ((mFy (f).toNatClampNeg) - s), .int (mMy (m).toNatClampNeg)], _, 0, 0)) rfl ?_
      refine pm_go (g := (48, _, [.int 1, .int ((mFy (f).toNatClampNeg) - s), .int (mMy (m).toNatClampNeg)], _, 0, 0)) rfl ?_
      refine pm_go (g := (49, _, [.int (((mFy (f).toNatClampNeg) - s) + 1), .int (mMy (m).toNatClampNeg)], _, 0, 0)) rfl ?_
      try have h7 : (((mFy (f).toNatClampNeg) - s) + 1).toInt = ((mFy (f).toNatClampNeg) - s).toInt + 1 := iAdd (x := ((mFy (f).toNatClampNeg) - s).toInt) (y := 1) rfl (by decide) (by omega) (by omega)
      refine pm_if2 (g := (54, [(5, .int ((mFy (f).toNatClampNeg) - s)), (0, .ref 25), (1, .int m), (2, .int f), (3, .int s), (4, .int p)], [], hq g c1 c2 c3 c4 c5 c6 c7 c8 c9 c10 c11 c12 c13 c14 c15 c16 c17 c18 c19 c20 c21 c22 c23 c24 (hc25 mTy mTm mMn mFn mRn mTn mVn mLr mTr mFl mFm mFp mSc mMp mEn) (hc26 mPa) (hc27 mTo) (hc28 mOt) (hc29 mNa) (hc30 mRe) (hc31 mMa) (hc32 mMy) (hc33 mPm) (hc34 mFy) (hc35 mFa) (hc36 mFr) (hc37 mFo) (hc38 mRt) (hc39 mRm) (hc40 mTt) (hc41 mTi) (hc42 mPl) (hc43 mVr) (hc44 mVf) (hc45 mVc) (hc46 mAr) (hc47 mTc) (hc48 mFt) (hc49 mGo) dyn, 0, 0)) (h := (52, [(5, .int ((mFy (f).toNatClampNeg) - s)), (0, .ref 25), (1, .int m), (2, .int f), (3, .int s), (4, .int p)], [], hq g c1 c2 c3 c4 c5 c6 c7 c8 c9 c10 c11 c12 c13 c14 c15 c16 c17 c18 c19 c20 c21 c22 c23 c24 (hc25 mTy mTm mMn mFn mRn mTn mVn mLr mTr mFl mFm mFp mSc mMp mEn) (hc26 mPa) (hc27 mTo) (hc28 mOt) (hc29 mNa) (hc30 mRe) (hc31 mMa) (hc32 mMy) (hc33 mPm) (hc34 mFy) (hc35 mFa) (hc36 mFr) (hc37 mFo) (hc38 mRt) (hc39 mRm) (hc40 mTt) (hc41 mTi) (hc42 mPl) (hc43 mVr) (hc44 mVf) (hc45 mVc) (hc46 mAr) (hc47 mTc) (hc48 mFt) (hc49 mGo) dyn, 0, 0)) rfl (fun h8 => ?_) (fun h8 => ?_)
      ·
        have h8 := qT_le (cx := (mMy (m).toNatClampNeg).toInt) (cy := (((mFy (f).toNatClampNeg) - s) + 1).toInt) rfl rfl h8
        refine pm_go (g := (55, _, [.int 1], _, 0, 0)) rfl ?_
        refine pm_go (g := (57, [(6, .int 1), (5, .int ((mFy (f).toNatClampNeg) - s)), (0, .ref 25), (1, .int m), (2, .int f), (3, .int s), (4, .int p)], [], _, 0, 0)) rfl ?_
        refine pm_go (g := (58, _, [.int 0], _, 0, 0)) rfl ?_
        refine pm_go (g := (60, [(7, .int 0), (6, .int 1), (5, .int ((mFy (f).toNatClampNeg) - s)), (0, .ref 25), (1, .int m), (2, .int f), (3, .int s), (4, .int p)], [], _, 0, 0)) rfl ?_
        refine pm_sub (lv := [(7, .int 0), (6, .int 1), (5, .int ((mFy (f).toNatClampNeg) - s)), (0, .ref 25), (1, .int m), (2, .int f), (3, .int s), (4, .int p)]) ?_ ⟨le_c (List.Mem.head _) (le_c (List.Mem.tail _ (List.Mem.head _)) (le_c (List.Mem.tail _ (List.Mem.tail _ (List.Mem.head _))) (le_c (List.Mem.tail _ (List.Mem.tail _ (List.Mem.tail _ (List.Mem.head _)))) (le_c (List.Mem.tail _ (List.Mem.tail _ (List.Mem.tail _ (List.Mem.tail _ (List.Mem.head _))))) (le_c (List.Mem.tail _ (List.Mem.tail _ (List.Mem.tail _ (List.Mem.tail _ (List.Mem.tail _ (List.Mem.head _)))))) (le_c (List.Mem.tail _ (List.Mem.tail _ (List.Mem.tail _ (List.Mem.tail _ (List.Mem.tail _ (List.Mem.tail _ (List.Mem.head _))))))) (le_c (List.Mem.tail _ (List.Mem.tail _ (List.Mem.tail _ (List.Mem.tail _ (List.Mem.tail _ (List.Mem.tail _ (List.Mem.tail _ (List.Mem.head _)))))))) le_n))))))), (show ([7, 6, 5, 0, 1, 2, 3, 4] : List Nat).Nodup by decide)⟩
        have hcnt : (p.toInt < 3 ∧ (mMy m.toNatClampNeg).toInt = (mFy f.toNatClampNeg).toInt - s.toInt) ∨ (p.toInt = 3 ∧ (mMa m.toNatClampNeg &&& 4).toInt ≠ 0 ∧ (mMy m.toNatClampNeg).toInt ≤ (mFy f.toNatClampNeg).toInt - s.toInt + 1) := by omega
        have hmy : p.toInt < 3 ∧ (mMy m.toNatClampNeg).toInt = ((mFy (f).toNatClampNeg) - s).toInt ∨ p.toInt = 3 ∧ 1 ≤ (mMy m.toNatClampNeg).toInt ∧ (mMy m.toNatClampNeg).toInt ≤ 3 := by first | omega | (have hv1 := vrD_at p7 p0.1 p0.2 (by omega); omega)
        exact w_takes_loop m f s p ((mFy (f).toNatClampNeg) - s) p0 p1 p2 (by omega) p4 p5 hmy 4 0 (by omega) (by omega) (fun h => k0 ⟨hcnt, fun j g1 g2 => h j g1 (by omega)⟩) (fun h => k1 (fun q => h (fun j g1 g2 => q.2 j g1 (by omega))))
      have h8 := qF_le (cx := (mMy (m).toNatClampNeg).toInt) (cy := (((mFy (f).toNatClampNeg) - s) + 1).toInt) rfl rfl h8
      refine pm_go (g := (53, [(5, .int ((mFy (f).toNatClampNeg) - s)), (0, .ref 25), (1, .int m), (2, .int f), (3, .int s), (4, .int p)], [.int 0], _, 0, 0)) rfl ?_
      exact pm_ret rfl (k1 (fun q => by have e1 := q.1; omega))
    show pm_WP 148 (36, [(5, .int ((mFy (f).toNatClampNeg) - s)), (0, .ref 25), (1, .int m), (2, .int f), (3, .int s), (4, .int p)], [.int 0], hq g c1 c2 c3 c4 c5 c6 c7 c8 c9 c10 c11 c12 c13 c14 c15 c16 c17 c18 c19 c20 c21 c22 c23 c24 (hc25 mTy mTm mMn mFn mRn mTn mVn mLr mTr mFl mFm mFp mSc mMp mEn) (hc26 mPa) (hc27 mTo) (hc28 mOt) (hc29 mNa) (hc30 mRe) (hc31 mMa) (hc32 mMy) (hc33 mPm) (hc34 mFy) (hc35 mFa) (hc36 mFr) (hc37 mFo) (hc38 mRt) (hc39 mRm) (hc40 mTt) (hc41 mTi) (hc42 mPl) (hc43 mVr) (hc44 mVf) (hc45 mVc) (hc46 mAr) (hc47 mTc) (hc48 mFt) (hc49 mGo) dyn, 0, 0) _
    refine pm_brT (g := (52, [(5, .int ((mFy (f).toNatClampNeg) - s)), (0, .ref 25), (1, .int m), (2, .int f), (3, .int s), (4, .int p)], [], hq g c1 c2 c3 c4 c5 c6 c7 c8 c9 c10 c11 c12 c13 c14 c15 c16 c17 c18 c19 c20 c21 c22 c23 c24 (hc25 mTy mTm mMn mFn mRn mTn mVn mLr mTr mFl mFm mFp mSc mMp mEn) (hc26 mPa) (hc27 mTo) (hc28 mOt) (hc29 mNa) (hc30 mRe) (hc31 mMa) (hc32 mMy) (hc33 mPm) (hc34 mFy) (hc35 mFa) (hc36 mFr) (hc37 mFo) (hc38 mRt) (hc39 mRm) (hc40 mTt) (hc41 mTi) (hc42 mPl) (hc43 mVr) (hc44 mVf) (hc45 mVc) (hc46 mAr) (hc47 mTc) (hc48 mFt) (hc49 mGo) dyn, 0, 0)) rfl ?_
    refine pm_go (g := (53, _, [.int 0], _, 0, 0)) rfl ?_
    exact pm_ret rfl (k1 (fun q => by have e1 := q.1; omega))
  have h2 := qF_ge (cx := (p).toInt) (cy := 3) rfl (by decide) h2
  refine pm_go (g := (17, _, [.ref 25], _, 0, 0)) rfl ?_
  refine pm_go (g := (20, _, [.ref 32], _, 0, 0)) rfl ?_
  refine pm_go (g := (21, _, [.int m, .ref 32], _, 0, 0)) rfl ?_
  refine pm_sd (g := (22, _, [.int (mMy (m).toNatClampNeg)], _, 0, 0)) rfl (pm_inI (by omega) (by omega)) ?_
  refine pm_go (g := (24, _, [.int ((mFy (f).toNatClampNeg) - s), .int (mMy (m).toNatClampNeg)], _, 0, 0)) rfl ?_
  refine pm_if2 (g := (54, [(5, .int ((mFy (f).toNatClampNeg) - s)), (0, .ref 25), (1, .int m), (2, .int f), (3, .int s), (4, .int p)], [], hq g c1 c2 c3 c4 c5 c6 c7 c8 c9 c10 c11 c12 c13 c14 c15 c16 c17 c18 c19 c20 c21 c22 c23 c24 (hc25 mTy mTm mMn mFn mRn mTn mVn mLr mTr mFl mFm mFp mSc mMp mEn) (hc26 mPa) (hc27 mTo) (hc28 mOt) (hc29 mNa) (hc30 mRe) (hc31 mMa) (hc32 mMy) (hc33 mPm) (hc34 mFy) (hc35 mFa) (hc36 mFr) (hc37 mFo) (hc38 mRt) (hc39 mRm) (hc40 mTt) (hc41 mTi) (hc42 mPl) (hc43 mVr) (hc44 mVf) (hc45 mVc) (hc46 mAr) (hc47 mTc) (hc48 mFt) (hc49 mGo) dyn, 0, 0)) (h := (27, [(5, .int ((mFy (f).toNatClampNeg) - s)), (0, .ref 25), (1, .int m), (2, .int f), (3, .int s), (4, .int p)], [], hq g c1 c2 c3 c4 c5 c6 c7 c8 c9 c10 c11 c12 c13 c14 c15 c16 c17 c18 c19 c20 c21 c22 c23 c24 (hc25 mTy mTm mMn mFn mRn mTn mVn mLr mTr mFl mFm mFp mSc mMp mEn) (hc26 mPa) (hc27 mTo) (hc28 mOt) (hc29 mNa) (hc30 mRe) (hc31 mMa) (hc32 mMy) (hc33 mPm) (hc34 mFy) (hc35 mFa) (hc36 mFr) (hc37 mFo) (hc38 mRt) (hc39 mRm) (hc40 mTt) (hc41 mTi) (hc42 mPl) (hc43 mVr) (hc44 mVf) (hc45 mVc) (hc46 mAr) (hc47 mTc) (hc48 mFt) (hc49 mGo) dyn, 0, 0)) rfl (fun h9 => ?_) (fun h9 => ?_)
  ·
    have h9 := qT_eq (cx := (mMy (m).toNatClampNeg).toInt) (cy := ((mFy (f).toNatClampNeg) - s).toInt) rfl rfl h9
    refine pm_go (g := (55, _, [.int 1], _, 0, 0)) rfl ?_
    refine pm_go (g := (57, [(6, .int 1), (5, .int ((mFy (f).toNatClampNeg) - s)), (0, .ref 25), (1, .int m), (2, .int f), (3, .int s), (4, .int p)], [], _, 0, 0)) rfl ?_
    refine pm_go (g := (58, _, [.int 0], _, 0, 0)) rfl ?_
    refine pm_go (g := (60, [(7, .int 0), (6, .int 1), (5, .int ((mFy (f).toNatClampNeg) - s)), (0, .ref 25), (1, .int m), (2, .int f), (3, .int s), (4, .int p)], [], _, 0, 0)) rfl ?_
    refine pm_sub (lv := [(7, .int 0), (6, .int 1), (5, .int ((mFy (f).toNatClampNeg) - s)), (0, .ref 25), (1, .int m), (2, .int f), (3, .int s), (4, .int p)]) ?_ ⟨le_c (List.Mem.head _) (le_c (List.Mem.tail _ (List.Mem.head _)) (le_c (List.Mem.tail _ (List.Mem.tail _ (List.Mem.head _))) (le_c (List.Mem.tail _ (List.Mem.tail _ (List.Mem.tail _ (List.Mem.head _)))) (le_c (List.Mem.tail _ (List.Mem.tail _ (List.Mem.tail _ (List.Mem.tail _ (List.Mem.head _))))) (le_c (List.Mem.tail _ (List.Mem.tail _ (List.Mem.tail _ (List.Mem.tail _ (List.Mem.tail _ (List.Mem.head _)))))) (le_c (List.Mem.tail _ (List.Mem.tail _ (List.Mem.tail _ (List.Mem.tail _ (List.Mem.tail _ (List.Mem.tail _ (List.Mem.head _))))))) (le_c (List.Mem.tail _ (List.Mem.tail _ (List.Mem.tail _ (List.Mem.tail _ (List.Mem.tail _ (List.Mem.tail _ (List.Mem.tail _ (List.Mem.head _)))))))) le_n))))))), (show ([7, 6, 5, 0, 1, 2, 3, 4] : List Nat).Nodup by decide)⟩
    have hcnt : (p.toInt < 3 ∧ (mMy m.toNatClampNeg).toInt = (mFy f.toNatClampNeg).toInt - s.toInt) ∨ (p.toInt = 3 ∧ (mMa m.toNatClampNeg &&& 4).toInt ≠ 0 ∧ (mMy m.toNatClampNeg).toInt ≤ (mFy f.toNatClampNeg).toInt - s.toInt + 1) := by omega
    have hmy : p.toInt < 3 ∧ (mMy m.toNatClampNeg).toInt = ((mFy (f).toNatClampNeg) - s).toInt ∨ p.toInt = 3 ∧ 1 ≤ (mMy m.toNatClampNeg).toInt ∧ (mMy m.toNatClampNeg).toInt ≤ 3 := by first | omega | (have hv1 := vrD_at p7 p0.1 p0.2 (by omega); omega)
    exact w_takes_loop m f s p ((mFy (f).toNatClampNeg) - s) p0 p1 p2 (by omega) p4 p5 hmy 4 0 (by omega) (by omega) (fun h => k0 ⟨hcnt, fun j g1 g2 => h j g1 (by omega)⟩) (fun h => k1 (fun q => h (fun j g1 g2 => q.2 j g1 (by omega))))
  have h9 := qF_eq (cx := (mMy (m).toNatClampNeg).toInt) (cy := ((mFy (f).toNatClampNeg) - s).toInt) rfl rfl h9
  refine pm_go (g := (52, [(5, .int ((mFy (f).toNatClampNeg) - s)), (0, .ref 25), (1, .int m), (2, .int f), (3, .int s), (4, .int p)], [], _, 0, 0)) rfl ?_
  refine pm_go (g := (53, _, [.int 0], _, 0, 0)) rfl ?_
  exact pm_ret rfl (k1 (fun q => by have e1 := q.1; omega))
/-- there is a maker of t, from the k-th member on -/
def mkE (ot na : Nat → Int32) (mn t : Int32) (k : Nat) : Prop := ∃ j : Nat, k ≤ j ∧ (j : Int) < mn.toInt ∧ (ot (nI j).toNatClampNeg).toInt = t.toInt ∧ (na (nI j).toNatClampNeg).toInt = 6
theorem mkE_s {ot na : Nat → Int32} {mn t : Int32} {k : Nat} (h : ¬ ((k : Int) < mn.toInt ∧ (ot (nI k).toNatClampNeg).toInt = t.toInt ∧ (na (nI k).toNatClampNeg).toInt = 6)) : mkE ot na mn t k ↔ mkE ot na mn t (k + 1) := by
  constructor
  · rintro ⟨j, q1, q2⟩
    rcases Nat.eq_or_lt_of_le q1 with e9 | e9
    · subst e9; exact absurd q2 h
    · exact ⟨j, e9, q2⟩
  · rintro ⟨j, q1, q2⟩
    exact ⟨j, by omega, q2⟩
theorem mkE_n {ot na : Nat → Int32} {mn t : Int32} {k : Nat} (h : mn.toInt ≤ k) : ¬ mkE ot na mn t k := by
  rintro ⟨j, q1, q2, q3⟩
  omega
set_option maxRecDepth 100000 in
set_option maxHeartbeats 4000000 in
theorem w_makers_loop {g c1 c2 c3 c4 c5 c6 c7 c8 c9 c10 c11 c12 c13 c14 c15 c16 c17 c18 c19 c20 c21 c22 c23 c24 : pm_C} {dyn : pm_H} {mTy : Int32} {mPa : Nat → Int32} {mTo : Nat → Int32} {mTm : Int32} {mMn : Int32} {mOt : Nat → Int32} {mNa : Nat → Int32} {mRe : Nat → Int32} {mMa : Nat → Int32} {mMy : Nat → Int32} {mPm : Nat → Int32} {mFn : Int32} {mFy : Nat → Int32} {mFa : Nat → Int32} {mFr : Nat → Int32} {mRn : Int32} {mFo : Nat → Int32} {mRt : Nat → Int32} {mRm : Nat → Int32} {mTn : Int32} {mTt : Nat → Int32} {mTi : Nat → Int32} {mPl : Nat → Int32} {mVn : Int32} {mVr : Nat → Int32} {mVf : Nat → Int32} {mVc : Nat → Int32} {mAr : Nat → Int32} {mLr : Int32} {mTc : Nat → Int32} {mTr : Int32} {mFl : Int32} {mFt : Nat → Int32} {mFm : Int32} {mFp : Int32} {mSc : Int32} {mMp : Int32} {mEn : Int32} {mGo : Nat → Int32} {Q : pm_Q} (t : Int32) (hn : 0 ≤ mMn.toInt ∧ mMn.toInt ≤ 40) : ∀ (n k : Nat) (c : Int32), (k ≤ 40) → (40 < k + n) → (0 ≤ c.toInt ∧ c.toInt ≤ k) → (∀ r9 : Int32, (0 ≤ r9.toInt ∧ r9.toInt ≤ 40) → (r9.toInt = 0 ↔ (c.toInt = 0 ∧ ¬ mkE mOt mNa mMn t k)) → Q (some (.int r9)) (hq g c1 c2 c3 c4 c5 c6 c7 c8 c9 c10 c11 c12 c13 c14 c15 c16 c17 c18 c19 c20 c21 c22 c23 c24 (hc25 mTy mTm mMn mFn mRn mTn mVn mLr mTr mFl mFm mFp mSc mMp mEn) (hc26 mPa) (hc27 mTo) (hc28 mOt) (hc29 mNa) (hc30 mRe) (hc31 mMa) (hc32 mMy) (hc33 mPm) (hc34 mFy) (hc35 mFa) (hc36 mFr) (hc37 mFo) (hc38 mRt) (hc39 mRm) (hc40 mTt) (hc41 mTi) (hc42 mPl) (hc43 mVr) (hc44 mVf) (hc45 mVc) (hc46 mAr) (hc47 mTc) (hc48 mFt) (hc49 mGo) dyn)) → pm_WP 154 (4, [(3, .int (nI k)), (2, .int c), (0, .ref 25), (1, .int t)], [], hq g c1 c2 c3 c4 c5 c6 c7 c8 c9 c10 c11 c12 c13 c14 c15 c16 c17 c18 c19 c20 c21 c22 c23 c24 (hc25 mTy mTm mMn mFn mRn mTn mVn mLr mTr mFl mFm mFp mSc mMp mEn) (hc26 mPa) (hc27 mTo) (hc28 mOt) (hc29 mNa) (hc30 mRe) (hc31 mMa) (hc32 mMy) (hc33 mPm) (hc34 mFy) (hc35 mFa) (hc36 mFr) (hc37 mFo) (hc38 mRt) (hc39 mRm) (hc40 mTt) (hc41 mTi) (hc42 mPl) (hc43 mVr) (hc44 mVf) (hc45 mVc) (hc46 mAr) (hc47 mTc) (hc48 mFt) (hc49 mGo) dyn, 0, 0) Q := by
  intro n
  induction n with
  | zero =>
    intro k c g1 g2 g3 k0
    exfalso; omega
  | succ n ih =>
    intro k c g1 g2 g3 k0
    have hk := nI_toInt (n := k) (by omega)
    have hkc : (nI k).toNatClampNeg = k := nI_clamp (by omega)
    refine pm_go (g := (5, [(3, .int (nI k)), (2, .int c), (0, .ref 25), (1, .int t)], [.int (nI k)], hq g c1 c2 c3 c4 c5 c6 c7 c8 c9 c10 c11 c12 c13 c14 c15 c16 c17 c18 c19 c20 c21 c22 c23 c24 (hc25 mTy mTm mMn mFn mRn mTn mVn mLr mTr mFl mFm mFp mSc mMp mEn) (hc26 mPa) (hc27 mTo) (hc28 mOt) (hc29 mNa) (hc30 mRe) (hc31 mMa) (hc32 mMy) (hc33 mPm) (hc34 mFy) (hc35 mFa) (hc36 mFr) (hc37 mFo) (hc38 mRt) (hc39 mRm) (hc40 mTt) (hc41 mTi) (hc42 mPl) (hc43 mVr) (hc44 mVf) (hc45 mVc) (hc46 mAr) (hc47 mTc) (hc48 mFt) (hc49 mGo) dyn, 0, 0)) rfl ?_
    refine pm_go (g := (6, _, [.ref 25, .int (nI k)], _, 0, 0)) rfl ?_
    refine pm_go (g := (9, _, [.int mMn, .int (nI k)], _, 0, 0)) rfl ?_
    refine pm_if2 (g := (47, [(3, .int (nI k)), (2, .int c), (0, .ref 25), (1, .int t)], [], hq g c1 c2 c3 c4 c5 c6 c7 c8 c9 c10 c11 c12 c13 c14 c15 c16 c17 c18 c19 c20 c21 c22 c23 c24 (hc25 mTy mTm mMn mFn mRn mTn mVn mLr mTr mFl mFm mFp mSc mMp mEn) (hc26 mPa) (hc27 mTo) (hc28 mOt) (hc29 mNa) (hc30 mRe) (hc31 mMa) (hc32 mMy) (hc33 mPm) (hc34 mFy) (hc35 mFa) (hc36 mFr) (hc37 mFo) (hc38 mRt) (hc39 mRm) (hc40 mTt) (hc41 mTi) (hc42 mPl) (hc43 mVr) (hc44 mVf) (hc45 mVc) (hc46 mAr) (hc47 mTc) (hc48 mFt) (hc49 mGo) dyn, 0, 0)) (h := (12, [(3, .int (nI k)), (2, .int c), (0, .ref 25), (1, .int t)], [], hq g c1 c2 c3 c4 c5 c6 c7 c8 c9 c10 c11 c12 c13 c14 c15 c16 c17 c18 c19 c20 c21 c22 c23 c24 (hc25 mTy mTm mMn mFn mRn mTn mVn mLr mTr mFl mFm mFp mSc mMp mEn) (hc26 mPa) (hc27 mTo) (hc28 mOt) (hc29 mNa) (hc30 mRe) (hc31 mMa) (hc32 mMy) (hc33 mPm) (hc34 mFy) (hc35 mFa) (hc36 mFr) (hc37 mFo) (hc38 mRt) (hc39 mRm) (hc40 mTt) (hc41 mTi) (hc42 mPl) (hc43 mVr) (hc44 mVf) (hc45 mVc) (hc46 mAr) (hc47 mTc) (hc48 mFt) (hc49 mGo) dyn, 0, 0)) rfl (fun h1 => ?_) (fun h1 => ?_)
    ·
      have h1 := qT_ge (cx := (nI k).toInt) (cy := (mMn).toInt) rfl rfl h1
      refine pm_go (g := (48, _, [.int c], _, 0, 0)) rfl ?_
      exact pm_ret rfl (k0 _ (by omega) ⟨fun q => ⟨q, mkE_n (by omega)⟩, fun q => q.1⟩)
    have h1 := qF_ge (cx := (nI k).toInt) (cy := (mMn).toInt) rfl rfl h1
    refine pm_go (g := (13, _, [.int c], _, 0, 0)) rfl ?_
    refine pm_go (g := (14, _, [.ref 25, .int c], _, 0, 0)) rfl ?_
    refine pm_go (g := (17, _, [.ref 28, .int c], _, 0, 0)) rfl ?_
    refine pm_go (g := (18, _, [.int (nI k), .ref 28, .int c], _, 0, 0)) rfl ?_
    refine pm_sd (g := (19, _, [.int (mOt (nI k).toNatClampNeg), .int c], _, 0, 0)) rfl (pm_inI (by omega) (by omega)) ?_
    refine pm_go (g := (20, _, [.int t, .int (mOt (nI k).toNatClampNeg), .int c], _, 0, 0)) rfl ?_
    refine pm_if2 (g := (38, [(3, .int (nI k)), (2, .int c), (0, .ref 25), (1, .int t)], [.int c], hq g c1 c2 c3 c4 c5 c6 c7 c8 c9 c10 c11 c12 c13 c14 c15 c16 c17 c18 c19 c20 c21 c22 c23 c24 (hc25 mTy mTm mMn mFn mRn mTn mVn mLr mTr mFl mFm mFp mSc mMp mEn) (hc26 mPa) (hc27 mTo) (hc28 mOt) (hc29 mNa) (hc30 mRe) (hc31 mMa) (hc32 mMy) (hc33 mPm) (hc34 mFy) (hc35 mFa) (hc36 mFr) (hc37 mFo) (hc38 mRt) (hc39 mRm) (hc40 mTt) (hc41 mTi) (hc42 mPl) (hc43 mVr) (hc44 mVf) (hc45 mVc) (hc46 mAr) (hc47 mTc) (hc48 mFt) (hc49 mGo) dyn, 0, 0)) (h := (23, [(3, .int (nI k)), (2, .int c), (0, .ref 25), (1, .int t)], [.int c], hq g c1 c2 c3 c4 c5 c6 c7 c8 c9 c10 c11 c12 c13 c14 c15 c16 c17 c18 c19 c20 c21 c22 c23 c24 (hc25 mTy mTm mMn mFn mRn mTn mVn mLr mTr mFl mFm mFp mSc mMp mEn) (hc26 mPa) (hc27 mTo) (hc28 mOt) (hc29 mNa) (hc30 mRe) (hc31 mMa) (hc32 mMy) (hc33 mPm) (hc34 mFy) (hc35 mFa) (hc36 mFr) (hc37 mFo) (hc38 mRt) (hc39 mRm) (hc40 mTt) (hc41 mTi) (hc42 mPl) (hc43 mVr) (hc44 mVf) (hc45 mVc) (hc46 mAr) (hc47 mTc) (hc48 mFt) (hc49 mGo) dyn, 0, 0)) rfl (fun h2 => ?_) (fun h2 => ?_)
    ·
      have h2 := qT_ne (cx := (mOt (nI k).toNatClampNeg).toInt) (cy := (t).toInt) rfl rfl h2
      refine pm_go (g := (39, _, [.int 0, .int c], _, 0, 0)) rfl ?_
      refine pm_go (g := (40, _, [.int (c + 0)], _, 0, 0)) rfl ?_
      try have h3 : (c + 0).toInt = (c).toInt + 0 := iAdd (x := (c).toInt) (y := 0) rfl (by decide) (by omega) (by omega)
      refine pm_go (g := (41, [(2, .int (c + 0)), (3, .int (nI k)), (0, .ref 25), (1, .int t)], [], _, 0, 0)) rfl ?_
      refine pm_go (g := (44, [(3, .int ((nI k) + 1)), (2, .int (c + 0)), (0, .ref 25), (1, .int t)], [], _, 0, 0)) rfl ?_
      refine pm_go (g := (4, _, [], _, 0, 0)) rfl ?_
      rw [nI_1]
      have hE := mkE_s (ot := mOt) (na := mNa) (mn := mMn) (t := t) (k := k) (by omega)
      exact ih (k + 1) (c + 0) (by omega) (by omega) (by omega) (fun r9 q1 q2 => k0 r9 q1 (by rw [q2, hE]; exact ⟨fun q => ⟨by omega, q.2⟩, fun q => ⟨by omega, q.2⟩⟩))
    have h2 := qF_ne (cx := (mOt (nI k).toNatClampNeg).toInt) (cy := (t).toInt) rfl rfl h2
    refine pm_go (g := (24, [(3, .int (nI k)), (2, .int c), (0, .ref 25), (1, .int t)], [.ref 25, .int c], _, 0, 0)) rfl ?_
    refine pm_go (g := (27, _, [.ref 29, .int c], _, 0, 0)) rfl ?_
    refine pm_go (g := (28, _, [.int (nI k), .ref 29, .int c], _, 0, 0)) rfl ?_
    refine pm_sd (g := (29, _, [.int (mNa (nI k).toNatClampNeg), .int c], _, 0, 0)) rfl (pm_inI (by omega) (by omega)) ?_
    refine pm_go (g := (31, _, [.int 6, .int (mNa (nI k).toNatClampNeg), .int c], _, 0, 0)) rfl ?_
    refine pm_if2 (g := (38, [(3, .int (nI k)), (2, .int c), (0, .ref 25), (1, .int t)], [.int c], hq g c1 c2 c3 c4 c5 c6 c7 c8 c9 c10 c11 c12 c13 c14 c15 c16 c17 c18 c19 c20 c21 c22 c23 c24 (hc25 mTy mTm mMn mFn mRn mTn mVn mLr mTr mFl mFm mFp mSc mMp mEn) (hc26 mPa) (hc27 mTo) (hc28 mOt) (hc29 mNa) (hc30 mRe) (hc31 mMa) (hc32 mMy) (hc33 mPm) (hc34 mFy) (hc35 mFa) (hc36 mFr) (hc37 mFo) (hc38 mRt) (hc39 mRm) (hc40 mTt) (hc41 mTi) (hc42 mPl) (hc43 mVr) (hc44 mVf) (hc45 mVc) (hc46 mAr) (hc47 mTc) (hc48 mFt) (hc49 mGo) dyn, 0, 0)) (h := (34, [(3, .int (nI k)), (2, .int c), (0, .ref 25), (1, .int t)], [.int c], hq g c1 c2 c3 c4 c5 c6 c7 c8 c9 c10 c11 c12 c13 c14 c15 c16 c17 c18 c19 c20 c21 c22 c23 c24 (hc25 mTy mTm mMn mFn mRn mTn mVn mLr mTr mFl mFm mFp mSc mMp mEn) (hc26 mPa) (hc27 mTo) (hc28 mOt) (hc29 mNa) (hc30 mRe) (hc31 mMa) (hc32 mMy) (hc33 mPm) (hc34 mFy) (hc35 mFa) (hc36 mFr) (hc37 mFo) (hc38 mRt) (hc39 mRm) (hc40 mTt) (hc41 mTi) (hc42 mPl) (hc43 mVr) (hc44 mVf) (hc45 mVc) (hc46 mAr) (hc47 mTc) (hc48 mFt) (hc49 mGo) dyn, 0, 0)) rfl (fun h4 => ?_) (fun h4 => ?_)
    ·
      have h4 := qT_ne (cx := (mNa (nI k).toNatClampNeg).toInt) (cy := 6) rfl (by decide) h4
      refine pm_go (g := (39, _, [.int 0, .int c], _, 0, 0)) rfl ?_
      refine pm_go (g := (40, _, [.int (c + 0)], _, 0, 0)) rfl ?_
      try have h5 : (c + 0).toInt = (c).toInt + 0 := iAdd (x := (c).toInt) (y := 0) rfl (by decide) (by omega) (by omega)
      refine pm_go (g := (41, [(2, .int (c + 0)), (3, .int (nI k)), (0, .ref 25), (1, .int t)], [], _, 0, 0)) rfl ?_
      refine pm_go (g := (44, [(3, .int ((nI k) + 1)), (2, .int (c + 0)), (0, .ref 25), (1, .int t)], [], _, 0, 0)) rfl ?_
      refine pm_go (g := (4, _, [], _, 0, 0)) rfl ?_
      rw [nI_1]
      have hE := mkE_s (ot := mOt) (na := mNa) (mn := mMn) (t := t) (k := k) (by omega)
      exact ih (k + 1) (c + 0) (by omega) (by omega) (by omega) (fun r9 q1 q2 => k0 r9 q1 (by rw [q2, hE]; exact ⟨fun q => ⟨by omega, q.2⟩, fun q => ⟨by omega, q.2⟩⟩))
    have h4 := qF_ne (cx := (mNa (nI k).toNatClampNeg).toInt) (cy := 6) rfl (by decide) h4
    refine pm_go (g := (35, [(3, .int (nI k)), (2, .int c), (0, .ref 25), (1, .int t)], [.int 1, .int c], _, 0, 0)) rfl ?_
    refine pm_go (g := (39, _, [.int 1, .int c], _, 0, 0)) rfl ?_
    refine pm_go (g := (40, _, [.int (c + 1)], _, 0, 0)) rfl ?_
    try have h6 : (c + 1).toInt = (c).toInt + 1 := iAdd (x := (c).toInt) (y := 1) rfl (by decide) (by omega) (by omega)
    refine pm_go (g := (41, [(2, .int (c + 1)), (3, .int (nI k)), (0, .ref 25), (1, .int t)], [], _, 0, 0)) rfl ?_
    refine pm_go (g := (44, [(3, .int ((nI k) + 1)), (2, .int (c + 1)), (0, .ref 25), (1, .int t)], [], _, 0, 0)) rfl ?_
    refine pm_go (g := (4, _, [], _, 0, 0)) rfl ?_
    rw [nI_1]
    have hE : mkE mOt mNa mMn t k := ⟨k, Nat.le_refl k, by omega, by omega, by omega⟩
    exact ih (k + 1) (c + 1) (by omega) (by omega) (by omega) (fun r9 q1 q2 => k0 r9 q1 ⟨fun q => absurd (q2.mp q).1 (by omega), fun q => absurd hE q.2⟩)
set_option maxRecDepth 100000 in
set_option maxHeartbeats 4000000 in
theorem w_X12_makers {g c1 c2 c3 c4 c5 c6 c7 c8 c9 c10 c11 c12 c13 c14 c15 c16 c17 c18 c19 c20 c21 c22 c23 c24 : pm_C} {dyn : pm_H} {mTy : Int32} {mPa : Nat → Int32} {mTo : Nat → Int32} {mTm : Int32} {mMn : Int32} {mOt : Nat → Int32} {mNa : Nat → Int32} {mRe : Nat → Int32} {mMa : Nat → Int32} {mMy : Nat → Int32} {mPm : Nat → Int32} {mFn : Int32} {mFy : Nat → Int32} {mFa : Nat → Int32} {mFr : Nat → Int32} {mRn : Int32} {mFo : Nat → Int32} {mRt : Nat → Int32} {mRm : Nat → Int32} {mTn : Int32} {mTt : Nat → Int32} {mTi : Nat → Int32} {mPl : Nat → Int32} {mVn : Int32} {mVr : Nat → Int32} {mVf : Nat → Int32} {mVc : Nat → Int32} {mAr : Nat → Int32} {mLr : Int32} {mTc : Nat → Int32} {mTr : Int32} {mFl : Int32} {mFt : Nat → Int32} {mFm : Int32} {mFp : Int32} {mSc : Int32} {mMp : Int32} {mEn : Int32} {mGo : Nat → Int32} {Q : pm_Q} (t : Int32) (p0 : 0 ≤ mMn.toInt ∧ mMn.toInt ≤ 40) (k0 : ∀ (r9 : Int32), (r9.toInt = 0 ↔ ¬ mkE mOt mNa mMn t 0) → Q (some (.int r9)) (hq g c1 c2 c3 c4 c5 c6 c7 c8 c9 c10 c11 c12 c13 c14 c15 c16 c17 c18 c19 c20 c21 c22 c23 c24 (hc25 mTy mTm mMn mFn mRn mTn mVn mLr mTr mFl mFm mFp mSc mMp mEn) (hc26 mPa) (hc27 mTo) (hc28 mOt) (hc29 mNa) (hc30 mRe) (hc31 mMa) (hc32 mMy) (hc33 mPm) (hc34 mFy) (hc35 mFa) (hc36 mFr) (hc37 mFo) (hc38 mRt) (hc39 mRm) (hc40 mTt) (hc41 mTi) (hc42 mPl) (hc43 mVr) (hc44 mVf) (hc45 mVc) (hc46 mAr) (hc47 mTc) (hc48 mFt) (hc49 mGo) dyn)) : pm_WP 154 (0, [(0, .ref 25), (1, .int t)], [], hq g c1 c2 c3 c4 c5 c6 c7 c8 c9 c10 c11 c12 c13 c14 c15 c16 c17 c18 c19 c20 c21 c22 c23 c24 (hc25 mTy mTm mMn mFn mRn mTn mVn mLr mTr mFl mFm mFp mSc mMp mEn) (hc26 mPa) (hc27 mTo) (hc28 mOt) (hc29 mNa) (hc30 mRe) (hc31 mMa) (hc32 mMy) (hc33 mPm) (hc34 mFy) (hc35 mFa) (hc36 mFr) (hc37 mFo) (hc38 mRt) (hc39 mRm) (hc40 mTt) (hc41 mTi) (hc42 mPl) (hc43 mVr) (hc44 mVf) (hc45 mVc) (hc46 mAr) (hc47 mTc) (hc48 mFt) (hc49 mGo) dyn, 0, 0) Q := by
  refine pm_go (g := (1, [(0, .ref 25), (1, .int t)], [.int 0], hq g c1 c2 c3 c4 c5 c6 c7 c8 c9 c10 c11 c12 c13 c14 c15 c16 c17 c18 c19 c20 c21 c22 c23 c24 (hc25 mTy mTm mMn mFn mRn mTn mVn mLr mTr mFl mFm mFp mSc mMp mEn) (hc26 mPa) (hc27 mTo) (hc28 mOt) (hc29 mNa) (hc30 mRe) (hc31 mMa) (hc32 mMy) (hc33 mPm) (hc34 mFy) (hc35 mFa) (hc36 mFr) (hc37 mFo) (hc38 mRt) (hc39 mRm) (hc40 mTt) (hc41 mTi) (hc42 mPl) (hc43 mVr) (hc44 mVf) (hc45 mVc) (hc46 mAr) (hc47 mTc) (hc48 mFt) (hc49 mGo) dyn, 0, 0)) rfl ?_
  refine pm_go (g := (2, [(2, .int 0), (0, .ref 25), (1, .int t)], [], _, 0, 0)) rfl ?_
  refine pm_go (g := (3, _, [.int 0], _, 0, 0)) rfl ?_
  refine pm_go (g := (4, [(3, .int 0), (2, .int 0), (0, .ref 25), (1, .int t)], [], _, 0, 0)) rfl ?_
  exact w_makers_loop t p0 41 0 0 (by omega) (by omega) (by decide) (fun r9 q1 q2 => k0 r9 (by rw [q2]; exact ⟨fun q => q.2, fun q => ⟨by decide, q⟩⟩))
/-- how many fit, and how many of them are static, of the first k -/
def cF (ft : Nat → Int32) : Nat → Int
  | 0 => 0
  | k + 1 => cF ft k + if (ft k).toInt ≠ 0 then 1 else 0
def cT (ft ma : Nat → Int32) : Nat → Int
  | 0 => 0
  | k + 1 => cT ft ma k + if (ft k).toInt ≠ 0 ∧ (ma k &&& 1).toInt ≠ 0 then 1 else 0
theorem cF_b (ft : Nat → Int32) : ∀ k : Nat, 0 ≤ cF ft k ∧ cF ft k ≤ k := by
  intro k
  induction k with
  | zero => exact ⟨Int.le_refl 0, Int.le_refl 0⟩
  | succ k ih => show 0 ≤ cF ft k + _ ∧ cF ft k + _ ≤ _; split <;> omega
theorem cT_b (ft ma : Nat → Int32) : ∀ k : Nat, 0 ≤ cT ft ma k ∧ cT ft ma k ≤ cF ft k := by
  intro k
  induction k with
  | zero => exact ⟨Int.le_refl 0, Int.le_refl 0⟩
  | succ k ih =>
    show 0 ≤ cT ft ma k + _ ∧ cT ft ma k + _ ≤ cF ft k + _
    split <;> split <;> omega
theorem cF_0 {ft : Nat → Int32} : ∀ {k : Nat}, cF ft k = 0 ↔ ∀ j : Nat, j < k → (ft j).toInt = 0 := by
  intro k
  induction k with
  | zero => exact ⟨fun _ j q => absurd q (Nat.not_lt_zero j), fun _ => rfl⟩
  | succ k ih =>
    have hb := cF_b ft k
    show cF ft k + (if (ft k).toInt ≠ 0 then 1 else 0) = 0 ↔ _
    constructor
    · intro h j q
      split at h
      · omega
      · next e =>
        rcases Nat.lt_succ_iff_lt_or_eq.mp q with q | q
        · exact ih.mp (by omega) j q
        · subst q; omega
    · intro h
      rw [if_neg (by have := h k (by omega); omega), ih.mpr (fun j q => h j (by omega))]
      rfl
theorem cT_0 {ft ma : Nat → Int32} : ∀ {k : Nat}, cT ft ma k = 0 ↔ ∀ j : Nat, j < k → ¬ ((ft j).toInt ≠ 0 ∧ (ma j &&& 1).toInt ≠ 0) := by
  intro k
  induction k with
  | zero => exact ⟨fun _ j q => absurd q (Nat.not_lt_zero j), fun _ => rfl⟩
  | succ k ih =>
    have hb := cT_b ft ma k
    show cT ft ma k + (if (ft k).toInt ≠ 0 ∧ (ma k &&& 1).toInt ≠ 0 then 1 else 0) = 0 ↔ _
    constructor
    · intro h j q
      split at h
      · omega
      · next e =>
        rcases Nat.lt_succ_iff_lt_or_eq.mp q with q | q
        · exact ih.mp (by omega) j q
        · subst q; exact e
    · intro h
      rw [if_neg (h k (by omega)), ih.mpr (fun j q => h j (by omega))]
      rfl
theorem cT_all {ft ma : Nat → Int32} : ∀ {k : Nat}, cT ft ma k = cF ft k ↔ ∀ j : Nat, j < k → (ft j).toInt ≠ 0 → (ma j &&& 1).toInt ≠ 0 := by
  intro k
  induction k with
  | zero => exact ⟨fun _ j q => absurd q (Nat.not_lt_zero j), fun _ => rfl⟩
  | succ k ih =>
    have hb := cT_b ft ma k
    show cT ft ma k + (if (ft k).toInt ≠ 0 ∧ (ma k &&& 1).toInt ≠ 0 then 1 else 0) = cF ft k + (if (ft k).toInt ≠ 0 then 1 else 0) ↔ _
    constructor
    · intro h j q hj
      rcases Nat.lt_succ_iff_lt_or_eq.mp q with q | q
      · refine ih.mp ?_ j q hj
        split at h <;> split at h <;> omega
      · subst q
        split at h
        · next e => exact e.2
        · omega
    · intro h
      have e := ih.mpr (fun j q => h j (by omega))
      by_cases e2 : (ft k).toInt ≠ 0
      · rw [if_pos ⟨e2, h k (by omega) e2⟩, if_pos e2, e]
      · rw [if_neg (fun q => e2 q.1), if_neg e2, e]
set_option maxRecDepth 100000 in
set_option maxHeartbeats 4000000 in
theorem w_statics_loop {g c1 c2 c3 c4 c5 c6 c7 c8 c9 c10 c11 c12 c13 c14 c15 c16 c17 c18 c19 c20 c21 c22 c23 c24 : pm_C} {dyn : pm_H} {mTy : Int32} {mPa : Nat → Int32} {mTo : Nat → Int32} {mTm : Int32} {mMn : Int32} {mOt : Nat → Int32} {mNa : Nat → Int32} {mRe : Nat → Int32} {mMa : Nat → Int32} {mMy : Nat → Int32} {mPm : Nat → Int32} {mFn : Int32} {mFy : Nat → Int32} {mFa : Nat → Int32} {mFr : Nat → Int32} {mRn : Int32} {mFo : Nat → Int32} {mRt : Nat → Int32} {mRm : Nat → Int32} {mTn : Int32} {mTt : Nat → Int32} {mTi : Nat → Int32} {mPl : Nat → Int32} {mVn : Int32} {mVr : Nat → Int32} {mVf : Nat → Int32} {mVc : Nat → Int32} {mAr : Nat → Int32} {mLr : Int32} {mTc : Nat → Int32} {mTr : Int32} {mFl : Int32} {mFt : Nat → Int32} {mFm : Int32} {mFp : Int32} {mSc : Int32} {mMp : Int32} {mEn : Int32} {mGo : Nat → Int32} {Q : pm_Q} (hn : 0 ≤ mMn.toInt ∧ mMn.toInt ≤ 40) : ∀ (n k : Nat) (c : Int32), ((k : Int) ≤ mMn.toInt) → (40 < k + n) → (c.toInt = cT mFt mMa k) → (∀ r9 : Int32, r9.toInt = cT mFt mMa mMn.toNatClampNeg → Q (some (.int r9)) (hq g c1 c2 c3 c4 c5 c6 c7 c8 c9 c10 c11 c12 c13 c14 c15 c16 c17 c18 c19 c20 c21 c22 c23 c24 (hc25 mTy mTm mMn mFn mRn mTn mVn mLr mTr mFl mFm mFp mSc mMp mEn) (hc26 mPa) (hc27 mTo) (hc28 mOt) (hc29 mNa) (hc30 mRe) (hc31 mMa) (hc32 mMy) (hc33 mPm) (hc34 mFy) (hc35 mFa) (hc36 mFr) (hc37 mFo) (hc38 mRt) (hc39 mRm) (hc40 mTt) (hc41 mTi) (hc42 mPl) (hc43 mVr) (hc44 mVf) (hc45 mVc) (hc46 mAr) (hc47 mTc) (hc48 mFt) (hc49 mGo) dyn)) → pm_WP 153 (4, [(2, .int (nI k)), (1, .int c), (0, .ref 25)], [], hq g c1 c2 c3 c4 c5 c6 c7 c8 c9 c10 c11 c12 c13 c14 c15 c16 c17 c18 c19 c20 c21 c22 c23 c24 (hc25 mTy mTm mMn mFn mRn mTn mVn mLr mTr mFl mFm mFp mSc mMp mEn) (hc26 mPa) (hc27 mTo) (hc28 mOt) (hc29 mNa) (hc30 mRe) (hc31 mMa) (hc32 mMy) (hc33 mPm) (hc34 mFy) (hc35 mFa) (hc36 mFr) (hc37 mFo) (hc38 mRt) (hc39 mRm) (hc40 mTt) (hc41 mTi) (hc42 mPl) (hc43 mVr) (hc44 mVf) (hc45 mVc) (hc46 mAr) (hc47 mTc) (hc48 mFt) (hc49 mGo) dyn, 0, 0) Q := by
  intro n
  induction n with
  | zero =>
    intro k c g1 g2 g3 k0
    exfalso; omega
  | succ n ih =>
    intro k c g1 g2 g3 k0
    have hk := nI_toInt (n := k) (by omega)
    have hkc : (nI k).toNatClampNeg = k := nI_clamp (by omega)
    have hb1 := cT_b mFt mMa k
    have hb2 := cF_b mFt k
    refine pm_go (g := (5, [(2, .int (nI k)), (1, .int c), (0, .ref 25)], [.int (nI k)], hq g c1 c2 c3 c4 c5 c6 c7 c8 c9 c10 c11 c12 c13 c14 c15 c16 c17 c18 c19 c20 c21 c22 c23 c24 (hc25 mTy mTm mMn mFn mRn mTn mVn mLr mTr mFl mFm mFp mSc mMp mEn) (hc26 mPa) (hc27 mTo) (hc28 mOt) (hc29 mNa) (hc30 mRe) (hc31 mMa) (hc32 mMy) (hc33 mPm) (hc34 mFy) (hc35 mFa) (hc36 mFr) (hc37 mFo) (hc38 mRt) (hc39 mRm) (hc40 mTt) (hc41 mTi) (hc42 mPl) (hc43 mVr) (hc44 mVf) (hc45 mVc) (hc46 mAr) (hc47 mTc) (hc48 mFt) (hc49 mGo) dyn, 0, 0)) rfl ?_
    refine pm_go (g := (6, _, [.ref 25, .int (nI k)], _, 0, 0)) rfl ?_
    refine pm_go (g := (9, _, [.int mMn, .int (nI k)], _, 0, 0)) rfl ?_
    refine pm_if2 (g := (44, [(2, .int (nI k)), (1, .int c), (0, .ref 25)], [], hq g c1 c2 c3 c4 c5 c6 c7 c8 c9 c10 c11 c12 c13 c14 c15 c16 c17 c18 c19 c20 c21 c22 c23 c24 (hc25 mTy mTm mMn mFn mRn mTn mVn mLr mTr mFl mFm mFp mSc mMp mEn) (hc26 mPa) (hc27 mTo) (hc28 mOt) (hc29 mNa) (hc30 mRe) (hc31 mMa) (hc32 mMy) (hc33 mPm) (hc34 mFy) (hc35 mFa) (hc36 mFr) (hc37 mFo) (hc38 mRt) (hc39 mRm) (hc40 mTt) (hc41 mTi) (hc42 mPl) (hc43 mVr) (hc44 mVf) (hc45 mVc) (hc46 mAr) (hc47 mTc) (hc48 mFt) (hc49 mGo) dyn, 0, 0)) (h := (12, [(2, .int (nI k)), (1, .int c), (0, .ref 25)], [], hq g c1 c2 c3 c4 c5 c6 c7 c8 c9 c10 c11 c12 c13 c14 c15 c16 c17 c18 c19 c20 c21 c22 c23 c24 (hc25 mTy mTm mMn mFn mRn mTn mVn mLr mTr mFl mFm mFp mSc mMp mEn) (hc26 mPa) (hc27 mTo) (hc28 mOt) (hc29 mNa) (hc30 mRe) (hc31 mMa) (hc32 mMy) (hc33 mPm) (hc34 mFy) (hc35 mFa) (hc36 mFr) (hc37 mFo) (hc38 mRt) (hc39 mRm) (hc40 mTt) (hc41 mTi) (hc42 mPl) (hc43 mVr) (hc44 mVf) (hc45 mVc) (hc46 mAr) (hc47 mTc) (hc48 mFt) (hc49 mGo) dyn, 0, 0)) rfl (fun h1 => ?_) (fun h1 => ?_)
    ·
      have h1 := qT_ge (cx := (nI k).toInt) (cy := (mMn).toInt) rfl rfl h1
      refine pm_go (g := (45, _, [.int c], _, 0, 0)) rfl ?_
      exact pm_ret rfl (k0 _ (by rw [g3, show k = mMn.toNatClampNeg from (tN (by omega)).symm]))
    have h1 := qF_ge (cx := (nI k).toInt) (cy := (mMn).toInt) rfl rfl h1
    refine pm_go (g := (13, _, [.int c], _, 0, 0)) rfl ?_
    refine pm_go (g := (14, _, [.ref 25, .int c], _, 0, 0)) rfl ?_
    refine pm_go (g := (17, _, [.ref 48, .int c], _, 0, 0)) rfl ?_
    refine pm_go (g := (18, _, [.int (nI k), .ref 48, .int c], _, 0, 0)) rfl ?_
    refine pm_sd (g := (19, _, [.int (mFt (nI k).toNatClampNeg), .int c], _, 0, 0)) rfl (pm_inI (by omega) (by omega)) ?_
    refine pm_if2 (g := (35, [(2, .int (nI k)), (1, .int c), (0, .ref 25)], [.int c], hq g c1 c2 c3 c4 c5 c6 c7 c8 c9 c10 c11 c12 c13 c14 c15 c16 c17 c18 c19 c20 c21 c22 c23 c24 (hc25 mTy mTm mMn mFn mRn mTn mVn mLr mTr mFl mFm mFp mSc mMp mEn) (hc26 mPa) (hc27 mTo) (hc28 mOt) (hc29 mNa) (hc30 mRe) (hc31 mMa) (hc32 mMy) (hc33 mPm) (hc34 mFy) (hc35 mFa) (hc36 mFr) (hc37 mFo) (hc38 mRt) (hc39 mRm) (hc40 mTt) (hc41 mTi) (hc42 mPl) (hc43 mVr) (hc44 mVf) (hc45 mVc) (hc46 mAr) (hc47 mTc) (hc48 mFt) (hc49 mGo) dyn, 0, 0)) (h := (22, [(2, .int (nI k)), (1, .int c), (0, .ref 25)], [.int c], hq g c1 c2 c3 c4 c5 c6 c7 c8 c9 c10 c11 c12 c13 c14 c15 c16 c17 c18 c19 c20 c21 c22 c23 c24 (hc25 mTy mTm mMn mFn mRn mTn mVn mLr mTr mFl mFm mFp mSc mMp mEn) (hc26 mPa) (hc27 mTo) (hc28 mOt) (hc29 mNa) (hc30 mRe) (hc31 mMa) (hc32 mMy) (hc33 mPm) (hc34 mFy) (hc35 mFa) (hc36 mFr) (hc37 mFo) (hc38 mRt) (hc39 mRm) (hc40 mTt) (hc41 mTi) (hc42 mPl) (hc43 mVr) (hc44 mVf) (hc45 mVc) (hc46 mAr) (hc47 mTc) (hc48 mFt) (hc49 mGo) dyn, 0, 0)) rfl (fun h2 => ?_) (fun h2 => ?_)
    ·
      have h2 := qT_eq (cx := (mFt (nI k).toNatClampNeg).toInt) (cy := 0) rfl (by decide) h2
      refine pm_go (g := (36, _, [.int 0, .int c], _, 0, 0)) rfl ?_
      refine pm_go (g := (37, _, [.int (c + 0)], _, 0, 0)) rfl ?_
      try have h3 : (c + 0).toInt = (c).toInt + 0 := iAdd (x := (c).toInt) (y := 0) rfl (by decide) (by omega) (by omega)
      refine pm_go (g := (38, [(1, .int (c + 0)), (2, .int (nI k)), (0, .ref 25)], [], _, 0, 0)) rfl ?_
      refine pm_go (g := (41, [(2, .int ((nI k) + 1)), (1, .int (c + 0)), (0, .ref 25)], [], _, 0, 0)) rfl ?_
      refine pm_go (g := (4, _, [], _, 0, 0)) rfl ?_
      rw [nI_1]
      rw [hkc] at *
      refine ih (k + 1) (c + 0) (by omega) (by omega) ?_ k0
      show _ = cT mFt mMa k + (if (mFt k).toInt ≠ 0 ∧ (mMa k &&& 1).toInt ≠ 0 then 1 else 0)
      rw [if_neg (by omega)]; omega
    have h2 := qF_eq (cx := (mFt (nI k).toNatClampNeg).toInt) (cy := 0) rfl (by decide) h2
    refine pm_go (g := (23, [(2, .int (nI k)), (1, .int c), (0, .ref 25)], [.ref 25, .int c], _, 0, 0)) rfl ?_
    refine pm_go (g := (24, _, [.int (nI k), .ref 25, .int c], _, 0, 0)) rfl ?_
    refine pm_go (g := (25, _, [.int 1, .int (nI k), .ref 25, .int c], _, 0, 0)) rfl ?_
    refine pm_callD (z := 139) (as := [.ref 25, .int (nI k), .int 1]) (rest := [.int c]) rfl ?_
    have h4 : (1 : Int32).toInt = 1 := by decide
    refine w_X12_isMark (nI k) 1 (by omega) (fun h5 => ?_) (fun h6 => ?_)
    ·
      show pm_WP 153 (28, [(2, .int (nI k)), (1, .int c), (0, .ref 25)], [.int 1, .int c], _, 0, 0) _
      refine pm_brF (h := (31, [(2, .int (nI k)), (1, .int c), (0, .ref 25)], [.int c], hq g c1 c2 c3 c4 c5 c6 c7 c8 c9 c10 c11 c12 c13 c14 c15 c16 c17 c18 c19 c20 c21 c22 c23 c24 (hc25 mTy mTm mMn mFn mRn mTn mVn mLr mTr mFl mFm mFp mSc mMp mEn) (hc26 mPa) (hc27 mTo) (hc28 mOt) (hc29 mNa) (hc30 mRe) (hc31 mMa) (hc32 mMy) (hc33 mPm) (hc34 mFy) (hc35 mFa) (hc36 mFr) (hc37 mFo) (hc38 mRt) (hc39 mRm) (hc40 mTt) (hc41 mTi) (hc42 mPl) (hc43 mVr) (hc44 mVf) (hc45 mVc) (hc46 mAr) (hc47 mTc) (hc48 mFt) (hc49 mGo) dyn, 0, 0)) rfl ?_
      refine pm_go (g := (32, _, [.int 1, .int c], _, 0, 0)) rfl ?_
      refine pm_go (g := (36, _, [.int 1, .int c], _, 0, 0)) rfl ?_
      refine pm_go (g := (37, _, [.int (c + 1)], _, 0, 0)) rfl ?_
      try have h8 : (c + 1).toInt = (c).toInt + 1 := iAdd (x := (c).toInt) (y := 1) rfl (by decide) (by omega) (by omega)
      refine pm_go (g := (38, [(1, .int (c + 1)), (2, .int (nI k)), (0, .ref 25)], [], _, 0, 0)) rfl ?_
      refine pm_go (g := (41, [(2, .int ((nI k) + 1)), (1, .int (c + 1)), (0, .ref 25)], [], _, 0, 0)) rfl ?_
      refine pm_go (g := (4, _, [], _, 0, 0)) rfl ?_
      rw [nI_1]
      rw [hkc] at *
      refine ih (k + 1) (c + 1) (by omega) (by omega) ?_ k0
      show _ = cT mFt mMa k + (if (mFt k).toInt ≠ 0 ∧ (mMa k &&& 1).toInt ≠ 0 then 1 else 0)
      rw [if_pos ⟨by omega, by omega⟩]; omega
    show pm_WP 153 (28, [(2, .int (nI k)), (1, .int c), (0, .ref 25)], [.int 0, .int c], hq g c1 c2 c3 c4 c5 c6 c7 c8 c9 c10 c11 c12 c13 c14 c15 c16 c17 c18 c19 c20 c21 c22 c23 c24 (hc25 mTy mTm mMn mFn mRn mTn mVn mLr mTr mFl mFm mFp mSc mMp mEn) (hc26 mPa) (hc27 mTo) (hc28 mOt) (hc29 mNa) (hc30 mRe) (hc31 mMa) (hc32 mMy) (hc33 mPm) (hc34 mFy) (hc35 mFa) (hc36 mFr) (hc37 mFo) (hc38 mRt) (hc39 mRm) (hc40 mTt) (hc41 mTi) (hc42 mPl) (hc43 mVr) (hc44 mVf) (hc45 mVc) (hc46 mAr) (hc47 mTc) (hc48 mFt) (hc49 mGo) dyn, 0, 0) _
    refine pm_brT (g := (35, [(2, .int (nI k)), (1, .int c), (0, .ref 25)], [.int c], hq g c1 c2 c3 c4 c5 c6 c7 c8 c9 c10 c11 c12 c13 c14 c15 c16 c17 c18 c19 c20 c21 c22 c23 c24 (hc25 mTy mTm mMn mFn mRn mTn mVn mLr mTr mFl mFm mFp mSc mMp mEn) (hc26 mPa) (hc27 mTo) (hc28 mOt) (hc29 mNa) (hc30 mRe) (hc31 mMa) (hc32 mMy) (hc33 mPm) (hc34 mFy) (hc35 mFa) (hc36 mFr) (hc37 mFo) (hc38 mRt) (hc39 mRm) (hc40 mTt) (hc41 mTi) (hc42 mPl) (hc43 mVr) (hc44 mVf) (hc45 mVc) (hc46 mAr) (hc47 mTc) (hc48 mFt) (hc49 mGo) dyn, 0, 0)) rfl ?_
    refine pm_go (g := (36, _, [.int 0, .int c], _, 0, 0)) rfl ?_
    refine pm_go (g := (37, _, [.int (c + 0)], _, 0, 0)) rfl ?_
    try have h9 : (c + 0).toInt = (c).toInt + 0 := iAdd (x := (c).toInt) (y := 0) rfl (by decide) (by omega) (by omega)
    refine pm_go (g := (38, [(1, .int (c + 0)), (2, .int (nI k)), (0, .ref 25)], [], _, 0, 0)) rfl ?_
    refine pm_go (g := (41, [(2, .int ((nI k) + 1)), (1, .int (c + 0)), (0, .ref 25)], [], _, 0, 0)) rfl ?_
    refine pm_go (g := (4, _, [], _, 0, 0)) rfl ?_
    rw [nI_1]
    rw [hkc] at *
    refine ih (k + 1) (c + 0) (by omega) (by omega) ?_ k0
    show _ = cT mFt mMa k + (if (mFt k).toInt ≠ 0 ∧ (mMa k &&& 1).toInt ≠ 0 then 1 else 0)
    rw [if_neg (by omega)]; omega
set_option maxRecDepth 100000 in
set_option maxHeartbeats 4000000 in
theorem w_X12_statics {g c1 c2 c3 c4 c5 c6 c7 c8 c9 c10 c11 c12 c13 c14 c15 c16 c17 c18 c19 c20 c21 c22 c23 c24 : pm_C} {dyn : pm_H} {mTy : Int32} {mPa : Nat → Int32} {mTo : Nat → Int32} {mTm : Int32} {mMn : Int32} {mOt : Nat → Int32} {mNa : Nat → Int32} {mRe : Nat → Int32} {mMa : Nat → Int32} {mMy : Nat → Int32} {mPm : Nat → Int32} {mFn : Int32} {mFy : Nat → Int32} {mFa : Nat → Int32} {mFr : Nat → Int32} {mRn : Int32} {mFo : Nat → Int32} {mRt : Nat → Int32} {mRm : Nat → Int32} {mTn : Int32} {mTt : Nat → Int32} {mTi : Nat → Int32} {mPl : Nat → Int32} {mVn : Int32} {mVr : Nat → Int32} {mVf : Nat → Int32} {mVc : Nat → Int32} {mAr : Nat → Int32} {mLr : Int32} {mTc : Nat → Int32} {mTr : Int32} {mFl : Int32} {mFt : Nat → Int32} {mFm : Int32} {mFp : Int32} {mSc : Int32} {mMp : Int32} {mEn : Int32} {mGo : Nat → Int32} {Q : pm_Q} (p0 : 0 ≤ mMn.toInt ∧ mMn.toInt ≤ 40) (k0 : ∀ (r9 : Int32), r9.toInt = cT mFt mMa mMn.toNatClampNeg → Q (some (.int r9)) (hq g c1 c2 c3 c4 c5 c6 c7 c8 c9 c10 c11 c12 c13 c14 c15 c16 c17 c18 c19 c20 c21 c22 c23 c24 (hc25 mTy mTm mMn mFn mRn mTn mVn mLr mTr mFl mFm mFp mSc mMp mEn) (hc26 mPa) (hc27 mTo) (hc28 mOt) (hc29 mNa) (hc30 mRe) (hc31 mMa) (hc32 mMy) (hc33 mPm) (hc34 mFy) (hc35 mFa) (hc36 mFr) (hc37 mFo) (hc38 mRt) (hc39 mRm) (hc40 mTt) (hc41 mTi) (hc42 mPl) (hc43 mVr) (hc44 mVf) (hc45 mVc) (hc46 mAr) (hc47 mTc) (hc48 mFt) (hc49 mGo) dyn)) : pm_WP 153 (0, [(0, .ref 25)], [], hq g c1 c2 c3 c4 c5 c6 c7 c8 c9 c10 c11 c12 c13 c14 c15 c16 c17 c18 c19 c20 c21 c22 c23 c24 (hc25 mTy mTm mMn mFn mRn mTn mVn mLr mTr mFl mFm mFp mSc mMp mEn) (hc26 mPa) (hc27 mTo) (hc28 mOt) (hc29 mNa) (hc30 mRe) (hc31 mMa) (hc32 mMy) (hc33 mPm) (hc34 mFy) (hc35 mFa) (hc36 mFr) (hc37 mFo) (hc38 mRt) (hc39 mRm) (hc40 mTt) (hc41 mTi) (hc42 mPl) (hc43 mVr) (hc44 mVf) (hc45 mVc) (hc46 mAr) (hc47 mTc) (hc48 mFt) (hc49 mGo) dyn, 0, 0) Q := by
  refine pm_go (g := (1, [(0, .ref 25)], [.int 0], hq g c1 c2 c3 c4 c5 c6 c7 c8 c9 c10 c11 c12 c13 c14 c15 c16 c17 c18 c19 c20 c21 c22 c23 c24 (hc25 mTy mTm mMn mFn mRn mTn mVn mLr mTr mFl mFm mFp mSc mMp mEn) (hc26 mPa) (hc27 mTo) (hc28 mOt) (hc29 mNa) (hc30 mRe) (hc31 mMa) (hc32 mMy) (hc33 mPm) (hc34 mFy) (hc35 mFa) (hc36 mFr) (hc37 mFo) (hc38 mRt) (hc39 mRm) (hc40 mTt) (hc41 mTi) (hc42 mPl) (hc43 mVr) (hc44 mVf) (hc45 mVc) (hc46 mAr) (hc47 mTc) (hc48 mFt) (hc49 mGo) dyn, 0, 0)) rfl ?_
  refine pm_go (g := (2, [(1, .int 0), (0, .ref 25)], [], _, 0, 0)) rfl ?_
  refine pm_go (g := (3, _, [.int 0], _, 0, 0)) rfl ?_
  refine pm_go (g := (4, [(2, .int 0), (1, .int 0), (0, .ref 25)], [], _, 0, 0)) rfl ?_
  exact w_statics_loop p0 41 0 0 (by omega) (by omega) rfl k0
