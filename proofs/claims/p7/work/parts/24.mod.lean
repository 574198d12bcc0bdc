theorem tN {e : Int32} {z : Nat} (h : e.toInt = (z : Int)) : e.toNatClampNeg = z := by
  show e.toInt.toNat = z
  omega
/-- twenty places are cleared -/
def zP (f : Nat → Int32) (n : Int32) : Nat → Int32 := fun i => if 20 * n.toNatClampNeg ≤ i ∧ i < 20 * n.toNatClampNeg + 20 then 0 else f i
/-- what was told goes into a row of three from 3 * n on -/
def cpF (f to : Nat → Int32) (n : Int32) (m : Int32) : Nat → Int32 := fun i => if 3 * n.toNatClampNeg ≤ i ∧ i < 3 * n.toNatClampNeg + m.toNatClampNeg then to (i - 3 * n.toNatClampNeg) else f i
def shT (f : Nat → Int32) : Nat → Int32 := fun i => if i < 49 then f (i + 1) else f i
set_option maxRecDepth 100000 in
set_option maxHeartbeats 4000000 in
theorem w_made_loop {g c1 c2 c3 c4 c5 c6 c7 c8 c9 c10 c11 c12 c13 c14 c15 c16 c17 c18 c19 c20 c21 c22 c23 c24 : pm_C} {dyn : pm_H} {mTy : Int32} {mPa : Nat → Int32} {mTo : Nat → Int32} {mTm : Int32} {mMn : Int32} {mOt : Nat → Int32} {mNa : Nat → Int32} {mRe : Nat → Int32} {mMa : Nat → Int32} {mMy : Nat → Int32} {mPm : Nat → Int32} {mFn : Int32} {mFy : Nat → Int32} {mFa : Nat → Int32} {mFr : Nat → Int32} {mRn : Int32} {mFo : Nat → Int32} {mRt : Nat → Int32} {mRm : Nat → Int32} {mTn : Int32} {mTt : Nat → Int32} {mTi : Nat → Int32} {mPl : Nat → Int32} {mVn : Int32} {mVr : Nat → Int32} {mVf : Nat → Int32} {mVc : Nat → Int32} {mAr : Nat → Int32} {mLr : Int32} {mTc : Nat → Int32} {mTr : Int32} {mFl : Int32} {mFt : Nat → Int32} {mFm : Int32} {mFp : Int32} {mSc : Int32} {mMp : Int32} {mEn : Int32} {mGo : Nat → Int32} {Q : pm_Q} (t v : Int32) (f0 : Nat → Int32) (ht : 1 ≤ mTn.toInt ∧ mTn.toInt ≤ 60) : ∀ (n k : Nat) (f : Nat → Int32), (k ≤ 20) → (20 < k + n) → (∀ i : Nat, f i = if 20 * mTn.toNatClampNeg ≤ i ∧ i < 20 * mTn.toNatClampNeg + k then 0 else f0 i) → (Q (some (.int mTn)) (hq g c1 c2 c3 c4 c5 c6 c7 c8 c9 c10 c11 c12 c13 c14 c15 c16 c17 c18 c19 c20 c21 c22 c23 c24 (hc25 mTy mTm mMn mFn mRn mTn mVn mLr mTr mFl mFm mFp mSc mMp mEn) (hc26 mPa) (hc27 mTo) (hc28 mOt) (hc29 mNa) (hc30 mRe) (hc31 mMa) (hc32 mMy) (hc33 mPm) (hc34 mFy) (hc35 mFa) (hc36 mFr) (hc37 mFo) (hc38 mRt) (hc39 mRm) (hc40 mTt) (hc41 mTi) (hc42 (zP f0 mTn)) (hc43 mVr) (hc44 mVf) (hc45 mVc) (hc46 mAr) (hc47 mTc) (hc48 mFt) (hc49 mGo) dyn)) → pm_WP 169 (58, [(3, .int (nI k)), (0, .ref 25), (1, .int t), (2, .int v)], [], hq g c1 c2 c3 c4 c5 c6 c7 c8 c9 c10 c11 c12 c13 c14 c15 c16 c17 c18 c19 c20 c21 c22 c23 c24 (hc25 mTy mTm mMn mFn mRn mTn mVn mLr mTr mFl mFm mFp mSc mMp mEn) (hc26 mPa) (hc27 mTo) (hc28 mOt) (hc29 mNa) (hc30 mRe) (hc31 mMa) (hc32 mMy) (hc33 mPm) (hc34 mFy) (hc35 mFa) (hc36 mFr) (hc37 mFo) (hc38 mRt) (hc39 mRm) (hc40 mTt) (hc41 mTi) (hc42 f) (hc43 mVr) (hc44 mVf) (hc45 mVc) (hc46 mAr) (hc47 mTc) (hc48 mFt) (hc49 mGo) dyn, 0, 0) Q := by
  intro n
  induction n with
  | zero =>
    intro k f g1 g2 g3 k0
    exfalso; omega
  | succ n ih =>
    intro k f g1 g2 g3 k0
    have hk := nI_toInt (n := k) (by omega)
    have hkc : (nI k).toNatClampNeg = k := nI_clamp (by omega)
    have hxt := xN (x := mTn) (by omega)
    refine pm_go (g := (59, [(3, .int (nI k)), (0, .ref 25), (1, .int t), (2, .int v)], [.int (nI k)], hq g c1 c2 c3 c4 c5 c6 c7 c8 c9 c10 c11 c12 c13 c14 c15 c16 c17 c18 c19 c20 c21 c22 c23 c24 (hc25 mTy mTm mMn mFn mRn mTn mVn mLr mTr mFl mFm mFp mSc mMp mEn) (hc26 mPa) (hc27 mTo) (hc28 mOt) (hc29 mNa) (hc30 mRe) (hc31 mMa) (hc32 mMy) (hc33 mPm) (hc34 mFy) (hc35 mFa) (hc36 mFr) (hc37 mFo) (hc38 mRt) (hc39 mRm) (hc40 mTt) (hc41 mTi) (hc42 f) (hc43 mVr) (hc44 mVf) (hc45 mVc) (hc46 mAr) (hc47 mTc) (hc48 mFt) (hc49 mGo) dyn, 0, 0)) rfl ?_
    refine pm_go (g := (61, _, [.int 20, .int (nI k)], _, 0, 0)) rfl ?_
    refine pm_if2 (g := (85, [(3, .int (nI k)), (0, .ref 25), (1, .int t), (2, .int v)], [], hq g c1 c2 c3 c4 c5 c6 c7 c8 c9 c10 c11 c12 c13 c14 c15 c16 c17 c18 c19 c20 c21 c22 c23 c24 (hc25 mTy mTm mMn mFn mRn mTn mVn mLr mTr mFl mFm mFp mSc mMp mEn) (hc26 mPa) (hc27 mTo) (hc28 mOt) (hc29 mNa) (hc30 mRe) (hc31 mMa) (hc32 mMy) (hc33 mPm) (hc34 mFy) (hc35 mFa) (hc36 mFr) (hc37 mFo) (hc38 mRt) (hc39 mRm) (hc40 mTt) (hc41 mTi) (hc42 f) (hc43 mVr) (hc44 mVf) (hc45 mVc) (hc46 mAr) (hc47 mTc) (hc48 mFt) (hc49 mGo) dyn, 0, 0)) (h := (64, [(3, .int (nI k)), (0, .ref 25), (1, .int t), (2, .int v)], [], hq g c1 c2 c3 c4 c5 c6 c7 c8 c9 c10 c11 c12 c13 c14 c15 c16 c17 c18 c19 c20 c21 c22 c23 c24 (hc25 mTy mTm mMn mFn mRn mTn mVn mLr mTr mFl mFm mFp mSc mMp mEn) (hc26 mPa) (hc27 mTo) (hc28 mOt) (hc29 mNa) (hc30 mRe) (hc31 mMa) (hc32 mMy) (hc33 mPm) (hc34 mFy) (hc35 mFa) (hc36 mFr) (hc37 mFo) (hc38 mRt) (hc39 mRm) (hc40 mTt) (hc41 mTi) (hc42 f) (hc43 mVr) (hc44 mVf) (hc45 mVc) (hc46 mAr) (hc47 mTc) (hc48 mFt) (hc49 mGo) dyn, 0, 0)) rfl (fun h1 => ?_) (fun h1 => ?_)
    ·
      have h1 := qT_ge (cx := (nI k).toInt) (cy := 20) rfl (by decide) h1
      refine pm_go (g := (86, _, [.ref 25], _, 0, 0)) rfl ?_
      refine pm_go (g := (89, _, [.int mTn], _, 0, 0)) rfl ?_
      have ef : f = zP f0 mTn := funext (fun i => by rw [g3 i]; unfold zP; rw [show k = 20 by omega])
      rw [ef]
      exact pm_ret rfl k0
    have h1 := qF_ge (cx := (nI k).toInt) (cy := 20) rfl (by decide) h1
    refine pm_go (g := (65, _, [.ref 25], _, 0, 0)) rfl ?_
    refine pm_go (g := (68, _, [.ref 42], _, 0, 0)) rfl ?_
    refine pm_go (g := (70, _, [.int 20, .ref 42], _, 0, 0)) rfl ?_
    refine pm_go (g := (71, _, [.ref 25, .int 20, .ref 42], _, 0, 0)) rfl ?_
    refine pm_go (g := (74, _, [.int mTn, .int 20, .ref 42], _, 0, 0)) rfl ?_
    refine pm_go (g := (75, _, [.int (20 * mTn), .ref 42], _, 0, 0)) rfl ?_
    try have h2 : (20 * mTn).toInt = 20 * (mTn).toInt := iMul (x := 20) (y := (mTn).toInt) (by decide) rfl (by omega) (by omega)
    refine pm_go (g := (76, _, [.int (nI k), .int (20 * mTn), .ref 42], _, 0, 0)) rfl ?_
    refine pm_go (g := (77, _, [.int ((20 * mTn) + (nI k)), .ref 42], _, 0, 0)) rfl ?_
    try have h3 : ((20 * mTn) + (nI k)).toInt = (20 * mTn).toInt + (nI k).toInt := iAdd (x := (20 * mTn).toInt) (y := (nI k).toInt) rfl rfl (by omega) (by omega)
    refine pm_go (g := (78, _, [.int 0, .int ((20 * mTn) + (nI k)), .ref 42], _, 0, 0)) rfl ?_
    refine pm_sd (g := (79, _, [], hq g c1 c2 c3 c4 c5 c6 c7 c8 c9 c10 c11 c12 c13 c14 c15 c16 c17 c18 c19 c20 c21 c22 c23 c24 (hc25 mTy mTm mMn mFn mRn mTn mVn mLr mTr mFl mFm mFp mSc mMp mEn) (hc26 mPa) (hc27 mTo) (hc28 mOt) (hc29 mNa) (hc30 mRe) (hc31 mMa) (hc32 mMy) (hc33 mPm) (hc34 mFy) (hc35 mFa) (hc36 mFr) (hc37 mFo) (hc38 mRt) (hc39 mRm) (hc40 mTt) (hc41 mTi) (hc42 (upd f ((20 * mTn) + (nI k)).toNatClampNeg 0)) (hc43 mVr) (hc44 mVf) (hc45 mVc) (hc46 mAr) (hc47 mTc) (hc48 mFt) (hc49 mGo) dyn, 0, 0)) rfl (pm_inI (by omega) (by omega)) ?_
    refine pm_go (g := (82, [(3, .int ((nI k) + 1)), (0, .ref 25), (1, .int t), (2, .int v)], [], _, 0, 0)) rfl ?_
    refine pm_go (g := (58, _, [], _, 0, 0)) rfl ?_
    have hix : (20 * mTn + nI k).toNatClampNeg = 20 * mTn.toNatClampNeg + k := tN (by omega)
    rw [nI_1, hix]
    refine ih (k + 1) (upd f (20 * mTn.toNatClampNeg + k) 0) (by omega) (by omega) (fun i => ?_) k0
    unfold upd
    by_cases e9 : i = 20 * mTn.toNatClampNeg + k
    · rw [if_pos e9, if_pos (by omega)]
    · rw [if_neg e9, g3 i]
      by_cases e8 : 20 * mTn.toNatClampNeg ≤ i ∧ i < 20 * mTn.toNatClampNeg + k
      · rw [if_pos e8, if_pos (by omega)]
      · rw [if_neg e8, if_neg (by omega)]
set_option maxRecDepth 100000 in
set_option maxHeartbeats 4000000 in
theorem w_X12_made {g c1 c2 c3 c4 c5 c6 c7 c8 c9 c10 c11 c12 c13 c14 c15 c16 c17 c18 c19 c20 c21 c22 c23 c24 : pm_C} {dyn : pm_H} {mTy : Int32} {mPa : Nat → Int32} {mTo : Nat → Int32} {mTm : Int32} {mMn : Int32} {mOt : Nat → Int32} {mNa : Nat → Int32} {mRe : Nat → Int32} {mMa : Nat → Int32} {mMy : Nat → Int32} {mPm : Nat → Int32} {mFn : Int32} {mFy : Nat → Int32} {mFa : Nat → Int32} {mFr : Nat → Int32} {mRn : Int32} {mFo : Nat → Int32} {mRt : Nat → Int32} {mRm : Nat → Int32} {mTn : Int32} {mTt : Nat → Int32} {mTi : Nat → Int32} {mPl : Nat → Int32} {mVn : Int32} {mVr : Nat → Int32} {mVf : Nat → Int32} {mVc : Nat → Int32} {mAr : Nat → Int32} {mLr : Int32} {mTc : Nat → Int32} {mTr : Int32} {mFl : Int32} {mFt : Nat → Int32} {mFm : Int32} {mFp : Int32} {mSc : Int32} {mMp : Int32} {mEn : Int32} {mGo : Nat → Int32} {Q : pm_Q} (t : Int32) (v : Int32) (p0 : 0 ≤ mTn.toInt ∧ mTn.toInt ≤ 60) (k0 : mEn.toInt ≠ 0 → Q (some (.int 0)) (hq g c1 c2 c3 c4 c5 c6 c7 c8 c9 c10 c11 c12 c13 c14 c15 c16 c17 c18 c19 c20 c21 c22 c23 c24 (hc25 mTy mTm mMn mFn mRn mTn mVn mLr mTr mFl mFm mFp mSc mMp mEn) (hc26 mPa) (hc27 mTo) (hc28 mOt) (hc29 mNa) (hc30 mRe) (hc31 mMa) (hc32 mMy) (hc33 mPm) (hc34 mFy) (hc35 mFa) (hc36 mFr) (hc37 mFo) (hc38 mRt) (hc39 mRm) (hc40 mTt) (hc41 mTi) (hc42 mPl) (hc43 mVr) (hc44 mVf) (hc45 mVc) (hc46 mAr) (hc47 mTc) (hc48 mFt) (hc49 mGo) dyn)) (k1 : mEn.toInt = 0 ∧ mTn.toInt = 60 → Q (some (.int 0)) (hq g c1 c2 c3 c4 c5 c6 c7 c8 c9 c10 c11 c12 c13 c14 c15 c16 c17 c18 c19 c20 c21 c22 c23 c24 (hc25 mTy mTm mMn mFn mRn mTn mVn mLr mTr mFl mFm mFp mSc mMp (-2)) (hc26 mPa) (hc27 mTo) (hc28 mOt) (hc29 mNa) (hc30 mRe) (hc31 mMa) (hc32 mMy) (hc33 mPm) (hc34 mFy) (hc35 mFa) (hc36 mFr) (hc37 mFo) (hc38 mRt) (hc39 mRm) (hc40 mTt) (hc41 mTi) (hc42 mPl) (hc43 mVr) (hc44 mVf) (hc45 mVc) (hc46 mAr) (hc47 mTc) (hc48 mFt) (hc49 mGo) dyn)) (k2 : mEn.toInt = 0 ∧ mTn.toInt < 60 → Q (some (.int (mTn + 1))) (hq g c1 c2 c3 c4 c5 c6 c7 c8 c9 c10 c11 c12 c13 c14 c15 c16 c17 c18 c19 c20 c21 c22 c23 c24 (hc25 mTy mTm mMn mFn mRn (mTn + 1) mVn mLr mTr mFl mFm mFp mSc mMp mEn) (hc26 mPa) (hc27 mTo) (hc28 mOt) (hc29 mNa) (hc30 mRe) (hc31 mMa) (hc32 mMy) (hc33 mPm) (hc34 mFy) (hc35 mFa) (hc36 mFr) (hc37 mFo) (hc38 mRt) (hc39 mRm) (hc40 (upd mTt (mTn + 1).toNatClampNeg t)) (hc41 (upd mTi (mTn + 1).toNatClampNeg v)) (hc42 (zP mPl (mTn + 1))) (hc43 mVr) (hc44 mVf) (hc45 mVc) (hc46 mAr) (hc47 mTc) (hc48 mFt) (hc49 mGo) dyn)) : pm_WP 169 (0, [(0, .ref 25), (1, .int t), (2, .int v)], [], hq g c1 c2 c3 c4 c5 c6 c7 c8 c9 c10 c11 c12 c13 c14 c15 c16 c17 c18 c19 c20 c21 c22 c23 c24 (hc25 mTy mTm mMn mFn mRn mTn mVn mLr mTr mFl mFm mFp mSc mMp mEn) (hc26 mPa) (hc27 mTo) (hc28 mOt) (hc29 mNa) (hc30 mRe) (hc31 mMa) (hc32 mMy) (hc33 mPm) (hc34 mFy) (hc35 mFa) (hc36 mFr) (hc37 mFo) (hc38 mRt) (hc39 mRm) (hc40 mTt) (hc41 mTi) (hc42 mPl) (hc43 mVr) (hc44 mVf) (hc45 mVc) (hc46 mAr) (hc47 mTc) (hc48 mFt) (hc49 mGo) dyn, 0, 0) Q := by
  refine pm_go (g := (1, [(0, .ref 25), (1, .int t), (2, .int v)], [.ref 25], hq g c1 c2 c3 c4 c5 c6 c7 c8 c9 c10 c11 c12 c13 c14 c15 c16 c17 c18 c19 c20 c21 c22 c23 c24 (hc25 mTy mTm mMn mFn mRn mTn mVn mLr mTr mFl mFm mFp mSc mMp mEn) (hc26 mPa) (hc27 mTo) (hc28 mOt) (hc29 mNa) (hc30 mRe) (hc31 mMa) (hc32 mMy) (hc33 mPm) (hc34 mFy) (hc35 mFa) (hc36 mFr) (hc37 mFo) (hc38 mRt) (hc39 mRm) (hc40 mTt) (hc41 mTi) (hc42 mPl) (hc43 mVr) (hc44 mVf) (hc45 mVc) (hc46 mAr) (hc47 mTc) (hc48 mFt) (hc49 mGo) dyn, 0, 0)) rfl ?_
  refine pm_go (g := (4, _, [.int mEn], _, 0, 0)) rfl ?_
  refine pm_if2 (g := (9, [(0, .ref 25), (1, .int t), (2, .int v)], [], hq g c1 c2 c3 c4 c5 c6 c7 c8 c9 c10 c11 c12 c13 c14 c15 c16 c17 c18 c19 c20 c21 c22 c23 c24 (hc25 mTy mTm mMn mFn mRn mTn mVn mLr mTr mFl mFm mFp mSc mMp mEn) (hc26 mPa) (hc27 mTo) (hc28 mOt) (hc29 mNa) (hc30 mRe) (hc31 mMa) (hc32 mMy) (hc33 mPm) (hc34 mFy) (hc35 mFa) (hc36 mFr) (hc37 mFo) (hc38 mRt) (hc39 mRm) (hc40 mTt) (hc41 mTi) (hc42 mPl) (hc43 mVr) (hc44 mVf) (hc45 mVc) (hc46 mAr) (hc47 mTc) (hc48 mFt) (hc49 mGo) dyn, 0, 0)) (h := (7, [(0, .ref 25), (1, .int t), (2, .int v)], [], hq g c1 c2 c3 c4 c5 c6 c7 c8 c9 c10 c11 c12 c13 c14 c15 c16 c17 c18 c19 c20 c21 c22 c23 c24 (hc25 mTy mTm mMn mFn mRn mTn mVn mLr mTr mFl mFm mFp mSc mMp mEn) (hc26 mPa) (hc27 mTo) (hc28 mOt) (hc29 mNa) (hc30 mRe) (hc31 mMa) (hc32 mMy) (hc33 mPm) (hc34 mFy) (hc35 mFa) (hc36 mFr) (hc37 mFo) (hc38 mRt) (hc39 mRm) (hc40 mTt) (hc41 mTi) (hc42 mPl) (hc43 mVr) (hc44 mVf) (hc45 mVc) (hc46 mAr) (hc47 mTc) (hc48 mFt) (hc49 mGo) dyn, 0, 0)) rfl (fun h1 => ?_) (fun h1 => ?_)
  ·
    have h1 := qT_eq (cx := (mEn).toInt) (cy := 0) rfl (by decide) h1
    refine pm_go (g := (10, _, [.ref 25], _, 0, 0)) rfl ?_
    refine pm_go (g := (13, _, [.int mTn], _, 0, 0)) rfl ?_
    refine pm_go (g := (15, _, [.int 60, .int mTn], _, 0, 0)) rfl ?_
    refine pm_if2 (g := (26, [(0, .ref 25), (1, .int t), (2, .int v)], [], hq g c1 c2 c3 c4 c5 c6 c7 c8 c9 c10 c11 c12 c13 c14 c15 c16 c17 c18 c19 c20 c21 c22 c23 c24 (hc25 mTy mTm mMn mFn mRn mTn mVn mLr mTr mFl mFm mFp mSc mMp mEn) (hc26 mPa) (hc27 mTo) (hc28 mOt) (hc29 mNa) (hc30 mRe) (hc31 mMa) (hc32 mMy) (hc33 mPm) (hc34 mFy) (hc35 mFa) (hc36 mFr) (hc37 mFo) (hc38 mRt) (hc39 mRm) (hc40 mTt) (hc41 mTi) (hc42 mPl) (hc43 mVr) (hc44 mVf) (hc45 mVc) (hc46 mAr) (hc47 mTc) (hc48 mFt) (hc49 mGo) dyn, 0, 0)) (h := (18, [(0, .ref 25), (1, .int t), (2, .int v)], [], hq g c1 c2 c3 c4 c5 c6 c7 c8 c9 c10 c11 c12 c13 c14 c15 c16 c17 c18 c19 c20 c21 c22 c23 c24 (hc25 mTy mTm mMn mFn mRn mTn mVn mLr mTr mFl mFm mFp mSc mMp mEn) (hc26 mPa) (hc27 mTo) (hc28 mOt) (hc29 mNa) (hc30 mRe) (hc31 mMa) (hc32 mMy) (hc33 mPm) (hc34 mFy) (hc35 mFa) (hc36 mFr) (hc37 mFo) (hc38 mRt) (hc39 mRm) (hc40 mTt) (hc41 mTi) (hc42 mPl) (hc43 mVr) (hc44 mVf) (hc45 mVc) (hc46 mAr) (hc47 mTc) (hc48 mFt) (hc49 mGo) dyn, 0, 0)) rfl (fun h2 => ?_) (fun h2 => ?_)
    ·
      have h2 := qT_ne (cx := (mTn).toInt) (cy := 60) rfl (by decide) h2
      refine pm_go (g := (27, _, [.ref 25], _, 0, 0)) rfl ?_
      refine pm_go (g := (28, _, [.ref 25, .ref 25], _, 0, 0)) rfl ?_
      refine pm_go (g := (31, _, [.int mTn, .ref 25], _, 0, 0)) rfl ?_
      refine pm_go (g := (32, _, [.int 1, .int mTn, .ref 25], _, 0, 0)) rfl ?_
      refine pm_go (g := (33, _, [.int (mTn + 1), .ref 25], _, 0, 0)) rfl ?_
      try have h3 : (mTn + 1).toInt = (mTn).toInt + 1 := iAdd (x := (mTn).toInt) (y := 1) rfl (by decide) (by omega) (by omega)
      refine pm_go (g := (36, _, [], hq g c1 c2 c3 c4 c5 c6 c7 c8 c9 c10 c11 c12 c13 c14 c15 c16 c17 c18 c19 c20 c21 c22 c23 c24 (hc25 mTy mTm mMn mFn mRn (mTn + 1) mVn mLr mTr mFl mFm mFp mSc mMp mEn) (hc26 mPa) (hc27 mTo) (hc28 mOt) (hc29 mNa) (hc30 mRe) (hc31 mMa) (hc32 mMy) (hc33 mPm) (hc34 mFy) (hc35 mFa) (hc36 mFr) (hc37 mFo) (hc38 mRt) (hc39 mRm) (hc40 mTt) (hc41 mTi) (hc42 mPl) (hc43 mVr) (hc44 mVf) (hc45 mVc) (hc46 mAr) (hc47 mTc) (hc48 mFt) (hc49 mGo) dyn, 0, 0)) rfl ?_
      refine pm_go (g := (37, _, [.ref 25], _, 0, 0)) rfl ?_
      refine pm_go (g := (40, _, [.ref 40], _, 0, 0)) rfl ?_
      refine pm_go (g := (41, _, [.ref 25, .ref 40], _, 0, 0)) rfl ?_
      refine pm_go (g := (44, _, [.int (mTn + 1), .ref 40], _, 0, 0)) rfl ?_
      refine pm_go (g := (45, _, [.int t, .int (mTn + 1), .ref 40], _, 0, 0)) rfl ?_
      refine pm_sd (g := (46, _, [], hq g c1 c2 c3 c4 c5 c6 c7 c8 c9 c10 c11 c12 c13 c14 c15 c16 c17 c18 c19 c20 c21 c22 c23 c24 (hc25 mTy mTm mMn mFn mRn (mTn + 1) mVn mLr mTr mFl mFm mFp mSc mMp mEn) (hc26 mPa) (hc27 mTo) (hc28 mOt) (hc29 mNa) (hc30 mRe) (hc31 mMa) (hc32 mMy) (hc33 mPm) (hc34 mFy) (hc35 mFa) (hc36 mFr) (hc37 mFo) (hc38 mRt) (hc39 mRm) (hc40 (upd mTt (mTn + 1).toNatClampNeg t)) (hc41 mTi) (hc42 mPl) (hc43 mVr) (hc44 mVf) (hc45 mVc) (hc46 mAr) (hc47 mTc) (hc48 mFt) (hc49 mGo) dyn, 0, 0)) rfl (pm_inI (by omega) (by omega)) ?_
      refine pm_go (g := (47, _, [.ref 25], _, 0, 0)) rfl ?_
      refine pm_go (g := (50, _, [.ref 41], _, 0, 0)) rfl ?_
      refine pm_go (g := (51, _, [.ref 25, .ref 41], _, 0, 0)) rfl ?_
      refine pm_go (g := (54, _, [.int (mTn + 1), .ref 41], _, 0, 0)) rfl ?_
      refine pm_go (g := (55, _, [.int v, .int (mTn + 1), .ref 41], _, 0, 0)) rfl ?_
      refine pm_sd (g := (56, _, [], hq g c1 c2 c3 c4 c5 c6 c7 c8 c9 c10 c11 c12 c13 c14 c15 c16 c17 c18 c19 c20 c21 c22 c23 c24 (hc25 mTy mTm mMn mFn mRn (mTn + 1) mVn mLr mTr mFl mFm mFp mSc mMp mEn) (hc26 mPa) (hc27 mTo) (hc28 mOt) (hc29 mNa) (hc30 mRe) (hc31 mMa) (hc32 mMy) (hc33 mPm) (hc34 mFy) (hc35 mFa) (hc36 mFr) (hc37 mFo) (hc38 mRt) (hc39 mRm) (hc40 (upd mTt (mTn + 1).toNatClampNeg t)) (hc41 (upd mTi (mTn + 1).toNatClampNeg v)) (hc42 mPl) (hc43 mVr) (hc44 mVf) (hc45 mVc) (hc46 mAr) (hc47 mTc) (hc48 mFt) (hc49 mGo) dyn, 0, 0)) rfl (pm_inI (by omega) (by omega)) ?_
      refine pm_go (g := (57, _, [.int 0], _, 0, 0)) rfl ?_
      refine pm_go (g := (58, [(3, .int 0), (0, .ref 25), (1, .int t), (2, .int v)], [], _, 0, 0)) rfl ?_
      exact w_made_loop (mPl := mPl) t v mPl (by omega) 21 0 mPl (by omega) (by omega) (fun i => by rw [if_neg (by omega)]) (k2 (by omega))
    have h2 := qF_ne (cx := (mTn).toInt) (cy := 60) rfl (by decide) h2
    refine pm_go (g := (19, [(0, .ref 25), (1, .int t), (2, .int v)], [.ref 25], hq g c1 c2 c3 c4 c5 c6 c7 c8 c9 c10 c11 c12 c13 c14 c15 c16 c17 c18 c19 c20 c21 c22 c23 c24 (hc25 mTy mTm mMn mFn mRn mTn mVn mLr mTr mFl mFm mFp mSc mMp mEn) (hc26 mPa) (hc27 mTo) (hc28 mOt) (hc29 mNa) (hc30 mRe) (hc31 mMa) (hc32 mMy) (hc33 mPm) (hc34 mFy) (hc35 mFa) (hc36 mFr) (hc37 mFo) (hc38 mRt) (hc39 mRm) (hc40 mTt) (hc41 mTi) (hc42 mPl) (hc43 mVr) (hc44 mVf) (hc45 mVc) (hc46 mAr) (hc47 mTc) (hc48 mFt) (hc49 mGo) dyn, 0, 0)) rfl ?_
    refine pm_go (g := (21, _, [.int (-2), .ref 25], _, 0, 0)) rfl ?_
    refine pm_go (g := (24, _, [], hq g c1 c2 c3 c4 c5 c6 c7 c8 c9 c10 c11 c12 c13 c14 c15 c16 c17 c18 c19 c20 c21 c22 c23 c24 (hc25 mTy mTm mMn mFn mRn mTn mVn mLr mTr mFl mFm mFp mSc mMp (-2)) (hc26 mPa) (hc27 mTo) (hc28 mOt) (hc29 mNa) (hc30 mRe) (hc31 mMa) (hc32 mMy) (hc33 mPm) (hc34 mFy) (hc35 mFa) (hc36 mFr) (hc37 mFo) (hc38 mRt) (hc39 mRm) (hc40 mTt) (hc41 mTi) (hc42 mPl) (hc43 mVr) (hc44 mVf) (hc45 mVc) (hc46 mAr) (hc47 mTc) (hc48 mFt) (hc49 mGo) dyn, 0, 0)) rfl ?_
    refine pm_go (g := (25, _, [.int 0], _, 0, 0)) rfl ?_
    first | exact pm_ret rfl (k0 (by omega)) | exact pm_ret rfl (k1 (by omega)) | (exfalso; omega)
  have h1 := qF_eq (cx := (mEn).toInt) (cy := 0) rfl (by decide) h1
  refine pm_go (g := (8, _, [.int 0], hq g c1 c2 c3 c4 c5 c6 c7 c8 c9 c10 c11 c12 c13 c14 c15 c16 c17 c18 c19 c20 c21 c22 c23 c24 (hc25 mTy mTm mMn mFn mRn mTn mVn mLr mTr mFl mFm mFp mSc mMp mEn) (hc26 mPa) (hc27 mTo) (hc28 mOt) (hc29 mNa) (hc30 mRe) (hc31 mMa) (hc32 mMy) (hc33 mPm) (hc34 mFy) (hc35 mFa) (hc36 mFr) (hc37 mFo) (hc38 mRt) (hc39 mRm) (hc40 mTt) (hc41 mTi) (hc42 mPl) (hc43 mVr) (hc44 mVf) (hc45 mVc) (hc46 mAr) (hc47 mTc) (hc48 mFt) (hc49 mGo) dyn, 0, 0)) rfl ?_
  first | exact pm_ret rfl (k0 (by omega)) | exact pm_ret rfl (k1 (by omega)) | (exfalso; omega)
set_option maxRecDepth 100000 in
set_option maxHeartbeats 4000000 in
theorem w_X12_thing {g c1 c2 c3 c4 c5 c6 c7 c8 c9 c10 c11 c12 c13 c14 c15 c16 c17 c18 c19 c20 c21 c22 c23 c24 : pm_C} {dyn : pm_H} {mTy : Int32} {mPa : Nat → Int32} {mTo : Nat → Int32} {mTm : Int32} {mMn : Int32} {mOt : Nat → Int32} {mNa : Nat → Int32} {mRe : Nat → Int32} {mMa : Nat → Int32} {mMy : Nat → Int32} {mPm : Nat → Int32} {mFn : Int32} {mFy : Nat → Int32} {mFa : Nat → Int32} {mFr : Nat → Int32} {mRn : Int32} {mFo : Nat → Int32} {mRt : Nat → Int32} {mRm : Nat → Int32} {mTn : Int32} {mTt : Nat → Int32} {mTi : Nat → Int32} {mPl : Nat → Int32} {mVn : Int32} {mVr : Nat → Int32} {mVf : Nat → Int32} {mVc : Nat → Int32} {mAr : Nat → Int32} {mLr : Int32} {mTc : Nat → Int32} {mTr : Int32} {mFl : Int32} {mFt : Nat → Int32} {mFm : Int32} {mFp : Int32} {mSc : Int32} {mMp : Int32} {mEn : Int32} {mGo : Nat → Int32} {Q : pm_Q} (t : Int32) (p0 : 2 ≤ mTy.toInt ∧ mTy.toInt ≤ 10) (p1 : paD mPa) (p2 : myD mMy) (p3 : 0 ≤ mMn.toInt ∧ mMn.toInt ≤ 40) (p4 : 0 ≤ mTn.toInt ∧ mTn.toInt ≤ 60) (k0 : (t.toInt < 0 ∨ mTy.toInt ≤ t.toInt ∨ t.toInt = 1) → Q (some (.int (-1))) (hq g c1 c2 c3 c4 c5 c6 c7 c8 c9 c10 c11 c12 c13 c14 c15 c16 c17 c18 c19 c20 c21 c22 c23 c24 (hc25 mTy mTm mMn mFn mRn mTn mVn mLr mTr mFl mFm mFp mSc mMp mEn) (hc26 mPa) (hc27 mTo) (hc28 mOt) (hc29 mNa) (hc30 mRe) (hc31 mMa) (hc32 mMy) (hc33 mPm) (hc34 mFy) (hc35 mFa) (hc36 mFr) (hc37 mFo) (hc38 mRt) (hc39 mRm) (hc40 mTt) (hc41 mTi) (hc42 mPl) (hc43 mVr) (hc44 mVf) (hc45 mVc) (hc46 mAr) (hc47 mTc) (hc48 mFt) (hc49 mGo) dyn)) (k1 : (0 ≤ t.toInt ∧ t.toInt < mTy.toInt ∧ t.toInt ≠ 1) ∧ opL mPa mOt mNa mMy mPm mMa mMn t 0 → Q (some (.int (-3))) (hq g c1 c2 c3 c4 c5 c6 c7 c8 c9 c10 c11 c12 c13 c14 c15 c16 c17 c18 c19 c20 c21 c22 c23 c24 (hc25 mTy mTm mMn mFn mRn mTn mVn mLr mTr mFl mFm mFp mSc mMp mEn) (hc26 mPa) (hc27 mTo) (hc28 mOt) (hc29 mNa) (hc30 mRe) (hc31 mMa) (hc32 mMy) (hc33 mPm) (hc34 mFy) (hc35 mFa) (hc36 mFr) (hc37 mFo) (hc38 mRt) (hc39 mRm) (hc40 mTt) (hc41 mTi) (hc42 mPl) (hc43 mVr) (hc44 mVf) (hc45 mVc) (hc46 mAr) (hc47 mTc) (hc48 mFt) (hc49 mGo) dyn)) (k2 : ((0 ≤ t.toInt ∧ t.toInt < mTy.toInt ∧ t.toInt ≠ 1) ∧ ¬ opL mPa mOt mNa mMy mPm mMa mMn t 0) ∧ mTn.toInt = 60 → Q (some (.int (-2))) (hq g c1 c2 c3 c4 c5 c6 c7 c8 c9 c10 c11 c12 c13 c14 c15 c16 c17 c18 c19 c20 c21 c22 c23 c24 (hc25 mTy mTm mMn mFn mRn mTn mVn mLr mTr mFl mFm mFp mSc mMp (-2)) (hc26 mPa) (hc27 mTo) (hc28 mOt) (hc29 mNa) (hc30 mRe) (hc31 mMa) (hc32 mMy) (hc33 mPm) (hc34 mFy) (hc35 mFa) (hc36 mFr) (hc37 mFo) (hc38 mRt) (hc39 mRm) (hc40 mTt) (hc41 mTi) (hc42 mPl) (hc43 mVr) (hc44 mVf) (hc45 mVc) (hc46 mAr) (hc47 mTc) (hc48 mFt) (hc49 mGo) dyn)) (k3 : ((0 ≤ t.toInt ∧ t.toInt < mTy.toInt ∧ t.toInt ≠ 1) ∧ ¬ opL mPa mOt mNa mMy mPm mMa mMn t 0) ∧ mTn.toInt < 60 → Q (some (.int (mTn + 1))) (hq g c1 c2 c3 c4 c5 c6 c7 c8 c9 c10 c11 c12 c13 c14 c15 c16 c17 c18 c19 c20 c21 c22 c23 c24 (hc25 mTy mTm mMn mFn mRn (mTn + 1) mVn mLr mTr mFl mFm mFp mSc mMp 0) (hc26 mPa) (hc27 mTo) (hc28 mOt) (hc29 mNa) (hc30 mRe) (hc31 mMa) (hc32 mMy) (hc33 mPm) (hc34 mFy) (hc35 mFa) (hc36 mFr) (hc37 mFo) (hc38 mRt) (hc39 mRm) (hc40 (upd mTt (mTn + 1).toNatClampNeg t)) (hc41 (upd mTi (mTn + 1).toNatClampNeg 0)) (hc42 (zP mPl (mTn + 1))) (hc43 mVr) (hc44 mVf) (hc45 mVc) (hc46 mAr) (hc47 mTc) (hc48 mFt) (hc49 mGo) dyn)) : pm_WP 171 (0, [(0, .ref 25), (1, .int t)], [], hq g c1 c2 c3 c4 c5 c6 c7 c8 c9 c10 c11 c12 c13 c14 c15 c16 c17 c18 c19 c20 c21 c22 c23 c24 (hc25 mTy mTm mMn mFn mRn mTn mVn mLr mTr mFl mFm mFp mSc mMp mEn) (hc26 mPa) (hc27 mTo) (hc28 mOt) (hc29 mNa) (hc30 mRe) (hc31 mMa) (hc32 mMy) (hc33 mPm) (hc34 mFy) (hc35 mFa) (hc36 mFr) (hc37 mFo) (hc38 mRt) (hc39 mRm) (hc40 mTt) (hc41 mTi) (hc42 mPl) (hc43 mVr) (hc44 mVf) (hc45 mVc) (hc46 mAr) (hc47 mTc) (hc48 mFt) (hc49 mGo) dyn, 0, 0) Q := by
  refine pm_go (g := (1, [(0, .ref 25), (1, .int t)], [.ref 25], hq g c1 c2 c3 c4 c5 c6 c7 c8 c9 c10 c11 c12 c13 c14 c15 c16 c17 c18 c19 c20 c21 c22 c23 c24 (hc25 mTy mTm mMn mFn mRn mTn mVn mLr mTr mFl mFm mFp mSc mMp mEn) (hc26 mPa) (hc27 mTo) (hc28 mOt) (hc29 mNa) (hc30 mRe) (hc31 mMa) (hc32 mMy) (hc33 mPm) (hc34 mFy) (hc35 mFa) (hc36 mFr) (hc37 mFo) (hc38 mRt) (hc39 mRm) (hc40 mTt) (hc41 mTi) (hc42 mPl) (hc43 mVr) (hc44 mVf) (hc45 mVc) (hc46 mAr) (hc47 mTc) (hc48 mFt) (hc49 mGo) dyn, 0, 0)) rfl ?_
  refine pm_go (g := (2, _, [.int t, .ref 25], _, 0, 0)) rfl ?_
  refine pm_callD (z := 130) (as := [.ref 25, .int t]) (rest := []) rfl ?_
  refine w_X12_isOwn t (by omega) (fun h1 => ?_) (fun h2 => ?_)
  ·
    show pm_WP 171 (5, [(0, .ref 25), (1, .int t)], [.int 1], _, 0, 0) _
    refine pm_brT (g := (10, [(0, .ref 25), (1, .int t)], [], hq g c1 c2 c3 c4 c5 c6 c7 c8 c9 c10 c11 c12 c13 c14 c15 c16 c17 c18 c19 c20 c21 c22 c23 c24 (hc25 mTy mTm mMn mFn mRn mTn mVn mLr mTr mFl mFm mFp mSc mMp mEn) (hc26 mPa) (hc27 mTo) (hc28 mOt) (hc29 mNa) (hc30 mRe) (hc31 mMa) (hc32 mMy) (hc33 mPm) (hc34 mFy) (hc35 mFa) (hc36 mFr) (hc37 mFo) (hc38 mRt) (hc39 mRm) (hc40 mTt) (hc41 mTi) (hc42 mPl) (hc43 mVr) (hc44 mVf) (hc45 mVc) (hc46 mAr) (hc47 mTc) (hc48 mFt) (hc49 mGo) dyn, 0, 0)) rfl ?_
    refine pm_go (g := (11, _, [.ref 25], _, 0, 0)) rfl ?_
    refine pm_go (g := (12, _, [.int t, .ref 25], _, 0, 0)) rfl ?_
    refine pm_callD (z := 145) (as := [.ref 25, .int t]) (rest := []) rfl ?_
    refine w_X12_isOpen t (by assumption) (by assumption) (by omega) (fun h4 => ?_) (fun h5 => ?_)
    ·
      show pm_WP 171 (15, [(0, .ref 25), (1, .int t)], [.int 1], _, 0, 0) _
      refine pm_brF (h := (18, [(0, .ref 25), (1, .int t)], [], hq g c1 c2 c3 c4 c5 c6 c7 c8 c9 c10 c11 c12 c13 c14 c15 c16 c17 c18 c19 c20 c21 c22 c23 c24 (hc25 mTy mTm mMn mFn mRn mTn mVn mLr mTr mFl mFm mFp mSc mMp mEn) (hc26 mPa) (hc27 mTo) (hc28 mOt) (hc29 mNa) (hc30 mRe) (hc31 mMa) (hc32 mMy) (hc33 mPm) (hc34 mFy) (hc35 mFa) (hc36 mFr) (hc37 mFo) (hc38 mRt) (hc39 mRm) (hc40 mTt) (hc41 mTi) (hc42 mPl) (hc43 mVr) (hc44 mVf) (hc45 mVc) (hc46 mAr) (hc47 mTc) (hc48 mFt) (hc49 mGo) dyn, 0, 0)) rfl ?_
      refine pm_go (g := (20, _, [.int (-3)], _, 0, 0)) rfl ?_
      first | exact pm_ret rfl (k0 (by omega)) | exact pm_ret rfl (k1 ⟨by omega, by assumption⟩) | exact pm_ret rfl (k2 ⟨⟨by omega, by assumption⟩, by omega⟩) | exact pm_ret rfl (k3 ⟨⟨by omega, by assumption⟩, by omega⟩) | (exfalso; omega)
    show pm_WP 171 (15, [(0, .ref 25), (1, .int t)], [.int 0], hq g c1 c2 c3 c4 c5 c6 c7 c8 c9 c10 c11 c12 c13 c14 c15 c16 c17 c18 c19 c20 c21 c22 c23 c24 (hc25 mTy mTm mMn mFn mRn mTn mVn mLr mTr mFl mFm mFp mSc mMp mEn) (hc26 mPa) (hc27 mTo) (hc28 mOt) (hc29 mNa) (hc30 mRe) (hc31 mMa) (hc32 mMy) (hc33 mPm) (hc34 mFy) (hc35 mFa) (hc36 mFr) (hc37 mFo) (hc38 mRt) (hc39 mRm) (hc40 mTt) (hc41 mTi) (hc42 mPl) (hc43 mVr) (hc44 mVf) (hc45 mVc) (hc46 mAr) (hc47 mTc) (hc48 mFt) (hc49 mGo) dyn, 0, 0) _
    refine pm_brT (g := (21, [(0, .ref 25), (1, .int t)], [], hq g c1 c2 c3 c4 c5 c6 c7 c8 c9 c10 c11 c12 c13 c14 c15 c16 c17 c18 c19 c20 c21 c22 c23 c24 (hc25 mTy mTm mMn mFn mRn mTn mVn mLr mTr mFl mFm mFp mSc mMp mEn) (hc26 mPa) (hc27 mTo) (hc28 mOt) (hc29 mNa) (hc30 mRe) (hc31 mMa) (hc32 mMy) (hc33 mPm) (hc34 mFy) (hc35 mFa) (hc36 mFr) (hc37 mFo) (hc38 mRt) (hc39 mRm) (hc40 mTt) (hc41 mTi) (hc42 mPl) (hc43 mVr) (hc44 mVf) (hc45 mVc) (hc46 mAr) (hc47 mTc) (hc48 mFt) (hc49 mGo) dyn, 0, 0)) rfl ?_
    refine pm_go (g := (22, _, [.ref 25], _, 0, 0)) rfl ?_
    refine pm_go (g := (23, _, [.int 0, .ref 25], _, 0, 0)) rfl ?_
    refine pm_go (g := (26, _, [], hq g c1 c2 c3 c4 c5 c6 c7 c8 c9 c10 c11 c12 c13 c14 c15 c16 c17 c18 c19 c20 c21 c22 c23 c24 (hc25 mTy mTm mMn mFn mRn mTn mVn mLr mTr mFl mFm mFp mSc mMp 0) (hc26 mPa) (hc27 mTo) (hc28 mOt) (hc29 mNa) (hc30 mRe) (hc31 mMa) (hc32 mMy) (hc33 mPm) (hc34 mFy) (hc35 mFa) (hc36 mFr) (hc37 mFo) (hc38 mRt) (hc39 mRm) (hc40 mTt) (hc41 mTi) (hc42 mPl) (hc43 mVr) (hc44 mVf) (hc45 mVc) (hc46 mAr) (hc47 mTc) (hc48 mFt) (hc49 mGo) dyn, 0, 0)) rfl ?_
    refine pm_go (g := (27, _, [.ref 25], _, 0, 0)) rfl ?_
    refine pm_go (g := (28, _, [.int t, .ref 25], _, 0, 0)) rfl ?_
    refine pm_go (g := (29, _, [.int 0, .int t, .ref 25], _, 0, 0)) rfl ?_
    refine pm_callD (z := 169) (as := [.ref 25, .int t, .int 0]) (rest := []) rfl ?_
    have h7 : (0 : Int32).toInt = 0 := by decide
    have h8 : (0 : Int32).toInt = 0 := by decide
    refine w_X12_made t 0 (by omega) (fun h9 => ?_) (fun h10 => ?_) (fun h11 => ?_)
    ·
      show pm_WP 171 (32, [(0, .ref 25), (1, .int t)], [.int 0], _, 0, 0) _
      refine pm_go (g := (33, [(2, .int 0), (0, .ref 25), (1, .int t)], [], _, 0, 0)) rfl ?_
      refine pm_go (g := (34, _, [.ref 25], _, 0, 0)) rfl ?_
      refine pm_go (g := (37, _, [.int 0], _, 0, 0)) rfl ?_
      refine pm_brT (g := (47, [(2, .int 0), (0, .ref 25), (1, .int t)], [], hq g c1 c2 c3 c4 c5 c6 c7 c8 c9 c10 c11 c12 c13 c14 c15 c16 c17 c18 c19 c20 c21 c22 c23 c24 (hc25 mTy mTm mMn mFn mRn mTn mVn mLr mTr mFl mFm mFp mSc mMp 0) (hc26 mPa) (hc27 mTo) (hc28 mOt) (hc29 mNa) (hc30 mRe) (hc31 mMa) (hc32 mMy) (hc33 mPm) (hc34 mFy) (hc35 mFa) (hc36 mFr) (hc37 mFo) (hc38 mRt) (hc39 mRm) (hc40 mTt) (hc41 mTi) (hc42 mPl) (hc43 mVr) (hc44 mVf) (hc45 mVc) (hc46 mAr) (hc47 mTc) (hc48 mFt) (hc49 mGo) dyn, 0, 0)) rfl ?_
      refine pm_go (g := (48, _, [.int 0], _, 0, 0)) rfl ?_
      first | exact pm_ret rfl (k0 (by omega)) | exact pm_ret rfl (k1 ⟨by omega, by assumption⟩) | exact pm_ret rfl (k2 ⟨⟨by omega, by assumption⟩, by omega⟩) | exact pm_ret rfl (k3 ⟨⟨by omega, by assumption⟩, by omega⟩) | (exfalso; omega)
    ·
      show pm_WP 171 (32, [(0, .ref 25), (1, .int t)], [.int 0], hq g c1 c2 c3 c4 c5 c6 c7 c8 c9 c10 c11 c12 c13 c14 c15 c16 c17 c18 c19 c20 c21 c22 c23 c24 (hc25 mTy mTm mMn mFn mRn mTn mVn mLr mTr mFl mFm mFp mSc mMp (-2)) (hc26 mPa) (hc27 mTo) (hc28 mOt) (hc29 mNa) (hc30 mRe) (hc31 mMa) (hc32 mMy) (hc33 mPm) (hc34 mFy) (hc35 mFa) (hc36 mFr) (hc37 mFo) (hc38 mRt) (hc39 mRm) (hc40 mTt) (hc41 mTi) (hc42 mPl) (hc43 mVr) (hc44 mVf) (hc45 mVc) (hc46 mAr) (hc47 mTc) (hc48 mFt) (hc49 mGo) dyn, 0, 0) _
      refine pm_go (g := (33, [(2, .int 0), (0, .ref 25), (1, .int t)], [], _, 0, 0)) rfl ?_
      refine pm_go (g := (34, _, [.ref 25], _, 0, 0)) rfl ?_
      refine pm_go (g := (37, _, [.int (-2)], _, 0, 0)) rfl ?_
      refine pm_brF (h := (40, [(2, .int 0), (0, .ref 25), (1, .int t)], [], hq g c1 c2 c3 c4 c5 c6 c7 c8 c9 c10 c11 c12 c13 c14 c15 c16 c17 c18 c19 c20 c21 c22 c23 c24 (hc25 mTy mTm mMn mFn mRn mTn mVn mLr mTr mFl mFm mFp mSc mMp (-2)) (hc26 mPa) (hc27 mTo) (hc28 mOt) (hc29 mNa) (hc30 mRe) (hc31 mMa) (hc32 mMy) (hc33 mPm) (hc34 mFy) (hc35 mFa) (hc36 mFr) (hc37 mFo) (hc38 mRt) (hc39 mRm) (hc40 mTt) (hc41 mTi) (hc42 mPl) (hc43 mVr) (hc44 mVf) (hc45 mVc) (hc46 mAr) (hc47 mTc) (hc48 mFt) (hc49 mGo) dyn, 0, 0)) rfl ?_
      refine pm_go (g := (41, _, [.ref 25], _, 0, 0)) rfl ?_
      refine pm_go (g := (44, _, [.int (-2)], _, 0, 0)) rfl ?_
      refine pm_go (g := (48, _, [.int (-2)], _, 0, 0)) rfl ?_
      first | exact pm_ret rfl (k0 (by omega)) | exact pm_ret rfl (k1 ⟨by omega, by assumption⟩) | exact pm_ret rfl (k2 ⟨⟨by omega, by assumption⟩, by omega⟩) | exact pm_ret rfl (k3 ⟨⟨by omega, by assumption⟩, by omega⟩) | (exfalso; omega)
    show pm_WP 171 (32, [(0, .ref 25), (1, .int t)], [.int (mTn + 1)], hq g c1 c2 c3 c4 c5 c6 c7 c8 c9 c10 c11 c12 c13 c14 c15 c16 c17 c18 c19 c20 c21 c22 c23 c24 (hc25 mTy mTm mMn mFn mRn (mTn + 1) mVn mLr mTr mFl mFm mFp mSc mMp 0) (hc26 mPa) (hc27 mTo) (hc28 mOt) (hc29 mNa) (hc30 mRe) (hc31 mMa) (hc32 mMy) (hc33 mPm) (hc34 mFy) (hc35 mFa) (hc36 mFr) (hc37 mFo) (hc38 mRt) (hc39 mRm) (hc40 (upd mTt (mTn + 1).toNatClampNeg t)) (hc41 (upd mTi (mTn + 1).toNatClampNeg 0)) (hc42 (zP mPl (mTn + 1))) (hc43 mVr) (hc44 mVf) (hc45 mVc) (hc46 mAr) (hc47 mTc) (hc48 mFt) (hc49 mGo) dyn, 0, 0) _
    refine pm_go (g := (33, [(2, .int (mTn + 1)), (0, .ref 25), (1, .int t)], [], _, 0, 0)) rfl ?_
    refine pm_go (g := (34, _, [.ref 25], _, 0, 0)) rfl ?_
    refine pm_go (g := (37, _, [.int 0], _, 0, 0)) rfl ?_
    refine pm_brT (g := (47, [(2, .int (mTn + 1)), (0, .ref 25), (1, .int t)], [], hq g c1 c2 c3 c4 c5 c6 c7 c8 c9 c10 c11 c12 c13 c14 c15 c16 c17 c18 c19 c20 c21 c22 c23 c24 (hc25 mTy mTm mMn mFn mRn (mTn + 1) mVn mLr mTr mFl mFm mFp mSc mMp 0) (hc26 mPa) (hc27 mTo) (hc28 mOt) (hc29 mNa) (hc30 mRe) (hc31 mMa) (hc32 mMy) (hc33 mPm) (hc34 mFy) (hc35 mFa) (hc36 mFr) (hc37 mFo) (hc38 mRt) (hc39 mRm) (hc40 (upd mTt (mTn + 1).toNatClampNeg t)) (hc41 (upd mTi (mTn + 1).toNatClampNeg 0)) (hc42 (zP mPl (mTn + 1))) (hc43 mVr) (hc44 mVf) (hc45 mVc) (hc46 mAr) (hc47 mTc) (hc48 mFt) (hc49 mGo) dyn, 0, 0)) rfl ?_
    refine pm_go (g := (48, _, [.int (mTn + 1)], _, 0, 0)) rfl ?_
    first | exact pm_ret rfl (k0 (by omega)) | exact pm_ret rfl (k1 ⟨by omega, by assumption⟩) | exact pm_ret rfl (k2 ⟨⟨by omega, by assumption⟩, by omega⟩) | exact pm_ret rfl (k3 ⟨⟨by omega, by assumption⟩, by omega⟩) | (exfalso; omega)
  show pm_WP 171 (5, [(0, .ref 25), (1, .int t)], [.int 0], hq g c1 c2 c3 c4 c5 c6 c7 c8 c9 c10 c11 c12 c13 c14 c15 c16 c17 c18 c19 c20 c21 c22 c23 c24 (hc25 mTy mTm mMn mFn mRn mTn mVn mLr mTr mFl mFm mFp mSc mMp mEn) (hc26 mPa) (hc27 mTo) (hc28 mOt) (hc29 mNa) (hc30 mRe) (hc31 mMa) (hc32 mMy) (hc33 mPm) (hc34 mFy) (hc35 mFa) (hc36 mFr) (hc37 mFo) (hc38 mRt) (hc39 mRm) (hc40 mTt) (hc41 mTi) (hc42 mPl) (hc43 mVr) (hc44 mVf) (hc45 mVc) (hc46 mAr) (hc47 mTc) (hc48 mFt) (hc49 mGo) dyn, 0, 0) _
  refine pm_brF (h := (8, [(0, .ref 25), (1, .int t)], [], hq g c1 c2 c3 c4 c5 c6 c7 c8 c9 c10 c11 c12 c13 c14 c15 c16 c17 c18 c19 c20 c21 c22 c23 c24 (hc25 mTy mTm mMn mFn mRn mTn mVn mLr mTr mFl mFm mFp mSc mMp mEn) (hc26 mPa) (hc27 mTo) (hc28 mOt) (hc29 mNa) (hc30 mRe) (hc31 mMa) (hc32 mMy) (hc33 mPm) (hc34 mFy) (hc35 mFa) (hc36 mFr) (hc37 mFo) (hc38 mRt) (hc39 mRm) (hc40 mTt) (hc41 mTi) (hc42 mPl) (hc43 mVr) (hc44 mVf) (hc45 mVc) (hc46 mAr) (hc47 mTc) (hc48 mFt) (hc49 mGo) dyn, 0, 0)) rfl ?_
  refine pm_go (g := (9, _, [.int (-1)], _, 0, 0)) rfl ?_
  first | exact pm_ret rfl (k0 (by omega)) | exact pm_ret rfl (k1 ⟨by omega, by assumption⟩) | exact pm_ret rfl (k2 ⟨⟨by omega, by assumption⟩, by omega⟩) | exact pm_ret rfl (k3 ⟨⟨by omega, by assumption⟩, by omega⟩) | (exfalso; omega)
set_option maxRecDepth 100000 in
set_option maxHeartbeats 4000000 in
theorem w_X12_box {g c1 c2 c3 c4 c5 c6 c7 c8 c9 c10 c11 c12 c13 c14 c15 c16 c17 c18 c19 c20 c21 c22 c23 c24 : pm_C} {dyn : pm_H} {mTy : Int32} {mPa : Nat → Int32} {mTo : Nat → Int32} {mTm : Int32} {mMn : Int32} {mOt : Nat → Int32} {mNa : Nat → Int32} {mRe : Nat → Int32} {mMa : Nat → Int32} {mMy : Nat → Int32} {mPm : Nat → Int32} {mFn : Int32} {mFy : Nat → Int32} {mFa : Nat → Int32} {mFr : Nat → Int32} {mRn : Int32} {mFo : Nat → Int32} {mRt : Nat → Int32} {mRm : Nat → Int32} {mTn : Int32} {mTt : Nat → Int32} {mTi : Nat → Int32} {mPl : Nat → Int32} {mVn : Int32} {mVr : Nat → Int32} {mVf : Nat → Int32} {mVc : Nat → Int32} {mAr : Nat → Int32} {mLr : Int32} {mTc : Nat → Int32} {mTr : Int32} {mFl : Int32} {mFt : Nat → Int32} {mFm : Int32} {mFp : Int32} {mSc : Int32} {mMp : Int32} {mEn : Int32} {mGo : Nat → Int32} {Q : pm_Q} (v : Int32) (p0 : 0 ≤ mTn.toInt ∧ mTn.toInt ≤ 60) (k0 : mTn.toInt = 60 → Q (some (.int (-2))) (hq g c1 c2 c3 c4 c5 c6 c7 c8 c9 c10 c11 c12 c13 c14 c15 c16 c17 c18 c19 c20 c21 c22 c23 c24 (hc25 mTy mTm mMn mFn mRn mTn mVn mLr mTr mFl mFm mFp mSc mMp (-2)) (hc26 mPa) (hc27 mTo) (hc28 mOt) (hc29 mNa) (hc30 mRe) (hc31 mMa) (hc32 mMy) (hc33 mPm) (hc34 mFy) (hc35 mFa) (hc36 mFr) (hc37 mFo) (hc38 mRt) (hc39 mRm) (hc40 mTt) (hc41 mTi) (hc42 mPl) (hc43 mVr) (hc44 mVf) (hc45 mVc) (hc46 mAr) (hc47 mTc) (hc48 mFt) (hc49 mGo) dyn)) (k1 : mTn.toInt < 60 → Q (some (.int (mTn + 1))) (hq g c1 c2 c3 c4 c5 c6 c7 c8 c9 c10 c11 c12 c13 c14 c15 c16 c17 c18 c19 c20 c21 c22 c23 c24 (hc25 mTy mTm mMn mFn mRn (mTn + 1) mVn mLr mTr mFl mFm mFp mSc mMp 0) (hc26 mPa) (hc27 mTo) (hc28 mOt) (hc29 mNa) (hc30 mRe) (hc31 mMa) (hc32 mMy) (hc33 mPm) (hc34 mFy) (hc35 mFa) (hc36 mFr) (hc37 mFo) (hc38 mRt) (hc39 mRm) (hc40 (upd mTt (mTn + 1).toNatClampNeg 1)) (hc41 (upd mTi (mTn + 1).toNatClampNeg v)) (hc42 (zP mPl (mTn + 1))) (hc43 mVr) (hc44 mVf) (hc45 mVc) (hc46 mAr) (hc47 mTc) (hc48 mFt) (hc49 mGo) dyn)) : pm_WP 172 (0, [(0, .ref 25), (1, .int v)], [], hq g c1 c2 c3 c4 c5 c6 c7 c8 c9 c10 c11 c12 c13 c14 c15 c16 c17 c18 c19 c20 c21 c22 c23 c24 (hc25 mTy mTm mMn mFn mRn mTn mVn mLr mTr mFl mFm mFp mSc mMp mEn) (hc26 mPa) (hc27 mTo) (hc28 mOt) (hc29 mNa) (hc30 mRe) (hc31 mMa) (hc32 mMy) (hc33 mPm) (hc34 mFy) (hc35 mFa) (hc36 mFr) (hc37 mFo) (hc38 mRt) (hc39 mRm) (hc40 mTt) (hc41 mTi) (hc42 mPl) (hc43 mVr) (hc44 mVf) (hc45 mVc) (hc46 mAr) (hc47 mTc) (hc48 mFt) (hc49 mGo) dyn, 0, 0) Q := by
  refine pm_go (g := (1, [(0, .ref 25), (1, .int v)], [.ref 25], hq g c1 c2 c3 c4 c5 c6 c7 c8 c9 c10 c11 c12 c13 c14 c15 c16 c17 c18 c19 c20 c21 c22 c23 c24 (hc25 mTy mTm mMn mFn mRn mTn mVn mLr mTr mFl mFm mFp mSc mMp mEn) (hc26 mPa) (hc27 mTo) (hc28 mOt) (hc29 mNa) (hc30 mRe) (hc31 mMa) (hc32 mMy) (hc33 mPm) (hc34 mFy) (hc35 mFa) (hc36 mFr) (hc37 mFo) (hc38 mRt) (hc39 mRm) (hc40 mTt) (hc41 mTi) (hc42 mPl) (hc43 mVr) (hc44 mVf) (hc45 mVc) (hc46 mAr) (hc47 mTc) (hc48 mFt) (hc49 mGo) dyn, 0, 0)) rfl ?_
  refine pm_go (g := (2, _, [.int 0, .ref 25], _, 0, 0)) rfl ?_
  refine pm_go (g := (5, _, [], hq g c1 c2 c3 c4 c5 c6 c7 c8 c9 c10 c11 c12 c13 c14 c15 c16 c17 c18 c19 c20 c21 c22 c23 c24 (hc25 mTy mTm mMn mFn mRn mTn mVn mLr mTr mFl mFm mFp mSc mMp 0) (hc26 mPa) (hc27 mTo) (hc28 mOt) (hc29 mNa) (hc30 mRe) (hc31 mMa) (hc32 mMy) (hc33 mPm) (hc34 mFy) (hc35 mFa) (hc36 mFr) (hc37 mFo) (hc38 mRt) (hc39 mRm) (hc40 mTt) (hc41 mTi) (hc42 mPl) (hc43 mVr) (hc44 mVf) (hc45 mVc) (hc46 mAr) (hc47 mTc) (hc48 mFt) (hc49 mGo) dyn, 0, 0)) rfl ?_
  refine pm_go (g := (6, _, [.ref 25], _, 0, 0)) rfl ?_
  refine pm_go (g := (7, _, [.int 1, .ref 25], _, 0, 0)) rfl ?_
  refine pm_go (g := (8, _, [.int v, .int 1, .ref 25], _, 0, 0)) rfl ?_
  refine pm_callD (z := 169) (as := [.ref 25, .int 1, .int v]) (rest := []) rfl ?_
  have h1 : (1 : Int32).toInt = 1 := by decide
  have h2 : (0 : Int32).toInt = 0 := by decide
  refine w_X12_made 1 v (by omega) (fun h3 => ?_) (fun h4 => ?_) (fun h5 => ?_)
  ·
    show pm_WP 172 (11, [(0, .ref 25), (1, .int v)], [.int 0], _, 0, 0) _
    refine pm_go (g := (12, [(2, .int 0), (0, .ref 25), (1, .int v)], [], _, 0, 0)) rfl ?_
    refine pm_go (g := (13, _, [.ref 25], _, 0, 0)) rfl ?_
    refine pm_go (g := (16, _, [.int 0], _, 0, 0)) rfl ?_
    refine pm_brT (g := (26, [(2, .int 0), (0, .ref 25), (1, .int v)], [], hq g c1 c2 c3 c4 c5 c6 c7 c8 c9 c10 c11 c12 c13 c14 c15 c16 c17 c18 c19 c20 c21 c22 c23 c24 (hc25 mTy mTm mMn mFn mRn mTn mVn mLr mTr mFl mFm mFp mSc mMp 0) (hc26 mPa) (hc27 mTo) (hc28 mOt) (hc29 mNa) (hc30 mRe) (hc31 mMa) (hc32 mMy) (hc33 mPm) (hc34 mFy) (hc35 mFa) (hc36 mFr) (hc37 mFo) (hc38 mRt) (hc39 mRm) (hc40 mTt) (hc41 mTi) (hc42 mPl) (hc43 mVr) (hc44 mVf) (hc45 mVc) (hc46 mAr) (hc47 mTc) (hc48 mFt) (hc49 mGo) dyn, 0, 0)) rfl ?_
    refine pm_go (g := (27, _, [.int 0], _, 0, 0)) rfl ?_
    first | exact pm_ret rfl (k0 (by omega)) | exact pm_ret rfl (k1 (by omega)) | (exfalso; omega)
  ·
    show pm_WP 172 (11, [(0, .ref 25), (1, .int v)], [.int 0], hq g c1 c2 c3 c4 c5 c6 c7 c8 c9 c10 c11 c12 c13 c14 c15 c16 c17 c18 c19 c20 c21 c22 c23 c24 (hc25 mTy mTm mMn mFn mRn mTn mVn mLr mTr mFl mFm mFp mSc mMp (-2)) (hc26 mPa) (hc27 mTo) (hc28 mOt) (hc29 mNa) (hc30 mRe) (hc31 mMa) (hc32 mMy) (hc33 mPm) (hc34 mFy) (hc35 mFa) (hc36 mFr) (hc37 mFo) (hc38 mRt) (hc39 mRm) (hc40 mTt) (hc41 mTi) (hc42 mPl) (hc43 mVr) (hc44 mVf) (hc45 mVc) (hc46 mAr) (hc47 mTc) (hc48 mFt) (hc49 mGo) dyn, 0, 0) _
    refine pm_go (g := (12, [(2, .int 0), (0, .ref 25), (1, .int v)], [], _, 0, 0)) rfl ?_
    refine pm_go (g := (13, _, [.ref 25], _, 0, 0)) rfl ?_
    refine pm_go (g := (16, _, [.int (-2)], _, 0, 0)) rfl ?_
    refine pm_brF (h := (19, [(2, .int 0), (0, .ref 25), (1, .int v)], [], hq g c1 c2 c3 c4 c5 c6 c7 c8 c9 c10 c11 c12 c13 c14 c15 c16 c17 c18 c19 c20 c21 c22 c23 c24 (hc25 mTy mTm mMn mFn mRn mTn mVn mLr mTr mFl mFm mFp mSc mMp (-2)) (hc26 mPa) (hc27 mTo) (hc28 mOt) (hc29 mNa) (hc30 mRe) (hc31 mMa) (hc32 mMy) (hc33 mPm) (hc34 mFy) (hc35 mFa) (hc36 mFr) (hc37 mFo) (hc38 mRt) (hc39 mRm) (hc40 mTt) (hc41 mTi) (hc42 mPl) (hc43 mVr) (hc44 mVf) (hc45 mVc) (hc46 mAr) (hc47 mTc) (hc48 mFt) (hc49 mGo) dyn, 0, 0)) rfl ?_
    refine pm_go (g := (20, _, [.ref 25], _, 0, 0)) rfl ?_
    refine pm_go (g := (23, _, [.int (-2)], _, 0, 0)) rfl ?_
    refine pm_go (g := (27, _, [.int (-2)], _, 0, 0)) rfl ?_
    first | exact pm_ret rfl (k0 (by omega)) | exact pm_ret rfl (k1 (by omega)) | (exfalso; omega)
  show pm_WP 172 (11, [(0, .ref 25), (1, .int v)], [.int (mTn + 1)], hq g c1 c2 c3 c4 c5 c6 c7 c8 c9 c10 c11 c12 c13 c14 c15 c16 c17 c18 c19 c20 c21 c22 c23 c24 (hc25 mTy mTm mMn mFn mRn (mTn + 1) mVn mLr mTr mFl mFm mFp mSc mMp 0) (hc26 mPa) (hc27 mTo) (hc28 mOt) (hc29 mNa) (hc30 mRe) (hc31 mMa) (hc32 mMy) (hc33 mPm) (hc34 mFy) (hc35 mFa) (hc36 mFr) (hc37 mFo) (hc38 mRt) (hc39 mRm) (hc40 (upd mTt (mTn + 1).toNatClampNeg 1)) (hc41 (upd mTi (mTn + 1).toNatClampNeg v)) (hc42 (zP mPl (mTn + 1))) (hc43 mVr) (hc44 mVf) (hc45 mVc) (hc46 mAr) (hc47 mTc) (hc48 mFt) (hc49 mGo) dyn, 0, 0) _
  refine pm_go (g := (12, [(2, .int (mTn + 1)), (0, .ref 25), (1, .int v)], [], _, 0, 0)) rfl ?_
  refine pm_go (g := (13, _, [.ref 25], _, 0, 0)) rfl ?_
  refine pm_go (g := (16, _, [.int 0], _, 0, 0)) rfl ?_
  refine pm_brT (g := (26, [(2, .int (mTn + 1)), (0, .ref 25), (1, .int v)], [], hq g c1 c2 c3 c4 c5 c6 c7 c8 c9 c10 c11 c12 c13 c14 c15 c16 c17 c18 c19 c20 c21 c22 c23 c24 (hc25 mTy mTm mMn mFn mRn (mTn + 1) mVn mLr mTr mFl mFm mFp mSc mMp 0) (hc26 mPa) (hc27 mTo) (hc28 mOt) (hc29 mNa) (hc30 mRe) (hc31 mMa) (hc32 mMy) (hc33 mPm) (hc34 mFy) (hc35 mFa) (hc36 mFr) (hc37 mFo) (hc38 mRt) (hc39 mRm) (hc40 (upd mTt (mTn + 1).toNatClampNeg 1)) (hc41 (upd mTi (mTn + 1).toNatClampNeg v)) (hc42 (zP mPl (mTn + 1))) (hc43 mVr) (hc44 mVf) (hc45 mVc) (hc46 mAr) (hc47 mTc) (hc48 mFt) (hc49 mGo) dyn, 0, 0)) rfl ?_
  refine pm_go (g := (27, _, [.int (mTn + 1)], _, 0, 0)) rfl ?_
  first | exact pm_ret rfl (k0 (by omega)) | exact pm_ret rfl (k1 (by omega)) | (exfalso; omega)
set_option maxRecDepth 100000 in
set_option maxHeartbeats 4000000 in
theorem w_X12_place {g c1 c2 c3 c4 c5 c6 c7 c8 c9 c10 c11 c12 c13 c14 c15 c16 c17 c18 c19 c20 c21 c22 c23 c24 : pm_C} {dyn : pm_H} {mTy : Int32} {mPa : Nat → Int32} {mTo : Nat → Int32} {mTm : Int32} {mMn : Int32} {mOt : Nat → Int32} {mNa : Nat → Int32} {mRe : Nat → Int32} {mMa : Nat → Int32} {mMy : Nat → Int32} {mPm : Nat → Int32} {mFn : Int32} {mFy : Nat → Int32} {mFa : Nat → Int32} {mFr : Nat → Int32} {mRn : Int32} {mFo : Nat → Int32} {mRt : Nat → Int32} {mRm : Nat → Int32} {mTn : Int32} {mTt : Nat → Int32} {mTi : Nat → Int32} {mPl : Nat → Int32} {mVn : Int32} {mVr : Nat → Int32} {mVf : Nat → Int32} {mVc : Nat → Int32} {mAr : Nat → Int32} {mLr : Int32} {mTc : Nat → Int32} {mTr : Int32} {mFl : Int32} {mFt : Nat → Int32} {mFm : Int32} {mFp : Int32} {mSc : Int32} {mMp : Int32} {mEn : Int32} {mGo : Nat → Int32} {Q : pm_Q} (r : Int32) (i : Int32) (p0 : 0 ≤ mTn.toInt ∧ mTn.toInt ≤ 60) (p1 : (1 ≤ r.toInt ∧ r.toInt ≤ mTn.toInt ∧ 20 ≤ (mTt r.toNatClampNeg).toInt) → (0 ≤ (mTi r.toNatClampNeg).toInt ∧ (mTi r.toNatClampNeg).toInt ≤ 20)) (k0 : ((1 ≤ r.toInt ∧ r.toInt ≤ mTn.toInt) ∧ 20 ≤ (mTt r.toNatClampNeg).toInt ∧ 0 ≤ i.toInt ∧ i.toInt < (mTi r.toNatClampNeg).toInt) → Q (some (.int (mPl (20 * r + i).toNatClampNeg))) (hq g c1 c2 c3 c4 c5 c6 c7 c8 c9 c10 c11 c12 c13 c14 c15 c16 c17 c18 c19 c20 c21 c22 c23 c24 (hc25 mTy mTm mMn mFn mRn mTn mVn mLr mTr mFl mFm mFp mSc mMp mEn) (hc26 mPa) (hc27 mTo) (hc28 mOt) (hc29 mNa) (hc30 mRe) (hc31 mMa) (hc32 mMy) (hc33 mPm) (hc34 mFy) (hc35 mFa) (hc36 mFr) (hc37 mFo) (hc38 mRt) (hc39 mRm) (hc40 mTt) (hc41 mTi) (hc42 mPl) (hc43 mVr) (hc44 mVf) (hc45 mVc) (hc46 mAr) (hc47 mTc) (hc48 mFt) (hc49 mGo) dyn)) (k1 : ¬ ((1 ≤ r.toInt ∧ r.toInt ≤ mTn.toInt) ∧ 20 ≤ (mTt r.toNatClampNeg).toInt ∧ 0 ≤ i.toInt ∧ i.toInt < (mTi r.toNatClampNeg).toInt) → Q (some (.int (-1))) (hq g c1 c2 c3 c4 c5 c6 c7 c8 c9 c10 c11 c12 c13 c14 c15 c16 c17 c18 c19 c20 c21 c22 c23 c24 (hc25 mTy mTm mMn mFn mRn mTn mVn mLr mTr mFl mFm mFp mSc mMp mEn) (hc26 mPa) (hc27 mTo) (hc28 mOt) (hc29 mNa) (hc30 mRe) (hc31 mMa) (hc32 mMy) (hc33 mPm) (hc34 mFy) (hc35 mFa) (hc36 mFr) (hc37 mFo) (hc38 mRt) (hc39 mRm) (hc40 mTt) (hc41 mTi) (hc42 mPl) (hc43 mVr) (hc44 mVf) (hc45 mVc) (hc46 mAr) (hc47 mTc) (hc48 mFt) (hc49 mGo) dyn)) : pm_WP 174 (0, [(0, .ref 25), (1, .int r), (2, .int i)], [], hq g c1 c2 c3 c4 c5 c6 c7 c8 c9 c10 c11 c12 c13 c14 c15 c16 c17 c18 c19 c20 c21 c22 c23 c24 (hc25 mTy mTm mMn mFn mRn mTn mVn mLr mTr mFl mFm mFp mSc mMp mEn) (hc26 mPa) (hc27 mTo) (hc28 mOt) (hc29 mNa) (hc30 mRe) (hc31 mMa) (hc32 mMy) (hc33 mPm) (hc34 mFy) (hc35 mFa) (hc36 mFr) (hc37 mFo) (hc38 mRt) (hc39 mRm) (hc40 mTt) (hc41 mTi) (hc42 mPl) (hc43 mVr) (hc44 mVf) (hc45 mVc) (hc46 mAr) (hc47 mTc) (hc48 mFt) (hc49 mGo) dyn, 0, 0) Q := by
  refine pm_go (g := (1, [(0, .ref 25), (1, .int r), (2, .int i)], [.ref 25], hq g c1 c2 c3 c4 c5 c6 c7 c8 c9 c10 c11 c12 c13 c14 c15 c16 c17 c18 c19 c20 c21 c22 c23 c24 (hc25 mTy mTm mMn mFn mRn mTn mVn mLr mTr mFl mFm mFp mSc mMp mEn) (hc26 mPa) (hc27 mTo) (hc28 mOt) (hc29 mNa) (hc30 mRe) (hc31 mMa) (hc32 mMy) (hc33 mPm) (hc34 mFy) (hc35 mFa) (hc36 mFr) (hc37 mFo) (hc38 mRt) (hc39 mRm) (hc40 mTt) (hc41 mTi) (hc42 mPl) (hc43 mVr) (hc44 mVf) (hc45 mVc) (hc46 mAr) (hc47 mTc) (hc48 mFt) (hc49 mGo) dyn, 0, 0)) rfl ?_
  refine pm_go (g := (2, _, [.int r, .ref 25], _, 0, 0)) rfl ?_
  refine pm_callD (z := 170) (as := [.ref 25, .int r]) (rest := []) rfl ?_
  refine w_X12_isThing r (fun h1 => ?_) (fun h2 => ?_)
  ·
    show pm_WP 174 (5, [(0, .ref 25), (1, .int r), (2, .int i)], [.int 1], _, 0, 0) _
    refine pm_brF (h := (8, [(0, .ref 25), (1, .int r), (2, .int i)], [], hq g c1 c2 c3 c4 c5 c6 c7 c8 c9 c10 c11 c12 c13 c14 c15 c16 c17 c18 c19 c20 c21 c22 c23 c24 (hc25 mTy mTm mMn mFn mRn mTn mVn mLr mTr mFl mFm mFp mSc mMp mEn) (hc26 mPa) (hc27 mTo) (hc28 mOt) (hc29 mNa) (hc30 mRe) (hc31 mMa) (hc32 mMy) (hc33 mPm) (hc34 mFy) (hc35 mFa) (hc36 mFr) (hc37 mFo) (hc38 mRt) (hc39 mRm) (hc40 mTt) (hc41 mTi) (hc42 mPl) (hc43 mVr) (hc44 mVf) (hc45 mVc) (hc46 mAr) (hc47 mTc) (hc48 mFt) (hc49 mGo) dyn, 0, 0)) rfl ?_
    refine pm_go (g := (9, _, [.ref 25], _, 0, 0)) rfl ?_
    refine pm_go (g := (12, _, [.ref 40], _, 0, 0)) rfl ?_
    refine pm_go (g := (13, _, [.int r, .ref 40], _, 0, 0)) rfl ?_
    refine pm_sd (g := (14, _, [.int (mTt (r).toNatClampNeg)], _, 0, 0)) rfl (pm_inI (by omega) (by omega)) ?_
    refine pm_go (g := (16, _, [.int 20, .int (mTt (r).toNatClampNeg)], _, 0, 0)) rfl ?_
    refine pm_if2 (g := (49, [(0, .ref 25), (1, .int r), (2, .int i)], [], hq g c1 c2 c3 c4 c5 c6 c7 c8 c9 c10 c11 c12 c13 c14 c15 c16 c17 c18 c19 c20 c21 c22 c23 c24 (hc25 mTy mTm mMn mFn mRn mTn mVn mLr mTr mFl mFm mFp mSc mMp mEn) (hc26 mPa) (hc27 mTo) (hc28 mOt) (hc29 mNa) (hc30 mRe) (hc31 mMa) (hc32 mMy) (hc33 mPm) (hc34 mFy) (hc35 mFa) (hc36 mFr) (hc37 mFo) (hc38 mRt) (hc39 mRm) (hc40 mTt) (hc41 mTi) (hc42 mPl) (hc43 mVr) (hc44 mVf) (hc45 mVc) (hc46 mAr) (hc47 mTc) (hc48 mFt) (hc49 mGo) dyn, 0, 0)) (h := (19, [(0, .ref 25), (1, .int r), (2, .int i)], [], hq g c1 c2 c3 c4 c5 c6 c7 c8 c9 c10 c11 c12 c13 c14 c15 c16 c17 c18 c19 c20 c21 c22 c23 c24 (hc25 mTy mTm mMn mFn mRn mTn mVn mLr mTr mFl mFm mFp mSc mMp mEn) (hc26 mPa) (hc27 mTo) (hc28 mOt) (hc29 mNa) (hc30 mRe) (hc31 mMa) (hc32 mMy) (hc33 mPm) (hc34 mFy) (hc35 mFa) (hc36 mFr) (hc37 mFo) (hc38 mRt) (hc39 mRm) (hc40 mTt) (hc41 mTi) (hc42 mPl) (hc43 mVr) (hc44 mVf) (hc45 mVc) (hc46 mAr) (hc47 mTc) (hc48 mFt) (hc49 mGo) dyn, 0, 0)) rfl (fun h4 => ?_) (fun h4 => ?_)
    ·
      have h4 := qT_lt (cx := (mTt (r).toNatClampNeg).toInt) (cy := 20) rfl (by decide) h4
      refine pm_go (g := (50, _, [.int (-1)], _, 0, 0)) rfl ?_
      first | exact pm_ret rfl (k0 (by omega)) | exact pm_ret rfl (k1 (by omega)) | (exfalso; omega)
    have h4 := qF_lt (cx := (mTt (r).toNatClampNeg).toInt) (cy := 20) rfl (by decide) h4
    refine pm_go (g := (20, _, [.int i], _, 0, 0)) rfl ?_
    refine pm_go (g := (21, _, [.int 0, .int i], _, 0, 0)) rfl ?_
    refine pm_go (g := (22, _, [.ref 25, .int 0, .int i], _, 0, 0)) rfl ?_
    refine pm_go (g := (25, _, [.ref 41, .int 0, .int i], _, 0, 0)) rfl ?_
    refine pm_go (g := (26, _, [.int r, .ref 41, .int 0, .int i], _, 0, 0)) rfl ?_
    refine pm_sd (g := (27, _, [.int (mTi (r).toNatClampNeg), .int 0, .int i], _, 0, 0)) rfl (pm_inI (by omega) (by omega)) ?_
    refine pm_go (g := (28, _, [.int 1, .int (mTi (r).toNatClampNeg), .int 0, .int i], _, 0, 0)) rfl ?_
    refine pm_go (g := (29, _, [.int ((mTi (r).toNatClampNeg) - 1), .int 0, .int i], _, 0, 0)) rfl ?_
    try have h5 : ((mTi (r).toNatClampNeg) - 1).toInt = (mTi (r).toNatClampNeg).toInt - 1 := iSub (x := (mTi (r).toNatClampNeg).toInt) (y := 1) rfl (by decide) (by omega) (by omega)
    refine pm_callD (z := 128) (as := [.int i, .int 0, .int ((mTi (r).toNatClampNeg) - 1)]) (rest := []) rfl ?_
    have h6 : (0 : Int32).toInt = 0 := by decide
    refine w_X12_isIn i 0 ((mTi (r).toNatClampNeg) - 1) (fun h7 => ?_) (fun h8 => ?_)
    ·
      show pm_WP 174 (32, [(0, .ref 25), (1, .int r), (2, .int i)], [.int 1], _, 0, 0) _
      refine pm_brF (h := (35, [(0, .ref 25), (1, .int r), (2, .int i)], [], hq g c1 c2 c3 c4 c5 c6 c7 c8 c9 c10 c11 c12 c13 c14 c15 c16 c17 c18 c19 c20 c21 c22 c23 c24 (hc25 mTy mTm mMn mFn mRn mTn mVn mLr mTr mFl mFm mFp mSc mMp mEn) (hc26 mPa) (hc27 mTo) (hc28 mOt) (hc29 mNa) (hc30 mRe) (hc31 mMa) (hc32 mMy) (hc33 mPm) (hc34 mFy) (hc35 mFa) (hc36 mFr) (hc37 mFo) (hc38 mRt) (hc39 mRm) (hc40 mTt) (hc41 mTi) (hc42 mPl) (hc43 mVr) (hc44 mVf) (hc45 mVc) (hc46 mAr) (hc47 mTc) (hc48 mFt) (hc49 mGo) dyn, 0, 0)) rfl ?_
      refine pm_go (g := (36, _, [.ref 25], _, 0, 0)) rfl ?_
      refine pm_go (g := (39, _, [.ref 42], _, 0, 0)) rfl ?_
      refine pm_go (g := (41, _, [.int 20, .ref 42], _, 0, 0)) rfl ?_
      refine pm_go (g := (42, _, [.int r, .int 20, .ref 42], _, 0, 0)) rfl ?_
      refine pm_go (g := (43, _, [.int (20 * r), .ref 42], _, 0, 0)) rfl ?_
      try have h10 : (20 * r).toInt = 20 * (r).toInt := iMul (x := 20) (y := (r).toInt) (by decide) rfl (by omega) (by omega)
      refine pm_go (g := (44, _, [.int i, .int (20 * r), .ref 42], _, 0, 0)) rfl ?_
      refine pm_go (g := (45, _, [.int ((20 * r) + i), .ref 42], _, 0, 0)) rfl ?_
      try have h11 : ((20 * r) + i).toInt = (20 * r).toInt + (i).toInt := iAdd (x := (20 * r).toInt) (y := (i).toInt) rfl rfl (by omega) (by omega)
      refine pm_sd (g := (46, _, [.int (mPl ((20 * r) + i).toNatClampNeg)], _, 0, 0)) rfl (pm_inI (by omega) (by omega)) ?_
      refine pm_go (g := (50, _, [.int (mPl ((20 * r) + i).toNatClampNeg)], _, 0, 0)) rfl ?_
      first | exact pm_ret rfl (k0 (by omega)) | exact pm_ret rfl (k1 (by omega)) | (exfalso; omega)
    show pm_WP 174 (32, [(0, .ref 25), (1, .int r), (2, .int i)], [.int 0], hq g c1 c2 c3 c4 c5 c6 c7 c8 c9 c10 c11 c12 c13 c14 c15 c16 c17 c18 c19 c20 c21 c22 c23 c24 (hc25 mTy mTm mMn mFn mRn mTn mVn mLr mTr mFl mFm mFp mSc mMp mEn) (hc26 mPa) (hc27 mTo) (hc28 mOt) (hc29 mNa) (hc30 mRe) (hc31 mMa) (hc32 mMy) (hc33 mPm) (hc34 mFy) (hc35 mFa) (hc36 mFr) (hc37 mFo) (hc38 mRt) (hc39 mRm) (hc40 mTt) (hc41 mTi) (hc42 mPl) (hc43 mVr) (hc44 mVf) (hc45 mVc) (hc46 mAr) (hc47 mTc) (hc48 mFt) (hc49 mGo) dyn, 0, 0) _
    refine pm_brT (g := (49, [(0, .ref 25), (1, .int r), (2, .int i)], [], hq g c1 c2 c3 c4 c5 c6 c7 c8 c9 c10 c11 c12 c13 c14 c15 c16 c17 c18 c19 c20 c21 c22 c23 c24 (hc25 mTy mTm mMn mFn mRn mTn mVn mLr mTr mFl mFm mFp mSc mMp mEn) (hc26 mPa) (hc27 mTo) (hc28 mOt) (hc29 mNa) (hc30 mRe) (hc31 mMa) (hc32 mMy) (hc33 mPm) (hc34 mFy) (hc35 mFa) (hc36 mFr) (hc37 mFo) (hc38 mRt) (hc39 mRm) (hc40 mTt) (hc41 mTi) (hc42 mPl) (hc43 mVr) (hc44 mVf) (hc45 mVc) (hc46 mAr) (hc47 mTc) (hc48 mFt) (hc49 mGo) dyn, 0, 0)) rfl ?_
    refine pm_go (g := (50, _, [.int (-1)], _, 0, 0)) rfl ?_
    first | exact pm_ret rfl (k0 (by omega)) | exact pm_ret rfl (k1 (by omega)) | (exfalso; omega)
  show pm_WP 174 (5, [(0, .ref 25), (1, .int r), (2, .int i)], [.int 0], hq g c1 c2 c3 c4 c5 c6 c7 c8 c9 c10 c11 c12 c13 c14 c15 c16 c17 c18 c19 c20 c21 c22 c23 c24 (hc25 mTy mTm mMn mFn mRn mTn mVn mLr mTr mFl mFm mFp mSc mMp mEn) (hc26 mPa) (hc27 mTo) (hc28 mOt) (hc29 mNa) (hc30 mRe) (hc31 mMa) (hc32 mMy) (hc33 mPm) (hc34 mFy) (hc35 mFa) (hc36 mFr) (hc37 mFo) (hc38 mRt) (hc39 mRm) (hc40 mTt) (hc41 mTi) (hc42 mPl) (hc43 mVr) (hc44 mVf) (hc45 mVc) (hc46 mAr) (hc47 mTc) (hc48 mFt) (hc49 mGo) dyn, 0, 0) _
  refine pm_brT (g := (49, [(0, .ref 25), (1, .int r), (2, .int i)], [], hq g c1 c2 c3 c4 c5 c6 c7 c8 c9 c10 c11 c12 c13 c14 c15 c16 c17 c18 c19 c20 c21 c22 c23 c24 (hc25 mTy mTm mMn mFn mRn mTn mVn mLr mTr mFl mFm mFp mSc mMp mEn) (hc26 mPa) (hc27 mTo) (hc28 mOt) (hc29 mNa) (hc30 mRe) (hc31 mMa) (hc32 mMy) (hc33 mPm) (hc34 mFy) (hc35 mFa) (hc36 mFr) (hc37 mFo) (hc38 mRt) (hc39 mRm) (hc40 mTt) (hc41 mTi) (hc42 mPl) (hc43 mVr) (hc44 mVf) (hc45 mVc) (hc46 mAr) (hc47 mTc) (hc48 mFt) (hc49 mGo) dyn, 0, 0)) rfl ?_
  refine pm_go (g := (50, _, [.int (-1)], _, 0, 0)) rfl ?_
  first | exact pm_ret rfl (k0 (by omega)) | exact pm_ret rfl (k1 (by omega)) | (exfalso; omega)
set_option maxRecDepth 100000 in
set_option maxHeartbeats 4000000 in
theorem w_X12_reference {g c1 c2 c3 c4 c5 c6 c7 c8 c9 c10 c11 c12 c13 c14 c15 c16 c17 c18 c19 c20 c21 c22 c23 c24 : pm_C} {dyn : pm_H} {mTy : Int32} {mPa : Nat → Int32} {mTo : Nat → Int32} {mTm : Int32} {mMn : Int32} {mOt : Nat → Int32} {mNa : Nat → Int32} {mRe : Nat → Int32} {mMa : Nat → Int32} {mMy : Nat → Int32} {mPm : Nat → Int32} {mFn : Int32} {mFy : Nat → Int32} {mFa : Nat → Int32} {mFr : Nat → Int32} {mRn : Int32} {mFo : Nat → Int32} {mRt : Nat → Int32} {mRm : Nat → Int32} {mTn : Int32} {mTt : Nat → Int32} {mTi : Nat → Int32} {mPl : Nat → Int32} {mVn : Int32} {mVr : Nat → Int32} {mVf : Nat → Int32} {mVc : Nat → Int32} {mAr : Nat → Int32} {mLr : Int32} {mTc : Nat → Int32} {mTr : Int32} {mFl : Int32} {mFt : Nat → Int32} {mFm : Int32} {mFp : Int32} {mSc : Int32} {mMp : Int32} {mEn : Int32} {mGo : Nat → Int32} {Q : pm_Q} (f : Int32) (t : Int32) (w : Int32) (p0 : 2 ≤ mTy.toInt ∧ mTy.toInt ≤ 10) (p1 : 0 ≤ mRn.toInt ∧ mRn.toInt ≤ 30) (k0 : ¬ ((0 ≤ f.toInt ∧ f.toInt ≤ 4) ∧ ((f.toInt < 2 ∧ (0 ≤ t.toInt ∧ t.toInt < mTy.toInt)) ∨ (f.toInt = 2 ∧ (0 ≤ t.toInt ∧ t.toInt < mTy.toInt) ∧ t.toInt ≠ 0) ∨ (f.toInt = 3 ∧ (0 ≤ t.toInt ∧ t.toInt < mTy.toInt ∧ t.toInt ≠ 1)) ∨ (f.toInt = 4 ∧ ((0 ≤ t.toInt ∧ t.toInt < mTy.toInt) ∨ t.toInt = 10))) ∧ (3 ≤ f.toInt ∨ (0 ≤ w.toInt ∧ w.toInt ≤ 5))) → Q (some (.int (-1))) (hq g c1 c2 c3 c4 c5 c6 c7 c8 c9 c10 c11 c12 c13 c14 c15 c16 c17 c18 c19 c20 c21 c22 c23 c24 (hc25 mTy mTm mMn mFn mRn mTn mVn mLr mTr mFl mFm mFp mSc mMp mEn) (hc26 mPa) (hc27 mTo) (hc28 mOt) (hc29 mNa) (hc30 mRe) (hc31 mMa) (hc32 mMy) (hc33 mPm) (hc34 mFy) (hc35 mFa) (hc36 mFr) (hc37 mFo) (hc38 mRt) (hc39 mRm) (hc40 mTt) (hc41 mTi) (hc42 mPl) (hc43 mVr) (hc44 mVf) (hc45 mVc) (hc46 mAr) (hc47 mTc) (hc48 mFt) (hc49 mGo) dyn)) (k1 : ((0 ≤ f.toInt ∧ f.toInt ≤ 4) ∧ ((f.toInt < 2 ∧ (0 ≤ t.toInt ∧ t.toInt < mTy.toInt)) ∨ (f.toInt = 2 ∧ (0 ≤ t.toInt ∧ t.toInt < mTy.toInt) ∧ t.toInt ≠ 0) ∨ (f.toInt = 3 ∧ (0 ≤ t.toInt ∧ t.toInt < mTy.toInt ∧ t.toInt ≠ 1)) ∨ (f.toInt = 4 ∧ ((0 ≤ t.toInt ∧ t.toInt < mTy.toInt) ∨ t.toInt = 10))) ∧ (3 ≤ f.toInt ∨ (0 ≤ w.toInt ∧ w.toInt ≤ 5))) ∧ mRn.toInt = 30 → Q (some (.int (-2))) (hq g c1 c2 c3 c4 c5 c6 c7 c8 c9 c10 c11 c12 c13 c14 c15 c16 c17 c18 c19 c20 c21 c22 c23 c24 (hc25 mTy mTm mMn mFn mRn mTn mVn mLr mTr mFl mFm mFp mSc mMp mEn) (hc26 mPa) (hc27 mTo) (hc28 mOt) (hc29 mNa) (hc30 mRe) (hc31 mMa) (hc32 mMy) (hc33 mPm) (hc34 mFy) (hc35 mFa) (hc36 mFr) (hc37 mFo) (hc38 mRt) (hc39 mRm) (hc40 mTt) (hc41 mTi) (hc42 mPl) (hc43 mVr) (hc44 mVf) (hc45 mVc) (hc46 mAr) (hc47 mTc) (hc48 mFt) (hc49 mGo) dyn)) (k2 : ((0 ≤ f.toInt ∧ f.toInt ≤ 4) ∧ ((f.toInt < 2 ∧ (0 ≤ t.toInt ∧ t.toInt < mTy.toInt)) ∨ (f.toInt = 2 ∧ (0 ≤ t.toInt ∧ t.toInt < mTy.toInt) ∧ t.toInt ≠ 0) ∨ (f.toInt = 3 ∧ (0 ≤ t.toInt ∧ t.toInt < mTy.toInt ∧ t.toInt ≠ 1)) ∨ (f.toInt = 4 ∧ ((0 ≤ t.toInt ∧ t.toInt < mTy.toInt) ∨ t.toInt = 10))) ∧ (3 ≤ f.toInt ∨ (0 ≤ w.toInt ∧ w.toInt ≤ 5))) ∧ mRn.toInt < 30 → Q (some (.int (mRn + 1 - 1))) (hq g c1 c2 c3 c4 c5 c6 c7 c8 c9 c10 c11 c12 c13 c14 c15 c16 c17 c18 c19 c20 c21 c22 c23 c24 (hc25 mTy mTm mMn mFn (mRn + 1) mTn mVn mLr mTr mFl mFm mFp mSc mMp mEn) (hc26 mPa) (hc27 mTo) (hc28 mOt) (hc29 mNa) (hc30 mRe) (hc31 mMa) (hc32 mMy) (hc33 mPm) (hc34 mFy) (hc35 mFa) (hc36 mFr) (hc37 (upd mFo mRn.toNatClampNeg f)) (hc38 (upd mRt mRn.toNatClampNeg t)) (hc39 (upd mRm mRn.toNatClampNeg w)) (hc40 mTt) (hc41 mTi) (hc42 mPl) (hc43 mVr) (hc44 mVf) (hc45 mVc) (hc46 mAr) (hc47 mTc) (hc48 mFt) (hc49 mGo) dyn)) : pm_WP 163 (0, [(0, .ref 25), (1, .int f), (2, .int t), (3, .int w)], [], hq g c1 c2 c3 c4 c5 c6 c7 c8 c9 c10 c11 c12 c13 c14 c15 c16 c17 c18 c19 c20 c21 c22 c23 c24 (hc25 mTy mTm mMn mFn mRn mTn mVn mLr mTr mFl mFm mFp mSc mMp mEn) (hc26 mPa) (hc27 mTo) (hc28 mOt) (hc29 mNa) (hc30 mRe) (hc31 mMa) (hc32 mMy) (hc33 mPm) (hc34 mFy) (hc35 mFa) (hc36 mFr) (hc37 mFo) (hc38 mRt) (hc39 mRm) (hc40 mTt) (hc41 mTi) (hc42 mPl) (hc43 mVr) (hc44 mVf) (hc45 mVc) (hc46 mAr) (hc47 mTc) (hc48 mFt) (hc49 mGo) dyn, 0, 0) Q := by
  refine pm_go (g := (1, [(0, .ref 25), (1, .int f), (2, .int t), (3, .int w)], [.int f], hq g c1 c2 c3 c4 c5 c6 c7 c8 c9 c10 c11 c12 c13 c14 c15 c16 c17 c18 c19 c20 c21 c22 c23 c24 (hc25 mTy mTm mMn mFn mRn mTn mVn mLr mTr mFl mFm mFp mSc mMp mEn) (hc26 mPa) (hc27 mTo) (hc28 mOt) (hc29 mNa) (hc30 mRe) (hc31 mMa) (hc32 mMy) (hc33 mPm) (hc34 mFy) (hc35 mFa) (hc36 mFr) (hc37 mFo) (hc38 mRt) (hc39 mRm) (hc40 mTt) (hc41 mTi) (hc42 mPl) (hc43 mVr) (hc44 mVf) (hc45 mVc) (hc46 mAr) (hc47 mTc) (hc48 mFt) (hc49 mGo) dyn, 0, 0)) rfl ?_
  refine pm_go (g := (2, _, [.int 0, .int f], _, 0, 0)) rfl ?_
  refine pm_go (g := (3, _, [.int 4, .int 0, .int f], _, 0, 0)) rfl ?_
  refine pm_callD (z := 128) (as := [.int f, .int 0, .int 4]) (rest := []) rfl ?_
  have h1 : (0 : Int32).toInt = 0 := by decide
  have h2 : (4 : Int32).toInt = 4 := by decide
  refine w_X12_isIn f 0 4 (fun h3 => ?_) (fun h4 => ?_)
  ·
    show pm_WP 163 (6, [(0, .ref 25), (1, .int f), (2, .int t), (3, .int w)], [.int 1], _, 0, 0) _
    refine pm_brT (g := (11, [(0, .ref 25), (1, .int f), (2, .int t), (3, .int w)], [], hq g c1 c2 c3 c4 c5 c6 c7 c8 c9 c10 c11 c12 c13 c14 c15 c16 c17 c18 c19 c20 c21 c22 c23 c24 (hc25 mTy mTm mMn mFn mRn mTn mVn mLr mTr mFl mFm mFp mSc mMp mEn) (hc26 mPa) (hc27 mTo) (hc28 mOt) (hc29 mNa) (hc30 mRe) (hc31 mMa) (hc32 mMy) (hc33 mPm) (hc34 mFy) (hc35 mFa) (hc36 mFr) (hc37 mFo) (hc38 mRt) (hc39 mRm) (hc40 mTt) (hc41 mTi) (hc42 mPl) (hc43 mVr) (hc44 mVf) (hc45 mVc) (hc46 mAr) (hc47 mTc) (hc48 mFt) (hc49 mGo) dyn, 0, 0)) rfl ?_
    refine pm_go (g := (12, _, [.int f], _, 0, 0)) rfl ?_
    refine pm_go (g := (13, _, [.int 2, .int f], _, 0, 0)) rfl ?_
    refine pm_if2 (g := (24, [(0, .ref 25), (1, .int f), (2, .int t), (3, .int w)], [], hq g c1 c2 c3 c4 c5 c6 c7 c8 c9 c10 c11 c12 c13 c14 c15 c16 c17 c18 c19 c20 c21 c22 c23 c24 (hc25 mTy mTm mMn mFn mRn mTn mVn mLr mTr mFl mFm mFp mSc mMp mEn) (hc26 mPa) (hc27 mTo) (hc28 mOt) (hc29 mNa) (hc30 mRe) (hc31 mMa) (hc32 mMy) (hc33 mPm) (hc34 mFy) (hc35 mFa) (hc36 mFr) (hc37 mFo) (hc38 mRt) (hc39 mRm) (hc40 mTt) (hc41 mTi) (hc42 mPl) (hc43 mVr) (hc44 mVf) (hc45 mVc) (hc46 mAr) (hc47 mTc) (hc48 mFt) (hc49 mGo) dyn, 0, 0)) (h := (16, [(0, .ref 25), (1, .int f), (2, .int t), (3, .int w)], [], hq g c1 c2 c3 c4 c5 c6 c7 c8 c9 c10 c11 c12 c13 c14 c15 c16 c17 c18 c19 c20 c21 c22 c23 c24 (hc25 mTy mTm mMn mFn mRn mTn mVn mLr mTr mFl mFm mFp mSc mMp mEn) (hc26 mPa) (hc27 mTo) (hc28 mOt) (hc29 mNa) (hc30 mRe) (hc31 mMa) (hc32 mMy) (hc33 mPm) (hc34 mFy) (hc35 mFa) (hc36 mFr) (hc37 mFo) (hc38 mRt) (hc39 mRm) (hc40 mTt) (hc41 mTi) (hc42 mPl) (hc43 mVr) (hc44 mVf) (hc45 mVc) (hc46 mAr) (hc47 mTc) (hc48 mFt) (hc49 mGo) dyn, 0, 0)) rfl (fun h6 => ?_) (fun h6 => ?_)
    ·
      have h6 := qT_ge (cx := (f).toInt) (cy := 2) rfl (by decide) h6
      refine pm_go (g := (25, _, [.int f], _, 0, 0)) rfl ?_
      refine pm_go (g := (26, _, [.int 2, .int f], _, 0, 0)) rfl ?_
      refine pm_if2 (g := (49, [(0, .ref 25), (1, .int f), (2, .int t), (3, .int w)], [], hq g c1 c2 c3 c4 c5 c6 c7 c8 c9 c10 c11 c12 c13 c14 c15 c16 c17 c18 c19 c20 c21 c22 c23 c24 (hc25 mTy mTm mMn mFn mRn mTn mVn mLr mTr mFl mFm mFp mSc mMp mEn) (hc26 mPa) (hc27 mTo) (hc28 mOt) (hc29 mNa) (hc30 mRe) (hc31 mMa) (hc32 mMy) (hc33 mPm) (hc34 mFy) (hc35 mFa) (hc36 mFr) (hc37 mFo) (hc38 mRt) (hc39 mRm) (hc40 mTt) (hc41 mTi) (hc42 mPl) (hc43 mVr) (hc44 mVf) (hc45 mVc) (hc46 mAr) (hc47 mTc) (hc48 mFt) (hc49 mGo) dyn, 0, 0)) (h := (29, [(0, .ref 25), (1, .int f), (2, .int t), (3, .int w)], [], hq g c1 c2 c3 c4 c5 c6 c7 c8 c9 c10 c11 c12 c13 c14 c15 c16 c17 c18 c19 c20 c21 c22 c23 c24 (hc25 mTy mTm mMn mFn mRn mTn mVn mLr mTr mFl mFm mFp mSc mMp mEn) (hc26 mPa) (hc27 mTo) (hc28 mOt) (hc29 mNa) (hc30 mRe) (hc31 mMa) (hc32 mMy) (hc33 mPm) (hc34 mFy) (hc35 mFa) (hc36 mFr) (hc37 mFo) (hc38 mRt) (hc39 mRm) (hc40 mTt) (hc41 mTi) (hc42 mPl) (hc43 mVr) (hc44 mVf) (hc45 mVc) (hc46 mAr) (hc47 mTc) (hc48 mFt) (hc49 mGo) dyn, 0, 0)) rfl (fun h7 => ?_) (fun h7 => ?_)
      ·
        have h7 := qT_ne (cx := (f).toInt) (cy := 2) rfl (by decide) h7
        refine pm_go (g := (50, _, [.int f], _, 0, 0)) rfl ?_
        refine pm_go (g := (51, _, [.int 3, .int f], _, 0, 0)) rfl ?_
        refine pm_if2 (g := (62, [(0, .ref 25), (1, .int f), (2, .int t), (3, .int w)], [], hq g c1 c2 c3 c4 c5 c6 c7 c8 c9 c10 c11 c12 c13 c14 c15 c16 c17 c18 c19 c20 c21 c22 c23 c24 (hc25 mTy mTm mMn mFn mRn mTn mVn mLr mTr mFl mFm mFp mSc mMp mEn) (hc26 mPa) (hc27 mTo) (hc28 mOt) (hc29 mNa) (hc30 mRe) (hc31 mMa) (hc32 mMy) (hc33 mPm) (hc34 mFy) (hc35 mFa) (hc36 mFr) (hc37 mFo) (hc38 mRt) (hc39 mRm) (hc40 mTt) (hc41 mTi) (hc42 mPl) (hc43 mVr) (hc44 mVf) (hc45 mVc) (hc46 mAr) (hc47 mTc) (hc48 mFt) (hc49 mGo) dyn, 0, 0)) (h := (54, [(0, .ref 25), (1, .int f), (2, .int t), (3, .int w)], [], hq g c1 c2 c3 c4 c5 c6 c7 c8 c9 c10 c11 c12 c13 c14 c15 c16 c17 c18 c19 c20 c21 c22 c23 c24 (hc25 mTy mTm mMn mFn mRn mTn mVn mLr mTr mFl mFm mFp mSc mMp mEn) (hc26 mPa) (hc27 mTo) (hc28 mOt) (hc29 mNa) (hc30 mRe) (hc31 mMa) (hc32 mMy) (hc33 mPm) (hc34 mFy) (hc35 mFa) (hc36 mFr) (hc37 mFo) (hc38 mRt) (hc39 mRm) (hc40 mTt) (hc41 mTi) (hc42 mPl) (hc43 mVr) (hc44 mVf) (hc45 mVc) (hc46 mAr) (hc47 mTc) (hc48 mFt) (hc49 mGo) dyn, 0, 0)) rfl (fun h8 => ?_) (fun h8 => ?_)
        ·
          have h8 := qT_ne (cx := (f).toInt) (cy := 3) rfl (by decide) h8
          refine pm_go (g := (63, _, [.ref 25], _, 0, 0)) rfl ?_
          refine pm_go (g := (64, _, [.int t, .ref 25], _, 0, 0)) rfl ?_
          refine pm_callD (z := 129) (as := [.ref 25, .int t]) (rest := []) rfl ?_
          refine w_X12_isClass t (by omega) (fun h9 => ?_) (fun h10 => ?_)
          ·
            show pm_WP 163 (67, [(0, .ref 25), (1, .int f), (2, .int t), (3, .int w)], [.int 1], _, 0, 0) _
            refine pm_brT (g := (76, [(0, .ref 25), (1, .int f), (2, .int t), (3, .int w)], [], hq g c1 c2 c3 c4 c5 c6 c7 c8 c9 c10 c11 c12 c13 c14 c15 c16 c17 c18 c19 c20 c21 c22 c23 c24 (hc25 mTy mTm mMn mFn mRn mTn mVn mLr mTr mFl mFm mFp mSc mMp mEn) (hc26 mPa) (hc27 mTo) (hc28 mOt) (hc29 mNa) (hc30 mRe) (hc31 mMa) (hc32 mMy) (hc33 mPm) (hc34 mFy) (hc35 mFa) (hc36 mFr) (hc37 mFo) (hc38 mRt) (hc39 mRm) (hc40 mTt) (hc41 mTi) (hc42 mPl) (hc43 mVr) (hc44 mVf) (hc45 mVc) (hc46 mAr) (hc47 mTc) (hc48 mFt) (hc49 mGo) dyn, 0, 0)) rfl ?_
            refine pm_go (g := (77, _, [.int 1], _, 0, 0)) rfl ?_
            refine pm_go (g := (81, _, [.int 1], _, 0, 0)) rfl ?_
            refine pm_go (g := (83, [(4, .int 1), (0, .ref 25), (1, .int f), (2, .int t), (3, .int w)], [], _, 0, 0)) rfl ?_
            refine pm_go (g := (85, _, [.int 1], _, 0, 0)) rfl ?_
            refine pm_brF (h := (88, [(4, .int 1), (0, .ref 25), (1, .int f), (2, .int t), (3, .int w)], [], hq g c1 c2 c3 c4 c5 c6 c7 c8 c9 c10 c11 c12 c13 c14 c15 c16 c17 c18 c19 c20 c21 c22 c23 c24 (hc25 mTy mTm mMn mFn mRn mTn mVn mLr mTr mFl mFm mFp mSc mMp mEn) (hc26 mPa) (hc27 mTo) (hc28 mOt) (hc29 mNa) (hc30 mRe) (hc31 mMa) (hc32 mMy) (hc33 mPm) (hc34 mFy) (hc35 mFa) (hc36 mFr) (hc37 mFo) (hc38 mRt) (hc39 mRm) (hc40 mTt) (hc41 mTi) (hc42 mPl) (hc43 mVr) (hc44 mVf) (hc45 mVc) (hc46 mAr) (hc47 mTc) (hc48 mFt) (hc49 mGo) dyn, 0, 0)) rfl ?_
            refine pm_go (g := (89, _, [.int f], _, 0, 0)) rfl ?_
            refine pm_go (g := (90, _, [.int 3, .int f], _, 0, 0)) rfl ?_
            refine pm_if2 (g := (104, [(4, .int 1), (0, .ref 25), (1, .int f), (2, .int t), (3, .int w)], [], hq g c1 c2 c3 c4 c5 c6 c7 c8 c9 c10 c11 c12 c13 c14 c15 c16 c17 c18 c19 c20 c21 c22 c23 c24 (hc25 mTy mTm mMn mFn mRn mTn mVn mLr mTr mFl mFm mFp mSc mMp mEn) (hc26 mPa) (hc27 mTo) (hc28 mOt) (hc29 mNa) (hc30 mRe) (hc31 mMa) (hc32 mMy) (hc33 mPm) (hc34 mFy) (hc35 mFa) (hc36 mFr) (hc37 mFo) (hc38 mRt) (hc39 mRm) (hc40 mTt) (hc41 mTi) (hc42 mPl) (hc43 mVr) (hc44 mVf) (hc45 mVc) (hc46 mAr) (hc47 mTc) (hc48 mFt) (hc49 mGo) dyn, 0, 0)) (h := (93, [(4, .int 1), (0, .ref 25), (1, .int f), (2, .int t), (3, .int w)], [], hq g c1 c2 c3 c4 c5 c6 c7 c8 c9 c10 c11 c12 c13 c14 c15 c16 c17 c18 c19 c20 c21 c22 c23 c24 (hc25 mTy mTm mMn mFn mRn mTn mVn mLr mTr mFl mFm mFp mSc mMp mEn) (hc26 mPa) (hc27 mTo) (hc28 mOt) (hc29 mNa) (hc30 mRe) (hc31 mMa) (hc32 mMy) (hc33 mPm) (hc34 mFy) (hc35 mFa) (hc36 mFr) (hc37 mFo) (hc38 mRt) (hc39 mRm) (hc40 mTt) (hc41 mTi) (hc42 mPl) (hc43 mVr) (hc44 mVf) (hc45 mVc) (hc46 mAr) (hc47 mTc) (hc48 mFt) (hc49 mGo) dyn, 0, 0)) rfl (fun h12 => ?_) (fun h12 => ?_)
            ·
              have h12 := qT_ge (cx := (f).toInt) (cy := 3) rfl (by decide) h12
              refine pm_go (g := (105, _, [.ref 25], _, 0, 0)) rfl ?_
              refine pm_go (g := (108, _, [.int mRn], _, 0, 0)) rfl ?_
              refine pm_go (g := (110, _, [.int 30, .int mRn], _, 0, 0)) rfl ?_
              refine pm_if2 (g := (116, [(4, .int 1), (0, .ref 25), (1, .int f), (2, .int t), (3, .int w)], [], hq g c1 c2 c3 c4 c5 c6 c7 c8 c9 c10 c11 c12 c13 c14 c15 c16 c17 c18 c19 c20 c21 c22 c23 c24 (hc25 mTy mTm mMn mFn mRn mTn mVn mLr mTr mFl mFm mFp mSc mMp mEn) (hc26 mPa) (hc27 mTo) (hc28 mOt) (hc29 mNa) (hc30 mRe) (hc31 mMa) (hc32 mMy) (hc33 mPm) (hc34 mFy) (hc35 mFa) (hc36 mFr) (hc37 mFo) (hc38 mRt) (hc39 mRm) (hc40 mTt) (hc41 mTi) (hc42 mPl) (hc43 mVr) (hc44 mVf) (hc45 mVc) (hc46 mAr) (hc47 mTc) (hc48 mFt) (hc49 mGo) dyn, 0, 0)) (h := (113, [(4, .int 1), (0, .ref 25), (1, .int f), (2, .int t), (3, .int w)], [], hq g c1 c2 c3 c4 c5 c6 c7 c8 c9 c10 c11 c12 c13 c14 c15 c16 c17 c18 c19 c20 c21 c22 c23 c24 (hc25 mTy mTm mMn mFn mRn mTn mVn mLr mTr mFl mFm mFp mSc mMp mEn) (hc26 mPa) (hc27 mTo) (hc28 mOt) (hc29 mNa) (hc30 mRe) (hc31 mMa) (hc32 mMy) (hc33 mPm) (hc34 mFy) (hc35 mFa) (hc36 mFr) (hc37 mFo) (hc38 mRt) (hc39 mRm) (hc40 mTt) (hc41 mTi) (hc42 mPl) (hc43 mVr) (hc44 mVf) (hc45 mVc) (hc46 mAr) (hc47 mTc) (hc48 mFt) (hc49 mGo) dyn, 0, 0)) rfl (fun h13 => ?_) (fun h13 => ?_)
              ·
                have h13 := qT_ne (cx := (mRn).toInt) (cy := 30) rfl (by decide) h13
                refine pm_go (g := (117, _, [.ref 25], _, 0, 0)) rfl ?_
                refine pm_go (g := (120, _, [.ref 37], _, 0, 0)) rfl ?_
                refine pm_go (g := (121, _, [.ref 25, .ref 37], _, 0, 0)) rfl ?_
                refine pm_go (g := (124, _, [.int mRn, .ref 37], _, 0, 0)) rfl ?_
                refine pm_go (g := (125, _, [.int f, .int mRn, .ref 37], _, 0, 0)) rfl ?_
                refine pm_sd (g := (126, _, [], hq g c1 c2 c3 c4 c5 c6 c7 c8 c9 c10 c11 c12 c13 c14 c15 c16 c17 c18 c19 c20 c21 c22 c23 c24 (hc25 mTy mTm mMn mFn mRn mTn mVn mLr mTr mFl mFm mFp mSc mMp mEn) (hc26 mPa) (hc27 mTo) (hc28 mOt) (hc29 mNa) (hc30 mRe) (hc31 mMa) (hc32 mMy) (hc33 mPm) (hc34 mFy) (hc35 mFa) (hc36 mFr) (hc37 (upd mFo (mRn).toNatClampNeg f)) (hc38 mRt) (hc39 mRm) (hc40 mTt) (hc41 mTi) (hc42 mPl) (hc43 mVr) (hc44 mVf) (hc45 mVc) (hc46 mAr) (hc47 mTc) (hc48 mFt) (hc49 mGo) dyn, 0, 0)) rfl (pm_inI (by omega) (by omega)) ?_
                refine pm_go (g := (127, _, [.ref 25], _, 0, 0)) rfl ?_
                refine pm_go (g := (130, _, [.ref 38], _, 0, 0)) rfl ?_
                refine pm_go (g := (131, _, [.ref 25, .ref 38], _, 0, 0)) rfl ?_
                refine pm_go (g := (134, _, [.int mRn, .ref 38], _, 0, 0)) rfl ?_
                refine pm_go (g := (135, _, [.int t, .int mRn, .ref 38], _, 0, 0)) rfl ?_
                refine pm_sd (g := (136, _, [], hq g c1 c2 c3 c4 c5 c6 c7 c8 c9 c10 c11 c12 c13 c14 c15 c16 c17 c18 c19 c20 c21 c22 c23 c24 (hc25 mTy mTm mMn mFn mRn mTn mVn mLr mTr mFl mFm mFp mSc mMp mEn) (hc26 mPa) (hc27 mTo) (hc28 mOt) (hc29 mNa) (hc30 mRe) (hc31 mMa) (hc32 mMy) (hc33 mPm) (hc34 mFy) (hc35 mFa) (hc36 mFr) (hc37 (upd mFo (mRn).toNatClampNeg f)) (hc38 (upd mRt (mRn).toNatClampNeg t)) (hc39 mRm) (hc40 mTt) (hc41 mTi) (hc42 mPl) (hc43 mVr) (hc44 mVf) (hc45 mVc) (hc46 mAr) (hc47 mTc) (hc48 mFt) (hc49 mGo) dyn, 0, 0)) rfl (pm_inI (by omega) (by omega)) ?_
                refine pm_go (g := (137, _, [.ref 25], _, 0, 0)) rfl ?_
                refine pm_go (g := (140, _, [.ref 39], _, 0, 0)) rfl ?_
                refine pm_go (g := (141, _, [.ref 25, .ref 39], _, 0, 0)) rfl ?_
                refine pm_go (g := (144, _, [.int mRn, .ref 39], _, 0, 0)) rfl ?_
                refine pm_go (g := (145, _, [.int w, .int mRn, .ref 39], _, 0, 0)) rfl ?_
                refine pm_sd (g := (146, _, [], hq g c1 c2 c3 c4 c5 c6 c7 c8 c9 c10 c11 c12 c13 c14 c15 c16 c17 c18 c19 c20 c21 c22 c23 c24 (hc25 mTy mTm mMn mFn mRn mTn mVn mLr mTr mFl mFm mFp mSc mMp mEn) (hc26 mPa) (hc27 mTo) (hc28 mOt) (hc29 mNa) (hc30 mRe) (hc31 mMa) (hc32 mMy) (hc33 mPm) (hc34 mFy) (hc35 mFa) (hc36 mFr) (hc37 (upd mFo (mRn).toNatClampNeg f)) (hc38 (upd mRt (mRn).toNatClampNeg t)) (hc39 (upd mRm (mRn).toNatClampNeg w)) (hc40 mTt) (hc41 mTi) (hc42 mPl) (hc43 mVr) (hc44 mVf) (hc45 mVc) (hc46 mAr) (hc47 mTc) (hc48 mFt) (hc49 mGo) dyn, 0, 0)) rfl (pm_inI (by omega) (by omega)) ?_
                refine pm_go (g := (147, _, [.ref 25], _, 0, 0)) rfl ?_
                refine pm_go (g := (148, _, [.ref 25, .ref 25], _, 0, 0)) rfl ?_
                refine pm_go (g := (151, _, [.int mRn, .ref 25], _, 0, 0)) rfl ?_
                refine pm_go (g := (152, _, [.int 1, .int mRn, .ref 25], _, 0, 0)) rfl ?_
                refine pm_go (g := (153, _, [.int (mRn + 1), .ref 25], _, 0, 0)) rfl ?_
                try have h14 : (mRn + 1).toInt = (mRn).toInt + 1 := iAdd (x := (mRn).toInt) (y := 1) rfl (by decide) (by omega) (by omega)
                refine pm_go (g := (156, _, [], hq g c1 c2 c3 c4 c5 c6 c7 c8 c9 c10 c11 c12 c13 c14 c15 c16 c17 c18 c19 c20 c21 c22 c23 c24 (hc25 mTy mTm mMn mFn (mRn + 1) mTn mVn mLr mTr mFl mFm mFp mSc mMp mEn) (hc26 mPa) (hc27 mTo) (hc28 mOt) (hc29 mNa) (hc30 mRe) (hc31 mMa) (hc32 mMy) (hc33 mPm) (hc34 mFy) (hc35 mFa) (hc36 mFr) (hc37 (upd mFo (mRn).toNatClampNeg f)) (hc38 (upd mRt (mRn).toNatClampNeg t)) (hc39 (upd mRm (mRn).toNatClampNeg w)) (hc40 mTt) (hc41 mTi) (hc42 mPl) (hc43 mVr) (hc44 mVf) (hc45 mVc) (hc46 mAr) (hc47 mTc) (hc48 mFt) (hc49 mGo) dyn, 0, 0)) rfl ?_
                refine pm_go (g := (157, _, [.ref 25], _, 0, 0)) rfl ?_
                refine pm_go (g := (160, _, [.int (mRn + 1)], _, 0, 0)) rfl ?_
                refine pm_go (g := (161, _, [.int 1, .int (mRn + 1)], _, 0, 0)) rfl ?_
                refine pm_go (g := (162, _, [.int ((mRn + 1) - 1)], _, 0, 0)) rfl ?_
                try have h15 : ((mRn + 1) - 1).toInt = (mRn + 1).toInt - 1 := iSub (x := (mRn + 1).toInt) (y := 1) rfl (by decide) (by omega) (by omega)
                first | exact pm_ret rfl (k0 (by omega)) | exact pm_ret rfl (k1 (by omega)) | exact pm_ret rfl (k2 (by omega)) | (exfalso; omega)
              have h13 := qF_ne (cx := (mRn).toInt) (cy := 30) rfl (by decide) h13
              refine pm_go (g := (115, _, [.int (-2)], hq g c1 c2 c3 c4 c5 c6 c7 c8 c9 c10 c11 c12 c13 c14 c15 c16 c17 c18 c19 c20 c21 c22 c23 c24 (hc25 mTy mTm mMn mFn mRn mTn mVn mLr mTr mFl mFm mFp mSc mMp mEn) (hc26 mPa) (hc27 mTo) (hc28 mOt) (hc29 mNa) (hc30 mRe) (hc31 mMa) (hc32 mMy) (hc33 mPm) (hc34 mFy) (hc35 mFa) (hc36 mFr) (hc37 mFo) (hc38 mRt) (hc39 mRm) (hc40 mTt) (hc41 mTi) (hc42 mPl) (hc43 mVr) (hc44 mVf) (hc45 mVc) (hc46 mAr) (hc47 mTc) (hc48 mFt) (hc49 mGo) dyn, 0, 0)) rfl ?_
              first | exact pm_ret rfl (k0 (by omega)) | exact pm_ret rfl (k1 (by omega)) | exact pm_ret rfl (k2 (by omega)) | (exfalso; omega)
            have h12 := qF_ge (cx := (f).toInt) (cy := 3) rfl (by decide) h12
            refine pm_go (g := (94, _, [.int w], _, 0, 0)) rfl ?_
            refine pm_go (g := (95, _, [.int 0, .int w], _, 0, 0)) rfl ?_
            refine pm_go (g := (96, _, [.int 5, .int 0, .int w], _, 0, 0)) rfl ?_
            refine pm_callD (z := 128) (as := [.int w, .int 0, .int 5]) (rest := []) rfl ?_
            have h16 : (0 : Int32).toInt = 0 := by decide
            have h17 : (5 : Int32).toInt = 5 := by decide
            refine w_X12_isIn w 0 5 (fun h18 => ?_) (fun h19 => ?_)
            ·
              show pm_WP 163 (99, [(4, .int 1), (0, .ref 25), (1, .int f), (2, .int t), (3, .int w)], [.int 1], _, 0, 0) _
              refine pm_brT (g := (104, [(4, .int 1), (0, .ref 25), (1, .int f), (2, .int t), (3, .int w)], [], hq g c1 c2 c3 c4 c5 c6 c7 c8 c9 c10 c11 c12 c13 c14 c15 c16 c17 c18 c19 c20 c21 c22 c23 c24 (hc25 mTy mTm mMn mFn mRn mTn mVn mLr mTr mFl mFm mFp mSc mMp mEn) (hc26 mPa) (hc27 mTo) (hc28 mOt) (hc29 mNa) (hc30 mRe) (hc31 mMa) (hc32 mMy) (hc33 mPm) (hc34 mFy) (hc35 mFa) (hc36 mFr) (hc37 mFo) (hc38 mRt) (hc39 mRm) (hc40 mTt) (hc41 mTi) (hc42 mPl) (hc43 mVr) (hc44 mVf) (hc45 mVc) (hc46 mAr) (hc47 mTc) (hc48 mFt) (hc49 mGo) dyn, 0, 0)) rfl ?_
              refine pm_go (g := (105, _, [.ref 25], _, 0, 0)) rfl ?_
              refine pm_go (g := (108, _, [.int mRn], _, 0, 0)) rfl ?_
              refine pm_go (g := (110, _, [.int 30, .int mRn], _, 0, 0)) rfl ?_
              refine pm_if2 (g := (116, [(4, .int 1), (0, .ref 25), (1, .int f), (2, .int t), (3, .int w)], [], hq g c1 c2 c3 c4 c5 c6 c7 c8 c9 c10 c11 c12 c13 c14 c15 c16 c17 c18 c19 c20 c21 c22 c23 c24 (hc25 mTy mTm mMn mFn mRn mTn mVn mLr mTr mFl mFm mFp mSc mMp mEn) (hc26 mPa) (hc27 mTo) (hc28 mOt) (hc29 mNa) (hc30 mRe) (hc31 mMa) (hc32 mMy) (hc33 mPm) (hc34 mFy) (hc35 mFa) (hc36 mFr) (hc37 mFo) (hc38 mRt) (hc39 mRm) (hc40 mTt) (hc41 mTi) (hc42 mPl) (hc43 mVr) (hc44 mVf) (hc45 mVc) (hc46 mAr) (hc47 mTc) (hc48 mFt) (hc49 mGo) dyn, 0, 0)) (h := (113, [(4, .int 1), (0, .ref 25), (1, .int f), (2, .int t), (3, .int w)], [], hq g c1 c2 c3 c4 c5 c6 c7 c8 c9 c10 c11 c12 c13 c14 c15 c16 c17 c18 c19 c20 c21 c22 c23 c24 (hc25 mTy mTm mMn mFn mRn mTn mVn mLr mTr mFl mFm mFp mSc mMp mEn) (hc26 mPa) (hc27 mTo) (hc28 mOt) (hc29 mNa) (hc30 mRe) (hc31 mMa) (hc32 mMy) (hc33 mPm) (hc34 mFy) (hc35 mFa) (hc36 mFr) (hc37 mFo) (hc38 mRt) (hc39 mRm) (hc40 mTt) (hc41 mTi) (hc42 mPl) (hc43 mVr) (hc44 mVf) (hc45 mVc) (hc46 mAr) (hc47 mTc) (hc48 mFt) (hc49 mGo) dyn, 0, 0)) rfl (fun h21 => ?_) (fun h21 => ?_)
              ·
                have h21 := qT_ne (cx := (mRn).toInt) (cy := 30) rfl (by decide) h21
                refine pm_go (g := (117, _, [.ref 25], _, 0, 0)) rfl ?_
                refine pm_go (g := (120, _, [.ref 37], _, 0, 0)) rfl ?_
                refine pm_go (g := (121, _, [.ref 25, .ref 37], _, 0, 0)) rfl ?_
                refine pm_go (g := (124, _, [.int mRn, .ref 37], _, 0, 0)) rfl ?_
                refine pm_go (g := (125, _, [.int f, .int mRn, .ref 37], _, 0, 0)) rfl ?_
                refine pm_sd (g := (126, _, [], hq g c1 c2 c3 c4 c5 c6 c7 c8 c9 c10 c11 c12 c13 c14 c15 c16 c17 c18 c19 c20 c21 c22 c23 c24 (hc25 mTy mTm mMn mFn mRn mTn mVn mLr mTr mFl mFm mFp mSc mMp mEn) (hc26 mPa) (hc27 mTo) (hc28 mOt) (hc29 mNa) (hc30 mRe) (hc31 mMa) (hc32 mMy) (hc33 mPm) (hc34 mFy) (hc35 mFa) (hc36 mFr) (hc37 (upd mFo (mRn).toNatClampNeg f)) (hc38 mRt) (hc39 mRm) (hc40 mTt) (hc41 mTi) (hc42 mPl) (hc43 mVr) (hc44 mVf) (hc45 mVc) (hc46 mAr) (hc47 mTc) (hc48 mFt) (hc49 mGo) dyn, 0, 0)) rfl (pm_inI (by omega) (by omega)) ?_
                refine pm_go (g := (127, _, [.ref 25], _, 0, 0)) rfl ?_
                refine pm_go (g := (130, _, [.ref 38], _, 0, 0)) rfl ?_
                refine pm_go (g := (131, _, [.ref 25, .ref 38], _, 0, 0)) rfl ?_
                refine pm_go (g := (134, _, [.int mRn, .ref 38], _, 0, 0)) rfl ?_
                refine pm_go (g := (135, _, [.int t, .int mRn, .ref 38], _, 0, 0)) rfl ?_
                refine pm_sd (g := (136, _, [], hq g c1 c2 c3 c4 c5 c6 c7 c8 c9 c10 c11 c12 c13 c14 c15 c16 c17 c18 c19 c20 c21 c22 c23 c24 (hc25 mTy mTm mMn mFn mRn mTn mVn mLr mTr mFl mFm mFp mSc mMp mEn) (hc26 mPa) (hc27 mTo) (hc28 mOt) (hc29 mNa) (hc30 mRe) (hc31 mMa) (hc32 mMy) (hc33 mPm) (hc34 mFy) (hc35 mFa) (hc36 mFr) (hc37 (upd mFo (mRn).toNatClampNeg f)) (hc38 (upd mRt (mRn).toNatClampNeg t)) (hc39 mRm) (hc40 mTt) (hc41 mTi) (hc42 mPl) (hc43 mVr) (hc44 mVf) (hc45 mVc) (hc46 mAr) (hc47 mTc) (hc48 mFt) (hc49 mGo) dyn, 0, 0)) rfl (pm_inI (by omega) (by omega)) ?_
                refine pm_go (g := (137, _, [.ref 25], _, 0, 0)) rfl ?_
                refine pm_go (g := (140, _, [.ref 39], _, 0, 0)) rfl ?_
                refine pm_go (g := (141, _, [.ref 25, .ref 39], _, 0, 0)) rfl ?_
                refine pm_go (g := (144, _, [.int mRn, .ref 39], _, 0, 0)) rfl ?_
                refine pm_go (g := (145, _, [.int w, .int mRn, .ref 39], _, 0, 0)) rfl ?_
                refine pm_sd (g := (146, _, [], hq g c1 c2 c3 c4 c5 c6 c7 c8 c9 c10 c11 c12 c13 c14 c15 c16 c17 c18 c19 c20 c21 c22 c23 c24 (hc25 mTy mTm mMn mFn mRn mTn mVn mLr mTr mFl mFm mFp mSc mMp mEn) (hc26 mPa) (hc27 mTo) (hc28 mOt) (hc29 mNa) (hc30 mRe) (hc31 mMa) (hc32 mMy) (hc33 mPm) (hc34 mFy) (hc35 mFa) (hc36 mFr) (hc37 (upd mFo (mRn).toNatClampNeg f)) (hc38 (upd mRt (mRn).toNatClampNeg t)) (hc39 (upd mRm (mRn).toNatClampNeg w)) (hc40 mTt) (hc41 mTi) (hc42 mPl) (hc43 mVr) (hc44 mVf) (hc45 mVc) (hc46 mAr) (hc47 mTc) (hc48 mFt) (hc49 mGo) dyn, 0, 0)) rfl (pm_inI (by omega) (by omega)) ?_
                refine pm_go (g := (147, _, [.ref 25], _, 0, 0)) rfl ?_
                refine pm_go (g := (148, _, [.ref 25, .ref 25], _, 0, 0)) rfl ?_
                refine pm_go (g := (151, _, [.int mRn, .ref 25], _, 0, 0)) rfl ?_
                refine pm_go (g := (152, _, [.int 1, .int mRn, .ref 25], _, 0, 0)) rfl ?_
                refine pm_go (g := (153, _, [.int (mRn + 1), .ref 25], _, 0, 0)) rfl ?_
                try have h22 : (mRn + 1).toInt = (mRn).toInt + 1 := iAdd (x := (mRn).toInt) (y := 1) rfl (by decide) (by omega) (by omega)
                refine pm_go (g := (156, _, [], hq g c1 c2 c3 c4 c5 c6 c7 c8 c9 c10 c11 c12 c13 c14 c15 c16 c17 c18 c19 c20 c21 c22 c23 c24 (hc25 mTy mTm mMn mFn (mRn + 1) mTn mVn mLr mTr mFl mFm mFp mSc mMp mEn) (hc26 mPa) (hc27 mTo) (hc28 mOt) (hc29 mNa) (hc30 mRe) (hc31 mMa) (hc32 mMy) (hc33 mPm) (hc34 mFy) (hc35 mFa) (hc36 mFr) (hc37 (upd mFo (mRn).toNatClampNeg f)) (hc38 (upd mRt (mRn).toNatClampNeg t)) (hc39 (upd mRm (mRn).toNatClampNeg w)) (hc40 mTt) (hc41 mTi) (hc42 mPl) (hc43 mVr) (hc44 mVf) (hc45 mVc) (hc46 mAr) (hc47 mTc) (hc48 mFt) (hc49 mGo) dyn, 0, 0)) rfl ?_
                refine pm_go (g := (157, _, [.ref 25], _, 0, 0)) rfl ?_
                refine pm_go (g := (160, _, [.int (mRn + 1)], _, 0, 0)) rfl ?_
                refine pm_go (g := (161, _, [.int 1, .int (mRn + 1)], _, 0, 0)) rfl ?_
                refine pm_go (g := (162, _, [.int ((mRn + 1) - 1)], _, 0, 0)) rfl ?_
                try have h23 : ((mRn + 1) - 1).toInt = (mRn + 1).toInt - 1 := iSub (x := (mRn + 1).toInt) (y := 1) rfl (by decide) (by omega) (by omega)
                first | exact pm_ret rfl (k0 (by omega)) | exact pm_ret rfl (k1 (by omega)) | exact pm_ret rfl (k2 (by omega)) | (exfalso; omega)
              have h21 := qF_ne (cx := (mRn).toInt) (cy := 30) rfl (by decide) h21
              refine pm_go (g := (115, _, [.int (-2)], hq g c1 c2 c3 c4 c5 c6 c7 c8 c9 c10 c11 c12 c13 c14 c15 c16 c17 c18 c19 c20 c21 c22 c23 c24 (hc25 mTy mTm mMn mFn mRn mTn mVn mLr mTr mFl mFm mFp mSc mMp mEn) (hc26 mPa) (hc27 mTo) (hc28 mOt) (hc29 mNa) (hc30 mRe) (hc31 mMa) (hc32 mMy) (hc33 mPm) (hc34 mFy) (hc35 mFa) (hc36 mFr) (hc37 mFo) (hc38 mRt) (hc39 mRm) (hc40 mTt) (hc41 mTi) (hc42 mPl) (hc43 mVr) (hc44 mVf) (hc45 mVc) (hc46 mAr) (hc47 mTc) (hc48 mFt) (hc49 mGo) dyn, 0, 0)) rfl ?_
              first | exact pm_ret rfl (k0 (by omega)) | exact pm_ret rfl (k1 (by omega)) | exact pm_ret rfl (k2 (by omega)) | (exfalso; omega)
            show pm_WP 163 (99, [(4, .int 1), (0, .ref 25), (1, .int f), (2, .int t), (3, .int w)], [.int 0], hq g c1 c2 c3 c4 c5 c6 c7 c8 c9 c10 c11 c12 c13 c14 c15 c16 c17 c18 c19 c20 c21 c22 c23 c24 (hc25 mTy mTm mMn mFn mRn mTn mVn mLr mTr mFl mFm mFp mSc mMp mEn) (hc26 mPa) (hc27 mTo) (hc28 mOt) (hc29 mNa) (hc30 mRe) (hc31 mMa) (hc32 mMy) (hc33 mPm) (hc34 mFy) (hc35 mFa) (hc36 mFr) (hc37 mFo) (hc38 mRt) (hc39 mRm) (hc40 mTt) (hc41 mTi) (hc42 mPl) (hc43 mVr) (hc44 mVf) (hc45 mVc) (hc46 mAr) (hc47 mTc) (hc48 mFt) (hc49 mGo) dyn, 0, 0) _
            refine pm_brF (h := (102, [(4, .int 1), (0, .ref 25), (1, .int f), (2, .int t), (3, .int w)], [], hq g c1 c2 c3 c4 c5 c6 c7 c8 c9 c10 c11 c12 c13 c14 c15 c16 c17 c18 c19 c20 c21 c22 c23 c24 (hc25 mTy mTm mMn mFn mRn mTn mVn mLr mTr mFl mFm mFp mSc mMp mEn) (hc26 mPa) (hc27 mTo) (hc28 mOt) (hc29 mNa) (hc30 mRe) (hc31 mMa) (hc32 mMy) (hc33 mPm) (hc34 mFy) (hc35 mFa) (hc36 mFr) (hc37 mFo) (hc38 mRt) (hc39 mRm) (hc40 mTt) (hc41 mTi) (hc42 mPl) (hc43 mVr) (hc44 mVf) (hc45 mVc) (hc46 mAr) (hc47 mTc) (hc48 mFt) (hc49 mGo) dyn, 0, 0)) rfl ?_
            refine pm_go (g := (103, _, [.int (-1)], _, 0, 0)) rfl ?_
            first | exact pm_ret rfl (k0 (by omega)) | exact pm_ret rfl (k1 (by omega)) | exact pm_ret rfl (k2 (by omega)) | (exfalso; omega)
          show pm_WP 163 (67, [(0, .ref 25), (1, .int f), (2, .int t), (3, .int w)], [.int 0], hq g c1 c2 c3 c4 c5 c6 c7 c8 c9 c10 c11 c12 c13 c14 c15 c16 c17 c18 c19 c20 c21 c22 c23 c24 (hc25 mTy mTm mMn mFn mRn mTn mVn mLr mTr mFl mFm mFp mSc mMp mEn) (hc26 mPa) (hc27 mTo) (hc28 mOt) (hc29 mNa) (hc30 mRe) (hc31 mMa) (hc32 mMy) (hc33 mPm) (hc34 mFy) (hc35 mFa) (hc36 mFr) (hc37 mFo) (hc38 mRt) (hc39 mRm) (hc40 mTt) (hc41 mTi) (hc42 mPl) (hc43 mVr) (hc44 mVf) (hc45 mVc) (hc46 mAr) (hc47 mTc) (hc48 mFt) (hc49 mGo) dyn, 0, 0) _
          refine pm_brF (h := (70, [(0, .ref 25), (1, .int f), (2, .int t), (3, .int w)], [], hq g c1 c2 c3 c4 c5 c6 c7 c8 c9 c10 c11 c12 c13 c14 c15 c16 c17 c18 c19 c20 c21 c22 c23 c24 (hc25 mTy mTm mMn mFn mRn mTn mVn mLr mTr mFl mFm mFp mSc mMp mEn) (hc26 mPa) (hc27 mTo) (hc28 mOt) (hc29 mNa) (hc30 mRe) (hc31 mMa) (hc32 mMy) (hc33 mPm) (hc34 mFy) (hc35 mFa) (hc36 mFr) (hc37 mFo) (hc38 mRt) (hc39 mRm) (hc40 mTt) (hc41 mTi) (hc42 mPl) (hc43 mVr) (hc44 mVf) (hc45 mVc) (hc46 mAr) (hc47 mTc) (hc48 mFt) (hc49 mGo) dyn, 0, 0)) rfl ?_
          refine pm_go (g := (71, _, [.int t], _, 0, 0)) rfl ?_
          refine pm_go (g := (73, _, [.int 10, .int t], _, 0, 0)) rfl ?_
          refine pm_if2 (g := (80, [(0, .ref 25), (1, .int f), (2, .int t), (3, .int w)], [], hq g c1 c2 c3 c4 c5 c6 c7 c8 c9 c10 c11 c12 c13 c14 c15 c16 c17 c18 c19 c20 c21 c22 c23 c24 (hc25 mTy mTm mMn mFn mRn mTn mVn mLr mTr mFl mFm mFp mSc mMp mEn) (hc26 mPa) (hc27 mTo) (hc28 mOt) (hc29 mNa) (hc30 mRe) (hc31 mMa) (hc32 mMy) (hc33 mPm) (hc34 mFy) (hc35 mFa) (hc36 mFr) (hc37 mFo) (hc38 mRt) (hc39 mRm) (hc40 mTt) (hc41 mTi) (hc42 mPl) (hc43 mVr) (hc44 mVf) (hc45 mVc) (hc46 mAr) (hc47 mTc) (hc48 mFt) (hc49 mGo) dyn, 0, 0)) (h := (76, [(0, .ref 25), (1, .int f), (2, .int t), (3, .int w)], [], hq g c1 c2 c3 c4 c5 c6 c7 c8 c9 c10 c11 c12 c13 c14 c15 c16 c17 c18 c19 c20 c21 c22 c23 c24 (hc25 mTy mTm mMn mFn mRn mTn mVn mLr mTr mFl mFm mFp mSc mMp mEn) (hc26 mPa) (hc27 mTo) (hc28 mOt) (hc29 mNa) (hc30 mRe) (hc31 mMa) (hc32 mMy) (hc33 mPm) (hc34 mFy) (hc35 mFa) (hc36 mFr) (hc37 mFo) (hc38 mRt) (hc39 mRm) (hc40 mTt) (hc41 mTi) (hc42 mPl) (hc43 mVr) (hc44 mVf) (hc45 mVc) (hc46 mAr) (hc47 mTc) (hc48 mFt) (hc49 mGo) dyn, 0, 0)) rfl (fun h24 => ?_) (fun h24 => ?_)
          ·
            have h24 := qT_ne (cx := (t).toInt) (cy := 10) rfl (by decide) h24
            refine pm_go (g := (81, _, [.int 0], _, 0, 0)) rfl ?_
            refine pm_go (g := (83, [(4, .int 0), (0, .ref 25), (1, .int f), (2, .int t), (3, .int w)], [], _, 0, 0)) rfl ?_
            refine pm_go (g := (85, _, [.int 0], _, 0, 0)) rfl ?_
            refine pm_brT (g := (102, [(4, .int 0), (0, .ref 25), (1, .int f), (2, .int t), (3, .int w)], [], hq g c1 c2 c3 c4 c5 c6 c7 c8 c9 c10 c11 c12 c13 c14 c15 c16 c17 c18 c19 c20 c21 c22 c23 c24 (hc25 mTy mTm mMn mFn mRn mTn mVn mLr mTr mFl mFm mFp mSc mMp mEn) (hc26 mPa) (hc27 mTo) (hc28 mOt) (hc29 mNa) (hc30 mRe) (hc31 mMa) (hc32 mMy) (hc33 mPm) (hc34 mFy) (hc35 mFa) (hc36 mFr) (hc37 mFo) (hc38 mRt) (hc39 mRm) (hc40 mTt) (hc41 mTi) (hc42 mPl) (hc43 mVr) (hc44 mVf) (hc45 mVc) (hc46 mAr) (hc47 mTc) (hc48 mFt) (hc49 mGo) dyn, 0, 0)) rfl ?_
            refine pm_go (g := (103, _, [.int (-1)], _, 0, 0)) rfl ?_
            first | exact pm_ret rfl (k0 (by omega)) | exact pm_ret rfl (k1 (by omega)) | exact pm_ret rfl (k2 (by omega)) | (exfalso; omega)
          have h24 := qF_ne (cx := (t).toInt) (cy := 10) rfl (by decide) h24
          refine pm_go (g := (77, [(0, .ref 25), (1, .int f), (2, .int t), (3, .int w)], [.int 1], _, 0, 0)) rfl ?_
          refine pm_go (g := (81, _, [.int 1], _, 0, 0)) rfl ?_
          refine pm_go (g := (83, [(4, .int 1), (0, .ref 25), (1, .int f), (2, .int t), (3, .int w)], [], _, 0, 0)) rfl ?_
          refine pm_go (g := (85, _, [.int 1], _, 0, 0)) rfl ?_
          refine pm_brF (h := (88, [(4, .int 1), (0, .ref 25), (1, .int f), (2, .int t), (3, .int w)], [], hq g c1 c2 c3 c4 c5 c6 c7 c8 c9 c10 c11 c12 c13 c14 c15 c16 c17 c18 c19 c20 c21 c22 c23 c24 (hc25 mTy mTm mMn mFn mRn mTn mVn mLr mTr mFl mFm mFp mSc mMp mEn) (hc26 mPa) (hc27 mTo) (hc28 mOt) (hc29 mNa) (hc30 mRe) (hc31 mMa) (hc32 mMy) (hc33 mPm) (hc34 mFy) (hc35 mFa) (hc36 mFr) (hc37 mFo) (hc38 mRt) (hc39 mRm) (hc40 mTt) (hc41 mTi) (hc42 mPl) (hc43 mVr) (hc44 mVf) (hc45 mVc) (hc46 mAr) (hc47 mTc) (hc48 mFt) (hc49 mGo) dyn, 0, 0)) rfl ?_
          refine pm_go (g := (89, _, [.int f], _, 0, 0)) rfl ?_
          refine pm_go (g := (90, _, [.int 3, .int f], _, 0, 0)) rfl ?_
          refine pm_if2 (g := (104, [(4, .int 1), (0, .ref 25), (1, .int f), (2, .int t), (3, .int w)], [], hq g c1 c2 c3 c4 c5 c6 c7 c8 c9 c10 c11 c12 c13 c14 c15 c16 c17 c18 c19 c20 c21 c22 c23 c24 (hc25 mTy mTm mMn mFn mRn mTn mVn mLr mTr mFl mFm mFp mSc mMp mEn) (hc26 mPa) (hc27 mTo) (hc28 mOt) (hc29 mNa) (hc30 mRe) (hc31 mMa) (hc32 mMy) (hc33 mPm) (hc34 mFy) (hc35 mFa) (hc36 mFr) (hc37 mFo) (hc38 mRt) (hc39 mRm) (hc40 mTt) (hc41 mTi) (hc42 mPl) (hc43 mVr) (hc44 mVf) (hc45 mVc) (hc46 mAr) (hc47 mTc) (hc48 mFt) (hc49 mGo) dyn, 0, 0)) (h := (93, [(4, .int 1), (0, .ref 25), (1, .int f), (2, .int t), (3, .int w)], [], hq g c1 c2 c3 c4 c5 c6 c7 c8 c9 c10 c11 c12 c13 c14 c15 c16 c17 c18 c19 c20 c21 c22 c23 c24 (hc25 mTy mTm mMn mFn mRn mTn mVn mLr mTr mFl mFm mFp mSc mMp mEn) (hc26 mPa) (hc27 mTo) (hc28 mOt) (hc29 mNa) (hc30 mRe) (hc31 mMa) (hc32 mMy) (hc33 mPm) (hc34 mFy) (hc35 mFa) (hc36 mFr) (hc37 mFo) (hc38 mRt) (hc39 mRm) (hc40 mTt) (hc41 mTi) (hc42 mPl) (hc43 mVr) (hc44 mVf) (hc45 mVc) (hc46 mAr) (hc47 mTc) (hc48 mFt) (hc49 mGo) dyn, 0, 0)) rfl (fun h25 => ?_) (fun h25 => ?_)
          ·
            have h25 := qT_ge (cx := (f).toInt) (cy := 3) rfl (by decide) h25
            refine pm_go (g := (105, _, [.ref 25], _, 0, 0)) rfl ?_
            refine pm_go (g := (108, _, [.int mRn], _, 0, 0)) rfl ?_
            refine pm_go (g := (110, _, [.int 30, .int mRn], _, 0, 0)) rfl ?_
            refine pm_if2 (g := (116, [(4, .int 1), (0, .ref 25), (1, .int f), (2, .int t), (3, .int w)], [], hq g c1 c2 c3 c4 c5 c6 c7 c8 c9 c10 c11 c12 c13 c14 c15 c16 c17 c18 c19 c20 c21 c22 c23 c24 (hc25 mTy mTm mMn mFn mRn mTn mVn mLr mTr mFl mFm mFp mSc mMp mEn) (hc26 mPa) (hc27 mTo) (hc28 mOt) (hc29 mNa) (hc30 mRe) (hc31 mMa) (hc32 mMy) (hc33 mPm) (hc34 mFy) (hc35 mFa) (hc36 mFr) (hc37 mFo) (hc38 mRt) (hc39 mRm) (hc40 mTt) (hc41 mTi) (hc42 mPl) (hc43 mVr) (hc44 mVf) (hc45 mVc) (hc46 mAr) (hc47 mTc) (hc48 mFt) (hc49 mGo) dyn, 0, 0)) (h := (113, [(4, .int 1), (0, .ref 25), (1, .int f), (2, .int t), (3, .int w)], [], hq g c1 c2 c3 c4 c5 c6 c7 c8 c9 c10 c11 c12 c13 c14 c15 c16 c17 c18 c19 c20 c21 c22 c23 c24 (hc25 mTy mTm mMn mFn mRn mTn mVn mLr mTr mFl mFm mFp mSc mMp mEn) (hc26 mPa) (hc27 mTo) (hc28 mOt) (hc29 mNa) (hc30 mRe) (hc31 mMa) (hc32 mMy) (hc33 mPm) (hc34 mFy) (hc35 mFa) (hc36 mFr) (hc37 mFo) (hc38 mRt) (hc39 mRm) (hc40 mTt) (hc41 mTi) (hc42 mPl) (hc43 mVr) (hc44 mVf) (hc45 mVc) (hc46 mAr) (hc47 mTc) (hc48 mFt) (hc49 mGo) dyn, 0, 0)) rfl (fun h26 => ?_) (fun h26 => ?_)
            ·
              have h26 := qT_ne (cx := (mRn).toInt) (cy := 30) rfl (by decide) h26
              refine pm_go (g := (117, _, [.ref 25], _, 0, 0)) rfl ?_
              refine pm_go (g := (120, _, [.ref 37], _, 0, 0)) rfl ?_
              refine pm_go (g := (121, _, [.ref 25, .ref 37], _, 0, 0)) rfl ?_
              refine pm_go (g := (124, _, [.int mRn, .ref 37], _, 0, 0)) rfl ?_
              refine pm_go (g := (125, _, [.int f, .int mRn, .ref 37], _, 0, 0)) rfl ?_
              refine pm_sd (g := (126, _, [], hq g c1 c2 c3 c4 c5 c6 c7 c8 c9 c10 c11 c12 c13 c14 c15 c16 c17 c18 c19 c20 c21 c22 c23 c24 (hc25 mTy mTm mMn mFn mRn mTn mVn mLr mTr mFl mFm mFp mSc mMp mEn) (hc26 mPa) (hc27 mTo) (hc28 mOt) (hc29 mNa) (hc30 mRe) (hc31 mMa) (hc32 mMy) (hc33 mPm) (hc34 mFy) (hc35 mFa) (hc36 mFr) (hc37 (upd mFo (mRn).toNatClampNeg f)) (hc38 mRt) (hc39 mRm) (hc40 mTt) (hc41 mTi) (hc42 mPl) (hc43 mVr) (hc44 mVf) (hc45 mVc) (hc46 mAr) (hc47 mTc) (hc48 mFt) (hc49 mGo) dyn, 0, 0)) rfl (pm_inI (by omega) (by omega)) ?_
              refine pm_go (g := (127, _, [.ref 25], _, 0, 0)) rfl ?_
              refine pm_go (g := (130, _, [.ref 38], _, 0, 0)) rfl ?_
              refine pm_go (g := (131, _, [.ref 25, .ref 38], _, 0, 0)) rfl ?_
              refine pm_go (g := (134, _, [.int mRn, .ref 38], _, 0, 0)) rfl ?_
              refine pm_go (g := (135, _, [.int t, .int mRn, .ref 38], _, 0, 0)) rfl ?_
              refine pm_sd (g := (136, _, [], hq g c1 c2 c3 c4 c5 c6 c7 c8 c9 c10 c11 c12 c13 c14 c15 c16 c17 c18 c19 c20 c21 c22 c23 c24 (hc25 mTy mTm mMn mFn mRn mTn mVn mLr mTr mFl mFm mFp mSc mMp mEn) (hc26 mPa) (hc27 mTo) (hc28 mOt) (hc29 mNa) (hc30 mRe) (hc31 mMa) (hc32 mMy) (hc33 mPm) (hc34 mFy) (hc35 mFa) (hc36 mFr) (hc37 (upd mFo (mRn).toNatClampNeg f)) (hc38 (upd mRt (mRn).toNatClampNeg t)) (hc39 mRm) (hc40 mTt) (hc41 mTi) (hc42 mPl) (hc43 mVr) (hc44 mVf) (hc45 mVc) (hc46 mAr) (hc47 mTc) (hc48 mFt) (hc49 mGo) dyn, 0, 0)) rfl (pm_inI (by omega) (by omega)) ?_
              refine pm_go (g := (137, _, [.ref 25], _, 0, 0)) rfl ?_
              refine pm_go (g := (140, _, [.ref 39], _, 0, 0)) rfl ?_
              refine pm_go (g := (141, _, [.ref 25, .ref 39], _, 0, 0)) rfl ?_
              refine pm_go (g := (144, _, [.int mRn, .ref 39], _, 0, 0)) rfl ?_
              refine pm_go (g := (145, _, [.int w, .int mRn, .ref 39], _, 0, 0)) rfl ?_
              refine pm_sd (g := (146, _, [], hq g c1 c2 c3 c4 c5 c6 c7 c8 c9 c10 c11 c12 c13 c14 c15 c16 c17 c18 c19 c20 c21 c22 c23 c24 (hc25 mTy mTm mMn mFn mRn mTn mVn mLr mTr mFl mFm mFp mSc mMp mEn) (hc26 mPa) (hc27 mTo) (hc28 mOt) (hc29 mNa) (hc30 mRe) (hc31 mMa) (hc32 mMy) (hc33 mPm) (hc34 mFy) (hc35 mFa) (hc36 mFr) (hc37 (upd mFo (mRn).toNatClampNeg f)) (hc38 (upd mRt (mRn).toNatClampNeg t)) (hc39 (upd mRm (mRn).toNatClampNeg w)) (hc40 mTt) (hc41 mTi) (hc42 mPl) (hc43 mVr) (hc44 mVf) (hc45 mVc) (hc46 mAr) (hc47 mTc) (hc48 mFt) (hc49 mGo) dyn, 0, 0)) rfl (pm_inI (by omega) (by omega)) ?_
              refine pm_go (g := (147, _, [.ref 25], _, 0, 0)) rfl ?_
              refine pm_go (g := (148, _, [.ref 25, .ref 25], _, 0, 0)) rfl ?_
              refine pm_go (g := (151, _, [.int mRn, .ref 25], _, 0, 0)) rfl ?_
              refine pm_go (g := (152, _, [.int 1, .int mRn, .ref 25], _, 0, 0)) rfl ?_
              refine pm_go (g := (153, _, [.int (mRn + 1), .ref 25], _, 0, 0)) rfl ?_
              try have h27 : (mRn + 1).toInt = (mRn).toInt + 1 := iAdd (x := (mRn).toInt) (y := 1) rfl (by decide) (by omega) (by omega)
              refine pm_go (g := (156, _, [], hq g c1 c2 c3 c4 c5 c6 c7 c8 c9 c10 c11 c12 c13 c14 c15 c16 c17 c18 c19 c20 c21 c22 c23 c24 (hc25 mTy mTm mMn mFn (mRn + 1) mTn mVn mLr mTr mFl mFm mFp mSc mMp mEn) (hc26 mPa) (hc27 mTo) (hc28 mOt) (hc29 mNa) (hc30 mRe) (hc31 mMa) (hc32 mMy) (hc33 mPm) (hc34 mFy) (hc35 mFa) (hc36 mFr) (hc37 (upd mFo (mRn).toNatClampNeg f)) (hc38 (upd mRt (mRn).toNatClampNeg t)) (hc39 (upd mRm (mRn).toNatClampNeg w)) (hc40 mTt) (hc41 mTi) (hc42 mPl) (hc43 mVr) (hc44 mVf) (hc45 mVc) (hc46 mAr) (hc47 mTc) (hc48 mFt) (hc49 mGo) dyn, 0, 0)) rfl ?_
              refine pm_go (g := (157, _, [.ref 25], _, 0, 0)) rfl ?_
              refine pm_go (g := (160, _, [.int (mRn + 1)], _, 0, 0)) rfl ?_
              refine pm_go (g := (161, _, [.int 1, .int (mRn + 1)], _, 0, 0)) rfl ?_
              refine pm_go (g := (162, _, [.int ((mRn + 1) - 1)], _, 0, 0)) rfl ?_
              try have h28 : ((mRn + 1) - 1).toInt = (mRn + 1).toInt - 1 := iSub (x := (mRn + 1).toInt) (y := 1) rfl (by decide) (by omega) (by omega)
              first | exact pm_ret rfl (k0 (by omega)) | exact pm_ret rfl (k1 (by omega)) | exact pm_ret rfl (k2 (by omega)) | (exfalso; omega)
            have h26 := qF_ne (cx := (mRn).toInt) (cy := 30) rfl (by decide) h26
            refine pm_go (g := (115, _, [.int (-2)], hq g c1 c2 c3 c4 c5 c6 c7 c8 c9 c10 c11 c12 c13 c14 c15 c16 c17 c18 c19 c20 c21 c22 c23 c24 (hc25 mTy mTm mMn mFn mRn mTn mVn mLr mTr mFl mFm mFp mSc mMp mEn) (hc26 mPa) (hc27 mTo) (hc28 mOt) (hc29 mNa) (hc30 mRe) (hc31 mMa) (hc32 mMy) (hc33 mPm) (hc34 mFy) (hc35 mFa) (hc36 mFr) (hc37 mFo) (hc38 mRt) (hc39 mRm) (hc40 mTt) (hc41 mTi) (hc42 mPl) (hc43 mVr) (hc44 mVf) (hc45 mVc) (hc46 mAr) (hc47 mTc) (hc48 mFt) (hc49 mGo) dyn, 0, 0)) rfl ?_
            first | exact pm_ret rfl (k0 (by omega)) | exact pm_ret rfl (k1 (by omega)) | exact pm_ret rfl (k2 (by omega)) | (exfalso; omega)
          have h25 := qF_ge (cx := (f).toInt) (cy := 3) rfl (by decide) h25
          refine pm_go (g := (94, _, [.int w], _, 0, 0)) rfl ?_
          refine pm_go (g := (95, _, [.int 0, .int w], _, 0, 0)) rfl ?_
          refine pm_go (g := (96, _, [.int 5, .int 0, .int w], _, 0, 0)) rfl ?_
          refine pm_callD (z := 128) (as := [.int w, .int 0, .int 5]) (rest := []) rfl ?_
          have h29 : (0 : Int32).toInt = 0 := by decide
          have h30 : (5 : Int32).toInt = 5 := by decide
          refine w_X12_isIn w 0 5 (fun h31 => ?_) (fun h32 => ?_)
          ·
            show pm_WP 163 (99, [(4, .int 1), (0, .ref 25), (1, .int f), (2, .int t), (3, .int w)], [.int 1], _, 0, 0) _
            refine pm_brT (g := (104, [(4, .int 1), (0, .ref 25), (1, .int f), (2, .int t), (3, .int w)], [], hq g c1 c2 c3 c4 c5 c6 c7 c8 c9 c10 c11 c12 c13 c14 c15 c16 c17 c18 c19 c20 c21 c22 c23 c24 (hc25 mTy mTm mMn mFn mRn mTn mVn mLr mTr mFl mFm mFp mSc mMp mEn) (hc26 mPa) (hc27 mTo) (hc28 mOt) (hc29 mNa) (hc30 mRe) (hc31 mMa) (hc32 mMy) (hc33 mPm) (hc34 mFy) (hc35 mFa) (hc36 mFr) (hc37 mFo) (hc38 mRt) (hc39 mRm) (hc40 mTt) (hc41 mTi) (hc42 mPl) (hc43 mVr) (hc44 mVf) (hc45 mVc) (hc46 mAr) (hc47 mTc) (hc48 mFt) (hc49 mGo) dyn, 0, 0)) rfl ?_
            refine pm_go (g := (105, _, [.ref 25], _, 0, 0)) rfl ?_
            refine pm_go (g := (108, _, [.int mRn], _, 0, 0)) rfl ?_
            refine pm_go (g := (110, _, [.int 30, .int mRn], _, 0, 0)) rfl ?_
            refine pm_if2 (g := (116, [(4, .int 1), (0, .ref 25), (1, .int f), (2, .int t), (3, .int w)], [], hq g c1 c2 c3 c4 c5 c6 c7 c8 c9 c10 c11 c12 c13 c14 c15 c16 c17 c18 c19 c20 c21 c22 c23 c24 (hc25 mTy mTm mMn mFn mRn mTn mVn mLr mTr mFl mFm mFp mSc mMp mEn) (hc26 mPa) (hc27 mTo) (hc28 mOt) (hc29 mNa) (hc30 mRe) (hc31 mMa) (hc32 mMy) (hc33 mPm) (hc34 mFy) (hc35 mFa) (hc36 mFr) (hc37 mFo) (hc38 mRt) (hc39 mRm) (hc40 mTt) (hc41 mTi) (hc42 mPl) (hc43 mVr) (hc44 mVf) (hc45 mVc) (hc46 mAr) (hc47 mTc) (hc48 mFt) (hc49 mGo) dyn, 0, 0)) (h := (113, [(4, .int 1), (0, .ref 25), (1, .int f), (2, .int t), (3, .int w)], [], hq g c1 c2 c3 c4 c5 c6 c7 c8 c9 c10 c11 c12 c13 c14 c15 c16 c17 c18 c19 c20 c21 c22 c23 c24 (hc25 mTy mTm mMn mFn mRn mTn mVn mLr mTr mFl mFm mFp mSc mMp mEn) (hc26 mPa) (hc27 mTo) (hc28 mOt) (hc29 mNa) (hc30 mRe) (hc31 mMa) (hc32 mMy) (hc33 mPm) (hc34 mFy) (hc35 mFa) (hc36 mFr) (hc37 mFo) (hc38 mRt) (hc39 mRm) (hc40 mTt) (hc41 mTi) (hc42 mPl) (hc43 mVr) (hc44 mVf) (hc45 mVc) (hc46 mAr) (hc47 mTc) (hc48 mFt) (hc49 mGo) dyn, 0, 0)) rfl (fun h34 => ?_) (fun h34 => ?_)
            ·
              have h34 := qT_ne (cx := (mRn).toInt) (cy := 30) rfl (by decide) h34
              refine pm_go (g := (117, _, [.ref 25], _, 0, 0)) rfl ?_
              refine pm_go (g := (120, _, [.ref 37], _, 0, 0)) rfl ?_
              refine pm_go (g := (121, _, [.ref 25, .ref 37], _, 0, 0)) rfl ?_
              refine pm_go (g := (124, _, [.int mRn, .ref 37], _, 0, 0)) rfl ?_
              refine pm_go (g := (125, _, [.int f, .int mRn, .ref 37], _, 0, 0)) rfl ?_
              refine pm_sd (g := (126, _, [], hq g c1 c2 c3 c4 c5 c6 c7 c8 c9 c10 c11 c12 c13 c14 c15 c16 c17 c18 c19 c20 c21 c22 c23 c24 (hc25 mTy mTm mMn mFn mRn mTn mVn mLr mTr mFl mFm mFp mSc mMp mEn) (hc26 mPa) (hc27 mTo) (hc28 mOt) (hc29 mNa) (hc30 mRe) (hc31 mMa) (hc32 mMy) (hc33 mPm) (hc34 mFy) (hc35 mFa) (hc36 mFr) (hc37 (upd mFo (mRn).toNatClampNeg f)) (hc38 mRt) (hc39 mRm) (hc40 mTt) (hc41 mTi) (hc42 mPl) (hc43 mVr) (hc44 mVf) (hc45 mVc) (hc46 mAr) (hc47 mTc) (hc48 mFt) (hc49 mGo) dyn, 0, 0)) rfl (pm_inI (by omega) (by omega)) ?_
              refine pm_go (g := (127, _, [.ref 25], _, 0, 0)) rfl ?_
              refine pm_go (g := (130, _, [.ref 38], _, 0, 0)) rfl ?_
              refine pm_go (g := (131, _, [.ref 25, .ref 38], _, 0, 0)) rfl ?_
              refine pm_go (g := (134, _, [.int mRn, .ref 38], _, 0, 0)) rfl ?_
              refine pm_go (g := (135, _, [.int t, .int mRn, .ref 38], _, 0, 0)) rfl ?_
              refine pm_sd (g := (136, _, [], hq g c1 c2 c3 c4 c5 c6 c7 c8 c9 c10 c11 c12 c13 c14 c15 c16 c17 c18 c19 c20 c21 c22 c23 c24 (hc25 mTy mTm mMn mFn mRn mTn mVn mLr mTr mFl mFm mFp mSc mMp mEn) (hc26 mPa) (hc27 mTo) (hc28 mOt) (hc29 mNa) (hc30 mRe) (hc31 mMa) (hc32 mMy) (hc33 mPm) (hc34 mFy) (hc35 mFa) (hc36 mFr) (hc37 (upd mFo (mRn).toNatClampNeg f)) (hc38 (upd mRt (mRn).toNatClampNeg t)) (hc39 mRm) (hc40 mTt) (hc41 mTi) (hc42 mPl) (hc43 mVr) (hc44 mVf) (hc45 mVc) (hc46 mAr) (hc47 mTc) (hc48 mFt) (hc49 mGo) dyn, 0, 0)) rfl (pm_inI (by omega) (by omega)) ?_
              refine pm_go (g := (137, _, [.ref 25], _, 0, 0)) rfl ?_
              refine pm_go (g := (140, _, [.ref 39], _, 0, 0)) rfl ?_
              refine pm_go (g := (141, _, [.ref 25, .ref 39], _, 0, 0)) rfl ?_
              refine pm_go (g := (144, _, [.int mRn, .ref 39], _, 0, 0)) rfl ?_
              refine pm_go (g := (145, _, [.int w, .int mRn, .ref 39], _, 0, 0)) rfl ?_
              refine pm_sd (g := (146, _, [], hq g c1 c2 c3 c4 c5 c6 c7 c8 c9 c10 c11 c12 c13 c14 c15 c16 c17 c18 c19 c20 c21 c22 c23 c24 (hc25 mTy mTm mMn mFn mRn mTn mVn mLr mTr mFl mFm mFp mSc mMp mEn) (hc26 mPa) (hc27 mTo) (hc28 mOt) (hc29 mNa) (hc30 mRe) (hc31 mMa) (hc32 mMy) (hc33 mPm) (hc34 mFy) (hc35 mFa) (hc36 mFr) (hc37 (upd mFo (mRn).toNatClampNeg f)) (hc38 (upd mRt (mRn).toNatClampNeg t)) (hc39 (upd mRm (mRn).toNatClampNeg w)) (hc40 mTt) (hc41 mTi) (hc42 mPl) (hc43 mVr) (hc44 mVf) (hc45 mVc) (hc46 mAr) (hc47 mTc) (hc48 mFt) (hc49 mGo) dyn, 0, 0)) rfl (pm_inI (by omega) (by omega)) ?_
              refine pm_go (g := (147, _, [.ref 25], _, 0, 0)) rfl ?_
              refine pm_go (g := (148, _, [.ref 25, .ref 25], _, 0, 0)) rfl ?_
              refine pm_go (g := (151, _, [.int mRn, .ref 25], _, 0, 0)) rfl ?_
              refine pm_go (g := (152, _, [.int 1, .int mRn, .ref 25], _, 0, 0)) rfl ?_
              refine pm_go (g := (153, _, [.int (mRn + 1), .ref 25], _, 0, 0)) rfl ?_
              try have h35 : (mRn + 1).toInt = (mRn).toInt + 1 := iAdd (x := (mRn).toInt) (y := 1) rfl (by decide) (by omega) (by omega)
              refine pm_go (g := (156, _, [], hq g c1 c2 c3 c4 c5 c6 c7 c8 c9 c10 c11 c12 c13 c14 c15 c16 c17 c18 c19 c20 c21 c22 c23 c24 (hc25 mTy mTm mMn mFn (mRn + 1) mTn mVn mLr mTr mFl mFm mFp mSc mMp mEn) (hc26 mPa) (hc27 mTo) (hc28 mOt) (hc29 mNa) (hc30 mRe) (hc31 mMa) (hc32 mMy) (hc33 mPm) (hc34 mFy) (hc35 mFa) (hc36 mFr) (hc37 (upd mFo (mRn).toNatClampNeg f)) (hc38 (upd mRt (mRn).toNatClampNeg t)) (hc39 (upd mRm (mRn).toNatClampNeg w)) (hc40 mTt) (hc41 mTi) (hc42 mPl) (hc43 mVr) (hc44 mVf) (hc45 mVc) (hc46 mAr) (hc47 mTc) (hc48 mFt) (hc49 mGo) dyn, 0, 0)) rfl ?_
              refine pm_go (g := (157, _, [.ref 25], _, 0, 0)) rfl ?_
              refine pm_go (g := (160, _, [.int (mRn + 1)], _, 0, 0)) rfl ?_
              refine pm_go (g := (161, _, [.int 1, .int (mRn + 1)], _, 0, 0)) rfl ?_
              refine pm_go (g := (162, _, [.int ((mRn + 1) - 1)], _, 0, 0)) rfl ?_
              try have h36 : ((mRn + 1) - 1).toInt = (mRn + 1).toInt - 1 := iSub (x := (mRn + 1).toInt) (y := 1) rfl (by decide) (by omega) (by omega)
              first | exact pm_ret rfl (k0 (by omega)) | exact pm_ret rfl (k1 (by omega)) | exact pm_ret rfl (k2 (by omega)) | (exfalso; omega)
            have h34 := qF_ne (cx := (mRn).toInt) (cy := 30) rfl (by decide) h34
            refine pm_go (g := (115, _, [.int (-2)], hq g c1 c2 c3 c4 c5 c6 c7 c8 c9 c10 c11 c12 c13 c14 c15 c16 c17 c18 c19 c20 c21 c22 c23 c24 (hc25 mTy mTm mMn mFn mRn mTn mVn mLr mTr mFl mFm mFp mSc mMp mEn) (hc26 mPa) (hc27 mTo) (hc28 mOt) (hc29 mNa) (hc30 mRe) (hc31 mMa) (hc32 mMy) (hc33 mPm) (hc34 mFy) (hc35 mFa) (hc36 mFr) (hc37 mFo) (hc38 mRt) (hc39 mRm) (hc40 mTt) (hc41 mTi) (hc42 mPl) (hc43 mVr) (hc44 mVf) (hc45 mVc) (hc46 mAr) (hc47 mTc) (hc48 mFt) (hc49 mGo) dyn, 0, 0)) rfl ?_
            first | exact pm_ret rfl (k0 (by omega)) | exact pm_ret rfl (k1 (by omega)) | exact pm_ret rfl (k2 (by omega)) | (exfalso; omega)
          show pm_WP 163 (99, [(4, .int 1), (0, .ref 25), (1, .int f), (2, .int t), (3, .int w)], [.int 0], hq g c1 c2 c3 c4 c5 c6 c7 c8 c9 c10 c11 c12 c13 c14 c15 c16 c17 c18 c19 c20 c21 c22 c23 c24 (hc25 mTy mTm mMn mFn mRn mTn mVn mLr mTr mFl mFm mFp mSc mMp mEn) (hc26 mPa) (hc27 mTo) (hc28 mOt) (hc29 mNa) (hc30 mRe) (hc31 mMa) (hc32 mMy) (hc33 mPm) (hc34 mFy) (hc35 mFa) (hc36 mFr) (hc37 mFo) (hc38 mRt) (hc39 mRm) (hc40 mTt) (hc41 mTi) (hc42 mPl) (hc43 mVr) (hc44 mVf) (hc45 mVc) (hc46 mAr) (hc47 mTc) (hc48 mFt) (hc49 mGo) dyn, 0, 0) _
          refine pm_brF (h := (102, [(4, .int 1), (0, .ref 25), (1, .int f), (2, .int t), (3, .int w)], [], hq g c1 c2 c3 c4 c5 c6 c7 c8 c9 c10 c11 c12 c13 c14 c15 c16 c17 c18 c19 c20 c21 c22 c23 c24 (hc25 mTy mTm mMn mFn mRn mTn mVn mLr mTr mFl mFm mFp mSc mMp mEn) (hc26 mPa) (hc27 mTo) (hc28 mOt) (hc29 mNa) (hc30 mRe) (hc31 mMa) (hc32 mMy) (hc33 mPm) (hc34 mFy) (hc35 mFa) (hc36 mFr) (hc37 mFo) (hc38 mRt) (hc39 mRm) (hc40 mTt) (hc41 mTi) (hc42 mPl) (hc43 mVr) (hc44 mVf) (hc45 mVc) (hc46 mAr) (hc47 mTc) (hc48 mFt) (hc49 mGo) dyn, 0, 0)) rfl ?_
          refine pm_go (g := (103, _, [.int (-1)], _, 0, 0)) rfl ?_
          first | exact pm_ret rfl (k0 (by omega)) | exact pm_ret rfl (k1 (by omega)) | exact pm_ret rfl (k2 (by omega)) | (exfalso; omega)
        have h8 := qF_ne (cx := (f).toInt) (cy := 3) rfl (by decide) h8
        refine pm_go (g := (55, [(0, .ref 25), (1, .int f), (2, .int t), (3, .int w)], [.ref 25], _, 0, 0)) rfl ?_
        refine pm_go (g := (56, _, [.int t, .ref 25], _, 0, 0)) rfl ?_
        refine pm_callD (z := 130) (as := [.ref 25, .int t]) (rest := []) rfl ?_
        refine w_X12_isOwn t (by omega) (fun h37 => ?_) (fun h38 => ?_)
        ·
          show pm_WP 163 (59, [(0, .ref 25), (1, .int f), (2, .int t), (3, .int w)], [.int 1], _, 0, 0) _
          refine pm_go (g := (81, _, [.int 1], _, 0, 0)) rfl ?_
          refine pm_go (g := (83, [(4, .int 1), (0, .ref 25), (1, .int f), (2, .int t), (3, .int w)], [], _, 0, 0)) rfl ?_
          refine pm_go (g := (85, _, [.int 1], _, 0, 0)) rfl ?_
          refine pm_brF (h := (88, [(4, .int 1), (0, .ref 25), (1, .int f), (2, .int t), (3, .int w)], [], hq g c1 c2 c3 c4 c5 c6 c7 c8 c9 c10 c11 c12 c13 c14 c15 c16 c17 c18 c19 c20 c21 c22 c23 c24 (hc25 mTy mTm mMn mFn mRn mTn mVn mLr mTr mFl mFm mFp mSc mMp mEn) (hc26 mPa) (hc27 mTo) (hc28 mOt) (hc29 mNa) (hc30 mRe) (hc31 mMa) (hc32 mMy) (hc33 mPm) (hc34 mFy) (hc35 mFa) (hc36 mFr) (hc37 mFo) (hc38 mRt) (hc39 mRm) (hc40 mTt) (hc41 mTi) (hc42 mPl) (hc43 mVr) (hc44 mVf) (hc45 mVc) (hc46 mAr) (hc47 mTc) (hc48 mFt) (hc49 mGo) dyn, 0, 0)) rfl ?_
          refine pm_go (g := (89, _, [.int f], _, 0, 0)) rfl ?_
          refine pm_go (g := (90, _, [.int 3, .int f], _, 0, 0)) rfl ?_
          refine pm_if2 (g := (104, [(4, .int 1), (0, .ref 25), (1, .int f), (2, .int t), (3, .int w)], [], hq g c1 c2 c3 c4 c5 c6 c7 c8 c9 c10 c11 c12 c13 c14 c15 c16 c17 c18 c19 c20 c21 c22 c23 c24 (hc25 mTy mTm mMn mFn mRn mTn mVn mLr mTr mFl mFm mFp mSc mMp mEn) (hc26 mPa) (hc27 mTo) (hc28 mOt) (hc29 mNa) (hc30 mRe) (hc31 mMa) (hc32 mMy) (hc33 mPm) (hc34 mFy) (hc35 mFa) (hc36 mFr) (hc37 mFo) (hc38 mRt) (hc39 mRm) (hc40 mTt) (hc41 mTi) (hc42 mPl) (hc43 mVr) (hc44 mVf) (hc45 mVc) (hc46 mAr) (hc47 mTc) (hc48 mFt) (hc49 mGo) dyn, 0, 0)) (h := (93, [(4, .int 1), (0, .ref 25), (1, .int f), (2, .int t), (3, .int w)], [], hq g c1 c2 c3 c4 c5 c6 c7 c8 c9 c10 c11 c12 c13 c14 c15 c16 c17 c18 c19 c20 c21 c22 c23 c24 (hc25 mTy mTm mMn mFn mRn mTn mVn mLr mTr mFl mFm mFp mSc mMp mEn) (hc26 mPa) (hc27 mTo) (hc28 mOt) (hc29 mNa) (hc30 mRe) (hc31 mMa) (hc32 mMy) (hc33 mPm) (hc34 mFy) (hc35 mFa) (hc36 mFr) (hc37 mFo) (hc38 mRt) (hc39 mRm) (hc40 mTt) (hc41 mTi) (hc42 mPl) (hc43 mVr) (hc44 mVf) (hc45 mVc) (hc46 mAr) (hc47 mTc) (hc48 mFt) (hc49 mGo) dyn, 0, 0)) rfl (fun h40 => ?_) (fun h40 => ?_)
          ·
            have h40 := qT_ge (cx := (f).toInt) (cy := 3) rfl (by decide) h40
            refine pm_go (g := (105, _, [.ref 25], _, 0, 0)) rfl ?_
            refine pm_go (g := (108, _, [.int mRn], _, 0, 0)) rfl ?_
            refine pm_go (g := (110, _, [.int 30, .int mRn], _, 0, 0)) rfl ?_
            refine pm_if2 (g := (116, [(4, .int 1), (0, .ref 25), (1, .int f), (2, .int t), (3, .int w)], [], hq g c1 c2 c3 c4 c5 c6 c7 c8 c9 c10 c11 c12 c13 c14 c15 c16 c17 c18 c19 c20 c21 c22 c23 c24 (hc25 mTy mTm mMn mFn mRn mTn mVn mLr mTr mFl mFm mFp mSc mMp mEn) (hc26 mPa) (hc27 mTo) (hc28 mOt) (hc29 mNa) (hc30 mRe) (hc31 mMa) (hc32 mMy) (hc33 mPm) (hc34 mFy) (hc35 mFa) (hc36 mFr) (hc37 mFo) (hc38 mRt) (hc39 mRm) (hc40 mTt) (hc41 mTi) (hc42 mPl) (hc43 mVr) (hc44 mVf) (hc45 mVc) (hc46 mAr) (hc47 mTc) (hc48 mFt) (hc49 mGo) dyn, 0, 0)) (h := (113, [(4, .int 1), (0, .ref 25), (1, .int f), (2, .int t), (3, .int w)], [], hq g c1 c2 c3 c4 c5 c6 c7 c8 c9 c10 c11 c12 c13 c14 c15 c16 c17 c18 c19 c20 c21 c22 c23 c24 (hc25 mTy mTm mMn mFn mRn mTn mVn mLr mTr mFl mFm mFp mSc mMp mEn) (hc26 mPa) (hc27 mTo) (hc28 mOt) (hc29 mNa) (hc30 mRe) (hc31 mMa) (hc32 mMy) (hc33 mPm) (hc34 mFy) (hc35 mFa) (hc36 mFr) (hc37 mFo) (hc38 mRt) (hc39 mRm) (hc40 mTt) (hc41 mTi) (hc42 mPl) (hc43 mVr) (hc44 mVf) (hc45 mVc) (hc46 mAr) (hc47 mTc) (hc48 mFt) (hc49 mGo) dyn, 0, 0)) rfl (fun h41 => ?_) (fun h41 => ?_)
            ·
              have h41 := qT_ne (cx := (mRn).toInt) (cy := 30) rfl (by decide) h41
              refine pm_go (g := (117, _, [.ref 25], _, 0, 0)) rfl ?_
              refine pm_go (g := (120, _, [.ref 37], _, 0, 0)) rfl ?_
              refine pm_go (g := (121, _, [.ref 25, .ref 37], _, 0, 0)) rfl ?_
              refine pm_go (g := (124, _, [.int mRn, .ref 37], _, 0, 0)) rfl ?_
              refine pm_go (g := (125, _, [.int f, .int mRn, .ref 37], _, 0, 0)) rfl ?_
              refine pm_sd (g := (126, _, [], hq g c1 c2 c3 c4 c5 c6 c7 c8 c9 c10 c11 c12 c13 c14 c15 c16 c17 c18 c19 c20 c21 c22 c23 c24 (hc25 mTy mTm mMn mFn mRn mTn mVn mLr mTr mFl mFm mFp mSc mMp mEn) (hc26 mPa) (hc27 mTo) (hc28 mOt) (hc29 mNa) (hc30 mRe) (hc31 mMa) (hc32 mMy) (hc33 mPm) (hc34 mFy) (hc35 mFa) (hc36 mFr) (hc37 (upd mFo (mRn).toNatClampNeg f)) (hc38 mRt) (hc39 mRm) (hc40 mTt) (hc41 mTi) (hc42 mPl) (hc43 mVr) (hc44 mVf) (hc45 mVc) (hc46 mAr) (hc47 mTc) (hc48 mFt) (hc49 mGo) dyn, 0, 0)) rfl (pm_inI (by omega) (by omega)) ?_
              refine pm_go (g := (127, _, [.ref 25], _, 0, 0)) rfl ?_
              refine pm_go (g := (130, _, [.ref 38], _, 0, 0)) rfl ?_
              refine pm_go (g := (131, _, [.ref 25, .ref 38], _, 0, 0)) rfl ?_
              refine pm_go (g := (134, _, [.int mRn, .ref 38], _, 0, 0)) rfl ?_
              refine pm_go (g := (135, _, [.int t, .int mRn, .ref 38], _, 0, 0)) rfl ?_
              refine pm_sd (g := (136, _, [], hq g c1 c2 c3 c4 c5 c6 c7 c8 c9 c10 c11 c12 c13 c14 c15 c16 c17 c18 c19 c20 c21 c22 c23 c24 (hc25 mTy mTm mMn mFn mRn mTn mVn mLr mTr mFl mFm mFp mSc mMp mEn) (hc26 mPa) (hc27 mTo) (hc28 mOt) (hc29 mNa) (hc30 mRe) (hc31 mMa) (hc32 mMy) (hc33 mPm) (hc34 mFy) (hc35 mFa) (hc36 mFr) (hc37 (upd mFo (mRn).toNatClampNeg f)) (hc38 (upd mRt (mRn).toNatClampNeg t)) (hc39 mRm) (hc40 mTt) (hc41 mTi) (hc42 mPl) (hc43 mVr) (hc44 mVf) (hc45 mVc) (hc46 mAr) (hc47 mTc) (hc48 mFt) (hc49 mGo) dyn, 0, 0)) rfl (pm_inI (by omega) (by omega)) ?_
              refine pm_go (g := (137, _, [.ref 25], _, 0, 0)) rfl ?_
              refine pm_go (g := (140, _, [.ref 39], _, 0, 0)) rfl ?_
              refine pm_go (g := (141, _, [.ref 25, .ref 39], _, 0, 0)) rfl ?_
              refine pm_go (g := (144, _, [.int mRn, .ref 39], _, 0, 0)) rfl ?_
              refine pm_go (g := (145, _, [.int w, .int mRn, .ref 39], _, 0, 0)) rfl ?_
              refine pm_sd (g := (146, _, [], hq g c1 c2 c3 c4 c5 c6 c7 c8 c9 c10 c11 c12 c13 c14 c15 c16 c17 c18 c19 c20 c21 c22 c23 c24 (hc25 mTy mTm mMn mFn mRn mTn mVn mLr mTr mFl mFm mFp mSc mMp mEn) (hc26 mPa) (hc27 mTo) (hc28 mOt) (hc29 mNa) (hc30 mRe) (hc31 mMa) (hc32 mMy) (hc33 mPm) (hc34 mFy) (hc35 mFa) (hc36 mFr) (hc37 (upd mFo (mRn).toNatClampNeg f)) (hc38 (upd mRt (mRn).toNatClampNeg t)) (hc39 (upd mRm (mRn).toNatClampNeg w)) (hc40 mTt) (hc41 mTi) (hc42 mPl) (hc43 mVr) (hc44 mVf) (hc45 mVc) (hc46 mAr) (hc47 mTc) (hc48 mFt) (hc49 mGo) dyn, 0, 0)) rfl (pm_inI (by omega) (by omega)) ?_
              refine pm_go (g := (147, _, [.ref 25], _, 0, 0)) rfl ?_
              refine pm_go (g := (148, _, [.ref 25, .ref 25], _, 0, 0)) rfl ?_
              refine pm_go (g := (151, _, [.int mRn, .ref 25], _, 0, 0)) rfl ?_
              refine pm_go (g := (152, _, [.int 1, .int mRn, .ref 25], _, 0, 0)) rfl ?_
              refine pm_go (g := (153, _, [.int (mRn + 1), .ref 25], _, 0, 0)) rfl ?_
              try have h42 : (mRn + 1).toInt = (mRn).toInt + 1 := iAdd (x := (mRn).toInt) (y := 1) rfl (by decide) (by omega) (by omega)
              refine pm_go (g := (156, _, [], hq g c1 c2 c3 c4 c5 c6 c7 c8 c9 c10 c11 c12 c13 c14 c15 c16 c17 c18 c19 c20 c21 c22 c23 c24 (hc25 mTy mTm mMn mFn (mRn + 1) mTn mVn mLr mTr mFl mFm mFp mSc mMp mEn) (hc26 mPa) (hc27 mTo) (hc28 mOt) (hc29 mNa) (hc30 mRe) (hc31 mMa) (hc32 mMy) (hc33 mPm) (hc34 mFy) (hc35 mFa) (hc36 mFr) (hc37 (upd mFo (mRn).toNatClampNeg f)) (hc38 (upd mRt (mRn).toNatClampNeg t)) (hc39 (upd mRm (mRn).toNatClampNeg w)) (hc40 mTt) (hc41 mTi) (hc42 mPl) (hc43 mVr) (hc44 mVf) (hc45 mVc) (hc46 mAr) (hc47 mTc) (hc48 mFt) (hc49 mGo) dyn, 0, 0)) rfl ?_
              refine pm_go (g := (157, _, [.ref 25], _, 0, 0)) rfl ?_
              refine pm_go (g := (160, _, [.int (mRn + 1)], _, 0, 0)) rfl ?_
              refine pm_go (g := (161, _, [.int 1, .int (mRn + 1)], _, 0, 0)) rfl ?_
              refine pm_go (g := (162, _, [.int ((mRn + 1) - 1)], _, 0, 0)) rfl ?_
              try have h43 : ((mRn + 1) - 1).toInt = (mRn + 1).toInt - 1 := iSub (x := (mRn + 1).toInt) (y := 1) rfl (by decide) (by omega) (by omega)
              first | exact pm_ret rfl (k0 (by omega)) | exact pm_ret rfl (k1 (by omega)) | exact pm_ret rfl (k2 (by omega)) | (exfalso; omega)
            have h41 := qF_ne (cx := (mRn).toInt) (cy := 30) rfl (by decide) h41
            refine pm_go (g := (115, _, [.int (-2)], hq g c1 c2 c3 c4 c5 c6 c7 c8 c9 c10 c11 c12 c13 c14 c15 c16 c17 c18 c19 c20 c21 c22 c23 c24 (hc25 mTy mTm mMn mFn mRn mTn mVn mLr mTr mFl mFm mFp mSc mMp mEn) (hc26 mPa) (hc27 mTo) (hc28 mOt) (hc29 mNa) (hc30 mRe) (hc31 mMa) (hc32 mMy) (hc33 mPm) (hc34 mFy) (hc35 mFa) (hc36 mFr) (hc37 mFo) (hc38 mRt) (hc39 mRm) (hc40 mTt) (hc41 mTi) (hc42 mPl) (hc43 mVr) (hc44 mVf) (hc45 mVc) (hc46 mAr) (hc47 mTc) (hc48 mFt) (hc49 mGo) dyn, 0, 0)) rfl ?_
            first | exact pm_ret rfl (k0 (by omega)) | exact pm_ret rfl (k1 (by omega)) | exact pm_ret rfl (k2 (by omega)) | (exfalso; omega)
          have h40 := qF_ge (cx := (f).toInt) (cy := 3) rfl (by decide) h40
          refine pm_go (g := (94, _, [.int w], _, 0, 0)) rfl ?_
          refine pm_go (g := (95, _, [.int 0, .int w], _, 0, 0)) rfl ?_
          refine pm_go (g := (96, _, [.int 5, .int 0, .int w], _, 0, 0)) rfl ?_
          refine pm_callD (z := 128) (as := [.int w, .int 0, .int 5]) (rest := []) rfl ?_
          have h44 : (0 : Int32).toInt = 0 := by decide
          have h45 : (5 : Int32).toInt = 5 := by decide
          refine w_X12_isIn w 0 5 (fun h46 => ?_) (fun h47 => ?_)
          ·
            show pm_WP 163 (99, [(4, .int 1), (0, .ref 25), (1, .int f), (2, .int t), (3, .int w)], [.int 1], _, 0, 0) _
            refine pm_brT (g := (104, [(4, .int 1), (0, .ref 25), (1, .int f), (2, .int t), (3, .int w)], [], hq g c1 c2 c3 c4 c5 c6 c7 c8 c9 c10 c11 c12 c13 c14 c15 c16 c17 c18 c19 c20 c21 c22 c23 c24 (hc25 mTy mTm mMn mFn mRn mTn mVn mLr mTr mFl mFm mFp mSc mMp mEn) (hc26 mPa) (hc27 mTo) (hc28 mOt) (hc29 mNa) (hc30 mRe) (hc31 mMa) (hc32 mMy) (hc33 mPm) (hc34 mFy) (hc35 mFa) (hc36 mFr) (hc37 mFo) (hc38 mRt) (hc39 mRm) (hc40 mTt) (hc41 mTi) (hc42 mPl) (hc43 mVr) (hc44 mVf) (hc45 mVc) (hc46 mAr) (hc47 mTc) (hc48 mFt) (hc49 mGo) dyn, 0, 0)) rfl ?_
            refine pm_go (g := (105, _, [.ref 25], _, 0, 0)) rfl ?_
            refine pm_go (g := (108, _, [.int mRn], _, 0, 0)) rfl ?_
            refine pm_go (g := (110, _, [.int 30, .int mRn], _, 0, 0)) rfl ?_
            refine pm_if2 (g := (116, [(4, .int 1), (0, .ref 25), (1, .int f), (2, .int t), (3, .int w)], [], hq g c1 c2 c3 c4 c5 c6 c7 c8 c9 c10 c11 c12 c13 c14 c15 c16 c17 c18 c19 c20 c21 c22 c23 c24 (hc25 mTy mTm mMn mFn mRn mTn mVn mLr mTr mFl mFm mFp mSc mMp mEn) (hc26 mPa) (hc27 mTo) (hc28 mOt) (hc29 mNa) (hc30 mRe) (hc31 mMa) (hc32 mMy) (hc33 mPm) (hc34 mFy) (hc35 mFa) (hc36 mFr) (hc37 mFo) (hc38 mRt) (hc39 mRm) (hc40 mTt) (hc41 mTi) (hc42 mPl) (hc43 mVr) (hc44 mVf) (hc45 mVc) (hc46 mAr) (hc47 mTc) (hc48 mFt) (hc49 mGo) dyn, 0, 0)) (h := (113, [(4, .int 1), (0, .ref 25), (1, .int f), (2, .int t), (3, .int w)], [], hq g c1 c2 c3 c4 c5 c6 c7 c8 c9 c10 c11 c12 c13 c14 c15 c16 c17 c18 c19 c20 c21 c22 c23 c24 (hc25 mTy mTm mMn mFn mRn mTn mVn mLr mTr mFl mFm mFp mSc mMp mEn) (hc26 mPa) (hc27 mTo) (hc28 mOt) (hc29 mNa) (hc30 mRe) (hc31 mMa) (hc32 mMy) (hc33 mPm) (hc34 mFy) (hc35 mFa) (hc36 mFr) (hc37 mFo) (hc38 mRt) (hc39 mRm) (hc40 mTt) (hc41 mTi) (hc42 mPl) (hc43 mVr) (hc44 mVf) (hc45 mVc) (hc46 mAr) (hc47 mTc) (hc48 mFt) (hc49 mGo) dyn, 0, 0)) rfl (fun h49 => ?_) (fun h49 => ?_)
            ·
              have h49 := qT_ne (cx := (mRn).toInt) (cy := 30) rfl (by decide) h49
              refine pm_go (g := (117, _, [.ref 25], _, 0, 0)) rfl ?_
              refine pm_go (g := (120, _, [.ref 37], _, 0, 0)) rfl ?_
              refine pm_go (g := (121, _, [.ref 25, .ref 37], _, 0, 0)) rfl ?_
              refine pm_go (g := (124, _, [.int mRn, .ref 37], _, 0, 0)) rfl ?_
              refine pm_go (g := (125, _, [.int f, .int mRn, .ref 37], _, 0, 0)) rfl ?_
              refine pm_sd (g := (126, _, [], hq g c1 c2 c3 c4 c5 c6 c7 c8 c9 c10 c11 c12 c13 c14 c15 c16 c17 c18 c19 c20 c21 c22 c23 c24 (hc25 mTy mTm mMn mFn mRn mTn mVn mLr mTr mFl mFm mFp mSc mMp mEn) (hc26 mPa) (hc27 mTo) (hc28 mOt) (hc29 mNa) (hc30 mRe) (hc31 mMa) (hc32 mMy) (hc33 mPm) (hc34 mFy) (hc35 mFa) (hc36 mFr) (hc37 (upd mFo (mRn).toNatClampNeg f)) (hc38 mRt) (hc39 mRm) (hc40 mTt) (hc41 mTi) (hc42 mPl) (hc43 mVr) (hc44 mVf) (hc45 mVc) (hc46 mAr) (hc47 mTc) (hc48 mFt) (hc49 mGo) dyn, 0, 0)) rfl (pm_inI (by omega) (by omega)) ?_
              refine pm_go (g := (127, _, [.ref 25], _, 0, 0)) rfl ?_
              refine pm_go (g := (130, _, [.ref 38], _, 0, 0)) rfl ?_
              refine pm_go (g := (131, _, [.ref 25, .ref 38], _, 0, 0)) rfl ?_
              refine pm_go (g := (134, _, [.int mRn, .ref 38], _, 0, 0)) rfl ?_
              refine pm_go (g := (135, _, [.int t, .int mRn, .ref 38], _, 0, 0)) rfl ?_
              refine pm_sd (g := (136, _, [], hq g c1 c2 c3 c4 c5 c6 c7 c8 c9 c10 c11 c12 c13 c14 c15 c16 c17 c18 c19 c20 c21 c22 c23 c24 (hc25 mTy mTm mMn mFn mRn mTn mVn mLr mTr mFl mFm mFp mSc mMp mEn) (hc26 mPa) (hc27 mTo) (hc28 mOt) (hc29 mNa) (hc30 mRe) (hc31 mMa) (hc32 mMy) (hc33 mPm) (hc34 mFy) (hc35 mFa) (hc36 mFr) (hc37 (upd mFo (mRn).toNatClampNeg f)) (hc38 (upd mRt (mRn).toNatClampNeg t)) (hc39 mRm) (hc40 mTt) (hc41 mTi) (hc42 mPl) (hc43 mVr) (hc44 mVf) (hc45 mVc) (hc46 mAr) (hc47 mTc) (hc48 mFt) (hc49 mGo) dyn, 0, 0)) rfl (pm_inI (by omega) (by omega)) ?_
              refine pm_go (g := (137, _, [.ref 25], _, 0, 0)) rfl ?_
              refine pm_go (g := (140, _, [.ref 39], _, 0, 0)) rfl ?_
              refine pm_go (g := (141, _, [.ref 25, .ref 39], _, 0, 0)) rfl ?_
              refine pm_go (g := (144, _, [.int mRn, .ref 39], _, 0, 0)) rfl ?_
              refine pm_go (g := (145, _, [.int w, .int mRn, .ref 39], _, 0, 0)) rfl ?_
              refine pm_sd (g := (146, _, [], hq g c1 c2 c3 c4 c5 c6 c7 c8 c9 c10 c11 c12 c13 c14 c15 c16 c17 c18 c19 c20 c21 c22 c23 c24 (hc25 mTy mTm mMn mFn mRn mTn mVn mLr mTr mFl mFm mFp mSc mMp mEn) (hc26 mPa) (hc27 mTo) (hc28 mOt) (hc29 mNa) (hc30 mRe) (hc31 mMa) (hc32 mMy) (hc33 mPm) (hc34 mFy) (hc35 mFa) (hc36 mFr) (hc37 (upd mFo (mRn).toNatClampNeg f)) (hc38 (upd mRt (mRn).toNatClampNeg t)) (hc39 (upd mRm (mRn).toNatClampNeg w)) (hc40 mTt) (hc41 mTi) (hc42 mPl) (hc43 mVr) (hc44 mVf) (hc45 mVc) (hc46 mAr) (hc47 mTc) (hc48 mFt) (hc49 mGo) dyn, 0, 0)) rfl (pm_inI (by omega) (by omega)) ?_
              refine pm_go (g := (147, _, [.ref 25], _, 0, 0)) rfl ?_
              refine pm_go (g := (148, _, [.ref 25, .ref 25], _, 0, 0)) rfl ?_
              refine pm_go (g := (151, _, [.int mRn, .ref 25], _, 0, 0)) rfl ?_
              refine pm_go (g := (152, _, [.int 1, .int mRn, .ref 25], _, 0, 0)) rfl ?_
              refine pm_go (g := (153, _, [.int (mRn + 1), .ref 25], _, 0, 0)) rfl ?_
              try have h50 : (mRn + 1).toInt = (mRn).toInt + 1 := iAdd (x := (mRn).toInt) (y := 1) rfl (by decide) (by omega) (by omega)
              refine pm_go (g := (156, _, [], hq g c1 c2 c3 c4 c5 c6 c7 c8 c9 c10 c11 c12 c13 c14 c15 c16 c17 c18 c19 c20 c21 c22 c23 c24 (hc25 mTy mTm mMn mFn (mRn + 1) mTn mVn mLr mTr mFl mFm mFp mSc mMp mEn) (hc26 mPa) (hc27 mTo) (hc28 mOt) (hc29 mNa) (hc30 mRe) (hc31 mMa) (hc32 mMy) (hc33 mPm) (hc34 mFy) (hc35 mFa) (hc36 mFr) (hc37 (upd mFo (mRn).toNatClampNeg f)) (hc38 (upd mRt (mRn).toNatClampNeg t)) (hc39 (upd mRm (mRn).toNatClampNeg w)) (hc40 mTt) (hc41 mTi) (hc42 mPl) (hc43 mVr) (hc44 mVf) (hc45 mVc) (hc46 mAr) (hc47 mTc) (hc48 mFt) (hc49 mGo) dyn, 0, 0)) rfl ?_
              refine pm_go (g := (157, _, [.ref 25], _, 0, 0)) rfl ?_
              refine pm_go (g := (160, _, [.int (mRn + 1)], _, 0, 0)) rfl ?_
              refine pm_go (g := (161, _, [.int 1, .int (mRn + 1)], _, 0, 0)) rfl ?_
              refine pm_go (g := (162, _, [.int ((mRn + 1) - 1)], _, 0, 0)) rfl ?_
              try have h51 : ((mRn + 1) - 1).toInt = (mRn + 1).toInt - 1 := iSub (x := (mRn + 1).toInt) (y := 1) rfl (by decide) (by omega) (by omega)
              first | exact pm_ret rfl (k0 (by omega)) | exact pm_ret rfl (k1 (by omega)) | exact pm_ret rfl (k2 (by omega)) | (exfalso; omega)
            have h49 := qF_ne (cx := (mRn).toInt) (cy := 30) rfl (by decide) h49
            refine pm_go (g := (115, _, [.int (-2)], hq g c1 c2 c3 c4 c5 c6 c7 c8 c9 c10 c11 c12 c13 c14 c15 c16 c17 c18 c19 c20 c21 c22 c23 c24 (hc25 mTy mTm mMn mFn mRn mTn mVn mLr mTr mFl mFm mFp mSc mMp mEn) (hc26 mPa) (hc27 mTo) (hc28 mOt) (hc29 mNa) (hc30 mRe) (hc31 mMa) (hc32 mMy) (hc33 mPm) (hc34 mFy) (hc35 mFa) (hc36 mFr) (hc37 mFo) (hc38 mRt) (hc39 mRm) (hc40 mTt) (hc41 mTi) (hc42 mPl) (hc43 mVr) (hc44 mVf) (hc45 mVc) (hc46 mAr) (hc47 mTc) (hc48 mFt) (hc49 mGo) dyn, 0, 0)) rfl ?_
            first | exact pm_ret rfl (k0 (by omega)) | exact pm_ret rfl (k1 (by omega)) | exact pm_ret rfl (k2 (by omega)) | (exfalso; omega)
          show pm_WP 163 (99, [(4, .int 1), (0, .ref 25), (1, .int f), (2, .int t), (3, .int w)], [.int 0], hq g c1 c2 c3 c4 c5 c6 c7 c8 c9 c10 c11 c12 c13 c14 c15 c16 c17 c18 c19 c20 c21 c22 c23 c24 (hc25 mTy mTm mMn mFn mRn mTn mVn mLr mTr mFl mFm mFp mSc mMp mEn) (hc26 mPa) (hc27 mTo) (hc28 mOt) (hc29 mNa) (hc30 mRe) (hc31 mMa) (hc32 mMy) (hc33 mPm) (hc34 mFy) (hc35 mFa) (hc36 mFr) (hc37 mFo) (hc38 mRt) (hc39 mRm) (hc40 mTt) (hc41 mTi) (hc42 mPl) (hc43 mVr) (hc44 mVf) (hc45 mVc) (hc46 mAr) (hc47 mTc) (hc48 mFt) (hc49 mGo) dyn, 0, 0) _
          refine pm_brF (h := (102, [(4, .int 1), (0, .ref 25), (1, .int f), (2, .int t), (3, .int w)], [], hq g c1 c2 c3 c4 c5 c6 c7 c8 c9 c10 c11 c12 c13 c14 c15 c16 c17 c18 c19 c20 c21 c22 c23 c24 (hc25 mTy mTm mMn mFn mRn mTn mVn mLr mTr mFl mFm mFp mSc mMp mEn) (hc26 mPa) (hc27 mTo) (hc28 mOt) (hc29 mNa) (hc30 mRe) (hc31 mMa) (hc32 mMy) (hc33 mPm) (hc34 mFy) (hc35 mFa) (hc36 mFr) (hc37 mFo) (hc38 mRt) (hc39 mRm) (hc40 mTt) (hc41 mTi) (hc42 mPl) (hc43 mVr) (hc44 mVf) (hc45 mVc) (hc46 mAr) (hc47 mTc) (hc48 mFt) (hc49 mGo) dyn, 0, 0)) rfl ?_
          refine pm_go (g := (103, _, [.int (-1)], _, 0, 0)) rfl ?_
          first | exact pm_ret rfl (k0 (by omega)) | exact pm_ret rfl (k1 (by omega)) | exact pm_ret rfl (k2 (by omega)) | (exfalso; omega)
        show pm_WP 163 (59, [(0, .ref 25), (1, .int f), (2, .int t), (3, .int w)], [.int 0], hq g c1 c2 c3 c4 c5 c6 c7 c8 c9 c10 c11 c12 c13 c14 c15 c16 c17 c18 c19 c20 c21 c22 c23 c24 (hc25 mTy mTm mMn mFn mRn mTn mVn mLr mTr mFl mFm mFp mSc mMp mEn) (hc26 mPa) (hc27 mTo) (hc28 mOt) (hc29 mNa) (hc30 mRe) (hc31 mMa) (hc32 mMy) (hc33 mPm) (hc34 mFy) (hc35 mFa) (hc36 mFr) (hc37 mFo) (hc38 mRt) (hc39 mRm) (hc40 mTt) (hc41 mTi) (hc42 mPl) (hc43 mVr) (hc44 mVf) (hc45 mVc) (hc46 mAr) (hc47 mTc) (hc48 mFt) (hc49 mGo) dyn, 0, 0) _
        refine pm_go (g := (81, _, [.int 0], _, 0, 0)) rfl ?_
        refine pm_go (g := (83, [(4, .int 0), (0, .ref 25), (1, .int f), (2, .int t), (3, .int w)], [], _, 0, 0)) rfl ?_
        refine pm_go (g := (85, _, [.int 0], _, 0, 0)) rfl ?_
        refine pm_brT (g := (102, [(4, .int 0), (0, .ref 25), (1, .int f), (2, .int t), (3, .int w)], [], hq g c1 c2 c3 c4 c5 c6 c7 c8 c9 c10 c11 c12 c13 c14 c15 c16 c17 c18 c19 c20 c21 c22 c23 c24 (hc25 mTy mTm mMn mFn mRn mTn mVn mLr mTr mFl mFm mFp mSc mMp mEn) (hc26 mPa) (hc27 mTo) (hc28 mOt) (hc29 mNa) (hc30 mRe) (hc31 mMa) (hc32 mMy) (hc33 mPm) (hc34 mFy) (hc35 mFa) (hc36 mFr) (hc37 mFo) (hc38 mRt) (hc39 mRm) (hc40 mTt) (hc41 mTi) (hc42 mPl) (hc43 mVr) (hc44 mVf) (hc45 mVc) (hc46 mAr) (hc47 mTc) (hc48 mFt) (hc49 mGo) dyn, 0, 0)) rfl ?_
        refine pm_go (g := (103, _, [.int (-1)], _, 0, 0)) rfl ?_
        first | exact pm_ret rfl (k0 (by omega)) | exact pm_ret rfl (k1 (by omega)) | exact pm_ret rfl (k2 (by omega)) | (exfalso; omega)
      have h7 := qF_ne (cx := (f).toInt) (cy := 2) rfl (by decide) h7
      refine pm_go (g := (30, [(0, .ref 25), (1, .int f), (2, .int t), (3, .int w)], [.ref 25], _, 0, 0)) rfl ?_
      refine pm_go (g := (31, _, [.int t, .ref 25], _, 0, 0)) rfl ?_
      refine pm_callD (z := 129) (as := [.ref 25, .int t]) (rest := []) rfl ?_
      refine w_X12_isClass t (by omega) (fun h52 => ?_) (fun h53 => ?_)
      ·
        show pm_WP 163 (34, [(0, .ref 25), (1, .int f), (2, .int t), (3, .int w)], [.int 1], _, 0, 0) _
        refine pm_brF (h := (37, [(0, .ref 25), (1, .int f), (2, .int t), (3, .int w)], [], hq g c1 c2 c3 c4 c5 c6 c7 c8 c9 c10 c11 c12 c13 c14 c15 c16 c17 c18 c19 c20 c21 c22 c23 c24 (hc25 mTy mTm mMn mFn mRn mTn mVn mLr mTr mFl mFm mFp mSc mMp mEn) (hc26 mPa) (hc27 mTo) (hc28 mOt) (hc29 mNa) (hc30 mRe) (hc31 mMa) (hc32 mMy) (hc33 mPm) (hc34 mFy) (hc35 mFa) (hc36 mFr) (hc37 mFo) (hc38 mRt) (hc39 mRm) (hc40 mTt) (hc41 mTi) (hc42 mPl) (hc43 mVr) (hc44 mVf) (hc45 mVc) (hc46 mAr) (hc47 mTc) (hc48 mFt) (hc49 mGo) dyn, 0, 0)) rfl ?_
        refine pm_go (g := (38, _, [.int t], _, 0, 0)) rfl ?_
        refine pm_if2 (g := (45, [(0, .ref 25), (1, .int f), (2, .int t), (3, .int w)], [], hq g c1 c2 c3 c4 c5 c6 c7 c8 c9 c10 c11 c12 c13 c14 c15 c16 c17 c18 c19 c20 c21 c22 c23 c24 (hc25 mTy mTm mMn mFn mRn mTn mVn mLr mTr mFl mFm mFp mSc mMp mEn) (hc26 mPa) (hc27 mTo) (hc28 mOt) (hc29 mNa) (hc30 mRe) (hc31 mMa) (hc32 mMy) (hc33 mPm) (hc34 mFy) (hc35 mFa) (hc36 mFr) (hc37 mFo) (hc38 mRt) (hc39 mRm) (hc40 mTt) (hc41 mTi) (hc42 mPl) (hc43 mVr) (hc44 mVf) (hc45 mVc) (hc46 mAr) (hc47 mTc) (hc48 mFt) (hc49 mGo) dyn, 0, 0)) (h := (41, [(0, .ref 25), (1, .int f), (2, .int t), (3, .int w)], [], hq g c1 c2 c3 c4 c5 c6 c7 c8 c9 c10 c11 c12 c13 c14 c15 c16 c17 c18 c19 c20 c21 c22 c23 c24 (hc25 mTy mTm mMn mFn mRn mTn mVn mLr mTr mFl mFm mFp mSc mMp mEn) (hc26 mPa) (hc27 mTo) (hc28 mOt) (hc29 mNa) (hc30 mRe) (hc31 mMa) (hc32 mMy) (hc33 mPm) (hc34 mFy) (hc35 mFa) (hc36 mFr) (hc37 mFo) (hc38 mRt) (hc39 mRm) (hc40 mTt) (hc41 mTi) (hc42 mPl) (hc43 mVr) (hc44 mVf) (hc45 mVc) (hc46 mAr) (hc47 mTc) (hc48 mFt) (hc49 mGo) dyn, 0, 0)) rfl (fun h55 => ?_) (fun h55 => ?_)
        ·
          have h55 := qT_eq (cx := (t).toInt) (cy := 0) rfl (by decide) h55
          refine pm_go (g := (46, _, [.int 0], _, 0, 0)) rfl ?_
          refine pm_go (g := (81, _, [.int 0], _, 0, 0)) rfl ?_
          refine pm_go (g := (83, [(4, .int 0), (0, .ref 25), (1, .int f), (2, .int t), (3, .int w)], [], _, 0, 0)) rfl ?_
          refine pm_go (g := (85, _, [.int 0], _, 0, 0)) rfl ?_
          refine pm_brT (g := (102, [(4, .int 0), (0, .ref 25), (1, .int f), (2, .int t), (3, .int w)], [], hq g c1 c2 c3 c4 c5 c6 c7 c8 c9 c10 c11 c12 c13 c14 c15 c16 c17 c18 c19 c20 c21 c22 c23 c24 (hc25 mTy mTm mMn mFn mRn mTn mVn mLr mTr mFl mFm mFp mSc mMp mEn) (hc26 mPa) (hc27 mTo) (hc28 mOt) (hc29 mNa) (hc30 mRe) (hc31 mMa) (hc32 mMy) (hc33 mPm) (hc34 mFy) (hc35 mFa) (hc36 mFr) (hc37 mFo) (hc38 mRt) (hc39 mRm) (hc40 mTt) (hc41 mTi) (hc42 mPl) (hc43 mVr) (hc44 mVf) (hc45 mVc) (hc46 mAr) (hc47 mTc) (hc48 mFt) (hc49 mGo) dyn, 0, 0)) rfl ?_
          refine pm_go (g := (103, _, [.int (-1)], _, 0, 0)) rfl ?_
          first | exact pm_ret rfl (k0 (by omega)) | exact pm_ret rfl (k1 (by omega)) | exact pm_ret rfl (k2 (by omega)) | (exfalso; omega)
        have h55 := qF_eq (cx := (t).toInt) (cy := 0) rfl (by decide) h55
        refine pm_go (g := (42, [(0, .ref 25), (1, .int f), (2, .int t), (3, .int w)], [.int 1], _, 0, 0)) rfl ?_
        refine pm_go (g := (81, _, [.int 1], _, 0, 0)) rfl ?_
        refine pm_go (g := (83, [(4, .int 1), (0, .ref 25), (1, .int f), (2, .int t), (3, .int w)], [], _, 0, 0)) rfl ?_
        refine pm_go (g := (85, _, [.int 1], _, 0, 0)) rfl ?_
        refine pm_brF (h := (88, [(4, .int 1), (0, .ref 25), (1, .int f), (2, .int t), (3, .int w)], [], hq g c1 c2 c3 c4 c5 c6 c7 c8 c9 c10 c11 c12 c13 c14 c15 c16 c17 c18 c19 c20 c21 c22 c23 c24 (hc25 mTy mTm mMn mFn mRn mTn mVn mLr mTr mFl mFm mFp mSc mMp mEn) (hc26 mPa) (hc27 mTo) (hc28 mOt) (hc29 mNa) (hc30 mRe) (hc31 mMa) (hc32 mMy) (hc33 mPm) (hc34 mFy) (hc35 mFa) (hc36 mFr) (hc37 mFo) (hc38 mRt) (hc39 mRm) (hc40 mTt) (hc41 mTi) (hc42 mPl) (hc43 mVr) (hc44 mVf) (hc45 mVc) (hc46 mAr) (hc47 mTc) (hc48 mFt) (hc49 mGo) dyn, 0, 0)) rfl ?_
        refine pm_go (g := (89, _, [.int f], _, 0, 0)) rfl ?_
        refine pm_go (g := (90, _, [.int 3, .int f], _, 0, 0)) rfl ?_
        refine pm_if2 (g := (104, [(4, .int 1), (0, .ref 25), (1, .int f), (2, .int t), (3, .int w)], [], hq g c1 c2 c3 c4 c5 c6 c7 c8 c9 c10 c11 c12 c13 c14 c15 c16 c17 c18 c19 c20 c21 c22 c23 c24 (hc25 mTy mTm mMn mFn mRn mTn mVn mLr mTr mFl mFm mFp mSc mMp mEn) (hc26 mPa) (hc27 mTo) (hc28 mOt) (hc29 mNa) (hc30 mRe) (hc31 mMa) (hc32 mMy) (hc33 mPm) (hc34 mFy) (hc35 mFa) (hc36 mFr) (hc37 mFo) (hc38 mRt) (hc39 mRm) (hc40 mTt) (hc41 mTi) (hc42 mPl) (hc43 mVr) (hc44 mVf) (hc45 mVc) (hc46 mAr) (hc47 mTc) (hc48 mFt) (hc49 mGo) dyn, 0, 0)) (h := (93, [(4, .int 1), (0, .ref 25), (1, .int f), (2, .int t), (3, .int w)], [], hq g c1 c2 c3 c4 c5 c6 c7 c8 c9 c10 c11 c12 c13 c14 c15 c16 c17 c18 c19 c20 c21 c22 c23 c24 (hc25 mTy mTm mMn mFn mRn mTn mVn mLr mTr mFl mFm mFp mSc mMp mEn) (hc26 mPa) (hc27 mTo) (hc28 mOt) (hc29 mNa) (hc30 mRe) (hc31 mMa) (hc32 mMy) (hc33 mPm) (hc34 mFy) (hc35 mFa) (hc36 mFr) (hc37 mFo) (hc38 mRt) (hc39 mRm) (hc40 mTt) (hc41 mTi) (hc42 mPl) (hc43 mVr) (hc44 mVf) (hc45 mVc) (hc46 mAr) (hc47 mTc) (hc48 mFt) (hc49 mGo) dyn, 0, 0)) rfl (fun h56 => ?_) (fun h56 => ?_)
        ·
          have h56 := qT_ge (cx := (f).toInt) (cy := 3) rfl (by decide) h56
          refine pm_go (g := (105, _, [.ref 25], _, 0, 0)) rfl ?_
          refine pm_go (g := (108, _, [.int mRn], _, 0, 0)) rfl ?_
          refine pm_go (g := (110, _, [.int 30, .int mRn], _, 0, 0)) rfl ?_
          refine pm_if2 (g := (116, [(4, .int 1), (0, .ref 25), (1, .int f), (2, .int t), (3, .int w)], [], hq g c1 c2 c3 c4 c5 c6 c7 c8 c9 c10 c11 c12 c13 c14 c15 c16 c17 c18 c19 c20 c21 c22 c23 c24 (hc25 mTy mTm mMn mFn mRn mTn mVn mLr mTr mFl mFm mFp mSc mMp mEn) (hc26 mPa) (hc27 mTo) (hc28 mOt) (hc29 mNa) (hc30 mRe) (hc31 mMa) (hc32 mMy) (hc33 mPm) (hc34 mFy) (hc35 mFa) (hc36 mFr) (hc37 mFo) (hc38 mRt) (hc39 mRm) (hc40 mTt) (hc41 mTi) (hc42 mPl) (hc43 mVr) (hc44 mVf) (hc45 mVc) (hc46 mAr) (hc47 mTc) (hc48 mFt) (hc49 mGo) dyn, 0, 0)) (h := (113, [(4, .int 1), (0, .ref 25), (1, .int f), (2, .int t), (3, .int w)], [], hq g c1 c2 c3 c4 c5 c6 c7 c8 c9 c10 c11 c12 c13 c14 c15 c16 c17 c18 c19 c20 c21 c22 c23 c24 (hc25 mTy mTm mMn mFn mRn mTn mVn mLr mTr mFl mFm mFp mSc mMp mEn) (hc26 mPa) (hc27 mTo) (hc28 mOt) (hc29 mNa) (hc30 mRe) (hc31 mMa) (hc32 mMy) (hc33 mPm) (hc34 mFy) (hc35 mFa) (hc36 mFr) (hc37 mFo) (hc38 mRt) (hc39 mRm) (hc40 mTt) (hc41 mTi) (hc42 mPl) (hc43 mVr) (hc44 mVf) (hc45 mVc) (hc46 mAr) (hc47 mTc) (hc48 mFt) (hc49 mGo) dyn, 0, 0)) rfl (fun h57 => ?_) (fun h57 => ?_)
          ·
            have h57 := qT_ne (cx := (mRn).toInt) (cy := 30) rfl (by decide) h57
            refine pm_go (g := (117, _, [.ref 25], _, 0, 0)) rfl ?_
            refine pm_go (g := (120, _, [.ref 37], _, 0, 0)) rfl ?_
            refine pm_go (g := (121, _, [.ref 25, .ref 37], _, 0, 0)) rfl ?_
            refine pm_go (g := (124, _, [.int mRn, .ref 37], _, 0, 0)) rfl ?_
            refine pm_go (g := (125, _, [.int f, .int mRn, .ref 37], _, 0, 0)) rfl ?_
            refine pm_sd (g := (126, _, [], hq g c1 c2 c3 c4 c5 c6 c7 c8 c9 c10 c11 c12 c13 c14 c15 c16 c17 c18 c19 c20 c21 c22 c23 c24 (hc25 mTy mTm mMn mFn mRn mTn mVn mLr mTr mFl mFm mFp mSc mMp mEn) (hc26 mPa) (hc27 mTo) (hc28 mOt) (hc29 mNa) (hc30 mRe) (hc31 mMa) (hc32 mMy) (hc33 mPm) (hc34 mFy) (hc35 mFa) (hc36 mFr) (hc37 (upd mFo (mRn).toNatClampNeg f)) (hc38 mRt) (hc39 mRm) (hc40 mTt) (hc41 mTi) (hc42 mPl) (hc43 mVr) (hc44 mVf) (hc45 mVc) (hc46 mAr) (hc47 mTc) (hc48 mFt) (hc49 mGo) dyn, 0, 0)) rfl (pm_inI (by omega) (by omega)) ?_
            refine pm_go (g := (127, _, [.ref 25], _, 0, 0)) rfl ?_
            refine pm_go (g := (130, _, [.ref 38], _, 0, 0)) rfl ?_
            refine pm_go (g := (131, _, [.ref 25, .ref 38], _, 0, 0)) rfl ?_
            refine pm_go (g := (134, _, [.int mRn, .ref 38], _, 0, 0)) rfl ?_
            refine pm_go (g := (135, _, [.int t, .int mRn, .ref 38], _, 0, 0)) rfl ?_
            refine pm_sd (g := (136, _, [], hq g c1 c2 c3 c4 c5 c6 c7 c8 c9 c10 c11 c12 c13 c14 c15 c16 c17 c18 c19 c20 c21 c22 c23 c24 (hc25 mTy mTm mMn mFn mRn mTn mVn mLr mTr mFl mFm mFp mSc mMp mEn) (hc26 mPa) (hc27 mTo) (hc28 mOt) (hc29 mNa) (hc30 mRe) (hc31 mMa) (hc32 mMy) (hc33 mPm) (hc34 mFy) (hc35 mFa) (hc36 mFr) (hc37 (upd mFo (mRn).toNatClampNeg f)) (hc38 (upd mRt (mRn).toNatClampNeg t)) (hc39 mRm) (hc40 mTt) (hc41 mTi) (hc42 mPl) (hc43 mVr) (hc44 mVf) (hc45 mVc) (hc46 mAr) (hc47 mTc) (hc48 mFt) (hc49 mGo) dyn, 0, 0)) rfl (pm_inI (by omega) (by omega)) ?_
            refine pm_go (g := (137, _, [.ref 25], _, 0, 0)) rfl ?_
            refine pm_go (g := (140, _, [.ref 39], _, 0, 0)) rfl ?_
            refine pm_go (g := (141, _, [.ref 25, .ref 39], _, 0, 0)) rfl ?_
            refine pm_go (g := (144, _, [.int mRn, .ref 39], _, 0, 0)) rfl ?_
            refine pm_go (g := (145, _, [.int w, .int mRn, .ref 39], _, 0, 0)) rfl ?_
            refine pm_sd (g := (146, _, [], hq g c1 c2 c3 c4 c5 c6 c7 c8 c9 c10 c11 c12 c13 c14 c15 c16 c17 c18 c19 c20 c21 c22 c23 c24 (hc25 mTy mTm mMn mFn mRn mTn mVn mLr mTr mFl mFm mFp mSc mMp mEn) (hc26 mPa) (hc27 mTo) (hc28 mOt) (hc29 mNa) (hc30 mRe) (hc31 mMa) (hc32 mMy) (hc33 mPm) (hc34 mFy) (hc35 mFa) (hc36 mFr) (hc37 (upd mFo (mRn).toNatClampNeg f)) (hc38 (upd mRt (mRn).toNatClampNeg t)) (hc39 (upd mRm (mRn).toNatClampNeg w)) (hc40 mTt) (hc41 mTi) (hc42 mPl) (hc43 mVr) (hc44 mVf) (hc45 mVc) (hc46 mAr) (hc47 mTc) (hc48 mFt) (hc49 mGo) dyn, 0, 0)) rfl (pm_inI (by omega) (by omega)) ?_
            refine pm_go (g := (147, _, [.ref 25], _, 0, 0)) rfl ?_
            refine pm_go (g := (148, _, [.ref 25, .ref 25], _, 0, 0)) rfl ?_
            refine pm_go (g := (151, _, [.int mRn, .ref 25], _, 0, 0)) rfl ?_
            refine pm_go (g := (152, _, [.int 1, .int mRn, .ref 25], _, 0, 0)) rfl ?_
            refine pm_go (g := (153, _, [.int (mRn + 1), .ref 25], _, 0, 0)) rfl ?_
            try have h58 : (mRn + 1).toInt = (mRn).toInt + 1 := iAdd (x := (mRn).toInt) (y := 1) rfl (by decide) (by omega) (by omega)
            refine pm_go (g := (156, _, [], hq g c1 c2 c3 c4 c5 c6 c7 c8 c9 c10 c11 c12 c13 c14 c15 c16 c17 c18 c19 c20 c21 c22 c23 c24 (hc25 mTy mTm mMn mFn (mRn + 1) mTn mVn mLr mTr mFl mFm mFp mSc mMp mEn) (hc26 mPa) (hc27 mTo) (hc28 mOt) (hc29 mNa) (hc30 mRe) (hc31 mMa) (hc32 mMy) (hc33 mPm) (hc34 mFy) (hc35 mFa) (hc36 mFr) (hc37 (upd mFo (mRn).toNatClampNeg f)) (hc38 (upd mRt (mRn).toNatClampNeg t)) (hc39 (upd mRm (mRn).toNatClampNeg w)) (hc40 mTt) (hc41 mTi) (hc42 mPl) (hc43 mVr) (hc44 mVf) (hc45 mVc) (hc46 mAr) (hc47 mTc) (hc48 mFt) (hc49 mGo) dyn, 0, 0)) rfl ?_
            refine pm_go (g := (157, _, [.ref 25], _, 0, 0)) rfl ?_
            refine pm_go (g := (160, _, [.int (mRn + 1)], _, 0, 0)) rfl ?_
            refine pm_go (g := (161, _, [.int 1, .int (mRn + 1)], _, 0, 0)) rfl ?_
            refine pm_go (g := (162, _, [.int ((mRn + 1) - 1)], _, 0, 0)) rfl ?_
            try have h59 : ((mRn + 1) - 1).toInt = (mRn + 1).toInt - 1 := iSub (x := (mRn + 1).toInt) (y := 1) rfl (by decide) (by omega) (by omega)
            first | exact pm_ret rfl (k0 (by omega)) | exact pm_ret rfl (k1 (by omega)) | exact pm_ret rfl (k2 (by omega)) | (exfalso; omega)
          have h57 := qF_ne (cx := (mRn).toInt) (cy := 30) rfl (by decide) h57
          refine pm_go (g := (115, _, [.int (-2)], hq g c1 c2 c3 c4 c5 c6 c7 c8 c9 c10 c11 c12 c13 c14 c15 c16 c17 c18 c19 c20 c21 c22 c23 c24 (hc25 mTy mTm mMn mFn mRn mTn mVn mLr mTr mFl mFm mFp mSc mMp mEn) (hc26 mPa) (hc27 mTo) (hc28 mOt) (hc29 mNa) (hc30 mRe) (hc31 mMa) (hc32 mMy) (hc33 mPm) (hc34 mFy) (hc35 mFa) (hc36 mFr) (hc37 mFo) (hc38 mRt) (hc39 mRm) (hc40 mTt) (hc41 mTi) (hc42 mPl) (hc43 mVr) (hc44 mVf) (hc45 mVc) (hc46 mAr) (hc47 mTc) (hc48 mFt) (hc49 mGo) dyn, 0, 0)) rfl ?_
          first | exact pm_ret rfl (k0 (by omega)) | exact pm_ret rfl (k1 (by omega)) | exact pm_ret rfl (k2 (by omega)) | (exfalso; omega)
        have h56 := qF_ge (cx := (f).toInt) (cy := 3) rfl (by decide) h56
        refine pm_go (g := (94, _, [.int w], _, 0, 0)) rfl ?_
        refine pm_go (g := (95, _, [.int 0, .int w], _, 0, 0)) rfl ?_
        refine pm_go (g := (96, _, [.int 5, .int 0, .int w], _, 0, 0)) rfl ?_
        refine pm_callD (z := 128) (as := [.int w, .int 0, .int 5]) (rest := []) rfl ?_
        have h60 : (0 : Int32).toInt = 0 := by decide
        have h61 : (5 : Int32).toInt = 5 := by decide
        refine w_X12_isIn w 0 5 (fun h62 => ?_) (fun h63 => ?_)
        ·
          show pm_WP 163 (99, [(4, .int 1), (0, .ref 25), (1, .int f), (2, .int t), (3, .int w)], [.int 1], _, 0, 0) _
          refine pm_brT (g := (104, [(4, .int 1), (0, .ref 25), (1, .int f), (2, .int t), (3, .int w)], [], hq g c1 c2 c3 c4 c5 c6 c7 c8 c9 c10 c11 c12 c13 c14 c15 c16 c17 c18 c19 c20 c21 c22 c23 c24 (hc25 mTy mTm mMn mFn mRn mTn mVn mLr mTr mFl mFm mFp mSc mMp mEn) (hc26 mPa) (hc27 mTo) (hc28 mOt) (hc29 mNa) (hc30 mRe) (hc31 mMa) (hc32 mMy) (hc33 mPm) (hc34 mFy) (hc35 mFa) (hc36 mFr) (hc37 mFo) (hc38 mRt) (hc39 mRm) (hc40 mTt) (hc41 mTi) (hc42 mPl) (hc43 mVr) (hc44 mVf) (hc45 mVc) (hc46 mAr) (hc47 mTc) (hc48 mFt) (hc49 mGo) dyn, 0, 0)) rfl ?_
          refine pm_go (g := (105, _, [.ref 25], _, 0, 0)) rfl ?_
          refine pm_go (g := (108, _, [.int mRn], _, 0, 0)) rfl ?_
          refine pm_go (g := (110, _, [.int 30, .int mRn], _, 0, 0)) rfl ?_
          refine pm_if2 (g := (116, [(4, .int 1), (0, .ref 25), (1, .int f), (2, .int t), (3, .int w)], [], hq g c1 c2 c3 c4 c5 c6 c7 c8 c9 c10 c11 c12 c13 c14 c15 c16 c17 c18 c19 c20 c21 c22 c23 c24 (hc25 mTy mTm mMn mFn mRn mTn mVn mLr mTr mFl mFm mFp mSc mMp mEn) (hc26 mPa) (hc27 mTo) (hc28 mOt) (hc29 mNa) (hc30 mRe) (hc31 mMa) (hc32 mMy) (hc33 mPm) (hc34 mFy) (hc35 mFa) (hc36 mFr) (hc37 mFo) (hc38 mRt) (hc39 mRm) (hc40 mTt) (hc41 mTi) (hc42 mPl) (hc43 mVr) (hc44 mVf) (hc45 mVc) (hc46 mAr) (hc47 mTc) (hc48 mFt) (hc49 mGo) dyn, 0, 0)) (h := (113, [(4, .int 1), (0, .ref 25), (1, .int f), (2, .int t), (3, .int w)], [], hq g c1 c2 c3 c4 c5 c6 c7 c8 c9 c10 c11 c12 c13 c14 c15 c16 c17 c18 c19 c20 c21 c22 c23 c24 (hc25 mTy mTm mMn mFn mRn mTn mVn mLr mTr mFl mFm mFp mSc mMp mEn) (hc26 mPa) (hc27 mTo) (hc28 mOt) (hc29 mNa) (hc30 mRe) (hc31 mMa) (hc32 mMy) (hc33 mPm) (hc34 mFy) (hc35 mFa) (hc36 mFr) (hc37 mFo) (hc38 mRt) (hc39 mRm) (hc40 mTt) (hc41 mTi) (hc42 mPl) (hc43 mVr) (hc44 mVf) (hc45 mVc) (hc46 mAr) (hc47 mTc) (hc48 mFt) (hc49 mGo) dyn, 0, 0)) rfl (fun h65 => ?_) (fun h65 => ?_)
          ·
            have h65 := qT_ne (cx := (mRn).toInt) (cy := 30) rfl (by decide) h65
            refine pm_go (g := (117, _, [.ref 25], _, 0, 0)) rfl ?_
            refine pm_go (g := (120, _, [.ref 37], _, 0, 0)) rfl ?_
            refine pm_go (g := (121, _, [.ref 25, .ref 37], _, 0, 0)) rfl ?_
            refine pm_go (g := (124, _, [.int mRn, .ref 37], _, 0, 0)) rfl ?_
            refine pm_go (g := (125, _, [.int f, .int mRn, .ref 37], _, 0, 0)) rfl ?_
            refine pm_sd (g := (126, _, [], hq g c1 c2 c3 c4 c5 c6 c7 c8 c9 c10 c11 c12 c13 c14 c15 c16 c17 c18 c19 c20 c21 c22 c23 c24 (hc25 mTy mTm mMn mFn mRn mTn mVn mLr mTr mFl mFm mFp mSc mMp mEn) (hc26 mPa) (hc27 mTo) (hc28 mOt) (hc29 mNa) (hc30 mRe) (hc31 mMa) (hc32 mMy) (hc33 mPm) (hc34 mFy) (hc35 mFa) (hc36 mFr) (hc37 (upd mFo (mRn).toNatClampNeg f)) (hc38 mRt) (hc39 mRm) (hc40 mTt) (hc41 mTi) (hc42 mPl) (hc43 mVr) (hc44 mVf) (hc45 mVc) (hc46 mAr) (hc47 mTc) (hc48 mFt) (hc49 mGo) dyn, 0, 0)) rfl (pm_inI (by omega) (by omega)) ?_
            refine pm_go (g := (127, _, [.ref 25], _, 0, 0)) rfl ?_
            refine pm_go (g := (130, _, [.ref 38], _, 0, 0)) rfl ?_
            refine pm_go (g := (131, _, [.ref 25, .ref 38], _, 0, 0)) rfl ?_
            refine pm_go (g := (134, _, [.int mRn, .ref 38], _, 0, 0)) rfl ?_
            refine pm_go (g := (135, _, [.int t, .int mRn, .ref 38], _, 0, 0)) rfl ?_
            refine pm_sd (g := (136, _, [], hq g c1 c2 c3 c4 c5 c6 c7 c8 c9 c10 c11 c12 c13 c14 c15 c16 c17 c18 c19 c20 c21 c22 c23 c24 (hc25 mTy mTm mMn mFn mRn mTn mVn mLr mTr mFl mFm mFp mSc mMp mEn) (hc26 mPa) (hc27 mTo) (hc28 mOt) (hc29 mNa) (hc30 mRe) (hc31 mMa) (hc32 mMy) (hc33 mPm) (hc34 mFy) (hc35 mFa) (hc36 mFr) (hc37 (upd mFo (mRn).toNatClampNeg f)) (hc38 (upd mRt (mRn).toNatClampNeg t)) (hc39 mRm) (hc40 mTt) (hc41 mTi) (hc42 mPl) (hc43 mVr) (hc44 mVf) (hc45 mVc) (hc46 mAr) (hc47 mTc) (hc48 mFt) (hc49 mGo) dyn, 0, 0)) rfl (pm_inI (by omega) (by omega)) ?_
            refine pm_go (g := (137, _, [.ref 25], _, 0, 0)) rfl ?_
            refine pm_go (g := (140, _, [.ref 39], _, 0, 0)) rfl ?_
            refine pm_go (g := (141, _, [.ref 25, .ref 39], _, 0, 0)) rfl ?_
            refine pm_go (g := (144, _, [.int mRn, .ref 39], _, 0, 0)) rfl ?_
            refine pm_go (g := (145, _, [.int w, .int mRn, .ref 39], _, 0, 0)) rfl ?_
            refine pm_sd (g := (146, _, [], hq g c1 c2 c3 c4 c5 c6 c7 c8 c9 c10 c11 c12 c13 c14 c15 c16 c17 c18 c19 c20 c21 c22 c23 c24 (hc25 mTy mTm mMn mFn mRn mTn mVn mLr mTr mFl mFm mFp mSc mMp mEn) (hc26 mPa) (hc27 mTo) (hc28 mOt) (hc29 mNa) (hc30 mRe) (hc31 mMa) (hc32 mMy) (hc33 mPm) (hc34 mFy) (hc35 mFa) (hc36 mFr) (hc37 (upd mFo (mRn).toNatClampNeg f)) (hc38 (upd mRt (mRn).toNatClampNeg t)) (hc39 (upd mRm (mRn).toNatClampNeg w)) (hc40 mTt) (hc41 mTi) (hc42 mPl) (hc43 mVr) (hc44 mVf) (hc45 mVc) (hc46 mAr) (hc47 mTc) (hc48 mFt) (hc49 mGo) dyn, 0, 0)) rfl (pm_inI (by omega) (by omega)) ?_
            refine pm_go (g := (147, _, [.ref 25], _, 0, 0)) rfl ?_
            refine pm_go (g := (148, _, [.ref 25, .ref 25], _, 0, 0)) rfl ?_
            refine pm_go (g := (151, _, [.int mRn, .ref 25], _, 0, 0)) rfl ?_
            refine pm_go (g := (152, _, [.int 1, .int mRn, .ref 25], _, 0, 0)) rfl ?_
            refine pm_go (g := (153, _, [.int (mRn + 1), .ref 25], _, 0, 0)) rfl ?_
            try have h66 : (mRn + 1).toInt = (mRn).toInt + 1 := iAdd (x := (mRn).toInt) (y := 1) rfl (by decide) (by omega) (by omega)
            refine pm_go (g := (156, _, [], hq g c1 c2 c3 c4 c5 c6 c7 c8 c9 c10 c11 c12 c13 c14 c15 c16 c17 c18 c19 c20 c21 c22 c23 c24 (hc25 mTy mTm mMn mFn (mRn + 1) mTn mVn mLr mTr mFl mFm mFp mSc mMp mEn) (hc26 mPa) (hc27 mTo) (hc28 mOt) (hc29 mNa) (hc30 mRe) (hc31 mMa) (hc32 mMy) (hc33 mPm) (hc34 mFy) (hc35 mFa) (hc36 mFr) (hc37 (upd mFo (mRn).toNatClampNeg f)) (hc38 (upd mRt (mRn).toNatClampNeg t)) (hc39 (upd mRm (mRn).toNatClampNeg w)) (hc40 mTt) (hc41 mTi) (hc42 mPl) (hc43 mVr) (hc44 mVf) (hc45 mVc) (hc46 mAr) (hc47 mTc) (hc48 mFt) (hc49 mGo) dyn, 0, 0)) rfl ?_
            refine pm_go (g := (157, _, [.ref 25], _, 0, 0)) rfl ?_
            refine pm_go (g := (160, _, [.int (mRn + 1)], _, 0, 0)) rfl ?_
            refine pm_go (g := (161, _, [.int 1, .int (mRn + 1)], _, 0, 0)) rfl ?_
            refine pm_go (g := (162, _, [.int ((mRn + 1) - 1)], _, 0, 0)) rfl ?_
            try have h67 : ((mRn + 1) - 1).toInt = (mRn + 1).toInt - 1 := iSub (x := (mRn + 1).toInt) (y := 1) rfl (by decide) (by omega) (by omega)
            first | exact pm_ret rfl (k0 (by omega)) | exact pm_ret rfl (k1 (by omega)) | exact pm_ret rfl (k2 (by omega)) | (exfalso; omega)
          have h65 := qF_ne (cx := (mRn).toInt) (cy := 30) rfl (by decide) h65
          refine pm_go (g := (115, _, [.int (-2)], hq g c1 c2 c3 c4 c5 c6 c7 c8 c9 c10 c11 c12 c13 c14 c15 c16 c17 c18 c19 c20 c21 c22 c23 c24 (hc25 mTy mTm mMn mFn mRn mTn mVn mLr mTr mFl mFm mFp mSc mMp mEn) (hc26 mPa) (hc27 mTo) (hc28 mOt) (hc29 mNa) (hc30 mRe) (hc31 mMa) (hc32 mMy) (hc33 mPm) (hc34 mFy) (hc35 mFa) (hc36 mFr) (hc37 mFo) (hc38 mRt) (hc39 mRm) (hc40 mTt) (hc41 mTi) (hc42 mPl) (hc43 mVr) (hc44 mVf) (hc45 mVc) (hc46 mAr) (hc47 mTc) (hc48 mFt) (hc49 mGo) dyn, 0, 0)) rfl ?_
          first | exact pm_ret rfl (k0 (by omega)) | exact pm_ret rfl (k1 (by omega)) | exact pm_ret rfl (k2 (by omega)) | (exfalso; omega)
        show pm_WP 163 (99, [(4, .int 1), (0, .ref 25), (1, .int f), (2, .int t), (3, .int w)], [.int 0], hq g c1 c2 c3 c4 c5 c6 c7 c8 c9 c10 c11 c12 c13 c14 c15 c16 c17 c18 c19 c20 c21 c22 c23 c24 (hc25 mTy mTm mMn mFn mRn mTn mVn mLr mTr mFl mFm mFp mSc mMp mEn) (hc26 mPa) (hc27 mTo) (hc28 mOt) (hc29 mNa) (hc30 mRe) (hc31 mMa) (hc32 mMy) (hc33 mPm) (hc34 mFy) (hc35 mFa) (hc36 mFr) (hc37 mFo) (hc38 mRt) (hc39 mRm) (hc40 mTt) (hc41 mTi) (hc42 mPl) (hc43 mVr) (hc44 mVf) (hc45 mVc) (hc46 mAr) (hc47 mTc) (hc48 mFt) (hc49 mGo) dyn, 0, 0) _
        refine pm_brF (h := (102, [(4, .int 1), (0, .ref 25), (1, .int f), (2, .int t), (3, .int w)], [], hq g c1 c2 c3 c4 c5 c6 c7 c8 c9 c10 c11 c12 c13 c14 c15 c16 c17 c18 c19 c20 c21 c22 c23 c24 (hc25 mTy mTm mMn mFn mRn mTn mVn mLr mTr mFl mFm mFp mSc mMp mEn) (hc26 mPa) (hc27 mTo) (hc28 mOt) (hc29 mNa) (hc30 mRe) (hc31 mMa) (hc32 mMy) (hc33 mPm) (hc34 mFy) (hc35 mFa) (hc36 mFr) (hc37 mFo) (hc38 mRt) (hc39 mRm) (hc40 mTt) (hc41 mTi) (hc42 mPl) (hc43 mVr) (hc44 mVf) (hc45 mVc) (hc46 mAr) (hc47 mTc) (hc48 mFt) (hc49 mGo) dyn, 0, 0)) rfl ?_
        refine pm_go (g := (103, _, [.int (-1)], _, 0, 0)) rfl ?_
        first | exact pm_ret rfl (k0 (by omega)) | exact pm_ret rfl (k1 (by omega)) | exact pm_ret rfl (k2 (by omega)) | (exfalso; omega)
      show pm_WP 163 (34, [(0, .ref 25), (1, .int f), (2, .int t), (3, .int w)], [.int 0], hq g c1 c2 c3 c4 c5 c6 c7 c8 c9 c10 c11 c12 c13 c14 c15 c16 c17 c18 c19 c20 c21 c22 c23 c24 (hc25 mTy mTm mMn mFn mRn mTn mVn mLr mTr mFl mFm mFp mSc mMp mEn) (hc26 mPa) (hc27 mTo) (hc28 mOt) (hc29 mNa) (hc30 mRe) (hc31 mMa) (hc32 mMy) (hc33 mPm) (hc34 mFy) (hc35 mFa) (hc36 mFr) (hc37 mFo) (hc38 mRt) (hc39 mRm) (hc40 mTt) (hc41 mTi) (hc42 mPl) (hc43 mVr) (hc44 mVf) (hc45 mVc) (hc46 mAr) (hc47 mTc) (hc48 mFt) (hc49 mGo) dyn, 0, 0) _
      refine pm_brT (g := (45, [(0, .ref 25), (1, .int f), (2, .int t), (3, .int w)], [], hq g c1 c2 c3 c4 c5 c6 c7 c8 c9 c10 c11 c12 c13 c14 c15 c16 c17 c18 c19 c20 c21 c22 c23 c24 (hc25 mTy mTm mMn mFn mRn mTn mVn mLr mTr mFl mFm mFp mSc mMp mEn) (hc26 mPa) (hc27 mTo) (hc28 mOt) (hc29 mNa) (hc30 mRe) (hc31 mMa) (hc32 mMy) (hc33 mPm) (hc34 mFy) (hc35 mFa) (hc36 mFr) (hc37 mFo) (hc38 mRt) (hc39 mRm) (hc40 mTt) (hc41 mTi) (hc42 mPl) (hc43 mVr) (hc44 mVf) (hc45 mVc) (hc46 mAr) (hc47 mTc) (hc48 mFt) (hc49 mGo) dyn, 0, 0)) rfl ?_
      refine pm_go (g := (46, _, [.int 0], _, 0, 0)) rfl ?_
      refine pm_go (g := (81, _, [.int 0], _, 0, 0)) rfl ?_
      refine pm_go (g := (83, [(4, .int 0), (0, .ref 25), (1, .int f), (2, .int t), (3, .int w)], [], _, 0, 0)) rfl ?_
      refine pm_go (g := (85, _, [.int 0], _, 0, 0)) rfl ?_
      refine pm_brT (g := (102, [(4, .int 0), (0, .ref 25), (1, .int f), (2, .int t), (3, .int w)], [], hq g c1 c2 c3 c4 c5 c6 c7 c8 c9 c10 c11 c12 c13 c14 c15 c16 c17 c18 c19 c20 c21 c22 c23 c24 (hc25 mTy mTm mMn mFn mRn mTn mVn mLr mTr mFl mFm mFp mSc mMp mEn) (hc26 mPa) (hc27 mTo) (hc28 mOt) (hc29 mNa) (hc30 mRe) (hc31 mMa) (hc32 mMy) (hc33 mPm) (hc34 mFy) (hc35 mFa) (hc36 mFr) (hc37 mFo) (hc38 mRt) (hc39 mRm) (hc40 mTt) (hc41 mTi) (hc42 mPl) (hc43 mVr) (hc44 mVf) (hc45 mVc) (hc46 mAr) (hc47 mTc) (hc48 mFt) (hc49 mGo) dyn, 0, 0)) rfl ?_
      refine pm_go (g := (103, _, [.int (-1)], _, 0, 0)) rfl ?_
      first | exact pm_ret rfl (k0 (by omega)) | exact pm_ret rfl (k1 (by omega)) | exact pm_ret rfl (k2 (by omega)) | (exfalso; omega)
    have h6 := qF_ge (cx := (f).toInt) (cy := 2) rfl (by decide) h6
    refine pm_go (g := (17, [(0, .ref 25), (1, .int f), (2, .int t), (3, .int w)], [.ref 25], _, 0, 0)) rfl ?_
    refine pm_go (g := (18, _, [.int t, .ref 25], _, 0, 0)) rfl ?_
    refine pm_callD (z := 129) (as := [.ref 25, .int t]) (rest := []) rfl ?_
    refine w_X12_isClass t (by omega) (fun h68 => ?_) (fun h69 => ?_)
    ·
      show pm_WP 163 (21, [(0, .ref 25), (1, .int f), (2, .int t), (3, .int w)], [.int 1], _, 0, 0) _
      refine pm_go (g := (81, _, [.int 1], _, 0, 0)) rfl ?_
      refine pm_go (g := (83, [(4, .int 1), (0, .ref 25), (1, .int f), (2, .int t), (3, .int w)], [], _, 0, 0)) rfl ?_
      refine pm_go (g := (85, _, [.int 1], _, 0, 0)) rfl ?_
      refine pm_brF (h := (88, [(4, .int 1), (0, .ref 25), (1, .int f), (2, .int t), (3, .int w)], [], hq g c1 c2 c3 c4 c5 c6 c7 c8 c9 c10 c11 c12 c13 c14 c15 c16 c17 c18 c19 c20 c21 c22 c23 c24 (hc25 mTy mTm mMn mFn mRn mTn mVn mLr mTr mFl mFm mFp mSc mMp mEn) (hc26 mPa) (hc27 mTo) (hc28 mOt) (hc29 mNa) (hc30 mRe) (hc31 mMa) (hc32 mMy) (hc33 mPm) (hc34 mFy) (hc35 mFa) (hc36 mFr) (hc37 mFo) (hc38 mRt) (hc39 mRm) (hc40 mTt) (hc41 mTi) (hc42 mPl) (hc43 mVr) (hc44 mVf) (hc45 mVc) (hc46 mAr) (hc47 mTc) (hc48 mFt) (hc49 mGo) dyn, 0, 0)) rfl ?_
      refine pm_go (g := (89, _, [.int f], _, 0, 0)) rfl ?_
      refine pm_go (g := (90, _, [.int 3, .int f], _, 0, 0)) rfl ?_
      refine pm_if2 (g := (104, [(4, .int 1), (0, .ref 25), (1, .int f), (2, .int t), (3, .int w)], [], hq g c1 c2 c3 c4 c5 c6 c7 c8 c9 c10 c11 c12 c13 c14 c15 c16 c17 c18 c19 c20 c21 c22 c23 c24 (hc25 mTy mTm mMn mFn mRn mTn mVn mLr mTr mFl mFm mFp mSc mMp mEn) (hc26 mPa) (hc27 mTo) (hc28 mOt) (hc29 mNa) (hc30 mRe) (hc31 mMa) (hc32 mMy) (hc33 mPm) (hc34 mFy) (hc35 mFa) (hc36 mFr) (hc37 mFo) (hc38 mRt) (hc39 mRm) (hc40 mTt) (hc41 mTi) (hc42 mPl) (hc43 mVr) (hc44 mVf) (hc45 mVc) (hc46 mAr) (hc47 mTc) (hc48 mFt) (hc49 mGo) dyn, 0, 0)) (h := (93, [(4, .int 1), (0, .ref 25), (1, .int f), (2, .int t), (3, .int w)], [], hq g c1 c2 c3 c4 c5 c6 c7 c8 c9 c10 c11 c12 c13 c14 c15 c16 c17 c18 c19 c20 c21 c22 c23 c24 (hc25 mTy mTm mMn mFn mRn mTn mVn mLr mTr mFl mFm mFp mSc mMp mEn) (hc26 mPa) (hc27 mTo) (hc28 mOt) (hc29 mNa) (hc30 mRe) (hc31 mMa) (hc32 mMy) (hc33 mPm) (hc34 mFy) (hc35 mFa) (hc36 mFr) (hc37 mFo) (hc38 mRt) (hc39 mRm) (hc40 mTt) (hc41 mTi) (hc42 mPl) (hc43 mVr) (hc44 mVf) (hc45 mVc) (hc46 mAr) (hc47 mTc) (hc48 mFt) (hc49 mGo) dyn, 0, 0)) rfl (fun h71 => ?_) (fun h71 => ?_)
      ·
        have h71 := qT_ge (cx := (f).toInt) (cy := 3) rfl (by decide) h71
        refine pm_go (g := (105, _, [.ref 25], _, 0, 0)) rfl ?_
        refine pm_go (g := (108, _, [.int mRn], _, 0, 0)) rfl ?_
        refine pm_go (g := (110, _, [.int 30, .int mRn], _, 0, 0)) rfl ?_
        refine pm_if2 (g := (116, [(4, .int 1), (0, .ref 25), (1, .int f), (2, .int t), (3, .int w)], [], hq g c1 c2 c3 c4 c5 c6 c7 c8 c9 c10 c11 c12 c13 c14 c15 c16 c17 c18 c19 c20 c21 c22 c23 c24 (hc25 mTy mTm mMn mFn mRn mTn mVn mLr mTr mFl mFm mFp mSc mMp mEn) (hc26 mPa) (hc27 mTo) (hc28 mOt) (hc29 mNa) (hc30 mRe) (hc31 mMa) (hc32 mMy) (hc33 mPm) (hc34 mFy) (hc35 mFa) (hc36 mFr) (hc37 mFo) (hc38 mRt) (hc39 mRm) (hc40 mTt) (hc41 mTi) (hc42 mPl) (hc43 mVr) (hc44 mVf) (hc45 mVc) (hc46 mAr) (hc47 mTc) (hc48 mFt) (hc49 mGo) dyn, 0, 0)) (h := (113, [(4, .int 1), (0, .ref 25), (1, .int f), (2, .int t), (3, .int w)], [], hq g c1 c2 c3 c4 c5 c6 c7 c8 c9 c10 c11 c12 c13 c14 c15 c16 c17 c18 c19 c20 c21 c22 c23 c24 (hc25 mTy mTm mMn mFn mRn mTn mVn mLr mTr mFl mFm mFp mSc mMp mEn) (hc26 mPa) (hc27 mTo) (hc28 mOt) (hc29 mNa) (hc30 mRe) (hc31 mMa) (hc32 mMy) (hc33 mPm) (hc34 mFy) (hc35 mFa) (hc36 mFr) (hc37 mFo) (hc38 mRt) (hc39 mRm) (hc40 mTt) (hc41 mTi) (hc42 mPl) (hc43 mVr) (hc44 mVf) (hc45 mVc) (hc46 mAr) (hc47 mTc) (hc48 mFt) (hc49 mGo) dyn, 0, 0)) rfl (fun h72 => ?_) (fun h72 => ?_)
        ·
          have h72 := qT_ne (cx := (mRn).toInt) (cy := 30) rfl (by decide) h72
          refine pm_go (g := (117, _, [.ref 25], _, 0, 0)) rfl ?_
          refine pm_go (g := (120, _, [.ref 37], _, 0, 0)) rfl ?_
          refine pm_go (g := (121, _, [.ref 25, .ref 37], _, 0, 0)) rfl ?_
          refine pm_go (g := (124, _, [.int mRn, .ref 37], _, 0, 0)) rfl ?_
          refine pm_go (g := (125, _, [.int f, .int mRn, .ref 37], _, 0, 0)) rfl ?_
          refine pm_sd (g := (126, _, [], hq g c1 c2 c3 c4 c5 c6 c7 c8 c9 c10 c11 c12 c13 c14 c15 c16 c17 c18 c19 c20 c21 c22 c23 c24 (hc25 mTy mTm mMn mFn mRn mTn mVn mLr mTr mFl mFm mFp mSc mMp mEn) (hc26 mPa) (hc27 mTo) (hc28 mOt) (hc29 mNa) (hc30 mRe) (hc31 mMa) (hc32 mMy) (hc33 mPm) (hc34 mFy) (hc35 mFa) (hc36 mFr) (hc37 (upd mFo (mRn).toNatClampNeg f)) (hc38 mRt) (hc39 mRm) (hc40 mTt) (hc41 mTi) (hc42 mPl) (hc43 mVr) (hc44 mVf) (hc45 mVc) (hc46 mAr) (hc47 mTc) (hc48 mFt) (hc49 mGo) dyn, 0, 0)) rfl (pm_inI (by omega) (by omega)) ?_
          refine pm_go (g := (127, _, [.ref 25], _, 0, 0)) rfl ?_
          refine pm_go (g := (130, _, [.ref 38], _, 0, 0)) rfl ?_
          refine pm_go (g := (131, _, [.ref 25, .ref 38], _, 0, 0)) rfl ?_
          refine pm_go (g := (134, _, [.int mRn, .ref 38], _, 0, 0)) rfl ?_
          refine pm_go (g := (135, _, [.int t, .int mRn, .ref 38], _, 0, 0)) rfl ?_
          refine pm_sd (g := (136, _, [], hq g c1 c2 c3 c4 c5 c6 c7 c8 c9 c10 c11 c12 c13 c14 c15 c16 c17 c18 c19 c20 c21 c22 c23 c24 (hc25 mTy mTm mMn mFn mRn mTn mVn mLr mTr mFl mFm mFp mSc mMp mEn) (hc26 mPa) (hc27 mTo) (hc28 mOt) (hc29 mNa) (hc30 mRe) (hc31 mMa) (hc32 mMy) (hc33 mPm) (hc34 mFy) (hc35 mFa) (hc36 mFr) (hc37 (upd mFo (mRn).toNatClampNeg f)) (hc38 (upd mRt (mRn).toNatClampNeg t)) (hc39 mRm) (hc40 mTt) (hc41 mTi) (hc42 mPl) (hc43 mVr) (hc44 mVf) (hc45 mVc) (hc46 mAr) (hc47 mTc) (hc48 mFt) (hc49 mGo) dyn, 0, 0)) rfl (pm_inI (by omega) (by omega)) ?_
          refine pm_go (g := (137, _, [.ref 25], _, 0, 0)) rfl ?_
          refine pm_go (g := (140, _, [.ref 39], _, 0, 0)) rfl ?_
          refine pm_go (g := (141, _, [.ref 25, .ref 39], _, 0, 0)) rfl ?_
          refine pm_go (g := (144, _, [.int mRn, .ref 39], _, 0, 0)) rfl ?_
          refine pm_go (g := (145, _, [.int w, .int mRn, .ref 39], _, 0, 0)) rfl ?_
          refine pm_sd (g := (146, _, [], hq g c1 c2 c3 c4 c5 c6 c7 c8 c9 c10 c11 c12 c13 c14 c15 c16 c17 c18 c19 c20 c21 c22 c23 c24 (hc25 mTy mTm mMn mFn mRn mTn mVn mLr mTr mFl mFm mFp mSc mMp mEn) (hc26 mPa) (hc27 mTo) (hc28 mOt) (hc29 mNa) (hc30 mRe) (hc31 mMa) (hc32 mMy) (hc33 mPm) (hc34 mFy) (hc35 mFa) (hc36 mFr) (hc37 (upd mFo (mRn).toNatClampNeg f)) (hc38 (upd mRt (mRn).toNatClampNeg t)) (hc39 (upd mRm (mRn).toNatClampNeg w)) (hc40 mTt) (hc41 mTi) (hc42 mPl) (hc43 mVr) (hc44 mVf) (hc45 mVc) (hc46 mAr) (hc47 mTc) (hc48 mFt) (hc49 mGo) dyn, 0, 0)) rfl (pm_inI (by omega) (by omega)) ?_
          refine pm_go (g := (147, _, [.ref 25], _, 0, 0)) rfl ?_
          refine pm_go (g := (148, _, [.ref 25, .ref 25], _, 0, 0)) rfl ?_
          refine pm_go (g := (151, _, [.int mRn, .ref 25], _, 0, 0)) rfl ?_
          refine pm_go (g := (152, _, [.int 1, .int mRn, .ref 25], _, 0, 0)) rfl ?_
          refine pm_go (g := (153, _, [.int (mRn + 1), .ref 25], _, 0, 0)) rfl ?_
          try have h73 : (mRn + 1).toInt = (mRn).toInt + 1 := iAdd (x := (mRn).toInt) (y := 1) rfl (by decide) (by omega) (by omega)
          refine pm_go (g := (156, _, [], hq g c1 c2 c3 c4 c5 c6 c7 c8 c9 c10 c11 c12 c13 c14 c15 c16 c17 c18 c19 c20 c21 c22 c23 c24 (hc25 mTy mTm mMn mFn (mRn + 1) mTn mVn mLr mTr mFl mFm mFp mSc mMp mEn) (hc26 mPa) (hc27 mTo) (hc28 mOt) (hc29 mNa) (hc30 mRe) (hc31 mMa) (hc32 mMy) (hc33 mPm) (hc34 mFy) (hc35 mFa) (hc36 mFr) (hc37 (upd mFo (mRn).toNatClampNeg f)) (hc38 (upd mRt (mRn).toNatClampNeg t)) (hc39 (upd mRm (mRn).toNatClampNeg w)) (hc40 mTt) (hc41 mTi) (hc42 mPl) (hc43 mVr) (hc44 mVf) (hc45 mVc) (hc46 mAr) (hc47 mTc) (hc48 mFt) (hc49 mGo) dyn, 0, 0)) rfl ?_
          refine pm_go (g := (157, _, [.ref 25], _, 0, 0)) rfl ?_
          refine pm_go (g := (160, _, [.int (mRn + 1)], _, 0, 0)) rfl ?_
          refine pm_go (g := (161, _, [.int 1, .int (mRn + 1)], _, 0, 0)) rfl ?_
          refine pm_go (g := (162, _, [.int ((mRn + 1) - 1)], _, 0, 0)) rfl ?_
          try have h74 : ((mRn + 1) - 1).toInt = (mRn + 1).toInt - 1 := iSub (x := (mRn + 1).toInt) (y := 1) rfl (by decide) (by omega) (by omega)
          first | exact pm_ret rfl (k0 (by omega)) | exact pm_ret rfl (k1 (by omega)) | exact pm_ret rfl (k2 (by omega)) | (exfalso; omega)
        have h72 := qF_ne (cx := (mRn).toInt) (cy := 30) rfl (by decide) h72
        refine pm_go (g := (115, _, [.int (-2)], hq g c1 c2 c3 c4 c5 c6 c7 c8 c9 c10 c11 c12 c13 c14 c15 c16 c17 c18 c19 c20 c21 c22 c23 c24 (hc25 mTy mTm mMn mFn mRn mTn mVn mLr mTr mFl mFm mFp mSc mMp mEn) (hc26 mPa) (hc27 mTo) (hc28 mOt) (hc29 mNa) (hc30 mRe) (hc31 mMa) (hc32 mMy) (hc33 mPm) (hc34 mFy) (hc35 mFa) (hc36 mFr) (hc37 mFo) (hc38 mRt) (hc39 mRm) (hc40 mTt) (hc41 mTi) (hc42 mPl) (hc43 mVr) (hc44 mVf) (hc45 mVc) (hc46 mAr) (hc47 mTc) (hc48 mFt) (hc49 mGo) dyn, 0, 0)) rfl ?_
        first | exact pm_ret rfl (k0 (by omega)) | exact pm_ret rfl (k1 (by omega)) | exact pm_ret rfl (k2 (by omega)) | (exfalso; omega)
      have h71 := qF_ge (cx := (f).toInt) (cy := 3) rfl (by decide) h71
      refine pm_go (g := (94, _, [.int w], _, 0, 0)) rfl ?_
      refine pm_go (g := (95, _, [.int 0, .int w], _, 0, 0)) rfl ?_
      refine pm_go (g := (96, _, [.int 5, .int 0, .int w], _, 0, 0)) rfl ?_
      refine pm_callD (z := 128) (as := [.int w, .int 0, .int 5]) (rest := []) rfl ?_
      have h75 : (0 : Int32).toInt = 0 := by decide
      have h76 : (5 : Int32).toInt = 5 := by decide
      refine w_X12_isIn w 0 5 (fun h77 => ?_) (fun h78 => ?_)
      ·
        show pm_WP 163 (99, [(4, .int 1), (0, .ref 25), (1, .int f), (2, .int t), (3, .int w)], [.int 1], _, 0, 0) _
        refine pm_brT (g := (104, [(4, .int 1), (0, .ref 25), (1, .int f), (2, .int t), (3, .int w)], [], hq g c1 c2 c3 c4 c5 c6 c7 c8 c9 c10 c11 c12 c13 c14 c15 c16 c17 c18 c19 c20 c21 c22 c23 c24 (hc25 mTy mTm mMn mFn mRn mTn mVn mLr mTr mFl mFm mFp mSc mMp mEn) (hc26 mPa) (hc27 mTo) (hc28 mOt) (hc29 mNa) (hc30 mRe) (hc31 mMa) (hc32 mMy) (hc33 mPm) (hc34 mFy) (hc35 mFa) (hc36 mFr) (hc37 mFo) (hc38 mRt) (hc39 mRm) (hc40 mTt) (hc41 mTi) (hc42 mPl) (hc43 mVr) (hc44 mVf) (hc45 mVc) (hc46 mAr) (hc47 mTc) (hc48 mFt) (hc49 mGo) dyn, 0, 0)) rfl ?_
        refine pm_go (g := (105, _, [.ref 25], _, 0, 0)) rfl ?_
        refine pm_go (g := (108, _, [.int mRn], _, 0, 0)) rfl ?_
        refine pm_go (g := (110, _, [.int 30, .int mRn], _, 0, 0)) rfl ?_
        refine pm_if2 (g := (116, [(4, .int 1), (0, .ref 25), (1, .int f), (2, .int t), (3, .int w)], [], hq g c1 c2 c3 c4 c5 c6 c7 c8 c9 c10 c11 c12 c13 c14 c15 c16 c17 c18 c19 c20 c21 c22 c23 c24 (hc25 mTy mTm mMn mFn mRn mTn mVn mLr mTr mFl mFm mFp mSc mMp mEn) (hc26 mPa) (hc27 mTo) (hc28 mOt) (hc29 mNa) (hc30 mRe) (hc31 mMa) (hc32 mMy) (hc33 mPm) (hc34 mFy) (hc35 mFa) (hc36 mFr) (hc37 mFo) (hc38 mRt) (hc39 mRm) (hc40 mTt) (hc41 mTi) (hc42 mPl) (hc43 mVr) (hc44 mVf) (hc45 mVc) (hc46 mAr) (hc47 mTc) (hc48 mFt) (hc49 mGo) dyn, 0, 0)) (h := (113, [(4, .int 1), (0, .ref 25), (1, .int f), (2, .int t), (3, .int w)], [], hq g c1 c2 c3 c4 c5 c6 c7 c8 c9 c10 c11 c12 c13 c14 c15 c16 c17 c18 c19 c20 c21 c22 c23 c24 (hc25 mTy mTm mMn mFn mRn mTn mVn mLr mTr mFl mFm mFp mSc mMp mEn) (hc26 mPa) (hc27 mTo) (hc28 mOt) (hc29 mNa) (hc30 mRe) (hc31 mMa) (hc32 mMy) (hc33 mPm) (hc34 mFy) (hc35 mFa) (hc36 mFr) (hc37 mFo) (hc38 mRt) (hc39 mRm) (hc40 mTt) (hc41 mTi) (hc42 mPl) (hc43 mVr) (hc44 mVf) (hc45 mVc) (hc46 mAr) (hc47 mTc) (hc48 mFt) (hc49 mGo) dyn, 0, 0)) rfl (fun h80 => ?_) (fun h80 => ?_)
        ·
          have h80 := qT_ne (cx := (mRn).toInt) (cy := 30) rfl (by decide) h80
          refine pm_go (g := (117, _, [.ref 25], _, 0, 0)) rfl ?_
          refine pm_go (g := (120, _, [.ref 37], _, 0, 0)) rfl ?_
          refine pm_go (g := (121, _, [.ref 25, .ref 37], _, 0, 0)) rfl ?_
          refine pm_go (g := (124, _, [.int mRn, .ref 37], _, 0, 0)) rfl ?_
          refine pm_go (g := (125, _, [.int f, .int mRn, .ref 37], _, 0, 0)) rfl ?_
          refine pm_sd (g := (126, _, [], hq g c1 c2 c3 c4 c5 c6 c7 c8 c9 c10 c11 c12 c13 c14 c15 c16 c17 c18 c19 c20 c21 c22 c23 c24 (hc25 mTy mTm mMn mFn mRn mTn mVn mLr mTr mFl mFm mFp mSc mMp mEn) (hc26 mPa) (hc27 mTo) (hc28 mOt) (hc29 mNa) (hc30 mRe) (hc31 mMa) (hc32 mMy) (hc33 mPm) (hc34 mFy) (hc35 mFa) (hc36 mFr) (hc37 (upd mFo (mRn).toNatClampNeg f)) (hc38 mRt) (hc39 mRm) (hc40 mTt) (hc41 mTi) (hc42 mPl) (hc43 mVr) (hc44 mVf) (hc45 mVc) (hc46 mAr) (hc47 mTc) (hc48 mFt) (hc49 mGo) dyn, 0, 0)) rfl (pm_inI (by omega) (by omega)) ?_
          refine pm_go (g := (127, _, [.ref 25], _, 0, 0)) rfl ?_
          refine pm_go (g := (130, _, [.ref 38], _, 0, 0)) rfl ?_
          refine pm_go (g := (131, _, [.ref 25, .ref 38], _, 0, 0)) rfl ?_
          refine pm_go (g := (134, _, [.int mRn, .ref 38], _, 0, 0)) rfl ?_
          refine pm_go (g := (135, _, [.int t, .int mRn, .ref 38], _, 0, 0)) rfl ?_
          refine pm_sd (g := (136, _, [], hq g c1 c2 c3 c4 c5 c6 c7 c8 c9 c10 c11 c12 c13 c14 c15 c16 c17 c18 c19 c20 c21 c22 c23 c24 (hc25 mTy mTm mMn mFn mRn mTn mVn mLr mTr mFl mFm mFp mSc mMp mEn) (hc26 mPa) (hc27 mTo) (hc28 mOt) (hc29 mNa) (hc30 mRe) (hc31 mMa) (hc32 mMy) (hc33 mPm) (hc34 mFy) (hc35 mFa) (hc36 mFr) (hc37 (upd mFo (mRn).toNatClampNeg f)) (hc38 (upd mRt (mRn).toNatClampNeg t)) (hc39 mRm) (hc40 mTt) (hc41 mTi) (hc42 mPl) (hc43 mVr) (hc44 mVf) (hc45 mVc) (hc46 mAr) (hc47 mTc) (hc48 mFt) (hc49 mGo) dyn, 0, 0)) rfl (pm_inI (by omega) (by omega)) ?_
          refine pm_go (g := (137, _, [.ref 25], _, 0, 0)) rfl ?_
          refine pm_go (g := (140, _, [.ref 39], _, 0, 0)) rfl ?_
          refine pm_go (g := (141, _, [.ref 25, .ref 39], _, 0, 0)) rfl ?_
          refine pm_go (g := (144, _, [.int mRn, .ref 39], _, 0, 0)) rfl ?_
          refine pm_go (g := (145, _, [.int w, .int mRn, .ref 39], _, 0, 0)) rfl ?_
          refine pm_sd (g := (146, _, [], hq g c1 c2 c3 c4 c5 c6 c7 c8 c9 c10 c11 c12 c13 c14 c15 c16 c17 c18 c19 c20 c21 c22 c23 c24 (hc25 mTy mTm mMn mFn mRn mTn mVn mLr mTr mFl mFm mFp mSc mMp mEn) (hc26 mPa) (hc27 mTo) (hc28 mOt) (hc29 mNa) (hc30 mRe) (hc31 mMa) (hc32 mMy) (hc33 mPm) (hc34 mFy) (hc35 mFa) (hc36 mFr) (hc37 (upd mFo (mRn).toNatClampNeg f)) (hc38 (upd mRt (mRn).toNatClampNeg t)) (hc39 (upd mRm (mRn).toNatClampNeg w)) (hc40 mTt) (hc41 mTi) (hc42 mPl) (hc43 mVr) (hc44 mVf) (hc45 mVc) (hc46 mAr) (hc47 mTc) (hc48 mFt) (hc49 mGo) dyn, 0, 0)) rfl (pm_inI (by omega) (by omega)) ?_
          refine pm_go (g := (147, _, [.ref 25], _, 0, 0)) rfl ?_
          refine pm_go (g := (148, _, [.ref 25, .ref 25], _, 0, 0)) rfl ?_
          refine pm_go (g := (151, _, [.int mRn, .ref 25], _, 0, 0)) rfl ?_
          refine pm_go (g := (152, _, [.int 1, .int mRn, .ref 25], _, 0, 0)) rfl ?_
          refine pm_go (g := (153, _, [.int (mRn + 1), .ref 25], _, 0, 0)) rfl ?_
          try have h81 : (mRn + 1).toInt = (mRn).toInt + 1 := iAdd (x := (mRn).toInt) (y := 1) rfl (by decide) (by omega) (by omega)
          refine pm_go (g := (156, _, [], hq g c1 c2 c3 c4 c5 c6 c7 c8 c9 c10 c11 c12 c13 c14 c15 c16 c17 c18 c19 c20 c21 c22 c23 c24 (hc25 mTy mTm mMn mFn (mRn + 1) mTn mVn mLr mTr mFl mFm mFp mSc mMp mEn) (hc26 mPa) (hc27 mTo) (hc28 mOt) (hc29 mNa) (hc30 mRe) (hc31 mMa) (hc32 mMy) (hc33 mPm) (hc34 mFy) (hc35 mFa) (hc36 mFr) (hc37 (upd mFo (mRn).toNatClampNeg f)) (hc38 (upd mRt (mRn).toNatClampNeg t)) (hc39 (upd mRm (mRn).toNatClampNeg w)) (hc40 mTt) (hc41 mTi) (hc42 mPl) (hc43 mVr) (hc44 mVf) (hc45 mVc) (hc46 mAr) (hc47 mTc) (hc48 mFt) (hc49 mGo) dyn, 0, 0)) rfl ?_
          refine pm_go (g := (157, _, [.ref 25], _, 0, 0)) rfl ?_
          refine pm_go (g := (160, _, [.int (mRn + 1)], _, 0, 0)) rfl ?_
          refine pm_go (g := (161, _, [.int 1, .int (mRn + 1)], _, 0, 0)) rfl ?_
          refine pm_go (g := (162, _, [.int ((mRn + 1) - 1)], _, 0, 0)) rfl ?_
          try have h82 : ((mRn + 1) - 1).toInt = (mRn + 1).toInt - 1 := iSub (x := (mRn + 1).toInt) (y := 1) rfl (by decide) (by omega) (by omega)
          first | exact pm_ret rfl (k0 (by omega)) | exact pm_ret rfl (k1 (by omega)) | exact pm_ret rfl (k2 (by omega)) | (exfalso; omega)
        have h80 := qF_ne (cx := (mRn).toInt) (cy := 30) rfl (by decide) h80
        refine pm_go (g := (115, _, [.int (-2)], hq g c1 c2 c3 c4 c5 c6 c7 c8 c9 c10 c11 c12 c13 c14 c15 c16 c17 c18 c19 c20 c21 c22 c23 c24 (hc25 mTy mTm mMn mFn mRn mTn mVn mLr mTr mFl mFm mFp mSc mMp mEn) (hc26 mPa) (hc27 mTo) (hc28 mOt) (hc29 mNa) (hc30 mRe) (hc31 mMa) (hc32 mMy) (hc33 mPm) (hc34 mFy) (hc35 mFa) (hc36 mFr) (hc37 mFo) (hc38 mRt) (hc39 mRm) (hc40 mTt) (hc41 mTi) (hc42 mPl) (hc43 mVr) (hc44 mVf) (hc45 mVc) (hc46 mAr) (hc47 mTc) (hc48 mFt) (hc49 mGo) dyn, 0, 0)) rfl ?_
        first | exact pm_ret rfl (k0 (by omega)) | exact pm_ret rfl (k1 (by omega)) | exact pm_ret rfl (k2 (by omega)) | (exfalso; omega)
      show pm_WP 163 (99, [(4, .int 1), (0, .ref 25), (1, .int f), (2, .int t), (3, .int w)], [.int 0], hq g c1 c2 c3 c4 c5 c6 c7 c8 c9 c10 c11 c12 c13 c14 c15 c16 c17 c18 c19 c20 c21 c22 c23 c24 (hc25 mTy mTm mMn mFn mRn mTn mVn mLr mTr mFl mFm mFp mSc mMp mEn) (hc26 mPa) (hc27 mTo) (hc28 mOt) (hc29 mNa) (hc30 mRe) (hc31 mMa) (hc32 mMy) (hc33 mPm) (hc34 mFy) (hc35 mFa) (hc36 mFr) (hc37 mFo) (hc38 mRt) (hc39 mRm) (hc40 mTt) (hc41 mTi) (hc42 mPl) (hc43 mVr) (hc44 mVf) (hc45 mVc) (hc46 mAr) (hc47 mTc) (hc48 mFt) (hc49 mGo) dyn, 0, 0) _
      refine pm_brF (h := (102, [(4, .int 1), (0, .ref 25), (1, .int f), (2, .int t), (3, .int w)], [], hq g c1 c2 c3 c4 c5 c6 c7 c8 c9 c10 c11 c12 c13 c14 c15 c16 c17 c18 c19 c20 c21 c22 c23 c24 (hc25 mTy mTm mMn mFn mRn mTn mVn mLr mTr mFl mFm mFp mSc mMp mEn) (hc26 mPa) (hc27 mTo) (hc28 mOt) (hc29 mNa) (hc30 mRe) (hc31 mMa) (hc32 mMy) (hc33 mPm) (hc34 mFy) (hc35 mFa) (hc36 mFr) (hc37 mFo) (hc38 mRt) (hc39 mRm) (hc40 mTt) (hc41 mTi) (hc42 mPl) (hc43 mVr) (hc44 mVf) (hc45 mVc) (hc46 mAr) (hc47 mTc) (hc48 mFt) (hc49 mGo) dyn, 0, 0)) rfl ?_
      refine pm_go (g := (103, _, [.int (-1)], _, 0, 0)) rfl ?_
      first | exact pm_ret rfl (k0 (by omega)) | exact pm_ret rfl (k1 (by omega)) | exact pm_ret rfl (k2 (by omega)) | (exfalso; omega)
    show pm_WP 163 (21, [(0, .ref 25), (1, .int f), (2, .int t), (3, .int w)], [.int 0], hq g c1 c2 c3 c4 c5 c6 c7 c8 c9 c10 c11 c12 c13 c14 c15 c16 c17 c18 c19 c20 c21 c22 c23 c24 (hc25 mTy mTm mMn mFn mRn mTn mVn mLr mTr mFl mFm mFp mSc mMp mEn) (hc26 mPa) (hc27 mTo) (hc28 mOt) (hc29 mNa) (hc30 mRe) (hc31 mMa) (hc32 mMy) (hc33 mPm) (hc34 mFy) (hc35 mFa) (hc36 mFr) (hc37 mFo) (hc38 mRt) (hc39 mRm) (hc40 mTt) (hc41 mTi) (hc42 mPl) (hc43 mVr) (hc44 mVf) (hc45 mVc) (hc46 mAr) (hc47 mTc) (hc48 mFt) (hc49 mGo) dyn, 0, 0) _
    refine pm_go (g := (81, _, [.int 0], _, 0, 0)) rfl ?_
    refine pm_go (g := (83, [(4, .int 0), (0, .ref 25), (1, .int f), (2, .int t), (3, .int w)], [], _, 0, 0)) rfl ?_
    refine pm_go (g := (85, _, [.int 0], _, 0, 0)) rfl ?_
    refine pm_brT (g := (102, [(4, .int 0), (0, .ref 25), (1, .int f), (2, .int t), (3, .int w)], [], hq g c1 c2 c3 c4 c5 c6 c7 c8 c9 c10 c11 c12 c13 c14 c15 c16 c17 c18 c19 c20 c21 c22 c23 c24 (hc25 mTy mTm mMn mFn mRn mTn mVn mLr mTr mFl mFm mFp mSc mMp mEn) (hc26 mPa) (hc27 mTo) (hc28 mOt) (hc29 mNa) (hc30 mRe) (hc31 mMa) (hc32 mMy) (hc33 mPm) (hc34 mFy) (hc35 mFa) (hc36 mFr) (hc37 mFo) (hc38 mRt) (hc39 mRm) (hc40 mTt) (hc41 mTi) (hc42 mPl) (hc43 mVr) (hc44 mVf) (hc45 mVc) (hc46 mAr) (hc47 mTc) (hc48 mFt) (hc49 mGo) dyn, 0, 0)) rfl ?_
    refine pm_go (g := (103, _, [.int (-1)], _, 0, 0)) rfl ?_
    first | exact pm_ret rfl (k0 (by omega)) | exact pm_ret rfl (k1 (by omega)) | exact pm_ret rfl (k2 (by omega)) | (exfalso; omega)
  show pm_WP 163 (6, [(0, .ref 25), (1, .int f), (2, .int t), (3, .int w)], [.int 0], hq g c1 c2 c3 c4 c5 c6 c7 c8 c9 c10 c11 c12 c13 c14 c15 c16 c17 c18 c19 c20 c21 c22 c23 c24 (hc25 mTy mTm mMn mFn mRn mTn mVn mLr mTr mFl mFm mFp mSc mMp mEn) (hc26 mPa) (hc27 mTo) (hc28 mOt) (hc29 mNa) (hc30 mRe) (hc31 mMa) (hc32 mMy) (hc33 mPm) (hc34 mFy) (hc35 mFa) (hc36 mFr) (hc37 mFo) (hc38 mRt) (hc39 mRm) (hc40 mTt) (hc41 mTi) (hc42 mPl) (hc43 mVr) (hc44 mVf) (hc45 mVc) (hc46 mAr) (hc47 mTc) (hc48 mFt) (hc49 mGo) dyn, 0, 0) _
  refine pm_brF (h := (9, [(0, .ref 25), (1, .int f), (2, .int t), (3, .int w)], [], hq g c1 c2 c3 c4 c5 c6 c7 c8 c9 c10 c11 c12 c13 c14 c15 c16 c17 c18 c19 c20 c21 c22 c23 c24 (hc25 mTy mTm mMn mFn mRn mTn mVn mLr mTr mFl mFm mFp mSc mMp mEn) (hc26 mPa) (hc27 mTo) (hc28 mOt) (hc29 mNa) (hc30 mRe) (hc31 mMa) (hc32 mMy) (hc33 mPm) (hc34 mFy) (hc35 mFa) (hc36 mFr) (hc37 mFo) (hc38 mRt) (hc39 mRm) (hc40 mTt) (hc41 mTi) (hc42 mPl) (hc43 mVr) (hc44 mVf) (hc45 mVc) (hc46 mAr) (hc47 mTc) (hc48 mFt) (hc49 mGo) dyn, 0, 0)) rfl ?_
  refine pm_go (g := (10, _, [.int (-1)], _, 0, 0)) rfl ?_
  first | exact pm_ret rfl (k0 (by omega)) | exact pm_ret rfl (k1 (by omega)) | exact pm_ret rfl (k2 (by omega)) | (exfalso; omega)
set_option maxRecDepth 100000 in
set_option maxHeartbeats 4000000 in
theorem w_X12_clear {g c1 c2 c3 c4 c5 c6 c7 c8 c9 c10 c11 c12 c13 c14 c15 c16 c17 c18 c19 c20 c21 c22 c23 c24 : pm_C} {dyn : pm_H} {mTy : Int32} {mPa : Nat → Int32} {mTo : Nat → Int32} {mTm : Int32} {mMn : Int32} {mOt : Nat → Int32} {mNa : Nat → Int32} {mRe : Nat → Int32} {mMa : Nat → Int32} {mMy : Nat → Int32} {mPm : Nat → Int32} {mFn : Int32} {mFy : Nat → Int32} {mFa : Nat → Int32} {mFr : Nat → Int32} {mRn : Int32} {mFo : Nat → Int32} {mRt : Nat → Int32} {mRm : Nat → Int32} {mTn : Int32} {mTt : Nat → Int32} {mTi : Nat → Int32} {mPl : Nat → Int32} {mVn : Int32} {mVr : Nat → Int32} {mVf : Nat → Int32} {mVc : Nat → Int32} {mAr : Nat → Int32} {mLr : Int32} {mTc : Nat → Int32} {mTr : Int32} {mFl : Int32} {mFt : Nat → Int32} {mFm : Int32} {mFp : Int32} {mSc : Int32} {mMp : Int32} {mEn : Int32} {mGo : Nat → Int32} {Q : pm_Q} (k0 : Q (some (.int mTn)) (hq g c1 c2 c3 c4 c5 c6 c7 c8 c9 c10 c11 c12 c13 c14 c15 c16 c17 c18 c19 c20 c21 c22 c23 c24 (hc25 mTy mTm mMn mFn mRn 0 0 0 0 mFl mFm mFp mSc mMp mEn) (hc26 mPa) (hc27 mTo) (hc28 mOt) (hc29 mNa) (hc30 mRe) (hc31 mMa) (hc32 mMy) (hc33 mPm) (hc34 mFy) (hc35 mFa) (hc36 mFr) (hc37 mFo) (hc38 mRt) (hc39 mRm) (hc40 mTt) (hc41 mTi) (hc42 mPl) (hc43 mVr) (hc44 mVf) (hc45 mVc) (hc46 (upd (upd (upd mAr 0 0) 1 0) 2 0)) (hc47 mTc) (hc48 mFt) (hc49 mGo) dyn)) : pm_WP 189 (0, [(0, .ref 25)], [], hq g c1 c2 c3 c4 c5 c6 c7 c8 c9 c10 c11 c12 c13 c14 c15 c16 c17 c18 c19 c20 c21 c22 c23 c24 (hc25 mTy mTm mMn mFn mRn mTn mVn mLr mTr mFl mFm mFp mSc mMp mEn) (hc26 mPa) (hc27 mTo) (hc28 mOt) (hc29 mNa) (hc30 mRe) (hc31 mMa) (hc32 mMy) (hc33 mPm) (hc34 mFy) (hc35 mFa) (hc36 mFr) (hc37 mFo) (hc38 mRt) (hc39 mRm) (hc40 mTt) (hc41 mTi) (hc42 mPl) (hc43 mVr) (hc44 mVf) (hc45 mVc) (hc46 mAr) (hc47 mTc) (hc48 mFt) (hc49 mGo) dyn, 0, 0) Q := by
  refine pm_go (g := (1, [(0, .ref 25)], [.ref 25], hq g c1 c2 c3 c4 c5 c6 c7 c8 c9 c10 c11 c12 c13 c14 c15 c16 c17 c18 c19 c20 c21 c22 c23 c24 (hc25 mTy mTm mMn mFn mRn mTn mVn mLr mTr mFl mFm mFp mSc mMp mEn) (hc26 mPa) (hc27 mTo) (hc28 mOt) (hc29 mNa) (hc30 mRe) (hc31 mMa) (hc32 mMy) (hc33 mPm) (hc34 mFy) (hc35 mFa) (hc36 mFr) (hc37 mFo) (hc38 mRt) (hc39 mRm) (hc40 mTt) (hc41 mTi) (hc42 mPl) (hc43 mVr) (hc44 mVf) (hc45 mVc) (hc46 mAr) (hc47 mTc) (hc48 mFt) (hc49 mGo) dyn, 0, 0)) rfl ?_
  refine pm_go (g := (4, _, [.int mTn], _, 0, 0)) rfl ?_
  refine pm_go (g := (5, [(1, .int mTn), (0, .ref 25)], [], _, 0, 0)) rfl ?_
  refine pm_go (g := (6, _, [.ref 25], _, 0, 0)) rfl ?_
  refine pm_go (g := (7, _, [.int 0, .ref 25], _, 0, 0)) rfl ?_
  refine pm_go (g := (10, _, [], hq g c1 c2 c3 c4 c5 c6 c7 c8 c9 c10 c11 c12 c13 c14 c15 c16 c17 c18 c19 c20 c21 c22 c23 c24 (hc25 mTy mTm mMn mFn mRn 0 mVn mLr mTr mFl mFm mFp mSc mMp mEn) (hc26 mPa) (hc27 mTo) (hc28 mOt) (hc29 mNa) (hc30 mRe) (hc31 mMa) (hc32 mMy) (hc33 mPm) (hc34 mFy) (hc35 mFa) (hc36 mFr) (hc37 mFo) (hc38 mRt) (hc39 mRm) (hc40 mTt) (hc41 mTi) (hc42 mPl) (hc43 mVr) (hc44 mVf) (hc45 mVc) (hc46 mAr) (hc47 mTc) (hc48 mFt) (hc49 mGo) dyn, 0, 0)) rfl ?_
  refine pm_go (g := (11, _, [.ref 25], _, 0, 0)) rfl ?_
  refine pm_go (g := (12, _, [.int 0, .ref 25], _, 0, 0)) rfl ?_
  refine pm_go (g := (15, _, [], hq g c1 c2 c3 c4 c5 c6 c7 c8 c9 c10 c11 c12 c13 c14 c15 c16 c17 c18 c19 c20 c21 c22 c23 c24 (hc25 mTy mTm mMn mFn mRn 0 0 mLr mTr mFl mFm mFp mSc mMp mEn) (hc26 mPa) (hc27 mTo) (hc28 mOt) (hc29 mNa) (hc30 mRe) (hc31 mMa) (hc32 mMy) (hc33 mPm) (hc34 mFy) (hc35 mFa) (hc36 mFr) (hc37 mFo) (hc38 mRt) (hc39 mRm) (hc40 mTt) (hc41 mTi) (hc42 mPl) (hc43 mVr) (hc44 mVf) (hc45 mVc) (hc46 mAr) (hc47 mTc) (hc48 mFt) (hc49 mGo) dyn, 0, 0)) rfl ?_
  refine pm_go (g := (16, _, [.ref 25], _, 0, 0)) rfl ?_
  refine pm_go (g := (17, _, [.int 0, .ref 25], _, 0, 0)) rfl ?_
  refine pm_go (g := (20, _, [], hq g c1 c2 c3 c4 c5 c6 c7 c8 c9 c10 c11 c12 c13 c14 c15 c16 c17 c18 c19 c20 c21 c22 c23 c24 (hc25 mTy mTm mMn mFn mRn 0 0 mLr 0 mFl mFm mFp mSc mMp mEn) (hc26 mPa) (hc27 mTo) (hc28 mOt) (hc29 mNa) (hc30 mRe) (hc31 mMa) (hc32 mMy) (hc33 mPm) (hc34 mFy) (hc35 mFa) (hc36 mFr) (hc37 mFo) (hc38 mRt) (hc39 mRm) (hc40 mTt) (hc41 mTi) (hc42 mPl) (hc43 mVr) (hc44 mVf) (hc45 mVc) (hc46 mAr) (hc47 mTc) (hc48 mFt) (hc49 mGo) dyn, 0, 0)) rfl ?_
  refine pm_go (g := (21, _, [.ref 25], _, 0, 0)) rfl ?_
  refine pm_go (g := (22, _, [.int 0, .ref 25], _, 0, 0)) rfl ?_
  refine pm_go (g := (25, _, [], hq g c1 c2 c3 c4 c5 c6 c7 c8 c9 c10 c11 c12 c13 c14 c15 c16 c17 c18 c19 c20 c21 c22 c23 c24 (hc25 mTy mTm mMn mFn mRn 0 0 0 0 mFl mFm mFp mSc mMp mEn) (hc26 mPa) (hc27 mTo) (hc28 mOt) (hc29 mNa) (hc30 mRe) (hc31 mMa) (hc32 mMy) (hc33 mPm) (hc34 mFy) (hc35 mFa) (hc36 mFr) (hc37 mFo) (hc38 mRt) (hc39 mRm) (hc40 mTt) (hc41 mTi) (hc42 mPl) (hc43 mVr) (hc44 mVf) (hc45 mVc) (hc46 mAr) (hc47 mTc) (hc48 mFt) (hc49 mGo) dyn, 0, 0)) rfl ?_
  refine pm_go (g := (26, _, [.int 0], _, 0, 0)) rfl ?_
  refine pm_go (g := (27, [(2, .int 0), (1, .int mTn), (0, .ref 25)], [], _, 0, 0)) rfl ?_
  refine pm_go (g := (28, _, [.int 0], _, 0, 0)) rfl ?_
  refine pm_go (g := (29, _, [.int 3, .int 0], _, 0, 0)) rfl ?_
  refine pm_brF (h := (32, [(2, .int 0), (1, .int mTn), (0, .ref 25)], [], hq g c1 c2 c3 c4 c5 c6 c7 c8 c9 c10 c11 c12 c13 c14 c15 c16 c17 c18 c19 c20 c21 c22 c23 c24 (hc25 mTy mTm mMn mFn mRn 0 0 0 0 mFl mFm mFp mSc mMp mEn) (hc26 mPa) (hc27 mTo) (hc28 mOt) (hc29 mNa) (hc30 mRe) (hc31 mMa) (hc32 mMy) (hc33 mPm) (hc34 mFy) (hc35 mFa) (hc36 mFr) (hc37 mFo) (hc38 mRt) (hc39 mRm) (hc40 mTt) (hc41 mTi) (hc42 mPl) (hc43 mVr) (hc44 mVf) (hc45 mVc) (hc46 mAr) (hc47 mTc) (hc48 mFt) (hc49 mGo) dyn, 0, 0)) rfl ?_
  refine pm_go (g := (33, _, [.ref 25], _, 0, 0)) rfl ?_
  refine pm_go (g := (36, _, [.ref 46], _, 0, 0)) rfl ?_
  refine pm_go (g := (37, _, [.int 0, .ref 46], _, 0, 0)) rfl ?_
  refine pm_go (g := (38, _, [.int 0, .int 0, .ref 46], _, 0, 0)) rfl ?_
  refine pm_go (g := (39, _, [], hq g c1 c2 c3 c4 c5 c6 c7 c8 c9 c10 c11 c12 c13 c14 c15 c16 c17 c18 c19 c20 c21 c22 c23 c24 (hc25 mTy mTm mMn mFn mRn 0 0 0 0 mFl mFm mFp mSc mMp mEn) (hc26 mPa) (hc27 mTo) (hc28 mOt) (hc29 mNa) (hc30 mRe) (hc31 mMa) (hc32 mMy) (hc33 mPm) (hc34 mFy) (hc35 mFa) (hc36 mFr) (hc37 mFo) (hc38 mRt) (hc39 mRm) (hc40 mTt) (hc41 mTi) (hc42 mPl) (hc43 mVr) (hc44 mVf) (hc45 mVc) (hc46 (upd mAr 0 0)) (hc47 mTc) (hc48 mFt) (hc49 mGo) dyn, 0, 0)) rfl ?_
  refine pm_go (g := (42, [(2, .int 1), (1, .int mTn), (0, .ref 25)], [], _, 0, 0)) rfl ?_
  refine pm_go (g := (27, _, [], _, 0, 0)) rfl ?_
  refine pm_go (g := (28, _, [.int 1], _, 0, 0)) rfl ?_
  refine pm_go (g := (29, _, [.int 3, .int 1], _, 0, 0)) rfl ?_
  refine pm_brF (h := (32, [(2, .int 1), (1, .int mTn), (0, .ref 25)], [], hq g c1 c2 c3 c4 c5 c6 c7 c8 c9 c10 c11 c12 c13 c14 c15 c16 c17 c18 c19 c20 c21 c22 c23 c24 (hc25 mTy mTm mMn mFn mRn 0 0 0 0 mFl mFm mFp mSc mMp mEn) (hc26 mPa) (hc27 mTo) (hc28 mOt) (hc29 mNa) (hc30 mRe) (hc31 mMa) (hc32 mMy) (hc33 mPm) (hc34 mFy) (hc35 mFa) (hc36 mFr) (hc37 mFo) (hc38 mRt) (hc39 mRm) (hc40 mTt) (hc41 mTi) (hc42 mPl) (hc43 mVr) (hc44 mVf) (hc45 mVc) (hc46 (upd mAr 0 0)) (hc47 mTc) (hc48 mFt) (hc49 mGo) dyn, 0, 0)) rfl ?_
  refine pm_go (g := (33, _, [.ref 25], _, 0, 0)) rfl ?_
  refine pm_go (g := (36, _, [.ref 46], _, 0, 0)) rfl ?_
  refine pm_go (g := (37, _, [.int 1, .ref 46], _, 0, 0)) rfl ?_
  refine pm_go (g := (38, _, [.int 0, .int 1, .ref 46], _, 0, 0)) rfl ?_
  refine pm_go (g := (39, _, [], hq g c1 c2 c3 c4 c5 c6 c7 c8 c9 c10 c11 c12 c13 c14 c15 c16 c17 c18 c19 c20 c21 c22 c23 c24 (hc25 mTy mTm mMn mFn mRn 0 0 0 0 mFl mFm mFp mSc mMp mEn) (hc26 mPa) (hc27 mTo) (hc28 mOt) (hc29 mNa) (hc30 mRe) (hc31 mMa) (hc32 mMy) (hc33 mPm) (hc34 mFy) (hc35 mFa) (hc36 mFr) (hc37 mFo) (hc38 mRt) (hc39 mRm) (hc40 mTt) (hc41 mTi) (hc42 mPl) (hc43 mVr) (hc44 mVf) (hc45 mVc) (hc46 (upd (upd mAr 0 0) 1 0)) (hc47 mTc) (hc48 mFt) (hc49 mGo) dyn, 0, 0)) rfl ?_
  refine pm_go (g := (42, [(2, .int 2), (1, .int mTn), (0, .ref 25)], [], _, 0, 0)) rfl ?_
  refine pm_go (g := (27, _, [], _, 0, 0)) rfl ?_
  refine pm_go (g := (28, _, [.int 2], _, 0, 0)) rfl ?_
  refine pm_go (g := (29, _, [.int 3, .int 2], _, 0, 0)) rfl ?_
  refine pm_brF (h := (32, [(2, .int 2), (1, .int mTn), (0, .ref 25)], [], hq g c1 c2 c3 c4 c5 c6 c7 c8 c9 c10 c11 c12 c13 c14 c15 c16 c17 c18 c19 c20 c21 c22 c23 c24 (hc25 mTy mTm mMn mFn mRn 0 0 0 0 mFl mFm mFp mSc mMp mEn) (hc26 mPa) (hc27 mTo) (hc28 mOt) (hc29 mNa) (hc30 mRe) (hc31 mMa) (hc32 mMy) (hc33 mPm) (hc34 mFy) (hc35 mFa) (hc36 mFr) (hc37 mFo) (hc38 mRt) (hc39 mRm) (hc40 mTt) (hc41 mTi) (hc42 mPl) (hc43 mVr) (hc44 mVf) (hc45 mVc) (hc46 (upd (upd mAr 0 0) 1 0)) (hc47 mTc) (hc48 mFt) (hc49 mGo) dyn, 0, 0)) rfl ?_
  refine pm_go (g := (33, _, [.ref 25], _, 0, 0)) rfl ?_
  refine pm_go (g := (36, _, [.ref 46], _, 0, 0)) rfl ?_
  refine pm_go (g := (37, _, [.int 2, .ref 46], _, 0, 0)) rfl ?_
  refine pm_go (g := (38, _, [.int 0, .int 2, .ref 46], _, 0, 0)) rfl ?_
  refine pm_go (g := (39, _, [], hq g c1 c2 c3 c4 c5 c6 c7 c8 c9 c10 c11 c12 c13 c14 c15 c16 c17 c18 c19 c20 c21 c22 c23 c24 (hc25 mTy mTm mMn mFn mRn 0 0 0 0 mFl mFm mFp mSc mMp mEn) (hc26 mPa) (hc27 mTo) (hc28 mOt) (hc29 mNa) (hc30 mRe) (hc31 mMa) (hc32 mMy) (hc33 mPm) (hc34 mFy) (hc35 mFa) (hc36 mFr) (hc37 mFo) (hc38 mRt) (hc39 mRm) (hc40 mTt) (hc41 mTi) (hc42 mPl) (hc43 mVr) (hc44 mVf) (hc45 mVc) (hc46 (upd (upd (upd mAr 0 0) 1 0) 2 0)) (hc47 mTc) (hc48 mFt) (hc49 mGo) dyn, 0, 0)) rfl ?_
  refine pm_go (g := (42, [(2, .int 3), (1, .int mTn), (0, .ref 25)], [], _, 0, 0)) rfl ?_
  refine pm_go (g := (27, _, [], _, 0, 0)) rfl ?_
  refine pm_go (g := (28, _, [.int 3], _, 0, 0)) rfl ?_
  refine pm_go (g := (29, _, [.int 3, .int 3], _, 0, 0)) rfl ?_
  refine pm_brT (g := (45, [(2, .int 3), (1, .int mTn), (0, .ref 25)], [], hq g c1 c2 c3 c4 c5 c6 c7 c8 c9 c10 c11 c12 c13 c14 c15 c16 c17 c18 c19 c20 c21 c22 c23 c24 (hc25 mTy mTm mMn mFn mRn 0 0 0 0 mFl mFm mFp mSc mMp mEn) (hc26 mPa) (hc27 mTo) (hc28 mOt) (hc29 mNa) (hc30 mRe) (hc31 mMa) (hc32 mMy) (hc33 mPm) (hc34 mFy) (hc35 mFa) (hc36 mFr) (hc37 mFo) (hc38 mRt) (hc39 mRm) (hc40 mTt) (hc41 mTi) (hc42 mPl) (hc43 mVr) (hc44 mVf) (hc45 mVc) (hc46 (upd (upd (upd mAr 0 0) 1 0) 2 0)) (hc47 mTc) (hc48 mFt) (hc49 mGo) dyn, 0, 0)) rfl ?_
  refine pm_go (g := (46, _, [.int mTn], _, 0, 0)) rfl ?_
  exact pm_ret rfl k0
