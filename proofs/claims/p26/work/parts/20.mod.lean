section
theorem iAdd {a b : Int32} {x y : Int} (ha : a.toInt = x) (hb : b.toInt = y) (h1 : -2147483648 ≤ x + y) (h2 : x + y ≤ 2147483647) : (a + b).toInt = x + y := by
  rw [Int32.toInt_add, ha, hb]
  unfold Int.bmod
  dsimp only
  split <;> omega
theorem iSub {a b : Int32} {x y : Int} (ha : a.toInt = x) (hb : b.toInt = y) (h1 : -2147483648 ≤ x - y) (h2 : x - y ≤ 2147483647) : (a - b).toInt = x - y := by
  rw [Int32.toInt_sub, ha, hb]
  unfold Int.bmod
  dsimp only
  split <;> omega
theorem iMul {a b : Int32} {x y : Int} (ha : a.toInt = x) (hb : b.toInt = y) (h1 : -2147483648 ≤ x * y) (h2 : x * y ≤ 2147483647) : (a * b).toInt = x * y := by
  rw [Int32.toInt_mul, ha, hb]
  generalize x * y = z at *
  unfold Int.bmod
  dsimp only
  split <;> omega

def hc1 (xTc : Int32) (xFc : Int32) (xRc : Int32) (xVc : Int32) (xLr : Int32) (xFl : Int32) : pm_C := .inr (11, [.ref 2, .ref 5, .ref 9, .ref 12, .ref 16, .ref 18, .ref 20, .int xTc, .ref 21, .int xFc, .ref 22, .int xRc, .ref 23, .int xVc, .ref 24, .int xLr, .int xFl])
def hc2 (xTn : Int32) : pm_C := .inr (9, [.ref 3, .ref 4, .int xTn])
def hc3 (xPa : Nat → Int32) : pm_C := .inl (0, 10, .inl xPa)
def hc4 (xUp : Nat → Int32) : pm_C := .inl (0, 31, .inl xUp)
def hc5 (xMn : Int32) (xSt : Int64) (xAb : Int64) (xVa : Int64) : pm_C := .inr (4, [.ref 2, .ref 6, .int xMn, .ref 7, .ref 8, .long xSt, .long xAb, .long xVa])
def hc6 (xAl : Nat → Option Nat) : pm_C := .inl (6, 40, .inr (.inr (.inr (.inr xAl))))
def hc7 (xHa : Nat → Int64) : pm_C := .inl (1, 10, .inr (.inl xHa))
def hc8 (xNm : Nat → Int64) : pm_C := .inl (1, 7, .inr (.inl xNm))
def hc9 (xBy : Value) (xBs : Int32) : pm_C := .inr (2, [.ref 2, .ref 5, .ref 10, .ref 11, xBy, .int xBs])
def hc10 (xA1 : Value) (xF1 : Int32) (xT1 : Int64) (xP1 : Int32) (xD1 : Value) : pm_C := .inr (6, [.ref 2, .ref 5, xA1, .int xF1, .long xT1, .int xP1, xD1])
def hc11 (xA2 : Value) (xF2 : Int32) (xT2 : Int64) (xP2 : Int32) (xD2 : Value) : pm_C := .inr (6, [.ref 2, .ref 5, xA2, .int xF2, .long xT2, .int xP2, xD2])
def hc12 (xTl : Int32) : pm_C := .inr (7, [.ref 13, .ref 14, .ref 15, .int xTl])
def hc13 (xKi : Nat → Int32) : pm_C := .inl (0, 61, .inl xKi)
def hc14 (xAm : Nat → Int32) : pm_C := .inl (0, 61, .inl xAm)
def hc15 (xPl : Nat → Int32) : pm_C := .inl (0, 1220, .inl xPl)
def hc16 (xCs : Int32) (xCo : Int32) (xCa : Value) : pm_C := .inr (0, [.ref 5, .ref 12, .ref 17, .int xCs, .int xCo, xCa])
def hc17 (xGo : Nat → Int32) : pm_C := .inl (0, 3, .inl xGo)
def hc18 (xOl : Int32) (xKn : Int32) : pm_C := .inr (8, [.ref 19, .int xOl, .int xKn])
def hc19 (xKe : Nat → Int32) : pm_C := .inl (0, 50, .inl xKe)
def hc20 (xTo : Nat → Int32) : pm_C := .inl (0, 3, .inl xTo)
def hc21 (xFa : Nat → Option Nat) : pm_C := .inl (4, 10, .inr (.inr (.inr (.inr xFa))))
def hc22 (xRe : Nat → Option Nat) : pm_C := .inl (8, 30, .inr (.inr (.inr (.inr xRe))))
def hc23 (xVl : Nat → Option Nat) : pm_C := .inl (13, 30, .inr (.inr (.inr (.inr xVl))))
def hc24 (xAr : Nat → Int32) : pm_C := .inl (0, 3, .inl xAr)
def hc25 (mTy : Int32) (mTm : Int32) (mMn : Int32) (mFn : Int32) (mRn : Int32) (mTn : Int32) (mVn : Int32) (mLr : Int32) (mTr : Int32) (mFl : Int32) (mFm : Int32) (mFp : Int32) (mSc : Int32) (mMp : Int32) (mEn : Int32) : pm_C := .inr (12, [.int mTy, .ref 26, .ref 27, .int mTm, .int mMn, .ref 28, .ref 29, .ref 30, .ref 31, .ref 32, .ref 33, .int mFn, .ref 34, .ref 35, .ref 36, .int mRn, .ref 37, .ref 38, .ref 39, .int mTn, .ref 40, .ref 41, .ref 42, .int mVn, .ref 43, .ref 44, .ref 45, .ref 46, .int mLr, .ref 47, .int mTr, .int mFl, .ref 48, .int mFm, .int mFp, .int mSc, .int mMp, .int mEn, .ref 49])
def hc26 (mPa : Nat → Int32) : pm_C := .inl (0, 10, .inl mPa)
def hc27 (mTo : Nat → Int32) : pm_C := .inl (0, 3, .inl mTo)
def hc28 (mOt : Nat → Int32) : pm_C := .inl (0, 40, .inl mOt)
def hc29 (mNa : Nat → Int32) : pm_C := .inl (0, 40, .inl mNa)
def hc30 (mRe : Nat → Int32) : pm_C := .inl (0, 40, .inl mRe)
def hc31 (mMa : Nat → Int32) : pm_C := .inl (0, 40, .inl mMa)
def hc32 (mMy : Nat → Int32) : pm_C := .inl (0, 40, .inl mMy)
def hc33 (mPm : Nat → Int32) : pm_C := .inl (0, 120, .inl mPm)
def hc34 (mFy : Nat → Int32) : pm_C := .inl (0, 10, .inl mFy)
def hc35 (mFa : Nat → Int32) : pm_C := .inl (0, 30, .inl mFa)
def hc36 (mFr : Nat → Int32) : pm_C := .inl (0, 10, .inl mFr)
def hc37 (mFo : Nat → Int32) : pm_C := .inl (0, 30, .inl mFo)
def hc38 (mRt : Nat → Int32) : pm_C := .inl (0, 30, .inl mRt)
def hc39 (mRm : Nat → Int32) : pm_C := .inl (0, 30, .inl mRm)
def hc40 (mTt : Nat → Int32) : pm_C := .inl (0, 61, .inl mTt)
def hc41 (mTi : Nat → Int32) : pm_C := .inl (0, 61, .inl mTi)
def hc42 (mPl : Nat → Int32) : pm_C := .inl (0, 1300, .inl mPl)
def hc43 (mVr : Nat → Int32) : pm_C := .inl (0, 30, .inl mVr)
def hc44 (mVf : Nat → Int32) : pm_C := .inl (0, 30, .inl mVf)
def hc45 (mVc : Nat → Int32) : pm_C := .inl (0, 30, .inl mVc)
def hc46 (mAr : Nat → Int32) : pm_C := .inl (0, 3, .inl mAr)
def hc47 (mTc : Nat → Int32) : pm_C := .inl (0, 50, .inl mTc)
def hc48 (mFt : Nat → Int32) : pm_C := .inl (2, 40, .inl mFt)
def hc49 (mGo : Nat → Int32) : pm_C := .inl (0, 3, .inl mGo)
def hq (g c1 c2 c3 c4 c5 c6 c7 c8 c9 c10 c11 c12 c13 c14 c15 c16 c17 c18 c19 c20 c21 c22 c23 c24 c25 c26 c27 c28 c29 c30 c31 c32 c33 c34 c35 c36 c37 c38 c39 c40 c41 c42 c43 c44 c45 c46 c47 c48 c49 : pm_C) (dyn : pm_H) : pm_H := g :: c1 :: c2 :: c3 :: c4 :: c5 :: c6 :: c7 :: c8 :: c9 :: c10 :: c11 :: c12 :: c13 :: c14 :: c15 :: c16 :: c17 :: c18 :: c19 :: c20 :: c21 :: c22 :: c23 :: c24 :: c25 :: c26 :: c27 :: c28 :: c29 :: c30 :: c31 :: c32 :: c33 :: c34 :: c35 :: c36 :: c37 :: c38 :: c39 :: c40 :: c41 :: c42 :: c43 :: c44 :: c45 :: c46 :: c47 :: c48 :: c49 :: dyn
set_option maxRecDepth 100000 in
set_option maxHeartbeats 4000000 in
theorem w_X12_isIn {g c1 c2 c3 c4 c5 c6 c7 c8 c9 c10 c11 c12 c13 c14 c15 c16 c17 c18 c19 c20 c21 c22 c23 c24 : pm_C} {dyn : pm_H} {mTy : Int32} {mPa : Nat → Int32} {mTo : Nat → Int32} {mTm : Int32} {mMn : Int32} {mOt : Nat → Int32} {mNa : Nat → Int32} {mRe : Nat → Int32} {mMa : Nat → Int32} {mMy : Nat → Int32} {mPm : Nat → Int32} {mFn : Int32} {mFy : Nat → Int32} {mFa : Nat → Int32} {mFr : Nat → Int32} {mRn : Int32} {mFo : Nat → Int32} {mRt : Nat → Int32} {mRm : Nat → Int32} {mTn : Int32} {mTt : Nat → Int32} {mTi : Nat → Int32} {mPl : Nat → Int32} {mVn : Int32} {mVr : Nat → Int32} {mVf : Nat → Int32} {mVc : Nat → Int32} {mAr : Nat → Int32} {mLr : Int32} {mTc : Nat → Int32} {mTr : Int32} {mFl : Int32} {mFt : Nat → Int32} {mFm : Int32} {mFp : Int32} {mSc : Int32} {mMp : Int32} {mEn : Int32} {mGo : Nat → Int32} {Q : pm_Q} (v : Int32) (lo : Int32) (hi : Int32) (k0 : lo.toInt ≤ v.toInt ∧ v.toInt ≤ hi.toInt → Q (some (.int 1)) (hq g c1 c2 c3 c4 c5 c6 c7 c8 c9 c10 c11 c12 c13 c14 c15 c16 c17 c18 c19 c20 c21 c22 c23 c24 (hc25 mTy mTm mMn mFn mRn mTn mVn mLr mTr mFl mFm mFp mSc mMp mEn) (hc26 mPa) (hc27 mTo) (hc28 mOt) (hc29 mNa) (hc30 mRe) (hc31 mMa) (hc32 mMy) (hc33 mPm) (hc34 mFy) (hc35 mFa) (hc36 mFr) (hc37 mFo) (hc38 mRt) (hc39 mRm) (hc40 mTt) (hc41 mTi) (hc42 mPl) (hc43 mVr) (hc44 mVf) (hc45 mVc) (hc46 mAr) (hc47 mTc) (hc48 mFt) (hc49 mGo) dyn)) (k1 : (v.toInt < lo.toInt ∨ hi.toInt < v.toInt) → Q (some (.int 0)) (hq g c1 c2 c3 c4 c5 c6 c7 c8 c9 c10 c11 c12 c13 c14 c15 c16 c17 c18 c19 c20 c21 c22 c23 c24 (hc25 mTy mTm mMn mFn mRn mTn mVn mLr mTr mFl mFm mFp mSc mMp mEn) (hc26 mPa) (hc27 mTo) (hc28 mOt) (hc29 mNa) (hc30 mRe) (hc31 mMa) (hc32 mMy) (hc33 mPm) (hc34 mFy) (hc35 mFa) (hc36 mFr) (hc37 mFo) (hc38 mRt) (hc39 mRm) (hc40 mTt) (hc41 mTi) (hc42 mPl) (hc43 mVr) (hc44 mVf) (hc45 mVc) (hc46 mAr) (hc47 mTc) (hc48 mFt) (hc49 mGo) dyn)) : pm_WP 128 (0, [(0, .int v), (1, .int lo), (2, .int hi)], [], hq g c1 c2 c3 c4 c5 c6 c7 c8 c9 c10 c11 c12 c13 c14 c15 c16 c17 c18 c19 c20 c21 c22 c23 c24 (hc25 mTy mTm mMn mFn mRn mTn mVn mLr mTr mFl mFm mFp mSc mMp mEn) (hc26 mPa) (hc27 mTo) (hc28 mOt) (hc29 mNa) (hc30 mRe) (hc31 mMa) (hc32 mMy) (hc33 mPm) (hc34 mFy) (hc35 mFa) (hc36 mFr) (hc37 mFo) (hc38 mRt) (hc39 mRm) (hc40 mTt) (hc41 mTi) (hc42 mPl) (hc43 mVr) (hc44 mVf) (hc45 mVc) (hc46 mAr) (hc47 mTc) (hc48 mFt) (hc49 mGo) dyn, 0, 0) Q := by
  refine pm_go (g := (1, [(0, .int v), (1, .int lo), (2, .int hi)], [.int v], hq g c1 c2 c3 c4 c5 c6 c7 c8 c9 c10 c11 c12 c13 c14 c15 c16 c17 c18 c19 c20 c21 c22 c23 c24 (hc25 mTy mTm mMn mFn mRn mTn mVn mLr mTr mFl mFm mFp mSc mMp mEn) (hc26 mPa) (hc27 mTo) (hc28 mOt) (hc29 mNa) (hc30 mRe) (hc31 mMa) (hc32 mMy) (hc33 mPm) (hc34 mFy) (hc35 mFa) (hc36 mFr) (hc37 mFo) (hc38 mRt) (hc39 mRm) (hc40 mTt) (hc41 mTi) (hc42 mPl) (hc43 mVr) (hc44 mVf) (hc45 mVc) (hc46 mAr) (hc47 mTc) (hc48 mFt) (hc49 mGo) dyn, 0, 0)) rfl ?_
  refine pm_go (g := (2, _, [.int lo, .int v], _, 0, 0)) rfl ?_
  refine pm_if2 (g := (14, [(0, .int v), (1, .int lo), (2, .int hi)], [], hq g c1 c2 c3 c4 c5 c6 c7 c8 c9 c10 c11 c12 c13 c14 c15 c16 c17 c18 c19 c20 c21 c22 c23 c24 (hc25 mTy mTm mMn mFn mRn mTn mVn mLr mTr mFl mFm mFp mSc mMp mEn) (hc26 mPa) (hc27 mTo) (hc28 mOt) (hc29 mNa) (hc30 mRe) (hc31 mMa) (hc32 mMy) (hc33 mPm) (hc34 mFy) (hc35 mFa) (hc36 mFr) (hc37 mFo) (hc38 mRt) (hc39 mRm) (hc40 mTt) (hc41 mTi) (hc42 mPl) (hc43 mVr) (hc44 mVf) (hc45 mVc) (hc46 mAr) (hc47 mTc) (hc48 mFt) (hc49 mGo) dyn, 0, 0)) (h := (5, [(0, .int v), (1, .int lo), (2, .int hi)], [], hq g c1 c2 c3 c4 c5 c6 c7 c8 c9 c10 c11 c12 c13 c14 c15 c16 c17 c18 c19 c20 c21 c22 c23 c24 (hc25 mTy mTm mMn mFn mRn mTn mVn mLr mTr mFl mFm mFp mSc mMp mEn) (hc26 mPa) (hc27 mTo) (hc28 mOt) (hc29 mNa) (hc30 mRe) (hc31 mMa) (hc32 mMy) (hc33 mPm) (hc34 mFy) (hc35 mFa) (hc36 mFr) (hc37 mFo) (hc38 mRt) (hc39 mRm) (hc40 mTt) (hc41 mTi) (hc42 mPl) (hc43 mVr) (hc44 mVf) (hc45 mVc) (hc46 mAr) (hc47 mTc) (hc48 mFt) (hc49 mGo) dyn, 0, 0)) rfl (fun h1 => ?_) (fun h1 => ?_)
  ·
    have h1 := qT_lt (cx := (v).toInt) (cy := (lo).toInt) rfl rfl h1
    refine pm_go (g := (15, _, [.int 0], _, 0, 0)) rfl ?_
    first | exact pm_ret rfl (k0 (by first | omega | assumption | (simp only [*]; done))) | exact pm_ret rfl (k1 (by first | omega | assumption | (simp only [*]; done)))
  have h1 := qF_lt (cx := (v).toInt) (cy := (lo).toInt) rfl rfl h1
  refine pm_go (g := (6, _, [.int v], _, 0, 0)) rfl ?_
  refine pm_go (g := (7, _, [.int hi, .int v], _, 0, 0)) rfl ?_
  refine pm_if2 (g := (14, [(0, .int v), (1, .int lo), (2, .int hi)], [], hq g c1 c2 c3 c4 c5 c6 c7 c8 c9 c10 c11 c12 c13 c14 c15 c16 c17 c18 c19 c20 c21 c22 c23 c24 (hc25 mTy mTm mMn mFn mRn mTn mVn mLr mTr mFl mFm mFp mSc mMp mEn) (hc26 mPa) (hc27 mTo) (hc28 mOt) (hc29 mNa) (hc30 mRe) (hc31 mMa) (hc32 mMy) (hc33 mPm) (hc34 mFy) (hc35 mFa) (hc36 mFr) (hc37 mFo) (hc38 mRt) (hc39 mRm) (hc40 mTt) (hc41 mTi) (hc42 mPl) (hc43 mVr) (hc44 mVf) (hc45 mVc) (hc46 mAr) (hc47 mTc) (hc48 mFt) (hc49 mGo) dyn, 0, 0)) (h := (10, [(0, .int v), (1, .int lo), (2, .int hi)], [], hq g c1 c2 c3 c4 c5 c6 c7 c8 c9 c10 c11 c12 c13 c14 c15 c16 c17 c18 c19 c20 c21 c22 c23 c24 (hc25 mTy mTm mMn mFn mRn mTn mVn mLr mTr mFl mFm mFp mSc mMp mEn) (hc26 mPa) (hc27 mTo) (hc28 mOt) (hc29 mNa) (hc30 mRe) (hc31 mMa) (hc32 mMy) (hc33 mPm) (hc34 mFy) (hc35 mFa) (hc36 mFr) (hc37 mFo) (hc38 mRt) (hc39 mRm) (hc40 mTt) (hc41 mTi) (hc42 mPl) (hc43 mVr) (hc44 mVf) (hc45 mVc) (hc46 mAr) (hc47 mTc) (hc48 mFt) (hc49 mGo) dyn, 0, 0)) rfl (fun h2 => ?_) (fun h2 => ?_)
  ·
    have h2 := qT_gt (cx := (v).toInt) (cy := (hi).toInt) rfl rfl h2
    refine pm_go (g := (15, _, [.int 0], _, 0, 0)) rfl ?_
    first | exact pm_ret rfl (k0 (by first | omega | assumption | (simp only [*]; done))) | exact pm_ret rfl (k1 (by first | omega | assumption | (simp only [*]; done)))
  have h2 := qF_gt (cx := (v).toInt) (cy := (hi).toInt) rfl rfl h2
  refine pm_go (g := (11, _, [.int 1], _, 0, 0)) rfl ?_
  refine pm_go (g := (15, _, [.int 1], _, 0, 0)) rfl ?_
  first | exact pm_ret rfl (k0 (by first | omega | assumption | (simp only [*]; done))) | exact pm_ret rfl (k1 (by first | omega | assumption | (simp only [*]; done)))
set_option maxRecDepth 100000 in
set_option maxHeartbeats 4000000 in
theorem w_X12_isClass {g c1 c2 c3 c4 c5 c6 c7 c8 c9 c10 c11 c12 c13 c14 c15 c16 c17 c18 c19 c20 c21 c22 c23 c24 : pm_C} {dyn : pm_H} {mTy : Int32} {mPa : Nat → Int32} {mTo : Nat → Int32} {mTm : Int32} {mMn : Int32} {mOt : Nat → Int32} {mNa : Nat → Int32} {mRe : Nat → Int32} {mMa : Nat → Int32} {mMy : Nat → Int32} {mPm : Nat → Int32} {mFn : Int32} {mFy : Nat → Int32} {mFa : Nat → Int32} {mFr : Nat → Int32} {mRn : Int32} {mFo : Nat → Int32} {mRt : Nat → Int32} {mRm : Nat → Int32} {mTn : Int32} {mTt : Nat → Int32} {mTi : Nat → Int32} {mPl : Nat → Int32} {mVn : Int32} {mVr : Nat → Int32} {mVf : Nat → Int32} {mVc : Nat → Int32} {mAr : Nat → Int32} {mLr : Int32} {mTc : Nat → Int32} {mTr : Int32} {mFl : Int32} {mFt : Nat → Int32} {mFm : Int32} {mFp : Int32} {mSc : Int32} {mMp : Int32} {mEn : Int32} {mGo : Nat → Int32} {Q : pm_Q} (t : Int32) (p0 : 2 ≤ mTy.toInt ∧ mTy.toInt ≤ 10) (k0 : 0 ≤ t.toInt ∧ t.toInt < mTy.toInt → Q (some (.int 1)) (hq g c1 c2 c3 c4 c5 c6 c7 c8 c9 c10 c11 c12 c13 c14 c15 c16 c17 c18 c19 c20 c21 c22 c23 c24 (hc25 mTy mTm mMn mFn mRn mTn mVn mLr mTr mFl mFm mFp mSc mMp mEn) (hc26 mPa) (hc27 mTo) (hc28 mOt) (hc29 mNa) (hc30 mRe) (hc31 mMa) (hc32 mMy) (hc33 mPm) (hc34 mFy) (hc35 mFa) (hc36 mFr) (hc37 mFo) (hc38 mRt) (hc39 mRm) (hc40 mTt) (hc41 mTi) (hc42 mPl) (hc43 mVr) (hc44 mVf) (hc45 mVc) (hc46 mAr) (hc47 mTc) (hc48 mFt) (hc49 mGo) dyn)) (k1 : (t.toInt < 0 ∨ mTy.toInt ≤ t.toInt) → Q (some (.int 0)) (hq g c1 c2 c3 c4 c5 c6 c7 c8 c9 c10 c11 c12 c13 c14 c15 c16 c17 c18 c19 c20 c21 c22 c23 c24 (hc25 mTy mTm mMn mFn mRn mTn mVn mLr mTr mFl mFm mFp mSc mMp mEn) (hc26 mPa) (hc27 mTo) (hc28 mOt) (hc29 mNa) (hc30 mRe) (hc31 mMa) (hc32 mMy) (hc33 mPm) (hc34 mFy) (hc35 mFa) (hc36 mFr) (hc37 mFo) (hc38 mRt) (hc39 mRm) (hc40 mTt) (hc41 mTi) (hc42 mPl) (hc43 mVr) (hc44 mVf) (hc45 mVc) (hc46 mAr) (hc47 mTc) (hc48 mFt) (hc49 mGo) dyn)) : pm_WP 129 (0, [(0, .ref 25), (1, .int t)], [], hq g c1 c2 c3 c4 c5 c6 c7 c8 c9 c10 c11 c12 c13 c14 c15 c16 c17 c18 c19 c20 c21 c22 c23 c24 (hc25 mTy mTm mMn mFn mRn mTn mVn mLr mTr mFl mFm mFp mSc mMp mEn) (hc26 mPa) (hc27 mTo) (hc28 mOt) (hc29 mNa) (hc30 mRe) (hc31 mMa) (hc32 mMy) (hc33 mPm) (hc34 mFy) (hc35 mFa) (hc36 mFr) (hc37 mFo) (hc38 mRt) (hc39 mRm) (hc40 mTt) (hc41 mTi) (hc42 mPl) (hc43 mVr) (hc44 mVf) (hc45 mVc) (hc46 mAr) (hc47 mTc) (hc48 mFt) (hc49 mGo) dyn, 0, 0) Q := by
  refine pm_go (g := (1, [(0, .ref 25), (1, .int t)], [.int t], hq g c1 c2 c3 c4 c5 c6 c7 c8 c9 c10 c11 c12 c13 c14 c15 c16 c17 c18 c19 c20 c21 c22 c23 c24 (hc25 mTy mTm mMn mFn mRn mTn mVn mLr mTr mFl mFm mFp mSc mMp mEn) (hc26 mPa) (hc27 mTo) (hc28 mOt) (hc29 mNa) (hc30 mRe) (hc31 mMa) (hc32 mMy) (hc33 mPm) (hc34 mFy) (hc35 mFa) (hc36 mFr) (hc37 mFo) (hc38 mRt) (hc39 mRm) (hc40 mTt) (hc41 mTi) (hc42 mPl) (hc43 mVr) (hc44 mVf) (hc45 mVc) (hc46 mAr) (hc47 mTc) (hc48 mFt) (hc49 mGo) dyn, 0, 0)) rfl ?_
  refine pm_go (g := (2, _, [.int 0, .int t], _, 0, 0)) rfl ?_
  refine pm_go (g := (3, _, [.ref 25, .int 0, .int t], _, 0, 0)) rfl ?_
  refine pm_go (g := (6, _, [.int mTy, .int 0, .int t], _, 0, 0)) rfl ?_
  refine pm_go (g := (7, _, [.int 1, .int mTy, .int 0, .int t], _, 0, 0)) rfl ?_
  refine pm_go (g := (8, _, [.int (mTy - 1), .int 0, .int t], _, 0, 0)) rfl ?_
  try have h1 : (mTy - 1).toInt = (mTy).toInt - 1 := iSub (x := (mTy).toInt) (y := 1) rfl (by decide) (by omega) (by omega)
  refine pm_callD (z := 128) (as := [.int t, .int 0, .int (mTy - 1)]) (rest := []) rfl ?_
  have h2 : (0 : Int32).toInt = 0 := by decide
  refine w_X12_isIn t 0 (mTy - 1) (fun h3 => ?_) (fun h4 => ?_)
  ·
    show pm_WP 129 (11, [(0, .ref 25), (1, .int t)], [.int 1], _, 0, 0) _
    first | exact pm_ret rfl (k0 (by first | omega | assumption | (simp only [*]; done))) | exact pm_ret rfl (k1 (by first | omega | assumption | (simp only [*]; done)))
  show pm_WP 129 (11, [(0, .ref 25), (1, .int t)], [.int 0], _, 0, 0) _
  first | exact pm_ret rfl (k0 (by first | omega | assumption | (simp only [*]; done))) | exact pm_ret rfl (k1 (by first | omega | assumption | (simp only [*]; done)))
set_option maxRecDepth 100000 in
set_option maxHeartbeats 4000000 in
theorem w_X12_isOwn {g c1 c2 c3 c4 c5 c6 c7 c8 c9 c10 c11 c12 c13 c14 c15 c16 c17 c18 c19 c20 c21 c22 c23 c24 : pm_C} {dyn : pm_H} {mTy : Int32} {mPa : Nat → Int32} {mTo : Nat → Int32} {mTm : Int32} {mMn : Int32} {mOt : Nat → Int32} {mNa : Nat → Int32} {mRe : Nat → Int32} {mMa : Nat → Int32} {mMy : Nat → Int32} {mPm : Nat → Int32} {mFn : Int32} {mFy : Nat → Int32} {mFa : Nat → Int32} {mFr : Nat → Int32} {mRn : Int32} {mFo : Nat → Int32} {mRt : Nat → Int32} {mRm : Nat → Int32} {mTn : Int32} {mTt : Nat → Int32} {mTi : Nat → Int32} {mPl : Nat → Int32} {mVn : Int32} {mVr : Nat → Int32} {mVf : Nat → Int32} {mVc : Nat → Int32} {mAr : Nat → Int32} {mLr : Int32} {mTc : Nat → Int32} {mTr : Int32} {mFl : Int32} {mFt : Nat → Int32} {mFm : Int32} {mFp : Int32} {mSc : Int32} {mMp : Int32} {mEn : Int32} {mGo : Nat → Int32} {Q : pm_Q} (t : Int32) (p0 : 2 ≤ mTy.toInt ∧ mTy.toInt ≤ 10) (k0 : 0 ≤ t.toInt ∧ t.toInt < mTy.toInt ∧ t.toInt ≠ 1 → Q (some (.int 1)) (hq g c1 c2 c3 c4 c5 c6 c7 c8 c9 c10 c11 c12 c13 c14 c15 c16 c17 c18 c19 c20 c21 c22 c23 c24 (hc25 mTy mTm mMn mFn mRn mTn mVn mLr mTr mFl mFm mFp mSc mMp mEn) (hc26 mPa) (hc27 mTo) (hc28 mOt) (hc29 mNa) (hc30 mRe) (hc31 mMa) (hc32 mMy) (hc33 mPm) (hc34 mFy) (hc35 mFa) (hc36 mFr) (hc37 mFo) (hc38 mRt) (hc39 mRm) (hc40 mTt) (hc41 mTi) (hc42 mPl) (hc43 mVr) (hc44 mVf) (hc45 mVc) (hc46 mAr) (hc47 mTc) (hc48 mFt) (hc49 mGo) dyn)) (k1 : (t.toInt < 0 ∨ mTy.toInt ≤ t.toInt ∨ t.toInt = 1) → Q (some (.int 0)) (hq g c1 c2 c3 c4 c5 c6 c7 c8 c9 c10 c11 c12 c13 c14 c15 c16 c17 c18 c19 c20 c21 c22 c23 c24 (hc25 mTy mTm mMn mFn mRn mTn mVn mLr mTr mFl mFm mFp mSc mMp mEn) (hc26 mPa) (hc27 mTo) (hc28 mOt) (hc29 mNa) (hc30 mRe) (hc31 mMa) (hc32 mMy) (hc33 mPm) (hc34 mFy) (hc35 mFa) (hc36 mFr) (hc37 mFo) (hc38 mRt) (hc39 mRm) (hc40 mTt) (hc41 mTi) (hc42 mPl) (hc43 mVr) (hc44 mVf) (hc45 mVc) (hc46 mAr) (hc47 mTc) (hc48 mFt) (hc49 mGo) dyn)) : pm_WP 130 (0, [(0, .ref 25), (1, .int t)], [], hq g c1 c2 c3 c4 c5 c6 c7 c8 c9 c10 c11 c12 c13 c14 c15 c16 c17 c18 c19 c20 c21 c22 c23 c24 (hc25 mTy mTm mMn mFn mRn mTn mVn mLr mTr mFl mFm mFp mSc mMp mEn) (hc26 mPa) (hc27 mTo) (hc28 mOt) (hc29 mNa) (hc30 mRe) (hc31 mMa) (hc32 mMy) (hc33 mPm) (hc34 mFy) (hc35 mFa) (hc36 mFr) (hc37 mFo) (hc38 mRt) (hc39 mRm) (hc40 mTt) (hc41 mTi) (hc42 mPl) (hc43 mVr) (hc44 mVf) (hc45 mVc) (hc46 mAr) (hc47 mTc) (hc48 mFt) (hc49 mGo) dyn, 0, 0) Q := by
  refine pm_go (g := (1, [(0, .ref 25), (1, .int t)], [.ref 25], hq g c1 c2 c3 c4 c5 c6 c7 c8 c9 c10 c11 c12 c13 c14 c15 c16 c17 c18 c19 c20 c21 c22 c23 c24 (hc25 mTy mTm mMn mFn mRn mTn mVn mLr mTr mFl mFm mFp mSc mMp mEn) (hc26 mPa) (hc27 mTo) (hc28 mOt) (hc29 mNa) (hc30 mRe) (hc31 mMa) (hc32 mMy) (hc33 mPm) (hc34 mFy) (hc35 mFa) (hc36 mFr) (hc37 mFo) (hc38 mRt) (hc39 mRm) (hc40 mTt) (hc41 mTi) (hc42 mPl) (hc43 mVr) (hc44 mVf) (hc45 mVc) (hc46 mAr) (hc47 mTc) (hc48 mFt) (hc49 mGo) dyn, 0, 0)) rfl ?_
  refine pm_go (g := (2, _, [.int t, .ref 25], _, 0, 0)) rfl ?_
  refine pm_callD (z := 129) (as := [.ref 25, .int t]) (rest := []) rfl ?_
  refine w_X12_isClass t (by omega) (fun h1 => ?_) (fun h2 => ?_)
  ·
    show pm_WP 130 (5, [(0, .ref 25), (1, .int t)], [.int 1], _, 0, 0) _
    refine pm_brF (h := (8, [(0, .ref 25), (1, .int t)], [], hq g c1 c2 c3 c4 c5 c6 c7 c8 c9 c10 c11 c12 c13 c14 c15 c16 c17 c18 c19 c20 c21 c22 c23 c24 (hc25 mTy mTm mMn mFn mRn mTn mVn mLr mTr mFl mFm mFp mSc mMp mEn) (hc26 mPa) (hc27 mTo) (hc28 mOt) (hc29 mNa) (hc30 mRe) (hc31 mMa) (hc32 mMy) (hc33 mPm) (hc34 mFy) (hc35 mFa) (hc36 mFr) (hc37 mFo) (hc38 mRt) (hc39 mRm) (hc40 mTt) (hc41 mTi) (hc42 mPl) (hc43 mVr) (hc44 mVf) (hc45 mVc) (hc46 mAr) (hc47 mTc) (hc48 mFt) (hc49 mGo) dyn, 0, 0)) rfl ?_
    refine pm_go (g := (9, _, [.int t], _, 0, 0)) rfl ?_
    refine pm_go (g := (10, _, [.int 1, .int t], _, 0, 0)) rfl ?_
    refine pm_if2 (g := (17, [(0, .ref 25), (1, .int t)], [], hq g c1 c2 c3 c4 c5 c6 c7 c8 c9 c10 c11 c12 c13 c14 c15 c16 c17 c18 c19 c20 c21 c22 c23 c24 (hc25 mTy mTm mMn mFn mRn mTn mVn mLr mTr mFl mFm mFp mSc mMp mEn) (hc26 mPa) (hc27 mTo) (hc28 mOt) (hc29 mNa) (hc30 mRe) (hc31 mMa) (hc32 mMy) (hc33 mPm) (hc34 mFy) (hc35 mFa) (hc36 mFr) (hc37 mFo) (hc38 mRt) (hc39 mRm) (hc40 mTt) (hc41 mTi) (hc42 mPl) (hc43 mVr) (hc44 mVf) (hc45 mVc) (hc46 mAr) (hc47 mTc) (hc48 mFt) (hc49 mGo) dyn, 0, 0)) (h := (13, [(0, .ref 25), (1, .int t)], [], hq g c1 c2 c3 c4 c5 c6 c7 c8 c9 c10 c11 c12 c13 c14 c15 c16 c17 c18 c19 c20 c21 c22 c23 c24 (hc25 mTy mTm mMn mFn mRn mTn mVn mLr mTr mFl mFm mFp mSc mMp mEn) (hc26 mPa) (hc27 mTo) (hc28 mOt) (hc29 mNa) (hc30 mRe) (hc31 mMa) (hc32 mMy) (hc33 mPm) (hc34 mFy) (hc35 mFa) (hc36 mFr) (hc37 mFo) (hc38 mRt) (hc39 mRm) (hc40 mTt) (hc41 mTi) (hc42 mPl) (hc43 mVr) (hc44 mVf) (hc45 mVc) (hc46 mAr) (hc47 mTc) (hc48 mFt) (hc49 mGo) dyn, 0, 0)) rfl (fun h4 => ?_) (fun h4 => ?_)
    ·
      have h4 := qT_eq (cx := (t).toInt) (cy := 1) rfl (by decide) h4
      refine pm_go (g := (18, _, [.int 0], _, 0, 0)) rfl ?_
      first | exact pm_ret rfl (k0 (by first | omega | assumption | (simp only [*]; done))) | exact pm_ret rfl (k1 (by first | omega | assumption | (simp only [*]; done)))
    have h4 := qF_eq (cx := (t).toInt) (cy := 1) rfl (by decide) h4
    refine pm_go (g := (14, _, [.int 1], _, 0, 0)) rfl ?_
    refine pm_go (g := (18, _, [.int 1], _, 0, 0)) rfl ?_
    first | exact pm_ret rfl (k0 (by first | omega | assumption | (simp only [*]; done))) | exact pm_ret rfl (k1 (by first | omega | assumption | (simp only [*]; done)))
  show pm_WP 130 (5, [(0, .ref 25), (1, .int t)], [.int 0], hq g c1 c2 c3 c4 c5 c6 c7 c8 c9 c10 c11 c12 c13 c14 c15 c16 c17 c18 c19 c20 c21 c22 c23 c24 (hc25 mTy mTm mMn mFn mRn mTn mVn mLr mTr mFl mFm mFp mSc mMp mEn) (hc26 mPa) (hc27 mTo) (hc28 mOt) (hc29 mNa) (hc30 mRe) (hc31 mMa) (hc32 mMy) (hc33 mPm) (hc34 mFy) (hc35 mFa) (hc36 mFr) (hc37 mFo) (hc38 mRt) (hc39 mRm) (hc40 mTt) (hc41 mTi) (hc42 mPl) (hc43 mVr) (hc44 mVf) (hc45 mVc) (hc46 mAr) (hc47 mTc) (hc48 mFt) (hc49 mGo) dyn, 0, 0) _
  refine pm_brT (g := (17, [(0, .ref 25), (1, .int t)], [], hq g c1 c2 c3 c4 c5 c6 c7 c8 c9 c10 c11 c12 c13 c14 c15 c16 c17 c18 c19 c20 c21 c22 c23 c24 (hc25 mTy mTm mMn mFn mRn mTn mVn mLr mTr mFl mFm mFp mSc mMp mEn) (hc26 mPa) (hc27 mTo) (hc28 mOt) (hc29 mNa) (hc30 mRe) (hc31 mMa) (hc32 mMy) (hc33 mPm) (hc34 mFy) (hc35 mFa) (hc36 mFr) (hc37 mFo) (hc38 mRt) (hc39 mRm) (hc40 mTt) (hc41 mTi) (hc42 mPl) (hc43 mVr) (hc44 mVf) (hc45 mVc) (hc46 mAr) (hc47 mTc) (hc48 mFt) (hc49 mGo) dyn, 0, 0)) rfl ?_
  refine pm_go (g := (18, _, [.int 0], _, 0, 0)) rfl ?_
  first | exact pm_ret rfl (k0 (by first | omega | assumption | (simp only [*]; done))) | exact pm_ret rfl (k1 (by first | omega | assumption | (simp only [*]; done)))
set_option maxRecDepth 100000 in
set_option maxHeartbeats 4000000 in
theorem w_X12_isPlace {g c1 c2 c3 c4 c5 c6 c7 c8 c9 c10 c11 c12 c13 c14 c15 c16 c17 c18 c19 c20 c21 c22 c23 c24 : pm_C} {dyn : pm_H} {mTy : Int32} {mPa : Nat → Int32} {mTo : Nat → Int32} {mTm : Int32} {mMn : Int32} {mOt : Nat → Int32} {mNa : Nat → Int32} {mRe : Nat → Int32} {mMa : Nat → Int32} {mMy : Nat → Int32} {mPm : Nat → Int32} {mFn : Int32} {mFy : Nat → Int32} {mFa : Nat → Int32} {mFr : Nat → Int32} {mRn : Int32} {mFo : Nat → Int32} {mRt : Nat → Int32} {mRm : Nat → Int32} {mTn : Int32} {mTt : Nat → Int32} {mTi : Nat → Int32} {mPl : Nat → Int32} {mVn : Int32} {mVr : Nat → Int32} {mVf : Nat → Int32} {mVc : Nat → Int32} {mAr : Nat → Int32} {mLr : Int32} {mTc : Nat → Int32} {mTr : Int32} {mFl : Int32} {mFt : Nat → Int32} {mFm : Int32} {mFp : Int32} {mSc : Int32} {mMp : Int32} {mEn : Int32} {mGo : Nat → Int32} {Q : pm_Q} (t : Int32) (p0 : 2 ≤ mTy.toInt ∧ mTy.toInt ≤ 10) (k0 : ((0 ≤ t.toInt ∧ t.toInt < mTy.toInt) ∨ t.toInt = 10 ∨ (20 ≤ t.toInt ∧ t.toInt < 20 + mTy.toInt) ∨ t.toInt = 30) → Q (some (.int 1)) (hq g c1 c2 c3 c4 c5 c6 c7 c8 c9 c10 c11 c12 c13 c14 c15 c16 c17 c18 c19 c20 c21 c22 c23 c24 (hc25 mTy mTm mMn mFn mRn mTn mVn mLr mTr mFl mFm mFp mSc mMp mEn) (hc26 mPa) (hc27 mTo) (hc28 mOt) (hc29 mNa) (hc30 mRe) (hc31 mMa) (hc32 mMy) (hc33 mPm) (hc34 mFy) (hc35 mFa) (hc36 mFr) (hc37 mFo) (hc38 mRt) (hc39 mRm) (hc40 mTt) (hc41 mTi) (hc42 mPl) (hc43 mVr) (hc44 mVf) (hc45 mVc) (hc46 mAr) (hc47 mTc) (hc48 mFt) (hc49 mGo) dyn)) (k1 : ¬ ((0 ≤ t.toInt ∧ t.toInt < mTy.toInt) ∨ t.toInt = 10 ∨ (20 ≤ t.toInt ∧ t.toInt < 20 + mTy.toInt) ∨ t.toInt = 30) → Q (some (.int 0)) (hq g c1 c2 c3 c4 c5 c6 c7 c8 c9 c10 c11 c12 c13 c14 c15 c16 c17 c18 c19 c20 c21 c22 c23 c24 (hc25 mTy mTm mMn mFn mRn mTn mVn mLr mTr mFl mFm mFp mSc mMp mEn) (hc26 mPa) (hc27 mTo) (hc28 mOt) (hc29 mNa) (hc30 mRe) (hc31 mMa) (hc32 mMy) (hc33 mPm) (hc34 mFy) (hc35 mFa) (hc36 mFr) (hc37 mFo) (hc38 mRt) (hc39 mRm) (hc40 mTt) (hc41 mTi) (hc42 mPl) (hc43 mVr) (hc44 mVf) (hc45 mVc) (hc46 mAr) (hc47 mTc) (hc48 mFt) (hc49 mGo) dyn)) : pm_WP 131 (0, [(0, .ref 25), (1, .int t)], [], hq g c1 c2 c3 c4 c5 c6 c7 c8 c9 c10 c11 c12 c13 c14 c15 c16 c17 c18 c19 c20 c21 c22 c23 c24 (hc25 mTy mTm mMn mFn mRn mTn mVn mLr mTr mFl mFm mFp mSc mMp mEn) (hc26 mPa) (hc27 mTo) (hc28 mOt) (hc29 mNa) (hc30 mRe) (hc31 mMa) (hc32 mMy) (hc33 mPm) (hc34 mFy) (hc35 mFa) (hc36 mFr) (hc37 mFo) (hc38 mRt) (hc39 mRm) (hc40 mTt) (hc41 mTi) (hc42 mPl) (hc43 mVr) (hc44 mVf) (hc45 mVc) (hc46 mAr) (hc47 mTc) (hc48 mFt) (hc49 mGo) dyn, 0, 0) Q := by
  refine pm_go (g := (1, [(0, .ref 25), (1, .int t)], [.ref 25], hq g c1 c2 c3 c4 c5 c6 c7 c8 c9 c10 c11 c12 c13 c14 c15 c16 c17 c18 c19 c20 c21 c22 c23 c24 (hc25 mTy mTm mMn mFn mRn mTn mVn mLr mTr mFl mFm mFp mSc mMp mEn) (hc26 mPa) (hc27 mTo) (hc28 mOt) (hc29 mNa) (hc30 mRe) (hc31 mMa) (hc32 mMy) (hc33 mPm) (hc34 mFy) (hc35 mFa) (hc36 mFr) (hc37 mFo) (hc38 mRt) (hc39 mRm) (hc40 mTt) (hc41 mTi) (hc42 mPl) (hc43 mVr) (hc44 mVf) (hc45 mVc) (hc46 mAr) (hc47 mTc) (hc48 mFt) (hc49 mGo) dyn, 0, 0)) rfl ?_
  refine pm_go (g := (2, _, [.int t, .ref 25], _, 0, 0)) rfl ?_
  refine pm_callD (z := 129) (as := [.ref 25, .int t]) (rest := []) rfl ?_
  refine w_X12_isClass t (by omega) (fun h1 => ?_) (fun h2 => ?_)
  ·
    show pm_WP 131 (5, [(0, .ref 25), (1, .int t)], [.int 1], _, 0, 0) _
    refine pm_brT (g := (38, [(0, .ref 25), (1, .int t)], [], hq g c1 c2 c3 c4 c5 c6 c7 c8 c9 c10 c11 c12 c13 c14 c15 c16 c17 c18 c19 c20 c21 c22 c23 c24 (hc25 mTy mTm mMn mFn mRn mTn mVn mLr mTr mFl mFm mFp mSc mMp mEn) (hc26 mPa) (hc27 mTo) (hc28 mOt) (hc29 mNa) (hc30 mRe) (hc31 mMa) (hc32 mMy) (hc33 mPm) (hc34 mFy) (hc35 mFa) (hc36 mFr) (hc37 mFo) (hc38 mRt) (hc39 mRm) (hc40 mTt) (hc41 mTi) (hc42 mPl) (hc43 mVr) (hc44 mVf) (hc45 mVc) (hc46 mAr) (hc47 mTc) (hc48 mFt) (hc49 mGo) dyn, 0, 0)) rfl ?_
    refine pm_go (g := (39, _, [.int 1], _, 0, 0)) rfl ?_
    refine pm_go (g := (43, _, [.int 1], _, 0, 0)) rfl ?_
    first | exact pm_ret rfl (k0 (by first | omega | assumption | (simp only [*]; done))) | exact pm_ret rfl (k1 (by first | omega | assumption | (simp only [*]; done)))
  show pm_WP 131 (5, [(0, .ref 25), (1, .int t)], [.int 0], hq g c1 c2 c3 c4 c5 c6 c7 c8 c9 c10 c11 c12 c13 c14 c15 c16 c17 c18 c19 c20 c21 c22 c23 c24 (hc25 mTy mTm mMn mFn mRn mTn mVn mLr mTr mFl mFm mFp mSc mMp mEn) (hc26 mPa) (hc27 mTo) (hc28 mOt) (hc29 mNa) (hc30 mRe) (hc31 mMa) (hc32 mMy) (hc33 mPm) (hc34 mFy) (hc35 mFa) (hc36 mFr) (hc37 mFo) (hc38 mRt) (hc39 mRm) (hc40 mTt) (hc41 mTi) (hc42 mPl) (hc43 mVr) (hc44 mVf) (hc45 mVc) (hc46 mAr) (hc47 mTc) (hc48 mFt) (hc49 mGo) dyn, 0, 0) _
  refine pm_brF (h := (8, [(0, .ref 25), (1, .int t)], [], hq g c1 c2 c3 c4 c5 c6 c7 c8 c9 c10 c11 c12 c13 c14 c15 c16 c17 c18 c19 c20 c21 c22 c23 c24 (hc25 mTy mTm mMn mFn mRn mTn mVn mLr mTr mFl mFm mFp mSc mMp mEn) (hc26 mPa) (hc27 mTo) (hc28 mOt) (hc29 mNa) (hc30 mRe) (hc31 mMa) (hc32 mMy) (hc33 mPm) (hc34 mFy) (hc35 mFa) (hc36 mFr) (hc37 mFo) (hc38 mRt) (hc39 mRm) (hc40 mTt) (hc41 mTi) (hc42 mPl) (hc43 mVr) (hc44 mVf) (hc45 mVc) (hc46 mAr) (hc47 mTc) (hc48 mFt) (hc49 mGo) dyn, 0, 0)) rfl ?_
  refine pm_go (g := (9, _, [.int t], _, 0, 0)) rfl ?_
  refine pm_go (g := (11, _, [.int 10, .int t], _, 0, 0)) rfl ?_
  refine pm_if2 (g := (38, [(0, .ref 25), (1, .int t)], [], hq g c1 c2 c3 c4 c5 c6 c7 c8 c9 c10 c11 c12 c13 c14 c15 c16 c17 c18 c19 c20 c21 c22 c23 c24 (hc25 mTy mTm mMn mFn mRn mTn mVn mLr mTr mFl mFm mFp mSc mMp mEn) (hc26 mPa) (hc27 mTo) (hc28 mOt) (hc29 mNa) (hc30 mRe) (hc31 mMa) (hc32 mMy) (hc33 mPm) (hc34 mFy) (hc35 mFa) (hc36 mFr) (hc37 mFo) (hc38 mRt) (hc39 mRm) (hc40 mTt) (hc41 mTi) (hc42 mPl) (hc43 mVr) (hc44 mVf) (hc45 mVc) (hc46 mAr) (hc47 mTc) (hc48 mFt) (hc49 mGo) dyn, 0, 0)) (h := (14, [(0, .ref 25), (1, .int t)], [], hq g c1 c2 c3 c4 c5 c6 c7 c8 c9 c10 c11 c12 c13 c14 c15 c16 c17 c18 c19 c20 c21 c22 c23 c24 (hc25 mTy mTm mMn mFn mRn mTn mVn mLr mTr mFl mFm mFp mSc mMp mEn) (hc26 mPa) (hc27 mTo) (hc28 mOt) (hc29 mNa) (hc30 mRe) (hc31 mMa) (hc32 mMy) (hc33 mPm) (hc34 mFy) (hc35 mFa) (hc36 mFr) (hc37 mFo) (hc38 mRt) (hc39 mRm) (hc40 mTt) (hc41 mTi) (hc42 mPl) (hc43 mVr) (hc44 mVf) (hc45 mVc) (hc46 mAr) (hc47 mTc) (hc48 mFt) (hc49 mGo) dyn, 0, 0)) rfl (fun h4 => ?_) (fun h4 => ?_)
  ·
    have h4 := qT_eq (cx := (t).toInt) (cy := 10) rfl (by decide) h4
    refine pm_go (g := (39, _, [.int 1], _, 0, 0)) rfl ?_
    refine pm_go (g := (43, _, [.int 1], _, 0, 0)) rfl ?_
    first | exact pm_ret rfl (k0 (by first | omega | assumption | (simp only [*]; done))) | exact pm_ret rfl (k1 (by first | omega | assumption | (simp only [*]; done)))
  have h4 := qF_eq (cx := (t).toInt) (cy := 10) rfl (by decide) h4
  refine pm_go (g := (15, _, [.int t], _, 0, 0)) rfl ?_
  refine pm_go (g := (17, _, [.int 20, .int t], _, 0, 0)) rfl ?_
  refine pm_go (g := (19, _, [.int 20, .int 20, .int t], _, 0, 0)) rfl ?_
  refine pm_go (g := (20, _, [.ref 25, .int 20, .int 20, .int t], _, 0, 0)) rfl ?_
  refine pm_go (g := (23, _, [.int mTy, .int 20, .int 20, .int t], _, 0, 0)) rfl ?_
  refine pm_go (g := (24, _, [.int (20 + mTy), .int 20, .int t], _, 0, 0)) rfl ?_
  try have h5 : (20 + mTy).toInt = 20 + (mTy).toInt := iAdd (x := 20) (y := (mTy).toInt) (by decide) rfl (by omega) (by omega)
  refine pm_go (g := (25, _, [.int 1, .int (20 + mTy), .int 20, .int t], _, 0, 0)) rfl ?_
  refine pm_go (g := (26, _, [.int ((20 + mTy) - 1), .int 20, .int t], _, 0, 0)) rfl ?_
  try have h6 : ((20 + mTy) - 1).toInt = (20 + mTy).toInt - 1 := iSub (x := (20 + mTy).toInt) (y := 1) rfl (by decide) (by omega) (by omega)
  refine pm_callD (z := 128) (as := [.int t, .int 20, .int ((20 + mTy) - 1)]) (rest := []) rfl ?_
  have h7 : (20 : Int32).toInt = 20 := by decide
  refine w_X12_isIn t 20 ((20 + mTy) - 1) (fun h8 => ?_) (fun h9 => ?_)
  ·
    show pm_WP 131 (29, [(0, .ref 25), (1, .int t)], [.int 1], _, 0, 0) _
    refine pm_brT (g := (38, [(0, .ref 25), (1, .int t)], [], hq g c1 c2 c3 c4 c5 c6 c7 c8 c9 c10 c11 c12 c13 c14 c15 c16 c17 c18 c19 c20 c21 c22 c23 c24 (hc25 mTy mTm mMn mFn mRn mTn mVn mLr mTr mFl mFm mFp mSc mMp mEn) (hc26 mPa) (hc27 mTo) (hc28 mOt) (hc29 mNa) (hc30 mRe) (hc31 mMa) (hc32 mMy) (hc33 mPm) (hc34 mFy) (hc35 mFa) (hc36 mFr) (hc37 mFo) (hc38 mRt) (hc39 mRm) (hc40 mTt) (hc41 mTi) (hc42 mPl) (hc43 mVr) (hc44 mVf) (hc45 mVc) (hc46 mAr) (hc47 mTc) (hc48 mFt) (hc49 mGo) dyn, 0, 0)) rfl ?_
    refine pm_go (g := (39, _, [.int 1], _, 0, 0)) rfl ?_
    refine pm_go (g := (43, _, [.int 1], _, 0, 0)) rfl ?_
    first | exact pm_ret rfl (k0 (by first | omega | assumption | (simp only [*]; done))) | exact pm_ret rfl (k1 (by first | omega | assumption | (simp only [*]; done)))
  show pm_WP 131 (29, [(0, .ref 25), (1, .int t)], [.int 0], hq g c1 c2 c3 c4 c5 c6 c7 c8 c9 c10 c11 c12 c13 c14 c15 c16 c17 c18 c19 c20 c21 c22 c23 c24 (hc25 mTy mTm mMn mFn mRn mTn mVn mLr mTr mFl mFm mFp mSc mMp mEn) (hc26 mPa) (hc27 mTo) (hc28 mOt) (hc29 mNa) (hc30 mRe) (hc31 mMa) (hc32 mMy) (hc33 mPm) (hc34 mFy) (hc35 mFa) (hc36 mFr) (hc37 mFo) (hc38 mRt) (hc39 mRm) (hc40 mTt) (hc41 mTi) (hc42 mPl) (hc43 mVr) (hc44 mVf) (hc45 mVc) (hc46 mAr) (hc47 mTc) (hc48 mFt) (hc49 mGo) dyn, 0, 0) _
  refine pm_brF (h := (32, [(0, .ref 25), (1, .int t)], [], hq g c1 c2 c3 c4 c5 c6 c7 c8 c9 c10 c11 c12 c13 c14 c15 c16 c17 c18 c19 c20 c21 c22 c23 c24 (hc25 mTy mTm mMn mFn mRn mTn mVn mLr mTr mFl mFm mFp mSc mMp mEn) (hc26 mPa) (hc27 mTo) (hc28 mOt) (hc29 mNa) (hc30 mRe) (hc31 mMa) (hc32 mMy) (hc33 mPm) (hc34 mFy) (hc35 mFa) (hc36 mFr) (hc37 mFo) (hc38 mRt) (hc39 mRm) (hc40 mTt) (hc41 mTi) (hc42 mPl) (hc43 mVr) (hc44 mVf) (hc45 mVc) (hc46 mAr) (hc47 mTc) (hc48 mFt) (hc49 mGo) dyn, 0, 0)) rfl ?_
  refine pm_go (g := (33, _, [.int t], _, 0, 0)) rfl ?_
  refine pm_go (g := (35, _, [.int 30, .int t], _, 0, 0)) rfl ?_
  refine pm_if2 (g := (42, [(0, .ref 25), (1, .int t)], [], hq g c1 c2 c3 c4 c5 c6 c7 c8 c9 c10 c11 c12 c13 c14 c15 c16 c17 c18 c19 c20 c21 c22 c23 c24 (hc25 mTy mTm mMn mFn mRn mTn mVn mLr mTr mFl mFm mFp mSc mMp mEn) (hc26 mPa) (hc27 mTo) (hc28 mOt) (hc29 mNa) (hc30 mRe) (hc31 mMa) (hc32 mMy) (hc33 mPm) (hc34 mFy) (hc35 mFa) (hc36 mFr) (hc37 mFo) (hc38 mRt) (hc39 mRm) (hc40 mTt) (hc41 mTi) (hc42 mPl) (hc43 mVr) (hc44 mVf) (hc45 mVc) (hc46 mAr) (hc47 mTc) (hc48 mFt) (hc49 mGo) dyn, 0, 0)) (h := (38, [(0, .ref 25), (1, .int t)], [], hq g c1 c2 c3 c4 c5 c6 c7 c8 c9 c10 c11 c12 c13 c14 c15 c16 c17 c18 c19 c20 c21 c22 c23 c24 (hc25 mTy mTm mMn mFn mRn mTn mVn mLr mTr mFl mFm mFp mSc mMp mEn) (hc26 mPa) (hc27 mTo) (hc28 mOt) (hc29 mNa) (hc30 mRe) (hc31 mMa) (hc32 mMy) (hc33 mPm) (hc34 mFy) (hc35 mFa) (hc36 mFr) (hc37 mFo) (hc38 mRt) (hc39 mRm) (hc40 mTt) (hc41 mTi) (hc42 mPl) (hc43 mVr) (hc44 mVf) (hc45 mVc) (hc46 mAr) (hc47 mTc) (hc48 mFt) (hc49 mGo) dyn, 0, 0)) rfl (fun h11 => ?_) (fun h11 => ?_)
  ·
    have h11 := qT_ne (cx := (t).toInt) (cy := 30) rfl (by decide) h11
    refine pm_go (g := (43, _, [.int 0], _, 0, 0)) rfl ?_
    first | exact pm_ret rfl (k0 (by first | omega | assumption | (simp only [*]; done))) | exact pm_ret rfl (k1 (by first | omega | assumption | (simp only [*]; done)))
  have h11 := qF_ne (cx := (t).toInt) (cy := 30) rfl (by decide) h11
  refine pm_go (g := (39, _, [.int 1], _, 0, 0)) rfl ?_
  refine pm_go (g := (43, _, [.int 1], _, 0, 0)) rfl ?_
  first | exact pm_ret rfl (k0 (by first | omega | assumption | (simp only [*]; done))) | exact pm_ret rfl (k1 (by first | omega | assumption | (simp only [*]; done)))
set_option maxRecDepth 100000 in
set_option maxHeartbeats 4000000 in
theorem w_X12_isMark {g c1 c2 c3 c4 c5 c6 c7 c8 c9 c10 c11 c12 c13 c14 c15 c16 c17 c18 c19 c20 c21 c22 c23 c24 : pm_C} {dyn : pm_H} {mTy : Int32} {mPa : Nat → Int32} {mTo : Nat → Int32} {mTm : Int32} {mMn : Int32} {mOt : Nat → Int32} {mNa : Nat → Int32} {mRe : Nat → Int32} {mMa : Nat → Int32} {mMy : Nat → Int32} {mPm : Nat → Int32} {mFn : Int32} {mFy : Nat → Int32} {mFa : Nat → Int32} {mFr : Nat → Int32} {mRn : Int32} {mFo : Nat → Int32} {mRt : Nat → Int32} {mRm : Nat → Int32} {mTn : Int32} {mTt : Nat → Int32} {mTi : Nat → Int32} {mPl : Nat → Int32} {mVn : Int32} {mVr : Nat → Int32} {mVf : Nat → Int32} {mVc : Nat → Int32} {mAr : Nat → Int32} {mLr : Int32} {mTc : Nat → Int32} {mTr : Int32} {mFl : Int32} {mFt : Nat → Int32} {mFm : Int32} {mFp : Int32} {mSc : Int32} {mMp : Int32} {mEn : Int32} {mGo : Nat → Int32} {Q : pm_Q} (m : Int32) (k : Int32) (p0 : 0 ≤ m.toInt ∧ m.toInt < 40) (k0 : (mMa m.toNatClampNeg &&& k).toInt ≠ 0 → Q (some (.int 1)) (hq g c1 c2 c3 c4 c5 c6 c7 c8 c9 c10 c11 c12 c13 c14 c15 c16 c17 c18 c19 c20 c21 c22 c23 c24 (hc25 mTy mTm mMn mFn mRn mTn mVn mLr mTr mFl mFm mFp mSc mMp mEn) (hc26 mPa) (hc27 mTo) (hc28 mOt) (hc29 mNa) (hc30 mRe) (hc31 mMa) (hc32 mMy) (hc33 mPm) (hc34 mFy) (hc35 mFa) (hc36 mFr) (hc37 mFo) (hc38 mRt) (hc39 mRm) (hc40 mTt) (hc41 mTi) (hc42 mPl) (hc43 mVr) (hc44 mVf) (hc45 mVc) (hc46 mAr) (hc47 mTc) (hc48 mFt) (hc49 mGo) dyn)) (k1 : (mMa m.toNatClampNeg &&& k).toInt = 0 → Q (some (.int 0)) (hq g c1 c2 c3 c4 c5 c6 c7 c8 c9 c10 c11 c12 c13 c14 c15 c16 c17 c18 c19 c20 c21 c22 c23 c24 (hc25 mTy mTm mMn mFn mRn mTn mVn mLr mTr mFl mFm mFp mSc mMp mEn) (hc26 mPa) (hc27 mTo) (hc28 mOt) (hc29 mNa) (hc30 mRe) (hc31 mMa) (hc32 mMy) (hc33 mPm) (hc34 mFy) (hc35 mFa) (hc36 mFr) (hc37 mFo) (hc38 mRt) (hc39 mRm) (hc40 mTt) (hc41 mTi) (hc42 mPl) (hc43 mVr) (hc44 mVf) (hc45 mVc) (hc46 mAr) (hc47 mTc) (hc48 mFt) (hc49 mGo) dyn)) : pm_WP 139 (0, [(0, .ref 25), (1, .int m), (2, .int k)], [], hq g c1 c2 c3 c4 c5 c6 c7 c8 c9 c10 c11 c12 c13 c14 c15 c16 c17 c18 c19 c20 c21 c22 c23 c24 (hc25 mTy mTm mMn mFn mRn mTn mVn mLr mTr mFl mFm mFp mSc mMp mEn) (hc26 mPa) (hc27 mTo) (hc28 mOt) (hc29 mNa) (hc30 mRe) (hc31 mMa) (hc32 mMy) (hc33 mPm) (hc34 mFy) (hc35 mFa) (hc36 mFr) (hc37 mFo) (hc38 mRt) (hc39 mRm) (hc40 mTt) (hc41 mTi) (hc42 mPl) (hc43 mVr) (hc44 mVf) (hc45 mVc) (hc46 mAr) (hc47 mTc) (hc48 mFt) (hc49 mGo) dyn, 0, 0) Q := by
  refine pm_go (g := (1, [(0, .ref 25), (1, .int m), (2, .int k)], [.ref 25], hq g c1 c2 c3 c4 c5 c6 c7 c8 c9 c10 c11 c12 c13 c14 c15 c16 c17 c18 c19 c20 c21 c22 c23 c24 (hc25 mTy mTm mMn mFn mRn mTn mVn mLr mTr mFl mFm mFp mSc mMp mEn) (hc26 mPa) (hc27 mTo) (hc28 mOt) (hc29 mNa) (hc30 mRe) (hc31 mMa) (hc32 mMy) (hc33 mPm) (hc34 mFy) (hc35 mFa) (hc36 mFr) (hc37 mFo) (hc38 mRt) (hc39 mRm) (hc40 mTt) (hc41 mTi) (hc42 mPl) (hc43 mVr) (hc44 mVf) (hc45 mVc) (hc46 mAr) (hc47 mTc) (hc48 mFt) (hc49 mGo) dyn, 0, 0)) rfl ?_
  refine pm_go (g := (4, _, [.ref 31], _, 0, 0)) rfl ?_
  refine pm_go (g := (5, _, [.int m, .ref 31], _, 0, 0)) rfl ?_
  refine pm_sd (g := (6, _, [.int (mMa (m).toNatClampNeg)], _, 0, 0)) rfl (pm_inI (by omega) (by omega)) ?_
  refine pm_go (g := (7, _, [.int k, .int (mMa (m).toNatClampNeg)], _, 0, 0)) rfl ?_
  refine pm_go (g := (8, _, [.int ((mMa (m).toNatClampNeg) &&& k)], _, 0, 0)) rfl ?_
  refine pm_if2 (g := (15, [(0, .ref 25), (1, .int m), (2, .int k)], [], hq g c1 c2 c3 c4 c5 c6 c7 c8 c9 c10 c11 c12 c13 c14 c15 c16 c17 c18 c19 c20 c21 c22 c23 c24 (hc25 mTy mTm mMn mFn mRn mTn mVn mLr mTr mFl mFm mFp mSc mMp mEn) (hc26 mPa) (hc27 mTo) (hc28 mOt) (hc29 mNa) (hc30 mRe) (hc31 mMa) (hc32 mMy) (hc33 mPm) (hc34 mFy) (hc35 mFa) (hc36 mFr) (hc37 mFo) (hc38 mRt) (hc39 mRm) (hc40 mTt) (hc41 mTi) (hc42 mPl) (hc43 mVr) (hc44 mVf) (hc45 mVc) (hc46 mAr) (hc47 mTc) (hc48 mFt) (hc49 mGo) dyn, 0, 0)) (h := (11, [(0, .ref 25), (1, .int m), (2, .int k)], [], hq g c1 c2 c3 c4 c5 c6 c7 c8 c9 c10 c11 c12 c13 c14 c15 c16 c17 c18 c19 c20 c21 c22 c23 c24 (hc25 mTy mTm mMn mFn mRn mTn mVn mLr mTr mFl mFm mFp mSc mMp mEn) (hc26 mPa) (hc27 mTo) (hc28 mOt) (hc29 mNa) (hc30 mRe) (hc31 mMa) (hc32 mMy) (hc33 mPm) (hc34 mFy) (hc35 mFa) (hc36 mFr) (hc37 mFo) (hc38 mRt) (hc39 mRm) (hc40 mTt) (hc41 mTi) (hc42 mPl) (hc43 mVr) (hc44 mVf) (hc45 mVc) (hc46 mAr) (hc47 mTc) (hc48 mFt) (hc49 mGo) dyn, 0, 0)) rfl (fun h1 => ?_) (fun h1 => ?_)
  ·
    have h1 := qT_eq (cx := ((mMa (m).toNatClampNeg) &&& k).toInt) (cy := 0) rfl (by decide) h1
    refine pm_go (g := (16, _, [.int 0], _, 0, 0)) rfl ?_
    first | exact pm_ret rfl (k0 (by first | omega | assumption | (simp only [*]; done))) | exact pm_ret rfl (k1 (by first | omega | assumption | (simp only [*]; done)))
  have h1 := qF_eq (cx := ((mMa (m).toNatClampNeg) &&& k).toInt) (cy := 0) rfl (by decide) h1
  refine pm_go (g := (12, _, [.int 1], _, 0, 0)) rfl ?_
  refine pm_go (g := (16, _, [.int 1], _, 0, 0)) rfl ?_
  first | exact pm_ret rfl (k0 (by first | omega | assumption | (simp only [*]; done))) | exact pm_ret rfl (k1 (by first | omega | assumption | (simp only [*]; done)))
set_option maxRecDepth 100000 in
set_option maxHeartbeats 4000000 in
theorem w_X12_isReference {g c1 c2 c3 c4 c5 c6 c7 c8 c9 c10 c11 c12 c13 c14 c15 c16 c17 c18 c19 c20 c21 c22 c23 c24 : pm_C} {dyn : pm_H} {mTy : Int32} {mPa : Nat → Int32} {mTo : Nat → Int32} {mTm : Int32} {mMn : Int32} {mOt : Nat → Int32} {mNa : Nat → Int32} {mRe : Nat → Int32} {mMa : Nat → Int32} {mMy : Nat → Int32} {mPm : Nat → Int32} {mFn : Int32} {mFy : Nat → Int32} {mFa : Nat → Int32} {mFr : Nat → Int32} {mRn : Int32} {mFo : Nat → Int32} {mRt : Nat → Int32} {mRm : Nat → Int32} {mTn : Int32} {mTt : Nat → Int32} {mTi : Nat → Int32} {mPl : Nat → Int32} {mVn : Int32} {mVr : Nat → Int32} {mVf : Nat → Int32} {mVc : Nat → Int32} {mAr : Nat → Int32} {mLr : Int32} {mTc : Nat → Int32} {mTr : Int32} {mFl : Int32} {mFt : Nat → Int32} {mFm : Int32} {mFp : Int32} {mSc : Int32} {mMp : Int32} {mEn : Int32} {mGo : Nat → Int32} {Q : pm_Q} (r : Int32) (p0 : 0 ≤ mRn.toInt ∧ mRn.toInt ≤ 30) (k0 : 0 ≤ r.toInt ∧ r.toInt < mRn.toInt → Q (some (.int 1)) (hq g c1 c2 c3 c4 c5 c6 c7 c8 c9 c10 c11 c12 c13 c14 c15 c16 c17 c18 c19 c20 c21 c22 c23 c24 (hc25 mTy mTm mMn mFn mRn mTn mVn mLr mTr mFl mFm mFp mSc mMp mEn) (hc26 mPa) (hc27 mTo) (hc28 mOt) (hc29 mNa) (hc30 mRe) (hc31 mMa) (hc32 mMy) (hc33 mPm) (hc34 mFy) (hc35 mFa) (hc36 mFr) (hc37 mFo) (hc38 mRt) (hc39 mRm) (hc40 mTt) (hc41 mTi) (hc42 mPl) (hc43 mVr) (hc44 mVf) (hc45 mVc) (hc46 mAr) (hc47 mTc) (hc48 mFt) (hc49 mGo) dyn)) (k1 : (r.toInt < 0 ∨ mRn.toInt ≤ r.toInt) → Q (some (.int 0)) (hq g c1 c2 c3 c4 c5 c6 c7 c8 c9 c10 c11 c12 c13 c14 c15 c16 c17 c18 c19 c20 c21 c22 c23 c24 (hc25 mTy mTm mMn mFn mRn mTn mVn mLr mTr mFl mFm mFp mSc mMp mEn) (hc26 mPa) (hc27 mTo) (hc28 mOt) (hc29 mNa) (hc30 mRe) (hc31 mMa) (hc32 mMy) (hc33 mPm) (hc34 mFy) (hc35 mFa) (hc36 mFr) (hc37 mFo) (hc38 mRt) (hc39 mRm) (hc40 mTt) (hc41 mTi) (hc42 mPl) (hc43 mVr) (hc44 mVf) (hc45 mVc) (hc46 mAr) (hc47 mTc) (hc48 mFt) (hc49 mGo) dyn)) : pm_WP 160 (0, [(0, .ref 25), (1, .int r)], [], hq g c1 c2 c3 c4 c5 c6 c7 c8 c9 c10 c11 c12 c13 c14 c15 c16 c17 c18 c19 c20 c21 c22 c23 c24 (hc25 mTy mTm mMn mFn mRn mTn mVn mLr mTr mFl mFm mFp mSc mMp mEn) (hc26 mPa) (hc27 mTo) (hc28 mOt) (hc29 mNa) (hc30 mRe) (hc31 mMa) (hc32 mMy) (hc33 mPm) (hc34 mFy) (hc35 mFa) (hc36 mFr) (hc37 mFo) (hc38 mRt) (hc39 mRm) (hc40 mTt) (hc41 mTi) (hc42 mPl) (hc43 mVr) (hc44 mVf) (hc45 mVc) (hc46 mAr) (hc47 mTc) (hc48 mFt) (hc49 mGo) dyn, 0, 0) Q := by
  refine pm_go (g := (1, [(0, .ref 25), (1, .int r)], [.int r], hq g c1 c2 c3 c4 c5 c6 c7 c8 c9 c10 c11 c12 c13 c14 c15 c16 c17 c18 c19 c20 c21 c22 c23 c24 (hc25 mTy mTm mMn mFn mRn mTn mVn mLr mTr mFl mFm mFp mSc mMp mEn) (hc26 mPa) (hc27 mTo) (hc28 mOt) (hc29 mNa) (hc30 mRe) (hc31 mMa) (hc32 mMy) (hc33 mPm) (hc34 mFy) (hc35 mFa) (hc36 mFr) (hc37 mFo) (hc38 mRt) (hc39 mRm) (hc40 mTt) (hc41 mTi) (hc42 mPl) (hc43 mVr) (hc44 mVf) (hc45 mVc) (hc46 mAr) (hc47 mTc) (hc48 mFt) (hc49 mGo) dyn, 0, 0)) rfl ?_
  refine pm_go (g := (2, _, [.int 0, .int r], _, 0, 0)) rfl ?_
  refine pm_go (g := (3, _, [.ref 25, .int 0, .int r], _, 0, 0)) rfl ?_
  refine pm_go (g := (6, _, [.int mRn, .int 0, .int r], _, 0, 0)) rfl ?_
  refine pm_go (g := (7, _, [.int 1, .int mRn, .int 0, .int r], _, 0, 0)) rfl ?_
  refine pm_go (g := (8, _, [.int (mRn - 1), .int 0, .int r], _, 0, 0)) rfl ?_
  try have h1 : (mRn - 1).toInt = (mRn).toInt - 1 := iSub (x := (mRn).toInt) (y := 1) rfl (by decide) (by omega) (by omega)
  refine pm_callD (z := 128) (as := [.int r, .int 0, .int (mRn - 1)]) (rest := []) rfl ?_
  have h2 : (0 : Int32).toInt = 0 := by decide
  refine w_X12_isIn r 0 (mRn - 1) (fun h3 => ?_) (fun h4 => ?_)
  ·
    show pm_WP 160 (11, [(0, .ref 25), (1, .int r)], [.int 1], _, 0, 0) _
    first | exact pm_ret rfl (k0 (by first | omega | assumption | (simp only [*]; done))) | exact pm_ret rfl (k1 (by first | omega | assumption | (simp only [*]; done)))
  show pm_WP 160 (11, [(0, .ref 25), (1, .int r)], [.int 0], _, 0, 0) _
  first | exact pm_ret rfl (k0 (by first | omega | assumption | (simp only [*]; done))) | exact pm_ret rfl (k1 (by first | omega | assumption | (simp only [*]; done)))
set_option maxRecDepth 100000 in
set_option maxHeartbeats 4000000 in
theorem w_X12_isFace {g c1 c2 c3 c4 c5 c6 c7 c8 c9 c10 c11 c12 c13 c14 c15 c16 c17 c18 c19 c20 c21 c22 c23 c24 : pm_C} {dyn : pm_H} {mTy : Int32} {mPa : Nat → Int32} {mTo : Nat → Int32} {mTm : Int32} {mMn : Int32} {mOt : Nat → Int32} {mNa : Nat → Int32} {mRe : Nat → Int32} {mMa : Nat → Int32} {mMy : Nat → Int32} {mPm : Nat → Int32} {mFn : Int32} {mFy : Nat → Int32} {mFa : Nat → Int32} {mFr : Nat → Int32} {mRn : Int32} {mFo : Nat → Int32} {mRt : Nat → Int32} {mRm : Nat → Int32} {mTn : Int32} {mTt : Nat → Int32} {mTi : Nat → Int32} {mPl : Nat → Int32} {mVn : Int32} {mVr : Nat → Int32} {mVf : Nat → Int32} {mVc : Nat → Int32} {mAr : Nat → Int32} {mLr : Int32} {mTc : Nat → Int32} {mTr : Int32} {mFl : Int32} {mFt : Nat → Int32} {mFm : Int32} {mFp : Int32} {mSc : Int32} {mMp : Int32} {mEn : Int32} {mGo : Nat → Int32} {Q : pm_Q} (f : Int32) (p0 : 0 ≤ mFn.toInt ∧ mFn.toInt ≤ 10) (k0 : 0 ≤ f.toInt ∧ f.toInt < mFn.toInt → Q (some (.int 1)) (hq g c1 c2 c3 c4 c5 c6 c7 c8 c9 c10 c11 c12 c13 c14 c15 c16 c17 c18 c19 c20 c21 c22 c23 c24 (hc25 mTy mTm mMn mFn mRn mTn mVn mLr mTr mFl mFm mFp mSc mMp mEn) (hc26 mPa) (hc27 mTo) (hc28 mOt) (hc29 mNa) (hc30 mRe) (hc31 mMa) (hc32 mMy) (hc33 mPm) (hc34 mFy) (hc35 mFa) (hc36 mFr) (hc37 mFo) (hc38 mRt) (hc39 mRm) (hc40 mTt) (hc41 mTi) (hc42 mPl) (hc43 mVr) (hc44 mVf) (hc45 mVc) (hc46 mAr) (hc47 mTc) (hc48 mFt) (hc49 mGo) dyn)) (k1 : (f.toInt < 0 ∨ mFn.toInt ≤ f.toInt) → Q (some (.int 0)) (hq g c1 c2 c3 c4 c5 c6 c7 c8 c9 c10 c11 c12 c13 c14 c15 c16 c17 c18 c19 c20 c21 c22 c23 c24 (hc25 mTy mTm mMn mFn mRn mTn mVn mLr mTr mFl mFm mFp mSc mMp mEn) (hc26 mPa) (hc27 mTo) (hc28 mOt) (hc29 mNa) (hc30 mRe) (hc31 mMa) (hc32 mMy) (hc33 mPm) (hc34 mFy) (hc35 mFa) (hc36 mFr) (hc37 mFo) (hc38 mRt) (hc39 mRm) (hc40 mTt) (hc41 mTi) (hc42 mPl) (hc43 mVr) (hc44 mVf) (hc45 mVc) (hc46 mAr) (hc47 mTc) (hc48 mFt) (hc49 mGo) dyn)) : pm_WP 161 (0, [(0, .ref 25), (1, .int f)], [], hq g c1 c2 c3 c4 c5 c6 c7 c8 c9 c10 c11 c12 c13 c14 c15 c16 c17 c18 c19 c20 c21 c22 c23 c24 (hc25 mTy mTm mMn mFn mRn mTn mVn mLr mTr mFl mFm mFp mSc mMp mEn) (hc26 mPa) (hc27 mTo) (hc28 mOt) (hc29 mNa) (hc30 mRe) (hc31 mMa) (hc32 mMy) (hc33 mPm) (hc34 mFy) (hc35 mFa) (hc36 mFr) (hc37 mFo) (hc38 mRt) (hc39 mRm) (hc40 mTt) (hc41 mTi) (hc42 mPl) (hc43 mVr) (hc44 mVf) (hc45 mVc) (hc46 mAr) (hc47 mTc) (hc48 mFt) (hc49 mGo) dyn, 0, 0) Q := by
  refine pm_go (g := (1, [(0, .ref 25), (1, .int f)], [.int f], hq g c1 c2 c3 c4 c5 c6 c7 c8 c9 c10 c11 c12 c13 c14 c15 c16 c17 c18 c19 c20 c21 c22 c23 c24 (hc25 mTy mTm mMn mFn mRn mTn mVn mLr mTr mFl mFm mFp mSc mMp mEn) (hc26 mPa) (hc27 mTo) (hc28 mOt) (hc29 mNa) (hc30 mRe) (hc31 mMa) (hc32 mMy) (hc33 mPm) (hc34 mFy) (hc35 mFa) (hc36 mFr) (hc37 mFo) (hc38 mRt) (hc39 mRm) (hc40 mTt) (hc41 mTi) (hc42 mPl) (hc43 mVr) (hc44 mVf) (hc45 mVc) (hc46 mAr) (hc47 mTc) (hc48 mFt) (hc49 mGo) dyn, 0, 0)) rfl ?_
  refine pm_go (g := (2, _, [.int 0, .int f], _, 0, 0)) rfl ?_
  refine pm_go (g := (3, _, [.ref 25, .int 0, .int f], _, 0, 0)) rfl ?_
  refine pm_go (g := (6, _, [.int mFn, .int 0, .int f], _, 0, 0)) rfl ?_
  refine pm_go (g := (7, _, [.int 1, .int mFn, .int 0, .int f], _, 0, 0)) rfl ?_
  refine pm_go (g := (8, _, [.int (mFn - 1), .int 0, .int f], _, 0, 0)) rfl ?_
  try have h1 : (mFn - 1).toInt = (mFn).toInt - 1 := iSub (x := (mFn).toInt) (y := 1) rfl (by decide) (by omega) (by omega)
  refine pm_callD (z := 128) (as := [.int f, .int 0, .int (mFn - 1)]) (rest := []) rfl ?_
  have h2 : (0 : Int32).toInt = 0 := by decide
  refine w_X12_isIn f 0 (mFn - 1) (fun h3 => ?_) (fun h4 => ?_)
  ·
    show pm_WP 161 (11, [(0, .ref 25), (1, .int f)], [.int 1], _, 0, 0) _
    first | exact pm_ret rfl (k0 (by first | omega | assumption | (simp only [*]; done))) | exact pm_ret rfl (k1 (by first | omega | assumption | (simp only [*]; done)))
  show pm_WP 161 (11, [(0, .ref 25), (1, .int f)], [.int 0], _, 0, 0) _
  first | exact pm_ret rfl (k0 (by first | omega | assumption | (simp only [*]; done))) | exact pm_ret rfl (k1 (by first | omega | assumption | (simp only [*]; done)))
set_option maxRecDepth 100000 in
set_option maxHeartbeats 4000000 in
theorem w_X12_isThing {g c1 c2 c3 c4 c5 c6 c7 c8 c9 c10 c11 c12 c13 c14 c15 c16 c17 c18 c19 c20 c21 c22 c23 c24 : pm_C} {dyn : pm_H} {mTy : Int32} {mPa : Nat → Int32} {mTo : Nat → Int32} {mTm : Int32} {mMn : Int32} {mOt : Nat → Int32} {mNa : Nat → Int32} {mRe : Nat → Int32} {mMa : Nat → Int32} {mMy : Nat → Int32} {mPm : Nat → Int32} {mFn : Int32} {mFy : Nat → Int32} {mFa : Nat → Int32} {mFr : Nat → Int32} {mRn : Int32} {mFo : Nat → Int32} {mRt : Nat → Int32} {mRm : Nat → Int32} {mTn : Int32} {mTt : Nat → Int32} {mTi : Nat → Int32} {mPl : Nat → Int32} {mVn : Int32} {mVr : Nat → Int32} {mVf : Nat → Int32} {mVc : Nat → Int32} {mAr : Nat → Int32} {mLr : Int32} {mTc : Nat → Int32} {mTr : Int32} {mFl : Int32} {mFt : Nat → Int32} {mFm : Int32} {mFp : Int32} {mSc : Int32} {mMp : Int32} {mEn : Int32} {mGo : Nat → Int32} {Q : pm_Q} (v : Int32) (k0 : 1 ≤ v.toInt ∧ v.toInt ≤ mTn.toInt → Q (some (.int 1)) (hq g c1 c2 c3 c4 c5 c6 c7 c8 c9 c10 c11 c12 c13 c14 c15 c16 c17 c18 c19 c20 c21 c22 c23 c24 (hc25 mTy mTm mMn mFn mRn mTn mVn mLr mTr mFl mFm mFp mSc mMp mEn) (hc26 mPa) (hc27 mTo) (hc28 mOt) (hc29 mNa) (hc30 mRe) (hc31 mMa) (hc32 mMy) (hc33 mPm) (hc34 mFy) (hc35 mFa) (hc36 mFr) (hc37 mFo) (hc38 mRt) (hc39 mRm) (hc40 mTt) (hc41 mTi) (hc42 mPl) (hc43 mVr) (hc44 mVf) (hc45 mVc) (hc46 mAr) (hc47 mTc) (hc48 mFt) (hc49 mGo) dyn)) (k1 : (v.toInt < 1 ∨ mTn.toInt < v.toInt) → Q (some (.int 0)) (hq g c1 c2 c3 c4 c5 c6 c7 c8 c9 c10 c11 c12 c13 c14 c15 c16 c17 c18 c19 c20 c21 c22 c23 c24 (hc25 mTy mTm mMn mFn mRn mTn mVn mLr mTr mFl mFm mFp mSc mMp mEn) (hc26 mPa) (hc27 mTo) (hc28 mOt) (hc29 mNa) (hc30 mRe) (hc31 mMa) (hc32 mMy) (hc33 mPm) (hc34 mFy) (hc35 mFa) (hc36 mFr) (hc37 mFo) (hc38 mRt) (hc39 mRm) (hc40 mTt) (hc41 mTi) (hc42 mPl) (hc43 mVr) (hc44 mVf) (hc45 mVc) (hc46 mAr) (hc47 mTc) (hc48 mFt) (hc49 mGo) dyn)) : pm_WP 170 (0, [(0, .ref 25), (1, .int v)], [], hq g c1 c2 c3 c4 c5 c6 c7 c8 c9 c10 c11 c12 c13 c14 c15 c16 c17 c18 c19 c20 c21 c22 c23 c24 (hc25 mTy mTm mMn mFn mRn mTn mVn mLr mTr mFl mFm mFp mSc mMp mEn) (hc26 mPa) (hc27 mTo) (hc28 mOt) (hc29 mNa) (hc30 mRe) (hc31 mMa) (hc32 mMy) (hc33 mPm) (hc34 mFy) (hc35 mFa) (hc36 mFr) (hc37 mFo) (hc38 mRt) (hc39 mRm) (hc40 mTt) (hc41 mTi) (hc42 mPl) (hc43 mVr) (hc44 mVf) (hc45 mVc) (hc46 mAr) (hc47 mTc) (hc48 mFt) (hc49 mGo) dyn, 0, 0) Q := by
  refine pm_go (g := (1, [(0, .ref 25), (1, .int v)], [.int v], hq g c1 c2 c3 c4 c5 c6 c7 c8 c9 c10 c11 c12 c13 c14 c15 c16 c17 c18 c19 c20 c21 c22 c23 c24 (hc25 mTy mTm mMn mFn mRn mTn mVn mLr mTr mFl mFm mFp mSc mMp mEn) (hc26 mPa) (hc27 mTo) (hc28 mOt) (hc29 mNa) (hc30 mRe) (hc31 mMa) (hc32 mMy) (hc33 mPm) (hc34 mFy) (hc35 mFa) (hc36 mFr) (hc37 mFo) (hc38 mRt) (hc39 mRm) (hc40 mTt) (hc41 mTi) (hc42 mPl) (hc43 mVr) (hc44 mVf) (hc45 mVc) (hc46 mAr) (hc47 mTc) (hc48 mFt) (hc49 mGo) dyn, 0, 0)) rfl ?_
  refine pm_go (g := (2, _, [.int 1, .int v], _, 0, 0)) rfl ?_
  refine pm_go (g := (3, _, [.ref 25, .int 1, .int v], _, 0, 0)) rfl ?_
  refine pm_go (g := (6, _, [.int mTn, .int 1, .int v], _, 0, 0)) rfl ?_
  refine pm_callD (z := 128) (as := [.int v, .int 1, .int mTn]) (rest := []) rfl ?_
  have h1 : (1 : Int32).toInt = 1 := by decide
  refine w_X12_isIn v 1 mTn (fun h2 => ?_) (fun h3 => ?_)
  ·
    show pm_WP 170 (9, [(0, .ref 25), (1, .int v)], [.int 1], _, 0, 0) _
    first | exact pm_ret rfl (k0 (by first | omega | assumption | (simp only [*]; done))) | exact pm_ret rfl (k1 (by first | omega | assumption | (simp only [*]; done)))
  show pm_WP 170 (9, [(0, .ref 25), (1, .int v)], [.int 0], _, 0, 0) _
  first | exact pm_ret rfl (k0 (by first | omega | assumption | (simp only [*]; done))) | exact pm_ret rfl (k1 (by first | omega | assumption | (simp only [*]; done)))
set_option maxRecDepth 100000 in
set_option maxHeartbeats 4000000 in
theorem w_X12_untell {g c1 c2 c3 c4 c5 c6 c7 c8 c9 c10 c11 c12 c13 c14 c15 c16 c17 c18 c19 c20 c21 c22 c23 c24 : pm_C} {dyn : pm_H} {mTy : Int32} {mPa : Nat → Int32} {mTo : Nat → Int32} {mTm : Int32} {mMn : Int32} {mOt : Nat → Int32} {mNa : Nat → Int32} {mRe : Nat → Int32} {mMa : Nat → Int32} {mMy : Nat → Int32} {mPm : Nat → Int32} {mFn : Int32} {mFy : Nat → Int32} {mFa : Nat → Int32} {mFr : Nat → Int32} {mRn : Int32} {mFo : Nat → Int32} {mRt : Nat → Int32} {mRm : Nat → Int32} {mTn : Int32} {mTt : Nat → Int32} {mTi : Nat → Int32} {mPl : Nat → Int32} {mVn : Int32} {mVr : Nat → Int32} {mVf : Nat → Int32} {mVc : Nat → Int32} {mAr : Nat → Int32} {mLr : Int32} {mTc : Nat → Int32} {mTr : Int32} {mFl : Int32} {mFt : Nat → Int32} {mFm : Int32} {mFp : Int32} {mSc : Int32} {mMp : Int32} {mEn : Int32} {mGo : Nat → Int32} {Q : pm_Q} (k0 : Q (some (.int mTm)) (hq g c1 c2 c3 c4 c5 c6 c7 c8 c9 c10 c11 c12 c13 c14 c15 c16 c17 c18 c19 c20 c21 c22 c23 c24 (hc25 mTy 0 mMn mFn mRn mTn mVn mLr mTr mFl mFm mFp mSc mMp mEn) (hc26 mPa) (hc27 mTo) (hc28 mOt) (hc29 mNa) (hc30 mRe) (hc31 mMa) (hc32 mMy) (hc33 mPm) (hc34 mFy) (hc35 mFa) (hc36 mFr) (hc37 mFo) (hc38 mRt) (hc39 mRm) (hc40 mTt) (hc41 mTi) (hc42 mPl) (hc43 mVr) (hc44 mVf) (hc45 mVc) (hc46 mAr) (hc47 mTc) (hc48 mFt) (hc49 mGo) dyn)) : pm_WP 138 (0, [(0, .ref 25)], [], hq g c1 c2 c3 c4 c5 c6 c7 c8 c9 c10 c11 c12 c13 c14 c15 c16 c17 c18 c19 c20 c21 c22 c23 c24 (hc25 mTy mTm mMn mFn mRn mTn mVn mLr mTr mFl mFm mFp mSc mMp mEn) (hc26 mPa) (hc27 mTo) (hc28 mOt) (hc29 mNa) (hc30 mRe) (hc31 mMa) (hc32 mMy) (hc33 mPm) (hc34 mFy) (hc35 mFa) (hc36 mFr) (hc37 mFo) (hc38 mRt) (hc39 mRm) (hc40 mTt) (hc41 mTi) (hc42 mPl) (hc43 mVr) (hc44 mVf) (hc45 mVc) (hc46 mAr) (hc47 mTc) (hc48 mFt) (hc49 mGo) dyn, 0, 0) Q := by
  refine pm_go (g := (1, [(0, .ref 25)], [.ref 25], hq g c1 c2 c3 c4 c5 c6 c7 c8 c9 c10 c11 c12 c13 c14 c15 c16 c17 c18 c19 c20 c21 c22 c23 c24 (hc25 mTy mTm mMn mFn mRn mTn mVn mLr mTr mFl mFm mFp mSc mMp mEn) (hc26 mPa) (hc27 mTo) (hc28 mOt) (hc29 mNa) (hc30 mRe) (hc31 mMa) (hc32 mMy) (hc33 mPm) (hc34 mFy) (hc35 mFa) (hc36 mFr) (hc37 mFo) (hc38 mRt) (hc39 mRm) (hc40 mTt) (hc41 mTi) (hc42 mPl) (hc43 mVr) (hc44 mVf) (hc45 mVc) (hc46 mAr) (hc47 mTc) (hc48 mFt) (hc49 mGo) dyn, 0, 0)) rfl ?_
  refine pm_go (g := (4, _, [.int mTm], _, 0, 0)) rfl ?_
  refine pm_go (g := (5, [(1, .int mTm), (0, .ref 25)], [], _, 0, 0)) rfl ?_
  refine pm_go (g := (6, _, [.ref 25], _, 0, 0)) rfl ?_
  refine pm_go (g := (7, _, [.int 0, .ref 25], _, 0, 0)) rfl ?_
  refine pm_go (g := (10, _, [], hq g c1 c2 c3 c4 c5 c6 c7 c8 c9 c10 c11 c12 c13 c14 c15 c16 c17 c18 c19 c20 c21 c22 c23 c24 (hc25 mTy 0 mMn mFn mRn mTn mVn mLr mTr mFl mFm mFp mSc mMp mEn) (hc26 mPa) (hc27 mTo) (hc28 mOt) (hc29 mNa) (hc30 mRe) (hc31 mMa) (hc32 mMy) (hc33 mPm) (hc34 mFy) (hc35 mFa) (hc36 mFr) (hc37 mFo) (hc38 mRt) (hc39 mRm) (hc40 mTt) (hc41 mTi) (hc42 mPl) (hc43 mVr) (hc44 mVf) (hc45 mVc) (hc46 mAr) (hc47 mTc) (hc48 mFt) (hc49 mGo) dyn, 0, 0)) rfl ?_
  refine pm_go (g := (11, _, [.int mTm], _, 0, 0)) rfl ?_
  first | exact pm_ret rfl (k0)
set_option maxRecDepth 100000 in
set_option maxHeartbeats 4000000 in
theorem w_X12_tell {g c1 c2 c3 c4 c5 c6 c7 c8 c9 c10 c11 c12 c13 c14 c15 c16 c17 c18 c19 c20 c21 c22 c23 c24 : pm_C} {dyn : pm_H} {mTy : Int32} {mPa : Nat → Int32} {mTo : Nat → Int32} {mTm : Int32} {mMn : Int32} {mOt : Nat → Int32} {mNa : Nat → Int32} {mRe : Nat → Int32} {mMa : Nat → Int32} {mMy : Nat → Int32} {mPm : Nat → Int32} {mFn : Int32} {mFy : Nat → Int32} {mFa : Nat → Int32} {mFr : Nat → Int32} {mRn : Int32} {mFo : Nat → Int32} {mRt : Nat → Int32} {mRm : Nat → Int32} {mTn : Int32} {mTt : Nat → Int32} {mTi : Nat → Int32} {mPl : Nat → Int32} {mVn : Int32} {mVr : Nat → Int32} {mVf : Nat → Int32} {mVc : Nat → Int32} {mAr : Nat → Int32} {mLr : Int32} {mTc : Nat → Int32} {mTr : Int32} {mFl : Int32} {mFt : Nat → Int32} {mFm : Int32} {mFp : Int32} {mSc : Int32} {mMp : Int32} {mEn : Int32} {mGo : Nat → Int32} {Q : pm_Q} (t : Int32) (p0 : 2 ≤ mTy.toInt ∧ mTy.toInt ≤ 10) (p1 : 0 ≤ mTm.toInt ∧ mTm.toInt ≤ 3) (k0 : ¬ ((0 ≤ t.toInt ∧ t.toInt < mTy.toInt) ∨ t.toInt = 10 ∨ (20 ≤ t.toInt ∧ t.toInt < 20 + mTy.toInt) ∨ t.toInt = 30) → Q (some (.int (-1))) (hq g c1 c2 c3 c4 c5 c6 c7 c8 c9 c10 c11 c12 c13 c14 c15 c16 c17 c18 c19 c20 c21 c22 c23 c24 (hc25 mTy mTm mMn mFn mRn mTn mVn mLr mTr mFl mFm mFp mSc mMp mEn) (hc26 mPa) (hc27 mTo) (hc28 mOt) (hc29 mNa) (hc30 mRe) (hc31 mMa) (hc32 mMy) (hc33 mPm) (hc34 mFy) (hc35 mFa) (hc36 mFr) (hc37 mFo) (hc38 mRt) (hc39 mRm) (hc40 mTt) (hc41 mTi) (hc42 mPl) (hc43 mVr) (hc44 mVf) (hc45 mVc) (hc46 mAr) (hc47 mTc) (hc48 mFt) (hc49 mGo) dyn)) (k1 : ((0 ≤ t.toInt ∧ t.toInt < mTy.toInt) ∨ t.toInt = 10 ∨ (20 ≤ t.toInt ∧ t.toInt < 20 + mTy.toInt) ∨ t.toInt = 30) ∧ mTm.toInt = 3 → Q (some (.int (-2))) (hq g c1 c2 c3 c4 c5 c6 c7 c8 c9 c10 c11 c12 c13 c14 c15 c16 c17 c18 c19 c20 c21 c22 c23 c24 (hc25 mTy mTm mMn mFn mRn mTn mVn mLr mTr mFl mFm mFp mSc mMp mEn) (hc26 mPa) (hc27 mTo) (hc28 mOt) (hc29 mNa) (hc30 mRe) (hc31 mMa) (hc32 mMy) (hc33 mPm) (hc34 mFy) (hc35 mFa) (hc36 mFr) (hc37 mFo) (hc38 mRt) (hc39 mRm) (hc40 mTt) (hc41 mTi) (hc42 mPl) (hc43 mVr) (hc44 mVf) (hc45 mVc) (hc46 mAr) (hc47 mTc) (hc48 mFt) (hc49 mGo) dyn)) (k2 : ((0 ≤ t.toInt ∧ t.toInt < mTy.toInt) ∨ t.toInt = 10 ∨ (20 ≤ t.toInt ∧ t.toInt < 20 + mTy.toInt) ∨ t.toInt = 30) ∧ mTm.toInt < 3 → Q (some (.int (mTm + 1))) (hq g c1 c2 c3 c4 c5 c6 c7 c8 c9 c10 c11 c12 c13 c14 c15 c16 c17 c18 c19 c20 c21 c22 c23 c24 (hc25 mTy (mTm + 1) mMn mFn mRn mTn mVn mLr mTr mFl mFm mFp mSc mMp mEn) (hc26 mPa) (hc27 (upd mTo mTm.toNatClampNeg t)) (hc28 mOt) (hc29 mNa) (hc30 mRe) (hc31 mMa) (hc32 mMy) (hc33 mPm) (hc34 mFy) (hc35 mFa) (hc36 mFr) (hc37 mFo) (hc38 mRt) (hc39 mRm) (hc40 mTt) (hc41 mTi) (hc42 mPl) (hc43 mVr) (hc44 mVf) (hc45 mVc) (hc46 mAr) (hc47 mTc) (hc48 mFt) (hc49 mGo) dyn)) : pm_WP 137 (0, [(0, .ref 25), (1, .int t)], [], hq g c1 c2 c3 c4 c5 c6 c7 c8 c9 c10 c11 c12 c13 c14 c15 c16 c17 c18 c19 c20 c21 c22 c23 c24 (hc25 mTy mTm mMn mFn mRn mTn mVn mLr mTr mFl mFm mFp mSc mMp mEn) (hc26 mPa) (hc27 mTo) (hc28 mOt) (hc29 mNa) (hc30 mRe) (hc31 mMa) (hc32 mMy) (hc33 mPm) (hc34 mFy) (hc35 mFa) (hc36 mFr) (hc37 mFo) (hc38 mRt) (hc39 mRm) (hc40 mTt) (hc41 mTi) (hc42 mPl) (hc43 mVr) (hc44 mVf) (hc45 mVc) (hc46 mAr) (hc47 mTc) (hc48 mFt) (hc49 mGo) dyn, 0, 0) Q := by
  refine pm_go (g := (1, [(0, .ref 25), (1, .int t)], [.ref 25], hq g c1 c2 c3 c4 c5 c6 c7 c8 c9 c10 c11 c12 c13 c14 c15 c16 c17 c18 c19 c20 c21 c22 c23 c24 (hc25 mTy mTm mMn mFn mRn mTn mVn mLr mTr mFl mFm mFp mSc mMp mEn) (hc26 mPa) (hc27 mTo) (hc28 mOt) (hc29 mNa) (hc30 mRe) (hc31 mMa) (hc32 mMy) (hc33 mPm) (hc34 mFy) (hc35 mFa) (hc36 mFr) (hc37 mFo) (hc38 mRt) (hc39 mRm) (hc40 mTt) (hc41 mTi) (hc42 mPl) (hc43 mVr) (hc44 mVf) (hc45 mVc) (hc46 mAr) (hc47 mTc) (hc48 mFt) (hc49 mGo) dyn, 0, 0)) rfl ?_
  refine pm_go (g := (2, _, [.int t, .ref 25], _, 0, 0)) rfl ?_
  refine pm_callD (z := 131) (as := [.ref 25, .int t]) (rest := []) rfl ?_
  refine w_X12_isPlace t (by omega) (fun h1 => ?_) (fun h2 => ?_)
  ·
    show pm_WP 137 (5, [(0, .ref 25), (1, .int t)], [.int 1], _, 0, 0) _
    refine pm_brT (g := (10, [(0, .ref 25), (1, .int t)], [], hq g c1 c2 c3 c4 c5 c6 c7 c8 c9 c10 c11 c12 c13 c14 c15 c16 c17 c18 c19 c20 c21 c22 c23 c24 (hc25 mTy mTm mMn mFn mRn mTn mVn mLr mTr mFl mFm mFp mSc mMp mEn) (hc26 mPa) (hc27 mTo) (hc28 mOt) (hc29 mNa) (hc30 mRe) (hc31 mMa) (hc32 mMy) (hc33 mPm) (hc34 mFy) (hc35 mFa) (hc36 mFr) (hc37 mFo) (hc38 mRt) (hc39 mRm) (hc40 mTt) (hc41 mTi) (hc42 mPl) (hc43 mVr) (hc44 mVf) (hc45 mVc) (hc46 mAr) (hc47 mTc) (hc48 mFt) (hc49 mGo) dyn, 0, 0)) rfl ?_
    refine pm_go (g := (11, _, [.ref 25], _, 0, 0)) rfl ?_
    refine pm_go (g := (14, _, [.int mTm], _, 0, 0)) rfl ?_
    refine pm_go (g := (15, _, [.int 3, .int mTm], _, 0, 0)) rfl ?_
    refine pm_if2 (g := (21, [(0, .ref 25), (1, .int t)], [], hq g c1 c2 c3 c4 c5 c6 c7 c8 c9 c10 c11 c12 c13 c14 c15 c16 c17 c18 c19 c20 c21 c22 c23 c24 (hc25 mTy mTm mMn mFn mRn mTn mVn mLr mTr mFl mFm mFp mSc mMp mEn) (hc26 mPa) (hc27 mTo) (hc28 mOt) (hc29 mNa) (hc30 mRe) (hc31 mMa) (hc32 mMy) (hc33 mPm) (hc34 mFy) (hc35 mFa) (hc36 mFr) (hc37 mFo) (hc38 mRt) (hc39 mRm) (hc40 mTt) (hc41 mTi) (hc42 mPl) (hc43 mVr) (hc44 mVf) (hc45 mVc) (hc46 mAr) (hc47 mTc) (hc48 mFt) (hc49 mGo) dyn, 0, 0)) (h := (18, [(0, .ref 25), (1, .int t)], [], hq g c1 c2 c3 c4 c5 c6 c7 c8 c9 c10 c11 c12 c13 c14 c15 c16 c17 c18 c19 c20 c21 c22 c23 c24 (hc25 mTy mTm mMn mFn mRn mTn mVn mLr mTr mFl mFm mFp mSc mMp mEn) (hc26 mPa) (hc27 mTo) (hc28 mOt) (hc29 mNa) (hc30 mRe) (hc31 mMa) (hc32 mMy) (hc33 mPm) (hc34 mFy) (hc35 mFa) (hc36 mFr) (hc37 mFo) (hc38 mRt) (hc39 mRm) (hc40 mTt) (hc41 mTi) (hc42 mPl) (hc43 mVr) (hc44 mVf) (hc45 mVc) (hc46 mAr) (hc47 mTc) (hc48 mFt) (hc49 mGo) dyn, 0, 0)) rfl (fun h4 => ?_) (fun h4 => ?_)
    ·
      have h4 := qT_ne (cx := (mTm).toInt) (cy := 3) rfl (by decide) h4
      refine pm_go (g := (22, _, [.ref 25], _, 0, 0)) rfl ?_
      refine pm_go (g := (25, _, [.ref 27], _, 0, 0)) rfl ?_
      refine pm_go (g := (26, _, [.ref 25, .ref 27], _, 0, 0)) rfl ?_
      refine pm_go (g := (29, _, [.int mTm, .ref 27], _, 0, 0)) rfl ?_
      refine pm_go (g := (30, _, [.int t, .int mTm, .ref 27], _, 0, 0)) rfl ?_
      refine pm_sd (g := (31, _, [], hq g c1 c2 c3 c4 c5 c6 c7 c8 c9 c10 c11 c12 c13 c14 c15 c16 c17 c18 c19 c20 c21 c22 c23 c24 (hc25 mTy mTm mMn mFn mRn mTn mVn mLr mTr mFl mFm mFp mSc mMp mEn) (hc26 mPa) (hc27 (upd mTo (mTm).toNatClampNeg t)) (hc28 mOt) (hc29 mNa) (hc30 mRe) (hc31 mMa) (hc32 mMy) (hc33 mPm) (hc34 mFy) (hc35 mFa) (hc36 mFr) (hc37 mFo) (hc38 mRt) (hc39 mRm) (hc40 mTt) (hc41 mTi) (hc42 mPl) (hc43 mVr) (hc44 mVf) (hc45 mVc) (hc46 mAr) (hc47 mTc) (hc48 mFt) (hc49 mGo) dyn, 0, 0)) rfl (pm_inI (by omega) (by omega)) ?_
      refine pm_go (g := (32, _, [.ref 25], _, 0, 0)) rfl ?_
      refine pm_go (g := (33, _, [.ref 25, .ref 25], _, 0, 0)) rfl ?_
      refine pm_go (g := (36, _, [.int mTm, .ref 25], _, 0, 0)) rfl ?_
      refine pm_go (g := (37, _, [.int 1, .int mTm, .ref 25], _, 0, 0)) rfl ?_
      refine pm_go (g := (38, _, [.int (mTm + 1), .ref 25], _, 0, 0)) rfl ?_
      try have h5 : (mTm + 1).toInt = (mTm).toInt + 1 := iAdd (x := (mTm).toInt) (y := 1) rfl (by decide) (by omega) (by omega)
      refine pm_go (g := (41, _, [], hq g c1 c2 c3 c4 c5 c6 c7 c8 c9 c10 c11 c12 c13 c14 c15 c16 c17 c18 c19 c20 c21 c22 c23 c24 (hc25 mTy (mTm + 1) mMn mFn mRn mTn mVn mLr mTr mFl mFm mFp mSc mMp mEn) (hc26 mPa) (hc27 (upd mTo (mTm).toNatClampNeg t)) (hc28 mOt) (hc29 mNa) (hc30 mRe) (hc31 mMa) (hc32 mMy) (hc33 mPm) (hc34 mFy) (hc35 mFa) (hc36 mFr) (hc37 mFo) (hc38 mRt) (hc39 mRm) (hc40 mTt) (hc41 mTi) (hc42 mPl) (hc43 mVr) (hc44 mVf) (hc45 mVc) (hc46 mAr) (hc47 mTc) (hc48 mFt) (hc49 mGo) dyn, 0, 0)) rfl ?_
      refine pm_go (g := (42, _, [.ref 25], _, 0, 0)) rfl ?_
      refine pm_go (g := (45, _, [.int (mTm + 1)], _, 0, 0)) rfl ?_
      first | exact pm_ret rfl (k0 (by first | omega | assumption | (simp only [*]; done))) | exact pm_ret rfl (k1 (by first | omega | assumption | (simp only [*]; done))) | exact pm_ret rfl (k2 (by first | omega | assumption | (simp only [*]; done)))
    have h4 := qF_ne (cx := (mTm).toInt) (cy := 3) rfl (by decide) h4
    refine pm_go (g := (20, _, [.int (-2)], hq g c1 c2 c3 c4 c5 c6 c7 c8 c9 c10 c11 c12 c13 c14 c15 c16 c17 c18 c19 c20 c21 c22 c23 c24 (hc25 mTy mTm mMn mFn mRn mTn mVn mLr mTr mFl mFm mFp mSc mMp mEn) (hc26 mPa) (hc27 mTo) (hc28 mOt) (hc29 mNa) (hc30 mRe) (hc31 mMa) (hc32 mMy) (hc33 mPm) (hc34 mFy) (hc35 mFa) (hc36 mFr) (hc37 mFo) (hc38 mRt) (hc39 mRm) (hc40 mTt) (hc41 mTi) (hc42 mPl) (hc43 mVr) (hc44 mVf) (hc45 mVc) (hc46 mAr) (hc47 mTc) (hc48 mFt) (hc49 mGo) dyn, 0, 0)) rfl ?_
    first | exact pm_ret rfl (k0 (by first | omega | assumption | (simp only [*]; done))) | exact pm_ret rfl (k1 (by first | omega | assumption | (simp only [*]; done))) | exact pm_ret rfl (k2 (by first | omega | assumption | (simp only [*]; done)))
  show pm_WP 137 (5, [(0, .ref 25), (1, .int t)], [.int 0], hq g c1 c2 c3 c4 c5 c6 c7 c8 c9 c10 c11 c12 c13 c14 c15 c16 c17 c18 c19 c20 c21 c22 c23 c24 (hc25 mTy mTm mMn mFn mRn mTn mVn mLr mTr mFl mFm mFp mSc mMp mEn) (hc26 mPa) (hc27 mTo) (hc28 mOt) (hc29 mNa) (hc30 mRe) (hc31 mMa) (hc32 mMy) (hc33 mPm) (hc34 mFy) (hc35 mFa) (hc36 mFr) (hc37 mFo) (hc38 mRt) (hc39 mRm) (hc40 mTt) (hc41 mTi) (hc42 mPl) (hc43 mVr) (hc44 mVf) (hc45 mVc) (hc46 mAr) (hc47 mTc) (hc48 mFt) (hc49 mGo) dyn, 0, 0) _
  refine pm_brF (h := (8, [(0, .ref 25), (1, .int t)], [], hq g c1 c2 c3 c4 c5 c6 c7 c8 c9 c10 c11 c12 c13 c14 c15 c16 c17 c18 c19 c20 c21 c22 c23 c24 (hc25 mTy mTm mMn mFn mRn mTn mVn mLr mTr mFl mFm mFp mSc mMp mEn) (hc26 mPa) (hc27 mTo) (hc28 mOt) (hc29 mNa) (hc30 mRe) (hc31 mMa) (hc32 mMy) (hc33 mPm) (hc34 mFy) (hc35 mFa) (hc36 mFr) (hc37 mFo) (hc38 mRt) (hc39 mRm) (hc40 mTt) (hc41 mTi) (hc42 mPl) (hc43 mVr) (hc44 mVf) (hc45 mVc) (hc46 mAr) (hc47 mTc) (hc48 mFt) (hc49 mGo) dyn, 0, 0)) rfl ?_
  refine pm_go (g := (9, _, [.int (-1)], _, 0, 0)) rfl ?_
  first | exact pm_ret rfl (k0 (by first | omega | assumption | (simp only [*]; done))) | exact pm_ret rfl (k1 (by first | omega | assumption | (simp only [*]; done))) | exact pm_ret rfl (k2 (by first | omega | assumption | (simp only [*]; done)))
set_option maxRecDepth 100000 in
set_option maxHeartbeats 4000000 in
theorem w_X12_type {g c1 c2 c3 c4 c5 c6 c7 c8 c9 c10 c11 c12 c13 c14 c15 c16 c17 c18 c19 c20 c21 c22 c23 c24 : pm_C} {dyn : pm_H} {mTy : Int32} {mPa : Nat → Int32} {mTo : Nat → Int32} {mTm : Int32} {mMn : Int32} {mOt : Nat → Int32} {mNa : Nat → Int32} {mRe : Nat → Int32} {mMa : Nat → Int32} {mMy : Nat → Int32} {mPm : Nat → Int32} {mFn : Int32} {mFy : Nat → Int32} {mFa : Nat → Int32} {mFr : Nat → Int32} {mRn : Int32} {mFo : Nat → Int32} {mRt : Nat → Int32} {mRm : Nat → Int32} {mTn : Int32} {mTt : Nat → Int32} {mTi : Nat → Int32} {mPl : Nat → Int32} {mVn : Int32} {mVr : Nat → Int32} {mVf : Nat → Int32} {mVc : Nat → Int32} {mAr : Nat → Int32} {mLr : Int32} {mTc : Nat → Int32} {mTr : Int32} {mFl : Int32} {mFt : Nat → Int32} {mFm : Int32} {mFp : Int32} {mSc : Int32} {mMp : Int32} {mEn : Int32} {mGo : Nat → Int32} {Q : pm_Q} (t : Int32) (p0 : 2 ≤ mTy.toInt ∧ mTy.toInt ≤ 10) (k0 : (t.toInt < 0 ∨ mTy.toInt ≤ t.toInt ∨ t.toInt = 1) → Q (some (.int (-1))) (hq g c1 c2 c3 c4 c5 c6 c7 c8 c9 c10 c11 c12 c13 c14 c15 c16 c17 c18 c19 c20 c21 c22 c23 c24 (hc25 mTy mTm mMn mFn mRn mTn mVn mLr mTr mFl mFm mFp mSc mMp mEn) (hc26 mPa) (hc27 mTo) (hc28 mOt) (hc29 mNa) (hc30 mRe) (hc31 mMa) (hc32 mMy) (hc33 mPm) (hc34 mFy) (hc35 mFa) (hc36 mFr) (hc37 mFo) (hc38 mRt) (hc39 mRm) (hc40 mTt) (hc41 mTi) (hc42 mPl) (hc43 mVr) (hc44 mVf) (hc45 mVc) (hc46 mAr) (hc47 mTc) (hc48 mFt) (hc49 mGo) dyn)) (k1 : (0 ≤ t.toInt ∧ t.toInt < mTy.toInt ∧ t.toInt ≠ 1) ∧ mTy.toInt = 10 → Q (some (.int (-2))) (hq g c1 c2 c3 c4 c5 c6 c7 c8 c9 c10 c11 c12 c13 c14 c15 c16 c17 c18 c19 c20 c21 c22 c23 c24 (hc25 mTy mTm mMn mFn mRn mTn mVn mLr mTr mFl mFm mFp mSc mMp mEn) (hc26 mPa) (hc27 mTo) (hc28 mOt) (hc29 mNa) (hc30 mRe) (hc31 mMa) (hc32 mMy) (hc33 mPm) (hc34 mFy) (hc35 mFa) (hc36 mFr) (hc37 mFo) (hc38 mRt) (hc39 mRm) (hc40 mTt) (hc41 mTi) (hc42 mPl) (hc43 mVr) (hc44 mVf) (hc45 mVc) (hc46 mAr) (hc47 mTc) (hc48 mFt) (hc49 mGo) dyn)) (k2 : (0 ≤ t.toInt ∧ t.toInt < mTy.toInt ∧ t.toInt ≠ 1) ∧ mTy.toInt < 10 → Q (some (.int (mTy + 1 - 1))) (hq g c1 c2 c3 c4 c5 c6 c7 c8 c9 c10 c11 c12 c13 c14 c15 c16 c17 c18 c19 c20 c21 c22 c23 c24 (hc25 (mTy + 1) mTm mMn mFn mRn mTn mVn mLr mTr mFl mFm mFp mSc mMp mEn) (hc26 (upd mPa mTy.toNatClampNeg t)) (hc27 mTo) (hc28 mOt) (hc29 mNa) (hc30 mRe) (hc31 mMa) (hc32 mMy) (hc33 mPm) (hc34 mFy) (hc35 mFa) (hc36 mFr) (hc37 mFo) (hc38 mRt) (hc39 mRm) (hc40 mTt) (hc41 mTi) (hc42 mPl) (hc43 mVr) (hc44 mVf) (hc45 mVc) (hc46 mAr) (hc47 mTc) (hc48 mFt) (hc49 mGo) dyn)) : pm_WP 134 (0, [(0, .ref 25), (1, .int t)], [], hq g c1 c2 c3 c4 c5 c6 c7 c8 c9 c10 c11 c12 c13 c14 c15 c16 c17 c18 c19 c20 c21 c22 c23 c24 (hc25 mTy mTm mMn mFn mRn mTn mVn mLr mTr mFl mFm mFp mSc mMp mEn) (hc26 mPa) (hc27 mTo) (hc28 mOt) (hc29 mNa) (hc30 mRe) (hc31 mMa) (hc32 mMy) (hc33 mPm) (hc34 mFy) (hc35 mFa) (hc36 mFr) (hc37 mFo) (hc38 mRt) (hc39 mRm) (hc40 mTt) (hc41 mTi) (hc42 mPl) (hc43 mVr) (hc44 mVf) (hc45 mVc) (hc46 mAr) (hc47 mTc) (hc48 mFt) (hc49 mGo) dyn, 0, 0) Q := by
  refine pm_go (g := (1, [(0, .ref 25), (1, .int t)], [.ref 25], hq g c1 c2 c3 c4 c5 c6 c7 c8 c9 c10 c11 c12 c13 c14 c15 c16 c17 c18 c19 c20 c21 c22 c23 c24 (hc25 mTy mTm mMn mFn mRn mTn mVn mLr mTr mFl mFm mFp mSc mMp mEn) (hc26 mPa) (hc27 mTo) (hc28 mOt) (hc29 mNa) (hc30 mRe) (hc31 mMa) (hc32 mMy) (hc33 mPm) (hc34 mFy) (hc35 mFa) (hc36 mFr) (hc37 mFo) (hc38 mRt) (hc39 mRm) (hc40 mTt) (hc41 mTi) (hc42 mPl) (hc43 mVr) (hc44 mVf) (hc45 mVc) (hc46 mAr) (hc47 mTc) (hc48 mFt) (hc49 mGo) dyn, 0, 0)) rfl ?_
  refine pm_go (g := (2, _, [.int t, .ref 25], _, 0, 0)) rfl ?_
  refine pm_callD (z := 130) (as := [.ref 25, .int t]) (rest := []) rfl ?_
  refine w_X12_isOwn t (by omega) (fun h1 => ?_) (fun h2 => ?_)
  ·
    show pm_WP 134 (5, [(0, .ref 25), (1, .int t)], [.int 1], _, 0, 0) _
    refine pm_brT (g := (10, [(0, .ref 25), (1, .int t)], [], hq g c1 c2 c3 c4 c5 c6 c7 c8 c9 c10 c11 c12 c13 c14 c15 c16 c17 c18 c19 c20 c21 c22 c23 c24 (hc25 mTy mTm mMn mFn mRn mTn mVn mLr mTr mFl mFm mFp mSc mMp mEn) (hc26 mPa) (hc27 mTo) (hc28 mOt) (hc29 mNa) (hc30 mRe) (hc31 mMa) (hc32 mMy) (hc33 mPm) (hc34 mFy) (hc35 mFa) (hc36 mFr) (hc37 mFo) (hc38 mRt) (hc39 mRm) (hc40 mTt) (hc41 mTi) (hc42 mPl) (hc43 mVr) (hc44 mVf) (hc45 mVc) (hc46 mAr) (hc47 mTc) (hc48 mFt) (hc49 mGo) dyn, 0, 0)) rfl ?_
    refine pm_go (g := (11, _, [.ref 25], _, 0, 0)) rfl ?_
    refine pm_go (g := (14, _, [.int mTy], _, 0, 0)) rfl ?_
    refine pm_go (g := (16, _, [.int 10, .int mTy], _, 0, 0)) rfl ?_
    refine pm_if2 (g := (22, [(0, .ref 25), (1, .int t)], [], hq g c1 c2 c3 c4 c5 c6 c7 c8 c9 c10 c11 c12 c13 c14 c15 c16 c17 c18 c19 c20 c21 c22 c23 c24 (hc25 mTy mTm mMn mFn mRn mTn mVn mLr mTr mFl mFm mFp mSc mMp mEn) (hc26 mPa) (hc27 mTo) (hc28 mOt) (hc29 mNa) (hc30 mRe) (hc31 mMa) (hc32 mMy) (hc33 mPm) (hc34 mFy) (hc35 mFa) (hc36 mFr) (hc37 mFo) (hc38 mRt) (hc39 mRm) (hc40 mTt) (hc41 mTi) (hc42 mPl) (hc43 mVr) (hc44 mVf) (hc45 mVc) (hc46 mAr) (hc47 mTc) (hc48 mFt) (hc49 mGo) dyn, 0, 0)) (h := (19, [(0, .ref 25), (1, .int t)], [], hq g c1 c2 c3 c4 c5 c6 c7 c8 c9 c10 c11 c12 c13 c14 c15 c16 c17 c18 c19 c20 c21 c22 c23 c24 (hc25 mTy mTm mMn mFn mRn mTn mVn mLr mTr mFl mFm mFp mSc mMp mEn) (hc26 mPa) (hc27 mTo) (hc28 mOt) (hc29 mNa) (hc30 mRe) (hc31 mMa) (hc32 mMy) (hc33 mPm) (hc34 mFy) (hc35 mFa) (hc36 mFr) (hc37 mFo) (hc38 mRt) (hc39 mRm) (hc40 mTt) (hc41 mTi) (hc42 mPl) (hc43 mVr) (hc44 mVf) (hc45 mVc) (hc46 mAr) (hc47 mTc) (hc48 mFt) (hc49 mGo) dyn, 0, 0)) rfl (fun h4 => ?_) (fun h4 => ?_)
    ·
      have h4 := qT_ne (cx := (mTy).toInt) (cy := 10) rfl (by decide) h4
      refine pm_go (g := (23, _, [.ref 25], _, 0, 0)) rfl ?_
      refine pm_go (g := (26, _, [.ref 26], _, 0, 0)) rfl ?_
      refine pm_go (g := (27, _, [.ref 25, .ref 26], _, 0, 0)) rfl ?_
      refine pm_go (g := (30, _, [.int mTy, .ref 26], _, 0, 0)) rfl ?_
      refine pm_go (g := (31, _, [.int t, .int mTy, .ref 26], _, 0, 0)) rfl ?_
      refine pm_sd (g := (32, _, [], hq g c1 c2 c3 c4 c5 c6 c7 c8 c9 c10 c11 c12 c13 c14 c15 c16 c17 c18 c19 c20 c21 c22 c23 c24 (hc25 mTy mTm mMn mFn mRn mTn mVn mLr mTr mFl mFm mFp mSc mMp mEn) (hc26 (upd mPa (mTy).toNatClampNeg t)) (hc27 mTo) (hc28 mOt) (hc29 mNa) (hc30 mRe) (hc31 mMa) (hc32 mMy) (hc33 mPm) (hc34 mFy) (hc35 mFa) (hc36 mFr) (hc37 mFo) (hc38 mRt) (hc39 mRm) (hc40 mTt) (hc41 mTi) (hc42 mPl) (hc43 mVr) (hc44 mVf) (hc45 mVc) (hc46 mAr) (hc47 mTc) (hc48 mFt) (hc49 mGo) dyn, 0, 0)) rfl (pm_inI (by omega) (by omega)) ?_
      refine pm_go (g := (33, _, [.ref 25], _, 0, 0)) rfl ?_
      refine pm_go (g := (34, _, [.ref 25, .ref 25], _, 0, 0)) rfl ?_
      refine pm_go (g := (37, _, [.int mTy, .ref 25], _, 0, 0)) rfl ?_
      refine pm_go (g := (38, _, [.int 1, .int mTy, .ref 25], _, 0, 0)) rfl ?_
      refine pm_go (g := (39, _, [.int (mTy + 1), .ref 25], _, 0, 0)) rfl ?_
      try have h5 : (mTy + 1).toInt = (mTy).toInt + 1 := iAdd (x := (mTy).toInt) (y := 1) rfl (by decide) (by omega) (by omega)
      refine pm_go (g := (42, _, [], hq g c1 c2 c3 c4 c5 c6 c7 c8 c9 c10 c11 c12 c13 c14 c15 c16 c17 c18 c19 c20 c21 c22 c23 c24 (hc25 (mTy + 1) mTm mMn mFn mRn mTn mVn mLr mTr mFl mFm mFp mSc mMp mEn) (hc26 (upd mPa (mTy).toNatClampNeg t)) (hc27 mTo) (hc28 mOt) (hc29 mNa) (hc30 mRe) (hc31 mMa) (hc32 mMy) (hc33 mPm) (hc34 mFy) (hc35 mFa) (hc36 mFr) (hc37 mFo) (hc38 mRt) (hc39 mRm) (hc40 mTt) (hc41 mTi) (hc42 mPl) (hc43 mVr) (hc44 mVf) (hc45 mVc) (hc46 mAr) (hc47 mTc) (hc48 mFt) (hc49 mGo) dyn, 0, 0)) rfl ?_
      refine pm_go (g := (43, _, [.ref 25], _, 0, 0)) rfl ?_
      refine pm_go (g := (46, _, [.int (mTy + 1)], _, 0, 0)) rfl ?_
      refine pm_go (g := (47, _, [.int 1, .int (mTy + 1)], _, 0, 0)) rfl ?_
      refine pm_go (g := (48, _, [.int ((mTy + 1) - 1)], _, 0, 0)) rfl ?_
      try have h6 : ((mTy + 1) - 1).toInt = (mTy + 1).toInt - 1 := iSub (x := (mTy + 1).toInt) (y := 1) rfl (by decide) (by omega) (by omega)
      first | exact pm_ret rfl (k0 (by first | omega | assumption | (simp only [*]; done))) | exact pm_ret rfl (k1 (by first | omega | assumption | (simp only [*]; done))) | exact pm_ret rfl (k2 (by first | omega | assumption | (simp only [*]; done)))
    have h4 := qF_ne (cx := (mTy).toInt) (cy := 10) rfl (by decide) h4
    refine pm_go (g := (21, _, [.int (-2)], hq g c1 c2 c3 c4 c5 c6 c7 c8 c9 c10 c11 c12 c13 c14 c15 c16 c17 c18 c19 c20 c21 c22 c23 c24 (hc25 mTy mTm mMn mFn mRn mTn mVn mLr mTr mFl mFm mFp mSc mMp mEn) (hc26 mPa) (hc27 mTo) (hc28 mOt) (hc29 mNa) (hc30 mRe) (hc31 mMa) (hc32 mMy) (hc33 mPm) (hc34 mFy) (hc35 mFa) (hc36 mFr) (hc37 mFo) (hc38 mRt) (hc39 mRm) (hc40 mTt) (hc41 mTi) (hc42 mPl) (hc43 mVr) (hc44 mVf) (hc45 mVc) (hc46 mAr) (hc47 mTc) (hc48 mFt) (hc49 mGo) dyn, 0, 0)) rfl ?_
    first | exact pm_ret rfl (k0 (by first | omega | assumption | (simp only [*]; done))) | exact pm_ret rfl (k1 (by first | omega | assumption | (simp only [*]; done))) | exact pm_ret rfl (k2 (by first | omega | assumption | (simp only [*]; done)))
  show pm_WP 134 (5, [(0, .ref 25), (1, .int t)], [.int 0], hq g c1 c2 c3 c4 c5 c6 c7 c8 c9 c10 c11 c12 c13 c14 c15 c16 c17 c18 c19 c20 c21 c22 c23 c24 (hc25 mTy mTm mMn mFn mRn mTn mVn mLr mTr mFl mFm mFp mSc mMp mEn) (hc26 mPa) (hc27 mTo) (hc28 mOt) (hc29 mNa) (hc30 mRe) (hc31 mMa) (hc32 mMy) (hc33 mPm) (hc34 mFy) (hc35 mFa) (hc36 mFr) (hc37 mFo) (hc38 mRt) (hc39 mRm) (hc40 mTt) (hc41 mTi) (hc42 mPl) (hc43 mVr) (hc44 mVf) (hc45 mVc) (hc46 mAr) (hc47 mTc) (hc48 mFt) (hc49 mGo) dyn, 0, 0) _
  refine pm_brF (h := (8, [(0, .ref 25), (1, .int t)], [], hq g c1 c2 c3 c4 c5 c6 c7 c8 c9 c10 c11 c12 c13 c14 c15 c16 c17 c18 c19 c20 c21 c22 c23 c24 (hc25 mTy mTm mMn mFn mRn mTn mVn mLr mTr mFl mFm mFp mSc mMp mEn) (hc26 mPa) (hc27 mTo) (hc28 mOt) (hc29 mNa) (hc30 mRe) (hc31 mMa) (hc32 mMy) (hc33 mPm) (hc34 mFy) (hc35 mFa) (hc36 mFr) (hc37 mFo) (hc38 mRt) (hc39 mRm) (hc40 mTt) (hc41 mTi) (hc42 mPl) (hc43 mVr) (hc44 mVf) (hc45 mVc) (hc46 mAr) (hc47 mTc) (hc48 mFt) (hc49 mGo) dyn, 0, 0)) rfl ?_
  refine pm_go (g := (9, _, [.int (-1)], _, 0, 0)) rfl ?_
  first | exact pm_ret rfl (k0 (by first | omega | assumption | (simp only [*]; done))) | exact pm_ret rfl (k1 (by first | omega | assumption | (simp only [*]; done))) | exact pm_ret rfl (k2 (by first | omega | assumption | (simp only [*]; done)))
set_option maxRecDepth 100000 in
set_option maxHeartbeats 4000000 in
theorem w_X12_arg {g c1 c2 c3 c4 c5 c6 c7 c8 c9 c10 c11 c12 c13 c14 c15 c16 c17 c18 c19 c20 c21 c22 c23 c24 : pm_C} {dyn : pm_H} {mTy : Int32} {mPa : Nat → Int32} {mTo : Nat → Int32} {mTm : Int32} {mMn : Int32} {mOt : Nat → Int32} {mNa : Nat → Int32} {mRe : Nat → Int32} {mMa : Nat → Int32} {mMy : Nat → Int32} {mPm : Nat → Int32} {mFn : Int32} {mFy : Nat → Int32} {mFa : Nat → Int32} {mFr : Nat → Int32} {mRn : Int32} {mFo : Nat → Int32} {mRt : Nat → Int32} {mRm : Nat → Int32} {mTn : Int32} {mTt : Nat → Int32} {mTi : Nat → Int32} {mPl : Nat → Int32} {mVn : Int32} {mVr : Nat → Int32} {mVf : Nat → Int32} {mVc : Nat → Int32} {mAr : Nat → Int32} {mLr : Int32} {mTc : Nat → Int32} {mTr : Int32} {mFl : Int32} {mFt : Nat → Int32} {mFm : Int32} {mFp : Int32} {mSc : Int32} {mMp : Int32} {mEn : Int32} {mGo : Nat → Int32} {Q : pm_Q} (i : Int32) (v : Int32) (k0 : (i.toInt < 0 ∨ 2 < i.toInt) → Q (some (.int (-1))) (hq g c1 c2 c3 c4 c5 c6 c7 c8 c9 c10 c11 c12 c13 c14 c15 c16 c17 c18 c19 c20 c21 c22 c23 c24 (hc25 mTy mTm mMn mFn mRn mTn mVn mLr mTr mFl mFm mFp mSc mMp mEn) (hc26 mPa) (hc27 mTo) (hc28 mOt) (hc29 mNa) (hc30 mRe) (hc31 mMa) (hc32 mMy) (hc33 mPm) (hc34 mFy) (hc35 mFa) (hc36 mFr) (hc37 mFo) (hc38 mRt) (hc39 mRm) (hc40 mTt) (hc41 mTi) (hc42 mPl) (hc43 mVr) (hc44 mVf) (hc45 mVc) (hc46 mAr) (hc47 mTc) (hc48 mFt) (hc49 mGo) dyn)) (k1 : 0 ≤ i.toInt ∧ i.toInt ≤ 2 → Q (some (.int 1)) (hq g c1 c2 c3 c4 c5 c6 c7 c8 c9 c10 c11 c12 c13 c14 c15 c16 c17 c18 c19 c20 c21 c22 c23 c24 (hc25 mTy mTm mMn mFn mRn mTn mVn mLr mTr mFl mFm mFp mSc mMp mEn) (hc26 mPa) (hc27 mTo) (hc28 mOt) (hc29 mNa) (hc30 mRe) (hc31 mMa) (hc32 mMy) (hc33 mPm) (hc34 mFy) (hc35 mFa) (hc36 mFr) (hc37 mFo) (hc38 mRt) (hc39 mRm) (hc40 mTt) (hc41 mTi) (hc42 mPl) (hc43 mVr) (hc44 mVf) (hc45 mVc) (hc46 (upd mAr i.toNatClampNeg v)) (hc47 mTc) (hc48 mFt) (hc49 mGo) dyn)) : pm_WP 177 (0, [(0, .ref 25), (1, .int i), (2, .int v)], [], hq g c1 c2 c3 c4 c5 c6 c7 c8 c9 c10 c11 c12 c13 c14 c15 c16 c17 c18 c19 c20 c21 c22 c23 c24 (hc25 mTy mTm mMn mFn mRn mTn mVn mLr mTr mFl mFm mFp mSc mMp mEn) (hc26 mPa) (hc27 mTo) (hc28 mOt) (hc29 mNa) (hc30 mRe) (hc31 mMa) (hc32 mMy) (hc33 mPm) (hc34 mFy) (hc35 mFa) (hc36 mFr) (hc37 mFo) (hc38 mRt) (hc39 mRm) (hc40 mTt) (hc41 mTi) (hc42 mPl) (hc43 mVr) (hc44 mVf) (hc45 mVc) (hc46 mAr) (hc47 mTc) (hc48 mFt) (hc49 mGo) dyn, 0, 0) Q := by
  refine pm_go (g := (1, [(0, .ref 25), (1, .int i), (2, .int v)], [.int i], hq g c1 c2 c3 c4 c5 c6 c7 c8 c9 c10 c11 c12 c13 c14 c15 c16 c17 c18 c19 c20 c21 c22 c23 c24 (hc25 mTy mTm mMn mFn mRn mTn mVn mLr mTr mFl mFm mFp mSc mMp mEn) (hc26 mPa) (hc27 mTo) (hc28 mOt) (hc29 mNa) (hc30 mRe) (hc31 mMa) (hc32 mMy) (hc33 mPm) (hc34 mFy) (hc35 mFa) (hc36 mFr) (hc37 mFo) (hc38 mRt) (hc39 mRm) (hc40 mTt) (hc41 mTi) (hc42 mPl) (hc43 mVr) (hc44 mVf) (hc45 mVc) (hc46 mAr) (hc47 mTc) (hc48 mFt) (hc49 mGo) dyn, 0, 0)) rfl ?_
  refine pm_go (g := (2, _, [.int 0, .int i], _, 0, 0)) rfl ?_
  refine pm_go (g := (3, _, [.int 2, .int 0, .int i], _, 0, 0)) rfl ?_
  refine pm_callD (z := 128) (as := [.int i, .int 0, .int 2]) (rest := []) rfl ?_
  have h1 : (0 : Int32).toInt = 0 := by decide
  have h2 : (2 : Int32).toInt = 2 := by decide
  refine w_X12_isIn i 0 2 (fun h3 => ?_) (fun h4 => ?_)
  ·
    show pm_WP 177 (6, [(0, .ref 25), (1, .int i), (2, .int v)], [.int 1], _, 0, 0) _
    refine pm_brT (g := (11, [(0, .ref 25), (1, .int i), (2, .int v)], [], hq g c1 c2 c3 c4 c5 c6 c7 c8 c9 c10 c11 c12 c13 c14 c15 c16 c17 c18 c19 c20 c21 c22 c23 c24 (hc25 mTy mTm mMn mFn mRn mTn mVn mLr mTr mFl mFm mFp mSc mMp mEn) (hc26 mPa) (hc27 mTo) (hc28 mOt) (hc29 mNa) (hc30 mRe) (hc31 mMa) (hc32 mMy) (hc33 mPm) (hc34 mFy) (hc35 mFa) (hc36 mFr) (hc37 mFo) (hc38 mRt) (hc39 mRm) (hc40 mTt) (hc41 mTi) (hc42 mPl) (hc43 mVr) (hc44 mVf) (hc45 mVc) (hc46 mAr) (hc47 mTc) (hc48 mFt) (hc49 mGo) dyn, 0, 0)) rfl ?_
    refine pm_go (g := (12, _, [.ref 25], _, 0, 0)) rfl ?_
    refine pm_go (g := (15, _, [.ref 46], _, 0, 0)) rfl ?_
    refine pm_go (g := (16, _, [.int i, .ref 46], _, 0, 0)) rfl ?_
    refine pm_go (g := (17, _, [.int v, .int i, .ref 46], _, 0, 0)) rfl ?_
    refine pm_sd (g := (18, _, [], hq g c1 c2 c3 c4 c5 c6 c7 c8 c9 c10 c11 c12 c13 c14 c15 c16 c17 c18 c19 c20 c21 c22 c23 c24 (hc25 mTy mTm mMn mFn mRn mTn mVn mLr mTr mFl mFm mFp mSc mMp mEn) (hc26 mPa) (hc27 mTo) (hc28 mOt) (hc29 mNa) (hc30 mRe) (hc31 mMa) (hc32 mMy) (hc33 mPm) (hc34 mFy) (hc35 mFa) (hc36 mFr) (hc37 mFo) (hc38 mRt) (hc39 mRm) (hc40 mTt) (hc41 mTi) (hc42 mPl) (hc43 mVr) (hc44 mVf) (hc45 mVc) (hc46 (upd mAr (i).toNatClampNeg v)) (hc47 mTc) (hc48 mFt) (hc49 mGo) dyn, 0, 0)) rfl (pm_inI (by omega) (by omega)) ?_
    refine pm_go (g := (19, _, [.int 1], _, 0, 0)) rfl ?_
    first | exact pm_ret rfl (k0 (by first | omega | assumption | (simp only [*]; done))) | exact pm_ret rfl (k1 (by first | omega | assumption | (simp only [*]; done)))
  show pm_WP 177 (6, [(0, .ref 25), (1, .int i), (2, .int v)], [.int 0], hq g c1 c2 c3 c4 c5 c6 c7 c8 c9 c10 c11 c12 c13 c14 c15 c16 c17 c18 c19 c20 c21 c22 c23 c24 (hc25 mTy mTm mMn mFn mRn mTn mVn mLr mTr mFl mFm mFp mSc mMp mEn) (hc26 mPa) (hc27 mTo) (hc28 mOt) (hc29 mNa) (hc30 mRe) (hc31 mMa) (hc32 mMy) (hc33 mPm) (hc34 mFy) (hc35 mFa) (hc36 mFr) (hc37 mFo) (hc38 mRt) (hc39 mRm) (hc40 mTt) (hc41 mTi) (hc42 mPl) (hc43 mVr) (hc44 mVf) (hc45 mVc) (hc46 mAr) (hc47 mTc) (hc48 mFt) (hc49 mGo) dyn, 0, 0) _
  refine pm_brF (h := (9, [(0, .ref 25), (1, .int i), (2, .int v)], [], hq g c1 c2 c3 c4 c5 c6 c7 c8 c9 c10 c11 c12 c13 c14 c15 c16 c17 c18 c19 c20 c21 c22 c23 c24 (hc25 mTy mTm mMn mFn mRn mTn mVn mLr mTr mFl mFm mFp mSc mMp mEn) (hc26 mPa) (hc27 mTo) (hc28 mOt) (hc29 mNa) (hc30 mRe) (hc31 mMa) (hc32 mMy) (hc33 mPm) (hc34 mFy) (hc35 mFa) (hc36 mFr) (hc37 mFo) (hc38 mRt) (hc39 mRm) (hc40 mTt) (hc41 mTi) (hc42 mPl) (hc43 mVr) (hc44 mVf) (hc45 mVc) (hc46 mAr) (hc47 mTc) (hc48 mFt) (hc49 mGo) dyn, 0, 0)) rfl ?_
  refine pm_go (g := (10, _, [.int (-1)], _, 0, 0)) rfl ?_
  first | exact pm_ret rfl (k0 (by first | omega | assumption | (simp only [*]; done))) | exact pm_ret rfl (k1 (by first | omega | assumption | (simp only [*]; done)))
set_option maxRecDepth 100000 in
set_option maxHeartbeats 4000000 in
theorem w_X12_result {g c1 c2 c3 c4 c5 c6 c7 c8 c9 c10 c11 c12 c13 c14 c15 c16 c17 c18 c19 c20 c21 c22 c23 c24 : pm_C} {dyn : pm_H} {mTy : Int32} {mPa : Nat → Int32} {mTo : Nat → Int32} {mTm : Int32} {mMn : Int32} {mOt : Nat → Int32} {mNa : Nat → Int32} {mRe : Nat → Int32} {mMa : Nat → Int32} {mMy : Nat → Int32} {mPm : Nat → Int32} {mFn : Int32} {mFy : Nat → Int32} {mFa : Nat → Int32} {mFr : Nat → Int32} {mRn : Int32} {mFo : Nat → Int32} {mRt : Nat → Int32} {mRm : Nat → Int32} {mTn : Int32} {mTt : Nat → Int32} {mTi : Nat → Int32} {mPl : Nat → Int32} {mVn : Int32} {mVr : Nat → Int32} {mVf : Nat → Int32} {mVc : Nat → Int32} {mAr : Nat → Int32} {mLr : Int32} {mTc : Nat → Int32} {mTr : Int32} {mFl : Int32} {mFt : Nat → Int32} {mFm : Int32} {mFp : Int32} {mSc : Int32} {mMp : Int32} {mEn : Int32} {mGo : Nat → Int32} {Q : pm_Q} (k0 : Q (some (.int mLr)) (hq g c1 c2 c3 c4 c5 c6 c7 c8 c9 c10 c11 c12 c13 c14 c15 c16 c17 c18 c19 c20 c21 c22 c23 c24 (hc25 mTy mTm mMn mFn mRn mTn mVn mLr mTr mFl mFm mFp mSc mMp mEn) (hc26 mPa) (hc27 mTo) (hc28 mOt) (hc29 mNa) (hc30 mRe) (hc31 mMa) (hc32 mMy) (hc33 mPm) (hc34 mFy) (hc35 mFa) (hc36 mFr) (hc37 mFo) (hc38 mRt) (hc39 mRm) (hc40 mTt) (hc41 mTi) (hc42 mPl) (hc43 mVr) (hc44 mVf) (hc45 mVc) (hc46 mAr) (hc47 mTc) (hc48 mFt) (hc49 mGo) dyn)) : pm_WP 186 (0, [(0, .ref 25)], [], hq g c1 c2 c3 c4 c5 c6 c7 c8 c9 c10 c11 c12 c13 c14 c15 c16 c17 c18 c19 c20 c21 c22 c23 c24 (hc25 mTy mTm mMn mFn mRn mTn mVn mLr mTr mFl mFm mFp mSc mMp mEn) (hc26 mPa) (hc27 mTo) (hc28 mOt) (hc29 mNa) (hc30 mRe) (hc31 mMa) (hc32 mMy) (hc33 mPm) (hc34 mFy) (hc35 mFa) (hc36 mFr) (hc37 mFo) (hc38 mRt) (hc39 mRm) (hc40 mTt) (hc41 mTi) (hc42 mPl) (hc43 mVr) (hc44 mVf) (hc45 mVc) (hc46 mAr) (hc47 mTc) (hc48 mFt) (hc49 mGo) dyn, 0, 0) Q := by
  refine pm_go (g := (1, [(0, .ref 25)], [.ref 25], hq g c1 c2 c3 c4 c5 c6 c7 c8 c9 c10 c11 c12 c13 c14 c15 c16 c17 c18 c19 c20 c21 c22 c23 c24 (hc25 mTy mTm mMn mFn mRn mTn mVn mLr mTr mFl mFm mFp mSc mMp mEn) (hc26 mPa) (hc27 mTo) (hc28 mOt) (hc29 mNa) (hc30 mRe) (hc31 mMa) (hc32 mMy) (hc33 mPm) (hc34 mFy) (hc35 mFa) (hc36 mFr) (hc37 mFo) (hc38 mRt) (hc39 mRm) (hc40 mTt) (hc41 mTi) (hc42 mPl) (hc43 mVr) (hc44 mVf) (hc45 mVc) (hc46 mAr) (hc47 mTc) (hc48 mFt) (hc49 mGo) dyn, 0, 0)) rfl ?_
  refine pm_go (g := (4, _, [.int mLr], _, 0, 0)) rfl ?_
  first | exact pm_ret rfl (k0)
set_option maxRecDepth 100000 in
set_option maxHeartbeats 4000000 in
theorem w_X12_traced {g c1 c2 c3 c4 c5 c6 c7 c8 c9 c10 c11 c12 c13 c14 c15 c16 c17 c18 c19 c20 c21 c22 c23 c24 : pm_C} {dyn : pm_H} {mTy : Int32} {mPa : Nat → Int32} {mTo : Nat → Int32} {mTm : Int32} {mMn : Int32} {mOt : Nat → Int32} {mNa : Nat → Int32} {mRe : Nat → Int32} {mMa : Nat → Int32} {mMy : Nat → Int32} {mPm : Nat → Int32} {mFn : Int32} {mFy : Nat → Int32} {mFa : Nat → Int32} {mFr : Nat → Int32} {mRn : Int32} {mFo : Nat → Int32} {mRt : Nat → Int32} {mRm : Nat → Int32} {mTn : Int32} {mTt : Nat → Int32} {mTi : Nat → Int32} {mPl : Nat → Int32} {mVn : Int32} {mVr : Nat → Int32} {mVf : Nat → Int32} {mVc : Nat → Int32} {mAr : Nat → Int32} {mLr : Int32} {mTc : Nat → Int32} {mTr : Int32} {mFl : Int32} {mFt : Nat → Int32} {mFm : Int32} {mFp : Int32} {mSc : Int32} {mMp : Int32} {mEn : Int32} {mGo : Nat → Int32} {Q : pm_Q} (i : Int32) (p0 : 0 ≤ mTr.toInt ∧ mTr.toInt ≤ 50) (k0 : 0 ≤ i.toInt ∧ i.toInt < mTr.toInt → Q (some (.int (mTc i.toNatClampNeg))) (hq g c1 c2 c3 c4 c5 c6 c7 c8 c9 c10 c11 c12 c13 c14 c15 c16 c17 c18 c19 c20 c21 c22 c23 c24 (hc25 mTy mTm mMn mFn mRn mTn mVn mLr mTr mFl mFm mFp mSc mMp mEn) (hc26 mPa) (hc27 mTo) (hc28 mOt) (hc29 mNa) (hc30 mRe) (hc31 mMa) (hc32 mMy) (hc33 mPm) (hc34 mFy) (hc35 mFa) (hc36 mFr) (hc37 mFo) (hc38 mRt) (hc39 mRm) (hc40 mTt) (hc41 mTi) (hc42 mPl) (hc43 mVr) (hc44 mVf) (hc45 mVc) (hc46 mAr) (hc47 mTc) (hc48 mFt) (hc49 mGo) dyn)) (k1 : (i.toInt < 0 ∨ mTr.toInt ≤ i.toInt) → Q (some (.int (-4))) (hq g c1 c2 c3 c4 c5 c6 c7 c8 c9 c10 c11 c12 c13 c14 c15 c16 c17 c18 c19 c20 c21 c22 c23 c24 (hc25 mTy mTm mMn mFn mRn mTn mVn mLr mTr mFl mFm mFp mSc mMp mEn) (hc26 mPa) (hc27 mTo) (hc28 mOt) (hc29 mNa) (hc30 mRe) (hc31 mMa) (hc32 mMy) (hc33 mPm) (hc34 mFy) (hc35 mFa) (hc36 mFr) (hc37 mFo) (hc38 mRt) (hc39 mRm) (hc40 mTt) (hc41 mTi) (hc42 mPl) (hc43 mVr) (hc44 mVf) (hc45 mVc) (hc46 mAr) (hc47 mTc) (hc48 mFt) (hc49 mGo) dyn)) : pm_WP 187 (0, [(0, .ref 25), (1, .int i)], [], hq g c1 c2 c3 c4 c5 c6 c7 c8 c9 c10 c11 c12 c13 c14 c15 c16 c17 c18 c19 c20 c21 c22 c23 c24 (hc25 mTy mTm mMn mFn mRn mTn mVn mLr mTr mFl mFm mFp mSc mMp mEn) (hc26 mPa) (hc27 mTo) (hc28 mOt) (hc29 mNa) (hc30 mRe) (hc31 mMa) (hc32 mMy) (hc33 mPm) (hc34 mFy) (hc35 mFa) (hc36 mFr) (hc37 mFo) (hc38 mRt) (hc39 mRm) (hc40 mTt) (hc41 mTi) (hc42 mPl) (hc43 mVr) (hc44 mVf) (hc45 mVc) (hc46 mAr) (hc47 mTc) (hc48 mFt) (hc49 mGo) dyn, 0, 0) Q := by
  refine pm_go (g := (1, [(0, .ref 25), (1, .int i)], [.int i], hq g c1 c2 c3 c4 c5 c6 c7 c8 c9 c10 c11 c12 c13 c14 c15 c16 c17 c18 c19 c20 c21 c22 c23 c24 (hc25 mTy mTm mMn mFn mRn mTn mVn mLr mTr mFl mFm mFp mSc mMp mEn) (hc26 mPa) (hc27 mTo) (hc28 mOt) (hc29 mNa) (hc30 mRe) (hc31 mMa) (hc32 mMy) (hc33 mPm) (hc34 mFy) (hc35 mFa) (hc36 mFr) (hc37 mFo) (hc38 mRt) (hc39 mRm) (hc40 mTt) (hc41 mTi) (hc42 mPl) (hc43 mVr) (hc44 mVf) (hc45 mVc) (hc46 mAr) (hc47 mTc) (hc48 mFt) (hc49 mGo) dyn, 0, 0)) rfl ?_
  refine pm_go (g := (2, _, [.int 0, .int i], _, 0, 0)) rfl ?_
  refine pm_go (g := (3, _, [.ref 25, .int 0, .int i], _, 0, 0)) rfl ?_
  refine pm_go (g := (6, _, [.int mTr, .int 0, .int i], _, 0, 0)) rfl ?_
  refine pm_go (g := (7, _, [.int 1, .int mTr, .int 0, .int i], _, 0, 0)) rfl ?_
  refine pm_go (g := (8, _, [.int (mTr - 1), .int 0, .int i], _, 0, 0)) rfl ?_
  try have h1 : (mTr - 1).toInt = (mTr).toInt - 1 := iSub (x := (mTr).toInt) (y := 1) rfl (by decide) (by omega) (by omega)
  refine pm_callD (z := 128) (as := [.int i, .int 0, .int (mTr - 1)]) (rest := []) rfl ?_
  have h2 : (0 : Int32).toInt = 0 := by decide
  refine w_X12_isIn i 0 (mTr - 1) (fun h3 => ?_) (fun h4 => ?_)
  ·
    show pm_WP 187 (11, [(0, .ref 25), (1, .int i)], [.int 1], _, 0, 0) _
    refine pm_brF (h := (14, [(0, .ref 25), (1, .int i)], [], hq g c1 c2 c3 c4 c5 c6 c7 c8 c9 c10 c11 c12 c13 c14 c15 c16 c17 c18 c19 c20 c21 c22 c23 c24 (hc25 mTy mTm mMn mFn mRn mTn mVn mLr mTr mFl mFm mFp mSc mMp mEn) (hc26 mPa) (hc27 mTo) (hc28 mOt) (hc29 mNa) (hc30 mRe) (hc31 mMa) (hc32 mMy) (hc33 mPm) (hc34 mFy) (hc35 mFa) (hc36 mFr) (hc37 mFo) (hc38 mRt) (hc39 mRm) (hc40 mTt) (hc41 mTi) (hc42 mPl) (hc43 mVr) (hc44 mVf) (hc45 mVc) (hc46 mAr) (hc47 mTc) (hc48 mFt) (hc49 mGo) dyn, 0, 0)) rfl ?_
    refine pm_go (g := (15, _, [.ref 25], _, 0, 0)) rfl ?_
    refine pm_go (g := (18, _, [.ref 47], _, 0, 0)) rfl ?_
    refine pm_go (g := (19, _, [.int i, .ref 47], _, 0, 0)) rfl ?_
    refine pm_sd (g := (20, _, [.int (mTc (i).toNatClampNeg)], _, 0, 0)) rfl (pm_inI (by omega) (by omega)) ?_
    refine pm_go (g := (25, _, [.int (mTc (i).toNatClampNeg)], _, 0, 0)) rfl ?_
    first | exact pm_ret rfl (k0 (by first | omega | assumption | (simp only [*]; done))) | exact pm_ret rfl (k1 (by first | omega | assumption | (simp only [*]; done)))
  show pm_WP 187 (11, [(0, .ref 25), (1, .int i)], [.int 0], hq g c1 c2 c3 c4 c5 c6 c7 c8 c9 c10 c11 c12 c13 c14 c15 c16 c17 c18 c19 c20 c21 c22 c23 c24 (hc25 mTy mTm mMn mFn mRn mTn mVn mLr mTr mFl mFm mFp mSc mMp mEn) (hc26 mPa) (hc27 mTo) (hc28 mOt) (hc29 mNa) (hc30 mRe) (hc31 mMa) (hc32 mMy) (hc33 mPm) (hc34 mFy) (hc35 mFa) (hc36 mFr) (hc37 mFo) (hc38 mRt) (hc39 mRm) (hc40 mTt) (hc41 mTi) (hc42 mPl) (hc43 mVr) (hc44 mVf) (hc45 mVc) (hc46 mAr) (hc47 mTc) (hc48 mFt) (hc49 mGo) dyn, 0, 0) _
  refine pm_brT (g := (23, [(0, .ref 25), (1, .int i)], [], hq g c1 c2 c3 c4 c5 c6 c7 c8 c9 c10 c11 c12 c13 c14 c15 c16 c17 c18 c19 c20 c21 c22 c23 c24 (hc25 mTy mTm mMn mFn mRn mTn mVn mLr mTr mFl mFm mFp mSc mMp mEn) (hc26 mPa) (hc27 mTo) (hc28 mOt) (hc29 mNa) (hc30 mRe) (hc31 mMa) (hc32 mMy) (hc33 mPm) (hc34 mFy) (hc35 mFa) (hc36 mFr) (hc37 mFo) (hc38 mRt) (hc39 mRm) (hc40 mTt) (hc41 mTi) (hc42 mPl) (hc43 mVr) (hc44 mVf) (hc45 mVc) (hc46 mAr) (hc47 mTc) (hc48 mFt) (hc49 mGo) dyn, 0, 0)) rfl ?_
  refine pm_go (g := (25, _, [.int (-4)], _, 0, 0)) rfl ?_
  first | exact pm_ret rfl (k0 (by first | omega | assumption | (simp only [*]; done))) | exact pm_ret rfl (k1 (by first | omega | assumption | (simp only [*]; done)))
set_option maxRecDepth 100000 in
set_option maxHeartbeats 4000000 in
theorem w_X12_count {g c1 c2 c3 c4 c5 c6 c7 c8 c9 c10 c11 c12 c13 c14 c15 c16 c17 c18 c19 c20 c21 c22 c23 c24 : pm_C} {dyn : pm_H} {mTy : Int32} {mPa : Nat → Int32} {mTo : Nat → Int32} {mTm : Int32} {mMn : Int32} {mOt : Nat → Int32} {mNa : Nat → Int32} {mRe : Nat → Int32} {mMa : Nat → Int32} {mMy : Nat → Int32} {mPm : Nat → Int32} {mFn : Int32} {mFy : Nat → Int32} {mFa : Nat → Int32} {mFr : Nat → Int32} {mRn : Int32} {mFo : Nat → Int32} {mRt : Nat → Int32} {mRm : Nat → Int32} {mTn : Int32} {mTt : Nat → Int32} {mTi : Nat → Int32} {mPl : Nat → Int32} {mVn : Int32} {mVr : Nat → Int32} {mVf : Nat → Int32} {mVc : Nat → Int32} {mAr : Nat → Int32} {mLr : Int32} {mTc : Nat → Int32} {mTr : Int32} {mFl : Int32} {mFt : Nat → Int32} {mFm : Int32} {mFp : Int32} {mSc : Int32} {mMp : Int32} {mEn : Int32} {mGo : Nat → Int32} {Q : pm_Q} (w : Int32) (k0 : w.toInt = 0 → Q (some (.int mTy)) (hq g c1 c2 c3 c4 c5 c6 c7 c8 c9 c10 c11 c12 c13 c14 c15 c16 c17 c18 c19 c20 c21 c22 c23 c24 (hc25 mTy mTm mMn mFn mRn mTn mVn mLr mTr mFl mFm mFp mSc mMp mEn) (hc26 mPa) (hc27 mTo) (hc28 mOt) (hc29 mNa) (hc30 mRe) (hc31 mMa) (hc32 mMy) (hc33 mPm) (hc34 mFy) (hc35 mFa) (hc36 mFr) (hc37 mFo) (hc38 mRt) (hc39 mRm) (hc40 mTt) (hc41 mTi) (hc42 mPl) (hc43 mVr) (hc44 mVf) (hc45 mVc) (hc46 mAr) (hc47 mTc) (hc48 mFt) (hc49 mGo) dyn)) (k1 : w.toInt = 1 → Q (some (.int mMn)) (hq g c1 c2 c3 c4 c5 c6 c7 c8 c9 c10 c11 c12 c13 c14 c15 c16 c17 c18 c19 c20 c21 c22 c23 c24 (hc25 mTy mTm mMn mFn mRn mTn mVn mLr mTr mFl mFm mFp mSc mMp mEn) (hc26 mPa) (hc27 mTo) (hc28 mOt) (hc29 mNa) (hc30 mRe) (hc31 mMa) (hc32 mMy) (hc33 mPm) (hc34 mFy) (hc35 mFa) (hc36 mFr) (hc37 mFo) (hc38 mRt) (hc39 mRm) (hc40 mTt) (hc41 mTi) (hc42 mPl) (hc43 mVr) (hc44 mVf) (hc45 mVc) (hc46 mAr) (hc47 mTc) (hc48 mFt) (hc49 mGo) dyn)) (k2 : w.toInt = 2 → Q (some (.int mFn)) (hq g c1 c2 c3 c4 c5 c6 c7 c8 c9 c10 c11 c12 c13 c14 c15 c16 c17 c18 c19 c20 c21 c22 c23 c24 (hc25 mTy mTm mMn mFn mRn mTn mVn mLr mTr mFl mFm mFp mSc mMp mEn) (hc26 mPa) (hc27 mTo) (hc28 mOt) (hc29 mNa) (hc30 mRe) (hc31 mMa) (hc32 mMy) (hc33 mPm) (hc34 mFy) (hc35 mFa) (hc36 mFr) (hc37 mFo) (hc38 mRt) (hc39 mRm) (hc40 mTt) (hc41 mTi) (hc42 mPl) (hc43 mVr) (hc44 mVf) (hc45 mVc) (hc46 mAr) (hc47 mTc) (hc48 mFt) (hc49 mGo) dyn)) (k3 : w.toInt = 3 → Q (some (.int mRn)) (hq g c1 c2 c3 c4 c5 c6 c7 c8 c9 c10 c11 c12 c13 c14 c15 c16 c17 c18 c19 c20 c21 c22 c23 c24 (hc25 mTy mTm mMn mFn mRn mTn mVn mLr mTr mFl mFm mFp mSc mMp mEn) (hc26 mPa) (hc27 mTo) (hc28 mOt) (hc29 mNa) (hc30 mRe) (hc31 mMa) (hc32 mMy) (hc33 mPm) (hc34 mFy) (hc35 mFa) (hc36 mFr) (hc37 mFo) (hc38 mRt) (hc39 mRm) (hc40 mTt) (hc41 mTi) (hc42 mPl) (hc43 mVr) (hc44 mVf) (hc45 mVc) (hc46 mAr) (hc47 mTc) (hc48 mFt) (hc49 mGo) dyn)) (k4 : w.toInt = 4 → Q (some (.int mTn)) (hq g c1 c2 c3 c4 c5 c6 c7 c8 c9 c10 c11 c12 c13 c14 c15 c16 c17 c18 c19 c20 c21 c22 c23 c24 (hc25 mTy mTm mMn mFn mRn mTn mVn mLr mTr mFl mFm mFp mSc mMp mEn) (hc26 mPa) (hc27 mTo) (hc28 mOt) (hc29 mNa) (hc30 mRe) (hc31 mMa) (hc32 mMy) (hc33 mPm) (hc34 mFy) (hc35 mFa) (hc36 mFr) (hc37 mFo) (hc38 mRt) (hc39 mRm) (hc40 mTt) (hc41 mTi) (hc42 mPl) (hc43 mVr) (hc44 mVf) (hc45 mVc) (hc46 mAr) (hc47 mTc) (hc48 mFt) (hc49 mGo) dyn)) (k5 : w.toInt = 5 → Q (some (.int mVn)) (hq g c1 c2 c3 c4 c5 c6 c7 c8 c9 c10 c11 c12 c13 c14 c15 c16 c17 c18 c19 c20 c21 c22 c23 c24 (hc25 mTy mTm mMn mFn mRn mTn mVn mLr mTr mFl mFm mFp mSc mMp mEn) (hc26 mPa) (hc27 mTo) (hc28 mOt) (hc29 mNa) (hc30 mRe) (hc31 mMa) (hc32 mMy) (hc33 mPm) (hc34 mFy) (hc35 mFa) (hc36 mFr) (hc37 mFo) (hc38 mRt) (hc39 mRm) (hc40 mTt) (hc41 mTi) (hc42 mPl) (hc43 mVr) (hc44 mVf) (hc45 mVc) (hc46 mAr) (hc47 mTc) (hc48 mFt) (hc49 mGo) dyn)) (k6 : w.toInt = 6 → Q (some (.int mFl)) (hq g c1 c2 c3 c4 c5 c6 c7 c8 c9 c10 c11 c12 c13 c14 c15 c16 c17 c18 c19 c20 c21 c22 c23 c24 (hc25 mTy mTm mMn mFn mRn mTn mVn mLr mTr mFl mFm mFp mSc mMp mEn) (hc26 mPa) (hc27 mTo) (hc28 mOt) (hc29 mNa) (hc30 mRe) (hc31 mMa) (hc32 mMy) (hc33 mPm) (hc34 mFy) (hc35 mFa) (hc36 mFr) (hc37 mFo) (hc38 mRt) (hc39 mRm) (hc40 mTt) (hc41 mTi) (hc42 mPl) (hc43 mVr) (hc44 mVf) (hc45 mVc) (hc46 mAr) (hc47 mTc) (hc48 mFt) (hc49 mGo) dyn)) (k7 : (w.toInt < 0 ∨ 6 < w.toInt) → Q (some (.int (-1))) (hq g c1 c2 c3 c4 c5 c6 c7 c8 c9 c10 c11 c12 c13 c14 c15 c16 c17 c18 c19 c20 c21 c22 c23 c24 (hc25 mTy mTm mMn mFn mRn mTn mVn mLr mTr mFl mFm mFp mSc mMp mEn) (hc26 mPa) (hc27 mTo) (hc28 mOt) (hc29 mNa) (hc30 mRe) (hc31 mMa) (hc32 mMy) (hc33 mPm) (hc34 mFy) (hc35 mFa) (hc36 mFr) (hc37 mFo) (hc38 mRt) (hc39 mRm) (hc40 mTt) (hc41 mTi) (hc42 mPl) (hc43 mVr) (hc44 mVf) (hc45 mVc) (hc46 mAr) (hc47 mTc) (hc48 mFt) (hc49 mGo) dyn)) : pm_WP 188 (0, [(0, .ref 25), (1, .int w)], [], hq g c1 c2 c3 c4 c5 c6 c7 c8 c9 c10 c11 c12 c13 c14 c15 c16 c17 c18 c19 c20 c21 c22 c23 c24 (hc25 mTy mTm mMn mFn mRn mTn mVn mLr mTr mFl mFm mFp mSc mMp mEn) (hc26 mPa) (hc27 mTo) (hc28 mOt) (hc29 mNa) (hc30 mRe) (hc31 mMa) (hc32 mMy) (hc33 mPm) (hc34 mFy) (hc35 mFa) (hc36 mFr) (hc37 mFo) (hc38 mRt) (hc39 mRm) (hc40 mTt) (hc41 mTi) (hc42 mPl) (hc43 mVr) (hc44 mVf) (hc45 mVc) (hc46 mAr) (hc47 mTc) (hc48 mFt) (hc49 mGo) dyn, 0, 0) Q := by
  refine pm_go (g := (1, [(0, .ref 25), (1, .int w)], [.int w], hq g c1 c2 c3 c4 c5 c6 c7 c8 c9 c10 c11 c12 c13 c14 c15 c16 c17 c18 c19 c20 c21 c22 c23 c24 (hc25 mTy mTm mMn mFn mRn mTn mVn mLr mTr mFl mFm mFp mSc mMp mEn) (hc26 mPa) (hc27 mTo) (hc28 mOt) (hc29 mNa) (hc30 mRe) (hc31 mMa) (hc32 mMy) (hc33 mPm) (hc34 mFy) (hc35 mFa) (hc36 mFr) (hc37 mFo) (hc38 mRt) (hc39 mRm) (hc40 mTt) (hc41 mTi) (hc42 mPl) (hc43 mVr) (hc44 mVf) (hc45 mVc) (hc46 mAr) (hc47 mTc) (hc48 mFt) (hc49 mGo) dyn, 0, 0)) rfl ?_
  have h1 : (w).toInt = 0 ∨ (w).toInt = 1 ∨ (w).toInt = 2 ∨ (w).toInt = 3 ∨ (w).toInt = 4 ∨ (w).toInt = 5 ∨ (w).toInt = 6 ∨ ((w).toInt < 0 ∨ 6 < (w).toInt) := by omega
  rcases h1 with h1 | h1 | h1 | h1 | h1 | h1 | h1 | h1
  ·
    have h2 : w = 0 := xI (c := 0) (by decide) (by omega)
    refine pm_go (g := (44, [(0, .ref 25), (1, .int w)], [], hq g c1 c2 c3 c4 c5 c6 c7 c8 c9 c10 c11 c12 c13 c14 c15 c16 c17 c18 c19 c20 c21 c22 c23 c24 (hc25 mTy mTm mMn mFn mRn mTn mVn mLr mTr mFl mFm mFp mSc mMp mEn) (hc26 mPa) (hc27 mTo) (hc28 mOt) (hc29 mNa) (hc30 mRe) (hc31 mMa) (hc32 mMy) (hc33 mPm) (hc34 mFy) (hc35 mFa) (hc36 mFr) (hc37 mFo) (hc38 mRt) (hc39 mRm) (hc40 mTt) (hc41 mTi) (hc42 mPl) (hc43 mVr) (hc44 mVf) (hc45 mVc) (hc46 mAr) (hc47 mTc) (hc48 mFt) (hc49 mGo) dyn, 0, 0)) (by rw [h2]; rfl) ?_
    refine pm_go (g := (45, _, [.ref 25], _, 0, 0)) rfl ?_
    refine pm_go (g := (48, _, [.int mTy], _, 0, 0)) rfl ?_
    first | exact pm_ret rfl (k0 (by first | omega | assumption | (simp only [*]; done))) | exact pm_ret rfl (k1 (by first | omega | assumption | (simp only [*]; done))) | exact pm_ret rfl (k2 (by first | omega | assumption | (simp only [*]; done))) | exact pm_ret rfl (k3 (by first | omega | assumption | (simp only [*]; done))) | exact pm_ret rfl (k4 (by first | omega | assumption | (simp only [*]; done))) | exact pm_ret rfl (k5 (by first | omega | assumption | (simp only [*]; done))) | exact pm_ret rfl (k6 (by first | omega | assumption | (simp only [*]; done))) | exact pm_ret rfl (k7 (by first | omega | assumption | (simp only [*]; done)))
  ·
    have h3 : w = 1 := xI (c := 1) (by decide) (by omega)
    refine pm_go (g := (49, [(0, .ref 25), (1, .int w)], [], hq g c1 c2 c3 c4 c5 c6 c7 c8 c9 c10 c11 c12 c13 c14 c15 c16 c17 c18 c19 c20 c21 c22 c23 c24 (hc25 mTy mTm mMn mFn mRn mTn mVn mLr mTr mFl mFm mFp mSc mMp mEn) (hc26 mPa) (hc27 mTo) (hc28 mOt) (hc29 mNa) (hc30 mRe) (hc31 mMa) (hc32 mMy) (hc33 mPm) (hc34 mFy) (hc35 mFa) (hc36 mFr) (hc37 mFo) (hc38 mRt) (hc39 mRm) (hc40 mTt) (hc41 mTi) (hc42 mPl) (hc43 mVr) (hc44 mVf) (hc45 mVc) (hc46 mAr) (hc47 mTc) (hc48 mFt) (hc49 mGo) dyn, 0, 0)) (by rw [h3]; rfl) ?_
    refine pm_go (g := (50, _, [.ref 25], _, 0, 0)) rfl ?_
    refine pm_go (g := (53, _, [.int mMn], _, 0, 0)) rfl ?_
    first | exact pm_ret rfl (k0 (by first | omega | assumption | (simp only [*]; done))) | exact pm_ret rfl (k1 (by first | omega | assumption | (simp only [*]; done))) | exact pm_ret rfl (k2 (by first | omega | assumption | (simp only [*]; done))) | exact pm_ret rfl (k3 (by first | omega | assumption | (simp only [*]; done))) | exact pm_ret rfl (k4 (by first | omega | assumption | (simp only [*]; done))) | exact pm_ret rfl (k5 (by first | omega | assumption | (simp only [*]; done))) | exact pm_ret rfl (k6 (by first | omega | assumption | (simp only [*]; done))) | exact pm_ret rfl (k7 (by first | omega | assumption | (simp only [*]; done)))
  ·
    have h4 : w = 2 := xI (c := 2) (by decide) (by omega)
    refine pm_go (g := (54, [(0, .ref 25), (1, .int w)], [], hq g c1 c2 c3 c4 c5 c6 c7 c8 c9 c10 c11 c12 c13 c14 c15 c16 c17 c18 c19 c20 c21 c22 c23 c24 (hc25 mTy mTm mMn mFn mRn mTn mVn mLr mTr mFl mFm mFp mSc mMp mEn) (hc26 mPa) (hc27 mTo) (hc28 mOt) (hc29 mNa) (hc30 mRe) (hc31 mMa) (hc32 mMy) (hc33 mPm) (hc34 mFy) (hc35 mFa) (hc36 mFr) (hc37 mFo) (hc38 mRt) (hc39 mRm) (hc40 mTt) (hc41 mTi) (hc42 mPl) (hc43 mVr) (hc44 mVf) (hc45 mVc) (hc46 mAr) (hc47 mTc) (hc48 mFt) (hc49 mGo) dyn, 0, 0)) (by rw [h4]; rfl) ?_
    refine pm_go (g := (55, _, [.ref 25], _, 0, 0)) rfl ?_
    refine pm_go (g := (58, _, [.int mFn], _, 0, 0)) rfl ?_
    first | exact pm_ret rfl (k0 (by first | omega | assumption | (simp only [*]; done))) | exact pm_ret rfl (k1 (by first | omega | assumption | (simp only [*]; done))) | exact pm_ret rfl (k2 (by first | omega | assumption | (simp only [*]; done))) | exact pm_ret rfl (k3 (by first | omega | assumption | (simp only [*]; done))) | exact pm_ret rfl (k4 (by first | omega | assumption | (simp only [*]; done))) | exact pm_ret rfl (k5 (by first | omega | assumption | (simp only [*]; done))) | exact pm_ret rfl (k6 (by first | omega | assumption | (simp only [*]; done))) | exact pm_ret rfl (k7 (by first | omega | assumption | (simp only [*]; done)))
  ·
    have h5 : w = 3 := xI (c := 3) (by decide) (by omega)
    refine pm_go (g := (59, [(0, .ref 25), (1, .int w)], [], hq g c1 c2 c3 c4 c5 c6 c7 c8 c9 c10 c11 c12 c13 c14 c15 c16 c17 c18 c19 c20 c21 c22 c23 c24 (hc25 mTy mTm mMn mFn mRn mTn mVn mLr mTr mFl mFm mFp mSc mMp mEn) (hc26 mPa) (hc27 mTo) (hc28 mOt) (hc29 mNa) (hc30 mRe) (hc31 mMa) (hc32 mMy) (hc33 mPm) (hc34 mFy) (hc35 mFa) (hc36 mFr) (hc37 mFo) (hc38 mRt) (hc39 mRm) (hc40 mTt) (hc41 mTi) (hc42 mPl) (hc43 mVr) (hc44 mVf) (hc45 mVc) (hc46 mAr) (hc47 mTc) (hc48 mFt) (hc49 mGo) dyn, 0, 0)) (by rw [h5]; rfl) ?_
    refine pm_go (g := (60, _, [.ref 25], _, 0, 0)) rfl ?_
    refine pm_go (g := (63, _, [.int mRn], _, 0, 0)) rfl ?_
    first | exact pm_ret rfl (k0 (by first | omega | assumption | (simp only [*]; done))) | exact pm_ret rfl (k1 (by first | omega | assumption | (simp only [*]; done))) | exact pm_ret rfl (k2 (by first | omega | assumption | (simp only [*]; done))) | exact pm_ret rfl (k3 (by first | omega | assumption | (simp only [*]; done))) | exact pm_ret rfl (k4 (by first | omega | assumption | (simp only [*]; done))) | exact pm_ret rfl (k5 (by first | omega | assumption | (simp only [*]; done))) | exact pm_ret rfl (k6 (by first | omega | assumption | (simp only [*]; done))) | exact pm_ret rfl (k7 (by first | omega | assumption | (simp only [*]; done)))
  ·
    have h6 : w = 4 := xI (c := 4) (by decide) (by omega)
    refine pm_go (g := (64, [(0, .ref 25), (1, .int w)], [], hq g c1 c2 c3 c4 c5 c6 c7 c8 c9 c10 c11 c12 c13 c14 c15 c16 c17 c18 c19 c20 c21 c22 c23 c24 (hc25 mTy mTm mMn mFn mRn mTn mVn mLr mTr mFl mFm mFp mSc mMp mEn) (hc26 mPa) (hc27 mTo) (hc28 mOt) (hc29 mNa) (hc30 mRe) (hc31 mMa) (hc32 mMy) (hc33 mPm) (hc34 mFy) (hc35 mFa) (hc36 mFr) (hc37 mFo) (hc38 mRt) (hc39 mRm) (hc40 mTt) (hc41 mTi) (hc42 mPl) (hc43 mVr) (hc44 mVf) (hc45 mVc) (hc46 mAr) (hc47 mTc) (hc48 mFt) (hc49 mGo) dyn, 0, 0)) (by rw [h6]; rfl) ?_
    refine pm_go (g := (65, _, [.ref 25], _, 0, 0)) rfl ?_
    refine pm_go (g := (68, _, [.int mTn], _, 0, 0)) rfl ?_
    first | exact pm_ret rfl (k0 (by first | omega | assumption | (simp only [*]; done))) | exact pm_ret rfl (k1 (by first | omega | assumption | (simp only [*]; done))) | exact pm_ret rfl (k2 (by first | omega | assumption | (simp only [*]; done))) | exact pm_ret rfl (k3 (by first | omega | assumption | (simp only [*]; done))) | exact pm_ret rfl (k4 (by first | omega | assumption | (simp only [*]; done))) | exact pm_ret rfl (k5 (by first | omega | assumption | (simp only [*]; done))) | exact pm_ret rfl (k6 (by first | omega | assumption | (simp only [*]; done))) | exact pm_ret rfl (k7 (by first | omega | assumption | (simp only [*]; done)))
  ·
    have h7 : w = 5 := xI (c := 5) (by decide) (by omega)
    refine pm_go (g := (69, [(0, .ref 25), (1, .int w)], [], hq g c1 c2 c3 c4 c5 c6 c7 c8 c9 c10 c11 c12 c13 c14 c15 c16 c17 c18 c19 c20 c21 c22 c23 c24 (hc25 mTy mTm mMn mFn mRn mTn mVn mLr mTr mFl mFm mFp mSc mMp mEn) (hc26 mPa) (hc27 mTo) (hc28 mOt) (hc29 mNa) (hc30 mRe) (hc31 mMa) (hc32 mMy) (hc33 mPm) (hc34 mFy) (hc35 mFa) (hc36 mFr) (hc37 mFo) (hc38 mRt) (hc39 mRm) (hc40 mTt) (hc41 mTi) (hc42 mPl) (hc43 mVr) (hc44 mVf) (hc45 mVc) (hc46 mAr) (hc47 mTc) (hc48 mFt) (hc49 mGo) dyn, 0, 0)) (by rw [h7]; rfl) ?_
    refine pm_go (g := (70, _, [.ref 25], _, 0, 0)) rfl ?_
    refine pm_go (g := (73, _, [.int mVn], _, 0, 0)) rfl ?_
    first | exact pm_ret rfl (k0 (by first | omega | assumption | (simp only [*]; done))) | exact pm_ret rfl (k1 (by first | omega | assumption | (simp only [*]; done))) | exact pm_ret rfl (k2 (by first | omega | assumption | (simp only [*]; done))) | exact pm_ret rfl (k3 (by first | omega | assumption | (simp only [*]; done))) | exact pm_ret rfl (k4 (by first | omega | assumption | (simp only [*]; done))) | exact pm_ret rfl (k5 (by first | omega | assumption | (simp only [*]; done))) | exact pm_ret rfl (k6 (by first | omega | assumption | (simp only [*]; done))) | exact pm_ret rfl (k7 (by first | omega | assumption | (simp only [*]; done)))
  ·
    have h8 : w = 6 := xI (c := 6) (by decide) (by omega)
    refine pm_go (g := (74, [(0, .ref 25), (1, .int w)], [], hq g c1 c2 c3 c4 c5 c6 c7 c8 c9 c10 c11 c12 c13 c14 c15 c16 c17 c18 c19 c20 c21 c22 c23 c24 (hc25 mTy mTm mMn mFn mRn mTn mVn mLr mTr mFl mFm mFp mSc mMp mEn) (hc26 mPa) (hc27 mTo) (hc28 mOt) (hc29 mNa) (hc30 mRe) (hc31 mMa) (hc32 mMy) (hc33 mPm) (hc34 mFy) (hc35 mFa) (hc36 mFr) (hc37 mFo) (hc38 mRt) (hc39 mRm) (hc40 mTt) (hc41 mTi) (hc42 mPl) (hc43 mVr) (hc44 mVf) (hc45 mVc) (hc46 mAr) (hc47 mTc) (hc48 mFt) (hc49 mGo) dyn, 0, 0)) (by rw [h8]; rfl) ?_
    refine pm_go (g := (75, _, [.ref 25], _, 0, 0)) rfl ?_
    refine pm_go (g := (78, _, [.int mFl], _, 0, 0)) rfl ?_
    first | exact pm_ret rfl (k0 (by first | omega | assumption | (simp only [*]; done))) | exact pm_ret rfl (k1 (by first | omega | assumption | (simp only [*]; done))) | exact pm_ret rfl (k2 (by first | omega | assumption | (simp only [*]; done))) | exact pm_ret rfl (k3 (by first | omega | assumption | (simp only [*]; done))) | exact pm_ret rfl (k4 (by first | omega | assumption | (simp only [*]; done))) | exact pm_ret rfl (k5 (by first | omega | assumption | (simp only [*]; done))) | exact pm_ret rfl (k6 (by first | omega | assumption | (simp only [*]; done))) | exact pm_ret rfl (k7 (by first | omega | assumption | (simp only [*]; done)))
  refine pm_goE (g := (79, [(0, .ref 25), (1, .int w)], [], hq g c1 c2 c3 c4 c5 c6 c7 c8 c9 c10 c11 c12 c13 c14 c15 c16 c17 c18 c19 c20 c21 c22 c23 c24 (hc25 mTy mTm mMn mFn mRn mTn mVn mLr mTr mFl mFm mFp mSc mMp mEn) (hc26 mPa) (hc27 mTo) (hc28 mOt) (hc29 mNa) (hc30 mRe) (hc31 mMa) (hc32 mMy) (hc33 mPm) (hc34 mFy) (hc35 mFa) (hc36 mFr) (hc37 mFo) (hc38 mRt) (hc39 mRm) (hc40 mTt) (hc41 mTi) (hc42 mPl) (hc43 mVr) (hc44 mVf) (hc45 mVc) (hc46 mAr) (hc47 mTc) (hc48 mFt) (hc49 mGo) dyn, 0, 0)) (pm_swO (by decide) rfl (by omega)) ?_
  refine pm_go (g := (80, _, [.int (-1)], _, 0, 0)) rfl ?_
  first | exact pm_ret rfl (k0 (by first | omega | assumption | (simp only [*]; done))) | exact pm_ret rfl (k1 (by first | omega | assumption | (simp only [*]; done))) | exact pm_ret rfl (k2 (by first | omega | assumption | (simp only [*]; done))) | exact pm_ret rfl (k3 (by first | omega | assumption | (simp only [*]; done))) | exact pm_ret rfl (k4 (by first | omega | assumption | (simp only [*]; done))) | exact pm_ret rfl (k5 (by first | omega | assumption | (simp only [*]; done))) | exact pm_ret rfl (k6 (by first | omega | assumption | (simp only [*]; done))) | exact pm_ret rfl (k7 (by first | omega | assumption | (simp only [*]; done)))
set_option maxRecDepth 100000 in
set_option maxHeartbeats 4000000 in
theorem w_X12_of {g c1 c2 c3 c4 c5 c6 c7 c8 c9 c10 c11 c12 c13 c14 c15 c16 c17 c18 c19 c20 c21 c22 c23 c24 : pm_C} {dyn : pm_H} {mTy : Int32} {mPa : Nat → Int32} {mTo : Nat → Int32} {mTm : Int32} {mMn : Int32} {mOt : Nat → Int32} {mNa : Nat → Int32} {mRe : Nat → Int32} {mMa : Nat → Int32} {mMy : Nat → Int32} {mPm : Nat → Int32} {mFn : Int32} {mFy : Nat → Int32} {mFa : Nat → Int32} {mFr : Nat → Int32} {mRn : Int32} {mFo : Nat → Int32} {mRt : Nat → Int32} {mRm : Nat → Int32} {mTn : Int32} {mTt : Nat → Int32} {mTi : Nat → Int32} {mPl : Nat → Int32} {mVn : Int32} {mVr : Nat → Int32} {mVf : Nat → Int32} {mVc : Nat → Int32} {mAr : Nat → Int32} {mLr : Int32} {mTc : Nat → Int32} {mTr : Int32} {mFl : Int32} {mFt : Nat → Int32} {mFm : Int32} {mFp : Int32} {mSc : Int32} {mMp : Int32} {mEn : Int32} {mGo : Nat → Int32} {Q : pm_Q} (t : Int32) (w : Int32) (p0 : 0 ≤ mTn.toInt ∧ mTn.toInt ≤ 60) (k0 : (t.toInt < 1 ∨ mTn.toInt < t.toInt ∨ w.toInt < 0 ∨ 1 < w.toInt) → Q (some (.int (-1))) (hq g c1 c2 c3 c4 c5 c6 c7 c8 c9 c10 c11 c12 c13 c14 c15 c16 c17 c18 c19 c20 c21 c22 c23 c24 (hc25 mTy mTm mMn mFn mRn mTn mVn mLr mTr mFl mFm mFp mSc mMp mEn) (hc26 mPa) (hc27 mTo) (hc28 mOt) (hc29 mNa) (hc30 mRe) (hc31 mMa) (hc32 mMy) (hc33 mPm) (hc34 mFy) (hc35 mFa) (hc36 mFr) (hc37 mFo) (hc38 mRt) (hc39 mRm) (hc40 mTt) (hc41 mTi) (hc42 mPl) (hc43 mVr) (hc44 mVf) (hc45 mVc) (hc46 mAr) (hc47 mTc) (hc48 mFt) (hc49 mGo) dyn)) (k1 : (1 ≤ t.toInt ∧ t.toInt ≤ mTn.toInt) ∧ w.toInt = 0 → Q (some (.int (mTt t.toNatClampNeg))) (hq g c1 c2 c3 c4 c5 c6 c7 c8 c9 c10 c11 c12 c13 c14 c15 c16 c17 c18 c19 c20 c21 c22 c23 c24 (hc25 mTy mTm mMn mFn mRn mTn mVn mLr mTr mFl mFm mFp mSc mMp mEn) (hc26 mPa) (hc27 mTo) (hc28 mOt) (hc29 mNa) (hc30 mRe) (hc31 mMa) (hc32 mMy) (hc33 mPm) (hc34 mFy) (hc35 mFa) (hc36 mFr) (hc37 mFo) (hc38 mRt) (hc39 mRm) (hc40 mTt) (hc41 mTi) (hc42 mPl) (hc43 mVr) (hc44 mVf) (hc45 mVc) (hc46 mAr) (hc47 mTc) (hc48 mFt) (hc49 mGo) dyn)) (k2 : (1 ≤ t.toInt ∧ t.toInt ≤ mTn.toInt) ∧ w.toInt = 1 → Q (some (.int (mTi t.toNatClampNeg))) (hq g c1 c2 c3 c4 c5 c6 c7 c8 c9 c10 c11 c12 c13 c14 c15 c16 c17 c18 c19 c20 c21 c22 c23 c24 (hc25 mTy mTm mMn mFn mRn mTn mVn mLr mTr mFl mFm mFp mSc mMp mEn) (hc26 mPa) (hc27 mTo) (hc28 mOt) (hc29 mNa) (hc30 mRe) (hc31 mMa) (hc32 mMy) (hc33 mPm) (hc34 mFy) (hc35 mFa) (hc36 mFr) (hc37 mFo) (hc38 mRt) (hc39 mRm) (hc40 mTt) (hc41 mTi) (hc42 mPl) (hc43 mVr) (hc44 mVf) (hc45 mVc) (hc46 mAr) (hc47 mTc) (hc48 mFt) (hc49 mGo) dyn)) : pm_WP 173 (0, [(0, .ref 25), (1, .int t), (2, .int w)], [], hq g c1 c2 c3 c4 c5 c6 c7 c8 c9 c10 c11 c12 c13 c14 c15 c16 c17 c18 c19 c20 c21 c22 c23 c24 (hc25 mTy mTm mMn mFn mRn mTn mVn mLr mTr mFl mFm mFp mSc mMp mEn) (hc26 mPa) (hc27 mTo) (hc28 mOt) (hc29 mNa) (hc30 mRe) (hc31 mMa) (hc32 mMy) (hc33 mPm) (hc34 mFy) (hc35 mFa) (hc36 mFr) (hc37 mFo) (hc38 mRt) (hc39 mRm) (hc40 mTt) (hc41 mTi) (hc42 mPl) (hc43 mVr) (hc44 mVf) (hc45 mVc) (hc46 mAr) (hc47 mTc) (hc48 mFt) (hc49 mGo) dyn, 0, 0) Q := by
  refine pm_go (g := (1, [(0, .ref 25), (1, .int t), (2, .int w)], [.ref 25], hq g c1 c2 c3 c4 c5 c6 c7 c8 c9 c10 c11 c12 c13 c14 c15 c16 c17 c18 c19 c20 c21 c22 c23 c24 (hc25 mTy mTm mMn mFn mRn mTn mVn mLr mTr mFl mFm mFp mSc mMp mEn) (hc26 mPa) (hc27 mTo) (hc28 mOt) (hc29 mNa) (hc30 mRe) (hc31 mMa) (hc32 mMy) (hc33 mPm) (hc34 mFy) (hc35 mFa) (hc36 mFr) (hc37 mFo) (hc38 mRt) (hc39 mRm) (hc40 mTt) (hc41 mTi) (hc42 mPl) (hc43 mVr) (hc44 mVf) (hc45 mVc) (hc46 mAr) (hc47 mTc) (hc48 mFt) (hc49 mGo) dyn, 0, 0)) rfl ?_
  refine pm_go (g := (2, _, [.int t, .ref 25], _, 0, 0)) rfl ?_
  refine pm_callD (z := 170) (as := [.ref 25, .int t]) (rest := []) rfl ?_
  refine w_X12_isThing t (fun h1 => ?_) (fun h2 => ?_)
  ·
    show pm_WP 173 (5, [(0, .ref 25), (1, .int t), (2, .int w)], [.int 1], _, 0, 0) _
    refine pm_brF (h := (8, [(0, .ref 25), (1, .int t), (2, .int w)], [], hq g c1 c2 c3 c4 c5 c6 c7 c8 c9 c10 c11 c12 c13 c14 c15 c16 c17 c18 c19 c20 c21 c22 c23 c24 (hc25 mTy mTm mMn mFn mRn mTn mVn mLr mTr mFl mFm mFp mSc mMp mEn) (hc26 mPa) (hc27 mTo) (hc28 mOt) (hc29 mNa) (hc30 mRe) (hc31 mMa) (hc32 mMy) (hc33 mPm) (hc34 mFy) (hc35 mFa) (hc36 mFr) (hc37 mFo) (hc38 mRt) (hc39 mRm) (hc40 mTt) (hc41 mTi) (hc42 mPl) (hc43 mVr) (hc44 mVf) (hc45 mVc) (hc46 mAr) (hc47 mTc) (hc48 mFt) (hc49 mGo) dyn, 0, 0)) rfl ?_
    refine pm_go (g := (9, _, [.int w], _, 0, 0)) rfl ?_
    refine pm_go (g := (10, _, [.int 0, .int w], _, 0, 0)) rfl ?_
    refine pm_go (g := (11, _, [.int 1, .int 0, .int w], _, 0, 0)) rfl ?_
    refine pm_callD (z := 128) (as := [.int w, .int 0, .int 1]) (rest := []) rfl ?_
    have h4 : (0 : Int32).toInt = 0 := by decide
    have h5 : (1 : Int32).toInt = 1 := by decide
    refine w_X12_isIn w 0 1 (fun h6 => ?_) (fun h7 => ?_)
    ·
      show pm_WP 173 (14, [(0, .ref 25), (1, .int t), (2, .int w)], [.int 1], _, 0, 0) _
      refine pm_brT (g := (19, [(0, .ref 25), (1, .int t), (2, .int w)], [], hq g c1 c2 c3 c4 c5 c6 c7 c8 c9 c10 c11 c12 c13 c14 c15 c16 c17 c18 c19 c20 c21 c22 c23 c24 (hc25 mTy mTm mMn mFn mRn mTn mVn mLr mTr mFl mFm mFp mSc mMp mEn) (hc26 mPa) (hc27 mTo) (hc28 mOt) (hc29 mNa) (hc30 mRe) (hc31 mMa) (hc32 mMy) (hc33 mPm) (hc34 mFy) (hc35 mFa) (hc36 mFr) (hc37 mFo) (hc38 mRt) (hc39 mRm) (hc40 mTt) (hc41 mTi) (hc42 mPl) (hc43 mVr) (hc44 mVf) (hc45 mVc) (hc46 mAr) (hc47 mTc) (hc48 mFt) (hc49 mGo) dyn, 0, 0)) rfl ?_
      refine pm_go (g := (20, _, [.int w], _, 0, 0)) rfl ?_
      refine pm_if2 (g := (32, [(0, .ref 25), (1, .int t), (2, .int w)], [], hq g c1 c2 c3 c4 c5 c6 c7 c8 c9 c10 c11 c12 c13 c14 c15 c16 c17 c18 c19 c20 c21 c22 c23 c24 (hc25 mTy mTm mMn mFn mRn mTn mVn mLr mTr mFl mFm mFp mSc mMp mEn) (hc26 mPa) (hc27 mTo) (hc28 mOt) (hc29 mNa) (hc30 mRe) (hc31 mMa) (hc32 mMy) (hc33 mPm) (hc34 mFy) (hc35 mFa) (hc36 mFr) (hc37 mFo) (hc38 mRt) (hc39 mRm) (hc40 mTt) (hc41 mTi) (hc42 mPl) (hc43 mVr) (hc44 mVf) (hc45 mVc) (hc46 mAr) (hc47 mTc) (hc48 mFt) (hc49 mGo) dyn, 0, 0)) (h := (23, [(0, .ref 25), (1, .int t), (2, .int w)], [], hq g c1 c2 c3 c4 c5 c6 c7 c8 c9 c10 c11 c12 c13 c14 c15 c16 c17 c18 c19 c20 c21 c22 c23 c24 (hc25 mTy mTm mMn mFn mRn mTn mVn mLr mTr mFl mFm mFp mSc mMp mEn) (hc26 mPa) (hc27 mTo) (hc28 mOt) (hc29 mNa) (hc30 mRe) (hc31 mMa) (hc32 mMy) (hc33 mPm) (hc34 mFy) (hc35 mFa) (hc36 mFr) (hc37 mFo) (hc38 mRt) (hc39 mRm) (hc40 mTt) (hc41 mTi) (hc42 mPl) (hc43 mVr) (hc44 mVf) (hc45 mVc) (hc46 mAr) (hc47 mTc) (hc48 mFt) (hc49 mGo) dyn, 0, 0)) rfl (fun h9 => ?_) (fun h9 => ?_)
      ·
        have h9 := qT_ne (cx := (w).toInt) (cy := 0) rfl (by decide) h9
        refine pm_go (g := (33, _, [.ref 25], _, 0, 0)) rfl ?_
        refine pm_go (g := (36, _, [.ref 41], _, 0, 0)) rfl ?_
        refine pm_go (g := (37, _, [.int t, .ref 41], _, 0, 0)) rfl ?_
        refine pm_sd (g := (38, _, [.int (mTi (t).toNatClampNeg)], _, 0, 0)) rfl (pm_inI (by omega) (by omega)) ?_
        first | exact pm_ret rfl (k0 (by first | omega | assumption | (simp only [*]; done))) | exact pm_ret rfl (k1 (by first | omega | assumption | (simp only [*]; done))) | exact pm_ret rfl (k2 (by first | omega | assumption | (simp only [*]; done)))
      have h9 := qF_ne (cx := (w).toInt) (cy := 0) rfl (by decide) h9
      refine pm_go (g := (24, _, [.ref 25], _, 0, 0)) rfl ?_
      refine pm_go (g := (27, _, [.ref 40], _, 0, 0)) rfl ?_
      refine pm_go (g := (28, _, [.int t, .ref 40], _, 0, 0)) rfl ?_
      refine pm_sd (g := (29, _, [.int (mTt (t).toNatClampNeg)], _, 0, 0)) rfl (pm_inI (by omega) (by omega)) ?_
      refine pm_go (g := (38, _, [.int (mTt (t).toNatClampNeg)], _, 0, 0)) rfl ?_
      first | exact pm_ret rfl (k0 (by first | omega | assumption | (simp only [*]; done))) | exact pm_ret rfl (k1 (by first | omega | assumption | (simp only [*]; done))) | exact pm_ret rfl (k2 (by first | omega | assumption | (simp only [*]; done)))
    show pm_WP 173 (14, [(0, .ref 25), (1, .int t), (2, .int w)], [.int 0], hq g c1 c2 c3 c4 c5 c6 c7 c8 c9 c10 c11 c12 c13 c14 c15 c16 c17 c18 c19 c20 c21 c22 c23 c24 (hc25 mTy mTm mMn mFn mRn mTn mVn mLr mTr mFl mFm mFp mSc mMp mEn) (hc26 mPa) (hc27 mTo) (hc28 mOt) (hc29 mNa) (hc30 mRe) (hc31 mMa) (hc32 mMy) (hc33 mPm) (hc34 mFy) (hc35 mFa) (hc36 mFr) (hc37 mFo) (hc38 mRt) (hc39 mRm) (hc40 mTt) (hc41 mTi) (hc42 mPl) (hc43 mVr) (hc44 mVf) (hc45 mVc) (hc46 mAr) (hc47 mTc) (hc48 mFt) (hc49 mGo) dyn, 0, 0) _
    refine pm_brF (h := (17, [(0, .ref 25), (1, .int t), (2, .int w)], [], hq g c1 c2 c3 c4 c5 c6 c7 c8 c9 c10 c11 c12 c13 c14 c15 c16 c17 c18 c19 c20 c21 c22 c23 c24 (hc25 mTy mTm mMn mFn mRn mTn mVn mLr mTr mFl mFm mFp mSc mMp mEn) (hc26 mPa) (hc27 mTo) (hc28 mOt) (hc29 mNa) (hc30 mRe) (hc31 mMa) (hc32 mMy) (hc33 mPm) (hc34 mFy) (hc35 mFa) (hc36 mFr) (hc37 mFo) (hc38 mRt) (hc39 mRm) (hc40 mTt) (hc41 mTi) (hc42 mPl) (hc43 mVr) (hc44 mVf) (hc45 mVc) (hc46 mAr) (hc47 mTc) (hc48 mFt) (hc49 mGo) dyn, 0, 0)) rfl ?_
    refine pm_go (g := (18, _, [.int (-1)], _, 0, 0)) rfl ?_
    first | exact pm_ret rfl (k0 (by first | omega | assumption | (simp only [*]; done))) | exact pm_ret rfl (k1 (by first | omega | assumption | (simp only [*]; done))) | exact pm_ret rfl (k2 (by first | omega | assumption | (simp only [*]; done)))
  show pm_WP 173 (5, [(0, .ref 25), (1, .int t), (2, .int w)], [.int 0], hq g c1 c2 c3 c4 c5 c6 c7 c8 c9 c10 c11 c12 c13 c14 c15 c16 c17 c18 c19 c20 c21 c22 c23 c24 (hc25 mTy mTm mMn mFn mRn mTn mVn mLr mTr mFl mFm mFp mSc mMp mEn) (hc26 mPa) (hc27 mTo) (hc28 mOt) (hc29 mNa) (hc30 mRe) (hc31 mMa) (hc32 mMy) (hc33 mPm) (hc34 mFy) (hc35 mFa) (hc36 mFr) (hc37 mFo) (hc38 mRt) (hc39 mRm) (hc40 mTt) (hc41 mTi) (hc42 mPl) (hc43 mVr) (hc44 mVf) (hc45 mVc) (hc46 mAr) (hc47 mTc) (hc48 mFt) (hc49 mGo) dyn, 0, 0) _
  refine pm_brT (g := (17, [(0, .ref 25), (1, .int t), (2, .int w)], [], hq g c1 c2 c3 c4 c5 c6 c7 c8 c9 c10 c11 c12 c13 c14 c15 c16 c17 c18 c19 c20 c21 c22 c23 c24 (hc25 mTy mTm mMn mFn mRn mTn mVn mLr mTr mFl mFm mFp mSc mMp mEn) (hc26 mPa) (hc27 mTo) (hc28 mOt) (hc29 mNa) (hc30 mRe) (hc31 mMa) (hc32 mMy) (hc33 mPm) (hc34 mFy) (hc35 mFa) (hc36 mFr) (hc37 mFo) (hc38 mRt) (hc39 mRm) (hc40 mTt) (hc41 mTi) (hc42 mPl) (hc43 mVr) (hc44 mVf) (hc45 mVc) (hc46 mAr) (hc47 mTc) (hc48 mFt) (hc49 mGo) dyn, 0, 0)) rfl ?_
  refine pm_go (g := (18, _, [.int (-1)], _, 0, 0)) rfl ?_
  first | exact pm_ret rfl (k0 (by first | omega | assumption | (simp only [*]; done))) | exact pm_ret rfl (k1 (by first | omega | assumption | (simp only [*]; done))) | exact pm_ret rfl (k2 (by first | omega | assumption | (simp only [*]; done)))
end
section
/-- the reference's way up from x: is y met -/
def uR (f : Nat → Int32) : Nat → Int32 → Int32 → Bool
  | 0, x, y => decide (x = y)
  | n + 1, x, y => if x = y then true else if 0 ≤ x.toInt ∧ x.toInt ≤ 9 then uR f n (f x.toNatClampNeg) y else false
theorem uR_eq {f : Nat → Int32} {n : Nat} {x y : Int32} (h : x.toInt = y.toInt) : uR f n x y = true := by
  have e := Int32.toInt_inj.mp h
  subst e
  cases n <;> simp [uR]
theorem uR_out {f : Nat → Int32} {n : Nat} {x y : Int32} (h : x.toInt ≠ y.toInt) (h2 : x.toInt < 0 ∨ 9 < x.toInt) : uR f n x y = false := by
  have e : ¬ x = y := fun q => h (by rw [q])
  cases n with
  | zero => simp [uR, e]
  | succ n =>
    unfold uR
    rw [if_neg e, if_neg (by omega)]
theorem uR_step {f : Nat → Int32} {n : Nat} {x y : Int32} (h : x.toInt ≠ y.toInt) (h1 : 0 ≤ x.toInt) (h2 : x.toInt ≤ 9) : uR f (n + 1) x y = uR f n (f x.toNatClampNeg) y := by
  have e : ¬ x = y := fun q => h (by rw [q])
  show (if x = y then true else if 0 ≤ x.toInt ∧ x.toInt ≤ 9 then uR f n (f x.toNatClampNeg) y else false) = _
  rw [if_neg e, if_pos ⟨h1, h2⟩]
theorem xN {x : Int32} (h : 0 ≤ x.toInt) : (x.toNatClampNeg : Int) = x.toInt := Int.toNat_of_nonneg h
/-- the parents lie below -/
def paD (f : Nat → Int32) : Prop := ∀ k : Nat, k ≤ 9 → (f k).toInt < k
set_option maxRecDepth 100000 in
set_option maxHeartbeats 4000000 in
theorem w_isUnder_loop {g c1 c2 c3 c4 c5 c6 c7 c8 c9 c10 c11 c12 c13 c14 c15 c16 c17 c18 c19 c20 c21 c22 c23 c24 : pm_C} {dyn : pm_H} {mTy : Int32} {mPa : Nat → Int32} {mTo : Nat → Int32} {mTm : Int32} {mMn : Int32} {mOt : Nat → Int32} {mNa : Nat → Int32} {mRe : Nat → Int32} {mMa : Nat → Int32} {mMy : Nat → Int32} {mPm : Nat → Int32} {mFn : Int32} {mFy : Nat → Int32} {mFa : Nat → Int32} {mFr : Nat → Int32} {mRn : Int32} {mFo : Nat → Int32} {mRt : Nat → Int32} {mRm : Nat → Int32} {mTn : Int32} {mTt : Nat → Int32} {mTi : Nat → Int32} {mPl : Nat → Int32} {mVn : Int32} {mVr : Nat → Int32} {mVf : Nat → Int32} {mVc : Nat → Int32} {mAr : Nat → Int32} {mLr : Int32} {mTc : Nat → Int32} {mTr : Int32} {mFl : Int32} {mFt : Nat → Int32} {mFm : Int32} {mFp : Int32} {mSc : Int32} {mMp : Int32} {mEn : Int32} {mGo : Nat → Int32} {Q : pm_Q} (a b : Int32) (hd : paD mPa) : ∀ (n : Nat) (x y : Int32), (x.toInt < n ∨ 9 < x.toInt) → (uR mPa n x y = true → Q (some (.int 1)) (hq g c1 c2 c3 c4 c5 c6 c7 c8 c9 c10 c11 c12 c13 c14 c15 c16 c17 c18 c19 c20 c21 c22 c23 c24 (hc25 mTy mTm mMn mFn mRn mTn mVn mLr mTr mFl mFm mFp mSc mMp mEn) (hc26 mPa) (hc27 mTo) (hc28 mOt) (hc29 mNa) (hc30 mRe) (hc31 mMa) (hc32 mMy) (hc33 mPm) (hc34 mFy) (hc35 mFa) (hc36 mFr) (hc37 mFo) (hc38 mRt) (hc39 mRm) (hc40 mTt) (hc41 mTi) (hc42 mPl) (hc43 mVr) (hc44 mVf) (hc45 mVc) (hc46 mAr) (hc47 mTc) (hc48 mFt) (hc49 mGo) dyn)) → (uR mPa n x y = false → Q (some (.int 0)) (hq g c1 c2 c3 c4 c5 c6 c7 c8 c9 c10 c11 c12 c13 c14 c15 c16 c17 c18 c19 c20 c21 c22 c23 c24 (hc25 mTy mTm mMn mFn mRn mTn mVn mLr mTr mFl mFm mFp mSc mMp mEn) (hc26 mPa) (hc27 mTo) (hc28 mOt) (hc29 mNa) (hc30 mRe) (hc31 mMa) (hc32 mMy) (hc33 mPm) (hc34 mFy) (hc35 mFa) (hc36 mFr) (hc37 mFo) (hc38 mRt) (hc39 mRm) (hc40 mTt) (hc41 mTi) (hc42 mPl) (hc43 mVr) (hc44 mVf) (hc45 mVc) (hc46 mAr) (hc47 mTc) (hc48 mFt) (hc49 mGo) dyn)) → pm_WP 132 (47, [(3, .int x), (4, .int y), (0, .ref 25), (1, .int a), (2, .int b)], [], hq g c1 c2 c3 c4 c5 c6 c7 c8 c9 c10 c11 c12 c13 c14 c15 c16 c17 c18 c19 c20 c21 c22 c23 c24 (hc25 mTy mTm mMn mFn mRn mTn mVn mLr mTr mFl mFm mFp mSc mMp mEn) (hc26 mPa) (hc27 mTo) (hc28 mOt) (hc29 mNa) (hc30 mRe) (hc31 mMa) (hc32 mMy) (hc33 mPm) (hc34 mFy) (hc35 mFa) (hc36 mFr) (hc37 mFo) (hc38 mRt) (hc39 mRm) (hc40 mTt) (hc41 mTi) (hc42 mPl) (hc43 mVr) (hc44 mVf) (hc45 mVc) (hc46 mAr) (hc47 mTc) (hc48 mFt) (hc49 mGo) dyn, 0, 0) Q := by
  intro n
  induction n with
  | zero =>
    intro x y hn kT kF
    refine pm_go (g := (48, [(3, .int x), (4, .int y), (0, .ref 25), (1, .int a), (2, .int b)], [.int x], hq g c1 c2 c3 c4 c5 c6 c7 c8 c9 c10 c11 c12 c13 c14 c15 c16 c17 c18 c19 c20 c21 c22 c23 c24 (hc25 mTy mTm mMn mFn mRn mTn mVn mLr mTr mFl mFm mFp mSc mMp mEn) (hc26 mPa) (hc27 mTo) (hc28 mOt) (hc29 mNa) (hc30 mRe) (hc31 mMa) (hc32 mMy) (hc33 mPm) (hc34 mFy) (hc35 mFa) (hc36 mFr) (hc37 mFo) (hc38 mRt) (hc39 mRm) (hc40 mTt) (hc41 mTi) (hc42 mPl) (hc43 mVr) (hc44 mVf) (hc45 mVc) (hc46 mAr) (hc47 mTc) (hc48 mFt) (hc49 mGo) dyn, 0, 0)) rfl ?_
    refine pm_go (g := (50, _, [.int y, .int x], _, 0, 0)) rfl ?_
    refine pm_if2 (g := (73, [(3, .int x), (4, .int y), (0, .ref 25), (1, .int a), (2, .int b)], [], hq g c1 c2 c3 c4 c5 c6 c7 c8 c9 c10 c11 c12 c13 c14 c15 c16 c17 c18 c19 c20 c21 c22 c23 c24 (hc25 mTy mTm mMn mFn mRn mTn mVn mLr mTr mFl mFm mFp mSc mMp mEn) (hc26 mPa) (hc27 mTo) (hc28 mOt) (hc29 mNa) (hc30 mRe) (hc31 mMa) (hc32 mMy) (hc33 mPm) (hc34 mFy) (hc35 mFa) (hc36 mFr) (hc37 mFo) (hc38 mRt) (hc39 mRm) (hc40 mTt) (hc41 mTi) (hc42 mPl) (hc43 mVr) (hc44 mVf) (hc45 mVc) (hc46 mAr) (hc47 mTc) (hc48 mFt) (hc49 mGo) dyn, 0, 0)) (h := (53, [(3, .int x), (4, .int y), (0, .ref 25), (1, .int a), (2, .int b)], [], hq g c1 c2 c3 c4 c5 c6 c7 c8 c9 c10 c11 c12 c13 c14 c15 c16 c17 c18 c19 c20 c21 c22 c23 c24 (hc25 mTy mTm mMn mFn mRn mTn mVn mLr mTr mFl mFm mFp mSc mMp mEn) (hc26 mPa) (hc27 mTo) (hc28 mOt) (hc29 mNa) (hc30 mRe) (hc31 mMa) (hc32 mMy) (hc33 mPm) (hc34 mFy) (hc35 mFa) (hc36 mFr) (hc37 mFo) (hc38 mRt) (hc39 mRm) (hc40 mTt) (hc41 mTi) (hc42 mPl) (hc43 mVr) (hc44 mVf) (hc45 mVc) (hc46 mAr) (hc47 mTc) (hc48 mFt) (hc49 mGo) dyn, 0, 0)) rfl (fun h1 => ?_) (fun h1 => ?_)
    ·
      have h1 := qT_eq (cx := (x).toInt) (cy := (y).toInt) rfl rfl h1
      refine pm_go (g := (74, _, [.int x], _, 0, 0)) rfl ?_
      refine pm_go (g := (76, _, [.int y, .int x], _, 0, 0)) rfl ?_
      refine pm_if2 (g := (83, [(3, .int x), (4, .int y), (0, .ref 25), (1, .int a), (2, .int b)], [], hq g c1 c2 c3 c4 c5 c6 c7 c8 c9 c10 c11 c12 c13 c14 c15 c16 c17 c18 c19 c20 c21 c22 c23 c24 (hc25 mTy mTm mMn mFn mRn mTn mVn mLr mTr mFl mFm mFp mSc mMp mEn) (hc26 mPa) (hc27 mTo) (hc28 mOt) (hc29 mNa) (hc30 mRe) (hc31 mMa) (hc32 mMy) (hc33 mPm) (hc34 mFy) (hc35 mFa) (hc36 mFr) (hc37 mFo) (hc38 mRt) (hc39 mRm) (hc40 mTt) (hc41 mTi) (hc42 mPl) (hc43 mVr) (hc44 mVf) (hc45 mVc) (hc46 mAr) (hc47 mTc) (hc48 mFt) (hc49 mGo) dyn, 0, 0)) (h := (79, [(3, .int x), (4, .int y), (0, .ref 25), (1, .int a), (2, .int b)], [], hq g c1 c2 c3 c4 c5 c6 c7 c8 c9 c10 c11 c12 c13 c14 c15 c16 c17 c18 c19 c20 c21 c22 c23 c24 (hc25 mTy mTm mMn mFn mRn mTn mVn mLr mTr mFl mFm mFp mSc mMp mEn) (hc26 mPa) (hc27 mTo) (hc28 mOt) (hc29 mNa) (hc30 mRe) (hc31 mMa) (hc32 mMy) (hc33 mPm) (hc34 mFy) (hc35 mFa) (hc36 mFr) (hc37 mFo) (hc38 mRt) (hc39 mRm) (hc40 mTt) (hc41 mTi) (hc42 mPl) (hc43 mVr) (hc44 mVf) (hc45 mVc) (hc46 mAr) (hc47 mTc) (hc48 mFt) (hc49 mGo) dyn, 0, 0)) rfl (fun h2 => ?_) (fun h2 => ?_)
      ·
        have h2 := qT_ne (cx := (x).toInt) (cy := (y).toInt) rfl rfl h2
        refine pm_go (g := (84, _, [.int 0], _, 0, 0)) rfl ?_
        exact pm_ret rfl (kF (uR_out (by omega) (by omega)))
      have h2 := qF_ne (cx := (x).toInt) (cy := (y).toInt) rfl rfl h2
      refine pm_go (g := (80, _, [.int 1], _, 0, 0)) rfl ?_
      refine pm_go (g := (84, _, [.int 1], _, 0, 0)) rfl ?_
      exact pm_ret rfl (kT (uR_eq (by omega)))
    have h1 := qF_eq (cx := (x).toInt) (cy := (y).toInt) rfl rfl h1
    refine pm_go (g := (54, _, [.int x], _, 0, 0)) rfl ?_
    refine pm_go (g := (55, _, [.int 0, .int x], _, 0, 0)) rfl ?_
    refine pm_go (g := (57, _, [.int 9, .int 0, .int x], _, 0, 0)) rfl ?_
    refine pm_callD (z := 128) (as := [.int x, .int 0, .int 9]) (rest := []) rfl ?_
    have h3 : (0 : Int32).toInt = 0 := by decide
    have h4 : (9 : Int32).toInt = 9 := by decide
    refine w_X12_isIn x 0 9 (fun h5 => ?_) (fun h6 => ?_)
    ·
      show pm_WP 132 (60, [(3, .int x), (4, .int y), (0, .ref 25), (1, .int a), (2, .int b)], [.int 1], _, 0, 0) _
      refine pm_brF (h := (63, [(3, .int x), (4, .int y), (0, .ref 25), (1, .int a), (2, .int b)], [], hq g c1 c2 c3 c4 c5 c6 c7 c8 c9 c10 c11 c12 c13 c14 c15 c16 c17 c18 c19 c20 c21 c22 c23 c24 (hc25 mTy mTm mMn mFn mRn mTn mVn mLr mTr mFl mFm mFp mSc mMp mEn) (hc26 mPa) (hc27 mTo) (hc28 mOt) (hc29 mNa) (hc30 mRe) (hc31 mMa) (hc32 mMy) (hc33 mPm) (hc34 mFy) (hc35 mFa) (hc36 mFr) (hc37 mFo) (hc38 mRt) (hc39 mRm) (hc40 mTt) (hc41 mTi) (hc42 mPl) (hc43 mVr) (hc44 mVf) (hc45 mVc) (hc46 mAr) (hc47 mTc) (hc48 mFt) (hc49 mGo) dyn, 0, 0)) rfl ?_
      refine pm_go (g := (64, _, [.ref 25], _, 0, 0)) rfl ?_
      refine pm_go (g := (67, _, [.ref 26], _, 0, 0)) rfl ?_
      refine pm_go (g := (68, _, [.int x, .ref 26], _, 0, 0)) rfl ?_
      refine pm_sd (g := (69, _, [.int (mPa (x).toNatClampNeg)], _, 0, 0)) rfl (pm_inI (by omega) (by omega)) ?_
      refine pm_go (g := (70, [(3, .int (mPa (x).toNatClampNeg)), (4, .int y), (0, .ref 25), (1, .int a), (2, .int b)], [], _, 0, 0)) rfl ?_
      refine pm_go (g := (47, _, [], _, 0, 0)) rfl ?_
      exfalso; omega
    show pm_WP 132 (60, [(3, .int x), (4, .int y), (0, .ref 25), (1, .int a), (2, .int b)], [.int 0], hq g c1 c2 c3 c4 c5 c6 c7 c8 c9 c10 c11 c12 c13 c14 c15 c16 c17 c18 c19 c20 c21 c22 c23 c24 (hc25 mTy mTm mMn mFn mRn mTn mVn mLr mTr mFl mFm mFp mSc mMp mEn) (hc26 mPa) (hc27 mTo) (hc28 mOt) (hc29 mNa) (hc30 mRe) (hc31 mMa) (hc32 mMy) (hc33 mPm) (hc34 mFy) (hc35 mFa) (hc36 mFr) (hc37 mFo) (hc38 mRt) (hc39 mRm) (hc40 mTt) (hc41 mTi) (hc42 mPl) (hc43 mVr) (hc44 mVf) (hc45 mVc) (hc46 mAr) (hc47 mTc) (hc48 mFt) (hc49 mGo) dyn, 0, 0) _
    refine pm_brT (g := (73, [(3, .int x), (4, .int y), (0, .ref 25), (1, .int a), (2, .int b)], [], hq g c1 c2 c3 c4 c5 c6 c7 c8 c9 c10 c11 c12 c13 c14 c15 c16 c17 c18 c19 c20 c21 c22 c23 c24 (hc25 mTy mTm mMn mFn mRn mTn mVn mLr mTr mFl mFm mFp mSc mMp mEn) (hc26 mPa) (hc27 mTo) (hc28 mOt) (hc29 mNa) (hc30 mRe) (hc31 mMa) (hc32 mMy) (hc33 mPm) (hc34 mFy) (hc35 mFa) (hc36 mFr) (hc37 mFo) (hc38 mRt) (hc39 mRm) (hc40 mTt) (hc41 mTi) (hc42 mPl) (hc43 mVr) (hc44 mVf) (hc45 mVc) (hc46 mAr) (hc47 mTc) (hc48 mFt) (hc49 mGo) dyn, 0, 0)) rfl ?_
    refine pm_go (g := (74, _, [.int x], _, 0, 0)) rfl ?_
    refine pm_go (g := (76, _, [.int y, .int x], _, 0, 0)) rfl ?_
    refine pm_if2 (g := (83, [(3, .int x), (4, .int y), (0, .ref 25), (1, .int a), (2, .int b)], [], hq g c1 c2 c3 c4 c5 c6 c7 c8 c9 c10 c11 c12 c13 c14 c15 c16 c17 c18 c19 c20 c21 c22 c23 c24 (hc25 mTy mTm mMn mFn mRn mTn mVn mLr mTr mFl mFm mFp mSc mMp mEn) (hc26 mPa) (hc27 mTo) (hc28 mOt) (hc29 mNa) (hc30 mRe) (hc31 mMa) (hc32 mMy) (hc33 mPm) (hc34 mFy) (hc35 mFa) (hc36 mFr) (hc37 mFo) (hc38 mRt) (hc39 mRm) (hc40 mTt) (hc41 mTi) (hc42 mPl) (hc43 mVr) (hc44 mVf) (hc45 mVc) (hc46 mAr) (hc47 mTc) (hc48 mFt) (hc49 mGo) dyn, 0, 0)) (h := (79, [(3, .int x), (4, .int y), (0, .ref 25), (1, .int a), (2, .int b)], [], hq g c1 c2 c3 c4 c5 c6 c7 c8 c9 c10 c11 c12 c13 c14 c15 c16 c17 c18 c19 c20 c21 c22 c23 c24 (hc25 mTy mTm mMn mFn mRn mTn mVn mLr mTr mFl mFm mFp mSc mMp mEn) (hc26 mPa) (hc27 mTo) (hc28 mOt) (hc29 mNa) (hc30 mRe) (hc31 mMa) (hc32 mMy) (hc33 mPm) (hc34 mFy) (hc35 mFa) (hc36 mFr) (hc37 mFo) (hc38 mRt) (hc39 mRm) (hc40 mTt) (hc41 mTi) (hc42 mPl) (hc43 mVr) (hc44 mVf) (hc45 mVc) (hc46 mAr) (hc47 mTc) (hc48 mFt) (hc49 mGo) dyn, 0, 0)) rfl (fun h8 => ?_) (fun h8 => ?_)
    ·
      have h8 := qT_ne (cx := (x).toInt) (cy := (y).toInt) rfl rfl h8
      refine pm_go (g := (84, _, [.int 0], _, 0, 0)) rfl ?_
      exact pm_ret rfl (kF (uR_out (by omega) (by omega)))
    have h8 := qF_ne (cx := (x).toInt) (cy := (y).toInt) rfl rfl h8
    refine pm_go (g := (80, _, [.int 1], _, 0, 0)) rfl ?_
    refine pm_go (g := (84, _, [.int 1], _, 0, 0)) rfl ?_
    exact pm_ret rfl (kT (uR_eq (by omega)))
  | succ n ih =>
    intro x y hn kT kF
    refine pm_go (g := (48, _, [.int x], _, 0, 0)) rfl ?_
    refine pm_go (g := (50, _, [.int y, .int x], _, 0, 0)) rfl ?_
    refine pm_if2 (g := (73, [(3, .int x), (4, .int y), (0, .ref 25), (1, .int a), (2, .int b)], [], hq g c1 c2 c3 c4 c5 c6 c7 c8 c9 c10 c11 c12 c13 c14 c15 c16 c17 c18 c19 c20 c21 c22 c23 c24 (hc25 mTy mTm mMn mFn mRn mTn mVn mLr mTr mFl mFm mFp mSc mMp mEn) (hc26 mPa) (hc27 mTo) (hc28 mOt) (hc29 mNa) (hc30 mRe) (hc31 mMa) (hc32 mMy) (hc33 mPm) (hc34 mFy) (hc35 mFa) (hc36 mFr) (hc37 mFo) (hc38 mRt) (hc39 mRm) (hc40 mTt) (hc41 mTi) (hc42 mPl) (hc43 mVr) (hc44 mVf) (hc45 mVc) (hc46 mAr) (hc47 mTc) (hc48 mFt) (hc49 mGo) dyn, 0, 0)) (h := (53, [(3, .int x), (4, .int y), (0, .ref 25), (1, .int a), (2, .int b)], [], hq g c1 c2 c3 c4 c5 c6 c7 c8 c9 c10 c11 c12 c13 c14 c15 c16 c17 c18 c19 c20 c21 c22 c23 c24 (hc25 mTy mTm mMn mFn mRn mTn mVn mLr mTr mFl mFm mFp mSc mMp mEn) (hc26 mPa) (hc27 mTo) (hc28 mOt) (hc29 mNa) (hc30 mRe) (hc31 mMa) (hc32 mMy) (hc33 mPm) (hc34 mFy) (hc35 mFa) (hc36 mFr) (hc37 mFo) (hc38 mRt) (hc39 mRm) (hc40 mTt) (hc41 mTi) (hc42 mPl) (hc43 mVr) (hc44 mVf) (hc45 mVc) (hc46 mAr) (hc47 mTc) (hc48 mFt) (hc49 mGo) dyn, 0, 0)) rfl (fun h9 => ?_) (fun h9 => ?_)
    ·
      have h9 := qT_eq (cx := (x).toInt) (cy := (y).toInt) rfl rfl h9
      refine pm_go (g := (74, _, [.int x], _, 0, 0)) rfl ?_
      refine pm_go (g := (76, _, [.int y, .int x], _, 0, 0)) rfl ?_
      refine pm_if2 (g := (83, [(3, .int x), (4, .int y), (0, .ref 25), (1, .int a), (2, .int b)], [], hq g c1 c2 c3 c4 c5 c6 c7 c8 c9 c10 c11 c12 c13 c14 c15 c16 c17 c18 c19 c20 c21 c22 c23 c24 (hc25 mTy mTm mMn mFn mRn mTn mVn mLr mTr mFl mFm mFp mSc mMp mEn) (hc26 mPa) (hc27 mTo) (hc28 mOt) (hc29 mNa) (hc30 mRe) (hc31 mMa) (hc32 mMy) (hc33 mPm) (hc34 mFy) (hc35 mFa) (hc36 mFr) (hc37 mFo) (hc38 mRt) (hc39 mRm) (hc40 mTt) (hc41 mTi) (hc42 mPl) (hc43 mVr) (hc44 mVf) (hc45 mVc) (hc46 mAr) (hc47 mTc) (hc48 mFt) (hc49 mGo) dyn, 0, 0)) (h := (79, [(3, .int x), (4, .int y), (0, .ref 25), (1, .int a), (2, .int b)], [], hq g c1 c2 c3 c4 c5 c6 c7 c8 c9 c10 c11 c12 c13 c14 c15 c16 c17 c18 c19 c20 c21 c22 c23 c24 (hc25 mTy mTm mMn mFn mRn mTn mVn mLr mTr mFl mFm mFp mSc mMp mEn) (hc26 mPa) (hc27 mTo) (hc28 mOt) (hc29 mNa) (hc30 mRe) (hc31 mMa) (hc32 mMy) (hc33 mPm) (hc34 mFy) (hc35 mFa) (hc36 mFr) (hc37 mFo) (hc38 mRt) (hc39 mRm) (hc40 mTt) (hc41 mTi) (hc42 mPl) (hc43 mVr) (hc44 mVf) (hc45 mVc) (hc46 mAr) (hc47 mTc) (hc48 mFt) (hc49 mGo) dyn, 0, 0)) rfl (fun h10 => ?_) (fun h10 => ?_)
      ·
        have h10 := qT_ne (cx := (x).toInt) (cy := (y).toInt) rfl rfl h10
        refine pm_go (g := (84, _, [.int 0], _, 0, 0)) rfl ?_
        exact pm_ret rfl (kF (uR_out (by omega) (by omega)))
      have h10 := qF_ne (cx := (x).toInt) (cy := (y).toInt) rfl rfl h10
      refine pm_go (g := (80, _, [.int 1], _, 0, 0)) rfl ?_
      refine pm_go (g := (84, _, [.int 1], _, 0, 0)) rfl ?_
      exact pm_ret rfl (kT (uR_eq (by omega)))
    have h9 := qF_eq (cx := (x).toInt) (cy := (y).toInt) rfl rfl h9
    refine pm_go (g := (54, _, [.int x], _, 0, 0)) rfl ?_
    refine pm_go (g := (55, _, [.int 0, .int x], _, 0, 0)) rfl ?_
    refine pm_go (g := (57, _, [.int 9, .int 0, .int x], _, 0, 0)) rfl ?_
    refine pm_callD (z := 128) (as := [.int x, .int 0, .int 9]) (rest := []) rfl ?_
    have h11 : (0 : Int32).toInt = 0 := by decide
    have h12 : (9 : Int32).toInt = 9 := by decide
    refine w_X12_isIn x 0 9 (fun h13 => ?_) (fun h14 => ?_)
    ·
      show pm_WP 132 (60, [(3, .int x), (4, .int y), (0, .ref 25), (1, .int a), (2, .int b)], [.int 1], _, 0, 0) _
      refine pm_brF (h := (63, [(3, .int x), (4, .int y), (0, .ref 25), (1, .int a), (2, .int b)], [], hq g c1 c2 c3 c4 c5 c6 c7 c8 c9 c10 c11 c12 c13 c14 c15 c16 c17 c18 c19 c20 c21 c22 c23 c24 (hc25 mTy mTm mMn mFn mRn mTn mVn mLr mTr mFl mFm mFp mSc mMp mEn) (hc26 mPa) (hc27 mTo) (hc28 mOt) (hc29 mNa) (hc30 mRe) (hc31 mMa) (hc32 mMy) (hc33 mPm) (hc34 mFy) (hc35 mFa) (hc36 mFr) (hc37 mFo) (hc38 mRt) (hc39 mRm) (hc40 mTt) (hc41 mTi) (hc42 mPl) (hc43 mVr) (hc44 mVf) (hc45 mVc) (hc46 mAr) (hc47 mTc) (hc48 mFt) (hc49 mGo) dyn, 0, 0)) rfl ?_
      refine pm_go (g := (64, _, [.ref 25], _, 0, 0)) rfl ?_
      refine pm_go (g := (67, _, [.ref 26], _, 0, 0)) rfl ?_
      refine pm_go (g := (68, _, [.int x, .ref 26], _, 0, 0)) rfl ?_
      refine pm_sd (g := (69, _, [.int (mPa (x).toNatClampNeg)], _, 0, 0)) rfl (pm_inI (by omega) (by omega)) ?_
      refine pm_go (g := (70, [(3, .int (mPa (x).toNatClampNeg)), (4, .int y), (0, .ref 25), (1, .int a), (2, .int b)], [], _, 0, 0)) rfl ?_
      refine pm_go (g := (47, _, [], _, 0, 0)) rfl ?_
      have hs := uR_step (f := mPa) (n := n) (x := x) (y := y) (by omega) (by omega) (by omega)
      have hx := xN (x := x) (by omega)
      have hp1 := hd x.toNatClampNeg (by omega)
      rw [hs] at kT kF
      exact ih (mPa x.toNatClampNeg) y (by omega) kT kF
    show pm_WP 132 (60, [(3, .int x), (4, .int y), (0, .ref 25), (1, .int a), (2, .int b)], [.int 0], hq g c1 c2 c3 c4 c5 c6 c7 c8 c9 c10 c11 c12 c13 c14 c15 c16 c17 c18 c19 c20 c21 c22 c23 c24 (hc25 mTy mTm mMn mFn mRn mTn mVn mLr mTr mFl mFm mFp mSc mMp mEn) (hc26 mPa) (hc27 mTo) (hc28 mOt) (hc29 mNa) (hc30 mRe) (hc31 mMa) (hc32 mMy) (hc33 mPm) (hc34 mFy) (hc35 mFa) (hc36 mFr) (hc37 mFo) (hc38 mRt) (hc39 mRm) (hc40 mTt) (hc41 mTi) (hc42 mPl) (hc43 mVr) (hc44 mVf) (hc45 mVc) (hc46 mAr) (hc47 mTc) (hc48 mFt) (hc49 mGo) dyn, 0, 0) _
    refine pm_brT (g := (73, [(3, .int x), (4, .int y), (0, .ref 25), (1, .int a), (2, .int b)], [], hq g c1 c2 c3 c4 c5 c6 c7 c8 c9 c10 c11 c12 c13 c14 c15 c16 c17 c18 c19 c20 c21 c22 c23 c24 (hc25 mTy mTm mMn mFn mRn mTn mVn mLr mTr mFl mFm mFp mSc mMp mEn) (hc26 mPa) (hc27 mTo) (hc28 mOt) (hc29 mNa) (hc30 mRe) (hc31 mMa) (hc32 mMy) (hc33 mPm) (hc34 mFy) (hc35 mFa) (hc36 mFr) (hc37 mFo) (hc38 mRt) (hc39 mRm) (hc40 mTt) (hc41 mTi) (hc42 mPl) (hc43 mVr) (hc44 mVf) (hc45 mVc) (hc46 mAr) (hc47 mTc) (hc48 mFt) (hc49 mGo) dyn, 0, 0)) rfl ?_
    refine pm_go (g := (74, _, [.int x], _, 0, 0)) rfl ?_
    refine pm_go (g := (76, _, [.int y, .int x], _, 0, 0)) rfl ?_
    refine pm_if2 (g := (83, [(3, .int x), (4, .int y), (0, .ref 25), (1, .int a), (2, .int b)], [], hq g c1 c2 c3 c4 c5 c6 c7 c8 c9 c10 c11 c12 c13 c14 c15 c16 c17 c18 c19 c20 c21 c22 c23 c24 (hc25 mTy mTm mMn mFn mRn mTn mVn mLr mTr mFl mFm mFp mSc mMp mEn) (hc26 mPa) (hc27 mTo) (hc28 mOt) (hc29 mNa) (hc30 mRe) (hc31 mMa) (hc32 mMy) (hc33 mPm) (hc34 mFy) (hc35 mFa) (hc36 mFr) (hc37 mFo) (hc38 mRt) (hc39 mRm) (hc40 mTt) (hc41 mTi) (hc42 mPl) (hc43 mVr) (hc44 mVf) (hc45 mVc) (hc46 mAr) (hc47 mTc) (hc48 mFt) (hc49 mGo) dyn, 0, 0)) (h := (79, [(3, .int x), (4, .int y), (0, .ref 25), (1, .int a), (2, .int b)], [], hq g c1 c2 c3 c4 c5 c6 c7 c8 c9 c10 c11 c12 c13 c14 c15 c16 c17 c18 c19 c20 c21 c22 c23 c24 (hc25 mTy mTm mMn mFn mRn mTn mVn mLr mTr mFl mFm mFp mSc mMp mEn) (hc26 mPa) (hc27 mTo) (hc28 mOt) (hc29 mNa) (hc30 mRe) (hc31 mMa) (hc32 mMy) (hc33 mPm) (hc34 mFy) (hc35 mFa) (hc36 mFr) (hc37 mFo) (hc38 mRt) (hc39 mRm) (hc40 mTt) (hc41 mTi) (hc42 mPl) (hc43 mVr) (hc44 mVf) (hc45 mVc) (hc46 mAr) (hc47 mTc) (hc48 mFt) (hc49 mGo) dyn, 0, 0)) rfl (fun h16 => ?_) (fun h16 => ?_)
    ·
      have h16 := qT_ne (cx := (x).toInt) (cy := (y).toInt) rfl rfl h16
      refine pm_go (g := (84, _, [.int 0], _, 0, 0)) rfl ?_
      exact pm_ret rfl (kF (uR_out (by omega) (by omega)))
    have h16 := qF_ne (cx := (x).toInt) (cy := (y).toInt) rfl rfl h16
    refine pm_go (g := (80, _, [.int 1], _, 0, 0)) rfl ?_
    refine pm_go (g := (84, _, [.int 1], _, 0, 0)) rfl ?_
    exact pm_ret rfl (kT (uR_eq (by omega)))
/-- the reference's isUnder -/
def uM (f : Nat → Int32) (a b : Int32) : Bool := if 20 ≤ a.toInt ∧ b.toInt = 0 then true else if (20 ≤ a.toInt ∧ a.toInt ≤ 29) ∧ (20 ≤ b.toInt ∧ b.toInt ≤ 29) then uR f 11 (a + -20) (b + -20) else uR f 11 a b
theorem uM_1 {f : Nat → Int32} {a b : Int32} (h : 20 ≤ a.toInt ∧ b.toInt = 0) : uM f a b = true := by unfold uM; rw [if_pos h]
theorem uM_2 {f : Nat → Int32} {a b : Int32} (h : ¬ (20 ≤ a.toInt ∧ b.toInt = 0)) (h2 : (20 ≤ a.toInt ∧ a.toInt ≤ 29) ∧ (20 ≤ b.toInt ∧ b.toInt ≤ 29)) : uM f a b = uR f 11 (a + -20) (b + -20) := by unfold uM; rw [if_neg h, if_pos h2]
theorem uM_3 {f : Nat → Int32} {a b : Int32} (h : ¬ (20 ≤ a.toInt ∧ b.toInt = 0)) (h2 : ¬ ((20 ≤ a.toInt ∧ a.toInt ≤ 29) ∧ (20 ≤ b.toInt ∧ b.toInt ≤ 29))) : uM f a b = uR f 11 a b := by unfold uM; rw [if_neg h, if_neg h2]
set_option maxRecDepth 100000 in
set_option maxHeartbeats 4000000 in
theorem w_X12_isUnder {g c1 c2 c3 c4 c5 c6 c7 c8 c9 c10 c11 c12 c13 c14 c15 c16 c17 c18 c19 c20 c21 c22 c23 c24 : pm_C} {dyn : pm_H} {mTy : Int32} {mPa : Nat → Int32} {mTo : Nat → Int32} {mTm : Int32} {mMn : Int32} {mOt : Nat → Int32} {mNa : Nat → Int32} {mRe : Nat → Int32} {mMa : Nat → Int32} {mMy : Nat → Int32} {mPm : Nat → Int32} {mFn : Int32} {mFy : Nat → Int32} {mFa : Nat → Int32} {mFr : Nat → Int32} {mRn : Int32} {mFo : Nat → Int32} {mRt : Nat → Int32} {mRm : Nat → Int32} {mTn : Int32} {mTt : Nat → Int32} {mTi : Nat → Int32} {mPl : Nat → Int32} {mVn : Int32} {mVr : Nat → Int32} {mVf : Nat → Int32} {mVc : Nat → Int32} {mAr : Nat → Int32} {mLr : Int32} {mTc : Nat → Int32} {mTr : Int32} {mFl : Int32} {mFt : Nat → Int32} {mFm : Int32} {mFp : Int32} {mSc : Int32} {mMp : Int32} {mEn : Int32} {mGo : Nat → Int32} {Q : pm_Q} (a : Int32) (b : Int32) (p0 : paD mPa) (k0 : uM mPa a b = true → Q (some (.int 1)) (hq g c1 c2 c3 c4 c5 c6 c7 c8 c9 c10 c11 c12 c13 c14 c15 c16 c17 c18 c19 c20 c21 c22 c23 c24 (hc25 mTy mTm mMn mFn mRn mTn mVn mLr mTr mFl mFm mFp mSc mMp mEn) (hc26 mPa) (hc27 mTo) (hc28 mOt) (hc29 mNa) (hc30 mRe) (hc31 mMa) (hc32 mMy) (hc33 mPm) (hc34 mFy) (hc35 mFa) (hc36 mFr) (hc37 mFo) (hc38 mRt) (hc39 mRm) (hc40 mTt) (hc41 mTi) (hc42 mPl) (hc43 mVr) (hc44 mVf) (hc45 mVc) (hc46 mAr) (hc47 mTc) (hc48 mFt) (hc49 mGo) dyn)) (k1 : uM mPa a b = false → Q (some (.int 0)) (hq g c1 c2 c3 c4 c5 c6 c7 c8 c9 c10 c11 c12 c13 c14 c15 c16 c17 c18 c19 c20 c21 c22 c23 c24 (hc25 mTy mTm mMn mFn mRn mTn mVn mLr mTr mFl mFm mFp mSc mMp mEn) (hc26 mPa) (hc27 mTo) (hc28 mOt) (hc29 mNa) (hc30 mRe) (hc31 mMa) (hc32 mMy) (hc33 mPm) (hc34 mFy) (hc35 mFa) (hc36 mFr) (hc37 mFo) (hc38 mRt) (hc39 mRm) (hc40 mTt) (hc41 mTi) (hc42 mPl) (hc43 mVr) (hc44 mVf) (hc45 mVc) (hc46 mAr) (hc47 mTc) (hc48 mFt) (hc49 mGo) dyn)) : pm_WP 132 (0, [(0, .ref 25), (1, .int a), (2, .int b)], [], hq g c1 c2 c3 c4 c5 c6 c7 c8 c9 c10 c11 c12 c13 c14 c15 c16 c17 c18 c19 c20 c21 c22 c23 c24 (hc25 mTy mTm mMn mFn mRn mTn mVn mLr mTr mFl mFm mFp mSc mMp mEn) (hc26 mPa) (hc27 mTo) (hc28 mOt) (hc29 mNa) (hc30 mRe) (hc31 mMa) (hc32 mMy) (hc33 mPm) (hc34 mFy) (hc35 mFa) (hc36 mFr) (hc37 mFo) (hc38 mRt) (hc39 mRm) (hc40 mTt) (hc41 mTi) (hc42 mPl) (hc43 mVr) (hc44 mVf) (hc45 mVc) (hc46 mAr) (hc47 mTc) (hc48 mFt) (hc49 mGo) dyn, 0, 0) Q := by
  refine pm_go (g := (1, [(0, .ref 25), (1, .int a), (2, .int b)], [.int a], hq g c1 c2 c3 c4 c5 c6 c7 c8 c9 c10 c11 c12 c13 c14 c15 c16 c17 c18 c19 c20 c21 c22 c23 c24 (hc25 mTy mTm mMn mFn mRn mTn mVn mLr mTr mFl mFm mFp mSc mMp mEn) (hc26 mPa) (hc27 mTo) (hc28 mOt) (hc29 mNa) (hc30 mRe) (hc31 mMa) (hc32 mMy) (hc33 mPm) (hc34 mFy) (hc35 mFa) (hc36 mFr) (hc37 mFo) (hc38 mRt) (hc39 mRm) (hc40 mTt) (hc41 mTi) (hc42 mPl) (hc43 mVr) (hc44 mVf) (hc45 mVc) (hc46 mAr) (hc47 mTc) (hc48 mFt) (hc49 mGo) dyn, 0, 0)) rfl ?_
  refine pm_go (g := (2, [(3, .int a), (0, .ref 25), (1, .int a), (2, .int b)], [], _, 0, 0)) rfl ?_
  refine pm_go (g := (3, _, [.int b], _, 0, 0)) rfl ?_
  refine pm_go (g := (5, [(4, .int b), (3, .int a), (0, .ref 25), (1, .int a), (2, .int b)], [], _, 0, 0)) rfl ?_
  refine pm_go (g := (6, _, [.int a], _, 0, 0)) rfl ?_
  refine pm_go (g := (8, _, [.int 20, .int a], _, 0, 0)) rfl ?_
  refine pm_if2 (g := (18, [(4, .int b), (3, .int a), (0, .ref 25), (1, .int a), (2, .int b)], [], hq g c1 c2 c3 c4 c5 c6 c7 c8 c9 c10 c11 c12 c13 c14 c15 c16 c17 c18 c19 c20 c21 c22 c23 c24 (hc25 mTy mTm mMn mFn mRn mTn mVn mLr mTr mFl mFm mFp mSc mMp mEn) (hc26 mPa) (hc27 mTo) (hc28 mOt) (hc29 mNa) (hc30 mRe) (hc31 mMa) (hc32 mMy) (hc33 mPm) (hc34 mFy) (hc35 mFa) (hc36 mFr) (hc37 mFo) (hc38 mRt) (hc39 mRm) (hc40 mTt) (hc41 mTi) (hc42 mPl) (hc43 mVr) (hc44 mVf) (hc45 mVc) (hc46 mAr) (hc47 mTc) (hc48 mFt) (hc49 mGo) dyn, 0, 0)) (h := (11, [(4, .int b), (3, .int a), (0, .ref 25), (1, .int a), (2, .int b)], [], hq g c1 c2 c3 c4 c5 c6 c7 c8 c9 c10 c11 c12 c13 c14 c15 c16 c17 c18 c19 c20 c21 c22 c23 c24 (hc25 mTy mTm mMn mFn mRn mTn mVn mLr mTr mFl mFm mFp mSc mMp mEn) (hc26 mPa) (hc27 mTo) (hc28 mOt) (hc29 mNa) (hc30 mRe) (hc31 mMa) (hc32 mMy) (hc33 mPm) (hc34 mFy) (hc35 mFa) (hc36 mFr) (hc37 mFo) (hc38 mRt) (hc39 mRm) (hc40 mTt) (hc41 mTi) (hc42 mPl) (hc43 mVr) (hc44 mVf) (hc45 mVc) (hc46 mAr) (hc47 mTc) (hc48 mFt) (hc49 mGo) dyn, 0, 0)) rfl (fun h1 => ?_) (fun h1 => ?_)
  ·
    have h1 := qT_lt (cx := (a).toInt) (cy := 20) rfl (by decide) h1
    refine pm_go (g := (19, _, [.int a], _, 0, 0)) rfl ?_
    refine pm_go (g := (21, _, [.int 20, .int a], _, 0, 0)) rfl ?_
    refine pm_go (g := (23, _, [.int 29, .int 20, .int a], _, 0, 0)) rfl ?_
    refine pm_callD (z := 128) (as := [.int a, .int 20, .int 29]) (rest := []) rfl ?_
    have h2 : (20 : Int32).toInt = 20 := by decide
    have h3 : (29 : Int32).toInt = 29 := by decide
    refine w_X12_isIn a 20 29 (fun h4 => ?_) (fun h5 => ?_)
    ·
      show pm_WP 132 (26, [(4, .int b), (3, .int a), (0, .ref 25), (1, .int a), (2, .int b)], [.int 1], _, 0, 0) _
      refine pm_brF (h := (29, [(4, .int b), (3, .int a), (0, .ref 25), (1, .int a), (2, .int b)], [], hq g c1 c2 c3 c4 c5 c6 c7 c8 c9 c10 c11 c12 c13 c14 c15 c16 c17 c18 c19 c20 c21 c22 c23 c24 (hc25 mTy mTm mMn mFn mRn mTn mVn mLr mTr mFl mFm mFp mSc mMp mEn) (hc26 mPa) (hc27 mTo) (hc28 mOt) (hc29 mNa) (hc30 mRe) (hc31 mMa) (hc32 mMy) (hc33 mPm) (hc34 mFy) (hc35 mFa) (hc36 mFr) (hc37 mFo) (hc38 mRt) (hc39 mRm) (hc40 mTt) (hc41 mTi) (hc42 mPl) (hc43 mVr) (hc44 mVf) (hc45 mVc) (hc46 mAr) (hc47 mTc) (hc48 mFt) (hc49 mGo) dyn, 0, 0)) rfl ?_
      refine pm_go (g := (31, _, [.int b], _, 0, 0)) rfl ?_
      refine pm_go (g := (33, _, [.int 20, .int b], _, 0, 0)) rfl ?_
      refine pm_go (g := (35, _, [.int 29, .int 20, .int b], _, 0, 0)) rfl ?_
      refine pm_callD (z := 128) (as := [.int b, .int 20, .int 29]) (rest := []) rfl ?_
      have h7 : (20 : Int32).toInt = 20 := by decide
      have h8 : (29 : Int32).toInt = 29 := by decide
      refine w_X12_isIn b 20 29 (fun h9 => ?_) (fun h10 => ?_)
      ·
        show pm_WP 132 (38, [(4, .int b), (3, .int a), (0, .ref 25), (1, .int a), (2, .int b)], [.int 1], _, 0, 0) _
        refine pm_brF (h := (41, [(4, .int b), (3, .int a), (0, .ref 25), (1, .int a), (2, .int b)], [], hq g c1 c2 c3 c4 c5 c6 c7 c8 c9 c10 c11 c12 c13 c14 c15 c16 c17 c18 c19 c20 c21 c22 c23 c24 (hc25 mTy mTm mMn mFn mRn mTn mVn mLr mTr mFl mFm mFp mSc mMp mEn) (hc26 mPa) (hc27 mTo) (hc28 mOt) (hc29 mNa) (hc30 mRe) (hc31 mMa) (hc32 mMy) (hc33 mPm) (hc34 mFy) (hc35 mFa) (hc36 mFr) (hc37 mFo) (hc38 mRt) (hc39 mRm) (hc40 mTt) (hc41 mTi) (hc42 mPl) (hc43 mVr) (hc44 mVf) (hc45 mVc) (hc46 mAr) (hc47 mTc) (hc48 mFt) (hc49 mGo) dyn, 0, 0)) rfl ?_
        refine pm_go (g := (44, [(3, .int (a + (-20))), (4, .int b), (0, .ref 25), (1, .int a), (2, .int b)], [], _, 0, 0)) rfl ?_
        refine pm_go (g := (47, [(4, .int (b + (-20))), (3, .int (a + (-20))), (0, .ref 25), (1, .int a), (2, .int b)], [], _, 0, 0)) rfl ?_
        have hu := uM_2 (f := mPa) (a := a) (b := b) (by omega) (by omega)
        have ga : (a + -20).toInt = a.toInt + -20 := iAdd rfl (by decide) (by omega) (by omega)
        have gb : (b + -20).toInt = b.toInt + -20 := iAdd rfl (by decide) (by omega) (by omega)
        refine pm_go (g := (48, _, [.int (a + (-20))], _, 0, 0)) rfl ?_
        refine pm_go (g := (50, _, [.int (b + (-20)), .int (a + (-20))], _, 0, 0)) rfl ?_
        refine pm_if2 (g := (73, [(4, .int (b + (-20))), (3, .int (a + (-20))), (0, .ref 25), (1, .int a), (2, .int b)], [], hq g c1 c2 c3 c4 c5 c6 c7 c8 c9 c10 c11 c12 c13 c14 c15 c16 c17 c18 c19 c20 c21 c22 c23 c24 (hc25 mTy mTm mMn mFn mRn mTn mVn mLr mTr mFl mFm mFp mSc mMp mEn) (hc26 mPa) (hc27 mTo) (hc28 mOt) (hc29 mNa) (hc30 mRe) (hc31 mMa) (hc32 mMy) (hc33 mPm) (hc34 mFy) (hc35 mFa) (hc36 mFr) (hc37 mFo) (hc38 mRt) (hc39 mRm) (hc40 mTt) (hc41 mTi) (hc42 mPl) (hc43 mVr) (hc44 mVf) (hc45 mVc) (hc46 mAr) (hc47 mTc) (hc48 mFt) (hc49 mGo) dyn, 0, 0)) (h := (53, [(4, .int (b + (-20))), (3, .int (a + (-20))), (0, .ref 25), (1, .int a), (2, .int b)], [], hq g c1 c2 c3 c4 c5 c6 c7 c8 c9 c10 c11 c12 c13 c14 c15 c16 c17 c18 c19 c20 c21 c22 c23 c24 (hc25 mTy mTm mMn mFn mRn mTn mVn mLr mTr mFl mFm mFp mSc mMp mEn) (hc26 mPa) (hc27 mTo) (hc28 mOt) (hc29 mNa) (hc30 mRe) (hc31 mMa) (hc32 mMy) (hc33 mPm) (hc34 mFy) (hc35 mFa) (hc36 mFr) (hc37 mFo) (hc38 mRt) (hc39 mRm) (hc40 mTt) (hc41 mTi) (hc42 mPl) (hc43 mVr) (hc44 mVf) (hc45 mVc) (hc46 mAr) (hc47 mTc) (hc48 mFt) (hc49 mGo) dyn, 0, 0)) rfl (fun h12 => ?_) (fun h12 => ?_)
        ·
          have h12 := qT_eq (cx := (a + (-20)).toInt) (cy := (b + (-20)).toInt) rfl rfl h12
          refine pm_go (g := (74, _, [.int (a + (-20))], _, 0, 0)) rfl ?_
          refine pm_go (g := (76, _, [.int (b + (-20)), .int (a + (-20))], _, 0, 0)) rfl ?_
          refine pm_if2 (g := (83, [(4, .int (b + (-20))), (3, .int (a + (-20))), (0, .ref 25), (1, .int a), (2, .int b)], [], hq g c1 c2 c3 c4 c5 c6 c7 c8 c9 c10 c11 c12 c13 c14 c15 c16 c17 c18 c19 c20 c21 c22 c23 c24 (hc25 mTy mTm mMn mFn mRn mTn mVn mLr mTr mFl mFm mFp mSc mMp mEn) (hc26 mPa) (hc27 mTo) (hc28 mOt) (hc29 mNa) (hc30 mRe) (hc31 mMa) (hc32 mMy) (hc33 mPm) (hc34 mFy) (hc35 mFa) (hc36 mFr) (hc37 mFo) (hc38 mRt) (hc39 mRm) (hc40 mTt) (hc41 mTi) (hc42 mPl) (hc43 mVr) (hc44 mVf) (hc45 mVc) (hc46 mAr) (hc47 mTc) (hc48 mFt) (hc49 mGo) dyn, 0, 0)) (h := (79, [(4, .int (b + (-20))), (3, .int (a + (-20))), (0, .ref 25), (1, .int a), (2, .int b)], [], hq g c1 c2 c3 c4 c5 c6 c7 c8 c9 c10 c11 c12 c13 c14 c15 c16 c17 c18 c19 c20 c21 c22 c23 c24 (hc25 mTy mTm mMn mFn mRn mTn mVn mLr mTr mFl mFm mFp mSc mMp mEn) (hc26 mPa) (hc27 mTo) (hc28 mOt) (hc29 mNa) (hc30 mRe) (hc31 mMa) (hc32 mMy) (hc33 mPm) (hc34 mFy) (hc35 mFa) (hc36 mFr) (hc37 mFo) (hc38 mRt) (hc39 mRm) (hc40 mTt) (hc41 mTi) (hc42 mPl) (hc43 mVr) (hc44 mVf) (hc45 mVc) (hc46 mAr) (hc47 mTc) (hc48 mFt) (hc49 mGo) dyn, 0, 0)) rfl (fun h13 => ?_) (fun h13 => ?_)
          ·
            have h13 := qT_ne (cx := (a + (-20)).toInt) (cy := (b + (-20)).toInt) rfl rfl h13
            refine pm_go (g := (84, _, [.int 0], _, 0, 0)) rfl ?_
            exact pm_ret rfl (k1 (by rw [hu]; exact uR_out (by omega) (by omega)))
          have h13 := qF_ne (cx := (a + (-20)).toInt) (cy := (b + (-20)).toInt) rfl rfl h13
          refine pm_go (g := (80, _, [.int 1], _, 0, 0)) rfl ?_
          refine pm_go (g := (84, _, [.int 1], _, 0, 0)) rfl ?_
          exact pm_ret rfl (k0 (by rw [hu]; exact uR_eq (by omega)))
        have h12 := qF_eq (cx := (a + (-20)).toInt) (cy := (b + (-20)).toInt) rfl rfl h12
        refine pm_go (g := (54, _, [.int (a + (-20))], _, 0, 0)) rfl ?_
        refine pm_go (g := (55, _, [.int 0, .int (a + (-20))], _, 0, 0)) rfl ?_
        refine pm_go (g := (57, _, [.int 9, .int 0, .int (a + (-20))], _, 0, 0)) rfl ?_
        refine pm_callD (z := 128) (as := [.int (a + (-20)), .int 0, .int 9]) (rest := []) rfl ?_
        have h14 : (0 : Int32).toInt = 0 := by decide
        have h15 : (9 : Int32).toInt = 9 := by decide
        refine w_X12_isIn (a + (-20)) 0 9 (fun h16 => ?_) (fun h17 => ?_)
        ·
          show pm_WP 132 (60, [(4, .int (b + (-20))), (3, .int (a + (-20))), (0, .ref 25), (1, .int a), (2, .int b)], [.int 1], _, 0, 0) _
          refine pm_brF (h := (63, [(4, .int (b + (-20))), (3, .int (a + (-20))), (0, .ref 25), (1, .int a), (2, .int b)], [], hq g c1 c2 c3 c4 c5 c6 c7 c8 c9 c10 c11 c12 c13 c14 c15 c16 c17 c18 c19 c20 c21 c22 c23 c24 (hc25 mTy mTm mMn mFn mRn mTn mVn mLr mTr mFl mFm mFp mSc mMp mEn) (hc26 mPa) (hc27 mTo) (hc28 mOt) (hc29 mNa) (hc30 mRe) (hc31 mMa) (hc32 mMy) (hc33 mPm) (hc34 mFy) (hc35 mFa) (hc36 mFr) (hc37 mFo) (hc38 mRt) (hc39 mRm) (hc40 mTt) (hc41 mTi) (hc42 mPl) (hc43 mVr) (hc44 mVf) (hc45 mVc) (hc46 mAr) (hc47 mTc) (hc48 mFt) (hc49 mGo) dyn, 0, 0)) rfl ?_
          refine pm_go (g := (64, _, [.ref 25], _, 0, 0)) rfl ?_
          refine pm_go (g := (67, _, [.ref 26], _, 0, 0)) rfl ?_
          refine pm_go (g := (68, _, [.int (a + (-20)), .ref 26], _, 0, 0)) rfl ?_
          refine pm_sd (g := (69, _, [.int (mPa (a + (-20)).toNatClampNeg)], _, 0, 0)) rfl (pm_inI (by omega) (by omega)) ?_
          refine pm_go (g := (70, [(3, .int (mPa (a + (-20)).toNatClampNeg)), (4, .int (b + (-20))), (0, .ref 25), (1, .int a), (2, .int b)], [], _, 0, 0)) rfl ?_
          refine pm_go (g := (47, _, [], _, 0, 0)) rfl ?_
          have hs := uR_step (f := mPa) (n := 10) (x := a + (-20)) (y := b + (-20)) (by omega) (by omega) (by omega)
          have hx := xN (x := a + (-20)) (by omega)
          have hp1 := p0 (a + (-20)).toNatClampNeg (by omega)
          rw [hu, hs] at k0 k1
          exact w_isUnder_loop a b p0 10 (mPa (a + (-20)).toNatClampNeg) (b + (-20)) (by omega) k0 k1
        show pm_WP 132 (60, [(4, .int (b + (-20))), (3, .int (a + (-20))), (0, .ref 25), (1, .int a), (2, .int b)], [.int 0], hq g c1 c2 c3 c4 c5 c6 c7 c8 c9 c10 c11 c12 c13 c14 c15 c16 c17 c18 c19 c20 c21 c22 c23 c24 (hc25 mTy mTm mMn mFn mRn mTn mVn mLr mTr mFl mFm mFp mSc mMp mEn) (hc26 mPa) (hc27 mTo) (hc28 mOt) (hc29 mNa) (hc30 mRe) (hc31 mMa) (hc32 mMy) (hc33 mPm) (hc34 mFy) (hc35 mFa) (hc36 mFr) (hc37 mFo) (hc38 mRt) (hc39 mRm) (hc40 mTt) (hc41 mTi) (hc42 mPl) (hc43 mVr) (hc44 mVf) (hc45 mVc) (hc46 mAr) (hc47 mTc) (hc48 mFt) (hc49 mGo) dyn, 0, 0) _
        refine pm_brT (g := (73, [(4, .int (b + (-20))), (3, .int (a + (-20))), (0, .ref 25), (1, .int a), (2, .int b)], [], hq g c1 c2 c3 c4 c5 c6 c7 c8 c9 c10 c11 c12 c13 c14 c15 c16 c17 c18 c19 c20 c21 c22 c23 c24 (hc25 mTy mTm mMn mFn mRn mTn mVn mLr mTr mFl mFm mFp mSc mMp mEn) (hc26 mPa) (hc27 mTo) (hc28 mOt) (hc29 mNa) (hc30 mRe) (hc31 mMa) (hc32 mMy) (hc33 mPm) (hc34 mFy) (hc35 mFa) (hc36 mFr) (hc37 mFo) (hc38 mRt) (hc39 mRm) (hc40 mTt) (hc41 mTi) (hc42 mPl) (hc43 mVr) (hc44 mVf) (hc45 mVc) (hc46 mAr) (hc47 mTc) (hc48 mFt) (hc49 mGo) dyn, 0, 0)) rfl ?_
        refine pm_go (g := (74, _, [.int (a + (-20))], _, 0, 0)) rfl ?_
        refine pm_go (g := (76, _, [.int (b + (-20)), .int (a + (-20))], _, 0, 0)) rfl ?_
        refine pm_if2 (g := (83, [(4, .int (b + (-20))), (3, .int (a + (-20))), (0, .ref 25), (1, .int a), (2, .int b)], [], hq g c1 c2 c3 c4 c5 c6 c7 c8 c9 c10 c11 c12 c13 c14 c15 c16 c17 c18 c19 c20 c21 c22 c23 c24 (hc25 mTy mTm mMn mFn mRn mTn mVn mLr mTr mFl mFm mFp mSc mMp mEn) (hc26 mPa) (hc27 mTo) (hc28 mOt) (hc29 mNa) (hc30 mRe) (hc31 mMa) (hc32 mMy) (hc33 mPm) (hc34 mFy) (hc35 mFa) (hc36 mFr) (hc37 mFo) (hc38 mRt) (hc39 mRm) (hc40 mTt) (hc41 mTi) (hc42 mPl) (hc43 mVr) (hc44 mVf) (hc45 mVc) (hc46 mAr) (hc47 mTc) (hc48 mFt) (hc49 mGo) dyn, 0, 0)) (h := (79, [(4, .int (b + (-20))), (3, .int (a + (-20))), (0, .ref 25), (1, .int a), (2, .int b)], [], hq g c1 c2 c3 c4 c5 c6 c7 c8 c9 c10 c11 c12 c13 c14 c15 c16 c17 c18 c19 c20 c21 c22 c23 c24 (hc25 mTy mTm mMn mFn mRn mTn mVn mLr mTr mFl mFm mFp mSc mMp mEn) (hc26 mPa) (hc27 mTo) (hc28 mOt) (hc29 mNa) (hc30 mRe) (hc31 mMa) (hc32 mMy) (hc33 mPm) (hc34 mFy) (hc35 mFa) (hc36 mFr) (hc37 mFo) (hc38 mRt) (hc39 mRm) (hc40 mTt) (hc41 mTi) (hc42 mPl) (hc43 mVr) (hc44 mVf) (hc45 mVc) (hc46 mAr) (hc47 mTc) (hc48 mFt) (hc49 mGo) dyn, 0, 0)) rfl (fun h19 => ?_) (fun h19 => ?_)
        ·
          have h19 := qT_ne (cx := (a + (-20)).toInt) (cy := (b + (-20)).toInt) rfl rfl h19
          refine pm_go (g := (84, _, [.int 0], _, 0, 0)) rfl ?_
          exact pm_ret rfl (k1 (by rw [hu]; exact uR_out (by omega) (by omega)))
        have h19 := qF_ne (cx := (a + (-20)).toInt) (cy := (b + (-20)).toInt) rfl rfl h19
        refine pm_go (g := (80, _, [.int 1], _, 0, 0)) rfl ?_
        refine pm_go (g := (84, _, [.int 1], _, 0, 0)) rfl ?_
        exact pm_ret rfl (k0 (by rw [hu]; exact uR_eq (by omega)))
      show pm_WP 132 (38, [(4, .int b), (3, .int a), (0, .ref 25), (1, .int a), (2, .int b)], [.int 0], hq g c1 c2 c3 c4 c5 c6 c7 c8 c9 c10 c11 c12 c13 c14 c15 c16 c17 c18 c19 c20 c21 c22 c23 c24 (hc25 mTy mTm mMn mFn mRn mTn mVn mLr mTr mFl mFm mFp mSc mMp mEn) (hc26 mPa) (hc27 mTo) (hc28 mOt) (hc29 mNa) (hc30 mRe) (hc31 mMa) (hc32 mMy) (hc33 mPm) (hc34 mFy) (hc35 mFa) (hc36 mFr) (hc37 mFo) (hc38 mRt) (hc39 mRm) (hc40 mTt) (hc41 mTi) (hc42 mPl) (hc43 mVr) (hc44 mVf) (hc45 mVc) (hc46 mAr) (hc47 mTc) (hc48 mFt) (hc49 mGo) dyn, 0, 0) _
      refine pm_brT (g := (47, [(4, .int b), (3, .int a), (0, .ref 25), (1, .int a), (2, .int b)], [], hq g c1 c2 c3 c4 c5 c6 c7 c8 c9 c10 c11 c12 c13 c14 c15 c16 c17 c18 c19 c20 c21 c22 c23 c24 (hc25 mTy mTm mMn mFn mRn mTn mVn mLr mTr mFl mFm mFp mSc mMp mEn) (hc26 mPa) (hc27 mTo) (hc28 mOt) (hc29 mNa) (hc30 mRe) (hc31 mMa) (hc32 mMy) (hc33 mPm) (hc34 mFy) (hc35 mFa) (hc36 mFr) (hc37 mFo) (hc38 mRt) (hc39 mRm) (hc40 mTt) (hc41 mTi) (hc42 mPl) (hc43 mVr) (hc44 mVf) (hc45 mVc) (hc46 mAr) (hc47 mTc) (hc48 mFt) (hc49 mGo) dyn, 0, 0)) rfl ?_
      have hu := uM_3 (f := mPa) (a := a) (b := b) (by omega) (by omega)
      refine pm_go (g := (48, _, [.int a], _, 0, 0)) rfl ?_
      refine pm_go (g := (50, _, [.int b, .int a], _, 0, 0)) rfl ?_
      refine pm_if2 (g := (73, [(4, .int b), (3, .int a), (0, .ref 25), (1, .int a), (2, .int b)], [], hq g c1 c2 c3 c4 c5 c6 c7 c8 c9 c10 c11 c12 c13 c14 c15 c16 c17 c18 c19 c20 c21 c22 c23 c24 (hc25 mTy mTm mMn mFn mRn mTn mVn mLr mTr mFl mFm mFp mSc mMp mEn) (hc26 mPa) (hc27 mTo) (hc28 mOt) (hc29 mNa) (hc30 mRe) (hc31 mMa) (hc32 mMy) (hc33 mPm) (hc34 mFy) (hc35 mFa) (hc36 mFr) (hc37 mFo) (hc38 mRt) (hc39 mRm) (hc40 mTt) (hc41 mTi) (hc42 mPl) (hc43 mVr) (hc44 mVf) (hc45 mVc) (hc46 mAr) (hc47 mTc) (hc48 mFt) (hc49 mGo) dyn, 0, 0)) (h := (53, [(4, .int b), (3, .int a), (0, .ref 25), (1, .int a), (2, .int b)], [], hq g c1 c2 c3 c4 c5 c6 c7 c8 c9 c10 c11 c12 c13 c14 c15 c16 c17 c18 c19 c20 c21 c22 c23 c24 (hc25 mTy mTm mMn mFn mRn mTn mVn mLr mTr mFl mFm mFp mSc mMp mEn) (hc26 mPa) (hc27 mTo) (hc28 mOt) (hc29 mNa) (hc30 mRe) (hc31 mMa) (hc32 mMy) (hc33 mPm) (hc34 mFy) (hc35 mFa) (hc36 mFr) (hc37 mFo) (hc38 mRt) (hc39 mRm) (hc40 mTt) (hc41 mTi) (hc42 mPl) (hc43 mVr) (hc44 mVf) (hc45 mVc) (hc46 mAr) (hc47 mTc) (hc48 mFt) (hc49 mGo) dyn, 0, 0)) rfl (fun h20 => ?_) (fun h20 => ?_)
      ·
        have h20 := qT_eq (cx := (a).toInt) (cy := (b).toInt) rfl rfl h20
        refine pm_go (g := (74, _, [.int a], _, 0, 0)) rfl ?_
        refine pm_go (g := (76, _, [.int b, .int a], _, 0, 0)) rfl ?_
        refine pm_if2 (g := (83, [(4, .int b), (3, .int a), (0, .ref 25), (1, .int a), (2, .int b)], [], hq g c1 c2 c3 c4 c5 c6 c7 c8 c9 c10 c11 c12 c13 c14 c15 c16 c17 c18 c19 c20 c21 c22 c23 c24 (hc25 mTy mTm mMn mFn mRn mTn mVn mLr mTr mFl mFm mFp mSc mMp mEn) (hc26 mPa) (hc27 mTo) (hc28 mOt) (hc29 mNa) (hc30 mRe) (hc31 mMa) (hc32 mMy) (hc33 mPm) (hc34 mFy) (hc35 mFa) (hc36 mFr) (hc37 mFo) (hc38 mRt) (hc39 mRm) (hc40 mTt) (hc41 mTi) (hc42 mPl) (hc43 mVr) (hc44 mVf) (hc45 mVc) (hc46 mAr) (hc47 mTc) (hc48 mFt) (hc49 mGo) dyn, 0, 0)) (h := (79, [(4, .int b), (3, .int a), (0, .ref 25), (1, .int a), (2, .int b)], [], hq g c1 c2 c3 c4 c5 c6 c7 c8 c9 c10 c11 c12 c13 c14 c15 c16 c17 c18 c19 c20 c21 c22 c23 c24 (hc25 mTy mTm mMn mFn mRn mTn mVn mLr mTr mFl mFm mFp mSc mMp mEn) (hc26 mPa) (hc27 mTo) (hc28 mOt) (hc29 mNa) (hc30 mRe) (hc31 mMa) (hc32 mMy) (hc33 mPm) (hc34 mFy) (hc35 mFa) (hc36 mFr) (hc37 mFo) (hc38 mRt) (hc39 mRm) (hc40 mTt) (hc41 mTi) (hc42 mPl) (hc43 mVr) (hc44 mVf) (hc45 mVc) (hc46 mAr) (hc47 mTc) (hc48 mFt) (hc49 mGo) dyn, 0, 0)) rfl (fun h21 => ?_) (fun h21 => ?_)
        ·
          have h21 := qT_ne (cx := (a).toInt) (cy := (b).toInt) rfl rfl h21
          refine pm_go (g := (84, _, [.int 0], _, 0, 0)) rfl ?_
          exact pm_ret rfl (k1 (by rw [hu]; exact uR_out (by omega) (by omega)))
        have h21 := qF_ne (cx := (a).toInt) (cy := (b).toInt) rfl rfl h21
        refine pm_go (g := (80, _, [.int 1], _, 0, 0)) rfl ?_
        refine pm_go (g := (84, _, [.int 1], _, 0, 0)) rfl ?_
        exact pm_ret rfl (k0 (by rw [hu]; exact uR_eq (by omega)))
      have h20 := qF_eq (cx := (a).toInt) (cy := (b).toInt) rfl rfl h20
      refine pm_go (g := (54, _, [.int a], _, 0, 0)) rfl ?_
      refine pm_go (g := (55, _, [.int 0, .int a], _, 0, 0)) rfl ?_
      refine pm_go (g := (57, _, [.int 9, .int 0, .int a], _, 0, 0)) rfl ?_
      refine pm_callD (z := 128) (as := [.int a, .int 0, .int 9]) (rest := []) rfl ?_
      have h22 : (0 : Int32).toInt = 0 := by decide
      have h23 : (9 : Int32).toInt = 9 := by decide
      refine w_X12_isIn a 0 9 (fun h24 => ?_) (fun h25 => ?_)
      ·
        show pm_WP 132 (60, [(4, .int b), (3, .int a), (0, .ref 25), (1, .int a), (2, .int b)], [.int 1], _, 0, 0) _
        refine pm_brF (h := (63, [(4, .int b), (3, .int a), (0, .ref 25), (1, .int a), (2, .int b)], [], hq g c1 c2 c3 c4 c5 c6 c7 c8 c9 c10 c11 c12 c13 c14 c15 c16 c17 c18 c19 c20 c21 c22 c23 c24 (hc25 mTy mTm mMn mFn mRn mTn mVn mLr mTr mFl mFm mFp mSc mMp mEn) (hc26 mPa) (hc27 mTo) (hc28 mOt) (hc29 mNa) (hc30 mRe) (hc31 mMa) (hc32 mMy) (hc33 mPm) (hc34 mFy) (hc35 mFa) (hc36 mFr) (hc37 mFo) (hc38 mRt) (hc39 mRm) (hc40 mTt) (hc41 mTi) (hc42 mPl) (hc43 mVr) (hc44 mVf) (hc45 mVc) (hc46 mAr) (hc47 mTc) (hc48 mFt) (hc49 mGo) dyn, 0, 0)) rfl ?_
        refine pm_go (g := (64, _, [.ref 25], _, 0, 0)) rfl ?_
        refine pm_go (g := (67, _, [.ref 26], _, 0, 0)) rfl ?_
        refine pm_go (g := (68, _, [.int a, .ref 26], _, 0, 0)) rfl ?_
        refine pm_sd (g := (69, _, [.int (mPa (a).toNatClampNeg)], _, 0, 0)) rfl (pm_inI (by omega) (by omega)) ?_
        refine pm_go (g := (70, [(3, .int (mPa (a).toNatClampNeg)), (4, .int b), (0, .ref 25), (1, .int a), (2, .int b)], [], _, 0, 0)) rfl ?_
        refine pm_go (g := (47, _, [], _, 0, 0)) rfl ?_
        have hs := uR_step (f := mPa) (n := 10) (x := a) (y := b) (by omega) (by omega) (by omega)
        have hx := xN (x := a) (by omega)
        have hp1 := p0 (a).toNatClampNeg (by omega)
        rw [hu, hs] at k0 k1
        exact w_isUnder_loop a b p0 10 (mPa (a).toNatClampNeg) (b) (by omega) k0 k1
      show pm_WP 132 (60, [(4, .int b), (3, .int a), (0, .ref 25), (1, .int a), (2, .int b)], [.int 0], hq g c1 c2 c3 c4 c5 c6 c7 c8 c9 c10 c11 c12 c13 c14 c15 c16 c17 c18 c19 c20 c21 c22 c23 c24 (hc25 mTy mTm mMn mFn mRn mTn mVn mLr mTr mFl mFm mFp mSc mMp mEn) (hc26 mPa) (hc27 mTo) (hc28 mOt) (hc29 mNa) (hc30 mRe) (hc31 mMa) (hc32 mMy) (hc33 mPm) (hc34 mFy) (hc35 mFa) (hc36 mFr) (hc37 mFo) (hc38 mRt) (hc39 mRm) (hc40 mTt) (hc41 mTi) (hc42 mPl) (hc43 mVr) (hc44 mVf) (hc45 mVc) (hc46 mAr) (hc47 mTc) (hc48 mFt) (hc49 mGo) dyn, 0, 0) _
      refine pm_brT (g := (73, [(4, .int b), (3, .int a), (0, .ref 25), (1, .int a), (2, .int b)], [], hq g c1 c2 c3 c4 c5 c6 c7 c8 c9 c10 c11 c12 c13 c14 c15 c16 c17 c18 c19 c20 c21 c22 c23 c24 (hc25 mTy mTm mMn mFn mRn mTn mVn mLr mTr mFl mFm mFp mSc mMp mEn) (hc26 mPa) (hc27 mTo) (hc28 mOt) (hc29 mNa) (hc30 mRe) (hc31 mMa) (hc32 mMy) (hc33 mPm) (hc34 mFy) (hc35 mFa) (hc36 mFr) (hc37 mFo) (hc38 mRt) (hc39 mRm) (hc40 mTt) (hc41 mTi) (hc42 mPl) (hc43 mVr) (hc44 mVf) (hc45 mVc) (hc46 mAr) (hc47 mTc) (hc48 mFt) (hc49 mGo) dyn, 0, 0)) rfl ?_
      refine pm_go (g := (74, _, [.int a], _, 0, 0)) rfl ?_
      refine pm_go (g := (76, _, [.int b, .int a], _, 0, 0)) rfl ?_
      refine pm_if2 (g := (83, [(4, .int b), (3, .int a), (0, .ref 25), (1, .int a), (2, .int b)], [], hq g c1 c2 c3 c4 c5 c6 c7 c8 c9 c10 c11 c12 c13 c14 c15 c16 c17 c18 c19 c20 c21 c22 c23 c24 (hc25 mTy mTm mMn mFn mRn mTn mVn mLr mTr mFl mFm mFp mSc mMp mEn) (hc26 mPa) (hc27 mTo) (hc28 mOt) (hc29 mNa) (hc30 mRe) (hc31 mMa) (hc32 mMy) (hc33 mPm) (hc34 mFy) (hc35 mFa) (hc36 mFr) (hc37 mFo) (hc38 mRt) (hc39 mRm) (hc40 mTt) (hc41 mTi) (hc42 mPl) (hc43 mVr) (hc44 mVf) (hc45 mVc) (hc46 mAr) (hc47 mTc) (hc48 mFt) (hc49 mGo) dyn, 0, 0)) (h := (79, [(4, .int b), (3, .int a), (0, .ref 25), (1, .int a), (2, .int b)], [], hq g c1 c2 c3 c4 c5 c6 c7 c8 c9 c10 c11 c12 c13 c14 c15 c16 c17 c18 c19 c20 c21 c22 c23 c24 (hc25 mTy mTm mMn mFn mRn mTn mVn mLr mTr mFl mFm mFp mSc mMp mEn) (hc26 mPa) (hc27 mTo) (hc28 mOt) (hc29 mNa) (hc30 mRe) (hc31 mMa) (hc32 mMy) (hc33 mPm) (hc34 mFy) (hc35 mFa) (hc36 mFr) (hc37 mFo) (hc38 mRt) (hc39 mRm) (hc40 mTt) (hc41 mTi) (hc42 mPl) (hc43 mVr) (hc44 mVf) (hc45 mVc) (hc46 mAr) (hc47 mTc) (hc48 mFt) (hc49 mGo) dyn, 0, 0)) rfl (fun h27 => ?_) (fun h27 => ?_)
      ·
        have h27 := qT_ne (cx := (a).toInt) (cy := (b).toInt) rfl rfl h27
        refine pm_go (g := (84, _, [.int 0], _, 0, 0)) rfl ?_
        exact pm_ret rfl (k1 (by rw [hu]; exact uR_out (by omega) (by omega)))
      have h27 := qF_ne (cx := (a).toInt) (cy := (b).toInt) rfl rfl h27
      refine pm_go (g := (80, _, [.int 1], _, 0, 0)) rfl ?_
      refine pm_go (g := (84, _, [.int 1], _, 0, 0)) rfl ?_
      exact pm_ret rfl (k0 (by rw [hu]; exact uR_eq (by omega)))
    show pm_WP 132 (26, [(4, .int b), (3, .int a), (0, .ref 25), (1, .int a), (2, .int b)], [.int 0], hq g c1 c2 c3 c4 c5 c6 c7 c8 c9 c10 c11 c12 c13 c14 c15 c16 c17 c18 c19 c20 c21 c22 c23 c24 (hc25 mTy mTm mMn mFn mRn mTn mVn mLr mTr mFl mFm mFp mSc mMp mEn) (hc26 mPa) (hc27 mTo) (hc28 mOt) (hc29 mNa) (hc30 mRe) (hc31 mMa) (hc32 mMy) (hc33 mPm) (hc34 mFy) (hc35 mFa) (hc36 mFr) (hc37 mFo) (hc38 mRt) (hc39 mRm) (hc40 mTt) (hc41 mTi) (hc42 mPl) (hc43 mVr) (hc44 mVf) (hc45 mVc) (hc46 mAr) (hc47 mTc) (hc48 mFt) (hc49 mGo) dyn, 0, 0) _
    refine pm_brT (g := (47, [(4, .int b), (3, .int a), (0, .ref 25), (1, .int a), (2, .int b)], [], hq g c1 c2 c3 c4 c5 c6 c7 c8 c9 c10 c11 c12 c13 c14 c15 c16 c17 c18 c19 c20 c21 c22 c23 c24 (hc25 mTy mTm mMn mFn mRn mTn mVn mLr mTr mFl mFm mFp mSc mMp mEn) (hc26 mPa) (hc27 mTo) (hc28 mOt) (hc29 mNa) (hc30 mRe) (hc31 mMa) (hc32 mMy) (hc33 mPm) (hc34 mFy) (hc35 mFa) (hc36 mFr) (hc37 mFo) (hc38 mRt) (hc39 mRm) (hc40 mTt) (hc41 mTi) (hc42 mPl) (hc43 mVr) (hc44 mVf) (hc45 mVc) (hc46 mAr) (hc47 mTc) (hc48 mFt) (hc49 mGo) dyn, 0, 0)) rfl ?_
    have hu := uM_3 (f := mPa) (a := a) (b := b) (by omega) (by omega)
    refine pm_go (g := (48, _, [.int a], _, 0, 0)) rfl ?_
    refine pm_go (g := (50, _, [.int b, .int a], _, 0, 0)) rfl ?_
    refine pm_if2 (g := (73, [(4, .int b), (3, .int a), (0, .ref 25), (1, .int a), (2, .int b)], [], hq g c1 c2 c3 c4 c5 c6 c7 c8 c9 c10 c11 c12 c13 c14 c15 c16 c17 c18 c19 c20 c21 c22 c23 c24 (hc25 mTy mTm mMn mFn mRn mTn mVn mLr mTr mFl mFm mFp mSc mMp mEn) (hc26 mPa) (hc27 mTo) (hc28 mOt) (hc29 mNa) (hc30 mRe) (hc31 mMa) (hc32 mMy) (hc33 mPm) (hc34 mFy) (hc35 mFa) (hc36 mFr) (hc37 mFo) (hc38 mRt) (hc39 mRm) (hc40 mTt) (hc41 mTi) (hc42 mPl) (hc43 mVr) (hc44 mVf) (hc45 mVc) (hc46 mAr) (hc47 mTc) (hc48 mFt) (hc49 mGo) dyn, 0, 0)) (h := (53, [(4, .int b), (3, .int a), (0, .ref 25), (1, .int a), (2, .int b)], [], hq g c1 c2 c3 c4 c5 c6 c7 c8 c9 c10 c11 c12 c13 c14 c15 c16 c17 c18 c19 c20 c21 c22 c23 c24 (hc25 mTy mTm mMn mFn mRn mTn mVn mLr mTr mFl mFm mFp mSc mMp mEn) (hc26 mPa) (hc27 mTo) (hc28 mOt) (hc29 mNa) (hc30 mRe) (hc31 mMa) (hc32 mMy) (hc33 mPm) (hc34 mFy) (hc35 mFa) (hc36 mFr) (hc37 mFo) (hc38 mRt) (hc39 mRm) (hc40 mTt) (hc41 mTi) (hc42 mPl) (hc43 mVr) (hc44 mVf) (hc45 mVc) (hc46 mAr) (hc47 mTc) (hc48 mFt) (hc49 mGo) dyn, 0, 0)) rfl (fun h28 => ?_) (fun h28 => ?_)
    ·
      have h28 := qT_eq (cx := (a).toInt) (cy := (b).toInt) rfl rfl h28
      refine pm_go (g := (74, _, [.int a], _, 0, 0)) rfl ?_
      refine pm_go (g := (76, _, [.int b, .int a], _, 0, 0)) rfl ?_
      refine pm_if2 (g := (83, [(4, .int b), (3, .int a), (0, .ref 25), (1, .int a), (2, .int b)], [], hq g c1 c2 c3 c4 c5 c6 c7 c8 c9 c10 c11 c12 c13 c14 c15 c16 c17 c18 c19 c20 c21 c22 c23 c24 (hc25 mTy mTm mMn mFn mRn mTn mVn mLr mTr mFl mFm mFp mSc mMp mEn) (hc26 mPa) (hc27 mTo) (hc28 mOt) (hc29 mNa) (hc30 mRe) (hc31 mMa) (hc32 mMy) (hc33 mPm) (hc34 mFy) (hc35 mFa) (hc36 mFr) (hc37 mFo) (hc38 mRt) (hc39 mRm) (hc40 mTt) (hc41 mTi) (hc42 mPl) (hc43 mVr) (hc44 mVf) (hc45 mVc) (hc46 mAr) (hc47 mTc) (hc48 mFt) (hc49 mGo) dyn, 0, 0)) (h := (79, [(4, .int b), (3, .int a), (0, .ref 25), (1, .int a), (2, .int b)], [], hq g c1 c2 c3 c4 c5 c6 c7 c8 c9 c10 c11 c12 c13 c14 c15 c16 c17 c18 c19 c20 c21 c22 c23 c24 (hc25 mTy mTm mMn mFn mRn mTn mVn mLr mTr mFl mFm mFp mSc mMp mEn) (hc26 mPa) (hc27 mTo) (hc28 mOt) (hc29 mNa) (hc30 mRe) (hc31 mMa) (hc32 mMy) (hc33 mPm) (hc34 mFy) (hc35 mFa) (hc36 mFr) (hc37 mFo) (hc38 mRt) (hc39 mRm) (hc40 mTt) (hc41 mTi) (hc42 mPl) (hc43 mVr) (hc44 mVf) (hc45 mVc) (hc46 mAr) (hc47 mTc) (hc48 mFt) (hc49 mGo) dyn, 0, 0)) rfl (fun h29 => ?_) (fun h29 => ?_)
      ·
        have h29 := qT_ne (cx := (a).toInt) (cy := (b).toInt) rfl rfl h29
        refine pm_go (g := (84, _, [.int 0], _, 0, 0)) rfl ?_
        exact pm_ret rfl (k1 (by rw [hu]; exact uR_out (by omega) (by omega)))
      have h29 := qF_ne (cx := (a).toInt) (cy := (b).toInt) rfl rfl h29
      refine pm_go (g := (80, _, [.int 1], _, 0, 0)) rfl ?_
      refine pm_go (g := (84, _, [.int 1], _, 0, 0)) rfl ?_
      exact pm_ret rfl (k0 (by rw [hu]; exact uR_eq (by omega)))
    have h28 := qF_eq (cx := (a).toInt) (cy := (b).toInt) rfl rfl h28
    refine pm_go (g := (54, _, [.int a], _, 0, 0)) rfl ?_
    refine pm_go (g := (55, _, [.int 0, .int a], _, 0, 0)) rfl ?_
    refine pm_go (g := (57, _, [.int 9, .int 0, .int a], _, 0, 0)) rfl ?_
    refine pm_callD (z := 128) (as := [.int a, .int 0, .int 9]) (rest := []) rfl ?_
    have h30 : (0 : Int32).toInt = 0 := by decide
    have h31 : (9 : Int32).toInt = 9 := by decide
    refine w_X12_isIn a 0 9 (fun h32 => ?_) (fun h33 => ?_)
    ·
      show pm_WP 132 (60, [(4, .int b), (3, .int a), (0, .ref 25), (1, .int a), (2, .int b)], [.int 1], _, 0, 0) _
      refine pm_brF (h := (63, [(4, .int b), (3, .int a), (0, .ref 25), (1, .int a), (2, .int b)], [], hq g c1 c2 c3 c4 c5 c6 c7 c8 c9 c10 c11 c12 c13 c14 c15 c16 c17 c18 c19 c20 c21 c22 c23 c24 (hc25 mTy mTm mMn mFn mRn mTn mVn mLr mTr mFl mFm mFp mSc mMp mEn) (hc26 mPa) (hc27 mTo) (hc28 mOt) (hc29 mNa) (hc30 mRe) (hc31 mMa) (hc32 mMy) (hc33 mPm) (hc34 mFy) (hc35 mFa) (hc36 mFr) (hc37 mFo) (hc38 mRt) (hc39 mRm) (hc40 mTt) (hc41 mTi) (hc42 mPl) (hc43 mVr) (hc44 mVf) (hc45 mVc) (hc46 mAr) (hc47 mTc) (hc48 mFt) (hc49 mGo) dyn, 0, 0)) rfl ?_
      refine pm_go (g := (64, _, [.ref 25], _, 0, 0)) rfl ?_
      refine pm_go (g := (67, _, [.ref 26], _, 0, 0)) rfl ?_
      refine pm_go (g := (68, _, [.int a, .ref 26], _, 0, 0)) rfl ?_
      refine pm_sd (g := (69, _, [.int (mPa (a).toNatClampNeg)], _, 0, 0)) rfl (pm_inI (by omega) (by omega)) ?_
      refine pm_go (g := (70, [(3, .int (mPa (a).toNatClampNeg)), (4, .int b), (0, .ref 25), (1, .int a), (2, .int b)], [], _, 0, 0)) rfl ?_
      refine pm_go (g := (47, _, [], _, 0, 0)) rfl ?_
      have hs := uR_step (f := mPa) (n := 10) (x := a) (y := b) (by omega) (by omega) (by omega)
      have hx := xN (x := a) (by omega)
      have hp1 := p0 (a).toNatClampNeg (by omega)
      rw [hu, hs] at k0 k1
      exact w_isUnder_loop a b p0 10 (mPa (a).toNatClampNeg) (b) (by omega) k0 k1
    show pm_WP 132 (60, [(4, .int b), (3, .int a), (0, .ref 25), (1, .int a), (2, .int b)], [.int 0], hq g c1 c2 c3 c4 c5 c6 c7 c8 c9 c10 c11 c12 c13 c14 c15 c16 c17 c18 c19 c20 c21 c22 c23 c24 (hc25 mTy mTm mMn mFn mRn mTn mVn mLr mTr mFl mFm mFp mSc mMp mEn) (hc26 mPa) (hc27 mTo) (hc28 mOt) (hc29 mNa) (hc30 mRe) (hc31 mMa) (hc32 mMy) (hc33 mPm) (hc34 mFy) (hc35 mFa) (hc36 mFr) (hc37 mFo) (hc38 mRt) (hc39 mRm) (hc40 mTt) (hc41 mTi) (hc42 mPl) (hc43 mVr) (hc44 mVf) (hc45 mVc) (hc46 mAr) (hc47 mTc) (hc48 mFt) (hc49 mGo) dyn, 0, 0) _
    refine pm_brT (g := (73, [(4, .int b), (3, .int a), (0, .ref 25), (1, .int a), (2, .int b)], [], hq g c1 c2 c3 c4 c5 c6 c7 c8 c9 c10 c11 c12 c13 c14 c15 c16 c17 c18 c19 c20 c21 c22 c23 c24 (hc25 mTy mTm mMn mFn mRn mTn mVn mLr mTr mFl mFm mFp mSc mMp mEn) (hc26 mPa) (hc27 mTo) (hc28 mOt) (hc29 mNa) (hc30 mRe) (hc31 mMa) (hc32 mMy) (hc33 mPm) (hc34 mFy) (hc35 mFa) (hc36 mFr) (hc37 mFo) (hc38 mRt) (hc39 mRm) (hc40 mTt) (hc41 mTi) (hc42 mPl) (hc43 mVr) (hc44 mVf) (hc45 mVc) (hc46 mAr) (hc47 mTc) (hc48 mFt) (hc49 mGo) dyn, 0, 0)) rfl ?_
    refine pm_go (g := (74, _, [.int a], _, 0, 0)) rfl ?_
    refine pm_go (g := (76, _, [.int b, .int a], _, 0, 0)) rfl ?_
    refine pm_if2 (g := (83, [(4, .int b), (3, .int a), (0, .ref 25), (1, .int a), (2, .int b)], [], hq g c1 c2 c3 c4 c5 c6 c7 c8 c9 c10 c11 c12 c13 c14 c15 c16 c17 c18 c19 c20 c21 c22 c23 c24 (hc25 mTy mTm mMn mFn mRn mTn mVn mLr mTr mFl mFm mFp mSc mMp mEn) (hc26 mPa) (hc27 mTo) (hc28 mOt) (hc29 mNa) (hc30 mRe) (hc31 mMa) (hc32 mMy) (hc33 mPm) (hc34 mFy) (hc35 mFa) (hc36 mFr) (hc37 mFo) (hc38 mRt) (hc39 mRm) (hc40 mTt) (hc41 mTi) (hc42 mPl) (hc43 mVr) (hc44 mVf) (hc45 mVc) (hc46 mAr) (hc47 mTc) (hc48 mFt) (hc49 mGo) dyn, 0, 0)) (h := (79, [(4, .int b), (3, .int a), (0, .ref 25), (1, .int a), (2, .int b)], [], hq g c1 c2 c3 c4 c5 c6 c7 c8 c9 c10 c11 c12 c13 c14 c15 c16 c17 c18 c19 c20 c21 c22 c23 c24 (hc25 mTy mTm mMn mFn mRn mTn mVn mLr mTr mFl mFm mFp mSc mMp mEn) (hc26 mPa) (hc27 mTo) (hc28 mOt) (hc29 mNa) (hc30 mRe) (hc31 mMa) (hc32 mMy) (hc33 mPm) (hc34 mFy) (hc35 mFa) (hc36 mFr) (hc37 mFo) (hc38 mRt) (hc39 mRm) (hc40 mTt) (hc41 mTi) (hc42 mPl) (hc43 mVr) (hc44 mVf) (hc45 mVc) (hc46 mAr) (hc47 mTc) (hc48 mFt) (hc49 mGo) dyn, 0, 0)) rfl (fun h35 => ?_) (fun h35 => ?_)
    ·
      have h35 := qT_ne (cx := (a).toInt) (cy := (b).toInt) rfl rfl h35
      refine pm_go (g := (84, _, [.int 0], _, 0, 0)) rfl ?_
      exact pm_ret rfl (k1 (by rw [hu]; exact uR_out (by omega) (by omega)))
    have h35 := qF_ne (cx := (a).toInt) (cy := (b).toInt) rfl rfl h35
    refine pm_go (g := (80, _, [.int 1], _, 0, 0)) rfl ?_
    refine pm_go (g := (84, _, [.int 1], _, 0, 0)) rfl ?_
    exact pm_ret rfl (k0 (by rw [hu]; exact uR_eq (by omega)))
  have h1 := qF_lt (cx := (a).toInt) (cy := 20) rfl (by decide) h1
  refine pm_go (g := (13, _, [.int b], _, 0, 0)) rfl ?_
  refine pm_if2 (g := (18, [(4, .int b), (3, .int a), (0, .ref 25), (1, .int a), (2, .int b)], [], hq g c1 c2 c3 c4 c5 c6 c7 c8 c9 c10 c11 c12 c13 c14 c15 c16 c17 c18 c19 c20 c21 c22 c23 c24 (hc25 mTy mTm mMn mFn mRn mTn mVn mLr mTr mFl mFm mFp mSc mMp mEn) (hc26 mPa) (hc27 mTo) (hc28 mOt) (hc29 mNa) (hc30 mRe) (hc31 mMa) (hc32 mMy) (hc33 mPm) (hc34 mFy) (hc35 mFa) (hc36 mFr) (hc37 mFo) (hc38 mRt) (hc39 mRm) (hc40 mTt) (hc41 mTi) (hc42 mPl) (hc43 mVr) (hc44 mVf) (hc45 mVc) (hc46 mAr) (hc47 mTc) (hc48 mFt) (hc49 mGo) dyn, 0, 0)) (h := (16, [(4, .int b), (3, .int a), (0, .ref 25), (1, .int a), (2, .int b)], [], hq g c1 c2 c3 c4 c5 c6 c7 c8 c9 c10 c11 c12 c13 c14 c15 c16 c17 c18 c19 c20 c21 c22 c23 c24 (hc25 mTy mTm mMn mFn mRn mTn mVn mLr mTr mFl mFm mFp mSc mMp mEn) (hc26 mPa) (hc27 mTo) (hc28 mOt) (hc29 mNa) (hc30 mRe) (hc31 mMa) (hc32 mMy) (hc33 mPm) (hc34 mFy) (hc35 mFa) (hc36 mFr) (hc37 mFo) (hc38 mRt) (hc39 mRm) (hc40 mTt) (hc41 mTi) (hc42 mPl) (hc43 mVr) (hc44 mVf) (hc45 mVc) (hc46 mAr) (hc47 mTc) (hc48 mFt) (hc49 mGo) dyn, 0, 0)) rfl (fun h36 => ?_) (fun h36 => ?_)
  ·
    have h36 := qT_ne (cx := (b).toInt) (cy := 0) rfl (by decide) h36
    refine pm_go (g := (19, _, [.int a], _, 0, 0)) rfl ?_
    refine pm_go (g := (21, _, [.int 20, .int a], _, 0, 0)) rfl ?_
    refine pm_go (g := (23, _, [.int 29, .int 20, .int a], _, 0, 0)) rfl ?_
    refine pm_callD (z := 128) (as := [.int a, .int 20, .int 29]) (rest := []) rfl ?_
    have h37 : (20 : Int32).toInt = 20 := by decide
    have h38 : (29 : Int32).toInt = 29 := by decide
    refine w_X12_isIn a 20 29 (fun h39 => ?_) (fun h40 => ?_)
    ·
      show pm_WP 132 (26, [(4, .int b), (3, .int a), (0, .ref 25), (1, .int a), (2, .int b)], [.int 1], _, 0, 0) _
      refine pm_brF (h := (29, [(4, .int b), (3, .int a), (0, .ref 25), (1, .int a), (2, .int b)], [], hq g c1 c2 c3 c4 c5 c6 c7 c8 c9 c10 c11 c12 c13 c14 c15 c16 c17 c18 c19 c20 c21 c22 c23 c24 (hc25 mTy mTm mMn mFn mRn mTn mVn mLr mTr mFl mFm mFp mSc mMp mEn) (hc26 mPa) (hc27 mTo) (hc28 mOt) (hc29 mNa) (hc30 mRe) (hc31 mMa) (hc32 mMy) (hc33 mPm) (hc34 mFy) (hc35 mFa) (hc36 mFr) (hc37 mFo) (hc38 mRt) (hc39 mRm) (hc40 mTt) (hc41 mTi) (hc42 mPl) (hc43 mVr) (hc44 mVf) (hc45 mVc) (hc46 mAr) (hc47 mTc) (hc48 mFt) (hc49 mGo) dyn, 0, 0)) rfl ?_
      refine pm_go (g := (31, _, [.int b], _, 0, 0)) rfl ?_
      refine pm_go (g := (33, _, [.int 20, .int b], _, 0, 0)) rfl ?_
      refine pm_go (g := (35, _, [.int 29, .int 20, .int b], _, 0, 0)) rfl ?_
      refine pm_callD (z := 128) (as := [.int b, .int 20, .int 29]) (rest := []) rfl ?_
      have h42 : (20 : Int32).toInt = 20 := by decide
      have h43 : (29 : Int32).toInt = 29 := by decide
      refine w_X12_isIn b 20 29 (fun h44 => ?_) (fun h45 => ?_)
      ·
        show pm_WP 132 (38, [(4, .int b), (3, .int a), (0, .ref 25), (1, .int a), (2, .int b)], [.int 1], _, 0, 0) _
        refine pm_brF (h := (41, [(4, .int b), (3, .int a), (0, .ref 25), (1, .int a), (2, .int b)], [], hq g c1 c2 c3 c4 c5 c6 c7 c8 c9 c10 c11 c12 c13 c14 c15 c16 c17 c18 c19 c20 c21 c22 c23 c24 (hc25 mTy mTm mMn mFn mRn mTn mVn mLr mTr mFl mFm mFp mSc mMp mEn) (hc26 mPa) (hc27 mTo) (hc28 mOt) (hc29 mNa) (hc30 mRe) (hc31 mMa) (hc32 mMy) (hc33 mPm) (hc34 mFy) (hc35 mFa) (hc36 mFr) (hc37 mFo) (hc38 mRt) (hc39 mRm) (hc40 mTt) (hc41 mTi) (hc42 mPl) (hc43 mVr) (hc44 mVf) (hc45 mVc) (hc46 mAr) (hc47 mTc) (hc48 mFt) (hc49 mGo) dyn, 0, 0)) rfl ?_
        refine pm_go (g := (44, [(3, .int (a + (-20))), (4, .int b), (0, .ref 25), (1, .int a), (2, .int b)], [], _, 0, 0)) rfl ?_
        refine pm_go (g := (47, [(4, .int (b + (-20))), (3, .int (a + (-20))), (0, .ref 25), (1, .int a), (2, .int b)], [], _, 0, 0)) rfl ?_
        have hu := uM_2 (f := mPa) (a := a) (b := b) (by omega) (by omega)
        have ga : (a + -20).toInt = a.toInt + -20 := iAdd rfl (by decide) (by omega) (by omega)
        have gb : (b + -20).toInt = b.toInt + -20 := iAdd rfl (by decide) (by omega) (by omega)
        refine pm_go (g := (48, _, [.int (a + (-20))], _, 0, 0)) rfl ?_
        refine pm_go (g := (50, _, [.int (b + (-20)), .int (a + (-20))], _, 0, 0)) rfl ?_
        refine pm_if2 (g := (73, [(4, .int (b + (-20))), (3, .int (a + (-20))), (0, .ref 25), (1, .int a), (2, .int b)], [], hq g c1 c2 c3 c4 c5 c6 c7 c8 c9 c10 c11 c12 c13 c14 c15 c16 c17 c18 c19 c20 c21 c22 c23 c24 (hc25 mTy mTm mMn mFn mRn mTn mVn mLr mTr mFl mFm mFp mSc mMp mEn) (hc26 mPa) (hc27 mTo) (hc28 mOt) (hc29 mNa) (hc30 mRe) (hc31 mMa) (hc32 mMy) (hc33 mPm) (hc34 mFy) (hc35 mFa) (hc36 mFr) (hc37 mFo) (hc38 mRt) (hc39 mRm) (hc40 mTt) (hc41 mTi) (hc42 mPl) (hc43 mVr) (hc44 mVf) (hc45 mVc) (hc46 mAr) (hc47 mTc) (hc48 mFt) (hc49 mGo) dyn, 0, 0)) (h := (53, [(4, .int (b + (-20))), (3, .int (a + (-20))), (0, .ref 25), (1, .int a), (2, .int b)], [], hq g c1 c2 c3 c4 c5 c6 c7 c8 c9 c10 c11 c12 c13 c14 c15 c16 c17 c18 c19 c20 c21 c22 c23 c24 (hc25 mTy mTm mMn mFn mRn mTn mVn mLr mTr mFl mFm mFp mSc mMp mEn) (hc26 mPa) (hc27 mTo) (hc28 mOt) (hc29 mNa) (hc30 mRe) (hc31 mMa) (hc32 mMy) (hc33 mPm) (hc34 mFy) (hc35 mFa) (hc36 mFr) (hc37 mFo) (hc38 mRt) (hc39 mRm) (hc40 mTt) (hc41 mTi) (hc42 mPl) (hc43 mVr) (hc44 mVf) (hc45 mVc) (hc46 mAr) (hc47 mTc) (hc48 mFt) (hc49 mGo) dyn, 0, 0)) rfl (fun h47 => ?_) (fun h47 => ?_)
        ·
          have h47 := qT_eq (cx := (a + (-20)).toInt) (cy := (b + (-20)).toInt) rfl rfl h47
          refine pm_go (g := (74, _, [.int (a + (-20))], _, 0, 0)) rfl ?_
          refine pm_go (g := (76, _, [.int (b + (-20)), .int (a + (-20))], _, 0, 0)) rfl ?_
          refine pm_if2 (g := (83, [(4, .int (b + (-20))), (3, .int (a + (-20))), (0, .ref 25), (1, .int a), (2, .int b)], [], hq g c1 c2 c3 c4 c5 c6 c7 c8 c9 c10 c11 c12 c13 c14 c15 c16 c17 c18 c19 c20 c21 c22 c23 c24 (hc25 mTy mTm mMn mFn mRn mTn mVn mLr mTr mFl mFm mFp mSc mMp mEn) (hc26 mPa) (hc27 mTo) (hc28 mOt) (hc29 mNa) (hc30 mRe) (hc31 mMa) (hc32 mMy) (hc33 mPm) (hc34 mFy) (hc35 mFa) (hc36 mFr) (hc37 mFo) (hc38 mRt) (hc39 mRm) (hc40 mTt) (hc41 mTi) (hc42 mPl) (hc43 mVr) (hc44 mVf) (hc45 mVc) (hc46 mAr) (hc47 mTc) (hc48 mFt) (hc49 mGo) dyn, 0, 0)) (h := (79, [(4, .int (b + (-20))), (3, .int (a + (-20))), (0, .ref 25), (1, .int a), (2, .int b)], [], hq g c1 c2 c3 c4 c5 c6 c7 c8 c9 c10 c11 c12 c13 c14 c15 c16 c17 c18 c19 c20 c21 c22 c23 c24 (hc25 mTy mTm mMn mFn mRn mTn mVn mLr mTr mFl mFm mFp mSc mMp mEn) (hc26 mPa) (hc27 mTo) (hc28 mOt) (hc29 mNa) (hc30 mRe) (hc31 mMa) (hc32 mMy) (hc33 mPm) (hc34 mFy) (hc35 mFa) (hc36 mFr) (hc37 mFo) (hc38 mRt) (hc39 mRm) (hc40 mTt) (hc41 mTi) (hc42 mPl) (hc43 mVr) (hc44 mVf) (hc45 mVc) (hc46 mAr) (hc47 mTc) (hc48 mFt) (hc49 mGo) dyn, 0, 0)) rfl (fun h48 => ?_) (fun h48 => ?_)
          ·
            have h48 := qT_ne (cx := (a + (-20)).toInt) (cy := (b + (-20)).toInt) rfl rfl h48
            refine pm_go (g := (84, _, [.int 0], _, 0, 0)) rfl ?_
            exact pm_ret rfl (k1 (by rw [hu]; exact uR_out (by omega) (by omega)))
          have h48 := qF_ne (cx := (a + (-20)).toInt) (cy := (b + (-20)).toInt) rfl rfl h48
          refine pm_go (g := (80, _, [.int 1], _, 0, 0)) rfl ?_
          refine pm_go (g := (84, _, [.int 1], _, 0, 0)) rfl ?_
          exact pm_ret rfl (k0 (by rw [hu]; exact uR_eq (by omega)))
        have h47 := qF_eq (cx := (a + (-20)).toInt) (cy := (b + (-20)).toInt) rfl rfl h47
        refine pm_go (g := (54, _, [.int (a + (-20))], _, 0, 0)) rfl ?_
        refine pm_go (g := (55, _, [.int 0, .int (a + (-20))], _, 0, 0)) rfl ?_
        refine pm_go (g := (57, _, [.int 9, .int 0, .int (a + (-20))], _, 0, 0)) rfl ?_
        refine pm_callD (z := 128) (as := [.int (a + (-20)), .int 0, .int 9]) (rest := []) rfl ?_
        have h49 : (0 : Int32).toInt = 0 := by decide
        have h50 : (9 : Int32).toInt = 9 := by decide
        refine w_X12_isIn (a + (-20)) 0 9 (fun h51 => ?_) (fun h52 => ?_)
        ·
          show pm_WP 132 (60, [(4, .int (b + (-20))), (3, .int (a + (-20))), (0, .ref 25), (1, .int a), (2, .int b)], [.int 1], _, 0, 0) _
          refine pm_brF (h := (63, [(4, .int (b + (-20))), (3, .int (a + (-20))), (0, .ref 25), (1, .int a), (2, .int b)], [], hq g c1 c2 c3 c4 c5 c6 c7 c8 c9 c10 c11 c12 c13 c14 c15 c16 c17 c18 c19 c20 c21 c22 c23 c24 (hc25 mTy mTm mMn mFn mRn mTn mVn mLr mTr mFl mFm mFp mSc mMp mEn) (hc26 mPa) (hc27 mTo) (hc28 mOt) (hc29 mNa) (hc30 mRe) (hc31 mMa) (hc32 mMy) (hc33 mPm) (hc34 mFy) (hc35 mFa) (hc36 mFr) (hc37 mFo) (hc38 mRt) (hc39 mRm) (hc40 mTt) (hc41 mTi) (hc42 mPl) (hc43 mVr) (hc44 mVf) (hc45 mVc) (hc46 mAr) (hc47 mTc) (hc48 mFt) (hc49 mGo) dyn, 0, 0)) rfl ?_
          refine pm_go (g := (64, _, [.ref 25], _, 0, 0)) rfl ?_
          refine pm_go (g := (67, _, [.ref 26], _, 0, 0)) rfl ?_
          refine pm_go (g := (68, _, [.int (a + (-20)), .ref 26], _, 0, 0)) rfl ?_
          refine pm_sd (g := (69, _, [.int (mPa (a + (-20)).toNatClampNeg)], _, 0, 0)) rfl (pm_inI (by omega) (by omega)) ?_
          refine pm_go (g := (70, [(3, .int (mPa (a + (-20)).toNatClampNeg)), (4, .int (b + (-20))), (0, .ref 25), (1, .int a), (2, .int b)], [], _, 0, 0)) rfl ?_
          refine pm_go (g := (47, _, [], _, 0, 0)) rfl ?_
          have hs := uR_step (f := mPa) (n := 10) (x := a + (-20)) (y := b + (-20)) (by omega) (by omega) (by omega)
          have hx := xN (x := a + (-20)) (by omega)
          have hp1 := p0 (a + (-20)).toNatClampNeg (by omega)
          rw [hu, hs] at k0 k1
          exact w_isUnder_loop a b p0 10 (mPa (a + (-20)).toNatClampNeg) (b + (-20)) (by omega) k0 k1
        show pm_WP 132 (60, [(4, .int (b + (-20))), (3, .int (a + (-20))), (0, .ref 25), (1, .int a), (2, .int b)], [.int 0], hq g c1 c2 c3 c4 c5 c6 c7 c8 c9 c10 c11 c12 c13 c14 c15 c16 c17 c18 c19 c20 c21 c22 c23 c24 (hc25 mTy mTm mMn mFn mRn mTn mVn mLr mTr mFl mFm mFp mSc mMp mEn) (hc26 mPa) (hc27 mTo) (hc28 mOt) (hc29 mNa) (hc30 mRe) (hc31 mMa) (hc32 mMy) (hc33 mPm) (hc34 mFy) (hc35 mFa) (hc36 mFr) (hc37 mFo) (hc38 mRt) (hc39 mRm) (hc40 mTt) (hc41 mTi) (hc42 mPl) (hc43 mVr) (hc44 mVf) (hc45 mVc) (hc46 mAr) (hc47 mTc) (hc48 mFt) (hc49 mGo) dyn, 0, 0) _
        refine pm_brT (g := (73, [(4, .int (b + (-20))), (3, .int (a + (-20))), (0, .ref 25), (1, .int a), (2, .int b)], [], hq g c1 c2 c3 c4 c5 c6 c7 c8 c9 c10 c11 c12 c13 c14 c15 c16 c17 c18 c19 c20 c21 c22 c23 c24 (hc25 mTy mTm mMn mFn mRn mTn mVn mLr mTr mFl mFm mFp mSc mMp mEn) (hc26 mPa) (hc27 mTo) (hc28 mOt) (hc29 mNa) (hc30 mRe) (hc31 mMa) (hc32 mMy) (hc33 mPm) (hc34 mFy) (hc35 mFa) (hc36 mFr) (hc37 mFo) (hc38 mRt) (hc39 mRm) (hc40 mTt) (hc41 mTi) (hc42 mPl) (hc43 mVr) (hc44 mVf) (hc45 mVc) (hc46 mAr) (hc47 mTc) (hc48 mFt) (hc49 mGo) dyn, 0, 0)) rfl ?_
        refine pm_go (g := (74, _, [.int (a + (-20))], _, 0, 0)) rfl ?_
        refine pm_go (g := (76, _, [.int (b + (-20)), .int (a + (-20))], _, 0, 0)) rfl ?_
        refine pm_if2 (g := (83, [(4, .int (b + (-20))), (3, .int (a + (-20))), (0, .ref 25), (1, .int a), (2, .int b)], [], hq g c1 c2 c3 c4 c5 c6 c7 c8 c9 c10 c11 c12 c13 c14 c15 c16 c17 c18 c19 c20 c21 c22 c23 c24 (hc25 mTy mTm mMn mFn mRn mTn mVn mLr mTr mFl mFm mFp mSc mMp mEn) (hc26 mPa) (hc27 mTo) (hc28 mOt) (hc29 mNa) (hc30 mRe) (hc31 mMa) (hc32 mMy) (hc33 mPm) (hc34 mFy) (hc35 mFa) (hc36 mFr) (hc37 mFo) (hc38 mRt) (hc39 mRm) (hc40 mTt) (hc41 mTi) (hc42 mPl) (hc43 mVr) (hc44 mVf) (hc45 mVc) (hc46 mAr) (hc47 mTc) (hc48 mFt) (hc49 mGo) dyn, 0, 0)) (h := (79, [(4, .int (b + (-20))), (3, .int (a + (-20))), (0, .ref 25), (1, .int a), (2, .int b)], [], hq g c1 c2 c3 c4 c5 c6 c7 c8 c9 c10 c11 c12 c13 c14 c15 c16 c17 c18 c19 c20 c21 c22 c23 c24 (hc25 mTy mTm mMn mFn mRn mTn mVn mLr mTr mFl mFm mFp mSc mMp mEn) (hc26 mPa) (hc27 mTo) (hc28 mOt) (hc29 mNa) (hc30 mRe) (hc31 mMa) (hc32 mMy) (hc33 mPm) (hc34 mFy) (hc35 mFa) (hc36 mFr) (hc37 mFo) (hc38 mRt) (hc39 mRm) (hc40 mTt) (hc41 mTi) (hc42 mPl) (hc43 mVr) (hc44 mVf) (hc45 mVc) (hc46 mAr) (hc47 mTc) (hc48 mFt) (hc49 mGo) dyn, 0, 0)) rfl (fun h54 => ?_) (fun h54 => ?_)
        ·
          have h54 := qT_ne (cx := (a + (-20)).toInt) (cy := (b + (-20)).toInt) rfl rfl h54
          refine pm_go (g := (84, _, [.int 0], _, 0, 0)) rfl ?_
          exact pm_ret rfl (k1 (by rw [hu]; exact uR_out (by omega) (by omega)))
        have h54 := qF_ne (cx := (a + (-20)).toInt) (cy := (b + (-20)).toInt) rfl rfl h54
        refine pm_go (g := (80, _, [.int 1], _, 0, 0)) rfl ?_
        refine pm_go (g := (84, _, [.int 1], _, 0, 0)) rfl ?_
        exact pm_ret rfl (k0 (by rw [hu]; exact uR_eq (by omega)))
      show pm_WP 132 (38, [(4, .int b), (3, .int a), (0, .ref 25), (1, .int a), (2, .int b)], [.int 0], hq g c1 c2 c3 c4 c5 c6 c7 c8 c9 c10 c11 c12 c13 c14 c15 c16 c17 c18 c19 c20 c21 c22 c23 c24 (hc25 mTy mTm mMn mFn mRn mTn mVn mLr mTr mFl mFm mFp mSc mMp mEn) (hc26 mPa) (hc27 mTo) (hc28 mOt) (hc29 mNa) (hc30 mRe) (hc31 mMa) (hc32 mMy) (hc33 mPm) (hc34 mFy) (hc35 mFa) (hc36 mFr) (hc37 mFo) (hc38 mRt) (hc39 mRm) (hc40 mTt) (hc41 mTi) (hc42 mPl) (hc43 mVr) (hc44 mVf) (hc45 mVc) (hc46 mAr) (hc47 mTc) (hc48 mFt) (hc49 mGo) dyn, 0, 0) _
      refine pm_brT (g := (47, [(4, .int b), (3, .int a), (0, .ref 25), (1, .int a), (2, .int b)], [], hq g c1 c2 c3 c4 c5 c6 c7 c8 c9 c10 c11 c12 c13 c14 c15 c16 c17 c18 c19 c20 c21 c22 c23 c24 (hc25 mTy mTm mMn mFn mRn mTn mVn mLr mTr mFl mFm mFp mSc mMp mEn) (hc26 mPa) (hc27 mTo) (hc28 mOt) (hc29 mNa) (hc30 mRe) (hc31 mMa) (hc32 mMy) (hc33 mPm) (hc34 mFy) (hc35 mFa) (hc36 mFr) (hc37 mFo) (hc38 mRt) (hc39 mRm) (hc40 mTt) (hc41 mTi) (hc42 mPl) (hc43 mVr) (hc44 mVf) (hc45 mVc) (hc46 mAr) (hc47 mTc) (hc48 mFt) (hc49 mGo) dyn, 0, 0)) rfl ?_
      have hu := uM_3 (f := mPa) (a := a) (b := b) (by omega) (by omega)
      refine pm_go (g := (48, _, [.int a], _, 0, 0)) rfl ?_
      refine pm_go (g := (50, _, [.int b, .int a], _, 0, 0)) rfl ?_
      refine pm_if2 (g := (73, [(4, .int b), (3, .int a), (0, .ref 25), (1, .int a), (2, .int b)], [], hq g c1 c2 c3 c4 c5 c6 c7 c8 c9 c10 c11 c12 c13 c14 c15 c16 c17 c18 c19 c20 c21 c22 c23 c24 (hc25 mTy mTm mMn mFn mRn mTn mVn mLr mTr mFl mFm mFp mSc mMp mEn) (hc26 mPa) (hc27 mTo) (hc28 mOt) (hc29 mNa) (hc30 mRe) (hc31 mMa) (hc32 mMy) (hc33 mPm) (hc34 mFy) (hc35 mFa) (hc36 mFr) (hc37 mFo) (hc38 mRt) (hc39 mRm) (hc40 mTt) (hc41 mTi) (hc42 mPl) (hc43 mVr) (hc44 mVf) (hc45 mVc) (hc46 mAr) (hc47 mTc) (hc48 mFt) (hc49 mGo) dyn, 0, 0)) (h := (53, [(4, .int b), (3, .int a), (0, .ref 25), (1, .int a), (2, .int b)], [], hq g c1 c2 c3 c4 c5 c6 c7 c8 c9 c10 c11 c12 c13 c14 c15 c16 c17 c18 c19 c20 c21 c22 c23 c24 (hc25 mTy mTm mMn mFn mRn mTn mVn mLr mTr mFl mFm mFp mSc mMp mEn) (hc26 mPa) (hc27 mTo) (hc28 mOt) (hc29 mNa) (hc30 mRe) (hc31 mMa) (hc32 mMy) (hc33 mPm) (hc34 mFy) (hc35 mFa) (hc36 mFr) (hc37 mFo) (hc38 mRt) (hc39 mRm) (hc40 mTt) (hc41 mTi) (hc42 mPl) (hc43 mVr) (hc44 mVf) (hc45 mVc) (hc46 mAr) (hc47 mTc) (hc48 mFt) (hc49 mGo) dyn, 0, 0)) rfl (fun h55 => ?_) (fun h55 => ?_)
      ·
        have h55 := qT_eq (cx := (a).toInt) (cy := (b).toInt) rfl rfl h55
        refine pm_go (g := (74, _, [.int a], _, 0, 0)) rfl ?_
        refine pm_go (g := (76, _, [.int b, .int a], _, 0, 0)) rfl ?_
        refine pm_if2 (g := (83, [(4, .int b), (3, .int a), (0, .ref 25), (1, .int a), (2, .int b)], [], hq g c1 c2 c3 c4 c5 c6 c7 c8 c9 c10 c11 c12 c13 c14 c15 c16 c17 c18 c19 c20 c21 c22 c23 c24 (hc25 mTy mTm mMn mFn mRn mTn mVn mLr mTr mFl mFm mFp mSc mMp mEn) (hc26 mPa) (hc27 mTo) (hc28 mOt) (hc29 mNa) (hc30 mRe) (hc31 mMa) (hc32 mMy) (hc33 mPm) (hc34 mFy) (hc35 mFa) (hc36 mFr) (hc37 mFo) (hc38 mRt) (hc39 mRm) (hc40 mTt) (hc41 mTi) (hc42 mPl) (hc43 mVr) (hc44 mVf) (hc45 mVc) (hc46 mAr) (hc47 mTc) (hc48 mFt) (hc49 mGo) dyn, 0, 0)) (h := (79, [(4, .int b), (3, .int a), (0, .ref 25), (1, .int a), (2, .int b)], [], hq g c1 c2 c3 c4 c5 c6 c7 c8 c9 c10 c11 c12 c13 c14 c15 c16 c17 c18 c19 c20 c21 c22 c23 c24 (hc25 mTy mTm mMn mFn mRn mTn mVn mLr mTr mFl mFm mFp mSc mMp mEn) (hc26 mPa) (hc27 mTo) (hc28 mOt) (hc29 mNa) (hc30 mRe) (hc31 mMa) (hc32 mMy) (hc33 mPm) (hc34 mFy) (hc35 mFa) (hc36 mFr) (hc37 mFo) (hc38 mRt) (hc39 mRm) (hc40 mTt) (hc41 mTi) (hc42 mPl) (hc43 mVr) (hc44 mVf) (hc45 mVc) (hc46 mAr) (hc47 mTc) (hc48 mFt) (hc49 mGo) dyn, 0, 0)) rfl (fun h56 => ?_) (fun h56 => ?_)
        ·
          have h56 := qT_ne (cx := (a).toInt) (cy := (b).toInt) rfl rfl h56
          refine pm_go (g := (84, _, [.int 0], _, 0, 0)) rfl ?_
          exact pm_ret rfl (k1 (by rw [hu]; exact uR_out (by omega) (by omega)))
        have h56 := qF_ne (cx := (a).toInt) (cy := (b).toInt) rfl rfl h56
        refine pm_go (g := (80, _, [.int 1], _, 0, 0)) rfl ?_
        refine pm_go (g := (84, _, [.int 1], _, 0, 0)) rfl ?_
        exact pm_ret rfl (k0 (by rw [hu]; exact uR_eq (by omega)))
      have h55 := qF_eq (cx := (a).toInt) (cy := (b).toInt) rfl rfl h55
      refine pm_go (g := (54, _, [.int a], _, 0, 0)) rfl ?_
      refine pm_go (g := (55, _, [.int 0, .int a], _, 0, 0)) rfl ?_
      refine pm_go (g := (57, _, [.int 9, .int 0, .int a], _, 0, 0)) rfl ?_
      refine pm_callD (z := 128) (as := [.int a, .int 0, .int 9]) (rest := []) rfl ?_
      have h57 : (0 : Int32).toInt = 0 := by decide
      have h58 : (9 : Int32).toInt = 9 := by decide
      refine w_X12_isIn a 0 9 (fun h59 => ?_) (fun h60 => ?_)
      ·
        show pm_WP 132 (60, [(4, .int b), (3, .int a), (0, .ref 25), (1, .int a), (2, .int b)], [.int 1], _, 0, 0) _
        refine pm_brF (h := (63, [(4, .int b), (3, .int a), (0, .ref 25), (1, .int a), (2, .int b)], [], hq g c1 c2 c3 c4 c5 c6 c7 c8 c9 c10 c11 c12 c13 c14 c15 c16 c17 c18 c19 c20 c21 c22 c23 c24 (hc25 mTy mTm mMn mFn mRn mTn mVn mLr mTr mFl mFm mFp mSc mMp mEn) (hc26 mPa) (hc27 mTo) (hc28 mOt) (hc29 mNa) (hc30 mRe) (hc31 mMa) (hc32 mMy) (hc33 mPm) (hc34 mFy) (hc35 mFa) (hc36 mFr) (hc37 mFo) (hc38 mRt) (hc39 mRm) (hc40 mTt) (hc41 mTi) (hc42 mPl) (hc43 mVr) (hc44 mVf) (hc45 mVc) (hc46 mAr) (hc47 mTc) (hc48 mFt) (hc49 mGo) dyn, 0, 0)) rfl ?_
        refine pm_go (g := (64, _, [.ref 25], _, 0, 0)) rfl ?_
        refine pm_go (g := (67, _, [.ref 26], _, 0, 0)) rfl ?_
        refine pm_go (g := (68, _, [.int a, .ref 26], _, 0, 0)) rfl ?_
        refine pm_sd (g := (69, _, [.int (mPa (a).toNatClampNeg)], _, 0, 0)) rfl (pm_inI (by omega) (by omega)) ?_
        refine pm_go (g := (70, [(3, .int (mPa (a).toNatClampNeg)), (4, .int b), (0, .ref 25), (1, .int a), (2, .int b)], [], _, 0, 0)) rfl ?_
        refine pm_go (g := (47, _, [], _, 0, 0)) rfl ?_
        have hs := uR_step (f := mPa) (n := 10) (x := a) (y := b) (by omega) (by omega) (by omega)
        have hx := xN (x := a) (by omega)
        have hp1 := p0 (a).toNatClampNeg (by omega)
        rw [hu, hs] at k0 k1
        exact w_isUnder_loop a b p0 10 (mPa (a).toNatClampNeg) (b) (by omega) k0 k1
      show pm_WP 132 (60, [(4, .int b), (3, .int a), (0, .ref 25), (1, .int a), (2, .int b)], [.int 0], hq g c1 c2 c3 c4 c5 c6 c7 c8 c9 c10 c11 c12 c13 c14 c15 c16 c17 c18 c19 c20 c21 c22 c23 c24 (hc25 mTy mTm mMn mFn mRn mTn mVn mLr mTr mFl mFm mFp mSc mMp mEn) (hc26 mPa) (hc27 mTo) (hc28 mOt) (hc29 mNa) (hc30 mRe) (hc31 mMa) (hc32 mMy) (hc33 mPm) (hc34 mFy) (hc35 mFa) (hc36 mFr) (hc37 mFo) (hc38 mRt) (hc39 mRm) (hc40 mTt) (hc41 mTi) (hc42 mPl) (hc43 mVr) (hc44 mVf) (hc45 mVc) (hc46 mAr) (hc47 mTc) (hc48 mFt) (hc49 mGo) dyn, 0, 0) _
      refine pm_brT (g := (73, [(4, .int b), (3, .int a), (0, .ref 25), (1, .int a), (2, .int b)], [], hq g c1 c2 c3 c4 c5 c6 c7 c8 c9 c10 c11 c12 c13 c14 c15 c16 c17 c18 c19 c20 c21 c22 c23 c24 (hc25 mTy mTm mMn mFn mRn mTn mVn mLr mTr mFl mFm mFp mSc mMp mEn) (hc26 mPa) (hc27 mTo) (hc28 mOt) (hc29 mNa) (hc30 mRe) (hc31 mMa) (hc32 mMy) (hc33 mPm) (hc34 mFy) (hc35 mFa) (hc36 mFr) (hc37 mFo) (hc38 mRt) (hc39 mRm) (hc40 mTt) (hc41 mTi) (hc42 mPl) (hc43 mVr) (hc44 mVf) (hc45 mVc) (hc46 mAr) (hc47 mTc) (hc48 mFt) (hc49 mGo) dyn, 0, 0)) rfl ?_
      refine pm_go (g := (74, _, [.int a], _, 0, 0)) rfl ?_
      refine pm_go (g := (76, _, [.int b, .int a], _, 0, 0)) rfl ?_
      refine pm_if2 (g := (83, [(4, .int b), (3, .int a), (0, .ref 25), (1, .int a), (2, .int b)], [], hq g c1 c2 c3 c4 c5 c6 c7 c8 c9 c10 c11 c12 c13 c14 c15 c16 c17 c18 c19 c20 c21 c22 c23 c24 (hc25 mTy mTm mMn mFn mRn mTn mVn mLr mTr mFl mFm mFp mSc mMp mEn) (hc26 mPa) (hc27 mTo) (hc28 mOt) (hc29 mNa) (hc30 mRe) (hc31 mMa) (hc32 mMy) (hc33 mPm) (hc34 mFy) (hc35 mFa) (hc36 mFr) (hc37 mFo) (hc38 mRt) (hc39 mRm) (hc40 mTt) (hc41 mTi) (hc42 mPl) (hc43 mVr) (hc44 mVf) (hc45 mVc) (hc46 mAr) (hc47 mTc) (hc48 mFt) (hc49 mGo) dyn, 0, 0)) (h := (79, [(4, .int b), (3, .int a), (0, .ref 25), (1, .int a), (2, .int b)], [], hq g c1 c2 c3 c4 c5 c6 c7 c8 c9 c10 c11 c12 c13 c14 c15 c16 c17 c18 c19 c20 c21 c22 c23 c24 (hc25 mTy mTm mMn mFn mRn mTn mVn mLr mTr mFl mFm mFp mSc mMp mEn) (hc26 mPa) (hc27 mTo) (hc28 mOt) (hc29 mNa) (hc30 mRe) (hc31 mMa) (hc32 mMy) (hc33 mPm) (hc34 mFy) (hc35 mFa) (hc36 mFr) (hc37 mFo) (hc38 mRt) (hc39 mRm) (hc40 mTt) (hc41 mTi) (hc42 mPl) (hc43 mVr) (hc44 mVf) (hc45 mVc) (hc46 mAr) (hc47 mTc) (hc48 mFt) (hc49 mGo) dyn, 0, 0)) rfl (fun h62 => ?_) (fun h62 => ?_)
      ·
        have h62 := qT_ne (cx := (a).toInt) (cy := (b).toInt) rfl rfl h62
        refine pm_go (g := (84, _, [.int 0], _, 0, 0)) rfl ?_
        exact pm_ret rfl (k1 (by rw [hu]; exact uR_out (by omega) (by omega)))
      have h62 := qF_ne (cx := (a).toInt) (cy := (b).toInt) rfl rfl h62
      refine pm_go (g := (80, _, [.int 1], _, 0, 0)) rfl ?_
      refine pm_go (g := (84, _, [.int 1], _, 0, 0)) rfl ?_
      exact pm_ret rfl (k0 (by rw [hu]; exact uR_eq (by omega)))
    show pm_WP 132 (26, [(4, .int b), (3, .int a), (0, .ref 25), (1, .int a), (2, .int b)], [.int 0], hq g c1 c2 c3 c4 c5 c6 c7 c8 c9 c10 c11 c12 c13 c14 c15 c16 c17 c18 c19 c20 c21 c22 c23 c24 (hc25 mTy mTm mMn mFn mRn mTn mVn mLr mTr mFl mFm mFp mSc mMp mEn) (hc26 mPa) (hc27 mTo) (hc28 mOt) (hc29 mNa) (hc30 mRe) (hc31 mMa) (hc32 mMy) (hc33 mPm) (hc34 mFy) (hc35 mFa) (hc36 mFr) (hc37 mFo) (hc38 mRt) (hc39 mRm) (hc40 mTt) (hc41 mTi) (hc42 mPl) (hc43 mVr) (hc44 mVf) (hc45 mVc) (hc46 mAr) (hc47 mTc) (hc48 mFt) (hc49 mGo) dyn, 0, 0) _
    refine pm_brT (g := (47, [(4, .int b), (3, .int a), (0, .ref 25), (1, .int a), (2, .int b)], [], hq g c1 c2 c3 c4 c5 c6 c7 c8 c9 c10 c11 c12 c13 c14 c15 c16 c17 c18 c19 c20 c21 c22 c23 c24 (hc25 mTy mTm mMn mFn mRn mTn mVn mLr mTr mFl mFm mFp mSc mMp mEn) (hc26 mPa) (hc27 mTo) (hc28 mOt) (hc29 mNa) (hc30 mRe) (hc31 mMa) (hc32 mMy) (hc33 mPm) (hc34 mFy) (hc35 mFa) (hc36 mFr) (hc37 mFo) (hc38 mRt) (hc39 mRm) (hc40 mTt) (hc41 mTi) (hc42 mPl) (hc43 mVr) (hc44 mVf) (hc45 mVc) (hc46 mAr) (hc47 mTc) (hc48 mFt) (hc49 mGo) dyn, 0, 0)) rfl ?_
    have hu := uM_3 (f := mPa) (a := a) (b := b) (by omega) (by omega)
    refine pm_go (g := (48, _, [.int a], _, 0, 0)) rfl ?_
    refine pm_go (g := (50, _, [.int b, .int a], _, 0, 0)) rfl ?_
    refine pm_if2 (g := (73, [(4, .int b), (3, .int a), (0, .ref 25), (1, .int a), (2, .int b)], [], hq g c1 c2 c3 c4 c5 c6 c7 c8 c9 c10 c11 c12 c13 c14 c15 c16 c17 c18 c19 c20 c21 c22 c23 c24 (hc25 mTy mTm mMn mFn mRn mTn mVn mLr mTr mFl mFm mFp mSc mMp mEn) (hc26 mPa) (hc27 mTo) (hc28 mOt) (hc29 mNa) (hc30 mRe) (hc31 mMa) (hc32 mMy) (hc33 mPm) (hc34 mFy) (hc35 mFa) (hc36 mFr) (hc37 mFo) (hc38 mRt) (hc39 mRm) (hc40 mTt) (hc41 mTi) (hc42 mPl) (hc43 mVr) (hc44 mVf) (hc45 mVc) (hc46 mAr) (hc47 mTc) (hc48 mFt) (hc49 mGo) dyn, 0, 0)) (h := (53, [(4, .int b), (3, .int a), (0, .ref 25), (1, .int a), (2, .int b)], [], hq g c1 c2 c3 c4 c5 c6 c7 c8 c9 c10 c11 c12 c13 c14 c15 c16 c17 c18 c19 c20 c21 c22 c23 c24 (hc25 mTy mTm mMn mFn mRn mTn mVn mLr mTr mFl mFm mFp mSc mMp mEn) (hc26 mPa) (hc27 mTo) (hc28 mOt) (hc29 mNa) (hc30 mRe) (hc31 mMa) (hc32 mMy) (hc33 mPm) (hc34 mFy) (hc35 mFa) (hc36 mFr) (hc37 mFo) (hc38 mRt) (hc39 mRm) (hc40 mTt) (hc41 mTi) (hc42 mPl) (hc43 mVr) (hc44 mVf) (hc45 mVc) (hc46 mAr) (hc47 mTc) (hc48 mFt) (hc49 mGo) dyn, 0, 0)) rfl (fun h63 => ?_) (fun h63 => ?_)
    ·
      have h63 := qT_eq (cx := (a).toInt) (cy := (b).toInt) rfl rfl h63
      refine pm_go (g := (74, _, [.int a], _, 0, 0)) rfl ?_
      refine pm_go (g := (76, _, [.int b, .int a], _, 0, 0)) rfl ?_
      refine pm_if2 (g := (83, [(4, .int b), (3, .int a), (0, .ref 25), (1, .int a), (2, .int b)], [], hq g c1 c2 c3 c4 c5 c6 c7 c8 c9 c10 c11 c12 c13 c14 c15 c16 c17 c18 c19 c20 c21 c22 c23 c24 (hc25 mTy mTm mMn mFn mRn mTn mVn mLr mTr mFl mFm mFp mSc mMp mEn) (hc26 mPa) (hc27 mTo) (hc28 mOt) (hc29 mNa) (hc30 mRe) (hc31 mMa) (hc32 mMy) (hc33 mPm) (hc34 mFy) (hc35 mFa) (hc36 mFr) (hc37 mFo) (hc38 mRt) (hc39 mRm) (hc40 mTt) (hc41 mTi) (hc42 mPl) (hc43 mVr) (hc44 mVf) (hc45 mVc) (hc46 mAr) (hc47 mTc) (hc48 mFt) (hc49 mGo) dyn, 0, 0)) (h := (79, [(4, .int b), (3, .int a), (0, .ref 25), (1, .int a), (2, .int b)], [], hq g c1 c2 c3 c4 c5 c6 c7 c8 c9 c10 c11 c12 c13 c14 c15 c16 c17 c18 c19 c20 c21 c22 c23 c24 (hc25 mTy mTm mMn mFn mRn mTn mVn mLr mTr mFl mFm mFp mSc mMp mEn) (hc26 mPa) (hc27 mTo) (hc28 mOt) (hc29 mNa) (hc30 mRe) (hc31 mMa) (hc32 mMy) (hc33 mPm) (hc34 mFy) (hc35 mFa) (hc36 mFr) (hc37 mFo) (hc38 mRt) (hc39 mRm) (hc40 mTt) (hc41 mTi) (hc42 mPl) (hc43 mVr) (hc44 mVf) (hc45 mVc) (hc46 mAr) (hc47 mTc) (hc48 mFt) (hc49 mGo) dyn, 0, 0)) rfl (fun h64 => ?_) (fun h64 => ?_)
      ·
        have h64 := qT_ne (cx := (a).toInt) (cy := (b).toInt) rfl rfl h64
        refine pm_go (g := (84, _, [.int 0], _, 0, 0)) rfl ?_
        exact pm_ret rfl (k1 (by rw [hu]; exact uR_out (by omega) (by omega)))
      have h64 := qF_ne (cx := (a).toInt) (cy := (b).toInt) rfl rfl h64
      refine pm_go (g := (80, _, [.int 1], _, 0, 0)) rfl ?_
      refine pm_go (g := (84, _, [.int 1], _, 0, 0)) rfl ?_
      exact pm_ret rfl (k0 (by rw [hu]; exact uR_eq (by omega)))
    have h63 := qF_eq (cx := (a).toInt) (cy := (b).toInt) rfl rfl h63
    refine pm_go (g := (54, _, [.int a], _, 0, 0)) rfl ?_
    refine pm_go (g := (55, _, [.int 0, .int a], _, 0, 0)) rfl ?_
    refine pm_go (g := (57, _, [.int 9, .int 0, .int a], _, 0, 0)) rfl ?_
    refine pm_callD (z := 128) (as := [.int a, .int 0, .int 9]) (rest := []) rfl ?_
    have h65 : (0 : Int32).toInt = 0 := by decide
    have h66 : (9 : Int32).toInt = 9 := by decide
    refine w_X12_isIn a 0 9 (fun h67 => ?_) (fun h68 => ?_)
    ·
      show pm_WP 132 (60, [(4, .int b), (3, .int a), (0, .ref 25), (1, .int a), (2, .int b)], [.int 1], _, 0, 0) _
      refine pm_brF (h := (63, [(4, .int b), (3, .int a), (0, .ref 25), (1, .int a), (2, .int b)], [], hq g c1 c2 c3 c4 c5 c6 c7 c8 c9 c10 c11 c12 c13 c14 c15 c16 c17 c18 c19 c20 c21 c22 c23 c24 (hc25 mTy mTm mMn mFn mRn mTn mVn mLr mTr mFl mFm mFp mSc mMp mEn) (hc26 mPa) (hc27 mTo) (hc28 mOt) (hc29 mNa) (hc30 mRe) (hc31 mMa) (hc32 mMy) (hc33 mPm) (hc34 mFy) (hc35 mFa) (hc36 mFr) (hc37 mFo) (hc38 mRt) (hc39 mRm) (hc40 mTt) (hc41 mTi) (hc42 mPl) (hc43 mVr) (hc44 mVf) (hc45 mVc) (hc46 mAr) (hc47 mTc) (hc48 mFt) (hc49 mGo) dyn, 0, 0)) rfl ?_
      refine pm_go (g := (64, _, [.ref 25], _, 0, 0)) rfl ?_
      refine pm_go (g := (67, _, [.ref 26], _, 0, 0)) rfl ?_
      refine pm_go (g := (68, _, [.int a, .ref 26], _, 0, 0)) rfl ?_
      refine pm_sd (g := (69, _, [.int (mPa (a).toNatClampNeg)], _, 0, 0)) rfl (pm_inI (by omega) (by omega)) ?_
      refine pm_go (g := (70, [(3, .int (mPa (a).toNatClampNeg)), (4, .int b), (0, .ref 25), (1, .int a), (2, .int b)], [], _, 0, 0)) rfl ?_
      refine pm_go (g := (47, _, [], _, 0, 0)) rfl ?_
      have hs := uR_step (f := mPa) (n := 10) (x := a) (y := b) (by omega) (by omega) (by omega)
      have hx := xN (x := a) (by omega)
      have hp1 := p0 (a).toNatClampNeg (by omega)
      rw [hu, hs] at k0 k1
      exact w_isUnder_loop a b p0 10 (mPa (a).toNatClampNeg) (b) (by omega) k0 k1
    show pm_WP 132 (60, [(4, .int b), (3, .int a), (0, .ref 25), (1, .int a), (2, .int b)], [.int 0], hq g c1 c2 c3 c4 c5 c6 c7 c8 c9 c10 c11 c12 c13 c14 c15 c16 c17 c18 c19 c20 c21 c22 c23 c24 (hc25 mTy mTm mMn mFn mRn mTn mVn mLr mTr mFl mFm mFp mSc mMp mEn) (hc26 mPa) (hc27 mTo) (hc28 mOt) (hc29 mNa) (hc30 mRe) (hc31 mMa) (hc32 mMy) (hc33 mPm) (hc34 mFy) (hc35 mFa) (hc36 mFr) (hc37 mFo) (hc38 mRt) (hc39 mRm) (hc40 mTt) (hc41 mTi) (hc42 mPl) (hc43 mVr) (hc44 mVf) (hc45 mVc) (hc46 mAr) (hc47 mTc) (hc48 mFt) (hc49 mGo) dyn, 0, 0) _
    refine pm_brT (g := (73, [(4, .int b), (3, .int a), (0, .ref 25), (1, .int a), (2, .int b)], [], hq g c1 c2 c3 c4 c5 c6 c7 c8 c9 c10 c11 c12 c13 c14 c15 c16 c17 c18 c19 c20 c21 c22 c23 c24 (hc25 mTy mTm mMn mFn mRn mTn mVn mLr mTr mFl mFm mFp mSc mMp mEn) (hc26 mPa) (hc27 mTo) (hc28 mOt) (hc29 mNa) (hc30 mRe) (hc31 mMa) (hc32 mMy) (hc33 mPm) (hc34 mFy) (hc35 mFa) (hc36 mFr) (hc37 mFo) (hc38 mRt) (hc39 mRm) (hc40 mTt) (hc41 mTi) (hc42 mPl) (hc43 mVr) (hc44 mVf) (hc45 mVc) (hc46 mAr) (hc47 mTc) (hc48 mFt) (hc49 mGo) dyn, 0, 0)) rfl ?_
    refine pm_go (g := (74, _, [.int a], _, 0, 0)) rfl ?_
    refine pm_go (g := (76, _, [.int b, .int a], _, 0, 0)) rfl ?_
    refine pm_if2 (g := (83, [(4, .int b), (3, .int a), (0, .ref 25), (1, .int a), (2, .int b)], [], hq g c1 c2 c3 c4 c5 c6 c7 c8 c9 c10 c11 c12 c13 c14 c15 c16 c17 c18 c19 c20 c21 c22 c23 c24 (hc25 mTy mTm mMn mFn mRn mTn mVn mLr mTr mFl mFm mFp mSc mMp mEn) (hc26 mPa) (hc27 mTo) (hc28 mOt) (hc29 mNa) (hc30 mRe) (hc31 mMa) (hc32 mMy) (hc33 mPm) (hc34 mFy) (hc35 mFa) (hc36 mFr) (hc37 mFo) (hc38 mRt) (hc39 mRm) (hc40 mTt) (hc41 mTi) (hc42 mPl) (hc43 mVr) (hc44 mVf) (hc45 mVc) (hc46 mAr) (hc47 mTc) (hc48 mFt) (hc49 mGo) dyn, 0, 0)) (h := (79, [(4, .int b), (3, .int a), (0, .ref 25), (1, .int a), (2, .int b)], [], hq g c1 c2 c3 c4 c5 c6 c7 c8 c9 c10 c11 c12 c13 c14 c15 c16 c17 c18 c19 c20 c21 c22 c23 c24 (hc25 mTy mTm mMn mFn mRn mTn mVn mLr mTr mFl mFm mFp mSc mMp mEn) (hc26 mPa) (hc27 mTo) (hc28 mOt) (hc29 mNa) (hc30 mRe) (hc31 mMa) (hc32 mMy) (hc33 mPm) (hc34 mFy) (hc35 mFa) (hc36 mFr) (hc37 mFo) (hc38 mRt) (hc39 mRm) (hc40 mTt) (hc41 mTi) (hc42 mPl) (hc43 mVr) (hc44 mVf) (hc45 mVc) (hc46 mAr) (hc47 mTc) (hc48 mFt) (hc49 mGo) dyn, 0, 0)) rfl (fun h70 => ?_) (fun h70 => ?_)
    ·
      have h70 := qT_ne (cx := (a).toInt) (cy := (b).toInt) rfl rfl h70
      refine pm_go (g := (84, _, [.int 0], _, 0, 0)) rfl ?_
      exact pm_ret rfl (k1 (by rw [hu]; exact uR_out (by omega) (by omega)))
    have h70 := qF_ne (cx := (a).toInt) (cy := (b).toInt) rfl rfl h70
    refine pm_go (g := (80, _, [.int 1], _, 0, 0)) rfl ?_
    refine pm_go (g := (84, _, [.int 1], _, 0, 0)) rfl ?_
    exact pm_ret rfl (k0 (by rw [hu]; exact uR_eq (by omega)))
  have h36 := qF_ne (cx := (b).toInt) (cy := 0) rfl (by decide) h36
  refine pm_go (g := (17, _, [.int 1], _, 0, 0)) rfl ?_
  exact pm_ret rfl (k0 (uM_1 (by omega)))
/-- the reference's isLoose -/
def lM (f : Nat → Int32) (a b : Int32) : Prop := uM f a b = true ∨ (a.toInt = 10 ∧ uM f 1 b = true) ∨ (a.toInt = 1 ∧ b.toInt = 10)
/-- a type's number, with VOID -/
def anyT (ty : Int32) (t : Int32) : Prop := ((0 ≤ t.toInt ∧ t.toInt < ty.toInt) ∨ t.toInt = 10 ∨ (20 ≤ t.toInt ∧ t.toInt < 20 + ty.toInt) ∨ t.toInt = 30) ∨ t.toInt = 11
end
section
/-- as many places are alike, from the k-th on -/
def smL (my pm : Nat → Int32) (m o : Int32) (k : Nat) : Prop := ∀ j : Nat, k ≤ j → (j : Int) < (my m.toNatClampNeg).toInt → pm (3 * m + nI j).toNatClampNeg = pm (3 * o + nI j).toNatClampNeg
/-- the reference's isSame -/
def smM (na my pm : Nat → Int32) (m o : Int32) : Prop := na m.toNatClampNeg = na o.toNatClampNeg ∧ my m.toNatClampNeg = my o.toNatClampNeg ∧ smL my pm m o 0
def myD (my : Nat → Int32) : Prop := ∀ j : Nat, j < 40 → 0 ≤ (my j).toInt ∧ (my j).toInt ≤ 3
theorem xJ {a b : Int32} (h : a.toInt = b.toInt) : a = b := Int32.toInt_inj.mp h
theorem xK {a b : Int32} (h : a.toInt ≠ b.toInt) : a ≠ b := fun q => h (by rw [q])
theorem myD_at {my : Nat → Int32} (h : myD my) {m : Int32} (h0 : 0 ≤ m.toInt) (h1 : m.toInt < 40) : 0 ≤ (my m.toNatClampNeg).toInt ∧ (my m.toNatClampNeg).toInt ≤ 3 := h _ (by have := xN h0; omega)
set_option maxRecDepth 100000 in
set_option maxHeartbeats 4000000 in
theorem w_isSame_loop {g c1 c2 c3 c4 c5 c6 c7 c8 c9 c10 c11 c12 c13 c14 c15 c16 c17 c18 c19 c20 c21 c22 c23 c24 : pm_C} {dyn : pm_H} {mTy : Int32} {mPa : Nat → Int32} {mTo : Nat → Int32} {mTm : Int32} {mMn : Int32} {mOt : Nat → Int32} {mNa : Nat → Int32} {mRe : Nat → Int32} {mMa : Nat → Int32} {mMy : Nat → Int32} {mPm : Nat → Int32} {mFn : Int32} {mFy : Nat → Int32} {mFa : Nat → Int32} {mFr : Nat → Int32} {mRn : Int32} {mFo : Nat → Int32} {mRt : Nat → Int32} {mRm : Nat → Int32} {mTn : Int32} {mTt : Nat → Int32} {mTi : Nat → Int32} {mPl : Nat → Int32} {mVn : Int32} {mVr : Nat → Int32} {mVf : Nat → Int32} {mVc : Nat → Int32} {mAr : Nat → Int32} {mLr : Int32} {mTc : Nat → Int32} {mTr : Int32} {mFl : Int32} {mFt : Nat → Int32} {mFm : Int32} {mFp : Int32} {mSc : Int32} {mMp : Int32} {mEn : Int32} {mGo : Nat → Int32} {Q : pm_Q} (m o : Int32) (hm : 0 ≤ m.toInt ∧ m.toInt < 40) (ho : 0 ≤ o.toInt ∧ o.toInt < 40) (hy : myD mMy) : ∀ (n k : Nat), (k ≤ 3) → (3 < k + n) → (smL mMy mPm m o k → Q (some (.int 1)) (hq g c1 c2 c3 c4 c5 c6 c7 c8 c9 c10 c11 c12 c13 c14 c15 c16 c17 c18 c19 c20 c21 c22 c23 c24 (hc25 mTy mTm mMn mFn mRn mTn mVn mLr mTr mFl mFm mFp mSc mMp mEn) (hc26 mPa) (hc27 mTo) (hc28 mOt) (hc29 mNa) (hc30 mRe) (hc31 mMa) (hc32 mMy) (hc33 mPm) (hc34 mFy) (hc35 mFa) (hc36 mFr) (hc37 mFo) (hc38 mRt) (hc39 mRm) (hc40 mTt) (hc41 mTi) (hc42 mPl) (hc43 mVr) (hc44 mVf) (hc45 mVc) (hc46 mAr) (hc47 mTc) (hc48 mFt) (hc49 mGo) dyn)) → (¬ smL mMy mPm m o k → Q (some (.int 0)) (hq g c1 c2 c3 c4 c5 c6 c7 c8 c9 c10 c11 c12 c13 c14 c15 c16 c17 c18 c19 c20 c21 c22 c23 c24 (hc25 mTy mTm mMn mFn mRn mTn mVn mLr mTr mFl mFm mFp mSc mMp mEn) (hc26 mPa) (hc27 mTo) (hc28 mOt) (hc29 mNa) (hc30 mRe) (hc31 mMa) (hc32 mMy) (hc33 mPm) (hc34 mFy) (hc35 mFa) (hc36 mFr) (hc37 mFo) (hc38 mRt) (hc39 mRm) (hc40 mTt) (hc41 mTi) (hc42 mPl) (hc43 mVr) (hc44 mVf) (hc45 mVc) (hc46 mAr) (hc47 mTc) (hc48 mFt) (hc49 mGo) dyn)) → pm_WP 140 (39, [(4, .int (nI k)), (3, .int 1), (0, .ref 25), (1, .int m), (2, .int o)], [], hq g c1 c2 c3 c4 c5 c6 c7 c8 c9 c10 c11 c12 c13 c14 c15 c16 c17 c18 c19 c20 c21 c22 c23 c24 (hc25 mTy mTm mMn mFn mRn mTn mVn mLr mTr mFl mFm mFp mSc mMp mEn) (hc26 mPa) (hc27 mTo) (hc28 mOt) (hc29 mNa) (hc30 mRe) (hc31 mMa) (hc32 mMy) (hc33 mPm) (hc34 mFy) (hc35 mFa) (hc36 mFr) (hc37 mFo) (hc38 mRt) (hc39 mRm) (hc40 mTt) (hc41 mTi) (hc42 mPl) (hc43 mVr) (hc44 mVf) (hc45 mVc) (hc46 mAr) (hc47 mTc) (hc48 mFt) (hc49 mGo) dyn, 0, 0) Q := by
  intro n
  induction n with
  | zero =>
    intro k g1 g2 k0 k1
    exfalso; omega
  | succ n ih =>
    intro k g1 g2 k0 k1
    have hk := nI_toInt (n := k) (by omega)
    have hkc : (nI k).toNatClampNeg = k := nI_clamp (by omega)
    have hyy := myD_at hy hm.1 hm.2
    refine pm_go (g := (40, [(4, .int (nI k)), (3, .int 1), (0, .ref 25), (1, .int m), (2, .int o)], [.int 1], hq g c1 c2 c3 c4 c5 c6 c7 c8 c9 c10 c11 c12 c13 c14 c15 c16 c17 c18 c19 c20 c21 c22 c23 c24 (hc25 mTy mTm mMn mFn mRn mTn mVn mLr mTr mFl mFm mFp mSc mMp mEn) (hc26 mPa) (hc27 mTo) (hc28 mOt) (hc29 mNa) (hc30 mRe) (hc31 mMa) (hc32 mMy) (hc33 mPm) (hc34 mFy) (hc35 mFa) (hc36 mFr) (hc37 mFo) (hc38 mRt) (hc39 mRm) (hc40 mTt) (hc41 mTi) (hc42 mPl) (hc43 mVr) (hc44 mVf) (hc45 mVc) (hc46 mAr) (hc47 mTc) (hc48 mFt) (hc49 mGo) dyn, 0, 0)) rfl ?_
    refine pm_brF (h := (43, [(4, .int (nI k)), (3, .int 1), (0, .ref 25), (1, .int m), (2, .int o)], [], hq g c1 c2 c3 c4 c5 c6 c7 c8 c9 c10 c11 c12 c13 c14 c15 c16 c17 c18 c19 c20 c21 c22 c23 c24 (hc25 mTy mTm mMn mFn mRn mTn mVn mLr mTr mFl mFm mFp mSc mMp mEn) (hc26 mPa) (hc27 mTo) (hc28 mOt) (hc29 mNa) (hc30 mRe) (hc31 mMa) (hc32 mMy) (hc33 mPm) (hc34 mFy) (hc35 mFa) (hc36 mFr) (hc37 mFo) (hc38 mRt) (hc39 mRm) (hc40 mTt) (hc41 mTi) (hc42 mPl) (hc43 mVr) (hc44 mVf) (hc45 mVc) (hc46 mAr) (hc47 mTc) (hc48 mFt) (hc49 mGo) dyn, 0, 0)) rfl ?_
    refine pm_go (g := (45, _, [.int (nI k)], _, 0, 0)) rfl ?_
    refine pm_go (g := (46, _, [.ref 25, .int (nI k)], _, 0, 0)) rfl ?_
    refine pm_go (g := (49, _, [.ref 32, .int (nI k)], _, 0, 0)) rfl ?_
    refine pm_go (g := (50, _, [.int m, .ref 32, .int (nI k)], _, 0, 0)) rfl ?_
    refine pm_sd (g := (51, _, [.int (mMy (m).toNatClampNeg), .int (nI k)], _, 0, 0)) rfl (pm_inI (by omega) (by omega)) ?_
    refine pm_if2 (g := (91, [(4, .int (nI k)), (3, .int 1), (0, .ref 25), (1, .int m), (2, .int o)], [], hq g c1 c2 c3 c4 c5 c6 c7 c8 c9 c10 c11 c12 c13 c14 c15 c16 c17 c18 c19 c20 c21 c22 c23 c24 (hc25 mTy mTm mMn mFn mRn mTn mVn mLr mTr mFl mFm mFp mSc mMp mEn) (hc26 mPa) (hc27 mTo) (hc28 mOt) (hc29 mNa) (hc30 mRe) (hc31 mMa) (hc32 mMy) (hc33 mPm) (hc34 mFy) (hc35 mFa) (hc36 mFr) (hc37 mFo) (hc38 mRt) (hc39 mRm) (hc40 mTt) (hc41 mTi) (hc42 mPl) (hc43 mVr) (hc44 mVf) (hc45 mVc) (hc46 mAr) (hc47 mTc) (hc48 mFt) (hc49 mGo) dyn, 0, 0)) (h := (54, [(4, .int (nI k)), (3, .int 1), (0, .ref 25), (1, .int m), (2, .int o)], [], hq g c1 c2 c3 c4 c5 c6 c7 c8 c9 c10 c11 c12 c13 c14 c15 c16 c17 c18 c19 c20 c21 c22 c23 c24 (hc25 mTy mTm mMn mFn mRn mTn mVn mLr mTr mFl mFm mFp mSc mMp mEn) (hc26 mPa) (hc27 mTo) (hc28 mOt) (hc29 mNa) (hc30 mRe) (hc31 mMa) (hc32 mMy) (hc33 mPm) (hc34 mFy) (hc35 mFa) (hc36 mFr) (hc37 mFo) (hc38 mRt) (hc39 mRm) (hc40 mTt) (hc41 mTi) (hc42 mPl) (hc43 mVr) (hc44 mVf) (hc45 mVc) (hc46 mAr) (hc47 mTc) (hc48 mFt) (hc49 mGo) dyn, 0, 0)) rfl (fun h1 => ?_) (fun h1 => ?_)
    ·
      have h1 := qT_ge (cx := (nI k).toInt) (cy := (mMy (m).toNatClampNeg).toInt) rfl rfl h1
      refine pm_go (g := (92, _, [.int 1], _, 0, 0)) rfl ?_
      exact pm_ret rfl (k0 (fun j g1 g2 => absurd g2 (by omega)))
    have h1 := qF_ge (cx := (nI k).toInt) (cy := (mMy (m).toNatClampNeg).toInt) rfl rfl h1
    refine pm_go (g := (55, _, [.ref 25], _, 0, 0)) rfl ?_
    refine pm_go (g := (58, _, [.ref 33], _, 0, 0)) rfl ?_
    refine pm_go (g := (59, _, [.int 3, .ref 33], _, 0, 0)) rfl ?_
    refine pm_go (g := (60, _, [.int m, .int 3, .ref 33], _, 0, 0)) rfl ?_
    refine pm_go (g := (61, _, [.int (3 * m), .ref 33], _, 0, 0)) rfl ?_
    try have h2 : (3 * m).toInt = 3 * (m).toInt := iMul (x := 3) (y := (m).toInt) (by decide) rfl (by omega) (by omega)
    refine pm_go (g := (63, _, [.int (nI k), .int (3 * m), .ref 33], _, 0, 0)) rfl ?_
    refine pm_go (g := (64, _, [.int ((3 * m) + (nI k)), .ref 33], _, 0, 0)) rfl ?_
    try have h3 : ((3 * m) + (nI k)).toInt = (3 * m).toInt + (nI k).toInt := iAdd (x := (3 * m).toInt) (y := (nI k).toInt) rfl rfl (by omega) (by omega)
    refine pm_sd (g := (65, _, [.int (mPm ((3 * m) + (nI k)).toNatClampNeg)], _, 0, 0)) rfl (pm_inI (by omega) (by omega)) ?_
    refine pm_go (g := (66, _, [.ref 25, .int (mPm ((3 * m) + (nI k)).toNatClampNeg)], _, 0, 0)) rfl ?_
    refine pm_go (g := (69, _, [.ref 33, .int (mPm ((3 * m) + (nI k)).toNatClampNeg)], _, 0, 0)) rfl ?_
    refine pm_go (g := (70, _, [.int 3, .ref 33, .int (mPm ((3 * m) + (nI k)).toNatClampNeg)], _, 0, 0)) rfl ?_
    refine pm_go (g := (71, _, [.int o, .int 3, .ref 33, .int (mPm ((3 * m) + (nI k)).toNatClampNeg)], _, 0, 0)) rfl ?_
    refine pm_go (g := (72, _, [.int (3 * o), .ref 33, .int (mPm ((3 * m) + (nI k)).toNatClampNeg)], _, 0, 0)) rfl ?_
    try have h4 : (3 * o).toInt = 3 * (o).toInt := iMul (x := 3) (y := (o).toInt) (by decide) rfl (by omega) (by omega)
    refine pm_go (g := (74, _, [.int (nI k), .int (3 * o), .ref 33, .int (mPm ((3 * m) + (nI k)).toNatClampNeg)], _, 0, 0)) rfl ?_
    refine pm_go (g := (75, _, [.int ((3 * o) + (nI k)), .ref 33, .int (mPm ((3 * m) + (nI k)).toNatClampNeg)], _, 0, 0)) rfl ?_
    try have h5 : ((3 * o) + (nI k)).toInt = (3 * o).toInt + (nI k).toInt := iAdd (x := (3 * o).toInt) (y := (nI k).toInt) rfl rfl (by omega) (by omega)
    refine pm_sd (g := (76, _, [.int (mPm ((3 * o) + (nI k)).toNatClampNeg), .int (mPm ((3 * m) + (nI k)).toNatClampNeg)], _, 0, 0)) rfl (pm_inI (by omega) (by omega)) ?_
    refine pm_if2 (g := (83, [(4, .int (nI k)), (3, .int 1), (0, .ref 25), (1, .int m), (2, .int o)], [], hq g c1 c2 c3 c4 c5 c6 c7 c8 c9 c10 c11 c12 c13 c14 c15 c16 c17 c18 c19 c20 c21 c22 c23 c24 (hc25 mTy mTm mMn mFn mRn mTn mVn mLr mTr mFl mFm mFp mSc mMp mEn) (hc26 mPa) (hc27 mTo) (hc28 mOt) (hc29 mNa) (hc30 mRe) (hc31 mMa) (hc32 mMy) (hc33 mPm) (hc34 mFy) (hc35 mFa) (hc36 mFr) (hc37 mFo) (hc38 mRt) (hc39 mRm) (hc40 mTt) (hc41 mTi) (hc42 mPl) (hc43 mVr) (hc44 mVf) (hc45 mVc) (hc46 mAr) (hc47 mTc) (hc48 mFt) (hc49 mGo) dyn, 0, 0)) (h := (79, [(4, .int (nI k)), (3, .int 1), (0, .ref 25), (1, .int m), (2, .int o)], [], hq g c1 c2 c3 c4 c5 c6 c7 c8 c9 c10 c11 c12 c13 c14 c15 c16 c17 c18 c19 c20 c21 c22 c23 c24 (hc25 mTy mTm mMn mFn mRn mTn mVn mLr mTr mFl mFm mFp mSc mMp mEn) (hc26 mPa) (hc27 mTo) (hc28 mOt) (hc29 mNa) (hc30 mRe) (hc31 mMa) (hc32 mMy) (hc33 mPm) (hc34 mFy) (hc35 mFa) (hc36 mFr) (hc37 mFo) (hc38 mRt) (hc39 mRm) (hc40 mTt) (hc41 mTi) (hc42 mPl) (hc43 mVr) (hc44 mVf) (hc45 mVc) (hc46 mAr) (hc47 mTc) (hc48 mFt) (hc49 mGo) dyn, 0, 0)) rfl (fun h6 => ?_) (fun h6 => ?_)
    ·
      have h6 := qT_ne (cx := (mPm ((3 * m) + (nI k)).toNatClampNeg).toInt) (cy := (mPm ((3 * o) + (nI k)).toNatClampNeg).toInt) rfl rfl h6
      refine pm_go (g := (84, _, [.int 0], _, 0, 0)) rfl ?_
      refine pm_go (g := (85, [(3, .int 0), (4, .int (nI k)), (0, .ref 25), (1, .int m), (2, .int o)], [], _, 0, 0)) rfl ?_
      refine pm_go (g := (88, [(4, .int ((nI k) + 1)), (3, .int 0), (0, .ref 25), (1, .int m), (2, .int o)], [], _, 0, 0)) rfl ?_
      refine pm_go (g := (39, _, [], _, 0, 0)) rfl ?_
      refine pm_go (g := (40, _, [.int 0], _, 0, 0)) rfl ?_
      refine pm_brT (g := (91, [(4, .int ((nI k) + 1)), (3, .int 0), (0, .ref 25), (1, .int m), (2, .int o)], [], hq g c1 c2 c3 c4 c5 c6 c7 c8 c9 c10 c11 c12 c13 c14 c15 c16 c17 c18 c19 c20 c21 c22 c23 c24 (hc25 mTy mTm mMn mFn mRn mTn mVn mLr mTr mFl mFm mFp mSc mMp mEn) (hc26 mPa) (hc27 mTo) (hc28 mOt) (hc29 mNa) (hc30 mRe) (hc31 mMa) (hc32 mMy) (hc33 mPm) (hc34 mFy) (hc35 mFa) (hc36 mFr) (hc37 mFo) (hc38 mRt) (hc39 mRm) (hc40 mTt) (hc41 mTi) (hc42 mPl) (hc43 mVr) (hc44 mVf) (hc45 mVc) (hc46 mAr) (hc47 mTc) (hc48 mFt) (hc49 mGo) dyn, 0, 0)) rfl ?_
      refine pm_go (g := (92, _, [.int 0], _, 0, 0)) rfl ?_
      exact pm_ret rfl (k1 (fun q => absurd (q k (Nat.le_refl k) (by omega)) (xK (by omega))))
    have h6 := qF_ne (cx := (mPm ((3 * m) + (nI k)).toNatClampNeg).toInt) (cy := (mPm ((3 * o) + (nI k)).toNatClampNeg).toInt) rfl rfl h6
    refine pm_go (g := (80, [(4, .int (nI k)), (3, .int 1), (0, .ref 25), (1, .int m), (2, .int o)], [.int 1], _, 0, 0)) rfl ?_
    refine pm_go (g := (84, _, [.int 1], _, 0, 0)) rfl ?_
    refine pm_go (g := (85, [(3, .int 1), (4, .int (nI k)), (0, .ref 25), (1, .int m), (2, .int o)], [], _, 0, 0)) rfl ?_
    refine pm_go (g := (88, [(4, .int ((nI k) + 1)), (3, .int 1), (0, .ref 25), (1, .int m), (2, .int o)], [], _, 0, 0)) rfl ?_
    refine pm_go (g := (39, _, [], _, 0, 0)) rfl ?_
    rw [nI_1]
    refine ih (k + 1) (by omega) (by omega) (fun h => k0 (fun j g1 g2 => ?_)) (fun h => k1 (fun q => h (fun j g1 g2 => q j (by omega) g2)))
    rcases Nat.eq_or_lt_of_le g1 with e9 | e9
    · subst e9; exact xJ (by omega)
    · exact h j e9 g2
set_option maxRecDepth 100000 in
set_option maxHeartbeats 4000000 in
theorem w_X12_isSame {g c1 c2 c3 c4 c5 c6 c7 c8 c9 c10 c11 c12 c13 c14 c15 c16 c17 c18 c19 c20 c21 c22 c23 c24 : pm_C} {dyn : pm_H} {mTy : Int32} {mPa : Nat → Int32} {mTo : Nat → Int32} {mTm : Int32} {mMn : Int32} {mOt : Nat → Int32} {mNa : Nat → Int32} {mRe : Nat → Int32} {mMa : Nat → Int32} {mMy : Nat → Int32} {mPm : Nat → Int32} {mFn : Int32} {mFy : Nat → Int32} {mFa : Nat → Int32} {mFr : Nat → Int32} {mRn : Int32} {mFo : Nat → Int32} {mRt : Nat → Int32} {mRm : Nat → Int32} {mTn : Int32} {mTt : Nat → Int32} {mTi : Nat → Int32} {mPl : Nat → Int32} {mVn : Int32} {mVr : Nat → Int32} {mVf : Nat → Int32} {mVc : Nat → Int32} {mAr : Nat → Int32} {mLr : Int32} {mTc : Nat → Int32} {mTr : Int32} {mFl : Int32} {mFt : Nat → Int32} {mFm : Int32} {mFp : Int32} {mSc : Int32} {mMp : Int32} {mEn : Int32} {mGo : Nat → Int32} {Q : pm_Q} (m : Int32) (o : Int32) (p0 : 0 ≤ m.toInt ∧ m.toInt < 40) (p1 : 0 ≤ o.toInt ∧ o.toInt < 40) (p2 : myD mMy) (k0 : smM mNa mMy mPm m o → Q (some (.int 1)) (hq g c1 c2 c3 c4 c5 c6 c7 c8 c9 c10 c11 c12 c13 c14 c15 c16 c17 c18 c19 c20 c21 c22 c23 c24 (hc25 mTy mTm mMn mFn mRn mTn mVn mLr mTr mFl mFm mFp mSc mMp mEn) (hc26 mPa) (hc27 mTo) (hc28 mOt) (hc29 mNa) (hc30 mRe) (hc31 mMa) (hc32 mMy) (hc33 mPm) (hc34 mFy) (hc35 mFa) (hc36 mFr) (hc37 mFo) (hc38 mRt) (hc39 mRm) (hc40 mTt) (hc41 mTi) (hc42 mPl) (hc43 mVr) (hc44 mVf) (hc45 mVc) (hc46 mAr) (hc47 mTc) (hc48 mFt) (hc49 mGo) dyn)) (k1 : ¬ smM mNa mMy mPm m o → Q (some (.int 0)) (hq g c1 c2 c3 c4 c5 c6 c7 c8 c9 c10 c11 c12 c13 c14 c15 c16 c17 c18 c19 c20 c21 c22 c23 c24 (hc25 mTy mTm mMn mFn mRn mTn mVn mLr mTr mFl mFm mFp mSc mMp mEn) (hc26 mPa) (hc27 mTo) (hc28 mOt) (hc29 mNa) (hc30 mRe) (hc31 mMa) (hc32 mMy) (hc33 mPm) (hc34 mFy) (hc35 mFa) (hc36 mFr) (hc37 mFo) (hc38 mRt) (hc39 mRm) (hc40 mTt) (hc41 mTi) (hc42 mPl) (hc43 mVr) (hc44 mVf) (hc45 mVc) (hc46 mAr) (hc47 mTc) (hc48 mFt) (hc49 mGo) dyn)) : pm_WP 140 (0, [(0, .ref 25), (1, .int m), (2, .int o)], [], hq g c1 c2 c3 c4 c5 c6 c7 c8 c9 c10 c11 c12 c13 c14 c15 c16 c17 c18 c19 c20 c21 c22 c23 c24 (hc25 mTy mTm mMn mFn mRn mTn mVn mLr mTr mFl mFm mFp mSc mMp mEn) (hc26 mPa) (hc27 mTo) (hc28 mOt) (hc29 mNa) (hc30 mRe) (hc31 mMa) (hc32 mMy) (hc33 mPm) (hc34 mFy) (hc35 mFa) (hc36 mFr) (hc37 mFo) (hc38 mRt) (hc39 mRm) (hc40 mTt) (hc41 mTi) (hc42 mPl) (hc43 mVr) (hc44 mVf) (hc45 mVc) (hc46 mAr) (hc47 mTc) (hc48 mFt) (hc49 mGo) dyn, 0, 0) Q := by
  refine pm_go (g := (1, [(0, .ref 25), (1, .int m), (2, .int o)], [.ref 25], hq g c1 c2 c3 c4 c5 c6 c7 c8 c9 c10 c11 c12 c13 c14 c15 c16 c17 c18 c19 c20 c21 c22 c23 c24 (hc25 mTy mTm mMn mFn mRn mTn mVn mLr mTr mFl mFm mFp mSc mMp mEn) (hc26 mPa) (hc27 mTo) (hc28 mOt) (hc29 mNa) (hc30 mRe) (hc31 mMa) (hc32 mMy) (hc33 mPm) (hc34 mFy) (hc35 mFa) (hc36 mFr) (hc37 mFo) (hc38 mRt) (hc39 mRm) (hc40 mTt) (hc41 mTi) (hc42 mPl) (hc43 mVr) (hc44 mVf) (hc45 mVc) (hc46 mAr) (hc47 mTc) (hc48 mFt) (hc49 mGo) dyn, 0, 0)) rfl ?_
  refine pm_go (g := (4, _, [.ref 29], _, 0, 0)) rfl ?_
  refine pm_go (g := (5, _, [.int m, .ref 29], _, 0, 0)) rfl ?_
  refine pm_sd (g := (6, _, [.int (mNa (m).toNatClampNeg)], _, 0, 0)) rfl (pm_inI (by omega) (by omega)) ?_
  refine pm_go (g := (7, _, [.ref 25, .int (mNa (m).toNatClampNeg)], _, 0, 0)) rfl ?_
  refine pm_go (g := (10, _, [.ref 29, .int (mNa (m).toNatClampNeg)], _, 0, 0)) rfl ?_
  refine pm_go (g := (11, _, [.int o, .ref 29, .int (mNa (m).toNatClampNeg)], _, 0, 0)) rfl ?_
  refine pm_sd (g := (12, _, [.int (mNa (o).toNatClampNeg), .int (mNa (m).toNatClampNeg)], _, 0, 0)) rfl (pm_inI (by omega) (by omega)) ?_
  refine pm_if2 (g := (34, [(0, .ref 25), (1, .int m), (2, .int o)], [], hq g c1 c2 c3 c4 c5 c6 c7 c8 c9 c10 c11 c12 c13 c14 c15 c16 c17 c18 c19 c20 c21 c22 c23 c24 (hc25 mTy mTm mMn mFn mRn mTn mVn mLr mTr mFl mFm mFp mSc mMp mEn) (hc26 mPa) (hc27 mTo) (hc28 mOt) (hc29 mNa) (hc30 mRe) (hc31 mMa) (hc32 mMy) (hc33 mPm) (hc34 mFy) (hc35 mFa) (hc36 mFr) (hc37 mFo) (hc38 mRt) (hc39 mRm) (hc40 mTt) (hc41 mTi) (hc42 mPl) (hc43 mVr) (hc44 mVf) (hc45 mVc) (hc46 mAr) (hc47 mTc) (hc48 mFt) (hc49 mGo) dyn, 0, 0)) (h := (15, [(0, .ref 25), (1, .int m), (2, .int o)], [], hq g c1 c2 c3 c4 c5 c6 c7 c8 c9 c10 c11 c12 c13 c14 c15 c16 c17 c18 c19 c20 c21 c22 c23 c24 (hc25 mTy mTm mMn mFn mRn mTn mVn mLr mTr mFl mFm mFp mSc mMp mEn) (hc26 mPa) (hc27 mTo) (hc28 mOt) (hc29 mNa) (hc30 mRe) (hc31 mMa) (hc32 mMy) (hc33 mPm) (hc34 mFy) (hc35 mFa) (hc36 mFr) (hc37 mFo) (hc38 mRt) (hc39 mRm) (hc40 mTt) (hc41 mTi) (hc42 mPl) (hc43 mVr) (hc44 mVf) (hc45 mVc) (hc46 mAr) (hc47 mTc) (hc48 mFt) (hc49 mGo) dyn, 0, 0)) rfl (fun h1 => ?_) (fun h1 => ?_)
  ·
    have h1 := qT_ne (cx := (mNa (m).toNatClampNeg).toInt) (cy := (mNa (o).toNatClampNeg).toInt) rfl rfl h1
    refine pm_go (g := (35, _, [.int 0], _, 0, 0)) rfl ?_
    refine pm_go (g := (36, [(3, .int 0), (0, .ref 25), (1, .int m), (2, .int o)], [], _, 0, 0)) rfl ?_
    refine pm_go (g := (37, _, [.int 0], _, 0, 0)) rfl ?_
    refine pm_go (g := (39, [(4, .int 0), (3, .int 0), (0, .ref 25), (1, .int m), (2, .int o)], [], _, 0, 0)) rfl ?_
    refine pm_go (g := (40, _, [.int 0], _, 0, 0)) rfl ?_
    refine pm_brT (g := (91, [(4, .int 0), (3, .int 0), (0, .ref 25), (1, .int m), (2, .int o)], [], hq g c1 c2 c3 c4 c5 c6 c7 c8 c9 c10 c11 c12 c13 c14 c15 c16 c17 c18 c19 c20 c21 c22 c23 c24 (hc25 mTy mTm mMn mFn mRn mTn mVn mLr mTr mFl mFm mFp mSc mMp mEn) (hc26 mPa) (hc27 mTo) (hc28 mOt) (hc29 mNa) (hc30 mRe) (hc31 mMa) (hc32 mMy) (hc33 mPm) (hc34 mFy) (hc35 mFa) (hc36 mFr) (hc37 mFo) (hc38 mRt) (hc39 mRm) (hc40 mTt) (hc41 mTi) (hc42 mPl) (hc43 mVr) (hc44 mVf) (hc45 mVc) (hc46 mAr) (hc47 mTc) (hc48 mFt) (hc49 mGo) dyn, 0, 0)) rfl ?_
    refine pm_go (g := (92, _, [.int 0], _, 0, 0)) rfl ?_
    exact pm_ret rfl (k1 (fun q => by have e1 := congrArg Int32.toInt q.1; have e2 := congrArg Int32.toInt q.2.1; omega))
  have h1 := qF_ne (cx := (mNa (m).toNatClampNeg).toInt) (cy := (mNa (o).toNatClampNeg).toInt) rfl rfl h1
  refine pm_go (g := (16, [(0, .ref 25), (1, .int m), (2, .int o)], [.ref 25], _, 0, 0)) rfl ?_
  refine pm_go (g := (19, _, [.ref 32], _, 0, 0)) rfl ?_
  refine pm_go (g := (20, _, [.int m, .ref 32], _, 0, 0)) rfl ?_
  refine pm_sd (g := (21, _, [.int (mMy (m).toNatClampNeg)], _, 0, 0)) rfl (pm_inI (by omega) (by omega)) ?_
  refine pm_go (g := (22, _, [.ref 25, .int (mMy (m).toNatClampNeg)], _, 0, 0)) rfl ?_
  refine pm_go (g := (25, _, [.ref 32, .int (mMy (m).toNatClampNeg)], _, 0, 0)) rfl ?_
  refine pm_go (g := (26, _, [.int o, .ref 32, .int (mMy (m).toNatClampNeg)], _, 0, 0)) rfl ?_
  refine pm_sd (g := (27, _, [.int (mMy (o).toNatClampNeg), .int (mMy (m).toNatClampNeg)], _, 0, 0)) rfl (pm_inI (by omega) (by omega)) ?_
  refine pm_if2 (g := (34, [(0, .ref 25), (1, .int m), (2, .int o)], [], hq g c1 c2 c3 c4 c5 c6 c7 c8 c9 c10 c11 c12 c13 c14 c15 c16 c17 c18 c19 c20 c21 c22 c23 c24 (hc25 mTy mTm mMn mFn mRn mTn mVn mLr mTr mFl mFm mFp mSc mMp mEn) (hc26 mPa) (hc27 mTo) (hc28 mOt) (hc29 mNa) (hc30 mRe) (hc31 mMa) (hc32 mMy) (hc33 mPm) (hc34 mFy) (hc35 mFa) (hc36 mFr) (hc37 mFo) (hc38 mRt) (hc39 mRm) (hc40 mTt) (hc41 mTi) (hc42 mPl) (hc43 mVr) (hc44 mVf) (hc45 mVc) (hc46 mAr) (hc47 mTc) (hc48 mFt) (hc49 mGo) dyn, 0, 0)) (h := (30, [(0, .ref 25), (1, .int m), (2, .int o)], [], hq g c1 c2 c3 c4 c5 c6 c7 c8 c9 c10 c11 c12 c13 c14 c15 c16 c17 c18 c19 c20 c21 c22 c23 c24 (hc25 mTy mTm mMn mFn mRn mTn mVn mLr mTr mFl mFm mFp mSc mMp mEn) (hc26 mPa) (hc27 mTo) (hc28 mOt) (hc29 mNa) (hc30 mRe) (hc31 mMa) (hc32 mMy) (hc33 mPm) (hc34 mFy) (hc35 mFa) (hc36 mFr) (hc37 mFo) (hc38 mRt) (hc39 mRm) (hc40 mTt) (hc41 mTi) (hc42 mPl) (hc43 mVr) (hc44 mVf) (hc45 mVc) (hc46 mAr) (hc47 mTc) (hc48 mFt) (hc49 mGo) dyn, 0, 0)) rfl (fun h2 => ?_) (fun h2 => ?_)
  ·
    have h2 := qT_ne (cx := (mMy (m).toNatClampNeg).toInt) (cy := (mMy (o).toNatClampNeg).toInt) rfl rfl h2
    refine pm_go (g := (35, _, [.int 0], _, 0, 0)) rfl ?_
    refine pm_go (g := (36, [(3, .int 0), (0, .ref 25), (1, .int m), (2, .int o)], [], _, 0, 0)) rfl ?_
    refine pm_go (g := (37, _, [.int 0], _, 0, 0)) rfl ?_
    refine pm_go (g := (39, [(4, .int 0), (3, .int 0), (0, .ref 25), (1, .int m), (2, .int o)], [], _, 0, 0)) rfl ?_
    refine pm_go (g := (40, _, [.int 0], _, 0, 0)) rfl ?_
    refine pm_brT (g := (91, [(4, .int 0), (3, .int 0), (0, .ref 25), (1, .int m), (2, .int o)], [], hq g c1 c2 c3 c4 c5 c6 c7 c8 c9 c10 c11 c12 c13 c14 c15 c16 c17 c18 c19 c20 c21 c22 c23 c24 (hc25 mTy mTm mMn mFn mRn mTn mVn mLr mTr mFl mFm mFp mSc mMp mEn) (hc26 mPa) (hc27 mTo) (hc28 mOt) (hc29 mNa) (hc30 mRe) (hc31 mMa) (hc32 mMy) (hc33 mPm) (hc34 mFy) (hc35 mFa) (hc36 mFr) (hc37 mFo) (hc38 mRt) (hc39 mRm) (hc40 mTt) (hc41 mTi) (hc42 mPl) (hc43 mVr) (hc44 mVf) (hc45 mVc) (hc46 mAr) (hc47 mTc) (hc48 mFt) (hc49 mGo) dyn, 0, 0)) rfl ?_
    refine pm_go (g := (92, _, [.int 0], _, 0, 0)) rfl ?_
    exact pm_ret rfl (k1 (fun q => by have e1 := congrArg Int32.toInt q.1; have e2 := congrArg Int32.toInt q.2.1; omega))
  have h2 := qF_ne (cx := (mMy (m).toNatClampNeg).toInt) (cy := (mMy (o).toNatClampNeg).toInt) rfl rfl h2
  refine pm_go (g := (31, [(0, .ref 25), (1, .int m), (2, .int o)], [.int 1], _, 0, 0)) rfl ?_
  refine pm_go (g := (35, _, [.int 1], _, 0, 0)) rfl ?_
  refine pm_go (g := (36, [(3, .int 1), (0, .ref 25), (1, .int m), (2, .int o)], [], _, 0, 0)) rfl ?_
  refine pm_go (g := (37, _, [.int 0], _, 0, 0)) rfl ?_
  refine pm_go (g := (39, [(4, .int 0), (3, .int 1), (0, .ref 25), (1, .int m), (2, .int o)], [], _, 0, 0)) rfl ?_
  exact w_isSame_loop m o p0 p1 p2 4 0 (by omega) (by omega) (fun h => k0 ⟨xJ (by omega), xJ (by omega), h⟩) (fun h => k1 (fun q => h q.2.2))
/-- o stands in the way of m, as c sees it -/
def ovM (pa ot na my pm : Nat → Int32) (c m o : Int32) : Prop := (ot o.toNatClampNeg).toInt ≠ (ot m.toNatClampNeg).toInt ∧ uM pa c (ot o.toNatClampNeg) = true ∧ uM pa (ot o.toNatClampNeg) (ot m.toNatClampNeg) = true ∧ smM na my pm o m
/-- the type that a row stands for -/
def cM (t : Int32) : Int32 := if 20 ≤ t.toInt then 0 else t
/-- the reference's isHad -/
def hadM (pa ot na my pm : Nat → Int32) (mn t m : Int32) : Prop := ((ot m.toNatClampNeg).toInt = (cM t).toInt ∧ ((na m.toNatClampNeg).toInt ≠ 6 ∨ (cM t).toInt = t.toInt)) ∨ ((ot m.toNatClampNeg).toInt ≠ (cM t).toInt ∧ (na m.toNatClampNeg).toInt ≠ 6 ∧ uM pa (cM t) (ot m.toNatClampNeg) = true ∧ ∀ j : Nat, (j : Int) < mn.toInt → ¬ ovM pa ot na my pm (cM t) m (nI j))
theorem cM_1 {t : Int32} (h : 20 ≤ t.toInt) : cM t = 0 := by unfold cM; rw [if_pos h]
theorem cM_2 {t : Int32} (h : t.toInt < 20) : cM t = t := by unfold cM; rw [if_neg (by omega)]
set_option maxRecDepth 100000 in
set_option maxHeartbeats 4000000 in
theorem w_isHad_loop {g c1 c2 c3 c4 c5 c6 c7 c8 c9 c10 c11 c12 c13 c14 c15 c16 c17 c18 c19 c20 c21 c22 c23 c24 : pm_C} {dyn : pm_H} {mTy : Int32} {mPa : Nat → Int32} {mTo : Nat → Int32} {mTm : Int32} {mMn : Int32} {mOt : Nat → Int32} {mNa : Nat → Int32} {mRe : Nat → Int32} {mMa : Nat → Int32} {mMy : Nat → Int32} {mPm : Nat → Int32} {mFn : Int32} {mFy : Nat → Int32} {mFa : Nat → Int32} {mFr : Nat → Int32} {mRn : Int32} {mFo : Nat → Int32} {mRt : Nat → Int32} {mRm : Nat → Int32} {mTn : Int32} {mTt : Nat → Int32} {mTi : Nat → Int32} {mPl : Nat → Int32} {mVn : Int32} {mVr : Nat → Int32} {mVf : Nat → Int32} {mVc : Nat → Int32} {mAr : Nat → Int32} {mLr : Int32} {mTc : Nat → Int32} {mTr : Int32} {mFl : Int32} {mFt : Nat → Int32} {mFm : Int32} {mFp : Int32} {mSc : Int32} {mMp : Int32} {mEn : Int32} {mGo : Nat → Int32} {Q : pm_Q} (t m c : Int32) (hm : 0 ≤ m.toInt ∧ m.toInt < 40) (hp : paD mPa) (hy : myD mMy) (hn : 0 ≤ mMn.toInt ∧ mMn.toInt ≤ 40) : ∀ (n k : Nat), (k ≤ 40) → (40 < k + n) → ((∀ j : Nat, k ≤ j → (j : Int) < mMn.toInt → ¬ ovM mPa mOt mNa mMy mPm c m (nI j)) → Q (some (.int 1)) (hq g c1 c2 c3 c4 c5 c6 c7 c8 c9 c10 c11 c12 c13 c14 c15 c16 c17 c18 c19 c20 c21 c22 c23 c24 (hc25 mTy mTm mMn mFn mRn mTn mVn mLr mTr mFl mFm mFp mSc mMp mEn) (hc26 mPa) (hc27 mTo) (hc28 mOt) (hc29 mNa) (hc30 mRe) (hc31 mMa) (hc32 mMy) (hc33 mPm) (hc34 mFy) (hc35 mFa) (hc36 mFr) (hc37 mFo) (hc38 mRt) (hc39 mRm) (hc40 mTt) (hc41 mTi) (hc42 mPl) (hc43 mVr) (hc44 mVf) (hc45 mVc) (hc46 mAr) (hc47 mTc) (hc48 mFt) (hc49 mGo) dyn)) → ((∃ j : Nat, k ≤ j ∧ (j : Int) < mMn.toInt ∧ ovM mPa mOt mNa mMy mPm c m (nI j)) → Q (some (.int 0)) (hq g c1 c2 c3 c4 c5 c6 c7 c8 c9 c10 c11 c12 c13 c14 c15 c16 c17 c18 c19 c20 c21 c22 c23 c24 (hc25 mTy mTm mMn mFn mRn mTn mVn mLr mTr mFl mFm mFp mSc mMp mEn) (hc26 mPa) (hc27 mTo) (hc28 mOt) (hc29 mNa) (hc30 mRe) (hc31 mMa) (hc32 mMy) (hc33 mPm) (hc34 mFy) (hc35 mFa) (hc36 mFr) (hc37 mFo) (hc38 mRt) (hc39 mRm) (hc40 mTt) (hc41 mTi) (hc42 mPl) (hc43 mVr) (hc44 mVf) (hc45 mVc) (hc46 mAr) (hc47 mTc) (hc48 mFt) (hc49 mGo) dyn)) → pm_WP 143 (74, [(4, .int (nI k)), (3, .int c), (0, .ref 25), (1, .int t), (2, .int m)], [], hq g c1 c2 c3 c4 c5 c6 c7 c8 c9 c10 c11 c12 c13 c14 c15 c16 c17 c18 c19 c20 c21 c22 c23 c24 (hc25 mTy mTm mMn mFn mRn mTn mVn mLr mTr mFl mFm mFp mSc mMp mEn) (hc26 mPa) (hc27 mTo) (hc28 mOt) (hc29 mNa) (hc30 mRe) (hc31 mMa) (hc32 mMy) (hc33 mPm) (hc34 mFy) (hc35 mFa) (hc36 mFr) (hc37 mFo) (hc38 mRt) (hc39 mRm) (hc40 mTt) (hc41 mTi) (hc42 mPl) (hc43 mVr) (hc44 mVf) (hc45 mVc) (hc46 mAr) (hc47 mTc) (hc48 mFt) (hc49 mGo) dyn, 0, 0) Q := by
  intro n
  induction n with
  | zero =>
    intro k g1 g2 k0 k1
    exfalso; omega
  | succ n ih =>
    intro k g1 g2 k0 k1
    have hk := nI_toInt (n := k) (by omega)
    have hkc : (nI k).toNatClampNeg = k := nI_clamp (by omega)
    refine pm_go (g := (76, [(4, .int (nI k)), (3, .int c), (0, .ref 25), (1, .int t), (2, .int m)], [.int (nI k)], hq g c1 c2 c3 c4 c5 c6 c7 c8 c9 c10 c11 c12 c13 c14 c15 c16 c17 c18 c19 c20 c21 c22 c23 c24 (hc25 mTy mTm mMn mFn mRn mTn mVn mLr mTr mFl mFm mFp mSc mMp mEn) (hc26 mPa) (hc27 mTo) (hc28 mOt) (hc29 mNa) (hc30 mRe) (hc31 mMa) (hc32 mMy) (hc33 mPm) (hc34 mFy) (hc35 mFa) (hc36 mFr) (hc37 mFo) (hc38 mRt) (hc39 mRm) (hc40 mTt) (hc41 mTi) (hc42 mPl) (hc43 mVr) (hc44 mVf) (hc45 mVc) (hc46 mAr) (hc47 mTc) (hc48 mFt) (hc49 mGo) dyn, 0, 0)) rfl ?_
    refine pm_go (g := (77, _, [.ref 25, .int (nI k)], _, 0, 0)) rfl ?_
    refine pm_go (g := (80, _, [.int mMn, .int (nI k)], _, 0, 0)) rfl ?_
    refine pm_if2 (g := (152, [(4, .int (nI k)), (3, .int c), (0, .ref 25), (1, .int t), (2, .int m)], [], hq g c1 c2 c3 c4 c5 c6 c7 c8 c9 c10 c11 c12 c13 c14 c15 c16 c17 c18 c19 c20 c21 c22 c23 c24 (hc25 mTy mTm mMn mFn mRn mTn mVn mLr mTr mFl mFm mFp mSc mMp mEn) (hc26 mPa) (hc27 mTo) (hc28 mOt) (hc29 mNa) (hc30 mRe) (hc31 mMa) (hc32 mMy) (hc33 mPm) (hc34 mFy) (hc35 mFa) (hc36 mFr) (hc37 mFo) (hc38 mRt) (hc39 mRm) (hc40 mTt) (hc41 mTi) (hc42 mPl) (hc43 mVr) (hc44 mVf) (hc45 mVc) (hc46 mAr) (hc47 mTc) (hc48 mFt) (hc49 mGo) dyn, 0, 0)) (h := (83, [(4, .int (nI k)), (3, .int c), (0, .ref 25), (1, .int t), (2, .int m)], [], hq g c1 c2 c3 c4 c5 c6 c7 c8 c9 c10 c11 c12 c13 c14 c15 c16 c17 c18 c19 c20 c21 c22 c23 c24 (hc25 mTy mTm mMn mFn mRn mTn mVn mLr mTr mFl mFm mFp mSc mMp mEn) (hc26 mPa) (hc27 mTo) (hc28 mOt) (hc29 mNa) (hc30 mRe) (hc31 mMa) (hc32 mMy) (hc33 mPm) (hc34 mFy) (hc35 mFa) (hc36 mFr) (hc37 mFo) (hc38 mRt) (hc39 mRm) (hc40 mTt) (hc41 mTi) (hc42 mPl) (hc43 mVr) (hc44 mVf) (hc45 mVc) (hc46 mAr) (hc47 mTc) (hc48 mFt) (hc49 mGo) dyn, 0, 0)) rfl (fun h1 => ?_) (fun h1 => ?_)
    ·
      have h1 := qT_ge (cx := (nI k).toInt) (cy := (mMn).toInt) rfl rfl h1
      refine pm_go (g := (153, _, [.int 1], _, 0, 0)) rfl ?_
      exact pm_ret rfl (k0 (fun j g1 g2 => absurd g2 (by omega)))
    have h1 := qF_ge (cx := (nI k).toInt) (cy := (mMn).toInt) rfl rfl h1
    refine pm_go (g := (84, _, [.ref 25], _, 0, 0)) rfl ?_
    refine pm_go (g := (87, _, [.ref 28], _, 0, 0)) rfl ?_
    refine pm_go (g := (89, _, [.int (nI k), .ref 28], _, 0, 0)) rfl ?_
    refine pm_sd (g := (90, _, [.int (mOt (nI k).toNatClampNeg)], _, 0, 0)) rfl (pm_inI (by omega) (by omega)) ?_
    refine pm_go (g := (91, _, [.ref 25, .int (mOt (nI k).toNatClampNeg)], _, 0, 0)) rfl ?_
    refine pm_go (g := (94, _, [.ref 28, .int (mOt (nI k).toNatClampNeg)], _, 0, 0)) rfl ?_
    refine pm_go (g := (95, _, [.int m, .ref 28, .int (mOt (nI k).toNatClampNeg)], _, 0, 0)) rfl ?_
    refine pm_sd (g := (96, _, [.int (mOt (m).toNatClampNeg), .int (mOt (nI k).toNatClampNeg)], _, 0, 0)) rfl (pm_inI (by omega) (by omega)) ?_
    refine pm_if2 (g := (146, [(4, .int (nI k)), (3, .int c), (0, .ref 25), (1, .int t), (2, .int m)], [], hq g c1 c2 c3 c4 c5 c6 c7 c8 c9 c10 c11 c12 c13 c14 c15 c16 c17 c18 c19 c20 c21 c22 c23 c24 (hc25 mTy mTm mMn mFn mRn mTn mVn mLr mTr mFl mFm mFp mSc mMp mEn) (hc26 mPa) (hc27 mTo) (hc28 mOt) (hc29 mNa) (hc30 mRe) (hc31 mMa) (hc32 mMy) (hc33 mPm) (hc34 mFy) (hc35 mFa) (hc36 mFr) (hc37 mFo) (hc38 mRt) (hc39 mRm) (hc40 mTt) (hc41 mTi) (hc42 mPl) (hc43 mVr) (hc44 mVf) (hc45 mVc) (hc46 mAr) (hc47 mTc) (hc48 mFt) (hc49 mGo) dyn, 0, 0)) (h := (99, [(4, .int (nI k)), (3, .int c), (0, .ref 25), (1, .int t), (2, .int m)], [], hq g c1 c2 c3 c4 c5 c6 c7 c8 c9 c10 c11 c12 c13 c14 c15 c16 c17 c18 c19 c20 c21 c22 c23 c24 (hc25 mTy mTm mMn mFn mRn mTn mVn mLr mTr mFl mFm mFp mSc mMp mEn) (hc26 mPa) (hc27 mTo) (hc28 mOt) (hc29 mNa) (hc30 mRe) (hc31 mMa) (hc32 mMy) (hc33 mPm) (hc34 mFy) (hc35 mFa) (hc36 mFr) (hc37 mFo) (hc38 mRt) (hc39 mRm) (hc40 mTt) (hc41 mTi) (hc42 mPl) (hc43 mVr) (hc44 mVf) (hc45 mVc) (hc46 mAr) (hc47 mTc) (hc48 mFt) (hc49 mGo) dyn, 0, 0)) rfl (fun h2 => ?_) (fun h2 => ?_)
    ·
      have h2 := qT_eq (cx := (mOt (nI k).toNatClampNeg).toInt) (cy := (mOt (m).toNatClampNeg).toInt) rfl rfl h2
      refine pm_go (g := (149, [(4, .int ((nI k) + 1)), (3, .int c), (0, .ref 25), (1, .int t), (2, .int m)], [], _, 0, 0)) rfl ?_
      refine pm_go (g := (74, _, [], _, 0, 0)) rfl ?_
      rw [nI_1]
      refine ih (k + 1) (by omega) (by omega) (fun h => k0 (fun j g1 g2 => ?_)) (fun h => k1 (by obtain ⟨j, q1, q2, q3⟩ := h; exact ⟨j, by omega, q2, q3⟩))
      rcases Nat.eq_or_lt_of_le g1 with e9 | e9
      · subst e9; rintro ⟨q1, q2, q3, q4⟩; first | omega | (simp_all; done)
      · exact h j e9 g2
    have h2 := qF_eq (cx := (mOt (nI k).toNatClampNeg).toInt) (cy := (mOt (m).toNatClampNeg).toInt) rfl rfl h2
    refine pm_go (g := (100, [(4, .int (nI k)), (3, .int c), (0, .ref 25), (1, .int t), (2, .int m)], [.ref 25], _, 0, 0)) rfl ?_
    refine pm_go (g := (101, _, [.int c, .ref 25], _, 0, 0)) rfl ?_
    refine pm_go (g := (102, _, [.ref 25, .int c, .ref 25], _, 0, 0)) rfl ?_
    refine pm_go (g := (105, _, [.ref 28, .int c, .ref 25], _, 0, 0)) rfl ?_
    refine pm_go (g := (107, _, [.int (nI k), .ref 28, .int c, .ref 25], _, 0, 0)) rfl ?_
    refine pm_sd (g := (108, _, [.int (mOt (nI k).toNatClampNeg), .int c, .ref 25], _, 0, 0)) rfl (pm_inI (by omega) (by omega)) ?_
    refine pm_callD (z := 132) (as := [.ref 25, .int c, .int (mOt (nI k).toNatClampNeg)]) (rest := []) rfl ?_
    refine w_X12_isUnder c (mOt (nI k).toNatClampNeg) (by assumption) (fun h3 => ?_) (fun h4 => ?_)
    ·
      show pm_WP 143 (111, [(4, .int (nI k)), (3, .int c), (0, .ref 25), (1, .int t), (2, .int m)], [.int 1], _, 0, 0) _
      refine pm_brF (h := (114, [(4, .int (nI k)), (3, .int c), (0, .ref 25), (1, .int t), (2, .int m)], [], hq g c1 c2 c3 c4 c5 c6 c7 c8 c9 c10 c11 c12 c13 c14 c15 c16 c17 c18 c19 c20 c21 c22 c23 c24 (hc25 mTy mTm mMn mFn mRn mTn mVn mLr mTr mFl mFm mFp mSc mMp mEn) (hc26 mPa) (hc27 mTo) (hc28 mOt) (hc29 mNa) (hc30 mRe) (hc31 mMa) (hc32 mMy) (hc33 mPm) (hc34 mFy) (hc35 mFa) (hc36 mFr) (hc37 mFo) (hc38 mRt) (hc39 mRm) (hc40 mTt) (hc41 mTi) (hc42 mPl) (hc43 mVr) (hc44 mVf) (hc45 mVc) (hc46 mAr) (hc47 mTc) (hc48 mFt) (hc49 mGo) dyn, 0, 0)) rfl ?_
      refine pm_go (g := (115, _, [.ref 25], _, 0, 0)) rfl ?_
      refine pm_go (g := (116, _, [.ref 25, .ref 25], _, 0, 0)) rfl ?_
      refine pm_go (g := (119, _, [.ref 28, .ref 25], _, 0, 0)) rfl ?_
      refine pm_go (g := (121, _, [.int (nI k), .ref 28, .ref 25], _, 0, 0)) rfl ?_
      refine pm_sd (g := (122, _, [.int (mOt (nI k).toNatClampNeg), .ref 25], _, 0, 0)) rfl (pm_inI (by omega) (by omega)) ?_
      refine pm_go (g := (123, _, [.ref 25, .int (mOt (nI k).toNatClampNeg), .ref 25], _, 0, 0)) rfl ?_
      refine pm_go (g := (126, _, [.ref 28, .int (mOt (nI k).toNatClampNeg), .ref 25], _, 0, 0)) rfl ?_
      refine pm_go (g := (127, _, [.int m, .ref 28, .int (mOt (nI k).toNatClampNeg), .ref 25], _, 0, 0)) rfl ?_
      refine pm_sd (g := (128, _, [.int (mOt (m).toNatClampNeg), .int (mOt (nI k).toNatClampNeg), .ref 25], _, 0, 0)) rfl (pm_inI (by omega) (by omega)) ?_
      refine pm_callD (z := 132) (as := [.ref 25, .int (mOt (nI k).toNatClampNeg), .int (mOt (m).toNatClampNeg)]) (rest := []) rfl ?_
      refine w_X12_isUnder (mOt (nI k).toNatClampNeg) (mOt (m).toNatClampNeg) (by assumption) (fun h6 => ?_) (fun h7 => ?_)
      ·
        show pm_WP 143 (131, [(4, .int (nI k)), (3, .int c), (0, .ref 25), (1, .int t), (2, .int m)], [.int 1], _, 0, 0) _
        refine pm_brF (h := (134, [(4, .int (nI k)), (3, .int c), (0, .ref 25), (1, .int t), (2, .int m)], [], hq g c1 c2 c3 c4 c5 c6 c7 c8 c9 c10 c11 c12 c13 c14 c15 c16 c17 c18 c19 c20 c21 c22 c23 c24 (hc25 mTy mTm mMn mFn mRn mTn mVn mLr mTr mFl mFm mFp mSc mMp mEn) (hc26 mPa) (hc27 mTo) (hc28 mOt) (hc29 mNa) (hc30 mRe) (hc31 mMa) (hc32 mMy) (hc33 mPm) (hc34 mFy) (hc35 mFa) (hc36 mFr) (hc37 mFo) (hc38 mRt) (hc39 mRm) (hc40 mTt) (hc41 mTi) (hc42 mPl) (hc43 mVr) (hc44 mVf) (hc45 mVc) (hc46 mAr) (hc47 mTc) (hc48 mFt) (hc49 mGo) dyn, 0, 0)) rfl ?_
        refine pm_go (g := (135, _, [.ref 25], _, 0, 0)) rfl ?_
        refine pm_go (g := (137, _, [.int (nI k), .ref 25], _, 0, 0)) rfl ?_
        refine pm_go (g := (138, _, [.int m, .int (nI k), .ref 25], _, 0, 0)) rfl ?_
        refine pm_callD (z := 140) (as := [.ref 25, .int (nI k), .int m]) (rest := []) rfl ?_
        refine w_X12_isSame (nI k) m (by omega) (by omega) (by assumption) (fun h9 => ?_) (fun h10 => ?_)
        ·
          show pm_WP 143 (141, [(4, .int (nI k)), (3, .int c), (0, .ref 25), (1, .int t), (2, .int m)], [.int 1], _, 0, 0) _
          refine pm_brF (h := (144, [(4, .int (nI k)), (3, .int c), (0, .ref 25), (1, .int t), (2, .int m)], [], hq g c1 c2 c3 c4 c5 c6 c7 c8 c9 c10 c11 c12 c13 c14 c15 c16 c17 c18 c19 c20 c21 c22 c23 c24 (hc25 mTy mTm mMn mFn mRn mTn mVn mLr mTr mFl mFm mFp mSc mMp mEn) (hc26 mPa) (hc27 mTo) (hc28 mOt) (hc29 mNa) (hc30 mRe) (hc31 mMa) (hc32 mMy) (hc33 mPm) (hc34 mFy) (hc35 mFa) (hc36 mFr) (hc37 mFo) (hc38 mRt) (hc39 mRm) (hc40 mTt) (hc41 mTi) (hc42 mPl) (hc43 mVr) (hc44 mVf) (hc45 mVc) (hc46 mAr) (hc47 mTc) (hc48 mFt) (hc49 mGo) dyn, 0, 0)) rfl ?_
          refine pm_go (g := (145, _, [.int 0], _, 0, 0)) rfl ?_
          exact pm_ret rfl (k1 ⟨k, Nat.le_refl k, by omega, by omega, by assumption, by assumption, by assumption⟩)
        show pm_WP 143 (141, [(4, .int (nI k)), (3, .int c), (0, .ref 25), (1, .int t), (2, .int m)], [.int 0], hq g c1 c2 c3 c4 c5 c6 c7 c8 c9 c10 c11 c12 c13 c14 c15 c16 c17 c18 c19 c20 c21 c22 c23 c24 (hc25 mTy mTm mMn mFn mRn mTn mVn mLr mTr mFl mFm mFp mSc mMp mEn) (hc26 mPa) (hc27 mTo) (hc28 mOt) (hc29 mNa) (hc30 mRe) (hc31 mMa) (hc32 mMy) (hc33 mPm) (hc34 mFy) (hc35 mFa) (hc36 mFr) (hc37 mFo) (hc38 mRt) (hc39 mRm) (hc40 mTt) (hc41 mTi) (hc42 mPl) (hc43 mVr) (hc44 mVf) (hc45 mVc) (hc46 mAr) (hc47 mTc) (hc48 mFt) (hc49 mGo) dyn, 0, 0) _
        refine pm_brT (g := (146, [(4, .int (nI k)), (3, .int c), (0, .ref 25), (1, .int t), (2, .int m)], [], hq g c1 c2 c3 c4 c5 c6 c7 c8 c9 c10 c11 c12 c13 c14 c15 c16 c17 c18 c19 c20 c21 c22 c23 c24 (hc25 mTy mTm mMn mFn mRn mTn mVn mLr mTr mFl mFm mFp mSc mMp mEn) (hc26 mPa) (hc27 mTo) (hc28 mOt) (hc29 mNa) (hc30 mRe) (hc31 mMa) (hc32 mMy) (hc33 mPm) (hc34 mFy) (hc35 mFa) (hc36 mFr) (hc37 mFo) (hc38 mRt) (hc39 mRm) (hc40 mTt) (hc41 mTi) (hc42 mPl) (hc43 mVr) (hc44 mVf) (hc45 mVc) (hc46 mAr) (hc47 mTc) (hc48 mFt) (hc49 mGo) dyn, 0, 0)) rfl ?_
        refine pm_go (g := (149, [(4, .int ((nI k) + 1)), (3, .int c), (0, .ref 25), (1, .int t), (2, .int m)], [], _, 0, 0)) rfl ?_
        refine pm_go (g := (74, _, [], _, 0, 0)) rfl ?_
        rw [nI_1]
        refine ih (k + 1) (by omega) (by omega) (fun h => k0 (fun j g1 g2 => ?_)) (fun h => k1 (by obtain ⟨j, q1, q2, q3⟩ := h; exact ⟨j, by omega, q2, q3⟩))
        rcases Nat.eq_or_lt_of_le g1 with e9 | e9
        · subst e9; rintro ⟨q1, q2, q3, q4⟩; first | omega | (simp_all; done)
        · exact h j e9 g2
      show pm_WP 143 (131, [(4, .int (nI k)), (3, .int c), (0, .ref 25), (1, .int t), (2, .int m)], [.int 0], hq g c1 c2 c3 c4 c5 c6 c7 c8 c9 c10 c11 c12 c13 c14 c15 c16 c17 c18 c19 c20 c21 c22 c23 c24 (hc25 mTy mTm mMn mFn mRn mTn mVn mLr mTr mFl mFm mFp mSc mMp mEn) (hc26 mPa) (hc27 mTo) (hc28 mOt) (hc29 mNa) (hc30 mRe) (hc31 mMa) (hc32 mMy) (hc33 mPm) (hc34 mFy) (hc35 mFa) (hc36 mFr) (hc37 mFo) (hc38 mRt) (hc39 mRm) (hc40 mTt) (hc41 mTi) (hc42 mPl) (hc43 mVr) (hc44 mVf) (hc45 mVc) (hc46 mAr) (hc47 mTc) (hc48 mFt) (hc49 mGo) dyn, 0, 0) _
      refine pm_brT (g := (146, [(4, .int (nI k)), (3, .int c), (0, .ref 25), (1, .int t), (2, .int m)], [], hq g c1 c2 c3 c4 c5 c6 c7 c8 c9 c10 c11 c12 c13 c14 c15 c16 c17 c18 c19 c20 c21 c22 c23 c24 (hc25 mTy mTm mMn mFn mRn mTn mVn mLr mTr mFl mFm mFp mSc mMp mEn) (hc26 mPa) (hc27 mTo) (hc28 mOt) (hc29 mNa) (hc30 mRe) (hc31 mMa) (hc32 mMy) (hc33 mPm) (hc34 mFy) (hc35 mFa) (hc36 mFr) (hc37 mFo) (hc38 mRt) (hc39 mRm) (hc40 mTt) (hc41 mTi) (hc42 mPl) (hc43 mVr) (hc44 mVf) (hc45 mVc) (hc46 mAr) (hc47 mTc) (hc48 mFt) (hc49 mGo) dyn, 0, 0)) rfl ?_
      refine pm_go (g := (149, [(4, .int ((nI k) + 1)), (3, .int c), (0, .ref 25), (1, .int t), (2, .int m)], [], _, 0, 0)) rfl ?_
      refine pm_go (g := (74, _, [], _, 0, 0)) rfl ?_
      rw [nI_1]
      refine ih (k + 1) (by omega) (by omega) (fun h => k0 (fun j g1 g2 => ?_)) (fun h => k1 (by obtain ⟨j, q1, q2, q3⟩ := h; exact ⟨j, by omega, q2, q3⟩))
      rcases Nat.eq_or_lt_of_le g1 with e9 | e9
      · subst e9; rintro ⟨q1, q2, q3, q4⟩; first | omega | (simp_all; done)
      · exact h j e9 g2
    show pm_WP 143 (111, [(4, .int (nI k)), (3, .int c), (0, .ref 25), (1, .int t), (2, .int m)], [.int 0], hq g c1 c2 c3 c4 c5 c6 c7 c8 c9 c10 c11 c12 c13 c14 c15 c16 c17 c18 c19 c20 c21 c22 c23 c24 (hc25 mTy mTm mMn mFn mRn mTn mVn mLr mTr mFl mFm mFp mSc mMp mEn) (hc26 mPa) (hc27 mTo) (hc28 mOt) (hc29 mNa) (hc30 mRe) (hc31 mMa) (hc32 mMy) (hc33 mPm) (hc34 mFy) (hc35 mFa) (hc36 mFr) (hc37 mFo) (hc38 mRt) (hc39 mRm) (hc40 mTt) (hc41 mTi) (hc42 mPl) (hc43 mVr) (hc44 mVf) (hc45 mVc) (hc46 mAr) (hc47 mTc) (hc48 mFt) (hc49 mGo) dyn, 0, 0) _
    refine pm_brT (g := (146, [(4, .int (nI k)), (3, .int c), (0, .ref 25), (1, .int t), (2, .int m)], [], hq g c1 c2 c3 c4 c5 c6 c7 c8 c9 c10 c11 c12 c13 c14 c15 c16 c17 c18 c19 c20 c21 c22 c23 c24 (hc25 mTy mTm mMn mFn mRn mTn mVn mLr mTr mFl mFm mFp mSc mMp mEn) (hc26 mPa) (hc27 mTo) (hc28 mOt) (hc29 mNa) (hc30 mRe) (hc31 mMa) (hc32 mMy) (hc33 mPm) (hc34 mFy) (hc35 mFa) (hc36 mFr) (hc37 mFo) (hc38 mRt) (hc39 mRm) (hc40 mTt) (hc41 mTi) (hc42 mPl) (hc43 mVr) (hc44 mVf) (hc45 mVc) (hc46 mAr) (hc47 mTc) (hc48 mFt) (hc49 mGo) dyn, 0, 0)) rfl ?_
    refine pm_go (g := (149, [(4, .int ((nI k) + 1)), (3, .int c), (0, .ref 25), (1, .int t), (2, .int m)], [], _, 0, 0)) rfl ?_
    refine pm_go (g := (74, _, [], _, 0, 0)) rfl ?_
    rw [nI_1]
    refine ih (k + 1) (by omega) (by omega) (fun h => k0 (fun j g1 g2 => ?_)) (fun h => k1 (by obtain ⟨j, q1, q2, q3⟩ := h; exact ⟨j, by omega, q2, q3⟩))
    rcases Nat.eq_or_lt_of_le g1 with e9 | e9
    · subst e9; rintro ⟨q1, q2, q3, q4⟩; first | omega | (simp_all; done)
    · exact h j e9 g2
set_option maxRecDepth 100000 in
set_option maxHeartbeats 4000000 in
theorem w_X12_isHad {g c1 c2 c3 c4 c5 c6 c7 c8 c9 c10 c11 c12 c13 c14 c15 c16 c17 c18 c19 c20 c21 c22 c23 c24 : pm_C} {dyn : pm_H} {mTy : Int32} {mPa : Nat → Int32} {mTo : Nat → Int32} {mTm : Int32} {mMn : Int32} {mOt : Nat → Int32} {mNa : Nat → Int32} {mRe : Nat → Int32} {mMa : Nat → Int32} {mMy : Nat → Int32} {mPm : Nat → Int32} {mFn : Int32} {mFy : Nat → Int32} {mFa : Nat → Int32} {mFr : Nat → Int32} {mRn : Int32} {mFo : Nat → Int32} {mRt : Nat → Int32} {mRm : Nat → Int32} {mTn : Int32} {mTt : Nat → Int32} {mTi : Nat → Int32} {mPl : Nat → Int32} {mVn : Int32} {mVr : Nat → Int32} {mVf : Nat → Int32} {mVc : Nat → Int32} {mAr : Nat → Int32} {mLr : Int32} {mTc : Nat → Int32} {mTr : Int32} {mFl : Int32} {mFt : Nat → Int32} {mFm : Int32} {mFp : Int32} {mSc : Int32} {mMp : Int32} {mEn : Int32} {mGo : Nat → Int32} {Q : pm_Q} (t : Int32) (m : Int32) (p0 : 0 ≤ m.toInt ∧ m.toInt < 40) (p1 : paD mPa) (p2 : myD mMy) (p3 : 0 ≤ mMn.toInt ∧ mMn.toInt ≤ 40) (k0 : hadM mPa mOt mNa mMy mPm mMn t m → Q (some (.int 1)) (hq g c1 c2 c3 c4 c5 c6 c7 c8 c9 c10 c11 c12 c13 c14 c15 c16 c17 c18 c19 c20 c21 c22 c23 c24 (hc25 mTy mTm mMn mFn mRn mTn mVn mLr mTr mFl mFm mFp mSc mMp mEn) (hc26 mPa) (hc27 mTo) (hc28 mOt) (hc29 mNa) (hc30 mRe) (hc31 mMa) (hc32 mMy) (hc33 mPm) (hc34 mFy) (hc35 mFa) (hc36 mFr) (hc37 mFo) (hc38 mRt) (hc39 mRm) (hc40 mTt) (hc41 mTi) (hc42 mPl) (hc43 mVr) (hc44 mVf) (hc45 mVc) (hc46 mAr) (hc47 mTc) (hc48 mFt) (hc49 mGo) dyn)) (k1 : ¬ hadM mPa mOt mNa mMy mPm mMn t m → Q (some (.int 0)) (hq g c1 c2 c3 c4 c5 c6 c7 c8 c9 c10 c11 c12 c13 c14 c15 c16 c17 c18 c19 c20 c21 c22 c23 c24 (hc25 mTy mTm mMn mFn mRn mTn mVn mLr mTr mFl mFm mFp mSc mMp mEn) (hc26 mPa) (hc27 mTo) (hc28 mOt) (hc29 mNa) (hc30 mRe) (hc31 mMa) (hc32 mMy) (hc33 mPm) (hc34 mFy) (hc35 mFa) (hc36 mFr) (hc37 mFo) (hc38 mRt) (hc39 mRm) (hc40 mTt) (hc41 mTi) (hc42 mPl) (hc43 mVr) (hc44 mVf) (hc45 mVc) (hc46 mAr) (hc47 mTc) (hc48 mFt) (hc49 mGo) dyn)) : pm_WP 143 (0, [(0, .ref 25), (1, .int t), (2, .int m)], [], hq g c1 c2 c3 c4 c5 c6 c7 c8 c9 c10 c11 c12 c13 c14 c15 c16 c17 c18 c19 c20 c21 c22 c23 c24 (hc25 mTy mTm mMn mFn mRn mTn mVn mLr mTr mFl mFm mFp mSc mMp mEn) (hc26 mPa) (hc27 mTo) (hc28 mOt) (hc29 mNa) (hc30 mRe) (hc31 mMa) (hc32 mMy) (hc33 mPm) (hc34 mFy) (hc35 mFa) (hc36 mFr) (hc37 mFo) (hc38 mRt) (hc39 mRm) (hc40 mTt) (hc41 mTi) (hc42 mPl) (hc43 mVr) (hc44 mVf) (hc45 mVc) (hc46 mAr) (hc47 mTc) (hc48 mFt) (hc49 mGo) dyn, 0, 0) Q := by
  refine pm_go (g := (1, [(0, .ref 25), (1, .int t), (2, .int m)], [.int t], hq g c1 c2 c3 c4 c5 c6 c7 c8 c9 c10 c11 c12 c13 c14 c15 c16 c17 c18 c19 c20 c21 c22 c23 c24 (hc25 mTy mTm mMn mFn mRn mTn mVn mLr mTr mFl mFm mFp mSc mMp mEn) (hc26 mPa) (hc27 mTo) (hc28 mOt) (hc29 mNa) (hc30 mRe) (hc31 mMa) (hc32 mMy) (hc33 mPm) (hc34 mFy) (hc35 mFa) (hc36 mFr) (hc37 mFo) (hc38 mRt) (hc39 mRm) (hc40 mTt) (hc41 mTi) (hc42 mPl) (hc43 mVr) (hc44 mVf) (hc45 mVc) (hc46 mAr) (hc47 mTc) (hc48 mFt) (hc49 mGo) dyn, 0, 0)) rfl ?_
  refine pm_go (g := (3, _, [.int 20, .int t], _, 0, 0)) rfl ?_
  refine pm_if2 (g := (10, [(0, .ref 25), (1, .int t), (2, .int m)], [], hq g c1 c2 c3 c4 c5 c6 c7 c8 c9 c10 c11 c12 c13 c14 c15 c16 c17 c18 c19 c20 c21 c22 c23 c24 (hc25 mTy mTm mMn mFn mRn mTn mVn mLr mTr mFl mFm mFp mSc mMp mEn) (hc26 mPa) (hc27 mTo) (hc28 mOt) (hc29 mNa) (hc30 mRe) (hc31 mMa) (hc32 mMy) (hc33 mPm) (hc34 mFy) (hc35 mFa) (hc36 mFr) (hc37 mFo) (hc38 mRt) (hc39 mRm) (hc40 mTt) (hc41 mTi) (hc42 mPl) (hc43 mVr) (hc44 mVf) (hc45 mVc) (hc46 mAr) (hc47 mTc) (hc48 mFt) (hc49 mGo) dyn, 0, 0)) (h := (6, [(0, .ref 25), (1, .int t), (2, .int m)], [], hq g c1 c2 c3 c4 c5 c6 c7 c8 c9 c10 c11 c12 c13 c14 c15 c16 c17 c18 c19 c20 c21 c22 c23 c24 (hc25 mTy mTm mMn mFn mRn mTn mVn mLr mTr mFl mFm mFp mSc mMp mEn) (hc26 mPa) (hc27 mTo) (hc28 mOt) (hc29 mNa) (hc30 mRe) (hc31 mMa) (hc32 mMy) (hc33 mPm) (hc34 mFy) (hc35 mFa) (hc36 mFr) (hc37 mFo) (hc38 mRt) (hc39 mRm) (hc40 mTt) (hc41 mTi) (hc42 mPl) (hc43 mVr) (hc44 mVf) (hc45 mVc) (hc46 mAr) (hc47 mTc) (hc48 mFt) (hc49 mGo) dyn, 0, 0)) rfl (fun h1 => ?_) (fun h1 => ?_)
  ·
    have h1 := qT_lt (cx := (t).toInt) (cy := 20) rfl (by decide) h1
    have hc := cM_2 (t := t) (by omega)
    refine pm_go (g := (11, _, [.int t], _, 0, 0)) rfl ?_
    refine pm_go (g := (12, [(3, .int t), (0, .ref 25), (1, .int t), (2, .int m)], [], _, 0, 0)) rfl ?_
    refine pm_go (g := (13, _, [.ref 25], _, 0, 0)) rfl ?_
    refine pm_go (g := (16, _, [.ref 28], _, 0, 0)) rfl ?_
    refine pm_go (g := (17, _, [.int m, .ref 28], _, 0, 0)) rfl ?_
    refine pm_sd (g := (18, _, [.int (mOt (m).toNatClampNeg)], _, 0, 0)) rfl (pm_inI (by omega) (by omega)) ?_
    refine pm_go (g := (19, _, [.int t, .int (mOt (m).toNatClampNeg)], _, 0, 0)) rfl ?_
    refine pm_if2 (g := (44, [(3, .int t), (0, .ref 25), (1, .int t), (2, .int m)], [], hq g c1 c2 c3 c4 c5 c6 c7 c8 c9 c10 c11 c12 c13 c14 c15 c16 c17 c18 c19 c20 c21 c22 c23 c24 (hc25 mTy mTm mMn mFn mRn mTn mVn mLr mTr mFl mFm mFp mSc mMp mEn) (hc26 mPa) (hc27 mTo) (hc28 mOt) (hc29 mNa) (hc30 mRe) (hc31 mMa) (hc32 mMy) (hc33 mPm) (hc34 mFy) (hc35 mFa) (hc36 mFr) (hc37 mFo) (hc38 mRt) (hc39 mRm) (hc40 mTt) (hc41 mTi) (hc42 mPl) (hc43 mVr) (hc44 mVf) (hc45 mVc) (hc46 mAr) (hc47 mTc) (hc48 mFt) (hc49 mGo) dyn, 0, 0)) (h := (22, [(3, .int t), (0, .ref 25), (1, .int t), (2, .int m)], [], hq g c1 c2 c3 c4 c5 c6 c7 c8 c9 c10 c11 c12 c13 c14 c15 c16 c17 c18 c19 c20 c21 c22 c23 c24 (hc25 mTy mTm mMn mFn mRn mTn mVn mLr mTr mFl mFm mFp mSc mMp mEn) (hc26 mPa) (hc27 mTo) (hc28 mOt) (hc29 mNa) (hc30 mRe) (hc31 mMa) (hc32 mMy) (hc33 mPm) (hc34 mFy) (hc35 mFa) (hc36 mFr) (hc37 mFo) (hc38 mRt) (hc39 mRm) (hc40 mTt) (hc41 mTi) (hc42 mPl) (hc43 mVr) (hc44 mVf) (hc45 mVc) (hc46 mAr) (hc47 mTc) (hc48 mFt) (hc49 mGo) dyn, 0, 0)) rfl (fun h2 => ?_) (fun h2 => ?_)
    ·
      have h2 := qT_ne (cx := (mOt (m).toNatClampNeg).toInt) (cy := (t).toInt) rfl rfl h2
      refine pm_go (g := (45, _, [.ref 25], _, 0, 0)) rfl ?_
      refine pm_go (g := (48, _, [.ref 29], _, 0, 0)) rfl ?_
      refine pm_go (g := (49, _, [.int m, .ref 29], _, 0, 0)) rfl ?_
      refine pm_sd (g := (50, _, [.int (mNa (m).toNatClampNeg)], _, 0, 0)) rfl (pm_inI (by omega) (by omega)) ?_
      refine pm_go (g := (52, _, [.int 6, .int (mNa (m).toNatClampNeg)], _, 0, 0)) rfl ?_
      refine pm_if2 (g := (69, [(3, .int t), (0, .ref 25), (1, .int t), (2, .int m)], [], hq g c1 c2 c3 c4 c5 c6 c7 c8 c9 c10 c11 c12 c13 c14 c15 c16 c17 c18 c19 c20 c21 c22 c23 c24 (hc25 mTy mTm mMn mFn mRn mTn mVn mLr mTr mFl mFm mFp mSc mMp mEn) (hc26 mPa) (hc27 mTo) (hc28 mOt) (hc29 mNa) (hc30 mRe) (hc31 mMa) (hc32 mMy) (hc33 mPm) (hc34 mFy) (hc35 mFa) (hc36 mFr) (hc37 mFo) (hc38 mRt) (hc39 mRm) (hc40 mTt) (hc41 mTi) (hc42 mPl) (hc43 mVr) (hc44 mVf) (hc45 mVc) (hc46 mAr) (hc47 mTc) (hc48 mFt) (hc49 mGo) dyn, 0, 0)) (h := (55, [(3, .int t), (0, .ref 25), (1, .int t), (2, .int m)], [], hq g c1 c2 c3 c4 c5 c6 c7 c8 c9 c10 c11 c12 c13 c14 c15 c16 c17 c18 c19 c20 c21 c22 c23 c24 (hc25 mTy mTm mMn mFn mRn mTn mVn mLr mTr mFl mFm mFp mSc mMp mEn) (hc26 mPa) (hc27 mTo) (hc28 mOt) (hc29 mNa) (hc30 mRe) (hc31 mMa) (hc32 mMy) (hc33 mPm) (hc34 mFy) (hc35 mFa) (hc36 mFr) (hc37 mFo) (hc38 mRt) (hc39 mRm) (hc40 mTt) (hc41 mTi) (hc42 mPl) (hc43 mVr) (hc44 mVf) (hc45 mVc) (hc46 mAr) (hc47 mTc) (hc48 mFt) (hc49 mGo) dyn, 0, 0)) rfl (fun h3 => ?_) (fun h3 => ?_)
      ·
        have h3 := qT_eq (cx := (mNa (m).toNatClampNeg).toInt) (cy := 6) rfl (by decide) h3
        refine pm_go (g := (70, _, [.int 0], _, 0, 0)) rfl ?_
        refine pm_ret rfl (k1 ?_)
        unfold hadM; rw [hc]; rintro (⟨r1, r2⟩ | ⟨r1, r2, r3, r4⟩) <;> first | omega | (simp_all; done)
      have h3 := qF_eq (cx := (mNa (m).toNatClampNeg).toInt) (cy := 6) rfl (by decide) h3
      refine pm_go (g := (56, _, [.ref 25], _, 0, 0)) rfl ?_
      refine pm_go (g := (57, _, [.int t, .ref 25], _, 0, 0)) rfl ?_
      refine pm_go (g := (58, _, [.ref 25, .int t, .ref 25], _, 0, 0)) rfl ?_
      refine pm_go (g := (61, _, [.ref 28, .int t, .ref 25], _, 0, 0)) rfl ?_
      refine pm_go (g := (62, _, [.int m, .ref 28, .int t, .ref 25], _, 0, 0)) rfl ?_
      refine pm_sd (g := (63, _, [.int (mOt (m).toNatClampNeg), .int t, .ref 25], _, 0, 0)) rfl (pm_inI (by omega) (by omega)) ?_
      refine pm_callD (z := 132) (as := [.ref 25, .int t, .int (mOt (m).toNatClampNeg)]) (rest := []) rfl ?_
      refine w_X12_isUnder t (mOt (m).toNatClampNeg) (by assumption) (fun h4 => ?_) (fun h5 => ?_)
      ·
        show pm_WP 143 (66, [(3, .int t), (0, .ref 25), (1, .int t), (2, .int m)], [.int 1], _, 0, 0) _
        refine pm_brT (g := (71, [(3, .int t), (0, .ref 25), (1, .int t), (2, .int m)], [], hq g c1 c2 c3 c4 c5 c6 c7 c8 c9 c10 c11 c12 c13 c14 c15 c16 c17 c18 c19 c20 c21 c22 c23 c24 (hc25 mTy mTm mMn mFn mRn mTn mVn mLr mTr mFl mFm mFp mSc mMp mEn) (hc26 mPa) (hc27 mTo) (hc28 mOt) (hc29 mNa) (hc30 mRe) (hc31 mMa) (hc32 mMy) (hc33 mPm) (hc34 mFy) (hc35 mFa) (hc36 mFr) (hc37 mFo) (hc38 mRt) (hc39 mRm) (hc40 mTt) (hc41 mTi) (hc42 mPl) (hc43 mVr) (hc44 mVf) (hc45 mVc) (hc46 mAr) (hc47 mTc) (hc48 mFt) (hc49 mGo) dyn, 0, 0)) rfl ?_
        refine pm_go (g := (72, _, [.int 0], _, 0, 0)) rfl ?_
        refine pm_go (g := (74, [(4, .int 0), (3, .int t), (0, .ref 25), (1, .int t), (2, .int m)], [], _, 0, 0)) rfl ?_
        refine w_isHad_loop t m t p0 p1 p2 p3 41 0 (by omega) (by omega) (fun h => k0 (Or.inr ?_)) (fun h => k1 ?_)
        · rw [hc]; exact ⟨by omega, by omega, by assumption, fun j g => h j (Nat.zero_le j) g⟩
        · obtain ⟨j, q1, q2, q3⟩ := h; rintro (⟨r1, r2⟩ | ⟨r1, r2, r3, r4⟩)
          · rw [hc] at r1; omega
          · rw [hc] at r4; exact r4 j q2 q3
      show pm_WP 143 (66, [(3, .int t), (0, .ref 25), (1, .int t), (2, .int m)], [.int 0], hq g c1 c2 c3 c4 c5 c6 c7 c8 c9 c10 c11 c12 c13 c14 c15 c16 c17 c18 c19 c20 c21 c22 c23 c24 (hc25 mTy mTm mMn mFn mRn mTn mVn mLr mTr mFl mFm mFp mSc mMp mEn) (hc26 mPa) (hc27 mTo) (hc28 mOt) (hc29 mNa) (hc30 mRe) (hc31 mMa) (hc32 mMy) (hc33 mPm) (hc34 mFy) (hc35 mFa) (hc36 mFr) (hc37 mFo) (hc38 mRt) (hc39 mRm) (hc40 mTt) (hc41 mTi) (hc42 mPl) (hc43 mVr) (hc44 mVf) (hc45 mVc) (hc46 mAr) (hc47 mTc) (hc48 mFt) (hc49 mGo) dyn, 0, 0) _
      refine pm_brF (h := (69, [(3, .int t), (0, .ref 25), (1, .int t), (2, .int m)], [], hq g c1 c2 c3 c4 c5 c6 c7 c8 c9 c10 c11 c12 c13 c14 c15 c16 c17 c18 c19 c20 c21 c22 c23 c24 (hc25 mTy mTm mMn mFn mRn mTn mVn mLr mTr mFl mFm mFp mSc mMp mEn) (hc26 mPa) (hc27 mTo) (hc28 mOt) (hc29 mNa) (hc30 mRe) (hc31 mMa) (hc32 mMy) (hc33 mPm) (hc34 mFy) (hc35 mFa) (hc36 mFr) (hc37 mFo) (hc38 mRt) (hc39 mRm) (hc40 mTt) (hc41 mTi) (hc42 mPl) (hc43 mVr) (hc44 mVf) (hc45 mVc) (hc46 mAr) (hc47 mTc) (hc48 mFt) (hc49 mGo) dyn, 0, 0)) rfl ?_
      refine pm_go (g := (70, _, [.int 0], _, 0, 0)) rfl ?_
      refine pm_ret rfl (k1 ?_)
      unfold hadM; rw [hc]; rintro (⟨r1, r2⟩ | ⟨r1, r2, r3, r4⟩) <;> first | omega | (simp_all; done)
    have h2 := qF_ne (cx := (mOt (m).toNatClampNeg).toInt) (cy := (t).toInt) rfl rfl h2
    refine pm_go (g := (23, _, [.ref 25], _, 0, 0)) rfl ?_
    refine pm_go (g := (26, _, [.ref 29], _, 0, 0)) rfl ?_
    refine pm_go (g := (27, _, [.int m, .ref 29], _, 0, 0)) rfl ?_
    refine pm_sd (g := (28, _, [.int (mNa (m).toNatClampNeg)], _, 0, 0)) rfl (pm_inI (by omega) (by omega)) ?_
    refine pm_go (g := (30, _, [.int 6, .int (mNa (m).toNatClampNeg)], _, 0, 0)) rfl ?_
    refine pm_if2 (g := (38, [(3, .int t), (0, .ref 25), (1, .int t), (2, .int m)], [], hq g c1 c2 c3 c4 c5 c6 c7 c8 c9 c10 c11 c12 c13 c14 c15 c16 c17 c18 c19 c20 c21 c22 c23 c24 (hc25 mTy mTm mMn mFn mRn mTn mVn mLr mTr mFl mFm mFp mSc mMp mEn) (hc26 mPa) (hc27 mTo) (hc28 mOt) (hc29 mNa) (hc30 mRe) (hc31 mMa) (hc32 mMy) (hc33 mPm) (hc34 mFy) (hc35 mFa) (hc36 mFr) (hc37 mFo) (hc38 mRt) (hc39 mRm) (hc40 mTt) (hc41 mTi) (hc42 mPl) (hc43 mVr) (hc44 mVf) (hc45 mVc) (hc46 mAr) (hc47 mTc) (hc48 mFt) (hc49 mGo) dyn, 0, 0)) (h := (33, [(3, .int t), (0, .ref 25), (1, .int t), (2, .int m)], [], hq g c1 c2 c3 c4 c5 c6 c7 c8 c9 c10 c11 c12 c13 c14 c15 c16 c17 c18 c19 c20 c21 c22 c23 c24 (hc25 mTy mTm mMn mFn mRn mTn mVn mLr mTr mFl mFm mFp mSc mMp mEn) (hc26 mPa) (hc27 mTo) (hc28 mOt) (hc29 mNa) (hc30 mRe) (hc31 mMa) (hc32 mMy) (hc33 mPm) (hc34 mFy) (hc35 mFa) (hc36 mFr) (hc37 mFo) (hc38 mRt) (hc39 mRm) (hc40 mTt) (hc41 mTi) (hc42 mPl) (hc43 mVr) (hc44 mVf) (hc45 mVc) (hc46 mAr) (hc47 mTc) (hc48 mFt) (hc49 mGo) dyn, 0, 0)) rfl (fun h7 => ?_) (fun h7 => ?_)
    ·
      have h7 := qT_ne (cx := (mNa (m).toNatClampNeg).toInt) (cy := 6) rfl (by decide) h7
      refine pm_go (g := (39, _, [.int 1], _, 0, 0)) rfl ?_
      refine pm_go (g := (43, _, [.int 1], _, 0, 0)) rfl ?_
      exact pm_ret rfl (k0 (Or.inl (by rw [hc]; omega)))
    have h7 := qF_ne (cx := (mNa (m).toNatClampNeg).toInt) (cy := 6) rfl (by decide) h7
    refine pm_go (g := (34, _, [.int t], _, 0, 0)) rfl ?_
    refine pm_go (g := (35, _, [.int t, .int t], _, 0, 0)) rfl ?_
    refine pm_if2 (g := (42, [(3, .int t), (0, .ref 25), (1, .int t), (2, .int m)], [], hq g c1 c2 c3 c4 c5 c6 c7 c8 c9 c10 c11 c12 c13 c14 c15 c16 c17 c18 c19 c20 c21 c22 c23 c24 (hc25 mTy mTm mMn mFn mRn mTn mVn mLr mTr mFl mFm mFp mSc mMp mEn) (hc26 mPa) (hc27 mTo) (hc28 mOt) (hc29 mNa) (hc30 mRe) (hc31 mMa) (hc32 mMy) (hc33 mPm) (hc34 mFy) (hc35 mFa) (hc36 mFr) (hc37 mFo) (hc38 mRt) (hc39 mRm) (hc40 mTt) (hc41 mTi) (hc42 mPl) (hc43 mVr) (hc44 mVf) (hc45 mVc) (hc46 mAr) (hc47 mTc) (hc48 mFt) (hc49 mGo) dyn, 0, 0)) (h := (38, [(3, .int t), (0, .ref 25), (1, .int t), (2, .int m)], [], hq g c1 c2 c3 c4 c5 c6 c7 c8 c9 c10 c11 c12 c13 c14 c15 c16 c17 c18 c19 c20 c21 c22 c23 c24 (hc25 mTy mTm mMn mFn mRn mTn mVn mLr mTr mFl mFm mFp mSc mMp mEn) (hc26 mPa) (hc27 mTo) (hc28 mOt) (hc29 mNa) (hc30 mRe) (hc31 mMa) (hc32 mMy) (hc33 mPm) (hc34 mFy) (hc35 mFa) (hc36 mFr) (hc37 mFo) (hc38 mRt) (hc39 mRm) (hc40 mTt) (hc41 mTi) (hc42 mPl) (hc43 mVr) (hc44 mVf) (hc45 mVc) (hc46 mAr) (hc47 mTc) (hc48 mFt) (hc49 mGo) dyn, 0, 0)) rfl (fun h8 => ?_) (fun h8 => ?_)
    ·
      have h8 := qT_ne (cx := (t).toInt) (cy := (t).toInt) rfl rfl h8
      refine pm_go (g := (43, _, [.int 0], _, 0, 0)) rfl ?_
      refine pm_ret rfl (k1 ?_)
      unfold hadM; rw [hc]; rintro (⟨r1, r2⟩ | ⟨r1, r2, r3, r4⟩) <;> first | omega | (simp_all; done)
    have h8 := qF_ne (cx := (t).toInt) (cy := (t).toInt) rfl rfl h8
    refine pm_go (g := (39, _, [.int 1], _, 0, 0)) rfl ?_
    refine pm_go (g := (43, _, [.int 1], _, 0, 0)) rfl ?_
    exact pm_ret rfl (k0 (Or.inl (by rw [hc]; omega)))
  have h1 := qF_lt (cx := (t).toInt) (cy := 20) rfl (by decide) h1
  have hc := cM_1 (t := t) (by omega)
  have hz0 : (0 : Int32).toInt = 0 := by decide
  refine pm_go (g := (7, [(0, .ref 25), (1, .int t), (2, .int m)], [.int 0], _, 0, 0)) rfl ?_
  refine pm_go (g := (11, _, [.int 0], _, 0, 0)) rfl ?_
  refine pm_go (g := (12, [(3, .int 0), (0, .ref 25), (1, .int t), (2, .int m)], [], _, 0, 0)) rfl ?_
  refine pm_go (g := (13, _, [.ref 25], _, 0, 0)) rfl ?_
  refine pm_go (g := (16, _, [.ref 28], _, 0, 0)) rfl ?_
  refine pm_go (g := (17, _, [.int m, .ref 28], _, 0, 0)) rfl ?_
  refine pm_sd (g := (18, _, [.int (mOt (m).toNatClampNeg)], _, 0, 0)) rfl (pm_inI (by omega) (by omega)) ?_
  refine pm_go (g := (19, _, [.int 0, .int (mOt (m).toNatClampNeg)], _, 0, 0)) rfl ?_
  refine pm_if2 (g := (44, [(3, .int 0), (0, .ref 25), (1, .int t), (2, .int m)], [], hq g c1 c2 c3 c4 c5 c6 c7 c8 c9 c10 c11 c12 c13 c14 c15 c16 c17 c18 c19 c20 c21 c22 c23 c24 (hc25 mTy mTm mMn mFn mRn mTn mVn mLr mTr mFl mFm mFp mSc mMp mEn) (hc26 mPa) (hc27 mTo) (hc28 mOt) (hc29 mNa) (hc30 mRe) (hc31 mMa) (hc32 mMy) (hc33 mPm) (hc34 mFy) (hc35 mFa) (hc36 mFr) (hc37 mFo) (hc38 mRt) (hc39 mRm) (hc40 mTt) (hc41 mTi) (hc42 mPl) (hc43 mVr) (hc44 mVf) (hc45 mVc) (hc46 mAr) (hc47 mTc) (hc48 mFt) (hc49 mGo) dyn, 0, 0)) (h := (22, [(3, .int 0), (0, .ref 25), (1, .int t), (2, .int m)], [], hq g c1 c2 c3 c4 c5 c6 c7 c8 c9 c10 c11 c12 c13 c14 c15 c16 c17 c18 c19 c20 c21 c22 c23 c24 (hc25 mTy mTm mMn mFn mRn mTn mVn mLr mTr mFl mFm mFp mSc mMp mEn) (hc26 mPa) (hc27 mTo) (hc28 mOt) (hc29 mNa) (hc30 mRe) (hc31 mMa) (hc32 mMy) (hc33 mPm) (hc34 mFy) (hc35 mFa) (hc36 mFr) (hc37 mFo) (hc38 mRt) (hc39 mRm) (hc40 mTt) (hc41 mTi) (hc42 mPl) (hc43 mVr) (hc44 mVf) (hc45 mVc) (hc46 mAr) (hc47 mTc) (hc48 mFt) (hc49 mGo) dyn, 0, 0)) rfl (fun h9 => ?_) (fun h9 => ?_)
  ·
    have h9 := qT_ne (cx := (mOt (m).toNatClampNeg).toInt) (cy := 0) rfl (by decide) h9
    refine pm_go (g := (45, _, [.ref 25], _, 0, 0)) rfl ?_
    refine pm_go (g := (48, _, [.ref 29], _, 0, 0)) rfl ?_
    refine pm_go (g := (49, _, [.int m, .ref 29], _, 0, 0)) rfl ?_
    refine pm_sd (g := (50, _, [.int (mNa (m).toNatClampNeg)], _, 0, 0)) rfl (pm_inI (by omega) (by omega)) ?_
    refine pm_go (g := (52, _, [.int 6, .int (mNa (m).toNatClampNeg)], _, 0, 0)) rfl ?_
    refine pm_if2 (g := (69, [(3, .int 0), (0, .ref 25), (1, .int t), (2, .int m)], [], hq g c1 c2 c3 c4 c5 c6 c7 c8 c9 c10 c11 c12 c13 c14 c15 c16 c17 c18 c19 c20 c21 c22 c23 c24 (hc25 mTy mTm mMn mFn mRn mTn mVn mLr mTr mFl mFm mFp mSc mMp mEn) (hc26 mPa) (hc27 mTo) (hc28 mOt) (hc29 mNa) (hc30 mRe) (hc31 mMa) (hc32 mMy) (hc33 mPm) (hc34 mFy) (hc35 mFa) (hc36 mFr) (hc37 mFo) (hc38 mRt) (hc39 mRm) (hc40 mTt) (hc41 mTi) (hc42 mPl) (hc43 mVr) (hc44 mVf) (hc45 mVc) (hc46 mAr) (hc47 mTc) (hc48 mFt) (hc49 mGo) dyn, 0, 0)) (h := (55, [(3, .int 0), (0, .ref 25), (1, .int t), (2, .int m)], [], hq g c1 c2 c3 c4 c5 c6 c7 c8 c9 c10 c11 c12 c13 c14 c15 c16 c17 c18 c19 c20 c21 c22 c23 c24 (hc25 mTy mTm mMn mFn mRn mTn mVn mLr mTr mFl mFm mFp mSc mMp mEn) (hc26 mPa) (hc27 mTo) (hc28 mOt) (hc29 mNa) (hc30 mRe) (hc31 mMa) (hc32 mMy) (hc33 mPm) (hc34 mFy) (hc35 mFa) (hc36 mFr) (hc37 mFo) (hc38 mRt) (hc39 mRm) (hc40 mTt) (hc41 mTi) (hc42 mPl) (hc43 mVr) (hc44 mVf) (hc45 mVc) (hc46 mAr) (hc47 mTc) (hc48 mFt) (hc49 mGo) dyn, 0, 0)) rfl (fun h10 => ?_) (fun h10 => ?_)
    ·
      have h10 := qT_eq (cx := (mNa (m).toNatClampNeg).toInt) (cy := 6) rfl (by decide) h10
      refine pm_go (g := (70, _, [.int 0], _, 0, 0)) rfl ?_
      refine pm_ret rfl (k1 ?_)
      unfold hadM; rw [hc]; rintro (⟨r1, r2⟩ | ⟨r1, r2, r3, r4⟩) <;> first | omega | (simp_all; done)
    have h10 := qF_eq (cx := (mNa (m).toNatClampNeg).toInt) (cy := 6) rfl (by decide) h10
    refine pm_go (g := (56, _, [.ref 25], _, 0, 0)) rfl ?_
    refine pm_go (g := (57, _, [.int 0, .ref 25], _, 0, 0)) rfl ?_
    refine pm_go (g := (58, _, [.ref 25, .int 0, .ref 25], _, 0, 0)) rfl ?_
    refine pm_go (g := (61, _, [.ref 28, .int 0, .ref 25], _, 0, 0)) rfl ?_
    refine pm_go (g := (62, _, [.int m, .ref 28, .int 0, .ref 25], _, 0, 0)) rfl ?_
    refine pm_sd (g := (63, _, [.int (mOt (m).toNatClampNeg), .int 0, .ref 25], _, 0, 0)) rfl (pm_inI (by omega) (by omega)) ?_
    refine pm_callD (z := 132) (as := [.ref 25, .int 0, .int (mOt (m).toNatClampNeg)]) (rest := []) rfl ?_
    have h11 : (0 : Int32).toInt = 0 := by decide
    refine w_X12_isUnder 0 (mOt (m).toNatClampNeg) (by assumption) (fun h12 => ?_) (fun h13 => ?_)
    ·
      show pm_WP 143 (66, [(3, .int 0), (0, .ref 25), (1, .int t), (2, .int m)], [.int 1], _, 0, 0) _
      refine pm_brT (g := (71, [(3, .int 0), (0, .ref 25), (1, .int t), (2, .int m)], [], hq g c1 c2 c3 c4 c5 c6 c7 c8 c9 c10 c11 c12 c13 c14 c15 c16 c17 c18 c19 c20 c21 c22 c23 c24 (hc25 mTy mTm mMn mFn mRn mTn mVn mLr mTr mFl mFm mFp mSc mMp mEn) (hc26 mPa) (hc27 mTo) (hc28 mOt) (hc29 mNa) (hc30 mRe) (hc31 mMa) (hc32 mMy) (hc33 mPm) (hc34 mFy) (hc35 mFa) (hc36 mFr) (hc37 mFo) (hc38 mRt) (hc39 mRm) (hc40 mTt) (hc41 mTi) (hc42 mPl) (hc43 mVr) (hc44 mVf) (hc45 mVc) (hc46 mAr) (hc47 mTc) (hc48 mFt) (hc49 mGo) dyn, 0, 0)) rfl ?_
      refine pm_go (g := (72, _, [.int 0], _, 0, 0)) rfl ?_
      refine pm_go (g := (74, [(4, .int 0), (3, .int 0), (0, .ref 25), (1, .int t), (2, .int m)], [], _, 0, 0)) rfl ?_
      refine w_isHad_loop t m 0 p0 p1 p2 p3 41 0 (by omega) (by omega) (fun h => k0 (Or.inr ?_)) (fun h => k1 ?_)
      · rw [hc]; exact ⟨by omega, by omega, by assumption, fun j g => h j (Nat.zero_le j) g⟩
      · obtain ⟨j, q1, q2, q3⟩ := h; rintro (⟨r1, r2⟩ | ⟨r1, r2, r3, r4⟩)
        · rw [hc] at r1; omega
        · rw [hc] at r4; exact r4 j q2 q3
    show pm_WP 143 (66, [(3, .int 0), (0, .ref 25), (1, .int t), (2, .int m)], [.int 0], hq g c1 c2 c3 c4 c5 c6 c7 c8 c9 c10 c11 c12 c13 c14 c15 c16 c17 c18 c19 c20 c21 c22 c23 c24 (hc25 mTy mTm mMn mFn mRn mTn mVn mLr mTr mFl mFm mFp mSc mMp mEn) (hc26 mPa) (hc27 mTo) (hc28 mOt) (hc29 mNa) (hc30 mRe) (hc31 mMa) (hc32 mMy) (hc33 mPm) (hc34 mFy) (hc35 mFa) (hc36 mFr) (hc37 mFo) (hc38 mRt) (hc39 mRm) (hc40 mTt) (hc41 mTi) (hc42 mPl) (hc43 mVr) (hc44 mVf) (hc45 mVc) (hc46 mAr) (hc47 mTc) (hc48 mFt) (hc49 mGo) dyn, 0, 0) _
    refine pm_brF (h := (69, [(3, .int 0), (0, .ref 25), (1, .int t), (2, .int m)], [], hq g c1 c2 c3 c4 c5 c6 c7 c8 c9 c10 c11 c12 c13 c14 c15 c16 c17 c18 c19 c20 c21 c22 c23 c24 (hc25 mTy mTm mMn mFn mRn mTn mVn mLr mTr mFl mFm mFp mSc mMp mEn) (hc26 mPa) (hc27 mTo) (hc28 mOt) (hc29 mNa) (hc30 mRe) (hc31 mMa) (hc32 mMy) (hc33 mPm) (hc34 mFy) (hc35 mFa) (hc36 mFr) (hc37 mFo) (hc38 mRt) (hc39 mRm) (hc40 mTt) (hc41 mTi) (hc42 mPl) (hc43 mVr) (hc44 mVf) (hc45 mVc) (hc46 mAr) (hc47 mTc) (hc48 mFt) (hc49 mGo) dyn, 0, 0)) rfl ?_
    refine pm_go (g := (70, _, [.int 0], _, 0, 0)) rfl ?_
    refine pm_ret rfl (k1 ?_)
    unfold hadM; rw [hc]; rintro (⟨r1, r2⟩ | ⟨r1, r2, r3, r4⟩) <;> first | omega | (simp_all; done)
  have h9 := qF_ne (cx := (mOt (m).toNatClampNeg).toInt) (cy := 0) rfl (by decide) h9
  refine pm_go (g := (23, _, [.ref 25], _, 0, 0)) rfl ?_
  refine pm_go (g := (26, _, [.ref 29], _, 0, 0)) rfl ?_
  refine pm_go (g := (27, _, [.int m, .ref 29], _, 0, 0)) rfl ?_
  refine pm_sd (g := (28, _, [.int (mNa (m).toNatClampNeg)], _, 0, 0)) rfl (pm_inI (by omega) (by omega)) ?_
  refine pm_go (g := (30, _, [.int 6, .int (mNa (m).toNatClampNeg)], _, 0, 0)) rfl ?_
  refine pm_if2 (g := (38, [(3, .int 0), (0, .ref 25), (1, .int t), (2, .int m)], [], hq g c1 c2 c3 c4 c5 c6 c7 c8 c9 c10 c11 c12 c13 c14 c15 c16 c17 c18 c19 c20 c21 c22 c23 c24 (hc25 mTy mTm mMn mFn mRn mTn mVn mLr mTr mFl mFm mFp mSc mMp mEn) (hc26 mPa) (hc27 mTo) (hc28 mOt) (hc29 mNa) (hc30 mRe) (hc31 mMa) (hc32 mMy) (hc33 mPm) (hc34 mFy) (hc35 mFa) (hc36 mFr) (hc37 mFo) (hc38 mRt) (hc39 mRm) (hc40 mTt) (hc41 mTi) (hc42 mPl) (hc43 mVr) (hc44 mVf) (hc45 mVc) (hc46 mAr) (hc47 mTc) (hc48 mFt) (hc49 mGo) dyn, 0, 0)) (h := (33, [(3, .int 0), (0, .ref 25), (1, .int t), (2, .int m)], [], hq g c1 c2 c3 c4 c5 c6 c7 c8 c9 c10 c11 c12 c13 c14 c15 c16 c17 c18 c19 c20 c21 c22 c23 c24 (hc25 mTy mTm mMn mFn mRn mTn mVn mLr mTr mFl mFm mFp mSc mMp mEn) (hc26 mPa) (hc27 mTo) (hc28 mOt) (hc29 mNa) (hc30 mRe) (hc31 mMa) (hc32 mMy) (hc33 mPm) (hc34 mFy) (hc35 mFa) (hc36 mFr) (hc37 mFo) (hc38 mRt) (hc39 mRm) (hc40 mTt) (hc41 mTi) (hc42 mPl) (hc43 mVr) (hc44 mVf) (hc45 mVc) (hc46 mAr) (hc47 mTc) (hc48 mFt) (hc49 mGo) dyn, 0, 0)) rfl (fun h15 => ?_) (fun h15 => ?_)
  ·
    have h15 := qT_ne (cx := (mNa (m).toNatClampNeg).toInt) (cy := 6) rfl (by decide) h15
    refine pm_go (g := (39, _, [.int 1], _, 0, 0)) rfl ?_
    refine pm_go (g := (43, _, [.int 1], _, 0, 0)) rfl ?_
    exact pm_ret rfl (k0 (Or.inl (by rw [hc]; omega)))
  have h15 := qF_ne (cx := (mNa (m).toNatClampNeg).toInt) (cy := 6) rfl (by decide) h15
  refine pm_go (g := (34, _, [.int 0], _, 0, 0)) rfl ?_
  refine pm_go (g := (35, _, [.int t, .int 0], _, 0, 0)) rfl ?_
  refine pm_if2 (g := (42, [(3, .int 0), (0, .ref 25), (1, .int t), (2, .int m)], [], hq g c1 c2 c3 c4 c5 c6 c7 c8 c9 c10 c11 c12 c13 c14 c15 c16 c17 c18 c19 c20 c21 c22 c23 c24 (hc25 mTy mTm mMn mFn mRn mTn mVn mLr mTr mFl mFm mFp mSc mMp mEn) (hc26 mPa) (hc27 mTo) (hc28 mOt) (hc29 mNa) (hc30 mRe) (hc31 mMa) (hc32 mMy) (hc33 mPm) (hc34 mFy) (hc35 mFa) (hc36 mFr) (hc37 mFo) (hc38 mRt) (hc39 mRm) (hc40 mTt) (hc41 mTi) (hc42 mPl) (hc43 mVr) (hc44 mVf) (hc45 mVc) (hc46 mAr) (hc47 mTc) (hc48 mFt) (hc49 mGo) dyn, 0, 0)) (h := (38, [(3, .int 0), (0, .ref 25), (1, .int t), (2, .int m)], [], hq g c1 c2 c3 c4 c5 c6 c7 c8 c9 c10 c11 c12 c13 c14 c15 c16 c17 c18 c19 c20 c21 c22 c23 c24 (hc25 mTy mTm mMn mFn mRn mTn mVn mLr mTr mFl mFm mFp mSc mMp mEn) (hc26 mPa) (hc27 mTo) (hc28 mOt) (hc29 mNa) (hc30 mRe) (hc31 mMa) (hc32 mMy) (hc33 mPm) (hc34 mFy) (hc35 mFa) (hc36 mFr) (hc37 mFo) (hc38 mRt) (hc39 mRm) (hc40 mTt) (hc41 mTi) (hc42 mPl) (hc43 mVr) (hc44 mVf) (hc45 mVc) (hc46 mAr) (hc47 mTc) (hc48 mFt) (hc49 mGo) dyn, 0, 0)) rfl (fun h16 => ?_) (fun h16 => ?_)
  ·
    have h16 := qT_ne (cx := 0) (cy := (t).toInt) (by decide) rfl h16
    refine pm_go (g := (43, _, [.int 0], _, 0, 0)) rfl ?_
    refine pm_ret rfl (k1 ?_)
    unfold hadM; rw [hc]; rintro (⟨r1, r2⟩ | ⟨r1, r2, r3, r4⟩) <;> first | omega | (simp_all; done)
  have h16 := qF_ne (cx := 0) (cy := (t).toInt) (by decide) rfl h16
  refine pm_go (g := (39, _, [.int 1], _, 0, 0)) rfl ?_
  refine pm_go (g := (43, _, [.int 1], _, 0, 0)) rfl ?_
  exact pm_ret rfl (k0 (Or.inl (by rw [hc]; omega)))
/-- the reference's isOpen, from the k-th member on -/
def opL (pa ot na my pm ma : Nat → Int32) (mn t : Int32) (k : Nat) : Prop := ∃ j : Nat, k ≤ j ∧ (j : Int) < mn.toInt ∧ (ma (nI j).toNatClampNeg &&& 2).toInt ≠ 0 ∧ hadM pa ot na my pm mn t (nI j)
set_option maxRecDepth 100000 in
set_option maxHeartbeats 4000000 in
theorem w_isOpen_loop1 {g c1 c2 c3 c4 c5 c6 c7 c8 c9 c10 c11 c12 c13 c14 c15 c16 c17 c18 c19 c20 c21 c22 c23 c24 : pm_C} {dyn : pm_H} {mTy : Int32} {mPa : Nat → Int32} {mTo : Nat → Int32} {mTm : Int32} {mMn : Int32} {mOt : Nat → Int32} {mNa : Nat → Int32} {mRe : Nat → Int32} {mMa : Nat → Int32} {mMy : Nat → Int32} {mPm : Nat → Int32} {mFn : Int32} {mFy : Nat → Int32} {mFa : Nat → Int32} {mFr : Nat → Int32} {mRn : Int32} {mFo : Nat → Int32} {mRt : Nat → Int32} {mRm : Nat → Int32} {mTn : Int32} {mTt : Nat → Int32} {mTi : Nat → Int32} {mPl : Nat → Int32} {mVn : Int32} {mVr : Nat → Int32} {mVf : Nat → Int32} {mVc : Nat → Int32} {mAr : Nat → Int32} {mLr : Int32} {mTc : Nat → Int32} {mTr : Int32} {mFl : Int32} {mFt : Nat → Int32} {mFm : Int32} {mFp : Int32} {mSc : Int32} {mMp : Int32} {mEn : Int32} {mGo : Nat → Int32} {Q : pm_Q} (t : Int32) (hp : paD mPa) (hy : myD mMy) (hn : 0 ≤ mMn.toInt ∧ mMn.toInt ≤ 40) : ∀ (n k : Nat), (k ≤ 40) → (40 < k + n) → (Q (some (.int 1)) (hq g c1 c2 c3 c4 c5 c6 c7 c8 c9 c10 c11 c12 c13 c14 c15 c16 c17 c18 c19 c20 c21 c22 c23 c24 (hc25 mTy mTm mMn mFn mRn mTn mVn mLr mTr mFl mFm mFp mSc mMp mEn) (hc26 mPa) (hc27 mTo) (hc28 mOt) (hc29 mNa) (hc30 mRe) (hc31 mMa) (hc32 mMy) (hc33 mPm) (hc34 mFy) (hc35 mFa) (hc36 mFr) (hc37 mFo) (hc38 mRt) (hc39 mRm) (hc40 mTt) (hc41 mTi) (hc42 mPl) (hc43 mVr) (hc44 mVf) (hc45 mVc) (hc46 mAr) (hc47 mTc) (hc48 mFt) (hc49 mGo) dyn)) → pm_WP 145 (4, [(3, .int (nI k)), (2, .int 1), (0, .ref 25), (1, .int t)], [], hq g c1 c2 c3 c4 c5 c6 c7 c8 c9 c10 c11 c12 c13 c14 c15 c16 c17 c18 c19 c20 c21 c22 c23 c24 (hc25 mTy mTm mMn mFn mRn mTn mVn mLr mTr mFl mFm mFp mSc mMp mEn) (hc26 mPa) (hc27 mTo) (hc28 mOt) (hc29 mNa) (hc30 mRe) (hc31 mMa) (hc32 mMy) (hc33 mPm) (hc34 mFy) (hc35 mFa) (hc36 mFr) (hc37 mFo) (hc38 mRt) (hc39 mRm) (hc40 mTt) (hc41 mTi) (hc42 mPl) (hc43 mVr) (hc44 mVf) (hc45 mVc) (hc46 mAr) (hc47 mTc) (hc48 mFt) (hc49 mGo) dyn, 0, 0) Q := by
  intro n
  induction n with
  | zero =>
    intro k g1 g2 k0
    exfalso; omega
  | succ n ih =>
    intro k g1 g2 k0
    have hk := nI_toInt (n := k) (by omega)
    have hkc : (nI k).toNatClampNeg = k := nI_clamp (by omega)
    refine pm_go (g := (5, [(3, .int (nI k)), (2, .int 1), (0, .ref 25), (1, .int t)], [.int (nI k)], hq g c1 c2 c3 c4 c5 c6 c7 c8 c9 c10 c11 c12 c13 c14 c15 c16 c17 c18 c19 c20 c21 c22 c23 c24 (hc25 mTy mTm mMn mFn mRn mTn mVn mLr mTr mFl mFm mFp mSc mMp mEn) (hc26 mPa) (hc27 mTo) (hc28 mOt) (hc29 mNa) (hc30 mRe) (hc31 mMa) (hc32 mMy) (hc33 mPm) (hc34 mFy) (hc35 mFa) (hc36 mFr) (hc37 mFo) (hc38 mRt) (hc39 mRm) (hc40 mTt) (hc41 mTi) (hc42 mPl) (hc43 mVr) (hc44 mVf) (hc45 mVc) (hc46 mAr) (hc47 mTc) (hc48 mFt) (hc49 mGo) dyn, 0, 0)) rfl ?_
    refine pm_go (g := (6, _, [.ref 25, .int (nI k)], _, 0, 0)) rfl ?_
    refine pm_go (g := (9, _, [.int mMn, .int (nI k)], _, 0, 0)) rfl ?_
    refine pm_if2 (g := (46, [(3, .int (nI k)), (2, .int 1), (0, .ref 25), (1, .int t)], [], hq g c1 c2 c3 c4 c5 c6 c7 c8 c9 c10 c11 c12 c13 c14 c15 c16 c17 c18 c19 c20 c21 c22 c23 c24 (hc25 mTy mTm mMn mFn mRn mTn mVn mLr mTr mFl mFm mFp mSc mMp mEn) (hc26 mPa) (hc27 mTo) (hc28 mOt) (hc29 mNa) (hc30 mRe) (hc31 mMa) (hc32 mMy) (hc33 mPm) (hc34 mFy) (hc35 mFa) (hc36 mFr) (hc37 mFo) (hc38 mRt) (hc39 mRm) (hc40 mTt) (hc41 mTi) (hc42 mPl) (hc43 mVr) (hc44 mVf) (hc45 mVc) (hc46 mAr) (hc47 mTc) (hc48 mFt) (hc49 mGo) dyn, 0, 0)) (h := (12, [(3, .int (nI k)), (2, .int 1), (0, .ref 25), (1, .int t)], [], hq g c1 c2 c3 c4 c5 c6 c7 c8 c9 c10 c11 c12 c13 c14 c15 c16 c17 c18 c19 c20 c21 c22 c23 c24 (hc25 mTy mTm mMn mFn mRn mTn mVn mLr mTr mFl mFm mFp mSc mMp mEn) (hc26 mPa) (hc27 mTo) (hc28 mOt) (hc29 mNa) (hc30 mRe) (hc31 mMa) (hc32 mMy) (hc33 mPm) (hc34 mFy) (hc35 mFa) (hc36 mFr) (hc37 mFo) (hc38 mRt) (hc39 mRm) (hc40 mTt) (hc41 mTi) (hc42 mPl) (hc43 mVr) (hc44 mVf) (hc45 mVc) (hc46 mAr) (hc47 mTc) (hc48 mFt) (hc49 mGo) dyn, 0, 0)) rfl (fun h1 => ?_) (fun h1 => ?_)
    ·
      have h1 := qT_ge (cx := (nI k).toInt) (cy := (mMn).toInt) rfl rfl h1
      refine pm_go (g := (47, _, [.int 1], _, 0, 0)) rfl ?_
      exact pm_ret rfl k0
    have h1 := qF_ge (cx := (nI k).toInt) (cy := (mMn).toInt) rfl rfl h1
    refine pm_go (g := (13, _, [.int 1], _, 0, 0)) rfl ?_
    refine pm_brT (g := (34, [(3, .int (nI k)), (2, .int 1), (0, .ref 25), (1, .int t)], [], hq g c1 c2 c3 c4 c5 c6 c7 c8 c9 c10 c11 c12 c13 c14 c15 c16 c17 c18 c19 c20 c21 c22 c23 c24 (hc25 mTy mTm mMn mFn mRn mTn mVn mLr mTr mFl mFm mFp mSc mMp mEn) (hc26 mPa) (hc27 mTo) (hc28 mOt) (hc29 mNa) (hc30 mRe) (hc31 mMa) (hc32 mMy) (hc33 mPm) (hc34 mFy) (hc35 mFa) (hc36 mFr) (hc37 mFo) (hc38 mRt) (hc39 mRm) (hc40 mTt) (hc41 mTi) (hc42 mPl) (hc43 mVr) (hc44 mVf) (hc45 mVc) (hc46 mAr) (hc47 mTc) (hc48 mFt) (hc49 mGo) dyn, 0, 0)) rfl ?_
    refine pm_go (g := (35, _, [.int 1], _, 0, 0)) rfl ?_
    refine pm_go (g := (39, _, [.int 1], _, 0, 0)) rfl ?_
    refine pm_go (g := (40, [(2, .int 1), (3, .int (nI k)), (0, .ref 25), (1, .int t)], [], _, 0, 0)) rfl ?_
    refine pm_go (g := (43, [(3, .int ((nI k) + 1)), (2, .int 1), (0, .ref 25), (1, .int t)], [], _, 0, 0)) rfl ?_
    refine pm_go (g := (4, _, [], _, 0, 0)) rfl ?_
    rw [nI_1]
    exact ih (k + 1) (by omega) (by omega) k0
set_option maxRecDepth 100000 in
set_option maxHeartbeats 4000000 in
theorem w_isOpen_loop {g c1 c2 c3 c4 c5 c6 c7 c8 c9 c10 c11 c12 c13 c14 c15 c16 c17 c18 c19 c20 c21 c22 c23 c24 : pm_C} {dyn : pm_H} {mTy : Int32} {mPa : Nat → Int32} {mTo : Nat → Int32} {mTm : Int32} {mMn : Int32} {mOt : Nat → Int32} {mNa : Nat → Int32} {mRe : Nat → Int32} {mMa : Nat → Int32} {mMy : Nat → Int32} {mPm : Nat → Int32} {mFn : Int32} {mFy : Nat → Int32} {mFa : Nat → Int32} {mFr : Nat → Int32} {mRn : Int32} {mFo : Nat → Int32} {mRt : Nat → Int32} {mRm : Nat → Int32} {mTn : Int32} {mTt : Nat → Int32} {mTi : Nat → Int32} {mPl : Nat → Int32} {mVn : Int32} {mVr : Nat → Int32} {mVf : Nat → Int32} {mVc : Nat → Int32} {mAr : Nat → Int32} {mLr : Int32} {mTc : Nat → Int32} {mTr : Int32} {mFl : Int32} {mFt : Nat → Int32} {mFm : Int32} {mFp : Int32} {mSc : Int32} {mMp : Int32} {mEn : Int32} {mGo : Nat → Int32} {Q : pm_Q} (t : Int32) (hp : paD mPa) (hy : myD mMy) (hn : 0 ≤ mMn.toInt ∧ mMn.toInt ≤ 40) : ∀ (n k : Nat), (k ≤ 40) → (40 < k + n) → (opL mPa mOt mNa mMy mPm mMa mMn t k → Q (some (.int 1)) (hq g c1 c2 c3 c4 c5 c6 c7 c8 c9 c10 c11 c12 c13 c14 c15 c16 c17 c18 c19 c20 c21 c22 c23 c24 (hc25 mTy mTm mMn mFn mRn mTn mVn mLr mTr mFl mFm mFp mSc mMp mEn) (hc26 mPa) (hc27 mTo) (hc28 mOt) (hc29 mNa) (hc30 mRe) (hc31 mMa) (hc32 mMy) (hc33 mPm) (hc34 mFy) (hc35 mFa) (hc36 mFr) (hc37 mFo) (hc38 mRt) (hc39 mRm) (hc40 mTt) (hc41 mTi) (hc42 mPl) (hc43 mVr) (hc44 mVf) (hc45 mVc) (hc46 mAr) (hc47 mTc) (hc48 mFt) (hc49 mGo) dyn)) → (¬ opL mPa mOt mNa mMy mPm mMa mMn t k → Q (some (.int 0)) (hq g c1 c2 c3 c4 c5 c6 c7 c8 c9 c10 c11 c12 c13 c14 c15 c16 c17 c18 c19 c20 c21 c22 c23 c24 (hc25 mTy mTm mMn mFn mRn mTn mVn mLr mTr mFl mFm mFp mSc mMp mEn) (hc26 mPa) (hc27 mTo) (hc28 mOt) (hc29 mNa) (hc30 mRe) (hc31 mMa) (hc32 mMy) (hc33 mPm) (hc34 mFy) (hc35 mFa) (hc36 mFr) (hc37 mFo) (hc38 mRt) (hc39 mRm) (hc40 mTt) (hc41 mTi) (hc42 mPl) (hc43 mVr) (hc44 mVf) (hc45 mVc) (hc46 mAr) (hc47 mTc) (hc48 mFt) (hc49 mGo) dyn)) → pm_WP 145 (4, [(3, .int (nI k)), (2, .int 0), (0, .ref 25), (1, .int t)], [], hq g c1 c2 c3 c4 c5 c6 c7 c8 c9 c10 c11 c12 c13 c14 c15 c16 c17 c18 c19 c20 c21 c22 c23 c24 (hc25 mTy mTm mMn mFn mRn mTn mVn mLr mTr mFl mFm mFp mSc mMp mEn) (hc26 mPa) (hc27 mTo) (hc28 mOt) (hc29 mNa) (hc30 mRe) (hc31 mMa) (hc32 mMy) (hc33 mPm) (hc34 mFy) (hc35 mFa) (hc36 mFr) (hc37 mFo) (hc38 mRt) (hc39 mRm) (hc40 mTt) (hc41 mTi) (hc42 mPl) (hc43 mVr) (hc44 mVf) (hc45 mVc) (hc46 mAr) (hc47 mTc) (hc48 mFt) (hc49 mGo) dyn, 0, 0) Q := by
  intro n
  induction n with
  | zero =>
    intro k g1 g2 k0 k1
    exfalso; omega
  | succ n ih =>
    intro k g1 g2 k0 k1
    have hk := nI_toInt (n := k) (by omega)
    have hkc : (nI k).toNatClampNeg = k := nI_clamp (by omega)
    refine pm_go (g := (5, [(3, .int (nI k)), (2, .int 0), (0, .ref 25), (1, .int t)], [.int (nI k)], hq g c1 c2 c3 c4 c5 c6 c7 c8 c9 c10 c11 c12 c13 c14 c15 c16 c17 c18 c19 c20 c21 c22 c23 c24 (hc25 mTy mTm mMn mFn mRn mTn mVn mLr mTr mFl mFm mFp mSc mMp mEn) (hc26 mPa) (hc27 mTo) (hc28 mOt) (hc29 mNa) (hc30 mRe) (hc31 mMa) (hc32 mMy) (hc33 mPm) (hc34 mFy) (hc35 mFa) (hc36 mFr) (hc37 mFo) (hc38 mRt) (hc39 mRm) (hc40 mTt) (hc41 mTi) (hc42 mPl) (hc43 mVr) (hc44 mVf) (hc45 mVc) (hc46 mAr) (hc47 mTc) (hc48 mFt) (hc49 mGo) dyn, 0, 0)) rfl ?_
    refine pm_go (g := (6, _, [.ref 25, .int (nI k)], _, 0, 0)) rfl ?_
    refine pm_go (g := (9, _, [.int mMn, .int (nI k)], _, 0, 0)) rfl ?_
    refine pm_if2 (g := (46, [(3, .int (nI k)), (2, .int 0), (0, .ref 25), (1, .int t)], [], hq g c1 c2 c3 c4 c5 c6 c7 c8 c9 c10 c11 c12 c13 c14 c15 c16 c17 c18 c19 c20 c21 c22 c23 c24 (hc25 mTy mTm mMn mFn mRn mTn mVn mLr mTr mFl mFm mFp mSc mMp mEn) (hc26 mPa) (hc27 mTo) (hc28 mOt) (hc29 mNa) (hc30 mRe) (hc31 mMa) (hc32 mMy) (hc33 mPm) (hc34 mFy) (hc35 mFa) (hc36 mFr) (hc37 mFo) (hc38 mRt) (hc39 mRm) (hc40 mTt) (hc41 mTi) (hc42 mPl) (hc43 mVr) (hc44 mVf) (hc45 mVc) (hc46 mAr) (hc47 mTc) (hc48 mFt) (hc49 mGo) dyn, 0, 0)) (h := (12, [(3, .int (nI k)), (2, .int 0), (0, .ref 25), (1, .int t)], [], hq g c1 c2 c3 c4 c5 c6 c7 c8 c9 c10 c11 c12 c13 c14 c15 c16 c17 c18 c19 c20 c21 c22 c23 c24 (hc25 mTy mTm mMn mFn mRn mTn mVn mLr mTr mFl mFm mFp mSc mMp mEn) (hc26 mPa) (hc27 mTo) (hc28 mOt) (hc29 mNa) (hc30 mRe) (hc31 mMa) (hc32 mMy) (hc33 mPm) (hc34 mFy) (hc35 mFa) (hc36 mFr) (hc37 mFo) (hc38 mRt) (hc39 mRm) (hc40 mTt) (hc41 mTi) (hc42 mPl) (hc43 mVr) (hc44 mVf) (hc45 mVc) (hc46 mAr) (hc47 mTc) (hc48 mFt) (hc49 mGo) dyn, 0, 0)) rfl (fun h1 => ?_) (fun h1 => ?_)
    ·
      have h1 := qT_ge (cx := (nI k).toInt) (cy := (mMn).toInt) rfl rfl h1
      refine pm_go (g := (47, _, [.int 0], _, 0, 0)) rfl ?_
      refine pm_ret rfl (k1 ?_)
      rintro ⟨j, q1, q2, q3⟩; omega
    have h1 := qF_ge (cx := (nI k).toInt) (cy := (mMn).toInt) rfl rfl h1
    refine pm_go (g := (13, _, [.int 0], _, 0, 0)) rfl ?_
    refine pm_brF (h := (16, [(3, .int (nI k)), (2, .int 0), (0, .ref 25), (1, .int t)], [], hq g c1 c2 c3 c4 c5 c6 c7 c8 c9 c10 c11 c12 c13 c14 c15 c16 c17 c18 c19 c20 c21 c22 c23 c24 (hc25 mTy mTm mMn mFn mRn mTn mVn mLr mTr mFl mFm mFp mSc mMp mEn) (hc26 mPa) (hc27 mTo) (hc28 mOt) (hc29 mNa) (hc30 mRe) (hc31 mMa) (hc32 mMy) (hc33 mPm) (hc34 mFy) (hc35 mFa) (hc36 mFr) (hc37 mFo) (hc38 mRt) (hc39 mRm) (hc40 mTt) (hc41 mTi) (hc42 mPl) (hc43 mVr) (hc44 mVf) (hc45 mVc) (hc46 mAr) (hc47 mTc) (hc48 mFt) (hc49 mGo) dyn, 0, 0)) rfl ?_
    refine pm_go (g := (17, _, [.ref 25], _, 0, 0)) rfl ?_
    refine pm_go (g := (18, _, [.int (nI k), .ref 25], _, 0, 0)) rfl ?_
    refine pm_go (g := (19, _, [.int 2, .int (nI k), .ref 25], _, 0, 0)) rfl ?_
    refine pm_callD (z := 139) (as := [.ref 25, .int (nI k), .int 2]) (rest := []) rfl ?_
    have h2 : (2 : Int32).toInt = 2 := by decide
    refine w_X12_isMark (nI k) 2 (by omega) (fun h3 => ?_) (fun h4 => ?_)
    ·
      show pm_WP 145 (22, [(3, .int (nI k)), (2, .int 0), (0, .ref 25), (1, .int t)], [.int 1], _, 0, 0) _
      refine pm_brF (h := (25, [(3, .int (nI k)), (2, .int 0), (0, .ref 25), (1, .int t)], [], hq g c1 c2 c3 c4 c5 c6 c7 c8 c9 c10 c11 c12 c13 c14 c15 c16 c17 c18 c19 c20 c21 c22 c23 c24 (hc25 mTy mTm mMn mFn mRn mTn mVn mLr mTr mFl mFm mFp mSc mMp mEn) (hc26 mPa) (hc27 mTo) (hc28 mOt) (hc29 mNa) (hc30 mRe) (hc31 mMa) (hc32 mMy) (hc33 mPm) (hc34 mFy) (hc35 mFa) (hc36 mFr) (hc37 mFo) (hc38 mRt) (hc39 mRm) (hc40 mTt) (hc41 mTi) (hc42 mPl) (hc43 mVr) (hc44 mVf) (hc45 mVc) (hc46 mAr) (hc47 mTc) (hc48 mFt) (hc49 mGo) dyn, 0, 0)) rfl ?_
      refine pm_go (g := (26, _, [.ref 25], _, 0, 0)) rfl ?_
      refine pm_go (g := (27, _, [.int t, .ref 25], _, 0, 0)) rfl ?_
      refine pm_go (g := (28, _, [.int (nI k), .int t, .ref 25], _, 0, 0)) rfl ?_
      refine pm_callD (z := 143) (as := [.ref 25, .int t, .int (nI k)]) (rest := []) rfl ?_
      refine w_X12_isHad t (nI k) (by omega) (by assumption) (by assumption) (by omega) (fun h6 => ?_) (fun h7 => ?_)
      ·
        show pm_WP 145 (31, [(3, .int (nI k)), (2, .int 0), (0, .ref 25), (1, .int t)], [.int 1], _, 0, 0) _
        refine pm_brF (h := (34, [(3, .int (nI k)), (2, .int 0), (0, .ref 25), (1, .int t)], [], hq g c1 c2 c3 c4 c5 c6 c7 c8 c9 c10 c11 c12 c13 c14 c15 c16 c17 c18 c19 c20 c21 c22 c23 c24 (hc25 mTy mTm mMn mFn mRn mTn mVn mLr mTr mFl mFm mFp mSc mMp mEn) (hc26 mPa) (hc27 mTo) (hc28 mOt) (hc29 mNa) (hc30 mRe) (hc31 mMa) (hc32 mMy) (hc33 mPm) (hc34 mFy) (hc35 mFa) (hc36 mFr) (hc37 mFo) (hc38 mRt) (hc39 mRm) (hc40 mTt) (hc41 mTi) (hc42 mPl) (hc43 mVr) (hc44 mVf) (hc45 mVc) (hc46 mAr) (hc47 mTc) (hc48 mFt) (hc49 mGo) dyn, 0, 0)) rfl ?_
        refine pm_go (g := (35, _, [.int 1], _, 0, 0)) rfl ?_
        refine pm_go (g := (39, _, [.int 1], _, 0, 0)) rfl ?_
        refine pm_go (g := (40, [(2, .int 1), (3, .int (nI k)), (0, .ref 25), (1, .int t)], [], _, 0, 0)) rfl ?_
        refine pm_go (g := (43, [(3, .int ((nI k) + 1)), (2, .int 1), (0, .ref 25), (1, .int t)], [], _, 0, 0)) rfl ?_
        refine pm_go (g := (4, _, [], _, 0, 0)) rfl ?_
        rw [nI_1]
        exact w_isOpen_loop1 t hp hy hn n (k + 1) (by omega) (by omega) (k0 ⟨k, Nat.le_refl k, by omega, by assumption, by assumption⟩)
      show pm_WP 145 (31, [(3, .int (nI k)), (2, .int 0), (0, .ref 25), (1, .int t)], [.int 0], hq g c1 c2 c3 c4 c5 c6 c7 c8 c9 c10 c11 c12 c13 c14 c15 c16 c17 c18 c19 c20 c21 c22 c23 c24 (hc25 mTy mTm mMn mFn mRn mTn mVn mLr mTr mFl mFm mFp mSc mMp mEn) (hc26 mPa) (hc27 mTo) (hc28 mOt) (hc29 mNa) (hc30 mRe) (hc31 mMa) (hc32 mMy) (hc33 mPm) (hc34 mFy) (hc35 mFa) (hc36 mFr) (hc37 mFo) (hc38 mRt) (hc39 mRm) (hc40 mTt) (hc41 mTi) (hc42 mPl) (hc43 mVr) (hc44 mVf) (hc45 mVc) (hc46 mAr) (hc47 mTc) (hc48 mFt) (hc49 mGo) dyn, 0, 0) _
      refine pm_brT (g := (38, [(3, .int (nI k)), (2, .int 0), (0, .ref 25), (1, .int t)], [], hq g c1 c2 c3 c4 c5 c6 c7 c8 c9 c10 c11 c12 c13 c14 c15 c16 c17 c18 c19 c20 c21 c22 c23 c24 (hc25 mTy mTm mMn mFn mRn mTn mVn mLr mTr mFl mFm mFp mSc mMp mEn) (hc26 mPa) (hc27 mTo) (hc28 mOt) (hc29 mNa) (hc30 mRe) (hc31 mMa) (hc32 mMy) (hc33 mPm) (hc34 mFy) (hc35 mFa) (hc36 mFr) (hc37 mFo) (hc38 mRt) (hc39 mRm) (hc40 mTt) (hc41 mTi) (hc42 mPl) (hc43 mVr) (hc44 mVf) (hc45 mVc) (hc46 mAr) (hc47 mTc) (hc48 mFt) (hc49 mGo) dyn, 0, 0)) rfl ?_
      refine pm_go (g := (39, _, [.int 0], _, 0, 0)) rfl ?_
      refine pm_go (g := (40, [(2, .int 0), (3, .int (nI k)), (0, .ref 25), (1, .int t)], [], _, 0, 0)) rfl ?_
      refine pm_go (g := (43, [(3, .int ((nI k) + 1)), (2, .int 0), (0, .ref 25), (1, .int t)], [], _, 0, 0)) rfl ?_
      refine pm_go (g := (4, _, [], _, 0, 0)) rfl ?_
      rw [nI_1]
      refine ih (k + 1) (by omega) (by omega) (fun h => k0 (by obtain ⟨j, q1, q2, q3⟩ := h; exact ⟨j, by omega, q2, q3⟩)) (fun h => k1 ?_)
      rintro ⟨j, q1, q2, q3, q4⟩
      rcases Nat.eq_or_lt_of_le q1 with e9 | e9
      · subst e9; first | omega | (simp_all; done)
      · exact h ⟨j, e9, q2, q3, q4⟩
    show pm_WP 145 (22, [(3, .int (nI k)), (2, .int 0), (0, .ref 25), (1, .int t)], [.int 0], hq g c1 c2 c3 c4 c5 c6 c7 c8 c9 c10 c11 c12 c13 c14 c15 c16 c17 c18 c19 c20 c21 c22 c23 c24 (hc25 mTy mTm mMn mFn mRn mTn mVn mLr mTr mFl mFm mFp mSc mMp mEn) (hc26 mPa) (hc27 mTo) (hc28 mOt) (hc29 mNa) (hc30 mRe) (hc31 mMa) (hc32 mMy) (hc33 mPm) (hc34 mFy) (hc35 mFa) (hc36 mFr) (hc37 mFo) (hc38 mRt) (hc39 mRm) (hc40 mTt) (hc41 mTi) (hc42 mPl) (hc43 mVr) (hc44 mVf) (hc45 mVc) (hc46 mAr) (hc47 mTc) (hc48 mFt) (hc49 mGo) dyn, 0, 0) _
    refine pm_brT (g := (38, [(3, .int (nI k)), (2, .int 0), (0, .ref 25), (1, .int t)], [], hq g c1 c2 c3 c4 c5 c6 c7 c8 c9 c10 c11 c12 c13 c14 c15 c16 c17 c18 c19 c20 c21 c22 c23 c24 (hc25 mTy mTm mMn mFn mRn mTn mVn mLr mTr mFl mFm mFp mSc mMp mEn) (hc26 mPa) (hc27 mTo) (hc28 mOt) (hc29 mNa) (hc30 mRe) (hc31 mMa) (hc32 mMy) (hc33 mPm) (hc34 mFy) (hc35 mFa) (hc36 mFr) (hc37 mFo) (hc38 mRt) (hc39 mRm) (hc40 mTt) (hc41 mTi) (hc42 mPl) (hc43 mVr) (hc44 mVf) (hc45 mVc) (hc46 mAr) (hc47 mTc) (hc48 mFt) (hc49 mGo) dyn, 0, 0)) rfl ?_
    refine pm_go (g := (39, _, [.int 0], _, 0, 0)) rfl ?_
    refine pm_go (g := (40, [(2, .int 0), (3, .int (nI k)), (0, .ref 25), (1, .int t)], [], _, 0, 0)) rfl ?_
    refine pm_go (g := (43, [(3, .int ((nI k) + 1)), (2, .int 0), (0, .ref 25), (1, .int t)], [], _, 0, 0)) rfl ?_
    refine pm_go (g := (4, _, [], _, 0, 0)) rfl ?_
    rw [nI_1]
    refine ih (k + 1) (by omega) (by omega) (fun h => k0 (by obtain ⟨j, q1, q2, q3⟩ := h; exact ⟨j, by omega, q2, q3⟩)) (fun h => k1 ?_)
    rintro ⟨j, q1, q2, q3, q4⟩
    rcases Nat.eq_or_lt_of_le q1 with e9 | e9
    · subst e9; first | omega | (simp_all; done)
    · exact h ⟨j, e9, q2, q3, q4⟩
set_option maxRecDepth 100000 in
set_option maxHeartbeats 4000000 in
theorem w_X12_isOpen {g c1 c2 c3 c4 c5 c6 c7 c8 c9 c10 c11 c12 c13 c14 c15 c16 c17 c18 c19 c20 c21 c22 c23 c24 : pm_C} {dyn : pm_H} {mTy : Int32} {mPa : Nat → Int32} {mTo : Nat → Int32} {mTm : Int32} {mMn : Int32} {mOt : Nat → Int32} {mNa : Nat → Int32} {mRe : Nat → Int32} {mMa : Nat → Int32} {mMy : Nat → Int32} {mPm : Nat → Int32} {mFn : Int32} {mFy : Nat → Int32} {mFa : Nat → Int32} {mFr : Nat → Int32} {mRn : Int32} {mFo : Nat → Int32} {mRt : Nat → Int32} {mRm : Nat → Int32} {mTn : Int32} {mTt : Nat → Int32} {mTi : Nat → Int32} {mPl : Nat → Int32} {mVn : Int32} {mVr : Nat → Int32} {mVf : Nat → Int32} {mVc : Nat → Int32} {mAr : Nat → Int32} {mLr : Int32} {mTc : Nat → Int32} {mTr : Int32} {mFl : Int32} {mFt : Nat → Int32} {mFm : Int32} {mFp : Int32} {mSc : Int32} {mMp : Int32} {mEn : Int32} {mGo : Nat → Int32} {Q : pm_Q} (t : Int32) (p0 : paD mPa) (p1 : myD mMy) (p2 : 0 ≤ mMn.toInt ∧ mMn.toInt ≤ 40) (k0 : opL mPa mOt mNa mMy mPm mMa mMn t 0 → Q (some (.int 1)) (hq g c1 c2 c3 c4 c5 c6 c7 c8 c9 c10 c11 c12 c13 c14 c15 c16 c17 c18 c19 c20 c21 c22 c23 c24 (hc25 mTy mTm mMn mFn mRn mTn mVn mLr mTr mFl mFm mFp mSc mMp mEn) (hc26 mPa) (hc27 mTo) (hc28 mOt) (hc29 mNa) (hc30 mRe) (hc31 mMa) (hc32 mMy) (hc33 mPm) (hc34 mFy) (hc35 mFa) (hc36 mFr) (hc37 mFo) (hc38 mRt) (hc39 mRm) (hc40 mTt) (hc41 mTi) (hc42 mPl) (hc43 mVr) (hc44 mVf) (hc45 mVc) (hc46 mAr) (hc47 mTc) (hc48 mFt) (hc49 mGo) dyn)) (k1 : ¬ opL mPa mOt mNa mMy mPm mMa mMn t 0 → Q (some (.int 0)) (hq g c1 c2 c3 c4 c5 c6 c7 c8 c9 c10 c11 c12 c13 c14 c15 c16 c17 c18 c19 c20 c21 c22 c23 c24 (hc25 mTy mTm mMn mFn mRn mTn mVn mLr mTr mFl mFm mFp mSc mMp mEn) (hc26 mPa) (hc27 mTo) (hc28 mOt) (hc29 mNa) (hc30 mRe) (hc31 mMa) (hc32 mMy) (hc33 mPm) (hc34 mFy) (hc35 mFa) (hc36 mFr) (hc37 mFo) (hc38 mRt) (hc39 mRm) (hc40 mTt) (hc41 mTi) (hc42 mPl) (hc43 mVr) (hc44 mVf) (hc45 mVc) (hc46 mAr) (hc47 mTc) (hc48 mFt) (hc49 mGo) dyn)) : pm_WP 145 (0, [(0, .ref 25), (1, .int t)], [], hq g c1 c2 c3 c4 c5 c6 c7 c8 c9 c10 c11 c12 c13 c14 c15 c16 c17 c18 c19 c20 c21 c22 c23 c24 (hc25 mTy mTm mMn mFn mRn mTn mVn mLr mTr mFl mFm mFp mSc mMp mEn) (hc26 mPa) (hc27 mTo) (hc28 mOt) (hc29 mNa) (hc30 mRe) (hc31 mMa) (hc32 mMy) (hc33 mPm) (hc34 mFy) (hc35 mFa) (hc36 mFr) (hc37 mFo) (hc38 mRt) (hc39 mRm) (hc40 mTt) (hc41 mTi) (hc42 mPl) (hc43 mVr) (hc44 mVf) (hc45 mVc) (hc46 mAr) (hc47 mTc) (hc48 mFt) (hc49 mGo) dyn, 0, 0) Q := by
  refine pm_go (g := (1, [(0, .ref 25), (1, .int t)], [.int 0], hq g c1 c2 c3 c4 c5 c6 c7 c8 c9 c10 c11 c12 c13 c14 c15 c16 c17 c18 c19 c20 c21 c22 c23 c24 (hc25 mTy mTm mMn mFn mRn mTn mVn mLr mTr mFl mFm mFp mSc mMp mEn) (hc26 mPa) (hc27 mTo) (hc28 mOt) (hc29 mNa) (hc30 mRe) (hc31 mMa) (hc32 mMy) (hc33 mPm) (hc34 mFy) (hc35 mFa) (hc36 mFr) (hc37 mFo) (hc38 mRt) (hc39 mRm) (hc40 mTt) (hc41 mTi) (hc42 mPl) (hc43 mVr) (hc44 mVf) (hc45 mVc) (hc46 mAr) (hc47 mTc) (hc48 mFt) (hc49 mGo) dyn, 0, 0)) rfl ?_
  refine pm_go (g := (2, [(2, .int 0), (0, .ref 25), (1, .int t)], [], _, 0, 0)) rfl ?_
  refine pm_go (g := (3, _, [.int 0], _, 0, 0)) rfl ?_
  refine pm_go (g := (4, [(3, .int 0), (2, .int 0), (0, .ref 25), (1, .int t)], [], _, 0, 0)) rfl ?_
  exact w_isOpen_loop t p0 p1 p2 41 0 (by omega) (by omega) k0 k1
set_option maxRecDepth 100000 in
set_option maxHeartbeats 4000000 in
theorem w_X12_open {g c1 c2 c3 c4 c5 c6 c7 c8 c9 c10 c11 c12 c13 c14 c15 c16 c17 c18 c19 c20 c21 c22 c23 c24 : pm_C} {dyn : pm_H} {mTy : Int32} {mPa : Nat → Int32} {mTo : Nat → Int32} {mTm : Int32} {mMn : Int32} {mOt : Nat → Int32} {mNa : Nat → Int32} {mRe : Nat → Int32} {mMa : Nat → Int32} {mMy : Nat → Int32} {mPm : Nat → Int32} {mFn : Int32} {mFy : Nat → Int32} {mFa : Nat → Int32} {mFr : Nat → Int32} {mRn : Int32} {mFo : Nat → Int32} {mRt : Nat → Int32} {mRm : Nat → Int32} {mTn : Int32} {mTt : Nat → Int32} {mTi : Nat → Int32} {mPl : Nat → Int32} {mVn : Int32} {mVr : Nat → Int32} {mVf : Nat → Int32} {mVc : Nat → Int32} {mAr : Nat → Int32} {mLr : Int32} {mTc : Nat → Int32} {mTr : Int32} {mFl : Int32} {mFt : Nat → Int32} {mFm : Int32} {mFp : Int32} {mSc : Int32} {mMp : Int32} {mEn : Int32} {mGo : Nat → Int32} {Q : pm_Q} (t : Int32) (p0 : 2 ≤ mTy.toInt ∧ mTy.toInt ≤ 10) (p1 : paD mPa) (p2 : myD mMy) (p3 : 0 ≤ mMn.toInt ∧ mMn.toInt ≤ 40) (k0 : (t.toInt < 0 ∨ mTy.toInt ≤ t.toInt) → Q (some (.int (-1))) (hq g c1 c2 c3 c4 c5 c6 c7 c8 c9 c10 c11 c12 c13 c14 c15 c16 c17 c18 c19 c20 c21 c22 c23 c24 (hc25 mTy mTm mMn mFn mRn mTn mVn mLr mTr mFl mFm mFp mSc mMp mEn) (hc26 mPa) (hc27 mTo) (hc28 mOt) (hc29 mNa) (hc30 mRe) (hc31 mMa) (hc32 mMy) (hc33 mPm) (hc34 mFy) (hc35 mFa) (hc36 mFr) (hc37 mFo) (hc38 mRt) (hc39 mRm) (hc40 mTt) (hc41 mTi) (hc42 mPl) (hc43 mVr) (hc44 mVf) (hc45 mVc) (hc46 mAr) (hc47 mTc) (hc48 mFt) (hc49 mGo) dyn)) (k1 : (0 ≤ t.toInt ∧ t.toInt < mTy.toInt) ∧ opL mPa mOt mNa mMy mPm mMa mMn t 0 → Q (some (.int 1)) (hq g c1 c2 c3 c4 c5 c6 c7 c8 c9 c10 c11 c12 c13 c14 c15 c16 c17 c18 c19 c20 c21 c22 c23 c24 (hc25 mTy mTm mMn mFn mRn mTn mVn mLr mTr mFl mFm mFp mSc mMp mEn) (hc26 mPa) (hc27 mTo) (hc28 mOt) (hc29 mNa) (hc30 mRe) (hc31 mMa) (hc32 mMy) (hc33 mPm) (hc34 mFy) (hc35 mFa) (hc36 mFr) (hc37 mFo) (hc38 mRt) (hc39 mRm) (hc40 mTt) (hc41 mTi) (hc42 mPl) (hc43 mVr) (hc44 mVf) (hc45 mVc) (hc46 mAr) (hc47 mTc) (hc48 mFt) (hc49 mGo) dyn)) (k2 : (0 ≤ t.toInt ∧ t.toInt < mTy.toInt) ∧ ¬ opL mPa mOt mNa mMy mPm mMa mMn t 0 → Q (some (.int 0)) (hq g c1 c2 c3 c4 c5 c6 c7 c8 c9 c10 c11 c12 c13 c14 c15 c16 c17 c18 c19 c20 c21 c22 c23 c24 (hc25 mTy mTm mMn mFn mRn mTn mVn mLr mTr mFl mFm mFp mSc mMp mEn) (hc26 mPa) (hc27 mTo) (hc28 mOt) (hc29 mNa) (hc30 mRe) (hc31 mMa) (hc32 mMy) (hc33 mPm) (hc34 mFy) (hc35 mFa) (hc36 mFr) (hc37 mFo) (hc38 mRt) (hc39 mRm) (hc40 mTt) (hc41 mTi) (hc42 mPl) (hc43 mVr) (hc44 mVf) (hc45 mVc) (hc46 mAr) (hc47 mTc) (hc48 mFt) (hc49 mGo) dyn)) : pm_WP 146 (0, [(0, .ref 25), (1, .int t)], [], hq g c1 c2 c3 c4 c5 c6 c7 c8 c9 c10 c11 c12 c13 c14 c15 c16 c17 c18 c19 c20 c21 c22 c23 c24 (hc25 mTy mTm mMn mFn mRn mTn mVn mLr mTr mFl mFm mFp mSc mMp mEn) (hc26 mPa) (hc27 mTo) (hc28 mOt) (hc29 mNa) (hc30 mRe) (hc31 mMa) (hc32 mMy) (hc33 mPm) (hc34 mFy) (hc35 mFa) (hc36 mFr) (hc37 mFo) (hc38 mRt) (hc39 mRm) (hc40 mTt) (hc41 mTi) (hc42 mPl) (hc43 mVr) (hc44 mVf) (hc45 mVc) (hc46 mAr) (hc47 mTc) (hc48 mFt) (hc49 mGo) dyn, 0, 0) Q := by
  refine pm_go (g := (1, [(0, .ref 25), (1, .int t)], [.ref 25], hq g c1 c2 c3 c4 c5 c6 c7 c8 c9 c10 c11 c12 c13 c14 c15 c16 c17 c18 c19 c20 c21 c22 c23 c24 (hc25 mTy mTm mMn mFn mRn mTn mVn mLr mTr mFl mFm mFp mSc mMp mEn) (hc26 mPa) (hc27 mTo) (hc28 mOt) (hc29 mNa) (hc30 mRe) (hc31 mMa) (hc32 mMy) (hc33 mPm) (hc34 mFy) (hc35 mFa) (hc36 mFr) (hc37 mFo) (hc38 mRt) (hc39 mRm) (hc40 mTt) (hc41 mTi) (hc42 mPl) (hc43 mVr) (hc44 mVf) (hc45 mVc) (hc46 mAr) (hc47 mTc) (hc48 mFt) (hc49 mGo) dyn, 0, 0)) rfl ?_
  refine pm_go (g := (2, _, [.int t, .ref 25], _, 0, 0)) rfl ?_
  refine pm_callD (z := 129) (as := [.ref 25, .int t]) (rest := []) rfl ?_
  refine w_X12_isClass t (by omega) (fun h1 => ?_) (fun h2 => ?_)
  ·
    show pm_WP 146 (5, [(0, .ref 25), (1, .int t)], [.int 1], _, 0, 0) _
    refine pm_brT (g := (12, [(0, .ref 25), (1, .int t)], [], hq g c1 c2 c3 c4 c5 c6 c7 c8 c9 c10 c11 c12 c13 c14 c15 c16 c17 c18 c19 c20 c21 c22 c23 c24 (hc25 mTy mTm mMn mFn mRn mTn mVn mLr mTr mFl mFm mFp mSc mMp mEn) (hc26 mPa) (hc27 mTo) (hc28 mOt) (hc29 mNa) (hc30 mRe) (hc31 mMa) (hc32 mMy) (hc33 mPm) (hc34 mFy) (hc35 mFa) (hc36 mFr) (hc37 mFo) (hc38 mRt) (hc39 mRm) (hc40 mTt) (hc41 mTi) (hc42 mPl) (hc43 mVr) (hc44 mVf) (hc45 mVc) (hc46 mAr) (hc47 mTc) (hc48 mFt) (hc49 mGo) dyn, 0, 0)) rfl ?_
    refine pm_go (g := (13, _, [.ref 25], _, 0, 0)) rfl ?_
    refine pm_go (g := (14, _, [.int t, .ref 25], _, 0, 0)) rfl ?_
    refine pm_callD (z := 145) (as := [.ref 25, .int t]) (rest := []) rfl ?_
    refine w_X12_isOpen t (by assumption) (by assumption) (by omega) (fun h4 => ?_) (fun h5 => ?_)
    ·
      show pm_WP 146 (17, [(0, .ref 25), (1, .int t)], [.int 1], _, 0, 0) _
      refine pm_brF (h := (20, [(0, .ref 25), (1, .int t)], [], hq g c1 c2 c3 c4 c5 c6 c7 c8 c9 c10 c11 c12 c13 c14 c15 c16 c17 c18 c19 c20 c21 c22 c23 c24 (hc25 mTy mTm mMn mFn mRn mTn mVn mLr mTr mFl mFm mFp mSc mMp mEn) (hc26 mPa) (hc27 mTo) (hc28 mOt) (hc29 mNa) (hc30 mRe) (hc31 mMa) (hc32 mMy) (hc33 mPm) (hc34 mFy) (hc35 mFa) (hc36 mFr) (hc37 mFo) (hc38 mRt) (hc39 mRm) (hc40 mTt) (hc41 mTi) (hc42 mPl) (hc43 mVr) (hc44 mVf) (hc45 mVc) (hc46 mAr) (hc47 mTc) (hc48 mFt) (hc49 mGo) dyn, 0, 0)) rfl ?_
      refine pm_go (g := (21, _, [.int 1], _, 0, 0)) rfl ?_
      refine pm_go (g := (25, _, [.int 1], _, 0, 0)) rfl ?_
      exact pm_ret rfl (k1 ⟨by omega, by assumption⟩)
    show pm_WP 146 (17, [(0, .ref 25), (1, .int t)], [.int 0], hq g c1 c2 c3 c4 c5 c6 c7 c8 c9 c10 c11 c12 c13 c14 c15 c16 c17 c18 c19 c20 c21 c22 c23 c24 (hc25 mTy mTm mMn mFn mRn mTn mVn mLr mTr mFl mFm mFp mSc mMp mEn) (hc26 mPa) (hc27 mTo) (hc28 mOt) (hc29 mNa) (hc30 mRe) (hc31 mMa) (hc32 mMy) (hc33 mPm) (hc34 mFy) (hc35 mFa) (hc36 mFr) (hc37 mFo) (hc38 mRt) (hc39 mRm) (hc40 mTt) (hc41 mTi) (hc42 mPl) (hc43 mVr) (hc44 mVf) (hc45 mVc) (hc46 mAr) (hc47 mTc) (hc48 mFt) (hc49 mGo) dyn, 0, 0) _
    refine pm_brT (g := (24, [(0, .ref 25), (1, .int t)], [], hq g c1 c2 c3 c4 c5 c6 c7 c8 c9 c10 c11 c12 c13 c14 c15 c16 c17 c18 c19 c20 c21 c22 c23 c24 (hc25 mTy mTm mMn mFn mRn mTn mVn mLr mTr mFl mFm mFp mSc mMp mEn) (hc26 mPa) (hc27 mTo) (hc28 mOt) (hc29 mNa) (hc30 mRe) (hc31 mMa) (hc32 mMy) (hc33 mPm) (hc34 mFy) (hc35 mFa) (hc36 mFr) (hc37 mFo) (hc38 mRt) (hc39 mRm) (hc40 mTt) (hc41 mTi) (hc42 mPl) (hc43 mVr) (hc44 mVf) (hc45 mVc) (hc46 mAr) (hc47 mTc) (hc48 mFt) (hc49 mGo) dyn, 0, 0)) rfl ?_
    refine pm_go (g := (25, _, [.int 0], _, 0, 0)) rfl ?_
    exact pm_ret rfl (k2 ⟨by omega, by assumption⟩)
  show pm_WP 146 (5, [(0, .ref 25), (1, .int t)], [.int 0], hq g c1 c2 c3 c4 c5 c6 c7 c8 c9 c10 c11 c12 c13 c14 c15 c16 c17 c18 c19 c20 c21 c22 c23 c24 (hc25 mTy mTm mMn mFn mRn mTn mVn mLr mTr mFl mFm mFp mSc mMp mEn) (hc26 mPa) (hc27 mTo) (hc28 mOt) (hc29 mNa) (hc30 mRe) (hc31 mMa) (hc32 mMy) (hc33 mPm) (hc34 mFy) (hc35 mFa) (hc36 mFr) (hc37 mFo) (hc38 mRt) (hc39 mRm) (hc40 mTt) (hc41 mTi) (hc42 mPl) (hc43 mVr) (hc44 mVf) (hc45 mVc) (hc46 mAr) (hc47 mTc) (hc48 mFt) (hc49 mGo) dyn, 0, 0) _
  refine pm_brF (h := (8, [(0, .ref 25), (1, .int t)], [], hq g c1 c2 c3 c4 c5 c6 c7 c8 c9 c10 c11 c12 c13 c14 c15 c16 c17 c18 c19 c20 c21 c22 c23 c24 (hc25 mTy mTm mMn mFn mRn mTn mVn mLr mTr mFl mFm mFp mSc mMp mEn) (hc26 mPa) (hc27 mTo) (hc28 mOt) (hc29 mNa) (hc30 mRe) (hc31 mMa) (hc32 mMy) (hc33 mPm) (hc34 mFy) (hc35 mFa) (hc36 mFr) (hc37 mFo) (hc38 mRt) (hc39 mRm) (hc40 mTt) (hc41 mTi) (hc42 mPl) (hc43 mVr) (hc44 mVf) (hc45 mVc) (hc46 mAr) (hc47 mTc) (hc48 mFt) (hc49 mGo) dyn, 0, 0)) rfl ?_
  refine pm_go (g := (9, _, [.int (-1)], _, 0, 0)) rfl ?_
  refine pm_go (g := (25, _, [.int (-1)], _, 0, 0)) rfl ?_
  exact pm_ret rfl (k0 (by omega))
end
section
theorem xZ1 : (1 : Int32).toInt = 1 := by decide
set_option maxRecDepth 100000 in
set_option maxHeartbeats 4000000 in
theorem w_X12_isLoose {g c1 c2 c3 c4 c5 c6 c7 c8 c9 c10 c11 c12 c13 c14 c15 c16 c17 c18 c19 c20 c21 c22 c23 c24 : pm_C} {dyn : pm_H} {mTy : Int32} {mPa : Nat → Int32} {mTo : Nat → Int32} {mTm : Int32} {mMn : Int32} {mOt : Nat → Int32} {mNa : Nat → Int32} {mRe : Nat → Int32} {mMa : Nat → Int32} {mMy : Nat → Int32} {mPm : Nat → Int32} {mFn : Int32} {mFy : Nat → Int32} {mFa : Nat → Int32} {mFr : Nat → Int32} {mRn : Int32} {mFo : Nat → Int32} {mRt : Nat → Int32} {mRm : Nat → Int32} {mTn : Int32} {mTt : Nat → Int32} {mTi : Nat → Int32} {mPl : Nat → Int32} {mVn : Int32} {mVr : Nat → Int32} {mVf : Nat → Int32} {mVc : Nat → Int32} {mAr : Nat → Int32} {mLr : Int32} {mTc : Nat → Int32} {mTr : Int32} {mFl : Int32} {mFt : Nat → Int32} {mFm : Int32} {mFp : Int32} {mSc : Int32} {mMp : Int32} {mEn : Int32} {mGo : Nat → Int32} {Q : pm_Q} (a : Int32) (b : Int32) (p0 : paD mPa) (k0 : lM mPa a b → Q (some (.int 1)) (hq g c1 c2 c3 c4 c5 c6 c7 c8 c9 c10 c11 c12 c13 c14 c15 c16 c17 c18 c19 c20 c21 c22 c23 c24 (hc25 mTy mTm mMn mFn mRn mTn mVn mLr mTr mFl mFm mFp mSc mMp mEn) (hc26 mPa) (hc27 mTo) (hc28 mOt) (hc29 mNa) (hc30 mRe) (hc31 mMa) (hc32 mMy) (hc33 mPm) (hc34 mFy) (hc35 mFa) (hc36 mFr) (hc37 mFo) (hc38 mRt) (hc39 mRm) (hc40 mTt) (hc41 mTi) (hc42 mPl) (hc43 mVr) (hc44 mVf) (hc45 mVc) (hc46 mAr) (hc47 mTc) (hc48 mFt) (hc49 mGo) dyn)) (k1 : ¬ lM mPa a b → Q (some (.int 0)) (hq g c1 c2 c3 c4 c5 c6 c7 c8 c9 c10 c11 c12 c13 c14 c15 c16 c17 c18 c19 c20 c21 c22 c23 c24 (hc25 mTy mTm mMn mFn mRn mTn mVn mLr mTr mFl mFm mFp mSc mMp mEn) (hc26 mPa) (hc27 mTo) (hc28 mOt) (hc29 mNa) (hc30 mRe) (hc31 mMa) (hc32 mMy) (hc33 mPm) (hc34 mFy) (hc35 mFa) (hc36 mFr) (hc37 mFo) (hc38 mRt) (hc39 mRm) (hc40 mTt) (hc41 mTi) (hc42 mPl) (hc43 mVr) (hc44 mVf) (hc45 mVc) (hc46 mAr) (hc47 mTc) (hc48 mFt) (hc49 mGo) dyn)) : pm_WP 133 (0, [(0, .ref 25), (1, .int a), (2, .int b)], [], hq g c1 c2 c3 c4 c5 c6 c7 c8 c9 c10 c11 c12 c13 c14 c15 c16 c17 c18 c19 c20 c21 c22 c23 c24 (hc25 mTy mTm mMn mFn mRn mTn mVn mLr mTr mFl mFm mFp mSc mMp mEn) (hc26 mPa) (hc27 mTo) (hc28 mOt) (hc29 mNa) (hc30 mRe) (hc31 mMa) (hc32 mMy) (hc33 mPm) (hc34 mFy) (hc35 mFa) (hc36 mFr) (hc37 mFo) (hc38 mRt) (hc39 mRm) (hc40 mTt) (hc41 mTi) (hc42 mPl) (hc43 mVr) (hc44 mVf) (hc45 mVc) (hc46 mAr) (hc47 mTc) (hc48 mFt) (hc49 mGo) dyn, 0, 0) Q := by
  refine pm_go (g := (1, [(0, .ref 25), (1, .int a), (2, .int b)], [.ref 25], hq g c1 c2 c3 c4 c5 c6 c7 c8 c9 c10 c11 c12 c13 c14 c15 c16 c17 c18 c19 c20 c21 c22 c23 c24 (hc25 mTy mTm mMn mFn mRn mTn mVn mLr mTr mFl mFm mFp mSc mMp mEn) (hc26 mPa) (hc27 mTo) (hc28 mOt) (hc29 mNa) (hc30 mRe) (hc31 mMa) (hc32 mMy) (hc33 mPm) (hc34 mFy) (hc35 mFa) (hc36 mFr) (hc37 mFo) (hc38 mRt) (hc39 mRm) (hc40 mTt) (hc41 mTi) (hc42 mPl) (hc43 mVr) (hc44 mVf) (hc45 mVc) (hc46 mAr) (hc47 mTc) (hc48 mFt) (hc49 mGo) dyn, 0, 0)) rfl ?_
  refine pm_go (g := (2, _, [.int a, .ref 25], _, 0, 0)) rfl ?_
  refine pm_go (g := (3, _, [.int b, .int a, .ref 25], _, 0, 0)) rfl ?_
  refine pm_callD (z := 132) (as := [.ref 25, .int a, .int b]) (rest := []) rfl ?_
  refine w_X12_isUnder a b (by assumption) (fun h1 => ?_) (fun h2 => ?_)
  ·
    show pm_WP 133 (6, [(0, .ref 25), (1, .int a), (2, .int b)], [.int 1], _, 0, 0) _
    refine pm_brT (g := (35, [(0, .ref 25), (1, .int a), (2, .int b)], [], hq g c1 c2 c3 c4 c5 c6 c7 c8 c9 c10 c11 c12 c13 c14 c15 c16 c17 c18 c19 c20 c21 c22 c23 c24 (hc25 mTy mTm mMn mFn mRn mTn mVn mLr mTr mFl mFm mFp mSc mMp mEn) (hc26 mPa) (hc27 mTo) (hc28 mOt) (hc29 mNa) (hc30 mRe) (hc31 mMa) (hc32 mMy) (hc33 mPm) (hc34 mFy) (hc35 mFa) (hc36 mFr) (hc37 mFo) (hc38 mRt) (hc39 mRm) (hc40 mTt) (hc41 mTi) (hc42 mPl) (hc43 mVr) (hc44 mVf) (hc45 mVc) (hc46 mAr) (hc47 mTc) (hc48 mFt) (hc49 mGo) dyn, 0, 0)) rfl ?_
    refine pm_go (g := (36, _, [.int 1], _, 0, 0)) rfl ?_
    refine pm_go (g := (40, _, [.int 1], _, 0, 0)) rfl ?_
    exact pm_ret rfl (k0 (by unfold lM; first | (left; assumption) | (right; left; exact ⟨by omega, by assumption⟩) | (right; right; omega)))
  show pm_WP 133 (6, [(0, .ref 25), (1, .int a), (2, .int b)], [.int 0], hq g c1 c2 c3 c4 c5 c6 c7 c8 c9 c10 c11 c12 c13 c14 c15 c16 c17 c18 c19 c20 c21 c22 c23 c24 (hc25 mTy mTm mMn mFn mRn mTn mVn mLr mTr mFl mFm mFp mSc mMp mEn) (hc26 mPa) (hc27 mTo) (hc28 mOt) (hc29 mNa) (hc30 mRe) (hc31 mMa) (hc32 mMy) (hc33 mPm) (hc34 mFy) (hc35 mFa) (hc36 mFr) (hc37 mFo) (hc38 mRt) (hc39 mRm) (hc40 mTt) (hc41 mTi) (hc42 mPl) (hc43 mVr) (hc44 mVf) (hc45 mVc) (hc46 mAr) (hc47 mTc) (hc48 mFt) (hc49 mGo) dyn, 0, 0) _
  refine pm_brF (h := (9, [(0, .ref 25), (1, .int a), (2, .int b)], [], hq g c1 c2 c3 c4 c5 c6 c7 c8 c9 c10 c11 c12 c13 c14 c15 c16 c17 c18 c19 c20 c21 c22 c23 c24 (hc25 mTy mTm mMn mFn mRn mTn mVn mLr mTr mFl mFm mFp mSc mMp mEn) (hc26 mPa) (hc27 mTo) (hc28 mOt) (hc29 mNa) (hc30 mRe) (hc31 mMa) (hc32 mMy) (hc33 mPm) (hc34 mFy) (hc35 mFa) (hc36 mFr) (hc37 mFo) (hc38 mRt) (hc39 mRm) (hc40 mTt) (hc41 mTi) (hc42 mPl) (hc43 mVr) (hc44 mVf) (hc45 mVc) (hc46 mAr) (hc47 mTc) (hc48 mFt) (hc49 mGo) dyn, 0, 0)) rfl ?_
  refine pm_go (g := (10, _, [.int a], _, 0, 0)) rfl ?_
  refine pm_go (g := (12, _, [.int 10, .int a], _, 0, 0)) rfl ?_
  refine pm_if2 (g := (24, [(0, .ref 25), (1, .int a), (2, .int b)], [], hq g c1 c2 c3 c4 c5 c6 c7 c8 c9 c10 c11 c12 c13 c14 c15 c16 c17 c18 c19 c20 c21 c22 c23 c24 (hc25 mTy mTm mMn mFn mRn mTn mVn mLr mTr mFl mFm mFp mSc mMp mEn) (hc26 mPa) (hc27 mTo) (hc28 mOt) (hc29 mNa) (hc30 mRe) (hc31 mMa) (hc32 mMy) (hc33 mPm) (hc34 mFy) (hc35 mFa) (hc36 mFr) (hc37 mFo) (hc38 mRt) (hc39 mRm) (hc40 mTt) (hc41 mTi) (hc42 mPl) (hc43 mVr) (hc44 mVf) (hc45 mVc) (hc46 mAr) (hc47 mTc) (hc48 mFt) (hc49 mGo) dyn, 0, 0)) (h := (15, [(0, .ref 25), (1, .int a), (2, .int b)], [], hq g c1 c2 c3 c4 c5 c6 c7 c8 c9 c10 c11 c12 c13 c14 c15 c16 c17 c18 c19 c20 c21 c22 c23 c24 (hc25 mTy mTm mMn mFn mRn mTn mVn mLr mTr mFl mFm mFp mSc mMp mEn) (hc26 mPa) (hc27 mTo) (hc28 mOt) (hc29 mNa) (hc30 mRe) (hc31 mMa) (hc32 mMy) (hc33 mPm) (hc34 mFy) (hc35 mFa) (hc36 mFr) (hc37 mFo) (hc38 mRt) (hc39 mRm) (hc40 mTt) (hc41 mTi) (hc42 mPl) (hc43 mVr) (hc44 mVf) (hc45 mVc) (hc46 mAr) (hc47 mTc) (hc48 mFt) (hc49 mGo) dyn, 0, 0)) rfl (fun h4 => ?_) (fun h4 => ?_)
  ·
    have h4 := qT_ne (cx := (a).toInt) (cy := 10) rfl (by decide) h4
    refine pm_go (g := (25, _, [.int a], _, 0, 0)) rfl ?_
    refine pm_go (g := (26, _, [.int 1, .int a], _, 0, 0)) rfl ?_
    refine pm_if2 (g := (39, [(0, .ref 25), (1, .int a), (2, .int b)], [], hq g c1 c2 c3 c4 c5 c6 c7 c8 c9 c10 c11 c12 c13 c14 c15 c16 c17 c18 c19 c20 c21 c22 c23 c24 (hc25 mTy mTm mMn mFn mRn mTn mVn mLr mTr mFl mFm mFp mSc mMp mEn) (hc26 mPa) (hc27 mTo) (hc28 mOt) (hc29 mNa) (hc30 mRe) (hc31 mMa) (hc32 mMy) (hc33 mPm) (hc34 mFy) (hc35 mFa) (hc36 mFr) (hc37 mFo) (hc38 mRt) (hc39 mRm) (hc40 mTt) (hc41 mTi) (hc42 mPl) (hc43 mVr) (hc44 mVf) (hc45 mVc) (hc46 mAr) (hc47 mTc) (hc48 mFt) (hc49 mGo) dyn, 0, 0)) (h := (29, [(0, .ref 25), (1, .int a), (2, .int b)], [], hq g c1 c2 c3 c4 c5 c6 c7 c8 c9 c10 c11 c12 c13 c14 c15 c16 c17 c18 c19 c20 c21 c22 c23 c24 (hc25 mTy mTm mMn mFn mRn mTn mVn mLr mTr mFl mFm mFp mSc mMp mEn) (hc26 mPa) (hc27 mTo) (hc28 mOt) (hc29 mNa) (hc30 mRe) (hc31 mMa) (hc32 mMy) (hc33 mPm) (hc34 mFy) (hc35 mFa) (hc36 mFr) (hc37 mFo) (hc38 mRt) (hc39 mRm) (hc40 mTt) (hc41 mTi) (hc42 mPl) (hc43 mVr) (hc44 mVf) (hc45 mVc) (hc46 mAr) (hc47 mTc) (hc48 mFt) (hc49 mGo) dyn, 0, 0)) rfl (fun h5 => ?_) (fun h5 => ?_)
    ·
      have h5 := qT_ne (cx := (a).toInt) (cy := 1) rfl (by decide) h5
      refine pm_go (g := (40, _, [.int 0], _, 0, 0)) rfl ?_
      exact pm_ret rfl (k1 (by unfold lM; rintro (q | ⟨q, q2⟩ | q) <;> first | omega | (simp_all; done)))
    have h5 := qF_ne (cx := (a).toInt) (cy := 1) rfl (by decide) h5
    refine pm_go (g := (30, _, [.int b], _, 0, 0)) rfl ?_
    refine pm_go (g := (32, _, [.int 10, .int b], _, 0, 0)) rfl ?_
    refine pm_if2 (g := (39, [(0, .ref 25), (1, .int a), (2, .int b)], [], hq g c1 c2 c3 c4 c5 c6 c7 c8 c9 c10 c11 c12 c13 c14 c15 c16 c17 c18 c19 c20 c21 c22 c23 c24 (hc25 mTy mTm mMn mFn mRn mTn mVn mLr mTr mFl mFm mFp mSc mMp mEn) (hc26 mPa) (hc27 mTo) (hc28 mOt) (hc29 mNa) (hc30 mRe) (hc31 mMa) (hc32 mMy) (hc33 mPm) (hc34 mFy) (hc35 mFa) (hc36 mFr) (hc37 mFo) (hc38 mRt) (hc39 mRm) (hc40 mTt) (hc41 mTi) (hc42 mPl) (hc43 mVr) (hc44 mVf) (hc45 mVc) (hc46 mAr) (hc47 mTc) (hc48 mFt) (hc49 mGo) dyn, 0, 0)) (h := (35, [(0, .ref 25), (1, .int a), (2, .int b)], [], hq g c1 c2 c3 c4 c5 c6 c7 c8 c9 c10 c11 c12 c13 c14 c15 c16 c17 c18 c19 c20 c21 c22 c23 c24 (hc25 mTy mTm mMn mFn mRn mTn mVn mLr mTr mFl mFm mFp mSc mMp mEn) (hc26 mPa) (hc27 mTo) (hc28 mOt) (hc29 mNa) (hc30 mRe) (hc31 mMa) (hc32 mMy) (hc33 mPm) (hc34 mFy) (hc35 mFa) (hc36 mFr) (hc37 mFo) (hc38 mRt) (hc39 mRm) (hc40 mTt) (hc41 mTi) (hc42 mPl) (hc43 mVr) (hc44 mVf) (hc45 mVc) (hc46 mAr) (hc47 mTc) (hc48 mFt) (hc49 mGo) dyn, 0, 0)) rfl (fun h6 => ?_) (fun h6 => ?_)
    ·
      have h6 := qT_ne (cx := (b).toInt) (cy := 10) rfl (by decide) h6
      refine pm_go (g := (40, _, [.int 0], _, 0, 0)) rfl ?_
      exact pm_ret rfl (k1 (by unfold lM; rintro (q | ⟨q, q2⟩ | q) <;> first | omega | (simp_all; done)))
    have h6 := qF_ne (cx := (b).toInt) (cy := 10) rfl (by decide) h6
    refine pm_go (g := (36, _, [.int 1], _, 0, 0)) rfl ?_
    refine pm_go (g := (40, _, [.int 1], _, 0, 0)) rfl ?_
    exact pm_ret rfl (k0 (by unfold lM; first | (left; assumption) | (right; left; exact ⟨by omega, by assumption⟩) | (right; right; omega)))
  have h4 := qF_ne (cx := (a).toInt) (cy := 10) rfl (by decide) h4
  refine pm_go (g := (16, _, [.ref 25], _, 0, 0)) rfl ?_
  refine pm_go (g := (17, _, [.int 1, .ref 25], _, 0, 0)) rfl ?_
  refine pm_go (g := (18, _, [.int b, .int 1, .ref 25], _, 0, 0)) rfl ?_
  refine pm_callD (z := 132) (as := [.ref 25, .int 1, .int b]) (rest := []) rfl ?_
  have h7 : (1 : Int32).toInt = 1 := by decide
  refine w_X12_isUnder 1 b (by assumption) (fun h8 => ?_) (fun h9 => ?_)
  ·
    show pm_WP 133 (21, [(0, .ref 25), (1, .int a), (2, .int b)], [.int 1], _, 0, 0) _
    refine pm_brT (g := (35, [(0, .ref 25), (1, .int a), (2, .int b)], [], hq g c1 c2 c3 c4 c5 c6 c7 c8 c9 c10 c11 c12 c13 c14 c15 c16 c17 c18 c19 c20 c21 c22 c23 c24 (hc25 mTy mTm mMn mFn mRn mTn mVn mLr mTr mFl mFm mFp mSc mMp mEn) (hc26 mPa) (hc27 mTo) (hc28 mOt) (hc29 mNa) (hc30 mRe) (hc31 mMa) (hc32 mMy) (hc33 mPm) (hc34 mFy) (hc35 mFa) (hc36 mFr) (hc37 mFo) (hc38 mRt) (hc39 mRm) (hc40 mTt) (hc41 mTi) (hc42 mPl) (hc43 mVr) (hc44 mVf) (hc45 mVc) (hc46 mAr) (hc47 mTc) (hc48 mFt) (hc49 mGo) dyn, 0, 0)) rfl ?_
    refine pm_go (g := (36, _, [.int 1], _, 0, 0)) rfl ?_
    refine pm_go (g := (40, _, [.int 1], _, 0, 0)) rfl ?_
    exact pm_ret rfl (k0 (by unfold lM; first | (left; assumption) | (right; left; exact ⟨by omega, by assumption⟩) | (right; right; omega)))
  show pm_WP 133 (21, [(0, .ref 25), (1, .int a), (2, .int b)], [.int 0], hq g c1 c2 c3 c4 c5 c6 c7 c8 c9 c10 c11 c12 c13 c14 c15 c16 c17 c18 c19 c20 c21 c22 c23 c24 (hc25 mTy mTm mMn mFn mRn mTn mVn mLr mTr mFl mFm mFp mSc mMp mEn) (hc26 mPa) (hc27 mTo) (hc28 mOt) (hc29 mNa) (hc30 mRe) (hc31 mMa) (hc32 mMy) (hc33 mPm) (hc34 mFy) (hc35 mFa) (hc36 mFr) (hc37 mFo) (hc38 mRt) (hc39 mRm) (hc40 mTt) (hc41 mTi) (hc42 mPl) (hc43 mVr) (hc44 mVf) (hc45 mVc) (hc46 mAr) (hc47 mTc) (hc48 mFt) (hc49 mGo) dyn, 0, 0) _
  refine pm_brF (h := (24, [(0, .ref 25), (1, .int a), (2, .int b)], [], hq g c1 c2 c3 c4 c5 c6 c7 c8 c9 c10 c11 c12 c13 c14 c15 c16 c17 c18 c19 c20 c21 c22 c23 c24 (hc25 mTy mTm mMn mFn mRn mTn mVn mLr mTr mFl mFm mFp mSc mMp mEn) (hc26 mPa) (hc27 mTo) (hc28 mOt) (hc29 mNa) (hc30 mRe) (hc31 mMa) (hc32 mMy) (hc33 mPm) (hc34 mFy) (hc35 mFa) (hc36 mFr) (hc37 mFo) (hc38 mRt) (hc39 mRm) (hc40 mTt) (hc41 mTi) (hc42 mPl) (hc43 mVr) (hc44 mVf) (hc45 mVc) (hc46 mAr) (hc47 mTc) (hc48 mFt) (hc49 mGo) dyn, 0, 0)) rfl ?_
  refine pm_go (g := (25, _, [.int a], _, 0, 0)) rfl ?_
  refine pm_go (g := (26, _, [.int 1, .int a], _, 0, 0)) rfl ?_
  refine pm_if2 (g := (39, [(0, .ref 25), (1, .int a), (2, .int b)], [], hq g c1 c2 c3 c4 c5 c6 c7 c8 c9 c10 c11 c12 c13 c14 c15 c16 c17 c18 c19 c20 c21 c22 c23 c24 (hc25 mTy mTm mMn mFn mRn mTn mVn mLr mTr mFl mFm mFp mSc mMp mEn) (hc26 mPa) (hc27 mTo) (hc28 mOt) (hc29 mNa) (hc30 mRe) (hc31 mMa) (hc32 mMy) (hc33 mPm) (hc34 mFy) (hc35 mFa) (hc36 mFr) (hc37 mFo) (hc38 mRt) (hc39 mRm) (hc40 mTt) (hc41 mTi) (hc42 mPl) (hc43 mVr) (hc44 mVf) (hc45 mVc) (hc46 mAr) (hc47 mTc) (hc48 mFt) (hc49 mGo) dyn, 0, 0)) (h := (29, [(0, .ref 25), (1, .int a), (2, .int b)], [], hq g c1 c2 c3 c4 c5 c6 c7 c8 c9 c10 c11 c12 c13 c14 c15 c16 c17 c18 c19 c20 c21 c22 c23 c24 (hc25 mTy mTm mMn mFn mRn mTn mVn mLr mTr mFl mFm mFp mSc mMp mEn) (hc26 mPa) (hc27 mTo) (hc28 mOt) (hc29 mNa) (hc30 mRe) (hc31 mMa) (hc32 mMy) (hc33 mPm) (hc34 mFy) (hc35 mFa) (hc36 mFr) (hc37 mFo) (hc38 mRt) (hc39 mRm) (hc40 mTt) (hc41 mTi) (hc42 mPl) (hc43 mVr) (hc44 mVf) (hc45 mVc) (hc46 mAr) (hc47 mTc) (hc48 mFt) (hc49 mGo) dyn, 0, 0)) rfl (fun h11 => ?_) (fun h11 => ?_)
  ·
    have h11 := qT_ne (cx := (a).toInt) (cy := 1) rfl (by decide) h11
    refine pm_go (g := (40, _, [.int 0], _, 0, 0)) rfl ?_
    exact pm_ret rfl (k1 (by unfold lM; rintro (q | ⟨q, q2⟩ | q) <;> first | omega | (simp_all; done)))
  have h11 := qF_ne (cx := (a).toInt) (cy := 1) rfl (by decide) h11
  refine pm_go (g := (30, _, [.int b], _, 0, 0)) rfl ?_
  refine pm_go (g := (32, _, [.int 10, .int b], _, 0, 0)) rfl ?_
  refine pm_if2 (g := (39, [(0, .ref 25), (1, .int a), (2, .int b)], [], hq g c1 c2 c3 c4 c5 c6 c7 c8 c9 c10 c11 c12 c13 c14 c15 c16 c17 c18 c19 c20 c21 c22 c23 c24 (hc25 mTy mTm mMn mFn mRn mTn mVn mLr mTr mFl mFm mFp mSc mMp mEn) (hc26 mPa) (hc27 mTo) (hc28 mOt) (hc29 mNa) (hc30 mRe) (hc31 mMa) (hc32 mMy) (hc33 mPm) (hc34 mFy) (hc35 mFa) (hc36 mFr) (hc37 mFo) (hc38 mRt) (hc39 mRm) (hc40 mTt) (hc41 mTi) (hc42 mPl) (hc43 mVr) (hc44 mVf) (hc45 mVc) (hc46 mAr) (hc47 mTc) (hc48 mFt) (hc49 mGo) dyn, 0, 0)) (h := (35, [(0, .ref 25), (1, .int a), (2, .int b)], [], hq g c1 c2 c3 c4 c5 c6 c7 c8 c9 c10 c11 c12 c13 c14 c15 c16 c17 c18 c19 c20 c21 c22 c23 c24 (hc25 mTy mTm mMn mFn mRn mTn mVn mLr mTr mFl mFm mFp mSc mMp mEn) (hc26 mPa) (hc27 mTo) (hc28 mOt) (hc29 mNa) (hc30 mRe) (hc31 mMa) (hc32 mMy) (hc33 mPm) (hc34 mFy) (hc35 mFa) (hc36 mFr) (hc37 mFo) (hc38 mRt) (hc39 mRm) (hc40 mTt) (hc41 mTi) (hc42 mPl) (hc43 mVr) (hc44 mVf) (hc45 mVc) (hc46 mAr) (hc47 mTc) (hc48 mFt) (hc49 mGo) dyn, 0, 0)) rfl (fun h12 => ?_) (fun h12 => ?_)
  ·
    have h12 := qT_ne (cx := (b).toInt) (cy := 10) rfl (by decide) h12
    refine pm_go (g := (40, _, [.int 0], _, 0, 0)) rfl ?_
    exact pm_ret rfl (k1 (by unfold lM; rintro (q | ⟨q, q2⟩ | q) <;> first | omega | (simp_all; done)))
  have h12 := qF_ne (cx := (b).toInt) (cy := 10) rfl (by decide) h12
  refine pm_go (g := (36, _, [.int 1], _, 0, 0)) rfl ?_
  refine pm_go (g := (40, _, [.int 1], _, 0, 0)) rfl ?_
  exact pm_ret rfl (k0 (by unfold lM; first | (left; assumption) | (right; left; exact ⟨by omega, by assumption⟩) | (right; right; omega)))
set_option maxRecDepth 100000 in
set_option maxHeartbeats 4000000 in
theorem w_X12_under {g c1 c2 c3 c4 c5 c6 c7 c8 c9 c10 c11 c12 c13 c14 c15 c16 c17 c18 c19 c20 c21 c22 c23 c24 : pm_C} {dyn : pm_H} {mTy : Int32} {mPa : Nat → Int32} {mTo : Nat → Int32} {mTm : Int32} {mMn : Int32} {mOt : Nat → Int32} {mNa : Nat → Int32} {mRe : Nat → Int32} {mMa : Nat → Int32} {mMy : Nat → Int32} {mPm : Nat → Int32} {mFn : Int32} {mFy : Nat → Int32} {mFa : Nat → Int32} {mFr : Nat → Int32} {mRn : Int32} {mFo : Nat → Int32} {mRt : Nat → Int32} {mRm : Nat → Int32} {mTn : Int32} {mTt : Nat → Int32} {mTi : Nat → Int32} {mPl : Nat → Int32} {mVn : Int32} {mVr : Nat → Int32} {mVf : Nat → Int32} {mVc : Nat → Int32} {mAr : Nat → Int32} {mLr : Int32} {mTc : Nat → Int32} {mTr : Int32} {mFl : Int32} {mFt : Nat → Int32} {mFm : Int32} {mFp : Int32} {mSc : Int32} {mMp : Int32} {mEn : Int32} {mGo : Nat → Int32} {Q : pm_Q} (a : Int32) (b : Int32) (p0 : 2 ≤ mTy.toInt ∧ mTy.toInt ≤ 10) (p1 : paD mPa) (k0 : ¬ (anyT mTy a ∧ anyT mTy b) → Q (some (.int (-1))) (hq g c1 c2 c3 c4 c5 c6 c7 c8 c9 c10 c11 c12 c13 c14 c15 c16 c17 c18 c19 c20 c21 c22 c23 c24 (hc25 mTy mTm mMn mFn mRn mTn mVn mLr mTr mFl mFm mFp mSc mMp mEn) (hc26 mPa) (hc27 mTo) (hc28 mOt) (hc29 mNa) (hc30 mRe) (hc31 mMa) (hc32 mMy) (hc33 mPm) (hc34 mFy) (hc35 mFa) (hc36 mFr) (hc37 mFo) (hc38 mRt) (hc39 mRm) (hc40 mTt) (hc41 mTi) (hc42 mPl) (hc43 mVr) (hc44 mVf) (hc45 mVc) (hc46 mAr) (hc47 mTc) (hc48 mFt) (hc49 mGo) dyn)) (k1 : (anyT mTy a ∧ anyT mTy b) ∧ uM mPa a b = true → Q (some (.int 1)) (hq g c1 c2 c3 c4 c5 c6 c7 c8 c9 c10 c11 c12 c13 c14 c15 c16 c17 c18 c19 c20 c21 c22 c23 c24 (hc25 mTy mTm mMn mFn mRn mTn mVn mLr mTr mFl mFm mFp mSc mMp mEn) (hc26 mPa) (hc27 mTo) (hc28 mOt) (hc29 mNa) (hc30 mRe) (hc31 mMa) (hc32 mMy) (hc33 mPm) (hc34 mFy) (hc35 mFa) (hc36 mFr) (hc37 mFo) (hc38 mRt) (hc39 mRm) (hc40 mTt) (hc41 mTi) (hc42 mPl) (hc43 mVr) (hc44 mVf) (hc45 mVc) (hc46 mAr) (hc47 mTc) (hc48 mFt) (hc49 mGo) dyn)) (k2 : (anyT mTy a ∧ anyT mTy b) ∧ uM mPa a b = false → Q (some (.int 0)) (hq g c1 c2 c3 c4 c5 c6 c7 c8 c9 c10 c11 c12 c13 c14 c15 c16 c17 c18 c19 c20 c21 c22 c23 c24 (hc25 mTy mTm mMn mFn mRn mTn mVn mLr mTr mFl mFm mFp mSc mMp mEn) (hc26 mPa) (hc27 mTo) (hc28 mOt) (hc29 mNa) (hc30 mRe) (hc31 mMa) (hc32 mMy) (hc33 mPm) (hc34 mFy) (hc35 mFa) (hc36 mFr) (hc37 mFo) (hc38 mRt) (hc39 mRm) (hc40 mTt) (hc41 mTi) (hc42 mPl) (hc43 mVr) (hc44 mVf) (hc45 mVc) (hc46 mAr) (hc47 mTc) (hc48 mFt) (hc49 mGo) dyn)) : pm_WP 135 (0, [(0, .ref 25), (1, .int a), (2, .int b)], [], hq g c1 c2 c3 c4 c5 c6 c7 c8 c9 c10 c11 c12 c13 c14 c15 c16 c17 c18 c19 c20 c21 c22 c23 c24 (hc25 mTy mTm mMn mFn mRn mTn mVn mLr mTr mFl mFm mFp mSc mMp mEn) (hc26 mPa) (hc27 mTo) (hc28 mOt) (hc29 mNa) (hc30 mRe) (hc31 mMa) (hc32 mMy) (hc33 mPm) (hc34 mFy) (hc35 mFa) (hc36 mFr) (hc37 mFo) (hc38 mRt) (hc39 mRm) (hc40 mTt) (hc41 mTi) (hc42 mPl) (hc43 mVr) (hc44 mVf) (hc45 mVc) (hc46 mAr) (hc47 mTc) (hc48 mFt) (hc49 mGo) dyn, 0, 0) Q := by
  refine pm_go (g := (1, [(0, .ref 25), (1, .int a), (2, .int b)], [.ref 25], hq g c1 c2 c3 c4 c5 c6 c7 c8 c9 c10 c11 c12 c13 c14 c15 c16 c17 c18 c19 c20 c21 c22 c23 c24 (hc25 mTy mTm mMn mFn mRn mTn mVn mLr mTr mFl mFm mFp mSc mMp mEn) (hc26 mPa) (hc27 mTo) (hc28 mOt) (hc29 mNa) (hc30 mRe) (hc31 mMa) (hc32 mMy) (hc33 mPm) (hc34 mFy) (hc35 mFa) (hc36 mFr) (hc37 mFo) (hc38 mRt) (hc39 mRm) (hc40 mTt) (hc41 mTi) (hc42 mPl) (hc43 mVr) (hc44 mVf) (hc45 mVc) (hc46 mAr) (hc47 mTc) (hc48 mFt) (hc49 mGo) dyn, 0, 0)) rfl ?_
  refine pm_go (g := (2, _, [.int a, .ref 25], _, 0, 0)) rfl ?_
  refine pm_callD (z := 131) (as := [.ref 25, .int a]) (rest := []) rfl ?_
  refine w_X12_isPlace a (by omega) (fun h1 => ?_) (fun h2 => ?_)
  ·
    show pm_WP 135 (5, [(0, .ref 25), (1, .int a), (2, .int b)], [.int 1], _, 0, 0) _
    refine pm_brT (g := (14, [(0, .ref 25), (1, .int a), (2, .int b)], [], hq g c1 c2 c3 c4 c5 c6 c7 c8 c9 c10 c11 c12 c13 c14 c15 c16 c17 c18 c19 c20 c21 c22 c23 c24 (hc25 mTy mTm mMn mFn mRn mTn mVn mLr mTr mFl mFm mFp mSc mMp mEn) (hc26 mPa) (hc27 mTo) (hc28 mOt) (hc29 mNa) (hc30 mRe) (hc31 mMa) (hc32 mMy) (hc33 mPm) (hc34 mFy) (hc35 mFa) (hc36 mFr) (hc37 mFo) (hc38 mRt) (hc39 mRm) (hc40 mTt) (hc41 mTi) (hc42 mPl) (hc43 mVr) (hc44 mVf) (hc45 mVc) (hc46 mAr) (hc47 mTc) (hc48 mFt) (hc49 mGo) dyn, 0, 0)) rfl ?_
    refine pm_go (g := (15, _, [.ref 25], _, 0, 0)) rfl ?_
    refine pm_go (g := (16, _, [.int b, .ref 25], _, 0, 0)) rfl ?_
    refine pm_callD (z := 131) (as := [.ref 25, .int b]) (rest := []) rfl ?_
    refine w_X12_isPlace b (by omega) (fun h4 => ?_) (fun h5 => ?_)
    ·
      show pm_WP 135 (19, [(0, .ref 25), (1, .int a), (2, .int b)], [.int 1], _, 0, 0) _
      refine pm_brT (g := (30, [(0, .ref 25), (1, .int a), (2, .int b)], [], hq g c1 c2 c3 c4 c5 c6 c7 c8 c9 c10 c11 c12 c13 c14 c15 c16 c17 c18 c19 c20 c21 c22 c23 c24 (hc25 mTy mTm mMn mFn mRn mTn mVn mLr mTr mFl mFm mFp mSc mMp mEn) (hc26 mPa) (hc27 mTo) (hc28 mOt) (hc29 mNa) (hc30 mRe) (hc31 mMa) (hc32 mMy) (hc33 mPm) (hc34 mFy) (hc35 mFa) (hc36 mFr) (hc37 mFo) (hc38 mRt) (hc39 mRm) (hc40 mTt) (hc41 mTi) (hc42 mPl) (hc43 mVr) (hc44 mVf) (hc45 mVc) (hc46 mAr) (hc47 mTc) (hc48 mFt) (hc49 mGo) dyn, 0, 0)) rfl ?_
      refine pm_go (g := (31, _, [.ref 25], _, 0, 0)) rfl ?_
      refine pm_go (g := (32, _, [.int a, .ref 25], _, 0, 0)) rfl ?_
      refine pm_go (g := (33, _, [.int b, .int a, .ref 25], _, 0, 0)) rfl ?_
      refine pm_callD (z := 132) (as := [.ref 25, .int a, .int b]) (rest := []) rfl ?_
      refine w_X12_isUnder a b (by assumption) (fun h7 => ?_) (fun h8 => ?_)
      ·
        show pm_WP 135 (36, [(0, .ref 25), (1, .int a), (2, .int b)], [.int 1], _, 0, 0) _
        refine pm_brF (h := (39, [(0, .ref 25), (1, .int a), (2, .int b)], [], hq g c1 c2 c3 c4 c5 c6 c7 c8 c9 c10 c11 c12 c13 c14 c15 c16 c17 c18 c19 c20 c21 c22 c23 c24 (hc25 mTy mTm mMn mFn mRn mTn mVn mLr mTr mFl mFm mFp mSc mMp mEn) (hc26 mPa) (hc27 mTo) (hc28 mOt) (hc29 mNa) (hc30 mRe) (hc31 mMa) (hc32 mMy) (hc33 mPm) (hc34 mFy) (hc35 mFa) (hc36 mFr) (hc37 mFo) (hc38 mRt) (hc39 mRm) (hc40 mTt) (hc41 mTi) (hc42 mPl) (hc43 mVr) (hc44 mVf) (hc45 mVc) (hc46 mAr) (hc47 mTc) (hc48 mFt) (hc49 mGo) dyn, 0, 0)) rfl ?_
        refine pm_go (g := (40, _, [.int 1], _, 0, 0)) rfl ?_
        refine pm_go (g := (44, _, [.int 1], _, 0, 0)) rfl ?_
        exact pm_ret rfl (k1 ⟨by unfold anyT; omega, by assumption⟩)
      show pm_WP 135 (36, [(0, .ref 25), (1, .int a), (2, .int b)], [.int 0], hq g c1 c2 c3 c4 c5 c6 c7 c8 c9 c10 c11 c12 c13 c14 c15 c16 c17 c18 c19 c20 c21 c22 c23 c24 (hc25 mTy mTm mMn mFn mRn mTn mVn mLr mTr mFl mFm mFp mSc mMp mEn) (hc26 mPa) (hc27 mTo) (hc28 mOt) (hc29 mNa) (hc30 mRe) (hc31 mMa) (hc32 mMy) (hc33 mPm) (hc34 mFy) (hc35 mFa) (hc36 mFr) (hc37 mFo) (hc38 mRt) (hc39 mRm) (hc40 mTt) (hc41 mTi) (hc42 mPl) (hc43 mVr) (hc44 mVf) (hc45 mVc) (hc46 mAr) (hc47 mTc) (hc48 mFt) (hc49 mGo) dyn, 0, 0) _
      refine pm_brT (g := (43, [(0, .ref 25), (1, .int a), (2, .int b)], [], hq g c1 c2 c3 c4 c5 c6 c7 c8 c9 c10 c11 c12 c13 c14 c15 c16 c17 c18 c19 c20 c21 c22 c23 c24 (hc25 mTy mTm mMn mFn mRn mTn mVn mLr mTr mFl mFm mFp mSc mMp mEn) (hc26 mPa) (hc27 mTo) (hc28 mOt) (hc29 mNa) (hc30 mRe) (hc31 mMa) (hc32 mMy) (hc33 mPm) (hc34 mFy) (hc35 mFa) (hc36 mFr) (hc37 mFo) (hc38 mRt) (hc39 mRm) (hc40 mTt) (hc41 mTi) (hc42 mPl) (hc43 mVr) (hc44 mVf) (hc45 mVc) (hc46 mAr) (hc47 mTc) (hc48 mFt) (hc49 mGo) dyn, 0, 0)) rfl ?_
      refine pm_go (g := (44, _, [.int 0], _, 0, 0)) rfl ?_
      exact pm_ret rfl (k2 ⟨by unfold anyT; omega, by assumption⟩)
    show pm_WP 135 (19, [(0, .ref 25), (1, .int a), (2, .int b)], [.int 0], hq g c1 c2 c3 c4 c5 c6 c7 c8 c9 c10 c11 c12 c13 c14 c15 c16 c17 c18 c19 c20 c21 c22 c23 c24 (hc25 mTy mTm mMn mFn mRn mTn mVn mLr mTr mFl mFm mFp mSc mMp mEn) (hc26 mPa) (hc27 mTo) (hc28 mOt) (hc29 mNa) (hc30 mRe) (hc31 mMa) (hc32 mMy) (hc33 mPm) (hc34 mFy) (hc35 mFa) (hc36 mFr) (hc37 mFo) (hc38 mRt) (hc39 mRm) (hc40 mTt) (hc41 mTi) (hc42 mPl) (hc43 mVr) (hc44 mVf) (hc45 mVc) (hc46 mAr) (hc47 mTc) (hc48 mFt) (hc49 mGo) dyn, 0, 0) _
    refine pm_brF (h := (22, [(0, .ref 25), (1, .int a), (2, .int b)], [], hq g c1 c2 c3 c4 c5 c6 c7 c8 c9 c10 c11 c12 c13 c14 c15 c16 c17 c18 c19 c20 c21 c22 c23 c24 (hc25 mTy mTm mMn mFn mRn mTn mVn mLr mTr mFl mFm mFp mSc mMp mEn) (hc26 mPa) (hc27 mTo) (hc28 mOt) (hc29 mNa) (hc30 mRe) (hc31 mMa) (hc32 mMy) (hc33 mPm) (hc34 mFy) (hc35 mFa) (hc36 mFr) (hc37 mFo) (hc38 mRt) (hc39 mRm) (hc40 mTt) (hc41 mTi) (hc42 mPl) (hc43 mVr) (hc44 mVf) (hc45 mVc) (hc46 mAr) (hc47 mTc) (hc48 mFt) (hc49 mGo) dyn, 0, 0)) rfl ?_
    refine pm_go (g := (23, _, [.int b], _, 0, 0)) rfl ?_
    refine pm_go (g := (25, _, [.int 11, .int b], _, 0, 0)) rfl ?_
    refine pm_if2 (g := (30, [(0, .ref 25), (1, .int a), (2, .int b)], [], hq g c1 c2 c3 c4 c5 c6 c7 c8 c9 c10 c11 c12 c13 c14 c15 c16 c17 c18 c19 c20 c21 c22 c23 c24 (hc25 mTy mTm mMn mFn mRn mTn mVn mLr mTr mFl mFm mFp mSc mMp mEn) (hc26 mPa) (hc27 mTo) (hc28 mOt) (hc29 mNa) (hc30 mRe) (hc31 mMa) (hc32 mMy) (hc33 mPm) (hc34 mFy) (hc35 mFa) (hc36 mFr) (hc37 mFo) (hc38 mRt) (hc39 mRm) (hc40 mTt) (hc41 mTi) (hc42 mPl) (hc43 mVr) (hc44 mVf) (hc45 mVc) (hc46 mAr) (hc47 mTc) (hc48 mFt) (hc49 mGo) dyn, 0, 0)) (h := (28, [(0, .ref 25), (1, .int a), (2, .int b)], [], hq g c1 c2 c3 c4 c5 c6 c7 c8 c9 c10 c11 c12 c13 c14 c15 c16 c17 c18 c19 c20 c21 c22 c23 c24 (hc25 mTy mTm mMn mFn mRn mTn mVn mLr mTr mFl mFm mFp mSc mMp mEn) (hc26 mPa) (hc27 mTo) (hc28 mOt) (hc29 mNa) (hc30 mRe) (hc31 mMa) (hc32 mMy) (hc33 mPm) (hc34 mFy) (hc35 mFa) (hc36 mFr) (hc37 mFo) (hc38 mRt) (hc39 mRm) (hc40 mTt) (hc41 mTi) (hc42 mPl) (hc43 mVr) (hc44 mVf) (hc45 mVc) (hc46 mAr) (hc47 mTc) (hc48 mFt) (hc49 mGo) dyn, 0, 0)) rfl (fun h10 => ?_) (fun h10 => ?_)
    ·
      have h10 := qT_eq (cx := (b).toInt) (cy := 11) rfl (by decide) h10
      refine pm_go (g := (31, _, [.ref 25], _, 0, 0)) rfl ?_
      refine pm_go (g := (32, _, [.int a, .ref 25], _, 0, 0)) rfl ?_
      refine pm_go (g := (33, _, [.int b, .int a, .ref 25], _, 0, 0)) rfl ?_
      refine pm_callD (z := 132) (as := [.ref 25, .int a, .int b]) (rest := []) rfl ?_
      refine w_X12_isUnder a b (by assumption) (fun h11 => ?_) (fun h12 => ?_)
      ·
        show pm_WP 135 (36, [(0, .ref 25), (1, .int a), (2, .int b)], [.int 1], _, 0, 0) _
        refine pm_brF (h := (39, [(0, .ref 25), (1, .int a), (2, .int b)], [], hq g c1 c2 c3 c4 c5 c6 c7 c8 c9 c10 c11 c12 c13 c14 c15 c16 c17 c18 c19 c20 c21 c22 c23 c24 (hc25 mTy mTm mMn mFn mRn mTn mVn mLr mTr mFl mFm mFp mSc mMp mEn) (hc26 mPa) (hc27 mTo) (hc28 mOt) (hc29 mNa) (hc30 mRe) (hc31 mMa) (hc32 mMy) (hc33 mPm) (hc34 mFy) (hc35 mFa) (hc36 mFr) (hc37 mFo) (hc38 mRt) (hc39 mRm) (hc40 mTt) (hc41 mTi) (hc42 mPl) (hc43 mVr) (hc44 mVf) (hc45 mVc) (hc46 mAr) (hc47 mTc) (hc48 mFt) (hc49 mGo) dyn, 0, 0)) rfl ?_
        refine pm_go (g := (40, _, [.int 1], _, 0, 0)) rfl ?_
        refine pm_go (g := (44, _, [.int 1], _, 0, 0)) rfl ?_
        exact pm_ret rfl (k1 ⟨by unfold anyT; omega, by assumption⟩)
      show pm_WP 135 (36, [(0, .ref 25), (1, .int a), (2, .int b)], [.int 0], hq g c1 c2 c3 c4 c5 c6 c7 c8 c9 c10 c11 c12 c13 c14 c15 c16 c17 c18 c19 c20 c21 c22 c23 c24 (hc25 mTy mTm mMn mFn mRn mTn mVn mLr mTr mFl mFm mFp mSc mMp mEn) (hc26 mPa) (hc27 mTo) (hc28 mOt) (hc29 mNa) (hc30 mRe) (hc31 mMa) (hc32 mMy) (hc33 mPm) (hc34 mFy) (hc35 mFa) (hc36 mFr) (hc37 mFo) (hc38 mRt) (hc39 mRm) (hc40 mTt) (hc41 mTi) (hc42 mPl) (hc43 mVr) (hc44 mVf) (hc45 mVc) (hc46 mAr) (hc47 mTc) (hc48 mFt) (hc49 mGo) dyn, 0, 0) _
      refine pm_brT (g := (43, [(0, .ref 25), (1, .int a), (2, .int b)], [], hq g c1 c2 c3 c4 c5 c6 c7 c8 c9 c10 c11 c12 c13 c14 c15 c16 c17 c18 c19 c20 c21 c22 c23 c24 (hc25 mTy mTm mMn mFn mRn mTn mVn mLr mTr mFl mFm mFp mSc mMp mEn) (hc26 mPa) (hc27 mTo) (hc28 mOt) (hc29 mNa) (hc30 mRe) (hc31 mMa) (hc32 mMy) (hc33 mPm) (hc34 mFy) (hc35 mFa) (hc36 mFr) (hc37 mFo) (hc38 mRt) (hc39 mRm) (hc40 mTt) (hc41 mTi) (hc42 mPl) (hc43 mVr) (hc44 mVf) (hc45 mVc) (hc46 mAr) (hc47 mTc) (hc48 mFt) (hc49 mGo) dyn, 0, 0)) rfl ?_
      refine pm_go (g := (44, _, [.int 0], _, 0, 0)) rfl ?_
      exact pm_ret rfl (k2 ⟨by unfold anyT; omega, by assumption⟩)
    have h10 := qF_eq (cx := (b).toInt) (cy := 11) rfl (by decide) h10
    refine pm_go (g := (29, _, [.int (-1)], _, 0, 0)) rfl ?_
    exact pm_ret rfl (k0 (by unfold anyT; omega))
  show pm_WP 135 (5, [(0, .ref 25), (1, .int a), (2, .int b)], [.int 0], hq g c1 c2 c3 c4 c5 c6 c7 c8 c9 c10 c11 c12 c13 c14 c15 c16 c17 c18 c19 c20 c21 c22 c23 c24 (hc25 mTy mTm mMn mFn mRn mTn mVn mLr mTr mFl mFm mFp mSc mMp mEn) (hc26 mPa) (hc27 mTo) (hc28 mOt) (hc29 mNa) (hc30 mRe) (hc31 mMa) (hc32 mMy) (hc33 mPm) (hc34 mFy) (hc35 mFa) (hc36 mFr) (hc37 mFo) (hc38 mRt) (hc39 mRm) (hc40 mTt) (hc41 mTi) (hc42 mPl) (hc43 mVr) (hc44 mVf) (hc45 mVc) (hc46 mAr) (hc47 mTc) (hc48 mFt) (hc49 mGo) dyn, 0, 0) _
  refine pm_brF (h := (8, [(0, .ref 25), (1, .int a), (2, .int b)], [], hq g c1 c2 c3 c4 c5 c6 c7 c8 c9 c10 c11 c12 c13 c14 c15 c16 c17 c18 c19 c20 c21 c22 c23 c24 (hc25 mTy mTm mMn mFn mRn mTn mVn mLr mTr mFl mFm mFp mSc mMp mEn) (hc26 mPa) (hc27 mTo) (hc28 mOt) (hc29 mNa) (hc30 mRe) (hc31 mMa) (hc32 mMy) (hc33 mPm) (hc34 mFy) (hc35 mFa) (hc36 mFr) (hc37 mFo) (hc38 mRt) (hc39 mRm) (hc40 mTt) (hc41 mTi) (hc42 mPl) (hc43 mVr) (hc44 mVf) (hc45 mVc) (hc46 mAr) (hc47 mTc) (hc48 mFt) (hc49 mGo) dyn, 0, 0)) rfl ?_
  refine pm_go (g := (9, _, [.int a], _, 0, 0)) rfl ?_
  refine pm_go (g := (11, _, [.int 11, .int a], _, 0, 0)) rfl ?_
  refine pm_if2 (g := (28, [(0, .ref 25), (1, .int a), (2, .int b)], [], hq g c1 c2 c3 c4 c5 c6 c7 c8 c9 c10 c11 c12 c13 c14 c15 c16 c17 c18 c19 c20 c21 c22 c23 c24 (hc25 mTy mTm mMn mFn mRn mTn mVn mLr mTr mFl mFm mFp mSc mMp mEn) (hc26 mPa) (hc27 mTo) (hc28 mOt) (hc29 mNa) (hc30 mRe) (hc31 mMa) (hc32 mMy) (hc33 mPm) (hc34 mFy) (hc35 mFa) (hc36 mFr) (hc37 mFo) (hc38 mRt) (hc39 mRm) (hc40 mTt) (hc41 mTi) (hc42 mPl) (hc43 mVr) (hc44 mVf) (hc45 mVc) (hc46 mAr) (hc47 mTc) (hc48 mFt) (hc49 mGo) dyn, 0, 0)) (h := (14, [(0, .ref 25), (1, .int a), (2, .int b)], [], hq g c1 c2 c3 c4 c5 c6 c7 c8 c9 c10 c11 c12 c13 c14 c15 c16 c17 c18 c19 c20 c21 c22 c23 c24 (hc25 mTy mTm mMn mFn mRn mTn mVn mLr mTr mFl mFm mFp mSc mMp mEn) (hc26 mPa) (hc27 mTo) (hc28 mOt) (hc29 mNa) (hc30 mRe) (hc31 mMa) (hc32 mMy) (hc33 mPm) (hc34 mFy) (hc35 mFa) (hc36 mFr) (hc37 mFo) (hc38 mRt) (hc39 mRm) (hc40 mTt) (hc41 mTi) (hc42 mPl) (hc43 mVr) (hc44 mVf) (hc45 mVc) (hc46 mAr) (hc47 mTc) (hc48 mFt) (hc49 mGo) dyn, 0, 0)) rfl (fun h14 => ?_) (fun h14 => ?_)
  ·
    have h14 := qT_ne (cx := (a).toInt) (cy := 11) rfl (by decide) h14
    refine pm_go (g := (29, _, [.int (-1)], _, 0, 0)) rfl ?_
    exact pm_ret rfl (k0 (by unfold anyT; omega))
  have h14 := qF_ne (cx := (a).toInt) (cy := 11) rfl (by decide) h14
  refine pm_go (g := (15, _, [.ref 25], _, 0, 0)) rfl ?_
  refine pm_go (g := (16, _, [.int b, .ref 25], _, 0, 0)) rfl ?_
  refine pm_callD (z := 131) (as := [.ref 25, .int b]) (rest := []) rfl ?_
  refine w_X12_isPlace b (by omega) (fun h15 => ?_) (fun h16 => ?_)
  ·
    show pm_WP 135 (19, [(0, .ref 25), (1, .int a), (2, .int b)], [.int 1], _, 0, 0) _
    refine pm_brT (g := (30, [(0, .ref 25), (1, .int a), (2, .int b)], [], hq g c1 c2 c3 c4 c5 c6 c7 c8 c9 c10 c11 c12 c13 c14 c15 c16 c17 c18 c19 c20 c21 c22 c23 c24 (hc25 mTy mTm mMn mFn mRn mTn mVn mLr mTr mFl mFm mFp mSc mMp mEn) (hc26 mPa) (hc27 mTo) (hc28 mOt) (hc29 mNa) (hc30 mRe) (hc31 mMa) (hc32 mMy) (hc33 mPm) (hc34 mFy) (hc35 mFa) (hc36 mFr) (hc37 mFo) (hc38 mRt) (hc39 mRm) (hc40 mTt) (hc41 mTi) (hc42 mPl) (hc43 mVr) (hc44 mVf) (hc45 mVc) (hc46 mAr) (hc47 mTc) (hc48 mFt) (hc49 mGo) dyn, 0, 0)) rfl ?_
    refine pm_go (g := (31, _, [.ref 25], _, 0, 0)) rfl ?_
    refine pm_go (g := (32, _, [.int a, .ref 25], _, 0, 0)) rfl ?_
    refine pm_go (g := (33, _, [.int b, .int a, .ref 25], _, 0, 0)) rfl ?_
    refine pm_callD (z := 132) (as := [.ref 25, .int a, .int b]) (rest := []) rfl ?_
    refine w_X12_isUnder a b (by assumption) (fun h18 => ?_) (fun h19 => ?_)
    ·
      show pm_WP 135 (36, [(0, .ref 25), (1, .int a), (2, .int b)], [.int 1], _, 0, 0) _
      refine pm_brF (h := (39, [(0, .ref 25), (1, .int a), (2, .int b)], [], hq g c1 c2 c3 c4 c5 c6 c7 c8 c9 c10 c11 c12 c13 c14 c15 c16 c17 c18 c19 c20 c21 c22 c23 c24 (hc25 mTy mTm mMn mFn mRn mTn mVn mLr mTr mFl mFm mFp mSc mMp mEn) (hc26 mPa) (hc27 mTo) (hc28 mOt) (hc29 mNa) (hc30 mRe) (hc31 mMa) (hc32 mMy) (hc33 mPm) (hc34 mFy) (hc35 mFa) (hc36 mFr) (hc37 mFo) (hc38 mRt) (hc39 mRm) (hc40 mTt) (hc41 mTi) (hc42 mPl) (hc43 mVr) (hc44 mVf) (hc45 mVc) (hc46 mAr) (hc47 mTc) (hc48 mFt) (hc49 mGo) dyn, 0, 0)) rfl ?_
      refine pm_go (g := (40, _, [.int 1], _, 0, 0)) rfl ?_
      refine pm_go (g := (44, _, [.int 1], _, 0, 0)) rfl ?_
      exact pm_ret rfl (k1 ⟨by unfold anyT; omega, by assumption⟩)
    show pm_WP 135 (36, [(0, .ref 25), (1, .int a), (2, .int b)], [.int 0], hq g c1 c2 c3 c4 c5 c6 c7 c8 c9 c10 c11 c12 c13 c14 c15 c16 c17 c18 c19 c20 c21 c22 c23 c24 (hc25 mTy mTm mMn mFn mRn mTn mVn mLr mTr mFl mFm mFp mSc mMp mEn) (hc26 mPa) (hc27 mTo) (hc28 mOt) (hc29 mNa) (hc30 mRe) (hc31 mMa) (hc32 mMy) (hc33 mPm) (hc34 mFy) (hc35 mFa) (hc36 mFr) (hc37 mFo) (hc38 mRt) (hc39 mRm) (hc40 mTt) (hc41 mTi) (hc42 mPl) (hc43 mVr) (hc44 mVf) (hc45 mVc) (hc46 mAr) (hc47 mTc) (hc48 mFt) (hc49 mGo) dyn, 0, 0) _
    refine pm_brT (g := (43, [(0, .ref 25), (1, .int a), (2, .int b)], [], hq g c1 c2 c3 c4 c5 c6 c7 c8 c9 c10 c11 c12 c13 c14 c15 c16 c17 c18 c19 c20 c21 c22 c23 c24 (hc25 mTy mTm mMn mFn mRn mTn mVn mLr mTr mFl mFm mFp mSc mMp mEn) (hc26 mPa) (hc27 mTo) (hc28 mOt) (hc29 mNa) (hc30 mRe) (hc31 mMa) (hc32 mMy) (hc33 mPm) (hc34 mFy) (hc35 mFa) (hc36 mFr) (hc37 mFo) (hc38 mRt) (hc39 mRm) (hc40 mTt) (hc41 mTi) (hc42 mPl) (hc43 mVr) (hc44 mVf) (hc45 mVc) (hc46 mAr) (hc47 mTc) (hc48 mFt) (hc49 mGo) dyn, 0, 0)) rfl ?_
    refine pm_go (g := (44, _, [.int 0], _, 0, 0)) rfl ?_
    exact pm_ret rfl (k2 ⟨by unfold anyT; omega, by assumption⟩)
  show pm_WP 135 (19, [(0, .ref 25), (1, .int a), (2, .int b)], [.int 0], hq g c1 c2 c3 c4 c5 c6 c7 c8 c9 c10 c11 c12 c13 c14 c15 c16 c17 c18 c19 c20 c21 c22 c23 c24 (hc25 mTy mTm mMn mFn mRn mTn mVn mLr mTr mFl mFm mFp mSc mMp mEn) (hc26 mPa) (hc27 mTo) (hc28 mOt) (hc29 mNa) (hc30 mRe) (hc31 mMa) (hc32 mMy) (hc33 mPm) (hc34 mFy) (hc35 mFa) (hc36 mFr) (hc37 mFo) (hc38 mRt) (hc39 mRm) (hc40 mTt) (hc41 mTi) (hc42 mPl) (hc43 mVr) (hc44 mVf) (hc45 mVc) (hc46 mAr) (hc47 mTc) (hc48 mFt) (hc49 mGo) dyn, 0, 0) _
  refine pm_brF (h := (22, [(0, .ref 25), (1, .int a), (2, .int b)], [], hq g c1 c2 c3 c4 c5 c6 c7 c8 c9 c10 c11 c12 c13 c14 c15 c16 c17 c18 c19 c20 c21 c22 c23 c24 (hc25 mTy mTm mMn mFn mRn mTn mVn mLr mTr mFl mFm mFp mSc mMp mEn) (hc26 mPa) (hc27 mTo) (hc28 mOt) (hc29 mNa) (hc30 mRe) (hc31 mMa) (hc32 mMy) (hc33 mPm) (hc34 mFy) (hc35 mFa) (hc36 mFr) (hc37 mFo) (hc38 mRt) (hc39 mRm) (hc40 mTt) (hc41 mTi) (hc42 mPl) (hc43 mVr) (hc44 mVf) (hc45 mVc) (hc46 mAr) (hc47 mTc) (hc48 mFt) (hc49 mGo) dyn, 0, 0)) rfl ?_
  refine pm_go (g := (23, _, [.int b], _, 0, 0)) rfl ?_
  refine pm_go (g := (25, _, [.int 11, .int b], _, 0, 0)) rfl ?_
  refine pm_if2 (g := (30, [(0, .ref 25), (1, .int a), (2, .int b)], [], hq g c1 c2 c3 c4 c5 c6 c7 c8 c9 c10 c11 c12 c13 c14 c15 c16 c17 c18 c19 c20 c21 c22 c23 c24 (hc25 mTy mTm mMn mFn mRn mTn mVn mLr mTr mFl mFm mFp mSc mMp mEn) (hc26 mPa) (hc27 mTo) (hc28 mOt) (hc29 mNa) (hc30 mRe) (hc31 mMa) (hc32 mMy) (hc33 mPm) (hc34 mFy) (hc35 mFa) (hc36 mFr) (hc37 mFo) (hc38 mRt) (hc39 mRm) (hc40 mTt) (hc41 mTi) (hc42 mPl) (hc43 mVr) (hc44 mVf) (hc45 mVc) (hc46 mAr) (hc47 mTc) (hc48 mFt) (hc49 mGo) dyn, 0, 0)) (h := (28, [(0, .ref 25), (1, .int a), (2, .int b)], [], hq g c1 c2 c3 c4 c5 c6 c7 c8 c9 c10 c11 c12 c13 c14 c15 c16 c17 c18 c19 c20 c21 c22 c23 c24 (hc25 mTy mTm mMn mFn mRn mTn mVn mLr mTr mFl mFm mFp mSc mMp mEn) (hc26 mPa) (hc27 mTo) (hc28 mOt) (hc29 mNa) (hc30 mRe) (hc31 mMa) (hc32 mMy) (hc33 mPm) (hc34 mFy) (hc35 mFa) (hc36 mFr) (hc37 mFo) (hc38 mRt) (hc39 mRm) (hc40 mTt) (hc41 mTi) (hc42 mPl) (hc43 mVr) (hc44 mVf) (hc45 mVc) (hc46 mAr) (hc47 mTc) (hc48 mFt) (hc49 mGo) dyn, 0, 0)) rfl (fun h21 => ?_) (fun h21 => ?_)
  ·
    have h21 := qT_eq (cx := (b).toInt) (cy := 11) rfl (by decide) h21
    refine pm_go (g := (31, _, [.ref 25], _, 0, 0)) rfl ?_
    refine pm_go (g := (32, _, [.int a, .ref 25], _, 0, 0)) rfl ?_
    refine pm_go (g := (33, _, [.int b, .int a, .ref 25], _, 0, 0)) rfl ?_
    refine pm_callD (z := 132) (as := [.ref 25, .int a, .int b]) (rest := []) rfl ?_
    refine w_X12_isUnder a b (by assumption) (fun h22 => ?_) (fun h23 => ?_)
    ·
      show pm_WP 135 (36, [(0, .ref 25), (1, .int a), (2, .int b)], [.int 1], _, 0, 0) _
      refine pm_brF (h := (39, [(0, .ref 25), (1, .int a), (2, .int b)], [], hq g c1 c2 c3 c4 c5 c6 c7 c8 c9 c10 c11 c12 c13 c14 c15 c16 c17 c18 c19 c20 c21 c22 c23 c24 (hc25 mTy mTm mMn mFn mRn mTn mVn mLr mTr mFl mFm mFp mSc mMp mEn) (hc26 mPa) (hc27 mTo) (hc28 mOt) (hc29 mNa) (hc30 mRe) (hc31 mMa) (hc32 mMy) (hc33 mPm) (hc34 mFy) (hc35 mFa) (hc36 mFr) (hc37 mFo) (hc38 mRt) (hc39 mRm) (hc40 mTt) (hc41 mTi) (hc42 mPl) (hc43 mVr) (hc44 mVf) (hc45 mVc) (hc46 mAr) (hc47 mTc) (hc48 mFt) (hc49 mGo) dyn, 0, 0)) rfl ?_
      refine pm_go (g := (40, _, [.int 1], _, 0, 0)) rfl ?_
      refine pm_go (g := (44, _, [.int 1], _, 0, 0)) rfl ?_
      exact pm_ret rfl (k1 ⟨by unfold anyT; omega, by assumption⟩)
    show pm_WP 135 (36, [(0, .ref 25), (1, .int a), (2, .int b)], [.int 0], hq g c1 c2 c3 c4 c5 c6 c7 c8 c9 c10 c11 c12 c13 c14 c15 c16 c17 c18 c19 c20 c21 c22 c23 c24 (hc25 mTy mTm mMn mFn mRn mTn mVn mLr mTr mFl mFm mFp mSc mMp mEn) (hc26 mPa) (hc27 mTo) (hc28 mOt) (hc29 mNa) (hc30 mRe) (hc31 mMa) (hc32 mMy) (hc33 mPm) (hc34 mFy) (hc35 mFa) (hc36 mFr) (hc37 mFo) (hc38 mRt) (hc39 mRm) (hc40 mTt) (hc41 mTi) (hc42 mPl) (hc43 mVr) (hc44 mVf) (hc45 mVc) (hc46 mAr) (hc47 mTc) (hc48 mFt) (hc49 mGo) dyn, 0, 0) _
    refine pm_brT (g := (43, [(0, .ref 25), (1, .int a), (2, .int b)], [], hq g c1 c2 c3 c4 c5 c6 c7 c8 c9 c10 c11 c12 c13 c14 c15 c16 c17 c18 c19 c20 c21 c22 c23 c24 (hc25 mTy mTm mMn mFn mRn mTn mVn mLr mTr mFl mFm mFp mSc mMp mEn) (hc26 mPa) (hc27 mTo) (hc28 mOt) (hc29 mNa) (hc30 mRe) (hc31 mMa) (hc32 mMy) (hc33 mPm) (hc34 mFy) (hc35 mFa) (hc36 mFr) (hc37 mFo) (hc38 mRt) (hc39 mRm) (hc40 mTt) (hc41 mTi) (hc42 mPl) (hc43 mVr) (hc44 mVf) (hc45 mVc) (hc46 mAr) (hc47 mTc) (hc48 mFt) (hc49 mGo) dyn, 0, 0)) rfl ?_
    refine pm_go (g := (44, _, [.int 0], _, 0, 0)) rfl ?_
    exact pm_ret rfl (k2 ⟨by unfold anyT; omega, by assumption⟩)
  have h21 := qF_eq (cx := (b).toInt) (cy := 11) rfl (by decide) h21
  refine pm_go (g := (29, _, [.int (-1)], _, 0, 0)) rfl ?_
  exact pm_ret rfl (k0 (by unfold anyT; omega))
set_option maxRecDepth 100000 in
set_option maxHeartbeats 4000000 in
theorem w_X12_loose {g c1 c2 c3 c4 c5 c6 c7 c8 c9 c10 c11 c12 c13 c14 c15 c16 c17 c18 c19 c20 c21 c22 c23 c24 : pm_C} {dyn : pm_H} {mTy : Int32} {mPa : Nat → Int32} {mTo : Nat → Int32} {mTm : Int32} {mMn : Int32} {mOt : Nat → Int32} {mNa : Nat → Int32} {mRe : Nat → Int32} {mMa : Nat → Int32} {mMy : Nat → Int32} {mPm : Nat → Int32} {mFn : Int32} {mFy : Nat → Int32} {mFa : Nat → Int32} {mFr : Nat → Int32} {mRn : Int32} {mFo : Nat → Int32} {mRt : Nat → Int32} {mRm : Nat → Int32} {mTn : Int32} {mTt : Nat → Int32} {mTi : Nat → Int32} {mPl : Nat → Int32} {mVn : Int32} {mVr : Nat → Int32} {mVf : Nat → Int32} {mVc : Nat → Int32} {mAr : Nat → Int32} {mLr : Int32} {mTc : Nat → Int32} {mTr : Int32} {mFl : Int32} {mFt : Nat → Int32} {mFm : Int32} {mFp : Int32} {mSc : Int32} {mMp : Int32} {mEn : Int32} {mGo : Nat → Int32} {Q : pm_Q} (a : Int32) (b : Int32) (p0 : 2 ≤ mTy.toInt ∧ mTy.toInt ≤ 10) (p1 : paD mPa) (k0 : ¬ (anyT mTy a ∧ anyT mTy b) → Q (some (.int (-1))) (hq g c1 c2 c3 c4 c5 c6 c7 c8 c9 c10 c11 c12 c13 c14 c15 c16 c17 c18 c19 c20 c21 c22 c23 c24 (hc25 mTy mTm mMn mFn mRn mTn mVn mLr mTr mFl mFm mFp mSc mMp mEn) (hc26 mPa) (hc27 mTo) (hc28 mOt) (hc29 mNa) (hc30 mRe) (hc31 mMa) (hc32 mMy) (hc33 mPm) (hc34 mFy) (hc35 mFa) (hc36 mFr) (hc37 mFo) (hc38 mRt) (hc39 mRm) (hc40 mTt) (hc41 mTi) (hc42 mPl) (hc43 mVr) (hc44 mVf) (hc45 mVc) (hc46 mAr) (hc47 mTc) (hc48 mFt) (hc49 mGo) dyn)) (k1 : (anyT mTy a ∧ anyT mTy b) ∧ lM mPa a b → Q (some (.int 1)) (hq g c1 c2 c3 c4 c5 c6 c7 c8 c9 c10 c11 c12 c13 c14 c15 c16 c17 c18 c19 c20 c21 c22 c23 c24 (hc25 mTy mTm mMn mFn mRn mTn mVn mLr mTr mFl mFm mFp mSc mMp mEn) (hc26 mPa) (hc27 mTo) (hc28 mOt) (hc29 mNa) (hc30 mRe) (hc31 mMa) (hc32 mMy) (hc33 mPm) (hc34 mFy) (hc35 mFa) (hc36 mFr) (hc37 mFo) (hc38 mRt) (hc39 mRm) (hc40 mTt) (hc41 mTi) (hc42 mPl) (hc43 mVr) (hc44 mVf) (hc45 mVc) (hc46 mAr) (hc47 mTc) (hc48 mFt) (hc49 mGo) dyn)) (k2 : (anyT mTy a ∧ anyT mTy b) ∧ ¬ lM mPa a b → Q (some (.int 0)) (hq g c1 c2 c3 c4 c5 c6 c7 c8 c9 c10 c11 c12 c13 c14 c15 c16 c17 c18 c19 c20 c21 c22 c23 c24 (hc25 mTy mTm mMn mFn mRn mTn mVn mLr mTr mFl mFm mFp mSc mMp mEn) (hc26 mPa) (hc27 mTo) (hc28 mOt) (hc29 mNa) (hc30 mRe) (hc31 mMa) (hc32 mMy) (hc33 mPm) (hc34 mFy) (hc35 mFa) (hc36 mFr) (hc37 mFo) (hc38 mRt) (hc39 mRm) (hc40 mTt) (hc41 mTi) (hc42 mPl) (hc43 mVr) (hc44 mVf) (hc45 mVc) (hc46 mAr) (hc47 mTc) (hc48 mFt) (hc49 mGo) dyn)) : pm_WP 136 (0, [(0, .ref 25), (1, .int a), (2, .int b)], [], hq g c1 c2 c3 c4 c5 c6 c7 c8 c9 c10 c11 c12 c13 c14 c15 c16 c17 c18 c19 c20 c21 c22 c23 c24 (hc25 mTy mTm mMn mFn mRn mTn mVn mLr mTr mFl mFm mFp mSc mMp mEn) (hc26 mPa) (hc27 mTo) (hc28 mOt) (hc29 mNa) (hc30 mRe) (hc31 mMa) (hc32 mMy) (hc33 mPm) (hc34 mFy) (hc35 mFa) (hc36 mFr) (hc37 mFo) (hc38 mRt) (hc39 mRm) (hc40 mTt) (hc41 mTi) (hc42 mPl) (hc43 mVr) (hc44 mVf) (hc45 mVc) (hc46 mAr) (hc47 mTc) (hc48 mFt) (hc49 mGo) dyn, 0, 0) Q := by
  refine pm_go (g := (1, [(0, .ref 25), (1, .int a), (2, .int b)], [.ref 25], hq g c1 c2 c3 c4 c5 c6 c7 c8 c9 c10 c11 c12 c13 c14 c15 c16 c17 c18 c19 c20 c21 c22 c23 c24 (hc25 mTy mTm mMn mFn mRn mTn mVn mLr mTr mFl mFm mFp mSc mMp mEn) (hc26 mPa) (hc27 mTo) (hc28 mOt) (hc29 mNa) (hc30 mRe) (hc31 mMa) (hc32 mMy) (hc33 mPm) (hc34 mFy) (hc35 mFa) (hc36 mFr) (hc37 mFo) (hc38 mRt) (hc39 mRm) (hc40 mTt) (hc41 mTi) (hc42 mPl) (hc43 mVr) (hc44 mVf) (hc45 mVc) (hc46 mAr) (hc47 mTc) (hc48 mFt) (hc49 mGo) dyn, 0, 0)) rfl ?_
  refine pm_go (g := (2, _, [.int a, .ref 25], _, 0, 0)) rfl ?_
  refine pm_callD (z := 131) (as := [.ref 25, .int a]) (rest := []) rfl ?_
  refine w_X12_isPlace a (by omega) (fun h1 => ?_) (fun h2 => ?_)
  ·
    show pm_WP 136 (5, [(0, .ref 25), (1, .int a), (2, .int b)], [.int 1], _, 0, 0) _
    refine pm_brT (g := (14, [(0, .ref 25), (1, .int a), (2, .int b)], [], hq g c1 c2 c3 c4 c5 c6 c7 c8 c9 c10 c11 c12 c13 c14 c15 c16 c17 c18 c19 c20 c21 c22 c23 c24 (hc25 mTy mTm mMn mFn mRn mTn mVn mLr mTr mFl mFm mFp mSc mMp mEn) (hc26 mPa) (hc27 mTo) (hc28 mOt) (hc29 mNa) (hc30 mRe) (hc31 mMa) (hc32 mMy) (hc33 mPm) (hc34 mFy) (hc35 mFa) (hc36 mFr) (hc37 mFo) (hc38 mRt) (hc39 mRm) (hc40 mTt) (hc41 mTi) (hc42 mPl) (hc43 mVr) (hc44 mVf) (hc45 mVc) (hc46 mAr) (hc47 mTc) (hc48 mFt) (hc49 mGo) dyn, 0, 0)) rfl ?_
    refine pm_go (g := (15, _, [.ref 25], _, 0, 0)) rfl ?_
    refine pm_go (g := (16, _, [.int b, .ref 25], _, 0, 0)) rfl ?_
    refine pm_callD (z := 131) (as := [.ref 25, .int b]) (rest := []) rfl ?_
    refine w_X12_isPlace b (by omega) (fun h4 => ?_) (fun h5 => ?_)
    ·
      show pm_WP 136 (19, [(0, .ref 25), (1, .int a), (2, .int b)], [.int 1], _, 0, 0) _
      refine pm_brT (g := (30, [(0, .ref 25), (1, .int a), (2, .int b)], [], hq g c1 c2 c3 c4 c5 c6 c7 c8 c9 c10 c11 c12 c13 c14 c15 c16 c17 c18 c19 c20 c21 c22 c23 c24 (hc25 mTy mTm mMn mFn mRn mTn mVn mLr mTr mFl mFm mFp mSc mMp mEn) (hc26 mPa) (hc27 mTo) (hc28 mOt) (hc29 mNa) (hc30 mRe) (hc31 mMa) (hc32 mMy) (hc33 mPm) (hc34 mFy) (hc35 mFa) (hc36 mFr) (hc37 mFo) (hc38 mRt) (hc39 mRm) (hc40 mTt) (hc41 mTi) (hc42 mPl) (hc43 mVr) (hc44 mVf) (hc45 mVc) (hc46 mAr) (hc47 mTc) (hc48 mFt) (hc49 mGo) dyn, 0, 0)) rfl ?_
      refine pm_go (g := (31, _, [.ref 25], _, 0, 0)) rfl ?_
      refine pm_go (g := (32, _, [.int a, .ref 25], _, 0, 0)) rfl ?_
      refine pm_go (g := (33, _, [.int b, .int a, .ref 25], _, 0, 0)) rfl ?_
      refine pm_callD (z := 133) (as := [.ref 25, .int a, .int b]) (rest := []) rfl ?_
      refine w_X12_isLoose a b (by assumption) (fun h7 => ?_) (fun h8 => ?_)
      ·
        show pm_WP 136 (36, [(0, .ref 25), (1, .int a), (2, .int b)], [.int 1], _, 0, 0) _
        refine pm_brF (h := (39, [(0, .ref 25), (1, .int a), (2, .int b)], [], hq g c1 c2 c3 c4 c5 c6 c7 c8 c9 c10 c11 c12 c13 c14 c15 c16 c17 c18 c19 c20 c21 c22 c23 c24 (hc25 mTy mTm mMn mFn mRn mTn mVn mLr mTr mFl mFm mFp mSc mMp mEn) (hc26 mPa) (hc27 mTo) (hc28 mOt) (hc29 mNa) (hc30 mRe) (hc31 mMa) (hc32 mMy) (hc33 mPm) (hc34 mFy) (hc35 mFa) (hc36 mFr) (hc37 mFo) (hc38 mRt) (hc39 mRm) (hc40 mTt) (hc41 mTi) (hc42 mPl) (hc43 mVr) (hc44 mVf) (hc45 mVc) (hc46 mAr) (hc47 mTc) (hc48 mFt) (hc49 mGo) dyn, 0, 0)) rfl ?_
        refine pm_go (g := (40, _, [.int 1], _, 0, 0)) rfl ?_
        refine pm_go (g := (44, _, [.int 1], _, 0, 0)) rfl ?_
        exact pm_ret rfl (k1 ⟨by unfold anyT; omega, by assumption⟩)
      show pm_WP 136 (36, [(0, .ref 25), (1, .int a), (2, .int b)], [.int 0], hq g c1 c2 c3 c4 c5 c6 c7 c8 c9 c10 c11 c12 c13 c14 c15 c16 c17 c18 c19 c20 c21 c22 c23 c24 (hc25 mTy mTm mMn mFn mRn mTn mVn mLr mTr mFl mFm mFp mSc mMp mEn) (hc26 mPa) (hc27 mTo) (hc28 mOt) (hc29 mNa) (hc30 mRe) (hc31 mMa) (hc32 mMy) (hc33 mPm) (hc34 mFy) (hc35 mFa) (hc36 mFr) (hc37 mFo) (hc38 mRt) (hc39 mRm) (hc40 mTt) (hc41 mTi) (hc42 mPl) (hc43 mVr) (hc44 mVf) (hc45 mVc) (hc46 mAr) (hc47 mTc) (hc48 mFt) (hc49 mGo) dyn, 0, 0) _
      refine pm_brT (g := (43, [(0, .ref 25), (1, .int a), (2, .int b)], [], hq g c1 c2 c3 c4 c5 c6 c7 c8 c9 c10 c11 c12 c13 c14 c15 c16 c17 c18 c19 c20 c21 c22 c23 c24 (hc25 mTy mTm mMn mFn mRn mTn mVn mLr mTr mFl mFm mFp mSc mMp mEn) (hc26 mPa) (hc27 mTo) (hc28 mOt) (hc29 mNa) (hc30 mRe) (hc31 mMa) (hc32 mMy) (hc33 mPm) (hc34 mFy) (hc35 mFa) (hc36 mFr) (hc37 mFo) (hc38 mRt) (hc39 mRm) (hc40 mTt) (hc41 mTi) (hc42 mPl) (hc43 mVr) (hc44 mVf) (hc45 mVc) (hc46 mAr) (hc47 mTc) (hc48 mFt) (hc49 mGo) dyn, 0, 0)) rfl ?_
      refine pm_go (g := (44, _, [.int 0], _, 0, 0)) rfl ?_
      exact pm_ret rfl (k2 ⟨by unfold anyT; omega, by assumption⟩)
    show pm_WP 136 (19, [(0, .ref 25), (1, .int a), (2, .int b)], [.int 0], hq g c1 c2 c3 c4 c5 c6 c7 c8 c9 c10 c11 c12 c13 c14 c15 c16 c17 c18 c19 c20 c21 c22 c23 c24 (hc25 mTy mTm mMn mFn mRn mTn mVn mLr mTr mFl mFm mFp mSc mMp mEn) (hc26 mPa) (hc27 mTo) (hc28 mOt) (hc29 mNa) (hc30 mRe) (hc31 mMa) (hc32 mMy) (hc33 mPm) (hc34 mFy) (hc35 mFa) (hc36 mFr) (hc37 mFo) (hc38 mRt) (hc39 mRm) (hc40 mTt) (hc41 mTi) (hc42 mPl) (hc43 mVr) (hc44 mVf) (hc45 mVc) (hc46 mAr) (hc47 mTc) (hc48 mFt) (hc49 mGo) dyn, 0, 0) _
    refine pm_brF (h := (22, [(0, .ref 25), (1, .int a), (2, .int b)], [], hq g c1 c2 c3 c4 c5 c6 c7 c8 c9 c10 c11 c12 c13 c14 c15 c16 c17 c18 c19 c20 c21 c22 c23 c24 (hc25 mTy mTm mMn mFn mRn mTn mVn mLr mTr mFl mFm mFp mSc mMp mEn) (hc26 mPa) (hc27 mTo) (hc28 mOt) (hc29 mNa) (hc30 mRe) (hc31 mMa) (hc32 mMy) (hc33 mPm) (hc34 mFy) (hc35 mFa) (hc36 mFr) (hc37 mFo) (hc38 mRt) (hc39 mRm) (hc40 mTt) (hc41 mTi) (hc42 mPl) (hc43 mVr) (hc44 mVf) (hc45 mVc) (hc46 mAr) (hc47 mTc) (hc48 mFt) (hc49 mGo) dyn, 0, 0)) rfl ?_
    refine pm_go (g := (23, _, [.int b], _, 0, 0)) rfl ?_
    refine pm_go (g := (25, _, [.int 11, .int b], _, 0, 0)) rfl ?_
    refine pm_if2 (g := (30, [(0, .ref 25), (1, .int a), (2, .int b)], [], hq g c1 c2 c3 c4 c5 c6 c7 c8 c9 c10 c11 c12 c13 c14 c15 c16 c17 c18 c19 c20 c21 c22 c23 c24 (hc25 mTy mTm mMn mFn mRn mTn mVn mLr mTr mFl mFm mFp mSc mMp mEn) (hc26 mPa) (hc27 mTo) (hc28 mOt) (hc29 mNa) (hc30 mRe) (hc31 mMa) (hc32 mMy) (hc33 mPm) (hc34 mFy) (hc35 mFa) (hc36 mFr) (hc37 mFo) (hc38 mRt) (hc39 mRm) (hc40 mTt) (hc41 mTi) (hc42 mPl) (hc43 mVr) (hc44 mVf) (hc45 mVc) (hc46 mAr) (hc47 mTc) (hc48 mFt) (hc49 mGo) dyn, 0, 0)) (h := (28, [(0, .ref 25), (1, .int a), (2, .int b)], [], hq g c1 c2 c3 c4 c5 c6 c7 c8 c9 c10 c11 c12 c13 c14 c15 c16 c17 c18 c19 c20 c21 c22 c23 c24 (hc25 mTy mTm mMn mFn mRn mTn mVn mLr mTr mFl mFm mFp mSc mMp mEn) (hc26 mPa) (hc27 mTo) (hc28 mOt) (hc29 mNa) (hc30 mRe) (hc31 mMa) (hc32 mMy) (hc33 mPm) (hc34 mFy) (hc35 mFa) (hc36 mFr) (hc37 mFo) (hc38 mRt) (hc39 mRm) (hc40 mTt) (hc41 mTi) (hc42 mPl) (hc43 mVr) (hc44 mVf) (hc45 mVc) (hc46 mAr) (hc47 mTc) (hc48 mFt) (hc49 mGo) dyn, 0, 0)) rfl (fun h10 => ?_) (fun h10 => ?_)
    ·
      have h10 := qT_eq (cx := (b).toInt) (cy := 11) rfl (by decide) h10
      refine pm_go (g := (31, _, [.ref 25], _, 0, 0)) rfl ?_
      refine pm_go (g := (32, _, [.int a, .ref 25], _, 0, 0)) rfl ?_
      refine pm_go (g := (33, _, [.int b, .int a, .ref 25], _, 0, 0)) rfl ?_
      refine pm_callD (z := 133) (as := [.ref 25, .int a, .int b]) (rest := []) rfl ?_
      refine w_X12_isLoose a b (by assumption) (fun h11 => ?_) (fun h12 => ?_)
      ·
        show pm_WP 136 (36, [(0, .ref 25), (1, .int a), (2, .int b)], [.int 1], _, 0, 0) _
        refine pm_brF (h := (39, [(0, .ref 25), (1, .int a), (2, .int b)], [], hq g c1 c2 c3 c4 c5 c6 c7 c8 c9 c10 c11 c12 c13 c14 c15 c16 c17 c18 c19 c20 c21 c22 c23 c24 (hc25 mTy mTm mMn mFn mRn mTn mVn mLr mTr mFl mFm mFp mSc mMp mEn) (hc26 mPa) (hc27 mTo) (hc28 mOt) (hc29 mNa) (hc30 mRe) (hc31 mMa) (hc32 mMy) (hc33 mPm) (hc34 mFy) (hc35 mFa) (hc36 mFr) (hc37 mFo) (hc38 mRt) (hc39 mRm) (hc40 mTt) (hc41 mTi) (hc42 mPl) (hc43 mVr) (hc44 mVf) (hc45 mVc) (hc46 mAr) (hc47 mTc) (hc48 mFt) (hc49 mGo) dyn, 0, 0)) rfl ?_
        refine pm_go (g := (40, _, [.int 1], _, 0, 0)) rfl ?_
        refine pm_go (g := (44, _, [.int 1], _, 0, 0)) rfl ?_
        exact pm_ret rfl (k1 ⟨by unfold anyT; omega, by assumption⟩)
      show pm_WP 136 (36, [(0, .ref 25), (1, .int a), (2, .int b)], [.int 0], hq g c1 c2 c3 c4 c5 c6 c7 c8 c9 c10 c11 c12 c13 c14 c15 c16 c17 c18 c19 c20 c21 c22 c23 c24 (hc25 mTy mTm mMn mFn mRn mTn mVn mLr mTr mFl mFm mFp mSc mMp mEn) (hc26 mPa) (hc27 mTo) (hc28 mOt) (hc29 mNa) (hc30 mRe) (hc31 mMa) (hc32 mMy) (hc33 mPm) (hc34 mFy) (hc35 mFa) (hc36 mFr) (hc37 mFo) (hc38 mRt) (hc39 mRm) (hc40 mTt) (hc41 mTi) (hc42 mPl) (hc43 mVr) (hc44 mVf) (hc45 mVc) (hc46 mAr) (hc47 mTc) (hc48 mFt) (hc49 mGo) dyn, 0, 0) _
      refine pm_brT (g := (43, [(0, .ref 25), (1, .int a), (2, .int b)], [], hq g c1 c2 c3 c4 c5 c6 c7 c8 c9 c10 c11 c12 c13 c14 c15 c16 c17 c18 c19 c20 c21 c22 c23 c24 (hc25 mTy mTm mMn mFn mRn mTn mVn mLr mTr mFl mFm mFp mSc mMp mEn) (hc26 mPa) (hc27 mTo) (hc28 mOt) (hc29 mNa) (hc30 mRe) (hc31 mMa) (hc32 mMy) (hc33 mPm) (hc34 mFy) (hc35 mFa) (hc36 mFr) (hc37 mFo) (hc38 mRt) (hc39 mRm) (hc40 mTt) (hc41 mTi) (hc42 mPl) (hc43 mVr) (hc44 mVf) (hc45 mVc) (hc46 mAr) (hc47 mTc) (hc48 mFt) (hc49 mGo) dyn, 0, 0)) rfl ?_
      refine pm_go (g := (44, _, [.int 0], _, 0, 0)) rfl ?_
      exact pm_ret rfl (k2 ⟨by unfold anyT; omega, by assumption⟩)
    have h10 := qF_eq (cx := (b).toInt) (cy := 11) rfl (by decide) h10
    refine pm_go (g := (29, _, [.int (-1)], _, 0, 0)) rfl ?_
    exact pm_ret rfl (k0 (by unfold anyT; omega))
  show pm_WP 136 (5, [(0, .ref 25), (1, .int a), (2, .int b)], [.int 0], hq g c1 c2 c3 c4 c5 c6 c7 c8 c9 c10 c11 c12 c13 c14 c15 c16 c17 c18 c19 c20 c21 c22 c23 c24 (hc25 mTy mTm mMn mFn mRn mTn mVn mLr mTr mFl mFm mFp mSc mMp mEn) (hc26 mPa) (hc27 mTo) (hc28 mOt) (hc29 mNa) (hc30 mRe) (hc31 mMa) (hc32 mMy) (hc33 mPm) (hc34 mFy) (hc35 mFa) (hc36 mFr) (hc37 mFo) (hc38 mRt) (hc39 mRm) (hc40 mTt) (hc41 mTi) (hc42 mPl) (hc43 mVr) (hc44 mVf) (hc45 mVc) (hc46 mAr) (hc47 mTc) (hc48 mFt) (hc49 mGo) dyn, 0, 0) _
  refine pm_brF (h := (8, [(0, .ref 25), (1, .int a), (2, .int b)], [], hq g c1 c2 c3 c4 c5 c6 c7 c8 c9 c10 c11 c12 c13 c14 c15 c16 c17 c18 c19 c20 c21 c22 c23 c24 (hc25 mTy mTm mMn mFn mRn mTn mVn mLr mTr mFl mFm mFp mSc mMp mEn) (hc26 mPa) (hc27 mTo) (hc28 mOt) (hc29 mNa) (hc30 mRe) (hc31 mMa) (hc32 mMy) (hc33 mPm) (hc34 mFy) (hc35 mFa) (hc36 mFr) (hc37 mFo) (hc38 mRt) (hc39 mRm) (hc40 mTt) (hc41 mTi) (hc42 mPl) (hc43 mVr) (hc44 mVf) (hc45 mVc) (hc46 mAr) (hc47 mTc) (hc48 mFt) (hc49 mGo) dyn, 0, 0)) rfl ?_
  refine pm_go (g := (9, _, [.int a], _, 0, 0)) rfl ?_
  refine pm_go (g := (11, _, [.int 11, .int a], _, 0, 0)) rfl ?_
  refine pm_if2 (g := (28, [(0, .ref 25), (1, .int a), (2, .int b)], [], hq g c1 c2 c3 c4 c5 c6 c7 c8 c9 c10 c11 c12 c13 c14 c15 c16 c17 c18 c19 c20 c21 c22 c23 c24 (hc25 mTy mTm mMn mFn mRn mTn mVn mLr mTr mFl mFm mFp mSc mMp mEn) (hc26 mPa) (hc27 mTo) (hc28 mOt) (hc29 mNa) (hc30 mRe) (hc31 mMa) (hc32 mMy) (hc33 mPm) (hc34 mFy) (hc35 mFa) (hc36 mFr) (hc37 mFo) (hc38 mRt) (hc39 mRm) (hc40 mTt) (hc41 mTi) (hc42 mPl) (hc43 mVr) (hc44 mVf) (hc45 mVc) (hc46 mAr) (hc47 mTc) (hc48 mFt) (hc49 mGo) dyn, 0, 0)) (h := (14, [(0, .ref 25), (1, .int a), (2, .int b)], [], hq g c1 c2 c3 c4 c5 c6 c7 c8 c9 c10 c11 c12 c13 c14 c15 c16 c17 c18 c19 c20 c21 c22 c23 c24 (hc25 mTy mTm mMn mFn mRn mTn mVn mLr mTr mFl mFm mFp mSc mMp mEn) (hc26 mPa) (hc27 mTo) (hc28 mOt) (hc29 mNa) (hc30 mRe) (hc31 mMa) (hc32 mMy) (hc33 mPm) (hc34 mFy) (hc35 mFa) (hc36 mFr) (hc37 mFo) (hc38 mRt) (hc39 mRm) (hc40 mTt) (hc41 mTi) (hc42 mPl) (hc43 mVr) (hc44 mVf) (hc45 mVc) (hc46 mAr) (hc47 mTc) (hc48 mFt) (hc49 mGo) dyn, 0, 0)) rfl (fun h14 => ?_) (fun h14 => ?_)
  ·
    have h14 := qT_ne (cx := (a).toInt) (cy := 11) rfl (by decide) h14
    refine pm_go (g := (29, _, [.int (-1)], _, 0, 0)) rfl ?_
    exact pm_ret rfl (k0 (by unfold anyT; omega))
  have h14 := qF_ne (cx := (a).toInt) (cy := 11) rfl (by decide) h14
  refine pm_go (g := (15, _, [.ref 25], _, 0, 0)) rfl ?_
  refine pm_go (g := (16, _, [.int b, .ref 25], _, 0, 0)) rfl ?_
  refine pm_callD (z := 131) (as := [.ref 25, .int b]) (rest := []) rfl ?_
  refine w_X12_isPlace b (by omega) (fun h15 => ?_) (fun h16 => ?_)
  ·
    show pm_WP 136 (19, [(0, .ref 25), (1, .int a), (2, .int b)], [.int 1], _, 0, 0) _
    refine pm_brT (g := (30, [(0, .ref 25), (1, .int a), (2, .int b)], [], hq g c1 c2 c3 c4 c5 c6 c7 c8 c9 c10 c11 c12 c13 c14 c15 c16 c17 c18 c19 c20 c21 c22 c23 c24 (hc25 mTy mTm mMn mFn mRn mTn mVn mLr mTr mFl mFm mFp mSc mMp mEn) (hc26 mPa) (hc27 mTo) (hc28 mOt) (hc29 mNa) (hc30 mRe) (hc31 mMa) (hc32 mMy) (hc33 mPm) (hc34 mFy) (hc35 mFa) (hc36 mFr) (hc37 mFo) (hc38 mRt) (hc39 mRm) (hc40 mTt) (hc41 mTi) (hc42 mPl) (hc43 mVr) (hc44 mVf) (hc45 mVc) (hc46 mAr) (hc47 mTc) (hc48 mFt) (hc49 mGo) dyn, 0, 0)) rfl ?_
    refine pm_go (g := (31, _, [.ref 25], _, 0, 0)) rfl ?_
    refine pm_go (g := (32, _, [.int a, .ref 25], _, 0, 0)) rfl ?_
    refine pm_go (g := (33, _, [.int b, .int a, .ref 25], _, 0, 0)) rfl ?_
    refine pm_callD (z := 133) (as := [.ref 25, .int a, .int b]) (rest := []) rfl ?_
    refine w_X12_isLoose a b (by assumption) (fun h18 => ?_) (fun h19 => ?_)
    ·
      show pm_WP 136 (36, [(0, .ref 25), (1, .int a), (2, .int b)], [.int 1], _, 0, 0) _
      refine pm_brF (h := (39, [(0, .ref 25), (1, .int a), (2, .int b)], [], hq g c1 c2 c3 c4 c5 c6 c7 c8 c9 c10 c11 c12 c13 c14 c15 c16 c17 c18 c19 c20 c21 c22 c23 c24 (hc25 mTy mTm mMn mFn mRn mTn mVn mLr mTr mFl mFm mFp mSc mMp mEn) (hc26 mPa) (hc27 mTo) (hc28 mOt) (hc29 mNa) (hc30 mRe) (hc31 mMa) (hc32 mMy) (hc33 mPm) (hc34 mFy) (hc35 mFa) (hc36 mFr) (hc37 mFo) (hc38 mRt) (hc39 mRm) (hc40 mTt) (hc41 mTi) (hc42 mPl) (hc43 mVr) (hc44 mVf) (hc45 mVc) (hc46 mAr) (hc47 mTc) (hc48 mFt) (hc49 mGo) dyn, 0, 0)) rfl ?_
      refine pm_go (g := (40, _, [.int 1], _, 0, 0)) rfl ?_
      refine pm_go (g := (44, _, [.int 1], _, 0, 0)) rfl ?_
      exact pm_ret rfl (k1 ⟨by unfold anyT; omega, by assumption⟩)
    show pm_WP 136 (36, [(0, .ref 25), (1, .int a), (2, .int b)], [.int 0], hq g c1 c2 c3 c4 c5 c6 c7 c8 c9 c10 c11 c12 c13 c14 c15 c16 c17 c18 c19 c20 c21 c22 c23 c24 (hc25 mTy mTm mMn mFn mRn mTn mVn mLr mTr mFl mFm mFp mSc mMp mEn) (hc26 mPa) (hc27 mTo) (hc28 mOt) (hc29 mNa) (hc30 mRe) (hc31 mMa) (hc32 mMy) (hc33 mPm) (hc34 mFy) (hc35 mFa) (hc36 mFr) (hc37 mFo) (hc38 mRt) (hc39 mRm) (hc40 mTt) (hc41 mTi) (hc42 mPl) (hc43 mVr) (hc44 mVf) (hc45 mVc) (hc46 mAr) (hc47 mTc) (hc48 mFt) (hc49 mGo) dyn, 0, 0) _
    refine pm_brT (g := (43, [(0, .ref 25), (1, .int a), (2, .int b)], [], hq g c1 c2 c3 c4 c5 c6 c7 c8 c9 c10 c11 c12 c13 c14 c15 c16 c17 c18 c19 c20 c21 c22 c23 c24 (hc25 mTy mTm mMn mFn mRn mTn mVn mLr mTr mFl mFm mFp mSc mMp mEn) (hc26 mPa) (hc27 mTo) (hc28 mOt) (hc29 mNa) (hc30 mRe) (hc31 mMa) (hc32 mMy) (hc33 mPm) (hc34 mFy) (hc35 mFa) (hc36 mFr) (hc37 mFo) (hc38 mRt) (hc39 mRm) (hc40 mTt) (hc41 mTi) (hc42 mPl) (hc43 mVr) (hc44 mVf) (hc45 mVc) (hc46 mAr) (hc47 mTc) (hc48 mFt) (hc49 mGo) dyn, 0, 0)) rfl ?_
    refine pm_go (g := (44, _, [.int 0], _, 0, 0)) rfl ?_
    exact pm_ret rfl (k2 ⟨by unfold anyT; omega, by assumption⟩)
  show pm_WP 136 (19, [(0, .ref 25), (1, .int a), (2, .int b)], [.int 0], hq g c1 c2 c3 c4 c5 c6 c7 c8 c9 c10 c11 c12 c13 c14 c15 c16 c17 c18 c19 c20 c21 c22 c23 c24 (hc25 mTy mTm mMn mFn mRn mTn mVn mLr mTr mFl mFm mFp mSc mMp mEn) (hc26 mPa) (hc27 mTo) (hc28 mOt) (hc29 mNa) (hc30 mRe) (hc31 mMa) (hc32 mMy) (hc33 mPm) (hc34 mFy) (hc35 mFa) (hc36 mFr) (hc37 mFo) (hc38 mRt) (hc39 mRm) (hc40 mTt) (hc41 mTi) (hc42 mPl) (hc43 mVr) (hc44 mVf) (hc45 mVc) (hc46 mAr) (hc47 mTc) (hc48 mFt) (hc49 mGo) dyn, 0, 0) _
  refine pm_brF (h := (22, [(0, .ref 25), (1, .int a), (2, .int b)], [], hq g c1 c2 c3 c4 c5 c6 c7 c8 c9 c10 c11 c12 c13 c14 c15 c16 c17 c18 c19 c20 c21 c22 c23 c24 (hc25 mTy mTm mMn mFn mRn mTn mVn mLr mTr mFl mFm mFp mSc mMp mEn) (hc26 mPa) (hc27 mTo) (hc28 mOt) (hc29 mNa) (hc30 mRe) (hc31 mMa) (hc32 mMy) (hc33 mPm) (hc34 mFy) (hc35 mFa) (hc36 mFr) (hc37 mFo) (hc38 mRt) (hc39 mRm) (hc40 mTt) (hc41 mTi) (hc42 mPl) (hc43 mVr) (hc44 mVf) (hc45 mVc) (hc46 mAr) (hc47 mTc) (hc48 mFt) (hc49 mGo) dyn, 0, 0)) rfl ?_
  refine pm_go (g := (23, _, [.int b], _, 0, 0)) rfl ?_
  refine pm_go (g := (25, _, [.int 11, .int b], _, 0, 0)) rfl ?_
  refine pm_if2 (g := (30, [(0, .ref 25), (1, .int a), (2, .int b)], [], hq g c1 c2 c3 c4 c5 c6 c7 c8 c9 c10 c11 c12 c13 c14 c15 c16 c17 c18 c19 c20 c21 c22 c23 c24 (hc25 mTy mTm mMn mFn mRn mTn mVn mLr mTr mFl mFm mFp mSc mMp mEn) (hc26 mPa) (hc27 mTo) (hc28 mOt) (hc29 mNa) (hc30 mRe) (hc31 mMa) (hc32 mMy) (hc33 mPm) (hc34 mFy) (hc35 mFa) (hc36 mFr) (hc37 mFo) (hc38 mRt) (hc39 mRm) (hc40 mTt) (hc41 mTi) (hc42 mPl) (hc43 mVr) (hc44 mVf) (hc45 mVc) (hc46 mAr) (hc47 mTc) (hc48 mFt) (hc49 mGo) dyn, 0, 0)) (h := (28, [(0, .ref 25), (1, .int a), (2, .int b)], [], hq g c1 c2 c3 c4 c5 c6 c7 c8 c9 c10 c11 c12 c13 c14 c15 c16 c17 c18 c19 c20 c21 c22 c23 c24 (hc25 mTy mTm mMn mFn mRn mTn mVn mLr mTr mFl mFm mFp mSc mMp mEn) (hc26 mPa) (hc27 mTo) (hc28 mOt) (hc29 mNa) (hc30 mRe) (hc31 mMa) (hc32 mMy) (hc33 mPm) (hc34 mFy) (hc35 mFa) (hc36 mFr) (hc37 mFo) (hc38 mRt) (hc39 mRm) (hc40 mTt) (hc41 mTi) (hc42 mPl) (hc43 mVr) (hc44 mVf) (hc45 mVc) (hc46 mAr) (hc47 mTc) (hc48 mFt) (hc49 mGo) dyn, 0, 0)) rfl (fun h21 => ?_) (fun h21 => ?_)
  ·
    have h21 := qT_eq (cx := (b).toInt) (cy := 11) rfl (by decide) h21
    refine pm_go (g := (31, _, [.ref 25], _, 0, 0)) rfl ?_
    refine pm_go (g := (32, _, [.int a, .ref 25], _, 0, 0)) rfl ?_
    refine pm_go (g := (33, _, [.int b, .int a, .ref 25], _, 0, 0)) rfl ?_
    refine pm_callD (z := 133) (as := [.ref 25, .int a, .int b]) (rest := []) rfl ?_
    refine w_X12_isLoose a b (by assumption) (fun h22 => ?_) (fun h23 => ?_)
    ·
      show pm_WP 136 (36, [(0, .ref 25), (1, .int a), (2, .int b)], [.int 1], _, 0, 0) _
      refine pm_brF (h := (39, [(0, .ref 25), (1, .int a), (2, .int b)], [], hq g c1 c2 c3 c4 c5 c6 c7 c8 c9 c10 c11 c12 c13 c14 c15 c16 c17 c18 c19 c20 c21 c22 c23 c24 (hc25 mTy mTm mMn mFn mRn mTn mVn mLr mTr mFl mFm mFp mSc mMp mEn) (hc26 mPa) (hc27 mTo) (hc28 mOt) (hc29 mNa) (hc30 mRe) (hc31 mMa) (hc32 mMy) (hc33 mPm) (hc34 mFy) (hc35 mFa) (hc36 mFr) (hc37 mFo) (hc38 mRt) (hc39 mRm) (hc40 mTt) (hc41 mTi) (hc42 mPl) (hc43 mVr) (hc44 mVf) (hc45 mVc) (hc46 mAr) (hc47 mTc) (hc48 mFt) (hc49 mGo) dyn, 0, 0)) rfl ?_
      refine pm_go (g := (40, _, [.int 1], _, 0, 0)) rfl ?_
      refine pm_go (g := (44, _, [.int 1], _, 0, 0)) rfl ?_
      exact pm_ret rfl (k1 ⟨by unfold anyT; omega, by assumption⟩)
    show pm_WP 136 (36, [(0, .ref 25), (1, .int a), (2, .int b)], [.int 0], hq g c1 c2 c3 c4 c5 c6 c7 c8 c9 c10 c11 c12 c13 c14 c15 c16 c17 c18 c19 c20 c21 c22 c23 c24 (hc25 mTy mTm mMn mFn mRn mTn mVn mLr mTr mFl mFm mFp mSc mMp mEn) (hc26 mPa) (hc27 mTo) (hc28 mOt) (hc29 mNa) (hc30 mRe) (hc31 mMa) (hc32 mMy) (hc33 mPm) (hc34 mFy) (hc35 mFa) (hc36 mFr) (hc37 mFo) (hc38 mRt) (hc39 mRm) (hc40 mTt) (hc41 mTi) (hc42 mPl) (hc43 mVr) (hc44 mVf) (hc45 mVc) (hc46 mAr) (hc47 mTc) (hc48 mFt) (hc49 mGo) dyn, 0, 0) _
    refine pm_brT (g := (43, [(0, .ref 25), (1, .int a), (2, .int b)], [], hq g c1 c2 c3 c4 c5 c6 c7 c8 c9 c10 c11 c12 c13 c14 c15 c16 c17 c18 c19 c20 c21 c22 c23 c24 (hc25 mTy mTm mMn mFn mRn mTn mVn mLr mTr mFl mFm mFp mSc mMp mEn) (hc26 mPa) (hc27 mTo) (hc28 mOt) (hc29 mNa) (hc30 mRe) (hc31 mMa) (hc32 mMy) (hc33 mPm) (hc34 mFy) (hc35 mFa) (hc36 mFr) (hc37 mFo) (hc38 mRt) (hc39 mRm) (hc40 mTt) (hc41 mTi) (hc42 mPl) (hc43 mVr) (hc44 mVf) (hc45 mVc) (hc46 mAr) (hc47 mTc) (hc48 mFt) (hc49 mGo) dyn, 0, 0)) rfl ?_
    refine pm_go (g := (44, _, [.int 0], _, 0, 0)) rfl ?_
    exact pm_ret rfl (k2 ⟨by unfold anyT; omega, by assumption⟩)
  have h21 := qF_eq (cx := (b).toInt) (cy := 11) rfl (by decide) h21
  refine pm_go (g := (29, _, [.int (-1)], _, 0, 0)) rfl ?_
  exact pm_ret rfl (k0 (by unfold anyT; omega))
set_option maxRecDepth 100000 in
set_option maxHeartbeats 4000000 in
theorem w_X12_placeOf {g c1 c2 c3 c4 c5 c6 c7 c8 c9 c10 c11 c12 c13 c14 c15 c16 c17 c18 c19 c20 c21 c22 c23 c24 : pm_C} {dyn : pm_H} {mTy : Int32} {mPa : Nat → Int32} {mTo : Nat → Int32} {mTm : Int32} {mMn : Int32} {mOt : Nat → Int32} {mNa : Nat → Int32} {mRe : Nat → Int32} {mMa : Nat → Int32} {mMy : Nat → Int32} {mPm : Nat → Int32} {mFn : Int32} {mFy : Nat → Int32} {mFa : Nat → Int32} {mFr : Nat → Int32} {mRn : Int32} {mFo : Nat → Int32} {mRt : Nat → Int32} {mRm : Nat → Int32} {mTn : Int32} {mTt : Nat → Int32} {mTi : Nat → Int32} {mPl : Nat → Int32} {mVn : Int32} {mVr : Nat → Int32} {mVf : Nat → Int32} {mVc : Nat → Int32} {mAr : Nat → Int32} {mLr : Int32} {mTc : Nat → Int32} {mTr : Int32} {mFl : Int32} {mFt : Nat → Int32} {mFm : Int32} {mFp : Int32} {mSc : Int32} {mMp : Int32} {mEn : Int32} {mGo : Nat → Int32} {Q : pm_Q} (m : Int32) (k : Int32) (p0 : 0 ≤ m.toInt ∧ m.toInt < 40) (p1 : 0 ≤ k.toInt) (p2 : 1 ≤ (mMy m.toNatClampNeg).toInt ∧ (mMy m.toNatClampNeg).toInt ≤ 3) (k0 : k.toInt < (mMy m.toNatClampNeg).toInt - 1 → Q (some (.int (mPm (3 * m + k).toNatClampNeg))) (hq g c1 c2 c3 c4 c5 c6 c7 c8 c9 c10 c11 c12 c13 c14 c15 c16 c17 c18 c19 c20 c21 c22 c23 c24 (hc25 mTy mTm mMn mFn mRn mTn mVn mLr mTr mFl mFm mFp mSc mMp mEn) (hc26 mPa) (hc27 mTo) (hc28 mOt) (hc29 mNa) (hc30 mRe) (hc31 mMa) (hc32 mMy) (hc33 mPm) (hc34 mFy) (hc35 mFa) (hc36 mFr) (hc37 mFo) (hc38 mRt) (hc39 mRm) (hc40 mTt) (hc41 mTi) (hc42 mPl) (hc43 mVr) (hc44 mVf) (hc45 mVc) (hc46 mAr) (hc47 mTc) (hc48 mFt) (hc49 mGo) dyn)) (k1 : (mMy m.toNatClampNeg).toInt - 1 ≤ k.toInt ∧ (mPm (3 * m + (mMy m.toNatClampNeg - 1)).toNatClampNeg).toInt = 30 → Q (some (.int 10)) (hq g c1 c2 c3 c4 c5 c6 c7 c8 c9 c10 c11 c12 c13 c14 c15 c16 c17 c18 c19 c20 c21 c22 c23 c24 (hc25 mTy mTm mMn mFn mRn mTn mVn mLr mTr mFl mFm mFp mSc mMp mEn) (hc26 mPa) (hc27 mTo) (hc28 mOt) (hc29 mNa) (hc30 mRe) (hc31 mMa) (hc32 mMy) (hc33 mPm) (hc34 mFy) (hc35 mFa) (hc36 mFr) (hc37 mFo) (hc38 mRt) (hc39 mRm) (hc40 mTt) (hc41 mTi) (hc42 mPl) (hc43 mVr) (hc44 mVf) (hc45 mVc) (hc46 mAr) (hc47 mTc) (hc48 mFt) (hc49 mGo) dyn)) (k2 : (mMy m.toNatClampNeg).toInt - 1 ≤ k.toInt ∧ (mPm (3 * m + (mMy m.toNatClampNeg - 1)).toNatClampNeg).toInt ≠ 30 → Q (some (.int (mPm (3 * m + (mMy m.toNatClampNeg - 1)).toNatClampNeg - 20))) (hq g c1 c2 c3 c4 c5 c6 c7 c8 c9 c10 c11 c12 c13 c14 c15 c16 c17 c18 c19 c20 c21 c22 c23 c24 (hc25 mTy mTm mMn mFn mRn mTn mVn mLr mTr mFl mFm mFp mSc mMp mEn) (hc26 mPa) (hc27 mTo) (hc28 mOt) (hc29 mNa) (hc30 mRe) (hc31 mMa) (hc32 mMy) (hc33 mPm) (hc34 mFy) (hc35 mFa) (hc36 mFr) (hc37 mFo) (hc38 mRt) (hc39 mRm) (hc40 mTt) (hc41 mTi) (hc42 mPl) (hc43 mVr) (hc44 mVf) (hc45 mVc) (hc46 mAr) (hc47 mTc) (hc48 mFt) (hc49 mGo) dyn)) : pm_WP 147 (0, [(0, .ref 25), (1, .int m), (2, .int k)], [], hq g c1 c2 c3 c4 c5 c6 c7 c8 c9 c10 c11 c12 c13 c14 c15 c16 c17 c18 c19 c20 c21 c22 c23 c24 (hc25 mTy mTm mMn mFn mRn mTn mVn mLr mTr mFl mFm mFp mSc mMp mEn) (hc26 mPa) (hc27 mTo) (hc28 mOt) (hc29 mNa) (hc30 mRe) (hc31 mMa) (hc32 mMy) (hc33 mPm) (hc34 mFy) (hc35 mFa) (hc36 mFr) (hc37 mFo) (hc38 mRt) (hc39 mRm) (hc40 mTt) (hc41 mTi) (hc42 mPl) (hc43 mVr) (hc44 mVf) (hc45 mVc) (hc46 mAr) (hc47 mTc) (hc48 mFt) (hc49 mGo) dyn, 0, 0) Q := by
  refine pm_go (g := (1, [(0, .ref 25), (1, .int m), (2, .int k)], [.ref 25], hq g c1 c2 c3 c4 c5 c6 c7 c8 c9 c10 c11 c12 c13 c14 c15 c16 c17 c18 c19 c20 c21 c22 c23 c24 (hc25 mTy mTm mMn mFn mRn mTn mVn mLr mTr mFl mFm mFp mSc mMp mEn) (hc26 mPa) (hc27 mTo) (hc28 mOt) (hc29 mNa) (hc30 mRe) (hc31 mMa) (hc32 mMy) (hc33 mPm) (hc34 mFy) (hc35 mFa) (hc36 mFr) (hc37 mFo) (hc38 mRt) (hc39 mRm) (hc40 mTt) (hc41 mTi) (hc42 mPl) (hc43 mVr) (hc44 mVf) (hc45 mVc) (hc46 mAr) (hc47 mTc) (hc48 mFt) (hc49 mGo) dyn, 0, 0)) rfl ?_
  refine pm_go (g := (4, _, [.ref 32], _, 0, 0)) rfl ?_
  refine pm_go (g := (5, _, [.int m, .ref 32], _, 0, 0)) rfl ?_
  refine pm_sd (g := (6, _, [.int (mMy (m).toNatClampNeg)], _, 0, 0)) rfl (pm_inI (by omega) (by omega)) ?_
  refine pm_go (g := (7, _, [.int 1, .int (mMy (m).toNatClampNeg)], _, 0, 0)) rfl ?_
  refine pm_go (g := (8, _, [.int ((mMy (m).toNatClampNeg) - 1)], _, 0, 0)) rfl ?_
  try have h1 : ((mMy (m).toNatClampNeg) - 1).toInt = (mMy (m).toNatClampNeg).toInt - 1 := iSub (x := (mMy (m).toNatClampNeg).toInt) (y := 1) rfl (by decide) (by omega) (by omega)
  refine pm_go (g := (9, [(3, .int ((mMy (m).toNatClampNeg) - 1)), (0, .ref 25), (1, .int m), (2, .int k)], [], _, 0, 0)) rfl ?_
  refine pm_go (g := (10, _, [.ref 25], _, 0, 0)) rfl ?_
  refine pm_go (g := (13, _, [.ref 33], _, 0, 0)) rfl ?_
  refine pm_go (g := (14, _, [.int 3, .ref 33], _, 0, 0)) rfl ?_
  refine pm_go (g := (15, _, [.int m, .int 3, .ref 33], _, 0, 0)) rfl ?_
  refine pm_go (g := (16, _, [.int (3 * m), .ref 33], _, 0, 0)) rfl ?_
  try have h2 : (3 * m).toInt = 3 * (m).toInt := iMul (x := 3) (y := (m).toInt) (by decide) rfl (by omega) (by omega)
  refine pm_go (g := (17, _, [.int k, .int (3 * m), .ref 33], _, 0, 0)) rfl ?_
  refine pm_go (g := (18, _, [.int ((mMy (m).toNatClampNeg) - 1), .int k, .int (3 * m), .ref 33], _, 0, 0)) rfl ?_
  refine pm_if2 (g := (25, [(3, .int ((mMy (m).toNatClampNeg) - 1)), (0, .ref 25), (1, .int m), (2, .int k)], [.int (3 * m), .ref 33], hq g c1 c2 c3 c4 c5 c6 c7 c8 c9 c10 c11 c12 c13 c14 c15 c16 c17 c18 c19 c20 c21 c22 c23 c24 (hc25 mTy mTm mMn mFn mRn mTn mVn mLr mTr mFl mFm mFp mSc mMp mEn) (hc26 mPa) (hc27 mTo) (hc28 mOt) (hc29 mNa) (hc30 mRe) (hc31 mMa) (hc32 mMy) (hc33 mPm) (hc34 mFy) (hc35 mFa) (hc36 mFr) (hc37 mFo) (hc38 mRt) (hc39 mRm) (hc40 mTt) (hc41 mTi) (hc42 mPl) (hc43 mVr) (hc44 mVf) (hc45 mVc) (hc46 mAr) (hc47 mTc) (hc48 mFt) (hc49 mGo) dyn, 0, 0)) (h := (21, [(3, .int ((mMy (m).toNatClampNeg) - 1)), (0, .ref 25), (1, .int m), (2, .int k)], [.int (3 * m), .ref 33], hq g c1 c2 c3 c4 c5 c6 c7 c8 c9 c10 c11 c12 c13 c14 c15 c16 c17 c18 c19 c20 c21 c22 c23 c24 (hc25 mTy mTm mMn mFn mRn mTn mVn mLr mTr mFl mFm mFp mSc mMp mEn) (hc26 mPa) (hc27 mTo) (hc28 mOt) (hc29 mNa) (hc30 mRe) (hc31 mMa) (hc32 mMy) (hc33 mPm) (hc34 mFy) (hc35 mFa) (hc36 mFr) (hc37 mFo) (hc38 mRt) (hc39 mRm) (hc40 mTt) (hc41 mTi) (hc42 mPl) (hc43 mVr) (hc44 mVf) (hc45 mVc) (hc46 mAr) (hc47 mTc) (hc48 mFt) (hc49 mGo) dyn, 0, 0)) rfl (fun h3 => ?_) (fun h3 => ?_)
  ·
    have h3 := qT_ge (cx := (k).toInt) (cy := ((mMy (m).toNatClampNeg) - 1).toInt) rfl rfl h3
    refine pm_go (g := (26, _, [.int ((mMy (m).toNatClampNeg) - 1), .int (3 * m), .ref 33], _, 0, 0)) rfl ?_
    refine pm_go (g := (27, _, [.int ((3 * m) + ((mMy (m).toNatClampNeg) - 1)), .ref 33], _, 0, 0)) rfl ?_
    try have h4 : ((3 * m) + ((mMy (m).toNatClampNeg) - 1)).toInt = (3 * m).toInt + ((mMy (m).toNatClampNeg) - 1).toInt := iAdd (x := (3 * m).toInt) (y := ((mMy (m).toNatClampNeg) - 1).toInt) rfl rfl (by omega) (by omega)
    refine pm_sd (g := (28, _, [.int (mPm ((3 * m) + ((mMy (m).toNatClampNeg) - 1)).toNatClampNeg)], _, 0, 0)) rfl (pm_inI (by omega) (by omega)) ?_
    refine pm_go (g := (30, [(4, .int (mPm ((3 * m) + ((mMy (m).toNatClampNeg) - 1)).toNatClampNeg)), (3, .int ((mMy (m).toNatClampNeg) - 1)), (0, .ref 25), (1, .int m), (2, .int k)], [], _, 0, 0)) rfl ?_
    refine pm_go (g := (31, _, [.int k], _, 0, 0)) rfl ?_
    refine pm_go (g := (32, _, [.int ((mMy (m).toNatClampNeg) - 1), .int k], _, 0, 0)) rfl ?_
    refine pm_if2 (g := (40, [(4, .int (mPm ((3 * m) + ((mMy (m).toNatClampNeg) - 1)).toNatClampNeg)), (3, .int ((mMy (m).toNatClampNeg) - 1)), (0, .ref 25), (1, .int m), (2, .int k)], [], hq g c1 c2 c3 c4 c5 c6 c7 c8 c9 c10 c11 c12 c13 c14 c15 c16 c17 c18 c19 c20 c21 c22 c23 c24 (hc25 mTy mTm mMn mFn mRn mTn mVn mLr mTr mFl mFm mFp mSc mMp mEn) (hc26 mPa) (hc27 mTo) (hc28 mOt) (hc29 mNa) (hc30 mRe) (hc31 mMa) (hc32 mMy) (hc33 mPm) (hc34 mFy) (hc35 mFa) (hc36 mFr) (hc37 mFo) (hc38 mRt) (hc39 mRm) (hc40 mTt) (hc41 mTi) (hc42 mPl) (hc43 mVr) (hc44 mVf) (hc45 mVc) (hc46 mAr) (hc47 mTc) (hc48 mFt) (hc49 mGo) dyn, 0, 0)) (h := (35, [(4, .int (mPm ((3 * m) + ((mMy (m).toNatClampNeg) - 1)).toNatClampNeg)), (3, .int ((mMy (m).toNatClampNeg) - 1)), (0, .ref 25), (1, .int m), (2, .int k)], [], hq g c1 c2 c3 c4 c5 c6 c7 c8 c9 c10 c11 c12 c13 c14 c15 c16 c17 c18 c19 c20 c21 c22 c23 c24 (hc25 mTy mTm mMn mFn mRn mTn mVn mLr mTr mFl mFm mFp mSc mMp mEn) (hc26 mPa) (hc27 mTo) (hc28 mOt) (hc29 mNa) (hc30 mRe) (hc31 mMa) (hc32 mMy) (hc33 mPm) (hc34 mFy) (hc35 mFa) (hc36 mFr) (hc37 mFo) (hc38 mRt) (hc39 mRm) (hc40 mTt) (hc41 mTi) (hc42 mPl) (hc43 mVr) (hc44 mVf) (hc45 mVc) (hc46 mAr) (hc47 mTc) (hc48 mFt) (hc49 mGo) dyn, 0, 0)) rfl (fun h5 => ?_) (fun h5 => ?_)
    ·
      have h5 := qT_ge (cx := (k).toInt) (cy := ((mMy (m).toNatClampNeg) - 1).toInt) rfl rfl h5
      refine pm_go (g := (42, _, [.int (mPm ((3 * m) + ((mMy (m).toNatClampNeg) - 1)).toNatClampNeg)], _, 0, 0)) rfl ?_
      refine pm_go (g := (44, _, [.int 30, .int (mPm ((3 * m) + ((mMy (m).toNatClampNeg) - 1)).toNatClampNeg)], _, 0, 0)) rfl ?_
      refine pm_if2 (g := (52, [(4, .int (mPm ((3 * m) + ((mMy (m).toNatClampNeg) - 1)).toNatClampNeg)), (3, .int ((mMy (m).toNatClampNeg) - 1)), (0, .ref 25), (1, .int m), (2, .int k)], [], hq g c1 c2 c3 c4 c5 c6 c7 c8 c9 c10 c11 c12 c13 c14 c15 c16 c17 c18 c19 c20 c21 c22 c23 c24 (hc25 mTy mTm mMn mFn mRn mTn mVn mLr mTr mFl mFm mFp mSc mMp mEn) (hc26 mPa) (hc27 mTo) (hc28 mOt) (hc29 mNa) (hc30 mRe) (hc31 mMa) (hc32 mMy) (hc33 mPm) (hc34 mFy) (hc35 mFa) (hc36 mFr) (hc37 mFo) (hc38 mRt) (hc39 mRm) (hc40 mTt) (hc41 mTi) (hc42 mPl) (hc43 mVr) (hc44 mVf) (hc45 mVc) (hc46 mAr) (hc47 mTc) (hc48 mFt) (hc49 mGo) dyn, 0, 0)) (h := (47, [(4, .int (mPm ((3 * m) + ((mMy (m).toNatClampNeg) - 1)).toNatClampNeg)), (3, .int ((mMy (m).toNatClampNeg) - 1)), (0, .ref 25), (1, .int m), (2, .int k)], [], hq g c1 c2 c3 c4 c5 c6 c7 c8 c9 c10 c11 c12 c13 c14 c15 c16 c17 c18 c19 c20 c21 c22 c23 c24 (hc25 mTy mTm mMn mFn mRn mTn mVn mLr mTr mFl mFm mFp mSc mMp mEn) (hc26 mPa) (hc27 mTo) (hc28 mOt) (hc29 mNa) (hc30 mRe) (hc31 mMa) (hc32 mMy) (hc33 mPm) (hc34 mFy) (hc35 mFa) (hc36 mFr) (hc37 mFo) (hc38 mRt) (hc39 mRm) (hc40 mTt) (hc41 mTi) (hc42 mPl) (hc43 mVr) (hc44 mVf) (hc45 mVc) (hc46 mAr) (hc47 mTc) (hc48 mFt) (hc49 mGo) dyn, 0, 0)) rfl (fun h6 => ?_) (fun h6 => ?_)
      ·
        have h6 := qT_ne (cx := (mPm ((3 * m) + ((mMy (m).toNatClampNeg) - 1)).toNatClampNeg).toInt) (cy := 30) rfl (by decide) h6
        refine pm_go (g := (54, _, [.int (mPm ((3 * m) + ((mMy (m).toNatClampNeg) - 1)).toNatClampNeg)], _, 0, 0)) rfl ?_
        refine pm_go (g := (56, _, [.int 20, .int (mPm ((3 * m) + ((mMy (m).toNatClampNeg) - 1)).toNatClampNeg)], _, 0, 0)) rfl ?_
        refine pm_go (g := (57, _, [.int ((mPm ((3 * m) + ((mMy (m).toNatClampNeg) - 1)).toNatClampNeg) - 20)], _, 0, 0)) rfl ?_
        try have h7 : ((mPm ((3 * m) + ((mMy (m).toNatClampNeg) - 1)).toNatClampNeg) - 20).toInt = (mPm ((3 * m) + ((mMy (m).toNatClampNeg) - 1)).toNatClampNeg).toInt - 20 := iSub (x := (mPm ((3 * m) + ((mMy (m).toNatClampNeg) - 1)).toNatClampNeg).toInt) (y := 20) rfl (by decide) (by omega) (by omega)
        first | exact pm_ret rfl (k0 (by omega)) | exact pm_ret rfl (k1 (by omega)) | exact pm_ret rfl (k2 (by omega)) | (exfalso; omega)
      have h6 := qF_ne (cx := (mPm ((3 * m) + ((mMy (m).toNatClampNeg) - 1)).toNatClampNeg).toInt) (cy := 30) rfl (by decide) h6
      refine pm_go (g := (49, _, [.int 10], _, 0, 0)) rfl ?_
      refine pm_go (g := (57, _, [.int 10], _, 0, 0)) rfl ?_
      first | exact pm_ret rfl (k0 (by omega)) | exact pm_ret rfl (k1 (by omega)) | exact pm_ret rfl (k2 (by omega)) | (exfalso; omega)
    have h5 := qF_ge (cx := (k).toInt) (cy := ((mMy (m).toNatClampNeg) - 1).toInt) rfl rfl h5
    refine pm_go (g := (37, _, [.int (mPm ((3 * m) + ((mMy (m).toNatClampNeg) - 1)).toNatClampNeg)], _, 0, 0)) rfl ?_
    refine pm_go (g := (57, _, [.int (mPm ((3 * m) + ((mMy (m).toNatClampNeg) - 1)).toNatClampNeg)], _, 0, 0)) rfl ?_
    first | exact pm_ret rfl (k0 (by omega)) | exact pm_ret rfl (k1 (by omega)) | exact pm_ret rfl (k2 (by omega)) | (exfalso; omega)
  have h3 := qF_ge (cx := (k).toInt) (cy := ((mMy (m).toNatClampNeg) - 1).toInt) rfl rfl h3
  refine pm_go (g := (22, [(3, .int ((mMy (m).toNatClampNeg) - 1)), (0, .ref 25), (1, .int m), (2, .int k)], [.int k, .int (3 * m), .ref 33], _, 0, 0)) rfl ?_
  refine pm_go (g := (26, _, [.int k, .int (3 * m), .ref 33], _, 0, 0)) rfl ?_
  refine pm_go (g := (27, _, [.int ((3 * m) + k), .ref 33], _, 0, 0)) rfl ?_
  try have h8 : ((3 * m) + k).toInt = (3 * m).toInt + (k).toInt := iAdd (x := (3 * m).toInt) (y := (k).toInt) rfl rfl (by omega) (by omega)
  refine pm_sd (g := (28, _, [.int (mPm ((3 * m) + k).toNatClampNeg)], _, 0, 0)) rfl (pm_inI (by omega) (by omega)) ?_
  refine pm_go (g := (30, [(4, .int (mPm ((3 * m) + k).toNatClampNeg)), (3, .int ((mMy (m).toNatClampNeg) - 1)), (0, .ref 25), (1, .int m), (2, .int k)], [], _, 0, 0)) rfl ?_
  refine pm_go (g := (31, _, [.int k], _, 0, 0)) rfl ?_
  refine pm_go (g := (32, _, [.int ((mMy (m).toNatClampNeg) - 1), .int k], _, 0, 0)) rfl ?_
  refine pm_if2 (g := (40, [(4, .int (mPm ((3 * m) + k).toNatClampNeg)), (3, .int ((mMy (m).toNatClampNeg) - 1)), (0, .ref 25), (1, .int m), (2, .int k)], [], hq g c1 c2 c3 c4 c5 c6 c7 c8 c9 c10 c11 c12 c13 c14 c15 c16 c17 c18 c19 c20 c21 c22 c23 c24 (hc25 mTy mTm mMn mFn mRn mTn mVn mLr mTr mFl mFm mFp mSc mMp mEn) (hc26 mPa) (hc27 mTo) (hc28 mOt) (hc29 mNa) (hc30 mRe) (hc31 mMa) (hc32 mMy) (hc33 mPm) (hc34 mFy) (hc35 mFa) (hc36 mFr) (hc37 mFo) (hc38 mRt) (hc39 mRm) (hc40 mTt) (hc41 mTi) (hc42 mPl) (hc43 mVr) (hc44 mVf) (hc45 mVc) (hc46 mAr) (hc47 mTc) (hc48 mFt) (hc49 mGo) dyn, 0, 0)) (h := (35, [(4, .int (mPm ((3 * m) + k).toNatClampNeg)), (3, .int ((mMy (m).toNatClampNeg) - 1)), (0, .ref 25), (1, .int m), (2, .int k)], [], hq g c1 c2 c3 c4 c5 c6 c7 c8 c9 c10 c11 c12 c13 c14 c15 c16 c17 c18 c19 c20 c21 c22 c23 c24 (hc25 mTy mTm mMn mFn mRn mTn mVn mLr mTr mFl mFm mFp mSc mMp mEn) (hc26 mPa) (hc27 mTo) (hc28 mOt) (hc29 mNa) (hc30 mRe) (hc31 mMa) (hc32 mMy) (hc33 mPm) (hc34 mFy) (hc35 mFa) (hc36 mFr) (hc37 mFo) (hc38 mRt) (hc39 mRm) (hc40 mTt) (hc41 mTi) (hc42 mPl) (hc43 mVr) (hc44 mVf) (hc45 mVc) (hc46 mAr) (hc47 mTc) (hc48 mFt) (hc49 mGo) dyn, 0, 0)) rfl (fun h9 => ?_) (fun h9 => ?_)
  ·
    have h9 := qT_ge (cx := (k).toInt) (cy := ((mMy (m).toNatClampNeg) - 1).toInt) rfl rfl h9
    refine pm_go (g := (42, _, [.int (mPm ((3 * m) + k).toNatClampNeg)], _, 0, 0)) rfl ?_
    refine pm_go (g := (44, _, [.int 30, .int (mPm ((3 * m) + k).toNatClampNeg)], _, 0, 0)) rfl ?_
    refine pm_if2 (g := (52, [(4, .int (mPm ((3 * m) + k).toNatClampNeg)), (3, .int ((mMy (m).toNatClampNeg) - 1)), (0, .ref 25), (1, .int m), (2, .int k)], [], hq g c1 c2 c3 c4 c5 c6 c7 c8 c9 c10 c11 c12 c13 c14 c15 c16 c17 c18 c19 c20 c21 c22 c23 c24 (hc25 mTy mTm mMn mFn mRn mTn mVn mLr mTr mFl mFm mFp mSc mMp mEn) (hc26 mPa) (hc27 mTo) (hc28 mOt) (hc29 mNa) (hc30 mRe) (hc31 mMa) (hc32 mMy) (hc33 mPm) (hc34 mFy) (hc35 mFa) (hc36 mFr) (hc37 mFo) (hc38 mRt) (hc39 mRm) (hc40 mTt) (hc41 mTi) (hc42 mPl) (hc43 mVr) (hc44 mVf) (hc45 mVc) (hc46 mAr) (hc47 mTc) (hc48 mFt) (hc49 mGo) dyn, 0, 0)) (h := (47, [(4, .int (mPm ((3 * m) + k).toNatClampNeg)), (3, .int ((mMy (m).toNatClampNeg) - 1)), (0, .ref 25), (1, .int m), (2, .int k)], [], hq g c1 c2 c3 c4 c5 c6 c7 c8 c9 c10 c11 c12 c13 c14 c15 c16 c17 c18 c19 c20 c21 c22 c23 c24 (hc25 mTy mTm mMn mFn mRn mTn mVn mLr mTr mFl mFm mFp mSc mMp mEn) (hc26 mPa) (hc27 mTo) (hc28 mOt) (hc29 mNa) (hc30 mRe) (hc31 mMa) (hc32 mMy) (hc33 mPm) (hc34 mFy) (hc35 mFa) (hc36 mFr) (hc37 mFo) (hc38 mRt) (hc39 mRm) (hc40 mTt) (hc41 mTi) (hc42 mPl) (hc43 mVr) (hc44 mVf) (hc45 mVc) (hc46 mAr) (hc47 mTc) (hc48 mFt) (hc49 mGo) dyn, 0, 0)) rfl (fun h10 => ?_) (fun h10 => ?_)
    ·
      have h10 := qT_ne (cx := (mPm ((3 * m) + k).toNatClampNeg).toInt) (cy := 30) rfl (by decide) h10
      refine pm_go (g := (54, _, [.int (mPm ((3 * m) + k).toNatClampNeg)], _, 0, 0)) rfl ?_
      refine pm_go (g := (56, _, [.int 20, .int (mPm ((3 * m) + k).toNatClampNeg)], _, 0, 0)) rfl ?_
      refine pm_go (g := (57, _, [.int ((mPm ((3 * m) + k).toNatClampNeg) - 20)], _, 0, 0)) rfl ?_
      try have h11 : ((mPm ((3 * m) + k).toNatClampNeg) - 20).toInt = (mPm ((3 * m) + k).toNatClampNeg).toInt - 20 := iSub (x := (mPm ((3 * m) + k).toNatClampNeg).toInt) (y := 20) rfl (by decide) (by omega) (by omega)
      first | exact pm_ret rfl (k0 (by omega)) | exact pm_ret rfl (k1 (by omega)) | exact pm_ret rfl (k2 (by omega)) | (exfalso; omega)
    have h10 := qF_ne (cx := (mPm ((3 * m) + k).toNatClampNeg).toInt) (cy := 30) rfl (by decide) h10
    refine pm_go (g := (49, _, [.int 10], _, 0, 0)) rfl ?_
    refine pm_go (g := (57, _, [.int 10], _, 0, 0)) rfl ?_
    first | exact pm_ret rfl (k0 (by omega)) | exact pm_ret rfl (k1 (by omega)) | exact pm_ret rfl (k2 (by omega)) | (exfalso; omega)
  have h9 := qF_ge (cx := (k).toInt) (cy := ((mMy (m).toNatClampNeg) - 1).toInt) rfl rfl h9
  refine pm_go (g := (37, _, [.int (mPm ((3 * m) + k).toNatClampNeg)], _, 0, 0)) rfl ?_
  refine pm_go (g := (57, _, [.int (mPm ((3 * m) + k).toNatClampNeg)], _, 0, 0)) rfl ?_
  first | exact pm_ret rfl (k0 (by omega)) | exact pm_ret rfl (k1 (by omega)) | exact pm_ret rfl (k2 (by omega)) | (exfalso; omega)
set_option maxRecDepth 100000 in
set_option maxHeartbeats 4000000 in
theorem w_X12_comes {g c1 c2 c3 c4 c5 c6 c7 c8 c9 c10 c11 c12 c13 c14 c15 c16 c17 c18 c19 c20 c21 c22 c23 c24 : pm_C} {dyn : pm_H} {mTy : Int32} {mPa : Nat → Int32} {mTo : Nat → Int32} {mTm : Int32} {mMn : Int32} {mOt : Nat → Int32} {mNa : Nat → Int32} {mRe : Nat → Int32} {mMa : Nat → Int32} {mMy : Nat → Int32} {mPm : Nat → Int32} {mFn : Int32} {mFy : Nat → Int32} {mFa : Nat → Int32} {mFr : Nat → Int32} {mRn : Int32} {mFo : Nat → Int32} {mRt : Nat → Int32} {mRm : Nat → Int32} {mTn : Int32} {mTt : Nat → Int32} {mTi : Nat → Int32} {mPl : Nat → Int32} {mVn : Int32} {mVr : Nat → Int32} {mVf : Nat → Int32} {mVc : Nat → Int32} {mAr : Nat → Int32} {mLr : Int32} {mTc : Nat → Int32} {mTr : Int32} {mFl : Int32} {mFt : Nat → Int32} {mFm : Int32} {mFp : Int32} {mSc : Int32} {mMp : Int32} {mEn : Int32} {mGo : Nat → Int32} {Q : pm_Q} (r : Int32) (m : Int32) (p0 : 0 ≤ r.toInt ∧ r.toInt < 30) (p1 : ((mFo r.toNatClampNeg).toInt = 3 ∨ (mFo r.toNatClampNeg).toInt = 4 ∨ (0 ≤ m.toInt ∧ m.toInt < 40))) (k0 : (mFo r.toNatClampNeg).toInt = 4 ∧ (mRt r.toNatClampNeg).toInt = 10 → Q (some (.int 30)) (hq g c1 c2 c3 c4 c5 c6 c7 c8 c9 c10 c11 c12 c13 c14 c15 c16 c17 c18 c19 c20 c21 c22 c23 c24 (hc25 mTy mTm mMn mFn mRn mTn mVn mLr mTr mFl mFm mFp mSc mMp mEn) (hc26 mPa) (hc27 mTo) (hc28 mOt) (hc29 mNa) (hc30 mRe) (hc31 mMa) (hc32 mMy) (hc33 mPm) (hc34 mFy) (hc35 mFa) (hc36 mFr) (hc37 mFo) (hc38 mRt) (hc39 mRm) (hc40 mTt) (hc41 mTi) (hc42 mPl) (hc43 mVr) (hc44 mVf) (hc45 mVc) (hc46 mAr) (hc47 mTc) (hc48 mFt) (hc49 mGo) dyn)) (k1 : (mFo r.toNatClampNeg).toInt = 4 ∧ (mRt r.toNatClampNeg).toInt ≠ 10 → Q (some (.int (20 + mRt r.toNatClampNeg))) (hq g c1 c2 c3 c4 c5 c6 c7 c8 c9 c10 c11 c12 c13 c14 c15 c16 c17 c18 c19 c20 c21 c22 c23 c24 (hc25 mTy mTm mMn mFn mRn mTn mVn mLr mTr mFl mFm mFp mSc mMp mEn) (hc26 mPa) (hc27 mTo) (hc28 mOt) (hc29 mNa) (hc30 mRe) (hc31 mMa) (hc32 mMy) (hc33 mPm) (hc34 mFy) (hc35 mFa) (hc36 mFr) (hc37 mFo) (hc38 mRt) (hc39 mRm) (hc40 mTt) (hc41 mTi) (hc42 mPl) (hc43 mVr) (hc44 mVf) (hc45 mVc) (hc46 mAr) (hc47 mTc) (hc48 mFt) (hc49 mGo) dyn)) (k2 : (mFo r.toNatClampNeg).toInt = 3 → Q (some (.int (mRt r.toNatClampNeg))) (hq g c1 c2 c3 c4 c5 c6 c7 c8 c9 c10 c11 c12 c13 c14 c15 c16 c17 c18 c19 c20 c21 c22 c23 c24 (hc25 mTy mTm mMn mFn mRn mTn mVn mLr mTr mFl mFm mFp mSc mMp mEn) (hc26 mPa) (hc27 mTo) (hc28 mOt) (hc29 mNa) (hc30 mRe) (hc31 mMa) (hc32 mMy) (hc33 mPm) (hc34 mFy) (hc35 mFa) (hc36 mFr) (hc37 mFo) (hc38 mRt) (hc39 mRm) (hc40 mTt) (hc41 mTi) (hc42 mPl) (hc43 mVr) (hc44 mVf) (hc45 mVc) (hc46 mAr) (hc47 mTc) (hc48 mFt) (hc49 mGo) dyn)) (k3 : (mFo r.toNatClampNeg).toInt ≠ 4 ∧ (mFo r.toNatClampNeg).toInt ≠ 3 → Q (some (.int (mRe m.toNatClampNeg))) (hq g c1 c2 c3 c4 c5 c6 c7 c8 c9 c10 c11 c12 c13 c14 c15 c16 c17 c18 c19 c20 c21 c22 c23 c24 (hc25 mTy mTm mMn mFn mRn mTn mVn mLr mTr mFl mFm mFp mSc mMp mEn) (hc26 mPa) (hc27 mTo) (hc28 mOt) (hc29 mNa) (hc30 mRe) (hc31 mMa) (hc32 mMy) (hc33 mPm) (hc34 mFy) (hc35 mFa) (hc36 mFr) (hc37 mFo) (hc38 mRt) (hc39 mRm) (hc40 mTt) (hc41 mTi) (hc42 mPl) (hc43 mVr) (hc44 mVf) (hc45 mVc) (hc46 mAr) (hc47 mTc) (hc48 mFt) (hc49 mGo) dyn)) : pm_WP 158 (0, [(0, .ref 25), (1, .int r), (2, .int m)], [], hq g c1 c2 c3 c4 c5 c6 c7 c8 c9 c10 c11 c12 c13 c14 c15 c16 c17 c18 c19 c20 c21 c22 c23 c24 (hc25 mTy mTm mMn mFn mRn mTn mVn mLr mTr mFl mFm mFp mSc mMp mEn) (hc26 mPa) (hc27 mTo) (hc28 mOt) (hc29 mNa) (hc30 mRe) (hc31 mMa) (hc32 mMy) (hc33 mPm) (hc34 mFy) (hc35 mFa) (hc36 mFr) (hc37 mFo) (hc38 mRt) (hc39 mRm) (hc40 mTt) (hc41 mTi) (hc42 mPl) (hc43 mVr) (hc44 mVf) (hc45 mVc) (hc46 mAr) (hc47 mTc) (hc48 mFt) (hc49 mGo) dyn, 0, 0) Q := by
  refine pm_go (g := (1, [(0, .ref 25), (1, .int r), (2, .int m)], [.ref 25], hq g c1 c2 c3 c4 c5 c6 c7 c8 c9 c10 c11 c12 c13 c14 c15 c16 c17 c18 c19 c20 c21 c22 c23 c24 (hc25 mTy mTm mMn mFn mRn mTn mVn mLr mTr mFl mFm mFp mSc mMp mEn) (hc26 mPa) (hc27 mTo) (hc28 mOt) (hc29 mNa) (hc30 mRe) (hc31 mMa) (hc32 mMy) (hc33 mPm) (hc34 mFy) (hc35 mFa) (hc36 mFr) (hc37 mFo) (hc38 mRt) (hc39 mRm) (hc40 mTt) (hc41 mTi) (hc42 mPl) (hc43 mVr) (hc44 mVf) (hc45 mVc) (hc46 mAr) (hc47 mTc) (hc48 mFt) (hc49 mGo) dyn, 0, 0)) rfl ?_
  refine pm_go (g := (4, _, [.ref 38], _, 0, 0)) rfl ?_
  refine pm_go (g := (5, _, [.int r, .ref 38], _, 0, 0)) rfl ?_
  refine pm_sd (g := (6, _, [.int (mRt (r).toNatClampNeg)], _, 0, 0)) rfl (pm_inI (by omega) (by omega)) ?_
  refine pm_go (g := (7, [(3, .int (mRt (r).toNatClampNeg)), (0, .ref 25), (1, .int r), (2, .int m)], [], _, 0, 0)) rfl ?_
  refine pm_go (g := (8, _, [.ref 25], _, 0, 0)) rfl ?_
  refine pm_go (g := (11, _, [.ref 37], _, 0, 0)) rfl ?_
  refine pm_go (g := (12, _, [.int r, .ref 37], _, 0, 0)) rfl ?_
  refine pm_sd (g := (13, _, [.int (mFo (r).toNatClampNeg)], _, 0, 0)) rfl (pm_inI (by omega) (by omega)) ?_
  refine pm_go (g := (14, _, [.int 4, .int (mFo (r).toNatClampNeg)], _, 0, 0)) rfl ?_
  refine pm_if2 (g := (35, [(3, .int (mRt (r).toNatClampNeg)), (0, .ref 25), (1, .int r), (2, .int m)], [], hq g c1 c2 c3 c4 c5 c6 c7 c8 c9 c10 c11 c12 c13 c14 c15 c16 c17 c18 c19 c20 c21 c22 c23 c24 (hc25 mTy mTm mMn mFn mRn mTn mVn mLr mTr mFl mFm mFp mSc mMp mEn) (hc26 mPa) (hc27 mTo) (hc28 mOt) (hc29 mNa) (hc30 mRe) (hc31 mMa) (hc32 mMy) (hc33 mPm) (hc34 mFy) (hc35 mFa) (hc36 mFr) (hc37 mFo) (hc38 mRt) (hc39 mRm) (hc40 mTt) (hc41 mTi) (hc42 mPl) (hc43 mVr) (hc44 mVf) (hc45 mVc) (hc46 mAr) (hc47 mTc) (hc48 mFt) (hc49 mGo) dyn, 0, 0)) (h := (17, [(3, .int (mRt (r).toNatClampNeg)), (0, .ref 25), (1, .int r), (2, .int m)], [], hq g c1 c2 c3 c4 c5 c6 c7 c8 c9 c10 c11 c12 c13 c14 c15 c16 c17 c18 c19 c20 c21 c22 c23 c24 (hc25 mTy mTm mMn mFn mRn mTn mVn mLr mTr mFl mFm mFp mSc mMp mEn) (hc26 mPa) (hc27 mTo) (hc28 mOt) (hc29 mNa) (hc30 mRe) (hc31 mMa) (hc32 mMy) (hc33 mPm) (hc34 mFy) (hc35 mFa) (hc36 mFr) (hc37 mFo) (hc38 mRt) (hc39 mRm) (hc40 mTt) (hc41 mTi) (hc42 mPl) (hc43 mVr) (hc44 mVf) (hc45 mVc) (hc46 mAr) (hc47 mTc) (hc48 mFt) (hc49 mGo) dyn, 0, 0)) rfl (fun h1 => ?_) (fun h1 => ?_)
  ·
    have h1 := qT_ne (cx := (mFo (r).toNatClampNeg).toInt) (cy := 4) rfl (by decide) h1
    refine pm_go (g := (36, _, [.ref 25], _, 0, 0)) rfl ?_
    refine pm_go (g := (39, _, [.ref 37], _, 0, 0)) rfl ?_
    refine pm_go (g := (40, _, [.int r, .ref 37], _, 0, 0)) rfl ?_
    refine pm_sd (g := (41, _, [.int (mFo (r).toNatClampNeg)], _, 0, 0)) rfl (pm_inI (by omega) (by omega)) ?_
    refine pm_go (g := (42, _, [.int 3, .int (mFo (r).toNatClampNeg)], _, 0, 0)) rfl ?_
    refine pm_if2 (g := (49, [(3, .int (mRt (r).toNatClampNeg)), (0, .ref 25), (1, .int r), (2, .int m)], [], hq g c1 c2 c3 c4 c5 c6 c7 c8 c9 c10 c11 c12 c13 c14 c15 c16 c17 c18 c19 c20 c21 c22 c23 c24 (hc25 mTy mTm mMn mFn mRn mTn mVn mLr mTr mFl mFm mFp mSc mMp mEn) (hc26 mPa) (hc27 mTo) (hc28 mOt) (hc29 mNa) (hc30 mRe) (hc31 mMa) (hc32 mMy) (hc33 mPm) (hc34 mFy) (hc35 mFa) (hc36 mFr) (hc37 mFo) (hc38 mRt) (hc39 mRm) (hc40 mTt) (hc41 mTi) (hc42 mPl) (hc43 mVr) (hc44 mVf) (hc45 mVc) (hc46 mAr) (hc47 mTc) (hc48 mFt) (hc49 mGo) dyn, 0, 0)) (h := (45, [(3, .int (mRt (r).toNatClampNeg)), (0, .ref 25), (1, .int r), (2, .int m)], [], hq g c1 c2 c3 c4 c5 c6 c7 c8 c9 c10 c11 c12 c13 c14 c15 c16 c17 c18 c19 c20 c21 c22 c23 c24 (hc25 mTy mTm mMn mFn mRn mTn mVn mLr mTr mFl mFm mFp mSc mMp mEn) (hc26 mPa) (hc27 mTo) (hc28 mOt) (hc29 mNa) (hc30 mRe) (hc31 mMa) (hc32 mMy) (hc33 mPm) (hc34 mFy) (hc35 mFa) (hc36 mFr) (hc37 mFo) (hc38 mRt) (hc39 mRm) (hc40 mTt) (hc41 mTi) (hc42 mPl) (hc43 mVr) (hc44 mVf) (hc45 mVc) (hc46 mAr) (hc47 mTc) (hc48 mFt) (hc49 mGo) dyn, 0, 0)) rfl (fun h2 => ?_) (fun h2 => ?_)
    ·
      have h2 := qT_ne (cx := (mFo (r).toNatClampNeg).toInt) (cy := 3) rfl (by decide) h2
      refine pm_go (g := (50, _, [.ref 25], _, 0, 0)) rfl ?_
      refine pm_go (g := (53, _, [.ref 30], _, 0, 0)) rfl ?_
      refine pm_go (g := (54, _, [.int m, .ref 30], _, 0, 0)) rfl ?_
      refine pm_sd (g := (55, _, [.int (mRe (m).toNatClampNeg)], _, 0, 0)) rfl (pm_inI (by omega) (by omega)) ?_
      first | exact pm_ret rfl (k0 (by omega)) | exact pm_ret rfl (k1 (by omega)) | exact pm_ret rfl (k2 (by omega)) | exact pm_ret rfl (k3 (by omega)) | (exfalso; omega)
    have h2 := qF_ne (cx := (mFo (r).toNatClampNeg).toInt) (cy := 3) rfl (by decide) h2
    refine pm_go (g := (46, _, [.int (mRt (r).toNatClampNeg)], _, 0, 0)) rfl ?_
    refine pm_go (g := (55, _, [.int (mRt (r).toNatClampNeg)], _, 0, 0)) rfl ?_
    first | exact pm_ret rfl (k0 (by omega)) | exact pm_ret rfl (k1 (by omega)) | exact pm_ret rfl (k2 (by omega)) | exact pm_ret rfl (k3 (by omega)) | (exfalso; omega)
  have h1 := qF_ne (cx := (mFo (r).toNatClampNeg).toInt) (cy := 4) rfl (by decide) h1
  refine pm_go (g := (18, _, [.int (mRt (r).toNatClampNeg)], _, 0, 0)) rfl ?_
  refine pm_go (g := (20, _, [.int 10, .int (mRt (r).toNatClampNeg)], _, 0, 0)) rfl ?_
  refine pm_if2 (g := (28, [(3, .int (mRt (r).toNatClampNeg)), (0, .ref 25), (1, .int r), (2, .int m)], [], hq g c1 c2 c3 c4 c5 c6 c7 c8 c9 c10 c11 c12 c13 c14 c15 c16 c17 c18 c19 c20 c21 c22 c23 c24 (hc25 mTy mTm mMn mFn mRn mTn mVn mLr mTr mFl mFm mFp mSc mMp mEn) (hc26 mPa) (hc27 mTo) (hc28 mOt) (hc29 mNa) (hc30 mRe) (hc31 mMa) (hc32 mMy) (hc33 mPm) (hc34 mFy) (hc35 mFa) (hc36 mFr) (hc37 mFo) (hc38 mRt) (hc39 mRm) (hc40 mTt) (hc41 mTi) (hc42 mPl) (hc43 mVr) (hc44 mVf) (hc45 mVc) (hc46 mAr) (hc47 mTc) (hc48 mFt) (hc49 mGo) dyn, 0, 0)) (h := (23, [(3, .int (mRt (r).toNatClampNeg)), (0, .ref 25), (1, .int r), (2, .int m)], [], hq g c1 c2 c3 c4 c5 c6 c7 c8 c9 c10 c11 c12 c13 c14 c15 c16 c17 c18 c19 c20 c21 c22 c23 c24 (hc25 mTy mTm mMn mFn mRn mTn mVn mLr mTr mFl mFm mFp mSc mMp mEn) (hc26 mPa) (hc27 mTo) (hc28 mOt) (hc29 mNa) (hc30 mRe) (hc31 mMa) (hc32 mMy) (hc33 mPm) (hc34 mFy) (hc35 mFa) (hc36 mFr) (hc37 mFo) (hc38 mRt) (hc39 mRm) (hc40 mTt) (hc41 mTi) (hc42 mPl) (hc43 mVr) (hc44 mVf) (hc45 mVc) (hc46 mAr) (hc47 mTc) (hc48 mFt) (hc49 mGo) dyn, 0, 0)) rfl (fun h3 => ?_) (fun h3 => ?_)
  ·
    have h3 := qT_ne (cx := (mRt (r).toNatClampNeg).toInt) (cy := 10) rfl (by decide) h3
    refine pm_go (g := (30, _, [.int 20], _, 0, 0)) rfl ?_
    refine pm_go (g := (31, _, [.int (mRt (r).toNatClampNeg), .int 20], _, 0, 0)) rfl ?_
    refine pm_go (g := (32, _, [.int (20 + (mRt (r).toNatClampNeg))], _, 0, 0)) rfl ?_
    try have h4 : (20 + (mRt (r).toNatClampNeg)).toInt = 20 + (mRt (r).toNatClampNeg).toInt := iAdd (x := 20) (y := (mRt (r).toNatClampNeg).toInt) (by decide) rfl (by omega) (by omega)
    refine pm_go (g := (55, _, [.int (20 + (mRt (r).toNatClampNeg))], _, 0, 0)) rfl ?_
    first | exact pm_ret rfl (k0 (by omega)) | exact pm_ret rfl (k1 (by omega)) | exact pm_ret rfl (k2 (by omega)) | exact pm_ret rfl (k3 (by omega)) | (exfalso; omega)
  have h3 := qF_ne (cx := (mRt (r).toNatClampNeg).toInt) (cy := 10) rfl (by decide) h3
  refine pm_go (g := (25, _, [.int 30], _, 0, 0)) rfl ?_
  refine pm_go (g := (55, _, [.int 30], _, 0, 0)) rfl ?_
  first | exact pm_ret rfl (k0 (by omega)) | exact pm_ret rfl (k1 (by omega)) | exact pm_ret rfl (k2 (by omega)) | exact pm_ret rfl (k3 (by omega)) | (exfalso; omega)
set_option maxRecDepth 100000 in
set_option maxHeartbeats 4000000 in
theorem w_X12_isGiven {g c1 c2 c3 c4 c5 c6 c7 c8 c9 c10 c11 c12 c13 c14 c15 c16 c17 c18 c19 c20 c21 c22 c23 c24 : pm_C} {dyn : pm_H} {mTy : Int32} {mPa : Nat → Int32} {mTo : Nat → Int32} {mTm : Int32} {mMn : Int32} {mOt : Nat → Int32} {mNa : Nat → Int32} {mRe : Nat → Int32} {mMa : Nat → Int32} {mMy : Nat → Int32} {mPm : Nat → Int32} {mFn : Int32} {mFy : Nat → Int32} {mFa : Nat → Int32} {mFr : Nat → Int32} {mRn : Int32} {mFo : Nat → Int32} {mRt : Nat → Int32} {mRm : Nat → Int32} {mTn : Int32} {mTt : Nat → Int32} {mTi : Nat → Int32} {mPl : Nat → Int32} {mVn : Int32} {mVr : Nat → Int32} {mVf : Nat → Int32} {mVc : Nat → Int32} {mAr : Nat → Int32} {mLr : Int32} {mTc : Nat → Int32} {mTr : Int32} {mFl : Int32} {mFt : Nat → Int32} {mFm : Int32} {mFp : Int32} {mSc : Int32} {mMp : Int32} {mEn : Int32} {mGo : Nat → Int32} {Q : pm_Q} (v : Int32) (t : Int32) (p0 : paD mPa) (p1 : 0 ≤ mTn.toInt ∧ mTn.toInt ≤ 60) (k0 : (v.toInt = 0 ∨ ((1 ≤ v.toInt ∧ v.toInt ≤ mTn.toInt) ∧ uM mPa (mTt v.toNatClampNeg) t = true)) → Q (some (.int 1)) (hq g c1 c2 c3 c4 c5 c6 c7 c8 c9 c10 c11 c12 c13 c14 c15 c16 c17 c18 c19 c20 c21 c22 c23 c24 (hc25 mTy mTm mMn mFn mRn mTn mVn mLr mTr mFl mFm mFp mSc mMp mEn) (hc26 mPa) (hc27 mTo) (hc28 mOt) (hc29 mNa) (hc30 mRe) (hc31 mMa) (hc32 mMy) (hc33 mPm) (hc34 mFy) (hc35 mFa) (hc36 mFr) (hc37 mFo) (hc38 mRt) (hc39 mRm) (hc40 mTt) (hc41 mTi) (hc42 mPl) (hc43 mVr) (hc44 mVf) (hc45 mVc) (hc46 mAr) (hc47 mTc) (hc48 mFt) (hc49 mGo) dyn)) (k1 : ¬ (v.toInt = 0 ∨ ((1 ≤ v.toInt ∧ v.toInt ≤ mTn.toInt) ∧ uM mPa (mTt v.toNatClampNeg) t = true)) → Q (some (.int 0)) (hq g c1 c2 c3 c4 c5 c6 c7 c8 c9 c10 c11 c12 c13 c14 c15 c16 c17 c18 c19 c20 c21 c22 c23 c24 (hc25 mTy mTm mMn mFn mRn mTn mVn mLr mTr mFl mFm mFp mSc mMp mEn) (hc26 mPa) (hc27 mTo) (hc28 mOt) (hc29 mNa) (hc30 mRe) (hc31 mMa) (hc32 mMy) (hc33 mPm) (hc34 mFy) (hc35 mFa) (hc36 mFr) (hc37 mFo) (hc38 mRt) (hc39 mRm) (hc40 mTt) (hc41 mTi) (hc42 mPl) (hc43 mVr) (hc44 mVf) (hc45 mVc) (hc46 mAr) (hc47 mTc) (hc48 mFt) (hc49 mGo) dyn)) : pm_WP 175 (0, [(0, .ref 25), (1, .int v), (2, .int t)], [], hq g c1 c2 c3 c4 c5 c6 c7 c8 c9 c10 c11 c12 c13 c14 c15 c16 c17 c18 c19 c20 c21 c22 c23 c24 (hc25 mTy mTm mMn mFn mRn mTn mVn mLr mTr mFl mFm mFp mSc mMp mEn) (hc26 mPa) (hc27 mTo) (hc28 mOt) (hc29 mNa) (hc30 mRe) (hc31 mMa) (hc32 mMy) (hc33 mPm) (hc34 mFy) (hc35 mFa) (hc36 mFr) (hc37 mFo) (hc38 mRt) (hc39 mRm) (hc40 mTt) (hc41 mTi) (hc42 mPl) (hc43 mVr) (hc44 mVf) (hc45 mVc) (hc46 mAr) (hc47 mTc) (hc48 mFt) (hc49 mGo) dyn, 0, 0) Q := by
  refine pm_go (g := (1, [(0, .ref 25), (1, .int v), (2, .int t)], [.int v], hq g c1 c2 c3 c4 c5 c6 c7 c8 c9 c10 c11 c12 c13 c14 c15 c16 c17 c18 c19 c20 c21 c22 c23 c24 (hc25 mTy mTm mMn mFn mRn mTn mVn mLr mTr mFl mFm mFp mSc mMp mEn) (hc26 mPa) (hc27 mTo) (hc28 mOt) (hc29 mNa) (hc30 mRe) (hc31 mMa) (hc32 mMy) (hc33 mPm) (hc34 mFy) (hc35 mFa) (hc36 mFr) (hc37 mFo) (hc38 mRt) (hc39 mRm) (hc40 mTt) (hc41 mTi) (hc42 mPl) (hc43 mVr) (hc44 mVf) (hc45 mVc) (hc46 mAr) (hc47 mTc) (hc48 mFt) (hc49 mGo) dyn, 0, 0)) rfl ?_
  refine pm_if2 (g := (26, [(0, .ref 25), (1, .int v), (2, .int t)], [], hq g c1 c2 c3 c4 c5 c6 c7 c8 c9 c10 c11 c12 c13 c14 c15 c16 c17 c18 c19 c20 c21 c22 c23 c24 (hc25 mTy mTm mMn mFn mRn mTn mVn mLr mTr mFl mFm mFp mSc mMp mEn) (hc26 mPa) (hc27 mTo) (hc28 mOt) (hc29 mNa) (hc30 mRe) (hc31 mMa) (hc32 mMy) (hc33 mPm) (hc34 mFy) (hc35 mFa) (hc36 mFr) (hc37 mFo) (hc38 mRt) (hc39 mRm) (hc40 mTt) (hc41 mTi) (hc42 mPl) (hc43 mVr) (hc44 mVf) (hc45 mVc) (hc46 mAr) (hc47 mTc) (hc48 mFt) (hc49 mGo) dyn, 0, 0)) (h := (4, [(0, .ref 25), (1, .int v), (2, .int t)], [], hq g c1 c2 c3 c4 c5 c6 c7 c8 c9 c10 c11 c12 c13 c14 c15 c16 c17 c18 c19 c20 c21 c22 c23 c24 (hc25 mTy mTm mMn mFn mRn mTn mVn mLr mTr mFl mFm mFp mSc mMp mEn) (hc26 mPa) (hc27 mTo) (hc28 mOt) (hc29 mNa) (hc30 mRe) (hc31 mMa) (hc32 mMy) (hc33 mPm) (hc34 mFy) (hc35 mFa) (hc36 mFr) (hc37 mFo) (hc38 mRt) (hc39 mRm) (hc40 mTt) (hc41 mTi) (hc42 mPl) (hc43 mVr) (hc44 mVf) (hc45 mVc) (hc46 mAr) (hc47 mTc) (hc48 mFt) (hc49 mGo) dyn, 0, 0)) rfl (fun h1 => ?_) (fun h1 => ?_)
  ·
    have h1 := qT_eq (cx := (v).toInt) (cy := 0) rfl (by decide) h1
    refine pm_go (g := (27, _, [.int 1], _, 0, 0)) rfl ?_
    refine pm_go (g := (31, _, [.int 1], _, 0, 0)) rfl ?_
    exact pm_ret rfl (k0 (by first | (left; omega) | (right; exact ⟨by omega, by assumption⟩)))
  have h1 := qF_eq (cx := (v).toInt) (cy := 0) rfl (by decide) h1
  refine pm_go (g := (5, _, [.ref 25], _, 0, 0)) rfl ?_
  refine pm_go (g := (6, _, [.int v, .ref 25], _, 0, 0)) rfl ?_
  refine pm_callD (z := 170) (as := [.ref 25, .int v]) (rest := []) rfl ?_
  refine w_X12_isThing v (fun h2 => ?_) (fun h3 => ?_)
  ·
    show pm_WP 175 (9, [(0, .ref 25), (1, .int v), (2, .int t)], [.int 1], _, 0, 0) _
    refine pm_brF (h := (12, [(0, .ref 25), (1, .int v), (2, .int t)], [], hq g c1 c2 c3 c4 c5 c6 c7 c8 c9 c10 c11 c12 c13 c14 c15 c16 c17 c18 c19 c20 c21 c22 c23 c24 (hc25 mTy mTm mMn mFn mRn mTn mVn mLr mTr mFl mFm mFp mSc mMp mEn) (hc26 mPa) (hc27 mTo) (hc28 mOt) (hc29 mNa) (hc30 mRe) (hc31 mMa) (hc32 mMy) (hc33 mPm) (hc34 mFy) (hc35 mFa) (hc36 mFr) (hc37 mFo) (hc38 mRt) (hc39 mRm) (hc40 mTt) (hc41 mTi) (hc42 mPl) (hc43 mVr) (hc44 mVf) (hc45 mVc) (hc46 mAr) (hc47 mTc) (hc48 mFt) (hc49 mGo) dyn, 0, 0)) rfl ?_
    refine pm_go (g := (13, _, [.ref 25], _, 0, 0)) rfl ?_
    refine pm_go (g := (14, _, [.ref 25, .ref 25], _, 0, 0)) rfl ?_
    refine pm_go (g := (17, _, [.ref 40, .ref 25], _, 0, 0)) rfl ?_
    refine pm_go (g := (18, _, [.int v, .ref 40, .ref 25], _, 0, 0)) rfl ?_
    refine pm_sd (g := (19, _, [.int (mTt (v).toNatClampNeg), .ref 25], _, 0, 0)) rfl (pm_inI (by omega) (by omega)) ?_
    refine pm_go (g := (20, _, [.int t, .int (mTt (v).toNatClampNeg), .ref 25], _, 0, 0)) rfl ?_
    refine pm_callD (z := 132) (as := [.ref 25, .int (mTt (v).toNatClampNeg), .int t]) (rest := []) rfl ?_
    refine w_X12_isUnder (mTt (v).toNatClampNeg) t (by assumption) (fun h5 => ?_) (fun h6 => ?_)
    ·
      show pm_WP 175 (23, [(0, .ref 25), (1, .int v), (2, .int t)], [.int 1], _, 0, 0) _
      refine pm_brF (h := (26, [(0, .ref 25), (1, .int v), (2, .int t)], [], hq g c1 c2 c3 c4 c5 c6 c7 c8 c9 c10 c11 c12 c13 c14 c15 c16 c17 c18 c19 c20 c21 c22 c23 c24 (hc25 mTy mTm mMn mFn mRn mTn mVn mLr mTr mFl mFm mFp mSc mMp mEn) (hc26 mPa) (hc27 mTo) (hc28 mOt) (hc29 mNa) (hc30 mRe) (hc31 mMa) (hc32 mMy) (hc33 mPm) (hc34 mFy) (hc35 mFa) (hc36 mFr) (hc37 mFo) (hc38 mRt) (hc39 mRm) (hc40 mTt) (hc41 mTi) (hc42 mPl) (hc43 mVr) (hc44 mVf) (hc45 mVc) (hc46 mAr) (hc47 mTc) (hc48 mFt) (hc49 mGo) dyn, 0, 0)) rfl ?_
      refine pm_go (g := (27, _, [.int 1], _, 0, 0)) rfl ?_
      refine pm_go (g := (31, _, [.int 1], _, 0, 0)) rfl ?_
      exact pm_ret rfl (k0 (by first | (left; omega) | (right; exact ⟨by omega, by assumption⟩)))
    show pm_WP 175 (23, [(0, .ref 25), (1, .int v), (2, .int t)], [.int 0], hq g c1 c2 c3 c4 c5 c6 c7 c8 c9 c10 c11 c12 c13 c14 c15 c16 c17 c18 c19 c20 c21 c22 c23 c24 (hc25 mTy mTm mMn mFn mRn mTn mVn mLr mTr mFl mFm mFp mSc mMp mEn) (hc26 mPa) (hc27 mTo) (hc28 mOt) (hc29 mNa) (hc30 mRe) (hc31 mMa) (hc32 mMy) (hc33 mPm) (hc34 mFy) (hc35 mFa) (hc36 mFr) (hc37 mFo) (hc38 mRt) (hc39 mRm) (hc40 mTt) (hc41 mTi) (hc42 mPl) (hc43 mVr) (hc44 mVf) (hc45 mVc) (hc46 mAr) (hc47 mTc) (hc48 mFt) (hc49 mGo) dyn, 0, 0) _
    refine pm_brT (g := (30, [(0, .ref 25), (1, .int v), (2, .int t)], [], hq g c1 c2 c3 c4 c5 c6 c7 c8 c9 c10 c11 c12 c13 c14 c15 c16 c17 c18 c19 c20 c21 c22 c23 c24 (hc25 mTy mTm mMn mFn mRn mTn mVn mLr mTr mFl mFm mFp mSc mMp mEn) (hc26 mPa) (hc27 mTo) (hc28 mOt) (hc29 mNa) (hc30 mRe) (hc31 mMa) (hc32 mMy) (hc33 mPm) (hc34 mFy) (hc35 mFa) (hc36 mFr) (hc37 mFo) (hc38 mRt) (hc39 mRm) (hc40 mTt) (hc41 mTi) (hc42 mPl) (hc43 mVr) (hc44 mVf) (hc45 mVc) (hc46 mAr) (hc47 mTc) (hc48 mFt) (hc49 mGo) dyn, 0, 0)) rfl ?_
    refine pm_go (g := (31, _, [.int 0], _, 0, 0)) rfl ?_
    exact pm_ret rfl (k1 (by rintro (q | ⟨q, q2⟩) <;> first | omega | (simp_all; done)))
  show pm_WP 175 (9, [(0, .ref 25), (1, .int v), (2, .int t)], [.int 0], hq g c1 c2 c3 c4 c5 c6 c7 c8 c9 c10 c11 c12 c13 c14 c15 c16 c17 c18 c19 c20 c21 c22 c23 c24 (hc25 mTy mTm mMn mFn mRn mTn mVn mLr mTr mFl mFm mFp mSc mMp mEn) (hc26 mPa) (hc27 mTo) (hc28 mOt) (hc29 mNa) (hc30 mRe) (hc31 mMa) (hc32 mMy) (hc33 mPm) (hc34 mFy) (hc35 mFa) (hc36 mFr) (hc37 mFo) (hc38 mRt) (hc39 mRm) (hc40 mTt) (hc41 mTi) (hc42 mPl) (hc43 mVr) (hc44 mVf) (hc45 mVc) (hc46 mAr) (hc47 mTc) (hc48 mFt) (hc49 mGo) dyn, 0, 0) _
  refine pm_brT (g := (30, [(0, .ref 25), (1, .int v), (2, .int t)], [], hq g c1 c2 c3 c4 c5 c6 c7 c8 c9 c10 c11 c12 c13 c14 c15 c16 c17 c18 c19 c20 c21 c22 c23 c24 (hc25 mTy mTm mMn mFn mRn mTn mVn mLr mTr mFl mFm mFp mSc mMp mEn) (hc26 mPa) (hc27 mTo) (hc28 mOt) (hc29 mNa) (hc30 mRe) (hc31 mMa) (hc32 mMy) (hc33 mPm) (hc34 mFy) (hc35 mFa) (hc36 mFr) (hc37 mFo) (hc38 mRt) (hc39 mRm) (hc40 mTt) (hc41 mTi) (hc42 mPl) (hc43 mVr) (hc44 mVf) (hc45 mVc) (hc46 mAr) (hc47 mTc) (hc48 mFt) (hc49 mGo) dyn, 0, 0)) rfl ?_
  refine pm_go (g := (31, _, [.int 0], _, 0, 0)) rfl ?_
  exact pm_ret rfl (k1 (by rintro (q | ⟨q, q2⟩) <;> first | omega | (simp_all; done)))
set_option maxRecDepth 100000 in
set_option maxHeartbeats 4000000 in
theorem w_nothingFits_loop {g c1 c2 c3 c4 c5 c6 c7 c8 c9 c10 c11 c12 c13 c14 c15 c16 c17 c18 c19 c20 c21 c22 c23 c24 : pm_C} {dyn : pm_H} {mTy : Int32} {mPa : Nat → Int32} {mTo : Nat → Int32} {mTm : Int32} {mMn : Int32} {mOt : Nat → Int32} {mNa : Nat → Int32} {mRe : Nat → Int32} {mMa : Nat → Int32} {mMy : Nat → Int32} {mPm : Nat → Int32} {mFn : Int32} {mFy : Nat → Int32} {mFa : Nat → Int32} {mFr : Nat → Int32} {mRn : Int32} {mFo : Nat → Int32} {mRt : Nat → Int32} {mRm : Nat → Int32} {mTn : Int32} {mTt : Nat → Int32} {mTi : Nat → Int32} {mPl : Nat → Int32} {mVn : Int32} {mVr : Nat → Int32} {mVf : Nat → Int32} {mVc : Nat → Int32} {mAr : Nat → Int32} {mLr : Int32} {mTc : Nat → Int32} {mTr : Int32} {mFl : Int32} {mFt : Nat → Int32} {mFm : Int32} {mFp : Int32} {mSc : Int32} {mMp : Int32} {mEn : Int32} {mGo : Nat → Int32} {Q : pm_Q} : ∀ (n k : Nat) (f : Nat → Int32), (k ≤ 40) → (40 < k + n) → (∀ j : Nat, j < k → f j = 0) → (∀ f9 : Nat → Int32, (∀ j : Nat, j < 40 → f9 j = 0) → Q none (hq g c1 c2 c3 c4 c5 c6 c7 c8 c9 c10 c11 c12 c13 c14 c15 c16 c17 c18 c19 c20 c21 c22 c23 c24 (hc25 mTy mTm mMn mFn mRn mTn mVn mLr mTr mFl 0 0 mSc mMp mEn) (hc26 mPa) (hc27 mTo) (hc28 mOt) (hc29 mNa) (hc30 mRe) (hc31 mMa) (hc32 mMy) (hc33 mPm) (hc34 mFy) (hc35 mFa) (hc36 mFr) (hc37 mFo) (hc38 mRt) (hc39 mRm) (hc40 mTt) (hc41 mTi) (hc42 mPl) (hc43 mVr) (hc44 mVf) (hc45 mVc) (hc46 mAr) (hc47 mTc) (hc48 f9) (hc49 mGo) dyn)) → pm_WP 151 (2, [(1, .int (nI k)), (0, .ref 25)], [], hq g c1 c2 c3 c4 c5 c6 c7 c8 c9 c10 c11 c12 c13 c14 c15 c16 c17 c18 c19 c20 c21 c22 c23 c24 (hc25 mTy mTm mMn mFn mRn mTn mVn mLr mTr mFl mFm mFp mSc mMp mEn) (hc26 mPa) (hc27 mTo) (hc28 mOt) (hc29 mNa) (hc30 mRe) (hc31 mMa) (hc32 mMy) (hc33 mPm) (hc34 mFy) (hc35 mFa) (hc36 mFr) (hc37 mFo) (hc38 mRt) (hc39 mRm) (hc40 mTt) (hc41 mTi) (hc42 mPl) (hc43 mVr) (hc44 mVf) (hc45 mVc) (hc46 mAr) (hc47 mTc) (hc48 f) (hc49 mGo) dyn, 0, 0) Q := by
  intro n
  induction n with
  | zero =>
    intro k f g1 g2 g3 k0
    exfalso; omega
  | succ n ih =>
    intro k f g1 g2 g3 k0
    have hk := nI_toInt (n := k) (by omega)
    have hkc : (nI k).toNatClampNeg = k := nI_clamp (by omega)
    refine pm_go (g := (3, [(1, .int (nI k)), (0, .ref 25)], [.int (nI k)], hq g c1 c2 c3 c4 c5 c6 c7 c8 c9 c10 c11 c12 c13 c14 c15 c16 c17 c18 c19 c20 c21 c22 c23 c24 (hc25 mTy mTm mMn mFn mRn mTn mVn mLr mTr mFl mFm mFp mSc mMp mEn) (hc26 mPa) (hc27 mTo) (hc28 mOt) (hc29 mNa) (hc30 mRe) (hc31 mMa) (hc32 mMy) (hc33 mPm) (hc34 mFy) (hc35 mFa) (hc36 mFr) (hc37 mFo) (hc38 mRt) (hc39 mRm) (hc40 mTt) (hc41 mTi) (hc42 mPl) (hc43 mVr) (hc44 mVf) (hc45 mVc) (hc46 mAr) (hc47 mTc) (hc48 f) (hc49 mGo) dyn, 0, 0)) rfl ?_
    refine pm_go (g := (5, _, [.int 40, .int (nI k)], _, 0, 0)) rfl ?_
    refine pm_if2 (g := (21, [(1, .int (nI k)), (0, .ref 25)], [], hq g c1 c2 c3 c4 c5 c6 c7 c8 c9 c10 c11 c12 c13 c14 c15 c16 c17 c18 c19 c20 c21 c22 c23 c24 (hc25 mTy mTm mMn mFn mRn mTn mVn mLr mTr mFl mFm mFp mSc mMp mEn) (hc26 mPa) (hc27 mTo) (hc28 mOt) (hc29 mNa) (hc30 mRe) (hc31 mMa) (hc32 mMy) (hc33 mPm) (hc34 mFy) (hc35 mFa) (hc36 mFr) (hc37 mFo) (hc38 mRt) (hc39 mRm) (hc40 mTt) (hc41 mTi) (hc42 mPl) (hc43 mVr) (hc44 mVf) (hc45 mVc) (hc46 mAr) (hc47 mTc) (hc48 f) (hc49 mGo) dyn, 0, 0)) (h := (8, [(1, .int (nI k)), (0, .ref 25)], [], hq g c1 c2 c3 c4 c5 c6 c7 c8 c9 c10 c11 c12 c13 c14 c15 c16 c17 c18 c19 c20 c21 c22 c23 c24 (hc25 mTy mTm mMn mFn mRn mTn mVn mLr mTr mFl mFm mFp mSc mMp mEn) (hc26 mPa) (hc27 mTo) (hc28 mOt) (hc29 mNa) (hc30 mRe) (hc31 mMa) (hc32 mMy) (hc33 mPm) (hc34 mFy) (hc35 mFa) (hc36 mFr) (hc37 mFo) (hc38 mRt) (hc39 mRm) (hc40 mTt) (hc41 mTi) (hc42 mPl) (hc43 mVr) (hc44 mVf) (hc45 mVc) (hc46 mAr) (hc47 mTc) (hc48 f) (hc49 mGo) dyn, 0, 0)) rfl (fun h1 => ?_) (fun h1 => ?_)
    ·
      have h1 := qT_ge (cx := (nI k).toInt) (cy := 40) rfl (by decide) h1
      refine pm_go (g := (22, _, [.ref 25], _, 0, 0)) rfl ?_
      refine pm_go (g := (23, _, [.int 0, .ref 25], _, 0, 0)) rfl ?_
      refine pm_go (g := (26, _, [], hq g c1 c2 c3 c4 c5 c6 c7 c8 c9 c10 c11 c12 c13 c14 c15 c16 c17 c18 c19 c20 c21 c22 c23 c24 (hc25 mTy mTm mMn mFn mRn mTn mVn mLr mTr mFl 0 mFp mSc mMp mEn) (hc26 mPa) (hc27 mTo) (hc28 mOt) (hc29 mNa) (hc30 mRe) (hc31 mMa) (hc32 mMy) (hc33 mPm) (hc34 mFy) (hc35 mFa) (hc36 mFr) (hc37 mFo) (hc38 mRt) (hc39 mRm) (hc40 mTt) (hc41 mTi) (hc42 mPl) (hc43 mVr) (hc44 mVf) (hc45 mVc) (hc46 mAr) (hc47 mTc) (hc48 f) (hc49 mGo) dyn, 0, 0)) rfl ?_
      refine pm_go (g := (27, _, [.ref 25], _, 0, 0)) rfl ?_
      refine pm_go (g := (28, _, [.int 0, .ref 25], _, 0, 0)) rfl ?_
      refine pm_go (g := (31, _, [], hq g c1 c2 c3 c4 c5 c6 c7 c8 c9 c10 c11 c12 c13 c14 c15 c16 c17 c18 c19 c20 c21 c22 c23 c24 (hc25 mTy mTm mMn mFn mRn mTn mVn mLr mTr mFl 0 0 mSc mMp mEn) (hc26 mPa) (hc27 mTo) (hc28 mOt) (hc29 mNa) (hc30 mRe) (hc31 mMa) (hc32 mMy) (hc33 mPm) (hc34 mFy) (hc35 mFa) (hc36 mFr) (hc37 mFo) (hc38 mRt) (hc39 mRm) (hc40 mTt) (hc41 mTi) (hc42 mPl) (hc43 mVr) (hc44 mVf) (hc45 mVc) (hc46 mAr) (hc47 mTc) (hc48 f) (hc49 mGo) dyn, 0, 0)) rfl ?_
      exact pm_ret rfl (k0 f (fun j q => g3 j (by omega)))
    have h1 := qF_ge (cx := (nI k).toInt) (cy := 40) rfl (by decide) h1
    refine pm_go (g := (9, _, [.ref 25], hq g c1 c2 c3 c4 c5 c6 c7 c8 c9 c10 c11 c12 c13 c14 c15 c16 c17 c18 c19 c20 c21 c22 c23 c24 (hc25 mTy mTm mMn mFn mRn mTn mVn mLr mTr mFl mFm mFp mSc mMp mEn) (hc26 mPa) (hc27 mTo) (hc28 mOt) (hc29 mNa) (hc30 mRe) (hc31 mMa) (hc32 mMy) (hc33 mPm) (hc34 mFy) (hc35 mFa) (hc36 mFr) (hc37 mFo) (hc38 mRt) (hc39 mRm) (hc40 mTt) (hc41 mTi) (hc42 mPl) (hc43 mVr) (hc44 mVf) (hc45 mVc) (hc46 mAr) (hc47 mTc) (hc48 f) (hc49 mGo) dyn, 0, 0)) rfl ?_
    refine pm_go (g := (12, _, [.ref 48], _, 0, 0)) rfl ?_
    refine pm_go (g := (13, _, [.int (nI k), .ref 48], _, 0, 0)) rfl ?_
    refine pm_go (g := (14, _, [.int 0, .int (nI k), .ref 48], _, 0, 0)) rfl ?_
    refine pm_sd (g := (15, _, [], hq g c1 c2 c3 c4 c5 c6 c7 c8 c9 c10 c11 c12 c13 c14 c15 c16 c17 c18 c19 c20 c21 c22 c23 c24 (hc25 mTy mTm mMn mFn mRn mTn mVn mLr mTr mFl mFm mFp mSc mMp mEn) (hc26 mPa) (hc27 mTo) (hc28 mOt) (hc29 mNa) (hc30 mRe) (hc31 mMa) (hc32 mMy) (hc33 mPm) (hc34 mFy) (hc35 mFa) (hc36 mFr) (hc37 mFo) (hc38 mRt) (hc39 mRm) (hc40 mTt) (hc41 mTi) (hc42 mPl) (hc43 mVr) (hc44 mVf) (hc45 mVc) (hc46 mAr) (hc47 mTc) (hc48 (upd f (nI k).toNatClampNeg 0)) (hc49 mGo) dyn, 0, 0)) rfl (pm_inI (by omega) (by omega)) ?_
    refine pm_go (g := (18, [(1, .int ((nI k) + 1)), (0, .ref 25)], [], _, 0, 0)) rfl ?_
    refine pm_go (g := (2, _, [], _, 0, 0)) rfl ?_
    rw [nI_1]
    rw [hkc]
    refine ih (k + 1) (upd f k 0) (by omega) (by omega) (fun j q => ?_) k0
    by_cases e9 : j = k
    · subst e9; simp [upd]
    · simp only [upd, if_neg e9]; exact g3 j (by omega)
set_option maxRecDepth 100000 in
set_option maxHeartbeats 4000000 in
theorem w_X12_nothingFits {g c1 c2 c3 c4 c5 c6 c7 c8 c9 c10 c11 c12 c13 c14 c15 c16 c17 c18 c19 c20 c21 c22 c23 c24 : pm_C} {dyn : pm_H} {mTy : Int32} {mPa : Nat → Int32} {mTo : Nat → Int32} {mTm : Int32} {mMn : Int32} {mOt : Nat → Int32} {mNa : Nat → Int32} {mRe : Nat → Int32} {mMa : Nat → Int32} {mMy : Nat → Int32} {mPm : Nat → Int32} {mFn : Int32} {mFy : Nat → Int32} {mFa : Nat → Int32} {mFr : Nat → Int32} {mRn : Int32} {mFo : Nat → Int32} {mRt : Nat → Int32} {mRm : Nat → Int32} {mTn : Int32} {mTt : Nat → Int32} {mTi : Nat → Int32} {mPl : Nat → Int32} {mVn : Int32} {mVr : Nat → Int32} {mVf : Nat → Int32} {mVc : Nat → Int32} {mAr : Nat → Int32} {mLr : Int32} {mTc : Nat → Int32} {mTr : Int32} {mFl : Int32} {mFt : Nat → Int32} {mFm : Int32} {mFp : Int32} {mSc : Int32} {mMp : Int32} {mEn : Int32} {mGo : Nat → Int32} {Q : pm_Q} (k0 : ∀ (f9 : Nat → Int32), (∀ j : Nat, j < 40 → f9 j = 0) → Q none (hq g c1 c2 c3 c4 c5 c6 c7 c8 c9 c10 c11 c12 c13 c14 c15 c16 c17 c18 c19 c20 c21 c22 c23 c24 (hc25 mTy mTm mMn mFn mRn mTn mVn mLr mTr mFl 0 0 mSc mMp mEn) (hc26 mPa) (hc27 mTo) (hc28 mOt) (hc29 mNa) (hc30 mRe) (hc31 mMa) (hc32 mMy) (hc33 mPm) (hc34 mFy) (hc35 mFa) (hc36 mFr) (hc37 mFo) (hc38 mRt) (hc39 mRm) (hc40 mTt) (hc41 mTi) (hc42 mPl) (hc43 mVr) (hc44 mVf) (hc45 mVc) (hc46 mAr) (hc47 mTc) (hc48 f9) (hc49 mGo) dyn)) : pm_WP 151 (0, [(0, .ref 25)], [], hq g c1 c2 c3 c4 c5 c6 c7 c8 c9 c10 c11 c12 c13 c14 c15 c16 c17 c18 c19 c20 c21 c22 c23 c24 (hc25 mTy mTm mMn mFn mRn mTn mVn mLr mTr mFl mFm mFp mSc mMp mEn) (hc26 mPa) (hc27 mTo) (hc28 mOt) (hc29 mNa) (hc30 mRe) (hc31 mMa) (hc32 mMy) (hc33 mPm) (hc34 mFy) (hc35 mFa) (hc36 mFr) (hc37 mFo) (hc38 mRt) (hc39 mRm) (hc40 mTt) (hc41 mTi) (hc42 mPl) (hc43 mVr) (hc44 mVf) (hc45 mVc) (hc46 mAr) (hc47 mTc) (hc48 mFt) (hc49 mGo) dyn, 0, 0) Q := by
  refine pm_go (g := (1, [(0, .ref 25)], [.int 0], hq g c1 c2 c3 c4 c5 c6 c7 c8 c9 c10 c11 c12 c13 c14 c15 c16 c17 c18 c19 c20 c21 c22 c23 c24 (hc25 mTy mTm mMn mFn mRn mTn mVn mLr mTr mFl mFm mFp mSc mMp mEn) (hc26 mPa) (hc27 mTo) (hc28 mOt) (hc29 mNa) (hc30 mRe) (hc31 mMa) (hc32 mMy) (hc33 mPm) (hc34 mFy) (hc35 mFa) (hc36 mFr) (hc37 mFo) (hc38 mRt) (hc39 mRm) (hc40 mTt) (hc41 mTi) (hc42 mPl) (hc43 mVr) (hc44 mVf) (hc45 mVc) (hc46 mAr) (hc47 mTc) (hc48 mFt) (hc49 mGo) dyn, 0, 0)) rfl ?_
  refine pm_go (g := (2, [(1, .int 0), (0, .ref 25)], [], _, 0, 0)) rfl ?_
  exact w_nothingFits_loop (mFt := mFt) 41 0 mFt (by omega) (by omega) (fun j q => by omega) k0
end
section
theorem tN {e : Int32} {z : Nat} (h : e.toInt = (z : Int)) : e.toNatClampNeg = z := by
  show e.toInt.toNat = z
  omega
/-- twenty places are cleared -/
def zP (f : Nat → Int32) (n : Int32) : Nat → Int32 := fun i => if 20 * n.toNatClampNeg ≤ i ∧ i < 20 * n.toNatClampNeg + 20 then 0 else f i
/-- what was told goes into a row of three from 3 * n on -/
def cpF (f to : Nat → Int32) (n : Int32) (m : Int32) : Nat → Int32 := fun i => if 3 * n.toNatClampNeg ≤ i ∧ i < 3 * n.toNatClampNeg + m.toNatClampNeg then to (i - 3 * n.toNatClampNeg) else f i
def shT (f : Nat → Int32) : Nat → Int32 := fun i => if i < 49 then f (i + 1) else f i
set_option maxRecDepth 100000 in
set_option maxHeartbeats 4000000 in
theorem w_made_loop {g c1 c2 c3 c4 c5 c6 c7 c8 c9 c10 c11 c12 c13 c14 c15 c16 c17 c18 c19 c20 c21 c22 c23 c24 : pm_C} {dyn : pm_H} {mTy : Int32} {mPa : Nat → Int32} {mTo : Nat → Int32} {mTm : Int32} {mMn : Int32} {mOt : Nat → Int32} {mNa : Nat → Int32} {mRe : Nat → Int32} {mMa : Nat → Int32} {mMy : Nat → Int32} {mPm : Nat → Int32} {mFn : Int32} {mFy : Nat → Int32} {mFa : Nat → Int32} {mFr : Nat → Int32} {mRn : Int32} {mFo : Nat → Int32} {mRt : Nat → Int32} {mRm : Nat → Int32} {mTn : Int32} {mTt : Nat → Int32} {mTi : Nat → Int32} {mPl : Nat → Int32} {mVn : Int32} {mVr : Nat → Int32} {mVf : Nat → Int32} {mVc : Nat → Int32} {mAr : Nat → Int32} {mLr : Int32} {mTc : Nat → Int32} {mTr : Int32} {mFl : Int32} {mFt : Nat → Int32} {mFm : Int32} {mFp : Int32} {mSc : Int32} {mMp : Int32} {mEn : Int32} {mGo : Nat → Int32} {Q : pm_Q} (t v : Int32) (f0 : Nat → Int32) (ht : 1 ≤ mTn.toInt ∧ mTn.toInt ≤ 60) : ∀ (n k : Nat) (f : Nat → Int32), (k ≤ 20) → (20 < k + n) → (∀ i : Nat, f i = if 20 * mTn.toNatClampNeg ≤ i ∧ i < 20 * mTn.toNatClampNeg + k then 0 else f0 i) → (Q (some (.int mTn)) (hq g c1 c2 c3 c4 c5 c6 c7 c8 c9 c10 c11 c12 c13 c14 c15 c16 c17 c18 c19 c20 c21 c22 c23 c24 (hc25 mTy mTm mMn mFn mRn mTn mVn mLr mTr mFl mFm mFp mSc mMp mEn) (hc26 mPa) (hc27 mTo) (hc28 mOt) (hc29 mNa) (hc30 mRe) (hc31 mMa) (hc32 mMy) (hc33 mPm) (hc34 mFy) (hc35 mFa) (hc36 mFr) (hc37 mFo) (hc38 mRt) (hc39 mRm) (hc40 mTt) (hc41 mTi) (hc42 (zP f0 mTn)) (hc43 mVr) (hc44 mVf) (hc45 mVc) (hc46 mAr) (hc47 mTc) (hc48 mFt) (hc49 mGo) dyn)) → pm_WP 169 (58, [(3, .int (nI k)), (0, .ref 25), (1, .int t), (2, .int v)], [], hq g c1 c2 c3 c4 c5 c6 c7 c8 c9 c10 c11 c12 c13 c14 c15 c16 c17 c18 c19 c20 c21 c22 c23 c24 (hc25 mTy mTm mMn mFn mRn mTn mVn mLr mTr mFl mFm mFp mSc mMp mEn) (hc26 mPa) (hc27 mTo) (hc28 mOt) (hc29 mNa) (hc30 mRe) (hc31 mMa) (hc32 mMy) (hc33 mPm) (hc34 mFy) (hc35 mFa) (hc36 mFr) (hc37 mFo) (hc38 mRt) (hc39 mRm) (hc40 mTt) (hc41 mTi) (hc42 f) (hc43 mVr) (hc44 mVf) (hc45 mVc) (hc46 mAr) (hc47 mTc) (hc48 mFt) (hc49 mGo) dyn, 0, 0) Q := by
  intro n
  induction n with
  | zero =>
    intro k f g1 g2 g3 k0
    exfalso; omega
  | succ n ih =>
    intro k f g1 g2 g3 k0
    have hk := nI_toInt (n := k) (by omega)
    have hkc : (nI k).toNatClampNeg = k := nI_clamp (by omega)
    have hxt := xN (x := mTn) (by omega)
    refine pm_go (g := (59, [(3, .int (nI k)), (0, .ref 25), (1, .int t), (2, .int v)], [.int (nI k)], hq g c1 c2 c3 c4 c5 c6 c7 c8 c9 c10 c11 c12 c13 c14 c15 c16 c17 c18 c19 c20 c21 c22 c23 c24 (hc25 mTy mTm mMn mFn mRn mTn mVn mLr mTr mFl mFm mFp mSc mMp mEn) (hc26 mPa) (hc27 mTo) (hc28 mOt) (hc29 mNa) (hc30 mRe) (hc31 mMa) (hc32 mMy) (hc33 mPm) (hc34 mFy) (hc35 mFa) (hc36 mFr) (hc37 mFo) (hc38 mRt) (hc39 mRm) (hc40 mTt) (hc41 mTi) (hc42 f) (hc43 mVr) (hc44 mVf) (hc45 mVc) (hc46 mAr) (hc47 mTc) (hc48 mFt) (hc49 mGo) dyn, 0, 0)) rfl ?_
    refine pm_go (g := (61, _, [.int 20, .int (nI k)], _, 0, 0)) rfl ?_
    refine pm_if2 (g := (85, [(3, .int (nI k)), (0, .ref 25), (1, .int t), (2, .int v)], [], hq g c1 c2 c3 c4 c5 c6 c7 c8 c9 c10 c11 c12 c13 c14 c15 c16 c17 c18 c19 c20 c21 c22 c23 c24 (hc25 mTy mTm mMn mFn mRn mTn mVn mLr mTr mFl mFm mFp mSc mMp mEn) (hc26 mPa) (hc27 mTo) (hc28 mOt) (hc29 mNa) (hc30 mRe) (hc31 mMa) (hc32 mMy) (hc33 mPm) (hc34 mFy) (hc35 mFa) (hc36 mFr) (hc37 mFo) (hc38 mRt) (hc39 mRm) (hc40 mTt) (hc41 mTi) (hc42 f) (hc43 mVr) (hc44 mVf) (hc45 mVc) (hc46 mAr) (hc47 mTc) (hc48 mFt) (hc49 mGo) dyn, 0, 0)) (h := (64, [(3, .int (nI k)), (0, .ref 25), (1, .int t), (2, .int v)], [], hq g c1 c2 c3 c4 c5 c6 c7 c8 c9 c10 c11 c12 c13 c14 c15 c16 c17 c18 c19 c20 c21 c22 c23 c24 (hc25 mTy mTm mMn mFn mRn mTn mVn mLr mTr mFl mFm mFp mSc mMp mEn) (hc26 mPa) (hc27 mTo) (hc28 mOt) (hc29 mNa) (hc30 mRe) (hc31 mMa) (hc32 mMy) (hc33 mPm) (hc34 mFy) (hc35 mFa) (hc36 mFr) (hc37 mFo) (hc38 mRt) (hc39 mRm) (hc40 mTt) (hc41 mTi) (hc42 f) (hc43 mVr) (hc44 mVf) (hc45 mVc) (hc46 mAr) (hc47 mTc) (hc48 mFt) (hc49 mGo) dyn, 0, 0)) rfl (fun h1 => ?_) (fun h1 => ?_)
    ·
      have h1 := qT_ge (cx := (nI k).toInt) (cy := 20) rfl (by decide) h1
      refine pm_go (g := (86, _, [.ref 25], _, 0, 0)) rfl ?_
      refine pm_go (g := (89, _, [.int mTn], _, 0, 0)) rfl ?_
      have ef : f = zP f0 mTn := funext (fun i => by rw [g3 i]; unfold zP; rw [show k = 20 by omega])
      rw [ef]
      exact pm_ret rfl k0
    have h1 := qF_ge (cx := (nI k).toInt) (cy := 20) rfl (by decide) h1
    refine pm_go (g := (65, _, [.ref 25], _, 0, 0)) rfl ?_
    refine pm_go (g := (68, _, [.ref 42], _, 0, 0)) rfl ?_
    refine pm_go (g := (70, _, [.int 20, .ref 42], _, 0, 0)) rfl ?_
    refine pm_go (g := (71, _, [.ref 25, .int 20, .ref 42], _, 0, 0)) rfl ?_
    refine pm_go (g := (74, _, [.int mTn, .int 20, .ref 42], _, 0, 0)) rfl ?_
    refine pm_go (g := (75, _, [.int (20 * mTn), .ref 42], _, 0, 0)) rfl ?_
    try have h2 : (20 * mTn).toInt = 20 * (mTn).toInt := iMul (x := 20) (y := (mTn).toInt) (by decide) rfl (by omega) (by omega)
    refine pm_go (g := (76, _, [.int (nI k), .int (20 * mTn), .ref 42], _, 0, 0)) rfl ?_
    refine pm_go (g := (77, _, [.int ((20 * mTn) + (nI k)), .ref 42], _, 0, 0)) rfl ?_
    try have h3 : ((20 * mTn) + (nI k)).toInt = (20 * mTn).toInt + (nI k).toInt := iAdd (x := (20 * mTn).toInt) (y := (nI k).toInt) rfl rfl (by omega) (by omega)
    refine pm_go (g := (78, _, [.int 0, .int ((20 * mTn) + (nI k)), .ref 42], _, 0, 0)) rfl ?_
    refine pm_sd (g := (79, _, [], hq g c1 c2 c3 c4 c5 c6 c7 c8 c9 c10 c11 c12 c13 c14 c15 c16 c17 c18 c19 c20 c21 c22 c23 c24 (hc25 mTy mTm mMn mFn mRn mTn mVn mLr mTr mFl mFm mFp mSc mMp mEn) (hc26 mPa) (hc27 mTo) (hc28 mOt) (hc29 mNa) (hc30 mRe) (hc31 mMa) (hc32 mMy) (hc33 mPm) (hc34 mFy) (hc35 mFa) (hc36 mFr) (hc37 mFo) (hc38 mRt) (hc39 mRm) (hc40 mTt) (hc41 mTi) (hc42 (upd f ((20 * mTn) + (nI k)).toNatClampNeg 0)) (hc43 mVr) (hc44 mVf) (hc45 mVc) (hc46 mAr) (hc47 mTc) (hc48 mFt) (hc49 mGo) dyn, 0, 0)) rfl (pm_inI (by omega) (by omega)) ?_
    refine pm_go (g := (82, [(3, .int ((nI k) + 1)), (0, .ref 25), (1, .int t), (2, .int v)], [], _, 0, 0)) rfl ?_
    refine pm_go (g := (58, _, [], _, 0, 0)) rfl ?_
    have hix : (20 * mTn + nI k).toNatClampNeg = 20 * mTn.toNatClampNeg + k := tN (by omega)
    rw [nI_1, hix]
    refine ih (k + 1) (upd f (20 * mTn.toNatClampNeg + k) 0) (by omega) (by omega) (fun i => ?_) k0
    unfold upd
    by_cases e9 : i = 20 * mTn.toNatClampNeg + k
    · rw [if_pos e9, if_pos (by omega)]
    · rw [if_neg e9, g3 i]
      by_cases e8 : 20 * mTn.toNatClampNeg ≤ i ∧ i < 20 * mTn.toNatClampNeg + k
      · rw [if_pos e8, if_pos (by omega)]
      · rw [if_neg e8, if_neg (by omega)]
set_option maxRecDepth 100000 in
set_option maxHeartbeats 4000000 in
theorem w_X12_made {g c1 c2 c3 c4 c5 c6 c7 c8 c9 c10 c11 c12 c13 c14 c15 c16 c17 c18 c19 c20 c21 c22 c23 c24 : pm_C} {dyn : pm_H} {mTy : Int32} {mPa : Nat → Int32} {mTo : Nat → Int32} {mTm : Int32} {mMn : Int32} {mOt : Nat → Int32} {mNa : Nat → Int32} {mRe : Nat → Int32} {mMa : Nat → Int32} {mMy : Nat → Int32} {mPm : Nat → Int32} {mFn : Int32} {mFy : Nat → Int32} {mFa : Nat → Int32} {mFr : Nat → Int32} {mRn : Int32} {mFo : Nat → Int32} {mRt : Nat → Int32} {mRm : Nat → Int32} {mTn : Int32} {mTt : Nat → Int32} {mTi : Nat → Int32} {mPl : Nat → Int32} {mVn : Int32} {mVr : Nat → Int32} {mVf : Nat → Int32} {mVc : Nat → Int32} {mAr : Nat → Int32} {mLr : Int32} {mTc : Nat → Int32} {mTr : Int32} {mFl : Int32} {mFt : Nat → Int32} {mFm : Int32} {mFp : Int32} {mSc : Int32} {mMp : Int32} {mEn : Int32} {mGo : Nat → Int32} {Q : pm_Q} (t : Int32) (v : Int32) (p0 : 0 ≤ mTn.toInt ∧ mTn.toInt ≤ 60) (k0 : mEn.toInt ≠ 0 → Q (some (.int 0)) (hq g c1 c2 c3 c4 c5 c6 c7 c8 c9 c10 c11 c12 c13 c14 c15 c16 c17 c18 c19 c20 c21 c22 c23 c24 (hc25 mTy mTm mMn mFn mRn mTn mVn mLr mTr mFl mFm mFp mSc mMp mEn) (hc26 mPa) (hc27 mTo) (hc28 mOt) (hc29 mNa) (hc30 mRe) (hc31 mMa) (hc32 mMy) (hc33 mPm) (hc34 mFy) (hc35 mFa) (hc36 mFr) (hc37 mFo) (hc38 mRt) (hc39 mRm) (hc40 mTt) (hc41 mTi) (hc42 mPl) (hc43 mVr) (hc44 mVf) (hc45 mVc) (hc46 mAr) (hc47 mTc) (hc48 mFt) (hc49 mGo) dyn)) (k1 : mEn.toInt = 0 ∧ mTn.toInt = 60 → Q (some (.int 0)) (hq g c1 c2 c3 c4 c5 c6 c7 c8 c9 c10 c11 c12 c13 c14 c15 c16 c17 c18 c19 c20 c21 c22 c23 c24 (hc25 mTy mTm mMn mFn mRn mTn mVn mLr mTr mFl mFm mFp mSc mMp (-2)) (hc26 mPa) (hc27 mTo) (hc28 mOt) (hc29 mNa) (hc30 mRe) (hc31 mMa) (hc32 mMy) (hc33 mPm) (hc34 mFy) (hc35 mFa) (hc36 mFr) (hc37 mFo) (hc38 mRt) (hc39 mRm) (hc40 mTt) (hc41 mTi) (hc42 mPl) (hc43 mVr) (hc44 mVf) (hc45 mVc) (hc46 mAr) (hc47 mTc) (hc48 mFt) (hc49 mGo) dyn)) (k2 : mEn.toInt = 0 ∧ mTn.toInt < 60 → Q (some (.int (mTn + 1))) (hq g c1 c2 c3 c4 c5 c6 c7 c8 c9 c10 c11 c12 c13 c14 c15 c16 c17 c18 c19 c20 c21 c22 c23 c24 (hc25 mTy mTm mMn mFn mRn (mTn + 1) mVn mLr mTr mFl mFm mFp mSc mMp mEn) (hc26 mPa) (hc27 mTo) (hc28 mOt) (hc29 mNa) (hc30 mRe) (hc31 mMa) (hc32 mMy) (hc33 mPm) (hc34 mFy) (hc35 mFa) (hc36 mFr) (hc37 mFo) (hc38 mRt) (hc39 mRm) (hc40 (upd mTt (mTn + 1).toNatClampNeg t)) (hc41 (upd mTi (mTn + 1).toNatClampNeg v)) (hc42 (zP mPl (mTn + 1))) (hc43 mVr) (hc44 mVf) (hc45 mVc) (hc46 mAr) (hc47 mTc) (hc48 mFt) (hc49 mGo) dyn)) : pm_WP 169 (0, [(0, .ref 25), (1, .int t), (2, .int v)], [], hq g c1 c2 c3 c4 c5 c6 c7 c8 c9 c10 c11 c12 c13 c14 c15 c16 c17 c18 c19 c20 c21 c22 c23 c24 (hc25 mTy mTm mMn mFn mRn mTn mVn mLr mTr mFl mFm mFp mSc mMp mEn) (hc26 mPa) (hc27 mTo) (hc28 mOt) (hc29 mNa) (hc30 mRe) (hc31 mMa) (hc32 mMy) (hc33 mPm) (hc34 mFy) (hc35 mFa) (hc36 mFr) (hc37 mFo) (hc38 mRt) (hc39 mRm) (hc40 mTt) (hc41 mTi) (hc42 mPl) (hc43 mVr) (hc44 mVf) (hc45 mVc) (hc46 mAr) (hc47 mTc) (hc48 mFt) (hc49 mGo) dyn, 0, 0) Q := by
  refine pm_go (g := (1, [(0, .ref 25), (1, .int t), (2, .int v)], [.ref 25], hq g c1 c2 c3 c4 c5 c6 c7 c8 c9 c10 c11 c12 c13 c14 c15 c16 c17 c18 c19 c20 c21 c22 c23 c24 (hc25 mTy mTm mMn mFn mRn mTn mVn mLr mTr mFl mFm mFp mSc mMp mEn) (hc26 mPa) (hc27 mTo) (hc28 mOt) (hc29 mNa) (hc30 mRe) (hc31 mMa) (hc32 mMy) (hc33 mPm) (hc34 mFy) (hc35 mFa) (hc36 mFr) (hc37 mFo) (hc38 mRt) (hc39 mRm) (hc40 mTt) (hc41 mTi) (hc42 mPl) (hc43 mVr) (hc44 mVf) (hc45 mVc) (hc46 mAr) (hc47 mTc) (hc48 mFt) (hc49 mGo) dyn, 0, 0)) rfl ?_
  refine pm_go (g := (4, _, [.int mEn], _, 0, 0)) rfl ?_
  refine pm_if2 (g := (9, [(0, .ref 25), (1, .int t), (2, .int v)], [], hq g c1 c2 c3 c4 c5 c6 c7 c8 c9 c10 c11 c12 c13 c14 c15 c16 c17 c18 c19 c20 c21 c22 c23 c24 (hc25 mTy mTm mMn mFn mRn mTn mVn mLr mTr mFl mFm mFp mSc mMp mEn) (hc26 mPa) (hc27 mTo) (hc28 mOt) (hc29 mNa) (hc30 mRe) (hc31 mMa) (hc32 mMy) (hc33 mPm) (hc34 mFy) (hc35 mFa) (hc36 mFr) (hc37 mFo) (hc38 mRt) (hc39 mRm) (hc40 mTt) (hc41 mTi) (hc42 mPl) (hc43 mVr) (hc44 mVf) (hc45 mVc) (hc46 mAr) (hc47 mTc) (hc48 mFt) (hc49 mGo) dyn, 0, 0)) (h := (7, [(0, .ref 25), (1, .int t), (2, .int v)], [], hq g c1 c2 c3 c4 c5 c6 c7 c8 c9 c10 c11 c12 c13 c14 c15 c16 c17 c18 c19 c20 c21 c22 c23 c24 (hc25 mTy mTm mMn mFn mRn mTn mVn mLr mTr mFl mFm mFp mSc mMp mEn) (hc26 mPa) (hc27 mTo) (hc28 mOt) (hc29 mNa) (hc30 mRe) (hc31 mMa) (hc32 mMy) (hc33 mPm) (hc34 mFy) (hc35 mFa) (hc36 mFr) (hc37 mFo) (hc38 mRt) (hc39 mRm) (hc40 mTt) (hc41 mTi) (hc42 mPl) (hc43 mVr) (hc44 mVf) (hc45 mVc) (hc46 mAr) (hc47 mTc) (hc48 mFt) (hc49 mGo) dyn, 0, 0)) rfl (fun h1 => ?_) (fun h1 => ?_)
  ·
    have h1 := qT_eq (cx := (mEn).toInt) (cy := 0) rfl (by decide) h1
    refine pm_go (g := (10, _, [.ref 25], _, 0, 0)) rfl ?_
    refine pm_go (g := (13, _, [.int mTn], _, 0, 0)) rfl ?_
    refine pm_go (g := (15, _, [.int 60, .int mTn], _, 0, 0)) rfl ?_
    refine pm_if2 (g := (26, [(0, .ref 25), (1, .int t), (2, .int v)], [], hq g c1 c2 c3 c4 c5 c6 c7 c8 c9 c10 c11 c12 c13 c14 c15 c16 c17 c18 c19 c20 c21 c22 c23 c24 (hc25 mTy mTm mMn mFn mRn mTn mVn mLr mTr mFl mFm mFp mSc mMp mEn) (hc26 mPa) (hc27 mTo) (hc28 mOt) (hc29 mNa) (hc30 mRe) (hc31 mMa) (hc32 mMy) (hc33 mPm) (hc34 mFy) (hc35 mFa) (hc36 mFr) (hc37 mFo) (hc38 mRt) (hc39 mRm) (hc40 mTt) (hc41 mTi) (hc42 mPl) (hc43 mVr) (hc44 mVf) (hc45 mVc) (hc46 mAr) (hc47 mTc) (hc48 mFt) (hc49 mGo) dyn, 0, 0)) (h := (18, [(0, .ref 25), (1, .int t), (2, .int v)], [], hq g c1 c2 c3 c4 c5 c6 c7 c8 c9 c10 c11 c12 c13 c14 c15 c16 c17 c18 c19 c20 c21 c22 c23 c24 (hc25 mTy mTm mMn mFn mRn mTn mVn mLr mTr mFl mFm mFp mSc mMp mEn) (hc26 mPa) (hc27 mTo) (hc28 mOt) (hc29 mNa) (hc30 mRe) (hc31 mMa) (hc32 mMy) (hc33 mPm) (hc34 mFy) (hc35 mFa) (hc36 mFr) (hc37 mFo) (hc38 mRt) (hc39 mRm) (hc40 mTt) (hc41 mTi) (hc42 mPl) (hc43 mVr) (hc44 mVf) (hc45 mVc) (hc46 mAr) (hc47 mTc) (hc48 mFt) (hc49 mGo) dyn, 0, 0)) rfl (fun h2 => ?_) (fun h2 => ?_)
    ·
      have h2 := qT_ne (cx := (mTn).toInt) (cy := 60) rfl (by decide) h2
      refine pm_go (g := (27, _, [.ref 25], _, 0, 0)) rfl ?_
      refine pm_go (g := (28, _, [.ref 25, .ref 25], _, 0, 0)) rfl ?_
      refine pm_go (g := (31, _, [.int mTn, .ref 25], _, 0, 0)) rfl ?_
      refine pm_go (g := (32, _, [.int 1, .int mTn, .ref 25], _, 0, 0)) rfl ?_
      refine pm_go (g := (33, _, [.int (mTn + 1), .ref 25], _, 0, 0)) rfl ?_
      try have h3 : (mTn + 1).toInt = (mTn).toInt + 1 := iAdd (x := (mTn).toInt) (y := 1) rfl (by decide) (by omega) (by omega)
      refine pm_go (g := (36, _, [], hq g c1 c2 c3 c4 c5 c6 c7 c8 c9 c10 c11 c12 c13 c14 c15 c16 c17 c18 c19 c20 c21 c22 c23 c24 (hc25 mTy mTm mMn mFn mRn (mTn + 1) mVn mLr mTr mFl mFm mFp mSc mMp mEn) (hc26 mPa) (hc27 mTo) (hc28 mOt) (hc29 mNa) (hc30 mRe) (hc31 mMa) (hc32 mMy) (hc33 mPm) (hc34 mFy) (hc35 mFa) (hc36 mFr) (hc37 mFo) (hc38 mRt) (hc39 mRm) (hc40 mTt) (hc41 mTi) (hc42 mPl) (hc43 mVr) (hc44 mVf) (hc45 mVc) (hc46 mAr) (hc47 mTc) (hc48 mFt) (hc49 mGo) dyn, 0, 0)) rfl ?_
      refine pm_go (g := (37, _, [.ref 25], _, 0, 0)) rfl ?_
      refine pm_go (g := (40, _, [.ref 40], _, 0, 0)) rfl ?_
      refine pm_go (g := (41, _, [.ref 25, .ref 40], _, 0, 0)) rfl ?_
      refine pm_go (g := (44, _, [.int (mTn + 1), .ref 40], _, 0, 0)) rfl ?_
      refine pm_go (g := (45, _, [.int t, .int (mTn + 1), .ref 40], _, 0, 0)) rfl ?_
      refine pm_sd (g := (46, _, [], hq g c1 c2 c3 c4 c5 c6 c7 c8 c9 c10 c11 c12 c13 c14 c15 c16 c17 c18 c19 c20 c21 c22 c23 c24 (hc25 mTy mTm mMn mFn mRn (mTn + 1) mVn mLr mTr mFl mFm mFp mSc mMp mEn) (hc26 mPa) (hc27 mTo) (hc28 mOt) (hc29 mNa) (hc30 mRe) (hc31 mMa) (hc32 mMy) (hc33 mPm) (hc34 mFy) (hc35 mFa) (hc36 mFr) (hc37 mFo) (hc38 mRt) (hc39 mRm) (hc40 (upd mTt (mTn + 1).toNatClampNeg t)) (hc41 mTi) (hc42 mPl) (hc43 mVr) (hc44 mVf) (hc45 mVc) (hc46 mAr) (hc47 mTc) (hc48 mFt) (hc49 mGo) dyn, 0, 0)) rfl (pm_inI (by omega) (by omega)) ?_
      refine pm_go (g := (47, _, [.ref 25], _, 0, 0)) rfl ?_
      refine pm_go (g := (50, _, [.ref 41], _, 0, 0)) rfl ?_
      refine pm_go (g := (51, _, [.ref 25, .ref 41], _, 0, 0)) rfl ?_
      refine pm_go (g := (54, _, [.int (mTn + 1), .ref 41], _, 0, 0)) rfl ?_
      refine pm_go (g := (55, _, [.int v, .int (mTn + 1), .ref 41], _, 0, 0)) rfl ?_
      refine pm_sd (g := (56, _, [], hq g c1 c2 c3 c4 c5 c6 c7 c8 c9 c10 c11 c12 c13 c14 c15 c16 c17 c18 c19 c20 c21 c22 c23 c24 (hc25 mTy mTm mMn mFn mRn (mTn + 1) mVn mLr mTr mFl mFm mFp mSc mMp mEn) (hc26 mPa) (hc27 mTo) (hc28 mOt) (hc29 mNa) (hc30 mRe) (hc31 mMa) (hc32 mMy) (hc33 mPm) (hc34 mFy) (hc35 mFa) (hc36 mFr) (hc37 mFo) (hc38 mRt) (hc39 mRm) (hc40 (upd mTt (mTn + 1).toNatClampNeg t)) (hc41 (upd mTi (mTn + 1).toNatClampNeg v)) (hc42 mPl) (hc43 mVr) (hc44 mVf) (hc45 mVc) (hc46 mAr) (hc47 mTc) (hc48 mFt) (hc49 mGo) dyn, 0, 0)) rfl (pm_inI (by omega) (by omega)) ?_
      refine pm_go (g := (57, _, [.int 0], _, 0, 0)) rfl ?_
      refine pm_go (g := (58, [(3, .int 0), (0, .ref 25), (1, .int t), (2, .int v)], [], _, 0, 0)) rfl ?_
      exact w_made_loop (mPl := mPl) t v mPl (by omega) 21 0 mPl (by omega) (by omega) (fun i => by rw [if_neg (by omega)]) (k2 (by omega))
    have h2 := qF_ne (cx := (mTn).toInt) (cy := 60) rfl (by decide) h2
    refine pm_go (g := (19, [(0, .ref 25), (1, .int t), (2, .int v)], [.ref 25], hq g c1 c2 c3 c4 c5 c6 c7 c8 c9 c10 c11 c12 c13 c14 c15 c16 c17 c18 c19 c20 c21 c22 c23 c24 (hc25 mTy mTm mMn mFn mRn mTn mVn mLr mTr mFl mFm mFp mSc mMp mEn) (hc26 mPa) (hc27 mTo) (hc28 mOt) (hc29 mNa) (hc30 mRe) (hc31 mMa) (hc32 mMy) (hc33 mPm) (hc34 mFy) (hc35 mFa) (hc36 mFr) (hc37 mFo) (hc38 mRt) (hc39 mRm) (hc40 mTt) (hc41 mTi) (hc42 mPl) (hc43 mVr) (hc44 mVf) (hc45 mVc) (hc46 mAr) (hc47 mTc) (hc48 mFt) (hc49 mGo) dyn, 0, 0)) rfl ?_
    refine pm_go (g := (21, _, [.int (-2), .ref 25], _, 0, 0)) rfl ?_
    refine pm_go (g := (24, _, [], hq g c1 c2 c3 c4 c5 c6 c7 c8 c9 c10 c11 c12 c13 c14 c15 c16 c17 c18 c19 c20 c21 c22 c23 c24 (hc25 mTy mTm mMn mFn mRn mTn mVn mLr mTr mFl mFm mFp mSc mMp (-2)) (hc26 mPa) (hc27 mTo) (hc28 mOt) (hc29 mNa) (hc30 mRe) (hc31 mMa) (hc32 mMy) (hc33 mPm) (hc34 mFy) (hc35 mFa) (hc36 mFr) (hc37 mFo) (hc38 mRt) (hc39 mRm) (hc40 mTt) (hc41 mTi) (hc42 mPl) (hc43 mVr) (hc44 mVf) (hc45 mVc) (hc46 mAr) (hc47 mTc) (hc48 mFt) (hc49 mGo) dyn, 0, 0)) rfl ?_
    refine pm_go (g := (25, _, [.int 0], _, 0, 0)) rfl ?_
    first | exact pm_ret rfl (k0 (by omega)) | exact pm_ret rfl (k1 (by omega)) | (exfalso; omega)
  have h1 := qF_eq (cx := (mEn).toInt) (cy := 0) rfl (by decide) h1
  refine pm_go (g := (8, _, [.int 0], hq g c1 c2 c3 c4 c5 c6 c7 c8 c9 c10 c11 c12 c13 c14 c15 c16 c17 c18 c19 c20 c21 c22 c23 c24 (hc25 mTy mTm mMn mFn mRn mTn mVn mLr mTr mFl mFm mFp mSc mMp mEn) (hc26 mPa) (hc27 mTo) (hc28 mOt) (hc29 mNa) (hc30 mRe) (hc31 mMa) (hc32 mMy) (hc33 mPm) (hc34 mFy) (hc35 mFa) (hc36 mFr) (hc37 mFo) (hc38 mRt) (hc39 mRm) (hc40 mTt) (hc41 mTi) (hc42 mPl) (hc43 mVr) (hc44 mVf) (hc45 mVc) (hc46 mAr) (hc47 mTc) (hc48 mFt) (hc49 mGo) dyn, 0, 0)) rfl ?_
  first | exact pm_ret rfl (k0 (by omega)) | exact pm_ret rfl (k1 (by omega)) | (exfalso; omega)
set_option maxRecDepth 100000 in
set_option maxHeartbeats 4000000 in
theorem w_X12_thing {g c1 c2 c3 c4 c5 c6 c7 c8 c9 c10 c11 c12 c13 c14 c15 c16 c17 c18 c19 c20 c21 c22 c23 c24 : pm_C} {dyn : pm_H} {mTy : Int32} {mPa : Nat → Int32} {mTo : Nat → Int32} {mTm : Int32} {mMn : Int32} {mOt : Nat → Int32} {mNa : Nat → Int32} {mRe : Nat → Int32} {mMa : Nat → Int32} {mMy : Nat → Int32} {mPm : Nat → Int32} {mFn : Int32} {mFy : Nat → Int32} {mFa : Nat → Int32} {mFr : Nat → Int32} {mRn : Int32} {mFo : Nat → Int32} {mRt : Nat → Int32} {mRm : Nat → Int32} {mTn : Int32} {mTt : Nat → Int32} {mTi : Nat → Int32} {mPl : Nat → Int32} {mVn : Int32} {mVr : Nat → Int32} {mVf : Nat → Int32} {mVc : Nat → Int32} {mAr : Nat → Int32} {mLr : Int32} {mTc : Nat → Int32} {mTr : Int32} {mFl : Int32} {mFt : Nat → Int32} {mFm : Int32} {mFp : Int32} {mSc : Int32} {mMp : Int32} {mEn : Int32} {mGo : Nat → Int32} {Q : pm_Q} (t : Int32) (p0 : 2 ≤ mTy.toInt ∧ mTy.toInt ≤ 10) (p1 : paD mPa) (p2 : myD mMy) (p3 : 0 ≤ mMn.toInt ∧ mMn.toInt ≤ 40) (p4 : 0 ≤ mTn.toInt ∧ mTn.toInt ≤ 60) (k0 : (t.toInt < 0 ∨ mTy.toInt ≤ t.toInt ∨ t.toInt = 1) → Q (some (.int (-1))) (hq g c1 c2 c3 c4 c5 c6 c7 c8 c9 c10 c11 c12 c13 c14 c15 c16 c17 c18 c19 c20 c21 c22 c23 c24 (hc25 mTy mTm mMn mFn mRn mTn mVn mLr mTr mFl mFm mFp mSc mMp mEn) (hc26 mPa) (hc27 mTo) (hc28 mOt) (hc29 mNa) (hc30 mRe) (hc31 mMa) (hc32 mMy) (hc33 mPm) (hc34 mFy) (hc35 mFa) (hc36 mFr) (hc37 mFo) (hc38 mRt) (hc39 mRm) (hc40 mTt) (hc41 mTi) (hc42 mPl) (hc43 mVr) (hc44 mVf) (hc45 mVc) (hc46 mAr) (hc47 mTc) (hc48 mFt) (hc49 mGo) dyn)) (k1 : (0 ≤ t.toInt ∧ t.toInt < mTy.toInt ∧ t.toInt ≠ 1) ∧ opL mPa mOt mNa mMy mPm mMa mMn t 0 → Q (some (.int (-3))) (hq g c1 c2 c3 c4 c5 c6 c7 c8 c9 c10 c11 c12 c13 c14 c15 c16 c17 c18 c19 c20 c21 c22 c23 c24 (hc25 mTy mTm mMn mFn mRn mTn mVn mLr mTr mFl mFm mFp mSc mMp mEn) (hc26 mPa) (hc27 mTo) (hc28 mOt) (hc29 mNa) (hc30 mRe) (hc31 mMa) (hc32 mMy) (hc33 mPm) (hc34 mFy) (hc35 mFa) (hc36 mFr) (hc37 mFo) (hc38 mRt) (hc39 mRm) (hc40 mTt) (hc41 mTi) (hc42 mPl) (hc43 mVr) (hc44 mVf) (hc45 mVc) (hc46 mAr) (hc47 mTc) (hc48 mFt) (hc49 mGo) dyn)) (k2 : ((0 ≤ t.toInt ∧ t.toInt < mTy.toInt ∧ t.toInt ≠ 1) ∧ ¬ opL mPa mOt mNa mMy mPm mMa mMn t 0) ∧ mTn.toInt = 60 → Q (some (.int (-2))) (hq g c1 c2 c3 c4 c5 c6 c7 c8 c9 c10 c11 c12 c13 c14 c15 c16 c17 c18 c19 c20 c21 c22 c23 c24 (hc25 mTy mTm mMn mFn mRn mTn mVn mLr mTr mFl mFm mFp mSc mMp (-2)) (hc26 mPa) (hc27 mTo) (hc28 mOt) (hc29 mNa) (hc30 mRe) (hc31 mMa) (hc32 mMy) (hc33 mPm) (hc34 mFy) (hc35 mFa) (hc36 mFr) (hc37 mFo) (hc38 mRt) (hc39 mRm) (hc40 mTt) (hc41 mTi) (hc42 mPl) (hc43 mVr) (hc44 mVf) (hc45 mVc) (hc46 mAr) (hc47 mTc) (hc48 mFt) (hc49 mGo) dyn)) (k3 : ((0 ≤ t.toInt ∧ t.toInt < mTy.toInt ∧ t.toInt ≠ 1) ∧ ¬ opL mPa mOt mNa mMy mPm mMa mMn t 0) ∧ mTn.toInt < 60 → Q (some (.int (mTn + 1))) (hq g c1 c2 c3 c4 c5 c6 c7 c8 c9 c10 c11 c12 c13 c14 c15 c16 c17 c18 c19 c20 c21 c22 c23 c24 (hc25 mTy mTm mMn mFn mRn (mTn + 1) mVn mLr mTr mFl mFm mFp mSc mMp 0) (hc26 mPa) (hc27 mTo) (hc28 mOt) (hc29 mNa) (hc30 mRe) (hc31 mMa) (hc32 mMy) (hc33 mPm) (hc34 mFy) (hc35 mFa) (hc36 mFr) (hc37 mFo) (hc38 mRt) (hc39 mRm) (hc40 (upd mTt (mTn + 1).toNatClampNeg t)) (hc41 (upd mTi (mTn + 1).toNatClampNeg 0)) (hc42 (zP mPl (mTn + 1))) (hc43 mVr) (hc44 mVf) (hc45 mVc) (hc46 mAr) (hc47 mTc) (hc48 mFt) (hc49 mGo) dyn)) : pm_WP 171 (0, [(0, .ref 25), (1, .int t)], [], hq g c1 c2 c3 c4 c5 c6 c7 c8 c9 c10 c11 c12 c13 c14 c15 c16 c17 c18 c19 c20 c21 c22 c23 c24 (hc25 mTy mTm mMn mFn mRn mTn mVn mLr mTr mFl mFm mFp mSc mMp mEn) (hc26 mPa) (hc27 mTo) (hc28 mOt) (hc29 mNa) (hc30 mRe) (hc31 mMa) (hc32 mMy) (hc33 mPm) (hc34 mFy) (hc35 mFa) (hc36 mFr) (hc37 mFo) (hc38 mRt) (hc39 mRm) (hc40 mTt) (hc41 mTi) (hc42 mPl) (hc43 mVr) (hc44 mVf) (hc45 mVc) (hc46 mAr) (hc47 mTc) (hc48 mFt) (hc49 mGo) dyn, 0, 0) Q := by
  refine pm_go (g := (1, [(0, .ref 25), (1, .int t)], [.ref 25], hq g c1 c2 c3 c4 c5 c6 c7 c8 c9 c10 c11 c12 c13 c14 c15 c16 c17 c18 c19 c20 c21 c22 c23 c24 (hc25 mTy mTm mMn mFn mRn mTn mVn mLr mTr mFl mFm mFp mSc mMp mEn) (hc26 mPa) (hc27 mTo) (hc28 mOt) (hc29 mNa) (hc30 mRe) (hc31 mMa) (hc32 mMy) (hc33 mPm) (hc34 mFy) (hc35 mFa) (hc36 mFr) (hc37 mFo) (hc38 mRt) (hc39 mRm) (hc40 mTt) (hc41 mTi) (hc42 mPl) (hc43 mVr) (hc44 mVf) (hc45 mVc) (hc46 mAr) (hc47 mTc) (hc48 mFt) (hc49 mGo) dyn, 0, 0)) rfl ?_
  refine pm_go (g := (2, _, [.int t, .ref 25], _, 0, 0)) rfl ?_
  refine pm_callD (z := 130) (as := [.ref 25, .int t]) (rest := []) rfl ?_
  refine w_X12_isOwn t (by omega) (fun h1 => ?_) (fun h2 => ?_)
  ·
    show pm_WP 171 (5, [(0, .ref 25), (1, .int t)], [.int 1], _, 0, 0) _
    refine pm_brT (g := (10, [(0, .ref 25), (1, .int t)], [], hq g c1 c2 c3 c4 c5 c6 c7 c8 c9 c10 c11 c12 c13 c14 c15 c16 c17 c18 c19 c20 c21 c22 c23 c24 (hc25 mTy mTm mMn mFn mRn mTn mVn mLr mTr mFl mFm mFp mSc mMp mEn) (hc26 mPa) (hc27 mTo) (hc28 mOt) (hc29 mNa) (hc30 mRe) (hc31 mMa) (hc32 mMy) (hc33 mPm) (hc34 mFy) (hc35 mFa) (hc36 mFr) (hc37 mFo) (hc38 mRt) (hc39 mRm) (hc40 mTt) (hc41 mTi) (hc42 mPl) (hc43 mVr) (hc44 mVf) (hc45 mVc) (hc46 mAr) (hc47 mTc) (hc48 mFt) (hc49 mGo) dyn, 0, 0)) rfl ?_
    refine pm_go (g := (11, _, [.ref 25], _, 0, 0)) rfl ?_
    refine pm_go (g := (12, _, [.int t, .ref 25], _, 0, 0)) rfl ?_
    refine pm_callD (z := 145) (as := [.ref 25, .int t]) (rest := []) rfl ?_
    refine w_X12_isOpen t (by assumption) (by assumption) (by omega) (fun h4 => ?_) (fun h5 => ?_)
    ·
      show pm_WP 171 (15, [(0, .ref 25), (1, .int t)], [.int 1], _, 0, 0) _
      refine pm_brF (h := (18, [(0, .ref 25), (1, .int t)], [], hq g c1 c2 c3 c4 c5 c6 c7 c8 c9 c10 c11 c12 c13 c14 c15 c16 c17 c18 c19 c20 c21 c22 c23 c24 (hc25 mTy mTm mMn mFn mRn mTn mVn mLr mTr mFl mFm mFp mSc mMp mEn) (hc26 mPa) (hc27 mTo) (hc28 mOt) (hc29 mNa) (hc30 mRe) (hc31 mMa) (hc32 mMy) (hc33 mPm) (hc34 mFy) (hc35 mFa) (hc36 mFr) (hc37 mFo) (hc38 mRt) (hc39 mRm) (hc40 mTt) (hc41 mTi) (hc42 mPl) (hc43 mVr) (hc44 mVf) (hc45 mVc) (hc46 mAr) (hc47 mTc) (hc48 mFt) (hc49 mGo) dyn, 0, 0)) rfl ?_
      refine pm_go (g := (20, _, [.int (-3)], _, 0, 0)) rfl ?_
      first | exact pm_ret rfl (k0 (by omega)) | exact pm_ret rfl (k1 ⟨by omega, by assumption⟩) | exact pm_ret rfl (k2 ⟨⟨by omega, by assumption⟩, by omega⟩) | exact pm_ret rfl (k3 ⟨⟨by omega, by assumption⟩, by omega⟩) | (exfalso; omega)
    show pm_WP 171 (15, [(0, .ref 25), (1, .int t)], [.int 0], hq g c1 c2 c3 c4 c5 c6 c7 c8 c9 c10 c11 c12 c13 c14 c15 c16 c17 c18 c19 c20 c21 c22 c23 c24 (hc25 mTy mTm mMn mFn mRn mTn mVn mLr mTr mFl mFm mFp mSc mMp mEn) (hc26 mPa) (hc27 mTo) (hc28 mOt) (hc29 mNa) (hc30 mRe) (hc31 mMa) (hc32 mMy) (hc33 mPm) (hc34 mFy) (hc35 mFa) (hc36 mFr) (hc37 mFo) (hc38 mRt) (hc39 mRm) (hc40 mTt) (hc41 mTi) (hc42 mPl) (hc43 mVr) (hc44 mVf) (hc45 mVc) (hc46 mAr) (hc47 mTc) (hc48 mFt) (hc49 mGo) dyn, 0, 0) _
    refine pm_brT (g := (21, [(0, .ref 25), (1, .int t)], [], hq g c1 c2 c3 c4 c5 c6 c7 c8 c9 c10 c11 c12 c13 c14 c15 c16 c17 c18 c19 c20 c21 c22 c23 c24 (hc25 mTy mTm mMn mFn mRn mTn mVn mLr mTr mFl mFm mFp mSc mMp mEn) (hc26 mPa) (hc27 mTo) (hc28 mOt) (hc29 mNa) (hc30 mRe) (hc31 mMa) (hc32 mMy) (hc33 mPm) (hc34 mFy) (hc35 mFa) (hc36 mFr) (hc37 mFo) (hc38 mRt) (hc39 mRm) (hc40 mTt) (hc41 mTi) (hc42 mPl) (hc43 mVr) (hc44 mVf) (hc45 mVc) (hc46 mAr) (hc47 mTc) (hc48 mFt) (hc49 mGo) dyn, 0, 0)) rfl ?_
    refine pm_go (g := (22, _, [.ref 25], _, 0, 0)) rfl ?_
    refine pm_go (g := (23, _, [.int 0, .ref 25], _, 0, 0)) rfl ?_
    refine pm_go (g := (26, _, [], hq g c1 c2 c3 c4 c5 c6 c7 c8 c9 c10 c11 c12 c13 c14 c15 c16 c17 c18 c19 c20 c21 c22 c23 c24 (hc25 mTy mTm mMn mFn mRn mTn mVn mLr mTr mFl mFm mFp mSc mMp 0) (hc26 mPa) (hc27 mTo) (hc28 mOt) (hc29 mNa) (hc30 mRe) (hc31 mMa) (hc32 mMy) (hc33 mPm) (hc34 mFy) (hc35 mFa) (hc36 mFr) (hc37 mFo) (hc38 mRt) (hc39 mRm) (hc40 mTt) (hc41 mTi) (hc42 mPl) (hc43 mVr) (hc44 mVf) (hc45 mVc) (hc46 mAr) (hc47 mTc) (hc48 mFt) (hc49 mGo) dyn, 0, 0)) rfl ?_
    refine pm_go (g := (27, _, [.ref 25], _, 0, 0)) rfl ?_
    refine pm_go (g := (28, _, [.int t, .ref 25], _, 0, 0)) rfl ?_
    refine pm_go (g := (29, _, [.int 0, .int t, .ref 25], _, 0, 0)) rfl ?_
    refine pm_callD (z := 169) (as := [.ref 25, .int t, .int 0]) (rest := []) rfl ?_
    have h7 : (0 : Int32).toInt = 0 := by decide
    have h8 : (0 : Int32).toInt = 0 := by decide
    refine w_X12_made t 0 (by omega) (fun h9 => ?_) (fun h10 => ?_) (fun h11 => ?_)
    ·
      show pm_WP 171 (32, [(0, .ref 25), (1, .int t)], [.int 0], _, 0, 0) _
      refine pm_go (g := (33, [(2, .int 0), (0, .ref 25), (1, .int t)], [], _, 0, 0)) rfl ?_
      refine pm_go (g := (34, _, [.ref 25], _, 0, 0)) rfl ?_
      refine pm_go (g := (37, _, [.int 0], _, 0, 0)) rfl ?_
      refine pm_brT (g := (47, [(2, .int 0), (0, .ref 25), (1, .int t)], [], hq g c1 c2 c3 c4 c5 c6 c7 c8 c9 c10 c11 c12 c13 c14 c15 c16 c17 c18 c19 c20 c21 c22 c23 c24 (hc25 mTy mTm mMn mFn mRn mTn mVn mLr mTr mFl mFm mFp mSc mMp 0) (hc26 mPa) (hc27 mTo) (hc28 mOt) (hc29 mNa) (hc30 mRe) (hc31 mMa) (hc32 mMy) (hc33 mPm) (hc34 mFy) (hc35 mFa) (hc36 mFr) (hc37 mFo) (hc38 mRt) (hc39 mRm) (hc40 mTt) (hc41 mTi) (hc42 mPl) (hc43 mVr) (hc44 mVf) (hc45 mVc) (hc46 mAr) (hc47 mTc) (hc48 mFt) (hc49 mGo) dyn, 0, 0)) rfl ?_
      refine pm_go (g := (48, _, [.int 0], _, 0, 0)) rfl ?_
      first | exact pm_ret rfl (k0 (by omega)) | exact pm_ret rfl (k1 ⟨by omega, by assumption⟩) | exact pm_ret rfl (k2 ⟨⟨by omega, by assumption⟩, by omega⟩) | exact pm_ret rfl (k3 ⟨⟨by omega, by assumption⟩, by omega⟩) | (exfalso; omega)
    ·
      show pm_WP 171 (32, [(0, .ref 25), (1, .int t)], [.int 0], hq g c1 c2 c3 c4 c5 c6 c7 c8 c9 c10 c11 c12 c13 c14 c15 c16 c17 c18 c19 c20 c21 c22 c23 c24 (hc25 mTy mTm mMn mFn mRn mTn mVn mLr mTr mFl mFm mFp mSc mMp (-2)) (hc26 mPa) (hc27 mTo) (hc28 mOt) (hc29 mNa) (hc30 mRe) (hc31 mMa) (hc32 mMy) (hc33 mPm) (hc34 mFy) (hc35 mFa) (hc36 mFr) (hc37 mFo) (hc38 mRt) (hc39 mRm) (hc40 mTt) (hc41 mTi) (hc42 mPl) (hc43 mVr) (hc44 mVf) (hc45 mVc) (hc46 mAr) (hc47 mTc) (hc48 mFt) (hc49 mGo) dyn, 0, 0) _
      refine pm_go (g := (33, [(2, .int 0), (0, .ref 25), (1, .int t)], [], _, 0, 0)) rfl ?_
      refine pm_go (g := (34, _, [.ref 25], _, 0, 0)) rfl ?_
      refine pm_go (g := (37, _, [.int (-2)], _, 0, 0)) rfl ?_
      refine pm_brF (h := (40, [(2, .int 0), (0, .ref 25), (1, .int t)], [], hq g c1 c2 c3 c4 c5 c6 c7 c8 c9 c10 c11 c12 c13 c14 c15 c16 c17 c18 c19 c20 c21 c22 c23 c24 (hc25 mTy mTm mMn mFn mRn mTn mVn mLr mTr mFl mFm mFp mSc mMp (-2)) (hc26 mPa) (hc27 mTo) (hc28 mOt) (hc29 mNa) (hc30 mRe) (hc31 mMa) (hc32 mMy) (hc33 mPm) (hc34 mFy) (hc35 mFa) (hc36 mFr) (hc37 mFo) (hc38 mRt) (hc39 mRm) (hc40 mTt) (hc41 mTi) (hc42 mPl) (hc43 mVr) (hc44 mVf) (hc45 mVc) (hc46 mAr) (hc47 mTc) (hc48 mFt) (hc49 mGo) dyn, 0, 0)) rfl ?_
      refine pm_go (g := (41, _, [.ref 25], _, 0, 0)) rfl ?_
      refine pm_go (g := (44, _, [.int (-2)], _, 0, 0)) rfl ?_
      refine pm_go (g := (48, _, [.int (-2)], _, 0, 0)) rfl ?_
      first | exact pm_ret rfl (k0 (by omega)) | exact pm_ret rfl (k1 ⟨by omega, by assumption⟩) | exact pm_ret rfl (k2 ⟨⟨by omega, by assumption⟩, by omega⟩) | exact pm_ret rfl (k3 ⟨⟨by omega, by assumption⟩, by omega⟩) | (exfalso; omega)
    show pm_WP 171 (32, [(0, .ref 25), (1, .int t)], [.int (mTn + 1)], hq g c1 c2 c3 c4 c5 c6 c7 c8 c9 c10 c11 c12 c13 c14 c15 c16 c17 c18 c19 c20 c21 c22 c23 c24 (hc25 mTy mTm mMn mFn mRn (mTn + 1) mVn mLr mTr mFl mFm mFp mSc mMp 0) (hc26 mPa) (hc27 mTo) (hc28 mOt) (hc29 mNa) (hc30 mRe) (hc31 mMa) (hc32 mMy) (hc33 mPm) (hc34 mFy) (hc35 mFa) (hc36 mFr) (hc37 mFo) (hc38 mRt) (hc39 mRm) (hc40 (upd mTt (mTn + 1).toNatClampNeg t)) (hc41 (upd mTi (mTn + 1).toNatClampNeg 0)) (hc42 (zP mPl (mTn + 1))) (hc43 mVr) (hc44 mVf) (hc45 mVc) (hc46 mAr) (hc47 mTc) (hc48 mFt) (hc49 mGo) dyn, 0, 0) _
    refine pm_go (g := (33, [(2, .int (mTn + 1)), (0, .ref 25), (1, .int t)], [], _, 0, 0)) rfl ?_
    refine pm_go (g := (34, _, [.ref 25], _, 0, 0)) rfl ?_
    refine pm_go (g := (37, _, [.int 0], _, 0, 0)) rfl ?_
    refine pm_brT (g := (47, [(2, .int (mTn + 1)), (0, .ref 25), (1, .int t)], [], hq g c1 c2 c3 c4 c5 c6 c7 c8 c9 c10 c11 c12 c13 c14 c15 c16 c17 c18 c19 c20 c21 c22 c23 c24 (hc25 mTy mTm mMn mFn mRn (mTn + 1) mVn mLr mTr mFl mFm mFp mSc mMp 0) (hc26 mPa) (hc27 mTo) (hc28 mOt) (hc29 mNa) (hc30 mRe) (hc31 mMa) (hc32 mMy) (hc33 mPm) (hc34 mFy) (hc35 mFa) (hc36 mFr) (hc37 mFo) (hc38 mRt) (hc39 mRm) (hc40 (upd mTt (mTn + 1).toNatClampNeg t)) (hc41 (upd mTi (mTn + 1).toNatClampNeg 0)) (hc42 (zP mPl (mTn + 1))) (hc43 mVr) (hc44 mVf) (hc45 mVc) (hc46 mAr) (hc47 mTc) (hc48 mFt) (hc49 mGo) dyn, 0, 0)) rfl ?_
    refine pm_go (g := (48, _, [.int (mTn + 1)], _, 0, 0)) rfl ?_
    first | exact pm_ret rfl (k0 (by omega)) | exact pm_ret rfl (k1 ⟨by omega, by assumption⟩) | exact pm_ret rfl (k2 ⟨⟨by omega, by assumption⟩, by omega⟩) | exact pm_ret rfl (k3 ⟨⟨by omega, by assumption⟩, by omega⟩) | (exfalso; omega)
  show pm_WP 171 (5, [(0, .ref 25), (1, .int t)], [.int 0], hq g c1 c2 c3 c4 c5 c6 c7 c8 c9 c10 c11 c12 c13 c14 c15 c16 c17 c18 c19 c20 c21 c22 c23 c24 (hc25 mTy mTm mMn mFn mRn mTn mVn mLr mTr mFl mFm mFp mSc mMp mEn) (hc26 mPa) (hc27 mTo) (hc28 mOt) (hc29 mNa) (hc30 mRe) (hc31 mMa) (hc32 mMy) (hc33 mPm) (hc34 mFy) (hc35 mFa) (hc36 mFr) (hc37 mFo) (hc38 mRt) (hc39 mRm) (hc40 mTt) (hc41 mTi) (hc42 mPl) (hc43 mVr) (hc44 mVf) (hc45 mVc) (hc46 mAr) (hc47 mTc) (hc48 mFt) (hc49 mGo) dyn, 0, 0) _
  refine pm_brF (h := (8, [(0, .ref 25), (1, .int t)], [], hq g c1 c2 c3 c4 c5 c6 c7 c8 c9 c10 c11 c12 c13 c14 c15 c16 c17 c18 c19 c20 c21 c22 c23 c24 (hc25 mTy mTm mMn mFn mRn mTn mVn mLr mTr mFl mFm mFp mSc mMp mEn) (hc26 mPa) (hc27 mTo) (hc28 mOt) (hc29 mNa) (hc30 mRe) (hc31 mMa) (hc32 mMy) (hc33 mPm) (hc34 mFy) (hc35 mFa) (hc36 mFr) (hc37 mFo) (hc38 mRt) (hc39 mRm) (hc40 mTt) (hc41 mTi) (hc42 mPl) (hc43 mVr) (hc44 mVf) (hc45 mVc) (hc46 mAr) (hc47 mTc) (hc48 mFt) (hc49 mGo) dyn, 0, 0)) rfl ?_
  refine pm_go (g := (9, _, [.int (-1)], _, 0, 0)) rfl ?_
  first | exact pm_ret rfl (k0 (by omega)) | exact pm_ret rfl (k1 ⟨by omega, by assumption⟩) | exact pm_ret rfl (k2 ⟨⟨by omega, by assumption⟩, by omega⟩) | exact pm_ret rfl (k3 ⟨⟨by omega, by assumption⟩, by omega⟩) | (exfalso; omega)
set_option maxRecDepth 100000 in
set_option maxHeartbeats 4000000 in
theorem w_X12_box {g c1 c2 c3 c4 c5 c6 c7 c8 c9 c10 c11 c12 c13 c14 c15 c16 c17 c18 c19 c20 c21 c22 c23 c24 : pm_C} {dyn : pm_H} {mTy : Int32} {mPa : Nat → Int32} {mTo : Nat → Int32} {mTm : Int32} {mMn : Int32} {mOt : Nat → Int32} {mNa : Nat → Int32} {mRe : Nat → Int32} {mMa : Nat → Int32} {mMy : Nat → Int32} {mPm : Nat → Int32} {mFn : Int32} {mFy : Nat → Int32} {mFa : Nat → Int32} {mFr : Nat → Int32} {mRn : Int32} {mFo : Nat → Int32} {mRt : Nat → Int32} {mRm : Nat → Int32} {mTn : Int32} {mTt : Nat → Int32} {mTi : Nat → Int32} {mPl : Nat → Int32} {mVn : Int32} {mVr : Nat → Int32} {mVf : Nat → Int32} {mVc : Nat → Int32} {mAr : Nat → Int32} {mLr : Int32} {mTc : Nat → Int32} {mTr : Int32} {mFl : Int32} {mFt : Nat → Int32} {mFm : Int32} {mFp : Int32} {mSc : Int32} {mMp : Int32} {mEn : Int32} {mGo : Nat → Int32} {Q : pm_Q} (v : Int32) (p0 : 0 ≤ mTn.toInt ∧ mTn.toInt ≤ 60) (k0 : mTn.toInt = 60 → Q (some (.int (-2))) (hq g c1 c2 c3 c4 c5 c6 c7 c8 c9 c10 c11 c12 c13 c14 c15 c16 c17 c18 c19 c20 c21 c22 c23 c24 (hc25 mTy mTm mMn mFn mRn mTn mVn mLr mTr mFl mFm mFp mSc mMp (-2)) (hc26 mPa) (hc27 mTo) (hc28 mOt) (hc29 mNa) (hc30 mRe) (hc31 mMa) (hc32 mMy) (hc33 mPm) (hc34 mFy) (hc35 mFa) (hc36 mFr) (hc37 mFo) (hc38 mRt) (hc39 mRm) (hc40 mTt) (hc41 mTi) (hc42 mPl) (hc43 mVr) (hc44 mVf) (hc45 mVc) (hc46 mAr) (hc47 mTc) (hc48 mFt) (hc49 mGo) dyn)) (k1 : mTn.toInt < 60 → Q (some (.int (mTn + 1))) (hq g c1 c2 c3 c4 c5 c6 c7 c8 c9 c10 c11 c12 c13 c14 c15 c16 c17 c18 c19 c20 c21 c22 c23 c24 (hc25 mTy mTm mMn mFn mRn (mTn + 1) mVn mLr mTr mFl mFm mFp mSc mMp 0) (hc26 mPa) (hc27 mTo) (hc28 mOt) (hc29 mNa) (hc30 mRe) (hc31 mMa) (hc32 mMy) (hc33 mPm) (hc34 mFy) (hc35 mFa) (hc36 mFr) (hc37 mFo) (hc38 mRt) (hc39 mRm) (hc40 (upd mTt (mTn + 1).toNatClampNeg 1)) (hc41 (upd mTi (mTn + 1).toNatClampNeg v)) (hc42 (zP mPl (mTn + 1))) (hc43 mVr) (hc44 mVf) (hc45 mVc) (hc46 mAr) (hc47 mTc) (hc48 mFt) (hc49 mGo) dyn)) : pm_WP 172 (0, [(0, .ref 25), (1, .int v)], [], hq g c1 c2 c3 c4 c5 c6 c7 c8 c9 c10 c11 c12 c13 c14 c15 c16 c17 c18 c19 c20 c21 c22 c23 c24 (hc25 mTy mTm mMn mFn mRn mTn mVn mLr mTr mFl mFm mFp mSc mMp mEn) (hc26 mPa) (hc27 mTo) (hc28 mOt) (hc29 mNa) (hc30 mRe) (hc31 mMa) (hc32 mMy) (hc33 mPm) (hc34 mFy) (hc35 mFa) (hc36 mFr) (hc37 mFo) (hc38 mRt) (hc39 mRm) (hc40 mTt) (hc41 mTi) (hc42 mPl) (hc43 mVr) (hc44 mVf) (hc45 mVc) (hc46 mAr) (hc47 mTc) (hc48 mFt) (hc49 mGo) dyn, 0, 0) Q := by
  refine pm_go (g := (1, [(0, .ref 25), (1, .int v)], [.ref 25], hq g c1 c2 c3 c4 c5 c6 c7 c8 c9 c10 c11 c12 c13 c14 c15 c16 c17 c18 c19 c20 c21 c22 c23 c24 (hc25 mTy mTm mMn mFn mRn mTn mVn mLr mTr mFl mFm mFp mSc mMp mEn) (hc26 mPa) (hc27 mTo) (hc28 mOt) (hc29 mNa) (hc30 mRe) (hc31 mMa) (hc32 mMy) (hc33 mPm) (hc34 mFy) (hc35 mFa) (hc36 mFr) (hc37 mFo) (hc38 mRt) (hc39 mRm) (hc40 mTt) (hc41 mTi) (hc42 mPl) (hc43 mVr) (hc44 mVf) (hc45 mVc) (hc46 mAr) (hc47 mTc) (hc48 mFt) (hc49 mGo) dyn, 0, 0)) rfl ?_
  refine pm_go (g := (2, _, [.int 0, .ref 25], _, 0, 0)) rfl ?_
  refine pm_go (g := (5, _, [], hq g c1 c2 c3 c4 c5 c6 c7 c8 c9 c10 c11 c12 c13 c14 c15 c16 c17 c18 c19 c20 c21 c22 c23 c24 (hc25 mTy mTm mMn mFn mRn mTn mVn mLr mTr mFl mFm mFp mSc mMp 0) (hc26 mPa) (hc27 mTo) (hc28 mOt) (hc29 mNa) (hc30 mRe) (hc31 mMa) (hc32 mMy) (hc33 mPm) (hc34 mFy) (hc35 mFa) (hc36 mFr) (hc37 mFo) (hc38 mRt) (hc39 mRm) (hc40 mTt) (hc41 mTi) (hc42 mPl) (hc43 mVr) (hc44 mVf) (hc45 mVc) (hc46 mAr) (hc47 mTc) (hc48 mFt) (hc49 mGo) dyn, 0, 0)) rfl ?_
  refine pm_go (g := (6, _, [.ref 25], _, 0, 0)) rfl ?_
  refine pm_go (g := (7, _, [.int 1, .ref 25], _, 0, 0)) rfl ?_
  refine pm_go (g := (8, _, [.int v, .int 1, .ref 25], _, 0, 0)) rfl ?_
  refine pm_callD (z := 169) (as := [.ref 25, .int 1, .int v]) (rest := []) rfl ?_
  have h1 : (1 : Int32).toInt = 1 := by decide
  have h2 : (0 : Int32).toInt = 0 := by decide
  refine w_X12_made 1 v (by omega) (fun h3 => ?_) (fun h4 => ?_) (fun h5 => ?_)
  ·
    show pm_WP 172 (11, [(0, .ref 25), (1, .int v)], [.int 0], _, 0, 0) _
    refine pm_go (g := (12, [(2, .int 0), (0, .ref 25), (1, .int v)], [], _, 0, 0)) rfl ?_
    refine pm_go (g := (13, _, [.ref 25], _, 0, 0)) rfl ?_
    refine pm_go (g := (16, _, [.int 0], _, 0, 0)) rfl ?_
    refine pm_brT (g := (26, [(2, .int 0), (0, .ref 25), (1, .int v)], [], hq g c1 c2 c3 c4 c5 c6 c7 c8 c9 c10 c11 c12 c13 c14 c15 c16 c17 c18 c19 c20 c21 c22 c23 c24 (hc25 mTy mTm mMn mFn mRn mTn mVn mLr mTr mFl mFm mFp mSc mMp 0) (hc26 mPa) (hc27 mTo) (hc28 mOt) (hc29 mNa) (hc30 mRe) (hc31 mMa) (hc32 mMy) (hc33 mPm) (hc34 mFy) (hc35 mFa) (hc36 mFr) (hc37 mFo) (hc38 mRt) (hc39 mRm) (hc40 mTt) (hc41 mTi) (hc42 mPl) (hc43 mVr) (hc44 mVf) (hc45 mVc) (hc46 mAr) (hc47 mTc) (hc48 mFt) (hc49 mGo) dyn, 0, 0)) rfl ?_
    refine pm_go (g := (27, _, [.int 0], _, 0, 0)) rfl ?_
    first | exact pm_ret rfl (k0 (by omega)) | exact pm_ret rfl (k1 (by omega)) | (exfalso; omega)
  ·
    show pm_WP 172 (11, [(0, .ref 25), (1, .int v)], [.int 0], hq g c1 c2 c3 c4 c5 c6 c7 c8 c9 c10 c11 c12 c13 c14 c15 c16 c17 c18 c19 c20 c21 c22 c23 c24 (hc25 mTy mTm mMn mFn mRn mTn mVn mLr mTr mFl mFm mFp mSc mMp (-2)) (hc26 mPa) (hc27 mTo) (hc28 mOt) (hc29 mNa) (hc30 mRe) (hc31 mMa) (hc32 mMy) (hc33 mPm) (hc34 mFy) (hc35 mFa) (hc36 mFr) (hc37 mFo) (hc38 mRt) (hc39 mRm) (hc40 mTt) (hc41 mTi) (hc42 mPl) (hc43 mVr) (hc44 mVf) (hc45 mVc) (hc46 mAr) (hc47 mTc) (hc48 mFt) (hc49 mGo) dyn, 0, 0) _
    refine pm_go (g := (12, [(2, .int 0), (0, .ref 25), (1, .int v)], [], _, 0, 0)) rfl ?_
    refine pm_go (g := (13, _, [.ref 25], _, 0, 0)) rfl ?_
    refine pm_go (g := (16, _, [.int (-2)], _, 0, 0)) rfl ?_
    refine pm_brF (h := (19, [(2, .int 0), (0, .ref 25), (1, .int v)], [], hq g c1 c2 c3 c4 c5 c6 c7 c8 c9 c10 c11 c12 c13 c14 c15 c16 c17 c18 c19 c20 c21 c22 c23 c24 (hc25 mTy mTm mMn mFn mRn mTn mVn mLr mTr mFl mFm mFp mSc mMp (-2)) (hc26 mPa) (hc27 mTo) (hc28 mOt) (hc29 mNa) (hc30 mRe) (hc31 mMa) (hc32 mMy) (hc33 mPm) (hc34 mFy) (hc35 mFa) (hc36 mFr) (hc37 mFo) (hc38 mRt) (hc39 mRm) (hc40 mTt) (hc41 mTi) (hc42 mPl) (hc43 mVr) (hc44 mVf) (hc45 mVc) (hc46 mAr) (hc47 mTc) (hc48 mFt) (hc49 mGo) dyn, 0, 0)) rfl ?_
    refine pm_go (g := (20, _, [.ref 25], _, 0, 0)) rfl ?_
    refine pm_go (g := (23, _, [.int (-2)], _, 0, 0)) rfl ?_
    refine pm_go (g := (27, _, [.int (-2)], _, 0, 0)) rfl ?_
    first | exact pm_ret rfl (k0 (by omega)) | exact pm_ret rfl (k1 (by omega)) | (exfalso; omega)
  show pm_WP 172 (11, [(0, .ref 25), (1, .int v)], [.int (mTn + 1)], hq g c1 c2 c3 c4 c5 c6 c7 c8 c9 c10 c11 c12 c13 c14 c15 c16 c17 c18 c19 c20 c21 c22 c23 c24 (hc25 mTy mTm mMn mFn mRn (mTn + 1) mVn mLr mTr mFl mFm mFp mSc mMp 0) (hc26 mPa) (hc27 mTo) (hc28 mOt) (hc29 mNa) (hc30 mRe) (hc31 mMa) (hc32 mMy) (hc33 mPm) (hc34 mFy) (hc35 mFa) (hc36 mFr) (hc37 mFo) (hc38 mRt) (hc39 mRm) (hc40 (upd mTt (mTn + 1).toNatClampNeg 1)) (hc41 (upd mTi (mTn + 1).toNatClampNeg v)) (hc42 (zP mPl (mTn + 1))) (hc43 mVr) (hc44 mVf) (hc45 mVc) (hc46 mAr) (hc47 mTc) (hc48 mFt) (hc49 mGo) dyn, 0, 0) _
  refine pm_go (g := (12, [(2, .int (mTn + 1)), (0, .ref 25), (1, .int v)], [], _, 0, 0)) rfl ?_
  refine pm_go (g := (13, _, [.ref 25], _, 0, 0)) rfl ?_
  refine pm_go (g := (16, _, [.int 0], _, 0, 0)) rfl ?_
  refine pm_brT (g := (26, [(2, .int (mTn + 1)), (0, .ref 25), (1, .int v)], [], hq g c1 c2 c3 c4 c5 c6 c7 c8 c9 c10 c11 c12 c13 c14 c15 c16 c17 c18 c19 c20 c21 c22 c23 c24 (hc25 mTy mTm mMn mFn mRn (mTn + 1) mVn mLr mTr mFl mFm mFp mSc mMp 0) (hc26 mPa) (hc27 mTo) (hc28 mOt) (hc29 mNa) (hc30 mRe) (hc31 mMa) (hc32 mMy) (hc33 mPm) (hc34 mFy) (hc35 mFa) (hc36 mFr) (hc37 mFo) (hc38 mRt) (hc39 mRm) (hc40 (upd mTt (mTn + 1).toNatClampNeg 1)) (hc41 (upd mTi (mTn + 1).toNatClampNeg v)) (hc42 (zP mPl (mTn + 1))) (hc43 mVr) (hc44 mVf) (hc45 mVc) (hc46 mAr) (hc47 mTc) (hc48 mFt) (hc49 mGo) dyn, 0, 0)) rfl ?_
  refine pm_go (g := (27, _, [.int (mTn + 1)], _, 0, 0)) rfl ?_
  first | exact pm_ret rfl (k0 (by omega)) | exact pm_ret rfl (k1 (by omega)) | (exfalso; omega)
set_option maxRecDepth 100000 in
set_option maxHeartbeats 4000000 in
theorem w_X12_place {g c1 c2 c3 c4 c5 c6 c7 c8 c9 c10 c11 c12 c13 c14 c15 c16 c17 c18 c19 c20 c21 c22 c23 c24 : pm_C} {dyn : pm_H} {mTy : Int32} {mPa : Nat → Int32} {mTo : Nat → Int32} {mTm : Int32} {mMn : Int32} {mOt : Nat → Int32} {mNa : Nat → Int32} {mRe : Nat → Int32} {mMa : Nat → Int32} {mMy : Nat → Int32} {mPm : Nat → Int32} {mFn : Int32} {mFy : Nat → Int32} {mFa : Nat → Int32} {mFr : Nat → Int32} {mRn : Int32} {mFo : Nat → Int32} {mRt : Nat → Int32} {mRm : Nat → Int32} {mTn : Int32} {mTt : Nat → Int32} {mTi : Nat → Int32} {mPl : Nat → Int32} {mVn : Int32} {mVr : Nat → Int32} {mVf : Nat → Int32} {mVc : Nat → Int32} {mAr : Nat → Int32} {mLr : Int32} {mTc : Nat → Int32} {mTr : Int32} {mFl : Int32} {mFt : Nat → Int32} {mFm : Int32} {mFp : Int32} {mSc : Int32} {mMp : Int32} {mEn : Int32} {mGo : Nat → Int32} {Q : pm_Q} (r : Int32) (i : Int32) (p0 : 0 ≤ mTn.toInt ∧ mTn.toInt ≤ 60) (p1 : (1 ≤ r.toInt ∧ r.toInt ≤ mTn.toInt ∧ 20 ≤ (mTt r.toNatClampNeg).toInt) → (0 ≤ (mTi r.toNatClampNeg).toInt ∧ (mTi r.toNatClampNeg).toInt ≤ 20)) (k0 : ((1 ≤ r.toInt ∧ r.toInt ≤ mTn.toInt) ∧ 20 ≤ (mTt r.toNatClampNeg).toInt ∧ 0 ≤ i.toInt ∧ i.toInt < (mTi r.toNatClampNeg).toInt) → Q (some (.int (mPl (20 * r + i).toNatClampNeg))) (hq g c1 c2 c3 c4 c5 c6 c7 c8 c9 c10 c11 c12 c13 c14 c15 c16 c17 c18 c19 c20 c21 c22 c23 c24 (hc25 mTy mTm mMn mFn mRn mTn mVn mLr mTr mFl mFm mFp mSc mMp mEn) (hc26 mPa) (hc27 mTo) (hc28 mOt) (hc29 mNa) (hc30 mRe) (hc31 mMa) (hc32 mMy) (hc33 mPm) (hc34 mFy) (hc35 mFa) (hc36 mFr) (hc37 mFo) (hc38 mRt) (hc39 mRm) (hc40 mTt) (hc41 mTi) (hc42 mPl) (hc43 mVr) (hc44 mVf) (hc45 mVc) (hc46 mAr) (hc47 mTc) (hc48 mFt) (hc49 mGo) dyn)) (k1 : ¬ ((1 ≤ r.toInt ∧ r.toInt ≤ mTn.toInt) ∧ 20 ≤ (mTt r.toNatClampNeg).toInt ∧ 0 ≤ i.toInt ∧ i.toInt < (mTi r.toNatClampNeg).toInt) → Q (some (.int (-1))) (hq g c1 c2 c3 c4 c5 c6 c7 c8 c9 c10 c11 c12 c13 c14 c15 c16 c17 c18 c19 c20 c21 c22 c23 c24 (hc25 mTy mTm mMn mFn mRn mTn mVn mLr mTr mFl mFm mFp mSc mMp mEn) (hc26 mPa) (hc27 mTo) (hc28 mOt) (hc29 mNa) (hc30 mRe) (hc31 mMa) (hc32 mMy) (hc33 mPm) (hc34 mFy) (hc35 mFa) (hc36 mFr) (hc37 mFo) (hc38 mRt) (hc39 mRm) (hc40 mTt) (hc41 mTi) (hc42 mPl) (hc43 mVr) (hc44 mVf) (hc45 mVc) (hc46 mAr) (hc47 mTc) (hc48 mFt) (hc49 mGo) dyn)) : pm_WP 174 (0, [(0, .ref 25), (1, .int r), (2, .int i)], [], hq g c1 c2 c3 c4 c5 c6 c7 c8 c9 c10 c11 c12 c13 c14 c15 c16 c17 c18 c19 c20 c21 c22 c23 c24 (hc25 mTy mTm mMn mFn mRn mTn mVn mLr mTr mFl mFm mFp mSc mMp mEn) (hc26 mPa) (hc27 mTo) (hc28 mOt) (hc29 mNa) (hc30 mRe) (hc31 mMa) (hc32 mMy) (hc33 mPm) (hc34 mFy) (hc35 mFa) (hc36 mFr) (hc37 mFo) (hc38 mRt) (hc39 mRm) (hc40 mTt) (hc41 mTi) (hc42 mPl) (hc43 mVr) (hc44 mVf) (hc45 mVc) (hc46 mAr) (hc47 mTc) (hc48 mFt) (hc49 mGo) dyn, 0, 0) Q := by
  refine pm_go (g := (1, [(0, .ref 25), (1, .int r), (2, .int i)], [.ref 25], hq g c1 c2 c3 c4 c5 c6 c7 c8 c9 c10 c11 c12 c13 c14 c15 c16 c17 c18 c19 c20 c21 c22 c23 c24 (hc25 mTy mTm mMn mFn mRn mTn mVn mLr mTr mFl mFm mFp mSc mMp mEn) (hc26 mPa) (hc27 mTo) (hc28 mOt) (hc29 mNa) (hc30 mRe) (hc31 mMa) (hc32 mMy) (hc33 mPm) (hc34 mFy) (hc35 mFa) (hc36 mFr) (hc37 mFo) (hc38 mRt) (hc39 mRm) (hc40 mTt) (hc41 mTi) (hc42 mPl) (hc43 mVr) (hc44 mVf) (hc45 mVc) (hc46 mAr) (hc47 mTc) (hc48 mFt) (hc49 mGo) dyn, 0, 0)) rfl ?_
  refine pm_go (g := (2, _, [.int r, .ref 25], _, 0, 0)) rfl ?_
  refine pm_callD (z := 170) (as := [.ref 25, .int r]) (rest := []) rfl ?_
  refine w_X12_isThing r (fun h1 => ?_) (fun h2 => ?_)
  ·
    show pm_WP 174 (5, [(0, .ref 25), (1, .int r), (2, .int i)], [.int 1], _, 0, 0) _
    refine pm_brF (h := (8, [(0, .ref 25), (1, .int r), (2, .int i)], [], hq g c1 c2 c3 c4 c5 c6 c7 c8 c9 c10 c11 c12 c13 c14 c15 c16 c17 c18 c19 c20 c21 c22 c23 c24 (hc25 mTy mTm mMn mFn mRn mTn mVn mLr mTr mFl mFm mFp mSc mMp mEn) (hc26 mPa) (hc27 mTo) (hc28 mOt) (hc29 mNa) (hc30 mRe) (hc31 mMa) (hc32 mMy) (hc33 mPm) (hc34 mFy) (hc35 mFa) (hc36 mFr) (hc37 mFo) (hc38 mRt) (hc39 mRm) (hc40 mTt) (hc41 mTi) (hc42 mPl) (hc43 mVr) (hc44 mVf) (hc45 mVc) (hc46 mAr) (hc47 mTc) (hc48 mFt) (hc49 mGo) dyn, 0, 0)) rfl ?_
    refine pm_go (g := (9, _, [.ref 25], _, 0, 0)) rfl ?_
    refine pm_go (g := (12, _, [.ref 40], _, 0, 0)) rfl ?_
    refine pm_go (g := (13, _, [.int r, .ref 40], _, 0, 0)) rfl ?_
    refine pm_sd (g := (14, _, [.int (mTt (r).toNatClampNeg)], _, 0, 0)) rfl (pm_inI (by omega) (by omega)) ?_
    refine pm_go (g := (16, _, [.int 20, .int (mTt (r).toNatClampNeg)], _, 0, 0)) rfl ?_
    refine pm_if2 (g := (49, [(0, .ref 25), (1, .int r), (2, .int i)], [], hq g c1 c2 c3 c4 c5 c6 c7 c8 c9 c10 c11 c12 c13 c14 c15 c16 c17 c18 c19 c20 c21 c22 c23 c24 (hc25 mTy mTm mMn mFn mRn mTn mVn mLr mTr mFl mFm mFp mSc mMp mEn) (hc26 mPa) (hc27 mTo) (hc28 mOt) (hc29 mNa) (hc30 mRe) (hc31 mMa) (hc32 mMy) (hc33 mPm) (hc34 mFy) (hc35 mFa) (hc36 mFr) (hc37 mFo) (hc38 mRt) (hc39 mRm) (hc40 mTt) (hc41 mTi) (hc42 mPl) (hc43 mVr) (hc44 mVf) (hc45 mVc) (hc46 mAr) (hc47 mTc) (hc48 mFt) (hc49 mGo) dyn, 0, 0)) (h := (19, [(0, .ref 25), (1, .int r), (2, .int i)], [], hq g c1 c2 c3 c4 c5 c6 c7 c8 c9 c10 c11 c12 c13 c14 c15 c16 c17 c18 c19 c20 c21 c22 c23 c24 (hc25 mTy mTm mMn mFn mRn mTn mVn mLr mTr mFl mFm mFp mSc mMp mEn) (hc26 mPa) (hc27 mTo) (hc28 mOt) (hc29 mNa) (hc30 mRe) (hc31 mMa) (hc32 mMy) (hc33 mPm) (hc34 mFy) (hc35 mFa) (hc36 mFr) (hc37 mFo) (hc38 mRt) (hc39 mRm) (hc40 mTt) (hc41 mTi) (hc42 mPl) (hc43 mVr) (hc44 mVf) (hc45 mVc) (hc46 mAr) (hc47 mTc) (hc48 mFt) (hc49 mGo) dyn, 0, 0)) rfl (fun h4 => ?_) (fun h4 => ?_)
    ·
      have h4 := qT_lt (cx := (mTt (r).toNatClampNeg).toInt) (cy := 20) rfl (by decide) h4
      refine pm_go (g := (50, _, [.int (-1)], _, 0, 0)) rfl ?_
      first | exact pm_ret rfl (k0 (by omega)) | exact pm_ret rfl (k1 (by omega)) | (exfalso; omega)
    have h4 := qF_lt (cx := (mTt (r).toNatClampNeg).toInt) (cy := 20) rfl (by decide) h4
    refine pm_go (g := (20, _, [.int i], _, 0, 0)) rfl ?_
    refine pm_go (g := (21, _, [.int 0, .int i], _, 0, 0)) rfl ?_
    refine pm_go (g := (22, _, [.ref 25, .int 0, .int i], _, 0, 0)) rfl ?_
    refine pm_go (g := (25, _, [.ref 41, .int 0, .int i], _, 0, 0)) rfl ?_
    refine pm_go (g := (26, _, [.int r, .ref 41, .int 0, .int i], _, 0, 0)) rfl ?_
    refine pm_sd (g := (27, _, [.int (mTi (r).toNatClampNeg), .int 0, .int i], _, 0, 0)) rfl (pm_inI (by omega) (by omega)) ?_
    refine pm_go (g := (28, _, [.int 1, .int (mTi (r).toNatClampNeg), .int 0, .int i], _, 0, 0)) rfl ?_
    refine pm_go (g := (29, _, [.int ((mTi (r).toNatClampNeg) - 1), .int 0, .int i], _, 0, 0)) rfl ?_
    try have h5 : ((mTi (r).toNatClampNeg) - 1).toInt = (mTi (r).toNatClampNeg).toInt - 1 := iSub (x := (mTi (r).toNatClampNeg).toInt) (y := 1) rfl (by decide) (by omega) (by omega)
    refine pm_callD (z := 128) (as := [.int i, .int 0, .int ((mTi (r).toNatClampNeg) - 1)]) (rest := []) rfl ?_
    have h6 : (0 : Int32).toInt = 0 := by decide
    refine w_X12_isIn i 0 ((mTi (r).toNatClampNeg) - 1) (fun h7 => ?_) (fun h8 => ?_)
    ·
      show pm_WP 174 (32, [(0, .ref 25), (1, .int r), (2, .int i)], [.int 1], _, 0, 0) _
      refine pm_brF (h := (35, [(0, .ref 25), (1, .int r), (2, .int i)], [], hq g c1 c2 c3 c4 c5 c6 c7 c8 c9 c10 c11 c12 c13 c14 c15 c16 c17 c18 c19 c20 c21 c22 c23 c24 (hc25 mTy mTm mMn mFn mRn mTn mVn mLr mTr mFl mFm mFp mSc mMp mEn) (hc26 mPa) (hc27 mTo) (hc28 mOt) (hc29 mNa) (hc30 mRe) (hc31 mMa) (hc32 mMy) (hc33 mPm) (hc34 mFy) (hc35 mFa) (hc36 mFr) (hc37 mFo) (hc38 mRt) (hc39 mRm) (hc40 mTt) (hc41 mTi) (hc42 mPl) (hc43 mVr) (hc44 mVf) (hc45 mVc) (hc46 mAr) (hc47 mTc) (hc48 mFt) (hc49 mGo) dyn, 0, 0)) rfl ?_
      refine pm_go (g := (36, _, [.ref 25], _, 0, 0)) rfl ?_
      refine pm_go (g := (39, _, [.ref 42], _, 0, 0)) rfl ?_
      refine pm_go (g := (41, _, [.int 20, .ref 42], _, 0, 0)) rfl ?_
      refine pm_go (g := (42, _, [.int r, .int 20, .ref 42], _, 0, 0)) rfl ?_
      refine pm_go (g := (43, _, [.int (20 * r), .ref 42], _, 0, 0)) rfl ?_
      try have h10 : (20 * r).toInt = 20 * (r).toInt := iMul (x := 20) (y := (r).toInt) (by decide) rfl (by omega) (by omega)
      refine pm_go (g := (44, _, [.int i, .int (20 * r), .ref 42], _, 0, 0)) rfl ?_
      refine pm_go (g := (45, _, [.int ((20 * r) + i), .ref 42], _, 0, 0)) rfl ?_
      try have h11 : ((20 * r) + i).toInt = (20 * r).toInt + (i).toInt := iAdd (x := (20 * r).toInt) (y := (i).toInt) rfl rfl (by omega) (by omega)
      refine pm_sd (g := (46, _, [.int (mPl ((20 * r) + i).toNatClampNeg)], _, 0, 0)) rfl (pm_inI (by omega) (by omega)) ?_
      refine pm_go (g := (50, _, [.int (mPl ((20 * r) + i).toNatClampNeg)], _, 0, 0)) rfl ?_
      first | exact pm_ret rfl (k0 (by omega)) | exact pm_ret rfl (k1 (by omega)) | (exfalso; omega)
    show pm_WP 174 (32, [(0, .ref 25), (1, .int r), (2, .int i)], [.int 0], hq g c1 c2 c3 c4 c5 c6 c7 c8 c9 c10 c11 c12 c13 c14 c15 c16 c17 c18 c19 c20 c21 c22 c23 c24 (hc25 mTy mTm mMn mFn mRn mTn mVn mLr mTr mFl mFm mFp mSc mMp mEn) (hc26 mPa) (hc27 mTo) (hc28 mOt) (hc29 mNa) (hc30 mRe) (hc31 mMa) (hc32 mMy) (hc33 mPm) (hc34 mFy) (hc35 mFa) (hc36 mFr) (hc37 mFo) (hc38 mRt) (hc39 mRm) (hc40 mTt) (hc41 mTi) (hc42 mPl) (hc43 mVr) (hc44 mVf) (hc45 mVc) (hc46 mAr) (hc47 mTc) (hc48 mFt) (hc49 mGo) dyn, 0, 0) _
    refine pm_brT (g := (49, [(0, .ref 25), (1, .int r), (2, .int i)], [], hq g c1 c2 c3 c4 c5 c6 c7 c8 c9 c10 c11 c12 c13 c14 c15 c16 c17 c18 c19 c20 c21 c22 c23 c24 (hc25 mTy mTm mMn mFn mRn mTn mVn mLr mTr mFl mFm mFp mSc mMp mEn) (hc26 mPa) (hc27 mTo) (hc28 mOt) (hc29 mNa) (hc30 mRe) (hc31 mMa) (hc32 mMy) (hc33 mPm) (hc34 mFy) (hc35 mFa) (hc36 mFr) (hc37 mFo) (hc38 mRt) (hc39 mRm) (hc40 mTt) (hc41 mTi) (hc42 mPl) (hc43 mVr) (hc44 mVf) (hc45 mVc) (hc46 mAr) (hc47 mTc) (hc48 mFt) (hc49 mGo) dyn, 0, 0)) rfl ?_
    refine pm_go (g := (50, _, [.int (-1)], _, 0, 0)) rfl ?_
    first | exact pm_ret rfl (k0 (by omega)) | exact pm_ret rfl (k1 (by omega)) | (exfalso; omega)
  show pm_WP 174 (5, [(0, .ref 25), (1, .int r), (2, .int i)], [.int 0], hq g c1 c2 c3 c4 c5 c6 c7 c8 c9 c10 c11 c12 c13 c14 c15 c16 c17 c18 c19 c20 c21 c22 c23 c24 (hc25 mTy mTm mMn mFn mRn mTn mVn mLr mTr mFl mFm mFp mSc mMp mEn) (hc26 mPa) (hc27 mTo) (hc28 mOt) (hc29 mNa) (hc30 mRe) (hc31 mMa) (hc32 mMy) (hc33 mPm) (hc34 mFy) (hc35 mFa) (hc36 mFr) (hc37 mFo) (hc38 mRt) (hc39 mRm) (hc40 mTt) (hc41 mTi) (hc42 mPl) (hc43 mVr) (hc44 mVf) (hc45 mVc) (hc46 mAr) (hc47 mTc) (hc48 mFt) (hc49 mGo) dyn, 0, 0) _
  refine pm_brT (g := (49, [(0, .ref 25), (1, .int r), (2, .int i)], [], hq g c1 c2 c3 c4 c5 c6 c7 c8 c9 c10 c11 c12 c13 c14 c15 c16 c17 c18 c19 c20 c21 c22 c23 c24 (hc25 mTy mTm mMn mFn mRn mTn mVn mLr mTr mFl mFm mFp mSc mMp mEn) (hc26 mPa) (hc27 mTo) (hc28 mOt) (hc29 mNa) (hc30 mRe) (hc31 mMa) (hc32 mMy) (hc33 mPm) (hc34 mFy) (hc35 mFa) (hc36 mFr) (hc37 mFo) (hc38 mRt) (hc39 mRm) (hc40 mTt) (hc41 mTi) (hc42 mPl) (hc43 mVr) (hc44 mVf) (hc45 mVc) (hc46 mAr) (hc47 mTc) (hc48 mFt) (hc49 mGo) dyn, 0, 0)) rfl ?_
  refine pm_go (g := (50, _, [.int (-1)], _, 0, 0)) rfl ?_
  first | exact pm_ret rfl (k0 (by omega)) | exact pm_ret rfl (k1 (by omega)) | (exfalso; omega)
set_option maxRecDepth 100000 in
set_option maxHeartbeats 4000000 in
theorem w_X12_reference {g c1 c2 c3 c4 c5 c6 c7 c8 c9 c10 c11 c12 c13 c14 c15 c16 c17 c18 c19 c20 c21 c22 c23 c24 : pm_C} {dyn : pm_H} {mTy : Int32} {mPa : Nat → Int32} {mTo : Nat → Int32} {mTm : Int32} {mMn : Int32} {mOt : Nat → Int32} {mNa : Nat → Int32} {mRe : Nat → Int32} {mMa : Nat → Int32} {mMy : Nat → Int32} {mPm : Nat → Int32} {mFn : Int32} {mFy : Nat → Int32} {mFa : Nat → Int32} {mFr : Nat → Int32} {mRn : Int32} {mFo : Nat → Int32} {mRt : Nat → Int32} {mRm : Nat → Int32} {mTn : Int32} {mTt : Nat → Int32} {mTi : Nat → Int32} {mPl : Nat → Int32} {mVn : Int32} {mVr : Nat → Int32} {mVf : Nat → Int32} {mVc : Nat → Int32} {mAr : Nat → Int32} {mLr : Int32} {mTc : Nat → Int32} {mTr : Int32} {mFl : Int32} {mFt : Nat → Int32} {mFm : Int32} {mFp : Int32} {mSc : Int32} {mMp : Int32} {mEn : Int32} {mGo : Nat → Int32} {Q : pm_Q} (f : Int32) (t : Int32) (w : Int32) (p0 : 2 ≤ mTy.toInt ∧ mTy.toInt ≤ 10) (p1 : 0 ≤ mRn.toInt ∧ mRn.toInt ≤ 30) (k0 : ¬ ((0 ≤ f.toInt ∧ f.toInt ≤ 4) ∧ ((f.toInt < 2 ∧ (0 ≤ t.toInt ∧ t.toInt < mTy.toInt)) ∨ (f.toInt = 2 ∧ (0 ≤ t.toInt ∧ t.toInt < mTy.toInt) ∧ t.toInt ≠ 0) ∨ (f.toInt = 3 ∧ (0 ≤ t.toInt ∧ t.toInt < mTy.toInt ∧ t.toInt ≠ 1)) ∨ (f.toInt = 4 ∧ ((0 ≤ t.toInt ∧ t.toInt < mTy.toInt) ∨ t.toInt = 10))) ∧ (3 ≤ f.toInt ∨ (0 ≤ w.toInt ∧ w.toInt ≤ 5))) → Q (some (.int (-1))) (hq g c1 c2 c3 c4 c5 c6 c7 c8 c9 c10 c11 c12 c13 c14 c15 c16 c17 c18 c19 c20 c21 c22 c23 c24 (hc25 mTy mTm mMn mFn mRn mTn mVn mLr mTr mFl mFm mFp mSc mMp mEn) (hc26 mPa) (hc27 mTo) (hc28 mOt) (hc29 mNa) (hc30 mRe) (hc31 mMa) (hc32 mMy) (hc33 mPm) (hc34 mFy) (hc35 mFa) (hc36 mFr) (hc37 mFo) (hc38 mRt) (hc39 mRm) (hc40 mTt) (hc41 mTi) (hc42 mPl) (hc43 mVr) (hc44 mVf) (hc45 mVc) (hc46 mAr) (hc47 mTc) (hc48 mFt) (hc49 mGo) dyn)) (k1 : ((0 ≤ f.toInt ∧ f.toInt ≤ 4) ∧ ((f.toInt < 2 ∧ (0 ≤ t.toInt ∧ t.toInt < mTy.toInt)) ∨ (f.toInt = 2 ∧ (0 ≤ t.toInt ∧ t.toInt < mTy.toInt) ∧ t.toInt ≠ 0) ∨ (f.toInt = 3 ∧ (0 ≤ t.toInt ∧ t.toInt < mTy.toInt ∧ t.toInt ≠ 1)) ∨ (f.toInt = 4 ∧ ((0 ≤ t.toInt ∧ t.toInt < mTy.toInt) ∨ t.toInt = 10))) ∧ (3 ≤ f.toInt ∨ (0 ≤ w.toInt ∧ w.toInt ≤ 5))) ∧ mRn.toInt = 30 → Q (some (.int (-2))) (hq g c1 c2 c3 c4 c5 c6 c7 c8 c9 c10 c11 c12 c13 c14 c15 c16 c17 c18 c19 c20 c21 c22 c23 c24 (hc25 mTy mTm mMn mFn mRn mTn mVn mLr mTr mFl mFm mFp mSc mMp mEn) (hc26 mPa) (hc27 mTo) (hc28 mOt) (hc29 mNa) (hc30 mRe) (hc31 mMa) (hc32 mMy) (hc33 mPm) (hc34 mFy) (hc35 mFa) (hc36 mFr) (hc37 mFo) (hc38 mRt) (hc39 mRm) (hc40 mTt) (hc41 mTi) (hc42 mPl) (hc43 mVr) (hc44 mVf) (hc45 mVc) (hc46 mAr) (hc47 mTc) (hc48 mFt) (hc49 mGo) dyn)) (k2 : ((0 ≤ f.toInt ∧ f.toInt ≤ 4) ∧ ((f.toInt < 2 ∧ (0 ≤ t.toInt ∧ t.toInt < mTy.toInt)) ∨ (f.toInt = 2 ∧ (0 ≤ t.toInt ∧ t.toInt < mTy.toInt) ∧ t.toInt ≠ 0) ∨ (f.toInt = 3 ∧ (0 ≤ t.toInt ∧ t.toInt < mTy.toInt ∧ t.toInt ≠ 1)) ∨ (f.toInt = 4 ∧ ((0 ≤ t.toInt ∧ t.toInt < mTy.toInt) ∨ t.toInt = 10))) ∧ (3 ≤ f.toInt ∨ (0 ≤ w.toInt ∧ w.toInt ≤ 5))) ∧ mRn.toInt < 30 → Q (some (.int (mRn + 1 - 1))) (hq g c1 c2 c3 c4 c5 c6 c7 c8 c9 c10 c11 c12 c13 c14 c15 c16 c17 c18 c19 c20 c21 c22 c23 c24 (hc25 mTy mTm mMn mFn (mRn + 1) mTn mVn mLr mTr mFl mFm mFp mSc mMp mEn) (hc26 mPa) (hc27 mTo) (hc28 mOt) (hc29 mNa) (hc30 mRe) (hc31 mMa) (hc32 mMy) (hc33 mPm) (hc34 mFy) (hc35 mFa) (hc36 mFr) (hc37 (upd mFo mRn.toNatClampNeg f)) (hc38 (upd mRt mRn.toNatClampNeg t)) (hc39 (upd mRm mRn.toNatClampNeg w)) (hc40 mTt) (hc41 mTi) (hc42 mPl) (hc43 mVr) (hc44 mVf) (hc45 mVc) (hc46 mAr) (hc47 mTc) (hc48 mFt) (hc49 mGo) dyn)) : pm_WP 163 (0, [(0, .ref 25), (1, .int f), (2, .int t), (3, .int w)], [], hq g c1 c2 c3 c4 c5 c6 c7 c8 c9 c10 c11 c12 c13 c14 c15 c16 c17 c18 c19 c20 c21 c22 c23 c24 (hc25 mTy mTm mMn mFn mRn mTn mVn mLr mTr mFl mFm mFp mSc mMp mEn) (hc26 mPa) (hc27 mTo) (hc28 mOt) (hc29 mNa) (hc30 mRe) (hc31 mMa) (hc32 mMy) (hc33 mPm) (hc34 mFy) (hc35 mFa) (hc36 mFr) (hc37 mFo) (hc38 mRt) (hc39 mRm) (hc40 mTt) (hc41 mTi) (hc42 mPl) (hc43 mVr) (hc44 mVf) (hc45 mVc) (hc46 mAr) (hc47 mTc) (hc48 mFt) (hc49 mGo) dyn, 0, 0) Q := by
  refine pm_go (g := (1, [(0, .ref 25), (1, .int f), (2, .int t), (3, .int w)], [.int f], hq g c1 c2 c3 c4 c5 c6 c7 c8 c9 c10 c11 c12 c13 c14 c15 c16 c17 c18 c19 c20 c21 c22 c23 c24 (hc25 mTy mTm mMn mFn mRn mTn mVn mLr mTr mFl mFm mFp mSc mMp mEn) (hc26 mPa) (hc27 mTo) (hc28 mOt) (hc29 mNa) (hc30 mRe) (hc31 mMa) (hc32 mMy) (hc33 mPm) (hc34 mFy) (hc35 mFa) (hc36 mFr) (hc37 mFo) (hc38 mRt) (hc39 mRm) (hc40 mTt) (hc41 mTi) (hc42 mPl) (hc43 mVr) (hc44 mVf) (hc45 mVc) (hc46 mAr) (hc47 mTc) (hc48 mFt) (hc49 mGo) dyn, 0, 0)) rfl ?_
  refine pm_go (g := (2, _, [.int 0, .int f], _, 0, 0)) rfl ?_
  refine pm_go (g := (3, _, [.int 4, .int 0, .int f], _, 0, 0)) rfl ?_
  refine pm_callD (z := 128) (as := [.int f, .int 0, .int 4]) (rest := []) rfl ?_
  have h1 : (0 : Int32).toInt = 0 := by decide
  have h2 : (4 : Int32).toInt = 4 := by decide
  refine w_X12_isIn f 0 4 (fun h3 => ?_) (fun h4 => ?_)
  ·
    show pm_WP 163 (6, [(0, .ref 25), (1, .int f), (2, .int t), (3, .int w)], [.int 1], _, 0, 0) _
    refine pm_brT (g := (11, [(0, .ref 25), (1, .int f), (2, .int t), (3, .int w)], [], hq g c1 c2 c3 c4 c5 c6 c7 c8 c9 c10 c11 c12 c13 c14 c15 c16 c17 c18 c19 c20 c21 c22 c23 c24 (hc25 mTy mTm mMn mFn mRn mTn mVn mLr mTr mFl mFm mFp mSc mMp mEn) (hc26 mPa) (hc27 mTo) (hc28 mOt) (hc29 mNa) (hc30 mRe) (hc31 mMa) (hc32 mMy) (hc33 mPm) (hc34 mFy) (hc35 mFa) (hc36 mFr) (hc37 mFo) (hc38 mRt) (hc39 mRm) (hc40 mTt) (hc41 mTi) (hc42 mPl) (hc43 mVr) (hc44 mVf) (hc45 mVc) (hc46 mAr) (hc47 mTc) (hc48 mFt) (hc49 mGo) dyn, 0, 0)) rfl ?_
    refine pm_go (g := (12, _, [.int f], _, 0, 0)) rfl ?_
    refine pm_go (g := (13, _, [.int 2, .int f], _, 0, 0)) rfl ?_
    refine pm_if2 (g := (24, [(0, .ref 25), (1, .int f), (2, .int t), (3, .int w)], [], hq g c1 c2 c3 c4 c5 c6 c7 c8 c9 c10 c11 c12 c13 c14 c15 c16 c17 c18 c19 c20 c21 c22 c23 c24 (hc25 mTy mTm mMn mFn mRn mTn mVn mLr mTr mFl mFm mFp mSc mMp mEn) (hc26 mPa) (hc27 mTo) (hc28 mOt) (hc29 mNa) (hc30 mRe) (hc31 mMa) (hc32 mMy) (hc33 mPm) (hc34 mFy) (hc35 mFa) (hc36 mFr) (hc37 mFo) (hc38 mRt) (hc39 mRm) (hc40 mTt) (hc41 mTi) (hc42 mPl) (hc43 mVr) (hc44 mVf) (hc45 mVc) (hc46 mAr) (hc47 mTc) (hc48 mFt) (hc49 mGo) dyn, 0, 0)) (h := (16, [(0, .ref 25), (1, .int f), (2, .int t), (3, .int w)], [], hq g c1 c2 c3 c4 c5 c6 c7 c8 c9 c10 c11 c12 c13 c14 c15 c16 c17 c18 c19 c20 c21 c22 c23 c24 (hc25 mTy mTm mMn mFn mRn mTn mVn mLr mTr mFl mFm mFp mSc mMp mEn) (hc26 mPa) (hc27 mTo) (hc28 mOt) (hc29 mNa) (hc30 mRe) (hc31 mMa) (hc32 mMy) (hc33 mPm) (hc34 mFy) (hc35 mFa) (hc36 mFr) (hc37 mFo) (hc38 mRt) (hc39 mRm) (hc40 mTt) (hc41 mTi) (hc42 mPl) (hc43 mVr) (hc44 mVf) (hc45 mVc) (hc46 mAr) (hc47 mTc) (hc48 mFt) (hc49 mGo) dyn, 0, 0)) rfl (fun h6 => ?_) (fun h6 => ?_)
    ·
      have h6 := qT_ge (cx := (f).toInt) (cy := 2) rfl (by decide) h6
      refine pm_go (g := (25, _, [.int f], _, 0, 0)) rfl ?_
      refine pm_go (g := (26, _, [.int 2, .int f], _, 0, 0)) rfl ?_
      refine pm_if2 (g := (49, [(0, .ref 25), (1, .int f), (2, .int t), (3, .int w)], [], hq g c1 c2 c3 c4 c5 c6 c7 c8 c9 c10 c11 c12 c13 c14 c15 c16 c17 c18 c19 c20 c21 c22 c23 c24 (hc25 mTy mTm mMn mFn mRn mTn mVn mLr mTr mFl mFm mFp mSc mMp mEn) (hc26 mPa) (hc27 mTo) (hc28 mOt) (hc29 mNa) (hc30 mRe) (hc31 mMa) (hc32 mMy) (hc33 mPm) (hc34 mFy) (hc35 mFa) (hc36 mFr) (hc37 mFo) (hc38 mRt) (hc39 mRm) (hc40 mTt) (hc41 mTi) (hc42 mPl) (hc43 mVr) (hc44 mVf) (hc45 mVc) (hc46 mAr) (hc47 mTc) (hc48 mFt) (hc49 mGo) dyn, 0, 0)) (h := (29, [(0, .ref 25), (1, .int f), (2, .int t), (3, .int w)], [], hq g c1 c2 c3 c4 c5 c6 c7 c8 c9 c10 c11 c12 c13 c14 c15 c16 c17 c18 c19 c20 c21 c22 c23 c24 (hc25 mTy mTm mMn mFn mRn mTn mVn mLr mTr mFl mFm mFp mSc mMp mEn) (hc26 mPa) (hc27 mTo) (hc28 mOt) (hc29 mNa) (hc30 mRe) (hc31 mMa) (hc32 mMy) (hc33 mPm) (hc34 mFy) (hc35 mFa) (hc36 mFr) (hc37 mFo) (hc38 mRt) (hc39 mRm) (hc40 mTt) (hc41 mTi) (hc42 mPl) (hc43 mVr) (hc44 mVf) (hc45 mVc) (hc46 mAr) (hc47 mTc) (hc48 mFt) (hc49 mGo) dyn, 0, 0)) rfl (fun h7 => ?_) (fun h7 => ?_)
      ·
        have h7 := qT_ne (cx := (f).toInt) (cy := 2) rfl (by decide) h7
        refine pm_go (g := (50, _, [.int f], _, 0, 0)) rfl ?_
        refine pm_go (g := (51, _, [.int 3, .int f], _, 0, 0)) rfl ?_
        refine pm_if2 (g := (62, [(0, .ref 25), (1, .int f), (2, .int t), (3, .int w)], [], hq g c1 c2 c3 c4 c5 c6 c7 c8 c9 c10 c11 c12 c13 c14 c15 c16 c17 c18 c19 c20 c21 c22 c23 c24 (hc25 mTy mTm mMn mFn mRn mTn mVn mLr mTr mFl mFm mFp mSc mMp mEn) (hc26 mPa) (hc27 mTo) (hc28 mOt) (hc29 mNa) (hc30 mRe) (hc31 mMa) (hc32 mMy) (hc33 mPm) (hc34 mFy) (hc35 mFa) (hc36 mFr) (hc37 mFo) (hc38 mRt) (hc39 mRm) (hc40 mTt) (hc41 mTi) (hc42 mPl) (hc43 mVr) (hc44 mVf) (hc45 mVc) (hc46 mAr) (hc47 mTc) (hc48 mFt) (hc49 mGo) dyn, 0, 0)) (h := (54, [(0, .ref 25), (1, .int f), (2, .int t), (3, .int w)], [], hq g c1 c2 c3 c4 c5 c6 c7 c8 c9 c10 c11 c12 c13 c14 c15 c16 c17 c18 c19 c20 c21 c22 c23 c24 (hc25 mTy mTm mMn mFn mRn mTn mVn mLr mTr mFl mFm mFp mSc mMp mEn) (hc26 mPa) (hc27 mTo) (hc28 mOt) (hc29 mNa) (hc30 mRe) (hc31 mMa) (hc32 mMy) (hc33 mPm) (hc34 mFy) (hc35 mFa) (hc36 mFr) (hc37 mFo) (hc38 mRt) (hc39 mRm) (hc40 mTt) (hc41 mTi) (hc42 mPl) (hc43 mVr) (hc44 mVf) (hc45 mVc) (hc46 mAr) (hc47 mTc) (hc48 mFt) (hc49 mGo) dyn, 0, 0)) rfl (fun h8 => ?_) (fun h8 => ?_)
        ·
          have h8 := qT_ne (cx := (f).toInt) (cy := 3) rfl (by decide) h8
          refine pm_go (g := (63, _, [.ref 25], _, 0, 0)) rfl ?_
          refine pm_go (g := (64, _, [.int t, .ref 25], _, 0, 0)) rfl ?_
          refine pm_callD (z := 129) (as := [.ref 25, .int t]) (rest := []) rfl ?_
          refine w_X12_isClass t (by omega) (fun h9 => ?_) (fun h10 => ?_)
          ·
            show pm_WP 163 (67, [(0, .ref 25), (1, .int f), (2, .int t), (3, .int w)], [.int 1], _, 0, 0) _
            refine pm_brT (g := (76, [(0, .ref 25), (1, .int f), (2, .int t), (3, .int w)], [], hq g c1 c2 c3 c4 c5 c6 c7 c8 c9 c10 c11 c12 c13 c14 c15 c16 c17 c18 c19 c20 c21 c22 c23 c24 (hc25 mTy mTm mMn mFn mRn mTn mVn mLr mTr mFl mFm mFp mSc mMp mEn) (hc26 mPa) (hc27 mTo) (hc28 mOt) (hc29 mNa) (hc30 mRe) (hc31 mMa) (hc32 mMy) (hc33 mPm) (hc34 mFy) (hc35 mFa) (hc36 mFr) (hc37 mFo) (hc38 mRt) (hc39 mRm) (hc40 mTt) (hc41 mTi) (hc42 mPl) (hc43 mVr) (hc44 mVf) (hc45 mVc) (hc46 mAr) (hc47 mTc) (hc48 mFt) (hc49 mGo) dyn, 0, 0)) rfl ?_
            refine pm_go (g := (77, _, [.int 1], _, 0, 0)) rfl ?_
            refine pm_go (g := (81, _, [.int 1], _, 0, 0)) rfl ?_
            refine pm_go (g := (83, [(4, .int 1), (0, .ref 25), (1, .int f), (2, .int t), (3, .int w)], [], _, 0, 0)) rfl ?_
            refine pm_go (g := (85, _, [.int 1], _, 0, 0)) rfl ?_
            refine pm_brF (h := (88, [(4, .int 1), (0, .ref 25), (1, .int f), (2, .int t), (3, .int w)], [], hq g c1 c2 c3 c4 c5 c6 c7 c8 c9 c10 c11 c12 c13 c14 c15 c16 c17 c18 c19 c20 c21 c22 c23 c24 (hc25 mTy mTm mMn mFn mRn mTn mVn mLr mTr mFl mFm mFp mSc mMp mEn) (hc26 mPa) (hc27 mTo) (hc28 mOt) (hc29 mNa) (hc30 mRe) (hc31 mMa) (hc32 mMy) (hc33 mPm) (hc34 mFy) (hc35 mFa) (hc36 mFr) (hc37 mFo) (hc38 mRt) (hc39 mRm) (hc40 mTt) (hc41 mTi) (hc42 mPl) (hc43 mVr) (hc44 mVf) (hc45 mVc) (hc46 mAr) (hc47 mTc) (hc48 mFt) (hc49 mGo) dyn, 0, 0)) rfl ?_
            refine pm_go (g := (89, _, [.int f], _, 0, 0)) rfl ?_
            refine pm_go (g := (90, _, [.int 3, .int f], _, 0, 0)) rfl ?_
            refine pm_if2 (g := (104, [(4, .int 1), (0, .ref 25), (1, .int f), (2, .int t), (3, .int w)], [], hq g c1 c2 c3 c4 c5 c6 c7 c8 c9 c10 c11 c12 c13 c14 c15 c16 c17 c18 c19 c20 c21 c22 c23 c24 (hc25 mTy mTm mMn mFn mRn mTn mVn mLr mTr mFl mFm mFp mSc mMp mEn) (hc26 mPa) (hc27 mTo) (hc28 mOt) (hc29 mNa) (hc30 mRe) (hc31 mMa) (hc32 mMy) (hc33 mPm) (hc34 mFy) (hc35 mFa) (hc36 mFr) (hc37 mFo) (hc38 mRt) (hc39 mRm) (hc40 mTt) (hc41 mTi) (hc42 mPl) (hc43 mVr) (hc44 mVf) (hc45 mVc) (hc46 mAr) (hc47 mTc) (hc48 mFt) (hc49 mGo) dyn, 0, 0)) (h := (93, [(4, .int 1), (0, .ref 25), (1, .int f), (2, .int t), (3, .int w)], [], hq g c1 c2 c3 c4 c5 c6 c7 c8 c9 c10 c11 c12 c13 c14 c15 c16 c17 c18 c19 c20 c21 c22 c23 c24 (hc25 mTy mTm mMn mFn mRn mTn mVn mLr mTr mFl mFm mFp mSc mMp mEn) (hc26 mPa) (hc27 mTo) (hc28 mOt) (hc29 mNa) (hc30 mRe) (hc31 mMa) (hc32 mMy) (hc33 mPm) (hc34 mFy) (hc35 mFa) (hc36 mFr) (hc37 mFo) (hc38 mRt) (hc39 mRm) (hc40 mTt) (hc41 mTi) (hc42 mPl) (hc43 mVr) (hc44 mVf) (hc45 mVc) (hc46 mAr) (hc47 mTc) (hc48 mFt) (hc49 mGo) dyn, 0, 0)) rfl (fun h12 => ?_) (fun h12 => ?_)
            ·
              have h12 := qT_ge (cx := (f).toInt) (cy := 3) rfl (by decide) h12
              refine pm_go (g := (105, _, [.ref 25], _, 0, 0)) rfl ?_
              refine pm_go (g := (108, _, [.int mRn], _, 0, 0)) rfl ?_
              refine pm_go (g := (110, _, [.int 30, .int mRn], _, 0, 0)) rfl ?_
              refine pm_if2 (g := (116, [(4, .int 1), (0, .ref 25), (1, .int f), (2, .int t), (3, .int w)], [], hq g c1 c2 c3 c4 c5 c6 c7 c8 c9 c10 c11 c12 c13 c14 c15 c16 c17 c18 c19 c20 c21 c22 c23 c24 (hc25 mTy mTm mMn mFn mRn mTn mVn mLr mTr mFl mFm mFp mSc mMp mEn) (hc26 mPa) (hc27 mTo) (hc28 mOt) (hc29 mNa) (hc30 mRe) (hc31 mMa) (hc32 mMy) (hc33 mPm) (hc34 mFy) (hc35 mFa) (hc36 mFr) (hc37 mFo) (hc38 mRt) (hc39 mRm) (hc40 mTt) (hc41 mTi) (hc42 mPl) (hc43 mVr) (hc44 mVf) (hc45 mVc) (hc46 mAr) (hc47 mTc) (hc48 mFt) (hc49 mGo) dyn, 0, 0)) (h := (113, [(4, .int 1), (0, .ref 25), (1, .int f), (2, .int t), (3, .int w)], [], hq g c1 c2 c3 c4 c5 c6 c7 c8 c9 c10 c11 c12 c13 c14 c15 c16 c17 c18 c19 c20 c21 c22 c23 c24 (hc25 mTy mTm mMn mFn mRn mTn mVn mLr mTr mFl mFm mFp mSc mMp mEn) (hc26 mPa) (hc27 mTo) (hc28 mOt) (hc29 mNa) (hc30 mRe) (hc31 mMa) (hc32 mMy) (hc33 mPm) (hc34 mFy) (hc35 mFa) (hc36 mFr) (hc37 mFo) (hc38 mRt) (hc39 mRm) (hc40 mTt) (hc41 mTi) (hc42 mPl) (hc43 mVr) (hc44 mVf) (hc45 mVc) (hc46 mAr) (hc47 mTc) (hc48 mFt) (hc49 mGo) dyn, 0, 0)) rfl (fun h13 => ?_) (fun h13 => ?_)
              ·
                have h13 := qT_ne (cx := (mRn).toInt) (cy := 30) rfl (by decide) h13
                refine pm_go (g := (117, _, [.ref 25], _, 0, 0)) rfl ?_
                refine pm_go (g := (120, _, [.ref 37], _, 0, 0)) rfl ?_
                refine pm_go (g := (121, _, [.ref 25, .ref 37], _, 0, 0)) rfl ?_
                refine pm_go (g := (124, _, [.int mRn, .ref 37], _, 0, 0)) rfl ?_
                refine pm_go (g := (125, _, [.int f, .int mRn, .ref 37], _, 0, 0)) rfl ?_
                refine pm_sd (g := (126, _, [], hq g c1 c2 c3 c4 c5 c6 c7 c8 c9 c10 c11 c12 c13 c14 c15 c16 c17 c18 c19 c20 c21 c22 c23 c24 (hc25 mTy mTm mMn mFn mRn mTn mVn mLr mTr mFl mFm mFp mSc mMp mEn) (hc26 mPa) (hc27 mTo) (hc28 mOt) (hc29 mNa) (hc30 mRe) (hc31 mMa) (hc32 mMy) (hc33 mPm) (hc34 mFy) (hc35 mFa) (hc36 mFr) (hc37 (upd mFo (mRn).toNatClampNeg f)) (hc38 mRt) (hc39 mRm) (hc40 mTt) (hc41 mTi) (hc42 mPl) (hc43 mVr) (hc44 mVf) (hc45 mVc) (hc46 mAr) (hc47 mTc) (hc48 mFt) (hc49 mGo) dyn, 0, 0)) rfl (pm_inI (by omega) (by omega)) ?_
                refine pm_go (g := (127, _, [.ref 25], _, 0, 0)) rfl ?_
                refine pm_go (g := (130, _, [.ref 38], _, 0, 0)) rfl ?_
                refine pm_go (g := (131, _, [.ref 25, .ref 38], _, 0, 0)) rfl ?_
                refine pm_go (g := (134, _, [.int mRn, .ref 38], _, 0, 0)) rfl ?_
                refine pm_go (g := (135, _, [.int t, .int mRn, .ref 38], _, 0, 0)) rfl ?_
                refine pm_sd (g := (136, _, [], hq g c1 c2 c3 c4 c5 c6 c7 c8 c9 c10 c11 c12 c13 c14 c15 c16 c17 c18 c19 c20 c21 c22 c23 c24 (hc25 mTy mTm mMn mFn mRn mTn mVn mLr mTr mFl mFm mFp mSc mMp mEn) (hc26 mPa) (hc27 mTo) (hc28 mOt) (hc29 mNa) (hc30 mRe) (hc31 mMa) (hc32 mMy) (hc33 mPm) (hc34 mFy) (hc35 mFa) (hc36 mFr) (hc37 (upd mFo (mRn).toNatClampNeg f)) (hc38 (upd mRt (mRn).toNatClampNeg t)) (hc39 mRm) (hc40 mTt) (hc41 mTi) (hc42 mPl) (hc43 mVr) (hc44 mVf) (hc45 mVc) (hc46 mAr) (hc47 mTc) (hc48 mFt) (hc49 mGo) dyn, 0, 0)) rfl (pm_inI (by omega) (by omega)) ?_
                refine pm_go (g := (137, _, [.ref 25], _, 0, 0)) rfl ?_
                refine pm_go (g := (140, _, [.ref 39], _, 0, 0)) rfl ?_
                refine pm_go (g := (141, _, [.ref 25, .ref 39], _, 0, 0)) rfl ?_
                refine pm_go (g := (144, _, [.int mRn, .ref 39], _, 0, 0)) rfl ?_
                refine pm_go (g := (145, _, [.int w, .int mRn, .ref 39], _, 0, 0)) rfl ?_
                refine pm_sd (g := (146, _, [], hq g c1 c2 c3 c4 c5 c6 c7 c8 c9 c10 c11 c12 c13 c14 c15 c16 c17 c18 c19 c20 c21 c22 c23 c24 (hc25 mTy mTm mMn mFn mRn mTn mVn mLr mTr mFl mFm mFp mSc mMp mEn) (hc26 mPa) (hc27 mTo) (hc28 mOt) (hc29 mNa) (hc30 mRe) (hc31 mMa) (hc32 mMy) (hc33 mPm) (hc34 mFy) (hc35 mFa) (hc36 mFr) (hc37 (upd mFo (mRn).toNatClampNeg f)) (hc38 (upd mRt (mRn).toNatClampNeg t)) (hc39 (upd mRm (mRn).toNatClampNeg w)) (hc40 mTt) (hc41 mTi) (hc42 mPl) (hc43 mVr) (hc44 mVf) (hc45 mVc) (hc46 mAr) (hc47 mTc) (hc48 mFt) (hc49 mGo) dyn, 0, 0)) rfl (pm_inI (by omega) (by omega)) ?_
                refine pm_go (g := (147, _, [.ref 25], _, 0, 0)) rfl ?_
                refine pm_go (g := (148, _, [.ref 25, .ref 25], _, 0, 0)) rfl ?_
                refine pm_go (g := (151, _, [.int mRn, .ref 25], _, 0, 0)) rfl ?_
                refine pm_go (g := (152, _, [.int 1, .int mRn, .ref 25], _, 0, 0)) rfl ?_
                refine pm_go (g := (153, _, [.int (mRn + 1), .ref 25], _, 0, 0)) rfl ?_
                try have h14 : (mRn + 1).toInt = (mRn).toInt + 1 := iAdd (x := (mRn).toInt) (y := 1) rfl (by decide) (by omega) (by omega)
                refine pm_go (g := (156, _, [], hq g c1 c2 c3 c4 c5 c6 c7 c8 c9 c10 c11 c12 c13 c14 c15 c16 c17 c18 c19 c20 c21 c22 c23 c24 (hc25 mTy mTm mMn mFn (mRn + 1) mTn mVn mLr mTr mFl mFm mFp mSc mMp mEn) (hc26 mPa) (hc27 mTo) (hc28 mOt) (hc29 mNa) (hc30 mRe) (hc31 mMa) (hc32 mMy) (hc33 mPm) (hc34 mFy) (hc35 mFa) (hc36 mFr) (hc37 (upd mFo (mRn).toNatClampNeg f)) (hc38 (upd mRt (mRn).toNatClampNeg t)) (hc39 (upd mRm (mRn).toNatClampNeg w)) (hc40 mTt) (hc41 mTi) (hc42 mPl) (hc43 mVr) (hc44 mVf) (hc45 mVc) (hc46 mAr) (hc47 mTc) (hc48 mFt) (hc49 mGo) dyn, 0, 0)) rfl ?_
                refine pm_go (g := (157, _, [.ref 25], _, 0, 0)) rfl ?_
                refine pm_go (g := (160, _, [.int (mRn + 1)], _, 0, 0)) rfl ?_
                refine pm_go (g := (161, _, [.int 1, .int (mRn + 1)], _, 0, 0)) rfl ?_
                refine pm_go (g := (162, _, [.int ((mRn + 1) - 1)], _, 0, 0)) rfl ?_
                try have h15 : ((mRn + 1) - 1).toInt = (mRn + 1).toInt - 1 := iSub (x := (mRn + 1).toInt) (y := 1) rfl (by decide) (by omega) (by omega)
                first | exact pm_ret rfl (k0 (by omega)) | exact pm_ret rfl (k1 (by omega)) | exact pm_ret rfl (k2 (by omega)) | (exfalso; omega)
              have h13 := qF_ne (cx := (mRn).toInt) (cy := 30) rfl (by decide) h13
              refine pm_go (g := (115, _, [.int (-2)], hq g c1 c2 c3 c4 c5 c6 c7 c8 c9 c10 c11 c12 c13 c14 c15 c16 c17 c18 c19 c20 c21 c22 c23 c24 (hc25 mTy mTm mMn mFn mRn mTn mVn mLr mTr mFl mFm mFp mSc mMp mEn) (hc26 mPa) (hc27 mTo) (hc28 mOt) (hc29 mNa) (hc30 mRe) (hc31 mMa) (hc32 mMy) (hc33 mPm) (hc34 mFy) (hc35 mFa) (hc36 mFr) (hc37 mFo) (hc38 mRt) (hc39 mRm) (hc40 mTt) (hc41 mTi) (hc42 mPl) (hc43 mVr) (hc44 mVf) (hc45 mVc) (hc46 mAr) (hc47 mTc) (hc48 mFt) (hc49 mGo) dyn, 0, 0)) rfl ?_
              first | exact pm_ret rfl (k0 (by omega)) | exact pm_ret rfl (k1 (by omega)) | exact pm_ret rfl (k2 (by omega)) | (exfalso; omega)
            have h12 := qF_ge (cx := (f).toInt) (cy := 3) rfl (by decide) h12
            refine pm_go (g := (94, _, [.int w], _, 0, 0)) rfl ?_
            refine pm_go (g := (95, _, [.int 0, .int w], _, 0, 0)) rfl ?_
            refine pm_go (g := (96, _, [.int 5, .int 0, .int w], _, 0, 0)) rfl ?_
            refine pm_callD (z := 128) (as := [.int w, .int 0, .int 5]) (rest := []) rfl ?_
            have h16 : (0 : Int32).toInt = 0 := by decide
            have h17 : (5 : Int32).toInt = 5 := by decide
            refine w_X12_isIn w 0 5 (fun h18 => ?_) (fun h19 => ?_)
            ·
              show pm_WP 163 (99, [(4, .int 1), (0, .ref 25), (1, .int f), (2, .int t), (3, .int w)], [.int 1], _, 0, 0) _
              refine pm_brT (g := (104, [(4, .int 1), (0, .ref 25), (1, .int f), (2, .int t), (3, .int w)], [], hq g c1 c2 c3 c4 c5 c6 c7 c8 c9 c10 c11 c12 c13 c14 c15 c16 c17 c18 c19 c20 c21 c22 c23 c24 (hc25 mTy mTm mMn mFn mRn mTn mVn mLr mTr mFl mFm mFp mSc mMp mEn) (hc26 mPa) (hc27 mTo) (hc28 mOt) (hc29 mNa) (hc30 mRe) (hc31 mMa) (hc32 mMy) (hc33 mPm) (hc34 mFy) (hc35 mFa) (hc36 mFr) (hc37 mFo) (hc38 mRt) (hc39 mRm) (hc40 mTt) (hc41 mTi) (hc42 mPl) (hc43 mVr) (hc44 mVf) (hc45 mVc) (hc46 mAr) (hc47 mTc) (hc48 mFt) (hc49 mGo) dyn, 0, 0)) rfl ?_
              refine pm_go (g := (105, _, [.ref 25], _, 0, 0)) rfl ?_
              refine pm_go (g := (108, _, [.int mRn], _, 0, 0)) rfl ?_
              refine pm_go (g := (110, _, [.int 30, .int mRn], _, 0, 0)) rfl ?_
              refine pm_if2 (g := (116, [(4, .int 1), (0, .ref 25), (1, .int f), (2, .int t), (3, .int w)], [], hq g c1 c2 c3 c4 c5 c6 c7 c8 c9 c10 c11 c12 c13 c14 c15 c16 c17 c18 c19 c20 c21 c22 c23 c24 (hc25 mTy mTm mMn mFn mRn mTn mVn mLr mTr mFl mFm mFp mSc mMp mEn) (hc26 mPa) (hc27 mTo) (hc28 mOt) (hc29 mNa) (hc30 mRe) (hc31 mMa) (hc32 mMy) (hc33 mPm) (hc34 mFy) (hc35 mFa) (hc36 mFr) (hc37 mFo) (hc38 mRt) (hc39 mRm) (hc40 mTt) (hc41 mTi) (hc42 mPl) (hc43 mVr) (hc44 mVf) (hc45 mVc) (hc46 mAr) (hc47 mTc) (hc48 mFt) (hc49 mGo) dyn, 0, 0)) (h := (113, [(4, .int 1), (0, .ref 25), (1, .int f), (2, .int t), (3, .int w)], [], hq g c1 c2 c3 c4 c5 c6 c7 c8 c9 c10 c11 c12 c13 c14 c15 c16 c17 c18 c19 c20 c21 c22 c23 c24 (hc25 mTy mTm mMn mFn mRn mTn mVn mLr mTr mFl mFm mFp mSc mMp mEn) (hc26 mPa) (hc27 mTo) (hc28 mOt) (hc29 mNa) (hc30 mRe) (hc31 mMa) (hc32 mMy) (hc33 mPm) (hc34 mFy) (hc35 mFa) (hc36 mFr) (hc37 mFo) (hc38 mRt) (hc39 mRm) (hc40 mTt) (hc41 mTi) (hc42 mPl) (hc43 mVr) (hc44 mVf) (hc45 mVc) (hc46 mAr) (hc47 mTc) (hc48 mFt) (hc49 mGo) dyn, 0, 0)) rfl (fun h21 => ?_) (fun h21 => ?_)
              ·
                have h21 := qT_ne (cx := (mRn).toInt) (cy := 30) rfl (by decide) h21
                refine pm_go (g := (117, _, [.ref 25], _, 0, 0)) rfl ?_
                refine pm_go (g := (120, _, [.ref 37], _, 0, 0)) rfl ?_
                refine pm_go (g := (121, _, [.ref 25, .ref 37], _, 0, 0)) rfl ?_
                refine pm_go (g := (124, _, [.int mRn, .ref 37], _, 0, 0)) rfl ?_
                refine pm_go (g := (125, _, [.int f, .int mRn, .ref 37], _, 0, 0)) rfl ?_
                refine pm_sd (g := (126, _, [], hq g c1 c2 c3 c4 c5 c6 c7 c8 c9 c10 c11 c12 c13 c14 c15 c16 c17 c18 c19 c20 c21 c22 c23 c24 (hc25 mTy mTm mMn mFn mRn mTn mVn mLr mTr mFl mFm mFp mSc mMp mEn) (hc26 mPa) (hc27 mTo) (hc28 mOt) (hc29 mNa) (hc30 mRe) (hc31 mMa) (hc32 mMy) (hc33 mPm) (hc34 mFy) (hc35 mFa) (hc36 mFr) (hc37 (upd mFo (mRn).toNatClampNeg f)) (hc38 mRt) (hc39 mRm) (hc40 mTt) (hc41 mTi) (hc42 mPl) (hc43 mVr) (hc44 mVf) (hc45 mVc) (hc46 mAr) (hc47 mTc) (hc48 mFt) (hc49 mGo) dyn, 0, 0)) rfl (pm_inI (by omega) (by omega)) ?_
                refine pm_go (g := (127, _, [.ref 25], _, 0, 0)) rfl ?_
                refine pm_go (g := (130, _, [.ref 38], _, 0, 0)) rfl ?_
                refine pm_go (g := (131, _, [.ref 25, .ref 38], _, 0, 0)) rfl ?_
                refine pm_go (g := (134, _, [.int mRn, .ref 38], _, 0, 0)) rfl ?_
                refine pm_go (g := (135, _, [.int t, .int mRn, .ref 38], _, 0, 0)) rfl ?_
                refine pm_sd (g := (136, _, [], hq g c1 c2 c3 c4 c5 c6 c7 c8 c9 c10 c11 c12 c13 c14 c15 c16 c17 c18 c19 c20 c21 c22 c23 c24 (hc25 mTy mTm mMn mFn mRn mTn mVn mLr mTr mFl mFm mFp mSc mMp mEn) (hc26 mPa) (hc27 mTo) (hc28 mOt) (hc29 mNa) (hc30 mRe) (hc31 mMa) (hc32 mMy) (hc33 mPm) (hc34 mFy) (hc35 mFa) (hc36 mFr) (hc37 (upd mFo (mRn).toNatClampNeg f)) (hc38 (upd mRt (mRn).toNatClampNeg t)) (hc39 mRm) (hc40 mTt) (hc41 mTi) (hc42 mPl) (hc43 mVr) (hc44 mVf) (hc45 mVc) (hc46 mAr) (hc47 mTc) (hc48 mFt) (hc49 mGo) dyn, 0, 0)) rfl (pm_inI (by omega) (by omega)) ?_
                refine pm_go (g := (137, _, [.ref 25], _, 0, 0)) rfl ?_
                refine pm_go (g := (140, _, [.ref 39], _, 0, 0)) rfl ?_
                refine pm_go (g := (141, _, [.ref 25, .ref 39], _, 0, 0)) rfl ?_
                refine pm_go (g := (144, _, [.int mRn, .ref 39], _, 0, 0)) rfl ?_
                refine pm_go (g := (145, _, [.int w, .int mRn, .ref 39], _, 0, 0)) rfl ?_
                refine pm_sd (g := (146, _, [], hq g c1 c2 c3 c4 c5 c6 c7 c8 c9 c10 c11 c12 c13 c14 c15 c16 c17 c18 c19 c20 c21 c22 c23 c24 (hc25 mTy mTm mMn mFn mRn mTn mVn mLr mTr mFl mFm mFp mSc mMp mEn) (hc26 mPa) (hc27 mTo) (hc28 mOt) (hc29 mNa) (hc30 mRe) (hc31 mMa) (hc32 mMy) (hc33 mPm) (hc34 mFy) (hc35 mFa) (hc36 mFr) (hc37 (upd mFo (mRn).toNatClampNeg f)) (hc38 (upd mRt (mRn).toNatClampNeg t)) (hc39 (upd mRm (mRn).toNatClampNeg w)) (hc40 mTt) (hc41 mTi) (hc42 mPl) (hc43 mVr) (hc44 mVf) (hc45 mVc) (hc46 mAr) (hc47 mTc) (hc48 mFt) (hc49 mGo) dyn, 0, 0)) rfl (pm_inI (by omega) (by omega)) ?_
                refine pm_go (g := (147, _, [.ref 25], _, 0, 0)) rfl ?_
                refine pm_go (g := (148, _, [.ref 25, .ref 25], _, 0, 0)) rfl ?_
                refine pm_go (g := (151, _, [.int mRn, .ref 25], _, 0, 0)) rfl ?_
                refine pm_go (g := (152, _, [.int 1, .int mRn, .ref 25], _, 0, 0)) rfl ?_
                refine pm_go (g := (153, _, [.int (mRn + 1), .ref 25], _, 0, 0)) rfl ?_
                try have h22 : (mRn + 1).toInt = (mRn).toInt + 1 := iAdd (x := (mRn).toInt) (y := 1) rfl (by decide) (by omega) (by omega)
                refine pm_go (g := (156, _, [], hq g c1 c2 c3 c4 c5 c6 c7 c8 c9 c10 c11 c12 c13 c14 c15 c16 c17 c18 c19 c20 c21 c22 c23 c24 (hc25 mTy mTm mMn mFn (mRn + 1) mTn mVn mLr mTr mFl mFm mFp mSc mMp mEn) (hc26 mPa) (hc27 mTo) (hc28 mOt) (hc29 mNa) (hc30 mRe) (hc31 mMa) (hc32 mMy) (hc33 mPm) (hc34 mFy) (hc35 mFa) (hc36 mFr) (hc37 (upd mFo (mRn).toNatClampNeg f)) (hc38 (upd mRt (mRn).toNatClampNeg t)) (hc39 (upd mRm (mRn).toNatClampNeg w)) (hc40 mTt) (hc41 mTi) (hc42 mPl) (hc43 mVr) (hc44 mVf) (hc45 mVc) (hc46 mAr) (hc47 mTc) (hc48 mFt) (hc49 mGo) dyn, 0, 0)) rfl ?_
                refine pm_go (g := (157, _, [.ref 25], _, 0, 0)) rfl ?_
                refine pm_go (g := (160, _, [.int (mRn + 1)], _, 0, 0)) rfl ?_
                refine pm_go (g := (161, _, [.int 1, .int (mRn + 1)], _, 0, 0)) rfl ?_
                refine pm_go (g := (162, _, [.int ((mRn + 1) - 1)], _, 0, 0)) rfl ?_
                try have h23 : ((mRn + 1) - 1).toInt = (mRn + 1).toInt - 1 := iSub (x := (mRn + 1).toInt) (y := 1) rfl (by decide) (by omega) (by omega)
                first | exact pm_ret rfl (k0 (by omega)) | exact pm_ret rfl (k1 (by omega)) | exact pm_ret rfl (k2 (by omega)) | (exfalso; omega)
              have h21 := qF_ne (cx := (mRn).toInt) (cy := 30) rfl (by decide) h21
              refine pm_go (g := (115, _, [.int (-2)], hq g c1 c2 c3 c4 c5 c6 c7 c8 c9 c10 c11 c12 c13 c14 c15 c16 c17 c18 c19 c20 c21 c22 c23 c24 (hc25 mTy mTm mMn mFn mRn mTn mVn mLr mTr mFl mFm mFp mSc mMp mEn) (hc26 mPa) (hc27 mTo) (hc28 mOt) (hc29 mNa) (hc30 mRe) (hc31 mMa) (hc32 mMy) (hc33 mPm) (hc34 mFy) (hc35 mFa) (hc36 mFr) (hc37 mFo) (hc38 mRt) (hc39 mRm) (hc40 mTt) (hc41 mTi) (hc42 mPl) (hc43 mVr) (hc44 mVf) (hc45 mVc) (hc46 mAr) (hc47 mTc) (hc48 mFt) (hc49 mGo) dyn, 0, 0)) rfl ?_
              first | exact pm_ret rfl (k0 (by omega)) | exact pm_ret rfl (k1 (by omega)) | exact pm_ret rfl (k2 (by omega)) | (exfalso; omega)
            show pm_WP 163 (99, [(4, .int 1), (0, .ref 25), (1, .int f), (2, .int t), (3, .int w)], [.int 0], hq g c1 c2 c3 c4 c5 c6 c7 c8 c9 c10 c11 c12 c13 c14 c15 c16 c17 c18 c19 c20 c21 c22 c23 c24 (hc25 mTy mTm mMn mFn mRn mTn mVn mLr mTr mFl mFm mFp mSc mMp mEn) (hc26 mPa) (hc27 mTo) (hc28 mOt) (hc29 mNa) (hc30 mRe) (hc31 mMa) (hc32 mMy) (hc33 mPm) (hc34 mFy) (hc35 mFa) (hc36 mFr) (hc37 mFo) (hc38 mRt) (hc39 mRm) (hc40 mTt) (hc41 mTi) (hc42 mPl) (hc43 mVr) (hc44 mVf) (hc45 mVc) (hc46 mAr) (hc47 mTc) (hc48 mFt) (hc49 mGo) dyn, 0, 0) _
            refine pm_brF (h := (102, [(4, .int 1), (0, .ref 25), (1, .int f), (2, .int t), (3, .int w)], [], hq g c1 c2 c3 c4 c5 c6 c7 c8 c9 c10 c11 c12 c13 c14 c15 c16 c17 c18 c19 c20 c21 c22 c23 c24 (hc25 mTy mTm mMn mFn mRn mTn mVn mLr mTr mFl mFm mFp mSc mMp mEn) (hc26 mPa) (hc27 mTo) (hc28 mOt) (hc29 mNa) (hc30 mRe) (hc31 mMa) (hc32 mMy) (hc33 mPm) (hc34 mFy) (hc35 mFa) (hc36 mFr) (hc37 mFo) (hc38 mRt) (hc39 mRm) (hc40 mTt) (hc41 mTi) (hc42 mPl) (hc43 mVr) (hc44 mVf) (hc45 mVc) (hc46 mAr) (hc47 mTc) (hc48 mFt) (hc49 mGo) dyn, 0, 0)) rfl ?_
            refine pm_go (g := (103, _, [.int (-1)], _, 0, 0)) rfl ?_
            first | exact pm_ret rfl (k0 (by omega)) | exact pm_ret rfl (k1 (by omega)) | exact pm_ret rfl (k2 (by omega)) | (exfalso; omega)
          show pm_WP 163 (67, [(0, .ref 25), (1, .int f), (2, .int t), (3, .int w)], [.int 0], hq g c1 c2 c3 c4 c5 c6 c7 c8 c9 c10 c11 c12 c13 c14 c15 c16 c17 c18 c19 c20 c21 c22 c23 c24 (hc25 mTy mTm mMn mFn mRn mTn mVn mLr mTr mFl mFm mFp mSc mMp mEn) (hc26 mPa) (hc27 mTo) (hc28 mOt) (hc29 mNa) (hc30 mRe) (hc31 mMa) (hc32 mMy) (hc33 mPm) (hc34 mFy) (hc35 mFa) (hc36 mFr) (hc37 mFo) (hc38 mRt) (hc39 mRm) (hc40 mTt) (hc41 mTi) (hc42 mPl) (hc43 mVr) (hc44 mVf) (hc45 mVc) (hc46 mAr) (hc47 mTc) (hc48 mFt) (hc49 mGo) dyn, 0, 0) _
          refine pm_brF (h := (70, [(0, .ref 25), (1, .int f), (2, .int t), (3, .int w)], [], hq g c1 c2 c3 c4 c5 c6 c7 c8 c9 c10 c11 c12 c13 c14 c15 c16 c17 c18 c19 c20 c21 c22 c23 c24 (hc25 mTy mTm mMn mFn mRn mTn mVn mLr mTr mFl mFm mFp mSc mMp mEn) (hc26 mPa) (hc27 mTo) (hc28 mOt) (hc29 mNa) (hc30 mRe) (hc31 mMa) (hc32 mMy) (hc33 mPm) (hc34 mFy) (hc35 mFa) (hc36 mFr) (hc37 mFo) (hc38 mRt) (hc39 mRm) (hc40 mTt) (hc41 mTi) (hc42 mPl) (hc43 mVr) (hc44 mVf) (hc45 mVc) (hc46 mAr) (hc47 mTc) (hc48 mFt) (hc49 mGo) dyn, 0, 0)) rfl ?_
          refine pm_go (g := (71, _, [.int t], _, 0, 0)) rfl ?_
          refine pm_go (g := (73, _, [.int 10, .int t], _, 0, 0)) rfl ?_
          refine pm_if2 (g := (80, [(0, .ref 25), (1, .int f), (2, .int t), (3, .int w)], [], hq g c1 c2 c3 c4 c5 c6 c7 c8 c9 c10 c11 c12 c13 c14 c15 c16 c17 c18 c19 c20 c21 c22 c23 c24 (hc25 mTy mTm mMn mFn mRn mTn mVn mLr mTr mFl mFm mFp mSc mMp mEn) (hc26 mPa) (hc27 mTo) (hc28 mOt) (hc29 mNa) (hc30 mRe) (hc31 mMa) (hc32 mMy) (hc33 mPm) (hc34 mFy) (hc35 mFa) (hc36 mFr) (hc37 mFo) (hc38 mRt) (hc39 mRm) (hc40 mTt) (hc41 mTi) (hc42 mPl) (hc43 mVr) (hc44 mVf) (hc45 mVc) (hc46 mAr) (hc47 mTc) (hc48 mFt) (hc49 mGo) dyn, 0, 0)) (h := (76, [(0, .ref 25), (1, .int f), (2, .int t), (3, .int w)], [], hq g c1 c2 c3 c4 c5 c6 c7 c8 c9 c10 c11 c12 c13 c14 c15 c16 c17 c18 c19 c20 c21 c22 c23 c24 (hc25 mTy mTm mMn mFn mRn mTn mVn mLr mTr mFl mFm mFp mSc mMp mEn) (hc26 mPa) (hc27 mTo) (hc28 mOt) (hc29 mNa) (hc30 mRe) (hc31 mMa) (hc32 mMy) (hc33 mPm) (hc34 mFy) (hc35 mFa) (hc36 mFr) (hc37 mFo) (hc38 mRt) (hc39 mRm) (hc40 mTt) (hc41 mTi) (hc42 mPl) (hc43 mVr) (hc44 mVf) (hc45 mVc) (hc46 mAr) (hc47 mTc) (hc48 mFt) (hc49 mGo) dyn, 0, 0)) rfl (fun h24 => ?_) (fun h24 => ?_)
          ·
            have h24 := qT_ne (cx := (t).toInt) (cy := 10) rfl (by decide) h24
            refine pm_go (g := (81, _, [.int 0], _, 0, 0)) rfl ?_
            refine pm_go (g := (83, [(4, .int 0), (0, .ref 25), (1, .int f), (2, .int t), (3, .int w)], [], _, 0, 0)) rfl ?_
            refine pm_go (g := (85, _, [.int 0], _, 0, 0)) rfl ?_
            refine pm_brT (g := (102, [(4, .int 0), (0, .ref 25), (1, .int f), (2, .int t), (3, .int w)], [], hq g c1 c2 c3 c4 c5 c6 c7 c8 c9 c10 c11 c12 c13 c14 c15 c16 c17 c18 c19 c20 c21 c22 c23 c24 (hc25 mTy mTm mMn mFn mRn mTn mVn mLr mTr mFl mFm mFp mSc mMp mEn) (hc26 mPa) (hc27 mTo) (hc28 mOt) (hc29 mNa) (hc30 mRe) (hc31 mMa) (hc32 mMy) (hc33 mPm) (hc34 mFy) (hc35 mFa) (hc36 mFr) (hc37 mFo) (hc38 mRt) (hc39 mRm) (hc40 mTt) (hc41 mTi) (hc42 mPl) (hc43 mVr) (hc44 mVf) (hc45 mVc) (hc46 mAr) (hc47 mTc) (hc48 mFt) (hc49 mGo) dyn, 0, 0)) rfl ?_
            refine pm_go (g := (103, _, [.int (-1)], _, 0, 0)) rfl ?_
            first | exact pm_ret rfl (k0 (by omega)) | exact pm_ret rfl (k1 (by omega)) | exact pm_ret rfl (k2 (by omega)) | (exfalso; omega)
          have h24 := qF_ne (cx := (t).toInt) (cy := 10) rfl (by decide) h24
          refine pm_go (g := (77, [(0, .ref 25), (1, .int f), (2, .int t), (3, .int w)], [.int 1], _, 0, 0)) rfl ?_
          refine pm_go (g := (81, _, [.int 1], _, 0, 0)) rfl ?_
          refine pm_go (g := (83, [(4, .int 1), (0, .ref 25), (1, .int f), (2, .int t), (3, .int w)], [], _, 0, 0)) rfl ?_
          refine pm_go (g := (85, _, [.int 1], _, 0, 0)) rfl ?_
          refine pm_brF (h := (88, [(4, .int 1), (0, .ref 25), (1, .int f), (2, .int t), (3, .int w)], [], hq g c1 c2 c3 c4 c5 c6 c7 c8 c9 c10 c11 c12 c13 c14 c15 c16 c17 c18 c19 c20 c21 c22 c23 c24 (hc25 mTy mTm mMn mFn mRn mTn mVn mLr mTr mFl mFm mFp mSc mMp mEn) (hc26 mPa) (hc27 mTo) (hc28 mOt) (hc29 mNa) (hc30 mRe) (hc31 mMa) (hc32 mMy) (hc33 mPm) (hc34 mFy) (hc35 mFa) (hc36 mFr) (hc37 mFo) (hc38 mRt) (hc39 mRm) (hc40 mTt) (hc41 mTi) (hc42 mPl) (hc43 mVr) (hc44 mVf) (hc45 mVc) (hc46 mAr) (hc47 mTc) (hc48 mFt) (hc49 mGo) dyn, 0, 0)) rfl ?_
          refine pm_go (g := (89, _, [.int f], _, 0, 0)) rfl ?_
          refine pm_go (g := (90, _, [.int 3, .int f], _, 0, 0)) rfl ?_
          refine pm_if2 (g := (104, [(4, .int 1), (0, .ref 25), (1, .int f), (2, .int t), (3, .int w)], [], hq g c1 c2 c3 c4 c5 c6 c7 c8 c9 c10 c11 c12 c13 c14 c15 c16 c17 c18 c19 c20 c21 c22 c23 c24 (hc25 mTy mTm mMn mFn mRn mTn mVn mLr mTr mFl mFm mFp mSc mMp mEn) (hc26 mPa) (hc27 mTo) (hc28 mOt) (hc29 mNa) (hc30 mRe) (hc31 mMa) (hc32 mMy) (hc33 mPm) (hc34 mFy) (hc35 mFa) (hc36 mFr) (hc37 mFo) (hc38 mRt) (hc39 mRm) (hc40 mTt) (hc41 mTi) (hc42 mPl) (hc43 mVr) (hc44 mVf) (hc45 mVc) (hc46 mAr) (hc47 mTc) (hc48 mFt) (hc49 mGo) dyn, 0, 0)) (h := (93, [(4, .int 1), (0, .ref 25), (1, .int f), (2, .int t), (3, .int w)], [], hq g c1 c2 c3 c4 c5 c6 c7 c8 c9 c10 c11 c12 c13 c14 c15 c16 c17 c18 c19 c20 c21 c22 c23 c24 (hc25 mTy mTm mMn mFn mRn mTn mVn mLr mTr mFl mFm mFp mSc mMp mEn) (hc26 mPa) (hc27 mTo) (hc28 mOt) (hc29 mNa) (hc30 mRe) (hc31 mMa) (hc32 mMy) (hc33 mPm) (hc34 mFy) (hc35 mFa) (hc36 mFr) (hc37 mFo) (hc38 mRt) (hc39 mRm) (hc40 mTt) (hc41 mTi) (hc42 mPl) (hc43 mVr) (hc44 mVf) (hc45 mVc) (hc46 mAr) (hc47 mTc) (hc48 mFt) (hc49 mGo) dyn, 0, 0)) rfl (fun h25 => ?_) (fun h25 => ?_)
          ·
            have h25 := qT_ge (cx := (f).toInt) (cy := 3) rfl (by decide) h25
            refine pm_go (g := (105, _, [.ref 25], _, 0, 0)) rfl ?_
            refine pm_go (g := (108, _, [.int mRn], _, 0, 0)) rfl ?_
            refine pm_go (g := (110, _, [.int 30, .int mRn], _, 0, 0)) rfl ?_
            refine pm_if2 (g := (116, [(4, .int 1), (0, .ref 25), (1, .int f), (2, .int t), (3, .int w)], [], hq g c1 c2 c3 c4 c5 c6 c7 c8 c9 c10 c11 c12 c13 c14 c15 c16 c17 c18 c19 c20 c21 c22 c23 c24 (hc25 mTy mTm mMn mFn mRn mTn mVn mLr mTr mFl mFm mFp mSc mMp mEn) (hc26 mPa) (hc27 mTo) (hc28 mOt) (hc29 mNa) (hc30 mRe) (hc31 mMa) (hc32 mMy) (hc33 mPm) (hc34 mFy) (hc35 mFa) (hc36 mFr) (hc37 mFo) (hc38 mRt) (hc39 mRm) (hc40 mTt) (hc41 mTi) (hc42 mPl) (hc43 mVr) (hc44 mVf) (hc45 mVc) (hc46 mAr) (hc47 mTc) (hc48 mFt) (hc49 mGo) dyn, 0, 0)) (h := (113, [(4, .int 1), (0, .ref 25), (1, .int f), (2, .int t), (3, .int w)], [], hq g c1 c2 c3 c4 c5 c6 c7 c8 c9 c10 c11 c12 c13 c14 c15 c16 c17 c18 c19 c20 c21 c22 c23 c24 (hc25 mTy mTm mMn mFn mRn mTn mVn mLr mTr mFl mFm mFp mSc mMp mEn) (hc26 mPa) (hc27 mTo) (hc28 mOt) (hc29 mNa) (hc30 mRe) (hc31 mMa) (hc32 mMy) (hc33 mPm) (hc34 mFy) (hc35 mFa) (hc36 mFr) (hc37 mFo) (hc38 mRt) (hc39 mRm) (hc40 mTt) (hc41 mTi) (hc42 mPl) (hc43 mVr) (hc44 mVf) (hc45 mVc) (hc46 mAr) (hc47 mTc) (hc48 mFt) (hc49 mGo) dyn, 0, 0)) rfl (fun h26 => ?_) (fun h26 => ?_)
            ·
              have h26 := qT_ne (cx := (mRn).toInt) (cy := 30) rfl (by decide) h26
              refine pm_go (g := (117, _, [.ref 25], _, 0, 0)) rfl ?_
              refine pm_go (g := (120, _, [.ref 37], _, 0, 0)) rfl ?_
              refine pm_go (g := (121, _, [.ref 25, .ref 37], _, 0, 0)) rfl ?_
              refine pm_go (g := (124, _, [.int mRn, .ref 37], _, 0, 0)) rfl ?_
              refine pm_go (g := (125, _, [.int f, .int mRn, .ref 37], _, 0, 0)) rfl ?_
              refine pm_sd (g := (126, _, [], hq g c1 c2 c3 c4 c5 c6 c7 c8 c9 c10 c11 c12 c13 c14 c15 c16 c17 c18 c19 c20 c21 c22 c23 c24 (hc25 mTy mTm mMn mFn mRn mTn mVn mLr mTr mFl mFm mFp mSc mMp mEn) (hc26 mPa) (hc27 mTo) (hc28 mOt) (hc29 mNa) (hc30 mRe) (hc31 mMa) (hc32 mMy) (hc33 mPm) (hc34 mFy) (hc35 mFa) (hc36 mFr) (hc37 (upd mFo (mRn).toNatClampNeg f)) (hc38 mRt) (hc39 mRm) (hc40 mTt) (hc41 mTi) (hc42 mPl) (hc43 mVr) (hc44 mVf) (hc45 mVc) (hc46 mAr) (hc47 mTc) (hc48 mFt) (hc49 mGo) dyn, 0, 0)) rfl (pm_inI (by omega) (by omega)) ?_
              refine pm_go (g := (127, _, [.ref 25], _, 0, 0)) rfl ?_
              refine pm_go (g := (130, _, [.ref 38], _, 0, 0)) rfl ?_
              refine pm_go (g := (131, _, [.ref 25, .ref 38], _, 0, 0)) rfl ?_
              refine pm_go (g := (134, _, [.int mRn, .ref 38], _, 0, 0)) rfl ?_
              refine pm_go (g := (135, _, [.int t, .int mRn, .ref 38], _, 0, 0)) rfl ?_
              refine pm_sd (g := (136, _, [], hq g c1 c2 c3 c4 c5 c6 c7 c8 c9 c10 c11 c12 c13 c14 c15 c16 c17 c18 c19 c20 c21 c22 c23 c24 (hc25 mTy mTm mMn mFn mRn mTn mVn mLr mTr mFl mFm mFp mSc mMp mEn) (hc26 mPa) (hc27 mTo) (hc28 mOt) (hc29 mNa) (hc30 mRe) (hc31 mMa) (hc32 mMy) (hc33 mPm) (hc34 mFy) (hc35 mFa) (hc36 mFr) (hc37 (upd mFo (mRn).toNatClampNeg f)) (hc38 (upd mRt (mRn).toNatClampNeg t)) (hc39 mRm) (hc40 mTt) (hc41 mTi) (hc42 mPl) (hc43 mVr) (hc44 mVf) (hc45 mVc) (hc46 mAr) (hc47 mTc) (hc48 mFt) (hc49 mGo) dyn, 0, 0)) rfl (pm_inI (by omega) (by omega)) ?_
              refine pm_go (g := (137, _, [.ref 25], _, 0, 0)) rfl ?_
              refine pm_go (g := (140, _, [.ref 39], _, 0, 0)) rfl ?_
              refine pm_go (g := (141, _, [.ref 25, .ref 39], _, 0, 0)) rfl ?_
              refine pm_go (g := (144, _, [.int mRn, .ref 39], _, 0, 0)) rfl ?_
              refine pm_go (g := (145, _, [.int w, .int mRn, .ref 39], _, 0, 0)) rfl ?_
              refine pm_sd (g := (146, _, [], hq g c1 c2 c3 c4 c5 c6 c7 c8 c9 c10 c11 c12 c13 c14 c15 c16 c17 c18 c19 c20 c21 c22 c23 c24 (hc25 mTy mTm mMn mFn mRn mTn mVn mLr mTr mFl mFm mFp mSc mMp mEn) (hc26 mPa) (hc27 mTo) (hc28 mOt) (hc29 mNa) (hc30 mRe) (hc31 mMa) (hc32 mMy) (hc33 mPm) (hc34 mFy) (hc35 mFa) (hc36 mFr) (hc37 (upd mFo (mRn).toNatClampNeg f)) (hc38 (upd mRt (mRn).toNatClampNeg t)) (hc39 (upd mRm (mRn).toNatClampNeg w)) (hc40 mTt) (hc41 mTi) (hc42 mPl) (hc43 mVr) (hc44 mVf) (hc45 mVc) (hc46 mAr) (hc47 mTc) (hc48 mFt) (hc49 mGo) dyn, 0, 0)) rfl (pm_inI (by omega) (by omega)) ?_
              refine pm_go (g := (147, _, [.ref 25], _, 0, 0)) rfl ?_
              refine pm_go (g := (148, _, [.ref 25, .ref 25], _, 0, 0)) rfl ?_
              refine pm_go (g := (151, _, [.int mRn, .ref 25], _, 0, 0)) rfl ?_
              refine pm_go (g := (152, _, [.int 1, .int mRn, .ref 25], _, 0, 0)) rfl ?_
              refine pm_go (g := (153, _, [.int (mRn + 1), .ref 25], _, 0, 0)) rfl ?_
              try have h27 : (mRn + 1).toInt = (mRn).toInt + 1 := iAdd (x := (mRn).toInt) (y := 1) rfl (by decide) (by omega) (by omega)
              refine pm_go (g := (156, _, [], hq g c1 c2 c3 c4 c5 c6 c7 c8 c9 c10 c11 c12 c13 c14 c15 c16 c17 c18 c19 c20 c21 c22 c23 c24 (hc25 mTy mTm mMn mFn (mRn + 1) mTn mVn mLr mTr mFl mFm mFp mSc mMp mEn) (hc26 mPa) (hc27 mTo) (hc28 mOt) (hc29 mNa) (hc30 mRe) (hc31 mMa) (hc32 mMy) (hc33 mPm) (hc34 mFy) (hc35 mFa) (hc36 mFr) (hc37 (upd mFo (mRn).toNatClampNeg f)) (hc38 (upd mRt (mRn).toNatClampNeg t)) (hc39 (upd mRm (mRn).toNatClampNeg w)) (hc40 mTt) (hc41 mTi) (hc42 mPl) (hc43 mVr) (hc44 mVf) (hc45 mVc) (hc46 mAr) (hc47 mTc) (hc48 mFt) (hc49 mGo) dyn, 0, 0)) rfl ?_
              refine pm_go (g := (157, _, [.ref 25], _, 0, 0)) rfl ?_
              refine pm_go (g := (160, _, [.int (mRn + 1)], _, 0, 0)) rfl ?_
              refine pm_go (g := (161, _, [.int 1, .int (mRn + 1)], _, 0, 0)) rfl ?_
              refine pm_go (g := (162, _, [.int ((mRn + 1) - 1)], _, 0, 0)) rfl ?_
              try have h28 : ((mRn + 1) - 1).toInt = (mRn + 1).toInt - 1 := iSub (x := (mRn + 1).toInt) (y := 1) rfl (by decide) (by omega) (by omega)
              first | exact pm_ret rfl (k0 (by omega)) | exact pm_ret rfl (k1 (by omega)) | exact pm_ret rfl (k2 (by omega)) | (exfalso; omega)
            have h26 := qF_ne (cx := (mRn).toInt) (cy := 30) rfl (by decide) h26
            refine pm_go (g := (115, _, [.int (-2)], hq g c1 c2 c3 c4 c5 c6 c7 c8 c9 c10 c11 c12 c13 c14 c15 c16 c17 c18 c19 c20 c21 c22 c23 c24 (hc25 mTy mTm mMn mFn mRn mTn mVn mLr mTr mFl mFm mFp mSc mMp mEn) (hc26 mPa) (hc27 mTo) (hc28 mOt) (hc29 mNa) (hc30 mRe) (hc31 mMa) (hc32 mMy) (hc33 mPm) (hc34 mFy) (hc35 mFa) (hc36 mFr) (hc37 mFo) (hc38 mRt) (hc39 mRm) (hc40 mTt) (hc41 mTi) (hc42 mPl) (hc43 mVr) (hc44 mVf) (hc45 mVc) (hc46 mAr) (hc47 mTc) (hc48 mFt) (hc49 mGo) dyn, 0, 0)) rfl ?_
            first | exact pm_ret rfl (k0 (by omega)) | exact pm_ret rfl (k1 (by omega)) | exact pm_ret rfl (k2 (by omega)) | (exfalso; omega)
          have h25 := qF_ge (cx := (f).toInt) (cy := 3) rfl (by decide) h25
          refine pm_go (g := (94, _, [.int w], _, 0, 0)) rfl ?_
          refine pm_go (g := (95, _, [.int 0, .int w], _, 0, 0)) rfl ?_
          refine pm_go (g := (96, _, [.int 5, .int 0, .int w], _, 0, 0)) rfl ?_
          refine pm_callD (z := 128) (as := [.int w, .int 0, .int 5]) (rest := []) rfl ?_
          have h29 : (0 : Int32).toInt = 0 := by decide
          have h30 : (5 : Int32).toInt = 5 := by decide
          refine w_X12_isIn w 0 5 (fun h31 => ?_) (fun h32 => ?_)
          ·
            show pm_WP 163 (99, [(4, .int 1), (0, .ref 25), (1, .int f), (2, .int t), (3, .int w)], [.int 1], _, 0, 0) _
            refine pm_brT (g := (104, [(4, .int 1), (0, .ref 25), (1, .int f), (2, .int t), (3, .int w)], [], hq g c1 c2 c3 c4 c5 c6 c7 c8 c9 c10 c11 c12 c13 c14 c15 c16 c17 c18 c19 c20 c21 c22 c23 c24 (hc25 mTy mTm mMn mFn mRn mTn mVn mLr mTr mFl mFm mFp mSc mMp mEn) (hc26 mPa) (hc27 mTo) (hc28 mOt) (hc29 mNa) (hc30 mRe) (hc31 mMa) (hc32 mMy) (hc33 mPm) (hc34 mFy) (hc35 mFa) (hc36 mFr) (hc37 mFo) (hc38 mRt) (hc39 mRm) (hc40 mTt) (hc41 mTi) (hc42 mPl) (hc43 mVr) (hc44 mVf) (hc45 mVc) (hc46 mAr) (hc47 mTc) (hc48 mFt) (hc49 mGo) dyn, 0, 0)) rfl ?_
            refine pm_go (g := (105, _, [.ref 25], _, 0, 0)) rfl ?_
            refine pm_go (g := (108, _, [.int mRn], _, 0, 0)) rfl ?_
            refine pm_go (g := (110, _, [.int 30, .int mRn], _, 0, 0)) rfl ?_
            refine pm_if2 (g := (116, [(4, .int 1), (0, .ref 25), (1, .int f), (2, .int t), (3, .int w)], [], hq g c1 c2 c3 c4 c5 c6 c7 c8 c9 c10 c11 c12 c13 c14 c15 c16 c17 c18 c19 c20 c21 c22 c23 c24 (hc25 mTy mTm mMn mFn mRn mTn mVn mLr mTr mFl mFm mFp mSc mMp mEn) (hc26 mPa) (hc27 mTo) (hc28 mOt) (hc29 mNa) (hc30 mRe) (hc31 mMa) (hc32 mMy) (hc33 mPm) (hc34 mFy) (hc35 mFa) (hc36 mFr) (hc37 mFo) (hc38 mRt) (hc39 mRm) (hc40 mTt) (hc41 mTi) (hc42 mPl) (hc43 mVr) (hc44 mVf) (hc45 mVc) (hc46 mAr) (hc47 mTc) (hc48 mFt) (hc49 mGo) dyn, 0, 0)) (h := (113, [(4, .int 1), (0, .ref 25), (1, .int f), (2, .int t), (3, .int w)], [], hq g c1 c2 c3 c4 c5 c6 c7 c8 c9 c10 c11 c12 c13 c14 c15 c16 c17 c18 c19 c20 c21 c22 c23 c24 (hc25 mTy mTm mMn mFn mRn mTn mVn mLr mTr mFl mFm mFp mSc mMp mEn) (hc26 mPa) (hc27 mTo) (hc28 mOt) (hc29 mNa) (hc30 mRe) (hc31 mMa) (hc32 mMy) (hc33 mPm) (hc34 mFy) (hc35 mFa) (hc36 mFr) (hc37 mFo) (hc38 mRt) (hc39 mRm) (hc40 mTt) (hc41 mTi) (hc42 mPl) (hc43 mVr) (hc44 mVf) (hc45 mVc) (hc46 mAr) (hc47 mTc) (hc48 mFt) (hc49 mGo) dyn, 0, 0)) rfl (fun h34 => ?_) (fun h34 => ?_)
            ·
              have h34 := qT_ne (cx := (mRn).toInt) (cy := 30) rfl (by decide) h34
              refine pm_go (g := (117, _, [.ref 25], _, 0, 0)) rfl ?_
              refine pm_go (g := (120, _, [.ref 37], _, 0, 0)) rfl ?_
              refine pm_go (g := (121, _, [.ref 25, .ref 37], _, 0, 0)) rfl ?_
              refine pm_go (g := (124, _, [.int mRn, .ref 37], _, 0, 0)) rfl ?_
              refine pm_go (g := (125, _, [.int f, .int mRn, .ref 37], _, 0, 0)) rfl ?_
              refine pm_sd (g := (126, _, [], hq g c1 c2 c3 c4 c5 c6 c7 c8 c9 c10 c11 c12 c13 c14 c15 c16 c17 c18 c19 c20 c21 c22 c23 c24 (hc25 mTy mTm mMn mFn mRn mTn mVn mLr mTr mFl mFm mFp mSc mMp mEn) (hc26 mPa) (hc27 mTo) (hc28 mOt) (hc29 mNa) (hc30 mRe) (hc31 mMa) (hc32 mMy) (hc33 mPm) (hc34 mFy) (hc35 mFa) (hc36 mFr) (hc37 (upd mFo (mRn).toNatClampNeg f)) (hc38 mRt) (hc39 mRm) (hc40 mTt) (hc41 mTi) (hc42 mPl) (hc43 mVr) (hc44 mVf) (hc45 mVc) (hc46 mAr) (hc47 mTc) (hc48 mFt) (hc49 mGo) dyn, 0, 0)) rfl (pm_inI (by omega) (by omega)) ?_
              refine pm_go (g := (127, _, [.ref 25], _, 0, 0)) rfl ?_
              refine pm_go (g := (130, _, [.ref 38], _, 0, 0)) rfl ?_
              refine pm_go (g := (131, _, [.ref 25, .ref 38], _, 0, 0)) rfl ?_
              refine pm_go (g := (134, _, [.int mRn, .ref 38], _, 0, 0)) rfl ?_
              refine pm_go (g := (135, _, [.int t, .int mRn, .ref 38], _, 0, 0)) rfl ?_
              refine pm_sd (g := (136, _, [], hq g c1 c2 c3 c4 c5 c6 c7 c8 c9 c10 c11 c12 c13 c14 c15 c16 c17 c18 c19 c20 c21 c22 c23 c24 (hc25 mTy mTm mMn mFn mRn mTn mVn mLr mTr mFl mFm mFp mSc mMp mEn) (hc26 mPa) (hc27 mTo) (hc28 mOt) (hc29 mNa) (hc30 mRe) (hc31 mMa) (hc32 mMy) (hc33 mPm) (hc34 mFy) (hc35 mFa) (hc36 mFr) (hc37 (upd mFo (mRn).toNatClampNeg f)) (hc38 (upd mRt (mRn).toNatClampNeg t)) (hc39 mRm) (hc40 mTt) (hc41 mTi) (hc42 mPl) (hc43 mVr) (hc44 mVf) (hc45 mVc) (hc46 mAr) (hc47 mTc) (hc48 mFt) (hc49 mGo) dyn, 0, 0)) rfl (pm_inI (by omega) (by omega)) ?_
              refine pm_go (g := (137, _, [.ref 25], _, 0, 0)) rfl ?_
              refine pm_go (g := (140, _, [.ref 39], _, 0, 0)) rfl ?_
              refine pm_go (g := (141, _, [.ref 25, .ref 39], _, 0, 0)) rfl ?_
              refine pm_go (g := (144, _, [.int mRn, .ref 39], _, 0, 0)) rfl ?_
              refine pm_go (g := (145, _, [.int w, .int mRn, .ref 39], _, 0, 0)) rfl ?_
              refine pm_sd (g := (146, _, [], hq g c1 c2 c3 c4 c5 c6 c7 c8 c9 c10 c11 c12 c13 c14 c15 c16 c17 c18 c19 c20 c21 c22 c23 c24 (hc25 mTy mTm mMn mFn mRn mTn mVn mLr mTr mFl mFm mFp mSc mMp mEn) (hc26 mPa) (hc27 mTo) (hc28 mOt) (hc29 mNa) (hc30 mRe) (hc31 mMa) (hc32 mMy) (hc33 mPm) (hc34 mFy) (hc35 mFa) (hc36 mFr) (hc37 (upd mFo (mRn).toNatClampNeg f)) (hc38 (upd mRt (mRn).toNatClampNeg t)) (hc39 (upd mRm (mRn).toNatClampNeg w)) (hc40 mTt) (hc41 mTi) (hc42 mPl) (hc43 mVr) (hc44 mVf) (hc45 mVc) (hc46 mAr) (hc47 mTc) (hc48 mFt) (hc49 mGo) dyn, 0, 0)) rfl (pm_inI (by omega) (by omega)) ?_
              refine pm_go (g := (147, _, [.ref 25], _, 0, 0)) rfl ?_
              refine pm_go (g := (148, _, [.ref 25, .ref 25], _, 0, 0)) rfl ?_
              refine pm_go (g := (151, _, [.int mRn, .ref 25], _, 0, 0)) rfl ?_
              refine pm_go (g := (152, _, [.int 1, .int mRn, .ref 25], _, 0, 0)) rfl ?_
              refine pm_go (g := (153, _, [.int (mRn + 1), .ref 25], _, 0, 0)) rfl ?_
              try have h35 : (mRn + 1).toInt = (mRn).toInt + 1 := iAdd (x := (mRn).toInt) (y := 1) rfl (by decide) (by omega) (by omega)
              refine pm_go (g := (156, _, [], hq g c1 c2 c3 c4 c5 c6 c7 c8 c9 c10 c11 c12 c13 c14 c15 c16 c17 c18 c19 c20 c21 c22 c23 c24 (hc25 mTy mTm mMn mFn (mRn + 1) mTn mVn mLr mTr mFl mFm mFp mSc mMp mEn) (hc26 mPa) (hc27 mTo) (hc28 mOt) (hc29 mNa) (hc30 mRe) (hc31 mMa) (hc32 mMy) (hc33 mPm) (hc34 mFy) (hc35 mFa) (hc36 mFr) (hc37 (upd mFo (mRn).toNatClampNeg f)) (hc38 (upd mRt (mRn).toNatClampNeg t)) (hc39 (upd mRm (mRn).toNatClampNeg w)) (hc40 mTt) (hc41 mTi) (hc42 mPl) (hc43 mVr) (hc44 mVf) (hc45 mVc) (hc46 mAr) (hc47 mTc) (hc48 mFt) (hc49 mGo) dyn, 0, 0)) rfl ?_
              refine pm_go (g := (157, _, [.ref 25], _, 0, 0)) rfl ?_
              refine pm_go (g := (160, _, [.int (mRn + 1)], _, 0, 0)) rfl ?_
              refine pm_go (g := (161, _, [.int 1, .int (mRn + 1)], _, 0, 0)) rfl ?_
              refine pm_go (g := (162, _, [.int ((mRn + 1) - 1)], _, 0, 0)) rfl ?_
              try have h36 : ((mRn + 1) - 1).toInt = (mRn + 1).toInt - 1 := iSub (x := (mRn + 1).toInt) (y := 1) rfl (by decide) (by omega) (by omega)
              first | exact pm_ret rfl (k0 (by omega)) | exact pm_ret rfl (k1 (by omega)) | exact pm_ret rfl (k2 (by omega)) | (exfalso; omega)
            have h34 := qF_ne (cx := (mRn).toInt) (cy := 30) rfl (by decide) h34
            refine pm_go (g := (115, _, [.int (-2)], hq g c1 c2 c3 c4 c5 c6 c7 c8 c9 c10 c11 c12 c13 c14 c15 c16 c17 c18 c19 c20 c21 c22 c23 c24 (hc25 mTy mTm mMn mFn mRn mTn mVn mLr mTr mFl mFm mFp mSc mMp mEn) (hc26 mPa) (hc27 mTo) (hc28 mOt) (hc29 mNa) (hc30 mRe) (hc31 mMa) (hc32 mMy) (hc33 mPm) (hc34 mFy) (hc35 mFa) (hc36 mFr) (hc37 mFo) (hc38 mRt) (hc39 mRm) (hc40 mTt) (hc41 mTi) (hc42 mPl) (hc43 mVr) (hc44 mVf) (hc45 mVc) (hc46 mAr) (hc47 mTc) (hc48 mFt) (hc49 mGo) dyn, 0, 0)) rfl ?_
            first | exact pm_ret rfl (k0 (by omega)) | exact pm_ret rfl (k1 (by omega)) | exact pm_ret rfl (k2 (by omega)) | (exfalso; omega)
          show pm_WP 163 (99, [(4, .int 1), (0, .ref 25), (1, .int f), (2, .int t), (3, .int w)], [.int 0], hq g c1 c2 c3 c4 c5 c6 c7 c8 c9 c10 c11 c12 c13 c14 c15 c16 c17 c18 c19 c20 c21 c22 c23 c24 (hc25 mTy mTm mMn mFn mRn mTn mVn mLr mTr mFl mFm mFp mSc mMp mEn) (hc26 mPa) (hc27 mTo) (hc28 mOt) (hc29 mNa) (hc30 mRe) (hc31 mMa) (hc32 mMy) (hc33 mPm) (hc34 mFy) (hc35 mFa) (hc36 mFr) (hc37 mFo) (hc38 mRt) (hc39 mRm) (hc40 mTt) (hc41 mTi) (hc42 mPl) (hc43 mVr) (hc44 mVf) (hc45 mVc) (hc46 mAr) (hc47 mTc) (hc48 mFt) (hc49 mGo) dyn, 0, 0) _
          refine pm_brF (h := (102, [(4, .int 1), (0, .ref 25), (1, .int f), (2, .int t), (3, .int w)], [], hq g c1 c2 c3 c4 c5 c6 c7 c8 c9 c10 c11 c12 c13 c14 c15 c16 c17 c18 c19 c20 c21 c22 c23 c24 (hc25 mTy mTm mMn mFn mRn mTn mVn mLr mTr mFl mFm mFp mSc mMp mEn) (hc26 mPa) (hc27 mTo) (hc28 mOt) (hc29 mNa) (hc30 mRe) (hc31 mMa) (hc32 mMy) (hc33 mPm) (hc34 mFy) (hc35 mFa) (hc36 mFr) (hc37 mFo) (hc38 mRt) (hc39 mRm) (hc40 mTt) (hc41 mTi) (hc42 mPl) (hc43 mVr) (hc44 mVf) (hc45 mVc) (hc46 mAr) (hc47 mTc) (hc48 mFt) (hc49 mGo) dyn, 0, 0)) rfl ?_
          refine pm_go (g := (103, _, [.int (-1)], _, 0, 0)) rfl ?_
          first | exact pm_ret rfl (k0 (by omega)) | exact pm_ret rfl (k1 (by omega)) | exact pm_ret rfl (k2 (by omega)) | (exfalso; omega)
        have h8 := qF_ne (cx := (f).toInt) (cy := 3) rfl (by decide) h8
        refine pm_go (g := (55, [(0, .ref 25), (1, .int f), (2, .int t), (3, .int w)], [.ref 25], _, 0, 0)) rfl ?_
        refine pm_go (g := (56, _, [.int t, .ref 25], _, 0, 0)) rfl ?_
        refine pm_callD (z := 130) (as := [.ref 25, .int t]) (rest := []) rfl ?_
        refine w_X12_isOwn t (by omega) (fun h37 => ?_) (fun h38 => ?_)
        ·
          show pm_WP 163 (59, [(0, .ref 25), (1, .int f), (2, .int t), (3, .int w)], [.int 1], _, 0, 0) _
          refine pm_go (g := (81, _, [.int 1], _, 0, 0)) rfl ?_
          refine pm_go (g := (83, [(4, .int 1), (0, .ref 25), (1, .int f), (2, .int t), (3, .int w)], [], _, 0, 0)) rfl ?_
          refine pm_go (g := (85, _, [.int 1], _, 0, 0)) rfl ?_
          refine pm_brF (h := (88, [(4, .int 1), (0, .ref 25), (1, .int f), (2, .int t), (3, .int w)], [], hq g c1 c2 c3 c4 c5 c6 c7 c8 c9 c10 c11 c12 c13 c14 c15 c16 c17 c18 c19 c20 c21 c22 c23 c24 (hc25 mTy mTm mMn mFn mRn mTn mVn mLr mTr mFl mFm mFp mSc mMp mEn) (hc26 mPa) (hc27 mTo) (hc28 mOt) (hc29 mNa) (hc30 mRe) (hc31 mMa) (hc32 mMy) (hc33 mPm) (hc34 mFy) (hc35 mFa) (hc36 mFr) (hc37 mFo) (hc38 mRt) (hc39 mRm) (hc40 mTt) (hc41 mTi) (hc42 mPl) (hc43 mVr) (hc44 mVf) (hc45 mVc) (hc46 mAr) (hc47 mTc) (hc48 mFt) (hc49 mGo) dyn, 0, 0)) rfl ?_
          refine pm_go (g := (89, _, [.int f], _, 0, 0)) rfl ?_
          refine pm_go (g := (90, _, [.int 3, .int f], _, 0, 0)) rfl ?_
          refine pm_if2 (g := (104, [(4, .int 1), (0, .ref 25), (1, .int f), (2, .int t), (3, .int w)], [], hq g c1 c2 c3 c4 c5 c6 c7 c8 c9 c10 c11 c12 c13 c14 c15 c16 c17 c18 c19 c20 c21 c22 c23 c24 (hc25 mTy mTm mMn mFn mRn mTn mVn mLr mTr mFl mFm mFp mSc mMp mEn) (hc26 mPa) (hc27 mTo) (hc28 mOt) (hc29 mNa) (hc30 mRe) (hc31 mMa) (hc32 mMy) (hc33 mPm) (hc34 mFy) (hc35 mFa) (hc36 mFr) (hc37 mFo) (hc38 mRt) (hc39 mRm) (hc40 mTt) (hc41 mTi) (hc42 mPl) (hc43 mVr) (hc44 mVf) (hc45 mVc) (hc46 mAr) (hc47 mTc) (hc48 mFt) (hc49 mGo) dyn, 0, 0)) (h := (93, [(4, .int 1), (0, .ref 25), (1, .int f), (2, .int t), (3, .int w)], [], hq g c1 c2 c3 c4 c5 c6 c7 c8 c9 c10 c11 c12 c13 c14 c15 c16 c17 c18 c19 c20 c21 c22 c23 c24 (hc25 mTy mTm mMn mFn mRn mTn mVn mLr mTr mFl mFm mFp mSc mMp mEn) (hc26 mPa) (hc27 mTo) (hc28 mOt) (hc29 mNa) (hc30 mRe) (hc31 mMa) (hc32 mMy) (hc33 mPm) (hc34 mFy) (hc35 mFa) (hc36 mFr) (hc37 mFo) (hc38 mRt) (hc39 mRm) (hc40 mTt) (hc41 mTi) (hc42 mPl) (hc43 mVr) (hc44 mVf) (hc45 mVc) (hc46 mAr) (hc47 mTc) (hc48 mFt) (hc49 mGo) dyn, 0, 0)) rfl (fun h40 => ?_) (fun h40 => ?_)
          ·
            have h40 := qT_ge (cx := (f).toInt) (cy := 3) rfl (by decide) h40
            refine pm_go (g := (105, _, [.ref 25], _, 0, 0)) rfl ?_
            refine pm_go (g := (108, _, [.int mRn], _, 0, 0)) rfl ?_
            refine pm_go (g := (110, _, [.int 30, .int mRn], _, 0, 0)) rfl ?_
            refine pm_if2 (g := (116, [(4, .int 1), (0, .ref 25), (1, .int f), (2, .int t), (3, .int w)], [], hq g c1 c2 c3 c4 c5 c6 c7 c8 c9 c10 c11 c12 c13 c14 c15 c16 c17 c18 c19 c20 c21 c22 c23 c24 (hc25 mTy mTm mMn mFn mRn mTn mVn mLr mTr mFl mFm mFp mSc mMp mEn) (hc26 mPa) (hc27 mTo) (hc28 mOt) (hc29 mNa) (hc30 mRe) (hc31 mMa) (hc32 mMy) (hc33 mPm) (hc34 mFy) (hc35 mFa) (hc36 mFr) (hc37 mFo) (hc38 mRt) (hc39 mRm) (hc40 mTt) (hc41 mTi) (hc42 mPl) (hc43 mVr) (hc44 mVf) (hc45 mVc) (hc46 mAr) (hc47 mTc) (hc48 mFt) (hc49 mGo) dyn, 0, 0)) (h := (113, [(4, .int 1), (0, .ref 25), (1, .int f), (2, .int t), (3, .int w)], [], hq g c1 c2 c3 c4 c5 c6 c7 c8 c9 c10 c11 c12 c13 c14 c15 c16 c17 c18 c19 c20 c21 c22 c23 c24 (hc25 mTy mTm mMn mFn mRn mTn mVn mLr mTr mFl mFm mFp mSc mMp mEn) (hc26 mPa) (hc27 mTo) (hc28 mOt) (hc29 mNa) (hc30 mRe) (hc31 mMa) (hc32 mMy) (hc33 mPm) (hc34 mFy) (hc35 mFa) (hc36 mFr) (hc37 mFo) (hc38 mRt) (hc39 mRm) (hc40 mTt) (hc41 mTi) (hc42 mPl) (hc43 mVr) (hc44 mVf) (hc45 mVc) (hc46 mAr) (hc47 mTc) (hc48 mFt) (hc49 mGo) dyn, 0, 0)) rfl (fun h41 => ?_) (fun h41 => ?_)
            ·
              have h41 := qT_ne (cx := (mRn).toInt) (cy := 30) rfl (by decide) h41
              refine pm_go (g := (117, _, [.ref 25], _, 0, 0)) rfl ?_
              refine pm_go (g := (120, _, [.ref 37], _, 0, 0)) rfl ?_
              refine pm_go (g := (121, _, [.ref 25, .ref 37], _, 0, 0)) rfl ?_
              refine pm_go (g := (124, _, [.int mRn, .ref 37], _, 0, 0)) rfl ?_
              refine pm_go (g := (125, _, [.int f, .int mRn, .ref 37], _, 0, 0)) rfl ?_
              refine pm_sd (g := (126, _, [], hq g c1 c2 c3 c4 c5 c6 c7 c8 c9 c10 c11 c12 c13 c14 c15 c16 c17 c18 c19 c20 c21 c22 c23 c24 (hc25 mTy mTm mMn mFn mRn mTn mVn mLr mTr mFl mFm mFp mSc mMp mEn) (hc26 mPa) (hc27 mTo) (hc28 mOt) (hc29 mNa) (hc30 mRe) (hc31 mMa) (hc32 mMy) (hc33 mPm) (hc34 mFy) (hc35 mFa) (hc36 mFr) (hc37 (upd mFo (mRn).toNatClampNeg f)) (hc38 mRt) (hc39 mRm) (hc40 mTt) (hc41 mTi) (hc42 mPl) (hc43 mVr) (hc44 mVf) (hc45 mVc) (hc46 mAr) (hc47 mTc) (hc48 mFt) (hc49 mGo) dyn, 0, 0)) rfl (pm_inI (by omega) (by omega)) ?_
              refine pm_go (g := (127, _, [.ref 25], _, 0, 0)) rfl ?_
              refine pm_go (g := (130, _, [.ref 38], _, 0, 0)) rfl ?_
              refine pm_go (g := (131, _, [.ref 25, .ref 38], _, 0, 0)) rfl ?_
              refine pm_go (g := (134, _, [.int mRn, .ref 38], _, 0, 0)) rfl ?_
              refine pm_go (g := (135, _, [.int t, .int mRn, .ref 38], _, 0, 0)) rfl ?_
              refine pm_sd (g := (136, _, [], hq g c1 c2 c3 c4 c5 c6 c7 c8 c9 c10 c11 c12 c13 c14 c15 c16 c17 c18 c19 c20 c21 c22 c23 c24 (hc25 mTy mTm mMn mFn mRn mTn mVn mLr mTr mFl mFm mFp mSc mMp mEn) (hc26 mPa) (hc27 mTo) (hc28 mOt) (hc29 mNa) (hc30 mRe) (hc31 mMa) (hc32 mMy) (hc33 mPm) (hc34 mFy) (hc35 mFa) (hc36 mFr) (hc37 (upd mFo (mRn).toNatClampNeg f)) (hc38 (upd mRt (mRn).toNatClampNeg t)) (hc39 mRm) (hc40 mTt) (hc41 mTi) (hc42 mPl) (hc43 mVr) (hc44 mVf) (hc45 mVc) (hc46 mAr) (hc47 mTc) (hc48 mFt) (hc49 mGo) dyn, 0, 0)) rfl (pm_inI (by omega) (by omega)) ?_
              refine pm_go (g := (137, _, [.ref 25], _, 0, 0)) rfl ?_
              refine pm_go (g := (140, _, [.ref 39], _, 0, 0)) rfl ?_
              refine pm_go (g := (141, _, [.ref 25, .ref 39], _, 0, 0)) rfl ?_
              refine pm_go (g := (144, _, [.int mRn, .ref 39], _, 0, 0)) rfl ?_
              refine pm_go (g := (145, _, [.int w, .int mRn, .ref 39], _, 0, 0)) rfl ?_
              refine pm_sd (g := (146, _, [], hq g c1 c2 c3 c4 c5 c6 c7 c8 c9 c10 c11 c12 c13 c14 c15 c16 c17 c18 c19 c20 c21 c22 c23 c24 (hc25 mTy mTm mMn mFn mRn mTn mVn mLr mTr mFl mFm mFp mSc mMp mEn) (hc26 mPa) (hc27 mTo) (hc28 mOt) (hc29 mNa) (hc30 mRe) (hc31 mMa) (hc32 mMy) (hc33 mPm) (hc34 mFy) (hc35 mFa) (hc36 mFr) (hc37 (upd mFo (mRn).toNatClampNeg f)) (hc38 (upd mRt (mRn).toNatClampNeg t)) (hc39 (upd mRm (mRn).toNatClampNeg w)) (hc40 mTt) (hc41 mTi) (hc42 mPl) (hc43 mVr) (hc44 mVf) (hc45 mVc) (hc46 mAr) (hc47 mTc) (hc48 mFt) (hc49 mGo) dyn, 0, 0)) rfl (pm_inI (by omega) (by omega)) ?_
              refine pm_go (g := (147, _, [.ref 25], _, 0, 0)) rfl ?_
              refine pm_go (g := (148, _, [.ref 25, .ref 25], _, 0, 0)) rfl ?_
              refine pm_go (g := (151, _, [.int mRn, .ref 25], _, 0, 0)) rfl ?_
              refine pm_go (g := (152, _, [.int 1, .int mRn, .ref 25], _, 0, 0)) rfl ?_
              refine pm_go (g := (153, _, [.int (mRn + 1), .ref 25], _, 0, 0)) rfl ?_
              try have h42 : (mRn + 1).toInt = (mRn).toInt + 1 := iAdd (x := (mRn).toInt) (y := 1) rfl (by decide) (by omega) (by omega)
              refine pm_go (g := (156, _, [], hq g c1 c2 c3 c4 c5 c6 c7 c8 c9 c10 c11 c12 c13 c14 c15 c16 c17 c18 c19 c20 c21 c22 c23 c24 (hc25 mTy mTm mMn mFn (mRn + 1) mTn mVn mLr mTr mFl mFm mFp mSc mMp mEn) (hc26 mPa) (hc27 mTo) (hc28 mOt) (hc29 mNa) (hc30 mRe) (hc31 mMa) (hc32 mMy) (hc33 mPm) (hc34 mFy) (hc35 mFa) (hc36 mFr) (hc37 (upd mFo (mRn).toNatClampNeg f)) (hc38 (upd mRt (mRn).toNatClampNeg t)) (hc39 (upd mRm (mRn).toNatClampNeg w)) (hc40 mTt) (hc41 mTi) (hc42 mPl) (hc43 mVr) (hc44 mVf) (hc45 mVc) (hc46 mAr) (hc47 mTc) (hc48 mFt) (hc49 mGo) dyn, 0, 0)) rfl ?_
              refine pm_go (g := (157, _, [.ref 25], _, 0, 0)) rfl ?_
              refine pm_go (g := (160, _, [.int (mRn + 1)], _, 0, 0)) rfl ?_
              refine pm_go (g := (161, _, [.int 1, .int (mRn + 1)], _, 0, 0)) rfl ?_
              refine pm_go (g := (162, _, [.int ((mRn + 1) - 1)], _, 0, 0)) rfl ?_
              try have h43 : ((mRn + 1) - 1).toInt = (mRn + 1).toInt - 1 := iSub (x := (mRn + 1).toInt) (y := 1) rfl (by decide) (by omega) (by omega)
              first | exact pm_ret rfl (k0 (by omega)) | exact pm_ret rfl (k1 (by omega)) | exact pm_ret rfl (k2 (by omega)) | (exfalso; omega)
            have h41 := qF_ne (cx := (mRn).toInt) (cy := 30) rfl (by decide) h41
            refine pm_go (g := (115, _, [.int (-2)], hq g c1 c2 c3 c4 c5 c6 c7 c8 c9 c10 c11 c12 c13 c14 c15 c16 c17 c18 c19 c20 c21 c22 c23 c24 (hc25 mTy mTm mMn mFn mRn mTn mVn mLr mTr mFl mFm mFp mSc mMp mEn) (hc26 mPa) (hc27 mTo) (hc28 mOt) (hc29 mNa) (hc30 mRe) (hc31 mMa) (hc32 mMy) (hc33 mPm) (hc34 mFy) (hc35 mFa) (hc36 mFr) (hc37 mFo) (hc38 mRt) (hc39 mRm) (hc40 mTt) (hc41 mTi) (hc42 mPl) (hc43 mVr) (hc44 mVf) (hc45 mVc) (hc46 mAr) (hc47 mTc) (hc48 mFt) (hc49 mGo) dyn, 0, 0)) rfl ?_
            first | exact pm_ret rfl (k0 (by omega)) | exact pm_ret rfl (k1 (by omega)) | exact pm_ret rfl (k2 (by omega)) | (exfalso; omega)
          have h40 := qF_ge (cx := (f).toInt) (cy := 3) rfl (by decide) h40
          refine pm_go (g := (94, _, [.int w], _, 0, 0)) rfl ?_
          refine pm_go (g := (95, _, [.int 0, .int w], _, 0, 0)) rfl ?_
          refine pm_go (g := (96, _, [.int 5, .int 0, .int w], _, 0, 0)) rfl ?_
          refine pm_callD (z := 128) (as := [.int w, .int 0, .int 5]) (rest := []) rfl ?_
          have h44 : (0 : Int32).toInt = 0 := by decide
          have h45 : (5 : Int32).toInt = 5 := by decide
          refine w_X12_isIn w 0 5 (fun h46 => ?_) (fun h47 => ?_)
          ·
            show pm_WP 163 (99, [(4, .int 1), (0, .ref 25), (1, .int f), (2, .int t), (3, .int w)], [.int 1], _, 0, 0) _
            refine pm_brT (g := (104, [(4, .int 1), (0, .ref 25), (1, .int f), (2, .int t), (3, .int w)], [], hq g c1 c2 c3 c4 c5 c6 c7 c8 c9 c10 c11 c12 c13 c14 c15 c16 c17 c18 c19 c20 c21 c22 c23 c24 (hc25 mTy mTm mMn mFn mRn mTn mVn mLr mTr mFl mFm mFp mSc mMp mEn) (hc26 mPa) (hc27 mTo) (hc28 mOt) (hc29 mNa) (hc30 mRe) (hc31 mMa) (hc32 mMy) (hc33 mPm) (hc34 mFy) (hc35 mFa) (hc36 mFr) (hc37 mFo) (hc38 mRt) (hc39 mRm) (hc40 mTt) (hc41 mTi) (hc42 mPl) (hc43 mVr) (hc44 mVf) (hc45 mVc) (hc46 mAr) (hc47 mTc) (hc48 mFt) (hc49 mGo) dyn, 0, 0)) rfl ?_
            refine pm_go (g := (105, _, [.ref 25], _, 0, 0)) rfl ?_
            refine pm_go (g := (108, _, [.int mRn], _, 0, 0)) rfl ?_
            refine pm_go (g := (110, _, [.int 30, .int mRn], _, 0, 0)) rfl ?_
            refine pm_if2 (g := (116, [(4, .int 1), (0, .ref 25), (1, .int f), (2, .int t), (3, .int w)], [], hq g c1 c2 c3 c4 c5 c6 c7 c8 c9 c10 c11 c12 c13 c14 c15 c16 c17 c18 c19 c20 c21 c22 c23 c24 (hc25 mTy mTm mMn mFn mRn mTn mVn mLr mTr mFl mFm mFp mSc mMp mEn) (hc26 mPa) (hc27 mTo) (hc28 mOt) (hc29 mNa) (hc30 mRe) (hc31 mMa) (hc32 mMy) (hc33 mPm) (hc34 mFy) (hc35 mFa) (hc36 mFr) (hc37 mFo) (hc38 mRt) (hc39 mRm) (hc40 mTt) (hc41 mTi) (hc42 mPl) (hc43 mVr) (hc44 mVf) (hc45 mVc) (hc46 mAr) (hc47 mTc) (hc48 mFt) (hc49 mGo) dyn, 0, 0)) (h := (113, [(4, .int 1), (0, .ref 25), (1, .int f), (2, .int t), (3, .int w)], [], hq g c1 c2 c3 c4 c5 c6 c7 c8 c9 c10 c11 c12 c13 c14 c15 c16 c17 c18 c19 c20 c21 c22 c23 c24 (hc25 mTy mTm mMn mFn mRn mTn mVn mLr mTr mFl mFm mFp mSc mMp mEn) (hc26 mPa) (hc27 mTo) (hc28 mOt) (hc29 mNa) (hc30 mRe) (hc31 mMa) (hc32 mMy) (hc33 mPm) (hc34 mFy) (hc35 mFa) (hc36 mFr) (hc37 mFo) (hc38 mRt) (hc39 mRm) (hc40 mTt) (hc41 mTi) (hc42 mPl) (hc43 mVr) (hc44 mVf) (hc45 mVc) (hc46 mAr) (hc47 mTc) (hc48 mFt) (hc49 mGo) dyn, 0, 0)) rfl (fun h49 => ?_) (fun h49 => ?_)
            ·
              have h49 := qT_ne (cx := (mRn).toInt) (cy := 30) rfl (by decide) h49
              refine pm_go (g := (117, _, [.ref 25], _, 0, 0)) rfl ?_
              refine pm_go (g := (120, _, [.ref 37], _, 0, 0)) rfl ?_
              refine pm_go (g := (121, _, [.ref 25, .ref 37], _, 0, 0)) rfl ?_
              refine pm_go (g := (124, _, [.int mRn, .ref 37], _, 0, 0)) rfl ?_
              refine pm_go (g := (125, _, [.int f, .int mRn, .ref 37], _, 0, 0)) rfl ?_
              refine pm_sd (g := (126, _, [], hq g c1 c2 c3 c4 c5 c6 c7 c8 c9 c10 c11 c12 c13 c14 c15 c16 c17 c18 c19 c20 c21 c22 c23 c24 (hc25 mTy mTm mMn mFn mRn mTn mVn mLr mTr mFl mFm mFp mSc mMp mEn) (hc26 mPa) (hc27 mTo) (hc28 mOt) (hc29 mNa) (hc30 mRe) (hc31 mMa) (hc32 mMy) (hc33 mPm) (hc34 mFy) (hc35 mFa) (hc36 mFr) (hc37 (upd mFo (mRn).toNatClampNeg f)) (hc38 mRt) (hc39 mRm) (hc40 mTt) (hc41 mTi) (hc42 mPl) (hc43 mVr) (hc44 mVf) (hc45 mVc) (hc46 mAr) (hc47 mTc) (hc48 mFt) (hc49 mGo) dyn, 0, 0)) rfl (pm_inI (by omega) (by omega)) ?_
              refine pm_go (g := (127, _, [.ref 25], _, 0, 0)) rfl ?_
              refine pm_go (g := (130, _, [.ref 38], _, 0, 0)) rfl ?_
              refine pm_go (g := (131, _, [.ref 25, .ref 38], _, 0, 0)) rfl ?_
              refine pm_go (g := (134, _, [.int mRn, .ref 38], _, 0, 0)) rfl ?_
              refine pm_go (g := (135, _, [.int t, .int mRn, .ref 38], _, 0, 0)) rfl ?_
              refine pm_sd (g := (136, _, [], hq g c1 c2 c3 c4 c5 c6 c7 c8 c9 c10 c11 c12 c13 c14 c15 c16 c17 c18 c19 c20 c21 c22 c23 c24 (hc25 mTy mTm mMn mFn mRn mTn mVn mLr mTr mFl mFm mFp mSc mMp mEn) (hc26 mPa) (hc27 mTo) (hc28 mOt) (hc29 mNa) (hc30 mRe) (hc31 mMa) (hc32 mMy) (hc33 mPm) (hc34 mFy) (hc35 mFa) (hc36 mFr) (hc37 (upd mFo (mRn).toNatClampNeg f)) (hc38 (upd mRt (mRn).toNatClampNeg t)) (hc39 mRm) (hc40 mTt) (hc41 mTi) (hc42 mPl) (hc43 mVr) (hc44 mVf) (hc45 mVc) (hc46 mAr) (hc47 mTc) (hc48 mFt) (hc49 mGo) dyn, 0, 0)) rfl (pm_inI (by omega) (by omega)) ?_
              refine pm_go (g := (137, _, [.ref 25], _, 0, 0)) rfl ?_
              refine pm_go (g := (140, _, [.ref 39], _, 0, 0)) rfl ?_
              refine pm_go (g := (141, _, [.ref 25, .ref 39], _, 0, 0)) rfl ?_
              refine pm_go (g := (144, _, [.int mRn, .ref 39], _, 0, 0)) rfl ?_
              refine pm_go (g := (145, _, [.int w, .int mRn, .ref 39], _, 0, 0)) rfl ?_
              refine pm_sd (g := (146, _, [], hq g c1 c2 c3 c4 c5 c6 c7 c8 c9 c10 c11 c12 c13 c14 c15 c16 c17 c18 c19 c20 c21 c22 c23 c24 (hc25 mTy mTm mMn mFn mRn mTn mVn mLr mTr mFl mFm mFp mSc mMp mEn) (hc26 mPa) (hc27 mTo) (hc28 mOt) (hc29 mNa) (hc30 mRe) (hc31 mMa) (hc32 mMy) (hc33 mPm) (hc34 mFy) (hc35 mFa) (hc36 mFr) (hc37 (upd mFo (mRn).toNatClampNeg f)) (hc38 (upd mRt (mRn).toNatClampNeg t)) (hc39 (upd mRm (mRn).toNatClampNeg w)) (hc40 mTt) (hc41 mTi) (hc42 mPl) (hc43 mVr) (hc44 mVf) (hc45 mVc) (hc46 mAr) (hc47 mTc) (hc48 mFt) (hc49 mGo) dyn, 0, 0)) rfl (pm_inI (by omega) (by omega)) ?_
              refine pm_go (g := (147, _, [.ref 25], _, 0, 0)) rfl ?_
              refine pm_go (g := (148, _, [.ref 25, .ref 25], _, 0, 0)) rfl ?_
              refine pm_go (g := (151, _, [.int mRn, .ref 25], _, 0, 0)) rfl ?_
              refine pm_go (g := (152, _, [.int 1, .int mRn, .ref 25], _, 0, 0)) rfl ?_
              refine pm_go (g := (153, _, [.int (mRn + 1), .ref 25], _, 0, 0)) rfl ?_
              try have h50 : (mRn + 1).toInt = (mRn).toInt + 1 := iAdd (x := (mRn).toInt) (y := 1) rfl (by decide) (by omega) (by omega)
              refine pm_go (g := (156, _, [], hq g c1 c2 c3 c4 c5 c6 c7 c8 c9 c10 c11 c12 c13 c14 c15 c16 c17 c18 c19 c20 c21 c22 c23 c24 (hc25 mTy mTm mMn mFn (mRn + 1) mTn mVn mLr mTr mFl mFm mFp mSc mMp mEn) (hc26 mPa) (hc27 mTo) (hc28 mOt) (hc29 mNa) (hc30 mRe) (hc31 mMa) (hc32 mMy) (hc33 mPm) (hc34 mFy) (hc35 mFa) (hc36 mFr) (hc37 (upd mFo (mRn).toNatClampNeg f)) (hc38 (upd mRt (mRn).toNatClampNeg t)) (hc39 (upd mRm (mRn).toNatClampNeg w)) (hc40 mTt) (hc41 mTi) (hc42 mPl) (hc43 mVr) (hc44 mVf) (hc45 mVc) (hc46 mAr) (hc47 mTc) (hc48 mFt) (hc49 mGo) dyn, 0, 0)) rfl ?_
              refine pm_go (g := (157, _, [.ref 25], _, 0, 0)) rfl ?_
              refine pm_go (g := (160, _, [.int (mRn + 1)], _, 0, 0)) rfl ?_
              refine pm_go (g := (161, _, [.int 1, .int (mRn + 1)], _, 0, 0)) rfl ?_
              refine pm_go (g := (162, _, [.int ((mRn + 1) - 1)], _, 0, 0)) rfl ?_
              try have h51 : ((mRn + 1) - 1).toInt = (mRn + 1).toInt - 1 := iSub (x := (mRn + 1).toInt) (y := 1) rfl (by decide) (by omega) (by omega)
              first | exact pm_ret rfl (k0 (by omega)) | exact pm_ret rfl (k1 (by omega)) | exact pm_ret rfl (k2 (by omega)) | (exfalso; omega)
            have h49 := qF_ne (cx := (mRn).toInt) (cy := 30) rfl (by decide) h49
            refine pm_go (g := (115, _, [.int (-2)], hq g c1 c2 c3 c4 c5 c6 c7 c8 c9 c10 c11 c12 c13 c14 c15 c16 c17 c18 c19 c20 c21 c22 c23 c24 (hc25 mTy mTm mMn mFn mRn mTn mVn mLr mTr mFl mFm mFp mSc mMp mEn) (hc26 mPa) (hc27 mTo) (hc28 mOt) (hc29 mNa) (hc30 mRe) (hc31 mMa) (hc32 mMy) (hc33 mPm) (hc34 mFy) (hc35 mFa) (hc36 mFr) (hc37 mFo) (hc38 mRt) (hc39 mRm) (hc40 mTt) (hc41 mTi) (hc42 mPl) (hc43 mVr) (hc44 mVf) (hc45 mVc) (hc46 mAr) (hc47 mTc) (hc48 mFt) (hc49 mGo) dyn, 0, 0)) rfl ?_
            first | exact pm_ret rfl (k0 (by omega)) | exact pm_ret rfl (k1 (by omega)) | exact pm_ret rfl (k2 (by omega)) | (exfalso; omega)
          show pm_WP 163 (99, [(4, .int 1), (0, .ref 25), (1, .int f), (2, .int t), (3, .int w)], [.int 0], hq g c1 c2 c3 c4 c5 c6 c7 c8 c9 c10 c11 c12 c13 c14 c15 c16 c17 c18 c19 c20 c21 c22 c23 c24 (hc25 mTy mTm mMn mFn mRn mTn mVn mLr mTr mFl mFm mFp mSc mMp mEn) (hc26 mPa) (hc27 mTo) (hc28 mOt) (hc29 mNa) (hc30 mRe) (hc31 mMa) (hc32 mMy) (hc33 mPm) (hc34 mFy) (hc35 mFa) (hc36 mFr) (hc37 mFo) (hc38 mRt) (hc39 mRm) (hc40 mTt) (hc41 mTi) (hc42 mPl) (hc43 mVr) (hc44 mVf) (hc45 mVc) (hc46 mAr) (hc47 mTc) (hc48 mFt) (hc49 mGo) dyn, 0, 0) _
          refine pm_brF (h := (102, [(4, .int 1), (0, .ref 25), (1, .int f), (2, .int t), (3, .int w)], [], hq g c1 c2 c3 c4 c5 c6 c7 c8 c9 c10 c11 c12 c13 c14 c15 c16 c17 c18 c19 c20 c21 c22 c23 c24 (hc25 mTy mTm mMn mFn mRn mTn mVn mLr mTr mFl mFm mFp mSc mMp mEn) (hc26 mPa) (hc27 mTo) (hc28 mOt) (hc29 mNa) (hc30 mRe) (hc31 mMa) (hc32 mMy) (hc33 mPm) (hc34 mFy) (hc35 mFa) (hc36 mFr) (hc37 mFo) (hc38 mRt) (hc39 mRm) (hc40 mTt) (hc41 mTi) (hc42 mPl) (hc43 mVr) (hc44 mVf) (hc45 mVc) (hc46 mAr) (hc47 mTc) (hc48 mFt) (hc49 mGo) dyn, 0, 0)) rfl ?_
          refine pm_go (g := (103, _, [.int (-1)], _, 0, 0)) rfl ?_
          first | exact pm_ret rfl (k0 (by omega)) | exact pm_ret rfl (k1 (by omega)) | exact pm_ret rfl (k2 (by omega)) | (exfalso; omega)
        show pm_WP 163 (59, [(0, .ref 25), (1, .int f), (2, .int t), (3, .int w)], [.int 0], hq g c1 c2 c3 c4 c5 c6 c7 c8 c9 c10 c11 c12 c13 c14 c15 c16 c17 c18 c19 c20 c21 c22 c23 c24 (hc25 mTy mTm mMn mFn mRn mTn mVn mLr mTr mFl mFm mFp mSc mMp mEn) (hc26 mPa) (hc27 mTo) (hc28 mOt) (hc29 mNa) (hc30 mRe) (hc31 mMa) (hc32 mMy) (hc33 mPm) (hc34 mFy) (hc35 mFa) (hc36 mFr) (hc37 mFo) (hc38 mRt) (hc39 mRm) (hc40 mTt) (hc41 mTi) (hc42 mPl) (hc43 mVr) (hc44 mVf) (hc45 mVc) (hc46 mAr) (hc47 mTc) (hc48 mFt) (hc49 mGo) dyn, 0, 0) _
        refine pm_go (g := (81, _, [.int 0], _, 0, 0)) rfl ?_
        refine pm_go (g := (83, [(4, .int 0), (0, .ref 25), (1, .int f), (2, .int t), (3, .int w)], [], _, 0, 0)) rfl ?_
        refine pm_go (g := (85, _, [.int 0], _, 0, 0)) rfl ?_
        refine pm_brT (g := (102, [(4, .int 0), (0, .ref 25), (1, .int f), (2, .int t), (3, .int w)], [], hq g c1 c2 c3 c4 c5 c6 c7 c8 c9 c10 c11 c12 c13 c14 c15 c16 c17 c18 c19 c20 c21 c22 c23 c24 (hc25 mTy mTm mMn mFn mRn mTn mVn mLr mTr mFl mFm mFp mSc mMp mEn) (hc26 mPa) (hc27 mTo) (hc28 mOt) (hc29 mNa) (hc30 mRe) (hc31 mMa) (hc32 mMy) (hc33 mPm) (hc34 mFy) (hc35 mFa) (hc36 mFr) (hc37 mFo) (hc38 mRt) (hc39 mRm) (hc40 mTt) (hc41 mTi) (hc42 mPl) (hc43 mVr) (hc44 mVf) (hc45 mVc) (hc46 mAr) (hc47 mTc) (hc48 mFt) (hc49 mGo) dyn, 0, 0)) rfl ?_
        refine pm_go (g := (103, _, [.int (-1)], _, 0, 0)) rfl ?_
        first | exact pm_ret rfl (k0 (by omega)) | exact pm_ret rfl (k1 (by omega)) | exact pm_ret rfl (k2 (by omega)) | (exfalso; omega)
      have h7 := qF_ne (cx := (f).toInt) (cy := 2) rfl (by decide) h7
      refine pm_go (g := (30, [(0, .ref 25), (1, .int f), (2, .int t), (3, .int w)], [.ref 25], _, 0, 0)) rfl ?_
      refine pm_go (g := (31, _, [.int t, .ref 25], _, 0, 0)) rfl ?_
      refine pm_callD (z := 129) (as := [.ref 25, .int t]) (rest := []) rfl ?_
      refine w_X12_isClass t (by omega) (fun h52 => ?_) (fun h53 => ?_)
      ·
        show pm_WP 163 (34, [(0, .ref 25), (1, .int f), (2, .int t), (3, .int w)], [.int 1], _, 0, 0) _
        refine pm_brF (h := (37, [(0, .ref 25), (1, .int f), (2, .int t), (3, .int w)], [], hq g c1 c2 c3 c4 c5 c6 c7 c8 c9 c10 c11 c12 c13 c14 c15 c16 c17 c18 c19 c20 c21 c22 c23 c24 (hc25 mTy mTm mMn mFn mRn mTn mVn mLr mTr mFl mFm mFp mSc mMp mEn) (hc26 mPa) (hc27 mTo) (hc28 mOt) (hc29 mNa) (hc30 mRe) (hc31 mMa) (hc32 mMy) (hc33 mPm) (hc34 mFy) (hc35 mFa) (hc36 mFr) (hc37 mFo) (hc38 mRt) (hc39 mRm) (hc40 mTt) (hc41 mTi) (hc42 mPl) (hc43 mVr) (hc44 mVf) (hc45 mVc) (hc46 mAr) (hc47 mTc) (hc48 mFt) (hc49 mGo) dyn, 0, 0)) rfl ?_
        refine pm_go (g := (38, _, [.int t], _, 0, 0)) rfl ?_
        refine pm_if2 (g := (45, [(0, .ref 25), (1, .int f), (2, .int t), (3, .int w)], [], hq g c1 c2 c3 c4 c5 c6 c7 c8 c9 c10 c11 c12 c13 c14 c15 c16 c17 c18 c19 c20 c21 c22 c23 c24 (hc25 mTy mTm mMn mFn mRn mTn mVn mLr mTr mFl mFm mFp mSc mMp mEn) (hc26 mPa) (hc27 mTo) (hc28 mOt) (hc29 mNa) (hc30 mRe) (hc31 mMa) (hc32 mMy) (hc33 mPm) (hc34 mFy) (hc35 mFa) (hc36 mFr) (hc37 mFo) (hc38 mRt) (hc39 mRm) (hc40 mTt) (hc41 mTi) (hc42 mPl) (hc43 mVr) (hc44 mVf) (hc45 mVc) (hc46 mAr) (hc47 mTc) (hc48 mFt) (hc49 mGo) dyn, 0, 0)) (h := (41, [(0, .ref 25), (1, .int f), (2, .int t), (3, .int w)], [], hq g c1 c2 c3 c4 c5 c6 c7 c8 c9 c10 c11 c12 c13 c14 c15 c16 c17 c18 c19 c20 c21 c22 c23 c24 (hc25 mTy mTm mMn mFn mRn mTn mVn mLr mTr mFl mFm mFp mSc mMp mEn) (hc26 mPa) (hc27 mTo) (hc28 mOt) (hc29 mNa) (hc30 mRe) (hc31 mMa) (hc32 mMy) (hc33 mPm) (hc34 mFy) (hc35 mFa) (hc36 mFr) (hc37 mFo) (hc38 mRt) (hc39 mRm) (hc40 mTt) (hc41 mTi) (hc42 mPl) (hc43 mVr) (hc44 mVf) (hc45 mVc) (hc46 mAr) (hc47 mTc) (hc48 mFt) (hc49 mGo) dyn, 0, 0)) rfl (fun h55 => ?_) (fun h55 => ?_)
        ·
          have h55 := qT_eq (cx := (t).toInt) (cy := 0) rfl (by decide) h55
          refine pm_go (g := (46, _, [.int 0], _, 0, 0)) rfl ?_
          refine pm_go (g := (81, _, [.int 0], _, 0, 0)) rfl ?_
          refine pm_go (g := (83, [(4, .int 0), (0, .ref 25), (1, .int f), (2, .int t), (3, .int w)], [], _, 0, 0)) rfl ?_
          refine pm_go (g := (85, _, [.int 0], _, 0, 0)) rfl ?_
          refine pm_brT (g := (102, [(4, .int 0), (0, .ref 25), (1, .int f), (2, .int t), (3, .int w)], [], hq g c1 c2 c3 c4 c5 c6 c7 c8 c9 c10 c11 c12 c13 c14 c15 c16 c17 c18 c19 c20 c21 c22 c23 c24 (hc25 mTy mTm mMn mFn mRn mTn mVn mLr mTr mFl mFm mFp mSc mMp mEn) (hc26 mPa) (hc27 mTo) (hc28 mOt) (hc29 mNa) (hc30 mRe) (hc31 mMa) (hc32 mMy) (hc33 mPm) (hc34 mFy) (hc35 mFa) (hc36 mFr) (hc37 mFo) (hc38 mRt) (hc39 mRm) (hc40 mTt) (hc41 mTi) (hc42 mPl) (hc43 mVr) (hc44 mVf) (hc45 mVc) (hc46 mAr) (hc47 mTc) (hc48 mFt) (hc49 mGo) dyn, 0, 0)) rfl ?_
          refine pm_go (g := (103, _, [.int (-1)], _, 0, 0)) rfl ?_
          first | exact pm_ret rfl (k0 (by omega)) | exact pm_ret rfl (k1 (by omega)) | exact pm_ret rfl (k2 (by omega)) | (exfalso; omega)
        have h55 := qF_eq (cx := (t).toInt) (cy := 0) rfl (by decide) h55
        refine pm_go (g := (42, [(0, .ref 25), (1, .int f), (2, .int t), (3, .int w)], [.int 1], _, 0, 0)) rfl ?_
        refine pm_go (g := (81, _, [.int 1], _, 0, 0)) rfl ?_
        refine pm_go (g := (83, [(4, .int 1), (0, .ref 25), (1, .int f), (2, .int t), (3, .int w)], [], _, 0, 0)) rfl ?_
        refine pm_go (g := (85, _, [.int 1], _, 0, 0)) rfl ?_
        refine pm_brF (h := (88, [(4, .int 1), (0, .ref 25), (1, .int f), (2, .int t), (3, .int w)], [], hq g c1 c2 c3 c4 c5 c6 c7 c8 c9 c10 c11 c12 c13 c14 c15 c16 c17 c18 c19 c20 c21 c22 c23 c24 (hc25 mTy mTm mMn mFn mRn mTn mVn mLr mTr mFl mFm mFp mSc mMp mEn) (hc26 mPa) (hc27 mTo) (hc28 mOt) (hc29 mNa) (hc30 mRe) (hc31 mMa) (hc32 mMy) (hc33 mPm) (hc34 mFy) (hc35 mFa) (hc36 mFr) (hc37 mFo) (hc38 mRt) (hc39 mRm) (hc40 mTt) (hc41 mTi) (hc42 mPl) (hc43 mVr) (hc44 mVf) (hc45 mVc) (hc46 mAr) (hc47 mTc) (hc48 mFt) (hc49 mGo) dyn, 0, 0)) rfl ?_
        refine pm_go (g := (89, _, [.int f], _, 0, 0)) rfl ?_
        refine pm_go (g := (90, _, [.int 3, .int f], _, 0, 0)) rfl ?_
        refine pm_if2 (g := (104, [(4, .int 1), (0, .ref 25), (1, .int f), (2, .int t), (3, .int w)], [], hq g c1 c2 c3 c4 c5 c6 c7 c8 c9 c10 c11 c12 c13 c14 c15 c16 c17 c18 c19 c20 c21 c22 c23 c24 (hc25 mTy mTm mMn mFn mRn mTn mVn mLr mTr mFl mFm mFp mSc mMp mEn) (hc26 mPa) (hc27 mTo) (hc28 mOt) (hc29 mNa) (hc30 mRe) (hc31 mMa) (hc32 mMy) (hc33 mPm) (hc34 mFy) (hc35 mFa) (hc36 mFr) (hc37 mFo) (hc38 mRt) (hc39 mRm) (hc40 mTt) (hc41 mTi) (hc42 mPl) (hc43 mVr) (hc44 mVf) (hc45 mVc) (hc46 mAr) (hc47 mTc) (hc48 mFt) (hc49 mGo) dyn, 0, 0)) (h := (93, [(4, .int 1), (0, .ref 25), (1, .int f), (2, .int t), (3, .int w)], [], hq g c1 c2 c3 c4 c5 c6 c7 c8 c9 c10 c11 c12 c13 c14 c15 c16 c17 c18 c19 c20 c21 c22 c23 c24 (hc25 mTy mTm mMn mFn mRn mTn mVn mLr mTr mFl mFm mFp mSc mMp mEn) (hc26 mPa) (hc27 mTo) (hc28 mOt) (hc29 mNa) (hc30 mRe) (hc31 mMa) (hc32 mMy) (hc33 mPm) (hc34 mFy) (hc35 mFa) (hc36 mFr) (hc37 mFo) (hc38 mRt) (hc39 mRm) (hc40 mTt) (hc41 mTi) (hc42 mPl) (hc43 mVr) (hc44 mVf) (hc45 mVc) (hc46 mAr) (hc47 mTc) (hc48 mFt) (hc49 mGo) dyn, 0, 0)) rfl (fun h56 => ?_) (fun h56 => ?_)
        ·
          have h56 := qT_ge (cx := (f).toInt) (cy := 3) rfl (by decide) h56
          refine pm_go (g := (105, _, [.ref 25], _, 0, 0)) rfl ?_
          refine pm_go (g := (108, _, [.int mRn], _, 0, 0)) rfl ?_
          refine pm_go (g := (110, _, [.int 30, .int mRn], _, 0, 0)) rfl ?_
          refine pm_if2 (g := (116, [(4, .int 1), (0, .ref 25), (1, .int f), (2, .int t), (3, .int w)], [], hq g c1 c2 c3 c4 c5 c6 c7 c8 c9 c10 c11 c12 c13 c14 c15 c16 c17 c18 c19 c20 c21 c22 c23 c24 (hc25 mTy mTm mMn mFn mRn mTn mVn mLr mTr mFl mFm mFp mSc mMp mEn) (hc26 mPa) (hc27 mTo) (hc28 mOt) (hc29 mNa) (hc30 mRe) (hc31 mMa) (hc32 mMy) (hc33 mPm) (hc34 mFy) (hc35 mFa) (hc36 mFr) (hc37 mFo) (hc38 mRt) (hc39 mRm) (hc40 mTt) (hc41 mTi) (hc42 mPl) (hc43 mVr) (hc44 mVf) (hc45 mVc) (hc46 mAr) (hc47 mTc) (hc48 mFt) (hc49 mGo) dyn, 0, 0)) (h := (113, [(4, .int 1), (0, .ref 25), (1, .int f), (2, .int t), (3, .int w)], [], hq g c1 c2 c3 c4 c5 c6 c7 c8 c9 c10 c11 c12 c13 c14 c15 c16 c17 c18 c19 c20 c21 c22 c23 c24 (hc25 mTy mTm mMn mFn mRn mTn mVn mLr mTr mFl mFm mFp mSc mMp mEn) (hc26 mPa) (hc27 mTo) (hc28 mOt) (hc29 mNa) (hc30 mRe) (hc31 mMa) (hc32 mMy) (hc33 mPm) (hc34 mFy) (hc35 mFa) (hc36 mFr) (hc37 mFo) (hc38 mRt) (hc39 mRm) (hc40 mTt) (hc41 mTi) (hc42 mPl) (hc43 mVr) (hc44 mVf) (hc45 mVc) (hc46 mAr) (hc47 mTc) (hc48 mFt) (hc49 mGo) dyn, 0, 0)) rfl (fun h57 => ?_) (fun h57 => ?_)
          ·
            have h57 := qT_ne (cx := (mRn).toInt) (cy := 30) rfl (by decide) h57
            refine pm_go (g := (117, _, [.ref 25], _, 0, 0)) rfl ?_
            refine pm_go (g := (120, _, [.ref 37], _, 0, 0)) rfl ?_
            refine pm_go (g := (121, _, [.ref 25, .ref 37], _, 0, 0)) rfl ?_
            refine pm_go (g := (124, _, [.int mRn, .ref 37], _, 0, 0)) rfl ?_
            refine pm_go (g := (125, _, [.int f, .int mRn, .ref 37], _, 0, 0)) rfl ?_
            refine pm_sd (g := (126, _, [], hq g c1 c2 c3 c4 c5 c6 c7 c8 c9 c10 c11 c12 c13 c14 c15 c16 c17 c18 c19 c20 c21 c22 c23 c24 (hc25 mTy mTm mMn mFn mRn mTn mVn mLr mTr mFl mFm mFp mSc mMp mEn) (hc26 mPa) (hc27 mTo) (hc28 mOt) (hc29 mNa) (hc30 mRe) (hc31 mMa) (hc32 mMy) (hc33 mPm) (hc34 mFy) (hc35 mFa) (hc36 mFr) (hc37 (upd mFo (mRn).toNatClampNeg f)) (hc38 mRt) (hc39 mRm) (hc40 mTt) (hc41 mTi) (hc42 mPl) (hc43 mVr) (hc44 mVf) (hc45 mVc) (hc46 mAr) (hc47 mTc) (hc48 mFt) (hc49 mGo) dyn, 0, 0)) rfl (pm_inI (by omega) (by omega)) ?_
            refine pm_go (g := (127, _, [.ref 25], _, 0, 0)) rfl ?_
            refine pm_go (g := (130, _, [.ref 38], _, 0, 0)) rfl ?_
            refine pm_go (g := (131, _, [.ref 25, .ref 38], _, 0, 0)) rfl ?_
            refine pm_go (g := (134, _, [.int mRn, .ref 38], _, 0, 0)) rfl ?_
            refine pm_go (g := (135, _, [.int t, .int mRn, .ref 38], _, 0, 0)) rfl ?_
            refine pm_sd (g := (136, _, [], hq g c1 c2 c3 c4 c5 c6 c7 c8 c9 c10 c11 c12 c13 c14 c15 c16 c17 c18 c19 c20 c21 c22 c23 c24 (hc25 mTy mTm mMn mFn mRn mTn mVn mLr mTr mFl mFm mFp mSc mMp mEn) (hc26 mPa) (hc27 mTo) (hc28 mOt) (hc29 mNa) (hc30 mRe) (hc31 mMa) (hc32 mMy) (hc33 mPm) (hc34 mFy) (hc35 mFa) (hc36 mFr) (hc37 (upd mFo (mRn).toNatClampNeg f)) (hc38 (upd mRt (mRn).toNatClampNeg t)) (hc39 mRm) (hc40 mTt) (hc41 mTi) (hc42 mPl) (hc43 mVr) (hc44 mVf) (hc45 mVc) (hc46 mAr) (hc47 mTc) (hc48 mFt) (hc49 mGo) dyn, 0, 0)) rfl (pm_inI (by omega) (by omega)) ?_
            refine pm_go (g := (137, _, [.ref 25], _, 0, 0)) rfl ?_
            refine pm_go (g := (140, _, [.ref 39], _, 0, 0)) rfl ?_
            refine pm_go (g := (141, _, [.ref 25, .ref 39], _, 0, 0)) rfl ?_
            refine pm_go (g := (144, _, [.int mRn, .ref 39], _, 0, 0)) rfl ?_
            refine pm_go (g := (145, _, [.int w, .int mRn, .ref 39], _, 0, 0)) rfl ?_
            refine pm_sd (g := (146, _, [], hq g c1 c2 c3 c4 c5 c6 c7 c8 c9 c10 c11 c12 c13 c14 c15 c16 c17 c18 c19 c20 c21 c22 c23 c24 (hc25 mTy mTm mMn mFn mRn mTn mVn mLr mTr mFl mFm mFp mSc mMp mEn) (hc26 mPa) (hc27 mTo) (hc28 mOt) (hc29 mNa) (hc30 mRe) (hc31 mMa) (hc32 mMy) (hc33 mPm) (hc34 mFy) (hc35 mFa) (hc36 mFr) (hc37 (upd mFo (mRn).toNatClampNeg f)) (hc38 (upd mRt (mRn).toNatClampNeg t)) (hc39 (upd mRm (mRn).toNatClampNeg w)) (hc40 mTt) (hc41 mTi) (hc42 mPl) (hc43 mVr) (hc44 mVf) (hc45 mVc) (hc46 mAr) (hc47 mTc) (hc48 mFt) (hc49 mGo) dyn, 0, 0)) rfl (pm_inI (by omega) (by omega)) ?_
            refine pm_go (g := (147, _, [.ref 25], _, 0, 0)) rfl ?_
            refine pm_go (g := (148, _, [.ref 25, .ref 25], _, 0, 0)) rfl ?_
            refine pm_go (g := (151, _, [.int mRn, .ref 25], _, 0, 0)) rfl ?_
            refine pm_go (g := (152, _, [.int 1, .int mRn, .ref 25], _, 0, 0)) rfl ?_
            refine pm_go (g := (153, _, [.int (mRn + 1), .ref 25], _, 0, 0)) rfl ?_
            try have h58 : (mRn + 1).toInt = (mRn).toInt + 1 := iAdd (x := (mRn).toInt) (y := 1) rfl (by decide) (by omega) (by omega)
            refine pm_go (g := (156, _, [], hq g c1 c2 c3 c4 c5 c6 c7 c8 c9 c10 c11 c12 c13 c14 c15 c16 c17 c18 c19 c20 c21 c22 c23 c24 (hc25 mTy mTm mMn mFn (mRn + 1) mTn mVn mLr mTr mFl mFm mFp mSc mMp mEn) (hc26 mPa) (hc27 mTo) (hc28 mOt) (hc29 mNa) (hc30 mRe) (hc31 mMa) (hc32 mMy) (hc33 mPm) (hc34 mFy) (hc35 mFa) (hc36 mFr) (hc37 (upd mFo (mRn).toNatClampNeg f)) (hc38 (upd mRt (mRn).toNatClampNeg t)) (hc39 (upd mRm (mRn).toNatClampNeg w)) (hc40 mTt) (hc41 mTi) (hc42 mPl) (hc43 mVr) (hc44 mVf) (hc45 mVc) (hc46 mAr) (hc47 mTc) (hc48 mFt) (hc49 mGo) dyn, 0, 0)) rfl ?_
            refine pm_go (g := (157, _, [.ref 25], _, 0, 0)) rfl ?_
            refine pm_go (g := (160, _, [.int (mRn + 1)], _, 0, 0)) rfl ?_
            refine pm_go (g := (161, _, [.int 1, .int (mRn + 1)], _, 0, 0)) rfl ?_
            refine pm_go (g := (162, _, [.int ((mRn + 1) - 1)], _, 0, 0)) rfl ?_
            try have h59 : ((mRn + 1) - 1).toInt = (mRn + 1).toInt - 1 := iSub (x := (mRn + 1).toInt) (y := 1) rfl (by decide) (by omega) (by omega)
            first | exact pm_ret rfl (k0 (by omega)) | exact pm_ret rfl (k1 (by omega)) | exact pm_ret rfl (k2 (by omega)) | (exfalso; omega)
          have h57 := qF_ne (cx := (mRn).toInt) (cy := 30) rfl (by decide) h57
          refine pm_go (g := (115, _, [.int (-2)], hq g c1 c2 c3 c4 c5 c6 c7 c8 c9 c10 c11 c12 c13 c14 c15 c16 c17 c18 c19 c20 c21 c22 c23 c24 (hc25 mTy mTm mMn mFn mRn mTn mVn mLr mTr mFl mFm mFp mSc mMp mEn) (hc26 mPa) (hc27 mTo) (hc28 mOt) (hc29 mNa) (hc30 mRe) (hc31 mMa) (hc32 mMy) (hc33 mPm) (hc34 mFy) (hc35 mFa) (hc36 mFr) (hc37 mFo) (hc38 mRt) (hc39 mRm) (hc40 mTt) (hc41 mTi) (hc42 mPl) (hc43 mVr) (hc44 mVf) (hc45 mVc) (hc46 mAr) (hc47 mTc) (hc48 mFt) (hc49 mGo) dyn, 0, 0)) rfl ?_
          first | exact pm_ret rfl (k0 (by omega)) | exact pm_ret rfl (k1 (by omega)) | exact pm_ret rfl (k2 (by omega)) | (exfalso; omega)
        have h56 := qF_ge (cx := (f).toInt) (cy := 3) rfl (by decide) h56
        refine pm_go (g := (94, _, [.int w], _, 0, 0)) rfl ?_
        refine pm_go (g := (95, _, [.int 0, .int w], _, 0, 0)) rfl ?_
        refine pm_go (g := (96, _, [.int 5, .int 0, .int w], _, 0, 0)) rfl ?_
        refine pm_callD (z := 128) (as := [.int w, .int 0, .int 5]) (rest := []) rfl ?_
        have h60 : (0 : Int32).toInt = 0 := by decide
        have h61 : (5 : Int32).toInt = 5 := by decide
        refine w_X12_isIn w 0 5 (fun h62 => ?_) (fun h63 => ?_)
        ·
          show pm_WP 163 (99, [(4, .int 1), (0, .ref 25), (1, .int f), (2, .int t), (3, .int w)], [.int 1], _, 0, 0) _
          refine pm_brT (g := (104, [(4, .int 1), (0, .ref 25), (1, .int f), (2, .int t), (3, .int w)], [], hq g c1 c2 c3 c4 c5 c6 c7 c8 c9 c10 c11 c12 c13 c14 c15 c16 c17 c18 c19 c20 c21 c22 c23 c24 (hc25 mTy mTm mMn mFn mRn mTn mVn mLr mTr mFl mFm mFp mSc mMp mEn) (hc26 mPa) (hc27 mTo) (hc28 mOt) (hc29 mNa) (hc30 mRe) (hc31 mMa) (hc32 mMy) (hc33 mPm) (hc34 mFy) (hc35 mFa) (hc36 mFr) (hc37 mFo) (hc38 mRt) (hc39 mRm) (hc40 mTt) (hc41 mTi) (hc42 mPl) (hc43 mVr) (hc44 mVf) (hc45 mVc) (hc46 mAr) (hc47 mTc) (hc48 mFt) (hc49 mGo) dyn, 0, 0)) rfl ?_
          refine pm_go (g := (105, _, [.ref 25], _, 0, 0)) rfl ?_
          refine pm_go (g := (108, _, [.int mRn], _, 0, 0)) rfl ?_
          refine pm_go (g := (110, _, [.int 30, .int mRn], _, 0, 0)) rfl ?_
          refine pm_if2 (g := (116, [(4, .int 1), (0, .ref 25), (1, .int f), (2, .int t), (3, .int w)], [], hq g c1 c2 c3 c4 c5 c6 c7 c8 c9 c10 c11 c12 c13 c14 c15 c16 c17 c18 c19 c20 c21 c22 c23 c24 (hc25 mTy mTm mMn mFn mRn mTn mVn mLr mTr mFl mFm mFp mSc mMp mEn) (hc26 mPa) (hc27 mTo) (hc28 mOt) (hc29 mNa) (hc30 mRe) (hc31 mMa) (hc32 mMy) (hc33 mPm) (hc34 mFy) (hc35 mFa) (hc36 mFr) (hc37 mFo) (hc38 mRt) (hc39 mRm) (hc40 mTt) (hc41 mTi) (hc42 mPl) (hc43 mVr) (hc44 mVf) (hc45 mVc) (hc46 mAr) (hc47 mTc) (hc48 mFt) (hc49 mGo) dyn, 0, 0)) (h := (113, [(4, .int 1), (0, .ref 25), (1, .int f), (2, .int t), (3, .int w)], [], hq g c1 c2 c3 c4 c5 c6 c7 c8 c9 c10 c11 c12 c13 c14 c15 c16 c17 c18 c19 c20 c21 c22 c23 c24 (hc25 mTy mTm mMn mFn mRn mTn mVn mLr mTr mFl mFm mFp mSc mMp mEn) (hc26 mPa) (hc27 mTo) (hc28 mOt) (hc29 mNa) (hc30 mRe) (hc31 mMa) (hc32 mMy) (hc33 mPm) (hc34 mFy) (hc35 mFa) (hc36 mFr) (hc37 mFo) (hc38 mRt) (hc39 mRm) (hc40 mTt) (hc41 mTi) (hc42 mPl) (hc43 mVr) (hc44 mVf) (hc45 mVc) (hc46 mAr) (hc47 mTc) (hc48 mFt) (hc49 mGo) dyn, 0, 0)) rfl (fun h65 => ?_) (fun h65 => ?_)
          ·
            have h65 := qT_ne (cx := (mRn).toInt) (cy := 30) rfl (by decide) h65
            refine pm_go (g := (117, _, [.ref 25], _, 0, 0)) rfl ?_
            refine pm_go (g := (120, _, [.ref 37], _, 0, 0)) rfl ?_
            refine pm_go (g := (121, _, [.ref 25, .ref 37], _, 0, 0)) rfl ?_
            refine pm_go (g := (124, _, [.int mRn, .ref 37], _, 0, 0)) rfl ?_
            refine pm_go (g := (125, _, [.int f, .int mRn, .ref 37], _, 0, 0)) rfl ?_
            refine pm_sd (g := (126, _, [], hq g c1 c2 c3 c4 c5 c6 c7 c8 c9 c10 c11 c12 c13 c14 c15 c16 c17 c18 c19 c20 c21 c22 c23 c24 (hc25 mTy mTm mMn mFn mRn mTn mVn mLr mTr mFl mFm mFp mSc mMp mEn) (hc26 mPa) (hc27 mTo) (hc28 mOt) (hc29 mNa) (hc30 mRe) (hc31 mMa) (hc32 mMy) (hc33 mPm) (hc34 mFy) (hc35 mFa) (hc36 mFr) (hc37 (upd mFo (mRn).toNatClampNeg f)) (hc38 mRt) (hc39 mRm) (hc40 mTt) (hc41 mTi) (hc42 mPl) (hc43 mVr) (hc44 mVf) (hc45 mVc) (hc46 mAr) (hc47 mTc) (hc48 mFt) (hc49 mGo) dyn, 0, 0)) rfl (pm_inI (by omega) (by omega)) ?_
            refine pm_go (g := (127, _, [.ref 25], _, 0, 0)) rfl ?_
            refine pm_go (g := (130, _, [.ref 38], _, 0, 0)) rfl ?_
            refine pm_go (g := (131, _, [.ref 25, .ref 38], _, 0, 0)) rfl ?_
            refine pm_go (g := (134, _, [.int mRn, .ref 38], _, 0, 0)) rfl ?_
            refine pm_go (g := (135, _, [.int t, .int mRn, .ref 38], _, 0, 0)) rfl ?_
            refine pm_sd (g := (136, _, [], hq g c1 c2 c3 c4 c5 c6 c7 c8 c9 c10 c11 c12 c13 c14 c15 c16 c17 c18 c19 c20 c21 c22 c23 c24 (hc25 mTy mTm mMn mFn mRn mTn mVn mLr mTr mFl mFm mFp mSc mMp mEn) (hc26 mPa) (hc27 mTo) (hc28 mOt) (hc29 mNa) (hc30 mRe) (hc31 mMa) (hc32 mMy) (hc33 mPm) (hc34 mFy) (hc35 mFa) (hc36 mFr) (hc37 (upd mFo (mRn).toNatClampNeg f)) (hc38 (upd mRt (mRn).toNatClampNeg t)) (hc39 mRm) (hc40 mTt) (hc41 mTi) (hc42 mPl) (hc43 mVr) (hc44 mVf) (hc45 mVc) (hc46 mAr) (hc47 mTc) (hc48 mFt) (hc49 mGo) dyn, 0, 0)) rfl (pm_inI (by omega) (by omega)) ?_
            refine pm_go (g := (137, _, [.ref 25], _, 0, 0)) rfl ?_
            refine pm_go (g := (140, _, [.ref 39], _, 0, 0)) rfl ?_
            refine pm_go (g := (141, _, [.ref 25, .ref 39], _, 0, 0)) rfl ?_
            refine pm_go (g := (144, _, [.int mRn, .ref 39], _, 0, 0)) rfl ?_
            refine pm_go (g := (145, _, [.int w, .int mRn, .ref 39], _, 0, 0)) rfl ?_
            refine pm_sd (g := (146, _, [], hq g c1 c2 c3 c4 c5 c6 c7 c8 c9 c10 c11 c12 c13 c14 c15 c16 c17 c18 c19 c20 c21 c22 c23 c24 (hc25 mTy mTm mMn mFn mRn mTn mVn mLr mTr mFl mFm mFp mSc mMp mEn) (hc26 mPa) (hc27 mTo) (hc28 mOt) (hc29 mNa) (hc30 mRe) (hc31 mMa) (hc32 mMy) (hc33 mPm) (hc34 mFy) (hc35 mFa) (hc36 mFr) (hc37 (upd mFo (mRn).toNatClampNeg f)) (hc38 (upd mRt (mRn).toNatClampNeg t)) (hc39 (upd mRm (mRn).toNatClampNeg w)) (hc40 mTt) (hc41 mTi) (hc42 mPl) (hc43 mVr) (hc44 mVf) (hc45 mVc) (hc46 mAr) (hc47 mTc) (hc48 mFt) (hc49 mGo) dyn, 0, 0)) rfl (pm_inI (by omega) (by omega)) ?_
            refine pm_go (g := (147, _, [.ref 25], _, 0, 0)) rfl ?_
            refine pm_go (g := (148, _, [.ref 25, .ref 25], _, 0, 0)) rfl ?_
            refine pm_go (g := (151, _, [.int mRn, .ref 25], _, 0, 0)) rfl ?_
            refine pm_go (g := (152, _, [.int 1, .int mRn, .ref 25], _, 0, 0)) rfl ?_
            refine pm_go (g := (153, _, [.int (mRn + 1), .ref 25], _, 0, 0)) rfl ?_
            try have h66 : (mRn + 1).toInt = (mRn).toInt + 1 := iAdd (x := (mRn).toInt) (y := 1) rfl (by decide) (by omega) (by omega)
            refine pm_go (g := (156, _, [], hq g c1 c2 c3 c4 c5 c6 c7 c8 c9 c10 c11 c12 c13 c14 c15 c16 c17 c18 c19 c20 c21 c22 c23 c24 (hc25 mTy mTm mMn mFn (mRn + 1) mTn mVn mLr mTr mFl mFm mFp mSc mMp mEn) (hc26 mPa) (hc27 mTo) (hc28 mOt) (hc29 mNa) (hc30 mRe) (hc31 mMa) (hc32 mMy) (hc33 mPm) (hc34 mFy) (hc35 mFa) (hc36 mFr) (hc37 (upd mFo (mRn).toNatClampNeg f)) (hc38 (upd mRt (mRn).toNatClampNeg t)) (hc39 (upd mRm (mRn).toNatClampNeg w)) (hc40 mTt) (hc41 mTi) (hc42 mPl) (hc43 mVr) (hc44 mVf) (hc45 mVc) (hc46 mAr) (hc47 mTc) (hc48 mFt) (hc49 mGo) dyn, 0, 0)) rfl ?_
            refine pm_go (g := (157, _, [.ref 25], _, 0, 0)) rfl ?_
            refine pm_go (g := (160, _, [.int (mRn + 1)], _, 0, 0)) rfl ?_
            refine pm_go (g := (161, _, [.int 1, .int (mRn + 1)], _, 0, 0)) rfl ?_
            refine pm_go (g := (162, _, [.int ((mRn + 1) - 1)], _, 0, 0)) rfl ?_
            try have h67 : ((mRn + 1) - 1).toInt = (mRn + 1).toInt - 1 := iSub (x := (mRn + 1).toInt) (y := 1) rfl (by decide) (by omega) (by omega)
            first | exact pm_ret rfl (k0 (by omega)) | exact pm_ret rfl (k1 (by omega)) | exact pm_ret rfl (k2 (by omega)) | (exfalso; omega)
          have h65 := qF_ne (cx := (mRn).toInt) (cy := 30) rfl (by decide) h65
          refine pm_go (g := (115, _, [.int (-2)], hq g c1 c2 c3 c4 c5 c6 c7 c8 c9 c10 c11 c12 c13 c14 c15 c16 c17 c18 c19 c20 c21 c22 c23 c24 (hc25 mTy mTm mMn mFn mRn mTn mVn mLr mTr mFl mFm mFp mSc mMp mEn) (hc26 mPa) (hc27 mTo) (hc28 mOt) (hc29 mNa) (hc30 mRe) (hc31 mMa) (hc32 mMy) (hc33 mPm) (hc34 mFy) (hc35 mFa) (hc36 mFr) (hc37 mFo) (hc38 mRt) (hc39 mRm) (hc40 mTt) (hc41 mTi) (hc42 mPl) (hc43 mVr) (hc44 mVf) (hc45 mVc) (hc46 mAr) (hc47 mTc) (hc48 mFt) (hc49 mGo) dyn, 0, 0)) rfl ?_
          first | exact pm_ret rfl (k0 (by omega)) | exact pm_ret rfl (k1 (by omega)) | exact pm_ret rfl (k2 (by omega)) | (exfalso; omega)
        show pm_WP 163 (99, [(4, .int 1), (0, .ref 25), (1, .int f), (2, .int t), (3, .int w)], [.int 0], hq g c1 c2 c3 c4 c5 c6 c7 c8 c9 c10 c11 c12 c13 c14 c15 c16 c17 c18 c19 c20 c21 c22 c23 c24 (hc25 mTy mTm mMn mFn mRn mTn mVn mLr mTr mFl mFm mFp mSc mMp mEn) (hc26 mPa) (hc27 mTo) (hc28 mOt) (hc29 mNa) (hc30 mRe) (hc31 mMa) (hc32 mMy) (hc33 mPm) (hc34 mFy) (hc35 mFa) (hc36 mFr) (hc37 mFo) (hc38 mRt) (hc39 mRm) (hc40 mTt) (hc41 mTi) (hc42 mPl) (hc43 mVr) (hc44 mVf) (hc45 mVc) (hc46 mAr) (hc47 mTc) (hc48 mFt) (hc49 mGo) dyn, 0, 0) _
        refine pm_brF (h := (102, [(4, .int 1), (0, .ref 25), (1, .int f), (2, .int t), (3, .int w)], [], hq g c1 c2 c3 c4 c5 c6 c7 c8 c9 c10 c11 c12 c13 c14 c15 c16 c17 c18 c19 c20 c21 c22 c23 c24 (hc25 mTy mTm mMn mFn mRn mTn mVn mLr mTr mFl mFm mFp mSc mMp mEn) (hc26 mPa) (hc27 mTo) (hc28 mOt) (hc29 mNa) (hc30 mRe) (hc31 mMa) (hc32 mMy) (hc33 mPm) (hc34 mFy) (hc35 mFa) (hc36 mFr) (hc37 mFo) (hc38 mRt) (hc39 mRm) (hc40 mTt) (hc41 mTi) (hc42 mPl) (hc43 mVr) (hc44 mVf) (hc45 mVc) (hc46 mAr) (hc47 mTc) (hc48 mFt) (hc49 mGo) dyn, 0, 0)) rfl ?_
        refine pm_go (g := (103, _, [.int (-1)], _, 0, 0)) rfl ?_
        first | exact pm_ret rfl (k0 (by omega)) | exact pm_ret rfl (k1 (by omega)) | exact pm_ret rfl (k2 (by omega)) | (exfalso; omega)
      show pm_WP 163 (34, [(0, .ref 25), (1, .int f), (2, .int t), (3, .int w)], [.int 0], hq g c1 c2 c3 c4 c5 c6 c7 c8 c9 c10 c11 c12 c13 c14 c15 c16 c17 c18 c19 c20 c21 c22 c23 c24 (hc25 mTy mTm mMn mFn mRn mTn mVn mLr mTr mFl mFm mFp mSc mMp mEn) (hc26 mPa) (hc27 mTo) (hc28 mOt) (hc29 mNa) (hc30 mRe) (hc31 mMa) (hc32 mMy) (hc33 mPm) (hc34 mFy) (hc35 mFa) (hc36 mFr) (hc37 mFo) (hc38 mRt) (hc39 mRm) (hc40 mTt) (hc41 mTi) (hc42 mPl) (hc43 mVr) (hc44 mVf) (hc45 mVc) (hc46 mAr) (hc47 mTc) (hc48 mFt) (hc49 mGo) dyn, 0, 0) _
      refine pm_brT (g := (45, [(0, .ref 25), (1, .int f), (2, .int t), (3, .int w)], [], hq g c1 c2 c3 c4 c5 c6 c7 c8 c9 c10 c11 c12 c13 c14 c15 c16 c17 c18 c19 c20 c21 c22 c23 c24 (hc25 mTy mTm mMn mFn mRn mTn mVn mLr mTr mFl mFm mFp mSc mMp mEn) (hc26 mPa) (hc27 mTo) (hc28 mOt) (hc29 mNa) (hc30 mRe) (hc31 mMa) (hc32 mMy) (hc33 mPm) (hc34 mFy) (hc35 mFa) (hc36 mFr) (hc37 mFo) (hc38 mRt) (hc39 mRm) (hc40 mTt) (hc41 mTi) (hc42 mPl) (hc43 mVr) (hc44 mVf) (hc45 mVc) (hc46 mAr) (hc47 mTc) (hc48 mFt) (hc49 mGo) dyn, 0, 0)) rfl ?_
      refine pm_go (g := (46, _, [.int 0], _, 0, 0)) rfl ?_
      refine pm_go (g := (81, _, [.int 0], _, 0, 0)) rfl ?_
      refine pm_go (g := (83, [(4, .int 0), (0, .ref 25), (1, .int f), (2, .int t), (3, .int w)], [], _, 0, 0)) rfl ?_
      refine pm_go (g := (85, _, [.int 0], _, 0, 0)) rfl ?_
      refine pm_brT (g := (102, [(4, .int 0), (0, .ref 25), (1, .int f), (2, .int t), (3, .int w)], [], hq g c1 c2 c3 c4 c5 c6 c7 c8 c9 c10 c11 c12 c13 c14 c15 c16 c17 c18 c19 c20 c21 c22 c23 c24 (hc25 mTy mTm mMn mFn mRn mTn mVn mLr mTr mFl mFm mFp mSc mMp mEn) (hc26 mPa) (hc27 mTo) (hc28 mOt) (hc29 mNa) (hc30 mRe) (hc31 mMa) (hc32 mMy) (hc33 mPm) (hc34 mFy) (hc35 mFa) (hc36 mFr) (hc37 mFo) (hc38 mRt) (hc39 mRm) (hc40 mTt) (hc41 mTi) (hc42 mPl) (hc43 mVr) (hc44 mVf) (hc45 mVc) (hc46 mAr) (hc47 mTc) (hc48 mFt) (hc49 mGo) dyn, 0, 0)) rfl ?_
      refine pm_go (g := (103, _, [.int (-1)], _, 0, 0)) rfl ?_
      first | exact pm_ret rfl (k0 (by omega)) | exact pm_ret rfl (k1 (by omega)) | exact pm_ret rfl (k2 (by omega)) | (exfalso; omega)
    have h6 := qF_ge (cx := (f).toInt) (cy := 2) rfl (by decide) h6
    refine pm_go (g := (17, [(0, .ref 25), (1, .int f), (2, .int t), (3, .int w)], [.ref 25], _, 0, 0)) rfl ?_
    refine pm_go (g := (18, _, [.int t, .ref 25], _, 0, 0)) rfl ?_
    refine pm_callD (z := 129) (as := [.ref 25, .int t]) (rest := []) rfl ?_
    refine w_X12_isClass t (by omega) (fun h68 => ?_) (fun h69 => ?_)
    ·
      show pm_WP 163 (21, [(0, .ref 25), (1, .int f), (2, .int t), (3, .int w)], [.int 1], _, 0, 0) _
      refine pm_go (g := (81, _, [.int 1], _, 0, 0)) rfl ?_
      refine pm_go (g := (83, [(4, .int 1), (0, .ref 25), (1, .int f), (2, .int t), (3, .int w)], [], _, 0, 0)) rfl ?_
      refine pm_go (g := (85, _, [.int 1], _, 0, 0)) rfl ?_
      refine pm_brF (h := (88, [(4, .int 1), (0, .ref 25), (1, .int f), (2, .int t), (3, .int w)], [], hq g c1 c2 c3 c4 c5 c6 c7 c8 c9 c10 c11 c12 c13 c14 c15 c16 c17 c18 c19 c20 c21 c22 c23 c24 (hc25 mTy mTm mMn mFn mRn mTn mVn mLr mTr mFl mFm mFp mSc mMp mEn) (hc26 mPa) (hc27 mTo) (hc28 mOt) (hc29 mNa) (hc30 mRe) (hc31 mMa) (hc32 mMy) (hc33 mPm) (hc34 mFy) (hc35 mFa) (hc36 mFr) (hc37 mFo) (hc38 mRt) (hc39 mRm) (hc40 mTt) (hc41 mTi) (hc42 mPl) (hc43 mVr) (hc44 mVf) (hc45 mVc) (hc46 mAr) (hc47 mTc) (hc48 mFt) (hc49 mGo) dyn, 0, 0)) rfl ?_
      refine pm_go (g := (89, _, [.int f], _, 0, 0)) rfl ?_
      refine pm_go (g := (90, _, [.int 3, .int f], _, 0, 0)) rfl ?_
      refine pm_if2 (g := (104, [(4, .int 1), (0, .ref 25), (1, .int f), (2, .int t), (3, .int w)], [], hq g c1 c2 c3 c4 c5 c6 c7 c8 c9 c10 c11 c12 c13 c14 c15 c16 c17 c18 c19 c20 c21 c22 c23 c24 (hc25 mTy mTm mMn mFn mRn mTn mVn mLr mTr mFl mFm mFp mSc mMp mEn) (hc26 mPa) (hc27 mTo) (hc28 mOt) (hc29 mNa) (hc30 mRe) (hc31 mMa) (hc32 mMy) (hc33 mPm) (hc34 mFy) (hc35 mFa) (hc36 mFr) (hc37 mFo) (hc38 mRt) (hc39 mRm) (hc40 mTt) (hc41 mTi) (hc42 mPl) (hc43 mVr) (hc44 mVf) (hc45 mVc) (hc46 mAr) (hc47 mTc) (hc48 mFt) (hc49 mGo) dyn, 0, 0)) (h := (93, [(4, .int 1), (0, .ref 25), (1, .int f), (2, .int t), (3, .int w)], [], hq g c1 c2 c3 c4 c5 c6 c7 c8 c9 c10 c11 c12 c13 c14 c15 c16 c17 c18 c19 c20 c21 c22 c23 c24 (hc25 mTy mTm mMn mFn mRn mTn mVn mLr mTr mFl mFm mFp mSc mMp mEn) (hc26 mPa) (hc27 mTo) (hc28 mOt) (hc29 mNa) (hc30 mRe) (hc31 mMa) (hc32 mMy) (hc33 mPm) (hc34 mFy) (hc35 mFa) (hc36 mFr) (hc37 mFo) (hc38 mRt) (hc39 mRm) (hc40 mTt) (hc41 mTi) (hc42 mPl) (hc43 mVr) (hc44 mVf) (hc45 mVc) (hc46 mAr) (hc47 mTc) (hc48 mFt) (hc49 mGo) dyn, 0, 0)) rfl (fun h71 => ?_) (fun h71 => ?_)
      ·
        have h71 := qT_ge (cx := (f).toInt) (cy := 3) rfl (by decide) h71
        refine pm_go (g := (105, _, [.ref 25], _, 0, 0)) rfl ?_
        refine pm_go (g := (108, _, [.int mRn], _, 0, 0)) rfl ?_
        refine pm_go (g := (110, _, [.int 30, .int mRn], _, 0, 0)) rfl ?_
        refine pm_if2 (g := (116, [(4, .int 1), (0, .ref 25), (1, .int f), (2, .int t), (3, .int w)], [], hq g c1 c2 c3 c4 c5 c6 c7 c8 c9 c10 c11 c12 c13 c14 c15 c16 c17 c18 c19 c20 c21 c22 c23 c24 (hc25 mTy mTm mMn mFn mRn mTn mVn mLr mTr mFl mFm mFp mSc mMp mEn) (hc26 mPa) (hc27 mTo) (hc28 mOt) (hc29 mNa) (hc30 mRe) (hc31 mMa) (hc32 mMy) (hc33 mPm) (hc34 mFy) (hc35 mFa) (hc36 mFr) (hc37 mFo) (hc38 mRt) (hc39 mRm) (hc40 mTt) (hc41 mTi) (hc42 mPl) (hc43 mVr) (hc44 mVf) (hc45 mVc) (hc46 mAr) (hc47 mTc) (hc48 mFt) (hc49 mGo) dyn, 0, 0)) (h := (113, [(4, .int 1), (0, .ref 25), (1, .int f), (2, .int t), (3, .int w)], [], hq g c1 c2 c3 c4 c5 c6 c7 c8 c9 c10 c11 c12 c13 c14 c15 c16 c17 c18 c19 c20 c21 c22 c23 c24 (hc25 mTy mTm mMn mFn mRn mTn mVn mLr mTr mFl mFm mFp mSc mMp mEn) (hc26 mPa) (hc27 mTo) (hc28 mOt) (hc29 mNa) (hc30 mRe) (hc31 mMa) (hc32 mMy) (hc33 mPm) (hc34 mFy) (hc35 mFa) (hc36 mFr) (hc37 mFo) (hc38 mRt) (hc39 mRm) (hc40 mTt) (hc41 mTi) (hc42 mPl) (hc43 mVr) (hc44 mVf) (hc45 mVc) (hc46 mAr) (hc47 mTc) (hc48 mFt) (hc49 mGo) dyn, 0, 0)) rfl (fun h72 => ?_) (fun h72 => ?_)
        ·
          have h72 := qT_ne (cx := (mRn).toInt) (cy := 30) rfl (by decide) h72
          refine pm_go (g := (117, _, [.ref 25], _, 0, 0)) rfl ?_
          refine pm_go (g := (120, _, [.ref 37], _, 0, 0)) rfl ?_
          refine pm_go (g := (121, _, [.ref 25, .ref 37], _, 0, 0)) rfl ?_
          refine pm_go (g := (124, _, [.int mRn, .ref 37], _, 0, 0)) rfl ?_
          refine pm_go (g := (125, _, [.int f, .int mRn, .ref 37], _, 0, 0)) rfl ?_
          refine pm_sd (g := (126, _, [], hq g c1 c2 c3 c4 c5 c6 c7 c8 c9 c10 c11 c12 c13 c14 c15 c16 c17 c18 c19 c20 c21 c22 c23 c24 (hc25 mTy mTm mMn mFn mRn mTn mVn mLr mTr mFl mFm mFp mSc mMp mEn) (hc26 mPa) (hc27 mTo) (hc28 mOt) (hc29 mNa) (hc30 mRe) (hc31 mMa) (hc32 mMy) (hc33 mPm) (hc34 mFy) (hc35 mFa) (hc36 mFr) (hc37 (upd mFo (mRn).toNatClampNeg f)) (hc38 mRt) (hc39 mRm) (hc40 mTt) (hc41 mTi) (hc42 mPl) (hc43 mVr) (hc44 mVf) (hc45 mVc) (hc46 mAr) (hc47 mTc) (hc48 mFt) (hc49 mGo) dyn, 0, 0)) rfl (pm_inI (by omega) (by omega)) ?_
          refine pm_go (g := (127, _, [.ref 25], _, 0, 0)) rfl ?_
          refine pm_go (g := (130, _, [.ref 38], _, 0, 0)) rfl ?_
          refine pm_go (g := (131, _, [.ref 25, .ref 38], _, 0, 0)) rfl ?_
          refine pm_go (g := (134, _, [.int mRn, .ref 38], _, 0, 0)) rfl ?_
          refine pm_go (g := (135, _, [.int t, .int mRn, .ref 38], _, 0, 0)) rfl ?_
          refine pm_sd (g := (136, _, [], hq g c1 c2 c3 c4 c5 c6 c7 c8 c9 c10 c11 c12 c13 c14 c15 c16 c17 c18 c19 c20 c21 c22 c23 c24 (hc25 mTy mTm mMn mFn mRn mTn mVn mLr mTr mFl mFm mFp mSc mMp mEn) (hc26 mPa) (hc27 mTo) (hc28 mOt) (hc29 mNa) (hc30 mRe) (hc31 mMa) (hc32 mMy) (hc33 mPm) (hc34 mFy) (hc35 mFa) (hc36 mFr) (hc37 (upd mFo (mRn).toNatClampNeg f)) (hc38 (upd mRt (mRn).toNatClampNeg t)) (hc39 mRm) (hc40 mTt) (hc41 mTi) (hc42 mPl) (hc43 mVr) (hc44 mVf) (hc45 mVc) (hc46 mAr) (hc47 mTc) (hc48 mFt) (hc49 mGo) dyn, 0, 0)) rfl (pm_inI (by omega) (by omega)) ?_
          refine pm_go (g := (137, _, [.ref 25], _, 0, 0)) rfl ?_
          refine pm_go (g := (140, _, [.ref 39], _, 0, 0)) rfl ?_
          refine pm_go (g := (141, _, [.ref 25, .ref 39], _, 0, 0)) rfl ?_
          refine pm_go (g := (144, _, [.int mRn, .ref 39], _, 0, 0)) rfl ?_
          refine pm_go (g := (145, _, [.int w, .int mRn, .ref 39], _, 0, 0)) rfl ?_
          refine pm_sd (g := (146, _, [], hq g c1 c2 c3 c4 c5 c6 c7 c8 c9 c10 c11 c12 c13 c14 c15 c16 c17 c18 c19 c20 c21 c22 c23 c24 (hc25 mTy mTm mMn mFn mRn mTn mVn mLr mTr mFl mFm mFp mSc mMp mEn) (hc26 mPa) (hc27 mTo) (hc28 mOt) (hc29 mNa) (hc30 mRe) (hc31 mMa) (hc32 mMy) (hc33 mPm) (hc34 mFy) (hc35 mFa) (hc36 mFr) (hc37 (upd mFo (mRn).toNatClampNeg f)) (hc38 (upd mRt (mRn).toNatClampNeg t)) (hc39 (upd mRm (mRn).toNatClampNeg w)) (hc40 mTt) (hc41 mTi) (hc42 mPl) (hc43 mVr) (hc44 mVf) (hc45 mVc) (hc46 mAr) (hc47 mTc) (hc48 mFt) (hc49 mGo) dyn, 0, 0)) rfl (pm_inI (by omega) (by omega)) ?_
          refine pm_go (g := (147, _, [.ref 25], _, 0, 0)) rfl ?_
          refine pm_go (g := (148, _, [.ref 25, .ref 25], _, 0, 0)) rfl ?_
          refine pm_go (g := (151, _, [.int mRn, .ref 25], _, 0, 0)) rfl ?_
          refine pm_go (g := (152, _, [.int 1, .int mRn, .ref 25], _, 0, 0)) rfl ?_
          refine pm_go (g := (153, _, [.int (mRn + 1), .ref 25], _, 0, 0)) rfl ?_
          try have h73 : (mRn + 1).toInt = (mRn).toInt + 1 := iAdd (x := (mRn).toInt) (y := 1) rfl (by decide) (by omega) (by omega)
          refine pm_go (g := (156, _, [], hq g c1 c2 c3 c4 c5 c6 c7 c8 c9 c10 c11 c12 c13 c14 c15 c16 c17 c18 c19 c20 c21 c22 c23 c24 (hc25 mTy mTm mMn mFn (mRn + 1) mTn mVn mLr mTr mFl mFm mFp mSc mMp mEn) (hc26 mPa) (hc27 mTo) (hc28 mOt) (hc29 mNa) (hc30 mRe) (hc31 mMa) (hc32 mMy) (hc33 mPm) (hc34 mFy) (hc35 mFa) (hc36 mFr) (hc37 (upd mFo (mRn).toNatClampNeg f)) (hc38 (upd mRt (mRn).toNatClampNeg t)) (hc39 (upd mRm (mRn).toNatClampNeg w)) (hc40 mTt) (hc41 mTi) (hc42 mPl) (hc43 mVr) (hc44 mVf) (hc45 mVc) (hc46 mAr) (hc47 mTc) (hc48 mFt) (hc49 mGo) dyn, 0, 0)) rfl ?_
          refine pm_go (g := (157, _, [.ref 25], _, 0, 0)) rfl ?_
          refine pm_go (g := (160, _, [.int (mRn + 1)], _, 0, 0)) rfl ?_
          refine pm_go (g := (161, _, [.int 1, .int (mRn + 1)], _, 0, 0)) rfl ?_
          refine pm_go (g := (162, _, [.int ((mRn + 1) - 1)], _, 0, 0)) rfl ?_
          try have h74 : ((mRn + 1) - 1).toInt = (mRn + 1).toInt - 1 := iSub (x := (mRn + 1).toInt) (y := 1) rfl (by decide) (by omega) (by omega)
          first | exact pm_ret rfl (k0 (by omega)) | exact pm_ret rfl (k1 (by omega)) | exact pm_ret rfl (k2 (by omega)) | (exfalso; omega)
        have h72 := qF_ne (cx := (mRn).toInt) (cy := 30) rfl (by decide) h72
        refine pm_go (g := (115, _, [.int (-2)], hq g c1 c2 c3 c4 c5 c6 c7 c8 c9 c10 c11 c12 c13 c14 c15 c16 c17 c18 c19 c20 c21 c22 c23 c24 (hc25 mTy mTm mMn mFn mRn mTn mVn mLr mTr mFl mFm mFp mSc mMp mEn) (hc26 mPa) (hc27 mTo) (hc28 mOt) (hc29 mNa) (hc30 mRe) (hc31 mMa) (hc32 mMy) (hc33 mPm) (hc34 mFy) (hc35 mFa) (hc36 mFr) (hc37 mFo) (hc38 mRt) (hc39 mRm) (hc40 mTt) (hc41 mTi) (hc42 mPl) (hc43 mVr) (hc44 mVf) (hc45 mVc) (hc46 mAr) (hc47 mTc) (hc48 mFt) (hc49 mGo) dyn, 0, 0)) rfl ?_
        first | exact pm_ret rfl (k0 (by omega)) | exact pm_ret rfl (k1 (by omega)) | exact pm_ret rfl (k2 (by omega)) | (exfalso; omega)
      have h71 := qF_ge (cx := (f).toInt) (cy := 3) rfl (by decide) h71
      refine pm_go (g := (94, _, [.int w], _, 0, 0)) rfl ?_
      refine pm_go (g := (95, _, [.int 0, .int w], _, 0, 0)) rfl ?_
      refine pm_go (g := (96, _, [.int 5, .int 0, .int w], _, 0, 0)) rfl ?_
      refine pm_callD (z := 128) (as := [.int w, .int 0, .int 5]) (rest := []) rfl ?_
      have h75 : (0 : Int32).toInt = 0 := by decide
      have h76 : (5 : Int32).toInt = 5 := by decide
      refine w_X12_isIn w 0 5 (fun h77 => ?_) (fun h78 => ?_)
      ·
        show pm_WP 163 (99, [(4, .int 1), (0, .ref 25), (1, .int f), (2, .int t), (3, .int w)], [.int 1], _, 0, 0) _
        refine pm_brT (g := (104, [(4, .int 1), (0, .ref 25), (1, .int f), (2, .int t), (3, .int w)], [], hq g c1 c2 c3 c4 c5 c6 c7 c8 c9 c10 c11 c12 c13 c14 c15 c16 c17 c18 c19 c20 c21 c22 c23 c24 (hc25 mTy mTm mMn mFn mRn mTn mVn mLr mTr mFl mFm mFp mSc mMp mEn) (hc26 mPa) (hc27 mTo) (hc28 mOt) (hc29 mNa) (hc30 mRe) (hc31 mMa) (hc32 mMy) (hc33 mPm) (hc34 mFy) (hc35 mFa) (hc36 mFr) (hc37 mFo) (hc38 mRt) (hc39 mRm) (hc40 mTt) (hc41 mTi) (hc42 mPl) (hc43 mVr) (hc44 mVf) (hc45 mVc) (hc46 mAr) (hc47 mTc) (hc48 mFt) (hc49 mGo) dyn, 0, 0)) rfl ?_
        refine pm_go (g := (105, _, [.ref 25], _, 0, 0)) rfl ?_
        refine pm_go (g := (108, _, [.int mRn], _, 0, 0)) rfl ?_
        refine pm_go (g := (110, _, [.int 30, .int mRn], _, 0, 0)) rfl ?_
        refine pm_if2 (g := (116, [(4, .int 1), (0, .ref 25), (1, .int f), (2, .int t), (3, .int w)], [], hq g c1 c2 c3 c4 c5 c6 c7 c8 c9 c10 c11 c12 c13 c14 c15 c16 c17 c18 c19 c20 c21 c22 c23 c24 (hc25 mTy mTm mMn mFn mRn mTn mVn mLr mTr mFl mFm mFp mSc mMp mEn) (hc26 mPa) (hc27 mTo) (hc28 mOt) (hc29 mNa) (hc30 mRe) (hc31 mMa) (hc32 mMy) (hc33 mPm) (hc34 mFy) (hc35 mFa) (hc36 mFr) (hc37 mFo) (hc38 mRt) (hc39 mRm) (hc40 mTt) (hc41 mTi) (hc42 mPl) (hc43 mVr) (hc44 mVf) (hc45 mVc) (hc46 mAr) (hc47 mTc) (hc48 mFt) (hc49 mGo) dyn, 0, 0)) (h := (113, [(4, .int 1), (0, .ref 25), (1, .int f), (2, .int t), (3, .int w)], [], hq g c1 c2 c3 c4 c5 c6 c7 c8 c9 c10 c11 c12 c13 c14 c15 c16 c17 c18 c19 c20 c21 c22 c23 c24 (hc25 mTy mTm mMn mFn mRn mTn mVn mLr mTr mFl mFm mFp mSc mMp mEn) (hc26 mPa) (hc27 mTo) (hc28 mOt) (hc29 mNa) (hc30 mRe) (hc31 mMa) (hc32 mMy) (hc33 mPm) (hc34 mFy) (hc35 mFa) (hc36 mFr) (hc37 mFo) (hc38 mRt) (hc39 mRm) (hc40 mTt) (hc41 mTi) (hc42 mPl) (hc43 mVr) (hc44 mVf) (hc45 mVc) (hc46 mAr) (hc47 mTc) (hc48 mFt) (hc49 mGo) dyn, 0, 0)) rfl (fun h80 => ?_) (fun h80 => ?_)
        ·
          have h80 := qT_ne (cx := (mRn).toInt) (cy := 30) rfl (by decide) h80
          refine pm_go (g := (117, _, [.ref 25], _, 0, 0)) rfl ?_
          refine pm_go (g := (120, _, [.ref 37], _, 0, 0)) rfl ?_
          refine pm_go (g := (121, _, [.ref 25, .ref 37], _, 0, 0)) rfl ?_
          refine pm_go (g := (124, _, [.int mRn, .ref 37], _, 0, 0)) rfl ?_
          refine pm_go (g := (125, _, [.int f, .int mRn, .ref 37], _, 0, 0)) rfl ?_
          refine pm_sd (g := (126, _, [], hq g c1 c2 c3 c4 c5 c6 c7 c8 c9 c10 c11 c12 c13 c14 c15 c16 c17 c18 c19 c20 c21 c22 c23 c24 (hc25 mTy mTm mMn mFn mRn mTn mVn mLr mTr mFl mFm mFp mSc mMp mEn) (hc26 mPa) (hc27 mTo) (hc28 mOt) (hc29 mNa) (hc30 mRe) (hc31 mMa) (hc32 mMy) (hc33 mPm) (hc34 mFy) (hc35 mFa) (hc36 mFr) (hc37 (upd mFo (mRn).toNatClampNeg f)) (hc38 mRt) (hc39 mRm) (hc40 mTt) (hc41 mTi) (hc42 mPl) (hc43 mVr) (hc44 mVf) (hc45 mVc) (hc46 mAr) (hc47 mTc) (hc48 mFt) (hc49 mGo) dyn, 0, 0)) rfl (pm_inI (by omega) (by omega)) ?_
          refine pm_go (g := (127, _, [.ref 25], _, 0, 0)) rfl ?_
          refine pm_go (g := (130, _, [.ref 38], _, 0, 0)) rfl ?_
          refine pm_go (g := (131, _, [.ref 25, .ref 38], _, 0, 0)) rfl ?_
          refine pm_go (g := (134, _, [.int mRn, .ref 38], _, 0, 0)) rfl ?_
          refine pm_go (g := (135, _, [.int t, .int mRn, .ref 38], _, 0, 0)) rfl ?_
          refine pm_sd (g := (136, _, [], hq g c1 c2 c3 c4 c5 c6 c7 c8 c9 c10 c11 c12 c13 c14 c15 c16 c17 c18 c19 c20 c21 c22 c23 c24 (hc25 mTy mTm mMn mFn mRn mTn mVn mLr mTr mFl mFm mFp mSc mMp mEn) (hc26 mPa) (hc27 mTo) (hc28 mOt) (hc29 mNa) (hc30 mRe) (hc31 mMa) (hc32 mMy) (hc33 mPm) (hc34 mFy) (hc35 mFa) (hc36 mFr) (hc37 (upd mFo (mRn).toNatClampNeg f)) (hc38 (upd mRt (mRn).toNatClampNeg t)) (hc39 mRm) (hc40 mTt) (hc41 mTi) (hc42 mPl) (hc43 mVr) (hc44 mVf) (hc45 mVc) (hc46 mAr) (hc47 mTc) (hc48 mFt) (hc49 mGo) dyn, 0, 0)) rfl (pm_inI (by omega) (by omega)) ?_
          refine pm_go (g := (137, _, [.ref 25], _, 0, 0)) rfl ?_
          refine pm_go (g := (140, _, [.ref 39], _, 0, 0)) rfl ?_
          refine pm_go (g := (141, _, [.ref 25, .ref 39], _, 0, 0)) rfl ?_
          refine pm_go (g := (144, _, [.int mRn, .ref 39], _, 0, 0)) rfl ?_
          refine pm_go (g := (145, _, [.int w, .int mRn, .ref 39], _, 0, 0)) rfl ?_
          refine pm_sd (g := (146, _, [], hq g c1 c2 c3 c4 c5 c6 c7 c8 c9 c10 c11 c12 c13 c14 c15 c16 c17 c18 c19 c20 c21 c22 c23 c24 (hc25 mTy mTm mMn mFn mRn mTn mVn mLr mTr mFl mFm mFp mSc mMp mEn) (hc26 mPa) (hc27 mTo) (hc28 mOt) (hc29 mNa) (hc30 mRe) (hc31 mMa) (hc32 mMy) (hc33 mPm) (hc34 mFy) (hc35 mFa) (hc36 mFr) (hc37 (upd mFo (mRn).toNatClampNeg f)) (hc38 (upd mRt (mRn).toNatClampNeg t)) (hc39 (upd mRm (mRn).toNatClampNeg w)) (hc40 mTt) (hc41 mTi) (hc42 mPl) (hc43 mVr) (hc44 mVf) (hc45 mVc) (hc46 mAr) (hc47 mTc) (hc48 mFt) (hc49 mGo) dyn, 0, 0)) rfl (pm_inI (by omega) (by omega)) ?_
          refine pm_go (g := (147, _, [.ref 25], _, 0, 0)) rfl ?_
          refine pm_go (g := (148, _, [.ref 25, .ref 25], _, 0, 0)) rfl ?_
          refine pm_go (g := (151, _, [.int mRn, .ref 25], _, 0, 0)) rfl ?_
          refine pm_go (g := (152, _, [.int 1, .int mRn, .ref 25], _, 0, 0)) rfl ?_
          refine pm_go (g := (153, _, [.int (mRn + 1), .ref 25], _, 0, 0)) rfl ?_
          try have h81 : (mRn + 1).toInt = (mRn).toInt + 1 := iAdd (x := (mRn).toInt) (y := 1) rfl (by decide) (by omega) (by omega)
          refine pm_go (g := (156, _, [], hq g c1 c2 c3 c4 c5 c6 c7 c8 c9 c10 c11 c12 c13 c14 c15 c16 c17 c18 c19 c20 c21 c22 c23 c24 (hc25 mTy mTm mMn mFn (mRn + 1) mTn mVn mLr mTr mFl mFm mFp mSc mMp mEn) (hc26 mPa) (hc27 mTo) (hc28 mOt) (hc29 mNa) (hc30 mRe) (hc31 mMa) (hc32 mMy) (hc33 mPm) (hc34 mFy) (hc35 mFa) (hc36 mFr) (hc37 (upd mFo (mRn).toNatClampNeg f)) (hc38 (upd mRt (mRn).toNatClampNeg t)) (hc39 (upd mRm (mRn).toNatClampNeg w)) (hc40 mTt) (hc41 mTi) (hc42 mPl) (hc43 mVr) (hc44 mVf) (hc45 mVc) (hc46 mAr) (hc47 mTc) (hc48 mFt) (hc49 mGo) dyn, 0, 0)) rfl ?_
          refine pm_go (g := (157, _, [.ref 25], _, 0, 0)) rfl ?_
          refine pm_go (g := (160, _, [.int (mRn + 1)], _, 0, 0)) rfl ?_
          refine pm_go (g := (161, _, [.int 1, .int (mRn + 1)], _, 0, 0)) rfl ?_
          refine pm_go (g := (162, _, [.int ((mRn + 1) - 1)], _, 0, 0)) rfl ?_
          try have h82 : ((mRn + 1) - 1).toInt = (mRn + 1).toInt - 1 := iSub (x := (mRn + 1).toInt) (y := 1) rfl (by decide) (by omega) (by omega)
          first | exact pm_ret rfl (k0 (by omega)) | exact pm_ret rfl (k1 (by omega)) | exact pm_ret rfl (k2 (by omega)) | (exfalso; omega)
        have h80 := qF_ne (cx := (mRn).toInt) (cy := 30) rfl (by decide) h80
        refine pm_go (g := (115, _, [.int (-2)], hq g c1 c2 c3 c4 c5 c6 c7 c8 c9 c10 c11 c12 c13 c14 c15 c16 c17 c18 c19 c20 c21 c22 c23 c24 (hc25 mTy mTm mMn mFn mRn mTn mVn mLr mTr mFl mFm mFp mSc mMp mEn) (hc26 mPa) (hc27 mTo) (hc28 mOt) (hc29 mNa) (hc30 mRe) (hc31 mMa) (hc32 mMy) (hc33 mPm) (hc34 mFy) (hc35 mFa) (hc36 mFr) (hc37 mFo) (hc38 mRt) (hc39 mRm) (hc40 mTt) (hc41 mTi) (hc42 mPl) (hc43 mVr) (hc44 mVf) (hc45 mVc) (hc46 mAr) (hc47 mTc) (hc48 mFt) (hc49 mGo) dyn, 0, 0)) rfl ?_
        first | exact pm_ret rfl (k0 (by omega)) | exact pm_ret rfl (k1 (by omega)) | exact pm_ret rfl (k2 (by omega)) | (exfalso; omega)
      show pm_WP 163 (99, [(4, .int 1), (0, .ref 25), (1, .int f), (2, .int t), (3, .int w)], [.int 0], hq g c1 c2 c3 c4 c5 c6 c7 c8 c9 c10 c11 c12 c13 c14 c15 c16 c17 c18 c19 c20 c21 c22 c23 c24 (hc25 mTy mTm mMn mFn mRn mTn mVn mLr mTr mFl mFm mFp mSc mMp mEn) (hc26 mPa) (hc27 mTo) (hc28 mOt) (hc29 mNa) (hc30 mRe) (hc31 mMa) (hc32 mMy) (hc33 mPm) (hc34 mFy) (hc35 mFa) (hc36 mFr) (hc37 mFo) (hc38 mRt) (hc39 mRm) (hc40 mTt) (hc41 mTi) (hc42 mPl) (hc43 mVr) (hc44 mVf) (hc45 mVc) (hc46 mAr) (hc47 mTc) (hc48 mFt) (hc49 mGo) dyn, 0, 0) _
      refine pm_brF (h := (102, [(4, .int 1), (0, .ref 25), (1, .int f), (2, .int t), (3, .int w)], [], hq g c1 c2 c3 c4 c5 c6 c7 c8 c9 c10 c11 c12 c13 c14 c15 c16 c17 c18 c19 c20 c21 c22 c23 c24 (hc25 mTy mTm mMn mFn mRn mTn mVn mLr mTr mFl mFm mFp mSc mMp mEn) (hc26 mPa) (hc27 mTo) (hc28 mOt) (hc29 mNa) (hc30 mRe) (hc31 mMa) (hc32 mMy) (hc33 mPm) (hc34 mFy) (hc35 mFa) (hc36 mFr) (hc37 mFo) (hc38 mRt) (hc39 mRm) (hc40 mTt) (hc41 mTi) (hc42 mPl) (hc43 mVr) (hc44 mVf) (hc45 mVc) (hc46 mAr) (hc47 mTc) (hc48 mFt) (hc49 mGo) dyn, 0, 0)) rfl ?_
      refine pm_go (g := (103, _, [.int (-1)], _, 0, 0)) rfl ?_
      first | exact pm_ret rfl (k0 (by omega)) | exact pm_ret rfl (k1 (by omega)) | exact pm_ret rfl (k2 (by omega)) | (exfalso; omega)
    show pm_WP 163 (21, [(0, .ref 25), (1, .int f), (2, .int t), (3, .int w)], [.int 0], hq g c1 c2 c3 c4 c5 c6 c7 c8 c9 c10 c11 c12 c13 c14 c15 c16 c17 c18 c19 c20 c21 c22 c23 c24 (hc25 mTy mTm mMn mFn mRn mTn mVn mLr mTr mFl mFm mFp mSc mMp mEn) (hc26 mPa) (hc27 mTo) (hc28 mOt) (hc29 mNa) (hc30 mRe) (hc31 mMa) (hc32 mMy) (hc33 mPm) (hc34 mFy) (hc35 mFa) (hc36 mFr) (hc37 mFo) (hc38 mRt) (hc39 mRm) (hc40 mTt) (hc41 mTi) (hc42 mPl) (hc43 mVr) (hc44 mVf) (hc45 mVc) (hc46 mAr) (hc47 mTc) (hc48 mFt) (hc49 mGo) dyn, 0, 0) _
    refine pm_go (g := (81, _, [.int 0], _, 0, 0)) rfl ?_
    refine pm_go (g := (83, [(4, .int 0), (0, .ref 25), (1, .int f), (2, .int t), (3, .int w)], [], _, 0, 0)) rfl ?_
    refine pm_go (g := (85, _, [.int 0], _, 0, 0)) rfl ?_
    refine pm_brT (g := (102, [(4, .int 0), (0, .ref 25), (1, .int f), (2, .int t), (3, .int w)], [], hq g c1 c2 c3 c4 c5 c6 c7 c8 c9 c10 c11 c12 c13 c14 c15 c16 c17 c18 c19 c20 c21 c22 c23 c24 (hc25 mTy mTm mMn mFn mRn mTn mVn mLr mTr mFl mFm mFp mSc mMp mEn) (hc26 mPa) (hc27 mTo) (hc28 mOt) (hc29 mNa) (hc30 mRe) (hc31 mMa) (hc32 mMy) (hc33 mPm) (hc34 mFy) (hc35 mFa) (hc36 mFr) (hc37 mFo) (hc38 mRt) (hc39 mRm) (hc40 mTt) (hc41 mTi) (hc42 mPl) (hc43 mVr) (hc44 mVf) (hc45 mVc) (hc46 mAr) (hc47 mTc) (hc48 mFt) (hc49 mGo) dyn, 0, 0)) rfl ?_
    refine pm_go (g := (103, _, [.int (-1)], _, 0, 0)) rfl ?_
    first | exact pm_ret rfl (k0 (by omega)) | exact pm_ret rfl (k1 (by omega)) | exact pm_ret rfl (k2 (by omega)) | (exfalso; omega)
  show pm_WP 163 (6, [(0, .ref 25), (1, .int f), (2, .int t), (3, .int w)], [.int 0], hq g c1 c2 c3 c4 c5 c6 c7 c8 c9 c10 c11 c12 c13 c14 c15 c16 c17 c18 c19 c20 c21 c22 c23 c24 (hc25 mTy mTm mMn mFn mRn mTn mVn mLr mTr mFl mFm mFp mSc mMp mEn) (hc26 mPa) (hc27 mTo) (hc28 mOt) (hc29 mNa) (hc30 mRe) (hc31 mMa) (hc32 mMy) (hc33 mPm) (hc34 mFy) (hc35 mFa) (hc36 mFr) (hc37 mFo) (hc38 mRt) (hc39 mRm) (hc40 mTt) (hc41 mTi) (hc42 mPl) (hc43 mVr) (hc44 mVf) (hc45 mVc) (hc46 mAr) (hc47 mTc) (hc48 mFt) (hc49 mGo) dyn, 0, 0) _
  refine pm_brF (h := (9, [(0, .ref 25), (1, .int f), (2, .int t), (3, .int w)], [], hq g c1 c2 c3 c4 c5 c6 c7 c8 c9 c10 c11 c12 c13 c14 c15 c16 c17 c18 c19 c20 c21 c22 c23 c24 (hc25 mTy mTm mMn mFn mRn mTn mVn mLr mTr mFl mFm mFp mSc mMp mEn) (hc26 mPa) (hc27 mTo) (hc28 mOt) (hc29 mNa) (hc30 mRe) (hc31 mMa) (hc32 mMy) (hc33 mPm) (hc34 mFy) (hc35 mFa) (hc36 mFr) (hc37 mFo) (hc38 mRt) (hc39 mRm) (hc40 mTt) (hc41 mTi) (hc42 mPl) (hc43 mVr) (hc44 mVf) (hc45 mVc) (hc46 mAr) (hc47 mTc) (hc48 mFt) (hc49 mGo) dyn, 0, 0)) rfl ?_
  refine pm_go (g := (10, _, [.int (-1)], _, 0, 0)) rfl ?_
  first | exact pm_ret rfl (k0 (by omega)) | exact pm_ret rfl (k1 (by omega)) | exact pm_ret rfl (k2 (by omega)) | (exfalso; omega)
set_option maxRecDepth 100000 in
set_option maxHeartbeats 4000000 in
theorem w_X12_clear {g c1 c2 c3 c4 c5 c6 c7 c8 c9 c10 c11 c12 c13 c14 c15 c16 c17 c18 c19 c20 c21 c22 c23 c24 : pm_C} {dyn : pm_H} {mTy : Int32} {mPa : Nat → Int32} {mTo : Nat → Int32} {mTm : Int32} {mMn : Int32} {mOt : Nat → Int32} {mNa : Nat → Int32} {mRe : Nat → Int32} {mMa : Nat → Int32} {mMy : Nat → Int32} {mPm : Nat → Int32} {mFn : Int32} {mFy : Nat → Int32} {mFa : Nat → Int32} {mFr : Nat → Int32} {mRn : Int32} {mFo : Nat → Int32} {mRt : Nat → Int32} {mRm : Nat → Int32} {mTn : Int32} {mTt : Nat → Int32} {mTi : Nat → Int32} {mPl : Nat → Int32} {mVn : Int32} {mVr : Nat → Int32} {mVf : Nat → Int32} {mVc : Nat → Int32} {mAr : Nat → Int32} {mLr : Int32} {mTc : Nat → Int32} {mTr : Int32} {mFl : Int32} {mFt : Nat → Int32} {mFm : Int32} {mFp : Int32} {mSc : Int32} {mMp : Int32} {mEn : Int32} {mGo : Nat → Int32} {Q : pm_Q} (k0 : Q (some (.int mTn)) (hq g c1 c2 c3 c4 c5 c6 c7 c8 c9 c10 c11 c12 c13 c14 c15 c16 c17 c18 c19 c20 c21 c22 c23 c24 (hc25 mTy mTm mMn mFn mRn 0 0 0 0 mFl mFm mFp mSc mMp mEn) (hc26 mPa) (hc27 mTo) (hc28 mOt) (hc29 mNa) (hc30 mRe) (hc31 mMa) (hc32 mMy) (hc33 mPm) (hc34 mFy) (hc35 mFa) (hc36 mFr) (hc37 mFo) (hc38 mRt) (hc39 mRm) (hc40 mTt) (hc41 mTi) (hc42 mPl) (hc43 mVr) (hc44 mVf) (hc45 mVc) (hc46 (upd (upd (upd mAr 0 0) 1 0) 2 0)) (hc47 mTc) (hc48 mFt) (hc49 mGo) dyn)) : pm_WP 189 (0, [(0, .ref 25)], [], hq g c1 c2 c3 c4 c5 c6 c7 c8 c9 c10 c11 c12 c13 c14 c15 c16 c17 c18 c19 c20 c21 c22 c23 c24 (hc25 mTy mTm mMn mFn mRn mTn mVn mLr mTr mFl mFm mFp mSc mMp mEn) (hc26 mPa) (hc27 mTo) (hc28 mOt) (hc29 mNa) (hc30 mRe) (hc31 mMa) (hc32 mMy) (hc33 mPm) (hc34 mFy) (hc35 mFa) (hc36 mFr) (hc37 mFo) (hc38 mRt) (hc39 mRm) (hc40 mTt) (hc41 mTi) (hc42 mPl) (hc43 mVr) (hc44 mVf) (hc45 mVc) (hc46 mAr) (hc47 mTc) (hc48 mFt) (hc49 mGo) dyn, 0, 0) Q := by
  refine pm_go (g := (1, [(0, .ref 25)], [.ref 25], hq g c1 c2 c3 c4 c5 c6 c7 c8 c9 c10 c11 c12 c13 c14 c15 c16 c17 c18 c19 c20 c21 c22 c23 c24 (hc25 mTy mTm mMn mFn mRn mTn mVn mLr mTr mFl mFm mFp mSc mMp mEn) (hc26 mPa) (hc27 mTo) (hc28 mOt) (hc29 mNa) (hc30 mRe) (hc31 mMa) (hc32 mMy) (hc33 mPm) (hc34 mFy) (hc35 mFa) (hc36 mFr) (hc37 mFo) (hc38 mRt) (hc39 mRm) (hc40 mTt) (hc41 mTi) (hc42 mPl) (hc43 mVr) (hc44 mVf) (hc45 mVc) (hc46 mAr) (hc47 mTc) (hc48 mFt) (hc49 mGo) dyn, 0, 0)) rfl ?_
  refine pm_go (g := (4, _, [.int mTn], _, 0, 0)) rfl ?_
  refine pm_go (g := (5, [(1, .int mTn), (0, .ref 25)], [], _, 0, 0)) rfl ?_
  refine pm_go (g := (6, _, [.ref 25], _, 0, 0)) rfl ?_
  refine pm_go (g := (7, _, [.int 0, .ref 25], _, 0, 0)) rfl ?_
  refine pm_go (g := (10, _, [], hq g c1 c2 c3 c4 c5 c6 c7 c8 c9 c10 c11 c12 c13 c14 c15 c16 c17 c18 c19 c20 c21 c22 c23 c24 (hc25 mTy mTm mMn mFn mRn 0 mVn mLr mTr mFl mFm mFp mSc mMp mEn) (hc26 mPa) (hc27 mTo) (hc28 mOt) (hc29 mNa) (hc30 mRe) (hc31 mMa) (hc32 mMy) (hc33 mPm) (hc34 mFy) (hc35 mFa) (hc36 mFr) (hc37 mFo) (hc38 mRt) (hc39 mRm) (hc40 mTt) (hc41 mTi) (hc42 mPl) (hc43 mVr) (hc44 mVf) (hc45 mVc) (hc46 mAr) (hc47 mTc) (hc48 mFt) (hc49 mGo) dyn, 0, 0)) rfl ?_
  refine pm_go (g := (11, _, [.ref 25], _, 0, 0)) rfl ?_
  refine pm_go (g := (12, _, [.int 0, .ref 25], _, 0, 0)) rfl ?_
  refine pm_go (g := (15, _, [], hq g c1 c2 c3 c4 c5 c6 c7 c8 c9 c10 c11 c12 c13 c14 c15 c16 c17 c18 c19 c20 c21 c22 c23 c24 (hc25 mTy mTm mMn mFn mRn 0 0 mLr mTr mFl mFm mFp mSc mMp mEn) (hc26 mPa) (hc27 mTo) (hc28 mOt) (hc29 mNa) (hc30 mRe) (hc31 mMa) (hc32 mMy) (hc33 mPm) (hc34 mFy) (hc35 mFa) (hc36 mFr) (hc37 mFo) (hc38 mRt) (hc39 mRm) (hc40 mTt) (hc41 mTi) (hc42 mPl) (hc43 mVr) (hc44 mVf) (hc45 mVc) (hc46 mAr) (hc47 mTc) (hc48 mFt) (hc49 mGo) dyn, 0, 0)) rfl ?_
  refine pm_go (g := (16, _, [.ref 25], _, 0, 0)) rfl ?_
  refine pm_go (g := (17, _, [.int 0, .ref 25], _, 0, 0)) rfl ?_
  refine pm_go (g := (20, _, [], hq g c1 c2 c3 c4 c5 c6 c7 c8 c9 c10 c11 c12 c13 c14 c15 c16 c17 c18 c19 c20 c21 c22 c23 c24 (hc25 mTy mTm mMn mFn mRn 0 0 mLr 0 mFl mFm mFp mSc mMp mEn) (hc26 mPa) (hc27 mTo) (hc28 mOt) (hc29 mNa) (hc30 mRe) (hc31 mMa) (hc32 mMy) (hc33 mPm) (hc34 mFy) (hc35 mFa) (hc36 mFr) (hc37 mFo) (hc38 mRt) (hc39 mRm) (hc40 mTt) (hc41 mTi) (hc42 mPl) (hc43 mVr) (hc44 mVf) (hc45 mVc) (hc46 mAr) (hc47 mTc) (hc48 mFt) (hc49 mGo) dyn, 0, 0)) rfl ?_
  refine pm_go (g := (21, _, [.ref 25], _, 0, 0)) rfl ?_
  refine pm_go (g := (22, _, [.int 0, .ref 25], _, 0, 0)) rfl ?_
  refine pm_go (g := (25, _, [], hq g c1 c2 c3 c4 c5 c6 c7 c8 c9 c10 c11 c12 c13 c14 c15 c16 c17 c18 c19 c20 c21 c22 c23 c24 (hc25 mTy mTm mMn mFn mRn 0 0 0 0 mFl mFm mFp mSc mMp mEn) (hc26 mPa) (hc27 mTo) (hc28 mOt) (hc29 mNa) (hc30 mRe) (hc31 mMa) (hc32 mMy) (hc33 mPm) (hc34 mFy) (hc35 mFa) (hc36 mFr) (hc37 mFo) (hc38 mRt) (hc39 mRm) (hc40 mTt) (hc41 mTi) (hc42 mPl) (hc43 mVr) (hc44 mVf) (hc45 mVc) (hc46 mAr) (hc47 mTc) (hc48 mFt) (hc49 mGo) dyn, 0, 0)) rfl ?_
  refine pm_go (g := (26, _, [.int 0], _, 0, 0)) rfl ?_
  refine pm_go (g := (27, [(2, .int 0), (1, .int mTn), (0, .ref 25)], [], _, 0, 0)) rfl ?_
  refine pm_go (g := (28, _, [.int 0], _, 0, 0)) rfl ?_
  refine pm_go (g := (29, _, [.int 3, .int 0], _, 0, 0)) rfl ?_
  refine pm_brF (h := (32, [(2, .int 0), (1, .int mTn), (0, .ref 25)], [], hq g c1 c2 c3 c4 c5 c6 c7 c8 c9 c10 c11 c12 c13 c14 c15 c16 c17 c18 c19 c20 c21 c22 c23 c24 (hc25 mTy mTm mMn mFn mRn 0 0 0 0 mFl mFm mFp mSc mMp mEn) (hc26 mPa) (hc27 mTo) (hc28 mOt) (hc29 mNa) (hc30 mRe) (hc31 mMa) (hc32 mMy) (hc33 mPm) (hc34 mFy) (hc35 mFa) (hc36 mFr) (hc37 mFo) (hc38 mRt) (hc39 mRm) (hc40 mTt) (hc41 mTi) (hc42 mPl) (hc43 mVr) (hc44 mVf) (hc45 mVc) (hc46 mAr) (hc47 mTc) (hc48 mFt) (hc49 mGo) dyn, 0, 0)) rfl ?_
  refine pm_go (g := (33, _, [.ref 25], _, 0, 0)) rfl ?_
  refine pm_go (g := (36, _, [.ref 46], _, 0, 0)) rfl ?_
  refine pm_go (g := (37, _, [.int 0, .ref 46], _, 0, 0)) rfl ?_
  refine pm_go (g := (38, _, [.int 0, .int 0, .ref 46], _, 0, 0)) rfl ?_
  refine pm_go (g := (39, _, [], hq g c1 c2 c3 c4 c5 c6 c7 c8 c9 c10 c11 c12 c13 c14 c15 c16 c17 c18 c19 c20 c21 c22 c23 c24 (hc25 mTy mTm mMn mFn mRn 0 0 0 0 mFl mFm mFp mSc mMp mEn) (hc26 mPa) (hc27 mTo) (hc28 mOt) (hc29 mNa) (hc30 mRe) (hc31 mMa) (hc32 mMy) (hc33 mPm) (hc34 mFy) (hc35 mFa) (hc36 mFr) (hc37 mFo) (hc38 mRt) (hc39 mRm) (hc40 mTt) (hc41 mTi) (hc42 mPl) (hc43 mVr) (hc44 mVf) (hc45 mVc) (hc46 (upd mAr 0 0)) (hc47 mTc) (hc48 mFt) (hc49 mGo) dyn, 0, 0)) rfl ?_
  refine pm_go (g := (42, [(2, .int 1), (1, .int mTn), (0, .ref 25)], [], _, 0, 0)) rfl ?_
  refine pm_go (g := (27, _, [], _, 0, 0)) rfl ?_
  refine pm_go (g := (28, _, [.int 1], _, 0, 0)) rfl ?_
  refine pm_go (g := (29, _, [.int 3, .int 1], _, 0, 0)) rfl ?_
  refine pm_brF (h := (32, [(2, .int 1), (1, .int mTn), (0, .ref 25)], [], hq g c1 c2 c3 c4 c5 c6 c7 c8 c9 c10 c11 c12 c13 c14 c15 c16 c17 c18 c19 c20 c21 c22 c23 c24 (hc25 mTy mTm mMn mFn mRn 0 0 0 0 mFl mFm mFp mSc mMp mEn) (hc26 mPa) (hc27 mTo) (hc28 mOt) (hc29 mNa) (hc30 mRe) (hc31 mMa) (hc32 mMy) (hc33 mPm) (hc34 mFy) (hc35 mFa) (hc36 mFr) (hc37 mFo) (hc38 mRt) (hc39 mRm) (hc40 mTt) (hc41 mTi) (hc42 mPl) (hc43 mVr) (hc44 mVf) (hc45 mVc) (hc46 (upd mAr 0 0)) (hc47 mTc) (hc48 mFt) (hc49 mGo) dyn, 0, 0)) rfl ?_
  refine pm_go (g := (33, _, [.ref 25], _, 0, 0)) rfl ?_
  refine pm_go (g := (36, _, [.ref 46], _, 0, 0)) rfl ?_
  refine pm_go (g := (37, _, [.int 1, .ref 46], _, 0, 0)) rfl ?_
  refine pm_go (g := (38, _, [.int 0, .int 1, .ref 46], _, 0, 0)) rfl ?_
  refine pm_go (g := (39, _, [], hq g c1 c2 c3 c4 c5 c6 c7 c8 c9 c10 c11 c12 c13 c14 c15 c16 c17 c18 c19 c20 c21 c22 c23 c24 (hc25 mTy mTm mMn mFn mRn 0 0 0 0 mFl mFm mFp mSc mMp mEn) (hc26 mPa) (hc27 mTo) (hc28 mOt) (hc29 mNa) (hc30 mRe) (hc31 mMa) (hc32 mMy) (hc33 mPm) (hc34 mFy) (hc35 mFa) (hc36 mFr) (hc37 mFo) (hc38 mRt) (hc39 mRm) (hc40 mTt) (hc41 mTi) (hc42 mPl) (hc43 mVr) (hc44 mVf) (hc45 mVc) (hc46 (upd (upd mAr 0 0) 1 0)) (hc47 mTc) (hc48 mFt) (hc49 mGo) dyn, 0, 0)) rfl ?_
  refine pm_go (g := (42, [(2, .int 2), (1, .int mTn), (0, .ref 25)], [], _, 0, 0)) rfl ?_
  refine pm_go (g := (27, _, [], _, 0, 0)) rfl ?_
  refine pm_go (g := (28, _, [.int 2], _, 0, 0)) rfl ?_
  refine pm_go (g := (29, _, [.int 3, .int 2], _, 0, 0)) rfl ?_
  refine pm_brF (h := (32, [(2, .int 2), (1, .int mTn), (0, .ref 25)], [], hq g c1 c2 c3 c4 c5 c6 c7 c8 c9 c10 c11 c12 c13 c14 c15 c16 c17 c18 c19 c20 c21 c22 c23 c24 (hc25 mTy mTm mMn mFn mRn 0 0 0 0 mFl mFm mFp mSc mMp mEn) (hc26 mPa) (hc27 mTo) (hc28 mOt) (hc29 mNa) (hc30 mRe) (hc31 mMa) (hc32 mMy) (hc33 mPm) (hc34 mFy) (hc35 mFa) (hc36 mFr) (hc37 mFo) (hc38 mRt) (hc39 mRm) (hc40 mTt) (hc41 mTi) (hc42 mPl) (hc43 mVr) (hc44 mVf) (hc45 mVc) (hc46 (upd (upd mAr 0 0) 1 0)) (hc47 mTc) (hc48 mFt) (hc49 mGo) dyn, 0, 0)) rfl ?_
  refine pm_go (g := (33, _, [.ref 25], _, 0, 0)) rfl ?_
  refine pm_go (g := (36, _, [.ref 46], _, 0, 0)) rfl ?_
  refine pm_go (g := (37, _, [.int 2, .ref 46], _, 0, 0)) rfl ?_
  refine pm_go (g := (38, _, [.int 0, .int 2, .ref 46], _, 0, 0)) rfl ?_
  refine pm_go (g := (39, _, [], hq g c1 c2 c3 c4 c5 c6 c7 c8 c9 c10 c11 c12 c13 c14 c15 c16 c17 c18 c19 c20 c21 c22 c23 c24 (hc25 mTy mTm mMn mFn mRn 0 0 0 0 mFl mFm mFp mSc mMp mEn) (hc26 mPa) (hc27 mTo) (hc28 mOt) (hc29 mNa) (hc30 mRe) (hc31 mMa) (hc32 mMy) (hc33 mPm) (hc34 mFy) (hc35 mFa) (hc36 mFr) (hc37 mFo) (hc38 mRt) (hc39 mRm) (hc40 mTt) (hc41 mTi) (hc42 mPl) (hc43 mVr) (hc44 mVf) (hc45 mVc) (hc46 (upd (upd (upd mAr 0 0) 1 0) 2 0)) (hc47 mTc) (hc48 mFt) (hc49 mGo) dyn, 0, 0)) rfl ?_
  refine pm_go (g := (42, [(2, .int 3), (1, .int mTn), (0, .ref 25)], [], _, 0, 0)) rfl ?_
  refine pm_go (g := (27, _, [], _, 0, 0)) rfl ?_
  refine pm_go (g := (28, _, [.int 3], _, 0, 0)) rfl ?_
  refine pm_go (g := (29, _, [.int 3, .int 3], _, 0, 0)) rfl ?_
  refine pm_brT (g := (45, [(2, .int 3), (1, .int mTn), (0, .ref 25)], [], hq g c1 c2 c3 c4 c5 c6 c7 c8 c9 c10 c11 c12 c13 c14 c15 c16 c17 c18 c19 c20 c21 c22 c23 c24 (hc25 mTy mTm mMn mFn mRn 0 0 0 0 mFl mFm mFp mSc mMp mEn) (hc26 mPa) (hc27 mTo) (hc28 mOt) (hc29 mNa) (hc30 mRe) (hc31 mMa) (hc32 mMy) (hc33 mPm) (hc34 mFy) (hc35 mFa) (hc36 mFr) (hc37 mFo) (hc38 mRt) (hc39 mRm) (hc40 mTt) (hc41 mTi) (hc42 mPl) (hc43 mVr) (hc44 mVf) (hc45 mVc) (hc46 (upd (upd (upd mAr 0 0) 1 0) 2 0)) (hc47 mTc) (hc48 mFt) (hc49 mGo) dyn, 0, 0)) rfl ?_
  refine pm_go (g := (46, _, [.int mTn], _, 0, 0)) rfl ?_
  exact pm_ret rfl k0
end
section
set_option maxRecDepth 100000 in
set_option maxHeartbeats 4000000 in
theorem w_face_loop {g c1 c2 c3 c4 c5 c6 c7 c8 c9 c10 c11 c12 c13 c14 c15 c16 c17 c18 c19 c20 c21 c22 c23 c24 : pm_C} {dyn : pm_H} {mTy : Int32} {mPa : Nat → Int32} {mTo : Nat → Int32} {mTm : Int32} {mMn : Int32} {mOt : Nat → Int32} {mNa : Nat → Int32} {mRe : Nat → Int32} {mMa : Nat → Int32} {mMy : Nat → Int32} {mPm : Nat → Int32} {mFn : Int32} {mFy : Nat → Int32} {mFa : Nat → Int32} {mFr : Nat → Int32} {mRn : Int32} {mFo : Nat → Int32} {mRt : Nat → Int32} {mRm : Nat → Int32} {mTn : Int32} {mTt : Nat → Int32} {mTi : Nat → Int32} {mPl : Nat → Int32} {mVn : Int32} {mVr : Nat → Int32} {mVf : Nat → Int32} {mVc : Nat → Int32} {mAr : Nat → Int32} {mLr : Int32} {mTc : Nat → Int32} {mTr : Int32} {mFl : Int32} {mFt : Nat → Int32} {mFm : Int32} {mFp : Int32} {mSc : Int32} {mMp : Int32} {mEn : Int32} {mGo : Nat → Int32} {Q : pm_Q} (r : Int32) (f0 : Nat → Int32) (hf : 0 ≤ mFn.toInt ∧ mFn.toInt < 10) (ht : 0 ≤ mTm.toInt ∧ mTm.toInt ≤ 3) : ∀ (n k : Nat) (f : Nat → Int32), ((k : Int) ≤ mTm.toInt) → (3 < k + n) → (∀ i : Nat, f i = if 3 * mFn.toNatClampNeg ≤ i ∧ i < 3 * mFn.toNatClampNeg + k then mTo (i - 3 * mFn.toNatClampNeg) else f0 i) → (Q (some (.int (mFn + 1 - 1))) (hq g c1 c2 c3 c4 c5 c6 c7 c8 c9 c10 c11 c12 c13 c14 c15 c16 c17 c18 c19 c20 c21 c22 c23 c24 (hc25 mTy 0 mMn (mFn + 1) mRn mTn mVn mLr mTr mFl mFm mFp mSc mMp mEn) (hc26 mPa) (hc27 mTo) (hc28 mOt) (hc29 mNa) (hc30 mRe) (hc31 mMa) (hc32 mMy) (hc33 mPm) (hc34 mFy) (hc35 (cpF f0 mTo mFn mTm)) (hc36 (upd mFr mFn.toNatClampNeg r)) (hc37 mFo) (hc38 mRt) (hc39 mRm) (hc40 mTt) (hc41 mTi) (hc42 mPl) (hc43 mVr) (hc44 mVf) (hc45 mVc) (hc46 mAr) (hc47 mTc) (hc48 mFt) (hc49 mGo) dyn)) → pm_WP 162 (43, [(2, .int (nI k)), (0, .ref 25), (1, .int r)], [], hq g c1 c2 c3 c4 c5 c6 c7 c8 c9 c10 c11 c12 c13 c14 c15 c16 c17 c18 c19 c20 c21 c22 c23 c24 (hc25 mTy mTm mMn mFn mRn mTn mVn mLr mTr mFl mFm mFp mSc mMp mEn) (hc26 mPa) (hc27 mTo) (hc28 mOt) (hc29 mNa) (hc30 mRe) (hc31 mMa) (hc32 mMy) (hc33 mPm) (hc34 mFy) (hc35 f) (hc36 mFr) (hc37 mFo) (hc38 mRt) (hc39 mRm) (hc40 mTt) (hc41 mTi) (hc42 mPl) (hc43 mVr) (hc44 mVf) (hc45 mVc) (hc46 mAr) (hc47 mTc) (hc48 mFt) (hc49 mGo) dyn, 0, 0) Q := by
  intro n
  induction n with
  | zero =>
    intro k f g1 g2 g3 k0
    exfalso; omega
  | succ n ih =>
    intro k f g1 g2 g3 k0
    have hk := nI_toInt (n := k) (by omega)
    have hkc : (nI k).toNatClampNeg = k := nI_clamp (by omega)
    have hxt := xN (x := mFn) (by omega)
    refine pm_go (g := (44, [(2, .int (nI k)), (0, .ref 25), (1, .int r)], [.int (nI k)], hq g c1 c2 c3 c4 c5 c6 c7 c8 c9 c10 c11 c12 c13 c14 c15 c16 c17 c18 c19 c20 c21 c22 c23 c24 (hc25 mTy mTm mMn mFn mRn mTn mVn mLr mTr mFl mFm mFp mSc mMp mEn) (hc26 mPa) (hc27 mTo) (hc28 mOt) (hc29 mNa) (hc30 mRe) (hc31 mMa) (hc32 mMy) (hc33 mPm) (hc34 mFy) (hc35 f) (hc36 mFr) (hc37 mFo) (hc38 mRt) (hc39 mRm) (hc40 mTt) (hc41 mTi) (hc42 mPl) (hc43 mVr) (hc44 mVf) (hc45 mVc) (hc46 mAr) (hc47 mTc) (hc48 mFt) (hc49 mGo) dyn, 0, 0)) rfl ?_
    refine pm_go (g := (45, _, [.ref 25, .int (nI k)], _, 0, 0)) rfl ?_
    refine pm_go (g := (48, _, [.int mTm, .int (nI k)], _, 0, 0)) rfl ?_
    refine pm_if2 (g := (76, [(2, .int (nI k)), (0, .ref 25), (1, .int r)], [], hq g c1 c2 c3 c4 c5 c6 c7 c8 c9 c10 c11 c12 c13 c14 c15 c16 c17 c18 c19 c20 c21 c22 c23 c24 (hc25 mTy mTm mMn mFn mRn mTn mVn mLr mTr mFl mFm mFp mSc mMp mEn) (hc26 mPa) (hc27 mTo) (hc28 mOt) (hc29 mNa) (hc30 mRe) (hc31 mMa) (hc32 mMy) (hc33 mPm) (hc34 mFy) (hc35 f) (hc36 mFr) (hc37 mFo) (hc38 mRt) (hc39 mRm) (hc40 mTt) (hc41 mTi) (hc42 mPl) (hc43 mVr) (hc44 mVf) (hc45 mVc) (hc46 mAr) (hc47 mTc) (hc48 mFt) (hc49 mGo) dyn, 0, 0)) (h := (51, [(2, .int (nI k)), (0, .ref 25), (1, .int r)], [], hq g c1 c2 c3 c4 c5 c6 c7 c8 c9 c10 c11 c12 c13 c14 c15 c16 c17 c18 c19 c20 c21 c22 c23 c24 (hc25 mTy mTm mMn mFn mRn mTn mVn mLr mTr mFl mFm mFp mSc mMp mEn) (hc26 mPa) (hc27 mTo) (hc28 mOt) (hc29 mNa) (hc30 mRe) (hc31 mMa) (hc32 mMy) (hc33 mPm) (hc34 mFy) (hc35 f) (hc36 mFr) (hc37 mFo) (hc38 mRt) (hc39 mRm) (hc40 mTt) (hc41 mTi) (hc42 mPl) (hc43 mVr) (hc44 mVf) (hc45 mVc) (hc46 mAr) (hc47 mTc) (hc48 mFt) (hc49 mGo) dyn, 0, 0)) rfl (fun h1 => ?_) (fun h1 => ?_)
    ·
      have h1 := qT_ge (cx := (nI k).toInt) (cy := (mTm).toInt) rfl rfl h1
      refine pm_go (g := (77, _, [.ref 25], _, 0, 0)) rfl ?_
      refine pm_go (g := (80, _, [.ref 36], _, 0, 0)) rfl ?_
      refine pm_go (g := (81, _, [.ref 25, .ref 36], _, 0, 0)) rfl ?_
      refine pm_go (g := (84, _, [.int mFn, .ref 36], _, 0, 0)) rfl ?_
      refine pm_go (g := (85, _, [.int r, .int mFn, .ref 36], _, 0, 0)) rfl ?_
      refine pm_sd (g := (86, _, [], hq g c1 c2 c3 c4 c5 c6 c7 c8 c9 c10 c11 c12 c13 c14 c15 c16 c17 c18 c19 c20 c21 c22 c23 c24 (hc25 mTy mTm mMn mFn mRn mTn mVn mLr mTr mFl mFm mFp mSc mMp mEn) (hc26 mPa) (hc27 mTo) (hc28 mOt) (hc29 mNa) (hc30 mRe) (hc31 mMa) (hc32 mMy) (hc33 mPm) (hc34 mFy) (hc35 f) (hc36 (upd mFr (mFn).toNatClampNeg r)) (hc37 mFo) (hc38 mRt) (hc39 mRm) (hc40 mTt) (hc41 mTi) (hc42 mPl) (hc43 mVr) (hc44 mVf) (hc45 mVc) (hc46 mAr) (hc47 mTc) (hc48 mFt) (hc49 mGo) dyn, 0, 0)) rfl (pm_inI (by omega) (by omega)) ?_
      refine pm_go (g := (87, _, [.ref 25], _, 0, 0)) rfl ?_
      refine pm_go (g := (88, _, [.int 0, .ref 25], _, 0, 0)) rfl ?_
      refine pm_go (g := (91, _, [], hq g c1 c2 c3 c4 c5 c6 c7 c8 c9 c10 c11 c12 c13 c14 c15 c16 c17 c18 c19 c20 c21 c22 c23 c24 (hc25 mTy 0 mMn mFn mRn mTn mVn mLr mTr mFl mFm mFp mSc mMp mEn) (hc26 mPa) (hc27 mTo) (hc28 mOt) (hc29 mNa) (hc30 mRe) (hc31 mMa) (hc32 mMy) (hc33 mPm) (hc34 mFy) (hc35 f) (hc36 (upd mFr (mFn).toNatClampNeg r)) (hc37 mFo) (hc38 mRt) (hc39 mRm) (hc40 mTt) (hc41 mTi) (hc42 mPl) (hc43 mVr) (hc44 mVf) (hc45 mVc) (hc46 mAr) (hc47 mTc) (hc48 mFt) (hc49 mGo) dyn, 0, 0)) rfl ?_
      refine pm_go (g := (92, _, [.ref 25], _, 0, 0)) rfl ?_
      refine pm_go (g := (93, _, [.ref 25, .ref 25], _, 0, 0)) rfl ?_
      refine pm_go (g := (96, _, [.int mFn, .ref 25], _, 0, 0)) rfl ?_
      refine pm_go (g := (97, _, [.int 1, .int mFn, .ref 25], _, 0, 0)) rfl ?_
      refine pm_go (g := (98, _, [.int (mFn + 1), .ref 25], _, 0, 0)) rfl ?_
      try have h2 : (mFn + 1).toInt = (mFn).toInt + 1 := iAdd (x := (mFn).toInt) (y := 1) rfl (by decide) (by omega) (by omega)
      refine pm_go (g := (101, _, [], hq g c1 c2 c3 c4 c5 c6 c7 c8 c9 c10 c11 c12 c13 c14 c15 c16 c17 c18 c19 c20 c21 c22 c23 c24 (hc25 mTy 0 mMn (mFn + 1) mRn mTn mVn mLr mTr mFl mFm mFp mSc mMp mEn) (hc26 mPa) (hc27 mTo) (hc28 mOt) (hc29 mNa) (hc30 mRe) (hc31 mMa) (hc32 mMy) (hc33 mPm) (hc34 mFy) (hc35 f) (hc36 (upd mFr (mFn).toNatClampNeg r)) (hc37 mFo) (hc38 mRt) (hc39 mRm) (hc40 mTt) (hc41 mTi) (hc42 mPl) (hc43 mVr) (hc44 mVf) (hc45 mVc) (hc46 mAr) (hc47 mTc) (hc48 mFt) (hc49 mGo) dyn, 0, 0)) rfl ?_
      refine pm_go (g := (102, _, [.ref 25], _, 0, 0)) rfl ?_
      refine pm_go (g := (105, _, [.int (mFn + 1)], _, 0, 0)) rfl ?_
      refine pm_go (g := (106, _, [.int 1, .int (mFn + 1)], _, 0, 0)) rfl ?_
      refine pm_go (g := (107, _, [.int ((mFn + 1) - 1)], _, 0, 0)) rfl ?_
      try have h3 : ((mFn + 1) - 1).toInt = (mFn + 1).toInt - 1 := iSub (x := (mFn + 1).toInt) (y := 1) rfl (by decide) (by omega) (by omega)
      have ef : f = cpF f0 mTo mFn mTm := funext (fun i => by rw [g3 i]; unfold cpF; rw [show mTm.toNatClampNeg = k from tN (by omega)])
      rw [ef]
      exact pm_ret rfl k0
    have h1 := qF_ge (cx := (nI k).toInt) (cy := (mTm).toInt) rfl rfl h1
    refine pm_go (g := (52, _, [.ref 25], hq g c1 c2 c3 c4 c5 c6 c7 c8 c9 c10 c11 c12 c13 c14 c15 c16 c17 c18 c19 c20 c21 c22 c23 c24 (hc25 mTy mTm mMn mFn mRn mTn mVn mLr mTr mFl mFm mFp mSc mMp mEn) (hc26 mPa) (hc27 mTo) (hc28 mOt) (hc29 mNa) (hc30 mRe) (hc31 mMa) (hc32 mMy) (hc33 mPm) (hc34 mFy) (hc35 f) (hc36 mFr) (hc37 mFo) (hc38 mRt) (hc39 mRm) (hc40 mTt) (hc41 mTi) (hc42 mPl) (hc43 mVr) (hc44 mVf) (hc45 mVc) (hc46 mAr) (hc47 mTc) (hc48 mFt) (hc49 mGo) dyn, 0, 0)) rfl ?_
    refine pm_go (g := (55, _, [.ref 35], _, 0, 0)) rfl ?_
    refine pm_go (g := (56, _, [.int 3, .ref 35], _, 0, 0)) rfl ?_
    refine pm_go (g := (57, _, [.ref 25, .int 3, .ref 35], _, 0, 0)) rfl ?_
    refine pm_go (g := (60, _, [.int mFn, .int 3, .ref 35], _, 0, 0)) rfl ?_
    refine pm_go (g := (61, _, [.int (3 * mFn), .ref 35], _, 0, 0)) rfl ?_
    try have h4 : (3 * mFn).toInt = 3 * (mFn).toInt := iMul (x := 3) (y := (mFn).toInt) (by decide) rfl (by omega) (by omega)
    refine pm_go (g := (62, _, [.int (nI k), .int (3 * mFn), .ref 35], _, 0, 0)) rfl ?_
    refine pm_go (g := (63, _, [.int ((3 * mFn) + (nI k)), .ref 35], _, 0, 0)) rfl ?_
    try have h5 : ((3 * mFn) + (nI k)).toInt = (3 * mFn).toInt + (nI k).toInt := iAdd (x := (3 * mFn).toInt) (y := (nI k).toInt) rfl rfl (by omega) (by omega)
    refine pm_go (g := (64, _, [.ref 25, .int ((3 * mFn) + (nI k)), .ref 35], _, 0, 0)) rfl ?_
    refine pm_go (g := (67, _, [.ref 27, .int ((3 * mFn) + (nI k)), .ref 35], _, 0, 0)) rfl ?_
    refine pm_go (g := (68, _, [.int (nI k), .ref 27, .int ((3 * mFn) + (nI k)), .ref 35], _, 0, 0)) rfl ?_
    refine pm_sd (g := (69, _, [.int (mTo (nI k).toNatClampNeg), .int ((3 * mFn) + (nI k)), .ref 35], _, 0, 0)) rfl (pm_inI (by omega) (by omega)) ?_
    refine pm_sd (g := (70, _, [], hq g c1 c2 c3 c4 c5 c6 c7 c8 c9 c10 c11 c12 c13 c14 c15 c16 c17 c18 c19 c20 c21 c22 c23 c24 (hc25 mTy mTm mMn mFn mRn mTn mVn mLr mTr mFl mFm mFp mSc mMp mEn) (hc26 mPa) (hc27 mTo) (hc28 mOt) (hc29 mNa) (hc30 mRe) (hc31 mMa) (hc32 mMy) (hc33 mPm) (hc34 mFy) (hc35 (upd f ((3 * mFn) + (nI k)).toNatClampNeg (mTo (nI k).toNatClampNeg))) (hc36 mFr) (hc37 mFo) (hc38 mRt) (hc39 mRm) (hc40 mTt) (hc41 mTi) (hc42 mPl) (hc43 mVr) (hc44 mVf) (hc45 mVc) (hc46 mAr) (hc47 mTc) (hc48 mFt) (hc49 mGo) dyn, 0, 0)) rfl (pm_inI (by omega) (by omega)) ?_
    refine pm_go (g := (73, [(2, .int ((nI k) + 1)), (0, .ref 25), (1, .int r)], [], _, 0, 0)) rfl ?_
    refine pm_go (g := (43, _, [], _, 0, 0)) rfl ?_
    have hix : (3 * mFn + nI k).toNatClampNeg = 3 * mFn.toNatClampNeg + k := tN (by omega)
    rw [nI_1, hix, hkc]
    refine ih (k + 1) (upd f (3 * mFn.toNatClampNeg + k) (mTo k)) (by omega) (by omega) (fun i => ?_) k0
    unfold upd
    by_cases e9 : i = 3 * mFn.toNatClampNeg + k
    · rw [if_pos e9, if_pos (by omega), show i - 3 * mFn.toNatClampNeg = k by omega]
    · rw [if_neg e9, g3 i]
      by_cases e8 : 3 * mFn.toNatClampNeg ≤ i ∧ i < 3 * mFn.toNatClampNeg + k
      · rw [if_pos e8, if_pos (by omega)]
      · rw [if_neg e8, if_neg (by omega)]
set_option maxRecDepth 100000 in
set_option maxHeartbeats 4000000 in
theorem w_X12_face {g c1 c2 c3 c4 c5 c6 c7 c8 c9 c10 c11 c12 c13 c14 c15 c16 c17 c18 c19 c20 c21 c22 c23 c24 : pm_C} {dyn : pm_H} {mTy : Int32} {mPa : Nat → Int32} {mTo : Nat → Int32} {mTm : Int32} {mMn : Int32} {mOt : Nat → Int32} {mNa : Nat → Int32} {mRe : Nat → Int32} {mMa : Nat → Int32} {mMy : Nat → Int32} {mPm : Nat → Int32} {mFn : Int32} {mFy : Nat → Int32} {mFa : Nat → Int32} {mFr : Nat → Int32} {mRn : Int32} {mFo : Nat → Int32} {mRt : Nat → Int32} {mRm : Nat → Int32} {mTn : Int32} {mTt : Nat → Int32} {mTi : Nat → Int32} {mPl : Nat → Int32} {mVn : Int32} {mVr : Nat → Int32} {mVf : Nat → Int32} {mVc : Nat → Int32} {mAr : Nat → Int32} {mLr : Int32} {mTc : Nat → Int32} {mTr : Int32} {mFl : Int32} {mFt : Nat → Int32} {mFm : Int32} {mFp : Int32} {mSc : Int32} {mMp : Int32} {mEn : Int32} {mGo : Nat → Int32} {Q : pm_Q} (r : Int32) (p0 : 2 ≤ mTy.toInt ∧ mTy.toInt ≤ 10) (p1 : 0 ≤ mTm.toInt ∧ mTm.toInt ≤ 3) (p2 : 0 ≤ mFn.toInt ∧ mFn.toInt ≤ 10) (k0 : ¬ anyT mTy r → Q (some (.int (-1))) (hq g c1 c2 c3 c4 c5 c6 c7 c8 c9 c10 c11 c12 c13 c14 c15 c16 c17 c18 c19 c20 c21 c22 c23 c24 (hc25 mTy mTm mMn mFn mRn mTn mVn mLr mTr mFl mFm mFp mSc mMp mEn) (hc26 mPa) (hc27 mTo) (hc28 mOt) (hc29 mNa) (hc30 mRe) (hc31 mMa) (hc32 mMy) (hc33 mPm) (hc34 mFy) (hc35 mFa) (hc36 mFr) (hc37 mFo) (hc38 mRt) (hc39 mRm) (hc40 mTt) (hc41 mTi) (hc42 mPl) (hc43 mVr) (hc44 mVf) (hc45 mVc) (hc46 mAr) (hc47 mTc) (hc48 mFt) (hc49 mGo) dyn)) (k1 : anyT mTy r ∧ mFn.toInt = 10 → Q (some (.int (-2))) (hq g c1 c2 c3 c4 c5 c6 c7 c8 c9 c10 c11 c12 c13 c14 c15 c16 c17 c18 c19 c20 c21 c22 c23 c24 (hc25 mTy mTm mMn mFn mRn mTn mVn mLr mTr mFl mFm mFp mSc mMp mEn) (hc26 mPa) (hc27 mTo) (hc28 mOt) (hc29 mNa) (hc30 mRe) (hc31 mMa) (hc32 mMy) (hc33 mPm) (hc34 mFy) (hc35 mFa) (hc36 mFr) (hc37 mFo) (hc38 mRt) (hc39 mRm) (hc40 mTt) (hc41 mTi) (hc42 mPl) (hc43 mVr) (hc44 mVf) (hc45 mVc) (hc46 mAr) (hc47 mTc) (hc48 mFt) (hc49 mGo) dyn)) (k2 : anyT mTy r ∧ mFn.toInt < 10 → Q (some (.int (mFn + 1 - 1))) (hq g c1 c2 c3 c4 c5 c6 c7 c8 c9 c10 c11 c12 c13 c14 c15 c16 c17 c18 c19 c20 c21 c22 c23 c24 (hc25 mTy 0 mMn (mFn + 1) mRn mTn mVn mLr mTr mFl mFm mFp mSc mMp mEn) (hc26 mPa) (hc27 mTo) (hc28 mOt) (hc29 mNa) (hc30 mRe) (hc31 mMa) (hc32 mMy) (hc33 mPm) (hc34 (upd mFy mFn.toNatClampNeg mTm)) (hc35 (cpF mFa mTo mFn mTm)) (hc36 (upd mFr mFn.toNatClampNeg r)) (hc37 mFo) (hc38 mRt) (hc39 mRm) (hc40 mTt) (hc41 mTi) (hc42 mPl) (hc43 mVr) (hc44 mVf) (hc45 mVc) (hc46 mAr) (hc47 mTc) (hc48 mFt) (hc49 mGo) dyn)) : pm_WP 162 (0, [(0, .ref 25), (1, .int r)], [], hq g c1 c2 c3 c4 c5 c6 c7 c8 c9 c10 c11 c12 c13 c14 c15 c16 c17 c18 c19 c20 c21 c22 c23 c24 (hc25 mTy mTm mMn mFn mRn mTn mVn mLr mTr mFl mFm mFp mSc mMp mEn) (hc26 mPa) (hc27 mTo) (hc28 mOt) (hc29 mNa) (hc30 mRe) (hc31 mMa) (hc32 mMy) (hc33 mPm) (hc34 mFy) (hc35 mFa) (hc36 mFr) (hc37 mFo) (hc38 mRt) (hc39 mRm) (hc40 mTt) (hc41 mTi) (hc42 mPl) (hc43 mVr) (hc44 mVf) (hc45 mVc) (hc46 mAr) (hc47 mTc) (hc48 mFt) (hc49 mGo) dyn, 0, 0) Q := by
  refine pm_go (g := (1, [(0, .ref 25), (1, .int r)], [.ref 25], hq g c1 c2 c3 c4 c5 c6 c7 c8 c9 c10 c11 c12 c13 c14 c15 c16 c17 c18 c19 c20 c21 c22 c23 c24 (hc25 mTy mTm mMn mFn mRn mTn mVn mLr mTr mFl mFm mFp mSc mMp mEn) (hc26 mPa) (hc27 mTo) (hc28 mOt) (hc29 mNa) (hc30 mRe) (hc31 mMa) (hc32 mMy) (hc33 mPm) (hc34 mFy) (hc35 mFa) (hc36 mFr) (hc37 mFo) (hc38 mRt) (hc39 mRm) (hc40 mTt) (hc41 mTi) (hc42 mPl) (hc43 mVr) (hc44 mVf) (hc45 mVc) (hc46 mAr) (hc47 mTc) (hc48 mFt) (hc49 mGo) dyn, 0, 0)) rfl ?_
  refine pm_go (g := (2, _, [.int r, .ref 25], _, 0, 0)) rfl ?_
  refine pm_callD (z := 131) (as := [.ref 25, .int r]) (rest := []) rfl ?_
  refine w_X12_isPlace r (by omega) (fun h1 => ?_) (fun h2 => ?_)
  ·
    show pm_WP 162 (5, [(0, .ref 25), (1, .int r)], [.int 1], _, 0, 0) _
    refine pm_brT (g := (16, [(0, .ref 25), (1, .int r)], [], hq g c1 c2 c3 c4 c5 c6 c7 c8 c9 c10 c11 c12 c13 c14 c15 c16 c17 c18 c19 c20 c21 c22 c23 c24 (hc25 mTy mTm mMn mFn mRn mTn mVn mLr mTr mFl mFm mFp mSc mMp mEn) (hc26 mPa) (hc27 mTo) (hc28 mOt) (hc29 mNa) (hc30 mRe) (hc31 mMa) (hc32 mMy) (hc33 mPm) (hc34 mFy) (hc35 mFa) (hc36 mFr) (hc37 mFo) (hc38 mRt) (hc39 mRm) (hc40 mTt) (hc41 mTi) (hc42 mPl) (hc43 mVr) (hc44 mVf) (hc45 mVc) (hc46 mAr) (hc47 mTc) (hc48 mFt) (hc49 mGo) dyn, 0, 0)) rfl ?_
    refine pm_go (g := (17, _, [.ref 25], _, 0, 0)) rfl ?_
    refine pm_go (g := (20, _, [.int mFn], _, 0, 0)) rfl ?_
    refine pm_go (g := (22, _, [.int 10, .int mFn], _, 0, 0)) rfl ?_
    refine pm_if2 (g := (28, [(0, .ref 25), (1, .int r)], [], hq g c1 c2 c3 c4 c5 c6 c7 c8 c9 c10 c11 c12 c13 c14 c15 c16 c17 c18 c19 c20 c21 c22 c23 c24 (hc25 mTy mTm mMn mFn mRn mTn mVn mLr mTr mFl mFm mFp mSc mMp mEn) (hc26 mPa) (hc27 mTo) (hc28 mOt) (hc29 mNa) (hc30 mRe) (hc31 mMa) (hc32 mMy) (hc33 mPm) (hc34 mFy) (hc35 mFa) (hc36 mFr) (hc37 mFo) (hc38 mRt) (hc39 mRm) (hc40 mTt) (hc41 mTi) (hc42 mPl) (hc43 mVr) (hc44 mVf) (hc45 mVc) (hc46 mAr) (hc47 mTc) (hc48 mFt) (hc49 mGo) dyn, 0, 0)) (h := (25, [(0, .ref 25), (1, .int r)], [], hq g c1 c2 c3 c4 c5 c6 c7 c8 c9 c10 c11 c12 c13 c14 c15 c16 c17 c18 c19 c20 c21 c22 c23 c24 (hc25 mTy mTm mMn mFn mRn mTn mVn mLr mTr mFl mFm mFp mSc mMp mEn) (hc26 mPa) (hc27 mTo) (hc28 mOt) (hc29 mNa) (hc30 mRe) (hc31 mMa) (hc32 mMy) (hc33 mPm) (hc34 mFy) (hc35 mFa) (hc36 mFr) (hc37 mFo) (hc38 mRt) (hc39 mRm) (hc40 mTt) (hc41 mTi) (hc42 mPl) (hc43 mVr) (hc44 mVf) (hc45 mVc) (hc46 mAr) (hc47 mTc) (hc48 mFt) (hc49 mGo) dyn, 0, 0)) rfl (fun h4 => ?_) (fun h4 => ?_)
    ·
      have h4 := qT_ne (cx := (mFn).toInt) (cy := 10) rfl (by decide) h4
      refine pm_go (g := (29, _, [.ref 25], _, 0, 0)) rfl ?_
      refine pm_go (g := (32, _, [.ref 34], _, 0, 0)) rfl ?_
      refine pm_go (g := (33, _, [.ref 25, .ref 34], _, 0, 0)) rfl ?_
      refine pm_go (g := (36, _, [.int mFn, .ref 34], _, 0, 0)) rfl ?_
      refine pm_go (g := (37, _, [.ref 25, .int mFn, .ref 34], _, 0, 0)) rfl ?_
      refine pm_go (g := (40, _, [.int mTm, .int mFn, .ref 34], _, 0, 0)) rfl ?_
      refine pm_sd (g := (41, _, [], hq g c1 c2 c3 c4 c5 c6 c7 c8 c9 c10 c11 c12 c13 c14 c15 c16 c17 c18 c19 c20 c21 c22 c23 c24 (hc25 mTy mTm mMn mFn mRn mTn mVn mLr mTr mFl mFm mFp mSc mMp mEn) (hc26 mPa) (hc27 mTo) (hc28 mOt) (hc29 mNa) (hc30 mRe) (hc31 mMa) (hc32 mMy) (hc33 mPm) (hc34 (upd mFy (mFn).toNatClampNeg mTm)) (hc35 mFa) (hc36 mFr) (hc37 mFo) (hc38 mRt) (hc39 mRm) (hc40 mTt) (hc41 mTi) (hc42 mPl) (hc43 mVr) (hc44 mVf) (hc45 mVc) (hc46 mAr) (hc47 mTc) (hc48 mFt) (hc49 mGo) dyn, 0, 0)) rfl (pm_inI (by omega) (by omega)) ?_
      refine pm_go (g := (42, _, [.int 0], _, 0, 0)) rfl ?_
      refine pm_go (g := (43, [(2, .int 0), (0, .ref 25), (1, .int r)], [], _, 0, 0)) rfl ?_
      exact w_face_loop (mFa := mFa) r mFa (by omega) (by omega) 4 0 mFa (by omega) (by omega) (fun i => by rw [if_neg (by omega)]) (k2 ⟨by unfold anyT; omega, by omega⟩)
    have h4 := qF_ne (cx := (mFn).toInt) (cy := 10) rfl (by decide) h4
    refine pm_go (g := (27, [(0, .ref 25), (1, .int r)], [.int (-2)], hq g c1 c2 c3 c4 c5 c6 c7 c8 c9 c10 c11 c12 c13 c14 c15 c16 c17 c18 c19 c20 c21 c22 c23 c24 (hc25 mTy mTm mMn mFn mRn mTn mVn mLr mTr mFl mFm mFp mSc mMp mEn) (hc26 mPa) (hc27 mTo) (hc28 mOt) (hc29 mNa) (hc30 mRe) (hc31 mMa) (hc32 mMy) (hc33 mPm) (hc34 mFy) (hc35 mFa) (hc36 mFr) (hc37 mFo) (hc38 mRt) (hc39 mRm) (hc40 mTt) (hc41 mTi) (hc42 mPl) (hc43 mVr) (hc44 mVf) (hc45 mVc) (hc46 mAr) (hc47 mTc) (hc48 mFt) (hc49 mGo) dyn, 0, 0)) rfl ?_
    first | exact pm_ret rfl (k0 (by unfold anyT; omega)) | exact pm_ret rfl (k1 ⟨by unfold anyT; omega, by omega⟩) | (exfalso; omega)
  show pm_WP 162 (5, [(0, .ref 25), (1, .int r)], [.int 0], hq g c1 c2 c3 c4 c5 c6 c7 c8 c9 c10 c11 c12 c13 c14 c15 c16 c17 c18 c19 c20 c21 c22 c23 c24 (hc25 mTy mTm mMn mFn mRn mTn mVn mLr mTr mFl mFm mFp mSc mMp mEn) (hc26 mPa) (hc27 mTo) (hc28 mOt) (hc29 mNa) (hc30 mRe) (hc31 mMa) (hc32 mMy) (hc33 mPm) (hc34 mFy) (hc35 mFa) (hc36 mFr) (hc37 mFo) (hc38 mRt) (hc39 mRm) (hc40 mTt) (hc41 mTi) (hc42 mPl) (hc43 mVr) (hc44 mVf) (hc45 mVc) (hc46 mAr) (hc47 mTc) (hc48 mFt) (hc49 mGo) dyn, 0, 0) _
  refine pm_brF (h := (8, [(0, .ref 25), (1, .int r)], [], hq g c1 c2 c3 c4 c5 c6 c7 c8 c9 c10 c11 c12 c13 c14 c15 c16 c17 c18 c19 c20 c21 c22 c23 c24 (hc25 mTy mTm mMn mFn mRn mTn mVn mLr mTr mFl mFm mFp mSc mMp mEn) (hc26 mPa) (hc27 mTo) (hc28 mOt) (hc29 mNa) (hc30 mRe) (hc31 mMa) (hc32 mMy) (hc33 mPm) (hc34 mFy) (hc35 mFa) (hc36 mFr) (hc37 mFo) (hc38 mRt) (hc39 mRm) (hc40 mTt) (hc41 mTi) (hc42 mPl) (hc43 mVr) (hc44 mVf) (hc45 mVc) (hc46 mAr) (hc47 mTc) (hc48 mFt) (hc49 mGo) dyn, 0, 0)) rfl ?_
  refine pm_go (g := (9, _, [.int r], _, 0, 0)) rfl ?_
  refine pm_go (g := (11, _, [.int 11, .int r], _, 0, 0)) rfl ?_
  refine pm_if2 (g := (16, [(0, .ref 25), (1, .int r)], [], hq g c1 c2 c3 c4 c5 c6 c7 c8 c9 c10 c11 c12 c13 c14 c15 c16 c17 c18 c19 c20 c21 c22 c23 c24 (hc25 mTy mTm mMn mFn mRn mTn mVn mLr mTr mFl mFm mFp mSc mMp mEn) (hc26 mPa) (hc27 mTo) (hc28 mOt) (hc29 mNa) (hc30 mRe) (hc31 mMa) (hc32 mMy) (hc33 mPm) (hc34 mFy) (hc35 mFa) (hc36 mFr) (hc37 mFo) (hc38 mRt) (hc39 mRm) (hc40 mTt) (hc41 mTi) (hc42 mPl) (hc43 mVr) (hc44 mVf) (hc45 mVc) (hc46 mAr) (hc47 mTc) (hc48 mFt) (hc49 mGo) dyn, 0, 0)) (h := (14, [(0, .ref 25), (1, .int r)], [], hq g c1 c2 c3 c4 c5 c6 c7 c8 c9 c10 c11 c12 c13 c14 c15 c16 c17 c18 c19 c20 c21 c22 c23 c24 (hc25 mTy mTm mMn mFn mRn mTn mVn mLr mTr mFl mFm mFp mSc mMp mEn) (hc26 mPa) (hc27 mTo) (hc28 mOt) (hc29 mNa) (hc30 mRe) (hc31 mMa) (hc32 mMy) (hc33 mPm) (hc34 mFy) (hc35 mFa) (hc36 mFr) (hc37 mFo) (hc38 mRt) (hc39 mRm) (hc40 mTt) (hc41 mTi) (hc42 mPl) (hc43 mVr) (hc44 mVf) (hc45 mVc) (hc46 mAr) (hc47 mTc) (hc48 mFt) (hc49 mGo) dyn, 0, 0)) rfl (fun h5 => ?_) (fun h5 => ?_)
  ·
    have h5 := qT_eq (cx := (r).toInt) (cy := 11) rfl (by decide) h5
    refine pm_go (g := (17, _, [.ref 25], _, 0, 0)) rfl ?_
    refine pm_go (g := (20, _, [.int mFn], _, 0, 0)) rfl ?_
    refine pm_go (g := (22, _, [.int 10, .int mFn], _, 0, 0)) rfl ?_
    refine pm_if2 (g := (28, [(0, .ref 25), (1, .int r)], [], hq g c1 c2 c3 c4 c5 c6 c7 c8 c9 c10 c11 c12 c13 c14 c15 c16 c17 c18 c19 c20 c21 c22 c23 c24 (hc25 mTy mTm mMn mFn mRn mTn mVn mLr mTr mFl mFm mFp mSc mMp mEn) (hc26 mPa) (hc27 mTo) (hc28 mOt) (hc29 mNa) (hc30 mRe) (hc31 mMa) (hc32 mMy) (hc33 mPm) (hc34 mFy) (hc35 mFa) (hc36 mFr) (hc37 mFo) (hc38 mRt) (hc39 mRm) (hc40 mTt) (hc41 mTi) (hc42 mPl) (hc43 mVr) (hc44 mVf) (hc45 mVc) (hc46 mAr) (hc47 mTc) (hc48 mFt) (hc49 mGo) dyn, 0, 0)) (h := (25, [(0, .ref 25), (1, .int r)], [], hq g c1 c2 c3 c4 c5 c6 c7 c8 c9 c10 c11 c12 c13 c14 c15 c16 c17 c18 c19 c20 c21 c22 c23 c24 (hc25 mTy mTm mMn mFn mRn mTn mVn mLr mTr mFl mFm mFp mSc mMp mEn) (hc26 mPa) (hc27 mTo) (hc28 mOt) (hc29 mNa) (hc30 mRe) (hc31 mMa) (hc32 mMy) (hc33 mPm) (hc34 mFy) (hc35 mFa) (hc36 mFr) (hc37 mFo) (hc38 mRt) (hc39 mRm) (hc40 mTt) (hc41 mTi) (hc42 mPl) (hc43 mVr) (hc44 mVf) (hc45 mVc) (hc46 mAr) (hc47 mTc) (hc48 mFt) (hc49 mGo) dyn, 0, 0)) rfl (fun h6 => ?_) (fun h6 => ?_)
    ·
      have h6 := qT_ne (cx := (mFn).toInt) (cy := 10) rfl (by decide) h6
      refine pm_go (g := (29, _, [.ref 25], _, 0, 0)) rfl ?_
      refine pm_go (g := (32, _, [.ref 34], _, 0, 0)) rfl ?_
      refine pm_go (g := (33, _, [.ref 25, .ref 34], _, 0, 0)) rfl ?_
      refine pm_go (g := (36, _, [.int mFn, .ref 34], _, 0, 0)) rfl ?_
      refine pm_go (g := (37, _, [.ref 25, .int mFn, .ref 34], _, 0, 0)) rfl ?_
      refine pm_go (g := (40, _, [.int mTm, .int mFn, .ref 34], _, 0, 0)) rfl ?_
      refine pm_sd (g := (41, _, [], hq g c1 c2 c3 c4 c5 c6 c7 c8 c9 c10 c11 c12 c13 c14 c15 c16 c17 c18 c19 c20 c21 c22 c23 c24 (hc25 mTy mTm mMn mFn mRn mTn mVn mLr mTr mFl mFm mFp mSc mMp mEn) (hc26 mPa) (hc27 mTo) (hc28 mOt) (hc29 mNa) (hc30 mRe) (hc31 mMa) (hc32 mMy) (hc33 mPm) (hc34 (upd mFy (mFn).toNatClampNeg mTm)) (hc35 mFa) (hc36 mFr) (hc37 mFo) (hc38 mRt) (hc39 mRm) (hc40 mTt) (hc41 mTi) (hc42 mPl) (hc43 mVr) (hc44 mVf) (hc45 mVc) (hc46 mAr) (hc47 mTc) (hc48 mFt) (hc49 mGo) dyn, 0, 0)) rfl (pm_inI (by omega) (by omega)) ?_
      refine pm_go (g := (42, _, [.int 0], _, 0, 0)) rfl ?_
      refine pm_go (g := (43, [(2, .int 0), (0, .ref 25), (1, .int r)], [], _, 0, 0)) rfl ?_
      exact w_face_loop (mFa := mFa) r mFa (by omega) (by omega) 4 0 mFa (by omega) (by omega) (fun i => by rw [if_neg (by omega)]) (k2 ⟨by unfold anyT; omega, by omega⟩)
    have h6 := qF_ne (cx := (mFn).toInt) (cy := 10) rfl (by decide) h6
    refine pm_go (g := (27, [(0, .ref 25), (1, .int r)], [.int (-2)], hq g c1 c2 c3 c4 c5 c6 c7 c8 c9 c10 c11 c12 c13 c14 c15 c16 c17 c18 c19 c20 c21 c22 c23 c24 (hc25 mTy mTm mMn mFn mRn mTn mVn mLr mTr mFl mFm mFp mSc mMp mEn) (hc26 mPa) (hc27 mTo) (hc28 mOt) (hc29 mNa) (hc30 mRe) (hc31 mMa) (hc32 mMy) (hc33 mPm) (hc34 mFy) (hc35 mFa) (hc36 mFr) (hc37 mFo) (hc38 mRt) (hc39 mRm) (hc40 mTt) (hc41 mTi) (hc42 mPl) (hc43 mVr) (hc44 mVf) (hc45 mVc) (hc46 mAr) (hc47 mTc) (hc48 mFt) (hc49 mGo) dyn, 0, 0)) rfl ?_
    first | exact pm_ret rfl (k0 (by unfold anyT; omega)) | exact pm_ret rfl (k1 ⟨by unfold anyT; omega, by omega⟩) | (exfalso; omega)
  have h5 := qF_eq (cx := (r).toInt) (cy := 11) rfl (by decide) h5
  refine pm_go (g := (15, _, [.int (-1)], _, 0, 0)) rfl ?_
  first | exact pm_ret rfl (k0 (by unfold anyT; omega)) | exact pm_ret rfl (k1 ⟨by unfold anyT; omega, by omega⟩) | (exfalso; omega)
set_option maxRecDepth 100000 in
set_option maxHeartbeats 4000000 in
theorem w_has_loop {g c1 c2 c3 c4 c5 c6 c7 c8 c9 c10 c11 c12 c13 c14 c15 c16 c17 c18 c19 c20 c21 c22 c23 c24 : pm_C} {dyn : pm_H} {mTy : Int32} {mPa : Nat → Int32} {mTo : Nat → Int32} {mTm : Int32} {mMn : Int32} {mOt : Nat → Int32} {mNa : Nat → Int32} {mRe : Nat → Int32} {mMa : Nat → Int32} {mMy : Nat → Int32} {mPm : Nat → Int32} {mFn : Int32} {mFy : Nat → Int32} {mFa : Nat → Int32} {mFr : Nat → Int32} {mRn : Int32} {mFo : Nat → Int32} {mRt : Nat → Int32} {mRm : Nat → Int32} {mTn : Int32} {mTt : Nat → Int32} {mTi : Nat → Int32} {mPl : Nat → Int32} {mVn : Int32} {mVr : Nat → Int32} {mVf : Nat → Int32} {mVc : Nat → Int32} {mAr : Nat → Int32} {mLr : Int32} {mTc : Nat → Int32} {mTr : Int32} {mFl : Int32} {mFt : Nat → Int32} {mFm : Int32} {mFp : Int32} {mSc : Int32} {mMp : Int32} {mEn : Int32} {mGo : Nat → Int32} {Q : pm_Q} (t i : Int32) (hp : paD mPa) (hy : myD mMy) (hn : 0 ≤ mMn.toInt ∧ mMn.toInt ≤ 40) : ∀ (n k : Nat) (s : Int32), (k ≤ 40) → (40 < k + n) → (∀ r9 : Int32, Q (some (.int r9)) (hq g c1 c2 c3 c4 c5 c6 c7 c8 c9 c10 c11 c12 c13 c14 c15 c16 c17 c18 c19 c20 c21 c22 c23 c24 (hc25 mTy mTm mMn mFn mRn mTn mVn mLr mTr mFl mFm mFp mSc mMp mEn) (hc26 mPa) (hc27 mTo) (hc28 mOt) (hc29 mNa) (hc30 mRe) (hc31 mMa) (hc32 mMy) (hc33 mPm) (hc34 mFy) (hc35 mFa) (hc36 mFr) (hc37 mFo) (hc38 mRt) (hc39 mRm) (hc40 mTt) (hc41 mTi) (hc42 mPl) (hc43 mVr) (hc44 mVf) (hc45 mVc) (hc46 mAr) (hc47 mTc) (hc48 mFt) (hc49 mGo) dyn)) → pm_WP 144 (15, [(4, .int (nI k)), (3, .int s), (0, .ref 25), (1, .int t), (2, .int i)], [], hq g c1 c2 c3 c4 c5 c6 c7 c8 c9 c10 c11 c12 c13 c14 c15 c16 c17 c18 c19 c20 c21 c22 c23 c24 (hc25 mTy mTm mMn mFn mRn mTn mVn mLr mTr mFl mFm mFp mSc mMp mEn) (hc26 mPa) (hc27 mTo) (hc28 mOt) (hc29 mNa) (hc30 mRe) (hc31 mMa) (hc32 mMy) (hc33 mPm) (hc34 mFy) (hc35 mFa) (hc36 mFr) (hc37 mFo) (hc38 mRt) (hc39 mRm) (hc40 mTt) (hc41 mTi) (hc42 mPl) (hc43 mVr) (hc44 mVf) (hc45 mVc) (hc46 mAr) (hc47 mTc) (hc48 mFt) (hc49 mGo) dyn, 0, 0) Q := by
  intro n
  induction n with
  | zero =>
    intro k s g1 g2 k0
    exfalso; omega
  | succ n ih =>
    intro k s g1 g2 k0
    have hk := nI_toInt (n := k) (by omega)
    have hkc : (nI k).toNatClampNeg = k := nI_clamp (by omega)
    refine pm_go (g := (17, [(4, .int (nI k)), (3, .int s), (0, .ref 25), (1, .int t), (2, .int i)], [.int (nI k)], hq g c1 c2 c3 c4 c5 c6 c7 c8 c9 c10 c11 c12 c13 c14 c15 c16 c17 c18 c19 c20 c21 c22 c23 c24 (hc25 mTy mTm mMn mFn mRn mTn mVn mLr mTr mFl mFm mFp mSc mMp mEn) (hc26 mPa) (hc27 mTo) (hc28 mOt) (hc29 mNa) (hc30 mRe) (hc31 mMa) (hc32 mMy) (hc33 mPm) (hc34 mFy) (hc35 mFa) (hc36 mFr) (hc37 mFo) (hc38 mRt) (hc39 mRm) (hc40 mTt) (hc41 mTi) (hc42 mPl) (hc43 mVr) (hc44 mVf) (hc45 mVc) (hc46 mAr) (hc47 mTc) (hc48 mFt) (hc49 mGo) dyn, 0, 0)) rfl ?_
    refine pm_go (g := (18, _, [.ref 25, .int (nI k)], _, 0, 0)) rfl ?_
    refine pm_go (g := (21, _, [.int mMn, .int (nI k)], _, 0, 0)) rfl ?_
    refine pm_if2 (g := (51, [(4, .int (nI k)), (3, .int s), (0, .ref 25), (1, .int t), (2, .int i)], [], hq g c1 c2 c3 c4 c5 c6 c7 c8 c9 c10 c11 c12 c13 c14 c15 c16 c17 c18 c19 c20 c21 c22 c23 c24 (hc25 mTy mTm mMn mFn mRn mTn mVn mLr mTr mFl mFm mFp mSc mMp mEn) (hc26 mPa) (hc27 mTo) (hc28 mOt) (hc29 mNa) (hc30 mRe) (hc31 mMa) (hc32 mMy) (hc33 mPm) (hc34 mFy) (hc35 mFa) (hc36 mFr) (hc37 mFo) (hc38 mRt) (hc39 mRm) (hc40 mTt) (hc41 mTi) (hc42 mPl) (hc43 mVr) (hc44 mVf) (hc45 mVc) (hc46 mAr) (hc47 mTc) (hc48 mFt) (hc49 mGo) dyn, 0, 0)) (h := (24, [(4, .int (nI k)), (3, .int s), (0, .ref 25), (1, .int t), (2, .int i)], [], hq g c1 c2 c3 c4 c5 c6 c7 c8 c9 c10 c11 c12 c13 c14 c15 c16 c17 c18 c19 c20 c21 c22 c23 c24 (hc25 mTy mTm mMn mFn mRn mTn mVn mLr mTr mFl mFm mFp mSc mMp mEn) (hc26 mPa) (hc27 mTo) (hc28 mOt) (hc29 mNa) (hc30 mRe) (hc31 mMa) (hc32 mMy) (hc33 mPm) (hc34 mFy) (hc35 mFa) (hc36 mFr) (hc37 mFo) (hc38 mRt) (hc39 mRm) (hc40 mTt) (hc41 mTi) (hc42 mPl) (hc43 mVr) (hc44 mVf) (hc45 mVc) (hc46 mAr) (hc47 mTc) (hc48 mFt) (hc49 mGo) dyn, 0, 0)) rfl (fun h1 => ?_) (fun h1 => ?_)
    ·
      have h1 := qT_ge (cx := (nI k).toInt) (cy := (mMn).toInt) rfl rfl h1
      refine pm_go (g := (53, _, [.int (-4)], _, 0, 0)) rfl ?_
      exact pm_ret rfl (k0 _)
    have h1 := qF_ge (cx := (nI k).toInt) (cy := (mMn).toInt) rfl rfl h1
    refine pm_go (g := (25, _, [.ref 25], _, 0, 0)) rfl ?_
    refine pm_go (g := (26, _, [.int t, .ref 25], _, 0, 0)) rfl ?_
    refine pm_go (g := (28, _, [.int (nI k), .int t, .ref 25], _, 0, 0)) rfl ?_
    refine pm_callD (z := 143) (as := [.ref 25, .int t, .int (nI k)]) (rest := []) rfl ?_
    refine w_X12_isHad t (nI k) (by omega) (by assumption) (by assumption) (by omega) (fun h2 => ?_) (fun h3 => ?_)
    ·
      show pm_WP 144 (31, [(4, .int (nI k)), (3, .int s), (0, .ref 25), (1, .int t), (2, .int i)], [.int 1], _, 0, 0) _
      refine pm_brF (h := (34, [(4, .int (nI k)), (3, .int s), (0, .ref 25), (1, .int t), (2, .int i)], [], hq g c1 c2 c3 c4 c5 c6 c7 c8 c9 c10 c11 c12 c13 c14 c15 c16 c17 c18 c19 c20 c21 c22 c23 c24 (hc25 mTy mTm mMn mFn mRn mTn mVn mLr mTr mFl mFm mFp mSc mMp mEn) (hc26 mPa) (hc27 mTo) (hc28 mOt) (hc29 mNa) (hc30 mRe) (hc31 mMa) (hc32 mMy) (hc33 mPm) (hc34 mFy) (hc35 mFa) (hc36 mFr) (hc37 mFo) (hc38 mRt) (hc39 mRm) (hc40 mTt) (hc41 mTi) (hc42 mPl) (hc43 mVr) (hc44 mVf) (hc45 mVc) (hc46 mAr) (hc47 mTc) (hc48 mFt) (hc49 mGo) dyn, 0, 0)) rfl ?_
      refine pm_go (g := (35, _, [.int s], _, 0, 0)) rfl ?_
      refine pm_go (g := (36, _, [.int i, .int s], _, 0, 0)) rfl ?_
      refine pm_if2 (g := (42, [(4, .int (nI k)), (3, .int s), (0, .ref 25), (1, .int t), (2, .int i)], [], hq g c1 c2 c3 c4 c5 c6 c7 c8 c9 c10 c11 c12 c13 c14 c15 c16 c17 c18 c19 c20 c21 c22 c23 c24 (hc25 mTy mTm mMn mFn mRn mTn mVn mLr mTr mFl mFm mFp mSc mMp mEn) (hc26 mPa) (hc27 mTo) (hc28 mOt) (hc29 mNa) (hc30 mRe) (hc31 mMa) (hc32 mMy) (hc33 mPm) (hc34 mFy) (hc35 mFa) (hc36 mFr) (hc37 mFo) (hc38 mRt) (hc39 mRm) (hc40 mTt) (hc41 mTi) (hc42 mPl) (hc43 mVr) (hc44 mVf) (hc45 mVc) (hc46 mAr) (hc47 mTc) (hc48 mFt) (hc49 mGo) dyn, 0, 0)) (h := (39, [(4, .int (nI k)), (3, .int s), (0, .ref 25), (1, .int t), (2, .int i)], [], hq g c1 c2 c3 c4 c5 c6 c7 c8 c9 c10 c11 c12 c13 c14 c15 c16 c17 c18 c19 c20 c21 c22 c23 c24 (hc25 mTy mTm mMn mFn mRn mTn mVn mLr mTr mFl mFm mFp mSc mMp mEn) (hc26 mPa) (hc27 mTo) (hc28 mOt) (hc29 mNa) (hc30 mRe) (hc31 mMa) (hc32 mMy) (hc33 mPm) (hc34 mFy) (hc35 mFa) (hc36 mFr) (hc37 mFo) (hc38 mRt) (hc39 mRm) (hc40 mTt) (hc41 mTi) (hc42 mPl) (hc43 mVr) (hc44 mVf) (hc45 mVc) (hc46 mAr) (hc47 mTc) (hc48 mFt) (hc49 mGo) dyn, 0, 0)) rfl (fun h5 => ?_) (fun h5 => ?_)
      ·
        have h5 := qT_ne (cx := (s).toInt) (cy := (i).toInt) rfl rfl h5
        refine pm_go (g := (45, [(3, .int (s + 1)), (4, .int (nI k)), (0, .ref 25), (1, .int t), (2, .int i)], [], _, 0, 0)) rfl ?_
        refine pm_go (g := (48, [(4, .int ((nI k) + 1)), (3, .int (s + 1)), (0, .ref 25), (1, .int t), (2, .int i)], [], _, 0, 0)) rfl ?_
        refine pm_go (g := (15, _, [], _, 0, 0)) rfl ?_
        rw [nI_1]
        exact ih (k + 1) (s + 1) (by omega) (by omega) k0
      have h5 := qF_ne (cx := (s).toInt) (cy := (i).toInt) rfl rfl h5
      refine pm_go (g := (41, [(4, .int (nI k)), (3, .int s), (0, .ref 25), (1, .int t), (2, .int i)], [.int (nI k)], _, 0, 0)) rfl ?_
      exact pm_ret rfl (k0 _)
    show pm_WP 144 (31, [(4, .int (nI k)), (3, .int s), (0, .ref 25), (1, .int t), (2, .int i)], [.int 0], hq g c1 c2 c3 c4 c5 c6 c7 c8 c9 c10 c11 c12 c13 c14 c15 c16 c17 c18 c19 c20 c21 c22 c23 c24 (hc25 mTy mTm mMn mFn mRn mTn mVn mLr mTr mFl mFm mFp mSc mMp mEn) (hc26 mPa) (hc27 mTo) (hc28 mOt) (hc29 mNa) (hc30 mRe) (hc31 mMa) (hc32 mMy) (hc33 mPm) (hc34 mFy) (hc35 mFa) (hc36 mFr) (hc37 mFo) (hc38 mRt) (hc39 mRm) (hc40 mTt) (hc41 mTi) (hc42 mPl) (hc43 mVr) (hc44 mVf) (hc45 mVc) (hc46 mAr) (hc47 mTc) (hc48 mFt) (hc49 mGo) dyn, 0, 0) _
    refine pm_brT (g := (45, [(4, .int (nI k)), (3, .int s), (0, .ref 25), (1, .int t), (2, .int i)], [], hq g c1 c2 c3 c4 c5 c6 c7 c8 c9 c10 c11 c12 c13 c14 c15 c16 c17 c18 c19 c20 c21 c22 c23 c24 (hc25 mTy mTm mMn mFn mRn mTn mVn mLr mTr mFl mFm mFp mSc mMp mEn) (hc26 mPa) (hc27 mTo) (hc28 mOt) (hc29 mNa) (hc30 mRe) (hc31 mMa) (hc32 mMy) (hc33 mPm) (hc34 mFy) (hc35 mFa) (hc36 mFr) (hc37 mFo) (hc38 mRt) (hc39 mRm) (hc40 mTt) (hc41 mTi) (hc42 mPl) (hc43 mVr) (hc44 mVf) (hc45 mVc) (hc46 mAr) (hc47 mTc) (hc48 mFt) (hc49 mGo) dyn, 0, 0)) rfl ?_
    refine pm_go (g := (48, [(4, .int ((nI k) + 1)), (3, .int s), (0, .ref 25), (1, .int t), (2, .int i)], [], _, 0, 0)) rfl ?_
    refine pm_go (g := (15, _, [], _, 0, 0)) rfl ?_
    rw [nI_1]
    exact ih (k + 1) (s) (by omega) (by omega) k0
end
