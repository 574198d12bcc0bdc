section
/-- what a value means on either side -/
def vrR (mPa mOt mNa mRe mMy mPm mMa mFa mFy mFr : Nat → Int32) (mMn : Int32) (mFo mRt mRm : Nat → Int32) (r f bs ip co : Int32) (om : Option Nat) : Prop := ∃ mp m : Int32, wmM mPa mOt mNa mRe mMy mPm mMa mFa mFy mFr mMn (mFo r.toNatClampNeg) (mRt r.toNatClampNeg) (mRm r.toNatClampNeg) f bs mp m ∧ co = cmM mRe (mFo r.toNatClampNeg) (mRt r.toNatClampNeg) m ∧ ((om = none ∧ m = 99 ∧ ((mFo r.toNatClampNeg).toInt = 3 ∨ (mFo r.toNatClampNeg).toInt = 4)) ∨ ∃ c : Nat, om = some c ∧ m = nI c ∧ (c : Int) < mMn.toInt ∧ (ip.toInt ≠ 0 ↔ mp.toInt = 3))
/-- what holds between the two sides -/
def rIv (xTc : Int32) (xFc : Int32) (xRc : Int32) (xVc : Int32) (xLr : Int32) (xFl : Int32) (xTn : Int32) (xMn : Int32) (xSt : Int64) (xAb : Int64) (xVa : Int64) (xD1 : Value) (xD2 : Value) (xTl : Int32) (xOl : Int32) (xKn : Int32) (xPa : Nat → Int32) (xUp : Nat → Int32) (xAl : Nat → Option Nat) (xHa : Nat → Int64) (xNm : Nat → Int64) (xKi : Nat → Int32) (xAm : Nat → Int32) (xPl : Nat → Int32) (xKe : Nat → Int32) (xTo : Nat → Int32) (xFa : Nat → Option Nat) (xRe : Nat → Option Nat) (xVl : Nat → Option Nat) (xAr : Nat → Int32) (mTy : Int32) (mPa : Nat → Int32) (mTo : Nat → Int32) (mTm : Int32) (mMn : Int32) (mOt : Nat → Int32) (mNa : Nat → Int32) (mRe : Nat → Int32) (mMa : Nat → Int32) (mMy : Nat → Int32) (mPm : Nat → Int32) (mFn : Int32) (mFy : Nat → Int32) (mFa : Nat → Int32) (mFr : Nat → Int32) (mRn : Int32) (mFo : Nat → Int32) (mRt : Nat → Int32) (mRm : Nat → Int32) (mTn : Int32) (mTt : Nat → Int32) (mTi : Nat → Int32) (mPl : Nat → Int32) (mVn : Int32) (mVr : Nat → Int32) (mVf : Nat → Int32) (mVc : Nat → Int32) (mAr : Nat → Int32) (mLr : Int32) (mTc : Nat → Int32) (mTr : Int32) (mFl : Int32) (dyn : pm_H) : Prop := (mTy = xTn) ∧ (mTm = xTc) ∧ (mTo = xTo) ∧ (mMn = xMn) ∧ (mFn = xFc) ∧ (mRn = xRc) ∧ (mTn = xTl) ∧ (mTt = xKi) ∧ (mTi = xAm) ∧ (mPl = xPl) ∧ (mVn = xVc) ∧ (mAr = xAr) ∧ (mLr = xLr) ∧ (mFl = xFl) ∧ (mTr = xKn) ∧ (mmR xUp xPa mPa mTy mOt mNa mRe mMa mMy mPm mMn xHa xNm xSt xAb xVa) ∧ (∀ j : Nat, (j : Int) < mMn.toInt → (mOt j).toInt ≠ 1) ∧ (alF mOt mNa mRe mMa mMy mPm mMn xAl dyn) ∧ (faF mFy mFa mFr mFn xFa dyn) ∧ (∀ i : Nat, (i : Int) < mFn.toInt → anyT mTy (mFr i)) ∧ (reF mFo mRt mRm mRn xRe dyn) ∧ (∀ i : Nat, (i : Int) < mRn.toInt → rfR mTy (mFo i) (mRt i) (mRm i)) ∧ (∀ i : Nat, 1 ≤ i → (i : Int) ≤ mTn.toInt → kdT mTy (mTt i)) ∧ (∃ dVb dVp dVo : Nat → Int32, ∃ dVm : Nat → Option Nat, vlF mFo mRt mRm mFy mFa mFr mOt mNa mRe mMa mMy mPm mVr mVf mVc dVb dVp dVo dVm mVn xVl dyn ∧ ∀ v : Nat, (v : Int) < mVn.toInt → vrR mPa mOt mNa mRe mMy mPm mMa mFa mFy mFr mMn mFo mRt mRm (mVr v) (mVf v) (dVb v) (dVp v) (dVo v) (dVm v)) ∧ (0 ≤ xOl.toInt ∧ xOl.toInt < 50) ∧ (∀ i : Nat, (i : Int) < mTr.toInt → xKe ((xOl + nI i) - (xOl + nI i) / 50 * 50).toNatClampNeg = mTc i) ∧ (∃ o : Option Nat, fdF mOt mNa mRe mMa mMy mPm dyn xD1 o ∧ ∀ b : Nat, o = some b → (b : Int) < mMn.toInt) ∧ (∃ o : Option Nat, fdF mOt mNa mRe mMa mMy mPm dyn xD2 o ∧ ∀ b : Nat, o = some b → (b : Int) < mMn.toInt)
theorem rIv.mk {xTc : Int32} {xFc : Int32} {xRc : Int32} {xVc : Int32} {xLr : Int32} {xFl : Int32} {xTn : Int32} {xMn : Int32} {xSt : Int64} {xAb : Int64} {xVa : Int64} {xD1 : Value} {xD2 : Value} {xTl : Int32} {xOl : Int32} {xKn : Int32} {xPa : Nat → Int32} {xUp : Nat → Int32} {xAl : Nat → Option Nat} {xHa : Nat → Int64} {xNm : Nat → Int64} {xKi : Nat → Int32} {xAm : Nat → Int32} {xPl : Nat → Int32} {xKe : Nat → Int32} {xTo : Nat → Int32} {xFa : Nat → Option Nat} {xRe : Nat → Option Nat} {xVl : Nat → Option Nat} {xAr : Nat → Int32} {mTy : Int32} {mPa : Nat → Int32} {mTo : Nat → Int32} {mTm : Int32} {mMn : Int32} {mOt : Nat → Int32} {mNa : Nat → Int32} {mRe : Nat → Int32} {mMa : Nat → Int32} {mMy : Nat → Int32} {mPm : Nat → Int32} {mFn : Int32} {mFy : Nat → Int32} {mFa : Nat → Int32} {mFr : Nat → Int32} {mRn : Int32} {mFo : Nat → Int32} {mRt : Nat → Int32} {mRm : Nat → Int32} {mTn : Int32} {mTt : Nat → Int32} {mTi : Nat → Int32} {mPl : Nat → Int32} {mVn : Int32} {mVr : Nat → Int32} {mVf : Nat → Int32} {mVc : Nat → Int32} {mAr : Nat → Int32} {mLr : Int32} {mTc : Nat → Int32} {mTr : Int32} {mFl : Int32} {dyn : pm_H} (r_tn : mTy = xTn) (r_tc : mTm = xTc) (r_to : mTo = xTo) (r_mn : mMn = xMn) (r_fc : mFn = xFc) (r_rc : mRn = xRc) (r_tl : mTn = xTl) (r_ki : mTt = xKi) (r_am : mTi = xAm) (r_pl : mPl = xPl) (r_vc : mVn = xVc) (r_ar : mAr = xAr) (r_lr : mLr = xLr) (r_fl : mFl = xFl) (r_kn : mTr = xKn) (r_mm : mmR xUp xPa mPa mTy mOt mNa mRe mMa mMy mPm mMn xHa xNm xSt xAb xVa) (r_ot : ∀ j : Nat, (j : Int) < mMn.toInt → (mOt j).toInt ≠ 1) (r_al : alF mOt mNa mRe mMa mMy mPm mMn xAl dyn) (r_fa : faF mFy mFa mFr mFn xFa dyn) (r_fr : ∀ i : Nat, (i : Int) < mFn.toInt → anyT mTy (mFr i)) (r_re : reF mFo mRt mRm mRn xRe dyn) (r_rf : ∀ i : Nat, (i : Int) < mRn.toInt → rfR mTy (mFo i) (mRt i) (mRm i)) (r_kd : ∀ i : Nat, 1 ≤ i → (i : Int) ≤ mTn.toInt → kdT mTy (mTt i)) (r_vl : ∃ dVb dVp dVo : Nat → Int32, ∃ dVm : Nat → Option Nat, vlF mFo mRt mRm mFy mFa mFr mOt mNa mRe mMa mMy mPm mVr mVf mVc dVb dVp dVo dVm mVn xVl dyn ∧ ∀ v : Nat, (v : Int) < mVn.toInt → vrR mPa mOt mNa mRe mMy mPm mMa mFa mFy mFr mMn mFo mRt mRm (mVr v) (mVf v) (dVb v) (dVp v) (dVo v) (dVm v)) (r_ol : 0 ≤ xOl.toInt ∧ xOl.toInt < 50) (r_ke : ∀ i : Nat, (i : Int) < mTr.toInt → xKe ((xOl + nI i) - (xOl + nI i) / 50 * 50).toNatClampNeg = mTc i) (r_d1 : ∃ o : Option Nat, fdF mOt mNa mRe mMa mMy mPm dyn xD1 o ∧ ∀ b : Nat, o = some b → (b : Int) < mMn.toInt) (r_d2 : ∃ o : Option Nat, fdF mOt mNa mRe mMa mMy mPm dyn xD2 o ∧ ∀ b : Nat, o = some b → (b : Int) < mMn.toInt) : rIv xTc xFc xRc xVc xLr xFl xTn xMn xSt xAb xVa xD1 xD2 xTl xOl xKn xPa xUp xAl xHa xNm xKi xAm xPl xKe xTo xFa xRe xVl xAr mTy mPa mTo mTm mMn mOt mNa mRe mMa mMy mPm mFn mFy mFa mFr mRn mFo mRt mRm mTn mTt mTi mPl mVn mVr mVf mVc mAr mLr mTc mTr mFl dyn := ⟨r_tn, r_tc, r_to, r_mn, r_fc, r_rc, r_tl, r_ki, r_am, r_pl, r_vc, r_ar, r_lr, r_fl, r_kn, r_mm, r_ot, r_al, r_fa, r_fr, r_re, r_rf, r_kd, r_vl, r_ol, r_ke, r_d1, r_d2⟩
theorem rIv.r_tn {xTc : Int32} {xFc : Int32} {xRc : Int32} {xVc : Int32} {xLr : Int32} {xFl : Int32} {xTn : Int32} {xMn : Int32} {xSt : Int64} {xAb : Int64} {xVa : Int64} {xD1 : Value} {xD2 : Value} {xTl : Int32} {xOl : Int32} {xKn : Int32} {xPa : Nat → Int32} {xUp : Nat → Int32} {xAl : Nat → Option Nat} {xHa : Nat → Int64} {xNm : Nat → Int64} {xKi : Nat → Int32} {xAm : Nat → Int32} {xPl : Nat → Int32} {xKe : Nat → Int32} {xTo : Nat → Int32} {xFa : Nat → Option Nat} {xRe : Nat → Option Nat} {xVl : Nat → Option Nat} {xAr : Nat → Int32} {mTy : Int32} {mPa : Nat → Int32} {mTo : Nat → Int32} {mTm : Int32} {mMn : Int32} {mOt : Nat → Int32} {mNa : Nat → Int32} {mRe : Nat → Int32} {mMa : Nat → Int32} {mMy : Nat → Int32} {mPm : Nat → Int32} {mFn : Int32} {mFy : Nat → Int32} {mFa : Nat → Int32} {mFr : Nat → Int32} {mRn : Int32} {mFo : Nat → Int32} {mRt : Nat → Int32} {mRm : Nat → Int32} {mTn : Int32} {mTt : Nat → Int32} {mTi : Nat → Int32} {mPl : Nat → Int32} {mVn : Int32} {mVr : Nat → Int32} {mVf : Nat → Int32} {mVc : Nat → Int32} {mAr : Nat → Int32} {mLr : Int32} {mTc : Nat → Int32} {mTr : Int32} {mFl : Int32} {dyn : pm_H} (h : rIv xTc xFc xRc xVc xLr xFl xTn xMn xSt xAb xVa xD1 xD2 xTl xOl xKn xPa xUp xAl xHa xNm xKi xAm xPl xKe xTo xFa xRe xVl xAr mTy mPa mTo mTm mMn mOt mNa mRe mMa mMy mPm mFn mFy mFa mFr mRn mFo mRt mRm mTn mTt mTi mPl mVn mVr mVf mVc mAr mLr mTc mTr mFl dyn) : mTy = xTn := h.1
theorem rIv.r_tc {xTc : Int32} {xFc : Int32} {xRc : Int32} {xVc : Int32} {xLr : Int32} {xFl : Int32} {xTn : Int32} {xMn : Int32} {xSt : Int64} {xAb : Int64} {xVa : Int64} {xD1 : Value} {xD2 : Value} {xTl : Int32} {xOl : Int32} {xKn : Int32} {xPa : Nat → Int32} {xUp : Nat → Int32} {xAl : Nat → Option Nat} {xHa : Nat → Int64} {xNm : Nat → Int64} {xKi : Nat → Int32} {xAm : Nat → Int32} {xPl : Nat → Int32} {xKe : Nat → Int32} {xTo : Nat → Int32} {xFa : Nat → Option Nat} {xRe : Nat → Option Nat} {xVl : Nat → Option Nat} {xAr : Nat → Int32} {mTy : Int32} {mPa : Nat → Int32} {mTo : Nat → Int32} {mTm : Int32} {mMn : Int32} {mOt : Nat → Int32} {mNa : Nat → Int32} {mRe : Nat → Int32} {mMa : Nat → Int32} {mMy : Nat → Int32} {mPm : Nat → Int32} {mFn : Int32} {mFy : Nat → Int32} {mFa : Nat → Int32} {mFr : Nat → Int32} {mRn : Int32} {mFo : Nat → Int32} {mRt : Nat → Int32} {mRm : Nat → Int32} {mTn : Int32} {mTt : Nat → Int32} {mTi : Nat → Int32} {mPl : Nat → Int32} {mVn : Int32} {mVr : Nat → Int32} {mVf : Nat → Int32} {mVc : Nat → Int32} {mAr : Nat → Int32} {mLr : Int32} {mTc : Nat → Int32} {mTr : Int32} {mFl : Int32} {dyn : pm_H} (h : rIv xTc xFc xRc xVc xLr xFl xTn xMn xSt xAb xVa xD1 xD2 xTl xOl xKn xPa xUp xAl xHa xNm xKi xAm xPl xKe xTo xFa xRe xVl xAr mTy mPa mTo mTm mMn mOt mNa mRe mMa mMy mPm mFn mFy mFa mFr mRn mFo mRt mRm mTn mTt mTi mPl mVn mVr mVf mVc mAr mLr mTc mTr mFl dyn) : mTm = xTc := h.2.1
theorem rIv.r_to {xTc : Int32} {xFc : Int32} {xRc : Int32} {xVc : Int32} {xLr : Int32} {xFl : Int32} {xTn : Int32} {xMn : Int32} {xSt : Int64} {xAb : Int64} {xVa : Int64} {xD1 : Value} {xD2 : Value} {xTl : Int32} {xOl : Int32} {xKn : Int32} {xPa : Nat → Int32} {xUp : Nat → Int32} {xAl : Nat → Option Nat} {xHa : Nat → Int64} {xNm : Nat → Int64} {xKi : Nat → Int32} {xAm : Nat → Int32} {xPl : Nat → Int32} {xKe : Nat → Int32} {xTo : Nat → Int32} {xFa : Nat → Option Nat} {xRe : Nat → Option Nat} {xVl : Nat → Option Nat} {xAr : Nat → Int32} {mTy : Int32} {mPa : Nat → Int32} {mTo : Nat → Int32} {mTm : Int32} {mMn : Int32} {mOt : Nat → Int32} {mNa : Nat → Int32} {mRe : Nat → Int32} {mMa : Nat → Int32} {mMy : Nat → Int32} {mPm : Nat → Int32} {mFn : Int32} {mFy : Nat → Int32} {mFa : Nat → Int32} {mFr : Nat → Int32} {mRn : Int32} {mFo : Nat → Int32} {mRt : Nat → Int32} {mRm : Nat → Int32} {mTn : Int32} {mTt : Nat → Int32} {mTi : Nat → Int32} {mPl : Nat → Int32} {mVn : Int32} {mVr : Nat → Int32} {mVf : Nat → Int32} {mVc : Nat → Int32} {mAr : Nat → Int32} {mLr : Int32} {mTc : Nat → Int32} {mTr : Int32} {mFl : Int32} {dyn : pm_H} (h : rIv xTc xFc xRc xVc xLr xFl xTn xMn xSt xAb xVa xD1 xD2 xTl xOl xKn xPa xUp xAl xHa xNm xKi xAm xPl xKe xTo xFa xRe xVl xAr mTy mPa mTo mTm mMn mOt mNa mRe mMa mMy mPm mFn mFy mFa mFr mRn mFo mRt mRm mTn mTt mTi mPl mVn mVr mVf mVc mAr mLr mTc mTr mFl dyn) : mTo = xTo := h.2.2.1
theorem rIv.r_mn {xTc : Int32} {xFc : Int32} {xRc : Int32} {xVc : Int32} {xLr : Int32} {xFl : Int32} {xTn : Int32} {xMn : Int32} {xSt : Int64} {xAb : Int64} {xVa : Int64} {xD1 : Value} {xD2 : Value} {xTl : Int32} {xOl : Int32} {xKn : Int32} {xPa : Nat → Int32} {xUp : Nat → Int32} {xAl : Nat → Option Nat} {xHa : Nat → Int64} {xNm : Nat → Int64} {xKi : Nat → Int32} {xAm : Nat → Int32} {xPl : Nat → Int32} {xKe : Nat → Int32} {xTo : Nat → Int32} {xFa : Nat → Option Nat} {xRe : Nat → Option Nat} {xVl : Nat → Option Nat} {xAr : Nat → Int32} {mTy : Int32} {mPa : Nat → Int32} {mTo : Nat → Int32} {mTm : Int32} {mMn : Int32} {mOt : Nat → Int32} {mNa : Nat → Int32} {mRe : Nat → Int32} {mMa : Nat → Int32} {mMy : Nat → Int32} {mPm : Nat → Int32} {mFn : Int32} {mFy : Nat → Int32} {mFa : Nat → Int32} {mFr : Nat → Int32} {mRn : Int32} {mFo : Nat → Int32} {mRt : Nat → Int32} {mRm : Nat → Int32} {mTn : Int32} {mTt : Nat → Int32} {mTi : Nat → Int32} {mPl : Nat → Int32} {mVn : Int32} {mVr : Nat → Int32} {mVf : Nat → Int32} {mVc : Nat → Int32} {mAr : Nat → Int32} {mLr : Int32} {mTc : Nat → Int32} {mTr : Int32} {mFl : Int32} {dyn : pm_H} (h : rIv xTc xFc xRc xVc xLr xFl xTn xMn xSt xAb xVa xD1 xD2 xTl xOl xKn xPa xUp xAl xHa xNm xKi xAm xPl xKe xTo xFa xRe xVl xAr mTy mPa mTo mTm mMn mOt mNa mRe mMa mMy mPm mFn mFy mFa mFr mRn mFo mRt mRm mTn mTt mTi mPl mVn mVr mVf mVc mAr mLr mTc mTr mFl dyn) : mMn = xMn := h.2.2.2.1
theorem rIv.r_fc {xTc : Int32} {xFc : Int32} {xRc : Int32} {xVc : Int32} {xLr : Int32} {xFl : Int32} {xTn : Int32} {xMn : Int32} {xSt : Int64} {xAb : Int64} {xVa : Int64} {xD1 : Value} {xD2 : Value} {xTl : Int32} {xOl : Int32} {xKn : Int32} {xPa : Nat → Int32} {xUp : Nat → Int32} {xAl : Nat → Option Nat} {xHa : Nat → Int64} {xNm : Nat → Int64} {xKi : Nat → Int32} {xAm : Nat → Int32} {xPl : Nat → Int32} {xKe : Nat → Int32} {xTo : Nat → Int32} {xFa : Nat → Option Nat} {xRe : Nat → Option Nat} {xVl : Nat → Option Nat} {xAr : Nat → Int32} {mTy : Int32} {mPa : Nat → Int32} {mTo : Nat → Int32} {mTm : Int32} {mMn : Int32} {mOt : Nat → Int32} {mNa : Nat → Int32} {mRe : Nat → Int32} {mMa : Nat → Int32} {mMy : Nat → Int32} {mPm : Nat → Int32} {mFn : Int32} {mFy : Nat → Int32} {mFa : Nat → Int32} {mFr : Nat → Int32} {mRn : Int32} {mFo : Nat → Int32} {mRt : Nat → Int32} {mRm : Nat → Int32} {mTn : Int32} {mTt : Nat → Int32} {mTi : Nat → Int32} {mPl : Nat → Int32} {mVn : Int32} {mVr : Nat → Int32} {mVf : Nat → Int32} {mVc : Nat → Int32} {mAr : Nat → Int32} {mLr : Int32} {mTc : Nat → Int32} {mTr : Int32} {mFl : Int32} {dyn : pm_H} (h : rIv xTc xFc xRc xVc xLr xFl xTn xMn xSt xAb xVa xD1 xD2 xTl xOl xKn xPa xUp xAl xHa xNm xKi xAm xPl xKe xTo xFa xRe xVl xAr mTy mPa mTo mTm mMn mOt mNa mRe mMa mMy mPm mFn mFy mFa mFr mRn mFo mRt mRm mTn mTt mTi mPl mVn mVr mVf mVc mAr mLr mTc mTr mFl dyn) : mFn = xFc := h.2.2.2.2.1
theorem rIv.r_rc {xTc : Int32} {xFc : Int32} {xRc : Int32} {xVc : Int32} {xLr : Int32} {xFl : Int32} {xTn : Int32} {xMn : Int32} {xSt : Int64} {xAb : Int64} {xVa : Int64} {xD1 : Value} {xD2 : Value} {xTl : Int32} {xOl : Int32} {xKn : Int32} {xPa : Nat → Int32} {xUp : Nat → Int32} {xAl : Nat → Option Nat} {xHa : Nat → Int64} {xNm : Nat → Int64} {xKi : Nat → Int32} {xAm : Nat → Int32} {xPl : Nat → Int32} {xKe : Nat → Int32} {xTo : Nat → Int32} {xFa : Nat → Option Nat} {xRe : Nat → Option Nat} {xVl : Nat → Option Nat} {xAr : Nat → Int32} {mTy : Int32} {mPa : Nat → Int32} {mTo : Nat → Int32} {mTm : Int32} {mMn : Int32} {mOt : Nat → Int32} {mNa : Nat → Int32} {mRe : Nat → Int32} {mMa : Nat → Int32} {mMy : Nat → Int32} {mPm : Nat → Int32} {mFn : Int32} {mFy : Nat → Int32} {mFa : Nat → Int32} {mFr : Nat → Int32} {mRn : Int32} {mFo : Nat → Int32} {mRt : Nat → Int32} {mRm : Nat → Int32} {mTn : Int32} {mTt : Nat → Int32} {mTi : Nat → Int32} {mPl : Nat → Int32} {mVn : Int32} {mVr : Nat → Int32} {mVf : Nat → Int32} {mVc : Nat → Int32} {mAr : Nat → Int32} {mLr : Int32} {mTc : Nat → Int32} {mTr : Int32} {mFl : Int32} {dyn : pm_H} (h : rIv xTc xFc xRc xVc xLr xFl xTn xMn xSt xAb xVa xD1 xD2 xTl xOl xKn xPa xUp xAl xHa xNm xKi xAm xPl xKe xTo xFa xRe xVl xAr mTy mPa mTo mTm mMn mOt mNa mRe mMa mMy mPm mFn mFy mFa mFr mRn mFo mRt mRm mTn mTt mTi mPl mVn mVr mVf mVc mAr mLr mTc mTr mFl dyn) : mRn = xRc := h.2.2.2.2.2.1
theorem rIv.r_tl {xTc : Int32} {xFc : Int32} {xRc : Int32} {xVc : Int32} {xLr : Int32} {xFl : Int32} {xTn : Int32} {xMn : Int32} {xSt : Int64} {xAb : Int64} {xVa : Int64} {xD1 : Value} {xD2 : Value} {xTl : Int32} {xOl : Int32} {xKn : Int32} {xPa : Nat → Int32} {xUp : Nat → Int32} {xAl : Nat → Option Nat} {xHa : Nat → Int64} {xNm : Nat → Int64} {xKi : Nat → Int32} {xAm : Nat → Int32} {xPl : Nat → Int32} {xKe : Nat → Int32} {xTo : Nat → Int32} {xFa : Nat → Option Nat} {xRe : Nat → Option Nat} {xVl : Nat → Option Nat} {xAr : Nat → Int32} {mTy : Int32} {mPa : Nat → Int32} {mTo : Nat → Int32} {mTm : Int32} {mMn : Int32} {mOt : Nat → Int32} {mNa : Nat → Int32} {mRe : Nat → Int32} {mMa : Nat → Int32} {mMy : Nat → Int32} {mPm : Nat → Int32} {mFn : Int32} {mFy : Nat → Int32} {mFa : Nat → Int32} {mFr : Nat → Int32} {mRn : Int32} {mFo : Nat → Int32} {mRt : Nat → Int32} {mRm : Nat → Int32} {mTn : Int32} {mTt : Nat → Int32} {mTi : Nat → Int32} {mPl : Nat → Int32} {mVn : Int32} {mVr : Nat → Int32} {mVf : Nat → Int32} {mVc : Nat → Int32} {mAr : Nat → Int32} {mLr : Int32} {mTc : Nat → Int32} {mTr : Int32} {mFl : Int32} {dyn : pm_H} (h : rIv xTc xFc xRc xVc xLr xFl xTn xMn xSt xAb xVa xD1 xD2 xTl xOl xKn xPa xUp xAl xHa xNm xKi xAm xPl xKe xTo xFa xRe xVl xAr mTy mPa mTo mTm mMn mOt mNa mRe mMa mMy mPm mFn mFy mFa mFr mRn mFo mRt mRm mTn mTt mTi mPl mVn mVr mVf mVc mAr mLr mTc mTr mFl dyn) : mTn = xTl := h.2.2.2.2.2.2.1
theorem rIv.r_ki {xTc : Int32} {xFc : Int32} {xRc : Int32} {xVc : Int32} {xLr : Int32} {xFl : Int32} {xTn : Int32} {xMn : Int32} {xSt : Int64} {xAb : Int64} {xVa : Int64} {xD1 : Value} {xD2 : Value} {xTl : Int32} {xOl : Int32} {xKn : Int32} {xPa : Nat → Int32} {xUp : Nat → Int32} {xAl : Nat → Option Nat} {xHa : Nat → Int64} {xNm : Nat → Int64} {xKi : Nat → Int32} {xAm : Nat → Int32} {xPl : Nat → Int32} {xKe : Nat → Int32} {xTo : Nat → Int32} {xFa : Nat → Option Nat} {xRe : Nat → Option Nat} {xVl : Nat → Option Nat} {xAr : Nat → Int32} {mTy : Int32} {mPa : Nat → Int32} {mTo : Nat → Int32} {mTm : Int32} {mMn : Int32} {mOt : Nat → Int32} {mNa : Nat → Int32} {mRe : Nat → Int32} {mMa : Nat → Int32} {mMy : Nat → Int32} {mPm : Nat → Int32} {mFn : Int32} {mFy : Nat → Int32} {mFa : Nat → Int32} {mFr : Nat → Int32} {mRn : Int32} {mFo : Nat → Int32} {mRt : Nat → Int32} {mRm : Nat → Int32} {mTn : Int32} {mTt : Nat → Int32} {mTi : Nat → Int32} {mPl : Nat → Int32} {mVn : Int32} {mVr : Nat → Int32} {mVf : Nat → Int32} {mVc : Nat → Int32} {mAr : Nat → Int32} {mLr : Int32} {mTc : Nat → Int32} {mTr : Int32} {mFl : Int32} {dyn : pm_H} (h : rIv xTc xFc xRc xVc xLr xFl xTn xMn xSt xAb xVa xD1 xD2 xTl xOl xKn xPa xUp xAl xHa xNm xKi xAm xPl xKe xTo xFa xRe xVl xAr mTy mPa mTo mTm mMn mOt mNa mRe mMa mMy mPm mFn mFy mFa mFr mRn mFo mRt mRm mTn mTt mTi mPl mVn mVr mVf mVc mAr mLr mTc mTr mFl dyn) : mTt = xKi := h.2.2.2.2.2.2.2.1
theorem rIv.r_am {xTc : Int32} {xFc : Int32} {xRc : Int32} {xVc : Int32} {xLr : Int32} {xFl : Int32} {xTn : Int32} {xMn : Int32} {xSt : Int64} {xAb : Int64} {xVa : Int64} {xD1 : Value} {xD2 : Value} {xTl : Int32} {xOl : Int32} {xKn : Int32} {xPa : Nat → Int32} {xUp : Nat → Int32} {xAl : Nat → Option Nat} {xHa : Nat → Int64} {xNm : Nat → Int64} {xKi : Nat → Int32} {xAm : Nat → Int32} {xPl : Nat → Int32} {xKe : Nat → Int32} {xTo : Nat → Int32} {xFa : Nat → Option Nat} {xRe : Nat → Option Nat} {xVl : Nat → Option Nat} {xAr : Nat → Int32} {mTy : Int32} {mPa : Nat → Int32} {mTo : Nat → Int32} {mTm : Int32} {mMn : Int32} {mOt : Nat → Int32} {mNa : Nat → Int32} {mRe : Nat → Int32} {mMa : Nat → Int32} {mMy : Nat → Int32} {mPm : Nat → Int32} {mFn : Int32} {mFy : Nat → Int32} {mFa : Nat → Int32} {mFr : Nat → Int32} {mRn : Int32} {mFo : Nat → Int32} {mRt : Nat → Int32} {mRm : Nat → Int32} {mTn : Int32} {mTt : Nat → Int32} {mTi : Nat → Int32} {mPl : Nat → Int32} {mVn : Int32} {mVr : Nat → Int32} {mVf : Nat → Int32} {mVc : Nat → Int32} {mAr : Nat → Int32} {mLr : Int32} {mTc : Nat → Int32} {mTr : Int32} {mFl : Int32} {dyn : pm_H} (h : rIv xTc xFc xRc xVc xLr xFl xTn xMn xSt xAb xVa xD1 xD2 xTl xOl xKn xPa xUp xAl xHa xNm xKi xAm xPl xKe xTo xFa xRe xVl xAr mTy mPa mTo mTm mMn mOt mNa mRe mMa mMy mPm mFn mFy mFa mFr mRn mFo mRt mRm mTn mTt mTi mPl mVn mVr mVf mVc mAr mLr mTc mTr mFl dyn) : mTi = xAm := h.2.2.2.2.2.2.2.2.1
theorem rIv.r_pl {xTc : Int32} {xFc : Int32} {xRc : Int32} {xVc : Int32} {xLr : Int32} {xFl : Int32} {xTn : Int32} {xMn : Int32} {xSt : Int64} {xAb : Int64} {xVa : Int64} {xD1 : Value} {xD2 : Value} {xTl : Int32} {xOl : Int32} {xKn : Int32} {xPa : Nat → Int32} {xUp : Nat → Int32} {xAl : Nat → Option Nat} {xHa : Nat → Int64} {xNm : Nat → Int64} {xKi : Nat → Int32} {xAm : Nat → Int32} {xPl : Nat → Int32} {xKe : Nat → Int32} {xTo : Nat → Int32} {xFa : Nat → Option Nat} {xRe : Nat → Option Nat} {xVl : Nat → Option Nat} {xAr : Nat → Int32} {mTy : Int32} {mPa : Nat → Int32} {mTo : Nat → Int32} {mTm : Int32} {mMn : Int32} {mOt : Nat → Int32} {mNa : Nat → Int32} {mRe : Nat → Int32} {mMa : Nat → Int32} {mMy : Nat → Int32} {mPm : Nat → Int32} {mFn : Int32} {mFy : Nat → Int32} {mFa : Nat → Int32} {mFr : Nat → Int32} {mRn : Int32} {mFo : Nat → Int32} {mRt : Nat → Int32} {mRm : Nat → Int32} {mTn : Int32} {mTt : Nat → Int32} {mTi : Nat → Int32} {mPl : Nat → Int32} {mVn : Int32} {mVr : Nat → Int32} {mVf : Nat → Int32} {mVc : Nat → Int32} {mAr : Nat → Int32} {mLr : Int32} {mTc : Nat → Int32} {mTr : Int32} {mFl : Int32} {dyn : pm_H} (h : rIv xTc xFc xRc xVc xLr xFl xTn xMn xSt xAb xVa xD1 xD2 xTl xOl xKn xPa xUp xAl xHa xNm xKi xAm xPl xKe xTo xFa xRe xVl xAr mTy mPa mTo mTm mMn mOt mNa mRe mMa mMy mPm mFn mFy mFa mFr mRn mFo mRt mRm mTn mTt mTi mPl mVn mVr mVf mVc mAr mLr mTc mTr mFl dyn) : mPl = xPl := h.2.2.2.2.2.2.2.2.2.1
theorem rIv.r_vc {xTc : Int32} {xFc : Int32} {xRc : Int32} {xVc : Int32} {xLr : Int32} {xFl : Int32} {xTn : Int32} {xMn : Int32} {xSt : Int64} {xAb : Int64} {xVa : Int64} {xD1 : Value} {xD2 : Value} {xTl : Int32} {xOl : Int32} {xKn : Int32} {xPa : Nat → Int32} {xUp : Nat → Int32} {xAl : Nat → Option Nat} {xHa : Nat → Int64} {xNm : Nat → Int64} {xKi : Nat → Int32} {xAm : Nat → Int32} {xPl : Nat → Int32} {xKe : Nat → Int32} {xTo : Nat → Int32} {xFa : Nat → Option Nat} {xRe : Nat → Option Nat} {xVl : Nat → Option Nat} {xAr : Nat → Int32} {mTy : Int32} {mPa : Nat → Int32} {mTo : Nat → Int32} {mTm : Int32} {mMn : Int32} {mOt : Nat → Int32} {mNa : Nat → Int32} {mRe : Nat → Int32} {mMa : Nat → Int32} {mMy : Nat → Int32} {mPm : Nat → Int32} {mFn : Int32} {mFy : Nat → Int32} {mFa : Nat → Int32} {mFr : Nat → Int32} {mRn : Int32} {mFo : Nat → Int32} {mRt : Nat → Int32} {mRm : Nat → Int32} {mTn : Int32} {mTt : Nat → Int32} {mTi : Nat → Int32} {mPl : Nat → Int32} {mVn : Int32} {mVr : Nat → Int32} {mVf : Nat → Int32} {mVc : Nat → Int32} {mAr : Nat → Int32} {mLr : Int32} {mTc : Nat → Int32} {mTr : Int32} {mFl : Int32} {dyn : pm_H} (h : rIv xTc xFc xRc xVc xLr xFl xTn xMn xSt xAb xVa xD1 xD2 xTl xOl xKn xPa xUp xAl xHa xNm xKi xAm xPl xKe xTo xFa xRe xVl xAr mTy mPa mTo mTm mMn mOt mNa mRe mMa mMy mPm mFn mFy mFa mFr mRn mFo mRt mRm mTn mTt mTi mPl mVn mVr mVf mVc mAr mLr mTc mTr mFl dyn) : mVn = xVc := h.2.2.2.2.2.2.2.2.2.2.1
theorem rIv.r_ar {xTc : Int32} {xFc : Int32} {xRc : Int32} {xVc : Int32} {xLr : Int32} {xFl : Int32} {xTn : Int32} {xMn : Int32} {xSt : Int64} {xAb : Int64} {xVa : Int64} {xD1 : Value} {xD2 : Value} {xTl : Int32} {xOl : Int32} {xKn : Int32} {xPa : Nat → Int32} {xUp : Nat → Int32} {xAl : Nat → Option Nat} {xHa : Nat → Int64} {xNm : Nat → Int64} {xKi : Nat → Int32} {xAm : Nat → Int32} {xPl : Nat → Int32} {xKe : Nat → Int32} {xTo : Nat → Int32} {xFa : Nat → Option Nat} {xRe : Nat → Option Nat} {xVl : Nat → Option Nat} {xAr : Nat → Int32} {mTy : Int32} {mPa : Nat → Int32} {mTo : Nat → Int32} {mTm : Int32} {mMn : Int32} {mOt : Nat → Int32} {mNa : Nat → Int32} {mRe : Nat → Int32} {mMa : Nat → Int32} {mMy : Nat → Int32} {mPm : Nat → Int32} {mFn : Int32} {mFy : Nat → Int32} {mFa : Nat → Int32} {mFr : Nat → Int32} {mRn : Int32} {mFo : Nat → Int32} {mRt : Nat → Int32} {mRm : Nat → Int32} {mTn : Int32} {mTt : Nat → Int32} {mTi : Nat → Int32} {mPl : Nat → Int32} {mVn : Int32} {mVr : Nat → Int32} {mVf : Nat → Int32} {mVc : Nat → Int32} {mAr : Nat → Int32} {mLr : Int32} {mTc : Nat → Int32} {mTr : Int32} {mFl : Int32} {dyn : pm_H} (h : rIv xTc xFc xRc xVc xLr xFl xTn xMn xSt xAb xVa xD1 xD2 xTl xOl xKn xPa xUp xAl xHa xNm xKi xAm xPl xKe xTo xFa xRe xVl xAr mTy mPa mTo mTm mMn mOt mNa mRe mMa mMy mPm mFn mFy mFa mFr mRn mFo mRt mRm mTn mTt mTi mPl mVn mVr mVf mVc mAr mLr mTc mTr mFl dyn) : mAr = xAr := h.2.2.2.2.2.2.2.2.2.2.2.1
theorem rIv.r_lr {xTc : Int32} {xFc : Int32} {xRc : Int32} {xVc : Int32} {xLr : Int32} {xFl : Int32} {xTn : Int32} {xMn : Int32} {xSt : Int64} {xAb : Int64} {xVa : Int64} {xD1 : Value} {xD2 : Value} {xTl : Int32} {xOl : Int32} {xKn : Int32} {xPa : Nat → Int32} {xUp : Nat → Int32} {xAl : Nat → Option Nat} {xHa : Nat → Int64} {xNm : Nat → Int64} {xKi : Nat → Int32} {xAm : Nat → Int32} {xPl : Nat → Int32} {xKe : Nat → Int32} {xTo : Nat → Int32} {xFa : Nat → Option Nat} {xRe : Nat → Option Nat} {xVl : Nat → Option Nat} {xAr : Nat → Int32} {mTy : Int32} {mPa : Nat → Int32} {mTo : Nat → Int32} {mTm : Int32} {mMn : Int32} {mOt : Nat → Int32} {mNa : Nat → Int32} {mRe : Nat → Int32} {mMa : Nat → Int32} {mMy : Nat → Int32} {mPm : Nat → Int32} {mFn : Int32} {mFy : Nat → Int32} {mFa : Nat → Int32} {mFr : Nat → Int32} {mRn : Int32} {mFo : Nat → Int32} {mRt : Nat → Int32} {mRm : Nat → Int32} {mTn : Int32} {mTt : Nat → Int32} {mTi : Nat → Int32} {mPl : Nat → Int32} {mVn : Int32} {mVr : Nat → Int32} {mVf : Nat → Int32} {mVc : Nat → Int32} {mAr : Nat → Int32} {mLr : Int32} {mTc : Nat → Int32} {mTr : Int32} {mFl : Int32} {dyn : pm_H} (h : rIv xTc xFc xRc xVc xLr xFl xTn xMn xSt xAb xVa xD1 xD2 xTl xOl xKn xPa xUp xAl xHa xNm xKi xAm xPl xKe xTo xFa xRe xVl xAr mTy mPa mTo mTm mMn mOt mNa mRe mMa mMy mPm mFn mFy mFa mFr mRn mFo mRt mRm mTn mTt mTi mPl mVn mVr mVf mVc mAr mLr mTc mTr mFl dyn) : mLr = xLr := h.2.2.2.2.2.2.2.2.2.2.2.2.1
theorem rIv.r_fl {xTc : Int32} {xFc : Int32} {xRc : Int32} {xVc : Int32} {xLr : Int32} {xFl : Int32} {xTn : Int32} {xMn : Int32} {xSt : Int64} {xAb : Int64} {xVa : Int64} {xD1 : Value} {xD2 : Value} {xTl : Int32} {xOl : Int32} {xKn : Int32} {xPa : Nat → Int32} {xUp : Nat → Int32} {xAl : Nat → Option Nat} {xHa : Nat → Int64} {xNm : Nat → Int64} {xKi : Nat → Int32} {xAm : Nat → Int32} {xPl : Nat → Int32} {xKe : Nat → Int32} {xTo : Nat → Int32} {xFa : Nat → Option Nat} {xRe : Nat → Option Nat} {xVl : Nat → Option Nat} {xAr : Nat → Int32} {mTy : Int32} {mPa : Nat → Int32} {mTo : Nat → Int32} {mTm : Int32} {mMn : Int32} {mOt : Nat → Int32} {mNa : Nat → Int32} {mRe : Nat → Int32} {mMa : Nat → Int32} {mMy : Nat → Int32} {mPm : Nat → Int32} {mFn : Int32} {mFy : Nat → Int32} {mFa : Nat → Int32} {mFr : Nat → Int32} {mRn : Int32} {mFo : Nat → Int32} {mRt : Nat → Int32} {mRm : Nat → Int32} {mTn : Int32} {mTt : Nat → Int32} {mTi : Nat → Int32} {mPl : Nat → Int32} {mVn : Int32} {mVr : Nat → Int32} {mVf : Nat → Int32} {mVc : Nat → Int32} {mAr : Nat → Int32} {mLr : Int32} {mTc : Nat → Int32} {mTr : Int32} {mFl : Int32} {dyn : pm_H} (h : rIv xTc xFc xRc xVc xLr xFl xTn xMn xSt xAb xVa xD1 xD2 xTl xOl xKn xPa xUp xAl xHa xNm xKi xAm xPl xKe xTo xFa xRe xVl xAr mTy mPa mTo mTm mMn mOt mNa mRe mMa mMy mPm mFn mFy mFa mFr mRn mFo mRt mRm mTn mTt mTi mPl mVn mVr mVf mVc mAr mLr mTc mTr mFl dyn) : mFl = xFl := h.2.2.2.2.2.2.2.2.2.2.2.2.2.1
theorem rIv.r_kn {xTc : Int32} {xFc : Int32} {xRc : Int32} {xVc : Int32} {xLr : Int32} {xFl : Int32} {xTn : Int32} {xMn : Int32} {xSt : Int64} {xAb : Int64} {xVa : Int64} {xD1 : Value} {xD2 : Value} {xTl : Int32} {xOl : Int32} {xKn : Int32} {xPa : Nat → Int32} {xUp : Nat → Int32} {xAl : Nat → Option Nat} {xHa : Nat → Int64} {xNm : Nat → Int64} {xKi : Nat → Int32} {xAm : Nat → Int32} {xPl : Nat → Int32} {xKe : Nat → Int32} {xTo : Nat → Int32} {xFa : Nat → Option Nat} {xRe : Nat → Option Nat} {xVl : Nat → Option Nat} {xAr : Nat → Int32} {mTy : Int32} {mPa : Nat → Int32} {mTo : Nat → Int32} {mTm : Int32} {mMn : Int32} {mOt : Nat → Int32} {mNa : Nat → Int32} {mRe : Nat → Int32} {mMa : Nat → Int32} {mMy : Nat → Int32} {mPm : Nat → Int32} {mFn : Int32} {mFy : Nat → Int32} {mFa : Nat → Int32} {mFr : Nat → Int32} {mRn : Int32} {mFo : Nat → Int32} {mRt : Nat → Int32} {mRm : Nat → Int32} {mTn : Int32} {mTt : Nat → Int32} {mTi : Nat → Int32} {mPl : Nat → Int32} {mVn : Int32} {mVr : Nat → Int32} {mVf : Nat → Int32} {mVc : Nat → Int32} {mAr : Nat → Int32} {mLr : Int32} {mTc : Nat → Int32} {mTr : Int32} {mFl : Int32} {dyn : pm_H} (h : rIv xTc xFc xRc xVc xLr xFl xTn xMn xSt xAb xVa xD1 xD2 xTl xOl xKn xPa xUp xAl xHa xNm xKi xAm xPl xKe xTo xFa xRe xVl xAr mTy mPa mTo mTm mMn mOt mNa mRe mMa mMy mPm mFn mFy mFa mFr mRn mFo mRt mRm mTn mTt mTi mPl mVn mVr mVf mVc mAr mLr mTc mTr mFl dyn) : mTr = xKn := h.2.2.2.2.2.2.2.2.2.2.2.2.2.2.1
theorem rIv.r_mm {xTc : Int32} {xFc : Int32} {xRc : Int32} {xVc : Int32} {xLr : Int32} {xFl : Int32} {xTn : Int32} {xMn : Int32} {xSt : Int64} {xAb : Int64} {xVa : Int64} {xD1 : Value} {xD2 : Value} {xTl : Int32} {xOl : Int32} {xKn : Int32} {xPa : Nat → Int32} {xUp : Nat → Int32} {xAl : Nat → Option Nat} {xHa : Nat → Int64} {xNm : Nat → Int64} {xKi : Nat → Int32} {xAm : Nat → Int32} {xPl : Nat → Int32} {xKe : Nat → Int32} {xTo : Nat → Int32} {xFa : Nat → Option Nat} {xRe : Nat → Option Nat} {xVl : Nat → Option Nat} {xAr : Nat → Int32} {mTy : Int32} {mPa : Nat → Int32} {mTo : Nat → Int32} {mTm : Int32} {mMn : Int32} {mOt : Nat → Int32} {mNa : Nat → Int32} {mRe : Nat → Int32} {mMa : Nat → Int32} {mMy : Nat → Int32} {mPm : Nat → Int32} {mFn : Int32} {mFy : Nat → Int32} {mFa : Nat → Int32} {mFr : Nat → Int32} {mRn : Int32} {mFo : Nat → Int32} {mRt : Nat → Int32} {mRm : Nat → Int32} {mTn : Int32} {mTt : Nat → Int32} {mTi : Nat → Int32} {mPl : Nat → Int32} {mVn : Int32} {mVr : Nat → Int32} {mVf : Nat → Int32} {mVc : Nat → Int32} {mAr : Nat → Int32} {mLr : Int32} {mTc : Nat → Int32} {mTr : Int32} {mFl : Int32} {dyn : pm_H} (h : rIv xTc xFc xRc xVc xLr xFl xTn xMn xSt xAb xVa xD1 xD2 xTl xOl xKn xPa xUp xAl xHa xNm xKi xAm xPl xKe xTo xFa xRe xVl xAr mTy mPa mTo mTm mMn mOt mNa mRe mMa mMy mPm mFn mFy mFa mFr mRn mFo mRt mRm mTn mTt mTi mPl mVn mVr mVf mVc mAr mLr mTc mTr mFl dyn) : mmR xUp xPa mPa mTy mOt mNa mRe mMa mMy mPm mMn xHa xNm xSt xAb xVa := h.2.2.2.2.2.2.2.2.2.2.2.2.2.2.2.1
theorem rIv.r_ot {xTc : Int32} {xFc : Int32} {xRc : Int32} {xVc : Int32} {xLr : Int32} {xFl : Int32} {xTn : Int32} {xMn : Int32} {xSt : Int64} {xAb : Int64} {xVa : Int64} {xD1 : Value} {xD2 : Value} {xTl : Int32} {xOl : Int32} {xKn : Int32} {xPa : Nat → Int32} {xUp : Nat → Int32} {xAl : Nat → Option Nat} {xHa : Nat → Int64} {xNm : Nat → Int64} {xKi : Nat → Int32} {xAm : Nat → Int32} {xPl : Nat → Int32} {xKe : Nat → Int32} {xTo : Nat → Int32} {xFa : Nat → Option Nat} {xRe : Nat → Option Nat} {xVl : Nat → Option Nat} {xAr : Nat → Int32} {mTy : Int32} {mPa : Nat → Int32} {mTo : Nat → Int32} {mTm : Int32} {mMn : Int32} {mOt : Nat → Int32} {mNa : Nat → Int32} {mRe : Nat → Int32} {mMa : Nat → Int32} {mMy : Nat → Int32} {mPm : Nat → Int32} {mFn : Int32} {mFy : Nat → Int32} {mFa : Nat → Int32} {mFr : Nat → Int32} {mRn : Int32} {mFo : Nat → Int32} {mRt : Nat → Int32} {mRm : Nat → Int32} {mTn : Int32} {mTt : Nat → Int32} {mTi : Nat → Int32} {mPl : Nat → Int32} {mVn : Int32} {mVr : Nat → Int32} {mVf : Nat → Int32} {mVc : Nat → Int32} {mAr : Nat → Int32} {mLr : Int32} {mTc : Nat → Int32} {mTr : Int32} {mFl : Int32} {dyn : pm_H} (h : rIv xTc xFc xRc xVc xLr xFl xTn xMn xSt xAb xVa xD1 xD2 xTl xOl xKn xPa xUp xAl xHa xNm xKi xAm xPl xKe xTo xFa xRe xVl xAr mTy mPa mTo mTm mMn mOt mNa mRe mMa mMy mPm mFn mFy mFa mFr mRn mFo mRt mRm mTn mTt mTi mPl mVn mVr mVf mVc mAr mLr mTc mTr mFl dyn) : ∀ j : Nat, (j : Int) < mMn.toInt → (mOt j).toInt ≠ 1 := h.2.2.2.2.2.2.2.2.2.2.2.2.2.2.2.2.1
theorem rIv.r_al {xTc : Int32} {xFc : Int32} {xRc : Int32} {xVc : Int32} {xLr : Int32} {xFl : Int32} {xTn : Int32} {xMn : Int32} {xSt : Int64} {xAb : Int64} {xVa : Int64} {xD1 : Value} {xD2 : Value} {xTl : Int32} {xOl : Int32} {xKn : Int32} {xPa : Nat → Int32} {xUp : Nat → Int32} {xAl : Nat → Option Nat} {xHa : Nat → Int64} {xNm : Nat → Int64} {xKi : Nat → Int32} {xAm : Nat → Int32} {xPl : Nat → Int32} {xKe : Nat → Int32} {xTo : Nat → Int32} {xFa : Nat → Option Nat} {xRe : Nat → Option Nat} {xVl : Nat → Option Nat} {xAr : Nat → Int32} {mTy : Int32} {mPa : Nat → Int32} {mTo : Nat → Int32} {mTm : Int32} {mMn : Int32} {mOt : Nat → Int32} {mNa : Nat → Int32} {mRe : Nat → Int32} {mMa : Nat → Int32} {mMy : Nat → Int32} {mPm : Nat → Int32} {mFn : Int32} {mFy : Nat → Int32} {mFa : Nat → Int32} {mFr : Nat → Int32} {mRn : Int32} {mFo : Nat → Int32} {mRt : Nat → Int32} {mRm : Nat → Int32} {mTn : Int32} {mTt : Nat → Int32} {mTi : Nat → Int32} {mPl : Nat → Int32} {mVn : Int32} {mVr : Nat → Int32} {mVf : Nat → Int32} {mVc : Nat → Int32} {mAr : Nat → Int32} {mLr : Int32} {mTc : Nat → Int32} {mTr : Int32} {mFl : Int32} {dyn : pm_H} (h : rIv xTc xFc xRc xVc xLr xFl xTn xMn xSt xAb xVa xD1 xD2 xTl xOl xKn xPa xUp xAl xHa xNm xKi xAm xPl xKe xTo xFa xRe xVl xAr mTy mPa mTo mTm mMn mOt mNa mRe mMa mMy mPm mFn mFy mFa mFr mRn mFo mRt mRm mTn mTt mTi mPl mVn mVr mVf mVc mAr mLr mTc mTr mFl dyn) : alF mOt mNa mRe mMa mMy mPm mMn xAl dyn := h.2.2.2.2.2.2.2.2.2.2.2.2.2.2.2.2.2.1
theorem rIv.r_fa {xTc : Int32} {xFc : Int32} {xRc : Int32} {xVc : Int32} {xLr : Int32} {xFl : Int32} {xTn : Int32} {xMn : Int32} {xSt : Int64} {xAb : Int64} {xVa : Int64} {xD1 : Value} {xD2 : Value} {xTl : Int32} {xOl : Int32} {xKn : Int32} {xPa : Nat → Int32} {xUp : Nat → Int32} {xAl : Nat → Option Nat} {xHa : Nat → Int64} {xNm : Nat → Int64} {xKi : Nat → Int32} {xAm : Nat → Int32} {xPl : Nat → Int32} {xKe : Nat → Int32} {xTo : Nat → Int32} {xFa : Nat → Option Nat} {xRe : Nat → Option Nat} {xVl : Nat → Option Nat} {xAr : Nat → Int32} {mTy : Int32} {mPa : Nat → Int32} {mTo : Nat → Int32} {mTm : Int32} {mMn : Int32} {mOt : Nat → Int32} {mNa : Nat → Int32} {mRe : Nat → Int32} {mMa : Nat → Int32} {mMy : Nat → Int32} {mPm : Nat → Int32} {mFn : Int32} {mFy : Nat → Int32} {mFa : Nat → Int32} {mFr : Nat → Int32} {mRn : Int32} {mFo : Nat → Int32} {mRt : Nat → Int32} {mRm : Nat → Int32} {mTn : Int32} {mTt : Nat → Int32} {mTi : Nat → Int32} {mPl : Nat → Int32} {mVn : Int32} {mVr : Nat → Int32} {mVf : Nat → Int32} {mVc : Nat → Int32} {mAr : Nat → Int32} {mLr : Int32} {mTc : Nat → Int32} {mTr : Int32} {mFl : Int32} {dyn : pm_H} (h : rIv xTc xFc xRc xVc xLr xFl xTn xMn xSt xAb xVa xD1 xD2 xTl xOl xKn xPa xUp xAl xHa xNm xKi xAm xPl xKe xTo xFa xRe xVl xAr mTy mPa mTo mTm mMn mOt mNa mRe mMa mMy mPm mFn mFy mFa mFr mRn mFo mRt mRm mTn mTt mTi mPl mVn mVr mVf mVc mAr mLr mTc mTr mFl dyn) : faF mFy mFa mFr mFn xFa dyn := h.2.2.2.2.2.2.2.2.2.2.2.2.2.2.2.2.2.2.1
theorem rIv.r_fr {xTc : Int32} {xFc : Int32} {xRc : Int32} {xVc : Int32} {xLr : Int32} {xFl : Int32} {xTn : Int32} {xMn : Int32} {xSt : Int64} {xAb : Int64} {xVa : Int64} {xD1 : Value} {xD2 : Value} {xTl : Int32} {xOl : Int32} {xKn : Int32} {xPa : Nat → Int32} {xUp : Nat → Int32} {xAl : Nat → Option Nat} {xHa : Nat → Int64} {xNm : Nat → Int64} {xKi : Nat → Int32} {xAm : Nat → Int32} {xPl : Nat → Int32} {xKe : Nat → Int32} {xTo : Nat → Int32} {xFa : Nat → Option Nat} {xRe : Nat → Option Nat} {xVl : Nat → Option Nat} {xAr : Nat → Int32} {mTy : Int32} {mPa : Nat → Int32} {mTo : Nat → Int32} {mTm : Int32} {mMn : Int32} {mOt : Nat → Int32} {mNa : Nat → Int32} {mRe : Nat → Int32} {mMa : Nat → Int32} {mMy : Nat → Int32} {mPm : Nat → Int32} {mFn : Int32} {mFy : Nat → Int32} {mFa : Nat → Int32} {mFr : Nat → Int32} {mRn : Int32} {mFo : Nat → Int32} {mRt : Nat → Int32} {mRm : Nat → Int32} {mTn : Int32} {mTt : Nat → Int32} {mTi : Nat → Int32} {mPl : Nat → Int32} {mVn : Int32} {mVr : Nat → Int32} {mVf : Nat → Int32} {mVc : Nat → Int32} {mAr : Nat → Int32} {mLr : Int32} {mTc : Nat → Int32} {mTr : Int32} {mFl : Int32} {dyn : pm_H} (h : rIv xTc xFc xRc xVc xLr xFl xTn xMn xSt xAb xVa xD1 xD2 xTl xOl xKn xPa xUp xAl xHa xNm xKi xAm xPl xKe xTo xFa xRe xVl xAr mTy mPa mTo mTm mMn mOt mNa mRe mMa mMy mPm mFn mFy mFa mFr mRn mFo mRt mRm mTn mTt mTi mPl mVn mVr mVf mVc mAr mLr mTc mTr mFl dyn) : ∀ i : Nat, (i : Int) < mFn.toInt → anyT mTy (mFr i) := h.2.2.2.2.2.2.2.2.2.2.2.2.2.2.2.2.2.2.2.1
theorem rIv.r_re {xTc : Int32} {xFc : Int32} {xRc : Int32} {xVc : Int32} {xLr : Int32} {xFl : Int32} {xTn : Int32} {xMn : Int32} {xSt : Int64} {xAb : Int64} {xVa : Int64} {xD1 : Value} {xD2 : Value} {xTl : Int32} {xOl : Int32} {xKn : Int32} {xPa : Nat → Int32} {xUp : Nat → Int32} {xAl : Nat → Option Nat} {xHa : Nat → Int64} {xNm : Nat → Int64} {xKi : Nat → Int32} {xAm : Nat → Int32} {xPl : Nat → Int32} {xKe : Nat → Int32} {xTo : Nat → Int32} {xFa : Nat → Option Nat} {xRe : Nat → Option Nat} {xVl : Nat → Option Nat} {xAr : Nat → Int32} {mTy : Int32} {mPa : Nat → Int32} {mTo : Nat → Int32} {mTm : Int32} {mMn : Int32} {mOt : Nat → Int32} {mNa : Nat → Int32} {mRe : Nat → Int32} {mMa : Nat → Int32} {mMy : Nat → Int32} {mPm : Nat → Int32} {mFn : Int32} {mFy : Nat → Int32} {mFa : Nat → Int32} {mFr : Nat → Int32} {mRn : Int32} {mFo : Nat → Int32} {mRt : Nat → Int32} {mRm : Nat → Int32} {mTn : Int32} {mTt : Nat → Int32} {mTi : Nat → Int32} {mPl : Nat → Int32} {mVn : Int32} {mVr : Nat → Int32} {mVf : Nat → Int32} {mVc : Nat → Int32} {mAr : Nat → Int32} {mLr : Int32} {mTc : Nat → Int32} {mTr : Int32} {mFl : Int32} {dyn : pm_H} (h : rIv xTc xFc xRc xVc xLr xFl xTn xMn xSt xAb xVa xD1 xD2 xTl xOl xKn xPa xUp xAl xHa xNm xKi xAm xPl xKe xTo xFa xRe xVl xAr mTy mPa mTo mTm mMn mOt mNa mRe mMa mMy mPm mFn mFy mFa mFr mRn mFo mRt mRm mTn mTt mTi mPl mVn mVr mVf mVc mAr mLr mTc mTr mFl dyn) : reF mFo mRt mRm mRn xRe dyn := h.2.2.2.2.2.2.2.2.2.2.2.2.2.2.2.2.2.2.2.2.1
theorem rIv.r_rf {xTc : Int32} {xFc : Int32} {xRc : Int32} {xVc : Int32} {xLr : Int32} {xFl : Int32} {xTn : Int32} {xMn : Int32} {xSt : Int64} {xAb : Int64} {xVa : Int64} {xD1 : Value} {xD2 : Value} {xTl : Int32} {xOl : Int32} {xKn : Int32} {xPa : Nat → Int32} {xUp : Nat → Int32} {xAl : Nat → Option Nat} {xHa : Nat → Int64} {xNm : Nat → Int64} {xKi : Nat → Int32} {xAm : Nat → Int32} {xPl : Nat → Int32} {xKe : Nat → Int32} {xTo : Nat → Int32} {xFa : Nat → Option Nat} {xRe : Nat → Option Nat} {xVl : Nat → Option Nat} {xAr : Nat → Int32} {mTy : Int32} {mPa : Nat → Int32} {mTo : Nat → Int32} {mTm : Int32} {mMn : Int32} {mOt : Nat → Int32} {mNa : Nat → Int32} {mRe : Nat → Int32} {mMa : Nat → Int32} {mMy : Nat → Int32} {mPm : Nat → Int32} {mFn : Int32} {mFy : Nat → Int32} {mFa : Nat → Int32} {mFr : Nat → Int32} {mRn : Int32} {mFo : Nat → Int32} {mRt : Nat → Int32} {mRm : Nat → Int32} {mTn : Int32} {mTt : Nat → Int32} {mTi : Nat → Int32} {mPl : Nat → Int32} {mVn : Int32} {mVr : Nat → Int32} {mVf : Nat → Int32} {mVc : Nat → Int32} {mAr : Nat → Int32} {mLr : Int32} {mTc : Nat → Int32} {mTr : Int32} {mFl : Int32} {dyn : pm_H} (h : rIv xTc xFc xRc xVc xLr xFl xTn xMn xSt xAb xVa xD1 xD2 xTl xOl xKn xPa xUp xAl xHa xNm xKi xAm xPl xKe xTo xFa xRe xVl xAr mTy mPa mTo mTm mMn mOt mNa mRe mMa mMy mPm mFn mFy mFa mFr mRn mFo mRt mRm mTn mTt mTi mPl mVn mVr mVf mVc mAr mLr mTc mTr mFl dyn) : ∀ i : Nat, (i : Int) < mRn.toInt → rfR mTy (mFo i) (mRt i) (mRm i) := h.2.2.2.2.2.2.2.2.2.2.2.2.2.2.2.2.2.2.2.2.2.1
theorem rIv.r_kd {xTc : Int32} {xFc : Int32} {xRc : Int32} {xVc : Int32} {xLr : Int32} {xFl : Int32} {xTn : Int32} {xMn : Int32} {xSt : Int64} {xAb : Int64} {xVa : Int64} {xD1 : Value} {xD2 : Value} {xTl : Int32} {xOl : Int32} {xKn : Int32} {xPa : Nat → Int32} {xUp : Nat → Int32} {xAl : Nat → Option Nat} {xHa : Nat → Int64} {xNm : Nat → Int64} {xKi : Nat → Int32} {xAm : Nat → Int32} {xPl : Nat → Int32} {xKe : Nat → Int32} {xTo : Nat → Int32} {xFa : Nat → Option Nat} {xRe : Nat → Option Nat} {xVl : Nat → Option Nat} {xAr : Nat → Int32} {mTy : Int32} {mPa : Nat → Int32} {mTo : Nat → Int32} {mTm : Int32} {mMn : Int32} {mOt : Nat → Int32} {mNa : Nat → Int32} {mRe : Nat → Int32} {mMa : Nat → Int32} {mMy : Nat → Int32} {mPm : Nat → Int32} {mFn : Int32} {mFy : Nat → Int32} {mFa : Nat → Int32} {mFr : Nat → Int32} {mRn : Int32} {mFo : Nat → Int32} {mRt : Nat → Int32} {mRm : Nat → Int32} {mTn : Int32} {mTt : Nat → Int32} {mTi : Nat → Int32} {mPl : Nat → Int32} {mVn : Int32} {mVr : Nat → Int32} {mVf : Nat → Int32} {mVc : Nat → Int32} {mAr : Nat → Int32} {mLr : Int32} {mTc : Nat → Int32} {mTr : Int32} {mFl : Int32} {dyn : pm_H} (h : rIv xTc xFc xRc xVc xLr xFl xTn xMn xSt xAb xVa xD1 xD2 xTl xOl xKn xPa xUp xAl xHa xNm xKi xAm xPl xKe xTo xFa xRe xVl xAr mTy mPa mTo mTm mMn mOt mNa mRe mMa mMy mPm mFn mFy mFa mFr mRn mFo mRt mRm mTn mTt mTi mPl mVn mVr mVf mVc mAr mLr mTc mTr mFl dyn) : ∀ i : Nat, 1 ≤ i → (i : Int) ≤ mTn.toInt → kdT mTy (mTt i) := h.2.2.2.2.2.2.2.2.2.2.2.2.2.2.2.2.2.2.2.2.2.2.1
theorem rIv.r_vl {xTc : Int32} {xFc : Int32} {xRc : Int32} {xVc : Int32} {xLr : Int32} {xFl : Int32} {xTn : Int32} {xMn : Int32} {xSt : Int64} {xAb : Int64} {xVa : Int64} {xD1 : Value} {xD2 : Value} {xTl : Int32} {xOl : Int32} {xKn : Int32} {xPa : Nat → Int32} {xUp : Nat → Int32} {xAl : Nat → Option Nat} {xHa : Nat → Int64} {xNm : Nat → Int64} {xKi : Nat → Int32} {xAm : Nat → Int32} {xPl : Nat → Int32} {xKe : Nat → Int32} {xTo : Nat → Int32} {xFa : Nat → Option Nat} {xRe : Nat → Option Nat} {xVl : Nat → Option Nat} {xAr : Nat → Int32} {mTy : Int32} {mPa : Nat → Int32} {mTo : Nat → Int32} {mTm : Int32} {mMn : Int32} {mOt : Nat → Int32} {mNa : Nat → Int32} {mRe : Nat → Int32} {mMa : Nat → Int32} {mMy : Nat → Int32} {mPm : Nat → Int32} {mFn : Int32} {mFy : Nat → Int32} {mFa : Nat → Int32} {mFr : Nat → Int32} {mRn : Int32} {mFo : Nat → Int32} {mRt : Nat → Int32} {mRm : Nat → Int32} {mTn : Int32} {mTt : Nat → Int32} {mTi : Nat → Int32} {mPl : Nat → Int32} {mVn : Int32} {mVr : Nat → Int32} {mVf : Nat → Int32} {mVc : Nat → Int32} {mAr : Nat → Int32} {mLr : Int32} {mTc : Nat → Int32} {mTr : Int32} {mFl : Int32} {dyn : pm_H} (h : rIv xTc xFc xRc xVc xLr xFl xTn xMn xSt xAb xVa xD1 xD2 xTl xOl xKn xPa xUp xAl xHa xNm xKi xAm xPl xKe xTo xFa xRe xVl xAr mTy mPa mTo mTm mMn mOt mNa mRe mMa mMy mPm mFn mFy mFa mFr mRn mFo mRt mRm mTn mTt mTi mPl mVn mVr mVf mVc mAr mLr mTc mTr mFl dyn) : ∃ dVb dVp dVo : Nat → Int32, ∃ dVm : Nat → Option Nat, vlF mFo mRt mRm mFy mFa mFr mOt mNa mRe mMa mMy mPm mVr mVf mVc dVb dVp dVo dVm mVn xVl dyn ∧ ∀ v : Nat, (v : Int) < mVn.toInt → vrR mPa mOt mNa mRe mMy mPm mMa mFa mFy mFr mMn mFo mRt mRm (mVr v) (mVf v) (dVb v) (dVp v) (dVo v) (dVm v) := h.2.2.2.2.2.2.2.2.2.2.2.2.2.2.2.2.2.2.2.2.2.2.2.1
theorem rIv.r_ol {xTc : Int32} {xFc : Int32} {xRc : Int32} {xVc : Int32} {xLr : Int32} {xFl : Int32} {xTn : Int32} {xMn : Int32} {xSt : Int64} {xAb : Int64} {xVa : Int64} {xD1 : Value} {xD2 : Value} {xTl : Int32} {xOl : Int32} {xKn : Int32} {xPa : Nat → Int32} {xUp : Nat → Int32} {xAl : Nat → Option Nat} {xHa : Nat → Int64} {xNm : Nat → Int64} {xKi : Nat → Int32} {xAm : Nat → Int32} {xPl : Nat → Int32} {xKe : Nat → Int32} {xTo : Nat → Int32} {xFa : Nat → Option Nat} {xRe : Nat → Option Nat} {xVl : Nat → Option Nat} {xAr : Nat → Int32} {mTy : Int32} {mPa : Nat → Int32} {mTo : Nat → Int32} {mTm : Int32} {mMn : Int32} {mOt : Nat → Int32} {mNa : Nat → Int32} {mRe : Nat → Int32} {mMa : Nat → Int32} {mMy : Nat → Int32} {mPm : Nat → Int32} {mFn : Int32} {mFy : Nat → Int32} {mFa : Nat → Int32} {mFr : Nat → Int32} {mRn : Int32} {mFo : Nat → Int32} {mRt : Nat → Int32} {mRm : Nat → Int32} {mTn : Int32} {mTt : Nat → Int32} {mTi : Nat → Int32} {mPl : Nat → Int32} {mVn : Int32} {mVr : Nat → Int32} {mVf : Nat → Int32} {mVc : Nat → Int32} {mAr : Nat → Int32} {mLr : Int32} {mTc : Nat → Int32} {mTr : Int32} {mFl : Int32} {dyn : pm_H} (h : rIv xTc xFc xRc xVc xLr xFl xTn xMn xSt xAb xVa xD1 xD2 xTl xOl xKn xPa xUp xAl xHa xNm xKi xAm xPl xKe xTo xFa xRe xVl xAr mTy mPa mTo mTm mMn mOt mNa mRe mMa mMy mPm mFn mFy mFa mFr mRn mFo mRt mRm mTn mTt mTi mPl mVn mVr mVf mVc mAr mLr mTc mTr mFl dyn) : 0 ≤ xOl.toInt ∧ xOl.toInt < 50 := h.2.2.2.2.2.2.2.2.2.2.2.2.2.2.2.2.2.2.2.2.2.2.2.2.1
theorem rIv.r_ke {xTc : Int32} {xFc : Int32} {xRc : Int32} {xVc : Int32} {xLr : Int32} {xFl : Int32} {xTn : Int32} {xMn : Int32} {xSt : Int64} {xAb : Int64} {xVa : Int64} {xD1 : Value} {xD2 : Value} {xTl : Int32} {xOl : Int32} {xKn : Int32} {xPa : Nat → Int32} {xUp : Nat → Int32} {xAl : Nat → Option Nat} {xHa : Nat → Int64} {xNm : Nat → Int64} {xKi : Nat → Int32} {xAm : Nat → Int32} {xPl : Nat → Int32} {xKe : Nat → Int32} {xTo : Nat → Int32} {xFa : Nat → Option Nat} {xRe : Nat → Option Nat} {xVl : Nat → Option Nat} {xAr : Nat → Int32} {mTy : Int32} {mPa : Nat → Int32} {mTo : Nat → Int32} {mTm : Int32} {mMn : Int32} {mOt : Nat → Int32} {mNa : Nat → Int32} {mRe : Nat → Int32} {mMa : Nat → Int32} {mMy : Nat → Int32} {mPm : Nat → Int32} {mFn : Int32} {mFy : Nat → Int32} {mFa : Nat → Int32} {mFr : Nat → Int32} {mRn : Int32} {mFo : Nat → Int32} {mRt : Nat → Int32} {mRm : Nat → Int32} {mTn : Int32} {mTt : Nat → Int32} {mTi : Nat → Int32} {mPl : Nat → Int32} {mVn : Int32} {mVr : Nat → Int32} {mVf : Nat → Int32} {mVc : Nat → Int32} {mAr : Nat → Int32} {mLr : Int32} {mTc : Nat → Int32} {mTr : Int32} {mFl : Int32} {dyn : pm_H} (h : rIv xTc xFc xRc xVc xLr xFl xTn xMn xSt xAb xVa xD1 xD2 xTl xOl xKn xPa xUp xAl xHa xNm xKi xAm xPl xKe xTo xFa xRe xVl xAr mTy mPa mTo mTm mMn mOt mNa mRe mMa mMy mPm mFn mFy mFa mFr mRn mFo mRt mRm mTn mTt mTi mPl mVn mVr mVf mVc mAr mLr mTc mTr mFl dyn) : ∀ i : Nat, (i : Int) < mTr.toInt → xKe ((xOl + nI i) - (xOl + nI i) / 50 * 50).toNatClampNeg = mTc i := h.2.2.2.2.2.2.2.2.2.2.2.2.2.2.2.2.2.2.2.2.2.2.2.2.2.1
theorem rIv.r_d1 {xTc : Int32} {xFc : Int32} {xRc : Int32} {xVc : Int32} {xLr : Int32} {xFl : Int32} {xTn : Int32} {xMn : Int32} {xSt : Int64} {xAb : Int64} {xVa : Int64} {xD1 : Value} {xD2 : Value} {xTl : Int32} {xOl : Int32} {xKn : Int32} {xPa : Nat → Int32} {xUp : Nat → Int32} {xAl : Nat → Option Nat} {xHa : Nat → Int64} {xNm : Nat → Int64} {xKi : Nat → Int32} {xAm : Nat → Int32} {xPl : Nat → Int32} {xKe : Nat → Int32} {xTo : Nat → Int32} {xFa : Nat → Option Nat} {xRe : Nat → Option Nat} {xVl : Nat → Option Nat} {xAr : Nat → Int32} {mTy : Int32} {mPa : Nat → Int32} {mTo : Nat → Int32} {mTm : Int32} {mMn : Int32} {mOt : Nat → Int32} {mNa : Nat → Int32} {mRe : Nat → Int32} {mMa : Nat → Int32} {mMy : Nat → Int32} {mPm : Nat → Int32} {mFn : Int32} {mFy : Nat → Int32} {mFa : Nat → Int32} {mFr : Nat → Int32} {mRn : Int32} {mFo : Nat → Int32} {mRt : Nat → Int32} {mRm : Nat → Int32} {mTn : Int32} {mTt : Nat → Int32} {mTi : Nat → Int32} {mPl : Nat → Int32} {mVn : Int32} {mVr : Nat → Int32} {mVf : Nat → Int32} {mVc : Nat → Int32} {mAr : Nat → Int32} {mLr : Int32} {mTc : Nat → Int32} {mTr : Int32} {mFl : Int32} {dyn : pm_H} (h : rIv xTc xFc xRc xVc xLr xFl xTn xMn xSt xAb xVa xD1 xD2 xTl xOl xKn xPa xUp xAl xHa xNm xKi xAm xPl xKe xTo xFa xRe xVl xAr mTy mPa mTo mTm mMn mOt mNa mRe mMa mMy mPm mFn mFy mFa mFr mRn mFo mRt mRm mTn mTt mTi mPl mVn mVr mVf mVc mAr mLr mTc mTr mFl dyn) : ∃ o : Option Nat, fdF mOt mNa mRe mMa mMy mPm dyn xD1 o ∧ ∀ b : Nat, o = some b → (b : Int) < mMn.toInt := h.2.2.2.2.2.2.2.2.2.2.2.2.2.2.2.2.2.2.2.2.2.2.2.2.2.2.1
theorem rIv.r_d2 {xTc : Int32} {xFc : Int32} {xRc : Int32} {xVc : Int32} {xLr : Int32} {xFl : Int32} {xTn : Int32} {xMn : Int32} {xSt : Int64} {xAb : Int64} {xVa : Int64} {xD1 : Value} {xD2 : Value} {xTl : Int32} {xOl : Int32} {xKn : Int32} {xPa : Nat → Int32} {xUp : Nat → Int32} {xAl : Nat → Option Nat} {xHa : Nat → Int64} {xNm : Nat → Int64} {xKi : Nat → Int32} {xAm : Nat → Int32} {xPl : Nat → Int32} {xKe : Nat → Int32} {xTo : Nat → Int32} {xFa : Nat → Option Nat} {xRe : Nat → Option Nat} {xVl : Nat → Option Nat} {xAr : Nat → Int32} {mTy : Int32} {mPa : Nat → Int32} {mTo : Nat → Int32} {mTm : Int32} {mMn : Int32} {mOt : Nat → Int32} {mNa : Nat → Int32} {mRe : Nat → Int32} {mMa : Nat → Int32} {mMy : Nat → Int32} {mPm : Nat → Int32} {mFn : Int32} {mFy : Nat → Int32} {mFa : Nat → Int32} {mFr : Nat → Int32} {mRn : Int32} {mFo : Nat → Int32} {mRt : Nat → Int32} {mRm : Nat → Int32} {mTn : Int32} {mTt : Nat → Int32} {mTi : Nat → Int32} {mPl : Nat → Int32} {mVn : Int32} {mVr : Nat → Int32} {mVf : Nat → Int32} {mVc : Nat → Int32} {mAr : Nat → Int32} {mLr : Int32} {mTc : Nat → Int32} {mTr : Int32} {mFl : Int32} {dyn : pm_H} (h : rIv xTc xFc xRc xVc xLr xFl xTn xMn xSt xAb xVa xD1 xD2 xTl xOl xKn xPa xUp xAl xHa xNm xKi xAm xPl xKe xTo xFa xRe xVl xAr mTy mPa mTo mTm mMn mOt mNa mRe mMa mMy mPm mFn mFy mFa mFr mRn mFo mRt mRm mTn mTt mTi mPl mVn mVr mVf mVc mAr mLr mTc mTr mFl dyn) : ∃ o : Option Nat, fdF mOt mNa mRe mMa mMy mPm dyn xD2 o ∧ ∀ b : Nat, o = some b → (b : Int) < mMn.toInt := h.2.2.2.2.2.2.2.2.2.2.2.2.2.2.2.2.2.2.2.2.2.2.2.2.2.2.2
theorem vr_f {mTy : Int32} {mPa : Nat → Int32} {mTo : Nat → Int32} {mTm : Int32} {mMn : Int32} {mOt : Nat → Int32} {mNa : Nat → Int32} {mRe : Nat → Int32} {mMa : Nat → Int32} {mMy : Nat → Int32} {mPm : Nat → Int32} {mFn : Int32} {mFy : Nat → Int32} {mFa : Nat → Int32} {mFr : Nat → Int32} {mRn : Int32} {mFo : Nat → Int32} {mRt : Nat → Int32} {mRm : Nat → Int32} {mTn : Int32} {mTt : Nat → Int32} {mTi : Nat → Int32} {mVn : Int32} {mVr : Nat → Int32} {mVf : Nat → Int32} {mVc : Nat → Int32} {mTr : Int32} {r bs ip co : Int32} {om : Option Nat} {v : Nat} (hm : mIv mTy mPa mTo mTm mMn mOt mNa mRe mMa mMy mPm mFn mFy mFa mFr mRn mFo mRt mRm mTn mTt mTi mVn mVr mVf mVc mTr) (hv : (v : Int) < mVn.toInt) (h : vrR mPa mOt mNa mRe mMy mPm mMa mFa mFy mFr mMn mFo mRt mRm (mVr v) (mVf v) bs ip co om) : vrR mPa mOt mNa mRe mMy mPm mMa (cpF mFa mTo mFn mTm) (upd mFy mFn.toNatClampNeg mTm) (upd mFr mFn.toNatClampNeg r) mMn mFo mRt mRm (mVr v) (mVf v) bs ip co om := by
  obtain ⟨mp, m, h1, h2⟩ := h
  obtain ⟨q1, q2, q3, q4, q5⟩ := hm.iva v hv
  have hfn := hm.ifn
  have k := rf_k hm q1
  have hrf := rfD_at hm.irf q1
  have hxf := xN q2.1
  have hx := xN hfn.1
  have hfy := fcD_at hm.ifc q2
  have ef : (mVf v).toNatClampNeg ≠ mFn.toNatClampNeg := by omega
  refine ⟨mp, m, wm_c (ty := mTy) (fun _ _ _ => rfl) hm.ity.1 hm.imn.2 (mk_of hm) ⟨by omega, hfy, (updN ef).symm, ?_⟩ (updN ef).symm k.1 k.2.1 (fun w => ⟨rfl, k.2.2 w⟩) hrf.1 h1, h2⟩
  intro j w
  have hi := ix3 (f := mVf v) (j := j) (by omega) (by omega)
  rw [cp_o hfn.1 (by omega)]
  exact ⟨rfl, pl_ok hm.ity.1 (hm.ifa _)⟩
theorem vr_t {mTy : Int32} {mPa : Nat → Int32} {mTo : Nat → Int32} {mTm : Int32} {mMn : Int32} {mOt : Nat → Int32} {mNa : Nat → Int32} {mRe : Nat → Int32} {mMa : Nat → Int32} {mMy : Nat → Int32} {mPm : Nat → Int32} {mFn : Int32} {mFy : Nat → Int32} {mFa : Nat → Int32} {mFr : Nat → Int32} {mRn : Int32} {mFo : Nat → Int32} {mRt : Nat → Int32} {mRm : Nat → Int32} {mTn : Int32} {mTt : Nat → Int32} {mTi : Nat → Int32} {mVn : Int32} {mVr : Nat → Int32} {mVf : Nat → Int32} {mVc : Nat → Int32} {mTr : Int32} {t bs ip co : Int32} {om : Option Nat} {v : Nat} (hm : mIv mTy mPa mTo mTm mMn mOt mNa mRe mMa mMy mPm mFn mFy mFa mFr mRn mFo mRt mRm mTn mTt mTi mVn mVr mVf mVc mTr) (h9 : mTy.toInt < 10) (hv : (v : Int) < mVn.toInt) (h : vrR mPa mOt mNa mRe mMy mPm mMa mFa mFy mFr mMn mFo mRt mRm (mVr v) (mVf v) bs ip co om) : vrR (upd mPa mTy.toNatClampNeg t) mOt mNa mRe mMy mPm mMa mFa mFy mFr mMn mFo mRt mRm (mVr v) (mVf v) bs ip co om := by
  obtain ⟨mp, m, h1, h2⟩ := h
  obtain ⟨q1, q2, q3, q4, q5⟩ := hm.iva v hv
  have hty := hm.ity
  have hx := xN (x := mTy) (by omega)
  have hU := uM_n (t := t) hm.ipa (show 2 ≤ mTy.toInt ∧ mTy.toInt ≤ 9 by omega)
  have k := rf_k hm q1
  have hrf := rfD_at hm.irf q1
  refine ⟨mp, m, wm_c (hU_s hU) hty.1 hm.imn.2 (mk_of hm) (fk_s hm q2) rfl k.1 k.2.1 (fun w => ?_) hrf.1 h1, h2⟩
  have e2 := hrf.2.1 (by omega)
  have hx2 := xN e2.1
  exact ⟨(updN (by omega)).symm, k.2.2 w⟩
theorem vr_r {mTy : Int32} {mPa : Nat → Int32} {mTo : Nat → Int32} {mTm : Int32} {mMn : Int32} {mOt : Nat → Int32} {mNa : Nat → Int32} {mRe : Nat → Int32} {mMa : Nat → Int32} {mMy : Nat → Int32} {mPm : Nat → Int32} {mFn : Int32} {mFy : Nat → Int32} {mFa : Nat → Int32} {mFr : Nat → Int32} {mRn : Int32} {mFo : Nat → Int32} {mRt : Nat → Int32} {mRm : Nat → Int32} {mTn : Int32} {mTt : Nat → Int32} {mTi : Nat → Int32} {mVn : Int32} {mVr : Nat → Int32} {mVf : Nat → Int32} {mVc : Nat → Int32} {mTr : Int32} {o t w bs ip co : Int32} {om : Option Nat} {v : Nat} (hm : mIv mTy mPa mTo mTm mMn mOt mNa mRe mMa mMy mPm mFn mFy mFa mFr mRn mFo mRt mRm mTn mTt mTi mVn mVr mVf mVc mTr) (hv : (v : Int) < mVn.toInt) (h : vrR mPa mOt mNa mRe mMy mPm mMa mFa mFy mFr mMn mFo mRt mRm (mVr v) (mVf v) bs ip co om) : vrR mPa mOt mNa mRe mMy mPm mMa mFa mFy mFr mMn (upd mFo mRn.toNatClampNeg o) (upd mRt mRn.toNatClampNeg t) (upd mRm mRn.toNatClampNeg w) (mVr v) (mVf v) bs ip co om := by
  obtain ⟨q1, _⟩ := hm.iva v hv
  have k1 := xN q1.1
  have k2 := xN hm.irn.1
  have e : (mVr v).toNatClampNeg ≠ mRn.toNatClampNeg := by omega
  unfold vrR at h ⊢
  rw [updN e, updN e, updN e]
  exact h
theorem ri_ref {xSt : Int64} {xAb : Int64} {xVa : Int64} {xD1 : Value} {xD2 : Value} {xOl : Int32} {xPa : Nat → Int32} {xUp : Nat → Int32} {xAl : Nat → Option Nat} {xHa : Nat → Int64} {xNm : Nat → Int64} {xKe : Nat → Int32} {xFa : Nat → Option Nat} {xRe : Nat → Option Nat} {xVl : Nat → Option Nat} {mTy : Int32} {mPa : Nat → Int32} {mTo : Nat → Int32} {mTm : Int32} {mMn : Int32} {mOt : Nat → Int32} {mNa : Nat → Int32} {mRe : Nat → Int32} {mMa : Nat → Int32} {mMy : Nat → Int32} {mPm : Nat → Int32} {mFn : Int32} {mFy : Nat → Int32} {mFa : Nat → Int32} {mFr : Nat → Int32} {mRn : Int32} {mFo : Nat → Int32} {mRt : Nat → Int32} {mRm : Nat → Int32} {mTn : Int32} {mTt : Nat → Int32} {mTi : Nat → Int32} {mPl : Nat → Int32} {mVn : Int32} {mVr : Nat → Int32} {mVf : Nat → Int32} {mVc : Nat → Int32} {mAr : Nat → Int32} {mLr : Int32} {mTc : Nat → Int32} {mTr : Int32} {mFl : Int32} {dyn : pm_H} {o t w : Int32} {f9 : Nat → Option Nat} {e9 : pm_H} (hm : mIv mTy mPa mTo mTm mMn mOt mNa mRe mMa mMy mPm mFn mFy mFa mFr mRn mFo mRt mRm mTn mTt mTi mVn mVr mVf mVc mTr) (h : rIv mTm mFn mRn mVn mLr mFl mTy mMn xSt xAb xVa xD1 xD2 mTn xOl mTr xPa xUp xAl xHa xNm mTt mTi mPl xKe mTo xFa xRe xVl mAr mTy mPa mTo mTm mMn mOt mNa mRe mMa mMy mPm mFn mFy mFa mFr mRn mFo mRt mRm mTn mTt mTi mPl mVn mVr mVf mVc mAr mLr mTc mTr mFl dyn) (hc : rfR mTy o t w) (h3 : mRn.toInt < 30) (hr : reF (upd mFo mRn.toNatClampNeg o) (upd mRt mRn.toNatClampNeg t) (upd mRm mRn.toNatClampNeg w) (mRn + 1) f9 (dyn ++ e9)) : rIv mTm mFn (mRn + 1) mVn mLr mFl mTy mMn xSt xAb xVa xD1 xD2 mTn xOl mTr xPa xUp xAl xHa xNm mTt mTi mPl xKe mTo xFa f9 xVl mAr mTy mPa mTo mTm mMn mOt mNa mRe mMa mMy mPm mFn mFy mFa mFr (mRn + 1) (upd mFo mRn.toNatClampNeg o) (upd mRt mRn.toNatClampNeg t) (upd mRm mRn.toNatClampNeg w) mTn mTt mTi mPl mVn mVr mVf mVc mAr mLr mTc mTr mFl (dyn ++ e9) := by
  have hrn := hm.irn
  have e : (mRn + 1).toInt = mRn.toInt + 1 := iAdd rfl (by decide) (by omega) (by omega)
  have hx := xN hrn.1
  obtain ⟨dVb, dVp, dVo, dVm, h1, h2⟩ := h.r_vl
  obtain ⟨o1, k1, b1⟩ := h.r_d1
  obtain ⟨o2, k2, b2⟩ := h.r_d2
  exact rIv.mk (r_tn := h.r_tn) (r_tc := h.r_tc) (r_to := h.r_to) (r_mn := h.r_mn) (r_fc := h.r_fc) (r_rc := rfl) (r_tl := h.r_tl) (r_ki := h.r_ki) (r_am := h.r_am) (r_pl := h.r_pl) (r_vc := h.r_vc) (r_ar := h.r_ar) (r_lr := h.r_lr) (r_fl := h.r_fl) (r_kn := h.r_kn) (r_mm := h.r_mm) (r_ot := h.r_ot) (r_al := alF_ap e9 h.r_al) (r_fa := faF_ap e9 h.r_fa) (r_fr := h.r_fr) (r_re := hr) (r_rf := (fun i q => by
    by_cases ei : i = mRn.toNatClampNeg
    · rw [ei, updS, updS, updS]; exact hc
    · rw [updN ei, updN ei, updN ei]; exact h.r_rf i (by omega))) (r_kd := h.r_kd) (r_vl := ⟨dVb, dVp, dVo, dVm, vlF_r (fun i q => (hm.iva i q).1) (vlF_ap e9 h1), fun v q => vr_r hm q (h2 v q)⟩) (r_ol := h.r_ol) (r_ke := h.r_ke) (r_d1 := ⟨o1, fdF_ap e9 k1, b1⟩) (r_d2 := ⟨o2, fdF_ap e9 k2, b2⟩)
theorem ri_face {xSt : Int64} {xAb : Int64} {xVa : Int64} {xD1 : Value} {xD2 : Value} {xOl : Int32} {xPa : Nat → Int32} {xUp : Nat → Int32} {xAl : Nat → Option Nat} {xHa : Nat → Int64} {xNm : Nat → Int64} {xKe : Nat → Int32} {xFa : Nat → Option Nat} {xRe : Nat → Option Nat} {xVl : Nat → Option Nat} {mTy : Int32} {mPa : Nat → Int32} {mTo : Nat → Int32} {mTm : Int32} {mMn : Int32} {mOt : Nat → Int32} {mNa : Nat → Int32} {mRe : Nat → Int32} {mMa : Nat → Int32} {mMy : Nat → Int32} {mPm : Nat → Int32} {mFn : Int32} {mFy : Nat → Int32} {mFa : Nat → Int32} {mFr : Nat → Int32} {mRn : Int32} {mFo : Nat → Int32} {mRt : Nat → Int32} {mRm : Nat → Int32} {mTn : Int32} {mTt : Nat → Int32} {mTi : Nat → Int32} {mPl : Nat → Int32} {mVn : Int32} {mVr : Nat → Int32} {mVf : Nat → Int32} {mVc : Nat → Int32} {mAr : Nat → Int32} {mLr : Int32} {mTc : Nat → Int32} {mTr : Int32} {mFl : Int32} {dyn : pm_H} {r : Int32} {f9 : Nat → Option Nat} {e9 : pm_H} (hm : mIv mTy mPa mTo mTm mMn mOt mNa mRe mMa mMy mPm mFn mFy mFa mFr mRn mFo mRt mRm mTn mTt mTi mVn mVr mVf mVc mTr) (h : rIv mTm mFn mRn mVn mLr mFl mTy mMn xSt xAb xVa xD1 xD2 mTn xOl mTr xPa xUp xAl xHa xNm mTt mTi mPl xKe mTo xFa xRe xVl mAr mTy mPa mTo mTm mMn mOt mNa mRe mMa mMy mPm mFn mFy mFa mFr mRn mFo mRt mRm mTn mTt mTi mPl mVn mVr mVf mVc mAr mLr mTc mTr mFl dyn) (hc : anyT mTy r) (h3 : mFn.toInt < 10) (hr : faF (upd mFy mFn.toNatClampNeg mTm) (cpF mFa mTo mFn mTm) (upd mFr mFn.toNatClampNeg r) (mFn + 1) f9 (dyn ++ e9)) : rIv 0 (mFn + 1) mRn mVn mLr mFl mTy mMn xSt xAb xVa xD1 xD2 mTn xOl mTr xPa xUp xAl xHa xNm mTt mTi mPl xKe mTo f9 xRe xVl mAr mTy mPa mTo 0 mMn mOt mNa mRe mMa mMy mPm (mFn + 1) (upd mFy mFn.toNatClampNeg mTm) (cpF mFa mTo mFn mTm) (upd mFr mFn.toNatClampNeg r) mRn mFo mRt mRm mTn mTt mTi mPl mVn mVr mVf mVc mAr mLr mTc mTr mFl (dyn ++ e9) := by
  have hfn := hm.ifn
  have e : (mFn + 1).toInt = mFn.toInt + 1 := iAdd rfl (by decide) (by omega) (by omega)
  have hx := xN hfn.1
  obtain ⟨dVb, dVp, dVo, dVm, h1, h2⟩ := h.r_vl
  obtain ⟨o1, k1, b1⟩ := h.r_d1
  obtain ⟨o2, k2, b2⟩ := h.r_d2
  exact rIv.mk (r_tn := h.r_tn) (r_tc := rfl) (r_to := h.r_to) (r_mn := h.r_mn) (r_fc := rfl) (r_rc := h.r_rc) (r_tl := h.r_tl) (r_ki := h.r_ki) (r_am := h.r_am) (r_pl := h.r_pl) (r_vc := h.r_vc) (r_ar := h.r_ar) (r_lr := h.r_lr) (r_fl := h.r_fl) (r_kn := h.r_kn) (r_mm := h.r_mm) (r_ot := h.r_ot) (r_al := alF_ap e9 h.r_al) (r_fa := hr) (r_fr := (fun i q => by
    by_cases ei : i = mFn.toNatClampNeg
    · rw [ei, updS]; exact hc
    · rw [updN ei]; exact h.r_fr i (by omega))) (r_re := reF_ap e9 h.r_re) (r_rf := h.r_rf) (r_kd := h.r_kd) (r_vl := ⟨dVb, dVp, dVo, dVm, vlF_f (fun i q => (hm.iva i q).2.1) (vlF_ap e9 h1), fun v q => vr_f hm q (h2 v q)⟩) (r_ol := h.r_ol) (r_ke := h.r_ke) (r_d1 := ⟨o1, fdF_ap e9 k1, b1⟩) (r_d2 := ⟨o2, fdF_ap e9 k2, b2⟩)
theorem ca_0 {xSt : Int64} {xAb : Int64} {xVa : Int64} {xD1 : Value} {xD2 : Value} {xOl : Int32} {xPa : Nat → Int32} {xUp : Nat → Int32} {xAl : Nat → Option Nat} {xHa : Nat → Int64} {xNm : Nat → Int64} {xKe : Nat → Int32} {xFa : Nat → Option Nat} {xRe : Nat → Option Nat} {xVl : Nat → Option Nat} {mTy : Int32} {mPa : Nat → Int32} {mTo : Nat → Int32} {mTm : Int32} {mMn : Int32} {mOt : Nat → Int32} {mNa : Nat → Int32} {mRe : Nat → Int32} {mMa : Nat → Int32} {mMy : Nat → Int32} {mPm : Nat → Int32} {mFn : Int32} {mFy : Nat → Int32} {mFa : Nat → Int32} {mFr : Nat → Int32} {mRn : Int32} {mFo : Nat → Int32} {mRt : Nat → Int32} {mRm : Nat → Int32} {mTn : Int32} {mTt : Nat → Int32} {mTi : Nat → Int32} {mPl : Nat → Int32} {mVn : Int32} {mVr : Nat → Int32} {mVf : Nat → Int32} {mVc : Nat → Int32} {mAr : Nat → Int32} {mLr : Int32} {mTc : Nat → Int32} {mTr : Int32} {mFl : Int32} {dyn : pm_H} {dVb dVp dVo : Nat → Int32} {dVm : Nat → Option Nat} {mGo : Nat → Int32} {v : Int32} (hm : mIv mTy mPa mTo mTm mMn mOt mNa mRe mMa mMy mPm mFn mFy mFa mFr mRn mFo mRt mRm mTn mTt mTi mVn mVr mVf mVc mTr) (h : rIv mTm mFn mRn mVn mLr mFl mTy mMn xSt xAb xVa xD1 xD2 mTn xOl mTr xPa xUp xAl xHa xNm mTt mTi mPl xKe mTo xFa xRe xVl mAr mTy mPa mTo mTm mMn mOt mNa mRe mMa mMy mPm mFn mFy mFa mFr mRn mFo mRt mRm mTn mTt mTi mPl mVn mVr mVf mVc mAr mLr mTc mTr mFl dyn) (hvr : ∀ v : Nat, (v : Int) < mVn.toInt → vrR mPa mOt mNa mRe mMy mPm mMa mFa mFy mFr mMn mFo mRt mRm (mVr v) (mVf v) (dVb v) (dVp v) (dVo v) (dVm v)) (hv : 0 ≤ v.toInt ∧ v.toInt < mVn.toInt) (hag : agM mPa mTt mAr mFa mFy mTn (mVf v.toNatClampNeg) 0) (hdm : dVm v.toNatClampNeg = none) {m9 o9 : Int32} {Z8 Z9 : cs_T} (hpl : (((mFo (mVr v.toNatClampNeg).toNatClampNeg).toInt = 3 ∨ (mFy (mVf v.toNatClampNeg).toNatClampNeg).toNatClampNeg = 0) ∧ (m9, Z8) = mdF (dVo v.toNatClampNeg) 0 (mTn, 0, mTt, mTi, mPl)) ∨ (¬ ((mFo (mVr v.toNatClampNeg).toNatClampNeg).toInt = 3 ∨ (mFy (mVf v.toNatClampNeg).toNatClampNeg).toNatClampNeg = 0) ∧ (m9, Z8) = szX mAr (cutF mFy mFa (mVf v.toNatClampNeg).toNatClampNeg) (dVo v.toNatClampNeg) (mTn, 0, mTt, mTi, mPl))) (hcv : (o9, Z9) = cvX m9 (dVo v.toNatClampNeg) (mFr (mVf v.toNatClampNeg).toNatClampNeg) Z8) {rn wh cm w9 : Int32} {gg : Nat → Int32} {Y8 Y9 : cs_T} (hco : coM mPa mOt mNa mRe mMy mPm mMa mFa mFy mFr mAr mMn (mFo (mVr v.toNatClampNeg).toNatClampNeg) (mRt (mVr v.toNatClampNeg).toNatClampNeg) (mRm (mVr v.toNatClampNeg).toNatClampNeg) (mVf v.toNatClampNeg) (mVc v.toNatClampNeg) mGo mTn (mTt, mTi, mPl) rn wh cm (gg, Y8)) (hfn : (w9, Y9) = fnF (mFr (mVf v.toNatClampNeg).toNatClampNeg) wh cm Y8) : rn = -4 ∧ gK (kdT mTy) Y9 ∧ Z9 = Y9 ∧ (Y9.2.1.toInt = 0 → o9 = w9) := by
  have hx := xN hv.1
  obtain ⟨i1, i2, i3, i4, _⟩ := hm.iva v.toNatClampNeg (by omega)
  have j1 := xN i1.1
  have j2 := xN i2.1
  have hfn9 := hm.ifn
  have hF : fcR mTy mFy mFa mFr (mVf v.toNatClampNeg) := ⟨by omega, fcD_at hm.ifc i2, hm.ifa, h.r_fr _ (by omega)⟩
  have hf := h.r_rf (mVr v.toNatClampNeg).toNatClampNeg (by omega)
  obtain ⟨mp, m, hw, hco9, hom⟩ := hvr v.toNatClampNeg (by omega)
  rcases hom with ⟨_, a2, a3⟩ | ⟨c, a1, _⟩
  · subst a2
    rw [hco9] at hpl hcv
    exact call_0 h.r_mm.2.1 hm.ity h.r_kd hm.imn.2 hF hf hm.itn hag hw a3 hpl hcv hco hfn
  · rw [hdm] at a1; cases a1
theorem ca_1 {xSt : Int64} {xAb : Int64} {xVa : Int64} {xD1 : Value} {xD2 : Value} {xOl : Int32} {xPa : Nat → Int32} {xUp : Nat → Int32} {xAl : Nat → Option Nat} {xHa : Nat → Int64} {xNm : Nat → Int64} {xKe : Nat → Int32} {xFa : Nat → Option Nat} {xRe : Nat → Option Nat} {xVl : Nat → Option Nat} {mTy : Int32} {mPa : Nat → Int32} {mTo : Nat → Int32} {mTm : Int32} {mMn : Int32} {mOt : Nat → Int32} {mNa : Nat → Int32} {mRe : Nat → Int32} {mMa : Nat → Int32} {mMy : Nat → Int32} {mPm : Nat → Int32} {mFn : Int32} {mFy : Nat → Int32} {mFa : Nat → Int32} {mFr : Nat → Int32} {mRn : Int32} {mFo : Nat → Int32} {mRt : Nat → Int32} {mRm : Nat → Int32} {mTn : Int32} {mTt : Nat → Int32} {mTi : Nat → Int32} {mPl : Nat → Int32} {mVn : Int32} {mVr : Nat → Int32} {mVf : Nat → Int32} {mVc : Nat → Int32} {mAr : Nat → Int32} {mLr : Int32} {mTc : Nat → Int32} {mTr : Int32} {mFl : Int32} {dyn : pm_H} {dVb dVp dVo : Nat → Int32} {dVm : Nat → Option Nat} {mGo : Nat → Int32} {v : Int32} (hm : mIv mTy mPa mTo mTm mMn mOt mNa mRe mMa mMy mPm mFn mFy mFa mFr mRn mFo mRt mRm mTn mTt mTi mVn mVr mVf mVc mTr) (h : rIv mTm mFn mRn mVn mLr mFl mTy mMn xSt xAb xVa xD1 xD2 mTn xOl mTr xPa xUp xAl xHa xNm mTt mTi mPl xKe mTo xFa xRe xVl mAr mTy mPa mTo mTm mMn mOt mNa mRe mMa mMy mPm mFn mFy mFa mFr mRn mFo mRt mRm mTn mTt mTi mPl mVn mVr mVf mVc mAr mLr mTc mTr mFl dyn) (hvr : ∀ v : Nat, (v : Int) < mVn.toInt → vrR mPa mOt mNa mRe mMy mPm mMa mFa mFy mFr mMn mFo mRt mRm (mVr v) (mVf v) (dVb v) (dVp v) (dVo v) (dVm v)) (hv : 0 ≤ v.toInt ∧ v.toInt < mVn.toInt) (hag : agM mPa mTt mAr mFa mFy mTn (mVf v.toNatClampNeg) 0) {x9 b9 : Nat} {e9 : Int32} {g9 xGo : Nat → Int32} {m9 o9 : Int32} {Z7 Z8 Z9 : cs_T} (hdm : dVm v.toNatClampNeg = some x9) (hmt : mtX mNa mMy mPm xHa xNm mMn (dVb v.toNatClampNeg) (mFo (mVr v.toNatClampNeg).toNatClampNeg) (mAr 0) (mVc v.toNatClampNeg) mTt mTn x9 e9 b9) (hha : (g9, Z7) = haX mAr (cutF mFy mFa (mVf v.toNatClampNeg).toNatClampNeg) (cutF mMy mPm b9) (mMy b9).toNatClampNeg (mFy (mVf v.toNatClampNeg).toNatClampNeg).toNatClampNeg (if (dVb v.toNatClampNeg).toInt ≠ 0 then 1 else 0) (dVp v.toNatClampNeg) (xGo, mTn, e9, mTt, mTi, mPl)) (hgr : grX (mRe b9) (nI (mMy b9).toNatClampNeg) (hbX xHa xNm (mRe b9) &&& xAb ≠ 0) (sumX (mMa b9) (mMy b9).toNatClampNeg (cutF mMy mPm b9) g9 Z7 b9) Z7 (m9, Z8)) (hcv : (o9, Z9) = cvX m9 (dVo v.toNatClampNeg) (mFr (mVf v.toNatClampNeg).toNatClampNeg) Z8) {rn wh cm w9 : Int32} {gg : Nat → Int32} {Y8 Y9 : cs_T} (hco : coM mPa mOt mNa mRe mMy mPm mMa mFa mFy mFr mAr mMn (mFo (mVr v.toNatClampNeg).toNatClampNeg) (mRt (mVr v.toNatClampNeg).toNatClampNeg) (mRm (mVr v.toNatClampNeg).toNatClampNeg) (mVf v.toNatClampNeg) (mVc v.toNatClampNeg) mGo mTn (mTt, mTi, mPl) rn wh cm (gg, Y8)) (hfn : (w9, Y9) = fnF (mFr (mVf v.toNatClampNeg).toNatClampNeg) wh cm Y8) : rn = nI b9 ∧ (b9 : Int) < mMn.toInt ∧ gK (kdT mTy) Y9 ∧ Z9 = Y9 ∧ (Y9.2.1.toInt = 0 → o9 = w9) := by
  have hx := xN hv.1
  obtain ⟨i1, i2, i3, i4, _⟩ := hm.iva v.toNatClampNeg (by omega)
  have j1 := xN i1.1
  have j2 := xN i2.1
  have hfn9 := hm.ifn
  have hF : fcR mTy mFy mFa mFr (mVf v.toNatClampNeg) := ⟨by omega, fcD_at hm.ifc i2, hm.ifa, h.r_fr _ (by omega)⟩
  have hf := h.r_rf (mVr v.toNatClampNeg).toNatClampNeg (by omega)
  obtain ⟨mp, m, hw, hco9, hom⟩ := hvr v.toNatClampNeg (by omega)
  rcases hom with ⟨a1, _⟩ | ⟨c, a1, a2, a3, a4⟩
  · rw [hdm] at a1; cases a1
  · rw [hdm] at a1
    cases a1
    subst a2
    rw [hco9] at hcv
    exact call_1 h.r_mm hF hf hm.itn h.r_kd h.r_ot (fun q => ⟨(i4 q).1, i3.2⟩) hag (iv_safe hm hv hag) hw a3 a4 hmt hha hgr hcv hco hfn
set_option maxRecDepth 100000 in
set_option maxHeartbeats 4000000 in
theorem cx_call {xVc : Int32} {xLr : Int32} {xFl : Int32} {xMn : Int32} {xAb : Int64} {xTl : Int32} {xCs : Int32} {xCo : Int32} {xCa : Value} {xOl : Int32} {xKn : Int32} {xUp : Nat → Int32} {xHa : Nat → Int64} {xNm : Nat → Int64} {xKi : Nat → Int32} {xAm : Nat → Int32} {xPl : Nat → Int32} {xGo : Nat → Int32} {xKe : Nat → Int32} {xAr : Nat → Int32} {dyn : pm_H} {mOt : Nat → Int32} {mNa : Nat → Int32} {mRe : Nat → Int32} {mMa : Nat → Int32} {mMy : Nat → Int32} {mPm : Nat → Int32} {mFy : Nat → Int32} {mFa : Nat → Int32} {mFr : Nat → Int32} {mFo : Nat → Int32} {mVr : Nat → Int32} {mVf : Nat → Int32} {mVc : Nat → Int32} {yLr : Int32} {yFl : Int32} {yTl : Int32} {yCs : Int32} {yCo : Int32} {yCa : Value} {yOl : Int32} {yKn : Int32} {yKi : Nat → Int32} {yAm : Nat → Int32} {yPl : Nat → Int32} {yGo : Nat → Int32} {yKe : Nat → Int32} {v : Int32} {rx : Int32} {dVb : Nat → Int32} {dVp : Nat → Int32} {dVo : Nat → Int32} {dVm : Nat → Option Nat} (aa : ((¬ (0 ≤ v.toInt ∧ v.toInt < xVc.toInt)) ∧ (-1) = rx ∧ xLr = yLr ∧ xFl = yFl ∧ xTl = yTl ∧ xCs = yCs ∧ xCo = yCo ∧ xCa = yCa ∧ xOl = yOl ∧ xKn = yKn ∧ xKi = yKi ∧ xAm = yAm ∧ xPl = yPl ∧ xGo = yGo ∧ xKe = yKe) ∨ (((0 ≤ v.toInt ∧ v.toInt < xVc.toInt)) ∧ (¬ dsL xUp xKi xAr xTl (mFy (mVf v.toNatClampNeg).toNatClampNeg).toNatClampNeg (cutF mFy mFa (mVf v.toNatClampNeg).toNatClampNeg) 0) ∧ (-1) = rx ∧ xLr = yLr ∧ xFl = yFl ∧ xTl = yTl ∧ xCs = yCs ∧ xCo = yCo ∧ xCa = yCa ∧ xOl = yOl ∧ xKn = yKn ∧ xKi = yKi ∧ xAm = yAm ∧ xPl = yPl ∧ xGo = yGo ∧ xKe = yKe) ∨ (∃ (m9 : Int32) (l8 : Int32) (c8 : Int32) (k8 : Nat → Int32) (a8 : Nat → Int32) (p8 : Nat → Int32) (o9 : Int32) (t9 : Int32) (c9 : Int32) (l9 : Int32) (k9 : Nat → Int32) (a9 : Nat → Int32) (p9 : Nat → Int32), ((0 ≤ v.toInt ∧ v.toInt < xVc.toInt)) ∧ (dsL xUp xKi xAr xTl (mFy (mVf v.toNatClampNeg).toNatClampNeg).toNatClampNeg (cutF mFy mFa (mVf v.toNatClampNeg).toNatClampNeg) 0) ∧ ((dVm v.toNatClampNeg) = none) ∧ ((((mFo (mVr v.toNatClampNeg).toNatClampNeg).toInt = 3 ∨ (mFy (mVf v.toNatClampNeg).toNatClampNeg).toNatClampNeg = 0) ∧ (m9, l8, c8, k8, a8, p8) = mdF (dVo v.toNatClampNeg) 0 (xTl, 0, xKi, xAm, xPl)) ∨ (¬ ((mFo (mVr v.toNatClampNeg).toNatClampNeg).toInt = 3 ∨ (mFy (mVf v.toNatClampNeg).toNatClampNeg).toNatClampNeg = 0) ∧ (m9, l8, c8, k8, a8, p8) = szX xAr (cutF mFy mFa (mVf v.toNatClampNeg).toNatClampNeg) (dVo v.toNatClampNeg) (xTl, 0, xKi, xAm, xPl))) ∧ ((o9, l9, c9, k9, a9, p9) = cvX m9 (dVo v.toNatClampNeg) (mFr (mVf v.toNatClampNeg).toNatClampNeg) (l8, c8, k8, a8, p8)) ∧ (0 ≤ t9.toInt ∧ t9.toInt ≤ 60) ∧ ((c9.toInt ≠ 0 ∧ t9 = xTl) ∨ (c9.toInt = 0 ∧ t9 = l9)) ∧ ((c9.toInt = -21 ∨ c9.toInt = -22)) ∧ c9 = rx ∧ xLr = yLr ∧ xFl + 1 = yFl ∧ t9 = yTl ∧ c9 = yCs ∧ o9 = yCo ∧ .null = yCa ∧ xOl = yOl ∧ xKn = yKn ∧ k9 = yKi ∧ a9 = yAm ∧ p9 = yPl ∧ xGo = yGo ∧ xKe = yKe) ∨ (∃ (m9 : Int32) (l8 : Int32) (c8 : Int32) (k8 : Nat → Int32) (a8 : Nat → Int32) (p8 : Nat → Int32) (o9 : Int32) (t9 : Int32) (c9 : Int32) (l9 : Int32) (k9 : Nat → Int32) (a9 : Nat → Int32) (p9 : Nat → Int32), ((0 ≤ v.toInt ∧ v.toInt < xVc.toInt)) ∧ (dsL xUp xKi xAr xTl (mFy (mVf v.toNatClampNeg).toNatClampNeg).toNatClampNeg (cutF mFy mFa (mVf v.toNatClampNeg).toNatClampNeg) 0) ∧ ((dVm v.toNatClampNeg) = none) ∧ ((((mFo (mVr v.toNatClampNeg).toNatClampNeg).toInt = 3 ∨ (mFy (mVf v.toNatClampNeg).toNatClampNeg).toNatClampNeg = 0) ∧ (m9, l8, c8, k8, a8, p8) = mdF (dVo v.toNatClampNeg) 0 (xTl, 0, xKi, xAm, xPl)) ∨ (¬ ((mFo (mVr v.toNatClampNeg).toNatClampNeg).toInt = 3 ∨ (mFy (mVf v.toNatClampNeg).toNatClampNeg).toNatClampNeg = 0) ∧ (m9, l8, c8, k8, a8, p8) = szX xAr (cutF mFy mFa (mVf v.toNatClampNeg).toNatClampNeg) (dVo v.toNatClampNeg) (xTl, 0, xKi, xAm, xPl))) ∧ ((o9, l9, c9, k9, a9, p9) = cvX m9 (dVo v.toNatClampNeg) (mFr (mVf v.toNatClampNeg).toNatClampNeg) (l8, c8, k8, a8, p8)) ∧ (0 ≤ t9.toInt ∧ t9.toInt ≤ 60) ∧ ((c9.toInt ≠ 0 ∧ t9 = xTl) ∨ (c9.toInt = 0 ∧ t9 = l9)) ∧ (c9.toInt ≠ 0 ∧ ¬ (c9.toInt = -21 ∨ c9.toInt = -22)) ∧ c9 = rx ∧ xLr = yLr ∧ xFl = yFl ∧ t9 = yTl ∧ c9 = yCs ∧ o9 = yCo ∧ .null = yCa ∧ xOl = yOl ∧ xKn = yKn ∧ k9 = yKi ∧ a9 = yAm ∧ p9 = yPl ∧ xGo = yGo ∧ xKe = yKe) ∨ (∃ (m9 : Int32) (l8 : Int32) (c8 : Int32) (k8 : Nat → Int32) (a8 : Nat → Int32) (p8 : Nat → Int32) (o9 : Int32) (t9 : Int32) (c9 : Int32) (l9 : Int32) (k9 : Nat → Int32) (a9 : Nat → Int32) (p9 : Nat → Int32), ((0 ≤ v.toInt ∧ v.toInt < xVc.toInt)) ∧ (dsL xUp xKi xAr xTl (mFy (mVf v.toNatClampNeg).toNatClampNeg).toNatClampNeg (cutF mFy mFa (mVf v.toNatClampNeg).toNatClampNeg) 0) ∧ ((dVm v.toNatClampNeg) = none) ∧ ((((mFo (mVr v.toNatClampNeg).toNatClampNeg).toInt = 3 ∨ (mFy (mVf v.toNatClampNeg).toNatClampNeg).toNatClampNeg = 0) ∧ (m9, l8, c8, k8, a8, p8) = mdF (dVo v.toNatClampNeg) 0 (xTl, 0, xKi, xAm, xPl)) ∨ (¬ ((mFo (mVr v.toNatClampNeg).toNatClampNeg).toInt = 3 ∨ (mFy (mVf v.toNatClampNeg).toNatClampNeg).toNatClampNeg = 0) ∧ (m9, l8, c8, k8, a8, p8) = szX xAr (cutF mFy mFa (mVf v.toNatClampNeg).toNatClampNeg) (dVo v.toNatClampNeg) (xTl, 0, xKi, xAm, xPl))) ∧ ((o9, l9, c9, k9, a9, p9) = cvX m9 (dVo v.toNatClampNeg) (mFr (mVf v.toNatClampNeg).toNatClampNeg) (l8, c8, k8, a8, p8)) ∧ (0 ≤ t9.toInt ∧ t9.toInt ≤ 60) ∧ ((c9.toInt ≠ 0 ∧ t9 = xTl) ∨ (c9.toInt = 0 ∧ t9 = l9)) ∧ (c9.toInt = 0) ∧ 1 = rx ∧ o9 = yLr ∧ xFl = yFl ∧ t9 = yTl ∧ c9 = yCs ∧ o9 = yCo ∧ .null = yCa ∧ xOl = yOl ∧ xKn = yKn ∧ k9 = yKi ∧ a9 = yAm ∧ p9 = yPl ∧ xGo = yGo ∧ xKe = yKe) ∨ (∃ (x9 : Nat) (j9 : Nat) (b9 : Nat) (e9 : Int32) (g9 : Nat → Int32) (l7 : Int32) (c7 : Int32) (k7 : Nat → Int32) (a7 : Nat → Int32) (p7 : Nat → Int32) (m9 : Int32) (l8 : Int32) (c8 : Int32) (k8 : Nat → Int32) (a8 : Nat → Int32) (p8 : Nat → Int32) (o9 : Int32) (t9 : Int32) (c9 : Int32) (l9 : Int32) (k9 : Nat → Int32) (a9 : Nat → Int32) (p9 : Nat → Int32), ((0 ≤ v.toInt ∧ v.toInt < xVc.toInt)) ∧ (dsL xUp xKi xAr xTl (mFy (mVf v.toNatClampNeg).toNatClampNeg).toNatClampNeg (cutF mFy mFa (mVf v.toNatClampNeg).toNatClampNeg) 0) ∧ ((dVm v.toNatClampNeg) = some x9) ∧ (mbF mOt mNa mRe mMa mMy mPm dyn j9 b9) ∧ (mtX mNa mMy mPm xHa xNm xMn (dVb v.toNatClampNeg) (mFo (mVr v.toNatClampNeg).toNatClampNeg) (xAr 0) (mVc v.toNatClampNeg) xKi xTl x9 e9 b9) ∧ ((g9, l7, c7, k7, a7, p7) = haX xAr (cutF mFy mFa (mVf v.toNatClampNeg).toNatClampNeg) (cutF mMy mPm b9) (mMy b9).toNatClampNeg (mFy (mVf v.toNatClampNeg).toNatClampNeg).toNatClampNeg (if (dVb v.toNatClampNeg).toInt ≠ 0 then 1 else 0) (dVp v.toNatClampNeg) (xGo, xTl, e9, xKi, xAm, xPl)) ∧ (grX (mRe b9) (nI (mMy b9).toNatClampNeg) (hbX xHa xNm (mRe b9) &&& xAb ≠ 0) (sumX (mMa b9) (mMy b9).toNatClampNeg (cutF mMy mPm b9) g9 (l7, c7, k7, a7, p7) b9) (l7, c7, k7, a7, p7) (m9, l8, c8, k8, a8, p8)) ∧ ((o9, l9, c9, k9, a9, p9) = cvX m9 (dVo v.toNatClampNeg) (mFr (mVf v.toNatClampNeg).toNatClampNeg) (l8, c8, k8, a8, p8)) ∧ (0 ≤ t9.toInt ∧ t9.toInt ≤ 60) ∧ ((c9.toInt ≠ 0 ∧ t9 = xTl) ∨ (c9.toInt = 0 ∧ t9 = l9)) ∧ ((c9.toInt = -21 ∨ c9.toInt = -22)) ∧ c9 = rx ∧ xLr = yLr ∧ xFl + 1 = yFl ∧ t9 = yTl ∧ c9 = yCs ∧ o9 = yCo ∧ .ref (j9 + 50) = yCa ∧ xOl = yOl ∧ xKn = yKn ∧ k9 = yKi ∧ a9 = yAm ∧ p9 = yPl ∧ g9 = yGo ∧ xKe = yKe) ∨ (∃ (x9 : Nat) (j9 : Nat) (b9 : Nat) (e9 : Int32) (g9 : Nat → Int32) (l7 : Int32) (c7 : Int32) (k7 : Nat → Int32) (a7 : Nat → Int32) (p7 : Nat → Int32) (m9 : Int32) (l8 : Int32) (c8 : Int32) (k8 : Nat → Int32) (a8 : Nat → Int32) (p8 : Nat → Int32) (o9 : Int32) (t9 : Int32) (c9 : Int32) (l9 : Int32) (k9 : Nat → Int32) (a9 : Nat → Int32) (p9 : Nat → Int32), ((0 ≤ v.toInt ∧ v.toInt < xVc.toInt)) ∧ (dsL xUp xKi xAr xTl (mFy (mVf v.toNatClampNeg).toNatClampNeg).toNatClampNeg (cutF mFy mFa (mVf v.toNatClampNeg).toNatClampNeg) 0) ∧ ((dVm v.toNatClampNeg) = some x9) ∧ (mbF mOt mNa mRe mMa mMy mPm dyn j9 b9) ∧ (mtX mNa mMy mPm xHa xNm xMn (dVb v.toNatClampNeg) (mFo (mVr v.toNatClampNeg).toNatClampNeg) (xAr 0) (mVc v.toNatClampNeg) xKi xTl x9 e9 b9) ∧ ((g9, l7, c7, k7, a7, p7) = haX xAr (cutF mFy mFa (mVf v.toNatClampNeg).toNatClampNeg) (cutF mMy mPm b9) (mMy b9).toNatClampNeg (mFy (mVf v.toNatClampNeg).toNatClampNeg).toNatClampNeg (if (dVb v.toNatClampNeg).toInt ≠ 0 then 1 else 0) (dVp v.toNatClampNeg) (xGo, xTl, e9, xKi, xAm, xPl)) ∧ (grX (mRe b9) (nI (mMy b9).toNatClampNeg) (hbX xHa xNm (mRe b9) &&& xAb ≠ 0) (sumX (mMa b9) (mMy b9).toNatClampNeg (cutF mMy mPm b9) g9 (l7, c7, k7, a7, p7) b9) (l7, c7, k7, a7, p7) (m9, l8, c8, k8, a8, p8)) ∧ ((o9, l9, c9, k9, a9, p9) = cvX m9 (dVo v.toNatClampNeg) (mFr (mVf v.toNatClampNeg).toNatClampNeg) (l8, c8, k8, a8, p8)) ∧ (0 ≤ t9.toInt ∧ t9.toInt ≤ 60) ∧ ((c9.toInt ≠ 0 ∧ t9 = xTl) ∨ (c9.toInt = 0 ∧ t9 = l9)) ∧ (c9.toInt ≠ 0 ∧ ¬ (c9.toInt = -21 ∨ c9.toInt = -22)) ∧ c9 = rx ∧ xLr = yLr ∧ xFl = yFl ∧ t9 = yTl ∧ c9 = yCs ∧ o9 = yCo ∧ .ref (j9 + 50) = yCa ∧ xOl = yOl ∧ xKn = yKn ∧ k9 = yKi ∧ a9 = yAm ∧ p9 = yPl ∧ g9 = yGo ∧ xKe = yKe) ∨ (∃ (x9 : Nat) (j9 : Nat) (b9 : Nat) (e9 : Int32) (g9 : Nat → Int32) (l7 : Int32) (c7 : Int32) (k7 : Nat → Int32) (a7 : Nat → Int32) (p7 : Nat → Int32) (m9 : Int32) (l8 : Int32) (c8 : Int32) (k8 : Nat → Int32) (a8 : Nat → Int32) (p8 : Nat → Int32) (o9 : Int32) (t9 : Int32) (c9 : Int32) (l9 : Int32) (k9 : Nat → Int32) (a9 : Nat → Int32) (p9 : Nat → Int32), ((0 ≤ v.toInt ∧ v.toInt < xVc.toInt)) ∧ (dsL xUp xKi xAr xTl (mFy (mVf v.toNatClampNeg).toNatClampNeg).toNatClampNeg (cutF mFy mFa (mVf v.toNatClampNeg).toNatClampNeg) 0) ∧ ((dVm v.toNatClampNeg) = some x9) ∧ (mbF mOt mNa mRe mMa mMy mPm dyn j9 b9) ∧ (mtX mNa mMy mPm xHa xNm xMn (dVb v.toNatClampNeg) (mFo (mVr v.toNatClampNeg).toNatClampNeg) (xAr 0) (mVc v.toNatClampNeg) xKi xTl x9 e9 b9) ∧ ((g9, l7, c7, k7, a7, p7) = haX xAr (cutF mFy mFa (mVf v.toNatClampNeg).toNatClampNeg) (cutF mMy mPm b9) (mMy b9).toNatClampNeg (mFy (mVf v.toNatClampNeg).toNatClampNeg).toNatClampNeg (if (dVb v.toNatClampNeg).toInt ≠ 0 then 1 else 0) (dVp v.toNatClampNeg) (xGo, xTl, e9, xKi, xAm, xPl)) ∧ (grX (mRe b9) (nI (mMy b9).toNatClampNeg) (hbX xHa xNm (mRe b9) &&& xAb ≠ 0) (sumX (mMa b9) (mMy b9).toNatClampNeg (cutF mMy mPm b9) g9 (l7, c7, k7, a7, p7) b9) (l7, c7, k7, a7, p7) (m9, l8, c8, k8, a8, p8)) ∧ ((o9, l9, c9, k9, a9, p9) = cvX m9 (dVo v.toNatClampNeg) (mFr (mVf v.toNatClampNeg).toNatClampNeg) (l8, c8, k8, a8, p8)) ∧ (0 ≤ t9.toInt ∧ t9.toInt ≤ 60) ∧ ((c9.toInt ≠ 0 ∧ t9 = xTl) ∨ (c9.toInt = 0 ∧ t9 = l9)) ∧ (c9.toInt = 0 ∧ xKn.toInt < 50) ∧ 1 = rx ∧ o9 = yLr ∧ xFl = yFl ∧ t9 = yTl ∧ c9 = yCs ∧ o9 = yCo ∧ .ref (j9 + 50) = yCa ∧ xOl = yOl ∧ xKn + 1 = yKn ∧ k9 = yKi ∧ a9 = yAm ∧ p9 = yPl ∧ g9 = yGo ∧ upd xKe ((xOl + xKn) - (xOl + xKn) / 50 * 50).toNatClampNeg (nI b9) = yKe) ∨ (∃ (x9 : Nat) (j9 : Nat) (b9 : Nat) (e9 : Int32) (g9 : Nat → Int32) (l7 : Int32) (c7 : Int32) (k7 : Nat → Int32) (a7 : Nat → Int32) (p7 : Nat → Int32) (m9 : Int32) (l8 : Int32) (c8 : Int32) (k8 : Nat → Int32) (a8 : Nat → Int32) (p8 : Nat → Int32) (o9 : Int32) (t9 : Int32) (c9 : Int32) (l9 : Int32) (k9 : Nat → Int32) (a9 : Nat → Int32) (p9 : Nat → Int32), ((0 ≤ v.toInt ∧ v.toInt < xVc.toInt)) ∧ (dsL xUp xKi xAr xTl (mFy (mVf v.toNatClampNeg).toNatClampNeg).toNatClampNeg (cutF mFy mFa (mVf v.toNatClampNeg).toNatClampNeg) 0) ∧ ((dVm v.toNatClampNeg) = some x9) ∧ (mbF mOt mNa mRe mMa mMy mPm dyn j9 b9) ∧ (mtX mNa mMy mPm xHa xNm xMn (dVb v.toNatClampNeg) (mFo (mVr v.toNatClampNeg).toNatClampNeg) (xAr 0) (mVc v.toNatClampNeg) xKi xTl x9 e9 b9) ∧ ((g9, l7, c7, k7, a7, p7) = haX xAr (cutF mFy mFa (mVf v.toNatClampNeg).toNatClampNeg) (cutF mMy mPm b9) (mMy b9).toNatClampNeg (mFy (mVf v.toNatClampNeg).toNatClampNeg).toNatClampNeg (if (dVb v.toNatClampNeg).toInt ≠ 0 then 1 else 0) (dVp v.toNatClampNeg) (xGo, xTl, e9, xKi, xAm, xPl)) ∧ (grX (mRe b9) (nI (mMy b9).toNatClampNeg) (hbX xHa xNm (mRe b9) &&& xAb ≠ 0) (sumX (mMa b9) (mMy b9).toNatClampNeg (cutF mMy mPm b9) g9 (l7, c7, k7, a7, p7) b9) (l7, c7, k7, a7, p7) (m9, l8, c8, k8, a8, p8)) ∧ ((o9, l9, c9, k9, a9, p9) = cvX m9 (dVo v.toNatClampNeg) (mFr (mVf v.toNatClampNeg).toNatClampNeg) (l8, c8, k8, a8, p8)) ∧ (0 ≤ t9.toInt ∧ t9.toInt ≤ 60) ∧ ((c9.toInt ≠ 0 ∧ t9 = xTl) ∨ (c9.toInt = 0 ∧ t9 = l9)) ∧ (c9.toInt = 0 ∧ 50 ≤ xKn.toInt) ∧ 1 = rx ∧ o9 = yLr ∧ xFl = yFl ∧ t9 = yTl ∧ c9 = yCs ∧ o9 = yCo ∧ .ref (j9 + 50) = yCa ∧ (xOl + 1) - (xOl + 1) / 50 * 50 = yOl ∧ xKn = yKn ∧ k9 = yKi ∧ a9 = yAm ∧ p9 = yPl ∧ g9 = yGo ∧ upd xKe ((xOl + xKn) - (xOl + xKn) / 50 * 50).toNatClampNeg (nI b9) = yKe)) : ((¬ (0 ≤ v.toInt ∧ v.toInt < xVc.toInt)) ∧ (-1) = rx ∧ xLr = yLr ∧ xFl = yFl ∧ xTl = yTl ∧ xCs = yCs ∧ xCo = yCo ∧ xCa = yCa ∧ xOl = yOl ∧ xKn = yKn ∧ xKi = yKi ∧ xAm = yAm ∧ xPl = yPl ∧ xGo = yGo ∧ xKe = yKe) ∨ (((0 ≤ v.toInt ∧ v.toInt < xVc.toInt)) ∧ (¬ dsL xUp xKi xAr xTl (mFy (mVf v.toNatClampNeg).toNatClampNeg).toNatClampNeg (cutF mFy mFa (mVf v.toNatClampNeg).toNatClampNeg) 0) ∧ (-1) = rx ∧ xLr = yLr ∧ xFl = yFl ∧ xTl = yTl ∧ xCs = yCs ∧ xCo = yCo ∧ xCa = yCa ∧ xOl = yOl ∧ xKn = yKn ∧ xKi = yKi ∧ xAm = yAm ∧ xPl = yPl ∧ xGo = yGo ∧ xKe = yKe) ∨ (∃ (m9 : Int32) (l8 : Int32) (c8 : Int32) (k8 : Nat → Int32) (a8 : Nat → Int32) (p8 : Nat → Int32) (o9 : Int32) (t9 : Int32) (c9 : Int32) (l9 : Int32) (k9 : Nat → Int32) (a9 : Nat → Int32) (p9 : Nat → Int32), ((0 ≤ v.toInt ∧ v.toInt < xVc.toInt)) ∧ (dsL xUp xKi xAr xTl (mFy (mVf v.toNatClampNeg).toNatClampNeg).toNatClampNeg (cutF mFy mFa (mVf v.toNatClampNeg).toNatClampNeg) 0) ∧ ((dVm v.toNatClampNeg) = none) ∧ ((((mFo (mVr v.toNatClampNeg).toNatClampNeg).toInt = 3 ∨ (mFy (mVf v.toNatClampNeg).toNatClampNeg).toNatClampNeg = 0) ∧ (m9, l8, c8, k8, a8, p8) = mdF (dVo v.toNatClampNeg) 0 (xTl, 0, xKi, xAm, xPl)) ∨ (¬ ((mFo (mVr v.toNatClampNeg).toNatClampNeg).toInt = 3 ∨ (mFy (mVf v.toNatClampNeg).toNatClampNeg).toNatClampNeg = 0) ∧ (m9, l8, c8, k8, a8, p8) = szX xAr (cutF mFy mFa (mVf v.toNatClampNeg).toNatClampNeg) (dVo v.toNatClampNeg) (xTl, 0, xKi, xAm, xPl))) ∧ ((o9, l9, c9, k9, a9, p9) = cvX m9 (dVo v.toNatClampNeg) (mFr (mVf v.toNatClampNeg).toNatClampNeg) (l8, c8, k8, a8, p8)) ∧ (0 ≤ t9.toInt ∧ t9.toInt ≤ 60) ∧ ((c9.toInt ≠ 0 ∧ t9 = xTl) ∨ (c9.toInt = 0 ∧ t9 = l9)) ∧ ((((c9.toInt = -21 ∨ c9.toInt = -22)) ∧ c9 = rx ∧ xLr = yLr ∧ xFl + 1 = yFl ∧ t9 = yTl ∧ c9 = yCs ∧ o9 = yCo ∧ .null = yCa ∧ xOl = yOl ∧ xKn = yKn ∧ k9 = yKi ∧ a9 = yAm ∧ p9 = yPl ∧ xGo = yGo ∧ xKe = yKe) ∨ ((c9.toInt ≠ 0 ∧ ¬ (c9.toInt = -21 ∨ c9.toInt = -22)) ∧ c9 = rx ∧ xLr = yLr ∧ xFl = yFl ∧ t9 = yTl ∧ c9 = yCs ∧ o9 = yCo ∧ .null = yCa ∧ xOl = yOl ∧ xKn = yKn ∧ k9 = yKi ∧ a9 = yAm ∧ p9 = yPl ∧ xGo = yGo ∧ xKe = yKe) ∨ ((c9.toInt = 0) ∧ 1 = rx ∧ o9 = yLr ∧ xFl = yFl ∧ t9 = yTl ∧ c9 = yCs ∧ o9 = yCo ∧ .null = yCa ∧ xOl = yOl ∧ xKn = yKn ∧ k9 = yKi ∧ a9 = yAm ∧ p9 = yPl ∧ xGo = yGo ∧ xKe = yKe))) ∨ (∃ (x9 : Nat) (j9 : Nat) (b9 : Nat) (e9 : Int32) (g9 : Nat → Int32) (l7 : Int32) (c7 : Int32) (k7 : Nat → Int32) (a7 : Nat → Int32) (p7 : Nat → Int32) (m9 : Int32) (l8 : Int32) (c8 : Int32) (k8 : Nat → Int32) (a8 : Nat → Int32) (p8 : Nat → Int32) (o9 : Int32) (t9 : Int32) (c9 : Int32) (l9 : Int32) (k9 : Nat → Int32) (a9 : Nat → Int32) (p9 : Nat → Int32), ((0 ≤ v.toInt ∧ v.toInt < xVc.toInt)) ∧ (dsL xUp xKi xAr xTl (mFy (mVf v.toNatClampNeg).toNatClampNeg).toNatClampNeg (cutF mFy mFa (mVf v.toNatClampNeg).toNatClampNeg) 0) ∧ ((dVm v.toNatClampNeg) = some x9) ∧ (mbF mOt mNa mRe mMa mMy mPm dyn j9 b9) ∧ (mtX mNa mMy mPm xHa xNm xMn (dVb v.toNatClampNeg) (mFo (mVr v.toNatClampNeg).toNatClampNeg) (xAr 0) (mVc v.toNatClampNeg) xKi xTl x9 e9 b9) ∧ ((g9, l7, c7, k7, a7, p7) = haX xAr (cutF mFy mFa (mVf v.toNatClampNeg).toNatClampNeg) (cutF mMy mPm b9) (mMy b9).toNatClampNeg (mFy (mVf v.toNatClampNeg).toNatClampNeg).toNatClampNeg (if (dVb v.toNatClampNeg).toInt ≠ 0 then 1 else 0) (dVp v.toNatClampNeg) (xGo, xTl, e9, xKi, xAm, xPl)) ∧ (grX (mRe b9) (nI (mMy b9).toNatClampNeg) (hbX xHa xNm (mRe b9) &&& xAb ≠ 0) (sumX (mMa b9) (mMy b9).toNatClampNeg (cutF mMy mPm b9) g9 (l7, c7, k7, a7, p7) b9) (l7, c7, k7, a7, p7) (m9, l8, c8, k8, a8, p8)) ∧ ((o9, l9, c9, k9, a9, p9) = cvX m9 (dVo v.toNatClampNeg) (mFr (mVf v.toNatClampNeg).toNatClampNeg) (l8, c8, k8, a8, p8)) ∧ (0 ≤ t9.toInt ∧ t9.toInt ≤ 60) ∧ ((c9.toInt ≠ 0 ∧ t9 = xTl) ∨ (c9.toInt = 0 ∧ t9 = l9)) ∧ ((((c9.toInt = -21 ∨ c9.toInt = -22)) ∧ c9 = rx ∧ xLr = yLr ∧ xFl + 1 = yFl ∧ t9 = yTl ∧ c9 = yCs ∧ o9 = yCo ∧ .ref (j9 + 50) = yCa ∧ xOl = yOl ∧ xKn = yKn ∧ k9 = yKi ∧ a9 = yAm ∧ p9 = yPl ∧ g9 = yGo ∧ xKe = yKe) ∨ ((c9.toInt ≠ 0 ∧ ¬ (c9.toInt = -21 ∨ c9.toInt = -22)) ∧ c9 = rx ∧ xLr = yLr ∧ xFl = yFl ∧ t9 = yTl ∧ c9 = yCs ∧ o9 = yCo ∧ .ref (j9 + 50) = yCa ∧ xOl = yOl ∧ xKn = yKn ∧ k9 = yKi ∧ a9 = yAm ∧ p9 = yPl ∧ g9 = yGo ∧ xKe = yKe) ∨ ((c9.toInt = 0 ∧ xKn.toInt < 50) ∧ 1 = rx ∧ o9 = yLr ∧ xFl = yFl ∧ t9 = yTl ∧ c9 = yCs ∧ o9 = yCo ∧ .ref (j9 + 50) = yCa ∧ xOl = yOl ∧ xKn + 1 = yKn ∧ k9 = yKi ∧ a9 = yAm ∧ p9 = yPl ∧ g9 = yGo ∧ upd xKe ((xOl + xKn) - (xOl + xKn) / 50 * 50).toNatClampNeg (nI b9) = yKe) ∨ ((c9.toInt = 0 ∧ 50 ≤ xKn.toInt) ∧ 1 = rx ∧ o9 = yLr ∧ xFl = yFl ∧ t9 = yTl ∧ c9 = yCs ∧ o9 = yCo ∧ .ref (j9 + 50) = yCa ∧ (xOl + 1) - (xOl + 1) / 50 * 50 = yOl ∧ xKn = yKn ∧ k9 = yKi ∧ a9 = yAm ∧ p9 = yPl ∧ g9 = yGo ∧ upd xKe ((xOl + xKn) - (xOl + xKn) / 50 * 50).toNatClampNeg (nI b9) = yKe))) := by
  rcases aa with aa | aa | aa | aa | aa | aa | aa | aa | aa
  · exact Or.inl (aa)
  · exact Or.inr (Or.inl (aa))
  · obtain ⟨m9, l8, c8, k8, a8, p8, o9, t9, c9, l9, k9, a9, p9, q0, q1, q2, q3, q4, q5, q6, aa⟩ := aa
    exact Or.inr (Or.inr (Or.inl (⟨m9, l8, c8, k8, a8, p8, o9, t9, c9, l9, k9, a9, p9, q0, q1, q2, q3, q4, q5, q6, Or.inl (aa)⟩)))
  · obtain ⟨m9, l8, c8, k8, a8, p8, o9, t9, c9, l9, k9, a9, p9, q0, q1, q2, q3, q4, q5, q6, aa⟩ := aa
    exact Or.inr (Or.inr (Or.inl (⟨m9, l8, c8, k8, a8, p8, o9, t9, c9, l9, k9, a9, p9, q0, q1, q2, q3, q4, q5, q6, Or.inr (Or.inl (aa))⟩)))
  · obtain ⟨m9, l8, c8, k8, a8, p8, o9, t9, c9, l9, k9, a9, p9, q0, q1, q2, q3, q4, q5, q6, aa⟩ := aa
    exact Or.inr (Or.inr (Or.inl (⟨m9, l8, c8, k8, a8, p8, o9, t9, c9, l9, k9, a9, p9, q0, q1, q2, q3, q4, q5, q6, Or.inr (Or.inr (aa))⟩)))
  · obtain ⟨x9, j9, b9, e9, g9, l7, c7, k7, a7, p7, m9, l8, c8, k8, a8, p8, o9, t9, c9, l9, k9, a9, p9, q0, q1, q2, q3, q4, q5, q6, q7, q8, q9, aa⟩ := aa
    exact Or.inr (Or.inr (Or.inr (⟨x9, j9, b9, e9, g9, l7, c7, k7, a7, p7, m9, l8, c8, k8, a8, p8, o9, t9, c9, l9, k9, a9, p9, q0, q1, q2, q3, q4, q5, q6, q7, q8, q9, Or.inl (aa)⟩)))
  · obtain ⟨x9, j9, b9, e9, g9, l7, c7, k7, a7, p7, m9, l8, c8, k8, a8, p8, o9, t9, c9, l9, k9, a9, p9, q0, q1, q2, q3, q4, q5, q6, q7, q8, q9, aa⟩ := aa
    exact Or.inr (Or.inr (Or.inr (⟨x9, j9, b9, e9, g9, l7, c7, k7, a7, p7, m9, l8, c8, k8, a8, p8, o9, t9, c9, l9, k9, a9, p9, q0, q1, q2, q3, q4, q5, q6, q7, q8, q9, Or.inr (Or.inl (aa))⟩)))
  · obtain ⟨x9, j9, b9, e9, g9, l7, c7, k7, a7, p7, m9, l8, c8, k8, a8, p8, o9, t9, c9, l9, k9, a9, p9, q0, q1, q2, q3, q4, q5, q6, q7, q8, q9, aa⟩ := aa
    exact Or.inr (Or.inr (Or.inr (⟨x9, j9, b9, e9, g9, l7, c7, k7, a7, p7, m9, l8, c8, k8, a8, p8, o9, t9, c9, l9, k9, a9, p9, q0, q1, q2, q3, q4, q5, q6, q7, q8, q9, Or.inr (Or.inr (Or.inl (aa)))⟩)))
  · obtain ⟨x9, j9, b9, e9, g9, l7, c7, k7, a7, p7, m9, l8, c8, k8, a8, p8, o9, t9, c9, l9, k9, a9, p9, q0, q1, q2, q3, q4, q5, q6, q7, q8, q9, aa⟩ := aa
    exact Or.inr (Or.inr (Or.inr (⟨x9, j9, b9, e9, g9, l7, c7, k7, a7, p7, m9, l8, c8, k8, a8, p8, o9, t9, c9, l9, k9, a9, p9, q0, q1, q2, q3, q4, q5, q6, q7, q8, q9, Or.inr (Or.inr (Or.inr (aa)))⟩)))
set_option maxRecDepth 100000 in
set_option maxHeartbeats 4000000 in
theorem cm_call {mPa : Nat → Int32} {mMn : Int32} {mOt : Nat → Int32} {mNa : Nat → Int32} {mRe : Nat → Int32} {mMa : Nat → Int32} {mMy : Nat → Int32} {mPm : Nat → Int32} {mFy : Nat → Int32} {mFa : Nat → Int32} {mFr : Nat → Int32} {mFo : Nat → Int32} {mRt : Nat → Int32} {mRm : Nat → Int32} {mTn : Int32} {mTt : Nat → Int32} {mTi : Nat → Int32} {mPl : Nat → Int32} {mVn : Int32} {mVr : Nat → Int32} {mVf : Nat → Int32} {mVc : Nat → Int32} {mAr : Nat → Int32} {mLr : Int32} {mTc : Nat → Int32} {mTr : Int32} {mFl : Int32} {mFt : Nat → Int32} {mFm : Int32} {mFp : Int32} {mSc : Int32} {mMp : Int32} {mEn : Int32} {mGo : Nat → Int32} {nTn : Int32} {nTt : Nat → Int32} {nTi : Nat → Int32} {nPl : Nat → Int32} {nLr : Int32} {nTc : Nat → Int32} {nTr : Int32} {nFl : Int32} {nFt : Nat → Int32} {nFm : Int32} {nFp : Int32} {nSc : Int32} {nMp : Int32} {nEn : Int32} {nGo : Nat → Int32} {v : Int32} {rm : Int32} (aa : ((¬ (0 ≤ v.toInt ∧ v.toInt < mVn.toInt)) ∧ (-1) = rm ∧ mTn = nTn ∧ mTt = nTt ∧ mTi = nTi ∧ mPl = nPl ∧ mLr = nLr ∧ mTc = nTc ∧ mTr = nTr ∧ mFl = nFl ∧ mFt = nFt ∧ mFm = nFm ∧ mFp = nFp ∧ mSc = nSc ∧ mMp = nMp ∧ mEn = nEn ∧ mGo = nGo) ∨ (((0 ≤ v.toInt ∧ v.toInt < mVn.toInt)) ∧ (¬ agM mPa mTt mAr mFa mFy mTn (mVf v.toNatClampNeg) 0) ∧ (-1) = rm ∧ mTn = nTn ∧ mTt = nTt ∧ mTi = nTi ∧ mPl = nPl ∧ mLr = nLr ∧ mTc = nTc ∧ mTr = nTr ∧ mFl = nFl ∧ mFt = nFt ∧ mFm = nFm ∧ mFp = nFp ∧ mSc = nSc ∧ mMp = nMp ∧ mEn = nEn ∧ mGo = nGo) ∨ (∃ (s9 : Int32) (f9 : Nat → Int32) (m9 : Int32) (q9 : Int32) (p9 : Int32) (rn : Int32) (wh : Int32) (cm : Int32) (g9 : Nat → Int32) (n8 : Int32) (e8 : Int32) (t8 : Nat → Int32) (i8 : Nat → Int32) (l8 : Nat → Int32) (w9 : Int32) (n9 : Int32) (e9 : Int32) (t9 : Nat → Int32) (i9 : Nat → Int32) (l9 : Nat → Int32), ((0 ≤ v.toInt ∧ v.toInt < mVn.toInt)) ∧ (agM mPa mTt mAr mFa mFy mTn (mVf v.toNatClampNeg) 0) ∧ (coM mPa mOt mNa mRe mMy mPm mMa mFa mFy mFr mAr mMn (mFo (mVr v.toNatClampNeg).toNatClampNeg) (mRt (mVr v.toNatClampNeg).toNatClampNeg) (mRm (mVr v.toNatClampNeg).toNatClampNeg) (mVf v.toNatClampNeg) (mVc v.toNatClampNeg) mGo mTn (mTt, mTi, mPl) rn wh cm (g9, n8, e8, t8, i8, l8)) ∧ ((w9, n9, e9, t9, i9, l9) = fnF (mFr (mVf v.toNatClampNeg).toNatClampNeg) wh cm (n8, e8, t8, i8, l8)) ∧ ((0 ≤ n9.toInt ∧ n9.toInt ≤ 60) ∧ mTn.toInt ≤ n9.toInt) ∧ (e9.toInt = -2) ∧ e9 = rm ∧ mTn = nTn ∧ t9 = nTt ∧ i9 = nTi ∧ l9 = nPl ∧ mLr = nLr ∧ mTc = nTc ∧ mTr = nTr ∧ mFl + 0 = nFl ∧ f9 = nFt ∧ m9 = nFm ∧ q9 = nFp ∧ s9 = nSc ∧ p9 = nMp ∧ e9 = nEn ∧ g9 = nGo) ∨ (∃ (s9 : Int32) (f9 : Nat → Int32) (m9 : Int32) (q9 : Int32) (p9 : Int32) (rn : Int32) (wh : Int32) (cm : Int32) (g9 : Nat → Int32) (n8 : Int32) (e8 : Int32) (t8 : Nat → Int32) (i8 : Nat → Int32) (l8 : Nat → Int32) (w9 : Int32) (n9 : Int32) (e9 : Int32) (t9 : Nat → Int32) (i9 : Nat → Int32) (l9 : Nat → Int32), ((0 ≤ v.toInt ∧ v.toInt < mVn.toInt)) ∧ (agM mPa mTt mAr mFa mFy mTn (mVf v.toNatClampNeg) 0) ∧ (coM mPa mOt mNa mRe mMy mPm mMa mFa mFy mFr mAr mMn (mFo (mVr v.toNatClampNeg).toNatClampNeg) (mRt (mVr v.toNatClampNeg).toNatClampNeg) (mRm (mVr v.toNatClampNeg).toNatClampNeg) (mVf v.toNatClampNeg) (mVc v.toNatClampNeg) mGo mTn (mTt, mTi, mPl) rn wh cm (g9, n8, e8, t8, i8, l8)) ∧ ((w9, n9, e9, t9, i9, l9) = fnF (mFr (mVf v.toNatClampNeg).toNatClampNeg) wh cm (n8, e8, t8, i8, l8)) ∧ ((0 ≤ n9.toInt ∧ n9.toInt ≤ 60) ∧ mTn.toInt ≤ n9.toInt) ∧ (e9.toInt ≠ 0 ∧ e9.toInt ≠ -2) ∧ e9 = rm ∧ mTn = nTn ∧ t9 = nTt ∧ i9 = nTi ∧ l9 = nPl ∧ mLr = nLr ∧ mTc = nTc ∧ mTr = nTr ∧ mFl + 1 = nFl ∧ f9 = nFt ∧ m9 = nFm ∧ q9 = nFp ∧ s9 = nSc ∧ p9 = nMp ∧ e9 = nEn ∧ g9 = nGo) ∨ (∃ (s9 : Int32) (f9 : Nat → Int32) (m9 : Int32) (q9 : Int32) (p9 : Int32) (rn : Int32) (wh : Int32) (cm : Int32) (g9 : Nat → Int32) (n8 : Int32) (e8 : Int32) (t8 : Nat → Int32) (i8 : Nat → Int32) (l8 : Nat → Int32) (w9 : Int32) (n9 : Int32) (e9 : Int32) (t9 : Nat → Int32) (i9 : Nat → Int32) (l9 : Nat → Int32), ((0 ≤ v.toInt ∧ v.toInt < mVn.toInt)) ∧ (agM mPa mTt mAr mFa mFy mTn (mVf v.toNatClampNeg) 0) ∧ (coM mPa mOt mNa mRe mMy mPm mMa mFa mFy mFr mAr mMn (mFo (mVr v.toNatClampNeg).toNatClampNeg) (mRt (mVr v.toNatClampNeg).toNatClampNeg) (mRm (mVr v.toNatClampNeg).toNatClampNeg) (mVf v.toNatClampNeg) (mVc v.toNatClampNeg) mGo mTn (mTt, mTi, mPl) rn wh cm (g9, n8, e8, t8, i8, l8)) ∧ ((w9, n9, e9, t9, i9, l9) = fnF (mFr (mVf v.toNatClampNeg).toNatClampNeg) wh cm (n8, e8, t8, i8, l8)) ∧ ((0 ≤ n9.toInt ∧ n9.toInt ≤ 60) ∧ mTn.toInt ≤ n9.toInt) ∧ (e9.toInt = 0 ∧ rn.toInt = -4) ∧ 1 = rm ∧ n9 = nTn ∧ t9 = nTt ∧ i9 = nTi ∧ l9 = nPl ∧ w9 = nLr ∧ mTc = nTc ∧ mTr = nTr ∧ mFl = nFl ∧ f9 = nFt ∧ m9 = nFm ∧ q9 = nFp ∧ s9 = nSc ∧ p9 = nMp ∧ e9 = nEn ∧ g9 = nGo) ∨ (∃ (s9 : Int32) (f9 : Nat → Int32) (m9 : Int32) (q9 : Int32) (p9 : Int32) (rn : Int32) (wh : Int32) (cm : Int32) (g9 : Nat → Int32) (n8 : Int32) (e8 : Int32) (t8 : Nat → Int32) (i8 : Nat → Int32) (l8 : Nat → Int32) (w9 : Int32) (n9 : Int32) (e9 : Int32) (t9 : Nat → Int32) (i9 : Nat → Int32) (l9 : Nat → Int32), ((0 ≤ v.toInt ∧ v.toInt < mVn.toInt)) ∧ (agM mPa mTt mAr mFa mFy mTn (mVf v.toNatClampNeg) 0) ∧ (coM mPa mOt mNa mRe mMy mPm mMa mFa mFy mFr mAr mMn (mFo (mVr v.toNatClampNeg).toNatClampNeg) (mRt (mVr v.toNatClampNeg).toNatClampNeg) (mRm (mVr v.toNatClampNeg).toNatClampNeg) (mVf v.toNatClampNeg) (mVc v.toNatClampNeg) mGo mTn (mTt, mTi, mPl) rn wh cm (g9, n8, e8, t8, i8, l8)) ∧ ((w9, n9, e9, t9, i9, l9) = fnF (mFr (mVf v.toNatClampNeg).toNatClampNeg) wh cm (n8, e8, t8, i8, l8)) ∧ ((0 ≤ n9.toInt ∧ n9.toInt ≤ 60) ∧ mTn.toInt ≤ n9.toInt) ∧ ((e9.toInt = 0 ∧ rn.toInt ≠ -4) ∧ mTr.toInt = 50) ∧ 1 = rm ∧ n9 = nTn ∧ t9 = nTt ∧ i9 = nTi ∧ l9 = nPl ∧ w9 = nLr ∧ upd (shT mTc) (mTr - 1).toNatClampNeg rn = nTc ∧ mTr - 1 + 1 = nTr ∧ mFl = nFl ∧ f9 = nFt ∧ m9 = nFm ∧ q9 = nFp ∧ s9 = nSc ∧ p9 = nMp ∧ e9 = nEn ∧ g9 = nGo) ∨ (∃ (s9 : Int32) (f9 : Nat → Int32) (m9 : Int32) (q9 : Int32) (p9 : Int32) (rn : Int32) (wh : Int32) (cm : Int32) (g9 : Nat → Int32) (n8 : Int32) (e8 : Int32) (t8 : Nat → Int32) (i8 : Nat → Int32) (l8 : Nat → Int32) (w9 : Int32) (n9 : Int32) (e9 : Int32) (t9 : Nat → Int32) (i9 : Nat → Int32) (l9 : Nat → Int32), ((0 ≤ v.toInt ∧ v.toInt < mVn.toInt)) ∧ (agM mPa mTt mAr mFa mFy mTn (mVf v.toNatClampNeg) 0) ∧ (coM mPa mOt mNa mRe mMy mPm mMa mFa mFy mFr mAr mMn (mFo (mVr v.toNatClampNeg).toNatClampNeg) (mRt (mVr v.toNatClampNeg).toNatClampNeg) (mRm (mVr v.toNatClampNeg).toNatClampNeg) (mVf v.toNatClampNeg) (mVc v.toNatClampNeg) mGo mTn (mTt, mTi, mPl) rn wh cm (g9, n8, e8, t8, i8, l8)) ∧ ((w9, n9, e9, t9, i9, l9) = fnF (mFr (mVf v.toNatClampNeg).toNatClampNeg) wh cm (n8, e8, t8, i8, l8)) ∧ ((0 ≤ n9.toInt ∧ n9.toInt ≤ 60) ∧ mTn.toInt ≤ n9.toInt) ∧ ((e9.toInt = 0 ∧ rn.toInt ≠ -4) ∧ mTr.toInt < 50) ∧ 1 = rm ∧ n9 = nTn ∧ t9 = nTt ∧ i9 = nTi ∧ l9 = nPl ∧ w9 = nLr ∧ upd mTc mTr.toNatClampNeg rn = nTc ∧ mTr + 1 = nTr ∧ mFl = nFl ∧ f9 = nFt ∧ m9 = nFm ∧ q9 = nFp ∧ s9 = nSc ∧ p9 = nMp ∧ e9 = nEn ∧ g9 = nGo)) : ((¬ (0 ≤ v.toInt ∧ v.toInt < mVn.toInt)) ∧ (-1) = rm ∧ mTn = nTn ∧ mTt = nTt ∧ mTi = nTi ∧ mPl = nPl ∧ mLr = nLr ∧ mTc = nTc ∧ mTr = nTr ∧ mFl = nFl ∧ mFt = nFt ∧ mFm = nFm ∧ mFp = nFp ∧ mSc = nSc ∧ mMp = nMp ∧ mEn = nEn ∧ mGo = nGo) ∨ (((0 ≤ v.toInt ∧ v.toInt < mVn.toInt)) ∧ (¬ agM mPa mTt mAr mFa mFy mTn (mVf v.toNatClampNeg) 0) ∧ (-1) = rm ∧ mTn = nTn ∧ mTt = nTt ∧ mTi = nTi ∧ mPl = nPl ∧ mLr = nLr ∧ mTc = nTc ∧ mTr = nTr ∧ mFl = nFl ∧ mFt = nFt ∧ mFm = nFm ∧ mFp = nFp ∧ mSc = nSc ∧ mMp = nMp ∧ mEn = nEn ∧ mGo = nGo) ∨ (∃ (s9 : Int32) (f9 : Nat → Int32) (m9 : Int32) (q9 : Int32) (p9 : Int32) (rn : Int32) (wh : Int32) (cm : Int32) (g9 : Nat → Int32) (n8 : Int32) (e8 : Int32) (t8 : Nat → Int32) (i8 : Nat → Int32) (l8 : Nat → Int32) (w9 : Int32) (n9 : Int32) (e9 : Int32) (t9 : Nat → Int32) (i9 : Nat → Int32) (l9 : Nat → Int32), ((0 ≤ v.toInt ∧ v.toInt < mVn.toInt)) ∧ (agM mPa mTt mAr mFa mFy mTn (mVf v.toNatClampNeg) 0) ∧ (coM mPa mOt mNa mRe mMy mPm mMa mFa mFy mFr mAr mMn (mFo (mVr v.toNatClampNeg).toNatClampNeg) (mRt (mVr v.toNatClampNeg).toNatClampNeg) (mRm (mVr v.toNatClampNeg).toNatClampNeg) (mVf v.toNatClampNeg) (mVc v.toNatClampNeg) mGo mTn (mTt, mTi, mPl) rn wh cm (g9, n8, e8, t8, i8, l8)) ∧ ((w9, n9, e9, t9, i9, l9) = fnF (mFr (mVf v.toNatClampNeg).toNatClampNeg) wh cm (n8, e8, t8, i8, l8)) ∧ ((0 ≤ n9.toInt ∧ n9.toInt ≤ 60) ∧ mTn.toInt ≤ n9.toInt) ∧ (((e9.toInt = -2) ∧ e9 = rm ∧ mTn = nTn ∧ t9 = nTt ∧ i9 = nTi ∧ l9 = nPl ∧ mLr = nLr ∧ mTc = nTc ∧ mTr = nTr ∧ mFl + 0 = nFl ∧ f9 = nFt ∧ m9 = nFm ∧ q9 = nFp ∧ s9 = nSc ∧ p9 = nMp ∧ e9 = nEn ∧ g9 = nGo) ∨ ((e9.toInt ≠ 0 ∧ e9.toInt ≠ -2) ∧ e9 = rm ∧ mTn = nTn ∧ t9 = nTt ∧ i9 = nTi ∧ l9 = nPl ∧ mLr = nLr ∧ mTc = nTc ∧ mTr = nTr ∧ mFl + 1 = nFl ∧ f9 = nFt ∧ m9 = nFm ∧ q9 = nFp ∧ s9 = nSc ∧ p9 = nMp ∧ e9 = nEn ∧ g9 = nGo) ∨ ((e9.toInt = 0 ∧ rn.toInt = -4) ∧ 1 = rm ∧ n9 = nTn ∧ t9 = nTt ∧ i9 = nTi ∧ l9 = nPl ∧ w9 = nLr ∧ mTc = nTc ∧ mTr = nTr ∧ mFl = nFl ∧ f9 = nFt ∧ m9 = nFm ∧ q9 = nFp ∧ s9 = nSc ∧ p9 = nMp ∧ e9 = nEn ∧ g9 = nGo) ∨ (((e9.toInt = 0 ∧ rn.toInt ≠ -4) ∧ mTr.toInt = 50) ∧ 1 = rm ∧ n9 = nTn ∧ t9 = nTt ∧ i9 = nTi ∧ l9 = nPl ∧ w9 = nLr ∧ upd (shT mTc) (mTr - 1).toNatClampNeg rn = nTc ∧ mTr - 1 + 1 = nTr ∧ mFl = nFl ∧ f9 = nFt ∧ m9 = nFm ∧ q9 = nFp ∧ s9 = nSc ∧ p9 = nMp ∧ e9 = nEn ∧ g9 = nGo) ∨ (((e9.toInt = 0 ∧ rn.toInt ≠ -4) ∧ mTr.toInt < 50) ∧ 1 = rm ∧ n9 = nTn ∧ t9 = nTt ∧ i9 = nTi ∧ l9 = nPl ∧ w9 = nLr ∧ upd mTc mTr.toNatClampNeg rn = nTc ∧ mTr + 1 = nTr ∧ mFl = nFl ∧ f9 = nFt ∧ m9 = nFm ∧ q9 = nFp ∧ s9 = nSc ∧ p9 = nMp ∧ e9 = nEn ∧ g9 = nGo))) := by
  rcases aa with aa | aa | aa | aa | aa | aa | aa
  · exact Or.inl (aa)
  · exact Or.inr (Or.inl (aa))
  · obtain ⟨s9, f9, m9, q9, p9, rn, wh, cm, g9, n8, e8, t8, i8, l8, w9, n9, e9, t9, i9, l9, q0, q1, q2, q3, q4, aa⟩ := aa
    exact Or.inr (Or.inr (⟨s9, f9, m9, q9, p9, rn, wh, cm, g9, n8, e8, t8, i8, l8, w9, n9, e9, t9, i9, l9, q0, q1, q2, q3, q4, Or.inl (aa)⟩))
  · obtain ⟨s9, f9, m9, q9, p9, rn, wh, cm, g9, n8, e8, t8, i8, l8, w9, n9, e9, t9, i9, l9, q0, q1, q2, q3, q4, aa⟩ := aa
    exact Or.inr (Or.inr (⟨s9, f9, m9, q9, p9, rn, wh, cm, g9, n8, e8, t8, i8, l8, w9, n9, e9, t9, i9, l9, q0, q1, q2, q3, q4, Or.inr (Or.inl (aa))⟩))
  · obtain ⟨s9, f9, m9, q9, p9, rn, wh, cm, g9, n8, e8, t8, i8, l8, w9, n9, e9, t9, i9, l9, q0, q1, q2, q3, q4, aa⟩ := aa
    exact Or.inr (Or.inr (⟨s9, f9, m9, q9, p9, rn, wh, cm, g9, n8, e8, t8, i8, l8, w9, n9, e9, t9, i9, l9, q0, q1, q2, q3, q4, Or.inr (Or.inr (Or.inl (aa)))⟩))
  · obtain ⟨s9, f9, m9, q9, p9, rn, wh, cm, g9, n8, e8, t8, i8, l8, w9, n9, e9, t9, i9, l9, q0, q1, q2, q3, q4, aa⟩ := aa
    exact Or.inr (Or.inr (⟨s9, f9, m9, q9, p9, rn, wh, cm, g9, n8, e8, t8, i8, l8, w9, n9, e9, t9, i9, l9, q0, q1, q2, q3, q4, Or.inr (Or.inr (Or.inr (Or.inl (aa))))⟩))
  · obtain ⟨s9, f9, m9, q9, p9, rn, wh, cm, g9, n8, e8, t8, i8, l8, w9, n9, e9, t9, i9, l9, q0, q1, q2, q3, q4, aa⟩ := aa
    exact Or.inr (Or.inr (⟨s9, f9, m9, q9, p9, rn, wh, cm, g9, n8, e8, t8, i8, l8, w9, n9, e9, t9, i9, l9, q0, q1, q2, q3, q4, Or.inr (Or.inr (Or.inr (Or.inr (aa))))⟩))
theorem vr_new {xUp xPa mPa mOt mNa mRe mMa mMy mPm mFy mFa mFr mFo mRt mRm : Nat → Int32} {mTy mMn r f : Int32} {xHa xNm : Nat → Int64} {xSt xAb xVa : Int64} {f1 p1 f2 p2 : Int32} {T U : Int64} {o1 o2 : Option Nat} {b9 : Value} {s9 z9 : Int32} (hR : mmR xUp xPa mPa mTy mOt mNa mRe mMa mMy mPm mMn xHa xNm xSt xAb xVa) (hF : fcR mTy mFy mFa mFr f) (hf : rfR mTy (mFo r.toNatClampNeg) (mRt r.toNatClampNeg) (mRm r.toNatClampNeg)) (h : fiX xUp xPa mRe mMa mMy mPm xSt xAb xHa xNm mTy mMn (mFy f.toNatClampNeg).toNatClampNeg (cutF mFy mFa f.toNatClampNeg) (mFo r.toNatClampNeg) (mRt r.toNatClampNeg) (rnF mFo mRm r.toNatClampNeg) (mFr f.toNatClampNeg) f1 T p1 o1 f2 U p2 o2 b9 s9 z9) (h0 : 0 ≤ z9.toInt) : vrR mPa mOt mNa mRe mMy mPm mMa mFa mFy mFr mMn mFo mRt mRm r f s9 (ipX b9 p1 p2) (wcX mRe (mFo r.toNatClampNeg) (mRt r.toNatClampNeg) (meO b9 o1 o2)) (meO b9 o1 o2) := by
  obtain ⟨sc, mp, k1, k2⟩ := fi_x hR hF hf h
  obtain ⟨e1, e2, e3⟩ := k2 h0
  rw [e1] at k1
  refine ⟨mp, z9, k1, e2, ?_⟩
  rcases e3 with ⟨a1, a2⟩ | ⟨c, a1, a2, a3, a4⟩
  · refine Or.inl ⟨a1, a2, ?_⟩
    rcases fi_by h h0 with ⟨_, _, q⟩ | ⟨q1, _, ⟨c, q⟩, _⟩ | ⟨q1, _, ⟨c, q⟩, _⟩
    · exact q.symm
    · exfalso
      rw [q1] at a1
      have a5 : o1 = none := a1
      rw [q] at a5
      cases a5
    · exfalso
      rw [q1] at a1
      have a5 : o2 = none := a1
      rw [q] at a5
      cases a5
  · refine Or.inr ⟨c, a1, a2, a3, ?_⟩
    unfold ipX
    rw [← a4]
    by_cases q : mp.toInt = 3
    · rw [if_pos q]; exact ⟨fun _ => q, fun _ => by decide⟩
    · rw [if_neg q]; exact ⟨fun z => absurd (by decide) z, fun z => absurd z q⟩
theorem vr_put {mPa mOt mNa mRe mMa mMy mPm mFy mFa mFr mFo mRt mRm mVr mVf dVb dVp dVo : Nat → Int32} {dVm : Nat → Option Nat} {mMn mVn r f bs ip co : Int32} {om : Option Nat} (hn : 0 ≤ mVn.toInt ∧ mVn.toInt ≤ 30) (h : ∀ v : Nat, (v : Int) < mVn.toInt → vrR mPa mOt mNa mRe mMy mPm mMa mFa mFy mFr mMn mFo mRt mRm (mVr v) (mVf v) (dVb v) (dVp v) (dVo v) (dVm v)) (k : vrR mPa mOt mNa mRe mMy mPm mMa mFa mFy mFr mMn mFo mRt mRm r f bs ip co om) : ∀ v : Nat, (v : Int) < (mVn + 1).toInt → vrR mPa mOt mNa mRe mMy mPm mMa mFa mFy mFr mMn mFo mRt mRm (upd mVr mVn.toNatClampNeg r v) (upd mVf mVn.toNatClampNeg f v) (upd dVb mVn.toNatClampNeg bs v) (upd dVp mVn.toNatClampNeg ip v) (upd dVo mVn.toNatClampNeg co v) (va_up dVm mVn.toNatClampNeg om v) := fun v q => by
  have e : (mVn + 1).toInt = mVn.toInt + 1 := iAdd rfl (by decide) (by omega) (by omega)
  have hx := xN hn.1
  by_cases ei : v = mVn.toNatClampNeg
  · rw [ei, updS, updS, updS, updS, updS, va_s]; exact k
  · rw [updN ei, updN ei, updN ei, updN ei, updN ei, va_n ei]; exact h v (by omega)
theorem any_m {ty x : Int32} (h1 : ty.toInt ≤ 9) (h0 : 0 ≤ ty.toInt) (h : anyT ty x) : anyT (ty + 1) x := by
  have e : (ty + 1).toInt = ty.toInt + 1 := iAdd rfl (by decide) (by omega) (by omega)
  unfold anyT at h ⊢
  omega
theorem kd_m {ty x : Int32} (h1 : ty.toInt ≤ 9) (h0 : 0 ≤ ty.toInt) (h : kdT ty x) : kdT (ty + 1) x := by
  have e : (ty + 1).toInt = ty.toInt + 1 := iAdd rfl (by decide) (by omega) (by omega)
  rcases h with h | h
  · exact Or.inl (by omega)
  · exact Or.inr ⟨h.1, any_m h1 h0 h.2⟩
theorem rf_m {ty fo t w : Int32} (h1 : ty.toInt ≤ 9) (h0 : 0 ≤ ty.toInt) (h : rfR ty fo t w) : rfR (ty + 1) fo t w := by
  have e : (ty + 1).toInt = ty.toInt + 1 := iAdd rfl (by decide) (by omega) (by omega)
  obtain ⟨g1, g2, g3, g4, g5⟩ := h
  exact ⟨g1, fun q => by have := g2 q; omega, fun q => by have := g3 q; omega, g4, g5⟩
theorem ri_type {xSt : Int64} {xAb : Int64} {xVa : Int64} {xD1 : Value} {xD2 : Value} {xOl : Int32} {xPa : Nat → Int32} {xUp : Nat → Int32} {xAl : Nat → Option Nat} {xHa : Nat → Int64} {xNm : Nat → Int64} {xKe : Nat → Int32} {xFa : Nat → Option Nat} {xRe : Nat → Option Nat} {xVl : Nat → Option Nat} {mTy : Int32} {mPa : Nat → Int32} {mTo : Nat → Int32} {mTm : Int32} {mMn : Int32} {mOt : Nat → Int32} {mNa : Nat → Int32} {mRe : Nat → Int32} {mMa : Nat → Int32} {mMy : Nat → Int32} {mPm : Nat → Int32} {mFn : Int32} {mFy : Nat → Int32} {mFa : Nat → Int32} {mFr : Nat → Int32} {mRn : Int32} {mFo : Nat → Int32} {mRt : Nat → Int32} {mRm : Nat → Int32} {mTn : Int32} {mTt : Nat → Int32} {mTi : Nat → Int32} {mPl : Nat → Int32} {mVn : Int32} {mVr : Nat → Int32} {mVf : Nat → Int32} {mVc : Nat → Int32} {mAr : Nat → Int32} {mLr : Int32} {mTc : Nat → Int32} {mTr : Int32} {mFl : Int32} {dyn : pm_H} {t : Int32} (hm : mIv mTy mPa mTo mTm mMn mOt mNa mRe mMa mMy mPm mFn mFy mFa mFr mRn mFo mRt mRm mTn mTt mTi mVn mVr mVf mVc mTr) (hn : mIv (mTy + 1) (upd mPa mTy.toNatClampNeg t) mTo mTm mMn mOt mNa mRe mMa mMy mPm mFn mFy mFa mFr mRn mFo mRt mRm mTn mTt mTi mVn mVr mVf mVc mTr) (h : rIv mTm mFn mRn mVn mLr mFl mTy mMn xSt xAb xVa xD1 xD2 mTn xOl mTr xPa xUp xAl xHa xNm mTt mTi mPl xKe mTo xFa xRe xVl mAr mTy mPa mTo mTm mMn mOt mNa mRe mMa mMy mPm mFn mFy mFa mFr mRn mFo mRt mRm mTn mTt mTi mPl mVn mVr mVf mVc mAr mLr mTc mTr mFl dyn) (ht : 0 ≤ t.toInt ∧ t.toInt < mTy.toInt) (h9 : mTy.toInt < 10) : rIv mTm mFn mRn mVn mLr mFl (mTy + 1) mMn xSt xAb xVa xD1 xD2 mTn xOl mTr (upd xPa mTy.toNatClampNeg t) (upd (upd xUp mTy.toNatClampNeg ((1 <<< (mTy &&& 31)) ||| xUp t.toNatClampNeg)) (20 + mTy).toNatClampNeg ((1 <<< ((20 + mTy) &&& 31)) ||| (upd xUp mTy.toNatClampNeg ((1 <<< (mTy &&& 31)) ||| xUp t.toNatClampNeg)) (20 + t).toNatClampNeg)) xAl (vp_updL xHa mTy.toNatClampNeg ((xHa t.toNatClampNeg) &&& ((xNm 6) ^^^ (-1)))) xNm mTt mTi mPl xKe mTo xFa xRe xVl mAr (mTy + 1) (upd mPa mTy.toNatClampNeg t) mTo mTm mMn mOt mNa mRe mMa mMy mPm mFn mFy mFa mFr mRn mFo mRt mRm mTn mTt mTi mPl mVn mVr mVf mVc mAr mLr mTc mTr mFl dyn := by
  have hty := hm.ity
  have e : (mTy + 1).toInt = mTy.toInt + 1 := iAdd rfl (by decide) (by omega) (by omega)
  have hx := xN (x := mTy) (by omega)
  obtain ⟨hU, hd, hP, hS, hX, hK, hB, hH, hN, hSt, hAb, hVa⟩ := id h.r_mm
  obtain ⟨dVb, dVp, dVo, dVm, h1, h2⟩ := h.r_vl
  have hmm : mmR (upd (upd xUp mTy.toNatClampNeg ((1 <<< (mTy &&& 31)) ||| xUp t.toNatClampNeg)) (20 + mTy).toNatClampNeg ((1 <<< ((20 + mTy) &&& 31)) ||| (upd xUp mTy.toNatClampNeg ((1 <<< (mTy &&& 31)) ||| xUp t.toNatClampNeg)) (20 + t).toNatClampNeg)) (upd xPa mTy.toNatClampNeg t) (upd mPa mTy.toNatClampNeg t) (mTy + 1) mOt mNa mRe mMa mMy mPm mMn (vp_updL xHa mTy.toNatClampNeg ((xHa t.toNatClampNeg) &&& ((xNm 6) ^^^ (-1)))) xNm xSt xAb xVa := by
    refine ⟨up_t hU hd hn.ipa (by omega) ht, hn.ipa, ?_, ⟨by omega, hS.2.1, hS.2.2.1, hS.2.2.2.1, fun i => pl_m (by omega) (by omega) (hS.2.2.2.2.1 i), hS.2.2.2.2.2⟩, ?_, hK, hB, ty_x hd hn.ipa (by omega) ht hS.2.1 hX hN hH, hN, hSt, hAb, hVa⟩
    · intro k q1 q2
      by_cases ek : k = mTy.toNatClampNeg
      · rw [ek, updS, updS]; exact ⟨rfl, by omega, by omega⟩
      · rw [updN ek, updN ek]
        have := hP k q1 (by omega)
        exact ⟨this.1, this.2.1, by omega⟩
    · intro j q
      obtain ⟨⟨k1, k2, k3⟩, k4⟩ := hX j q
      exact ⟨⟨k1, any_m (by omega) (by omega) k2, by omega⟩, k4⟩
  exact rIv.mk (r_tn := rfl) (r_tc := h.r_tc) (r_to := h.r_to) (r_mn := h.r_mn) (r_fc := h.r_fc) (r_rc := h.r_rc) (r_tl := h.r_tl) (r_ki := h.r_ki) (r_am := h.r_am) (r_pl := h.r_pl) (r_vc := h.r_vc) (r_ar := h.r_ar) (r_lr := h.r_lr) (r_fl := h.r_fl) (r_kn := h.r_kn) (r_mm := hmm) (r_ot := h.r_ot) (r_al := h.r_al) (r_fa := h.r_fa) (r_fr := (fun i q => any_m (by omega) (by omega) (h.r_fr i q))) (r_re := h.r_re) (r_rf := (fun i q => rf_m (by omega) (by omega) (h.r_rf i q))) (r_kd := (fun i q1 q2 => kd_m (by omega) (by omega) (h.r_kd i q1 q2))) (r_vl := ⟨dVb, dVp, dVo, dVm, h1, fun v q => vr_t hm h9 q (h2 v q)⟩) (r_ol := h.r_ol) (r_ke := h.r_ke) (r_d1 := h.r_d1) (r_d2 := h.r_d2)
theorem mh_x {up pa to : Nat → Int32} {ty tm t w r a : Int32} (hU : upR up pa ty) (hto : ∀ j : Nat, plT ty (to j)) (htm : 0 ≤ tm.toInt ∧ tm.toInt ≤ 3) : (mhX up ty t w r a ∧ maX up to tm t w a) ↔ ((0 ≤ t.toInt ∧ t.toInt < ty.toInt ∧ t.toInt ≠ 1) ∧ (0 ≤ w.toInt ∧ w.toInt ≤ 6) ∧ ((((0 ≤ r.toInt ∧ r.toInt < ty.toInt) ∨ r.toInt = 10 ∨ (20 ≤ r.toInt ∧ r.toInt < 20 + ty.toInt) ∨ r.toInt = 30)) ∨ r.toInt = 11) ∧ (0 ≤ a.toInt ∧ a.toInt ≤ 7) ∧ ((a &&& 4).toInt = 0 ∨ (tm.toInt ≠ 0 ∧ 20 ≤ (to (tm - 1).toNatClampNeg).toInt)) ∧ (a &&& 3).toInt ≠ 3 ∧ ((a &&& 2).toInt = 0 ∨ t.toInt ≠ 0) ∧ (w.toInt ≠ 6 ∨ ((a &&& 3).toInt = 0 ∧ r.toInt = t.toInt))) := by
  unfold mhX maX ltX xRw
  rw [hU.1 r, hU.1 (to (tm - 1).toNatClampNeg)]
  have hany : anyT ty r ↔ ((((0 ≤ r.toInt ∧ r.toInt < ty.toInt) ∨ r.toInt = 10 ∨ (20 ≤ r.toInt ∧ r.toInt < 20 + ty.toInt) ∨ r.toInt = 30)) ∨ r.toInt = 11) := by unfold anyT; exact Iff.rfl
  rw [hany]
  constructor
  · rintro ⟨⟨⟨k1, k2⟩, k3, k4, k5, k6⟩, k7, k8, k9⟩
    obtain ⟨m1, m2⟩ := mk3 k5
    refine ⟨by omega, k3, k4, k5, ?_, ?_, ?_, ?_⟩
    · by_cases q : (a &&& 4).toInt = 0
      · exact Or.inl q
      · have := k7 q
        exact Or.inr ⟨by omega, this.2.2⟩
    · intro q
      have := m1.mp q
      exact this.1 (k9 this.2).1
    · by_cases q : (a &&& 2).toInt = 0
      · exact Or.inl q
      · exact Or.inr (k9 q).2
    · by_cases q : w.toInt = 6
      · exact Or.inr ⟨m2.mpr (k8 q), by omega⟩
      · exact Or.inl q
  · rintro ⟨k1, k2, k3, k4, k5, k6, k7, k8⟩
    obtain ⟨m1, m2⟩ := mk3 k4
    refine ⟨⟨⟨by omega, by omega⟩, k2, k3, k4, by omega⟩, fun q => ?_, fun q => ?_, fun q => ?_⟩
    · rcases k5 with z | z
      · exact absurd z q
      · exact ⟨by omega, pl_any (hto _), z.2⟩
    · rcases k8 with z | z
      · exact absurd q z
      · exact m2.mp z.1
    · refine ⟨Classical.byContradiction (fun z => k6 (m1.mpr ⟨z, q⟩)), ?_⟩
      rcases k7 with z | z
      · exact absurd z q
      · exact z
theorem ri_ap {xSt : Int64} {xAb : Int64} {xVa : Int64} {xD1 : Value} {xD2 : Value} {xOl : Int32} {xPa : Nat → Int32} {xUp : Nat → Int32} {xAl : Nat → Option Nat} {xHa : Nat → Int64} {xNm : Nat → Int64} {xKe : Nat → Int32} {xFa : Nat → Option Nat} {xRe : Nat → Option Nat} {xVl : Nat → Option Nat} {mTy : Int32} {mPa : Nat → Int32} {mTo : Nat → Int32} {mTm : Int32} {mMn : Int32} {mOt : Nat → Int32} {mNa : Nat → Int32} {mRe : Nat → Int32} {mMa : Nat → Int32} {mMy : Nat → Int32} {mPm : Nat → Int32} {mFn : Int32} {mFy : Nat → Int32} {mFa : Nat → Int32} {mFr : Nat → Int32} {mRn : Int32} {mFo : Nat → Int32} {mRt : Nat → Int32} {mRm : Nat → Int32} {mTn : Int32} {mTt : Nat → Int32} {mTi : Nat → Int32} {mPl : Nat → Int32} {mVn : Int32} {mVr : Nat → Int32} {mVf : Nat → Int32} {mVc : Nat → Int32} {mAr : Nat → Int32} {mLr : Int32} {mTc : Nat → Int32} {mTr : Int32} {mFl : Int32} {dyn : pm_H} {e9 : pm_H} (h : rIv mTm mFn mRn mVn mLr mFl mTy mMn xSt xAb xVa xD1 xD2 mTn xOl mTr xPa xUp xAl xHa xNm mTt mTi mPl xKe mTo xFa xRe xVl mAr mTy mPa mTo mTm mMn mOt mNa mRe mMa mMy mPm mFn mFy mFa mFr mRn mFo mRt mRm mTn mTt mTi mPl mVn mVr mVf mVc mAr mLr mTc mTr mFl dyn) : rIv mTm mFn mRn mVn mLr mFl mTy mMn xSt xAb xVa xD1 xD2 mTn xOl mTr xPa xUp xAl xHa xNm mTt mTi mPl xKe mTo xFa xRe xVl mAr mTy mPa mTo mTm mMn mOt mNa mRe mMa mMy mPm mFn mFy mFa mFr mRn mFo mRt mRm mTn mTt mTi mPl mVn mVr mVf mVc mAr mLr mTc mTr mFl (dyn ++ e9) := by
  obtain ⟨dVb, dVp, dVo, dVm, h1, h2⟩ := h.r_vl
  obtain ⟨o1, k1, b1⟩ := h.r_d1
  obtain ⟨o2, k2, b2⟩ := h.r_d2
  exact rIv.mk (r_tn := h.r_tn) (r_tc := h.r_tc) (r_to := h.r_to) (r_mn := h.r_mn) (r_fc := h.r_fc) (r_rc := h.r_rc) (r_tl := h.r_tl) (r_ki := h.r_ki) (r_am := h.r_am) (r_pl := h.r_pl) (r_vc := h.r_vc) (r_ar := h.r_ar) (r_lr := h.r_lr) (r_fl := h.r_fl) (r_kn := h.r_kn) (r_mm := h.r_mm) (r_ot := h.r_ot) (r_al := alF_ap e9 h.r_al) (r_fa := faF_ap e9 h.r_fa) (r_fr := h.r_fr) (r_re := reF_ap e9 h.r_re) (r_rf := h.r_rf) (r_kd := h.r_kd) (r_vl := ⟨dVb, dVp, dVo, dVm, vlF_ap e9 h1, h2⟩) (r_ol := h.r_ol) (r_ke := h.r_ke) (r_d1 := ⟨o1, fdF_ap e9 k1, b1⟩) (r_d2 := ⟨o2, fdF_ap e9 k2, b2⟩)
theorem fd_c {dOt dNa dRe dMa dMy dPm to : Nat → Int32} {t w r a mn tm : Int32} {dyn : pm_H} {v : Value} {o : Option Nat} (hn : 0 ≤ mn.toInt) (hb : ∀ b : Nat, o = some b → (b : Int) < mn.toInt) (h : fdF dOt dNa dRe dMa dMy dPm dyn v o) : fdF (upd dOt mn.toNatClampNeg t) (upd dNa mn.toNatClampNeg w) (upd dRe mn.toNatClampNeg r) (upd dMa mn.toNatClampNeg a) (upd dMy mn.toNatClampNeg tm) (cpF dPm to mn tm) dyn v o := by
  have hx := xN hn
  rcases h with h | ⟨j, b, q1, q2, q3⟩
  · exact Or.inl h
  · exact Or.inr ⟨j, b, q1, q2, mbF_c (by have := hb b q1; omega) q3⟩
theorem ri_member {xSt : Int64} {xAb : Int64} {xVa : Int64} {xD1 : Value} {xD2 : Value} {xOl : Int32} {xPa : Nat → Int32} {xUp : Nat → Int32} {xAl : Nat → Option Nat} {xHa : Nat → Int64} {xNm : Nat → Int64} {xKe : Nat → Int32} {xFa : Nat → Option Nat} {xRe : Nat → Option Nat} {xVl : Nat → Option Nat} {mTy : Int32} {mPa : Nat → Int32} {mTo : Nat → Int32} {mTm : Int32} {mMn : Int32} {mOt : Nat → Int32} {mNa : Nat → Int32} {mRe : Nat → Int32} {mMa : Nat → Int32} {mMy : Nat → Int32} {mPm : Nat → Int32} {mFn : Int32} {mFy : Nat → Int32} {mFa : Nat → Int32} {mFr : Nat → Int32} {mRn : Int32} {mFo : Nat → Int32} {mRt : Nat → Int32} {mRm : Nat → Int32} {mTn : Int32} {mTt : Nat → Int32} {mTi : Nat → Int32} {mPl : Nat → Int32} {mVn : Int32} {mVr : Nat → Int32} {mVf : Nat → Int32} {mVc : Nat → Int32} {mAr : Nat → Int32} {mLr : Int32} {mTc : Nat → Int32} {mTr : Int32} {mFl : Int32} {dyn : pm_H} {t w r a : Int32} {l9 : Nat → Option Nat} {h9 : Nat → Int64} {e9 : pm_H} (hm : mIv mTy mPa mTo mTm mMn mOt mNa mRe mMa mMy mPm mFn mFy mFa mFr mRn mFo mRt mRm mTn mTt mTi mVn mVr mVf mVc mTr) (hn : mIv mTy mPa mTo 0 (mMn + 1) (upd mOt mMn.toNatClampNeg t) (upd mNa mMn.toNatClampNeg w) (upd mRe mMn.toNatClampNeg r) (upd mMa mMn.toNatClampNeg a) (upd mMy mMn.toNatClampNeg mTm) (cpF mPm mTo mMn mTm) mFn mFy mFa mFr mRn mFo mRt mRm mTn mTt mTi mVn mVr mVf mVc mTr) (h : rIv mTm mFn mRn mVn mLr mFl mTy mMn xSt xAb xVa xD1 xD2 mTn xOl mTr xPa xUp xAl xHa xNm mTt mTi mPl xKe mTo xFa xRe xVl mAr mTy mPa mTo mTm mMn mOt mNa mRe mMa mMy mPm mFn mFy mFa mFr mRn mFo mRt mRm mTn mTt mTi mPl mVn mVr mVf mVc mAr mLr mTc mTr mFl dyn) (hc : mhX xUp mTy t w r a ∧ maX xUp mTo mTm t w a) (hz : ¬ (0 < mTn.toInt ∨ 0 < mVn.toInt)) (hcl : ∀ j : Nat, (j : Int) < mMn.toInt → ¬ clM mPa mOt mNa mRe mMa mMy mPm mTo mTm (nI j) t w r a) (h40 : mMn.toInt < 40) (hal : alF (upd mOt mMn.toNatClampNeg t) (upd mNa mMn.toNatClampNeg w) (upd mRe mMn.toNatClampNeg r) (upd mMa mMn.toNatClampNeg a) (upd mMy mMn.toNatClampNeg mTm) (cpF mPm mTo mMn mTm) (mMn + 1) l9 (dyn ++ e9)) (hA : adX xUp (upd mOt mMn.toNatClampNeg t) (upd mNa mMn.toNatClampNeg w) (upd mMy mMn.toNatClampNeg mTm) (cpF mPm mTo mMn mTm) mMn.toNatClampNeg mTy 0 xHa h9) : rIv 0 mFn mRn mVn mLr mFl mTy (mMn + 1) (stX xSt ((upd mMa mMn.toNatClampNeg a) (mMn.toNatClampNeg) &&& 1) (mMn.toNatClampNeg)) (stX xAb ((upd mMa mMn.toNatClampNeg a) (mMn.toNatClampNeg) &&& 2) (mMn.toNatClampNeg)) (stX xVa ((upd mMa mMn.toNatClampNeg a) (mMn.toNatClampNeg) &&& 4) (mMn.toNatClampNeg)) xD1 xD2 mTn xOl mTr xPa xUp l9 h9 (vp_updL xNm ((upd mNa mMn.toNatClampNeg w) (mMn.toNatClampNeg)).toNatClampNeg ((xNm ((upd mNa mMn.toNatClampNeg w) (mMn.toNatClampNeg)).toNatClampNeg) ||| (1 <<< ((nI (mMn.toNatClampNeg)).toInt64 &&& 63)))) mTt mTi mPl xKe mTo xFa xRe xVl mAr mTy mPa mTo 0 (mMn + 1) (upd mOt mMn.toNatClampNeg t) (upd mNa mMn.toNatClampNeg w) (upd mRe mMn.toNatClampNeg r) (upd mMa mMn.toNatClampNeg a) (upd mMy mMn.toNatClampNeg mTm) (cpF mPm mTo mMn mTm) mFn mFy mFa mFr mRn mFo mRt mRm mTn mTt mTi mPl mVn mVr mVf mVc mAr mLr mTc mTr mFl (dyn ++ e9) := by
  have hmn := hm.imn
  have hx := xN hmn.1
  have e : (mMn + 1).toInt = mMn.toInt + 1 := iAdd rfl (by decide) (by omega) (by omega)
  obtain ⟨o1, k1, b1⟩ := h.r_d1
  obtain ⟨o2, k2, b2⟩ := h.r_d2
  have hc1 := hc.1
  have hc2 := hc.2
  unfold mhX at hc1
  have hmm := mm_new (a := a) h.r_mm hm.ito hm.itm h40 hc1.1.1 hc1.2.1 ((h.r_mm.1.1 r).mp hc1.2.2.1) hc2.2.1 hcl hn.imy hn.ivr hn.imb hn.ipm (fun j q => (hn.imo j q).2.2) hA
  exact rIv.mk (r_tn := h.r_tn) (r_tc := rfl) (r_to := h.r_to) (r_mn := rfl) (r_fc := h.r_fc) (r_rc := h.r_rc) (r_tl := h.r_tl) (r_ki := h.r_ki) (r_am := h.r_am) (r_pl := h.r_pl) (r_vc := h.r_vc) (r_ar := h.r_ar) (r_lr := h.r_lr) (r_fl := h.r_fl) (r_kn := h.r_kn) (r_mm := hmm) (r_ot := (fun j q => by
    by_cases ej : j = mMn.toNatClampNeg
    · rw [ej, updS]; exact hc1.1.2
    · rw [updN ej]; exact h.r_ot j (by omega))) (r_al := hal) (r_fa := faF_ap e9 h.r_fa) (r_fr := h.r_fr) (r_re := reF_ap e9 h.r_re) (r_rf := h.r_rf) (r_kd := h.r_kd) (r_vl := ⟨fun _ => 0, fun _ => 0, fun _ => 0, fun _ => none, fun i q => absurd q (by omega), fun i q => absurd q (by omega)⟩) (r_ol := h.r_ol) (r_ke := h.r_ke) (r_d1 := ⟨o1, fdF_ap e9 (fd_c hmn.1 b1 k1), fun b q => by have := b1 b q; omega⟩) (r_d2 := ⟨o2, fdF_ap e9 (fd_c hmn.1 b2 k2), fun b q => by have := b2 b q; omega⟩)
end
section
set_option maxRecDepth 100000 in
set_option maxHeartbeats 4000000 in
theorem pr_untell {xTc : Int32} {xFc : Int32} {xRc : Int32} {xVc : Int32} {xLr : Int32} {xFl : Int32} {xTn : Int32} {xMn : Int32} {xSt : Int64} {xAb : Int64} {xVa : Int64} {xD1 : Value} {xD2 : Value} {xTl : Int32} {xOl : Int32} {xKn : Int32} {xPa : Nat → Int32} {xUp : Nat → Int32} {xAl : Nat → Option Nat} {xHa : Nat → Int64} {xNm : Nat → Int64} {xKi : Nat → Int32} {xAm : Nat → Int32} {xPl : Nat → Int32} {xKe : Nat → Int32} {xTo : Nat → Int32} {xFa : Nat → Option Nat} {xRe : Nat → Option Nat} {xVl : Nat → Option Nat} {xAr : Nat → Int32} {mTy : Int32} {mPa : Nat → Int32} {mTo : Nat → Int32} {mTm : Int32} {mMn : Int32} {mOt : Nat → Int32} {mNa : Nat → Int32} {mRe : Nat → Int32} {mMa : Nat → Int32} {mMy : Nat → Int32} {mPm : Nat → Int32} {mFn : Int32} {mFy : Nat → Int32} {mFa : Nat → Int32} {mFr : Nat → Int32} {mRn : Int32} {mFo : Nat → Int32} {mRt : Nat → Int32} {mRm : Nat → Int32} {mTn : Int32} {mTt : Nat → Int32} {mTi : Nat → Int32} {mPl : Nat → Int32} {mVn : Int32} {mVr : Nat → Int32} {mVf : Nat → Int32} {mVc : Nat → Int32} {mAr : Nat → Int32} {mLr : Int32} {mTc : Nat → Int32} {mTr : Int32} {mFl : Int32} {dyn : pm_H} {yTc : Int32} {nTm : Int32} {rx : Int32} {rm : Int32}  (hm : mIv mTy mPa mTo mTm mMn mOt mNa mRe mMa mMy mPm mFn mFy mFa mFr mRn mFo mRt mRm mTn mTt mTi mVn mVr mVf mVc mTr) (hn : mIv mTy mPa mTo nTm mMn mOt mNa mRe mMa mMy mPm mFn mFy mFa mFr mRn mFo mRt mRm mTn mTt mTi mVn mVr mVf mVc mTr) (h : rIv xTc xFc xRc xVc xLr xFl xTn xMn xSt xAb xVa xD1 xD2 xTl xOl xKn xPa xUp xAl xHa xNm xKi xAm xPl xKe xTo xFa xRe xVl xAr mTy mPa mTo mTm mMn mOt mNa mRe mMa mMy mPm mFn mFy mFa mFr mRn mFo mRt mRm mTn mTt mTi mPl mVn mVr mVf mVc mAr mLr mTc mTr mFl dyn) (aa : (xTc = rx ∧ 0 = yTc)) (bb : (mTm = rm ∧ 0 = nTm)) : rIv yTc xFc xRc xVc xLr xFl xTn xMn xSt xAb xVa xD1 xD2 xTl xOl xKn xPa xUp xAl xHa xNm xKi xAm xPl xKe xTo xFa xRe xVl xAr mTy mPa mTo nTm mMn mOt mNa mRe mMa mMy mPm mFn mFy mFa mFr mRn mFo mRt mRm mTn mTt mTi mPl mVn mVr mVf mVc mAr mLr mTc mTr mFl dyn ∧ rx = rm := by
  have e_r_tn := h.r_tn
  have e_r_tc := h.r_tc
  have e_r_to := h.r_to
  have e_r_mn := h.r_mn
  have e_r_fc := h.r_fc
  have e_r_rc := h.r_rc
  have e_r_tl := h.r_tl
  have e_r_ki := h.r_ki
  have e_r_am := h.r_am
  have e_r_pl := h.r_pl
  have e_r_vc := h.r_vc
  have e_r_ar := h.r_ar
  have e_r_lr := h.r_lr
  have e_r_fl := h.r_fl
  have e_r_kn := h.r_kn
  subst e_r_tn; subst e_r_tc; subst e_r_to; subst e_r_mn; subst e_r_fc; subst e_r_rc; subst e_r_tl; subst e_r_ki; subst e_r_am; subst e_r_pl; subst e_r_vc; subst e_r_ar; subst e_r_lr; subst e_r_fl; subst e_r_kn
  rcases bb with bb
  · obtain ⟨ff0, ff1⟩ := bb
    rcases aa with aa
    · obtain ⟨ee0, ee1⟩ := aa
      subst ee0 ee1 ff0 ff1
      exact ⟨(rIv.mk (r_tn := h.r_tn) (r_tc := rfl) (r_to := h.r_to) (r_mn := h.r_mn) (r_fc := h.r_fc) (r_rc := h.r_rc) (r_tl := h.r_tl) (r_ki := h.r_ki) (r_am := h.r_am) (r_pl := h.r_pl) (r_vc := h.r_vc) (r_ar := h.r_ar) (r_lr := h.r_lr) (r_fl := h.r_fl) (r_kn := h.r_kn) (r_mm := h.r_mm) (r_ot := h.r_ot) (r_al := h.r_al) (r_fa := h.r_fa) (r_fr := h.r_fr) (r_re := h.r_re) (r_rf := h.r_rf) (r_kd := h.r_kd) (r_vl := h.r_vl) (r_ol := h.r_ol) (r_ke := h.r_ke) (r_d1 := h.r_d1) (r_d2 := h.r_d2)), rfl⟩
set_option maxRecDepth 100000 in
set_option maxHeartbeats 4000000 in
theorem pr_tell {xTc : Int32} {xFc : Int32} {xRc : Int32} {xVc : Int32} {xLr : Int32} {xFl : Int32} {xTn : Int32} {xMn : Int32} {xSt : Int64} {xAb : Int64} {xVa : Int64} {xD1 : Value} {xD2 : Value} {xTl : Int32} {xOl : Int32} {xKn : Int32} {xPa : Nat → Int32} {xUp : Nat → Int32} {xAl : Nat → Option Nat} {xHa : Nat → Int64} {xNm : Nat → Int64} {xKi : Nat → Int32} {xAm : Nat → Int32} {xPl : Nat → Int32} {xKe : Nat → Int32} {xTo : Nat → Int32} {xFa : Nat → Option Nat} {xRe : Nat → Option Nat} {xVl : Nat → Option Nat} {xAr : Nat → Int32} {mTy : Int32} {mPa : Nat → Int32} {mTo : Nat → Int32} {mTm : Int32} {mMn : Int32} {mOt : Nat → Int32} {mNa : Nat → Int32} {mRe : Nat → Int32} {mMa : Nat → Int32} {mMy : Nat → Int32} {mPm : Nat → Int32} {mFn : Int32} {mFy : Nat → Int32} {mFa : Nat → Int32} {mFr : Nat → Int32} {mRn : Int32} {mFo : Nat → Int32} {mRt : Nat → Int32} {mRm : Nat → Int32} {mTn : Int32} {mTt : Nat → Int32} {mTi : Nat → Int32} {mPl : Nat → Int32} {mVn : Int32} {mVr : Nat → Int32} {mVf : Nat → Int32} {mVc : Nat → Int32} {mAr : Nat → Int32} {mLr : Int32} {mTc : Nat → Int32} {mTr : Int32} {mFl : Int32} {dyn : pm_H} {yTc : Int32} {yTo : Nat → Int32} {nTo : Nat → Int32} {nTm : Int32} {t : Int32} {rx : Int32} {rm : Int32}  (hm : mIv mTy mPa mTo mTm mMn mOt mNa mRe mMa mMy mPm mFn mFy mFa mFr mRn mFo mRt mRm mTn mTt mTi mVn mVr mVf mVc mTr) (hn : mIv mTy mPa nTo nTm mMn mOt mNa mRe mMa mMy mPm mFn mFy mFa mFr mRn mFo mRt mRm mTn mTt mTi mVn mVr mVf mVc mTr) (h : rIv xTc xFc xRc xVc xLr xFl xTn xMn xSt xAb xVa xD1 xD2 xTl xOl xKn xPa xUp xAl xHa xNm xKi xAm xPl xKe xTo xFa xRe xVl xAr mTy mPa mTo mTm mMn mOt mNa mRe mMa mMy mPm mFn mFy mFa mFr mRn mFo mRt mRm mTn mTt mTi mPl mVn mVr mVf mVc mAr mLr mTc mTr mFl dyn) (aa : ((¬ xPm xUp t) ∧ (-1) = rx ∧ xTc = yTc ∧ xTo = yTo) ∨ ((xPm xUp t) ∧ (3 ≤ xTc.toInt) ∧ (-2) = rx ∧ xTc = yTc ∧ xTo = yTo) ∨ ((xPm xUp t) ∧ (xTc.toInt < 3) ∧ (xTc + 1) = rx ∧ xTc + 1 = yTc ∧ upd xTo xTc.toNatClampNeg t = yTo)) (bb : ((¬ ((0 ≤ t.toInt ∧ t.toInt < mTy.toInt) ∨ t.toInt = 10 ∨ (20 ≤ t.toInt ∧ t.toInt < 20 + mTy.toInt) ∨ t.toInt = 30)) ∧ (-1) = rm ∧ mTo = nTo ∧ mTm = nTm) ∨ ((((0 ≤ t.toInt ∧ t.toInt < mTy.toInt) ∨ t.toInt = 10 ∨ (20 ≤ t.toInt ∧ t.toInt < 20 + mTy.toInt) ∨ t.toInt = 30) ∧ mTm.toInt = 3) ∧ (-2) = rm ∧ mTo = nTo ∧ mTm = nTm) ∨ ((((0 ≤ t.toInt ∧ t.toInt < mTy.toInt) ∨ t.toInt = 10 ∨ (20 ≤ t.toInt ∧ t.toInt < 20 + mTy.toInt) ∨ t.toInt = 30) ∧ mTm.toInt < 3) ∧ (mTm + 1) = rm ∧ upd mTo mTm.toNatClampNeg t = nTo ∧ mTm + 1 = nTm)) : rIv yTc xFc xRc xVc xLr xFl xTn xMn xSt xAb xVa xD1 xD2 xTl xOl xKn xPa xUp xAl xHa xNm xKi xAm xPl xKe yTo xFa xRe xVl xAr mTy mPa nTo nTm mMn mOt mNa mRe mMa mMy mPm mFn mFy mFa mFr mRn mFo mRt mRm mTn mTt mTi mPl mVn mVr mVf mVc mAr mLr mTc mTr mFl dyn ∧ rx = rm := by
  have e_r_tn := h.r_tn
  have e_r_tc := h.r_tc
  have e_r_to := h.r_to
  have e_r_mn := h.r_mn
  have e_r_fc := h.r_fc
  have e_r_rc := h.r_rc
  have e_r_tl := h.r_tl
  have e_r_ki := h.r_ki
  have e_r_am := h.r_am
  have e_r_pl := h.r_pl
  have e_r_vc := h.r_vc
  have e_r_ar := h.r_ar
  have e_r_lr := h.r_lr
  have e_r_fl := h.r_fl
  have e_r_kn := h.r_kn
  subst e_r_tn; subst e_r_tc; subst e_r_to; subst e_r_mn; subst e_r_fc; subst e_r_rc; subst e_r_tl; subst e_r_ki; subst e_r_am; subst e_r_pl; subst e_r_vc; subst e_r_ar; subst e_r_lr; subst e_r_fl; subst e_r_kn
  have w1 := hm.ity
  have w2 := hm.itm
  have w3 := hm.imn
  have w4 := hm.ifn
  have w5 := hm.irn
  have w6 := hm.itn
  have w7 := hm.ivn
  have w8 := hm.itr
  have hp : xPm xUp t ↔ ((0 ≤ t.toInt ∧ t.toInt < mTy.toInt) ∨ t.toInt = 10 ∨ (20 ≤ t.toInt ∧ t.toInt < 20 + mTy.toInt) ∨ t.toInt = 30) := by
    unfold xPm
    rw [h.r_mm.1.1 t]
    unfold anyT
    constructor <;> intro w <;> omega
  simp only [hp] at aa
  rcases bb with bb | bb | bb
  · obtain ⟨u0, ff0, ff1, ff2⟩ := bb
    rcases aa with aa | aa | aa
    · obtain ⟨q0, ee0, ee1, ee2⟩ := aa
      subst ee0 ee1 ee2 ff0 ff1 ff2
      exact ⟨h, rfl⟩
    · obtain ⟨q0, q1, ee0, ee1, ee2⟩ := aa
      subst ee0 ee1 ee2 ff0 ff1 ff2
      exfalso; omega
    · obtain ⟨q0, q1, ee0, ee1, ee2⟩ := aa
      subst ee0 ee1 ee2 ff0 ff1 ff2
      exfalso; omega
  · obtain ⟨u0, ff0, ff1, ff2⟩ := bb
    rcases aa with aa | aa | aa
    · obtain ⟨q0, ee0, ee1, ee2⟩ := aa
      subst ee0 ee1 ee2 ff0 ff1 ff2
      exfalso; omega
    · obtain ⟨q0, q1, ee0, ee1, ee2⟩ := aa
      subst ee0 ee1 ee2 ff0 ff1 ff2
      exact ⟨h, rfl⟩
    · obtain ⟨q0, q1, ee0, ee1, ee2⟩ := aa
      subst ee0 ee1 ee2 ff0 ff1 ff2
      exfalso; omega
  · obtain ⟨u0, ff0, ff1, ff2⟩ := bb
    rcases aa with aa | aa | aa
    · obtain ⟨q0, ee0, ee1, ee2⟩ := aa
      subst ee0 ee1 ee2 ff0 ff1 ff2
      exfalso; omega
    · obtain ⟨q0, q1, ee0, ee1, ee2⟩ := aa
      subst ee0 ee1 ee2 ff0 ff1 ff2
      exfalso; omega
    · obtain ⟨q0, q1, ee0, ee1, ee2⟩ := aa
      subst ee0 ee1 ee2 ff0 ff1 ff2
      exact ⟨(rIv.mk (r_tn := h.r_tn) (r_tc := rfl) (r_to := rfl) (r_mn := h.r_mn) (r_fc := h.r_fc) (r_rc := h.r_rc) (r_tl := h.r_tl) (r_ki := h.r_ki) (r_am := h.r_am) (r_pl := h.r_pl) (r_vc := h.r_vc) (r_ar := h.r_ar) (r_lr := h.r_lr) (r_fl := h.r_fl) (r_kn := h.r_kn) (r_mm := h.r_mm) (r_ot := h.r_ot) (r_al := h.r_al) (r_fa := h.r_fa) (r_fr := h.r_fr) (r_re := h.r_re) (r_rf := h.r_rf) (r_kd := h.r_kd) (r_vl := h.r_vl) (r_ol := h.r_ol) (r_ke := h.r_ke) (r_d1 := h.r_d1) (r_d2 := h.r_d2)), rfl⟩
set_option maxRecDepth 100000 in
set_option maxHeartbeats 4000000 in
theorem pr_arg {xTc : Int32} {xFc : Int32} {xRc : Int32} {xVc : Int32} {xLr : Int32} {xFl : Int32} {xTn : Int32} {xMn : Int32} {xSt : Int64} {xAb : Int64} {xVa : Int64} {xD1 : Value} {xD2 : Value} {xTl : Int32} {xOl : Int32} {xKn : Int32} {xPa : Nat → Int32} {xUp : Nat → Int32} {xAl : Nat → Option Nat} {xHa : Nat → Int64} {xNm : Nat → Int64} {xKi : Nat → Int32} {xAm : Nat → Int32} {xPl : Nat → Int32} {xKe : Nat → Int32} {xTo : Nat → Int32} {xFa : Nat → Option Nat} {xRe : Nat → Option Nat} {xVl : Nat → Option Nat} {xAr : Nat → Int32} {mTy : Int32} {mPa : Nat → Int32} {mTo : Nat → Int32} {mTm : Int32} {mMn : Int32} {mOt : Nat → Int32} {mNa : Nat → Int32} {mRe : Nat → Int32} {mMa : Nat → Int32} {mMy : Nat → Int32} {mPm : Nat → Int32} {mFn : Int32} {mFy : Nat → Int32} {mFa : Nat → Int32} {mFr : Nat → Int32} {mRn : Int32} {mFo : Nat → Int32} {mRt : Nat → Int32} {mRm : Nat → Int32} {mTn : Int32} {mTt : Nat → Int32} {mTi : Nat → Int32} {mPl : Nat → Int32} {mVn : Int32} {mVr : Nat → Int32} {mVf : Nat → Int32} {mVc : Nat → Int32} {mAr : Nat → Int32} {mLr : Int32} {mTc : Nat → Int32} {mTr : Int32} {mFl : Int32} {dyn : pm_H} {yAr : Nat → Int32} {nAr : Nat → Int32} {i : Int32} {v : Int32} {rx : Int32} {rm : Int32}  (hm : mIv mTy mPa mTo mTm mMn mOt mNa mRe mMa mMy mPm mFn mFy mFa mFr mRn mFo mRt mRm mTn mTt mTi mVn mVr mVf mVc mTr) (hn : mIv mTy mPa mTo mTm mMn mOt mNa mRe mMa mMy mPm mFn mFy mFa mFr mRn mFo mRt mRm mTn mTt mTi mVn mVr mVf mVc mTr) (h : rIv xTc xFc xRc xVc xLr xFl xTn xMn xSt xAb xVa xD1 xD2 xTl xOl xKn xPa xUp xAl xHa xNm xKi xAm xPl xKe xTo xFa xRe xVl xAr mTy mPa mTo mTm mMn mOt mNa mRe mMa mMy mPm mFn mFy mFa mFr mRn mFo mRt mRm mTn mTt mTi mPl mVn mVr mVf mVc mAr mLr mTc mTr mFl dyn) (aa : ((¬ (0 ≤ i.toInt ∧ i.toInt < 3)) ∧ (-1) = rx ∧ xAr = yAr) ∨ ((0 ≤ i.toInt ∧ i.toInt < 3) ∧ 1 = rx ∧ upd xAr i.toNatClampNeg v = yAr)) (bb : (((i.toInt < 0 ∨ 2 < i.toInt)) ∧ (-1) = rm ∧ mAr = nAr) ∨ ((0 ≤ i.toInt ∧ i.toInt ≤ 2) ∧ 1 = rm ∧ upd mAr i.toNatClampNeg v = nAr)) : rIv xTc xFc xRc xVc xLr xFl xTn xMn xSt xAb xVa xD1 xD2 xTl xOl xKn xPa xUp xAl xHa xNm xKi xAm xPl xKe xTo xFa xRe xVl yAr mTy mPa mTo mTm mMn mOt mNa mRe mMa mMy mPm mFn mFy mFa mFr mRn mFo mRt mRm mTn mTt mTi mPl mVn mVr mVf mVc nAr mLr mTc mTr mFl dyn ∧ rx = rm := by
  have e_r_tn := h.r_tn
  have e_r_tc := h.r_tc
  have e_r_to := h.r_to
  have e_r_mn := h.r_mn
  have e_r_fc := h.r_fc
  have e_r_rc := h.r_rc
  have e_r_tl := h.r_tl
  have e_r_ki := h.r_ki
  have e_r_am := h.r_am
  have e_r_pl := h.r_pl
  have e_r_vc := h.r_vc
  have e_r_ar := h.r_ar
  have e_r_lr := h.r_lr
  have e_r_fl := h.r_fl
  have e_r_kn := h.r_kn
  subst e_r_tn; subst e_r_tc; subst e_r_to; subst e_r_mn; subst e_r_fc; subst e_r_rc; subst e_r_tl; subst e_r_ki; subst e_r_am; subst e_r_pl; subst e_r_vc; subst e_r_ar; subst e_r_lr; subst e_r_fl; subst e_r_kn
  rcases bb with bb | bb
  · obtain ⟨u0, ff0, ff1⟩ := bb
    rcases aa with aa | aa
    · obtain ⟨q0, ee0, ee1⟩ := aa
      subst ee0 ee1 ff0 ff1
      exact ⟨h, rfl⟩
    · obtain ⟨q0, ee0, ee1⟩ := aa
      subst ee0 ee1 ff0 ff1
      exfalso; omega
  · obtain ⟨u0, ff0, ff1⟩ := bb
    rcases aa with aa | aa
    · obtain ⟨q0, ee0, ee1⟩ := aa
      subst ee0 ee1 ff0 ff1
      exfalso; omega
    · obtain ⟨q0, ee0, ee1⟩ := aa
      subst ee0 ee1 ff0 ff1
      exact ⟨(rIv.mk (r_tn := h.r_tn) (r_tc := h.r_tc) (r_to := h.r_to) (r_mn := h.r_mn) (r_fc := h.r_fc) (r_rc := h.r_rc) (r_tl := h.r_tl) (r_ki := h.r_ki) (r_am := h.r_am) (r_pl := h.r_pl) (r_vc := h.r_vc) (r_ar := rfl) (r_lr := h.r_lr) (r_fl := h.r_fl) (r_kn := h.r_kn) (r_mm := h.r_mm) (r_ot := h.r_ot) (r_al := h.r_al) (r_fa := h.r_fa) (r_fr := h.r_fr) (r_re := h.r_re) (r_rf := h.r_rf) (r_kd := h.r_kd) (r_vl := h.r_vl) (r_ol := h.r_ol) (r_ke := h.r_ke) (r_d1 := h.r_d1) (r_d2 := h.r_d2)), rfl⟩
set_option maxRecDepth 100000 in
set_option maxHeartbeats 4000000 in
theorem pr_result {xTc : Int32} {xFc : Int32} {xRc : Int32} {xVc : Int32} {xLr : Int32} {xFl : Int32} {xTn : Int32} {xMn : Int32} {xSt : Int64} {xAb : Int64} {xVa : Int64} {xD1 : Value} {xD2 : Value} {xTl : Int32} {xOl : Int32} {xKn : Int32} {xPa : Nat → Int32} {xUp : Nat → Int32} {xAl : Nat → Option Nat} {xHa : Nat → Int64} {xNm : Nat → Int64} {xKi : Nat → Int32} {xAm : Nat → Int32} {xPl : Nat → Int32} {xKe : Nat → Int32} {xTo : Nat → Int32} {xFa : Nat → Option Nat} {xRe : Nat → Option Nat} {xVl : Nat → Option Nat} {xAr : Nat → Int32} {mTy : Int32} {mPa : Nat → Int32} {mTo : Nat → Int32} {mTm : Int32} {mMn : Int32} {mOt : Nat → Int32} {mNa : Nat → Int32} {mRe : Nat → Int32} {mMa : Nat → Int32} {mMy : Nat → Int32} {mPm : Nat → Int32} {mFn : Int32} {mFy : Nat → Int32} {mFa : Nat → Int32} {mFr : Nat → Int32} {mRn : Int32} {mFo : Nat → Int32} {mRt : Nat → Int32} {mRm : Nat → Int32} {mTn : Int32} {mTt : Nat → Int32} {mTi : Nat → Int32} {mPl : Nat → Int32} {mVn : Int32} {mVr : Nat → Int32} {mVf : Nat → Int32} {mVc : Nat → Int32} {mAr : Nat → Int32} {mLr : Int32} {mTc : Nat → Int32} {mTr : Int32} {mFl : Int32} {dyn : pm_H} {rx : Int32} {rm : Int32}  (hm : mIv mTy mPa mTo mTm mMn mOt mNa mRe mMa mMy mPm mFn mFy mFa mFr mRn mFo mRt mRm mTn mTt mTi mVn mVr mVf mVc mTr) (hn : mIv mTy mPa mTo mTm mMn mOt mNa mRe mMa mMy mPm mFn mFy mFa mFr mRn mFo mRt mRm mTn mTt mTi mVn mVr mVf mVc mTr) (h : rIv xTc xFc xRc xVc xLr xFl xTn xMn xSt xAb xVa xD1 xD2 xTl xOl xKn xPa xUp xAl xHa xNm xKi xAm xPl xKe xTo xFa xRe xVl xAr mTy mPa mTo mTm mMn mOt mNa mRe mMa mMy mPm mFn mFy mFa mFr mRn mFo mRt mRm mTn mTt mTi mPl mVn mVr mVf mVc mAr mLr mTc mTr mFl dyn) (aa : (xLr = rx)) (bb : (mLr = rm)) : rIv xTc xFc xRc xVc xLr xFl xTn xMn xSt xAb xVa xD1 xD2 xTl xOl xKn xPa xUp xAl xHa xNm xKi xAm xPl xKe xTo xFa xRe xVl xAr mTy mPa mTo mTm mMn mOt mNa mRe mMa mMy mPm mFn mFy mFa mFr mRn mFo mRt mRm mTn mTt mTi mPl mVn mVr mVf mVc mAr mLr mTc mTr mFl dyn ∧ rx = rm := by
  have e_r_tn := h.r_tn
  have e_r_tc := h.r_tc
  have e_r_to := h.r_to
  have e_r_mn := h.r_mn
  have e_r_fc := h.r_fc
  have e_r_rc := h.r_rc
  have e_r_tl := h.r_tl
  have e_r_ki := h.r_ki
  have e_r_am := h.r_am
  have e_r_pl := h.r_pl
  have e_r_vc := h.r_vc
  have e_r_ar := h.r_ar
  have e_r_lr := h.r_lr
  have e_r_fl := h.r_fl
  have e_r_kn := h.r_kn
  subst e_r_tn; subst e_r_tc; subst e_r_to; subst e_r_mn; subst e_r_fc; subst e_r_rc; subst e_r_tl; subst e_r_ki; subst e_r_am; subst e_r_pl; subst e_r_vc; subst e_r_ar; subst e_r_lr; subst e_r_fl; subst e_r_kn
  rcases bb with bb
  · have ff0 := bb
    rcases aa with aa
    · have ee0 := aa
      subst ee0 ff0
      exact ⟨h, rfl⟩
set_option maxRecDepth 100000 in
set_option maxHeartbeats 4000000 in
theorem pr_count {xTc : Int32} {xFc : Int32} {xRc : Int32} {xVc : Int32} {xLr : Int32} {xFl : Int32} {xTn : Int32} {xMn : Int32} {xSt : Int64} {xAb : Int64} {xVa : Int64} {xD1 : Value} {xD2 : Value} {xTl : Int32} {xOl : Int32} {xKn : Int32} {xPa : Nat → Int32} {xUp : Nat → Int32} {xAl : Nat → Option Nat} {xHa : Nat → Int64} {xNm : Nat → Int64} {xKi : Nat → Int32} {xAm : Nat → Int32} {xPl : Nat → Int32} {xKe : Nat → Int32} {xTo : Nat → Int32} {xFa : Nat → Option Nat} {xRe : Nat → Option Nat} {xVl : Nat → Option Nat} {xAr : Nat → Int32} {mTy : Int32} {mPa : Nat → Int32} {mTo : Nat → Int32} {mTm : Int32} {mMn : Int32} {mOt : Nat → Int32} {mNa : Nat → Int32} {mRe : Nat → Int32} {mMa : Nat → Int32} {mMy : Nat → Int32} {mPm : Nat → Int32} {mFn : Int32} {mFy : Nat → Int32} {mFa : Nat → Int32} {mFr : Nat → Int32} {mRn : Int32} {mFo : Nat → Int32} {mRt : Nat → Int32} {mRm : Nat → Int32} {mTn : Int32} {mTt : Nat → Int32} {mTi : Nat → Int32} {mPl : Nat → Int32} {mVn : Int32} {mVr : Nat → Int32} {mVf : Nat → Int32} {mVc : Nat → Int32} {mAr : Nat → Int32} {mLr : Int32} {mTc : Nat → Int32} {mTr : Int32} {mFl : Int32} {dyn : pm_H} {wh : Int32} {rx : Int32} {rm : Int32}  (hm : mIv mTy mPa mTo mTm mMn mOt mNa mRe mMa mMy mPm mFn mFy mFa mFr mRn mFo mRt mRm mTn mTt mTi mVn mVr mVf mVc mTr) (hn : mIv mTy mPa mTo mTm mMn mOt mNa mRe mMa mMy mPm mFn mFy mFa mFr mRn mFo mRt mRm mTn mTt mTi mVn mVr mVf mVc mTr) (h : rIv xTc xFc xRc xVc xLr xFl xTn xMn xSt xAb xVa xD1 xD2 xTl xOl xKn xPa xUp xAl xHa xNm xKi xAm xPl xKe xTo xFa xRe xVl xAr mTy mPa mTo mTm mMn mOt mNa mRe mMa mMy mPm mFn mFy mFa mFr mRn mFo mRt mRm mTn mTt mTi mPl mVn mVr mVf mVc mAr mLr mTc mTr mFl dyn) (aa : ((wh.toInt = 0) ∧ xTn = rx) ∨ ((wh.toInt = 1) ∧ xMn = rx) ∨ ((wh.toInt = 2) ∧ xFc = rx) ∨ ((wh.toInt = 3) ∧ xRc = rx) ∨ ((wh.toInt = 4) ∧ xTl = rx) ∨ ((wh.toInt = 5) ∧ xVc = rx) ∨ ((wh.toInt = 6) ∧ xFl = rx) ∨ ((wh.toInt < 0 ∨ 6 < wh.toInt) ∧ (-1) = rx)) (bb : ((wh.toInt = 0) ∧ mTy = rm) ∨ ((wh.toInt = 1) ∧ mMn = rm) ∨ ((wh.toInt = 2) ∧ mFn = rm) ∨ ((wh.toInt = 3) ∧ mRn = rm) ∨ ((wh.toInt = 4) ∧ mTn = rm) ∨ ((wh.toInt = 5) ∧ mVn = rm) ∨ ((wh.toInt = 6) ∧ mFl = rm) ∨ (((wh.toInt < 0 ∨ 6 < wh.toInt)) ∧ (-1) = rm)) : rIv xTc xFc xRc xVc xLr xFl xTn xMn xSt xAb xVa xD1 xD2 xTl xOl xKn xPa xUp xAl xHa xNm xKi xAm xPl xKe xTo xFa xRe xVl xAr mTy mPa mTo mTm mMn mOt mNa mRe mMa mMy mPm mFn mFy mFa mFr mRn mFo mRt mRm mTn mTt mTi mPl mVn mVr mVf mVc mAr mLr mTc mTr mFl dyn ∧ rx = rm := by
  have e_r_tn := h.r_tn
  have e_r_tc := h.r_tc
  have e_r_to := h.r_to
  have e_r_mn := h.r_mn
  have e_r_fc := h.r_fc
  have e_r_rc := h.r_rc
  have e_r_tl := h.r_tl
  have e_r_ki := h.r_ki
  have e_r_am := h.r_am
  have e_r_pl := h.r_pl
  have e_r_vc := h.r_vc
  have e_r_ar := h.r_ar
  have e_r_lr := h.r_lr
  have e_r_fl := h.r_fl
  have e_r_kn := h.r_kn
  subst e_r_tn; subst e_r_tc; subst e_r_to; subst e_r_mn; subst e_r_fc; subst e_r_rc; subst e_r_tl; subst e_r_ki; subst e_r_am; subst e_r_pl; subst e_r_vc; subst e_r_ar; subst e_r_lr; subst e_r_fl; subst e_r_kn
  rcases bb with bb | bb | bb | bb | bb | bb | bb | bb
  · obtain ⟨u0, ff0⟩ := bb
    rcases aa with aa | aa | aa | aa | aa | aa | aa | aa
    · obtain ⟨q0, ee0⟩ := aa
      subst ee0 ff0
      exact ⟨h, rfl⟩
    · obtain ⟨q0, ee0⟩ := aa
      subst ee0 ff0
      exfalso; omega
    · obtain ⟨q0, ee0⟩ := aa
      subst ee0 ff0
      exfalso; omega
    · obtain ⟨q0, ee0⟩ := aa
      subst ee0 ff0
      exfalso; omega
    · obtain ⟨q0, ee0⟩ := aa
      subst ee0 ff0
      exfalso; omega
    · obtain ⟨q0, ee0⟩ := aa
      subst ee0 ff0
      exfalso; omega
    · obtain ⟨q0, ee0⟩ := aa
      subst ee0 ff0
      exfalso; omega
    · obtain ⟨q0, ee0⟩ := aa
      subst ee0 ff0
      exfalso; omega
  · obtain ⟨u0, ff0⟩ := bb
    rcases aa with aa | aa | aa | aa | aa | aa | aa | aa
    · obtain ⟨q0, ee0⟩ := aa
      subst ee0 ff0
      exfalso; omega
    · obtain ⟨q0, ee0⟩ := aa
      subst ee0 ff0
      exact ⟨h, rfl⟩
    · obtain ⟨q0, ee0⟩ := aa
      subst ee0 ff0
      exfalso; omega
    · obtain ⟨q0, ee0⟩ := aa
      subst ee0 ff0
      exfalso; omega
    · obtain ⟨q0, ee0⟩ := aa
      subst ee0 ff0
      exfalso; omega
    · obtain ⟨q0, ee0⟩ := aa
      subst ee0 ff0
      exfalso; omega
    · obtain ⟨q0, ee0⟩ := aa
      subst ee0 ff0
      exfalso; omega
    · obtain ⟨q0, ee0⟩ := aa
      subst ee0 ff0
      exfalso; omega
  · obtain ⟨u0, ff0⟩ := bb
    rcases aa with aa | aa | aa | aa | aa | aa | aa | aa
    · obtain ⟨q0, ee0⟩ := aa
      subst ee0 ff0
      exfalso; omega
    · obtain ⟨q0, ee0⟩ := aa
      subst ee0 ff0
      exfalso; omega
    · obtain ⟨q0, ee0⟩ := aa
      subst ee0 ff0
      exact ⟨h, rfl⟩
    · obtain ⟨q0, ee0⟩ := aa
      subst ee0 ff0
      exfalso; omega
    · obtain ⟨q0, ee0⟩ := aa
      subst ee0 ff0
      exfalso; omega
    · obtain ⟨q0, ee0⟩ := aa
      subst ee0 ff0
      exfalso; omega
    · obtain ⟨q0, ee0⟩ := aa
      subst ee0 ff0
      exfalso; omega
    · obtain ⟨q0, ee0⟩ := aa
      subst ee0 ff0
      exfalso; omega
  · obtain ⟨u0, ff0⟩ := bb
    rcases aa with aa | aa | aa | aa | aa | aa | aa | aa
    · obtain ⟨q0, ee0⟩ := aa
      subst ee0 ff0
      exfalso; omega
    · obtain ⟨q0, ee0⟩ := aa
      subst ee0 ff0
      exfalso; omega
    · obtain ⟨q0, ee0⟩ := aa
      subst ee0 ff0
      exfalso; omega
    · obtain ⟨q0, ee0⟩ := aa
      subst ee0 ff0
      exact ⟨h, rfl⟩
    · obtain ⟨q0, ee0⟩ := aa
      subst ee0 ff0
      exfalso; omega
    · obtain ⟨q0, ee0⟩ := aa
      subst ee0 ff0
      exfalso; omega
    · obtain ⟨q0, ee0⟩ := aa
      subst ee0 ff0
      exfalso; omega
    · obtain ⟨q0, ee0⟩ := aa
      subst ee0 ff0
      exfalso; omega
  · obtain ⟨u0, ff0⟩ := bb
    rcases aa with aa | aa | aa | aa | aa | aa | aa | aa
    · obtain ⟨q0, ee0⟩ := aa
      subst ee0 ff0
      exfalso; omega
    · obtain ⟨q0, ee0⟩ := aa
      subst ee0 ff0
      exfalso; omega
    · obtain ⟨q0, ee0⟩ := aa
      subst ee0 ff0
      exfalso; omega
    · obtain ⟨q0, ee0⟩ := aa
      subst ee0 ff0
      exfalso; omega
    · obtain ⟨q0, ee0⟩ := aa
      subst ee0 ff0
      exact ⟨h, rfl⟩
    · obtain ⟨q0, ee0⟩ := aa
      subst ee0 ff0
      exfalso; omega
    · obtain ⟨q0, ee0⟩ := aa
      subst ee0 ff0
      exfalso; omega
    · obtain ⟨q0, ee0⟩ := aa
      subst ee0 ff0
      exfalso; omega
  · obtain ⟨u0, ff0⟩ := bb
    rcases aa with aa | aa | aa | aa | aa | aa | aa | aa
    · obtain ⟨q0, ee0⟩ := aa
      subst ee0 ff0
      exfalso; omega
    · obtain ⟨q0, ee0⟩ := aa
      subst ee0 ff0
      exfalso; omega
    · obtain ⟨q0, ee0⟩ := aa
      subst ee0 ff0
      exfalso; omega
    · obtain ⟨q0, ee0⟩ := aa
      subst ee0 ff0
      exfalso; omega
    · obtain ⟨q0, ee0⟩ := aa
      subst ee0 ff0
      exfalso; omega
    · obtain ⟨q0, ee0⟩ := aa
      subst ee0 ff0
      exact ⟨h, rfl⟩
    · obtain ⟨q0, ee0⟩ := aa
      subst ee0 ff0
      exfalso; omega
    · obtain ⟨q0, ee0⟩ := aa
      subst ee0 ff0
      exfalso; omega
  · obtain ⟨u0, ff0⟩ := bb
    rcases aa with aa | aa | aa | aa | aa | aa | aa | aa
    · obtain ⟨q0, ee0⟩ := aa
      subst ee0 ff0
      exfalso; omega
    · obtain ⟨q0, ee0⟩ := aa
      subst ee0 ff0
      exfalso; omega
    · obtain ⟨q0, ee0⟩ := aa
      subst ee0 ff0
      exfalso; omega
    · obtain ⟨q0, ee0⟩ := aa
      subst ee0 ff0
      exfalso; omega
    · obtain ⟨q0, ee0⟩ := aa
      subst ee0 ff0
      exfalso; omega
    · obtain ⟨q0, ee0⟩ := aa
      subst ee0 ff0
      exfalso; omega
    · obtain ⟨q0, ee0⟩ := aa
      subst ee0 ff0
      exact ⟨h, rfl⟩
    · obtain ⟨q0, ee0⟩ := aa
      subst ee0 ff0
      exfalso; omega
  · obtain ⟨u0, ff0⟩ := bb
    rcases aa with aa | aa | aa | aa | aa | aa | aa | aa
    · obtain ⟨q0, ee0⟩ := aa
      subst ee0 ff0
      exfalso; omega
    · obtain ⟨q0, ee0⟩ := aa
      subst ee0 ff0
      exfalso; omega
    · obtain ⟨q0, ee0⟩ := aa
      subst ee0 ff0
      exfalso; omega
    · obtain ⟨q0, ee0⟩ := aa
      subst ee0 ff0
      exfalso; omega
    · obtain ⟨q0, ee0⟩ := aa
      subst ee0 ff0
      exfalso; omega
    · obtain ⟨q0, ee0⟩ := aa
      subst ee0 ff0
      exfalso; omega
    · obtain ⟨q0, ee0⟩ := aa
      subst ee0 ff0
      exfalso; omega
    · obtain ⟨q0, ee0⟩ := aa
      subst ee0 ff0
      exact ⟨h, rfl⟩
set_option maxRecDepth 100000 in
set_option maxHeartbeats 4000000 in
theorem pr_of {xTc : Int32} {xFc : Int32} {xRc : Int32} {xVc : Int32} {xLr : Int32} {xFl : Int32} {xTn : Int32} {xMn : Int32} {xSt : Int64} {xAb : Int64} {xVa : Int64} {xD1 : Value} {xD2 : Value} {xTl : Int32} {xOl : Int32} {xKn : Int32} {xPa : Nat → Int32} {xUp : Nat → Int32} {xAl : Nat → Option Nat} {xHa : Nat → Int64} {xNm : Nat → Int64} {xKi : Nat → Int32} {xAm : Nat → Int32} {xPl : Nat → Int32} {xKe : Nat → Int32} {xTo : Nat → Int32} {xFa : Nat → Option Nat} {xRe : Nat → Option Nat} {xVl : Nat → Option Nat} {xAr : Nat → Int32} {mTy : Int32} {mPa : Nat → Int32} {mTo : Nat → Int32} {mTm : Int32} {mMn : Int32} {mOt : Nat → Int32} {mNa : Nat → Int32} {mRe : Nat → Int32} {mMa : Nat → Int32} {mMy : Nat → Int32} {mPm : Nat → Int32} {mFn : Int32} {mFy : Nat → Int32} {mFa : Nat → Int32} {mFr : Nat → Int32} {mRn : Int32} {mFo : Nat → Int32} {mRt : Nat → Int32} {mRm : Nat → Int32} {mTn : Int32} {mTt : Nat → Int32} {mTi : Nat → Int32} {mPl : Nat → Int32} {mVn : Int32} {mVr : Nat → Int32} {mVf : Nat → Int32} {mVc : Nat → Int32} {mAr : Nat → Int32} {mLr : Int32} {mTc : Nat → Int32} {mTr : Int32} {mFl : Int32} {dyn : pm_H} {v : Int32} {wh : Int32} {rx : Int32} {rm : Int32}  (hm : mIv mTy mPa mTo mTm mMn mOt mNa mRe mMa mMy mPm mFn mFy mFa mFr mRn mFo mRt mRm mTn mTt mTi mVn mVr mVf mVc mTr) (hn : mIv mTy mPa mTo mTm mMn mOt mNa mRe mMa mMy mPm mFn mFy mFa mFr mRn mFo mRt mRm mTn mTt mTi mVn mVr mVf mVc mTr) (h : rIv xTc xFc xRc xVc xLr xFl xTn xMn xSt xAb xVa xD1 xD2 xTl xOl xKn xPa xUp xAl xHa xNm xKi xAm xPl xKe xTo xFa xRe xVl xAr mTy mPa mTo mTm mMn mOt mNa mRe mMa mMy mPm mFn mFy mFa mFr mRn mFo mRt mRm mTn mTt mTi mPl mVn mVr mVf mVc mAr mLr mTc mTr mFl dyn) (aa : ((¬ ((1 ≤ v.toInt ∧ v.toInt ≤ xTl.toInt) ∧ 0 ≤ wh.toInt ∧ wh.toInt ≤ 1)) ∧ (-1) = rx) ∨ ((((1 ≤ v.toInt ∧ v.toInt ≤ xTl.toInt) ∧ 0 ≤ wh.toInt ∧ wh.toInt ≤ 1) ∧ wh.toInt = 0) ∧ (xKi v.toNatClampNeg) = rx) ∨ ((((1 ≤ v.toInt ∧ v.toInt ≤ xTl.toInt) ∧ 0 ≤ wh.toInt ∧ wh.toInt ≤ 1) ∧ wh.toInt ≠ 0) ∧ (xAm v.toNatClampNeg) = rx)) (bb : (((v.toInt < 1 ∨ mTn.toInt < v.toInt ∨ wh.toInt < 0 ∨ 1 < wh.toInt)) ∧ (-1) = rm) ∨ (((1 ≤ v.toInt ∧ v.toInt ≤ mTn.toInt) ∧ wh.toInt = 0) ∧ (mTt v.toNatClampNeg) = rm) ∨ (((1 ≤ v.toInt ∧ v.toInt ≤ mTn.toInt) ∧ wh.toInt = 1) ∧ (mTi v.toNatClampNeg) = rm)) : rIv xTc xFc xRc xVc xLr xFl xTn xMn xSt xAb xVa xD1 xD2 xTl xOl xKn xPa xUp xAl xHa xNm xKi xAm xPl xKe xTo xFa xRe xVl xAr mTy mPa mTo mTm mMn mOt mNa mRe mMa mMy mPm mFn mFy mFa mFr mRn mFo mRt mRm mTn mTt mTi mPl mVn mVr mVf mVc mAr mLr mTc mTr mFl dyn ∧ rx = rm := by
  have e_r_tn := h.r_tn
  have e_r_tc := h.r_tc
  have e_r_to := h.r_to
  have e_r_mn := h.r_mn
  have e_r_fc := h.r_fc
  have e_r_rc := h.r_rc
  have e_r_tl := h.r_tl
  have e_r_ki := h.r_ki
  have e_r_am := h.r_am
  have e_r_pl := h.r_pl
  have e_r_vc := h.r_vc
  have e_r_ar := h.r_ar
  have e_r_lr := h.r_lr
  have e_r_fl := h.r_fl
  have e_r_kn := h.r_kn
  subst e_r_tn; subst e_r_tc; subst e_r_to; subst e_r_mn; subst e_r_fc; subst e_r_rc; subst e_r_tl; subst e_r_ki; subst e_r_am; subst e_r_pl; subst e_r_vc; subst e_r_ar; subst e_r_lr; subst e_r_fl; subst e_r_kn
  have w1 := hm.ity
  have w2 := hm.itm
  have w3 := hm.imn
  have w4 := hm.ifn
  have w5 := hm.irn
  have w6 := hm.itn
  have w7 := hm.ivn
  have w8 := hm.itr
  rcases bb with bb | bb | bb
  · obtain ⟨u0, ff0⟩ := bb
    rcases aa with aa | aa | aa
    · obtain ⟨q0, ee0⟩ := aa
      subst ee0 ff0
      exact ⟨h, rfl⟩
    · obtain ⟨q0, ee0⟩ := aa
      subst ee0 ff0
      exfalso; omega
    · obtain ⟨q0, ee0⟩ := aa
      subst ee0 ff0
      exfalso; omega
  · obtain ⟨u0, ff0⟩ := bb
    rcases aa with aa | aa | aa
    · obtain ⟨q0, ee0⟩ := aa
      subst ee0 ff0
      exfalso; omega
    · obtain ⟨q0, ee0⟩ := aa
      subst ee0 ff0
      exact ⟨h, rfl⟩
    · obtain ⟨q0, ee0⟩ := aa
      subst ee0 ff0
      exfalso; omega
  · obtain ⟨u0, ff0⟩ := bb
    rcases aa with aa | aa | aa
    · obtain ⟨q0, ee0⟩ := aa
      subst ee0 ff0
      exfalso; omega
    · obtain ⟨q0, ee0⟩ := aa
      subst ee0 ff0
      exfalso; omega
    · obtain ⟨q0, ee0⟩ := aa
      subst ee0 ff0
      exact ⟨h, rfl⟩
set_option maxRecDepth 100000 in
set_option maxHeartbeats 4000000 in
theorem pr_open {xTc : Int32} {xFc : Int32} {xRc : Int32} {xVc : Int32} {xLr : Int32} {xFl : Int32} {xTn : Int32} {xMn : Int32} {xSt : Int64} {xAb : Int64} {xVa : Int64} {xD1 : Value} {xD2 : Value} {xTl : Int32} {xOl : Int32} {xKn : Int32} {xPa : Nat → Int32} {xUp : Nat → Int32} {xAl : Nat → Option Nat} {xHa : Nat → Int64} {xNm : Nat → Int64} {xKi : Nat → Int32} {xAm : Nat → Int32} {xPl : Nat → Int32} {xKe : Nat → Int32} {xTo : Nat → Int32} {xFa : Nat → Option Nat} {xRe : Nat → Option Nat} {xVl : Nat → Option Nat} {xAr : Nat → Int32} {mTy : Int32} {mPa : Nat → Int32} {mTo : Nat → Int32} {mTm : Int32} {mMn : Int32} {mOt : Nat → Int32} {mNa : Nat → Int32} {mRe : Nat → Int32} {mMa : Nat → Int32} {mMy : Nat → Int32} {mPm : Nat → Int32} {mFn : Int32} {mFy : Nat → Int32} {mFa : Nat → Int32} {mFr : Nat → Int32} {mRn : Int32} {mFo : Nat → Int32} {mRt : Nat → Int32} {mRm : Nat → Int32} {mTn : Int32} {mTt : Nat → Int32} {mTi : Nat → Int32} {mPl : Nat → Int32} {mVn : Int32} {mVr : Nat → Int32} {mVf : Nat → Int32} {mVc : Nat → Int32} {mAr : Nat → Int32} {mLr : Int32} {mTc : Nat → Int32} {mTr : Int32} {mFl : Int32} {dyn : pm_H} {t : Int32} {rx : Int32} {rm : Int32}  (hm : mIv mTy mPa mTo mTm mMn mOt mNa mRe mMa mMy mPm mFn mFy mFa mFr mRn mFo mRt mRm mTn mTt mTi mVn mVr mVf mVc mTr) (hn : mIv mTy mPa mTo mTm mMn mOt mNa mRe mMa mMy mPm mFn mFy mFa mFr mRn mFo mRt mRm mTn mTt mTi mVn mVr mVf mVc mTr) (h : rIv xTc xFc xRc xVc xLr xFl xTn xMn xSt xAb xVa xD1 xD2 xTl xOl xKn xPa xUp xAl xHa xNm xKi xAm xPl xKe xTo xFa xRe xVl xAr mTy mPa mTo mTm mMn mOt mNa mRe mMa mMy mPm mFn mFy mFa mFr mRn mFo mRt mRm mTn mTt mTi mPl mVn mVr mVf mVc mAr mLr mTc mTr mFl dyn) (aa : ((¬ (0 ≤ t.toInt ∧ t.toInt < xTn.toInt)) ∧ (-1) = rx) ∨ (((0 ≤ t.toInt ∧ t.toInt < xTn.toInt)) ∧ ((hbX xHa xNm t &&& xAb ≠ 0)) ∧ 1 = rx) ∨ (((0 ≤ t.toInt ∧ t.toInt < xTn.toInt)) ∧ (hbX xHa xNm t &&& xAb = 0) ∧ 0 = rx)) (bb : (((t.toInt < 0 ∨ mTy.toInt ≤ t.toInt)) ∧ (-1) = rm) ∨ (((0 ≤ t.toInt ∧ t.toInt < mTy.toInt) ∧ opL mPa mOt mNa mMy mPm mMa mMn t 0) ∧ 1 = rm) ∨ (((0 ≤ t.toInt ∧ t.toInt < mTy.toInt) ∧ ¬ opL mPa mOt mNa mMy mPm mMa mMn t 0) ∧ 0 = rm)) : rIv xTc xFc xRc xVc xLr xFl xTn xMn xSt xAb xVa xD1 xD2 xTl xOl xKn xPa xUp xAl xHa xNm xKi xAm xPl xKe xTo xFa xRe xVl xAr mTy mPa mTo mTm mMn mOt mNa mRe mMa mMy mPm mFn mFy mFa mFr mRn mFo mRt mRm mTn mTt mTi mPl mVn mVr mVf mVc mAr mLr mTc mTr mFl dyn ∧ rx = rm := by
  have e_r_tn := h.r_tn
  have e_r_tc := h.r_tc
  have e_r_to := h.r_to
  have e_r_mn := h.r_mn
  have e_r_fc := h.r_fc
  have e_r_rc := h.r_rc
  have e_r_tl := h.r_tl
  have e_r_ki := h.r_ki
  have e_r_am := h.r_am
  have e_r_pl := h.r_pl
  have e_r_vc := h.r_vc
  have e_r_ar := h.r_ar
  have e_r_lr := h.r_lr
  have e_r_fl := h.r_fl
  have e_r_kn := h.r_kn
  subst e_r_tn; subst e_r_tc; subst e_r_to; subst e_r_mn; subst e_r_fc; subst e_r_rc; subst e_r_tl; subst e_r_ki; subst e_r_am; subst e_r_pl; subst e_r_vc; subst e_r_ar; subst e_r_lr; subst e_r_fl; subst e_r_kn
  obtain ⟨hU, hd, hP, hS, hX, hK, hB, hH, hN, hSt, hAb, hVa⟩ := id h.r_mm
  have hop : (0 ≤ t.toInt ∧ t.toInt < mTy.toInt) → (hbX xHa xNm t &&& xAb ≠ 0 ↔ opL mPa mOt mNa mMy mPm mMa mMn t 0) := fun q => op_x hS.1 hS.2.1.2 hH hN hAb (Or.inl q)
  rcases bb with bb | bb | bb
  · obtain ⟨u0, ff0⟩ := bb
    rcases aa with aa | aa | aa
    · obtain ⟨q0, ee0⟩ := aa
      subst ee0 ff0
      exact ⟨h, rfl⟩
    · obtain ⟨q0, q1, ee0⟩ := aa
      subst ee0 ff0
      exfalso; omega
    · obtain ⟨q0, q1, ee0⟩ := aa
      subst ee0 ff0
      exfalso; omega
  · obtain ⟨u0, ff0⟩ := bb
    rcases aa with aa | aa | aa
    · obtain ⟨q0, ee0⟩ := aa
      subst ee0 ff0
      exfalso; omega
    · obtain ⟨q0, q1, ee0⟩ := aa
      subst ee0 ff0
      exact ⟨h, rfl⟩
    · obtain ⟨q0, q1, ee0⟩ := aa
      subst ee0 ff0
      exact absurd q1 ((hop q0).mpr u0.2)
  · obtain ⟨u0, ff0⟩ := bb
    rcases aa with aa | aa | aa
    · obtain ⟨q0, ee0⟩ := aa
      subst ee0 ff0
      exfalso; omega
    · obtain ⟨q0, q1, ee0⟩ := aa
      subst ee0 ff0
      exact absurd ((hop q0).mp q1) u0.2
    · obtain ⟨q0, q1, ee0⟩ := aa
      subst ee0 ff0
      exact ⟨h, rfl⟩
set_option maxRecDepth 100000 in
set_option maxHeartbeats 4000000 in
theorem pr_under {xTc : Int32} {xFc : Int32} {xRc : Int32} {xVc : Int32} {xLr : Int32} {xFl : Int32} {xTn : Int32} {xMn : Int32} {xSt : Int64} {xAb : Int64} {xVa : Int64} {xD1 : Value} {xD2 : Value} {xTl : Int32} {xOl : Int32} {xKn : Int32} {xPa : Nat → Int32} {xUp : Nat → Int32} {xAl : Nat → Option Nat} {xHa : Nat → Int64} {xNm : Nat → Int64} {xKi : Nat → Int32} {xAm : Nat → Int32} {xPl : Nat → Int32} {xKe : Nat → Int32} {xTo : Nat → Int32} {xFa : Nat → Option Nat} {xRe : Nat → Option Nat} {xVl : Nat → Option Nat} {xAr : Nat → Int32} {mTy : Int32} {mPa : Nat → Int32} {mTo : Nat → Int32} {mTm : Int32} {mMn : Int32} {mOt : Nat → Int32} {mNa : Nat → Int32} {mRe : Nat → Int32} {mMa : Nat → Int32} {mMy : Nat → Int32} {mPm : Nat → Int32} {mFn : Int32} {mFy : Nat → Int32} {mFa : Nat → Int32} {mFr : Nat → Int32} {mRn : Int32} {mFo : Nat → Int32} {mRt : Nat → Int32} {mRm : Nat → Int32} {mTn : Int32} {mTt : Nat → Int32} {mTi : Nat → Int32} {mPl : Nat → Int32} {mVn : Int32} {mVr : Nat → Int32} {mVf : Nat → Int32} {mVc : Nat → Int32} {mAr : Nat → Int32} {mLr : Int32} {mTc : Nat → Int32} {mTr : Int32} {mFl : Int32} {dyn : pm_H} {a : Int32} {b : Int32} {rx : Int32} {rm : Int32}  (hm : mIv mTy mPa mTo mTm mMn mOt mNa mRe mMa mMy mPm mFn mFy mFa mFr mRn mFo mRt mRm mTn mTt mTi mVn mVr mVf mVc mTr) (hn : mIv mTy mPa mTo mTm mMn mOt mNa mRe mMa mMy mPm mFn mFy mFa mFr mRn mFo mRt mRm mTn mTt mTi mVn mVr mVf mVc mTr) (h : rIv xTc xFc xRc xVc xLr xFl xTn xMn xSt xAb xVa xD1 xD2 xTl xOl xKn xPa xUp xAl xHa xNm xKi xAm xPl xKe xTo xFa xRe xVl xAr mTy mPa mTo mTm mMn mOt mNa mRe mMa mMy mPm mFn mFy mFa mFr mRn mFo mRt mRm mTn mTt mTi mPl mVn mVr mVf mVc mAr mLr mTc mTr mFl dyn) (aa : ((¬ (xA xUp a ∧ xA xUp b)) ∧ (-1) = rx) ∨ ((xA xUp a ∧ xA xUp b) ∧ (xU xUp a b) ∧ 1 = rx) ∨ ((xA xUp a ∧ xA xUp b) ∧ (¬ xU xUp a b) ∧ 0 = rx)) (bb : ((¬ (anyT mTy a ∧ anyT mTy b)) ∧ (-1) = rm) ∨ (((anyT mTy a ∧ anyT mTy b) ∧ uM mPa a b = true) ∧ 1 = rm) ∨ (((anyT mTy a ∧ anyT mTy b) ∧ uM mPa a b = false) ∧ 0 = rm)) : rIv xTc xFc xRc xVc xLr xFl xTn xMn xSt xAb xVa xD1 xD2 xTl xOl xKn xPa xUp xAl xHa xNm xKi xAm xPl xKe xTo xFa xRe xVl xAr mTy mPa mTo mTm mMn mOt mNa mRe mMa mMy mPm mFn mFy mFa mFr mRn mFo mRt mRm mTn mTt mTi mPl mVn mVr mVf mVc mAr mLr mTc mTr mFl dyn ∧ rx = rm := by
  have e_r_tn := h.r_tn
  have e_r_tc := h.r_tc
  have e_r_to := h.r_to
  have e_r_mn := h.r_mn
  have e_r_fc := h.r_fc
  have e_r_rc := h.r_rc
  have e_r_tl := h.r_tl
  have e_r_ki := h.r_ki
  have e_r_am := h.r_am
  have e_r_pl := h.r_pl
  have e_r_vc := h.r_vc
  have e_r_ar := h.r_ar
  have e_r_lr := h.r_lr
  have e_r_fl := h.r_fl
  have e_r_kn := h.r_kn
  subst e_r_tn; subst e_r_tc; subst e_r_to; subst e_r_mn; subst e_r_fc; subst e_r_rc; subst e_r_tl; subst e_r_ki; subst e_r_am; subst e_r_pl; subst e_r_vc; subst e_r_ar; subst e_r_lr; subst e_r_fl; subst e_r_kn
  have w1 := hm.ity
  have w2 := hm.itm
  have w3 := hm.imn
  have w4 := hm.ifn
  have w5 := hm.irn
  have w6 := hm.itn
  have w7 := hm.ivn
  have w8 := hm.itr
  rcases bb with bb | bb | bb
  · obtain ⟨u0, ff0⟩ := bb
    rcases aa with aa | aa | aa
    · obtain ⟨q0, ee0⟩ := aa
      subst ee0 ff0
      exact ⟨h, rfl⟩
    · obtain ⟨q0, q1, ee0⟩ := aa
      subst ee0 ff0
      exact absurd ⟨(h.r_mm.1.1 _).mp q0.1, (h.r_mm.1.1 _).mp q0.2⟩ u0
    · obtain ⟨q0, q1, ee0⟩ := aa
      subst ee0 ff0
      exact absurd ⟨(h.r_mm.1.1 _).mp q0.1, (h.r_mm.1.1 _).mp q0.2⟩ u0
  · obtain ⟨u0, ff0⟩ := bb
    rcases aa with aa | aa | aa
    · obtain ⟨q0, ee0⟩ := aa
      subst ee0 ff0
      exact absurd ⟨(h.r_mm.1.1 _).mpr u0.1.1, (h.r_mm.1.1 _).mpr u0.1.2⟩ q0
    · obtain ⟨q0, q1, ee0⟩ := aa
      subst ee0 ff0
      exact ⟨h, rfl⟩
    · obtain ⟨q0, q1, ee0⟩ := aa
      subst ee0 ff0
      exact absurd ((h.r_mm.1.2 _ _ ((h.r_mm.1.1 _).mp q0.1) (any_b w1 ((h.r_mm.1.1 _).mp q0.2))).mpr u0.2) q1
  · obtain ⟨u0, ff0⟩ := bb
    rcases aa with aa | aa | aa
    · obtain ⟨q0, ee0⟩ := aa
      subst ee0 ff0
      exact absurd ⟨(h.r_mm.1.1 _).mpr u0.1.1, (h.r_mm.1.1 _).mpr u0.1.2⟩ q0
    · obtain ⟨q0, q1, ee0⟩ := aa
      subst ee0 ff0
      exact absurd ((h.r_mm.1.2 _ _ ((h.r_mm.1.1 _).mp q0.1) (any_b w1 ((h.r_mm.1.1 _).mp q0.2))).mp q1) (by rw [u0.2]; decide)
    · obtain ⟨q0, q1, ee0⟩ := aa
      subst ee0 ff0
      exact ⟨h, rfl⟩
set_option maxRecDepth 100000 in
set_option maxHeartbeats 4000000 in
theorem pr_loose {xTc : Int32} {xFc : Int32} {xRc : Int32} {xVc : Int32} {xLr : Int32} {xFl : Int32} {xTn : Int32} {xMn : Int32} {xSt : Int64} {xAb : Int64} {xVa : Int64} {xD1 : Value} {xD2 : Value} {xTl : Int32} {xOl : Int32} {xKn : Int32} {xPa : Nat → Int32} {xUp : Nat → Int32} {xAl : Nat → Option Nat} {xHa : Nat → Int64} {xNm : Nat → Int64} {xKi : Nat → Int32} {xAm : Nat → Int32} {xPl : Nat → Int32} {xKe : Nat → Int32} {xTo : Nat → Int32} {xFa : Nat → Option Nat} {xRe : Nat → Option Nat} {xVl : Nat → Option Nat} {xAr : Nat → Int32} {mTy : Int32} {mPa : Nat → Int32} {mTo : Nat → Int32} {mTm : Int32} {mMn : Int32} {mOt : Nat → Int32} {mNa : Nat → Int32} {mRe : Nat → Int32} {mMa : Nat → Int32} {mMy : Nat → Int32} {mPm : Nat → Int32} {mFn : Int32} {mFy : Nat → Int32} {mFa : Nat → Int32} {mFr : Nat → Int32} {mRn : Int32} {mFo : Nat → Int32} {mRt : Nat → Int32} {mRm : Nat → Int32} {mTn : Int32} {mTt : Nat → Int32} {mTi : Nat → Int32} {mPl : Nat → Int32} {mVn : Int32} {mVr : Nat → Int32} {mVf : Nat → Int32} {mVc : Nat → Int32} {mAr : Nat → Int32} {mLr : Int32} {mTc : Nat → Int32} {mTr : Int32} {mFl : Int32} {dyn : pm_H} {a : Int32} {b : Int32} {rx : Int32} {rm : Int32}  (hm : mIv mTy mPa mTo mTm mMn mOt mNa mRe mMa mMy mPm mFn mFy mFa mFr mRn mFo mRt mRm mTn mTt mTi mVn mVr mVf mVc mTr) (hn : mIv mTy mPa mTo mTm mMn mOt mNa mRe mMa mMy mPm mFn mFy mFa mFr mRn mFo mRt mRm mTn mTt mTi mVn mVr mVf mVc mTr) (h : rIv xTc xFc xRc xVc xLr xFl xTn xMn xSt xAb xVa xD1 xD2 xTl xOl xKn xPa xUp xAl xHa xNm xKi xAm xPl xKe xTo xFa xRe xVl xAr mTy mPa mTo mTm mMn mOt mNa mRe mMa mMy mPm mFn mFy mFa mFr mRn mFo mRt mRm mTn mTt mTi mPl mVn mVr mVf mVc mAr mLr mTc mTr mFl dyn) (aa : ((¬ (xA xUp a ∧ xA xUp b)) ∧ (-1) = rx) ∨ ((xA xUp a ∧ xA xUp b) ∧ (xL xUp a b) ∧ 1 = rx) ∨ ((xA xUp a ∧ xA xUp b) ∧ (¬ xL xUp a b) ∧ 0 = rx)) (bb : ((¬ (anyT mTy a ∧ anyT mTy b)) ∧ (-1) = rm) ∨ (((anyT mTy a ∧ anyT mTy b) ∧ lM mPa a b) ∧ 1 = rm) ∨ (((anyT mTy a ∧ anyT mTy b) ∧ ¬ lM mPa a b) ∧ 0 = rm)) : rIv xTc xFc xRc xVc xLr xFl xTn xMn xSt xAb xVa xD1 xD2 xTl xOl xKn xPa xUp xAl xHa xNm xKi xAm xPl xKe xTo xFa xRe xVl xAr mTy mPa mTo mTm mMn mOt mNa mRe mMa mMy mPm mFn mFy mFa mFr mRn mFo mRt mRm mTn mTt mTi mPl mVn mVr mVf mVc mAr mLr mTc mTr mFl dyn ∧ rx = rm := by
  have e_r_tn := h.r_tn
  have e_r_tc := h.r_tc
  have e_r_to := h.r_to
  have e_r_mn := h.r_mn
  have e_r_fc := h.r_fc
  have e_r_rc := h.r_rc
  have e_r_tl := h.r_tl
  have e_r_ki := h.r_ki
  have e_r_am := h.r_am
  have e_r_pl := h.r_pl
  have e_r_vc := h.r_vc
  have e_r_ar := h.r_ar
  have e_r_lr := h.r_lr
  have e_r_fl := h.r_fl
  have e_r_kn := h.r_kn
  subst e_r_tn; subst e_r_tc; subst e_r_to; subst e_r_mn; subst e_r_fc; subst e_r_rc; subst e_r_tl; subst e_r_ki; subst e_r_am; subst e_r_pl; subst e_r_vc; subst e_r_ar; subst e_r_lr; subst e_r_fl; subst e_r_kn
  have w1 := hm.ity
  have w2 := hm.itm
  have w3 := hm.imn
  have w4 := hm.ifn
  have w5 := hm.irn
  have w6 := hm.itn
  have w7 := hm.ivn
  have w8 := hm.itr
  rcases bb with bb | bb | bb
  · obtain ⟨u0, ff0⟩ := bb
    rcases aa with aa | aa | aa
    · obtain ⟨q0, ee0⟩ := aa
      subst ee0 ff0
      exact ⟨h, rfl⟩
    · obtain ⟨q0, q1, ee0⟩ := aa
      subst ee0 ff0
      exact absurd ⟨(h.r_mm.1.1 _).mp q0.1, (h.r_mm.1.1 _).mp q0.2⟩ u0
    · obtain ⟨q0, q1, ee0⟩ := aa
      subst ee0 ff0
      exact absurd ⟨(h.r_mm.1.1 _).mp q0.1, (h.r_mm.1.1 _).mp q0.2⟩ u0
  · obtain ⟨u0, ff0⟩ := bb
    rcases aa with aa | aa | aa
    · obtain ⟨q0, ee0⟩ := aa
      subst ee0 ff0
      exact absurd ⟨(h.r_mm.1.1 _).mpr u0.1.1, (h.r_mm.1.1 _).mpr u0.1.2⟩ q0
    · obtain ⟨q0, q1, ee0⟩ := aa
      subst ee0 ff0
      exact ⟨h, rfl⟩
    · obtain ⟨q0, q1, ee0⟩ := aa
      subst ee0 ff0
      exact absurd ((up_L h.r_mm.1 w1.1 ((h.r_mm.1.1 _).mp q0.1) (any_b w1 ((h.r_mm.1.1 _).mp q0.2))).mpr u0.2) q1
  · obtain ⟨u0, ff0⟩ := bb
    rcases aa with aa | aa | aa
    · obtain ⟨q0, ee0⟩ := aa
      subst ee0 ff0
      exact absurd ⟨(h.r_mm.1.1 _).mpr u0.1.1, (h.r_mm.1.1 _).mpr u0.1.2⟩ q0
    · obtain ⟨q0, q1, ee0⟩ := aa
      subst ee0 ff0
      exact absurd ((up_L h.r_mm.1 w1.1 ((h.r_mm.1.1 _).mp q0.1) (any_b w1 ((h.r_mm.1.1 _).mp q0.2))).mp q1) u0.2
    · obtain ⟨q0, q1, ee0⟩ := aa
      subst ee0 ff0
      exact ⟨h, rfl⟩
set_option maxRecDepth 100000 in
set_option maxHeartbeats 4000000 in
theorem pr_thing {xTc : Int32} {xFc : Int32} {xRc : Int32} {xVc : Int32} {xLr : Int32} {xFl : Int32} {xTn : Int32} {xMn : Int32} {xSt : Int64} {xAb : Int64} {xVa : Int64} {xD1 : Value} {xD2 : Value} {xTl : Int32} {xOl : Int32} {xKn : Int32} {xPa : Nat → Int32} {xUp : Nat → Int32} {xAl : Nat → Option Nat} {xHa : Nat → Int64} {xNm : Nat → Int64} {xKi : Nat → Int32} {xAm : Nat → Int32} {xPl : Nat → Int32} {xKe : Nat → Int32} {xTo : Nat → Int32} {xFa : Nat → Option Nat} {xRe : Nat → Option Nat} {xVl : Nat → Option Nat} {xAr : Nat → Int32} {mTy : Int32} {mPa : Nat → Int32} {mTo : Nat → Int32} {mTm : Int32} {mMn : Int32} {mOt : Nat → Int32} {mNa : Nat → Int32} {mRe : Nat → Int32} {mMa : Nat → Int32} {mMy : Nat → Int32} {mPm : Nat → Int32} {mFn : Int32} {mFy : Nat → Int32} {mFa : Nat → Int32} {mFr : Nat → Int32} {mRn : Int32} {mFo : Nat → Int32} {mRt : Nat → Int32} {mRm : Nat → Int32} {mTn : Int32} {mTt : Nat → Int32} {mTi : Nat → Int32} {mPl : Nat → Int32} {mVn : Int32} {mVr : Nat → Int32} {mVf : Nat → Int32} {mVc : Nat → Int32} {mAr : Nat → Int32} {mLr : Int32} {mTc : Nat → Int32} {mTr : Int32} {mFl : Int32} {mEn : Int32} {dyn : pm_H} {yTl : Int32} {yKi : Nat → Int32} {yAm : Nat → Int32} {yPl : Nat → Int32} {nTn : Int32} {nTt : Nat → Int32} {nTi : Nat → Int32} {nPl : Nat → Int32} {nEn : Int32} {t : Int32} {rx : Int32} {rm : Int32}  (hm : mIv mTy mPa mTo mTm mMn mOt mNa mRe mMa mMy mPm mFn mFy mFa mFr mRn mFo mRt mRm mTn mTt mTi mVn mVr mVf mVc mTr) (hn : mIv mTy mPa mTo mTm mMn mOt mNa mRe mMa mMy mPm mFn mFy mFa mFr mRn mFo mRt mRm nTn nTt nTi mVn mVr mVf mVc mTr) (h : rIv xTc xFc xRc xVc xLr xFl xTn xMn xSt xAb xVa xD1 xD2 xTl xOl xKn xPa xUp xAl xHa xNm xKi xAm xPl xKe xTo xFa xRe xVl xAr mTy mPa mTo mTm mMn mOt mNa mRe mMa mMy mPm mFn mFy mFa mFr mRn mFo mRt mRm mTn mTt mTi mPl mVn mVr mVf mVc mAr mLr mTc mTr mFl dyn) (aa : ((¬ ((0 ≤ t.toInt ∧ t.toInt < xTn.toInt) ∧ t.toInt ≠ 1)) ∧ (-1) = rx ∧ xTl = yTl ∧ xKi = yKi ∧ xAm = yAm ∧ xPl = yPl) ∨ ((((0 ≤ t.toInt ∧ t.toInt < xTn.toInt) ∧ t.toInt ≠ 1)) ∧ ((hbX xHa xNm t &&& xAb ≠ 0)) ∧ (-3) = rx ∧ xTl = yTl ∧ xKi = yKi ∧ xAm = yAm ∧ xPl = yPl) ∨ ((((0 ≤ t.toInt ∧ t.toInt < xTn.toInt) ∧ t.toInt ≠ 1)) ∧ (hbX xHa xNm t &&& xAb = 0) ∧ (60 ≤ xTl.toInt) ∧ (-2) = rx ∧ xTl = yTl ∧ xKi = yKi ∧ xAm = yAm ∧ xPl = yPl) ∨ ((((0 ≤ t.toInt ∧ t.toInt < xTn.toInt) ∧ t.toInt ≠ 1)) ∧ (hbX xHa xNm t &&& xAb = 0) ∧ (xTl.toInt < 60) ∧ (xTl + 1) = rx ∧ xTl + 1 = yTl ∧ upd xKi (xTl + 1).toNatClampNeg t = yKi ∧ upd xAm (xTl + 1).toNatClampNeg 0 = yAm ∧ zP xPl (xTl + 1) = yPl)) (bb : (((t.toInt < 0 ∨ mTy.toInt ≤ t.toInt ∨ t.toInt = 1)) ∧ (-1) = rm ∧ mTn = nTn ∧ mTt = nTt ∧ mTi = nTi ∧ mPl = nPl ∧ mEn = nEn) ∨ (((0 ≤ t.toInt ∧ t.toInt < mTy.toInt ∧ t.toInt ≠ 1) ∧ opL mPa mOt mNa mMy mPm mMa mMn t 0) ∧ (-3) = rm ∧ mTn = nTn ∧ mTt = nTt ∧ mTi = nTi ∧ mPl = nPl ∧ mEn = nEn) ∨ ((((0 ≤ t.toInt ∧ t.toInt < mTy.toInt ∧ t.toInt ≠ 1) ∧ ¬ opL mPa mOt mNa mMy mPm mMa mMn t 0) ∧ mTn.toInt = 60) ∧ (-2) = rm ∧ mTn = nTn ∧ mTt = nTt ∧ mTi = nTi ∧ mPl = nPl ∧ (-2) = nEn) ∨ ((((0 ≤ t.toInt ∧ t.toInt < mTy.toInt ∧ t.toInt ≠ 1) ∧ ¬ opL mPa mOt mNa mMy mPm mMa mMn t 0) ∧ mTn.toInt < 60) ∧ (mTn + 1) = rm ∧ mTn + 1 = nTn ∧ upd mTt (mTn + 1).toNatClampNeg t = nTt ∧ upd mTi (mTn + 1).toNatClampNeg 0 = nTi ∧ zP mPl (mTn + 1) = nPl ∧ 0 = nEn)) : rIv xTc xFc xRc xVc xLr xFl xTn xMn xSt xAb xVa xD1 xD2 yTl xOl xKn xPa xUp xAl xHa xNm yKi yAm yPl xKe xTo xFa xRe xVl xAr mTy mPa mTo mTm mMn mOt mNa mRe mMa mMy mPm mFn mFy mFa mFr mRn mFo mRt mRm nTn nTt nTi nPl mVn mVr mVf mVc mAr mLr mTc mTr mFl dyn ∧ rx = rm := by
  have e_r_tn := h.r_tn
  have e_r_tc := h.r_tc
  have e_r_to := h.r_to
  have e_r_mn := h.r_mn
  have e_r_fc := h.r_fc
  have e_r_rc := h.r_rc
  have e_r_tl := h.r_tl
  have e_r_ki := h.r_ki
  have e_r_am := h.r_am
  have e_r_pl := h.r_pl
  have e_r_vc := h.r_vc
  have e_r_ar := h.r_ar
  have e_r_lr := h.r_lr
  have e_r_fl := h.r_fl
  have e_r_kn := h.r_kn
  subst e_r_tn; subst e_r_tc; subst e_r_to; subst e_r_mn; subst e_r_fc; subst e_r_rc; subst e_r_tl; subst e_r_ki; subst e_r_am; subst e_r_pl; subst e_r_vc; subst e_r_ar; subst e_r_lr; subst e_r_fl; subst e_r_kn
  have w1 := hm.ity
  have w2 := hm.itm
  have w3 := hm.imn
  have w4 := hm.ifn
  have w5 := hm.irn
  have w6 := hm.itn
  have w7 := hm.ivn
  have w8 := hm.itr
  obtain ⟨hU, hd, hP, hS, hX, hK, hB, hH, hN, hSt, hAb, hVa⟩ := id h.r_mm
  have hop : (0 ≤ t.toInt ∧ t.toInt < mTy.toInt) → (hbX xHa xNm t &&& xAb ≠ 0 ↔ opL mPa mOt mNa mMy mPm mMa mMn t 0) := fun q => op_x hS.1 hS.2.1.2 hH hN hAb (Or.inl q)
  rcases bb with bb | bb | bb | bb
  · obtain ⟨u0, ff0, ff1, ff2, ff3, ff4, ff5⟩ := bb
    rcases aa with aa | aa | aa | aa
    · obtain ⟨q0, ee0, ee1, ee2, ee3, ee4⟩ := aa
      subst ee0 ee1 ee2 ee3 ee4 ff0 ff1 ff2 ff3 ff4 ff5
      exact ⟨h, rfl⟩
    · obtain ⟨q0, q1, ee0, ee1, ee2, ee3, ee4⟩ := aa
      subst ee0 ee1 ee2 ee3 ee4 ff0 ff1 ff2 ff3 ff4 ff5
      exfalso; omega
    · obtain ⟨q0, q1, q2, ee0, ee1, ee2, ee3, ee4⟩ := aa
      subst ee0 ee1 ee2 ee3 ee4 ff0 ff1 ff2 ff3 ff4 ff5
      exfalso; omega
    · obtain ⟨q0, q1, q2, ee0, ee1, ee2, ee3, ee4⟩ := aa
      subst ee0 ee1 ee2 ee3 ee4 ff0 ff1 ff2 ff3 ff4 ff5
      exfalso; omega
  · obtain ⟨u0, ff0, ff1, ff2, ff3, ff4, ff5⟩ := bb
    rcases aa with aa | aa | aa | aa
    · obtain ⟨q0, ee0, ee1, ee2, ee3, ee4⟩ := aa
      subst ee0 ee1 ee2 ee3 ee4 ff0 ff1 ff2 ff3 ff4 ff5
      exfalso; omega
    · obtain ⟨q0, q1, ee0, ee1, ee2, ee3, ee4⟩ := aa
      subst ee0 ee1 ee2 ee3 ee4 ff0 ff1 ff2 ff3 ff4 ff5
      exact ⟨h, rfl⟩
    · obtain ⟨q0, q1, q2, ee0, ee1, ee2, ee3, ee4⟩ := aa
      subst ee0 ee1 ee2 ee3 ee4 ff0 ff1 ff2 ff3 ff4 ff5
      exact absurd q1 ((hop q0.1).mpr u0.2)
    · obtain ⟨q0, q1, q2, ee0, ee1, ee2, ee3, ee4⟩ := aa
      subst ee0 ee1 ee2 ee3 ee4 ff0 ff1 ff2 ff3 ff4 ff5
      exact absurd q1 ((hop q0.1).mpr u0.2)
  · obtain ⟨u0, ff0, ff1, ff2, ff3, ff4, ff5⟩ := bb
    rcases aa with aa | aa | aa | aa
    · obtain ⟨q0, ee0, ee1, ee2, ee3, ee4⟩ := aa
      subst ee0 ee1 ee2 ee3 ee4 ff0 ff1 ff2 ff3 ff4 ff5
      exfalso; omega
    · obtain ⟨q0, q1, ee0, ee1, ee2, ee3, ee4⟩ := aa
      subst ee0 ee1 ee2 ee3 ee4 ff0 ff1 ff2 ff3 ff4 ff5
      exact absurd ((hop q0.1).mp q1) u0.1.2
    · obtain ⟨q0, q1, q2, ee0, ee1, ee2, ee3, ee4⟩ := aa
      subst ee0 ee1 ee2 ee3 ee4 ff0 ff1 ff2 ff3 ff4 ff5
      exact ⟨h, rfl⟩
    · obtain ⟨q0, q1, q2, ee0, ee1, ee2, ee3, ee4⟩ := aa
      subst ee0 ee1 ee2 ee3 ee4 ff0 ff1 ff2 ff3 ff4 ff5
      exfalso; omega
  · obtain ⟨u0, ff0, ff1, ff2, ff3, ff4, ff5⟩ := bb
    rcases aa with aa | aa | aa | aa
    · obtain ⟨q0, ee0, ee1, ee2, ee3, ee4⟩ := aa
      subst ee0 ee1 ee2 ee3 ee4 ff0 ff1 ff2 ff3 ff4 ff5
      exfalso; omega
    · obtain ⟨q0, q1, ee0, ee1, ee2, ee3, ee4⟩ := aa
      subst ee0 ee1 ee2 ee3 ee4 ff0 ff1 ff2 ff3 ff4 ff5
      exact absurd ((hop q0.1).mp q1) u0.1.2
    · obtain ⟨q0, q1, q2, ee0, ee1, ee2, ee3, ee4⟩ := aa
      subst ee0 ee1 ee2 ee3 ee4 ff0 ff1 ff2 ff3 ff4 ff5
      exfalso; omega
    · obtain ⟨q0, q1, q2, ee0, ee1, ee2, ee3, ee4⟩ := aa
      subst ee0 ee1 ee2 ee3 ee4 ff0 ff1 ff2 ff3 ff4 ff5
      exact ⟨(rIv.mk (r_tn := h.r_tn) (r_tc := h.r_tc) (r_to := h.r_to) (r_mn := h.r_mn) (r_fc := h.r_fc) (r_rc := h.r_rc) (r_tl := rfl) (r_ki := rfl) (r_am := rfl) (r_pl := rfl) (r_vc := h.r_vc) (r_ar := h.r_ar) (r_lr := h.r_lr) (r_fl := h.r_fl) (r_kn := h.r_kn) (r_mm := h.r_mm) (r_ot := h.r_ot) (r_al := h.r_al) (r_fa := h.r_fa) (r_fr := h.r_fr) (r_re := h.r_re) (r_rf := h.r_rf) (r_kd := kd_new w6 (by omega) h.r_kd (Or.inl ⟨by omega, by omega⟩)) (r_vl := h.r_vl) (r_ol := h.r_ol) (r_ke := h.r_ke) (r_d1 := h.r_d1) (r_d2 := h.r_d2)), rfl⟩
set_option maxRecDepth 100000 in
set_option maxHeartbeats 4000000 in
theorem pr_box {xTc : Int32} {xFc : Int32} {xRc : Int32} {xVc : Int32} {xLr : Int32} {xFl : Int32} {xTn : Int32} {xMn : Int32} {xSt : Int64} {xAb : Int64} {xVa : Int64} {xD1 : Value} {xD2 : Value} {xTl : Int32} {xOl : Int32} {xKn : Int32} {xPa : Nat → Int32} {xUp : Nat → Int32} {xAl : Nat → Option Nat} {xHa : Nat → Int64} {xNm : Nat → Int64} {xKi : Nat → Int32} {xAm : Nat → Int32} {xPl : Nat → Int32} {xKe : Nat → Int32} {xTo : Nat → Int32} {xFa : Nat → Option Nat} {xRe : Nat → Option Nat} {xVl : Nat → Option Nat} {xAr : Nat → Int32} {mTy : Int32} {mPa : Nat → Int32} {mTo : Nat → Int32} {mTm : Int32} {mMn : Int32} {mOt : Nat → Int32} {mNa : Nat → Int32} {mRe : Nat → Int32} {mMa : Nat → Int32} {mMy : Nat → Int32} {mPm : Nat → Int32} {mFn : Int32} {mFy : Nat → Int32} {mFa : Nat → Int32} {mFr : Nat → Int32} {mRn : Int32} {mFo : Nat → Int32} {mRt : Nat → Int32} {mRm : Nat → Int32} {mTn : Int32} {mTt : Nat → Int32} {mTi : Nat → Int32} {mPl : Nat → Int32} {mVn : Int32} {mVr : Nat → Int32} {mVf : Nat → Int32} {mVc : Nat → Int32} {mAr : Nat → Int32} {mLr : Int32} {mTc : Nat → Int32} {mTr : Int32} {mFl : Int32} {dyn : pm_H} {yTl : Int32} {yKi : Nat → Int32} {yAm : Nat → Int32} {yPl : Nat → Int32} {nTn : Int32} {nTt : Nat → Int32} {nTi : Nat → Int32} {nPl : Nat → Int32} {nEn : Int32} {v : Int32} {rx : Int32} {rm : Int32}  (hm : mIv mTy mPa mTo mTm mMn mOt mNa mRe mMa mMy mPm mFn mFy mFa mFr mRn mFo mRt mRm mTn mTt mTi mVn mVr mVf mVc mTr) (hn : mIv mTy mPa mTo mTm mMn mOt mNa mRe mMa mMy mPm mFn mFy mFa mFr mRn mFo mRt mRm nTn nTt nTi mVn mVr mVf mVc mTr) (h : rIv xTc xFc xRc xVc xLr xFl xTn xMn xSt xAb xVa xD1 xD2 xTl xOl xKn xPa xUp xAl xHa xNm xKi xAm xPl xKe xTo xFa xRe xVl xAr mTy mPa mTo mTm mMn mOt mNa mRe mMa mMy mPm mFn mFy mFa mFr mRn mFo mRt mRm mTn mTt mTi mPl mVn mVr mVf mVc mAr mLr mTc mTr mFl dyn) (aa : ((60 ≤ xTl.toInt) ∧ (-2) = rx ∧ xTl = yTl ∧ xKi = yKi ∧ xAm = yAm ∧ xPl = yPl) ∨ ((xTl.toInt < 60) ∧ (xTl + 1) = rx ∧ xTl + 1 = yTl ∧ upd xKi (xTl + 1).toNatClampNeg 1 = yKi ∧ upd xAm (xTl + 1).toNatClampNeg v = yAm ∧ zP xPl (xTl + 1) = yPl)) (bb : ((mTn.toInt = 60) ∧ (-2) = rm ∧ mTn = nTn ∧ mTt = nTt ∧ mTi = nTi ∧ mPl = nPl ∧ (-2) = nEn) ∨ ((mTn.toInt < 60) ∧ (mTn + 1) = rm ∧ mTn + 1 = nTn ∧ upd mTt (mTn + 1).toNatClampNeg 1 = nTt ∧ upd mTi (mTn + 1).toNatClampNeg v = nTi ∧ zP mPl (mTn + 1) = nPl ∧ 0 = nEn)) : rIv xTc xFc xRc xVc xLr xFl xTn xMn xSt xAb xVa xD1 xD2 yTl xOl xKn xPa xUp xAl xHa xNm yKi yAm yPl xKe xTo xFa xRe xVl xAr mTy mPa mTo mTm mMn mOt mNa mRe mMa mMy mPm mFn mFy mFa mFr mRn mFo mRt mRm nTn nTt nTi nPl mVn mVr mVf mVc mAr mLr mTc mTr mFl dyn ∧ rx = rm := by
  have e_r_tn := h.r_tn
  have e_r_tc := h.r_tc
  have e_r_to := h.r_to
  have e_r_mn := h.r_mn
  have e_r_fc := h.r_fc
  have e_r_rc := h.r_rc
  have e_r_tl := h.r_tl
  have e_r_ki := h.r_ki
  have e_r_am := h.r_am
  have e_r_pl := h.r_pl
  have e_r_vc := h.r_vc
  have e_r_ar := h.r_ar
  have e_r_lr := h.r_lr
  have e_r_fl := h.r_fl
  have e_r_kn := h.r_kn
  subst e_r_tn; subst e_r_tc; subst e_r_to; subst e_r_mn; subst e_r_fc; subst e_r_rc; subst e_r_tl; subst e_r_ki; subst e_r_am; subst e_r_pl; subst e_r_vc; subst e_r_ar; subst e_r_lr; subst e_r_fl; subst e_r_kn
  have w1 := hm.ity
  have w2 := hm.itm
  have w3 := hm.imn
  have w4 := hm.ifn
  have w5 := hm.irn
  have w6 := hm.itn
  have w7 := hm.ivn
  have w8 := hm.itr
  rcases bb with bb | bb
  · obtain ⟨u0, ff0, ff1, ff2, ff3, ff4, ff5⟩ := bb
    rcases aa with aa | aa
    · obtain ⟨q0, ee0, ee1, ee2, ee3, ee4⟩ := aa
      subst ee0 ee1 ee2 ee3 ee4 ff0 ff1 ff2 ff3 ff4 ff5
      exact ⟨h, rfl⟩
    · obtain ⟨q0, ee0, ee1, ee2, ee3, ee4⟩ := aa
      subst ee0 ee1 ee2 ee3 ee4 ff0 ff1 ff2 ff3 ff4 ff5
      exfalso; omega
  · obtain ⟨u0, ff0, ff1, ff2, ff3, ff4, ff5⟩ := bb
    rcases aa with aa | aa
    · obtain ⟨q0, ee0, ee1, ee2, ee3, ee4⟩ := aa
      subst ee0 ee1 ee2 ee3 ee4 ff0 ff1 ff2 ff3 ff4 ff5
      exfalso; omega
    · obtain ⟨q0, ee0, ee1, ee2, ee3, ee4⟩ := aa
      subst ee0 ee1 ee2 ee3 ee4 ff0 ff1 ff2 ff3 ff4 ff5
      exact ⟨(rIv.mk (r_tn := h.r_tn) (r_tc := h.r_tc) (r_to := h.r_to) (r_mn := h.r_mn) (r_fc := h.r_fc) (r_rc := h.r_rc) (r_tl := rfl) (r_ki := rfl) (r_am := rfl) (r_pl := rfl) (r_vc := h.r_vc) (r_ar := h.r_ar) (r_lr := h.r_lr) (r_fl := h.r_fl) (r_kn := h.r_kn) (r_mm := h.r_mm) (r_ot := h.r_ot) (r_al := h.r_al) (r_fa := h.r_fa) (r_fr := h.r_fr) (r_re := h.r_re) (r_rf := h.r_rf) (r_kd := kd_new w6 (by omega) h.r_kd (Or.inl ⟨by decide, by have z1 : (1 : Int32).toInt = 1 := (by decide); omega⟩)) (r_vl := h.r_vl) (r_ol := h.r_ol) (r_ke := h.r_ke) (r_d1 := h.r_d1) (r_d2 := h.r_d2)), rfl⟩
set_option maxRecDepth 100000 in
set_option maxHeartbeats 4000000 in
theorem pr_clear {xTc : Int32} {xFc : Int32} {xRc : Int32} {xVc : Int32} {xLr : Int32} {xFl : Int32} {xTn : Int32} {xMn : Int32} {xSt : Int64} {xAb : Int64} {xVa : Int64} {xD1 : Value} {xD2 : Value} {xTl : Int32} {xOl : Int32} {xKn : Int32} {xPa : Nat → Int32} {xUp : Nat → Int32} {xAl : Nat → Option Nat} {xHa : Nat → Int64} {xNm : Nat → Int64} {xKi : Nat → Int32} {xAm : Nat → Int32} {xPl : Nat → Int32} {xKe : Nat → Int32} {xTo : Nat → Int32} {xFa : Nat → Option Nat} {xRe : Nat → Option Nat} {xVl : Nat → Option Nat} {xAr : Nat → Int32} {mTy : Int32} {mPa : Nat → Int32} {mTo : Nat → Int32} {mTm : Int32} {mMn : Int32} {mOt : Nat → Int32} {mNa : Nat → Int32} {mRe : Nat → Int32} {mMa : Nat → Int32} {mMy : Nat → Int32} {mPm : Nat → Int32} {mFn : Int32} {mFy : Nat → Int32} {mFa : Nat → Int32} {mFr : Nat → Int32} {mRn : Int32} {mFo : Nat → Int32} {mRt : Nat → Int32} {mRm : Nat → Int32} {mTn : Int32} {mTt : Nat → Int32} {mTi : Nat → Int32} {mPl : Nat → Int32} {mVn : Int32} {mVr : Nat → Int32} {mVf : Nat → Int32} {mVc : Nat → Int32} {mAr : Nat → Int32} {mLr : Int32} {mTc : Nat → Int32} {mTr : Int32} {mFl : Int32} {dyn : pm_H} {yVc : Int32} {yLr : Int32} {yTl : Int32} {yOl : Int32} {yKn : Int32} {yVl : Nat → Option Nat} {yAr : Nat → Int32} {nTn : Int32} {nVn : Int32} {nAr : Nat → Int32} {nLr : Int32} {nTr : Int32} {rx : Int32} {rm : Int32}  (hm : mIv mTy mPa mTo mTm mMn mOt mNa mRe mMa mMy mPm mFn mFy mFa mFr mRn mFo mRt mRm mTn mTt mTi mVn mVr mVf mVc mTr) (hn : mIv mTy mPa mTo mTm mMn mOt mNa mRe mMa mMy mPm mFn mFy mFa mFr mRn mFo mRt mRm nTn mTt mTi nVn mVr mVf mVc nTr) (h : rIv xTc xFc xRc xVc xLr xFl xTn xMn xSt xAb xVa xD1 xD2 xTl xOl xKn xPa xUp xAl xHa xNm xKi xAm xPl xKe xTo xFa xRe xVl xAr mTy mPa mTo mTm mMn mOt mNa mRe mMa mMy mPm mFn mFy mFa mFr mRn mFo mRt mRm mTn mTt mTi mPl mVn mVr mVf mVc mAr mLr mTc mTr mFl dyn) (aa : (∃ (l9 : Int32) (v9 : Nat → Option Nat), (l9 = 0) ∧ xTl = rx ∧ 0 = yVc ∧ 0 = yLr ∧ l9 = yTl ∧ 0 = yOl ∧ 0 = yKn ∧ v9 = yVl ∧ upd (upd (upd xAr 0 0) 1 0) 2 0 = yAr)) (bb : (mTn = rm ∧ 0 = nTn ∧ 0 = nVn ∧ upd (upd (upd mAr 0 0) 1 0) 2 0 = nAr ∧ 0 = nLr ∧ 0 = nTr)) : rIv xTc xFc xRc yVc yLr xFl xTn xMn xSt xAb xVa xD1 xD2 yTl yOl yKn xPa xUp xAl xHa xNm xKi xAm xPl xKe xTo xFa xRe yVl yAr mTy mPa mTo mTm mMn mOt mNa mRe mMa mMy mPm mFn mFy mFa mFr mRn mFo mRt mRm nTn mTt mTi mPl nVn mVr mVf mVc nAr nLr mTc nTr mFl dyn ∧ rx = rm := by
  have e_r_tn := h.r_tn
  have e_r_tc := h.r_tc
  have e_r_to := h.r_to
  have e_r_mn := h.r_mn
  have e_r_fc := h.r_fc
  have e_r_rc := h.r_rc
  have e_r_tl := h.r_tl
  have e_r_ki := h.r_ki
  have e_r_am := h.r_am
  have e_r_pl := h.r_pl
  have e_r_vc := h.r_vc
  have e_r_ar := h.r_ar
  have e_r_lr := h.r_lr
  have e_r_fl := h.r_fl
  have e_r_kn := h.r_kn
  subst e_r_tn; subst e_r_tc; subst e_r_to; subst e_r_mn; subst e_r_fc; subst e_r_rc; subst e_r_tl; subst e_r_ki; subst e_r_am; subst e_r_pl; subst e_r_vc; subst e_r_ar; subst e_r_lr; subst e_r_fl; subst e_r_kn
  have z0 : (0 : Int32).toInt = 0 := by decide
  rcases bb with bb
  · obtain ⟨ff0, ff1, ff2, ff3, ff4, ff5⟩ := bb
    rcases aa with aa
    · obtain ⟨l9x, v9x, q0, ee0, ee1, ee2, ee3, ee4, ee5, ee6, ee7⟩ := aa
      subst ee0 ee1 ee2 ee3 ee4 ee5 ee6 ee7 ff0 ff1 ff2 ff3 ff4 ff5
      subst q0; exact ⟨(rIv.mk (r_tn := h.r_tn) (r_tc := h.r_tc) (r_to := h.r_to) (r_mn := h.r_mn) (r_fc := h.r_fc) (r_rc := h.r_rc) (r_tl := rfl) (r_ki := h.r_ki) (r_am := h.r_am) (r_pl := h.r_pl) (r_vc := rfl) (r_ar := rfl) (r_lr := rfl) (r_fl := h.r_fl) (r_kn := rfl) (r_mm := h.r_mm) (r_ot := h.r_ot) (r_al := h.r_al) (r_fa := h.r_fa) (r_fr := h.r_fr) (r_re := h.r_re) (r_rf := h.r_rf) (r_kd := (fun i q1 q2 => absurd q2 (by omega))) (r_vl := ⟨fun _ => 0, fun _ => 0, fun _ => 0, fun _ => none, fun i q => absurd q (by omega), fun i q => absurd q (by omega)⟩) (r_ol := (by decide)) (r_ke := (fun i q => absurd q (by omega))) (r_d1 := h.r_d1) (r_d2 := h.r_d2)), rfl⟩
set_option maxRecDepth 100000 in
set_option maxHeartbeats 4000000 in
theorem pr_traced {xTc : Int32} {xFc : Int32} {xRc : Int32} {xVc : Int32} {xLr : Int32} {xFl : Int32} {xTn : Int32} {xMn : Int32} {xSt : Int64} {xAb : Int64} {xVa : Int64} {xD1 : Value} {xD2 : Value} {xTl : Int32} {xOl : Int32} {xKn : Int32} {xPa : Nat → Int32} {xUp : Nat → Int32} {xAl : Nat → Option Nat} {xHa : Nat → Int64} {xNm : Nat → Int64} {xKi : Nat → Int32} {xAm : Nat → Int32} {xPl : Nat → Int32} {xKe : Nat → Int32} {xTo : Nat → Int32} {xFa : Nat → Option Nat} {xRe : Nat → Option Nat} {xVl : Nat → Option Nat} {xAr : Nat → Int32} {mTy : Int32} {mPa : Nat → Int32} {mTo : Nat → Int32} {mTm : Int32} {mMn : Int32} {mOt : Nat → Int32} {mNa : Nat → Int32} {mRe : Nat → Int32} {mMa : Nat → Int32} {mMy : Nat → Int32} {mPm : Nat → Int32} {mFn : Int32} {mFy : Nat → Int32} {mFa : Nat → Int32} {mFr : Nat → Int32} {mRn : Int32} {mFo : Nat → Int32} {mRt : Nat → Int32} {mRm : Nat → Int32} {mTn : Int32} {mTt : Nat → Int32} {mTi : Nat → Int32} {mPl : Nat → Int32} {mVn : Int32} {mVr : Nat → Int32} {mVf : Nat → Int32} {mVc : Nat → Int32} {mAr : Nat → Int32} {mLr : Int32} {mTc : Nat → Int32} {mTr : Int32} {mFl : Int32} {dyn : pm_H} {i : Int32} {rx : Int32} {rm : Int32}  (hm : mIv mTy mPa mTo mTm mMn mOt mNa mRe mMa mMy mPm mFn mFy mFa mFr mRn mFo mRt mRm mTn mTt mTi mVn mVr mVf mVc mTr) (hn : mIv mTy mPa mTo mTm mMn mOt mNa mRe mMa mMy mPm mFn mFy mFa mFr mRn mFo mRt mRm mTn mTt mTi mVn mVr mVf mVc mTr) (h : rIv xTc xFc xRc xVc xLr xFl xTn xMn xSt xAb xVa xD1 xD2 xTl xOl xKn xPa xUp xAl xHa xNm xKi xAm xPl xKe xTo xFa xRe xVl xAr mTy mPa mTo mTm mMn mOt mNa mRe mMa mMy mPm mFn mFy mFa mFr mRn mFo mRt mRm mTn mTt mTi mPl mVn mVr mVf mVc mAr mLr mTc mTr mFl dyn) (aa : (((0 ≤ i.toInt ∧ i.toInt < xKn.toInt)) ∧ (xKe ((xOl + i) - (xOl + i) / 50 * 50).toNatClampNeg) = rx) ∨ ((¬ (0 ≤ i.toInt ∧ i.toInt < xKn.toInt)) ∧ (-4) = rx)) (bb : ((0 ≤ i.toInt ∧ i.toInt < mTr.toInt) ∧ (mTc i.toNatClampNeg) = rm) ∨ (((i.toInt < 0 ∨ mTr.toInt ≤ i.toInt)) ∧ (-4) = rm)) : rIv xTc xFc xRc xVc xLr xFl xTn xMn xSt xAb xVa xD1 xD2 xTl xOl xKn xPa xUp xAl xHa xNm xKi xAm xPl xKe xTo xFa xRe xVl xAr mTy mPa mTo mTm mMn mOt mNa mRe mMa mMy mPm mFn mFy mFa mFr mRn mFo mRt mRm mTn mTt mTi mPl mVn mVr mVf mVc mAr mLr mTc mTr mFl dyn ∧ rx = rm := by
  have e_r_tn := h.r_tn
  have e_r_tc := h.r_tc
  have e_r_to := h.r_to
  have e_r_mn := h.r_mn
  have e_r_fc := h.r_fc
  have e_r_rc := h.r_rc
  have e_r_tl := h.r_tl
  have e_r_ki := h.r_ki
  have e_r_am := h.r_am
  have e_r_pl := h.r_pl
  have e_r_vc := h.r_vc
  have e_r_ar := h.r_ar
  have e_r_lr := h.r_lr
  have e_r_fl := h.r_fl
  have e_r_kn := h.r_kn
  subst e_r_tn; subst e_r_tc; subst e_r_to; subst e_r_mn; subst e_r_fc; subst e_r_rc; subst e_r_tl; subst e_r_ki; subst e_r_am; subst e_r_pl; subst e_r_vc; subst e_r_ar; subst e_r_lr; subst e_r_fl; subst e_r_kn
  have w1 := hm.ity
  have w2 := hm.itm
  have w3 := hm.imn
  have w4 := hm.ifn
  have w5 := hm.irn
  have w6 := hm.itn
  have w7 := hm.ivn
  have w8 := hm.itr
  rcases bb with bb | bb
  · obtain ⟨u0, ff0⟩ := bb
    rcases aa with aa | aa
    · obtain ⟨q0, ee0⟩ := aa
      subst ee0 ff0
      refine ⟨h, ?_⟩; have w := h.r_ke i.toNatClampNeg (by have := xN (x := i) (by omega); omega); rw [nI_self (by omega)] at w; exact w
    · obtain ⟨q0, ee0⟩ := aa
      subst ee0 ff0
      exfalso; omega
  · obtain ⟨u0, ff0⟩ := bb
    rcases aa with aa | aa
    · obtain ⟨q0, ee0⟩ := aa
      subst ee0 ff0
      exfalso; omega
    · obtain ⟨q0, ee0⟩ := aa
      subst ee0 ff0
      exact ⟨h, rfl⟩
set_option maxRecDepth 100000 in
set_option maxHeartbeats 4000000 in
theorem pr_reference {xTc : Int32} {xFc : Int32} {xRc : Int32} {xVc : Int32} {xLr : Int32} {xFl : Int32} {xTn : Int32} {xMn : Int32} {xSt : Int64} {xAb : Int64} {xVa : Int64} {xD1 : Value} {xD2 : Value} {xTl : Int32} {xOl : Int32} {xKn : Int32} {xPa : Nat → Int32} {xUp : Nat → Int32} {xAl : Nat → Option Nat} {xHa : Nat → Int64} {xNm : Nat → Int64} {xKi : Nat → Int32} {xAm : Nat → Int32} {xPl : Nat → Int32} {xKe : Nat → Int32} {xTo : Nat → Int32} {xFa : Nat → Option Nat} {xRe : Nat → Option Nat} {xVl : Nat → Option Nat} {xAr : Nat → Int32} {mTy : Int32} {mPa : Nat → Int32} {mTo : Nat → Int32} {mTm : Int32} {mMn : Int32} {mOt : Nat → Int32} {mNa : Nat → Int32} {mRe : Nat → Int32} {mMa : Nat → Int32} {mMy : Nat → Int32} {mPm : Nat → Int32} {mFn : Int32} {mFy : Nat → Int32} {mFa : Nat → Int32} {mFr : Nat → Int32} {mRn : Int32} {mFo : Nat → Int32} {mRt : Nat → Int32} {mRm : Nat → Int32} {mTn : Int32} {mTt : Nat → Int32} {mTi : Nat → Int32} {mPl : Nat → Int32} {mVn : Int32} {mVr : Nat → Int32} {mVf : Nat → Int32} {mVc : Nat → Int32} {mAr : Nat → Int32} {mLr : Int32} {mTc : Nat → Int32} {mTr : Int32} {mFl : Int32} {dyn : pm_H} {yRc : Int32} {yRe : Nat → Option Nat} {yyn : pm_H} {nRn : Int32} {nFo : Nat → Int32} {nRt : Nat → Int32} {nRm : Nat → Int32} {o : Int32} {t : Int32} {w : Int32} {rx : Int32} {rm : Int32}  (hm : mIv mTy mPa mTo mTm mMn mOt mNa mRe mMa mMy mPm mFn mFy mFa mFr mRn mFo mRt mRm mTn mTt mTi mVn mVr mVf mVc mTr) (hn : mIv mTy mPa mTo mTm mMn mOt mNa mRe mMa mMy mPm mFn mFy mFa mFr nRn nFo nRt nRm mTn mTt mTi mVn mVr mVf mVc mTr) (h : rIv xTc xFc xRc xVc xLr xFl xTn xMn xSt xAb xVa xD1 xD2 xTl xOl xKn xPa xUp xAl xHa xNm xKi xAm xPl xKe xTo xFa xRe xVl xAr mTy mPa mTo mTm mMn mOt mNa mRe mMa mMy mPm mFn mFy mFa mFr mRn mFo mRt mRm mTn mTt mTi mPl mVn mVr mVf mVc mAr mLr mTc mTr mFl dyn) (aa : ((¬ ((((o.toInt = 0 ∨ o.toInt = 1) ∧ (0 ≤ t.toInt ∧ t.toInt < xTn.toInt)) ∨ (o.toInt = 2 ∧ (0 ≤ t.toInt ∧ t.toInt < xTn.toInt) ∧ t.toInt ≠ 0) ∨ (o.toInt = 3 ∧ (0 ≤ t.toInt ∧ t.toInt < xTn.toInt) ∧ t.toInt ≠ 1) ∨ (o.toInt = 4 ∧ ((0 ≤ t.toInt ∧ t.toInt < xTn.toInt) ∨ t.toInt = 10))) ∧ (2 < o.toInt ∨ (0 ≤ w.toInt ∧ w.toInt < 6)))) ∧ (-1) = rx ∧ xRc = yRc ∧ xRe = yRe ∧ dyn = yyn) ∨ ((((((o.toInt = 0 ∨ o.toInt = 1) ∧ (0 ≤ t.toInt ∧ t.toInt < xTn.toInt)) ∨ (o.toInt = 2 ∧ (0 ≤ t.toInt ∧ t.toInt < xTn.toInt) ∧ t.toInt ≠ 0) ∨ (o.toInt = 3 ∧ (0 ≤ t.toInt ∧ t.toInt < xTn.toInt) ∧ t.toInt ≠ 1) ∨ (o.toInt = 4 ∧ ((0 ≤ t.toInt ∧ t.toInt < xTn.toInt) ∨ t.toInt = 10))) ∧ (2 < o.toInt ∨ (0 ≤ w.toInt ∧ w.toInt < 6))) ∧ 30 ≤ xRc.toInt) ∧ (-2) = rx ∧ xRc = yRc ∧ xRe = yRe ∧ dyn = yyn) ∨ (∃ (f9 : Nat → Option Nat) (e9 : pm_H), (((((o.toInt = 0 ∨ o.toInt = 1) ∧ (0 ≤ t.toInt ∧ t.toInt < xTn.toInt)) ∨ (o.toInt = 2 ∧ (0 ≤ t.toInt ∧ t.toInt < xTn.toInt) ∧ t.toInt ≠ 0) ∨ (o.toInt = 3 ∧ (0 ≤ t.toInt ∧ t.toInt < xTn.toInt) ∧ t.toInt ≠ 1) ∨ (o.toInt = 4 ∧ ((0 ≤ t.toInt ∧ t.toInt < xTn.toInt) ∨ t.toInt = 10))) ∧ (2 < o.toInt ∨ (0 ≤ w.toInt ∧ w.toInt < 6))) ∧ xRc.toInt < 30) ∧ (reF (upd mFo xRc.toNatClampNeg o) (upd mRt xRc.toNatClampNeg t) (upd mRm xRc.toNatClampNeg w) (xRc + 1) f9 (dyn ++ e9)) ∧ (xRc + 1 - 1) = rx ∧ xRc + 1 = yRc ∧ f9 = yRe ∧ dyn ++ e9 = yyn)) (bb : ((¬ ((0 ≤ o.toInt ∧ o.toInt ≤ 4) ∧ ((o.toInt < 2 ∧ (0 ≤ t.toInt ∧ t.toInt < mTy.toInt)) ∨ (o.toInt = 2 ∧ (0 ≤ t.toInt ∧ t.toInt < mTy.toInt) ∧ t.toInt ≠ 0) ∨ (o.toInt = 3 ∧ (0 ≤ t.toInt ∧ t.toInt < mTy.toInt ∧ t.toInt ≠ 1)) ∨ (o.toInt = 4 ∧ ((0 ≤ t.toInt ∧ t.toInt < mTy.toInt) ∨ t.toInt = 10))) ∧ (3 ≤ o.toInt ∨ (0 ≤ w.toInt ∧ w.toInt ≤ 5)))) ∧ (-1) = rm ∧ mRn = nRn ∧ mFo = nFo ∧ mRt = nRt ∧ mRm = nRm) ∨ ((((0 ≤ o.toInt ∧ o.toInt ≤ 4) ∧ ((o.toInt < 2 ∧ (0 ≤ t.toInt ∧ t.toInt < mTy.toInt)) ∨ (o.toInt = 2 ∧ (0 ≤ t.toInt ∧ t.toInt < mTy.toInt) ∧ t.toInt ≠ 0) ∨ (o.toInt = 3 ∧ (0 ≤ t.toInt ∧ t.toInt < mTy.toInt ∧ t.toInt ≠ 1)) ∨ (o.toInt = 4 ∧ ((0 ≤ t.toInt ∧ t.toInt < mTy.toInt) ∨ t.toInt = 10))) ∧ (3 ≤ o.toInt ∨ (0 ≤ w.toInt ∧ w.toInt ≤ 5))) ∧ mRn.toInt = 30) ∧ (-2) = rm ∧ mRn = nRn ∧ mFo = nFo ∧ mRt = nRt ∧ mRm = nRm) ∨ ((((0 ≤ o.toInt ∧ o.toInt ≤ 4) ∧ ((o.toInt < 2 ∧ (0 ≤ t.toInt ∧ t.toInt < mTy.toInt)) ∨ (o.toInt = 2 ∧ (0 ≤ t.toInt ∧ t.toInt < mTy.toInt) ∧ t.toInt ≠ 0) ∨ (o.toInt = 3 ∧ (0 ≤ t.toInt ∧ t.toInt < mTy.toInt ∧ t.toInt ≠ 1)) ∨ (o.toInt = 4 ∧ ((0 ≤ t.toInt ∧ t.toInt < mTy.toInt) ∨ t.toInt = 10))) ∧ (3 ≤ o.toInt ∨ (0 ≤ w.toInt ∧ w.toInt ≤ 5))) ∧ mRn.toInt < 30) ∧ (mRn + 1 - 1) = rm ∧ mRn + 1 = nRn ∧ upd mFo mRn.toNatClampNeg o = nFo ∧ upd mRt mRn.toNatClampNeg t = nRt ∧ upd mRm mRn.toNatClampNeg w = nRm)) : rIv xTc xFc yRc xVc xLr xFl xTn xMn xSt xAb xVa xD1 xD2 xTl xOl xKn xPa xUp xAl xHa xNm xKi xAm xPl xKe xTo xFa yRe xVl xAr mTy mPa mTo mTm mMn mOt mNa mRe mMa mMy mPm mFn mFy mFa mFr nRn nFo nRt nRm mTn mTt mTi mPl mVn mVr mVf mVc mAr mLr mTc mTr mFl yyn ∧ rx = rm := by
  have e_r_tn := h.r_tn
  have e_r_tc := h.r_tc
  have e_r_to := h.r_to
  have e_r_mn := h.r_mn
  have e_r_fc := h.r_fc
  have e_r_rc := h.r_rc
  have e_r_tl := h.r_tl
  have e_r_ki := h.r_ki
  have e_r_am := h.r_am
  have e_r_pl := h.r_pl
  have e_r_vc := h.r_vc
  have e_r_ar := h.r_ar
  have e_r_lr := h.r_lr
  have e_r_fl := h.r_fl
  have e_r_kn := h.r_kn
  subst e_r_tn; subst e_r_tc; subst e_r_to; subst e_r_mn; subst e_r_fc; subst e_r_rc; subst e_r_tl; subst e_r_ki; subst e_r_am; subst e_r_pl; subst e_r_vc; subst e_r_ar; subst e_r_lr; subst e_r_fl; subst e_r_kn
  have w1 := hm.ity
  have w2 := hm.itm
  have w3 := hm.imn
  have w4 := hm.ifn
  have w5 := hm.irn
  have w6 := hm.itn
  have w7 := hm.ivn
  have w8 := hm.itr
  rcases bb with bb | bb | bb
  · obtain ⟨u0, ff0, ff1, ff2, ff3, ff4⟩ := bb
    rcases aa with aa | aa | aa
    · obtain ⟨q0, ee0, ee1, ee2, ee3⟩ := aa
      subst ee0 ee1 ee2 ee3 ff0 ff1 ff2 ff3 ff4
      exact ⟨h, rfl⟩
    · obtain ⟨q0, ee0, ee1, ee2, ee3⟩ := aa
      subst ee0 ee1 ee2 ee3 ff0 ff1 ff2 ff3 ff4
      exfalso; omega
    · obtain ⟨f9x, e9x, q0, q1, ee0, ee1, ee2, ee3⟩ := aa
      subst ee0 ee1 ee2 ee3 ff0 ff1 ff2 ff3 ff4
      exfalso; omega
  · obtain ⟨u0, ff0, ff1, ff2, ff3, ff4⟩ := bb
    rcases aa with aa | aa | aa
    · obtain ⟨q0, ee0, ee1, ee2, ee3⟩ := aa
      subst ee0 ee1 ee2 ee3 ff0 ff1 ff2 ff3 ff4
      exfalso; omega
    · obtain ⟨q0, ee0, ee1, ee2, ee3⟩ := aa
      subst ee0 ee1 ee2 ee3 ff0 ff1 ff2 ff3 ff4
      exact ⟨h, rfl⟩
    · obtain ⟨f9x, e9x, q0, q1, ee0, ee1, ee2, ee3⟩ := aa
      subst ee0 ee1 ee2 ee3 ff0 ff1 ff2 ff3 ff4
      exfalso; omega
  · obtain ⟨u0, ff0, ff1, ff2, ff3, ff4⟩ := bb
    rcases aa with aa | aa | aa
    · obtain ⟨q0, ee0, ee1, ee2, ee3⟩ := aa
      subst ee0 ee1 ee2 ee3 ff0 ff1 ff2 ff3 ff4
      exfalso; omega
    · obtain ⟨q0, ee0, ee1, ee2, ee3⟩ := aa
      subst ee0 ee1 ee2 ee3 ff0 ff1 ff2 ff3 ff4
      exfalso; omega
    · obtain ⟨f9x, e9x, q0, q1, ee0, ee1, ee2, ee3⟩ := aa
      subst ee0 ee1 ee2 ee3 ff0 ff1 ff2 ff3 ff4
      exact ⟨ri_ref hm h (by unfold rfR; omega) (by omega) q1, rfl⟩
set_option maxRecDepth 100000 in
set_option maxHeartbeats 4000000 in
theorem pr_face {xTc : Int32} {xFc : Int32} {xRc : Int32} {xVc : Int32} {xLr : Int32} {xFl : Int32} {xTn : Int32} {xMn : Int32} {xSt : Int64} {xAb : Int64} {xVa : Int64} {xD1 : Value} {xD2 : Value} {xTl : Int32} {xOl : Int32} {xKn : Int32} {xPa : Nat → Int32} {xUp : Nat → Int32} {xAl : Nat → Option Nat} {xHa : Nat → Int64} {xNm : Nat → Int64} {xKi : Nat → Int32} {xAm : Nat → Int32} {xPl : Nat → Int32} {xKe : Nat → Int32} {xTo : Nat → Int32} {xFa : Nat → Option Nat} {xRe : Nat → Option Nat} {xVl : Nat → Option Nat} {xAr : Nat → Int32} {mTy : Int32} {mPa : Nat → Int32} {mTo : Nat → Int32} {mTm : Int32} {mMn : Int32} {mOt : Nat → Int32} {mNa : Nat → Int32} {mRe : Nat → Int32} {mMa : Nat → Int32} {mMy : Nat → Int32} {mPm : Nat → Int32} {mFn : Int32} {mFy : Nat → Int32} {mFa : Nat → Int32} {mFr : Nat → Int32} {mRn : Int32} {mFo : Nat → Int32} {mRt : Nat → Int32} {mRm : Nat → Int32} {mTn : Int32} {mTt : Nat → Int32} {mTi : Nat → Int32} {mPl : Nat → Int32} {mVn : Int32} {mVr : Nat → Int32} {mVf : Nat → Int32} {mVc : Nat → Int32} {mAr : Nat → Int32} {mLr : Int32} {mTc : Nat → Int32} {mTr : Int32} {mFl : Int32} {dyn : pm_H} {yTc : Int32} {yFc : Int32} {yFa : Nat → Option Nat} {yyn : pm_H} {nTm : Int32} {nFn : Int32} {nFy : Nat → Int32} {nFa : Nat → Int32} {nFr : Nat → Int32} {r : Int32} {rx : Int32} {rm : Int32}  (hm : mIv mTy mPa mTo mTm mMn mOt mNa mRe mMa mMy mPm mFn mFy mFa mFr mRn mFo mRt mRm mTn mTt mTi mVn mVr mVf mVc mTr) (hn : mIv mTy mPa mTo nTm mMn mOt mNa mRe mMa mMy mPm nFn nFy nFa nFr mRn mFo mRt mRm mTn mTt mTi mVn mVr mVf mVc mTr) (h : rIv xTc xFc xRc xVc xLr xFl xTn xMn xSt xAb xVa xD1 xD2 xTl xOl xKn xPa xUp xAl xHa xNm xKi xAm xPl xKe xTo xFa xRe xVl xAr mTy mPa mTo mTm mMn mOt mNa mRe mMa mMy mPm mFn mFy mFa mFr mRn mFo mRt mRm mTn mTt mTi mPl mVn mVr mVf mVc mAr mLr mTc mTr mFl dyn) (aa : ((¬ xA xUp r) ∧ (-1) = rx ∧ xTc = yTc ∧ xFc = yFc ∧ xFa = yFa ∧ dyn = yyn) ∨ ((xA xUp r) ∧ (10 ≤ xFc.toInt) ∧ (-2) = rx ∧ xTc = yTc ∧ xFc = yFc ∧ xFa = yFa ∧ dyn = yyn) ∨ (∃ (f9 : Nat → Option Nat) (e9 : pm_H), (xA xUp r) ∧ (xFc.toInt < 10) ∧ (faF (upd mFy xFc.toNatClampNeg xTc) (cpF mFa xTo xFc xTc) (upd mFr xFc.toNatClampNeg r) (xFc + 1) f9 (dyn ++ e9)) ∧ (xFc + 1 - 1) = rx ∧ 0 = yTc ∧ xFc + 1 = yFc ∧ f9 = yFa ∧ dyn ++ e9 = yyn)) (bb : ((¬ anyT mTy r) ∧ (-1) = rm ∧ mTm = nTm ∧ mFn = nFn ∧ mFy = nFy ∧ mFa = nFa ∧ mFr = nFr) ∨ ((anyT mTy r ∧ mFn.toInt = 10) ∧ (-2) = rm ∧ mTm = nTm ∧ mFn = nFn ∧ mFy = nFy ∧ mFa = nFa ∧ mFr = nFr) ∨ ((anyT mTy r ∧ mFn.toInt < 10) ∧ (mFn + 1 - 1) = rm ∧ 0 = nTm ∧ mFn + 1 = nFn ∧ upd mFy mFn.toNatClampNeg mTm = nFy ∧ cpF mFa mTo mFn mTm = nFa ∧ upd mFr mFn.toNatClampNeg r = nFr)) : rIv yTc yFc xRc xVc xLr xFl xTn xMn xSt xAb xVa xD1 xD2 xTl xOl xKn xPa xUp xAl xHa xNm xKi xAm xPl xKe xTo yFa xRe xVl xAr mTy mPa mTo nTm mMn mOt mNa mRe mMa mMy mPm nFn nFy nFa nFr mRn mFo mRt mRm mTn mTt mTi mPl mVn mVr mVf mVc mAr mLr mTc mTr mFl yyn ∧ rx = rm := by
  have e_r_tn := h.r_tn
  have e_r_tc := h.r_tc
  have e_r_to := h.r_to
  have e_r_mn := h.r_mn
  have e_r_fc := h.r_fc
  have e_r_rc := h.r_rc
  have e_r_tl := h.r_tl
  have e_r_ki := h.r_ki
  have e_r_am := h.r_am
  have e_r_pl := h.r_pl
  have e_r_vc := h.r_vc
  have e_r_ar := h.r_ar
  have e_r_lr := h.r_lr
  have e_r_fl := h.r_fl
  have e_r_kn := h.r_kn
  subst e_r_tn; subst e_r_tc; subst e_r_to; subst e_r_mn; subst e_r_fc; subst e_r_rc; subst e_r_tl; subst e_r_ki; subst e_r_am; subst e_r_pl; subst e_r_vc; subst e_r_ar; subst e_r_lr; subst e_r_fl; subst e_r_kn
  have w1 := hm.ity
  have w2 := hm.itm
  have w3 := hm.imn
  have w4 := hm.ifn
  have w5 := hm.irn
  have w6 := hm.itn
  have w7 := hm.ivn
  have w8 := hm.itr
  have hat := h.r_mm.1.1 r
  simp only [hat] at aa
  rcases bb with bb | bb | bb
  · obtain ⟨u0, ff0, ff1, ff2, ff3, ff4, ff5⟩ := bb
    rcases aa with aa | aa | aa
    · obtain ⟨q0, ee0, ee1, ee2, ee3, ee4⟩ := aa
      subst ee0 ee1 ee2 ee3 ee4 ff0 ff1 ff2 ff3 ff4 ff5
      exact ⟨h, rfl⟩
    · obtain ⟨q0, q1, ee0, ee1, ee2, ee3, ee4⟩ := aa
      subst ee0 ee1 ee2 ee3 ee4 ff0 ff1 ff2 ff3 ff4 ff5
      exact absurd q0 u0
    · obtain ⟨f9x, e9x, q0, q1, q2, ee0, ee1, ee2, ee3, ee4⟩ := aa
      subst ee0 ee1 ee2 ee3 ee4 ff0 ff1 ff2 ff3 ff4 ff5
      exact absurd q0 u0
  · obtain ⟨u0, ff0, ff1, ff2, ff3, ff4, ff5⟩ := bb
    rcases aa with aa | aa | aa
    · obtain ⟨q0, ee0, ee1, ee2, ee3, ee4⟩ := aa
      subst ee0 ee1 ee2 ee3 ee4 ff0 ff1 ff2 ff3 ff4 ff5
      exact absurd u0.1 q0
    · obtain ⟨q0, q1, ee0, ee1, ee2, ee3, ee4⟩ := aa
      subst ee0 ee1 ee2 ee3 ee4 ff0 ff1 ff2 ff3 ff4 ff5
      exact ⟨h, rfl⟩
    · obtain ⟨f9x, e9x, q0, q1, q2, ee0, ee1, ee2, ee3, ee4⟩ := aa
      subst ee0 ee1 ee2 ee3 ee4 ff0 ff1 ff2 ff3 ff4 ff5
      exfalso; omega
  · obtain ⟨u0, ff0, ff1, ff2, ff3, ff4, ff5⟩ := bb
    rcases aa with aa | aa | aa
    · obtain ⟨q0, ee0, ee1, ee2, ee3, ee4⟩ := aa
      subst ee0 ee1 ee2 ee3 ee4 ff0 ff1 ff2 ff3 ff4 ff5
      exact absurd u0.1 q0
    · obtain ⟨q0, q1, ee0, ee1, ee2, ee3, ee4⟩ := aa
      subst ee0 ee1 ee2 ee3 ee4 ff0 ff1 ff2 ff3 ff4 ff5
      exfalso; omega
    · obtain ⟨f9x, e9x, q0, q1, q2, ee0, ee1, ee2, ee3, ee4⟩ := aa
      subst ee0 ee1 ee2 ee3 ee4 ff0 ff1 ff2 ff3 ff4 ff5
      exact ⟨ri_face hm h q0 (by omega) q2, rfl⟩
set_option maxRecDepth 100000 in
set_option maxHeartbeats 4000000 in
theorem pr_place {xTc : Int32} {xFc : Int32} {xRc : Int32} {xVc : Int32} {xLr : Int32} {xFl : Int32} {xTn : Int32} {xMn : Int32} {xSt : Int64} {xAb : Int64} {xVa : Int64} {xD1 : Value} {xD2 : Value} {xTl : Int32} {xOl : Int32} {xKn : Int32} {xPa : Nat → Int32} {xUp : Nat → Int32} {xAl : Nat → Option Nat} {xHa : Nat → Int64} {xNm : Nat → Int64} {xKi : Nat → Int32} {xAm : Nat → Int32} {xPl : Nat → Int32} {xKe : Nat → Int32} {xTo : Nat → Int32} {xFa : Nat → Option Nat} {xRe : Nat → Option Nat} {xVl : Nat → Option Nat} {xAr : Nat → Int32} {mTy : Int32} {mPa : Nat → Int32} {mTo : Nat → Int32} {mTm : Int32} {mMn : Int32} {mOt : Nat → Int32} {mNa : Nat → Int32} {mRe : Nat → Int32} {mMa : Nat → Int32} {mMy : Nat → Int32} {mPm : Nat → Int32} {mFn : Int32} {mFy : Nat → Int32} {mFa : Nat → Int32} {mFr : Nat → Int32} {mRn : Int32} {mFo : Nat → Int32} {mRt : Nat → Int32} {mRm : Nat → Int32} {mTn : Int32} {mTt : Nat → Int32} {mTi : Nat → Int32} {mPl : Nat → Int32} {mVn : Int32} {mVr : Nat → Int32} {mVf : Nat → Int32} {mVc : Nat → Int32} {mAr : Nat → Int32} {mLr : Int32} {mTc : Nat → Int32} {mTr : Int32} {mFl : Int32} {dyn : pm_H} {v : Int32} {i : Int32} {rx : Int32} {rm : Int32}  (hm : mIv mTy mPa mTo mTm mMn mOt mNa mRe mMa mMy mPm mFn mFy mFa mFr mRn mFo mRt mRm mTn mTt mTi mVn mVr mVf mVc mTr) (hn : mIv mTy mPa mTo mTm mMn mOt mNa mRe mMa mMy mPm mFn mFy mFa mFr mRn mFo mRt mRm mTn mTt mTi mVn mVr mVf mVc mTr) (h : rIv xTc xFc xRc xVc xLr xFl xTn xMn xSt xAb xVa xD1 xD2 xTl xOl xKn xPa xUp xAl xHa xNm xKi xAm xPl xKe xTo xFa xRe xVl xAr mTy mPa mTo mTm mMn mOt mNa mRe mMa mMy mPm mFn mFy mFa mFr mRn mFo mRt mRm mTn mTt mTi mPl mVn mVr mVf mVc mAr mLr mTc mTr mFl dyn) (aa : ((¬ ((1 ≤ v.toInt ∧ v.toInt ≤ xTl.toInt) ∧ xRw xUp (xKi v.toNatClampNeg) ∧ 0 ≤ i.toInt ∧ i.toInt < (xAm v.toNatClampNeg).toInt)) ∧ (-1) = rx) ∨ ((((1 ≤ v.toInt ∧ v.toInt ≤ xTl.toInt) ∧ xRw xUp (xKi v.toNatClampNeg) ∧ 0 ≤ i.toInt ∧ i.toInt < (xAm v.toNatClampNeg).toInt)) ∧ (i.toInt < 20) ∧ (xPl (v * 20 + i).toNatClampNeg) = rx) ∨ ((((1 ≤ v.toInt ∧ v.toInt ≤ xTl.toInt) ∧ xRw xUp (xKi v.toNatClampNeg) ∧ 0 ≤ i.toInt ∧ i.toInt < (xAm v.toNatClampNeg).toInt)) ∧ (20 ≤ i.toInt) ∧ 0 = rx)) (bb : ((((1 ≤ v.toInt ∧ v.toInt ≤ mTn.toInt) ∧ 20 ≤ (mTt v.toNatClampNeg).toInt ∧ 0 ≤ i.toInt ∧ i.toInt < (mTi v.toNatClampNeg).toInt)) ∧ (mPl (20 * v + i).toNatClampNeg) = rm) ∨ ((¬ ((1 ≤ v.toInt ∧ v.toInt ≤ mTn.toInt) ∧ 20 ≤ (mTt v.toNatClampNeg).toInt ∧ 0 ≤ i.toInt ∧ i.toInt < (mTi v.toNatClampNeg).toInt)) ∧ (-1) = rm)) : rIv xTc xFc xRc xVc xLr xFl xTn xMn xSt xAb xVa xD1 xD2 xTl xOl xKn xPa xUp xAl xHa xNm xKi xAm xPl xKe xTo xFa xRe xVl xAr mTy mPa mTo mTm mMn mOt mNa mRe mMa mMy mPm mFn mFy mFa mFr mRn mFo mRt mRm mTn mTt mTi mPl mVn mVr mVf mVc mAr mLr mTc mTr mFl dyn ∧ rx = rm := by
  have e_r_tn := h.r_tn
  have e_r_tc := h.r_tc
  have e_r_to := h.r_to
  have e_r_mn := h.r_mn
  have e_r_fc := h.r_fc
  have e_r_rc := h.r_rc
  have e_r_tl := h.r_tl
  have e_r_ki := h.r_ki
  have e_r_am := h.r_am
  have e_r_pl := h.r_pl
  have e_r_vc := h.r_vc
  have e_r_ar := h.r_ar
  have e_r_lr := h.r_lr
  have e_r_fl := h.r_fl
  have e_r_kn := h.r_kn
  subst e_r_tn; subst e_r_tc; subst e_r_to; subst e_r_mn; subst e_r_fc; subst e_r_rc; subst e_r_tl; subst e_r_ki; subst e_r_am; subst e_r_pl; subst e_r_vc; subst e_r_ar; subst e_r_lr; subst e_r_fl; subst e_r_kn
  have w1 := hm.ity
  have w2 := hm.itm
  have w3 := hm.imn
  have w4 := hm.ifn
  have w5 := hm.irn
  have w6 := hm.itn
  have w7 := hm.ivn
  have w8 := hm.itr
  have hxr : (1 ≤ v.toInt ∧ v.toInt ≤ mTn.toInt) → (xRw xUp (mTt v.toNatClampNeg) ↔ 20 ≤ (mTt v.toNatClampNeg).toInt) := fun q => by
    have hx := xN (x := v) (by omega)
    have hk := h.r_kd v.toNatClampNeg (by omega) (by omega)
    unfold xRw
    rw [h.r_mm.1.1]
    exact ⟨fun z => z.2, fun z => ⟨kd_any hk, z⟩⟩
  have hti : (1 ≤ v.toInt ∧ v.toInt ≤ mTn.toInt) → 20 ≤ (mTt v.toNatClampNeg).toInt → (mTi v.toNatClampNeg).toInt ≤ 20 := fun q z => ((hm.itk v.toNatClampNeg (by have hx := xN (x := v) (by omega); omega) (by have hx := xN (x := v) (by omega); omega)).2 z).2
  rcases bb with bb | bb
  · obtain ⟨u0, ff0⟩ := bb
    rcases aa with aa | aa | aa
    · obtain ⟨q0, ee0⟩ := aa
      subst ee0 ff0
      exact absurd ⟨u0.1, (hxr u0.1).mpr u0.2.1, u0.2.2⟩ q0
    · obtain ⟨q0, q1, ee0⟩ := aa
      subst ee0 ff0
      refine ⟨h, ?_⟩; rw [show v * 20 = 20 * v from Int32.mul_comm v 20]
    · obtain ⟨q0, q1, ee0⟩ := aa
      subst ee0 ff0
      have := hti u0.1 u0.2.1; exfalso; omega
  · obtain ⟨u0, ff0⟩ := bb
    rcases aa with aa | aa | aa
    · obtain ⟨q0, ee0⟩ := aa
      subst ee0 ff0
      exact ⟨h, rfl⟩
    · obtain ⟨q0, q1, ee0⟩ := aa
      subst ee0 ff0
      exact absurd ⟨q0.1, (hxr q0.1).mp q0.2.1, q0.2.2⟩ u0
    · obtain ⟨q0, q1, ee0⟩ := aa
      subst ee0 ff0
      exact absurd ⟨q0.1, (hxr q0.1).mp q0.2.1, q0.2.2⟩ u0
set_option maxRecDepth 100000 in
set_option maxHeartbeats 4000000 in
theorem pr_meant {xTc : Int32} {xFc : Int32} {xRc : Int32} {xVc : Int32} {xLr : Int32} {xFl : Int32} {xTn : Int32} {xMn : Int32} {xSt : Int64} {xAb : Int64} {xVa : Int64} {xBy : Value} {xBs : Int32} {xA1 : Value} {xF1 : Int32} {xT1 : Int64} {xP1 : Int32} {xD1 : Value} {xA2 : Value} {xF2 : Int32} {xT2 : Int64} {xP2 : Int32} {xD2 : Value} {xTl : Int32} {xOl : Int32} {xKn : Int32} {xPa : Nat → Int32} {xUp : Nat → Int32} {xAl : Nat → Option Nat} {xHa : Nat → Int64} {xNm : Nat → Int64} {xKi : Nat → Int32} {xAm : Nat → Int32} {xPl : Nat → Int32} {xKe : Nat → Int32} {xTo : Nat → Int32} {xFa : Nat → Option Nat} {xRe : Nat → Option Nat} {xVl : Nat → Option Nat} {xAr : Nat → Int32} {mTy : Int32} {mPa : Nat → Int32} {mTo : Nat → Int32} {mTm : Int32} {mMn : Int32} {mOt : Nat → Int32} {mNa : Nat → Int32} {mRe : Nat → Int32} {mMa : Nat → Int32} {mMy : Nat → Int32} {mPm : Nat → Int32} {mFn : Int32} {mFy : Nat → Int32} {mFa : Nat → Int32} {mFr : Nat → Int32} {mRn : Int32} {mFo : Nat → Int32} {mRt : Nat → Int32} {mRm : Nat → Int32} {mTn : Int32} {mTt : Nat → Int32} {mTi : Nat → Int32} {mPl : Nat → Int32} {mVn : Int32} {mVr : Nat → Int32} {mVf : Nat → Int32} {mVc : Nat → Int32} {mAr : Nat → Int32} {mLr : Int32} {mTc : Nat → Int32} {mTr : Int32} {mFl : Int32} {mFt : Nat → Int32} {mFm : Int32} {mFp : Int32} {mSc : Int32} {mMp : Int32} {dyn : pm_H} {yBy : Value} {yBs : Int32} {yA1 : Value} {yF1 : Int32} {yT1 : Int64} {yP1 : Int32} {yD1 : Value} {yA2 : Value} {yF2 : Int32} {yT2 : Int64} {yP2 : Int32} {yD2 : Value} {nFt : Nat → Int32} {nFm : Int32} {nFp : Int32} {nSc : Int32} {nMp : Int32} {r : Int32} {f : Int32} {o1 : Option Nat} {o2 : Option Nat} {rx : Int32} {rm : Int32}  (ho1 : ∀ b : Nat, o1 = some b → (b : Int) < mMn.toInt) (ho2 : ∀ b : Nat, o2 = some b → (b : Int) < mMn.toInt) (hm : mIv mTy mPa mTo mTm mMn mOt mNa mRe mMa mMy mPm mFn mFy mFa mFr mRn mFo mRt mRm mTn mTt mTi mVn mVr mVf mVc mTr) (hn : mIv mTy mPa mTo mTm mMn mOt mNa mRe mMa mMy mPm mFn mFy mFa mFr mRn mFo mRt mRm mTn mTt mTi mVn mVr mVf mVc mTr) (h : rIv xTc xFc xRc xVc xLr xFl xTn xMn xSt xAb xVa xD1 xD2 xTl xOl xKn xPa xUp xAl xHa xNm xKi xAm xPl xKe xTo xFa xRe xVl xAr mTy mPa mTo mTm mMn mOt mNa mRe mMa mMy mPm mFn mFy mFa mFr mRn mFo mRt mRm mTn mTt mTi mPl mVn mVr mVf mVc mAr mLr mTc mTr mFl dyn) (aa : ((¬ ((0 ≤ r.toInt ∧ r.toInt < xRc.toInt) ∧ (0 ≤ f.toInt ∧ f.toInt < xFc.toInt))) ∧ (-1) = rx ∧ xBy = yBy ∧ xBs = yBs ∧ xA1 = yA1 ∧ xF1 = yF1 ∧ xT1 = yT1 ∧ xP1 = yP1 ∧ xD1 = yD1 ∧ xA2 = yA2 ∧ xF2 = yF2 ∧ xT2 = yT2 ∧ xP2 = yP2 ∧ xD2 = yD2) ∨ (∃ (r9 : Int32) (b9 : Value) (s9 : Int32) (o19 : Option Nat) (o29 : Option Nat) (a19 : Value) (f19 : Int32) (t19 : Int64) (p19 : Int32) (d19 : Value) (a29 : Value) (f29 : Int32) (t29 : Int64) (p29 : Int32) (d29 : Value), (((0 ≤ r.toInt ∧ r.toInt < xRc.toInt) ∧ (0 ≤ f.toInt ∧ f.toInt < xFc.toInt))) ∧ (fdF mOt mNa mRe mMa mMy mPm dyn d19 o19) ∧ (fdF mOt mNa mRe mMa mMy mPm dyn d29 o29) ∧ (fiX xUp xPa mRe mMa mMy mPm xSt xAb xHa xNm xTn xMn (mFy f.toNatClampNeg).toNatClampNeg (cutF mFy mFa f.toNatClampNeg) (mFo r.toNatClampNeg) (mRt r.toNatClampNeg) (rnF mFo mRm r.toNatClampNeg) (mFr f.toNatClampNeg) f19 t19 p19 o19 f29 t29 p29 o29 b9 s9 r9) ∧ ((mFo r.toNatClampNeg).toInt = 4 → o19 = o1) ∧ ((mFo r.toNatClampNeg).toInt ≠ 0 → o29 = o2) ∧ r9 = rx ∧ b9 = yBy ∧ s9 = yBs ∧ a19 = yA1 ∧ f19 = yF1 ∧ t19 = yT1 ∧ p19 = yP1 ∧ d19 = yD1 ∧ a29 = yA2 ∧ f29 = yF2 ∧ t29 = yT2 ∧ p29 = yP2 ∧ d29 = yD2)) (bb : ((¬ ((0 ≤ r.toInt ∧ r.toInt < mRn.toInt) ∧ (0 ≤ f.toInt ∧ f.toInt < mFn.toInt))) ∧ (-1) = rm ∧ mFt = nFt ∧ mFm = nFm ∧ mFp = nFp ∧ mSc = nSc ∧ mMp = nMp) ∨ (∃ (s9 : Int32) (f9 : Nat → Int32) (m9 : Int32) (q9 : Int32) (p9 : Int32) (r9 : Int32), ((0 ≤ r.toInt ∧ r.toInt < mRn.toInt) ∧ (0 ≤ f.toInt ∧ f.toInt < mFn.toInt)) ∧ (wmM mPa mOt mNa mRe mMy mPm mMa mFa mFy mFr mMn (mFo r.toNatClampNeg) (mRt r.toNatClampNeg) (mRm r.toNatClampNeg) f s9 p9 r9) ∧ ((-15 ≤ r9.toInt ∧ (r9.toInt < mMn.toInt ∨ (r9.toInt = 99 ∧ 3 ≤ (mFo r.toNatClampNeg).toInt))) ∧ (0 ≤ p9.toInt ∧ p9.toInt ≤ 3)) ∧ r9 = rm ∧ f9 = nFt ∧ m9 = nFm ∧ q9 = nFp ∧ s9 = nSc ∧ p9 = nMp)) : rIv xTc xFc xRc xVc xLr xFl xTn xMn xSt xAb xVa yD1 yD2 xTl xOl xKn xPa xUp xAl xHa xNm xKi xAm xPl xKe xTo xFa xRe xVl xAr mTy mPa mTo mTm mMn mOt mNa mRe mMa mMy mPm mFn mFy mFa mFr mRn mFo mRt mRm mTn mTt mTi mPl mVn mVr mVf mVc mAr mLr mTc mTr mFl dyn ∧ rx = rm := by
  have e_r_tn := h.r_tn
  have e_r_tc := h.r_tc
  have e_r_to := h.r_to
  have e_r_mn := h.r_mn
  have e_r_fc := h.r_fc
  have e_r_rc := h.r_rc
  have e_r_tl := h.r_tl
  have e_r_ki := h.r_ki
  have e_r_am := h.r_am
  have e_r_pl := h.r_pl
  have e_r_vc := h.r_vc
  have e_r_ar := h.r_ar
  have e_r_lr := h.r_lr
  have e_r_fl := h.r_fl
  have e_r_kn := h.r_kn
  subst e_r_tn; subst e_r_tc; subst e_r_to; subst e_r_mn; subst e_r_fc; subst e_r_rc; subst e_r_tl; subst e_r_ki; subst e_r_am; subst e_r_pl; subst e_r_vc; subst e_r_ar; subst e_r_lr; subst e_r_fl; subst e_r_kn
  have w1 := hm.ity
  have w2 := hm.itm
  have w3 := hm.imn
  have w4 := hm.ifn
  have w5 := hm.irn
  have w6 := hm.itn
  have w7 := hm.ivn
  have w8 := hm.itr
  have hrfx : (0 ≤ r.toInt ∧ r.toInt < mRn.toInt) → rfR mTy (mFo r.toNatClampNeg) (mRt r.toNatClampNeg) (mRm r.toNatClampNeg) := fun q => h.r_rf _ (by have := xN q.1; omega)
  have hfcx : (0 ≤ f.toInt ∧ f.toInt < mFn.toInt) → fcR mTy mFy mFa mFr f := fun q => ⟨by omega, fcD_at hm.ifc q, hm.ifa, h.r_fr _ (by have := xN q.1; omega)⟩
  rcases bb with bb | bb
  · obtain ⟨u0, ff0, ff1, ff2, ff3, ff4, ff5⟩ := bb
    rcases aa with aa | aa
    · obtain ⟨q0, ee0, ee1, ee2, ee3, ee4, ee5, ee6, ee7, ee8, ee9, ee10, ee11, ee12⟩ := aa
      subst ee0 ee1 ee2 ee3 ee4 ee5 ee6 ee7 ee8 ee9 ee10 ee11 ee12 ff0 ff1 ff2 ff3 ff4 ff5
      exact ⟨h, rfl⟩
    · obtain ⟨r9x, b9x, s9x, o19x, o29x, a19x, f19x, t19x, p19x, d19x, a29x, f29x, t29x, p29x, d29x, q0, q1, q2, q3, q4, q5, ee0, ee1, ee2, ee3, ee4, ee5, ee6, ee7, ee8, ee9, ee10, ee11, ee12⟩ := aa
      subst ee0 ee1 ee2 ee3 ee4 ee5 ee6 ee7 ee8 ee9 ee10 ee11 ee12 ff0 ff1 ff2 ff3 ff4 ff5
      exact absurd q0 u0
  · obtain ⟨s9m, f9m, m9m, q9m, p9m, r9m, u0, u1, u2, ff0, ff1, ff2, ff3, ff4, ff5⟩ := bb
    rcases aa with aa | aa
    · obtain ⟨q0, ee0, ee1, ee2, ee3, ee4, ee5, ee6, ee7, ee8, ee9, ee10, ee11, ee12⟩ := aa
      subst ee0 ee1 ee2 ee3 ee4 ee5 ee6 ee7 ee8 ee9 ee10 ee11 ee12 ff0 ff1 ff2 ff3 ff4 ff5
      exact absurd u0 q0
    · obtain ⟨r9x, b9x, s9x, o19x, o29x, a19x, f19x, t19x, p19x, d19x, a29x, f29x, t29x, p29x, d29x, q0, q1, q2, q3, q4, q5, ee0, ee1, ee2, ee3, ee4, ee5, ee6, ee7, ee8, ee9, ee10, ee11, ee12⟩ := aa
      subst ee0 ee1 ee2 ee3 ee4 ee5 ee6 ee7 ee8 ee9 ee10 ee11 ee12 ff0 ff1 ff2 ff3 ff4 ff5
      obtain ⟨sc, mp, k1, _⟩ := fi_x h.r_mm (hfcx q0.2) (hrfx q0.1) q3; have fb := fo_b h.r_mm (hfcx q0.2) (hrfx q0.1) q3 q4 q5 ho1 ho2; exact ⟨(rIv.mk (r_tn := h.r_tn) (r_tc := h.r_tc) (r_to := h.r_to) (r_mn := h.r_mn) (r_fc := h.r_fc) (r_rc := h.r_rc) (r_tl := h.r_tl) (r_ki := h.r_ki) (r_am := h.r_am) (r_pl := h.r_pl) (r_vc := h.r_vc) (r_ar := h.r_ar) (r_lr := h.r_lr) (r_fl := h.r_fl) (r_kn := h.r_kn) (r_mm := h.r_mm) (r_ot := h.r_ot) (r_al := h.r_al) (r_fa := h.r_fa) (r_fr := h.r_fr) (r_re := h.r_re) (r_rf := h.r_rf) (r_kd := h.r_kd) (r_vl := h.r_vl) (r_ol := h.r_ol) (r_ke := h.r_ke) (r_d1 := ⟨_, q1, fb.1⟩) (r_d2 := ⟨_, q2, fb.2⟩)), (wm_e k1 u1).2.2⟩
set_option maxRecDepth 100000 in
set_option maxHeartbeats 4000000 in
theorem pr_search {xTc : Int32} {xFc : Int32} {xRc : Int32} {xVc : Int32} {xLr : Int32} {xFl : Int32} {xTn : Int32} {xMn : Int32} {xSt : Int64} {xAb : Int64} {xVa : Int64} {xA1 : Value} {xF1 : Int32} {xT1 : Int64} {xP1 : Int32} {xD1 : Value} {xA2 : Value} {xF2 : Int32} {xT2 : Int64} {xP2 : Int32} {xD2 : Value} {xTl : Int32} {xOl : Int32} {xKn : Int32} {xPa : Nat → Int32} {xUp : Nat → Int32} {xAl : Nat → Option Nat} {xHa : Nat → Int64} {xNm : Nat → Int64} {xKi : Nat → Int32} {xAm : Nat → Int32} {xPl : Nat → Int32} {xKe : Nat → Int32} {xTo : Nat → Int32} {xFa : Nat → Option Nat} {xRe : Nat → Option Nat} {xVl : Nat → Option Nat} {xAr : Nat → Int32} {mTy : Int32} {mPa : Nat → Int32} {mTo : Nat → Int32} {mTm : Int32} {mMn : Int32} {mOt : Nat → Int32} {mNa : Nat → Int32} {mRe : Nat → Int32} {mMa : Nat → Int32} {mMy : Nat → Int32} {mPm : Nat → Int32} {mFn : Int32} {mFy : Nat → Int32} {mFa : Nat → Int32} {mFr : Nat → Int32} {mRn : Int32} {mFo : Nat → Int32} {mRt : Nat → Int32} {mRm : Nat → Int32} {mTn : Int32} {mTt : Nat → Int32} {mTi : Nat → Int32} {mPl : Nat → Int32} {mVn : Int32} {mVr : Nat → Int32} {mVf : Nat → Int32} {mVc : Nat → Int32} {mAr : Nat → Int32} {mLr : Int32} {mTc : Nat → Int32} {mTr : Int32} {mFl : Int32} {mFt : Nat → Int32} {mFm : Int32} {mFp : Int32} {dyn : pm_H} {yA1 : Value} {yF1 : Int32} {yT1 : Int64} {yP1 : Int32} {yD1 : Value} {yA2 : Value} {yF2 : Int32} {yT2 : Int64} {yP2 : Int32} {yD2 : Value} {nFt : Nat → Int32} {nFm : Int32} {nFp : Int32} {r : Int32} {f : Int32} {wh : Int32} {o1 : Option Nat} {o2 : Option Nat} {rx : Int32} {rm : Int32}  (ho1 : ∀ b : Nat, o1 = some b → (b : Int) < mMn.toInt) (ho2 : ∀ b : Nat, o2 = some b → (b : Int) < mMn.toInt) (hm : mIv mTy mPa mTo mTm mMn mOt mNa mRe mMa mMy mPm mFn mFy mFa mFr mRn mFo mRt mRm mTn mTt mTi mVn mVr mVf mVc mTr) (hn : mIv mTy mPa mTo mTm mMn mOt mNa mRe mMa mMy mPm mFn mFy mFa mFr mRn mFo mRt mRm mTn mTt mTi mVn mVr mVf mVc mTr) (h : rIv xTc xFc xRc xVc xLr xFl xTn xMn xSt xAb xVa xD1 xD2 xTl xOl xKn xPa xUp xAl xHa xNm xKi xAm xPl xKe xTo xFa xRe xVl xAr mTy mPa mTo mTm mMn mOt mNa mRe mMa mMy mPm mFn mFy mFa mFr mRn mFo mRt mRm mTn mTt mTi mPl mVn mVr mVf mVc mAr mLr mTc mTr mFl dyn) (aa : ((¬ ((0 ≤ r.toInt ∧ r.toInt < xRc.toInt) ∧ (0 ≤ f.toInt ∧ f.toInt < xFc.toInt))) ∧ (-1) = rx ∧ xA1 = yA1 ∧ xF1 = yF1 ∧ xT1 = yT1 ∧ xP1 = yP1 ∧ xD1 = yD1 ∧ xA2 = yA2 ∧ xF2 = yF2 ∧ xT2 = yT2 ∧ xP2 = yP2 ∧ xD2 = yD2) ∨ ((((0 ≤ r.toInt ∧ r.toInt < xRc.toInt) ∧ (0 ≤ f.toInt ∧ f.toInt < xFc.toInt))) ∧ ((((mFo r.toNatClampNeg).toInt = 4) ∨ ((mFo r.toNatClampNeg).toInt = 0 ∧ (wh.toInt < 1 ∨ 2 < wh.toInt)) ∨ ((mFo r.toNatClampNeg).toInt ≠ 0 ∧ wh.toInt ≠ 1))) ∧ (-1) = rx ∧ xA1 = yA1 ∧ xF1 = yF1 ∧ xT1 = yT1 ∧ xP1 = yP1 ∧ xD1 = yD1 ∧ xA2 = yA2 ∧ xF2 = yF2 ∧ xT2 = yT2 ∧ xP2 = yP2 ∧ xD2 = yD2) ∨ ((((0 ≤ r.toInt ∧ r.toInt < xRc.toInt) ∧ (0 ≤ f.toInt ∧ f.toInt < xFc.toInt))) ∧ (¬ (((mFo r.toNatClampNeg).toInt = 4) ∨ ((mFo r.toNatClampNeg).toInt = 0 ∧ (wh.toInt < 1 ∨ 2 < wh.toInt)) ∨ ((mFo r.toNatClampNeg).toInt ≠ 0 ∧ wh.toInt ≠ 1))) ∧ (((mFo r.toNatClampNeg).toInt = 3 ∧ (hbX xHa xNm (mRt r.toNatClampNeg) &&& xAb ≠ 0 ∨ nmX xHa xNm (mRt r.toNatClampNeg) 6 = 0))) ∧ (-3) = rx ∧ xA1 = yA1 ∧ xF1 = yF1 ∧ xT1 = yT1 ∧ xP1 = yP1 ∧ xD1 = yD1 ∧ xA2 = yA2 ∧ xF2 = yF2 ∧ xT2 = yT2 ∧ xP2 = yP2 ∧ xD2 = yD2) ∨ (∃ (o19 : Option Nat) (a19 : Value) (f19 : Int32) (t19 : Int64) (p19 : Int32) (d19 : Value), (((0 ≤ r.toInt ∧ r.toInt < xRc.toInt) ∧ (0 ≤ f.toInt ∧ f.toInt < xFc.toInt))) ∧ (¬ (((mFo r.toNatClampNeg).toInt = 4) ∨ ((mFo r.toNatClampNeg).toInt = 0 ∧ (wh.toInt < 1 ∨ 2 < wh.toInt)) ∨ ((mFo r.toNatClampNeg).toInt ≠ 0 ∧ wh.toInt ≠ 1))) ∧ (¬ ((mFo r.toNatClampNeg).toInt = 3 ∧ (hbX xHa xNm (mRt r.toNatClampNeg) &&& xAb ≠ 0 ∨ nmX xHa xNm (mRt r.toNatClampNeg) 6 = 0))) ∧ (wh.toInt = 1) ∧ (fdF mOt mNa mRe mMa mMy mPm dyn d19 o19) ∧ (rsX xUp mMa mMy mPm (nmX xHa xNm (tsX xPa xTn (mFo r.toNatClampNeg) (mRt r.toNatClampNeg)) (rnF mFo mRm r.toNatClampNeg)) (tsX xPa xTn (mFo r.toNatClampNeg) (mRt r.toNatClampNeg)) (mFy f.toNatClampNeg).toNatClampNeg (cutF mFy mFa f.toNatClampNeg) xMn 0 f19 t19 p19 o19) ∧ (anX o19 t19) = rx ∧ a19 = yA1 ∧ f19 = yF1 ∧ t19 = yT1 ∧ p19 = yP1 ∧ d19 = yD1 ∧ xA2 = yA2 ∧ xF2 = yF2 ∧ xT2 = yT2 ∧ xP2 = yP2 ∧ xD2 = yD2) ∨ (∃ (o29 : Option Nat) (a29 : Value) (f29 : Int32) (t29 : Int64) (p29 : Int32) (d29 : Value), (((0 ≤ r.toInt ∧ r.toInt < xRc.toInt) ∧ (0 ≤ f.toInt ∧ f.toInt < xFc.toInt))) ∧ (¬ (((mFo r.toNatClampNeg).toInt = 4) ∨ ((mFo r.toNatClampNeg).toInt = 0 ∧ (wh.toInt < 1 ∨ 2 < wh.toInt)) ∨ ((mFo r.toNatClampNeg).toInt ≠ 0 ∧ wh.toInt ≠ 1))) ∧ (¬ ((mFo r.toNatClampNeg).toInt = 3 ∧ (hbX xHa xNm (mRt r.toNatClampNeg) &&& xAb ≠ 0 ∨ nmX xHa xNm (mRt r.toNatClampNeg) 6 = 0))) ∧ (wh.toInt ≠ 1) ∧ (fdF mOt mNa mRe mMa mMy mPm dyn d29 o29) ∧ (rsX xUp mMa mMy mPm (nmX xHa xNm (mRt r.toNatClampNeg) (rnF mFo mRm r.toNatClampNeg)) (mRt r.toNatClampNeg) (mFy f.toNatClampNeg).toNatClampNeg (cutF mFy mFa f.toNatClampNeg) xMn 1 f29 t29 p29 o29) ∧ (anX o29 t29) = rx ∧ xA1 = yA1 ∧ xF1 = yF1 ∧ xT1 = yT1 ∧ xP1 = yP1 ∧ xD1 = yD1 ∧ a29 = yA2 ∧ f29 = yF2 ∧ t29 = yT2 ∧ p29 = yP2 ∧ d29 = yD2)) (bb : ((¬ ((0 ≤ r.toInt ∧ r.toInt < mRn.toInt) ∧ (0 ≤ f.toInt ∧ f.toInt < mFn.toInt) ∧ (mFo r.toNatClampNeg).toInt ≠ 4 ∧ 1 ≤ wh.toInt ∧ (wh.toInt ≤ 1 ∨ (wh.toInt ≤ 2 ∧ (mFo r.toNatClampNeg).toInt = 0)))) ∧ (-1) = rm ∧ mFt = nFt ∧ mFm = nFm ∧ mFp = nFp) ∨ ((((0 ≤ r.toInt ∧ r.toInt < mRn.toInt) ∧ (0 ≤ f.toInt ∧ f.toInt < mFn.toInt) ∧ (mFo r.toNatClampNeg).toInt ≠ 4 ∧ 1 ≤ wh.toInt ∧ (wh.toInt ≤ 1 ∨ (wh.toInt ≤ 2 ∧ (mFo r.toNatClampNeg).toInt = 0))) ∧ (mFo r.toNatClampNeg).toInt = 3) ∧ ((opL mPa mOt mNa mMy mPm mMa mMn (mRt r.toNatClampNeg) 0 ∨ ¬ mkE mOt mNa mMn (mRt r.toNatClampNeg) 0)) ∧ (-3) = rm ∧ mFt = nFt ∧ mFm = nFm ∧ mFp = nFp) ∨ (∃ (f9 : Nat → Int32) (m9 : Int32) (p9 : Int32) (r9 : Int32), (((0 ≤ r.toInt ∧ r.toInt < mRn.toInt) ∧ (0 ≤ f.toInt ∧ f.toInt < mFn.toInt) ∧ (mFo r.toNatClampNeg).toInt ≠ 4 ∧ 1 ≤ wh.toInt ∧ (wh.toInt ≤ 1 ∨ (wh.toInt ≤ 2 ∧ (mFo r.toNatClampNeg).toInt = 0)))) ∧ ((mFo r.toNatClampNeg).toInt ≠ 3 ∨ (¬ opL mPa mOt mNa mMy mPm mMa mMn (mRt r.toNatClampNeg) 0 ∧ mkE mOt mNa mMn (mRt r.toNatClampNeg) 0)) ∧ (lkS mPa mOt mNa mMy mPm mMa mFa mFy mMn (mFo r.toNatClampNeg) (mRt r.toNatClampNeg) (mRm r.toNatClampNeg) f wh p9 r9) ∧ ((r9.toInt = -4 ∨ r9.toInt = -5 ∨ 0 ≤ r9.toInt)) ∧ ((-5 ≤ r9.toInt ∧ r9.toInt < mMn.toInt) ∧ (0 ≤ p9.toInt ∧ p9.toInt ≤ 3)) ∧ r9 = rm ∧ f9 = nFt ∧ m9 = nFm ∧ p9 = nFp)) : rIv xTc xFc xRc xVc xLr xFl xTn xMn xSt xAb xVa yD1 yD2 xTl xOl xKn xPa xUp xAl xHa xNm xKi xAm xPl xKe xTo xFa xRe xVl xAr mTy mPa mTo mTm mMn mOt mNa mRe mMa mMy mPm mFn mFy mFa mFr mRn mFo mRt mRm mTn mTt mTi mPl mVn mVr mVf mVc mAr mLr mTc mTr mFl dyn ∧ rx = rm := by
  have e_r_tn := h.r_tn
  have e_r_tc := h.r_tc
  have e_r_to := h.r_to
  have e_r_mn := h.r_mn
  have e_r_fc := h.r_fc
  have e_r_rc := h.r_rc
  have e_r_tl := h.r_tl
  have e_r_ki := h.r_ki
  have e_r_am := h.r_am
  have e_r_pl := h.r_pl
  have e_r_vc := h.r_vc
  have e_r_ar := h.r_ar
  have e_r_lr := h.r_lr
  have e_r_fl := h.r_fl
  have e_r_kn := h.r_kn
  subst e_r_tn; subst e_r_tc; subst e_r_to; subst e_r_mn; subst e_r_fc; subst e_r_rc; subst e_r_tl; subst e_r_ki; subst e_r_am; subst e_r_pl; subst e_r_vc; subst e_r_ar; subst e_r_lr; subst e_r_fl; subst e_r_kn
  have w1 := hm.ity
  have w2 := hm.itm
  have w3 := hm.imn
  have w4 := hm.ifn
  have w5 := hm.irn
  have w6 := hm.itn
  have w7 := hm.ivn
  have w8 := hm.itr
  have hrfx : (0 ≤ r.toInt ∧ r.toInt < mRn.toInt) → rfR mTy (mFo r.toNatClampNeg) (mRt r.toNatClampNeg) (mRm r.toNatClampNeg) := fun q => h.r_rf _ (by have := xN q.1; omega)
  have hfcx : (0 ≤ f.toInt ∧ f.toInt < mFn.toInt) → fcR mTy mFy mFa mFr f := fun q => ⟨by omega, fcD_at hm.ifc q, hm.ifa, h.r_fr _ (by have := xN q.1; omega)⟩
  have hsf : (0 ≤ r.toInt ∧ r.toInt < mRn.toInt) → (mFo r.toNatClampNeg).toInt ≠ 4 → ((hbX xHa xNm (mRt r.toNatClampNeg) &&& xAb ≠ 0 ∨ nmX xHa xNm (mRt r.toNatClampNeg) 6 = 0) ↔ (opL mPa mOt mNa mMy mPm mMa mMn (mRt r.toNatClampNeg) 0 ∨ ¬ mkE mOt mNa mMn (mRt r.toNatClampNeg) 0)) := fun q k => sf_x h.r_mm ((hrfx q).2.1 k)
  rcases bb with bb | bb | bb
  · obtain ⟨u0, ff0, ff1, ff2, ff3⟩ := bb
    rcases aa with aa | aa | aa | aa | aa
    · obtain ⟨q0, ee0, ee1, ee2, ee3, ee4, ee5, ee6, ee7, ee8, ee9, ee10⟩ := aa
      subst ee0 ee1 ee2 ee3 ee4 ee5 ee6 ee7 ee8 ee9 ee10 ff0 ff1 ff2 ff3
      exact ⟨h, rfl⟩
    · obtain ⟨q0, q1, ee0, ee1, ee2, ee3, ee4, ee5, ee6, ee7, ee8, ee9, ee10⟩ := aa
      subst ee0 ee1 ee2 ee3 ee4 ee5 ee6 ee7 ee8 ee9 ee10 ff0 ff1 ff2 ff3
      exact ⟨h, rfl⟩
    · obtain ⟨q0, q1, q2, ee0, ee1, ee2, ee3, ee4, ee5, ee6, ee7, ee8, ee9, ee10⟩ := aa
      subst ee0 ee1 ee2 ee3 ee4 ee5 ee6 ee7 ee8 ee9 ee10 ff0 ff1 ff2 ff3
      exfalso; omega
    · obtain ⟨o19x, a19x, f19x, t19x, p19x, d19x, q0, q1, q2, q3, q4, q5, ee0, ee1, ee2, ee3, ee4, ee5, ee6, ee7, ee8, ee9, ee10⟩ := aa
      subst ee0 ee1 ee2 ee3 ee4 ee5 ee6 ee7 ee8 ee9 ee10 ff0 ff1 ff2 ff3
      exfalso; omega
    · obtain ⟨o29x, a29x, f29x, t29x, p29x, d29x, q0, q1, q2, q3, q4, q5, ee0, ee1, ee2, ee3, ee4, ee5, ee6, ee7, ee8, ee9, ee10⟩ := aa
      subst ee0 ee1 ee2 ee3 ee4 ee5 ee6 ee7 ee8 ee9 ee10 ff0 ff1 ff2 ff3
      exfalso; omega
  · obtain ⟨u0, u1, ff0, ff1, ff2, ff3⟩ := bb
    rcases aa with aa | aa | aa | aa | aa
    · obtain ⟨q0, ee0, ee1, ee2, ee3, ee4, ee5, ee6, ee7, ee8, ee9, ee10⟩ := aa
      subst ee0 ee1 ee2 ee3 ee4 ee5 ee6 ee7 ee8 ee9 ee10 ff0 ff1 ff2 ff3
      exfalso; omega
    · obtain ⟨q0, q1, ee0, ee1, ee2, ee3, ee4, ee5, ee6, ee7, ee8, ee9, ee10⟩ := aa
      subst ee0 ee1 ee2 ee3 ee4 ee5 ee6 ee7 ee8 ee9 ee10 ff0 ff1 ff2 ff3
      exfalso; omega
    · obtain ⟨q0, q1, q2, ee0, ee1, ee2, ee3, ee4, ee5, ee6, ee7, ee8, ee9, ee10⟩ := aa
      subst ee0 ee1 ee2 ee3 ee4 ee5 ee6 ee7 ee8 ee9 ee10 ff0 ff1 ff2 ff3
      exact ⟨h, rfl⟩
    · obtain ⟨o19x, a19x, f19x, t19x, p19x, d19x, q0, q1, q2, q3, q4, q5, ee0, ee1, ee2, ee3, ee4, ee5, ee6, ee7, ee8, ee9, ee10⟩ := aa
      subst ee0 ee1 ee2 ee3 ee4 ee5 ee6 ee7 ee8 ee9 ee10 ff0 ff1 ff2 ff3
      exact absurd ⟨u0.2, (hsf q0.1 (by omega)).mpr u1⟩ q2
    · obtain ⟨o29x, a29x, f29x, t29x, p29x, d29x, q0, q1, q2, q3, q4, q5, ee0, ee1, ee2, ee3, ee4, ee5, ee6, ee7, ee8, ee9, ee10⟩ := aa
      subst ee0 ee1 ee2 ee3 ee4 ee5 ee6 ee7 ee8 ee9 ee10 ff0 ff1 ff2 ff3
      exact absurd ⟨u0.2, (hsf q0.1 (by omega)).mpr u1⟩ q2
  · obtain ⟨f9m, m9m, p9m, r9m, u0, u1, u2, u3, u4, ff0, ff1, ff2, ff3⟩ := bb
    rcases aa with aa | aa | aa | aa | aa
    · obtain ⟨q0, ee0, ee1, ee2, ee3, ee4, ee5, ee6, ee7, ee8, ee9, ee10⟩ := aa
      subst ee0 ee1 ee2 ee3 ee4 ee5 ee6 ee7 ee8 ee9 ee10 ff0 ff1 ff2 ff3
      exfalso; omega
    · obtain ⟨q0, q1, ee0, ee1, ee2, ee3, ee4, ee5, ee6, ee7, ee8, ee9, ee10⟩ := aa
      subst ee0 ee1 ee2 ee3 ee4 ee5 ee6 ee7 ee8 ee9 ee10 ff0 ff1 ff2 ff3
      exfalso; omega
    · obtain ⟨q0, q1, q2, ee0, ee1, ee2, ee3, ee4, ee5, ee6, ee7, ee8, ee9, ee10⟩ := aa
      subst ee0 ee1 ee2 ee3 ee4 ee5 ee6 ee7 ee8 ee9 ee10 ff0 ff1 ff2 ff3
      rcases u1 with u1 | u1 <;> first | (exfalso; exact u1 q2.1) | exact absurd ((hsf q0.1 (by omega)).mp q2.2) (fun z => z.elim u1.1 (fun z => z u1.2))
    · obtain ⟨o19x, a19x, f19x, t19x, p19x, d19x, q0, q1, q2, q3, q4, q5, ee0, ee1, ee2, ee3, ee4, ee5, ee6, ee7, ee8, ee9, ee10⟩ := aa
      subst ee0 ee1 ee2 ee3 ee4 ee5 ee6 ee7 ee8 ee9 ee10 ff0 ff1 ff2 ff3
      exact ⟨(rIv.mk (r_tn := h.r_tn) (r_tc := h.r_tc) (r_to := h.r_to) (r_mn := h.r_mn) (r_fc := h.r_fc) (r_rc := h.r_rc) (r_tl := h.r_tl) (r_ki := h.r_ki) (r_am := h.r_am) (r_pl := h.r_pl) (r_vc := h.r_vc) (r_ar := h.r_ar) (r_lr := h.r_lr) (r_fl := h.r_fl) (r_kn := h.r_kn) (r_mm := h.r_mm) (r_ot := h.r_ot) (r_al := h.r_al) (r_fa := h.r_fa) (r_fr := h.r_fr) (r_re := h.r_re) (r_rf := h.r_rf) (r_kd := h.r_kd) (r_vl := h.r_vl) (r_ol := h.r_ol) (r_ke := h.r_ke) (r_d1 := ⟨_, q4, sb_1 h.r_mm (hfcx q0.2) (hrfx q0.1) (by omega) q5⟩) (r_d2 := h.r_d2)), (lk_1 h.r_mm (hfcx q0.2) (hrfx q0.1) (by omega) q3 q5 u2).2⟩
    · obtain ⟨o29x, a29x, f29x, t29x, p29x, d29x, q0, q1, q2, q3, q4, q5, ee0, ee1, ee2, ee3, ee4, ee5, ee6, ee7, ee8, ee9, ee10⟩ := aa
      subst ee0 ee1 ee2 ee3 ee4 ee5 ee6 ee7 ee8 ee9 ee10 ff0 ff1 ff2 ff3
      exact ⟨(rIv.mk (r_tn := h.r_tn) (r_tc := h.r_tc) (r_to := h.r_to) (r_mn := h.r_mn) (r_fc := h.r_fc) (r_rc := h.r_rc) (r_tl := h.r_tl) (r_ki := h.r_ki) (r_am := h.r_am) (r_pl := h.r_pl) (r_vc := h.r_vc) (r_ar := h.r_ar) (r_lr := h.r_lr) (r_fl := h.r_fl) (r_kn := h.r_kn) (r_mm := h.r_mm) (r_ot := h.r_ot) (r_al := h.r_al) (r_fa := h.r_fa) (r_fr := h.r_fr) (r_re := h.r_re) (r_rf := h.r_rf) (r_kd := h.r_kd) (r_vl := h.r_vl) (r_ol := h.r_ol) (r_ke := h.r_ke) (r_d1 := h.r_d1) (r_d2 := ⟨_, q4, sb_2 h.r_mm (hfcx q0.2) (hrfx q0.1) (by omega) q5⟩)), (lk_2 h.r_mm (hfcx q0.2) (hrfx q0.1) (by omega) (by omega) q5 u2).2⟩
set_option maxRecDepth 100000 in
set_option maxHeartbeats 4000000 in
theorem pr_phase {xTc : Int32} {xFc : Int32} {xRc : Int32} {xVc : Int32} {xLr : Int32} {xFl : Int32} {xTn : Int32} {xMn : Int32} {xSt : Int64} {xAb : Int64} {xVa : Int64} {xA1 : Value} {xF1 : Int32} {xT1 : Int64} {xP1 : Int32} {xD1 : Value} {xA2 : Value} {xF2 : Int32} {xT2 : Int64} {xP2 : Int32} {xD2 : Value} {xTl : Int32} {xOl : Int32} {xKn : Int32} {xPa : Nat → Int32} {xUp : Nat → Int32} {xAl : Nat → Option Nat} {xHa : Nat → Int64} {xNm : Nat → Int64} {xKi : Nat → Int32} {xAm : Nat → Int32} {xPl : Nat → Int32} {xKe : Nat → Int32} {xTo : Nat → Int32} {xFa : Nat → Option Nat} {xRe : Nat → Option Nat} {xVl : Nat → Option Nat} {xAr : Nat → Int32} {mTy : Int32} {mPa : Nat → Int32} {mTo : Nat → Int32} {mTm : Int32} {mMn : Int32} {mOt : Nat → Int32} {mNa : Nat → Int32} {mRe : Nat → Int32} {mMa : Nat → Int32} {mMy : Nat → Int32} {mPm : Nat → Int32} {mFn : Int32} {mFy : Nat → Int32} {mFa : Nat → Int32} {mFr : Nat → Int32} {mRn : Int32} {mFo : Nat → Int32} {mRt : Nat → Int32} {mRm : Nat → Int32} {mTn : Int32} {mTt : Nat → Int32} {mTi : Nat → Int32} {mPl : Nat → Int32} {mVn : Int32} {mVr : Nat → Int32} {mVf : Nat → Int32} {mVc : Nat → Int32} {mAr : Nat → Int32} {mLr : Int32} {mTc : Nat → Int32} {mTr : Int32} {mFl : Int32} {mFt : Nat → Int32} {mFm : Int32} {mFp : Int32} {dyn : pm_H} {yA1 : Value} {yF1 : Int32} {yT1 : Int64} {yP1 : Int32} {yD1 : Value} {yA2 : Value} {yF2 : Int32} {yT2 : Int64} {yP2 : Int32} {yD2 : Value} {nFt : Nat → Int32} {nFm : Int32} {nFp : Int32} {r : Int32} {f : Int32} {wh : Int32} {o1 : Option Nat} {o2 : Option Nat} {rx : Int32} {rm : Int32}  (ho1 : ∀ b : Nat, o1 = some b → (b : Int) < mMn.toInt) (ho2 : ∀ b : Nat, o2 = some b → (b : Int) < mMn.toInt) (hm : mIv mTy mPa mTo mTm mMn mOt mNa mRe mMa mMy mPm mFn mFy mFa mFr mRn mFo mRt mRm mTn mTt mTi mVn mVr mVf mVc mTr) (hn : mIv mTy mPa mTo mTm mMn mOt mNa mRe mMa mMy mPm mFn mFy mFa mFr mRn mFo mRt mRm mTn mTt mTi mVn mVr mVf mVc mTr) (h : rIv xTc xFc xRc xVc xLr xFl xTn xMn xSt xAb xVa xD1 xD2 xTl xOl xKn xPa xUp xAl xHa xNm xKi xAm xPl xKe xTo xFa xRe xVl xAr mTy mPa mTo mTm mMn mOt mNa mRe mMa mMy mPm mFn mFy mFa mFr mRn mFo mRt mRm mTn mTt mTi mPl mVn mVr mVf mVc mAr mLr mTc mTr mFl dyn) (aa : ((¬ ((0 ≤ r.toInt ∧ r.toInt < xRc.toInt) ∧ (0 ≤ f.toInt ∧ f.toInt < xFc.toInt))) ∧ (-1) = rx ∧ xA1 = yA1 ∧ xF1 = yF1 ∧ xT1 = yT1 ∧ xP1 = yP1 ∧ xD1 = yD1 ∧ xA2 = yA2 ∧ xF2 = yF2 ∧ xT2 = yT2 ∧ xP2 = yP2 ∧ xD2 = yD2) ∨ ((((0 ≤ r.toInt ∧ r.toInt < xRc.toInt) ∧ (0 ≤ f.toInt ∧ f.toInt < xFc.toInt))) ∧ ((((mFo r.toNatClampNeg).toInt = 4) ∨ ((mFo r.toNatClampNeg).toInt = 0 ∧ (wh.toInt < 1 ∨ 2 < wh.toInt)) ∨ ((mFo r.toNatClampNeg).toInt ≠ 0 ∧ wh.toInt ≠ 1))) ∧ (-1) = rx ∧ xA1 = yA1 ∧ xF1 = yF1 ∧ xT1 = yT1 ∧ xP1 = yP1 ∧ xD1 = yD1 ∧ xA2 = yA2 ∧ xF2 = yF2 ∧ xT2 = yT2 ∧ xP2 = yP2 ∧ xD2 = yD2) ∨ ((((0 ≤ r.toInt ∧ r.toInt < xRc.toInt) ∧ (0 ≤ f.toInt ∧ f.toInt < xFc.toInt))) ∧ (¬ (((mFo r.toNatClampNeg).toInt = 4) ∨ ((mFo r.toNatClampNeg).toInt = 0 ∧ (wh.toInt < 1 ∨ 2 < wh.toInt)) ∨ ((mFo r.toNatClampNeg).toInt ≠ 0 ∧ wh.toInt ≠ 1))) ∧ (((mFo r.toNatClampNeg).toInt = 3 ∧ (hbX xHa xNm (mRt r.toNatClampNeg) &&& xAb ≠ 0 ∨ nmX xHa xNm (mRt r.toNatClampNeg) 6 = 0))) ∧ (-3) = rx ∧ xA1 = yA1 ∧ xF1 = yF1 ∧ xT1 = yT1 ∧ xP1 = yP1 ∧ xD1 = yD1 ∧ xA2 = yA2 ∧ xF2 = yF2 ∧ xT2 = yT2 ∧ xP2 = yP2 ∧ xD2 = yD2) ∨ (∃ (o19 : Option Nat) (a19 : Value) (f19 : Int32) (t19 : Int64) (p19 : Int32) (d19 : Value), (((0 ≤ r.toInt ∧ r.toInt < xRc.toInt) ∧ (0 ≤ f.toInt ∧ f.toInt < xFc.toInt))) ∧ (¬ (((mFo r.toNatClampNeg).toInt = 4) ∨ ((mFo r.toNatClampNeg).toInt = 0 ∧ (wh.toInt < 1 ∨ 2 < wh.toInt)) ∨ ((mFo r.toNatClampNeg).toInt ≠ 0 ∧ wh.toInt ≠ 1))) ∧ (¬ ((mFo r.toNatClampNeg).toInt = 3 ∧ (hbX xHa xNm (mRt r.toNatClampNeg) &&& xAb ≠ 0 ∨ nmX xHa xNm (mRt r.toNatClampNeg) 6 = 0))) ∧ (wh.toInt = 1) ∧ (fdF mOt mNa mRe mMa mMy mPm dyn d19 o19) ∧ (rsX xUp mMa mMy mPm (nmX xHa xNm (tsX xPa xTn (mFo r.toNatClampNeg) (mRt r.toNatClampNeg)) (rnF mFo mRm r.toNatClampNeg)) (tsX xPa xTn (mFo r.toNatClampNeg) (mRt r.toNatClampNeg)) (mFy f.toNatClampNeg).toNatClampNeg (cutF mFy mFa f.toNatClampNeg) xMn 0 f19 t19 p19 o19) ∧ p19 = rx ∧ a19 = yA1 ∧ f19 = yF1 ∧ t19 = yT1 ∧ p19 = yP1 ∧ d19 = yD1 ∧ xA2 = yA2 ∧ xF2 = yF2 ∧ xT2 = yT2 ∧ xP2 = yP2 ∧ xD2 = yD2) ∨ (∃ (o29 : Option Nat) (a29 : Value) (f29 : Int32) (t29 : Int64) (p29 : Int32) (d29 : Value), (((0 ≤ r.toInt ∧ r.toInt < xRc.toInt) ∧ (0 ≤ f.toInt ∧ f.toInt < xFc.toInt))) ∧ (¬ (((mFo r.toNatClampNeg).toInt = 4) ∨ ((mFo r.toNatClampNeg).toInt = 0 ∧ (wh.toInt < 1 ∨ 2 < wh.toInt)) ∨ ((mFo r.toNatClampNeg).toInt ≠ 0 ∧ wh.toInt ≠ 1))) ∧ (¬ ((mFo r.toNatClampNeg).toInt = 3 ∧ (hbX xHa xNm (mRt r.toNatClampNeg) &&& xAb ≠ 0 ∨ nmX xHa xNm (mRt r.toNatClampNeg) 6 = 0))) ∧ (wh.toInt ≠ 1) ∧ (fdF mOt mNa mRe mMa mMy mPm dyn d29 o29) ∧ (rsX xUp mMa mMy mPm (nmX xHa xNm (mRt r.toNatClampNeg) (rnF mFo mRm r.toNatClampNeg)) (mRt r.toNatClampNeg) (mFy f.toNatClampNeg).toNatClampNeg (cutF mFy mFa f.toNatClampNeg) xMn 1 f29 t29 p29 o29) ∧ p29 = rx ∧ xA1 = yA1 ∧ xF1 = yF1 ∧ xT1 = yT1 ∧ xP1 = yP1 ∧ xD1 = yD1 ∧ a29 = yA2 ∧ f29 = yF2 ∧ t29 = yT2 ∧ p29 = yP2 ∧ d29 = yD2)) (bb : ((¬ ((0 ≤ r.toInt ∧ r.toInt < mRn.toInt) ∧ (0 ≤ f.toInt ∧ f.toInt < mFn.toInt) ∧ (mFo r.toNatClampNeg).toInt ≠ 4 ∧ 1 ≤ wh.toInt ∧ (wh.toInt ≤ 1 ∨ (wh.toInt ≤ 2 ∧ (mFo r.toNatClampNeg).toInt = 0)))) ∧ (-1) = rm ∧ mFt = nFt ∧ mFm = nFm ∧ mFp = nFp) ∨ ((((0 ≤ r.toInt ∧ r.toInt < mRn.toInt) ∧ (0 ≤ f.toInt ∧ f.toInt < mFn.toInt) ∧ (mFo r.toNatClampNeg).toInt ≠ 4 ∧ 1 ≤ wh.toInt ∧ (wh.toInt ≤ 1 ∨ (wh.toInt ≤ 2 ∧ (mFo r.toNatClampNeg).toInt = 0))) ∧ (mFo r.toNatClampNeg).toInt = 3) ∧ ((opL mPa mOt mNa mMy mPm mMa mMn (mRt r.toNatClampNeg) 0 ∨ ¬ mkE mOt mNa mMn (mRt r.toNatClampNeg) 0)) ∧ (-3) = rm ∧ mFt = nFt ∧ mFm = nFm ∧ mFp = nFp) ∨ (∃ (f9 : Nat → Int32) (m9 : Int32) (p9 : Int32) (r9 : Int32), (((0 ≤ r.toInt ∧ r.toInt < mRn.toInt) ∧ (0 ≤ f.toInt ∧ f.toInt < mFn.toInt) ∧ (mFo r.toNatClampNeg).toInt ≠ 4 ∧ 1 ≤ wh.toInt ∧ (wh.toInt ≤ 1 ∨ (wh.toInt ≤ 2 ∧ (mFo r.toNatClampNeg).toInt = 0)))) ∧ ((mFo r.toNatClampNeg).toInt ≠ 3 ∨ (¬ opL mPa mOt mNa mMy mPm mMa mMn (mRt r.toNatClampNeg) 0 ∧ mkE mOt mNa mMn (mRt r.toNatClampNeg) 0)) ∧ (lkS mPa mOt mNa mMy mPm mMa mFa mFy mMn (mFo r.toNatClampNeg) (mRt r.toNatClampNeg) (mRm r.toNatClampNeg) f wh p9 r9) ∧ ((r9.toInt = -4 ∨ r9.toInt = -5 ∨ 0 ≤ r9.toInt)) ∧ ((-5 ≤ r9.toInt ∧ r9.toInt < mMn.toInt) ∧ (0 ≤ p9.toInt ∧ p9.toInt ≤ 3)) ∧ p9 = rm ∧ f9 = nFt ∧ m9 = nFm ∧ p9 = nFp)) : rIv xTc xFc xRc xVc xLr xFl xTn xMn xSt xAb xVa yD1 yD2 xTl xOl xKn xPa xUp xAl xHa xNm xKi xAm xPl xKe xTo xFa xRe xVl xAr mTy mPa mTo mTm mMn mOt mNa mRe mMa mMy mPm mFn mFy mFa mFr mRn mFo mRt mRm mTn mTt mTi mPl mVn mVr mVf mVc mAr mLr mTc mTr mFl dyn ∧ rx = rm := by
  have e_r_tn := h.r_tn
  have e_r_tc := h.r_tc
  have e_r_to := h.r_to
  have e_r_mn := h.r_mn
  have e_r_fc := h.r_fc
  have e_r_rc := h.r_rc
  have e_r_tl := h.r_tl
  have e_r_ki := h.r_ki
  have e_r_am := h.r_am
  have e_r_pl := h.r_pl
  have e_r_vc := h.r_vc
  have e_r_ar := h.r_ar
  have e_r_lr := h.r_lr
  have e_r_fl := h.r_fl
  have e_r_kn := h.r_kn
  subst e_r_tn; subst e_r_tc; subst e_r_to; subst e_r_mn; subst e_r_fc; subst e_r_rc; subst e_r_tl; subst e_r_ki; subst e_r_am; subst e_r_pl; subst e_r_vc; subst e_r_ar; subst e_r_lr; subst e_r_fl; subst e_r_kn
  have w1 := hm.ity
  have w2 := hm.itm
  have w3 := hm.imn
  have w4 := hm.ifn
  have w5 := hm.irn
  have w6 := hm.itn
  have w7 := hm.ivn
  have w8 := hm.itr
  have hrfx : (0 ≤ r.toInt ∧ r.toInt < mRn.toInt) → rfR mTy (mFo r.toNatClampNeg) (mRt r.toNatClampNeg) (mRm r.toNatClampNeg) := fun q => h.r_rf _ (by have := xN q.1; omega)
  have hfcx : (0 ≤ f.toInt ∧ f.toInt < mFn.toInt) → fcR mTy mFy mFa mFr f := fun q => ⟨by omega, fcD_at hm.ifc q, hm.ifa, h.r_fr _ (by have := xN q.1; omega)⟩
  have hsf : (0 ≤ r.toInt ∧ r.toInt < mRn.toInt) → (mFo r.toNatClampNeg).toInt ≠ 4 → ((hbX xHa xNm (mRt r.toNatClampNeg) &&& xAb ≠ 0 ∨ nmX xHa xNm (mRt r.toNatClampNeg) 6 = 0) ↔ (opL mPa mOt mNa mMy mPm mMa mMn (mRt r.toNatClampNeg) 0 ∨ ¬ mkE mOt mNa mMn (mRt r.toNatClampNeg) 0)) := fun q k => sf_x h.r_mm ((hrfx q).2.1 k)
  rcases bb with bb | bb | bb
  · obtain ⟨u0, ff0, ff1, ff2, ff3⟩ := bb
    rcases aa with aa | aa | aa | aa | aa
    · obtain ⟨q0, ee0, ee1, ee2, ee3, ee4, ee5, ee6, ee7, ee8, ee9, ee10⟩ := aa
      subst ee0 ee1 ee2 ee3 ee4 ee5 ee6 ee7 ee8 ee9 ee10 ff0 ff1 ff2 ff3
      exact ⟨h, rfl⟩
    · obtain ⟨q0, q1, ee0, ee1, ee2, ee3, ee4, ee5, ee6, ee7, ee8, ee9, ee10⟩ := aa
      subst ee0 ee1 ee2 ee3 ee4 ee5 ee6 ee7 ee8 ee9 ee10 ff0 ff1 ff2 ff3
      exact ⟨h, rfl⟩
    · obtain ⟨q0, q1, q2, ee0, ee1, ee2, ee3, ee4, ee5, ee6, ee7, ee8, ee9, ee10⟩ := aa
      subst ee0 ee1 ee2 ee3 ee4 ee5 ee6 ee7 ee8 ee9 ee10 ff0 ff1 ff2 ff3
      exfalso; omega
    · obtain ⟨o19x, a19x, f19x, t19x, p19x, d19x, q0, q1, q2, q3, q4, q5, ee0, ee1, ee2, ee3, ee4, ee5, ee6, ee7, ee8, ee9, ee10⟩ := aa
      subst ee0 ee1 ee2 ee3 ee4 ee5 ee6 ee7 ee8 ee9 ee10 ff0 ff1 ff2 ff3
      exfalso; omega
    · obtain ⟨o29x, a29x, f29x, t29x, p29x, d29x, q0, q1, q2, q3, q4, q5, ee0, ee1, ee2, ee3, ee4, ee5, ee6, ee7, ee8, ee9, ee10⟩ := aa
      subst ee0 ee1 ee2 ee3 ee4 ee5 ee6 ee7 ee8 ee9 ee10 ff0 ff1 ff2 ff3
      exfalso; omega
  · obtain ⟨u0, u1, ff0, ff1, ff2, ff3⟩ := bb
    rcases aa with aa | aa | aa | aa | aa
    · obtain ⟨q0, ee0, ee1, ee2, ee3, ee4, ee5, ee6, ee7, ee8, ee9, ee10⟩ := aa
      subst ee0 ee1 ee2 ee3 ee4 ee5 ee6 ee7 ee8 ee9 ee10 ff0 ff1 ff2 ff3
      exfalso; omega
    · obtain ⟨q0, q1, ee0, ee1, ee2, ee3, ee4, ee5, ee6, ee7, ee8, ee9, ee10⟩ := aa
      subst ee0 ee1 ee2 ee3 ee4 ee5 ee6 ee7 ee8 ee9 ee10 ff0 ff1 ff2 ff3
      exfalso; omega
    · obtain ⟨q0, q1, q2, ee0, ee1, ee2, ee3, ee4, ee5, ee6, ee7, ee8, ee9, ee10⟩ := aa
      subst ee0 ee1 ee2 ee3 ee4 ee5 ee6 ee7 ee8 ee9 ee10 ff0 ff1 ff2 ff3
      exact ⟨h, rfl⟩
    · obtain ⟨o19x, a19x, f19x, t19x, p19x, d19x, q0, q1, q2, q3, q4, q5, ee0, ee1, ee2, ee3, ee4, ee5, ee6, ee7, ee8, ee9, ee10⟩ := aa
      subst ee0 ee1 ee2 ee3 ee4 ee5 ee6 ee7 ee8 ee9 ee10 ff0 ff1 ff2 ff3
      exact absurd ⟨u0.2, (hsf q0.1 (by omega)).mpr u1⟩ q2
    · obtain ⟨o29x, a29x, f29x, t29x, p29x, d29x, q0, q1, q2, q3, q4, q5, ee0, ee1, ee2, ee3, ee4, ee5, ee6, ee7, ee8, ee9, ee10⟩ := aa
      subst ee0 ee1 ee2 ee3 ee4 ee5 ee6 ee7 ee8 ee9 ee10 ff0 ff1 ff2 ff3
      exact absurd ⟨u0.2, (hsf q0.1 (by omega)).mpr u1⟩ q2
  · obtain ⟨f9m, m9m, p9m, r9m, u0, u1, u2, u3, u4, ff0, ff1, ff2, ff3⟩ := bb
    rcases aa with aa | aa | aa | aa | aa
    · obtain ⟨q0, ee0, ee1, ee2, ee3, ee4, ee5, ee6, ee7, ee8, ee9, ee10⟩ := aa
      subst ee0 ee1 ee2 ee3 ee4 ee5 ee6 ee7 ee8 ee9 ee10 ff0 ff1 ff2 ff3
      exfalso; omega
    · obtain ⟨q0, q1, ee0, ee1, ee2, ee3, ee4, ee5, ee6, ee7, ee8, ee9, ee10⟩ := aa
      subst ee0 ee1 ee2 ee3 ee4 ee5 ee6 ee7 ee8 ee9 ee10 ff0 ff1 ff2 ff3
      exfalso; omega
    · obtain ⟨q0, q1, q2, ee0, ee1, ee2, ee3, ee4, ee5, ee6, ee7, ee8, ee9, ee10⟩ := aa
      subst ee0 ee1 ee2 ee3 ee4 ee5 ee6 ee7 ee8 ee9 ee10 ff0 ff1 ff2 ff3
      rcases u1 with u1 | u1 <;> first | (exfalso; exact u1 q2.1) | exact absurd ((hsf q0.1 (by omega)).mp q2.2) (fun z => z.elim u1.1 (fun z => z u1.2))
    · obtain ⟨o19x, a19x, f19x, t19x, p19x, d19x, q0, q1, q2, q3, q4, q5, ee0, ee1, ee2, ee3, ee4, ee5, ee6, ee7, ee8, ee9, ee10⟩ := aa
      subst ee0 ee1 ee2 ee3 ee4 ee5 ee6 ee7 ee8 ee9 ee10 ff0 ff1 ff2 ff3
      exact ⟨(rIv.mk (r_tn := h.r_tn) (r_tc := h.r_tc) (r_to := h.r_to) (r_mn := h.r_mn) (r_fc := h.r_fc) (r_rc := h.r_rc) (r_tl := h.r_tl) (r_ki := h.r_ki) (r_am := h.r_am) (r_pl := h.r_pl) (r_vc := h.r_vc) (r_ar := h.r_ar) (r_lr := h.r_lr) (r_fl := h.r_fl) (r_kn := h.r_kn) (r_mm := h.r_mm) (r_ot := h.r_ot) (r_al := h.r_al) (r_fa := h.r_fa) (r_fr := h.r_fr) (r_re := h.r_re) (r_rf := h.r_rf) (r_kd := h.r_kd) (r_vl := h.r_vl) (r_ol := h.r_ol) (r_ke := h.r_ke) (r_d1 := ⟨_, q4, sb_1 h.r_mm (hfcx q0.2) (hrfx q0.1) (by omega) q5⟩) (r_d2 := h.r_d2)), (lk_1 h.r_mm (hfcx q0.2) (hrfx q0.1) (by omega) q3 q5 u2).1⟩
    · obtain ⟨o29x, a29x, f29x, t29x, p29x, d29x, q0, q1, q2, q3, q4, q5, ee0, ee1, ee2, ee3, ee4, ee5, ee6, ee7, ee8, ee9, ee10⟩ := aa
      subst ee0 ee1 ee2 ee3 ee4 ee5 ee6 ee7 ee8 ee9 ee10 ff0 ff1 ff2 ff3
      exact ⟨(rIv.mk (r_tn := h.r_tn) (r_tc := h.r_tc) (r_to := h.r_to) (r_mn := h.r_mn) (r_fc := h.r_fc) (r_rc := h.r_rc) (r_tl := h.r_tl) (r_ki := h.r_ki) (r_am := h.r_am) (r_pl := h.r_pl) (r_vc := h.r_vc) (r_ar := h.r_ar) (r_lr := h.r_lr) (r_fl := h.r_fl) (r_kn := h.r_kn) (r_mm := h.r_mm) (r_ot := h.r_ot) (r_al := h.r_al) (r_fa := h.r_fa) (r_fr := h.r_fr) (r_re := h.r_re) (r_rf := h.r_rf) (r_kd := h.r_kd) (r_vl := h.r_vl) (r_ol := h.r_ol) (r_ke := h.r_ke) (r_d1 := h.r_d1) (r_d2 := ⟨_, q4, sb_2 h.r_mm (hfcx q0.2) (hrfx q0.1) (by omega) q5⟩)), (lk_2 h.r_mm (hfcx q0.2) (hrfx q0.1) (by omega) (by omega) q5 u2).1⟩
set_option maxRecDepth 100000 in
set_option maxHeartbeats 4000000 in
theorem pr_type {xTc : Int32} {xFc : Int32} {xRc : Int32} {xVc : Int32} {xLr : Int32} {xFl : Int32} {xTn : Int32} {xMn : Int32} {xSt : Int64} {xAb : Int64} {xVa : Int64} {xD1 : Value} {xD2 : Value} {xTl : Int32} {xOl : Int32} {xKn : Int32} {xPa : Nat → Int32} {xUp : Nat → Int32} {xAl : Nat → Option Nat} {xHa : Nat → Int64} {xNm : Nat → Int64} {xKi : Nat → Int32} {xAm : Nat → Int32} {xPl : Nat → Int32} {xKe : Nat → Int32} {xTo : Nat → Int32} {xFa : Nat → Option Nat} {xRe : Nat → Option Nat} {xVl : Nat → Option Nat} {xAr : Nat → Int32} {mTy : Int32} {mPa : Nat → Int32} {mTo : Nat → Int32} {mTm : Int32} {mMn : Int32} {mOt : Nat → Int32} {mNa : Nat → Int32} {mRe : Nat → Int32} {mMa : Nat → Int32} {mMy : Nat → Int32} {mPm : Nat → Int32} {mFn : Int32} {mFy : Nat → Int32} {mFa : Nat → Int32} {mFr : Nat → Int32} {mRn : Int32} {mFo : Nat → Int32} {mRt : Nat → Int32} {mRm : Nat → Int32} {mTn : Int32} {mTt : Nat → Int32} {mTi : Nat → Int32} {mPl : Nat → Int32} {mVn : Int32} {mVr : Nat → Int32} {mVf : Nat → Int32} {mVc : Nat → Int32} {mAr : Nat → Int32} {mLr : Int32} {mTc : Nat → Int32} {mTr : Int32} {mFl : Int32} {dyn : pm_H} {yTn : Int32} {yPa : Nat → Int32} {yUp : Nat → Int32} {yHa : Nat → Int64} {nTy : Int32} {nPa : Nat → Int32} {t : Int32} {rx : Int32} {rm : Int32}  (hm : mIv mTy mPa mTo mTm mMn mOt mNa mRe mMa mMy mPm mFn mFy mFa mFr mRn mFo mRt mRm mTn mTt mTi mVn mVr mVf mVc mTr) (hn : mIv nTy nPa mTo mTm mMn mOt mNa mRe mMa mMy mPm mFn mFy mFa mFr mRn mFo mRt mRm mTn mTt mTi mVn mVr mVf mVc mTr) (h : rIv xTc xFc xRc xVc xLr xFl xTn xMn xSt xAb xVa xD1 xD2 xTl xOl xKn xPa xUp xAl xHa xNm xKi xAm xPl xKe xTo xFa xRe xVl xAr mTy mPa mTo mTm mMn mOt mNa mRe mMa mMy mPm mFn mFy mFa mFr mRn mFo mRt mRm mTn mTt mTi mPl mVn mVr mVf mVc mAr mLr mTc mTr mFl dyn) (aa : ((¬ ((0 ≤ t.toInt ∧ t.toInt < xTn.toInt) ∧ t.toInt ≠ 1)) ∧ (-1) = rx ∧ xTn = yTn ∧ xPa = yPa ∧ xUp = yUp ∧ xHa = yHa) ∨ ((((0 ≤ t.toInt ∧ t.toInt < xTn.toInt) ∧ t.toInt ≠ 1) ∧ 10 ≤ xTn.toInt) ∧ (-2) = rx ∧ xTn = yTn ∧ xPa = yPa ∧ xUp = yUp ∧ xHa = yHa) ∨ ((((0 ≤ t.toInt ∧ t.toInt < xTn.toInt) ∧ t.toInt ≠ 1) ∧ xTn.toInt < 10) ∧ xTn = rx ∧ xTn + 1 = yTn ∧ upd xPa xTn.toNatClampNeg t = yPa ∧ upd (upd xUp xTn.toNatClampNeg ((1 <<< (xTn &&& 31)) ||| xUp t.toNatClampNeg)) (20 + xTn).toNatClampNeg ((1 <<< ((20 + xTn) &&& 31)) ||| (upd xUp xTn.toNatClampNeg ((1 <<< (xTn &&& 31)) ||| xUp t.toNatClampNeg)) (20 + t).toNatClampNeg) = yUp ∧ vp_updL xHa xTn.toNatClampNeg ((xHa t.toNatClampNeg) &&& ((xNm 6) ^^^ (-1))) = yHa)) (bb : (((t.toInt < 0 ∨ mTy.toInt ≤ t.toInt ∨ t.toInt = 1)) ∧ (-1) = rm ∧ mTy = nTy ∧ mPa = nPa) ∨ (((0 ≤ t.toInt ∧ t.toInt < mTy.toInt ∧ t.toInt ≠ 1) ∧ mTy.toInt = 10) ∧ (-2) = rm ∧ mTy = nTy ∧ mPa = nPa) ∨ (((0 ≤ t.toInt ∧ t.toInt < mTy.toInt ∧ t.toInt ≠ 1) ∧ mTy.toInt < 10) ∧ (mTy + 1 - 1) = rm ∧ mTy + 1 = nTy ∧ upd mPa mTy.toNatClampNeg t = nPa)) : rIv xTc xFc xRc xVc xLr xFl yTn xMn xSt xAb xVa xD1 xD2 xTl xOl xKn yPa yUp xAl yHa xNm xKi xAm xPl xKe xTo xFa xRe xVl xAr nTy nPa mTo mTm mMn mOt mNa mRe mMa mMy mPm mFn mFy mFa mFr mRn mFo mRt mRm mTn mTt mTi mPl mVn mVr mVf mVc mAr mLr mTc mTr mFl dyn ∧ rx = rm := by
  have e_r_tn := h.r_tn
  have e_r_tc := h.r_tc
  have e_r_to := h.r_to
  have e_r_mn := h.r_mn
  have e_r_fc := h.r_fc
  have e_r_rc := h.r_rc
  have e_r_tl := h.r_tl
  have e_r_ki := h.r_ki
  have e_r_am := h.r_am
  have e_r_pl := h.r_pl
  have e_r_vc := h.r_vc
  have e_r_ar := h.r_ar
  have e_r_lr := h.r_lr
  have e_r_fl := h.r_fl
  have e_r_kn := h.r_kn
  subst e_r_tn; subst e_r_tc; subst e_r_to; subst e_r_mn; subst e_r_fc; subst e_r_rc; subst e_r_tl; subst e_r_ki; subst e_r_am; subst e_r_pl; subst e_r_vc; subst e_r_ar; subst e_r_lr; subst e_r_fl; subst e_r_kn
  have w1 := hm.ity
  have w2 := hm.itm
  have w3 := hm.imn
  have w4 := hm.ifn
  have w5 := hm.irn
  have w6 := hm.itn
  have w7 := hm.ivn
  have w8 := hm.itr
  rcases bb with bb | bb | bb
  · obtain ⟨u0, ff0, ff1, ff2⟩ := bb
    rcases aa with aa | aa | aa
    · obtain ⟨q0, ee0, ee1, ee2, ee3, ee4⟩ := aa
      subst ee0 ee1 ee2 ee3 ee4 ff0 ff1 ff2
      exact ⟨h, rfl⟩
    · obtain ⟨q0, ee0, ee1, ee2, ee3, ee4⟩ := aa
      subst ee0 ee1 ee2 ee3 ee4 ff0 ff1 ff2
      exfalso; omega
    · obtain ⟨q0, ee0, ee1, ee2, ee3, ee4⟩ := aa
      subst ee0 ee1 ee2 ee3 ee4 ff0 ff1 ff2
      exfalso; omega
  · obtain ⟨u0, ff0, ff1, ff2⟩ := bb
    rcases aa with aa | aa | aa
    · obtain ⟨q0, ee0, ee1, ee2, ee3, ee4⟩ := aa
      subst ee0 ee1 ee2 ee3 ee4 ff0 ff1 ff2
      exfalso; omega
    · obtain ⟨q0, ee0, ee1, ee2, ee3, ee4⟩ := aa
      subst ee0 ee1 ee2 ee3 ee4 ff0 ff1 ff2
      exact ⟨h, rfl⟩
    · obtain ⟨q0, ee0, ee1, ee2, ee3, ee4⟩ := aa
      subst ee0 ee1 ee2 ee3 ee4 ff0 ff1 ff2
      exfalso; omega
  · obtain ⟨u0, ff0, ff1, ff2⟩ := bb
    rcases aa with aa | aa | aa
    · obtain ⟨q0, ee0, ee1, ee2, ee3, ee4⟩ := aa
      subst ee0 ee1 ee2 ee3 ee4 ff0 ff1 ff2
      exfalso; omega
    · obtain ⟨q0, ee0, ee1, ee2, ee3, ee4⟩ := aa
      subst ee0 ee1 ee2 ee3 ee4 ff0 ff1 ff2
      exfalso; omega
    · obtain ⟨q0, ee0, ee1, ee2, ee3, ee4⟩ := aa
      subst ee0 ee1 ee2 ee3 ee4 ff0 ff1 ff2
      refine ⟨ri_type hm hn h (by omega) (by omega), ?_⟩; apply xJ; have z4 : (mTy + 1).toInt = mTy.toInt + 1 := iAdd rfl (by decide) (by omega) (by omega); have z5 : (mTy + 1 - 1).toInt = mTy.toInt + 1 - 1 := iSub z4 (by decide) (by omega) (by omega); omega
set_option maxRecDepth 100000 in
set_option maxHeartbeats 4000000 in
theorem pr_has {xTc : Int32} {xFc : Int32} {xRc : Int32} {xVc : Int32} {xLr : Int32} {xFl : Int32} {xTn : Int32} {xMn : Int32} {xSt : Int64} {xAb : Int64} {xVa : Int64} {xD1 : Value} {xD2 : Value} {xTl : Int32} {xOl : Int32} {xKn : Int32} {xPa : Nat → Int32} {xUp : Nat → Int32} {xAl : Nat → Option Nat} {xHa : Nat → Int64} {xNm : Nat → Int64} {xKi : Nat → Int32} {xAm : Nat → Int32} {xPl : Nat → Int32} {xKe : Nat → Int32} {xTo : Nat → Int32} {xFa : Nat → Option Nat} {xRe : Nat → Option Nat} {xVl : Nat → Option Nat} {xAr : Nat → Int32} {mTy : Int32} {mPa : Nat → Int32} {mTo : Nat → Int32} {mTm : Int32} {mMn : Int32} {mOt : Nat → Int32} {mNa : Nat → Int32} {mRe : Nat → Int32} {mMa : Nat → Int32} {mMy : Nat → Int32} {mPm : Nat → Int32} {mFn : Int32} {mFy : Nat → Int32} {mFa : Nat → Int32} {mFr : Nat → Int32} {mRn : Int32} {mFo : Nat → Int32} {mRt : Nat → Int32} {mRm : Nat → Int32} {mTn : Int32} {mTt : Nat → Int32} {mTi : Nat → Int32} {mPl : Nat → Int32} {mVn : Int32} {mVr : Nat → Int32} {mVf : Nat → Int32} {mVc : Nat → Int32} {mAr : Nat → Int32} {mLr : Int32} {mTc : Nat → Int32} {mTr : Int32} {mFl : Int32} {dyn : pm_H} {t : Int32} {i : Int32} {rx : Int32} {rm : Int32}  (hm : mIv mTy mPa mTo mTm mMn mOt mNa mRe mMa mMy mPm mFn mFy mFa mFr mRn mFo mRt mRm mTn mTt mTi mVn mVr mVf mVc mTr) (hn : mIv mTy mPa mTo mTm mMn mOt mNa mRe mMa mMy mPm mFn mFy mFa mFr mRn mFo mRt mRm mTn mTt mTi mVn mVr mVf mVc mTr) (h : rIv xTc xFc xRc xVc xLr xFl xTn xMn xSt xAb xVa xD1 xD2 xTl xOl xKn xPa xUp xAl xHa xNm xKi xAm xPl xKe xTo xFa xRe xVl xAr mTy mPa mTo mTm mMn mOt mNa mRe mMa mMy mPm mFn mFy mFa mFr mRn mFo mRt mRm mTn mTt mTi mPl mVn mVr mVf mVc mAr mLr mTc mTr mFl dyn) (aa : ((¬ (0 ≤ t.toInt ∧ t.toInt < xTn.toInt)) ∧ (-1) = rx) ∨ (∃ (r9 : Int32), ((0 ≤ t.toInt ∧ t.toInt < xTn.toInt)) ∧ (nthP (fun x => bl (hbX xHa xNm t) x = true) xMn i r9) ∧ r9 = rx)) (bb : (((t.toInt < 0 ∨ mTy.toInt ≤ t.toInt)) ∧ (-1) = rm) ∨ (∃ (r9 : Int32), ((0 ≤ t.toInt ∧ t.toInt < mTy.toInt)) ∧ (nthP (fun x => hadM mPa mOt mNa mMy mPm mMn t (nI x)) mMn i r9) ∧ r9 = rm)) : rIv xTc xFc xRc xVc xLr xFl xTn xMn xSt xAb xVa xD1 xD2 xTl xOl xKn xPa xUp xAl xHa xNm xKi xAm xPl xKe xTo xFa xRe xVl xAr mTy mPa mTo mTm mMn mOt mNa mRe mMa mMy mPm mFn mFy mFa mFr mRn mFo mRt mRm mTn mTt mTi mPl mVn mVr mVf mVc mAr mLr mTc mTr mFl dyn ∧ rx = rm := by
  have e_r_tn := h.r_tn
  have e_r_tc := h.r_tc
  have e_r_to := h.r_to
  have e_r_mn := h.r_mn
  have e_r_fc := h.r_fc
  have e_r_rc := h.r_rc
  have e_r_tl := h.r_tl
  have e_r_ki := h.r_ki
  have e_r_am := h.r_am
  have e_r_pl := h.r_pl
  have e_r_vc := h.r_vc
  have e_r_ar := h.r_ar
  have e_r_lr := h.r_lr
  have e_r_fl := h.r_fl
  have e_r_kn := h.r_kn
  subst e_r_tn; subst e_r_tc; subst e_r_to; subst e_r_mn; subst e_r_fc; subst e_r_rc; subst e_r_tl; subst e_r_ki; subst e_r_am; subst e_r_pl; subst e_r_vc; subst e_r_ar; subst e_r_lr; subst e_r_fl; subst e_r_kn
  have w1 := hm.ity
  have w2 := hm.itm
  have w3 := hm.imn
  have w4 := hm.ifn
  have w5 := hm.irn
  have w6 := hm.itn
  have w7 := hm.ivn
  have w8 := hm.itr
  obtain ⟨hU, hd, hP, hS, hX, hK, hB, hH, hN, hSt, hAb, hVa⟩ := id h.r_mm
  rcases bb with bb | bb
  · obtain ⟨u0, ff0⟩ := bb
    rcases aa with aa | aa
    · obtain ⟨q0, ee0⟩ := aa
      subst ee0 ff0
      exact ⟨h, rfl⟩
    · obtain ⟨r9x, q0, q1, ee0⟩ := aa
      subst ee0 ff0
      exfalso; omega
  · obtain ⟨r9m, u0, u1, ff0⟩ := bb
    rcases aa with aa | aa
    · obtain ⟨q0, ee0⟩ := aa
      subst ee0 ff0
      exfalso; omega
    · obtain ⟨r9x, q0, q1, ee0⟩ := aa
      subst ee0 ff0
      exact ⟨h, nth_e (fun b q => (hb_x hS.1 hS.2.1.2 hH hN (Or.inl q0) (by omega)).trans ⟨fun z => z.2, fun z => ⟨q, z⟩⟩) q1 u1⟩
set_option maxRecDepth 100000 in
set_option maxHeartbeats 4000000 in
theorem pr_exact {xTc : Int32} {xFc : Int32} {xRc : Int32} {xVc : Int32} {xLr : Int32} {xFl : Int32} {xTn : Int32} {xMn : Int32} {xSt : Int64} {xAb : Int64} {xVa : Int64} {xD1 : Value} {xD2 : Value} {xTl : Int32} {xOl : Int32} {xKn : Int32} {xPa : Nat → Int32} {xUp : Nat → Int32} {xAl : Nat → Option Nat} {xHa : Nat → Int64} {xNm : Nat → Int64} {xKi : Nat → Int32} {xAm : Nat → Int32} {xPl : Nat → Int32} {xKe : Nat → Int32} {xTo : Nat → Int32} {xFa : Nat → Option Nat} {xRe : Nat → Option Nat} {xVl : Nat → Option Nat} {xAr : Nat → Int32} {mTy : Int32} {mPa : Nat → Int32} {mTo : Nat → Int32} {mTm : Int32} {mMn : Int32} {mOt : Nat → Int32} {mNa : Nat → Int32} {mRe : Nat → Int32} {mMa : Nat → Int32} {mMy : Nat → Int32} {mPm : Nat → Int32} {mFn : Int32} {mFy : Nat → Int32} {mFa : Nat → Int32} {mFr : Nat → Int32} {mRn : Int32} {mFo : Nat → Int32} {mRt : Nat → Int32} {mRm : Nat → Int32} {mTn : Int32} {mTt : Nat → Int32} {mTi : Nat → Int32} {mPl : Nat → Int32} {mVn : Int32} {mVr : Nat → Int32} {mVf : Nat → Int32} {mVc : Nat → Int32} {mAr : Nat → Int32} {mLr : Int32} {mTc : Nat → Int32} {mTr : Int32} {mFl : Int32} {dyn : pm_H} {r : Int32} {rx : Int32} {rm : Int32}  (hm : mIv mTy mPa mTo mTm mMn mOt mNa mRe mMa mMy mPm mFn mFy mFa mFr mRn mFo mRt mRm mTn mTt mTi mVn mVr mVf mVc mTr) (hn : mIv mTy mPa mTo mTm mMn mOt mNa mRe mMa mMy mPm mFn mFy mFa mFr mRn mFo mRt mRm mTn mTt mTi mVn mVr mVf mVc mTr) (h : rIv xTc xFc xRc xVc xLr xFl xTn xMn xSt xAb xVa xD1 xD2 xTl xOl xKn xPa xUp xAl xHa xNm xKi xAm xPl xKe xTo xFa xRe xVl xAr mTy mPa mTo mTm mMn mOt mNa mRe mMa mMy mPm mFn mFy mFa mFr mRn mFo mRt mRm mTn mTt mTi mPl mVn mVr mVf mVc mAr mLr mTc mTr mFl dyn) (aa : ((¬ (0 ≤ r.toInt ∧ r.toInt < xRc.toInt)) ∧ (-1) = rx) ∨ (((0 ≤ r.toInt ∧ r.toInt < xRc.toInt)) ∧ (oaF (nmX xHa xNm (tsX xPa xTn (mFo r.toNatClampNeg) (mRt r.toNatClampNeg)) (rnF mFo mRm r.toNatClampNeg)) xVa (mFo r.toNatClampNeg)) ∧ 1 = rx) ∨ (((0 ≤ r.toInt ∧ r.toInt < xRc.toInt)) ∧ (¬ oaF (nmX xHa xNm (tsX xPa xTn (mFo r.toNatClampNeg) (mRt r.toNatClampNeg)) (rnF mFo mRm r.toNatClampNeg)) xVa (mFo r.toNatClampNeg)) ∧ 0 = rx)) (bb : ((¬ (0 ≤ r.toInt ∧ r.toInt < mRn.toInt)) ∧ (-1) = rm) ∨ (((0 ≤ r.toInt ∧ r.toInt < mRn.toInt) ∧ (mFo r.toNatClampNeg).toInt ≠ 4) ∧ (exM mPa mOt mNa mMy mPm mMa mMn (mFo r.toNatClampNeg) (mRt r.toNatClampNeg) (mRm r.toNatClampNeg)) ∧ 1 = rm) ∨ (((0 ≤ r.toInt ∧ r.toInt < mRn.toInt) ∧ (mFo r.toNatClampNeg).toInt ≠ 4) ∧ (¬ exM mPa mOt mNa mMy mPm mMa mMn (mFo r.toNatClampNeg) (mRt r.toNatClampNeg) (mRm r.toNatClampNeg)) ∧ 0 = rm) ∨ (((0 ≤ r.toInt ∧ r.toInt < mRn.toInt) ∧ (mFo r.toNatClampNeg).toInt = 4) ∧ 1 = rm)) : rIv xTc xFc xRc xVc xLr xFl xTn xMn xSt xAb xVa xD1 xD2 xTl xOl xKn xPa xUp xAl xHa xNm xKi xAm xPl xKe xTo xFa xRe xVl xAr mTy mPa mTo mTm mMn mOt mNa mRe mMa mMy mPm mFn mFy mFa mFr mRn mFo mRt mRm mTn mTt mTi mPl mVn mVr mVf mVc mAr mLr mTc mTr mFl dyn ∧ rx = rm := by
  have e_r_tn := h.r_tn
  have e_r_tc := h.r_tc
  have e_r_to := h.r_to
  have e_r_mn := h.r_mn
  have e_r_fc := h.r_fc
  have e_r_rc := h.r_rc
  have e_r_tl := h.r_tl
  have e_r_ki := h.r_ki
  have e_r_am := h.r_am
  have e_r_pl := h.r_pl
  have e_r_vc := h.r_vc
  have e_r_ar := h.r_ar
  have e_r_lr := h.r_lr
  have e_r_fl := h.r_fl
  have e_r_kn := h.r_kn
  subst e_r_tn; subst e_r_tc; subst e_r_to; subst e_r_mn; subst e_r_fc; subst e_r_rc; subst e_r_tl; subst e_r_ki; subst e_r_am; subst e_r_pl; subst e_r_vc; subst e_r_ar; subst e_r_lr; subst e_r_fl; subst e_r_kn
  have w1 := hm.ity
  have w2 := hm.itm
  have w3 := hm.imn
  have w4 := hm.ifn
  have w5 := hm.irn
  have w6 := hm.itn
  have w7 := hm.ivn
  have w8 := hm.itr
  have hex : (0 ≤ r.toInt ∧ r.toInt < mRn.toInt) → (mFo r.toNatClampNeg).toInt ≠ 4 → _ := fun q q4 => ex_x h.r_mm (h.r_rf r.toNatClampNeg (by have := xN q.1; omega)) q4
  rcases bb with bb | bb | bb | bb
  · obtain ⟨u0, ff0⟩ := bb
    rcases aa with aa | aa | aa
    · obtain ⟨q0, ee0⟩ := aa
      subst ee0 ff0
      exact ⟨h, rfl⟩
    · obtain ⟨q0, q1, ee0⟩ := aa
      subst ee0 ff0
      exfalso; omega
    · obtain ⟨q0, q1, ee0⟩ := aa
      subst ee0 ff0
      exfalso; omega
  · obtain ⟨u0, u1, ff0⟩ := bb
    rcases aa with aa | aa | aa
    · obtain ⟨q0, ee0⟩ := aa
      subst ee0 ff0
      exfalso; omega
    · obtain ⟨q0, q1, ee0⟩ := aa
      subst ee0 ff0
      exact ⟨h, rfl⟩
    · obtain ⟨q0, q1, ee0⟩ := aa
      subst ee0 ff0
      exact absurd ((hex q0 u0.2).mpr u1) q1
  · obtain ⟨u0, u1, ff0⟩ := bb
    rcases aa with aa | aa | aa
    · obtain ⟨q0, ee0⟩ := aa
      subst ee0 ff0
      exfalso; omega
    · obtain ⟨q0, q1, ee0⟩ := aa
      subst ee0 ff0
      exact absurd ((hex q0 u0.2).mp q1) u1
    · obtain ⟨q0, q1, ee0⟩ := aa
      subst ee0 ff0
      exact ⟨h, rfl⟩
  · obtain ⟨u0, ff0⟩ := bb
    rcases aa with aa | aa | aa
    · obtain ⟨q0, ee0⟩ := aa
      subst ee0 ff0
      exfalso; omega
    · obtain ⟨q0, q1, ee0⟩ := aa
      subst ee0 ff0
      exact ⟨h, rfl⟩
    · obtain ⟨q0, q1, ee0⟩ := aa
      subst ee0 ff0
      exact absurd (Or.inl u0.2) q1
end
section
set_option maxRecDepth 100000 in
set_option maxHeartbeats 4000000 in
theorem pr_call {xTc : Int32} {xFc : Int32} {xRc : Int32} {xVc : Int32} {xLr : Int32} {xFl : Int32} {xTn : Int32} {xMn : Int32} {xSt : Int64} {xAb : Int64} {xVa : Int64} {xD1 : Value} {xD2 : Value} {xTl : Int32} {xCs : Int32} {xCo : Int32} {xCa : Value} {xOl : Int32} {xKn : Int32} {xPa : Nat → Int32} {xUp : Nat → Int32} {xAl : Nat → Option Nat} {xHa : Nat → Int64} {xNm : Nat → Int64} {xKi : Nat → Int32} {xAm : Nat → Int32} {xPl : Nat → Int32} {xGo : Nat → Int32} {xKe : Nat → Int32} {xTo : Nat → Int32} {xFa : Nat → Option Nat} {xRe : Nat → Option Nat} {xVl : Nat → Option Nat} {xAr : Nat → Int32} {mTy : Int32} {mPa : Nat → Int32} {mTo : Nat → Int32} {mTm : Int32} {mMn : Int32} {mOt : Nat → Int32} {mNa : Nat → Int32} {mRe : Nat → Int32} {mMa : Nat → Int32} {mMy : Nat → Int32} {mPm : Nat → Int32} {mFn : Int32} {mFy : Nat → Int32} {mFa : Nat → Int32} {mFr : Nat → Int32} {mRn : Int32} {mFo : Nat → Int32} {mRt : Nat → Int32} {mRm : Nat → Int32} {mTn : Int32} {mTt : Nat → Int32} {mTi : Nat → Int32} {mPl : Nat → Int32} {mVn : Int32} {mVr : Nat → Int32} {mVf : Nat → Int32} {mVc : Nat → Int32} {mAr : Nat → Int32} {mLr : Int32} {mTc : Nat → Int32} {mTr : Int32} {mFl : Int32} {mFt : Nat → Int32} {mFm : Int32} {mFp : Int32} {mSc : Int32} {mMp : Int32} {mEn : Int32} {mGo : Nat → Int32} {dyn : pm_H} {yLr : Int32} {yFl : Int32} {yTl : Int32} {yCs : Int32} {yCo : Int32} {yCa : Value} {yOl : Int32} {yKn : Int32} {yKi : Nat → Int32} {yAm : Nat → Int32} {yPl : Nat → Int32} {yGo : Nat → Int32} {yKe : Nat → Int32} {nTn : Int32} {nTt : Nat → Int32} {nTi : Nat → Int32} {nPl : Nat → Int32} {nLr : Int32} {nTc : Nat → Int32} {nTr : Int32} {nFl : Int32} {nFt : Nat → Int32} {nFm : Int32} {nFp : Int32} {nSc : Int32} {nMp : Int32} {nEn : Int32} {nGo : Nat → Int32} {v : Int32} {rx : Int32} {rm : Int32}  {dVb dVp dVo : Nat → Int32} {dVm : Nat → Option Nat} (hvl : vlF mFo mRt mRm mFy mFa mFr mOt mNa mRe mMa mMy mPm mVr mVf mVc dVb dVp dVo dVm mVn xVl dyn) (hvr : ∀ v : Nat, (v : Int) < mVn.toInt → vrR mPa mOt mNa mRe mMy mPm mMa mFa mFy mFr mMn mFo mRt mRm (mVr v) (mVf v) (dVb v) (dVp v) (dVo v) (dVm v)) (hm : mIv mTy mPa mTo mTm mMn mOt mNa mRe mMa mMy mPm mFn mFy mFa mFr mRn mFo mRt mRm mTn mTt mTi mVn mVr mVf mVc mTr) (hn : mIv mTy mPa mTo mTm mMn mOt mNa mRe mMa mMy mPm mFn mFy mFa mFr mRn mFo mRt mRm nTn nTt nTi mVn mVr mVf mVc nTr) (h : rIv xTc xFc xRc xVc xLr xFl xTn xMn xSt xAb xVa xD1 xD2 xTl xOl xKn xPa xUp xAl xHa xNm xKi xAm xPl xKe xTo xFa xRe xVl xAr mTy mPa mTo mTm mMn mOt mNa mRe mMa mMy mPm mFn mFy mFa mFr mRn mFo mRt mRm mTn mTt mTi mPl mVn mVr mVf mVc mAr mLr mTc mTr mFl dyn) (aa : ((¬ (0 ≤ v.toInt ∧ v.toInt < xVc.toInt)) ∧ (-1) = rx ∧ xLr = yLr ∧ xFl = yFl ∧ xTl = yTl ∧ xCs = yCs ∧ xCo = yCo ∧ xCa = yCa ∧ xOl = yOl ∧ xKn = yKn ∧ xKi = yKi ∧ xAm = yAm ∧ xPl = yPl ∧ xGo = yGo ∧ xKe = yKe) ∨ (((0 ≤ v.toInt ∧ v.toInt < xVc.toInt)) ∧ (¬ dsL xUp xKi xAr xTl (mFy (mVf v.toNatClampNeg).toNatClampNeg).toNatClampNeg (cutF mFy mFa (mVf v.toNatClampNeg).toNatClampNeg) 0) ∧ (-1) = rx ∧ xLr = yLr ∧ xFl = yFl ∧ xTl = yTl ∧ xCs = yCs ∧ xCo = yCo ∧ xCa = yCa ∧ xOl = yOl ∧ xKn = yKn ∧ xKi = yKi ∧ xAm = yAm ∧ xPl = yPl ∧ xGo = yGo ∧ xKe = yKe) ∨ (∃ (m9 : Int32) (l8 : Int32) (c8 : Int32) (k8 : Nat → Int32) (a8 : Nat → Int32) (p8 : Nat → Int32) (o9 : Int32) (t9 : Int32) (c9 : Int32) (l9 : Int32) (k9 : Nat → Int32) (a9 : Nat → Int32) (p9 : Nat → Int32), ((0 ≤ v.toInt ∧ v.toInt < xVc.toInt)) ∧ (dsL xUp xKi xAr xTl (mFy (mVf v.toNatClampNeg).toNatClampNeg).toNatClampNeg (cutF mFy mFa (mVf v.toNatClampNeg).toNatClampNeg) 0) ∧ ((dVm v.toNatClampNeg) = none) ∧ ((((mFo (mVr v.toNatClampNeg).toNatClampNeg).toInt = 3 ∨ (mFy (mVf v.toNatClampNeg).toNatClampNeg).toNatClampNeg = 0) ∧ (m9, l8, c8, k8, a8, p8) = mdF (dVo v.toNatClampNeg) 0 (xTl, 0, xKi, xAm, xPl)) ∨ (¬ ((mFo (mVr v.toNatClampNeg).toNatClampNeg).toInt = 3 ∨ (mFy (mVf v.toNatClampNeg).toNatClampNeg).toNatClampNeg = 0) ∧ (m9, l8, c8, k8, a8, p8) = szX xAr (cutF mFy mFa (mVf v.toNatClampNeg).toNatClampNeg) (dVo v.toNatClampNeg) (xTl, 0, xKi, xAm, xPl))) ∧ ((o9, l9, c9, k9, a9, p9) = cvX m9 (dVo v.toNatClampNeg) (mFr (mVf v.toNatClampNeg).toNatClampNeg) (l8, c8, k8, a8, p8)) ∧ (0 ≤ t9.toInt ∧ t9.toInt ≤ 60) ∧ ((c9.toInt ≠ 0 ∧ t9 = xTl) ∨ (c9.toInt = 0 ∧ t9 = l9)) ∧ ((c9.toInt = -21 ∨ c9.toInt = -22)) ∧ c9 = rx ∧ xLr = yLr ∧ xFl + 1 = yFl ∧ t9 = yTl ∧ c9 = yCs ∧ o9 = yCo ∧ .null = yCa ∧ xOl = yOl ∧ xKn = yKn ∧ k9 = yKi ∧ a9 = yAm ∧ p9 = yPl ∧ xGo = yGo ∧ xKe = yKe) ∨ (∃ (m9 : Int32) (l8 : Int32) (c8 : Int32) (k8 : Nat → Int32) (a8 : Nat → Int32) (p8 : Nat → Int32) (o9 : Int32) (t9 : Int32) (c9 : Int32) (l9 : Int32) (k9 : Nat → Int32) (a9 : Nat → Int32) (p9 : Nat → Int32), ((0 ≤ v.toInt ∧ v.toInt < xVc.toInt)) ∧ (dsL xUp xKi xAr xTl (mFy (mVf v.toNatClampNeg).toNatClampNeg).toNatClampNeg (cutF mFy mFa (mVf v.toNatClampNeg).toNatClampNeg) 0) ∧ ((dVm v.toNatClampNeg) = none) ∧ ((((mFo (mVr v.toNatClampNeg).toNatClampNeg).toInt = 3 ∨ (mFy (mVf v.toNatClampNeg).toNatClampNeg).toNatClampNeg = 0) ∧ (m9, l8, c8, k8, a8, p8) = mdF (dVo v.toNatClampNeg) 0 (xTl, 0, xKi, xAm, xPl)) ∨ (¬ ((mFo (mVr v.toNatClampNeg).toNatClampNeg).toInt = 3 ∨ (mFy (mVf v.toNatClampNeg).toNatClampNeg).toNatClampNeg = 0) ∧ (m9, l8, c8, k8, a8, p8) = szX xAr (cutF mFy mFa (mVf v.toNatClampNeg).toNatClampNeg) (dVo v.toNatClampNeg) (xTl, 0, xKi, xAm, xPl))) ∧ ((o9, l9, c9, k9, a9, p9) = cvX m9 (dVo v.toNatClampNeg) (mFr (mVf v.toNatClampNeg).toNatClampNeg) (l8, c8, k8, a8, p8)) ∧ (0 ≤ t9.toInt ∧ t9.toInt ≤ 60) ∧ ((c9.toInt ≠ 0 ∧ t9 = xTl) ∨ (c9.toInt = 0 ∧ t9 = l9)) ∧ (c9.toInt ≠ 0 ∧ ¬ (c9.toInt = -21 ∨ c9.toInt = -22)) ∧ c9 = rx ∧ xLr = yLr ∧ xFl = yFl ∧ t9 = yTl ∧ c9 = yCs ∧ o9 = yCo ∧ .null = yCa ∧ xOl = yOl ∧ xKn = yKn ∧ k9 = yKi ∧ a9 = yAm ∧ p9 = yPl ∧ xGo = yGo ∧ xKe = yKe) ∨ (∃ (m9 : Int32) (l8 : Int32) (c8 : Int32) (k8 : Nat → Int32) (a8 : Nat → Int32) (p8 : Nat → Int32) (o9 : Int32) (t9 : Int32) (c9 : Int32) (l9 : Int32) (k9 : Nat → Int32) (a9 : Nat → Int32) (p9 : Nat → Int32), ((0 ≤ v.toInt ∧ v.toInt < xVc.toInt)) ∧ (dsL xUp xKi xAr xTl (mFy (mVf v.toNatClampNeg).toNatClampNeg).toNatClampNeg (cutF mFy mFa (mVf v.toNatClampNeg).toNatClampNeg) 0) ∧ ((dVm v.toNatClampNeg) = none) ∧ ((((mFo (mVr v.toNatClampNeg).toNatClampNeg).toInt = 3 ∨ (mFy (mVf v.toNatClampNeg).toNatClampNeg).toNatClampNeg = 0) ∧ (m9, l8, c8, k8, a8, p8) = mdF (dVo v.toNatClampNeg) 0 (xTl, 0, xKi, xAm, xPl)) ∨ (¬ ((mFo (mVr v.toNatClampNeg).toNatClampNeg).toInt = 3 ∨ (mFy (mVf v.toNatClampNeg).toNatClampNeg).toNatClampNeg = 0) ∧ (m9, l8, c8, k8, a8, p8) = szX xAr (cutF mFy mFa (mVf v.toNatClampNeg).toNatClampNeg) (dVo v.toNatClampNeg) (xTl, 0, xKi, xAm, xPl))) ∧ ((o9, l9, c9, k9, a9, p9) = cvX m9 (dVo v.toNatClampNeg) (mFr (mVf v.toNatClampNeg).toNatClampNeg) (l8, c8, k8, a8, p8)) ∧ (0 ≤ t9.toInt ∧ t9.toInt ≤ 60) ∧ ((c9.toInt ≠ 0 ∧ t9 = xTl) ∨ (c9.toInt = 0 ∧ t9 = l9)) ∧ (c9.toInt = 0) ∧ 1 = rx ∧ o9 = yLr ∧ xFl = yFl ∧ t9 = yTl ∧ c9 = yCs ∧ o9 = yCo ∧ .null = yCa ∧ xOl = yOl ∧ xKn = yKn ∧ k9 = yKi ∧ a9 = yAm ∧ p9 = yPl ∧ xGo = yGo ∧ xKe = yKe) ∨ (∃ (x9 : Nat) (j9 : Nat) (b9 : Nat) (e9 : Int32) (g9 : Nat → Int32) (l7 : Int32) (c7 : Int32) (k7 : Nat → Int32) (a7 : Nat → Int32) (p7 : Nat → Int32) (m9 : Int32) (l8 : Int32) (c8 : Int32) (k8 : Nat → Int32) (a8 : Nat → Int32) (p8 : Nat → Int32) (o9 : Int32) (t9 : Int32) (c9 : Int32) (l9 : Int32) (k9 : Nat → Int32) (a9 : Nat → Int32) (p9 : Nat → Int32), ((0 ≤ v.toInt ∧ v.toInt < xVc.toInt)) ∧ (dsL xUp xKi xAr xTl (mFy (mVf v.toNatClampNeg).toNatClampNeg).toNatClampNeg (cutF mFy mFa (mVf v.toNatClampNeg).toNatClampNeg) 0) ∧ ((dVm v.toNatClampNeg) = some x9) ∧ (mbF mOt mNa mRe mMa mMy mPm dyn j9 b9) ∧ (mtX mNa mMy mPm xHa xNm xMn (dVb v.toNatClampNeg) (mFo (mVr v.toNatClampNeg).toNatClampNeg) (xAr 0) (mVc v.toNatClampNeg) xKi xTl x9 e9 b9) ∧ ((g9, l7, c7, k7, a7, p7) = haX xAr (cutF mFy mFa (mVf v.toNatClampNeg).toNatClampNeg) (cutF mMy mPm b9) (mMy b9).toNatClampNeg (mFy (mVf v.toNatClampNeg).toNatClampNeg).toNatClampNeg (if (dVb v.toNatClampNeg).toInt ≠ 0 then 1 else 0) (dVp v.toNatClampNeg) (xGo, xTl, e9, xKi, xAm, xPl)) ∧ (grX (mRe b9) (nI (mMy b9).toNatClampNeg) (hbX xHa xNm (mRe b9) &&& xAb ≠ 0) (sumX (mMa b9) (mMy b9).toNatClampNeg (cutF mMy mPm b9) g9 (l7, c7, k7, a7, p7) b9) (l7, c7, k7, a7, p7) (m9, l8, c8, k8, a8, p8)) ∧ ((o9, l9, c9, k9, a9, p9) = cvX m9 (dVo v.toNatClampNeg) (mFr (mVf v.toNatClampNeg).toNatClampNeg) (l8, c8, k8, a8, p8)) ∧ (0 ≤ t9.toInt ∧ t9.toInt ≤ 60) ∧ ((c9.toInt ≠ 0 ∧ t9 = xTl) ∨ (c9.toInt = 0 ∧ t9 = l9)) ∧ ((c9.toInt = -21 ∨ c9.toInt = -22)) ∧ c9 = rx ∧ xLr = yLr ∧ xFl + 1 = yFl ∧ t9 = yTl ∧ c9 = yCs ∧ o9 = yCo ∧ .ref (j9 + 50) = yCa ∧ xOl = yOl ∧ xKn = yKn ∧ k9 = yKi ∧ a9 = yAm ∧ p9 = yPl ∧ g9 = yGo ∧ xKe = yKe) ∨ (∃ (x9 : Nat) (j9 : Nat) (b9 : Nat) (e9 : Int32) (g9 : Nat → Int32) (l7 : Int32) (c7 : Int32) (k7 : Nat → Int32) (a7 : Nat → Int32) (p7 : Nat → Int32) (m9 : Int32) (l8 : Int32) (c8 : Int32) (k8 : Nat → Int32) (a8 : Nat → Int32) (p8 : Nat → Int32) (o9 : Int32) (t9 : Int32) (c9 : Int32) (l9 : Int32) (k9 : Nat → Int32) (a9 : Nat → Int32) (p9 : Nat → Int32), ((0 ≤ v.toInt ∧ v.toInt < xVc.toInt)) ∧ (dsL xUp xKi xAr xTl (mFy (mVf v.toNatClampNeg).toNatClampNeg).toNatClampNeg (cutF mFy mFa (mVf v.toNatClampNeg).toNatClampNeg) 0) ∧ ((dVm v.toNatClampNeg) = some x9) ∧ (mbF mOt mNa mRe mMa mMy mPm dyn j9 b9) ∧ (mtX mNa mMy mPm xHa xNm xMn (dVb v.toNatClampNeg) (mFo (mVr v.toNatClampNeg).toNatClampNeg) (xAr 0) (mVc v.toNatClampNeg) xKi xTl x9 e9 b9) ∧ ((g9, l7, c7, k7, a7, p7) = haX xAr (cutF mFy mFa (mVf v.toNatClampNeg).toNatClampNeg) (cutF mMy mPm b9) (mMy b9).toNatClampNeg (mFy (mVf v.toNatClampNeg).toNatClampNeg).toNatClampNeg (if (dVb v.toNatClampNeg).toInt ≠ 0 then 1 else 0) (dVp v.toNatClampNeg) (xGo, xTl, e9, xKi, xAm, xPl)) ∧ (grX (mRe b9) (nI (mMy b9).toNatClampNeg) (hbX xHa xNm (mRe b9) &&& xAb ≠ 0) (sumX (mMa b9) (mMy b9).toNatClampNeg (cutF mMy mPm b9) g9 (l7, c7, k7, a7, p7) b9) (l7, c7, k7, a7, p7) (m9, l8, c8, k8, a8, p8)) ∧ ((o9, l9, c9, k9, a9, p9) = cvX m9 (dVo v.toNatClampNeg) (mFr (mVf v.toNatClampNeg).toNatClampNeg) (l8, c8, k8, a8, p8)) ∧ (0 ≤ t9.toInt ∧ t9.toInt ≤ 60) ∧ ((c9.toInt ≠ 0 ∧ t9 = xTl) ∨ (c9.toInt = 0 ∧ t9 = l9)) ∧ (c9.toInt ≠ 0 ∧ ¬ (c9.toInt = -21 ∨ c9.toInt = -22)) ∧ c9 = rx ∧ xLr = yLr ∧ xFl = yFl ∧ t9 = yTl ∧ c9 = yCs ∧ o9 = yCo ∧ .ref (j9 + 50) = yCa ∧ xOl = yOl ∧ xKn = yKn ∧ k9 = yKi ∧ a9 = yAm ∧ p9 = yPl ∧ g9 = yGo ∧ xKe = yKe) ∨ (∃ (x9 : Nat) (j9 : Nat) (b9 : Nat) (e9 : Int32) (g9 : Nat → Int32) (l7 : Int32) (c7 : Int32) (k7 : Nat → Int32) (a7 : Nat → Int32) (p7 : Nat → Int32) (m9 : Int32) (l8 : Int32) (c8 : Int32) (k8 : Nat → Int32) (a8 : Nat → Int32) (p8 : Nat → Int32) (o9 : Int32) (t9 : Int32) (c9 : Int32) (l9 : Int32) (k9 : Nat → Int32) (a9 : Nat → Int32) (p9 : Nat → Int32), ((0 ≤ v.toInt ∧ v.toInt < xVc.toInt)) ∧ (dsL xUp xKi xAr xTl (mFy (mVf v.toNatClampNeg).toNatClampNeg).toNatClampNeg (cutF mFy mFa (mVf v.toNatClampNeg).toNatClampNeg) 0) ∧ ((dVm v.toNatClampNeg) = some x9) ∧ (mbF mOt mNa mRe mMa mMy mPm dyn j9 b9) ∧ (mtX mNa mMy mPm xHa xNm xMn (dVb v.toNatClampNeg) (mFo (mVr v.toNatClampNeg).toNatClampNeg) (xAr 0) (mVc v.toNatClampNeg) xKi xTl x9 e9 b9) ∧ ((g9, l7, c7, k7, a7, p7) = haX xAr (cutF mFy mFa (mVf v.toNatClampNeg).toNatClampNeg) (cutF mMy mPm b9) (mMy b9).toNatClampNeg (mFy (mVf v.toNatClampNeg).toNatClampNeg).toNatClampNeg (if (dVb v.toNatClampNeg).toInt ≠ 0 then 1 else 0) (dVp v.toNatClampNeg) (xGo, xTl, e9, xKi, xAm, xPl)) ∧ (grX (mRe b9) (nI (mMy b9).toNatClampNeg) (hbX xHa xNm (mRe b9) &&& xAb ≠ 0) (sumX (mMa b9) (mMy b9).toNatClampNeg (cutF mMy mPm b9) g9 (l7, c7, k7, a7, p7) b9) (l7, c7, k7, a7, p7) (m9, l8, c8, k8, a8, p8)) ∧ ((o9, l9, c9, k9, a9, p9) = cvX m9 (dVo v.toNatClampNeg) (mFr (mVf v.toNatClampNeg).toNatClampNeg) (l8, c8, k8, a8, p8)) ∧ (0 ≤ t9.toInt ∧ t9.toInt ≤ 60) ∧ ((c9.toInt ≠ 0 ∧ t9 = xTl) ∨ (c9.toInt = 0 ∧ t9 = l9)) ∧ (c9.toInt = 0 ∧ xKn.toInt < 50) ∧ 1 = rx ∧ o9 = yLr ∧ xFl = yFl ∧ t9 = yTl ∧ c9 = yCs ∧ o9 = yCo ∧ .ref (j9 + 50) = yCa ∧ xOl = yOl ∧ xKn + 1 = yKn ∧ k9 = yKi ∧ a9 = yAm ∧ p9 = yPl ∧ g9 = yGo ∧ upd xKe ((xOl + xKn) - (xOl + xKn) / 50 * 50).toNatClampNeg (nI b9) = yKe) ∨ (∃ (x9 : Nat) (j9 : Nat) (b9 : Nat) (e9 : Int32) (g9 : Nat → Int32) (l7 : Int32) (c7 : Int32) (k7 : Nat → Int32) (a7 : Nat → Int32) (p7 : Nat → Int32) (m9 : Int32) (l8 : Int32) (c8 : Int32) (k8 : Nat → Int32) (a8 : Nat → Int32) (p8 : Nat → Int32) (o9 : Int32) (t9 : Int32) (c9 : Int32) (l9 : Int32) (k9 : Nat → Int32) (a9 : Nat → Int32) (p9 : Nat → Int32), ((0 ≤ v.toInt ∧ v.toInt < xVc.toInt)) ∧ (dsL xUp xKi xAr xTl (mFy (mVf v.toNatClampNeg).toNatClampNeg).toNatClampNeg (cutF mFy mFa (mVf v.toNatClampNeg).toNatClampNeg) 0) ∧ ((dVm v.toNatClampNeg) = some x9) ∧ (mbF mOt mNa mRe mMa mMy mPm dyn j9 b9) ∧ (mtX mNa mMy mPm xHa xNm xMn (dVb v.toNatClampNeg) (mFo (mVr v.toNatClampNeg).toNatClampNeg) (xAr 0) (mVc v.toNatClampNeg) xKi xTl x9 e9 b9) ∧ ((g9, l7, c7, k7, a7, p7) = haX xAr (cutF mFy mFa (mVf v.toNatClampNeg).toNatClampNeg) (cutF mMy mPm b9) (mMy b9).toNatClampNeg (mFy (mVf v.toNatClampNeg).toNatClampNeg).toNatClampNeg (if (dVb v.toNatClampNeg).toInt ≠ 0 then 1 else 0) (dVp v.toNatClampNeg) (xGo, xTl, e9, xKi, xAm, xPl)) ∧ (grX (mRe b9) (nI (mMy b9).toNatClampNeg) (hbX xHa xNm (mRe b9) &&& xAb ≠ 0) (sumX (mMa b9) (mMy b9).toNatClampNeg (cutF mMy mPm b9) g9 (l7, c7, k7, a7, p7) b9) (l7, c7, k7, a7, p7) (m9, l8, c8, k8, a8, p8)) ∧ ((o9, l9, c9, k9, a9, p9) = cvX m9 (dVo v.toNatClampNeg) (mFr (mVf v.toNatClampNeg).toNatClampNeg) (l8, c8, k8, a8, p8)) ∧ (0 ≤ t9.toInt ∧ t9.toInt ≤ 60) ∧ ((c9.toInt ≠ 0 ∧ t9 = xTl) ∨ (c9.toInt = 0 ∧ t9 = l9)) ∧ (c9.toInt = 0 ∧ 50 ≤ xKn.toInt) ∧ 1 = rx ∧ o9 = yLr ∧ xFl = yFl ∧ t9 = yTl ∧ c9 = yCs ∧ o9 = yCo ∧ .ref (j9 + 50) = yCa ∧ (xOl + 1) - (xOl + 1) / 50 * 50 = yOl ∧ xKn = yKn ∧ k9 = yKi ∧ a9 = yAm ∧ p9 = yPl ∧ g9 = yGo ∧ upd xKe ((xOl + xKn) - (xOl + xKn) / 50 * 50).toNatClampNeg (nI b9) = yKe)) (bb : ((¬ (0 ≤ v.toInt ∧ v.toInt < mVn.toInt)) ∧ (-1) = rm ∧ mTn = nTn ∧ mTt = nTt ∧ mTi = nTi ∧ mPl = nPl ∧ mLr = nLr ∧ mTc = nTc ∧ mTr = nTr ∧ mFl = nFl ∧ mFt = nFt ∧ mFm = nFm ∧ mFp = nFp ∧ mSc = nSc ∧ mMp = nMp ∧ mEn = nEn ∧ mGo = nGo) ∨ (((0 ≤ v.toInt ∧ v.toInt < mVn.toInt)) ∧ (¬ agM mPa mTt mAr mFa mFy mTn (mVf v.toNatClampNeg) 0) ∧ (-1) = rm ∧ mTn = nTn ∧ mTt = nTt ∧ mTi = nTi ∧ mPl = nPl ∧ mLr = nLr ∧ mTc = nTc ∧ mTr = nTr ∧ mFl = nFl ∧ mFt = nFt ∧ mFm = nFm ∧ mFp = nFp ∧ mSc = nSc ∧ mMp = nMp ∧ mEn = nEn ∧ mGo = nGo) ∨ (∃ (s9 : Int32) (f9 : Nat → Int32) (m9 : Int32) (q9 : Int32) (p9 : Int32) (rn : Int32) (wh : Int32) (cm : Int32) (g9 : Nat → Int32) (n8 : Int32) (e8 : Int32) (t8 : Nat → Int32) (i8 : Nat → Int32) (l8 : Nat → Int32) (w9 : Int32) (n9 : Int32) (e9 : Int32) (t9 : Nat → Int32) (i9 : Nat → Int32) (l9 : Nat → Int32), ((0 ≤ v.toInt ∧ v.toInt < mVn.toInt)) ∧ (agM mPa mTt mAr mFa mFy mTn (mVf v.toNatClampNeg) 0) ∧ (coM mPa mOt mNa mRe mMy mPm mMa mFa mFy mFr mAr mMn (mFo (mVr v.toNatClampNeg).toNatClampNeg) (mRt (mVr v.toNatClampNeg).toNatClampNeg) (mRm (mVr v.toNatClampNeg).toNatClampNeg) (mVf v.toNatClampNeg) (mVc v.toNatClampNeg) mGo mTn (mTt, mTi, mPl) rn wh cm (g9, n8, e8, t8, i8, l8)) ∧ ((w9, n9, e9, t9, i9, l9) = fnF (mFr (mVf v.toNatClampNeg).toNatClampNeg) wh cm (n8, e8, t8, i8, l8)) ∧ ((0 ≤ n9.toInt ∧ n9.toInt ≤ 60) ∧ mTn.toInt ≤ n9.toInt) ∧ (e9.toInt = -2) ∧ e9 = rm ∧ mTn = nTn ∧ t9 = nTt ∧ i9 = nTi ∧ l9 = nPl ∧ mLr = nLr ∧ mTc = nTc ∧ mTr = nTr ∧ mFl + 0 = nFl ∧ f9 = nFt ∧ m9 = nFm ∧ q9 = nFp ∧ s9 = nSc ∧ p9 = nMp ∧ e9 = nEn ∧ g9 = nGo) ∨ (∃ (s9 : Int32) (f9 : Nat → Int32) (m9 : Int32) (q9 : Int32) (p9 : Int32) (rn : Int32) (wh : Int32) (cm : Int32) (g9 : Nat → Int32) (n8 : Int32) (e8 : Int32) (t8 : Nat → Int32) (i8 : Nat → Int32) (l8 : Nat → Int32) (w9 : Int32) (n9 : Int32) (e9 : Int32) (t9 : Nat → Int32) (i9 : Nat → Int32) (l9 : Nat → Int32), ((0 ≤ v.toInt ∧ v.toInt < mVn.toInt)) ∧ (agM mPa mTt mAr mFa mFy mTn (mVf v.toNatClampNeg) 0) ∧ (coM mPa mOt mNa mRe mMy mPm mMa mFa mFy mFr mAr mMn (mFo (mVr v.toNatClampNeg).toNatClampNeg) (mRt (mVr v.toNatClampNeg).toNatClampNeg) (mRm (mVr v.toNatClampNeg).toNatClampNeg) (mVf v.toNatClampNeg) (mVc v.toNatClampNeg) mGo mTn (mTt, mTi, mPl) rn wh cm (g9, n8, e8, t8, i8, l8)) ∧ ((w9, n9, e9, t9, i9, l9) = fnF (mFr (mVf v.toNatClampNeg).toNatClampNeg) wh cm (n8, e8, t8, i8, l8)) ∧ ((0 ≤ n9.toInt ∧ n9.toInt ≤ 60) ∧ mTn.toInt ≤ n9.toInt) ∧ (e9.toInt ≠ 0 ∧ e9.toInt ≠ -2) ∧ e9 = rm ∧ mTn = nTn ∧ t9 = nTt ∧ i9 = nTi ∧ l9 = nPl ∧ mLr = nLr ∧ mTc = nTc ∧ mTr = nTr ∧ mFl + 1 = nFl ∧ f9 = nFt ∧ m9 = nFm ∧ q9 = nFp ∧ s9 = nSc ∧ p9 = nMp ∧ e9 = nEn ∧ g9 = nGo) ∨ (∃ (s9 : Int32) (f9 : Nat → Int32) (m9 : Int32) (q9 : Int32) (p9 : Int32) (rn : Int32) (wh : Int32) (cm : Int32) (g9 : Nat → Int32) (n8 : Int32) (e8 : Int32) (t8 : Nat → Int32) (i8 : Nat → Int32) (l8 : Nat → Int32) (w9 : Int32) (n9 : Int32) (e9 : Int32) (t9 : Nat → Int32) (i9 : Nat → Int32) (l9 : Nat → Int32), ((0 ≤ v.toInt ∧ v.toInt < mVn.toInt)) ∧ (agM mPa mTt mAr mFa mFy mTn (mVf v.toNatClampNeg) 0) ∧ (coM mPa mOt mNa mRe mMy mPm mMa mFa mFy mFr mAr mMn (mFo (mVr v.toNatClampNeg).toNatClampNeg) (mRt (mVr v.toNatClampNeg).toNatClampNeg) (mRm (mVr v.toNatClampNeg).toNatClampNeg) (mVf v.toNatClampNeg) (mVc v.toNatClampNeg) mGo mTn (mTt, mTi, mPl) rn wh cm (g9, n8, e8, t8, i8, l8)) ∧ ((w9, n9, e9, t9, i9, l9) = fnF (mFr (mVf v.toNatClampNeg).toNatClampNeg) wh cm (n8, e8, t8, i8, l8)) ∧ ((0 ≤ n9.toInt ∧ n9.toInt ≤ 60) ∧ mTn.toInt ≤ n9.toInt) ∧ (e9.toInt = 0 ∧ rn.toInt = -4) ∧ 1 = rm ∧ n9 = nTn ∧ t9 = nTt ∧ i9 = nTi ∧ l9 = nPl ∧ w9 = nLr ∧ mTc = nTc ∧ mTr = nTr ∧ mFl = nFl ∧ f9 = nFt ∧ m9 = nFm ∧ q9 = nFp ∧ s9 = nSc ∧ p9 = nMp ∧ e9 = nEn ∧ g9 = nGo) ∨ (∃ (s9 : Int32) (f9 : Nat → Int32) (m9 : Int32) (q9 : Int32) (p9 : Int32) (rn : Int32) (wh : Int32) (cm : Int32) (g9 : Nat → Int32) (n8 : Int32) (e8 : Int32) (t8 : Nat → Int32) (i8 : Nat → Int32) (l8 : Nat → Int32) (w9 : Int32) (n9 : Int32) (e9 : Int32) (t9 : Nat → Int32) (i9 : Nat → Int32) (l9 : Nat → Int32), ((0 ≤ v.toInt ∧ v.toInt < mVn.toInt)) ∧ (agM mPa mTt mAr mFa mFy mTn (mVf v.toNatClampNeg) 0) ∧ (coM mPa mOt mNa mRe mMy mPm mMa mFa mFy mFr mAr mMn (mFo (mVr v.toNatClampNeg).toNatClampNeg) (mRt (mVr v.toNatClampNeg).toNatClampNeg) (mRm (mVr v.toNatClampNeg).toNatClampNeg) (mVf v.toNatClampNeg) (mVc v.toNatClampNeg) mGo mTn (mTt, mTi, mPl) rn wh cm (g9, n8, e8, t8, i8, l8)) ∧ ((w9, n9, e9, t9, i9, l9) = fnF (mFr (mVf v.toNatClampNeg).toNatClampNeg) wh cm (n8, e8, t8, i8, l8)) ∧ ((0 ≤ n9.toInt ∧ n9.toInt ≤ 60) ∧ mTn.toInt ≤ n9.toInt) ∧ ((e9.toInt = 0 ∧ rn.toInt ≠ -4) ∧ mTr.toInt = 50) ∧ 1 = rm ∧ n9 = nTn ∧ t9 = nTt ∧ i9 = nTi ∧ l9 = nPl ∧ w9 = nLr ∧ upd (shT mTc) (mTr - 1).toNatClampNeg rn = nTc ∧ mTr - 1 + 1 = nTr ∧ mFl = nFl ∧ f9 = nFt ∧ m9 = nFm ∧ q9 = nFp ∧ s9 = nSc ∧ p9 = nMp ∧ e9 = nEn ∧ g9 = nGo) ∨ (∃ (s9 : Int32) (f9 : Nat → Int32) (m9 : Int32) (q9 : Int32) (p9 : Int32) (rn : Int32) (wh : Int32) (cm : Int32) (g9 : Nat → Int32) (n8 : Int32) (e8 : Int32) (t8 : Nat → Int32) (i8 : Nat → Int32) (l8 : Nat → Int32) (w9 : Int32) (n9 : Int32) (e9 : Int32) (t9 : Nat → Int32) (i9 : Nat → Int32) (l9 : Nat → Int32), ((0 ≤ v.toInt ∧ v.toInt < mVn.toInt)) ∧ (agM mPa mTt mAr mFa mFy mTn (mVf v.toNatClampNeg) 0) ∧ (coM mPa mOt mNa mRe mMy mPm mMa mFa mFy mFr mAr mMn (mFo (mVr v.toNatClampNeg).toNatClampNeg) (mRt (mVr v.toNatClampNeg).toNatClampNeg) (mRm (mVr v.toNatClampNeg).toNatClampNeg) (mVf v.toNatClampNeg) (mVc v.toNatClampNeg) mGo mTn (mTt, mTi, mPl) rn wh cm (g9, n8, e8, t8, i8, l8)) ∧ ((w9, n9, e9, t9, i9, l9) = fnF (mFr (mVf v.toNatClampNeg).toNatClampNeg) wh cm (n8, e8, t8, i8, l8)) ∧ ((0 ≤ n9.toInt ∧ n9.toInt ≤ 60) ∧ mTn.toInt ≤ n9.toInt) ∧ ((e9.toInt = 0 ∧ rn.toInt ≠ -4) ∧ mTr.toInt < 50) ∧ 1 = rm ∧ n9 = nTn ∧ t9 = nTt ∧ i9 = nTi ∧ l9 = nPl ∧ w9 = nLr ∧ upd mTc mTr.toNatClampNeg rn = nTc ∧ mTr + 1 = nTr ∧ mFl = nFl ∧ f9 = nFt ∧ m9 = nFm ∧ q9 = nFp ∧ s9 = nSc ∧ p9 = nMp ∧ e9 = nEn ∧ g9 = nGo)) : rIv xTc xFc xRc xVc yLr yFl xTn xMn xSt xAb xVa xD1 xD2 yTl yOl yKn xPa xUp xAl xHa xNm yKi yAm yPl yKe xTo xFa xRe xVl xAr mTy mPa mTo mTm mMn mOt mNa mRe mMa mMy mPm mFn mFy mFa mFr mRn mFo mRt mRm nTn nTt nTi nPl mVn mVr mVf mVc mAr nLr nTc nTr nFl dyn ∧ rx = rm := by
  replace aa := cx_call aa
  replace bb := cm_call bb
  have e_r_tn := h.r_tn
  have e_r_tc := h.r_tc
  have e_r_to := h.r_to
  have e_r_mn := h.r_mn
  have e_r_fc := h.r_fc
  have e_r_rc := h.r_rc
  have e_r_tl := h.r_tl
  have e_r_ki := h.r_ki
  have e_r_am := h.r_am
  have e_r_pl := h.r_pl
  have e_r_vc := h.r_vc
  have e_r_ar := h.r_ar
  have e_r_lr := h.r_lr
  have e_r_fl := h.r_fl
  have e_r_kn := h.r_kn
  subst e_r_tn; subst e_r_tc; subst e_r_to; subst e_r_mn; subst e_r_fc; subst e_r_rc; subst e_r_tl; subst e_r_ki; subst e_r_am; subst e_r_pl; subst e_r_vc; subst e_r_ar; subst e_r_lr; subst e_r_fl; subst e_r_kn
  have w1 := hm.ity
  have w2 := hm.itm
  have w3 := hm.imn
  have w4 := hm.ifn
  have w5 := hm.irn
  have w6 := hm.itn
  have w7 := hm.ivn
  have w8 := hm.itr
  have hds : (0 ≤ v.toInt ∧ v.toInt < mVn.toInt) → (dsL xUp mTt mAr mTn (mFy (mVf v.toNatClampNeg).toNatClampNeg).toNatClampNeg (cutF mFy mFa (mVf v.toNatClampNeg).toNatClampNeg) 0 ↔ agM mPa mTt mAr mFa mFy mTn (mVf v.toNatClampNeg) 0) := fun q => by
    have hx := xN q.1
    obtain ⟨i1, i2, _⟩ := hm.iva v.toNatClampNeg (by omega)
    have j2 := xN i2.1
    exact ds_x h.r_mm.1 hm.ity ⟨by omega, fcD_at hm.ifc i2, hm.ifa, h.r_fr _ (by omega)⟩ h.r_kd
  rcases bb with bb | bb | bb
  · obtain ⟨u0, ff0, ff1, ff2, ff3, ff4, ff5, ff6, ff7, ff8, ff9, ff10, ff11, ff12, ff13, ff14, ff15⟩ := bb
    rcases aa with aa | aa | aa | aa
    · obtain ⟨q0, ee0, ee1, ee2, ee3, ee4, ee5, ee6, ee7, ee8, ee9, ee10, ee11, ee12, ee13⟩ := aa
      subst ee0 ee1 ee2 ee3 ee4 ee5 ee6 ee7 ee8 ee9 ee10 ee11 ee12 ee13 ff0 ff1 ff2 ff3 ff4 ff5 ff6 ff7 ff8 ff9 ff10 ff11 ff12 ff13 ff14 ff15
      exact ⟨h, rfl⟩
    · obtain ⟨q0, q1, _⟩ := aa
      exact absurd q0 u0
    · obtain ⟨m9x, l8x, c8x, k8x, a8x, p8x, o9x, t9x, c9x, l9x, k9x, a9x, p9x, q0, q1, _⟩ := aa
      exact absurd q0 u0
    · obtain ⟨x9x, j9x, b9x, e9x, g9x, l7x, c7x, k7x, a7x, p7x, m9x, l8x, c8x, k8x, a8x, p8x, o9x, t9x, c9x, l9x, k9x, a9x, p9x, q0, q1, _⟩ := aa
      exact absurd q0 u0
  · obtain ⟨u0, u1, ff0, ff1, ff2, ff3, ff4, ff5, ff6, ff7, ff8, ff9, ff10, ff11, ff12, ff13, ff14, ff15⟩ := bb
    rcases aa with aa | aa | aa | aa
    · obtain ⟨q0, _⟩ := aa
      exact absurd u0 q0
    · obtain ⟨q0, q1, ee0, ee1, ee2, ee3, ee4, ee5, ee6, ee7, ee8, ee9, ee10, ee11, ee12, ee13⟩ := aa
      subst ee0 ee1 ee2 ee3 ee4 ee5 ee6 ee7 ee8 ee9 ee10 ee11 ee12 ee13 ff0 ff1 ff2 ff3 ff4 ff5 ff6 ff7 ff8 ff9 ff10 ff11 ff12 ff13 ff14 ff15
      exact ⟨h, rfl⟩
    · obtain ⟨m9x, l8x, c8x, k8x, a8x, p8x, o9x, t9x, c9x, l9x, k9x, a9x, p9x, q0, q1, _⟩ := aa
      exact absurd ((hds q0).mp q1) u1
    · obtain ⟨x9x, j9x, b9x, e9x, g9x, l7x, c7x, k7x, a7x, p7x, m9x, l8x, c8x, k8x, a8x, p8x, o9x, t9x, c9x, l9x, k9x, a9x, p9x, q0, q1, _⟩ := aa
      exact absurd ((hds q0).mp q1) u1
  · obtain ⟨s9m, f9m, m9m, q9m, p9m, rnm, whm, cmm, g9m, n8m, e8m, t8m, i8m, l8m, w9m, n9m, e9m, t9m, i9m, l9m, u0, u1, u2, u3, u4, bb⟩ := bb
    rcases aa with aa | aa | aa | aa
    · obtain ⟨q0, _⟩ := aa
      exact absurd u0 q0
    · obtain ⟨q0, q1, _⟩ := aa
      exact absurd ((hds q0).mpr u1) q1
    · obtain ⟨m9x, l8x, c8x, k8x, a8x, p8x, o9x, t9x, c9x, l9x, k9x, a9x, p9x, q0, q1, q2, q3, q4, q5, q6, aa⟩ := aa
      obtain ⟨hrn, hg, hZ, ho⟩ := ca_0 hm h hvr q0 u1 q2 q3 q4 u2 u3
      simp only [Prod.mk.injEq] at hZ
      obtain ⟨rfl, rfl, rfl, rfl, rfl⟩ := hZ
      have he := hg.2.2
      dsimp only at he ho
      rcases bb with bb | bb | bb | bb | bb
      · obtain ⟨u5, bb⟩ := bb
        rcases aa with aa | aa | aa
        · obtain ⟨q7, aa⟩ := aa
          exfalso; omega
        · obtain ⟨q7, aa⟩ := aa
          obtain ⟨ee0, ee1, ee2, ee3, ee4, ee5, ee6, ee7, ee8, ee9, ee10, ee11, ee12, ee13⟩ := aa
          obtain ⟨ff0, ff1, ff2, ff3, ff4, ff5, ff6, ff7, ff8, ff9, ff10, ff11, ff12, ff13, ff14, ff15⟩ := bb
          subst ee0 ee1 ee2 ee3 ee4 ee5 ee6 ee7 ee8 ee9 ee10 ee11 ee12 ee13 ff0 ff1 ff2 ff3 ff4 ff5 ff6 ff7 ff8 ff9 ff10 ff11 ff12 ff13 ff14 ff15
          exact ⟨(rIv.mk (r_tn := h.r_tn) (r_tc := h.r_tc) (r_to := h.r_to) (r_mn := h.r_mn) (r_fc := h.r_fc) (r_rc := h.r_rc) (r_tl := (by have z := q6.resolve_right (fun z => by omega); exact z.2.symm)) (r_ki := rfl) (r_am := rfl) (r_pl := rfl) (r_vc := h.r_vc) (r_ar := h.r_ar) (r_lr := h.r_lr) (r_fl := Int32.add_zero _) (r_kn := h.r_kn) (r_mm := h.r_mm) (r_ot := h.r_ot) (r_al := h.r_al) (r_fa := h.r_fa) (r_fr := h.r_fr) (r_re := h.r_re) (r_rf := h.r_rf) (r_kd := (fun i z1 z2 => hg.2.1 i z1 (by have := u4.2; dsimp only; omega))) (r_vl := h.r_vl) (r_ol := h.r_ol) (r_ke := h.r_ke) (r_d1 := h.r_d1) (r_d2 := h.r_d2)), rfl⟩
        · obtain ⟨q7, aa⟩ := aa
          exfalso; omega
      · obtain ⟨u5, bb⟩ := bb
        rcases aa with aa | aa | aa
        · obtain ⟨q7, aa⟩ := aa
          obtain ⟨ee0, ee1, ee2, ee3, ee4, ee5, ee6, ee7, ee8, ee9, ee10, ee11, ee12, ee13⟩ := aa
          obtain ⟨ff0, ff1, ff2, ff3, ff4, ff5, ff6, ff7, ff8, ff9, ff10, ff11, ff12, ff13, ff14, ff15⟩ := bb
          subst ee0 ee1 ee2 ee3 ee4 ee5 ee6 ee7 ee8 ee9 ee10 ee11 ee12 ee13 ff0 ff1 ff2 ff3 ff4 ff5 ff6 ff7 ff8 ff9 ff10 ff11 ff12 ff13 ff14 ff15
          exact ⟨(rIv.mk (r_tn := h.r_tn) (r_tc := h.r_tc) (r_to := h.r_to) (r_mn := h.r_mn) (r_fc := h.r_fc) (r_rc := h.r_rc) (r_tl := (by have z := q6.resolve_right (fun z => by omega); exact z.2.symm)) (r_ki := rfl) (r_am := rfl) (r_pl := rfl) (r_vc := h.r_vc) (r_ar := h.r_ar) (r_lr := h.r_lr) (r_fl := rfl) (r_kn := h.r_kn) (r_mm := h.r_mm) (r_ot := h.r_ot) (r_al := h.r_al) (r_fa := h.r_fa) (r_fr := h.r_fr) (r_re := h.r_re) (r_rf := h.r_rf) (r_kd := (fun i z1 z2 => hg.2.1 i z1 (by have := u4.2; dsimp only; omega))) (r_vl := h.r_vl) (r_ol := h.r_ol) (r_ke := h.r_ke) (r_d1 := h.r_d1) (r_d2 := h.r_d2)), rfl⟩
        · obtain ⟨q7, aa⟩ := aa
          exfalso; omega
        · obtain ⟨q7, aa⟩ := aa
          exfalso; omega
      · obtain ⟨u5, bb⟩ := bb
        rcases aa with aa | aa | aa
        · obtain ⟨q7, aa⟩ := aa
          exfalso; omega
        · obtain ⟨q7, aa⟩ := aa
          exfalso; omega
        · obtain ⟨q7, aa⟩ := aa
          obtain ⟨ee0, ee1, ee2, ee3, ee4, ee5, ee6, ee7, ee8, ee9, ee10, ee11, ee12, ee13⟩ := aa
          obtain ⟨ff0, ff1, ff2, ff3, ff4, ff5, ff6, ff7, ff8, ff9, ff10, ff11, ff12, ff13, ff14, ff15⟩ := bb
          subst ee0 ee1 ee2 ee3 ee4 ee5 ee6 ee7 ee8 ee9 ee10 ee11 ee12 ee13 ff0 ff1 ff2 ff3 ff4 ff5 ff6 ff7 ff8 ff9 ff10 ff11 ff12 ff13 ff14 ff15
          exact ⟨(rIv.mk (r_tn := h.r_tn) (r_tc := h.r_tc) (r_to := h.r_to) (r_mn := h.r_mn) (r_fc := h.r_fc) (r_rc := h.r_rc) (r_tl := (by have z := q6.resolve_left (fun z => by omega); exact z.2.symm)) (r_ki := rfl) (r_am := rfl) (r_pl := rfl) (r_vc := h.r_vc) (r_ar := h.r_ar) (r_lr := (ho (by omega)).symm) (r_fl := h.r_fl) (r_kn := h.r_kn) (r_mm := h.r_mm) (r_ot := h.r_ot) (r_al := h.r_al) (r_fa := h.r_fa) (r_fr := h.r_fr) (r_re := h.r_re) (r_rf := h.r_rf) (r_kd := (fun i z1 z2 => hg.2.1 i z1 z2)) (r_vl := h.r_vl) (r_ol := h.r_ol) (r_ke := h.r_ke) (r_d1 := h.r_d1) (r_d2 := h.r_d2)), rfl⟩
      · obtain ⟨u5, bb⟩ := bb
        rcases aa with aa | aa | aa
        · obtain ⟨q7, aa⟩ := aa
          exfalso; omega
        · obtain ⟨q7, aa⟩ := aa
          exfalso; omega
        · obtain ⟨q7, aa⟩ := aa
          rw [hrn] at u5; exact absurd (by decide) u5.1.2
      · obtain ⟨u5, bb⟩ := bb
        rcases aa with aa | aa | aa
        · obtain ⟨q7, aa⟩ := aa
          exfalso; omega
        · obtain ⟨q7, aa⟩ := aa
          exfalso; omega
        · obtain ⟨q7, aa⟩ := aa
          rw [hrn] at u5; exact absurd (by decide) u5.1.2
    · obtain ⟨x9x, j9x, b9x, e9x, g9x, l7x, c7x, k7x, a7x, p7x, m9x, l8x, c8x, k8x, a8x, p8x, o9x, t9x, c9x, l9x, k9x, a9x, p9x, q0, q1, q2, q3, q4, q5, q6, q7, q8, q9, aa⟩ := aa
      obtain ⟨hrn, hbm, hg, hZ, ho⟩ := ca_1 hm h hvr q0 u1 q2 q4 q5 q6 q7 u2 u3
      simp only [Prod.mk.injEq] at hZ
      obtain ⟨rfl, rfl, rfl, rfl, rfl⟩ := hZ
      have he := hg.2.2
      dsimp only at he ho
      have hnb := nI_toInt (n := b9x) (by omega)
      rcases bb with bb | bb | bb | bb | bb
      · obtain ⟨u5, bb⟩ := bb
        rcases aa with aa | aa | aa | aa
        · obtain ⟨q10, aa⟩ := aa
          exfalso; omega
        · obtain ⟨q10, aa⟩ := aa
          obtain ⟨ee0, ee1, ee2, ee3, ee4, ee5, ee6, ee7, ee8, ee9, ee10, ee11, ee12, ee13⟩ := aa
          obtain ⟨ff0, ff1, ff2, ff3, ff4, ff5, ff6, ff7, ff8, ff9, ff10, ff11, ff12, ff13, ff14, ff15⟩ := bb
          subst ee0 ee1 ee2 ee3 ee4 ee5 ee6 ee7 ee8 ee9 ee10 ee11 ee12 ee13 ff0 ff1 ff2 ff3 ff4 ff5 ff6 ff7 ff8 ff9 ff10 ff11 ff12 ff13 ff14 ff15
          exact ⟨(rIv.mk (r_tn := h.r_tn) (r_tc := h.r_tc) (r_to := h.r_to) (r_mn := h.r_mn) (r_fc := h.r_fc) (r_rc := h.r_rc) (r_tl := (by have z := q9.resolve_right (fun z => by omega); exact z.2.symm)) (r_ki := rfl) (r_am := rfl) (r_pl := rfl) (r_vc := h.r_vc) (r_ar := h.r_ar) (r_lr := h.r_lr) (r_fl := Int32.add_zero _) (r_kn := h.r_kn) (r_mm := h.r_mm) (r_ot := h.r_ot) (r_al := h.r_al) (r_fa := h.r_fa) (r_fr := h.r_fr) (r_re := h.r_re) (r_rf := h.r_rf) (r_kd := (fun i z1 z2 => hg.2.1 i z1 (by have := u4.2; dsimp only; omega))) (r_vl := h.r_vl) (r_ol := h.r_ol) (r_ke := h.r_ke) (r_d1 := h.r_d1) (r_d2 := h.r_d2)), rfl⟩
        · obtain ⟨q10, aa⟩ := aa
          exfalso; omega
        · obtain ⟨q10, aa⟩ := aa
          exfalso; omega
      · obtain ⟨u5, bb⟩ := bb
        rcases aa with aa | aa | aa | aa
        · obtain ⟨q10, aa⟩ := aa
          obtain ⟨ee0, ee1, ee2, ee3, ee4, ee5, ee6, ee7, ee8, ee9, ee10, ee11, ee12, ee13⟩ := aa
          obtain ⟨ff0, ff1, ff2, ff3, ff4, ff5, ff6, ff7, ff8, ff9, ff10, ff11, ff12, ff13, ff14, ff15⟩ := bb
          subst ee0 ee1 ee2 ee3 ee4 ee5 ee6 ee7 ee8 ee9 ee10 ee11 ee12 ee13 ff0 ff1 ff2 ff3 ff4 ff5 ff6 ff7 ff8 ff9 ff10 ff11 ff12 ff13 ff14 ff15
          exact ⟨(rIv.mk (r_tn := h.r_tn) (r_tc := h.r_tc) (r_to := h.r_to) (r_mn := h.r_mn) (r_fc := h.r_fc) (r_rc := h.r_rc) (r_tl := (by have z := q9.resolve_right (fun z => by omega); exact z.2.symm)) (r_ki := rfl) (r_am := rfl) (r_pl := rfl) (r_vc := h.r_vc) (r_ar := h.r_ar) (r_lr := h.r_lr) (r_fl := rfl) (r_kn := h.r_kn) (r_mm := h.r_mm) (r_ot := h.r_ot) (r_al := h.r_al) (r_fa := h.r_fa) (r_fr := h.r_fr) (r_re := h.r_re) (r_rf := h.r_rf) (r_kd := (fun i z1 z2 => hg.2.1 i z1 (by have := u4.2; dsimp only; omega))) (r_vl := h.r_vl) (r_ol := h.r_ol) (r_ke := h.r_ke) (r_d1 := h.r_d1) (r_d2 := h.r_d2)), rfl⟩
        · obtain ⟨q10, aa⟩ := aa
          exfalso; omega
        · obtain ⟨q10, aa⟩ := aa
          exfalso; omega
        · obtain ⟨q10, aa⟩ := aa
          exfalso; omega
      · obtain ⟨u5, bb⟩ := bb
        rcases aa with aa | aa | aa | aa
        · obtain ⟨q10, aa⟩ := aa
          exfalso; omega
        · obtain ⟨q10, aa⟩ := aa
          exfalso; omega
        · obtain ⟨q10, aa⟩ := aa
          rw [hrn] at u5; exfalso; omega
        · obtain ⟨q10, aa⟩ := aa
          rw [hrn] at u5; exfalso; omega
      · obtain ⟨u5, bb⟩ := bb
        rcases aa with aa | aa | aa | aa
        · obtain ⟨q10, aa⟩ := aa
          exfalso; omega
        · obtain ⟨q10, aa⟩ := aa
          exfalso; omega
        · obtain ⟨q10, aa⟩ := aa
          rw [hrn] at u5; exfalso; omega
        · obtain ⟨q10, aa⟩ := aa
          obtain ⟨ee0, ee1, ee2, ee3, ee4, ee5, ee6, ee7, ee8, ee9, ee10, ee11, ee12, ee13⟩ := aa
          obtain ⟨ff0, ff1, ff2, ff3, ff4, ff5, ff6, ff7, ff8, ff9, ff10, ff11, ff12, ff13, ff14, ff15⟩ := bb
          subst ee0 ee1 ee2 ee3 ee4 ee5 ee6 ee7 ee8 ee9 ee10 ee11 ee12 ee13 ff0 ff1 ff2 ff3 ff4 ff5 ff6 ff7 ff8 ff9 ff10 ff11 ff12 ff13 ff14 ff15
          subst hrn; exact ⟨(rIv.mk (r_tn := h.r_tn) (r_tc := h.r_tc) (r_to := h.r_to) (r_mn := h.r_mn) (r_fc := h.r_fc) (r_rc := h.r_rc) (r_tl := (by have z := q9.resolve_left (fun z => by omega); exact z.2.symm)) (r_ki := rfl) (r_am := rfl) (r_pl := rfl) (r_vc := h.r_vc) (r_ar := h.r_ar) (r_lr := (ho (by omega)).symm) (r_fl := h.r_fl) (r_kn := (by apply xJ; have e1 : (mTr - 1).toInt = mTr.toInt - 1 := iSub rfl (by decide) (by omega) (by omega); have e2 : (mTr - 1 + 1).toInt = mTr.toInt - 1 + 1 := iAdd e1 (by decide) (by omega) (by omega); omega)) (r_mm := h.r_mm) (r_ot := h.r_ot) (r_al := h.r_al) (r_fa := h.r_fa) (r_fr := h.r_fr) (r_re := h.r_re) (r_rf := h.r_rf) (r_kd := (fun i z1 z2 => hg.2.1 i z1 z2)) (r_vl := h.r_vl) (r_ol := (rem50 (by rw [iAdd (x := xOl.toInt) (y := 1) rfl (by decide) (by have := h.r_ol; omega) (by have := h.r_ol; omega)]; have := h.r_ol; omega))) (r_ke := (rk_2 h.r_ol (by omega) h.r_ke)) (r_d1 := h.r_d1) (r_d2 := h.r_d2)), rfl⟩
      · obtain ⟨u5, bb⟩ := bb
        rcases aa with aa | aa | aa | aa
        · obtain ⟨q10, aa⟩ := aa
          exfalso; omega
        · obtain ⟨q10, aa⟩ := aa
          exfalso; omega
        · obtain ⟨q10, aa⟩ := aa
          obtain ⟨ee0, ee1, ee2, ee3, ee4, ee5, ee6, ee7, ee8, ee9, ee10, ee11, ee12, ee13⟩ := aa
          obtain ⟨ff0, ff1, ff2, ff3, ff4, ff5, ff6, ff7, ff8, ff9, ff10, ff11, ff12, ff13, ff14, ff15⟩ := bb
          subst ee0 ee1 ee2 ee3 ee4 ee5 ee6 ee7 ee8 ee9 ee10 ee11 ee12 ee13 ff0 ff1 ff2 ff3 ff4 ff5 ff6 ff7 ff8 ff9 ff10 ff11 ff12 ff13 ff14 ff15
          subst hrn; exact ⟨(rIv.mk (r_tn := h.r_tn) (r_tc := h.r_tc) (r_to := h.r_to) (r_mn := h.r_mn) (r_fc := h.r_fc) (r_rc := h.r_rc) (r_tl := (by have z := q9.resolve_left (fun z => by omega); exact z.2.symm)) (r_ki := rfl) (r_am := rfl) (r_pl := rfl) (r_vc := h.r_vc) (r_ar := h.r_ar) (r_lr := (ho (by omega)).symm) (r_fl := h.r_fl) (r_kn := rfl) (r_mm := h.r_mm) (r_ot := h.r_ot) (r_al := h.r_al) (r_fa := h.r_fa) (r_fr := h.r_fr) (r_re := h.r_re) (r_rf := h.r_rf) (r_kd := (fun i z1 z2 => hg.2.1 i z1 z2)) (r_vl := h.r_vl) (r_ol := h.r_ol) (r_ke := (rk_1 h.r_ol (by omega) h.r_ke)) (r_d1 := h.r_d1) (r_d2 := h.r_d2)), rfl⟩
        · obtain ⟨q10, aa⟩ := aa
          rw [hrn] at u5; exfalso; omega
set_option maxRecDepth 100000 in
set_option maxHeartbeats 4000000 in
theorem pr_make {xTc : Int32} {xFc : Int32} {xRc : Int32} {xVc : Int32} {xLr : Int32} {xFl : Int32} {xTn : Int32} {xMn : Int32} {xSt : Int64} {xAb : Int64} {xVa : Int64} {xBy : Value} {xBs : Int32} {xA1 : Value} {xF1 : Int32} {xT1 : Int64} {xP1 : Int32} {xD1 : Value} {xA2 : Value} {xF2 : Int32} {xT2 : Int64} {xP2 : Int32} {xD2 : Value} {xTl : Int32} {xOl : Int32} {xKn : Int32} {xPa : Nat → Int32} {xUp : Nat → Int32} {xAl : Nat → Option Nat} {xHa : Nat → Int64} {xNm : Nat → Int64} {xKi : Nat → Int32} {xAm : Nat → Int32} {xPl : Nat → Int32} {xKe : Nat → Int32} {xTo : Nat → Int32} {xFa : Nat → Option Nat} {xRe : Nat → Option Nat} {xVl : Nat → Option Nat} {xAr : Nat → Int32} {mTy : Int32} {mPa : Nat → Int32} {mTo : Nat → Int32} {mTm : Int32} {mMn : Int32} {mOt : Nat → Int32} {mNa : Nat → Int32} {mRe : Nat → Int32} {mMa : Nat → Int32} {mMy : Nat → Int32} {mPm : Nat → Int32} {mFn : Int32} {mFy : Nat → Int32} {mFa : Nat → Int32} {mFr : Nat → Int32} {mRn : Int32} {mFo : Nat → Int32} {mRt : Nat → Int32} {mRm : Nat → Int32} {mTn : Int32} {mTt : Nat → Int32} {mTi : Nat → Int32} {mPl : Nat → Int32} {mVn : Int32} {mVr : Nat → Int32} {mVf : Nat → Int32} {mVc : Nat → Int32} {mAr : Nat → Int32} {mLr : Int32} {mTc : Nat → Int32} {mTr : Int32} {mFl : Int32} {mFt : Nat → Int32} {mFm : Int32} {mFp : Int32} {mSc : Int32} {mMp : Int32} {dyn : pm_H} {yVc : Int32} {yFl : Int32} {yBy : Value} {yBs : Int32} {yA1 : Value} {yF1 : Int32} {yT1 : Int64} {yP1 : Int32} {yD1 : Value} {yA2 : Value} {yF2 : Int32} {yT2 : Int64} {yP2 : Int32} {yD2 : Value} {yVl : Nat → Option Nat} {yyn : pm_H} {nVn : Int32} {nVr : Nat → Int32} {nVf : Nat → Int32} {nVc : Nat → Int32} {nFl : Int32} {nFt : Nat → Int32} {nFm : Int32} {nFp : Int32} {nSc : Int32} {nMp : Int32} {r : Int32} {f : Int32} {v : Int32} {o1 : Option Nat} {o2 : Option Nat} {rx : Int32} {rm : Int32}  (ho1 : ∀ b : Nat, o1 = some b → (b : Int) < mMn.toInt) (ho2 : ∀ b : Nat, o2 = some b → (b : Int) < mMn.toInt) {dVb dVp dVo : Nat → Int32} {dVm : Nat → Option Nat} (hvl : vlF mFo mRt mRm mFy mFa mFr mOt mNa mRe mMa mMy mPm mVr mVf mVc dVb dVp dVo dVm mVn xVl dyn) (hvr : ∀ v : Nat, (v : Int) < mVn.toInt → vrR mPa mOt mNa mRe mMy mPm mMa mFa mFy mFr mMn mFo mRt mRm (mVr v) (mVf v) (dVb v) (dVp v) (dVo v) (dVm v)) (hm : mIv mTy mPa mTo mTm mMn mOt mNa mRe mMa mMy mPm mFn mFy mFa mFr mRn mFo mRt mRm mTn mTt mTi mVn mVr mVf mVc mTr) (hn : mIv mTy mPa mTo mTm mMn mOt mNa mRe mMa mMy mPm mFn mFy mFa mFr mRn mFo mRt mRm mTn mTt mTi nVn nVr nVf nVc mTr) (h : rIv xTc xFc xRc xVc xLr xFl xTn xMn xSt xAb xVa xD1 xD2 xTl xOl xKn xPa xUp xAl xHa xNm xKi xAm xPl xKe xTo xFa xRe xVl xAr mTy mPa mTo mTm mMn mOt mNa mRe mMa mMy mPm mFn mFy mFa mFr mRn mFo mRt mRm mTn mTt mTi mPl mVn mVr mVf mVc mAr mLr mTc mTr mFl dyn) (aa : ((¬ ((0 ≤ r.toInt ∧ r.toInt < xRc.toInt) ∧ (0 ≤ f.toInt ∧ f.toInt < xFc.toInt))) ∧ (-1) = rx ∧ xVc = yVc ∧ xFl = yFl ∧ xBy = yBy ∧ xBs = yBs ∧ xA1 = yA1 ∧ xF1 = yF1 ∧ xT1 = yT1 ∧ xP1 = yP1 ∧ xD1 = yD1 ∧ xA2 = yA2 ∧ xF2 = yF2 ∧ xT2 = yT2 ∧ xP2 = yP2 ∧ xD2 = yD2 ∧ xVl = yVl ∧ dyn = yyn) ∨ ((((0 ≤ r.toInt ∧ r.toInt < xRc.toInt) ∧ (0 ≤ f.toInt ∧ f.toInt < xFc.toInt))) ∧ (¬ rvX xUp xKi xTl (mFo r.toNatClampNeg) (mRt r.toNatClampNeg) v) ∧ (-1) = rx ∧ xVc = yVc ∧ xFl = yFl ∧ xBy = yBy ∧ xBs = yBs ∧ xA1 = yA1 ∧ xF1 = yF1 ∧ xT1 = yT1 ∧ xP1 = yP1 ∧ xD1 = yD1 ∧ xA2 = yA2 ∧ xF2 = yF2 ∧ xT2 = yT2 ∧ xP2 = yP2 ∧ xD2 = yD2 ∧ xVl = yVl ∧ dyn = yyn) ∨ (∃ (z9 : Int32) (b9 : Value) (s9 : Int32) (o19 : Option Nat) (o29 : Option Nat) (a19 : Value) (f19 : Int32) (t19 : Int64) (p19 : Int32) (d19 : Value) (a29 : Value) (f29 : Int32) (t29 : Int64) (p29 : Int32) (d29 : Value), (((0 ≤ r.toInt ∧ r.toInt < xRc.toInt) ∧ (0 ≤ f.toInt ∧ f.toInt < xFc.toInt))) ∧ (rvX xUp xKi xTl (mFo r.toNatClampNeg) (mRt r.toNatClampNeg) v) ∧ (fdF mOt mNa mRe mMa mMy mPm dyn d19 o19) ∧ (fdF mOt mNa mRe mMa mMy mPm dyn d29 o29) ∧ (fiX xUp xPa mRe mMa mMy mPm xSt xAb xHa xNm xTn xMn (mFy f.toNatClampNeg).toNatClampNeg (cutF mFy mFa f.toNatClampNeg) (mFo r.toNatClampNeg) (mRt r.toNatClampNeg) (rnF mFo mRm r.toNatClampNeg) (mFr f.toNatClampNeg) f19 t19 p19 o19 f29 t29 p29 o29 b9 s9 z9) ∧ ((mFo r.toNatClampNeg).toInt = 4 → o19 = o1) ∧ ((mFo r.toNatClampNeg).toInt ≠ 0 → o29 = o2) ∧ (z9.toInt < 0) ∧ (-3) = rx ∧ xVc = yVc ∧ xFl = yFl ∧ b9 = yBy ∧ s9 = yBs ∧ a19 = yA1 ∧ f19 = yF1 ∧ t19 = yT1 ∧ p19 = yP1 ∧ d19 = yD1 ∧ a29 = yA2 ∧ f29 = yF2 ∧ t29 = yT2 ∧ p29 = yP2 ∧ d29 = yD2 ∧ xVl = yVl ∧ dyn = yyn) ∨ (∃ (z9 : Int32) (b9 : Value) (s9 : Int32) (o19 : Option Nat) (o29 : Option Nat) (a19 : Value) (f19 : Int32) (t19 : Int64) (p19 : Int32) (d19 : Value) (a29 : Value) (f29 : Int32) (t29 : Int64) (p29 : Int32) (d29 : Value), (((0 ≤ r.toInt ∧ r.toInt < xRc.toInt) ∧ (0 ≤ f.toInt ∧ f.toInt < xFc.toInt))) ∧ (rvX xUp xKi xTl (mFo r.toNatClampNeg) (mRt r.toNatClampNeg) v) ∧ (fdF mOt mNa mRe mMa mMy mPm dyn d19 o19) ∧ (fdF mOt mNa mRe mMa mMy mPm dyn d29 o29) ∧ (fiX xUp xPa mRe mMa mMy mPm xSt xAb xHa xNm xTn xMn (mFy f.toNatClampNeg).toNatClampNeg (cutF mFy mFa f.toNatClampNeg) (mFo r.toNatClampNeg) (mRt r.toNatClampNeg) (rnF mFo mRm r.toNatClampNeg) (mFr f.toNatClampNeg) f19 t19 p19 o19 f29 t29 p29 o29 b9 s9 z9) ∧ ((mFo r.toNatClampNeg).toInt = 4 → o19 = o1) ∧ ((mFo r.toNatClampNeg).toInt ≠ 0 → o29 = o2) ∧ (0 ≤ z9.toInt ∧ v.toInt = 0 ∧ (mFo r.toNatClampNeg).toInt = 1) ∧ (-21) = rx ∧ xVc = yVc ∧ xFl + 1 = yFl ∧ b9 = yBy ∧ s9 = yBs ∧ a19 = yA1 ∧ f19 = yF1 ∧ t19 = yT1 ∧ p19 = yP1 ∧ d19 = yD1 ∧ a29 = yA2 ∧ f29 = yF2 ∧ t29 = yT2 ∧ p29 = yP2 ∧ d29 = yD2 ∧ xVl = yVl ∧ dyn = yyn) ∨ (∃ (z9 : Int32) (b9 : Value) (s9 : Int32) (o19 : Option Nat) (o29 : Option Nat) (a19 : Value) (f19 : Int32) (t19 : Int64) (p19 : Int32) (d19 : Value) (a29 : Value) (f29 : Int32) (t29 : Int64) (p29 : Int32) (d29 : Value), (((0 ≤ r.toInt ∧ r.toInt < xRc.toInt) ∧ (0 ≤ f.toInt ∧ f.toInt < xFc.toInt))) ∧ (rvX xUp xKi xTl (mFo r.toNatClampNeg) (mRt r.toNatClampNeg) v) ∧ (fdF mOt mNa mRe mMa mMy mPm dyn d19 o19) ∧ (fdF mOt mNa mRe mMa mMy mPm dyn d29 o29) ∧ (fiX xUp xPa mRe mMa mMy mPm xSt xAb xHa xNm xTn xMn (mFy f.toNatClampNeg).toNatClampNeg (cutF mFy mFa f.toNatClampNeg) (mFo r.toNatClampNeg) (mRt r.toNatClampNeg) (rnF mFo mRm r.toNatClampNeg) (mFr f.toNatClampNeg) f19 t19 p19 o19 f29 t29 p29 o29 b9 s9 z9) ∧ ((mFo r.toNatClampNeg).toInt = 4 → o19 = o1) ∧ ((mFo r.toNatClampNeg).toInt ≠ 0 → o29 = o2) ∧ (0 ≤ z9.toInt ∧ v.toInt = 0 ∧ (mFo r.toNatClampNeg).toInt = 2) ∧ (-1) = rx ∧ xVc = yVc ∧ xFl = yFl ∧ b9 = yBy ∧ s9 = yBs ∧ a19 = yA1 ∧ f19 = yF1 ∧ t19 = yT1 ∧ p19 = yP1 ∧ d19 = yD1 ∧ a29 = yA2 ∧ f29 = yF2 ∧ t29 = yT2 ∧ p29 = yP2 ∧ d29 = yD2 ∧ xVl = yVl ∧ dyn = yyn) ∨ (∃ (z9 : Int32) (b9 : Value) (s9 : Int32) (o19 : Option Nat) (o29 : Option Nat) (a19 : Value) (f19 : Int32) (t19 : Int64) (p19 : Int32) (d19 : Value) (a29 : Value) (f29 : Int32) (t29 : Int64) (p29 : Int32) (d29 : Value), (((0 ≤ r.toInt ∧ r.toInt < xRc.toInt) ∧ (0 ≤ f.toInt ∧ f.toInt < xFc.toInt))) ∧ (rvX xUp xKi xTl (mFo r.toNatClampNeg) (mRt r.toNatClampNeg) v) ∧ (fdF mOt mNa mRe mMa mMy mPm dyn d19 o19) ∧ (fdF mOt mNa mRe mMa mMy mPm dyn d29 o29) ∧ (fiX xUp xPa mRe mMa mMy mPm xSt xAb xHa xNm xTn xMn (mFy f.toNatClampNeg).toNatClampNeg (cutF mFy mFa f.toNatClampNeg) (mFo r.toNatClampNeg) (mRt r.toNatClampNeg) (rnF mFo mRm r.toNatClampNeg) (mFr f.toNatClampNeg) f19 t19 p19 o19 f29 t29 p29 o29 b9 s9 z9) ∧ ((mFo r.toNatClampNeg).toInt = 4 → o19 = o1) ∧ ((mFo r.toNatClampNeg).toInt ≠ 0 → o29 = o2) ∧ (0 ≤ z9.toInt ∧ ¬ (v.toInt = 0 ∧ ((mFo r.toNatClampNeg).toInt = 1 ∨ (mFo r.toNatClampNeg).toInt = 2)) ∧ 30 ≤ xVc.toInt) ∧ (-2) = rx ∧ xVc = yVc ∧ xFl = yFl ∧ b9 = yBy ∧ s9 = yBs ∧ a19 = yA1 ∧ f19 = yF1 ∧ t19 = yT1 ∧ p19 = yP1 ∧ d19 = yD1 ∧ a29 = yA2 ∧ f29 = yF2 ∧ t29 = yT2 ∧ p29 = yP2 ∧ d29 = yD2 ∧ xVl = yVl ∧ dyn = yyn) ∨ (∃ (z9 : Int32) (b9 : Value) (s9 : Int32) (o19 : Option Nat) (o29 : Option Nat) (a19 : Value) (f19 : Int32) (t19 : Int64) (p19 : Int32) (d19 : Value) (a29 : Value) (f29 : Int32) (t29 : Int64) (p29 : Int32) (d29 : Value) (g9 : Nat → Option Nat) (e9 : pm_H), (((0 ≤ r.toInt ∧ r.toInt < xRc.toInt) ∧ (0 ≤ f.toInt ∧ f.toInt < xFc.toInt))) ∧ (rvX xUp xKi xTl (mFo r.toNatClampNeg) (mRt r.toNatClampNeg) v) ∧ (fdF mOt mNa mRe mMa mMy mPm dyn d19 o19) ∧ (fdF mOt mNa mRe mMa mMy mPm dyn d29 o29) ∧ (fiX xUp xPa mRe mMa mMy mPm xSt xAb xHa xNm xTn xMn (mFy f.toNatClampNeg).toNatClampNeg (cutF mFy mFa f.toNatClampNeg) (mFo r.toNatClampNeg) (mRt r.toNatClampNeg) (rnF mFo mRm r.toNatClampNeg) (mFr f.toNatClampNeg) f19 t19 p19 o19 f29 t29 p29 o29 b9 s9 z9) ∧ ((mFo r.toNatClampNeg).toInt = 4 → o19 = o1) ∧ ((mFo r.toNatClampNeg).toInt ≠ 0 → o29 = o2) ∧ (0 ≤ z9.toInt ∧ ¬ (v.toInt = 0 ∧ ((mFo r.toNatClampNeg).toInt = 1 ∨ (mFo r.toNatClampNeg).toInt = 2)) ∧ xVc.toInt < 30) ∧ (vlF mFo mRt mRm mFy mFa mFr mOt mNa mRe mMa mMy mPm (upd mVr xVc.toNatClampNeg r) (upd mVf xVc.toNatClampNeg f) (upd mVc xVc.toNatClampNeg v) (upd dVb xVc.toNatClampNeg s9) (upd dVp xVc.toNatClampNeg (ipX b9 p19 p29)) (upd dVo xVc.toNatClampNeg (wcX mRe (mFo r.toNatClampNeg) (mRt r.toNatClampNeg) (meO b9 o19 o29))) (va_up dVm xVc.toNatClampNeg (meO b9 o19 o29)) (xVc + 1) g9 (dyn ++ e9)) ∧ (xVc + 1 - 1) = rx ∧ xVc + 1 = yVc ∧ xFl = yFl ∧ b9 = yBy ∧ s9 = yBs ∧ a19 = yA1 ∧ f19 = yF1 ∧ t19 = yT1 ∧ p19 = yP1 ∧ d19 = yD1 ∧ a29 = yA2 ∧ f29 = yF2 ∧ t29 = yT2 ∧ p29 = yP2 ∧ d29 = yD2 ∧ g9 = yVl ∧ dyn ++ e9 = yyn)) (bb : ((¬ ((0 ≤ r.toInt ∧ r.toInt < mRn.toInt) ∧ (0 ≤ f.toInt ∧ f.toInt < mFn.toInt))) ∧ (-1) = rm ∧ mVn = nVn ∧ mVr = nVr ∧ mVf = nVf ∧ mVc = nVc ∧ mFl = nFl ∧ mFt = nFt ∧ mFm = nFm ∧ mFp = nFp ∧ mSc = nSc ∧ mMp = nMp) ∨ (((0 ≤ r.toInt ∧ r.toInt < mRn.toInt) ∧ (0 ≤ f.toInt ∧ f.toInt < mFn.toInt)) ∧ (¬ rcM mPa mTt mTn (mFo r.toNatClampNeg) (mRt r.toNatClampNeg) v) ∧ (-1) = rm ∧ mVn = nVn ∧ mVr = nVr ∧ mVf = nVf ∧ mVc = nVc ∧ mFl = nFl ∧ mFt = nFt ∧ mFm = nFm ∧ mFp = nFp ∧ mSc = nSc ∧ mMp = nMp) ∨ (∃ (s9 : Int32) (f9 : Nat → Int32) (m9 : Int32) (q9 : Int32) (p9 : Int32) (r9 : Int32), ((0 ≤ r.toInt ∧ r.toInt < mRn.toInt) ∧ (0 ≤ f.toInt ∧ f.toInt < mFn.toInt)) ∧ (rcM mPa mTt mTn (mFo r.toNatClampNeg) (mRt r.toNatClampNeg) v) ∧ (wmM mPa mOt mNa mRe mMy mPm mMa mFa mFy mFr mMn (mFo r.toNatClampNeg) (mRt r.toNatClampNeg) (mRm r.toNatClampNeg) f s9 p9 r9) ∧ ((-15 ≤ r9.toInt ∧ (r9.toInt < mMn.toInt ∨ (r9.toInt = 99 ∧ 3 ≤ (mFo r.toNatClampNeg).toInt))) ∧ (0 ≤ p9.toInt ∧ p9.toInt ≤ 3)) ∧ (r9.toInt < 0) ∧ (-3) = rm ∧ mVn = nVn ∧ mVr = nVr ∧ mVf = nVf ∧ mVc = nVc ∧ mFl = nFl ∧ f9 = nFt ∧ m9 = nFm ∧ q9 = nFp ∧ s9 = nSc ∧ p9 = nMp) ∨ (∃ (s9 : Int32) (f9 : Nat → Int32) (m9 : Int32) (q9 : Int32) (p9 : Int32) (r9 : Int32), ((0 ≤ r.toInt ∧ r.toInt < mRn.toInt) ∧ (0 ≤ f.toInt ∧ f.toInt < mFn.toInt)) ∧ (rcM mPa mTt mTn (mFo r.toNatClampNeg) (mRt r.toNatClampNeg) v) ∧ (wmM mPa mOt mNa mRe mMy mPm mMa mFa mFy mFr mMn (mFo r.toNatClampNeg) (mRt r.toNatClampNeg) (mRm r.toNatClampNeg) f s9 p9 r9) ∧ ((-15 ≤ r9.toInt ∧ (r9.toInt < mMn.toInt ∨ (r9.toInt = 99 ∧ 3 ≤ (mFo r.toNatClampNeg).toInt))) ∧ (0 ≤ p9.toInt ∧ p9.toInt ≤ 3)) ∧ (0 ≤ r9.toInt) ∧ ((mFo r.toNatClampNeg).toInt = 1 ∧ v.toInt = 0) ∧ (-21) = rm ∧ mVn = nVn ∧ mVr = nVr ∧ mVf = nVf ∧ mVc = nVc ∧ mFl + 1 = nFl ∧ f9 = nFt ∧ m9 = nFm ∧ q9 = nFp ∧ s9 = nSc ∧ p9 = nMp) ∨ (∃ (s9 : Int32) (f9 : Nat → Int32) (m9 : Int32) (q9 : Int32) (p9 : Int32) (r9 : Int32), ((0 ≤ r.toInt ∧ r.toInt < mRn.toInt) ∧ (0 ≤ f.toInt ∧ f.toInt < mFn.toInt)) ∧ (rcM mPa mTt mTn (mFo r.toNatClampNeg) (mRt r.toNatClampNeg) v) ∧ (wmM mPa mOt mNa mRe mMy mPm mMa mFa mFy mFr mMn (mFo r.toNatClampNeg) (mRt r.toNatClampNeg) (mRm r.toNatClampNeg) f s9 p9 r9) ∧ ((-15 ≤ r9.toInt ∧ (r9.toInt < mMn.toInt ∨ (r9.toInt = 99 ∧ 3 ≤ (mFo r.toNatClampNeg).toInt))) ∧ (0 ≤ p9.toInt ∧ p9.toInt ≤ 3)) ∧ (0 ≤ r9.toInt) ∧ (¬ ((mFo r.toNatClampNeg).toInt = 1 ∧ v.toInt = 0)) ∧ (mVn.toInt = 30) ∧ (-2) = rm ∧ mVn = nVn ∧ mVr = nVr ∧ mVf = nVf ∧ mVc = nVc ∧ mFl = nFl ∧ f9 = nFt ∧ m9 = nFm ∧ q9 = nFp ∧ s9 = nSc ∧ p9 = nMp) ∨ (∃ (s9 : Int32) (f9 : Nat → Int32) (m9 : Int32) (q9 : Int32) (p9 : Int32) (r9 : Int32), ((0 ≤ r.toInt ∧ r.toInt < mRn.toInt) ∧ (0 ≤ f.toInt ∧ f.toInt < mFn.toInt)) ∧ (rcM mPa mTt mTn (mFo r.toNatClampNeg) (mRt r.toNatClampNeg) v) ∧ (wmM mPa mOt mNa mRe mMy mPm mMa mFa mFy mFr mMn (mFo r.toNatClampNeg) (mRt r.toNatClampNeg) (mRm r.toNatClampNeg) f s9 p9 r9) ∧ ((-15 ≤ r9.toInt ∧ (r9.toInt < mMn.toInt ∨ (r9.toInt = 99 ∧ 3 ≤ (mFo r.toNatClampNeg).toInt))) ∧ (0 ≤ p9.toInt ∧ p9.toInt ≤ 3)) ∧ (0 ≤ r9.toInt) ∧ (¬ ((mFo r.toNatClampNeg).toInt = 1 ∧ v.toInt = 0)) ∧ (mVn.toInt < 30) ∧ (mVn + 1 - 1) = rm ∧ mVn + 1 = nVn ∧ upd mVr mVn.toNatClampNeg r = nVr ∧ upd mVf mVn.toNatClampNeg f = nVf ∧ upd mVc mVn.toNatClampNeg v = nVc ∧ mFl = nFl ∧ f9 = nFt ∧ m9 = nFm ∧ q9 = nFp ∧ s9 = nSc ∧ p9 = nMp)) : rIv xTc xFc xRc yVc xLr yFl xTn xMn xSt xAb xVa yD1 yD2 xTl xOl xKn xPa xUp xAl xHa xNm xKi xAm xPl xKe xTo xFa xRe yVl xAr mTy mPa mTo mTm mMn mOt mNa mRe mMa mMy mPm mFn mFy mFa mFr mRn mFo mRt mRm mTn mTt mTi mPl nVn nVr nVf nVc mAr mLr mTc mTr nFl yyn := by
  have e_r_tn := h.r_tn
  have e_r_tc := h.r_tc
  have e_r_to := h.r_to
  have e_r_mn := h.r_mn
  have e_r_fc := h.r_fc
  have e_r_rc := h.r_rc
  have e_r_tl := h.r_tl
  have e_r_ki := h.r_ki
  have e_r_am := h.r_am
  have e_r_pl := h.r_pl
  have e_r_vc := h.r_vc
  have e_r_ar := h.r_ar
  have e_r_lr := h.r_lr
  have e_r_fl := h.r_fl
  have e_r_kn := h.r_kn
  subst e_r_tn; subst e_r_tc; subst e_r_to; subst e_r_mn; subst e_r_fc; subst e_r_rc; subst e_r_tl; subst e_r_ki; subst e_r_am; subst e_r_pl; subst e_r_vc; subst e_r_ar; subst e_r_lr; subst e_r_fl; subst e_r_kn
  have w1 := hm.ity
  have w2 := hm.itm
  have w3 := hm.imn
  have w4 := hm.ifn
  have w5 := hm.irn
  have w6 := hm.itn
  have w7 := hm.ivn
  have w8 := hm.itr
  have hrfx : (0 ≤ r.toInt ∧ r.toInt < mRn.toInt) → rfR mTy (mFo r.toNatClampNeg) (mRt r.toNatClampNeg) (mRm r.toNatClampNeg) := fun q => h.r_rf _ (by have := xN q.1; omega)
  have hfcx : (0 ≤ f.toInt ∧ f.toInt < mFn.toInt) → fcR mTy mFy mFa mFr f := fun q => ⟨by omega, fcD_at hm.ifc q, hm.ifa, h.r_fr _ (by have := xN q.1; omega)⟩
  have hrv : (0 ≤ r.toInt ∧ r.toInt < mRn.toInt) → (rcM mPa mTt mTn (mFo r.toNatClampNeg) (mRt r.toNatClampNeg) v ↔ (rvX xUp mTt mTn (mFo r.toNatClampNeg) (mRt r.toNatClampNeg) v ∧ ¬ ((mFo r.toNatClampNeg).toInt = 2 ∧ v.toInt = 0))) := fun q => rv_x h.r_mm.1 hm.ity (hrfx q) h.r_kd
  rcases aa with ⟨q0, rfl, rfl, rfl, rfl, rfl, rfl, rfl, rfl, rfl, rfl, rfl, rfl, rfl, rfl, rfl, rfl, rfl⟩ | ⟨q0, q1, rfl, rfl, rfl, rfl, rfl, rfl, rfl, rfl, rfl, rfl, rfl, rfl, rfl, rfl, rfl, rfl, rfl⟩ | ⟨z9x, b9x, s9x, o19x, o29x, a19x, f19x, t19x, p19x, d19x, a29x, f29x, t29x, p29x, d29x, q0, q1, q2, q3, q4, q5, q6, q7, rfl, rfl, rfl, rfl, rfl, rfl, rfl, rfl, rfl, rfl, rfl, rfl, rfl, rfl, rfl, rfl, rfl⟩ | ⟨z9x, b9x, s9x, o19x, o29x, a19x, f19x, t19x, p19x, d19x, a29x, f29x, t29x, p29x, d29x, q0, q1, q2, q3, q4, q5, q6, q7, rfl, rfl, rfl, rfl, rfl, rfl, rfl, rfl, rfl, rfl, rfl, rfl, rfl, rfl, rfl, rfl, rfl⟩ | ⟨z9x, b9x, s9x, o19x, o29x, a19x, f19x, t19x, p19x, d19x, a29x, f29x, t29x, p29x, d29x, q0, q1, q2, q3, q4, q5, q6, q7, rfl, rfl, rfl, rfl, rfl, rfl, rfl, rfl, rfl, rfl, rfl, rfl, rfl, rfl, rfl, rfl, rfl⟩ | ⟨z9x, b9x, s9x, o19x, o29x, a19x, f19x, t19x, p19x, d19x, a29x, f29x, t29x, p29x, d29x, q0, q1, q2, q3, q4, q5, q6, q7, rfl, rfl, rfl, rfl, rfl, rfl, rfl, rfl, rfl, rfl, rfl, rfl, rfl, rfl, rfl, rfl, rfl⟩ | ⟨z9x, b9x, s9x, o19x, o29x, a19x, f19x, t19x, p19x, d19x, a29x, f29x, t29x, p29x, d29x, g9x, e9x, q0, q1, q2, q3, q4, q5, q6, q7, q8, rfl, rfl, rfl, rfl, rfl, rfl, rfl, rfl, rfl, rfl, rfl, rfl, rfl, rfl, rfl, rfl, rfl⟩
  · rcases bb with ⟨u0, rfl, rfl, rfl, rfl, rfl, rfl, rfl, rfl, rfl, rfl, rfl⟩ | ⟨u0, u1, rfl, rfl, rfl, rfl, rfl, rfl, rfl, rfl, rfl, rfl, rfl⟩ | ⟨s9m, f9m, m9m, q9m, p9m, r9m, u0, u1, u2, u3, u4, rfl, rfl, rfl, rfl, rfl, rfl, rfl, rfl, rfl, rfl, rfl⟩ | ⟨s9m, f9m, m9m, q9m, p9m, r9m, u0, u1, u2, u3, u4, u5, rfl, rfl, rfl, rfl, rfl, rfl, rfl, rfl, rfl, rfl, rfl⟩ | ⟨s9m, f9m, m9m, q9m, p9m, r9m, u0, u1, u2, u3, u4, u5, u6, rfl, rfl, rfl, rfl, rfl, rfl, rfl, rfl, rfl, rfl, rfl⟩ | ⟨s9m, f9m, m9m, q9m, p9m, r9m, u0, u1, u2, u3, u4, u5, u6, rfl, rfl, rfl, rfl, rfl, rfl, rfl, rfl, rfl, rfl, rfl⟩
    · exact h
    · exact h
    · exact h
    · exact absurd u0 q0
    · exact h
    · exact absurd u0 q0
  · rcases bb with ⟨u0, rfl, rfl, rfl, rfl, rfl, rfl, rfl, rfl, rfl, rfl, rfl⟩ | ⟨u0, u1, rfl, rfl, rfl, rfl, rfl, rfl, rfl, rfl, rfl, rfl, rfl⟩ | ⟨s9m, f9m, m9m, q9m, p9m, r9m, u0, u1, u2, u3, u4, rfl, rfl, rfl, rfl, rfl, rfl, rfl, rfl, rfl, rfl, rfl⟩ | ⟨s9m, f9m, m9m, q9m, p9m, r9m, u0, u1, u2, u3, u4, u5, rfl, rfl, rfl, rfl, rfl, rfl, rfl, rfl, rfl, rfl, rfl⟩ | ⟨s9m, f9m, m9m, q9m, p9m, r9m, u0, u1, u2, u3, u4, u5, u6, rfl, rfl, rfl, rfl, rfl, rfl, rfl, rfl, rfl, rfl, rfl⟩ | ⟨s9m, f9m, m9m, q9m, p9m, r9m, u0, u1, u2, u3, u4, u5, u6, rfl, rfl, rfl, rfl, rfl, rfl, rfl, rfl, rfl, rfl, rfl⟩
    · exact h
    · exact h
    · exact h
    · exact absurd ((hrv q0.1).mp u1).1 q1
    · exact h
    · exact absurd ((hrv q0.1).mp u1).1 q1
  · rcases bb with ⟨u0, rfl, rfl, rfl, rfl, rfl, rfl, rfl, rfl, rfl, rfl, rfl⟩ | ⟨u0, u1, rfl, rfl, rfl, rfl, rfl, rfl, rfl, rfl, rfl, rfl, rfl⟩ | ⟨s9m, f9m, m9m, q9m, p9m, r9m, u0, u1, u2, u3, u4, rfl, rfl, rfl, rfl, rfl, rfl, rfl, rfl, rfl, rfl, rfl⟩ | ⟨s9m, f9m, m9m, q9m, p9m, r9m, u0, u1, u2, u3, u4, u5, rfl, rfl, rfl, rfl, rfl, rfl, rfl, rfl, rfl, rfl, rfl⟩ | ⟨s9m, f9m, m9m, q9m, p9m, r9m, u0, u1, u2, u3, u4, u5, u6, rfl, rfl, rfl, rfl, rfl, rfl, rfl, rfl, rfl, rfl, rfl⟩ | ⟨s9m, f9m, m9m, q9m, p9m, r9m, u0, u1, u2, u3, u4, u5, u6, rfl, rfl, rfl, rfl, rfl, rfl, rfl, rfl, rfl, rfl, rfl⟩
    · exact rIv.mk (r_tn := h.r_tn) (r_tc := h.r_tc) (r_to := h.r_to) (r_mn := h.r_mn) (r_fc := h.r_fc) (r_rc := h.r_rc) (r_tl := h.r_tl) (r_ki := h.r_ki) (r_am := h.r_am) (r_pl := h.r_pl) (r_vc := h.r_vc) (r_ar := h.r_ar) (r_lr := h.r_lr) (r_fl := h.r_fl) (r_kn := h.r_kn) (r_mm := h.r_mm) (r_ot := h.r_ot) (r_al := h.r_al) (r_fa := h.r_fa) (r_fr := h.r_fr) (r_re := h.r_re) (r_rf := h.r_rf) (r_kd := h.r_kd) (r_vl := h.r_vl) (r_ol := h.r_ol) (r_ke := h.r_ke) (r_d1 := ⟨_, q2, (fo_b h.r_mm (hfcx q0.2) (hrfx q0.1) q4 q5 q6 ho1 ho2).1⟩) (r_d2 := ⟨_, q3, (fo_b h.r_mm (hfcx q0.2) (hrfx q0.1) q4 q5 q6 ho1 ho2).2⟩)
    · exact rIv.mk (r_tn := h.r_tn) (r_tc := h.r_tc) (r_to := h.r_to) (r_mn := h.r_mn) (r_fc := h.r_fc) (r_rc := h.r_rc) (r_tl := h.r_tl) (r_ki := h.r_ki) (r_am := h.r_am) (r_pl := h.r_pl) (r_vc := h.r_vc) (r_ar := h.r_ar) (r_lr := h.r_lr) (r_fl := h.r_fl) (r_kn := h.r_kn) (r_mm := h.r_mm) (r_ot := h.r_ot) (r_al := h.r_al) (r_fa := h.r_fa) (r_fr := h.r_fr) (r_re := h.r_re) (r_rf := h.r_rf) (r_kd := h.r_kd) (r_vl := h.r_vl) (r_ol := h.r_ol) (r_ke := h.r_ke) (r_d1 := ⟨_, q2, (fo_b h.r_mm (hfcx q0.2) (hrfx q0.1) q4 q5 q6 ho1 ho2).1⟩) (r_d2 := ⟨_, q3, (fo_b h.r_mm (hfcx q0.2) (hrfx q0.1) q4 q5 q6 ho1 ho2).2⟩)
    · exact rIv.mk (r_tn := h.r_tn) (r_tc := h.r_tc) (r_to := h.r_to) (r_mn := h.r_mn) (r_fc := h.r_fc) (r_rc := h.r_rc) (r_tl := h.r_tl) (r_ki := h.r_ki) (r_am := h.r_am) (r_pl := h.r_pl) (r_vc := h.r_vc) (r_ar := h.r_ar) (r_lr := h.r_lr) (r_fl := h.r_fl) (r_kn := h.r_kn) (r_mm := h.r_mm) (r_ot := h.r_ot) (r_al := h.r_al) (r_fa := h.r_fa) (r_fr := h.r_fr) (r_re := h.r_re) (r_rf := h.r_rf) (r_kd := h.r_kd) (r_vl := h.r_vl) (r_ol := h.r_ol) (r_ke := h.r_ke) (r_d1 := ⟨_, q2, (fo_b h.r_mm (hfcx q0.2) (hrfx q0.1) q4 q5 q6 ho1 ho2).1⟩) (r_d2 := ⟨_, q3, (fo_b h.r_mm (hfcx q0.2) (hrfx q0.1) q4 q5 q6 ho1 ho2).2⟩)
    · obtain ⟨sc, mp, k1, _⟩ := fi_x h.r_mm (hfcx q0.2) (hrfx q0.1) q4; have ez := congrArg Int32.toInt (wm_e k1 u2).2.2; exfalso; omega
    · exact rIv.mk (r_tn := h.r_tn) (r_tc := h.r_tc) (r_to := h.r_to) (r_mn := h.r_mn) (r_fc := h.r_fc) (r_rc := h.r_rc) (r_tl := h.r_tl) (r_ki := h.r_ki) (r_am := h.r_am) (r_pl := h.r_pl) (r_vc := h.r_vc) (r_ar := h.r_ar) (r_lr := h.r_lr) (r_fl := h.r_fl) (r_kn := h.r_kn) (r_mm := h.r_mm) (r_ot := h.r_ot) (r_al := h.r_al) (r_fa := h.r_fa) (r_fr := h.r_fr) (r_re := h.r_re) (r_rf := h.r_rf) (r_kd := h.r_kd) (r_vl := h.r_vl) (r_ol := h.r_ol) (r_ke := h.r_ke) (r_d1 := ⟨_, q2, (fo_b h.r_mm (hfcx q0.2) (hrfx q0.1) q4 q5 q6 ho1 ho2).1⟩) (r_d2 := ⟨_, q3, (fo_b h.r_mm (hfcx q0.2) (hrfx q0.1) q4 q5 q6 ho1 ho2).2⟩)
    · obtain ⟨sc, mp, k1, _⟩ := fi_x h.r_mm (hfcx q0.2) (hrfx q0.1) q4; have ez := congrArg Int32.toInt (wm_e k1 u2).2.2; exfalso; omega
  · rcases bb with ⟨u0, rfl, rfl, rfl, rfl, rfl, rfl, rfl, rfl, rfl, rfl, rfl⟩ | ⟨u0, u1, rfl, rfl, rfl, rfl, rfl, rfl, rfl, rfl, rfl, rfl, rfl⟩ | ⟨s9m, f9m, m9m, q9m, p9m, r9m, u0, u1, u2, u3, u4, rfl, rfl, rfl, rfl, rfl, rfl, rfl, rfl, rfl, rfl, rfl⟩ | ⟨s9m, f9m, m9m, q9m, p9m, r9m, u0, u1, u2, u3, u4, u5, rfl, rfl, rfl, rfl, rfl, rfl, rfl, rfl, rfl, rfl, rfl⟩ | ⟨s9m, f9m, m9m, q9m, p9m, r9m, u0, u1, u2, u3, u4, u5, u6, rfl, rfl, rfl, rfl, rfl, rfl, rfl, rfl, rfl, rfl, rfl⟩ | ⟨s9m, f9m, m9m, q9m, p9m, r9m, u0, u1, u2, u3, u4, u5, u6, rfl, rfl, rfl, rfl, rfl, rfl, rfl, rfl, rfl, rfl, rfl⟩
    · exact absurd q0 u0
    · exact absurd ((hrv q0.1).mpr ⟨q1, by omega⟩) u1
    · obtain ⟨sc, mp, k1, _⟩ := fi_x h.r_mm (hfcx q0.2) (hrfx q0.1) q4; have ez := congrArg Int32.toInt (wm_e k1 u2).2.2; exfalso; omega
    · exact rIv.mk (r_tn := h.r_tn) (r_tc := h.r_tc) (r_to := h.r_to) (r_mn := h.r_mn) (r_fc := h.r_fc) (r_rc := h.r_rc) (r_tl := h.r_tl) (r_ki := h.r_ki) (r_am := h.r_am) (r_pl := h.r_pl) (r_vc := h.r_vc) (r_ar := h.r_ar) (r_lr := h.r_lr) (r_fl := rfl) (r_kn := h.r_kn) (r_mm := h.r_mm) (r_ot := h.r_ot) (r_al := h.r_al) (r_fa := h.r_fa) (r_fr := h.r_fr) (r_re := h.r_re) (r_rf := h.r_rf) (r_kd := h.r_kd) (r_vl := h.r_vl) (r_ol := h.r_ol) (r_ke := h.r_ke) (r_d1 := ⟨_, q2, (fo_b h.r_mm (hfcx q0.2) (hrfx q0.1) q4 q5 q6 ho1 ho2).1⟩) (r_d2 := ⟨_, q3, (fo_b h.r_mm (hfcx q0.2) (hrfx q0.1) q4 q5 q6 ho1 ho2).2⟩)
    · obtain ⟨sc, mp, k1, _⟩ := fi_x h.r_mm (hfcx q0.2) (hrfx q0.1) q4; have ez := congrArg Int32.toInt (wm_e k1 u2).2.2; exfalso; omega
    · obtain ⟨sc, mp, k1, _⟩ := fi_x h.r_mm (hfcx q0.2) (hrfx q0.1) q4; have ez := congrArg Int32.toInt (wm_e k1 u2).2.2; exfalso; omega
  · rcases bb with ⟨u0, rfl, rfl, rfl, rfl, rfl, rfl, rfl, rfl, rfl, rfl, rfl⟩ | ⟨u0, u1, rfl, rfl, rfl, rfl, rfl, rfl, rfl, rfl, rfl, rfl, rfl⟩ | ⟨s9m, f9m, m9m, q9m, p9m, r9m, u0, u1, u2, u3, u4, rfl, rfl, rfl, rfl, rfl, rfl, rfl, rfl, rfl, rfl, rfl⟩ | ⟨s9m, f9m, m9m, q9m, p9m, r9m, u0, u1, u2, u3, u4, u5, rfl, rfl, rfl, rfl, rfl, rfl, rfl, rfl, rfl, rfl, rfl⟩ | ⟨s9m, f9m, m9m, q9m, p9m, r9m, u0, u1, u2, u3, u4, u5, u6, rfl, rfl, rfl, rfl, rfl, rfl, rfl, rfl, rfl, rfl, rfl⟩ | ⟨s9m, f9m, m9m, q9m, p9m, r9m, u0, u1, u2, u3, u4, u5, u6, rfl, rfl, rfl, rfl, rfl, rfl, rfl, rfl, rfl, rfl, rfl⟩
    · exact rIv.mk (r_tn := h.r_tn) (r_tc := h.r_tc) (r_to := h.r_to) (r_mn := h.r_mn) (r_fc := h.r_fc) (r_rc := h.r_rc) (r_tl := h.r_tl) (r_ki := h.r_ki) (r_am := h.r_am) (r_pl := h.r_pl) (r_vc := h.r_vc) (r_ar := h.r_ar) (r_lr := h.r_lr) (r_fl := h.r_fl) (r_kn := h.r_kn) (r_mm := h.r_mm) (r_ot := h.r_ot) (r_al := h.r_al) (r_fa := h.r_fa) (r_fr := h.r_fr) (r_re := h.r_re) (r_rf := h.r_rf) (r_kd := h.r_kd) (r_vl := h.r_vl) (r_ol := h.r_ol) (r_ke := h.r_ke) (r_d1 := ⟨_, q2, (fo_b h.r_mm (hfcx q0.2) (hrfx q0.1) q4 q5 q6 ho1 ho2).1⟩) (r_d2 := ⟨_, q3, (fo_b h.r_mm (hfcx q0.2) (hrfx q0.1) q4 q5 q6 ho1 ho2).2⟩)
    · exact rIv.mk (r_tn := h.r_tn) (r_tc := h.r_tc) (r_to := h.r_to) (r_mn := h.r_mn) (r_fc := h.r_fc) (r_rc := h.r_rc) (r_tl := h.r_tl) (r_ki := h.r_ki) (r_am := h.r_am) (r_pl := h.r_pl) (r_vc := h.r_vc) (r_ar := h.r_ar) (r_lr := h.r_lr) (r_fl := h.r_fl) (r_kn := h.r_kn) (r_mm := h.r_mm) (r_ot := h.r_ot) (r_al := h.r_al) (r_fa := h.r_fa) (r_fr := h.r_fr) (r_re := h.r_re) (r_rf := h.r_rf) (r_kd := h.r_kd) (r_vl := h.r_vl) (r_ol := h.r_ol) (r_ke := h.r_ke) (r_d1 := ⟨_, q2, (fo_b h.r_mm (hfcx q0.2) (hrfx q0.1) q4 q5 q6 ho1 ho2).1⟩) (r_d2 := ⟨_, q3, (fo_b h.r_mm (hfcx q0.2) (hrfx q0.1) q4 q5 q6 ho1 ho2).2⟩)
    · exact rIv.mk (r_tn := h.r_tn) (r_tc := h.r_tc) (r_to := h.r_to) (r_mn := h.r_mn) (r_fc := h.r_fc) (r_rc := h.r_rc) (r_tl := h.r_tl) (r_ki := h.r_ki) (r_am := h.r_am) (r_pl := h.r_pl) (r_vc := h.r_vc) (r_ar := h.r_ar) (r_lr := h.r_lr) (r_fl := h.r_fl) (r_kn := h.r_kn) (r_mm := h.r_mm) (r_ot := h.r_ot) (r_al := h.r_al) (r_fa := h.r_fa) (r_fr := h.r_fr) (r_re := h.r_re) (r_rf := h.r_rf) (r_kd := h.r_kd) (r_vl := h.r_vl) (r_ol := h.r_ol) (r_ke := h.r_ke) (r_d1 := ⟨_, q2, (fo_b h.r_mm (hfcx q0.2) (hrfx q0.1) q4 q5 q6 ho1 ho2).1⟩) (r_d2 := ⟨_, q3, (fo_b h.r_mm (hfcx q0.2) (hrfx q0.1) q4 q5 q6 ho1 ho2).2⟩)
    · exact absurd ⟨q7.2.2, q7.2.1⟩ ((hrv q0.1).mp u1).2
    · exact rIv.mk (r_tn := h.r_tn) (r_tc := h.r_tc) (r_to := h.r_to) (r_mn := h.r_mn) (r_fc := h.r_fc) (r_rc := h.r_rc) (r_tl := h.r_tl) (r_ki := h.r_ki) (r_am := h.r_am) (r_pl := h.r_pl) (r_vc := h.r_vc) (r_ar := h.r_ar) (r_lr := h.r_lr) (r_fl := h.r_fl) (r_kn := h.r_kn) (r_mm := h.r_mm) (r_ot := h.r_ot) (r_al := h.r_al) (r_fa := h.r_fa) (r_fr := h.r_fr) (r_re := h.r_re) (r_rf := h.r_rf) (r_kd := h.r_kd) (r_vl := h.r_vl) (r_ol := h.r_ol) (r_ke := h.r_ke) (r_d1 := ⟨_, q2, (fo_b h.r_mm (hfcx q0.2) (hrfx q0.1) q4 q5 q6 ho1 ho2).1⟩) (r_d2 := ⟨_, q3, (fo_b h.r_mm (hfcx q0.2) (hrfx q0.1) q4 q5 q6 ho1 ho2).2⟩)
    · exact absurd ⟨q7.2.2, q7.2.1⟩ ((hrv q0.1).mp u1).2
  · rcases bb with ⟨u0, rfl, rfl, rfl, rfl, rfl, rfl, rfl, rfl, rfl, rfl, rfl⟩ | ⟨u0, u1, rfl, rfl, rfl, rfl, rfl, rfl, rfl, rfl, rfl, rfl, rfl⟩ | ⟨s9m, f9m, m9m, q9m, p9m, r9m, u0, u1, u2, u3, u4, rfl, rfl, rfl, rfl, rfl, rfl, rfl, rfl, rfl, rfl, rfl⟩ | ⟨s9m, f9m, m9m, q9m, p9m, r9m, u0, u1, u2, u3, u4, u5, rfl, rfl, rfl, rfl, rfl, rfl, rfl, rfl, rfl, rfl, rfl⟩ | ⟨s9m, f9m, m9m, q9m, p9m, r9m, u0, u1, u2, u3, u4, u5, u6, rfl, rfl, rfl, rfl, rfl, rfl, rfl, rfl, rfl, rfl, rfl⟩ | ⟨s9m, f9m, m9m, q9m, p9m, r9m, u0, u1, u2, u3, u4, u5, u6, rfl, rfl, rfl, rfl, rfl, rfl, rfl, rfl, rfl, rfl, rfl⟩
    · exact rIv.mk (r_tn := h.r_tn) (r_tc := h.r_tc) (r_to := h.r_to) (r_mn := h.r_mn) (r_fc := h.r_fc) (r_rc := h.r_rc) (r_tl := h.r_tl) (r_ki := h.r_ki) (r_am := h.r_am) (r_pl := h.r_pl) (r_vc := h.r_vc) (r_ar := h.r_ar) (r_lr := h.r_lr) (r_fl := h.r_fl) (r_kn := h.r_kn) (r_mm := h.r_mm) (r_ot := h.r_ot) (r_al := h.r_al) (r_fa := h.r_fa) (r_fr := h.r_fr) (r_re := h.r_re) (r_rf := h.r_rf) (r_kd := h.r_kd) (r_vl := h.r_vl) (r_ol := h.r_ol) (r_ke := h.r_ke) (r_d1 := ⟨_, q2, (fo_b h.r_mm (hfcx q0.2) (hrfx q0.1) q4 q5 q6 ho1 ho2).1⟩) (r_d2 := ⟨_, q3, (fo_b h.r_mm (hfcx q0.2) (hrfx q0.1) q4 q5 q6 ho1 ho2).2⟩)
    · exact rIv.mk (r_tn := h.r_tn) (r_tc := h.r_tc) (r_to := h.r_to) (r_mn := h.r_mn) (r_fc := h.r_fc) (r_rc := h.r_rc) (r_tl := h.r_tl) (r_ki := h.r_ki) (r_am := h.r_am) (r_pl := h.r_pl) (r_vc := h.r_vc) (r_ar := h.r_ar) (r_lr := h.r_lr) (r_fl := h.r_fl) (r_kn := h.r_kn) (r_mm := h.r_mm) (r_ot := h.r_ot) (r_al := h.r_al) (r_fa := h.r_fa) (r_fr := h.r_fr) (r_re := h.r_re) (r_rf := h.r_rf) (r_kd := h.r_kd) (r_vl := h.r_vl) (r_ol := h.r_ol) (r_ke := h.r_ke) (r_d1 := ⟨_, q2, (fo_b h.r_mm (hfcx q0.2) (hrfx q0.1) q4 q5 q6 ho1 ho2).1⟩) (r_d2 := ⟨_, q3, (fo_b h.r_mm (hfcx q0.2) (hrfx q0.1) q4 q5 q6 ho1 ho2).2⟩)
    · exact rIv.mk (r_tn := h.r_tn) (r_tc := h.r_tc) (r_to := h.r_to) (r_mn := h.r_mn) (r_fc := h.r_fc) (r_rc := h.r_rc) (r_tl := h.r_tl) (r_ki := h.r_ki) (r_am := h.r_am) (r_pl := h.r_pl) (r_vc := h.r_vc) (r_ar := h.r_ar) (r_lr := h.r_lr) (r_fl := h.r_fl) (r_kn := h.r_kn) (r_mm := h.r_mm) (r_ot := h.r_ot) (r_al := h.r_al) (r_fa := h.r_fa) (r_fr := h.r_fr) (r_re := h.r_re) (r_rf := h.r_rf) (r_kd := h.r_kd) (r_vl := h.r_vl) (r_ol := h.r_ol) (r_ke := h.r_ke) (r_d1 := ⟨_, q2, (fo_b h.r_mm (hfcx q0.2) (hrfx q0.1) q4 q5 q6 ho1 ho2).1⟩) (r_d2 := ⟨_, q3, (fo_b h.r_mm (hfcx q0.2) (hrfx q0.1) q4 q5 q6 ho1 ho2).2⟩)
    · obtain ⟨sc, mp, k1, _⟩ := fi_x h.r_mm (hfcx q0.2) (hrfx q0.1) q4; have ez := congrArg Int32.toInt (wm_e k1 u2).2.2; exfalso; omega
    · exact rIv.mk (r_tn := h.r_tn) (r_tc := h.r_tc) (r_to := h.r_to) (r_mn := h.r_mn) (r_fc := h.r_fc) (r_rc := h.r_rc) (r_tl := h.r_tl) (r_ki := h.r_ki) (r_am := h.r_am) (r_pl := h.r_pl) (r_vc := h.r_vc) (r_ar := h.r_ar) (r_lr := h.r_lr) (r_fl := h.r_fl) (r_kn := h.r_kn) (r_mm := h.r_mm) (r_ot := h.r_ot) (r_al := h.r_al) (r_fa := h.r_fa) (r_fr := h.r_fr) (r_re := h.r_re) (r_rf := h.r_rf) (r_kd := h.r_kd) (r_vl := h.r_vl) (r_ol := h.r_ol) (r_ke := h.r_ke) (r_d1 := ⟨_, q2, (fo_b h.r_mm (hfcx q0.2) (hrfx q0.1) q4 q5 q6 ho1 ho2).1⟩) (r_d2 := ⟨_, q3, (fo_b h.r_mm (hfcx q0.2) (hrfx q0.1) q4 q5 q6 ho1 ho2).2⟩)
    · obtain ⟨sc, mp, k1, _⟩ := fi_x h.r_mm (hfcx q0.2) (hrfx q0.1) q4; have ez := congrArg Int32.toInt (wm_e k1 u2).2.2; exfalso; omega
  · rcases bb with ⟨u0, rfl, rfl, rfl, rfl, rfl, rfl, rfl, rfl, rfl, rfl, rfl⟩ | ⟨u0, u1, rfl, rfl, rfl, rfl, rfl, rfl, rfl, rfl, rfl, rfl, rfl⟩ | ⟨s9m, f9m, m9m, q9m, p9m, r9m, u0, u1, u2, u3, u4, rfl, rfl, rfl, rfl, rfl, rfl, rfl, rfl, rfl, rfl, rfl⟩ | ⟨s9m, f9m, m9m, q9m, p9m, r9m, u0, u1, u2, u3, u4, u5, rfl, rfl, rfl, rfl, rfl, rfl, rfl, rfl, rfl, rfl, rfl⟩ | ⟨s9m, f9m, m9m, q9m, p9m, r9m, u0, u1, u2, u3, u4, u5, u6, rfl, rfl, rfl, rfl, rfl, rfl, rfl, rfl, rfl, rfl, rfl⟩ | ⟨s9m, f9m, m9m, q9m, p9m, r9m, u0, u1, u2, u3, u4, u5, u6, rfl, rfl, rfl, rfl, rfl, rfl, rfl, rfl, rfl, rfl, rfl⟩
    · exact absurd q0 u0
    · exact absurd ((hrv q0.1).mpr ⟨q1, by omega⟩) u1
    · obtain ⟨sc, mp, k1, _⟩ := fi_x h.r_mm (hfcx q0.2) (hrfx q0.1) q4; have ez := congrArg Int32.toInt (wm_e k1 u2).2.2; exfalso; omega
    · obtain ⟨sc, mp, k1, _⟩ := fi_x h.r_mm (hfcx q0.2) (hrfx q0.1) q4; have ez := congrArg Int32.toInt (wm_e k1 u2).2.2; exfalso; omega
    · obtain ⟨sc, mp, k1, _⟩ := fi_x h.r_mm (hfcx q0.2) (hrfx q0.1) q4; have ez := congrArg Int32.toInt (wm_e k1 u2).2.2; exfalso; omega
    · exact rIv.mk (r_tn := h.r_tn) (r_tc := h.r_tc) (r_to := h.r_to) (r_mn := h.r_mn) (r_fc := h.r_fc) (r_rc := h.r_rc) (r_tl := h.r_tl) (r_ki := h.r_ki) (r_am := h.r_am) (r_pl := h.r_pl) (r_vc := rfl) (r_ar := h.r_ar) (r_lr := h.r_lr) (r_fl := h.r_fl) (r_kn := h.r_kn) (r_mm := h.r_mm) (r_ot := h.r_ot) (r_al := alF_ap e9x h.r_al) (r_fa := faF_ap e9x h.r_fa) (r_fr := h.r_fr) (r_re := reF_ap e9x h.r_re) (r_rf := h.r_rf) (r_kd := h.r_kd) (r_vl := ⟨_, _, _, _, q8, fun i q => vr_put w7 hvr (vr_new h.r_mm (hfcx q0.2) (hrfx q0.1) q4 q7.1) i q⟩) (r_ol := h.r_ol) (r_ke := h.r_ke) (r_d1 := ⟨_, fdF_ap e9x q2, (fo_b h.r_mm (hfcx q0.2) (hrfx q0.1) q4 q5 q6 ho1 ho2).1⟩) (r_d2 := ⟨_, fdF_ap e9x q3, (fo_b h.r_mm (hfcx q0.2) (hrfx q0.1) q4 q5 q6 ho1 ho2).2⟩)
set_option maxRecDepth 100000 in
set_option maxHeartbeats 4000000 in
theorem pr_member {xTc : Int32} {xFc : Int32} {xRc : Int32} {xVc : Int32} {xLr : Int32} {xFl : Int32} {xTn : Int32} {xMn : Int32} {xSt : Int64} {xAb : Int64} {xVa : Int64} {xD1 : Value} {xD2 : Value} {xTl : Int32} {xOl : Int32} {xKn : Int32} {xPa : Nat → Int32} {xUp : Nat → Int32} {xAl : Nat → Option Nat} {xHa : Nat → Int64} {xNm : Nat → Int64} {xKi : Nat → Int32} {xAm : Nat → Int32} {xPl : Nat → Int32} {xKe : Nat → Int32} {xTo : Nat → Int32} {xFa : Nat → Option Nat} {xRe : Nat → Option Nat} {xVl : Nat → Option Nat} {xAr : Nat → Int32} {mTy : Int32} {mPa : Nat → Int32} {mTo : Nat → Int32} {mTm : Int32} {mMn : Int32} {mOt : Nat → Int32} {mNa : Nat → Int32} {mRe : Nat → Int32} {mMa : Nat → Int32} {mMy : Nat → Int32} {mPm : Nat → Int32} {mFn : Int32} {mFy : Nat → Int32} {mFa : Nat → Int32} {mFr : Nat → Int32} {mRn : Int32} {mFo : Nat → Int32} {mRt : Nat → Int32} {mRm : Nat → Int32} {mTn : Int32} {mTt : Nat → Int32} {mTi : Nat → Int32} {mPl : Nat → Int32} {mVn : Int32} {mVr : Nat → Int32} {mVf : Nat → Int32} {mVc : Nat → Int32} {mAr : Nat → Int32} {mLr : Int32} {mTc : Nat → Int32} {mTr : Int32} {mFl : Int32} {dyn : pm_H} {yTc : Int32} {yMn : Int32} {ySt : Int64} {yAb : Int64} {yVa : Int64} {yAl : Nat → Option Nat} {yHa : Nat → Int64} {yNm : Nat → Int64} {yyn : pm_H} {nTm : Int32} {nMn : Int32} {nOt : Nat → Int32} {nNa : Nat → Int32} {nRe : Nat → Int32} {nMa : Nat → Int32} {nMy : Nat → Int32} {nPm : Nat → Int32} {t : Int32} {w : Int32} {r : Int32} {a : Int32} {rx : Int32} {rm : Int32}  (hm : mIv mTy mPa mTo mTm mMn mOt mNa mRe mMa mMy mPm mFn mFy mFa mFr mRn mFo mRt mRm mTn mTt mTi mVn mVr mVf mVc mTr) (hn : mIv mTy mPa mTo nTm nMn nOt nNa nRe nMa nMy nPm mFn mFy mFa mFr mRn mFo mRt mRm mTn mTt mTi mVn mVr mVf mVc mTr) (h : rIv xTc xFc xRc xVc xLr xFl xTn xMn xSt xAb xVa xD1 xD2 xTl xOl xKn xPa xUp xAl xHa xNm xKi xAm xPl xKe xTo xFa xRe xVl xAr mTy mPa mTo mTm mMn mOt mNa mRe mMa mMy mPm mFn mFy mFa mFr mRn mFo mRt mRm mTn mTt mTi mPl mVn mVr mVf mVc mAr mLr mTc mTr mFl dyn) (aa : ((¬ (mhX xUp xTn t w r a ∧ maX xUp xTo xTc t w a)) ∧ (-1) = rx ∧ xTc = yTc ∧ xMn = yMn ∧ xSt = ySt ∧ xAb = yAb ∧ xVa = yVa ∧ xAl = yAl ∧ xHa = yHa ∧ xNm = yNm ∧ dyn = yyn) ∨ (((mhX xUp xTn t w r a ∧ maX xUp xTo xTc t w a)) ∧ ((0 < xTl.toInt ∨ 0 < xVc.toInt)) ∧ (-3) = rx ∧ xTc = yTc ∧ xMn = yMn ∧ xSt = ySt ∧ xAb = yAb ∧ xVa = yVa ∧ xAl = yAl ∧ xHa = yHa ∧ xNm = yNm ∧ dyn = yyn) ∨ (∃ (e9 : pm_H), ((mhX xUp xTn t w r a ∧ maX xUp xTo xTc t w a)) ∧ (¬ (0 < xTl.toInt ∨ 0 < xVc.toInt)) ∧ (clL xUp (upd mOt xMn.toNatClampNeg t) (upd mNa xMn.toNatClampNeg w) (upd mRe xMn.toNatClampNeg r) (upd mMa xMn.toNatClampNeg a) (upd mMy xMn.toNatClampNeg xTc) (cpF mPm xTo xMn xTc) xMn xMn.toNatClampNeg 0) ∧ (-6) = rx ∧ xTc = yTc ∧ xMn = yMn ∧ xSt = ySt ∧ xAb = yAb ∧ xVa = yVa ∧ xAl = yAl ∧ xHa = yHa ∧ xNm = yNm ∧ dyn ++ e9 = yyn) ∨ (∃ (e9 : pm_H), ((mhX xUp xTn t w r a ∧ maX xUp xTo xTc t w a)) ∧ (¬ (0 < xTl.toInt ∨ 0 < xVc.toInt)) ∧ (¬ clL xUp (upd mOt xMn.toNatClampNeg t) (upd mNa xMn.toNatClampNeg w) (upd mRe xMn.toNatClampNeg r) (upd mMa xMn.toNatClampNeg a) (upd mMy xMn.toNatClampNeg xTc) (cpF mPm xTo xMn xTc) xMn xMn.toNatClampNeg 0) ∧ (40 ≤ xMn.toInt) ∧ (-2) = rx ∧ xTc = yTc ∧ xMn = yMn ∧ xSt = ySt ∧ xAb = yAb ∧ xVa = yVa ∧ xAl = yAl ∧ xHa = yHa ∧ xNm = yNm ∧ dyn ++ e9 = yyn) ∨ (∃ (l9 : Nat → Option Nat) (h9 : Nat → Int64) (e9 : pm_H), ((mhX xUp xTn t w r a ∧ maX xUp xTo xTc t w a)) ∧ (¬ (0 < xTl.toInt ∨ 0 < xVc.toInt)) ∧ (¬ clL xUp (upd mOt xMn.toNatClampNeg t) (upd mNa xMn.toNatClampNeg w) (upd mRe xMn.toNatClampNeg r) (upd mMa xMn.toNatClampNeg a) (upd mMy xMn.toNatClampNeg xTc) (cpF mPm xTo xMn xTc) xMn xMn.toNatClampNeg 0) ∧ (xMn.toInt < 40) ∧ (alF (upd mOt xMn.toNatClampNeg t) (upd mNa xMn.toNatClampNeg w) (upd mRe xMn.toNatClampNeg r) (upd mMa xMn.toNatClampNeg a) (upd mMy xMn.toNatClampNeg xTc) (cpF mPm xTo xMn xTc) (xMn + 1) l9 (dyn ++ e9)) ∧ (adX xUp (upd mOt xMn.toNatClampNeg t) (upd mNa xMn.toNatClampNeg w) (upd mMy xMn.toNatClampNeg xTc) (cpF mPm xTo xMn xTc) xMn.toNatClampNeg xTn 0 xHa h9) ∧ (nI (xMn.toNatClampNeg)) = rx ∧ 0 = yTc ∧ xMn + 1 = yMn ∧ stX xSt ((upd mMa xMn.toNatClampNeg a) (xMn.toNatClampNeg) &&& 1) (xMn.toNatClampNeg) = ySt ∧ stX xAb ((upd mMa xMn.toNatClampNeg a) (xMn.toNatClampNeg) &&& 2) (xMn.toNatClampNeg) = yAb ∧ stX xVa ((upd mMa xMn.toNatClampNeg a) (xMn.toNatClampNeg) &&& 4) (xMn.toNatClampNeg) = yVa ∧ l9 = yAl ∧ h9 = yHa ∧ vp_updL xNm ((upd mNa xMn.toNatClampNeg w) (xMn.toNatClampNeg)).toNatClampNeg ((xNm ((upd mNa xMn.toNatClampNeg w) (xMn.toNatClampNeg)).toNatClampNeg) ||| (1 <<< ((nI (xMn.toNatClampNeg)).toInt64 &&& 63))) = yNm ∧ dyn ++ e9 = yyn)) (bb : ((¬ ((0 ≤ t.toInt ∧ t.toInt < mTy.toInt ∧ t.toInt ≠ 1) ∧ (0 ≤ w.toInt ∧ w.toInt ≤ 6) ∧ ((((0 ≤ r.toInt ∧ r.toInt < mTy.toInt) ∨ r.toInt = 10 ∨ (20 ≤ r.toInt ∧ r.toInt < 20 + mTy.toInt) ∨ r.toInt = 30)) ∨ r.toInt = 11) ∧ (0 ≤ a.toInt ∧ a.toInt ≤ 7) ∧ ((a &&& 4).toInt = 0 ∨ (mTm.toInt ≠ 0 ∧ 20 ≤ (mTo (mTm - 1).toNatClampNeg).toInt)) ∧ (a &&& 3).toInt ≠ 3 ∧ ((a &&& 2).toInt = 0 ∨ t.toInt ≠ 0) ∧ (w.toInt ≠ 6 ∨ ((a &&& 3).toInt = 0 ∧ r.toInt = t.toInt)))) ∧ (-1) = rm ∧ mTm = nTm ∧ mMn = nMn ∧ mOt = nOt ∧ mNa = nNa ∧ mRe = nRe ∧ mMa = nMa ∧ mMy = nMy ∧ mPm = nPm) ∨ ((((0 ≤ t.toInt ∧ t.toInt < mTy.toInt ∧ t.toInt ≠ 1) ∧ (0 ≤ w.toInt ∧ w.toInt ≤ 6) ∧ ((((0 ≤ r.toInt ∧ r.toInt < mTy.toInt) ∨ r.toInt = 10 ∨ (20 ≤ r.toInt ∧ r.toInt < 20 + mTy.toInt) ∨ r.toInt = 30)) ∨ r.toInt = 11) ∧ (0 ≤ a.toInt ∧ a.toInt ≤ 7) ∧ ((a &&& 4).toInt = 0 ∨ (mTm.toInt ≠ 0 ∧ 20 ≤ (mTo (mTm - 1).toNatClampNeg).toInt)) ∧ (a &&& 3).toInt ≠ 3 ∧ ((a &&& 2).toInt = 0 ∨ t.toInt ≠ 0) ∧ (w.toInt ≠ 6 ∨ ((a &&& 3).toInt = 0 ∧ r.toInt = t.toInt))) ∧ (0 < mTn.toInt ∨ 0 < mVn.toInt)) ∧ (-3) = rm ∧ mTm = nTm ∧ mMn = nMn ∧ mOt = nOt ∧ mNa = nNa ∧ mRe = nRe ∧ mMa = nMa ∧ mMy = nMy ∧ mPm = nPm) ∨ (((((0 ≤ t.toInt ∧ t.toInt < mTy.toInt ∧ t.toInt ≠ 1) ∧ (0 ≤ w.toInt ∧ w.toInt ≤ 6) ∧ ((((0 ≤ r.toInt ∧ r.toInt < mTy.toInt) ∨ r.toInt = 10 ∨ (20 ≤ r.toInt ∧ r.toInt < 20 + mTy.toInt) ∨ r.toInt = 30)) ∨ r.toInt = 11) ∧ (0 ≤ a.toInt ∧ a.toInt ≤ 7) ∧ ((a &&& 4).toInt = 0 ∨ (mTm.toInt ≠ 0 ∧ 20 ≤ (mTo (mTm - 1).toNatClampNeg).toInt)) ∧ (a &&& 3).toInt ≠ 3 ∧ ((a &&& 2).toInt = 0 ∨ t.toInt ≠ 0) ∧ (w.toInt ≠ 6 ∨ ((a &&& 3).toInt = 0 ∧ r.toInt = t.toInt))) ∧ ¬ (0 < mTn.toInt ∨ 0 < mVn.toInt)) ∧ (∃ j : Nat, (j : Int) < mMn.toInt ∧ clM mPa mOt mNa mRe mMa mMy mPm mTo mTm (nI j) t w r a)) ∧ (-6) = rm ∧ mTm = nTm ∧ mMn = nMn ∧ mOt = nOt ∧ mNa = nNa ∧ mRe = nRe ∧ mMa = nMa ∧ mMy = nMy ∧ mPm = nPm) ∨ (((((0 ≤ t.toInt ∧ t.toInt < mTy.toInt ∧ t.toInt ≠ 1) ∧ (0 ≤ w.toInt ∧ w.toInt ≤ 6) ∧ ((((0 ≤ r.toInt ∧ r.toInt < mTy.toInt) ∨ r.toInt = 10 ∨ (20 ≤ r.toInt ∧ r.toInt < 20 + mTy.toInt) ∨ r.toInt = 30)) ∨ r.toInt = 11) ∧ (0 ≤ a.toInt ∧ a.toInt ≤ 7) ∧ ((a &&& 4).toInt = 0 ∨ (mTm.toInt ≠ 0 ∧ 20 ≤ (mTo (mTm - 1).toNatClampNeg).toInt)) ∧ (a &&& 3).toInt ≠ 3 ∧ ((a &&& 2).toInt = 0 ∨ t.toInt ≠ 0) ∧ (w.toInt ≠ 6 ∨ ((a &&& 3).toInt = 0 ∧ r.toInt = t.toInt))) ∧ ¬ (0 < mTn.toInt ∨ 0 < mVn.toInt)) ∧ (∀ j : Nat, (j : Int) < mMn.toInt → ¬ clM mPa mOt mNa mRe mMa mMy mPm mTo mTm (nI j) t w r a) ∧ mMn.toInt = 40) ∧ (-2) = rm ∧ mTm = nTm ∧ mMn = nMn ∧ mOt = nOt ∧ mNa = nNa ∧ mRe = nRe ∧ mMa = nMa ∧ mMy = nMy ∧ mPm = nPm) ∨ (((((0 ≤ t.toInt ∧ t.toInt < mTy.toInt ∧ t.toInt ≠ 1) ∧ (0 ≤ w.toInt ∧ w.toInt ≤ 6) ∧ ((((0 ≤ r.toInt ∧ r.toInt < mTy.toInt) ∨ r.toInt = 10 ∨ (20 ≤ r.toInt ∧ r.toInt < 20 + mTy.toInt) ∨ r.toInt = 30)) ∨ r.toInt = 11) ∧ (0 ≤ a.toInt ∧ a.toInt ≤ 7) ∧ ((a &&& 4).toInt = 0 ∨ (mTm.toInt ≠ 0 ∧ 20 ≤ (mTo (mTm - 1).toNatClampNeg).toInt)) ∧ (a &&& 3).toInt ≠ 3 ∧ ((a &&& 2).toInt = 0 ∨ t.toInt ≠ 0) ∧ (w.toInt ≠ 6 ∨ ((a &&& 3).toInt = 0 ∧ r.toInt = t.toInt))) ∧ ¬ (0 < mTn.toInt ∨ 0 < mVn.toInt)) ∧ (∀ j : Nat, (j : Int) < mMn.toInt → ¬ clM mPa mOt mNa mRe mMa mMy mPm mTo mTm (nI j) t w r a) ∧ mMn.toInt < 40) ∧ (mMn + 1 - 1) = rm ∧ 0 = nTm ∧ mMn + 1 = nMn ∧ upd mOt mMn.toNatClampNeg t = nOt ∧ upd mNa mMn.toNatClampNeg w = nNa ∧ upd mRe mMn.toNatClampNeg r = nRe ∧ upd mMa mMn.toNatClampNeg a = nMa ∧ upd mMy mMn.toNatClampNeg mTm = nMy ∧ cpF mPm mTo mMn mTm = nPm)) : rIv yTc xFc xRc xVc xLr xFl xTn yMn ySt yAb yVa xD1 xD2 xTl xOl xKn xPa xUp yAl yHa yNm xKi xAm xPl xKe xTo xFa xRe xVl xAr mTy mPa mTo nTm nMn nOt nNa nRe nMa nMy nPm mFn mFy mFa mFr mRn mFo mRt mRm mTn mTt mTi mPl mVn mVr mVf mVc mAr mLr mTc mTr mFl yyn ∧ rx = rm := by
  have e_r_tn := h.r_tn
  have e_r_tc := h.r_tc
  have e_r_to := h.r_to
  have e_r_mn := h.r_mn
  have e_r_fc := h.r_fc
  have e_r_rc := h.r_rc
  have e_r_tl := h.r_tl
  have e_r_ki := h.r_ki
  have e_r_am := h.r_am
  have e_r_pl := h.r_pl
  have e_r_vc := h.r_vc
  have e_r_ar := h.r_ar
  have e_r_lr := h.r_lr
  have e_r_fl := h.r_fl
  have e_r_kn := h.r_kn
  subst e_r_tn; subst e_r_tc; subst e_r_to; subst e_r_mn; subst e_r_fc; subst e_r_rc; subst e_r_tl; subst e_r_ki; subst e_r_am; subst e_r_pl; subst e_r_vc; subst e_r_ar; subst e_r_lr; subst e_r_fl; subst e_r_kn
  have w1 := hm.ity
  have w2 := hm.itm
  have w3 := hm.imn
  have w4 := hm.ifn
  have w5 := hm.irn
  have w6 := hm.itn
  have w7 := hm.ivn
  have w8 := hm.itr
  have hmh := mh_x (t := t) (w := w) (r := r) (a := a) h.r_mm.1 hm.ito hm.itm
  have hclx : mhX xUp mTy t w r a ∧ maX xUp mTo mTm t w a → _ := fun q => cl_x (r := r) (a := a) h.r_mm hm.ito hm.itm q.1.1.1 q.1.2.1
  rcases bb with bb | bb | bb | bb | bb
  · obtain ⟨u0, ff0, ff1, ff2, ff3, ff4, ff5, ff6, ff7, ff8⟩ := bb
    rcases aa with aa | aa | aa | aa | aa
    · obtain ⟨q0, ee0, ee1, ee2, ee3, ee4, ee5, ee6, ee7, ee8, ee9⟩ := aa
      subst ee0 ee1 ee2 ee3 ee4 ee5 ee6 ee7 ee8 ee9 ff0 ff1 ff2 ff3 ff4 ff5 ff6 ff7 ff8
      exact ⟨h, rfl⟩
    · obtain ⟨q0, q1, ee0, ee1, ee2, ee3, ee4, ee5, ee6, ee7, ee8, ee9⟩ := aa
      subst ee0 ee1 ee2 ee3 ee4 ee5 ee6 ee7 ee8 ee9 ff0 ff1 ff2 ff3 ff4 ff5 ff6 ff7 ff8
      exact absurd (hmh.mp q0) u0
    · obtain ⟨e9x, q0, q1, q2, ee0, ee1, ee2, ee3, ee4, ee5, ee6, ee7, ee8, ee9⟩ := aa
      subst ee0 ee1 ee2 ee3 ee4 ee5 ee6 ee7 ee8 ee9 ff0 ff1 ff2 ff3 ff4 ff5 ff6 ff7 ff8
      exact absurd (hmh.mp q0) u0
    · obtain ⟨e9x, q0, q1, q2, q3, ee0, ee1, ee2, ee3, ee4, ee5, ee6, ee7, ee8, ee9⟩ := aa
      subst ee0 ee1 ee2 ee3 ee4 ee5 ee6 ee7 ee8 ee9 ff0 ff1 ff2 ff3 ff4 ff5 ff6 ff7 ff8
      exact absurd (hmh.mp q0) u0
    · obtain ⟨l9x, h9x, e9x, q0, q1, q2, q3, q4, q5, ee0, ee1, ee2, ee3, ee4, ee5, ee6, ee7, ee8, ee9⟩ := aa
      subst ee0 ee1 ee2 ee3 ee4 ee5 ee6 ee7 ee8 ee9 ff0 ff1 ff2 ff3 ff4 ff5 ff6 ff7 ff8
      exact absurd (hmh.mp q0) u0
  · obtain ⟨u0, ff0, ff1, ff2, ff3, ff4, ff5, ff6, ff7, ff8⟩ := bb
    rcases aa with aa | aa | aa | aa | aa
    · obtain ⟨q0, ee0, ee1, ee2, ee3, ee4, ee5, ee6, ee7, ee8, ee9⟩ := aa
      subst ee0 ee1 ee2 ee3 ee4 ee5 ee6 ee7 ee8 ee9 ff0 ff1 ff2 ff3 ff4 ff5 ff6 ff7 ff8
      exact absurd (hmh.mpr u0.1) q0
    · obtain ⟨q0, q1, ee0, ee1, ee2, ee3, ee4, ee5, ee6, ee7, ee8, ee9⟩ := aa
      subst ee0 ee1 ee2 ee3 ee4 ee5 ee6 ee7 ee8 ee9 ff0 ff1 ff2 ff3 ff4 ff5 ff6 ff7 ff8
      exact ⟨h, rfl⟩
    · obtain ⟨e9x, q0, q1, q2, ee0, ee1, ee2, ee3, ee4, ee5, ee6, ee7, ee8, ee9⟩ := aa
      subst ee0 ee1 ee2 ee3 ee4 ee5 ee6 ee7 ee8 ee9 ff0 ff1 ff2 ff3 ff4 ff5 ff6 ff7 ff8
      exact absurd u0.2 q1
    · obtain ⟨e9x, q0, q1, q2, q3, ee0, ee1, ee2, ee3, ee4, ee5, ee6, ee7, ee8, ee9⟩ := aa
      subst ee0 ee1 ee2 ee3 ee4 ee5 ee6 ee7 ee8 ee9 ff0 ff1 ff2 ff3 ff4 ff5 ff6 ff7 ff8
      exact absurd u0.2 q1
    · obtain ⟨l9x, h9x, e9x, q0, q1, q2, q3, q4, q5, ee0, ee1, ee2, ee3, ee4, ee5, ee6, ee7, ee8, ee9⟩ := aa
      subst ee0 ee1 ee2 ee3 ee4 ee5 ee6 ee7 ee8 ee9 ff0 ff1 ff2 ff3 ff4 ff5 ff6 ff7 ff8
      exact absurd u0.2 q1
  · obtain ⟨u0, ff0, ff1, ff2, ff3, ff4, ff5, ff6, ff7, ff8⟩ := bb
    rcases aa with aa | aa | aa | aa | aa
    · obtain ⟨q0, ee0, ee1, ee2, ee3, ee4, ee5, ee6, ee7, ee8, ee9⟩ := aa
      subst ee0 ee1 ee2 ee3 ee4 ee5 ee6 ee7 ee8 ee9 ff0 ff1 ff2 ff3 ff4 ff5 ff6 ff7 ff8
      exact absurd (hmh.mpr u0.1.1) q0
    · obtain ⟨q0, q1, ee0, ee1, ee2, ee3, ee4, ee5, ee6, ee7, ee8, ee9⟩ := aa
      subst ee0 ee1 ee2 ee3 ee4 ee5 ee6 ee7 ee8 ee9 ff0 ff1 ff2 ff3 ff4 ff5 ff6 ff7 ff8
      exact absurd q1 u0.1.2
    · obtain ⟨e9x, q0, q1, q2, ee0, ee1, ee2, ee3, ee4, ee5, ee6, ee7, ee8, ee9⟩ := aa
      subst ee0 ee1 ee2 ee3 ee4 ee5 ee6 ee7 ee8 ee9 ff0 ff1 ff2 ff3 ff4 ff5 ff6 ff7 ff8
      exact ⟨ri_ap h, rfl⟩
    · obtain ⟨e9x, q0, q1, q2, q3, ee0, ee1, ee2, ee3, ee4, ee5, ee6, ee7, ee8, ee9⟩ := aa
      subst ee0 ee1 ee2 ee3 ee4 ee5 ee6 ee7 ee8 ee9 ff0 ff1 ff2 ff3 ff4 ff5 ff6 ff7 ff8
      exact absurd ((hclx q0).mpr u0.2) q2
    · obtain ⟨l9x, h9x, e9x, q0, q1, q2, q3, q4, q5, ee0, ee1, ee2, ee3, ee4, ee5, ee6, ee7, ee8, ee9⟩ := aa
      subst ee0 ee1 ee2 ee3 ee4 ee5 ee6 ee7 ee8 ee9 ff0 ff1 ff2 ff3 ff4 ff5 ff6 ff7 ff8
      exact absurd ((hclx q0).mpr u0.2) q2
  · obtain ⟨u0, ff0, ff1, ff2, ff3, ff4, ff5, ff6, ff7, ff8⟩ := bb
    rcases aa with aa | aa | aa | aa | aa
    · obtain ⟨q0, ee0, ee1, ee2, ee3, ee4, ee5, ee6, ee7, ee8, ee9⟩ := aa
      subst ee0 ee1 ee2 ee3 ee4 ee5 ee6 ee7 ee8 ee9 ff0 ff1 ff2 ff3 ff4 ff5 ff6 ff7 ff8
      exact absurd (hmh.mpr u0.1.1) q0
    · obtain ⟨q0, q1, ee0, ee1, ee2, ee3, ee4, ee5, ee6, ee7, ee8, ee9⟩ := aa
      subst ee0 ee1 ee2 ee3 ee4 ee5 ee6 ee7 ee8 ee9 ff0 ff1 ff2 ff3 ff4 ff5 ff6 ff7 ff8
      exact absurd q1 u0.1.2
    · obtain ⟨e9x, q0, q1, q2, ee0, ee1, ee2, ee3, ee4, ee5, ee6, ee7, ee8, ee9⟩ := aa
      subst ee0 ee1 ee2 ee3 ee4 ee5 ee6 ee7 ee8 ee9 ff0 ff1 ff2 ff3 ff4 ff5 ff6 ff7 ff8
      obtain ⟨j, z1, z2⟩ := (hclx q0).mp q2; exact absurd z2 (u0.2.1 j z1)
    · obtain ⟨e9x, q0, q1, q2, q3, ee0, ee1, ee2, ee3, ee4, ee5, ee6, ee7, ee8, ee9⟩ := aa
      subst ee0 ee1 ee2 ee3 ee4 ee5 ee6 ee7 ee8 ee9 ff0 ff1 ff2 ff3 ff4 ff5 ff6 ff7 ff8
      exact ⟨ri_ap h, rfl⟩
    · obtain ⟨l9x, h9x, e9x, q0, q1, q2, q3, q4, q5, ee0, ee1, ee2, ee3, ee4, ee5, ee6, ee7, ee8, ee9⟩ := aa
      subst ee0 ee1 ee2 ee3 ee4 ee5 ee6 ee7 ee8 ee9 ff0 ff1 ff2 ff3 ff4 ff5 ff6 ff7 ff8
      exfalso; omega
  · obtain ⟨u0, ff0, ff1, ff2, ff3, ff4, ff5, ff6, ff7, ff8⟩ := bb
    rcases aa with aa | aa | aa | aa | aa
    · obtain ⟨q0, ee0, ee1, ee2, ee3, ee4, ee5, ee6, ee7, ee8, ee9⟩ := aa
      subst ee0 ee1 ee2 ee3 ee4 ee5 ee6 ee7 ee8 ee9 ff0 ff1 ff2 ff3 ff4 ff5 ff6 ff7 ff8
      exact absurd (hmh.mpr u0.1.1) q0
    · obtain ⟨q0, q1, ee0, ee1, ee2, ee3, ee4, ee5, ee6, ee7, ee8, ee9⟩ := aa
      subst ee0 ee1 ee2 ee3 ee4 ee5 ee6 ee7 ee8 ee9 ff0 ff1 ff2 ff3 ff4 ff5 ff6 ff7 ff8
      exact absurd q1 u0.1.2
    · obtain ⟨e9x, q0, q1, q2, ee0, ee1, ee2, ee3, ee4, ee5, ee6, ee7, ee8, ee9⟩ := aa
      subst ee0 ee1 ee2 ee3 ee4 ee5 ee6 ee7 ee8 ee9 ff0 ff1 ff2 ff3 ff4 ff5 ff6 ff7 ff8
      obtain ⟨j, z1, z2⟩ := (hclx q0).mp q2; exact absurd z2 (u0.2.1 j z1)
    · obtain ⟨e9x, q0, q1, q2, q3, ee0, ee1, ee2, ee3, ee4, ee5, ee6, ee7, ee8, ee9⟩ := aa
      subst ee0 ee1 ee2 ee3 ee4 ee5 ee6 ee7 ee8 ee9 ff0 ff1 ff2 ff3 ff4 ff5 ff6 ff7 ff8
      exfalso; omega
    · obtain ⟨l9x, h9x, e9x, q0, q1, q2, q3, q4, q5, ee0, ee1, ee2, ee3, ee4, ee5, ee6, ee7, ee8, ee9⟩ := aa
      subst ee0 ee1 ee2 ee3 ee4 ee5 ee6 ee7 ee8 ee9 ff0 ff1 ff2 ff3 ff4 ff5 ff6 ff7 ff8
      refine ⟨ri_member hm hn h q0 q1 u0.2.1 (by omega) q4 q5, ?_⟩; have z4 : (mMn + 1).toInt = mMn.toInt + 1 := iAdd rfl (by decide) (by omega) (by omega); have z5 : (mMn + 1 - 1).toInt = mMn.toInt + 1 - 1 := iSub z4 (by decide) (by omega) (by omega); apply xJ; rw [nI_self w3.1]; omega
end
