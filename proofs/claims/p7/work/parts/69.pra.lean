set_option maxRecDepth 100000 in
set_option maxHeartbeats 4000000 in
theorem pr_untell {xTc : Int32} {xFc : Int32} {xRc : Int32} {xVc : Int32} {xLr : Int32} {xFl : Int32} {xTn : Int32} {xMn : Int32} {xSt : Int64} {xAb : Int64} {xVa : Int64} {xD1 : Value} {xD2 : Value} {xTl : Int32} {xOl : Int32} {xKn : Int32} {xPa : Nat → Int32} {xUp : Nat → Int32} {xAl : Nat → Option Nat} {xHa : Nat → Int64} {xNm : Nat → Int64} {xKi : Nat → Int32} {xAm : Nat → Int32} {xPl : Nat → Int32} {xKe : Nat → Int32} {xTo : Nat → Int32} {xFa : Nat → Option Nat} {xRe : Nat → Option Nat} {xVl : Nat → Option Nat} {xAr : Nat → Int32} {mTy : Int32} {mPa : Nat → Int32} {mTo : Nat → Int32} {mTm : Int32} {mMn : Int32} {mOt : Nat → Int32} {mNa : Nat → Int32} {mRe : Nat → Int32} {mMa : Nat → Int32} {mMy : Nat → Int32} {mPm : Nat → Int32} {mFn : Int32} {mFy : Nat → Int32} {mFa : Nat → Int32} {mFr : Nat → Int32} {mRn : Int32} {mFo : Nat → Int32} {mRt : Nat → Int32} {mRm : Nat → Int32} {mTn : Int32} {mTt : Nat → Int32} {mTi : Nat → Int32} {mPl : Nat → Int32} {mVn : Int32} {mVr : Nat → Int32} {mVf : Nat → Int32} {mVc : Nat → Int32} {mAr : Nat → Int32} {mLr : Int32} {mTc : Nat → Int32} {mTr : Int32} {mFl : Int32} {dyn : pm_H} {yTc : Int32} {nTm : Int32} {rx : Int32} {rm : Int32}  (hm : mIv mTy mPa mTo mTm mMn mOt mNa mRe mMa mMy mPm mFn mFy mFa mFr mRn mFo mRt mRm mTn mTt mTi mVn mVr mVf mVc mTr) (hn : mIv mTy mPa mTo nTm mMn mOt mNa mRe mMa mMy mPm mFn mFy mFa mFr mRn mFo mRt mRm mTn mTt mTi mVn mVr mVf mVc mTr) (h : rIv xTc xFc xRc xVc xLr xFl xTn xMn xSt xAb xVa xD1 xD2 xTl xOl xKn xPa xUp xAl xHa xNm xKi xAm xPl xKe xTo xFa xRe xVl xAr mTy mPa mTo mTm mMn mOt mNa mRe mMa mMy mPm mFn mFy mFa mFr mRn mFo mRt mRm mTn mTt mTi mPl mVn mVr mVf mVc mAr mLr mTc mTr mFl dyn) (aa : (xTc = rx ∧ 0 = yTc)) (bb : (mTm = rm ∧ 0 = nTm)) : rIv yTc xFc xRc xVc xLr xFl xTn xMn xSt xAb xVa xD1 xD2 xTl xOl xKn xPa xUp xAl xHa xNm xKi xAm xPl xKe xTo xFa xRe xVl xAr mTy mPa mTo nTm mMn mOt mNa mRe mMa mMy mPm mFn mFy mFa mFr mRn mFo mRt mRm mTn mTt mTi mPl mVn mVr mVf mVc mAr mLr mTc mTr mFl dyn ∧ rx = rm := by
  have e_r_tn := h.r_tn
  have e_r_tc := h.r_tc
  have e_r_to := h.r_to
  have e_r_mn := h.r_mn
  have e_r_fc := h.r_fc
  have e_r_rc := h.r_rc
  have e_r_tl := h.r_tl
  have e_r_ki := h.r_ki
  have e_r_am := h.r_am
  have e_r_pl := h.r_pl
  have e_r_vc := h.r_vc
  have e_r_ar := h.r_ar
  have e_r_lr := h.r_lr
  have e_r_fl := h.r_fl
  have e_r_kn := h.r_kn
  subst e_r_tn; subst e_r_tc; subst e_r_to; subst e_r_mn; subst e_r_fc; subst e_r_rc; subst e_r_tl; subst e_r_ki; subst e_r_am; subst e_r_pl; subst e_r_vc; subst e_r_ar; subst e_r_lr; subst e_r_fl; subst e_r_kn
  rcases bb with bb
  · obtain ⟨ff0, ff1⟩ := bb
    rcases aa with aa
    · obtain ⟨ee0, ee1⟩ := aa
      subst ee0 ee1 ff0 ff1
      exact ⟨(rIv.mk (r_tn := h.r_tn) (r_tc := rfl) (r_to := h.r_to) (r_mn := h.r_mn) (r_fc := h.r_fc) (r_rc := h.r_rc) (r_tl := h.r_tl) (r_ki := h.r_ki) (r_am := h.r_am) (r_pl := h.r_pl) (r_vc := h.r_vc) (r_ar := h.r_ar) (r_lr := h.r_lr) (r_fl := h.r_fl) (r_kn := h.r_kn) (r_mm := h.r_mm) (r_ot := h.r_ot) (r_al := h.r_al) (r_fa := h.r_fa) (r_fr := h.r_fr) (r_re := h.r_re) (r_rf := h.r_rf) (r_kd := h.r_kd) (r_vl := h.r_vl) (r_ol := h.r_ol) (r_ke := h.r_ke) (r_d1 := h.r_d1) (r_d2 := h.r_d2)), rfl⟩
set_option maxRecDepth 100000 in
set_option maxHeartbeats 4000000 in
theorem pr_tell {xTc : Int32} {xFc : Int32} {xRc : Int32} {xVc : Int32} {xLr : Int32} {xFl : Int32} {xTn : Int32} {xMn : Int32} {xSt : Int64} {xAb : Int64} {xVa : Int64} {xD1 : Value} {xD2 : Value} {xTl : Int32} {xOl : Int32} {xKn : Int32} {xPa : Nat → Int32} {xUp : Nat → Int32} {xAl : Nat → Option Nat} {xHa : Nat → Int64} {xNm : Nat → Int64} {xKi : Nat → Int32} {xAm : Nat → Int32} {xPl : Nat → Int32} {xKe : Nat → Int32} {xTo : Nat → Int32} {xFa : Nat → Option Nat} {xRe : Nat → Option Nat} {xVl : Nat → Option Nat} {xAr : Nat → Int32} {mTy : Int32} {mPa : Nat → Int32} {mTo : Nat → Int32} {mTm : Int32} {mMn : Int32} {mOt : Nat → Int32} {mNa : Nat → Int32} {mRe : Nat → Int32} {mMa : Nat → Int32} {mMy : Nat → Int32} {mPm : Nat → Int32} {mFn : Int32} {mFy : Nat → Int32} {mFa : Nat → Int32} {mFr : Nat → Int32} {mRn : Int32} {mFo : Nat → Int32} {mRt : Nat → Int32} {mRm : Nat → Int32} {mTn : Int32} {mTt : Nat → Int32} {mTi : Nat → Int32} {mPl : Nat → Int32} {mVn : Int32} {mVr : Nat → Int32} {mVf : Nat → Int32} {mVc : Nat → Int32} {mAr : Nat → Int32} {mLr : Int32} {mTc : Nat → Int32} {mTr : Int32} {mFl : Int32} {dyn : pm_H} {yTc : Int32} {yTo : Nat → Int32} {nTo : Nat → Int32} {nTm : Int32} {t : Int32} {rx : Int32} {rm : Int32}  (hm : mIv mTy mPa mTo mTm mMn mOt mNa mRe mMa mMy mPm mFn mFy mFa mFr mRn mFo mRt mRm mTn mTt mTi mVn mVr mVf mVc mTr) (hn : mIv mTy mPa nTo nTm mMn mOt mNa mRe mMa mMy mPm mFn mFy mFa mFr mRn mFo mRt mRm mTn mTt mTi mVn mVr mVf mVc mTr) (h : rIv xTc xFc xRc xVc xLr xFl xTn xMn xSt xAb xVa xD1 xD2 xTl xOl xKn xPa xUp xAl xHa xNm xKi xAm xPl xKe xTo xFa xRe xVl xAr mTy mPa mTo mTm mMn mOt mNa mRe mMa mMy mPm mFn mFy mFa mFr mRn mFo mRt mRm mTn mTt mTi mPl mVn mVr mVf mVc mAr mLr mTc mTr mFl dyn) (aa : ((¬ xPm xUp t) ∧ (-1) = rx ∧ xTc = yTc ∧ xTo = yTo) ∨ ((xPm xUp t) ∧ (3 ≤ xTc.toInt) ∧ (-2) = rx ∧ xTc = yTc ∧ xTo = yTo) ∨ ((xPm xUp t) ∧ (xTc.toInt < 3) ∧ (xTc + 1) = rx ∧ xTc + 1 = yTc ∧ upd xTo xTc.toNatClampNeg t = yTo)) (bb : ((¬ ((0 ≤ t.toInt ∧ t.toInt < mTy.toInt) ∨ t.toInt = 10 ∨ (20 ≤ t.toInt ∧ t.toInt < 20 + mTy.toInt) ∨ t.toInt = 30)) ∧ (-1) = rm ∧ mTo = nTo ∧ mTm = nTm) ∨ ((((0 ≤ t.toInt ∧ t.toInt < mTy.toInt) ∨ t.toInt = 10 ∨ (20 ≤ t.toInt ∧ t.toInt < 20 + mTy.toInt) ∨ t.toInt = 30) ∧ mTm.toInt = 3) ∧ (-2) = rm ∧ mTo = nTo ∧ mTm = nTm) ∨ ((((0 ≤ t.toInt ∧ t.toInt < mTy.toInt) ∨ t.toInt = 10 ∨ (20 ≤ t.toInt ∧ t.toInt < 20 + mTy.toInt) ∨ t.toInt = 30) ∧ mTm.toInt < 3) ∧ (mTm + 1) = rm ∧ upd mTo mTm.toNatClampNeg t = nTo ∧ mTm + 1 = nTm)) : rIv yTc xFc xRc xVc xLr xFl xTn xMn xSt xAb xVa xD1 xD2 xTl xOl xKn xPa xUp xAl xHa xNm xKi xAm xPl xKe yTo xFa xRe xVl xAr mTy mPa nTo nTm mMn mOt mNa mRe mMa mMy mPm mFn mFy mFa mFr mRn mFo mRt mRm mTn mTt mTi mPl mVn mVr mVf mVc mAr mLr mTc mTr mFl dyn ∧ rx = rm := by
  have e_r_tn := h.r_tn
  have e_r_tc := h.r_tc
  have e_r_to := h.r_to
  have e_r_mn := h.r_mn
  have e_r_fc := h.r_fc
  have e_r_rc := h.r_rc
  have e_r_tl := h.r_tl
  have e_r_ki := h.r_ki
  have e_r_am := h.r_am
  have e_r_pl := h.r_pl
  have e_r_vc := h.r_vc
  have e_r_ar := h.r_ar
  have e_r_lr := h.r_lr
  have e_r_fl := h.r_fl
  have e_r_kn := h.r_kn
  subst e_r_tn; subst e_r_tc; subst e_r_to; subst e_r_mn; subst e_r_fc; subst e_r_rc; subst e_r_tl; subst e_r_ki; subst e_r_am; subst e_r_pl; subst e_r_vc; subst e_r_ar; subst e_r_lr; subst e_r_fl; subst e_r_kn
  have w1 := hm.ity
  have w2 := hm.itm
  have w3 := hm.imn
  have w4 := hm.ifn
  have w5 := hm.irn
  have w6 := hm.itn
  have w7 := hm.ivn
  have w8 := hm.itr
  have hp : xPm xUp t ↔ ((0 ≤ t.toInt ∧ t.toInt < mTy.toInt) ∨ t.toInt = 10 ∨ (20 ≤ t.toInt ∧ t.toInt < 20 + mTy.toInt) ∨ t.toInt = 30) := by
    unfold xPm
    rw [h.r_mm.1.1 t]
    unfold anyT
    constructor <;> intro w <;> omega
  simp only [hp] at aa
  rcases bb with bb | bb | bb
  · obtain ⟨u0, ff0, ff1, ff2⟩ := bb
    rcases aa with aa | aa | aa
    · obtain ⟨q0, ee0, ee1, ee2⟩ := aa
      subst ee0 ee1 ee2 ff0 ff1 ff2
      exact ⟨h, rfl⟩
    · obtain ⟨q0, q1, ee0, ee1, ee2⟩ := aa
      subst ee0 ee1 ee2 ff0 ff1 ff2
      exfalso; omega
    · obtain ⟨q0, q1, ee0, ee1, ee2⟩ := aa
      subst ee0 ee1 ee2 ff0 ff1 ff2
      exfalso; omega
  · obtain ⟨u0, ff0, ff1, ff2⟩ := bb
    rcases aa with aa | aa | aa
    · obtain ⟨q0, ee0, ee1, ee2⟩ := aa
      subst ee0 ee1 ee2 ff0 ff1 ff2
      exfalso; omega
    · obtain ⟨q0, q1, ee0, ee1, ee2⟩ := aa
      subst ee0 ee1 ee2 ff0 ff1 ff2
      exact ⟨h, rfl⟩
    · obtain ⟨q0, q1, ee0, ee1, ee2⟩ := aa
      subst ee0 ee1 ee2 ff0 ff1 ff2
      exfalso; omega
  · obtain ⟨u0, ff0, ff1, ff2⟩ := bb
    rcases aa with aa | aa | aa
    · obtain ⟨q0, ee0, ee1, ee2⟩ := aa
      subst ee0 ee1 ee2 ff0 ff1 ff2
      exfalso; omega
    · obtain ⟨q0, q1, ee0, ee1, ee2⟩ := aa
      subst ee0 ee1 ee2 ff0 ff1 ff2
      exfalso; omega
    · obtain ⟨q0, q1, ee0, ee1, ee2⟩ := aa
      subst ee0 ee1 ee2 ff0 ff1 ff2
      exact ⟨(rIv.mk (r_tn := h.r_tn) (r_tc := rfl) (r_to := rfl) (r_mn := h.r_mn) (r_fc := h.r_fc) (r_rc := h.r_rc) (r_tl := h.r_tl) (r_ki := h.r_ki) (r_am := h.r_am) (r_pl := h.r_pl) (r_vc := h.r_vc) (r_ar := h.r_ar) (r_lr := h.r_lr) (r_fl := h.r_fl) (r_kn := h.r_kn) (r_mm := h.r_mm) (r_ot := h.r_ot) (r_al := h.r_al) (r_fa := h.r_fa) (r_fr := h.r_fr) (r_re := h.r_re) (r_rf := h.r_rf) (r_kd := h.r_kd) (r_vl := h.r_vl) (r_ol := h.r_ol) (r_ke := h.r_ke) (r_d1 := h.r_d1) (r_d2 := h.r_d2)), rfl⟩
set_option maxRecDepth 100000 in
set_option maxHeartbeats 4000000 in
theorem pr_arg {xTc : Int32} {xFc : Int32} {xRc : Int32} {xVc : Int32} {xLr : Int32} {xFl : Int32} {xTn : Int32} {xMn : Int32} {xSt : Int64} {xAb : Int64} {xVa : Int64} {xD1 : Value} {xD2 : Value} {xTl : Int32} {xOl : Int32} {xKn : Int32} {xPa : Nat → Int32} {xUp : Nat → Int32} {xAl : Nat → Option Nat} {xHa : Nat → Int64} {xNm : Nat → Int64} {xKi : Nat → Int32} {xAm : Nat → Int32} {xPl : Nat → Int32} {xKe : Nat → Int32} {xTo : Nat → Int32} {xFa : Nat → Option Nat} {xRe : Nat → Option Nat} {xVl : Nat → Option Nat} {xAr : Nat → Int32} {mTy : Int32} {mPa : Nat → Int32} {mTo : Nat → Int32} {mTm : Int32} {mMn : Int32} {mOt : Nat → Int32} {mNa : Nat → Int32} {mRe : Nat → Int32} {mMa : Nat → Int32} {mMy : Nat → Int32} {mPm : Nat → Int32} {mFn : Int32} {mFy : Nat → Int32} {mFa : Nat → Int32} {mFr : Nat → Int32} {mRn : Int32} {mFo : Nat → Int32} {mRt : Nat → Int32} {mRm : Nat → Int32} {mTn : Int32} {mTt : Nat → Int32} {mTi : Nat → Int32} {mPl : Nat → Int32} {mVn : Int32} {mVr : Nat → Int32} {mVf : Nat → Int32} {mVc : Nat → Int32} {mAr : Nat → Int32} {mLr : Int32} {mTc : Nat → Int32} {mTr : Int32} {mFl : Int32} {dyn : pm_H} {yAr : Nat → Int32} {nAr : Nat → Int32} {i : Int32} {v : Int32} {rx : Int32} {rm : Int32}  (hm : mIv mTy mPa mTo mTm mMn mOt mNa mRe mMa mMy mPm mFn mFy mFa mFr mRn mFo mRt mRm mTn mTt mTi mVn mVr mVf mVc mTr) (hn : mIv mTy mPa mTo mTm mMn mOt mNa mRe mMa mMy mPm mFn mFy mFa mFr mRn mFo mRt mRm mTn mTt mTi mVn mVr mVf mVc mTr) (h : rIv xTc xFc xRc xVc xLr xFl xTn xMn xSt xAb xVa xD1 xD2 xTl xOl xKn xPa xUp xAl xHa xNm xKi xAm xPl xKe xTo xFa xRe xVl xAr mTy mPa mTo mTm mMn mOt mNa mRe mMa mMy mPm mFn mFy mFa mFr mRn mFo mRt mRm mTn mTt mTi mPl mVn mVr mVf mVc mAr mLr mTc mTr mFl dyn) (aa : ((¬ (0 ≤ i.toInt ∧ i.toInt < 3)) ∧ (-1) = rx ∧ xAr = yAr) ∨ ((0 ≤ i.toInt ∧ i.toInt < 3) ∧ 1 = rx ∧ upd xAr i.toNatClampNeg v = yAr)) (bb : (((i.toInt < 0 ∨ 2 < i.toInt)) ∧ (-1) = rm ∧ mAr = nAr) ∨ ((0 ≤ i.toInt ∧ i.toInt ≤ 2) ∧ 1 = rm ∧ upd mAr i.toNatClampNeg v = nAr)) : rIv xTc xFc xRc xVc xLr xFl xTn xMn xSt xAb xVa xD1 xD2 xTl xOl xKn xPa xUp xAl xHa xNm xKi xAm xPl xKe xTo xFa xRe xVl yAr mTy mPa mTo mTm mMn mOt mNa mRe mMa mMy mPm mFn mFy mFa mFr mRn mFo mRt mRm mTn mTt mTi mPl mVn mVr mVf mVc nAr mLr mTc mTr mFl dyn ∧ rx = rm := by
  have e_r_tn := h.r_tn
  have e_r_tc := h.r_tc
  have e_r_to := h.r_to
  have e_r_mn := h.r_mn
  have e_r_fc := h.r_fc
  have e_r_rc := h.r_rc
  have e_r_tl := h.r_tl
  have e_r_ki := h.r_ki
  have e_r_am := h.r_am
  have e_r_pl := h.r_pl
  have e_r_vc := h.r_vc
  have e_r_ar := h.r_ar
  have e_r_lr := h.r_lr
  have e_r_fl := h.r_fl
  have e_r_kn := h.r_kn
  subst e_r_tn; subst e_r_tc; subst e_r_to; subst e_r_mn; subst e_r_fc; subst e_r_rc; subst e_r_tl; subst e_r_ki; subst e_r_am; subst e_r_pl; subst e_r_vc; subst e_r_ar; subst e_r_lr; subst e_r_fl; subst e_r_kn
  rcases bb with bb | bb
  · obtain ⟨u0, ff0, ff1⟩ := bb
    rcases aa with aa | aa
    · obtain ⟨q0, ee0, ee1⟩ := aa
      subst ee0 ee1 ff0 ff1
      exact ⟨h, rfl⟩
    · obtain ⟨q0, ee0, ee1⟩ := aa
      subst ee0 ee1 ff0 ff1
      exfalso; omega
  · obtain ⟨u0, ff0, ff1⟩ := bb
    rcases aa with aa | aa
    · obtain ⟨q0, ee0, ee1⟩ := aa
      subst ee0 ee1 ff0 ff1
      exfalso; omega
    · obtain ⟨q0, ee0, ee1⟩ := aa
      subst ee0 ee1 ff0 ff1
      exact ⟨(rIv.mk (r_tn := h.r_tn) (r_tc := h.r_tc) (r_to := h.r_to) (r_mn := h.r_mn) (r_fc := h.r_fc) (r_rc := h.r_rc) (r_tl := h.r_tl) (r_ki := h.r_ki) (r_am := h.r_am) (r_pl := h.r_pl) (r_vc := h.r_vc) (r_ar := rfl) (r_lr := h.r_lr) (r_fl := h.r_fl) (r_kn := h.r_kn) (r_mm := h.r_mm) (r_ot := h.r_ot) (r_al := h.r_al) (r_fa := h.r_fa) (r_fr := h.r_fr) (r_re := h.r_re) (r_rf := h.r_rf) (r_kd := h.r_kd) (r_vl := h.r_vl) (r_ol := h.r_ol) (r_ke := h.r_ke) (r_d1 := h.r_d1) (r_d2 := h.r_d2)), rfl⟩
set_option maxRecDepth 100000 in
set_option maxHeartbeats 4000000 in
theorem pr_result {xTc : Int32} {xFc : Int32} {xRc : Int32} {xVc : Int32} {xLr : Int32} {xFl : Int32} {xTn : Int32} {xMn : Int32} {xSt : Int64} {xAb : Int64} {xVa : Int64} {xD1 : Value} {xD2 : Value} {xTl : Int32} {xOl : Int32} {xKn : Int32} {xPa : Nat → Int32} {xUp : Nat → Int32} {xAl : Nat → Option Nat} {xHa : Nat → Int64} {xNm : Nat → Int64} {xKi : Nat → Int32} {xAm : Nat → Int32} {xPl : Nat → Int32} {xKe : Nat → Int32} {xTo : Nat → Int32} {xFa : Nat → Option Nat} {xRe : Nat → Option Nat} {xVl : Nat → Option Nat} {xAr : Nat → Int32} {mTy : Int32} {mPa : Nat → Int32} {mTo : Nat → Int32} {mTm : Int32} {mMn : Int32} {mOt : Nat → Int32} {mNa : Nat → Int32} {mRe : Nat → Int32} {mMa : Nat → Int32} {mMy : Nat → Int32} {mPm : Nat → Int32} {mFn : Int32} {mFy : Nat → Int32} {mFa : Nat → Int32} {mFr : Nat → Int32} {mRn : Int32} {mFo : Nat → Int32} {mRt : Nat → Int32} {mRm : Nat → Int32} {mTn : Int32} {mTt : Nat → Int32} {mTi : Nat → Int32} {mPl : Nat → Int32} {mVn : Int32} {mVr : Nat → Int32} {mVf : Nat → Int32} {mVc : Nat → Int32} {mAr : Nat → Int32} {mLr : Int32} {mTc : Nat → Int32} {mTr : Int32} {mFl : Int32} {dyn : pm_H} {rx : Int32} {rm : Int32}  (hm : mIv mTy mPa mTo mTm mMn mOt mNa mRe mMa mMy mPm mFn mFy mFa mFr mRn mFo mRt mRm mTn mTt mTi mVn mVr mVf mVc mTr) (hn : mIv mTy mPa mTo mTm mMn mOt mNa mRe mMa mMy mPm mFn mFy mFa mFr mRn mFo mRt mRm mTn mTt mTi mVn mVr mVf mVc mTr) (h : rIv xTc xFc xRc xVc xLr xFl xTn xMn xSt xAb xVa xD1 xD2 xTl xOl xKn xPa xUp xAl xHa xNm xKi xAm xPl xKe xTo xFa xRe xVl xAr mTy mPa mTo mTm mMn mOt mNa mRe mMa mMy mPm mFn mFy mFa mFr mRn mFo mRt mRm mTn mTt mTi mPl mVn mVr mVf mVc mAr mLr mTc mTr mFl dyn) (aa : (xLr = rx)) (bb : (mLr = rm)) : rIv xTc xFc xRc xVc xLr xFl xTn xMn xSt xAb xVa xD1 xD2 xTl xOl xKn xPa xUp xAl xHa xNm xKi xAm xPl xKe xTo xFa xRe xVl xAr mTy mPa mTo mTm mMn mOt mNa mRe mMa mMy mPm mFn mFy mFa mFr mRn mFo mRt mRm mTn mTt mTi mPl mVn mVr mVf mVc mAr mLr mTc mTr mFl dyn ∧ rx = rm := by
  have e_r_tn := h.r_tn
  have e_r_tc := h.r_tc
  have e_r_to := h.r_to
  have e_r_mn := h.r_mn
  have e_r_fc := h.r_fc
  have e_r_rc := h.r_rc
  have e_r_tl := h.r_tl
  have e_r_ki := h.r_ki
  have e_r_am := h.r_am
  have e_r_pl := h.r_pl
  have e_r_vc := h.r_vc
  have e_r_ar := h.r_ar
  have e_r_lr := h.r_lr
  have e_r_fl := h.r_fl
  have e_r_kn := h.r_kn
  subst e_r_tn; subst e_r_tc; subst e_r_to; subst e_r_mn; subst e_r_fc; subst e_r_rc; subst e_r_tl; subst e_r_ki; subst e_r_am; subst e_r_pl; subst e_r_vc; subst e_r_ar; subst e_r_lr; subst e_r_fl; subst e_r_kn
  rcases bb with bb
  · have ff0 := bb
    rcases aa with aa
    · have ee0 := aa
      subst ee0 ff0
      exact ⟨h, rfl⟩
set_option maxRecDepth 100000 in
set_option maxHeartbeats 4000000 in
theorem pr_count {xTc : Int32} {xFc : Int32} {xRc : Int32} {xVc : Int32} {xLr : Int32} {xFl : Int32} {xTn : Int32} {xMn : Int32} {xSt : Int64} {xAb : Int64} {xVa : Int64} {xD1 : Value} {xD2 : Value} {xTl : Int32} {xOl : Int32} {xKn : Int32} {xPa : Nat → Int32} {xUp : Nat → Int32} {xAl : Nat → Option Nat} {xHa : Nat → Int64} {xNm : Nat → Int64} {xKi : Nat → Int32} {xAm : Nat → Int32} {xPl : Nat → Int32} {xKe : Nat → Int32} {xTo : Nat → Int32} {xFa : Nat → Option Nat} {xRe : Nat → Option Nat} {xVl : Nat → Option Nat} {xAr : Nat → Int32} {mTy : Int32} {mPa : Nat → Int32} {mTo : Nat → Int32} {mTm : Int32} {mMn : Int32} {mOt : Nat → Int32} {mNa : Nat → Int32} {mRe : Nat → Int32} {mMa : Nat → Int32} {mMy : Nat → Int32} {mPm : Nat → Int32} {mFn : Int32} {mFy : Nat → Int32} {mFa : Nat → Int32} {mFr : Nat → Int32} {mRn : Int32} {mFo : Nat → Int32} {mRt : Nat → Int32} {mRm : Nat → Int32} {mTn : Int32} {mTt : Nat → Int32} {mTi : Nat → Int32} {mPl : Nat → Int32} {mVn : Int32} {mVr : Nat → Int32} {mVf : Nat → Int32} {mVc : Nat → Int32} {mAr : Nat → Int32} {mLr : Int32} {mTc : Nat → Int32} {mTr : Int32} {mFl : Int32} {dyn : pm_H} {wh : Int32} {rx : Int32} {rm : Int32}  (hm : mIv mTy mPa mTo mTm mMn mOt mNa mRe mMa mMy mPm mFn mFy mFa mFr mRn mFo mRt mRm mTn mTt mTi mVn mVr mVf mVc mTr) (hn : mIv mTy mPa mTo mTm mMn mOt mNa mRe mMa mMy mPm mFn mFy mFa mFr mRn mFo mRt mRm mTn mTt mTi mVn mVr mVf mVc mTr) (h : rIv xTc xFc xRc xVc xLr xFl xTn xMn xSt xAb xVa xD1 xD2 xTl xOl xKn xPa xUp xAl xHa xNm xKi xAm xPl xKe xTo xFa xRe xVl xAr mTy mPa mTo mTm mMn mOt mNa mRe mMa mMy mPm mFn mFy mFa mFr mRn mFo mRt mRm mTn mTt mTi mPl mVn mVr mVf mVc mAr mLr mTc mTr mFl dyn) (aa : ((wh.toInt = 0) ∧ xTn = rx) ∨ ((wh.toInt = 1) ∧ xMn = rx) ∨ ((wh.toInt = 2) ∧ xFc = rx) ∨ ((wh.toInt = 3) ∧ xRc = rx) ∨ ((wh.toInt = 4) ∧ xTl = rx) ∨ ((wh.toInt = 5) ∧ xVc = rx) ∨ ((wh.toInt = 6) ∧ xFl = rx) ∨ ((wh.toInt < 0 ∨ 6 < wh.toInt) ∧ (-1) = rx)) (bb : ((wh.toInt = 0) ∧ mTy = rm) ∨ ((wh.toInt = 1) ∧ mMn = rm) ∨ ((wh.toInt = 2) ∧ mFn = rm) ∨ ((wh.toInt = 3) ∧ mRn = rm) ∨ ((wh.toInt = 4) ∧ mTn = rm) ∨ ((wh.toInt = 5) ∧ mVn = rm) ∨ ((wh.toInt = 6) ∧ mFl = rm) ∨ (((wh.toInt < 0 ∨ 6 < wh.toInt)) ∧ (-1) = rm)) : rIv xTc xFc xRc xVc xLr xFl xTn xMn xSt xAb xVa xD1 xD2 xTl xOl xKn xPa xUp xAl xHa xNm xKi xAm xPl xKe xTo xFa xRe xVl xAr mTy mPa mTo mTm mMn mOt mNa mRe mMa mMy mPm mFn mFy mFa mFr mRn mFo mRt mRm mTn mTt mTi mPl mVn mVr mVf mVc mAr mLr mTc mTr mFl dyn ∧ rx = rm := by
  have e_r_tn := h.r_tn
  have e_r_tc := h.r_tc
  have e_r_to := h.r_to
  have e_r_mn := h.r_mn
  have e_r_fc := h.r_fc
  have e_r_rc := h.r_rc
  have e_r_tl := h.r_tl
  have e_r_ki := h.r_ki
  have e_r_am := h.r_am
  have e_r_pl := h.r_pl
  have e_r_vc := h.r_vc
  have e_r_ar := h.r_ar
  have e_r_lr := h.r_lr
  have e_r_fl := h.r_fl
  have e_r_kn := h.r_kn
  subst e_r_tn; subst e_r_tc; subst e_r_to; subst e_r_mn; subst e_r_fc; subst e_r_rc; subst e_r_tl; subst e_r_ki; subst e_r_am; subst e_r_pl; subst e_r_vc; subst e_r_ar; subst e_r_lr; subst e_r_fl; subst e_r_kn
  rcases bb with bb | bb | bb | bb | bb | bb | bb | bb
  · obtain ⟨u0, ff0⟩ := bb
    rcases aa with aa | aa | aa | aa | aa | aa | aa | aa
    · obtain ⟨q0, ee0⟩ := aa
      subst ee0 ff0
      exact ⟨h, rfl⟩
    · obtain ⟨q0, ee0⟩ := aa
      subst ee0 ff0
      exfalso; omega
    · obtain ⟨q0, ee0⟩ := aa
      subst ee0 ff0
      exfalso; omega
    · obtain ⟨q0, ee0⟩ := aa
      subst ee0 ff0
      exfalso; omega
    · obtain ⟨q0, ee0⟩ := aa
      subst ee0 ff0
      exfalso; omega
    · obtain ⟨q0, ee0⟩ := aa
      subst ee0 ff0
      exfalso; omega
    · obtain ⟨q0, ee0⟩ := aa
      subst ee0 ff0
      exfalso; omega
    · obtain ⟨q0, ee0⟩ := aa
      subst ee0 ff0
      exfalso; omega
  · obtain ⟨u0, ff0⟩ := bb
    rcases aa with aa | aa | aa | aa | aa | aa | aa | aa
    · obtain ⟨q0, ee0⟩ := aa
      subst ee0 ff0
      exfalso; omega
    · obtain ⟨q0, ee0⟩ := aa
      subst ee0 ff0
      exact ⟨h, rfl⟩
    · obtain ⟨q0, ee0⟩ := aa
      subst ee0 ff0
      exfalso; omega
    · obtain ⟨q0, ee0⟩ := aa
      subst ee0 ff0
      exfalso; omega
    · obtain ⟨q0, ee0⟩ := aa
      subst ee0 ff0
      exfalso; omega
    · obtain ⟨q0, ee0⟩ := aa
      subst ee0 ff0
      exfalso; omega
    · obtain ⟨q0, ee0⟩ := aa
      subst ee0 ff0
      exfalso; omega
    · obtain ⟨q0, ee0⟩ := aa
      subst ee0 ff0
      exfalso; omega
  · obtain ⟨u0, ff0⟩ := bb
    rcases aa with aa | aa | aa | aa | aa | aa | aa | aa
    · obtain ⟨q0, ee0⟩ := aa
      subst ee0 ff0
      exfalso; omega
    · obtain ⟨q0, ee0⟩ := aa
      subst ee0 ff0
      exfalso; omega
    · obtain ⟨q0, ee0⟩ := aa
      subst ee0 ff0
      exact ⟨h, rfl⟩
    · obtain ⟨q0, ee0⟩ := aa
      subst ee0 ff0
      exfalso; omega
    · obtain ⟨q0, ee0⟩ := aa
      subst ee0 ff0
      exfalso; omega
    · obtain ⟨q0, ee0⟩ := aa
      subst ee0 ff0
      exfalso; omega
    · obtain ⟨q0, ee0⟩ := aa
      subst ee0 ff0
      exfalso; omega
    · obtain ⟨q0, ee0⟩ := aa
      subst ee0 ff0
      exfalso; omega
  · obtain ⟨u0, ff0⟩ := bb
    rcases aa with aa | aa | aa | aa | aa | aa | aa | aa
    · obtain ⟨q0, ee0⟩ := aa
      subst ee0 ff0
      exfalso; omega
    · obtain ⟨q0, ee0⟩ := aa
      subst ee0 ff0
      exfalso; omega
    · obtain ⟨q0, ee0⟩ := aa
      subst ee0 ff0
      exfalso; omega
    · obtain ⟨q0, ee0⟩ := aa
      subst ee0 ff0
      exact ⟨h, rfl⟩
    · obtain ⟨q0, ee0⟩ := aa
      subst ee0 ff0
      exfalso; omega
    · obtain ⟨q0, ee0⟩ := aa
      subst ee0 ff0
      exfalso; omega
    · obtain ⟨q0, ee0⟩ := aa
      subst ee0 ff0
      exfalso; omega
    · obtain ⟨q0, ee0⟩ := aa
      subst ee0 ff0
      exfalso; omega
  · obtain ⟨u0, ff0⟩ := bb
    rcases aa with aa | aa | aa | aa | aa | aa | aa | aa
    · obtain ⟨q0, ee0⟩ := aa
      subst ee0 ff0
      exfalso; omega
    · obtain ⟨q0, ee0⟩ := aa
      subst ee0 ff0
      exfalso; omega
    · obtain ⟨q0, ee0⟩ := aa
      subst ee0 ff0
      exfalso; omega
    · obtain ⟨q0, ee0⟩ := aa
      subst ee0 ff0
      exfalso; omega
    · obtain ⟨q0, ee0⟩ := aa
      subst ee0 ff0
      exact ⟨h, rfl⟩
    · obtain ⟨q0, ee0⟩ := aa
      subst ee0 ff0
      exfalso; omega
    · obtain ⟨q0, ee0⟩ := aa
      subst ee0 ff0
      exfalso; omega
    · obtain ⟨q0, ee0⟩ := aa
      subst ee0 ff0
      exfalso; omega
  · obtain ⟨u0, ff0⟩ := bb
    rcases aa with aa | aa | aa | aa | aa | aa | aa | aa
    · obtain ⟨q0, ee0⟩ := aa
      subst ee0 ff0
      exfalso; omega
    · obtain ⟨q0, ee0⟩ := aa
      subst ee0 ff0
      exfalso; omega
    · obtain ⟨q0, ee0⟩ := aa
      subst ee0 ff0
      exfalso; omega
    · obtain ⟨q0, ee0⟩ := aa
      subst ee0 ff0
      exfalso; omega
    · obtain ⟨q0, ee0⟩ := aa
      subst ee0 ff0
      exfalso; omega
    · obtain ⟨q0, ee0⟩ := aa
      subst ee0 ff0
      exact ⟨h, rfl⟩
    · obtain ⟨q0, ee0⟩ := aa
      subst ee0 ff0
      exfalso; omega
    · obtain ⟨q0, ee0⟩ := aa
      subst ee0 ff0
      exfalso; omega
  · obtain ⟨u0, ff0⟩ := bb
    rcases aa with aa | aa | aa | aa | aa | aa | aa | aa
    · obtain ⟨q0, ee0⟩ := aa
      subst ee0 ff0
      exfalso; omega
    · obtain ⟨q0, ee0⟩ := aa
      subst ee0 ff0
      exfalso; omega
    · obtain ⟨q0, ee0⟩ := aa
      subst ee0 ff0
      exfalso; omega
    · obtain ⟨q0, ee0⟩ := aa
      subst ee0 ff0
      exfalso; omega
    · obtain ⟨q0, ee0⟩ := aa
      subst ee0 ff0
      exfalso; omega
    · obtain ⟨q0, ee0⟩ := aa
      subst ee0 ff0
      exfalso; omega
    · obtain ⟨q0, ee0⟩ := aa
      subst ee0 ff0
      exact ⟨h, rfl⟩
    · obtain ⟨q0, ee0⟩ := aa
      subst ee0 ff0
      exfalso; omega
  · obtain ⟨u0, ff0⟩ := bb
    rcases aa with aa | aa | aa | aa | aa | aa | aa | aa
    · obtain ⟨q0, ee0⟩ := aa
      subst ee0 ff0
      exfalso; omega
    · obtain ⟨q0, ee0⟩ := aa
      subst ee0 ff0
      exfalso; omega
    · obtain ⟨q0, ee0⟩ := aa
      subst ee0 ff0
      exfalso; omega
    · obtain ⟨q0, ee0⟩ := aa
      subst ee0 ff0
      exfalso; omega
    · obtain ⟨q0, ee0⟩ := aa
      subst ee0 ff0
      exfalso; omega
    · obtain ⟨q0, ee0⟩ := aa
      subst ee0 ff0
      exfalso; omega
    · obtain ⟨q0, ee0⟩ := aa
      subst ee0 ff0
      exfalso; omega
    · obtain ⟨q0, ee0⟩ := aa
      subst ee0 ff0
      exact ⟨h, rfl⟩
set_option maxRecDepth 100000 in
set_option maxHeartbeats 4000000 in
theorem pr_of {xTc : Int32} {xFc : Int32} {xRc : Int32} {xVc : Int32} {xLr : Int32} {xFl : Int32} {xTn : Int32} {xMn : Int32} {xSt : Int64} {xAb : Int64} {xVa : Int64} {xD1 : Value} {xD2 : Value} {xTl : Int32} {xOl : Int32} {xKn : Int32} {xPa : Nat → Int32} {xUp : Nat → Int32} {xAl : Nat → Option Nat} {xHa : Nat → Int64} {xNm : Nat → Int64} {xKi : Nat → Int32} {xAm : Nat → Int32} {xPl : Nat → Int32} {xKe : Nat → Int32} {xTo : Nat → Int32} {xFa : Nat → Option Nat} {xRe : Nat → Option Nat} {xVl : Nat → Option Nat} {xAr : Nat → Int32} {mTy : Int32} {mPa : Nat → Int32} {mTo : Nat → Int32} {mTm : Int32} {mMn : Int32} {mOt : Nat → Int32} {mNa : Nat → Int32} {mRe : Nat → Int32} {mMa : Nat → Int32} {mMy : Nat → Int32} {mPm : Nat → Int32} {mFn : Int32} {mFy : Nat → Int32} {mFa : Nat → Int32} {mFr : Nat → Int32} {mRn : Int32} {mFo : Nat → Int32} {mRt : Nat → Int32} {mRm : Nat → Int32} {mTn : Int32} {mTt : Nat → Int32} {mTi : Nat → Int32} {mPl : Nat → Int32} {mVn : Int32} {mVr : Nat → Int32} {mVf : Nat → Int32} {mVc : Nat → Int32} {mAr : Nat → Int32} {mLr : Int32} {mTc : Nat → Int32} {mTr : Int32} {mFl : Int32} {dyn : pm_H} {v : Int32} {wh : Int32} {rx : Int32} {rm : Int32}  (hm : mIv mTy mPa mTo mTm mMn mOt mNa mRe mMa mMy mPm mFn mFy mFa mFr mRn mFo mRt mRm mTn mTt mTi mVn mVr mVf mVc mTr) (hn : mIv mTy mPa mTo mTm mMn mOt mNa mRe mMa mMy mPm mFn mFy mFa mFr mRn mFo mRt mRm mTn mTt mTi mVn mVr mVf mVc mTr) (h : rIv xTc xFc xRc xVc xLr xFl xTn xMn xSt xAb xVa xD1 xD2 xTl xOl xKn xPa xUp xAl xHa xNm xKi xAm xPl xKe xTo xFa xRe xVl xAr mTy mPa mTo mTm mMn mOt mNa mRe mMa mMy mPm mFn mFy mFa mFr mRn mFo mRt mRm mTn mTt mTi mPl mVn mVr mVf mVc mAr mLr mTc mTr mFl dyn) (aa : ((¬ ((1 ≤ v.toInt ∧ v.toInt ≤ xTl.toInt) ∧ 0 ≤ wh.toInt ∧ wh.toInt ≤ 1)) ∧ (-1) = rx) ∨ ((((1 ≤ v.toInt ∧ v.toInt ≤ xTl.toInt) ∧ 0 ≤ wh.toInt ∧ wh.toInt ≤ 1) ∧ wh.toInt = 0) ∧ (xKi v.toNatClampNeg) = rx) ∨ ((((1 ≤ v.toInt ∧ v.toInt ≤ xTl.toInt) ∧ 0 ≤ wh.toInt ∧ wh.toInt ≤ 1) ∧ wh.toInt ≠ 0) ∧ (xAm v.toNatClampNeg) = rx)) (bb : (((v.toInt < 1 ∨ mTn.toInt < v.toInt ∨ wh.toInt < 0 ∨ 1 < wh.toInt)) ∧ (-1) = rm) ∨ (((1 ≤ v.toInt ∧ v.toInt ≤ mTn.toInt) ∧ wh.toInt = 0) ∧ (mTt v.toNatClampNeg) = rm) ∨ (((1 ≤ v.toInt ∧ v.toInt ≤ mTn.toInt) ∧ wh.toInt = 1) ∧ (mTi v.toNatClampNeg) = rm)) : rIv xTc xFc xRc xVc xLr xFl xTn xMn xSt xAb xVa xD1 xD2 xTl xOl xKn xPa xUp xAl xHa xNm xKi xAm xPl xKe xTo xFa xRe xVl xAr mTy mPa mTo mTm mMn mOt mNa mRe mMa mMy mPm mFn mFy mFa mFr mRn mFo mRt mRm mTn mTt mTi mPl mVn mVr mVf mVc mAr mLr mTc mTr mFl dyn ∧ rx = rm := by
  have e_r_tn := h.r_tn
  have e_r_tc := h.r_tc
  have e_r_to := h.r_to
  have e_r_mn := h.r_mn
  have e_r_fc := h.r_fc
  have e_r_rc := h.r_rc
  have e_r_tl := h.r_tl
  have e_r_ki := h.r_ki
  have e_r_am := h.r_am
  have e_r_pl := h.r_pl
  have e_r_vc := h.r_vc
  have e_r_ar := h.r_ar
  have e_r_lr := h.r_lr
  have e_r_fl := h.r_fl
  have e_r_kn := h.r_kn
  subst e_r_tn; subst e_r_tc; subst e_r_to; subst e_r_mn; subst e_r_fc; subst e_r_rc; subst e_r_tl; subst e_r_ki; subst e_r_am; subst e_r_pl; subst e_r_vc; subst e_r_ar; subst e_r_lr; subst e_r_fl; subst e_r_kn
  have w1 := hm.ity
  have w2 := hm.itm
  have w3 := hm.imn
  have w4 := hm.ifn
  have w5 := hm.irn
  have w6 := hm.itn
  have w7 := hm.ivn
  have w8 := hm.itr
  rcases bb with bb | bb | bb
  · obtain ⟨u0, ff0⟩ := bb
    rcases aa with aa | aa | aa
    · obtain ⟨q0, ee0⟩ := aa
      subst ee0 ff0
      exact ⟨h, rfl⟩
    · obtain ⟨q0, ee0⟩ := aa
      subst ee0 ff0
      exfalso; omega
    · obtain ⟨q0, ee0⟩ := aa
      subst ee0 ff0
      exfalso; omega
  · obtain ⟨u0, ff0⟩ := bb
    rcases aa with aa | aa | aa
    · obtain ⟨q0, ee0⟩ := aa
      subst ee0 ff0
      exfalso; omega
    · obtain ⟨q0, ee0⟩ := aa
      subst ee0 ff0
      exact ⟨h, rfl⟩
    · obtain ⟨q0, ee0⟩ := aa
      subst ee0 ff0
      exfalso; omega
  · obtain ⟨u0, ff0⟩ := bb
    rcases aa with aa | aa | aa
    · obtain ⟨q0, ee0⟩ := aa
      subst ee0 ff0
      exfalso; omega
    · obtain ⟨q0, ee0⟩ := aa
      subst ee0 ff0
      exfalso; omega
    · obtain ⟨q0, ee0⟩ := aa
      subst ee0 ff0
      exact ⟨h, rfl⟩
set_option maxRecDepth 100000 in
set_option maxHeartbeats 4000000 in
theorem pr_open {xTc : Int32} {xFc : Int32} {xRc : Int32} {xVc : Int32} {xLr : Int32} {xFl : Int32} {xTn : Int32} {xMn : Int32} {xSt : Int64} {xAb : Int64} {xVa : Int64} {xD1 : Value} {xD2 : Value} {xTl : Int32} {xOl : Int32} {xKn : Int32} {xPa : Nat → Int32} {xUp : Nat → Int32} {xAl : Nat → Option Nat} {xHa : Nat → Int64} {xNm : Nat → Int64} {xKi : Nat → Int32} {xAm : Nat → Int32} {xPl : Nat → Int32} {xKe : Nat → Int32} {xTo : Nat → Int32} {xFa : Nat → Option Nat} {xRe : Nat → Option Nat} {xVl : Nat → Option Nat} {xAr : Nat → Int32} {mTy : Int32} {mPa : Nat → Int32} {mTo : Nat → Int32} {mTm : Int32} {mMn : Int32} {mOt : Nat → Int32} {mNa : Nat → Int32} {mRe : Nat → Int32} {mMa : Nat → Int32} {mMy : Nat → Int32} {mPm : Nat → Int32} {mFn : Int32} {mFy : Nat → Int32} {mFa : Nat → Int32} {mFr : Nat → Int32} {mRn : Int32} {mFo : Nat → Int32} {mRt : Nat → Int32} {mRm : Nat → Int32} {mTn : Int32} {mTt : Nat → Int32} {mTi : Nat → Int32} {mPl : Nat → Int32} {mVn : Int32} {mVr : Nat → Int32} {mVf : Nat → Int32} {mVc : Nat → Int32} {mAr : Nat → Int32} {mLr : Int32} {mTc : Nat → Int32} {mTr : Int32} {mFl : Int32} {dyn : pm_H} {t : Int32} {rx : Int32} {rm : Int32}  (hm : mIv mTy mPa mTo mTm mMn mOt mNa mRe mMa mMy mPm mFn mFy mFa mFr mRn mFo mRt mRm mTn mTt mTi mVn mVr mVf mVc mTr) (hn : mIv mTy mPa mTo mTm mMn mOt mNa mRe mMa mMy mPm mFn mFy mFa mFr mRn mFo mRt mRm mTn mTt mTi mVn mVr mVf mVc mTr) (h : rIv xTc xFc xRc xVc xLr xFl xTn xMn xSt xAb xVa xD1 xD2 xTl xOl xKn xPa xUp xAl xHa xNm xKi xAm xPl xKe xTo xFa xRe xVl xAr mTy mPa mTo mTm mMn mOt mNa mRe mMa mMy mPm mFn mFy mFa mFr mRn mFo mRt mRm mTn mTt mTi mPl mVn mVr mVf mVc mAr mLr mTc mTr mFl dyn) (aa : ((¬ (0 ≤ t.toInt ∧ t.toInt < xTn.toInt)) ∧ (-1) = rx) ∨ (((0 ≤ t.toInt ∧ t.toInt < xTn.toInt)) ∧ ((hbX xHa xNm t &&& xAb ≠ 0)) ∧ 1 = rx) ∨ (((0 ≤ t.toInt ∧ t.toInt < xTn.toInt)) ∧ (hbX xHa xNm t &&& xAb = 0) ∧ 0 = rx)) (bb : (((t.toInt < 0 ∨ mTy.toInt ≤ t.toInt)) ∧ (-1) = rm) ∨ (((0 ≤ t.toInt ∧ t.toInt < mTy.toInt) ∧ opL mPa mOt mNa mMy mPm mMa mMn t 0) ∧ 1 = rm) ∨ (((0 ≤ t.toInt ∧ t.toInt < mTy.toInt) ∧ ¬ opL mPa mOt mNa mMy mPm mMa mMn t 0) ∧ 0 = rm)) : rIv xTc xFc xRc xVc xLr xFl xTn xMn xSt xAb xVa xD1 xD2 xTl xOl xKn xPa xUp xAl xHa xNm xKi xAm xPl xKe xTo xFa xRe xVl xAr mTy mPa mTo mTm mMn mOt mNa mRe mMa mMy mPm mFn mFy mFa mFr mRn mFo mRt mRm mTn mTt mTi mPl mVn mVr mVf mVc mAr mLr mTc mTr mFl dyn ∧ rx = rm := by
  have e_r_tn := h.r_tn
  have e_r_tc := h.r_tc
  have e_r_to := h.r_to
  have e_r_mn := h.r_mn
  have e_r_fc := h.r_fc
  have e_r_rc := h.r_rc
  have e_r_tl := h.r_tl
  have e_r_ki := h.r_ki
  have e_r_am := h.r_am
  have e_r_pl := h.r_pl
  have e_r_vc := h.r_vc
  have e_r_ar := h.r_ar
  have e_r_lr := h.r_lr
  have e_r_fl := h.r_fl
  have e_r_kn := h.r_kn
  subst e_r_tn; subst e_r_tc; subst e_r_to; subst e_r_mn; subst e_r_fc; subst e_r_rc; subst e_r_tl; subst e_r_ki; subst e_r_am; subst e_r_pl; subst e_r_vc; subst e_r_ar; subst e_r_lr; subst e_r_fl; subst e_r_kn
  obtain ⟨hU, hd, hP, hS, hX, hK, hB, hH, hN, hSt, hAb, hVa⟩ := id h.r_mm
  have hop : (0 ≤ t.toInt ∧ t.toInt < mTy.toInt) → (hbX xHa xNm t &&& xAb ≠ 0 ↔ opL mPa mOt mNa mMy mPm mMa mMn t 0) := fun q => op_x hS.1 hS.2.1.2 hH hN hAb (Or.inl q)
  rcases bb with bb | bb | bb
  · obtain ⟨u0, ff0⟩ := bb
    rcases aa with aa | aa | aa
    · obtain ⟨q0, ee0⟩ := aa
      subst ee0 ff0
      exact ⟨h, rfl⟩
    · obtain ⟨q0, q1, ee0⟩ := aa
      subst ee0 ff0
      exfalso; omega
    · obtain ⟨q0, q1, ee0⟩ := aa
      subst ee0 ff0
      exfalso; omega
  · obtain ⟨u0, ff0⟩ := bb
    rcases aa with aa | aa | aa
    · obtain ⟨q0, ee0⟩ := aa
      subst ee0 ff0
      exfalso; omega
    · obtain ⟨q0, q1, ee0⟩ := aa
      subst ee0 ff0
      exact ⟨h, rfl⟩
    · obtain ⟨q0, q1, ee0⟩ := aa
      subst ee0 ff0
      exact absurd q1 ((hop q0).mpr u0.2)
  · obtain ⟨u0, ff0⟩ := bb
    rcases aa with aa | aa | aa
    · obtain ⟨q0, ee0⟩ := aa
      subst ee0 ff0
      exfalso; omega
    · obtain ⟨q0, q1, ee0⟩ := aa
      subst ee0 ff0
      exact absurd ((hop q0).mp q1) u0.2
    · obtain ⟨q0, q1, ee0⟩ := aa
      subst ee0 ff0
      exact ⟨h, rfl⟩
set_option maxRecDepth 100000 in
set_option maxHeartbeats 4000000 in
theorem pr_under {xTc : Int32} {xFc : Int32} {xRc : Int32} {xVc : Int32} {xLr : Int32} {xFl : Int32} {xTn : Int32} {xMn : Int32} {xSt : Int64} {xAb : Int64} {xVa : Int64} {xD1 : Value} {xD2 : Value} {xTl : Int32} {xOl : Int32} {xKn : Int32} {xPa : Nat → Int32} {xUp : Nat → Int32} {xAl : Nat → Option Nat} {xHa : Nat → Int64} {xNm : Nat → Int64} {xKi : Nat → Int32} {xAm : Nat → Int32} {xPl : Nat → Int32} {xKe : Nat → Int32} {xTo : Nat → Int32} {xFa : Nat → Option Nat} {xRe : Nat → Option Nat} {xVl : Nat → Option Nat} {xAr : Nat → Int32} {mTy : Int32} {mPa : Nat → Int32} {mTo : Nat → Int32} {mTm : Int32} {mMn : Int32} {mOt : Nat → Int32} {mNa : Nat → Int32} {mRe : Nat → Int32} {mMa : Nat → Int32} {mMy : Nat → Int32} {mPm : Nat → Int32} {mFn : Int32} {mFy : Nat → Int32} {mFa : Nat → Int32} {mFr : Nat → Int32} {mRn : Int32} {mFo : Nat → Int32} {mRt : Nat → Int32} {mRm : Nat → Int32} {mTn : Int32} {mTt : Nat → Int32} {mTi : Nat → Int32} {mPl : Nat → Int32} {mVn : Int32} {mVr : Nat → Int32} {mVf : Nat → Int32} {mVc : Nat → Int32} {mAr : Nat → Int32} {mLr : Int32} {mTc : Nat → Int32} {mTr : Int32} {mFl : Int32} {dyn : pm_H} {a : Int32} {b : Int32} {rx : Int32} {rm : Int32}  (hm : mIv mTy mPa mTo mTm mMn mOt mNa mRe mMa mMy mPm mFn mFy mFa mFr mRn mFo mRt mRm mTn mTt mTi mVn mVr mVf mVc mTr) (hn : mIv mTy mPa mTo mTm mMn mOt mNa mRe mMa mMy mPm mFn mFy mFa mFr mRn mFo mRt mRm mTn mTt mTi mVn mVr mVf mVc mTr) (h : rIv xTc xFc xRc xVc xLr xFl xTn xMn xSt xAb xVa xD1 xD2 xTl xOl xKn xPa xUp xAl xHa xNm xKi xAm xPl xKe xTo xFa xRe xVl xAr mTy mPa mTo mTm mMn mOt mNa mRe mMa mMy mPm mFn mFy mFa mFr mRn mFo mRt mRm mTn mTt mTi mPl mVn mVr mVf mVc mAr mLr mTc mTr mFl dyn) (aa : ((¬ (xA xUp a ∧ xA xUp b)) ∧ (-1) = rx) ∨ ((xA xUp a ∧ xA xUp b) ∧ (xU xUp a b) ∧ 1 = rx) ∨ ((xA xUp a ∧ xA xUp b) ∧ (¬ xU xUp a b) ∧ 0 = rx)) (bb : ((¬ (anyT mTy a ∧ anyT mTy b)) ∧ (-1) = rm) ∨ (((anyT mTy a ∧ anyT mTy b) ∧ uM mPa a b = true) ∧ 1 = rm) ∨ (((anyT mTy a ∧ anyT mTy b) ∧ uM mPa a b = false) ∧ 0 = rm)) : rIv xTc xFc xRc xVc xLr xFl xTn xMn xSt xAb xVa xD1 xD2 xTl xOl xKn xPa xUp xAl xHa xNm xKi xAm xPl xKe xTo xFa xRe xVl xAr mTy mPa mTo mTm mMn mOt mNa mRe mMa mMy mPm mFn mFy mFa mFr mRn mFo mRt mRm mTn mTt mTi mPl mVn mVr mVf mVc mAr mLr mTc mTr mFl dyn ∧ rx = rm := by
  have e_r_tn := h.r_tn
  have e_r_tc := h.r_tc
  have e_r_to := h.r_to
  have e_r_mn := h.r_mn
  have e_r_fc := h.r_fc
  have e_r_rc := h.r_rc
  have e_r_tl := h.r_tl
  have e_r_ki := h.r_ki
  have e_r_am := h.r_am
  have e_r_pl := h.r_pl
  have e_r_vc := h.r_vc
  have e_r_ar := h.r_ar
  have e_r_lr := h.r_lr
  have e_r_fl := h.r_fl
  have e_r_kn := h.r_kn
  subst e_r_tn; subst e_r_tc; subst e_r_to; subst e_r_mn; subst e_r_fc; subst e_r_rc; subst e_r_tl; subst e_r_ki; subst e_r_am; subst e_r_pl; subst e_r_vc; subst e_r_ar; subst e_r_lr; subst e_r_fl; subst e_r_kn
  have w1 := hm.ity
  have w2 := hm.itm
  have w3 := hm.imn
  have w4 := hm.ifn
  have w5 := hm.irn
  have w6 := hm.itn
  have w7 := hm.ivn
  have w8 := hm.itr
  rcases bb with bb | bb | bb
  · obtain ⟨u0, ff0⟩ := bb
    rcases aa with aa | aa | aa
    · obtain ⟨q0, ee0⟩ := aa
      subst ee0 ff0
      exact ⟨h, rfl⟩
    · obtain ⟨q0, q1, ee0⟩ := aa
      subst ee0 ff0
      exact absurd ⟨(h.r_mm.1.1 _).mp q0.1, (h.r_mm.1.1 _).mp q0.2⟩ u0
    · obtain ⟨q0, q1, ee0⟩ := aa
      subst ee0 ff0
      exact absurd ⟨(h.r_mm.1.1 _).mp q0.1, (h.r_mm.1.1 _).mp q0.2⟩ u0
  · obtain ⟨u0, ff0⟩ := bb
    rcases aa with aa | aa | aa
    · obtain ⟨q0, ee0⟩ := aa
      subst ee0 ff0
      exact absurd ⟨(h.r_mm.1.1 _).mpr u0.1.1, (h.r_mm.1.1 _).mpr u0.1.2⟩ q0
    · obtain ⟨q0, q1, ee0⟩ := aa
      subst ee0 ff0
      exact ⟨h, rfl⟩
    · obtain ⟨q0, q1, ee0⟩ := aa
      subst ee0 ff0
      exact absurd ((h.r_mm.1.2 _ _ ((h.r_mm.1.1 _).mp q0.1) (any_b w1 ((h.r_mm.1.1 _).mp q0.2))).mpr u0.2) q1
  · obtain ⟨u0, ff0⟩ := bb
    rcases aa with aa | aa | aa
    · obtain ⟨q0, ee0⟩ := aa
      subst ee0 ff0
      exact absurd ⟨(h.r_mm.1.1 _).mpr u0.1.1, (h.r_mm.1.1 _).mpr u0.1.2⟩ q0
    · obtain ⟨q0, q1, ee0⟩ := aa
      subst ee0 ff0
      exact absurd ((h.r_mm.1.2 _ _ ((h.r_mm.1.1 _).mp q0.1) (any_b w1 ((h.r_mm.1.1 _).mp q0.2))).mp q1) (by rw [u0.2]; decide)
    · obtain ⟨q0, q1, ee0⟩ := aa
      subst ee0 ff0
      exact ⟨h, rfl⟩
set_option maxRecDepth 100000 in
set_option maxHeartbeats 4000000 in
theorem pr_loose {xTc : Int32} {xFc : Int32} {xRc : Int32} {xVc : Int32} {xLr : Int32} {xFl : Int32} {xTn : Int32} {xMn : Int32} {xSt : Int64} {xAb : Int64} {xVa : Int64} {xD1 : Value} {xD2 : Value} {xTl : Int32} {xOl : Int32} {xKn : Int32} {xPa : Nat → Int32} {xUp : Nat → Int32} {xAl : Nat → Option Nat} {xHa : Nat → Int64} {xNm : Nat → Int64} {xKi : Nat → Int32} {xAm : Nat → Int32} {xPl : Nat → Int32} {xKe : Nat → Int32} {xTo : Nat → Int32} {xFa : Nat → Option Nat} {xRe : Nat → Option Nat} {xVl : Nat → Option Nat} {xAr : Nat → Int32} {mTy : Int32} {mPa : Nat → Int32} {mTo : Nat → Int32} {mTm : Int32} {mMn : Int32} {mOt : Nat → Int32} {mNa : Nat → Int32} {mRe : Nat → Int32} {mMa : Nat → Int32} {mMy : Nat → Int32} {mPm : Nat → Int32} {mFn : Int32} {mFy : Nat → Int32} {mFa : Nat → Int32} {mFr : Nat → Int32} {mRn : Int32} {mFo : Nat → Int32} {mRt : Nat → Int32} {mRm : Nat → Int32} {mTn : Int32} {mTt : Nat → Int32} {mTi : Nat → Int32} {mPl : Nat → Int32} {mVn : Int32} {mVr : Nat → Int32} {mVf : Nat → Int32} {mVc : Nat → Int32} {mAr : Nat → Int32} {mLr : Int32} {mTc : Nat → Int32} {mTr : Int32} {mFl : Int32} {dyn : pm_H} {a : Int32} {b : Int32} {rx : Int32} {rm : Int32}  (hm : mIv mTy mPa mTo mTm mMn mOt mNa mRe mMa mMy mPm mFn mFy mFa mFr mRn mFo mRt mRm mTn mTt mTi mVn mVr mVf mVc mTr) (hn : mIv mTy mPa mTo mTm mMn mOt mNa mRe mMa mMy mPm mFn mFy mFa mFr mRn mFo mRt mRm mTn mTt mTi mVn mVr mVf mVc mTr) (h : rIv xTc xFc xRc xVc xLr xFl xTn xMn xSt xAb xVa xD1 xD2 xTl xOl xKn xPa xUp xAl xHa xNm xKi xAm xPl xKe xTo xFa xRe xVl xAr mTy mPa mTo mTm mMn mOt mNa mRe mMa mMy mPm mFn mFy mFa mFr mRn mFo mRt mRm mTn mTt mTi mPl mVn mVr mVf mVc mAr mLr mTc mTr mFl dyn) (aa : ((¬ (xA xUp a ∧ xA xUp b)) ∧ (-1) = rx) ∨ ((xA xUp a ∧ xA xUp b) ∧ (xL xUp a b) ∧ 1 = rx) ∨ ((xA xUp a ∧ xA xUp b) ∧ (¬ xL xUp a b) ∧ 0 = rx)) (bb : ((¬ (anyT mTy a ∧ anyT mTy b)) ∧ (-1) = rm) ∨ (((anyT mTy a ∧ anyT mTy b) ∧ lM mPa a b) ∧ 1 = rm) ∨ (((anyT mTy a ∧ anyT mTy b) ∧ ¬ lM mPa a b) ∧ 0 = rm)) : rIv xTc xFc xRc xVc xLr xFl xTn xMn xSt xAb xVa xD1 xD2 xTl xOl xKn xPa xUp xAl xHa xNm xKi xAm xPl xKe xTo xFa xRe xVl xAr mTy mPa mTo mTm mMn mOt mNa mRe mMa mMy mPm mFn mFy mFa mFr mRn mFo mRt mRm mTn mTt mTi mPl mVn mVr mVf mVc mAr mLr mTc mTr mFl dyn ∧ rx = rm := by
  have e_r_tn := h.r_tn
  have e_r_tc := h.r_tc
  have e_r_to := h.r_to
  have e_r_mn := h.r_mn
  have e_r_fc := h.r_fc
  have e_r_rc := h.r_rc
  have e_r_tl := h.r_tl
  have e_r_ki := h.r_ki
  have e_r_am := h.r_am
  have e_r_pl := h.r_pl
  have e_r_vc := h.r_vc
  have e_r_ar := h.r_ar
  have e_r_lr := h.r_lr
  have e_r_fl := h.r_fl
  have e_r_kn := h.r_kn
  subst e_r_tn; subst e_r_tc; subst e_r_to; subst e_r_mn; subst e_r_fc; subst e_r_rc; subst e_r_tl; subst e_r_ki; subst e_r_am; subst e_r_pl; subst e_r_vc; subst e_r_ar; subst e_r_lr; subst e_r_fl; subst e_r_kn
  have w1 := hm.ity
  have w2 := hm.itm
  have w3 := hm.imn
  have w4 := hm.ifn
  have w5 := hm.irn
  have w6 := hm.itn
  have w7 := hm.ivn
  have w8 := hm.itr
  rcases bb with bb | bb | bb
  · obtain ⟨u0, ff0⟩ := bb
    rcases aa with aa | aa | aa
    · obtain ⟨q0, ee0⟩ := aa
      subst ee0 ff0
      exact ⟨h, rfl⟩
    · obtain ⟨q0, q1, ee0⟩ := aa
      subst ee0 ff0
      exact absurd ⟨(h.r_mm.1.1 _).mp q0.1, (h.r_mm.1.1 _).mp q0.2⟩ u0
    · obtain ⟨q0, q1, ee0⟩ := aa
      subst ee0 ff0
      exact absurd ⟨(h.r_mm.1.1 _).mp q0.1, (h.r_mm.1.1 _).mp q0.2⟩ u0
  · obtain ⟨u0, ff0⟩ := bb
    rcases aa with aa | aa | aa
    · obtain ⟨q0, ee0⟩ := aa
      subst ee0 ff0
      exact absurd ⟨(h.r_mm.1.1 _).mpr u0.1.1, (h.r_mm.1.1 _).mpr u0.1.2⟩ q0
    · obtain ⟨q0, q1, ee0⟩ := aa
      subst ee0 ff0
      exact ⟨h, rfl⟩
    · obtain ⟨q0, q1, ee0⟩ := aa
      subst ee0 ff0
      exact absurd ((up_L h.r_mm.1 w1.1 ((h.r_mm.1.1 _).mp q0.1) (any_b w1 ((h.r_mm.1.1 _).mp q0.2))).mpr u0.2) q1
  · obtain ⟨u0, ff0⟩ := bb
    rcases aa with aa | aa | aa
    · obtain ⟨q0, ee0⟩ := aa
      subst ee0 ff0
      exact absurd ⟨(h.r_mm.1.1 _).mpr u0.1.1, (h.r_mm.1.1 _).mpr u0.1.2⟩ q0
    · obtain ⟨q0, q1, ee0⟩ := aa
      subst ee0 ff0
      exact absurd ((up_L h.r_mm.1 w1.1 ((h.r_mm.1.1 _).mp q0.1) (any_b w1 ((h.r_mm.1.1 _).mp q0.2))).mp q1) u0.2
    · obtain ⟨q0, q1, ee0⟩ := aa
      subst ee0 ff0
      exact ⟨h, rfl⟩
set_option maxRecDepth 100000 in
set_option maxHeartbeats 4000000 in
theorem pr_thing {xTc : Int32} {xFc : Int32} {xRc : Int32} {xVc : Int32} {xLr : Int32} {xFl : Int32} {xTn : Int32} {xMn : Int32} {xSt : Int64} {xAb : Int64} {xVa : Int64} {xD1 : Value} {xD2 : Value} {xTl : Int32} {xOl : Int32} {xKn : Int32} {xPa : Nat → Int32} {xUp : Nat → Int32} {xAl : Nat → Option Nat} {xHa : Nat → Int64} {xNm : Nat → Int64} {xKi : Nat → Int32} {xAm : Nat → Int32} {xPl : Nat → Int32} {xKe : Nat → Int32} {xTo : Nat → Int32} {xFa : Nat → Option Nat} {xRe : Nat → Option Nat} {xVl : Nat → Option Nat} {xAr : Nat → Int32} {mTy : Int32} {mPa : Nat → Int32} {mTo : Nat → Int32} {mTm : Int32} {mMn : Int32} {mOt : Nat → Int32} {mNa : Nat → Int32} {mRe : Nat → Int32} {mMa : Nat → Int32} {mMy : Nat → Int32} {mPm : Nat → Int32} {mFn : Int32} {mFy : Nat → Int32} {mFa : Nat → Int32} {mFr : Nat → Int32} {mRn : Int32} {mFo : Nat → Int32} {mRt : Nat → Int32} {mRm : Nat → Int32} {mTn : Int32} {mTt : Nat → Int32} {mTi : Nat → Int32} {mPl : Nat → Int32} {mVn : Int32} {mVr : Nat → Int32} {mVf : Nat → Int32} {mVc : Nat → Int32} {mAr : Nat → Int32} {mLr : Int32} {mTc : Nat → Int32} {mTr : Int32} {mFl : Int32} {mEn : Int32} {dyn : pm_H} {yTl : Int32} {yKi : Nat → Int32} {yAm : Nat → Int32} {yPl : Nat → Int32} {nTn : Int32} {nTt : Nat → Int32} {nTi : Nat → Int32} {nPl : Nat → Int32} {nEn : Int32} {t : Int32} {rx : Int32} {rm : Int32}  (hm : mIv mTy mPa mTo mTm mMn mOt mNa mRe mMa mMy mPm mFn mFy mFa mFr mRn mFo mRt mRm mTn mTt mTi mVn mVr mVf mVc mTr) (hn : mIv mTy mPa mTo mTm mMn mOt mNa mRe mMa mMy mPm mFn mFy mFa mFr mRn mFo mRt mRm nTn nTt nTi mVn mVr mVf mVc mTr) (h : rIv xTc xFc xRc xVc xLr xFl xTn xMn xSt xAb xVa xD1 xD2 xTl xOl xKn xPa xUp xAl xHa xNm xKi xAm xPl xKe xTo xFa xRe xVl xAr mTy mPa mTo mTm mMn mOt mNa mRe mMa mMy mPm mFn mFy mFa mFr mRn mFo mRt mRm mTn mTt mTi mPl mVn mVr mVf mVc mAr mLr mTc mTr mFl dyn) (aa : ((¬ ((0 ≤ t.toInt ∧ t.toInt < xTn.toInt) ∧ t.toInt ≠ 1)) ∧ (-1) = rx ∧ xTl = yTl ∧ xKi = yKi ∧ xAm = yAm ∧ xPl = yPl) ∨ ((((0 ≤ t.toInt ∧ t.toInt < xTn.toInt) ∧ t.toInt ≠ 1)) ∧ ((hbX xHa xNm t &&& xAb ≠ 0)) ∧ (-3) = rx ∧ xTl = yTl ∧ xKi = yKi ∧ xAm = yAm ∧ xPl = yPl) ∨ ((((0 ≤ t.toInt ∧ t.toInt < xTn.toInt) ∧ t.toInt ≠ 1)) ∧ (hbX xHa xNm t &&& xAb = 0) ∧ (60 ≤ xTl.toInt) ∧ (-2) = rx ∧ xTl = yTl ∧ xKi = yKi ∧ xAm = yAm ∧ xPl = yPl) ∨ ((((0 ≤ t.toInt ∧ t.toInt < xTn.toInt) ∧ t.toInt ≠ 1)) ∧ (hbX xHa xNm t &&& xAb = 0) ∧ (xTl.toInt < 60) ∧ (xTl + 1) = rx ∧ xTl + 1 = yTl ∧ upd xKi (xTl + 1).toNatClampNeg t = yKi ∧ upd xAm (xTl + 1).toNatClampNeg 0 = yAm ∧ zP xPl (xTl + 1) = yPl)) (bb : (((t.toInt < 0 ∨ mTy.toInt ≤ t.toInt ∨ t.toInt = 1)) ∧ (-1) = rm ∧ mTn = nTn ∧ mTt = nTt ∧ mTi = nTi ∧ mPl = nPl ∧ mEn = nEn) ∨ (((0 ≤ t.toInt ∧ t.toInt < mTy.toInt ∧ t.toInt ≠ 1) ∧ opL mPa mOt mNa mMy mPm mMa mMn t 0) ∧ (-3) = rm ∧ mTn = nTn ∧ mTt = nTt ∧ mTi = nTi ∧ mPl = nPl ∧ mEn = nEn) ∨ ((((0 ≤ t.toInt ∧ t.toInt < mTy.toInt ∧ t.toInt ≠ 1) ∧ ¬ opL mPa mOt mNa mMy mPm mMa mMn t 0) ∧ mTn.toInt = 60) ∧ (-2) = rm ∧ mTn = nTn ∧ mTt = nTt ∧ mTi = nTi ∧ mPl = nPl ∧ (-2) = nEn) ∨ ((((0 ≤ t.toInt ∧ t.toInt < mTy.toInt ∧ t.toInt ≠ 1) ∧ ¬ opL mPa mOt mNa mMy mPm mMa mMn t 0) ∧ mTn.toInt < 60) ∧ (mTn + 1) = rm ∧ mTn + 1 = nTn ∧ upd mTt (mTn + 1).toNatClampNeg t = nTt ∧ upd mTi (mTn + 1).toNatClampNeg 0 = nTi ∧ zP mPl (mTn + 1) = nPl ∧ 0 = nEn)) : rIv xTc xFc xRc xVc xLr xFl xTn xMn xSt xAb xVa xD1 xD2 yTl xOl xKn xPa xUp xAl xHa xNm yKi yAm yPl xKe xTo xFa xRe xVl xAr mTy mPa mTo mTm mMn mOt mNa mRe mMa mMy mPm mFn mFy mFa mFr mRn mFo mRt mRm nTn nTt nTi nPl mVn mVr mVf mVc mAr mLr mTc mTr mFl dyn ∧ rx = rm := by
  have e_r_tn := h.r_tn
  have e_r_tc := h.r_tc
  have e_r_to := h.r_to
  have e_r_mn := h.r_mn
  have e_r_fc := h.r_fc
  have e_r_rc := h.r_rc
  have e_r_tl := h.r_tl
  have e_r_ki := h.r_ki
  have e_r_am := h.r_am
  have e_r_pl := h.r_pl
  have e_r_vc := h.r_vc
  have e_r_ar := h.r_ar
  have e_r_lr := h.r_lr
  have e_r_fl := h.r_fl
  have e_r_kn := h.r_kn
  subst e_r_tn; subst e_r_tc; subst e_r_to; subst e_r_mn; subst e_r_fc; subst e_r_rc; subst e_r_tl; subst e_r_ki; subst e_r_am; subst e_r_pl; subst e_r_vc; subst e_r_ar; subst e_r_lr; subst e_r_fl; subst e_r_kn
  have w1 := hm.ity
  have w2 := hm.itm
  have w3 := hm.imn
  have w4 := hm.ifn
  have w5 := hm.irn
  have w6 := hm.itn
  have w7 := hm.ivn
  have w8 := hm.itr
  obtain ⟨hU, hd, hP, hS, hX, hK, hB, hH, hN, hSt, hAb, hVa⟩ := id h.r_mm
  have hop : (0 ≤ t.toInt ∧ t.toInt < mTy.toInt) → (hbX xHa xNm t &&& xAb ≠ 0 ↔ opL mPa mOt mNa mMy mPm mMa mMn t 0) := fun q => op_x hS.1 hS.2.1.2 hH hN hAb (Or.inl q)
  rcases bb with bb | bb | bb | bb
  · obtain ⟨u0, ff0, ff1, ff2, ff3, ff4, ff5⟩ := bb
    rcases aa with aa | aa | aa | aa
    · obtain ⟨q0, ee0, ee1, ee2, ee3, ee4⟩ := aa
      subst ee0 ee1 ee2 ee3 ee4 ff0 ff1 ff2 ff3 ff4 ff5
      exact ⟨h, rfl⟩
    · obtain ⟨q0, q1, ee0, ee1, ee2, ee3, ee4⟩ := aa
      subst ee0 ee1 ee2 ee3 ee4 ff0 ff1 ff2 ff3 ff4 ff5
      exfalso; omega
    · obtain ⟨q0, q1, q2, ee0, ee1, ee2, ee3, ee4⟩ := aa
      subst ee0 ee1 ee2 ee3 ee4 ff0 ff1 ff2 ff3 ff4 ff5
      exfalso; omega
    · obtain ⟨q0, q1, q2, ee0, ee1, ee2, ee3, ee4⟩ := aa
      subst ee0 ee1 ee2 ee3 ee4 ff0 ff1 ff2 ff3 ff4 ff5
      exfalso; omega
  · obtain ⟨u0, ff0, ff1, ff2, ff3, ff4, ff5⟩ := bb
    rcases aa with aa | aa | aa | aa
    · obtain ⟨q0, ee0, ee1, ee2, ee3, ee4⟩ := aa
      subst ee0 ee1 ee2 ee3 ee4 ff0 ff1 ff2 ff3 ff4 ff5
      exfalso; omega
    · obtain ⟨q0, q1, ee0, ee1, ee2, ee3, ee4⟩ := aa
      subst ee0 ee1 ee2 ee3 ee4 ff0 ff1 ff2 ff3 ff4 ff5
      exact ⟨h, rfl⟩
    · obtain ⟨q0, q1, q2, ee0, ee1, ee2, ee3, ee4⟩ := aa
      subst ee0 ee1 ee2 ee3 ee4 ff0 ff1 ff2 ff3 ff4 ff5
      exact absurd q1 ((hop q0.1).mpr u0.2)
    · obtain ⟨q0, q1, q2, ee0, ee1, ee2, ee3, ee4⟩ := aa
      subst ee0 ee1 ee2 ee3 ee4 ff0 ff1 ff2 ff3 ff4 ff5
      exact absurd q1 ((hop q0.1).mpr u0.2)
  · obtain ⟨u0, ff0, ff1, ff2, ff3, ff4, ff5⟩ := bb
    rcases aa with aa | aa | aa | aa
    · obtain ⟨q0, ee0, ee1, ee2, ee3, ee4⟩ := aa
      subst ee0 ee1 ee2 ee3 ee4 ff0 ff1 ff2 ff3 ff4 ff5
      exfalso; omega
    · obtain ⟨q0, q1, ee0, ee1, ee2, ee3, ee4⟩ := aa
      subst ee0 ee1 ee2 ee3 ee4 ff0 ff1 ff2 ff3 ff4 ff5
      exact absurd ((hop q0.1).mp q1) u0.1.2
    · obtain ⟨q0, q1, q2, ee0, ee1, ee2, ee3, ee4⟩ := aa
      subst ee0 ee1 ee2 ee3 ee4 ff0 ff1 ff2 ff3 ff4 ff5
      exact ⟨h, rfl⟩
    · obtain ⟨q0, q1, q2, ee0, ee1, ee2, ee3, ee4⟩ := aa
      subst ee0 ee1 ee2 ee3 ee4 ff0 ff1 ff2 ff3 ff4 ff5
      exfalso; omega
  · obtain ⟨u0, ff0, ff1, ff2, ff3, ff4, ff5⟩ := bb
    rcases aa with aa | aa | aa | aa
    · obtain ⟨q0, ee0, ee1, ee2, ee3, ee4⟩ := aa
      subst ee0 ee1 ee2 ee3 ee4 ff0 ff1 ff2 ff3 ff4 ff5
      exfalso; omega
    · obtain ⟨q0, q1, ee0, ee1, ee2, ee3, ee4⟩ := aa
      subst ee0 ee1 ee2 ee3 ee4 ff0 ff1 ff2 ff3 ff4 ff5
      exact absurd ((hop q0.1).mp q1) u0.1.2
    · obtain ⟨q0, q1, q2, ee0, ee1, ee2, ee3, ee4⟩ := aa
      subst ee0 ee1 ee2 ee3 ee4 ff0 ff1 ff2 ff3 ff4 ff5
      exfalso; omega
    · obtain ⟨q0, q1, q2, ee0, ee1, ee2, ee3, ee4⟩ := aa
      subst ee0 ee1 ee2 ee3 ee4 ff0 ff1 ff2 ff3 ff4 ff5
      exact ⟨(rIv.mk (r_tn := h.r_tn) (r_tc := h.r_tc) (r_to := h.r_to) (r_mn := h.r_mn) (r_fc := h.r_fc) (r_rc := h.r_rc) (r_tl := rfl) (r_ki := rfl) (r_am := rfl) (r_pl := rfl) (r_vc := h.r_vc) (r_ar := h.r_ar) (r_lr := h.r_lr) (r_fl := h.r_fl) (r_kn := h.r_kn) (r_mm := h.r_mm) (r_ot := h.r_ot) (r_al := h.r_al) (r_fa := h.r_fa) (r_fr := h.r_fr) (r_re := h.r_re) (r_rf := h.r_rf) (r_kd := kd_new w6 (by omega) h.r_kd (Or.inl ⟨by omega, by omega⟩)) (r_vl := h.r_vl) (r_ol := h.r_ol) (r_ke := h.r_ke) (r_d1 := h.r_d1) (r_d2 := h.r_d2)), rfl⟩
set_option maxRecDepth 100000 in
set_option maxHeartbeats 4000000 in
theorem pr_box {xTc : Int32} {xFc : Int32} {xRc : Int32} {xVc : Int32} {xLr : Int32} {xFl : Int32} {xTn : Int32} {xMn : Int32} {xSt : Int64} {xAb : Int64} {xVa : Int64} {xD1 : Value} {xD2 : Value} {xTl : Int32} {xOl : Int32} {xKn : Int32} {xPa : Nat → Int32} {xUp : Nat → Int32} {xAl : Nat → Option Nat} {xHa : Nat → Int64} {xNm : Nat → Int64} {xKi : Nat → Int32} {xAm : Nat → Int32} {xPl : Nat → Int32} {xKe : Nat → Int32} {xTo : Nat → Int32} {xFa : Nat → Option Nat} {xRe : Nat → Option Nat} {xVl : Nat → Option Nat} {xAr : Nat → Int32} {mTy : Int32} {mPa : Nat → Int32} {mTo : Nat → Int32} {mTm : Int32} {mMn : Int32} {mOt : Nat → Int32} {mNa : Nat → Int32} {mRe : Nat → Int32} {mMa : Nat → Int32} {mMy : Nat → Int32} {mPm : Nat → Int32} {mFn : Int32} {mFy : Nat → Int32} {mFa : Nat → Int32} {mFr : Nat → Int32} {mRn : Int32} {mFo : Nat → Int32} {mRt : Nat → Int32} {mRm : Nat → Int32} {mTn : Int32} {mTt : Nat → Int32} {mTi : Nat → Int32} {mPl : Nat → Int32} {mVn : Int32} {mVr : Nat → Int32} {mVf : Nat → Int32} {mVc : Nat → Int32} {mAr : Nat → Int32} {mLr : Int32} {mTc : Nat → Int32} {mTr : Int32} {mFl : Int32} {dyn : pm_H} {yTl : Int32} {yKi : Nat → Int32} {yAm : Nat → Int32} {yPl : Nat → Int32} {nTn : Int32} {nTt : Nat → Int32} {nTi : Nat → Int32} {nPl : Nat → Int32} {nEn : Int32} {v : Int32} {rx : Int32} {rm : Int32}  (hm : mIv mTy mPa mTo mTm mMn mOt mNa mRe mMa mMy mPm mFn mFy mFa mFr mRn mFo mRt mRm mTn mTt mTi mVn mVr mVf mVc mTr) (hn : mIv mTy mPa mTo mTm mMn mOt mNa mRe mMa mMy mPm mFn mFy mFa mFr mRn mFo mRt mRm nTn nTt nTi mVn mVr mVf mVc mTr) (h : rIv xTc xFc xRc xVc xLr xFl xTn xMn xSt xAb xVa xD1 xD2 xTl xOl xKn xPa xUp xAl xHa xNm xKi xAm xPl xKe xTo xFa xRe xVl xAr mTy mPa mTo mTm mMn mOt mNa mRe mMa mMy mPm mFn mFy mFa mFr mRn mFo mRt mRm mTn mTt mTi mPl mVn mVr mVf mVc mAr mLr mTc mTr mFl dyn) (aa : ((60 ≤ xTl.toInt) ∧ (-2) = rx ∧ xTl = yTl ∧ xKi = yKi ∧ xAm = yAm ∧ xPl = yPl) ∨ ((xTl.toInt < 60) ∧ (xTl + 1) = rx ∧ xTl + 1 = yTl ∧ upd xKi (xTl + 1).toNatClampNeg 1 = yKi ∧ upd xAm (xTl + 1).toNatClampNeg v = yAm ∧ zP xPl (xTl + 1) = yPl)) (bb : ((mTn.toInt = 60) ∧ (-2) = rm ∧ mTn = nTn ∧ mTt = nTt ∧ mTi = nTi ∧ mPl = nPl ∧ (-2) = nEn) ∨ ((mTn.toInt < 60) ∧ (mTn + 1) = rm ∧ mTn + 1 = nTn ∧ upd mTt (mTn + 1).toNatClampNeg 1 = nTt ∧ upd mTi (mTn + 1).toNatClampNeg v = nTi ∧ zP mPl (mTn + 1) = nPl ∧ 0 = nEn)) : rIv xTc xFc xRc xVc xLr xFl xTn xMn xSt xAb xVa xD1 xD2 yTl xOl xKn xPa xUp xAl xHa xNm yKi yAm yPl xKe xTo xFa xRe xVl xAr mTy mPa mTo mTm mMn mOt mNa mRe mMa mMy mPm mFn mFy mFa mFr mRn mFo mRt mRm nTn nTt nTi nPl mVn mVr mVf mVc mAr mLr mTc mTr mFl dyn ∧ rx = rm := by
  have e_r_tn := h.r_tn
  have e_r_tc := h.r_tc
  have e_r_to := h.r_to
  have e_r_mn := h.r_mn
  have e_r_fc := h.r_fc
  have e_r_rc := h.r_rc
  have e_r_tl := h.r_tl
  have e_r_ki := h.r_ki
  have e_r_am := h.r_am
  have e_r_pl := h.r_pl
  have e_r_vc := h.r_vc
  have e_r_ar := h.r_ar
  have e_r_lr := h.r_lr
  have e_r_fl := h.r_fl
  have e_r_kn := h.r_kn
  subst e_r_tn; subst e_r_tc; subst e_r_to; subst e_r_mn; subst e_r_fc; subst e_r_rc; subst e_r_tl; subst e_r_ki; subst e_r_am; subst e_r_pl; subst e_r_vc; subst e_r_ar; subst e_r_lr; subst e_r_fl; subst e_r_kn
  have w1 := hm.ity
  have w2 := hm.itm
  have w3 := hm.imn
  have w4 := hm.ifn
  have w5 := hm.irn
  have w6 := hm.itn
  have w7 := hm.ivn
  have w8 := hm.itr
  rcases bb with bb | bb
  · obtain ⟨u0, ff0, ff1, ff2, ff3, ff4, ff5⟩ := bb
    rcases aa with aa | aa
    · obtain ⟨q0, ee0, ee1, ee2, ee3, ee4⟩ := aa
      subst ee0 ee1 ee2 ee3 ee4 ff0 ff1 ff2 ff3 ff4 ff5
      exact ⟨h, rfl⟩
    · obtain ⟨q0, ee0, ee1, ee2, ee3, ee4⟩ := aa
      subst ee0 ee1 ee2 ee3 ee4 ff0 ff1 ff2 ff3 ff4 ff5
      exfalso; omega
  · obtain ⟨u0, ff0, ff1, ff2, ff3, ff4, ff5⟩ := bb
    rcases aa with aa | aa
    · obtain ⟨q0, ee0, ee1, ee2, ee3, ee4⟩ := aa
      subst ee0 ee1 ee2 ee3 ee4 ff0 ff1 ff2 ff3 ff4 ff5
      exfalso; omega
    · obtain ⟨q0, ee0, ee1, ee2, ee3, ee4⟩ := aa
      subst ee0 ee1 ee2 ee3 ee4 ff0 ff1 ff2 ff3 ff4 ff5
      exact ⟨(rIv.mk (r_tn := h.r_tn) (r_tc := h.r_tc) (r_to := h.r_to) (r_mn := h.r_mn) (r_fc := h.r_fc) (r_rc := h.r_rc) (r_tl := rfl) (r_ki := rfl) (r_am := rfl) (r_pl := rfl) (r_vc := h.r_vc) (r_ar := h.r_ar) (r_lr := h.r_lr) (r_fl := h.r_fl) (r_kn := h.r_kn) (r_mm := h.r_mm) (r_ot := h.r_ot) (r_al := h.r_al) (r_fa := h.r_fa) (r_fr := h.r_fr) (r_re := h.r_re) (r_rf := h.r_rf) (r_kd := kd_new w6 (by omega) h.r_kd (Or.inl ⟨by decide, by have z1 : (1 : Int32).toInt = 1 := (by decide); omega⟩)) (r_vl := h.r_vl) (r_ol := h.r_ol) (r_ke := h.r_ke) (r_d1 := h.r_d1) (r_d2 := h.r_d2)), rfl⟩
set_option maxRecDepth 100000 in
set_option maxHeartbeats 4000000 in
theorem pr_clear {xTc : Int32} {xFc : Int32} {xRc : Int32} {xVc : Int32} {xLr : Int32} {xFl : Int32} {xTn : Int32} {xMn : Int32} {xSt : Int64} {xAb : Int64} {xVa : Int64} {xD1 : Value} {xD2 : Value} {xTl : Int32} {xOl : Int32} {xKn : Int32} {xPa : Nat → Int32} {xUp : Nat → Int32} {xAl : Nat → Option Nat} {xHa : Nat → Int64} {xNm : Nat → Int64} {xKi : Nat → Int32} {xAm : Nat → Int32} {xPl : Nat → Int32} {xKe : Nat → Int32} {xTo : Nat → Int32} {xFa : Nat → Option Nat} {xRe : Nat → Option Nat} {xVl : Nat → Option Nat} {xAr : Nat → Int32} {mTy : Int32} {mPa : Nat → Int32} {mTo : Nat → Int32} {mTm : Int32} {mMn : Int32} {mOt : Nat → Int32} {mNa : Nat → Int32} {mRe : Nat → Int32} {mMa : Nat → Int32} {mMy : Nat → Int32} {mPm : Nat → Int32} {mFn : Int32} {mFy : Nat → Int32} {mFa : Nat → Int32} {mFr : Nat → Int32} {mRn : Int32} {mFo : Nat → Int32} {mRt : Nat → Int32} {mRm : Nat → Int32} {mTn : Int32} {mTt : Nat → Int32} {mTi : Nat → Int32} {mPl : Nat → Int32} {mVn : Int32} {mVr : Nat → Int32} {mVf : Nat → Int32} {mVc : Nat → Int32} {mAr : Nat → Int32} {mLr : Int32} {mTc : Nat → Int32} {mTr : Int32} {mFl : Int32} {dyn : pm_H} {yVc : Int32} {yLr : Int32} {yTl : Int32} {yOl : Int32} {yKn : Int32} {yVl : Nat → Option Nat} {yAr : Nat → Int32} {nTn : Int32} {nVn : Int32} {nAr : Nat → Int32} {nLr : Int32} {nTr : Int32} {rx : Int32} {rm : Int32}  (hm : mIv mTy mPa mTo mTm mMn mOt mNa mRe mMa mMy mPm mFn mFy mFa mFr mRn mFo mRt mRm mTn mTt mTi mVn mVr mVf mVc mTr) (hn : mIv mTy mPa mTo mTm mMn mOt mNa mRe mMa mMy mPm mFn mFy mFa mFr mRn mFo mRt mRm nTn mTt mTi nVn mVr mVf mVc nTr) (h : rIv xTc xFc xRc xVc xLr xFl xTn xMn xSt xAb xVa xD1 xD2 xTl xOl xKn xPa xUp xAl xHa xNm xKi xAm xPl xKe xTo xFa xRe xVl xAr mTy mPa mTo mTm mMn mOt mNa mRe mMa mMy mPm mFn mFy mFa mFr mRn mFo mRt mRm mTn mTt mTi mPl mVn mVr mVf mVc mAr mLr mTc mTr mFl dyn) (aa : (∃ (l9 : Int32) (v9 : Nat → Option Nat), (l9 = 0) ∧ xTl = rx ∧ 0 = yVc ∧ 0 = yLr ∧ l9 = yTl ∧ 0 = yOl ∧ 0 = yKn ∧ v9 = yVl ∧ upd (upd (upd xAr 0 0) 1 0) 2 0 = yAr)) (bb : (mTn = rm ∧ 0 = nTn ∧ 0 = nVn ∧ upd (upd (upd mAr 0 0) 1 0) 2 0 = nAr ∧ 0 = nLr ∧ 0 = nTr)) : rIv xTc xFc xRc yVc yLr xFl xTn xMn xSt xAb xVa xD1 xD2 yTl yOl yKn xPa xUp xAl xHa xNm xKi xAm xPl xKe xTo xFa xRe yVl yAr mTy mPa mTo mTm mMn mOt mNa mRe mMa mMy mPm mFn mFy mFa mFr mRn mFo mRt mRm nTn mTt mTi mPl nVn mVr mVf mVc nAr nLr mTc nTr mFl dyn ∧ rx = rm := by
  have e_r_tn := h.r_tn
  have e_r_tc := h.r_tc
  have e_r_to := h.r_to
  have e_r_mn := h.r_mn
  have e_r_fc := h.r_fc
  have e_r_rc := h.r_rc
  have e_r_tl := h.r_tl
  have e_r_ki := h.r_ki
  have e_r_am := h.r_am
  have e_r_pl := h.r_pl
  have e_r_vc := h.r_vc
  have e_r_ar := h.r_ar
  have e_r_lr := h.r_lr
  have e_r_fl := h.r_fl
  have e_r_kn := h.r_kn
  subst e_r_tn; subst e_r_tc; subst e_r_to; subst e_r_mn; subst e_r_fc; subst e_r_rc; subst e_r_tl; subst e_r_ki; subst e_r_am; subst e_r_pl; subst e_r_vc; subst e_r_ar; subst e_r_lr; subst e_r_fl; subst e_r_kn
  have z0 : (0 : Int32).toInt = 0 := by decide
  rcases bb with bb
  · obtain ⟨ff0, ff1, ff2, ff3, ff4, ff5⟩ := bb
    rcases aa with aa
    · obtain ⟨l9x, v9x, q0, ee0, ee1, ee2, ee3, ee4, ee5, ee6, ee7⟩ := aa
      subst ee0 ee1 ee2 ee3 ee4 ee5 ee6 ee7 ff0 ff1 ff2 ff3 ff4 ff5
      subst q0; exact ⟨(rIv.mk (r_tn := h.r_tn) (r_tc := h.r_tc) (r_to := h.r_to) (r_mn := h.r_mn) (r_fc := h.r_fc) (r_rc := h.r_rc) (r_tl := rfl) (r_ki := h.r_ki) (r_am := h.r_am) (r_pl := h.r_pl) (r_vc := rfl) (r_ar := rfl) (r_lr := rfl) (r_fl := h.r_fl) (r_kn := rfl) (r_mm := h.r_mm) (r_ot := h.r_ot) (r_al := h.r_al) (r_fa := h.r_fa) (r_fr := h.r_fr) (r_re := h.r_re) (r_rf := h.r_rf) (r_kd := (fun i q1 q2 => absurd q2 (by omega))) (r_vl := ⟨fun _ => 0, fun _ => 0, fun _ => 0, fun _ => none, fun i q => absurd q (by omega), fun i q => absurd q (by omega)⟩) (r_ol := (by decide)) (r_ke := (fun i q => absurd q (by omega))) (r_d1 := h.r_d1) (r_d2 := h.r_d2)), rfl⟩
set_option maxRecDepth 100000 in
set_option maxHeartbeats 4000000 in
theorem pr_traced {xTc : Int32} {xFc : Int32} {xRc : Int32} {xVc : Int32} {xLr : Int32} {xFl : Int32} {xTn : Int32} {xMn : Int32} {xSt : Int64} {xAb : Int64} {xVa : Int64} {xD1 : Value} {xD2 : Value} {xTl : Int32} {xOl : Int32} {xKn : Int32} {xPa : Nat → Int32} {xUp : Nat → Int32} {xAl : Nat → Option Nat} {xHa : Nat → Int64} {xNm : Nat → Int64} {xKi : Nat → Int32} {xAm : Nat → Int32} {xPl : Nat → Int32} {xKe : Nat → Int32} {xTo : Nat → Int32} {xFa : Nat → Option Nat} {xRe : Nat → Option Nat} {xVl : Nat → Option Nat} {xAr : Nat → Int32} {mTy : Int32} {mPa : Nat → Int32} {mTo : Nat → Int32} {mTm : Int32} {mMn : Int32} {mOt : Nat → Int32} {mNa : Nat → Int32} {mRe : Nat → Int32} {mMa : Nat → Int32} {mMy : Nat → Int32} {mPm : Nat → Int32} {mFn : Int32} {mFy : Nat → Int32} {mFa : Nat → Int32} {mFr : Nat → Int32} {mRn : Int32} {mFo : Nat → Int32} {mRt : Nat → Int32} {mRm : Nat → Int32} {mTn : Int32} {mTt : Nat → Int32} {mTi : Nat → Int32} {mPl : Nat → Int32} {mVn : Int32} {mVr : Nat → Int32} {mVf : Nat → Int32} {mVc : Nat → Int32} {mAr : Nat → Int32} {mLr : Int32} {mTc : Nat → Int32} {mTr : Int32} {mFl : Int32} {dyn : pm_H} {i : Int32} {rx : Int32} {rm : Int32}  (hm : mIv mTy mPa mTo mTm mMn mOt mNa mRe mMa mMy mPm mFn mFy mFa mFr mRn mFo mRt mRm mTn mTt mTi mVn mVr mVf mVc mTr) (hn : mIv mTy mPa mTo mTm mMn mOt mNa mRe mMa mMy mPm mFn mFy mFa mFr mRn mFo mRt mRm mTn mTt mTi mVn mVr mVf mVc mTr) (h : rIv xTc xFc xRc xVc xLr xFl xTn xMn xSt xAb xVa xD1 xD2 xTl xOl xKn xPa xUp xAl xHa xNm xKi xAm xPl xKe xTo xFa xRe xVl xAr mTy mPa mTo mTm mMn mOt mNa mRe mMa mMy mPm mFn mFy mFa mFr mRn mFo mRt mRm mTn mTt mTi mPl mVn mVr mVf mVc mAr mLr mTc mTr mFl dyn) (aa : (((0 ≤ i.toInt ∧ i.toInt < xKn.toInt)) ∧ (xKe ((xOl + i) - (xOl + i) / 50 * 50).toNatClampNeg) = rx) ∨ ((¬ (0 ≤ i.toInt ∧ i.toInt < xKn.toInt)) ∧ (-4) = rx)) (bb : ((0 ≤ i.toInt ∧ i.toInt < mTr.toInt) ∧ (mTc i.toNatClampNeg) = rm) ∨ (((i.toInt < 0 ∨ mTr.toInt ≤ i.toInt)) ∧ (-4) = rm)) : rIv xTc xFc xRc xVc xLr xFl xTn xMn xSt xAb xVa xD1 xD2 xTl xOl xKn xPa xUp xAl xHa xNm xKi xAm xPl xKe xTo xFa xRe xVl xAr mTy mPa mTo mTm mMn mOt mNa mRe mMa mMy mPm mFn mFy mFa mFr mRn mFo mRt mRm mTn mTt mTi mPl mVn mVr mVf mVc mAr mLr mTc mTr mFl dyn ∧ rx = rm := by
  have e_r_tn := h.r_tn
  have e_r_tc := h.r_tc
  have e_r_to := h.r_to
  have e_r_mn := h.r_mn
  have e_r_fc := h.r_fc
  have e_r_rc := h.r_rc
  have e_r_tl := h.r_tl
  have e_r_ki := h.r_ki
  have e_r_am := h.r_am
  have e_r_pl := h.r_pl
  have e_r_vc := h.r_vc
  have e_r_ar := h.r_ar
  have e_r_lr := h.r_lr
  have e_r_fl := h.r_fl
  have e_r_kn := h.r_kn
  subst e_r_tn; subst e_r_tc; subst e_r_to; subst e_r_mn; subst e_r_fc; subst e_r_rc; subst e_r_tl; subst e_r_ki; subst e_r_am; subst e_r_pl; subst e_r_vc; subst e_r_ar; subst e_r_lr; subst e_r_fl; subst e_r_kn
  have w1 := hm.ity
  have w2 := hm.itm
  have w3 := hm.imn
  have w4 := hm.ifn
  have w5 := hm.irn
  have w6 := hm.itn
  have w7 := hm.ivn
  have w8 := hm.itr
  rcases bb with bb | bb
  · obtain ⟨u0, ff0⟩ := bb
    rcases aa with aa | aa
    · obtain ⟨q0, ee0⟩ := aa
      subst ee0 ff0
      refine ⟨h, ?_⟩; have w := h.r_ke i.toNatClampNeg (by have := xN (x := i) (by omega); omega); rw [nI_self (by omega)] at w; exact w
    · obtain ⟨q0, ee0⟩ := aa
      subst ee0 ff0
      exfalso; omega
  · obtain ⟨u0, ff0⟩ := bb
    rcases aa with aa | aa
    · obtain ⟨q0, ee0⟩ := aa
      subst ee0 ff0
      exfalso; omega
    · obtain ⟨q0, ee0⟩ := aa
      subst ee0 ff0
      exact ⟨h, rfl⟩
set_option maxRecDepth 100000 in
set_option maxHeartbeats 4000000 in
theorem pr_reference {xTc : Int32} {xFc : Int32} {xRc : Int32} {xVc : Int32} {xLr : Int32} {xFl : Int32} {xTn : Int32} {xMn : Int32} {xSt : Int64} {xAb : Int64} {xVa : Int64} {xD1 : Value} {xD2 : Value} {xTl : Int32} {xOl : Int32} {xKn : Int32} {xPa : Nat → Int32} {xUp : Nat → Int32} {xAl : Nat → Option Nat} {xHa : Nat → Int64} {xNm : Nat → Int64} {xKi : Nat → Int32} {xAm : Nat → Int32} {xPl : Nat → Int32} {xKe : Nat → Int32} {xTo : Nat → Int32} {xFa : Nat → Option Nat} {xRe : Nat → Option Nat} {xVl : Nat → Option Nat} {xAr : Nat → Int32} {mTy : Int32} {mPa : Nat → Int32} {mTo : Nat → Int32} {mTm : Int32} {mMn : Int32} {mOt : Nat → Int32} {mNa : Nat → Int32} {mRe : Nat → Int32} {mMa : Nat → Int32} {mMy : Nat → Int32} {mPm : Nat → Int32} {mFn : Int32} {mFy : Nat → Int32} {mFa : Nat → Int32} {mFr : Nat → Int32} {mRn : Int32} {mFo : Nat → Int32} {mRt : Nat → Int32} {mRm : Nat → Int32} {mTn : Int32} {mTt : Nat → Int32} {mTi : Nat → Int32} {mPl : Nat → Int32} {mVn : Int32} {mVr : Nat → Int32} {mVf : Nat → Int32} {mVc : Nat → Int32} {mAr : Nat → Int32} {mLr : Int32} {mTc : Nat → Int32} {mTr : Int32} {mFl : Int32} {dyn : pm_H} {yRc : Int32} {yRe : Nat → Option Nat} {yyn : pm_H} {nRn : Int32} {nFo : Nat → Int32} {nRt : Nat → Int32} {nRm : Nat → Int32} {o : Int32} {t : Int32} {w : Int32} {rx : Int32} {rm : Int32}  (hm : mIv mTy mPa mTo mTm mMn mOt mNa mRe mMa mMy mPm mFn mFy mFa mFr mRn mFo mRt mRm mTn mTt mTi mVn mVr mVf mVc mTr) (hn : mIv mTy mPa mTo mTm mMn mOt mNa mRe mMa mMy mPm mFn mFy mFa mFr nRn nFo nRt nRm mTn mTt mTi mVn mVr mVf mVc mTr) (h : rIv xTc xFc xRc xVc xLr xFl xTn xMn xSt xAb xVa xD1 xD2 xTl xOl xKn xPa xUp xAl xHa xNm xKi xAm xPl xKe xTo xFa xRe xVl xAr mTy mPa mTo mTm mMn mOt mNa mRe mMa mMy mPm mFn mFy mFa mFr mRn mFo mRt mRm mTn mTt mTi mPl mVn mVr mVf mVc mAr mLr mTc mTr mFl dyn) (aa : ((¬ ((((o.toInt = 0 ∨ o.toInt = 1) ∧ (0 ≤ t.toInt ∧ t.toInt < xTn.toInt)) ∨ (o.toInt = 2 ∧ (0 ≤ t.toInt ∧ t.toInt < xTn.toInt) ∧ t.toInt ≠ 0) ∨ (o.toInt = 3 ∧ (0 ≤ t.toInt ∧ t.toInt < xTn.toInt) ∧ t.toInt ≠ 1) ∨ (o.toInt = 4 ∧ ((0 ≤ t.toInt ∧ t.toInt < xTn.toInt) ∨ t.toInt = 10))) ∧ (2 < o.toInt ∨ (0 ≤ w.toInt ∧ w.toInt < 6)))) ∧ (-1) = rx ∧ xRc = yRc ∧ xRe = yRe ∧ dyn = yyn) ∨ ((((((o.toInt = 0 ∨ o.toInt = 1) ∧ (0 ≤ t.toInt ∧ t.toInt < xTn.toInt)) ∨ (o.toInt = 2 ∧ (0 ≤ t.toInt ∧ t.toInt < xTn.toInt) ∧ t.toInt ≠ 0) ∨ (o.toInt = 3 ∧ (0 ≤ t.toInt ∧ t.toInt < xTn.toInt) ∧ t.toInt ≠ 1) ∨ (o.toInt = 4 ∧ ((0 ≤ t.toInt ∧ t.toInt < xTn.toInt) ∨ t.toInt = 10))) ∧ (2 < o.toInt ∨ (0 ≤ w.toInt ∧ w.toInt < 6))) ∧ 30 ≤ xRc.toInt) ∧ (-2) = rx ∧ xRc = yRc ∧ xRe = yRe ∧ dyn = yyn) ∨ (∃ (f9 : Nat → Option Nat) (e9 : pm_H), (((((o.toInt = 0 ∨ o.toInt = 1) ∧ (0 ≤ t.toInt ∧ t.toInt < xTn.toInt)) ∨ (o.toInt = 2 ∧ (0 ≤ t.toInt ∧ t.toInt < xTn.toInt) ∧ t.toInt ≠ 0) ∨ (o.toInt = 3 ∧ (0 ≤ t.toInt ∧ t.toInt < xTn.toInt) ∧ t.toInt ≠ 1) ∨ (o.toInt = 4 ∧ ((0 ≤ t.toInt ∧ t.toInt < xTn.toInt) ∨ t.toInt = 10))) ∧ (2 < o.toInt ∨ (0 ≤ w.toInt ∧ w.toInt < 6))) ∧ xRc.toInt < 30) ∧ (reF (upd mFo xRc.toNatClampNeg o) (upd mRt xRc.toNatClampNeg t) (upd mRm xRc.toNatClampNeg w) (xRc + 1) f9 (dyn ++ e9)) ∧ (xRc + 1 - 1) = rx ∧ xRc + 1 = yRc ∧ f9 = yRe ∧ dyn ++ e9 = yyn)) (bb : ((¬ ((0 ≤ o.toInt ∧ o.toInt ≤ 4) ∧ ((o.toInt < 2 ∧ (0 ≤ t.toInt ∧ t.toInt < mTy.toInt)) ∨ (o.toInt = 2 ∧ (0 ≤ t.toInt ∧ t.toInt < mTy.toInt) ∧ t.toInt ≠ 0) ∨ (o.toInt = 3 ∧ (0 ≤ t.toInt ∧ t.toInt < mTy.toInt ∧ t.toInt ≠ 1)) ∨ (o.toInt = 4 ∧ ((0 ≤ t.toInt ∧ t.toInt < mTy.toInt) ∨ t.toInt = 10))) ∧ (3 ≤ o.toInt ∨ (0 ≤ w.toInt ∧ w.toInt ≤ 5)))) ∧ (-1) = rm ∧ mRn = nRn ∧ mFo = nFo ∧ mRt = nRt ∧ mRm = nRm) ∨ ((((0 ≤ o.toInt ∧ o.toInt ≤ 4) ∧ ((o.toInt < 2 ∧ (0 ≤ t.toInt ∧ t.toInt < mTy.toInt)) ∨ (o.toInt = 2 ∧ (0 ≤ t.toInt ∧ t.toInt < mTy.toInt) ∧ t.toInt ≠ 0) ∨ (o.toInt = 3 ∧ (0 ≤ t.toInt ∧ t.toInt < mTy.toInt ∧ t.toInt ≠ 1)) ∨ (o.toInt = 4 ∧ ((0 ≤ t.toInt ∧ t.toInt < mTy.toInt) ∨ t.toInt = 10))) ∧ (3 ≤ o.toInt ∨ (0 ≤ w.toInt ∧ w.toInt ≤ 5))) ∧ mRn.toInt = 30) ∧ (-2) = rm ∧ mRn = nRn ∧ mFo = nFo ∧ mRt = nRt ∧ mRm = nRm) ∨ ((((0 ≤ o.toInt ∧ o.toInt ≤ 4) ∧ ((o.toInt < 2 ∧ (0 ≤ t.toInt ∧ t.toInt < mTy.toInt)) ∨ (o.toInt = 2 ∧ (0 ≤ t.toInt ∧ t.toInt < mTy.toInt) ∧ t.toInt ≠ 0) ∨ (o.toInt = 3 ∧ (0 ≤ t.toInt ∧ t.toInt < mTy.toInt ∧ t.toInt ≠ 1)) ∨ (o.toInt = 4 ∧ ((0 ≤ t.toInt ∧ t.toInt < mTy.toInt) ∨ t.toInt = 10))) ∧ (3 ≤ o.toInt ∨ (0 ≤ w.toInt ∧ w.toInt ≤ 5))) ∧ mRn.toInt < 30) ∧ (mRn + 1 - 1) = rm ∧ mRn + 1 = nRn ∧ upd mFo mRn.toNatClampNeg o = nFo ∧ upd mRt mRn.toNatClampNeg t = nRt ∧ upd mRm mRn.toNatClampNeg w = nRm)) : rIv xTc xFc yRc xVc xLr xFl xTn xMn xSt xAb xVa xD1 xD2 xTl xOl xKn xPa xUp xAl xHa xNm xKi xAm xPl xKe xTo xFa yRe xVl xAr mTy mPa mTo mTm mMn mOt mNa mRe mMa mMy mPm mFn mFy mFa mFr nRn nFo nRt nRm mTn mTt mTi mPl mVn mVr mVf mVc mAr mLr mTc mTr mFl yyn ∧ rx = rm := by
  have e_r_tn := h.r_tn
  have e_r_tc := h.r_tc
  have e_r_to := h.r_to
  have e_r_mn := h.r_mn
  have e_r_fc := h.r_fc
  have e_r_rc := h.r_rc
  have e_r_tl := h.r_tl
  have e_r_ki := h.r_ki
  have e_r_am := h.r_am
  have e_r_pl := h.r_pl
  have e_r_vc := h.r_vc
  have e_r_ar := h.r_ar
  have e_r_lr := h.r_lr
  have e_r_fl := h.r_fl
  have e_r_kn := h.r_kn
  subst e_r_tn; subst e_r_tc; subst e_r_to; subst e_r_mn; subst e_r_fc; subst e_r_rc; subst e_r_tl; subst e_r_ki; subst e_r_am; subst e_r_pl; subst e_r_vc; subst e_r_ar; subst e_r_lr; subst e_r_fl; subst e_r_kn
  have w1 := hm.ity
  have w2 := hm.itm
  have w3 := hm.imn
  have w4 := hm.ifn
  have w5 := hm.irn
  have w6 := hm.itn
  have w7 := hm.ivn
  have w8 := hm.itr
  rcases bb with bb | bb | bb
  · obtain ⟨u0, ff0, ff1, ff2, ff3, ff4⟩ := bb
    rcases aa with aa | aa | aa
    · obtain ⟨q0, ee0, ee1, ee2, ee3⟩ := aa
      subst ee0 ee1 ee2 ee3 ff0 ff1 ff2 ff3 ff4
      exact ⟨h, rfl⟩
    · obtain ⟨q0, ee0, ee1, ee2, ee3⟩ := aa
      subst ee0 ee1 ee2 ee3 ff0 ff1 ff2 ff3 ff4
      exfalso; omega
    · obtain ⟨f9x, e9x, q0, q1, ee0, ee1, ee2, ee3⟩ := aa
      subst ee0 ee1 ee2 ee3 ff0 ff1 ff2 ff3 ff4
      exfalso; omega
  · obtain ⟨u0, ff0, ff1, ff2, ff3, ff4⟩ := bb
    rcases aa with aa | aa | aa
    · obtain ⟨q0, ee0, ee1, ee2, ee3⟩ := aa
      subst ee0 ee1 ee2 ee3 ff0 ff1 ff2 ff3 ff4
      exfalso; omega
    · obtain ⟨q0, ee0, ee1, ee2, ee3⟩ := aa
      subst ee0 ee1 ee2 ee3 ff0 ff1 ff2 ff3 ff4
      exact ⟨h, rfl⟩
    · obtain ⟨f9x, e9x, q0, q1, ee0, ee1, ee2, ee3⟩ := aa
      subst ee0 ee1 ee2 ee3 ff0 ff1 ff2 ff3 ff4
      exfalso; omega
  · obtain ⟨u0, ff0, ff1, ff2, ff3, ff4⟩ := bb
    rcases aa with aa | aa | aa
    · obtain ⟨q0, ee0, ee1, ee2, ee3⟩ := aa
      subst ee0 ee1 ee2 ee3 ff0 ff1 ff2 ff3 ff4
      exfalso; omega
    · obtain ⟨q0, ee0, ee1, ee2, ee3⟩ := aa
      subst ee0 ee1 ee2 ee3 ff0 ff1 ff2 ff3 ff4
      exfalso; omega
    · obtain ⟨f9x, e9x, q0, q1, ee0, ee1, ee2, ee3⟩ := aa
      subst ee0 ee1 ee2 ee3 ff0 ff1 ff2 ff3 ff4
      exact ⟨ri_ref hm h (by unfold rfR; omega) (by omega) q1, rfl⟩
set_option maxRecDepth 100000 in
set_option maxHeartbeats 4000000 in
theorem pr_face {xTc : Int32} {xFc : Int32} {xRc : Int32} {xVc : Int32} {xLr : Int32} {xFl : Int32} {xTn : Int32} {xMn : Int32} {xSt : Int64} {xAb : Int64} {xVa : Int64} {xD1 : Value} {xD2 : Value} {xTl : Int32} {xOl : Int32} {xKn : Int32} {xPa : Nat → Int32} {xUp : Nat → Int32} {xAl : Nat → Option Nat} {xHa : Nat → Int64} {xNm : Nat → Int64} {xKi : Nat → Int32} {xAm : Nat → Int32} {xPl : Nat → Int32} {xKe : Nat → Int32} {xTo : Nat → Int32} {xFa : Nat → Option Nat} {xRe : Nat → Option Nat} {xVl : Nat → Option Nat} {xAr : Nat → Int32} {mTy : Int32} {mPa : Nat → Int32} {mTo : Nat → Int32} {mTm : Int32} {mMn : Int32} {mOt : Nat → Int32} {mNa : Nat → Int32} {mRe : Nat → Int32} {mMa : Nat → Int32} {mMy : Nat → Int32} {mPm : Nat → Int32} {mFn : Int32} {mFy : Nat → Int32} {mFa : Nat → Int32} {mFr : Nat → Int32} {mRn : Int32} {mFo : Nat → Int32} {mRt : Nat → Int32} {mRm : Nat → Int32} {mTn : Int32} {mTt : Nat → Int32} {mTi : Nat → Int32} {mPl : Nat → Int32} {mVn : Int32} {mVr : Nat → Int32} {mVf : Nat → Int32} {mVc : Nat → Int32} {mAr : Nat → Int32} {mLr : Int32} {mTc : Nat → Int32} {mTr : Int32} {mFl : Int32} {dyn : pm_H} {yTc : Int32} {yFc : Int32} {yFa : Nat → Option Nat} {yyn : pm_H} {nTm : Int32} {nFn : Int32} {nFy : Nat → Int32} {nFa : Nat → Int32} {nFr : Nat → Int32} {r : Int32} {rx : Int32} {rm : Int32}  (hm : mIv mTy mPa mTo mTm mMn mOt mNa mRe mMa mMy mPm mFn mFy mFa mFr mRn mFo mRt mRm mTn mTt mTi mVn mVr mVf mVc mTr) (hn : mIv mTy mPa mTo nTm mMn mOt mNa mRe mMa mMy mPm nFn nFy nFa nFr mRn mFo mRt mRm mTn mTt mTi mVn mVr mVf mVc mTr) (h : rIv xTc xFc xRc xVc xLr xFl xTn xMn xSt xAb xVa xD1 xD2 xTl xOl xKn xPa xUp xAl xHa xNm xKi xAm xPl xKe xTo xFa xRe xVl xAr mTy mPa mTo mTm mMn mOt mNa mRe mMa mMy mPm mFn mFy mFa mFr mRn mFo mRt mRm mTn mTt mTi mPl mVn mVr mVf mVc mAr mLr mTc mTr mFl dyn) (aa : ((¬ xA xUp r) ∧ (-1) = rx ∧ xTc = yTc ∧ xFc = yFc ∧ xFa = yFa ∧ dyn = yyn) ∨ ((xA xUp r) ∧ (10 ≤ xFc.toInt) ∧ (-2) = rx ∧ xTc = yTc ∧ xFc = yFc ∧ xFa = yFa ∧ dyn = yyn) ∨ (∃ (f9 : Nat → Option Nat) (e9 : pm_H), (xA xUp r) ∧ (xFc.toInt < 10) ∧ (faF (upd mFy xFc.toNatClampNeg xTc) (cpF mFa xTo xFc xTc) (upd mFr xFc.toNatClampNeg r) (xFc + 1) f9 (dyn ++ e9)) ∧ (xFc + 1 - 1) = rx ∧ 0 = yTc ∧ xFc + 1 = yFc ∧ f9 = yFa ∧ dyn ++ e9 = yyn)) (bb : ((¬ anyT mTy r) ∧ (-1) = rm ∧ mTm = nTm ∧ mFn = nFn ∧ mFy = nFy ∧ mFa = nFa ∧ mFr = nFr) ∨ ((anyT mTy r ∧ mFn.toInt = 10) ∧ (-2) = rm ∧ mTm = nTm ∧ mFn = nFn ∧ mFy = nFy ∧ mFa = nFa ∧ mFr = nFr) ∨ ((anyT mTy r ∧ mFn.toInt < 10) ∧ (mFn + 1 - 1) = rm ∧ 0 = nTm ∧ mFn + 1 = nFn ∧ upd mFy mFn.toNatClampNeg mTm = nFy ∧ cpF mFa mTo mFn mTm = nFa ∧ upd mFr mFn.toNatClampNeg r = nFr)) : rIv yTc yFc xRc xVc xLr xFl xTn xMn xSt xAb xVa xD1 xD2 xTl xOl xKn xPa xUp xAl xHa xNm xKi xAm xPl xKe xTo yFa xRe xVl xAr mTy mPa mTo nTm mMn mOt mNa mRe mMa mMy mPm nFn nFy nFa nFr mRn mFo mRt mRm mTn mTt mTi mPl mVn mVr mVf mVc mAr mLr mTc mTr mFl yyn ∧ rx = rm := by
  have e_r_tn := h.r_tn
  have e_r_tc := h.r_tc
  have e_r_to := h.r_to
  have e_r_mn := h.r_mn
  have e_r_fc := h.r_fc
  have e_r_rc := h.r_rc
  have e_r_tl := h.r_tl
  have e_r_ki := h.r_ki
  have e_r_am := h.r_am
  have e_r_pl := h.r_pl
  have e_r_vc := h.r_vc
  have e_r_ar := h.r_ar
  have e_r_lr := h.r_lr
  have e_r_fl := h.r_fl
  have e_r_kn := h.r_kn
  subst e_r_tn; subst e_r_tc; subst e_r_to; subst e_r_mn; subst e_r_fc; subst e_r_rc; subst e_r_tl; subst e_r_ki; subst e_r_am; subst e_r_pl; subst e_r_vc; subst e_r_ar; subst e_r_lr; subst e_r_fl; subst e_r_kn
  have w1 := hm.ity
  have w2 := hm.itm
  have w3 := hm.imn
  have w4 := hm.ifn
  have w5 := hm.irn
  have w6 := hm.itn
  have w7 := hm.ivn
  have w8 := hm.itr
  have hat := h.r_mm.1.1 r
  simp only [hat] at aa
  rcases bb with bb | bb | bb
  · obtain ⟨u0, ff0, ff1, ff2, ff3, ff4, ff5⟩ := bb
    rcases aa with aa | aa | aa
    · obtain ⟨q0, ee0, ee1, ee2, ee3, ee4⟩ := aa
      subst ee0 ee1 ee2 ee3 ee4 ff0 ff1 ff2 ff3 ff4 ff5
      exact ⟨h, rfl⟩
    · obtain ⟨q0, q1, ee0, ee1, ee2, ee3, ee4⟩ := aa
      subst ee0 ee1 ee2 ee3 ee4 ff0 ff1 ff2 ff3 ff4 ff5
      exact absurd q0 u0
    · obtain ⟨f9x, e9x, q0, q1, q2, ee0, ee1, ee2, ee3, ee4⟩ := aa
      subst ee0 ee1 ee2 ee3 ee4 ff0 ff1 ff2 ff3 ff4 ff5
      exact absurd q0 u0
  · obtain ⟨u0, ff0, ff1, ff2, ff3, ff4, ff5⟩ := bb
    rcases aa with aa | aa | aa
    · obtain ⟨q0, ee0, ee1, ee2, ee3, ee4⟩ := aa
      subst ee0 ee1 ee2 ee3 ee4 ff0 ff1 ff2 ff3 ff4 ff5
      exact absurd u0.1 q0
    · obtain ⟨q0, q1, ee0, ee1, ee2, ee3, ee4⟩ := aa
      subst ee0 ee1 ee2 ee3 ee4 ff0 ff1 ff2 ff3 ff4 ff5
      exact ⟨h, rfl⟩
    · obtain ⟨f9x, e9x, q0, q1, q2, ee0, ee1, ee2, ee3, ee4⟩ := aa
      subst ee0 ee1 ee2 ee3 ee4 ff0 ff1 ff2 ff3 ff4 ff5
      exfalso; omega
  · obtain ⟨u0, ff0, ff1, ff2, ff3, ff4, ff5⟩ := bb
    rcases aa with aa | aa | aa
    · obtain ⟨q0, ee0, ee1, ee2, ee3, ee4⟩ := aa
      subst ee0 ee1 ee2 ee3 ee4 ff0 ff1 ff2 ff3 ff4 ff5
      exact absurd u0.1 q0
    · obtain ⟨q0, q1, ee0, ee1, ee2, ee3, ee4⟩ := aa
      subst ee0 ee1 ee2 ee3 ee4 ff0 ff1 ff2 ff3 ff4 ff5
      exfalso; omega
    · obtain ⟨f9x, e9x, q0, q1, q2, ee0, ee1, ee2, ee3, ee4⟩ := aa
      subst ee0 ee1 ee2 ee3 ee4 ff0 ff1 ff2 ff3 ff4 ff5
      exact ⟨ri_face hm h q0 (by omega) q2, rfl⟩
set_option maxRecDepth 100000 in
set_option maxHeartbeats 4000000 in
theorem pr_place {xTc : Int32} {xFc : Int32} {xRc : Int32} {xVc : Int32} {xLr : Int32} {xFl : Int32} {xTn : Int32} {xMn : Int32} {xSt : Int64} {xAb : Int64} {xVa : Int64} {xD1 : Value} {xD2 : Value} {xTl : Int32} {xOl : Int32} {xKn : Int32} {xPa : Nat → Int32} {xUp : Nat → Int32} {xAl : Nat → Option Nat} {xHa : Nat → Int64} {xNm : Nat → Int64} {xKi : Nat → Int32} {xAm : Nat → Int32} {xPl : Nat → Int32} {xKe : Nat → Int32} {xTo : Nat → Int32} {xFa : Nat → Option Nat} {xRe : Nat → Option Nat} {xVl : Nat → Option Nat} {xAr : Nat → Int32} {mTy : Int32} {mPa : Nat → Int32} {mTo : Nat → Int32} {mTm : Int32} {mMn : Int32} {mOt : Nat → Int32} {mNa : Nat → Int32} {mRe : Nat → Int32} {mMa : Nat → Int32} {mMy : Nat → Int32} {mPm : Nat → Int32} {mFn : Int32} {mFy : Nat → Int32} {mFa : Nat → Int32} {mFr : Nat → Int32} {mRn : Int32} {mFo : Nat → Int32} {mRt : Nat → Int32} {mRm : Nat → Int32} {mTn : Int32} {mTt : Nat → Int32} {mTi : Nat → Int32} {mPl : Nat → Int32} {mVn : Int32} {mVr : Nat → Int32} {mVf : Nat → Int32} {mVc : Nat → Int32} {mAr : Nat → Int32} {mLr : Int32} {mTc : Nat → Int32} {mTr : Int32} {mFl : Int32} {dyn : pm_H} {v : Int32} {i : Int32} {rx : Int32} {rm : Int32}  (hm : mIv mTy mPa mTo mTm mMn mOt mNa mRe mMa mMy mPm mFn mFy mFa mFr mRn mFo mRt mRm mTn mTt mTi mVn mVr mVf mVc mTr) (hn : mIv mTy mPa mTo mTm mMn mOt mNa mRe mMa mMy mPm mFn mFy mFa mFr mRn mFo mRt mRm mTn mTt mTi mVn mVr mVf mVc mTr) (h : rIv xTc xFc xRc xVc xLr xFl xTn xMn xSt xAb xVa xD1 xD2 xTl xOl xKn xPa xUp xAl xHa xNm xKi xAm xPl xKe xTo xFa xRe xVl xAr mTy mPa mTo mTm mMn mOt mNa mRe mMa mMy mPm mFn mFy mFa mFr mRn mFo mRt mRm mTn mTt mTi mPl mVn mVr mVf mVc mAr mLr mTc mTr mFl dyn) (aa : ((¬ ((1 ≤ v.toInt ∧ v.toInt ≤ xTl.toInt) ∧ xRw xUp (xKi v.toNatClampNeg) ∧ 0 ≤ i.toInt ∧ i.toInt < (xAm v.toNatClampNeg).toInt)) ∧ (-1) = rx) ∨ ((((1 ≤ v.toInt ∧ v.toInt ≤ xTl.toInt) ∧ xRw xUp (xKi v.toNatClampNeg) ∧ 0 ≤ i.toInt ∧ i.toInt < (xAm v.toNatClampNeg).toInt)) ∧ (i.toInt < 20) ∧ (xPl (v * 20 + i).toNatClampNeg) = rx) ∨ ((((1 ≤ v.toInt ∧ v.toInt ≤ xTl.toInt) ∧ xRw xUp (xKi v.toNatClampNeg) ∧ 0 ≤ i.toInt ∧ i.toInt < (xAm v.toNatClampNeg).toInt)) ∧ (20 ≤ i.toInt) ∧ 0 = rx)) (bb : ((((1 ≤ v.toInt ∧ v.toInt ≤ mTn.toInt) ∧ 20 ≤ (mTt v.toNatClampNeg).toInt ∧ 0 ≤ i.toInt ∧ i.toInt < (mTi v.toNatClampNeg).toInt)) ∧ (mPl (20 * v + i).toNatClampNeg) = rm) ∨ ((¬ ((1 ≤ v.toInt ∧ v.toInt ≤ mTn.toInt) ∧ 20 ≤ (mTt v.toNatClampNeg).toInt ∧ 0 ≤ i.toInt ∧ i.toInt < (mTi v.toNatClampNeg).toInt)) ∧ (-1) = rm)) : rIv xTc xFc xRc xVc xLr xFl xTn xMn xSt xAb xVa xD1 xD2 xTl xOl xKn xPa xUp xAl xHa xNm xKi xAm xPl xKe xTo xFa xRe xVl xAr mTy mPa mTo mTm mMn mOt mNa mRe mMa mMy mPm mFn mFy mFa mFr mRn mFo mRt mRm mTn mTt mTi mPl mVn mVr mVf mVc mAr mLr mTc mTr mFl dyn ∧ rx = rm := by
  have e_r_tn := h.r_tn
  have e_r_tc := h.r_tc
  have e_r_to := h.r_to
  have e_r_mn := h.r_mn
  have e_r_fc := h.r_fc
  have e_r_rc := h.r_rc
  have e_r_tl := h.r_tl
  have e_r_ki := h.r_ki
  have e_r_am := h.r_am
  have e_r_pl := h.r_pl
  have e_r_vc := h.r_vc
  have e_r_ar := h.r_ar
  have e_r_lr := h.r_lr
  have e_r_fl := h.r_fl
  have e_r_kn := h.r_kn
  subst e_r_tn; subst e_r_tc; subst e_r_to; subst e_r_mn; subst e_r_fc; subst e_r_rc; subst e_r_tl; subst e_r_ki; subst e_r_am; subst e_r_pl; subst e_r_vc; subst e_r_ar; subst e_r_lr; subst e_r_fl; subst e_r_kn
  have w1 := hm.ity
  have w2 := hm.itm
  have w3 := hm.imn
  have w4 := hm.ifn
  have w5 := hm.irn
  have w6 := hm.itn
  have w7 := hm.ivn
  have w8 := hm.itr
  have hxr : (1 ≤ v.toInt ∧ v.toInt ≤ mTn.toInt) → (xRw xUp (mTt v.toNatClampNeg) ↔ 20 ≤ (mTt v.toNatClampNeg).toInt) := fun q => by
    have hx := xN (x := v) (by omega)
    have hk := h.r_kd v.toNatClampNeg (by omega) (by omega)
    unfold xRw
    rw [h.r_mm.1.1]
    exact ⟨fun z => z.2, fun z => ⟨kd_any hk, z⟩⟩
  have hti : (1 ≤ v.toInt ∧ v.toInt ≤ mTn.toInt) → 20 ≤ (mTt v.toNatClampNeg).toInt → (mTi v.toNatClampNeg).toInt ≤ 20 := fun q z => ((hm.itk v.toNatClampNeg (by have hx := xN (x := v) (by omega); omega) (by have hx := xN (x := v) (by omega); omega)).2 z).2
  rcases bb with bb | bb
  · obtain ⟨u0, ff0⟩ := bb
    rcases aa with aa | aa | aa
    · obtain ⟨q0, ee0⟩ := aa
      subst ee0 ff0
      exact absurd ⟨u0.1, (hxr u0.1).mpr u0.2.1, u0.2.2⟩ q0
    · obtain ⟨q0, q1, ee0⟩ := aa
      subst ee0 ff0
      refine ⟨h, ?_⟩; rw [show v * 20 = 20 * v from Int32.mul_comm v 20]
    · obtain ⟨q0, q1, ee0⟩ := aa
      subst ee0 ff0
      have := hti u0.1 u0.2.1; exfalso; omega
  · obtain ⟨u0, ff0⟩ := bb
    rcases aa with aa | aa | aa
    · obtain ⟨q0, ee0⟩ := aa
      subst ee0 ff0
      exact ⟨h, rfl⟩
    · obtain ⟨q0, q1, ee0⟩ := aa
      subst ee0 ff0
      exact absurd ⟨q0.1, (hxr q0.1).mp q0.2.1, q0.2.2⟩ u0
    · obtain ⟨q0, q1, ee0⟩ := aa
      subst ee0 ff0
      exact absurd ⟨q0.1, (hxr q0.1).mp q0.2.1, q0.2.2⟩ u0
set_option maxRecDepth 100000 in
set_option maxHeartbeats 4000000 in
theorem pr_meant {xTc : Int32} {xFc : Int32} {xRc : Int32} {xVc : Int32} {xLr : Int32} {xFl : Int32} {xTn : Int32} {xMn : Int32} {xSt : Int64} {xAb : Int64} {xVa : Int64} {xBy : Value} {xBs : Int32} {xA1 : Value} {xF1 : Int32} {xT1 : Int64} {xP1 : Int32} {xD1 : Value} {xA2 : Value} {xF2 : Int32} {xT2 : Int64} {xP2 : Int32} {xD2 : Value} {xTl : Int32} {xOl : Int32} {xKn : Int32} {xPa : Nat → Int32} {xUp : Nat → Int32} {xAl : Nat → Option Nat} {xHa : Nat → Int64} {xNm : Nat → Int64} {xKi : Nat → Int32} {xAm : Nat → Int32} {xPl : Nat → Int32} {xKe : Nat → Int32} {xTo : Nat → Int32} {xFa : Nat → Option Nat} {xRe : Nat → Option Nat} {xVl : Nat → Option Nat} {xAr : Nat → Int32} {mTy : Int32} {mPa : Nat → Int32} {mTo : Nat → Int32} {mTm : Int32} {mMn : Int32} {mOt : Nat → Int32} {mNa : Nat → Int32} {mRe : Nat → Int32} {mMa : Nat → Int32} {mMy : Nat → Int32} {mPm : Nat → Int32} {mFn : Int32} {mFy : Nat → Int32} {mFa : Nat → Int32} {mFr : Nat → Int32} {mRn : Int32} {mFo : Nat → Int32} {mRt : Nat → Int32} {mRm : Nat → Int32} {mTn : Int32} {mTt : Nat → Int32} {mTi : Nat → Int32} {mPl : Nat → Int32} {mVn : Int32} {mVr : Nat → Int32} {mVf : Nat → Int32} {mVc : Nat → Int32} {mAr : Nat → Int32} {mLr : Int32} {mTc : Nat → Int32} {mTr : Int32} {mFl : Int32} {mFt : Nat → Int32} {mFm : Int32} {mFp : Int32} {mSc : Int32} {mMp : Int32} {dyn : pm_H} {yBy : Value} {yBs : Int32} {yA1 : Value} {yF1 : Int32} {yT1 : Int64} {yP1 : Int32} {yD1 : Value} {yA2 : Value} {yF2 : Int32} {yT2 : Int64} {yP2 : Int32} {yD2 : Value} {nFt : Nat → Int32} {nFm : Int32} {nFp : Int32} {nSc : Int32} {nMp : Int32} {r : Int32} {f : Int32} {o1 : Option Nat} {o2 : Option Nat} {rx : Int32} {rm : Int32}  (ho1 : ∀ b : Nat, o1 = some b → (b : Int) < mMn.toInt) (ho2 : ∀ b : Nat, o2 = some b → (b : Int) < mMn.toInt) (hm : mIv mTy mPa mTo mTm mMn mOt mNa mRe mMa mMy mPm mFn mFy mFa mFr mRn mFo mRt mRm mTn mTt mTi mVn mVr mVf mVc mTr) (hn : mIv mTy mPa mTo mTm mMn mOt mNa mRe mMa mMy mPm mFn mFy mFa mFr mRn mFo mRt mRm mTn mTt mTi mVn mVr mVf mVc mTr) (h : rIv xTc xFc xRc xVc xLr xFl xTn xMn xSt xAb xVa xD1 xD2 xTl xOl xKn xPa xUp xAl xHa xNm xKi xAm xPl xKe xTo xFa xRe xVl xAr mTy mPa mTo mTm mMn mOt mNa mRe mMa mMy mPm mFn mFy mFa mFr mRn mFo mRt mRm mTn mTt mTi mPl mVn mVr mVf mVc mAr mLr mTc mTr mFl dyn) (aa : ((¬ ((0 ≤ r.toInt ∧ r.toInt < xRc.toInt) ∧ (0 ≤ f.toInt ∧ f.toInt < xFc.toInt))) ∧ (-1) = rx ∧ xBy = yBy ∧ xBs = yBs ∧ xA1 = yA1 ∧ xF1 = yF1 ∧ xT1 = yT1 ∧ xP1 = yP1 ∧ xD1 = yD1 ∧ xA2 = yA2 ∧ xF2 = yF2 ∧ xT2 = yT2 ∧ xP2 = yP2 ∧ xD2 = yD2) ∨ (∃ (r9 : Int32) (b9 : Value) (s9 : Int32) (o19 : Option Nat) (o29 : Option Nat) (a19 : Value) (f19 : Int32) (t19 : Int64) (p19 : Int32) (d19 : Value) (a29 : Value) (f29 : Int32) (t29 : Int64) (p29 : Int32) (d29 : Value), (((0 ≤ r.toInt ∧ r.toInt < xRc.toInt) ∧ (0 ≤ f.toInt ∧ f.toInt < xFc.toInt))) ∧ (fdF mOt mNa mRe mMa mMy mPm dyn d19 o19) ∧ (fdF mOt mNa mRe mMa mMy mPm dyn d29 o29) ∧ (fiX xUp xPa mRe mMa mMy mPm xSt xAb xHa xNm xTn xMn (mFy f.toNatClampNeg).toNatClampNeg (cutF mFy mFa f.toNatClampNeg) (mFo r.toNatClampNeg) (mRt r.toNatClampNeg) (rnF mFo mRm r.toNatClampNeg) (mFr f.toNatClampNeg) f19 t19 p19 o19 f29 t29 p29 o29 b9 s9 r9) ∧ ((mFo r.toNatClampNeg).toInt = 4 → o19 = o1) ∧ ((mFo r.toNatClampNeg).toInt ≠ 0 → o29 = o2) ∧ r9 = rx ∧ b9 = yBy ∧ s9 = yBs ∧ a19 = yA1 ∧ f19 = yF1 ∧ t19 = yT1 ∧ p19 = yP1 ∧ d19 = yD1 ∧ a29 = yA2 ∧ f29 = yF2 ∧ t29 = yT2 ∧ p29 = yP2 ∧ d29 = yD2)) (bb : ((¬ ((0 ≤ r.toInt ∧ r.toInt < mRn.toInt) ∧ (0 ≤ f.toInt ∧ f.toInt < mFn.toInt))) ∧ (-1) = rm ∧ mFt = nFt ∧ mFm = nFm ∧ mFp = nFp ∧ mSc = nSc ∧ mMp = nMp) ∨ (∃ (s9 : Int32) (f9 : Nat → Int32) (m9 : Int32) (q9 : Int32) (p9 : Int32) (r9 : Int32), ((0 ≤ r.toInt ∧ r.toInt < mRn.toInt) ∧ (0 ≤ f.toInt ∧ f.toInt < mFn.toInt)) ∧ (wmM mPa mOt mNa mRe mMy mPm mMa mFa mFy mFr mMn (mFo r.toNatClampNeg) (mRt r.toNatClampNeg) (mRm r.toNatClampNeg) f s9 p9 r9) ∧ ((-15 ≤ r9.toInt ∧ (r9.toInt < mMn.toInt ∨ (r9.toInt = 99 ∧ 3 ≤ (mFo r.toNatClampNeg).toInt))) ∧ (0 ≤ p9.toInt ∧ p9.toInt ≤ 3)) ∧ r9 = rm ∧ f9 = nFt ∧ m9 = nFm ∧ q9 = nFp ∧ s9 = nSc ∧ p9 = nMp)) : rIv xTc xFc xRc xVc xLr xFl xTn xMn xSt xAb xVa yD1 yD2 xTl xOl xKn xPa xUp xAl xHa xNm xKi xAm xPl xKe xTo xFa xRe xVl xAr mTy mPa mTo mTm mMn mOt mNa mRe mMa mMy mPm mFn mFy mFa mFr mRn mFo mRt mRm mTn mTt mTi mPl mVn mVr mVf mVc mAr mLr mTc mTr mFl dyn ∧ rx = rm := by
  have e_r_tn := h.r_tn
  have e_r_tc := h.r_tc
  have e_r_to := h.r_to
  have e_r_mn := h.r_mn
  have e_r_fc := h.r_fc
  have e_r_rc := h.r_rc
  have e_r_tl := h.r_tl
  have e_r_ki := h.r_ki
  have e_r_am := h.r_am
  have e_r_pl := h.r_pl
  have e_r_vc := h.r_vc
  have e_r_ar := h.r_ar
  have e_r_lr := h.r_lr
  have e_r_fl := h.r_fl
  have e_r_kn := h.r_kn
  subst e_r_tn; subst e_r_tc; subst e_r_to; subst e_r_mn; subst e_r_fc; subst e_r_rc; subst e_r_tl; subst e_r_ki; subst e_r_am; subst e_r_pl; subst e_r_vc; subst e_r_ar; subst e_r_lr; subst e_r_fl; subst e_r_kn
  have w1 := hm.ity
  have w2 := hm.itm
  have w3 := hm.imn
  have w4 := hm.ifn
  have w5 := hm.irn
  have w6 := hm.itn
  have w7 := hm.ivn
  have w8 := hm.itr
  have hrfx : (0 ≤ r.toInt ∧ r.toInt < mRn.toInt) → rfR mTy (mFo r.toNatClampNeg) (mRt r.toNatClampNeg) (mRm r.toNatClampNeg) := fun q => h.r_rf _ (by have := xN q.1; omega)
  have hfcx : (0 ≤ f.toInt ∧ f.toInt < mFn.toInt) → fcR mTy mFy mFa mFr f := fun q => ⟨by omega, fcD_at hm.ifc q, hm.ifa, h.r_fr _ (by have := xN q.1; omega)⟩
  rcases bb with bb | bb
  · obtain ⟨u0, ff0, ff1, ff2, ff3, ff4, ff5⟩ := bb
    rcases aa with aa | aa
    · obtain ⟨q0, ee0, ee1, ee2, ee3, ee4, ee5, ee6, ee7, ee8, ee9, ee10, ee11, ee12⟩ := aa
      subst ee0 ee1 ee2 ee3 ee4 ee5 ee6 ee7 ee8 ee9 ee10 ee11 ee12 ff0 ff1 ff2 ff3 ff4 ff5
      exact ⟨h, rfl⟩
    · obtain ⟨r9x, b9x, s9x, o19x, o29x, a19x, f19x, t19x, p19x, d19x, a29x, f29x, t29x, p29x, d29x, q0, q1, q2, q3, q4, q5, ee0, ee1, ee2, ee3, ee4, ee5, ee6, ee7, ee8, ee9, ee10, ee11, ee12⟩ := aa
      subst ee0 ee1 ee2 ee3 ee4 ee5 ee6 ee7 ee8 ee9 ee10 ee11 ee12 ff0 ff1 ff2 ff3 ff4 ff5
      exact absurd q0 u0
  · obtain ⟨s9m, f9m, m9m, q9m, p9m, r9m, u0, u1, u2, ff0, ff1, ff2, ff3, ff4, ff5⟩ := bb
    rcases aa with aa | aa
    · obtain ⟨q0, ee0, ee1, ee2, ee3, ee4, ee5, ee6, ee7, ee8, ee9, ee10, ee11, ee12⟩ := aa
      subst ee0 ee1 ee2 ee3 ee4 ee5 ee6 ee7 ee8 ee9 ee10 ee11 ee12 ff0 ff1 ff2 ff3 ff4 ff5
      exact absurd u0 q0
    · obtain ⟨r9x, b9x, s9x, o19x, o29x, a19x, f19x, t19x, p19x, d19x, a29x, f29x, t29x, p29x, d29x, q0, q1, q2, q3, q4, q5, ee0, ee1, ee2, ee3, ee4, ee5, ee6, ee7, ee8, ee9, ee10, ee11, ee12⟩ := aa
      subst ee0 ee1 ee2 ee3 ee4 ee5 ee6 ee7 ee8 ee9 ee10 ee11 ee12 ff0 ff1 ff2 ff3 ff4 ff5
      obtain ⟨sc, mp, k1, _⟩ := fi_x h.r_mm (hfcx q0.2) (hrfx q0.1) q3; have fb := fo_b h.r_mm (hfcx q0.2) (hrfx q0.1) q3 q4 q5 ho1 ho2; exact ⟨(rIv.mk (r_tn := h.r_tn) (r_tc := h.r_tc) (r_to := h.r_to) (r_mn := h.r_mn) (r_fc := h.r_fc) (r_rc := h.r_rc) (r_tl := h.r_tl) (r_ki := h.r_ki) (r_am := h.r_am) (r_pl := h.r_pl) (r_vc := h.r_vc) (r_ar := h.r_ar) (r_lr := h.r_lr) (r_fl := h.r_fl) (r_kn := h.r_kn) (r_mm := h.r_mm) (r_ot := h.r_ot) (r_al := h.r_al) (r_fa := h.r_fa) (r_fr := h.r_fr) (r_re := h.r_re) (r_rf := h.r_rf) (r_kd := h.r_kd) (r_vl := h.r_vl) (r_ol := h.r_ol) (r_ke := h.r_ke) (r_d1 := ⟨_, q1, fb.1⟩) (r_d2 := ⟨_, q2, fb.2⟩)), (wm_e k1 u1).2.2⟩
set_option maxRecDepth 100000 in
set_option maxHeartbeats 4000000 in
theorem pr_search {xTc : Int32} {xFc : Int32} {xRc : Int32} {xVc : Int32} {xLr : Int32} {xFl : Int32} {xTn : Int32} {xMn : Int32} {xSt : Int64} {xAb : Int64} {xVa : Int64} {xA1 : Value} {xF1 : Int32} {xT1 : Int64} {xP1 : Int32} {xD1 : Value} {xA2 : Value} {xF2 : Int32} {xT2 : Int64} {xP2 : Int32} {xD2 : Value} {xTl : Int32} {xOl : Int32} {xKn : Int32} {xPa : Nat → Int32} {xUp : Nat → Int32} {xAl : Nat → Option Nat} {xHa : Nat → Int64} {xNm : Nat → Int64} {xKi : Nat → Int32} {xAm : Nat → Int32} {xPl : Nat → Int32} {xKe : Nat → Int32} {xTo : Nat → Int32} {xFa : Nat → Option Nat} {xRe : Nat → Option Nat} {xVl : Nat → Option Nat} {xAr : Nat → Int32} {mTy : Int32} {mPa : Nat → Int32} {mTo : Nat → Int32} {mTm : Int32} {mMn : Int32} {mOt : Nat → Int32} {mNa : Nat → Int32} {mRe : Nat → Int32} {mMa : Nat → Int32} {mMy : Nat → Int32} {mPm : Nat → Int32} {mFn : Int32} {mFy : Nat → Int32} {mFa : Nat → Int32} {mFr : Nat → Int32} {mRn : Int32} {mFo : Nat → Int32} {mRt : Nat → Int32} {mRm : Nat → Int32} {mTn : Int32} {mTt : Nat → Int32} {mTi : Nat → Int32} {mPl : Nat → Int32} {mVn : Int32} {mVr : Nat → Int32} {mVf : Nat → Int32} {mVc : Nat → Int32} {mAr : Nat → Int32} {mLr : Int32} {mTc : Nat → Int32} {mTr : Int32} {mFl : Int32} {mFt : Nat → Int32} {mFm : Int32} {mFp : Int32} {dyn : pm_H} {yA1 : Value} {yF1 : Int32} {yT1 : Int64} {yP1 : Int32} {yD1 : Value} {yA2 : Value} {yF2 : Int32} {yT2 : Int64} {yP2 : Int32} {yD2 : Value} {nFt : Nat → Int32} {nFm : Int32} {nFp : Int32} {r : Int32} {f : Int32} {wh : Int32} {o1 : Option Nat} {o2 : Option Nat} {rx : Int32} {rm : Int32}  (ho1 : ∀ b : Nat, o1 = some b → (b : Int) < mMn.toInt) (ho2 : ∀ b : Nat, o2 = some b → (b : Int) < mMn.toInt) (hm : mIv mTy mPa mTo mTm mMn mOt mNa mRe mMa mMy mPm mFn mFy mFa mFr mRn mFo mRt mRm mTn mTt mTi mVn mVr mVf mVc mTr) (hn : mIv mTy mPa mTo mTm mMn mOt mNa mRe mMa mMy mPm mFn mFy mFa mFr mRn mFo mRt mRm mTn mTt mTi mVn mVr mVf mVc mTr) (h : rIv xTc xFc xRc xVc xLr xFl xTn xMn xSt xAb xVa xD1 xD2 xTl xOl xKn xPa xUp xAl xHa xNm xKi xAm xPl xKe xTo xFa xRe xVl xAr mTy mPa mTo mTm mMn mOt mNa mRe mMa mMy mPm mFn mFy mFa mFr mRn mFo mRt mRm mTn mTt mTi mPl mVn mVr mVf mVc mAr mLr mTc mTr mFl dyn) (aa : ((¬ ((0 ≤ r.toInt ∧ r.toInt < xRc.toInt) ∧ (0 ≤ f.toInt ∧ f.toInt < xFc.toInt))) ∧ (-1) = rx ∧ xA1 = yA1 ∧ xF1 = yF1 ∧ xT1 = yT1 ∧ xP1 = yP1 ∧ xD1 = yD1 ∧ xA2 = yA2 ∧ xF2 = yF2 ∧ xT2 = yT2 ∧ xP2 = yP2 ∧ xD2 = yD2) ∨ ((((0 ≤ r.toInt ∧ r.toInt < xRc.toInt) ∧ (0 ≤ f.toInt ∧ f.toInt < xFc.toInt))) ∧ ((((mFo r.toNatClampNeg).toInt = 4) ∨ ((mFo r.toNatClampNeg).toInt = 0 ∧ (wh.toInt < 1 ∨ 2 < wh.toInt)) ∨ ((mFo r.toNatClampNeg).toInt ≠ 0 ∧ wh.toInt ≠ 1))) ∧ (-1) = rx ∧ xA1 = yA1 ∧ xF1 = yF1 ∧ xT1 = yT1 ∧ xP1 = yP1 ∧ xD1 = yD1 ∧ xA2 = yA2 ∧ xF2 = yF2 ∧ xT2 = yT2 ∧ xP2 = yP2 ∧ xD2 = yD2) ∨ ((((0 ≤ r.toInt ∧ r.toInt < xRc.toInt) ∧ (0 ≤ f.toInt ∧ f.toInt < xFc.toInt))) ∧ (¬ (((mFo r.toNatClampNeg).toInt = 4) ∨ ((mFo r.toNatClampNeg).toInt = 0 ∧ (wh.toInt < 1 ∨ 2 < wh.toInt)) ∨ ((mFo r.toNatClampNeg).toInt ≠ 0 ∧ wh.toInt ≠ 1))) ∧ (((mFo r.toNatClampNeg).toInt = 3 ∧ (hbX xHa xNm (mRt r.toNatClampNeg) &&& xAb ≠ 0 ∨ nmX xHa xNm (mRt r.toNatClampNeg) 6 = 0))) ∧ (-3) = rx ∧ xA1 = yA1 ∧ xF1 = yF1 ∧ xT1 = yT1 ∧ xP1 = yP1 ∧ xD1 = yD1 ∧ xA2 = yA2 ∧ xF2 = yF2 ∧ xT2 = yT2 ∧ xP2 = yP2 ∧ xD2 = yD2) ∨ (∃ (o19 : Option Nat) (a19 : Value) (f19 : Int32) (t19 : Int64) (p19 : Int32) (d19 : Value), (((0 ≤ r.toInt ∧ r.toInt < xRc.toInt) ∧ (0 ≤ f.toInt ∧ f.toInt < xFc.toInt))) ∧ (¬ (((mFo r.toNatClampNeg).toInt = 4) ∨ ((mFo r.toNatClampNeg).toInt = 0 ∧ (wh.toInt < 1 ∨ 2 < wh.toInt)) ∨ ((mFo r.toNatClampNeg).toInt ≠ 0 ∧ wh.toInt ≠ 1))) ∧ (¬ ((mFo r.toNatClampNeg).toInt = 3 ∧ (hbX xHa xNm (mRt r.toNatClampNeg) &&& xAb ≠ 0 ∨ nmX xHa xNm (mRt r.toNatClampNeg) 6 = 0))) ∧ (wh.toInt = 1) ∧ (fdF mOt mNa mRe mMa mMy mPm dyn d19 o19) ∧ (rsX xUp mMa mMy mPm (nmX xHa xNm (tsX xPa xTn (mFo r.toNatClampNeg) (mRt r.toNatClampNeg)) (rnF mFo mRm r.toNatClampNeg)) (tsX xPa xTn (mFo r.toNatClampNeg) (mRt r.toNatClampNeg)) (mFy f.toNatClampNeg).toNatClampNeg (cutF mFy mFa f.toNatClampNeg) xMn 0 f19 t19 p19 o19) ∧ (anX o19 t19) = rx ∧ a19 = yA1 ∧ f19 = yF1 ∧ t19 = yT1 ∧ p19 = yP1 ∧ d19 = yD1 ∧ xA2 = yA2 ∧ xF2 = yF2 ∧ xT2 = yT2 ∧ xP2 = yP2 ∧ xD2 = yD2) ∨ (∃ (o29 : Option Nat) (a29 : Value) (f29 : Int32) (t29 : Int64) (p29 : Int32) (d29 : Value), (((0 ≤ r.toInt ∧ r.toInt < xRc.toInt) ∧ (0 ≤ f.toInt ∧ f.toInt < xFc.toInt))) ∧ (¬ (((mFo r.toNatClampNeg).toInt = 4) ∨ ((mFo r.toNatClampNeg).toInt = 0 ∧ (wh.toInt < 1 ∨ 2 < wh.toInt)) ∨ ((mFo r.toNatClampNeg).toInt ≠ 0 ∧ wh.toInt ≠ 1))) ∧ (¬ ((mFo r.toNatClampNeg).toInt = 3 ∧ (hbX xHa xNm (mRt r.toNatClampNeg) &&& xAb ≠ 0 ∨ nmX xHa xNm (mRt r.toNatClampNeg) 6 = 0))) ∧ (wh.toInt ≠ 1) ∧ (fdF mOt mNa mRe mMa mMy mPm dyn d29 o29) ∧ (rsX xUp mMa mMy mPm (nmX xHa xNm (mRt r.toNatClampNeg) (rnF mFo mRm r.toNatClampNeg)) (mRt r.toNatClampNeg) (mFy f.toNatClampNeg).toNatClampNeg (cutF mFy mFa f.toNatClampNeg) xMn 1 f29 t29 p29 o29) ∧ (anX o29 t29) = rx ∧ xA1 = yA1 ∧ xF1 = yF1 ∧ xT1 = yT1 ∧ xP1 = yP1 ∧ xD1 = yD1 ∧ a29 = yA2 ∧ f29 = yF2 ∧ t29 = yT2 ∧ p29 = yP2 ∧ d29 = yD2)) (bb : ((¬ ((0 ≤ r.toInt ∧ r.toInt < mRn.toInt) ∧ (0 ≤ f.toInt ∧ f.toInt < mFn.toInt) ∧ (mFo r.toNatClampNeg).toInt ≠ 4 ∧ 1 ≤ wh.toInt ∧ (wh.toInt ≤ 1 ∨ (wh.toInt ≤ 2 ∧ (mFo r.toNatClampNeg).toInt = 0)))) ∧ (-1) = rm ∧ mFt = nFt ∧ mFm = nFm ∧ mFp = nFp) ∨ ((((0 ≤ r.toInt ∧ r.toInt < mRn.toInt) ∧ (0 ≤ f.toInt ∧ f.toInt < mFn.toInt) ∧ (mFo r.toNatClampNeg).toInt ≠ 4 ∧ 1 ≤ wh.toInt ∧ (wh.toInt ≤ 1 ∨ (wh.toInt ≤ 2 ∧ (mFo r.toNatClampNeg).toInt = 0))) ∧ (mFo r.toNatClampNeg).toInt = 3) ∧ ((opL mPa mOt mNa mMy mPm mMa mMn (mRt r.toNatClampNeg) 0 ∨ ¬ mkE mOt mNa mMn (mRt r.toNatClampNeg) 0)) ∧ (-3) = rm ∧ mFt = nFt ∧ mFm = nFm ∧ mFp = nFp) ∨ (∃ (f9 : Nat → Int32) (m9 : Int32) (p9 : Int32) (r9 : Int32), (((0 ≤ r.toInt ∧ r.toInt < mRn.toInt) ∧ (0 ≤ f.toInt ∧ f.toInt < mFn.toInt) ∧ (mFo r.toNatClampNeg).toInt ≠ 4 ∧ 1 ≤ wh.toInt ∧ (wh.toInt ≤ 1 ∨ (wh.toInt ≤ 2 ∧ (mFo r.toNatClampNeg).toInt = 0)))) ∧ ((mFo r.toNatClampNeg).toInt ≠ 3 ∨ (¬ opL mPa mOt mNa mMy mPm mMa mMn (mRt r.toNatClampNeg) 0 ∧ mkE mOt mNa mMn (mRt r.toNatClampNeg) 0)) ∧ (lkS mPa mOt mNa mMy mPm mMa mFa mFy mMn (mFo r.toNatClampNeg) (mRt r.toNatClampNeg) (mRm r.toNatClampNeg) f wh p9 r9) ∧ ((r9.toInt = -4 ∨ r9.toInt = -5 ∨ 0 ≤ r9.toInt)) ∧ ((-5 ≤ r9.toInt ∧ r9.toInt < mMn.toInt) ∧ (0 ≤ p9.toInt ∧ p9.toInt ≤ 3)) ∧ r9 = rm ∧ f9 = nFt ∧ m9 = nFm ∧ p9 = nFp)) : rIv xTc xFc xRc xVc xLr xFl xTn xMn xSt xAb xVa yD1 yD2 xTl xOl xKn xPa xUp xAl xHa xNm xKi xAm xPl xKe xTo xFa xRe xVl xAr mTy mPa mTo mTm mMn mOt mNa mRe mMa mMy mPm mFn mFy mFa mFr mRn mFo mRt mRm mTn mTt mTi mPl mVn mVr mVf mVc mAr mLr mTc mTr mFl dyn ∧ rx = rm := by
  have e_r_tn := h.r_tn
  have e_r_tc := h.r_tc
  have e_r_to := h.r_to
  have e_r_mn := h.r_mn
  have e_r_fc := h.r_fc
  have e_r_rc := h.r_rc
  have e_r_tl := h.r_tl
  have e_r_ki := h.r_ki
  have e_r_am := h.r_am
  have e_r_pl := h.r_pl
  have e_r_vc := h.r_vc
  have e_r_ar := h.r_ar
  have e_r_lr := h.r_lr
  have e_r_fl := h.r_fl
  have e_r_kn := h.r_kn
  subst e_r_tn; subst e_r_tc; subst e_r_to; subst e_r_mn; subst e_r_fc; subst e_r_rc; subst e_r_tl; subst e_r_ki; subst e_r_am; subst e_r_pl; subst e_r_vc; subst e_r_ar; subst e_r_lr; subst e_r_fl; subst e_r_kn
  have w1 := hm.ity
  have w2 := hm.itm
  have w3 := hm.imn
  have w4 := hm.ifn
  have w5 := hm.irn
  have w6 := hm.itn
  have w7 := hm.ivn
  have w8 := hm.itr
  have hrfx : (0 ≤ r.toInt ∧ r.toInt < mRn.toInt) → rfR mTy (mFo r.toNatClampNeg) (mRt r.toNatClampNeg) (mRm r.toNatClampNeg) := fun q => h.r_rf _ (by have := xN q.1; omega)
  have hfcx : (0 ≤ f.toInt ∧ f.toInt < mFn.toInt) → fcR mTy mFy mFa mFr f := fun q => ⟨by omega, fcD_at hm.ifc q, hm.ifa, h.r_fr _ (by have := xN q.1; omega)⟩
  have hsf : (0 ≤ r.toInt ∧ r.toInt < mRn.toInt) → (mFo r.toNatClampNeg).toInt ≠ 4 → ((hbX xHa xNm (mRt r.toNatClampNeg) &&& xAb ≠ 0 ∨ nmX xHa xNm (mRt r.toNatClampNeg) 6 = 0) ↔ (opL mPa mOt mNa mMy mPm mMa mMn (mRt r.toNatClampNeg) 0 ∨ ¬ mkE mOt mNa mMn (mRt r.toNatClampNeg) 0)) := fun q k => sf_x h.r_mm ((hrfx q).2.1 k)
  rcases bb with bb | bb | bb
  · obtain ⟨u0, ff0, ff1, ff2, ff3⟩ := bb
    rcases aa with aa | aa | aa | aa | aa
    · obtain ⟨q0, ee0, ee1, ee2, ee3, ee4, ee5, ee6, ee7, ee8, ee9, ee10⟩ := aa
      subst ee0 ee1 ee2 ee3 ee4 ee5 ee6 ee7 ee8 ee9 ee10 ff0 ff1 ff2 ff3
      exact ⟨h, rfl⟩
    · obtain ⟨q0, q1, ee0, ee1, ee2, ee3, ee4, ee5, ee6, ee7, ee8, ee9, ee10⟩ := aa
      subst ee0 ee1 ee2 ee3 ee4 ee5 ee6 ee7 ee8 ee9 ee10 ff0 ff1 ff2 ff3
      exact ⟨h, rfl⟩
    · obtain ⟨q0, q1, q2, ee0, ee1, ee2, ee3, ee4, ee5, ee6, ee7, ee8, ee9, ee10⟩ := aa
      subst ee0 ee1 ee2 ee3 ee4 ee5 ee6 ee7 ee8 ee9 ee10 ff0 ff1 ff2 ff3
      exfalso; omega
    · obtain ⟨o19x, a19x, f19x, t19x, p19x, d19x, q0, q1, q2, q3, q4, q5, ee0, ee1, ee2, ee3, ee4, ee5, ee6, ee7, ee8, ee9, ee10⟩ := aa
      subst ee0 ee1 ee2 ee3 ee4 ee5 ee6 ee7 ee8 ee9 ee10 ff0 ff1 ff2 ff3
      exfalso; omega
    · obtain ⟨o29x, a29x, f29x, t29x, p29x, d29x, q0, q1, q2, q3, q4, q5, ee0, ee1, ee2, ee3, ee4, ee5, ee6, ee7, ee8, ee9, ee10⟩ := aa
      subst ee0 ee1 ee2 ee3 ee4 ee5 ee6 ee7 ee8 ee9 ee10 ff0 ff1 ff2 ff3
      exfalso; omega
  · obtain ⟨u0, u1, ff0, ff1, ff2, ff3⟩ := bb
    rcases aa with aa | aa | aa | aa | aa
    · obtain ⟨q0, ee0, ee1, ee2, ee3, ee4, ee5, ee6, ee7, ee8, ee9, ee10⟩ := aa
      subst ee0 ee1 ee2 ee3 ee4 ee5 ee6 ee7 ee8 ee9 ee10 ff0 ff1 ff2 ff3
      exfalso; omega
    · obtain ⟨q0, q1, ee0, ee1, ee2, ee3, ee4, ee5, ee6, ee7, ee8, ee9, ee10⟩ := aa
      subst ee0 ee1 ee2 ee3 ee4 ee5 ee6 ee7 ee8 ee9 ee10 ff0 ff1 ff2 ff3
      exfalso; omega
    · obtain ⟨q0, q1, q2, ee0, ee1, ee2, ee3, ee4, ee5, ee6, ee7, ee8, ee9, ee10⟩ := aa
      subst ee0 ee1 ee2 ee3 ee4 ee5 ee6 ee7 ee8 ee9 ee10 ff0 ff1 ff2 ff3
      exact ⟨h, rfl⟩
    · obtain ⟨o19x, a19x, f19x, t19x, p19x, d19x, q0, q1, q2, q3, q4, q5, ee0, ee1, ee2, ee3, ee4, ee5, ee6, ee7, ee8, ee9, ee10⟩ := aa
      subst ee0 ee1 ee2 ee3 ee4 ee5 ee6 ee7 ee8 ee9 ee10 ff0 ff1 ff2 ff3
      exact absurd ⟨u0.2, (hsf q0.1 (by omega)).mpr u1⟩ q2
    · obtain ⟨o29x, a29x, f29x, t29x, p29x, d29x, q0, q1, q2, q3, q4, q5, ee0, ee1, ee2, ee3, ee4, ee5, ee6, ee7, ee8, ee9, ee10⟩ := aa
      subst ee0 ee1 ee2 ee3 ee4 ee5 ee6 ee7 ee8 ee9 ee10 ff0 ff1 ff2 ff3
      exact absurd ⟨u0.2, (hsf q0.1 (by omega)).mpr u1⟩ q2
  · obtain ⟨f9m, m9m, p9m, r9m, u0, u1, u2, u3, u4, ff0, ff1, ff2, ff3⟩ := bb
    rcases aa with aa | aa | aa | aa | aa
    · obtain ⟨q0, ee0, ee1, ee2, ee3, ee4, ee5, ee6, ee7, ee8, ee9, ee10⟩ := aa
      subst ee0 ee1 ee2 ee3 ee4 ee5 ee6 ee7 ee8 ee9 ee10 ff0 ff1 ff2 ff3
      exfalso; omega
    · obtain ⟨q0, q1, ee0, ee1, ee2, ee3, ee4, ee5, ee6, ee7, ee8, ee9, ee10⟩ := aa
      subst ee0 ee1 ee2 ee3 ee4 ee5 ee6 ee7 ee8 ee9 ee10 ff0 ff1 ff2 ff3
      exfalso; omega
    · obtain ⟨q0, q1, q2, ee0, ee1, ee2, ee3, ee4, ee5, ee6, ee7, ee8, ee9, ee10⟩ := aa
      subst ee0 ee1 ee2 ee3 ee4 ee5 ee6 ee7 ee8 ee9 ee10 ff0 ff1 ff2 ff3
      rcases u1 with u1 | u1 <;> first | (exfalso; exact u1 q2.1) | exact absurd ((hsf q0.1 (by omega)).mp q2.2) (fun z => z.elim u1.1 (fun z => z u1.2))
    · obtain ⟨o19x, a19x, f19x, t19x, p19x, d19x, q0, q1, q2, q3, q4, q5, ee0, ee1, ee2, ee3, ee4, ee5, ee6, ee7, ee8, ee9, ee10⟩ := aa
      subst ee0 ee1 ee2 ee3 ee4 ee5 ee6 ee7 ee8 ee9 ee10 ff0 ff1 ff2 ff3
      exact ⟨(rIv.mk (r_tn := h.r_tn) (r_tc := h.r_tc) (r_to := h.r_to) (r_mn := h.r_mn) (r_fc := h.r_fc) (r_rc := h.r_rc) (r_tl := h.r_tl) (r_ki := h.r_ki) (r_am := h.r_am) (r_pl := h.r_pl) (r_vc := h.r_vc) (r_ar := h.r_ar) (r_lr := h.r_lr) (r_fl := h.r_fl) (r_kn := h.r_kn) (r_mm := h.r_mm) (r_ot := h.r_ot) (r_al := h.r_al) (r_fa := h.r_fa) (r_fr := h.r_fr) (r_re := h.r_re) (r_rf := h.r_rf) (r_kd := h.r_kd) (r_vl := h.r_vl) (r_ol := h.r_ol) (r_ke := h.r_ke) (r_d1 := ⟨_, q4, sb_1 h.r_mm (hfcx q0.2) (hrfx q0.1) (by omega) q5⟩) (r_d2 := h.r_d2)), (lk_1 h.r_mm (hfcx q0.2) (hrfx q0.1) (by omega) q3 q5 u2).2⟩
    · obtain ⟨o29x, a29x, f29x, t29x, p29x, d29x, q0, q1, q2, q3, q4, q5, ee0, ee1, ee2, ee3, ee4, ee5, ee6, ee7, ee8, ee9, ee10⟩ := aa
      subst ee0 ee1 ee2 ee3 ee4 ee5 ee6 ee7 ee8 ee9 ee10 ff0 ff1 ff2 ff3
      exact ⟨(rIv.mk (r_tn := h.r_tn) (r_tc := h.r_tc) (r_to := h.r_to) (r_mn := h.r_mn) (r_fc := h.r_fc) (r_rc := h.r_rc) (r_tl := h.r_tl) (r_ki := h.r_ki) (r_am := h.r_am) (r_pl := h.r_pl) (r_vc := h.r_vc) (r_ar := h.r_ar) (r_lr := h.r_lr) (r_fl := h.r_fl) (r_kn := h.r_kn) (r_mm := h.r_mm) (r_ot := h.r_ot) (r_al := h.r_al) (r_fa := h.r_fa) (r_fr := h.r_fr) (r_re := h.r_re) (r_rf := h.r_rf) (r_kd := h.r_kd) (r_vl := h.r_vl) (r_ol := h.r_ol) (r_ke := h.r_ke) (r_d1 := h.r_d1) (r_d2 := ⟨_, q4, sb_2 h.r_mm (hfcx q0.2) (hrfx q0.1) (by omega) q5⟩)), (lk_2 h.r_mm (hfcx q0.2) (hrfx q0.1) (by omega) (by omega) q5 u2).2⟩
set_option maxRecDepth 100000 in
set_option maxHeartbeats 4000000 in
theorem pr_phase {xTc : Int32} {xFc : Int32} {xRc : Int32} {xVc : Int32} {xLr : Int32} {xFl : Int32} {xTn : Int32} {xMn : Int32} {xSt : Int64} {xAb : Int64} {xVa : Int64} {xA1 : Value} {xF1 : Int32} {xT1 : Int64} {xP1 : Int32} {xD1 : Value} {xA2 : Value} {xF2 : Int32} {xT2 : Int64} {xP2 : Int32} {xD2 : Value} {xTl : Int32} {xOl : Int32} {xKn : Int32} {xPa : Nat → Int32} {xUp : Nat → Int32} {xAl : Nat → Option Nat} {xHa : Nat → Int64} {xNm : Nat → Int64} {xKi : Nat → Int32} {xAm : Nat → Int32} {xPl : Nat → Int32} {xKe : Nat → Int32} {xTo : Nat → Int32} {xFa : Nat → Option Nat} {xRe : Nat → Option Nat} {xVl : Nat → Option Nat} {xAr : Nat → Int32} {mTy : Int32} {mPa : Nat → Int32} {mTo : Nat → Int32} {mTm : Int32} {mMn : Int32} {mOt : Nat → Int32} {mNa : Nat → Int32} {mRe : Nat → Int32} {mMa : Nat → Int32} {mMy : Nat → Int32} {mPm : Nat → Int32} {mFn : Int32} {mFy : Nat → Int32} {mFa : Nat → Int32} {mFr : Nat → Int32} {mRn : Int32} {mFo : Nat → Int32} {mRt : Nat → Int32} {mRm : Nat → Int32} {mTn : Int32} {mTt : Nat → Int32} {mTi : Nat → Int32} {mPl : Nat → Int32} {mVn : Int32} {mVr : Nat → Int32} {mVf : Nat → Int32} {mVc : Nat → Int32} {mAr : Nat → Int32} {mLr : Int32} {mTc : Nat → Int32} {mTr : Int32} {mFl : Int32} {mFt : Nat → Int32} {mFm : Int32} {mFp : Int32} {dyn : pm_H} {yA1 : Value} {yF1 : Int32} {yT1 : Int64} {yP1 : Int32} {yD1 : Value} {yA2 : Value} {yF2 : Int32} {yT2 : Int64} {yP2 : Int32} {yD2 : Value} {nFt : Nat → Int32} {nFm : Int32} {nFp : Int32} {r : Int32} {f : Int32} {wh : Int32} {o1 : Option Nat} {o2 : Option Nat} {rx : Int32} {rm : Int32}  (ho1 : ∀ b : Nat, o1 = some b → (b : Int) < mMn.toInt) (ho2 : ∀ b : Nat, o2 = some b → (b : Int) < mMn.toInt) (hm : mIv mTy mPa mTo mTm mMn mOt mNa mRe mMa mMy mPm mFn mFy mFa mFr mRn mFo mRt mRm mTn mTt mTi mVn mVr mVf mVc mTr) (hn : mIv mTy mPa mTo mTm mMn mOt mNa mRe mMa mMy mPm mFn mFy mFa mFr mRn mFo mRt mRm mTn mTt mTi mVn mVr mVf mVc mTr) (h : rIv xTc xFc xRc xVc xLr xFl xTn xMn xSt xAb xVa xD1 xD2 xTl xOl xKn xPa xUp xAl xHa xNm xKi xAm xPl xKe xTo xFa xRe xVl xAr mTy mPa mTo mTm mMn mOt mNa mRe mMa mMy mPm mFn mFy mFa mFr mRn mFo mRt mRm mTn mTt mTi mPl mVn mVr mVf mVc mAr mLr mTc mTr mFl dyn) (aa : ((¬ ((0 ≤ r.toInt ∧ r.toInt < xRc.toInt) ∧ (0 ≤ f.toInt ∧ f.toInt < xFc.toInt))) ∧ (-1) = rx ∧ xA1 = yA1 ∧ xF1 = yF1 ∧ xT1 = yT1 ∧ xP1 = yP1 ∧ xD1 = yD1 ∧ xA2 = yA2 ∧ xF2 = yF2 ∧ xT2 = yT2 ∧ xP2 = yP2 ∧ xD2 = yD2) ∨ ((((0 ≤ r.toInt ∧ r.toInt < xRc.toInt) ∧ (0 ≤ f.toInt ∧ f.toInt < xFc.toInt))) ∧ ((((mFo r.toNatClampNeg).toInt = 4) ∨ ((mFo r.toNatClampNeg).toInt = 0 ∧ (wh.toInt < 1 ∨ 2 < wh.toInt)) ∨ ((mFo r.toNatClampNeg).toInt ≠ 0 ∧ wh.toInt ≠ 1))) ∧ (-1) = rx ∧ xA1 = yA1 ∧ xF1 = yF1 ∧ xT1 = yT1 ∧ xP1 = yP1 ∧ xD1 = yD1 ∧ xA2 = yA2 ∧ xF2 = yF2 ∧ xT2 = yT2 ∧ xP2 = yP2 ∧ xD2 = yD2) ∨ ((((0 ≤ r.toInt ∧ r.toInt < xRc.toInt) ∧ (0 ≤ f.toInt ∧ f.toInt < xFc.toInt))) ∧ (¬ (((mFo r.toNatClampNeg).toInt = 4) ∨ ((mFo r.toNatClampNeg).toInt = 0 ∧ (wh.toInt < 1 ∨ 2 < wh.toInt)) ∨ ((mFo r.toNatClampNeg).toInt ≠ 0 ∧ wh.toInt ≠ 1))) ∧ (((mFo r.toNatClampNeg).toInt = 3 ∧ (hbX xHa xNm (mRt r.toNatClampNeg) &&& xAb ≠ 0 ∨ nmX xHa xNm (mRt r.toNatClampNeg) 6 = 0))) ∧ (-3) = rx ∧ xA1 = yA1 ∧ xF1 = yF1 ∧ xT1 = yT1 ∧ xP1 = yP1 ∧ xD1 = yD1 ∧ xA2 = yA2 ∧ xF2 = yF2 ∧ xT2 = yT2 ∧ xP2 = yP2 ∧ xD2 = yD2) ∨ (∃ (o19 : Option Nat) (a19 : Value) (f19 : Int32) (t19 : Int64) (p19 : Int32) (d19 : Value), (((0 ≤ r.toInt ∧ r.toInt < xRc.toInt) ∧ (0 ≤ f.toInt ∧ f.toInt < xFc.toInt))) ∧ (¬ (((mFo r.toNatClampNeg).toInt = 4) ∨ ((mFo r.toNatClampNeg).toInt = 0 ∧ (wh.toInt < 1 ∨ 2 < wh.toInt)) ∨ ((mFo r.toNatClampNeg).toInt ≠ 0 ∧ wh.toInt ≠ 1))) ∧ (¬ ((mFo r.toNatClampNeg).toInt = 3 ∧ (hbX xHa xNm (mRt r.toNatClampNeg) &&& xAb ≠ 0 ∨ nmX xHa xNm (mRt r.toNatClampNeg) 6 = 0))) ∧ (wh.toInt = 1) ∧ (fdF mOt mNa mRe mMa mMy mPm dyn d19 o19) ∧ (rsX xUp mMa mMy mPm (nmX xHa xNm (tsX xPa xTn (mFo r.toNatClampNeg) (mRt r.toNatClampNeg)) (rnF mFo mRm r.toNatClampNeg)) (tsX xPa xTn (mFo r.toNatClampNeg) (mRt r.toNatClampNeg)) (mFy f.toNatClampNeg).toNatClampNeg (cutF mFy mFa f.toNatClampNeg) xMn 0 f19 t19 p19 o19) ∧ p19 = rx ∧ a19 = yA1 ∧ f19 = yF1 ∧ t19 = yT1 ∧ p19 = yP1 ∧ d19 = yD1 ∧ xA2 = yA2 ∧ xF2 = yF2 ∧ xT2 = yT2 ∧ xP2 = yP2 ∧ xD2 = yD2) ∨ (∃ (o29 : Option Nat) (a29 : Value) (f29 : Int32) (t29 : Int64) (p29 : Int32) (d29 : Value), (((0 ≤ r.toInt ∧ r.toInt < xRc.toInt) ∧ (0 ≤ f.toInt ∧ f.toInt < xFc.toInt))) ∧ (¬ (((mFo r.toNatClampNeg).toInt = 4) ∨ ((mFo r.toNatClampNeg).toInt = 0 ∧ (wh.toInt < 1 ∨ 2 < wh.toInt)) ∨ ((mFo r.toNatClampNeg).toInt ≠ 0 ∧ wh.toInt ≠ 1))) ∧ (¬ ((mFo r.toNatClampNeg).toInt = 3 ∧ (hbX xHa xNm (mRt r.toNatClampNeg) &&& xAb ≠ 0 ∨ nmX xHa xNm (mRt r.toNatClampNeg) 6 = 0))) ∧ (wh.toInt ≠ 1) ∧ (fdF mOt mNa mRe mMa mMy mPm dyn d29 o29) ∧ (rsX xUp mMa mMy mPm (nmX xHa xNm (mRt r.toNatClampNeg) (rnF mFo mRm r.toNatClampNeg)) (mRt r.toNatClampNeg) (mFy f.toNatClampNeg).toNatClampNeg (cutF mFy mFa f.toNatClampNeg) xMn 1 f29 t29 p29 o29) ∧ p29 = rx ∧ xA1 = yA1 ∧ xF1 = yF1 ∧ xT1 = yT1 ∧ xP1 = yP1 ∧ xD1 = yD1 ∧ a29 = yA2 ∧ f29 = yF2 ∧ t29 = yT2 ∧ p29 = yP2 ∧ d29 = yD2)) (bb : ((¬ ((0 ≤ r.toInt ∧ r.toInt < mRn.toInt) ∧ (0 ≤ f.toInt ∧ f.toInt < mFn.toInt) ∧ (mFo r.toNatClampNeg).toInt ≠ 4 ∧ 1 ≤ wh.toInt ∧ (wh.toInt ≤ 1 ∨ (wh.toInt ≤ 2 ∧ (mFo r.toNatClampNeg).toInt = 0)))) ∧ (-1) = rm ∧ mFt = nFt ∧ mFm = nFm ∧ mFp = nFp) ∨ ((((0 ≤ r.toInt ∧ r.toInt < mRn.toInt) ∧ (0 ≤ f.toInt ∧ f.toInt < mFn.toInt) ∧ (mFo r.toNatClampNeg).toInt ≠ 4 ∧ 1 ≤ wh.toInt ∧ (wh.toInt ≤ 1 ∨ (wh.toInt ≤ 2 ∧ (mFo r.toNatClampNeg).toInt = 0))) ∧ (mFo r.toNatClampNeg).toInt = 3) ∧ ((opL mPa mOt mNa mMy mPm mMa mMn (mRt r.toNatClampNeg) 0 ∨ ¬ mkE mOt mNa mMn (mRt r.toNatClampNeg) 0)) ∧ (-3) = rm ∧ mFt = nFt ∧ mFm = nFm ∧ mFp = nFp) ∨ (∃ (f9 : Nat → Int32) (m9 : Int32) (p9 : Int32) (r9 : Int32), (((0 ≤ r.toInt ∧ r.toInt < mRn.toInt) ∧ (0 ≤ f.toInt ∧ f.toInt < mFn.toInt) ∧ (mFo r.toNatClampNeg).toInt ≠ 4 ∧ 1 ≤ wh.toInt ∧ (wh.toInt ≤ 1 ∨ (wh.toInt ≤ 2 ∧ (mFo r.toNatClampNeg).toInt = 0)))) ∧ ((mFo r.toNatClampNeg).toInt ≠ 3 ∨ (¬ opL mPa mOt mNa mMy mPm mMa mMn (mRt r.toNatClampNeg) 0 ∧ mkE mOt mNa mMn (mRt r.toNatClampNeg) 0)) ∧ (lkS mPa mOt mNa mMy mPm mMa mFa mFy mMn (mFo r.toNatClampNeg) (mRt r.toNatClampNeg) (mRm r.toNatClampNeg) f wh p9 r9) ∧ ((r9.toInt = -4 ∨ r9.toInt = -5 ∨ 0 ≤ r9.toInt)) ∧ ((-5 ≤ r9.toInt ∧ r9.toInt < mMn.toInt) ∧ (0 ≤ p9.toInt ∧ p9.toInt ≤ 3)) ∧ p9 = rm ∧ f9 = nFt ∧ m9 = nFm ∧ p9 = nFp)) : rIv xTc xFc xRc xVc xLr xFl xTn xMn xSt xAb xVa yD1 yD2 xTl xOl xKn xPa xUp xAl xHa xNm xKi xAm xPl xKe xTo xFa xRe xVl xAr mTy mPa mTo mTm mMn mOt mNa mRe mMa mMy mPm mFn mFy mFa mFr mRn mFo mRt mRm mTn mTt mTi mPl mVn mVr mVf mVc mAr mLr mTc mTr mFl dyn ∧ rx = rm := by
  have e_r_tn := h.r_tn
  have e_r_tc := h.r_tc
  have e_r_to := h.r_to
  have e_r_mn := h.r_mn
  have e_r_fc := h.r_fc
  have e_r_rc := h.r_rc
  have e_r_tl := h.r_tl
  have e_r_ki := h.r_ki
  have e_r_am := h.r_am
  have e_r_pl := h.r_pl
  have e_r_vc := h.r_vc
  have e_r_ar := h.r_ar
  have e_r_lr := h.r_lr
  have e_r_fl := h.r_fl
  have e_r_kn := h.r_kn
  subst e_r_tn; subst e_r_tc; subst e_r_to; subst e_r_mn; subst e_r_fc; subst e_r_rc; subst e_r_tl; subst e_r_ki; subst e_r_am; subst e_r_pl; subst e_r_vc; subst e_r_ar; subst e_r_lr; subst e_r_fl; subst e_r_kn
  have w1 := hm.ity
  have w2 := hm.itm
  have w3 := hm.imn
  have w4 := hm.ifn
  have w5 := hm.irn
  have w6 := hm.itn
  have w7 := hm.ivn
  have w8 := hm.itr
  have hrfx : (0 ≤ r.toInt ∧ r.toInt < mRn.toInt) → rfR mTy (mFo r.toNatClampNeg) (mRt r.toNatClampNeg) (mRm r.toNatClampNeg) := fun q => h.r_rf _ (by have := xN q.1; omega)
  have hfcx : (0 ≤ f.toInt ∧ f.toInt < mFn.toInt) → fcR mTy mFy mFa mFr f := fun q => ⟨by omega, fcD_at hm.ifc q, hm.ifa, h.r_fr _ (by have := xN q.1; omega)⟩
  have hsf : (0 ≤ r.toInt ∧ r.toInt < mRn.toInt) → (mFo r.toNatClampNeg).toInt ≠ 4 → ((hbX xHa xNm (mRt r.toNatClampNeg) &&& xAb ≠ 0 ∨ nmX xHa xNm (mRt r.toNatClampNeg) 6 = 0) ↔ (opL mPa mOt mNa mMy mPm mMa mMn (mRt r.toNatClampNeg) 0 ∨ ¬ mkE mOt mNa mMn (mRt r.toNatClampNeg) 0)) := fun q k => sf_x h.r_mm ((hrfx q).2.1 k)
  rcases bb with bb | bb | bb
  · obtain ⟨u0, ff0, ff1, ff2, ff3⟩ := bb
    rcases aa with aa | aa | aa | aa | aa
    · obtain ⟨q0, ee0, ee1, ee2, ee3, ee4, ee5, ee6, ee7, ee8, ee9, ee10⟩ := aa
      subst ee0 ee1 ee2 ee3 ee4 ee5 ee6 ee7 ee8 ee9 ee10 ff0 ff1 ff2 ff3
      exact ⟨h, rfl⟩
    · obtain ⟨q0, q1, ee0, ee1, ee2, ee3, ee4, ee5, ee6, ee7, ee8, ee9, ee10⟩ := aa
      subst ee0 ee1 ee2 ee3 ee4 ee5 ee6 ee7 ee8 ee9 ee10 ff0 ff1 ff2 ff3
      exact ⟨h, rfl⟩
    · obtain ⟨q0, q1, q2, ee0, ee1, ee2, ee3, ee4, ee5, ee6, ee7, ee8, ee9, ee10⟩ := aa
      subst ee0 ee1 ee2 ee3 ee4 ee5 ee6 ee7 ee8 ee9 ee10 ff0 ff1 ff2 ff3
      exfalso; omega
    · obtain ⟨o19x, a19x, f19x, t19x, p19x, d19x, q0, q1, q2, q3, q4, q5, ee0, ee1, ee2, ee3, ee4, ee5, ee6, ee7, ee8, ee9, ee10⟩ := aa
      subst ee0 ee1 ee2 ee3 ee4 ee5 ee6 ee7 ee8 ee9 ee10 ff0 ff1 ff2 ff3
      exfalso; omega
    · obtain ⟨o29x, a29x, f29x, t29x, p29x, d29x, q0, q1, q2, q3, q4, q5, ee0, ee1, ee2, ee3, ee4, ee5, ee6, ee7, ee8, ee9, ee10⟩ := aa
      subst ee0 ee1 ee2 ee3 ee4 ee5 ee6 ee7 ee8 ee9 ee10 ff0 ff1 ff2 ff3
      exfalso; omega
  · obtain ⟨u0, u1, ff0, ff1, ff2, ff3⟩ := bb
    rcases aa with aa | aa | aa | aa | aa
    · obtain ⟨q0, ee0, ee1, ee2, ee3, ee4, ee5, ee6, ee7, ee8, ee9, ee10⟩ := aa
      subst ee0 ee1 ee2 ee3 ee4 ee5 ee6 ee7 ee8 ee9 ee10 ff0 ff1 ff2 ff3
      exfalso; omega
    · obtain ⟨q0, q1, ee0, ee1, ee2, ee3, ee4, ee5, ee6, ee7, ee8, ee9, ee10⟩ := aa
      subst ee0 ee1 ee2 ee3 ee4 ee5 ee6 ee7 ee8 ee9 ee10 ff0 ff1 ff2 ff3
      exfalso; omega
    · obtain ⟨q0, q1, q2, ee0, ee1, ee2, ee3, ee4, ee5, ee6, ee7, ee8, ee9, ee10⟩ := aa
      subst ee0 ee1 ee2 ee3 ee4 ee5 ee6 ee7 ee8 ee9 ee10 ff0 ff1 ff2 ff3
      exact ⟨h, rfl⟩
    · obtain ⟨o19x, a19x, f19x, t19x, p19x, d19x, q0, q1, q2, q3, q4, q5, ee0, ee1, ee2, ee3, ee4, ee5, ee6, ee7, ee8, ee9, ee10⟩ := aa
      subst ee0 ee1 ee2 ee3 ee4 ee5 ee6 ee7 ee8 ee9 ee10 ff0 ff1 ff2 ff3
      exact absurd ⟨u0.2, (hsf q0.1 (by omega)).mpr u1⟩ q2
    · obtain ⟨o29x, a29x, f29x, t29x, p29x, d29x, q0, q1, q2, q3, q4, q5, ee0, ee1, ee2, ee3, ee4, ee5, ee6, ee7, ee8, ee9, ee10⟩ := aa
      subst ee0 ee1 ee2 ee3 ee4 ee5 ee6 ee7 ee8 ee9 ee10 ff0 ff1 ff2 ff3
      exact absurd ⟨u0.2, (hsf q0.1 (by omega)).mpr u1⟩ q2
  · obtain ⟨f9m, m9m, p9m, r9m, u0, u1, u2, u3, u4, ff0, ff1, ff2, ff3⟩ := bb
    rcases aa with aa | aa | aa | aa | aa
    · obtain ⟨q0, ee0, ee1, ee2, ee3, ee4, ee5, ee6, ee7, ee8, ee9, ee10⟩ := aa
      subst ee0 ee1 ee2 ee3 ee4 ee5 ee6 ee7 ee8 ee9 ee10 ff0 ff1 ff2 ff3
      exfalso; omega
    · obtain ⟨q0, q1, ee0, ee1, ee2, ee3, ee4, ee5, ee6, ee7, ee8, ee9, ee10⟩ := aa
      subst ee0 ee1 ee2 ee3 ee4 ee5 ee6 ee7 ee8 ee9 ee10 ff0 ff1 ff2 ff3
      exfalso; omega
    · obtain ⟨q0, q1, q2, ee0, ee1, ee2, ee3, ee4, ee5, ee6, ee7, ee8, ee9, ee10⟩ := aa
      subst ee0 ee1 ee2 ee3 ee4 ee5 ee6 ee7 ee8 ee9 ee10 ff0 ff1 ff2 ff3
      rcases u1 with u1 | u1 <;> first | (exfalso; exact u1 q2.1) | exact absurd ((hsf q0.1 (by omega)).mp q2.2) (fun z => z.elim u1.1 (fun z => z u1.2))
    · obtain ⟨o19x, a19x, f19x, t19x, p19x, d19x, q0, q1, q2, q3, q4, q5, ee0, ee1, ee2, ee3, ee4, ee5, ee6, ee7, ee8, ee9, ee10⟩ := aa
      subst ee0 ee1 ee2 ee3 ee4 ee5 ee6 ee7 ee8 ee9 ee10 ff0 ff1 ff2 ff3
      exact ⟨(rIv.mk (r_tn := h.r_tn) (r_tc := h.r_tc) (r_to := h.r_to) (r_mn := h.r_mn) (r_fc := h.r_fc) (r_rc := h.r_rc) (r_tl := h.r_tl) (r_ki := h.r_ki) (r_am := h.r_am) (r_pl := h.r_pl) (r_vc := h.r_vc) (r_ar := h.r_ar) (r_lr := h.r_lr) (r_fl := h.r_fl) (r_kn := h.r_kn) (r_mm := h.r_mm) (r_ot := h.r_ot) (r_al := h.r_al) (r_fa := h.r_fa) (r_fr := h.r_fr) (r_re := h.r_re) (r_rf := h.r_rf) (r_kd := h.r_kd) (r_vl := h.r_vl) (r_ol := h.r_ol) (r_ke := h.r_ke) (r_d1 := ⟨_, q4, sb_1 h.r_mm (hfcx q0.2) (hrfx q0.1) (by omega) q5⟩) (r_d2 := h.r_d2)), (lk_1 h.r_mm (hfcx q0.2) (hrfx q0.1) (by omega) q3 q5 u2).1⟩
    · obtain ⟨o29x, a29x, f29x, t29x, p29x, d29x, q0, q1, q2, q3, q4, q5, ee0, ee1, ee2, ee3, ee4, ee5, ee6, ee7, ee8, ee9, ee10⟩ := aa
      subst ee0 ee1 ee2 ee3 ee4 ee5 ee6 ee7 ee8 ee9 ee10 ff0 ff1 ff2 ff3
      exact ⟨(rIv.mk (r_tn := h.r_tn) (r_tc := h.r_tc) (r_to := h.r_to) (r_mn := h.r_mn) (r_fc := h.r_fc) (r_rc := h.r_rc) (r_tl := h.r_tl) (r_ki := h.r_ki) (r_am := h.r_am) (r_pl := h.r_pl) (r_vc := h.r_vc) (r_ar := h.r_ar) (r_lr := h.r_lr) (r_fl := h.r_fl) (r_kn := h.r_kn) (r_mm := h.r_mm) (r_ot := h.r_ot) (r_al := h.r_al) (r_fa := h.r_fa) (r_fr := h.r_fr) (r_re := h.r_re) (r_rf := h.r_rf) (r_kd := h.r_kd) (r_vl := h.r_vl) (r_ol := h.r_ol) (r_ke := h.r_ke) (r_d1 := h.r_d1) (r_d2 := ⟨_, q4, sb_2 h.r_mm (hfcx q0.2) (hrfx q0.1) (by omega) q5⟩)), (lk_2 h.r_mm (hfcx q0.2) (hrfx q0.1) (by omega) (by omega) q5 u2).1⟩
set_option maxRecDepth 100000 in
set_option maxHeartbeats 4000000 in
theorem pr_type {xTc : Int32} {xFc : Int32} {xRc : Int32} {xVc : Int32} {xLr : Int32} {xFl : Int32} {xTn : Int32} {xMn : Int32} {xSt : Int64} {xAb : Int64} {xVa : Int64} {xD1 : Value} {xD2 : Value} {xTl : Int32} {xOl : Int32} {xKn : Int32} {xPa : Nat → Int32} {xUp : Nat → Int32} {xAl : Nat → Option Nat} {xHa : Nat → Int64} {xNm : Nat → Int64} {xKi : Nat → Int32} {xAm : Nat → Int32} {xPl : Nat → Int32} {xKe : Nat → Int32} {xTo : Nat → Int32} {xFa : Nat → Option Nat} {xRe : Nat → Option Nat} {xVl : Nat → Option Nat} {xAr : Nat → Int32} {mTy : Int32} {mPa : Nat → Int32} {mTo : Nat → Int32} {mTm : Int32} {mMn : Int32} {mOt : Nat → Int32} {mNa : Nat → Int32} {mRe : Nat → Int32} {mMa : Nat → Int32} {mMy : Nat → Int32} {mPm : Nat → Int32} {mFn : Int32} {mFy : Nat → Int32} {mFa : Nat → Int32} {mFr : Nat → Int32} {mRn : Int32} {mFo : Nat → Int32} {mRt : Nat → Int32} {mRm : Nat → Int32} {mTn : Int32} {mTt : Nat → Int32} {mTi : Nat → Int32} {mPl : Nat → Int32} {mVn : Int32} {mVr : Nat → Int32} {mVf : Nat → Int32} {mVc : Nat → Int32} {mAr : Nat → Int32} {mLr : Int32} {mTc : Nat → Int32} {mTr : Int32} {mFl : Int32} {dyn : pm_H} {yTn : Int32} {yPa : Nat → Int32} {yUp : Nat → Int32} {yHa : Nat → Int64} {nTy : Int32} {nPa : Nat → Int32} {t : Int32} {rx : Int32} {rm : Int32}  (hm : mIv mTy mPa mTo mTm mMn mOt mNa mRe mMa mMy mPm mFn mFy mFa mFr mRn mFo mRt mRm mTn mTt mTi mVn mVr mVf mVc mTr) (hn : mIv nTy nPa mTo mTm mMn mOt mNa mRe mMa mMy mPm mFn mFy mFa mFr mRn mFo mRt mRm mTn mTt mTi mVn mVr mVf mVc mTr) (h : rIv xTc xFc xRc xVc xLr xFl xTn xMn xSt xAb xVa xD1 xD2 xTl xOl xKn xPa xUp xAl xHa xNm xKi xAm xPl xKe xTo xFa xRe xVl xAr mTy mPa mTo mTm mMn mOt mNa mRe mMa mMy mPm mFn mFy mFa mFr mRn mFo mRt mRm mTn mTt mTi mPl mVn mVr mVf mVc mAr mLr mTc mTr mFl dyn) (aa : ((¬ ((0 ≤ t.toInt ∧ t.toInt < xTn.toInt) ∧ t.toInt ≠ 1)) ∧ (-1) = rx ∧ xTn = yTn ∧ xPa = yPa ∧ xUp = yUp ∧ xHa = yHa) ∨ ((((0 ≤ t.toInt ∧ t.toInt < xTn.toInt) ∧ t.toInt ≠ 1) ∧ 10 ≤ xTn.toInt) ∧ (-2) = rx ∧ xTn = yTn ∧ xPa = yPa ∧ xUp = yUp ∧ xHa = yHa) ∨ ((((0 ≤ t.toInt ∧ t.toInt < xTn.toInt) ∧ t.toInt ≠ 1) ∧ xTn.toInt < 10) ∧ xTn = rx ∧ xTn + 1 = yTn ∧ upd xPa xTn.toNatClampNeg t = yPa ∧ upd (upd xUp xTn.toNatClampNeg ((1 <<< (xTn &&& 31)) ||| xUp t.toNatClampNeg)) (20 + xTn).toNatClampNeg ((1 <<< ((20 + xTn) &&& 31)) ||| (upd xUp xTn.toNatClampNeg ((1 <<< (xTn &&& 31)) ||| xUp t.toNatClampNeg)) (20 + t).toNatClampNeg) = yUp ∧ vp_updL xHa xTn.toNatClampNeg ((xHa t.toNatClampNeg) &&& ((xNm 6) ^^^ (-1))) = yHa)) (bb : (((t.toInt < 0 ∨ mTy.toInt ≤ t.toInt ∨ t.toInt = 1)) ∧ (-1) = rm ∧ mTy = nTy ∧ mPa = nPa) ∨ (((0 ≤ t.toInt ∧ t.toInt < mTy.toInt ∧ t.toInt ≠ 1) ∧ mTy.toInt = 10) ∧ (-2) = rm ∧ mTy = nTy ∧ mPa = nPa) ∨ (((0 ≤ t.toInt ∧ t.toInt < mTy.toInt ∧ t.toInt ≠ 1) ∧ mTy.toInt < 10) ∧ (mTy + 1 - 1) = rm ∧ mTy + 1 = nTy ∧ upd mPa mTy.toNatClampNeg t = nPa)) : rIv xTc xFc xRc xVc xLr xFl yTn xMn xSt xAb xVa xD1 xD2 xTl xOl xKn yPa yUp xAl yHa xNm xKi xAm xPl xKe xTo xFa xRe xVl xAr nTy nPa mTo mTm mMn mOt mNa mRe mMa mMy mPm mFn mFy mFa mFr mRn mFo mRt mRm mTn mTt mTi mPl mVn mVr mVf mVc mAr mLr mTc mTr mFl dyn ∧ rx = rm := by
  have e_r_tn := h.r_tn
  have e_r_tc := h.r_tc
  have e_r_to := h.r_to
  have e_r_mn := h.r_mn
  have e_r_fc := h.r_fc
  have e_r_rc := h.r_rc
  have e_r_tl := h.r_tl
  have e_r_ki := h.r_ki
  have e_r_am := h.r_am
  have e_r_pl := h.r_pl
  have e_r_vc := h.r_vc
  have e_r_ar := h.r_ar
  have e_r_lr := h.r_lr
  have e_r_fl := h.r_fl
  have e_r_kn := h.r_kn
  subst e_r_tn; subst e_r_tc; subst e_r_to; subst e_r_mn; subst e_r_fc; subst e_r_rc; subst e_r_tl; subst e_r_ki; subst e_r_am; subst e_r_pl; subst e_r_vc; subst e_r_ar; subst e_r_lr; subst e_r_fl; subst e_r_kn
  have w1 := hm.ity
  have w2 := hm.itm
  have w3 := hm.imn
  have w4 := hm.ifn
  have w5 := hm.irn
  have w6 := hm.itn
  have w7 := hm.ivn
  have w8 := hm.itr
  rcases bb with bb | bb | bb
  · obtain ⟨u0, ff0, ff1, ff2⟩ := bb
    rcases aa with aa | aa | aa
    · obtain ⟨q0, ee0, ee1, ee2, ee3, ee4⟩ := aa
      subst ee0 ee1 ee2 ee3 ee4 ff0 ff1 ff2
      exact ⟨h, rfl⟩
    · obtain ⟨q0, ee0, ee1, ee2, ee3, ee4⟩ := aa
      subst ee0 ee1 ee2 ee3 ee4 ff0 ff1 ff2
      exfalso; omega
    · obtain ⟨q0, ee0, ee1, ee2, ee3, ee4⟩ := aa
      subst ee0 ee1 ee2 ee3 ee4 ff0 ff1 ff2
      exfalso; omega
  · obtain ⟨u0, ff0, ff1, ff2⟩ := bb
    rcases aa with aa | aa | aa
    · obtain ⟨q0, ee0, ee1, ee2, ee3, ee4⟩ := aa
      subst ee0 ee1 ee2 ee3 ee4 ff0 ff1 ff2
      exfalso; omega
    · obtain ⟨q0, ee0, ee1, ee2, ee3, ee4⟩ := aa
      subst ee0 ee1 ee2 ee3 ee4 ff0 ff1 ff2
      exact ⟨h, rfl⟩
    · obtain ⟨q0, ee0, ee1, ee2, ee3, ee4⟩ := aa
      subst ee0 ee1 ee2 ee3 ee4 ff0 ff1 ff2
      exfalso; omega
  · obtain ⟨u0, ff0, ff1, ff2⟩ := bb
    rcases aa with aa | aa | aa
    · obtain ⟨q0, ee0, ee1, ee2, ee3, ee4⟩ := aa
      subst ee0 ee1 ee2 ee3 ee4 ff0 ff1 ff2
      exfalso; omega
    · obtain ⟨q0, ee0, ee1, ee2, ee3, ee4⟩ := aa
      subst ee0 ee1 ee2 ee3 ee4 ff0 ff1 ff2
      exfalso; omega
    · obtain ⟨q0, ee0, ee1, ee2, ee3, ee4⟩ := aa
      subst ee0 ee1 ee2 ee3 ee4 ff0 ff1 ff2
      refine ⟨ri_type hm hn h (by omega) (by omega), ?_⟩; apply xJ; have z4 : (mTy + 1).toInt = mTy.toInt + 1 := iAdd rfl (by decide) (by omega) (by omega); have z5 : (mTy + 1 - 1).toInt = mTy.toInt + 1 - 1 := iSub z4 (by decide) (by omega) (by omega); omega
set_option maxRecDepth 100000 in
set_option maxHeartbeats 4000000 in
theorem pr_has {xTc : Int32} {xFc : Int32} {xRc : Int32} {xVc : Int32} {xLr : Int32} {xFl : Int32} {xTn : Int32} {xMn : Int32} {xSt : Int64} {xAb : Int64} {xVa : Int64} {xD1 : Value} {xD2 : Value} {xTl : Int32} {xOl : Int32} {xKn : Int32} {xPa : Nat → Int32} {xUp : Nat → Int32} {xAl : Nat → Option Nat} {xHa : Nat → Int64} {xNm : Nat → Int64} {xKi : Nat → Int32} {xAm : Nat → Int32} {xPl : Nat → Int32} {xKe : Nat → Int32} {xTo : Nat → Int32} {xFa : Nat → Option Nat} {xRe : Nat → Option Nat} {xVl : Nat → Option Nat} {xAr : Nat → Int32} {mTy : Int32} {mPa : Nat → Int32} {mTo : Nat → Int32} {mTm : Int32} {mMn : Int32} {mOt : Nat → Int32} {mNa : Nat → Int32} {mRe : Nat → Int32} {mMa : Nat → Int32} {mMy : Nat → Int32} {mPm : Nat → Int32} {mFn : Int32} {mFy : Nat → Int32} {mFa : Nat → Int32} {mFr : Nat → Int32} {mRn : Int32} {mFo : Nat → Int32} {mRt : Nat → Int32} {mRm : Nat → Int32} {mTn : Int32} {mTt : Nat → Int32} {mTi : Nat → Int32} {mPl : Nat → Int32} {mVn : Int32} {mVr : Nat → Int32} {mVf : Nat → Int32} {mVc : Nat → Int32} {mAr : Nat → Int32} {mLr : Int32} {mTc : Nat → Int32} {mTr : Int32} {mFl : Int32} {dyn : pm_H} {t : Int32} {i : Int32} {rx : Int32} {rm : Int32}  (hm : mIv mTy mPa mTo mTm mMn mOt mNa mRe mMa mMy mPm mFn mFy mFa mFr mRn mFo mRt mRm mTn mTt mTi mVn mVr mVf mVc mTr) (hn : mIv mTy mPa mTo mTm mMn mOt mNa mRe mMa mMy mPm mFn mFy mFa mFr mRn mFo mRt mRm mTn mTt mTi mVn mVr mVf mVc mTr) (h : rIv xTc xFc xRc xVc xLr xFl xTn xMn xSt xAb xVa xD1 xD2 xTl xOl xKn xPa xUp xAl xHa xNm xKi xAm xPl xKe xTo xFa xRe xVl xAr mTy mPa mTo mTm mMn mOt mNa mRe mMa mMy mPm mFn mFy mFa mFr mRn mFo mRt mRm mTn mTt mTi mPl mVn mVr mVf mVc mAr mLr mTc mTr mFl dyn) (aa : ((¬ (0 ≤ t.toInt ∧ t.toInt < xTn.toInt)) ∧ (-1) = rx) ∨ (∃ (r9 : Int32), ((0 ≤ t.toInt ∧ t.toInt < xTn.toInt)) ∧ (nthP (fun x => bl (hbX xHa xNm t) x = true) xMn i r9) ∧ r9 = rx)) (bb : (((t.toInt < 0 ∨ mTy.toInt ≤ t.toInt)) ∧ (-1) = rm) ∨ (∃ (r9 : Int32), ((0 ≤ t.toInt ∧ t.toInt < mTy.toInt)) ∧ (nthP (fun x => hadM mPa mOt mNa mMy mPm mMn t (nI x)) mMn i r9) ∧ r9 = rm)) : rIv xTc xFc xRc xVc xLr xFl xTn xMn xSt xAb xVa xD1 xD2 xTl xOl xKn xPa xUp xAl xHa xNm xKi xAm xPl xKe xTo xFa xRe xVl xAr mTy mPa mTo mTm mMn mOt mNa mRe mMa mMy mPm mFn mFy mFa mFr mRn mFo mRt mRm mTn mTt mTi mPl mVn mVr mVf mVc mAr mLr mTc mTr mFl dyn ∧ rx = rm := by
  have e_r_tn := h.r_tn
  have e_r_tc := h.r_tc
  have e_r_to := h.r_to
  have e_r_mn := h.r_mn
  have e_r_fc := h.r_fc
  have e_r_rc := h.r_rc
  have e_r_tl := h.r_tl
  have e_r_ki := h.r_ki
  have e_r_am := h.r_am
  have e_r_pl := h.r_pl
  have e_r_vc := h.r_vc
  have e_r_ar := h.r_ar
  have e_r_lr := h.r_lr
  have e_r_fl := h.r_fl
  have e_r_kn := h.r_kn
  subst e_r_tn; subst e_r_tc; subst e_r_to; subst e_r_mn; subst e_r_fc; subst e_r_rc; subst e_r_tl; subst e_r_ki; subst e_r_am; subst e_r_pl; subst e_r_vc; subst e_r_ar; subst e_r_lr; subst e_r_fl; subst e_r_kn
  have w1 := hm.ity
  have w2 := hm.itm
  have w3 := hm.imn
  have w4 := hm.ifn
  have w5 := hm.irn
  have w6 := hm.itn
  have w7 := hm.ivn
  have w8 := hm.itr
  obtain ⟨hU, hd, hP, hS, hX, hK, hB, hH, hN, hSt, hAb, hVa⟩ := id h.r_mm
  rcases bb with bb | bb
  · obtain ⟨u0, ff0⟩ := bb
    rcases aa with aa | aa
    · obtain ⟨q0, ee0⟩ := aa
      subst ee0 ff0
      exact ⟨h, rfl⟩
    · obtain ⟨r9x, q0, q1, ee0⟩ := aa
      subst ee0 ff0
      exfalso; omega
  · obtain ⟨r9m, u0, u1, ff0⟩ := bb
    rcases aa with aa | aa
    · obtain ⟨q0, ee0⟩ := aa
      subst ee0 ff0
      exfalso; omega
    · obtain ⟨r9x, q0, q1, ee0⟩ := aa
      subst ee0 ff0
      exact ⟨h, nth_e (fun b q => (hb_x hS.1 hS.2.1.2 hH hN (Or.inl q0) (by omega)).trans ⟨fun z => z.2, fun z => ⟨q, z⟩⟩) q1 u1⟩
set_option maxRecDepth 100000 in
set_option maxHeartbeats 4000000 in
theorem pr_exact {xTc : Int32} {xFc : Int32} {xRc : Int32} {xVc : Int32} {xLr : Int32} {xFl : Int32} {xTn : Int32} {xMn : Int32} {xSt : Int64} {xAb : Int64} {xVa : Int64} {xD1 : Value} {xD2 : Value} {xTl : Int32} {xOl : Int32} {xKn : Int32} {xPa : Nat → Int32} {xUp : Nat → Int32} {xAl : Nat → Option Nat} {xHa : Nat → Int64} {xNm : Nat → Int64} {xKi : Nat → Int32} {xAm : Nat → Int32} {xPl : Nat → Int32} {xKe : Nat → Int32} {xTo : Nat → Int32} {xFa : Nat → Option Nat} {xRe : Nat → Option Nat} {xVl : Nat → Option Nat} {xAr : Nat → Int32} {mTy : Int32} {mPa : Nat → Int32} {mTo : Nat → Int32} {mTm : Int32} {mMn : Int32} {mOt : Nat → Int32} {mNa : Nat → Int32} {mRe : Nat → Int32} {mMa : Nat → Int32} {mMy : Nat → Int32} {mPm : Nat → Int32} {mFn : Int32} {mFy : Nat → Int32} {mFa : Nat → Int32} {mFr : Nat → Int32} {mRn : Int32} {mFo : Nat → Int32} {mRt : Nat → Int32} {mRm : Nat → Int32} {mTn : Int32} {mTt : Nat → Int32} {mTi : Nat → Int32} {mPl : Nat → Int32} {mVn : Int32} {mVr : Nat → Int32} {mVf : Nat → Int32} {mVc : Nat → Int32} {mAr : Nat → Int32} {mLr : Int32} {mTc : Nat → Int32} {mTr : Int32} {mFl : Int32} {dyn : pm_H} {r : Int32} {rx : Int32} {rm : Int32}  (hm : mIv mTy mPa mTo mTm mMn mOt mNa mRe mMa mMy mPm mFn mFy mFa mFr mRn mFo mRt mRm mTn mTt mTi mVn mVr mVf mVc mTr) (hn : mIv mTy mPa mTo mTm mMn mOt mNa mRe mMa mMy mPm mFn mFy mFa mFr mRn mFo mRt mRm mTn mTt mTi mVn mVr mVf mVc mTr) (h : rIv xTc xFc xRc xVc xLr xFl xTn xMn xSt xAb xVa xD1 xD2 xTl xOl xKn xPa xUp xAl xHa xNm xKi xAm xPl xKe xTo xFa xRe xVl xAr mTy mPa mTo mTm mMn mOt mNa mRe mMa mMy mPm mFn mFy mFa mFr mRn mFo mRt mRm mTn mTt mTi mPl mVn mVr mVf mVc mAr mLr mTc mTr mFl dyn) (aa : ((¬ (0 ≤ r.toInt ∧ r.toInt < xRc.toInt)) ∧ (-1) = rx) ∨ (((0 ≤ r.toInt ∧ r.toInt < xRc.toInt)) ∧ (oaF (nmX xHa xNm (tsX xPa xTn (mFo r.toNatClampNeg) (mRt r.toNatClampNeg)) (rnF mFo mRm r.toNatClampNeg)) xVa (mFo r.toNatClampNeg)) ∧ 1 = rx) ∨ (((0 ≤ r.toInt ∧ r.toInt < xRc.toInt)) ∧ (¬ oaF (nmX xHa xNm (tsX xPa xTn (mFo r.toNatClampNeg) (mRt r.toNatClampNeg)) (rnF mFo mRm r.toNatClampNeg)) xVa (mFo r.toNatClampNeg)) ∧ 0 = rx)) (bb : ((¬ (0 ≤ r.toInt ∧ r.toInt < mRn.toInt)) ∧ (-1) = rm) ∨ (((0 ≤ r.toInt ∧ r.toInt < mRn.toInt) ∧ (mFo r.toNatClampNeg).toInt ≠ 4) ∧ (exM mPa mOt mNa mMy mPm mMa mMn (mFo r.toNatClampNeg) (mRt r.toNatClampNeg) (mRm r.toNatClampNeg)) ∧ 1 = rm) ∨ (((0 ≤ r.toInt ∧ r.toInt < mRn.toInt) ∧ (mFo r.toNatClampNeg).toInt ≠ 4) ∧ (¬ exM mPa mOt mNa mMy mPm mMa mMn (mFo r.toNatClampNeg) (mRt r.toNatClampNeg) (mRm r.toNatClampNeg)) ∧ 0 = rm) ∨ (((0 ≤ r.toInt ∧ r.toInt < mRn.toInt) ∧ (mFo r.toNatClampNeg).toInt = 4) ∧ 1 = rm)) : rIv xTc xFc xRc xVc xLr xFl xTn xMn xSt xAb xVa xD1 xD2 xTl xOl xKn xPa xUp xAl xHa xNm xKi xAm xPl xKe xTo xFa xRe xVl xAr mTy mPa mTo mTm mMn mOt mNa mRe mMa mMy mPm mFn mFy mFa mFr mRn mFo mRt mRm mTn mTt mTi mPl mVn mVr mVf mVc mAr mLr mTc mTr mFl dyn ∧ rx = rm := by
  have e_r_tn := h.r_tn
  have e_r_tc := h.r_tc
  have e_r_to := h.r_to
  have e_r_mn := h.r_mn
  have e_r_fc := h.r_fc
  have e_r_rc := h.r_rc
  have e_r_tl := h.r_tl
  have e_r_ki := h.r_ki
  have e_r_am := h.r_am
  have e_r_pl := h.r_pl
  have e_r_vc := h.r_vc
  have e_r_ar := h.r_ar
  have e_r_lr := h.r_lr
  have e_r_fl := h.r_fl
  have e_r_kn := h.r_kn
  subst e_r_tn; subst e_r_tc; subst e_r_to; subst e_r_mn; subst e_r_fc; subst e_r_rc; subst e_r_tl; subst e_r_ki; subst e_r_am; subst e_r_pl; subst e_r_vc; subst e_r_ar; subst e_r_lr; subst e_r_fl; subst e_r_kn
  have w1 := hm.ity
  have w2 := hm.itm
  have w3 := hm.imn
  have w4 := hm.ifn
  have w5 := hm.irn
  have w6 := hm.itn
  have w7 := hm.ivn
  have w8 := hm.itr
  have hex : (0 ≤ r.toInt ∧ r.toInt < mRn.toInt) → (mFo r.toNatClampNeg).toInt ≠ 4 → _ := fun q q4 => ex_x h.r_mm (h.r_rf r.toNatClampNeg (by have := xN q.1; omega)) q4
  rcases bb with bb | bb | bb | bb
  · obtain ⟨u0, ff0⟩ := bb
    rcases aa with aa | aa | aa
    · obtain ⟨q0, ee0⟩ := aa
      subst ee0 ff0
      exact ⟨h, rfl⟩
    · obtain ⟨q0, q1, ee0⟩ := aa
      subst ee0 ff0
      exfalso; omega
    · obtain ⟨q0, q1, ee0⟩ := aa
      subst ee0 ff0
      exfalso; omega
  · obtain ⟨u0, u1, ff0⟩ := bb
    rcases aa with aa | aa | aa
    · obtain ⟨q0, ee0⟩ := aa
      subst ee0 ff0
      exfalso; omega
    · obtain ⟨q0, q1, ee0⟩ := aa
      subst ee0 ff0
      exact ⟨h, rfl⟩
    · obtain ⟨q0, q1, ee0⟩ := aa
      subst ee0 ff0
      exact absurd ((hex q0 u0.2).mpr u1) q1
  · obtain ⟨u0, u1, ff0⟩ := bb
    rcases aa with aa | aa | aa
    · obtain ⟨q0, ee0⟩ := aa
      subst ee0 ff0
      exfalso; omega
    · obtain ⟨q0, q1, ee0⟩ := aa
      subst ee0 ff0
      exact absurd ((hex q0 u0.2).mp q1) u1
    · obtain ⟨q0, q1, ee0⟩ := aa
      subst ee0 ff0
      exact ⟨h, rfl⟩
  · obtain ⟨u0, ff0⟩ := bb
    rcases aa with aa | aa | aa
    · obtain ⟨q0, ee0⟩ := aa
      subst ee0 ff0
      exfalso; omega
    · obtain ⟨q0, q1, ee0⟩ := aa
      subst ee0 ff0
      exact ⟨h, rfl⟩
    · obtain ⟨q0, q1, ee0⟩ := aa
      subst ee0 ff0
      exact absurd (Or.inl u0.2) q1
