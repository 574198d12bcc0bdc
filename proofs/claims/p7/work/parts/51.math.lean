/-! a meaning is one -/
theorem uq_d {sp : Nat → Prop} {mn r q : Int32} (h : uqM sp mn r) (k : uqM sp mn q) : r = q := by
  rcases h with ⟨b, h1, h2, h3, h4⟩ | ⟨h1, h2⟩ <;> rcases k with ⟨c, k1, k2, k3, k4⟩ | ⟨k1, k2⟩
  · rw [h2, k2, k4 b h1 h3]
  · exact absurd ⟨b, h1, h3, h4⟩ k2
  · exact absurd ⟨c, k1, k3, k4⟩ h2
  · rw [h1, k1]
theorem sr_d {pa ot na my pm ma fa fy : Nat → Int32} {mn t w f s p r p2 r2 : Int32} (h : srM pa ot na my pm ma fa fy mn t w f s p r) (k : srM pa ot na my pm ma fa fy mn t w f s p2 r2) : p = p2 ∧ r = r2 := by
  rcases h with ⟨a1, a2, a3, a4, a5⟩ | ⟨a1, a2, a3⟩ | ⟨a1, a2, a3, a4⟩ | ⟨a1, a2, a3, a4, a5⟩ <;> rcases k with ⟨b1, b2, b3, b4, b5⟩ | ⟨b1, b2, b3⟩ | ⟨b1, b2, b3, b4⟩ | ⟨b1, b2, b3, b4, b5⟩ <;> first | contradiction | exact ⟨a1.trans b1.symm, a2.trans b2.symm⟩ | exact ⟨a1.trans b1.symm, uq_d a3 b3⟩ | exact ⟨a1.trans b1.symm, uq_d a4 b4⟩ | exact ⟨a1.trans b1.symm, uq_d a5 b5⟩
theorem s2_d {pa ot na my pm ma fa fy : Nat → Int32} {mn t w f p r p2 r2 : Int32} (h : s2M pa ot na my pm ma fa fy mn t w f p r) (k : s2M pa ot na my pm ma fa fy mn t w f p2 r2) : p = p2 ∧ r = r2 := by
  rcases h with ⟨a1, a2⟩ | ⟨a1, a2, a3⟩ <;> rcases k with ⟨b1, b2⟩ | ⟨b1, b2, b3⟩ <;> first | contradiction | exact sr_d a2 b2 | exact ⟨a2.trans b2.symm, a3.trans b3.symm⟩
theorem one_d {pa ot na my pm ma fa fy : Nat → Int32} {mn t w f p r p2 r2 : Int32} (h : oneM pa ot na my pm ma fa fy mn t w f p r) (k : oneM pa ot na my pm ma fa fy mn t w f p2 r2) : p = p2 ∧ r = r2 := by
  obtain ⟨q1, h1, h2⟩ := h
  obtain ⟨q2, k1, k2⟩ := k
  obtain ⟨e1, e2⟩ := sr_d h1 k1
  refine ⟨e1, ?_⟩
  rw [← e2] at k2
  rcases h2 with ⟨a1, a2⟩ | ⟨a1, a2⟩ | ⟨a1, a2, a3⟩ <;> rcases k2 with ⟨b1, b2⟩ | ⟨b1, b2⟩ | ⟨b1, b2, b3⟩ <;> first | omega | exact a2.trans b2.symm | exact a3.trans b3.symm
theorem bo_d {ma : Nat → Int32} {s1 a2 : Prop} {p1 r1 p2 r2 sc mp r sc2 mp2 q : Int32} (h : boM ma s1 a2 p1 r1 p2 r2 sc mp r) (k : boM ma s1 a2 p1 r1 p2 r2 sc2 mp2 q) : r = q := by
  rcases h with ⟨h1, h2, _⟩ | ⟨h1, h3, h2, _⟩ | ⟨h1, h3, _, _, h4, h2⟩ | ⟨h1, h3, _, _, h4, h5, h2⟩ | ⟨h1, h3, _, _, h4, h5, h2⟩ <;> rcases k with ⟨k1, k2, _⟩ | ⟨k1, k3, k2, _⟩ | ⟨k1, k3, _, _, k4, k2⟩ | ⟨k1, k3, _, _, k4, k5, k2⟩ | ⟨k1, k3, _, _, k4, k5, k2⟩ <;> first | exact h2.trans k2.symm | contradiction
theorem both_d {pa ot na my pm ma fa fy : Nat → Int32} {mn t w f sc mp r sc2 mp2 q : Int32} (h : bothM pa ot na my pm ma fa fy mn t w f sc mp r) (k : bothM pa ot na my pm ma fa fy mn t w f sc2 mp2 q) : r = q := by
  obtain ⟨p1, r1, p2, r2, h1, h2, h3⟩ := h
  obtain ⟨u1, v1, u2, v2, k1, k2, k3⟩ := k
  obtain ⟨e1, e2⟩ := sr_d h1 k1
  obtain ⟨e3, e4⟩ := s2_d h2 k2
  rw [← e1, ← e2, ← e3, ← e4] at k3
  exact bo_d h3 k3
theorem mn_d {pa ot na my pm ma fa fy : Nat → Int32} {mn fo t w f sc mp r sc2 mp2 q : Int32} (h : mnM pa ot na my pm ma fa fy mn fo t w f sc mp r) (k : mnM pa ot na my pm ma fa fy mn fo t w f sc2 mp2 q) : r = q := by
  rcases h with ⟨h0, h1⟩ | ⟨h0, _, v, h2, h3⟩ | ⟨h0, _, v, h2, h3⟩ | ⟨h0, _, h2⟩ | ⟨h0, _, _, h2⟩
  · rcases k with ⟨k0, k1⟩ | ⟨k0, _⟩ | ⟨k0, _⟩ | ⟨k0, _⟩ | ⟨k0, _⟩
    · exact both_d h1 k1
    · omega
    · omega
    · omega
    · omega
  · rcases k with ⟨k0, _⟩ | ⟨k0, _, u, k2, k3⟩ | ⟨k0, _⟩ | ⟨k0, _⟩ | ⟨k0, _⟩
    · omega
    · rw [← (one_d h2 k2).2] at k3
      rcases h3 with ⟨h3, h4⟩ | ⟨h3, h4⟩ <;> rcases k3 with ⟨k3, k4⟩ | ⟨k3, k4⟩ <;> first | exact h4.trans k4.symm | contradiction
    · omega
    · omega
    · omega
  · rcases k with ⟨k0, _⟩ | ⟨k0, _⟩ | ⟨k0, _, u, k2, k3⟩ | ⟨k0, _⟩ | ⟨k0, _⟩
    · omega
    · omega
    · rw [← (one_d h2 k2).2] at k3
      rcases h3 with ⟨h3, h4⟩ | ⟨h3, h4⟩ | ⟨h3, h4⟩ | ⟨h3, h4⟩ <;> rcases k3 with ⟨k3, k4⟩ | ⟨k3, k4⟩ | ⟨k3, k4⟩ | ⟨k3, k4⟩ <;> first | exact h4.trans k4.symm | omega
    · omega
    · omega
  · rcases k with ⟨k0, _⟩ | ⟨k0, _⟩ | ⟨k0, _⟩ | ⟨k0, _, k2⟩ | ⟨k0, _⟩
    · omega
    · omega
    · omega
    · rcases h2 with ⟨h2, _, h3⟩ | ⟨h2, h4, _, ⟨h5, h3⟩ | ⟨h5, h3⟩⟩ | ⟨h2, h4, h3⟩ <;> rcases k2 with ⟨k2, _, k3⟩ | ⟨k2, k4, _, ⟨k5, k3⟩ | ⟨k5, k3⟩⟩ | ⟨k2, k4, k3⟩ <;> first | exact h3.trans k3.symm | exact (one_d h3 k3).2 | contradiction
    · omega
  · rcases k with ⟨k0, _⟩ | ⟨k0, _⟩ | ⟨k0, _⟩ | ⟨k0, _⟩ | ⟨k0, _, _, k2⟩
    · omega
    · omega
    · omega
    · omega
    · rcases h2 with ⟨h2, h3⟩ | ⟨h2, h3⟩ <;> rcases k2 with ⟨k2, k3⟩ | ⟨k2, k3⟩ <;> first | exact h3.trans k3.symm | contradiction
theorem wm_d {pa ot na re my pm ma fa fy fr : Nat → Int32} {mn fo t w f sc mp r sc2 mp2 q : Int32} (h : wmM pa ot na re my pm ma fa fy fr mn fo t w f sc mp r) (k : wmM pa ot na re my pm ma fa fy fr mn fo t w f sc2 mp2 q) : r = q := by
  obtain ⟨u, h1, h2⟩ := h
  obtain ⟨v, k1, k2⟩ := k
  rw [← mn_d h1 k1] at k2
  rcases h2 with ⟨h2, h3⟩ | ⟨⟨h2, h4⟩, h3⟩ | ⟨⟨h2, h4, h5⟩, h3⟩ <;> rcases k2 with ⟨k2, k3⟩ | ⟨⟨k2, k4⟩, k3⟩ | ⟨⟨k2, k4, k5⟩, k3⟩ <;> first | exact h3.trans k3.symm | omega | (rcases h4 with h4 | h4 <;> first | contradiction | omega) | (rcases k4 with k4 | k4 <;> first | contradiction | omega)
/-! what holds of the reference between calls -/
def plT (ty x : Int32) : Prop := (0 ≤ x.toInt ∧ x.toInt < ty.toInt) ∨ x.toInt = 10 ∨ (20 ≤ x.toInt ∧ x.toInt < 20 + ty.toInt) ∨ x.toInt = 30
theorem pl_ok {ty x : Int32} (h2 : 2 ≤ ty.toInt) (h : plT ty x) : okT ty x := by unfold plT at h; unfold okT; omega
/-- what holds of one value -/
def vaO (mPa mOt mNa mRe mMa mMy mPm mFy mFa mFr : Nat → Int32) (mMn mFn mRn : Int32) (mFo mRt mRm : Nat → Int32) (mTn : Int32) (mTt : Nat → Int32) (r f c : Int32) : Prop := (0 ≤ r.toInt ∧ r.toInt < mRn.toInt) ∧ (0 ≤ f.toInt ∧ f.toInt < mFn.toInt) ∧ (0 ≤ c.toInt ∧ c.toInt ≤ mTn.toInt) ∧ ((mFo r.toNatClampNeg).toInt = 1 → 1 ≤ c.toInt ∧ uM mPa (mTt c.toNatClampNeg) (mRt r.toNatClampNeg) = true) ∧ ∀ sc mp m : Int32, wmM mPa mOt mNa mRe mMy mPm mMa mFa mFy mFr mMn (mFo r.toNatClampNeg) (mRt r.toNatClampNeg) (mRm r.toNatClampNeg) f sc mp m → 0 ≤ m.toInt
/-- rows are short, and things' types are types -/
def tOK (ty : Int32) (z : cs_T) : Prop := ∀ i : Nat, 1 ≤ i → (i : Int) ≤ z.1.toInt → okT ty (z.2.2.1 i) ∧ (20 ≤ (z.2.2.1 i).toInt → 0 ≤ (z.2.2.2.1 i).toInt ∧ (z.2.2.2.1 i).toInt ≤ 20)
def mIv (mTy : Int32) (mPa mTo : Nat → Int32) (mTm mMn : Int32) (mOt mNa mRe mMa mMy mPm : Nat → Int32) (mFn : Int32) (mFy mFa mFr : Nat → Int32) (mRn : Int32) (mFo mRt mRm : Nat → Int32) (mTn : Int32) (mTt mTi : Nat → Int32) (mVn : Int32) (mVr mVf mVc : Nat → Int32) (mTr : Int32) : Prop := (2 ≤ mTy.toInt ∧ mTy.toInt ≤ 10) ∧ (paD mPa) ∧ (∀ k : Nat, 1 ≤ k → (k : Int) < mTy.toInt → 0 ≤ (mPa k).toInt) ∧ (0 ≤ mTm.toInt ∧ mTm.toInt ≤ 3) ∧ (∀ j : Nat, plT mTy (mTo j)) ∧ (0 ≤ mMn.toInt ∧ mMn.toInt ≤ 40) ∧ (myD mMy) ∧ (vrD mMa mMy) ∧ (mbD mOt mNa mRe mMn) ∧ (∀ i : Nat, plT mTy (mPm i)) ∧ (∀ j : Nat, (j : Int) < mMn.toInt → okT mTy (mOt j) ∧ okT mTy (mRe j) ∧ ((mMa j &&& 4).toInt ≠ 0 → 20 ≤ (mPm (3 * nI j + (mMy j - 1)).toNatClampNeg).toInt)) ∧ (ncD mPa mOt mNa mRe mMy mPm mMn) ∧ (0 ≤ mFn.toInt ∧ mFn.toInt ≤ 10) ∧ (fcD mFn mFy) ∧ (∀ i : Nat, plT mTy (mFa i)) ∧ (0 ≤ mRn.toInt ∧ mRn.toInt ≤ 30) ∧ (rfD mRn mTy mFo mRt) ∧ (∀ i : Nat, (i : Int) < mRn.toInt → (mFo i).toInt ≤ 2 → (mRm i).toInt ≠ 6) ∧ (0 ≤ mTn.toInt ∧ mTn.toInt ≤ 60) ∧ (∀ i : Nat, 1 ≤ i → (i : Int) ≤ mTn.toInt → okT mTy (mTt i) ∧ (20 ≤ (mTt i).toInt → 0 ≤ (mTi i).toInt ∧ (mTi i).toInt ≤ 20)) ∧ (0 ≤ mVn.toInt ∧ mVn.toInt ≤ 30) ∧ (∀ v : Nat, (v : Int) < mVn.toInt → vaO mPa mOt mNa mRe mMa mMy mPm mFy mFa mFr mMn mFn mRn mFo mRt mRm mTn mTt (mVr v) (mVf v) (mVc v)) ∧ (0 ≤ mTr.toInt ∧ mTr.toInt ≤ 50)
theorem mIv.mk {mTy : Int32} {mPa mTo : Nat → Int32} {mTm mMn : Int32} {mOt mNa mRe mMa mMy mPm : Nat → Int32} {mFn : Int32} {mFy mFa mFr : Nat → Int32} {mRn : Int32} {mFo mRt mRm : Nat → Int32} {mTn : Int32} {mTt mTi : Nat → Int32} {mVn : Int32} {mVr mVf mVc : Nat → Int32} {mTr : Int32} (ity : 2 ≤ mTy.toInt ∧ mTy.toInt ≤ 10) (ipa : paD mPa) (ipt : ∀ k : Nat, 1 ≤ k → (k : Int) < mTy.toInt → 0 ≤ (mPa k).toInt) (itm : 0 ≤ mTm.toInt ∧ mTm.toInt ≤ 3) (ito : ∀ j : Nat, plT mTy (mTo j)) (imn : 0 ≤ mMn.toInt ∧ mMn.toInt ≤ 40) (imy : myD mMy) (ivr : vrD mMa mMy) (imb : mbD mOt mNa mRe mMn) (ipm : ∀ i : Nat, plT mTy (mPm i)) (imo : ∀ j : Nat, (j : Int) < mMn.toInt → okT mTy (mOt j) ∧ okT mTy (mRe j) ∧ ((mMa j &&& 4).toInt ≠ 0 → 20 ≤ (mPm (3 * nI j + (mMy j - 1)).toNatClampNeg).toInt)) (inc : ncD mPa mOt mNa mRe mMy mPm mMn) (ifn : 0 ≤ mFn.toInt ∧ mFn.toInt ≤ 10) (ifc : fcD mFn mFy) (ifa : ∀ i : Nat, plT mTy (mFa i)) (irn : 0 ≤ mRn.toInt ∧ mRn.toInt ≤ 30) (irf : rfD mRn mTy mFo mRt) (irw : ∀ i : Nat, (i : Int) < mRn.toInt → (mFo i).toInt ≤ 2 → (mRm i).toInt ≠ 6) (itn : 0 ≤ mTn.toInt ∧ mTn.toInt ≤ 60) (itk : ∀ i : Nat, 1 ≤ i → (i : Int) ≤ mTn.toInt → okT mTy (mTt i) ∧ (20 ≤ (mTt i).toInt → 0 ≤ (mTi i).toInt ∧ (mTi i).toInt ≤ 20)) (ivn : 0 ≤ mVn.toInt ∧ mVn.toInt ≤ 30) (iva : ∀ v : Nat, (v : Int) < mVn.toInt → vaO mPa mOt mNa mRe mMa mMy mPm mFy mFa mFr mMn mFn mRn mFo mRt mRm mTn mTt (mVr v) (mVf v) (mVc v)) (itr : 0 ≤ mTr.toInt ∧ mTr.toInt ≤ 50) : mIv mTy mPa mTo mTm mMn mOt mNa mRe mMa mMy mPm mFn mFy mFa mFr mRn mFo mRt mRm mTn mTt mTi mVn mVr mVf mVc mTr := ⟨ity, ipa, ipt, itm, ito, imn, imy, ivr, imb, ipm, imo, inc, ifn, ifc, ifa, irn, irf, irw, itn, itk, ivn, iva, itr⟩
theorem mIv.ity {mTy : Int32} {mPa mTo : Nat → Int32} {mTm mMn : Int32} {mOt mNa mRe mMa mMy mPm : Nat → Int32} {mFn : Int32} {mFy mFa mFr : Nat → Int32} {mRn : Int32} {mFo mRt mRm : Nat → Int32} {mTn : Int32} {mTt mTi : Nat → Int32} {mVn : Int32} {mVr mVf mVc : Nat → Int32} {mTr : Int32} (h : mIv mTy mPa mTo mTm mMn mOt mNa mRe mMa mMy mPm mFn mFy mFa mFr mRn mFo mRt mRm mTn mTt mTi mVn mVr mVf mVc mTr) : 2 ≤ mTy.toInt ∧ mTy.toInt ≤ 10 := h.1
theorem mIv.ipa {mTy : Int32} {mPa mTo : Nat → Int32} {mTm mMn : Int32} {mOt mNa mRe mMa mMy mPm : Nat → Int32} {mFn : Int32} {mFy mFa mFr : Nat → Int32} {mRn : Int32} {mFo mRt mRm : Nat → Int32} {mTn : Int32} {mTt mTi : Nat → Int32} {mVn : Int32} {mVr mVf mVc : Nat → Int32} {mTr : Int32} (h : mIv mTy mPa mTo mTm mMn mOt mNa mRe mMa mMy mPm mFn mFy mFa mFr mRn mFo mRt mRm mTn mTt mTi mVn mVr mVf mVc mTr) : paD mPa := h.2.1
theorem mIv.ipt {mTy : Int32} {mPa mTo : Nat → Int32} {mTm mMn : Int32} {mOt mNa mRe mMa mMy mPm : Nat → Int32} {mFn : Int32} {mFy mFa mFr : Nat → Int32} {mRn : Int32} {mFo mRt mRm : Nat → Int32} {mTn : Int32} {mTt mTi : Nat → Int32} {mVn : Int32} {mVr mVf mVc : Nat → Int32} {mTr : Int32} (h : mIv mTy mPa mTo mTm mMn mOt mNa mRe mMa mMy mPm mFn mFy mFa mFr mRn mFo mRt mRm mTn mTt mTi mVn mVr mVf mVc mTr) : ∀ k : Nat, 1 ≤ k → (k : Int) < mTy.toInt → 0 ≤ (mPa k).toInt := h.2.2.1
theorem mIv.itm {mTy : Int32} {mPa mTo : Nat → Int32} {mTm mMn : Int32} {mOt mNa mRe mMa mMy mPm : Nat → Int32} {mFn : Int32} {mFy mFa mFr : Nat → Int32} {mRn : Int32} {mFo mRt mRm : Nat → Int32} {mTn : Int32} {mTt mTi : Nat → Int32} {mVn : Int32} {mVr mVf mVc : Nat → Int32} {mTr : Int32} (h : mIv mTy mPa mTo mTm mMn mOt mNa mRe mMa mMy mPm mFn mFy mFa mFr mRn mFo mRt mRm mTn mTt mTi mVn mVr mVf mVc mTr) : 0 ≤ mTm.toInt ∧ mTm.toInt ≤ 3 := h.2.2.2.1
theorem mIv.ito {mTy : Int32} {mPa mTo : Nat → Int32} {mTm mMn : Int32} {mOt mNa mRe mMa mMy mPm : Nat → Int32} {mFn : Int32} {mFy mFa mFr : Nat → Int32} {mRn : Int32} {mFo mRt mRm : Nat → Int32} {mTn : Int32} {mTt mTi : Nat → Int32} {mVn : Int32} {mVr mVf mVc : Nat → Int32} {mTr : Int32} (h : mIv mTy mPa mTo mTm mMn mOt mNa mRe mMa mMy mPm mFn mFy mFa mFr mRn mFo mRt mRm mTn mTt mTi mVn mVr mVf mVc mTr) : ∀ j : Nat, plT mTy (mTo j) := h.2.2.2.2.1
theorem mIv.imn {mTy : Int32} {mPa mTo : Nat → Int32} {mTm mMn : Int32} {mOt mNa mRe mMa mMy mPm : Nat → Int32} {mFn : Int32} {mFy mFa mFr : Nat → Int32} {mRn : Int32} {mFo mRt mRm : Nat → Int32} {mTn : Int32} {mTt mTi : Nat → Int32} {mVn : Int32} {mVr mVf mVc : Nat → Int32} {mTr : Int32} (h : mIv mTy mPa mTo mTm mMn mOt mNa mRe mMa mMy mPm mFn mFy mFa mFr mRn mFo mRt mRm mTn mTt mTi mVn mVr mVf mVc mTr) : 0 ≤ mMn.toInt ∧ mMn.toInt ≤ 40 := h.2.2.2.2.2.1
theorem mIv.imy {mTy : Int32} {mPa mTo : Nat → Int32} {mTm mMn : Int32} {mOt mNa mRe mMa mMy mPm : Nat → Int32} {mFn : Int32} {mFy mFa mFr : Nat → Int32} {mRn : Int32} {mFo mRt mRm : Nat → Int32} {mTn : Int32} {mTt mTi : Nat → Int32} {mVn : Int32} {mVr mVf mVc : Nat → Int32} {mTr : Int32} (h : mIv mTy mPa mTo mTm mMn mOt mNa mRe mMa mMy mPm mFn mFy mFa mFr mRn mFo mRt mRm mTn mTt mTi mVn mVr mVf mVc mTr) : myD mMy := h.2.2.2.2.2.2.1
theorem mIv.ivr {mTy : Int32} {mPa mTo : Nat → Int32} {mTm mMn : Int32} {mOt mNa mRe mMa mMy mPm : Nat → Int32} {mFn : Int32} {mFy mFa mFr : Nat → Int32} {mRn : Int32} {mFo mRt mRm : Nat → Int32} {mTn : Int32} {mTt mTi : Nat → Int32} {mVn : Int32} {mVr mVf mVc : Nat → Int32} {mTr : Int32} (h : mIv mTy mPa mTo mTm mMn mOt mNa mRe mMa mMy mPm mFn mFy mFa mFr mRn mFo mRt mRm mTn mTt mTi mVn mVr mVf mVc mTr) : vrD mMa mMy := h.2.2.2.2.2.2.2.1
theorem mIv.imb {mTy : Int32} {mPa mTo : Nat → Int32} {mTm mMn : Int32} {mOt mNa mRe mMa mMy mPm : Nat → Int32} {mFn : Int32} {mFy mFa mFr : Nat → Int32} {mRn : Int32} {mFo mRt mRm : Nat → Int32} {mTn : Int32} {mTt mTi : Nat → Int32} {mVn : Int32} {mVr mVf mVc : Nat → Int32} {mTr : Int32} (h : mIv mTy mPa mTo mTm mMn mOt mNa mRe mMa mMy mPm mFn mFy mFa mFr mRn mFo mRt mRm mTn mTt mTi mVn mVr mVf mVc mTr) : mbD mOt mNa mRe mMn := h.2.2.2.2.2.2.2.2.1
theorem mIv.ipm {mTy : Int32} {mPa mTo : Nat → Int32} {mTm mMn : Int32} {mOt mNa mRe mMa mMy mPm : Nat → Int32} {mFn : Int32} {mFy mFa mFr : Nat → Int32} {mRn : Int32} {mFo mRt mRm : Nat → Int32} {mTn : Int32} {mTt mTi : Nat → Int32} {mVn : Int32} {mVr mVf mVc : Nat → Int32} {mTr : Int32} (h : mIv mTy mPa mTo mTm mMn mOt mNa mRe mMa mMy mPm mFn mFy mFa mFr mRn mFo mRt mRm mTn mTt mTi mVn mVr mVf mVc mTr) : ∀ i : Nat, plT mTy (mPm i) := h.2.2.2.2.2.2.2.2.2.1
theorem mIv.imo {mTy : Int32} {mPa mTo : Nat → Int32} {mTm mMn : Int32} {mOt mNa mRe mMa mMy mPm : Nat → Int32} {mFn : Int32} {mFy mFa mFr : Nat → Int32} {mRn : Int32} {mFo mRt mRm : Nat → Int32} {mTn : Int32} {mTt mTi : Nat → Int32} {mVn : Int32} {mVr mVf mVc : Nat → Int32} {mTr : Int32} (h : mIv mTy mPa mTo mTm mMn mOt mNa mRe mMa mMy mPm mFn mFy mFa mFr mRn mFo mRt mRm mTn mTt mTi mVn mVr mVf mVc mTr) : ∀ j : Nat, (j : Int) < mMn.toInt → okT mTy (mOt j) ∧ okT mTy (mRe j) ∧ ((mMa j &&& 4).toInt ≠ 0 → 20 ≤ (mPm (3 * nI j + (mMy j - 1)).toNatClampNeg).toInt) := h.2.2.2.2.2.2.2.2.2.2.1
theorem mIv.inc {mTy : Int32} {mPa mTo : Nat → Int32} {mTm mMn : Int32} {mOt mNa mRe mMa mMy mPm : Nat → Int32} {mFn : Int32} {mFy mFa mFr : Nat → Int32} {mRn : Int32} {mFo mRt mRm : Nat → Int32} {mTn : Int32} {mTt mTi : Nat → Int32} {mVn : Int32} {mVr mVf mVc : Nat → Int32} {mTr : Int32} (h : mIv mTy mPa mTo mTm mMn mOt mNa mRe mMa mMy mPm mFn mFy mFa mFr mRn mFo mRt mRm mTn mTt mTi mVn mVr mVf mVc mTr) : ncD mPa mOt mNa mRe mMy mPm mMn := h.2.2.2.2.2.2.2.2.2.2.2.1
theorem mIv.ifn {mTy : Int32} {mPa mTo : Nat → Int32} {mTm mMn : Int32} {mOt mNa mRe mMa mMy mPm : Nat → Int32} {mFn : Int32} {mFy mFa mFr : Nat → Int32} {mRn : Int32} {mFo mRt mRm : Nat → Int32} {mTn : Int32} {mTt mTi : Nat → Int32} {mVn : Int32} {mVr mVf mVc : Nat → Int32} {mTr : Int32} (h : mIv mTy mPa mTo mTm mMn mOt mNa mRe mMa mMy mPm mFn mFy mFa mFr mRn mFo mRt mRm mTn mTt mTi mVn mVr mVf mVc mTr) : 0 ≤ mFn.toInt ∧ mFn.toInt ≤ 10 := h.2.2.2.2.2.2.2.2.2.2.2.2.1
theorem mIv.ifc {mTy : Int32} {mPa mTo : Nat → Int32} {mTm mMn : Int32} {mOt mNa mRe mMa mMy mPm : Nat → Int32} {mFn : Int32} {mFy mFa mFr : Nat → Int32} {mRn : Int32} {mFo mRt mRm : Nat → Int32} {mTn : Int32} {mTt mTi : Nat → Int32} {mVn : Int32} {mVr mVf mVc : Nat → Int32} {mTr : Int32} (h : mIv mTy mPa mTo mTm mMn mOt mNa mRe mMa mMy mPm mFn mFy mFa mFr mRn mFo mRt mRm mTn mTt mTi mVn mVr mVf mVc mTr) : fcD mFn mFy := h.2.2.2.2.2.2.2.2.2.2.2.2.2.1
theorem mIv.ifa {mTy : Int32} {mPa mTo : Nat → Int32} {mTm mMn : Int32} {mOt mNa mRe mMa mMy mPm : Nat → Int32} {mFn : Int32} {mFy mFa mFr : Nat → Int32} {mRn : Int32} {mFo mRt mRm : Nat → Int32} {mTn : Int32} {mTt mTi : Nat → Int32} {mVn : Int32} {mVr mVf mVc : Nat → Int32} {mTr : Int32} (h : mIv mTy mPa mTo mTm mMn mOt mNa mRe mMa mMy mPm mFn mFy mFa mFr mRn mFo mRt mRm mTn mTt mTi mVn mVr mVf mVc mTr) : ∀ i : Nat, plT mTy (mFa i) := h.2.2.2.2.2.2.2.2.2.2.2.2.2.2.1
theorem mIv.irn {mTy : Int32} {mPa mTo : Nat → Int32} {mTm mMn : Int32} {mOt mNa mRe mMa mMy mPm : Nat → Int32} {mFn : Int32} {mFy mFa mFr : Nat → Int32} {mRn : Int32} {mFo mRt mRm : Nat → Int32} {mTn : Int32} {mTt mTi : Nat → Int32} {mVn : Int32} {mVr mVf mVc : Nat → Int32} {mTr : Int32} (h : mIv mTy mPa mTo mTm mMn mOt mNa mRe mMa mMy mPm mFn mFy mFa mFr mRn mFo mRt mRm mTn mTt mTi mVn mVr mVf mVc mTr) : 0 ≤ mRn.toInt ∧ mRn.toInt ≤ 30 := h.2.2.2.2.2.2.2.2.2.2.2.2.2.2.2.1
theorem mIv.irf {mTy : Int32} {mPa mTo : Nat → Int32} {mTm mMn : Int32} {mOt mNa mRe mMa mMy mPm : Nat → Int32} {mFn : Int32} {mFy mFa mFr : Nat → Int32} {mRn : Int32} {mFo mRt mRm : Nat → Int32} {mTn : Int32} {mTt mTi : Nat → Int32} {mVn : Int32} {mVr mVf mVc : Nat → Int32} {mTr : Int32} (h : mIv mTy mPa mTo mTm mMn mOt mNa mRe mMa mMy mPm mFn mFy mFa mFr mRn mFo mRt mRm mTn mTt mTi mVn mVr mVf mVc mTr) : rfD mRn mTy mFo mRt := h.2.2.2.2.2.2.2.2.2.2.2.2.2.2.2.2.1
theorem mIv.irw {mTy : Int32} {mPa mTo : Nat → Int32} {mTm mMn : Int32} {mOt mNa mRe mMa mMy mPm : Nat → Int32} {mFn : Int32} {mFy mFa mFr : Nat → Int32} {mRn : Int32} {mFo mRt mRm : Nat → Int32} {mTn : Int32} {mTt mTi : Nat → Int32} {mVn : Int32} {mVr mVf mVc : Nat → Int32} {mTr : Int32} (h : mIv mTy mPa mTo mTm mMn mOt mNa mRe mMa mMy mPm mFn mFy mFa mFr mRn mFo mRt mRm mTn mTt mTi mVn mVr mVf mVc mTr) : ∀ i : Nat, (i : Int) < mRn.toInt → (mFo i).toInt ≤ 2 → (mRm i).toInt ≠ 6 := h.2.2.2.2.2.2.2.2.2.2.2.2.2.2.2.2.2.1
theorem mIv.itn {mTy : Int32} {mPa mTo : Nat → Int32} {mTm mMn : Int32} {mOt mNa mRe mMa mMy mPm : Nat → Int32} {mFn : Int32} {mFy mFa mFr : Nat → Int32} {mRn : Int32} {mFo mRt mRm : Nat → Int32} {mTn : Int32} {mTt mTi : Nat → Int32} {mVn : Int32} {mVr mVf mVc : Nat → Int32} {mTr : Int32} (h : mIv mTy mPa mTo mTm mMn mOt mNa mRe mMa mMy mPm mFn mFy mFa mFr mRn mFo mRt mRm mTn mTt mTi mVn mVr mVf mVc mTr) : 0 ≤ mTn.toInt ∧ mTn.toInt ≤ 60 := h.2.2.2.2.2.2.2.2.2.2.2.2.2.2.2.2.2.2.1
theorem mIv.itk {mTy : Int32} {mPa mTo : Nat → Int32} {mTm mMn : Int32} {mOt mNa mRe mMa mMy mPm : Nat → Int32} {mFn : Int32} {mFy mFa mFr : Nat → Int32} {mRn : Int32} {mFo mRt mRm : Nat → Int32} {mTn : Int32} {mTt mTi : Nat → Int32} {mVn : Int32} {mVr mVf mVc : Nat → Int32} {mTr : Int32} (h : mIv mTy mPa mTo mTm mMn mOt mNa mRe mMa mMy mPm mFn mFy mFa mFr mRn mFo mRt mRm mTn mTt mTi mVn mVr mVf mVc mTr) : ∀ i : Nat, 1 ≤ i → (i : Int) ≤ mTn.toInt → okT mTy (mTt i) ∧ (20 ≤ (mTt i).toInt → 0 ≤ (mTi i).toInt ∧ (mTi i).toInt ≤ 20) := h.2.2.2.2.2.2.2.2.2.2.2.2.2.2.2.2.2.2.2.1
theorem mIv.ivn {mTy : Int32} {mPa mTo : Nat → Int32} {mTm mMn : Int32} {mOt mNa mRe mMa mMy mPm : Nat → Int32} {mFn : Int32} {mFy mFa mFr : Nat → Int32} {mRn : Int32} {mFo mRt mRm : Nat → Int32} {mTn : Int32} {mTt mTi : Nat → Int32} {mVn : Int32} {mVr mVf mVc : Nat → Int32} {mTr : Int32} (h : mIv mTy mPa mTo mTm mMn mOt mNa mRe mMa mMy mPm mFn mFy mFa mFr mRn mFo mRt mRm mTn mTt mTi mVn mVr mVf mVc mTr) : 0 ≤ mVn.toInt ∧ mVn.toInt ≤ 30 := h.2.2.2.2.2.2.2.2.2.2.2.2.2.2.2.2.2.2.2.2.1
theorem mIv.iva {mTy : Int32} {mPa mTo : Nat → Int32} {mTm mMn : Int32} {mOt mNa mRe mMa mMy mPm : Nat → Int32} {mFn : Int32} {mFy mFa mFr : Nat → Int32} {mRn : Int32} {mFo mRt mRm : Nat → Int32} {mTn : Int32} {mTt mTi : Nat → Int32} {mVn : Int32} {mVr mVf mVc : Nat → Int32} {mTr : Int32} (h : mIv mTy mPa mTo mTm mMn mOt mNa mRe mMa mMy mPm mFn mFy mFa mFr mRn mFo mRt mRm mTn mTt mTi mVn mVr mVf mVc mTr) : ∀ v : Nat, (v : Int) < mVn.toInt → vaO mPa mOt mNa mRe mMa mMy mPm mFy mFa mFr mMn mFn mRn mFo mRt mRm mTn mTt (mVr v) (mVf v) (mVc v) := h.2.2.2.2.2.2.2.2.2.2.2.2.2.2.2.2.2.2.2.2.2.1
theorem mIv.itr {mTy : Int32} {mPa mTo : Nat → Int32} {mTm mMn : Int32} {mOt mNa mRe mMa mMy mPm : Nat → Int32} {mFn : Int32} {mFy mFa mFr : Nat → Int32} {mRn : Int32} {mFo mRt mRm : Nat → Int32} {mTn : Int32} {mTt mTi : Nat → Int32} {mVn : Int32} {mVr mVf mVc : Nat → Int32} {mTr : Int32} (h : mIv mTy mPa mTo mTm mMn mOt mNa mRe mMa mMy mPm mFn mFy mFa mFr mRn mFo mRt mRm mTn mTt mTi mVn mVr mVf mVc mTr) : 0 ≤ mTr.toInt ∧ mTr.toInt ≤ 50 := h.2.2.2.2.2.2.2.2.2.2.2.2.2.2.2.2.2.2.2.2.2.2
section
variable {mTy : Int32} {mPa mTo : Nat → Int32} {mTm mMn : Int32} {mOt mNa mRe mMa mMy mPm : Nat → Int32} {mFn : Int32} {mFy mFa mFr : Nat → Int32} {mRn : Int32} {mFo mRt mRm : Nat → Int32} {mTn : Int32} {mTt mTi : Nat → Int32} {mVn : Int32} {mVr mVf mVc : Nat → Int32} {mTr : Int32}
theorem ok_m {ty x : Int32} (h1 : ty.toInt ≤ 9) (h0 : 0 ≤ ty.toInt) (h : okT ty x) : okT (ty + 1) x := by
  have e : (ty + 1).toInt = ty.toInt + 1 := iAdd rfl (by decide) (by omega) (by omega)
  unfold okT at h ⊢; omega
theorem pl_m {ty x : Int32} (h1 : ty.toInt ≤ 9) (h0 : 0 ≤ ty.toInt) (h : plT ty x) : plT (ty + 1) x := by
  have e : (ty + 1).toInt = ty.toInt + 1 := iAdd rfl (by decide) (by omega) (by omega)
  unfold plT at h ⊢; omega
/-- the types of a reference that a meaning asks for -/
theorem rf_k (h : mIv mTy mPa mTo mTm mMn mOt mNa mRe mMa mMy mPm mFn mFy mFa mFr mRn mFo mRt mRm mTn mTt mTi mVn mVr mVf mVc mTr) {r : Int32} (hr : 0 ≤ r.toInt ∧ r.toInt < mRn.toInt) : ((mFo r.toNatClampNeg).toInt ≠ 4 → okT mTy (mRt r.toNatClampNeg) ∧ okT mTy (cM (mRt r.toNatClampNeg))) ∧ ((mFo r.toNatClampNeg).toInt = 4 → okT mTy (20 + mRt r.toNatClampNeg)) ∧ ((mFo r.toNatClampNeg).toInt = 2 → okT mTy (cM (mPa (mRt r.toNatClampNeg).toNatClampNeg))) := by
  have hrf := rfD_at h.irf hr
  have hty := h.ity
  refine ⟨fun q => ?_, fun q => ?_, fun q => ?_⟩
  · have e := hrf.2.1 q
    have ec : cM (mRt r.toNatClampNeg) = mRt r.toNatClampNeg := by unfold cM; rw [if_neg (by omega)]
    rw [ec]
    exact ⟨Or.inl e.2, Or.inl e.2⟩
  · have e := hrf.2.2.1 q
    have e2 : (20 + mRt r.toNatClampNeg).toInt = 20 + (mRt r.toNatClampNeg).toInt := iAdd (by decide) rfl (by omega) (by omega)
    unfold okT; omega
  · have e := hrf.2.1 (by omega)
    have e2 := hrf.2.2.2 q
    have hx := xN e.1
    have e3 := h.ipa (mRt r.toNatClampNeg).toNatClampNeg (by omega)
    have ec : cM (mPa (mRt r.toNatClampNeg).toNatClampNeg) = mPa (mRt r.toNatClampNeg).toNatClampNeg := by unfold cM; rw [if_neg (by omega)]
    rw [ec]
    exact Or.inl (by omega)
theorem mk_of (h : mIv mTy mPa mTo mTm mMn mOt mNa mRe mMa mMy mPm mFn mFy mFa mFr mRn mFo mRt mRm mTn mTt mTi mVn mVr mVf mVc mTr) : mbK mTy mOt mRe mMa mMy mPm mMn := by
  intro j q
  have hty := h.ity
  have hmn := h.imn
  obtain ⟨q1, q2, q3⟩ := h.imo j q
  have ec := nI_c (k := j) (by omega)
  rw [ec]
  refine ⟨q1, q2, fun k _ => pl_ok hty.1 (h.ipm _), fun u k => ?_⟩
  unfold plV
  rw [ec]
  have q4 := q3 u
  have q5 := h.ipm (3 * nI j + (mMy j - 1)).toNatClampNeg
  split
  · exact pl_ok hty.1 (h.ipm _)
  · split
    · have e10 : (10 : Int32).toInt = 10 := by decide
      exact Or.inr (Or.inl (by omega))
    · next q6 =>
      unfold plT at q5
      have e4 : (mPm (3 * nI j + (mMy j - 1)).toNatClampNeg - 20).toInt = (mPm (3 * nI j + (mMy j - 1)).toNatClampNeg).toInt - 20 := iSub rfl (by decide) (by omega) (by omega)
      exact Or.inl (by omega)
theorem fk_s (h : mIv mTy mPa mTo mTm mMn mOt mNa mRe mMa mMy mPm mFn mFy mFa mFr mRn mFo mRt mRm mTn mTt mTi mVn mVr mVf mVc mTr) {f : Int32} (hf : 0 ≤ f.toInt ∧ f.toInt < mFn.toInt) : fcK mTy mFa mFa mFy mFy f := ⟨by have := h.ifn; omega, fcD_at h.ifc hf, rfl, fun j q => ⟨rfl, pl_ok h.ity.1 (h.ifa _)⟩⟩
/-- a type more -/
theorem iv_type (h : mIv mTy mPa mTo mTm mMn mOt mNa mRe mMa mMy mPm mFn mFy mFa mFr mRn mFo mRt mRm mTn mTt mTi mVn mVr mVf mVc mTr) {t : Int32} (ht : 0 ≤ t.toInt ∧ t.toInt < mTy.toInt) (h9 : mTy.toInt < 10) : mIv (mTy + 1) (upd mPa mTy.toNatClampNeg t) mTo mTm mMn mOt mNa mRe mMa mMy mPm mFn mFy mFa mFr mRn mFo mRt mRm mTn mTt mTi mVn mVr mVf mVc mTr := by
  have hty := h.ity
  have e : (mTy + 1).toInt = mTy.toInt + 1 := iAdd rfl (by decide) (by omega) (by omega)
  have hx := xN (x := mTy) (by omega)
  have hU := uM_n (t := t) h.ipa (show 2 ≤ mTy.toInt ∧ mTy.toInt ≤ 9 by omega)
  have om : ∀ {x : Int32}, okT mTy x → okT (mTy + 1) x := fun q => ok_m (by omega) (by omega) q
  refine mIv.mk (ity := by omega) (ipa := ?_) (ipt := ?_) (itm := h.itm) (ito := fun j => pl_m (by omega) (by omega) (h.ito j)) (imn := h.imn) (imy := h.imy) (ivr := h.ivr) (imb := h.imb) (ipm := fun j => pl_m (by omega) (by omega) (h.ipm j)) (imo := fun j q => ⟨om (h.imo j q).1, om (h.imo j q).2.1, (h.imo j q).2.2⟩) (inc := ?_) (ifn := h.ifn) (ifc := h.ifc) (ifa := fun j => pl_m (by omega) (by omega) (h.ifa j)) (irn := h.irn) (irf := ?_) (irw := h.irw) (itn := h.itn) (itk := fun i q q2 => ⟨om (h.itk i q q2).1, (h.itk i q q2).2⟩) (ivn := h.ivn) (iva := ?_) (itr := h.itr)
  · intro k q
    by_cases ek : k = mTy.toNatClampNeg
    · rw [ek, updS]; omega
    · rw [updN ek]; exact h.ipa k q
  · intro k q q2
    by_cases ek : k = mTy.toNatClampNeg
    · rw [ek, updS]; omega
    · rw [updN ek]; exact h.ipt k q (by omega)
  · intro i j q1 q2 q3 q4 q5 q6
    have k1 := (h.imo i q1).1
    have k2 := (h.imo j q2).1
    rw [hU _ _ k1, hU _ _ k2] at q6
    exact h.inc i j q1 q2 q3 q4 q5 q6
  · intro i q
    obtain ⟨q1, q2, q3, q4⟩ := h.irf i q
    exact ⟨q1, fun u => by have := q2 u; omega, fun u => by have := q3 u; omega, q4⟩
  · intro v q
    obtain ⟨q1, q2, q3, q4, q5⟩ := h.iva v q
    refine ⟨q1, q2, q3, fun u => ⟨(q4 u).1, ?_⟩, fun sc mp m u => ?_⟩
    · have hv := q4 u
      rw [hU _ _ (h.itk (mVc v).toNatClampNeg (by have := xN q3.1; omega) (by have := xN q3.1; omega)).1]
      exact hv.2
    · have k := rf_k h q1
      have hrf := rfD_at h.irf q1
      refine q5 sc mp m (wm_c hU hty.1 h.imn.2 (mk_of h) (fk_s h q2) rfl k.1 k.2.1 (fun w => ?_) hrf.1 u)
      have e2 := hrf.2.1 (by omega)
      have hx2 := xN e2.1
      rw [updN (by omega)]
      exact ⟨rfl, k.2.2 w⟩
end
