theorem cm_1 {re : Nat → Int32} {fo t m : Int32} (h : fo.toInt = 4 ∧ t.toInt = 10) : cmM re fo t m = 30 := by unfold cmM; rw [if_pos h.1, if_pos h.2]
theorem cm_2 {re : Nat → Int32} {fo t m : Int32} (h : fo.toInt = 4 ∧ t.toInt ≠ 10) : cmM re fo t m = 20 + t := by unfold cmM; rw [if_pos h.1, if_neg h.2]
theorem cm_3 {re : Nat → Int32} {fo t m : Int32} (h : fo.toInt = 3) : cmM re fo t m = t := by unfold cmM; rw [if_neg (by omega), if_pos h]
theorem cm_4 {re : Nat → Int32} {fo t m : Int32} (h : fo.toInt ≠ 4 ∧ fo.toInt ≠ 3) : cmM re fo t m = re m.toNatClampNeg := by unfold cmM; rw [if_neg h.1, if_neg h.2]
set_option maxRecDepth 100000 in
set_option maxHeartbeats 4000000 in
theorem w2_X12_comes {g c1 c2 c3 c4 c5 c6 c7 c8 c9 c10 c11 c12 c13 c14 c15 c16 c17 c18 c19 c20 c21 c22 c23 c24 : pm_C} {dyn : pm_H} {mTy : Int32} {mPa : Nat → Int32} {mTo : Nat → Int32} {mTm : Int32} {mMn : Int32} {mOt : Nat → Int32} {mNa : Nat → Int32} {mRe : Nat → Int32} {mMa : Nat → Int32} {mMy : Nat → Int32} {mPm : Nat → Int32} {mFn : Int32} {mFy : Nat → Int32} {mFa : Nat → Int32} {mFr : Nat → Int32} {mRn : Int32} {mFo : Nat → Int32} {mRt : Nat → Int32} {mRm : Nat → Int32} {mTn : Int32} {mTt : Nat → Int32} {mTi : Nat → Int32} {mPl : Nat → Int32} {mVn : Int32} {mVr : Nat → Int32} {mVf : Nat → Int32} {mVc : Nat → Int32} {mAr : Nat → Int32} {mLr : Int32} {mTc : Nat → Int32} {mTr : Int32} {mFl : Int32} {mFt : Nat → Int32} {mFm : Int32} {mFp : Int32} {mSc : Int32} {mMp : Int32} {mEn : Int32} {mGo : Nat → Int32} {Q : pm_Q} (r : Int32) (m : Int32) (p0 : 0 ≤ r.toInt ∧ r.toInt < 30) (p1 : ((mFo r.toNatClampNeg).toInt = 3 ∨ (mFo r.toNatClampNeg).toInt = 4 ∨ (0 ≤ m.toInt ∧ m.toInt < 40))) (k0 : Q (some (.int (cmM mRe (mFo r.toNatClampNeg) (mRt r.toNatClampNeg) m))) (hq g c1 c2 c3 c4 c5 c6 c7 c8 c9 c10 c11 c12 c13 c14 c15 c16 c17 c18 c19 c20 c21 c22 c23 c24 (hc25 mTy mTm mMn mFn mRn mTn mVn mLr mTr mFl mFm mFp mSc mMp mEn) (hc26 mPa) (hc27 mTo) (hc28 mOt) (hc29 mNa) (hc30 mRe) (hc31 mMa) (hc32 mMy) (hc33 mPm) (hc34 mFy) (hc35 mFa) (hc36 mFr) (hc37 mFo) (hc38 mRt) (hc39 mRm) (hc40 mTt) (hc41 mTi) (hc42 mPl) (hc43 mVr) (hc44 mVf) (hc45 mVc) (hc46 mAr) (hc47 mTc) (hc48 mFt) (hc49 mGo) dyn)) : pm_WP 158 (0, [(0, .ref 25), (1, .int r), (2, .int m)], [], hq g c1 c2 c3 c4 c5 c6 c7 c8 c9 c10 c11 c12 c13 c14 c15 c16 c17 c18 c19 c20 c21 c22 c23 c24 (hc25 mTy mTm mMn mFn mRn mTn mVn mLr mTr mFl mFm mFp mSc mMp mEn) (hc26 mPa) (hc27 mTo) (hc28 mOt) (hc29 mNa) (hc30 mRe) (hc31 mMa) (hc32 mMy) (hc33 mPm) (hc34 mFy) (hc35 mFa) (hc36 mFr) (hc37 mFo) (hc38 mRt) (hc39 mRm) (hc40 mTt) (hc41 mTi) (hc42 mPl) (hc43 mVr) (hc44 mVf) (hc45 mVc) (hc46 mAr) (hc47 mTc) (hc48 mFt) (hc49 mGo) dyn, 0, 0) Q := by
  refine w_X12_comes r m p0 p1 (fun h => ?_) (fun h => ?_) (fun h => ?_) (fun h => ?_)
  · rw [cm_1 h] at k0; exact k0
  · rw [cm_2 h] at k0; exact k0
  · rw [cm_3 h] at k0; exact k0
  · rw [cm_4 h] at k0; exact k0
set_option maxRecDepth 100000 in
set_option maxHeartbeats 4000000 in
theorem w_X12_wholeMeaning {g c1 c2 c3 c4 c5 c6 c7 c8 c9 c10 c11 c12 c13 c14 c15 c16 c17 c18 c19 c20 c21 c22 c23 c24 : pm_C} {dyn : pm_H} {mTy : Int32} {mPa : Nat → Int32} {mTo : Nat → Int32} {mTm : Int32} {mMn : Int32} {mOt : Nat → Int32} {mNa : Nat → Int32} {mRe : Nat → Int32} {mMa : Nat → Int32} {mMy : Nat → Int32} {mPm : Nat → Int32} {mFn : Int32} {mFy : Nat → Int32} {mFa : Nat → Int32} {mFr : Nat → Int32} {mRn : Int32} {mFo : Nat → Int32} {mRt : Nat → Int32} {mRm : Nat → Int32} {mTn : Int32} {mTt : Nat → Int32} {mTi : Nat → Int32} {mPl : Nat → Int32} {mVn : Int32} {mVr : Nat → Int32} {mVf : Nat → Int32} {mVc : Nat → Int32} {mAr : Nat → Int32} {mLr : Int32} {mTc : Nat → Int32} {mTr : Int32} {mFl : Int32} {mFt : Nat → Int32} {mFm : Int32} {mFp : Int32} {mSc : Int32} {mMp : Int32} {mEn : Int32} {mGo : Nat → Int32} {Q : pm_Q} (r : Int32) (f : Int32) (p0 : 0 ≤ r.toInt ∧ r.toInt < 30) (p1 : (0 ≤ (mFo r.toNatClampNeg).toInt ∧ (mFo r.toNatClampNeg).toInt ≤ 4) ∧ ((mFo r.toNatClampNeg).toInt = 2 → 0 ≤ (mRt r.toNatClampNeg).toInt ∧ (mRt r.toNatClampNeg).toInt < 10)) (p2 : 0 ≤ f.toInt ∧ f.toInt < 10) (p3 : 0 ≤ (mFy f.toNatClampNeg).toInt ∧ (mFy f.toNatClampNeg).toInt ≤ 3) (p4 : paD mPa) (p5 : myD mMy) (p6 : vrD mMa mMy) (p7 : 0 ≤ mMn.toInt ∧ mMn.toInt ≤ 40) (k0 : ∀ (s9 : Int32), ∀ (f9 : Nat → Int32), ∀ (m9 : Int32), ∀ (q9 : Int32), ∀ (p9 : Int32), ∀ (r9 : Int32), (wmM mPa mOt mNa mRe mMy mPm mMa mFa mFy mFr mMn (mFo r.toNatClampNeg) (mRt r.toNatClampNeg) (mRm r.toNatClampNeg) f s9 p9 r9) → ((-15 ≤ r9.toInt ∧ (r9.toInt < mMn.toInt ∨ (r9.toInt = 99 ∧ 3 ≤ (mFo r.toNatClampNeg).toInt))) ∧ (0 ≤ p9.toInt ∧ p9.toInt ≤ 3)) → Q (some (.int r9)) (hq g c1 c2 c3 c4 c5 c6 c7 c8 c9 c10 c11 c12 c13 c14 c15 c16 c17 c18 c19 c20 c21 c22 c23 c24 (hc25 mTy mTm mMn mFn mRn mTn mVn mLr mTr mFl m9 q9 s9 p9 mEn) (hc26 mPa) (hc27 mTo) (hc28 mOt) (hc29 mNa) (hc30 mRe) (hc31 mMa) (hc32 mMy) (hc33 mPm) (hc34 mFy) (hc35 mFa) (hc36 mFr) (hc37 mFo) (hc38 mRt) (hc39 mRm) (hc40 mTt) (hc41 mTi) (hc42 mPl) (hc43 mVr) (hc44 mVf) (hc45 mVc) (hc46 mAr) (hc47 mTc) (hc48 f9) (hc49 mGo) dyn)) : pm_WP 159 (0, [(0, .ref 25), (1, .int r), (2, .int f)], [], hq g c1 c2 c3 c4 c5 c6 c7 c8 c9 c10 c11 c12 c13 c14 c15 c16 c17 c18 c19 c20 c21 c22 c23 c24 (hc25 mTy mTm mMn mFn mRn mTn mVn mLr mTr mFl mFm mFp mSc mMp mEn) (hc26 mPa) (hc27 mTo) (hc28 mOt) (hc29 mNa) (hc30 mRe) (hc31 mMa) (hc32 mMy) (hc33 mPm) (hc34 mFy) (hc35 mFa) (hc36 mFr) (hc37 mFo) (hc38 mRt) (hc39 mRm) (hc40 mTt) (hc41 mTi) (hc42 mPl) (hc43 mVr) (hc44 mVf) (hc45 mVc) (hc46 mAr) (hc47 mTc) (hc48 mFt) (hc49 mGo) dyn, 0, 0) Q := by
  have z0 : (0 : Int32).toInt = 0 := by decide
  have z1 : (1 : Int32).toInt = 1 := by decide
  have z_11 : (-11 : Int32).toInt = -11 := by decide
  have z_12 : (-12 : Int32).toInt = -12 := by decide
  have z_13 : (-13 : Int32).toInt = -13 := by decide
  have z_14 : (-14 : Int32).toInt = -14 := by decide
  have z_15 : (-15 : Int32).toInt = -15 := by decide
  have z99 : (99 : Int32).toInt = 99 := by decide
  refine pm_go (g := (1, [(0, .ref 25), (1, .int r), (2, .int f)], [.ref 25], hq g c1 c2 c3 c4 c5 c6 c7 c8 c9 c10 c11 c12 c13 c14 c15 c16 c17 c18 c19 c20 c21 c22 c23 c24 (hc25 mTy mTm mMn mFn mRn mTn mVn mLr mTr mFl mFm mFp mSc mMp mEn) (hc26 mPa) (hc27 mTo) (hc28 mOt) (hc29 mNa) (hc30 mRe) (hc31 mMa) (hc32 mMy) (hc33 mPm) (hc34 mFy) (hc35 mFa) (hc36 mFr) (hc37 mFo) (hc38 mRt) (hc39 mRm) (hc40 mTt) (hc41 mTi) (hc42 mPl) (hc43 mVr) (hc44 mVf) (hc45 mVc) (hc46 mAr) (hc47 mTc) (hc48 mFt) (hc49 mGo) dyn, 0, 0)) rfl ?_
  refine pm_go (g := (2, _, [.int r, .ref 25], _, 0, 0)) rfl ?_
  refine pm_go (g := (3, _, [.int f, .int r, .ref 25], _, 0, 0)) rfl ?_
  refine pm_callD (z := 157) (as := [.ref 25, .int r, .int f]) (rest := []) rfl ?_
  refine w_X12_means r f (by omega) (by omega) (by omega) (by omega) (by assumption) (by assumption) (by assumption) (by omega) (fun v2_s9 v2_f9 v2_m9 v2_q9 v2_p9 v2_r9 h1 h2 => ?_)
  show pm_WP 159 (6, [(0, .ref 25), (1, .int r), (2, .int f)], [.int v2_r9], _, 0, 0) _
  refine pm_go (g := (7, [(3, .int v2_r9), (0, .ref 25), (1, .int r), (2, .int f)], [], _, 0, 0)) rfl ?_
  refine pm_go (g := (8, _, [.int v2_r9], _, 0, 0)) rfl ?_
  refine pm_if2 (g := (46, [(3, .int v2_r9), (0, .ref 25), (1, .int r), (2, .int f)], [], hq g c1 c2 c3 c4 c5 c6 c7 c8 c9 c10 c11 c12 c13 c14 c15 c16 c17 c18 c19 c20 c21 c22 c23 c24 (hc25 mTy mTm mMn mFn mRn mTn mVn mLr mTr mFl v2_m9 v2_q9 v2_s9 v2_p9 mEn) (hc26 mPa) (hc27 mTo) (hc28 mOt) (hc29 mNa) (hc30 mRe) (hc31 mMa) (hc32 mMy) (hc33 mPm) (hc34 mFy) (hc35 mFa) (hc36 mFr) (hc37 mFo) (hc38 mRt) (hc39 mRm) (hc40 mTt) (hc41 mTi) (hc42 mPl) (hc43 mVr) (hc44 mVf) (hc45 mVc) (hc46 mAr) (hc47 mTc) (hc48 v2_f9) (hc49 mGo) dyn, 0, 0)) (h := (11, [(3, .int v2_r9), (0, .ref 25), (1, .int r), (2, .int f)], [], hq g c1 c2 c3 c4 c5 c6 c7 c8 c9 c10 c11 c12 c13 c14 c15 c16 c17 c18 c19 c20 c21 c22 c23 c24 (hc25 mTy mTm mMn mFn mRn mTn mVn mLr mTr mFl v2_m9 v2_q9 v2_s9 v2_p9 mEn) (hc26 mPa) (hc27 mTo) (hc28 mOt) (hc29 mNa) (hc30 mRe) (hc31 mMa) (hc32 mMy) (hc33 mPm) (hc34 mFy) (hc35 mFa) (hc36 mFr) (hc37 mFo) (hc38 mRt) (hc39 mRm) (hc40 mTt) (hc41 mTi) (hc42 mPl) (hc43 mVr) (hc44 mVf) (hc45 mVc) (hc46 mAr) (hc47 mTc) (hc48 v2_f9) (hc49 mGo) dyn, 0, 0)) rfl (fun h4 => ?_) (fun h4 => ?_)
  ·
    have h4 := qT_lt (cx := (v2_r9).toInt) (cy := 0) rfl (by decide) h4
    refine pm_go (g := (47, _, [.int v2_r9], _, 0, 0)) rfl ?_
    refine pm_ret rfl (k0 _ _ _ _ _ _ ⟨_, h1, ?_⟩ (by omega))
    first | exact Or.inl ⟨by omega, rfl⟩ | exact Or.inr (Or.inl ⟨⟨by omega, Or.inl (by omega)⟩, rfl⟩) | exact Or.inr (Or.inl ⟨⟨by omega, Or.inr (by assumption)⟩, rfl⟩)
  have h4 := qF_lt (cx := (v2_r9).toInt) (cy := 0) rfl (by decide) h4
  refine pm_go (g := (12, _, [.ref 25], _, 0, 0)) rfl ?_
  refine pm_go (g := (15, _, [.ref 36], _, 0, 0)) rfl ?_
  refine pm_go (g := (16, _, [.int f, .ref 36], _, 0, 0)) rfl ?_
  refine pm_sd (g := (17, _, [.int (mFr (f).toNatClampNeg)], _, 0, 0)) rfl (pm_inI (by omega) (by omega)) ?_
  refine pm_go (g := (19, _, [.int 11, .int (mFr (f).toNatClampNeg)], _, 0, 0)) rfl ?_
  refine pm_if2 (g := (46, [(3, .int v2_r9), (0, .ref 25), (1, .int r), (2, .int f)], [], hq g c1 c2 c3 c4 c5 c6 c7 c8 c9 c10 c11 c12 c13 c14 c15 c16 c17 c18 c19 c20 c21 c22 c23 c24 (hc25 mTy mTm mMn mFn mRn mTn mVn mLr mTr mFl v2_m9 v2_q9 v2_s9 v2_p9 mEn) (hc26 mPa) (hc27 mTo) (hc28 mOt) (hc29 mNa) (hc30 mRe) (hc31 mMa) (hc32 mMy) (hc33 mPm) (hc34 mFy) (hc35 mFa) (hc36 mFr) (hc37 mFo) (hc38 mRt) (hc39 mRm) (hc40 mTt) (hc41 mTi) (hc42 mPl) (hc43 mVr) (hc44 mVf) (hc45 mVc) (hc46 mAr) (hc47 mTc) (hc48 v2_f9) (hc49 mGo) dyn, 0, 0)) (h := (22, [(3, .int v2_r9), (0, .ref 25), (1, .int r), (2, .int f)], [], hq g c1 c2 c3 c4 c5 c6 c7 c8 c9 c10 c11 c12 c13 c14 c15 c16 c17 c18 c19 c20 c21 c22 c23 c24 (hc25 mTy mTm mMn mFn mRn mTn mVn mLr mTr mFl v2_m9 v2_q9 v2_s9 v2_p9 mEn) (hc26 mPa) (hc27 mTo) (hc28 mOt) (hc29 mNa) (hc30 mRe) (hc31 mMa) (hc32 mMy) (hc33 mPm) (hc34 mFy) (hc35 mFa) (hc36 mFr) (hc37 mFo) (hc38 mRt) (hc39 mRm) (hc40 mTt) (hc41 mTi) (hc42 mPl) (hc43 mVr) (hc44 mVf) (hc45 mVc) (hc46 mAr) (hc47 mTc) (hc48 v2_f9) (hc49 mGo) dyn, 0, 0)) rfl (fun h5 => ?_) (fun h5 => ?_)
  ·
    have h5 := qT_eq (cx := (mFr (f).toNatClampNeg).toInt) (cy := 11) rfl (by decide) h5
    refine pm_go (g := (47, _, [.int v2_r9], _, 0, 0)) rfl ?_
    refine pm_ret rfl (k0 _ _ _ _ _ _ ⟨_, h1, ?_⟩ (by omega))
    first | exact Or.inl ⟨by omega, rfl⟩ | exact Or.inr (Or.inl ⟨⟨by omega, Or.inl (by omega)⟩, rfl⟩) | exact Or.inr (Or.inl ⟨⟨by omega, Or.inr (by assumption)⟩, rfl⟩)
  have h5 := qF_eq (cx := (mFr (f).toNatClampNeg).toInt) (cy := 11) rfl (by decide) h5
  refine pm_go (g := (23, _, [.ref 25], _, 0, 0)) rfl ?_
  refine pm_go (g := (24, _, [.ref 25, .ref 25], _, 0, 0)) rfl ?_
  refine pm_go (g := (25, _, [.int r, .ref 25, .ref 25], _, 0, 0)) rfl ?_
  refine pm_go (g := (26, _, [.int v2_r9, .int r, .ref 25, .ref 25], _, 0, 0)) rfl ?_
  refine pm_callD (z := 158) (as := [.ref 25, .int r, .int v2_r9]) (rest := [.ref 25]) rfl ?_
  refine w2_X12_comes r v2_r9 (by omega) (by omega) ?_
  show pm_WP 159 (29, [(3, .int v2_r9), (0, .ref 25), (1, .int r), (2, .int f)], [.int (cmM mRe (mFo r.toNatClampNeg) (mRt r.toNatClampNeg) v2_r9), .ref 25], _, 0, 0) _
  refine pm_go (g := (30, _, [.ref 25, .int (cmM mRe (mFo r.toNatClampNeg) (mRt r.toNatClampNeg) v2_r9), .ref 25], _, 0, 0)) rfl ?_
  refine pm_go (g := (33, _, [.ref 36, .int (cmM mRe (mFo r.toNatClampNeg) (mRt r.toNatClampNeg) v2_r9), .ref 25], _, 0, 0)) rfl ?_
  refine pm_go (g := (34, _, [.int f, .ref 36, .int (cmM mRe (mFo r.toNatClampNeg) (mRt r.toNatClampNeg) v2_r9), .ref 25], _, 0, 0)) rfl ?_
  refine pm_sd (g := (35, _, [.int (mFr (f).toNatClampNeg), .int (cmM mRe (mFo r.toNatClampNeg) (mRt r.toNatClampNeg) v2_r9), .ref 25], _, 0, 0)) rfl (pm_inI (by omega) (by omega)) ?_
  refine pm_callD (z := 133) (as := [.ref 25, .int (cmM mRe (mFo r.toNatClampNeg) (mRt r.toNatClampNeg) v2_r9), .int (mFr (f).toNatClampNeg)]) (rest := []) rfl ?_
  refine w_X12_isLoose (cmM mRe (mFo r.toNatClampNeg) (mRt r.toNatClampNeg) v2_r9) (mFr (f).toNatClampNeg) (by assumption) (fun h7 => ?_) (fun h8 => ?_)
  ·
    show pm_WP 159 (38, [(3, .int v2_r9), (0, .ref 25), (1, .int r), (2, .int f)], [.int 1], _, 0, 0) _
    refine pm_brT (g := (46, [(3, .int v2_r9), (0, .ref 25), (1, .int r), (2, .int f)], [], hq g c1 c2 c3 c4 c5 c6 c7 c8 c9 c10 c11 c12 c13 c14 c15 c16 c17 c18 c19 c20 c21 c22 c23 c24 (hc25 mTy mTm mMn mFn mRn mTn mVn mLr mTr mFl v2_m9 v2_q9 v2_s9 v2_p9 mEn) (hc26 mPa) (hc27 mTo) (hc28 mOt) (hc29 mNa) (hc30 mRe) (hc31 mMa) (hc32 mMy) (hc33 mPm) (hc34 mFy) (hc35 mFa) (hc36 mFr) (hc37 mFo) (hc38 mRt) (hc39 mRm) (hc40 mTt) (hc41 mTi) (hc42 mPl) (hc43 mVr) (hc44 mVf) (hc45 mVc) (hc46 mAr) (hc47 mTc) (hc48 v2_f9) (hc49 mGo) dyn, 0, 0)) rfl ?_
    refine pm_go (g := (47, _, [.int v2_r9], _, 0, 0)) rfl ?_
    refine pm_ret rfl (k0 _ _ _ _ _ _ ⟨_, h1, ?_⟩ (by omega))
    first | exact Or.inl ⟨by omega, rfl⟩ | exact Or.inr (Or.inl ⟨⟨by omega, Or.inl (by omega)⟩, rfl⟩) | exact Or.inr (Or.inl ⟨⟨by omega, Or.inr (by assumption)⟩, rfl⟩)
  show pm_WP 159 (38, [(3, .int v2_r9), (0, .ref 25), (1, .int r), (2, .int f)], [.int 0], hq g c1 c2 c3 c4 c5 c6 c7 c8 c9 c10 c11 c12 c13 c14 c15 c16 c17 c18 c19 c20 c21 c22 c23 c24 (hc25 mTy mTm mMn mFn mRn mTn mVn mLr mTr mFl v2_m9 v2_q9 v2_s9 v2_p9 mEn) (hc26 mPa) (hc27 mTo) (hc28 mOt) (hc29 mNa) (hc30 mRe) (hc31 mMa) (hc32 mMy) (hc33 mPm) (hc34 mFy) (hc35 mFa) (hc36 mFr) (hc37 mFo) (hc38 mRt) (hc39 mRm) (hc40 mTt) (hc41 mTi) (hc42 mPl) (hc43 mVr) (hc44 mVf) (hc45 mVc) (hc46 mAr) (hc47 mTc) (hc48 v2_f9) (hc49 mGo) dyn, 0, 0) _
  refine pm_brF (h := (41, [(3, .int v2_r9), (0, .ref 25), (1, .int r), (2, .int f)], [], hq g c1 c2 c3 c4 c5 c6 c7 c8 c9 c10 c11 c12 c13 c14 c15 c16 c17 c18 c19 c20 c21 c22 c23 c24 (hc25 mTy mTm mMn mFn mRn mTn mVn mLr mTr mFl v2_m9 v2_q9 v2_s9 v2_p9 mEn) (hc26 mPa) (hc27 mTo) (hc28 mOt) (hc29 mNa) (hc30 mRe) (hc31 mMa) (hc32 mMy) (hc33 mPm) (hc34 mFy) (hc35 mFa) (hc36 mFr) (hc37 mFo) (hc38 mRt) (hc39 mRm) (hc40 mTt) (hc41 mTi) (hc42 mPl) (hc43 mVr) (hc44 mVf) (hc45 mVc) (hc46 mAr) (hc47 mTc) (hc48 v2_f9) (hc49 mGo) dyn, 0, 0)) rfl ?_
  refine pm_go (g := (43, _, [.int (-15)], _, 0, 0)) rfl ?_
  refine pm_go (g := (47, _, [.int (-15)], _, 0, 0)) rfl ?_
  refine pm_ret rfl (k0 _ _ _ _ _ _ ⟨_, h1, ?_⟩ (by omega))
  exact Or.inr (Or.inr ⟨⟨by omega, by omega, by assumption⟩, rfl⟩)
/-- what holds of the references -/
def rfD (rn ty : Int32) (fo rt : Nat → Int32) : Prop := ∀ i : Nat, (i : Int) < rn.toInt → (0 ≤ (fo i).toInt ∧ (fo i).toInt ≤ 4) ∧ ((fo i).toInt ≠ 4 → 0 ≤ (rt i).toInt ∧ (rt i).toInt < ty.toInt) ∧ ((fo i).toInt = 4 → (0 ≤ (rt i).toInt ∧ (rt i).toInt < ty.toInt) ∨ (rt i).toInt = 10) ∧ ((fo i).toInt = 2 → (rt i).toInt ≠ 0)
def fcD (fn : Int32) (fy : Nat → Int32) : Prop := ∀ i : Nat, (i : Int) < fn.toInt → 0 ≤ (fy i).toInt ∧ (fy i).toInt ≤ 3
theorem rfD_at {rn ty : Int32} {fo rt : Nat → Int32} (h : rfD rn ty fo rt) {r : Int32} (q : 0 ≤ r.toInt ∧ r.toInt < rn.toInt) : (0 ≤ (fo r.toNatClampNeg).toInt ∧ (fo r.toNatClampNeg).toInt ≤ 4) ∧ ((fo r.toNatClampNeg).toInt ≠ 4 → 0 ≤ (rt r.toNatClampNeg).toInt ∧ (rt r.toNatClampNeg).toInt < ty.toInt) ∧ ((fo r.toNatClampNeg).toInt = 4 → (0 ≤ (rt r.toNatClampNeg).toInt ∧ (rt r.toNatClampNeg).toInt < ty.toInt) ∨ (rt r.toNatClampNeg).toInt = 10) ∧ ((fo r.toNatClampNeg).toInt = 2 → (rt r.toNatClampNeg).toInt ≠ 0) := h _ (by have := xN q.1; omega)
theorem fcD_at {fn : Int32} {fy : Nat → Int32} (h : fcD fn fy) {f : Int32} (q : 0 ≤ f.toInt ∧ f.toInt < fn.toInt) : 0 ≤ (fy f.toNatClampNeg).toInt ∧ (fy f.toNatClampNeg).toInt ≤ 3 := h _ (by have := xN q.1; omega)
theorem srM_n {pa ot na my pm ma fa fy : Nat → Int32} {mn t w f s p r : Int32} (hn : 0 ≤ mn.toInt ∧ mn.toInt ≤ 40) (k : srM pa ot na my pm ma fa fy mn t w f s p r) : r.toInt = -4 ∨ r.toInt = -5 ∨ 0 ≤ r.toInt := by
  have u : ∀ {sp : Nat → Prop}, uqM sp mn r → r.toInt = -4 ∨ r.toInt = -5 ∨ 0 ≤ r.toInt := by
    intro sp h
    rcases h with ⟨b, h1, h2, _⟩ | ⟨h1, _⟩
    · have := nI_toInt (n := b) (by omega)
      rw [h2]; omega
    · rw [h1]; decide
  rcases k with ⟨h1, h2, _⟩ | ⟨h1, _, h2⟩ | ⟨h1, _, _, h2⟩ | ⟨h1, _, _, _, h2⟩
  · rw [h2]; decide
  · exact u h2
  · exact u h2
  · exact u h2
theorem s2M_n {pa ot na my pm ma fa fy : Nat → Int32} {mn t w f p r : Int32} (hn : 0 ≤ mn.toInt ∧ mn.toInt ≤ 40) (k : s2M pa ot na my pm ma fa fy mn t w f p r) : r.toInt = -4 ∨ r.toInt = -5 ∨ 0 ≤ r.toInt := by
  rcases k with ⟨_, h⟩ | ⟨_, _, h⟩
  · exact srM_n hn h
  · rw [h]; decide
/-- what a search gives, as it is asked for -/
def lkS (pa ot na my pm ma fa fy : Nat → Int32) (mn fo t w f wh p r : Int32) : Prop := (fo.toInt = 3 ∧ srM pa ot na my pm ma fa fy mn t 6 f 0 p r) ∨ (fo.toInt ≠ 3 ∧ wh.toInt = 2 ∧ s2M pa ot na my pm ma fa fy mn t w f p r) ∨ (fo.toInt = 2 ∧ wh.toInt ≠ 2 ∧ srM pa ot na my pm ma fa fy mn (pa t.toNatClampNeg) w f 0 p r) ∨ (fo.toInt ≠ 3 ∧ fo.toInt ≠ 2 ∧ wh.toInt ≠ 2 ∧ srM pa ot na my pm ma fa fy mn t w f 0 p r)
set_option maxRecDepth 100000 in
set_option maxHeartbeats 4000000 in
theorem w_X12_meant {g c1 c2 c3 c4 c5 c6 c7 c8 c9 c10 c11 c12 c13 c14 c15 c16 c17 c18 c19 c20 c21 c22 c23 c24 : pm_C} {dyn : pm_H} {mTy : Int32} {mPa : Nat → Int32} {mTo : Nat → Int32} {mTm : Int32} {mMn : Int32} {mOt : Nat → Int32} {mNa : Nat → Int32} {mRe : Nat → Int32} {mMa : Nat → Int32} {mMy : Nat → Int32} {mPm : Nat → Int32} {mFn : Int32} {mFy : Nat → Int32} {mFa : Nat → Int32} {mFr : Nat → Int32} {mRn : Int32} {mFo : Nat → Int32} {mRt : Nat → Int32} {mRm : Nat → Int32} {mTn : Int32} {mTt : Nat → Int32} {mTi : Nat → Int32} {mPl : Nat → Int32} {mVn : Int32} {mVr : Nat → Int32} {mVf : Nat → Int32} {mVc : Nat → Int32} {mAr : Nat → Int32} {mLr : Int32} {mTc : Nat → Int32} {mTr : Int32} {mFl : Int32} {mFt : Nat → Int32} {mFm : Int32} {mFp : Int32} {mSc : Int32} {mMp : Int32} {mEn : Int32} {mGo : Nat → Int32} {Q : pm_Q} (r : Int32) (f : Int32) (p0 : 0 ≤ mRn.toInt ∧ mRn.toInt ≤ 30) (p1 : 0 ≤ mFn.toInt ∧ mFn.toInt ≤ 10) (p2 : 2 ≤ mTy.toInt ∧ mTy.toInt ≤ 10) (p3 : rfD mRn mTy mFo mRt) (p4 : fcD mFn mFy) (p5 : paD mPa) (p6 : myD mMy) (p7 : vrD mMa mMy) (p8 : 0 ≤ mMn.toInt ∧ mMn.toInt ≤ 40) (k0 : ¬ ((0 ≤ r.toInt ∧ r.toInt < mRn.toInt) ∧ (0 ≤ f.toInt ∧ f.toInt < mFn.toInt)) → Q (some (.int (-1))) (hq g c1 c2 c3 c4 c5 c6 c7 c8 c9 c10 c11 c12 c13 c14 c15 c16 c17 c18 c19 c20 c21 c22 c23 c24 (hc25 mTy mTm mMn mFn mRn mTn mVn mLr mTr mFl mFm mFp mSc mMp mEn) (hc26 mPa) (hc27 mTo) (hc28 mOt) (hc29 mNa) (hc30 mRe) (hc31 mMa) (hc32 mMy) (hc33 mPm) (hc34 mFy) (hc35 mFa) (hc36 mFr) (hc37 mFo) (hc38 mRt) (hc39 mRm) (hc40 mTt) (hc41 mTi) (hc42 mPl) (hc43 mVr) (hc44 mVf) (hc45 mVc) (hc46 mAr) (hc47 mTc) (hc48 mFt) (hc49 mGo) dyn)) (k1 : ∀ (s9 : Int32), ∀ (f9 : Nat → Int32), ∀ (m9 : Int32), ∀ (q9 : Int32), ∀ (p9 : Int32), ∀ (r9 : Int32), ((0 ≤ r.toInt ∧ r.toInt < mRn.toInt) ∧ (0 ≤ f.toInt ∧ f.toInt < mFn.toInt)) → (wmM mPa mOt mNa mRe mMy mPm mMa mFa mFy mFr mMn (mFo r.toNatClampNeg) (mRt r.toNatClampNeg) (mRm r.toNatClampNeg) f s9 p9 r9) → ((-15 ≤ r9.toInt ∧ (r9.toInt < mMn.toInt ∨ (r9.toInt = 99 ∧ 3 ≤ (mFo r.toNatClampNeg).toInt))) ∧ (0 ≤ p9.toInt ∧ p9.toInt ≤ 3)) → Q (some (.int r9)) (hq g c1 c2 c3 c4 c5 c6 c7 c8 c9 c10 c11 c12 c13 c14 c15 c16 c17 c18 c19 c20 c21 c22 c23 c24 (hc25 mTy mTm mMn mFn mRn mTn mVn mLr mTr mFl m9 q9 s9 p9 mEn) (hc26 mPa) (hc27 mTo) (hc28 mOt) (hc29 mNa) (hc30 mRe) (hc31 mMa) (hc32 mMy) (hc33 mPm) (hc34 mFy) (hc35 mFa) (hc36 mFr) (hc37 mFo) (hc38 mRt) (hc39 mRm) (hc40 mTt) (hc41 mTi) (hc42 mPl) (hc43 mVr) (hc44 mVf) (hc45 mVc) (hc46 mAr) (hc47 mTc) (hc48 f9) (hc49 mGo) dyn)) : pm_WP 164 (0, [(0, .ref 25), (1, .int r), (2, .int f)], [], hq g c1 c2 c3 c4 c5 c6 c7 c8 c9 c10 c11 c12 c13 c14 c15 c16 c17 c18 c19 c20 c21 c22 c23 c24 (hc25 mTy mTm mMn mFn mRn mTn mVn mLr mTr mFl mFm mFp mSc mMp mEn) (hc26 mPa) (hc27 mTo) (hc28 mOt) (hc29 mNa) (hc30 mRe) (hc31 mMa) (hc32 mMy) (hc33 mPm) (hc34 mFy) (hc35 mFa) (hc36 mFr) (hc37 mFo) (hc38 mRt) (hc39 mRm) (hc40 mTt) (hc41 mTi) (hc42 mPl) (hc43 mVr) (hc44 mVf) (hc45 mVc) (hc46 mAr) (hc47 mTc) (hc48 mFt) (hc49 mGo) dyn, 0, 0) Q := by
  have z0 : (0 : Int32).toInt = 0 := by decide
  have z1 : (1 : Int32).toInt = 1 := by decide
  have z_11 : (-11 : Int32).toInt = -11 := by decide
  have z_12 : (-12 : Int32).toInt = -12 := by decide
  have z_13 : (-13 : Int32).toInt = -13 := by decide
  have z_14 : (-14 : Int32).toInt = -14 := by decide
  have z_15 : (-15 : Int32).toInt = -15 := by decide
  have z99 : (99 : Int32).toInt = 99 := by decide
  have hrf := fun q : (0 ≤ r.toInt ∧ r.toInt < mRn.toInt) => rfD_at p3 q
  have hfc := fun q : (0 ≤ f.toInt ∧ f.toInt < mFn.toInt) => fcD_at p4 q
  refine pm_go (g := (1, [(0, .ref 25), (1, .int r), (2, .int f)], [.ref 25], hq g c1 c2 c3 c4 c5 c6 c7 c8 c9 c10 c11 c12 c13 c14 c15 c16 c17 c18 c19 c20 c21 c22 c23 c24 (hc25 mTy mTm mMn mFn mRn mTn mVn mLr mTr mFl mFm mFp mSc mMp mEn) (hc26 mPa) (hc27 mTo) (hc28 mOt) (hc29 mNa) (hc30 mRe) (hc31 mMa) (hc32 mMy) (hc33 mPm) (hc34 mFy) (hc35 mFa) (hc36 mFr) (hc37 mFo) (hc38 mRt) (hc39 mRm) (hc40 mTt) (hc41 mTi) (hc42 mPl) (hc43 mVr) (hc44 mVf) (hc45 mVc) (hc46 mAr) (hc47 mTc) (hc48 mFt) (hc49 mGo) dyn, 0, 0)) rfl ?_
  refine pm_go (g := (2, _, [.int r, .ref 25], _, 0, 0)) rfl ?_
  refine pm_callD (z := 160) (as := [.ref 25, .int r]) (rest := []) rfl ?_
  refine w_X12_isReference r (by omega) (fun h1 => ?_) (fun h2 => ?_)
  ·
    show pm_WP 164 (5, [(0, .ref 25), (1, .int r), (2, .int f)], [.int 1], _, 0, 0) _
    refine pm_brF (h := (8, [(0, .ref 25), (1, .int r), (2, .int f)], [], hq g c1 c2 c3 c4 c5 c6 c7 c8 c9 c10 c11 c12 c13 c14 c15 c16 c17 c18 c19 c20 c21 c22 c23 c24 (hc25 mTy mTm mMn mFn mRn mTn mVn mLr mTr mFl mFm mFp mSc mMp mEn) (hc26 mPa) (hc27 mTo) (hc28 mOt) (hc29 mNa) (hc30 mRe) (hc31 mMa) (hc32 mMy) (hc33 mPm) (hc34 mFy) (hc35 mFa) (hc36 mFr) (hc37 mFo) (hc38 mRt) (hc39 mRm) (hc40 mTt) (hc41 mTi) (hc42 mPl) (hc43 mVr) (hc44 mVf) (hc45 mVc) (hc46 mAr) (hc47 mTc) (hc48 mFt) (hc49 mGo) dyn, 0, 0)) rfl ?_
    refine pm_go (g := (9, _, [.ref 25], _, 0, 0)) rfl ?_
    refine pm_go (g := (10, _, [.int f, .ref 25], _, 0, 0)) rfl ?_
    refine pm_callD (z := 161) (as := [.ref 25, .int f]) (rest := []) rfl ?_
    refine w_X12_isFace f (by omega) (fun h4 => ?_) (fun h5 => ?_)
    ·
      show pm_WP 164 (13, [(0, .ref 25), (1, .int r), (2, .int f)], [.int 1], _, 0, 0) _
      refine pm_brF (h := (16, [(0, .ref 25), (1, .int r), (2, .int f)], [], hq g c1 c2 c3 c4 c5 c6 c7 c8 c9 c10 c11 c12 c13 c14 c15 c16 c17 c18 c19 c20 c21 c22 c23 c24 (hc25 mTy mTm mMn mFn mRn mTn mVn mLr mTr mFl mFm mFp mSc mMp mEn) (hc26 mPa) (hc27 mTo) (hc28 mOt) (hc29 mNa) (hc30 mRe) (hc31 mMa) (hc32 mMy) (hc33 mPm) (hc34 mFy) (hc35 mFa) (hc36 mFr) (hc37 mFo) (hc38 mRt) (hc39 mRm) (hc40 mTt) (hc41 mTi) (hc42 mPl) (hc43 mVr) (hc44 mVf) (hc45 mVc) (hc46 mAr) (hc47 mTc) (hc48 mFt) (hc49 mGo) dyn, 0, 0)) rfl ?_
      refine pm_go (g := (17, _, [.ref 25], _, 0, 0)) rfl ?_
      refine pm_go (g := (18, _, [.int r, .ref 25], _, 0, 0)) rfl ?_
      refine pm_go (g := (19, _, [.int f, .int r, .ref 25], _, 0, 0)) rfl ?_
      refine pm_callD (z := 159) (as := [.ref 25, .int r, .int f]) (rest := []) rfl ?_
      refine w_X12_wholeMeaning r f (by omega) (by omega) (by omega) (by omega) (by assumption) (by assumption) (by assumption) (by omega) (fun v8_s9 v8_f9 v8_m9 v8_q9 v8_p9 v8_r9 h7 h8 => ?_)
      show pm_WP 164 (22, [(0, .ref 25), (1, .int r), (2, .int f)], [.int v8_r9], _, 0, 0) _
      refine pm_go (g := (26, _, [.int v8_r9], _, 0, 0)) rfl ?_
      exact pm_ret rfl (k1 _ _ _ _ _ _ (by omega) (by assumption) (by assumption))
    show pm_WP 164 (13, [(0, .ref 25), (1, .int r), (2, .int f)], [.int 0], hq g c1 c2 c3 c4 c5 c6 c7 c8 c9 c10 c11 c12 c13 c14 c15 c16 c17 c18 c19 c20 c21 c22 c23 c24 (hc25 mTy mTm mMn mFn mRn mTn mVn mLr mTr mFl mFm mFp mSc mMp mEn) (hc26 mPa) (hc27 mTo) (hc28 mOt) (hc29 mNa) (hc30 mRe) (hc31 mMa) (hc32 mMy) (hc33 mPm) (hc34 mFy) (hc35 mFa) (hc36 mFr) (hc37 mFo) (hc38 mRt) (hc39 mRm) (hc40 mTt) (hc41 mTi) (hc42 mPl) (hc43 mVr) (hc44 mVf) (hc45 mVc) (hc46 mAr) (hc47 mTc) (hc48 mFt) (hc49 mGo) dyn, 0, 0) _
    refine pm_brT (g := (25, [(0, .ref 25), (1, .int r), (2, .int f)], [], hq g c1 c2 c3 c4 c5 c6 c7 c8 c9 c10 c11 c12 c13 c14 c15 c16 c17 c18 c19 c20 c21 c22 c23 c24 (hc25 mTy mTm mMn mFn mRn mTn mVn mLr mTr mFl mFm mFp mSc mMp mEn) (hc26 mPa) (hc27 mTo) (hc28 mOt) (hc29 mNa) (hc30 mRe) (hc31 mMa) (hc32 mMy) (hc33 mPm) (hc34 mFy) (hc35 mFa) (hc36 mFr) (hc37 mFo) (hc38 mRt) (hc39 mRm) (hc40 mTt) (hc41 mTi) (hc42 mPl) (hc43 mVr) (hc44 mVf) (hc45 mVc) (hc46 mAr) (hc47 mTc) (hc48 mFt) (hc49 mGo) dyn, 0, 0)) rfl ?_
    refine pm_go (g := (26, _, [.int (-1)], _, 0, 0)) rfl ?_
    exact pm_ret rfl (k0 (by omega))
  show pm_WP 164 (5, [(0, .ref 25), (1, .int r), (2, .int f)], [.int 0], hq g c1 c2 c3 c4 c5 c6 c7 c8 c9 c10 c11 c12 c13 c14 c15 c16 c17 c18 c19 c20 c21 c22 c23 c24 (hc25 mTy mTm mMn mFn mRn mTn mVn mLr mTr mFl mFm mFp mSc mMp mEn) (hc26 mPa) (hc27 mTo) (hc28 mOt) (hc29 mNa) (hc30 mRe) (hc31 mMa) (hc32 mMy) (hc33 mPm) (hc34 mFy) (hc35 mFa) (hc36 mFr) (hc37 mFo) (hc38 mRt) (hc39 mRm) (hc40 mTt) (hc41 mTi) (hc42 mPl) (hc43 mVr) (hc44 mVf) (hc45 mVc) (hc46 mAr) (hc47 mTc) (hc48 mFt) (hc49 mGo) dyn, 0, 0) _
  refine pm_brT (g := (25, [(0, .ref 25), (1, .int r), (2, .int f)], [], hq g c1 c2 c3 c4 c5 c6 c7 c8 c9 c10 c11 c12 c13 c14 c15 c16 c17 c18 c19 c20 c21 c22 c23 c24 (hc25 mTy mTm mMn mFn mRn mTn mVn mLr mTr mFl mFm mFp mSc mMp mEn) (hc26 mPa) (hc27 mTo) (hc28 mOt) (hc29 mNa) (hc30 mRe) (hc31 mMa) (hc32 mMy) (hc33 mPm) (hc34 mFy) (hc35 mFa) (hc36 mFr) (hc37 mFo) (hc38 mRt) (hc39 mRm) (hc40 mTt) (hc41 mTi) (hc42 mPl) (hc43 mVr) (hc44 mVf) (hc45 mVc) (hc46 mAr) (hc47 mTc) (hc48 mFt) (hc49 mGo) dyn, 0, 0)) rfl ?_
  refine pm_go (g := (26, _, [.int (-1)], _, 0, 0)) rfl ?_
  exact pm_ret rfl (k0 (by omega))
set_option maxRecDepth 100000 in
set_option maxHeartbeats 4000000 in
theorem w_X12_looked {g c1 c2 c3 c4 c5 c6 c7 c8 c9 c10 c11 c12 c13 c14 c15 c16 c17 c18 c19 c20 c21 c22 c23 c24 : pm_C} {dyn : pm_H} {mTy : Int32} {mPa : Nat → Int32} {mTo : Nat → Int32} {mTm : Int32} {mMn : Int32} {mOt : Nat → Int32} {mNa : Nat → Int32} {mRe : Nat → Int32} {mMa : Nat → Int32} {mMy : Nat → Int32} {mPm : Nat → Int32} {mFn : Int32} {mFy : Nat → Int32} {mFa : Nat → Int32} {mFr : Nat → Int32} {mRn : Int32} {mFo : Nat → Int32} {mRt : Nat → Int32} {mRm : Nat → Int32} {mTn : Int32} {mTt : Nat → Int32} {mTi : Nat → Int32} {mPl : Nat → Int32} {mVn : Int32} {mVr : Nat → Int32} {mVf : Nat → Int32} {mVc : Nat → Int32} {mAr : Nat → Int32} {mLr : Int32} {mTc : Nat → Int32} {mTr : Int32} {mFl : Int32} {mFt : Nat → Int32} {mFm : Int32} {mFp : Int32} {mSc : Int32} {mMp : Int32} {mEn : Int32} {mGo : Nat → Int32} {Q : pm_Q} (r : Int32) (f : Int32) (h : Int32) (p0 : 0 ≤ mRn.toInt ∧ mRn.toInt ≤ 30) (p1 : 0 ≤ mFn.toInt ∧ mFn.toInt ≤ 10) (p2 : 2 ≤ mTy.toInt ∧ mTy.toInt ≤ 10) (p3 : rfD mRn mTy mFo mRt) (p4 : fcD mFn mFy) (p5 : paD mPa) (p6 : myD mMy) (p7 : vrD mMa mMy) (p8 : 0 ≤ mMn.toInt ∧ mMn.toInt ≤ 40) (k0 : ¬ ((0 ≤ r.toInt ∧ r.toInt < mRn.toInt) ∧ (0 ≤ f.toInt ∧ f.toInt < mFn.toInt) ∧ (mFo r.toNatClampNeg).toInt ≠ 4 ∧ 1 ≤ h.toInt ∧ (h.toInt ≤ 1 ∨ (h.toInt ≤ 2 ∧ (mFo r.toNatClampNeg).toInt = 0))) → Q (some (.int (-1))) (hq g c1 c2 c3 c4 c5 c6 c7 c8 c9 c10 c11 c12 c13 c14 c15 c16 c17 c18 c19 c20 c21 c22 c23 c24 (hc25 mTy mTm mMn mFn mRn mTn mVn mLr mTr mFl mFm mFp mSc mMp mEn) (hc26 mPa) (hc27 mTo) (hc28 mOt) (hc29 mNa) (hc30 mRe) (hc31 mMa) (hc32 mMy) (hc33 mPm) (hc34 mFy) (hc35 mFa) (hc36 mFr) (hc37 mFo) (hc38 mRt) (hc39 mRm) (hc40 mTt) (hc41 mTi) (hc42 mPl) (hc43 mVr) (hc44 mVf) (hc45 mVc) (hc46 mAr) (hc47 mTc) (hc48 mFt) (hc49 mGo) dyn)) (k1 : (((0 ≤ r.toInt ∧ r.toInt < mRn.toInt) ∧ (0 ≤ f.toInt ∧ f.toInt < mFn.toInt) ∧ (mFo r.toNatClampNeg).toInt ≠ 4 ∧ 1 ≤ h.toInt ∧ (h.toInt ≤ 1 ∨ (h.toInt ≤ 2 ∧ (mFo r.toNatClampNeg).toInt = 0))) ∧ (mFo r.toNatClampNeg).toInt = 3) → ((opL mPa mOt mNa mMy mPm mMa mMn (mRt r.toNatClampNeg) 0 ∨ ¬ mkE mOt mNa mMn (mRt r.toNatClampNeg) 0)) → Q (some (.int (-3))) (hq g c1 c2 c3 c4 c5 c6 c7 c8 c9 c10 c11 c12 c13 c14 c15 c16 c17 c18 c19 c20 c21 c22 c23 c24 (hc25 mTy mTm mMn mFn mRn mTn mVn mLr mTr mFl mFm mFp mSc mMp mEn) (hc26 mPa) (hc27 mTo) (hc28 mOt) (hc29 mNa) (hc30 mRe) (hc31 mMa) (hc32 mMy) (hc33 mPm) (hc34 mFy) (hc35 mFa) (hc36 mFr) (hc37 mFo) (hc38 mRt) (hc39 mRm) (hc40 mTt) (hc41 mTi) (hc42 mPl) (hc43 mVr) (hc44 mVf) (hc45 mVc) (hc46 mAr) (hc47 mTc) (hc48 mFt) (hc49 mGo) dyn)) (k2 : ∀ (f9 : Nat → Int32), ∀ (m9 : Int32), ∀ (p9 : Int32), ∀ (r9 : Int32), (((0 ≤ r.toInt ∧ r.toInt < mRn.toInt) ∧ (0 ≤ f.toInt ∧ f.toInt < mFn.toInt) ∧ (mFo r.toNatClampNeg).toInt ≠ 4 ∧ 1 ≤ h.toInt ∧ (h.toInt ≤ 1 ∨ (h.toInt ≤ 2 ∧ (mFo r.toNatClampNeg).toInt = 0)))) → ((mFo r.toNatClampNeg).toInt ≠ 3 ∨ (¬ opL mPa mOt mNa mMy mPm mMa mMn (mRt r.toNatClampNeg) 0 ∧ mkE mOt mNa mMn (mRt r.toNatClampNeg) 0)) → (lkS mPa mOt mNa mMy mPm mMa mFa mFy mMn (mFo r.toNatClampNeg) (mRt r.toNatClampNeg) (mRm r.toNatClampNeg) f h p9 r9) → ((r9.toInt = -4 ∨ r9.toInt = -5 ∨ 0 ≤ r9.toInt)) → ((-5 ≤ r9.toInt ∧ r9.toInt < mMn.toInt) ∧ (0 ≤ p9.toInt ∧ p9.toInt ≤ 3)) → Q (some (.int r9)) (hq g c1 c2 c3 c4 c5 c6 c7 c8 c9 c10 c11 c12 c13 c14 c15 c16 c17 c18 c19 c20 c21 c22 c23 c24 (hc25 mTy mTm mMn mFn mRn mTn mVn mLr mTr mFl m9 p9 mSc mMp mEn) (hc26 mPa) (hc27 mTo) (hc28 mOt) (hc29 mNa) (hc30 mRe) (hc31 mMa) (hc32 mMy) (hc33 mPm) (hc34 mFy) (hc35 mFa) (hc36 mFr) (hc37 mFo) (hc38 mRt) (hc39 mRm) (hc40 mTt) (hc41 mTi) (hc42 mPl) (hc43 mVr) (hc44 mVf) (hc45 mVc) (hc46 mAr) (hc47 mTc) (hc48 f9) (hc49 mGo) dyn)) : pm_WP 165 (0, [(0, .ref 25), (1, .int r), (2, .int f), (3, .int h)], [], hq g c1 c2 c3 c4 c5 c6 c7 c8 c9 c10 c11 c12 c13 c14 c15 c16 c17 c18 c19 c20 c21 c22 c23 c24 (hc25 mTy mTm mMn mFn mRn mTn mVn mLr mTr mFl mFm mFp mSc mMp mEn) (hc26 mPa) (hc27 mTo) (hc28 mOt) (hc29 mNa) (hc30 mRe) (hc31 mMa) (hc32 mMy) (hc33 mPm) (hc34 mFy) (hc35 mFa) (hc36 mFr) (hc37 mFo) (hc38 mRt) (hc39 mRm) (hc40 mTt) (hc41 mTi) (hc42 mPl) (hc43 mVr) (hc44 mVf) (hc45 mVc) (hc46 mAr) (hc47 mTc) (hc48 mFt) (hc49 mGo) dyn, 0, 0) Q := by
  have z0 : (0 : Int32).toInt = 0 := by decide
  have z1 : (1 : Int32).toInt = 1 := by decide
  have z_11 : (-11 : Int32).toInt = -11 := by decide
  have z_12 : (-12 : Int32).toInt = -12 := by decide
  have z_13 : (-13 : Int32).toInt = -13 := by decide
  have z_14 : (-14 : Int32).toInt = -14 := by decide
  have z_15 : (-15 : Int32).toInt = -15 := by decide
  have z99 : (99 : Int32).toInt = 99 := by decide
  have hrf := fun q : (0 ≤ r.toInt ∧ r.toInt < mRn.toInt) => rfD_at p3 q
  have hfc := fun q : (0 ≤ f.toInt ∧ f.toInt < mFn.toInt) => fcD_at p4 q
  refine pm_go (g := (1, [(0, .ref 25), (1, .int r), (2, .int f), (3, .int h)], [.ref 25], hq g c1 c2 c3 c4 c5 c6 c7 c8 c9 c10 c11 c12 c13 c14 c15 c16 c17 c18 c19 c20 c21 c22 c23 c24 (hc25 mTy mTm mMn mFn mRn mTn mVn mLr mTr mFl mFm mFp mSc mMp mEn) (hc26 mPa) (hc27 mTo) (hc28 mOt) (hc29 mNa) (hc30 mRe) (hc31 mMa) (hc32 mMy) (hc33 mPm) (hc34 mFy) (hc35 mFa) (hc36 mFr) (hc37 mFo) (hc38 mRt) (hc39 mRm) (hc40 mTt) (hc41 mTi) (hc42 mPl) (hc43 mVr) (hc44 mVf) (hc45 mVc) (hc46 mAr) (hc47 mTc) (hc48 mFt) (hc49 mGo) dyn, 0, 0)) rfl ?_
  refine pm_go (g := (2, _, [.int r, .ref 25], _, 0, 0)) rfl ?_
  refine pm_callD (z := 160) (as := [.ref 25, .int r]) (rest := []) rfl ?_
  refine w_X12_isReference r (by omega) (fun h1 => ?_) (fun h2 => ?_)
  ·
    show pm_WP 165 (5, [(0, .ref 25), (1, .int r), (2, .int f), (3, .int h)], [.int 1], _, 0, 0) _
    refine pm_brF (h := (8, [(0, .ref 25), (1, .int r), (2, .int f), (3, .int h)], [], hq g c1 c2 c3 c4 c5 c6 c7 c8 c9 c10 c11 c12 c13 c14 c15 c16 c17 c18 c19 c20 c21 c22 c23 c24 (hc25 mTy mTm mMn mFn mRn mTn mVn mLr mTr mFl mFm mFp mSc mMp mEn) (hc26 mPa) (hc27 mTo) (hc28 mOt) (hc29 mNa) (hc30 mRe) (hc31 mMa) (hc32 mMy) (hc33 mPm) (hc34 mFy) (hc35 mFa) (hc36 mFr) (hc37 mFo) (hc38 mRt) (hc39 mRm) (hc40 mTt) (hc41 mTi) (hc42 mPl) (hc43 mVr) (hc44 mVf) (hc45 mVc) (hc46 mAr) (hc47 mTc) (hc48 mFt) (hc49 mGo) dyn, 0, 0)) rfl ?_
    refine pm_go (g := (9, _, [.ref 25], _, 0, 0)) rfl ?_
    refine pm_go (g := (10, _, [.int f, .ref 25], _, 0, 0)) rfl ?_
    refine pm_callD (z := 161) (as := [.ref 25, .int f]) (rest := []) rfl ?_
    refine w_X12_isFace f (by omega) (fun h4 => ?_) (fun h5 => ?_)
    ·
      show pm_WP 165 (13, [(0, .ref 25), (1, .int r), (2, .int f), (3, .int h)], [.int 1], _, 0, 0) _
      refine pm_brF (h := (16, [(0, .ref 25), (1, .int r), (2, .int f), (3, .int h)], [], hq g c1 c2 c3 c4 c5 c6 c7 c8 c9 c10 c11 c12 c13 c14 c15 c16 c17 c18 c19 c20 c21 c22 c23 c24 (hc25 mTy mTm mMn mFn mRn mTn mVn mLr mTr mFl mFm mFp mSc mMp mEn) (hc26 mPa) (hc27 mTo) (hc28 mOt) (hc29 mNa) (hc30 mRe) (hc31 mMa) (hc32 mMy) (hc33 mPm) (hc34 mFy) (hc35 mFa) (hc36 mFr) (hc37 mFo) (hc38 mRt) (hc39 mRm) (hc40 mTt) (hc41 mTi) (hc42 mPl) (hc43 mVr) (hc44 mVf) (hc45 mVc) (hc46 mAr) (hc47 mTc) (hc48 mFt) (hc49 mGo) dyn, 0, 0)) rfl ?_
      refine pm_go (g := (17, _, [.ref 25], _, 0, 0)) rfl ?_
      refine pm_go (g := (20, _, [.ref 37], _, 0, 0)) rfl ?_
      refine pm_go (g := (21, _, [.int r, .ref 37], _, 0, 0)) rfl ?_
      refine pm_sd (g := (22, _, [.int (mFo (r).toNatClampNeg)], _, 0, 0)) rfl (pm_inI (by omega) (by omega)) ?_
      refine pm_go (g := (23, _, [.int 4, .int (mFo (r).toNatClampNeg)], _, 0, 0)) rfl ?_
      refine pm_if2 (g := (48, [(0, .ref 25), (1, .int r), (2, .int f), (3, .int h)], [], hq g c1 c2 c3 c4 c5 c6 c7 c8 c9 c10 c11 c12 c13 c14 c15 c16 c17 c18 c19 c20 c21 c22 c23 c24 (hc25 mTy mTm mMn mFn mRn mTn mVn mLr mTr mFl mFm mFp mSc mMp mEn) (hc26 mPa) (hc27 mTo) (hc28 mOt) (hc29 mNa) (hc30 mRe) (hc31 mMa) (hc32 mMy) (hc33 mPm) (hc34 mFy) (hc35 mFa) (hc36 mFr) (hc37 mFo) (hc38 mRt) (hc39 mRm) (hc40 mTt) (hc41 mTi) (hc42 mPl) (hc43 mVr) (hc44 mVf) (hc45 mVc) (hc46 mAr) (hc47 mTc) (hc48 mFt) (hc49 mGo) dyn, 0, 0)) (h := (26, [(0, .ref 25), (1, .int r), (2, .int f), (3, .int h)], [], hq g c1 c2 c3 c4 c5 c6 c7 c8 c9 c10 c11 c12 c13 c14 c15 c16 c17 c18 c19 c20 c21 c22 c23 c24 (hc25 mTy mTm mMn mFn mRn mTn mVn mLr mTr mFl mFm mFp mSc mMp mEn) (hc26 mPa) (hc27 mTo) (hc28 mOt) (hc29 mNa) (hc30 mRe) (hc31 mMa) (hc32 mMy) (hc33 mPm) (hc34 mFy) (hc35 mFa) (hc36 mFr) (hc37 mFo) (hc38 mRt) (hc39 mRm) (hc40 mTt) (hc41 mTi) (hc42 mPl) (hc43 mVr) (hc44 mVf) (hc45 mVc) (hc46 mAr) (hc47 mTc) (hc48 mFt) (hc49 mGo) dyn, 0, 0)) rfl (fun h7 => ?_) (fun h7 => ?_)
      ·
        have h7 := qT_eq (cx := (mFo (r).toNatClampNeg).toInt) (cy := 4) rfl (by decide) h7
        refine pm_go (g := (49, _, [.int (-1)], _, 0, 0)) rfl ?_
        exact pm_ret rfl (k0 (by omega))
      have h7 := qF_eq (cx := (mFo (r).toNatClampNeg).toInt) (cy := 4) rfl (by decide) h7
      refine pm_go (g := (27, _, [.int h], _, 0, 0)) rfl ?_
      refine pm_go (g := (28, _, [.int 1, .int h], _, 0, 0)) rfl ?_
      refine pm_go (g := (29, _, [.ref 25, .int 1, .int h], _, 0, 0)) rfl ?_
      refine pm_go (g := (32, _, [.ref 37, .int 1, .int h], _, 0, 0)) rfl ?_
      refine pm_go (g := (33, _, [.int r, .ref 37, .int 1, .int h], _, 0, 0)) rfl ?_
      refine pm_sd (g := (34, _, [.int (mFo (r).toNatClampNeg), .int 1, .int h], _, 0, 0)) rfl (pm_inI (by omega) (by omega)) ?_
      refine pm_if2 (g := (41, [(0, .ref 25), (1, .int r), (2, .int f), (3, .int h)], [.int 1, .int h], hq g c1 c2 c3 c4 c5 c6 c7 c8 c9 c10 c11 c12 c13 c14 c15 c16 c17 c18 c19 c20 c21 c22 c23 c24 (hc25 mTy mTm mMn mFn mRn mTn mVn mLr mTr mFl mFm mFp mSc mMp mEn) (hc26 mPa) (hc27 mTo) (hc28 mOt) (hc29 mNa) (hc30 mRe) (hc31 mMa) (hc32 mMy) (hc33 mPm) (hc34 mFy) (hc35 mFa) (hc36 mFr) (hc37 mFo) (hc38 mRt) (hc39 mRm) (hc40 mTt) (hc41 mTi) (hc42 mPl) (hc43 mVr) (hc44 mVf) (hc45 mVc) (hc46 mAr) (hc47 mTc) (hc48 mFt) (hc49 mGo) dyn, 0, 0)) (h := (37, [(0, .ref 25), (1, .int r), (2, .int f), (3, .int h)], [.int 1, .int h], hq g c1 c2 c3 c4 c5 c6 c7 c8 c9 c10 c11 c12 c13 c14 c15 c16 c17 c18 c19 c20 c21 c22 c23 c24 (hc25 mTy mTm mMn mFn mRn mTn mVn mLr mTr mFl mFm mFp mSc mMp mEn) (hc26 mPa) (hc27 mTo) (hc28 mOt) (hc29 mNa) (hc30 mRe) (hc31 mMa) (hc32 mMy) (hc33 mPm) (hc34 mFy) (hc35 mFa) (hc36 mFr) (hc37 mFo) (hc38 mRt) (hc39 mRm) (hc40 mTt) (hc41 mTi) (hc42 mPl) (hc43 mVr) (hc44 mVf) (hc45 mVc) (hc46 mAr) (hc47 mTc) (hc48 mFt) (hc49 mGo) dyn, 0, 0)) rfl (fun h8 => ?_) (fun h8 => ?_)
      ·
        have h8 := qT_ne (cx := (mFo (r).toNatClampNeg).toInt) (cy := 0) rfl (by decide) h8
        refine pm_go (g := (42, _, [.int 1, .int 1, .int h], _, 0, 0)) rfl ?_
        refine pm_callD (z := 128) (as := [.int h, .int 1, .int 1]) (rest := []) rfl ?_
        have h9 : (1 : Int32).toInt = 1 := by decide
        have h10 : (1 : Int32).toInt = 1 := by decide
        refine w_X12_isIn h 1 1 (fun h11 => ?_) (fun h12 => ?_)
        ·
          show pm_WP 165 (45, [(0, .ref 25), (1, .int r), (2, .int f), (3, .int h)], [.int 1], _, 0, 0) _
          refine pm_brT (g := (50, [(0, .ref 25), (1, .int r), (2, .int f), (3, .int h)], [], hq g c1 c2 c3 c4 c5 c6 c7 c8 c9 c10 c11 c12 c13 c14 c15 c16 c17 c18 c19 c20 c21 c22 c23 c24 (hc25 mTy mTm mMn mFn mRn mTn mVn mLr mTr mFl mFm mFp mSc mMp mEn) (hc26 mPa) (hc27 mTo) (hc28 mOt) (hc29 mNa) (hc30 mRe) (hc31 mMa) (hc32 mMy) (hc33 mPm) (hc34 mFy) (hc35 mFa) (hc36 mFr) (hc37 mFo) (hc38 mRt) (hc39 mRm) (hc40 mTt) (hc41 mTi) (hc42 mPl) (hc43 mVr) (hc44 mVf) (hc45 mVc) (hc46 mAr) (hc47 mTc) (hc48 mFt) (hc49 mGo) dyn, 0, 0)) rfl ?_
          refine pm_go (g := (51, _, [.ref 25], _, 0, 0)) rfl ?_
          refine pm_go (g := (54, _, [.ref 38], _, 0, 0)) rfl ?_
          refine pm_go (g := (55, _, [.int r, .ref 38], _, 0, 0)) rfl ?_
          refine pm_sd (g := (56, _, [.int (mRt (r).toNatClampNeg)], _, 0, 0)) rfl (pm_inI (by omega) (by omega)) ?_
          refine pm_go (g := (58, [(4, .int (mRt (r).toNatClampNeg)), (0, .ref 25), (1, .int r), (2, .int f), (3, .int h)], [], _, 0, 0)) rfl ?_
          refine pm_go (g := (59, _, [.ref 25], _, 0, 0)) rfl ?_
          refine pm_go (g := (62, _, [.ref 37], _, 0, 0)) rfl ?_
          refine pm_go (g := (63, _, [.int r, .ref 37], _, 0, 0)) rfl ?_
          refine pm_sd (g := (64, _, [.int (mFo (r).toNatClampNeg)], _, 0, 0)) rfl (pm_inI (by omega) (by omega)) ?_
          refine pm_go (g := (65, _, [.int 3, .int (mFo (r).toNatClampNeg)], _, 0, 0)) rfl ?_
          refine pm_if2 (g := (102, [(4, .int (mRt (r).toNatClampNeg)), (0, .ref 25), (1, .int r), (2, .int f), (3, .int h)], [], hq g c1 c2 c3 c4 c5 c6 c7 c8 c9 c10 c11 c12 c13 c14 c15 c16 c17 c18 c19 c20 c21 c22 c23 c24 (hc25 mTy mTm mMn mFn mRn mTn mVn mLr mTr mFl mFm mFp mSc mMp mEn) (hc26 mPa) (hc27 mTo) (hc28 mOt) (hc29 mNa) (hc30 mRe) (hc31 mMa) (hc32 mMy) (hc33 mPm) (hc34 mFy) (hc35 mFa) (hc36 mFr) (hc37 mFo) (hc38 mRt) (hc39 mRm) (hc40 mTt) (hc41 mTi) (hc42 mPl) (hc43 mVr) (hc44 mVf) (hc45 mVc) (hc46 mAr) (hc47 mTc) (hc48 mFt) (hc49 mGo) dyn, 0, 0)) (h := (68, [(4, .int (mRt (r).toNatClampNeg)), (0, .ref 25), (1, .int r), (2, .int f), (3, .int h)], [], hq g c1 c2 c3 c4 c5 c6 c7 c8 c9 c10 c11 c12 c13 c14 c15 c16 c17 c18 c19 c20 c21 c22 c23 c24 (hc25 mTy mTm mMn mFn mRn mTn mVn mLr mTr mFl mFm mFp mSc mMp mEn) (hc26 mPa) (hc27 mTo) (hc28 mOt) (hc29 mNa) (hc30 mRe) (hc31 mMa) (hc32 mMy) (hc33 mPm) (hc34 mFy) (hc35 mFa) (hc36 mFr) (hc37 mFo) (hc38 mRt) (hc39 mRm) (hc40 mTt) (hc41 mTi) (hc42 mPl) (hc43 mVr) (hc44 mVf) (hc45 mVc) (hc46 mAr) (hc47 mTc) (hc48 mFt) (hc49 mGo) dyn, 0, 0)) rfl (fun h14 => ?_) (fun h14 => ?_)
          ·
            have h14 := qT_ne (cx := (mFo (r).toNatClampNeg).toInt) (cy := 3) rfl (by decide) h14
            refine pm_go (g := (103, _, [.int h], _, 0, 0)) rfl ?_
            refine pm_go (g := (104, _, [.int 2, .int h], _, 0, 0)) rfl ?_
            refine pm_if2 (g := (123, [(4, .int (mRt (r).toNatClampNeg)), (0, .ref 25), (1, .int r), (2, .int f), (3, .int h)], [], hq g c1 c2 c3 c4 c5 c6 c7 c8 c9 c10 c11 c12 c13 c14 c15 c16 c17 c18 c19 c20 c21 c22 c23 c24 (hc25 mTy mTm mMn mFn mRn mTn mVn mLr mTr mFl mFm mFp mSc mMp mEn) (hc26 mPa) (hc27 mTo) (hc28 mOt) (hc29 mNa) (hc30 mRe) (hc31 mMa) (hc32 mMy) (hc33 mPm) (hc34 mFy) (hc35 mFa) (hc36 mFr) (hc37 mFo) (hc38 mRt) (hc39 mRm) (hc40 mTt) (hc41 mTi) (hc42 mPl) (hc43 mVr) (hc44 mVf) (hc45 mVc) (hc46 mAr) (hc47 mTc) (hc48 mFt) (hc49 mGo) dyn, 0, 0)) (h := (107, [(4, .int (mRt (r).toNatClampNeg)), (0, .ref 25), (1, .int r), (2, .int f), (3, .int h)], [], hq g c1 c2 c3 c4 c5 c6 c7 c8 c9 c10 c11 c12 c13 c14 c15 c16 c17 c18 c19 c20 c21 c22 c23 c24 (hc25 mTy mTm mMn mFn mRn mTn mVn mLr mTr mFl mFm mFp mSc mMp mEn) (hc26 mPa) (hc27 mTo) (hc28 mOt) (hc29 mNa) (hc30 mRe) (hc31 mMa) (hc32 mMy) (hc33 mPm) (hc34 mFy) (hc35 mFa) (hc36 mFr) (hc37 mFo) (hc38 mRt) (hc39 mRm) (hc40 mTt) (hc41 mTi) (hc42 mPl) (hc43 mVr) (hc44 mVf) (hc45 mVc) (hc46 mAr) (hc47 mTc) (hc48 mFt) (hc49 mGo) dyn, 0, 0)) rfl (fun h15 => ?_) (fun h15 => ?_)
            ·
              have h15 := qT_ne (cx := (h).toInt) (cy := 2) rfl (by decide) h15
              refine pm_go (g := (124, _, [.ref 25], _, 0, 0)) rfl ?_
              refine pm_go (g := (125, _, [.ref 25, .ref 25], _, 0, 0)) rfl ?_
              refine pm_go (g := (128, _, [.ref 37, .ref 25], _, 0, 0)) rfl ?_
              refine pm_go (g := (129, _, [.int r, .ref 37, .ref 25], _, 0, 0)) rfl ?_
              refine pm_sd (g := (130, _, [.int (mFo (r).toNatClampNeg), .ref 25], _, 0, 0)) rfl (pm_inI (by omega) (by omega)) ?_
              refine pm_go (g := (131, _, [.int 2, .int (mFo (r).toNatClampNeg), .ref 25], _, 0, 0)) rfl ?_
              refine pm_if2 (g := (144, [(4, .int (mRt (r).toNatClampNeg)), (0, .ref 25), (1, .int r), (2, .int f), (3, .int h)], [.ref 25], hq g c1 c2 c3 c4 c5 c6 c7 c8 c9 c10 c11 c12 c13 c14 c15 c16 c17 c18 c19 c20 c21 c22 c23 c24 (hc25 mTy mTm mMn mFn mRn mTn mVn mLr mTr mFl mFm mFp mSc mMp mEn) (hc26 mPa) (hc27 mTo) (hc28 mOt) (hc29 mNa) (hc30 mRe) (hc31 mMa) (hc32 mMy) (hc33 mPm) (hc34 mFy) (hc35 mFa) (hc36 mFr) (hc37 mFo) (hc38 mRt) (hc39 mRm) (hc40 mTt) (hc41 mTi) (hc42 mPl) (hc43 mVr) (hc44 mVf) (hc45 mVc) (hc46 mAr) (hc47 mTc) (hc48 mFt) (hc49 mGo) dyn, 0, 0)) (h := (134, [(4, .int (mRt (r).toNatClampNeg)), (0, .ref 25), (1, .int r), (2, .int f), (3, .int h)], [.ref 25], hq g c1 c2 c3 c4 c5 c6 c7 c8 c9 c10 c11 c12 c13 c14 c15 c16 c17 c18 c19 c20 c21 c22 c23 c24 (hc25 mTy mTm mMn mFn mRn mTn mVn mLr mTr mFl mFm mFp mSc mMp mEn) (hc26 mPa) (hc27 mTo) (hc28 mOt) (hc29 mNa) (hc30 mRe) (hc31 mMa) (hc32 mMy) (hc33 mPm) (hc34 mFy) (hc35 mFa) (hc36 mFr) (hc37 mFo) (hc38 mRt) (hc39 mRm) (hc40 mTt) (hc41 mTi) (hc42 mPl) (hc43 mVr) (hc44 mVf) (hc45 mVc) (hc46 mAr) (hc47 mTc) (hc48 mFt) (hc49 mGo) dyn, 0, 0)) rfl (fun h16 => ?_) (fun h16 => ?_)
              ·
                have h16 := qT_ne (cx := (mFo (r).toNatClampNeg).toInt) (cy := 2) rfl (by decide) h16
                refine pm_go (g := (146, _, [.int (mRt (r).toNatClampNeg), .ref 25], _, 0, 0)) rfl ?_
                refine pm_go (g := (147, _, [.ref 25, .int (mRt (r).toNatClampNeg), .ref 25], _, 0, 0)) rfl ?_
                refine pm_go (g := (150, _, [.ref 39, .int (mRt (r).toNatClampNeg), .ref 25], _, 0, 0)) rfl ?_
                refine pm_go (g := (151, _, [.int r, .ref 39, .int (mRt (r).toNatClampNeg), .ref 25], _, 0, 0)) rfl ?_
                refine pm_sd (g := (152, _, [.int (mRm (r).toNatClampNeg), .int (mRt (r).toNatClampNeg), .ref 25], _, 0, 0)) rfl (pm_inI (by omega) (by omega)) ?_
                refine pm_go (g := (153, _, [.int f, .int (mRm (r).toNatClampNeg), .int (mRt (r).toNatClampNeg), .ref 25], _, 0, 0)) rfl ?_
                refine pm_go (g := (154, _, [.int 0, .int f, .int (mRm (r).toNatClampNeg), .int (mRt (r).toNatClampNeg), .ref 25], _, 0, 0)) rfl ?_
                refine pm_callD (z := 150) (as := [.ref 25, .int (mRt (r).toNatClampNeg), .int (mRm (r).toNatClampNeg), .int f, .int 0]) (rest := []) rfl ?_
                have h17 : (0 : Int32).toInt = 0 := by decide
                refine w_X12_searched (mRt (r).toNatClampNeg) (mRm (r).toNatClampNeg) f 0 (by omega) (by omega) (by omega) (by assumption) (by assumption) (by assumption) (by omega) (fun v21_f9 v21_m9 v21_p9 v21_r9 h18 h19 h20 h21 => ?_)
                show pm_WP 165 (157, [(4, .int (mRt (r).toNatClampNeg)), (0, .ref 25), (1, .int r), (2, .int f), (3, .int h)], [.int v21_r9], _, 0, 0) _
                refine pm_ret rfl (k2 _ _ _ _ (by omega) ?_ ?_ (srM_n p8 h18) (by omega))
                · first | exact Or.inl (by omega) | exact Or.inr ⟨by assumption, Classical.byContradiction (fun q => absurd (h0.mpr q) (by omega))⟩
                · first | exact Or.inl ⟨by omega, h18⟩ | exact Or.inr (Or.inr (Or.inl ⟨by omega, by omega, h18⟩)) | exact Or.inr (Or.inr (Or.inr ⟨by omega, by omega, by omega, h18⟩))
              have h16 := qF_ne (cx := (mFo (r).toNatClampNeg).toInt) (cy := 2) rfl (by decide) h16
              refine pm_go (g := (135, _, [.ref 25, .ref 25], hq g c1 c2 c3 c4 c5 c6 c7 c8 c9 c10 c11 c12 c13 c14 c15 c16 c17 c18 c19 c20 c21 c22 c23 c24 (hc25 mTy mTm mMn mFn mRn mTn mVn mLr mTr mFl mFm mFp mSc mMp mEn) (hc26 mPa) (hc27 mTo) (hc28 mOt) (hc29 mNa) (hc30 mRe) (hc31 mMa) (hc32 mMy) (hc33 mPm) (hc34 mFy) (hc35 mFa) (hc36 mFr) (hc37 mFo) (hc38 mRt) (hc39 mRm) (hc40 mTt) (hc41 mTi) (hc42 mPl) (hc43 mVr) (hc44 mVf) (hc45 mVc) (hc46 mAr) (hc47 mTc) (hc48 mFt) (hc49 mGo) dyn, 0, 0)) rfl ?_
              refine pm_go (g := (138, _, [.ref 26, .ref 25], _, 0, 0)) rfl ?_
              refine pm_go (g := (140, _, [.int (mRt (r).toNatClampNeg), .ref 26, .ref 25], _, 0, 0)) rfl ?_
              refine pm_sd (g := (141, _, [.int (mPa (mRt (r).toNatClampNeg).toNatClampNeg), .ref 25], _, 0, 0)) rfl (pm_inI (by omega) (by omega)) ?_
              refine pm_go (g := (146, _, [.int (mPa (mRt (r).toNatClampNeg).toNatClampNeg), .ref 25], _, 0, 0)) rfl ?_
              refine pm_go (g := (147, _, [.ref 25, .int (mPa (mRt (r).toNatClampNeg).toNatClampNeg), .ref 25], _, 0, 0)) rfl ?_
              refine pm_go (g := (150, _, [.ref 39, .int (mPa (mRt (r).toNatClampNeg).toNatClampNeg), .ref 25], _, 0, 0)) rfl ?_
              refine pm_go (g := (151, _, [.int r, .ref 39, .int (mPa (mRt (r).toNatClampNeg).toNatClampNeg), .ref 25], _, 0, 0)) rfl ?_
              refine pm_sd (g := (152, _, [.int (mRm (r).toNatClampNeg), .int (mPa (mRt (r).toNatClampNeg).toNatClampNeg), .ref 25], _, 0, 0)) rfl (pm_inI (by omega) (by omega)) ?_
              refine pm_go (g := (153, _, [.int f, .int (mRm (r).toNatClampNeg), .int (mPa (mRt (r).toNatClampNeg).toNatClampNeg), .ref 25], _, 0, 0)) rfl ?_
              refine pm_go (g := (154, _, [.int 0, .int f, .int (mRm (r).toNatClampNeg), .int (mPa (mRt (r).toNatClampNeg).toNatClampNeg), .ref 25], _, 0, 0)) rfl ?_
              refine pm_callD (z := 150) (as := [.ref 25, .int (mPa (mRt (r).toNatClampNeg).toNatClampNeg), .int (mRm (r).toNatClampNeg), .int f, .int 0]) (rest := []) rfl ?_
              have h23 : (0 : Int32).toInt = 0 := by decide
              refine w_X12_searched (mPa (mRt (r).toNatClampNeg).toNatClampNeg) (mRm (r).toNatClampNeg) f 0 (by omega) (by omega) (by omega) (by assumption) (by assumption) (by assumption) (by omega) (fun v27_f9 v27_m9 v27_p9 v27_r9 h24 h25 h26 h27 => ?_)
              show pm_WP 165 (157, [(4, .int (mRt (r).toNatClampNeg)), (0, .ref 25), (1, .int r), (2, .int f), (3, .int h)], [.int v27_r9], _, 0, 0) _
              refine pm_ret rfl (k2 _ _ _ _ (by omega) ?_ ?_ (srM_n p8 h24) (by omega))
              · first | exact Or.inl (by omega) | exact Or.inr ⟨by assumption, Classical.byContradiction (fun q => absurd (h0.mpr q) (by omega))⟩
              · first | exact Or.inl ⟨by omega, h24⟩ | exact Or.inr (Or.inr (Or.inl ⟨by omega, by omega, h24⟩)) | exact Or.inr (Or.inr (Or.inr ⟨by omega, by omega, by omega, h24⟩))
            have h15 := qF_ne (cx := (h).toInt) (cy := 2) rfl (by decide) h15
            refine pm_go (g := (108, _, [.ref 25], hq g c1 c2 c3 c4 c5 c6 c7 c8 c9 c10 c11 c12 c13 c14 c15 c16 c17 c18 c19 c20 c21 c22 c23 c24 (hc25 mTy mTm mMn mFn mRn mTn mVn mLr mTr mFl mFm mFp mSc mMp mEn) (hc26 mPa) (hc27 mTo) (hc28 mOt) (hc29 mNa) (hc30 mRe) (hc31 mMa) (hc32 mMy) (hc33 mPm) (hc34 mFy) (hc35 mFa) (hc36 mFr) (hc37 mFo) (hc38 mRt) (hc39 mRm) (hc40 mTt) (hc41 mTi) (hc42 mPl) (hc43 mVr) (hc44 mVf) (hc45 mVc) (hc46 mAr) (hc47 mTc) (hc48 mFt) (hc49 mGo) dyn, 0, 0)) rfl ?_
            refine pm_go (g := (110, _, [.int (mRt (r).toNatClampNeg), .ref 25], _, 0, 0)) rfl ?_
            refine pm_go (g := (111, _, [.ref 25, .int (mRt (r).toNatClampNeg), .ref 25], _, 0, 0)) rfl ?_
            refine pm_go (g := (114, _, [.ref 39, .int (mRt (r).toNatClampNeg), .ref 25], _, 0, 0)) rfl ?_
            refine pm_go (g := (115, _, [.int r, .ref 39, .int (mRt (r).toNatClampNeg), .ref 25], _, 0, 0)) rfl ?_
            refine pm_sd (g := (116, _, [.int (mRm (r).toNatClampNeg), .int (mRt (r).toNatClampNeg), .ref 25], _, 0, 0)) rfl (pm_inI (by omega) (by omega)) ?_
            refine pm_go (g := (117, _, [.int f, .int (mRm (r).toNatClampNeg), .int (mRt (r).toNatClampNeg), .ref 25], _, 0, 0)) rfl ?_
            refine pm_callD (z := 152) (as := [.ref 25, .int (mRt (r).toNatClampNeg), .int (mRm (r).toNatClampNeg), .int f]) (rest := []) rfl ?_
            refine w_X12_secondSearched (mRt (r).toNatClampNeg) (mRm (r).toNatClampNeg) f (by omega) (by omega) (by assumption) (by assumption) (by assumption) (by omega) (fun v32_f9 v32_m9 v32_p9 v32_r9 h29 h30 h31 h32 => ?_)
            show pm_WP 165 (120, [(4, .int (mRt (r).toNatClampNeg)), (0, .ref 25), (1, .int r), (2, .int f), (3, .int h)], [.int v32_r9], _, 0, 0) _
            refine pm_go (g := (157, _, [.int v32_r9], _, 0, 0)) rfl ?_
            exact pm_ret rfl (k2 _ _ _ _ (by omega) (Or.inl (by omega)) (Or.inr (Or.inl ⟨by omega, by omega, h29⟩)) (s2M_n p8 h29) (by omega))
          have h14 := qF_ne (cx := (mFo (r).toNatClampNeg).toInt) (cy := 3) rfl (by decide) h14
          refine pm_go (g := (69, _, [.ref 25], hq g c1 c2 c3 c4 c5 c6 c7 c8 c9 c10 c11 c12 c13 c14 c15 c16 c17 c18 c19 c20 c21 c22 c23 c24 (hc25 mTy mTm mMn mFn mRn mTn mVn mLr mTr mFl mFm mFp mSc mMp mEn) (hc26 mPa) (hc27 mTo) (hc28 mOt) (hc29 mNa) (hc30 mRe) (hc31 mMa) (hc32 mMy) (hc33 mPm) (hc34 mFy) (hc35 mFa) (hc36 mFr) (hc37 mFo) (hc38 mRt) (hc39 mRm) (hc40 mTt) (hc41 mTi) (hc42 mPl) (hc43 mVr) (hc44 mVf) (hc45 mVc) (hc46 mAr) (hc47 mTc) (hc48 mFt) (hc49 mGo) dyn, 0, 0)) rfl ?_
          refine pm_go (g := (71, _, [.int (mRt (r).toNatClampNeg), .ref 25], _, 0, 0)) rfl ?_
          refine pm_callD (z := 145) (as := [.ref 25, .int (mRt (r).toNatClampNeg)]) (rest := []) rfl ?_
          refine w_X12_isOpen (mRt (r).toNatClampNeg) (by assumption) (by assumption) (by omega) (fun h34 => ?_) (fun h35 => ?_)
          ·
            show pm_WP 165 (74, [(4, .int (mRt (r).toNatClampNeg)), (0, .ref 25), (1, .int r), (2, .int f), (3, .int h)], [.int 1], _, 0, 0) _
            refine pm_brT (g := (86, [(4, .int (mRt (r).toNatClampNeg)), (0, .ref 25), (1, .int r), (2, .int f), (3, .int h)], [], hq g c1 c2 c3 c4 c5 c6 c7 c8 c9 c10 c11 c12 c13 c14 c15 c16 c17 c18 c19 c20 c21 c22 c23 c24 (hc25 mTy mTm mMn mFn mRn mTn mVn mLr mTr mFl mFm mFp mSc mMp mEn) (hc26 mPa) (hc27 mTo) (hc28 mOt) (hc29 mNa) (hc30 mRe) (hc31 mMa) (hc32 mMy) (hc33 mPm) (hc34 mFy) (hc35 mFa) (hc36 mFr) (hc37 mFo) (hc38 mRt) (hc39 mRm) (hc40 mTt) (hc41 mTi) (hc42 mPl) (hc43 mVr) (hc44 mVf) (hc45 mVc) (hc46 mAr) (hc47 mTc) (hc48 mFt) (hc49 mGo) dyn, 0, 0)) rfl ?_
            refine pm_go (g := (88, _, [.int (-3)], _, 0, 0)) rfl ?_
            refine pm_go (g := (101, _, [.int (-3)], _, 0, 0)) rfl ?_
            exact pm_ret rfl (k1 (by omega) (by first | (left; assumption) | (right; exact h0.mp (by omega))))
          show pm_WP 165 (74, [(4, .int (mRt (r).toNatClampNeg)), (0, .ref 25), (1, .int r), (2, .int f), (3, .int h)], [.int 0], hq g c1 c2 c3 c4 c5 c6 c7 c8 c9 c10 c11 c12 c13 c14 c15 c16 c17 c18 c19 c20 c21 c22 c23 c24 (hc25 mTy mTm mMn mFn mRn mTn mVn mLr mTr mFl mFm mFp mSc mMp mEn) (hc26 mPa) (hc27 mTo) (hc28 mOt) (hc29 mNa) (hc30 mRe) (hc31 mMa) (hc32 mMy) (hc33 mPm) (hc34 mFy) (hc35 mFa) (hc36 mFr) (hc37 mFo) (hc38 mRt) (hc39 mRm) (hc40 mTt) (hc41 mTi) (hc42 mPl) (hc43 mVr) (hc44 mVf) (hc45 mVc) (hc46 mAr) (hc47 mTc) (hc48 mFt) (hc49 mGo) dyn, 0, 0) _
          refine pm_brF (h := (77, [(4, .int (mRt (r).toNatClampNeg)), (0, .ref 25), (1, .int r), (2, .int f), (3, .int h)], [], hq g c1 c2 c3 c4 c5 c6 c7 c8 c9 c10 c11 c12 c13 c14 c15 c16 c17 c18 c19 c20 c21 c22 c23 c24 (hc25 mTy mTm mMn mFn mRn mTn mVn mLr mTr mFl mFm mFp mSc mMp mEn) (hc26 mPa) (hc27 mTo) (hc28 mOt) (hc29 mNa) (hc30 mRe) (hc31 mMa) (hc32 mMy) (hc33 mPm) (hc34 mFy) (hc35 mFa) (hc36 mFr) (hc37 mFo) (hc38 mRt) (hc39 mRm) (hc40 mTt) (hc41 mTi) (hc42 mPl) (hc43 mVr) (hc44 mVf) (hc45 mVc) (hc46 mAr) (hc47 mTc) (hc48 mFt) (hc49 mGo) dyn, 0, 0)) rfl ?_
          refine pm_go (g := (78, _, [.ref 25], _, 0, 0)) rfl ?_
          refine pm_go (g := (80, _, [.int (mRt (r).toNatClampNeg), .ref 25], _, 0, 0)) rfl ?_
          refine pm_callD (z := 154) (as := [.ref 25, .int (mRt (r).toNatClampNeg)]) (rest := []) rfl ?_
          refine w_X12_makers (mRt (r).toNatClampNeg) (by omega) (fun v37_r9 h37 => ?_)
          show pm_WP 165 (83, [(4, .int (mRt (r).toNatClampNeg)), (0, .ref 25), (1, .int r), (2, .int f), (3, .int h)], [.int v37_r9], _, 0, 0) _
          refine pm_if2 (g := (91, [(4, .int (mRt (r).toNatClampNeg)), (0, .ref 25), (1, .int r), (2, .int f), (3, .int h)], [], hq g c1 c2 c3 c4 c5 c6 c7 c8 c9 c10 c11 c12 c13 c14 c15 c16 c17 c18 c19 c20 c21 c22 c23 c24 (hc25 mTy mTm mMn mFn mRn mTn mVn mLr mTr mFl mFm mFp mSc mMp mEn) (hc26 mPa) (hc27 mTo) (hc28 mOt) (hc29 mNa) (hc30 mRe) (hc31 mMa) (hc32 mMy) (hc33 mPm) (hc34 mFy) (hc35 mFa) (hc36 mFr) (hc37 mFo) (hc38 mRt) (hc39 mRm) (hc40 mTt) (hc41 mTi) (hc42 mPl) (hc43 mVr) (hc44 mVf) (hc45 mVc) (hc46 mAr) (hc47 mTc) (hc48 mFt) (hc49 mGo) dyn, 0, 0)) (h := (86, [(4, .int (mRt (r).toNatClampNeg)), (0, .ref 25), (1, .int r), (2, .int f), (3, .int h)], [], hq g c1 c2 c3 c4 c5 c6 c7 c8 c9 c10 c11 c12 c13 c14 c15 c16 c17 c18 c19 c20 c21 c22 c23 c24 (hc25 mTy mTm mMn mFn mRn mTn mVn mLr mTr mFl mFm mFp mSc mMp mEn) (hc26 mPa) (hc27 mTo) (hc28 mOt) (hc29 mNa) (hc30 mRe) (hc31 mMa) (hc32 mMy) (hc33 mPm) (hc34 mFy) (hc35 mFa) (hc36 mFr) (hc37 mFo) (hc38 mRt) (hc39 mRm) (hc40 mTt) (hc41 mTi) (hc42 mPl) (hc43 mVr) (hc44 mVf) (hc45 mVc) (hc46 mAr) (hc47 mTc) (hc48 mFt) (hc49 mGo) dyn, 0, 0)) rfl (fun h39 => ?_) (fun h39 => ?_)
          ·
            have h39 := qT_ne (cx := (v37_r9).toInt) (cy := 0) rfl (by decide) h39
            refine pm_go (g := (92, _, [.ref 25], _, 0, 0)) rfl ?_
            refine pm_go (g := (94, _, [.int (mRt (r).toNatClampNeg), .ref 25], _, 0, 0)) rfl ?_
            refine pm_go (g := (96, _, [.int 6, .int (mRt (r).toNatClampNeg), .ref 25], _, 0, 0)) rfl ?_
            refine pm_go (g := (97, _, [.int f, .int 6, .int (mRt (r).toNatClampNeg), .ref 25], _, 0, 0)) rfl ?_
            refine pm_go (g := (98, _, [.int 0, .int f, .int 6, .int (mRt (r).toNatClampNeg), .ref 25], _, 0, 0)) rfl ?_
            refine pm_callD (z := 150) (as := [.ref 25, .int (mRt (r).toNatClampNeg), .int 6, .int f, .int 0]) (rest := []) rfl ?_
            have h40 : (6 : Int32).toInt = 6 := by decide
            have h41 : (0 : Int32).toInt = 0 := by decide
            refine w_X12_searched (mRt (r).toNatClampNeg) 6 f 0 (by omega) (by omega) (by omega) (by assumption) (by assumption) (by assumption) (by omega) (fun v45_f9 v45_m9 v45_p9 v45_r9 h42 h43 h44 h45 => ?_)
            show pm_WP 165 (101, [(4, .int (mRt (r).toNatClampNeg)), (0, .ref 25), (1, .int r), (2, .int f), (3, .int h)], [.int v45_r9], _, 0, 0) _
            refine pm_ret rfl (k2 _ _ _ _ (by omega) ?_ ?_ (srM_n p8 h42) (by omega))
            · first | exact Or.inl (by omega) | exact Or.inr ⟨by assumption, Classical.byContradiction (fun q => absurd (h37.mpr q) (by omega))⟩
            · first | exact Or.inl ⟨by omega, h42⟩ | exact Or.inr (Or.inr (Or.inl ⟨by omega, by omega, h42⟩)) | exact Or.inr (Or.inr (Or.inr ⟨by omega, by omega, by omega, h42⟩))
          have h39 := qF_ne (cx := (v37_r9).toInt) (cy := 0) rfl (by decide) h39
          refine pm_go (g := (88, _, [.int (-3)], hq g c1 c2 c3 c4 c5 c6 c7 c8 c9 c10 c11 c12 c13 c14 c15 c16 c17 c18 c19 c20 c21 c22 c23 c24 (hc25 mTy mTm mMn mFn mRn mTn mVn mLr mTr mFl mFm mFp mSc mMp mEn) (hc26 mPa) (hc27 mTo) (hc28 mOt) (hc29 mNa) (hc30 mRe) (hc31 mMa) (hc32 mMy) (hc33 mPm) (hc34 mFy) (hc35 mFa) (hc36 mFr) (hc37 mFo) (hc38 mRt) (hc39 mRm) (hc40 mTt) (hc41 mTi) (hc42 mPl) (hc43 mVr) (hc44 mVf) (hc45 mVc) (hc46 mAr) (hc47 mTc) (hc48 mFt) (hc49 mGo) dyn, 0, 0)) rfl ?_
          refine pm_go (g := (101, _, [.int (-3)], _, 0, 0)) rfl ?_
          exact pm_ret rfl (k1 (by omega) (by first | (left; assumption) | (right; exact h37.mp (by omega))))
        show pm_WP 165 (45, [(0, .ref 25), (1, .int r), (2, .int f), (3, .int h)], [.int 0], hq g c1 c2 c3 c4 c5 c6 c7 c8 c9 c10 c11 c12 c13 c14 c15 c16 c17 c18 c19 c20 c21 c22 c23 c24 (hc25 mTy mTm mMn mFn mRn mTn mVn mLr mTr mFl mFm mFp mSc mMp mEn) (hc26 mPa) (hc27 mTo) (hc28 mOt) (hc29 mNa) (hc30 mRe) (hc31 mMa) (hc32 mMy) (hc33 mPm) (hc34 mFy) (hc35 mFa) (hc36 mFr) (hc37 mFo) (hc38 mRt) (hc39 mRm) (hc40 mTt) (hc41 mTi) (hc42 mPl) (hc43 mVr) (hc44 mVf) (hc45 mVc) (hc46 mAr) (hc47 mTc) (hc48 mFt) (hc49 mGo) dyn, 0, 0) _
        refine pm_brF (h := (48, [(0, .ref 25), (1, .int r), (2, .int f), (3, .int h)], [], hq g c1 c2 c3 c4 c5 c6 c7 c8 c9 c10 c11 c12 c13 c14 c15 c16 c17 c18 c19 c20 c21 c22 c23 c24 (hc25 mTy mTm mMn mFn mRn mTn mVn mLr mTr mFl mFm mFp mSc mMp mEn) (hc26 mPa) (hc27 mTo) (hc28 mOt) (hc29 mNa) (hc30 mRe) (hc31 mMa) (hc32 mMy) (hc33 mPm) (hc34 mFy) (hc35 mFa) (hc36 mFr) (hc37 mFo) (hc38 mRt) (hc39 mRm) (hc40 mTt) (hc41 mTi) (hc42 mPl) (hc43 mVr) (hc44 mVf) (hc45 mVc) (hc46 mAr) (hc47 mTc) (hc48 mFt) (hc49 mGo) dyn, 0, 0)) rfl ?_
        refine pm_go (g := (49, _, [.int (-1)], _, 0, 0)) rfl ?_
        exact pm_ret rfl (k0 (by omega))
      have h8 := qF_ne (cx := (mFo (r).toNatClampNeg).toInt) (cy := 0) rfl (by decide) h8
      refine pm_go (g := (38, _, [.int 2, .int 1, .int h], _, 0, 0)) rfl ?_
      refine pm_go (g := (42, _, [.int 2, .int 1, .int h], _, 0, 0)) rfl ?_
      refine pm_callD (z := 128) (as := [.int h, .int 1, .int 2]) (rest := []) rfl ?_
      have h47 : (1 : Int32).toInt = 1 := by decide
      have h48 : (2 : Int32).toInt = 2 := by decide
      refine w_X12_isIn h 1 2 (fun h49 => ?_) (fun h50 => ?_)
      ·
        show pm_WP 165 (45, [(0, .ref 25), (1, .int r), (2, .int f), (3, .int h)], [.int 1], _, 0, 0) _
        refine pm_brT (g := (50, [(0, .ref 25), (1, .int r), (2, .int f), (3, .int h)], [], hq g c1 c2 c3 c4 c5 c6 c7 c8 c9 c10 c11 c12 c13 c14 c15 c16 c17 c18 c19 c20 c21 c22 c23 c24 (hc25 mTy mTm mMn mFn mRn mTn mVn mLr mTr mFl mFm mFp mSc mMp mEn) (hc26 mPa) (hc27 mTo) (hc28 mOt) (hc29 mNa) (hc30 mRe) (hc31 mMa) (hc32 mMy) (hc33 mPm) (hc34 mFy) (hc35 mFa) (hc36 mFr) (hc37 mFo) (hc38 mRt) (hc39 mRm) (hc40 mTt) (hc41 mTi) (hc42 mPl) (hc43 mVr) (hc44 mVf) (hc45 mVc) (hc46 mAr) (hc47 mTc) (hc48 mFt) (hc49 mGo) dyn, 0, 0)) rfl ?_
        refine pm_go (g := (51, _, [.ref 25], _, 0, 0)) rfl ?_
        refine pm_go (g := (54, _, [.ref 38], _, 0, 0)) rfl ?_
        refine pm_go (g := (55, _, [.int r, .ref 38], _, 0, 0)) rfl ?_
        refine pm_sd (g := (56, _, [.int (mRt (r).toNatClampNeg)], _, 0, 0)) rfl (pm_inI (by omega) (by omega)) ?_
        refine pm_go (g := (58, [(4, .int (mRt (r).toNatClampNeg)), (0, .ref 25), (1, .int r), (2, .int f), (3, .int h)], [], _, 0, 0)) rfl ?_
        refine pm_go (g := (59, _, [.ref 25], _, 0, 0)) rfl ?_
        refine pm_go (g := (62, _, [.ref 37], _, 0, 0)) rfl ?_
        refine pm_go (g := (63, _, [.int r, .ref 37], _, 0, 0)) rfl ?_
        refine pm_sd (g := (64, _, [.int (mFo (r).toNatClampNeg)], _, 0, 0)) rfl (pm_inI (by omega) (by omega)) ?_
        refine pm_go (g := (65, _, [.int 3, .int (mFo (r).toNatClampNeg)], _, 0, 0)) rfl ?_
        refine pm_if2 (g := (102, [(4, .int (mRt (r).toNatClampNeg)), (0, .ref 25), (1, .int r), (2, .int f), (3, .int h)], [], hq g c1 c2 c3 c4 c5 c6 c7 c8 c9 c10 c11 c12 c13 c14 c15 c16 c17 c18 c19 c20 c21 c22 c23 c24 (hc25 mTy mTm mMn mFn mRn mTn mVn mLr mTr mFl mFm mFp mSc mMp mEn) (hc26 mPa) (hc27 mTo) (hc28 mOt) (hc29 mNa) (hc30 mRe) (hc31 mMa) (hc32 mMy) (hc33 mPm) (hc34 mFy) (hc35 mFa) (hc36 mFr) (hc37 mFo) (hc38 mRt) (hc39 mRm) (hc40 mTt) (hc41 mTi) (hc42 mPl) (hc43 mVr) (hc44 mVf) (hc45 mVc) (hc46 mAr) (hc47 mTc) (hc48 mFt) (hc49 mGo) dyn, 0, 0)) (h := (68, [(4, .int (mRt (r).toNatClampNeg)), (0, .ref 25), (1, .int r), (2, .int f), (3, .int h)], [], hq g c1 c2 c3 c4 c5 c6 c7 c8 c9 c10 c11 c12 c13 c14 c15 c16 c17 c18 c19 c20 c21 c22 c23 c24 (hc25 mTy mTm mMn mFn mRn mTn mVn mLr mTr mFl mFm mFp mSc mMp mEn) (hc26 mPa) (hc27 mTo) (hc28 mOt) (hc29 mNa) (hc30 mRe) (hc31 mMa) (hc32 mMy) (hc33 mPm) (hc34 mFy) (hc35 mFa) (hc36 mFr) (hc37 mFo) (hc38 mRt) (hc39 mRm) (hc40 mTt) (hc41 mTi) (hc42 mPl) (hc43 mVr) (hc44 mVf) (hc45 mVc) (hc46 mAr) (hc47 mTc) (hc48 mFt) (hc49 mGo) dyn, 0, 0)) rfl (fun h52 => ?_) (fun h52 => ?_)
        ·
          have h52 := qT_ne (cx := (mFo (r).toNatClampNeg).toInt) (cy := 3) rfl (by decide) h52
          refine pm_go (g := (103, _, [.int h], _, 0, 0)) rfl ?_
          refine pm_go (g := (104, _, [.int 2, .int h], _, 0, 0)) rfl ?_
          refine pm_if2 (g := (123, [(4, .int (mRt (r).toNatClampNeg)), (0, .ref 25), (1, .int r), (2, .int f), (3, .int h)], [], hq g c1 c2 c3 c4 c5 c6 c7 c8 c9 c10 c11 c12 c13 c14 c15 c16 c17 c18 c19 c20 c21 c22 c23 c24 (hc25 mTy mTm mMn mFn mRn mTn mVn mLr mTr mFl mFm mFp mSc mMp mEn) (hc26 mPa) (hc27 mTo) (hc28 mOt) (hc29 mNa) (hc30 mRe) (hc31 mMa) (hc32 mMy) (hc33 mPm) (hc34 mFy) (hc35 mFa) (hc36 mFr) (hc37 mFo) (hc38 mRt) (hc39 mRm) (hc40 mTt) (hc41 mTi) (hc42 mPl) (hc43 mVr) (hc44 mVf) (hc45 mVc) (hc46 mAr) (hc47 mTc) (hc48 mFt) (hc49 mGo) dyn, 0, 0)) (h := (107, [(4, .int (mRt (r).toNatClampNeg)), (0, .ref 25), (1, .int r), (2, .int f), (3, .int h)], [], hq g c1 c2 c3 c4 c5 c6 c7 c8 c9 c10 c11 c12 c13 c14 c15 c16 c17 c18 c19 c20 c21 c22 c23 c24 (hc25 mTy mTm mMn mFn mRn mTn mVn mLr mTr mFl mFm mFp mSc mMp mEn) (hc26 mPa) (hc27 mTo) (hc28 mOt) (hc29 mNa) (hc30 mRe) (hc31 mMa) (hc32 mMy) (hc33 mPm) (hc34 mFy) (hc35 mFa) (hc36 mFr) (hc37 mFo) (hc38 mRt) (hc39 mRm) (hc40 mTt) (hc41 mTi) (hc42 mPl) (hc43 mVr) (hc44 mVf) (hc45 mVc) (hc46 mAr) (hc47 mTc) (hc48 mFt) (hc49 mGo) dyn, 0, 0)) rfl (fun h53 => ?_) (fun h53 => ?_)
          ·
            have h53 := qT_ne (cx := (h).toInt) (cy := 2) rfl (by decide) h53
            refine pm_go (g := (124, _, [.ref 25], _, 0, 0)) rfl ?_
            refine pm_go (g := (125, _, [.ref 25, .ref 25], _, 0, 0)) rfl ?_
            refine pm_go (g := (128, _, [.ref 37, .ref 25], _, 0, 0)) rfl ?_
            refine pm_go (g := (129, _, [.int r, .ref 37, .ref 25], _, 0, 0)) rfl ?_
            refine pm_sd (g := (130, _, [.int (mFo (r).toNatClampNeg), .ref 25], _, 0, 0)) rfl (pm_inI (by omega) (by omega)) ?_
            refine pm_go (g := (131, _, [.int 2, .int (mFo (r).toNatClampNeg), .ref 25], _, 0, 0)) rfl ?_
            refine pm_if2 (g := (144, [(4, .int (mRt (r).toNatClampNeg)), (0, .ref 25), (1, .int r), (2, .int f), (3, .int h)], [.ref 25], hq g c1 c2 c3 c4 c5 c6 c7 c8 c9 c10 c11 c12 c13 c14 c15 c16 c17 c18 c19 c20 c21 c22 c23 c24 (hc25 mTy mTm mMn mFn mRn mTn mVn mLr mTr mFl mFm mFp mSc mMp mEn) (hc26 mPa) (hc27 mTo) (hc28 mOt) (hc29 mNa) (hc30 mRe) (hc31 mMa) (hc32 mMy) (hc33 mPm) (hc34 mFy) (hc35 mFa) (hc36 mFr) (hc37 mFo) (hc38 mRt) (hc39 mRm) (hc40 mTt) (hc41 mTi) (hc42 mPl) (hc43 mVr) (hc44 mVf) (hc45 mVc) (hc46 mAr) (hc47 mTc) (hc48 mFt) (hc49 mGo) dyn, 0, 0)) (h := (134, [(4, .int (mRt (r).toNatClampNeg)), (0, .ref 25), (1, .int r), (2, .int f), (3, .int h)], [.ref 25], hq g c1 c2 c3 c4 c5 c6 c7 c8 c9 c10 c11 c12 c13 c14 c15 c16 c17 c18 c19 c20 c21 c22 c23 c24 (hc25 mTy mTm mMn mFn mRn mTn mVn mLr mTr mFl mFm mFp mSc mMp mEn) (hc26 mPa) (hc27 mTo) (hc28 mOt) (hc29 mNa) (hc30 mRe) (hc31 mMa) (hc32 mMy) (hc33 mPm) (hc34 mFy) (hc35 mFa) (hc36 mFr) (hc37 mFo) (hc38 mRt) (hc39 mRm) (hc40 mTt) (hc41 mTi) (hc42 mPl) (hc43 mVr) (hc44 mVf) (hc45 mVc) (hc46 mAr) (hc47 mTc) (hc48 mFt) (hc49 mGo) dyn, 0, 0)) rfl (fun h54 => ?_) (fun h54 => ?_)
            ·
              have h54 := qT_ne (cx := (mFo (r).toNatClampNeg).toInt) (cy := 2) rfl (by decide) h54
              refine pm_go (g := (146, _, [.int (mRt (r).toNatClampNeg), .ref 25], _, 0, 0)) rfl ?_
              refine pm_go (g := (147, _, [.ref 25, .int (mRt (r).toNatClampNeg), .ref 25], _, 0, 0)) rfl ?_
              refine pm_go (g := (150, _, [.ref 39, .int (mRt (r).toNatClampNeg), .ref 25], _, 0, 0)) rfl ?_
              refine pm_go (g := (151, _, [.int r, .ref 39, .int (mRt (r).toNatClampNeg), .ref 25], _, 0, 0)) rfl ?_
              refine pm_sd (g := (152, _, [.int (mRm (r).toNatClampNeg), .int (mRt (r).toNatClampNeg), .ref 25], _, 0, 0)) rfl (pm_inI (by omega) (by omega)) ?_
              refine pm_go (g := (153, _, [.int f, .int (mRm (r).toNatClampNeg), .int (mRt (r).toNatClampNeg), .ref 25], _, 0, 0)) rfl ?_
              refine pm_go (g := (154, _, [.int 0, .int f, .int (mRm (r).toNatClampNeg), .int (mRt (r).toNatClampNeg), .ref 25], _, 0, 0)) rfl ?_
              refine pm_callD (z := 150) (as := [.ref 25, .int (mRt (r).toNatClampNeg), .int (mRm (r).toNatClampNeg), .int f, .int 0]) (rest := []) rfl ?_
              have h55 : (0 : Int32).toInt = 0 := by decide
              refine w_X12_searched (mRt (r).toNatClampNeg) (mRm (r).toNatClampNeg) f 0 (by omega) (by omega) (by omega) (by assumption) (by assumption) (by assumption) (by omega) (fun v59_f9 v59_m9 v59_p9 v59_r9 h56 h57 h58 h59 => ?_)
              show pm_WP 165 (157, [(4, .int (mRt (r).toNatClampNeg)), (0, .ref 25), (1, .int r), (2, .int f), (3, .int h)], [.int v59_r9], _, 0, 0) _
              refine pm_ret rfl (k2 _ _ _ _ (by omega) ?_ ?_ (srM_n p8 h56) (by omega))
              · first | exact Or.inl (by omega) | exact Or.inr ⟨by assumption, Classical.byContradiction (fun q => absurd (h37.mpr q) (by omega))⟩
              · first | exact Or.inl ⟨by omega, h56⟩ | exact Or.inr (Or.inr (Or.inl ⟨by omega, by omega, h56⟩)) | exact Or.inr (Or.inr (Or.inr ⟨by omega, by omega, by omega, h56⟩))
            have h54 := qF_ne (cx := (mFo (r).toNatClampNeg).toInt) (cy := 2) rfl (by decide) h54
            refine pm_go (g := (135, _, [.ref 25, .ref 25], hq g c1 c2 c3 c4 c5 c6 c7 c8 c9 c10 c11 c12 c13 c14 c15 c16 c17 c18 c19 c20 c21 c22 c23 c24 (hc25 mTy mTm mMn mFn mRn mTn mVn mLr mTr mFl mFm mFp mSc mMp mEn) (hc26 mPa) (hc27 mTo) (hc28 mOt) (hc29 mNa) (hc30 mRe) (hc31 mMa) (hc32 mMy) (hc33 mPm) (hc34 mFy) (hc35 mFa) (hc36 mFr) (hc37 mFo) (hc38 mRt) (hc39 mRm) (hc40 mTt) (hc41 mTi) (hc42 mPl) (hc43 mVr) (hc44 mVf) (hc45 mVc) (hc46 mAr) (hc47 mTc) (hc48 mFt) (hc49 mGo) dyn, 0, 0)) rfl ?_
            refine pm_go (g := (138, _, [.ref 26, .ref 25], _, 0, 0)) rfl ?_
            refine pm_go (g := (140, _, [.int (mRt (r).toNatClampNeg), .ref 26, .ref 25], _, 0, 0)) rfl ?_
            refine pm_sd (g := (141, _, [.int (mPa (mRt (r).toNatClampNeg).toNatClampNeg), .ref 25], _, 0, 0)) rfl (pm_inI (by omega) (by omega)) ?_
            refine pm_go (g := (146, _, [.int (mPa (mRt (r).toNatClampNeg).toNatClampNeg), .ref 25], _, 0, 0)) rfl ?_
            refine pm_go (g := (147, _, [.ref 25, .int (mPa (mRt (r).toNatClampNeg).toNatClampNeg), .ref 25], _, 0, 0)) rfl ?_
            refine pm_go (g := (150, _, [.ref 39, .int (mPa (mRt (r).toNatClampNeg).toNatClampNeg), .ref 25], _, 0, 0)) rfl ?_
            refine pm_go (g := (151, _, [.int r, .ref 39, .int (mPa (mRt (r).toNatClampNeg).toNatClampNeg), .ref 25], _, 0, 0)) rfl ?_
            refine pm_sd (g := (152, _, [.int (mRm (r).toNatClampNeg), .int (mPa (mRt (r).toNatClampNeg).toNatClampNeg), .ref 25], _, 0, 0)) rfl (pm_inI (by omega) (by omega)) ?_
            refine pm_go (g := (153, _, [.int f, .int (mRm (r).toNatClampNeg), .int (mPa (mRt (r).toNatClampNeg).toNatClampNeg), .ref 25], _, 0, 0)) rfl ?_
            refine pm_go (g := (154, _, [.int 0, .int f, .int (mRm (r).toNatClampNeg), .int (mPa (mRt (r).toNatClampNeg).toNatClampNeg), .ref 25], _, 0, 0)) rfl ?_
            refine pm_callD (z := 150) (as := [.ref 25, .int (mPa (mRt (r).toNatClampNeg).toNatClampNeg), .int (mRm (r).toNatClampNeg), .int f, .int 0]) (rest := []) rfl ?_
            have h61 : (0 : Int32).toInt = 0 := by decide
            refine w_X12_searched (mPa (mRt (r).toNatClampNeg).toNatClampNeg) (mRm (r).toNatClampNeg) f 0 (by omega) (by omega) (by omega) (by assumption) (by assumption) (by assumption) (by omega) (fun v65_f9 v65_m9 v65_p9 v65_r9 h62 h63 h64 h65 => ?_)
            show pm_WP 165 (157, [(4, .int (mRt (r).toNatClampNeg)), (0, .ref 25), (1, .int r), (2, .int f), (3, .int h)], [.int v65_r9], _, 0, 0) _
            refine pm_ret rfl (k2 _ _ _ _ (by omega) ?_ ?_ (srM_n p8 h62) (by omega))
            · first | exact Or.inl (by omega) | exact Or.inr ⟨by assumption, Classical.byContradiction (fun q => absurd (h37.mpr q) (by omega))⟩
            · first | exact Or.inl ⟨by omega, h62⟩ | exact Or.inr (Or.inr (Or.inl ⟨by omega, by omega, h62⟩)) | exact Or.inr (Or.inr (Or.inr ⟨by omega, by omega, by omega, h62⟩))
          have h53 := qF_ne (cx := (h).toInt) (cy := 2) rfl (by decide) h53
          refine pm_go (g := (108, _, [.ref 25], hq g c1 c2 c3 c4 c5 c6 c7 c8 c9 c10 c11 c12 c13 c14 c15 c16 c17 c18 c19 c20 c21 c22 c23 c24 (hc25 mTy mTm mMn mFn mRn mTn mVn mLr mTr mFl mFm mFp mSc mMp mEn) (hc26 mPa) (hc27 mTo) (hc28 mOt) (hc29 mNa) (hc30 mRe) (hc31 mMa) (hc32 mMy) (hc33 mPm) (hc34 mFy) (hc35 mFa) (hc36 mFr) (hc37 mFo) (hc38 mRt) (hc39 mRm) (hc40 mTt) (hc41 mTi) (hc42 mPl) (hc43 mVr) (hc44 mVf) (hc45 mVc) (hc46 mAr) (hc47 mTc) (hc48 mFt) (hc49 mGo) dyn, 0, 0)) rfl ?_
          refine pm_go (g := (110, _, [.int (mRt (r).toNatClampNeg), .ref 25], _, 0, 0)) rfl ?_
          refine pm_go (g := (111, _, [.ref 25, .int (mRt (r).toNatClampNeg), .ref 25], _, 0, 0)) rfl ?_
          refine pm_go (g := (114, _, [.ref 39, .int (mRt (r).toNatClampNeg), .ref 25], _, 0, 0)) rfl ?_
          refine pm_go (g := (115, _, [.int r, .ref 39, .int (mRt (r).toNatClampNeg), .ref 25], _, 0, 0)) rfl ?_
          refine pm_sd (g := (116, _, [.int (mRm (r).toNatClampNeg), .int (mRt (r).toNatClampNeg), .ref 25], _, 0, 0)) rfl (pm_inI (by omega) (by omega)) ?_
          refine pm_go (g := (117, _, [.int f, .int (mRm (r).toNatClampNeg), .int (mRt (r).toNatClampNeg), .ref 25], _, 0, 0)) rfl ?_
          refine pm_callD (z := 152) (as := [.ref 25, .int (mRt (r).toNatClampNeg), .int (mRm (r).toNatClampNeg), .int f]) (rest := []) rfl ?_
          refine w_X12_secondSearched (mRt (r).toNatClampNeg) (mRm (r).toNatClampNeg) f (by omega) (by omega) (by assumption) (by assumption) (by assumption) (by omega) (fun v70_f9 v70_m9 v70_p9 v70_r9 h67 h68 h69 h70 => ?_)
          show pm_WP 165 (120, [(4, .int (mRt (r).toNatClampNeg)), (0, .ref 25), (1, .int r), (2, .int f), (3, .int h)], [.int v70_r9], _, 0, 0) _
          refine pm_go (g := (157, _, [.int v70_r9], _, 0, 0)) rfl ?_
          exact pm_ret rfl (k2 _ _ _ _ (by omega) (Or.inl (by omega)) (Or.inr (Or.inl ⟨by omega, by omega, h67⟩)) (s2M_n p8 h67) (by omega))
        have h52 := qF_ne (cx := (mFo (r).toNatClampNeg).toInt) (cy := 3) rfl (by decide) h52
        refine pm_go (g := (69, _, [.ref 25], hq g c1 c2 c3 c4 c5 c6 c7 c8 c9 c10 c11 c12 c13 c14 c15 c16 c17 c18 c19 c20 c21 c22 c23 c24 (hc25 mTy mTm mMn mFn mRn mTn mVn mLr mTr mFl mFm mFp mSc mMp mEn) (hc26 mPa) (hc27 mTo) (hc28 mOt) (hc29 mNa) (hc30 mRe) (hc31 mMa) (hc32 mMy) (hc33 mPm) (hc34 mFy) (hc35 mFa) (hc36 mFr) (hc37 mFo) (hc38 mRt) (hc39 mRm) (hc40 mTt) (hc41 mTi) (hc42 mPl) (hc43 mVr) (hc44 mVf) (hc45 mVc) (hc46 mAr) (hc47 mTc) (hc48 mFt) (hc49 mGo) dyn, 0, 0)) rfl ?_
        refine pm_go (g := (71, _, [.int (mRt (r).toNatClampNeg), .ref 25], _, 0, 0)) rfl ?_
        refine pm_callD (z := 145) (as := [.ref 25, .int (mRt (r).toNatClampNeg)]) (rest := []) rfl ?_
        refine w_X12_isOpen (mRt (r).toNatClampNeg) (by assumption) (by assumption) (by omega) (fun h72 => ?_) (fun h73 => ?_)
        ·
          show pm_WP 165 (74, [(4, .int (mRt (r).toNatClampNeg)), (0, .ref 25), (1, .int r), (2, .int f), (3, .int h)], [.int 1], _, 0, 0) _
          refine pm_brT (g := (86, [(4, .int (mRt (r).toNatClampNeg)), (0, .ref 25), (1, .int r), (2, .int f), (3, .int h)], [], hq g c1 c2 c3 c4 c5 c6 c7 c8 c9 c10 c11 c12 c13 c14 c15 c16 c17 c18 c19 c20 c21 c22 c23 c24 (hc25 mTy mTm mMn mFn mRn mTn mVn mLr mTr mFl mFm mFp mSc mMp mEn) (hc26 mPa) (hc27 mTo) (hc28 mOt) (hc29 mNa) (hc30 mRe) (hc31 mMa) (hc32 mMy) (hc33 mPm) (hc34 mFy) (hc35 mFa) (hc36 mFr) (hc37 mFo) (hc38 mRt) (hc39 mRm) (hc40 mTt) (hc41 mTi) (hc42 mPl) (hc43 mVr) (hc44 mVf) (hc45 mVc) (hc46 mAr) (hc47 mTc) (hc48 mFt) (hc49 mGo) dyn, 0, 0)) rfl ?_
          refine pm_go (g := (88, _, [.int (-3)], _, 0, 0)) rfl ?_
          refine pm_go (g := (101, _, [.int (-3)], _, 0, 0)) rfl ?_
          exact pm_ret rfl (k1 (by omega) (by first | (left; assumption) | (right; exact h37.mp (by omega))))
        show pm_WP 165 (74, [(4, .int (mRt (r).toNatClampNeg)), (0, .ref 25), (1, .int r), (2, .int f), (3, .int h)], [.int 0], hq g c1 c2 c3 c4 c5 c6 c7 c8 c9 c10 c11 c12 c13 c14 c15 c16 c17 c18 c19 c20 c21 c22 c23 c24 (hc25 mTy mTm mMn mFn mRn mTn mVn mLr mTr mFl mFm mFp mSc mMp mEn) (hc26 mPa) (hc27 mTo) (hc28 mOt) (hc29 mNa) (hc30 mRe) (hc31 mMa) (hc32 mMy) (hc33 mPm) (hc34 mFy) (hc35 mFa) (hc36 mFr) (hc37 mFo) (hc38 mRt) (hc39 mRm) (hc40 mTt) (hc41 mTi) (hc42 mPl) (hc43 mVr) (hc44 mVf) (hc45 mVc) (hc46 mAr) (hc47 mTc) (hc48 mFt) (hc49 mGo) dyn, 0, 0) _
        refine pm_brF (h := (77, [(4, .int (mRt (r).toNatClampNeg)), (0, .ref 25), (1, .int r), (2, .int f), (3, .int h)], [], hq g c1 c2 c3 c4 c5 c6 c7 c8 c9 c10 c11 c12 c13 c14 c15 c16 c17 c18 c19 c20 c21 c22 c23 c24 (hc25 mTy mTm mMn mFn mRn mTn mVn mLr mTr mFl mFm mFp mSc mMp mEn) (hc26 mPa) (hc27 mTo) (hc28 mOt) (hc29 mNa) (hc30 mRe) (hc31 mMa) (hc32 mMy) (hc33 mPm) (hc34 mFy) (hc35 mFa) (hc36 mFr) (hc37 mFo) (hc38 mRt) (hc39 mRm) (hc40 mTt) (hc41 mTi) (hc42 mPl) (hc43 mVr) (hc44 mVf) (hc45 mVc) (hc46 mAr) (hc47 mTc) (hc48 mFt) (hc49 mGo) dyn, 0, 0)) rfl ?_
        refine pm_go (g := (78, _, [.ref 25], _, 0, 0)) rfl ?_
        refine pm_go (g := (80, _, [.int (mRt (r).toNatClampNeg), .ref 25], _, 0, 0)) rfl ?_
        refine pm_callD (z := 154) (as := [.ref 25, .int (mRt (r).toNatClampNeg)]) (rest := []) rfl ?_
        refine w_X12_makers (mRt (r).toNatClampNeg) (by omega) (fun v75_r9 h75 => ?_)
        show pm_WP 165 (83, [(4, .int (mRt (r).toNatClampNeg)), (0, .ref 25), (1, .int r), (2, .int f), (3, .int h)], [.int v75_r9], _, 0, 0) _
        refine pm_if2 (g := (91, [(4, .int (mRt (r).toNatClampNeg)), (0, .ref 25), (1, .int r), (2, .int f), (3, .int h)], [], hq g c1 c2 c3 c4 c5 c6 c7 c8 c9 c10 c11 c12 c13 c14 c15 c16 c17 c18 c19 c20 c21 c22 c23 c24 (hc25 mTy mTm mMn mFn mRn mTn mVn mLr mTr mFl mFm mFp mSc mMp mEn) (hc26 mPa) (hc27 mTo) (hc28 mOt) (hc29 mNa) (hc30 mRe) (hc31 mMa) (hc32 mMy) (hc33 mPm) (hc34 mFy) (hc35 mFa) (hc36 mFr) (hc37 mFo) (hc38 mRt) (hc39 mRm) (hc40 mTt) (hc41 mTi) (hc42 mPl) (hc43 mVr) (hc44 mVf) (hc45 mVc) (hc46 mAr) (hc47 mTc) (hc48 mFt) (hc49 mGo) dyn, 0, 0)) (h := (86, [(4, .int (mRt (r).toNatClampNeg)), (0, .ref 25), (1, .int r), (2, .int f), (3, .int h)], [], hq g c1 c2 c3 c4 c5 c6 c7 c8 c9 c10 c11 c12 c13 c14 c15 c16 c17 c18 c19 c20 c21 c22 c23 c24 (hc25 mTy mTm mMn mFn mRn mTn mVn mLr mTr mFl mFm mFp mSc mMp mEn) (hc26 mPa) (hc27 mTo) (hc28 mOt) (hc29 mNa) (hc30 mRe) (hc31 mMa) (hc32 mMy) (hc33 mPm) (hc34 mFy) (hc35 mFa) (hc36 mFr) (hc37 mFo) (hc38 mRt) (hc39 mRm) (hc40 mTt) (hc41 mTi) (hc42 mPl) (hc43 mVr) (hc44 mVf) (hc45 mVc) (hc46 mAr) (hc47 mTc) (hc48 mFt) (hc49 mGo) dyn, 0, 0)) rfl (fun h77 => ?_) (fun h77 => ?_)
        ·
          have h77 := qT_ne (cx := (v75_r9).toInt) (cy := 0) rfl (by decide) h77
          refine pm_go (g := (92, _, [.ref 25], _, 0, 0)) rfl ?_
          refine pm_go (g := (94, _, [.int (mRt (r).toNatClampNeg), .ref 25], _, 0, 0)) rfl ?_
          refine pm_go (g := (96, _, [.int 6, .int (mRt (r).toNatClampNeg), .ref 25], _, 0, 0)) rfl ?_
          refine pm_go (g := (97, _, [.int f, .int 6, .int (mRt (r).toNatClampNeg), .ref 25], _, 0, 0)) rfl ?_
          refine pm_go (g := (98, _, [.int 0, .int f, .int 6, .int (mRt (r).toNatClampNeg), .ref 25], _, 0, 0)) rfl ?_
          refine pm_callD (z := 150) (as := [.ref 25, .int (mRt (r).toNatClampNeg), .int 6, .int f, .int 0]) (rest := []) rfl ?_
          have h78 : (6 : Int32).toInt = 6 := by decide
          have h79 : (0 : Int32).toInt = 0 := by decide
          refine w_X12_searched (mRt (r).toNatClampNeg) 6 f 0 (by omega) (by omega) (by omega) (by assumption) (by assumption) (by assumption) (by omega) (fun v83_f9 v83_m9 v83_p9 v83_r9 h80 h81 h82 h83 => ?_)
          show pm_WP 165 (101, [(4, .int (mRt (r).toNatClampNeg)), (0, .ref 25), (1, .int r), (2, .int f), (3, .int h)], [.int v83_r9], _, 0, 0) _
          refine pm_ret rfl (k2 _ _ _ _ (by omega) ?_ ?_ (srM_n p8 h80) (by omega))
          · first | exact Or.inl (by omega) | exact Or.inr ⟨by assumption, Classical.byContradiction (fun q => absurd (h75.mpr q) (by omega))⟩
          · first | exact Or.inl ⟨by omega, h80⟩ | exact Or.inr (Or.inr (Or.inl ⟨by omega, by omega, h80⟩)) | exact Or.inr (Or.inr (Or.inr ⟨by omega, by omega, by omega, h80⟩))
        have h77 := qF_ne (cx := (v75_r9).toInt) (cy := 0) rfl (by decide) h77
        refine pm_go (g := (88, _, [.int (-3)], hq g c1 c2 c3 c4 c5 c6 c7 c8 c9 c10 c11 c12 c13 c14 c15 c16 c17 c18 c19 c20 c21 c22 c23 c24 (hc25 mTy mTm mMn mFn mRn mTn mVn mLr mTr mFl mFm mFp mSc mMp mEn) (hc26 mPa) (hc27 mTo) (hc28 mOt) (hc29 mNa) (hc30 mRe) (hc31 mMa) (hc32 mMy) (hc33 mPm) (hc34 mFy) (hc35 mFa) (hc36 mFr) (hc37 mFo) (hc38 mRt) (hc39 mRm) (hc40 mTt) (hc41 mTi) (hc42 mPl) (hc43 mVr) (hc44 mVf) (hc45 mVc) (hc46 mAr) (hc47 mTc) (hc48 mFt) (hc49 mGo) dyn, 0, 0)) rfl ?_
        refine pm_go (g := (101, _, [.int (-3)], _, 0, 0)) rfl ?_
        exact pm_ret rfl (k1 (by omega) (by first | (left; assumption) | (right; exact h75.mp (by omega))))
      show pm_WP 165 (45, [(0, .ref 25), (1, .int r), (2, .int f), (3, .int h)], [.int 0], hq g c1 c2 c3 c4 c5 c6 c7 c8 c9 c10 c11 c12 c13 c14 c15 c16 c17 c18 c19 c20 c21 c22 c23 c24 (hc25 mTy mTm mMn mFn mRn mTn mVn mLr mTr mFl mFm mFp mSc mMp mEn) (hc26 mPa) (hc27 mTo) (hc28 mOt) (hc29 mNa) (hc30 mRe) (hc31 mMa) (hc32 mMy) (hc33 mPm) (hc34 mFy) (hc35 mFa) (hc36 mFr) (hc37 mFo) (hc38 mRt) (hc39 mRm) (hc40 mTt) (hc41 mTi) (hc42 mPl) (hc43 mVr) (hc44 mVf) (hc45 mVc) (hc46 mAr) (hc47 mTc) (hc48 mFt) (hc49 mGo) dyn, 0, 0) _
      refine pm_brF (h := (48, [(0, .ref 25), (1, .int r), (2, .int f), (3, .int h)], [], hq g c1 c2 c3 c4 c5 c6 c7 c8 c9 c10 c11 c12 c13 c14 c15 c16 c17 c18 c19 c20 c21 c22 c23 c24 (hc25 mTy mTm mMn mFn mRn mTn mVn mLr mTr mFl mFm mFp mSc mMp mEn) (hc26 mPa) (hc27 mTo) (hc28 mOt) (hc29 mNa) (hc30 mRe) (hc31 mMa) (hc32 mMy) (hc33 mPm) (hc34 mFy) (hc35 mFa) (hc36 mFr) (hc37 mFo) (hc38 mRt) (hc39 mRm) (hc40 mTt) (hc41 mTi) (hc42 mPl) (hc43 mVr) (hc44 mVf) (hc45 mVc) (hc46 mAr) (hc47 mTc) (hc48 mFt) (hc49 mGo) dyn, 0, 0)) rfl ?_
      refine pm_go (g := (49, _, [.int (-1)], _, 0, 0)) rfl ?_
      exact pm_ret rfl (k0 (by omega))
    show pm_WP 165 (13, [(0, .ref 25), (1, .int r), (2, .int f), (3, .int h)], [.int 0], hq g c1 c2 c3 c4 c5 c6 c7 c8 c9 c10 c11 c12 c13 c14 c15 c16 c17 c18 c19 c20 c21 c22 c23 c24 (hc25 mTy mTm mMn mFn mRn mTn mVn mLr mTr mFl mFm mFp mSc mMp mEn) (hc26 mPa) (hc27 mTo) (hc28 mOt) (hc29 mNa) (hc30 mRe) (hc31 mMa) (hc32 mMy) (hc33 mPm) (hc34 mFy) (hc35 mFa) (hc36 mFr) (hc37 mFo) (hc38 mRt) (hc39 mRm) (hc40 mTt) (hc41 mTi) (hc42 mPl) (hc43 mVr) (hc44 mVf) (hc45 mVc) (hc46 mAr) (hc47 mTc) (hc48 mFt) (hc49 mGo) dyn, 0, 0) _
    refine pm_brT (g := (48, [(0, .ref 25), (1, .int r), (2, .int f), (3, .int h)], [], hq g c1 c2 c3 c4 c5 c6 c7 c8 c9 c10 c11 c12 c13 c14 c15 c16 c17 c18 c19 c20 c21 c22 c23 c24 (hc25 mTy mTm mMn mFn mRn mTn mVn mLr mTr mFl mFm mFp mSc mMp mEn) (hc26 mPa) (hc27 mTo) (hc28 mOt) (hc29 mNa) (hc30 mRe) (hc31 mMa) (hc32 mMy) (hc33 mPm) (hc34 mFy) (hc35 mFa) (hc36 mFr) (hc37 mFo) (hc38 mRt) (hc39 mRm) (hc40 mTt) (hc41 mTi) (hc42 mPl) (hc43 mVr) (hc44 mVf) (hc45 mVc) (hc46 mAr) (hc47 mTc) (hc48 mFt) (hc49 mGo) dyn, 0, 0)) rfl ?_
    refine pm_go (g := (49, _, [.int (-1)], _, 0, 0)) rfl ?_
    exact pm_ret rfl (k0 (by omega))
  show pm_WP 165 (5, [(0, .ref 25), (1, .int r), (2, .int f), (3, .int h)], [.int 0], hq g c1 c2 c3 c4 c5 c6 c7 c8 c9 c10 c11 c12 c13 c14 c15 c16 c17 c18 c19 c20 c21 c22 c23 c24 (hc25 mTy mTm mMn mFn mRn mTn mVn mLr mTr mFl mFm mFp mSc mMp mEn) (hc26 mPa) (hc27 mTo) (hc28 mOt) (hc29 mNa) (hc30 mRe) (hc31 mMa) (hc32 mMy) (hc33 mPm) (hc34 mFy) (hc35 mFa) (hc36 mFr) (hc37 mFo) (hc38 mRt) (hc39 mRm) (hc40 mTt) (hc41 mTi) (hc42 mPl) (hc43 mVr) (hc44 mVf) (hc45 mVc) (hc46 mAr) (hc47 mTc) (hc48 mFt) (hc49 mGo) dyn, 0, 0) _
  refine pm_brT (g := (48, [(0, .ref 25), (1, .int r), (2, .int f), (3, .int h)], [], hq g c1 c2 c3 c4 c5 c6 c7 c8 c9 c10 c11 c12 c13 c14 c15 c16 c17 c18 c19 c20 c21 c22 c23 c24 (hc25 mTy mTm mMn mFn mRn mTn mVn mLr mTr mFl mFm mFp mSc mMp mEn) (hc26 mPa) (hc27 mTo) (hc28 mOt) (hc29 mNa) (hc30 mRe) (hc31 mMa) (hc32 mMy) (hc33 mPm) (hc34 mFy) (hc35 mFa) (hc36 mFr) (hc37 mFo) (hc38 mRt) (hc39 mRm) (hc40 mTt) (hc41 mTi) (hc42 mPl) (hc43 mVr) (hc44 mVf) (hc45 mVc) (hc46 mAr) (hc47 mTc) (hc48 mFt) (hc49 mGo) dyn, 0, 0)) rfl ?_
  refine pm_go (g := (49, _, [.int (-1)], _, 0, 0)) rfl ?_
  exact pm_ret rfl (k0 (by omega))
set_option maxRecDepth 100000 in
set_option maxHeartbeats 4000000 in
theorem w_X12_search {g c1 c2 c3 c4 c5 c6 c7 c8 c9 c10 c11 c12 c13 c14 c15 c16 c17 c18 c19 c20 c21 c22 c23 c24 : pm_C} {dyn : pm_H} {mTy : Int32} {mPa : Nat → Int32} {mTo : Nat → Int32} {mTm : Int32} {mMn : Int32} {mOt : Nat → Int32} {mNa : Nat → Int32} {mRe : Nat → Int32} {mMa : Nat → Int32} {mMy : Nat → Int32} {mPm : Nat → Int32} {mFn : Int32} {mFy : Nat → Int32} {mFa : Nat → Int32} {mFr : Nat → Int32} {mRn : Int32} {mFo : Nat → Int32} {mRt : Nat → Int32} {mRm : Nat → Int32} {mTn : Int32} {mTt : Nat → Int32} {mTi : Nat → Int32} {mPl : Nat → Int32} {mVn : Int32} {mVr : Nat → Int32} {mVf : Nat → Int32} {mVc : Nat → Int32} {mAr : Nat → Int32} {mLr : Int32} {mTc : Nat → Int32} {mTr : Int32} {mFl : Int32} {mFt : Nat → Int32} {mFm : Int32} {mFp : Int32} {mSc : Int32} {mMp : Int32} {mEn : Int32} {mGo : Nat → Int32} {Q : pm_Q} (r : Int32) (f : Int32) (h : Int32) (p0 : 0 ≤ mRn.toInt ∧ mRn.toInt ≤ 30) (p1 : 0 ≤ mFn.toInt ∧ mFn.toInt ≤ 10) (p2 : 2 ≤ mTy.toInt ∧ mTy.toInt ≤ 10) (p3 : rfD mRn mTy mFo mRt) (p4 : fcD mFn mFy) (p5 : paD mPa) (p6 : myD mMy) (p7 : vrD mMa mMy) (p8 : 0 ≤ mMn.toInt ∧ mMn.toInt ≤ 40) (k0 : ¬ ((0 ≤ r.toInt ∧ r.toInt < mRn.toInt) ∧ (0 ≤ f.toInt ∧ f.toInt < mFn.toInt) ∧ (mFo r.toNatClampNeg).toInt ≠ 4 ∧ 1 ≤ h.toInt ∧ (h.toInt ≤ 1 ∨ (h.toInt ≤ 2 ∧ (mFo r.toNatClampNeg).toInt = 0))) → Q (some (.int (-1))) (hq g c1 c2 c3 c4 c5 c6 c7 c8 c9 c10 c11 c12 c13 c14 c15 c16 c17 c18 c19 c20 c21 c22 c23 c24 (hc25 mTy mTm mMn mFn mRn mTn mVn mLr mTr mFl mFm mFp mSc mMp mEn) (hc26 mPa) (hc27 mTo) (hc28 mOt) (hc29 mNa) (hc30 mRe) (hc31 mMa) (hc32 mMy) (hc33 mPm) (hc34 mFy) (hc35 mFa) (hc36 mFr) (hc37 mFo) (hc38 mRt) (hc39 mRm) (hc40 mTt) (hc41 mTi) (hc42 mPl) (hc43 mVr) (hc44 mVf) (hc45 mVc) (hc46 mAr) (hc47 mTc) (hc48 mFt) (hc49 mGo) dyn)) (k1 : (((0 ≤ r.toInt ∧ r.toInt < mRn.toInt) ∧ (0 ≤ f.toInt ∧ f.toInt < mFn.toInt) ∧ (mFo r.toNatClampNeg).toInt ≠ 4 ∧ 1 ≤ h.toInt ∧ (h.toInt ≤ 1 ∨ (h.toInt ≤ 2 ∧ (mFo r.toNatClampNeg).toInt = 0))) ∧ (mFo r.toNatClampNeg).toInt = 3) → ((opL mPa mOt mNa mMy mPm mMa mMn (mRt r.toNatClampNeg) 0 ∨ ¬ mkE mOt mNa mMn (mRt r.toNatClampNeg) 0)) → Q (some (.int (-3))) (hq g c1 c2 c3 c4 c5 c6 c7 c8 c9 c10 c11 c12 c13 c14 c15 c16 c17 c18 c19 c20 c21 c22 c23 c24 (hc25 mTy mTm mMn mFn mRn mTn mVn mLr mTr mFl mFm mFp mSc mMp mEn) (hc26 mPa) (hc27 mTo) (hc28 mOt) (hc29 mNa) (hc30 mRe) (hc31 mMa) (hc32 mMy) (hc33 mPm) (hc34 mFy) (hc35 mFa) (hc36 mFr) (hc37 mFo) (hc38 mRt) (hc39 mRm) (hc40 mTt) (hc41 mTi) (hc42 mPl) (hc43 mVr) (hc44 mVf) (hc45 mVc) (hc46 mAr) (hc47 mTc) (hc48 mFt) (hc49 mGo) dyn)) (k2 : ∀ (f9 : Nat → Int32), ∀ (m9 : Int32), ∀ (p9 : Int32), ∀ (r9 : Int32), (((0 ≤ r.toInt ∧ r.toInt < mRn.toInt) ∧ (0 ≤ f.toInt ∧ f.toInt < mFn.toInt) ∧ (mFo r.toNatClampNeg).toInt ≠ 4 ∧ 1 ≤ h.toInt ∧ (h.toInt ≤ 1 ∨ (h.toInt ≤ 2 ∧ (mFo r.toNatClampNeg).toInt = 0)))) → ((mFo r.toNatClampNeg).toInt ≠ 3 ∨ (¬ opL mPa mOt mNa mMy mPm mMa mMn (mRt r.toNatClampNeg) 0 ∧ mkE mOt mNa mMn (mRt r.toNatClampNeg) 0)) → (lkS mPa mOt mNa mMy mPm mMa mFa mFy mMn (mFo r.toNatClampNeg) (mRt r.toNatClampNeg) (mRm r.toNatClampNeg) f h p9 r9) → ((r9.toInt = -4 ∨ r9.toInt = -5 ∨ 0 ≤ r9.toInt)) → ((-5 ≤ r9.toInt ∧ r9.toInt < mMn.toInt) ∧ (0 ≤ p9.toInt ∧ p9.toInt ≤ 3)) → Q (some (.int r9)) (hq g c1 c2 c3 c4 c5 c6 c7 c8 c9 c10 c11 c12 c13 c14 c15 c16 c17 c18 c19 c20 c21 c22 c23 c24 (hc25 mTy mTm mMn mFn mRn mTn mVn mLr mTr mFl m9 p9 mSc mMp mEn) (hc26 mPa) (hc27 mTo) (hc28 mOt) (hc29 mNa) (hc30 mRe) (hc31 mMa) (hc32 mMy) (hc33 mPm) (hc34 mFy) (hc35 mFa) (hc36 mFr) (hc37 mFo) (hc38 mRt) (hc39 mRm) (hc40 mTt) (hc41 mTi) (hc42 mPl) (hc43 mVr) (hc44 mVf) (hc45 mVc) (hc46 mAr) (hc47 mTc) (hc48 f9) (hc49 mGo) dyn)) : pm_WP 166 (0, [(0, .ref 25), (1, .int r), (2, .int f), (3, .int h)], [], hq g c1 c2 c3 c4 c5 c6 c7 c8 c9 c10 c11 c12 c13 c14 c15 c16 c17 c18 c19 c20 c21 c22 c23 c24 (hc25 mTy mTm mMn mFn mRn mTn mVn mLr mTr mFl mFm mFp mSc mMp mEn) (hc26 mPa) (hc27 mTo) (hc28 mOt) (hc29 mNa) (hc30 mRe) (hc31 mMa) (hc32 mMy) (hc33 mPm) (hc34 mFy) (hc35 mFa) (hc36 mFr) (hc37 mFo) (hc38 mRt) (hc39 mRm) (hc40 mTt) (hc41 mTi) (hc42 mPl) (hc43 mVr) (hc44 mVf) (hc45 mVc) (hc46 mAr) (hc47 mTc) (hc48 mFt) (hc49 mGo) dyn, 0, 0) Q := by
  refine pm_go (g := (1, [(0, .ref 25), (1, .int r), (2, .int f), (3, .int h)], [.ref 25], hq g c1 c2 c3 c4 c5 c6 c7 c8 c9 c10 c11 c12 c13 c14 c15 c16 c17 c18 c19 c20 c21 c22 c23 c24 (hc25 mTy mTm mMn mFn mRn mTn mVn mLr mTr mFl mFm mFp mSc mMp mEn) (hc26 mPa) (hc27 mTo) (hc28 mOt) (hc29 mNa) (hc30 mRe) (hc31 mMa) (hc32 mMy) (hc33 mPm) (hc34 mFy) (hc35 mFa) (hc36 mFr) (hc37 mFo) (hc38 mRt) (hc39 mRm) (hc40 mTt) (hc41 mTi) (hc42 mPl) (hc43 mVr) (hc44 mVf) (hc45 mVc) (hc46 mAr) (hc47 mTc) (hc48 mFt) (hc49 mGo) dyn, 0, 0)) rfl ?_
  refine pm_go (g := (2, _, [.int r, .ref 25], _, 0, 0)) rfl ?_
  refine pm_go (g := (3, _, [.int f, .int r, .ref 25], _, 0, 0)) rfl ?_
  refine pm_go (g := (4, _, [.int h, .int f, .int r, .ref 25], _, 0, 0)) rfl ?_
  refine pm_callD (z := 165) (as := [.ref 25, .int r, .int f, .int h]) (rest := []) rfl ?_
  refine w_X12_looked r f h (by omega) (by omega) (by omega) (by assumption) (by assumption) (by assumption) (by assumption) (by assumption) (by omega) (fun h1 => ?_) (fun h2 h3 => ?_) (fun v8_f9 v8_m9 v8_p9 v8_r9 h4 h5 h6 h7 h8 => ?_)
  ·
    show pm_WP 166 (7, [(0, .ref 25), (1, .int r), (2, .int f), (3, .int h)], [.int (-1)], _, 0, 0) _
    first | exact pm_ret rfl (k0 (by assumption)) | exact pm_ret rfl (k1 (by assumption) (by assumption)) | exact pm_ret rfl (k2 _ _ _ _ (by assumption) (by assumption) (by assumption) (by assumption) (by assumption))
  ·
    show pm_WP 166 (7, [(0, .ref 25), (1, .int r), (2, .int f), (3, .int h)], [.int (-3)], _, 0, 0) _
    first | exact pm_ret rfl (k0 (by assumption)) | exact pm_ret rfl (k1 (by assumption) (by assumption)) | exact pm_ret rfl (k2 _ _ _ _ (by assumption) (by assumption) (by assumption) (by assumption) (by assumption))
  show pm_WP 166 (7, [(0, .ref 25), (1, .int r), (2, .int f), (3, .int h)], [.int v8_r9], _, 0, 0) _
  first | exact pm_ret rfl (k0 (by assumption)) | exact pm_ret rfl (k1 (by assumption) (by assumption)) | exact pm_ret rfl (k2 _ _ _ _ (by assumption) (by assumption) (by assumption) (by assumption) (by assumption))
set_option maxRecDepth 100000 in
set_option maxHeartbeats 4000000 in
theorem w_X12_phase {g c1 c2 c3 c4 c5 c6 c7 c8 c9 c10 c11 c12 c13 c14 c15 c16 c17 c18 c19 c20 c21 c22 c23 c24 : pm_C} {dyn : pm_H} {mTy : Int32} {mPa : Nat → Int32} {mTo : Nat → Int32} {mTm : Int32} {mMn : Int32} {mOt : Nat → Int32} {mNa : Nat → Int32} {mRe : Nat → Int32} {mMa : Nat → Int32} {mMy : Nat → Int32} {mPm : Nat → Int32} {mFn : Int32} {mFy : Nat → Int32} {mFa : Nat → Int32} {mFr : Nat → Int32} {mRn : Int32} {mFo : Nat → Int32} {mRt : Nat → Int32} {mRm : Nat → Int32} {mTn : Int32} {mTt : Nat → Int32} {mTi : Nat → Int32} {mPl : Nat → Int32} {mVn : Int32} {mVr : Nat → Int32} {mVf : Nat → Int32} {mVc : Nat → Int32} {mAr : Nat → Int32} {mLr : Int32} {mTc : Nat → Int32} {mTr : Int32} {mFl : Int32} {mFt : Nat → Int32} {mFm : Int32} {mFp : Int32} {mSc : Int32} {mMp : Int32} {mEn : Int32} {mGo : Nat → Int32} {Q : pm_Q} (r : Int32) (f : Int32) (h : Int32) (p0 : 0 ≤ mRn.toInt ∧ mRn.toInt ≤ 30) (p1 : 0 ≤ mFn.toInt ∧ mFn.toInt ≤ 10) (p2 : 2 ≤ mTy.toInt ∧ mTy.toInt ≤ 10) (p3 : rfD mRn mTy mFo mRt) (p4 : fcD mFn mFy) (p5 : paD mPa) (p6 : myD mMy) (p7 : vrD mMa mMy) (p8 : 0 ≤ mMn.toInt ∧ mMn.toInt ≤ 40) (k0 : ¬ ((0 ≤ r.toInt ∧ r.toInt < mRn.toInt) ∧ (0 ≤ f.toInt ∧ f.toInt < mFn.toInt) ∧ (mFo r.toNatClampNeg).toInt ≠ 4 ∧ 1 ≤ h.toInt ∧ (h.toInt ≤ 1 ∨ (h.toInt ≤ 2 ∧ (mFo r.toNatClampNeg).toInt = 0))) → Q (some (.int (-1))) (hq g c1 c2 c3 c4 c5 c6 c7 c8 c9 c10 c11 c12 c13 c14 c15 c16 c17 c18 c19 c20 c21 c22 c23 c24 (hc25 mTy mTm mMn mFn mRn mTn mVn mLr mTr mFl mFm mFp mSc mMp mEn) (hc26 mPa) (hc27 mTo) (hc28 mOt) (hc29 mNa) (hc30 mRe) (hc31 mMa) (hc32 mMy) (hc33 mPm) (hc34 mFy) (hc35 mFa) (hc36 mFr) (hc37 mFo) (hc38 mRt) (hc39 mRm) (hc40 mTt) (hc41 mTi) (hc42 mPl) (hc43 mVr) (hc44 mVf) (hc45 mVc) (hc46 mAr) (hc47 mTc) (hc48 mFt) (hc49 mGo) dyn)) (k1 : (((0 ≤ r.toInt ∧ r.toInt < mRn.toInt) ∧ (0 ≤ f.toInt ∧ f.toInt < mFn.toInt) ∧ (mFo r.toNatClampNeg).toInt ≠ 4 ∧ 1 ≤ h.toInt ∧ (h.toInt ≤ 1 ∨ (h.toInt ≤ 2 ∧ (mFo r.toNatClampNeg).toInt = 0))) ∧ (mFo r.toNatClampNeg).toInt = 3) → ((opL mPa mOt mNa mMy mPm mMa mMn (mRt r.toNatClampNeg) 0 ∨ ¬ mkE mOt mNa mMn (mRt r.toNatClampNeg) 0)) → Q (some (.int (-3))) (hq g c1 c2 c3 c4 c5 c6 c7 c8 c9 c10 c11 c12 c13 c14 c15 c16 c17 c18 c19 c20 c21 c22 c23 c24 (hc25 mTy mTm mMn mFn mRn mTn mVn mLr mTr mFl mFm mFp mSc mMp mEn) (hc26 mPa) (hc27 mTo) (hc28 mOt) (hc29 mNa) (hc30 mRe) (hc31 mMa) (hc32 mMy) (hc33 mPm) (hc34 mFy) (hc35 mFa) (hc36 mFr) (hc37 mFo) (hc38 mRt) (hc39 mRm) (hc40 mTt) (hc41 mTi) (hc42 mPl) (hc43 mVr) (hc44 mVf) (hc45 mVc) (hc46 mAr) (hc47 mTc) (hc48 mFt) (hc49 mGo) dyn)) (k2 : ∀ (f9 : Nat → Int32), ∀ (m9 : Int32), ∀ (p9 : Int32), ∀ (r9 : Int32), (((0 ≤ r.toInt ∧ r.toInt < mRn.toInt) ∧ (0 ≤ f.toInt ∧ f.toInt < mFn.toInt) ∧ (mFo r.toNatClampNeg).toInt ≠ 4 ∧ 1 ≤ h.toInt ∧ (h.toInt ≤ 1 ∨ (h.toInt ≤ 2 ∧ (mFo r.toNatClampNeg).toInt = 0)))) → ((mFo r.toNatClampNeg).toInt ≠ 3 ∨ (¬ opL mPa mOt mNa mMy mPm mMa mMn (mRt r.toNatClampNeg) 0 ∧ mkE mOt mNa mMn (mRt r.toNatClampNeg) 0)) → (lkS mPa mOt mNa mMy mPm mMa mFa mFy mMn (mFo r.toNatClampNeg) (mRt r.toNatClampNeg) (mRm r.toNatClampNeg) f h p9 r9) → ((r9.toInt = -4 ∨ r9.toInt = -5 ∨ 0 ≤ r9.toInt)) → ((-5 ≤ r9.toInt ∧ r9.toInt < mMn.toInt) ∧ (0 ≤ p9.toInt ∧ p9.toInt ≤ 3)) → Q (some (.int p9)) (hq g c1 c2 c3 c4 c5 c6 c7 c8 c9 c10 c11 c12 c13 c14 c15 c16 c17 c18 c19 c20 c21 c22 c23 c24 (hc25 mTy mTm mMn mFn mRn mTn mVn mLr mTr mFl m9 p9 mSc mMp mEn) (hc26 mPa) (hc27 mTo) (hc28 mOt) (hc29 mNa) (hc30 mRe) (hc31 mMa) (hc32 mMy) (hc33 mPm) (hc34 mFy) (hc35 mFa) (hc36 mFr) (hc37 mFo) (hc38 mRt) (hc39 mRm) (hc40 mTt) (hc41 mTi) (hc42 mPl) (hc43 mVr) (hc44 mVf) (hc45 mVc) (hc46 mAr) (hc47 mTc) (hc48 f9) (hc49 mGo) dyn)) : pm_WP 167 (0, [(0, .ref 25), (1, .int r), (2, .int f), (3, .int h)], [], hq g c1 c2 c3 c4 c5 c6 c7 c8 c9 c10 c11 c12 c13 c14 c15 c16 c17 c18 c19 c20 c21 c22 c23 c24 (hc25 mTy mTm mMn mFn mRn mTn mVn mLr mTr mFl mFm mFp mSc mMp mEn) (hc26 mPa) (hc27 mTo) (hc28 mOt) (hc29 mNa) (hc30 mRe) (hc31 mMa) (hc32 mMy) (hc33 mPm) (hc34 mFy) (hc35 mFa) (hc36 mFr) (hc37 mFo) (hc38 mRt) (hc39 mRm) (hc40 mTt) (hc41 mTi) (hc42 mPl) (hc43 mVr) (hc44 mVf) (hc45 mVc) (hc46 mAr) (hc47 mTc) (hc48 mFt) (hc49 mGo) dyn, 0, 0) Q := by
  refine pm_go (g := (1, [(0, .ref 25), (1, .int r), (2, .int f), (3, .int h)], [.ref 25], hq g c1 c2 c3 c4 c5 c6 c7 c8 c9 c10 c11 c12 c13 c14 c15 c16 c17 c18 c19 c20 c21 c22 c23 c24 (hc25 mTy mTm mMn mFn mRn mTn mVn mLr mTr mFl mFm mFp mSc mMp mEn) (hc26 mPa) (hc27 mTo) (hc28 mOt) (hc29 mNa) (hc30 mRe) (hc31 mMa) (hc32 mMy) (hc33 mPm) (hc34 mFy) (hc35 mFa) (hc36 mFr) (hc37 mFo) (hc38 mRt) (hc39 mRm) (hc40 mTt) (hc41 mTi) (hc42 mPl) (hc43 mVr) (hc44 mVf) (hc45 mVc) (hc46 mAr) (hc47 mTc) (hc48 mFt) (hc49 mGo) dyn, 0, 0)) rfl ?_
  refine pm_go (g := (2, _, [.int r, .ref 25], _, 0, 0)) rfl ?_
  refine pm_go (g := (3, _, [.int f, .int r, .ref 25], _, 0, 0)) rfl ?_
  refine pm_go (g := (4, _, [.int h, .int f, .int r, .ref 25], _, 0, 0)) rfl ?_
  refine pm_callD (z := 165) (as := [.ref 25, .int r, .int f, .int h]) (rest := []) rfl ?_
  refine w_X12_looked r f h (by omega) (by omega) (by omega) (by assumption) (by assumption) (by assumption) (by assumption) (by assumption) (by omega) (fun h1 => ?_) (fun h2 h3 => ?_) (fun v8_f9 v8_m9 v8_p9 v8_r9 h4 h5 h6 h7 h8 => ?_)
  ·
    show pm_WP 167 (7, [(0, .ref 25), (1, .int r), (2, .int f), (3, .int h)], [.int (-1)], _, 0, 0) _
    refine pm_go (g := (9, [(4, .int (-1)), (0, .ref 25), (1, .int r), (2, .int f), (3, .int h)], [], _, 0, 0)) rfl ?_
    refine pm_go (g := (11, _, [.int (-1)], _, 0, 0)) rfl ?_
    refine pm_go (g := (12, _, [.int (-1), .int (-1)], _, 0, 0)) rfl ?_
    refine pm_brT (g := (22, [(4, .int (-1)), (0, .ref 25), (1, .int r), (2, .int f), (3, .int h)], [], hq g c1 c2 c3 c4 c5 c6 c7 c8 c9 c10 c11 c12 c13 c14 c15 c16 c17 c18 c19 c20 c21 c22 c23 c24 (hc25 mTy mTm mMn mFn mRn mTn mVn mLr mTr mFl mFm mFp mSc mMp mEn) (hc26 mPa) (hc27 mTo) (hc28 mOt) (hc29 mNa) (hc30 mRe) (hc31 mMa) (hc32 mMy) (hc33 mPm) (hc34 mFy) (hc35 mFa) (hc36 mFr) (hc37 mFo) (hc38 mRt) (hc39 mRm) (hc40 mTt) (hc41 mTi) (hc42 mPl) (hc43 mVr) (hc44 mVf) (hc45 mVc) (hc46 mAr) (hc47 mTc) (hc48 mFt) (hc49 mGo) dyn, 0, 0)) rfl ?_
    refine pm_go (g := (24, _, [.int (-1)], _, 0, 0)) rfl ?_
    refine pm_go (g := (31, _, [.int (-1)], _, 0, 0)) rfl ?_
    first | exact pm_ret rfl (k0 (by assumption)) | exact pm_ret rfl (k1 (by assumption) (by assumption)) | exact pm_ret rfl (k2 _ _ _ _ (by assumption) (by assumption) (by assumption) (by assumption) (by assumption)) | (exfalso; omega)
  ·
    show pm_WP 167 (7, [(0, .ref 25), (1, .int r), (2, .int f), (3, .int h)], [.int (-3)], hq g c1 c2 c3 c4 c5 c6 c7 c8 c9 c10 c11 c12 c13 c14 c15 c16 c17 c18 c19 c20 c21 c22 c23 c24 (hc25 mTy mTm mMn mFn mRn mTn mVn mLr mTr mFl mFm mFp mSc mMp mEn) (hc26 mPa) (hc27 mTo) (hc28 mOt) (hc29 mNa) (hc30 mRe) (hc31 mMa) (hc32 mMy) (hc33 mPm) (hc34 mFy) (hc35 mFa) (hc36 mFr) (hc37 mFo) (hc38 mRt) (hc39 mRm) (hc40 mTt) (hc41 mTi) (hc42 mPl) (hc43 mVr) (hc44 mVf) (hc45 mVc) (hc46 mAr) (hc47 mTc) (hc48 mFt) (hc49 mGo) dyn, 0, 0) _
    refine pm_go (g := (9, [(4, .int (-3)), (0, .ref 25), (1, .int r), (2, .int f), (3, .int h)], [], _, 0, 0)) rfl ?_
    refine pm_go (g := (11, _, [.int (-3)], _, 0, 0)) rfl ?_
    refine pm_go (g := (12, _, [.int (-1), .int (-3)], _, 0, 0)) rfl ?_
    refine pm_brF (h := (15, [(4, .int (-3)), (0, .ref 25), (1, .int r), (2, .int f), (3, .int h)], [], hq g c1 c2 c3 c4 c5 c6 c7 c8 c9 c10 c11 c12 c13 c14 c15 c16 c17 c18 c19 c20 c21 c22 c23 c24 (hc25 mTy mTm mMn mFn mRn mTn mVn mLr mTr mFl mFm mFp mSc mMp mEn) (hc26 mPa) (hc27 mTo) (hc28 mOt) (hc29 mNa) (hc30 mRe) (hc31 mMa) (hc32 mMy) (hc33 mPm) (hc34 mFy) (hc35 mFa) (hc36 mFr) (hc37 mFo) (hc38 mRt) (hc39 mRm) (hc40 mTt) (hc41 mTi) (hc42 mPl) (hc43 mVr) (hc44 mVf) (hc45 mVc) (hc46 mAr) (hc47 mTc) (hc48 mFt) (hc49 mGo) dyn, 0, 0)) rfl ?_
    refine pm_go (g := (17, _, [.int (-3)], _, 0, 0)) rfl ?_
    refine pm_go (g := (19, _, [.int (-3), .int (-3)], _, 0, 0)) rfl ?_
    refine pm_brF (h := (22, [(4, .int (-3)), (0, .ref 25), (1, .int r), (2, .int f), (3, .int h)], [], hq g c1 c2 c3 c4 c5 c6 c7 c8 c9 c10 c11 c12 c13 c14 c15 c16 c17 c18 c19 c20 c21 c22 c23 c24 (hc25 mTy mTm mMn mFn mRn mTn mVn mLr mTr mFl mFm mFp mSc mMp mEn) (hc26 mPa) (hc27 mTo) (hc28 mOt) (hc29 mNa) (hc30 mRe) (hc31 mMa) (hc32 mMy) (hc33 mPm) (hc34 mFy) (hc35 mFa) (hc36 mFr) (hc37 mFo) (hc38 mRt) (hc39 mRm) (hc40 mTt) (hc41 mTi) (hc42 mPl) (hc43 mVr) (hc44 mVf) (hc45 mVc) (hc46 mAr) (hc47 mTc) (hc48 mFt) (hc49 mGo) dyn, 0, 0)) rfl ?_
    refine pm_go (g := (24, _, [.int (-3)], _, 0, 0)) rfl ?_
    refine pm_go (g := (31, _, [.int (-3)], _, 0, 0)) rfl ?_
    first | exact pm_ret rfl (k0 (by assumption)) | exact pm_ret rfl (k1 (by assumption) (by assumption)) | exact pm_ret rfl (k2 _ _ _ _ (by assumption) (by assumption) (by assumption) (by assumption) (by assumption)) | (exfalso; omega)
  show pm_WP 167 (7, [(0, .ref 25), (1, .int r), (2, .int f), (3, .int h)], [.int v8_r9], hq g c1 c2 c3 c4 c5 c6 c7 c8 c9 c10 c11 c12 c13 c14 c15 c16 c17 c18 c19 c20 c21 c22 c23 c24 (hc25 mTy mTm mMn mFn mRn mTn mVn mLr mTr mFl v8_m9 v8_p9 mSc mMp mEn) (hc26 mPa) (hc27 mTo) (hc28 mOt) (hc29 mNa) (hc30 mRe) (hc31 mMa) (hc32 mMy) (hc33 mPm) (hc34 mFy) (hc35 mFa) (hc36 mFr) (hc37 mFo) (hc38 mRt) (hc39 mRm) (hc40 mTt) (hc41 mTi) (hc42 mPl) (hc43 mVr) (hc44 mVf) (hc45 mVc) (hc46 mAr) (hc47 mTc) (hc48 v8_f9) (hc49 mGo) dyn, 0, 0) _
  refine pm_go (g := (9, [(4, .int v8_r9), (0, .ref 25), (1, .int r), (2, .int f), (3, .int h)], [], _, 0, 0)) rfl ?_
  refine pm_go (g := (11, _, [.int v8_r9], _, 0, 0)) rfl ?_
  refine pm_go (g := (12, _, [.int (-1), .int v8_r9], _, 0, 0)) rfl ?_
  refine pm_if2 (g := (22, [(4, .int v8_r9), (0, .ref 25), (1, .int r), (2, .int f), (3, .int h)], [], hq g c1 c2 c3 c4 c5 c6 c7 c8 c9 c10 c11 c12 c13 c14 c15 c16 c17 c18 c19 c20 c21 c22 c23 c24 (hc25 mTy mTm mMn mFn mRn mTn mVn mLr mTr mFl v8_m9 v8_p9 mSc mMp mEn) (hc26 mPa) (hc27 mTo) (hc28 mOt) (hc29 mNa) (hc30 mRe) (hc31 mMa) (hc32 mMy) (hc33 mPm) (hc34 mFy) (hc35 mFa) (hc36 mFr) (hc37 mFo) (hc38 mRt) (hc39 mRm) (hc40 mTt) (hc41 mTi) (hc42 mPl) (hc43 mVr) (hc44 mVf) (hc45 mVc) (hc46 mAr) (hc47 mTc) (hc48 v8_f9) (hc49 mGo) dyn, 0, 0)) (h := (15, [(4, .int v8_r9), (0, .ref 25), (1, .int r), (2, .int f), (3, .int h)], [], hq g c1 c2 c3 c4 c5 c6 c7 c8 c9 c10 c11 c12 c13 c14 c15 c16 c17 c18 c19 c20 c21 c22 c23 c24 (hc25 mTy mTm mMn mFn mRn mTn mVn mLr mTr mFl v8_m9 v8_p9 mSc mMp mEn) (hc26 mPa) (hc27 mTo) (hc28 mOt) (hc29 mNa) (hc30 mRe) (hc31 mMa) (hc32 mMy) (hc33 mPm) (hc34 mFy) (hc35 mFa) (hc36 mFr) (hc37 mFo) (hc38 mRt) (hc39 mRm) (hc40 mTt) (hc41 mTi) (hc42 mPl) (hc43 mVr) (hc44 mVf) (hc45 mVc) (hc46 mAr) (hc47 mTc) (hc48 v8_f9) (hc49 mGo) dyn, 0, 0)) rfl (fun h10 => ?_) (fun h10 => ?_)
  ·
    have h10 := qT_eq (cx := (v8_r9).toInt) (cy := (-1)) rfl (by decide) h10
    refine pm_go (g := (24, _, [.int v8_r9], _, 0, 0)) rfl ?_
    refine pm_go (g := (31, _, [.int v8_r9], _, 0, 0)) rfl ?_
    first | exact pm_ret rfl (k0 (by assumption)) | exact pm_ret rfl (k1 (by assumption) (by assumption)) | exact pm_ret rfl (k2 _ _ _ _ (by assumption) (by assumption) (by assumption) (by assumption) (by assumption)) | (exfalso; omega)
  have h10 := qF_eq (cx := (v8_r9).toInt) (cy := (-1)) rfl (by decide) h10
  refine pm_go (g := (17, _, [.int v8_r9], _, 0, 0)) rfl ?_
  refine pm_go (g := (19, _, [.int (-3), .int v8_r9], _, 0, 0)) rfl ?_
  refine pm_if2 (g := (27, [(4, .int v8_r9), (0, .ref 25), (1, .int r), (2, .int f), (3, .int h)], [], hq g c1 c2 c3 c4 c5 c6 c7 c8 c9 c10 c11 c12 c13 c14 c15 c16 c17 c18 c19 c20 c21 c22 c23 c24 (hc25 mTy mTm mMn mFn mRn mTn mVn mLr mTr mFl v8_m9 v8_p9 mSc mMp mEn) (hc26 mPa) (hc27 mTo) (hc28 mOt) (hc29 mNa) (hc30 mRe) (hc31 mMa) (hc32 mMy) (hc33 mPm) (hc34 mFy) (hc35 mFa) (hc36 mFr) (hc37 mFo) (hc38 mRt) (hc39 mRm) (hc40 mTt) (hc41 mTi) (hc42 mPl) (hc43 mVr) (hc44 mVf) (hc45 mVc) (hc46 mAr) (hc47 mTc) (hc48 v8_f9) (hc49 mGo) dyn, 0, 0)) (h := (22, [(4, .int v8_r9), (0, .ref 25), (1, .int r), (2, .int f), (3, .int h)], [], hq g c1 c2 c3 c4 c5 c6 c7 c8 c9 c10 c11 c12 c13 c14 c15 c16 c17 c18 c19 c20 c21 c22 c23 c24 (hc25 mTy mTm mMn mFn mRn mTn mVn mLr mTr mFl v8_m9 v8_p9 mSc mMp mEn) (hc26 mPa) (hc27 mTo) (hc28 mOt) (hc29 mNa) (hc30 mRe) (hc31 mMa) (hc32 mMy) (hc33 mPm) (hc34 mFy) (hc35 mFa) (hc36 mFr) (hc37 mFo) (hc38 mRt) (hc39 mRm) (hc40 mTt) (hc41 mTi) (hc42 mPl) (hc43 mVr) (hc44 mVf) (hc45 mVc) (hc46 mAr) (hc47 mTc) (hc48 v8_f9) (hc49 mGo) dyn, 0, 0)) rfl (fun h11 => ?_) (fun h11 => ?_)
  ·
    have h11 := qT_ne (cx := (v8_r9).toInt) (cy := (-3)) rfl (by decide) h11
    refine pm_go (g := (28, _, [.ref 25], _, 0, 0)) rfl ?_
    refine pm_go (g := (31, _, [.int v8_p9], _, 0, 0)) rfl ?_
    first | exact pm_ret rfl (k0 (by assumption)) | exact pm_ret rfl (k1 (by assumption) (by assumption)) | exact pm_ret rfl (k2 _ _ _ _ (by assumption) (by assumption) (by assumption) (by assumption) (by assumption)) | (exfalso; omega)
  have h11 := qF_ne (cx := (v8_r9).toInt) (cy := (-3)) rfl (by decide) h11
  refine pm_go (g := (24, _, [.int v8_r9], _, 0, 0)) rfl ?_
  refine pm_go (g := (31, _, [.int v8_r9], _, 0, 0)) rfl ?_
  first | exact pm_ret rfl (k0 (by assumption)) | exact pm_ret rfl (k1 (by assumption) (by assumption)) | exact pm_ret rfl (k2 _ _ _ _ (by assumption) (by assumption) (by assumption) (by assumption) (by assumption)) | (exfalso; omega)
/-- the j-th member is named by the reference -/
def exJ (pa ot na my pm : Nat → Int32) (mn fo t w : Int32) (j : Nat) : Prop := (fo.toInt = 3 ∧ (ot (nI j).toNatClampNeg).toInt = t.toInt ∧ (na (nI j).toNatClampNeg).toInt = 6) ∨ (fo.toInt ≠ 3 ∧ (na (nI j).toNatClampNeg).toInt = w.toInt ∧ ((fo.toInt = 2 ∧ hadM pa ot na my pm mn (pa t.toNatClampNeg) (nI j)) ∨ (fo.toInt ≠ 2 ∧ hadM pa ot na my pm mn t (nI j))))
/-- the reference's exact -/
def exM (pa ot na my pm ma : Nat → Int32) (mn fo t w : Int32) : Prop := (∀ j : Nat, (j : Int) < mn.toInt → exJ pa ot na my pm mn fo t w j → (ma (nI j).toNatClampNeg &&& 4).toInt = 0) ∧ ((∃ b : Nat, (b : Int) < mn.toInt ∧ exJ pa ot na my pm mn fo t w b ∧ ∀ j : Nat, (j : Int) < mn.toInt → exJ pa ot na my pm mn fo t w j → j = b) ∨ (fo.toInt = 3 ∧ ∀ j : Nat, (j : Int) < mn.toInt → ¬ exJ pa ot na my pm mn fo t w j))
theorem bs_1 {sp : Nat → Prop} {c b mn : Int32} {k : Nat} (h : bsM sp c b k) (hk : (k : Int) = mn.toInt) (hc : c.toInt = 1) : ∃ b : Nat, (b : Int) < mn.toInt ∧ sp b ∧ ∀ j : Nat, (j : Int) < mn.toInt → sp j → j = b := by
  rcases h with ⟨h, h2⟩ | ⟨h, i, h2, h3, h4, h5⟩ | ⟨h, h2, i, j, h3, h4, h5⟩
  · omega
  · exact ⟨i, by omega, h4, fun j q => h5 j (by omega)⟩
  · omega
theorem bs_z {sp : Nat → Prop} {c b mn : Int32} {k : Nat} (h : bsM sp c b k) (hk : (k : Int) = mn.toInt) (hc : c.toInt = 0) : ∀ j : Nat, (j : Int) < mn.toInt → ¬ sp j := by
  rcases h with ⟨h, h2⟩ | ⟨h, i, h2, h3, h4, h5⟩ | ⟨h, h2, i, j, h3, h4, h5⟩
  · exact fun j q => h2 j (by omega)
  · omega
  · omega
theorem bs_n1 {sp : Nat → Prop} {c b mn : Int32} {k : Nat} (h : bsM sp c b k) (hk : (k : Int) = mn.toInt) (hc : c.toInt ≠ 1) : ¬ ∃ b : Nat, (b : Int) < mn.toInt ∧ sp b ∧ ∀ j : Nat, (j : Int) < mn.toInt → sp j → j = b := by
  rintro ⟨x, q1, q2, q3⟩
  rcases h with ⟨h, h2⟩ | ⟨h, i, h2, h3, h4, h5⟩ | ⟨h, h2, i, j, h3, h4, h5, h6, h7⟩
  · exact h2 x (by omega) q2
  · omega
  · exact h5 ((q3 i (by omega) h6).trans (q3 j (by omega) h7).symm)
theorem bs_nz {sp : Nat → Prop} {c b mn : Int32} {k : Nat} (h : bsM sp c b k) (hk : (k : Int) = mn.toInt) (hc : c.toInt ≠ 0) : ¬ ∀ j : Nat, (j : Int) < mn.toInt → ¬ sp j := by
  intro q
  rcases h with ⟨h, h2⟩ | ⟨h, i, h2, h3, h4, h5⟩ | ⟨h, h2, i, j, h3, h4, h5, h6, h7⟩
  · omega
  · exact q i (by omega) h4
  · exact q i (by omega) h6
set_option maxRecDepth 100000 in
set_option maxHeartbeats 4000000 in
theorem w_exact_loop1 {g c1 c2 c3 c4 c5 c6 c7 c8 c9 c10 c11 c12 c13 c14 c15 c16 c17 c18 c19 c20 c21 c22 c23 c24 : pm_C} {dyn : pm_H} {mTy : Int32} {mPa : Nat → Int32} {mTo : Nat → Int32} {mTm : Int32} {mMn : Int32} {mOt : Nat → Int32} {mNa : Nat → Int32} {mRe : Nat → Int32} {mMa : Nat → Int32} {mMy : Nat → Int32} {mPm : Nat → Int32} {mFn : Int32} {mFy : Nat → Int32} {mFa : Nat → Int32} {mFr : Nat → Int32} {mRn : Int32} {mFo : Nat → Int32} {mRt : Nat → Int32} {mRm : Nat → Int32} {mTn : Int32} {mTt : Nat → Int32} {mTi : Nat → Int32} {mPl : Nat → Int32} {mVn : Int32} {mVr : Nat → Int32} {mVf : Nat → Int32} {mVc : Nat → Int32} {mAr : Nat → Int32} {mLr : Int32} {mTc : Nat → Int32} {mTr : Int32} {mFl : Int32} {mFt : Nat → Int32} {mFm : Int32} {mFp : Int32} {mSc : Int32} {mMp : Int32} {mEn : Int32} {mGo : Nat → Int32} {Q : pm_Q} (r : Int32) (hr : 0 ≤ r.toInt ∧ r.toInt < 30) (ht : (mFo r.toNatClampNeg).toInt = 2 → 0 ≤ (mRt r.toNatClampNeg).toInt ∧ (mRt r.toNatClampNeg).toInt < 10) (hp : paD mPa) (hy : myD mMy) (hn : 0 ≤ mMn.toInt ∧ mMn.toInt ≤ 40) : ∀ (n k : Nat) (c : Int32), (k ≤ 40) → (40 < k + n) → (0 ≤ c.toInt ∧ c.toInt ≤ k) → (Q (some (.int 0)) (hq g c1 c2 c3 c4 c5 c6 c7 c8 c9 c10 c11 c12 c13 c14 c15 c16 c17 c18 c19 c20 c21 c22 c23 c24 (hc25 mTy mTm mMn mFn mRn mTn mVn mLr mTr mFl mFm mFp mSc mMp mEn) (hc26 mPa) (hc27 mTo) (hc28 mOt) (hc29 mNa) (hc30 mRe) (hc31 mMa) (hc32 mMy) (hc33 mPm) (hc34 mFy) (hc35 mFa) (hc36 mFr) (hc37 mFo) (hc38 mRt) (hc39 mRm) (hc40 mTt) (hc41 mTi) (hc42 mPl) (hc43 mVr) (hc44 mVf) (hc45 mVc) (hc46 mAr) (hc47 mTc) (hc48 mFt) (hc49 mGo) dyn)) → pm_WP 168 (37, [(5, .int (nI k)), (4, .int 1), (3, .int c), (2, .int (mRt r.toNatClampNeg)), (0, .ref 25), (1, .int r)], [], hq g c1 c2 c3 c4 c5 c6 c7 c8 c9 c10 c11 c12 c13 c14 c15 c16 c17 c18 c19 c20 c21 c22 c23 c24 (hc25 mTy mTm mMn mFn mRn mTn mVn mLr mTr mFl mFm mFp mSc mMp mEn) (hc26 mPa) (hc27 mTo) (hc28 mOt) (hc29 mNa) (hc30 mRe) (hc31 mMa) (hc32 mMy) (hc33 mPm) (hc34 mFy) (hc35 mFa) (hc36 mFr) (hc37 mFo) (hc38 mRt) (hc39 mRm) (hc40 mTt) (hc41 mTi) (hc42 mPl) (hc43 mVr) (hc44 mVf) (hc45 mVc) (hc46 mAr) (hc47 mTc) (hc48 mFt) (hc49 mGo) dyn, 0, 0) Q := by
  intro n
  induction n with
  | zero =>
    intro k c g1 g2 g3 k0
    exfalso; omega
  | succ n ih =>
    intro k c g1 g2 g3 k0
    have hk := nI_toInt (n := k) (by omega)
    have hkc : (nI k).toNatClampNeg = k := nI_clamp (by omega)
    refine pm_go (g := (39, [(5, .int (nI k)), (4, .int 1), (3, .int c), (2, .int (mRt r.toNatClampNeg)), (0, .ref 25), (1, .int r)], [.int (nI k)], hq g c1 c2 c3 c4 c5 c6 c7 c8 c9 c10 c11 c12 c13 c14 c15 c16 c17 c18 c19 c20 c21 c22 c23 c24 (hc25 mTy mTm mMn mFn mRn mTn mVn mLr mTr mFl mFm mFp mSc mMp mEn) (hc26 mPa) (hc27 mTo) (hc28 mOt) (hc29 mNa) (hc30 mRe) (hc31 mMa) (hc32 mMy) (hc33 mPm) (hc34 mFy) (hc35 mFa) (hc36 mFr) (hc37 mFo) (hc38 mRt) (hc39 mRm) (hc40 mTt) (hc41 mTi) (hc42 mPl) (hc43 mVr) (hc44 mVf) (hc45 mVc) (hc46 mAr) (hc47 mTc) (hc48 mFt) (hc49 mGo) dyn, 0, 0)) rfl ?_
    refine pm_go (g := (40, _, [.ref 25, .int (nI k)], _, 0, 0)) rfl ?_
    refine pm_go (g := (43, _, [.int mMn, .int (nI k)], _, 0, 0)) rfl ?_
    refine pm_if2 (g := (185, [(5, .int (nI k)), (4, .int 1), (3, .int c), (2, .int (mRt r.toNatClampNeg)), (0, .ref 25), (1, .int r)], [], hq g c1 c2 c3 c4 c5 c6 c7 c8 c9 c10 c11 c12 c13 c14 c15 c16 c17 c18 c19 c20 c21 c22 c23 c24 (hc25 mTy mTm mMn mFn mRn mTn mVn mLr mTr mFl mFm mFp mSc mMp mEn) (hc26 mPa) (hc27 mTo) (hc28 mOt) (hc29 mNa) (hc30 mRe) (hc31 mMa) (hc32 mMy) (hc33 mPm) (hc34 mFy) (hc35 mFa) (hc36 mFr) (hc37 mFo) (hc38 mRt) (hc39 mRm) (hc40 mTt) (hc41 mTi) (hc42 mPl) (hc43 mVr) (hc44 mVf) (hc45 mVc) (hc46 mAr) (hc47 mTc) (hc48 mFt) (hc49 mGo) dyn, 0, 0)) (h := (46, [(5, .int (nI k)), (4, .int 1), (3, .int c), (2, .int (mRt r.toNatClampNeg)), (0, .ref 25), (1, .int r)], [], hq g c1 c2 c3 c4 c5 c6 c7 c8 c9 c10 c11 c12 c13 c14 c15 c16 c17 c18 c19 c20 c21 c22 c23 c24 (hc25 mTy mTm mMn mFn mRn mTn mVn mLr mTr mFl mFm mFp mSc mMp mEn) (hc26 mPa) (hc27 mTo) (hc28 mOt) (hc29 mNa) (hc30 mRe) (hc31 mMa) (hc32 mMy) (hc33 mPm) (hc34 mFy) (hc35 mFa) (hc36 mFr) (hc37 mFo) (hc38 mRt) (hc39 mRm) (hc40 mTt) (hc41 mTi) (hc42 mPl) (hc43 mVr) (hc44 mVf) (hc45 mVc) (hc46 mAr) (hc47 mTc) (hc48 mFt) (hc49 mGo) dyn, 0, 0)) rfl (fun h1 => ?_) (fun h1 => ?_)
    ·
      have h1 := qT_ge (cx := (nI k).toInt) (cy := (mMn).toInt) rfl rfl h1
      refine pm_go (g := (187, _, [.int 1], _, 0, 0)) rfl ?_
      refine pm_brT (g := (213, [(5, .int (nI k)), (4, .int 1), (3, .int c), (2, .int (mRt r.toNatClampNeg)), (0, .ref 25), (1, .int r)], [], hq g c1 c2 c3 c4 c5 c6 c7 c8 c9 c10 c11 c12 c13 c14 c15 c16 c17 c18 c19 c20 c21 c22 c23 c24 (hc25 mTy mTm mMn mFn mRn mTn mVn mLr mTr mFl mFm mFp mSc mMp mEn) (hc26 mPa) (hc27 mTo) (hc28 mOt) (hc29 mNa) (hc30 mRe) (hc31 mMa) (hc32 mMy) (hc33 mPm) (hc34 mFy) (hc35 mFa) (hc36 mFr) (hc37 mFo) (hc38 mRt) (hc39 mRm) (hc40 mTt) (hc41 mTi) (hc42 mPl) (hc43 mVr) (hc44 mVf) (hc45 mVc) (hc46 mAr) (hc47 mTc) (hc48 mFt) (hc49 mGo) dyn, 0, 0)) rfl ?_
      refine pm_go (g := (214, _, [.int 0], _, 0, 0)) rfl ?_
      exact pm_ret rfl k0
    have h1 := qF_ge (cx := (nI k).toInt) (cy := (mMn).toInt) rfl rfl h1
    refine pm_go (g := (47, _, [.ref 25], _, 0, 0)) rfl ?_
    refine pm_go (g := (50, _, [.ref 37], _, 0, 0)) rfl ?_
    refine pm_go (g := (51, _, [.int r, .ref 37], _, 0, 0)) rfl ?_
    refine pm_sd (g := (52, _, [.int (mFo (r).toNatClampNeg)], _, 0, 0)) rfl (pm_inI (by omega) (by omega)) ?_
    refine pm_go (g := (53, _, [.int 3, .int (mFo (r).toNatClampNeg)], _, 0, 0)) rfl ?_
    refine pm_if2 (g := (87, [(5, .int (nI k)), (4, .int 1), (3, .int c), (2, .int (mRt r.toNatClampNeg)), (0, .ref 25), (1, .int r)], [], hq g c1 c2 c3 c4 c5 c6 c7 c8 c9 c10 c11 c12 c13 c14 c15 c16 c17 c18 c19 c20 c21 c22 c23 c24 (hc25 mTy mTm mMn mFn mRn mTn mVn mLr mTr mFl mFm mFp mSc mMp mEn) (hc26 mPa) (hc27 mTo) (hc28 mOt) (hc29 mNa) (hc30 mRe) (hc31 mMa) (hc32 mMy) (hc33 mPm) (hc34 mFy) (hc35 mFa) (hc36 mFr) (hc37 mFo) (hc38 mRt) (hc39 mRm) (hc40 mTt) (hc41 mTi) (hc42 mPl) (hc43 mVr) (hc44 mVf) (hc45 mVc) (hc46 mAr) (hc47 mTc) (hc48 mFt) (hc49 mGo) dyn, 0, 0)) (h := (56, [(5, .int (nI k)), (4, .int 1), (3, .int c), (2, .int (mRt r.toNatClampNeg)), (0, .ref 25), (1, .int r)], [], hq g c1 c2 c3 c4 c5 c6 c7 c8 c9 c10 c11 c12 c13 c14 c15 c16 c17 c18 c19 c20 c21 c22 c23 c24 (hc25 mTy mTm mMn mFn mRn mTn mVn mLr mTr mFl mFm mFp mSc mMp mEn) (hc26 mPa) (hc27 mTo) (hc28 mOt) (hc29 mNa) (hc30 mRe) (hc31 mMa) (hc32 mMy) (hc33 mPm) (hc34 mFy) (hc35 mFa) (hc36 mFr) (hc37 mFo) (hc38 mRt) (hc39 mRm) (hc40 mTt) (hc41 mTi) (hc42 mPl) (hc43 mVr) (hc44 mVf) (hc45 mVc) (hc46 mAr) (hc47 mTc) (hc48 mFt) (hc49 mGo) dyn, 0, 0)) rfl (fun h2 => ?_) (fun h2 => ?_)
    ·
      have h2 := qT_ne (cx := (mFo (r).toNatClampNeg).toInt) (cy := 3) rfl (by decide) h2
      refine pm_go (g := (88, _, [.ref 25], _, 0, 0)) rfl ?_
      refine pm_go (g := (91, _, [.ref 29], _, 0, 0)) rfl ?_
      refine pm_go (g := (93, _, [.int (nI k), .ref 29], _, 0, 0)) rfl ?_
      refine pm_sd (g := (94, _, [.int (mNa (nI k).toNatClampNeg)], _, 0, 0)) rfl (pm_inI (by omega) (by omega)) ?_
      refine pm_go (g := (95, _, [.ref 25, .int (mNa (nI k).toNatClampNeg)], _, 0, 0)) rfl ?_
      refine pm_go (g := (98, _, [.ref 39, .int (mNa (nI k).toNatClampNeg)], _, 0, 0)) rfl ?_
      refine pm_go (g := (99, _, [.int r, .ref 39, .int (mNa (nI k).toNatClampNeg)], _, 0, 0)) rfl ?_
      refine pm_sd (g := (100, _, [.int (mRm (r).toNatClampNeg), .int (mNa (nI k).toNatClampNeg)], _, 0, 0)) rfl (pm_inI (by omega) (by omega)) ?_
      refine pm_if2 (g := (136, [(5, .int (nI k)), (4, .int 1), (3, .int c), (2, .int (mRt r.toNatClampNeg)), (0, .ref 25), (1, .int r)], [], hq g c1 c2 c3 c4 c5 c6 c7 c8 c9 c10 c11 c12 c13 c14 c15 c16 c17 c18 c19 c20 c21 c22 c23 c24 (hc25 mTy mTm mMn mFn mRn mTn mVn mLr mTr mFl mFm mFp mSc mMp mEn) (hc26 mPa) (hc27 mTo) (hc28 mOt) (hc29 mNa) (hc30 mRe) (hc31 mMa) (hc32 mMy) (hc33 mPm) (hc34 mFy) (hc35 mFa) (hc36 mFr) (hc37 mFo) (hc38 mRt) (hc39 mRm) (hc40 mTt) (hc41 mTi) (hc42 mPl) (hc43 mVr) (hc44 mVf) (hc45 mVc) (hc46 mAr) (hc47 mTc) (hc48 mFt) (hc49 mGo) dyn, 0, 0)) (h := (103, [(5, .int (nI k)), (4, .int 1), (3, .int c), (2, .int (mRt r.toNatClampNeg)), (0, .ref 25), (1, .int r)], [], hq g c1 c2 c3 c4 c5 c6 c7 c8 c9 c10 c11 c12 c13 c14 c15 c16 c17 c18 c19 c20 c21 c22 c23 c24 (hc25 mTy mTm mMn mFn mRn mTn mVn mLr mTr mFl mFm mFp mSc mMp mEn) (hc26 mPa) (hc27 mTo) (hc28 mOt) (hc29 mNa) (hc30 mRe) (hc31 mMa) (hc32 mMy) (hc33 mPm) (hc34 mFy) (hc35 mFa) (hc36 mFr) (hc37 mFo) (hc38 mRt) (hc39 mRm) (hc40 mTt) (hc41 mTi) (hc42 mPl) (hc43 mVr) (hc44 mVf) (hc45 mVc) (hc46 mAr) (hc47 mTc) (hc48 mFt) (hc49 mGo) dyn, 0, 0)) rfl (fun h3 => ?_) (fun h3 => ?_)
      ·
        have h3 := qT_ne (cx := (mNa (nI k).toNatClampNeg).toInt) (cy := (mRm (r).toNatClampNeg).toInt) rfl rfl h3
        refine pm_go (g := (137, _, [.int 0], _, 0, 0)) rfl ?_
        refine pm_go (g := (139, [(6, .int 0), (5, .int (nI k)), (4, .int 1), (3, .int c), (2, .int (mRt r.toNatClampNeg)), (0, .ref 25), (1, .int r)], [], _, 0, 0)) rfl ?_
        refine pm_go (g := (140, _, [.int c], _, 0, 0)) rfl ?_
        refine pm_go (g := (142, _, [.int 0, .int c], _, 0, 0)) rfl ?_
        refine pm_brT (g := (149, [(6, .int 0), (5, .int (nI k)), (4, .int 1), (3, .int c), (2, .int (mRt r.toNatClampNeg)), (0, .ref 25), (1, .int r)], [.int c], hq g c1 c2 c3 c4 c5 c6 c7 c8 c9 c10 c11 c12 c13 c14 c15 c16 c17 c18 c19 c20 c21 c22 c23 c24 (hc25 mTy mTm mMn mFn mRn mTn mVn mLr mTr mFl mFm mFp mSc mMp mEn) (hc26 mPa) (hc27 mTo) (hc28 mOt) (hc29 mNa) (hc30 mRe) (hc31 mMa) (hc32 mMy) (hc33 mPm) (hc34 mFy) (hc35 mFa) (hc36 mFr) (hc37 mFo) (hc38 mRt) (hc39 mRm) (hc40 mTt) (hc41 mTi) (hc42 mPl) (hc43 mVr) (hc44 mVf) (hc45 mVc) (hc46 mAr) (hc47 mTc) (hc48 mFt) (hc49 mGo) dyn, 0, 0)) rfl ?_
        refine pm_go (g := (150, _, [.int 0, .int c], _, 0, 0)) rfl ?_
        refine pm_go (g := (151, _, [.int (c + 0)], _, 0, 0)) rfl ?_
        try have h4 : (c + 0).toInt = (c).toInt + 0 := iAdd (x := (c).toInt) (y := 0) rfl (by decide) (by omega) (by omega)
        refine pm_go (g := (152, [(3, .int (c + 0)), (6, .int 0), (5, .int (nI k)), (4, .int 1), (2, .int (mRt r.toNatClampNeg)), (0, .ref 25), (1, .int r)], [], _, 0, 0)) rfl ?_
        refine pm_go (g := (154, _, [.int 1], _, 0, 0)) rfl ?_
        refine pm_brT (g := (172, [(3, .int (c + 0)), (6, .int 0), (5, .int (nI k)), (4, .int 1), (2, .int (mRt r.toNatClampNeg)), (0, .ref 25), (1, .int r)], [], hq g c1 c2 c3 c4 c5 c6 c7 c8 c9 c10 c11 c12 c13 c14 c15 c16 c17 c18 c19 c20 c21 c22 c23 c24 (hc25 mTy mTm mMn mFn mRn mTn mVn mLr mTr mFl mFm mFp mSc mMp mEn) (hc26 mPa) (hc27 mTo) (hc28 mOt) (hc29 mNa) (hc30 mRe) (hc31 mMa) (hc32 mMy) (hc33 mPm) (hc34 mFy) (hc35 mFa) (hc36 mFr) (hc37 mFo) (hc38 mRt) (hc39 mRm) (hc40 mTt) (hc41 mTi) (hc42 mPl) (hc43 mVr) (hc44 mVf) (hc45 mVc) (hc46 mAr) (hc47 mTc) (hc48 mFt) (hc49 mGo) dyn, 0, 0)) rfl ?_
        refine pm_go (g := (173, _, [.int 1], _, 0, 0)) rfl ?_
        refine pm_go (g := (177, _, [.int 1], _, 0, 0)) rfl ?_
        refine pm_go (g := (179, [(4, .int 1), (3, .int (c + 0)), (6, .int 0), (5, .int (nI k)), (2, .int (mRt r.toNatClampNeg)), (0, .ref 25), (1, .int r)], [], _, 0, 0)) rfl ?_
        refine pm_go (g := (182, [(5, .int ((nI k) + 1)), (4, .int 1), (3, .int (c + 0)), (6, .int 0), (2, .int (mRt r.toNatClampNeg)), (0, .ref 25), (1, .int r)], [], _, 0, 0)) rfl ?_
        refine pm_go (g := (37, _, [], _, 0, 0)) rfl ?_
        refine pm_sub (lv := [(5, .int ((nI k) + 1)), (4, .int 1), (3, .int (c + 0)), (2, .int (mRt r.toNatClampNeg)), (0, .ref 25), (1, .int r)]) ?_ ⟨le_c (List.Mem.head _) (le_c (List.Mem.tail _ (List.Mem.head _)) (le_c (List.Mem.tail _ (List.Mem.tail _ (List.Mem.head _))) (le_c (List.Mem.tail _ (List.Mem.tail _ (List.Mem.tail _ (List.Mem.tail _ (List.Mem.head _))))) (le_c (List.Mem.tail _ (List.Mem.tail _ (List.Mem.tail _ (List.Mem.tail _ (List.Mem.tail _ (List.Mem.head _)))))) (le_c (List.Mem.tail _ (List.Mem.tail _ (List.Mem.tail _ (List.Mem.tail _ (List.Mem.tail _ (List.Mem.tail _ (List.Mem.head _))))))) le_n))))), (show ([5, 4, 3, 6, 2, 0, 1] : List Nat).Nodup by decide)⟩
        rw [nI_1]
        exact ih (k + 1) (c + 0) (by omega) (by omega) (by omega) k0
      have h3 := qF_ne (cx := (mNa (nI k).toNatClampNeg).toInt) (cy := (mRm (r).toNatClampNeg).toInt) rfl rfl h3
      refine pm_go (g := (104, [(5, .int (nI k)), (4, .int 1), (3, .int c), (2, .int (mRt r.toNatClampNeg)), (0, .ref 25), (1, .int r)], [.ref 25], _, 0, 0)) rfl ?_
      refine pm_go (g := (105, _, [.ref 25, .ref 25], _, 0, 0)) rfl ?_
      refine pm_go (g := (108, _, [.ref 37, .ref 25], _, 0, 0)) rfl ?_
      refine pm_go (g := (109, _, [.int r, .ref 37, .ref 25], _, 0, 0)) rfl ?_
      refine pm_sd (g := (110, _, [.int (mFo (r).toNatClampNeg), .ref 25], _, 0, 0)) rfl (pm_inI (by omega) (by omega)) ?_
      refine pm_go (g := (111, _, [.int 2, .int (mFo (r).toNatClampNeg), .ref 25], _, 0, 0)) rfl ?_
      refine pm_if2 (g := (123, [(5, .int (nI k)), (4, .int 1), (3, .int c), (2, .int (mRt r.toNatClampNeg)), (0, .ref 25), (1, .int r)], [.ref 25], hq g c1 c2 c3 c4 c5 c6 c7 c8 c9 c10 c11 c12 c13 c14 c15 c16 c17 c18 c19 c20 c21 c22 c23 c24 (hc25 mTy mTm mMn mFn mRn mTn mVn mLr mTr mFl mFm mFp mSc mMp mEn) (hc26 mPa) (hc27 mTo) (hc28 mOt) (hc29 mNa) (hc30 mRe) (hc31 mMa) (hc32 mMy) (hc33 mPm) (hc34 mFy) (hc35 mFa) (hc36 mFr) (hc37 mFo) (hc38 mRt) (hc39 mRm) (hc40 mTt) (hc41 mTi) (hc42 mPl) (hc43 mVr) (hc44 mVf) (hc45 mVc) (hc46 mAr) (hc47 mTc) (hc48 mFt) (hc49 mGo) dyn, 0, 0)) (h := (114, [(5, .int (nI k)), (4, .int 1), (3, .int c), (2, .int (mRt r.toNatClampNeg)), (0, .ref 25), (1, .int r)], [.ref 25], hq g c1 c2 c3 c4 c5 c6 c7 c8 c9 c10 c11 c12 c13 c14 c15 c16 c17 c18 c19 c20 c21 c22 c23 c24 (hc25 mTy mTm mMn mFn mRn mTn mVn mLr mTr mFl mFm mFp mSc mMp mEn) (hc26 mPa) (hc27 mTo) (hc28 mOt) (hc29 mNa) (hc30 mRe) (hc31 mMa) (hc32 mMy) (hc33 mPm) (hc34 mFy) (hc35 mFa) (hc36 mFr) (hc37 mFo) (hc38 mRt) (hc39 mRm) (hc40 mTt) (hc41 mTi) (hc42 mPl) (hc43 mVr) (hc44 mVf) (hc45 mVc) (hc46 mAr) (hc47 mTc) (hc48 mFt) (hc49 mGo) dyn, 0, 0)) rfl (fun h5 => ?_) (fun h5 => ?_)
      ·
        have h5 := qT_ne (cx := (mFo (r).toNatClampNeg).toInt) (cy := 2) rfl (by decide) h5
        refine pm_go (g := (124, _, [.int (mRt r.toNatClampNeg), .ref 25], _, 0, 0)) rfl ?_
        refine pm_go (g := (126, _, [.int (nI k), .int (mRt r.toNatClampNeg), .ref 25], _, 0, 0)) rfl ?_
        refine pm_callD (z := 143) (as := [.ref 25, .int (mRt r.toNatClampNeg), .int (nI k)]) (rest := []) rfl ?_
        refine w_X12_isHad (mRt r.toNatClampNeg) (nI k) (by omega) (by assumption) (by assumption) (by omega) (fun h6 => ?_) (fun h7 => ?_)
        ·
          show pm_WP 168 (129, [(5, .int (nI k)), (4, .int 1), (3, .int c), (2, .int (mRt r.toNatClampNeg)), (0, .ref 25), (1, .int r)], [.int 1], _, 0, 0) _
          refine pm_brF (h := (132, [(5, .int (nI k)), (4, .int 1), (3, .int c), (2, .int (mRt r.toNatClampNeg)), (0, .ref 25), (1, .int r)], [], hq g c1 c2 c3 c4 c5 c6 c7 c8 c9 c10 c11 c12 c13 c14 c15 c16 c17 c18 c19 c20 c21 c22 c23 c24 (hc25 mTy mTm mMn mFn mRn mTn mVn mLr mTr mFl mFm mFp mSc mMp mEn) (hc26 mPa) (hc27 mTo) (hc28 mOt) (hc29 mNa) (hc30 mRe) (hc31 mMa) (hc32 mMy) (hc33 mPm) (hc34 mFy) (hc35 mFa) (hc36 mFr) (hc37 mFo) (hc38 mRt) (hc39 mRm) (hc40 mTt) (hc41 mTi) (hc42 mPl) (hc43 mVr) (hc44 mVf) (hc45 mVc) (hc46 mAr) (hc47 mTc) (hc48 mFt) (hc49 mGo) dyn, 0, 0)) rfl ?_
          refine pm_go (g := (133, _, [.int 1], _, 0, 0)) rfl ?_
          refine pm_go (g := (137, _, [.int 1], _, 0, 0)) rfl ?_
          refine pm_go (g := (139, [(6, .int 1), (5, .int (nI k)), (4, .int 1), (3, .int c), (2, .int (mRt r.toNatClampNeg)), (0, .ref 25), (1, .int r)], [], _, 0, 0)) rfl ?_
          refine pm_go (g := (140, _, [.int c], _, 0, 0)) rfl ?_
          refine pm_go (g := (142, _, [.int 1, .int c], _, 0, 0)) rfl ?_
          refine pm_brF (h := (145, [(6, .int 1), (5, .int (nI k)), (4, .int 1), (3, .int c), (2, .int (mRt r.toNatClampNeg)), (0, .ref 25), (1, .int r)], [.int c], hq g c1 c2 c3 c4 c5 c6 c7 c8 c9 c10 c11 c12 c13 c14 c15 c16 c17 c18 c19 c20 c21 c22 c23 c24 (hc25 mTy mTm mMn mFn mRn mTn mVn mLr mTr mFl mFm mFp mSc mMp mEn) (hc26 mPa) (hc27 mTo) (hc28 mOt) (hc29 mNa) (hc30 mRe) (hc31 mMa) (hc32 mMy) (hc33 mPm) (hc34 mFy) (hc35 mFa) (hc36 mFr) (hc37 mFo) (hc38 mRt) (hc39 mRm) (hc40 mTt) (hc41 mTi) (hc42 mPl) (hc43 mVr) (hc44 mVf) (hc45 mVc) (hc46 mAr) (hc47 mTc) (hc48 mFt) (hc49 mGo) dyn, 0, 0)) rfl ?_
          refine pm_go (g := (146, _, [.int 1, .int c], _, 0, 0)) rfl ?_
          refine pm_go (g := (150, _, [.int 1, .int c], _, 0, 0)) rfl ?_
          refine pm_go (g := (151, _, [.int (c + 1)], _, 0, 0)) rfl ?_
          try have h9 : (c + 1).toInt = (c).toInt + 1 := iAdd (x := (c).toInt) (y := 1) rfl (by decide) (by omega) (by omega)
          refine pm_go (g := (152, [(3, .int (c + 1)), (6, .int 1), (5, .int (nI k)), (4, .int 1), (2, .int (mRt r.toNatClampNeg)), (0, .ref 25), (1, .int r)], [], _, 0, 0)) rfl ?_
          refine pm_go (g := (154, _, [.int 1], _, 0, 0)) rfl ?_
          refine pm_brT (g := (172, [(3, .int (c + 1)), (6, .int 1), (5, .int (nI k)), (4, .int 1), (2, .int (mRt r.toNatClampNeg)), (0, .ref 25), (1, .int r)], [], hq g c1 c2 c3 c4 c5 c6 c7 c8 c9 c10 c11 c12 c13 c14 c15 c16 c17 c18 c19 c20 c21 c22 c23 c24 (hc25 mTy mTm mMn mFn mRn mTn mVn mLr mTr mFl mFm mFp mSc mMp mEn) (hc26 mPa) (hc27 mTo) (hc28 mOt) (hc29 mNa) (hc30 mRe) (hc31 mMa) (hc32 mMy) (hc33 mPm) (hc34 mFy) (hc35 mFa) (hc36 mFr) (hc37 mFo) (hc38 mRt) (hc39 mRm) (hc40 mTt) (hc41 mTi) (hc42 mPl) (hc43 mVr) (hc44 mVf) (hc45 mVc) (hc46 mAr) (hc47 mTc) (hc48 mFt) (hc49 mGo) dyn, 0, 0)) rfl ?_
          refine pm_go (g := (173, _, [.int 1], _, 0, 0)) rfl ?_
          refine pm_go (g := (177, _, [.int 1], _, 0, 0)) rfl ?_
          refine pm_go (g := (179, [(4, .int 1), (3, .int (c + 1)), (6, .int 1), (5, .int (nI k)), (2, .int (mRt r.toNatClampNeg)), (0, .ref 25), (1, .int r)], [], _, 0, 0)) rfl ?_
          refine pm_go (g := (182, [(5, .int ((nI k) + 1)), (4, .int 1), (3, .int (c + 1)), (6, .int 1), (2, .int (mRt r.toNatClampNeg)), (0, .ref 25), (1, .int r)], [], _, 0, 0)) rfl ?_
          refine pm_go (g := (37, _, [], _, 0, 0)) rfl ?_
          refine pm_sub (lv := [(5, .int ((nI k) + 1)), (4, .int 1), (3, .int (c + 1)), (2, .int (mRt r.toNatClampNeg)), (0, .ref 25), (1, .int r)]) ?_ ⟨le_c (List.Mem.head _) (le_c (List.Mem.tail _ (List.Mem.head _)) (le_c (List.Mem.tail _ (List.Mem.tail _ (List.Mem.head _))) (le_c (List.Mem.tail _ (List.Mem.tail _ (List.Mem.tail _ (List.Mem.tail _ (List.Mem.head _))))) (le_c (List.Mem.tail _ (List.Mem.tail _ (List.Mem.tail _ (List.Mem.tail _ (List.Mem.tail _ (List.Mem.head _)))))) (le_c (List.Mem.tail _ (List.Mem.tail _ (List.Mem.tail _ (List.Mem.tail _ (List.Mem.tail _ (List.Mem.tail _ (List.Mem.head _))))))) le_n))))), (show ([5, 4, 3, 6, 2, 0, 1] : List Nat).Nodup by decide)⟩
          rw [nI_1]
          exact ih (k + 1) (c + 1) (by omega) (by omega) (by omega) k0
        show pm_WP 168 (129, [(5, .int (nI k)), (4, .int 1), (3, .int c), (2, .int (mRt r.toNatClampNeg)), (0, .ref 25), (1, .int r)], [.int 0], hq g c1 c2 c3 c4 c5 c6 c7 c8 c9 c10 c11 c12 c13 c14 c15 c16 c17 c18 c19 c20 c21 c22 c23 c24 (hc25 mTy mTm mMn mFn mRn mTn mVn mLr mTr mFl mFm mFp mSc mMp mEn) (hc26 mPa) (hc27 mTo) (hc28 mOt) (hc29 mNa) (hc30 mRe) (hc31 mMa) (hc32 mMy) (hc33 mPm) (hc34 mFy) (hc35 mFa) (hc36 mFr) (hc37 mFo) (hc38 mRt) (hc39 mRm) (hc40 mTt) (hc41 mTi) (hc42 mPl) (hc43 mVr) (hc44 mVf) (hc45 mVc) (hc46 mAr) (hc47 mTc) (hc48 mFt) (hc49 mGo) dyn, 0, 0) _
        refine pm_brT (g := (136, [(5, .int (nI k)), (4, .int 1), (3, .int c), (2, .int (mRt r.toNatClampNeg)), (0, .ref 25), (1, .int r)], [], hq g c1 c2 c3 c4 c5 c6 c7 c8 c9 c10 c11 c12 c13 c14 c15 c16 c17 c18 c19 c20 c21 c22 c23 c24 (hc25 mTy mTm mMn mFn mRn mTn mVn mLr mTr mFl mFm mFp mSc mMp mEn) (hc26 mPa) (hc27 mTo) (hc28 mOt) (hc29 mNa) (hc30 mRe) (hc31 mMa) (hc32 mMy) (hc33 mPm) (hc34 mFy) (hc35 mFa) (hc36 mFr) (hc37 mFo) (hc38 mRt) (hc39 mRm) (hc40 mTt) (hc41 mTi) (hc42 mPl) (hc43 mVr) (hc44 mVf) (hc45 mVc) (hc46 mAr) (hc47 mTc) (hc48 mFt) (hc49 mGo) dyn, 0, 0)) rfl ?_
        refine pm_go (g := (137, _, [.int 0], _, 0, 0)) rfl ?_
        refine pm_go (g := (139, [(6, .int 0), (5, .int (nI k)), (4, .int 1), (3, .int c), (2, .int (mRt r.toNatClampNeg)), (0, .ref 25), (1, .int r)], [], _, 0, 0)) rfl ?_
        refine pm_go (g := (140, _, [.int c], _, 0, 0)) rfl ?_
        refine pm_go (g := (142, _, [.int 0, .int c], _, 0, 0)) rfl ?_
        refine pm_brT (g := (149, [(6, .int 0), (5, .int (nI k)), (4, .int 1), (3, .int c), (2, .int (mRt r.toNatClampNeg)), (0, .ref 25), (1, .int r)], [.int c], hq g c1 c2 c3 c4 c5 c6 c7 c8 c9 c10 c11 c12 c13 c14 c15 c16 c17 c18 c19 c20 c21 c22 c23 c24 (hc25 mTy mTm mMn mFn mRn mTn mVn mLr mTr mFl mFm mFp mSc mMp mEn) (hc26 mPa) (hc27 mTo) (hc28 mOt) (hc29 mNa) (hc30 mRe) (hc31 mMa) (hc32 mMy) (hc33 mPm) (hc34 mFy) (hc35 mFa) (hc36 mFr) (hc37 mFo) (hc38 mRt) (hc39 mRm) (hc40 mTt) (hc41 mTi) (hc42 mPl) (hc43 mVr) (hc44 mVf) (hc45 mVc) (hc46 mAr) (hc47 mTc) (hc48 mFt) (hc49 mGo) dyn, 0, 0)) rfl ?_
        refine pm_go (g := (150, _, [.int 0, .int c], _, 0, 0)) rfl ?_
        refine pm_go (g := (151, _, [.int (c + 0)], _, 0, 0)) rfl ?_
        try have h10 : (c + 0).toInt = (c).toInt + 0 := iAdd (x := (c).toInt) (y := 0) rfl (by decide) (by omega) (by omega)
        refine pm_go (g := (152, [(3, .int (c + 0)), (6, .int 0), (5, .int (nI k)), (4, .int 1), (2, .int (mRt r.toNatClampNeg)), (0, .ref 25), (1, .int r)], [], _, 0, 0)) rfl ?_
        refine pm_go (g := (154, _, [.int 1], _, 0, 0)) rfl ?_
        refine pm_brT (g := (172, [(3, .int (c + 0)), (6, .int 0), (5, .int (nI k)), (4, .int 1), (2, .int (mRt r.toNatClampNeg)), (0, .ref 25), (1, .int r)], [], hq g c1 c2 c3 c4 c5 c6 c7 c8 c9 c10 c11 c12 c13 c14 c15 c16 c17 c18 c19 c20 c21 c22 c23 c24 (hc25 mTy mTm mMn mFn mRn mTn mVn mLr mTr mFl mFm mFp mSc mMp mEn) (hc26 mPa) (hc27 mTo) (hc28 mOt) (hc29 mNa) (hc30 mRe) (hc31 mMa) (hc32 mMy) (hc33 mPm) (hc34 mFy) (hc35 mFa) (hc36 mFr) (hc37 mFo) (hc38 mRt) (hc39 mRm) (hc40 mTt) (hc41 mTi) (hc42 mPl) (hc43 mVr) (hc44 mVf) (hc45 mVc) (hc46 mAr) (hc47 mTc) (hc48 mFt) (hc49 mGo) dyn, 0, 0)) rfl ?_
        refine pm_go (g := (173, _, [.int 1], _, 0, 0)) rfl ?_
        refine pm_go (g := (177, _, [.int 1], _, 0, 0)) rfl ?_
        refine pm_go (g := (179, [(4, .int 1), (3, .int (c + 0)), (6, .int 0), (5, .int (nI k)), (2, .int (mRt r.toNatClampNeg)), (0, .ref 25), (1, .int r)], [], _, 0, 0)) rfl ?_
        refine pm_go (g := (182, [(5, .int ((nI k) + 1)), (4, .int 1), (3, .int (c + 0)), (6, .int 0), (2, .int (mRt r.toNatClampNeg)), (0, .ref 25), (1, .int r)], [], _, 0, 0)) rfl ?_
        refine pm_go (g := (37, _, [], _, 0, 0)) rfl ?_
        refine pm_sub (lv := [(5, .int ((nI k) + 1)), (4, .int 1), (3, .int (c + 0)), (2, .int (mRt r.toNatClampNeg)), (0, .ref 25), (1, .int r)]) ?_ ⟨le_c (List.Mem.head _) (le_c (List.Mem.tail _ (List.Mem.head _)) (le_c (List.Mem.tail _ (List.Mem.tail _ (List.Mem.head _))) (le_c (List.Mem.tail _ (List.Mem.tail _ (List.Mem.tail _ (List.Mem.tail _ (List.Mem.head _))))) (le_c (List.Mem.tail _ (List.Mem.tail _ (List.Mem.tail _ (List.Mem.tail _ (List.Mem.tail _ (List.Mem.head _)))))) (le_c (List.Mem.tail _ (List.Mem.tail _ (List.Mem.tail _ (List.Mem.tail _ (List.Mem.tail _ (List.Mem.tail _ (List.Mem.head _))))))) le_n))))), (show ([5, 4, 3, 6, 2, 0, 1] : List Nat).Nodup by decide)⟩
        rw [nI_1]
        exact ih (k + 1) (c + 0) (by omega) (by omega) (by omega) k0
      have h5 := qF_ne (cx := (mFo (r).toNatClampNeg).toInt) (cy := 2) rfl (by decide) h5
      refine pm_go (g := (115, [(5, .int (nI k)), (4, .int 1), (3, .int c), (2, .int (mRt r.toNatClampNeg)), (0, .ref 25), (1, .int r)], [.ref 25, .ref 25], _, 0, 0)) rfl ?_
      refine pm_go (g := (118, _, [.ref 26, .ref 25], _, 0, 0)) rfl ?_
      refine pm_go (g := (119, _, [.int (mRt r.toNatClampNeg), .ref 26, .ref 25], _, 0, 0)) rfl ?_
      refine pm_sd (g := (120, _, [.int (mPa (mRt r.toNatClampNeg).toNatClampNeg), .ref 25], _, 0, 0)) rfl (pm_inI (by omega) (by omega)) ?_
      refine pm_go (g := (124, _, [.int (mPa (mRt r.toNatClampNeg).toNatClampNeg), .ref 25], _, 0, 0)) rfl ?_
      refine pm_go (g := (126, _, [.int (nI k), .int (mPa (mRt r.toNatClampNeg).toNatClampNeg), .ref 25], _, 0, 0)) rfl ?_
      refine pm_callD (z := 143) (as := [.ref 25, .int (mPa (mRt r.toNatClampNeg).toNatClampNeg), .int (nI k)]) (rest := []) rfl ?_
      refine w_X12_isHad (mPa (mRt r.toNatClampNeg).toNatClampNeg) (nI k) (by omega) (by assumption) (by assumption) (by omega) (fun h11 => ?_) (fun h12 => ?_)
      ·
        show pm_WP 168 (129, [(5, .int (nI k)), (4, .int 1), (3, .int c), (2, .int (mRt r.toNatClampNeg)), (0, .ref 25), (1, .int r)], [.int 1], _, 0, 0) _
        refine pm_brF (h := (132, [(5, .int (nI k)), (4, .int 1), (3, .int c), (2, .int (mRt r.toNatClampNeg)), (0, .ref 25), (1, .int r)], [], hq g c1 c2 c3 c4 c5 c6 c7 c8 c9 c10 c11 c12 c13 c14 c15 c16 c17 c18 c19 c20 c21 c22 c23 c24 (hc25 mTy mTm mMn mFn mRn mTn mVn mLr mTr mFl mFm mFp mSc mMp mEn) (hc26 mPa) (hc27 mTo) (hc28 mOt) (hc29 mNa) (hc30 mRe) (hc31 mMa) (hc32 mMy) (hc33 mPm) (hc34 mFy) (hc35 mFa) (hc36 mFr) (hc37 mFo) (hc38 mRt) (hc39 mRm) (hc40 mTt) (hc41 mTi) (hc42 mPl) (hc43 mVr) (hc44 mVf) (hc45 mVc) (hc46 mAr) (hc47 mTc) (hc48 mFt) (hc49 mGo) dyn, 0, 0)) rfl ?_
        refine pm_go (g := (133, _, [.int 1], _, 0, 0)) rfl ?_
        refine pm_go (g := (137, _, [.int 1], _, 0, 0)) rfl ?_
        refine pm_go (g := (139, [(6, .int 1), (5, .int (nI k)), (4, .int 1), (3, .int c), (2, .int (mRt r.toNatClampNeg)), (0, .ref 25), (1, .int r)], [], _, 0, 0)) rfl ?_
        refine pm_go (g := (140, _, [.int c], _, 0, 0)) rfl ?_
        refine pm_go (g := (142, _, [.int 1, .int c], _, 0, 0)) rfl ?_
        refine pm_brF (h := (145, [(6, .int 1), (5, .int (nI k)), (4, .int 1), (3, .int c), (2, .int (mRt r.toNatClampNeg)), (0, .ref 25), (1, .int r)], [.int c], hq g c1 c2 c3 c4 c5 c6 c7 c8 c9 c10 c11 c12 c13 c14 c15 c16 c17 c18 c19 c20 c21 c22 c23 c24 (hc25 mTy mTm mMn mFn mRn mTn mVn mLr mTr mFl mFm mFp mSc mMp mEn) (hc26 mPa) (hc27 mTo) (hc28 mOt) (hc29 mNa) (hc30 mRe) (hc31 mMa) (hc32 mMy) (hc33 mPm) (hc34 mFy) (hc35 mFa) (hc36 mFr) (hc37 mFo) (hc38 mRt) (hc39 mRm) (hc40 mTt) (hc41 mTi) (hc42 mPl) (hc43 mVr) (hc44 mVf) (hc45 mVc) (hc46 mAr) (hc47 mTc) (hc48 mFt) (hc49 mGo) dyn, 0, 0)) rfl ?_
        refine pm_go (g := (146, _, [.int 1, .int c], _, 0, 0)) rfl ?_
        refine pm_go (g := (150, _, [.int 1, .int c], _, 0, 0)) rfl ?_
        refine pm_go (g := (151, _, [.int (c + 1)], _, 0, 0)) rfl ?_
        try have h14 : (c + 1).toInt = (c).toInt + 1 := iAdd (x := (c).toInt) (y := 1) rfl (by decide) (by omega) (by omega)
        refine pm_go (g := (152, [(3, .int (c + 1)), (6, .int 1), (5, .int (nI k)), (4, .int 1), (2, .int (mRt r.toNatClampNeg)), (0, .ref 25), (1, .int r)], [], _, 0, 0)) rfl ?_
        refine pm_go (g := (154, _, [.int 1], _, 0, 0)) rfl ?_
        refine pm_brT (g := (172, [(3, .int (c + 1)), (6, .int 1), (5, .int (nI k)), (4, .int 1), (2, .int (mRt r.toNatClampNeg)), (0, .ref 25), (1, .int r)], [], hq g c1 c2 c3 c4 c5 c6 c7 c8 c9 c10 c11 c12 c13 c14 c15 c16 c17 c18 c19 c20 c21 c22 c23 c24 (hc25 mTy mTm mMn mFn mRn mTn mVn mLr mTr mFl mFm mFp mSc mMp mEn) (hc26 mPa) (hc27 mTo) (hc28 mOt) (hc29 mNa) (hc30 mRe) (hc31 mMa) (hc32 mMy) (hc33 mPm) (hc34 mFy) (hc35 mFa) (hc36 mFr) (hc37 mFo) (hc38 mRt) (hc39 mRm) (hc40 mTt) (hc41 mTi) (hc42 mPl) (hc43 mVr) (hc44 mVf) (hc45 mVc) (hc46 mAr) (hc47 mTc) (hc48 mFt) (hc49 mGo) dyn, 0, 0)) rfl ?_
        refine pm_go (g := (173, _, [.int 1], _, 0, 0)) rfl ?_
        refine pm_go (g := (177, _, [.int 1], _, 0, 0)) rfl ?_
        refine pm_go (g := (179, [(4, .int 1), (3, .int (c + 1)), (6, .int 1), (5, .int (nI k)), (2, .int (mRt r.toNatClampNeg)), (0, .ref 25), (1, .int r)], [], _, 0, 0)) rfl ?_
        refine pm_go (g := (182, [(5, .int ((nI k) + 1)), (4, .int 1), (3, .int (c + 1)), (6, .int 1), (2, .int (mRt r.toNatClampNeg)), (0, .ref 25), (1, .int r)], [], _, 0, 0)) rfl ?_
        refine pm_go (g := (37, _, [], _, 0, 0)) rfl ?_
        refine pm_sub (lv := [(5, .int ((nI k) + 1)), (4, .int 1), (3, .int (c + 1)), (2, .int (mRt r.toNatClampNeg)), (0, .ref 25), (1, .int r)]) ?_ ⟨le_c (List.Mem.head _) (le_c (List.Mem.tail _ (List.Mem.head _)) (le_c (List.Mem.tail _ (List.Mem.tail _ (List.Mem.head _))) (le_c (List.Mem.tail _ (List.Mem.tail _ (List.Mem.tail _ (List.Mem.tail _ (List.Mem.head _))))) (le_c (List.Mem.tail _ (List.Mem.tail _ (List.Mem.tail _ (List.Mem.tail _ (List.Mem.tail _ (List.Mem.head _)))))) (le_c (List.Mem.tail _ (List.Mem.tail _ (List.Mem.tail _ (List.Mem.tail _ (List.Mem.tail _ (List.Mem.tail _ (List.Mem.head _))))))) le_n))))), (show ([5, 4, 3, 6, 2, 0, 1] : List Nat).Nodup by decide)⟩
        rw [nI_1]
        exact ih (k + 1) (c + 1) (by omega) (by omega) (by omega) k0
      show pm_WP 168 (129, [(5, .int (nI k)), (4, .int 1), (3, .int c), (2, .int (mRt r.toNatClampNeg)), (0, .ref 25), (1, .int r)], [.int 0], hq g c1 c2 c3 c4 c5 c6 c7 c8 c9 c10 c11 c12 c13 c14 c15 c16 c17 c18 c19 c20 c21 c22 c23 c24 (hc25 mTy mTm mMn mFn mRn mTn mVn mLr mTr mFl mFm mFp mSc mMp mEn) (hc26 mPa) (hc27 mTo) (hc28 mOt) (hc29 mNa) (hc30 mRe) (hc31 mMa) (hc32 mMy) (hc33 mPm) (hc34 mFy) (hc35 mFa) (hc36 mFr) (hc37 mFo) (hc38 mRt) (hc39 mRm) (hc40 mTt) (hc41 mTi) (hc42 mPl) (hc43 mVr) (hc44 mVf) (hc45 mVc) (hc46 mAr) (hc47 mTc) (hc48 mFt) (hc49 mGo) dyn, 0, 0) _
      refine pm_brT (g := (136, [(5, .int (nI k)), (4, .int 1), (3, .int c), (2, .int (mRt r.toNatClampNeg)), (0, .ref 25), (1, .int r)], [], hq g c1 c2 c3 c4 c5 c6 c7 c8 c9 c10 c11 c12 c13 c14 c15 c16 c17 c18 c19 c20 c21 c22 c23 c24 (hc25 mTy mTm mMn mFn mRn mTn mVn mLr mTr mFl mFm mFp mSc mMp mEn) (hc26 mPa) (hc27 mTo) (hc28 mOt) (hc29 mNa) (hc30 mRe) (hc31 mMa) (hc32 mMy) (hc33 mPm) (hc34 mFy) (hc35 mFa) (hc36 mFr) (hc37 mFo) (hc38 mRt) (hc39 mRm) (hc40 mTt) (hc41 mTi) (hc42 mPl) (hc43 mVr) (hc44 mVf) (hc45 mVc) (hc46 mAr) (hc47 mTc) (hc48 mFt) (hc49 mGo) dyn, 0, 0)) rfl ?_
      refine pm_go (g := (137, _, [.int 0], _, 0, 0)) rfl ?_
      refine pm_go (g := (139, [(6, .int 0), (5, .int (nI k)), (4, .int 1), (3, .int c), (2, .int (mRt r.toNatClampNeg)), (0, .ref 25), (1, .int r)], [], _, 0, 0)) rfl ?_
      refine pm_go (g := (140, _, [.int c], _, 0, 0)) rfl ?_
      refine pm_go (g := (142, _, [.int 0, .int c], _, 0, 0)) rfl ?_
      refine pm_brT (g := (149, [(6, .int 0), (5, .int (nI k)), (4, .int 1), (3, .int c), (2, .int (mRt r.toNatClampNeg)), (0, .ref 25), (1, .int r)], [.int c], hq g c1 c2 c3 c4 c5 c6 c7 c8 c9 c10 c11 c12 c13 c14 c15 c16 c17 c18 c19 c20 c21 c22 c23 c24 (hc25 mTy mTm mMn mFn mRn mTn mVn mLr mTr mFl mFm mFp mSc mMp mEn) (hc26 mPa) (hc27 mTo) (hc28 mOt) (hc29 mNa) (hc30 mRe) (hc31 mMa) (hc32 mMy) (hc33 mPm) (hc34 mFy) (hc35 mFa) (hc36 mFr) (hc37 mFo) (hc38 mRt) (hc39 mRm) (hc40 mTt) (hc41 mTi) (hc42 mPl) (hc43 mVr) (hc44 mVf) (hc45 mVc) (hc46 mAr) (hc47 mTc) (hc48 mFt) (hc49 mGo) dyn, 0, 0)) rfl ?_
      refine pm_go (g := (150, _, [.int 0, .int c], _, 0, 0)) rfl ?_
      refine pm_go (g := (151, _, [.int (c + 0)], _, 0, 0)) rfl ?_
      try have h15 : (c + 0).toInt = (c).toInt + 0 := iAdd (x := (c).toInt) (y := 0) rfl (by decide) (by omega) (by omega)
      refine pm_go (g := (152, [(3, .int (c + 0)), (6, .int 0), (5, .int (nI k)), (4, .int 1), (2, .int (mRt r.toNatClampNeg)), (0, .ref 25), (1, .int r)], [], _, 0, 0)) rfl ?_
      refine pm_go (g := (154, _, [.int 1], _, 0, 0)) rfl ?_
      refine pm_brT (g := (172, [(3, .int (c + 0)), (6, .int 0), (5, .int (nI k)), (4, .int 1), (2, .int (mRt r.toNatClampNeg)), (0, .ref 25), (1, .int r)], [], hq g c1 c2 c3 c4 c5 c6 c7 c8 c9 c10 c11 c12 c13 c14 c15 c16 c17 c18 c19 c20 c21 c22 c23 c24 (hc25 mTy mTm mMn mFn mRn mTn mVn mLr mTr mFl mFm mFp mSc mMp mEn) (hc26 mPa) (hc27 mTo) (hc28 mOt) (hc29 mNa) (hc30 mRe) (hc31 mMa) (hc32 mMy) (hc33 mPm) (hc34 mFy) (hc35 mFa) (hc36 mFr) (hc37 mFo) (hc38 mRt) (hc39 mRm) (hc40 mTt) (hc41 mTi) (hc42 mPl) (hc43 mVr) (hc44 mVf) (hc45 mVc) (hc46 mAr) (hc47 mTc) (hc48 mFt) (hc49 mGo) dyn, 0, 0)) rfl ?_
      refine pm_go (g := (173, _, [.int 1], _, 0, 0)) rfl ?_
      refine pm_go (g := (177, _, [.int 1], _, 0, 0)) rfl ?_
      refine pm_go (g := (179, [(4, .int 1), (3, .int (c + 0)), (6, .int 0), (5, .int (nI k)), (2, .int (mRt r.toNatClampNeg)), (0, .ref 25), (1, .int r)], [], _, 0, 0)) rfl ?_
      refine pm_go (g := (182, [(5, .int ((nI k) + 1)), (4, .int 1), (3, .int (c + 0)), (6, .int 0), (2, .int (mRt r.toNatClampNeg)), (0, .ref 25), (1, .int r)], [], _, 0, 0)) rfl ?_
      refine pm_go (g := (37, _, [], _, 0, 0)) rfl ?_
      refine pm_sub (lv := [(5, .int ((nI k) + 1)), (4, .int 1), (3, .int (c + 0)), (2, .int (mRt r.toNatClampNeg)), (0, .ref 25), (1, .int r)]) ?_ ⟨le_c (List.Mem.head _) (le_c (List.Mem.tail _ (List.Mem.head _)) (le_c (List.Mem.tail _ (List.Mem.tail _ (List.Mem.head _))) (le_c (List.Mem.tail _ (List.Mem.tail _ (List.Mem.tail _ (List.Mem.tail _ (List.Mem.head _))))) (le_c (List.Mem.tail _ (List.Mem.tail _ (List.Mem.tail _ (List.Mem.tail _ (List.Mem.tail _ (List.Mem.head _)))))) (le_c (List.Mem.tail _ (List.Mem.tail _ (List.Mem.tail _ (List.Mem.tail _ (List.Mem.tail _ (List.Mem.tail _ (List.Mem.head _))))))) le_n))))), (show ([5, 4, 3, 6, 2, 0, 1] : List Nat).Nodup by decide)⟩
      rw [nI_1]
      exact ih (k + 1) (c + 0) (by omega) (by omega) (by omega) k0
    have h2 := qF_ne (cx := (mFo (r).toNatClampNeg).toInt) (cy := 3) rfl (by decide) h2
    refine pm_go (g := (57, [(5, .int (nI k)), (4, .int 1), (3, .int c), (2, .int (mRt r.toNatClampNeg)), (0, .ref 25), (1, .int r)], [.ref 25], _, 0, 0)) rfl ?_
    refine pm_go (g := (60, _, [.ref 28], _, 0, 0)) rfl ?_
    refine pm_go (g := (62, _, [.int (nI k), .ref 28], _, 0, 0)) rfl ?_
    refine pm_sd (g := (63, _, [.int (mOt (nI k).toNatClampNeg)], _, 0, 0)) rfl (pm_inI (by omega) (by omega)) ?_
    refine pm_go (g := (64, _, [.int (mRt r.toNatClampNeg), .int (mOt (nI k).toNatClampNeg)], _, 0, 0)) rfl ?_
    refine pm_if2 (g := (83, [(5, .int (nI k)), (4, .int 1), (3, .int c), (2, .int (mRt r.toNatClampNeg)), (0, .ref 25), (1, .int r)], [], hq g c1 c2 c3 c4 c5 c6 c7 c8 c9 c10 c11 c12 c13 c14 c15 c16 c17 c18 c19 c20 c21 c22 c23 c24 (hc25 mTy mTm mMn mFn mRn mTn mVn mLr mTr mFl mFm mFp mSc mMp mEn) (hc26 mPa) (hc27 mTo) (hc28 mOt) (hc29 mNa) (hc30 mRe) (hc31 mMa) (hc32 mMy) (hc33 mPm) (hc34 mFy) (hc35 mFa) (hc36 mFr) (hc37 mFo) (hc38 mRt) (hc39 mRm) (hc40 mTt) (hc41 mTi) (hc42 mPl) (hc43 mVr) (hc44 mVf) (hc45 mVc) (hc46 mAr) (hc47 mTc) (hc48 mFt) (hc49 mGo) dyn, 0, 0)) (h := (67, [(5, .int (nI k)), (4, .int 1), (3, .int c), (2, .int (mRt r.toNatClampNeg)), (0, .ref 25), (1, .int r)], [], hq g c1 c2 c3 c4 c5 c6 c7 c8 c9 c10 c11 c12 c13 c14 c15 c16 c17 c18 c19 c20 c21 c22 c23 c24 (hc25 mTy mTm mMn mFn mRn mTn mVn mLr mTr mFl mFm mFp mSc mMp mEn) (hc26 mPa) (hc27 mTo) (hc28 mOt) (hc29 mNa) (hc30 mRe) (hc31 mMa) (hc32 mMy) (hc33 mPm) (hc34 mFy) (hc35 mFa) (hc36 mFr) (hc37 mFo) (hc38 mRt) (hc39 mRm) (hc40 mTt) (hc41 mTi) (hc42 mPl) (hc43 mVr) (hc44 mVf) (hc45 mVc) (hc46 mAr) (hc47 mTc) (hc48 mFt) (hc49 mGo) dyn, 0, 0)) rfl (fun h16 => ?_) (fun h16 => ?_)
    ·
      have h16 := qT_ne (cx := (mOt (nI k).toNatClampNeg).toInt) (cy := (mRt r.toNatClampNeg).toInt) rfl rfl h16
      refine pm_go (g := (84, _, [.int 0], _, 0, 0)) rfl ?_
      refine pm_go (g := (137, _, [.int 0], _, 0, 0)) rfl ?_
      refine pm_go (g := (139, [(6, .int 0), (5, .int (nI k)), (4, .int 1), (3, .int c), (2, .int (mRt r.toNatClampNeg)), (0, .ref 25), (1, .int r)], [], _, 0, 0)) rfl ?_
      refine pm_go (g := (140, _, [.int c], _, 0, 0)) rfl ?_
      refine pm_go (g := (142, _, [.int 0, .int c], _, 0, 0)) rfl ?_
      refine pm_brT (g := (149, [(6, .int 0), (5, .int (nI k)), (4, .int 1), (3, .int c), (2, .int (mRt r.toNatClampNeg)), (0, .ref 25), (1, .int r)], [.int c], hq g c1 c2 c3 c4 c5 c6 c7 c8 c9 c10 c11 c12 c13 c14 c15 c16 c17 c18 c19 c20 c21 c22 c23 c24 (hc25 mTy mTm mMn mFn mRn mTn mVn mLr mTr mFl mFm mFp mSc mMp mEn) (hc26 mPa) (hc27 mTo) (hc28 mOt) (hc29 mNa) (hc30 mRe) (hc31 mMa) (hc32 mMy) (hc33 mPm) (hc34 mFy) (hc35 mFa) (hc36 mFr) (hc37 mFo) (hc38 mRt) (hc39 mRm) (hc40 mTt) (hc41 mTi) (hc42 mPl) (hc43 mVr) (hc44 mVf) (hc45 mVc) (hc46 mAr) (hc47 mTc) (hc48 mFt) (hc49 mGo) dyn, 0, 0)) rfl ?_
      refine pm_go (g := (150, _, [.int 0, .int c], _, 0, 0)) rfl ?_
      refine pm_go (g := (151, _, [.int (c + 0)], _, 0, 0)) rfl ?_
      try have h17 : (c + 0).toInt = (c).toInt + 0 := iAdd (x := (c).toInt) (y := 0) rfl (by decide) (by omega) (by omega)
      refine pm_go (g := (152, [(3, .int (c + 0)), (6, .int 0), (5, .int (nI k)), (4, .int 1), (2, .int (mRt r.toNatClampNeg)), (0, .ref 25), (1, .int r)], [], _, 0, 0)) rfl ?_
      refine pm_go (g := (154, _, [.int 1], _, 0, 0)) rfl ?_
      refine pm_brT (g := (172, [(3, .int (c + 0)), (6, .int 0), (5, .int (nI k)), (4, .int 1), (2, .int (mRt r.toNatClampNeg)), (0, .ref 25), (1, .int r)], [], hq g c1 c2 c3 c4 c5 c6 c7 c8 c9 c10 c11 c12 c13 c14 c15 c16 c17 c18 c19 c20 c21 c22 c23 c24 (hc25 mTy mTm mMn mFn mRn mTn mVn mLr mTr mFl mFm mFp mSc mMp mEn) (hc26 mPa) (hc27 mTo) (hc28 mOt) (hc29 mNa) (hc30 mRe) (hc31 mMa) (hc32 mMy) (hc33 mPm) (hc34 mFy) (hc35 mFa) (hc36 mFr) (hc37 mFo) (hc38 mRt) (hc39 mRm) (hc40 mTt) (hc41 mTi) (hc42 mPl) (hc43 mVr) (hc44 mVf) (hc45 mVc) (hc46 mAr) (hc47 mTc) (hc48 mFt) (hc49 mGo) dyn, 0, 0)) rfl ?_
      refine pm_go (g := (173, _, [.int 1], _, 0, 0)) rfl ?_
      refine pm_go (g := (177, _, [.int 1], _, 0, 0)) rfl ?_
      refine pm_go (g := (179, [(4, .int 1), (3, .int (c + 0)), (6, .int 0), (5, .int (nI k)), (2, .int (mRt r.toNatClampNeg)), (0, .ref 25), (1, .int r)], [], _, 0, 0)) rfl ?_
      refine pm_go (g := (182, [(5, .int ((nI k) + 1)), (4, .int 1), (3, .int (c + 0)), (6, .int 0), (2, .int (mRt r.toNatClampNeg)), (0, .ref 25), (1, .int r)], [], _, 0, 0)) rfl ?_
      refine pm_go (g := (37, _, [], _, 0, 0)) rfl ?_
      refine pm_sub (lv := [(5, .int ((nI k) + 1)), (4, .int 1), (3, .int (c + 0)), (2, .int (mRt r.toNatClampNeg)), (0, .ref 25), (1, .int r)]) ?_ ⟨le_c (List.Mem.head _) (le_c (List.Mem.tail _ (List.Mem.head _)) (le_c (List.Mem.tail _ (List.Mem.tail _ (List.Mem.head _))) (le_c (List.Mem.tail _ (List.Mem.tail _ (List.Mem.tail _ (List.Mem.tail _ (List.Mem.head _))))) (le_c (List.Mem.tail _ (List.Mem.tail _ (List.Mem.tail _ (List.Mem.tail _ (List.Mem.tail _ (List.Mem.head _)))))) (le_c (List.Mem.tail _ (List.Mem.tail _ (List.Mem.tail _ (List.Mem.tail _ (List.Mem.tail _ (List.Mem.tail _ (List.Mem.head _))))))) le_n))))), (show ([5, 4, 3, 6, 2, 0, 1] : List Nat).Nodup by decide)⟩
      rw [nI_1]
      exact ih (k + 1) (c + 0) (by omega) (by omega) (by omega) k0
    have h16 := qF_ne (cx := (mOt (nI k).toNatClampNeg).toInt) (cy := (mRt r.toNatClampNeg).toInt) rfl rfl h16
    refine pm_go (g := (68, [(5, .int (nI k)), (4, .int 1), (3, .int c), (2, .int (mRt r.toNatClampNeg)), (0, .ref 25), (1, .int r)], [.ref 25], _, 0, 0)) rfl ?_
    refine pm_go (g := (71, _, [.ref 29], _, 0, 0)) rfl ?_
    refine pm_go (g := (73, _, [.int (nI k), .ref 29], _, 0, 0)) rfl ?_
    refine pm_sd (g := (74, _, [.int (mNa (nI k).toNatClampNeg)], _, 0, 0)) rfl (pm_inI (by omega) (by omega)) ?_
    refine pm_go (g := (76, _, [.int 6, .int (mNa (nI k).toNatClampNeg)], _, 0, 0)) rfl ?_
    refine pm_if2 (g := (83, [(5, .int (nI k)), (4, .int 1), (3, .int c), (2, .int (mRt r.toNatClampNeg)), (0, .ref 25), (1, .int r)], [], hq g c1 c2 c3 c4 c5 c6 c7 c8 c9 c10 c11 c12 c13 c14 c15 c16 c17 c18 c19 c20 c21 c22 c23 c24 (hc25 mTy mTm mMn mFn mRn mTn mVn mLr mTr mFl mFm mFp mSc mMp mEn) (hc26 mPa) (hc27 mTo) (hc28 mOt) (hc29 mNa) (hc30 mRe) (hc31 mMa) (hc32 mMy) (hc33 mPm) (hc34 mFy) (hc35 mFa) (hc36 mFr) (hc37 mFo) (hc38 mRt) (hc39 mRm) (hc40 mTt) (hc41 mTi) (hc42 mPl) (hc43 mVr) (hc44 mVf) (hc45 mVc) (hc46 mAr) (hc47 mTc) (hc48 mFt) (hc49 mGo) dyn, 0, 0)) (h := (79, [(5, .int (nI k)), (4, .int 1), (3, .int c), (2, .int (mRt r.toNatClampNeg)), (0, .ref 25), (1, .int r)], [], hq g c1 c2 c3 c4 c5 c6 c7 c8 c9 c10 c11 c12 c13 c14 c15 c16 c17 c18 c19 c20 c21 c22 c23 c24 (hc25 mTy mTm mMn mFn mRn mTn mVn mLr mTr mFl mFm mFp mSc mMp mEn) (hc26 mPa) (hc27 mTo) (hc28 mOt) (hc29 mNa) (hc30 mRe) (hc31 mMa) (hc32 mMy) (hc33 mPm) (hc34 mFy) (hc35 mFa) (hc36 mFr) (hc37 mFo) (hc38 mRt) (hc39 mRm) (hc40 mTt) (hc41 mTi) (hc42 mPl) (hc43 mVr) (hc44 mVf) (hc45 mVc) (hc46 mAr) (hc47 mTc) (hc48 mFt) (hc49 mGo) dyn, 0, 0)) rfl (fun h18 => ?_) (fun h18 => ?_)
    ·
      have h18 := qT_ne (cx := (mNa (nI k).toNatClampNeg).toInt) (cy := 6) rfl (by decide) h18
      refine pm_go (g := (84, _, [.int 0], _, 0, 0)) rfl ?_
      refine pm_go (g := (137, _, [.int 0], _, 0, 0)) rfl ?_
      refine pm_go (g := (139, [(6, .int 0), (5, .int (nI k)), (4, .int 1), (3, .int c), (2, .int (mRt r.toNatClampNeg)), (0, .ref 25), (1, .int r)], [], _, 0, 0)) rfl ?_
      refine pm_go (g := (140, _, [.int c], _, 0, 0)) rfl ?_
      refine pm_go (g := (142, _, [.int 0, .int c], _, 0, 0)) rfl ?_
      refine pm_brT (g := (149, [(6, .int 0), (5, .int (nI k)), (4, .int 1), (3, .int c), (2, .int (mRt r.toNatClampNeg)), (0, .ref 25), (1, .int r)], [.int c], hq g c1 c2 c3 c4 c5 c6 c7 c8 c9 c10 c11 c12 c13 c14 c15 c16 c17 c18 c19 c20 c21 c22 c23 c24 (hc25 mTy mTm mMn mFn mRn mTn mVn mLr mTr mFl mFm mFp mSc mMp mEn) (hc26 mPa) (hc27 mTo) (hc28 mOt) (hc29 mNa) (hc30 mRe) (hc31 mMa) (hc32 mMy) (hc33 mPm) (hc34 mFy) (hc35 mFa) (hc36 mFr) (hc37 mFo) (hc38 mRt) (hc39 mRm) (hc40 mTt) (hc41 mTi) (hc42 mPl) (hc43 mVr) (hc44 mVf) (hc45 mVc) (hc46 mAr) (hc47 mTc) (hc48 mFt) (hc49 mGo) dyn, 0, 0)) rfl ?_
      refine pm_go (g := (150, _, [.int 0, .int c], _, 0, 0)) rfl ?_
      refine pm_go (g := (151, _, [.int (c + 0)], _, 0, 0)) rfl ?_
      try have h19 : (c + 0).toInt = (c).toInt + 0 := iAdd (x := (c).toInt) (y := 0) rfl (by decide) (by omega) (by omega)
      refine pm_go (g := (152, [(3, .int (c + 0)), (6, .int 0), (5, .int (nI k)), (4, .int 1), (2, .int (mRt r.toNatClampNeg)), (0, .ref 25), (1, .int r)], [], _, 0, 0)) rfl ?_
      refine pm_go (g := (154, _, [.int 1], _, 0, 0)) rfl ?_
      refine pm_brT (g := (172, [(3, .int (c + 0)), (6, .int 0), (5, .int (nI k)), (4, .int 1), (2, .int (mRt r.toNatClampNeg)), (0, .ref 25), (1, .int r)], [], hq g c1 c2 c3 c4 c5 c6 c7 c8 c9 c10 c11 c12 c13 c14 c15 c16 c17 c18 c19 c20 c21 c22 c23 c24 (hc25 mTy mTm mMn mFn mRn mTn mVn mLr mTr mFl mFm mFp mSc mMp mEn) (hc26 mPa) (hc27 mTo) (hc28 mOt) (hc29 mNa) (hc30 mRe) (hc31 mMa) (hc32 mMy) (hc33 mPm) (hc34 mFy) (hc35 mFa) (hc36 mFr) (hc37 mFo) (hc38 mRt) (hc39 mRm) (hc40 mTt) (hc41 mTi) (hc42 mPl) (hc43 mVr) (hc44 mVf) (hc45 mVc) (hc46 mAr) (hc47 mTc) (hc48 mFt) (hc49 mGo) dyn, 0, 0)) rfl ?_
      refine pm_go (g := (173, _, [.int 1], _, 0, 0)) rfl ?_
      refine pm_go (g := (177, _, [.int 1], _, 0, 0)) rfl ?_
      refine pm_go (g := (179, [(4, .int 1), (3, .int (c + 0)), (6, .int 0), (5, .int (nI k)), (2, .int (mRt r.toNatClampNeg)), (0, .ref 25), (1, .int r)], [], _, 0, 0)) rfl ?_
      refine pm_go (g := (182, [(5, .int ((nI k) + 1)), (4, .int 1), (3, .int (c + 0)), (6, .int 0), (2, .int (mRt r.toNatClampNeg)), (0, .ref 25), (1, .int r)], [], _, 0, 0)) rfl ?_
      refine pm_go (g := (37, _, [], _, 0, 0)) rfl ?_
      refine pm_sub (lv := [(5, .int ((nI k) + 1)), (4, .int 1), (3, .int (c + 0)), (2, .int (mRt r.toNatClampNeg)), (0, .ref 25), (1, .int r)]) ?_ ⟨le_c (List.Mem.head _) (le_c (List.Mem.tail _ (List.Mem.head _)) (le_c (List.Mem.tail _ (List.Mem.tail _ (List.Mem.head _))) (le_c (List.Mem.tail _ (List.Mem.tail _ (List.Mem.tail _ (List.Mem.tail _ (List.Mem.head _))))) (le_c (List.Mem.tail _ (List.Mem.tail _ (List.Mem.tail _ (List.Mem.tail _ (List.Mem.tail _ (List.Mem.head _)))))) (le_c (List.Mem.tail _ (List.Mem.tail _ (List.Mem.tail _ (List.Mem.tail _ (List.Mem.tail _ (List.Mem.tail _ (List.Mem.head _))))))) le_n))))), (show ([5, 4, 3, 6, 2, 0, 1] : List Nat).Nodup by decide)⟩
      rw [nI_1]
      exact ih (k + 1) (c + 0) (by omega) (by omega) (by omega) k0
    have h18 := qF_ne (cx := (mNa (nI k).toNatClampNeg).toInt) (cy := 6) rfl (by decide) h18
    refine pm_go (g := (80, [(5, .int (nI k)), (4, .int 1), (3, .int c), (2, .int (mRt r.toNatClampNeg)), (0, .ref 25), (1, .int r)], [.int 1], _, 0, 0)) rfl ?_
    refine pm_go (g := (137, _, [.int 1], _, 0, 0)) rfl ?_
    refine pm_go (g := (139, [(6, .int 1), (5, .int (nI k)), (4, .int 1), (3, .int c), (2, .int (mRt r.toNatClampNeg)), (0, .ref 25), (1, .int r)], [], _, 0, 0)) rfl ?_
    refine pm_go (g := (140, _, [.int c], _, 0, 0)) rfl ?_
    refine pm_go (g := (142, _, [.int 1, .int c], _, 0, 0)) rfl ?_
    refine pm_brF (h := (145, [(6, .int 1), (5, .int (nI k)), (4, .int 1), (3, .int c), (2, .int (mRt r.toNatClampNeg)), (0, .ref 25), (1, .int r)], [.int c], hq g c1 c2 c3 c4 c5 c6 c7 c8 c9 c10 c11 c12 c13 c14 c15 c16 c17 c18 c19 c20 c21 c22 c23 c24 (hc25 mTy mTm mMn mFn mRn mTn mVn mLr mTr mFl mFm mFp mSc mMp mEn) (hc26 mPa) (hc27 mTo) (hc28 mOt) (hc29 mNa) (hc30 mRe) (hc31 mMa) (hc32 mMy) (hc33 mPm) (hc34 mFy) (hc35 mFa) (hc36 mFr) (hc37 mFo) (hc38 mRt) (hc39 mRm) (hc40 mTt) (hc41 mTi) (hc42 mPl) (hc43 mVr) (hc44 mVf) (hc45 mVc) (hc46 mAr) (hc47 mTc) (hc48 mFt) (hc49 mGo) dyn, 0, 0)) rfl ?_
    refine pm_go (g := (146, _, [.int 1, .int c], _, 0, 0)) rfl ?_
    refine pm_go (g := (150, _, [.int 1, .int c], _, 0, 0)) rfl ?_
    refine pm_go (g := (151, _, [.int (c + 1)], _, 0, 0)) rfl ?_
    try have h20 : (c + 1).toInt = (c).toInt + 1 := iAdd (x := (c).toInt) (y := 1) rfl (by decide) (by omega) (by omega)
    refine pm_go (g := (152, [(3, .int (c + 1)), (6, .int 1), (5, .int (nI k)), (4, .int 1), (2, .int (mRt r.toNatClampNeg)), (0, .ref 25), (1, .int r)], [], _, 0, 0)) rfl ?_
    refine pm_go (g := (154, _, [.int 1], _, 0, 0)) rfl ?_
    refine pm_brT (g := (172, [(3, .int (c + 1)), (6, .int 1), (5, .int (nI k)), (4, .int 1), (2, .int (mRt r.toNatClampNeg)), (0, .ref 25), (1, .int r)], [], hq g c1 c2 c3 c4 c5 c6 c7 c8 c9 c10 c11 c12 c13 c14 c15 c16 c17 c18 c19 c20 c21 c22 c23 c24 (hc25 mTy mTm mMn mFn mRn mTn mVn mLr mTr mFl mFm mFp mSc mMp mEn) (hc26 mPa) (hc27 mTo) (hc28 mOt) (hc29 mNa) (hc30 mRe) (hc31 mMa) (hc32 mMy) (hc33 mPm) (hc34 mFy) (hc35 mFa) (hc36 mFr) (hc37 mFo) (hc38 mRt) (hc39 mRm) (hc40 mTt) (hc41 mTi) (hc42 mPl) (hc43 mVr) (hc44 mVf) (hc45 mVc) (hc46 mAr) (hc47 mTc) (hc48 mFt) (hc49 mGo) dyn, 0, 0)) rfl ?_
    refine pm_go (g := (173, _, [.int 1], _, 0, 0)) rfl ?_
    refine pm_go (g := (177, _, [.int 1], _, 0, 0)) rfl ?_
    refine pm_go (g := (179, [(4, .int 1), (3, .int (c + 1)), (6, .int 1), (5, .int (nI k)), (2, .int (mRt r.toNatClampNeg)), (0, .ref 25), (1, .int r)], [], _, 0, 0)) rfl ?_
    refine pm_go (g := (182, [(5, .int ((nI k) + 1)), (4, .int 1), (3, .int (c + 1)), (6, .int 1), (2, .int (mRt r.toNatClampNeg)), (0, .ref 25), (1, .int r)], [], _, 0, 0)) rfl ?_
    refine pm_go (g := (37, _, [], _, 0, 0)) rfl ?_
    refine pm_sub (lv := [(5, .int ((nI k) + 1)), (4, .int 1), (3, .int (c + 1)), (2, .int (mRt r.toNatClampNeg)), (0, .ref 25), (1, .int r)]) ?_ ⟨le_c (List.Mem.head _) (le_c (List.Mem.tail _ (List.Mem.head _)) (le_c (List.Mem.tail _ (List.Mem.tail _ (List.Mem.head _))) (le_c (List.Mem.tail _ (List.Mem.tail _ (List.Mem.tail _ (List.Mem.tail _ (List.Mem.head _))))) (le_c (List.Mem.tail _ (List.Mem.tail _ (List.Mem.tail _ (List.Mem.tail _ (List.Mem.tail _ (List.Mem.head _)))))) (le_c (List.Mem.tail _ (List.Mem.tail _ (List.Mem.tail _ (List.Mem.tail _ (List.Mem.tail _ (List.Mem.tail _ (List.Mem.head _))))))) le_n))))), (show ([5, 4, 3, 6, 2, 0, 1] : List Nat).Nodup by decide)⟩
    rw [nI_1]
    exact ih (k + 1) (c + 1) (by omega) (by omega) (by omega) k0
set_option maxRecDepth 100000 in
set_option maxHeartbeats 4000000 in
theorem w_exact_loop {g c1 c2 c3 c4 c5 c6 c7 c8 c9 c10 c11 c12 c13 c14 c15 c16 c17 c18 c19 c20 c21 c22 c23 c24 : pm_C} {dyn : pm_H} {mTy : Int32} {mPa : Nat → Int32} {mTo : Nat → Int32} {mTm : Int32} {mMn : Int32} {mOt : Nat → Int32} {mNa : Nat → Int32} {mRe : Nat → Int32} {mMa : Nat → Int32} {mMy : Nat → Int32} {mPm : Nat → Int32} {mFn : Int32} {mFy : Nat → Int32} {mFa : Nat → Int32} {mFr : Nat → Int32} {mRn : Int32} {mFo : Nat → Int32} {mRt : Nat → Int32} {mRm : Nat → Int32} {mTn : Int32} {mTt : Nat → Int32} {mTi : Nat → Int32} {mPl : Nat → Int32} {mVn : Int32} {mVr : Nat → Int32} {mVf : Nat → Int32} {mVc : Nat → Int32} {mAr : Nat → Int32} {mLr : Int32} {mTc : Nat → Int32} {mTr : Int32} {mFl : Int32} {mFt : Nat → Int32} {mFm : Int32} {mFp : Int32} {mSc : Int32} {mMp : Int32} {mEn : Int32} {mGo : Nat → Int32} {Q : pm_Q} (r : Int32) (hr : 0 ≤ r.toInt ∧ r.toInt < 30) (ht : (mFo r.toNatClampNeg).toInt = 2 → 0 ≤ (mRt r.toNatClampNeg).toInt ∧ (mRt r.toNatClampNeg).toInt < 10) (hp : paD mPa) (hy : myD mMy) (hn : 0 ≤ mMn.toInt ∧ mMn.toInt ≤ 40) : ∀ (n k : Nat) (b : Int32) (c : Int32), ((k : Int) ≤ mMn.toInt) → (40 < k + n) → (bsM (exJ mPa mOt mNa mMy mPm mMn (mFo r.toNatClampNeg) (mRt r.toNatClampNeg) (mRm r.toNatClampNeg)) c b k) → (∀ j : Nat, j < k → exJ mPa mOt mNa mMy mPm mMn (mFo r.toNatClampNeg) (mRt r.toNatClampNeg) (mRm r.toNatClampNeg) j → (mMa (nI j).toNatClampNeg &&& 4).toInt = 0) → (exM mPa mOt mNa mMy mPm mMa mMn (mFo r.toNatClampNeg) (mRt r.toNatClampNeg) (mRm r.toNatClampNeg) → Q (some (.int 1)) (hq g c1 c2 c3 c4 c5 c6 c7 c8 c9 c10 c11 c12 c13 c14 c15 c16 c17 c18 c19 c20 c21 c22 c23 c24 (hc25 mTy mTm mMn mFn mRn mTn mVn mLr mTr mFl mFm mFp mSc mMp mEn) (hc26 mPa) (hc27 mTo) (hc28 mOt) (hc29 mNa) (hc30 mRe) (hc31 mMa) (hc32 mMy) (hc33 mPm) (hc34 mFy) (hc35 mFa) (hc36 mFr) (hc37 mFo) (hc38 mRt) (hc39 mRm) (hc40 mTt) (hc41 mTi) (hc42 mPl) (hc43 mVr) (hc44 mVf) (hc45 mVc) (hc46 mAr) (hc47 mTc) (hc48 mFt) (hc49 mGo) dyn)) → (¬ exM mPa mOt mNa mMy mPm mMa mMn (mFo r.toNatClampNeg) (mRt r.toNatClampNeg) (mRm r.toNatClampNeg) → Q (some (.int 0)) (hq g c1 c2 c3 c4 c5 c6 c7 c8 c9 c10 c11 c12 c13 c14 c15 c16 c17 c18 c19 c20 c21 c22 c23 c24 (hc25 mTy mTm mMn mFn mRn mTn mVn mLr mTr mFl mFm mFp mSc mMp mEn) (hc26 mPa) (hc27 mTo) (hc28 mOt) (hc29 mNa) (hc30 mRe) (hc31 mMa) (hc32 mMy) (hc33 mPm) (hc34 mFy) (hc35 mFa) (hc36 mFr) (hc37 mFo) (hc38 mRt) (hc39 mRm) (hc40 mTt) (hc41 mTi) (hc42 mPl) (hc43 mVr) (hc44 mVf) (hc45 mVc) (hc46 mAr) (hc47 mTc) (hc48 mFt) (hc49 mGo) dyn)) → pm_WP 168 (37, [(5, .int (nI k)), (4, .int 0), (3, .int c), (2, .int (mRt r.toNatClampNeg)), (0, .ref 25), (1, .int r)], [], hq g c1 c2 c3 c4 c5 c6 c7 c8 c9 c10 c11 c12 c13 c14 c15 c16 c17 c18 c19 c20 c21 c22 c23 c24 (hc25 mTy mTm mMn mFn mRn mTn mVn mLr mTr mFl mFm mFp mSc mMp mEn) (hc26 mPa) (hc27 mTo) (hc28 mOt) (hc29 mNa) (hc30 mRe) (hc31 mMa) (hc32 mMy) (hc33 mPm) (hc34 mFy) (hc35 mFa) (hc36 mFr) (hc37 mFo) (hc38 mRt) (hc39 mRm) (hc40 mTt) (hc41 mTi) (hc42 mPl) (hc43 mVr) (hc44 mVf) (hc45 mVc) (hc46 mAr) (hc47 mTc) (hc48 mFt) (hc49 mGo) dyn, 0, 0) Q := by
  intro n
  induction n with
  | zero =>
    intro k b c g1 g2 g3 g4 k0 k1
    exfalso; omega
  | succ n ih =>
    intro k b c g1 g2 g3 g4 k0 k1
    have hk := nI_toInt (n := k) (by omega)
    have hkc : (nI k).toNatClampNeg = k := nI_clamp (by omega)
    have hb := bsM_b g3
    refine pm_go (g := (39, [(5, .int (nI k)), (4, .int 0), (3, .int c), (2, .int (mRt r.toNatClampNeg)), (0, .ref 25), (1, .int r)], [.int (nI k)], hq g c1 c2 c3 c4 c5 c6 c7 c8 c9 c10 c11 c12 c13 c14 c15 c16 c17 c18 c19 c20 c21 c22 c23 c24 (hc25 mTy mTm mMn mFn mRn mTn mVn mLr mTr mFl mFm mFp mSc mMp mEn) (hc26 mPa) (hc27 mTo) (hc28 mOt) (hc29 mNa) (hc30 mRe) (hc31 mMa) (hc32 mMy) (hc33 mPm) (hc34 mFy) (hc35 mFa) (hc36 mFr) (hc37 mFo) (hc38 mRt) (hc39 mRm) (hc40 mTt) (hc41 mTi) (hc42 mPl) (hc43 mVr) (hc44 mVf) (hc45 mVc) (hc46 mAr) (hc47 mTc) (hc48 mFt) (hc49 mGo) dyn, 0, 0)) rfl ?_
    refine pm_go (g := (40, _, [.ref 25, .int (nI k)], _, 0, 0)) rfl ?_
    refine pm_go (g := (43, _, [.int mMn, .int (nI k)], _, 0, 0)) rfl ?_
    refine pm_if2 (g := (185, [(5, .int (nI k)), (4, .int 0), (3, .int c), (2, .int (mRt r.toNatClampNeg)), (0, .ref 25), (1, .int r)], [], hq g c1 c2 c3 c4 c5 c6 c7 c8 c9 c10 c11 c12 c13 c14 c15 c16 c17 c18 c19 c20 c21 c22 c23 c24 (hc25 mTy mTm mMn mFn mRn mTn mVn mLr mTr mFl mFm mFp mSc mMp mEn) (hc26 mPa) (hc27 mTo) (hc28 mOt) (hc29 mNa) (hc30 mRe) (hc31 mMa) (hc32 mMy) (hc33 mPm) (hc34 mFy) (hc35 mFa) (hc36 mFr) (hc37 mFo) (hc38 mRt) (hc39 mRm) (hc40 mTt) (hc41 mTi) (hc42 mPl) (hc43 mVr) (hc44 mVf) (hc45 mVc) (hc46 mAr) (hc47 mTc) (hc48 mFt) (hc49 mGo) dyn, 0, 0)) (h := (46, [(5, .int (nI k)), (4, .int 0), (3, .int c), (2, .int (mRt r.toNatClampNeg)), (0, .ref 25), (1, .int r)], [], hq g c1 c2 c3 c4 c5 c6 c7 c8 c9 c10 c11 c12 c13 c14 c15 c16 c17 c18 c19 c20 c21 c22 c23 c24 (hc25 mTy mTm mMn mFn mRn mTn mVn mLr mTr mFl mFm mFp mSc mMp mEn) (hc26 mPa) (hc27 mTo) (hc28 mOt) (hc29 mNa) (hc30 mRe) (hc31 mMa) (hc32 mMy) (hc33 mPm) (hc34 mFy) (hc35 mFa) (hc36 mFr) (hc37 mFo) (hc38 mRt) (hc39 mRm) (hc40 mTt) (hc41 mTi) (hc42 mPl) (hc43 mVr) (hc44 mVf) (hc45 mVc) (hc46 mAr) (hc47 mTc) (hc48 mFt) (hc49 mGo) dyn, 0, 0)) rfl (fun h1 => ?_) (fun h1 => ?_)
    ·
      have h1 := qT_ge (cx := (nI k).toInt) (cy := (mMn).toInt) rfl rfl h1
      refine pm_go (g := (187, _, [.int 0], _, 0, 0)) rfl ?_
      refine pm_brF (h := (190, [(5, .int (nI k)), (4, .int 0), (3, .int c), (2, .int (mRt r.toNatClampNeg)), (0, .ref 25), (1, .int r)], [], hq g c1 c2 c3 c4 c5 c6 c7 c8 c9 c10 c11 c12 c13 c14 c15 c16 c17 c18 c19 c20 c21 c22 c23 c24 (hc25 mTy mTm mMn mFn mRn mTn mVn mLr mTr mFl mFm mFp mSc mMp mEn) (hc26 mPa) (hc27 mTo) (hc28 mOt) (hc29 mNa) (hc30 mRe) (hc31 mMa) (hc32 mMy) (hc33 mPm) (hc34 mFy) (hc35 mFa) (hc36 mFr) (hc37 mFo) (hc38 mRt) (hc39 mRm) (hc40 mTt) (hc41 mTi) (hc42 mPl) (hc43 mVr) (hc44 mVf) (hc45 mVc) (hc46 mAr) (hc47 mTc) (hc48 mFt) (hc49 mGo) dyn, 0, 0)) rfl ?_
      refine pm_go (g := (191, _, [.int c], _, 0, 0)) rfl ?_
      refine pm_go (g := (192, _, [.int 1, .int c], _, 0, 0)) rfl ?_
      refine pm_if2 (g := (209, [(5, .int (nI k)), (4, .int 0), (3, .int c), (2, .int (mRt r.toNatClampNeg)), (0, .ref 25), (1, .int r)], [], hq g c1 c2 c3 c4 c5 c6 c7 c8 c9 c10 c11 c12 c13 c14 c15 c16 c17 c18 c19 c20 c21 c22 c23 c24 (hc25 mTy mTm mMn mFn mRn mTn mVn mLr mTr mFl mFm mFp mSc mMp mEn) (hc26 mPa) (hc27 mTo) (hc28 mOt) (hc29 mNa) (hc30 mRe) (hc31 mMa) (hc32 mMy) (hc33 mPm) (hc34 mFy) (hc35 mFa) (hc36 mFr) (hc37 mFo) (hc38 mRt) (hc39 mRm) (hc40 mTt) (hc41 mTi) (hc42 mPl) (hc43 mVr) (hc44 mVf) (hc45 mVc) (hc46 mAr) (hc47 mTc) (hc48 mFt) (hc49 mGo) dyn, 0, 0)) (h := (195, [(5, .int (nI k)), (4, .int 0), (3, .int c), (2, .int (mRt r.toNatClampNeg)), (0, .ref 25), (1, .int r)], [], hq g c1 c2 c3 c4 c5 c6 c7 c8 c9 c10 c11 c12 c13 c14 c15 c16 c17 c18 c19 c20 c21 c22 c23 c24 (hc25 mTy mTm mMn mFn mRn mTn mVn mLr mTr mFl mFm mFp mSc mMp mEn) (hc26 mPa) (hc27 mTo) (hc28 mOt) (hc29 mNa) (hc30 mRe) (hc31 mMa) (hc32 mMy) (hc33 mPm) (hc34 mFy) (hc35 mFa) (hc36 mFr) (hc37 mFo) (hc38 mRt) (hc39 mRm) (hc40 mTt) (hc41 mTi) (hc42 mPl) (hc43 mVr) (hc44 mVf) (hc45 mVc) (hc46 mAr) (hc47 mTc) (hc48 mFt) (hc49 mGo) dyn, 0, 0)) rfl (fun h2 => ?_) (fun h2 => ?_)
      ·
        have h2 := qT_eq (cx := (c).toInt) (cy := 1) rfl (by decide) h2
        refine pm_go (g := (210, _, [.int 1], _, 0, 0)) rfl ?_
        refine pm_go (g := (214, _, [.int 1], _, 0, 0)) rfl ?_
        exact pm_ret rfl (k0 ⟨fun j q q2 => g4 j (by omega) q2, by first | exact Or.inl (bs_1 g3 (by omega) (by omega)) | exact Or.inr ⟨by omega, bs_z g3 (by omega) (by omega)⟩⟩)
      have h2 := qF_eq (cx := (c).toInt) (cy := 1) rfl (by decide) h2
      refine pm_go (g := (196, _, [.int c], _, 0, 0)) rfl ?_
      refine pm_if2 (g := (213, [(5, .int (nI k)), (4, .int 0), (3, .int c), (2, .int (mRt r.toNatClampNeg)), (0, .ref 25), (1, .int r)], [], hq g c1 c2 c3 c4 c5 c6 c7 c8 c9 c10 c11 c12 c13 c14 c15 c16 c17 c18 c19 c20 c21 c22 c23 c24 (hc25 mTy mTm mMn mFn mRn mTn mVn mLr mTr mFl mFm mFp mSc mMp mEn) (hc26 mPa) (hc27 mTo) (hc28 mOt) (hc29 mNa) (hc30 mRe) (hc31 mMa) (hc32 mMy) (hc33 mPm) (hc34 mFy) (hc35 mFa) (hc36 mFr) (hc37 mFo) (hc38 mRt) (hc39 mRm) (hc40 mTt) (hc41 mTi) (hc42 mPl) (hc43 mVr) (hc44 mVf) (hc45 mVc) (hc46 mAr) (hc47 mTc) (hc48 mFt) (hc49 mGo) dyn, 0, 0)) (h := (199, [(5, .int (nI k)), (4, .int 0), (3, .int c), (2, .int (mRt r.toNatClampNeg)), (0, .ref 25), (1, .int r)], [], hq g c1 c2 c3 c4 c5 c6 c7 c8 c9 c10 c11 c12 c13 c14 c15 c16 c17 c18 c19 c20 c21 c22 c23 c24 (hc25 mTy mTm mMn mFn mRn mTn mVn mLr mTr mFl mFm mFp mSc mMp mEn) (hc26 mPa) (hc27 mTo) (hc28 mOt) (hc29 mNa) (hc30 mRe) (hc31 mMa) (hc32 mMy) (hc33 mPm) (hc34 mFy) (hc35 mFa) (hc36 mFr) (hc37 mFo) (hc38 mRt) (hc39 mRm) (hc40 mTt) (hc41 mTi) (hc42 mPl) (hc43 mVr) (hc44 mVf) (hc45 mVc) (hc46 mAr) (hc47 mTc) (hc48 mFt) (hc49 mGo) dyn, 0, 0)) rfl (fun h3 => ?_) (fun h3 => ?_)
      ·
        have h3 := qT_ne (cx := (c).toInt) (cy := 0) rfl (by decide) h3
        refine pm_go (g := (214, _, [.int 0], _, 0, 0)) rfl ?_
        exact pm_ret rfl (k1 (fun q => by rcases q.2 with q2 | ⟨q2, q3⟩; exact bs_n1 g3 (by omega) (by omega) q2; first | omega | exact bs_nz g3 (by omega) (by omega) q3))
      have h3 := qF_ne (cx := (c).toInt) (cy := 0) rfl (by decide) h3
      refine pm_go (g := (200, _, [.ref 25], _, 0, 0)) rfl ?_
      refine pm_go (g := (203, _, [.ref 37], _, 0, 0)) rfl ?_
      refine pm_go (g := (204, _, [.int r, .ref 37], _, 0, 0)) rfl ?_
      refine pm_sd (g := (205, _, [.int (mFo (r).toNatClampNeg)], _, 0, 0)) rfl (pm_inI (by omega) (by omega)) ?_
      refine pm_go (g := (206, _, [.int 3, .int (mFo (r).toNatClampNeg)], _, 0, 0)) rfl ?_
      refine pm_if2 (g := (213, [(5, .int (nI k)), (4, .int 0), (3, .int c), (2, .int (mRt r.toNatClampNeg)), (0, .ref 25), (1, .int r)], [], hq g c1 c2 c3 c4 c5 c6 c7 c8 c9 c10 c11 c12 c13 c14 c15 c16 c17 c18 c19 c20 c21 c22 c23 c24 (hc25 mTy mTm mMn mFn mRn mTn mVn mLr mTr mFl mFm mFp mSc mMp mEn) (hc26 mPa) (hc27 mTo) (hc28 mOt) (hc29 mNa) (hc30 mRe) (hc31 mMa) (hc32 mMy) (hc33 mPm) (hc34 mFy) (hc35 mFa) (hc36 mFr) (hc37 mFo) (hc38 mRt) (hc39 mRm) (hc40 mTt) (hc41 mTi) (hc42 mPl) (hc43 mVr) (hc44 mVf) (hc45 mVc) (hc46 mAr) (hc47 mTc) (hc48 mFt) (hc49 mGo) dyn, 0, 0)) (h := (209, [(5, .int (nI k)), (4, .int 0), (3, .int c), (2, .int (mRt r.toNatClampNeg)), (0, .ref 25), (1, .int r)], [], hq g c1 c2 c3 c4 c5 c6 c7 c8 c9 c10 c11 c12 c13 c14 c15 c16 c17 c18 c19 c20 c21 c22 c23 c24 (hc25 mTy mTm mMn mFn mRn mTn mVn mLr mTr mFl mFm mFp mSc mMp mEn) (hc26 mPa) (hc27 mTo) (hc28 mOt) (hc29 mNa) (hc30 mRe) (hc31 mMa) (hc32 mMy) (hc33 mPm) (hc34 mFy) (hc35 mFa) (hc36 mFr) (hc37 mFo) (hc38 mRt) (hc39 mRm) (hc40 mTt) (hc41 mTi) (hc42 mPl) (hc43 mVr) (hc44 mVf) (hc45 mVc) (hc46 mAr) (hc47 mTc) (hc48 mFt) (hc49 mGo) dyn, 0, 0)) rfl (fun h4 => ?_) (fun h4 => ?_)
      ·
        have h4 := qT_ne (cx := (mFo (r).toNatClampNeg).toInt) (cy := 3) rfl (by decide) h4
        refine pm_go (g := (214, _, [.int 0], _, 0, 0)) rfl ?_
        exact pm_ret rfl (k1 (fun q => by rcases q.2 with q2 | ⟨q2, q3⟩; exact bs_n1 g3 (by omega) (by omega) q2; first | omega | exact bs_nz g3 (by omega) (by omega) q3))
      have h4 := qF_ne (cx := (mFo (r).toNatClampNeg).toInt) (cy := 3) rfl (by decide) h4
      refine pm_go (g := (210, _, [.int 1], _, 0, 0)) rfl ?_
      refine pm_go (g := (214, _, [.int 1], _, 0, 0)) rfl ?_
      exact pm_ret rfl (k0 ⟨fun j q q2 => g4 j (by omega) q2, by first | exact Or.inl (bs_1 g3 (by omega) (by omega)) | exact Or.inr ⟨by omega, bs_z g3 (by omega) (by omega)⟩⟩)
    have h1 := qF_ge (cx := (nI k).toInt) (cy := (mMn).toInt) rfl rfl h1
    refine pm_go (g := (47, _, [.ref 25], _, 0, 0)) rfl ?_
    refine pm_go (g := (50, _, [.ref 37], _, 0, 0)) rfl ?_
    refine pm_go (g := (51, _, [.int r, .ref 37], _, 0, 0)) rfl ?_
    refine pm_sd (g := (52, _, [.int (mFo (r).toNatClampNeg)], _, 0, 0)) rfl (pm_inI (by omega) (by omega)) ?_
    refine pm_go (g := (53, _, [.int 3, .int (mFo (r).toNatClampNeg)], _, 0, 0)) rfl ?_
    refine pm_if2 (g := (87, [(5, .int (nI k)), (4, .int 0), (3, .int c), (2, .int (mRt r.toNatClampNeg)), (0, .ref 25), (1, .int r)], [], hq g c1 c2 c3 c4 c5 c6 c7 c8 c9 c10 c11 c12 c13 c14 c15 c16 c17 c18 c19 c20 c21 c22 c23 c24 (hc25 mTy mTm mMn mFn mRn mTn mVn mLr mTr mFl mFm mFp mSc mMp mEn) (hc26 mPa) (hc27 mTo) (hc28 mOt) (hc29 mNa) (hc30 mRe) (hc31 mMa) (hc32 mMy) (hc33 mPm) (hc34 mFy) (hc35 mFa) (hc36 mFr) (hc37 mFo) (hc38 mRt) (hc39 mRm) (hc40 mTt) (hc41 mTi) (hc42 mPl) (hc43 mVr) (hc44 mVf) (hc45 mVc) (hc46 mAr) (hc47 mTc) (hc48 mFt) (hc49 mGo) dyn, 0, 0)) (h := (56, [(5, .int (nI k)), (4, .int 0), (3, .int c), (2, .int (mRt r.toNatClampNeg)), (0, .ref 25), (1, .int r)], [], hq g c1 c2 c3 c4 c5 c6 c7 c8 c9 c10 c11 c12 c13 c14 c15 c16 c17 c18 c19 c20 c21 c22 c23 c24 (hc25 mTy mTm mMn mFn mRn mTn mVn mLr mTr mFl mFm mFp mSc mMp mEn) (hc26 mPa) (hc27 mTo) (hc28 mOt) (hc29 mNa) (hc30 mRe) (hc31 mMa) (hc32 mMy) (hc33 mPm) (hc34 mFy) (hc35 mFa) (hc36 mFr) (hc37 mFo) (hc38 mRt) (hc39 mRm) (hc40 mTt) (hc41 mTi) (hc42 mPl) (hc43 mVr) (hc44 mVf) (hc45 mVc) (hc46 mAr) (hc47 mTc) (hc48 mFt) (hc49 mGo) dyn, 0, 0)) rfl (fun h5 => ?_) (fun h5 => ?_)
    ·
      have h5 := qT_ne (cx := (mFo (r).toNatClampNeg).toInt) (cy := 3) rfl (by decide) h5
      refine pm_go (g := (88, _, [.ref 25], _, 0, 0)) rfl ?_
      refine pm_go (g := (91, _, [.ref 29], _, 0, 0)) rfl ?_
      refine pm_go (g := (93, _, [.int (nI k), .ref 29], _, 0, 0)) rfl ?_
      refine pm_sd (g := (94, _, [.int (mNa (nI k).toNatClampNeg)], _, 0, 0)) rfl (pm_inI (by omega) (by omega)) ?_
      refine pm_go (g := (95, _, [.ref 25, .int (mNa (nI k).toNatClampNeg)], _, 0, 0)) rfl ?_
      refine pm_go (g := (98, _, [.ref 39, .int (mNa (nI k).toNatClampNeg)], _, 0, 0)) rfl ?_
      refine pm_go (g := (99, _, [.int r, .ref 39, .int (mNa (nI k).toNatClampNeg)], _, 0, 0)) rfl ?_
      refine pm_sd (g := (100, _, [.int (mRm (r).toNatClampNeg), .int (mNa (nI k).toNatClampNeg)], _, 0, 0)) rfl (pm_inI (by omega) (by omega)) ?_
      refine pm_if2 (g := (136, [(5, .int (nI k)), (4, .int 0), (3, .int c), (2, .int (mRt r.toNatClampNeg)), (0, .ref 25), (1, .int r)], [], hq g c1 c2 c3 c4 c5 c6 c7 c8 c9 c10 c11 c12 c13 c14 c15 c16 c17 c18 c19 c20 c21 c22 c23 c24 (hc25 mTy mTm mMn mFn mRn mTn mVn mLr mTr mFl mFm mFp mSc mMp mEn) (hc26 mPa) (hc27 mTo) (hc28 mOt) (hc29 mNa) (hc30 mRe) (hc31 mMa) (hc32 mMy) (hc33 mPm) (hc34 mFy) (hc35 mFa) (hc36 mFr) (hc37 mFo) (hc38 mRt) (hc39 mRm) (hc40 mTt) (hc41 mTi) (hc42 mPl) (hc43 mVr) (hc44 mVf) (hc45 mVc) (hc46 mAr) (hc47 mTc) (hc48 mFt) (hc49 mGo) dyn, 0, 0)) (h := (103, [(5, .int (nI k)), (4, .int 0), (3, .int c), (2, .int (mRt r.toNatClampNeg)), (0, .ref 25), (1, .int r)], [], hq g c1 c2 c3 c4 c5 c6 c7 c8 c9 c10 c11 c12 c13 c14 c15 c16 c17 c18 c19 c20 c21 c22 c23 c24 (hc25 mTy mTm mMn mFn mRn mTn mVn mLr mTr mFl mFm mFp mSc mMp mEn) (hc26 mPa) (hc27 mTo) (hc28 mOt) (hc29 mNa) (hc30 mRe) (hc31 mMa) (hc32 mMy) (hc33 mPm) (hc34 mFy) (hc35 mFa) (hc36 mFr) (hc37 mFo) (hc38 mRt) (hc39 mRm) (hc40 mTt) (hc41 mTi) (hc42 mPl) (hc43 mVr) (hc44 mVf) (hc45 mVc) (hc46 mAr) (hc47 mTc) (hc48 mFt) (hc49 mGo) dyn, 0, 0)) rfl (fun h6 => ?_) (fun h6 => ?_)
      ·
        have h6 := qT_ne (cx := (mNa (nI k).toNatClampNeg).toInt) (cy := (mRm (r).toNatClampNeg).toInt) rfl rfl h6
        refine pm_go (g := (137, _, [.int 0], _, 0, 0)) rfl ?_
        refine pm_go (g := (139, [(6, .int 0), (5, .int (nI k)), (4, .int 0), (3, .int c), (2, .int (mRt r.toNatClampNeg)), (0, .ref 25), (1, .int r)], [], _, 0, 0)) rfl ?_
        refine pm_go (g := (140, _, [.int c], _, 0, 0)) rfl ?_
        refine pm_go (g := (142, _, [.int 0, .int c], _, 0, 0)) rfl ?_
        refine pm_brT (g := (149, [(6, .int 0), (5, .int (nI k)), (4, .int 0), (3, .int c), (2, .int (mRt r.toNatClampNeg)), (0, .ref 25), (1, .int r)], [.int c], hq g c1 c2 c3 c4 c5 c6 c7 c8 c9 c10 c11 c12 c13 c14 c15 c16 c17 c18 c19 c20 c21 c22 c23 c24 (hc25 mTy mTm mMn mFn mRn mTn mVn mLr mTr mFl mFm mFp mSc mMp mEn) (hc26 mPa) (hc27 mTo) (hc28 mOt) (hc29 mNa) (hc30 mRe) (hc31 mMa) (hc32 mMy) (hc33 mPm) (hc34 mFy) (hc35 mFa) (hc36 mFr) (hc37 mFo) (hc38 mRt) (hc39 mRm) (hc40 mTt) (hc41 mTi) (hc42 mPl) (hc43 mVr) (hc44 mVf) (hc45 mVc) (hc46 mAr) (hc47 mTc) (hc48 mFt) (hc49 mGo) dyn, 0, 0)) rfl ?_
        refine pm_go (g := (150, _, [.int 0, .int c], _, 0, 0)) rfl ?_
        refine pm_go (g := (151, _, [.int (c + 0)], _, 0, 0)) rfl ?_
        try have h7 : (c + 0).toInt = (c).toInt + 0 := iAdd (x := (c).toInt) (y := 0) rfl (by decide) (by omega) (by omega)
        refine pm_go (g := (152, [(3, .int (c + 0)), (6, .int 0), (5, .int (nI k)), (4, .int 0), (2, .int (mRt r.toNatClampNeg)), (0, .ref 25), (1, .int r)], [], _, 0, 0)) rfl ?_
        refine pm_go (g := (154, _, [.int 0], _, 0, 0)) rfl ?_
        refine pm_brF (h := (157, [(3, .int (c + 0)), (6, .int 0), (5, .int (nI k)), (4, .int 0), (2, .int (mRt r.toNatClampNeg)), (0, .ref 25), (1, .int r)], [], hq g c1 c2 c3 c4 c5 c6 c7 c8 c9 c10 c11 c12 c13 c14 c15 c16 c17 c18 c19 c20 c21 c22 c23 c24 (hc25 mTy mTm mMn mFn mRn mTn mVn mLr mTr mFl mFm mFp mSc mMp mEn) (hc26 mPa) (hc27 mTo) (hc28 mOt) (hc29 mNa) (hc30 mRe) (hc31 mMa) (hc32 mMy) (hc33 mPm) (hc34 mFy) (hc35 mFa) (hc36 mFr) (hc37 mFo) (hc38 mRt) (hc39 mRm) (hc40 mTt) (hc41 mTi) (hc42 mPl) (hc43 mVr) (hc44 mVf) (hc45 mVc) (hc46 mAr) (hc47 mTc) (hc48 mFt) (hc49 mGo) dyn, 0, 0)) rfl ?_
        refine pm_go (g := (159, _, [.int 0], _, 0, 0)) rfl ?_
        refine pm_brT (g := (176, [(3, .int (c + 0)), (6, .int 0), (5, .int (nI k)), (4, .int 0), (2, .int (mRt r.toNatClampNeg)), (0, .ref 25), (1, .int r)], [], hq g c1 c2 c3 c4 c5 c6 c7 c8 c9 c10 c11 c12 c13 c14 c15 c16 c17 c18 c19 c20 c21 c22 c23 c24 (hc25 mTy mTm mMn mFn mRn mTn mVn mLr mTr mFl mFm mFp mSc mMp mEn) (hc26 mPa) (hc27 mTo) (hc28 mOt) (hc29 mNa) (hc30 mRe) (hc31 mMa) (hc32 mMy) (hc33 mPm) (hc34 mFy) (hc35 mFa) (hc36 mFr) (hc37 mFo) (hc38 mRt) (hc39 mRm) (hc40 mTt) (hc41 mTi) (hc42 mPl) (hc43 mVr) (hc44 mVf) (hc45 mVc) (hc46 mAr) (hc47 mTc) (hc48 mFt) (hc49 mGo) dyn, 0, 0)) rfl ?_
        refine pm_go (g := (177, _, [.int 0], _, 0, 0)) rfl ?_
        refine pm_go (g := (179, [(4, .int 0), (3, .int (c + 0)), (6, .int 0), (5, .int (nI k)), (2, .int (mRt r.toNatClampNeg)), (0, .ref 25), (1, .int r)], [], _, 0, 0)) rfl ?_
        refine pm_go (g := (182, [(5, .int ((nI k) + 1)), (4, .int 0), (3, .int (c + 0)), (6, .int 0), (2, .int (mRt r.toNatClampNeg)), (0, .ref 25), (1, .int r)], [], _, 0, 0)) rfl ?_
        refine pm_go (g := (37, _, [], _, 0, 0)) rfl ?_
        refine pm_sub (lv := [(5, .int ((nI k) + 1)), (4, .int 0), (3, .int (c + 0)), (2, .int (mRt r.toNatClampNeg)), (0, .ref 25), (1, .int r)]) ?_ ⟨le_c (List.Mem.head _) (le_c (List.Mem.tail _ (List.Mem.head _)) (le_c (List.Mem.tail _ (List.Mem.tail _ (List.Mem.head _))) (le_c (List.Mem.tail _ (List.Mem.tail _ (List.Mem.tail _ (List.Mem.tail _ (List.Mem.head _))))) (le_c (List.Mem.tail _ (List.Mem.tail _ (List.Mem.tail _ (List.Mem.tail _ (List.Mem.tail _ (List.Mem.head _)))))) (le_c (List.Mem.tail _ (List.Mem.tail _ (List.Mem.tail _ (List.Mem.tail _ (List.Mem.tail _ (List.Mem.tail _ (List.Mem.head _))))))) le_n))))), (show ([5, 4, 3, 6, 2, 0, 1] : List Nat).Nodup by decide)⟩
        rw [nI_1]
        have hj : ¬ exJ mPa mOt mNa mMy mPm mMn (mFo r.toNatClampNeg) (mRt r.toNatClampNeg) (mRm r.toNatClampNeg) k := by rintro (⟨q1, q2, q3⟩ | ⟨q1, q2, ⟨q3, q4⟩ | ⟨q3, q4⟩⟩) <;> first | omega | contradiction
        have hc1 : (c + 0).toInt = c.toInt + 0 := iAdd rfl (by decide) (by omega) (by omega)
        refine ih (k + 1) b (c + 0) (by omega) (by omega) ?_ (fun j q q2 => ?_) k0 k1
        · rw [show (c + 0) = c from xJ (by omega)]; exact bsM_n g3 hj
        · rcases Nat.lt_succ_iff_lt_or_eq.mp q with q | q
          · exact g4 j q q2
          · subst q; exact absurd q2 hj
      have h6 := qF_ne (cx := (mNa (nI k).toNatClampNeg).toInt) (cy := (mRm (r).toNatClampNeg).toInt) rfl rfl h6
      refine pm_go (g := (104, [(5, .int (nI k)), (4, .int 0), (3, .int c), (2, .int (mRt r.toNatClampNeg)), (0, .ref 25), (1, .int r)], [.ref 25], _, 0, 0)) rfl ?_
      refine pm_go (g := (105, _, [.ref 25, .ref 25], _, 0, 0)) rfl ?_
      refine pm_go (g := (108, _, [.ref 37, .ref 25], _, 0, 0)) rfl ?_
      refine pm_go (g := (109, _, [.int r, .ref 37, .ref 25], _, 0, 0)) rfl ?_
      refine pm_sd (g := (110, _, [.int (mFo (r).toNatClampNeg), .ref 25], _, 0, 0)) rfl (pm_inI (by omega) (by omega)) ?_
      refine pm_go (g := (111, _, [.int 2, .int (mFo (r).toNatClampNeg), .ref 25], _, 0, 0)) rfl ?_
      refine pm_if2 (g := (123, [(5, .int (nI k)), (4, .int 0), (3, .int c), (2, .int (mRt r.toNatClampNeg)), (0, .ref 25), (1, .int r)], [.ref 25], hq g c1 c2 c3 c4 c5 c6 c7 c8 c9 c10 c11 c12 c13 c14 c15 c16 c17 c18 c19 c20 c21 c22 c23 c24 (hc25 mTy mTm mMn mFn mRn mTn mVn mLr mTr mFl mFm mFp mSc mMp mEn) (hc26 mPa) (hc27 mTo) (hc28 mOt) (hc29 mNa) (hc30 mRe) (hc31 mMa) (hc32 mMy) (hc33 mPm) (hc34 mFy) (hc35 mFa) (hc36 mFr) (hc37 mFo) (hc38 mRt) (hc39 mRm) (hc40 mTt) (hc41 mTi) (hc42 mPl) (hc43 mVr) (hc44 mVf) (hc45 mVc) (hc46 mAr) (hc47 mTc) (hc48 mFt) (hc49 mGo) dyn, 0, 0)) (h := (114, [(5, .int (nI k)), (4, .int 0), (3, .int c), (2, .int (mRt r.toNatClampNeg)), (0, .ref 25), (1, .int r)], [.ref 25], hq g c1 c2 c3 c4 c5 c6 c7 c8 c9 c10 c11 c12 c13 c14 c15 c16 c17 c18 c19 c20 c21 c22 c23 c24 (hc25 mTy mTm mMn mFn mRn mTn mVn mLr mTr mFl mFm mFp mSc mMp mEn) (hc26 mPa) (hc27 mTo) (hc28 mOt) (hc29 mNa) (hc30 mRe) (hc31 mMa) (hc32 mMy) (hc33 mPm) (hc34 mFy) (hc35 mFa) (hc36 mFr) (hc37 mFo) (hc38 mRt) (hc39 mRm) (hc40 mTt) (hc41 mTi) (hc42 mPl) (hc43 mVr) (hc44 mVf) (hc45 mVc) (hc46 mAr) (hc47 mTc) (hc48 mFt) (hc49 mGo) dyn, 0, 0)) rfl (fun h8 => ?_) (fun h8 => ?_)
      ·
        have h8 := qT_ne (cx := (mFo (r).toNatClampNeg).toInt) (cy := 2) rfl (by decide) h8
        refine pm_go (g := (124, _, [.int (mRt r.toNatClampNeg), .ref 25], _, 0, 0)) rfl ?_
        refine pm_go (g := (126, _, [.int (nI k), .int (mRt r.toNatClampNeg), .ref 25], _, 0, 0)) rfl ?_
        refine pm_callD (z := 143) (as := [.ref 25, .int (mRt r.toNatClampNeg), .int (nI k)]) (rest := []) rfl ?_
        refine w_X12_isHad (mRt r.toNatClampNeg) (nI k) (by omega) (by assumption) (by assumption) (by omega) (fun h9 => ?_) (fun h10 => ?_)
        ·
          show pm_WP 168 (129, [(5, .int (nI k)), (4, .int 0), (3, .int c), (2, .int (mRt r.toNatClampNeg)), (0, .ref 25), (1, .int r)], [.int 1], _, 0, 0) _
          refine pm_brF (h := (132, [(5, .int (nI k)), (4, .int 0), (3, .int c), (2, .int (mRt r.toNatClampNeg)), (0, .ref 25), (1, .int r)], [], hq g c1 c2 c3 c4 c5 c6 c7 c8 c9 c10 c11 c12 c13 c14 c15 c16 c17 c18 c19 c20 c21 c22 c23 c24 (hc25 mTy mTm mMn mFn mRn mTn mVn mLr mTr mFl mFm mFp mSc mMp mEn) (hc26 mPa) (hc27 mTo) (hc28 mOt) (hc29 mNa) (hc30 mRe) (hc31 mMa) (hc32 mMy) (hc33 mPm) (hc34 mFy) (hc35 mFa) (hc36 mFr) (hc37 mFo) (hc38 mRt) (hc39 mRm) (hc40 mTt) (hc41 mTi) (hc42 mPl) (hc43 mVr) (hc44 mVf) (hc45 mVc) (hc46 mAr) (hc47 mTc) (hc48 mFt) (hc49 mGo) dyn, 0, 0)) rfl ?_
          refine pm_go (g := (133, _, [.int 1], _, 0, 0)) rfl ?_
          refine pm_go (g := (137, _, [.int 1], _, 0, 0)) rfl ?_
          refine pm_go (g := (139, [(6, .int 1), (5, .int (nI k)), (4, .int 0), (3, .int c), (2, .int (mRt r.toNatClampNeg)), (0, .ref 25), (1, .int r)], [], _, 0, 0)) rfl ?_
          refine pm_go (g := (140, _, [.int c], _, 0, 0)) rfl ?_
          refine pm_go (g := (142, _, [.int 1, .int c], _, 0, 0)) rfl ?_
          refine pm_brF (h := (145, [(6, .int 1), (5, .int (nI k)), (4, .int 0), (3, .int c), (2, .int (mRt r.toNatClampNeg)), (0, .ref 25), (1, .int r)], [.int c], hq g c1 c2 c3 c4 c5 c6 c7 c8 c9 c10 c11 c12 c13 c14 c15 c16 c17 c18 c19 c20 c21 c22 c23 c24 (hc25 mTy mTm mMn mFn mRn mTn mVn mLr mTr mFl mFm mFp mSc mMp mEn) (hc26 mPa) (hc27 mTo) (hc28 mOt) (hc29 mNa) (hc30 mRe) (hc31 mMa) (hc32 mMy) (hc33 mPm) (hc34 mFy) (hc35 mFa) (hc36 mFr) (hc37 mFo) (hc38 mRt) (hc39 mRm) (hc40 mTt) (hc41 mTi) (hc42 mPl) (hc43 mVr) (hc44 mVf) (hc45 mVc) (hc46 mAr) (hc47 mTc) (hc48 mFt) (hc49 mGo) dyn, 0, 0)) rfl ?_
          refine pm_go (g := (146, _, [.int 1, .int c], _, 0, 0)) rfl ?_
          refine pm_go (g := (150, _, [.int 1, .int c], _, 0, 0)) rfl ?_
          refine pm_go (g := (151, _, [.int (c + 1)], _, 0, 0)) rfl ?_
          try have h12 : (c + 1).toInt = (c).toInt + 1 := iAdd (x := (c).toInt) (y := 1) rfl (by decide) (by omega) (by omega)
          refine pm_go (g := (152, [(3, .int (c + 1)), (6, .int 1), (5, .int (nI k)), (4, .int 0), (2, .int (mRt r.toNatClampNeg)), (0, .ref 25), (1, .int r)], [], _, 0, 0)) rfl ?_
          refine pm_go (g := (154, _, [.int 0], _, 0, 0)) rfl ?_
          refine pm_brF (h := (157, [(3, .int (c + 1)), (6, .int 1), (5, .int (nI k)), (4, .int 0), (2, .int (mRt r.toNatClampNeg)), (0, .ref 25), (1, .int r)], [], hq g c1 c2 c3 c4 c5 c6 c7 c8 c9 c10 c11 c12 c13 c14 c15 c16 c17 c18 c19 c20 c21 c22 c23 c24 (hc25 mTy mTm mMn mFn mRn mTn mVn mLr mTr mFl mFm mFp mSc mMp mEn) (hc26 mPa) (hc27 mTo) (hc28 mOt) (hc29 mNa) (hc30 mRe) (hc31 mMa) (hc32 mMy) (hc33 mPm) (hc34 mFy) (hc35 mFa) (hc36 mFr) (hc37 mFo) (hc38 mRt) (hc39 mRm) (hc40 mTt) (hc41 mTi) (hc42 mPl) (hc43 mVr) (hc44 mVf) (hc45 mVc) (hc46 mAr) (hc47 mTc) (hc48 mFt) (hc49 mGo) dyn, 0, 0)) rfl ?_
          refine pm_go (g := (159, _, [.int 1], _, 0, 0)) rfl ?_
          refine pm_brF (h := (162, [(3, .int (c + 1)), (6, .int 1), (5, .int (nI k)), (4, .int 0), (2, .int (mRt r.toNatClampNeg)), (0, .ref 25), (1, .int r)], [], hq g c1 c2 c3 c4 c5 c6 c7 c8 c9 c10 c11 c12 c13 c14 c15 c16 c17 c18 c19 c20 c21 c22 c23 c24 (hc25 mTy mTm mMn mFn mRn mTn mVn mLr mTr mFl mFm mFp mSc mMp mEn) (hc26 mPa) (hc27 mTo) (hc28 mOt) (hc29 mNa) (hc30 mRe) (hc31 mMa) (hc32 mMy) (hc33 mPm) (hc34 mFy) (hc35 mFa) (hc36 mFr) (hc37 mFo) (hc38 mRt) (hc39 mRm) (hc40 mTt) (hc41 mTi) (hc42 mPl) (hc43 mVr) (hc44 mVf) (hc45 mVc) (hc46 mAr) (hc47 mTc) (hc48 mFt) (hc49 mGo) dyn, 0, 0)) rfl ?_
          refine pm_go (g := (163, _, [.ref 25], _, 0, 0)) rfl ?_
          refine pm_go (g := (165, _, [.int (nI k), .ref 25], _, 0, 0)) rfl ?_
          refine pm_go (g := (166, _, [.int 4, .int (nI k), .ref 25], _, 0, 0)) rfl ?_
          refine pm_callD (z := 139) (as := [.ref 25, .int (nI k), .int 4]) (rest := []) rfl ?_
          have h13 : (4 : Int32).toInt = 4 := by decide
          refine w_X12_isMark (nI k) 4 (by omega) (fun h14 => ?_) (fun h15 => ?_)
          ·
            show pm_WP 168 (169, [(3, .int (c + 1)), (6, .int 1), (5, .int (nI k)), (4, .int 0), (2, .int (mRt r.toNatClampNeg)), (0, .ref 25), (1, .int r)], [.int 1], _, 0, 0) _
            refine pm_brF (h := (172, [(3, .int (c + 1)), (6, .int 1), (5, .int (nI k)), (4, .int 0), (2, .int (mRt r.toNatClampNeg)), (0, .ref 25), (1, .int r)], [], hq g c1 c2 c3 c4 c5 c6 c7 c8 c9 c10 c11 c12 c13 c14 c15 c16 c17 c18 c19 c20 c21 c22 c23 c24 (hc25 mTy mTm mMn mFn mRn mTn mVn mLr mTr mFl mFm mFp mSc mMp mEn) (hc26 mPa) (hc27 mTo) (hc28 mOt) (hc29 mNa) (hc30 mRe) (hc31 mMa) (hc32 mMy) (hc33 mPm) (hc34 mFy) (hc35 mFa) (hc36 mFr) (hc37 mFo) (hc38 mRt) (hc39 mRm) (hc40 mTt) (hc41 mTi) (hc42 mPl) (hc43 mVr) (hc44 mVf) (hc45 mVc) (hc46 mAr) (hc47 mTc) (hc48 mFt) (hc49 mGo) dyn, 0, 0)) rfl ?_
            refine pm_go (g := (173, _, [.int 1], _, 0, 0)) rfl ?_
            refine pm_go (g := (177, _, [.int 1], _, 0, 0)) rfl ?_
            refine pm_go (g := (179, [(4, .int 1), (3, .int (c + 1)), (6, .int 1), (5, .int (nI k)), (2, .int (mRt r.toNatClampNeg)), (0, .ref 25), (1, .int r)], [], _, 0, 0)) rfl ?_
            refine pm_go (g := (182, [(5, .int ((nI k) + 1)), (4, .int 1), (3, .int (c + 1)), (6, .int 1), (2, .int (mRt r.toNatClampNeg)), (0, .ref 25), (1, .int r)], [], _, 0, 0)) rfl ?_
            refine pm_go (g := (37, _, [], _, 0, 0)) rfl ?_
            refine pm_sub (lv := [(5, .int ((nI k) + 1)), (4, .int 1), (3, .int (c + 1)), (2, .int (mRt r.toNatClampNeg)), (0, .ref 25), (1, .int r)]) ?_ ⟨le_c (List.Mem.head _) (le_c (List.Mem.tail _ (List.Mem.head _)) (le_c (List.Mem.tail _ (List.Mem.tail _ (List.Mem.head _))) (le_c (List.Mem.tail _ (List.Mem.tail _ (List.Mem.tail _ (List.Mem.tail _ (List.Mem.head _))))) (le_c (List.Mem.tail _ (List.Mem.tail _ (List.Mem.tail _ (List.Mem.tail _ (List.Mem.tail _ (List.Mem.head _)))))) (le_c (List.Mem.tail _ (List.Mem.tail _ (List.Mem.tail _ (List.Mem.tail _ (List.Mem.tail _ (List.Mem.tail _ (List.Mem.head _))))))) le_n))))), (show ([5, 4, 3, 6, 2, 0, 1] : List Nat).Nodup by decide)⟩
            rw [nI_1]
            have hj : exJ mPa mOt mNa mMy mPm mMn (mFo r.toNatClampNeg) (mRt r.toNatClampNeg) (mRm r.toNatClampNeg) k := by first | exact Or.inl ⟨by omega, by omega, by omega⟩ | exact Or.inr ⟨by omega, by omega, Or.inl ⟨by omega, by assumption⟩⟩ | exact Or.inr ⟨by omega, by omega, Or.inr ⟨by omega, by assumption⟩⟩
            have hc1 : (c + 1).toInt = c.toInt + 1 := iAdd rfl (by decide) (by omega) (by omega)
            exact w_exact_loop1 r hr ht hp hy hn n (k + 1) (c + 1) (by omega) (by omega) (by omega) (k1 (fun q => absurd (q.1 k (by omega) hj) (by omega)))
          show pm_WP 168 (169, [(3, .int (c + 1)), (6, .int 1), (5, .int (nI k)), (4, .int 0), (2, .int (mRt r.toNatClampNeg)), (0, .ref 25), (1, .int r)], [.int 0], hq g c1 c2 c3 c4 c5 c6 c7 c8 c9 c10 c11 c12 c13 c14 c15 c16 c17 c18 c19 c20 c21 c22 c23 c24 (hc25 mTy mTm mMn mFn mRn mTn mVn mLr mTr mFl mFm mFp mSc mMp mEn) (hc26 mPa) (hc27 mTo) (hc28 mOt) (hc29 mNa) (hc30 mRe) (hc31 mMa) (hc32 mMy) (hc33 mPm) (hc34 mFy) (hc35 mFa) (hc36 mFr) (hc37 mFo) (hc38 mRt) (hc39 mRm) (hc40 mTt) (hc41 mTi) (hc42 mPl) (hc43 mVr) (hc44 mVf) (hc45 mVc) (hc46 mAr) (hc47 mTc) (hc48 mFt) (hc49 mGo) dyn, 0, 0) _
          refine pm_brT (g := (176, [(3, .int (c + 1)), (6, .int 1), (5, .int (nI k)), (4, .int 0), (2, .int (mRt r.toNatClampNeg)), (0, .ref 25), (1, .int r)], [], hq g c1 c2 c3 c4 c5 c6 c7 c8 c9 c10 c11 c12 c13 c14 c15 c16 c17 c18 c19 c20 c21 c22 c23 c24 (hc25 mTy mTm mMn mFn mRn mTn mVn mLr mTr mFl mFm mFp mSc mMp mEn) (hc26 mPa) (hc27 mTo) (hc28 mOt) (hc29 mNa) (hc30 mRe) (hc31 mMa) (hc32 mMy) (hc33 mPm) (hc34 mFy) (hc35 mFa) (hc36 mFr) (hc37 mFo) (hc38 mRt) (hc39 mRm) (hc40 mTt) (hc41 mTi) (hc42 mPl) (hc43 mVr) (hc44 mVf) (hc45 mVc) (hc46 mAr) (hc47 mTc) (hc48 mFt) (hc49 mGo) dyn, 0, 0)) rfl ?_
          refine pm_go (g := (177, _, [.int 0], _, 0, 0)) rfl ?_
          refine pm_go (g := (179, [(4, .int 0), (3, .int (c + 1)), (6, .int 1), (5, .int (nI k)), (2, .int (mRt r.toNatClampNeg)), (0, .ref 25), (1, .int r)], [], _, 0, 0)) rfl ?_
          refine pm_go (g := (182, [(5, .int ((nI k) + 1)), (4, .int 0), (3, .int (c + 1)), (6, .int 1), (2, .int (mRt r.toNatClampNeg)), (0, .ref 25), (1, .int r)], [], _, 0, 0)) rfl ?_
          refine pm_go (g := (37, _, [], _, 0, 0)) rfl ?_
          refine pm_sub (lv := [(5, .int ((nI k) + 1)), (4, .int 0), (3, .int (c + 1)), (2, .int (mRt r.toNatClampNeg)), (0, .ref 25), (1, .int r)]) ?_ ⟨le_c (List.Mem.head _) (le_c (List.Mem.tail _ (List.Mem.head _)) (le_c (List.Mem.tail _ (List.Mem.tail _ (List.Mem.head _))) (le_c (List.Mem.tail _ (List.Mem.tail _ (List.Mem.tail _ (List.Mem.tail _ (List.Mem.head _))))) (le_c (List.Mem.tail _ (List.Mem.tail _ (List.Mem.tail _ (List.Mem.tail _ (List.Mem.tail _ (List.Mem.head _)))))) (le_c (List.Mem.tail _ (List.Mem.tail _ (List.Mem.tail _ (List.Mem.tail _ (List.Mem.tail _ (List.Mem.tail _ (List.Mem.head _))))))) le_n))))), (show ([5, 4, 3, 6, 2, 0, 1] : List Nat).Nodup by decide)⟩
          rw [nI_1]
          have hj : exJ mPa mOt mNa mMy mPm mMn (mFo r.toNatClampNeg) (mRt r.toNatClampNeg) (mRm r.toNatClampNeg) k := by first | exact Or.inl ⟨by omega, by omega, by omega⟩ | exact Or.inr ⟨by omega, by omega, Or.inl ⟨by omega, by assumption⟩⟩ | exact Or.inr ⟨by omega, by omega, Or.inr ⟨by omega, by assumption⟩⟩
          have hc1 : (c + 1).toInt = c.toInt + 1 := iAdd rfl (by decide) (by omega) (by omega)
          refine ih (k + 1) (nI k) (c + 1) (by omega) (by omega) (bsM_y g3 hj hc1) (fun j q q2 => ?_) k0 k1
          rcases Nat.lt_succ_iff_lt_or_eq.mp q with q | q
          · exact g4 j q q2
          · subst q; omega
        show pm_WP 168 (129, [(5, .int (nI k)), (4, .int 0), (3, .int c), (2, .int (mRt r.toNatClampNeg)), (0, .ref 25), (1, .int r)], [.int 0], hq g c1 c2 c3 c4 c5 c6 c7 c8 c9 c10 c11 c12 c13 c14 c15 c16 c17 c18 c19 c20 c21 c22 c23 c24 (hc25 mTy mTm mMn mFn mRn mTn mVn mLr mTr mFl mFm mFp mSc mMp mEn) (hc26 mPa) (hc27 mTo) (hc28 mOt) (hc29 mNa) (hc30 mRe) (hc31 mMa) (hc32 mMy) (hc33 mPm) (hc34 mFy) (hc35 mFa) (hc36 mFr) (hc37 mFo) (hc38 mRt) (hc39 mRm) (hc40 mTt) (hc41 mTi) (hc42 mPl) (hc43 mVr) (hc44 mVf) (hc45 mVc) (hc46 mAr) (hc47 mTc) (hc48 mFt) (hc49 mGo) dyn, 0, 0) _
        refine pm_brT (g := (136, [(5, .int (nI k)), (4, .int 0), (3, .int c), (2, .int (mRt r.toNatClampNeg)), (0, .ref 25), (1, .int r)], [], hq g c1 c2 c3 c4 c5 c6 c7 c8 c9 c10 c11 c12 c13 c14 c15 c16 c17 c18 c19 c20 c21 c22 c23 c24 (hc25 mTy mTm mMn mFn mRn mTn mVn mLr mTr mFl mFm mFp mSc mMp mEn) (hc26 mPa) (hc27 mTo) (hc28 mOt) (hc29 mNa) (hc30 mRe) (hc31 mMa) (hc32 mMy) (hc33 mPm) (hc34 mFy) (hc35 mFa) (hc36 mFr) (hc37 mFo) (hc38 mRt) (hc39 mRm) (hc40 mTt) (hc41 mTi) (hc42 mPl) (hc43 mVr) (hc44 mVf) (hc45 mVc) (hc46 mAr) (hc47 mTc) (hc48 mFt) (hc49 mGo) dyn, 0, 0)) rfl ?_
        refine pm_go (g := (137, _, [.int 0], _, 0, 0)) rfl ?_
        refine pm_go (g := (139, [(6, .int 0), (5, .int (nI k)), (4, .int 0), (3, .int c), (2, .int (mRt r.toNatClampNeg)), (0, .ref 25), (1, .int r)], [], _, 0, 0)) rfl ?_
        refine pm_go (g := (140, _, [.int c], _, 0, 0)) rfl ?_
        refine pm_go (g := (142, _, [.int 0, .int c], _, 0, 0)) rfl ?_
        refine pm_brT (g := (149, [(6, .int 0), (5, .int (nI k)), (4, .int 0), (3, .int c), (2, .int (mRt r.toNatClampNeg)), (0, .ref 25), (1, .int r)], [.int c], hq g c1 c2 c3 c4 c5 c6 c7 c8 c9 c10 c11 c12 c13 c14 c15 c16 c17 c18 c19 c20 c21 c22 c23 c24 (hc25 mTy mTm mMn mFn mRn mTn mVn mLr mTr mFl mFm mFp mSc mMp mEn) (hc26 mPa) (hc27 mTo) (hc28 mOt) (hc29 mNa) (hc30 mRe) (hc31 mMa) (hc32 mMy) (hc33 mPm) (hc34 mFy) (hc35 mFa) (hc36 mFr) (hc37 mFo) (hc38 mRt) (hc39 mRm) (hc40 mTt) (hc41 mTi) (hc42 mPl) (hc43 mVr) (hc44 mVf) (hc45 mVc) (hc46 mAr) (hc47 mTc) (hc48 mFt) (hc49 mGo) dyn, 0, 0)) rfl ?_
        refine pm_go (g := (150, _, [.int 0, .int c], _, 0, 0)) rfl ?_
        refine pm_go (g := (151, _, [.int (c + 0)], _, 0, 0)) rfl ?_
        try have h17 : (c + 0).toInt = (c).toInt + 0 := iAdd (x := (c).toInt) (y := 0) rfl (by decide) (by omega) (by omega)
        refine pm_go (g := (152, [(3, .int (c + 0)), (6, .int 0), (5, .int (nI k)), (4, .int 0), (2, .int (mRt r.toNatClampNeg)), (0, .ref 25), (1, .int r)], [], _, 0, 0)) rfl ?_
        refine pm_go (g := (154, _, [.int 0], _, 0, 0)) rfl ?_
        refine pm_brF (h := (157, [(3, .int (c + 0)), (6, .int 0), (5, .int (nI k)), (4, .int 0), (2, .int (mRt r.toNatClampNeg)), (0, .ref 25), (1, .int r)], [], hq g c1 c2 c3 c4 c5 c6 c7 c8 c9 c10 c11 c12 c13 c14 c15 c16 c17 c18 c19 c20 c21 c22 c23 c24 (hc25 mTy mTm mMn mFn mRn mTn mVn mLr mTr mFl mFm mFp mSc mMp mEn) (hc26 mPa) (hc27 mTo) (hc28 mOt) (hc29 mNa) (hc30 mRe) (hc31 mMa) (hc32 mMy) (hc33 mPm) (hc34 mFy) (hc35 mFa) (hc36 mFr) (hc37 mFo) (hc38 mRt) (hc39 mRm) (hc40 mTt) (hc41 mTi) (hc42 mPl) (hc43 mVr) (hc44 mVf) (hc45 mVc) (hc46 mAr) (hc47 mTc) (hc48 mFt) (hc49 mGo) dyn, 0, 0)) rfl ?_
        refine pm_go (g := (159, _, [.int 0], _, 0, 0)) rfl ?_
        refine pm_brT (g := (176, [(3, .int (c + 0)), (6, .int 0), (5, .int (nI k)), (4, .int 0), (2, .int (mRt r.toNatClampNeg)), (0, .ref 25), (1, .int r)], [], hq g c1 c2 c3 c4 c5 c6 c7 c8 c9 c10 c11 c12 c13 c14 c15 c16 c17 c18 c19 c20 c21 c22 c23 c24 (hc25 mTy mTm mMn mFn mRn mTn mVn mLr mTr mFl mFm mFp mSc mMp mEn) (hc26 mPa) (hc27 mTo) (hc28 mOt) (hc29 mNa) (hc30 mRe) (hc31 mMa) (hc32 mMy) (hc33 mPm) (hc34 mFy) (hc35 mFa) (hc36 mFr) (hc37 mFo) (hc38 mRt) (hc39 mRm) (hc40 mTt) (hc41 mTi) (hc42 mPl) (hc43 mVr) (hc44 mVf) (hc45 mVc) (hc46 mAr) (hc47 mTc) (hc48 mFt) (hc49 mGo) dyn, 0, 0)) rfl ?_
        refine pm_go (g := (177, _, [.int 0], _, 0, 0)) rfl ?_
        refine pm_go (g := (179, [(4, .int 0), (3, .int (c + 0)), (6, .int 0), (5, .int (nI k)), (2, .int (mRt r.toNatClampNeg)), (0, .ref 25), (1, .int r)], [], _, 0, 0)) rfl ?_
        refine pm_go (g := (182, [(5, .int ((nI k) + 1)), (4, .int 0), (3, .int (c + 0)), (6, .int 0), (2, .int (mRt r.toNatClampNeg)), (0, .ref 25), (1, .int r)], [], _, 0, 0)) rfl ?_
        refine pm_go (g := (37, _, [], _, 0, 0)) rfl ?_
        refine pm_sub (lv := [(5, .int ((nI k) + 1)), (4, .int 0), (3, .int (c + 0)), (2, .int (mRt r.toNatClampNeg)), (0, .ref 25), (1, .int r)]) ?_ ⟨le_c (List.Mem.head _) (le_c (List.Mem.tail _ (List.Mem.head _)) (le_c (List.Mem.tail _ (List.Mem.tail _ (List.Mem.head _))) (le_c (List.Mem.tail _ (List.Mem.tail _ (List.Mem.tail _ (List.Mem.tail _ (List.Mem.head _))))) (le_c (List.Mem.tail _ (List.Mem.tail _ (List.Mem.tail _ (List.Mem.tail _ (List.Mem.tail _ (List.Mem.head _)))))) (le_c (List.Mem.tail _ (List.Mem.tail _ (List.Mem.tail _ (List.Mem.tail _ (List.Mem.tail _ (List.Mem.tail _ (List.Mem.head _))))))) le_n))))), (show ([5, 4, 3, 6, 2, 0, 1] : List Nat).Nodup by decide)⟩
        rw [nI_1]
        have hj : ¬ exJ mPa mOt mNa mMy mPm mMn (mFo r.toNatClampNeg) (mRt r.toNatClampNeg) (mRm r.toNatClampNeg) k := by rintro (⟨q1, q2, q3⟩ | ⟨q1, q2, ⟨q3, q4⟩ | ⟨q3, q4⟩⟩) <;> first | omega | contradiction
        have hc1 : (c + 0).toInt = c.toInt + 0 := iAdd rfl (by decide) (by omega) (by omega)
        refine ih (k + 1) b (c + 0) (by omega) (by omega) ?_ (fun j q q2 => ?_) k0 k1
        · rw [show (c + 0) = c from xJ (by omega)]; exact bsM_n g3 hj
        · rcases Nat.lt_succ_iff_lt_or_eq.mp q with q | q
          · exact g4 j q q2
          · subst q; exact absurd q2 hj
      have h8 := qF_ne (cx := (mFo (r).toNatClampNeg).toInt) (cy := 2) rfl (by decide) h8
      refine pm_go (g := (115, [(5, .int (nI k)), (4, .int 0), (3, .int c), (2, .int (mRt r.toNatClampNeg)), (0, .ref 25), (1, .int r)], [.ref 25, .ref 25], _, 0, 0)) rfl ?_
      refine pm_go (g := (118, _, [.ref 26, .ref 25], _, 0, 0)) rfl ?_
      refine pm_go (g := (119, _, [.int (mRt r.toNatClampNeg), .ref 26, .ref 25], _, 0, 0)) rfl ?_
      refine pm_sd (g := (120, _, [.int (mPa (mRt r.toNatClampNeg).toNatClampNeg), .ref 25], _, 0, 0)) rfl (pm_inI (by omega) (by omega)) ?_
      refine pm_go (g := (124, _, [.int (mPa (mRt r.toNatClampNeg).toNatClampNeg), .ref 25], _, 0, 0)) rfl ?_
      refine pm_go (g := (126, _, [.int (nI k), .int (mPa (mRt r.toNatClampNeg).toNatClampNeg), .ref 25], _, 0, 0)) rfl ?_
      refine pm_callD (z := 143) (as := [.ref 25, .int (mPa (mRt r.toNatClampNeg).toNatClampNeg), .int (nI k)]) (rest := []) rfl ?_
      refine w_X12_isHad (mPa (mRt r.toNatClampNeg).toNatClampNeg) (nI k) (by omega) (by assumption) (by assumption) (by omega) (fun h18 => ?_) (fun h19 => ?_)
      ·
        show pm_WP 168 (129, [(5, .int (nI k)), (4, .int 0), (3, .int c), (2, .int (mRt r.toNatClampNeg)), (0, .ref 25), (1, .int r)], [.int 1], _, 0, 0) _
        refine pm_brF (h := (132, [(5, .int (nI k)), (4, .int 0), (3, .int c), (2, .int (mRt r.toNatClampNeg)), (0, .ref 25), (1, .int r)], [], hq g c1 c2 c3 c4 c5 c6 c7 c8 c9 c10 c11 c12 c13 c14 c15 c16 c17 c18 c19 c20 c21 c22 c23 c24 (hc25 mTy mTm mMn mFn mRn mTn mVn mLr mTr mFl mFm mFp mSc mMp mEn) (hc26 mPa) (hc27 mTo) (hc28 mOt) (hc29 mNa) (hc30 mRe) (hc31 mMa) (hc32 mMy) (hc33 mPm) (hc34 mFy) (hc35 mFa) (hc36 mFr) (hc37 mFo) (hc38 mRt) (hc39 mRm) (hc40 mTt) (hc41 mTi) (hc42 mPl) (hc43 mVr) (hc44 mVf) (hc45 mVc) (hc46 mAr) (hc47 mTc) (hc48 mFt) (hc49 mGo) dyn, 0, 0)) rfl ?_
        refine pm_go (g := (133, _, [.int 1], _, 0, 0)) rfl ?_
        refine pm_go (g := (137, _, [.int 1], _, 0, 0)) rfl ?_
        refine pm_go (g := (139, [(6, .int 1), (5, .int (nI k)), (4, .int 0), (3, .int c), (2, .int (mRt r.toNatClampNeg)), (0, .ref 25), (1, .int r)], [], _, 0, 0)) rfl ?_
        refine pm_go (g := (140, _, [.int c], _, 0, 0)) rfl ?_
        refine pm_go (g := (142, _, [.int 1, .int c], _, 0, 0)) rfl ?_
        refine pm_brF (h := (145, [(6, .int 1), (5, .int (nI k)), (4, .int 0), (3, .int c), (2, .int (mRt r.toNatClampNeg)), (0, .ref 25), (1, .int r)], [.int c], hq g c1 c2 c3 c4 c5 c6 c7 c8 c9 c10 c11 c12 c13 c14 c15 c16 c17 c18 c19 c20 c21 c22 c23 c24 (hc25 mTy mTm mMn mFn mRn mTn mVn mLr mTr mFl mFm mFp mSc mMp mEn) (hc26 mPa) (hc27 mTo) (hc28 mOt) (hc29 mNa) (hc30 mRe) (hc31 mMa) (hc32 mMy) (hc33 mPm) (hc34 mFy) (hc35 mFa) (hc36 mFr) (hc37 mFo) (hc38 mRt) (hc39 mRm) (hc40 mTt) (hc41 mTi) (hc42 mPl) (hc43 mVr) (hc44 mVf) (hc45 mVc) (hc46 mAr) (hc47 mTc) (hc48 mFt) (hc49 mGo) dyn, 0, 0)) rfl ?_
        refine pm_go (g := (146, _, [.int 1, .int c], _, 0, 0)) rfl ?_
        refine pm_go (g := (150, _, [.int 1, .int c], _, 0, 0)) rfl ?_
        refine pm_go (g := (151, _, [.int (c + 1)], _, 0, 0)) rfl ?_
        try have h21 : (c + 1).toInt = (c).toInt + 1 := iAdd (x := (c).toInt) (y := 1) rfl (by decide) (by omega) (by omega)
        refine pm_go (g := (152, [(3, .int (c + 1)), (6, .int 1), (5, .int (nI k)), (4, .int 0), (2, .int (mRt r.toNatClampNeg)), (0, .ref 25), (1, .int r)], [], _, 0, 0)) rfl ?_
        refine pm_go (g := (154, _, [.int 0], _, 0, 0)) rfl ?_
        refine pm_brF (h := (157, [(3, .int (c + 1)), (6, .int 1), (5, .int (nI k)), (4, .int 0), (2, .int (mRt r.toNatClampNeg)), (0, .ref 25), (1, .int r)], [], hq g c1 c2 c3 c4 c5 c6 c7 c8 c9 c10 c11 c12 c13 c14 c15 c16 c17 c18 c19 c20 c21 c22 c23 c24 (hc25 mTy mTm mMn mFn mRn mTn mVn mLr mTr mFl mFm mFp mSc mMp mEn) (hc26 mPa) (hc27 mTo) (hc28 mOt) (hc29 mNa) (hc30 mRe) (hc31 mMa) (hc32 mMy) (hc33 mPm) (hc34 mFy) (hc35 mFa) (hc36 mFr) (hc37 mFo) (hc38 mRt) (hc39 mRm) (hc40 mTt) (hc41 mTi) (hc42 mPl) (hc43 mVr) (hc44 mVf) (hc45 mVc) (hc46 mAr) (hc47 mTc) (hc48 mFt) (hc49 mGo) dyn, 0, 0)) rfl ?_
        refine pm_go (g := (159, _, [.int 1], _, 0, 0)) rfl ?_
        refine pm_brF (h := (162, [(3, .int (c + 1)), (6, .int 1), (5, .int (nI k)), (4, .int 0), (2, .int (mRt r.toNatClampNeg)), (0, .ref 25), (1, .int r)], [], hq g c1 c2 c3 c4 c5 c6 c7 c8 c9 c10 c11 c12 c13 c14 c15 c16 c17 c18 c19 c20 c21 c22 c23 c24 (hc25 mTy mTm mMn mFn mRn mTn mVn mLr mTr mFl mFm mFp mSc mMp mEn) (hc26 mPa) (hc27 mTo) (hc28 mOt) (hc29 mNa) (hc30 mRe) (hc31 mMa) (hc32 mMy) (hc33 mPm) (hc34 mFy) (hc35 mFa) (hc36 mFr) (hc37 mFo) (hc38 mRt) (hc39 mRm) (hc40 mTt) (hc41 mTi) (hc42 mPl) (hc43 mVr) (hc44 mVf) (hc45 mVc) (hc46 mAr) (hc47 mTc) (hc48 mFt) (hc49 mGo) dyn, 0, 0)) rfl ?_
        refine pm_go (g := (163, _, [.ref 25], _, 0, 0)) rfl ?_
        refine pm_go (g := (165, _, [.int (nI k), .ref 25], _, 0, 0)) rfl ?_
        refine pm_go (g := (166, _, [.int 4, .int (nI k), .ref 25], _, 0, 0)) rfl ?_
        refine pm_callD (z := 139) (as := [.ref 25, .int (nI k), .int 4]) (rest := []) rfl ?_
        have h22 : (4 : Int32).toInt = 4 := by decide
        refine w_X12_isMark (nI k) 4 (by omega) (fun h23 => ?_) (fun h24 => ?_)
        ·
          show pm_WP 168 (169, [(3, .int (c + 1)), (6, .int 1), (5, .int (nI k)), (4, .int 0), (2, .int (mRt r.toNatClampNeg)), (0, .ref 25), (1, .int r)], [.int 1], _, 0, 0) _
          refine pm_brF (h := (172, [(3, .int (c + 1)), (6, .int 1), (5, .int (nI k)), (4, .int 0), (2, .int (mRt r.toNatClampNeg)), (0, .ref 25), (1, .int r)], [], hq g c1 c2 c3 c4 c5 c6 c7 c8 c9 c10 c11 c12 c13 c14 c15 c16 c17 c18 c19 c20 c21 c22 c23 c24 (hc25 mTy mTm mMn mFn mRn mTn mVn mLr mTr mFl mFm mFp mSc mMp mEn) (hc26 mPa) (hc27 mTo) (hc28 mOt) (hc29 mNa) (hc30 mRe) (hc31 mMa) (hc32 mMy) (hc33 mPm) (hc34 mFy) (hc35 mFa) (hc36 mFr) (hc37 mFo) (hc38 mRt) (hc39 mRm) (hc40 mTt) (hc41 mTi) (hc42 mPl) (hc43 mVr) (hc44 mVf) (hc45 mVc) (hc46 mAr) (hc47 mTc) (hc48 mFt) (hc49 mGo) dyn, 0, 0)) rfl ?_
          refine pm_go (g := (173, _, [.int 1], _, 0, 0)) rfl ?_
          refine pm_go (g := (177, _, [.int 1], _, 0, 0)) rfl ?_
          refine pm_go (g := (179, [(4, .int 1), (3, .int (c + 1)), (6, .int 1), (5, .int (nI k)), (2, .int (mRt r.toNatClampNeg)), (0, .ref 25), (1, .int r)], [], _, 0, 0)) rfl ?_
          refine pm_go (g := (182, [(5, .int ((nI k) + 1)), (4, .int 1), (3, .int (c + 1)), (6, .int 1), (2, .int (mRt r.toNatClampNeg)), (0, .ref 25), (1, .int r)], [], _, 0, 0)) rfl ?_
          refine pm_go (g := (37, _, [], _, 0, 0)) rfl ?_
          refine pm_sub (lv := [(5, .int ((nI k) + 1)), (4, .int 1), (3, .int (c + 1)), (2, .int (mRt r.toNatClampNeg)), (0, .ref 25), (1, .int r)]) ?_ ⟨le_c (List.Mem.head _) (le_c (List.Mem.tail _ (List.Mem.head _)) (le_c (List.Mem.tail _ (List.Mem.tail _ (List.Mem.head _))) (le_c (List.Mem.tail _ (List.Mem.tail _ (List.Mem.tail _ (List.Mem.tail _ (List.Mem.head _))))) (le_c (List.Mem.tail _ (List.Mem.tail _ (List.Mem.tail _ (List.Mem.tail _ (List.Mem.tail _ (List.Mem.head _)))))) (le_c (List.Mem.tail _ (List.Mem.tail _ (List.Mem.tail _ (List.Mem.tail _ (List.Mem.tail _ (List.Mem.tail _ (List.Mem.head _))))))) le_n))))), (show ([5, 4, 3, 6, 2, 0, 1] : List Nat).Nodup by decide)⟩
          rw [nI_1]
          have hj : exJ mPa mOt mNa mMy mPm mMn (mFo r.toNatClampNeg) (mRt r.toNatClampNeg) (mRm r.toNatClampNeg) k := by first | exact Or.inl ⟨by omega, by omega, by omega⟩ | exact Or.inr ⟨by omega, by omega, Or.inl ⟨by omega, by assumption⟩⟩ | exact Or.inr ⟨by omega, by omega, Or.inr ⟨by omega, by assumption⟩⟩
          have hc1 : (c + 1).toInt = c.toInt + 1 := iAdd rfl (by decide) (by omega) (by omega)
          exact w_exact_loop1 r hr ht hp hy hn n (k + 1) (c + 1) (by omega) (by omega) (by omega) (k1 (fun q => absurd (q.1 k (by omega) hj) (by omega)))
        show pm_WP 168 (169, [(3, .int (c + 1)), (6, .int 1), (5, .int (nI k)), (4, .int 0), (2, .int (mRt r.toNatClampNeg)), (0, .ref 25), (1, .int r)], [.int 0], hq g c1 c2 c3 c4 c5 c6 c7 c8 c9 c10 c11 c12 c13 c14 c15 c16 c17 c18 c19 c20 c21 c22 c23 c24 (hc25 mTy mTm mMn mFn mRn mTn mVn mLr mTr mFl mFm mFp mSc mMp mEn) (hc26 mPa) (hc27 mTo) (hc28 mOt) (hc29 mNa) (hc30 mRe) (hc31 mMa) (hc32 mMy) (hc33 mPm) (hc34 mFy) (hc35 mFa) (hc36 mFr) (hc37 mFo) (hc38 mRt) (hc39 mRm) (hc40 mTt) (hc41 mTi) (hc42 mPl) (hc43 mVr) (hc44 mVf) (hc45 mVc) (hc46 mAr) (hc47 mTc) (hc48 mFt) (hc49 mGo) dyn, 0, 0) _
        refine pm_brT (g := (176, [(3, .int (c + 1)), (6, .int 1), (5, .int (nI k)), (4, .int 0), (2, .int (mRt r.toNatClampNeg)), (0, .ref 25), (1, .int r)], [], hq g c1 c2 c3 c4 c5 c6 c7 c8 c9 c10 c11 c12 c13 c14 c15 c16 c17 c18 c19 c20 c21 c22 c23 c24 (hc25 mTy mTm mMn mFn mRn mTn mVn mLr mTr mFl mFm mFp mSc mMp mEn) (hc26 mPa) (hc27 mTo) (hc28 mOt) (hc29 mNa) (hc30 mRe) (hc31 mMa) (hc32 mMy) (hc33 mPm) (hc34 mFy) (hc35 mFa) (hc36 mFr) (hc37 mFo) (hc38 mRt) (hc39 mRm) (hc40 mTt) (hc41 mTi) (hc42 mPl) (hc43 mVr) (hc44 mVf) (hc45 mVc) (hc46 mAr) (hc47 mTc) (hc48 mFt) (hc49 mGo) dyn, 0, 0)) rfl ?_
        refine pm_go (g := (177, _, [.int 0], _, 0, 0)) rfl ?_
        refine pm_go (g := (179, [(4, .int 0), (3, .int (c + 1)), (6, .int 1), (5, .int (nI k)), (2, .int (mRt r.toNatClampNeg)), (0, .ref 25), (1, .int r)], [], _, 0, 0)) rfl ?_
        refine pm_go (g := (182, [(5, .int ((nI k) + 1)), (4, .int 0), (3, .int (c + 1)), (6, .int 1), (2, .int (mRt r.toNatClampNeg)), (0, .ref 25), (1, .int r)], [], _, 0, 0)) rfl ?_
        refine pm_go (g := (37, _, [], _, 0, 0)) rfl ?_
        refine pm_sub (lv := [(5, .int ((nI k) + 1)), (4, .int 0), (3, .int (c + 1)), (2, .int (mRt r.toNatClampNeg)), (0, .ref 25), (1, .int r)]) ?_ ⟨le_c (List.Mem.head _) (le_c (List.Mem.tail _ (List.Mem.head _)) (le_c (List.Mem.tail _ (List.Mem.tail _ (List.Mem.head _))) (le_c (List.Mem.tail _ (List.Mem.tail _ (List.Mem.tail _ (List.Mem.tail _ (List.Mem.head _))))) (le_c (List.Mem.tail _ (List.Mem.tail _ (List.Mem.tail _ (List.Mem.tail _ (List.Mem.tail _ (List.Mem.head _)))))) (le_c (List.Mem.tail _ (List.Mem.tail _ (List.Mem.tail _ (List.Mem.tail _ (List.Mem.tail _ (List.Mem.tail _ (List.Mem.head _))))))) le_n))))), (show ([5, 4, 3, 6, 2, 0, 1] : List Nat).Nodup by decide)⟩
        rw [nI_1]
        have hj : exJ mPa mOt mNa mMy mPm mMn (mFo r.toNatClampNeg) (mRt r.toNatClampNeg) (mRm r.toNatClampNeg) k := by first | exact Or.inl ⟨by omega, by omega, by omega⟩ | exact Or.inr ⟨by omega, by omega, Or.inl ⟨by omega, by assumption⟩⟩ | exact Or.inr ⟨by omega, by omega, Or.inr ⟨by omega, by assumption⟩⟩
        have hc1 : (c + 1).toInt = c.toInt + 1 := iAdd rfl (by decide) (by omega) (by omega)
        refine ih (k + 1) (nI k) (c + 1) (by omega) (by omega) (bsM_y g3 hj hc1) (fun j q q2 => ?_) k0 k1
        rcases Nat.lt_succ_iff_lt_or_eq.mp q with q | q
        · exact g4 j q q2
        · subst q; omega
      show pm_WP 168 (129, [(5, .int (nI k)), (4, .int 0), (3, .int c), (2, .int (mRt r.toNatClampNeg)), (0, .ref 25), (1, .int r)], [.int 0], hq g c1 c2 c3 c4 c5 c6 c7 c8 c9 c10 c11 c12 c13 c14 c15 c16 c17 c18 c19 c20 c21 c22 c23 c24 (hc25 mTy mTm mMn mFn mRn mTn mVn mLr mTr mFl mFm mFp mSc mMp mEn) (hc26 mPa) (hc27 mTo) (hc28 mOt) (hc29 mNa) (hc30 mRe) (hc31 mMa) (hc32 mMy) (hc33 mPm) (hc34 mFy) (hc35 mFa) (hc36 mFr) (hc37 mFo) (hc38 mRt) (hc39 mRm) (hc40 mTt) (hc41 mTi) (hc42 mPl) (hc43 mVr) (hc44 mVf) (hc45 mVc) (hc46 mAr) (hc47 mTc) (hc48 mFt) (hc49 mGo) dyn, 0, 0) _
      refine pm_brT (g := (136, [(5, .int (nI k)), (4, .int 0), (3, .int c), (2, .int (mRt r.toNatClampNeg)), (0, .ref 25), (1, .int r)], [], hq g c1 c2 c3 c4 c5 c6 c7 c8 c9 c10 c11 c12 c13 c14 c15 c16 c17 c18 c19 c20 c21 c22 c23 c24 (hc25 mTy mTm mMn mFn mRn mTn mVn mLr mTr mFl mFm mFp mSc mMp mEn) (hc26 mPa) (hc27 mTo) (hc28 mOt) (hc29 mNa) (hc30 mRe) (hc31 mMa) (hc32 mMy) (hc33 mPm) (hc34 mFy) (hc35 mFa) (hc36 mFr) (hc37 mFo) (hc38 mRt) (hc39 mRm) (hc40 mTt) (hc41 mTi) (hc42 mPl) (hc43 mVr) (hc44 mVf) (hc45 mVc) (hc46 mAr) (hc47 mTc) (hc48 mFt) (hc49 mGo) dyn, 0, 0)) rfl ?_
      refine pm_go (g := (137, _, [.int 0], _, 0, 0)) rfl ?_
      refine pm_go (g := (139, [(6, .int 0), (5, .int (nI k)), (4, .int 0), (3, .int c), (2, .int (mRt r.toNatClampNeg)), (0, .ref 25), (1, .int r)], [], _, 0, 0)) rfl ?_
      refine pm_go (g := (140, _, [.int c], _, 0, 0)) rfl ?_
      refine pm_go (g := (142, _, [.int 0, .int c], _, 0, 0)) rfl ?_
      refine pm_brT (g := (149, [(6, .int 0), (5, .int (nI k)), (4, .int 0), (3, .int c), (2, .int (mRt r.toNatClampNeg)), (0, .ref 25), (1, .int r)], [.int c], hq g c1 c2 c3 c4 c5 c6 c7 c8 c9 c10 c11 c12 c13 c14 c15 c16 c17 c18 c19 c20 c21 c22 c23 c24 (hc25 mTy mTm mMn mFn mRn mTn mVn mLr mTr mFl mFm mFp mSc mMp mEn) (hc26 mPa) (hc27 mTo) (hc28 mOt) (hc29 mNa) (hc30 mRe) (hc31 mMa) (hc32 mMy) (hc33 mPm) (hc34 mFy) (hc35 mFa) (hc36 mFr) (hc37 mFo) (hc38 mRt) (hc39 mRm) (hc40 mTt) (hc41 mTi) (hc42 mPl) (hc43 mVr) (hc44 mVf) (hc45 mVc) (hc46 mAr) (hc47 mTc) (hc48 mFt) (hc49 mGo) dyn, 0, 0)) rfl ?_
      refine pm_go (g := (150, _, [.int 0, .int c], _, 0, 0)) rfl ?_
      refine pm_go (g := (151, _, [.int (c + 0)], _, 0, 0)) rfl ?_
      try have h26 : (c + 0).toInt = (c).toInt + 0 := iAdd (x := (c).toInt) (y := 0) rfl (by decide) (by omega) (by omega)
      refine pm_go (g := (152, [(3, .int (c + 0)), (6, .int 0), (5, .int (nI k)), (4, .int 0), (2, .int (mRt r.toNatClampNeg)), (0, .ref 25), (1, .int r)], [], _, 0, 0)) rfl ?_
      refine pm_go (g := (154, _, [.int 0], _, 0, 0)) rfl ?_
      refine pm_brF (h := (157, [(3, .int (c + 0)), (6, .int 0), (5, .int (nI k)), (4, .int 0), (2, .int (mRt r.toNatClampNeg)), (0, .ref 25), (1, .int r)], [], hq g c1 c2 c3 c4 c5 c6 c7 c8 c9 c10 c11 c12 c13 c14 c15 c16 c17 c18 c19 c20 c21 c22 c23 c24 (hc25 mTy mTm mMn mFn mRn mTn mVn mLr mTr mFl mFm mFp mSc mMp mEn) (hc26 mPa) (hc27 mTo) (hc28 mOt) (hc29 mNa) (hc30 mRe) (hc31 mMa) (hc32 mMy) (hc33 mPm) (hc34 mFy) (hc35 mFa) (hc36 mFr) (hc37 mFo) (hc38 mRt) (hc39 mRm) (hc40 mTt) (hc41 mTi) (hc42 mPl) (hc43 mVr) (hc44 mVf) (hc45 mVc) (hc46 mAr) (hc47 mTc) (hc48 mFt) (hc49 mGo) dyn, 0, 0)) rfl ?_
      refine pm_go (g := (159, _, [.int 0], _, 0, 0)) rfl ?_
      refine pm_brT (g := (176, [(3, .int (c + 0)), (6, .int 0), (5, .int (nI k)), (4, .int 0), (2, .int (mRt r.toNatClampNeg)), (0, .ref 25), (1, .int r)], [], hq g c1 c2 c3 c4 c5 c6 c7 c8 c9 c10 c11 c12 c13 c14 c15 c16 c17 c18 c19 c20 c21 c22 c23 c24 (hc25 mTy mTm mMn mFn mRn mTn mVn mLr mTr mFl mFm mFp mSc mMp mEn) (hc26 mPa) (hc27 mTo) (hc28 mOt) (hc29 mNa) (hc30 mRe) (hc31 mMa) (hc32 mMy) (hc33 mPm) (hc34 mFy) (hc35 mFa) (hc36 mFr) (hc37 mFo) (hc38 mRt) (hc39 mRm) (hc40 mTt) (hc41 mTi) (hc42 mPl) (hc43 mVr) (hc44 mVf) (hc45 mVc) (hc46 mAr) (hc47 mTc) (hc48 mFt) (hc49 mGo) dyn, 0, 0)) rfl ?_
      refine pm_go (g := (177, _, [.int 0], _, 0, 0)) rfl ?_
      refine pm_go (g := (179, [(4, .int 0), (3, .int (c + 0)), (6, .int 0), (5, .int (nI k)), (2, .int (mRt r.toNatClampNeg)), (0, .ref 25), (1, .int r)], [], _, 0, 0)) rfl ?_
      refine pm_go (g := (182, [(5, .int ((nI k) + 1)), (4, .int 0), (3, .int (c + 0)), (6, .int 0), (2, .int (mRt r.toNatClampNeg)), (0, .ref 25), (1, .int r)], [], _, 0, 0)) rfl ?_
      refine pm_go (g := (37, _, [], _, 0, 0)) rfl ?_
      refine pm_sub (lv := [(5, .int ((nI k) + 1)), (4, .int 0), (3, .int (c + 0)), (2, .int (mRt r.toNatClampNeg)), (0, .ref 25), (1, .int r)]) ?_ ⟨le_c (List.Mem.head _) (le_c (List.Mem.tail _ (List.Mem.head _)) (le_c (List.Mem.tail _ (List.Mem.tail _ (List.Mem.head _))) (le_c (List.Mem.tail _ (List.Mem.tail _ (List.Mem.tail _ (List.Mem.tail _ (List.Mem.head _))))) (le_c (List.Mem.tail _ (List.Mem.tail _ (List.Mem.tail _ (List.Mem.tail _ (List.Mem.tail _ (List.Mem.head _)))))) (le_c (List.Mem.tail _ (List.Mem.tail _ (List.Mem.tail _ (List.Mem.tail _ (List.Mem.tail _ (List.Mem.tail _ (List.Mem.head _))))))) le_n))))), (show ([5, 4, 3, 6, 2, 0, 1] : List Nat).Nodup by decide)⟩
      rw [nI_1]
      have hj : ¬ exJ mPa mOt mNa mMy mPm mMn (mFo r.toNatClampNeg) (mRt r.toNatClampNeg) (mRm r.toNatClampNeg) k := by rintro (⟨q1, q2, q3⟩ | ⟨q1, q2, ⟨q3, q4⟩ | ⟨q3, q4⟩⟩) <;> first | omega | contradiction
      have hc1 : (c + 0).toInt = c.toInt + 0 := iAdd rfl (by decide) (by omega) (by omega)
      refine ih (k + 1) b (c + 0) (by omega) (by omega) ?_ (fun j q q2 => ?_) k0 k1
      · rw [show (c + 0) = c from xJ (by omega)]; exact bsM_n g3 hj
      · rcases Nat.lt_succ_iff_lt_or_eq.mp q with q | q
        · exact g4 j q q2
        · subst q; exact absurd q2 hj
    have h5 := qF_ne (cx := (mFo (r).toNatClampNeg).toInt) (cy := 3) rfl (by decide) h5
    refine pm_go (g := (57, [(5, .int (nI k)), (4, .int 0), (3, .int c), (2, .int (mRt r.toNatClampNeg)), (0, .ref 25), (1, .int r)], [.ref 25], _, 0, 0)) rfl ?_
    refine pm_go (g := (60, _, [.ref 28], _, 0, 0)) rfl ?_
    refine pm_go (g := (62, _, [.int (nI k), .ref 28], _, 0, 0)) rfl ?_
    refine pm_sd (g := (63, _, [.int (mOt (nI k).toNatClampNeg)], _, 0, 0)) rfl (pm_inI (by omega) (by omega)) ?_
    refine pm_go (g := (64, _, [.int (mRt r.toNatClampNeg), .int (mOt (nI k).toNatClampNeg)], _, 0, 0)) rfl ?_
    refine pm_if2 (g := (83, [(5, .int (nI k)), (4, .int 0), (3, .int c), (2, .int (mRt r.toNatClampNeg)), (0, .ref 25), (1, .int r)], [], hq g c1 c2 c3 c4 c5 c6 c7 c8 c9 c10 c11 c12 c13 c14 c15 c16 c17 c18 c19 c20 c21 c22 c23 c24 (hc25 mTy mTm mMn mFn mRn mTn mVn mLr mTr mFl mFm mFp mSc mMp mEn) (hc26 mPa) (hc27 mTo) (hc28 mOt) (hc29 mNa) (hc30 mRe) (hc31 mMa) (hc32 mMy) (hc33 mPm) (hc34 mFy) (hc35 mFa) (hc36 mFr) (hc37 mFo) (hc38 mRt) (hc39 mRm) (hc40 mTt) (hc41 mTi) (hc42 mPl) (hc43 mVr) (hc44 mVf) (hc45 mVc) (hc46 mAr) (hc47 mTc) (hc48 mFt) (hc49 mGo) dyn, 0, 0)) (h := (67, [(5, .int (nI k)), (4, .int 0), (3, .int c), (2, .int (mRt r.toNatClampNeg)), (0, .ref 25), (1, .int r)], [], hq g c1 c2 c3 c4 c5 c6 c7 c8 c9 c10 c11 c12 c13 c14 c15 c16 c17 c18 c19 c20 c21 c22 c23 c24 (hc25 mTy mTm mMn mFn mRn mTn mVn mLr mTr mFl mFm mFp mSc mMp mEn) (hc26 mPa) (hc27 mTo) (hc28 mOt) (hc29 mNa) (hc30 mRe) (hc31 mMa) (hc32 mMy) (hc33 mPm) (hc34 mFy) (hc35 mFa) (hc36 mFr) (hc37 mFo) (hc38 mRt) (hc39 mRm) (hc40 mTt) (hc41 mTi) (hc42 mPl) (hc43 mVr) (hc44 mVf) (hc45 mVc) (hc46 mAr) (hc47 mTc) (hc48 mFt) (hc49 mGo) dyn, 0, 0)) rfl (fun h27 => ?_) (fun h27 => ?_)
    ·
      have h27 := qT_ne (cx := (mOt (nI k).toNatClampNeg).toInt) (cy := (mRt r.toNatClampNeg).toInt) rfl rfl h27
      refine pm_go (g := (84, _, [.int 0], _, 0, 0)) rfl ?_
      refine pm_go (g := (137, _, [.int 0], _, 0, 0)) rfl ?_
      refine pm_go (g := (139, [(6, .int 0), (5, .int (nI k)), (4, .int 0), (3, .int c), (2, .int (mRt r.toNatClampNeg)), (0, .ref 25), (1, .int r)], [], _, 0, 0)) rfl ?_
      refine pm_go (g := (140, _, [.int c], _, 0, 0)) rfl ?_
      refine pm_go (g := (142, _, [.int 0, .int c], _, 0, 0)) rfl ?_
      refine pm_brT (g := (149, [(6, .int 0), (5, .int (nI k)), (4, .int 0), (3, .int c), (2, .int (mRt r.toNatClampNeg)), (0, .ref 25), (1, .int r)], [.int c], hq g c1 c2 c3 c4 c5 c6 c7 c8 c9 c10 c11 c12 c13 c14 c15 c16 c17 c18 c19 c20 c21 c22 c23 c24 (hc25 mTy mTm mMn mFn mRn mTn mVn mLr mTr mFl mFm mFp mSc mMp mEn) (hc26 mPa) (hc27 mTo) (hc28 mOt) (hc29 mNa) (hc30 mRe) (hc31 mMa) (hc32 mMy) (hc33 mPm) (hc34 mFy) (hc35 mFa) (hc36 mFr) (hc37 mFo) (hc38 mRt) (hc39 mRm) (hc40 mTt) (hc41 mTi) (hc42 mPl) (hc43 mVr) (hc44 mVf) (hc45 mVc) (hc46 mAr) (hc47 mTc) (hc48 mFt) (hc49 mGo) dyn, 0, 0)) rfl ?_
      refine pm_go (g := (150, _, [.int 0, .int c], _, 0, 0)) rfl ?_
      refine pm_go (g := (151, _, [.int (c + 0)], _, 0, 0)) rfl ?_
      try have h28 : (c + 0).toInt = (c).toInt + 0 := iAdd (x := (c).toInt) (y := 0) rfl (by decide) (by omega) (by omega)
      refine pm_go (g := (152, [(3, .int (c + 0)), (6, .int 0), (5, .int (nI k)), (4, .int 0), (2, .int (mRt r.toNatClampNeg)), (0, .ref 25), (1, .int r)], [], _, 0, 0)) rfl ?_
      refine pm_go (g := (154, _, [.int 0], _, 0, 0)) rfl ?_
      refine pm_brF (h := (157, [(3, .int (c + 0)), (6, .int 0), (5, .int (nI k)), (4, .int 0), (2, .int (mRt r.toNatClampNeg)), (0, .ref 25), (1, .int r)], [], hq g c1 c2 c3 c4 c5 c6 c7 c8 c9 c10 c11 c12 c13 c14 c15 c16 c17 c18 c19 c20 c21 c22 c23 c24 (hc25 mTy mTm mMn mFn mRn mTn mVn mLr mTr mFl mFm mFp mSc mMp mEn) (hc26 mPa) (hc27 mTo) (hc28 mOt) (hc29 mNa) (hc30 mRe) (hc31 mMa) (hc32 mMy) (hc33 mPm) (hc34 mFy) (hc35 mFa) (hc36 mFr) (hc37 mFo) (hc38 mRt) (hc39 mRm) (hc40 mTt) (hc41 mTi) (hc42 mPl) (hc43 mVr) (hc44 mVf) (hc45 mVc) (hc46 mAr) (hc47 mTc) (hc48 mFt) (hc49 mGo) dyn, 0, 0)) rfl ?_
      refine pm_go (g := (159, _, [.int 0], _, 0, 0)) rfl ?_
      refine pm_brT (g := (176, [(3, .int (c + 0)), (6, .int 0), (5, .int (nI k)), (4, .int 0), (2, .int (mRt r.toNatClampNeg)), (0, .ref 25), (1, .int r)], [], hq g c1 c2 c3 c4 c5 c6 c7 c8 c9 c10 c11 c12 c13 c14 c15 c16 c17 c18 c19 c20 c21 c22 c23 c24 (hc25 mTy mTm mMn mFn mRn mTn mVn mLr mTr mFl mFm mFp mSc mMp mEn) (hc26 mPa) (hc27 mTo) (hc28 mOt) (hc29 mNa) (hc30 mRe) (hc31 mMa) (hc32 mMy) (hc33 mPm) (hc34 mFy) (hc35 mFa) (hc36 mFr) (hc37 mFo) (hc38 mRt) (hc39 mRm) (hc40 mTt) (hc41 mTi) (hc42 mPl) (hc43 mVr) (hc44 mVf) (hc45 mVc) (hc46 mAr) (hc47 mTc) (hc48 mFt) (hc49 mGo) dyn, 0, 0)) rfl ?_
      refine pm_go (g := (177, _, [.int 0], _, 0, 0)) rfl ?_
      refine pm_go (g := (179, [(4, .int 0), (3, .int (c + 0)), (6, .int 0), (5, .int (nI k)), (2, .int (mRt r.toNatClampNeg)), (0, .ref 25), (1, .int r)], [], _, 0, 0)) rfl ?_
      refine pm_go (g := (182, [(5, .int ((nI k) + 1)), (4, .int 0), (3, .int (c + 0)), (6, .int 0), (2, .int (mRt r.toNatClampNeg)), (0, .ref 25), (1, .int r)], [], _, 0, 0)) rfl ?_
      refine pm_go (g := (37, _, [], _, 0, 0)) rfl ?_
      refine pm_sub (lv := [(5, .int ((nI k) + 1)), (4, .int 0), (3, .int (c + 0)), (2, .int (mRt r.toNatClampNeg)), (0, .ref 25), (1, .int r)]) ?_ ⟨le_c (List.Mem.head _) (le_c (List.Mem.tail _ (List.Mem.head _)) (le_c (List.Mem.tail _ (List.Mem.tail _ (List.Mem.head _))) (le_c (List.Mem.tail _ (List.Mem.tail _ (List.Mem.tail _ (List.Mem.tail _ (List.Mem.head _))))) (le_c (List.Mem.tail _ (List.Mem.tail _ (List.Mem.tail _ (List.Mem.tail _ (List.Mem.tail _ (List.Mem.head _)))))) (le_c (List.Mem.tail _ (List.Mem.tail _ (List.Mem.tail _ (List.Mem.tail _ (List.Mem.tail _ (List.Mem.tail _ (List.Mem.head _))))))) le_n))))), (show ([5, 4, 3, 6, 2, 0, 1] : List Nat).Nodup by decide)⟩
      rw [nI_1]
      have hj : ¬ exJ mPa mOt mNa mMy mPm mMn (mFo r.toNatClampNeg) (mRt r.toNatClampNeg) (mRm r.toNatClampNeg) k := by rintro (⟨q1, q2, q3⟩ | ⟨q1, q2, ⟨q3, q4⟩ | ⟨q3, q4⟩⟩) <;> first | omega | contradiction
      have hc1 : (c + 0).toInt = c.toInt + 0 := iAdd rfl (by decide) (by omega) (by omega)
      refine ih (k + 1) b (c + 0) (by omega) (by omega) ?_ (fun j q q2 => ?_) k0 k1
      · rw [show (c + 0) = c from xJ (by omega)]; exact bsM_n g3 hj
      · rcases Nat.lt_succ_iff_lt_or_eq.mp q with q | q
        · exact g4 j q q2
        · subst q; exact absurd q2 hj
    have h27 := qF_ne (cx := (mOt (nI k).toNatClampNeg).toInt) (cy := (mRt r.toNatClampNeg).toInt) rfl rfl h27
    refine pm_go (g := (68, [(5, .int (nI k)), (4, .int 0), (3, .int c), (2, .int (mRt r.toNatClampNeg)), (0, .ref 25), (1, .int r)], [.ref 25], _, 0, 0)) rfl ?_
    refine pm_go (g := (71, _, [.ref 29], _, 0, 0)) rfl ?_
    refine pm_go (g := (73, _, [.int (nI k), .ref 29], _, 0, 0)) rfl ?_
    refine pm_sd (g := (74, _, [.int (mNa (nI k).toNatClampNeg)], _, 0, 0)) rfl (pm_inI (by omega) (by omega)) ?_
    refine pm_go (g := (76, _, [.int 6, .int (mNa (nI k).toNatClampNeg)], _, 0, 0)) rfl ?_
    refine pm_if2 (g := (83, [(5, .int (nI k)), (4, .int 0), (3, .int c), (2, .int (mRt r.toNatClampNeg)), (0, .ref 25), (1, .int r)], [], hq g c1 c2 c3 c4 c5 c6 c7 c8 c9 c10 c11 c12 c13 c14 c15 c16 c17 c18 c19 c20 c21 c22 c23 c24 (hc25 mTy mTm mMn mFn mRn mTn mVn mLr mTr mFl mFm mFp mSc mMp mEn) (hc26 mPa) (hc27 mTo) (hc28 mOt) (hc29 mNa) (hc30 mRe) (hc31 mMa) (hc32 mMy) (hc33 mPm) (hc34 mFy) (hc35 mFa) (hc36 mFr) (hc37 mFo) (hc38 mRt) (hc39 mRm) (hc40 mTt) (hc41 mTi) (hc42 mPl) (hc43 mVr) (hc44 mVf) (hc45 mVc) (hc46 mAr) (hc47 mTc) (hc48 mFt) (hc49 mGo) dyn, 0, 0)) (h := (79, [(5, .int (nI k)), (4, .int 0), (3, .int c), (2, .int (mRt r.toNatClampNeg)), (0, .ref 25), (1, .int r)], [], hq g c1 c2 c3 c4 c5 c6 c7 c8 c9 c10 c11 c12 c13 c14 c15 c16 c17 c18 c19 c20 c21 c22 c23 c24 (hc25 mTy mTm mMn mFn mRn mTn mVn mLr mTr mFl mFm mFp mSc mMp mEn) (hc26 mPa) (hc27 mTo) (hc28 mOt) (hc29 mNa) (hc30 mRe) (hc31 mMa) (hc32 mMy) (hc33 mPm) (hc34 mFy) (hc35 mFa) (hc36 mFr) (hc37 mFo) (hc38 mRt) (hc39 mRm) (hc40 mTt) (hc41 mTi) (hc42 mPl) (hc43 mVr) (hc44 mVf) (hc45 mVc) (hc46 mAr) (hc47 mTc) (hc48 mFt) (hc49 mGo) dyn, 0, 0)) rfl (fun h29 => ?_) (fun h29 => ?_)
    ·
      have h29 := qT_ne (cx := (mNa (nI k).toNatClampNeg).toInt) (cy := 6) rfl (by decide) h29
      refine pm_go (g := (84, _, [.int 0], _, 0, 0)) rfl ?_
      refine pm_go (g := (137, _, [.int 0], _, 0, 0)) rfl ?_
      refine pm_go (g := (139, [(6, .int 0), (5, .int (nI k)), (4, .int 0), (3, .int c), (2, .int (mRt r.toNatClampNeg)), (0, .ref 25), (1, .int r)], [], _, 0, 0)) rfl ?_
      refine pm_go (g := (140, _, [.int c], _, 0, 0)) rfl ?_
      refine pm_go (g := (142, _, [.int 0, .int c], _, 0, 0)) rfl ?_
      refine pm_brT (g := (149, [(6, .int 0), (5, .int (nI k)), (4, .int 0), (3, .int c), (2, .int (mRt r.toNatClampNeg)), (0, .ref 25), (1, .int r)], [.int c], hq g c1 c2 c3 c4 c5 c6 c7 c8 c9 c10 c11 c12 c13 c14 c15 c16 c17 c18 c19 c20 c21 c22 c23 c24 (hc25 mTy mTm mMn mFn mRn mTn mVn mLr mTr mFl mFm mFp mSc mMp mEn) (hc26 mPa) (hc27 mTo) (hc28 mOt) (hc29 mNa) (hc30 mRe) (hc31 mMa) (hc32 mMy) (hc33 mPm) (hc34 mFy) (hc35 mFa) (hc36 mFr) (hc37 mFo) (hc38 mRt) (hc39 mRm) (hc40 mTt) (hc41 mTi) (hc42 mPl) (hc43 mVr) (hc44 mVf) (hc45 mVc) (hc46 mAr) (hc47 mTc) (hc48 mFt) (hc49 mGo) dyn, 0, 0)) rfl ?_
      refine pm_go (g := (150, _, [.int 0, .int c], _, 0, 0)) rfl ?_
      refine pm_go (g := (151, _, [.int (c + 0)], _, 0, 0)) rfl ?_
      try have h30 : (c + 0).toInt = (c).toInt + 0 := iAdd (x := (c).toInt) (y := 0) rfl (by decide) (by omega) (by omega)
      refine pm_go (g := (152, [(3, .int (c + 0)), (6, .int 0), (5, .int (nI k)), (4, .int 0), (2, .int (mRt r.toNatClampNeg)), (0, .ref 25), (1, .int r)], [], _, 0, 0)) rfl ?_
      refine pm_go (g := (154, _, [.int 0], _, 0, 0)) rfl ?_
      refine pm_brF (h := (157, [(3, .int (c + 0)), (6, .int 0), (5, .int (nI k)), (4, .int 0), (2, .int (mRt r.toNatClampNeg)), (0, .ref 25), (1, .int r)], [], hq g c1 c2 c3 c4 c5 c6 c7 c8 c9 c10 c11 c12 c13 c14 c15 c16 c17 c18 c19 c20 c21 c22 c23 c24 (hc25 mTy mTm mMn mFn mRn mTn mVn mLr mTr mFl mFm mFp mSc mMp mEn) (hc26 mPa) (hc27 mTo) (hc28 mOt) (hc29 mNa) (hc30 mRe) (hc31 mMa) (hc32 mMy) (hc33 mPm) (hc34 mFy) (hc35 mFa) (hc36 mFr) (hc37 mFo) (hc38 mRt) (hc39 mRm) (hc40 mTt) (hc41 mTi) (hc42 mPl) (hc43 mVr) (hc44 mVf) (hc45 mVc) (hc46 mAr) (hc47 mTc) (hc48 mFt) (hc49 mGo) dyn, 0, 0)) rfl ?_
      refine pm_go (g := (159, _, [.int 0], _, 0, 0)) rfl ?_
      refine pm_brT (g := (176, [(3, .int (c + 0)), (6, .int 0), (5, .int (nI k)), (4, .int 0), (2, .int (mRt r.toNatClampNeg)), (0, .ref 25), (1, .int r)], [], hq g c1 c2 c3 c4 c5 c6 c7 c8 c9 c10 c11 c12 c13 c14 c15 c16 c17 c18 c19 c20 c21 c22 c23 c24 (hc25 mTy mTm mMn mFn mRn mTn mVn mLr mTr mFl mFm mFp mSc mMp mEn) (hc26 mPa) (hc27 mTo) (hc28 mOt) (hc29 mNa) (hc30 mRe) (hc31 mMa) (hc32 mMy) (hc33 mPm) (hc34 mFy) (hc35 mFa) (hc36 mFr) (hc37 mFo) (hc38 mRt) (hc39 mRm) (hc40 mTt) (hc41 mTi) (hc42 mPl) (hc43 mVr) (hc44 mVf) (hc45 mVc) (hc46 mAr) (hc47 mTc) (hc48 mFt) (hc49 mGo) dyn, 0, 0)) rfl ?_
      refine pm_go (g := (177, _, [.int 0], _, 0, 0)) rfl ?_
      refine pm_go (g := (179, [(4, .int 0), (3, .int (c + 0)), (6, .int 0), (5, .int (nI k)), (2, .int (mRt r.toNatClampNeg)), (0, .ref 25), (1, .int r)], [], _, 0, 0)) rfl ?_
      refine pm_go (g := (182, [(5, .int ((nI k) + 1)), (4, .int 0), (3, .int (c + 0)), (6, .int 0), (2, .int (mRt r.toNatClampNeg)), (0, .ref 25), (1, .int r)], [], _, 0, 0)) rfl ?_
      refine pm_go (g := (37, _, [], _, 0, 0)) rfl ?_
      refine pm_sub (lv := [(5, .int ((nI k) + 1)), (4, .int 0), (3, .int (c + 0)), (2, .int (mRt r.toNatClampNeg)), (0, .ref 25), (1, .int r)]) ?_ ⟨le_c (List.Mem.head _) (le_c (List.Mem.tail _ (List.Mem.head _)) (le_c (List.Mem.tail _ (List.Mem.tail _ (List.Mem.head _))) (le_c (List.Mem.tail _ (List.Mem.tail _ (List.Mem.tail _ (List.Mem.tail _ (List.Mem.head _))))) (le_c (List.Mem.tail _ (List.Mem.tail _ (List.Mem.tail _ (List.Mem.tail _ (List.Mem.tail _ (List.Mem.head _)))))) (le_c (List.Mem.tail _ (List.Mem.tail _ (List.Mem.tail _ (List.Mem.tail _ (List.Mem.tail _ (List.Mem.tail _ (List.Mem.head _))))))) le_n))))), (show ([5, 4, 3, 6, 2, 0, 1] : List Nat).Nodup by decide)⟩
      rw [nI_1]
      have hj : ¬ exJ mPa mOt mNa mMy mPm mMn (mFo r.toNatClampNeg) (mRt r.toNatClampNeg) (mRm r.toNatClampNeg) k := by rintro (⟨q1, q2, q3⟩ | ⟨q1, q2, ⟨q3, q4⟩ | ⟨q3, q4⟩⟩) <;> first | omega | contradiction
      have hc1 : (c + 0).toInt = c.toInt + 0 := iAdd rfl (by decide) (by omega) (by omega)
      refine ih (k + 1) b (c + 0) (by omega) (by omega) ?_ (fun j q q2 => ?_) k0 k1
      · rw [show (c + 0) = c from xJ (by omega)]; exact bsM_n g3 hj
      · rcases Nat.lt_succ_iff_lt_or_eq.mp q with q | q
        · exact g4 j q q2
        · subst q; exact absurd q2 hj
    have h29 := qF_ne (cx := (mNa (nI k).toNatClampNeg).toInt) (cy := 6) rfl (by decide) h29
    refine pm_go (g := (80, [(5, .int (nI k)), (4, .int 0), (3, .int c), (2, .int (mRt r.toNatClampNeg)), (0, .ref 25), (1, .int r)], [.int 1], _, 0, 0)) rfl ?_
    refine pm_go (g := (137, _, [.int 1], _, 0, 0)) rfl ?_
    refine pm_go (g := (139, [(6, .int 1), (5, .int (nI k)), (4, .int 0), (3, .int c), (2, .int (mRt r.toNatClampNeg)), (0, .ref 25), (1, .int r)], [], _, 0, 0)) rfl ?_
    refine pm_go (g := (140, _, [.int c], _, 0, 0)) rfl ?_
    refine pm_go (g := (142, _, [.int 1, .int c], _, 0, 0)) rfl ?_
    refine pm_brF (h := (145, [(6, .int 1), (5, .int (nI k)), (4, .int 0), (3, .int c), (2, .int (mRt r.toNatClampNeg)), (0, .ref 25), (1, .int r)], [.int c], hq g c1 c2 c3 c4 c5 c6 c7 c8 c9 c10 c11 c12 c13 c14 c15 c16 c17 c18 c19 c20 c21 c22 c23 c24 (hc25 mTy mTm mMn mFn mRn mTn mVn mLr mTr mFl mFm mFp mSc mMp mEn) (hc26 mPa) (hc27 mTo) (hc28 mOt) (hc29 mNa) (hc30 mRe) (hc31 mMa) (hc32 mMy) (hc33 mPm) (hc34 mFy) (hc35 mFa) (hc36 mFr) (hc37 mFo) (hc38 mRt) (hc39 mRm) (hc40 mTt) (hc41 mTi) (hc42 mPl) (hc43 mVr) (hc44 mVf) (hc45 mVc) (hc46 mAr) (hc47 mTc) (hc48 mFt) (hc49 mGo) dyn, 0, 0)) rfl ?_
    refine pm_go (g := (146, _, [.int 1, .int c], _, 0, 0)) rfl ?_
    refine pm_go (g := (150, _, [.int 1, .int c], _, 0, 0)) rfl ?_
    refine pm_go (g := (151, _, [.int (c + 1)], _, 0, 0)) rfl ?_
    try have h31 : (c + 1).toInt = (c).toInt + 1 := iAdd (x := (c).toInt) (y := 1) rfl (by decide) (by omega) (by omega)
    refine pm_go (g := (152, [(3, .int (c + 1)), (6, .int 1), (5, .int (nI k)), (4, .int 0), (2, .int (mRt r.toNatClampNeg)), (0, .ref 25), (1, .int r)], [], _, 0, 0)) rfl ?_
    refine pm_go (g := (154, _, [.int 0], _, 0, 0)) rfl ?_
    refine pm_brF (h := (157, [(3, .int (c + 1)), (6, .int 1), (5, .int (nI k)), (4, .int 0), (2, .int (mRt r.toNatClampNeg)), (0, .ref 25), (1, .int r)], [], hq g c1 c2 c3 c4 c5 c6 c7 c8 c9 c10 c11 c12 c13 c14 c15 c16 c17 c18 c19 c20 c21 c22 c23 c24 (hc25 mTy mTm mMn mFn mRn mTn mVn mLr mTr mFl mFm mFp mSc mMp mEn) (hc26 mPa) (hc27 mTo) (hc28 mOt) (hc29 mNa) (hc30 mRe) (hc31 mMa) (hc32 mMy) (hc33 mPm) (hc34 mFy) (hc35 mFa) (hc36 mFr) (hc37 mFo) (hc38 mRt) (hc39 mRm) (hc40 mTt) (hc41 mTi) (hc42 mPl) (hc43 mVr) (hc44 mVf) (hc45 mVc) (hc46 mAr) (hc47 mTc) (hc48 mFt) (hc49 mGo) dyn, 0, 0)) rfl ?_
    refine pm_go (g := (159, _, [.int 1], _, 0, 0)) rfl ?_
    refine pm_brF (h := (162, [(3, .int (c + 1)), (6, .int 1), (5, .int (nI k)), (4, .int 0), (2, .int (mRt r.toNatClampNeg)), (0, .ref 25), (1, .int r)], [], hq g c1 c2 c3 c4 c5 c6 c7 c8 c9 c10 c11 c12 c13 c14 c15 c16 c17 c18 c19 c20 c21 c22 c23 c24 (hc25 mTy mTm mMn mFn mRn mTn mVn mLr mTr mFl mFm mFp mSc mMp mEn) (hc26 mPa) (hc27 mTo) (hc28 mOt) (hc29 mNa) (hc30 mRe) (hc31 mMa) (hc32 mMy) (hc33 mPm) (hc34 mFy) (hc35 mFa) (hc36 mFr) (hc37 mFo) (hc38 mRt) (hc39 mRm) (hc40 mTt) (hc41 mTi) (hc42 mPl) (hc43 mVr) (hc44 mVf) (hc45 mVc) (hc46 mAr) (hc47 mTc) (hc48 mFt) (hc49 mGo) dyn, 0, 0)) rfl ?_
    refine pm_go (g := (163, _, [.ref 25], _, 0, 0)) rfl ?_
    refine pm_go (g := (165, _, [.int (nI k), .ref 25], _, 0, 0)) rfl ?_
    refine pm_go (g := (166, _, [.int 4, .int (nI k), .ref 25], _, 0, 0)) rfl ?_
    refine pm_callD (z := 139) (as := [.ref 25, .int (nI k), .int 4]) (rest := []) rfl ?_
    have h32 : (4 : Int32).toInt = 4 := by decide
    refine w_X12_isMark (nI k) 4 (by omega) (fun h33 => ?_) (fun h34 => ?_)
    ·
      show pm_WP 168 (169, [(3, .int (c + 1)), (6, .int 1), (5, .int (nI k)), (4, .int 0), (2, .int (mRt r.toNatClampNeg)), (0, .ref 25), (1, .int r)], [.int 1], _, 0, 0) _
      refine pm_brF (h := (172, [(3, .int (c + 1)), (6, .int 1), (5, .int (nI k)), (4, .int 0), (2, .int (mRt r.toNatClampNeg)), (0, .ref 25), (1, .int r)], [], hq g c1 c2 c3 c4 c5 c6 c7 c8 c9 c10 c11 c12 c13 c14 c15 c16 c17 c18 c19 c20 c21 c22 c23 c24 (hc25 mTy mTm mMn mFn mRn mTn mVn mLr mTr mFl mFm mFp mSc mMp mEn) (hc26 mPa) (hc27 mTo) (hc28 mOt) (hc29 mNa) (hc30 mRe) (hc31 mMa) (hc32 mMy) (hc33 mPm) (hc34 mFy) (hc35 mFa) (hc36 mFr) (hc37 mFo) (hc38 mRt) (hc39 mRm) (hc40 mTt) (hc41 mTi) (hc42 mPl) (hc43 mVr) (hc44 mVf) (hc45 mVc) (hc46 mAr) (hc47 mTc) (hc48 mFt) (hc49 mGo) dyn, 0, 0)) rfl ?_
      refine pm_go (g := (173, _, [.int 1], _, 0, 0)) rfl ?_
      refine pm_go (g := (177, _, [.int 1], _, 0, 0)) rfl ?_
      refine pm_go (g := (179, [(4, .int 1), (3, .int (c + 1)), (6, .int 1), (5, .int (nI k)), (2, .int (mRt r.toNatClampNeg)), (0, .ref 25), (1, .int r)], [], _, 0, 0)) rfl ?_
      refine pm_go (g := (182, [(5, .int ((nI k) + 1)), (4, .int 1), (3, .int (c + 1)), (6, .int 1), (2, .int (mRt r.toNatClampNeg)), (0, .ref 25), (1, .int r)], [], _, 0, 0)) rfl ?_
      refine pm_go (g := (37, _, [], _, 0, 0)) rfl ?_
      refine pm_sub (lv := [(5, .int ((nI k) + 1)), (4, .int 1), (3, .int (c + 1)), (2, .int (mRt r.toNatClampNeg)), (0, .ref 25), (1, .int r)]) ?_ ⟨le_c (List.Mem.head _) (le_c (List.Mem.tail _ (List.Mem.head _)) (le_c (List.Mem.tail _ (List.Mem.tail _ (List.Mem.head _))) (le_c (List.Mem.tail _ (List.Mem.tail _ (List.Mem.tail _ (List.Mem.tail _ (List.Mem.head _))))) (le_c (List.Mem.tail _ (List.Mem.tail _ (List.Mem.tail _ (List.Mem.tail _ (List.Mem.tail _ (List.Mem.head _)))))) (le_c (List.Mem.tail _ (List.Mem.tail _ (List.Mem.tail _ (List.Mem.tail _ (List.Mem.tail _ (List.Mem.tail _ (List.Mem.head _))))))) le_n))))), (show ([5, 4, 3, 6, 2, 0, 1] : List Nat).Nodup by decide)⟩
      rw [nI_1]
      have hj : exJ mPa mOt mNa mMy mPm mMn (mFo r.toNatClampNeg) (mRt r.toNatClampNeg) (mRm r.toNatClampNeg) k := by first | exact Or.inl ⟨by omega, by omega, by omega⟩ | exact Or.inr ⟨by omega, by omega, Or.inl ⟨by omega, by assumption⟩⟩ | exact Or.inr ⟨by omega, by omega, Or.inr ⟨by omega, by assumption⟩⟩
      have hc1 : (c + 1).toInt = c.toInt + 1 := iAdd rfl (by decide) (by omega) (by omega)
      exact w_exact_loop1 r hr ht hp hy hn n (k + 1) (c + 1) (by omega) (by omega) (by omega) (k1 (fun q => absurd (q.1 k (by omega) hj) (by omega)))
    show pm_WP 168 (169, [(3, .int (c + 1)), (6, .int 1), (5, .int (nI k)), (4, .int 0), (2, .int (mRt r.toNatClampNeg)), (0, .ref 25), (1, .int r)], [.int 0], hq g c1 c2 c3 c4 c5 c6 c7 c8 c9 c10 c11 c12 c13 c14 c15 c16 c17 c18 c19 c20 c21 c22 c23 c24 (hc25 mTy mTm mMn mFn mRn mTn mVn mLr mTr mFl mFm mFp mSc mMp mEn) (hc26 mPa) (hc27 mTo) (hc28 mOt) (hc29 mNa) (hc30 mRe) (hc31 mMa) (hc32 mMy) (hc33 mPm) (hc34 mFy) (hc35 mFa) (hc36 mFr) (hc37 mFo) (hc38 mRt) (hc39 mRm) (hc40 mTt) (hc41 mTi) (hc42 mPl) (hc43 mVr) (hc44 mVf) (hc45 mVc) (hc46 mAr) (hc47 mTc) (hc48 mFt) (hc49 mGo) dyn, 0, 0) _
    refine pm_brT (g := (176, [(3, .int (c + 1)), (6, .int 1), (5, .int (nI k)), (4, .int 0), (2, .int (mRt r.toNatClampNeg)), (0, .ref 25), (1, .int r)], [], hq g c1 c2 c3 c4 c5 c6 c7 c8 c9 c10 c11 c12 c13 c14 c15 c16 c17 c18 c19 c20 c21 c22 c23 c24 (hc25 mTy mTm mMn mFn mRn mTn mVn mLr mTr mFl mFm mFp mSc mMp mEn) (hc26 mPa) (hc27 mTo) (hc28 mOt) (hc29 mNa) (hc30 mRe) (hc31 mMa) (hc32 mMy) (hc33 mPm) (hc34 mFy) (hc35 mFa) (hc36 mFr) (hc37 mFo) (hc38 mRt) (hc39 mRm) (hc40 mTt) (hc41 mTi) (hc42 mPl) (hc43 mVr) (hc44 mVf) (hc45 mVc) (hc46 mAr) (hc47 mTc) (hc48 mFt) (hc49 mGo) dyn, 0, 0)) rfl ?_
    refine pm_go (g := (177, _, [.int 0], _, 0, 0)) rfl ?_
    refine pm_go (g := (179, [(4, .int 0), (3, .int (c + 1)), (6, .int 1), (5, .int (nI k)), (2, .int (mRt r.toNatClampNeg)), (0, .ref 25), (1, .int r)], [], _, 0, 0)) rfl ?_
    refine pm_go (g := (182, [(5, .int ((nI k) + 1)), (4, .int 0), (3, .int (c + 1)), (6, .int 1), (2, .int (mRt r.toNatClampNeg)), (0, .ref 25), (1, .int r)], [], _, 0, 0)) rfl ?_
    refine pm_go (g := (37, _, [], _, 0, 0)) rfl ?_
    refine pm_sub (lv := [(5, .int ((nI k) + 1)), (4, .int 0), (3, .int (c + 1)), (2, .int (mRt r.toNatClampNeg)), (0, .ref 25), (1, .int r)]) ?_ ⟨le_c (List.Mem.head _) (le_c (List.Mem.tail _ (List.Mem.head _)) (le_c (List.Mem.tail _ (List.Mem.tail _ (List.Mem.head _))) (le_c (List.Mem.tail _ (List.Mem.tail _ (List.Mem.tail _ (List.Mem.tail _ (List.Mem.head _))))) (le_c (List.Mem.tail _ (List.Mem.tail _ (List.Mem.tail _ (List.Mem.tail _ (List.Mem.tail _ (List.Mem.head _)))))) (le_c (List.Mem.tail _ (List.Mem.tail _ (List.Mem.tail _ (List.Mem.tail _ (List.Mem.tail _ (List.Mem.tail _ (List.Mem.head _))))))) le_n))))), (show ([5, 4, 3, 6, 2, 0, 1] : List Nat).Nodup by decide)⟩
    rw [nI_1]
    have hj : exJ mPa mOt mNa mMy mPm mMn (mFo r.toNatClampNeg) (mRt r.toNatClampNeg) (mRm r.toNatClampNeg) k := by first | exact Or.inl ⟨by omega, by omega, by omega⟩ | exact Or.inr ⟨by omega, by omega, Or.inl ⟨by omega, by assumption⟩⟩ | exact Or.inr ⟨by omega, by omega, Or.inr ⟨by omega, by assumption⟩⟩
    have hc1 : (c + 1).toInt = c.toInt + 1 := iAdd rfl (by decide) (by omega) (by omega)
    refine ih (k + 1) (nI k) (c + 1) (by omega) (by omega) (bsM_y g3 hj hc1) (fun j q q2 => ?_) k0 k1
    rcases Nat.lt_succ_iff_lt_or_eq.mp q with q | q
    · exact g4 j q q2
    · subst q; omega
set_option maxRecDepth 100000 in
set_option maxHeartbeats 4000000 in
theorem w_X12_exact {g c1 c2 c3 c4 c5 c6 c7 c8 c9 c10 c11 c12 c13 c14 c15 c16 c17 c18 c19 c20 c21 c22 c23 c24 : pm_C} {dyn : pm_H} {mTy : Int32} {mPa : Nat → Int32} {mTo : Nat → Int32} {mTm : Int32} {mMn : Int32} {mOt : Nat → Int32} {mNa : Nat → Int32} {mRe : Nat → Int32} {mMa : Nat → Int32} {mMy : Nat → Int32} {mPm : Nat → Int32} {mFn : Int32} {mFy : Nat → Int32} {mFa : Nat → Int32} {mFr : Nat → Int32} {mRn : Int32} {mFo : Nat → Int32} {mRt : Nat → Int32} {mRm : Nat → Int32} {mTn : Int32} {mTt : Nat → Int32} {mTi : Nat → Int32} {mPl : Nat → Int32} {mVn : Int32} {mVr : Nat → Int32} {mVf : Nat → Int32} {mVc : Nat → Int32} {mAr : Nat → Int32} {mLr : Int32} {mTc : Nat → Int32} {mTr : Int32} {mFl : Int32} {mFt : Nat → Int32} {mFm : Int32} {mFp : Int32} {mSc : Int32} {mMp : Int32} {mEn : Int32} {mGo : Nat → Int32} {Q : pm_Q} (r : Int32) (p0 : 0 ≤ mRn.toInt ∧ mRn.toInt ≤ 30) (p1 : 2 ≤ mTy.toInt ∧ mTy.toInt ≤ 10) (p2 : rfD mRn mTy mFo mRt) (p3 : paD mPa) (p4 : myD mMy) (p5 : 0 ≤ mMn.toInt ∧ mMn.toInt ≤ 40) (k0 : ¬ (0 ≤ r.toInt ∧ r.toInt < mRn.toInt) → Q (some (.int (-1))) (hq g c1 c2 c3 c4 c5 c6 c7 c8 c9 c10 c11 c12 c13 c14 c15 c16 c17 c18 c19 c20 c21 c22 c23 c24 (hc25 mTy mTm mMn mFn mRn mTn mVn mLr mTr mFl mFm mFp mSc mMp mEn) (hc26 mPa) (hc27 mTo) (hc28 mOt) (hc29 mNa) (hc30 mRe) (hc31 mMa) (hc32 mMy) (hc33 mPm) (hc34 mFy) (hc35 mFa) (hc36 mFr) (hc37 mFo) (hc38 mRt) (hc39 mRm) (hc40 mTt) (hc41 mTi) (hc42 mPl) (hc43 mVr) (hc44 mVf) (hc45 mVc) (hc46 mAr) (hc47 mTc) (hc48 mFt) (hc49 mGo) dyn)) (k1 : ((0 ≤ r.toInt ∧ r.toInt < mRn.toInt) ∧ (mFo r.toNatClampNeg).toInt ≠ 4) → (exM mPa mOt mNa mMy mPm mMa mMn (mFo r.toNatClampNeg) (mRt r.toNatClampNeg) (mRm r.toNatClampNeg)) → Q (some (.int 1)) (hq g c1 c2 c3 c4 c5 c6 c7 c8 c9 c10 c11 c12 c13 c14 c15 c16 c17 c18 c19 c20 c21 c22 c23 c24 (hc25 mTy mTm mMn mFn mRn mTn mVn mLr mTr mFl mFm mFp mSc mMp mEn) (hc26 mPa) (hc27 mTo) (hc28 mOt) (hc29 mNa) (hc30 mRe) (hc31 mMa) (hc32 mMy) (hc33 mPm) (hc34 mFy) (hc35 mFa) (hc36 mFr) (hc37 mFo) (hc38 mRt) (hc39 mRm) (hc40 mTt) (hc41 mTi) (hc42 mPl) (hc43 mVr) (hc44 mVf) (hc45 mVc) (hc46 mAr) (hc47 mTc) (hc48 mFt) (hc49 mGo) dyn)) (k2 : ((0 ≤ r.toInt ∧ r.toInt < mRn.toInt) ∧ (mFo r.toNatClampNeg).toInt ≠ 4) → (¬ exM mPa mOt mNa mMy mPm mMa mMn (mFo r.toNatClampNeg) (mRt r.toNatClampNeg) (mRm r.toNatClampNeg)) → Q (some (.int 0)) (hq g c1 c2 c3 c4 c5 c6 c7 c8 c9 c10 c11 c12 c13 c14 c15 c16 c17 c18 c19 c20 c21 c22 c23 c24 (hc25 mTy mTm mMn mFn mRn mTn mVn mLr mTr mFl mFm mFp mSc mMp mEn) (hc26 mPa) (hc27 mTo) (hc28 mOt) (hc29 mNa) (hc30 mRe) (hc31 mMa) (hc32 mMy) (hc33 mPm) (hc34 mFy) (hc35 mFa) (hc36 mFr) (hc37 mFo) (hc38 mRt) (hc39 mRm) (hc40 mTt) (hc41 mTi) (hc42 mPl) (hc43 mVr) (hc44 mVf) (hc45 mVc) (hc46 mAr) (hc47 mTc) (hc48 mFt) (hc49 mGo) dyn)) (k3 : (0 ≤ r.toInt ∧ r.toInt < mRn.toInt) ∧ (mFo r.toNatClampNeg).toInt = 4 → Q (some (.int 1)) (hq g c1 c2 c3 c4 c5 c6 c7 c8 c9 c10 c11 c12 c13 c14 c15 c16 c17 c18 c19 c20 c21 c22 c23 c24 (hc25 mTy mTm mMn mFn mRn mTn mVn mLr mTr mFl mFm mFp mSc mMp mEn) (hc26 mPa) (hc27 mTo) (hc28 mOt) (hc29 mNa) (hc30 mRe) (hc31 mMa) (hc32 mMy) (hc33 mPm) (hc34 mFy) (hc35 mFa) (hc36 mFr) (hc37 mFo) (hc38 mRt) (hc39 mRm) (hc40 mTt) (hc41 mTi) (hc42 mPl) (hc43 mVr) (hc44 mVf) (hc45 mVc) (hc46 mAr) (hc47 mTc) (hc48 mFt) (hc49 mGo) dyn)) : pm_WP 168 (0, [(0, .ref 25), (1, .int r)], [], hq g c1 c2 c3 c4 c5 c6 c7 c8 c9 c10 c11 c12 c13 c14 c15 c16 c17 c18 c19 c20 c21 c22 c23 c24 (hc25 mTy mTm mMn mFn mRn mTn mVn mLr mTr mFl mFm mFp mSc mMp mEn) (hc26 mPa) (hc27 mTo) (hc28 mOt) (hc29 mNa) (hc30 mRe) (hc31 mMa) (hc32 mMy) (hc33 mPm) (hc34 mFy) (hc35 mFa) (hc36 mFr) (hc37 mFo) (hc38 mRt) (hc39 mRm) (hc40 mTt) (hc41 mTi) (hc42 mPl) (hc43 mVr) (hc44 mVf) (hc45 mVc) (hc46 mAr) (hc47 mTc) (hc48 mFt) (hc49 mGo) dyn, 0, 0) Q := by
  have hrf := fun q : (0 ≤ r.toInt ∧ r.toInt < mRn.toInt) => rfD_at p2 q
  refine pm_go (g := (1, [(0, .ref 25), (1, .int r)], [.ref 25], hq g c1 c2 c3 c4 c5 c6 c7 c8 c9 c10 c11 c12 c13 c14 c15 c16 c17 c18 c19 c20 c21 c22 c23 c24 (hc25 mTy mTm mMn mFn mRn mTn mVn mLr mTr mFl mFm mFp mSc mMp mEn) (hc26 mPa) (hc27 mTo) (hc28 mOt) (hc29 mNa) (hc30 mRe) (hc31 mMa) (hc32 mMy) (hc33 mPm) (hc34 mFy) (hc35 mFa) (hc36 mFr) (hc37 mFo) (hc38 mRt) (hc39 mRm) (hc40 mTt) (hc41 mTi) (hc42 mPl) (hc43 mVr) (hc44 mVf) (hc45 mVc) (hc46 mAr) (hc47 mTc) (hc48 mFt) (hc49 mGo) dyn, 0, 0)) rfl ?_
  refine pm_go (g := (2, _, [.int r, .ref 25], _, 0, 0)) rfl ?_
  refine pm_callD (z := 160) (as := [.ref 25, .int r]) (rest := []) rfl ?_
  refine w_X12_isReference r (by omega) (fun h1 => ?_) (fun h2 => ?_)
  ·
    show pm_WP 168 (5, [(0, .ref 25), (1, .int r)], [.int 1], _, 0, 0) _
    refine pm_brT (g := (10, [(0, .ref 25), (1, .int r)], [], hq g c1 c2 c3 c4 c5 c6 c7 c8 c9 c10 c11 c12 c13 c14 c15 c16 c17 c18 c19 c20 c21 c22 c23 c24 (hc25 mTy mTm mMn mFn mRn mTn mVn mLr mTr mFl mFm mFp mSc mMp mEn) (hc26 mPa) (hc27 mTo) (hc28 mOt) (hc29 mNa) (hc30 mRe) (hc31 mMa) (hc32 mMy) (hc33 mPm) (hc34 mFy) (hc35 mFa) (hc36 mFr) (hc37 mFo) (hc38 mRt) (hc39 mRm) (hc40 mTt) (hc41 mTi) (hc42 mPl) (hc43 mVr) (hc44 mVf) (hc45 mVc) (hc46 mAr) (hc47 mTc) (hc48 mFt) (hc49 mGo) dyn, 0, 0)) rfl ?_
    refine pm_go (g := (11, _, [.ref 25], _, 0, 0)) rfl ?_
    refine pm_go (g := (14, _, [.ref 38], _, 0, 0)) rfl ?_
    refine pm_go (g := (15, _, [.int r, .ref 38], _, 0, 0)) rfl ?_
    refine pm_sd (g := (16, _, [.int (mRt (r).toNatClampNeg)], _, 0, 0)) rfl (pm_inI (by omega) (by omega)) ?_
    refine pm_go (g := (17, [(2, .int (mRt (r).toNatClampNeg)), (0, .ref 25), (1, .int r)], [], _, 0, 0)) rfl ?_
    refine pm_go (g := (18, _, [.ref 25], _, 0, 0)) rfl ?_
    refine pm_go (g := (21, _, [.ref 37], _, 0, 0)) rfl ?_
    refine pm_go (g := (22, _, [.int r, .ref 37], _, 0, 0)) rfl ?_
    refine pm_sd (g := (23, _, [.int (mFo (r).toNatClampNeg)], _, 0, 0)) rfl (pm_inI (by omega) (by omega)) ?_
    refine pm_go (g := (24, _, [.int 4, .int (mFo (r).toNatClampNeg)], _, 0, 0)) rfl ?_
    refine pm_if2 (g := (29, [(2, .int (mRt (r).toNatClampNeg)), (0, .ref 25), (1, .int r)], [], hq g c1 c2 c3 c4 c5 c6 c7 c8 c9 c10 c11 c12 c13 c14 c15 c16 c17 c18 c19 c20 c21 c22 c23 c24 (hc25 mTy mTm mMn mFn mRn mTn mVn mLr mTr mFl mFm mFp mSc mMp mEn) (hc26 mPa) (hc27 mTo) (hc28 mOt) (hc29 mNa) (hc30 mRe) (hc31 mMa) (hc32 mMy) (hc33 mPm) (hc34 mFy) (hc35 mFa) (hc36 mFr) (hc37 mFo) (hc38 mRt) (hc39 mRm) (hc40 mTt) (hc41 mTi) (hc42 mPl) (hc43 mVr) (hc44 mVf) (hc45 mVc) (hc46 mAr) (hc47 mTc) (hc48 mFt) (hc49 mGo) dyn, 0, 0)) (h := (27, [(2, .int (mRt (r).toNatClampNeg)), (0, .ref 25), (1, .int r)], [], hq g c1 c2 c3 c4 c5 c6 c7 c8 c9 c10 c11 c12 c13 c14 c15 c16 c17 c18 c19 c20 c21 c22 c23 c24 (hc25 mTy mTm mMn mFn mRn mTn mVn mLr mTr mFl mFm mFp mSc mMp mEn) (hc26 mPa) (hc27 mTo) (hc28 mOt) (hc29 mNa) (hc30 mRe) (hc31 mMa) (hc32 mMy) (hc33 mPm) (hc34 mFy) (hc35 mFa) (hc36 mFr) (hc37 mFo) (hc38 mRt) (hc39 mRm) (hc40 mTt) (hc41 mTi) (hc42 mPl) (hc43 mVr) (hc44 mVf) (hc45 mVc) (hc46 mAr) (hc47 mTc) (hc48 mFt) (hc49 mGo) dyn, 0, 0)) rfl (fun h4 => ?_) (fun h4 => ?_)
    ·
      have h4 := qT_ne (cx := (mFo (r).toNatClampNeg).toInt) (cy := 4) rfl (by decide) h4
      refine pm_go (g := (30, _, [.int 0], _, 0, 0)) rfl ?_
      refine pm_go (g := (31, [(3, .int 0), (2, .int (mRt (r).toNatClampNeg)), (0, .ref 25), (1, .int r)], [], _, 0, 0)) rfl ?_
      refine pm_go (g := (32, _, [.int 0], _, 0, 0)) rfl ?_
      refine pm_go (g := (34, [(4, .int 0), (3, .int 0), (2, .int (mRt (r).toNatClampNeg)), (0, .ref 25), (1, .int r)], [], _, 0, 0)) rfl ?_
      refine pm_go (g := (35, _, [.int 0], _, 0, 0)) rfl ?_
      refine pm_go (g := (37, [(5, .int 0), (4, .int 0), (3, .int 0), (2, .int (mRt (r).toNatClampNeg)), (0, .ref 25), (1, .int r)], [], _, 0, 0)) rfl ?_
      exact w_exact_loop r (by omega) (by omega) p3 p4 p5 41 0 0 0 (by omega) (by omega) bs_0 (fun j q => absurd q (Nat.not_lt_zero j)) (k1 (by omega)) (k2 (by omega))
    have h4 := qF_ne (cx := (mFo (r).toNatClampNeg).toInt) (cy := 4) rfl (by decide) h4
    refine pm_go (g := (28, [(2, .int (mRt (r).toNatClampNeg)), (0, .ref 25), (1, .int r)], [.int 1], _, 0, 0)) rfl ?_
    first | exact pm_ret rfl (k0 (by omega)) | exact pm_ret rfl (k3 (by omega))
  show pm_WP 168 (5, [(0, .ref 25), (1, .int r)], [.int 0], hq g c1 c2 c3 c4 c5 c6 c7 c8 c9 c10 c11 c12 c13 c14 c15 c16 c17 c18 c19 c20 c21 c22 c23 c24 (hc25 mTy mTm mMn mFn mRn mTn mVn mLr mTr mFl mFm mFp mSc mMp mEn) (hc26 mPa) (hc27 mTo) (hc28 mOt) (hc29 mNa) (hc30 mRe) (hc31 mMa) (hc32 mMy) (hc33 mPm) (hc34 mFy) (hc35 mFa) (hc36 mFr) (hc37 mFo) (hc38 mRt) (hc39 mRm) (hc40 mTt) (hc41 mTi) (hc42 mPl) (hc43 mVr) (hc44 mVf) (hc45 mVc) (hc46 mAr) (hc47 mTc) (hc48 mFt) (hc49 mGo) dyn, 0, 0) _
  refine pm_brF (h := (8, [(0, .ref 25), (1, .int r)], [], hq g c1 c2 c3 c4 c5 c6 c7 c8 c9 c10 c11 c12 c13 c14 c15 c16 c17 c18 c19 c20 c21 c22 c23 c24 (hc25 mTy mTm mMn mFn mRn mTn mVn mLr mTr mFl mFm mFp mSc mMp mEn) (hc26 mPa) (hc27 mTo) (hc28 mOt) (hc29 mNa) (hc30 mRe) (hc31 mMa) (hc32 mMy) (hc33 mPm) (hc34 mFy) (hc35 mFa) (hc36 mFr) (hc37 mFo) (hc38 mRt) (hc39 mRm) (hc40 mTt) (hc41 mTi) (hc42 mPl) (hc43 mVr) (hc44 mVf) (hc45 mVc) (hc46 mAr) (hc47 mTc) (hc48 mFt) (hc49 mGo) dyn, 0, 0)) rfl ?_
  refine pm_go (g := (9, _, [.int (-1)], _, 0, 0)) rfl ?_
  first | exact pm_ret rfl (k0 (by omega)) | exact pm_ret rfl (k3 (by omega))
