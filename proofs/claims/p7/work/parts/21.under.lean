/-- the reference's way up from x: is y met -/
def uR (f : Nat → Int32) : Nat → Int32 → Int32 → Bool
  | 0, x, y => decide (x = y)
  | n + 1, x, y => if x = y then true else if 0 ≤ x.toInt ∧ x.toInt ≤ 9 then uR f n (f x.toNatClampNeg) y else false
theorem uR_eq {f : Nat → Int32} {n : Nat} {x y : Int32} (h : x.toInt = y.toInt) : uR f n x y = true := by
  have e := Int32.toInt_inj.mp h
  subst e
  cases n <;> simp [uR]
theorem uR_out {f : Nat → Int32} {n : Nat} {x y : Int32} (h : x.toInt ≠ y.toInt) (h2 : x.toInt < 0 ∨ 9 < x.toInt) : uR f n x y = false := by
  have e : ¬ x = y := fun q => h (by rw [q])
  cases n with
  | zero => simp [uR, e]
  | succ n =>
    unfold uR
    rw [if_neg e, if_neg (by omega)]
theorem uR_step {f : Nat → Int32} {n : Nat} {x y : Int32} (h : x.toInt ≠ y.toInt) (h1 : 0 ≤ x.toInt) (h2 : x.toInt ≤ 9) : uR f (n + 1) x y = uR f n (f x.toNatClampNeg) y := by
  have e : ¬ x = y := fun q => h (by rw [q])
  show (if x = y then true else if 0 ≤ x.toInt ∧ x.toInt ≤ 9 then uR f n (f x.toNatClampNeg) y else false) = _
  rw [if_neg e, if_pos ⟨h1, h2⟩]
theorem xN {x : Int32} (h : 0 ≤ x.toInt) : (x.toNatClampNeg : Int) = x.toInt := Int.toNat_of_nonneg h
/-- the parents lie below -/
def paD (f : Nat → Int32) : Prop := ∀ k : Nat, k ≤ 9 → (f k).toInt < k
set_option maxRecDepth 100000 in
set_option maxHeartbeats 4000000 in
theorem w_isUnder_loop {g c1 c2 c3 c4 c5 c6 c7 c8 c9 c10 c11 c12 c13 c14 c15 c16 c17 c18 c19 c20 c21 c22 c23 c24 : pm_C} {dyn : pm_H} {mTy : Int32} {mPa : Nat → Int32} {mTo : Nat → Int32} {mTm : Int32} {mMn : Int32} {mOt : Nat → Int32} {mNa : Nat → Int32} {mRe : Nat → Int32} {mMa : Nat → Int32} {mMy : Nat → Int32} {mPm : Nat → Int32} {mFn : Int32} {mFy : Nat → Int32} {mFa : Nat → Int32} {mFr : Nat → Int32} {mRn : Int32} {mFo : Nat → Int32} {mRt : Nat → Int32} {mRm : Nat → Int32} {mTn : Int32} {mTt : Nat → Int32} {mTi : Nat → Int32} {mPl : Nat → Int32} {mVn : Int32} {mVr : Nat → Int32} {mVf : Nat → Int32} {mVc : Nat → Int32} {mAr : Nat → Int32} {mLr : Int32} {mTc : Nat → Int32} {mTr : Int32} {mFl : Int32} {mFt : Nat → Int32} {mFm : Int32} {mFp : Int32} {mSc : Int32} {mMp : Int32} {mEn : Int32} {mGo : Nat → Int32} {Q : pm_Q} (a b : Int32) (hd : paD mPa) : ∀ (n : Nat) (x y : Int32), (x.toInt < n ∨ 9 < x.toInt) → (uR mPa n x y = true → Q (some (.int 1)) (hq g c1 c2 c3 c4 c5 c6 c7 c8 c9 c10 c11 c12 c13 c14 c15 c16 c17 c18 c19 c20 c21 c22 c23 c24 (hc25 mTy mTm mMn mFn mRn mTn mVn mLr mTr mFl mFm mFp mSc mMp mEn) (hc26 mPa) (hc27 mTo) (hc28 mOt) (hc29 mNa) (hc30 mRe) (hc31 mMa) (hc32 mMy) (hc33 mPm) (hc34 mFy) (hc35 mFa) (hc36 mFr) (hc37 mFo) (hc38 mRt) (hc39 mRm) (hc40 mTt) (hc41 mTi) (hc42 mPl) (hc43 mVr) (hc44 mVf) (hc45 mVc) (hc46 mAr) (hc47 mTc) (hc48 mFt) (hc49 mGo) dyn)) → (uR mPa n x y = false → Q (some (.int 0)) (hq g c1 c2 c3 c4 c5 c6 c7 c8 c9 c10 c11 c12 c13 c14 c15 c16 c17 c18 c19 c20 c21 c22 c23 c24 (hc25 mTy mTm mMn mFn mRn mTn mVn mLr mTr mFl mFm mFp mSc mMp mEn) (hc26 mPa) (hc27 mTo) (hc28 mOt) (hc29 mNa) (hc30 mRe) (hc31 mMa) (hc32 mMy) (hc33 mPm) (hc34 mFy) (hc35 mFa) (hc36 mFr) (hc37 mFo) (hc38 mRt) (hc39 mRm) (hc40 mTt) (hc41 mTi) (hc42 mPl) (hc43 mVr) (hc44 mVf) (hc45 mVc) (hc46 mAr) (hc47 mTc) (hc48 mFt) (hc49 mGo) dyn)) → pm_WP 132 (47, [(3, .int x), (4, .int y), (0, .ref 25), (1, .int a), (2, .int b)], [], hq g c1 c2 c3 c4 c5 c6 c7 c8 c9 c10 c11 c12 c13 c14 c15 c16 c17 c18 c19 c20 c21 c22 c23 c24 (hc25 mTy mTm mMn mFn mRn mTn mVn mLr mTr mFl mFm mFp mSc mMp mEn) (hc26 mPa) (hc27 mTo) (hc28 mOt) (hc29 mNa) (hc30 mRe) (hc31 mMa) (hc32 mMy) (hc33 mPm) (hc34 mFy) (hc35 mFa) (hc36 mFr) (hc37 mFo) (hc38 mRt) (hc39 mRm) (hc40 mTt) (hc41 mTi) (hc42 mPl) (hc43 mVr) (hc44 mVf) (hc45 mVc) (hc46 mAr) (hc47 mTc) (hc48 mFt) (hc49 mGo) dyn, 0, 0) Q := by
  intro n
  induction n with
  | zero =>
    intro x y hn kT kF
    refine pm_go (g := (48, [(3, .int x), (4, .int y), (0, .ref 25), (1, .int a), (2, .int b)], [.int x], hq g c1 c2 c3 c4 c5 c6 c7 c8 c9 c10 c11 c12 c13 c14 c15 c16 c17 c18 c19 c20 c21 c22 c23 c24 (hc25 mTy mTm mMn mFn mRn mTn mVn mLr mTr mFl mFm mFp mSc mMp mEn) (hc26 mPa) (hc27 mTo) (hc28 mOt) (hc29 mNa) (hc30 mRe) (hc31 mMa) (hc32 mMy) (hc33 mPm) (hc34 mFy) (hc35 mFa) (hc36 mFr) (hc37 mFo) (hc38 mRt) (hc39 mRm) (hc40 mTt) (hc41 mTi) (hc42 mPl) (hc43 mVr) (hc44 mVf) (hc45 mVc) (hc46 mAr) (hc47 mTc) (hc48 mFt) (hc49 mGo) dyn, 0, 0)) rfl ?_
    refine pm_go (g := (50, _, [.int y, .int x], _, 0, 0)) rfl ?_
    refine pm_if2 (g := (73, [(3, .int x), (4, .int y), (0, .ref 25), (1, .int a), (2, .int b)], [], hq g c1 c2 c3 c4 c5 c6 c7 c8 c9 c10 c11 c12 c13 c14 c15 c16 c17 c18 c19 c20 c21 c22 c23 c24 (hc25 mTy mTm mMn mFn mRn mTn mVn mLr mTr mFl mFm mFp mSc mMp mEn) (hc26 mPa) (hc27 mTo) (hc28 mOt) (hc29 mNa) (hc30 mRe) (hc31 mMa) (hc32 mMy) (hc33 mPm) (hc34 mFy) (hc35 mFa) (hc36 mFr) (hc37 mFo) (hc38 mRt) (hc39 mRm) (hc40 mTt) (hc41 mTi) (hc42 mPl) (hc43 mVr) (hc44 mVf) (hc45 mVc) (hc46 mAr) (hc47 mTc) (hc48 mFt) (hc49 mGo) dyn, 0, 0)) (h := (53, [(3, .int x), (4, .int y), (0, .ref 25), (1, .int a), (2, .int b)], [], hq g c1 c2 c3 c4 c5 c6 c7 c8 c9 c10 c11 c12 c13 c14 c15 c16 c17 c18 c19 c20 c21 c22 c23 c24 (hc25 mTy mTm mMn mFn mRn mTn mVn mLr mTr mFl mFm mFp mSc mMp mEn) (hc26 mPa) (hc27 mTo) (hc28 mOt) (hc29 mNa) (hc30 mRe) (hc31 mMa) (hc32 mMy) (hc33 mPm) (hc34 mFy) (hc35 mFa) (hc36 mFr) (hc37 mFo) (hc38 mRt) (hc39 mRm) (hc40 mTt) (hc41 mTi) (hc42 mPl) (hc43 mVr) (hc44 mVf) (hc45 mVc) (hc46 mAr) (hc47 mTc) (hc48 mFt) (hc49 mGo) dyn, 0, 0)) rfl (fun h1 => ?_) (fun h1 => ?_)
    ·
      have h1 := qT_eq (cx := (x).toInt) (cy := (y).toInt) rfl rfl h1
      refine pm_go (g := (74, _, [.int x], _, 0, 0)) rfl ?_
      refine pm_go (g := (76, _, [.int y, .int x], _, 0, 0)) rfl ?_
      refine pm_if2 (g := (83, [(3, .int x), (4, .int y), (0, .ref 25), (1, .int a), (2, .int b)], [], hq g c1 c2 c3 c4 c5 c6 c7 c8 c9 c10 c11 c12 c13 c14 c15 c16 c17 c18 c19 c20 c21 c22 c23 c24 (hc25 mTy mTm mMn mFn mRn mTn mVn mLr mTr mFl mFm mFp mSc mMp mEn) (hc26 mPa) (hc27 mTo) (hc28 mOt) (hc29 mNa) (hc30 mRe) (hc31 mMa) (hc32 mMy) (hc33 mPm) (hc34 mFy) (hc35 mFa) (hc36 mFr) (hc37 mFo) (hc38 mRt) (hc39 mRm) (hc40 mTt) (hc41 mTi) (hc42 mPl) (hc43 mVr) (hc44 mVf) (hc45 mVc) (hc46 mAr) (hc47 mTc) (hc48 mFt) (hc49 mGo) dyn, 0, 0)) (h := (79, [(3, .int x), (4, .int y), (0, .ref 25), (1, .int a), (2, .int b)], [], hq g c1 c2 c3 c4 c5 c6 c7 c8 c9 c10 c11 c12 c13 c14 c15 c16 c17 c18 c19 c20 c21 c22 c23 c24 (hc25 mTy mTm mMn mFn mRn mTn mVn mLr mTr mFl mFm mFp mSc mMp mEn) (hc26 mPa) (hc27 mTo) (hc28 mOt) (hc29 mNa) (hc30 mRe) (hc31 mMa) (hc32 mMy) (hc33 mPm) (hc34 mFy) (hc35 mFa) (hc36 mFr) (hc37 mFo) (hc38 mRt) (hc39 mRm) (hc40 mTt) (hc41 mTi) (hc42 mPl) (hc43 mVr) (hc44 mVf) (hc45 mVc) (hc46 mAr) (hc47 mTc) (hc48 mFt) (hc49 mGo) dyn, 0, 0)) rfl (fun h2 => ?_) (fun h2 => ?_)
      ·
        have h2 := qT_ne (cx := (x).toInt) (cy := (y).toInt) rfl rfl h2
        refine pm_go (g := (84, _, [.int 0], _, 0, 0)) rfl ?_
        exact pm_ret rfl (kF (uR_out (by omega) (by omega)))
      have h2 := qF_ne (cx := (x).toInt) (cy := (y).toInt) rfl rfl h2
      refine pm_go (g := (80, _, [.int 1], _, 0, 0)) rfl ?_
      refine pm_go (g := (84, _, [.int 1], _, 0, 0)) rfl ?_
      exact pm_ret rfl (kT (uR_eq (by omega)))
    have h1 := qF_eq (cx := (x).toInt) (cy := (y).toInt) rfl rfl h1
    refine pm_go (g := (54, _, [.int x], _, 0, 0)) rfl ?_
    refine pm_go (g := (55, _, [.int 0, .int x], _, 0, 0)) rfl ?_
    refine pm_go (g := (57, _, [.int 9, .int 0, .int x], _, 0, 0)) rfl ?_
    refine pm_callD (z := 128) (as := [.int x, .int 0, .int 9]) (rest := []) rfl ?_
    have h3 : (0 : Int32).toInt = 0 := by decide
    have h4 : (9 : Int32).toInt = 9 := by decide
    refine w_X12_isIn x 0 9 (fun h5 => ?_) (fun h6 => ?_)
    ·
      show pm_WP 132 (60, [(3, .int x), (4, .int y), (0, .ref 25), (1, .int a), (2, .int b)], [.int 1], _, 0, 0) _
      refine pm_brF (h := (63, [(3, .int x), (4, .int y), (0, .ref 25), (1, .int a), (2, .int b)], [], hq g c1 c2 c3 c4 c5 c6 c7 c8 c9 c10 c11 c12 c13 c14 c15 c16 c17 c18 c19 c20 c21 c22 c23 c24 (hc25 mTy mTm mMn mFn mRn mTn mVn mLr mTr mFl mFm mFp mSc mMp mEn) (hc26 mPa) (hc27 mTo) (hc28 mOt) (hc29 mNa) (hc30 mRe) (hc31 mMa) (hc32 mMy) (hc33 mPm) (hc34 mFy) (hc35 mFa) (hc36 mFr) (hc37 mFo) (hc38 mRt) (hc39 mRm) (hc40 mTt) (hc41 mTi) (hc42 mPl) (hc43 mVr) (hc44 mVf) (hc45 mVc) (hc46 mAr) (hc47 mTc) (hc48 mFt) (hc49 mGo) dyn, 0, 0)) rfl ?_
      refine pm_go (g := (64, _, [.ref 25], _, 0, 0)) rfl ?_
      refine pm_go (g := (67, _, [.ref 26], _, 0, 0)) rfl ?_
      refine pm_go (g := (68, _, [.int x, .ref 26], _, 0, 0)) rfl ?_
      refine pm_sd (g := (69, _, [.int (mPa (x).toNatClampNeg)], _, 0, 0)) rfl (pm_inI (by omega) (by omega)) ?_
      refine pm_go (g := (70, [(3, .int (mPa (x).toNatClampNeg)), (4, .int y), (0, .ref 25), (1, .int a), (2, .int b)], [], _, 0, 0)) rfl ?_
      refine pm_go (g := (47, _, [], _, 0, 0)) rfl ?_
      exfalso; omega
    show pm_WP 132 (60, [(3, .int x), (4, .int y), (0, .ref 25), (1, .int a), (2, .int b)], [.int 0], hq g c1 c2 c3 c4 c5 c6 c7 c8 c9 c10 c11 c12 c13 c14 c15 c16 c17 c18 c19 c20 c21 c22 c23 c24 (hc25 mTy mTm mMn mFn mRn mTn mVn mLr mTr mFl mFm mFp mSc mMp mEn) (hc26 mPa) (hc27 mTo) (hc28 mOt) (hc29 mNa) (hc30 mRe) (hc31 mMa) (hc32 mMy) (hc33 mPm) (hc34 mFy) (hc35 mFa) (hc36 mFr) (hc37 mFo) (hc38 mRt) (hc39 mRm) (hc40 mTt) (hc41 mTi) (hc42 mPl) (hc43 mVr) (hc44 mVf) (hc45 mVc) (hc46 mAr) (hc47 mTc) (hc48 mFt) (hc49 mGo) dyn, 0, 0) _
    refine pm_brT (g := (73, [(3, .int x), (4, .int y), (0, .ref 25), (1, .int a), (2, .int b)], [], hq g c1 c2 c3 c4 c5 c6 c7 c8 c9 c10 c11 c12 c13 c14 c15 c16 c17 c18 c19 c20 c21 c22 c23 c24 (hc25 mTy mTm mMn mFn mRn mTn mVn mLr mTr mFl mFm mFp mSc mMp mEn) (hc26 mPa) (hc27 mTo) (hc28 mOt) (hc29 mNa) (hc30 mRe) (hc31 mMa) (hc32 mMy) (hc33 mPm) (hc34 mFy) (hc35 mFa) (hc36 mFr) (hc37 mFo) (hc38 mRt) (hc39 mRm) (hc40 mTt) (hc41 mTi) (hc42 mPl) (hc43 mVr) (hc44 mVf) (hc45 mVc) (hc46 mAr) (hc47 mTc) (hc48 mFt) (hc49 mGo) dyn, 0, 0)) rfl ?_
    refine pm_go (g := (74, _, [.int x], _, 0, 0)) rfl ?_
    refine pm_go (g := (76, _, [.int y, .int x], _, 0, 0)) rfl ?_
    refine pm_if2 (g := (83, [(3, .int x), (4, .int y), (0, .ref 25), (1, .int a), (2, .int b)], [], hq g c1 c2 c3 c4 c5 c6 c7 c8 c9 c10 c11 c12 c13 c14 c15 c16 c17 c18 c19 c20 c21 c22 c23 c24 (hc25 mTy mTm mMn mFn mRn mTn mVn mLr mTr mFl mFm mFp mSc mMp mEn) (hc26 mPa) (hc27 mTo) (hc28 mOt) (hc29 mNa) (hc30 mRe) (hc31 mMa) (hc32 mMy) (hc33 mPm) (hc34 mFy) (hc35 mFa) (hc36 mFr) (hc37 mFo) (hc38 mRt) (hc39 mRm) (hc40 mTt) (hc41 mTi) (hc42 mPl) (hc43 mVr) (hc44 mVf) (hc45 mVc) (hc46 mAr) (hc47 mTc) (hc48 mFt) (hc49 mGo) dyn, 0, 0)) (h := (79, [(3, .int x), (4, .int y), (0, .ref 25), (1, .int a), (2, .int b)], [], hq g c1 c2 c3 c4 c5 c6 c7 c8 c9 c10 c11 c12 c13 c14 c15 c16 c17 c18 c19 c20 c21 c22 c23 c24 (hc25 mTy mTm mMn mFn mRn mTn mVn mLr mTr mFl mFm mFp mSc mMp mEn) (hc26 mPa) (hc27 mTo) (hc28 mOt) (hc29 mNa) (hc30 mRe) (hc31 mMa) (hc32 mMy) (hc33 mPm) (hc34 mFy) (hc35 mFa) (hc36 mFr) (hc37 mFo) (hc38 mRt) (hc39 mRm) (hc40 mTt) (hc41 mTi) (hc42 mPl) (hc43 mVr) (hc44 mVf) (hc45 mVc) (hc46 mAr) (hc47 mTc) (hc48 mFt) (hc49 mGo) dyn, 0, 0)) rfl (fun h8 => ?_) (fun h8 => ?_)
    ·
      have h8 := qT_ne (cx := (x).toInt) (cy := (y).toInt) rfl rfl h8
      refine pm_go (g := (84, _, [.int 0], _, 0, 0)) rfl ?_
      exact pm_ret rfl (kF (uR_out (by omega) (by omega)))
    have h8 := qF_ne (cx := (x).toInt) (cy := (y).toInt) rfl rfl h8
    refine pm_go (g := (80, _, [.int 1], _, 0, 0)) rfl ?_
    refine pm_go (g := (84, _, [.int 1], _, 0, 0)) rfl ?_
    exact pm_ret rfl (kT (uR_eq (by omega)))
  | succ n ih =>
    intro x y hn kT kF
    refine pm_go (g := (48, _, [.int x], _, 0, 0)) rfl ?_
    refine pm_go (g := (50, _, [.int y, .int x], _, 0, 0)) rfl ?_
    refine pm_if2 (g := (73, [(3, .int x), (4, .int y), (0, .ref 25), (1, .int a), (2, .int b)], [], hq g c1 c2 c3 c4 c5 c6 c7 c8 c9 c10 c11 c12 c13 c14 c15 c16 c17 c18 c19 c20 c21 c22 c23 c24 (hc25 mTy mTm mMn mFn mRn mTn mVn mLr mTr mFl mFm mFp mSc mMp mEn) (hc26 mPa) (hc27 mTo) (hc28 mOt) (hc29 mNa) (hc30 mRe) (hc31 mMa) (hc32 mMy) (hc33 mPm) (hc34 mFy) (hc35 mFa) (hc36 mFr) (hc37 mFo) (hc38 mRt) (hc39 mRm) (hc40 mTt) (hc41 mTi) (hc42 mPl) (hc43 mVr) (hc44 mVf) (hc45 mVc) (hc46 mAr) (hc47 mTc) (hc48 mFt) (hc49 mGo) dyn, 0, 0)) (h := (53, [(3, .int x), (4, .int y), (0, .ref 25), (1, .int a), (2, .int b)], [], hq g c1 c2 c3 c4 c5 c6 c7 c8 c9 c10 c11 c12 c13 c14 c15 c16 c17 c18 c19 c20 c21 c22 c23 c24 (hc25 mTy mTm mMn mFn mRn mTn mVn mLr mTr mFl mFm mFp mSc mMp mEn) (hc26 mPa) (hc27 mTo) (hc28 mOt) (hc29 mNa) (hc30 mRe) (hc31 mMa) (hc32 mMy) (hc33 mPm) (hc34 mFy) (hc35 mFa) (hc36 mFr) (hc37 mFo) (hc38 mRt) (hc39 mRm) (hc40 mTt) (hc41 mTi) (hc42 mPl) (hc43 mVr) (hc44 mVf) (hc45 mVc) (hc46 mAr) (hc47 mTc) (hc48 mFt) (hc49 mGo) dyn, 0, 0)) rfl (fun h9 => ?_) (fun h9 => ?_)
    ·
      have h9 := qT_eq (cx := (x).toInt) (cy := (y).toInt) rfl rfl h9
      refine pm_go (g := (74, _, [.int x], _, 0, 0)) rfl ?_
      refine pm_go (g := (76, _, [.int y, .int x], _, 0, 0)) rfl ?_
      refine pm_if2 (g := (83, [(3, .int x), (4, .int y), (0, .ref 25), (1, .int a), (2, .int b)], [], hq g c1 c2 c3 c4 c5 c6 c7 c8 c9 c10 c11 c12 c13 c14 c15 c16 c17 c18 c19 c20 c21 c22 c23 c24 (hc25 mTy mTm mMn mFn mRn mTn mVn mLr mTr mFl mFm mFp mSc mMp mEn) (hc26 mPa) (hc27 mTo) (hc28 mOt) (hc29 mNa) (hc30 mRe) (hc31 mMa) (hc32 mMy) (hc33 mPm) (hc34 mFy) (hc35 mFa) (hc36 mFr) (hc37 mFo) (hc38 mRt) (hc39 mRm) (hc40 mTt) (hc41 mTi) (hc42 mPl) (hc43 mVr) (hc44 mVf) (hc45 mVc) (hc46 mAr) (hc47 mTc) (hc48 mFt) (hc49 mGo) dyn, 0, 0)) (h := (79, [(3, .int x), (4, .int y), (0, .ref 25), (1, .int a), (2, .int b)], [], hq g c1 c2 c3 c4 c5 c6 c7 c8 c9 c10 c11 c12 c13 c14 c15 c16 c17 c18 c19 c20 c21 c22 c23 c24 (hc25 mTy mTm mMn mFn mRn mTn mVn mLr mTr mFl mFm mFp mSc mMp mEn) (hc26 mPa) (hc27 mTo) (hc28 mOt) (hc29 mNa) (hc30 mRe) (hc31 mMa) (hc32 mMy) (hc33 mPm) (hc34 mFy) (hc35 mFa) (hc36 mFr) (hc37 mFo) (hc38 mRt) (hc39 mRm) (hc40 mTt) (hc41 mTi) (hc42 mPl) (hc43 mVr) (hc44 mVf) (hc45 mVc) (hc46 mAr) (hc47 mTc) (hc48 mFt) (hc49 mGo) dyn, 0, 0)) rfl (fun h10 => ?_) (fun h10 => ?_)
      ·
        have h10 := qT_ne (cx := (x).toInt) (cy := (y).toInt) rfl rfl h10
        refine pm_go (g := (84, _, [.int 0], _, 0, 0)) rfl ?_
        exact pm_ret rfl (kF (uR_out (by omega) (by omega)))
      have h10 := qF_ne (cx := (x).toInt) (cy := (y).toInt) rfl rfl h10
      refine pm_go (g := (80, _, [.int 1], _, 0, 0)) rfl ?_
      refine pm_go (g := (84, _, [.int 1], _, 0, 0)) rfl ?_
      exact pm_ret rfl (kT (uR_eq (by omega)))
    have h9 := qF_eq (cx := (x).toInt) (cy := (y).toInt) rfl rfl h9
    refine pm_go (g := (54, _, [.int x], _, 0, 0)) rfl ?_
    refine pm_go (g := (55, _, [.int 0, .int x], _, 0, 0)) rfl ?_
    refine pm_go (g := (57, _, [.int 9, .int 0, .int x], _, 0, 0)) rfl ?_
    refine pm_callD (z := 128) (as := [.int x, .int 0, .int 9]) (rest := []) rfl ?_
    have h11 : (0 : Int32).toInt = 0 := by decide
    have h12 : (9 : Int32).toInt = 9 := by decide
    refine w_X12_isIn x 0 9 (fun h13 => ?_) (fun h14 => ?_)
    ·
      show pm_WP 132 (60, [(3, .int x), (4, .int y), (0, .ref 25), (1, .int a), (2, .int b)], [.int 1], _, 0, 0) _
      refine pm_brF (h := (63, [(3, .int x), (4, .int y), (0, .ref 25), (1, .int a), (2, .int b)], [], hq g c1 c2 c3 c4 c5 c6 c7 c8 c9 c10 c11 c12 c13 c14 c15 c16 c17 c18 c19 c20 c21 c22 c23 c24 (hc25 mTy mTm mMn mFn mRn mTn mVn mLr mTr mFl mFm mFp mSc mMp mEn) (hc26 mPa) (hc27 mTo) (hc28 mOt) (hc29 mNa) (hc30 mRe) (hc31 mMa) (hc32 mMy) (hc33 mPm) (hc34 mFy) (hc35 mFa) (hc36 mFr) (hc37 mFo) (hc38 mRt) (hc39 mRm) (hc40 mTt) (hc41 mTi) (hc42 mPl) (hc43 mVr) (hc44 mVf) (hc45 mVc) (hc46 mAr) (hc47 mTc) (hc48 mFt) (hc49 mGo) dyn, 0, 0)) rfl ?_
      refine pm_go (g := (64, _, [.ref 25], _, 0, 0)) rfl ?_
      refine pm_go (g := (67, _, [.ref 26], _, 0, 0)) rfl ?_
      refine pm_go (g := (68, _, [.int x, .ref 26], _, 0, 0)) rfl ?_
      refine pm_sd (g := (69, _, [.int (mPa (x).toNatClampNeg)], _, 0, 0)) rfl (pm_inI (by omega) (by omega)) ?_
      refine pm_go (g := (70, [(3, .int (mPa (x).toNatClampNeg)), (4, .int y), (0, .ref 25), (1, .int a), (2, .int b)], [], _, 0, 0)) rfl ?_
      refine pm_go (g := (47, _, [], _, 0, 0)) rfl ?_
      have hs := uR_step (f := mPa) (n := n) (x := x) (y := y) (by omega) (by omega) (by omega)
      have hx := xN (x := x) (by omega)
      have hp1 := hd x.toNatClampNeg (by omega)
      rw [hs] at kT kF
      exact ih (mPa x.toNatClampNeg) y (by omega) kT kF
    show pm_WP 132 (60, [(3, .int x), (4, .int y), (0, .ref 25), (1, .int a), (2, .int b)], [.int 0], hq g c1 c2 c3 c4 c5 c6 c7 c8 c9 c10 c11 c12 c13 c14 c15 c16 c17 c18 c19 c20 c21 c22 c23 c24 (hc25 mTy mTm mMn mFn mRn mTn mVn mLr mTr mFl mFm mFp mSc mMp mEn) (hc26 mPa) (hc27 mTo) (hc28 mOt) (hc29 mNa) (hc30 mRe) (hc31 mMa) (hc32 mMy) (hc33 mPm) (hc34 mFy) (hc35 mFa) (hc36 mFr) (hc37 mFo) (hc38 mRt) (hc39 mRm) (hc40 mTt) (hc41 mTi) (hc42 mPl) (hc43 mVr) (hc44 mVf) (hc45 mVc) (hc46 mAr) (hc47 mTc) (hc48 mFt) (hc49 mGo) dyn, 0, 0) _
    refine pm_brT (g := (73, [(3, .int x), (4, .int y), (0, .ref 25), (1, .int a), (2, .int b)], [], hq g c1 c2 c3 c4 c5 c6 c7 c8 c9 c10 c11 c12 c13 c14 c15 c16 c17 c18 c19 c20 c21 c22 c23 c24 (hc25 mTy mTm mMn mFn mRn mTn mVn mLr mTr mFl mFm mFp mSc mMp mEn) (hc26 mPa) (hc27 mTo) (hc28 mOt) (hc29 mNa) (hc30 mRe) (hc31 mMa) (hc32 mMy) (hc33 mPm) (hc34 mFy) (hc35 mFa) (hc36 mFr) (hc37 mFo) (hc38 mRt) (hc39 mRm) (hc40 mTt) (hc41 mTi) (hc42 mPl) (hc43 mVr) (hc44 mVf) (hc45 mVc) (hc46 mAr) (hc47 mTc) (hc48 mFt) (hc49 mGo) dyn, 0, 0)) rfl ?_
    refine pm_go (g := (74, _, [.int x], _, 0, 0)) rfl ?_
    refine pm_go (g := (76, _, [.int y, .int x], _, 0, 0)) rfl ?_
    refine pm_if2 (g := (83, [(3, .int x), (4, .int y), (0, .ref 25), (1, .int a), (2, .int b)], [], hq g c1 c2 c3 c4 c5 c6 c7 c8 c9 c10 c11 c12 c13 c14 c15 c16 c17 c18 c19 c20 c21 c22 c23 c24 (hc25 mTy mTm mMn mFn mRn mTn mVn mLr mTr mFl mFm mFp mSc mMp mEn) (hc26 mPa) (hc27 mTo) (hc28 mOt) (hc29 mNa) (hc30 mRe) (hc31 mMa) (hc32 mMy) (hc33 mPm) (hc34 mFy) (hc35 mFa) (hc36 mFr) (hc37 mFo) (hc38 mRt) (hc39 mRm) (hc40 mTt) (hc41 mTi) (hc42 mPl) (hc43 mVr) (hc44 mVf) (hc45 mVc) (hc46 mAr) (hc47 mTc) (hc48 mFt) (hc49 mGo) dyn, 0, 0)) (h := (79, [(3, .int x), (4, .int y), (0, .ref 25), (1, .int a), (2, .int b)], [], hq g c1 c2 c3 c4 c5 c6 c7 c8 c9 c10 c11 c12 c13 c14 c15 c16 c17 c18 c19 c20 c21 c22 c23 c24 (hc25 mTy mTm mMn mFn mRn mTn mVn mLr mTr mFl mFm mFp mSc mMp mEn) (hc26 mPa) (hc27 mTo) (hc28 mOt) (hc29 mNa) (hc30 mRe) (hc31 mMa) (hc32 mMy) (hc33 mPm) (hc34 mFy) (hc35 mFa) (hc36 mFr) (hc37 mFo) (hc38 mRt) (hc39 mRm) (hc40 mTt) (hc41 mTi) (hc42 mPl) (hc43 mVr) (hc44 mVf) (hc45 mVc) (hc46 mAr) (hc47 mTc) (hc48 mFt) (hc49 mGo) dyn, 0, 0)) rfl (fun h16 => ?_) (fun h16 => ?_)
    ·
      have h16 := qT_ne (cx := (x).toInt) (cy := (y).toInt) rfl rfl h16
      refine pm_go (g := (84, _, [.int 0], _, 0, 0)) rfl ?_
      exact pm_ret rfl (kF (uR_out (by omega) (by omega)))
    have h16 := qF_ne (cx := (x).toInt) (cy := (y).toInt) rfl rfl h16
    refine pm_go (g := (80, _, [.int 1], _, 0, 0)) rfl ?_
    refine pm_go (g := (84, _, [.int 1], _, 0, 0)) rfl ?_
    exact pm_ret rfl (kT (uR_eq (by omega)))
/-- the reference's isUnder -/
def uM (f : Nat → Int32) (a b : Int32) : Bool := if 20 ≤ a.toInt ∧ b.toInt = 0 then true else if (20 ≤ a.toInt ∧ a.toInt ≤ 29) ∧ (20 ≤ b.toInt ∧ b.toInt ≤ 29) then uR f 11 (a + -20) (b + -20) else uR f 11 a b
theorem uM_1 {f : Nat → Int32} {a b : Int32} (h : 20 ≤ a.toInt ∧ b.toInt = 0) : uM f a b = true := by unfold uM; rw [if_pos h]
theorem uM_2 {f : Nat → Int32} {a b : Int32} (h : ¬ (20 ≤ a.toInt ∧ b.toInt = 0)) (h2 : (20 ≤ a.toInt ∧ a.toInt ≤ 29) ∧ (20 ≤ b.toInt ∧ b.toInt ≤ 29)) : uM f a b = uR f 11 (a + -20) (b + -20) := by unfold uM; rw [if_neg h, if_pos h2]
theorem uM_3 {f : Nat → Int32} {a b : Int32} (h : ¬ (20 ≤ a.toInt ∧ b.toInt = 0)) (h2 : ¬ ((20 ≤ a.toInt ∧ a.toInt ≤ 29) ∧ (20 ≤ b.toInt ∧ b.toInt ≤ 29))) : uM f a b = uR f 11 a b := by unfold uM; rw [if_neg h, if_neg h2]
set_option maxRecDepth 100000 in
set_option maxHeartbeats 4000000 in
theorem w_X12_isUnder {g c1 c2 c3 c4 c5 c6 c7 c8 c9 c10 c11 c12 c13 c14 c15 c16 c17 c18 c19 c20 c21 c22 c23 c24 : pm_C} {dyn : pm_H} {mTy : Int32} {mPa : Nat → Int32} {mTo : Nat → Int32} {mTm : Int32} {mMn : Int32} {mOt : Nat → Int32} {mNa : Nat → Int32} {mRe : Nat → Int32} {mMa : Nat → Int32} {mMy : Nat → Int32} {mPm : Nat → Int32} {mFn : Int32} {mFy : Nat → Int32} {mFa : Nat → Int32} {mFr : Nat → Int32} {mRn : Int32} {mFo : Nat → Int32} {mRt : Nat → Int32} {mRm : Nat → Int32} {mTn : Int32} {mTt : Nat → Int32} {mTi : Nat → Int32} {mPl : Nat → Int32} {mVn : Int32} {mVr : Nat → Int32} {mVf : Nat → Int32} {mVc : Nat → Int32} {mAr : Nat → Int32} {mLr : Int32} {mTc : Nat → Int32} {mTr : Int32} {mFl : Int32} {mFt : Nat → Int32} {mFm : Int32} {mFp : Int32} {mSc : Int32} {mMp : Int32} {mEn : Int32} {mGo : Nat → Int32} {Q : pm_Q} (a : Int32) (b : Int32) (p0 : paD mPa) (k0 : uM mPa a b = true → Q (some (.int 1)) (hq g c1 c2 c3 c4 c5 c6 c7 c8 c9 c10 c11 c12 c13 c14 c15 c16 c17 c18 c19 c20 c21 c22 c23 c24 (hc25 mTy mTm mMn mFn mRn mTn mVn mLr mTr mFl mFm mFp mSc mMp mEn) (hc26 mPa) (hc27 mTo) (hc28 mOt) (hc29 mNa) (hc30 mRe) (hc31 mMa) (hc32 mMy) (hc33 mPm) (hc34 mFy) (hc35 mFa) (hc36 mFr) (hc37 mFo) (hc38 mRt) (hc39 mRm) (hc40 mTt) (hc41 mTi) (hc42 mPl) (hc43 mVr) (hc44 mVf) (hc45 mVc) (hc46 mAr) (hc47 mTc) (hc48 mFt) (hc49 mGo) dyn)) (k1 : uM mPa a b = false → Q (some (.int 0)) (hq g c1 c2 c3 c4 c5 c6 c7 c8 c9 c10 c11 c12 c13 c14 c15 c16 c17 c18 c19 c20 c21 c22 c23 c24 (hc25 mTy mTm mMn mFn mRn mTn mVn mLr mTr mFl mFm mFp mSc mMp mEn) (hc26 mPa) (hc27 mTo) (hc28 mOt) (hc29 mNa) (hc30 mRe) (hc31 mMa) (hc32 mMy) (hc33 mPm) (hc34 mFy) (hc35 mFa) (hc36 mFr) (hc37 mFo) (hc38 mRt) (hc39 mRm) (hc40 mTt) (hc41 mTi) (hc42 mPl) (hc43 mVr) (hc44 mVf) (hc45 mVc) (hc46 mAr) (hc47 mTc) (hc48 mFt) (hc49 mGo) dyn)) : pm_WP 132 (0, [(0, .ref 25), (1, .int a), (2, .int b)], [], hq g c1 c2 c3 c4 c5 c6 c7 c8 c9 c10 c11 c12 c13 c14 c15 c16 c17 c18 c19 c20 c21 c22 c23 c24 (hc25 mTy mTm mMn mFn mRn mTn mVn mLr mTr mFl mFm mFp mSc mMp mEn) (hc26 mPa) (hc27 mTo) (hc28 mOt) (hc29 mNa) (hc30 mRe) (hc31 mMa) (hc32 mMy) (hc33 mPm) (hc34 mFy) (hc35 mFa) (hc36 mFr) (hc37 mFo) (hc38 mRt) (hc39 mRm) (hc40 mTt) (hc41 mTi) (hc42 mPl) (hc43 mVr) (hc44 mVf) (hc45 mVc) (hc46 mAr) (hc47 mTc) (hc48 mFt) (hc49 mGo) dyn, 0, 0) Q := by
  refine pm_go (g := (1, [(0, .ref 25), (1, .int a), (2, .int b)], [.int a], hq g c1 c2 c3 c4 c5 c6 c7 c8 c9 c10 c11 c12 c13 c14 c15 c16 c17 c18 c19 c20 c21 c22 c23 c24 (hc25 mTy mTm mMn mFn mRn mTn mVn mLr mTr mFl mFm mFp mSc mMp mEn) (hc26 mPa) (hc27 mTo) (hc28 mOt) (hc29 mNa) (hc30 mRe) (hc31 mMa) (hc32 mMy) (hc33 mPm) (hc34 mFy) (hc35 mFa) (hc36 mFr) (hc37 mFo) (hc38 mRt) (hc39 mRm) (hc40 mTt) (hc41 mTi) (hc42 mPl) (hc43 mVr) (hc44 mVf) (hc45 mVc) (hc46 mAr) (hc47 mTc) (hc48 mFt) (hc49 mGo) dyn, 0, 0)) rfl ?_
  refine pm_go (g := (2, [(3, .int a), (0, .ref 25), (1, .int a), (2, .int b)], [], _, 0, 0)) rfl ?_
  refine pm_go (g := (3, _, [.int b], _, 0, 0)) rfl ?_
  refine pm_go (g := (5, [(4, .int b), (3, .int a), (0, .ref 25), (1, .int a), (2, .int b)], [], _, 0, 0)) rfl ?_
  refine pm_go (g := (6, _, [.int a], _, 0, 0)) rfl ?_
  refine pm_go (g := (8, _, [.int 20, .int a], _, 0, 0)) rfl ?_
  refine pm_if2 (g := (18, [(4, .int b), (3, .int a), (0, .ref 25), (1, .int a), (2, .int b)], [], hq g c1 c2 c3 c4 c5 c6 c7 c8 c9 c10 c11 c12 c13 c14 c15 c16 c17 c18 c19 c20 c21 c22 c23 c24 (hc25 mTy mTm mMn mFn mRn mTn mVn mLr mTr mFl mFm mFp mSc mMp mEn) (hc26 mPa) (hc27 mTo) (hc28 mOt) (hc29 mNa) (hc30 mRe) (hc31 mMa) (hc32 mMy) (hc33 mPm) (hc34 mFy) (hc35 mFa) (hc36 mFr) (hc37 mFo) (hc38 mRt) (hc39 mRm) (hc40 mTt) (hc41 mTi) (hc42 mPl) (hc43 mVr) (hc44 mVf) (hc45 mVc) (hc46 mAr) (hc47 mTc) (hc48 mFt) (hc49 mGo) dyn, 0, 0)) (h := (11, [(4, .int b), (3, .int a), (0, .ref 25), (1, .int a), (2, .int b)], [], hq g c1 c2 c3 c4 c5 c6 c7 c8 c9 c10 c11 c12 c13 c14 c15 c16 c17 c18 c19 c20 c21 c22 c23 c24 (hc25 mTy mTm mMn mFn mRn mTn mVn mLr mTr mFl mFm mFp mSc mMp mEn) (hc26 mPa) (hc27 mTo) (hc28 mOt) (hc29 mNa) (hc30 mRe) (hc31 mMa) (hc32 mMy) (hc33 mPm) (hc34 mFy) (hc35 mFa) (hc36 mFr) (hc37 mFo) (hc38 mRt) (hc39 mRm) (hc40 mTt) (hc41 mTi) (hc42 mPl) (hc43 mVr) (hc44 mVf) (hc45 mVc) (hc46 mAr) (hc47 mTc) (hc48 mFt) (hc49 mGo) dyn, 0, 0)) rfl (fun h1 => ?_) (fun h1 => ?_)
  ·
    have h1 := qT_lt (cx := (a).toInt) (cy := 20) rfl (by decide) h1
    refine pm_go (g := (19, _, [.int a], _, 0, 0)) rfl ?_
    refine pm_go (g := (21, _, [.int 20, .int a], _, 0, 0)) rfl ?_
    refine pm_go (g := (23, _, [.int 29, .int 20, .int a], _, 0, 0)) rfl ?_
    refine pm_callD (z := 128) (as := [.int a, .int 20, .int 29]) (rest := []) rfl ?_
    have h2 : (20 : Int32).toInt = 20 := by decide
    have h3 : (29 : Int32).toInt = 29 := by decide
    refine w_X12_isIn a 20 29 (fun h4 => ?_) (fun h5 => ?_)
    ·
      show pm_WP 132 (26, [(4, .int b), (3, .int a), (0, .ref 25), (1, .int a), (2, .int b)], [.int 1], _, 0, 0) _
      refine pm_brF (h := (29, [(4, .int b), (3, .int a), (0, .ref 25), (1, .int a), (2, .int b)], [], hq g c1 c2 c3 c4 c5 c6 c7 c8 c9 c10 c11 c12 c13 c14 c15 c16 c17 c18 c19 c20 c21 c22 c23 c24 (hc25 mTy mTm mMn mFn mRn mTn mVn mLr mTr mFl mFm mFp mSc mMp mEn) (hc26 mPa) (hc27 mTo) (hc28 mOt) (hc29 mNa) (hc30 mRe) (hc31 mMa) (hc32 mMy) (hc33 mPm) (hc34 mFy) (hc35 mFa) (hc36 mFr) (hc37 mFo) (hc38 mRt) (hc39 mRm) (hc40 mTt) (hc41 mTi) (hc42 mPl) (hc43 mVr) (hc44 mVf) (hc45 mVc) (hc46 mAr) (hc47 mTc) (hc48 mFt) (hc49 mGo) dyn, 0, 0)) rfl ?_
      refine pm_go (g := (31, _, [.int b], _, 0, 0)) rfl ?_
      refine pm_go (g := (33, _, [.int 20, .int b], _, 0, 0)) rfl ?_
      refine pm_go (g := (35, _, [.int 29, .int 20, .int b], _, 0, 0)) rfl ?_
      refine pm_callD (z := 128) (as := [.int b, .int 20, .int 29]) (rest := []) rfl ?_
      have h7 : (20 : Int32).toInt = 20 := by decide
      have h8 : (29 : Int32).toInt = 29 := by decide
      refine w_X12_isIn b 20 29 (fun h9 => ?_) (fun h10 => ?_)
      ·
        show pm_WP 132 (38, [(4, .int b), (3, .int a), (0, .ref 25), (1, .int a), (2, .int b)], [.int 1], _, 0, 0) _
        refine pm_brF (h := (41, [(4, .int b), (3, .int a), (0, .ref 25), (1, .int a), (2, .int b)], [], hq g c1 c2 c3 c4 c5 c6 c7 c8 c9 c10 c11 c12 c13 c14 c15 c16 c17 c18 c19 c20 c21 c22 c23 c24 (hc25 mTy mTm mMn mFn mRn mTn mVn mLr mTr mFl mFm mFp mSc mMp mEn) (hc26 mPa) (hc27 mTo) (hc28 mOt) (hc29 mNa) (hc30 mRe) (hc31 mMa) (hc32 mMy) (hc33 mPm) (hc34 mFy) (hc35 mFa) (hc36 mFr) (hc37 mFo) (hc38 mRt) (hc39 mRm) (hc40 mTt) (hc41 mTi) (hc42 mPl) (hc43 mVr) (hc44 mVf) (hc45 mVc) (hc46 mAr) (hc47 mTc) (hc48 mFt) (hc49 mGo) dyn, 0, 0)) rfl ?_
        refine pm_go (g := (44, [(3, .int (a + (-20))), (4, .int b), (0, .ref 25), (1, .int a), (2, .int b)], [], _, 0, 0)) rfl ?_
        refine pm_go (g := (47, [(4, .int (b + (-20))), (3, .int (a + (-20))), (0, .ref 25), (1, .int a), (2, .int b)], [], _, 0, 0)) rfl ?_
        have hu := uM_2 (f := mPa) (a := a) (b := b) (by omega) (by omega)
        have ga : (a + -20).toInt = a.toInt + -20 := iAdd rfl (by decide) (by omega) (by omega)
        have gb : (b + -20).toInt = b.toInt + -20 := iAdd rfl (by decide) (by omega) (by omega)
        refine pm_go (g := (48, _, [.int (a + (-20))], _, 0, 0)) rfl ?_
        refine pm_go (g := (50, _, [.int (b + (-20)), .int (a + (-20))], _, 0, 0)) rfl ?_
        refine pm_if2 (g := (73, [(4, .int (b + (-20))), (3, .int (a + (-20))), (0, .ref 25), (1, .int a), (2, .int b)], [], hq g c1 c2 c3 c4 c5 c6 c7 c8 c9 c10 c11 c12 c13 c14 c15 c16 c17 c18 c19 c20 c21 c22 c23 c24 (hc25 mTy mTm mMn mFn mRn mTn mVn mLr mTr mFl mFm mFp mSc mMp mEn) (hc26 mPa) (hc27 mTo) (hc28 mOt) (hc29 mNa) (hc30 mRe) (hc31 mMa) (hc32 mMy) (hc33 mPm) (hc34 mFy) (hc35 mFa) (hc36 mFr) (hc37 mFo) (hc38 mRt) (hc39 mRm) (hc40 mTt) (hc41 mTi) (hc42 mPl) (hc43 mVr) (hc44 mVf) (hc45 mVc) (hc46 mAr) (hc47 mTc) (hc48 mFt) (hc49 mGo) dyn, 0, 0)) (h := (53, [(4, .int (b + (-20))), (3, .int (a + (-20))), (0, .ref 25), (1, .int a), (2, .int b)], [], hq g c1 c2 c3 c4 c5 c6 c7 c8 c9 c10 c11 c12 c13 c14 c15 c16 c17 c18 c19 c20 c21 c22 c23 c24 (hc25 mTy mTm mMn mFn mRn mTn mVn mLr mTr mFl mFm mFp mSc mMp mEn) (hc26 mPa) (hc27 mTo) (hc28 mOt) (hc29 mNa) (hc30 mRe) (hc31 mMa) (hc32 mMy) (hc33 mPm) (hc34 mFy) (hc35 mFa) (hc36 mFr) (hc37 mFo) (hc38 mRt) (hc39 mRm) (hc40 mTt) (hc41 mTi) (hc42 mPl) (hc43 mVr) (hc44 mVf) (hc45 mVc) (hc46 mAr) (hc47 mTc) (hc48 mFt) (hc49 mGo) dyn, 0, 0)) rfl (fun h12 => ?_) (fun h12 => ?_)
        ·
          have h12 := qT_eq (cx := (a + (-20)).toInt) (cy := (b + (-20)).toInt) rfl rfl h12
          refine pm_go (g := (74, _, [.int (a + (-20))], _, 0, 0)) rfl ?_
          refine pm_go (g := (76, _, [.int (b + (-20)), .int (a + (-20))], _, 0, 0)) rfl ?_
          refine pm_if2 (g := (83, [(4, .int (b + (-20))), (3, .int (a + (-20))), (0, .ref 25), (1, .int a), (2, .int b)], [], hq g c1 c2 c3 c4 c5 c6 c7 c8 c9 c10 c11 c12 c13 c14 c15 c16 c17 c18 c19 c20 c21 c22 c23 c24 (hc25 mTy mTm mMn mFn mRn mTn mVn mLr mTr mFl mFm mFp mSc mMp mEn) (hc26 mPa) (hc27 mTo) (hc28 mOt) (hc29 mNa) (hc30 mRe) (hc31 mMa) (hc32 mMy) (hc33 mPm) (hc34 mFy) (hc35 mFa) (hc36 mFr) (hc37 mFo) (hc38 mRt) (hc39 mRm) (hc40 mTt) (hc41 mTi) (hc42 mPl) (hc43 mVr) (hc44 mVf) (hc45 mVc) (hc46 mAr) (hc47 mTc) (hc48 mFt) (hc49 mGo) dyn, 0, 0)) (h := (79, [(4, .int (b + (-20))), (3, .int (a + (-20))), (0, .ref 25), (1, .int a), (2, .int b)], [], hq g c1 c2 c3 c4 c5 c6 c7 c8 c9 c10 c11 c12 c13 c14 c15 c16 c17 c18 c19 c20 c21 c22 c23 c24 (hc25 mTy mTm mMn mFn mRn mTn mVn mLr mTr mFl mFm mFp mSc mMp mEn) (hc26 mPa) (hc27 mTo) (hc28 mOt) (hc29 mNa) (hc30 mRe) (hc31 mMa) (hc32 mMy) (hc33 mPm) (hc34 mFy) (hc35 mFa) (hc36 mFr) (hc37 mFo) (hc38 mRt) (hc39 mRm) (hc40 mTt) (hc41 mTi) (hc42 mPl) (hc43 mVr) (hc44 mVf) (hc45 mVc) (hc46 mAr) (hc47 mTc) (hc48 mFt) (hc49 mGo) dyn, 0, 0)) rfl (fun h13 => ?_) (fun h13 => ?_)
          ·
            have h13 := qT_ne (cx := (a + (-20)).toInt) (cy := (b + (-20)).toInt) rfl rfl h13
            refine pm_go (g := (84, _, [.int 0], _, 0, 0)) rfl ?_
            exact pm_ret rfl (k1 (by rw [hu]; exact uR_out (by omega) (by omega)))
          have h13 := qF_ne (cx := (a + (-20)).toInt) (cy := (b + (-20)).toInt) rfl rfl h13
          refine pm_go (g := (80, _, [.int 1], _, 0, 0)) rfl ?_
          refine pm_go (g := (84, _, [.int 1], _, 0, 0)) rfl ?_
          exact pm_ret rfl (k0 (by rw [hu]; exact uR_eq (by omega)))
        have h12 := qF_eq (cx := (a + (-20)).toInt) (cy := (b + (-20)).toInt) rfl rfl h12
        refine pm_go (g := (54, _, [.int (a + (-20))], _, 0, 0)) rfl ?_
        refine pm_go (g := (55, _, [.int 0, .int (a + (-20))], _, 0, 0)) rfl ?_
        refine pm_go (g := (57, _, [.int 9, .int 0, .int (a + (-20))], _, 0, 0)) rfl ?_
        refine pm_callD (z := 128) (as := [.int (a + (-20)), .int 0, .int 9]) (rest := []) rfl ?_
        have h14 : (0 : Int32).toInt = 0 := by decide
        have h15 : (9 : Int32).toInt = 9 := by decide
        refine w_X12_isIn (a + (-20)) 0 9 (fun h16 => ?_) (fun h17 => ?_)
        ·
          show pm_WP 132 (60, [(4, .int (b + (-20))), (3, .int (a + (-20))), (0, .ref 25), (1, .int a), (2, .int b)], [.int 1], _, 0, 0) _
          refine pm_brF (h := (63, [(4, .int (b + (-20))), (3, .int (a + (-20))), (0, .ref 25), (1, .int a), (2, .int b)], [], hq g c1 c2 c3 c4 c5 c6 c7 c8 c9 c10 c11 c12 c13 c14 c15 c16 c17 c18 c19 c20 c21 c22 c23 c24 (hc25 mTy mTm mMn mFn mRn mTn mVn mLr mTr mFl mFm mFp mSc mMp mEn) (hc26 mPa) (hc27 mTo) (hc28 mOt) (hc29 mNa) (hc30 mRe) (hc31 mMa) (hc32 mMy) (hc33 mPm) (hc34 mFy) (hc35 mFa) (hc36 mFr) (hc37 mFo) (hc38 mRt) (hc39 mRm) (hc40 mTt) (hc41 mTi) (hc42 mPl) (hc43 mVr) (hc44 mVf) (hc45 mVc) (hc46 mAr) (hc47 mTc) (hc48 mFt) (hc49 mGo) dyn, 0, 0)) rfl ?_
          refine pm_go (g := (64, _, [.ref 25], _, 0, 0)) rfl ?_
          refine pm_go (g := (67, _, [.ref 26], _, 0, 0)) rfl ?_
          refine pm_go (g := (68, _, [.int (a + (-20)), .ref 26], _, 0, 0)) rfl ?_
          refine pm_sd (g := (69, _, [.int (mPa (a + (-20)).toNatClampNeg)], _, 0, 0)) rfl (pm_inI (by omega) (by omega)) ?_
          refine pm_go (g := (70, [(3, .int (mPa (a + (-20)).toNatClampNeg)), (4, .int (b + (-20))), (0, .ref 25), (1, .int a), (2, .int b)], [], _, 0, 0)) rfl ?_
          refine pm_go (g := (47, _, [], _, 0, 0)) rfl ?_
          have hs := uR_step (f := mPa) (n := 10) (x := a + (-20)) (y := b + (-20)) (by omega) (by omega) (by omega)
          have hx := xN (x := a + (-20)) (by omega)
          have hp1 := p0 (a + (-20)).toNatClampNeg (by omega)
          rw [hu, hs] at k0 k1
          exact w_isUnder_loop a b p0 10 (mPa (a + (-20)).toNatClampNeg) (b + (-20)) (by omega) k0 k1
        show pm_WP 132 (60, [(4, .int (b + (-20))), (3, .int (a + (-20))), (0, .ref 25), (1, .int a), (2, .int b)], [.int 0], hq g c1 c2 c3 c4 c5 c6 c7 c8 c9 c10 c11 c12 c13 c14 c15 c16 c17 c18 c19 c20 c21 c22 c23 c24 (hc25 mTy mTm mMn mFn mRn mTn mVn mLr mTr mFl mFm mFp mSc mMp mEn) (hc26 mPa) (hc27 mTo) (hc28 mOt) (hc29 mNa) (hc30 mRe) (hc31 mMa) (hc32 mMy) (hc33 mPm) (hc34 mFy) (hc35 mFa) (hc36 mFr) (hc37 mFo) (hc38 mRt) (hc39 mRm) (hc40 mTt) (hc41 mTi) (hc42 mPl) (hc43 mVr) (hc44 mVf) (hc45 mVc) (hc46 mAr) (hc47 mTc) (hc48 mFt) (hc49 mGo) dyn, 0, 0) _
        refine pm_brT (g := (73, [(4, .int (b + (-20))), (3, .int (a + (-20))), (0, .ref 25), (1, .int a), (2, .int b)], [], hq g c1 c2 c3 c4 c5 c6 c7 c8 c9 c10 c11 c12 c13 c14 c15 c16 c17 c18 c19 c20 c21 c22 c23 c24 (hc25 mTy mTm mMn mFn mRn mTn mVn mLr mTr mFl mFm mFp mSc mMp mEn) (hc26 mPa) (hc27 mTo) (hc28 mOt) (hc29 mNa) (hc30 mRe) (hc31 mMa) (hc32 mMy) (hc33 mPm) (hc34 mFy) (hc35 mFa) (hc36 mFr) (hc37 mFo) (hc38 mRt) (hc39 mRm) (hc40 mTt) (hc41 mTi) (hc42 mPl) (hc43 mVr) (hc44 mVf) (hc45 mVc) (hc46 mAr) (hc47 mTc) (hc48 mFt) (hc49 mGo) dyn, 0, 0)) rfl ?_
        refine pm_go (g := (74, _, [.int (a + (-20))], _, 0, 0)) rfl ?_
        refine pm_go (g := (76, _, [.int (b + (-20)), .int (a + (-20))], _, 0, 0)) rfl ?_
        refine pm_if2 (g := (83, [(4, .int (b + (-20))), (3, .int (a + (-20))), (0, .ref 25), (1, .int a), (2, .int b)], [], hq g c1 c2 c3 c4 c5 c6 c7 c8 c9 c10 c11 c12 c13 c14 c15 c16 c17 c18 c19 c20 c21 c22 c23 c24 (hc25 mTy mTm mMn mFn mRn mTn mVn mLr mTr mFl mFm mFp mSc mMp mEn) (hc26 mPa) (hc27 mTo) (hc28 mOt) (hc29 mNa) (hc30 mRe) (hc31 mMa) (hc32 mMy) (hc33 mPm) (hc34 mFy) (hc35 mFa) (hc36 mFr) (hc37 mFo) (hc38 mRt) (hc39 mRm) (hc40 mTt) (hc41 mTi) (hc42 mPl) (hc43 mVr) (hc44 mVf) (hc45 mVc) (hc46 mAr) (hc47 mTc) (hc48 mFt) (hc49 mGo) dyn, 0, 0)) (h := (79, [(4, .int (b + (-20))), (3, .int (a + (-20))), (0, .ref 25), (1, .int a), (2, .int b)], [], hq g c1 c2 c3 c4 c5 c6 c7 c8 c9 c10 c11 c12 c13 c14 c15 c16 c17 c18 c19 c20 c21 c22 c23 c24 (hc25 mTy mTm mMn mFn mRn mTn mVn mLr mTr mFl mFm mFp mSc mMp mEn) (hc26 mPa) (hc27 mTo) (hc28 mOt) (hc29 mNa) (hc30 mRe) (hc31 mMa) (hc32 mMy) (hc33 mPm) (hc34 mFy) (hc35 mFa) (hc36 mFr) (hc37 mFo) (hc38 mRt) (hc39 mRm) (hc40 mTt) (hc41 mTi) (hc42 mPl) (hc43 mVr) (hc44 mVf) (hc45 mVc) (hc46 mAr) (hc47 mTc) (hc48 mFt) (hc49 mGo) dyn, 0, 0)) rfl (fun h19 => ?_) (fun h19 => ?_)
        ·
          have h19 := qT_ne (cx := (a + (-20)).toInt) (cy := (b + (-20)).toInt) rfl rfl h19
          refine pm_go (g := (84, _, [.int 0], _, 0, 0)) rfl ?_
          exact pm_ret rfl (k1 (by rw [hu]; exact uR_out (by omega) (by omega)))
        have h19 := qF_ne (cx := (a + (-20)).toInt) (cy := (b + (-20)).toInt) rfl rfl h19
        refine pm_go (g := (80, _, [.int 1], _, 0, 0)) rfl ?_
        refine pm_go (g := (84, _, [.int 1], _, 0, 0)) rfl ?_
        exact pm_ret rfl (k0 (by rw [hu]; exact uR_eq (by omega)))
      show pm_WP 132 (38, [(4, .int b), (3, .int a), (0, .ref 25), (1, .int a), (2, .int b)], [.int 0], hq g c1 c2 c3 c4 c5 c6 c7 c8 c9 c10 c11 c12 c13 c14 c15 c16 c17 c18 c19 c20 c21 c22 c23 c24 (hc25 mTy mTm mMn mFn mRn mTn mVn mLr mTr mFl mFm mFp mSc mMp mEn) (hc26 mPa) (hc27 mTo) (hc28 mOt) (hc29 mNa) (hc30 mRe) (hc31 mMa) (hc32 mMy) (hc33 mPm) (hc34 mFy) (hc35 mFa) (hc36 mFr) (hc37 mFo) (hc38 mRt) (hc39 mRm) (hc40 mTt) (hc41 mTi) (hc42 mPl) (hc43 mVr) (hc44 mVf) (hc45 mVc) (hc46 mAr) (hc47 mTc) (hc48 mFt) (hc49 mGo) dyn, 0, 0) _
      refine pm_brT (g := (47, [(4, .int b), (3, .int a), (0, .ref 25), (1, .int a), (2, .int b)], [], hq g c1 c2 c3 c4 c5 c6 c7 c8 c9 c10 c11 c12 c13 c14 c15 c16 c17 c18 c19 c20 c21 c22 c23 c24 (hc25 mTy mTm mMn mFn mRn mTn mVn mLr mTr mFl mFm mFp mSc mMp mEn) (hc26 mPa) (hc27 mTo) (hc28 mOt) (hc29 mNa) (hc30 mRe) (hc31 mMa) (hc32 mMy) (hc33 mPm) (hc34 mFy) (hc35 mFa) (hc36 mFr) (hc37 mFo) (hc38 mRt) (hc39 mRm) (hc40 mTt) (hc41 mTi) (hc42 mPl) (hc43 mVr) (hc44 mVf) (hc45 mVc) (hc46 mAr) (hc47 mTc) (hc48 mFt) (hc49 mGo) dyn, 0, 0)) rfl ?_
      have hu := uM_3 (f := mPa) (a := a) (b := b) (by omega) (by omega)
      refine pm_go (g := (48, _, [.int a], _, 0, 0)) rfl ?_
      refine pm_go (g := (50, _, [.int b, .int a], _, 0, 0)) rfl ?_
      refine pm_if2 (g := (73, [(4, .int b), (3, .int a), (0, .ref 25), (1, .int a), (2, .int b)], [], hq g c1 c2 c3 c4 c5 c6 c7 c8 c9 c10 c11 c12 c13 c14 c15 c16 c17 c18 c19 c20 c21 c22 c23 c24 (hc25 mTy mTm mMn mFn mRn mTn mVn mLr mTr mFl mFm mFp mSc mMp mEn) (hc26 mPa) (hc27 mTo) (hc28 mOt) (hc29 mNa) (hc30 mRe) (hc31 mMa) (hc32 mMy) (hc33 mPm) (hc34 mFy) (hc35 mFa) (hc36 mFr) (hc37 mFo) (hc38 mRt) (hc39 mRm) (hc40 mTt) (hc41 mTi) (hc42 mPl) (hc43 mVr) (hc44 mVf) (hc45 mVc) (hc46 mAr) (hc47 mTc) (hc48 mFt) (hc49 mGo) dyn, 0, 0)) (h := (53, [(4, .int b), (3, .int a), (0, .ref 25), (1, .int a), (2, .int b)], [], hq g c1 c2 c3 c4 c5 c6 c7 c8 c9 c10 c11 c12 c13 c14 c15 c16 c17 c18 c19 c20 c21 c22 c23 c24 (hc25 mTy mTm mMn mFn mRn mTn mVn mLr mTr mFl mFm mFp mSc mMp mEn) (hc26 mPa) (hc27 mTo) (hc28 mOt) (hc29 mNa) (hc30 mRe) (hc31 mMa) (hc32 mMy) (hc33 mPm) (hc34 mFy) (hc35 mFa) (hc36 mFr) (hc37 mFo) (hc38 mRt) (hc39 mRm) (hc40 mTt) (hc41 mTi) (hc42 mPl) (hc43 mVr) (hc44 mVf) (hc45 mVc) (hc46 mAr) (hc47 mTc) (hc48 mFt) (hc49 mGo) dyn, 0, 0)) rfl (fun h20 => ?_) (fun h20 => ?_)
      ·
        have h20 := qT_eq (cx := (a).toInt) (cy := (b).toInt) rfl rfl h20
        refine pm_go (g := (74, _, [.int a], _, 0, 0)) rfl ?_
        refine pm_go (g := (76, _, [.int b, .int a], _, 0, 0)) rfl ?_
        refine pm_if2 (g := (83, [(4, .int b), (3, .int a), (0, .ref 25), (1, .int a), (2, .int b)], [], hq g c1 c2 c3 c4 c5 c6 c7 c8 c9 c10 c11 c12 c13 c14 c15 c16 c17 c18 c19 c20 c21 c22 c23 c24 (hc25 mTy mTm mMn mFn mRn mTn mVn mLr mTr mFl mFm mFp mSc mMp mEn) (hc26 mPa) (hc27 mTo) (hc28 mOt) (hc29 mNa) (hc30 mRe) (hc31 mMa) (hc32 mMy) (hc33 mPm) (hc34 mFy) (hc35 mFa) (hc36 mFr) (hc37 mFo) (hc38 mRt) (hc39 mRm) (hc40 mTt) (hc41 mTi) (hc42 mPl) (hc43 mVr) (hc44 mVf) (hc45 mVc) (hc46 mAr) (hc47 mTc) (hc48 mFt) (hc49 mGo) dyn, 0, 0)) (h := (79, [(4, .int b), (3, .int a), (0, .ref 25), (1, .int a), (2, .int b)], [], hq g c1 c2 c3 c4 c5 c6 c7 c8 c9 c10 c11 c12 c13 c14 c15 c16 c17 c18 c19 c20 c21 c22 c23 c24 (hc25 mTy mTm mMn mFn mRn mTn mVn mLr mTr mFl mFm mFp mSc mMp mEn) (hc26 mPa) (hc27 mTo) (hc28 mOt) (hc29 mNa) (hc30 mRe) (hc31 mMa) (hc32 mMy) (hc33 mPm) (hc34 mFy) (hc35 mFa) (hc36 mFr) (hc37 mFo) (hc38 mRt) (hc39 mRm) (hc40 mTt) (hc41 mTi) (hc42 mPl) (hc43 mVr) (hc44 mVf) (hc45 mVc) (hc46 mAr) (hc47 mTc) (hc48 mFt) (hc49 mGo) dyn, 0, 0)) rfl (fun h21 => ?_) (fun h21 => ?_)
        ·
          have h21 := qT_ne (cx := (a).toInt) (cy := (b).toInt) rfl rfl h21
          refine pm_go (g := (84, _, [.int 0], _, 0, 0)) rfl ?_
          exact pm_ret rfl (k1 (by rw [hu]; exact uR_out (by omega) (by omega)))
        have h21 := qF_ne (cx := (a).toInt) (cy := (b).toInt) rfl rfl h21
        refine pm_go (g := (80, _, [.int 1], _, 0, 0)) rfl ?_
        refine pm_go (g := (84, _, [.int 1], _, 0, 0)) rfl ?_
        exact pm_ret rfl (k0 (by rw [hu]; exact uR_eq (by omega)))
      have h20 := qF_eq (cx := (a).toInt) (cy := (b).toInt) rfl rfl h20
      refine pm_go (g := (54, _, [.int a], _, 0, 0)) rfl ?_
      refine pm_go (g := (55, _, [.int 0, .int a], _, 0, 0)) rfl ?_
      refine pm_go (g := (57, _, [.int 9, .int 0, .int a], _, 0, 0)) rfl ?_
      refine pm_callD (z := 128) (as := [.int a, .int 0, .int 9]) (rest := []) rfl ?_
      have h22 : (0 : Int32).toInt = 0 := by decide
      have h23 : (9 : Int32).toInt = 9 := by decide
      refine w_X12_isIn a 0 9 (fun h24 => ?_) (fun h25 => ?_)
      ·
        show pm_WP 132 (60, [(4, .int b), (3, .int a), (0, .ref 25), (1, .int a), (2, .int b)], [.int 1], _, 0, 0) _
        refine pm_brF (h := (63, [(4, .int b), (3, .int a), (0, .ref 25), (1, .int a), (2, .int b)], [], hq g c1 c2 c3 c4 c5 c6 c7 c8 c9 c10 c11 c12 c13 c14 c15 c16 c17 c18 c19 c20 c21 c22 c23 c24 (hc25 mTy mTm mMn mFn mRn mTn mVn mLr mTr mFl mFm mFp mSc mMp mEn) (hc26 mPa) (hc27 mTo) (hc28 mOt) (hc29 mNa) (hc30 mRe) (hc31 mMa) (hc32 mMy) (hc33 mPm) (hc34 mFy) (hc35 mFa) (hc36 mFr) (hc37 mFo) (hc38 mRt) (hc39 mRm) (hc40 mTt) (hc41 mTi) (hc42 mPl) (hc43 mVr) (hc44 mVf) (hc45 mVc) (hc46 mAr) (hc47 mTc) (hc48 mFt) (hc49 mGo) dyn, 0, 0)) rfl ?_
        refine pm_go (g := (64, _, [.ref 25], _, 0, 0)) rfl ?_
        refine pm_go (g := (67, _, [.ref 26], _, 0, 0)) rfl ?_
        refine pm_go (g := (68, _, [.int a, .ref 26], _, 0, 0)) rfl ?_
        refine pm_sd (g := (69, _, [.int (mPa (a).toNatClampNeg)], _, 0, 0)) rfl (pm_inI (by omega) (by omega)) ?_
        refine pm_go (g := (70, [(3, .int (mPa (a).toNatClampNeg)), (4, .int b), (0, .ref 25), (1, .int a), (2, .int b)], [], _, 0, 0)) rfl ?_
        refine pm_go (g := (47, _, [], _, 0, 0)) rfl ?_
        have hs := uR_step (f := mPa) (n := 10) (x := a) (y := b) (by omega) (by omega) (by omega)
        have hx := xN (x := a) (by omega)
        have hp1 := p0 (a).toNatClampNeg (by omega)
        rw [hu, hs] at k0 k1
        exact w_isUnder_loop a b p0 10 (mPa (a).toNatClampNeg) (b) (by omega) k0 k1
      show pm_WP 132 (60, [(4, .int b), (3, .int a), (0, .ref 25), (1, .int a), (2, .int b)], [.int 0], hq g c1 c2 c3 c4 c5 c6 c7 c8 c9 c10 c11 c12 c13 c14 c15 c16 c17 c18 c19 c20 c21 c22 c23 c24 (hc25 mTy mTm mMn mFn mRn mTn mVn mLr mTr mFl mFm mFp mSc mMp mEn) (hc26 mPa) (hc27 mTo) (hc28 mOt) (hc29 mNa) (hc30 mRe) (hc31 mMa) (hc32 mMy) (hc33 mPm) (hc34 mFy) (hc35 mFa) (hc36 mFr) (hc37 mFo) (hc38 mRt) (hc39 mRm) (hc40 mTt) (hc41 mTi) (hc42 mPl) (hc43 mVr) (hc44 mVf) (hc45 mVc) (hc46 mAr) (hc47 mTc) (hc48 mFt) (hc49 mGo) dyn, 0, 0) _
      refine pm_brT (g := (73, [(4, .int b), (3, .int a), (0, .ref 25), (1, .int a), (2, .int b)], [], hq g c1 c2 c3 c4 c5 c6 c7 c8 c9 c10 c11 c12 c13 c14 c15 c16 c17 c18 c19 c20 c21 c22 c23 c24 (hc25 mTy mTm mMn mFn mRn mTn mVn mLr mTr mFl mFm mFp mSc mMp mEn) (hc26 mPa) (hc27 mTo) (hc28 mOt) (hc29 mNa) (hc30 mRe) (hc31 mMa) (hc32 mMy) (hc33 mPm) (hc34 mFy) (hc35 mFa) (hc36 mFr) (hc37 mFo) (hc38 mRt) (hc39 mRm) (hc40 mTt) (hc41 mTi) (hc42 mPl) (hc43 mVr) (hc44 mVf) (hc45 mVc) (hc46 mAr) (hc47 mTc) (hc48 mFt) (hc49 mGo) dyn, 0, 0)) rfl ?_
      refine pm_go (g := (74, _, [.int a], _, 0, 0)) rfl ?_
      refine pm_go (g := (76, _, [.int b, .int a], _, 0, 0)) rfl ?_
      refine pm_if2 (g := (83, [(4, .int b), (3, .int a), (0, .ref 25), (1, .int a), (2, .int b)], [], hq g c1 c2 c3 c4 c5 c6 c7 c8 c9 c10 c11 c12 c13 c14 c15 c16 c17 c18 c19 c20 c21 c22 c23 c24 (hc25 mTy mTm mMn mFn mRn mTn mVn mLr mTr mFl mFm mFp mSc mMp mEn) (hc26 mPa) (hc27 mTo) (hc28 mOt) (hc29 mNa) (hc30 mRe) (hc31 mMa) (hc32 mMy) (hc33 mPm) (hc34 mFy) (hc35 mFa) (hc36 mFr) (hc37 mFo) (hc38 mRt) (hc39 mRm) (hc40 mTt) (hc41 mTi) (hc42 mPl) (hc43 mVr) (hc44 mVf) (hc45 mVc) (hc46 mAr) (hc47 mTc) (hc48 mFt) (hc49 mGo) dyn, 0, 0)) (h := (79, [(4, .int b), (3, .int a), (0, .ref 25), (1, .int a), (2, .int b)], [], hq g c1 c2 c3 c4 c5 c6 c7 c8 c9 c10 c11 c12 c13 c14 c15 c16 c17 c18 c19 c20 c21 c22 c23 c24 (hc25 mTy mTm mMn mFn mRn mTn mVn mLr mTr mFl mFm mFp mSc mMp mEn) (hc26 mPa) (hc27 mTo) (hc28 mOt) (hc29 mNa) (hc30 mRe) (hc31 mMa) (hc32 mMy) (hc33 mPm) (hc34 mFy) (hc35 mFa) (hc36 mFr) (hc37 mFo) (hc38 mRt) (hc39 mRm) (hc40 mTt) (hc41 mTi) (hc42 mPl) (hc43 mVr) (hc44 mVf) (hc45 mVc) (hc46 mAr) (hc47 mTc) (hc48 mFt) (hc49 mGo) dyn, 0, 0)) rfl (fun h27 => ?_) (fun h27 => ?_)
      ·
        have h27 := qT_ne (cx := (a).toInt) (cy := (b).toInt) rfl rfl h27
        refine pm_go (g := (84, _, [.int 0], _, 0, 0)) rfl ?_
        exact pm_ret rfl (k1 (by rw [hu]; exact uR_out (by omega) (by omega)))
      have h27 := qF_ne (cx := (a).toInt) (cy := (b).toInt) rfl rfl h27
      refine pm_go (g := (80, _, [.int 1], _, 0, 0)) rfl ?_
      refine pm_go (g := (84, _, [.int 1], _, 0, 0)) rfl ?_
      exact pm_ret rfl (k0 (by rw [hu]; exact uR_eq (by omega)))
    show pm_WP 132 (26, [(4, .int b), (3, .int a), (0, .ref 25), (1, .int a), (2, .int b)], [.int 0], hq g c1 c2 c3 c4 c5 c6 c7 c8 c9 c10 c11 c12 c13 c14 c15 c16 c17 c18 c19 c20 c21 c22 c23 c24 (hc25 mTy mTm mMn mFn mRn mTn mVn mLr mTr mFl mFm mFp mSc mMp mEn) (hc26 mPa) (hc27 mTo) (hc28 mOt) (hc29 mNa) (hc30 mRe) (hc31 mMa) (hc32 mMy) (hc33 mPm) (hc34 mFy) (hc35 mFa) (hc36 mFr) (hc37 mFo) (hc38 mRt) (hc39 mRm) (hc40 mTt) (hc41 mTi) (hc42 mPl) (hc43 mVr) (hc44 mVf) (hc45 mVc) (hc46 mAr) (hc47 mTc) (hc48 mFt) (hc49 mGo) dyn, 0, 0) _
    refine pm_brT (g := (47, [(4, .int b), (3, .int a), (0, .ref 25), (1, .int a), (2, .int b)], [], hq g c1 c2 c3 c4 c5 c6 c7 c8 c9 c10 c11 c12 c13 c14 c15 c16 c17 c18 c19 c20 c21 c22 c23 c24 (hc25 mTy mTm mMn mFn mRn mTn mVn mLr mTr mFl mFm mFp mSc mMp mEn) (hc26 mPa) (hc27 mTo) (hc28 mOt) (hc29 mNa) (hc30 mRe) (hc31 mMa) (hc32 mMy) (hc33 mPm) (hc34 mFy) (hc35 mFa) (hc36 mFr) (hc37 mFo) (hc38 mRt) (hc39 mRm) (hc40 mTt) (hc41 mTi) (hc42 mPl) (hc43 mVr) (hc44 mVf) (hc45 mVc) (hc46 mAr) (hc47 mTc) (hc48 mFt) (hc49 mGo) dyn, 0, 0)) rfl ?_
    have hu := uM_3 (f := mPa) (a := a) (b := b) (by omega) (by omega)
    refine pm_go (g := (48, _, [.int a], _, 0, 0)) rfl ?_
    refine pm_go (g := (50, _, [.int b, .int a], _, 0, 0)) rfl ?_
    refine pm_if2 (g := (73, [(4, .int b), (3, .int a), (0, .ref 25), (1, .int a), (2, .int b)], [], hq g c1 c2 c3 c4 c5 c6 c7 c8 c9 c10 c11 c12 c13 c14 c15 c16 c17 c18 c19 c20 c21 c22 c23 c24 (hc25 mTy mTm mMn mFn mRn mTn mVn mLr mTr mFl mFm mFp mSc mMp mEn) (hc26 mPa) (hc27 mTo) (hc28 mOt) (hc29 mNa) (hc30 mRe) (hc31 mMa) (hc32 mMy) (hc33 mPm) (hc34 mFy) (hc35 mFa) (hc36 mFr) (hc37 mFo) (hc38 mRt) (hc39 mRm) (hc40 mTt) (hc41 mTi) (hc42 mPl) (hc43 mVr) (hc44 mVf) (hc45 mVc) (hc46 mAr) (hc47 mTc) (hc48 mFt) (hc49 mGo) dyn, 0, 0)) (h := (53, [(4, .int b), (3, .int a), (0, .ref 25), (1, .int a), (2, .int b)], [], hq g c1 c2 c3 c4 c5 c6 c7 c8 c9 c10 c11 c12 c13 c14 c15 c16 c17 c18 c19 c20 c21 c22 c23 c24 (hc25 mTy mTm mMn mFn mRn mTn mVn mLr mTr mFl mFm mFp mSc mMp mEn) (hc26 mPa) (hc27 mTo) (hc28 mOt) (hc29 mNa) (hc30 mRe) (hc31 mMa) (hc32 mMy) (hc33 mPm) (hc34 mFy) (hc35 mFa) (hc36 mFr) (hc37 mFo) (hc38 mRt) (hc39 mRm) (hc40 mTt) (hc41 mTi) (hc42 mPl) (hc43 mVr) (hc44 mVf) (hc45 mVc) (hc46 mAr) (hc47 mTc) (hc48 mFt) (hc49 mGo) dyn, 0, 0)) rfl (fun h28 => ?_) (fun h28 => ?_)
    ·
      have h28 := qT_eq (cx := (a).toInt) (cy := (b).toInt) rfl rfl h28
      refine pm_go (g := (74, _, [.int a], _, 0, 0)) rfl ?_
      refine pm_go (g := (76, _, [.int b, .int a], _, 0, 0)) rfl ?_
      refine pm_if2 (g := (83, [(4, .int b), (3, .int a), (0, .ref 25), (1, .int a), (2, .int b)], [], hq g c1 c2 c3 c4 c5 c6 c7 c8 c9 c10 c11 c12 c13 c14 c15 c16 c17 c18 c19 c20 c21 c22 c23 c24 (hc25 mTy mTm mMn mFn mRn mTn mVn mLr mTr mFl mFm mFp mSc mMp mEn) (hc26 mPa) (hc27 mTo) (hc28 mOt) (hc29 mNa) (hc30 mRe) (hc31 mMa) (hc32 mMy) (hc33 mPm) (hc34 mFy) (hc35 mFa) (hc36 mFr) (hc37 mFo) (hc38 mRt) (hc39 mRm) (hc40 mTt) (hc41 mTi) (hc42 mPl) (hc43 mVr) (hc44 mVf) (hc45 mVc) (hc46 mAr) (hc47 mTc) (hc48 mFt) (hc49 mGo) dyn, 0, 0)) (h := (79, [(4, .int b), (3, .int a), (0, .ref 25), (1, .int a), (2, .int b)], [], hq g c1 c2 c3 c4 c5 c6 c7 c8 c9 c10 c11 c12 c13 c14 c15 c16 c17 c18 c19 c20 c21 c22 c23 c24 (hc25 mTy mTm mMn mFn mRn mTn mVn mLr mTr mFl mFm mFp mSc mMp mEn) (hc26 mPa) (hc27 mTo) (hc28 mOt) (hc29 mNa) (hc30 mRe) (hc31 mMa) (hc32 mMy) (hc33 mPm) (hc34 mFy) (hc35 mFa) (hc36 mFr) (hc37 mFo) (hc38 mRt) (hc39 mRm) (hc40 mTt) (hc41 mTi) (hc42 mPl) (hc43 mVr) (hc44 mVf) (hc45 mVc) (hc46 mAr) (hc47 mTc) (hc48 mFt) (hc49 mGo) dyn, 0, 0)) rfl (fun h29 => ?_) (fun h29 => ?_)
      ·
        have h29 := qT_ne (cx := (a).toInt) (cy := (b).toInt) rfl rfl h29
        refine pm_go (g := (84, _, [.int 0], _, 0, 0)) rfl ?_
        exact pm_ret rfl (k1 (by rw [hu]; exact uR_out (by omega) (by omega)))
      have h29 := qF_ne (cx := (a).toInt) (cy := (b).toInt) rfl rfl h29
      refine pm_go (g := (80, _, [.int 1], _, 0, 0)) rfl ?_
      refine pm_go (g := (84, _, [.int 1], _, 0, 0)) rfl ?_
      exact pm_ret rfl (k0 (by rw [hu]; exact uR_eq (by omega)))
    have h28 := qF_eq (cx := (a).toInt) (cy := (b).toInt) rfl rfl h28
    refine pm_go (g := (54, _, [.int a], _, 0, 0)) rfl ?_
    refine pm_go (g := (55, _, [.int 0, .int a], _, 0, 0)) rfl ?_
    refine pm_go (g := (57, _, [.int 9, .int 0, .int a], _, 0, 0)) rfl ?_
    refine pm_callD (z := 128) (as := [.int a, .int 0, .int 9]) (rest := []) rfl ?_
    have h30 : (0 : Int32).toInt = 0 := by decide
    have h31 : (9 : Int32).toInt = 9 := by decide
    refine w_X12_isIn a 0 9 (fun h32 => ?_) (fun h33 => ?_)
    ·
      show pm_WP 132 (60, [(4, .int b), (3, .int a), (0, .ref 25), (1, .int a), (2, .int b)], [.int 1], _, 0, 0) _
      refine pm_brF (h := (63, [(4, .int b), (3, .int a), (0, .ref 25), (1, .int a), (2, .int b)], [], hq g c1 c2 c3 c4 c5 c6 c7 c8 c9 c10 c11 c12 c13 c14 c15 c16 c17 c18 c19 c20 c21 c22 c23 c24 (hc25 mTy mTm mMn mFn mRn mTn mVn mLr mTr mFl mFm mFp mSc mMp mEn) (hc26 mPa) (hc27 mTo) (hc28 mOt) (hc29 mNa) (hc30 mRe) (hc31 mMa) (hc32 mMy) (hc33 mPm) (hc34 mFy) (hc35 mFa) (hc36 mFr) (hc37 mFo) (hc38 mRt) (hc39 mRm) (hc40 mTt) (hc41 mTi) (hc42 mPl) (hc43 mVr) (hc44 mVf) (hc45 mVc) (hc46 mAr) (hc47 mTc) (hc48 mFt) (hc49 mGo) dyn, 0, 0)) rfl ?_
      refine pm_go (g := (64, _, [.ref 25], _, 0, 0)) rfl ?_
      refine pm_go (g := (67, _, [.ref 26], _, 0, 0)) rfl ?_
      refine pm_go (g := (68, _, [.int a, .ref 26], _, 0, 0)) rfl ?_
      refine pm_sd (g := (69, _, [.int (mPa (a).toNatClampNeg)], _, 0, 0)) rfl (pm_inI (by omega) (by omega)) ?_
      refine pm_go (g := (70, [(3, .int (mPa (a).toNatClampNeg)), (4, .int b), (0, .ref 25), (1, .int a), (2, .int b)], [], _, 0, 0)) rfl ?_
      refine pm_go (g := (47, _, [], _, 0, 0)) rfl ?_
      have hs := uR_step (f := mPa) (n := 10) (x := a) (y := b) (by omega) (by omega) (by omega)
      have hx := xN (x := a) (by omega)
      have hp1 := p0 (a).toNatClampNeg (by omega)
      rw [hu, hs] at k0 k1
      exact w_isUnder_loop a b p0 10 (mPa (a).toNatClampNeg) (b) (by omega) k0 k1
    show pm_WP 132 (60, [(4, .int b), (3, .int a), (0, .ref 25), (1, .int a), (2, .int b)], [.int 0], hq g c1 c2 c3 c4 c5 c6 c7 c8 c9 c10 c11 c12 c13 c14 c15 c16 c17 c18 c19 c20 c21 c22 c23 c24 (hc25 mTy mTm mMn mFn mRn mTn mVn mLr mTr mFl mFm mFp mSc mMp mEn) (hc26 mPa) (hc27 mTo) (hc28 mOt) (hc29 mNa) (hc30 mRe) (hc31 mMa) (hc32 mMy) (hc33 mPm) (hc34 mFy) (hc35 mFa) (hc36 mFr) (hc37 mFo) (hc38 mRt) (hc39 mRm) (hc40 mTt) (hc41 mTi) (hc42 mPl) (hc43 mVr) (hc44 mVf) (hc45 mVc) (hc46 mAr) (hc47 mTc) (hc48 mFt) (hc49 mGo) dyn, 0, 0) _
    refine pm_brT (g := (73, [(4, .int b), (3, .int a), (0, .ref 25), (1, .int a), (2, .int b)], [], hq g c1 c2 c3 c4 c5 c6 c7 c8 c9 c10 c11 c12 c13 c14 c15 c16 c17 c18 c19 c20 c21 c22 c23 c24 (hc25 mTy mTm mMn mFn mRn mTn mVn mLr mTr mFl mFm mFp mSc mMp mEn) (hc26 mPa) (hc27 mTo) (hc28 mOt) (hc29 mNa) (hc30 mRe) (hc31 mMa) (hc32 mMy) (hc33 mPm) (hc34 mFy) (hc35 mFa) (hc36 mFr) (hc37 mFo) (hc38 mRt) (hc39 mRm) (hc40 mTt) (hc41 mTi) (hc42 mPl) (hc43 mVr) (hc44 mVf) (hc45 mVc) (hc46 mAr) (hc47 mTc) (hc48 mFt) (hc49 mGo) dyn, 0, 0)) rfl ?_
    refine pm_go (g := (74, _, [.int a], _, 0, 0)) rfl ?_
    refine pm_go (g := (76, _, [.int b, .int a], _, 0, 0)) rfl ?_
    refine pm_if2 (g := (83, [(4, .int b), (3, .int a), (0, .ref 25), (1, .int a), (2, .int b)], [], hq g c1 c2 c3 c4 c5 c6 c7 c8 c9 c10 c11 c12 c13 c14 c15 c16 c17 c18 c19 c20 c21 c22 c23 c24 (hc25 mTy mTm mMn mFn mRn mTn mVn mLr mTr mFl mFm mFp mSc mMp mEn) (hc26 mPa) (hc27 mTo) (hc28 mOt) (hc29 mNa) (hc30 mRe) (hc31 mMa) (hc32 mMy) (hc33 mPm) (hc34 mFy) (hc35 mFa) (hc36 mFr) (hc37 mFo) (hc38 mRt) (hc39 mRm) (hc40 mTt) (hc41 mTi) (hc42 mPl) (hc43 mVr) (hc44 mVf) (hc45 mVc) (hc46 mAr) (hc47 mTc) (hc48 mFt) (hc49 mGo) dyn, 0, 0)) (h := (79, [(4, .int b), (3, .int a), (0, .ref 25), (1, .int a), (2, .int b)], [], hq g c1 c2 c3 c4 c5 c6 c7 c8 c9 c10 c11 c12 c13 c14 c15 c16 c17 c18 c19 c20 c21 c22 c23 c24 (hc25 mTy mTm mMn mFn mRn mTn mVn mLr mTr mFl mFm mFp mSc mMp mEn) (hc26 mPa) (hc27 mTo) (hc28 mOt) (hc29 mNa) (hc30 mRe) (hc31 mMa) (hc32 mMy) (hc33 mPm) (hc34 mFy) (hc35 mFa) (hc36 mFr) (hc37 mFo) (hc38 mRt) (hc39 mRm) (hc40 mTt) (hc41 mTi) (hc42 mPl) (hc43 mVr) (hc44 mVf) (hc45 mVc) (hc46 mAr) (hc47 mTc) (hc48 mFt) (hc49 mGo) dyn, 0, 0)) rfl (fun h35 => ?_) (fun h35 => ?_)
    ·
      have h35 := qT_ne (cx := (a).toInt) (cy := (b).toInt) rfl rfl h35
      refine pm_go (g := (84, _, [.int 0], _, 0, 0)) rfl ?_
      exact pm_ret rfl (k1 (by rw [hu]; exact uR_out (by omega) (by omega)))
    have h35 := qF_ne (cx := (a).toInt) (cy := (b).toInt) rfl rfl h35
    refine pm_go (g := (80, _, [.int 1], _, 0, 0)) rfl ?_
    refine pm_go (g := (84, _, [.int 1], _, 0, 0)) rfl ?_
    exact pm_ret rfl (k0 (by rw [hu]; exact uR_eq (by omega)))
  have h1 := qF_lt (cx := (a).toInt) (cy := 20) rfl (by decide) h1
  refine pm_go (g := (13, _, [.int b], _, 0, 0)) rfl ?_
  refine pm_if2 (g := (18, [(4, .int b), (3, .int a), (0, .ref 25), (1, .int a), (2, .int b)], [], hq g c1 c2 c3 c4 c5 c6 c7 c8 c9 c10 c11 c12 c13 c14 c15 c16 c17 c18 c19 c20 c21 c22 c23 c24 (hc25 mTy mTm mMn mFn mRn mTn mVn mLr mTr mFl mFm mFp mSc mMp mEn) (hc26 mPa) (hc27 mTo) (hc28 mOt) (hc29 mNa) (hc30 mRe) (hc31 mMa) (hc32 mMy) (hc33 mPm) (hc34 mFy) (hc35 mFa) (hc36 mFr) (hc37 mFo) (hc38 mRt) (hc39 mRm) (hc40 mTt) (hc41 mTi) (hc42 mPl) (hc43 mVr) (hc44 mVf) (hc45 mVc) (hc46 mAr) (hc47 mTc) (hc48 mFt) (hc49 mGo) dyn, 0, 0)) (h := (16, [(4, .int b), (3, .int a), (0, .ref 25), (1, .int a), (2, .int b)], [], hq g c1 c2 c3 c4 c5 c6 c7 c8 c9 c10 c11 c12 c13 c14 c15 c16 c17 c18 c19 c20 c21 c22 c23 c24 (hc25 mTy mTm mMn mFn mRn mTn mVn mLr mTr mFl mFm mFp mSc mMp mEn) (hc26 mPa) (hc27 mTo) (hc28 mOt) (hc29 mNa) (hc30 mRe) (hc31 mMa) (hc32 mMy) (hc33 mPm) (hc34 mFy) (hc35 mFa) (hc36 mFr) (hc37 mFo) (hc38 mRt) (hc39 mRm) (hc40 mTt) (hc41 mTi) (hc42 mPl) (hc43 mVr) (hc44 mVf) (hc45 mVc) (hc46 mAr) (hc47 mTc) (hc48 mFt) (hc49 mGo) dyn, 0, 0)) rfl (fun h36 => ?_) (fun h36 => ?_)
  ·
    have h36 := qT_ne (cx := (b).toInt) (cy := 0) rfl (by decide) h36
    refine pm_go (g := (19, _, [.int a], _, 0, 0)) rfl ?_
    refine pm_go (g := (21, _, [.int 20, .int a], _, 0, 0)) rfl ?_
    refine pm_go (g := (23, _, [.int 29, .int 20, .int a], _, 0, 0)) rfl ?_
    refine pm_callD (z := 128) (as := [.int a, .int 20, .int 29]) (rest := []) rfl ?_
    have h37 : (20 : Int32).toInt = 20 := by decide
    have h38 : (29 : Int32).toInt = 29 := by decide
    refine w_X12_isIn a 20 29 (fun h39 => ?_) (fun h40 => ?_)
    ·
      show pm_WP 132 (26, [(4, .int b), (3, .int a), (0, .ref 25), (1, .int a), (2, .int b)], [.int 1], _, 0, 0) _
      refine pm_brF (h := (29, [(4, .int b), (3, .int a), (0, .ref 25), (1, .int a), (2, .int b)], [], hq g c1 c2 c3 c4 c5 c6 c7 c8 c9 c10 c11 c12 c13 c14 c15 c16 c17 c18 c19 c20 c21 c22 c23 c24 (hc25 mTy mTm mMn mFn mRn mTn mVn mLr mTr mFl mFm mFp mSc mMp mEn) (hc26 mPa) (hc27 mTo) (hc28 mOt) (hc29 mNa) (hc30 mRe) (hc31 mMa) (hc32 mMy) (hc33 mPm) (hc34 mFy) (hc35 mFa) (hc36 mFr) (hc37 mFo) (hc38 mRt) (hc39 mRm) (hc40 mTt) (hc41 mTi) (hc42 mPl) (hc43 mVr) (hc44 mVf) (hc45 mVc) (hc46 mAr) (hc47 mTc) (hc48 mFt) (hc49 mGo) dyn, 0, 0)) rfl ?_
      refine pm_go (g := (31, _, [.int b], _, 0, 0)) rfl ?_
      refine pm_go (g := (33, _, [.int 20, .int b], _, 0, 0)) rfl ?_
      refine pm_go (g := (35, _, [.int 29, .int 20, .int b], _, 0, 0)) rfl ?_
      refine pm_callD (z := 128) (as := [.int b, .int 20, .int 29]) (rest := []) rfl ?_
      have h42 : (20 : Int32).toInt = 20 := by decide
      have h43 : (29 : Int32).toInt = 29 := by decide
      refine w_X12_isIn b 20 29 (fun h44 => ?_) (fun h45 => ?_)
      ·
        show pm_WP 132 (38, [(4, .int b), (3, .int a), (0, .ref 25), (1, .int a), (2, .int b)], [.int 1], _, 0, 0) _
        refine pm_brF (h := (41, [(4, .int b), (3, .int a), (0, .ref 25), (1, .int a), (2, .int b)], [], hq g c1 c2 c3 c4 c5 c6 c7 c8 c9 c10 c11 c12 c13 c14 c15 c16 c17 c18 c19 c20 c21 c22 c23 c24 (hc25 mTy mTm mMn mFn mRn mTn mVn mLr mTr mFl mFm mFp mSc mMp mEn) (hc26 mPa) (hc27 mTo) (hc28 mOt) (hc29 mNa) (hc30 mRe) (hc31 mMa) (hc32 mMy) (hc33 mPm) (hc34 mFy) (hc35 mFa) (hc36 mFr) (hc37 mFo) (hc38 mRt) (hc39 mRm) (hc40 mTt) (hc41 mTi) (hc42 mPl) (hc43 mVr) (hc44 mVf) (hc45 mVc) (hc46 mAr) (hc47 mTc) (hc48 mFt) (hc49 mGo) dyn, 0, 0)) rfl ?_
        refine pm_go (g := (44, [(3, .int (a + (-20))), (4, .int b), (0, .ref 25), (1, .int a), (2, .int b)], [], _, 0, 0)) rfl ?_
        refine pm_go (g := (47, [(4, .int (b + (-20))), (3, .int (a + (-20))), (0, .ref 25), (1, .int a), (2, .int b)], [], _, 0, 0)) rfl ?_
        have hu := uM_2 (f := mPa) (a := a) (b := b) (by omega) (by omega)
        have ga : (a + -20).toInt = a.toInt + -20 := iAdd rfl (by decide) (by omega) (by omega)
        have gb : (b + -20).toInt = b.toInt + -20 := iAdd rfl (by decide) (by omega) (by omega)
        refine pm_go (g := (48, _, [.int (a + (-20))], _, 0, 0)) rfl ?_
        refine pm_go (g := (50, _, [.int (b + (-20)), .int (a + (-20))], _, 0, 0)) rfl ?_
        refine pm_if2 (g := (73, [(4, .int (b + (-20))), (3, .int (a + (-20))), (0, .ref 25), (1, .int a), (2, .int b)], [], hq g c1 c2 c3 c4 c5 c6 c7 c8 c9 c10 c11 c12 c13 c14 c15 c16 c17 c18 c19 c20 c21 c22 c23 c24 (hc25 mTy mTm mMn mFn mRn mTn mVn mLr mTr mFl mFm mFp mSc mMp mEn) (hc26 mPa) (hc27 mTo) (hc28 mOt) (hc29 mNa) (hc30 mRe) (hc31 mMa) (hc32 mMy) (hc33 mPm) (hc34 mFy) (hc35 mFa) (hc36 mFr) (hc37 mFo) (hc38 mRt) (hc39 mRm) (hc40 mTt) (hc41 mTi) (hc42 mPl) (hc43 mVr) (hc44 mVf) (hc45 mVc) (hc46 mAr) (hc47 mTc) (hc48 mFt) (hc49 mGo) dyn, 0, 0)) (h := (53, [(4, .int (b + (-20))), (3, .int (a + (-20))), (0, .ref 25), (1, .int a), (2, .int b)], [], hq g c1 c2 c3 c4 c5 c6 c7 c8 c9 c10 c11 c12 c13 c14 c15 c16 c17 c18 c19 c20 c21 c22 c23 c24 (hc25 mTy mTm mMn mFn mRn mTn mVn mLr mTr mFl mFm mFp mSc mMp mEn) (hc26 mPa) (hc27 mTo) (hc28 mOt) (hc29 mNa) (hc30 mRe) (hc31 mMa) (hc32 mMy) (hc33 mPm) (hc34 mFy) (hc35 mFa) (hc36 mFr) (hc37 mFo) (hc38 mRt) (hc39 mRm) (hc40 mTt) (hc41 mTi) (hc42 mPl) (hc43 mVr) (hc44 mVf) (hc45 mVc) (hc46 mAr) (hc47 mTc) (hc48 mFt) (hc49 mGo) dyn, 0, 0)) rfl (fun h47 => ?_) (fun h47 => ?_)
        ·
          have h47 := qT_eq (cx := (a + (-20)).toInt) (cy := (b + (-20)).toInt) rfl rfl h47
          refine pm_go (g := (74, _, [.int (a + (-20))], _, 0, 0)) rfl ?_
          refine pm_go (g := (76, _, [.int (b + (-20)), .int (a + (-20))], _, 0, 0)) rfl ?_
          refine pm_if2 (g := (83, [(4, .int (b + (-20))), (3, .int (a + (-20))), (0, .ref 25), (1, .int a), (2, .int b)], [], hq g c1 c2 c3 c4 c5 c6 c7 c8 c9 c10 c11 c12 c13 c14 c15 c16 c17 c18 c19 c20 c21 c22 c23 c24 (hc25 mTy mTm mMn mFn mRn mTn mVn mLr mTr mFl mFm mFp mSc mMp mEn) (hc26 mPa) (hc27 mTo) (hc28 mOt) (hc29 mNa) (hc30 mRe) (hc31 mMa) (hc32 mMy) (hc33 mPm) (hc34 mFy) (hc35 mFa) (hc36 mFr) (hc37 mFo) (hc38 mRt) (hc39 mRm) (hc40 mTt) (hc41 mTi) (hc42 mPl) (hc43 mVr) (hc44 mVf) (hc45 mVc) (hc46 mAr) (hc47 mTc) (hc48 mFt) (hc49 mGo) dyn, 0, 0)) (h := (79, [(4, .int (b + (-20))), (3, .int (a + (-20))), (0, .ref 25), (1, .int a), (2, .int b)], [], hq g c1 c2 c3 c4 c5 c6 c7 c8 c9 c10 c11 c12 c13 c14 c15 c16 c17 c18 c19 c20 c21 c22 c23 c24 (hc25 mTy mTm mMn mFn mRn mTn mVn mLr mTr mFl mFm mFp mSc mMp mEn) (hc26 mPa) (hc27 mTo) (hc28 mOt) (hc29 mNa) (hc30 mRe) (hc31 mMa) (hc32 mMy) (hc33 mPm) (hc34 mFy) (hc35 mFa) (hc36 mFr) (hc37 mFo) (hc38 mRt) (hc39 mRm) (hc40 mTt) (hc41 mTi) (hc42 mPl) (hc43 mVr) (hc44 mVf) (hc45 mVc) (hc46 mAr) (hc47 mTc) (hc48 mFt) (hc49 mGo) dyn, 0, 0)) rfl (fun h48 => ?_) (fun h48 => ?_)
          ·
            have h48 := qT_ne (cx := (a + (-20)).toInt) (cy := (b + (-20)).toInt) rfl rfl h48
            refine pm_go (g := (84, _, [.int 0], _, 0, 0)) rfl ?_
            exact pm_ret rfl (k1 (by rw [hu]; exact uR_out (by omega) (by omega)))
          have h48 := qF_ne (cx := (a + (-20)).toInt) (cy := (b + (-20)).toInt) rfl rfl h48
          refine pm_go (g := (80, _, [.int 1], _, 0, 0)) rfl ?_
          refine pm_go (g := (84, _, [.int 1], _, 0, 0)) rfl ?_
          exact pm_ret rfl (k0 (by rw [hu]; exact uR_eq (by omega)))
        have h47 := qF_eq (cx := (a + (-20)).toInt) (cy := (b + (-20)).toInt) rfl rfl h47
        refine pm_go (g := (54, _, [.int (a + (-20))], _, 0, 0)) rfl ?_
        refine pm_go (g := (55, _, [.int 0, .int (a + (-20))], _, 0, 0)) rfl ?_
        refine pm_go (g := (57, _, [.int 9, .int 0, .int (a + (-20))], _, 0, 0)) rfl ?_
        refine pm_callD (z := 128) (as := [.int (a + (-20)), .int 0, .int 9]) (rest := []) rfl ?_
        have h49 : (0 : Int32).toInt = 0 := by decide
        have h50 : (9 : Int32).toInt = 9 := by decide
        refine w_X12_isIn (a + (-20)) 0 9 (fun h51 => ?_) (fun h52 => ?_)
        ·
          show pm_WP 132 (60, [(4, .int (b + (-20))), (3, .int (a + (-20))), (0, .ref 25), (1, .int a), (2, .int b)], [.int 1], _, 0, 0) _
          refine pm_brF (h := (63, [(4, .int (b + (-20))), (3, .int (a + (-20))), (0, .ref 25), (1, .int a), (2, .int b)], [], hq g c1 c2 c3 c4 c5 c6 c7 c8 c9 c10 c11 c12 c13 c14 c15 c16 c17 c18 c19 c20 c21 c22 c23 c24 (hc25 mTy mTm mMn mFn mRn mTn mVn mLr mTr mFl mFm mFp mSc mMp mEn) (hc26 mPa) (hc27 mTo) (hc28 mOt) (hc29 mNa) (hc30 mRe) (hc31 mMa) (hc32 mMy) (hc33 mPm) (hc34 mFy) (hc35 mFa) (hc36 mFr) (hc37 mFo) (hc38 mRt) (hc39 mRm) (hc40 mTt) (hc41 mTi) (hc42 mPl) (hc43 mVr) (hc44 mVf) (hc45 mVc) (hc46 mAr) (hc47 mTc) (hc48 mFt) (hc49 mGo) dyn, 0, 0)) rfl ?_
          refine pm_go (g := (64, _, [.ref 25], _, 0, 0)) rfl ?_
          refine pm_go (g := (67, _, [.ref 26], _, 0, 0)) rfl ?_
          refine pm_go (g := (68, _, [.int (a + (-20)), .ref 26], _, 0, 0)) rfl ?_
          refine pm_sd (g := (69, _, [.int (mPa (a + (-20)).toNatClampNeg)], _, 0, 0)) rfl (pm_inI (by omega) (by omega)) ?_
          refine pm_go (g := (70, [(3, .int (mPa (a + (-20)).toNatClampNeg)), (4, .int (b + (-20))), (0, .ref 25), (1, .int a), (2, .int b)], [], _, 0, 0)) rfl ?_
          refine pm_go (g := (47, _, [], _, 0, 0)) rfl ?_
          have hs := uR_step (f := mPa) (n := 10) (x := a + (-20)) (y := b + (-20)) (by omega) (by omega) (by omega)
          have hx := xN (x := a + (-20)) (by omega)
          have hp1 := p0 (a + (-20)).toNatClampNeg (by omega)
          rw [hu, hs] at k0 k1
          exact w_isUnder_loop a b p0 10 (mPa (a + (-20)).toNatClampNeg) (b + (-20)) (by omega) k0 k1
        show pm_WP 132 (60, [(4, .int (b + (-20))), (3, .int (a + (-20))), (0, .ref 25), (1, .int a), (2, .int b)], [.int 0], hq g c1 c2 c3 c4 c5 c6 c7 c8 c9 c10 c11 c12 c13 c14 c15 c16 c17 c18 c19 c20 c21 c22 c23 c24 (hc25 mTy mTm mMn mFn mRn mTn mVn mLr mTr mFl mFm mFp mSc mMp mEn) (hc26 mPa) (hc27 mTo) (hc28 mOt) (hc29 mNa) (hc30 mRe) (hc31 mMa) (hc32 mMy) (hc33 mPm) (hc34 mFy) (hc35 mFa) (hc36 mFr) (hc37 mFo) (hc38 mRt) (hc39 mRm) (hc40 mTt) (hc41 mTi) (hc42 mPl) (hc43 mVr) (hc44 mVf) (hc45 mVc) (hc46 mAr) (hc47 mTc) (hc48 mFt) (hc49 mGo) dyn, 0, 0) _
        refine pm_brT (g := (73, [(4, .int (b + (-20))), (3, .int (a + (-20))), (0, .ref 25), (1, .int a), (2, .int b)], [], hq g c1 c2 c3 c4 c5 c6 c7 c8 c9 c10 c11 c12 c13 c14 c15 c16 c17 c18 c19 c20 c21 c22 c23 c24 (hc25 mTy mTm mMn mFn mRn mTn mVn mLr mTr mFl mFm mFp mSc mMp mEn) (hc26 mPa) (hc27 mTo) (hc28 mOt) (hc29 mNa) (hc30 mRe) (hc31 mMa) (hc32 mMy) (hc33 mPm) (hc34 mFy) (hc35 mFa) (hc36 mFr) (hc37 mFo) (hc38 mRt) (hc39 mRm) (hc40 mTt) (hc41 mTi) (hc42 mPl) (hc43 mVr) (hc44 mVf) (hc45 mVc) (hc46 mAr) (hc47 mTc) (hc48 mFt) (hc49 mGo) dyn, 0, 0)) rfl ?_
        refine pm_go (g := (74, _, [.int (a + (-20))], _, 0, 0)) rfl ?_
        refine pm_go (g := (76, _, [.int (b + (-20)), .int (a + (-20))], _, 0, 0)) rfl ?_
        refine pm_if2 (g := (83, [(4, .int (b + (-20))), (3, .int (a + (-20))), (0, .ref 25), (1, .int a), (2, .int b)], [], hq g c1 c2 c3 c4 c5 c6 c7 c8 c9 c10 c11 c12 c13 c14 c15 c16 c17 c18 c19 c20 c21 c22 c23 c24 (hc25 mTy mTm mMn mFn mRn mTn mVn mLr mTr mFl mFm mFp mSc mMp mEn) (hc26 mPa) (hc27 mTo) (hc28 mOt) (hc29 mNa) (hc30 mRe) (hc31 mMa) (hc32 mMy) (hc33 mPm) (hc34 mFy) (hc35 mFa) (hc36 mFr) (hc37 mFo) (hc38 mRt) (hc39 mRm) (hc40 mTt) (hc41 mTi) (hc42 mPl) (hc43 mVr) (hc44 mVf) (hc45 mVc) (hc46 mAr) (hc47 mTc) (hc48 mFt) (hc49 mGo) dyn, 0, 0)) (h := (79, [(4, .int (b + (-20))), (3, .int (a + (-20))), (0, .ref 25), (1, .int a), (2, .int b)], [], hq g c1 c2 c3 c4 c5 c6 c7 c8 c9 c10 c11 c12 c13 c14 c15 c16 c17 c18 c19 c20 c21 c22 c23 c24 (hc25 mTy mTm mMn mFn mRn mTn mVn mLr mTr mFl mFm mFp mSc mMp mEn) (hc26 mPa) (hc27 mTo) (hc28 mOt) (hc29 mNa) (hc30 mRe) (hc31 mMa) (hc32 mMy) (hc33 mPm) (hc34 mFy) (hc35 mFa) (hc36 mFr) (hc37 mFo) (hc38 mRt) (hc39 mRm) (hc40 mTt) (hc41 mTi) (hc42 mPl) (hc43 mVr) (hc44 mVf) (hc45 mVc) (hc46 mAr) (hc47 mTc) (hc48 mFt) (hc49 mGo) dyn, 0, 0)) rfl (fun h54 => ?_) (fun h54 => ?_)
        ·
          have h54 := qT_ne (cx := (a + (-20)).toInt) (cy := (b + (-20)).toInt) rfl rfl h54
          refine pm_go (g := (84, _, [.int 0], _, 0, 0)) rfl ?_
          exact pm_ret rfl (k1 (by rw [hu]; exact uR_out (by omega) (by omega)))
        have h54 := qF_ne (cx := (a + (-20)).toInt) (cy := (b + (-20)).toInt) rfl rfl h54
        refine pm_go (g := (80, _, [.int 1], _, 0, 0)) rfl ?_
        refine pm_go (g := (84, _, [.int 1], _, 0, 0)) rfl ?_
        exact pm_ret rfl (k0 (by rw [hu]; exact uR_eq (by omega)))
      show pm_WP 132 (38, [(4, .int b), (3, .int a), (0, .ref 25), (1, .int a), (2, .int b)], [.int 0], hq g c1 c2 c3 c4 c5 c6 c7 c8 c9 c10 c11 c12 c13 c14 c15 c16 c17 c18 c19 c20 c21 c22 c23 c24 (hc25 mTy mTm mMn mFn mRn mTn mVn mLr mTr mFl mFm mFp mSc mMp mEn) (hc26 mPa) (hc27 mTo) (hc28 mOt) (hc29 mNa) (hc30 mRe) (hc31 mMa) (hc32 mMy) (hc33 mPm) (hc34 mFy) (hc35 mFa) (hc36 mFr) (hc37 mFo) (hc38 mRt) (hc39 mRm) (hc40 mTt) (hc41 mTi) (hc42 mPl) (hc43 mVr) (hc44 mVf) (hc45 mVc) (hc46 mAr) (hc47 mTc) (hc48 mFt) (hc49 mGo) dyn, 0, 0) _
      refine pm_brT (g := (47, [(4, .int b), (3, .int a), (0, .ref 25), (1, .int a), (2, .int b)], [], hq g c1 c2 c3 c4 c5 c6 c7 c8 c9 c10 c11 c12 c13 c14 c15 c16 c17 c18 c19 c20 c21 c22 c23 c24 (hc25 mTy mTm mMn mFn mRn mTn mVn mLr mTr mFl mFm mFp mSc mMp mEn) (hc26 mPa) (hc27 mTo) (hc28 mOt) (hc29 mNa) (hc30 mRe) (hc31 mMa) (hc32 mMy) (hc33 mPm) (hc34 mFy) (hc35 mFa) (hc36 mFr) (hc37 mFo) (hc38 mRt) (hc39 mRm) (hc40 mTt) (hc41 mTi) (hc42 mPl) (hc43 mVr) (hc44 mVf) (hc45 mVc) (hc46 mAr) (hc47 mTc) (hc48 mFt) (hc49 mGo) dyn, 0, 0)) rfl ?_
      have hu := uM_3 (f := mPa) (a := a) (b := b) (by omega) (by omega)
      refine pm_go (g := (48, _, [.int a], _, 0, 0)) rfl ?_
      refine pm_go (g := (50, _, [.int b, .int a], _, 0, 0)) rfl ?_
      refine pm_if2 (g := (73, [(4, .int b), (3, .int a), (0, .ref 25), (1, .int a), (2, .int b)], [], hq g c1 c2 c3 c4 c5 c6 c7 c8 c9 c10 c11 c12 c13 c14 c15 c16 c17 c18 c19 c20 c21 c22 c23 c24 (hc25 mTy mTm mMn mFn mRn mTn mVn mLr mTr mFl mFm mFp mSc mMp mEn) (hc26 mPa) (hc27 mTo) (hc28 mOt) (hc29 mNa) (hc30 mRe) (hc31 mMa) (hc32 mMy) (hc33 mPm) (hc34 mFy) (hc35 mFa) (hc36 mFr) (hc37 mFo) (hc38 mRt) (hc39 mRm) (hc40 mTt) (hc41 mTi) (hc42 mPl) (hc43 mVr) (hc44 mVf) (hc45 mVc) (hc46 mAr) (hc47 mTc) (hc48 mFt) (hc49 mGo) dyn, 0, 0)) (h := (53, [(4, .int b), (3, .int a), (0, .ref 25), (1, .int a), (2, .int b)], [], hq g c1 c2 c3 c4 c5 c6 c7 c8 c9 c10 c11 c12 c13 c14 c15 c16 c17 c18 c19 c20 c21 c22 c23 c24 (hc25 mTy mTm mMn mFn mRn mTn mVn mLr mTr mFl mFm mFp mSc mMp mEn) (hc26 mPa) (hc27 mTo) (hc28 mOt) (hc29 mNa) (hc30 mRe) (hc31 mMa) (hc32 mMy) (hc33 mPm) (hc34 mFy) (hc35 mFa) (hc36 mFr) (hc37 mFo) (hc38 mRt) (hc39 mRm) (hc40 mTt) (hc41 mTi) (hc42 mPl) (hc43 mVr) (hc44 mVf) (hc45 mVc) (hc46 mAr) (hc47 mTc) (hc48 mFt) (hc49 mGo) dyn, 0, 0)) rfl (fun h55 => ?_) (fun h55 => ?_)
      ·
        have h55 := qT_eq (cx := (a).toInt) (cy := (b).toInt) rfl rfl h55
        refine pm_go (g := (74, _, [.int a], _, 0, 0)) rfl ?_
        refine pm_go (g := (76, _, [.int b, .int a], _, 0, 0)) rfl ?_
        refine pm_if2 (g := (83, [(4, .int b), (3, .int a), (0, .ref 25), (1, .int a), (2, .int b)], [], hq g c1 c2 c3 c4 c5 c6 c7 c8 c9 c10 c11 c12 c13 c14 c15 c16 c17 c18 c19 c20 c21 c22 c23 c24 (hc25 mTy mTm mMn mFn mRn mTn mVn mLr mTr mFl mFm mFp mSc mMp mEn) (hc26 mPa) (hc27 mTo) (hc28 mOt) (hc29 mNa) (hc30 mRe) (hc31 mMa) (hc32 mMy) (hc33 mPm) (hc34 mFy) (hc35 mFa) (hc36 mFr) (hc37 mFo) (hc38 mRt) (hc39 mRm) (hc40 mTt) (hc41 mTi) (hc42 mPl) (hc43 mVr) (hc44 mVf) (hc45 mVc) (hc46 mAr) (hc47 mTc) (hc48 mFt) (hc49 mGo) dyn, 0, 0)) (h := (79, [(4, .int b), (3, .int a), (0, .ref 25), (1, .int a), (2, .int b)], [], hq g c1 c2 c3 c4 c5 c6 c7 c8 c9 c10 c11 c12 c13 c14 c15 c16 c17 c18 c19 c20 c21 c22 c23 c24 (hc25 mTy mTm mMn mFn mRn mTn mVn mLr mTr mFl mFm mFp mSc mMp mEn) (hc26 mPa) (hc27 mTo) (hc28 mOt) (hc29 mNa) (hc30 mRe) (hc31 mMa) (hc32 mMy) (hc33 mPm) (hc34 mFy) (hc35 mFa) (hc36 mFr) (hc37 mFo) (hc38 mRt) (hc39 mRm) (hc40 mTt) (hc41 mTi) (hc42 mPl) (hc43 mVr) (hc44 mVf) (hc45 mVc) (hc46 mAr) (hc47 mTc) (hc48 mFt) (hc49 mGo) dyn, 0, 0)) rfl (fun h56 => ?_) (fun h56 => ?_)
        ·
          have h56 := qT_ne (cx := (a).toInt) (cy := (b).toInt) rfl rfl h56
          refine pm_go (g := (84, _, [.int 0], _, 0, 0)) rfl ?_
          exact pm_ret rfl (k1 (by rw [hu]; exact uR_out (by omega) (by omega)))
        have h56 := qF_ne (cx := (a).toInt) (cy := (b).toInt) rfl rfl h56
        refine pm_go (g := (80, _, [.int 1], _, 0, 0)) rfl ?_
        refine pm_go (g := (84, _, [.int 1], _, 0, 0)) rfl ?_
        exact pm_ret rfl (k0 (by rw [hu]; exact uR_eq (by omega)))
      have h55 := qF_eq (cx := (a).toInt) (cy := (b).toInt) rfl rfl h55
      refine pm_go (g := (54, _, [.int a], _, 0, 0)) rfl ?_
      refine pm_go (g := (55, _, [.int 0, .int a], _, 0, 0)) rfl ?_
      refine pm_go (g := (57, _, [.int 9, .int 0, .int a], _, 0, 0)) rfl ?_
      refine pm_callD (z := 128) (as := [.int a, .int 0, .int 9]) (rest := []) rfl ?_
      have h57 : (0 : Int32).toInt = 0 := by decide
      have h58 : (9 : Int32).toInt = 9 := by decide
      refine w_X12_isIn a 0 9 (fun h59 => ?_) (fun h60 => ?_)
      ·
        show pm_WP 132 (60, [(4, .int b), (3, .int a), (0, .ref 25), (1, .int a), (2, .int b)], [.int 1], _, 0, 0) _
        refine pm_brF (h := (63, [(4, .int b), (3, .int a), (0, .ref 25), (1, .int a), (2, .int b)], [], hq g c1 c2 c3 c4 c5 c6 c7 c8 c9 c10 c11 c12 c13 c14 c15 c16 c17 c18 c19 c20 c21 c22 c23 c24 (hc25 mTy mTm mMn mFn mRn mTn mVn mLr mTr mFl mFm mFp mSc mMp mEn) (hc26 mPa) (hc27 mTo) (hc28 mOt) (hc29 mNa) (hc30 mRe) (hc31 mMa) (hc32 mMy) (hc33 mPm) (hc34 mFy) (hc35 mFa) (hc36 mFr) (hc37 mFo) (hc38 mRt) (hc39 mRm) (hc40 mTt) (hc41 mTi) (hc42 mPl) (hc43 mVr) (hc44 mVf) (hc45 mVc) (hc46 mAr) (hc47 mTc) (hc48 mFt) (hc49 mGo) dyn, 0, 0)) rfl ?_
        refine pm_go (g := (64, _, [.ref 25], _, 0, 0)) rfl ?_
        refine pm_go (g := (67, _, [.ref 26], _, 0, 0)) rfl ?_
        refine pm_go (g := (68, _, [.int a, .ref 26], _, 0, 0)) rfl ?_
        refine pm_sd (g := (69, _, [.int (mPa (a).toNatClampNeg)], _, 0, 0)) rfl (pm_inI (by omega) (by omega)) ?_
        refine pm_go (g := (70, [(3, .int (mPa (a).toNatClampNeg)), (4, .int b), (0, .ref 25), (1, .int a), (2, .int b)], [], _, 0, 0)) rfl ?_
        refine pm_go (g := (47, _, [], _, 0, 0)) rfl ?_
        have hs := uR_step (f := mPa) (n := 10) (x := a) (y := b) (by omega) (by omega) (by omega)
        have hx := xN (x := a) (by omega)
        have hp1 := p0 (a).toNatClampNeg (by omega)
        rw [hu, hs] at k0 k1
        exact w_isUnder_loop a b p0 10 (mPa (a).toNatClampNeg) (b) (by omega) k0 k1
      show pm_WP 132 (60, [(4, .int b), (3, .int a), (0, .ref 25), (1, .int a), (2, .int b)], [.int 0], hq g c1 c2 c3 c4 c5 c6 c7 c8 c9 c10 c11 c12 c13 c14 c15 c16 c17 c18 c19 c20 c21 c22 c23 c24 (hc25 mTy mTm mMn mFn mRn mTn mVn mLr mTr mFl mFm mFp mSc mMp mEn) (hc26 mPa) (hc27 mTo) (hc28 mOt) (hc29 mNa) (hc30 mRe) (hc31 mMa) (hc32 mMy) (hc33 mPm) (hc34 mFy) (hc35 mFa) (hc36 mFr) (hc37 mFo) (hc38 mRt) (hc39 mRm) (hc40 mTt) (hc41 mTi) (hc42 mPl) (hc43 mVr) (hc44 mVf) (hc45 mVc) (hc46 mAr) (hc47 mTc) (hc48 mFt) (hc49 mGo) dyn, 0, 0) _
      refine pm_brT (g := (73, [(4, .int b), (3, .int a), (0, .ref 25), (1, .int a), (2, .int b)], [], hq g c1 c2 c3 c4 c5 c6 c7 c8 c9 c10 c11 c12 c13 c14 c15 c16 c17 c18 c19 c20 c21 c22 c23 c24 (hc25 mTy mTm mMn mFn mRn mTn mVn mLr mTr mFl mFm mFp mSc mMp mEn) (hc26 mPa) (hc27 mTo) (hc28 mOt) (hc29 mNa) (hc30 mRe) (hc31 mMa) (hc32 mMy) (hc33 mPm) (hc34 mFy) (hc35 mFa) (hc36 mFr) (hc37 mFo) (hc38 mRt) (hc39 mRm) (hc40 mTt) (hc41 mTi) (hc42 mPl) (hc43 mVr) (hc44 mVf) (hc45 mVc) (hc46 mAr) (hc47 mTc) (hc48 mFt) (hc49 mGo) dyn, 0, 0)) rfl ?_
      refine pm_go (g := (74, _, [.int a], _, 0, 0)) rfl ?_
      refine pm_go (g := (76, _, [.int b, .int a], _, 0, 0)) rfl ?_
      refine pm_if2 (g := (83, [(4, .int b), (3, .int a), (0, .ref 25), (1, .int a), (2, .int b)], [], hq g c1 c2 c3 c4 c5 c6 c7 c8 c9 c10 c11 c12 c13 c14 c15 c16 c17 c18 c19 c20 c21 c22 c23 c24 (hc25 mTy mTm mMn mFn mRn mTn mVn mLr mTr mFl mFm mFp mSc mMp mEn) (hc26 mPa) (hc27 mTo) (hc28 mOt) (hc29 mNa) (hc30 mRe) (hc31 mMa) (hc32 mMy) (hc33 mPm) (hc34 mFy) (hc35 mFa) (hc36 mFr) (hc37 mFo) (hc38 mRt) (hc39 mRm) (hc40 mTt) (hc41 mTi) (hc42 mPl) (hc43 mVr) (hc44 mVf) (hc45 mVc) (hc46 mAr) (hc47 mTc) (hc48 mFt) (hc49 mGo) dyn, 0, 0)) (h := (79, [(4, .int b), (3, .int a), (0, .ref 25), (1, .int a), (2, .int b)], [], hq g c1 c2 c3 c4 c5 c6 c7 c8 c9 c10 c11 c12 c13 c14 c15 c16 c17 c18 c19 c20 c21 c22 c23 c24 (hc25 mTy mTm mMn mFn mRn mTn mVn mLr mTr mFl mFm mFp mSc mMp mEn) (hc26 mPa) (hc27 mTo) (hc28 mOt) (hc29 mNa) (hc30 mRe) (hc31 mMa) (hc32 mMy) (hc33 mPm) (hc34 mFy) (hc35 mFa) (hc36 mFr) (hc37 mFo) (hc38 mRt) (hc39 mRm) (hc40 mTt) (hc41 mTi) (hc42 mPl) (hc43 mVr) (hc44 mVf) (hc45 mVc) (hc46 mAr) (hc47 mTc) (hc48 mFt) (hc49 mGo) dyn, 0, 0)) rfl (fun h62 => ?_) (fun h62 => ?_)
      ·
        have h62 := qT_ne (cx := (a).toInt) (cy := (b).toInt) rfl rfl h62
        refine pm_go (g := (84, _, [.int 0], _, 0, 0)) rfl ?_
        exact pm_ret rfl (k1 (by rw [hu]; exact uR_out (by omega) (by omega)))
      have h62 := qF_ne (cx := (a).toInt) (cy := (b).toInt) rfl rfl h62
      refine pm_go (g := (80, _, [.int 1], _, 0, 0)) rfl ?_
      refine pm_go (g := (84, _, [.int 1], _, 0, 0)) rfl ?_
      exact pm_ret rfl (k0 (by rw [hu]; exact uR_eq (by omega)))
    show pm_WP 132 (26, [(4, .int b), (3, .int a), (0, .ref 25), (1, .int a), (2, .int b)], [.int 0], hq g c1 c2 c3 c4 c5 c6 c7 c8 c9 c10 c11 c12 c13 c14 c15 c16 c17 c18 c19 c20 c21 c22 c23 c24 (hc25 mTy mTm mMn mFn mRn mTn mVn mLr mTr mFl mFm mFp mSc mMp mEn) (hc26 mPa) (hc27 mTo) (hc28 mOt) (hc29 mNa) (hc30 mRe) (hc31 mMa) (hc32 mMy) (hc33 mPm) (hc34 mFy) (hc35 mFa) (hc36 mFr) (hc37 mFo) (hc38 mRt) (hc39 mRm) (hc40 mTt) (hc41 mTi) (hc42 mPl) (hc43 mVr) (hc44 mVf) (hc45 mVc) (hc46 mAr) (hc47 mTc) (hc48 mFt) (hc49 mGo) dyn, 0, 0) _
    refine pm_brT (g := (47, [(4, .int b), (3, .int a), (0, .ref 25), (1, .int a), (2, .int b)], [], hq g c1 c2 c3 c4 c5 c6 c7 c8 c9 c10 c11 c12 c13 c14 c15 c16 c17 c18 c19 c20 c21 c22 c23 c24 (hc25 mTy mTm mMn mFn mRn mTn mVn mLr mTr mFl mFm mFp mSc mMp mEn) (hc26 mPa) (hc27 mTo) (hc28 mOt) (hc29 mNa) (hc30 mRe) (hc31 mMa) (hc32 mMy) (hc33 mPm) (hc34 mFy) (hc35 mFa) (hc36 mFr) (hc37 mFo) (hc38 mRt) (hc39 mRm) (hc40 mTt) (hc41 mTi) (hc42 mPl) (hc43 mVr) (hc44 mVf) (hc45 mVc) (hc46 mAr) (hc47 mTc) (hc48 mFt) (hc49 mGo) dyn, 0, 0)) rfl ?_
    have hu := uM_3 (f := mPa) (a := a) (b := b) (by omega) (by omega)
    refine pm_go (g := (48, _, [.int a], _, 0, 0)) rfl ?_
    refine pm_go (g := (50, _, [.int b, .int a], _, 0, 0)) rfl ?_
    refine pm_if2 (g := (73, [(4, .int b), (3, .int a), (0, .ref 25), (1, .int a), (2, .int b)], [], hq g c1 c2 c3 c4 c5 c6 c7 c8 c9 c10 c11 c12 c13 c14 c15 c16 c17 c18 c19 c20 c21 c22 c23 c24 (hc25 mTy mTm mMn mFn mRn mTn mVn mLr mTr mFl mFm mFp mSc mMp mEn) (hc26 mPa) (hc27 mTo) (hc28 mOt) (hc29 mNa) (hc30 mRe) (hc31 mMa) (hc32 mMy) (hc33 mPm) (hc34 mFy) (hc35 mFa) (hc36 mFr) (hc37 mFo) (hc38 mRt) (hc39 mRm) (hc40 mTt) (hc41 mTi) (hc42 mPl) (hc43 mVr) (hc44 mVf) (hc45 mVc) (hc46 mAr) (hc47 mTc) (hc48 mFt) (hc49 mGo) dyn, 0, 0)) (h := (53, [(4, .int b), (3, .int a), (0, .ref 25), (1, .int a), (2, .int b)], [], hq g c1 c2 c3 c4 c5 c6 c7 c8 c9 c10 c11 c12 c13 c14 c15 c16 c17 c18 c19 c20 c21 c22 c23 c24 (hc25 mTy mTm mMn mFn mRn mTn mVn mLr mTr mFl mFm mFp mSc mMp mEn) (hc26 mPa) (hc27 mTo) (hc28 mOt) (hc29 mNa) (hc30 mRe) (hc31 mMa) (hc32 mMy) (hc33 mPm) (hc34 mFy) (hc35 mFa) (hc36 mFr) (hc37 mFo) (hc38 mRt) (hc39 mRm) (hc40 mTt) (hc41 mTi) (hc42 mPl) (hc43 mVr) (hc44 mVf) (hc45 mVc) (hc46 mAr) (hc47 mTc) (hc48 mFt) (hc49 mGo) dyn, 0, 0)) rfl (fun h63 => ?_) (fun h63 => ?_)
    ·
      have h63 := qT_eq (cx := (a).toInt) (cy := (b).toInt) rfl rfl h63
      refine pm_go (g := (74, _, [.int a], _, 0, 0)) rfl ?_
      refine pm_go (g := (76, _, [.int b, .int a], _, 0, 0)) rfl ?_
      refine pm_if2 (g := (83, [(4, .int b), (3, .int a), (0, .ref 25), (1, .int a), (2, .int b)], [], hq g c1 c2 c3 c4 c5 c6 c7 c8 c9 c10 c11 c12 c13 c14 c15 c16 c17 c18 c19 c20 c21 c22 c23 c24 (hc25 mTy mTm mMn mFn mRn mTn mVn mLr mTr mFl mFm mFp mSc mMp mEn) (hc26 mPa) (hc27 mTo) (hc28 mOt) (hc29 mNa) (hc30 mRe) (hc31 mMa) (hc32 mMy) (hc33 mPm) (hc34 mFy) (hc35 mFa) (hc36 mFr) (hc37 mFo) (hc38 mRt) (hc39 mRm) (hc40 mTt) (hc41 mTi) (hc42 mPl) (hc43 mVr) (hc44 mVf) (hc45 mVc) (hc46 mAr) (hc47 mTc) (hc48 mFt) (hc49 mGo) dyn, 0, 0)) (h := (79, [(4, .int b), (3, .int a), (0, .ref 25), (1, .int a), (2, .int b)], [], hq g c1 c2 c3 c4 c5 c6 c7 c8 c9 c10 c11 c12 c13 c14 c15 c16 c17 c18 c19 c20 c21 c22 c23 c24 (hc25 mTy mTm mMn mFn mRn mTn mVn mLr mTr mFl mFm mFp mSc mMp mEn) (hc26 mPa) (hc27 mTo) (hc28 mOt) (hc29 mNa) (hc30 mRe) (hc31 mMa) (hc32 mMy) (hc33 mPm) (hc34 mFy) (hc35 mFa) (hc36 mFr) (hc37 mFo) (hc38 mRt) (hc39 mRm) (hc40 mTt) (hc41 mTi) (hc42 mPl) (hc43 mVr) (hc44 mVf) (hc45 mVc) (hc46 mAr) (hc47 mTc) (hc48 mFt) (hc49 mGo) dyn, 0, 0)) rfl (fun h64 => ?_) (fun h64 => ?_)
      ·
        have h64 := qT_ne (cx := (a).toInt) (cy := (b).toInt) rfl rfl h64
        refine pm_go (g := (84, _, [.int 0], _, 0, 0)) rfl ?_
        exact pm_ret rfl (k1 (by rw [hu]; exact uR_out (by omega) (by omega)))
      have h64 := qF_ne (cx := (a).toInt) (cy := (b).toInt) rfl rfl h64
      refine pm_go (g := (80, _, [.int 1], _, 0, 0)) rfl ?_
      refine pm_go (g := (84, _, [.int 1], _, 0, 0)) rfl ?_
      exact pm_ret rfl (k0 (by rw [hu]; exact uR_eq (by omega)))
    have h63 := qF_eq (cx := (a).toInt) (cy := (b).toInt) rfl rfl h63
    refine pm_go (g := (54, _, [.int a], _, 0, 0)) rfl ?_
    refine pm_go (g := (55, _, [.int 0, .int a], _, 0, 0)) rfl ?_
    refine pm_go (g := (57, _, [.int 9, .int 0, .int a], _, 0, 0)) rfl ?_
    refine pm_callD (z := 128) (as := [.int a, .int 0, .int 9]) (rest := []) rfl ?_
    have h65 : (0 : Int32).toInt = 0 := by decide
    have h66 : (9 : Int32).toInt = 9 := by decide
    refine w_X12_isIn a 0 9 (fun h67 => ?_) (fun h68 => ?_)
    ·
      show pm_WP 132 (60, [(4, .int b), (3, .int a), (0, .ref 25), (1, .int a), (2, .int b)], [.int 1], _, 0, 0) _
      refine pm_brF (h := (63, [(4, .int b), (3, .int a), (0, .ref 25), (1, .int a), (2, .int b)], [], hq g c1 c2 c3 c4 c5 c6 c7 c8 c9 c10 c11 c12 c13 c14 c15 c16 c17 c18 c19 c20 c21 c22 c23 c24 (hc25 mTy mTm mMn mFn mRn mTn mVn mLr mTr mFl mFm mFp mSc mMp mEn) (hc26 mPa) (hc27 mTo) (hc28 mOt) (hc29 mNa) (hc30 mRe) (hc31 mMa) (hc32 mMy) (hc33 mPm) (hc34 mFy) (hc35 mFa) (hc36 mFr) (hc37 mFo) (hc38 mRt) (hc39 mRm) (hc40 mTt) (hc41 mTi) (hc42 mPl) (hc43 mVr) (hc44 mVf) (hc45 mVc) (hc46 mAr) (hc47 mTc) (hc48 mFt) (hc49 mGo) dyn, 0, 0)) rfl ?_
      refine pm_go (g := (64, _, [.ref 25], _, 0, 0)) rfl ?_
      refine pm_go (g := (67, _, [.ref 26], _, 0, 0)) rfl ?_
      refine pm_go (g := (68, _, [.int a, .ref 26], _, 0, 0)) rfl ?_
      refine pm_sd (g := (69, _, [.int (mPa (a).toNatClampNeg)], _, 0, 0)) rfl (pm_inI (by omega) (by omega)) ?_
      refine pm_go (g := (70, [(3, .int (mPa (a).toNatClampNeg)), (4, .int b), (0, .ref 25), (1, .int a), (2, .int b)], [], _, 0, 0)) rfl ?_
      refine pm_go (g := (47, _, [], _, 0, 0)) rfl ?_
      have hs := uR_step (f := mPa) (n := 10) (x := a) (y := b) (by omega) (by omega) (by omega)
      have hx := xN (x := a) (by omega)
      have hp1 := p0 (a).toNatClampNeg (by omega)
      rw [hu, hs] at k0 k1
      exact w_isUnder_loop a b p0 10 (mPa (a).toNatClampNeg) (b) (by omega) k0 k1
    show pm_WP 132 (60, [(4, .int b), (3, .int a), (0, .ref 25), (1, .int a), (2, .int b)], [.int 0], hq g c1 c2 c3 c4 c5 c6 c7 c8 c9 c10 c11 c12 c13 c14 c15 c16 c17 c18 c19 c20 c21 c22 c23 c24 (hc25 mTy mTm mMn mFn mRn mTn mVn mLr mTr mFl mFm mFp mSc mMp mEn) (hc26 mPa) (hc27 mTo) (hc28 mOt) (hc29 mNa) (hc30 mRe) (hc31 mMa) (hc32 mMy) (hc33 mPm) (hc34 mFy) (hc35 mFa) (hc36 mFr) (hc37 mFo) (hc38 mRt) (hc39 mRm) (hc40 mTt) (hc41 mTi) (hc42 mPl) (hc43 mVr) (hc44 mVf) (hc45 mVc) (hc46 mAr) (hc47 mTc) (hc48 mFt) (hc49 mGo) dyn, 0, 0) _
    refine pm_brT (g := (73, [(4, .int b), (3, .int a), (0, .ref 25), (1, .int a), (2, .int b)], [], hq g c1 c2 c3 c4 c5 c6 c7 c8 c9 c10 c11 c12 c13 c14 c15 c16 c17 c18 c19 c20 c21 c22 c23 c24 (hc25 mTy mTm mMn mFn mRn mTn mVn mLr mTr mFl mFm mFp mSc mMp mEn) (hc26 mPa) (hc27 mTo) (hc28 mOt) (hc29 mNa) (hc30 mRe) (hc31 mMa) (hc32 mMy) (hc33 mPm) (hc34 mFy) (hc35 mFa) (hc36 mFr) (hc37 mFo) (hc38 mRt) (hc39 mRm) (hc40 mTt) (hc41 mTi) (hc42 mPl) (hc43 mVr) (hc44 mVf) (hc45 mVc) (hc46 mAr) (hc47 mTc) (hc48 mFt) (hc49 mGo) dyn, 0, 0)) rfl ?_
    refine pm_go (g := (74, _, [.int a], _, 0, 0)) rfl ?_
    refine pm_go (g := (76, _, [.int b, .int a], _, 0, 0)) rfl ?_
    refine pm_if2 (g := (83, [(4, .int b), (3, .int a), (0, .ref 25), (1, .int a), (2, .int b)], [], hq g c1 c2 c3 c4 c5 c6 c7 c8 c9 c10 c11 c12 c13 c14 c15 c16 c17 c18 c19 c20 c21 c22 c23 c24 (hc25 mTy mTm mMn mFn mRn mTn mVn mLr mTr mFl mFm mFp mSc mMp mEn) (hc26 mPa) (hc27 mTo) (hc28 mOt) (hc29 mNa) (hc30 mRe) (hc31 mMa) (hc32 mMy) (hc33 mPm) (hc34 mFy) (hc35 mFa) (hc36 mFr) (hc37 mFo) (hc38 mRt) (hc39 mRm) (hc40 mTt) (hc41 mTi) (hc42 mPl) (hc43 mVr) (hc44 mVf) (hc45 mVc) (hc46 mAr) (hc47 mTc) (hc48 mFt) (hc49 mGo) dyn, 0, 0)) (h := (79, [(4, .int b), (3, .int a), (0, .ref 25), (1, .int a), (2, .int b)], [], hq g c1 c2 c3 c4 c5 c6 c7 c8 c9 c10 c11 c12 c13 c14 c15 c16 c17 c18 c19 c20 c21 c22 c23 c24 (hc25 mTy mTm mMn mFn mRn mTn mVn mLr mTr mFl mFm mFp mSc mMp mEn) (hc26 mPa) (hc27 mTo) (hc28 mOt) (hc29 mNa) (hc30 mRe) (hc31 mMa) (hc32 mMy) (hc33 mPm) (hc34 mFy) (hc35 mFa) (hc36 mFr) (hc37 mFo) (hc38 mRt) (hc39 mRm) (hc40 mTt) (hc41 mTi) (hc42 mPl) (hc43 mVr) (hc44 mVf) (hc45 mVc) (hc46 mAr) (hc47 mTc) (hc48 mFt) (hc49 mGo) dyn, 0, 0)) rfl (fun h70 => ?_) (fun h70 => ?_)
    ·
      have h70 := qT_ne (cx := (a).toInt) (cy := (b).toInt) rfl rfl h70
      refine pm_go (g := (84, _, [.int 0], _, 0, 0)) rfl ?_
      exact pm_ret rfl (k1 (by rw [hu]; exact uR_out (by omega) (by omega)))
    have h70 := qF_ne (cx := (a).toInt) (cy := (b).toInt) rfl rfl h70
    refine pm_go (g := (80, _, [.int 1], _, 0, 0)) rfl ?_
    refine pm_go (g := (84, _, [.int 1], _, 0, 0)) rfl ?_
    exact pm_ret rfl (k0 (by rw [hu]; exact uR_eq (by omega)))
  have h36 := qF_ne (cx := (b).toInt) (cy := 0) rfl (by decide) h36
  refine pm_go (g := (17, _, [.int 1], _, 0, 0)) rfl ?_
  exact pm_ret rfl (k0 (uM_1 (by omega)))
/-- the reference's isLoose -/
def lM (f : Nat → Int32) (a b : Int32) : Prop := uM f a b = true ∨ (a.toInt = 10 ∧ uM f 1 b = true) ∨ (a.toInt = 1 ∧ b.toInt = 10)
/-- a type's number, with VOID -/
def anyT (ty : Int32) (t : Int32) : Prop := ((0 ≤ t.toInt ∧ t.toInt < ty.toInt) ∨ t.toInt = 10 ∨ (20 ≤ t.toInt ∧ t.toInt < 20 + ty.toInt) ∨ t.toInt = 30) ∨ t.toInt = 11
