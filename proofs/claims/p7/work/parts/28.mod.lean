theorem updS {f : Nat → Int32} {i : Nat} {x : Int32} : upd f i x i = x := by simp [upd]
theorem updN {f : Nat → Int32} {i j : Nat} {x : Int32} (h : j ≠ i) : upd f i x j = f j := by simp [upd, h]
/-- the k-th place of m is under that of o -/
def spK (pa my pm : Nat → Int32) (p m o k : Int32) : Prop := (p.toInt < 3 → uM pa (pm (3 * m + k).toNatClampNeg) (pm (3 * o + k).toNatClampNeg) = true) ∧ (p.toInt = 3 → uM pa (plV my pm m k) (plV my pm o k) = true)
def spB (my : Nat → Int32) (p n m o : Int32) (k : Int) : Prop := (p.toInt < 3 ∧ k < (my m.toNatClampNeg).toInt) ∨ (p.toInt = 3 ∧ (k < (my m.toNatClampNeg).toInt ∨ k < (my o.toNatClampNeg).toInt ∨ k < n.toInt))
def spO (pa my pm : Nat → Int32) (p n m o : Int32) : Prop := ∀ k : Nat, spB my p n m o k → spK pa my pm p m o (nI k)
def spL (pa my pm ft : Nat → Int32) (mn p n m : Int32) (k : Nat) : Prop := ∀ j : Nat, k ≤ j → (j : Int) < mn.toInt → (ft j).toInt ≠ 0 → (j : Int) ≠ m.toInt → spO pa my pm p n m (nI j)
def fvD (p : Int32) (my ft : Nat → Int32) (mn : Int32) : Prop := p.toInt = 3 → ∀ j : Nat, (j : Int) < mn.toInt → (ft j).toInt ≠ 0 → 1 ≤ (my j).toInt
set_option maxRecDepth 100000 in
set_option maxHeartbeats 4000000 in
theorem w_isSpecial_in {g c1 c2 c3 c4 c5 c6 c7 c8 c9 c10 c11 c12 c13 c14 c15 c16 c17 c18 c19 c20 c21 c22 c23 c24 : pm_C} {dyn : pm_H} {mTy : Int32} {mPa : Nat → Int32} {mTo : Nat → Int32} {mTm : Int32} {mMn : Int32} {mOt : Nat → Int32} {mNa : Nat → Int32} {mRe : Nat → Int32} {mMa : Nat → Int32} {mMy : Nat → Int32} {mPm : Nat → Int32} {mFn : Int32} {mFy : Nat → Int32} {mFa : Nat → Int32} {mFr : Nat → Int32} {mRn : Int32} {mFo : Nat → Int32} {mRt : Nat → Int32} {mRm : Nat → Int32} {mTn : Int32} {mTt : Nat → Int32} {mTi : Nat → Int32} {mPl : Nat → Int32} {mVn : Int32} {mVr : Nat → Int32} {mVf : Nat → Int32} {mVc : Nat → Int32} {mAr : Nat → Int32} {mLr : Int32} {mTc : Nat → Int32} {mTr : Int32} {mFl : Int32} {mFt : Nat → Int32} {mFm : Int32} {mFp : Int32} {mSc : Int32} {mMp : Int32} {mEn : Int32} {mGo : Nat → Int32} {Q : pm_Q} (m n0 o x : Int32) (hm : 0 ≤ m.toInt ∧ m.toInt < 40) (ho : 0 ≤ o.toInt ∧ o.toInt < 40) (hx : x.toInt ≤ 3) (hpp : 1 ≤ mFp.toInt ∧ mFp.toInt ≤ 3) (hp : paD mPa) (hx3 : mFp.toInt < 3 → x.toInt ≤ (mMy m.toNatClampNeg).toInt) (hmy : 0 ≤ (mMy m.toNatClampNeg).toInt ∧ (mMy m.toNatClampNeg).toInt ≤ 3) (hoy : 0 ≤ (mMy o.toNatClampNeg).toInt ∧ (mMy o.toNatClampNeg).toInt ≤ 3) (h3 : mFp.toInt = 3 → 1 ≤ (mMy m.toNatClampNeg).toInt ∧ 1 ≤ (mMy o.toNatClampNeg).toInt) : ∀ (n k : Nat), (k ≤ 3) → (3 < k + n) → ((∀ j : Nat, k ≤ j → (j : Int) < (x).toInt → spK mPa mMy mPm mFp m o (nI j)) → pm_WP 149 (185, [(4, .int o), (3, .int 1), (0, .ref 25), (1, .int m), (2, .int n0)], [], hq g c1 c2 c3 c4 c5 c6 c7 c8 c9 c10 c11 c12 c13 c14 c15 c16 c17 c18 c19 c20 c21 c22 c23 c24 (hc25 mTy mTm mMn mFn mRn mTn mVn mLr mTr mFl mFm mFp mSc mMp mEn) (hc26 mPa) (hc27 mTo) (hc28 mOt) (hc29 mNa) (hc30 mRe) (hc31 mMa) (hc32 mMy) (hc33 mPm) (hc34 mFy) (hc35 mFa) (hc36 mFr) (hc37 mFo) (hc38 mRt) (hc39 mRm) (hc40 mTt) (hc41 mTi) (hc42 mPl) (hc43 mVr) (hc44 mVf) (hc45 mVc) (hc46 mAr) (hc47 mTc) (hc48 mFt) (hc49 mGo) dyn, 0, 0) Q) → (¬ (∀ j : Nat, k ≤ j → (j : Int) < (x).toInt → spK mPa mMy mPm mFp m o (nI j)) → pm_WP 149 (185, [(4, .int o), (3, .int 0), (0, .ref 25), (1, .int m), (2, .int n0)], [], hq g c1 c2 c3 c4 c5 c6 c7 c8 c9 c10 c11 c12 c13 c14 c15 c16 c17 c18 c19 c20 c21 c22 c23 c24 (hc25 mTy mTm mMn mFn mRn mTn mVn mLr mTr mFl mFm mFp mSc mMp mEn) (hc26 mPa) (hc27 mTo) (hc28 mOt) (hc29 mNa) (hc30 mRe) (hc31 mMa) (hc32 mMy) (hc33 mPm) (hc34 mFy) (hc35 mFa) (hc36 mFr) (hc37 mFo) (hc38 mRt) (hc39 mRm) (hc40 mTt) (hc41 mTi) (hc42 mPl) (hc43 mVr) (hc44 mVf) (hc45 mVc) (hc46 mAr) (hc47 mTc) (hc48 mFt) (hc49 mGo) dyn, 0, 0) Q) → pm_WP 149 (110, [(6, .int (nI k)), (5, .int x), (4, .int o), (3, .int 1), (0, .ref 25), (1, .int m), (2, .int n0)], [], hq g c1 c2 c3 c4 c5 c6 c7 c8 c9 c10 c11 c12 c13 c14 c15 c16 c17 c18 c19 c20 c21 c22 c23 c24 (hc25 mTy mTm mMn mFn mRn mTn mVn mLr mTr mFl mFm mFp mSc mMp mEn) (hc26 mPa) (hc27 mTo) (hc28 mOt) (hc29 mNa) (hc30 mRe) (hc31 mMa) (hc32 mMy) (hc33 mPm) (hc34 mFy) (hc35 mFa) (hc36 mFr) (hc37 mFo) (hc38 mRt) (hc39 mRm) (hc40 mTt) (hc41 mTi) (hc42 mPl) (hc43 mVr) (hc44 mVf) (hc45 mVc) (hc46 mAr) (hc47 mTc) (hc48 mFt) (hc49 mGo) dyn, 0, 0) Q := by
  intro n
  induction n with
  | zero =>
    intro k g1 g2 k0 k1
    exfalso; omega
  | succ n ih =>
    intro k g1 g2 k0 k1
    have hk := nI_toInt (n := k) (by omega)
    have hkc : (nI k).toNatClampNeg = k := nI_clamp (by omega)
    refine pm_go (g := (111, [(6, .int (nI k)), (5, .int x), (4, .int o), (3, .int 1), (0, .ref 25), (1, .int m), (2, .int n0)], [.int 1], hq g c1 c2 c3 c4 c5 c6 c7 c8 c9 c10 c11 c12 c13 c14 c15 c16 c17 c18 c19 c20 c21 c22 c23 c24 (hc25 mTy mTm mMn mFn mRn mTn mVn mLr mTr mFl mFm mFp mSc mMp mEn) (hc26 mPa) (hc27 mTo) (hc28 mOt) (hc29 mNa) (hc30 mRe) (hc31 mMa) (hc32 mMy) (hc33 mPm) (hc34 mFy) (hc35 mFa) (hc36 mFr) (hc37 mFo) (hc38 mRt) (hc39 mRm) (hc40 mTt) (hc41 mTi) (hc42 mPl) (hc43 mVr) (hc44 mVf) (hc45 mVc) (hc46 mAr) (hc47 mTc) (hc48 mFt) (hc49 mGo) dyn, 0, 0)) rfl ?_
    refine pm_brF (h := (114, [(6, .int (nI k)), (5, .int x), (4, .int o), (3, .int 1), (0, .ref 25), (1, .int m), (2, .int n0)], [], hq g c1 c2 c3 c4 c5 c6 c7 c8 c9 c10 c11 c12 c13 c14 c15 c16 c17 c18 c19 c20 c21 c22 c23 c24 (hc25 mTy mTm mMn mFn mRn mTn mVn mLr mTr mFl mFm mFp mSc mMp mEn) (hc26 mPa) (hc27 mTo) (hc28 mOt) (hc29 mNa) (hc30 mRe) (hc31 mMa) (hc32 mMy) (hc33 mPm) (hc34 mFy) (hc35 mFa) (hc36 mFr) (hc37 mFo) (hc38 mRt) (hc39 mRm) (hc40 mTt) (hc41 mTi) (hc42 mPl) (hc43 mVr) (hc44 mVf) (hc45 mVc) (hc46 mAr) (hc47 mTc) (hc48 mFt) (hc49 mGo) dyn, 0, 0)) rfl ?_
    refine pm_go (g := (116, _, [.int (nI k)], _, 0, 0)) rfl ?_
    refine pm_go (g := (118, _, [.int x, .int (nI k)], _, 0, 0)) rfl ?_
    refine pm_if2 (g := (185, [(6, .int (nI k)), (5, .int x), (4, .int o), (3, .int 1), (0, .ref 25), (1, .int m), (2, .int n0)], [], hq g c1 c2 c3 c4 c5 c6 c7 c8 c9 c10 c11 c12 c13 c14 c15 c16 c17 c18 c19 c20 c21 c22 c23 c24 (hc25 mTy mTm mMn mFn mRn mTn mVn mLr mTr mFl mFm mFp mSc mMp mEn) (hc26 mPa) (hc27 mTo) (hc28 mOt) (hc29 mNa) (hc30 mRe) (hc31 mMa) (hc32 mMy) (hc33 mPm) (hc34 mFy) (hc35 mFa) (hc36 mFr) (hc37 mFo) (hc38 mRt) (hc39 mRm) (hc40 mTt) (hc41 mTi) (hc42 mPl) (hc43 mVr) (hc44 mVf) (hc45 mVc) (hc46 mAr) (hc47 mTc) (hc48 mFt) (hc49 mGo) dyn, 0, 0)) (h := (121, [(6, .int (nI k)), (5, .int x), (4, .int o), (3, .int 1), (0, .ref 25), (1, .int m), (2, .int n0)], [], hq g c1 c2 c3 c4 c5 c6 c7 c8 c9 c10 c11 c12 c13 c14 c15 c16 c17 c18 c19 c20 c21 c22 c23 c24 (hc25 mTy mTm mMn mFn mRn mTn mVn mLr mTr mFl mFm mFp mSc mMp mEn) (hc26 mPa) (hc27 mTo) (hc28 mOt) (hc29 mNa) (hc30 mRe) (hc31 mMa) (hc32 mMy) (hc33 mPm) (hc34 mFy) (hc35 mFa) (hc36 mFr) (hc37 mFo) (hc38 mRt) (hc39 mRm) (hc40 mTt) (hc41 mTi) (hc42 mPl) (hc43 mVr) (hc44 mVf) (hc45 mVc) (hc46 mAr) (hc47 mTc) (hc48 mFt) (hc49 mGo) dyn, 0, 0)) rfl (fun h1 => ?_) (fun h1 => ?_)
    ·
      have h1 := qT_ge (cx := (nI k).toInt) (cy := (x).toInt) rfl rfl h1
      refine pm_sub (lv := [(4, .int o), (3, .int 1), (0, .ref 25), (1, .int m), (2, .int n0)]) ?_ ⟨le_c (List.Mem.tail _ (List.Mem.tail _ (List.Mem.head _))) (le_c (List.Mem.tail _ (List.Mem.tail _ (List.Mem.tail _ (List.Mem.head _)))) (le_c (List.Mem.tail _ (List.Mem.tail _ (List.Mem.tail _ (List.Mem.tail _ (List.Mem.head _))))) (le_c (List.Mem.tail _ (List.Mem.tail _ (List.Mem.tail _ (List.Mem.tail _ (List.Mem.tail _ (List.Mem.head _)))))) (le_c (List.Mem.tail _ (List.Mem.tail _ (List.Mem.tail _ (List.Mem.tail _ (List.Mem.tail _ (List.Mem.tail _ (List.Mem.head _))))))) le_n)))), (show ([6, 5, 4, 3, 0, 1, 2] : List Nat).Nodup by decide)⟩
      exact k0 (fun j q1 q2 => absurd q2 (by omega))
    have h1 := qF_ge (cx := (nI k).toInt) (cy := (x).toInt) rfl rfl h1
    refine pm_go (g := (122, _, [.ref 25], _, 0, 0)) rfl ?_
    refine pm_go (g := (125, _, [.int mFp], _, 0, 0)) rfl ?_
    refine pm_go (g := (126, _, [.int 3, .int mFp], _, 0, 0)) rfl ?_
    refine pm_if2 (g := (159, [(6, .int (nI k)), (5, .int x), (4, .int o), (3, .int 1), (0, .ref 25), (1, .int m), (2, .int n0)], [], hq g c1 c2 c3 c4 c5 c6 c7 c8 c9 c10 c11 c12 c13 c14 c15 c16 c17 c18 c19 c20 c21 c22 c23 c24 (hc25 mTy mTm mMn mFn mRn mTn mVn mLr mTr mFl mFm mFp mSc mMp mEn) (hc26 mPa) (hc27 mTo) (hc28 mOt) (hc29 mNa) (hc30 mRe) (hc31 mMa) (hc32 mMy) (hc33 mPm) (hc34 mFy) (hc35 mFa) (hc36 mFr) (hc37 mFo) (hc38 mRt) (hc39 mRm) (hc40 mTt) (hc41 mTi) (hc42 mPl) (hc43 mVr) (hc44 mVf) (hc45 mVc) (hc46 mAr) (hc47 mTc) (hc48 mFt) (hc49 mGo) dyn, 0, 0)) (h := (129, [(6, .int (nI k)), (5, .int x), (4, .int o), (3, .int 1), (0, .ref 25), (1, .int m), (2, .int n0)], [], hq g c1 c2 c3 c4 c5 c6 c7 c8 c9 c10 c11 c12 c13 c14 c15 c16 c17 c18 c19 c20 c21 c22 c23 c24 (hc25 mTy mTm mMn mFn mRn mTn mVn mLr mTr mFl mFm mFp mSc mMp mEn) (hc26 mPa) (hc27 mTo) (hc28 mOt) (hc29 mNa) (hc30 mRe) (hc31 mMa) (hc32 mMy) (hc33 mPm) (hc34 mFy) (hc35 mFa) (hc36 mFr) (hc37 mFo) (hc38 mRt) (hc39 mRm) (hc40 mTt) (hc41 mTi) (hc42 mPl) (hc43 mVr) (hc44 mVf) (hc45 mVc) (hc46 mAr) (hc47 mTc) (hc48 mFt) (hc49 mGo) dyn, 0, 0)) rfl (fun h2 => ?_) (fun h2 => ?_)
    ·
      have h2 := qT_ge (cx := (mFp).toInt) (cy := 3) rfl (by decide) h2
      refine pm_go (g := (160, _, [.ref 25], _, 0, 0)) rfl ?_
      refine pm_go (g := (161, _, [.ref 25, .ref 25], _, 0, 0)) rfl ?_
      refine pm_go (g := (162, _, [.int m, .ref 25, .ref 25], _, 0, 0)) rfl ?_
      refine pm_go (g := (164, _, [.int (nI k), .int m, .ref 25, .ref 25], _, 0, 0)) rfl ?_
      refine pm_callD (z := 147) (as := [.ref 25, .int m, .int (nI k)]) (rest := [.ref 25]) rfl ?_
      refine w2_X12_placeOf m (nI k) (by omega) (by omega) (by omega) ?_
      show pm_WP 149 (167, [(6, .int (nI k)), (5, .int x), (4, .int o), (3, .int 1), (0, .ref 25), (1, .int m), (2, .int n0)], [.int (plV mMy mPm m (nI k)), .ref 25], _, 0, 0) _
      refine pm_go (g := (168, _, [.ref 25, .int (plV mMy mPm m (nI k)), .ref 25], _, 0, 0)) rfl ?_
      refine pm_go (g := (170, _, [.int o, .ref 25, .int (plV mMy mPm m (nI k)), .ref 25], _, 0, 0)) rfl ?_
      refine pm_go (g := (172, _, [.int (nI k), .int o, .ref 25, .int (plV mMy mPm m (nI k)), .ref 25], _, 0, 0)) rfl ?_
      refine pm_callD (z := 147) (as := [.ref 25, .int o, .int (nI k)]) (rest := [.int (plV mMy mPm m (nI k)), .ref 25]) rfl ?_
      refine w2_X12_placeOf o (nI k) (by omega) (by omega) (by omega) ?_
      show pm_WP 149 (175, [(6, .int (nI k)), (5, .int x), (4, .int o), (3, .int 1), (0, .ref 25), (1, .int m), (2, .int n0)], [.int (plV mMy mPm o (nI k)), .int (plV mMy mPm m (nI k)), .ref 25], _, 0, 0) _
      refine pm_callD (z := 132) (as := [.ref 25, .int (plV mMy mPm m (nI k)), .int (plV mMy mPm o (nI k))]) (rest := []) rfl ?_
      refine w_X12_isUnder (plV mMy mPm m (nI k)) (plV mMy mPm o (nI k)) (by assumption) (fun h5 => ?_) (fun h6 => ?_)
      ·
        show pm_WP 149 (178, [(6, .int (nI k)), (5, .int x), (4, .int o), (3, .int 1), (0, .ref 25), (1, .int m), (2, .int n0)], [.int 1], _, 0, 0) _
        refine pm_go (g := (179, [(3, .int 1), (6, .int (nI k)), (5, .int x), (4, .int o), (0, .ref 25), (1, .int m), (2, .int n0)], [], _, 0, 0)) rfl ?_
        refine pm_go (g := (182, [(6, .int ((nI k) + 1)), (3, .int 1), (5, .int x), (4, .int o), (0, .ref 25), (1, .int m), (2, .int n0)], [], _, 0, 0)) rfl ?_
        refine pm_go (g := (110, _, [], _, 0, 0)) rfl ?_
        refine pm_sub (lv := [(6, .int ((nI k) + 1)), (5, .int x), (4, .int o), (3, .int 1), (0, .ref 25), (1, .int m), (2, .int n0)]) ?_ ⟨le_c (List.Mem.head _) (le_c (List.Mem.tail _ (List.Mem.tail _ (List.Mem.head _))) (le_c (List.Mem.tail _ (List.Mem.tail _ (List.Mem.tail _ (List.Mem.head _)))) (le_c (List.Mem.tail _ (List.Mem.head _)) (le_c (List.Mem.tail _ (List.Mem.tail _ (List.Mem.tail _ (List.Mem.tail _ (List.Mem.head _))))) (le_c (List.Mem.tail _ (List.Mem.tail _ (List.Mem.tail _ (List.Mem.tail _ (List.Mem.tail _ (List.Mem.head _)))))) (le_c (List.Mem.tail _ (List.Mem.tail _ (List.Mem.tail _ (List.Mem.tail _ (List.Mem.tail _ (List.Mem.tail _ (List.Mem.head _))))))) le_n)))))), (show ([6, 3, 5, 4, 0, 1, 2] : List Nat).Nodup by decide)⟩
        rw [nI_1]
        refine ih (k + 1) (by omega) (by omega) (fun h => k0 (fun j q1 q2 => ?_)) (fun h => k1 (fun q => h (fun j q1 q2 => q j (by omega) q2)))
        rcases Nat.eq_or_lt_of_le q1 with e9 | e9
        · subst e9; refine ⟨fun q => ?_, fun q => ?_⟩ <;> first | (exfalso; omega) | assumption
        · exact h j e9 q2
      show pm_WP 149 (178, [(6, .int (nI k)), (5, .int x), (4, .int o), (3, .int 1), (0, .ref 25), (1, .int m), (2, .int n0)], [.int 0], hq g c1 c2 c3 c4 c5 c6 c7 c8 c9 c10 c11 c12 c13 c14 c15 c16 c17 c18 c19 c20 c21 c22 c23 c24 (hc25 mTy mTm mMn mFn mRn mTn mVn mLr mTr mFl mFm mFp mSc mMp mEn) (hc26 mPa) (hc27 mTo) (hc28 mOt) (hc29 mNa) (hc30 mRe) (hc31 mMa) (hc32 mMy) (hc33 mPm) (hc34 mFy) (hc35 mFa) (hc36 mFr) (hc37 mFo) (hc38 mRt) (hc39 mRm) (hc40 mTt) (hc41 mTi) (hc42 mPl) (hc43 mVr) (hc44 mVf) (hc45 mVc) (hc46 mAr) (hc47 mTc) (hc48 mFt) (hc49 mGo) dyn, 0, 0) _
      refine pm_go (g := (179, [(3, .int 0), (6, .int (nI k)), (5, .int x), (4, .int o), (0, .ref 25), (1, .int m), (2, .int n0)], [], _, 0, 0)) rfl ?_
      refine pm_go (g := (182, [(6, .int ((nI k) + 1)), (3, .int 0), (5, .int x), (4, .int o), (0, .ref 25), (1, .int m), (2, .int n0)], [], _, 0, 0)) rfl ?_
      refine pm_go (g := (110, _, [], _, 0, 0)) rfl ?_
      refine pm_go (g := (111, _, [.int 0], _, 0, 0)) rfl ?_
      refine pm_brT (g := (185, [(6, .int ((nI k) + 1)), (3, .int 0), (5, .int x), (4, .int o), (0, .ref 25), (1, .int m), (2, .int n0)], [], hq g c1 c2 c3 c4 c5 c6 c7 c8 c9 c10 c11 c12 c13 c14 c15 c16 c17 c18 c19 c20 c21 c22 c23 c24 (hc25 mTy mTm mMn mFn mRn mTn mVn mLr mTr mFl mFm mFp mSc mMp mEn) (hc26 mPa) (hc27 mTo) (hc28 mOt) (hc29 mNa) (hc30 mRe) (hc31 mMa) (hc32 mMy) (hc33 mPm) (hc34 mFy) (hc35 mFa) (hc36 mFr) (hc37 mFo) (hc38 mRt) (hc39 mRm) (hc40 mTt) (hc41 mTi) (hc42 mPl) (hc43 mVr) (hc44 mVf) (hc45 mVc) (hc46 mAr) (hc47 mTc) (hc48 mFt) (hc49 mGo) dyn, 0, 0)) rfl ?_
      refine pm_sub (lv := [(4, .int o), (3, .int 0), (0, .ref 25), (1, .int m), (2, .int n0)]) ?_ ⟨le_c (List.Mem.tail _ (List.Mem.tail _ (List.Mem.tail _ (List.Mem.head _)))) (le_c (List.Mem.tail _ (List.Mem.head _)) (le_c (List.Mem.tail _ (List.Mem.tail _ (List.Mem.tail _ (List.Mem.tail _ (List.Mem.head _))))) (le_c (List.Mem.tail _ (List.Mem.tail _ (List.Mem.tail _ (List.Mem.tail _ (List.Mem.tail _ (List.Mem.head _)))))) (le_c (List.Mem.tail _ (List.Mem.tail _ (List.Mem.tail _ (List.Mem.tail _ (List.Mem.tail _ (List.Mem.tail _ (List.Mem.head _))))))) le_n)))), (show ([6, 3, 5, 4, 0, 1, 2] : List Nat).Nodup by decide)⟩
      refine k1 (fun q' => ?_)
      obtain ⟨q1, q2⟩ := q' k (Nat.le_refl k) (by omega)
      first | (have q4 := q1 (by omega); simp_all; done) | (have q4 := q2 (by omega); simp_all; done)
    have h2 := qF_ge (cx := (mFp).toInt) (cy := 3) rfl (by decide) h2
    refine pm_go (g := (130, [(6, .int (nI k)), (5, .int x), (4, .int o), (3, .int 1), (0, .ref 25), (1, .int m), (2, .int n0)], [.ref 25], _, 0, 0)) rfl ?_
    refine pm_go (g := (131, _, [.ref 25, .ref 25], _, 0, 0)) rfl ?_
    refine pm_go (g := (134, _, [.ref 33, .ref 25], _, 0, 0)) rfl ?_
    refine pm_go (g := (135, _, [.int 3, .ref 33, .ref 25], _, 0, 0)) rfl ?_
    refine pm_go (g := (136, _, [.int m, .int 3, .ref 33, .ref 25], _, 0, 0)) rfl ?_
    refine pm_go (g := (137, _, [.int (3 * m), .ref 33, .ref 25], _, 0, 0)) rfl ?_
    try have h8 : (3 * m).toInt = 3 * (m).toInt := iMul (x := 3) (y := (m).toInt) (by decide) rfl (by omega) (by omega)
    refine pm_go (g := (139, _, [.int (nI k), .int (3 * m), .ref 33, .ref 25], _, 0, 0)) rfl ?_
    refine pm_go (g := (140, _, [.int ((3 * m) + (nI k)), .ref 33, .ref 25], _, 0, 0)) rfl ?_
    try have h9 : ((3 * m) + (nI k)).toInt = (3 * m).toInt + (nI k).toInt := iAdd (x := (3 * m).toInt) (y := (nI k).toInt) rfl rfl (by omega) (by omega)
    refine pm_sd (g := (141, _, [.int (mPm ((3 * m) + (nI k)).toNatClampNeg), .ref 25], _, 0, 0)) rfl (pm_inI (by omega) (by omega)) ?_
    refine pm_go (g := (142, _, [.ref 25, .int (mPm ((3 * m) + (nI k)).toNatClampNeg), .ref 25], _, 0, 0)) rfl ?_
    refine pm_go (g := (145, _, [.ref 33, .int (mPm ((3 * m) + (nI k)).toNatClampNeg), .ref 25], _, 0, 0)) rfl ?_
    refine pm_go (g := (146, _, [.int 3, .ref 33, .int (mPm ((3 * m) + (nI k)).toNatClampNeg), .ref 25], _, 0, 0)) rfl ?_
    refine pm_go (g := (148, _, [.int o, .int 3, .ref 33, .int (mPm ((3 * m) + (nI k)).toNatClampNeg), .ref 25], _, 0, 0)) rfl ?_
    refine pm_go (g := (149, _, [.int (3 * o), .ref 33, .int (mPm ((3 * m) + (nI k)).toNatClampNeg), .ref 25], _, 0, 0)) rfl ?_
    try have h10 : (3 * o).toInt = 3 * (o).toInt := iMul (x := 3) (y := (o).toInt) (by decide) rfl (by omega) (by omega)
    refine pm_go (g := (151, _, [.int (nI k), .int (3 * o), .ref 33, .int (mPm ((3 * m) + (nI k)).toNatClampNeg), .ref 25], _, 0, 0)) rfl ?_
    refine pm_go (g := (152, _, [.int ((3 * o) + (nI k)), .ref 33, .int (mPm ((3 * m) + (nI k)).toNatClampNeg), .ref 25], _, 0, 0)) rfl ?_
    try have h11 : ((3 * o) + (nI k)).toInt = (3 * o).toInt + (nI k).toInt := iAdd (x := (3 * o).toInt) (y := (nI k).toInt) rfl rfl (by omega) (by omega)
    refine pm_sd (g := (153, _, [.int (mPm ((3 * o) + (nI k)).toNatClampNeg), .int (mPm ((3 * m) + (nI k)).toNatClampNeg), .ref 25], _, 0, 0)) rfl (pm_inI (by omega) (by omega)) ?_
    refine pm_callD (z := 132) (as := [.ref 25, .int (mPm ((3 * m) + (nI k)).toNatClampNeg), .int (mPm ((3 * o) + (nI k)).toNatClampNeg)]) (rest := []) rfl ?_
    refine w_X12_isUnder (mPm ((3 * m) + (nI k)).toNatClampNeg) (mPm ((3 * o) + (nI k)).toNatClampNeg) (by assumption) (fun h12 => ?_) (fun h13 => ?_)
    ·
      show pm_WP 149 (156, [(6, .int (nI k)), (5, .int x), (4, .int o), (3, .int 1), (0, .ref 25), (1, .int m), (2, .int n0)], [.int 1], _, 0, 0) _
      refine pm_go (g := (178, _, [.int 1], _, 0, 0)) rfl ?_
      refine pm_go (g := (179, [(3, .int 1), (6, .int (nI k)), (5, .int x), (4, .int o), (0, .ref 25), (1, .int m), (2, .int n0)], [], _, 0, 0)) rfl ?_
      refine pm_go (g := (182, [(6, .int ((nI k) + 1)), (3, .int 1), (5, .int x), (4, .int o), (0, .ref 25), (1, .int m), (2, .int n0)], [], _, 0, 0)) rfl ?_
      refine pm_go (g := (110, _, [], _, 0, 0)) rfl ?_
      refine pm_sub (lv := [(6, .int ((nI k) + 1)), (5, .int x), (4, .int o), (3, .int 1), (0, .ref 25), (1, .int m), (2, .int n0)]) ?_ ⟨le_c (List.Mem.head _) (le_c (List.Mem.tail _ (List.Mem.tail _ (List.Mem.head _))) (le_c (List.Mem.tail _ (List.Mem.tail _ (List.Mem.tail _ (List.Mem.head _)))) (le_c (List.Mem.tail _ (List.Mem.head _)) (le_c (List.Mem.tail _ (List.Mem.tail _ (List.Mem.tail _ (List.Mem.tail _ (List.Mem.head _))))) (le_c (List.Mem.tail _ (List.Mem.tail _ (List.Mem.tail _ (List.Mem.tail _ (List.Mem.tail _ (List.Mem.head _)))))) (le_c (List.Mem.tail _ (List.Mem.tail _ (List.Mem.tail _ (List.Mem.tail _ (List.Mem.tail _ (List.Mem.tail _ (List.Mem.head _))))))) le_n)))))), (show ([6, 3, 5, 4, 0, 1, 2] : List Nat).Nodup by decide)⟩
      rw [nI_1]
      refine ih (k + 1) (by omega) (by omega) (fun h => k0 (fun j q1 q2 => ?_)) (fun h => k1 (fun q => h (fun j q1 q2 => q j (by omega) q2)))
      rcases Nat.eq_or_lt_of_le q1 with e9 | e9
      · subst e9; refine ⟨fun q => ?_, fun q => ?_⟩ <;> first | (exfalso; omega) | assumption
      · exact h j e9 q2
    show pm_WP 149 (156, [(6, .int (nI k)), (5, .int x), (4, .int o), (3, .int 1), (0, .ref 25), (1, .int m), (2, .int n0)], [.int 0], hq g c1 c2 c3 c4 c5 c6 c7 c8 c9 c10 c11 c12 c13 c14 c15 c16 c17 c18 c19 c20 c21 c22 c23 c24 (hc25 mTy mTm mMn mFn mRn mTn mVn mLr mTr mFl mFm mFp mSc mMp mEn) (hc26 mPa) (hc27 mTo) (hc28 mOt) (hc29 mNa) (hc30 mRe) (hc31 mMa) (hc32 mMy) (hc33 mPm) (hc34 mFy) (hc35 mFa) (hc36 mFr) (hc37 mFo) (hc38 mRt) (hc39 mRm) (hc40 mTt) (hc41 mTi) (hc42 mPl) (hc43 mVr) (hc44 mVf) (hc45 mVc) (hc46 mAr) (hc47 mTc) (hc48 mFt) (hc49 mGo) dyn, 0, 0) _
    refine pm_go (g := (178, _, [.int 0], _, 0, 0)) rfl ?_
    refine pm_go (g := (179, [(3, .int 0), (6, .int (nI k)), (5, .int x), (4, .int o), (0, .ref 25), (1, .int m), (2, .int n0)], [], _, 0, 0)) rfl ?_
    refine pm_go (g := (182, [(6, .int ((nI k) + 1)), (3, .int 0), (5, .int x), (4, .int o), (0, .ref 25), (1, .int m), (2, .int n0)], [], _, 0, 0)) rfl ?_
    refine pm_go (g := (110, _, [], _, 0, 0)) rfl ?_
    refine pm_go (g := (111, _, [.int 0], _, 0, 0)) rfl ?_
    refine pm_brT (g := (185, [(6, .int ((nI k) + 1)), (3, .int 0), (5, .int x), (4, .int o), (0, .ref 25), (1, .int m), (2, .int n0)], [], hq g c1 c2 c3 c4 c5 c6 c7 c8 c9 c10 c11 c12 c13 c14 c15 c16 c17 c18 c19 c20 c21 c22 c23 c24 (hc25 mTy mTm mMn mFn mRn mTn mVn mLr mTr mFl mFm mFp mSc mMp mEn) (hc26 mPa) (hc27 mTo) (hc28 mOt) (hc29 mNa) (hc30 mRe) (hc31 mMa) (hc32 mMy) (hc33 mPm) (hc34 mFy) (hc35 mFa) (hc36 mFr) (hc37 mFo) (hc38 mRt) (hc39 mRm) (hc40 mTt) (hc41 mTi) (hc42 mPl) (hc43 mVr) (hc44 mVf) (hc45 mVc) (hc46 mAr) (hc47 mTc) (hc48 mFt) (hc49 mGo) dyn, 0, 0)) rfl ?_
    refine pm_sub (lv := [(4, .int o), (3, .int 0), (0, .ref 25), (1, .int m), (2, .int n0)]) ?_ ⟨le_c (List.Mem.tail _ (List.Mem.tail _ (List.Mem.tail _ (List.Mem.head _)))) (le_c (List.Mem.tail _ (List.Mem.head _)) (le_c (List.Mem.tail _ (List.Mem.tail _ (List.Mem.tail _ (List.Mem.tail _ (List.Mem.head _))))) (le_c (List.Mem.tail _ (List.Mem.tail _ (List.Mem.tail _ (List.Mem.tail _ (List.Mem.tail _ (List.Mem.head _)))))) (le_c (List.Mem.tail _ (List.Mem.tail _ (List.Mem.tail _ (List.Mem.tail _ (List.Mem.tail _ (List.Mem.tail _ (List.Mem.head _))))))) le_n)))), (show ([6, 3, 5, 4, 0, 1, 2] : List Nat).Nodup by decide)⟩
    refine k1 (fun q' => ?_)
    obtain ⟨q1, q2⟩ := q' k (Nat.le_refl k) (by omega)
    first | (have q4 := q1 (by omega); simp_all; done) | (have q4 := q2 (by omega); simp_all; done)
set_option maxRecDepth 100000 in
set_option maxHeartbeats 4000000 in
theorem w_isSpecial_loop {g c1 c2 c3 c4 c5 c6 c7 c8 c9 c10 c11 c12 c13 c14 c15 c16 c17 c18 c19 c20 c21 c22 c23 c24 : pm_C} {dyn : pm_H} {mTy : Int32} {mPa : Nat → Int32} {mTo : Nat → Int32} {mTm : Int32} {mMn : Int32} {mOt : Nat → Int32} {mNa : Nat → Int32} {mRe : Nat → Int32} {mMa : Nat → Int32} {mMy : Nat → Int32} {mPm : Nat → Int32} {mFn : Int32} {mFy : Nat → Int32} {mFa : Nat → Int32} {mFr : Nat → Int32} {mRn : Int32} {mFo : Nat → Int32} {mRt : Nat → Int32} {mRm : Nat → Int32} {mTn : Int32} {mTt : Nat → Int32} {mTi : Nat → Int32} {mPl : Nat → Int32} {mVn : Int32} {mVr : Nat → Int32} {mVf : Nat → Int32} {mVc : Nat → Int32} {mAr : Nat → Int32} {mLr : Int32} {mTc : Nat → Int32} {mTr : Int32} {mFl : Int32} {mFt : Nat → Int32} {mFm : Int32} {mFp : Int32} {mSc : Int32} {mMp : Int32} {mEn : Int32} {mGo : Nat → Int32} {Q : pm_Q} (m n0 : Int32) (hm : 0 ≤ m.toInt ∧ m.toInt < 40) (hn0 : 0 ≤ n0.toInt ∧ n0.toInt ≤ 3) (hpp : 1 ≤ mFp.toInt ∧ mFp.toInt ≤ 3) (hp : paD mPa) (hy : myD mMy) (hn : 0 ≤ mMn.toInt ∧ mMn.toInt ≤ 40) (hfv : fvD mFp mMy mFt mMn) (h3m : mFp.toInt = 3 → 1 ≤ (mMy m.toNatClampNeg).toInt) : ∀ (n k : Nat), (k ≤ 40) → (40 < k + n) → (spL mPa mMy mPm mFt mMn mFp n0 m k → Q (some (.int 1)) (hq g c1 c2 c3 c4 c5 c6 c7 c8 c9 c10 c11 c12 c13 c14 c15 c16 c17 c18 c19 c20 c21 c22 c23 c24 (hc25 mTy mTm mMn mFn mRn mTn mVn mLr mTr mFl mFm mFp mSc mMp mEn) (hc26 mPa) (hc27 mTo) (hc28 mOt) (hc29 mNa) (hc30 mRe) (hc31 mMa) (hc32 mMy) (hc33 mPm) (hc34 mFy) (hc35 mFa) (hc36 mFr) (hc37 mFo) (hc38 mRt) (hc39 mRm) (hc40 mTt) (hc41 mTi) (hc42 mPl) (hc43 mVr) (hc44 mVf) (hc45 mVc) (hc46 mAr) (hc47 mTc) (hc48 mFt) (hc49 mGo) dyn)) → (¬ spL mPa mMy mPm mFt mMn mFp n0 m k → Q (some (.int 0)) (hq g c1 c2 c3 c4 c5 c6 c7 c8 c9 c10 c11 c12 c13 c14 c15 c16 c17 c18 c19 c20 c21 c22 c23 c24 (hc25 mTy mTm mMn mFn mRn mTn mVn mLr mTr mFl mFm mFp mSc mMp mEn) (hc26 mPa) (hc27 mTo) (hc28 mOt) (hc29 mNa) (hc30 mRe) (hc31 mMa) (hc32 mMy) (hc33 mPm) (hc34 mFy) (hc35 mFa) (hc36 mFr) (hc37 mFo) (hc38 mRt) (hc39 mRm) (hc40 mTt) (hc41 mTi) (hc42 mPl) (hc43 mVr) (hc44 mVf) (hc45 mVc) (hc46 mAr) (hc47 mTc) (hc48 mFt) (hc49 mGo) dyn)) → pm_WP 149 (5, [(4, .int (nI k)), (3, .int 1), (0, .ref 25), (1, .int m), (2, .int n0)], [], hq g c1 c2 c3 c4 c5 c6 c7 c8 c9 c10 c11 c12 c13 c14 c15 c16 c17 c18 c19 c20 c21 c22 c23 c24 (hc25 mTy mTm mMn mFn mRn mTn mVn mLr mTr mFl mFm mFp mSc mMp mEn) (hc26 mPa) (hc27 mTo) (hc28 mOt) (hc29 mNa) (hc30 mRe) (hc31 mMa) (hc32 mMy) (hc33 mPm) (hc34 mFy) (hc35 mFa) (hc36 mFr) (hc37 mFo) (hc38 mRt) (hc39 mRm) (hc40 mTt) (hc41 mTi) (hc42 mPl) (hc43 mVr) (hc44 mVf) (hc45 mVc) (hc46 mAr) (hc47 mTc) (hc48 mFt) (hc49 mGo) dyn, 0, 0) Q := by
  intro n
  induction n with
  | zero =>
    intro k g1 g2 k0 k1
    exfalso; omega
  | succ n ih =>
    intro k g1 g2 k0 k1
    have hk := nI_toInt (n := k) (by omega)
    have hkc : (nI k).toNatClampNeg = k := nI_clamp (by omega)
    have hmm := myD_at hy hm.1 hm.2
    have hmk : k < 40 → 0 ≤ (mMy (nI k).toNatClampNeg).toInt ∧ (mMy (nI k).toNatClampNeg).toInt ≤ 3 := fun q => myD_at hy (by omega) (by omega)
    have hft : (mFt (nI k).toNatClampNeg).toInt = (mFt k).toInt := by rw [hkc]
    refine pm_go (g := (6, [(4, .int (nI k)), (3, .int 1), (0, .ref 25), (1, .int m), (2, .int n0)], [.int 1], hq g c1 c2 c3 c4 c5 c6 c7 c8 c9 c10 c11 c12 c13 c14 c15 c16 c17 c18 c19 c20 c21 c22 c23 c24 (hc25 mTy mTm mMn mFn mRn mTn mVn mLr mTr mFl mFm mFp mSc mMp mEn) (hc26 mPa) (hc27 mTo) (hc28 mOt) (hc29 mNa) (hc30 mRe) (hc31 mMa) (hc32 mMy) (hc33 mPm) (hc34 mFy) (hc35 mFa) (hc36 mFr) (hc37 mFo) (hc38 mRt) (hc39 mRm) (hc40 mTt) (hc41 mTi) (hc42 mPl) (hc43 mVr) (hc44 mVf) (hc45 mVc) (hc46 mAr) (hc47 mTc) (hc48 mFt) (hc49 mGo) dyn, 0, 0)) rfl ?_
    refine pm_brF (h := (9, [(4, .int (nI k)), (3, .int 1), (0, .ref 25), (1, .int m), (2, .int n0)], [], hq g c1 c2 c3 c4 c5 c6 c7 c8 c9 c10 c11 c12 c13 c14 c15 c16 c17 c18 c19 c20 c21 c22 c23 c24 (hc25 mTy mTm mMn mFn mRn mTn mVn mLr mTr mFl mFm mFp mSc mMp mEn) (hc26 mPa) (hc27 mTo) (hc28 mOt) (hc29 mNa) (hc30 mRe) (hc31 mMa) (hc32 mMy) (hc33 mPm) (hc34 mFy) (hc35 mFa) (hc36 mFr) (hc37 mFo) (hc38 mRt) (hc39 mRm) (hc40 mTt) (hc41 mTi) (hc42 mPl) (hc43 mVr) (hc44 mVf) (hc45 mVc) (hc46 mAr) (hc47 mTc) (hc48 mFt) (hc49 mGo) dyn, 0, 0)) rfl ?_
    refine pm_go (g := (11, _, [.int (nI k)], _, 0, 0)) rfl ?_
    refine pm_go (g := (12, _, [.ref 25, .int (nI k)], _, 0, 0)) rfl ?_
    refine pm_go (g := (15, _, [.int mMn, .int (nI k)], _, 0, 0)) rfl ?_
    refine pm_if2 (g := (191, [(4, .int (nI k)), (3, .int 1), (0, .ref 25), (1, .int m), (2, .int n0)], [], hq g c1 c2 c3 c4 c5 c6 c7 c8 c9 c10 c11 c12 c13 c14 c15 c16 c17 c18 c19 c20 c21 c22 c23 c24 (hc25 mTy mTm mMn mFn mRn mTn mVn mLr mTr mFl mFm mFp mSc mMp mEn) (hc26 mPa) (hc27 mTo) (hc28 mOt) (hc29 mNa) (hc30 mRe) (hc31 mMa) (hc32 mMy) (hc33 mPm) (hc34 mFy) (hc35 mFa) (hc36 mFr) (hc37 mFo) (hc38 mRt) (hc39 mRm) (hc40 mTt) (hc41 mTi) (hc42 mPl) (hc43 mVr) (hc44 mVf) (hc45 mVc) (hc46 mAr) (hc47 mTc) (hc48 mFt) (hc49 mGo) dyn, 0, 0)) (h := (18, [(4, .int (nI k)), (3, .int 1), (0, .ref 25), (1, .int m), (2, .int n0)], [], hq g c1 c2 c3 c4 c5 c6 c7 c8 c9 c10 c11 c12 c13 c14 c15 c16 c17 c18 c19 c20 c21 c22 c23 c24 (hc25 mTy mTm mMn mFn mRn mTn mVn mLr mTr mFl mFm mFp mSc mMp mEn) (hc26 mPa) (hc27 mTo) (hc28 mOt) (hc29 mNa) (hc30 mRe) (hc31 mMa) (hc32 mMy) (hc33 mPm) (hc34 mFy) (hc35 mFa) (hc36 mFr) (hc37 mFo) (hc38 mRt) (hc39 mRm) (hc40 mTt) (hc41 mTi) (hc42 mPl) (hc43 mVr) (hc44 mVf) (hc45 mVc) (hc46 mAr) (hc47 mTc) (hc48 mFt) (hc49 mGo) dyn, 0, 0)) rfl (fun h1 => ?_) (fun h1 => ?_)
    ·
      have h1 := qT_ge (cx := (nI k).toInt) (cy := (mMn).toInt) rfl rfl h1
      refine pm_go (g := (192, _, [.int 1], _, 0, 0)) rfl ?_
      exact pm_ret rfl (k0 (fun j q1 q2 => absurd q2 (by omega)))
    have h1 := qF_ge (cx := (nI k).toInt) (cy := (mMn).toInt) rfl rfl h1
    refine pm_go (g := (19, _, [.ref 25], _, 0, 0)) rfl ?_
    refine pm_go (g := (22, _, [.ref 48], _, 0, 0)) rfl ?_
    refine pm_go (g := (24, _, [.int (nI k), .ref 48], _, 0, 0)) rfl ?_
    refine pm_sd (g := (25, _, [.int (mFt (nI k).toNatClampNeg)], _, 0, 0)) rfl (pm_inI (by omega) (by omega)) ?_
    refine pm_if2 (g := (185, [(4, .int (nI k)), (3, .int 1), (0, .ref 25), (1, .int m), (2, .int n0)], [], hq g c1 c2 c3 c4 c5 c6 c7 c8 c9 c10 c11 c12 c13 c14 c15 c16 c17 c18 c19 c20 c21 c22 c23 c24 (hc25 mTy mTm mMn mFn mRn mTn mVn mLr mTr mFl mFm mFp mSc mMp mEn) (hc26 mPa) (hc27 mTo) (hc28 mOt) (hc29 mNa) (hc30 mRe) (hc31 mMa) (hc32 mMy) (hc33 mPm) (hc34 mFy) (hc35 mFa) (hc36 mFr) (hc37 mFo) (hc38 mRt) (hc39 mRm) (hc40 mTt) (hc41 mTi) (hc42 mPl) (hc43 mVr) (hc44 mVf) (hc45 mVc) (hc46 mAr) (hc47 mTc) (hc48 mFt) (hc49 mGo) dyn, 0, 0)) (h := (28, [(4, .int (nI k)), (3, .int 1), (0, .ref 25), (1, .int m), (2, .int n0)], [], hq g c1 c2 c3 c4 c5 c6 c7 c8 c9 c10 c11 c12 c13 c14 c15 c16 c17 c18 c19 c20 c21 c22 c23 c24 (hc25 mTy mTm mMn mFn mRn mTn mVn mLr mTr mFl mFm mFp mSc mMp mEn) (hc26 mPa) (hc27 mTo) (hc28 mOt) (hc29 mNa) (hc30 mRe) (hc31 mMa) (hc32 mMy) (hc33 mPm) (hc34 mFy) (hc35 mFa) (hc36 mFr) (hc37 mFo) (hc38 mRt) (hc39 mRm) (hc40 mTt) (hc41 mTi) (hc42 mPl) (hc43 mVr) (hc44 mVf) (hc45 mVc) (hc46 mAr) (hc47 mTc) (hc48 mFt) (hc49 mGo) dyn, 0, 0)) rfl (fun h2 => ?_) (fun h2 => ?_)
    ·
      have h2 := qT_eq (cx := (mFt (nI k).toNatClampNeg).toInt) (cy := 0) rfl (by decide) h2
      refine pm_go (g := (188, [(4, .int ((nI k) + 1)), (3, .int 1), (0, .ref 25), (1, .int m), (2, .int n0)], [], _, 0, 0)) rfl ?_
      refine pm_go (g := (5, _, [], _, 0, 0)) rfl ?_
      refine pm_sub (lv := [(4, .int ((nI k) + 1)), (3, .int 1), (0, .ref 25), (1, .int m), (2, .int n0)]) ?_ ⟨le_c (List.Mem.head _) (le_c (List.Mem.tail _ (List.Mem.head _)) (le_c (List.Mem.tail _ (List.Mem.tail _ (List.Mem.head _))) (le_c (List.Mem.tail _ (List.Mem.tail _ (List.Mem.tail _ (List.Mem.head _)))) (le_c (List.Mem.tail _ (List.Mem.tail _ (List.Mem.tail _ (List.Mem.tail _ (List.Mem.head _))))) le_n)))), (show ([4, 3, 0, 1, 2] : List Nat).Nodup by decide)⟩
      rw [nI_1]
      refine ih (k + 1) (by omega) (by omega) (fun h => k0 (fun j q1 q2 q3 q4 => ?_)) (fun h => k1 (fun q => h (fun j q1 q2 q3 q4 => q j (by omega) q2 q3 q4)))
      rcases Nat.eq_or_lt_of_le q1 with e9 | e9
      · subst e9; first | assumption | (exfalso; omega)
      · exact h j e9 q2 q3 q4
    have h2 := qF_eq (cx := (mFt (nI k).toNatClampNeg).toInt) (cy := 0) rfl (by decide) h2
    refine pm_go (g := (30, [(4, .int (nI k)), (3, .int 1), (0, .ref 25), (1, .int m), (2, .int n0)], [.int (nI k)], _, 0, 0)) rfl ?_
    refine pm_go (g := (31, _, [.int m, .int (nI k)], _, 0, 0)) rfl ?_
    refine pm_if2 (g := (185, [(4, .int (nI k)), (3, .int 1), (0, .ref 25), (1, .int m), (2, .int n0)], [], hq g c1 c2 c3 c4 c5 c6 c7 c8 c9 c10 c11 c12 c13 c14 c15 c16 c17 c18 c19 c20 c21 c22 c23 c24 (hc25 mTy mTm mMn mFn mRn mTn mVn mLr mTr mFl mFm mFp mSc mMp mEn) (hc26 mPa) (hc27 mTo) (hc28 mOt) (hc29 mNa) (hc30 mRe) (hc31 mMa) (hc32 mMy) (hc33 mPm) (hc34 mFy) (hc35 mFa) (hc36 mFr) (hc37 mFo) (hc38 mRt) (hc39 mRm) (hc40 mTt) (hc41 mTi) (hc42 mPl) (hc43 mVr) (hc44 mVf) (hc45 mVc) (hc46 mAr) (hc47 mTc) (hc48 mFt) (hc49 mGo) dyn, 0, 0)) (h := (34, [(4, .int (nI k)), (3, .int 1), (0, .ref 25), (1, .int m), (2, .int n0)], [], hq g c1 c2 c3 c4 c5 c6 c7 c8 c9 c10 c11 c12 c13 c14 c15 c16 c17 c18 c19 c20 c21 c22 c23 c24 (hc25 mTy mTm mMn mFn mRn mTn mVn mLr mTr mFl mFm mFp mSc mMp mEn) (hc26 mPa) (hc27 mTo) (hc28 mOt) (hc29 mNa) (hc30 mRe) (hc31 mMa) (hc32 mMy) (hc33 mPm) (hc34 mFy) (hc35 mFa) (hc36 mFr) (hc37 mFo) (hc38 mRt) (hc39 mRm) (hc40 mTt) (hc41 mTi) (hc42 mPl) (hc43 mVr) (hc44 mVf) (hc45 mVc) (hc46 mAr) (hc47 mTc) (hc48 mFt) (hc49 mGo) dyn, 0, 0)) rfl (fun h3 => ?_) (fun h3 => ?_)
    ·
      have h3 := qT_eq (cx := (nI k).toInt) (cy := (m).toInt) rfl rfl h3
      refine pm_go (g := (188, [(4, .int ((nI k) + 1)), (3, .int 1), (0, .ref 25), (1, .int m), (2, .int n0)], [], _, 0, 0)) rfl ?_
      refine pm_go (g := (5, _, [], _, 0, 0)) rfl ?_
      refine pm_sub (lv := [(4, .int ((nI k) + 1)), (3, .int 1), (0, .ref 25), (1, .int m), (2, .int n0)]) ?_ ⟨le_c (List.Mem.head _) (le_c (List.Mem.tail _ (List.Mem.head _)) (le_c (List.Mem.tail _ (List.Mem.tail _ (List.Mem.head _))) (le_c (List.Mem.tail _ (List.Mem.tail _ (List.Mem.tail _ (List.Mem.head _)))) (le_c (List.Mem.tail _ (List.Mem.tail _ (List.Mem.tail _ (List.Mem.tail _ (List.Mem.head _))))) le_n)))), (show ([4, 3, 0, 1, 2] : List Nat).Nodup by decide)⟩
      rw [nI_1]
      refine ih (k + 1) (by omega) (by omega) (fun h => k0 (fun j q1 q2 q3 q4 => ?_)) (fun h => k1 (fun q => h (fun j q1 q2 q3 q4 => q j (by omega) q2 q3 q4)))
      rcases Nat.eq_or_lt_of_le q1 with e9 | e9
      · subst e9; first | assumption | (exfalso; omega)
      · exact h j e9 q2 q3 q4
    have h3 := qF_eq (cx := (nI k).toInt) (cy := (m).toInt) rfl rfl h3
    refine pm_go (g := (35, [(4, .int (nI k)), (3, .int 1), (0, .ref 25), (1, .int m), (2, .int n0)], [.ref 25], _, 0, 0)) rfl ?_
    refine pm_go (g := (38, _, [.int mFp], _, 0, 0)) rfl ?_
    refine pm_go (g := (39, _, [.int 3, .int mFp], _, 0, 0)) rfl ?_
    refine pm_if2 (g := (51, [(4, .int (nI k)), (3, .int 1), (0, .ref 25), (1, .int m), (2, .int n0)], [], hq g c1 c2 c3 c4 c5 c6 c7 c8 c9 c10 c11 c12 c13 c14 c15 c16 c17 c18 c19 c20 c21 c22 c23 c24 (hc25 mTy mTm mMn mFn mRn mTn mVn mLr mTr mFl mFm mFp mSc mMp mEn) (hc26 mPa) (hc27 mTo) (hc28 mOt) (hc29 mNa) (hc30 mRe) (hc31 mMa) (hc32 mMy) (hc33 mPm) (hc34 mFy) (hc35 mFa) (hc36 mFr) (hc37 mFo) (hc38 mRt) (hc39 mRm) (hc40 mTt) (hc41 mTi) (hc42 mPl) (hc43 mVr) (hc44 mVf) (hc45 mVc) (hc46 mAr) (hc47 mTc) (hc48 mFt) (hc49 mGo) dyn, 0, 0)) (h := (42, [(4, .int (nI k)), (3, .int 1), (0, .ref 25), (1, .int m), (2, .int n0)], [], hq g c1 c2 c3 c4 c5 c6 c7 c8 c9 c10 c11 c12 c13 c14 c15 c16 c17 c18 c19 c20 c21 c22 c23 c24 (hc25 mTy mTm mMn mFn mRn mTn mVn mLr mTr mFl mFm mFp mSc mMp mEn) (hc26 mPa) (hc27 mTo) (hc28 mOt) (hc29 mNa) (hc30 mRe) (hc31 mMa) (hc32 mMy) (hc33 mPm) (hc34 mFy) (hc35 mFa) (hc36 mFr) (hc37 mFo) (hc38 mRt) (hc39 mRm) (hc40 mTt) (hc41 mTi) (hc42 mPl) (hc43 mVr) (hc44 mVf) (hc45 mVc) (hc46 mAr) (hc47 mTc) (hc48 mFt) (hc49 mGo) dyn, 0, 0)) rfl (fun h4 => ?_) (fun h4 => ?_)
    ·
      have h4 := qT_ge (cx := (mFp).toInt) (cy := 3) rfl (by decide) h4
      refine pm_go (g := (52, _, [.ref 25], _, 0, 0)) rfl ?_
      refine pm_go (g := (55, _, [.ref 32], _, 0, 0)) rfl ?_
      refine pm_go (g := (56, _, [.int m, .ref 32], _, 0, 0)) rfl ?_
      refine pm_sd (g := (57, _, [.int (mMy (m).toNatClampNeg)], _, 0, 0)) rfl (pm_inI (by omega) (by omega)) ?_
      refine pm_go (g := (58, _, [.ref 25, .int (mMy (m).toNatClampNeg)], _, 0, 0)) rfl ?_
      refine pm_go (g := (61, _, [.ref 32, .int (mMy (m).toNatClampNeg)], _, 0, 0)) rfl ?_
      refine pm_go (g := (63, _, [.int (nI k), .ref 32, .int (mMy (m).toNatClampNeg)], _, 0, 0)) rfl ?_
      refine pm_sd (g := (64, _, [.int (mMy (nI k).toNatClampNeg), .int (mMy (m).toNatClampNeg)], _, 0, 0)) rfl (pm_inI (by omega) (by omega)) ?_
      refine pm_if2 (g := (76, [(4, .int (nI k)), (3, .int 1), (0, .ref 25), (1, .int m), (2, .int n0)], [], hq g c1 c2 c3 c4 c5 c6 c7 c8 c9 c10 c11 c12 c13 c14 c15 c16 c17 c18 c19 c20 c21 c22 c23 c24 (hc25 mTy mTm mMn mFn mRn mTn mVn mLr mTr mFl mFm mFp mSc mMp mEn) (hc26 mPa) (hc27 mTo) (hc28 mOt) (hc29 mNa) (hc30 mRe) (hc31 mMa) (hc32 mMy) (hc33 mPm) (hc34 mFy) (hc35 mFa) (hc36 mFr) (hc37 mFo) (hc38 mRt) (hc39 mRm) (hc40 mTt) (hc41 mTi) (hc42 mPl) (hc43 mVr) (hc44 mVf) (hc45 mVc) (hc46 mAr) (hc47 mTc) (hc48 mFt) (hc49 mGo) dyn, 0, 0)) (h := (67, [(4, .int (nI k)), (3, .int 1), (0, .ref 25), (1, .int m), (2, .int n0)], [], hq g c1 c2 c3 c4 c5 c6 c7 c8 c9 c10 c11 c12 c13 c14 c15 c16 c17 c18 c19 c20 c21 c22 c23 c24 (hc25 mTy mTm mMn mFn mRn mTn mVn mLr mTr mFl mFm mFp mSc mMp mEn) (hc26 mPa) (hc27 mTo) (hc28 mOt) (hc29 mNa) (hc30 mRe) (hc31 mMa) (hc32 mMy) (hc33 mPm) (hc34 mFy) (hc35 mFa) (hc36 mFr) (hc37 mFo) (hc38 mRt) (hc39 mRm) (hc40 mTt) (hc41 mTi) (hc42 mPl) (hc43 mVr) (hc44 mVf) (hc45 mVc) (hc46 mAr) (hc47 mTc) (hc48 mFt) (hc49 mGo) dyn, 0, 0)) rfl (fun h5 => ?_) (fun h5 => ?_)
      ·
        have h5 := qT_le (cx := (mMy (m).toNatClampNeg).toInt) (cy := (mMy (nI k).toNatClampNeg).toInt) rfl rfl h5
        refine pm_go (g := (77, _, [.ref 25], _, 0, 0)) rfl ?_
        refine pm_go (g := (80, _, [.ref 32], _, 0, 0)) rfl ?_
        refine pm_go (g := (82, _, [.int (nI k), .ref 32], _, 0, 0)) rfl ?_
        refine pm_sd (g := (83, _, [.int (mMy (nI k).toNatClampNeg)], _, 0, 0)) rfl (pm_inI (by omega) (by omega)) ?_
        refine pm_go (g := (85, [(5, .int (mMy (nI k).toNatClampNeg)), (4, .int (nI k)), (3, .int 1), (0, .ref 25), (1, .int m), (2, .int n0)], [], _, 0, 0)) rfl ?_
        refine pm_go (g := (86, _, [.ref 25], _, 0, 0)) rfl ?_
        refine pm_go (g := (89, _, [.int mFp], _, 0, 0)) rfl ?_
        refine pm_go (g := (90, _, [.int 3, .int mFp], _, 0, 0)) rfl ?_
        refine pm_if2 (g := (103, [(5, .int (mMy (nI k).toNatClampNeg)), (4, .int (nI k)), (3, .int 1), (0, .ref 25), (1, .int m), (2, .int n0)], [], hq g c1 c2 c3 c4 c5 c6 c7 c8 c9 c10 c11 c12 c13 c14 c15 c16 c17 c18 c19 c20 c21 c22 c23 c24 (hc25 mTy mTm mMn mFn mRn mTn mVn mLr mTr mFl mFm mFp mSc mMp mEn) (hc26 mPa) (hc27 mTo) (hc28 mOt) (hc29 mNa) (hc30 mRe) (hc31 mMa) (hc32 mMy) (hc33 mPm) (hc34 mFy) (hc35 mFa) (hc36 mFr) (hc37 mFo) (hc38 mRt) (hc39 mRm) (hc40 mTt) (hc41 mTi) (hc42 mPl) (hc43 mVr) (hc44 mVf) (hc45 mVc) (hc46 mAr) (hc47 mTc) (hc48 mFt) (hc49 mGo) dyn, 0, 0)) (h := (93, [(5, .int (mMy (nI k).toNatClampNeg)), (4, .int (nI k)), (3, .int 1), (0, .ref 25), (1, .int m), (2, .int n0)], [], hq g c1 c2 c3 c4 c5 c6 c7 c8 c9 c10 c11 c12 c13 c14 c15 c16 c17 c18 c19 c20 c21 c22 c23 c24 (hc25 mTy mTm mMn mFn mRn mTn mVn mLr mTr mFl mFm mFp mSc mMp mEn) (hc26 mPa) (hc27 mTo) (hc28 mOt) (hc29 mNa) (hc30 mRe) (hc31 mMa) (hc32 mMy) (hc33 mPm) (hc34 mFy) (hc35 mFa) (hc36 mFr) (hc37 mFo) (hc38 mRt) (hc39 mRm) (hc40 mTt) (hc41 mTi) (hc42 mPl) (hc43 mVr) (hc44 mVf) (hc45 mVc) (hc46 mAr) (hc47 mTc) (hc48 mFt) (hc49 mGo) dyn, 0, 0)) rfl (fun h6 => ?_) (fun h6 => ?_)
        ·
          have h6 := qT_ne (cx := (mFp).toInt) (cy := 3) rfl (by decide) h6
          refine pm_go (g := (105, _, [.int (mMy (nI k).toNatClampNeg)], _, 0, 0)) rfl ?_
          refine pm_go (g := (107, _, [], _, 0, 0)) rfl ?_
          refine pm_go (g := (108, _, [.int 0], _, 0, 0)) rfl ?_
          refine pm_go (g := (110, [(6, .int 0), (5, .int (mMy (nI k).toNatClampNeg)), (4, .int (nI k)), (3, .int 1), (0, .ref 25), (1, .int m), (2, .int n0)], [], _, 0, 0)) rfl ?_
          refine pm_sub (lv := [(6, .int 0), (5, .int (mMy (nI k).toNatClampNeg)), (4, .int (nI k)), (3, .int 1), (0, .ref 25), (1, .int m), (2, .int n0)]) ?_ ⟨le_c (List.Mem.head _) (le_c (List.Mem.tail _ (List.Mem.head _)) (le_c (List.Mem.tail _ (List.Mem.tail _ (List.Mem.head _))) (le_c (List.Mem.tail _ (List.Mem.tail _ (List.Mem.tail _ (List.Mem.head _)))) (le_c (List.Mem.tail _ (List.Mem.tail _ (List.Mem.tail _ (List.Mem.tail _ (List.Mem.head _))))) (le_c (List.Mem.tail _ (List.Mem.tail _ (List.Mem.tail _ (List.Mem.tail _ (List.Mem.tail _ (List.Mem.head _)))))) (le_c (List.Mem.tail _ (List.Mem.tail _ (List.Mem.tail _ (List.Mem.tail _ (List.Mem.tail _ (List.Mem.tail _ (List.Mem.head _))))))) le_n)))))), (show ([6, 5, 4, 3, 0, 1, 2] : List Nat).Nodup by decide)⟩
          have h3k : mFp.toInt = 3 → 1 ≤ (mMy (nI k).toNatClampNeg).toInt := fun q => by have q1 := hfv q k (by omega) (by omega); rw [hkc]; exact q1
          refine w_isSpecial_in m n0 (nI k) (mMy (nI k).toNatClampNeg) hm (by omega) (by omega) hpp hp (by omega) hmm (hmk (by omega)) (by omega) 4 0 (by omega) (by omega) (fun h => ?_) (fun h => ?_)
          ·
            show pm_WP 149 (185, [(4, .int (nI k)), (3, .int 1), (0, .ref 25), (1, .int m), (2, .int n0)], [], _, 0, 0) _
            have hO : spO mPa mMy mPm mFp n0 m (nI k) := fun j q => h j (Nat.zero_le j) (by unfold spB at q; omega)
            refine pm_go (g := (188, [(4, .int ((nI k) + 1)), (3, .int 1), (0, .ref 25), (1, .int m), (2, .int n0)], [], _, 0, 0)) rfl ?_
            refine pm_go (g := (5, _, [], _, 0, 0)) rfl ?_
            refine pm_sub (lv := [(4, .int ((nI k) + 1)), (3, .int 1), (0, .ref 25), (1, .int m), (2, .int n0)]) ?_ ⟨le_c (List.Mem.head _) (le_c (List.Mem.tail _ (List.Mem.head _)) (le_c (List.Mem.tail _ (List.Mem.tail _ (List.Mem.head _))) (le_c (List.Mem.tail _ (List.Mem.tail _ (List.Mem.tail _ (List.Mem.head _)))) (le_c (List.Mem.tail _ (List.Mem.tail _ (List.Mem.tail _ (List.Mem.tail _ (List.Mem.head _))))) le_n)))), (show ([4, 3, 0, 1, 2] : List Nat).Nodup by decide)⟩
            rw [nI_1]
            refine ih (k + 1) (by omega) (by omega) (fun h => k0 (fun j q1 q2 q3 q4 => ?_)) (fun h => k1 (fun q => h (fun j q1 q2 q3 q4 => q j (by omega) q2 q3 q4)))
            rcases Nat.eq_or_lt_of_le q1 with e9 | e9
            · subst e9; first | assumption | (exfalso; omega)
            · exact h j e9 q2 q3 q4
          show pm_WP 149 (185, [(4, .int (nI k)), (3, .int 0), (0, .ref 25), (1, .int m), (2, .int n0)], [], hq g c1 c2 c3 c4 c5 c6 c7 c8 c9 c10 c11 c12 c13 c14 c15 c16 c17 c18 c19 c20 c21 c22 c23 c24 (hc25 mTy mTm mMn mFn mRn mTn mVn mLr mTr mFl mFm mFp mSc mMp mEn) (hc26 mPa) (hc27 mTo) (hc28 mOt) (hc29 mNa) (hc30 mRe) (hc31 mMa) (hc32 mMy) (hc33 mPm) (hc34 mFy) (hc35 mFa) (hc36 mFr) (hc37 mFo) (hc38 mRt) (hc39 mRm) (hc40 mTt) (hc41 mTi) (hc42 mPl) (hc43 mVr) (hc44 mVf) (hc45 mVc) (hc46 mAr) (hc47 mTc) (hc48 mFt) (hc49 mGo) dyn, 0, 0) _
          refine pm_go (g := (188, [(4, .int ((nI k) + 1)), (3, .int 0), (0, .ref 25), (1, .int m), (2, .int n0)], [], _, 0, 0)) rfl ?_
          refine pm_go (g := (5, _, [], _, 0, 0)) rfl ?_
          refine pm_go (g := (6, _, [.int 0], _, 0, 0)) rfl ?_
          refine pm_brT (g := (191, [(4, .int ((nI k) + 1)), (3, .int 0), (0, .ref 25), (1, .int m), (2, .int n0)], [], hq g c1 c2 c3 c4 c5 c6 c7 c8 c9 c10 c11 c12 c13 c14 c15 c16 c17 c18 c19 c20 c21 c22 c23 c24 (hc25 mTy mTm mMn mFn mRn mTn mVn mLr mTr mFl mFm mFp mSc mMp mEn) (hc26 mPa) (hc27 mTo) (hc28 mOt) (hc29 mNa) (hc30 mRe) (hc31 mMa) (hc32 mMy) (hc33 mPm) (hc34 mFy) (hc35 mFa) (hc36 mFr) (hc37 mFo) (hc38 mRt) (hc39 mRm) (hc40 mTt) (hc41 mTi) (hc42 mPl) (hc43 mVr) (hc44 mVf) (hc45 mVc) (hc46 mAr) (hc47 mTc) (hc48 mFt) (hc49 mGo) dyn, 0, 0)) rfl ?_
          refine pm_go (g := (192, _, [.int 0], _, 0, 0)) rfl ?_
          exact pm_ret rfl (k1 (fun q => h (fun j q1 q2 => q k (Nat.le_refl k) (by omega) (by omega) (by omega) j (by unfold spB; omega))))
        have h6 := qF_ne (cx := (mFp).toInt) (cy := 3) rfl (by decide) h6
        refine pm_go (g := (94, [(5, .int (mMy (nI k).toNatClampNeg)), (4, .int (nI k)), (3, .int 1), (0, .ref 25), (1, .int m), (2, .int n0)], [.int n0], _, 0, 0)) rfl ?_
        refine pm_go (g := (96, _, [.int (mMy (nI k).toNatClampNeg), .int n0], _, 0, 0)) rfl ?_
        refine pm_if2 (g := (103, [(5, .int (mMy (nI k).toNatClampNeg)), (4, .int (nI k)), (3, .int 1), (0, .ref 25), (1, .int m), (2, .int n0)], [], hq g c1 c2 c3 c4 c5 c6 c7 c8 c9 c10 c11 c12 c13 c14 c15 c16 c17 c18 c19 c20 c21 c22 c23 c24 (hc25 mTy mTm mMn mFn mRn mTn mVn mLr mTr mFl mFm mFp mSc mMp mEn) (hc26 mPa) (hc27 mTo) (hc28 mOt) (hc29 mNa) (hc30 mRe) (hc31 mMa) (hc32 mMy) (hc33 mPm) (hc34 mFy) (hc35 mFa) (hc36 mFr) (hc37 mFo) (hc38 mRt) (hc39 mRm) (hc40 mTt) (hc41 mTi) (hc42 mPl) (hc43 mVr) (hc44 mVf) (hc45 mVc) (hc46 mAr) (hc47 mTc) (hc48 mFt) (hc49 mGo) dyn, 0, 0)) (h := (99, [(5, .int (mMy (nI k).toNatClampNeg)), (4, .int (nI k)), (3, .int 1), (0, .ref 25), (1, .int m), (2, .int n0)], [], hq g c1 c2 c3 c4 c5 c6 c7 c8 c9 c10 c11 c12 c13 c14 c15 c16 c17 c18 c19 c20 c21 c22 c23 c24 (hc25 mTy mTm mMn mFn mRn mTn mVn mLr mTr mFl mFm mFp mSc mMp mEn) (hc26 mPa) (hc27 mTo) (hc28 mOt) (hc29 mNa) (hc30 mRe) (hc31 mMa) (hc32 mMy) (hc33 mPm) (hc34 mFy) (hc35 mFa) (hc36 mFr) (hc37 mFo) (hc38 mRt) (hc39 mRm) (hc40 mTt) (hc41 mTi) (hc42 mPl) (hc43 mVr) (hc44 mVf) (hc45 mVc) (hc46 mAr) (hc47 mTc) (hc48 mFt) (hc49 mGo) dyn, 0, 0)) rfl (fun h7 => ?_) (fun h7 => ?_)
        ·
          have h7 := qT_le (cx := (n0).toInt) (cy := (mMy (nI k).toNatClampNeg).toInt) rfl rfl h7
          refine pm_go (g := (105, _, [.int (mMy (nI k).toNatClampNeg)], _, 0, 0)) rfl ?_
          refine pm_go (g := (107, _, [], _, 0, 0)) rfl ?_
          refine pm_go (g := (108, _, [.int 0], _, 0, 0)) rfl ?_
          refine pm_go (g := (110, [(6, .int 0), (5, .int (mMy (nI k).toNatClampNeg)), (4, .int (nI k)), (3, .int 1), (0, .ref 25), (1, .int m), (2, .int n0)], [], _, 0, 0)) rfl ?_
          refine pm_sub (lv := [(6, .int 0), (5, .int (mMy (nI k).toNatClampNeg)), (4, .int (nI k)), (3, .int 1), (0, .ref 25), (1, .int m), (2, .int n0)]) ?_ ⟨le_c (List.Mem.head _) (le_c (List.Mem.tail _ (List.Mem.head _)) (le_c (List.Mem.tail _ (List.Mem.tail _ (List.Mem.head _))) (le_c (List.Mem.tail _ (List.Mem.tail _ (List.Mem.tail _ (List.Mem.head _)))) (le_c (List.Mem.tail _ (List.Mem.tail _ (List.Mem.tail _ (List.Mem.tail _ (List.Mem.head _))))) (le_c (List.Mem.tail _ (List.Mem.tail _ (List.Mem.tail _ (List.Mem.tail _ (List.Mem.tail _ (List.Mem.head _)))))) (le_c (List.Mem.tail _ (List.Mem.tail _ (List.Mem.tail _ (List.Mem.tail _ (List.Mem.tail _ (List.Mem.tail _ (List.Mem.head _))))))) le_n)))))), (show ([6, 5, 4, 3, 0, 1, 2] : List Nat).Nodup by decide)⟩
          have h3k : mFp.toInt = 3 → 1 ≤ (mMy (nI k).toNatClampNeg).toInt := fun q => by have q1 := hfv q k (by omega) (by omega); rw [hkc]; exact q1
          refine w_isSpecial_in m n0 (nI k) (mMy (nI k).toNatClampNeg) hm (by omega) (by omega) hpp hp (by omega) hmm (hmk (by omega)) (by omega) 4 0 (by omega) (by omega) (fun h => ?_) (fun h => ?_)
          ·
            show pm_WP 149 (185, [(4, .int (nI k)), (3, .int 1), (0, .ref 25), (1, .int m), (2, .int n0)], [], _, 0, 0) _
            have hO : spO mPa mMy mPm mFp n0 m (nI k) := fun j q => h j (Nat.zero_le j) (by unfold spB at q; omega)
            refine pm_go (g := (188, [(4, .int ((nI k) + 1)), (3, .int 1), (0, .ref 25), (1, .int m), (2, .int n0)], [], _, 0, 0)) rfl ?_
            refine pm_go (g := (5, _, [], _, 0, 0)) rfl ?_
            refine pm_sub (lv := [(4, .int ((nI k) + 1)), (3, .int 1), (0, .ref 25), (1, .int m), (2, .int n0)]) ?_ ⟨le_c (List.Mem.head _) (le_c (List.Mem.tail _ (List.Mem.head _)) (le_c (List.Mem.tail _ (List.Mem.tail _ (List.Mem.head _))) (le_c (List.Mem.tail _ (List.Mem.tail _ (List.Mem.tail _ (List.Mem.head _)))) (le_c (List.Mem.tail _ (List.Mem.tail _ (List.Mem.tail _ (List.Mem.tail _ (List.Mem.head _))))) le_n)))), (show ([4, 3, 0, 1, 2] : List Nat).Nodup by decide)⟩
            rw [nI_1]
            refine ih (k + 1) (by omega) (by omega) (fun h => k0 (fun j q1 q2 q3 q4 => ?_)) (fun h => k1 (fun q => h (fun j q1 q2 q3 q4 => q j (by omega) q2 q3 q4)))
            rcases Nat.eq_or_lt_of_le q1 with e9 | e9
            · subst e9; first | assumption | (exfalso; omega)
            · exact h j e9 q2 q3 q4
          show pm_WP 149 (185, [(4, .int (nI k)), (3, .int 0), (0, .ref 25), (1, .int m), (2, .int n0)], [], hq g c1 c2 c3 c4 c5 c6 c7 c8 c9 c10 c11 c12 c13 c14 c15 c16 c17 c18 c19 c20 c21 c22 c23 c24 (hc25 mTy mTm mMn mFn mRn mTn mVn mLr mTr mFl mFm mFp mSc mMp mEn) (hc26 mPa) (hc27 mTo) (hc28 mOt) (hc29 mNa) (hc30 mRe) (hc31 mMa) (hc32 mMy) (hc33 mPm) (hc34 mFy) (hc35 mFa) (hc36 mFr) (hc37 mFo) (hc38 mRt) (hc39 mRm) (hc40 mTt) (hc41 mTi) (hc42 mPl) (hc43 mVr) (hc44 mVf) (hc45 mVc) (hc46 mAr) (hc47 mTc) (hc48 mFt) (hc49 mGo) dyn, 0, 0) _
          refine pm_go (g := (188, [(4, .int ((nI k) + 1)), (3, .int 0), (0, .ref 25), (1, .int m), (2, .int n0)], [], _, 0, 0)) rfl ?_
          refine pm_go (g := (5, _, [], _, 0, 0)) rfl ?_
          refine pm_go (g := (6, _, [.int 0], _, 0, 0)) rfl ?_
          refine pm_brT (g := (191, [(4, .int ((nI k) + 1)), (3, .int 0), (0, .ref 25), (1, .int m), (2, .int n0)], [], hq g c1 c2 c3 c4 c5 c6 c7 c8 c9 c10 c11 c12 c13 c14 c15 c16 c17 c18 c19 c20 c21 c22 c23 c24 (hc25 mTy mTm mMn mFn mRn mTn mVn mLr mTr mFl mFm mFp mSc mMp mEn) (hc26 mPa) (hc27 mTo) (hc28 mOt) (hc29 mNa) (hc30 mRe) (hc31 mMa) (hc32 mMy) (hc33 mPm) (hc34 mFy) (hc35 mFa) (hc36 mFr) (hc37 mFo) (hc38 mRt) (hc39 mRm) (hc40 mTt) (hc41 mTi) (hc42 mPl) (hc43 mVr) (hc44 mVf) (hc45 mVc) (hc46 mAr) (hc47 mTc) (hc48 mFt) (hc49 mGo) dyn, 0, 0)) rfl ?_
          refine pm_go (g := (192, _, [.int 0], _, 0, 0)) rfl ?_
          exact pm_ret rfl (k1 (fun q => h (fun j q1 q2 => q k (Nat.le_refl k) (by omega) (by omega) (by omega) j (by unfold spB; omega))))
        have h7 := qF_le (cx := (n0).toInt) (cy := (mMy (nI k).toNatClampNeg).toInt) rfl rfl h7
        refine pm_go (g := (100, [(5, .int (mMy (nI k).toNatClampNeg)), (4, .int (nI k)), (3, .int 1), (0, .ref 25), (1, .int m), (2, .int n0)], [.int n0], _, 0, 0)) rfl ?_
        refine pm_go (g := (105, _, [.int n0], _, 0, 0)) rfl ?_
        refine pm_go (g := (107, [(5, .int n0), (4, .int (nI k)), (3, .int 1), (0, .ref 25), (1, .int m), (2, .int n0)], [], _, 0, 0)) rfl ?_
        refine pm_go (g := (108, _, [.int 0], _, 0, 0)) rfl ?_
        refine pm_go (g := (110, [(6, .int 0), (5, .int n0), (4, .int (nI k)), (3, .int 1), (0, .ref 25), (1, .int m), (2, .int n0)], [], _, 0, 0)) rfl ?_
        refine pm_sub (lv := [(6, .int 0), (5, .int n0), (4, .int (nI k)), (3, .int 1), (0, .ref 25), (1, .int m), (2, .int n0)]) ?_ ⟨le_c (List.Mem.head _) (le_c (List.Mem.tail _ (List.Mem.head _)) (le_c (List.Mem.tail _ (List.Mem.tail _ (List.Mem.head _))) (le_c (List.Mem.tail _ (List.Mem.tail _ (List.Mem.tail _ (List.Mem.head _)))) (le_c (List.Mem.tail _ (List.Mem.tail _ (List.Mem.tail _ (List.Mem.tail _ (List.Mem.head _))))) (le_c (List.Mem.tail _ (List.Mem.tail _ (List.Mem.tail _ (List.Mem.tail _ (List.Mem.tail _ (List.Mem.head _)))))) (le_c (List.Mem.tail _ (List.Mem.tail _ (List.Mem.tail _ (List.Mem.tail _ (List.Mem.tail _ (List.Mem.tail _ (List.Mem.head _))))))) le_n)))))), (show ([6, 5, 4, 3, 0, 1, 2] : List Nat).Nodup by decide)⟩
        have h3k : mFp.toInt = 3 → 1 ≤ (mMy (nI k).toNatClampNeg).toInt := fun q => by have q1 := hfv q k (by omega) (by omega); rw [hkc]; exact q1
        refine w_isSpecial_in m n0 (nI k) (n0) hm (by omega) (by omega) hpp hp (by omega) hmm (hmk (by omega)) (by omega) 4 0 (by omega) (by omega) (fun h => ?_) (fun h => ?_)
        ·
          show pm_WP 149 (185, [(4, .int (nI k)), (3, .int 1), (0, .ref 25), (1, .int m), (2, .int n0)], [], _, 0, 0) _
          have hO : spO mPa mMy mPm mFp n0 m (nI k) := fun j q => h j (Nat.zero_le j) (by unfold spB at q; omega)
          refine pm_go (g := (188, [(4, .int ((nI k) + 1)), (3, .int 1), (0, .ref 25), (1, .int m), (2, .int n0)], [], _, 0, 0)) rfl ?_
          refine pm_go (g := (5, _, [], _, 0, 0)) rfl ?_
          refine pm_sub (lv := [(4, .int ((nI k) + 1)), (3, .int 1), (0, .ref 25), (1, .int m), (2, .int n0)]) ?_ ⟨le_c (List.Mem.head _) (le_c (List.Mem.tail _ (List.Mem.head _)) (le_c (List.Mem.tail _ (List.Mem.tail _ (List.Mem.head _))) (le_c (List.Mem.tail _ (List.Mem.tail _ (List.Mem.tail _ (List.Mem.head _)))) (le_c (List.Mem.tail _ (List.Mem.tail _ (List.Mem.tail _ (List.Mem.tail _ (List.Mem.head _))))) le_n)))), (show ([4, 3, 0, 1, 2] : List Nat).Nodup by decide)⟩
          rw [nI_1]
          refine ih (k + 1) (by omega) (by omega) (fun h => k0 (fun j q1 q2 q3 q4 => ?_)) (fun h => k1 (fun q => h (fun j q1 q2 q3 q4 => q j (by omega) q2 q3 q4)))
          rcases Nat.eq_or_lt_of_le q1 with e9 | e9
          · subst e9; first | assumption | (exfalso; omega)
          · exact h j e9 q2 q3 q4
        show pm_WP 149 (185, [(4, .int (nI k)), (3, .int 0), (0, .ref 25), (1, .int m), (2, .int n0)], [], hq g c1 c2 c3 c4 c5 c6 c7 c8 c9 c10 c11 c12 c13 c14 c15 c16 c17 c18 c19 c20 c21 c22 c23 c24 (hc25 mTy mTm mMn mFn mRn mTn mVn mLr mTr mFl mFm mFp mSc mMp mEn) (hc26 mPa) (hc27 mTo) (hc28 mOt) (hc29 mNa) (hc30 mRe) (hc31 mMa) (hc32 mMy) (hc33 mPm) (hc34 mFy) (hc35 mFa) (hc36 mFr) (hc37 mFo) (hc38 mRt) (hc39 mRm) (hc40 mTt) (hc41 mTi) (hc42 mPl) (hc43 mVr) (hc44 mVf) (hc45 mVc) (hc46 mAr) (hc47 mTc) (hc48 mFt) (hc49 mGo) dyn, 0, 0) _
        refine pm_go (g := (188, [(4, .int ((nI k) + 1)), (3, .int 0), (0, .ref 25), (1, .int m), (2, .int n0)], [], _, 0, 0)) rfl ?_
        refine pm_go (g := (5, _, [], _, 0, 0)) rfl ?_
        refine pm_go (g := (6, _, [.int 0], _, 0, 0)) rfl ?_
        refine pm_brT (g := (191, [(4, .int ((nI k) + 1)), (3, .int 0), (0, .ref 25), (1, .int m), (2, .int n0)], [], hq g c1 c2 c3 c4 c5 c6 c7 c8 c9 c10 c11 c12 c13 c14 c15 c16 c17 c18 c19 c20 c21 c22 c23 c24 (hc25 mTy mTm mMn mFn mRn mTn mVn mLr mTr mFl mFm mFp mSc mMp mEn) (hc26 mPa) (hc27 mTo) (hc28 mOt) (hc29 mNa) (hc30 mRe) (hc31 mMa) (hc32 mMy) (hc33 mPm) (hc34 mFy) (hc35 mFa) (hc36 mFr) (hc37 mFo) (hc38 mRt) (hc39 mRm) (hc40 mTt) (hc41 mTi) (hc42 mPl) (hc43 mVr) (hc44 mVf) (hc45 mVc) (hc46 mAr) (hc47 mTc) (hc48 mFt) (hc49 mGo) dyn, 0, 0)) rfl ?_
        refine pm_go (g := (192, _, [.int 0], _, 0, 0)) rfl ?_
        exact pm_ret rfl (k1 (fun q => h (fun j q1 q2 => q k (Nat.le_refl k) (by omega) (by omega) (by omega) j (by unfold spB; omega))))
      have h5 := qF_le (cx := (mMy (m).toNatClampNeg).toInt) (cy := (mMy (nI k).toNatClampNeg).toInt) rfl rfl h5
      refine pm_go (g := (68, [(4, .int (nI k)), (3, .int 1), (0, .ref 25), (1, .int m), (2, .int n0)], [.ref 25], _, 0, 0)) rfl ?_
      refine pm_go (g := (71, _, [.ref 32], _, 0, 0)) rfl ?_
      refine pm_go (g := (72, _, [.int m, .ref 32], _, 0, 0)) rfl ?_
      refine pm_sd (g := (73, _, [.int (mMy (m).toNatClampNeg)], _, 0, 0)) rfl (pm_inI (by omega) (by omega)) ?_
      refine pm_go (g := (83, _, [.int (mMy (m).toNatClampNeg)], _, 0, 0)) rfl ?_
      refine pm_go (g := (85, [(5, .int (mMy (m).toNatClampNeg)), (4, .int (nI k)), (3, .int 1), (0, .ref 25), (1, .int m), (2, .int n0)], [], _, 0, 0)) rfl ?_
      refine pm_go (g := (86, _, [.ref 25], _, 0, 0)) rfl ?_
      refine pm_go (g := (89, _, [.int mFp], _, 0, 0)) rfl ?_
      refine pm_go (g := (90, _, [.int 3, .int mFp], _, 0, 0)) rfl ?_
      refine pm_if2 (g := (103, [(5, .int (mMy (m).toNatClampNeg)), (4, .int (nI k)), (3, .int 1), (0, .ref 25), (1, .int m), (2, .int n0)], [], hq g c1 c2 c3 c4 c5 c6 c7 c8 c9 c10 c11 c12 c13 c14 c15 c16 c17 c18 c19 c20 c21 c22 c23 c24 (hc25 mTy mTm mMn mFn mRn mTn mVn mLr mTr mFl mFm mFp mSc mMp mEn) (hc26 mPa) (hc27 mTo) (hc28 mOt) (hc29 mNa) (hc30 mRe) (hc31 mMa) (hc32 mMy) (hc33 mPm) (hc34 mFy) (hc35 mFa) (hc36 mFr) (hc37 mFo) (hc38 mRt) (hc39 mRm) (hc40 mTt) (hc41 mTi) (hc42 mPl) (hc43 mVr) (hc44 mVf) (hc45 mVc) (hc46 mAr) (hc47 mTc) (hc48 mFt) (hc49 mGo) dyn, 0, 0)) (h := (93, [(5, .int (mMy (m).toNatClampNeg)), (4, .int (nI k)), (3, .int 1), (0, .ref 25), (1, .int m), (2, .int n0)], [], hq g c1 c2 c3 c4 c5 c6 c7 c8 c9 c10 c11 c12 c13 c14 c15 c16 c17 c18 c19 c20 c21 c22 c23 c24 (hc25 mTy mTm mMn mFn mRn mTn mVn mLr mTr mFl mFm mFp mSc mMp mEn) (hc26 mPa) (hc27 mTo) (hc28 mOt) (hc29 mNa) (hc30 mRe) (hc31 mMa) (hc32 mMy) (hc33 mPm) (hc34 mFy) (hc35 mFa) (hc36 mFr) (hc37 mFo) (hc38 mRt) (hc39 mRm) (hc40 mTt) (hc41 mTi) (hc42 mPl) (hc43 mVr) (hc44 mVf) (hc45 mVc) (hc46 mAr) (hc47 mTc) (hc48 mFt) (hc49 mGo) dyn, 0, 0)) rfl (fun h8 => ?_) (fun h8 => ?_)
      ·
        have h8 := qT_ne (cx := (mFp).toInt) (cy := 3) rfl (by decide) h8
        refine pm_go (g := (105, _, [.int (mMy (m).toNatClampNeg)], _, 0, 0)) rfl ?_
        refine pm_go (g := (107, _, [], _, 0, 0)) rfl ?_
        refine pm_go (g := (108, _, [.int 0], _, 0, 0)) rfl ?_
        refine pm_go (g := (110, [(6, .int 0), (5, .int (mMy (m).toNatClampNeg)), (4, .int (nI k)), (3, .int 1), (0, .ref 25), (1, .int m), (2, .int n0)], [], _, 0, 0)) rfl ?_
        refine pm_sub (lv := [(6, .int 0), (5, .int (mMy (m).toNatClampNeg)), (4, .int (nI k)), (3, .int 1), (0, .ref 25), (1, .int m), (2, .int n0)]) ?_ ⟨le_c (List.Mem.head _) (le_c (List.Mem.tail _ (List.Mem.head _)) (le_c (List.Mem.tail _ (List.Mem.tail _ (List.Mem.head _))) (le_c (List.Mem.tail _ (List.Mem.tail _ (List.Mem.tail _ (List.Mem.head _)))) (le_c (List.Mem.tail _ (List.Mem.tail _ (List.Mem.tail _ (List.Mem.tail _ (List.Mem.head _))))) (le_c (List.Mem.tail _ (List.Mem.tail _ (List.Mem.tail _ (List.Mem.tail _ (List.Mem.tail _ (List.Mem.head _)))))) (le_c (List.Mem.tail _ (List.Mem.tail _ (List.Mem.tail _ (List.Mem.tail _ (List.Mem.tail _ (List.Mem.tail _ (List.Mem.head _))))))) le_n)))))), (show ([6, 5, 4, 3, 0, 1, 2] : List Nat).Nodup by decide)⟩
        have h3k : mFp.toInt = 3 → 1 ≤ (mMy (nI k).toNatClampNeg).toInt := fun q => by have q1 := hfv q k (by omega) (by omega); rw [hkc]; exact q1
        refine w_isSpecial_in m n0 (nI k) (mMy (m).toNatClampNeg) hm (by omega) (by omega) hpp hp (by omega) hmm (hmk (by omega)) (by omega) 4 0 (by omega) (by omega) (fun h => ?_) (fun h => ?_)
        ·
          show pm_WP 149 (185, [(4, .int (nI k)), (3, .int 1), (0, .ref 25), (1, .int m), (2, .int n0)], [], _, 0, 0) _
          have hO : spO mPa mMy mPm mFp n0 m (nI k) := fun j q => h j (Nat.zero_le j) (by unfold spB at q; omega)
          refine pm_go (g := (188, [(4, .int ((nI k) + 1)), (3, .int 1), (0, .ref 25), (1, .int m), (2, .int n0)], [], _, 0, 0)) rfl ?_
          refine pm_go (g := (5, _, [], _, 0, 0)) rfl ?_
          refine pm_sub (lv := [(4, .int ((nI k) + 1)), (3, .int 1), (0, .ref 25), (1, .int m), (2, .int n0)]) ?_ ⟨le_c (List.Mem.head _) (le_c (List.Mem.tail _ (List.Mem.head _)) (le_c (List.Mem.tail _ (List.Mem.tail _ (List.Mem.head _))) (le_c (List.Mem.tail _ (List.Mem.tail _ (List.Mem.tail _ (List.Mem.head _)))) (le_c (List.Mem.tail _ (List.Mem.tail _ (List.Mem.tail _ (List.Mem.tail _ (List.Mem.head _))))) le_n)))), (show ([4, 3, 0, 1, 2] : List Nat).Nodup by decide)⟩
          rw [nI_1]
          refine ih (k + 1) (by omega) (by omega) (fun h => k0 (fun j q1 q2 q3 q4 => ?_)) (fun h => k1 (fun q => h (fun j q1 q2 q3 q4 => q j (by omega) q2 q3 q4)))
          rcases Nat.eq_or_lt_of_le q1 with e9 | e9
          · subst e9; first | assumption | (exfalso; omega)
          · exact h j e9 q2 q3 q4
        show pm_WP 149 (185, [(4, .int (nI k)), (3, .int 0), (0, .ref 25), (1, .int m), (2, .int n0)], [], hq g c1 c2 c3 c4 c5 c6 c7 c8 c9 c10 c11 c12 c13 c14 c15 c16 c17 c18 c19 c20 c21 c22 c23 c24 (hc25 mTy mTm mMn mFn mRn mTn mVn mLr mTr mFl mFm mFp mSc mMp mEn) (hc26 mPa) (hc27 mTo) (hc28 mOt) (hc29 mNa) (hc30 mRe) (hc31 mMa) (hc32 mMy) (hc33 mPm) (hc34 mFy) (hc35 mFa) (hc36 mFr) (hc37 mFo) (hc38 mRt) (hc39 mRm) (hc40 mTt) (hc41 mTi) (hc42 mPl) (hc43 mVr) (hc44 mVf) (hc45 mVc) (hc46 mAr) (hc47 mTc) (hc48 mFt) (hc49 mGo) dyn, 0, 0) _
        refine pm_go (g := (188, [(4, .int ((nI k) + 1)), (3, .int 0), (0, .ref 25), (1, .int m), (2, .int n0)], [], _, 0, 0)) rfl ?_
        refine pm_go (g := (5, _, [], _, 0, 0)) rfl ?_
        refine pm_go (g := (6, _, [.int 0], _, 0, 0)) rfl ?_
        refine pm_brT (g := (191, [(4, .int ((nI k) + 1)), (3, .int 0), (0, .ref 25), (1, .int m), (2, .int n0)], [], hq g c1 c2 c3 c4 c5 c6 c7 c8 c9 c10 c11 c12 c13 c14 c15 c16 c17 c18 c19 c20 c21 c22 c23 c24 (hc25 mTy mTm mMn mFn mRn mTn mVn mLr mTr mFl mFm mFp mSc mMp mEn) (hc26 mPa) (hc27 mTo) (hc28 mOt) (hc29 mNa) (hc30 mRe) (hc31 mMa) (hc32 mMy) (hc33 mPm) (hc34 mFy) (hc35 mFa) (hc36 mFr) (hc37 mFo) (hc38 mRt) (hc39 mRm) (hc40 mTt) (hc41 mTi) (hc42 mPl) (hc43 mVr) (hc44 mVf) (hc45 mVc) (hc46 mAr) (hc47 mTc) (hc48 mFt) (hc49 mGo) dyn, 0, 0)) rfl ?_
        refine pm_go (g := (192, _, [.int 0], _, 0, 0)) rfl ?_
        exact pm_ret rfl (k1 (fun q => h (fun j q1 q2 => q k (Nat.le_refl k) (by omega) (by omega) (by omega) j (by unfold spB; omega))))
      have h8 := qF_ne (cx := (mFp).toInt) (cy := 3) rfl (by decide) h8
      refine pm_go (g := (94, [(5, .int (mMy (m).toNatClampNeg)), (4, .int (nI k)), (3, .int 1), (0, .ref 25), (1, .int m), (2, .int n0)], [.int n0], _, 0, 0)) rfl ?_
      refine pm_go (g := (96, _, [.int (mMy (m).toNatClampNeg), .int n0], _, 0, 0)) rfl ?_
      refine pm_if2 (g := (103, [(5, .int (mMy (m).toNatClampNeg)), (4, .int (nI k)), (3, .int 1), (0, .ref 25), (1, .int m), (2, .int n0)], [], hq g c1 c2 c3 c4 c5 c6 c7 c8 c9 c10 c11 c12 c13 c14 c15 c16 c17 c18 c19 c20 c21 c22 c23 c24 (hc25 mTy mTm mMn mFn mRn mTn mVn mLr mTr mFl mFm mFp mSc mMp mEn) (hc26 mPa) (hc27 mTo) (hc28 mOt) (hc29 mNa) (hc30 mRe) (hc31 mMa) (hc32 mMy) (hc33 mPm) (hc34 mFy) (hc35 mFa) (hc36 mFr) (hc37 mFo) (hc38 mRt) (hc39 mRm) (hc40 mTt) (hc41 mTi) (hc42 mPl) (hc43 mVr) (hc44 mVf) (hc45 mVc) (hc46 mAr) (hc47 mTc) (hc48 mFt) (hc49 mGo) dyn, 0, 0)) (h := (99, [(5, .int (mMy (m).toNatClampNeg)), (4, .int (nI k)), (3, .int 1), (0, .ref 25), (1, .int m), (2, .int n0)], [], hq g c1 c2 c3 c4 c5 c6 c7 c8 c9 c10 c11 c12 c13 c14 c15 c16 c17 c18 c19 c20 c21 c22 c23 c24 (hc25 mTy mTm mMn mFn mRn mTn mVn mLr mTr mFl mFm mFp mSc mMp mEn) (hc26 mPa) (hc27 mTo) (hc28 mOt) (hc29 mNa) (hc30 mRe) (hc31 mMa) (hc32 mMy) (hc33 mPm) (hc34 mFy) (hc35 mFa) (hc36 mFr) (hc37 mFo) (hc38 mRt) (hc39 mRm) (hc40 mTt) (hc41 mTi) (hc42 mPl) (hc43 mVr) (hc44 mVf) (hc45 mVc) (hc46 mAr) (hc47 mTc) (hc48 mFt) (hc49 mGo) dyn, 0, 0)) rfl (fun h9 => ?_) (fun h9 => ?_)
      ·
        have h9 := qT_le (cx := (n0).toInt) (cy := (mMy (m).toNatClampNeg).toInt) rfl rfl h9
        refine pm_go (g := (105, _, [.int (mMy (m).toNatClampNeg)], _, 0, 0)) rfl ?_
        refine pm_go (g := (107, _, [], _, 0, 0)) rfl ?_
        refine pm_go (g := (108, _, [.int 0], _, 0, 0)) rfl ?_
        refine pm_go (g := (110, [(6, .int 0), (5, .int (mMy (m).toNatClampNeg)), (4, .int (nI k)), (3, .int 1), (0, .ref 25), (1, .int m), (2, .int n0)], [], _, 0, 0)) rfl ?_
        refine pm_sub (lv := [(6, .int 0), (5, .int (mMy (m).toNatClampNeg)), (4, .int (nI k)), (3, .int 1), (0, .ref 25), (1, .int m), (2, .int n0)]) ?_ ⟨le_c (List.Mem.head _) (le_c (List.Mem.tail _ (List.Mem.head _)) (le_c (List.Mem.tail _ (List.Mem.tail _ (List.Mem.head _))) (le_c (List.Mem.tail _ (List.Mem.tail _ (List.Mem.tail _ (List.Mem.head _)))) (le_c (List.Mem.tail _ (List.Mem.tail _ (List.Mem.tail _ (List.Mem.tail _ (List.Mem.head _))))) (le_c (List.Mem.tail _ (List.Mem.tail _ (List.Mem.tail _ (List.Mem.tail _ (List.Mem.tail _ (List.Mem.head _)))))) (le_c (List.Mem.tail _ (List.Mem.tail _ (List.Mem.tail _ (List.Mem.tail _ (List.Mem.tail _ (List.Mem.tail _ (List.Mem.head _))))))) le_n)))))), (show ([6, 5, 4, 3, 0, 1, 2] : List Nat).Nodup by decide)⟩
        have h3k : mFp.toInt = 3 → 1 ≤ (mMy (nI k).toNatClampNeg).toInt := fun q => by have q1 := hfv q k (by omega) (by omega); rw [hkc]; exact q1
        refine w_isSpecial_in m n0 (nI k) (mMy (m).toNatClampNeg) hm (by omega) (by omega) hpp hp (by omega) hmm (hmk (by omega)) (by omega) 4 0 (by omega) (by omega) (fun h => ?_) (fun h => ?_)
        ·
          show pm_WP 149 (185, [(4, .int (nI k)), (3, .int 1), (0, .ref 25), (1, .int m), (2, .int n0)], [], _, 0, 0) _
          have hO : spO mPa mMy mPm mFp n0 m (nI k) := fun j q => h j (Nat.zero_le j) (by unfold spB at q; omega)
          refine pm_go (g := (188, [(4, .int ((nI k) + 1)), (3, .int 1), (0, .ref 25), (1, .int m), (2, .int n0)], [], _, 0, 0)) rfl ?_
          refine pm_go (g := (5, _, [], _, 0, 0)) rfl ?_
          refine pm_sub (lv := [(4, .int ((nI k) + 1)), (3, .int 1), (0, .ref 25), (1, .int m), (2, .int n0)]) ?_ ⟨le_c (List.Mem.head _) (le_c (List.Mem.tail _ (List.Mem.head _)) (le_c (List.Mem.tail _ (List.Mem.tail _ (List.Mem.head _))) (le_c (List.Mem.tail _ (List.Mem.tail _ (List.Mem.tail _ (List.Mem.head _)))) (le_c (List.Mem.tail _ (List.Mem.tail _ (List.Mem.tail _ (List.Mem.tail _ (List.Mem.head _))))) le_n)))), (show ([4, 3, 0, 1, 2] : List Nat).Nodup by decide)⟩
          rw [nI_1]
          refine ih (k + 1) (by omega) (by omega) (fun h => k0 (fun j q1 q2 q3 q4 => ?_)) (fun h => k1 (fun q => h (fun j q1 q2 q3 q4 => q j (by omega) q2 q3 q4)))
          rcases Nat.eq_or_lt_of_le q1 with e9 | e9
          · subst e9; first | assumption | (exfalso; omega)
          · exact h j e9 q2 q3 q4
        show pm_WP 149 (185, [(4, .int (nI k)), (3, .int 0), (0, .ref 25), (1, .int m), (2, .int n0)], [], hq g c1 c2 c3 c4 c5 c6 c7 c8 c9 c10 c11 c12 c13 c14 c15 c16 c17 c18 c19 c20 c21 c22 c23 c24 (hc25 mTy mTm mMn mFn mRn mTn mVn mLr mTr mFl mFm mFp mSc mMp mEn) (hc26 mPa) (hc27 mTo) (hc28 mOt) (hc29 mNa) (hc30 mRe) (hc31 mMa) (hc32 mMy) (hc33 mPm) (hc34 mFy) (hc35 mFa) (hc36 mFr) (hc37 mFo) (hc38 mRt) (hc39 mRm) (hc40 mTt) (hc41 mTi) (hc42 mPl) (hc43 mVr) (hc44 mVf) (hc45 mVc) (hc46 mAr) (hc47 mTc) (hc48 mFt) (hc49 mGo) dyn, 0, 0) _
        refine pm_go (g := (188, [(4, .int ((nI k) + 1)), (3, .int 0), (0, .ref 25), (1, .int m), (2, .int n0)], [], _, 0, 0)) rfl ?_
        refine pm_go (g := (5, _, [], _, 0, 0)) rfl ?_
        refine pm_go (g := (6, _, [.int 0], _, 0, 0)) rfl ?_
        refine pm_brT (g := (191, [(4, .int ((nI k) + 1)), (3, .int 0), (0, .ref 25), (1, .int m), (2, .int n0)], [], hq g c1 c2 c3 c4 c5 c6 c7 c8 c9 c10 c11 c12 c13 c14 c15 c16 c17 c18 c19 c20 c21 c22 c23 c24 (hc25 mTy mTm mMn mFn mRn mTn mVn mLr mTr mFl mFm mFp mSc mMp mEn) (hc26 mPa) (hc27 mTo) (hc28 mOt) (hc29 mNa) (hc30 mRe) (hc31 mMa) (hc32 mMy) (hc33 mPm) (hc34 mFy) (hc35 mFa) (hc36 mFr) (hc37 mFo) (hc38 mRt) (hc39 mRm) (hc40 mTt) (hc41 mTi) (hc42 mPl) (hc43 mVr) (hc44 mVf) (hc45 mVc) (hc46 mAr) (hc47 mTc) (hc48 mFt) (hc49 mGo) dyn, 0, 0)) rfl ?_
        refine pm_go (g := (192, _, [.int 0], _, 0, 0)) rfl ?_
        exact pm_ret rfl (k1 (fun q => h (fun j q1 q2 => q k (Nat.le_refl k) (by omega) (by omega) (by omega) j (by unfold spB; omega))))
      have h9 := qF_le (cx := (n0).toInt) (cy := (mMy (m).toNatClampNeg).toInt) rfl rfl h9
      refine pm_go (g := (100, [(5, .int (mMy (m).toNatClampNeg)), (4, .int (nI k)), (3, .int 1), (0, .ref 25), (1, .int m), (2, .int n0)], [.int n0], _, 0, 0)) rfl ?_
      refine pm_go (g := (105, _, [.int n0], _, 0, 0)) rfl ?_
      refine pm_go (g := (107, [(5, .int n0), (4, .int (nI k)), (3, .int 1), (0, .ref 25), (1, .int m), (2, .int n0)], [], _, 0, 0)) rfl ?_
      refine pm_go (g := (108, _, [.int 0], _, 0, 0)) rfl ?_
      refine pm_go (g := (110, [(6, .int 0), (5, .int n0), (4, .int (nI k)), (3, .int 1), (0, .ref 25), (1, .int m), (2, .int n0)], [], _, 0, 0)) rfl ?_
      refine pm_sub (lv := [(6, .int 0), (5, .int n0), (4, .int (nI k)), (3, .int 1), (0, .ref 25), (1, .int m), (2, .int n0)]) ?_ ⟨le_c (List.Mem.head _) (le_c (List.Mem.tail _ (List.Mem.head _)) (le_c (List.Mem.tail _ (List.Mem.tail _ (List.Mem.head _))) (le_c (List.Mem.tail _ (List.Mem.tail _ (List.Mem.tail _ (List.Mem.head _)))) (le_c (List.Mem.tail _ (List.Mem.tail _ (List.Mem.tail _ (List.Mem.tail _ (List.Mem.head _))))) (le_c (List.Mem.tail _ (List.Mem.tail _ (List.Mem.tail _ (List.Mem.tail _ (List.Mem.tail _ (List.Mem.head _)))))) (le_c (List.Mem.tail _ (List.Mem.tail _ (List.Mem.tail _ (List.Mem.tail _ (List.Mem.tail _ (List.Mem.tail _ (List.Mem.head _))))))) le_n)))))), (show ([6, 5, 4, 3, 0, 1, 2] : List Nat).Nodup by decide)⟩
      have h3k : mFp.toInt = 3 → 1 ≤ (mMy (nI k).toNatClampNeg).toInt := fun q => by have q1 := hfv q k (by omega) (by omega); rw [hkc]; exact q1
      refine w_isSpecial_in m n0 (nI k) (n0) hm (by omega) (by omega) hpp hp (by omega) hmm (hmk (by omega)) (by omega) 4 0 (by omega) (by omega) (fun h => ?_) (fun h => ?_)
      ·
        show pm_WP 149 (185, [(4, .int (nI k)), (3, .int 1), (0, .ref 25), (1, .int m), (2, .int n0)], [], _, 0, 0) _
        have hO : spO mPa mMy mPm mFp n0 m (nI k) := fun j q => h j (Nat.zero_le j) (by unfold spB at q; omega)
        refine pm_go (g := (188, [(4, .int ((nI k) + 1)), (3, .int 1), (0, .ref 25), (1, .int m), (2, .int n0)], [], _, 0, 0)) rfl ?_
        refine pm_go (g := (5, _, [], _, 0, 0)) rfl ?_
        refine pm_sub (lv := [(4, .int ((nI k) + 1)), (3, .int 1), (0, .ref 25), (1, .int m), (2, .int n0)]) ?_ ⟨le_c (List.Mem.head _) (le_c (List.Mem.tail _ (List.Mem.head _)) (le_c (List.Mem.tail _ (List.Mem.tail _ (List.Mem.head _))) (le_c (List.Mem.tail _ (List.Mem.tail _ (List.Mem.tail _ (List.Mem.head _)))) (le_c (List.Mem.tail _ (List.Mem.tail _ (List.Mem.tail _ (List.Mem.tail _ (List.Mem.head _))))) le_n)))), (show ([4, 3, 0, 1, 2] : List Nat).Nodup by decide)⟩
        rw [nI_1]
        refine ih (k + 1) (by omega) (by omega) (fun h => k0 (fun j q1 q2 q3 q4 => ?_)) (fun h => k1 (fun q => h (fun j q1 q2 q3 q4 => q j (by omega) q2 q3 q4)))
        rcases Nat.eq_or_lt_of_le q1 with e9 | e9
        · subst e9; first | assumption | (exfalso; omega)
        · exact h j e9 q2 q3 q4
      show pm_WP 149 (185, [(4, .int (nI k)), (3, .int 0), (0, .ref 25), (1, .int m), (2, .int n0)], [], hq g c1 c2 c3 c4 c5 c6 c7 c8 c9 c10 c11 c12 c13 c14 c15 c16 c17 c18 c19 c20 c21 c22 c23 c24 (hc25 mTy mTm mMn mFn mRn mTn mVn mLr mTr mFl mFm mFp mSc mMp mEn) (hc26 mPa) (hc27 mTo) (hc28 mOt) (hc29 mNa) (hc30 mRe) (hc31 mMa) (hc32 mMy) (hc33 mPm) (hc34 mFy) (hc35 mFa) (hc36 mFr) (hc37 mFo) (hc38 mRt) (hc39 mRm) (hc40 mTt) (hc41 mTi) (hc42 mPl) (hc43 mVr) (hc44 mVf) (hc45 mVc) (hc46 mAr) (hc47 mTc) (hc48 mFt) (hc49 mGo) dyn, 0, 0) _
      refine pm_go (g := (188, [(4, .int ((nI k) + 1)), (3, .int 0), (0, .ref 25), (1, .int m), (2, .int n0)], [], _, 0, 0)) rfl ?_
      refine pm_go (g := (5, _, [], _, 0, 0)) rfl ?_
      refine pm_go (g := (6, _, [.int 0], _, 0, 0)) rfl ?_
      refine pm_brT (g := (191, [(4, .int ((nI k) + 1)), (3, .int 0), (0, .ref 25), (1, .int m), (2, .int n0)], [], hq g c1 c2 c3 c4 c5 c6 c7 c8 c9 c10 c11 c12 c13 c14 c15 c16 c17 c18 c19 c20 c21 c22 c23 c24 (hc25 mTy mTm mMn mFn mRn mTn mVn mLr mTr mFl mFm mFp mSc mMp mEn) (hc26 mPa) (hc27 mTo) (hc28 mOt) (hc29 mNa) (hc30 mRe) (hc31 mMa) (hc32 mMy) (hc33 mPm) (hc34 mFy) (hc35 mFa) (hc36 mFr) (hc37 mFo) (hc38 mRt) (hc39 mRm) (hc40 mTt) (hc41 mTi) (hc42 mPl) (hc43 mVr) (hc44 mVf) (hc45 mVc) (hc46 mAr) (hc47 mTc) (hc48 mFt) (hc49 mGo) dyn, 0, 0)) rfl ?_
      refine pm_go (g := (192, _, [.int 0], _, 0, 0)) rfl ?_
      exact pm_ret rfl (k1 (fun q => h (fun j q1 q2 => q k (Nat.le_refl k) (by omega) (by omega) (by omega) j (by unfold spB; omega))))
    have h4 := qF_ge (cx := (mFp).toInt) (cy := 3) rfl (by decide) h4
    refine pm_go (g := (43, [(4, .int (nI k)), (3, .int 1), (0, .ref 25), (1, .int m), (2, .int n0)], [.ref 25], _, 0, 0)) rfl ?_
    refine pm_go (g := (46, _, [.ref 32], _, 0, 0)) rfl ?_
    refine pm_go (g := (47, _, [.int m, .ref 32], _, 0, 0)) rfl ?_
    refine pm_sd (g := (48, _, [.int (mMy (m).toNatClampNeg)], _, 0, 0)) rfl (pm_inI (by omega) (by omega)) ?_
    refine pm_go (g := (83, _, [.int (mMy (m).toNatClampNeg)], _, 0, 0)) rfl ?_
    refine pm_go (g := (85, [(5, .int (mMy (m).toNatClampNeg)), (4, .int (nI k)), (3, .int 1), (0, .ref 25), (1, .int m), (2, .int n0)], [], _, 0, 0)) rfl ?_
    refine pm_go (g := (86, _, [.ref 25], _, 0, 0)) rfl ?_
    refine pm_go (g := (89, _, [.int mFp], _, 0, 0)) rfl ?_
    refine pm_go (g := (90, _, [.int 3, .int mFp], _, 0, 0)) rfl ?_
    refine pm_if2 (g := (103, [(5, .int (mMy (m).toNatClampNeg)), (4, .int (nI k)), (3, .int 1), (0, .ref 25), (1, .int m), (2, .int n0)], [], hq g c1 c2 c3 c4 c5 c6 c7 c8 c9 c10 c11 c12 c13 c14 c15 c16 c17 c18 c19 c20 c21 c22 c23 c24 (hc25 mTy mTm mMn mFn mRn mTn mVn mLr mTr mFl mFm mFp mSc mMp mEn) (hc26 mPa) (hc27 mTo) (hc28 mOt) (hc29 mNa) (hc30 mRe) (hc31 mMa) (hc32 mMy) (hc33 mPm) (hc34 mFy) (hc35 mFa) (hc36 mFr) (hc37 mFo) (hc38 mRt) (hc39 mRm) (hc40 mTt) (hc41 mTi) (hc42 mPl) (hc43 mVr) (hc44 mVf) (hc45 mVc) (hc46 mAr) (hc47 mTc) (hc48 mFt) (hc49 mGo) dyn, 0, 0)) (h := (93, [(5, .int (mMy (m).toNatClampNeg)), (4, .int (nI k)), (3, .int 1), (0, .ref 25), (1, .int m), (2, .int n0)], [], hq g c1 c2 c3 c4 c5 c6 c7 c8 c9 c10 c11 c12 c13 c14 c15 c16 c17 c18 c19 c20 c21 c22 c23 c24 (hc25 mTy mTm mMn mFn mRn mTn mVn mLr mTr mFl mFm mFp mSc mMp mEn) (hc26 mPa) (hc27 mTo) (hc28 mOt) (hc29 mNa) (hc30 mRe) (hc31 mMa) (hc32 mMy) (hc33 mPm) (hc34 mFy) (hc35 mFa) (hc36 mFr) (hc37 mFo) (hc38 mRt) (hc39 mRm) (hc40 mTt) (hc41 mTi) (hc42 mPl) (hc43 mVr) (hc44 mVf) (hc45 mVc) (hc46 mAr) (hc47 mTc) (hc48 mFt) (hc49 mGo) dyn, 0, 0)) rfl (fun h10 => ?_) (fun h10 => ?_)
    ·
      have h10 := qT_ne (cx := (mFp).toInt) (cy := 3) rfl (by decide) h10
      refine pm_go (g := (105, _, [.int (mMy (m).toNatClampNeg)], _, 0, 0)) rfl ?_
      refine pm_go (g := (107, _, [], _, 0, 0)) rfl ?_
      refine pm_go (g := (108, _, [.int 0], _, 0, 0)) rfl ?_
      refine pm_go (g := (110, [(6, .int 0), (5, .int (mMy (m).toNatClampNeg)), (4, .int (nI k)), (3, .int 1), (0, .ref 25), (1, .int m), (2, .int n0)], [], _, 0, 0)) rfl ?_
      refine pm_sub (lv := [(6, .int 0), (5, .int (mMy (m).toNatClampNeg)), (4, .int (nI k)), (3, .int 1), (0, .ref 25), (1, .int m), (2, .int n0)]) ?_ ⟨le_c (List.Mem.head _) (le_c (List.Mem.tail _ (List.Mem.head _)) (le_c (List.Mem.tail _ (List.Mem.tail _ (List.Mem.head _))) (le_c (List.Mem.tail _ (List.Mem.tail _ (List.Mem.tail _ (List.Mem.head _)))) (le_c (List.Mem.tail _ (List.Mem.tail _ (List.Mem.tail _ (List.Mem.tail _ (List.Mem.head _))))) (le_c (List.Mem.tail _ (List.Mem.tail _ (List.Mem.tail _ (List.Mem.tail _ (List.Mem.tail _ (List.Mem.head _)))))) (le_c (List.Mem.tail _ (List.Mem.tail _ (List.Mem.tail _ (List.Mem.tail _ (List.Mem.tail _ (List.Mem.tail _ (List.Mem.head _))))))) le_n)))))), (show ([6, 5, 4, 3, 0, 1, 2] : List Nat).Nodup by decide)⟩
      have h3k : mFp.toInt = 3 → 1 ≤ (mMy (nI k).toNatClampNeg).toInt := fun q => by have q1 := hfv q k (by omega) (by omega); rw [hkc]; exact q1
      refine w_isSpecial_in m n0 (nI k) (mMy (m).toNatClampNeg) hm (by omega) (by omega) hpp hp (by omega) hmm (hmk (by omega)) (by omega) 4 0 (by omega) (by omega) (fun h => ?_) (fun h => ?_)
      ·
        show pm_WP 149 (185, [(4, .int (nI k)), (3, .int 1), (0, .ref 25), (1, .int m), (2, .int n0)], [], _, 0, 0) _
        have hO : spO mPa mMy mPm mFp n0 m (nI k) := fun j q => h j (Nat.zero_le j) (by unfold spB at q; omega)
        refine pm_go (g := (188, [(4, .int ((nI k) + 1)), (3, .int 1), (0, .ref 25), (1, .int m), (2, .int n0)], [], _, 0, 0)) rfl ?_
        refine pm_go (g := (5, _, [], _, 0, 0)) rfl ?_
        refine pm_sub (lv := [(4, .int ((nI k) + 1)), (3, .int 1), (0, .ref 25), (1, .int m), (2, .int n0)]) ?_ ⟨le_c (List.Mem.head _) (le_c (List.Mem.tail _ (List.Mem.head _)) (le_c (List.Mem.tail _ (List.Mem.tail _ (List.Mem.head _))) (le_c (List.Mem.tail _ (List.Mem.tail _ (List.Mem.tail _ (List.Mem.head _)))) (le_c (List.Mem.tail _ (List.Mem.tail _ (List.Mem.tail _ (List.Mem.tail _ (List.Mem.head _))))) le_n)))), (show ([4, 3, 0, 1, 2] : List Nat).Nodup by decide)⟩
        rw [nI_1]
        refine ih (k + 1) (by omega) (by omega) (fun h => k0 (fun j q1 q2 q3 q4 => ?_)) (fun h => k1 (fun q => h (fun j q1 q2 q3 q4 => q j (by omega) q2 q3 q4)))
        rcases Nat.eq_or_lt_of_le q1 with e9 | e9
        · subst e9; first | assumption | (exfalso; omega)
        · exact h j e9 q2 q3 q4
      show pm_WP 149 (185, [(4, .int (nI k)), (3, .int 0), (0, .ref 25), (1, .int m), (2, .int n0)], [], hq g c1 c2 c3 c4 c5 c6 c7 c8 c9 c10 c11 c12 c13 c14 c15 c16 c17 c18 c19 c20 c21 c22 c23 c24 (hc25 mTy mTm mMn mFn mRn mTn mVn mLr mTr mFl mFm mFp mSc mMp mEn) (hc26 mPa) (hc27 mTo) (hc28 mOt) (hc29 mNa) (hc30 mRe) (hc31 mMa) (hc32 mMy) (hc33 mPm) (hc34 mFy) (hc35 mFa) (hc36 mFr) (hc37 mFo) (hc38 mRt) (hc39 mRm) (hc40 mTt) (hc41 mTi) (hc42 mPl) (hc43 mVr) (hc44 mVf) (hc45 mVc) (hc46 mAr) (hc47 mTc) (hc48 mFt) (hc49 mGo) dyn, 0, 0) _
      refine pm_go (g := (188, [(4, .int ((nI k) + 1)), (3, .int 0), (0, .ref 25), (1, .int m), (2, .int n0)], [], _, 0, 0)) rfl ?_
      refine pm_go (g := (5, _, [], _, 0, 0)) rfl ?_
      refine pm_go (g := (6, _, [.int 0], _, 0, 0)) rfl ?_
      refine pm_brT (g := (191, [(4, .int ((nI k) + 1)), (3, .int 0), (0, .ref 25), (1, .int m), (2, .int n0)], [], hq g c1 c2 c3 c4 c5 c6 c7 c8 c9 c10 c11 c12 c13 c14 c15 c16 c17 c18 c19 c20 c21 c22 c23 c24 (hc25 mTy mTm mMn mFn mRn mTn mVn mLr mTr mFl mFm mFp mSc mMp mEn) (hc26 mPa) (hc27 mTo) (hc28 mOt) (hc29 mNa) (hc30 mRe) (hc31 mMa) (hc32 mMy) (hc33 mPm) (hc34 mFy) (hc35 mFa) (hc36 mFr) (hc37 mFo) (hc38 mRt) (hc39 mRm) (hc40 mTt) (hc41 mTi) (hc42 mPl) (hc43 mVr) (hc44 mVf) (hc45 mVc) (hc46 mAr) (hc47 mTc) (hc48 mFt) (hc49 mGo) dyn, 0, 0)) rfl ?_
      refine pm_go (g := (192, _, [.int 0], _, 0, 0)) rfl ?_
      exact pm_ret rfl (k1 (fun q => h (fun j q1 q2 => q k (Nat.le_refl k) (by omega) (by omega) (by omega) j (by unfold spB; omega))))
    have h10 := qF_ne (cx := (mFp).toInt) (cy := 3) rfl (by decide) h10
    refine pm_go (g := (94, [(5, .int (mMy (m).toNatClampNeg)), (4, .int (nI k)), (3, .int 1), (0, .ref 25), (1, .int m), (2, .int n0)], [.int n0], _, 0, 0)) rfl ?_
    refine pm_go (g := (96, _, [.int (mMy (m).toNatClampNeg), .int n0], _, 0, 0)) rfl ?_
    refine pm_if2 (g := (103, [(5, .int (mMy (m).toNatClampNeg)), (4, .int (nI k)), (3, .int 1), (0, .ref 25), (1, .int m), (2, .int n0)], [], hq g c1 c2 c3 c4 c5 c6 c7 c8 c9 c10 c11 c12 c13 c14 c15 c16 c17 c18 c19 c20 c21 c22 c23 c24 (hc25 mTy mTm mMn mFn mRn mTn mVn mLr mTr mFl mFm mFp mSc mMp mEn) (hc26 mPa) (hc27 mTo) (hc28 mOt) (hc29 mNa) (hc30 mRe) (hc31 mMa) (hc32 mMy) (hc33 mPm) (hc34 mFy) (hc35 mFa) (hc36 mFr) (hc37 mFo) (hc38 mRt) (hc39 mRm) (hc40 mTt) (hc41 mTi) (hc42 mPl) (hc43 mVr) (hc44 mVf) (hc45 mVc) (hc46 mAr) (hc47 mTc) (hc48 mFt) (hc49 mGo) dyn, 0, 0)) (h := (99, [(5, .int (mMy (m).toNatClampNeg)), (4, .int (nI k)), (3, .int 1), (0, .ref 25), (1, .int m), (2, .int n0)], [], hq g c1 c2 c3 c4 c5 c6 c7 c8 c9 c10 c11 c12 c13 c14 c15 c16 c17 c18 c19 c20 c21 c22 c23 c24 (hc25 mTy mTm mMn mFn mRn mTn mVn mLr mTr mFl mFm mFp mSc mMp mEn) (hc26 mPa) (hc27 mTo) (hc28 mOt) (hc29 mNa) (hc30 mRe) (hc31 mMa) (hc32 mMy) (hc33 mPm) (hc34 mFy) (hc35 mFa) (hc36 mFr) (hc37 mFo) (hc38 mRt) (hc39 mRm) (hc40 mTt) (hc41 mTi) (hc42 mPl) (hc43 mVr) (hc44 mVf) (hc45 mVc) (hc46 mAr) (hc47 mTc) (hc48 mFt) (hc49 mGo) dyn, 0, 0)) rfl (fun h11 => ?_) (fun h11 => ?_)
    ·
      have h11 := qT_le (cx := (n0).toInt) (cy := (mMy (m).toNatClampNeg).toInt) rfl rfl h11
      refine pm_go (g := (105, _, [.int (mMy (m).toNatClampNeg)], _, 0, 0)) rfl ?_
      refine pm_go (g := (107, _, [], _, 0, 0)) rfl ?_
      refine pm_go (g := (108, _, [.int 0], _, 0, 0)) rfl ?_
      refine pm_go (g := (110, [(6, .int 0), (5, .int (mMy (m).toNatClampNeg)), (4, .int (nI k)), (3, .int 1), (0, .ref 25), (1, .int m), (2, .int n0)], [], _, 0, 0)) rfl ?_
      refine pm_sub (lv := [(6, .int 0), (5, .int (mMy (m).toNatClampNeg)), (4, .int (nI k)), (3, .int 1), (0, .ref 25), (1, .int m), (2, .int n0)]) ?_ ⟨le_c (List.Mem.head _) (le_c (List.Mem.tail _ (List.Mem.head _)) (le_c (List.Mem.tail _ (List.Mem.tail _ (List.Mem.head _))) (le_c (List.Mem.tail _ (List.Mem.tail _ (List.Mem.tail _ (List.Mem.head _)))) (le_c (List.Mem.tail _ (List.Mem.tail _ (List.Mem.tail _ (List.Mem.tail _ (List.Mem.head _))))) (le_c (List.Mem.tail _ (List.Mem.tail _ (List.Mem.tail _ (List.Mem.tail _ (List.Mem.tail _ (List.Mem.head _)))))) (le_c (List.Mem.tail _ (List.Mem.tail _ (List.Mem.tail _ (List.Mem.tail _ (List.Mem.tail _ (List.Mem.tail _ (List.Mem.head _))))))) le_n)))))), (show ([6, 5, 4, 3, 0, 1, 2] : List Nat).Nodup by decide)⟩
      have h3k : mFp.toInt = 3 → 1 ≤ (mMy (nI k).toNatClampNeg).toInt := fun q => by have q1 := hfv q k (by omega) (by omega); rw [hkc]; exact q1
      refine w_isSpecial_in m n0 (nI k) (mMy (m).toNatClampNeg) hm (by omega) (by omega) hpp hp (by omega) hmm (hmk (by omega)) (by omega) 4 0 (by omega) (by omega) (fun h => ?_) (fun h => ?_)
      ·
        show pm_WP 149 (185, [(4, .int (nI k)), (3, .int 1), (0, .ref 25), (1, .int m), (2, .int n0)], [], _, 0, 0) _
        have hO : spO mPa mMy mPm mFp n0 m (nI k) := fun j q => h j (Nat.zero_le j) (by unfold spB at q; omega)
        refine pm_go (g := (188, [(4, .int ((nI k) + 1)), (3, .int 1), (0, .ref 25), (1, .int m), (2, .int n0)], [], _, 0, 0)) rfl ?_
        refine pm_go (g := (5, _, [], _, 0, 0)) rfl ?_
        refine pm_sub (lv := [(4, .int ((nI k) + 1)), (3, .int 1), (0, .ref 25), (1, .int m), (2, .int n0)]) ?_ ⟨le_c (List.Mem.head _) (le_c (List.Mem.tail _ (List.Mem.head _)) (le_c (List.Mem.tail _ (List.Mem.tail _ (List.Mem.head _))) (le_c (List.Mem.tail _ (List.Mem.tail _ (List.Mem.tail _ (List.Mem.head _)))) (le_c (List.Mem.tail _ (List.Mem.tail _ (List.Mem.tail _ (List.Mem.tail _ (List.Mem.head _))))) le_n)))), (show ([4, 3, 0, 1, 2] : List Nat).Nodup by decide)⟩
        rw [nI_1]
        refine ih (k + 1) (by omega) (by omega) (fun h => k0 (fun j q1 q2 q3 q4 => ?_)) (fun h => k1 (fun q => h (fun j q1 q2 q3 q4 => q j (by omega) q2 q3 q4)))
        rcases Nat.eq_or_lt_of_le q1 with e9 | e9
        · subst e9; first | assumption | (exfalso; omega)
        · exact h j e9 q2 q3 q4
      show pm_WP 149 (185, [(4, .int (nI k)), (3, .int 0), (0, .ref 25), (1, .int m), (2, .int n0)], [], hq g c1 c2 c3 c4 c5 c6 c7 c8 c9 c10 c11 c12 c13 c14 c15 c16 c17 c18 c19 c20 c21 c22 c23 c24 (hc25 mTy mTm mMn mFn mRn mTn mVn mLr mTr mFl mFm mFp mSc mMp mEn) (hc26 mPa) (hc27 mTo) (hc28 mOt) (hc29 mNa) (hc30 mRe) (hc31 mMa) (hc32 mMy) (hc33 mPm) (hc34 mFy) (hc35 mFa) (hc36 mFr) (hc37 mFo) (hc38 mRt) (hc39 mRm) (hc40 mTt) (hc41 mTi) (hc42 mPl) (hc43 mVr) (hc44 mVf) (hc45 mVc) (hc46 mAr) (hc47 mTc) (hc48 mFt) (hc49 mGo) dyn, 0, 0) _
      refine pm_go (g := (188, [(4, .int ((nI k) + 1)), (3, .int 0), (0, .ref 25), (1, .int m), (2, .int n0)], [], _, 0, 0)) rfl ?_
      refine pm_go (g := (5, _, [], _, 0, 0)) rfl ?_
      refine pm_go (g := (6, _, [.int 0], _, 0, 0)) rfl ?_
      refine pm_brT (g := (191, [(4, .int ((nI k) + 1)), (3, .int 0), (0, .ref 25), (1, .int m), (2, .int n0)], [], hq g c1 c2 c3 c4 c5 c6 c7 c8 c9 c10 c11 c12 c13 c14 c15 c16 c17 c18 c19 c20 c21 c22 c23 c24 (hc25 mTy mTm mMn mFn mRn mTn mVn mLr mTr mFl mFm mFp mSc mMp mEn) (hc26 mPa) (hc27 mTo) (hc28 mOt) (hc29 mNa) (hc30 mRe) (hc31 mMa) (hc32 mMy) (hc33 mPm) (hc34 mFy) (hc35 mFa) (hc36 mFr) (hc37 mFo) (hc38 mRt) (hc39 mRm) (hc40 mTt) (hc41 mTi) (hc42 mPl) (hc43 mVr) (hc44 mVf) (hc45 mVc) (hc46 mAr) (hc47 mTc) (hc48 mFt) (hc49 mGo) dyn, 0, 0)) rfl ?_
      refine pm_go (g := (192, _, [.int 0], _, 0, 0)) rfl ?_
      exact pm_ret rfl (k1 (fun q => h (fun j q1 q2 => q k (Nat.le_refl k) (by omega) (by omega) (by omega) j (by unfold spB; omega))))
    have h11 := qF_le (cx := (n0).toInt) (cy := (mMy (m).toNatClampNeg).toInt) rfl rfl h11
    refine pm_go (g := (100, [(5, .int (mMy (m).toNatClampNeg)), (4, .int (nI k)), (3, .int 1), (0, .ref 25), (1, .int m), (2, .int n0)], [.int n0], _, 0, 0)) rfl ?_
    refine pm_go (g := (105, _, [.int n0], _, 0, 0)) rfl ?_
    refine pm_go (g := (107, [(5, .int n0), (4, .int (nI k)), (3, .int 1), (0, .ref 25), (1, .int m), (2, .int n0)], [], _, 0, 0)) rfl ?_
    refine pm_go (g := (108, _, [.int 0], _, 0, 0)) rfl ?_
    refine pm_go (g := (110, [(6, .int 0), (5, .int n0), (4, .int (nI k)), (3, .int 1), (0, .ref 25), (1, .int m), (2, .int n0)], [], _, 0, 0)) rfl ?_
    refine pm_sub (lv := [(6, .int 0), (5, .int n0), (4, .int (nI k)), (3, .int 1), (0, .ref 25), (1, .int m), (2, .int n0)]) ?_ ⟨le_c (List.Mem.head _) (le_c (List.Mem.tail _ (List.Mem.head _)) (le_c (List.Mem.tail _ (List.Mem.tail _ (List.Mem.head _))) (le_c (List.Mem.tail _ (List.Mem.tail _ (List.Mem.tail _ (List.Mem.head _)))) (le_c (List.Mem.tail _ (List.Mem.tail _ (List.Mem.tail _ (List.Mem.tail _ (List.Mem.head _))))) (le_c (List.Mem.tail _ (List.Mem.tail _ (List.Mem.tail _ (List.Mem.tail _ (List.Mem.tail _ (List.Mem.head _)))))) (le_c (List.Mem.tail _ (List.Mem.tail _ (List.Mem.tail _ (List.Mem.tail _ (List.Mem.tail _ (List.Mem.tail _ (List.Mem.head _))))))) le_n)))))), (show ([6, 5, 4, 3, 0, 1, 2] : List Nat).Nodup by decide)⟩
    have h3k : mFp.toInt = 3 → 1 ≤ (mMy (nI k).toNatClampNeg).toInt := fun q => by have q1 := hfv q k (by omega) (by omega); rw [hkc]; exact q1
    refine w_isSpecial_in m n0 (nI k) (n0) hm (by omega) (by omega) hpp hp (by omega) hmm (hmk (by omega)) (by omega) 4 0 (by omega) (by omega) (fun h => ?_) (fun h => ?_)
    ·
      show pm_WP 149 (185, [(4, .int (nI k)), (3, .int 1), (0, .ref 25), (1, .int m), (2, .int n0)], [], _, 0, 0) _
      have hO : spO mPa mMy mPm mFp n0 m (nI k) := fun j q => h j (Nat.zero_le j) (by unfold spB at q; omega)
      refine pm_go (g := (188, [(4, .int ((nI k) + 1)), (3, .int 1), (0, .ref 25), (1, .int m), (2, .int n0)], [], _, 0, 0)) rfl ?_
      refine pm_go (g := (5, _, [], _, 0, 0)) rfl ?_
      refine pm_sub (lv := [(4, .int ((nI k) + 1)), (3, .int 1), (0, .ref 25), (1, .int m), (2, .int n0)]) ?_ ⟨le_c (List.Mem.head _) (le_c (List.Mem.tail _ (List.Mem.head _)) (le_c (List.Mem.tail _ (List.Mem.tail _ (List.Mem.head _))) (le_c (List.Mem.tail _ (List.Mem.tail _ (List.Mem.tail _ (List.Mem.head _)))) (le_c (List.Mem.tail _ (List.Mem.tail _ (List.Mem.tail _ (List.Mem.tail _ (List.Mem.head _))))) le_n)))), (show ([4, 3, 0, 1, 2] : List Nat).Nodup by decide)⟩
      rw [nI_1]
      refine ih (k + 1) (by omega) (by omega) (fun h => k0 (fun j q1 q2 q3 q4 => ?_)) (fun h => k1 (fun q => h (fun j q1 q2 q3 q4 => q j (by omega) q2 q3 q4)))
      rcases Nat.eq_or_lt_of_le q1 with e9 | e9
      · subst e9; first | assumption | (exfalso; omega)
      · exact h j e9 q2 q3 q4
    show pm_WP 149 (185, [(4, .int (nI k)), (3, .int 0), (0, .ref 25), (1, .int m), (2, .int n0)], [], hq g c1 c2 c3 c4 c5 c6 c7 c8 c9 c10 c11 c12 c13 c14 c15 c16 c17 c18 c19 c20 c21 c22 c23 c24 (hc25 mTy mTm mMn mFn mRn mTn mVn mLr mTr mFl mFm mFp mSc mMp mEn) (hc26 mPa) (hc27 mTo) (hc28 mOt) (hc29 mNa) (hc30 mRe) (hc31 mMa) (hc32 mMy) (hc33 mPm) (hc34 mFy) (hc35 mFa) (hc36 mFr) (hc37 mFo) (hc38 mRt) (hc39 mRm) (hc40 mTt) (hc41 mTi) (hc42 mPl) (hc43 mVr) (hc44 mVf) (hc45 mVc) (hc46 mAr) (hc47 mTc) (hc48 mFt) (hc49 mGo) dyn, 0, 0) _
    refine pm_go (g := (188, [(4, .int ((nI k) + 1)), (3, .int 0), (0, .ref 25), (1, .int m), (2, .int n0)], [], _, 0, 0)) rfl ?_
    refine pm_go (g := (5, _, [], _, 0, 0)) rfl ?_
    refine pm_go (g := (6, _, [.int 0], _, 0, 0)) rfl ?_
    refine pm_brT (g := (191, [(4, .int ((nI k) + 1)), (3, .int 0), (0, .ref 25), (1, .int m), (2, .int n0)], [], hq g c1 c2 c3 c4 c5 c6 c7 c8 c9 c10 c11 c12 c13 c14 c15 c16 c17 c18 c19 c20 c21 c22 c23 c24 (hc25 mTy mTm mMn mFn mRn mTn mVn mLr mTr mFl mFm mFp mSc mMp mEn) (hc26 mPa) (hc27 mTo) (hc28 mOt) (hc29 mNa) (hc30 mRe) (hc31 mMa) (hc32 mMy) (hc33 mPm) (hc34 mFy) (hc35 mFa) (hc36 mFr) (hc37 mFo) (hc38 mRt) (hc39 mRm) (hc40 mTt) (hc41 mTi) (hc42 mPl) (hc43 mVr) (hc44 mVf) (hc45 mVc) (hc46 mAr) (hc47 mTc) (hc48 mFt) (hc49 mGo) dyn, 0, 0)) rfl ?_
    refine pm_go (g := (192, _, [.int 0], _, 0, 0)) rfl ?_
    exact pm_ret rfl (k1 (fun q => h (fun j q1 q2 => q k (Nat.le_refl k) (by omega) (by omega) (by omega) j (by unfold spB; omega))))
set_option maxRecDepth 100000 in
set_option maxHeartbeats 4000000 in
theorem w_X12_isSpecial {g c1 c2 c3 c4 c5 c6 c7 c8 c9 c10 c11 c12 c13 c14 c15 c16 c17 c18 c19 c20 c21 c22 c23 c24 : pm_C} {dyn : pm_H} {mTy : Int32} {mPa : Nat → Int32} {mTo : Nat → Int32} {mTm : Int32} {mMn : Int32} {mOt : Nat → Int32} {mNa : Nat → Int32} {mRe : Nat → Int32} {mMa : Nat → Int32} {mMy : Nat → Int32} {mPm : Nat → Int32} {mFn : Int32} {mFy : Nat → Int32} {mFa : Nat → Int32} {mFr : Nat → Int32} {mRn : Int32} {mFo : Nat → Int32} {mRt : Nat → Int32} {mRm : Nat → Int32} {mTn : Int32} {mTt : Nat → Int32} {mTi : Nat → Int32} {mPl : Nat → Int32} {mVn : Int32} {mVr : Nat → Int32} {mVf : Nat → Int32} {mVc : Nat → Int32} {mAr : Nat → Int32} {mLr : Int32} {mTc : Nat → Int32} {mTr : Int32} {mFl : Int32} {mFt : Nat → Int32} {mFm : Int32} {mFp : Int32} {mSc : Int32} {mMp : Int32} {mEn : Int32} {mGo : Nat → Int32} {Q : pm_Q} (m : Int32) (n0 : Int32) (p0 : 0 ≤ m.toInt ∧ m.toInt < 40) (p1 : 0 ≤ n0.toInt ∧ n0.toInt ≤ 3) (p2 : 1 ≤ mFp.toInt ∧ mFp.toInt ≤ 3) (p3 : paD mPa) (p4 : myD mMy) (p5 : 0 ≤ mMn.toInt ∧ mMn.toInt ≤ 40) (p6 : fvD mFp mMy mFt mMn) (p7 : mFp.toInt = 3 → 1 ≤ (mMy m.toNatClampNeg).toInt) (k0 : spL mPa mMy mPm mFt mMn mFp n0 m 0 → Q (some (.int 1)) (hq g c1 c2 c3 c4 c5 c6 c7 c8 c9 c10 c11 c12 c13 c14 c15 c16 c17 c18 c19 c20 c21 c22 c23 c24 (hc25 mTy mTm mMn mFn mRn mTn mVn mLr mTr mFl mFm mFp mSc mMp mEn) (hc26 mPa) (hc27 mTo) (hc28 mOt) (hc29 mNa) (hc30 mRe) (hc31 mMa) (hc32 mMy) (hc33 mPm) (hc34 mFy) (hc35 mFa) (hc36 mFr) (hc37 mFo) (hc38 mRt) (hc39 mRm) (hc40 mTt) (hc41 mTi) (hc42 mPl) (hc43 mVr) (hc44 mVf) (hc45 mVc) (hc46 mAr) (hc47 mTc) (hc48 mFt) (hc49 mGo) dyn)) (k1 : ¬ spL mPa mMy mPm mFt mMn mFp n0 m 0 → Q (some (.int 0)) (hq g c1 c2 c3 c4 c5 c6 c7 c8 c9 c10 c11 c12 c13 c14 c15 c16 c17 c18 c19 c20 c21 c22 c23 c24 (hc25 mTy mTm mMn mFn mRn mTn mVn mLr mTr mFl mFm mFp mSc mMp mEn) (hc26 mPa) (hc27 mTo) (hc28 mOt) (hc29 mNa) (hc30 mRe) (hc31 mMa) (hc32 mMy) (hc33 mPm) (hc34 mFy) (hc35 mFa) (hc36 mFr) (hc37 mFo) (hc38 mRt) (hc39 mRm) (hc40 mTt) (hc41 mTi) (hc42 mPl) (hc43 mVr) (hc44 mVf) (hc45 mVc) (hc46 mAr) (hc47 mTc) (hc48 mFt) (hc49 mGo) dyn)) : pm_WP 149 (0, [(0, .ref 25), (1, .int m), (2, .int n0)], [], hq g c1 c2 c3 c4 c5 c6 c7 c8 c9 c10 c11 c12 c13 c14 c15 c16 c17 c18 c19 c20 c21 c22 c23 c24 (hc25 mTy mTm mMn mFn mRn mTn mVn mLr mTr mFl mFm mFp mSc mMp mEn) (hc26 mPa) (hc27 mTo) (hc28 mOt) (hc29 mNa) (hc30 mRe) (hc31 mMa) (hc32 mMy) (hc33 mPm) (hc34 mFy) (hc35 mFa) (hc36 mFr) (hc37 mFo) (hc38 mRt) (hc39 mRm) (hc40 mTt) (hc41 mTi) (hc42 mPl) (hc43 mVr) (hc44 mVf) (hc45 mVc) (hc46 mAr) (hc47 mTc) (hc48 mFt) (hc49 mGo) dyn, 0, 0) Q := by
  refine pm_go (g := (1, [(0, .ref 25), (1, .int m), (2, .int n0)], [.int 1], hq g c1 c2 c3 c4 c5 c6 c7 c8 c9 c10 c11 c12 c13 c14 c15 c16 c17 c18 c19 c20 c21 c22 c23 c24 (hc25 mTy mTm mMn mFn mRn mTn mVn mLr mTr mFl mFm mFp mSc mMp mEn) (hc26 mPa) (hc27 mTo) (hc28 mOt) (hc29 mNa) (hc30 mRe) (hc31 mMa) (hc32 mMy) (hc33 mPm) (hc34 mFy) (hc35 mFa) (hc36 mFr) (hc37 mFo) (hc38 mRt) (hc39 mRm) (hc40 mTt) (hc41 mTi) (hc42 mPl) (hc43 mVr) (hc44 mVf) (hc45 mVc) (hc46 mAr) (hc47 mTc) (hc48 mFt) (hc49 mGo) dyn, 0, 0)) rfl ?_
  refine pm_go (g := (2, [(3, .int 1), (0, .ref 25), (1, .int m), (2, .int n0)], [], _, 0, 0)) rfl ?_
  refine pm_go (g := (3, _, [.int 0], _, 0, 0)) rfl ?_
  refine pm_go (g := (5, [(4, .int 0), (3, .int 1), (0, .ref 25), (1, .int m), (2, .int n0)], [], _, 0, 0)) rfl ?_
  exact w_isSpecial_loop m n0 p0 p1 p2 p3 p4 p5 p6 p7 41 0 (by omega) (by omega) k0 k1
