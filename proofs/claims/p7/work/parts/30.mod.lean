theorem nf_of {pa ot na my pm ma fa fy ft : Nat → Int32} {mn t w f s p : Int32} (h : ∀ j : Nat, (j : Int) < mn.toInt → ((ft j).toInt ≠ 0 ↔ fitM pa ot na my pm ma fa fy mn t w f s p j)) (hn : 0 ≤ mn.toInt) (hc : cF ft mn.toNatClampNeg = 0) : nfM pa ot na my pm ma fa fy mn t w f s p := by
  intro j q q2
  have hx := xN hn
  exact (h j q).mpr q2 (cF_0.mp hc j (by omega))
theorem nn_of {pa ot na my pm ma fa fy ft : Nat → Int32} {mn t w f s p : Int32} (h : ∀ j : Nat, (j : Int) < mn.toInt → ((ft j).toInt ≠ 0 ↔ fitM pa ot na my pm ma fa fy mn t w f s p j)) (hn : 0 ≤ mn.toInt) (hc : cF ft mn.toNatClampNeg ≠ 0) : ¬ nfM pa ot na my pm ma fa fy mn t w f s p := by
  intro q
  have hx := xN hn
  refine hc (cF_0.mpr (fun j q2 => ?_))
  by_cases e : (ft j).toInt = 0
  · exact e
  · exact absurd ((h j (by omega)).mp e) (q j (by omega))
theorem fv_of {pa ot na my pm ma fa fy ft : Nat → Int32} {mn t w f s p : Int32} (h : ∀ j : Nat, (j : Int) < mn.toInt → ((ft j).toInt ≠ 0 ↔ fitM pa ot na my pm ma fa fy mn t w f s p j)) (hn : 0 ≤ mn.toInt ∧ mn.toInt ≤ 40) (hv : vrD ma my) : fvD p my ft mn := by
  intro q j q1 q2
  have hc : (nI j).toNatClampNeg = j := nI_clamp (by omega)
  have ht := ((h j q1).mp q2).2.2.1
  rw [hc] at ht
  rcases ht with ht | ht
  · omega
  · exact hv j (by omega) ht.2.1
theorem ft_of {pa ot na my pm ma fa fy ft : Nat → Int32} {mn t w f s p : Int32} (h : ∀ j : Nat, (j : Int) < mn.toInt → ((ft j).toInt ≠ 0 ↔ fitM pa ot na my pm ma fa fy mn t w f s p j)) (hp : p.toInt ≠ 0) : ftM pa ot na my pm ma fa fy mn t w f s p ft := fun j q => ⟨fun q2 => ⟨hp, (h j q).mp q2⟩, fun q2 => (h j q).mpr q2.2⟩
theorem ft_0 {pa ot na my pm ma fa fy ft : Nat → Int32} {mn t w f s : Int32} (hn : 0 ≤ mn.toInt) (hc : cF ft mn.toNatClampNeg = 0) : ftM pa ot na my pm ma fa fy mn t w f s 0 ft := by
  intro j q
  have hx := xN hn
  have e := cF_0.mp hc j (by omega)
  exact ⟨fun q2 => absurd e q2, fun q2 => absurd (show (0 : Int32).toInt = 0 by decide) q2.1⟩
theorem bs_0 {sp : Nat → Prop} {b : Int32} : bsM sp 0 b 0 := Or.inl ⟨by decide, fun j q => absurd q (Nat.not_lt_zero j)⟩
theorem cF_z {f : Nat → Int32} (h : ∀ j : Nat, j < 40 → f j = 0) {k : Nat} (hk : k ≤ 40) : cF f k = 0 := cF_0.mpr (fun j q => by rw [h j (by omega)]; decide)
set_option maxRecDepth 100000 in
set_option maxHeartbeats 4000000 in
theorem w_X12_searched {g c1 c2 c3 c4 c5 c6 c7 c8 c9 c10 c11 c12 c13 c14 c15 c16 c17 c18 c19 c20 c21 c22 c23 c24 : pm_C} {dyn : pm_H} {mTy : Int32} {mPa : Nat → Int32} {mTo : Nat → Int32} {mTm : Int32} {mMn : Int32} {mOt : Nat → Int32} {mNa : Nat → Int32} {mRe : Nat → Int32} {mMa : Nat → Int32} {mMy : Nat → Int32} {mPm : Nat → Int32} {mFn : Int32} {mFy : Nat → Int32} {mFa : Nat → Int32} {mFr : Nat → Int32} {mRn : Int32} {mFo : Nat → Int32} {mRt : Nat → Int32} {mRm : Nat → Int32} {mTn : Int32} {mTt : Nat → Int32} {mTi : Nat → Int32} {mPl : Nat → Int32} {mVn : Int32} {mVr : Nat → Int32} {mVf : Nat → Int32} {mVc : Nat → Int32} {mAr : Nat → Int32} {mLr : Int32} {mTc : Nat → Int32} {mTr : Int32} {mFl : Int32} {mFt : Nat → Int32} {mFm : Int32} {mFp : Int32} {mSc : Int32} {mMp : Int32} {mEn : Int32} {mGo : Nat → Int32} {Q : pm_Q} (t : Int32) (w : Int32) (f : Int32) (s : Int32) (p0 : 0 ≤ f.toInt ∧ f.toInt < 10) (p1 : 0 ≤ s.toInt ∧ s.toInt ≤ 1) (p2 : s.toInt ≤ (mFy f.toNatClampNeg).toInt ∧ (mFy f.toNatClampNeg).toInt ≤ 3) (p3 : paD mPa) (p4 : myD mMy) (p5 : vrD mMa mMy) (p6 : 0 ≤ mMn.toInt ∧ mMn.toInt ≤ 40) (k0 : ∀ (f9 : Nat → Int32), ∀ (m9 : Int32), ∀ (p9 : Int32), ∀ (r9 : Int32), (srM mPa mOt mNa mMy mPm mMa mFa mFy mMn t w f s p9 r9) → (ftM mPa mOt mNa mMy mPm mMa mFa mFy mMn t w f s p9 f9) → (m9.toInt = cF f9 mMn.toNatClampNeg) → ((-5 ≤ r9.toInt ∧ r9.toInt < mMn.toInt) ∧ (0 ≤ p9.toInt ∧ p9.toInt ≤ 3)) → Q (some (.int r9)) (hq g c1 c2 c3 c4 c5 c6 c7 c8 c9 c10 c11 c12 c13 c14 c15 c16 c17 c18 c19 c20 c21 c22 c23 c24 (hc25 mTy mTm mMn mFn mRn mTn mVn mLr mTr mFl m9 p9 mSc mMp mEn) (hc26 mPa) (hc27 mTo) (hc28 mOt) (hc29 mNa) (hc30 mRe) (hc31 mMa) (hc32 mMy) (hc33 mPm) (hc34 mFy) (hc35 mFa) (hc36 mFr) (hc37 mFo) (hc38 mRt) (hc39 mRm) (hc40 mTt) (hc41 mTi) (hc42 mPl) (hc43 mVr) (hc44 mVf) (hc45 mVc) (hc46 mAr) (hc47 mTc) (hc48 f9) (hc49 mGo) dyn)) : pm_WP 150 (0, [(0, .ref 25), (1, .int t), (2, .int w), (3, .int f), (4, .int s)], [], hq g c1 c2 c3 c4 c5 c6 c7 c8 c9 c10 c11 c12 c13 c14 c15 c16 c17 c18 c19 c20 c21 c22 c23 c24 (hc25 mTy mTm mMn mFn mRn mTn mVn mLr mTr mFl mFm mFp mSc mMp mEn) (hc26 mPa) (hc27 mTo) (hc28 mOt) (hc29 mNa) (hc30 mRe) (hc31 mMa) (hc32 mMy) (hc33 mPm) (hc34 mFy) (hc35 mFa) (hc36 mFr) (hc37 mFo) (hc38 mRt) (hc39 mRm) (hc40 mTt) (hc41 mTi) (hc42 mPl) (hc43 mVr) (hc44 mVf) (hc45 mVc) (hc46 mAr) (hc47 mTc) (hc48 mFt) (hc49 mGo) dyn, 0, 0) Q := by
  have z1 : (1 : Int32).toInt = 1 := by decide
  have z2 : (2 : Int32).toInt = 2 := by decide
  have z3 : (3 : Int32).toInt = 3 := by decide
  have z4 : (4 : Int32).toInt = 4 := by decide
  have z0 : (0 : Int32).toInt = 0 := by decide
  refine pm_go (g := (1, [(0, .ref 25), (1, .int t), (2, .int w), (3, .int f), (4, .int s)], [.ref 25], hq g c1 c2 c3 c4 c5 c6 c7 c8 c9 c10 c11 c12 c13 c14 c15 c16 c17 c18 c19 c20 c21 c22 c23 c24 (hc25 mTy mTm mMn mFn mRn mTn mVn mLr mTr mFl mFm mFp mSc mMp mEn) (hc26 mPa) (hc27 mTo) (hc28 mOt) (hc29 mNa) (hc30 mRe) (hc31 mMa) (hc32 mMy) (hc33 mPm) (hc34 mFy) (hc35 mFa) (hc36 mFr) (hc37 mFo) (hc38 mRt) (hc39 mRm) (hc40 mTt) (hc41 mTi) (hc42 mPl) (hc43 mVr) (hc44 mVf) (hc45 mVc) (hc46 mAr) (hc47 mTc) (hc48 mFt) (hc49 mGo) dyn, 0, 0)) rfl ?_
  refine pm_callD (z := 151) (as := [.ref 25]) (rest := []) rfl ?_
  refine w_X12_nothingFits  (fun v1_f9 h1 => ?_)
  show pm_WP 150 (4, [(0, .ref 25), (1, .int t), (2, .int w), (3, .int f), (4, .int s)], [], _, 0, 0) _
  refine pm_go (g := (5, _, [.int 1], _, 0, 0)) rfl ?_
  refine pm_go (g := (7, [(5, .int 1), (0, .ref 25), (1, .int t), (2, .int w), (3, .int f), (4, .int s)], [], _, 0, 0)) rfl ?_
  refine pm_go (g := (9, _, [.int 1], _, 0, 0)) rfl ?_
  refine pm_go (g := (10, _, [.int 3, .int 1], _, 0, 0)) rfl ?_
  refine pm_brF (h := (13, [(5, .int 1), (0, .ref 25), (1, .int t), (2, .int w), (3, .int f), (4, .int s)], [], hq g c1 c2 c3 c4 c5 c6 c7 c8 c9 c10 c11 c12 c13 c14 c15 c16 c17 c18 c19 c20 c21 c22 c23 c24 (hc25 mTy mTm mMn mFn mRn mTn mVn mLr mTr mFl 0 0 mSc mMp mEn) (hc26 mPa) (hc27 mTo) (hc28 mOt) (hc29 mNa) (hc30 mRe) (hc31 mMa) (hc32 mMy) (hc33 mPm) (hc34 mFy) (hc35 mFa) (hc36 mFr) (hc37 mFo) (hc38 mRt) (hc39 mRm) (hc40 mTt) (hc41 mTi) (hc42 mPl) (hc43 mVr) (hc44 mVf) (hc45 mVc) (hc46 mAr) (hc47 mTc) (hc48 v1_f9) (hc49 mGo) dyn, 0, 0)) rfl ?_
  refine pm_go (g := (14, _, [.ref 25], _, 0, 0)) rfl ?_
  refine pm_go (g := (17, _, [.int 0], _, 0, 0)) rfl ?_
  refine pm_brF (h := (20, [(5, .int 1), (0, .ref 25), (1, .int t), (2, .int w), (3, .int f), (4, .int s)], [], hq g c1 c2 c3 c4 c5 c6 c7 c8 c9 c10 c11 c12 c13 c14 c15 c16 c17 c18 c19 c20 c21 c22 c23 c24 (hc25 mTy mTm mMn mFn mRn mTn mVn mLr mTr mFl 0 0 mSc mMp mEn) (hc26 mPa) (hc27 mTo) (hc28 mOt) (hc29 mNa) (hc30 mRe) (hc31 mMa) (hc32 mMy) (hc33 mPm) (hc34 mFy) (hc35 mFa) (hc36 mFr) (hc37 mFo) (hc38 mRt) (hc39 mRm) (hc40 mTt) (hc41 mTi) (hc42 mPl) (hc43 mVr) (hc44 mVf) (hc45 mVc) (hc46 mAr) (hc47 mTc) (hc48 v1_f9) (hc49 mGo) dyn, 0, 0)) rfl ?_
  refine pm_go (g := (21, _, [.int 0], _, 0, 0)) rfl ?_
  refine pm_go (g := (23, [(6, .int 0), (5, .int 1), (0, .ref 25), (1, .int t), (2, .int w), (3, .int f), (4, .int s)], [], _, 0, 0)) rfl ?_
  refine pm_sub (lv := [(6, .int 0), (5, .int 1), (0, .ref 25), (1, .int t), (2, .int w), (3, .int f), (4, .int s)]) ?_ ⟨le_c (List.Mem.head _) (le_c (List.Mem.tail _ (List.Mem.head _)) (le_c (List.Mem.tail _ (List.Mem.tail _ (List.Mem.head _))) (le_c (List.Mem.tail _ (List.Mem.tail _ (List.Mem.tail _ (List.Mem.head _)))) (le_c (List.Mem.tail _ (List.Mem.tail _ (List.Mem.tail _ (List.Mem.tail _ (List.Mem.head _))))) (le_c (List.Mem.tail _ (List.Mem.tail _ (List.Mem.tail _ (List.Mem.tail _ (List.Mem.tail _ (List.Mem.head _)))))) (le_c (List.Mem.tail _ (List.Mem.tail _ (List.Mem.tail _ (List.Mem.tail _ (List.Mem.tail _ (List.Mem.tail _ (List.Mem.head _))))))) le_n)))))), (show ([6, 5, 0, 1, 2, 3, 4] : List Nat).Nodup by decide)⟩
  refine w_searched_phase (mFm := mFm) (mFt := mFt) t w f s 1 p0 p1 p2 (by omega) p3 p4 p5 p6 41 0 v1_f9 0 (by omega) (by omega) (fun j q => absurd q (Nat.not_lt_zero j)) (by first | rfl | (show _ = (0 : Int); omega)) (fun f_1 w_1 hX1 hC1 => ?_)
  show pm_WP 150 (109, [(5, .int 1), (0, .ref 25), (1, .int t), (2, .int w), (3, .int f), (4, .int s)], [], _, 0, 0) _
  have hb1 := cF_b f_1 mMn.toNatClampNeg
  refine pm_go (g := (110, _, [.ref 25], _, 0, 0)) rfl ?_
  refine pm_go (g := (111, _, [.ref 25, .ref 25], _, 0, 0)) rfl ?_
  refine pm_go (g := (114, _, [.int w_1, .ref 25], _, 0, 0)) rfl ?_
  refine pm_if2 (g := (122, [(5, .int 1), (0, .ref 25), (1, .int t), (2, .int w), (3, .int f), (4, .int s)], [.ref 25], hq g c1 c2 c3 c4 c5 c6 c7 c8 c9 c10 c11 c12 c13 c14 c15 c16 c17 c18 c19 c20 c21 c22 c23 c24 (hc25 mTy mTm mMn mFn mRn mTn mVn mLr mTr mFl w_1 0 mSc mMp mEn) (hc26 mPa) (hc27 mTo) (hc28 mOt) (hc29 mNa) (hc30 mRe) (hc31 mMa) (hc32 mMy) (hc33 mPm) (hc34 mFy) (hc35 mFa) (hc36 mFr) (hc37 mFo) (hc38 mRt) (hc39 mRm) (hc40 mTt) (hc41 mTi) (hc42 mPl) (hc43 mVr) (hc44 mVf) (hc45 mVc) (hc46 mAr) (hc47 mTc) (hc48 f_1) (hc49 mGo) dyn, 0, 0)) (h := (117, [(5, .int 1), (0, .ref 25), (1, .int t), (2, .int w), (3, .int f), (4, .int s)], [.ref 25], hq g c1 c2 c3 c4 c5 c6 c7 c8 c9 c10 c11 c12 c13 c14 c15 c16 c17 c18 c19 c20 c21 c22 c23 c24 (hc25 mTy mTm mMn mFn mRn mTn mVn mLr mTr mFl w_1 0 mSc mMp mEn) (hc26 mPa) (hc27 mTo) (hc28 mOt) (hc29 mNa) (hc30 mRe) (hc31 mMa) (hc32 mMy) (hc33 mPm) (hc34 mFy) (hc35 mFa) (hc36 mFr) (hc37 mFo) (hc38 mRt) (hc39 mRm) (hc40 mTt) (hc41 mTi) (hc42 mPl) (hc43 mVr) (hc44 mVf) (hc45 mVc) (hc46 mAr) (hc47 mTc) (hc48 f_1) (hc49 mGo) dyn, 0, 0)) rfl (fun h3 => ?_) (fun h3 => ?_)
  ·
    have h3 := qT_le (cx := (w_1).toInt) (cy := 0) rfl (by decide) h3
    refine pm_go (g := (123, _, [.int 0, .ref 25], _, 0, 0)) rfl ?_
    refine pm_go (g := (126, _, [], _, 0, 0)) rfl ?_
    refine pm_go (g := (129, [(5, .int 2), (0, .ref 25), (1, .int t), (2, .int w), (3, .int f), (4, .int s)], [], _, 0, 0)) rfl ?_
    refine pm_go (g := (7, _, [], _, 0, 0)) rfl ?_
    refine pm_go (g := (9, _, [.int 2], _, 0, 0)) rfl ?_
    refine pm_go (g := (10, _, [.int 3, .int 2], _, 0, 0)) rfl ?_
    refine pm_brF (h := (13, [(5, .int 2), (0, .ref 25), (1, .int t), (2, .int w), (3, .int f), (4, .int s)], [], hq g c1 c2 c3 c4 c5 c6 c7 c8 c9 c10 c11 c12 c13 c14 c15 c16 c17 c18 c19 c20 c21 c22 c23 c24 (hc25 mTy mTm mMn mFn mRn mTn mVn mLr mTr mFl w_1 0 mSc mMp mEn) (hc26 mPa) (hc27 mTo) (hc28 mOt) (hc29 mNa) (hc30 mRe) (hc31 mMa) (hc32 mMy) (hc33 mPm) (hc34 mFy) (hc35 mFa) (hc36 mFr) (hc37 mFo) (hc38 mRt) (hc39 mRm) (hc40 mTt) (hc41 mTi) (hc42 mPl) (hc43 mVr) (hc44 mVf) (hc45 mVc) (hc46 mAr) (hc47 mTc) (hc48 f_1) (hc49 mGo) dyn, 0, 0)) rfl ?_
    refine pm_go (g := (14, _, [.ref 25], _, 0, 0)) rfl ?_
    refine pm_go (g := (17, _, [.int w_1], _, 0, 0)) rfl ?_
    refine pm_if2 (g := (132, [(5, .int 2), (0, .ref 25), (1, .int t), (2, .int w), (3, .int f), (4, .int s)], [], hq g c1 c2 c3 c4 c5 c6 c7 c8 c9 c10 c11 c12 c13 c14 c15 c16 c17 c18 c19 c20 c21 c22 c23 c24 (hc25 mTy mTm mMn mFn mRn mTn mVn mLr mTr mFl w_1 0 mSc mMp mEn) (hc26 mPa) (hc27 mTo) (hc28 mOt) (hc29 mNa) (hc30 mRe) (hc31 mMa) (hc32 mMy) (hc33 mPm) (hc34 mFy) (hc35 mFa) (hc36 mFr) (hc37 mFo) (hc38 mRt) (hc39 mRm) (hc40 mTt) (hc41 mTi) (hc42 mPl) (hc43 mVr) (hc44 mVf) (hc45 mVc) (hc46 mAr) (hc47 mTc) (hc48 f_1) (hc49 mGo) dyn, 0, 0)) (h := (20, [(5, .int 2), (0, .ref 25), (1, .int t), (2, .int w), (3, .int f), (4, .int s)], [], hq g c1 c2 c3 c4 c5 c6 c7 c8 c9 c10 c11 c12 c13 c14 c15 c16 c17 c18 c19 c20 c21 c22 c23 c24 (hc25 mTy mTm mMn mFn mRn mTn mVn mLr mTr mFl w_1 0 mSc mMp mEn) (hc26 mPa) (hc27 mTo) (hc28 mOt) (hc29 mNa) (hc30 mRe) (hc31 mMa) (hc32 mMy) (hc33 mPm) (hc34 mFy) (hc35 mFa) (hc36 mFr) (hc37 mFo) (hc38 mRt) (hc39 mRm) (hc40 mTt) (hc41 mTi) (hc42 mPl) (hc43 mVr) (hc44 mVf) (hc45 mVc) (hc46 mAr) (hc47 mTc) (hc48 f_1) (hc49 mGo) dyn, 0, 0)) rfl (fun h4 => ?_) (fun h4 => ?_)
    ·
      have h4 := qT_ne (cx := (w_1).toInt) (cy := 0) rfl (by decide) h4
      refine pm_go (g := (133, _, [.ref 25], _, 0, 0)) rfl ?_
      refine pm_go (g := (136, _, [.int w_1], _, 0, 0)) rfl ?_
      refine pm_if2 (g := (142, [(5, .int 2), (0, .ref 25), (1, .int t), (2, .int w), (3, .int f), (4, .int s)], [], hq g c1 c2 c3 c4 c5 c6 c7 c8 c9 c10 c11 c12 c13 c14 c15 c16 c17 c18 c19 c20 c21 c22 c23 c24 (hc25 mTy mTm mMn mFn mRn mTn mVn mLr mTr mFl w_1 0 mSc mMp mEn) (hc26 mPa) (hc27 mTo) (hc28 mOt) (hc29 mNa) (hc30 mRe) (hc31 mMa) (hc32 mMy) (hc33 mPm) (hc34 mFy) (hc35 mFa) (hc36 mFr) (hc37 mFo) (hc38 mRt) (hc39 mRm) (hc40 mTt) (hc41 mTi) (hc42 mPl) (hc43 mVr) (hc44 mVf) (hc45 mVc) (hc46 mAr) (hc47 mTc) (hc48 f_1) (hc49 mGo) dyn, 0, 0)) (h := (139, [(5, .int 2), (0, .ref 25), (1, .int t), (2, .int w), (3, .int f), (4, .int s)], [], hq g c1 c2 c3 c4 c5 c6 c7 c8 c9 c10 c11 c12 c13 c14 c15 c16 c17 c18 c19 c20 c21 c22 c23 c24 (hc25 mTy mTm mMn mFn mRn mTn mVn mLr mTr mFl w_1 0 mSc mMp mEn) (hc26 mPa) (hc27 mTo) (hc28 mOt) (hc29 mNa) (hc30 mRe) (hc31 mMa) (hc32 mMy) (hc33 mPm) (hc34 mFy) (hc35 mFa) (hc36 mFr) (hc37 mFo) (hc38 mRt) (hc39 mRm) (hc40 mTt) (hc41 mTi) (hc42 mPl) (hc43 mVr) (hc44 mVf) (hc45 mVc) (hc46 mAr) (hc47 mTc) (hc48 f_1) (hc49 mGo) dyn, 0, 0)) rfl (fun h5 => ?_) (fun h5 => ?_)
      ·
        have h5 := qT_ne (cx := (w_1).toInt) (cy := 0) rfl (by decide) h5
        refine pm_go (g := (144, _, [.int (-4)], _, 0, 0)) rfl ?_
        refine pm_go (g := (146, [(5, .int (-4)), (0, .ref 25), (1, .int t), (2, .int w), (3, .int f), (4, .int s)], [], _, 0, 0)) rfl ?_
        refine pm_go (g := (147, _, [.int 0], _, 0, 0)) rfl ?_
        refine pm_go (g := (149, [(6, .int 0), (5, .int (-4)), (0, .ref 25), (1, .int t), (2, .int w), (3, .int f), (4, .int s)], [], _, 0, 0)) rfl ?_
        refine pm_go (g := (150, _, [.int 0], _, 0, 0)) rfl ?_
        refine pm_go (g := (152, [(7, .int 0), (6, .int 0), (5, .int (-4)), (0, .ref 25), (1, .int t), (2, .int w), (3, .int f), (4, .int s)], [], _, 0, 0)) rfl ?_
        exfalso; omega
      have h5 := qF_ne (cx := (w_1).toInt) (cy := 0) rfl (by decide) h5
      refine pm_go (g := (141, [(5, .int 2), (0, .ref 25), (1, .int t), (2, .int w), (3, .int f), (4, .int s)], [.int (-4)], _, 0, 0)) rfl ?_
      exfalso; omega
    have h4 := qF_ne (cx := (w_1).toInt) (cy := 0) rfl (by decide) h4
    refine pm_go (g := (21, _, [.int 0], _, 0, 0)) rfl ?_
    refine pm_go (g := (23, [(6, .int 0), (5, .int 2), (0, .ref 25), (1, .int t), (2, .int w), (3, .int f), (4, .int s)], [], _, 0, 0)) rfl ?_
    refine pm_sub (lv := [(6, .int 0), (5, .int 2), (0, .ref 25), (1, .int t), (2, .int w), (3, .int f), (4, .int s)]) ?_ ⟨le_c (List.Mem.head _) (le_c (List.Mem.tail _ (List.Mem.head _)) (le_c (List.Mem.tail _ (List.Mem.tail _ (List.Mem.head _))) (le_c (List.Mem.tail _ (List.Mem.tail _ (List.Mem.tail _ (List.Mem.head _)))) (le_c (List.Mem.tail _ (List.Mem.tail _ (List.Mem.tail _ (List.Mem.tail _ (List.Mem.head _))))) (le_c (List.Mem.tail _ (List.Mem.tail _ (List.Mem.tail _ (List.Mem.tail _ (List.Mem.tail _ (List.Mem.head _)))))) (le_c (List.Mem.tail _ (List.Mem.tail _ (List.Mem.tail _ (List.Mem.tail _ (List.Mem.tail _ (List.Mem.tail _ (List.Mem.head _))))))) le_n)))))), (show ([6, 5, 0, 1, 2, 3, 4] : List Nat).Nodup by decide)⟩
    refine w_searched_phase (mFm := mFm) (mFt := mFt) t w f s 2 p0 p1 p2 (by omega) p3 p4 p5 p6 41 0 f_1 w_1 (by omega) (by omega) (fun j q => absurd q (Nat.not_lt_zero j)) (by first | rfl | (show _ = (0 : Int); omega)) (fun f_2 w_2 hX2 hC2 => ?_)
    show pm_WP 150 (109, [(5, .int 2), (0, .ref 25), (1, .int t), (2, .int w), (3, .int f), (4, .int s)], [], _, 0, 0) _
    have hb2 := cF_b f_2 mMn.toNatClampNeg
    refine pm_go (g := (110, _, [.ref 25], _, 0, 0)) rfl ?_
    refine pm_go (g := (111, _, [.ref 25, .ref 25], _, 0, 0)) rfl ?_
    refine pm_go (g := (114, _, [.int w_2, .ref 25], _, 0, 0)) rfl ?_
    refine pm_if2 (g := (122, [(5, .int 2), (0, .ref 25), (1, .int t), (2, .int w), (3, .int f), (4, .int s)], [.ref 25], hq g c1 c2 c3 c4 c5 c6 c7 c8 c9 c10 c11 c12 c13 c14 c15 c16 c17 c18 c19 c20 c21 c22 c23 c24 (hc25 mTy mTm mMn mFn mRn mTn mVn mLr mTr mFl w_2 0 mSc mMp mEn) (hc26 mPa) (hc27 mTo) (hc28 mOt) (hc29 mNa) (hc30 mRe) (hc31 mMa) (hc32 mMy) (hc33 mPm) (hc34 mFy) (hc35 mFa) (hc36 mFr) (hc37 mFo) (hc38 mRt) (hc39 mRm) (hc40 mTt) (hc41 mTi) (hc42 mPl) (hc43 mVr) (hc44 mVf) (hc45 mVc) (hc46 mAr) (hc47 mTc) (hc48 f_2) (hc49 mGo) dyn, 0, 0)) (h := (117, [(5, .int 2), (0, .ref 25), (1, .int t), (2, .int w), (3, .int f), (4, .int s)], [.ref 25], hq g c1 c2 c3 c4 c5 c6 c7 c8 c9 c10 c11 c12 c13 c14 c15 c16 c17 c18 c19 c20 c21 c22 c23 c24 (hc25 mTy mTm mMn mFn mRn mTn mVn mLr mTr mFl w_2 0 mSc mMp mEn) (hc26 mPa) (hc27 mTo) (hc28 mOt) (hc29 mNa) (hc30 mRe) (hc31 mMa) (hc32 mMy) (hc33 mPm) (hc34 mFy) (hc35 mFa) (hc36 mFr) (hc37 mFo) (hc38 mRt) (hc39 mRm) (hc40 mTt) (hc41 mTi) (hc42 mPl) (hc43 mVr) (hc44 mVf) (hc45 mVc) (hc46 mAr) (hc47 mTc) (hc48 f_2) (hc49 mGo) dyn, 0, 0)) rfl (fun h6 => ?_) (fun h6 => ?_)
    ·
      have h6 := qT_le (cx := (w_2).toInt) (cy := 0) rfl (by decide) h6
      refine pm_go (g := (123, _, [.int 0, .ref 25], _, 0, 0)) rfl ?_
      refine pm_go (g := (126, _, [], _, 0, 0)) rfl ?_
      refine pm_go (g := (129, [(5, .int 3), (0, .ref 25), (1, .int t), (2, .int w), (3, .int f), (4, .int s)], [], _, 0, 0)) rfl ?_
      refine pm_go (g := (7, _, [], _, 0, 0)) rfl ?_
      refine pm_go (g := (9, _, [.int 3], _, 0, 0)) rfl ?_
      refine pm_go (g := (10, _, [.int 3, .int 3], _, 0, 0)) rfl ?_
      refine pm_brF (h := (13, [(5, .int 3), (0, .ref 25), (1, .int t), (2, .int w), (3, .int f), (4, .int s)], [], hq g c1 c2 c3 c4 c5 c6 c7 c8 c9 c10 c11 c12 c13 c14 c15 c16 c17 c18 c19 c20 c21 c22 c23 c24 (hc25 mTy mTm mMn mFn mRn mTn mVn mLr mTr mFl w_2 0 mSc mMp mEn) (hc26 mPa) (hc27 mTo) (hc28 mOt) (hc29 mNa) (hc30 mRe) (hc31 mMa) (hc32 mMy) (hc33 mPm) (hc34 mFy) (hc35 mFa) (hc36 mFr) (hc37 mFo) (hc38 mRt) (hc39 mRm) (hc40 mTt) (hc41 mTi) (hc42 mPl) (hc43 mVr) (hc44 mVf) (hc45 mVc) (hc46 mAr) (hc47 mTc) (hc48 f_2) (hc49 mGo) dyn, 0, 0)) rfl ?_
      refine pm_go (g := (14, _, [.ref 25], _, 0, 0)) rfl ?_
      refine pm_go (g := (17, _, [.int w_2], _, 0, 0)) rfl ?_
      refine pm_if2 (g := (132, [(5, .int 3), (0, .ref 25), (1, .int t), (2, .int w), (3, .int f), (4, .int s)], [], hq g c1 c2 c3 c4 c5 c6 c7 c8 c9 c10 c11 c12 c13 c14 c15 c16 c17 c18 c19 c20 c21 c22 c23 c24 (hc25 mTy mTm mMn mFn mRn mTn mVn mLr mTr mFl w_2 0 mSc mMp mEn) (hc26 mPa) (hc27 mTo) (hc28 mOt) (hc29 mNa) (hc30 mRe) (hc31 mMa) (hc32 mMy) (hc33 mPm) (hc34 mFy) (hc35 mFa) (hc36 mFr) (hc37 mFo) (hc38 mRt) (hc39 mRm) (hc40 mTt) (hc41 mTi) (hc42 mPl) (hc43 mVr) (hc44 mVf) (hc45 mVc) (hc46 mAr) (hc47 mTc) (hc48 f_2) (hc49 mGo) dyn, 0, 0)) (h := (20, [(5, .int 3), (0, .ref 25), (1, .int t), (2, .int w), (3, .int f), (4, .int s)], [], hq g c1 c2 c3 c4 c5 c6 c7 c8 c9 c10 c11 c12 c13 c14 c15 c16 c17 c18 c19 c20 c21 c22 c23 c24 (hc25 mTy mTm mMn mFn mRn mTn mVn mLr mTr mFl w_2 0 mSc mMp mEn) (hc26 mPa) (hc27 mTo) (hc28 mOt) (hc29 mNa) (hc30 mRe) (hc31 mMa) (hc32 mMy) (hc33 mPm) (hc34 mFy) (hc35 mFa) (hc36 mFr) (hc37 mFo) (hc38 mRt) (hc39 mRm) (hc40 mTt) (hc41 mTi) (hc42 mPl) (hc43 mVr) (hc44 mVf) (hc45 mVc) (hc46 mAr) (hc47 mTc) (hc48 f_2) (hc49 mGo) dyn, 0, 0)) rfl (fun h7 => ?_) (fun h7 => ?_)
      ·
        have h7 := qT_ne (cx := (w_2).toInt) (cy := 0) rfl (by decide) h7
        refine pm_go (g := (133, _, [.ref 25], _, 0, 0)) rfl ?_
        refine pm_go (g := (136, _, [.int w_2], _, 0, 0)) rfl ?_
        refine pm_if2 (g := (142, [(5, .int 3), (0, .ref 25), (1, .int t), (2, .int w), (3, .int f), (4, .int s)], [], hq g c1 c2 c3 c4 c5 c6 c7 c8 c9 c10 c11 c12 c13 c14 c15 c16 c17 c18 c19 c20 c21 c22 c23 c24 (hc25 mTy mTm mMn mFn mRn mTn mVn mLr mTr mFl w_2 0 mSc mMp mEn) (hc26 mPa) (hc27 mTo) (hc28 mOt) (hc29 mNa) (hc30 mRe) (hc31 mMa) (hc32 mMy) (hc33 mPm) (hc34 mFy) (hc35 mFa) (hc36 mFr) (hc37 mFo) (hc38 mRt) (hc39 mRm) (hc40 mTt) (hc41 mTi) (hc42 mPl) (hc43 mVr) (hc44 mVf) (hc45 mVc) (hc46 mAr) (hc47 mTc) (hc48 f_2) (hc49 mGo) dyn, 0, 0)) (h := (139, [(5, .int 3), (0, .ref 25), (1, .int t), (2, .int w), (3, .int f), (4, .int s)], [], hq g c1 c2 c3 c4 c5 c6 c7 c8 c9 c10 c11 c12 c13 c14 c15 c16 c17 c18 c19 c20 c21 c22 c23 c24 (hc25 mTy mTm mMn mFn mRn mTn mVn mLr mTr mFl w_2 0 mSc mMp mEn) (hc26 mPa) (hc27 mTo) (hc28 mOt) (hc29 mNa) (hc30 mRe) (hc31 mMa) (hc32 mMy) (hc33 mPm) (hc34 mFy) (hc35 mFa) (hc36 mFr) (hc37 mFo) (hc38 mRt) (hc39 mRm) (hc40 mTt) (hc41 mTi) (hc42 mPl) (hc43 mVr) (hc44 mVf) (hc45 mVc) (hc46 mAr) (hc47 mTc) (hc48 f_2) (hc49 mGo) dyn, 0, 0)) rfl (fun h8 => ?_) (fun h8 => ?_)
        ·
          have h8 := qT_ne (cx := (w_2).toInt) (cy := 0) rfl (by decide) h8
          refine pm_go (g := (144, _, [.int (-4)], _, 0, 0)) rfl ?_
          refine pm_go (g := (146, [(5, .int (-4)), (0, .ref 25), (1, .int t), (2, .int w), (3, .int f), (4, .int s)], [], _, 0, 0)) rfl ?_
          refine pm_go (g := (147, _, [.int 0], _, 0, 0)) rfl ?_
          refine pm_go (g := (149, [(6, .int 0), (5, .int (-4)), (0, .ref 25), (1, .int t), (2, .int w), (3, .int f), (4, .int s)], [], _, 0, 0)) rfl ?_
          refine pm_go (g := (150, _, [.int 0], _, 0, 0)) rfl ?_
          refine pm_go (g := (152, [(7, .int 0), (6, .int 0), (5, .int (-4)), (0, .ref 25), (1, .int t), (2, .int w), (3, .int f), (4, .int s)], [], _, 0, 0)) rfl ?_
          exfalso; omega
        have h8 := qF_ne (cx := (w_2).toInt) (cy := 0) rfl (by decide) h8
        refine pm_go (g := (141, [(5, .int 3), (0, .ref 25), (1, .int t), (2, .int w), (3, .int f), (4, .int s)], [.int (-4)], _, 0, 0)) rfl ?_
        exfalso; omega
      have h7 := qF_ne (cx := (w_2).toInt) (cy := 0) rfl (by decide) h7
      refine pm_go (g := (21, _, [.int 0], _, 0, 0)) rfl ?_
      refine pm_go (g := (23, [(6, .int 0), (5, .int 3), (0, .ref 25), (1, .int t), (2, .int w), (3, .int f), (4, .int s)], [], _, 0, 0)) rfl ?_
      refine pm_sub (lv := [(6, .int 0), (5, .int 3), (0, .ref 25), (1, .int t), (2, .int w), (3, .int f), (4, .int s)]) ?_ ⟨le_c (List.Mem.head _) (le_c (List.Mem.tail _ (List.Mem.head _)) (le_c (List.Mem.tail _ (List.Mem.tail _ (List.Mem.head _))) (le_c (List.Mem.tail _ (List.Mem.tail _ (List.Mem.tail _ (List.Mem.head _)))) (le_c (List.Mem.tail _ (List.Mem.tail _ (List.Mem.tail _ (List.Mem.tail _ (List.Mem.head _))))) (le_c (List.Mem.tail _ (List.Mem.tail _ (List.Mem.tail _ (List.Mem.tail _ (List.Mem.tail _ (List.Mem.head _)))))) (le_c (List.Mem.tail _ (List.Mem.tail _ (List.Mem.tail _ (List.Mem.tail _ (List.Mem.tail _ (List.Mem.tail _ (List.Mem.head _))))))) le_n)))))), (show ([6, 5, 0, 1, 2, 3, 4] : List Nat).Nodup by decide)⟩
      refine w_searched_phase (mFm := mFm) (mFt := mFt) t w f s 3 p0 p1 p2 (by omega) p3 p4 p5 p6 41 0 f_2 w_2 (by omega) (by omega) (fun j q => absurd q (Nat.not_lt_zero j)) (by first | rfl | (show _ = (0 : Int); omega)) (fun f_3 w_3 hX3 hC3 => ?_)
      show pm_WP 150 (109, [(5, .int 3), (0, .ref 25), (1, .int t), (2, .int w), (3, .int f), (4, .int s)], [], _, 0, 0) _
      have hb3 := cF_b f_3 mMn.toNatClampNeg
      refine pm_go (g := (110, _, [.ref 25], _, 0, 0)) rfl ?_
      refine pm_go (g := (111, _, [.ref 25, .ref 25], _, 0, 0)) rfl ?_
      refine pm_go (g := (114, _, [.int w_3, .ref 25], _, 0, 0)) rfl ?_
      refine pm_if2 (g := (122, [(5, .int 3), (0, .ref 25), (1, .int t), (2, .int w), (3, .int f), (4, .int s)], [.ref 25], hq g c1 c2 c3 c4 c5 c6 c7 c8 c9 c10 c11 c12 c13 c14 c15 c16 c17 c18 c19 c20 c21 c22 c23 c24 (hc25 mTy mTm mMn mFn mRn mTn mVn mLr mTr mFl w_3 0 mSc mMp mEn) (hc26 mPa) (hc27 mTo) (hc28 mOt) (hc29 mNa) (hc30 mRe) (hc31 mMa) (hc32 mMy) (hc33 mPm) (hc34 mFy) (hc35 mFa) (hc36 mFr) (hc37 mFo) (hc38 mRt) (hc39 mRm) (hc40 mTt) (hc41 mTi) (hc42 mPl) (hc43 mVr) (hc44 mVf) (hc45 mVc) (hc46 mAr) (hc47 mTc) (hc48 f_3) (hc49 mGo) dyn, 0, 0)) (h := (117, [(5, .int 3), (0, .ref 25), (1, .int t), (2, .int w), (3, .int f), (4, .int s)], [.ref 25], hq g c1 c2 c3 c4 c5 c6 c7 c8 c9 c10 c11 c12 c13 c14 c15 c16 c17 c18 c19 c20 c21 c22 c23 c24 (hc25 mTy mTm mMn mFn mRn mTn mVn mLr mTr mFl w_3 0 mSc mMp mEn) (hc26 mPa) (hc27 mTo) (hc28 mOt) (hc29 mNa) (hc30 mRe) (hc31 mMa) (hc32 mMy) (hc33 mPm) (hc34 mFy) (hc35 mFa) (hc36 mFr) (hc37 mFo) (hc38 mRt) (hc39 mRm) (hc40 mTt) (hc41 mTi) (hc42 mPl) (hc43 mVr) (hc44 mVf) (hc45 mVc) (hc46 mAr) (hc47 mTc) (hc48 f_3) (hc49 mGo) dyn, 0, 0)) rfl (fun h9 => ?_) (fun h9 => ?_)
      ·
        have h9 := qT_le (cx := (w_3).toInt) (cy := 0) rfl (by decide) h9
        refine pm_go (g := (123, _, [.int 0, .ref 25], _, 0, 0)) rfl ?_
        refine pm_go (g := (126, _, [], _, 0, 0)) rfl ?_
        refine pm_go (g := (129, [(5, .int 4), (0, .ref 25), (1, .int t), (2, .int w), (3, .int f), (4, .int s)], [], _, 0, 0)) rfl ?_
        refine pm_go (g := (7, _, [], _, 0, 0)) rfl ?_
        refine pm_go (g := (9, _, [.int 4], _, 0, 0)) rfl ?_
        refine pm_go (g := (10, _, [.int 3, .int 4], _, 0, 0)) rfl ?_
        refine pm_brT (g := (132, [(5, .int 4), (0, .ref 25), (1, .int t), (2, .int w), (3, .int f), (4, .int s)], [], hq g c1 c2 c3 c4 c5 c6 c7 c8 c9 c10 c11 c12 c13 c14 c15 c16 c17 c18 c19 c20 c21 c22 c23 c24 (hc25 mTy mTm mMn mFn mRn mTn mVn mLr mTr mFl w_3 0 mSc mMp mEn) (hc26 mPa) (hc27 mTo) (hc28 mOt) (hc29 mNa) (hc30 mRe) (hc31 mMa) (hc32 mMy) (hc33 mPm) (hc34 mFy) (hc35 mFa) (hc36 mFr) (hc37 mFo) (hc38 mRt) (hc39 mRm) (hc40 mTt) (hc41 mTi) (hc42 mPl) (hc43 mVr) (hc44 mVf) (hc45 mVc) (hc46 mAr) (hc47 mTc) (hc48 f_3) (hc49 mGo) dyn, 0, 0)) rfl ?_
        refine pm_go (g := (133, _, [.ref 25], _, 0, 0)) rfl ?_
        refine pm_go (g := (136, _, [.int w_3], _, 0, 0)) rfl ?_
        refine pm_if2 (g := (142, [(5, .int 4), (0, .ref 25), (1, .int t), (2, .int w), (3, .int f), (4, .int s)], [], hq g c1 c2 c3 c4 c5 c6 c7 c8 c9 c10 c11 c12 c13 c14 c15 c16 c17 c18 c19 c20 c21 c22 c23 c24 (hc25 mTy mTm mMn mFn mRn mTn mVn mLr mTr mFl w_3 0 mSc mMp mEn) (hc26 mPa) (hc27 mTo) (hc28 mOt) (hc29 mNa) (hc30 mRe) (hc31 mMa) (hc32 mMy) (hc33 mPm) (hc34 mFy) (hc35 mFa) (hc36 mFr) (hc37 mFo) (hc38 mRt) (hc39 mRm) (hc40 mTt) (hc41 mTi) (hc42 mPl) (hc43 mVr) (hc44 mVf) (hc45 mVc) (hc46 mAr) (hc47 mTc) (hc48 f_3) (hc49 mGo) dyn, 0, 0)) (h := (139, [(5, .int 4), (0, .ref 25), (1, .int t), (2, .int w), (3, .int f), (4, .int s)], [], hq g c1 c2 c3 c4 c5 c6 c7 c8 c9 c10 c11 c12 c13 c14 c15 c16 c17 c18 c19 c20 c21 c22 c23 c24 (hc25 mTy mTm mMn mFn mRn mTn mVn mLr mTr mFl w_3 0 mSc mMp mEn) (hc26 mPa) (hc27 mTo) (hc28 mOt) (hc29 mNa) (hc30 mRe) (hc31 mMa) (hc32 mMy) (hc33 mPm) (hc34 mFy) (hc35 mFa) (hc36 mFr) (hc37 mFo) (hc38 mRt) (hc39 mRm) (hc40 mTt) (hc41 mTi) (hc42 mPl) (hc43 mVr) (hc44 mVf) (hc45 mVc) (hc46 mAr) (hc47 mTc) (hc48 f_3) (hc49 mGo) dyn, 0, 0)) rfl (fun h10 => ?_) (fun h10 => ?_)
        ·
          have h10 := qT_ne (cx := (w_3).toInt) (cy := 0) rfl (by decide) h10
          refine pm_go (g := (144, _, [.int (-4)], _, 0, 0)) rfl ?_
          refine pm_go (g := (146, [(5, .int (-4)), (0, .ref 25), (1, .int t), (2, .int w), (3, .int f), (4, .int s)], [], _, 0, 0)) rfl ?_
          refine pm_go (g := (147, _, [.int 0], _, 0, 0)) rfl ?_
          refine pm_go (g := (149, [(6, .int 0), (5, .int (-4)), (0, .ref 25), (1, .int t), (2, .int w), (3, .int f), (4, .int s)], [], _, 0, 0)) rfl ?_
          refine pm_go (g := (150, _, [.int 0], _, 0, 0)) rfl ?_
          refine pm_go (g := (152, [(7, .int 0), (6, .int 0), (5, .int (-4)), (0, .ref 25), (1, .int t), (2, .int w), (3, .int f), (4, .int s)], [], _, 0, 0)) rfl ?_
          exfalso; omega
        have h10 := qF_ne (cx := (w_3).toInt) (cy := 0) rfl (by decide) h10
        refine pm_go (g := (141, [(5, .int 4), (0, .ref 25), (1, .int t), (2, .int w), (3, .int f), (4, .int s)], [.int (-4)], _, 0, 0)) rfl ?_
        have hsr : srM mPa mOt mNa mMy mPm mMa mFa mFy mMn t w f s 0 (-4) := Or.inl ⟨rfl, rfl, nf_of hX1 p6.1 (by omega), nf_of hX2 p6.1 (by omega), nf_of hX3 p6.1 (by omega)⟩
        exact pm_ret rfl (k0 f_3 w_3 0 (-4) hsr (ft_0 p6.1 (by omega)) hC3 (srM_b p6 hsr))
      have h9 := qF_le (cx := (w_3).toInt) (cy := 0) rfl (by decide) h9
      refine pm_go (g := (119, [(5, .int 3), (0, .ref 25), (1, .int t), (2, .int w), (3, .int f), (4, .int s)], [.int 3, .ref 25], _, 0, 0)) rfl ?_
      refine pm_go (g := (123, _, [.int 3, .ref 25], _, 0, 0)) rfl ?_
      refine pm_go (g := (126, _, [], hq g c1 c2 c3 c4 c5 c6 c7 c8 c9 c10 c11 c12 c13 c14 c15 c16 c17 c18 c19 c20 c21 c22 c23 c24 (hc25 mTy mTm mMn mFn mRn mTn mVn mLr mTr mFl w_3 3 mSc mMp mEn) (hc26 mPa) (hc27 mTo) (hc28 mOt) (hc29 mNa) (hc30 mRe) (hc31 mMa) (hc32 mMy) (hc33 mPm) (hc34 mFy) (hc35 mFa) (hc36 mFr) (hc37 mFo) (hc38 mRt) (hc39 mRm) (hc40 mTt) (hc41 mTi) (hc42 mPl) (hc43 mVr) (hc44 mVf) (hc45 mVc) (hc46 mAr) (hc47 mTc) (hc48 f_3) (hc49 mGo) dyn, 0, 0)) rfl ?_
      refine pm_go (g := (129, [(5, .int 4), (0, .ref 25), (1, .int t), (2, .int w), (3, .int f), (4, .int s)], [], _, 0, 0)) rfl ?_
      refine pm_go (g := (7, _, [], _, 0, 0)) rfl ?_
      refine pm_go (g := (9, _, [.int 4], _, 0, 0)) rfl ?_
      refine pm_go (g := (10, _, [.int 3, .int 4], _, 0, 0)) rfl ?_
      refine pm_brT (g := (132, [(5, .int 4), (0, .ref 25), (1, .int t), (2, .int w), (3, .int f), (4, .int s)], [], hq g c1 c2 c3 c4 c5 c6 c7 c8 c9 c10 c11 c12 c13 c14 c15 c16 c17 c18 c19 c20 c21 c22 c23 c24 (hc25 mTy mTm mMn mFn mRn mTn mVn mLr mTr mFl w_3 3 mSc mMp mEn) (hc26 mPa) (hc27 mTo) (hc28 mOt) (hc29 mNa) (hc30 mRe) (hc31 mMa) (hc32 mMy) (hc33 mPm) (hc34 mFy) (hc35 mFa) (hc36 mFr) (hc37 mFo) (hc38 mRt) (hc39 mRm) (hc40 mTt) (hc41 mTi) (hc42 mPl) (hc43 mVr) (hc44 mVf) (hc45 mVc) (hc46 mAr) (hc47 mTc) (hc48 f_3) (hc49 mGo) dyn, 0, 0)) rfl ?_
      refine pm_go (g := (133, _, [.ref 25], _, 0, 0)) rfl ?_
      refine pm_go (g := (136, _, [.int w_3], _, 0, 0)) rfl ?_
      refine pm_if2 (g := (142, [(5, .int 4), (0, .ref 25), (1, .int t), (2, .int w), (3, .int f), (4, .int s)], [], hq g c1 c2 c3 c4 c5 c6 c7 c8 c9 c10 c11 c12 c13 c14 c15 c16 c17 c18 c19 c20 c21 c22 c23 c24 (hc25 mTy mTm mMn mFn mRn mTn mVn mLr mTr mFl w_3 3 mSc mMp mEn) (hc26 mPa) (hc27 mTo) (hc28 mOt) (hc29 mNa) (hc30 mRe) (hc31 mMa) (hc32 mMy) (hc33 mPm) (hc34 mFy) (hc35 mFa) (hc36 mFr) (hc37 mFo) (hc38 mRt) (hc39 mRm) (hc40 mTt) (hc41 mTi) (hc42 mPl) (hc43 mVr) (hc44 mVf) (hc45 mVc) (hc46 mAr) (hc47 mTc) (hc48 f_3) (hc49 mGo) dyn, 0, 0)) (h := (139, [(5, .int 4), (0, .ref 25), (1, .int t), (2, .int w), (3, .int f), (4, .int s)], [], hq g c1 c2 c3 c4 c5 c6 c7 c8 c9 c10 c11 c12 c13 c14 c15 c16 c17 c18 c19 c20 c21 c22 c23 c24 (hc25 mTy mTm mMn mFn mRn mTn mVn mLr mTr mFl w_3 3 mSc mMp mEn) (hc26 mPa) (hc27 mTo) (hc28 mOt) (hc29 mNa) (hc30 mRe) (hc31 mMa) (hc32 mMy) (hc33 mPm) (hc34 mFy) (hc35 mFa) (hc36 mFr) (hc37 mFo) (hc38 mRt) (hc39 mRm) (hc40 mTt) (hc41 mTi) (hc42 mPl) (hc43 mVr) (hc44 mVf) (hc45 mVc) (hc46 mAr) (hc47 mTc) (hc48 f_3) (hc49 mGo) dyn, 0, 0)) rfl (fun h11 => ?_) (fun h11 => ?_)
      ·
        have h11 := qT_ne (cx := (w_3).toInt) (cy := 0) rfl (by decide) h11
        refine pm_go (g := (144, _, [.int (-4)], _, 0, 0)) rfl ?_
        refine pm_go (g := (146, [(5, .int (-4)), (0, .ref 25), (1, .int t), (2, .int w), (3, .int f), (4, .int s)], [], _, 0, 0)) rfl ?_
        refine pm_go (g := (147, _, [.int 0], _, 0, 0)) rfl ?_
        refine pm_go (g := (149, [(6, .int 0), (5, .int (-4)), (0, .ref 25), (1, .int t), (2, .int w), (3, .int f), (4, .int s)], [], _, 0, 0)) rfl ?_
        refine pm_go (g := (150, _, [.int 0], _, 0, 0)) rfl ?_
        refine pm_go (g := (152, [(7, .int 0), (6, .int 0), (5, .int (-4)), (0, .ref 25), (1, .int t), (2, .int w), (3, .int f), (4, .int s)], [], _, 0, 0)) rfl ?_
        refine pm_sub (lv := [(7, .int 0), (6, .int 0), (5, .int (-4)), (0, .ref 25), (1, .int t), (2, .int w), (3, .int f), (4, .int s)]) ?_ ⟨le_c (List.Mem.head _) (le_c (List.Mem.tail _ (List.Mem.head _)) (le_c (List.Mem.tail _ (List.Mem.tail _ (List.Mem.head _))) (le_c (List.Mem.tail _ (List.Mem.tail _ (List.Mem.tail _ (List.Mem.head _)))) (le_c (List.Mem.tail _ (List.Mem.tail _ (List.Mem.tail _ (List.Mem.tail _ (List.Mem.head _))))) (le_c (List.Mem.tail _ (List.Mem.tail _ (List.Mem.tail _ (List.Mem.tail _ (List.Mem.tail _ (List.Mem.head _)))))) (le_c (List.Mem.tail _ (List.Mem.tail _ (List.Mem.tail _ (List.Mem.tail _ (List.Mem.tail _ (List.Mem.tail _ (List.Mem.head _))))))) (le_c (List.Mem.tail _ (List.Mem.tail _ (List.Mem.tail _ (List.Mem.tail _ (List.Mem.tail _ (List.Mem.tail _ (List.Mem.tail _ (List.Mem.head _)))))))) le_n))))))), (show ([7, 6, 5, 0, 1, 2, 3, 4] : List Nat).Nodup by decide)⟩
        refine w_searched_best t w f s p0 p1 p2 (by omega) p3 p4 p6 (fv_of hX3 p6 p5) 41 0 (-4) 0 (by omega) (by omega) bs_0 (fun r9 hu => ?_)
        have hu2 := uqM_c (spF_c p6.2 hX3) hu
        have hsr : srM mPa mOt mNa mMy mPm mMa mFa mFy mMn t w f s 3 r9 := Or.inr (Or.inr (Or.inr ⟨rfl, nf_of hX1 p6.1 (by omega), nf_of hX2 p6.1 (by omega), nn_of hX3 p6.1 (by omega), hu2⟩))
        exact k0 f_3 w_3 3 r9 hsr (ft_of hX3 (by omega)) hC3 (srM_b p6 hsr)
      have h11 := qF_ne (cx := (w_3).toInt) (cy := 0) rfl (by decide) h11
      refine pm_go (g := (141, [(5, .int 4), (0, .ref 25), (1, .int t), (2, .int w), (3, .int f), (4, .int s)], [.int (-4)], _, 0, 0)) rfl ?_
      exfalso; omega
    have h6 := qF_le (cx := (w_2).toInt) (cy := 0) rfl (by decide) h6
    refine pm_go (g := (119, [(5, .int 2), (0, .ref 25), (1, .int t), (2, .int w), (3, .int f), (4, .int s)], [.int 2, .ref 25], hq g c1 c2 c3 c4 c5 c6 c7 c8 c9 c10 c11 c12 c13 c14 c15 c16 c17 c18 c19 c20 c21 c22 c23 c24 (hc25 mTy mTm mMn mFn mRn mTn mVn mLr mTr mFl w_2 0 mSc mMp mEn) (hc26 mPa) (hc27 mTo) (hc28 mOt) (hc29 mNa) (hc30 mRe) (hc31 mMa) (hc32 mMy) (hc33 mPm) (hc34 mFy) (hc35 mFa) (hc36 mFr) (hc37 mFo) (hc38 mRt) (hc39 mRm) (hc40 mTt) (hc41 mTi) (hc42 mPl) (hc43 mVr) (hc44 mVf) (hc45 mVc) (hc46 mAr) (hc47 mTc) (hc48 f_2) (hc49 mGo) dyn, 0, 0)) rfl ?_
    refine pm_go (g := (123, _, [.int 2, .ref 25], _, 0, 0)) rfl ?_
    refine pm_go (g := (126, _, [], hq g c1 c2 c3 c4 c5 c6 c7 c8 c9 c10 c11 c12 c13 c14 c15 c16 c17 c18 c19 c20 c21 c22 c23 c24 (hc25 mTy mTm mMn mFn mRn mTn mVn mLr mTr mFl w_2 2 mSc mMp mEn) (hc26 mPa) (hc27 mTo) (hc28 mOt) (hc29 mNa) (hc30 mRe) (hc31 mMa) (hc32 mMy) (hc33 mPm) (hc34 mFy) (hc35 mFa) (hc36 mFr) (hc37 mFo) (hc38 mRt) (hc39 mRm) (hc40 mTt) (hc41 mTi) (hc42 mPl) (hc43 mVr) (hc44 mVf) (hc45 mVc) (hc46 mAr) (hc47 mTc) (hc48 f_2) (hc49 mGo) dyn, 0, 0)) rfl ?_
    refine pm_go (g := (129, [(5, .int 3), (0, .ref 25), (1, .int t), (2, .int w), (3, .int f), (4, .int s)], [], _, 0, 0)) rfl ?_
    refine pm_go (g := (7, _, [], _, 0, 0)) rfl ?_
    refine pm_go (g := (9, _, [.int 3], _, 0, 0)) rfl ?_
    refine pm_go (g := (10, _, [.int 3, .int 3], _, 0, 0)) rfl ?_
    refine pm_brF (h := (13, [(5, .int 3), (0, .ref 25), (1, .int t), (2, .int w), (3, .int f), (4, .int s)], [], hq g c1 c2 c3 c4 c5 c6 c7 c8 c9 c10 c11 c12 c13 c14 c15 c16 c17 c18 c19 c20 c21 c22 c23 c24 (hc25 mTy mTm mMn mFn mRn mTn mVn mLr mTr mFl w_2 2 mSc mMp mEn) (hc26 mPa) (hc27 mTo) (hc28 mOt) (hc29 mNa) (hc30 mRe) (hc31 mMa) (hc32 mMy) (hc33 mPm) (hc34 mFy) (hc35 mFa) (hc36 mFr) (hc37 mFo) (hc38 mRt) (hc39 mRm) (hc40 mTt) (hc41 mTi) (hc42 mPl) (hc43 mVr) (hc44 mVf) (hc45 mVc) (hc46 mAr) (hc47 mTc) (hc48 f_2) (hc49 mGo) dyn, 0, 0)) rfl ?_
    refine pm_go (g := (14, _, [.ref 25], _, 0, 0)) rfl ?_
    refine pm_go (g := (17, _, [.int w_2], _, 0, 0)) rfl ?_
    refine pm_if2 (g := (132, [(5, .int 3), (0, .ref 25), (1, .int t), (2, .int w), (3, .int f), (4, .int s)], [], hq g c1 c2 c3 c4 c5 c6 c7 c8 c9 c10 c11 c12 c13 c14 c15 c16 c17 c18 c19 c20 c21 c22 c23 c24 (hc25 mTy mTm mMn mFn mRn mTn mVn mLr mTr mFl w_2 2 mSc mMp mEn) (hc26 mPa) (hc27 mTo) (hc28 mOt) (hc29 mNa) (hc30 mRe) (hc31 mMa) (hc32 mMy) (hc33 mPm) (hc34 mFy) (hc35 mFa) (hc36 mFr) (hc37 mFo) (hc38 mRt) (hc39 mRm) (hc40 mTt) (hc41 mTi) (hc42 mPl) (hc43 mVr) (hc44 mVf) (hc45 mVc) (hc46 mAr) (hc47 mTc) (hc48 f_2) (hc49 mGo) dyn, 0, 0)) (h := (20, [(5, .int 3), (0, .ref 25), (1, .int t), (2, .int w), (3, .int f), (4, .int s)], [], hq g c1 c2 c3 c4 c5 c6 c7 c8 c9 c10 c11 c12 c13 c14 c15 c16 c17 c18 c19 c20 c21 c22 c23 c24 (hc25 mTy mTm mMn mFn mRn mTn mVn mLr mTr mFl w_2 2 mSc mMp mEn) (hc26 mPa) (hc27 mTo) (hc28 mOt) (hc29 mNa) (hc30 mRe) (hc31 mMa) (hc32 mMy) (hc33 mPm) (hc34 mFy) (hc35 mFa) (hc36 mFr) (hc37 mFo) (hc38 mRt) (hc39 mRm) (hc40 mTt) (hc41 mTi) (hc42 mPl) (hc43 mVr) (hc44 mVf) (hc45 mVc) (hc46 mAr) (hc47 mTc) (hc48 f_2) (hc49 mGo) dyn, 0, 0)) rfl (fun h12 => ?_) (fun h12 => ?_)
    ·
      have h12 := qT_ne (cx := (w_2).toInt) (cy := 0) rfl (by decide) h12
      refine pm_go (g := (133, _, [.ref 25], _, 0, 0)) rfl ?_
      refine pm_go (g := (136, _, [.int w_2], _, 0, 0)) rfl ?_
      refine pm_if2 (g := (142, [(5, .int 3), (0, .ref 25), (1, .int t), (2, .int w), (3, .int f), (4, .int s)], [], hq g c1 c2 c3 c4 c5 c6 c7 c8 c9 c10 c11 c12 c13 c14 c15 c16 c17 c18 c19 c20 c21 c22 c23 c24 (hc25 mTy mTm mMn mFn mRn mTn mVn mLr mTr mFl w_2 2 mSc mMp mEn) (hc26 mPa) (hc27 mTo) (hc28 mOt) (hc29 mNa) (hc30 mRe) (hc31 mMa) (hc32 mMy) (hc33 mPm) (hc34 mFy) (hc35 mFa) (hc36 mFr) (hc37 mFo) (hc38 mRt) (hc39 mRm) (hc40 mTt) (hc41 mTi) (hc42 mPl) (hc43 mVr) (hc44 mVf) (hc45 mVc) (hc46 mAr) (hc47 mTc) (hc48 f_2) (hc49 mGo) dyn, 0, 0)) (h := (139, [(5, .int 3), (0, .ref 25), (1, .int t), (2, .int w), (3, .int f), (4, .int s)], [], hq g c1 c2 c3 c4 c5 c6 c7 c8 c9 c10 c11 c12 c13 c14 c15 c16 c17 c18 c19 c20 c21 c22 c23 c24 (hc25 mTy mTm mMn mFn mRn mTn mVn mLr mTr mFl w_2 2 mSc mMp mEn) (hc26 mPa) (hc27 mTo) (hc28 mOt) (hc29 mNa) (hc30 mRe) (hc31 mMa) (hc32 mMy) (hc33 mPm) (hc34 mFy) (hc35 mFa) (hc36 mFr) (hc37 mFo) (hc38 mRt) (hc39 mRm) (hc40 mTt) (hc41 mTi) (hc42 mPl) (hc43 mVr) (hc44 mVf) (hc45 mVc) (hc46 mAr) (hc47 mTc) (hc48 f_2) (hc49 mGo) dyn, 0, 0)) rfl (fun h13 => ?_) (fun h13 => ?_)
      ·
        have h13 := qT_ne (cx := (w_2).toInt) (cy := 0) rfl (by decide) h13
        refine pm_go (g := (144, _, [.int (-4)], _, 0, 0)) rfl ?_
        refine pm_go (g := (146, [(5, .int (-4)), (0, .ref 25), (1, .int t), (2, .int w), (3, .int f), (4, .int s)], [], _, 0, 0)) rfl ?_
        refine pm_go (g := (147, _, [.int 0], _, 0, 0)) rfl ?_
        refine pm_go (g := (149, [(6, .int 0), (5, .int (-4)), (0, .ref 25), (1, .int t), (2, .int w), (3, .int f), (4, .int s)], [], _, 0, 0)) rfl ?_
        refine pm_go (g := (150, _, [.int 0], _, 0, 0)) rfl ?_
        refine pm_go (g := (152, [(7, .int 0), (6, .int 0), (5, .int (-4)), (0, .ref 25), (1, .int t), (2, .int w), (3, .int f), (4, .int s)], [], _, 0, 0)) rfl ?_
        refine pm_sub (lv := [(7, .int 0), (6, .int 0), (5, .int (-4)), (0, .ref 25), (1, .int t), (2, .int w), (3, .int f), (4, .int s)]) ?_ ⟨le_c (List.Mem.head _) (le_c (List.Mem.tail _ (List.Mem.head _)) (le_c (List.Mem.tail _ (List.Mem.tail _ (List.Mem.head _))) (le_c (List.Mem.tail _ (List.Mem.tail _ (List.Mem.tail _ (List.Mem.head _)))) (le_c (List.Mem.tail _ (List.Mem.tail _ (List.Mem.tail _ (List.Mem.tail _ (List.Mem.head _))))) (le_c (List.Mem.tail _ (List.Mem.tail _ (List.Mem.tail _ (List.Mem.tail _ (List.Mem.tail _ (List.Mem.head _)))))) (le_c (List.Mem.tail _ (List.Mem.tail _ (List.Mem.tail _ (List.Mem.tail _ (List.Mem.tail _ (List.Mem.tail _ (List.Mem.head _))))))) (le_c (List.Mem.tail _ (List.Mem.tail _ (List.Mem.tail _ (List.Mem.tail _ (List.Mem.tail _ (List.Mem.tail _ (List.Mem.tail _ (List.Mem.head _)))))))) le_n))))))), (show ([7, 6, 5, 0, 1, 2, 3, 4] : List Nat).Nodup by decide)⟩
        refine w_searched_best t w f s p0 p1 p2 (by omega) p3 p4 p6 (fv_of hX2 p6 p5) 41 0 (-4) 0 (by omega) (by omega) bs_0 (fun r9 hu => ?_)
        have hu2 := uqM_c (spF_c p6.2 hX2) hu
        have hsr : srM mPa mOt mNa mMy mPm mMa mFa mFy mMn t w f s 2 r9 := Or.inr (Or.inr (Or.inl ⟨rfl, nf_of hX1 p6.1 (by omega), nn_of hX2 p6.1 (by omega), hu2⟩))
        exact k0 f_2 w_2 2 r9 hsr (ft_of hX2 (by omega)) hC2 (srM_b p6 hsr)
      have h13 := qF_ne (cx := (w_2).toInt) (cy := 0) rfl (by decide) h13
      refine pm_go (g := (141, [(5, .int 3), (0, .ref 25), (1, .int t), (2, .int w), (3, .int f), (4, .int s)], [.int (-4)], _, 0, 0)) rfl ?_
      exfalso; omega
    have h12 := qF_ne (cx := (w_2).toInt) (cy := 0) rfl (by decide) h12
    refine pm_go (g := (21, _, [.int 0], _, 0, 0)) rfl ?_
    refine pm_go (g := (23, [(6, .int 0), (5, .int 3), (0, .ref 25), (1, .int t), (2, .int w), (3, .int f), (4, .int s)], [], _, 0, 0)) rfl ?_
    refine pm_sub (lv := [(6, .int 0), (5, .int 3), (0, .ref 25), (1, .int t), (2, .int w), (3, .int f), (4, .int s)]) ?_ ⟨le_c (List.Mem.head _) (le_c (List.Mem.tail _ (List.Mem.head _)) (le_c (List.Mem.tail _ (List.Mem.tail _ (List.Mem.head _))) (le_c (List.Mem.tail _ (List.Mem.tail _ (List.Mem.tail _ (List.Mem.head _)))) (le_c (List.Mem.tail _ (List.Mem.tail _ (List.Mem.tail _ (List.Mem.tail _ (List.Mem.head _))))) (le_c (List.Mem.tail _ (List.Mem.tail _ (List.Mem.tail _ (List.Mem.tail _ (List.Mem.tail _ (List.Mem.head _)))))) (le_c (List.Mem.tail _ (List.Mem.tail _ (List.Mem.tail _ (List.Mem.tail _ (List.Mem.tail _ (List.Mem.tail _ (List.Mem.head _))))))) le_n)))))), (show ([6, 5, 0, 1, 2, 3, 4] : List Nat).Nodup by decide)⟩
    refine w_searched_phase (mFm := mFm) (mFt := mFt) t w f s 3 p0 p1 p2 (by omega) p3 p4 p5 p6 41 0 f_2 w_2 (by omega) (by omega) (fun j q => absurd q (Nat.not_lt_zero j)) (by first | rfl | (show _ = (0 : Int); omega)) (fun f_3 w_3 hX3 hC3 => ?_)
    show pm_WP 150 (109, [(5, .int 3), (0, .ref 25), (1, .int t), (2, .int w), (3, .int f), (4, .int s)], [], _, 0, 0) _
    have hb3 := cF_b f_3 mMn.toNatClampNeg
    refine pm_go (g := (110, _, [.ref 25], _, 0, 0)) rfl ?_
    refine pm_go (g := (111, _, [.ref 25, .ref 25], _, 0, 0)) rfl ?_
    refine pm_go (g := (114, _, [.int w_3, .ref 25], _, 0, 0)) rfl ?_
    refine pm_if2 (g := (122, [(5, .int 3), (0, .ref 25), (1, .int t), (2, .int w), (3, .int f), (4, .int s)], [.ref 25], hq g c1 c2 c3 c4 c5 c6 c7 c8 c9 c10 c11 c12 c13 c14 c15 c16 c17 c18 c19 c20 c21 c22 c23 c24 (hc25 mTy mTm mMn mFn mRn mTn mVn mLr mTr mFl w_3 2 mSc mMp mEn) (hc26 mPa) (hc27 mTo) (hc28 mOt) (hc29 mNa) (hc30 mRe) (hc31 mMa) (hc32 mMy) (hc33 mPm) (hc34 mFy) (hc35 mFa) (hc36 mFr) (hc37 mFo) (hc38 mRt) (hc39 mRm) (hc40 mTt) (hc41 mTi) (hc42 mPl) (hc43 mVr) (hc44 mVf) (hc45 mVc) (hc46 mAr) (hc47 mTc) (hc48 f_3) (hc49 mGo) dyn, 0, 0)) (h := (117, [(5, .int 3), (0, .ref 25), (1, .int t), (2, .int w), (3, .int f), (4, .int s)], [.ref 25], hq g c1 c2 c3 c4 c5 c6 c7 c8 c9 c10 c11 c12 c13 c14 c15 c16 c17 c18 c19 c20 c21 c22 c23 c24 (hc25 mTy mTm mMn mFn mRn mTn mVn mLr mTr mFl w_3 2 mSc mMp mEn) (hc26 mPa) (hc27 mTo) (hc28 mOt) (hc29 mNa) (hc30 mRe) (hc31 mMa) (hc32 mMy) (hc33 mPm) (hc34 mFy) (hc35 mFa) (hc36 mFr) (hc37 mFo) (hc38 mRt) (hc39 mRm) (hc40 mTt) (hc41 mTi) (hc42 mPl) (hc43 mVr) (hc44 mVf) (hc45 mVc) (hc46 mAr) (hc47 mTc) (hc48 f_3) (hc49 mGo) dyn, 0, 0)) rfl (fun h14 => ?_) (fun h14 => ?_)
    ·
      have h14 := qT_le (cx := (w_3).toInt) (cy := 0) rfl (by decide) h14
      refine pm_go (g := (123, _, [.int 0, .ref 25], _, 0, 0)) rfl ?_
      refine pm_go (g := (126, _, [], hq g c1 c2 c3 c4 c5 c6 c7 c8 c9 c10 c11 c12 c13 c14 c15 c16 c17 c18 c19 c20 c21 c22 c23 c24 (hc25 mTy mTm mMn mFn mRn mTn mVn mLr mTr mFl w_3 0 mSc mMp mEn) (hc26 mPa) (hc27 mTo) (hc28 mOt) (hc29 mNa) (hc30 mRe) (hc31 mMa) (hc32 mMy) (hc33 mPm) (hc34 mFy) (hc35 mFa) (hc36 mFr) (hc37 mFo) (hc38 mRt) (hc39 mRm) (hc40 mTt) (hc41 mTi) (hc42 mPl) (hc43 mVr) (hc44 mVf) (hc45 mVc) (hc46 mAr) (hc47 mTc) (hc48 f_3) (hc49 mGo) dyn, 0, 0)) rfl ?_
      refine pm_go (g := (129, [(5, .int 4), (0, .ref 25), (1, .int t), (2, .int w), (3, .int f), (4, .int s)], [], _, 0, 0)) rfl ?_
      refine pm_go (g := (7, _, [], _, 0, 0)) rfl ?_
      refine pm_go (g := (9, _, [.int 4], _, 0, 0)) rfl ?_
      refine pm_go (g := (10, _, [.int 3, .int 4], _, 0, 0)) rfl ?_
      refine pm_brT (g := (132, [(5, .int 4), (0, .ref 25), (1, .int t), (2, .int w), (3, .int f), (4, .int s)], [], hq g c1 c2 c3 c4 c5 c6 c7 c8 c9 c10 c11 c12 c13 c14 c15 c16 c17 c18 c19 c20 c21 c22 c23 c24 (hc25 mTy mTm mMn mFn mRn mTn mVn mLr mTr mFl w_3 0 mSc mMp mEn) (hc26 mPa) (hc27 mTo) (hc28 mOt) (hc29 mNa) (hc30 mRe) (hc31 mMa) (hc32 mMy) (hc33 mPm) (hc34 mFy) (hc35 mFa) (hc36 mFr) (hc37 mFo) (hc38 mRt) (hc39 mRm) (hc40 mTt) (hc41 mTi) (hc42 mPl) (hc43 mVr) (hc44 mVf) (hc45 mVc) (hc46 mAr) (hc47 mTc) (hc48 f_3) (hc49 mGo) dyn, 0, 0)) rfl ?_
      refine pm_go (g := (133, _, [.ref 25], _, 0, 0)) rfl ?_
      refine pm_go (g := (136, _, [.int w_3], _, 0, 0)) rfl ?_
      refine pm_if2 (g := (142, [(5, .int 4), (0, .ref 25), (1, .int t), (2, .int w), (3, .int f), (4, .int s)], [], hq g c1 c2 c3 c4 c5 c6 c7 c8 c9 c10 c11 c12 c13 c14 c15 c16 c17 c18 c19 c20 c21 c22 c23 c24 (hc25 mTy mTm mMn mFn mRn mTn mVn mLr mTr mFl w_3 0 mSc mMp mEn) (hc26 mPa) (hc27 mTo) (hc28 mOt) (hc29 mNa) (hc30 mRe) (hc31 mMa) (hc32 mMy) (hc33 mPm) (hc34 mFy) (hc35 mFa) (hc36 mFr) (hc37 mFo) (hc38 mRt) (hc39 mRm) (hc40 mTt) (hc41 mTi) (hc42 mPl) (hc43 mVr) (hc44 mVf) (hc45 mVc) (hc46 mAr) (hc47 mTc) (hc48 f_3) (hc49 mGo) dyn, 0, 0)) (h := (139, [(5, .int 4), (0, .ref 25), (1, .int t), (2, .int w), (3, .int f), (4, .int s)], [], hq g c1 c2 c3 c4 c5 c6 c7 c8 c9 c10 c11 c12 c13 c14 c15 c16 c17 c18 c19 c20 c21 c22 c23 c24 (hc25 mTy mTm mMn mFn mRn mTn mVn mLr mTr mFl w_3 0 mSc mMp mEn) (hc26 mPa) (hc27 mTo) (hc28 mOt) (hc29 mNa) (hc30 mRe) (hc31 mMa) (hc32 mMy) (hc33 mPm) (hc34 mFy) (hc35 mFa) (hc36 mFr) (hc37 mFo) (hc38 mRt) (hc39 mRm) (hc40 mTt) (hc41 mTi) (hc42 mPl) (hc43 mVr) (hc44 mVf) (hc45 mVc) (hc46 mAr) (hc47 mTc) (hc48 f_3) (hc49 mGo) dyn, 0, 0)) rfl (fun h15 => ?_) (fun h15 => ?_)
      ·
        have h15 := qT_ne (cx := (w_3).toInt) (cy := 0) rfl (by decide) h15
        refine pm_go (g := (144, _, [.int (-4)], _, 0, 0)) rfl ?_
        refine pm_go (g := (146, [(5, .int (-4)), (0, .ref 25), (1, .int t), (2, .int w), (3, .int f), (4, .int s)], [], _, 0, 0)) rfl ?_
        refine pm_go (g := (147, _, [.int 0], _, 0, 0)) rfl ?_
        refine pm_go (g := (149, [(6, .int 0), (5, .int (-4)), (0, .ref 25), (1, .int t), (2, .int w), (3, .int f), (4, .int s)], [], _, 0, 0)) rfl ?_
        refine pm_go (g := (150, _, [.int 0], _, 0, 0)) rfl ?_
        refine pm_go (g := (152, [(7, .int 0), (6, .int 0), (5, .int (-4)), (0, .ref 25), (1, .int t), (2, .int w), (3, .int f), (4, .int s)], [], _, 0, 0)) rfl ?_
        exfalso; omega
      have h15 := qF_ne (cx := (w_3).toInt) (cy := 0) rfl (by decide) h15
      refine pm_go (g := (141, [(5, .int 4), (0, .ref 25), (1, .int t), (2, .int w), (3, .int f), (4, .int s)], [.int (-4)], _, 0, 0)) rfl ?_
      have hsr : srM mPa mOt mNa mMy mPm mMa mFa mFy mMn t w f s 0 (-4) := Or.inl ⟨rfl, rfl, nf_of hX1 p6.1 (by omega), nf_of hX2 p6.1 (by omega), nf_of hX3 p6.1 (by omega)⟩
      exact pm_ret rfl (k0 f_3 w_3 0 (-4) hsr (ft_0 p6.1 (by omega)) hC3 (srM_b p6 hsr))
    have h14 := qF_le (cx := (w_3).toInt) (cy := 0) rfl (by decide) h14
    refine pm_go (g := (119, [(5, .int 3), (0, .ref 25), (1, .int t), (2, .int w), (3, .int f), (4, .int s)], [.int 3, .ref 25], hq g c1 c2 c3 c4 c5 c6 c7 c8 c9 c10 c11 c12 c13 c14 c15 c16 c17 c18 c19 c20 c21 c22 c23 c24 (hc25 mTy mTm mMn mFn mRn mTn mVn mLr mTr mFl w_3 2 mSc mMp mEn) (hc26 mPa) (hc27 mTo) (hc28 mOt) (hc29 mNa) (hc30 mRe) (hc31 mMa) (hc32 mMy) (hc33 mPm) (hc34 mFy) (hc35 mFa) (hc36 mFr) (hc37 mFo) (hc38 mRt) (hc39 mRm) (hc40 mTt) (hc41 mTi) (hc42 mPl) (hc43 mVr) (hc44 mVf) (hc45 mVc) (hc46 mAr) (hc47 mTc) (hc48 f_3) (hc49 mGo) dyn, 0, 0)) rfl ?_
    refine pm_go (g := (123, _, [.int 3, .ref 25], _, 0, 0)) rfl ?_
    refine pm_go (g := (126, _, [], hq g c1 c2 c3 c4 c5 c6 c7 c8 c9 c10 c11 c12 c13 c14 c15 c16 c17 c18 c19 c20 c21 c22 c23 c24 (hc25 mTy mTm mMn mFn mRn mTn mVn mLr mTr mFl w_3 3 mSc mMp mEn) (hc26 mPa) (hc27 mTo) (hc28 mOt) (hc29 mNa) (hc30 mRe) (hc31 mMa) (hc32 mMy) (hc33 mPm) (hc34 mFy) (hc35 mFa) (hc36 mFr) (hc37 mFo) (hc38 mRt) (hc39 mRm) (hc40 mTt) (hc41 mTi) (hc42 mPl) (hc43 mVr) (hc44 mVf) (hc45 mVc) (hc46 mAr) (hc47 mTc) (hc48 f_3) (hc49 mGo) dyn, 0, 0)) rfl ?_
    refine pm_go (g := (129, [(5, .int 4), (0, .ref 25), (1, .int t), (2, .int w), (3, .int f), (4, .int s)], [], _, 0, 0)) rfl ?_
    refine pm_go (g := (7, _, [], _, 0, 0)) rfl ?_
    refine pm_go (g := (9, _, [.int 4], _, 0, 0)) rfl ?_
    refine pm_go (g := (10, _, [.int 3, .int 4], _, 0, 0)) rfl ?_
    refine pm_brT (g := (132, [(5, .int 4), (0, .ref 25), (1, .int t), (2, .int w), (3, .int f), (4, .int s)], [], hq g c1 c2 c3 c4 c5 c6 c7 c8 c9 c10 c11 c12 c13 c14 c15 c16 c17 c18 c19 c20 c21 c22 c23 c24 (hc25 mTy mTm mMn mFn mRn mTn mVn mLr mTr mFl w_3 3 mSc mMp mEn) (hc26 mPa) (hc27 mTo) (hc28 mOt) (hc29 mNa) (hc30 mRe) (hc31 mMa) (hc32 mMy) (hc33 mPm) (hc34 mFy) (hc35 mFa) (hc36 mFr) (hc37 mFo) (hc38 mRt) (hc39 mRm) (hc40 mTt) (hc41 mTi) (hc42 mPl) (hc43 mVr) (hc44 mVf) (hc45 mVc) (hc46 mAr) (hc47 mTc) (hc48 f_3) (hc49 mGo) dyn, 0, 0)) rfl ?_
    refine pm_go (g := (133, _, [.ref 25], _, 0, 0)) rfl ?_
    refine pm_go (g := (136, _, [.int w_3], _, 0, 0)) rfl ?_
    refine pm_if2 (g := (142, [(5, .int 4), (0, .ref 25), (1, .int t), (2, .int w), (3, .int f), (4, .int s)], [], hq g c1 c2 c3 c4 c5 c6 c7 c8 c9 c10 c11 c12 c13 c14 c15 c16 c17 c18 c19 c20 c21 c22 c23 c24 (hc25 mTy mTm mMn mFn mRn mTn mVn mLr mTr mFl w_3 3 mSc mMp mEn) (hc26 mPa) (hc27 mTo) (hc28 mOt) (hc29 mNa) (hc30 mRe) (hc31 mMa) (hc32 mMy) (hc33 mPm) (hc34 mFy) (hc35 mFa) (hc36 mFr) (hc37 mFo) (hc38 mRt) (hc39 mRm) (hc40 mTt) (hc41 mTi) (hc42 mPl) (hc43 mVr) (hc44 mVf) (hc45 mVc) (hc46 mAr) (hc47 mTc) (hc48 f_3) (hc49 mGo) dyn, 0, 0)) (h := (139, [(5, .int 4), (0, .ref 25), (1, .int t), (2, .int w), (3, .int f), (4, .int s)], [], hq g c1 c2 c3 c4 c5 c6 c7 c8 c9 c10 c11 c12 c13 c14 c15 c16 c17 c18 c19 c20 c21 c22 c23 c24 (hc25 mTy mTm mMn mFn mRn mTn mVn mLr mTr mFl w_3 3 mSc mMp mEn) (hc26 mPa) (hc27 mTo) (hc28 mOt) (hc29 mNa) (hc30 mRe) (hc31 mMa) (hc32 mMy) (hc33 mPm) (hc34 mFy) (hc35 mFa) (hc36 mFr) (hc37 mFo) (hc38 mRt) (hc39 mRm) (hc40 mTt) (hc41 mTi) (hc42 mPl) (hc43 mVr) (hc44 mVf) (hc45 mVc) (hc46 mAr) (hc47 mTc) (hc48 f_3) (hc49 mGo) dyn, 0, 0)) rfl (fun h16 => ?_) (fun h16 => ?_)
    ·
      have h16 := qT_ne (cx := (w_3).toInt) (cy := 0) rfl (by decide) h16
      refine pm_go (g := (144, _, [.int (-4)], _, 0, 0)) rfl ?_
      refine pm_go (g := (146, [(5, .int (-4)), (0, .ref 25), (1, .int t), (2, .int w), (3, .int f), (4, .int s)], [], _, 0, 0)) rfl ?_
      refine pm_go (g := (147, _, [.int 0], _, 0, 0)) rfl ?_
      refine pm_go (g := (149, [(6, .int 0), (5, .int (-4)), (0, .ref 25), (1, .int t), (2, .int w), (3, .int f), (4, .int s)], [], _, 0, 0)) rfl ?_
      refine pm_go (g := (150, _, [.int 0], _, 0, 0)) rfl ?_
      refine pm_go (g := (152, [(7, .int 0), (6, .int 0), (5, .int (-4)), (0, .ref 25), (1, .int t), (2, .int w), (3, .int f), (4, .int s)], [], _, 0, 0)) rfl ?_
      refine pm_sub (lv := [(7, .int 0), (6, .int 0), (5, .int (-4)), (0, .ref 25), (1, .int t), (2, .int w), (3, .int f), (4, .int s)]) ?_ ⟨le_c (List.Mem.head _) (le_c (List.Mem.tail _ (List.Mem.head _)) (le_c (List.Mem.tail _ (List.Mem.tail _ (List.Mem.head _))) (le_c (List.Mem.tail _ (List.Mem.tail _ (List.Mem.tail _ (List.Mem.head _)))) (le_c (List.Mem.tail _ (List.Mem.tail _ (List.Mem.tail _ (List.Mem.tail _ (List.Mem.head _))))) (le_c (List.Mem.tail _ (List.Mem.tail _ (List.Mem.tail _ (List.Mem.tail _ (List.Mem.tail _ (List.Mem.head _)))))) (le_c (List.Mem.tail _ (List.Mem.tail _ (List.Mem.tail _ (List.Mem.tail _ (List.Mem.tail _ (List.Mem.tail _ (List.Mem.head _))))))) (le_c (List.Mem.tail _ (List.Mem.tail _ (List.Mem.tail _ (List.Mem.tail _ (List.Mem.tail _ (List.Mem.tail _ (List.Mem.tail _ (List.Mem.head _)))))))) le_n))))))), (show ([7, 6, 5, 0, 1, 2, 3, 4] : List Nat).Nodup by decide)⟩
      refine w_searched_best t w f s p0 p1 p2 (by omega) p3 p4 p6 (fv_of hX3 p6 p5) 41 0 (-4) 0 (by omega) (by omega) bs_0 (fun r9 hu => ?_)
      have hu2 := uqM_c (spF_c p6.2 hX3) hu
      have hsr : srM mPa mOt mNa mMy mPm mMa mFa mFy mMn t w f s 3 r9 := Or.inr (Or.inr (Or.inr ⟨rfl, nf_of hX1 p6.1 (by omega), nf_of hX2 p6.1 (by omega), nn_of hX3 p6.1 (by omega), hu2⟩))
      exact k0 f_3 w_3 3 r9 hsr (ft_of hX3 (by omega)) hC3 (srM_b p6 hsr)
    have h16 := qF_ne (cx := (w_3).toInt) (cy := 0) rfl (by decide) h16
    refine pm_go (g := (141, [(5, .int 4), (0, .ref 25), (1, .int t), (2, .int w), (3, .int f), (4, .int s)], [.int (-4)], _, 0, 0)) rfl ?_
    exfalso; omega
  have h3 := qF_le (cx := (w_1).toInt) (cy := 0) rfl (by decide) h3
  refine pm_go (g := (119, [(5, .int 1), (0, .ref 25), (1, .int t), (2, .int w), (3, .int f), (4, .int s)], [.int 1, .ref 25], hq g c1 c2 c3 c4 c5 c6 c7 c8 c9 c10 c11 c12 c13 c14 c15 c16 c17 c18 c19 c20 c21 c22 c23 c24 (hc25 mTy mTm mMn mFn mRn mTn mVn mLr mTr mFl w_1 0 mSc mMp mEn) (hc26 mPa) (hc27 mTo) (hc28 mOt) (hc29 mNa) (hc30 mRe) (hc31 mMa) (hc32 mMy) (hc33 mPm) (hc34 mFy) (hc35 mFa) (hc36 mFr) (hc37 mFo) (hc38 mRt) (hc39 mRm) (hc40 mTt) (hc41 mTi) (hc42 mPl) (hc43 mVr) (hc44 mVf) (hc45 mVc) (hc46 mAr) (hc47 mTc) (hc48 f_1) (hc49 mGo) dyn, 0, 0)) rfl ?_
  refine pm_go (g := (123, _, [.int 1, .ref 25], _, 0, 0)) rfl ?_
  refine pm_go (g := (126, _, [], hq g c1 c2 c3 c4 c5 c6 c7 c8 c9 c10 c11 c12 c13 c14 c15 c16 c17 c18 c19 c20 c21 c22 c23 c24 (hc25 mTy mTm mMn mFn mRn mTn mVn mLr mTr mFl w_1 1 mSc mMp mEn) (hc26 mPa) (hc27 mTo) (hc28 mOt) (hc29 mNa) (hc30 mRe) (hc31 mMa) (hc32 mMy) (hc33 mPm) (hc34 mFy) (hc35 mFa) (hc36 mFr) (hc37 mFo) (hc38 mRt) (hc39 mRm) (hc40 mTt) (hc41 mTi) (hc42 mPl) (hc43 mVr) (hc44 mVf) (hc45 mVc) (hc46 mAr) (hc47 mTc) (hc48 f_1) (hc49 mGo) dyn, 0, 0)) rfl ?_
  refine pm_go (g := (129, [(5, .int 2), (0, .ref 25), (1, .int t), (2, .int w), (3, .int f), (4, .int s)], [], _, 0, 0)) rfl ?_
  refine pm_go (g := (7, _, [], _, 0, 0)) rfl ?_
  refine pm_go (g := (9, _, [.int 2], _, 0, 0)) rfl ?_
  refine pm_go (g := (10, _, [.int 3, .int 2], _, 0, 0)) rfl ?_
  refine pm_brF (h := (13, [(5, .int 2), (0, .ref 25), (1, .int t), (2, .int w), (3, .int f), (4, .int s)], [], hq g c1 c2 c3 c4 c5 c6 c7 c8 c9 c10 c11 c12 c13 c14 c15 c16 c17 c18 c19 c20 c21 c22 c23 c24 (hc25 mTy mTm mMn mFn mRn mTn mVn mLr mTr mFl w_1 1 mSc mMp mEn) (hc26 mPa) (hc27 mTo) (hc28 mOt) (hc29 mNa) (hc30 mRe) (hc31 mMa) (hc32 mMy) (hc33 mPm) (hc34 mFy) (hc35 mFa) (hc36 mFr) (hc37 mFo) (hc38 mRt) (hc39 mRm) (hc40 mTt) (hc41 mTi) (hc42 mPl) (hc43 mVr) (hc44 mVf) (hc45 mVc) (hc46 mAr) (hc47 mTc) (hc48 f_1) (hc49 mGo) dyn, 0, 0)) rfl ?_
  refine pm_go (g := (14, _, [.ref 25], _, 0, 0)) rfl ?_
  refine pm_go (g := (17, _, [.int w_1], _, 0, 0)) rfl ?_
  refine pm_if2 (g := (132, [(5, .int 2), (0, .ref 25), (1, .int t), (2, .int w), (3, .int f), (4, .int s)], [], hq g c1 c2 c3 c4 c5 c6 c7 c8 c9 c10 c11 c12 c13 c14 c15 c16 c17 c18 c19 c20 c21 c22 c23 c24 (hc25 mTy mTm mMn mFn mRn mTn mVn mLr mTr mFl w_1 1 mSc mMp mEn) (hc26 mPa) (hc27 mTo) (hc28 mOt) (hc29 mNa) (hc30 mRe) (hc31 mMa) (hc32 mMy) (hc33 mPm) (hc34 mFy) (hc35 mFa) (hc36 mFr) (hc37 mFo) (hc38 mRt) (hc39 mRm) (hc40 mTt) (hc41 mTi) (hc42 mPl) (hc43 mVr) (hc44 mVf) (hc45 mVc) (hc46 mAr) (hc47 mTc) (hc48 f_1) (hc49 mGo) dyn, 0, 0)) (h := (20, [(5, .int 2), (0, .ref 25), (1, .int t), (2, .int w), (3, .int f), (4, .int s)], [], hq g c1 c2 c3 c4 c5 c6 c7 c8 c9 c10 c11 c12 c13 c14 c15 c16 c17 c18 c19 c20 c21 c22 c23 c24 (hc25 mTy mTm mMn mFn mRn mTn mVn mLr mTr mFl w_1 1 mSc mMp mEn) (hc26 mPa) (hc27 mTo) (hc28 mOt) (hc29 mNa) (hc30 mRe) (hc31 mMa) (hc32 mMy) (hc33 mPm) (hc34 mFy) (hc35 mFa) (hc36 mFr) (hc37 mFo) (hc38 mRt) (hc39 mRm) (hc40 mTt) (hc41 mTi) (hc42 mPl) (hc43 mVr) (hc44 mVf) (hc45 mVc) (hc46 mAr) (hc47 mTc) (hc48 f_1) (hc49 mGo) dyn, 0, 0)) rfl (fun h17 => ?_) (fun h17 => ?_)
  ·
    have h17 := qT_ne (cx := (w_1).toInt) (cy := 0) rfl (by decide) h17
    refine pm_go (g := (133, _, [.ref 25], _, 0, 0)) rfl ?_
    refine pm_go (g := (136, _, [.int w_1], _, 0, 0)) rfl ?_
    refine pm_if2 (g := (142, [(5, .int 2), (0, .ref 25), (1, .int t), (2, .int w), (3, .int f), (4, .int s)], [], hq g c1 c2 c3 c4 c5 c6 c7 c8 c9 c10 c11 c12 c13 c14 c15 c16 c17 c18 c19 c20 c21 c22 c23 c24 (hc25 mTy mTm mMn mFn mRn mTn mVn mLr mTr mFl w_1 1 mSc mMp mEn) (hc26 mPa) (hc27 mTo) (hc28 mOt) (hc29 mNa) (hc30 mRe) (hc31 mMa) (hc32 mMy) (hc33 mPm) (hc34 mFy) (hc35 mFa) (hc36 mFr) (hc37 mFo) (hc38 mRt) (hc39 mRm) (hc40 mTt) (hc41 mTi) (hc42 mPl) (hc43 mVr) (hc44 mVf) (hc45 mVc) (hc46 mAr) (hc47 mTc) (hc48 f_1) (hc49 mGo) dyn, 0, 0)) (h := (139, [(5, .int 2), (0, .ref 25), (1, .int t), (2, .int w), (3, .int f), (4, .int s)], [], hq g c1 c2 c3 c4 c5 c6 c7 c8 c9 c10 c11 c12 c13 c14 c15 c16 c17 c18 c19 c20 c21 c22 c23 c24 (hc25 mTy mTm mMn mFn mRn mTn mVn mLr mTr mFl w_1 1 mSc mMp mEn) (hc26 mPa) (hc27 mTo) (hc28 mOt) (hc29 mNa) (hc30 mRe) (hc31 mMa) (hc32 mMy) (hc33 mPm) (hc34 mFy) (hc35 mFa) (hc36 mFr) (hc37 mFo) (hc38 mRt) (hc39 mRm) (hc40 mTt) (hc41 mTi) (hc42 mPl) (hc43 mVr) (hc44 mVf) (hc45 mVc) (hc46 mAr) (hc47 mTc) (hc48 f_1) (hc49 mGo) dyn, 0, 0)) rfl (fun h18 => ?_) (fun h18 => ?_)
    ·
      have h18 := qT_ne (cx := (w_1).toInt) (cy := 0) rfl (by decide) h18
      refine pm_go (g := (144, _, [.int (-4)], _, 0, 0)) rfl ?_
      refine pm_go (g := (146, [(5, .int (-4)), (0, .ref 25), (1, .int t), (2, .int w), (3, .int f), (4, .int s)], [], _, 0, 0)) rfl ?_
      refine pm_go (g := (147, _, [.int 0], _, 0, 0)) rfl ?_
      refine pm_go (g := (149, [(6, .int 0), (5, .int (-4)), (0, .ref 25), (1, .int t), (2, .int w), (3, .int f), (4, .int s)], [], _, 0, 0)) rfl ?_
      refine pm_go (g := (150, _, [.int 0], _, 0, 0)) rfl ?_
      refine pm_go (g := (152, [(7, .int 0), (6, .int 0), (5, .int (-4)), (0, .ref 25), (1, .int t), (2, .int w), (3, .int f), (4, .int s)], [], _, 0, 0)) rfl ?_
      refine pm_sub (lv := [(7, .int 0), (6, .int 0), (5, .int (-4)), (0, .ref 25), (1, .int t), (2, .int w), (3, .int f), (4, .int s)]) ?_ ⟨le_c (List.Mem.head _) (le_c (List.Mem.tail _ (List.Mem.head _)) (le_c (List.Mem.tail _ (List.Mem.tail _ (List.Mem.head _))) (le_c (List.Mem.tail _ (List.Mem.tail _ (List.Mem.tail _ (List.Mem.head _)))) (le_c (List.Mem.tail _ (List.Mem.tail _ (List.Mem.tail _ (List.Mem.tail _ (List.Mem.head _))))) (le_c (List.Mem.tail _ (List.Mem.tail _ (List.Mem.tail _ (List.Mem.tail _ (List.Mem.tail _ (List.Mem.head _)))))) (le_c (List.Mem.tail _ (List.Mem.tail _ (List.Mem.tail _ (List.Mem.tail _ (List.Mem.tail _ (List.Mem.tail _ (List.Mem.head _))))))) (le_c (List.Mem.tail _ (List.Mem.tail _ (List.Mem.tail _ (List.Mem.tail _ (List.Mem.tail _ (List.Mem.tail _ (List.Mem.tail _ (List.Mem.head _)))))))) le_n))))))), (show ([7, 6, 5, 0, 1, 2, 3, 4] : List Nat).Nodup by decide)⟩
      refine w_searched_best t w f s p0 p1 p2 (by omega) p3 p4 p6 (fv_of hX1 p6 p5) 41 0 (-4) 0 (by omega) (by omega) bs_0 (fun r9 hu => ?_)
      have hu2 := uqM_c (spF_c p6.2 hX1) hu
      have hsr : srM mPa mOt mNa mMy mPm mMa mFa mFy mMn t w f s 1 r9 := Or.inr (Or.inl ⟨rfl, nn_of hX1 p6.1 (by omega), hu2⟩)
      exact k0 f_1 w_1 1 r9 hsr (ft_of hX1 (by omega)) hC1 (srM_b p6 hsr)
    have h18 := qF_ne (cx := (w_1).toInt) (cy := 0) rfl (by decide) h18
    refine pm_go (g := (141, [(5, .int 2), (0, .ref 25), (1, .int t), (2, .int w), (3, .int f), (4, .int s)], [.int (-4)], _, 0, 0)) rfl ?_
    exfalso; omega
  have h17 := qF_ne (cx := (w_1).toInt) (cy := 0) rfl (by decide) h17
  refine pm_go (g := (21, _, [.int 0], _, 0, 0)) rfl ?_
  refine pm_go (g := (23, [(6, .int 0), (5, .int 2), (0, .ref 25), (1, .int t), (2, .int w), (3, .int f), (4, .int s)], [], _, 0, 0)) rfl ?_
  refine pm_sub (lv := [(6, .int 0), (5, .int 2), (0, .ref 25), (1, .int t), (2, .int w), (3, .int f), (4, .int s)]) ?_ ⟨le_c (List.Mem.head _) (le_c (List.Mem.tail _ (List.Mem.head _)) (le_c (List.Mem.tail _ (List.Mem.tail _ (List.Mem.head _))) (le_c (List.Mem.tail _ (List.Mem.tail _ (List.Mem.tail _ (List.Mem.head _)))) (le_c (List.Mem.tail _ (List.Mem.tail _ (List.Mem.tail _ (List.Mem.tail _ (List.Mem.head _))))) (le_c (List.Mem.tail _ (List.Mem.tail _ (List.Mem.tail _ (List.Mem.tail _ (List.Mem.tail _ (List.Mem.head _)))))) (le_c (List.Mem.tail _ (List.Mem.tail _ (List.Mem.tail _ (List.Mem.tail _ (List.Mem.tail _ (List.Mem.tail _ (List.Mem.head _))))))) le_n)))))), (show ([6, 5, 0, 1, 2, 3, 4] : List Nat).Nodup by decide)⟩
  refine w_searched_phase (mFm := mFm) (mFt := mFt) t w f s 2 p0 p1 p2 (by omega) p3 p4 p5 p6 41 0 f_1 w_1 (by omega) (by omega) (fun j q => absurd q (Nat.not_lt_zero j)) (by first | rfl | (show _ = (0 : Int); omega)) (fun f_2 w_2 hX2 hC2 => ?_)
  show pm_WP 150 (109, [(5, .int 2), (0, .ref 25), (1, .int t), (2, .int w), (3, .int f), (4, .int s)], [], _, 0, 0) _
  have hb2 := cF_b f_2 mMn.toNatClampNeg
  refine pm_go (g := (110, _, [.ref 25], _, 0, 0)) rfl ?_
  refine pm_go (g := (111, _, [.ref 25, .ref 25], _, 0, 0)) rfl ?_
  refine pm_go (g := (114, _, [.int w_2, .ref 25], _, 0, 0)) rfl ?_
  refine pm_if2 (g := (122, [(5, .int 2), (0, .ref 25), (1, .int t), (2, .int w), (3, .int f), (4, .int s)], [.ref 25], hq g c1 c2 c3 c4 c5 c6 c7 c8 c9 c10 c11 c12 c13 c14 c15 c16 c17 c18 c19 c20 c21 c22 c23 c24 (hc25 mTy mTm mMn mFn mRn mTn mVn mLr mTr mFl w_2 1 mSc mMp mEn) (hc26 mPa) (hc27 mTo) (hc28 mOt) (hc29 mNa) (hc30 mRe) (hc31 mMa) (hc32 mMy) (hc33 mPm) (hc34 mFy) (hc35 mFa) (hc36 mFr) (hc37 mFo) (hc38 mRt) (hc39 mRm) (hc40 mTt) (hc41 mTi) (hc42 mPl) (hc43 mVr) (hc44 mVf) (hc45 mVc) (hc46 mAr) (hc47 mTc) (hc48 f_2) (hc49 mGo) dyn, 0, 0)) (h := (117, [(5, .int 2), (0, .ref 25), (1, .int t), (2, .int w), (3, .int f), (4, .int s)], [.ref 25], hq g c1 c2 c3 c4 c5 c6 c7 c8 c9 c10 c11 c12 c13 c14 c15 c16 c17 c18 c19 c20 c21 c22 c23 c24 (hc25 mTy mTm mMn mFn mRn mTn mVn mLr mTr mFl w_2 1 mSc mMp mEn) (hc26 mPa) (hc27 mTo) (hc28 mOt) (hc29 mNa) (hc30 mRe) (hc31 mMa) (hc32 mMy) (hc33 mPm) (hc34 mFy) (hc35 mFa) (hc36 mFr) (hc37 mFo) (hc38 mRt) (hc39 mRm) (hc40 mTt) (hc41 mTi) (hc42 mPl) (hc43 mVr) (hc44 mVf) (hc45 mVc) (hc46 mAr) (hc47 mTc) (hc48 f_2) (hc49 mGo) dyn, 0, 0)) rfl (fun h19 => ?_) (fun h19 => ?_)
  ·
    have h19 := qT_le (cx := (w_2).toInt) (cy := 0) rfl (by decide) h19
    refine pm_go (g := (123, _, [.int 0, .ref 25], _, 0, 0)) rfl ?_
    refine pm_go (g := (126, _, [], hq g c1 c2 c3 c4 c5 c6 c7 c8 c9 c10 c11 c12 c13 c14 c15 c16 c17 c18 c19 c20 c21 c22 c23 c24 (hc25 mTy mTm mMn mFn mRn mTn mVn mLr mTr mFl w_2 0 mSc mMp mEn) (hc26 mPa) (hc27 mTo) (hc28 mOt) (hc29 mNa) (hc30 mRe) (hc31 mMa) (hc32 mMy) (hc33 mPm) (hc34 mFy) (hc35 mFa) (hc36 mFr) (hc37 mFo) (hc38 mRt) (hc39 mRm) (hc40 mTt) (hc41 mTi) (hc42 mPl) (hc43 mVr) (hc44 mVf) (hc45 mVc) (hc46 mAr) (hc47 mTc) (hc48 f_2) (hc49 mGo) dyn, 0, 0)) rfl ?_
    refine pm_go (g := (129, [(5, .int 3), (0, .ref 25), (1, .int t), (2, .int w), (3, .int f), (4, .int s)], [], _, 0, 0)) rfl ?_
    refine pm_go (g := (7, _, [], _, 0, 0)) rfl ?_
    refine pm_go (g := (9, _, [.int 3], _, 0, 0)) rfl ?_
    refine pm_go (g := (10, _, [.int 3, .int 3], _, 0, 0)) rfl ?_
    refine pm_brF (h := (13, [(5, .int 3), (0, .ref 25), (1, .int t), (2, .int w), (3, .int f), (4, .int s)], [], hq g c1 c2 c3 c4 c5 c6 c7 c8 c9 c10 c11 c12 c13 c14 c15 c16 c17 c18 c19 c20 c21 c22 c23 c24 (hc25 mTy mTm mMn mFn mRn mTn mVn mLr mTr mFl w_2 0 mSc mMp mEn) (hc26 mPa) (hc27 mTo) (hc28 mOt) (hc29 mNa) (hc30 mRe) (hc31 mMa) (hc32 mMy) (hc33 mPm) (hc34 mFy) (hc35 mFa) (hc36 mFr) (hc37 mFo) (hc38 mRt) (hc39 mRm) (hc40 mTt) (hc41 mTi) (hc42 mPl) (hc43 mVr) (hc44 mVf) (hc45 mVc) (hc46 mAr) (hc47 mTc) (hc48 f_2) (hc49 mGo) dyn, 0, 0)) rfl ?_
    refine pm_go (g := (14, _, [.ref 25], _, 0, 0)) rfl ?_
    refine pm_go (g := (17, _, [.int w_2], _, 0, 0)) rfl ?_
    refine pm_if2 (g := (132, [(5, .int 3), (0, .ref 25), (1, .int t), (2, .int w), (3, .int f), (4, .int s)], [], hq g c1 c2 c3 c4 c5 c6 c7 c8 c9 c10 c11 c12 c13 c14 c15 c16 c17 c18 c19 c20 c21 c22 c23 c24 (hc25 mTy mTm mMn mFn mRn mTn mVn mLr mTr mFl w_2 0 mSc mMp mEn) (hc26 mPa) (hc27 mTo) (hc28 mOt) (hc29 mNa) (hc30 mRe) (hc31 mMa) (hc32 mMy) (hc33 mPm) (hc34 mFy) (hc35 mFa) (hc36 mFr) (hc37 mFo) (hc38 mRt) (hc39 mRm) (hc40 mTt) (hc41 mTi) (hc42 mPl) (hc43 mVr) (hc44 mVf) (hc45 mVc) (hc46 mAr) (hc47 mTc) (hc48 f_2) (hc49 mGo) dyn, 0, 0)) (h := (20, [(5, .int 3), (0, .ref 25), (1, .int t), (2, .int w), (3, .int f), (4, .int s)], [], hq g c1 c2 c3 c4 c5 c6 c7 c8 c9 c10 c11 c12 c13 c14 c15 c16 c17 c18 c19 c20 c21 c22 c23 c24 (hc25 mTy mTm mMn mFn mRn mTn mVn mLr mTr mFl w_2 0 mSc mMp mEn) (hc26 mPa) (hc27 mTo) (hc28 mOt) (hc29 mNa) (hc30 mRe) (hc31 mMa) (hc32 mMy) (hc33 mPm) (hc34 mFy) (hc35 mFa) (hc36 mFr) (hc37 mFo) (hc38 mRt) (hc39 mRm) (hc40 mTt) (hc41 mTi) (hc42 mPl) (hc43 mVr) (hc44 mVf) (hc45 mVc) (hc46 mAr) (hc47 mTc) (hc48 f_2) (hc49 mGo) dyn, 0, 0)) rfl (fun h20 => ?_) (fun h20 => ?_)
    ·
      have h20 := qT_ne (cx := (w_2).toInt) (cy := 0) rfl (by decide) h20
      refine pm_go (g := (133, _, [.ref 25], _, 0, 0)) rfl ?_
      refine pm_go (g := (136, _, [.int w_2], _, 0, 0)) rfl ?_
      refine pm_if2 (g := (142, [(5, .int 3), (0, .ref 25), (1, .int t), (2, .int w), (3, .int f), (4, .int s)], [], hq g c1 c2 c3 c4 c5 c6 c7 c8 c9 c10 c11 c12 c13 c14 c15 c16 c17 c18 c19 c20 c21 c22 c23 c24 (hc25 mTy mTm mMn mFn mRn mTn mVn mLr mTr mFl w_2 0 mSc mMp mEn) (hc26 mPa) (hc27 mTo) (hc28 mOt) (hc29 mNa) (hc30 mRe) (hc31 mMa) (hc32 mMy) (hc33 mPm) (hc34 mFy) (hc35 mFa) (hc36 mFr) (hc37 mFo) (hc38 mRt) (hc39 mRm) (hc40 mTt) (hc41 mTi) (hc42 mPl) (hc43 mVr) (hc44 mVf) (hc45 mVc) (hc46 mAr) (hc47 mTc) (hc48 f_2) (hc49 mGo) dyn, 0, 0)) (h := (139, [(5, .int 3), (0, .ref 25), (1, .int t), (2, .int w), (3, .int f), (4, .int s)], [], hq g c1 c2 c3 c4 c5 c6 c7 c8 c9 c10 c11 c12 c13 c14 c15 c16 c17 c18 c19 c20 c21 c22 c23 c24 (hc25 mTy mTm mMn mFn mRn mTn mVn mLr mTr mFl w_2 0 mSc mMp mEn) (hc26 mPa) (hc27 mTo) (hc28 mOt) (hc29 mNa) (hc30 mRe) (hc31 mMa) (hc32 mMy) (hc33 mPm) (hc34 mFy) (hc35 mFa) (hc36 mFr) (hc37 mFo) (hc38 mRt) (hc39 mRm) (hc40 mTt) (hc41 mTi) (hc42 mPl) (hc43 mVr) (hc44 mVf) (hc45 mVc) (hc46 mAr) (hc47 mTc) (hc48 f_2) (hc49 mGo) dyn, 0, 0)) rfl (fun h21 => ?_) (fun h21 => ?_)
      ·
        have h21 := qT_ne (cx := (w_2).toInt) (cy := 0) rfl (by decide) h21
        refine pm_go (g := (144, _, [.int (-4)], _, 0, 0)) rfl ?_
        refine pm_go (g := (146, [(5, .int (-4)), (0, .ref 25), (1, .int t), (2, .int w), (3, .int f), (4, .int s)], [], _, 0, 0)) rfl ?_
        refine pm_go (g := (147, _, [.int 0], _, 0, 0)) rfl ?_
        refine pm_go (g := (149, [(6, .int 0), (5, .int (-4)), (0, .ref 25), (1, .int t), (2, .int w), (3, .int f), (4, .int s)], [], _, 0, 0)) rfl ?_
        refine pm_go (g := (150, _, [.int 0], _, 0, 0)) rfl ?_
        refine pm_go (g := (152, [(7, .int 0), (6, .int 0), (5, .int (-4)), (0, .ref 25), (1, .int t), (2, .int w), (3, .int f), (4, .int s)], [], _, 0, 0)) rfl ?_
        exfalso; omega
      have h21 := qF_ne (cx := (w_2).toInt) (cy := 0) rfl (by decide) h21
      refine pm_go (g := (141, [(5, .int 3), (0, .ref 25), (1, .int t), (2, .int w), (3, .int f), (4, .int s)], [.int (-4)], _, 0, 0)) rfl ?_
      exfalso; omega
    have h20 := qF_ne (cx := (w_2).toInt) (cy := 0) rfl (by decide) h20
    refine pm_go (g := (21, _, [.int 0], _, 0, 0)) rfl ?_
    refine pm_go (g := (23, [(6, .int 0), (5, .int 3), (0, .ref 25), (1, .int t), (2, .int w), (3, .int f), (4, .int s)], [], _, 0, 0)) rfl ?_
    refine pm_sub (lv := [(6, .int 0), (5, .int 3), (0, .ref 25), (1, .int t), (2, .int w), (3, .int f), (4, .int s)]) ?_ ⟨le_c (List.Mem.head _) (le_c (List.Mem.tail _ (List.Mem.head _)) (le_c (List.Mem.tail _ (List.Mem.tail _ (List.Mem.head _))) (le_c (List.Mem.tail _ (List.Mem.tail _ (List.Mem.tail _ (List.Mem.head _)))) (le_c (List.Mem.tail _ (List.Mem.tail _ (List.Mem.tail _ (List.Mem.tail _ (List.Mem.head _))))) (le_c (List.Mem.tail _ (List.Mem.tail _ (List.Mem.tail _ (List.Mem.tail _ (List.Mem.tail _ (List.Mem.head _)))))) (le_c (List.Mem.tail _ (List.Mem.tail _ (List.Mem.tail _ (List.Mem.tail _ (List.Mem.tail _ (List.Mem.tail _ (List.Mem.head _))))))) le_n)))))), (show ([6, 5, 0, 1, 2, 3, 4] : List Nat).Nodup by decide)⟩
    refine w_searched_phase (mFm := mFm) (mFt := mFt) t w f s 3 p0 p1 p2 (by omega) p3 p4 p5 p6 41 0 f_2 w_2 (by omega) (by omega) (fun j q => absurd q (Nat.not_lt_zero j)) (by first | rfl | (show _ = (0 : Int); omega)) (fun f_3 w_3 hX3 hC3 => ?_)
    show pm_WP 150 (109, [(5, .int 3), (0, .ref 25), (1, .int t), (2, .int w), (3, .int f), (4, .int s)], [], _, 0, 0) _
    have hb3 := cF_b f_3 mMn.toNatClampNeg
    refine pm_go (g := (110, _, [.ref 25], _, 0, 0)) rfl ?_
    refine pm_go (g := (111, _, [.ref 25, .ref 25], _, 0, 0)) rfl ?_
    refine pm_go (g := (114, _, [.int w_3, .ref 25], _, 0, 0)) rfl ?_
    refine pm_if2 (g := (122, [(5, .int 3), (0, .ref 25), (1, .int t), (2, .int w), (3, .int f), (4, .int s)], [.ref 25], hq g c1 c2 c3 c4 c5 c6 c7 c8 c9 c10 c11 c12 c13 c14 c15 c16 c17 c18 c19 c20 c21 c22 c23 c24 (hc25 mTy mTm mMn mFn mRn mTn mVn mLr mTr mFl w_3 0 mSc mMp mEn) (hc26 mPa) (hc27 mTo) (hc28 mOt) (hc29 mNa) (hc30 mRe) (hc31 mMa) (hc32 mMy) (hc33 mPm) (hc34 mFy) (hc35 mFa) (hc36 mFr) (hc37 mFo) (hc38 mRt) (hc39 mRm) (hc40 mTt) (hc41 mTi) (hc42 mPl) (hc43 mVr) (hc44 mVf) (hc45 mVc) (hc46 mAr) (hc47 mTc) (hc48 f_3) (hc49 mGo) dyn, 0, 0)) (h := (117, [(5, .int 3), (0, .ref 25), (1, .int t), (2, .int w), (3, .int f), (4, .int s)], [.ref 25], hq g c1 c2 c3 c4 c5 c6 c7 c8 c9 c10 c11 c12 c13 c14 c15 c16 c17 c18 c19 c20 c21 c22 c23 c24 (hc25 mTy mTm mMn mFn mRn mTn mVn mLr mTr mFl w_3 0 mSc mMp mEn) (hc26 mPa) (hc27 mTo) (hc28 mOt) (hc29 mNa) (hc30 mRe) (hc31 mMa) (hc32 mMy) (hc33 mPm) (hc34 mFy) (hc35 mFa) (hc36 mFr) (hc37 mFo) (hc38 mRt) (hc39 mRm) (hc40 mTt) (hc41 mTi) (hc42 mPl) (hc43 mVr) (hc44 mVf) (hc45 mVc) (hc46 mAr) (hc47 mTc) (hc48 f_3) (hc49 mGo) dyn, 0, 0)) rfl (fun h22 => ?_) (fun h22 => ?_)
    ·
      have h22 := qT_le (cx := (w_3).toInt) (cy := 0) rfl (by decide) h22
      refine pm_go (g := (123, _, [.int 0, .ref 25], _, 0, 0)) rfl ?_
      refine pm_go (g := (126, _, [], _, 0, 0)) rfl ?_
      refine pm_go (g := (129, [(5, .int 4), (0, .ref 25), (1, .int t), (2, .int w), (3, .int f), (4, .int s)], [], _, 0, 0)) rfl ?_
      refine pm_go (g := (7, _, [], _, 0, 0)) rfl ?_
      refine pm_go (g := (9, _, [.int 4], _, 0, 0)) rfl ?_
      refine pm_go (g := (10, _, [.int 3, .int 4], _, 0, 0)) rfl ?_
      refine pm_brT (g := (132, [(5, .int 4), (0, .ref 25), (1, .int t), (2, .int w), (3, .int f), (4, .int s)], [], hq g c1 c2 c3 c4 c5 c6 c7 c8 c9 c10 c11 c12 c13 c14 c15 c16 c17 c18 c19 c20 c21 c22 c23 c24 (hc25 mTy mTm mMn mFn mRn mTn mVn mLr mTr mFl w_3 0 mSc mMp mEn) (hc26 mPa) (hc27 mTo) (hc28 mOt) (hc29 mNa) (hc30 mRe) (hc31 mMa) (hc32 mMy) (hc33 mPm) (hc34 mFy) (hc35 mFa) (hc36 mFr) (hc37 mFo) (hc38 mRt) (hc39 mRm) (hc40 mTt) (hc41 mTi) (hc42 mPl) (hc43 mVr) (hc44 mVf) (hc45 mVc) (hc46 mAr) (hc47 mTc) (hc48 f_3) (hc49 mGo) dyn, 0, 0)) rfl ?_
      refine pm_go (g := (133, _, [.ref 25], _, 0, 0)) rfl ?_
      refine pm_go (g := (136, _, [.int w_3], _, 0, 0)) rfl ?_
      refine pm_if2 (g := (142, [(5, .int 4), (0, .ref 25), (1, .int t), (2, .int w), (3, .int f), (4, .int s)], [], hq g c1 c2 c3 c4 c5 c6 c7 c8 c9 c10 c11 c12 c13 c14 c15 c16 c17 c18 c19 c20 c21 c22 c23 c24 (hc25 mTy mTm mMn mFn mRn mTn mVn mLr mTr mFl w_3 0 mSc mMp mEn) (hc26 mPa) (hc27 mTo) (hc28 mOt) (hc29 mNa) (hc30 mRe) (hc31 mMa) (hc32 mMy) (hc33 mPm) (hc34 mFy) (hc35 mFa) (hc36 mFr) (hc37 mFo) (hc38 mRt) (hc39 mRm) (hc40 mTt) (hc41 mTi) (hc42 mPl) (hc43 mVr) (hc44 mVf) (hc45 mVc) (hc46 mAr) (hc47 mTc) (hc48 f_3) (hc49 mGo) dyn, 0, 0)) (h := (139, [(5, .int 4), (0, .ref 25), (1, .int t), (2, .int w), (3, .int f), (4, .int s)], [], hq g c1 c2 c3 c4 c5 c6 c7 c8 c9 c10 c11 c12 c13 c14 c15 c16 c17 c18 c19 c20 c21 c22 c23 c24 (hc25 mTy mTm mMn mFn mRn mTn mVn mLr mTr mFl w_3 0 mSc mMp mEn) (hc26 mPa) (hc27 mTo) (hc28 mOt) (hc29 mNa) (hc30 mRe) (hc31 mMa) (hc32 mMy) (hc33 mPm) (hc34 mFy) (hc35 mFa) (hc36 mFr) (hc37 mFo) (hc38 mRt) (hc39 mRm) (hc40 mTt) (hc41 mTi) (hc42 mPl) (hc43 mVr) (hc44 mVf) (hc45 mVc) (hc46 mAr) (hc47 mTc) (hc48 f_3) (hc49 mGo) dyn, 0, 0)) rfl (fun h23 => ?_) (fun h23 => ?_)
      ·
        have h23 := qT_ne (cx := (w_3).toInt) (cy := 0) rfl (by decide) h23
        refine pm_go (g := (144, _, [.int (-4)], _, 0, 0)) rfl ?_
        refine pm_go (g := (146, [(5, .int (-4)), (0, .ref 25), (1, .int t), (2, .int w), (3, .int f), (4, .int s)], [], _, 0, 0)) rfl ?_
        refine pm_go (g := (147, _, [.int 0], _, 0, 0)) rfl ?_
        refine pm_go (g := (149, [(6, .int 0), (5, .int (-4)), (0, .ref 25), (1, .int t), (2, .int w), (3, .int f), (4, .int s)], [], _, 0, 0)) rfl ?_
        refine pm_go (g := (150, _, [.int 0], _, 0, 0)) rfl ?_
        refine pm_go (g := (152, [(7, .int 0), (6, .int 0), (5, .int (-4)), (0, .ref 25), (1, .int t), (2, .int w), (3, .int f), (4, .int s)], [], _, 0, 0)) rfl ?_
        exfalso; omega
      have h23 := qF_ne (cx := (w_3).toInt) (cy := 0) rfl (by decide) h23
      refine pm_go (g := (141, [(5, .int 4), (0, .ref 25), (1, .int t), (2, .int w), (3, .int f), (4, .int s)], [.int (-4)], _, 0, 0)) rfl ?_
      have hsr : srM mPa mOt mNa mMy mPm mMa mFa mFy mMn t w f s 0 (-4) := Or.inl ⟨rfl, rfl, nf_of hX1 p6.1 (by omega), nf_of hX2 p6.1 (by omega), nf_of hX3 p6.1 (by omega)⟩
      exact pm_ret rfl (k0 f_3 w_3 0 (-4) hsr (ft_0 p6.1 (by omega)) hC3 (srM_b p6 hsr))
    have h22 := qF_le (cx := (w_3).toInt) (cy := 0) rfl (by decide) h22
    refine pm_go (g := (119, [(5, .int 3), (0, .ref 25), (1, .int t), (2, .int w), (3, .int f), (4, .int s)], [.int 3, .ref 25], _, 0, 0)) rfl ?_
    refine pm_go (g := (123, _, [.int 3, .ref 25], _, 0, 0)) rfl ?_
    refine pm_go (g := (126, _, [], hq g c1 c2 c3 c4 c5 c6 c7 c8 c9 c10 c11 c12 c13 c14 c15 c16 c17 c18 c19 c20 c21 c22 c23 c24 (hc25 mTy mTm mMn mFn mRn mTn mVn mLr mTr mFl w_3 3 mSc mMp mEn) (hc26 mPa) (hc27 mTo) (hc28 mOt) (hc29 mNa) (hc30 mRe) (hc31 mMa) (hc32 mMy) (hc33 mPm) (hc34 mFy) (hc35 mFa) (hc36 mFr) (hc37 mFo) (hc38 mRt) (hc39 mRm) (hc40 mTt) (hc41 mTi) (hc42 mPl) (hc43 mVr) (hc44 mVf) (hc45 mVc) (hc46 mAr) (hc47 mTc) (hc48 f_3) (hc49 mGo) dyn, 0, 0)) rfl ?_
    refine pm_go (g := (129, [(5, .int 4), (0, .ref 25), (1, .int t), (2, .int w), (3, .int f), (4, .int s)], [], _, 0, 0)) rfl ?_
    refine pm_go (g := (7, _, [], _, 0, 0)) rfl ?_
    refine pm_go (g := (9, _, [.int 4], _, 0, 0)) rfl ?_
    refine pm_go (g := (10, _, [.int 3, .int 4], _, 0, 0)) rfl ?_
    refine pm_brT (g := (132, [(5, .int 4), (0, .ref 25), (1, .int t), (2, .int w), (3, .int f), (4, .int s)], [], hq g c1 c2 c3 c4 c5 c6 c7 c8 c9 c10 c11 c12 c13 c14 c15 c16 c17 c18 c19 c20 c21 c22 c23 c24 (hc25 mTy mTm mMn mFn mRn mTn mVn mLr mTr mFl w_3 3 mSc mMp mEn) (hc26 mPa) (hc27 mTo) (hc28 mOt) (hc29 mNa) (hc30 mRe) (hc31 mMa) (hc32 mMy) (hc33 mPm) (hc34 mFy) (hc35 mFa) (hc36 mFr) (hc37 mFo) (hc38 mRt) (hc39 mRm) (hc40 mTt) (hc41 mTi) (hc42 mPl) (hc43 mVr) (hc44 mVf) (hc45 mVc) (hc46 mAr) (hc47 mTc) (hc48 f_3) (hc49 mGo) dyn, 0, 0)) rfl ?_
    refine pm_go (g := (133, _, [.ref 25], _, 0, 0)) rfl ?_
    refine pm_go (g := (136, _, [.int w_3], _, 0, 0)) rfl ?_
    refine pm_if2 (g := (142, [(5, .int 4), (0, .ref 25), (1, .int t), (2, .int w), (3, .int f), (4, .int s)], [], hq g c1 c2 c3 c4 c5 c6 c7 c8 c9 c10 c11 c12 c13 c14 c15 c16 c17 c18 c19 c20 c21 c22 c23 c24 (hc25 mTy mTm mMn mFn mRn mTn mVn mLr mTr mFl w_3 3 mSc mMp mEn) (hc26 mPa) (hc27 mTo) (hc28 mOt) (hc29 mNa) (hc30 mRe) (hc31 mMa) (hc32 mMy) (hc33 mPm) (hc34 mFy) (hc35 mFa) (hc36 mFr) (hc37 mFo) (hc38 mRt) (hc39 mRm) (hc40 mTt) (hc41 mTi) (hc42 mPl) (hc43 mVr) (hc44 mVf) (hc45 mVc) (hc46 mAr) (hc47 mTc) (hc48 f_3) (hc49 mGo) dyn, 0, 0)) (h := (139, [(5, .int 4), (0, .ref 25), (1, .int t), (2, .int w), (3, .int f), (4, .int s)], [], hq g c1 c2 c3 c4 c5 c6 c7 c8 c9 c10 c11 c12 c13 c14 c15 c16 c17 c18 c19 c20 c21 c22 c23 c24 (hc25 mTy mTm mMn mFn mRn mTn mVn mLr mTr mFl w_3 3 mSc mMp mEn) (hc26 mPa) (hc27 mTo) (hc28 mOt) (hc29 mNa) (hc30 mRe) (hc31 mMa) (hc32 mMy) (hc33 mPm) (hc34 mFy) (hc35 mFa) (hc36 mFr) (hc37 mFo) (hc38 mRt) (hc39 mRm) (hc40 mTt) (hc41 mTi) (hc42 mPl) (hc43 mVr) (hc44 mVf) (hc45 mVc) (hc46 mAr) (hc47 mTc) (hc48 f_3) (hc49 mGo) dyn, 0, 0)) rfl (fun h24 => ?_) (fun h24 => ?_)
    ·
      have h24 := qT_ne (cx := (w_3).toInt) (cy := 0) rfl (by decide) h24
      refine pm_go (g := (144, _, [.int (-4)], _, 0, 0)) rfl ?_
      refine pm_go (g := (146, [(5, .int (-4)), (0, .ref 25), (1, .int t), (2, .int w), (3, .int f), (4, .int s)], [], _, 0, 0)) rfl ?_
      refine pm_go (g := (147, _, [.int 0], _, 0, 0)) rfl ?_
      refine pm_go (g := (149, [(6, .int 0), (5, .int (-4)), (0, .ref 25), (1, .int t), (2, .int w), (3, .int f), (4, .int s)], [], _, 0, 0)) rfl ?_
      refine pm_go (g := (150, _, [.int 0], _, 0, 0)) rfl ?_
      refine pm_go (g := (152, [(7, .int 0), (6, .int 0), (5, .int (-4)), (0, .ref 25), (1, .int t), (2, .int w), (3, .int f), (4, .int s)], [], _, 0, 0)) rfl ?_
      refine pm_sub (lv := [(7, .int 0), (6, .int 0), (5, .int (-4)), (0, .ref 25), (1, .int t), (2, .int w), (3, .int f), (4, .int s)]) ?_ ⟨le_c (List.Mem.head _) (le_c (List.Mem.tail _ (List.Mem.head _)) (le_c (List.Mem.tail _ (List.Mem.tail _ (List.Mem.head _))) (le_c (List.Mem.tail _ (List.Mem.tail _ (List.Mem.tail _ (List.Mem.head _)))) (le_c (List.Mem.tail _ (List.Mem.tail _ (List.Mem.tail _ (List.Mem.tail _ (List.Mem.head _))))) (le_c (List.Mem.tail _ (List.Mem.tail _ (List.Mem.tail _ (List.Mem.tail _ (List.Mem.tail _ (List.Mem.head _)))))) (le_c (List.Mem.tail _ (List.Mem.tail _ (List.Mem.tail _ (List.Mem.tail _ (List.Mem.tail _ (List.Mem.tail _ (List.Mem.head _))))))) (le_c (List.Mem.tail _ (List.Mem.tail _ (List.Mem.tail _ (List.Mem.tail _ (List.Mem.tail _ (List.Mem.tail _ (List.Mem.tail _ (List.Mem.head _)))))))) le_n))))))), (show ([7, 6, 5, 0, 1, 2, 3, 4] : List Nat).Nodup by decide)⟩
      refine w_searched_best t w f s p0 p1 p2 (by omega) p3 p4 p6 (fv_of hX3 p6 p5) 41 0 (-4) 0 (by omega) (by omega) bs_0 (fun r9 hu => ?_)
      have hu2 := uqM_c (spF_c p6.2 hX3) hu
      have hsr : srM mPa mOt mNa mMy mPm mMa mFa mFy mMn t w f s 3 r9 := Or.inr (Or.inr (Or.inr ⟨rfl, nf_of hX1 p6.1 (by omega), nf_of hX2 p6.1 (by omega), nn_of hX3 p6.1 (by omega), hu2⟩))
      exact k0 f_3 w_3 3 r9 hsr (ft_of hX3 (by omega)) hC3 (srM_b p6 hsr)
    have h24 := qF_ne (cx := (w_3).toInt) (cy := 0) rfl (by decide) h24
    refine pm_go (g := (141, [(5, .int 4), (0, .ref 25), (1, .int t), (2, .int w), (3, .int f), (4, .int s)], [.int (-4)], _, 0, 0)) rfl ?_
    exfalso; omega
  have h19 := qF_le (cx := (w_2).toInt) (cy := 0) rfl (by decide) h19
  refine pm_go (g := (119, [(5, .int 2), (0, .ref 25), (1, .int t), (2, .int w), (3, .int f), (4, .int s)], [.int 2, .ref 25], hq g c1 c2 c3 c4 c5 c6 c7 c8 c9 c10 c11 c12 c13 c14 c15 c16 c17 c18 c19 c20 c21 c22 c23 c24 (hc25 mTy mTm mMn mFn mRn mTn mVn mLr mTr mFl w_2 1 mSc mMp mEn) (hc26 mPa) (hc27 mTo) (hc28 mOt) (hc29 mNa) (hc30 mRe) (hc31 mMa) (hc32 mMy) (hc33 mPm) (hc34 mFy) (hc35 mFa) (hc36 mFr) (hc37 mFo) (hc38 mRt) (hc39 mRm) (hc40 mTt) (hc41 mTi) (hc42 mPl) (hc43 mVr) (hc44 mVf) (hc45 mVc) (hc46 mAr) (hc47 mTc) (hc48 f_2) (hc49 mGo) dyn, 0, 0)) rfl ?_
  refine pm_go (g := (123, _, [.int 2, .ref 25], _, 0, 0)) rfl ?_
  refine pm_go (g := (126, _, [], hq g c1 c2 c3 c4 c5 c6 c7 c8 c9 c10 c11 c12 c13 c14 c15 c16 c17 c18 c19 c20 c21 c22 c23 c24 (hc25 mTy mTm mMn mFn mRn mTn mVn mLr mTr mFl w_2 2 mSc mMp mEn) (hc26 mPa) (hc27 mTo) (hc28 mOt) (hc29 mNa) (hc30 mRe) (hc31 mMa) (hc32 mMy) (hc33 mPm) (hc34 mFy) (hc35 mFa) (hc36 mFr) (hc37 mFo) (hc38 mRt) (hc39 mRm) (hc40 mTt) (hc41 mTi) (hc42 mPl) (hc43 mVr) (hc44 mVf) (hc45 mVc) (hc46 mAr) (hc47 mTc) (hc48 f_2) (hc49 mGo) dyn, 0, 0)) rfl ?_
  refine pm_go (g := (129, [(5, .int 3), (0, .ref 25), (1, .int t), (2, .int w), (3, .int f), (4, .int s)], [], _, 0, 0)) rfl ?_
  refine pm_go (g := (7, _, [], _, 0, 0)) rfl ?_
  refine pm_go (g := (9, _, [.int 3], _, 0, 0)) rfl ?_
  refine pm_go (g := (10, _, [.int 3, .int 3], _, 0, 0)) rfl ?_
  refine pm_brF (h := (13, [(5, .int 3), (0, .ref 25), (1, .int t), (2, .int w), (3, .int f), (4, .int s)], [], hq g c1 c2 c3 c4 c5 c6 c7 c8 c9 c10 c11 c12 c13 c14 c15 c16 c17 c18 c19 c20 c21 c22 c23 c24 (hc25 mTy mTm mMn mFn mRn mTn mVn mLr mTr mFl w_2 2 mSc mMp mEn) (hc26 mPa) (hc27 mTo) (hc28 mOt) (hc29 mNa) (hc30 mRe) (hc31 mMa) (hc32 mMy) (hc33 mPm) (hc34 mFy) (hc35 mFa) (hc36 mFr) (hc37 mFo) (hc38 mRt) (hc39 mRm) (hc40 mTt) (hc41 mTi) (hc42 mPl) (hc43 mVr) (hc44 mVf) (hc45 mVc) (hc46 mAr) (hc47 mTc) (hc48 f_2) (hc49 mGo) dyn, 0, 0)) rfl ?_
  refine pm_go (g := (14, _, [.ref 25], _, 0, 0)) rfl ?_
  refine pm_go (g := (17, _, [.int w_2], _, 0, 0)) rfl ?_
  refine pm_if2 (g := (132, [(5, .int 3), (0, .ref 25), (1, .int t), (2, .int w), (3, .int f), (4, .int s)], [], hq g c1 c2 c3 c4 c5 c6 c7 c8 c9 c10 c11 c12 c13 c14 c15 c16 c17 c18 c19 c20 c21 c22 c23 c24 (hc25 mTy mTm mMn mFn mRn mTn mVn mLr mTr mFl w_2 2 mSc mMp mEn) (hc26 mPa) (hc27 mTo) (hc28 mOt) (hc29 mNa) (hc30 mRe) (hc31 mMa) (hc32 mMy) (hc33 mPm) (hc34 mFy) (hc35 mFa) (hc36 mFr) (hc37 mFo) (hc38 mRt) (hc39 mRm) (hc40 mTt) (hc41 mTi) (hc42 mPl) (hc43 mVr) (hc44 mVf) (hc45 mVc) (hc46 mAr) (hc47 mTc) (hc48 f_2) (hc49 mGo) dyn, 0, 0)) (h := (20, [(5, .int 3), (0, .ref 25), (1, .int t), (2, .int w), (3, .int f), (4, .int s)], [], hq g c1 c2 c3 c4 c5 c6 c7 c8 c9 c10 c11 c12 c13 c14 c15 c16 c17 c18 c19 c20 c21 c22 c23 c24 (hc25 mTy mTm mMn mFn mRn mTn mVn mLr mTr mFl w_2 2 mSc mMp mEn) (hc26 mPa) (hc27 mTo) (hc28 mOt) (hc29 mNa) (hc30 mRe) (hc31 mMa) (hc32 mMy) (hc33 mPm) (hc34 mFy) (hc35 mFa) (hc36 mFr) (hc37 mFo) (hc38 mRt) (hc39 mRm) (hc40 mTt) (hc41 mTi) (hc42 mPl) (hc43 mVr) (hc44 mVf) (hc45 mVc) (hc46 mAr) (hc47 mTc) (hc48 f_2) (hc49 mGo) dyn, 0, 0)) rfl (fun h25 => ?_) (fun h25 => ?_)
  ·
    have h25 := qT_ne (cx := (w_2).toInt) (cy := 0) rfl (by decide) h25
    refine pm_go (g := (133, _, [.ref 25], _, 0, 0)) rfl ?_
    refine pm_go (g := (136, _, [.int w_2], _, 0, 0)) rfl ?_
    refine pm_if2 (g := (142, [(5, .int 3), (0, .ref 25), (1, .int t), (2, .int w), (3, .int f), (4, .int s)], [], hq g c1 c2 c3 c4 c5 c6 c7 c8 c9 c10 c11 c12 c13 c14 c15 c16 c17 c18 c19 c20 c21 c22 c23 c24 (hc25 mTy mTm mMn mFn mRn mTn mVn mLr mTr mFl w_2 2 mSc mMp mEn) (hc26 mPa) (hc27 mTo) (hc28 mOt) (hc29 mNa) (hc30 mRe) (hc31 mMa) (hc32 mMy) (hc33 mPm) (hc34 mFy) (hc35 mFa) (hc36 mFr) (hc37 mFo) (hc38 mRt) (hc39 mRm) (hc40 mTt) (hc41 mTi) (hc42 mPl) (hc43 mVr) (hc44 mVf) (hc45 mVc) (hc46 mAr) (hc47 mTc) (hc48 f_2) (hc49 mGo) dyn, 0, 0)) (h := (139, [(5, .int 3), (0, .ref 25), (1, .int t), (2, .int w), (3, .int f), (4, .int s)], [], hq g c1 c2 c3 c4 c5 c6 c7 c8 c9 c10 c11 c12 c13 c14 c15 c16 c17 c18 c19 c20 c21 c22 c23 c24 (hc25 mTy mTm mMn mFn mRn mTn mVn mLr mTr mFl w_2 2 mSc mMp mEn) (hc26 mPa) (hc27 mTo) (hc28 mOt) (hc29 mNa) (hc30 mRe) (hc31 mMa) (hc32 mMy) (hc33 mPm) (hc34 mFy) (hc35 mFa) (hc36 mFr) (hc37 mFo) (hc38 mRt) (hc39 mRm) (hc40 mTt) (hc41 mTi) (hc42 mPl) (hc43 mVr) (hc44 mVf) (hc45 mVc) (hc46 mAr) (hc47 mTc) (hc48 f_2) (hc49 mGo) dyn, 0, 0)) rfl (fun h26 => ?_) (fun h26 => ?_)
    ·
      have h26 := qT_ne (cx := (w_2).toInt) (cy := 0) rfl (by decide) h26
      refine pm_go (g := (144, _, [.int (-4)], _, 0, 0)) rfl ?_
      refine pm_go (g := (146, [(5, .int (-4)), (0, .ref 25), (1, .int t), (2, .int w), (3, .int f), (4, .int s)], [], _, 0, 0)) rfl ?_
      refine pm_go (g := (147, _, [.int 0], _, 0, 0)) rfl ?_
      refine pm_go (g := (149, [(6, .int 0), (5, .int (-4)), (0, .ref 25), (1, .int t), (2, .int w), (3, .int f), (4, .int s)], [], _, 0, 0)) rfl ?_
      refine pm_go (g := (150, _, [.int 0], _, 0, 0)) rfl ?_
      refine pm_go (g := (152, [(7, .int 0), (6, .int 0), (5, .int (-4)), (0, .ref 25), (1, .int t), (2, .int w), (3, .int f), (4, .int s)], [], _, 0, 0)) rfl ?_
      refine pm_sub (lv := [(7, .int 0), (6, .int 0), (5, .int (-4)), (0, .ref 25), (1, .int t), (2, .int w), (3, .int f), (4, .int s)]) ?_ ⟨le_c (List.Mem.head _) (le_c (List.Mem.tail _ (List.Mem.head _)) (le_c (List.Mem.tail _ (List.Mem.tail _ (List.Mem.head _))) (le_c (List.Mem.tail _ (List.Mem.tail _ (List.Mem.tail _ (List.Mem.head _)))) (le_c (List.Mem.tail _ (List.Mem.tail _ (List.Mem.tail _ (List.Mem.tail _ (List.Mem.head _))))) (le_c (List.Mem.tail _ (List.Mem.tail _ (List.Mem.tail _ (List.Mem.tail _ (List.Mem.tail _ (List.Mem.head _)))))) (le_c (List.Mem.tail _ (List.Mem.tail _ (List.Mem.tail _ (List.Mem.tail _ (List.Mem.tail _ (List.Mem.tail _ (List.Mem.head _))))))) (le_c (List.Mem.tail _ (List.Mem.tail _ (List.Mem.tail _ (List.Mem.tail _ (List.Mem.tail _ (List.Mem.tail _ (List.Mem.tail _ (List.Mem.head _)))))))) le_n))))))), (show ([7, 6, 5, 0, 1, 2, 3, 4] : List Nat).Nodup by decide)⟩
      refine w_searched_best t w f s p0 p1 p2 (by omega) p3 p4 p6 (fv_of hX2 p6 p5) 41 0 (-4) 0 (by omega) (by omega) bs_0 (fun r9 hu => ?_)
      have hu2 := uqM_c (spF_c p6.2 hX2) hu
      have hsr : srM mPa mOt mNa mMy mPm mMa mFa mFy mMn t w f s 2 r9 := Or.inr (Or.inr (Or.inl ⟨rfl, nf_of hX1 p6.1 (by omega), nn_of hX2 p6.1 (by omega), hu2⟩))
      exact k0 f_2 w_2 2 r9 hsr (ft_of hX2 (by omega)) hC2 (srM_b p6 hsr)
    have h26 := qF_ne (cx := (w_2).toInt) (cy := 0) rfl (by decide) h26
    refine pm_go (g := (141, [(5, .int 3), (0, .ref 25), (1, .int t), (2, .int w), (3, .int f), (4, .int s)], [.int (-4)], _, 0, 0)) rfl ?_
    exfalso; omega
  have h25 := qF_ne (cx := (w_2).toInt) (cy := 0) rfl (by decide) h25
  refine pm_go (g := (21, _, [.int 0], _, 0, 0)) rfl ?_
  refine pm_go (g := (23, [(6, .int 0), (5, .int 3), (0, .ref 25), (1, .int t), (2, .int w), (3, .int f), (4, .int s)], [], _, 0, 0)) rfl ?_
  refine pm_sub (lv := [(6, .int 0), (5, .int 3), (0, .ref 25), (1, .int t), (2, .int w), (3, .int f), (4, .int s)]) ?_ ⟨le_c (List.Mem.head _) (le_c (List.Mem.tail _ (List.Mem.head _)) (le_c (List.Mem.tail _ (List.Mem.tail _ (List.Mem.head _))) (le_c (List.Mem.tail _ (List.Mem.tail _ (List.Mem.tail _ (List.Mem.head _)))) (le_c (List.Mem.tail _ (List.Mem.tail _ (List.Mem.tail _ (List.Mem.tail _ (List.Mem.head _))))) (le_c (List.Mem.tail _ (List.Mem.tail _ (List.Mem.tail _ (List.Mem.tail _ (List.Mem.tail _ (List.Mem.head _)))))) (le_c (List.Mem.tail _ (List.Mem.tail _ (List.Mem.tail _ (List.Mem.tail _ (List.Mem.tail _ (List.Mem.tail _ (List.Mem.head _))))))) le_n)))))), (show ([6, 5, 0, 1, 2, 3, 4] : List Nat).Nodup by decide)⟩
  refine w_searched_phase (mFm := mFm) (mFt := mFt) t w f s 3 p0 p1 p2 (by omega) p3 p4 p5 p6 41 0 f_2 w_2 (by omega) (by omega) (fun j q => absurd q (Nat.not_lt_zero j)) (by first | rfl | (show _ = (0 : Int); omega)) (fun f_3 w_3 hX3 hC3 => ?_)
  show pm_WP 150 (109, [(5, .int 3), (0, .ref 25), (1, .int t), (2, .int w), (3, .int f), (4, .int s)], [], _, 0, 0) _
  have hb3 := cF_b f_3 mMn.toNatClampNeg
  refine pm_go (g := (110, _, [.ref 25], _, 0, 0)) rfl ?_
  refine pm_go (g := (111, _, [.ref 25, .ref 25], _, 0, 0)) rfl ?_
  refine pm_go (g := (114, _, [.int w_3, .ref 25], _, 0, 0)) rfl ?_
  refine pm_if2 (g := (122, [(5, .int 3), (0, .ref 25), (1, .int t), (2, .int w), (3, .int f), (4, .int s)], [.ref 25], hq g c1 c2 c3 c4 c5 c6 c7 c8 c9 c10 c11 c12 c13 c14 c15 c16 c17 c18 c19 c20 c21 c22 c23 c24 (hc25 mTy mTm mMn mFn mRn mTn mVn mLr mTr mFl w_3 2 mSc mMp mEn) (hc26 mPa) (hc27 mTo) (hc28 mOt) (hc29 mNa) (hc30 mRe) (hc31 mMa) (hc32 mMy) (hc33 mPm) (hc34 mFy) (hc35 mFa) (hc36 mFr) (hc37 mFo) (hc38 mRt) (hc39 mRm) (hc40 mTt) (hc41 mTi) (hc42 mPl) (hc43 mVr) (hc44 mVf) (hc45 mVc) (hc46 mAr) (hc47 mTc) (hc48 f_3) (hc49 mGo) dyn, 0, 0)) (h := (117, [(5, .int 3), (0, .ref 25), (1, .int t), (2, .int w), (3, .int f), (4, .int s)], [.ref 25], hq g c1 c2 c3 c4 c5 c6 c7 c8 c9 c10 c11 c12 c13 c14 c15 c16 c17 c18 c19 c20 c21 c22 c23 c24 (hc25 mTy mTm mMn mFn mRn mTn mVn mLr mTr mFl w_3 2 mSc mMp mEn) (hc26 mPa) (hc27 mTo) (hc28 mOt) (hc29 mNa) (hc30 mRe) (hc31 mMa) (hc32 mMy) (hc33 mPm) (hc34 mFy) (hc35 mFa) (hc36 mFr) (hc37 mFo) (hc38 mRt) (hc39 mRm) (hc40 mTt) (hc41 mTi) (hc42 mPl) (hc43 mVr) (hc44 mVf) (hc45 mVc) (hc46 mAr) (hc47 mTc) (hc48 f_3) (hc49 mGo) dyn, 0, 0)) rfl (fun h27 => ?_) (fun h27 => ?_)
  ·
    have h27 := qT_le (cx := (w_3).toInt) (cy := 0) rfl (by decide) h27
    refine pm_go (g := (123, _, [.int 0, .ref 25], _, 0, 0)) rfl ?_
    refine pm_go (g := (126, _, [], hq g c1 c2 c3 c4 c5 c6 c7 c8 c9 c10 c11 c12 c13 c14 c15 c16 c17 c18 c19 c20 c21 c22 c23 c24 (hc25 mTy mTm mMn mFn mRn mTn mVn mLr mTr mFl w_3 0 mSc mMp mEn) (hc26 mPa) (hc27 mTo) (hc28 mOt) (hc29 mNa) (hc30 mRe) (hc31 mMa) (hc32 mMy) (hc33 mPm) (hc34 mFy) (hc35 mFa) (hc36 mFr) (hc37 mFo) (hc38 mRt) (hc39 mRm) (hc40 mTt) (hc41 mTi) (hc42 mPl) (hc43 mVr) (hc44 mVf) (hc45 mVc) (hc46 mAr) (hc47 mTc) (hc48 f_3) (hc49 mGo) dyn, 0, 0)) rfl ?_
    refine pm_go (g := (129, [(5, .int 4), (0, .ref 25), (1, .int t), (2, .int w), (3, .int f), (4, .int s)], [], _, 0, 0)) rfl ?_
    refine pm_go (g := (7, _, [], _, 0, 0)) rfl ?_
    refine pm_go (g := (9, _, [.int 4], _, 0, 0)) rfl ?_
    refine pm_go (g := (10, _, [.int 3, .int 4], _, 0, 0)) rfl ?_
    refine pm_brT (g := (132, [(5, .int 4), (0, .ref 25), (1, .int t), (2, .int w), (3, .int f), (4, .int s)], [], hq g c1 c2 c3 c4 c5 c6 c7 c8 c9 c10 c11 c12 c13 c14 c15 c16 c17 c18 c19 c20 c21 c22 c23 c24 (hc25 mTy mTm mMn mFn mRn mTn mVn mLr mTr mFl w_3 0 mSc mMp mEn) (hc26 mPa) (hc27 mTo) (hc28 mOt) (hc29 mNa) (hc30 mRe) (hc31 mMa) (hc32 mMy) (hc33 mPm) (hc34 mFy) (hc35 mFa) (hc36 mFr) (hc37 mFo) (hc38 mRt) (hc39 mRm) (hc40 mTt) (hc41 mTi) (hc42 mPl) (hc43 mVr) (hc44 mVf) (hc45 mVc) (hc46 mAr) (hc47 mTc) (hc48 f_3) (hc49 mGo) dyn, 0, 0)) rfl ?_
    refine pm_go (g := (133, _, [.ref 25], _, 0, 0)) rfl ?_
    refine pm_go (g := (136, _, [.int w_3], _, 0, 0)) rfl ?_
    refine pm_if2 (g := (142, [(5, .int 4), (0, .ref 25), (1, .int t), (2, .int w), (3, .int f), (4, .int s)], [], hq g c1 c2 c3 c4 c5 c6 c7 c8 c9 c10 c11 c12 c13 c14 c15 c16 c17 c18 c19 c20 c21 c22 c23 c24 (hc25 mTy mTm mMn mFn mRn mTn mVn mLr mTr mFl w_3 0 mSc mMp mEn) (hc26 mPa) (hc27 mTo) (hc28 mOt) (hc29 mNa) (hc30 mRe) (hc31 mMa) (hc32 mMy) (hc33 mPm) (hc34 mFy) (hc35 mFa) (hc36 mFr) (hc37 mFo) (hc38 mRt) (hc39 mRm) (hc40 mTt) (hc41 mTi) (hc42 mPl) (hc43 mVr) (hc44 mVf) (hc45 mVc) (hc46 mAr) (hc47 mTc) (hc48 f_3) (hc49 mGo) dyn, 0, 0)) (h := (139, [(5, .int 4), (0, .ref 25), (1, .int t), (2, .int w), (3, .int f), (4, .int s)], [], hq g c1 c2 c3 c4 c5 c6 c7 c8 c9 c10 c11 c12 c13 c14 c15 c16 c17 c18 c19 c20 c21 c22 c23 c24 (hc25 mTy mTm mMn mFn mRn mTn mVn mLr mTr mFl w_3 0 mSc mMp mEn) (hc26 mPa) (hc27 mTo) (hc28 mOt) (hc29 mNa) (hc30 mRe) (hc31 mMa) (hc32 mMy) (hc33 mPm) (hc34 mFy) (hc35 mFa) (hc36 mFr) (hc37 mFo) (hc38 mRt) (hc39 mRm) (hc40 mTt) (hc41 mTi) (hc42 mPl) (hc43 mVr) (hc44 mVf) (hc45 mVc) (hc46 mAr) (hc47 mTc) (hc48 f_3) (hc49 mGo) dyn, 0, 0)) rfl (fun h28 => ?_) (fun h28 => ?_)
    ·
      have h28 := qT_ne (cx := (w_3).toInt) (cy := 0) rfl (by decide) h28
      refine pm_go (g := (144, _, [.int (-4)], _, 0, 0)) rfl ?_
      refine pm_go (g := (146, [(5, .int (-4)), (0, .ref 25), (1, .int t), (2, .int w), (3, .int f), (4, .int s)], [], _, 0, 0)) rfl ?_
      refine pm_go (g := (147, _, [.int 0], _, 0, 0)) rfl ?_
      refine pm_go (g := (149, [(6, .int 0), (5, .int (-4)), (0, .ref 25), (1, .int t), (2, .int w), (3, .int f), (4, .int s)], [], _, 0, 0)) rfl ?_
      refine pm_go (g := (150, _, [.int 0], _, 0, 0)) rfl ?_
      refine pm_go (g := (152, [(7, .int 0), (6, .int 0), (5, .int (-4)), (0, .ref 25), (1, .int t), (2, .int w), (3, .int f), (4, .int s)], [], _, 0, 0)) rfl ?_
      exfalso; omega
    have h28 := qF_ne (cx := (w_3).toInt) (cy := 0) rfl (by decide) h28
    refine pm_go (g := (141, [(5, .int 4), (0, .ref 25), (1, .int t), (2, .int w), (3, .int f), (4, .int s)], [.int (-4)], _, 0, 0)) rfl ?_
    have hsr : srM mPa mOt mNa mMy mPm mMa mFa mFy mMn t w f s 0 (-4) := Or.inl ⟨rfl, rfl, nf_of hX1 p6.1 (by omega), nf_of hX2 p6.1 (by omega), nf_of hX3 p6.1 (by omega)⟩
    exact pm_ret rfl (k0 f_3 w_3 0 (-4) hsr (ft_0 p6.1 (by omega)) hC3 (srM_b p6 hsr))
  have h27 := qF_le (cx := (w_3).toInt) (cy := 0) rfl (by decide) h27
  refine pm_go (g := (119, [(5, .int 3), (0, .ref 25), (1, .int t), (2, .int w), (3, .int f), (4, .int s)], [.int 3, .ref 25], hq g c1 c2 c3 c4 c5 c6 c7 c8 c9 c10 c11 c12 c13 c14 c15 c16 c17 c18 c19 c20 c21 c22 c23 c24 (hc25 mTy mTm mMn mFn mRn mTn mVn mLr mTr mFl w_3 2 mSc mMp mEn) (hc26 mPa) (hc27 mTo) (hc28 mOt) (hc29 mNa) (hc30 mRe) (hc31 mMa) (hc32 mMy) (hc33 mPm) (hc34 mFy) (hc35 mFa) (hc36 mFr) (hc37 mFo) (hc38 mRt) (hc39 mRm) (hc40 mTt) (hc41 mTi) (hc42 mPl) (hc43 mVr) (hc44 mVf) (hc45 mVc) (hc46 mAr) (hc47 mTc) (hc48 f_3) (hc49 mGo) dyn, 0, 0)) rfl ?_
  refine pm_go (g := (123, _, [.int 3, .ref 25], _, 0, 0)) rfl ?_
  refine pm_go (g := (126, _, [], hq g c1 c2 c3 c4 c5 c6 c7 c8 c9 c10 c11 c12 c13 c14 c15 c16 c17 c18 c19 c20 c21 c22 c23 c24 (hc25 mTy mTm mMn mFn mRn mTn mVn mLr mTr mFl w_3 3 mSc mMp mEn) (hc26 mPa) (hc27 mTo) (hc28 mOt) (hc29 mNa) (hc30 mRe) (hc31 mMa) (hc32 mMy) (hc33 mPm) (hc34 mFy) (hc35 mFa) (hc36 mFr) (hc37 mFo) (hc38 mRt) (hc39 mRm) (hc40 mTt) (hc41 mTi) (hc42 mPl) (hc43 mVr) (hc44 mVf) (hc45 mVc) (hc46 mAr) (hc47 mTc) (hc48 f_3) (hc49 mGo) dyn, 0, 0)) rfl ?_
  refine pm_go (g := (129, [(5, .int 4), (0, .ref 25), (1, .int t), (2, .int w), (3, .int f), (4, .int s)], [], _, 0, 0)) rfl ?_
  refine pm_go (g := (7, _, [], _, 0, 0)) rfl ?_
  refine pm_go (g := (9, _, [.int 4], _, 0, 0)) rfl ?_
  refine pm_go (g := (10, _, [.int 3, .int 4], _, 0, 0)) rfl ?_
  refine pm_brT (g := (132, [(5, .int 4), (0, .ref 25), (1, .int t), (2, .int w), (3, .int f), (4, .int s)], [], hq g c1 c2 c3 c4 c5 c6 c7 c8 c9 c10 c11 c12 c13 c14 c15 c16 c17 c18 c19 c20 c21 c22 c23 c24 (hc25 mTy mTm mMn mFn mRn mTn mVn mLr mTr mFl w_3 3 mSc mMp mEn) (hc26 mPa) (hc27 mTo) (hc28 mOt) (hc29 mNa) (hc30 mRe) (hc31 mMa) (hc32 mMy) (hc33 mPm) (hc34 mFy) (hc35 mFa) (hc36 mFr) (hc37 mFo) (hc38 mRt) (hc39 mRm) (hc40 mTt) (hc41 mTi) (hc42 mPl) (hc43 mVr) (hc44 mVf) (hc45 mVc) (hc46 mAr) (hc47 mTc) (hc48 f_3) (hc49 mGo) dyn, 0, 0)) rfl ?_
  refine pm_go (g := (133, _, [.ref 25], _, 0, 0)) rfl ?_
  refine pm_go (g := (136, _, [.int w_3], _, 0, 0)) rfl ?_
  refine pm_if2 (g := (142, [(5, .int 4), (0, .ref 25), (1, .int t), (2, .int w), (3, .int f), (4, .int s)], [], hq g c1 c2 c3 c4 c5 c6 c7 c8 c9 c10 c11 c12 c13 c14 c15 c16 c17 c18 c19 c20 c21 c22 c23 c24 (hc25 mTy mTm mMn mFn mRn mTn mVn mLr mTr mFl w_3 3 mSc mMp mEn) (hc26 mPa) (hc27 mTo) (hc28 mOt) (hc29 mNa) (hc30 mRe) (hc31 mMa) (hc32 mMy) (hc33 mPm) (hc34 mFy) (hc35 mFa) (hc36 mFr) (hc37 mFo) (hc38 mRt) (hc39 mRm) (hc40 mTt) (hc41 mTi) (hc42 mPl) (hc43 mVr) (hc44 mVf) (hc45 mVc) (hc46 mAr) (hc47 mTc) (hc48 f_3) (hc49 mGo) dyn, 0, 0)) (h := (139, [(5, .int 4), (0, .ref 25), (1, .int t), (2, .int w), (3, .int f), (4, .int s)], [], hq g c1 c2 c3 c4 c5 c6 c7 c8 c9 c10 c11 c12 c13 c14 c15 c16 c17 c18 c19 c20 c21 c22 c23 c24 (hc25 mTy mTm mMn mFn mRn mTn mVn mLr mTr mFl w_3 3 mSc mMp mEn) (hc26 mPa) (hc27 mTo) (hc28 mOt) (hc29 mNa) (hc30 mRe) (hc31 mMa) (hc32 mMy) (hc33 mPm) (hc34 mFy) (hc35 mFa) (hc36 mFr) (hc37 mFo) (hc38 mRt) (hc39 mRm) (hc40 mTt) (hc41 mTi) (hc42 mPl) (hc43 mVr) (hc44 mVf) (hc45 mVc) (hc46 mAr) (hc47 mTc) (hc48 f_3) (hc49 mGo) dyn, 0, 0)) rfl (fun h29 => ?_) (fun h29 => ?_)
  ·
    have h29 := qT_ne (cx := (w_3).toInt) (cy := 0) rfl (by decide) h29
    refine pm_go (g := (144, _, [.int (-4)], _, 0, 0)) rfl ?_
    refine pm_go (g := (146, [(5, .int (-4)), (0, .ref 25), (1, .int t), (2, .int w), (3, .int f), (4, .int s)], [], _, 0, 0)) rfl ?_
    refine pm_go (g := (147, _, [.int 0], _, 0, 0)) rfl ?_
    refine pm_go (g := (149, [(6, .int 0), (5, .int (-4)), (0, .ref 25), (1, .int t), (2, .int w), (3, .int f), (4, .int s)], [], _, 0, 0)) rfl ?_
    refine pm_go (g := (150, _, [.int 0], _, 0, 0)) rfl ?_
    refine pm_go (g := (152, [(7, .int 0), (6, .int 0), (5, .int (-4)), (0, .ref 25), (1, .int t), (2, .int w), (3, .int f), (4, .int s)], [], _, 0, 0)) rfl ?_
    refine pm_sub (lv := [(7, .int 0), (6, .int 0), (5, .int (-4)), (0, .ref 25), (1, .int t), (2, .int w), (3, .int f), (4, .int s)]) ?_ ⟨le_c (List.Mem.head _) (le_c (List.Mem.tail _ (List.Mem.head _)) (le_c (List.Mem.tail _ (List.Mem.tail _ (List.Mem.head _))) (le_c (List.Mem.tail _ (List.Mem.tail _ (List.Mem.tail _ (List.Mem.head _)))) (le_c (List.Mem.tail _ (List.Mem.tail _ (List.Mem.tail _ (List.Mem.tail _ (List.Mem.head _))))) (le_c (List.Mem.tail _ (List.Mem.tail _ (List.Mem.tail _ (List.Mem.tail _ (List.Mem.tail _ (List.Mem.head _)))))) (le_c (List.Mem.tail _ (List.Mem.tail _ (List.Mem.tail _ (List.Mem.tail _ (List.Mem.tail _ (List.Mem.tail _ (List.Mem.head _))))))) (le_c (List.Mem.tail _ (List.Mem.tail _ (List.Mem.tail _ (List.Mem.tail _ (List.Mem.tail _ (List.Mem.tail _ (List.Mem.tail _ (List.Mem.head _)))))))) le_n))))))), (show ([7, 6, 5, 0, 1, 2, 3, 4] : List Nat).Nodup by decide)⟩
    refine w_searched_best t w f s p0 p1 p2 (by omega) p3 p4 p6 (fv_of hX3 p6 p5) 41 0 (-4) 0 (by omega) (by omega) bs_0 (fun r9 hu => ?_)
    have hu2 := uqM_c (spF_c p6.2 hX3) hu
    have hsr : srM mPa mOt mNa mMy mPm mMa mFa mFy mMn t w f s 3 r9 := Or.inr (Or.inr (Or.inr ⟨rfl, nf_of hX1 p6.1 (by omega), nf_of hX2 p6.1 (by omega), nn_of hX3 p6.1 (by omega), hu2⟩))
    exact k0 f_3 w_3 3 r9 hsr (ft_of hX3 (by omega)) hC3 (srM_b p6 hsr)
  have h29 := qF_ne (cx := (w_3).toInt) (cy := 0) rfl (by decide) h29
  refine pm_go (g := (141, [(5, .int 4), (0, .ref 25), (1, .int t), (2, .int w), (3, .int f), (4, .int s)], [.int (-4)], _, 0, 0)) rfl ?_
  exfalso; omega
/-- the second search is made at all -/
def c2M (pa fa fy : Nat → Int32) (t f : Int32) : Prop := (fy f.toNatClampNeg).toInt ≠ 0 ∧ uM pa (fa (3 * f).toNatClampNeg) t = true
/-- the reference's secondSearched -/
def s2M (pa ot na my pm ma fa fy : Nat → Int32) (mn t w f p r : Int32) : Prop := (c2M pa fa fy t f ∧ srM pa ot na my pm ma fa fy mn t w f 1 p r) ∨ (¬ c2M pa fa fy t f ∧ p = 0 ∧ r = -4)
def f2M (pa ot na my pm ma fa fy : Nat → Int32) (mn t w f p : Int32) (ft : Nat → Int32) : Prop := ∀ j : Nat, (j : Int) < mn.toInt → ((ft j).toInt ≠ 0 ↔ (c2M pa fa fy t f ∧ p.toInt ≠ 0 ∧ fitM pa ot na my pm ma fa fy mn t w f 1 p j))
theorem f2_1 {pa ot na my pm ma fa fy ft : Nat → Int32} {mn t w f p : Int32} (hc : c2M pa fa fy t f) (h : ftM pa ot na my pm ma fa fy mn t w f 1 p ft) : f2M pa ot na my pm ma fa fy mn t w f p ft := fun j q => ⟨fun q2 => ⟨hc, (h j q).mp q2⟩, fun q2 => (h j q).mpr q2.2⟩
theorem f2_0 {pa ot na my pm ma fa fy ft : Nat → Int32} {mn t w f : Int32} (hn : mn.toInt ≤ 40) (hc : ∀ j : Nat, j < 40 → ft j = 0) : f2M pa ot na my pm ma fa fy mn t w f 0 ft := fun j q => ⟨fun q2 => absurd (show (ft j).toInt = 0 by rw [hc j (by omega)]; decide) q2, fun q2 => absurd (show (0 : Int32).toInt = 0 by decide) q2.2.1⟩
set_option maxRecDepth 100000 in
set_option maxHeartbeats 4000000 in
theorem w_X12_secondSearched {g c1 c2 c3 c4 c5 c6 c7 c8 c9 c10 c11 c12 c13 c14 c15 c16 c17 c18 c19 c20 c21 c22 c23 c24 : pm_C} {dyn : pm_H} {mTy : Int32} {mPa : Nat → Int32} {mTo : Nat → Int32} {mTm : Int32} {mMn : Int32} {mOt : Nat → Int32} {mNa : Nat → Int32} {mRe : Nat → Int32} {mMa : Nat → Int32} {mMy : Nat → Int32} {mPm : Nat → Int32} {mFn : Int32} {mFy : Nat → Int32} {mFa : Nat → Int32} {mFr : Nat → Int32} {mRn : Int32} {mFo : Nat → Int32} {mRt : Nat → Int32} {mRm : Nat → Int32} {mTn : Int32} {mTt : Nat → Int32} {mTi : Nat → Int32} {mPl : Nat → Int32} {mVn : Int32} {mVr : Nat → Int32} {mVf : Nat → Int32} {mVc : Nat → Int32} {mAr : Nat → Int32} {mLr : Int32} {mTc : Nat → Int32} {mTr : Int32} {mFl : Int32} {mFt : Nat → Int32} {mFm : Int32} {mFp : Int32} {mSc : Int32} {mMp : Int32} {mEn : Int32} {mGo : Nat → Int32} {Q : pm_Q} (t : Int32) (w : Int32) (f : Int32) (p0 : 0 ≤ f.toInt ∧ f.toInt < 10) (p1 : 0 ≤ (mFy f.toNatClampNeg).toInt ∧ (mFy f.toNatClampNeg).toInt ≤ 3) (p2 : paD mPa) (p3 : myD mMy) (p4 : vrD mMa mMy) (p5 : 0 ≤ mMn.toInt ∧ mMn.toInt ≤ 40) (k0 : ∀ (f9 : Nat → Int32), ∀ (m9 : Int32), ∀ (p9 : Int32), ∀ (r9 : Int32), (s2M mPa mOt mNa mMy mPm mMa mFa mFy mMn t w f p9 r9) → (f2M mPa mOt mNa mMy mPm mMa mFa mFy mMn t w f p9 f9) → (m9.toInt = cF f9 mMn.toNatClampNeg) → ((-5 ≤ r9.toInt ∧ r9.toInt < mMn.toInt) ∧ (0 ≤ p9.toInt ∧ p9.toInt ≤ 3)) → Q (some (.int r9)) (hq g c1 c2 c3 c4 c5 c6 c7 c8 c9 c10 c11 c12 c13 c14 c15 c16 c17 c18 c19 c20 c21 c22 c23 c24 (hc25 mTy mTm mMn mFn mRn mTn mVn mLr mTr mFl m9 p9 mSc mMp mEn) (hc26 mPa) (hc27 mTo) (hc28 mOt) (hc29 mNa) (hc30 mRe) (hc31 mMa) (hc32 mMy) (hc33 mPm) (hc34 mFy) (hc35 mFa) (hc36 mFr) (hc37 mFo) (hc38 mRt) (hc39 mRm) (hc40 mTt) (hc41 mTi) (hc42 mPl) (hc43 mVr) (hc44 mVf) (hc45 mVc) (hc46 mAr) (hc47 mTc) (hc48 f9) (hc49 mGo) dyn)) : pm_WP 152 (0, [(0, .ref 25), (1, .int t), (2, .int w), (3, .int f)], [], hq g c1 c2 c3 c4 c5 c6 c7 c8 c9 c10 c11 c12 c13 c14 c15 c16 c17 c18 c19 c20 c21 c22 c23 c24 (hc25 mTy mTm mMn mFn mRn mTn mVn mLr mTr mFl mFm mFp mSc mMp mEn) (hc26 mPa) (hc27 mTo) (hc28 mOt) (hc29 mNa) (hc30 mRe) (hc31 mMa) (hc32 mMy) (hc33 mPm) (hc34 mFy) (hc35 mFa) (hc36 mFr) (hc37 mFo) (hc38 mRt) (hc39 mRm) (hc40 mTt) (hc41 mTi) (hc42 mPl) (hc43 mVr) (hc44 mVf) (hc45 mVc) (hc46 mAr) (hc47 mTc) (hc48 mFt) (hc49 mGo) dyn, 0, 0) Q := by
  have z0 : (0 : Int32).toInt = 0 := by decide
  have z4 : (-4 : Int32).toInt = -4 := by decide
  refine pm_go (g := (1, [(0, .ref 25), (1, .int t), (2, .int w), (3, .int f)], [.ref 25], hq g c1 c2 c3 c4 c5 c6 c7 c8 c9 c10 c11 c12 c13 c14 c15 c16 c17 c18 c19 c20 c21 c22 c23 c24 (hc25 mTy mTm mMn mFn mRn mTn mVn mLr mTr mFl mFm mFp mSc mMp mEn) (hc26 mPa) (hc27 mTo) (hc28 mOt) (hc29 mNa) (hc30 mRe) (hc31 mMa) (hc32 mMy) (hc33 mPm) (hc34 mFy) (hc35 mFa) (hc36 mFr) (hc37 mFo) (hc38 mRt) (hc39 mRm) (hc40 mTt) (hc41 mTi) (hc42 mPl) (hc43 mVr) (hc44 mVf) (hc45 mVc) (hc46 mAr) (hc47 mTc) (hc48 mFt) (hc49 mGo) dyn, 0, 0)) rfl ?_
  refine pm_go (g := (4, _, [.ref 34], _, 0, 0)) rfl ?_
  refine pm_go (g := (5, _, [.int f, .ref 34], _, 0, 0)) rfl ?_
  refine pm_sd (g := (6, _, [.int (mFy (f).toNatClampNeg)], _, 0, 0)) rfl (pm_inI (by omega) (by omega)) ?_
  refine pm_if2 (g := (25, [(0, .ref 25), (1, .int t), (2, .int w), (3, .int f)], [], hq g c1 c2 c3 c4 c5 c6 c7 c8 c9 c10 c11 c12 c13 c14 c15 c16 c17 c18 c19 c20 c21 c22 c23 c24 (hc25 mTy mTm mMn mFn mRn mTn mVn mLr mTr mFl mFm mFp mSc mMp mEn) (hc26 mPa) (hc27 mTo) (hc28 mOt) (hc29 mNa) (hc30 mRe) (hc31 mMa) (hc32 mMy) (hc33 mPm) (hc34 mFy) (hc35 mFa) (hc36 mFr) (hc37 mFo) (hc38 mRt) (hc39 mRm) (hc40 mTt) (hc41 mTi) (hc42 mPl) (hc43 mVr) (hc44 mVf) (hc45 mVc) (hc46 mAr) (hc47 mTc) (hc48 mFt) (hc49 mGo) dyn, 0, 0)) (h := (9, [(0, .ref 25), (1, .int t), (2, .int w), (3, .int f)], [], hq g c1 c2 c3 c4 c5 c6 c7 c8 c9 c10 c11 c12 c13 c14 c15 c16 c17 c18 c19 c20 c21 c22 c23 c24 (hc25 mTy mTm mMn mFn mRn mTn mVn mLr mTr mFl mFm mFp mSc mMp mEn) (hc26 mPa) (hc27 mTo) (hc28 mOt) (hc29 mNa) (hc30 mRe) (hc31 mMa) (hc32 mMy) (hc33 mPm) (hc34 mFy) (hc35 mFa) (hc36 mFr) (hc37 mFo) (hc38 mRt) (hc39 mRm) (hc40 mTt) (hc41 mTi) (hc42 mPl) (hc43 mVr) (hc44 mVf) (hc45 mVc) (hc46 mAr) (hc47 mTc) (hc48 mFt) (hc49 mGo) dyn, 0, 0)) rfl (fun h1 => ?_) (fun h1 => ?_)
  ·
    have h1 := qT_eq (cx := (mFy (f).toNatClampNeg).toInt) (cy := 0) rfl (by decide) h1
    refine pm_go (g := (26, _, [.ref 25], _, 0, 0)) rfl ?_
    refine pm_callD (z := 151) (as := [.ref 25]) (rest := []) rfl ?_
    refine w_X12_nothingFits  (fun v2_f9 h2 => ?_)
    show pm_WP 152 (29, [(0, .ref 25), (1, .int t), (2, .int w), (3, .int f)], [], _, 0, 0) _
    refine pm_go (g := (31, _, [.int (-4)], _, 0, 0)) rfl ?_
    have hnc : ¬ c2M mPa mFa mFy t f := by rintro ⟨q1, q2⟩; first | omega | (simp_all; done)
    exact pm_ret rfl (k0 v2_f9 0 0 (-4) (Or.inr ⟨hnc, rfl, rfl⟩) (f2_0 p5.2 h2) (by rw [cF_z h2 (by have := xN p5.1; omega)]; decide) (by omega))
  have h1 := qF_eq (cx := (mFy (f).toNatClampNeg).toInt) (cy := 0) rfl (by decide) h1
  refine pm_go (g := (10, _, [.ref 25], hq g c1 c2 c3 c4 c5 c6 c7 c8 c9 c10 c11 c12 c13 c14 c15 c16 c17 c18 c19 c20 c21 c22 c23 c24 (hc25 mTy mTm mMn mFn mRn mTn mVn mLr mTr mFl mFm mFp mSc mMp mEn) (hc26 mPa) (hc27 mTo) (hc28 mOt) (hc29 mNa) (hc30 mRe) (hc31 mMa) (hc32 mMy) (hc33 mPm) (hc34 mFy) (hc35 mFa) (hc36 mFr) (hc37 mFo) (hc38 mRt) (hc39 mRm) (hc40 mTt) (hc41 mTi) (hc42 mPl) (hc43 mVr) (hc44 mVf) (hc45 mVc) (hc46 mAr) (hc47 mTc) (hc48 mFt) (hc49 mGo) dyn, 0, 0)) rfl ?_
  refine pm_go (g := (11, _, [.ref 25, .ref 25], _, 0, 0)) rfl ?_
  refine pm_go (g := (14, _, [.ref 35, .ref 25], _, 0, 0)) rfl ?_
  refine pm_go (g := (15, _, [.int 3, .ref 35, .ref 25], _, 0, 0)) rfl ?_
  refine pm_go (g := (16, _, [.int f, .int 3, .ref 35, .ref 25], _, 0, 0)) rfl ?_
  refine pm_go (g := (17, _, [.int (3 * f), .ref 35, .ref 25], _, 0, 0)) rfl ?_
  try have h4 : (3 * f).toInt = 3 * (f).toInt := iMul (x := 3) (y := (f).toInt) (by decide) rfl (by omega) (by omega)
  refine pm_sd (g := (18, _, [.int (mFa (3 * f).toNatClampNeg), .ref 25], _, 0, 0)) rfl (pm_inI (by omega) (by omega)) ?_
  refine pm_go (g := (19, _, [.int t, .int (mFa (3 * f).toNatClampNeg), .ref 25], _, 0, 0)) rfl ?_
  refine pm_callD (z := 132) (as := [.ref 25, .int (mFa (3 * f).toNatClampNeg), .int t]) (rest := []) rfl ?_
  refine w_X12_isUnder (mFa (3 * f).toNatClampNeg) t (by assumption) (fun h5 => ?_) (fun h6 => ?_)
  ·
    show pm_WP 152 (22, [(0, .ref 25), (1, .int t), (2, .int w), (3, .int f)], [.int 1], _, 0, 0) _
    refine pm_brT (g := (32, [(0, .ref 25), (1, .int t), (2, .int w), (3, .int f)], [], hq g c1 c2 c3 c4 c5 c6 c7 c8 c9 c10 c11 c12 c13 c14 c15 c16 c17 c18 c19 c20 c21 c22 c23 c24 (hc25 mTy mTm mMn mFn mRn mTn mVn mLr mTr mFl mFm mFp mSc mMp mEn) (hc26 mPa) (hc27 mTo) (hc28 mOt) (hc29 mNa) (hc30 mRe) (hc31 mMa) (hc32 mMy) (hc33 mPm) (hc34 mFy) (hc35 mFa) (hc36 mFr) (hc37 mFo) (hc38 mRt) (hc39 mRm) (hc40 mTt) (hc41 mTi) (hc42 mPl) (hc43 mVr) (hc44 mVf) (hc45 mVc) (hc46 mAr) (hc47 mTc) (hc48 mFt) (hc49 mGo) dyn, 0, 0)) rfl ?_
    refine pm_go (g := (33, _, [.ref 25], _, 0, 0)) rfl ?_
    refine pm_go (g := (34, _, [.int t, .ref 25], _, 0, 0)) rfl ?_
    refine pm_go (g := (35, _, [.int w, .int t, .ref 25], _, 0, 0)) rfl ?_
    refine pm_go (g := (36, _, [.int f, .int w, .int t, .ref 25], _, 0, 0)) rfl ?_
    refine pm_go (g := (37, _, [.int 1, .int f, .int w, .int t, .ref 25], _, 0, 0)) rfl ?_
    refine pm_callD (z := 150) (as := [.ref 25, .int t, .int w, .int f, .int 1]) (rest := []) rfl ?_
    have h8 : (1 : Int32).toInt = 1 := by decide
    refine w_X12_searched t w f 1 (by omega) (by omega) (by omega) (by assumption) (by assumption) (by assumption) (by omega) (fun v12_f9 v12_m9 v12_p9 v12_r9 h9 h10 h11 h12 => ?_)
    show pm_WP 152 (40, [(0, .ref 25), (1, .int t), (2, .int w), (3, .int f)], [.int v12_r9], _, 0, 0) _
    have hc : c2M mPa mFa mFy t f := ⟨by omega, by assumption⟩
    exact pm_ret rfl (k0 _ _ _ _ (Or.inl ⟨hc, h9⟩) (f2_1 hc h10) h11 h12)
  show pm_WP 152 (22, [(0, .ref 25), (1, .int t), (2, .int w), (3, .int f)], [.int 0], _, 0, 0) _
  refine pm_brF (h := (25, [(0, .ref 25), (1, .int t), (2, .int w), (3, .int f)], [], hq g c1 c2 c3 c4 c5 c6 c7 c8 c9 c10 c11 c12 c13 c14 c15 c16 c17 c18 c19 c20 c21 c22 c23 c24 (hc25 mTy mTm mMn mFn mRn mTn mVn mLr mTr mFl mFm mFp mSc mMp mEn) (hc26 mPa) (hc27 mTo) (hc28 mOt) (hc29 mNa) (hc30 mRe) (hc31 mMa) (hc32 mMy) (hc33 mPm) (hc34 mFy) (hc35 mFa) (hc36 mFr) (hc37 mFo) (hc38 mRt) (hc39 mRm) (hc40 mTt) (hc41 mTi) (hc42 mPl) (hc43 mVr) (hc44 mVf) (hc45 mVc) (hc46 mAr) (hc47 mTc) (hc48 mFt) (hc49 mGo) dyn, 0, 0)) rfl ?_
  refine pm_go (g := (26, _, [.ref 25], _, 0, 0)) rfl ?_
  refine pm_callD (z := 151) (as := [.ref 25]) (rest := []) rfl ?_
  refine w_X12_nothingFits  (fun v14_f9 h14 => ?_)
  show pm_WP 152 (29, [(0, .ref 25), (1, .int t), (2, .int w), (3, .int f)], [], _, 0, 0) _
  refine pm_go (g := (31, _, [.int (-4)], _, 0, 0)) rfl ?_
  have hnc : ¬ c2M mPa mFa mFy t f := by rintro ⟨q1, q2⟩; first | omega | (simp_all; done)
  exact pm_ret rfl (k0 v14_f9 0 0 (-4) (Or.inr ⟨hnc, rfl, rfl⟩) (f2_0 p5.2 h14) (by rw [cF_z h14 (by have := xN p5.1; omega)]; decide) (by omega))
/-- the reference's ofOne -/
def oneM (pa ot na my pm ma fa fy : Nat → Int32) (mn t w f p r : Int32) : Prop := ∃ r1 : Int32, srM pa ot na my pm ma fa fy mn t w f 0 p r1 ∧ ((r1.toInt = -4 ∧ r = -11) ∨ (r1.toInt = -5 ∧ r = -12) ∨ (r1.toInt ≠ -4 ∧ r1.toInt ≠ -5 ∧ r = r1))
set_option maxRecDepth 100000 in
set_option maxHeartbeats 4000000 in
theorem w_X12_ofOne {g c1 c2 c3 c4 c5 c6 c7 c8 c9 c10 c11 c12 c13 c14 c15 c16 c17 c18 c19 c20 c21 c22 c23 c24 : pm_C} {dyn : pm_H} {mTy : Int32} {mPa : Nat → Int32} {mTo : Nat → Int32} {mTm : Int32} {mMn : Int32} {mOt : Nat → Int32} {mNa : Nat → Int32} {mRe : Nat → Int32} {mMa : Nat → Int32} {mMy : Nat → Int32} {mPm : Nat → Int32} {mFn : Int32} {mFy : Nat → Int32} {mFa : Nat → Int32} {mFr : Nat → Int32} {mRn : Int32} {mFo : Nat → Int32} {mRt : Nat → Int32} {mRm : Nat → Int32} {mTn : Int32} {mTt : Nat → Int32} {mTi : Nat → Int32} {mPl : Nat → Int32} {mVn : Int32} {mVr : Nat → Int32} {mVf : Nat → Int32} {mVc : Nat → Int32} {mAr : Nat → Int32} {mLr : Int32} {mTc : Nat → Int32} {mTr : Int32} {mFl : Int32} {mFt : Nat → Int32} {mFm : Int32} {mFp : Int32} {mSc : Int32} {mMp : Int32} {mEn : Int32} {mGo : Nat → Int32} {Q : pm_Q} (t : Int32) (w : Int32) (f : Int32) (p0 : 0 ≤ f.toInt ∧ f.toInt < 10) (p1 : 0 ≤ (mFy f.toNatClampNeg).toInt ∧ (mFy f.toNatClampNeg).toInt ≤ 3) (p2 : paD mPa) (p3 : myD mMy) (p4 : vrD mMa mMy) (p5 : 0 ≤ mMn.toInt ∧ mMn.toInt ≤ 40) (k0 : ∀ (f9 : Nat → Int32), ∀ (m9 : Int32), ∀ (q9 : Int32), ∀ (p9 : Int32), ∀ (r9 : Int32), (oneM mPa mOt mNa mMy mPm mMa mFa mFy mMn t w f p9 r9) → ((-15 ≤ r9.toInt ∧ r9.toInt < mMn.toInt) ∧ (0 ≤ p9.toInt ∧ p9.toInt ≤ 3)) → Q (some (.int r9)) (hq g c1 c2 c3 c4 c5 c6 c7 c8 c9 c10 c11 c12 c13 c14 c15 c16 c17 c18 c19 c20 c21 c22 c23 c24 (hc25 mTy mTm mMn mFn mRn mTn mVn mLr mTr mFl m9 q9 mSc p9 mEn) (hc26 mPa) (hc27 mTo) (hc28 mOt) (hc29 mNa) (hc30 mRe) (hc31 mMa) (hc32 mMy) (hc33 mPm) (hc34 mFy) (hc35 mFa) (hc36 mFr) (hc37 mFo) (hc38 mRt) (hc39 mRm) (hc40 mTt) (hc41 mTi) (hc42 mPl) (hc43 mVr) (hc44 mVf) (hc45 mVc) (hc46 mAr) (hc47 mTc) (hc48 f9) (hc49 mGo) dyn)) : pm_WP 156 (0, [(0, .ref 25), (1, .int t), (2, .int w), (3, .int f)], [], hq g c1 c2 c3 c4 c5 c6 c7 c8 c9 c10 c11 c12 c13 c14 c15 c16 c17 c18 c19 c20 c21 c22 c23 c24 (hc25 mTy mTm mMn mFn mRn mTn mVn mLr mTr mFl mFm mFp mSc mMp mEn) (hc26 mPa) (hc27 mTo) (hc28 mOt) (hc29 mNa) (hc30 mRe) (hc31 mMa) (hc32 mMy) (hc33 mPm) (hc34 mFy) (hc35 mFa) (hc36 mFr) (hc37 mFo) (hc38 mRt) (hc39 mRm) (hc40 mTt) (hc41 mTi) (hc42 mPl) (hc43 mVr) (hc44 mVf) (hc45 mVc) (hc46 mAr) (hc47 mTc) (hc48 mFt) (hc49 mGo) dyn, 0, 0) Q := by
  have zz1 : (-11 : Int32).toInt = -11 := by decide
  have zz2 : (-12 : Int32).toInt = -12 := by decide
  refine pm_go (g := (1, [(0, .ref 25), (1, .int t), (2, .int w), (3, .int f)], [.ref 25], hq g c1 c2 c3 c4 c5 c6 c7 c8 c9 c10 c11 c12 c13 c14 c15 c16 c17 c18 c19 c20 c21 c22 c23 c24 (hc25 mTy mTm mMn mFn mRn mTn mVn mLr mTr mFl mFm mFp mSc mMp mEn) (hc26 mPa) (hc27 mTo) (hc28 mOt) (hc29 mNa) (hc30 mRe) (hc31 mMa) (hc32 mMy) (hc33 mPm) (hc34 mFy) (hc35 mFa) (hc36 mFr) (hc37 mFo) (hc38 mRt) (hc39 mRm) (hc40 mTt) (hc41 mTi) (hc42 mPl) (hc43 mVr) (hc44 mVf) (hc45 mVc) (hc46 mAr) (hc47 mTc) (hc48 mFt) (hc49 mGo) dyn, 0, 0)) rfl ?_
  refine pm_go (g := (2, _, [.int t, .ref 25], _, 0, 0)) rfl ?_
  refine pm_go (g := (3, _, [.int w, .int t, .ref 25], _, 0, 0)) rfl ?_
  refine pm_go (g := (4, _, [.int f, .int w, .int t, .ref 25], _, 0, 0)) rfl ?_
  refine pm_go (g := (5, _, [.int 0, .int f, .int w, .int t, .ref 25], _, 0, 0)) rfl ?_
  refine pm_callD (z := 150) (as := [.ref 25, .int t, .int w, .int f, .int 0]) (rest := []) rfl ?_
  have h1 : (0 : Int32).toInt = 0 := by decide
  refine w_X12_searched t w f 0 (by omega) (by omega) (by omega) (by assumption) (by assumption) (by assumption) (by omega) (fun v5_f9 v5_m9 v5_p9 v5_r9 h2 h3 h4 h5 => ?_)
  show pm_WP 156 (8, [(0, .ref 25), (1, .int t), (2, .int w), (3, .int f)], [.int v5_r9], _, 0, 0) _
  refine pm_go (g := (10, [(4, .int v5_r9), (0, .ref 25), (1, .int t), (2, .int w), (3, .int f)], [], _, 0, 0)) rfl ?_
  refine pm_go (g := (11, _, [.ref 25], _, 0, 0)) rfl ?_
  refine pm_go (g := (12, _, [.ref 25, .ref 25], _, 0, 0)) rfl ?_
  refine pm_go (g := (15, _, [.int v5_p9, .ref 25], _, 0, 0)) rfl ?_
  refine pm_go (g := (18, _, [], hq g c1 c2 c3 c4 c5 c6 c7 c8 c9 c10 c11 c12 c13 c14 c15 c16 c17 c18 c19 c20 c21 c22 c23 c24 (hc25 mTy mTm mMn mFn mRn mTn mVn mLr mTr mFl v5_m9 v5_p9 mSc v5_p9 mEn) (hc26 mPa) (hc27 mTo) (hc28 mOt) (hc29 mNa) (hc30 mRe) (hc31 mMa) (hc32 mMy) (hc33 mPm) (hc34 mFy) (hc35 mFa) (hc36 mFr) (hc37 mFo) (hc38 mRt) (hc39 mRm) (hc40 mTt) (hc41 mTi) (hc42 mPl) (hc43 mVr) (hc44 mVf) (hc45 mVc) (hc46 mAr) (hc47 mTc) (hc48 v5_f9) (hc49 mGo) dyn, 0, 0)) rfl ?_
  refine pm_go (g := (20, _, [.int v5_r9], _, 0, 0)) rfl ?_
  refine pm_go (g := (22, _, [.int (-4), .int v5_r9], _, 0, 0)) rfl ?_
  refine pm_if2 (g := (30, [(4, .int v5_r9), (0, .ref 25), (1, .int t), (2, .int w), (3, .int f)], [], hq g c1 c2 c3 c4 c5 c6 c7 c8 c9 c10 c11 c12 c13 c14 c15 c16 c17 c18 c19 c20 c21 c22 c23 c24 (hc25 mTy mTm mMn mFn mRn mTn mVn mLr mTr mFl v5_m9 v5_p9 mSc v5_p9 mEn) (hc26 mPa) (hc27 mTo) (hc28 mOt) (hc29 mNa) (hc30 mRe) (hc31 mMa) (hc32 mMy) (hc33 mPm) (hc34 mFy) (hc35 mFa) (hc36 mFr) (hc37 mFo) (hc38 mRt) (hc39 mRm) (hc40 mTt) (hc41 mTi) (hc42 mPl) (hc43 mVr) (hc44 mVf) (hc45 mVc) (hc46 mAr) (hc47 mTc) (hc48 v5_f9) (hc49 mGo) dyn, 0, 0)) (h := (25, [(4, .int v5_r9), (0, .ref 25), (1, .int t), (2, .int w), (3, .int f)], [], hq g c1 c2 c3 c4 c5 c6 c7 c8 c9 c10 c11 c12 c13 c14 c15 c16 c17 c18 c19 c20 c21 c22 c23 c24 (hc25 mTy mTm mMn mFn mRn mTn mVn mLr mTr mFl v5_m9 v5_p9 mSc v5_p9 mEn) (hc26 mPa) (hc27 mTo) (hc28 mOt) (hc29 mNa) (hc30 mRe) (hc31 mMa) (hc32 mMy) (hc33 mPm) (hc34 mFy) (hc35 mFa) (hc36 mFr) (hc37 mFo) (hc38 mRt) (hc39 mRm) (hc40 mTt) (hc41 mTi) (hc42 mPl) (hc43 mVr) (hc44 mVf) (hc45 mVc) (hc46 mAr) (hc47 mTc) (hc48 v5_f9) (hc49 mGo) dyn, 0, 0)) rfl (fun h7 => ?_) (fun h7 => ?_)
  ·
    have h7 := qT_ne (cx := (v5_r9).toInt) (cy := (-4)) rfl (by decide) h7
    refine pm_go (g := (32, _, [.int v5_r9], _, 0, 0)) rfl ?_
    refine pm_go (g := (34, _, [.int (-5), .int v5_r9], _, 0, 0)) rfl ?_
    refine pm_if2 (g := (42, [(4, .int v5_r9), (0, .ref 25), (1, .int t), (2, .int w), (3, .int f)], [], hq g c1 c2 c3 c4 c5 c6 c7 c8 c9 c10 c11 c12 c13 c14 c15 c16 c17 c18 c19 c20 c21 c22 c23 c24 (hc25 mTy mTm mMn mFn mRn mTn mVn mLr mTr mFl v5_m9 v5_p9 mSc v5_p9 mEn) (hc26 mPa) (hc27 mTo) (hc28 mOt) (hc29 mNa) (hc30 mRe) (hc31 mMa) (hc32 mMy) (hc33 mPm) (hc34 mFy) (hc35 mFa) (hc36 mFr) (hc37 mFo) (hc38 mRt) (hc39 mRm) (hc40 mTt) (hc41 mTi) (hc42 mPl) (hc43 mVr) (hc44 mVf) (hc45 mVc) (hc46 mAr) (hc47 mTc) (hc48 v5_f9) (hc49 mGo) dyn, 0, 0)) (h := (37, [(4, .int v5_r9), (0, .ref 25), (1, .int t), (2, .int w), (3, .int f)], [], hq g c1 c2 c3 c4 c5 c6 c7 c8 c9 c10 c11 c12 c13 c14 c15 c16 c17 c18 c19 c20 c21 c22 c23 c24 (hc25 mTy mTm mMn mFn mRn mTn mVn mLr mTr mFl v5_m9 v5_p9 mSc v5_p9 mEn) (hc26 mPa) (hc27 mTo) (hc28 mOt) (hc29 mNa) (hc30 mRe) (hc31 mMa) (hc32 mMy) (hc33 mPm) (hc34 mFy) (hc35 mFa) (hc36 mFr) (hc37 mFo) (hc38 mRt) (hc39 mRm) (hc40 mTt) (hc41 mTi) (hc42 mPl) (hc43 mVr) (hc44 mVf) (hc45 mVc) (hc46 mAr) (hc47 mTc) (hc48 v5_f9) (hc49 mGo) dyn, 0, 0)) rfl (fun h8 => ?_) (fun h8 => ?_)
    ·
      have h8 := qT_ne (cx := (v5_r9).toInt) (cy := (-5)) rfl (by decide) h8
      refine pm_go (g := (44, _, [.int v5_r9], _, 0, 0)) rfl ?_
      refine pm_ret rfl (k0 _ _ _ _ _ ⟨_, h2, ?_⟩ (by omega))
      exact Or.inr (Or.inr ⟨by omega, by omega, rfl⟩)
    have h8 := qF_ne (cx := (v5_r9).toInt) (cy := (-5)) rfl (by decide) h8
    refine pm_go (g := (39, _, [.int (-12)], _, 0, 0)) rfl ?_
    refine pm_go (g := (44, _, [.int (-12)], _, 0, 0)) rfl ?_
    refine pm_ret rfl (k0 _ _ _ _ _ ⟨_, h2, ?_⟩ (by omega))
    exact Or.inr (Or.inl ⟨by omega, rfl⟩)
  have h7 := qF_ne (cx := (v5_r9).toInt) (cy := (-4)) rfl (by decide) h7
  refine pm_go (g := (27, _, [.int (-11)], _, 0, 0)) rfl ?_
  refine pm_go (g := (44, _, [.int (-11)], _, 0, 0)) rfl ?_
  refine pm_ret rfl (k0 _ _ _ _ _ ⟨_, h2, ?_⟩ (by omega))
  exact Or.inl ⟨by omega, rfl⟩
