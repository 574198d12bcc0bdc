def S1M (pa ot na my pm ma fa fy : Nat → Int32) (mn t w f p : Int32) : Prop := ∃ j : Nat, (j : Int) < mn.toInt ∧ (p.toInt ≠ 0 ∧ fitM pa ot na my pm ma fa fy mn t w f 0 p j) ∧ (ma j &&& 1).toInt ≠ 0
def A2M (pa ot na my pm ma fa fy : Nat → Int32) (mn t w f p : Int32) : Prop := ∀ j : Nat, (j : Int) < mn.toInt → (c2M pa fa fy t f ∧ p.toInt ≠ 0 ∧ fitM pa ot na my pm ma fa fy mn t w f 1 p j) → (ma j &&& 1).toInt ≠ 0
/-- the reference's ofBoth, from what the searches gave -/
def boM (ma : Nat → Int32) (s1 a2 : Prop) (p1 r1 p2 r2 sc mp r : Int32) : Prop :=
  ((0 ≤ r1.toInt ∧ (ma r1.toNatClampNeg &&& 1).toInt ≠ 0 ∧ a2) ∧ r = r1 ∧ sc = 0 ∧ mp = p1) ∨
  (¬ (0 ≤ r1.toInt ∧ (ma r1.toNatClampNeg &&& 1).toInt ≠ 0 ∧ a2) ∧ (0 ≤ r2.toInt ∧ ¬ (ma r2.toNatClampNeg &&& 1).toInt ≠ 0 ∧ ¬ s1) ∧ r = r2 ∧ sc = 1 ∧ mp = p2) ∨
  (¬ (0 ≤ r1.toInt ∧ (ma r1.toNatClampNeg &&& 1).toInt ≠ 0 ∧ a2) ∧ ¬ (0 ≤ r2.toInt ∧ ¬ (ma r2.toNatClampNeg &&& 1).toInt ≠ 0 ∧ ¬ s1) ∧ sc = 0 ∧ mp = p1 ∧ (p1.toInt = 0 ∧ p2.toInt = 0) ∧ r = -11) ∨
  (¬ (0 ≤ r1.toInt ∧ (ma r1.toNatClampNeg &&& 1).toInt ≠ 0 ∧ a2) ∧ ¬ (0 ≤ r2.toInt ∧ ¬ (ma r2.toNatClampNeg &&& 1).toInt ≠ 0 ∧ ¬ s1) ∧ sc = 0 ∧ mp = p1 ∧ ¬ (p1.toInt = 0 ∧ p2.toInt = 0) ∧ (¬ s1 ∧ a2) ∧ r = -13) ∨
  (¬ (0 ≤ r1.toInt ∧ (ma r1.toNatClampNeg &&& 1).toInt ≠ 0 ∧ a2) ∧ ¬ (0 ≤ r2.toInt ∧ ¬ (ma r2.toNatClampNeg &&& 1).toInt ≠ 0 ∧ ¬ s1) ∧ sc = 0 ∧ mp = p1 ∧ ¬ (p1.toInt = 0 ∧ p2.toInt = 0) ∧ ¬ (¬ s1 ∧ a2) ∧ r = -12)
def bothM (pa ot na my pm ma fa fy : Nat → Int32) (mn t w f sc mp r : Int32) : Prop := ∃ p1 r1 p2 r2 : Int32, srM pa ot na my pm ma fa fy mn t w f 0 p1 r1 ∧ s2M pa ot na my pm ma fa fy mn t w f p2 r2 ∧ boM ma (S1M pa ot na my pm ma fa fy mn t w f p1) (A2M pa ot na my pm ma fa fy mn t w f p2) p1 r1 p2 r2 sc mp r
theorem sr_fit {pa ot na my pm ma fa fy : Nat → Int32} {mn t w f s p r : Int32} (h : srM pa ot na my pm ma fa fy mn t w f s p r) (hp : p.toInt ≠ 0) : ¬ nfM pa ot na my pm ma fa fy mn t w f s p := by
  rcases h with ⟨h1, _⟩ | ⟨h1, h2, _⟩ | ⟨h1, _, h2, _⟩ | ⟨h1, _, _, h2, _⟩
  · exact absurd (by rw [h1]; decide) hp
  · rw [h1]; exact h2
  · rw [h1]; exact h2
  · rw [h1]; exact h2
theorem bo_s1 {pa ot na my pm ma fa fy ft : Nat → Int32} {mn t w f p : Int32} (hn : 0 ≤ mn.toInt) (h : ftM pa ot na my pm ma fa fy mn t w f 0 p ft) {c : Int32} (hc : c.toInt = cT ft ma mn.toNatClampNeg) : c.toInt = 0 ↔ ¬ S1M pa ot na my pm ma fa fy mn t w f p := by
  have hx := xN hn
  rw [hc, cT_0]
  constructor
  · rintro q ⟨j, q1, q2, q3⟩
    exact q j (by omega) ⟨(h j q1).mpr q2, q3⟩
  · intro q j q1 q2
    exact q ⟨j, by omega, (h j (by omega)).mp q2.1, q2.2⟩
theorem bo_a2 {pa ot na my pm ma fa fy ft : Nat → Int32} {mn t w f p : Int32} (hn : 0 ≤ mn.toInt) (h : f2M pa ot na my pm ma fa fy mn t w f p ft) {c d : Int32} (hc : c.toInt = cT ft ma mn.toNatClampNeg) (hd : d.toInt = cF ft mn.toNatClampNeg) : c.toInt = d.toInt ↔ A2M pa ot na my pm ma fa fy mn t w f p := by
  have hx := xN hn
  rw [hc, hd, cT_all]
  exact ⟨fun q j q1 q2 => q j (by omega) ((h j q1).mpr q2), fun q j q1 q2 => q j (by omega) ((h j (by omega)).mp q2)⟩
theorem bo_p1 {pa ot na my pm ma fa fy ft : Nat → Int32} {mn t w f s p r : Int32} (hn : 0 ≤ mn.toInt) (h : ftM pa ot na my pm ma fa fy mn t w f s p ft) (hr : srM pa ot na my pm ma fa fy mn t w f s p r) {d : Int32} (hd : d.toInt = cF ft mn.toNatClampNeg) : d.toInt = 0 ↔ p.toInt = 0 := by
  have hx := xN hn
  rw [hd, cF_0]
  constructor
  · intro q
    by_cases e : p.toInt = 0
    · exact e
    · exact absurd (fun j q1 q2 => (h j q1).mpr ⟨e, q2⟩ (q j (by omega))) (sr_fit hr e)
  · intro q j q1
    by_cases e : (ft j).toInt = 0
    · exact e
    · exact absurd q ((h j (by omega)).mp e).1
theorem bo_p2 {pa ot na my pm ma fa fy ft : Nat → Int32} {mn t w f p r : Int32} (hn : 0 ≤ mn.toInt) (h : f2M pa ot na my pm ma fa fy mn t w f p ft) (hr : s2M pa ot na my pm ma fa fy mn t w f p r) {d : Int32} (hd : d.toInt = cF ft mn.toNatClampNeg) : d.toInt = 0 ↔ p.toInt = 0 := by
  have hx := xN hn
  rw [hd, cF_0]
  constructor
  · intro q
    by_cases e : p.toInt = 0
    · exact e
    · rcases hr with ⟨h1, h2⟩ | ⟨h1, h2, _⟩
      · exact absurd (fun j q1 q2 => (h j q1).mpr ⟨h1, e, q2⟩ (q j (by omega))) (sr_fit h2 e)
      · exact absurd (by rw [h2]; decide) e
  · intro q j q1
    by_cases e : (ft j).toInt = 0
    · exact e
    · exact absurd q ((h j (by omega)).mp e).2.1
set_option maxRecDepth 100000 in
set_option maxHeartbeats 4000000 in
theorem w_X12_ofBoth {g c1 c2 c3 c4 c5 c6 c7 c8 c9 c10 c11 c12 c13 c14 c15 c16 c17 c18 c19 c20 c21 c22 c23 c24 : pm_C} {dyn : pm_H} {mTy : Int32} {mPa : Nat → Int32} {mTo : Nat → Int32} {mTm : Int32} {mMn : Int32} {mOt : Nat → Int32} {mNa : Nat → Int32} {mRe : Nat → Int32} {mMa : Nat → Int32} {mMy : Nat → Int32} {mPm : Nat → Int32} {mFn : Int32} {mFy : Nat → Int32} {mFa : Nat → Int32} {mFr : Nat → Int32} {mRn : Int32} {mFo : Nat → Int32} {mRt : Nat → Int32} {mRm : Nat → Int32} {mTn : Int32} {mTt : Nat → Int32} {mTi : Nat → Int32} {mPl : Nat → Int32} {mVn : Int32} {mVr : Nat → Int32} {mVf : Nat → Int32} {mVc : Nat → Int32} {mAr : Nat → Int32} {mLr : Int32} {mTc : Nat → Int32} {mTr : Int32} {mFl : Int32} {mFt : Nat → Int32} {mFm : Int32} {mFp : Int32} {mSc : Int32} {mMp : Int32} {mEn : Int32} {mGo : Nat → Int32} {Q : pm_Q} (t : Int32) (w : Int32) (f : Int32) (p0 : 0 ≤ f.toInt ∧ f.toInt < 10) (p1 : 0 ≤ (mFy f.toNatClampNeg).toInt ∧ (mFy f.toNatClampNeg).toInt ≤ 3) (p2 : paD mPa) (p3 : myD mMy) (p4 : vrD mMa mMy) (p5 : 0 ≤ mMn.toInt ∧ mMn.toInt ≤ 40) (k0 : ∀ (f9 : Nat → Int32), ∀ (m9 : Int32), ∀ (q9 : Int32), ∀ (p9 : Int32), ∀ (r9 : Int32), (bothM mPa mOt mNa mMy mPm mMa mFa mFy mMn t w f 0 p9 r9) → ((-15 ≤ r9.toInt ∧ r9.toInt < mMn.toInt) ∧ (0 ≤ p9.toInt ∧ p9.toInt ≤ 3)) → Q (some (.int r9)) (hq g c1 c2 c3 c4 c5 c6 c7 c8 c9 c10 c11 c12 c13 c14 c15 c16 c17 c18 c19 c20 c21 c22 c23 c24 (hc25 mTy mTm mMn mFn mRn mTn mVn mLr mTr mFl m9 q9 mSc p9 mEn) (hc26 mPa) (hc27 mTo) (hc28 mOt) (hc29 mNa) (hc30 mRe) (hc31 mMa) (hc32 mMy) (hc33 mPm) (hc34 mFy) (hc35 mFa) (hc36 mFr) (hc37 mFo) (hc38 mRt) (hc39 mRm) (hc40 mTt) (hc41 mTi) (hc42 mPl) (hc43 mVr) (hc44 mVf) (hc45 mVc) (hc46 mAr) (hc47 mTc) (hc48 f9) (hc49 mGo) dyn)) (k1 : ∀ (f9 : Nat → Int32), ∀ (m9 : Int32), ∀ (q9 : Int32), ∀ (p9 : Int32), ∀ (r9 : Int32), (bothM mPa mOt mNa mMy mPm mMa mFa mFy mMn t w f 1 p9 r9) → ((-15 ≤ r9.toInt ∧ r9.toInt < mMn.toInt) ∧ (0 ≤ p9.toInt ∧ p9.toInt ≤ 3)) → Q (some (.int r9)) (hq g c1 c2 c3 c4 c5 c6 c7 c8 c9 c10 c11 c12 c13 c14 c15 c16 c17 c18 c19 c20 c21 c22 c23 c24 (hc25 mTy mTm mMn mFn mRn mTn mVn mLr mTr mFl m9 q9 1 p9 mEn) (hc26 mPa) (hc27 mTo) (hc28 mOt) (hc29 mNa) (hc30 mRe) (hc31 mMa) (hc32 mMy) (hc33 mPm) (hc34 mFy) (hc35 mFa) (hc36 mFr) (hc37 mFo) (hc38 mRt) (hc39 mRm) (hc40 mTt) (hc41 mTi) (hc42 mPl) (hc43 mVr) (hc44 mVf) (hc45 mVc) (hc46 mAr) (hc47 mTc) (hc48 f9) (hc49 mGo) dyn)) : pm_WP 155 (0, [(0, .ref 25), (1, .int t), (2, .int w), (3, .int f)], [], hq g c1 c2 c3 c4 c5 c6 c7 c8 c9 c10 c11 c12 c13 c14 c15 c16 c17 c18 c19 c20 c21 c22 c23 c24 (hc25 mTy mTm mMn mFn mRn mTn mVn mLr mTr mFl mFm mFp mSc mMp mEn) (hc26 mPa) (hc27 mTo) (hc28 mOt) (hc29 mNa) (hc30 mRe) (hc31 mMa) (hc32 mMy) (hc33 mPm) (hc34 mFy) (hc35 mFa) (hc36 mFr) (hc37 mFo) (hc38 mRt) (hc39 mRm) (hc40 mTt) (hc41 mTi) (hc42 mPl) (hc43 mVr) (hc44 mVf) (hc45 mVc) (hc46 mAr) (hc47 mTc) (hc48 mFt) (hc49 mGo) dyn, 0, 0) Q := by
  have z0 : (0 : Int32).toInt = 0 := by decide
  have z1 : (1 : Int32).toInt = 1 := by decide
  have z_11 : (-11 : Int32).toInt = -11 := by decide
  have z_12 : (-12 : Int32).toInt = -12 := by decide
  have z_13 : (-13 : Int32).toInt = -13 := by decide
  have z_14 : (-14 : Int32).toInt = -14 := by decide
  have z_15 : (-15 : Int32).toInt = -15 := by decide
  have z99 : (99 : Int32).toInt = 99 := by decide
  refine pm_go (g := (1, [(0, .ref 25), (1, .int t), (2, .int w), (3, .int f)], [.ref 25], hq g c1 c2 c3 c4 c5 c6 c7 c8 c9 c10 c11 c12 c13 c14 c15 c16 c17 c18 c19 c20 c21 c22 c23 c24 (hc25 mTy mTm mMn mFn mRn mTn mVn mLr mTr mFl mFm mFp mSc mMp mEn) (hc26 mPa) (hc27 mTo) (hc28 mOt) (hc29 mNa) (hc30 mRe) (hc31 mMa) (hc32 mMy) (hc33 mPm) (hc34 mFy) (hc35 mFa) (hc36 mFr) (hc37 mFo) (hc38 mRt) (hc39 mRm) (hc40 mTt) (hc41 mTi) (hc42 mPl) (hc43 mVr) (hc44 mVf) (hc45 mVc) (hc46 mAr) (hc47 mTc) (hc48 mFt) (hc49 mGo) dyn, 0, 0)) rfl ?_
  refine pm_go (g := (2, _, [.int t, .ref 25], _, 0, 0)) rfl ?_
  refine pm_go (g := (3, _, [.int w, .int t, .ref 25], _, 0, 0)) rfl ?_
  refine pm_go (g := (4, _, [.int f, .int w, .int t, .ref 25], _, 0, 0)) rfl ?_
  refine pm_go (g := (5, _, [.int 0, .int f, .int w, .int t, .ref 25], _, 0, 0)) rfl ?_
  refine pm_callD (z := 150) (as := [.ref 25, .int t, .int w, .int f, .int 0]) (rest := []) rfl ?_
  have h1 : (0 : Int32).toInt = 0 := by decide
  refine w_X12_searched t w f 0 (by omega) (by omega) (by omega) (by assumption) (by assumption) (by assumption) (by omega) (fun v5_f9 v5_m9 v5_p9 v5_r9 h2 h3 h4 h5 => ?_)
  show pm_WP 155 (8, [(0, .ref 25), (1, .int t), (2, .int w), (3, .int f)], [.int v5_r9], _, 0, 0) _
  refine pm_go (g := (10, [(4, .int v5_r9), (0, .ref 25), (1, .int t), (2, .int w), (3, .int f)], [], _, 0, 0)) rfl ?_
  refine pm_go (g := (11, _, [.ref 25], _, 0, 0)) rfl ?_
  refine pm_go (g := (14, _, [.int v5_m9], _, 0, 0)) rfl ?_
  refine pm_go (g := (16, [(5, .int v5_m9), (4, .int v5_r9), (0, .ref 25), (1, .int t), (2, .int w), (3, .int f)], [], _, 0, 0)) rfl ?_
  refine pm_go (g := (17, _, [.ref 25], _, 0, 0)) rfl ?_
  refine pm_callD (z := 153) (as := [.ref 25]) (rest := []) rfl ?_
  refine w_X12_statics  (by omega) (fun v7_r9 h7 => ?_)
  show pm_WP 155 (20, [(5, .int v5_m9), (4, .int v5_r9), (0, .ref 25), (1, .int t), (2, .int w), (3, .int f)], [.int v7_r9], _, 0, 0) _
  refine pm_go (g := (22, [(6, .int v7_r9), (5, .int v5_m9), (4, .int v5_r9), (0, .ref 25), (1, .int t), (2, .int w), (3, .int f)], [], _, 0, 0)) rfl ?_
  refine pm_go (g := (23, _, [.ref 25], _, 0, 0)) rfl ?_
  refine pm_go (g := (24, _, [.ref 25, .ref 25], _, 0, 0)) rfl ?_
  refine pm_go (g := (27, _, [.int v5_p9, .ref 25], _, 0, 0)) rfl ?_
  refine pm_go (g := (30, _, [], hq g c1 c2 c3 c4 c5 c6 c7 c8 c9 c10 c11 c12 c13 c14 c15 c16 c17 c18 c19 c20 c21 c22 c23 c24 (hc25 mTy mTm mMn mFn mRn mTn mVn mLr mTr mFl v5_m9 v5_p9 mSc v5_p9 mEn) (hc26 mPa) (hc27 mTo) (hc28 mOt) (hc29 mNa) (hc30 mRe) (hc31 mMa) (hc32 mMy) (hc33 mPm) (hc34 mFy) (hc35 mFa) (hc36 mFr) (hc37 mFo) (hc38 mRt) (hc39 mRm) (hc40 mTt) (hc41 mTi) (hc42 mPl) (hc43 mVr) (hc44 mVf) (hc45 mVc) (hc46 mAr) (hc47 mTc) (hc48 v5_f9) (hc49 mGo) dyn, 0, 0)) rfl ?_
  refine pm_go (g := (31, _, [.ref 25], _, 0, 0)) rfl ?_
  refine pm_go (g := (32, _, [.int t, .ref 25], _, 0, 0)) rfl ?_
  refine pm_go (g := (33, _, [.int w, .int t, .ref 25], _, 0, 0)) rfl ?_
  refine pm_go (g := (34, _, [.int f, .int w, .int t, .ref 25], _, 0, 0)) rfl ?_
  refine pm_callD (z := 152) (as := [.ref 25, .int t, .int w, .int f]) (rest := []) rfl ?_
  refine w_X12_secondSearched t w f (by omega) (by omega) (by assumption) (by assumption) (by assumption) (by omega) (fun v12_f9 v12_m9 v12_p9 v12_r9 h9 h10 h11 h12 => ?_)
  show pm_WP 155 (37, [(6, .int v7_r9), (5, .int v5_m9), (4, .int v5_r9), (0, .ref 25), (1, .int t), (2, .int w), (3, .int f)], [.int v12_r9], _, 0, 0) _
  refine pm_go (g := (39, [(7, .int v12_r9), (6, .int v7_r9), (5, .int v5_m9), (4, .int v5_r9), (0, .ref 25), (1, .int t), (2, .int w), (3, .int f)], [], _, 0, 0)) rfl ?_
  refine pm_go (g := (40, _, [.ref 25], _, 0, 0)) rfl ?_
  refine pm_callD (z := 153) (as := [.ref 25]) (rest := []) rfl ?_
  refine w_X12_statics  (by omega) (fun v14_r9 h14 => ?_)
  show pm_WP 155 (43, [(7, .int v12_r9), (6, .int v7_r9), (5, .int v5_m9), (4, .int v5_r9), (0, .ref 25), (1, .int t), (2, .int w), (3, .int f)], [.int v14_r9], _, 0, 0) _
  refine pm_go (g := (45, [(8, .int v14_r9), (7, .int v12_r9), (6, .int v7_r9), (5, .int v5_m9), (4, .int v5_r9), (0, .ref 25), (1, .int t), (2, .int w), (3, .int f)], [], _, 0, 0)) rfl ?_
  have hS1 := bo_s1 p5.1 h3 h7
  have hA2 := bo_a2 p5.1 h10 h14 h11
  have hp1 := bo_p1 p5.1 h3 h2 h4
  have hp2 := bo_p2 p5.1 h10 h9 h11
  refine pm_go (g := (47, _, [.int v5_r9], _, 0, 0)) rfl ?_
  refine pm_if2 (g := (72, [(8, .int v14_r9), (7, .int v12_r9), (6, .int v7_r9), (5, .int v5_m9), (4, .int v5_r9), (0, .ref 25), (1, .int t), (2, .int w), (3, .int f)], [], hq g c1 c2 c3 c4 c5 c6 c7 c8 c9 c10 c11 c12 c13 c14 c15 c16 c17 c18 c19 c20 c21 c22 c23 c24 (hc25 mTy mTm mMn mFn mRn mTn mVn mLr mTr mFl v12_m9 v12_p9 mSc v5_p9 mEn) (hc26 mPa) (hc27 mTo) (hc28 mOt) (hc29 mNa) (hc30 mRe) (hc31 mMa) (hc32 mMy) (hc33 mPm) (hc34 mFy) (hc35 mFa) (hc36 mFr) (hc37 mFo) (hc38 mRt) (hc39 mRm) (hc40 mTt) (hc41 mTi) (hc42 mPl) (hc43 mVr) (hc44 mVf) (hc45 mVc) (hc46 mAr) (hc47 mTc) (hc48 v12_f9) (hc49 mGo) dyn, 0, 0)) (h := (50, [(8, .int v14_r9), (7, .int v12_r9), (6, .int v7_r9), (5, .int v5_m9), (4, .int v5_r9), (0, .ref 25), (1, .int t), (2, .int w), (3, .int f)], [], hq g c1 c2 c3 c4 c5 c6 c7 c8 c9 c10 c11 c12 c13 c14 c15 c16 c17 c18 c19 c20 c21 c22 c23 c24 (hc25 mTy mTm mMn mFn mRn mTn mVn mLr mTr mFl v12_m9 v12_p9 mSc v5_p9 mEn) (hc26 mPa) (hc27 mTo) (hc28 mOt) (hc29 mNa) (hc30 mRe) (hc31 mMa) (hc32 mMy) (hc33 mPm) (hc34 mFy) (hc35 mFa) (hc36 mFr) (hc37 mFo) (hc38 mRt) (hc39 mRm) (hc40 mTt) (hc41 mTi) (hc42 mPl) (hc43 mVr) (hc44 mVf) (hc45 mVc) (hc46 mAr) (hc47 mTc) (hc48 v12_f9) (hc49 mGo) dyn, 0, 0)) rfl (fun h16 => ?_) (fun h16 => ?_)
  ·
    have h16 := qT_lt (cx := (v5_r9).toInt) (cy := 0) rfl (by decide) h16
    refine pm_go (g := (74, _, [.int v12_r9], _, 0, 0)) rfl ?_
    refine pm_if2 (g := (108, [(8, .int v14_r9), (7, .int v12_r9), (6, .int v7_r9), (5, .int v5_m9), (4, .int v5_r9), (0, .ref 25), (1, .int t), (2, .int w), (3, .int f)], [], hq g c1 c2 c3 c4 c5 c6 c7 c8 c9 c10 c11 c12 c13 c14 c15 c16 c17 c18 c19 c20 c21 c22 c23 c24 (hc25 mTy mTm mMn mFn mRn mTn mVn mLr mTr mFl v12_m9 v12_p9 mSc v5_p9 mEn) (hc26 mPa) (hc27 mTo) (hc28 mOt) (hc29 mNa) (hc30 mRe) (hc31 mMa) (hc32 mMy) (hc33 mPm) (hc34 mFy) (hc35 mFa) (hc36 mFr) (hc37 mFo) (hc38 mRt) (hc39 mRm) (hc40 mTt) (hc41 mTi) (hc42 mPl) (hc43 mVr) (hc44 mVf) (hc45 mVc) (hc46 mAr) (hc47 mTc) (hc48 v12_f9) (hc49 mGo) dyn, 0, 0)) (h := (77, [(8, .int v14_r9), (7, .int v12_r9), (6, .int v7_r9), (5, .int v5_m9), (4, .int v5_r9), (0, .ref 25), (1, .int t), (2, .int w), (3, .int f)], [], hq g c1 c2 c3 c4 c5 c6 c7 c8 c9 c10 c11 c12 c13 c14 c15 c16 c17 c18 c19 c20 c21 c22 c23 c24 (hc25 mTy mTm mMn mFn mRn mTn mVn mLr mTr mFl v12_m9 v12_p9 mSc v5_p9 mEn) (hc26 mPa) (hc27 mTo) (hc28 mOt) (hc29 mNa) (hc30 mRe) (hc31 mMa) (hc32 mMy) (hc33 mPm) (hc34 mFy) (hc35 mFa) (hc36 mFr) (hc37 mFo) (hc38 mRt) (hc39 mRm) (hc40 mTt) (hc41 mTi) (hc42 mPl) (hc43 mVr) (hc44 mVf) (hc45 mVc) (hc46 mAr) (hc47 mTc) (hc48 v12_f9) (hc49 mGo) dyn, 0, 0)) rfl (fun h17 => ?_) (fun h17 => ?_)
    ·
      have h17 := qT_lt (cx := (v12_r9).toInt) (cy := 0) rfl (by decide) h17
      refine pm_go (g := (110, _, [.int v5_m9], _, 0, 0)) rfl ?_
      refine pm_if2 (g := (125, [(8, .int v14_r9), (7, .int v12_r9), (6, .int v7_r9), (5, .int v5_m9), (4, .int v5_r9), (0, .ref 25), (1, .int t), (2, .int w), (3, .int f)], [], hq g c1 c2 c3 c4 c5 c6 c7 c8 c9 c10 c11 c12 c13 c14 c15 c16 c17 c18 c19 c20 c21 c22 c23 c24 (hc25 mTy mTm mMn mFn mRn mTn mVn mLr mTr mFl v12_m9 v12_p9 mSc v5_p9 mEn) (hc26 mPa) (hc27 mTo) (hc28 mOt) (hc29 mNa) (hc30 mRe) (hc31 mMa) (hc32 mMy) (hc33 mPm) (hc34 mFy) (hc35 mFa) (hc36 mFr) (hc37 mFo) (hc38 mRt) (hc39 mRm) (hc40 mTt) (hc41 mTi) (hc42 mPl) (hc43 mVr) (hc44 mVf) (hc45 mVc) (hc46 mAr) (hc47 mTc) (hc48 v12_f9) (hc49 mGo) dyn, 0, 0)) (h := (113, [(8, .int v14_r9), (7, .int v12_r9), (6, .int v7_r9), (5, .int v5_m9), (4, .int v5_r9), (0, .ref 25), (1, .int t), (2, .int w), (3, .int f)], [], hq g c1 c2 c3 c4 c5 c6 c7 c8 c9 c10 c11 c12 c13 c14 c15 c16 c17 c18 c19 c20 c21 c22 c23 c24 (hc25 mTy mTm mMn mFn mRn mTn mVn mLr mTr mFl v12_m9 v12_p9 mSc v5_p9 mEn) (hc26 mPa) (hc27 mTo) (hc28 mOt) (hc29 mNa) (hc30 mRe) (hc31 mMa) (hc32 mMy) (hc33 mPm) (hc34 mFy) (hc35 mFa) (hc36 mFr) (hc37 mFo) (hc38 mRt) (hc39 mRm) (hc40 mTt) (hc41 mTi) (hc42 mPl) (hc43 mVr) (hc44 mVf) (hc45 mVc) (hc46 mAr) (hc47 mTc) (hc48 v12_f9) (hc49 mGo) dyn, 0, 0)) rfl (fun h18 => ?_) (fun h18 => ?_)
      ·
        have h18 := qT_ne (cx := (v5_m9).toInt) (cy := 0) rfl (by decide) h18
        refine pm_go (g := (127, _, [.int v7_r9], _, 0, 0)) rfl ?_
        refine pm_if2 (g := (144, [(8, .int v14_r9), (7, .int v12_r9), (6, .int v7_r9), (5, .int v5_m9), (4, .int v5_r9), (0, .ref 25), (1, .int t), (2, .int w), (3, .int f)], [], hq g c1 c2 c3 c4 c5 c6 c7 c8 c9 c10 c11 c12 c13 c14 c15 c16 c17 c18 c19 c20 c21 c22 c23 c24 (hc25 mTy mTm mMn mFn mRn mTn mVn mLr mTr mFl v12_m9 v12_p9 mSc v5_p9 mEn) (hc26 mPa) (hc27 mTo) (hc28 mOt) (hc29 mNa) (hc30 mRe) (hc31 mMa) (hc32 mMy) (hc33 mPm) (hc34 mFy) (hc35 mFa) (hc36 mFr) (hc37 mFo) (hc38 mRt) (hc39 mRm) (hc40 mTt) (hc41 mTi) (hc42 mPl) (hc43 mVr) (hc44 mVf) (hc45 mVc) (hc46 mAr) (hc47 mTc) (hc48 v12_f9) (hc49 mGo) dyn, 0, 0)) (h := (130, [(8, .int v14_r9), (7, .int v12_r9), (6, .int v7_r9), (5, .int v5_m9), (4, .int v5_r9), (0, .ref 25), (1, .int t), (2, .int w), (3, .int f)], [], hq g c1 c2 c3 c4 c5 c6 c7 c8 c9 c10 c11 c12 c13 c14 c15 c16 c17 c18 c19 c20 c21 c22 c23 c24 (hc25 mTy mTm mMn mFn mRn mTn mVn mLr mTr mFl v12_m9 v12_p9 mSc v5_p9 mEn) (hc26 mPa) (hc27 mTo) (hc28 mOt) (hc29 mNa) (hc30 mRe) (hc31 mMa) (hc32 mMy) (hc33 mPm) (hc34 mFy) (hc35 mFa) (hc36 mFr) (hc37 mFo) (hc38 mRt) (hc39 mRm) (hc40 mTt) (hc41 mTi) (hc42 mPl) (hc43 mVr) (hc44 mVf) (hc45 mVc) (hc46 mAr) (hc47 mTc) (hc48 v12_f9) (hc49 mGo) dyn, 0, 0)) rfl (fun h19 => ?_) (fun h19 => ?_)
        ·
          have h19 := qT_ne (cx := (v7_r9).toInt) (cy := 0) rfl (by decide) h19
          refine pm_go (g := (146, _, [.int (-12)], _, 0, 0)) rfl ?_
          refine pm_ret rfl (k0 _ _ _ _ _ ⟨_, _, _, _, h2, h9, ?_⟩ (by omega))
          exact Or.inr (Or.inr (Or.inr (Or.inr ⟨(fun ⟨a, b, c⟩ => by have c1 := hA2.mpr c; omega), (fun ⟨a, b, c⟩ => by have c1 := hS1.mpr c; omega), rfl, rfl, by omega, (fun ⟨a, b⟩ => by have c1 := hS1.mpr a; have c2 := hA2.mpr b; omega), rfl⟩)))
        have h19 := qF_ne (cx := (v7_r9).toInt) (cy := 0) rfl (by decide) h19
        refine pm_go (g := (132, _, [.int v14_r9], _, 0, 0)) rfl ?_
        refine pm_go (g := (133, _, [.ref 25, .int v14_r9], _, 0, 0)) rfl ?_
        refine pm_go (g := (136, _, [.int v12_m9, .int v14_r9], _, 0, 0)) rfl ?_
        refine pm_if2 (g := (144, [(8, .int v14_r9), (7, .int v12_r9), (6, .int v7_r9), (5, .int v5_m9), (4, .int v5_r9), (0, .ref 25), (1, .int t), (2, .int w), (3, .int f)], [], hq g c1 c2 c3 c4 c5 c6 c7 c8 c9 c10 c11 c12 c13 c14 c15 c16 c17 c18 c19 c20 c21 c22 c23 c24 (hc25 mTy mTm mMn mFn mRn mTn mVn mLr mTr mFl v12_m9 v12_p9 mSc v5_p9 mEn) (hc26 mPa) (hc27 mTo) (hc28 mOt) (hc29 mNa) (hc30 mRe) (hc31 mMa) (hc32 mMy) (hc33 mPm) (hc34 mFy) (hc35 mFa) (hc36 mFr) (hc37 mFo) (hc38 mRt) (hc39 mRm) (hc40 mTt) (hc41 mTi) (hc42 mPl) (hc43 mVr) (hc44 mVf) (hc45 mVc) (hc46 mAr) (hc47 mTc) (hc48 v12_f9) (hc49 mGo) dyn, 0, 0)) (h := (139, [(8, .int v14_r9), (7, .int v12_r9), (6, .int v7_r9), (5, .int v5_m9), (4, .int v5_r9), (0, .ref 25), (1, .int t), (2, .int w), (3, .int f)], [], hq g c1 c2 c3 c4 c5 c6 c7 c8 c9 c10 c11 c12 c13 c14 c15 c16 c17 c18 c19 c20 c21 c22 c23 c24 (hc25 mTy mTm mMn mFn mRn mTn mVn mLr mTr mFl v12_m9 v12_p9 mSc v5_p9 mEn) (hc26 mPa) (hc27 mTo) (hc28 mOt) (hc29 mNa) (hc30 mRe) (hc31 mMa) (hc32 mMy) (hc33 mPm) (hc34 mFy) (hc35 mFa) (hc36 mFr) (hc37 mFo) (hc38 mRt) (hc39 mRm) (hc40 mTt) (hc41 mTi) (hc42 mPl) (hc43 mVr) (hc44 mVf) (hc45 mVc) (hc46 mAr) (hc47 mTc) (hc48 v12_f9) (hc49 mGo) dyn, 0, 0)) rfl (fun h20 => ?_) (fun h20 => ?_)
        ·
          have h20 := qT_ne (cx := (v14_r9).toInt) (cy := (v12_m9).toInt) rfl rfl h20
          refine pm_go (g := (146, _, [.int (-12)], _, 0, 0)) rfl ?_
          refine pm_ret rfl (k0 _ _ _ _ _ ⟨_, _, _, _, h2, h9, ?_⟩ (by omega))
          exact Or.inr (Or.inr (Or.inr (Or.inr ⟨(fun ⟨a, b, c⟩ => by have c1 := hA2.mpr c; omega), (fun ⟨a, b, c⟩ => by have c1 := hS1.mpr c; omega), rfl, rfl, by omega, (fun ⟨a, b⟩ => by have c1 := hS1.mpr a; have c2 := hA2.mpr b; omega), rfl⟩)))
        have h20 := qF_ne (cx := (v14_r9).toInt) (cy := (v12_m9).toInt) rfl rfl h20
        refine pm_go (g := (141, _, [.int (-13)], _, 0, 0)) rfl ?_
        refine pm_go (g := (146, _, [.int (-13)], _, 0, 0)) rfl ?_
        refine pm_ret rfl (k0 _ _ _ _ _ ⟨_, _, _, _, h2, h9, ?_⟩ (by omega))
        exact Or.inr (Or.inr (Or.inr (Or.inl ⟨(fun ⟨a, b, c⟩ => by have c1 := hA2.mpr c; omega), (fun ⟨a, b, c⟩ => by have c1 := hS1.mpr c; omega), rfl, rfl, by omega, ⟨hS1.mp (by omega), hA2.mp (by omega)⟩, rfl⟩)))
      have h18 := qF_ne (cx := (v5_m9).toInt) (cy := 0) rfl (by decide) h18
      refine pm_go (g := (114, _, [.ref 25], _, 0, 0)) rfl ?_
      refine pm_go (g := (117, _, [.int v12_m9], _, 0, 0)) rfl ?_
      refine pm_if2 (g := (125, [(8, .int v14_r9), (7, .int v12_r9), (6, .int v7_r9), (5, .int v5_m9), (4, .int v5_r9), (0, .ref 25), (1, .int t), (2, .int w), (3, .int f)], [], hq g c1 c2 c3 c4 c5 c6 c7 c8 c9 c10 c11 c12 c13 c14 c15 c16 c17 c18 c19 c20 c21 c22 c23 c24 (hc25 mTy mTm mMn mFn mRn mTn mVn mLr mTr mFl v12_m9 v12_p9 mSc v5_p9 mEn) (hc26 mPa) (hc27 mTo) (hc28 mOt) (hc29 mNa) (hc30 mRe) (hc31 mMa) (hc32 mMy) (hc33 mPm) (hc34 mFy) (hc35 mFa) (hc36 mFr) (hc37 mFo) (hc38 mRt) (hc39 mRm) (hc40 mTt) (hc41 mTi) (hc42 mPl) (hc43 mVr) (hc44 mVf) (hc45 mVc) (hc46 mAr) (hc47 mTc) (hc48 v12_f9) (hc49 mGo) dyn, 0, 0)) (h := (120, [(8, .int v14_r9), (7, .int v12_r9), (6, .int v7_r9), (5, .int v5_m9), (4, .int v5_r9), (0, .ref 25), (1, .int t), (2, .int w), (3, .int f)], [], hq g c1 c2 c3 c4 c5 c6 c7 c8 c9 c10 c11 c12 c13 c14 c15 c16 c17 c18 c19 c20 c21 c22 c23 c24 (hc25 mTy mTm mMn mFn mRn mTn mVn mLr mTr mFl v12_m9 v12_p9 mSc v5_p9 mEn) (hc26 mPa) (hc27 mTo) (hc28 mOt) (hc29 mNa) (hc30 mRe) (hc31 mMa) (hc32 mMy) (hc33 mPm) (hc34 mFy) (hc35 mFa) (hc36 mFr) (hc37 mFo) (hc38 mRt) (hc39 mRm) (hc40 mTt) (hc41 mTi) (hc42 mPl) (hc43 mVr) (hc44 mVf) (hc45 mVc) (hc46 mAr) (hc47 mTc) (hc48 v12_f9) (hc49 mGo) dyn, 0, 0)) rfl (fun h21 => ?_) (fun h21 => ?_)
      ·
        have h21 := qT_ne (cx := (v12_m9).toInt) (cy := 0) rfl (by decide) h21
        refine pm_go (g := (127, _, [.int v7_r9], _, 0, 0)) rfl ?_
        refine pm_if2 (g := (144, [(8, .int v14_r9), (7, .int v12_r9), (6, .int v7_r9), (5, .int v5_m9), (4, .int v5_r9), (0, .ref 25), (1, .int t), (2, .int w), (3, .int f)], [], hq g c1 c2 c3 c4 c5 c6 c7 c8 c9 c10 c11 c12 c13 c14 c15 c16 c17 c18 c19 c20 c21 c22 c23 c24 (hc25 mTy mTm mMn mFn mRn mTn mVn mLr mTr mFl v12_m9 v12_p9 mSc v5_p9 mEn) (hc26 mPa) (hc27 mTo) (hc28 mOt) (hc29 mNa) (hc30 mRe) (hc31 mMa) (hc32 mMy) (hc33 mPm) (hc34 mFy) (hc35 mFa) (hc36 mFr) (hc37 mFo) (hc38 mRt) (hc39 mRm) (hc40 mTt) (hc41 mTi) (hc42 mPl) (hc43 mVr) (hc44 mVf) (hc45 mVc) (hc46 mAr) (hc47 mTc) (hc48 v12_f9) (hc49 mGo) dyn, 0, 0)) (h := (130, [(8, .int v14_r9), (7, .int v12_r9), (6, .int v7_r9), (5, .int v5_m9), (4, .int v5_r9), (0, .ref 25), (1, .int t), (2, .int w), (3, .int f)], [], hq g c1 c2 c3 c4 c5 c6 c7 c8 c9 c10 c11 c12 c13 c14 c15 c16 c17 c18 c19 c20 c21 c22 c23 c24 (hc25 mTy mTm mMn mFn mRn mTn mVn mLr mTr mFl v12_m9 v12_p9 mSc v5_p9 mEn) (hc26 mPa) (hc27 mTo) (hc28 mOt) (hc29 mNa) (hc30 mRe) (hc31 mMa) (hc32 mMy) (hc33 mPm) (hc34 mFy) (hc35 mFa) (hc36 mFr) (hc37 mFo) (hc38 mRt) (hc39 mRm) (hc40 mTt) (hc41 mTi) (hc42 mPl) (hc43 mVr) (hc44 mVf) (hc45 mVc) (hc46 mAr) (hc47 mTc) (hc48 v12_f9) (hc49 mGo) dyn, 0, 0)) rfl (fun h22 => ?_) (fun h22 => ?_)
        ·
          have h22 := qT_ne (cx := (v7_r9).toInt) (cy := 0) rfl (by decide) h22
          refine pm_go (g := (146, _, [.int (-12)], _, 0, 0)) rfl ?_
          refine pm_ret rfl (k0 _ _ _ _ _ ⟨_, _, _, _, h2, h9, ?_⟩ (by omega))
          exact Or.inr (Or.inr (Or.inr (Or.inr ⟨(fun ⟨a, b, c⟩ => by have c1 := hA2.mpr c; omega), (fun ⟨a, b, c⟩ => by have c1 := hS1.mpr c; omega), rfl, rfl, by omega, (fun ⟨a, b⟩ => by have c1 := hS1.mpr a; have c2 := hA2.mpr b; omega), rfl⟩)))
        have h22 := qF_ne (cx := (v7_r9).toInt) (cy := 0) rfl (by decide) h22
        refine pm_go (g := (132, _, [.int v14_r9], _, 0, 0)) rfl ?_
        refine pm_go (g := (133, _, [.ref 25, .int v14_r9], _, 0, 0)) rfl ?_
        refine pm_go (g := (136, _, [.int v12_m9, .int v14_r9], _, 0, 0)) rfl ?_
        refine pm_if2 (g := (144, [(8, .int v14_r9), (7, .int v12_r9), (6, .int v7_r9), (5, .int v5_m9), (4, .int v5_r9), (0, .ref 25), (1, .int t), (2, .int w), (3, .int f)], [], hq g c1 c2 c3 c4 c5 c6 c7 c8 c9 c10 c11 c12 c13 c14 c15 c16 c17 c18 c19 c20 c21 c22 c23 c24 (hc25 mTy mTm mMn mFn mRn mTn mVn mLr mTr mFl v12_m9 v12_p9 mSc v5_p9 mEn) (hc26 mPa) (hc27 mTo) (hc28 mOt) (hc29 mNa) (hc30 mRe) (hc31 mMa) (hc32 mMy) (hc33 mPm) (hc34 mFy) (hc35 mFa) (hc36 mFr) (hc37 mFo) (hc38 mRt) (hc39 mRm) (hc40 mTt) (hc41 mTi) (hc42 mPl) (hc43 mVr) (hc44 mVf) (hc45 mVc) (hc46 mAr) (hc47 mTc) (hc48 v12_f9) (hc49 mGo) dyn, 0, 0)) (h := (139, [(8, .int v14_r9), (7, .int v12_r9), (6, .int v7_r9), (5, .int v5_m9), (4, .int v5_r9), (0, .ref 25), (1, .int t), (2, .int w), (3, .int f)], [], hq g c1 c2 c3 c4 c5 c6 c7 c8 c9 c10 c11 c12 c13 c14 c15 c16 c17 c18 c19 c20 c21 c22 c23 c24 (hc25 mTy mTm mMn mFn mRn mTn mVn mLr mTr mFl v12_m9 v12_p9 mSc v5_p9 mEn) (hc26 mPa) (hc27 mTo) (hc28 mOt) (hc29 mNa) (hc30 mRe) (hc31 mMa) (hc32 mMy) (hc33 mPm) (hc34 mFy) (hc35 mFa) (hc36 mFr) (hc37 mFo) (hc38 mRt) (hc39 mRm) (hc40 mTt) (hc41 mTi) (hc42 mPl) (hc43 mVr) (hc44 mVf) (hc45 mVc) (hc46 mAr) (hc47 mTc) (hc48 v12_f9) (hc49 mGo) dyn, 0, 0)) rfl (fun h23 => ?_) (fun h23 => ?_)
        ·
          have h23 := qT_ne (cx := (v14_r9).toInt) (cy := (v12_m9).toInt) rfl rfl h23
          refine pm_go (g := (146, _, [.int (-12)], _, 0, 0)) rfl ?_
          refine pm_ret rfl (k0 _ _ _ _ _ ⟨_, _, _, _, h2, h9, ?_⟩ (by omega))
          exact Or.inr (Or.inr (Or.inr (Or.inr ⟨(fun ⟨a, b, c⟩ => by have c1 := hA2.mpr c; omega), (fun ⟨a, b, c⟩ => by have c1 := hS1.mpr c; omega), rfl, rfl, by omega, (fun ⟨a, b⟩ => by have c1 := hS1.mpr a; have c2 := hA2.mpr b; omega), rfl⟩)))
        have h23 := qF_ne (cx := (v14_r9).toInt) (cy := (v12_m9).toInt) rfl rfl h23
        refine pm_go (g := (141, _, [.int (-13)], _, 0, 0)) rfl ?_
        refine pm_go (g := (146, _, [.int (-13)], _, 0, 0)) rfl ?_
        refine pm_ret rfl (k0 _ _ _ _ _ ⟨_, _, _, _, h2, h9, ?_⟩ (by omega))
        exact Or.inr (Or.inr (Or.inr (Or.inl ⟨(fun ⟨a, b, c⟩ => by have c1 := hA2.mpr c; omega), (fun ⟨a, b, c⟩ => by have c1 := hS1.mpr c; omega), rfl, rfl, by omega, ⟨hS1.mp (by omega), hA2.mp (by omega)⟩, rfl⟩)))
      have h21 := qF_ne (cx := (v12_m9).toInt) (cy := 0) rfl (by decide) h21
      refine pm_go (g := (122, _, [.int (-11)], _, 0, 0)) rfl ?_
      refine pm_go (g := (146, _, [.int (-11)], _, 0, 0)) rfl ?_
      refine pm_ret rfl (k0 _ _ _ _ _ ⟨_, _, _, _, h2, h9, ?_⟩ (by omega))
      exact Or.inr (Or.inr (Or.inl ⟨(fun ⟨a, b, c⟩ => by have c1 := hA2.mpr c; omega), (fun ⟨a, b, c⟩ => by have c1 := hS1.mpr c; omega), rfl, rfl, by omega, rfl⟩))
    have h17 := qF_lt (cx := (v12_r9).toInt) (cy := 0) rfl (by decide) h17
    refine pm_go (g := (78, _, [.ref 25], _, 0, 0)) rfl ?_
    refine pm_go (g := (80, _, [.int v12_r9, .ref 25], _, 0, 0)) rfl ?_
    refine pm_go (g := (81, _, [.int 1, .int v12_r9, .ref 25], _, 0, 0)) rfl ?_
    refine pm_callD (z := 139) (as := [.ref 25, .int v12_r9, .int 1]) (rest := []) rfl ?_
    have h24 : (1 : Int32).toInt = 1 := by decide
    refine w_X12_isMark v12_r9 1 (by omega) (fun h25 => ?_) (fun h26 => ?_)
    ·
      show pm_WP 155 (84, [(8, .int v14_r9), (7, .int v12_r9), (6, .int v7_r9), (5, .int v5_m9), (4, .int v5_r9), (0, .ref 25), (1, .int t), (2, .int w), (3, .int f)], [.int 1], _, 0, 0) _
      refine pm_brT (g := (108, [(8, .int v14_r9), (7, .int v12_r9), (6, .int v7_r9), (5, .int v5_m9), (4, .int v5_r9), (0, .ref 25), (1, .int t), (2, .int w), (3, .int f)], [], hq g c1 c2 c3 c4 c5 c6 c7 c8 c9 c10 c11 c12 c13 c14 c15 c16 c17 c18 c19 c20 c21 c22 c23 c24 (hc25 mTy mTm mMn mFn mRn mTn mVn mLr mTr mFl v12_m9 v12_p9 mSc v5_p9 mEn) (hc26 mPa) (hc27 mTo) (hc28 mOt) (hc29 mNa) (hc30 mRe) (hc31 mMa) (hc32 mMy) (hc33 mPm) (hc34 mFy) (hc35 mFa) (hc36 mFr) (hc37 mFo) (hc38 mRt) (hc39 mRm) (hc40 mTt) (hc41 mTi) (hc42 mPl) (hc43 mVr) (hc44 mVf) (hc45 mVc) (hc46 mAr) (hc47 mTc) (hc48 v12_f9) (hc49 mGo) dyn, 0, 0)) rfl ?_
      refine pm_go (g := (110, _, [.int v5_m9], _, 0, 0)) rfl ?_
      refine pm_if2 (g := (125, [(8, .int v14_r9), (7, .int v12_r9), (6, .int v7_r9), (5, .int v5_m9), (4, .int v5_r9), (0, .ref 25), (1, .int t), (2, .int w), (3, .int f)], [], hq g c1 c2 c3 c4 c5 c6 c7 c8 c9 c10 c11 c12 c13 c14 c15 c16 c17 c18 c19 c20 c21 c22 c23 c24 (hc25 mTy mTm mMn mFn mRn mTn mVn mLr mTr mFl v12_m9 v12_p9 mSc v5_p9 mEn) (hc26 mPa) (hc27 mTo) (hc28 mOt) (hc29 mNa) (hc30 mRe) (hc31 mMa) (hc32 mMy) (hc33 mPm) (hc34 mFy) (hc35 mFa) (hc36 mFr) (hc37 mFo) (hc38 mRt) (hc39 mRm) (hc40 mTt) (hc41 mTi) (hc42 mPl) (hc43 mVr) (hc44 mVf) (hc45 mVc) (hc46 mAr) (hc47 mTc) (hc48 v12_f9) (hc49 mGo) dyn, 0, 0)) (h := (113, [(8, .int v14_r9), (7, .int v12_r9), (6, .int v7_r9), (5, .int v5_m9), (4, .int v5_r9), (0, .ref 25), (1, .int t), (2, .int w), (3, .int f)], [], hq g c1 c2 c3 c4 c5 c6 c7 c8 c9 c10 c11 c12 c13 c14 c15 c16 c17 c18 c19 c20 c21 c22 c23 c24 (hc25 mTy mTm mMn mFn mRn mTn mVn mLr mTr mFl v12_m9 v12_p9 mSc v5_p9 mEn) (hc26 mPa) (hc27 mTo) (hc28 mOt) (hc29 mNa) (hc30 mRe) (hc31 mMa) (hc32 mMy) (hc33 mPm) (hc34 mFy) (hc35 mFa) (hc36 mFr) (hc37 mFo) (hc38 mRt) (hc39 mRm) (hc40 mTt) (hc41 mTi) (hc42 mPl) (hc43 mVr) (hc44 mVf) (hc45 mVc) (hc46 mAr) (hc47 mTc) (hc48 v12_f9) (hc49 mGo) dyn, 0, 0)) rfl (fun h28 => ?_) (fun h28 => ?_)
      ·
        have h28 := qT_ne (cx := (v5_m9).toInt) (cy := 0) rfl (by decide) h28
        refine pm_go (g := (127, _, [.int v7_r9], _, 0, 0)) rfl ?_
        refine pm_if2 (g := (144, [(8, .int v14_r9), (7, .int v12_r9), (6, .int v7_r9), (5, .int v5_m9), (4, .int v5_r9), (0, .ref 25), (1, .int t), (2, .int w), (3, .int f)], [], hq g c1 c2 c3 c4 c5 c6 c7 c8 c9 c10 c11 c12 c13 c14 c15 c16 c17 c18 c19 c20 c21 c22 c23 c24 (hc25 mTy mTm mMn mFn mRn mTn mVn mLr mTr mFl v12_m9 v12_p9 mSc v5_p9 mEn) (hc26 mPa) (hc27 mTo) (hc28 mOt) (hc29 mNa) (hc30 mRe) (hc31 mMa) (hc32 mMy) (hc33 mPm) (hc34 mFy) (hc35 mFa) (hc36 mFr) (hc37 mFo) (hc38 mRt) (hc39 mRm) (hc40 mTt) (hc41 mTi) (hc42 mPl) (hc43 mVr) (hc44 mVf) (hc45 mVc) (hc46 mAr) (hc47 mTc) (hc48 v12_f9) (hc49 mGo) dyn, 0, 0)) (h := (130, [(8, .int v14_r9), (7, .int v12_r9), (6, .int v7_r9), (5, .int v5_m9), (4, .int v5_r9), (0, .ref 25), (1, .int t), (2, .int w), (3, .int f)], [], hq g c1 c2 c3 c4 c5 c6 c7 c8 c9 c10 c11 c12 c13 c14 c15 c16 c17 c18 c19 c20 c21 c22 c23 c24 (hc25 mTy mTm mMn mFn mRn mTn mVn mLr mTr mFl v12_m9 v12_p9 mSc v5_p9 mEn) (hc26 mPa) (hc27 mTo) (hc28 mOt) (hc29 mNa) (hc30 mRe) (hc31 mMa) (hc32 mMy) (hc33 mPm) (hc34 mFy) (hc35 mFa) (hc36 mFr) (hc37 mFo) (hc38 mRt) (hc39 mRm) (hc40 mTt) (hc41 mTi) (hc42 mPl) (hc43 mVr) (hc44 mVf) (hc45 mVc) (hc46 mAr) (hc47 mTc) (hc48 v12_f9) (hc49 mGo) dyn, 0, 0)) rfl (fun h29 => ?_) (fun h29 => ?_)
        ·
          have h29 := qT_ne (cx := (v7_r9).toInt) (cy := 0) rfl (by decide) h29
          refine pm_go (g := (146, _, [.int (-12)], _, 0, 0)) rfl ?_
          refine pm_ret rfl (k0 _ _ _ _ _ ⟨_, _, _, _, h2, h9, ?_⟩ (by omega))
          exact Or.inr (Or.inr (Or.inr (Or.inr ⟨(fun ⟨a, b, c⟩ => by have c1 := hA2.mpr c; omega), (fun ⟨a, b, c⟩ => by have c1 := hS1.mpr c; omega), rfl, rfl, by omega, (fun ⟨a, b⟩ => by have c1 := hS1.mpr a; have c2 := hA2.mpr b; omega), rfl⟩)))
        have h29 := qF_ne (cx := (v7_r9).toInt) (cy := 0) rfl (by decide) h29
        refine pm_go (g := (132, _, [.int v14_r9], _, 0, 0)) rfl ?_
        refine pm_go (g := (133, _, [.ref 25, .int v14_r9], _, 0, 0)) rfl ?_
        refine pm_go (g := (136, _, [.int v12_m9, .int v14_r9], _, 0, 0)) rfl ?_
        refine pm_if2 (g := (144, [(8, .int v14_r9), (7, .int v12_r9), (6, .int v7_r9), (5, .int v5_m9), (4, .int v5_r9), (0, .ref 25), (1, .int t), (2, .int w), (3, .int f)], [], hq g c1 c2 c3 c4 c5 c6 c7 c8 c9 c10 c11 c12 c13 c14 c15 c16 c17 c18 c19 c20 c21 c22 c23 c24 (hc25 mTy mTm mMn mFn mRn mTn mVn mLr mTr mFl v12_m9 v12_p9 mSc v5_p9 mEn) (hc26 mPa) (hc27 mTo) (hc28 mOt) (hc29 mNa) (hc30 mRe) (hc31 mMa) (hc32 mMy) (hc33 mPm) (hc34 mFy) (hc35 mFa) (hc36 mFr) (hc37 mFo) (hc38 mRt) (hc39 mRm) (hc40 mTt) (hc41 mTi) (hc42 mPl) (hc43 mVr) (hc44 mVf) (hc45 mVc) (hc46 mAr) (hc47 mTc) (hc48 v12_f9) (hc49 mGo) dyn, 0, 0)) (h := (139, [(8, .int v14_r9), (7, .int v12_r9), (6, .int v7_r9), (5, .int v5_m9), (4, .int v5_r9), (0, .ref 25), (1, .int t), (2, .int w), (3, .int f)], [], hq g c1 c2 c3 c4 c5 c6 c7 c8 c9 c10 c11 c12 c13 c14 c15 c16 c17 c18 c19 c20 c21 c22 c23 c24 (hc25 mTy mTm mMn mFn mRn mTn mVn mLr mTr mFl v12_m9 v12_p9 mSc v5_p9 mEn) (hc26 mPa) (hc27 mTo) (hc28 mOt) (hc29 mNa) (hc30 mRe) (hc31 mMa) (hc32 mMy) (hc33 mPm) (hc34 mFy) (hc35 mFa) (hc36 mFr) (hc37 mFo) (hc38 mRt) (hc39 mRm) (hc40 mTt) (hc41 mTi) (hc42 mPl) (hc43 mVr) (hc44 mVf) (hc45 mVc) (hc46 mAr) (hc47 mTc) (hc48 v12_f9) (hc49 mGo) dyn, 0, 0)) rfl (fun h30 => ?_) (fun h30 => ?_)
        ·
          have h30 := qT_ne (cx := (v14_r9).toInt) (cy := (v12_m9).toInt) rfl rfl h30
          refine pm_go (g := (146, _, [.int (-12)], _, 0, 0)) rfl ?_
          refine pm_ret rfl (k0 _ _ _ _ _ ⟨_, _, _, _, h2, h9, ?_⟩ (by omega))
          exact Or.inr (Or.inr (Or.inr (Or.inr ⟨(fun ⟨a, b, c⟩ => by have c1 := hA2.mpr c; omega), (fun ⟨a, b, c⟩ => by have c1 := hS1.mpr c; omega), rfl, rfl, by omega, (fun ⟨a, b⟩ => by have c1 := hS1.mpr a; have c2 := hA2.mpr b; omega), rfl⟩)))
        have h30 := qF_ne (cx := (v14_r9).toInt) (cy := (v12_m9).toInt) rfl rfl h30
        refine pm_go (g := (141, _, [.int (-13)], _, 0, 0)) rfl ?_
        refine pm_go (g := (146, _, [.int (-13)], _, 0, 0)) rfl ?_
        refine pm_ret rfl (k0 _ _ _ _ _ ⟨_, _, _, _, h2, h9, ?_⟩ (by omega))
        exact Or.inr (Or.inr (Or.inr (Or.inl ⟨(fun ⟨a, b, c⟩ => by have c1 := hA2.mpr c; omega), (fun ⟨a, b, c⟩ => by have c1 := hS1.mpr c; omega), rfl, rfl, by omega, ⟨hS1.mp (by omega), hA2.mp (by omega)⟩, rfl⟩)))
      have h28 := qF_ne (cx := (v5_m9).toInt) (cy := 0) rfl (by decide) h28
      refine pm_go (g := (114, _, [.ref 25], _, 0, 0)) rfl ?_
      refine pm_go (g := (117, _, [.int v12_m9], _, 0, 0)) rfl ?_
      refine pm_if2 (g := (125, [(8, .int v14_r9), (7, .int v12_r9), (6, .int v7_r9), (5, .int v5_m9), (4, .int v5_r9), (0, .ref 25), (1, .int t), (2, .int w), (3, .int f)], [], hq g c1 c2 c3 c4 c5 c6 c7 c8 c9 c10 c11 c12 c13 c14 c15 c16 c17 c18 c19 c20 c21 c22 c23 c24 (hc25 mTy mTm mMn mFn mRn mTn mVn mLr mTr mFl v12_m9 v12_p9 mSc v5_p9 mEn) (hc26 mPa) (hc27 mTo) (hc28 mOt) (hc29 mNa) (hc30 mRe) (hc31 mMa) (hc32 mMy) (hc33 mPm) (hc34 mFy) (hc35 mFa) (hc36 mFr) (hc37 mFo) (hc38 mRt) (hc39 mRm) (hc40 mTt) (hc41 mTi) (hc42 mPl) (hc43 mVr) (hc44 mVf) (hc45 mVc) (hc46 mAr) (hc47 mTc) (hc48 v12_f9) (hc49 mGo) dyn, 0, 0)) (h := (120, [(8, .int v14_r9), (7, .int v12_r9), (6, .int v7_r9), (5, .int v5_m9), (4, .int v5_r9), (0, .ref 25), (1, .int t), (2, .int w), (3, .int f)], [], hq g c1 c2 c3 c4 c5 c6 c7 c8 c9 c10 c11 c12 c13 c14 c15 c16 c17 c18 c19 c20 c21 c22 c23 c24 (hc25 mTy mTm mMn mFn mRn mTn mVn mLr mTr mFl v12_m9 v12_p9 mSc v5_p9 mEn) (hc26 mPa) (hc27 mTo) (hc28 mOt) (hc29 mNa) (hc30 mRe) (hc31 mMa) (hc32 mMy) (hc33 mPm) (hc34 mFy) (hc35 mFa) (hc36 mFr) (hc37 mFo) (hc38 mRt) (hc39 mRm) (hc40 mTt) (hc41 mTi) (hc42 mPl) (hc43 mVr) (hc44 mVf) (hc45 mVc) (hc46 mAr) (hc47 mTc) (hc48 v12_f9) (hc49 mGo) dyn, 0, 0)) rfl (fun h31 => ?_) (fun h31 => ?_)
      ·
        have h31 := qT_ne (cx := (v12_m9).toInt) (cy := 0) rfl (by decide) h31
        refine pm_go (g := (127, _, [.int v7_r9], _, 0, 0)) rfl ?_
        refine pm_if2 (g := (144, [(8, .int v14_r9), (7, .int v12_r9), (6, .int v7_r9), (5, .int v5_m9), (4, .int v5_r9), (0, .ref 25), (1, .int t), (2, .int w), (3, .int f)], [], hq g c1 c2 c3 c4 c5 c6 c7 c8 c9 c10 c11 c12 c13 c14 c15 c16 c17 c18 c19 c20 c21 c22 c23 c24 (hc25 mTy mTm mMn mFn mRn mTn mVn mLr mTr mFl v12_m9 v12_p9 mSc v5_p9 mEn) (hc26 mPa) (hc27 mTo) (hc28 mOt) (hc29 mNa) (hc30 mRe) (hc31 mMa) (hc32 mMy) (hc33 mPm) (hc34 mFy) (hc35 mFa) (hc36 mFr) (hc37 mFo) (hc38 mRt) (hc39 mRm) (hc40 mTt) (hc41 mTi) (hc42 mPl) (hc43 mVr) (hc44 mVf) (hc45 mVc) (hc46 mAr) (hc47 mTc) (hc48 v12_f9) (hc49 mGo) dyn, 0, 0)) (h := (130, [(8, .int v14_r9), (7, .int v12_r9), (6, .int v7_r9), (5, .int v5_m9), (4, .int v5_r9), (0, .ref 25), (1, .int t), (2, .int w), (3, .int f)], [], hq g c1 c2 c3 c4 c5 c6 c7 c8 c9 c10 c11 c12 c13 c14 c15 c16 c17 c18 c19 c20 c21 c22 c23 c24 (hc25 mTy mTm mMn mFn mRn mTn mVn mLr mTr mFl v12_m9 v12_p9 mSc v5_p9 mEn) (hc26 mPa) (hc27 mTo) (hc28 mOt) (hc29 mNa) (hc30 mRe) (hc31 mMa) (hc32 mMy) (hc33 mPm) (hc34 mFy) (hc35 mFa) (hc36 mFr) (hc37 mFo) (hc38 mRt) (hc39 mRm) (hc40 mTt) (hc41 mTi) (hc42 mPl) (hc43 mVr) (hc44 mVf) (hc45 mVc) (hc46 mAr) (hc47 mTc) (hc48 v12_f9) (hc49 mGo) dyn, 0, 0)) rfl (fun h32 => ?_) (fun h32 => ?_)
        ·
          have h32 := qT_ne (cx := (v7_r9).toInt) (cy := 0) rfl (by decide) h32
          refine pm_go (g := (146, _, [.int (-12)], _, 0, 0)) rfl ?_
          refine pm_ret rfl (k0 _ _ _ _ _ ⟨_, _, _, _, h2, h9, ?_⟩ (by omega))
          exact Or.inr (Or.inr (Or.inr (Or.inr ⟨(fun ⟨a, b, c⟩ => by have c1 := hA2.mpr c; omega), (fun ⟨a, b, c⟩ => by have c1 := hS1.mpr c; omega), rfl, rfl, by omega, (fun ⟨a, b⟩ => by have c1 := hS1.mpr a; have c2 := hA2.mpr b; omega), rfl⟩)))
        have h32 := qF_ne (cx := (v7_r9).toInt) (cy := 0) rfl (by decide) h32
        refine pm_go (g := (132, _, [.int v14_r9], _, 0, 0)) rfl ?_
        refine pm_go (g := (133, _, [.ref 25, .int v14_r9], _, 0, 0)) rfl ?_
        refine pm_go (g := (136, _, [.int v12_m9, .int v14_r9], _, 0, 0)) rfl ?_
        refine pm_if2 (g := (144, [(8, .int v14_r9), (7, .int v12_r9), (6, .int v7_r9), (5, .int v5_m9), (4, .int v5_r9), (0, .ref 25), (1, .int t), (2, .int w), (3, .int f)], [], hq g c1 c2 c3 c4 c5 c6 c7 c8 c9 c10 c11 c12 c13 c14 c15 c16 c17 c18 c19 c20 c21 c22 c23 c24 (hc25 mTy mTm mMn mFn mRn mTn mVn mLr mTr mFl v12_m9 v12_p9 mSc v5_p9 mEn) (hc26 mPa) (hc27 mTo) (hc28 mOt) (hc29 mNa) (hc30 mRe) (hc31 mMa) (hc32 mMy) (hc33 mPm) (hc34 mFy) (hc35 mFa) (hc36 mFr) (hc37 mFo) (hc38 mRt) (hc39 mRm) (hc40 mTt) (hc41 mTi) (hc42 mPl) (hc43 mVr) (hc44 mVf) (hc45 mVc) (hc46 mAr) (hc47 mTc) (hc48 v12_f9) (hc49 mGo) dyn, 0, 0)) (h := (139, [(8, .int v14_r9), (7, .int v12_r9), (6, .int v7_r9), (5, .int v5_m9), (4, .int v5_r9), (0, .ref 25), (1, .int t), (2, .int w), (3, .int f)], [], hq g c1 c2 c3 c4 c5 c6 c7 c8 c9 c10 c11 c12 c13 c14 c15 c16 c17 c18 c19 c20 c21 c22 c23 c24 (hc25 mTy mTm mMn mFn mRn mTn mVn mLr mTr mFl v12_m9 v12_p9 mSc v5_p9 mEn) (hc26 mPa) (hc27 mTo) (hc28 mOt) (hc29 mNa) (hc30 mRe) (hc31 mMa) (hc32 mMy) (hc33 mPm) (hc34 mFy) (hc35 mFa) (hc36 mFr) (hc37 mFo) (hc38 mRt) (hc39 mRm) (hc40 mTt) (hc41 mTi) (hc42 mPl) (hc43 mVr) (hc44 mVf) (hc45 mVc) (hc46 mAr) (hc47 mTc) (hc48 v12_f9) (hc49 mGo) dyn, 0, 0)) rfl (fun h33 => ?_) (fun h33 => ?_)
        ·
          have h33 := qT_ne (cx := (v14_r9).toInt) (cy := (v12_m9).toInt) rfl rfl h33
          refine pm_go (g := (146, _, [.int (-12)], _, 0, 0)) rfl ?_
          refine pm_ret rfl (k0 _ _ _ _ _ ⟨_, _, _, _, h2, h9, ?_⟩ (by omega))
          exact Or.inr (Or.inr (Or.inr (Or.inr ⟨(fun ⟨a, b, c⟩ => by have c1 := hA2.mpr c; omega), (fun ⟨a, b, c⟩ => by have c1 := hS1.mpr c; omega), rfl, rfl, by omega, (fun ⟨a, b⟩ => by have c1 := hS1.mpr a; have c2 := hA2.mpr b; omega), rfl⟩)))
        have h33 := qF_ne (cx := (v14_r9).toInt) (cy := (v12_m9).toInt) rfl rfl h33
        refine pm_go (g := (141, _, [.int (-13)], _, 0, 0)) rfl ?_
        refine pm_go (g := (146, _, [.int (-13)], _, 0, 0)) rfl ?_
        refine pm_ret rfl (k0 _ _ _ _ _ ⟨_, _, _, _, h2, h9, ?_⟩ (by omega))
        exact Or.inr (Or.inr (Or.inr (Or.inl ⟨(fun ⟨a, b, c⟩ => by have c1 := hA2.mpr c; omega), (fun ⟨a, b, c⟩ => by have c1 := hS1.mpr c; omega), rfl, rfl, by omega, ⟨hS1.mp (by omega), hA2.mp (by omega)⟩, rfl⟩)))
      have h31 := qF_ne (cx := (v12_m9).toInt) (cy := 0) rfl (by decide) h31
      refine pm_go (g := (122, _, [.int (-11)], _, 0, 0)) rfl ?_
      refine pm_go (g := (146, _, [.int (-11)], _, 0, 0)) rfl ?_
      refine pm_ret rfl (k0 _ _ _ _ _ ⟨_, _, _, _, h2, h9, ?_⟩ (by omega))
      exact Or.inr (Or.inr (Or.inl ⟨(fun ⟨a, b, c⟩ => by have c1 := hA2.mpr c; omega), (fun ⟨a, b, c⟩ => by have c1 := hS1.mpr c; omega), rfl, rfl, by omega, rfl⟩))
    show pm_WP 155 (84, [(8, .int v14_r9), (7, .int v12_r9), (6, .int v7_r9), (5, .int v5_m9), (4, .int v5_r9), (0, .ref 25), (1, .int t), (2, .int w), (3, .int f)], [.int 0], hq g c1 c2 c3 c4 c5 c6 c7 c8 c9 c10 c11 c12 c13 c14 c15 c16 c17 c18 c19 c20 c21 c22 c23 c24 (hc25 mTy mTm mMn mFn mRn mTn mVn mLr mTr mFl v12_m9 v12_p9 mSc v5_p9 mEn) (hc26 mPa) (hc27 mTo) (hc28 mOt) (hc29 mNa) (hc30 mRe) (hc31 mMa) (hc32 mMy) (hc33 mPm) (hc34 mFy) (hc35 mFa) (hc36 mFr) (hc37 mFo) (hc38 mRt) (hc39 mRm) (hc40 mTt) (hc41 mTi) (hc42 mPl) (hc43 mVr) (hc44 mVf) (hc45 mVc) (hc46 mAr) (hc47 mTc) (hc48 v12_f9) (hc49 mGo) dyn, 0, 0) _
    refine pm_brF (h := (87, [(8, .int v14_r9), (7, .int v12_r9), (6, .int v7_r9), (5, .int v5_m9), (4, .int v5_r9), (0, .ref 25), (1, .int t), (2, .int w), (3, .int f)], [], hq g c1 c2 c3 c4 c5 c6 c7 c8 c9 c10 c11 c12 c13 c14 c15 c16 c17 c18 c19 c20 c21 c22 c23 c24 (hc25 mTy mTm mMn mFn mRn mTn mVn mLr mTr mFl v12_m9 v12_p9 mSc v5_p9 mEn) (hc26 mPa) (hc27 mTo) (hc28 mOt) (hc29 mNa) (hc30 mRe) (hc31 mMa) (hc32 mMy) (hc33 mPm) (hc34 mFy) (hc35 mFa) (hc36 mFr) (hc37 mFo) (hc38 mRt) (hc39 mRm) (hc40 mTt) (hc41 mTi) (hc42 mPl) (hc43 mVr) (hc44 mVf) (hc45 mVc) (hc46 mAr) (hc47 mTc) (hc48 v12_f9) (hc49 mGo) dyn, 0, 0)) rfl ?_
    refine pm_go (g := (89, _, [.int v7_r9], _, 0, 0)) rfl ?_
    refine pm_if2 (g := (108, [(8, .int v14_r9), (7, .int v12_r9), (6, .int v7_r9), (5, .int v5_m9), (4, .int v5_r9), (0, .ref 25), (1, .int t), (2, .int w), (3, .int f)], [], hq g c1 c2 c3 c4 c5 c6 c7 c8 c9 c10 c11 c12 c13 c14 c15 c16 c17 c18 c19 c20 c21 c22 c23 c24 (hc25 mTy mTm mMn mFn mRn mTn mVn mLr mTr mFl v12_m9 v12_p9 mSc v5_p9 mEn) (hc26 mPa) (hc27 mTo) (hc28 mOt) (hc29 mNa) (hc30 mRe) (hc31 mMa) (hc32 mMy) (hc33 mPm) (hc34 mFy) (hc35 mFa) (hc36 mFr) (hc37 mFo) (hc38 mRt) (hc39 mRm) (hc40 mTt) (hc41 mTi) (hc42 mPl) (hc43 mVr) (hc44 mVf) (hc45 mVc) (hc46 mAr) (hc47 mTc) (hc48 v12_f9) (hc49 mGo) dyn, 0, 0)) (h := (92, [(8, .int v14_r9), (7, .int v12_r9), (6, .int v7_r9), (5, .int v5_m9), (4, .int v5_r9), (0, .ref 25), (1, .int t), (2, .int w), (3, .int f)], [], hq g c1 c2 c3 c4 c5 c6 c7 c8 c9 c10 c11 c12 c13 c14 c15 c16 c17 c18 c19 c20 c21 c22 c23 c24 (hc25 mTy mTm mMn mFn mRn mTn mVn mLr mTr mFl v12_m9 v12_p9 mSc v5_p9 mEn) (hc26 mPa) (hc27 mTo) (hc28 mOt) (hc29 mNa) (hc30 mRe) (hc31 mMa) (hc32 mMy) (hc33 mPm) (hc34 mFy) (hc35 mFa) (hc36 mFr) (hc37 mFo) (hc38 mRt) (hc39 mRm) (hc40 mTt) (hc41 mTi) (hc42 mPl) (hc43 mVr) (hc44 mVf) (hc45 mVc) (hc46 mAr) (hc47 mTc) (hc48 v12_f9) (hc49 mGo) dyn, 0, 0)) rfl (fun h34 => ?_) (fun h34 => ?_)
    ·
      have h34 := qT_ne (cx := (v7_r9).toInt) (cy := 0) rfl (by decide) h34
      refine pm_go (g := (110, _, [.int v5_m9], _, 0, 0)) rfl ?_
      refine pm_if2 (g := (125, [(8, .int v14_r9), (7, .int v12_r9), (6, .int v7_r9), (5, .int v5_m9), (4, .int v5_r9), (0, .ref 25), (1, .int t), (2, .int w), (3, .int f)], [], hq g c1 c2 c3 c4 c5 c6 c7 c8 c9 c10 c11 c12 c13 c14 c15 c16 c17 c18 c19 c20 c21 c22 c23 c24 (hc25 mTy mTm mMn mFn mRn mTn mVn mLr mTr mFl v12_m9 v12_p9 mSc v5_p9 mEn) (hc26 mPa) (hc27 mTo) (hc28 mOt) (hc29 mNa) (hc30 mRe) (hc31 mMa) (hc32 mMy) (hc33 mPm) (hc34 mFy) (hc35 mFa) (hc36 mFr) (hc37 mFo) (hc38 mRt) (hc39 mRm) (hc40 mTt) (hc41 mTi) (hc42 mPl) (hc43 mVr) (hc44 mVf) (hc45 mVc) (hc46 mAr) (hc47 mTc) (hc48 v12_f9) (hc49 mGo) dyn, 0, 0)) (h := (113, [(8, .int v14_r9), (7, .int v12_r9), (6, .int v7_r9), (5, .int v5_m9), (4, .int v5_r9), (0, .ref 25), (1, .int t), (2, .int w), (3, .int f)], [], hq g c1 c2 c3 c4 c5 c6 c7 c8 c9 c10 c11 c12 c13 c14 c15 c16 c17 c18 c19 c20 c21 c22 c23 c24 (hc25 mTy mTm mMn mFn mRn mTn mVn mLr mTr mFl v12_m9 v12_p9 mSc v5_p9 mEn) (hc26 mPa) (hc27 mTo) (hc28 mOt) (hc29 mNa) (hc30 mRe) (hc31 mMa) (hc32 mMy) (hc33 mPm) (hc34 mFy) (hc35 mFa) (hc36 mFr) (hc37 mFo) (hc38 mRt) (hc39 mRm) (hc40 mTt) (hc41 mTi) (hc42 mPl) (hc43 mVr) (hc44 mVf) (hc45 mVc) (hc46 mAr) (hc47 mTc) (hc48 v12_f9) (hc49 mGo) dyn, 0, 0)) rfl (fun h35 => ?_) (fun h35 => ?_)
      ·
        have h35 := qT_ne (cx := (v5_m9).toInt) (cy := 0) rfl (by decide) h35
        refine pm_go (g := (127, _, [.int v7_r9], _, 0, 0)) rfl ?_
        refine pm_if2 (g := (144, [(8, .int v14_r9), (7, .int v12_r9), (6, .int v7_r9), (5, .int v5_m9), (4, .int v5_r9), (0, .ref 25), (1, .int t), (2, .int w), (3, .int f)], [], hq g c1 c2 c3 c4 c5 c6 c7 c8 c9 c10 c11 c12 c13 c14 c15 c16 c17 c18 c19 c20 c21 c22 c23 c24 (hc25 mTy mTm mMn mFn mRn mTn mVn mLr mTr mFl v12_m9 v12_p9 mSc v5_p9 mEn) (hc26 mPa) (hc27 mTo) (hc28 mOt) (hc29 mNa) (hc30 mRe) (hc31 mMa) (hc32 mMy) (hc33 mPm) (hc34 mFy) (hc35 mFa) (hc36 mFr) (hc37 mFo) (hc38 mRt) (hc39 mRm) (hc40 mTt) (hc41 mTi) (hc42 mPl) (hc43 mVr) (hc44 mVf) (hc45 mVc) (hc46 mAr) (hc47 mTc) (hc48 v12_f9) (hc49 mGo) dyn, 0, 0)) (h := (130, [(8, .int v14_r9), (7, .int v12_r9), (6, .int v7_r9), (5, .int v5_m9), (4, .int v5_r9), (0, .ref 25), (1, .int t), (2, .int w), (3, .int f)], [], hq g c1 c2 c3 c4 c5 c6 c7 c8 c9 c10 c11 c12 c13 c14 c15 c16 c17 c18 c19 c20 c21 c22 c23 c24 (hc25 mTy mTm mMn mFn mRn mTn mVn mLr mTr mFl v12_m9 v12_p9 mSc v5_p9 mEn) (hc26 mPa) (hc27 mTo) (hc28 mOt) (hc29 mNa) (hc30 mRe) (hc31 mMa) (hc32 mMy) (hc33 mPm) (hc34 mFy) (hc35 mFa) (hc36 mFr) (hc37 mFo) (hc38 mRt) (hc39 mRm) (hc40 mTt) (hc41 mTi) (hc42 mPl) (hc43 mVr) (hc44 mVf) (hc45 mVc) (hc46 mAr) (hc47 mTc) (hc48 v12_f9) (hc49 mGo) dyn, 0, 0)) rfl (fun h36 => ?_) (fun h36 => ?_)
        ·
          have h36 := qT_ne (cx := (v7_r9).toInt) (cy := 0) rfl (by decide) h36
          refine pm_go (g := (146, _, [.int (-12)], _, 0, 0)) rfl ?_
          refine pm_ret rfl (k0 _ _ _ _ _ ⟨_, _, _, _, h2, h9, ?_⟩ (by omega))
          exact Or.inr (Or.inr (Or.inr (Or.inr ⟨(fun ⟨a, b, c⟩ => by have c1 := hA2.mpr c; omega), (fun ⟨a, b, c⟩ => by have c1 := hS1.mpr c; omega), rfl, rfl, by omega, (fun ⟨a, b⟩ => by have c1 := hS1.mpr a; have c2 := hA2.mpr b; omega), rfl⟩)))
        have h36 := qF_ne (cx := (v7_r9).toInt) (cy := 0) rfl (by decide) h36
        refine pm_go (g := (132, _, [.int v14_r9], _, 0, 0)) rfl ?_
        refine pm_go (g := (133, _, [.ref 25, .int v14_r9], _, 0, 0)) rfl ?_
        refine pm_go (g := (136, _, [.int v12_m9, .int v14_r9], _, 0, 0)) rfl ?_
        refine pm_if2 (g := (144, [(8, .int v14_r9), (7, .int v12_r9), (6, .int v7_r9), (5, .int v5_m9), (4, .int v5_r9), (0, .ref 25), (1, .int t), (2, .int w), (3, .int f)], [], hq g c1 c2 c3 c4 c5 c6 c7 c8 c9 c10 c11 c12 c13 c14 c15 c16 c17 c18 c19 c20 c21 c22 c23 c24 (hc25 mTy mTm mMn mFn mRn mTn mVn mLr mTr mFl v12_m9 v12_p9 mSc v5_p9 mEn) (hc26 mPa) (hc27 mTo) (hc28 mOt) (hc29 mNa) (hc30 mRe) (hc31 mMa) (hc32 mMy) (hc33 mPm) (hc34 mFy) (hc35 mFa) (hc36 mFr) (hc37 mFo) (hc38 mRt) (hc39 mRm) (hc40 mTt) (hc41 mTi) (hc42 mPl) (hc43 mVr) (hc44 mVf) (hc45 mVc) (hc46 mAr) (hc47 mTc) (hc48 v12_f9) (hc49 mGo) dyn, 0, 0)) (h := (139, [(8, .int v14_r9), (7, .int v12_r9), (6, .int v7_r9), (5, .int v5_m9), (4, .int v5_r9), (0, .ref 25), (1, .int t), (2, .int w), (3, .int f)], [], hq g c1 c2 c3 c4 c5 c6 c7 c8 c9 c10 c11 c12 c13 c14 c15 c16 c17 c18 c19 c20 c21 c22 c23 c24 (hc25 mTy mTm mMn mFn mRn mTn mVn mLr mTr mFl v12_m9 v12_p9 mSc v5_p9 mEn) (hc26 mPa) (hc27 mTo) (hc28 mOt) (hc29 mNa) (hc30 mRe) (hc31 mMa) (hc32 mMy) (hc33 mPm) (hc34 mFy) (hc35 mFa) (hc36 mFr) (hc37 mFo) (hc38 mRt) (hc39 mRm) (hc40 mTt) (hc41 mTi) (hc42 mPl) (hc43 mVr) (hc44 mVf) (hc45 mVc) (hc46 mAr) (hc47 mTc) (hc48 v12_f9) (hc49 mGo) dyn, 0, 0)) rfl (fun h37 => ?_) (fun h37 => ?_)
        ·
          have h37 := qT_ne (cx := (v14_r9).toInt) (cy := (v12_m9).toInt) rfl rfl h37
          refine pm_go (g := (146, _, [.int (-12)], _, 0, 0)) rfl ?_
          refine pm_ret rfl (k0 _ _ _ _ _ ⟨_, _, _, _, h2, h9, ?_⟩ (by omega))
          exact Or.inr (Or.inr (Or.inr (Or.inr ⟨(fun ⟨a, b, c⟩ => by have c1 := hA2.mpr c; omega), (fun ⟨a, b, c⟩ => by have c1 := hS1.mpr c; omega), rfl, rfl, by omega, (fun ⟨a, b⟩ => by have c1 := hS1.mpr a; have c2 := hA2.mpr b; omega), rfl⟩)))
        have h37 := qF_ne (cx := (v14_r9).toInt) (cy := (v12_m9).toInt) rfl rfl h37
        refine pm_go (g := (141, _, [.int (-13)], _, 0, 0)) rfl ?_
        refine pm_go (g := (146, _, [.int (-13)], _, 0, 0)) rfl ?_
        refine pm_ret rfl (k0 _ _ _ _ _ ⟨_, _, _, _, h2, h9, ?_⟩ (by omega))
        exact Or.inr (Or.inr (Or.inr (Or.inl ⟨(fun ⟨a, b, c⟩ => by have c1 := hA2.mpr c; omega), (fun ⟨a, b, c⟩ => by have c1 := hS1.mpr c; omega), rfl, rfl, by omega, ⟨hS1.mp (by omega), hA2.mp (by omega)⟩, rfl⟩)))
      have h35 := qF_ne (cx := (v5_m9).toInt) (cy := 0) rfl (by decide) h35
      refine pm_go (g := (114, _, [.ref 25], _, 0, 0)) rfl ?_
      refine pm_go (g := (117, _, [.int v12_m9], _, 0, 0)) rfl ?_
      refine pm_if2 (g := (125, [(8, .int v14_r9), (7, .int v12_r9), (6, .int v7_r9), (5, .int v5_m9), (4, .int v5_r9), (0, .ref 25), (1, .int t), (2, .int w), (3, .int f)], [], hq g c1 c2 c3 c4 c5 c6 c7 c8 c9 c10 c11 c12 c13 c14 c15 c16 c17 c18 c19 c20 c21 c22 c23 c24 (hc25 mTy mTm mMn mFn mRn mTn mVn mLr mTr mFl v12_m9 v12_p9 mSc v5_p9 mEn) (hc26 mPa) (hc27 mTo) (hc28 mOt) (hc29 mNa) (hc30 mRe) (hc31 mMa) (hc32 mMy) (hc33 mPm) (hc34 mFy) (hc35 mFa) (hc36 mFr) (hc37 mFo) (hc38 mRt) (hc39 mRm) (hc40 mTt) (hc41 mTi) (hc42 mPl) (hc43 mVr) (hc44 mVf) (hc45 mVc) (hc46 mAr) (hc47 mTc) (hc48 v12_f9) (hc49 mGo) dyn, 0, 0)) (h := (120, [(8, .int v14_r9), (7, .int v12_r9), (6, .int v7_r9), (5, .int v5_m9), (4, .int v5_r9), (0, .ref 25), (1, .int t), (2, .int w), (3, .int f)], [], hq g c1 c2 c3 c4 c5 c6 c7 c8 c9 c10 c11 c12 c13 c14 c15 c16 c17 c18 c19 c20 c21 c22 c23 c24 (hc25 mTy mTm mMn mFn mRn mTn mVn mLr mTr mFl v12_m9 v12_p9 mSc v5_p9 mEn) (hc26 mPa) (hc27 mTo) (hc28 mOt) (hc29 mNa) (hc30 mRe) (hc31 mMa) (hc32 mMy) (hc33 mPm) (hc34 mFy) (hc35 mFa) (hc36 mFr) (hc37 mFo) (hc38 mRt) (hc39 mRm) (hc40 mTt) (hc41 mTi) (hc42 mPl) (hc43 mVr) (hc44 mVf) (hc45 mVc) (hc46 mAr) (hc47 mTc) (hc48 v12_f9) (hc49 mGo) dyn, 0, 0)) rfl (fun h38 => ?_) (fun h38 => ?_)
      ·
        have h38 := qT_ne (cx := (v12_m9).toInt) (cy := 0) rfl (by decide) h38
        refine pm_go (g := (127, _, [.int v7_r9], _, 0, 0)) rfl ?_
        refine pm_if2 (g := (144, [(8, .int v14_r9), (7, .int v12_r9), (6, .int v7_r9), (5, .int v5_m9), (4, .int v5_r9), (0, .ref 25), (1, .int t), (2, .int w), (3, .int f)], [], hq g c1 c2 c3 c4 c5 c6 c7 c8 c9 c10 c11 c12 c13 c14 c15 c16 c17 c18 c19 c20 c21 c22 c23 c24 (hc25 mTy mTm mMn mFn mRn mTn mVn mLr mTr mFl v12_m9 v12_p9 mSc v5_p9 mEn) (hc26 mPa) (hc27 mTo) (hc28 mOt) (hc29 mNa) (hc30 mRe) (hc31 mMa) (hc32 mMy) (hc33 mPm) (hc34 mFy) (hc35 mFa) (hc36 mFr) (hc37 mFo) (hc38 mRt) (hc39 mRm) (hc40 mTt) (hc41 mTi) (hc42 mPl) (hc43 mVr) (hc44 mVf) (hc45 mVc) (hc46 mAr) (hc47 mTc) (hc48 v12_f9) (hc49 mGo) dyn, 0, 0)) (h := (130, [(8, .int v14_r9), (7, .int v12_r9), (6, .int v7_r9), (5, .int v5_m9), (4, .int v5_r9), (0, .ref 25), (1, .int t), (2, .int w), (3, .int f)], [], hq g c1 c2 c3 c4 c5 c6 c7 c8 c9 c10 c11 c12 c13 c14 c15 c16 c17 c18 c19 c20 c21 c22 c23 c24 (hc25 mTy mTm mMn mFn mRn mTn mVn mLr mTr mFl v12_m9 v12_p9 mSc v5_p9 mEn) (hc26 mPa) (hc27 mTo) (hc28 mOt) (hc29 mNa) (hc30 mRe) (hc31 mMa) (hc32 mMy) (hc33 mPm) (hc34 mFy) (hc35 mFa) (hc36 mFr) (hc37 mFo) (hc38 mRt) (hc39 mRm) (hc40 mTt) (hc41 mTi) (hc42 mPl) (hc43 mVr) (hc44 mVf) (hc45 mVc) (hc46 mAr) (hc47 mTc) (hc48 v12_f9) (hc49 mGo) dyn, 0, 0)) rfl (fun h39 => ?_) (fun h39 => ?_)
        ·
          have h39 := qT_ne (cx := (v7_r9).toInt) (cy := 0) rfl (by decide) h39
          refine pm_go (g := (146, _, [.int (-12)], _, 0, 0)) rfl ?_
          refine pm_ret rfl (k0 _ _ _ _ _ ⟨_, _, _, _, h2, h9, ?_⟩ (by omega))
          exact Or.inr (Or.inr (Or.inr (Or.inr ⟨(fun ⟨a, b, c⟩ => by have c1 := hA2.mpr c; omega), (fun ⟨a, b, c⟩ => by have c1 := hS1.mpr c; omega), rfl, rfl, by omega, (fun ⟨a, b⟩ => by have c1 := hS1.mpr a; have c2 := hA2.mpr b; omega), rfl⟩)))
        have h39 := qF_ne (cx := (v7_r9).toInt) (cy := 0) rfl (by decide) h39
        refine pm_go (g := (132, _, [.int v14_r9], _, 0, 0)) rfl ?_
        refine pm_go (g := (133, _, [.ref 25, .int v14_r9], _, 0, 0)) rfl ?_
        refine pm_go (g := (136, _, [.int v12_m9, .int v14_r9], _, 0, 0)) rfl ?_
        refine pm_if2 (g := (144, [(8, .int v14_r9), (7, .int v12_r9), (6, .int v7_r9), (5, .int v5_m9), (4, .int v5_r9), (0, .ref 25), (1, .int t), (2, .int w), (3, .int f)], [], hq g c1 c2 c3 c4 c5 c6 c7 c8 c9 c10 c11 c12 c13 c14 c15 c16 c17 c18 c19 c20 c21 c22 c23 c24 (hc25 mTy mTm mMn mFn mRn mTn mVn mLr mTr mFl v12_m9 v12_p9 mSc v5_p9 mEn) (hc26 mPa) (hc27 mTo) (hc28 mOt) (hc29 mNa) (hc30 mRe) (hc31 mMa) (hc32 mMy) (hc33 mPm) (hc34 mFy) (hc35 mFa) (hc36 mFr) (hc37 mFo) (hc38 mRt) (hc39 mRm) (hc40 mTt) (hc41 mTi) (hc42 mPl) (hc43 mVr) (hc44 mVf) (hc45 mVc) (hc46 mAr) (hc47 mTc) (hc48 v12_f9) (hc49 mGo) dyn, 0, 0)) (h := (139, [(8, .int v14_r9), (7, .int v12_r9), (6, .int v7_r9), (5, .int v5_m9), (4, .int v5_r9), (0, .ref 25), (1, .int t), (2, .int w), (3, .int f)], [], hq g c1 c2 c3 c4 c5 c6 c7 c8 c9 c10 c11 c12 c13 c14 c15 c16 c17 c18 c19 c20 c21 c22 c23 c24 (hc25 mTy mTm mMn mFn mRn mTn mVn mLr mTr mFl v12_m9 v12_p9 mSc v5_p9 mEn) (hc26 mPa) (hc27 mTo) (hc28 mOt) (hc29 mNa) (hc30 mRe) (hc31 mMa) (hc32 mMy) (hc33 mPm) (hc34 mFy) (hc35 mFa) (hc36 mFr) (hc37 mFo) (hc38 mRt) (hc39 mRm) (hc40 mTt) (hc41 mTi) (hc42 mPl) (hc43 mVr) (hc44 mVf) (hc45 mVc) (hc46 mAr) (hc47 mTc) (hc48 v12_f9) (hc49 mGo) dyn, 0, 0)) rfl (fun h40 => ?_) (fun h40 => ?_)
        ·
          have h40 := qT_ne (cx := (v14_r9).toInt) (cy := (v12_m9).toInt) rfl rfl h40
          refine pm_go (g := (146, _, [.int (-12)], _, 0, 0)) rfl ?_
          refine pm_ret rfl (k0 _ _ _ _ _ ⟨_, _, _, _, h2, h9, ?_⟩ (by omega))
          exact Or.inr (Or.inr (Or.inr (Or.inr ⟨(fun ⟨a, b, c⟩ => by have c1 := hA2.mpr c; omega), (fun ⟨a, b, c⟩ => by have c1 := hS1.mpr c; omega), rfl, rfl, by omega, (fun ⟨a, b⟩ => by have c1 := hS1.mpr a; have c2 := hA2.mpr b; omega), rfl⟩)))
        have h40 := qF_ne (cx := (v14_r9).toInt) (cy := (v12_m9).toInt) rfl rfl h40
        refine pm_go (g := (141, _, [.int (-13)], _, 0, 0)) rfl ?_
        refine pm_go (g := (146, _, [.int (-13)], _, 0, 0)) rfl ?_
        refine pm_ret rfl (k0 _ _ _ _ _ ⟨_, _, _, _, h2, h9, ?_⟩ (by omega))
        exact Or.inr (Or.inr (Or.inr (Or.inl ⟨(fun ⟨a, b, c⟩ => by have c1 := hA2.mpr c; omega), (fun ⟨a, b, c⟩ => by have c1 := hS1.mpr c; omega), rfl, rfl, by omega, ⟨hS1.mp (by omega), hA2.mp (by omega)⟩, rfl⟩)))
      have h38 := qF_ne (cx := (v12_m9).toInt) (cy := 0) rfl (by decide) h38
      refine pm_go (g := (122, _, [.int (-11)], _, 0, 0)) rfl ?_
      refine pm_go (g := (146, _, [.int (-11)], _, 0, 0)) rfl ?_
      refine pm_ret rfl (k0 _ _ _ _ _ ⟨_, _, _, _, h2, h9, ?_⟩ (by omega))
      exact Or.inr (Or.inr (Or.inl ⟨(fun ⟨a, b, c⟩ => by have c1 := hA2.mpr c; omega), (fun ⟨a, b, c⟩ => by have c1 := hS1.mpr c; omega), rfl, rfl, by omega, rfl⟩))
    have h34 := qF_ne (cx := (v7_r9).toInt) (cy := 0) rfl (by decide) h34
    refine pm_go (g := (93, _, [.ref 25], _, 0, 0)) rfl ?_
    refine pm_go (g := (94, _, [.int 1, .ref 25], _, 0, 0)) rfl ?_
    refine pm_go (g := (97, _, [], hq g c1 c2 c3 c4 c5 c6 c7 c8 c9 c10 c11 c12 c13 c14 c15 c16 c17 c18 c19 c20 c21 c22 c23 c24 (hc25 mTy mTm mMn mFn mRn mTn mVn mLr mTr mFl v12_m9 v12_p9 1 v5_p9 mEn) (hc26 mPa) (hc27 mTo) (hc28 mOt) (hc29 mNa) (hc30 mRe) (hc31 mMa) (hc32 mMy) (hc33 mPm) (hc34 mFy) (hc35 mFa) (hc36 mFr) (hc37 mFo) (hc38 mRt) (hc39 mRm) (hc40 mTt) (hc41 mTi) (hc42 mPl) (hc43 mVr) (hc44 mVf) (hc45 mVc) (hc46 mAr) (hc47 mTc) (hc48 v12_f9) (hc49 mGo) dyn, 0, 0)) rfl ?_
    refine pm_go (g := (98, _, [.ref 25], _, 0, 0)) rfl ?_
    refine pm_go (g := (99, _, [.ref 25, .ref 25], _, 0, 0)) rfl ?_
    refine pm_go (g := (102, _, [.int v12_p9, .ref 25], _, 0, 0)) rfl ?_
    refine pm_go (g := (105, _, [], hq g c1 c2 c3 c4 c5 c6 c7 c8 c9 c10 c11 c12 c13 c14 c15 c16 c17 c18 c19 c20 c21 c22 c23 c24 (hc25 mTy mTm mMn mFn mRn mTn mVn mLr mTr mFl v12_m9 v12_p9 1 v12_p9 mEn) (hc26 mPa) (hc27 mTo) (hc28 mOt) (hc29 mNa) (hc30 mRe) (hc31 mMa) (hc32 mMy) (hc33 mPm) (hc34 mFy) (hc35 mFa) (hc36 mFr) (hc37 mFo) (hc38 mRt) (hc39 mRm) (hc40 mTt) (hc41 mTi) (hc42 mPl) (hc43 mVr) (hc44 mVf) (hc45 mVc) (hc46 mAr) (hc47 mTc) (hc48 v12_f9) (hc49 mGo) dyn, 0, 0)) rfl ?_
    refine pm_go (g := (107, _, [.int v12_r9], _, 0, 0)) rfl ?_
    refine pm_ret rfl (k1 _ _ _ _ _ ⟨_, _, _, _, h2, h9, ?_⟩ (by omega))
    exact Or.inr (Or.inl ⟨(fun ⟨a, b, c⟩ => by have c1 := hA2.mpr c; omega), ⟨by omega, by omega, hS1.mp (by omega)⟩, rfl, rfl, rfl⟩)
  have h16 := qF_lt (cx := (v5_r9).toInt) (cy := 0) rfl (by decide) h16
  refine pm_go (g := (51, _, [.ref 25], hq g c1 c2 c3 c4 c5 c6 c7 c8 c9 c10 c11 c12 c13 c14 c15 c16 c17 c18 c19 c20 c21 c22 c23 c24 (hc25 mTy mTm mMn mFn mRn mTn mVn mLr mTr mFl v12_m9 v12_p9 mSc v5_p9 mEn) (hc26 mPa) (hc27 mTo) (hc28 mOt) (hc29 mNa) (hc30 mRe) (hc31 mMa) (hc32 mMy) (hc33 mPm) (hc34 mFy) (hc35 mFa) (hc36 mFr) (hc37 mFo) (hc38 mRt) (hc39 mRm) (hc40 mTt) (hc41 mTi) (hc42 mPl) (hc43 mVr) (hc44 mVf) (hc45 mVc) (hc46 mAr) (hc47 mTc) (hc48 v12_f9) (hc49 mGo) dyn, 0, 0)) rfl ?_
  refine pm_go (g := (53, _, [.int v5_r9, .ref 25], _, 0, 0)) rfl ?_
  refine pm_go (g := (54, _, [.int 1, .int v5_r9, .ref 25], _, 0, 0)) rfl ?_
  refine pm_callD (z := 139) (as := [.ref 25, .int v5_r9, .int 1]) (rest := []) rfl ?_
  have h41 : (1 : Int32).toInt = 1 := by decide
  refine w_X12_isMark v5_r9 1 (by omega) (fun h42 => ?_) (fun h43 => ?_)
  ·
    show pm_WP 155 (57, [(8, .int v14_r9), (7, .int v12_r9), (6, .int v7_r9), (5, .int v5_m9), (4, .int v5_r9), (0, .ref 25), (1, .int t), (2, .int w), (3, .int f)], [.int 1], _, 0, 0) _
    refine pm_brF (h := (60, [(8, .int v14_r9), (7, .int v12_r9), (6, .int v7_r9), (5, .int v5_m9), (4, .int v5_r9), (0, .ref 25), (1, .int t), (2, .int w), (3, .int f)], [], hq g c1 c2 c3 c4 c5 c6 c7 c8 c9 c10 c11 c12 c13 c14 c15 c16 c17 c18 c19 c20 c21 c22 c23 c24 (hc25 mTy mTm mMn mFn mRn mTn mVn mLr mTr mFl v12_m9 v12_p9 mSc v5_p9 mEn) (hc26 mPa) (hc27 mTo) (hc28 mOt) (hc29 mNa) (hc30 mRe) (hc31 mMa) (hc32 mMy) (hc33 mPm) (hc34 mFy) (hc35 mFa) (hc36 mFr) (hc37 mFo) (hc38 mRt) (hc39 mRm) (hc40 mTt) (hc41 mTi) (hc42 mPl) (hc43 mVr) (hc44 mVf) (hc45 mVc) (hc46 mAr) (hc47 mTc) (hc48 v12_f9) (hc49 mGo) dyn, 0, 0)) rfl ?_
    refine pm_go (g := (62, _, [.int v14_r9], _, 0, 0)) rfl ?_
    refine pm_go (g := (63, _, [.ref 25, .int v14_r9], _, 0, 0)) rfl ?_
    refine pm_go (g := (66, _, [.int v12_m9, .int v14_r9], _, 0, 0)) rfl ?_
    refine pm_if2 (g := (72, [(8, .int v14_r9), (7, .int v12_r9), (6, .int v7_r9), (5, .int v5_m9), (4, .int v5_r9), (0, .ref 25), (1, .int t), (2, .int w), (3, .int f)], [], hq g c1 c2 c3 c4 c5 c6 c7 c8 c9 c10 c11 c12 c13 c14 c15 c16 c17 c18 c19 c20 c21 c22 c23 c24 (hc25 mTy mTm mMn mFn mRn mTn mVn mLr mTr mFl v12_m9 v12_p9 mSc v5_p9 mEn) (hc26 mPa) (hc27 mTo) (hc28 mOt) (hc29 mNa) (hc30 mRe) (hc31 mMa) (hc32 mMy) (hc33 mPm) (hc34 mFy) (hc35 mFa) (hc36 mFr) (hc37 mFo) (hc38 mRt) (hc39 mRm) (hc40 mTt) (hc41 mTi) (hc42 mPl) (hc43 mVr) (hc44 mVf) (hc45 mVc) (hc46 mAr) (hc47 mTc) (hc48 v12_f9) (hc49 mGo) dyn, 0, 0)) (h := (69, [(8, .int v14_r9), (7, .int v12_r9), (6, .int v7_r9), (5, .int v5_m9), (4, .int v5_r9), (0, .ref 25), (1, .int t), (2, .int w), (3, .int f)], [], hq g c1 c2 c3 c4 c5 c6 c7 c8 c9 c10 c11 c12 c13 c14 c15 c16 c17 c18 c19 c20 c21 c22 c23 c24 (hc25 mTy mTm mMn mFn mRn mTn mVn mLr mTr mFl v12_m9 v12_p9 mSc v5_p9 mEn) (hc26 mPa) (hc27 mTo) (hc28 mOt) (hc29 mNa) (hc30 mRe) (hc31 mMa) (hc32 mMy) (hc33 mPm) (hc34 mFy) (hc35 mFa) (hc36 mFr) (hc37 mFo) (hc38 mRt) (hc39 mRm) (hc40 mTt) (hc41 mTi) (hc42 mPl) (hc43 mVr) (hc44 mVf) (hc45 mVc) (hc46 mAr) (hc47 mTc) (hc48 v12_f9) (hc49 mGo) dyn, 0, 0)) rfl (fun h45 => ?_) (fun h45 => ?_)
    ·
      have h45 := qT_ne (cx := (v14_r9).toInt) (cy := (v12_m9).toInt) rfl rfl h45
      refine pm_go (g := (74, _, [.int v12_r9], _, 0, 0)) rfl ?_
      refine pm_if2 (g := (108, [(8, .int v14_r9), (7, .int v12_r9), (6, .int v7_r9), (5, .int v5_m9), (4, .int v5_r9), (0, .ref 25), (1, .int t), (2, .int w), (3, .int f)], [], hq g c1 c2 c3 c4 c5 c6 c7 c8 c9 c10 c11 c12 c13 c14 c15 c16 c17 c18 c19 c20 c21 c22 c23 c24 (hc25 mTy mTm mMn mFn mRn mTn mVn mLr mTr mFl v12_m9 v12_p9 mSc v5_p9 mEn) (hc26 mPa) (hc27 mTo) (hc28 mOt) (hc29 mNa) (hc30 mRe) (hc31 mMa) (hc32 mMy) (hc33 mPm) (hc34 mFy) (hc35 mFa) (hc36 mFr) (hc37 mFo) (hc38 mRt) (hc39 mRm) (hc40 mTt) (hc41 mTi) (hc42 mPl) (hc43 mVr) (hc44 mVf) (hc45 mVc) (hc46 mAr) (hc47 mTc) (hc48 v12_f9) (hc49 mGo) dyn, 0, 0)) (h := (77, [(8, .int v14_r9), (7, .int v12_r9), (6, .int v7_r9), (5, .int v5_m9), (4, .int v5_r9), (0, .ref 25), (1, .int t), (2, .int w), (3, .int f)], [], hq g c1 c2 c3 c4 c5 c6 c7 c8 c9 c10 c11 c12 c13 c14 c15 c16 c17 c18 c19 c20 c21 c22 c23 c24 (hc25 mTy mTm mMn mFn mRn mTn mVn mLr mTr mFl v12_m9 v12_p9 mSc v5_p9 mEn) (hc26 mPa) (hc27 mTo) (hc28 mOt) (hc29 mNa) (hc30 mRe) (hc31 mMa) (hc32 mMy) (hc33 mPm) (hc34 mFy) (hc35 mFa) (hc36 mFr) (hc37 mFo) (hc38 mRt) (hc39 mRm) (hc40 mTt) (hc41 mTi) (hc42 mPl) (hc43 mVr) (hc44 mVf) (hc45 mVc) (hc46 mAr) (hc47 mTc) (hc48 v12_f9) (hc49 mGo) dyn, 0, 0)) rfl (fun h46 => ?_) (fun h46 => ?_)
      ·
        have h46 := qT_lt (cx := (v12_r9).toInt) (cy := 0) rfl (by decide) h46
        refine pm_go (g := (110, _, [.int v5_m9], _, 0, 0)) rfl ?_
        refine pm_if2 (g := (125, [(8, .int v14_r9), (7, .int v12_r9), (6, .int v7_r9), (5, .int v5_m9), (4, .int v5_r9), (0, .ref 25), (1, .int t), (2, .int w), (3, .int f)], [], hq g c1 c2 c3 c4 c5 c6 c7 c8 c9 c10 c11 c12 c13 c14 c15 c16 c17 c18 c19 c20 c21 c22 c23 c24 (hc25 mTy mTm mMn mFn mRn mTn mVn mLr mTr mFl v12_m9 v12_p9 mSc v5_p9 mEn) (hc26 mPa) (hc27 mTo) (hc28 mOt) (hc29 mNa) (hc30 mRe) (hc31 mMa) (hc32 mMy) (hc33 mPm) (hc34 mFy) (hc35 mFa) (hc36 mFr) (hc37 mFo) (hc38 mRt) (hc39 mRm) (hc40 mTt) (hc41 mTi) (hc42 mPl) (hc43 mVr) (hc44 mVf) (hc45 mVc) (hc46 mAr) (hc47 mTc) (hc48 v12_f9) (hc49 mGo) dyn, 0, 0)) (h := (113, [(8, .int v14_r9), (7, .int v12_r9), (6, .int v7_r9), (5, .int v5_m9), (4, .int v5_r9), (0, .ref 25), (1, .int t), (2, .int w), (3, .int f)], [], hq g c1 c2 c3 c4 c5 c6 c7 c8 c9 c10 c11 c12 c13 c14 c15 c16 c17 c18 c19 c20 c21 c22 c23 c24 (hc25 mTy mTm mMn mFn mRn mTn mVn mLr mTr mFl v12_m9 v12_p9 mSc v5_p9 mEn) (hc26 mPa) (hc27 mTo) (hc28 mOt) (hc29 mNa) (hc30 mRe) (hc31 mMa) (hc32 mMy) (hc33 mPm) (hc34 mFy) (hc35 mFa) (hc36 mFr) (hc37 mFo) (hc38 mRt) (hc39 mRm) (hc40 mTt) (hc41 mTi) (hc42 mPl) (hc43 mVr) (hc44 mVf) (hc45 mVc) (hc46 mAr) (hc47 mTc) (hc48 v12_f9) (hc49 mGo) dyn, 0, 0)) rfl (fun h47 => ?_) (fun h47 => ?_)
        ·
          have h47 := qT_ne (cx := (v5_m9).toInt) (cy := 0) rfl (by decide) h47
          refine pm_go (g := (127, _, [.int v7_r9], _, 0, 0)) rfl ?_
          refine pm_if2 (g := (144, [(8, .int v14_r9), (7, .int v12_r9), (6, .int v7_r9), (5, .int v5_m9), (4, .int v5_r9), (0, .ref 25), (1, .int t), (2, .int w), (3, .int f)], [], hq g c1 c2 c3 c4 c5 c6 c7 c8 c9 c10 c11 c12 c13 c14 c15 c16 c17 c18 c19 c20 c21 c22 c23 c24 (hc25 mTy mTm mMn mFn mRn mTn mVn mLr mTr mFl v12_m9 v12_p9 mSc v5_p9 mEn) (hc26 mPa) (hc27 mTo) (hc28 mOt) (hc29 mNa) (hc30 mRe) (hc31 mMa) (hc32 mMy) (hc33 mPm) (hc34 mFy) (hc35 mFa) (hc36 mFr) (hc37 mFo) (hc38 mRt) (hc39 mRm) (hc40 mTt) (hc41 mTi) (hc42 mPl) (hc43 mVr) (hc44 mVf) (hc45 mVc) (hc46 mAr) (hc47 mTc) (hc48 v12_f9) (hc49 mGo) dyn, 0, 0)) (h := (130, [(8, .int v14_r9), (7, .int v12_r9), (6, .int v7_r9), (5, .int v5_m9), (4, .int v5_r9), (0, .ref 25), (1, .int t), (2, .int w), (3, .int f)], [], hq g c1 c2 c3 c4 c5 c6 c7 c8 c9 c10 c11 c12 c13 c14 c15 c16 c17 c18 c19 c20 c21 c22 c23 c24 (hc25 mTy mTm mMn mFn mRn mTn mVn mLr mTr mFl v12_m9 v12_p9 mSc v5_p9 mEn) (hc26 mPa) (hc27 mTo) (hc28 mOt) (hc29 mNa) (hc30 mRe) (hc31 mMa) (hc32 mMy) (hc33 mPm) (hc34 mFy) (hc35 mFa) (hc36 mFr) (hc37 mFo) (hc38 mRt) (hc39 mRm) (hc40 mTt) (hc41 mTi) (hc42 mPl) (hc43 mVr) (hc44 mVf) (hc45 mVc) (hc46 mAr) (hc47 mTc) (hc48 v12_f9) (hc49 mGo) dyn, 0, 0)) rfl (fun h48 => ?_) (fun h48 => ?_)
          ·
            have h48 := qT_ne (cx := (v7_r9).toInt) (cy := 0) rfl (by decide) h48
            refine pm_go (g := (146, _, [.int (-12)], _, 0, 0)) rfl ?_
            refine pm_ret rfl (k0 _ _ _ _ _ ⟨_, _, _, _, h2, h9, ?_⟩ (by omega))
            exact Or.inr (Or.inr (Or.inr (Or.inr ⟨(fun ⟨a, b, c⟩ => by have c1 := hA2.mpr c; omega), (fun ⟨a, b, c⟩ => by have c1 := hS1.mpr c; omega), rfl, rfl, by omega, (fun ⟨a, b⟩ => by have c1 := hS1.mpr a; have c2 := hA2.mpr b; omega), rfl⟩)))
          have h48 := qF_ne (cx := (v7_r9).toInt) (cy := 0) rfl (by decide) h48
          refine pm_go (g := (132, _, [.int v14_r9], _, 0, 0)) rfl ?_
          refine pm_go (g := (133, _, [.ref 25, .int v14_r9], _, 0, 0)) rfl ?_
          refine pm_go (g := (136, _, [.int v12_m9, .int v14_r9], _, 0, 0)) rfl ?_
          refine pm_if2 (g := (144, [(8, .int v14_r9), (7, .int v12_r9), (6, .int v7_r9), (5, .int v5_m9), (4, .int v5_r9), (0, .ref 25), (1, .int t), (2, .int w), (3, .int f)], [], hq g c1 c2 c3 c4 c5 c6 c7 c8 c9 c10 c11 c12 c13 c14 c15 c16 c17 c18 c19 c20 c21 c22 c23 c24 (hc25 mTy mTm mMn mFn mRn mTn mVn mLr mTr mFl v12_m9 v12_p9 mSc v5_p9 mEn) (hc26 mPa) (hc27 mTo) (hc28 mOt) (hc29 mNa) (hc30 mRe) (hc31 mMa) (hc32 mMy) (hc33 mPm) (hc34 mFy) (hc35 mFa) (hc36 mFr) (hc37 mFo) (hc38 mRt) (hc39 mRm) (hc40 mTt) (hc41 mTi) (hc42 mPl) (hc43 mVr) (hc44 mVf) (hc45 mVc) (hc46 mAr) (hc47 mTc) (hc48 v12_f9) (hc49 mGo) dyn, 0, 0)) (h := (139, [(8, .int v14_r9), (7, .int v12_r9), (6, .int v7_r9), (5, .int v5_m9), (4, .int v5_r9), (0, .ref 25), (1, .int t), (2, .int w), (3, .int f)], [], hq g c1 c2 c3 c4 c5 c6 c7 c8 c9 c10 c11 c12 c13 c14 c15 c16 c17 c18 c19 c20 c21 c22 c23 c24 (hc25 mTy mTm mMn mFn mRn mTn mVn mLr mTr mFl v12_m9 v12_p9 mSc v5_p9 mEn) (hc26 mPa) (hc27 mTo) (hc28 mOt) (hc29 mNa) (hc30 mRe) (hc31 mMa) (hc32 mMy) (hc33 mPm) (hc34 mFy) (hc35 mFa) (hc36 mFr) (hc37 mFo) (hc38 mRt) (hc39 mRm) (hc40 mTt) (hc41 mTi) (hc42 mPl) (hc43 mVr) (hc44 mVf) (hc45 mVc) (hc46 mAr) (hc47 mTc) (hc48 v12_f9) (hc49 mGo) dyn, 0, 0)) rfl (fun h49 => ?_) (fun h49 => ?_)
          ·
            have h49 := qT_ne (cx := (v14_r9).toInt) (cy := (v12_m9).toInt) rfl rfl h49
            refine pm_go (g := (146, _, [.int (-12)], _, 0, 0)) rfl ?_
            refine pm_ret rfl (k0 _ _ _ _ _ ⟨_, _, _, _, h2, h9, ?_⟩ (by omega))
            exact Or.inr (Or.inr (Or.inr (Or.inr ⟨(fun ⟨a, b, c⟩ => by have c1 := hA2.mpr c; omega), (fun ⟨a, b, c⟩ => by have c1 := hS1.mpr c; omega), rfl, rfl, by omega, (fun ⟨a, b⟩ => by have c1 := hS1.mpr a; have c2 := hA2.mpr b; omega), rfl⟩)))
          have h49 := qF_ne (cx := (v14_r9).toInt) (cy := (v12_m9).toInt) rfl rfl h49
          refine pm_go (g := (141, _, [.int (-13)], _, 0, 0)) rfl ?_
          refine pm_go (g := (146, _, [.int (-13)], _, 0, 0)) rfl ?_
          refine pm_ret rfl (k0 _ _ _ _ _ ⟨_, _, _, _, h2, h9, ?_⟩ (by omega))
          exact Or.inr (Or.inr (Or.inr (Or.inl ⟨(fun ⟨a, b, c⟩ => by have c1 := hA2.mpr c; omega), (fun ⟨a, b, c⟩ => by have c1 := hS1.mpr c; omega), rfl, rfl, by omega, ⟨hS1.mp (by omega), hA2.mp (by omega)⟩, rfl⟩)))
        have h47 := qF_ne (cx := (v5_m9).toInt) (cy := 0) rfl (by decide) h47
        refine pm_go (g := (114, _, [.ref 25], _, 0, 0)) rfl ?_
        refine pm_go (g := (117, _, [.int v12_m9], _, 0, 0)) rfl ?_
        refine pm_if2 (g := (125, [(8, .int v14_r9), (7, .int v12_r9), (6, .int v7_r9), (5, .int v5_m9), (4, .int v5_r9), (0, .ref 25), (1, .int t), (2, .int w), (3, .int f)], [], hq g c1 c2 c3 c4 c5 c6 c7 c8 c9 c10 c11 c12 c13 c14 c15 c16 c17 c18 c19 c20 c21 c22 c23 c24 (hc25 mTy mTm mMn mFn mRn mTn mVn mLr mTr mFl v12_m9 v12_p9 mSc v5_p9 mEn) (hc26 mPa) (hc27 mTo) (hc28 mOt) (hc29 mNa) (hc30 mRe) (hc31 mMa) (hc32 mMy) (hc33 mPm) (hc34 mFy) (hc35 mFa) (hc36 mFr) (hc37 mFo) (hc38 mRt) (hc39 mRm) (hc40 mTt) (hc41 mTi) (hc42 mPl) (hc43 mVr) (hc44 mVf) (hc45 mVc) (hc46 mAr) (hc47 mTc) (hc48 v12_f9) (hc49 mGo) dyn, 0, 0)) (h := (120, [(8, .int v14_r9), (7, .int v12_r9), (6, .int v7_r9), (5, .int v5_m9), (4, .int v5_r9), (0, .ref 25), (1, .int t), (2, .int w), (3, .int f)], [], hq g c1 c2 c3 c4 c5 c6 c7 c8 c9 c10 c11 c12 c13 c14 c15 c16 c17 c18 c19 c20 c21 c22 c23 c24 (hc25 mTy mTm mMn mFn mRn mTn mVn mLr mTr mFl v12_m9 v12_p9 mSc v5_p9 mEn) (hc26 mPa) (hc27 mTo) (hc28 mOt) (hc29 mNa) (hc30 mRe) (hc31 mMa) (hc32 mMy) (hc33 mPm) (hc34 mFy) (hc35 mFa) (hc36 mFr) (hc37 mFo) (hc38 mRt) (hc39 mRm) (hc40 mTt) (hc41 mTi) (hc42 mPl) (hc43 mVr) (hc44 mVf) (hc45 mVc) (hc46 mAr) (hc47 mTc) (hc48 v12_f9) (hc49 mGo) dyn, 0, 0)) rfl (fun h50 => ?_) (fun h50 => ?_)
        ·
          have h50 := qT_ne (cx := (v12_m9).toInt) (cy := 0) rfl (by decide) h50
          refine pm_go (g := (127, _, [.int v7_r9], _, 0, 0)) rfl ?_
          refine pm_if2 (g := (144, [(8, .int v14_r9), (7, .int v12_r9), (6, .int v7_r9), (5, .int v5_m9), (4, .int v5_r9), (0, .ref 25), (1, .int t), (2, .int w), (3, .int f)], [], hq g c1 c2 c3 c4 c5 c6 c7 c8 c9 c10 c11 c12 c13 c14 c15 c16 c17 c18 c19 c20 c21 c22 c23 c24 (hc25 mTy mTm mMn mFn mRn mTn mVn mLr mTr mFl v12_m9 v12_p9 mSc v5_p9 mEn) (hc26 mPa) (hc27 mTo) (hc28 mOt) (hc29 mNa) (hc30 mRe) (hc31 mMa) (hc32 mMy) (hc33 mPm) (hc34 mFy) (hc35 mFa) (hc36 mFr) (hc37 mFo) (hc38 mRt) (hc39 mRm) (hc40 mTt) (hc41 mTi) (hc42 mPl) (hc43 mVr) (hc44 mVf) (hc45 mVc) (hc46 mAr) (hc47 mTc) (hc48 v12_f9) (hc49 mGo) dyn, 0, 0)) (h := (130, [(8, .int v14_r9), (7, .int v12_r9), (6, .int v7_r9), (5, .int v5_m9), (4, .int v5_r9), (0, .ref 25), (1, .int t), (2, .int w), (3, .int f)], [], hq g c1 c2 c3 c4 c5 c6 c7 c8 c9 c10 c11 c12 c13 c14 c15 c16 c17 c18 c19 c20 c21 c22 c23 c24 (hc25 mTy mTm mMn mFn mRn mTn mVn mLr mTr mFl v12_m9 v12_p9 mSc v5_p9 mEn) (hc26 mPa) (hc27 mTo) (hc28 mOt) (hc29 mNa) (hc30 mRe) (hc31 mMa) (hc32 mMy) (hc33 mPm) (hc34 mFy) (hc35 mFa) (hc36 mFr) (hc37 mFo) (hc38 mRt) (hc39 mRm) (hc40 mTt) (hc41 mTi) (hc42 mPl) (hc43 mVr) (hc44 mVf) (hc45 mVc) (hc46 mAr) (hc47 mTc) (hc48 v12_f9) (hc49 mGo) dyn, 0, 0)) rfl (fun h51 => ?_) (fun h51 => ?_)
          ·
            have h51 := qT_ne (cx := (v7_r9).toInt) (cy := 0) rfl (by decide) h51
            refine pm_go (g := (146, _, [.int (-12)], _, 0, 0)) rfl ?_
            refine pm_ret rfl (k0 _ _ _ _ _ ⟨_, _, _, _, h2, h9, ?_⟩ (by omega))
            exact Or.inr (Or.inr (Or.inr (Or.inr ⟨(fun ⟨a, b, c⟩ => by have c1 := hA2.mpr c; omega), (fun ⟨a, b, c⟩ => by have c1 := hS1.mpr c; omega), rfl, rfl, by omega, (fun ⟨a, b⟩ => by have c1 := hS1.mpr a; have c2 := hA2.mpr b; omega), rfl⟩)))
          have h51 := qF_ne (cx := (v7_r9).toInt) (cy := 0) rfl (by decide) h51
          refine pm_go (g := (132, _, [.int v14_r9], _, 0, 0)) rfl ?_
          refine pm_go (g := (133, _, [.ref 25, .int v14_r9], _, 0, 0)) rfl ?_
          refine pm_go (g := (136, _, [.int v12_m9, .int v14_r9], _, 0, 0)) rfl ?_
          refine pm_if2 (g := (144, [(8, .int v14_r9), (7, .int v12_r9), (6, .int v7_r9), (5, .int v5_m9), (4, .int v5_r9), (0, .ref 25), (1, .int t), (2, .int w), (3, .int f)], [], hq g c1 c2 c3 c4 c5 c6 c7 c8 c9 c10 c11 c12 c13 c14 c15 c16 c17 c18 c19 c20 c21 c22 c23 c24 (hc25 mTy mTm mMn mFn mRn mTn mVn mLr mTr mFl v12_m9 v12_p9 mSc v5_p9 mEn) (hc26 mPa) (hc27 mTo) (hc28 mOt) (hc29 mNa) (hc30 mRe) (hc31 mMa) (hc32 mMy) (hc33 mPm) (hc34 mFy) (hc35 mFa) (hc36 mFr) (hc37 mFo) (hc38 mRt) (hc39 mRm) (hc40 mTt) (hc41 mTi) (hc42 mPl) (hc43 mVr) (hc44 mVf) (hc45 mVc) (hc46 mAr) (hc47 mTc) (hc48 v12_f9) (hc49 mGo) dyn, 0, 0)) (h := (139, [(8, .int v14_r9), (7, .int v12_r9), (6, .int v7_r9), (5, .int v5_m9), (4, .int v5_r9), (0, .ref 25), (1, .int t), (2, .int w), (3, .int f)], [], hq g c1 c2 c3 c4 c5 c6 c7 c8 c9 c10 c11 c12 c13 c14 c15 c16 c17 c18 c19 c20 c21 c22 c23 c24 (hc25 mTy mTm mMn mFn mRn mTn mVn mLr mTr mFl v12_m9 v12_p9 mSc v5_p9 mEn) (hc26 mPa) (hc27 mTo) (hc28 mOt) (hc29 mNa) (hc30 mRe) (hc31 mMa) (hc32 mMy) (hc33 mPm) (hc34 mFy) (hc35 mFa) (hc36 mFr) (hc37 mFo) (hc38 mRt) (hc39 mRm) (hc40 mTt) (hc41 mTi) (hc42 mPl) (hc43 mVr) (hc44 mVf) (hc45 mVc) (hc46 mAr) (hc47 mTc) (hc48 v12_f9) (hc49 mGo) dyn, 0, 0)) rfl (fun h52 => ?_) (fun h52 => ?_)
          ·
            have h52 := qT_ne (cx := (v14_r9).toInt) (cy := (v12_m9).toInt) rfl rfl h52
            refine pm_go (g := (146, _, [.int (-12)], _, 0, 0)) rfl ?_
            refine pm_ret rfl (k0 _ _ _ _ _ ⟨_, _, _, _, h2, h9, ?_⟩ (by omega))
            exact Or.inr (Or.inr (Or.inr (Or.inr ⟨(fun ⟨a, b, c⟩ => by have c1 := hA2.mpr c; omega), (fun ⟨a, b, c⟩ => by have c1 := hS1.mpr c; omega), rfl, rfl, by omega, (fun ⟨a, b⟩ => by have c1 := hS1.mpr a; have c2 := hA2.mpr b; omega), rfl⟩)))
          have h52 := qF_ne (cx := (v14_r9).toInt) (cy := (v12_m9).toInt) rfl rfl h52
          refine pm_go (g := (141, _, [.int (-13)], _, 0, 0)) rfl ?_
          refine pm_go (g := (146, _, [.int (-13)], _, 0, 0)) rfl ?_
          refine pm_ret rfl (k0 _ _ _ _ _ ⟨_, _, _, _, h2, h9, ?_⟩ (by omega))
          exact Or.inr (Or.inr (Or.inr (Or.inl ⟨(fun ⟨a, b, c⟩ => by have c1 := hA2.mpr c; omega), (fun ⟨a, b, c⟩ => by have c1 := hS1.mpr c; omega), rfl, rfl, by omega, ⟨hS1.mp (by omega), hA2.mp (by omega)⟩, rfl⟩)))
        have h50 := qF_ne (cx := (v12_m9).toInt) (cy := 0) rfl (by decide) h50
        refine pm_go (g := (122, _, [.int (-11)], _, 0, 0)) rfl ?_
        refine pm_go (g := (146, _, [.int (-11)], _, 0, 0)) rfl ?_
        refine pm_ret rfl (k0 _ _ _ _ _ ⟨_, _, _, _, h2, h9, ?_⟩ (by omega))
        exact Or.inr (Or.inr (Or.inl ⟨(fun ⟨a, b, c⟩ => by have c1 := hA2.mpr c; omega), (fun ⟨a, b, c⟩ => by have c1 := hS1.mpr c; omega), rfl, rfl, by omega, rfl⟩))
      have h46 := qF_lt (cx := (v12_r9).toInt) (cy := 0) rfl (by decide) h46
      refine pm_go (g := (78, _, [.ref 25], _, 0, 0)) rfl ?_
      refine pm_go (g := (80, _, [.int v12_r9, .ref 25], _, 0, 0)) rfl ?_
      refine pm_go (g := (81, _, [.int 1, .int v12_r9, .ref 25], _, 0, 0)) rfl ?_
      refine pm_callD (z := 139) (as := [.ref 25, .int v12_r9, .int 1]) (rest := []) rfl ?_
      have h53 : (1 : Int32).toInt = 1 := by decide
      refine w_X12_isMark v12_r9 1 (by omega) (fun h54 => ?_) (fun h55 => ?_)
      ·
        show pm_WP 155 (84, [(8, .int v14_r9), (7, .int v12_r9), (6, .int v7_r9), (5, .int v5_m9), (4, .int v5_r9), (0, .ref 25), (1, .int t), (2, .int w), (3, .int f)], [.int 1], _, 0, 0) _
        refine pm_brT (g := (108, [(8, .int v14_r9), (7, .int v12_r9), (6, .int v7_r9), (5, .int v5_m9), (4, .int v5_r9), (0, .ref 25), (1, .int t), (2, .int w), (3, .int f)], [], hq g c1 c2 c3 c4 c5 c6 c7 c8 c9 c10 c11 c12 c13 c14 c15 c16 c17 c18 c19 c20 c21 c22 c23 c24 (hc25 mTy mTm mMn mFn mRn mTn mVn mLr mTr mFl v12_m9 v12_p9 mSc v5_p9 mEn) (hc26 mPa) (hc27 mTo) (hc28 mOt) (hc29 mNa) (hc30 mRe) (hc31 mMa) (hc32 mMy) (hc33 mPm) (hc34 mFy) (hc35 mFa) (hc36 mFr) (hc37 mFo) (hc38 mRt) (hc39 mRm) (hc40 mTt) (hc41 mTi) (hc42 mPl) (hc43 mVr) (hc44 mVf) (hc45 mVc) (hc46 mAr) (hc47 mTc) (hc48 v12_f9) (hc49 mGo) dyn, 0, 0)) rfl ?_
        refine pm_go (g := (110, _, [.int v5_m9], _, 0, 0)) rfl ?_
        refine pm_if2 (g := (125, [(8, .int v14_r9), (7, .int v12_r9), (6, .int v7_r9), (5, .int v5_m9), (4, .int v5_r9), (0, .ref 25), (1, .int t), (2, .int w), (3, .int f)], [], hq g c1 c2 c3 c4 c5 c6 c7 c8 c9 c10 c11 c12 c13 c14 c15 c16 c17 c18 c19 c20 c21 c22 c23 c24 (hc25 mTy mTm mMn mFn mRn mTn mVn mLr mTr mFl v12_m9 v12_p9 mSc v5_p9 mEn) (hc26 mPa) (hc27 mTo) (hc28 mOt) (hc29 mNa) (hc30 mRe) (hc31 mMa) (hc32 mMy) (hc33 mPm) (hc34 mFy) (hc35 mFa) (hc36 mFr) (hc37 mFo) (hc38 mRt) (hc39 mRm) (hc40 mTt) (hc41 mTi) (hc42 mPl) (hc43 mVr) (hc44 mVf) (hc45 mVc) (hc46 mAr) (hc47 mTc) (hc48 v12_f9) (hc49 mGo) dyn, 0, 0)) (h := (113, [(8, .int v14_r9), (7, .int v12_r9), (6, .int v7_r9), (5, .int v5_m9), (4, .int v5_r9), (0, .ref 25), (1, .int t), (2, .int w), (3, .int f)], [], hq g c1 c2 c3 c4 c5 c6 c7 c8 c9 c10 c11 c12 c13 c14 c15 c16 c17 c18 c19 c20 c21 c22 c23 c24 (hc25 mTy mTm mMn mFn mRn mTn mVn mLr mTr mFl v12_m9 v12_p9 mSc v5_p9 mEn) (hc26 mPa) (hc27 mTo) (hc28 mOt) (hc29 mNa) (hc30 mRe) (hc31 mMa) (hc32 mMy) (hc33 mPm) (hc34 mFy) (hc35 mFa) (hc36 mFr) (hc37 mFo) (hc38 mRt) (hc39 mRm) (hc40 mTt) (hc41 mTi) (hc42 mPl) (hc43 mVr) (hc44 mVf) (hc45 mVc) (hc46 mAr) (hc47 mTc) (hc48 v12_f9) (hc49 mGo) dyn, 0, 0)) rfl (fun h57 => ?_) (fun h57 => ?_)
        ·
          have h57 := qT_ne (cx := (v5_m9).toInt) (cy := 0) rfl (by decide) h57
          refine pm_go (g := (127, _, [.int v7_r9], _, 0, 0)) rfl ?_
          refine pm_if2 (g := (144, [(8, .int v14_r9), (7, .int v12_r9), (6, .int v7_r9), (5, .int v5_m9), (4, .int v5_r9), (0, .ref 25), (1, .int t), (2, .int w), (3, .int f)], [], hq g c1 c2 c3 c4 c5 c6 c7 c8 c9 c10 c11 c12 c13 c14 c15 c16 c17 c18 c19 c20 c21 c22 c23 c24 (hc25 mTy mTm mMn mFn mRn mTn mVn mLr mTr mFl v12_m9 v12_p9 mSc v5_p9 mEn) (hc26 mPa) (hc27 mTo) (hc28 mOt) (hc29 mNa) (hc30 mRe) (hc31 mMa) (hc32 mMy) (hc33 mPm) (hc34 mFy) (hc35 mFa) (hc36 mFr) (hc37 mFo) (hc38 mRt) (hc39 mRm) (hc40 mTt) (hc41 mTi) (hc42 mPl) (hc43 mVr) (hc44 mVf) (hc45 mVc) (hc46 mAr) (hc47 mTc) (hc48 v12_f9) (hc49 mGo) dyn, 0, 0)) (h := (130, [(8, .int v14_r9), (7, .int v12_r9), (6, .int v7_r9), (5, .int v5_m9), (4, .int v5_r9), (0, .ref 25), (1, .int t), (2, .int w), (3, .int f)], [], hq g c1 c2 c3 c4 c5 c6 c7 c8 c9 c10 c11 c12 c13 c14 c15 c16 c17 c18 c19 c20 c21 c22 c23 c24 (hc25 mTy mTm mMn mFn mRn mTn mVn mLr mTr mFl v12_m9 v12_p9 mSc v5_p9 mEn) (hc26 mPa) (hc27 mTo) (hc28 mOt) (hc29 mNa) (hc30 mRe) (hc31 mMa) (hc32 mMy) (hc33 mPm) (hc34 mFy) (hc35 mFa) (hc36 mFr) (hc37 mFo) (hc38 mRt) (hc39 mRm) (hc40 mTt) (hc41 mTi) (hc42 mPl) (hc43 mVr) (hc44 mVf) (hc45 mVc) (hc46 mAr) (hc47 mTc) (hc48 v12_f9) (hc49 mGo) dyn, 0, 0)) rfl (fun h58 => ?_) (fun h58 => ?_)
          ·
            have h58 := qT_ne (cx := (v7_r9).toInt) (cy := 0) rfl (by decide) h58
            refine pm_go (g := (146, _, [.int (-12)], _, 0, 0)) rfl ?_
            refine pm_ret rfl (k0 _ _ _ _ _ ⟨_, _, _, _, h2, h9, ?_⟩ (by omega))
            exact Or.inr (Or.inr (Or.inr (Or.inr ⟨(fun ⟨a, b, c⟩ => by have c1 := hA2.mpr c; omega), (fun ⟨a, b, c⟩ => by have c1 := hS1.mpr c; omega), rfl, rfl, by omega, (fun ⟨a, b⟩ => by have c1 := hS1.mpr a; have c2 := hA2.mpr b; omega), rfl⟩)))
          have h58 := qF_ne (cx := (v7_r9).toInt) (cy := 0) rfl (by decide) h58
          refine pm_go (g := (132, _, [.int v14_r9], _, 0, 0)) rfl ?_
          refine pm_go (g := (133, _, [.ref 25, .int v14_r9], _, 0, 0)) rfl ?_
          refine pm_go (g := (136, _, [.int v12_m9, .int v14_r9], _, 0, 0)) rfl ?_
          refine pm_if2 (g := (144, [(8, .int v14_r9), (7, .int v12_r9), (6, .int v7_r9), (5, .int v5_m9), (4, .int v5_r9), (0, .ref 25), (1, .int t), (2, .int w), (3, .int f)], [], hq g c1 c2 c3 c4 c5 c6 c7 c8 c9 c10 c11 c12 c13 c14 c15 c16 c17 c18 c19 c20 c21 c22 c23 c24 (hc25 mTy mTm mMn mFn mRn mTn mVn mLr mTr mFl v12_m9 v12_p9 mSc v5_p9 mEn) (hc26 mPa) (hc27 mTo) (hc28 mOt) (hc29 mNa) (hc30 mRe) (hc31 mMa) (hc32 mMy) (hc33 mPm) (hc34 mFy) (hc35 mFa) (hc36 mFr) (hc37 mFo) (hc38 mRt) (hc39 mRm) (hc40 mTt) (hc41 mTi) (hc42 mPl) (hc43 mVr) (hc44 mVf) (hc45 mVc) (hc46 mAr) (hc47 mTc) (hc48 v12_f9) (hc49 mGo) dyn, 0, 0)) (h := (139, [(8, .int v14_r9), (7, .int v12_r9), (6, .int v7_r9), (5, .int v5_m9), (4, .int v5_r9), (0, .ref 25), (1, .int t), (2, .int w), (3, .int f)], [], hq g c1 c2 c3 c4 c5 c6 c7 c8 c9 c10 c11 c12 c13 c14 c15 c16 c17 c18 c19 c20 c21 c22 c23 c24 (hc25 mTy mTm mMn mFn mRn mTn mVn mLr mTr mFl v12_m9 v12_p9 mSc v5_p9 mEn) (hc26 mPa) (hc27 mTo) (hc28 mOt) (hc29 mNa) (hc30 mRe) (hc31 mMa) (hc32 mMy) (hc33 mPm) (hc34 mFy) (hc35 mFa) (hc36 mFr) (hc37 mFo) (hc38 mRt) (hc39 mRm) (hc40 mTt) (hc41 mTi) (hc42 mPl) (hc43 mVr) (hc44 mVf) (hc45 mVc) (hc46 mAr) (hc47 mTc) (hc48 v12_f9) (hc49 mGo) dyn, 0, 0)) rfl (fun h59 => ?_) (fun h59 => ?_)
          ·
            have h59 := qT_ne (cx := (v14_r9).toInt) (cy := (v12_m9).toInt) rfl rfl h59
            refine pm_go (g := (146, _, [.int (-12)], _, 0, 0)) rfl ?_
            refine pm_ret rfl (k0 _ _ _ _ _ ⟨_, _, _, _, h2, h9, ?_⟩ (by omega))
            exact Or.inr (Or.inr (Or.inr (Or.inr ⟨(fun ⟨a, b, c⟩ => by have c1 := hA2.mpr c; omega), (fun ⟨a, b, c⟩ => by have c1 := hS1.mpr c; omega), rfl, rfl, by omega, (fun ⟨a, b⟩ => by have c1 := hS1.mpr a; have c2 := hA2.mpr b; omega), rfl⟩)))
          have h59 := qF_ne (cx := (v14_r9).toInt) (cy := (v12_m9).toInt) rfl rfl h59
          refine pm_go (g := (141, _, [.int (-13)], _, 0, 0)) rfl ?_
          refine pm_go (g := (146, _, [.int (-13)], _, 0, 0)) rfl ?_
          refine pm_ret rfl (k0 _ _ _ _ _ ⟨_, _, _, _, h2, h9, ?_⟩ (by omega))
          exact Or.inr (Or.inr (Or.inr (Or.inl ⟨(fun ⟨a, b, c⟩ => by have c1 := hA2.mpr c; omega), (fun ⟨a, b, c⟩ => by have c1 := hS1.mpr c; omega), rfl, rfl, by omega, ⟨hS1.mp (by omega), hA2.mp (by omega)⟩, rfl⟩)))
        have h57 := qF_ne (cx := (v5_m9).toInt) (cy := 0) rfl (by decide) h57
        refine pm_go (g := (114, _, [.ref 25], _, 0, 0)) rfl ?_
        refine pm_go (g := (117, _, [.int v12_m9], _, 0, 0)) rfl ?_
        refine pm_if2 (g := (125, [(8, .int v14_r9), (7, .int v12_r9), (6, .int v7_r9), (5, .int v5_m9), (4, .int v5_r9), (0, .ref 25), (1, .int t), (2, .int w), (3, .int f)], [], hq g c1 c2 c3 c4 c5 c6 c7 c8 c9 c10 c11 c12 c13 c14 c15 c16 c17 c18 c19 c20 c21 c22 c23 c24 (hc25 mTy mTm mMn mFn mRn mTn mVn mLr mTr mFl v12_m9 v12_p9 mSc v5_p9 mEn) (hc26 mPa) (hc27 mTo) (hc28 mOt) (hc29 mNa) (hc30 mRe) (hc31 mMa) (hc32 mMy) (hc33 mPm) (hc34 mFy) (hc35 mFa) (hc36 mFr) (hc37 mFo) (hc38 mRt) (hc39 mRm) (hc40 mTt) (hc41 mTi) (hc42 mPl) (hc43 mVr) (hc44 mVf) (hc45 mVc) (hc46 mAr) (hc47 mTc) (hc48 v12_f9) (hc49 mGo) dyn, 0, 0)) (h := (120, [(8, .int v14_r9), (7, .int v12_r9), (6, .int v7_r9), (5, .int v5_m9), (4, .int v5_r9), (0, .ref 25), (1, .int t), (2, .int w), (3, .int f)], [], hq g c1 c2 c3 c4 c5 c6 c7 c8 c9 c10 c11 c12 c13 c14 c15 c16 c17 c18 c19 c20 c21 c22 c23 c24 (hc25 mTy mTm mMn mFn mRn mTn mVn mLr mTr mFl v12_m9 v12_p9 mSc v5_p9 mEn) (hc26 mPa) (hc27 mTo) (hc28 mOt) (hc29 mNa) (hc30 mRe) (hc31 mMa) (hc32 mMy) (hc33 mPm) (hc34 mFy) (hc35 mFa) (hc36 mFr) (hc37 mFo) (hc38 mRt) (hc39 mRm) (hc40 mTt) (hc41 mTi) (hc42 mPl) (hc43 mVr) (hc44 mVf) (hc45 mVc) (hc46 mAr) (hc47 mTc) (hc48 v12_f9) (hc49 mGo) dyn, 0, 0)) rfl (fun h60 => ?_) (fun h60 => ?_)
        ·
          have h60 := qT_ne (cx := (v12_m9).toInt) (cy := 0) rfl (by decide) h60
          refine pm_go (g := (127, _, [.int v7_r9], _, 0, 0)) rfl ?_
          refine pm_if2 (g := (144, [(8, .int v14_r9), (7, .int v12_r9), (6, .int v7_r9), (5, .int v5_m9), (4, .int v5_r9), (0, .ref 25), (1, .int t), (2, .int w), (3, .int f)], [], hq g c1 c2 c3 c4 c5 c6 c7 c8 c9 c10 c11 c12 c13 c14 c15 c16 c17 c18 c19 c20 c21 c22 c23 c24 (hc25 mTy mTm mMn mFn mRn mTn mVn mLr mTr mFl v12_m9 v12_p9 mSc v5_p9 mEn) (hc26 mPa) (hc27 mTo) (hc28 mOt) (hc29 mNa) (hc30 mRe) (hc31 mMa) (hc32 mMy) (hc33 mPm) (hc34 mFy) (hc35 mFa) (hc36 mFr) (hc37 mFo) (hc38 mRt) (hc39 mRm) (hc40 mTt) (hc41 mTi) (hc42 mPl) (hc43 mVr) (hc44 mVf) (hc45 mVc) (hc46 mAr) (hc47 mTc) (hc48 v12_f9) (hc49 mGo) dyn, 0, 0)) (h := (130, [(8, .int v14_r9), (7, .int v12_r9), (6, .int v7_r9), (5, .int v5_m9), (4, .int v5_r9), (0, .ref 25), (1, .int t), (2, .int w), (3, .int f)], [], hq g c1 c2 c3 c4 c5 c6 c7 c8 c9 c10 c11 c12 c13 c14 c15 c16 c17 c18 c19 c20 c21 c22 c23 c24 (hc25 mTy mTm mMn mFn mRn mTn mVn mLr mTr mFl v12_m9 v12_p9 mSc v5_p9 mEn) (hc26 mPa) (hc27 mTo) (hc28 mOt) (hc29 mNa) (hc30 mRe) (hc31 mMa) (hc32 mMy) (hc33 mPm) (hc34 mFy) (hc35 mFa) (hc36 mFr) (hc37 mFo) (hc38 mRt) (hc39 mRm) (hc40 mTt) (hc41 mTi) (hc42 mPl) (hc43 mVr) (hc44 mVf) (hc45 mVc) (hc46 mAr) (hc47 mTc) (hc48 v12_f9) (hc49 mGo) dyn, 0, 0)) rfl (fun h61 => ?_) (fun h61 => ?_)
          ·
            have h61 := qT_ne (cx := (v7_r9).toInt) (cy := 0) rfl (by decide) h61
            refine pm_go (g := (146, _, [.int (-12)], _, 0, 0)) rfl ?_
            refine pm_ret rfl (k0 _ _ _ _ _ ⟨_, _, _, _, h2, h9, ?_⟩ (by omega))
            exact Or.inr (Or.inr (Or.inr (Or.inr ⟨(fun ⟨a, b, c⟩ => by have c1 := hA2.mpr c; omega), (fun ⟨a, b, c⟩ => by have c1 := hS1.mpr c; omega), rfl, rfl, by omega, (fun ⟨a, b⟩ => by have c1 := hS1.mpr a; have c2 := hA2.mpr b; omega), rfl⟩)))
          have h61 := qF_ne (cx := (v7_r9).toInt) (cy := 0) rfl (by decide) h61
          refine pm_go (g := (132, _, [.int v14_r9], _, 0, 0)) rfl ?_
          refine pm_go (g := (133, _, [.ref 25, .int v14_r9], _, 0, 0)) rfl ?_
          refine pm_go (g := (136, _, [.int v12_m9, .int v14_r9], _, 0, 0)) rfl ?_
          refine pm_if2 (g := (144, [(8, .int v14_r9), (7, .int v12_r9), (6, .int v7_r9), (5, .int v5_m9), (4, .int v5_r9), (0, .ref 25), (1, .int t), (2, .int w), (3, .int f)], [], hq g c1 c2 c3 c4 c5 c6 c7 c8 c9 c10 c11 c12 c13 c14 c15 c16 c17 c18 c19 c20 c21 c22 c23 c24 (hc25 mTy mTm mMn mFn mRn mTn mVn mLr mTr mFl v12_m9 v12_p9 mSc v5_p9 mEn) (hc26 mPa) (hc27 mTo) (hc28 mOt) (hc29 mNa) (hc30 mRe) (hc31 mMa) (hc32 mMy) (hc33 mPm) (hc34 mFy) (hc35 mFa) (hc36 mFr) (hc37 mFo) (hc38 mRt) (hc39 mRm) (hc40 mTt) (hc41 mTi) (hc42 mPl) (hc43 mVr) (hc44 mVf) (hc45 mVc) (hc46 mAr) (hc47 mTc) (hc48 v12_f9) (hc49 mGo) dyn, 0, 0)) (h := (139, [(8, .int v14_r9), (7, .int v12_r9), (6, .int v7_r9), (5, .int v5_m9), (4, .int v5_r9), (0, .ref 25), (1, .int t), (2, .int w), (3, .int f)], [], hq g c1 c2 c3 c4 c5 c6 c7 c8 c9 c10 c11 c12 c13 c14 c15 c16 c17 c18 c19 c20 c21 c22 c23 c24 (hc25 mTy mTm mMn mFn mRn mTn mVn mLr mTr mFl v12_m9 v12_p9 mSc v5_p9 mEn) (hc26 mPa) (hc27 mTo) (hc28 mOt) (hc29 mNa) (hc30 mRe) (hc31 mMa) (hc32 mMy) (hc33 mPm) (hc34 mFy) (hc35 mFa) (hc36 mFr) (hc37 mFo) (hc38 mRt) (hc39 mRm) (hc40 mTt) (hc41 mTi) (hc42 mPl) (hc43 mVr) (hc44 mVf) (hc45 mVc) (hc46 mAr) (hc47 mTc) (hc48 v12_f9) (hc49 mGo) dyn, 0, 0)) rfl (fun h62 => ?_) (fun h62 => ?_)
          ·
            have h62 := qT_ne (cx := (v14_r9).toInt) (cy := (v12_m9).toInt) rfl rfl h62
            refine pm_go (g := (146, _, [.int (-12)], _, 0, 0)) rfl ?_
            refine pm_ret rfl (k0 _ _ _ _ _ ⟨_, _, _, _, h2, h9, ?_⟩ (by omega))
            exact Or.inr (Or.inr (Or.inr (Or.inr ⟨(fun ⟨a, b, c⟩ => by have c1 := hA2.mpr c; omega), (fun ⟨a, b, c⟩ => by have c1 := hS1.mpr c; omega), rfl, rfl, by omega, (fun ⟨a, b⟩ => by have c1 := hS1.mpr a; have c2 := hA2.mpr b; omega), rfl⟩)))
          have h62 := qF_ne (cx := (v14_r9).toInt) (cy := (v12_m9).toInt) rfl rfl h62
          refine pm_go (g := (141, _, [.int (-13)], _, 0, 0)) rfl ?_
          refine pm_go (g := (146, _, [.int (-13)], _, 0, 0)) rfl ?_
          refine pm_ret rfl (k0 _ _ _ _ _ ⟨_, _, _, _, h2, h9, ?_⟩ (by omega))
          exact Or.inr (Or.inr (Or.inr (Or.inl ⟨(fun ⟨a, b, c⟩ => by have c1 := hA2.mpr c; omega), (fun ⟨a, b, c⟩ => by have c1 := hS1.mpr c; omega), rfl, rfl, by omega, ⟨hS1.mp (by omega), hA2.mp (by omega)⟩, rfl⟩)))
        have h60 := qF_ne (cx := (v12_m9).toInt) (cy := 0) rfl (by decide) h60
        refine pm_go (g := (122, _, [.int (-11)], _, 0, 0)) rfl ?_
        refine pm_go (g := (146, _, [.int (-11)], _, 0, 0)) rfl ?_
        refine pm_ret rfl (k0 _ _ _ _ _ ⟨_, _, _, _, h2, h9, ?_⟩ (by omega))
        exact Or.inr (Or.inr (Or.inl ⟨(fun ⟨a, b, c⟩ => by have c1 := hA2.mpr c; omega), (fun ⟨a, b, c⟩ => by have c1 := hS1.mpr c; omega), rfl, rfl, by omega, rfl⟩))
      show pm_WP 155 (84, [(8, .int v14_r9), (7, .int v12_r9), (6, .int v7_r9), (5, .int v5_m9), (4, .int v5_r9), (0, .ref 25), (1, .int t), (2, .int w), (3, .int f)], [.int 0], hq g c1 c2 c3 c4 c5 c6 c7 c8 c9 c10 c11 c12 c13 c14 c15 c16 c17 c18 c19 c20 c21 c22 c23 c24 (hc25 mTy mTm mMn mFn mRn mTn mVn mLr mTr mFl v12_m9 v12_p9 mSc v5_p9 mEn) (hc26 mPa) (hc27 mTo) (hc28 mOt) (hc29 mNa) (hc30 mRe) (hc31 mMa) (hc32 mMy) (hc33 mPm) (hc34 mFy) (hc35 mFa) (hc36 mFr) (hc37 mFo) (hc38 mRt) (hc39 mRm) (hc40 mTt) (hc41 mTi) (hc42 mPl) (hc43 mVr) (hc44 mVf) (hc45 mVc) (hc46 mAr) (hc47 mTc) (hc48 v12_f9) (hc49 mGo) dyn, 0, 0) _
      refine pm_brF (h := (87, [(8, .int v14_r9), (7, .int v12_r9), (6, .int v7_r9), (5, .int v5_m9), (4, .int v5_r9), (0, .ref 25), (1, .int t), (2, .int w), (3, .int f)], [], hq g c1 c2 c3 c4 c5 c6 c7 c8 c9 c10 c11 c12 c13 c14 c15 c16 c17 c18 c19 c20 c21 c22 c23 c24 (hc25 mTy mTm mMn mFn mRn mTn mVn mLr mTr mFl v12_m9 v12_p9 mSc v5_p9 mEn) (hc26 mPa) (hc27 mTo) (hc28 mOt) (hc29 mNa) (hc30 mRe) (hc31 mMa) (hc32 mMy) (hc33 mPm) (hc34 mFy) (hc35 mFa) (hc36 mFr) (hc37 mFo) (hc38 mRt) (hc39 mRm) (hc40 mTt) (hc41 mTi) (hc42 mPl) (hc43 mVr) (hc44 mVf) (hc45 mVc) (hc46 mAr) (hc47 mTc) (hc48 v12_f9) (hc49 mGo) dyn, 0, 0)) rfl ?_
      refine pm_go (g := (89, _, [.int v7_r9], _, 0, 0)) rfl ?_
      refine pm_if2 (g := (108, [(8, .int v14_r9), (7, .int v12_r9), (6, .int v7_r9), (5, .int v5_m9), (4, .int v5_r9), (0, .ref 25), (1, .int t), (2, .int w), (3, .int f)], [], hq g c1 c2 c3 c4 c5 c6 c7 c8 c9 c10 c11 c12 c13 c14 c15 c16 c17 c18 c19 c20 c21 c22 c23 c24 (hc25 mTy mTm mMn mFn mRn mTn mVn mLr mTr mFl v12_m9 v12_p9 mSc v5_p9 mEn) (hc26 mPa) (hc27 mTo) (hc28 mOt) (hc29 mNa) (hc30 mRe) (hc31 mMa) (hc32 mMy) (hc33 mPm) (hc34 mFy) (hc35 mFa) (hc36 mFr) (hc37 mFo) (hc38 mRt) (hc39 mRm) (hc40 mTt) (hc41 mTi) (hc42 mPl) (hc43 mVr) (hc44 mVf) (hc45 mVc) (hc46 mAr) (hc47 mTc) (hc48 v12_f9) (hc49 mGo) dyn, 0, 0)) (h := (92, [(8, .int v14_r9), (7, .int v12_r9), (6, .int v7_r9), (5, .int v5_m9), (4, .int v5_r9), (0, .ref 25), (1, .int t), (2, .int w), (3, .int f)], [], hq g c1 c2 c3 c4 c5 c6 c7 c8 c9 c10 c11 c12 c13 c14 c15 c16 c17 c18 c19 c20 c21 c22 c23 c24 (hc25 mTy mTm mMn mFn mRn mTn mVn mLr mTr mFl v12_m9 v12_p9 mSc v5_p9 mEn) (hc26 mPa) (hc27 mTo) (hc28 mOt) (hc29 mNa) (hc30 mRe) (hc31 mMa) (hc32 mMy) (hc33 mPm) (hc34 mFy) (hc35 mFa) (hc36 mFr) (hc37 mFo) (hc38 mRt) (hc39 mRm) (hc40 mTt) (hc41 mTi) (hc42 mPl) (hc43 mVr) (hc44 mVf) (hc45 mVc) (hc46 mAr) (hc47 mTc) (hc48 v12_f9) (hc49 mGo) dyn, 0, 0)) rfl (fun h63 => ?_) (fun h63 => ?_)
      ·
        have h63 := qT_ne (cx := (v7_r9).toInt) (cy := 0) rfl (by decide) h63
        refine pm_go (g := (110, _, [.int v5_m9], _, 0, 0)) rfl ?_
        refine pm_if2 (g := (125, [(8, .int v14_r9), (7, .int v12_r9), (6, .int v7_r9), (5, .int v5_m9), (4, .int v5_r9), (0, .ref 25), (1, .int t), (2, .int w), (3, .int f)], [], hq g c1 c2 c3 c4 c5 c6 c7 c8 c9 c10 c11 c12 c13 c14 c15 c16 c17 c18 c19 c20 c21 c22 c23 c24 (hc25 mTy mTm mMn mFn mRn mTn mVn mLr mTr mFl v12_m9 v12_p9 mSc v5_p9 mEn) (hc26 mPa) (hc27 mTo) (hc28 mOt) (hc29 mNa) (hc30 mRe) (hc31 mMa) (hc32 mMy) (hc33 mPm) (hc34 mFy) (hc35 mFa) (hc36 mFr) (hc37 mFo) (hc38 mRt) (hc39 mRm) (hc40 mTt) (hc41 mTi) (hc42 mPl) (hc43 mVr) (hc44 mVf) (hc45 mVc) (hc46 mAr) (hc47 mTc) (hc48 v12_f9) (hc49 mGo) dyn, 0, 0)) (h := (113, [(8, .int v14_r9), (7, .int v12_r9), (6, .int v7_r9), (5, .int v5_m9), (4, .int v5_r9), (0, .ref 25), (1, .int t), (2, .int w), (3, .int f)], [], hq g c1 c2 c3 c4 c5 c6 c7 c8 c9 c10 c11 c12 c13 c14 c15 c16 c17 c18 c19 c20 c21 c22 c23 c24 (hc25 mTy mTm mMn mFn mRn mTn mVn mLr mTr mFl v12_m9 v12_p9 mSc v5_p9 mEn) (hc26 mPa) (hc27 mTo) (hc28 mOt) (hc29 mNa) (hc30 mRe) (hc31 mMa) (hc32 mMy) (hc33 mPm) (hc34 mFy) (hc35 mFa) (hc36 mFr) (hc37 mFo) (hc38 mRt) (hc39 mRm) (hc40 mTt) (hc41 mTi) (hc42 mPl) (hc43 mVr) (hc44 mVf) (hc45 mVc) (hc46 mAr) (hc47 mTc) (hc48 v12_f9) (hc49 mGo) dyn, 0, 0)) rfl (fun h64 => ?_) (fun h64 => ?_)
        ·
          have h64 := qT_ne (cx := (v5_m9).toInt) (cy := 0) rfl (by decide) h64
          refine pm_go (g := (127, _, [.int v7_r9], _, 0, 0)) rfl ?_
          refine pm_if2 (g := (144, [(8, .int v14_r9), (7, .int v12_r9), (6, .int v7_r9), (5, .int v5_m9), (4, .int v5_r9), (0, .ref 25), (1, .int t), (2, .int w), (3, .int f)], [], hq g c1 c2 c3 c4 c5 c6 c7 c8 c9 c10 c11 c12 c13 c14 c15 c16 c17 c18 c19 c20 c21 c22 c23 c24 (hc25 mTy mTm mMn mFn mRn mTn mVn mLr mTr mFl v12_m9 v12_p9 mSc v5_p9 mEn) (hc26 mPa) (hc27 mTo) (hc28 mOt) (hc29 mNa) (hc30 mRe) (hc31 mMa) (hc32 mMy) (hc33 mPm) (hc34 mFy) (hc35 mFa) (hc36 mFr) (hc37 mFo) (hc38 mRt) (hc39 mRm) (hc40 mTt) (hc41 mTi) (hc42 mPl) (hc43 mVr) (hc44 mVf) (hc45 mVc) (hc46 mAr) (hc47 mTc) (hc48 v12_f9) (hc49 mGo) dyn, 0, 0)) (h := (130, [(8, .int v14_r9), (7, .int v12_r9), (6, .int v7_r9), (5, .int v5_m9), (4, .int v5_r9), (0, .ref 25), (1, .int t), (2, .int w), (3, .int f)], [], hq g c1 c2 c3 c4 c5 c6 c7 c8 c9 c10 c11 c12 c13 c14 c15 c16 c17 c18 c19 c20 c21 c22 c23 c24 (hc25 mTy mTm mMn mFn mRn mTn mVn mLr mTr mFl v12_m9 v12_p9 mSc v5_p9 mEn) (hc26 mPa) (hc27 mTo) (hc28 mOt) (hc29 mNa) (hc30 mRe) (hc31 mMa) (hc32 mMy) (hc33 mPm) (hc34 mFy) (hc35 mFa) (hc36 mFr) (hc37 mFo) (hc38 mRt) (hc39 mRm) (hc40 mTt) (hc41 mTi) (hc42 mPl) (hc43 mVr) (hc44 mVf) (hc45 mVc) (hc46 mAr) (hc47 mTc) (hc48 v12_f9) (hc49 mGo) dyn, 0, 0)) rfl (fun h65 => ?_) (fun h65 => ?_)
          ·
            have h65 := qT_ne (cx := (v7_r9).toInt) (cy := 0) rfl (by decide) h65
            refine pm_go (g := (146, _, [.int (-12)], _, 0, 0)) rfl ?_
            refine pm_ret rfl (k0 _ _ _ _ _ ⟨_, _, _, _, h2, h9, ?_⟩ (by omega))
            exact Or.inr (Or.inr (Or.inr (Or.inr ⟨(fun ⟨a, b, c⟩ => by have c1 := hA2.mpr c; omega), (fun ⟨a, b, c⟩ => by have c1 := hS1.mpr c; omega), rfl, rfl, by omega, (fun ⟨a, b⟩ => by have c1 := hS1.mpr a; have c2 := hA2.mpr b; omega), rfl⟩)))
          have h65 := qF_ne (cx := (v7_r9).toInt) (cy := 0) rfl (by decide) h65
          refine pm_go (g := (132, _, [.int v14_r9], _, 0, 0)) rfl ?_
          refine pm_go (g := (133, _, [.ref 25, .int v14_r9], _, 0, 0)) rfl ?_
          refine pm_go (g := (136, _, [.int v12_m9, .int v14_r9], _, 0, 0)) rfl ?_
          refine pm_if2 (g := (144, [(8, .int v14_r9), (7, .int v12_r9), (6, .int v7_r9), (5, .int v5_m9), (4, .int v5_r9), (0, .ref 25), (1, .int t), (2, .int w), (3, .int f)], [], hq g c1 c2 c3 c4 c5 c6 c7 c8 c9 c10 c11 c12 c13 c14 c15 c16 c17 c18 c19 c20 c21 c22 c23 c24 (hc25 mTy mTm mMn mFn mRn mTn mVn mLr mTr mFl v12_m9 v12_p9 mSc v5_p9 mEn) (hc26 mPa) (hc27 mTo) (hc28 mOt) (hc29 mNa) (hc30 mRe) (hc31 mMa) (hc32 mMy) (hc33 mPm) (hc34 mFy) (hc35 mFa) (hc36 mFr) (hc37 mFo) (hc38 mRt) (hc39 mRm) (hc40 mTt) (hc41 mTi) (hc42 mPl) (hc43 mVr) (hc44 mVf) (hc45 mVc) (hc46 mAr) (hc47 mTc) (hc48 v12_f9) (hc49 mGo) dyn, 0, 0)) (h := (139, [(8, .int v14_r9), (7, .int v12_r9), (6, .int v7_r9), (5, .int v5_m9), (4, .int v5_r9), (0, .ref 25), (1, .int t), (2, .int w), (3, .int f)], [], hq g c1 c2 c3 c4 c5 c6 c7 c8 c9 c10 c11 c12 c13 c14 c15 c16 c17 c18 c19 c20 c21 c22 c23 c24 (hc25 mTy mTm mMn mFn mRn mTn mVn mLr mTr mFl v12_m9 v12_p9 mSc v5_p9 mEn) (hc26 mPa) (hc27 mTo) (hc28 mOt) (hc29 mNa) (hc30 mRe) (hc31 mMa) (hc32 mMy) (hc33 mPm) (hc34 mFy) (hc35 mFa) (hc36 mFr) (hc37 mFo) (hc38 mRt) (hc39 mRm) (hc40 mTt) (hc41 mTi) (hc42 mPl) (hc43 mVr) (hc44 mVf) (hc45 mVc) (hc46 mAr) (hc47 mTc) (hc48 v12_f9) (hc49 mGo) dyn, 0, 0)) rfl (fun h66 => ?_) (fun h66 => ?_)
          ·
            have h66 := qT_ne (cx := (v14_r9).toInt) (cy := (v12_m9).toInt) rfl rfl h66
            refine pm_go (g := (146, _, [.int (-12)], _, 0, 0)) rfl ?_
            refine pm_ret rfl (k0 _ _ _ _ _ ⟨_, _, _, _, h2, h9, ?_⟩ (by omega))
            exact Or.inr (Or.inr (Or.inr (Or.inr ⟨(fun ⟨a, b, c⟩ => by have c1 := hA2.mpr c; omega), (fun ⟨a, b, c⟩ => by have c1 := hS1.mpr c; omega), rfl, rfl, by omega, (fun ⟨a, b⟩ => by have c1 := hS1.mpr a; have c2 := hA2.mpr b; omega), rfl⟩)))
          have h66 := qF_ne (cx := (v14_r9).toInt) (cy := (v12_m9).toInt) rfl rfl h66
          refine pm_go (g := (141, _, [.int (-13)], _, 0, 0)) rfl ?_
          refine pm_go (g := (146, _, [.int (-13)], _, 0, 0)) rfl ?_
          refine pm_ret rfl (k0 _ _ _ _ _ ⟨_, _, _, _, h2, h9, ?_⟩ (by omega))
          exact Or.inr (Or.inr (Or.inr (Or.inl ⟨(fun ⟨a, b, c⟩ => by have c1 := hA2.mpr c; omega), (fun ⟨a, b, c⟩ => by have c1 := hS1.mpr c; omega), rfl, rfl, by omega, ⟨hS1.mp (by omega), hA2.mp (by omega)⟩, rfl⟩)))
        have h64 := qF_ne (cx := (v5_m9).toInt) (cy := 0) rfl (by decide) h64
        refine pm_go (g := (114, _, [.ref 25], _, 0, 0)) rfl ?_
        refine pm_go (g := (117, _, [.int v12_m9], _, 0, 0)) rfl ?_
        refine pm_if2 (g := (125, [(8, .int v14_r9), (7, .int v12_r9), (6, .int v7_r9), (5, .int v5_m9), (4, .int v5_r9), (0, .ref 25), (1, .int t), (2, .int w), (3, .int f)], [], hq g c1 c2 c3 c4 c5 c6 c7 c8 c9 c10 c11 c12 c13 c14 c15 c16 c17 c18 c19 c20 c21 c22 c23 c24 (hc25 mTy mTm mMn mFn mRn mTn mVn mLr mTr mFl v12_m9 v12_p9 mSc v5_p9 mEn) (hc26 mPa) (hc27 mTo) (hc28 mOt) (hc29 mNa) (hc30 mRe) (hc31 mMa) (hc32 mMy) (hc33 mPm) (hc34 mFy) (hc35 mFa) (hc36 mFr) (hc37 mFo) (hc38 mRt) (hc39 mRm) (hc40 mTt) (hc41 mTi) (hc42 mPl) (hc43 mVr) (hc44 mVf) (hc45 mVc) (hc46 mAr) (hc47 mTc) (hc48 v12_f9) (hc49 mGo) dyn, 0, 0)) (h := (120, [(8, .int v14_r9), (7, .int v12_r9), (6, .int v7_r9), (5, .int v5_m9), (4, .int v5_r9), (0, .ref 25), (1, .int t), (2, .int w), (3, .int f)], [], hq g c1 c2 c3 c4 c5 c6 c7 c8 c9 c10 c11 c12 c13 c14 c15 c16 c17 c18 c19 c20 c21 c22 c23 c24 (hc25 mTy mTm mMn mFn mRn mTn mVn mLr mTr mFl v12_m9 v12_p9 mSc v5_p9 mEn) (hc26 mPa) (hc27 mTo) (hc28 mOt) (hc29 mNa) (hc30 mRe) (hc31 mMa) (hc32 mMy) (hc33 mPm) (hc34 mFy) (hc35 mFa) (hc36 mFr) (hc37 mFo) (hc38 mRt) (hc39 mRm) (hc40 mTt) (hc41 mTi) (hc42 mPl) (hc43 mVr) (hc44 mVf) (hc45 mVc) (hc46 mAr) (hc47 mTc) (hc48 v12_f9) (hc49 mGo) dyn, 0, 0)) rfl (fun h67 => ?_) (fun h67 => ?_)
        ·
          have h67 := qT_ne (cx := (v12_m9).toInt) (cy := 0) rfl (by decide) h67
          refine pm_go (g := (127, _, [.int v7_r9], _, 0, 0)) rfl ?_
          refine pm_if2 (g := (144, [(8, .int v14_r9), (7, .int v12_r9), (6, .int v7_r9), (5, .int v5_m9), (4, .int v5_r9), (0, .ref 25), (1, .int t), (2, .int w), (3, .int f)], [], hq g c1 c2 c3 c4 c5 c6 c7 c8 c9 c10 c11 c12 c13 c14 c15 c16 c17 c18 c19 c20 c21 c22 c23 c24 (hc25 mTy mTm mMn mFn mRn mTn mVn mLr mTr mFl v12_m9 v12_p9 mSc v5_p9 mEn) (hc26 mPa) (hc27 mTo) (hc28 mOt) (hc29 mNa) (hc30 mRe) (hc31 mMa) (hc32 mMy) (hc33 mPm) (hc34 mFy) (hc35 mFa) (hc36 mFr) (hc37 mFo) (hc38 mRt) (hc39 mRm) (hc40 mTt) (hc41 mTi) (hc42 mPl) (hc43 mVr) (hc44 mVf) (hc45 mVc) (hc46 mAr) (hc47 mTc) (hc48 v12_f9) (hc49 mGo) dyn, 0, 0)) (h := (130, [(8, .int v14_r9), (7, .int v12_r9), (6, .int v7_r9), (5, .int v5_m9), (4, .int v5_r9), (0, .ref 25), (1, .int t), (2, .int w), (3, .int f)], [], hq g c1 c2 c3 c4 c5 c6 c7 c8 c9 c10 c11 c12 c13 c14 c15 c16 c17 c18 c19 c20 c21 c22 c23 c24 (hc25 mTy mTm mMn mFn mRn mTn mVn mLr mTr mFl v12_m9 v12_p9 mSc v5_p9 mEn) (hc26 mPa) (hc27 mTo) (hc28 mOt) (hc29 mNa) (hc30 mRe) (hc31 mMa) (hc32 mMy) (hc33 mPm) (hc34 mFy) (hc35 mFa) (hc36 mFr) (hc37 mFo) (hc38 mRt) (hc39 mRm) (hc40 mTt) (hc41 mTi) (hc42 mPl) (hc43 mVr) (hc44 mVf) (hc45 mVc) (hc46 mAr) (hc47 mTc) (hc48 v12_f9) (hc49 mGo) dyn, 0, 0)) rfl (fun h68 => ?_) (fun h68 => ?_)
          ·
            have h68 := qT_ne (cx := (v7_r9).toInt) (cy := 0) rfl (by decide) h68
            refine pm_go (g := (146, _, [.int (-12)], _, 0, 0)) rfl ?_
            refine pm_ret rfl (k0 _ _ _ _ _ ⟨_, _, _, _, h2, h9, ?_⟩ (by omega))
            exact Or.inr (Or.inr (Or.inr (Or.inr ⟨(fun ⟨a, b, c⟩ => by have c1 := hA2.mpr c; omega), (fun ⟨a, b, c⟩ => by have c1 := hS1.mpr c; omega), rfl, rfl, by omega, (fun ⟨a, b⟩ => by have c1 := hS1.mpr a; have c2 := hA2.mpr b; omega), rfl⟩)))
          have h68 := qF_ne (cx := (v7_r9).toInt) (cy := 0) rfl (by decide) h68
          refine pm_go (g := (132, _, [.int v14_r9], _, 0, 0)) rfl ?_
          refine pm_go (g := (133, _, [.ref 25, .int v14_r9], _, 0, 0)) rfl ?_
          refine pm_go (g := (136, _, [.int v12_m9, .int v14_r9], _, 0, 0)) rfl ?_
          refine pm_if2 (g := (144, [(8, .int v14_r9), (7, .int v12_r9), (6, .int v7_r9), (5, .int v5_m9), (4, .int v5_r9), (0, .ref 25), (1, .int t), (2, .int w), (3, .int f)], [], hq g c1 c2 c3 c4 c5 c6 c7 c8 c9 c10 c11 c12 c13 c14 c15 c16 c17 c18 c19 c20 c21 c22 c23 c24 (hc25 mTy mTm mMn mFn mRn mTn mVn mLr mTr mFl v12_m9 v12_p9 mSc v5_p9 mEn) (hc26 mPa) (hc27 mTo) (hc28 mOt) (hc29 mNa) (hc30 mRe) (hc31 mMa) (hc32 mMy) (hc33 mPm) (hc34 mFy) (hc35 mFa) (hc36 mFr) (hc37 mFo) (hc38 mRt) (hc39 mRm) (hc40 mTt) (hc41 mTi) (hc42 mPl) (hc43 mVr) (hc44 mVf) (hc45 mVc) (hc46 mAr) (hc47 mTc) (hc48 v12_f9) (hc49 mGo) dyn, 0, 0)) (h := (139, [(8, .int v14_r9), (7, .int v12_r9), (6, .int v7_r9), (5, .int v5_m9), (4, .int v5_r9), (0, .ref 25), (1, .int t), (2, .int w), (3, .int f)], [], hq g c1 c2 c3 c4 c5 c6 c7 c8 c9 c10 c11 c12 c13 c14 c15 c16 c17 c18 c19 c20 c21 c22 c23 c24 (hc25 mTy mTm mMn mFn mRn mTn mVn mLr mTr mFl v12_m9 v12_p9 mSc v5_p9 mEn) (hc26 mPa) (hc27 mTo) (hc28 mOt) (hc29 mNa) (hc30 mRe) (hc31 mMa) (hc32 mMy) (hc33 mPm) (hc34 mFy) (hc35 mFa) (hc36 mFr) (hc37 mFo) (hc38 mRt) (hc39 mRm) (hc40 mTt) (hc41 mTi) (hc42 mPl) (hc43 mVr) (hc44 mVf) (hc45 mVc) (hc46 mAr) (hc47 mTc) (hc48 v12_f9) (hc49 mGo) dyn, 0, 0)) rfl (fun h69 => ?_) (fun h69 => ?_)
          ·
            have h69 := qT_ne (cx := (v14_r9).toInt) (cy := (v12_m9).toInt) rfl rfl h69
            refine pm_go (g := (146, _, [.int (-12)], _, 0, 0)) rfl ?_
            refine pm_ret rfl (k0 _ _ _ _ _ ⟨_, _, _, _, h2, h9, ?_⟩ (by omega))
            exact Or.inr (Or.inr (Or.inr (Or.inr ⟨(fun ⟨a, b, c⟩ => by have c1 := hA2.mpr c; omega), (fun ⟨a, b, c⟩ => by have c1 := hS1.mpr c; omega), rfl, rfl, by omega, (fun ⟨a, b⟩ => by have c1 := hS1.mpr a; have c2 := hA2.mpr b; omega), rfl⟩)))
          have h69 := qF_ne (cx := (v14_r9).toInt) (cy := (v12_m9).toInt) rfl rfl h69
          refine pm_go (g := (141, _, [.int (-13)], _, 0, 0)) rfl ?_
          refine pm_go (g := (146, _, [.int (-13)], _, 0, 0)) rfl ?_
          refine pm_ret rfl (k0 _ _ _ _ _ ⟨_, _, _, _, h2, h9, ?_⟩ (by omega))
          exact Or.inr (Or.inr (Or.inr (Or.inl ⟨(fun ⟨a, b, c⟩ => by have c1 := hA2.mpr c; omega), (fun ⟨a, b, c⟩ => by have c1 := hS1.mpr c; omega), rfl, rfl, by omega, ⟨hS1.mp (by omega), hA2.mp (by omega)⟩, rfl⟩)))
        have h67 := qF_ne (cx := (v12_m9).toInt) (cy := 0) rfl (by decide) h67
        refine pm_go (g := (122, _, [.int (-11)], _, 0, 0)) rfl ?_
        refine pm_go (g := (146, _, [.int (-11)], _, 0, 0)) rfl ?_
        refine pm_ret rfl (k0 _ _ _ _ _ ⟨_, _, _, _, h2, h9, ?_⟩ (by omega))
        exact Or.inr (Or.inr (Or.inl ⟨(fun ⟨a, b, c⟩ => by have c1 := hA2.mpr c; omega), (fun ⟨a, b, c⟩ => by have c1 := hS1.mpr c; omega), rfl, rfl, by omega, rfl⟩))
      have h63 := qF_ne (cx := (v7_r9).toInt) (cy := 0) rfl (by decide) h63
      refine pm_go (g := (93, _, [.ref 25], _, 0, 0)) rfl ?_
      refine pm_go (g := (94, _, [.int 1, .ref 25], _, 0, 0)) rfl ?_
      refine pm_go (g := (97, _, [], hq g c1 c2 c3 c4 c5 c6 c7 c8 c9 c10 c11 c12 c13 c14 c15 c16 c17 c18 c19 c20 c21 c22 c23 c24 (hc25 mTy mTm mMn mFn mRn mTn mVn mLr mTr mFl v12_m9 v12_p9 1 v5_p9 mEn) (hc26 mPa) (hc27 mTo) (hc28 mOt) (hc29 mNa) (hc30 mRe) (hc31 mMa) (hc32 mMy) (hc33 mPm) (hc34 mFy) (hc35 mFa) (hc36 mFr) (hc37 mFo) (hc38 mRt) (hc39 mRm) (hc40 mTt) (hc41 mTi) (hc42 mPl) (hc43 mVr) (hc44 mVf) (hc45 mVc) (hc46 mAr) (hc47 mTc) (hc48 v12_f9) (hc49 mGo) dyn, 0, 0)) rfl ?_
      refine pm_go (g := (98, _, [.ref 25], _, 0, 0)) rfl ?_
      refine pm_go (g := (99, _, [.ref 25, .ref 25], _, 0, 0)) rfl ?_
      refine pm_go (g := (102, _, [.int v12_p9, .ref 25], _, 0, 0)) rfl ?_
      refine pm_go (g := (105, _, [], hq g c1 c2 c3 c4 c5 c6 c7 c8 c9 c10 c11 c12 c13 c14 c15 c16 c17 c18 c19 c20 c21 c22 c23 c24 (hc25 mTy mTm mMn mFn mRn mTn mVn mLr mTr mFl v12_m9 v12_p9 1 v12_p9 mEn) (hc26 mPa) (hc27 mTo) (hc28 mOt) (hc29 mNa) (hc30 mRe) (hc31 mMa) (hc32 mMy) (hc33 mPm) (hc34 mFy) (hc35 mFa) (hc36 mFr) (hc37 mFo) (hc38 mRt) (hc39 mRm) (hc40 mTt) (hc41 mTi) (hc42 mPl) (hc43 mVr) (hc44 mVf) (hc45 mVc) (hc46 mAr) (hc47 mTc) (hc48 v12_f9) (hc49 mGo) dyn, 0, 0)) rfl ?_
      refine pm_go (g := (107, _, [.int v12_r9], _, 0, 0)) rfl ?_
      refine pm_ret rfl (k1 _ _ _ _ _ ⟨_, _, _, _, h2, h9, ?_⟩ (by omega))
      exact Or.inr (Or.inl ⟨(fun ⟨a, b, c⟩ => by have c1 := hA2.mpr c; omega), ⟨by omega, by omega, hS1.mp (by omega)⟩, rfl, rfl, rfl⟩)
    have h45 := qF_ne (cx := (v14_r9).toInt) (cy := (v12_m9).toInt) rfl rfl h45
    refine pm_go (g := (71, _, [.int v5_r9], hq g c1 c2 c3 c4 c5 c6 c7 c8 c9 c10 c11 c12 c13 c14 c15 c16 c17 c18 c19 c20 c21 c22 c23 c24 (hc25 mTy mTm mMn mFn mRn mTn mVn mLr mTr mFl v12_m9 v12_p9 mSc v5_p9 mEn) (hc26 mPa) (hc27 mTo) (hc28 mOt) (hc29 mNa) (hc30 mRe) (hc31 mMa) (hc32 mMy) (hc33 mPm) (hc34 mFy) (hc35 mFa) (hc36 mFr) (hc37 mFo) (hc38 mRt) (hc39 mRm) (hc40 mTt) (hc41 mTi) (hc42 mPl) (hc43 mVr) (hc44 mVf) (hc45 mVc) (hc46 mAr) (hc47 mTc) (hc48 v12_f9) (hc49 mGo) dyn, 0, 0)) rfl ?_
    refine pm_ret rfl (k0 _ _ _ _ _ ⟨_, _, _, _, h2, h9, ?_⟩ (by omega))
    exact Or.inl ⟨⟨by omega, by omega, hA2.mp (by omega)⟩, rfl, rfl, rfl⟩
  show pm_WP 155 (57, [(8, .int v14_r9), (7, .int v12_r9), (6, .int v7_r9), (5, .int v5_m9), (4, .int v5_r9), (0, .ref 25), (1, .int t), (2, .int w), (3, .int f)], [.int 0], hq g c1 c2 c3 c4 c5 c6 c7 c8 c9 c10 c11 c12 c13 c14 c15 c16 c17 c18 c19 c20 c21 c22 c23 c24 (hc25 mTy mTm mMn mFn mRn mTn mVn mLr mTr mFl v12_m9 v12_p9 mSc v5_p9 mEn) (hc26 mPa) (hc27 mTo) (hc28 mOt) (hc29 mNa) (hc30 mRe) (hc31 mMa) (hc32 mMy) (hc33 mPm) (hc34 mFy) (hc35 mFa) (hc36 mFr) (hc37 mFo) (hc38 mRt) (hc39 mRm) (hc40 mTt) (hc41 mTi) (hc42 mPl) (hc43 mVr) (hc44 mVf) (hc45 mVc) (hc46 mAr) (hc47 mTc) (hc48 v12_f9) (hc49 mGo) dyn, 0, 0) _
  refine pm_brT (g := (72, [(8, .int v14_r9), (7, .int v12_r9), (6, .int v7_r9), (5, .int v5_m9), (4, .int v5_r9), (0, .ref 25), (1, .int t), (2, .int w), (3, .int f)], [], hq g c1 c2 c3 c4 c5 c6 c7 c8 c9 c10 c11 c12 c13 c14 c15 c16 c17 c18 c19 c20 c21 c22 c23 c24 (hc25 mTy mTm mMn mFn mRn mTn mVn mLr mTr mFl v12_m9 v12_p9 mSc v5_p9 mEn) (hc26 mPa) (hc27 mTo) (hc28 mOt) (hc29 mNa) (hc30 mRe) (hc31 mMa) (hc32 mMy) (hc33 mPm) (hc34 mFy) (hc35 mFa) (hc36 mFr) (hc37 mFo) (hc38 mRt) (hc39 mRm) (hc40 mTt) (hc41 mTi) (hc42 mPl) (hc43 mVr) (hc44 mVf) (hc45 mVc) (hc46 mAr) (hc47 mTc) (hc48 v12_f9) (hc49 mGo) dyn, 0, 0)) rfl ?_
  refine pm_go (g := (74, _, [.int v12_r9], _, 0, 0)) rfl ?_
  refine pm_if2 (g := (108, [(8, .int v14_r9), (7, .int v12_r9), (6, .int v7_r9), (5, .int v5_m9), (4, .int v5_r9), (0, .ref 25), (1, .int t), (2, .int w), (3, .int f)], [], hq g c1 c2 c3 c4 c5 c6 c7 c8 c9 c10 c11 c12 c13 c14 c15 c16 c17 c18 c19 c20 c21 c22 c23 c24 (hc25 mTy mTm mMn mFn mRn mTn mVn mLr mTr mFl v12_m9 v12_p9 mSc v5_p9 mEn) (hc26 mPa) (hc27 mTo) (hc28 mOt) (hc29 mNa) (hc30 mRe) (hc31 mMa) (hc32 mMy) (hc33 mPm) (hc34 mFy) (hc35 mFa) (hc36 mFr) (hc37 mFo) (hc38 mRt) (hc39 mRm) (hc40 mTt) (hc41 mTi) (hc42 mPl) (hc43 mVr) (hc44 mVf) (hc45 mVc) (hc46 mAr) (hc47 mTc) (hc48 v12_f9) (hc49 mGo) dyn, 0, 0)) (h := (77, [(8, .int v14_r9), (7, .int v12_r9), (6, .int v7_r9), (5, .int v5_m9), (4, .int v5_r9), (0, .ref 25), (1, .int t), (2, .int w), (3, .int f)], [], hq g c1 c2 c3 c4 c5 c6 c7 c8 c9 c10 c11 c12 c13 c14 c15 c16 c17 c18 c19 c20 c21 c22 c23 c24 (hc25 mTy mTm mMn mFn mRn mTn mVn mLr mTr mFl v12_m9 v12_p9 mSc v5_p9 mEn) (hc26 mPa) (hc27 mTo) (hc28 mOt) (hc29 mNa) (hc30 mRe) (hc31 mMa) (hc32 mMy) (hc33 mPm) (hc34 mFy) (hc35 mFa) (hc36 mFr) (hc37 mFo) (hc38 mRt) (hc39 mRm) (hc40 mTt) (hc41 mTi) (hc42 mPl) (hc43 mVr) (hc44 mVf) (hc45 mVc) (hc46 mAr) (hc47 mTc) (hc48 v12_f9) (hc49 mGo) dyn, 0, 0)) rfl (fun h70 => ?_) (fun h70 => ?_)
  ·
    have h70 := qT_lt (cx := (v12_r9).toInt) (cy := 0) rfl (by decide) h70
    refine pm_go (g := (110, _, [.int v5_m9], _, 0, 0)) rfl ?_
    refine pm_if2 (g := (125, [(8, .int v14_r9), (7, .int v12_r9), (6, .int v7_r9), (5, .int v5_m9), (4, .int v5_r9), (0, .ref 25), (1, .int t), (2, .int w), (3, .int f)], [], hq g c1 c2 c3 c4 c5 c6 c7 c8 c9 c10 c11 c12 c13 c14 c15 c16 c17 c18 c19 c20 c21 c22 c23 c24 (hc25 mTy mTm mMn mFn mRn mTn mVn mLr mTr mFl v12_m9 v12_p9 mSc v5_p9 mEn) (hc26 mPa) (hc27 mTo) (hc28 mOt) (hc29 mNa) (hc30 mRe) (hc31 mMa) (hc32 mMy) (hc33 mPm) (hc34 mFy) (hc35 mFa) (hc36 mFr) (hc37 mFo) (hc38 mRt) (hc39 mRm) (hc40 mTt) (hc41 mTi) (hc42 mPl) (hc43 mVr) (hc44 mVf) (hc45 mVc) (hc46 mAr) (hc47 mTc) (hc48 v12_f9) (hc49 mGo) dyn, 0, 0)) (h := (113, [(8, .int v14_r9), (7, .int v12_r9), (6, .int v7_r9), (5, .int v5_m9), (4, .int v5_r9), (0, .ref 25), (1, .int t), (2, .int w), (3, .int f)], [], hq g c1 c2 c3 c4 c5 c6 c7 c8 c9 c10 c11 c12 c13 c14 c15 c16 c17 c18 c19 c20 c21 c22 c23 c24 (hc25 mTy mTm mMn mFn mRn mTn mVn mLr mTr mFl v12_m9 v12_p9 mSc v5_p9 mEn) (hc26 mPa) (hc27 mTo) (hc28 mOt) (hc29 mNa) (hc30 mRe) (hc31 mMa) (hc32 mMy) (hc33 mPm) (hc34 mFy) (hc35 mFa) (hc36 mFr) (hc37 mFo) (hc38 mRt) (hc39 mRm) (hc40 mTt) (hc41 mTi) (hc42 mPl) (hc43 mVr) (hc44 mVf) (hc45 mVc) (hc46 mAr) (hc47 mTc) (hc48 v12_f9) (hc49 mGo) dyn, 0, 0)) rfl (fun h71 => ?_) (fun h71 => ?_)
    ·
      have h71 := qT_ne (cx := (v5_m9).toInt) (cy := 0) rfl (by decide) h71
      refine pm_go (g := (127, _, [.int v7_r9], _, 0, 0)) rfl ?_
      refine pm_if2 (g := (144, [(8, .int v14_r9), (7, .int v12_r9), (6, .int v7_r9), (5, .int v5_m9), (4, .int v5_r9), (0, .ref 25), (1, .int t), (2, .int w), (3, .int f)], [], hq g c1 c2 c3 c4 c5 c6 c7 c8 c9 c10 c11 c12 c13 c14 c15 c16 c17 c18 c19 c20 c21 c22 c23 c24 (hc25 mTy mTm mMn mFn mRn mTn mVn mLr mTr mFl v12_m9 v12_p9 mSc v5_p9 mEn) (hc26 mPa) (hc27 mTo) (hc28 mOt) (hc29 mNa) (hc30 mRe) (hc31 mMa) (hc32 mMy) (hc33 mPm) (hc34 mFy) (hc35 mFa) (hc36 mFr) (hc37 mFo) (hc38 mRt) (hc39 mRm) (hc40 mTt) (hc41 mTi) (hc42 mPl) (hc43 mVr) (hc44 mVf) (hc45 mVc) (hc46 mAr) (hc47 mTc) (hc48 v12_f9) (hc49 mGo) dyn, 0, 0)) (h := (130, [(8, .int v14_r9), (7, .int v12_r9), (6, .int v7_r9), (5, .int v5_m9), (4, .int v5_r9), (0, .ref 25), (1, .int t), (2, .int w), (3, .int f)], [], hq g c1 c2 c3 c4 c5 c6 c7 c8 c9 c10 c11 c12 c13 c14 c15 c16 c17 c18 c19 c20 c21 c22 c23 c24 (hc25 mTy mTm mMn mFn mRn mTn mVn mLr mTr mFl v12_m9 v12_p9 mSc v5_p9 mEn) (hc26 mPa) (hc27 mTo) (hc28 mOt) (hc29 mNa) (hc30 mRe) (hc31 mMa) (hc32 mMy) (hc33 mPm) (hc34 mFy) (hc35 mFa) (hc36 mFr) (hc37 mFo) (hc38 mRt) (hc39 mRm) (hc40 mTt) (hc41 mTi) (hc42 mPl) (hc43 mVr) (hc44 mVf) (hc45 mVc) (hc46 mAr) (hc47 mTc) (hc48 v12_f9) (hc49 mGo) dyn, 0, 0)) rfl (fun h72 => ?_) (fun h72 => ?_)
      ·
        have h72 := qT_ne (cx := (v7_r9).toInt) (cy := 0) rfl (by decide) h72
        refine pm_go (g := (146, _, [.int (-12)], _, 0, 0)) rfl ?_
        refine pm_ret rfl (k0 _ _ _ _ _ ⟨_, _, _, _, h2, h9, ?_⟩ (by omega))
        exact Or.inr (Or.inr (Or.inr (Or.inr ⟨(fun ⟨a, b, c⟩ => by have c1 := hA2.mpr c; omega), (fun ⟨a, b, c⟩ => by have c1 := hS1.mpr c; omega), rfl, rfl, by omega, (fun ⟨a, b⟩ => by have c1 := hS1.mpr a; have c2 := hA2.mpr b; omega), rfl⟩)))
      have h72 := qF_ne (cx := (v7_r9).toInt) (cy := 0) rfl (by decide) h72
      refine pm_go (g := (132, _, [.int v14_r9], _, 0, 0)) rfl ?_
      refine pm_go (g := (133, _, [.ref 25, .int v14_r9], _, 0, 0)) rfl ?_
      refine pm_go (g := (136, _, [.int v12_m9, .int v14_r9], _, 0, 0)) rfl ?_
      refine pm_if2 (g := (144, [(8, .int v14_r9), (7, .int v12_r9), (6, .int v7_r9), (5, .int v5_m9), (4, .int v5_r9), (0, .ref 25), (1, .int t), (2, .int w), (3, .int f)], [], hq g c1 c2 c3 c4 c5 c6 c7 c8 c9 c10 c11 c12 c13 c14 c15 c16 c17 c18 c19 c20 c21 c22 c23 c24 (hc25 mTy mTm mMn mFn mRn mTn mVn mLr mTr mFl v12_m9 v12_p9 mSc v5_p9 mEn) (hc26 mPa) (hc27 mTo) (hc28 mOt) (hc29 mNa) (hc30 mRe) (hc31 mMa) (hc32 mMy) (hc33 mPm) (hc34 mFy) (hc35 mFa) (hc36 mFr) (hc37 mFo) (hc38 mRt) (hc39 mRm) (hc40 mTt) (hc41 mTi) (hc42 mPl) (hc43 mVr) (hc44 mVf) (hc45 mVc) (hc46 mAr) (hc47 mTc) (hc48 v12_f9) (hc49 mGo) dyn, 0, 0)) (h := (139, [(8, .int v14_r9), (7, .int v12_r9), (6, .int v7_r9), (5, .int v5_m9), (4, .int v5_r9), (0, .ref 25), (1, .int t), (2, .int w), (3, .int f)], [], hq g c1 c2 c3 c4 c5 c6 c7 c8 c9 c10 c11 c12 c13 c14 c15 c16 c17 c18 c19 c20 c21 c22 c23 c24 (hc25 mTy mTm mMn mFn mRn mTn mVn mLr mTr mFl v12_m9 v12_p9 mSc v5_p9 mEn) (hc26 mPa) (hc27 mTo) (hc28 mOt) (hc29 mNa) (hc30 mRe) (hc31 mMa) (hc32 mMy) (hc33 mPm) (hc34 mFy) (hc35 mFa) (hc36 mFr) (hc37 mFo) (hc38 mRt) (hc39 mRm) (hc40 mTt) (hc41 mTi) (hc42 mPl) (hc43 mVr) (hc44 mVf) (hc45 mVc) (hc46 mAr) (hc47 mTc) (hc48 v12_f9) (hc49 mGo) dyn, 0, 0)) rfl (fun h73 => ?_) (fun h73 => ?_)
      ·
        have h73 := qT_ne (cx := (v14_r9).toInt) (cy := (v12_m9).toInt) rfl rfl h73
        refine pm_go (g := (146, _, [.int (-12)], _, 0, 0)) rfl ?_
        refine pm_ret rfl (k0 _ _ _ _ _ ⟨_, _, _, _, h2, h9, ?_⟩ (by omega))
        exact Or.inr (Or.inr (Or.inr (Or.inr ⟨(fun ⟨a, b, c⟩ => by have c1 := hA2.mpr c; omega), (fun ⟨a, b, c⟩ => by have c1 := hS1.mpr c; omega), rfl, rfl, by omega, (fun ⟨a, b⟩ => by have c1 := hS1.mpr a; have c2 := hA2.mpr b; omega), rfl⟩)))
      have h73 := qF_ne (cx := (v14_r9).toInt) (cy := (v12_m9).toInt) rfl rfl h73
      refine pm_go (g := (141, _, [.int (-13)], _, 0, 0)) rfl ?_
      refine pm_go (g := (146, _, [.int (-13)], _, 0, 0)) rfl ?_
      refine pm_ret rfl (k0 _ _ _ _ _ ⟨_, _, _, _, h2, h9, ?_⟩ (by omega))
      exact Or.inr (Or.inr (Or.inr (Or.inl ⟨(fun ⟨a, b, c⟩ => by have c1 := hA2.mpr c; omega), (fun ⟨a, b, c⟩ => by have c1 := hS1.mpr c; omega), rfl, rfl, by omega, ⟨hS1.mp (by omega), hA2.mp (by omega)⟩, rfl⟩)))
    have h71 := qF_ne (cx := (v5_m9).toInt) (cy := 0) rfl (by decide) h71
    refine pm_go (g := (114, _, [.ref 25], _, 0, 0)) rfl ?_
    refine pm_go (g := (117, _, [.int v12_m9], _, 0, 0)) rfl ?_
    refine pm_if2 (g := (125, [(8, .int v14_r9), (7, .int v12_r9), (6, .int v7_r9), (5, .int v5_m9), (4, .int v5_r9), (0, .ref 25), (1, .int t), (2, .int w), (3, .int f)], [], hq g c1 c2 c3 c4 c5 c6 c7 c8 c9 c10 c11 c12 c13 c14 c15 c16 c17 c18 c19 c20 c21 c22 c23 c24 (hc25 mTy mTm mMn mFn mRn mTn mVn mLr mTr mFl v12_m9 v12_p9 mSc v5_p9 mEn) (hc26 mPa) (hc27 mTo) (hc28 mOt) (hc29 mNa) (hc30 mRe) (hc31 mMa) (hc32 mMy) (hc33 mPm) (hc34 mFy) (hc35 mFa) (hc36 mFr) (hc37 mFo) (hc38 mRt) (hc39 mRm) (hc40 mTt) (hc41 mTi) (hc42 mPl) (hc43 mVr) (hc44 mVf) (hc45 mVc) (hc46 mAr) (hc47 mTc) (hc48 v12_f9) (hc49 mGo) dyn, 0, 0)) (h := (120, [(8, .int v14_r9), (7, .int v12_r9), (6, .int v7_r9), (5, .int v5_m9), (4, .int v5_r9), (0, .ref 25), (1, .int t), (2, .int w), (3, .int f)], [], hq g c1 c2 c3 c4 c5 c6 c7 c8 c9 c10 c11 c12 c13 c14 c15 c16 c17 c18 c19 c20 c21 c22 c23 c24 (hc25 mTy mTm mMn mFn mRn mTn mVn mLr mTr mFl v12_m9 v12_p9 mSc v5_p9 mEn) (hc26 mPa) (hc27 mTo) (hc28 mOt) (hc29 mNa) (hc30 mRe) (hc31 mMa) (hc32 mMy) (hc33 mPm) (hc34 mFy) (hc35 mFa) (hc36 mFr) (hc37 mFo) (hc38 mRt) (hc39 mRm) (hc40 mTt) (hc41 mTi) (hc42 mPl) (hc43 mVr) (hc44 mVf) (hc45 mVc) (hc46 mAr) (hc47 mTc) (hc48 v12_f9) (hc49 mGo) dyn, 0, 0)) rfl (fun h74 => ?_) (fun h74 => ?_)
    ·
      have h74 := qT_ne (cx := (v12_m9).toInt) (cy := 0) rfl (by decide) h74
      refine pm_go (g := (127, _, [.int v7_r9], _, 0, 0)) rfl ?_
      refine pm_if2 (g := (144, [(8, .int v14_r9), (7, .int v12_r9), (6, .int v7_r9), (5, .int v5_m9), (4, .int v5_r9), (0, .ref 25), (1, .int t), (2, .int w), (3, .int f)], [], hq g c1 c2 c3 c4 c5 c6 c7 c8 c9 c10 c11 c12 c13 c14 c15 c16 c17 c18 c19 c20 c21 c22 c23 c24 (hc25 mTy mTm mMn mFn mRn mTn mVn mLr mTr mFl v12_m9 v12_p9 mSc v5_p9 mEn) (hc26 mPa) (hc27 mTo) (hc28 mOt) (hc29 mNa) (hc30 mRe) (hc31 mMa) (hc32 mMy) (hc33 mPm) (hc34 mFy) (hc35 mFa) (hc36 mFr) (hc37 mFo) (hc38 mRt) (hc39 mRm) (hc40 mTt) (hc41 mTi) (hc42 mPl) (hc43 mVr) (hc44 mVf) (hc45 mVc) (hc46 mAr) (hc47 mTc) (hc48 v12_f9) (hc49 mGo) dyn, 0, 0)) (h := (130, [(8, .int v14_r9), (7, .int v12_r9), (6, .int v7_r9), (5, .int v5_m9), (4, .int v5_r9), (0, .ref 25), (1, .int t), (2, .int w), (3, .int f)], [], hq g c1 c2 c3 c4 c5 c6 c7 c8 c9 c10 c11 c12 c13 c14 c15 c16 c17 c18 c19 c20 c21 c22 c23 c24 (hc25 mTy mTm mMn mFn mRn mTn mVn mLr mTr mFl v12_m9 v12_p9 mSc v5_p9 mEn) (hc26 mPa) (hc27 mTo) (hc28 mOt) (hc29 mNa) (hc30 mRe) (hc31 mMa) (hc32 mMy) (hc33 mPm) (hc34 mFy) (hc35 mFa) (hc36 mFr) (hc37 mFo) (hc38 mRt) (hc39 mRm) (hc40 mTt) (hc41 mTi) (hc42 mPl) (hc43 mVr) (hc44 mVf) (hc45 mVc) (hc46 mAr) (hc47 mTc) (hc48 v12_f9) (hc49 mGo) dyn, 0, 0)) rfl (fun h75 => ?_) (fun h75 => ?_)
      ·
        have h75 := qT_ne (cx := (v7_r9).toInt) (cy := 0) rfl (by decide) h75
        refine pm_go (g := (146, _, [.int (-12)], _, 0, 0)) rfl ?_
        refine pm_ret rfl (k0 _ _ _ _ _ ⟨_, _, _, _, h2, h9, ?_⟩ (by omega))
        exact Or.inr (Or.inr (Or.inr (Or.inr ⟨(fun ⟨a, b, c⟩ => by have c1 := hA2.mpr c; omega), (fun ⟨a, b, c⟩ => by have c1 := hS1.mpr c; omega), rfl, rfl, by omega, (fun ⟨a, b⟩ => by have c1 := hS1.mpr a; have c2 := hA2.mpr b; omega), rfl⟩)))
      have h75 := qF_ne (cx := (v7_r9).toInt) (cy := 0) rfl (by decide) h75
      refine pm_go (g := (132, _, [.int v14_r9], _, 0, 0)) rfl ?_
      refine pm_go (g := (133, _, [.ref 25, .int v14_r9], _, 0, 0)) rfl ?_
      refine pm_go (g := (136, _, [.int v12_m9, .int v14_r9], _, 0, 0)) rfl ?_
      refine pm_if2 (g := (144, [(8, .int v14_r9), (7, .int v12_r9), (6, .int v7_r9), (5, .int v5_m9), (4, .int v5_r9), (0, .ref 25), (1, .int t), (2, .int w), (3, .int f)], [], hq g c1 c2 c3 c4 c5 c6 c7 c8 c9 c10 c11 c12 c13 c14 c15 c16 c17 c18 c19 c20 c21 c22 c23 c24 (hc25 mTy mTm mMn mFn mRn mTn mVn mLr mTr mFl v12_m9 v12_p9 mSc v5_p9 mEn) (hc26 mPa) (hc27 mTo) (hc28 mOt) (hc29 mNa) (hc30 mRe) (hc31 mMa) (hc32 mMy) (hc33 mPm) (hc34 mFy) (hc35 mFa) (hc36 mFr) (hc37 mFo) (hc38 mRt) (hc39 mRm) (hc40 mTt) (hc41 mTi) (hc42 mPl) (hc43 mVr) (hc44 mVf) (hc45 mVc) (hc46 mAr) (hc47 mTc) (hc48 v12_f9) (hc49 mGo) dyn, 0, 0)) (h := (139, [(8, .int v14_r9), (7, .int v12_r9), (6, .int v7_r9), (5, .int v5_m9), (4, .int v5_r9), (0, .ref 25), (1, .int t), (2, .int w), (3, .int f)], [], hq g c1 c2 c3 c4 c5 c6 c7 c8 c9 c10 c11 c12 c13 c14 c15 c16 c17 c18 c19 c20 c21 c22 c23 c24 (hc25 mTy mTm mMn mFn mRn mTn mVn mLr mTr mFl v12_m9 v12_p9 mSc v5_p9 mEn) (hc26 mPa) (hc27 mTo) (hc28 mOt) (hc29 mNa) (hc30 mRe) (hc31 mMa) (hc32 mMy) (hc33 mPm) (hc34 mFy) (hc35 mFa) (hc36 mFr) (hc37 mFo) (hc38 mRt) (hc39 mRm) (hc40 mTt) (hc41 mTi) (hc42 mPl) (hc43 mVr) (hc44 mVf) (hc45 mVc) (hc46 mAr) (hc47 mTc) (hc48 v12_f9) (hc49 mGo) dyn, 0, 0)) rfl (fun h76 => ?_) (fun h76 => ?_)
      ·
        have h76 := qT_ne (cx := (v14_r9).toInt) (cy := (v12_m9).toInt) rfl rfl h76
        refine pm_go (g := (146, _, [.int (-12)], _, 0, 0)) rfl ?_
        refine pm_ret rfl (k0 _ _ _ _ _ ⟨_, _, _, _, h2, h9, ?_⟩ (by omega))
        exact Or.inr (Or.inr (Or.inr (Or.inr ⟨(fun ⟨a, b, c⟩ => by have c1 := hA2.mpr c; omega), (fun ⟨a, b, c⟩ => by have c1 := hS1.mpr c; omega), rfl, rfl, by omega, (fun ⟨a, b⟩ => by have c1 := hS1.mpr a; have c2 := hA2.mpr b; omega), rfl⟩)))
      have h76 := qF_ne (cx := (v14_r9).toInt) (cy := (v12_m9).toInt) rfl rfl h76
      refine pm_go (g := (141, _, [.int (-13)], _, 0, 0)) rfl ?_
      refine pm_go (g := (146, _, [.int (-13)], _, 0, 0)) rfl ?_
      refine pm_ret rfl (k0 _ _ _ _ _ ⟨_, _, _, _, h2, h9, ?_⟩ (by omega))
      exact Or.inr (Or.inr (Or.inr (Or.inl ⟨(fun ⟨a, b, c⟩ => by have c1 := hA2.mpr c; omega), (fun ⟨a, b, c⟩ => by have c1 := hS1.mpr c; omega), rfl, rfl, by omega, ⟨hS1.mp (by omega), hA2.mp (by omega)⟩, rfl⟩)))
    have h74 := qF_ne (cx := (v12_m9).toInt) (cy := 0) rfl (by decide) h74
    refine pm_go (g := (122, _, [.int (-11)], _, 0, 0)) rfl ?_
    refine pm_go (g := (146, _, [.int (-11)], _, 0, 0)) rfl ?_
    refine pm_ret rfl (k0 _ _ _ _ _ ⟨_, _, _, _, h2, h9, ?_⟩ (by omega))
    exact Or.inr (Or.inr (Or.inl ⟨(fun ⟨a, b, c⟩ => by have c1 := hA2.mpr c; omega), (fun ⟨a, b, c⟩ => by have c1 := hS1.mpr c; omega), rfl, rfl, by omega, rfl⟩))
  have h70 := qF_lt (cx := (v12_r9).toInt) (cy := 0) rfl (by decide) h70
  refine pm_go (g := (78, _, [.ref 25], _, 0, 0)) rfl ?_
  refine pm_go (g := (80, _, [.int v12_r9, .ref 25], _, 0, 0)) rfl ?_
  refine pm_go (g := (81, _, [.int 1, .int v12_r9, .ref 25], _, 0, 0)) rfl ?_
  refine pm_callD (z := 139) (as := [.ref 25, .int v12_r9, .int 1]) (rest := []) rfl ?_
  have h77 : (1 : Int32).toInt = 1 := by decide
  refine w_X12_isMark v12_r9 1 (by omega) (fun h78 => ?_) (fun h79 => ?_)
  ·
    show pm_WP 155 (84, [(8, .int v14_r9), (7, .int v12_r9), (6, .int v7_r9), (5, .int v5_m9), (4, .int v5_r9), (0, .ref 25), (1, .int t), (2, .int w), (3, .int f)], [.int 1], _, 0, 0) _
    refine pm_brT (g := (108, [(8, .int v14_r9), (7, .int v12_r9), (6, .int v7_r9), (5, .int v5_m9), (4, .int v5_r9), (0, .ref 25), (1, .int t), (2, .int w), (3, .int f)], [], hq g c1 c2 c3 c4 c5 c6 c7 c8 c9 c10 c11 c12 c13 c14 c15 c16 c17 c18 c19 c20 c21 c22 c23 c24 (hc25 mTy mTm mMn mFn mRn mTn mVn mLr mTr mFl v12_m9 v12_p9 mSc v5_p9 mEn) (hc26 mPa) (hc27 mTo) (hc28 mOt) (hc29 mNa) (hc30 mRe) (hc31 mMa) (hc32 mMy) (hc33 mPm) (hc34 mFy) (hc35 mFa) (hc36 mFr) (hc37 mFo) (hc38 mRt) (hc39 mRm) (hc40 mTt) (hc41 mTi) (hc42 mPl) (hc43 mVr) (hc44 mVf) (hc45 mVc) (hc46 mAr) (hc47 mTc) (hc48 v12_f9) (hc49 mGo) dyn, 0, 0)) rfl ?_
    refine pm_go (g := (110, _, [.int v5_m9], _, 0, 0)) rfl ?_
    refine pm_if2 (g := (125, [(8, .int v14_r9), (7, .int v12_r9), (6, .int v7_r9), (5, .int v5_m9), (4, .int v5_r9), (0, .ref 25), (1, .int t), (2, .int w), (3, .int f)], [], hq g c1 c2 c3 c4 c5 c6 c7 c8 c9 c10 c11 c12 c13 c14 c15 c16 c17 c18 c19 c20 c21 c22 c23 c24 (hc25 mTy mTm mMn mFn mRn mTn mVn mLr mTr mFl v12_m9 v12_p9 mSc v5_p9 mEn) (hc26 mPa) (hc27 mTo) (hc28 mOt) (hc29 mNa) (hc30 mRe) (hc31 mMa) (hc32 mMy) (hc33 mPm) (hc34 mFy) (hc35 mFa) (hc36 mFr) (hc37 mFo) (hc38 mRt) (hc39 mRm) (hc40 mTt) (hc41 mTi) (hc42 mPl) (hc43 mVr) (hc44 mVf) (hc45 mVc) (hc46 mAr) (hc47 mTc) (hc48 v12_f9) (hc49 mGo) dyn, 0, 0)) (h := (113, [(8, .int v14_r9), (7, .int v12_r9), (6, .int v7_r9), (5, .int v5_m9), (4, .int v5_r9), (0, .ref 25), (1, .int t), (2, .int w), (3, .int f)], [], hq g c1 c2 c3 c4 c5 c6 c7 c8 c9 c10 c11 c12 c13 c14 c15 c16 c17 c18 c19 c20 c21 c22 c23 c24 (hc25 mTy mTm mMn mFn mRn mTn mVn mLr mTr mFl v12_m9 v12_p9 mSc v5_p9 mEn) (hc26 mPa) (hc27 mTo) (hc28 mOt) (hc29 mNa) (hc30 mRe) (hc31 mMa) (hc32 mMy) (hc33 mPm) (hc34 mFy) (hc35 mFa) (hc36 mFr) (hc37 mFo) (hc38 mRt) (hc39 mRm) (hc40 mTt) (hc41 mTi) (hc42 mPl) (hc43 mVr) (hc44 mVf) (hc45 mVc) (hc46 mAr) (hc47 mTc) (hc48 v12_f9) (hc49 mGo) dyn, 0, 0)) rfl (fun h81 => ?_) (fun h81 => ?_)
    ·
      have h81 := qT_ne (cx := (v5_m9).toInt) (cy := 0) rfl (by decide) h81
      refine pm_go (g := (127, _, [.int v7_r9], _, 0, 0)) rfl ?_
      refine pm_if2 (g := (144, [(8, .int v14_r9), (7, .int v12_r9), (6, .int v7_r9), (5, .int v5_m9), (4, .int v5_r9), (0, .ref 25), (1, .int t), (2, .int w), (3, .int f)], [], hq g c1 c2 c3 c4 c5 c6 c7 c8 c9 c10 c11 c12 c13 c14 c15 c16 c17 c18 c19 c20 c21 c22 c23 c24 (hc25 mTy mTm mMn mFn mRn mTn mVn mLr mTr mFl v12_m9 v12_p9 mSc v5_p9 mEn) (hc26 mPa) (hc27 mTo) (hc28 mOt) (hc29 mNa) (hc30 mRe) (hc31 mMa) (hc32 mMy) (hc33 mPm) (hc34 mFy) (hc35 mFa) (hc36 mFr) (hc37 mFo) (hc38 mRt) (hc39 mRm) (hc40 mTt) (hc41 mTi) (hc42 mPl) (hc43 mVr) (hc44 mVf) (hc45 mVc) (hc46 mAr) (hc47 mTc) (hc48 v12_f9) (hc49 mGo) dyn, 0, 0)) (h := (130, [(8, .int v14_r9), (7, .int v12_r9), (6, .int v7_r9), (5, .int v5_m9), (4, .int v5_r9), (0, .ref 25), (1, .int t), (2, .int w), (3, .int f)], [], hq g c1 c2 c3 c4 c5 c6 c7 c8 c9 c10 c11 c12 c13 c14 c15 c16 c17 c18 c19 c20 c21 c22 c23 c24 (hc25 mTy mTm mMn mFn mRn mTn mVn mLr mTr mFl v12_m9 v12_p9 mSc v5_p9 mEn) (hc26 mPa) (hc27 mTo) (hc28 mOt) (hc29 mNa) (hc30 mRe) (hc31 mMa) (hc32 mMy) (hc33 mPm) (hc34 mFy) (hc35 mFa) (hc36 mFr) (hc37 mFo) (hc38 mRt) (hc39 mRm) (hc40 mTt) (hc41 mTi) (hc42 mPl) (hc43 mVr) (hc44 mVf) (hc45 mVc) (hc46 mAr) (hc47 mTc) (hc48 v12_f9) (hc49 mGo) dyn, 0, 0)) rfl (fun h82 => ?_) (fun h82 => ?_)
      ·
        have h82 := qT_ne (cx := (v7_r9).toInt) (cy := 0) rfl (by decide) h82
        refine pm_go (g := (146, _, [.int (-12)], _, 0, 0)) rfl ?_
        refine pm_ret rfl (k0 _ _ _ _ _ ⟨_, _, _, _, h2, h9, ?_⟩ (by omega))
        exact Or.inr (Or.inr (Or.inr (Or.inr ⟨(fun ⟨a, b, c⟩ => by have c1 := hA2.mpr c; omega), (fun ⟨a, b, c⟩ => by have c1 := hS1.mpr c; omega), rfl, rfl, by omega, (fun ⟨a, b⟩ => by have c1 := hS1.mpr a; have c2 := hA2.mpr b; omega), rfl⟩)))
      have h82 := qF_ne (cx := (v7_r9).toInt) (cy := 0) rfl (by decide) h82
      refine pm_go (g := (132, _, [.int v14_r9], _, 0, 0)) rfl ?_
      refine pm_go (g := (133, _, [.ref 25, .int v14_r9], _, 0, 0)) rfl ?_
      refine pm_go (g := (136, _, [.int v12_m9, .int v14_r9], _, 0, 0)) rfl ?_
      refine pm_if2 (g := (144, [(8, .int v14_r9), (7, .int v12_r9), (6, .int v7_r9), (5, .int v5_m9), (4, .int v5_r9), (0, .ref 25), (1, .int t), (2, .int w), (3, .int f)], [], hq g c1 c2 c3 c4 c5 c6 c7 c8 c9 c10 c11 c12 c13 c14 c15 c16 c17 c18 c19 c20 c21 c22 c23 c24 (hc25 mTy mTm mMn mFn mRn mTn mVn mLr mTr mFl v12_m9 v12_p9 mSc v5_p9 mEn) (hc26 mPa) (hc27 mTo) (hc28 mOt) (hc29 mNa) (hc30 mRe) (hc31 mMa) (hc32 mMy) (hc33 mPm) (hc34 mFy) (hc35 mFa) (hc36 mFr) (hc37 mFo) (hc38 mRt) (hc39 mRm) (hc40 mTt) (hc41 mTi) (hc42 mPl) (hc43 mVr) (hc44 mVf) (hc45 mVc) (hc46 mAr) (hc47 mTc) (hc48 v12_f9) (hc49 mGo) dyn, 0, 0)) (h := (139, [(8, .int v14_r9), (7, .int v12_r9), (6, .int v7_r9), (5, .int v5_m9), (4, .int v5_r9), (0, .ref 25), (1, .int t), (2, .int w), (3, .int f)], [], hq g c1 c2 c3 c4 c5 c6 c7 c8 c9 c10 c11 c12 c13 c14 c15 c16 c17 c18 c19 c20 c21 c22 c23 c24 (hc25 mTy mTm mMn mFn mRn mTn mVn mLr mTr mFl v12_m9 v12_p9 mSc v5_p9 mEn) (hc26 mPa) (hc27 mTo) (hc28 mOt) (hc29 mNa) (hc30 mRe) (hc31 mMa) (hc32 mMy) (hc33 mPm) (hc34 mFy) (hc35 mFa) (hc36 mFr) (hc37 mFo) (hc38 mRt) (hc39 mRm) (hc40 mTt) (hc41 mTi) (hc42 mPl) (hc43 mVr) (hc44 mVf) (hc45 mVc) (hc46 mAr) (hc47 mTc) (hc48 v12_f9) (hc49 mGo) dyn, 0, 0)) rfl (fun h83 => ?_) (fun h83 => ?_)
      ·
        have h83 := qT_ne (cx := (v14_r9).toInt) (cy := (v12_m9).toInt) rfl rfl h83
        refine pm_go (g := (146, _, [.int (-12)], _, 0, 0)) rfl ?_
        refine pm_ret rfl (k0 _ _ _ _ _ ⟨_, _, _, _, h2, h9, ?_⟩ (by omega))
        exact Or.inr (Or.inr (Or.inr (Or.inr ⟨(fun ⟨a, b, c⟩ => by have c1 := hA2.mpr c; omega), (fun ⟨a, b, c⟩ => by have c1 := hS1.mpr c; omega), rfl, rfl, by omega, (fun ⟨a, b⟩ => by have c1 := hS1.mpr a; have c2 := hA2.mpr b; omega), rfl⟩)))
      have h83 := qF_ne (cx := (v14_r9).toInt) (cy := (v12_m9).toInt) rfl rfl h83
      refine pm_go (g := (141, _, [.int (-13)], _, 0, 0)) rfl ?_
      refine pm_go (g := (146, _, [.int (-13)], _, 0, 0)) rfl ?_
      refine pm_ret rfl (k0 _ _ _ _ _ ⟨_, _, _, _, h2, h9, ?_⟩ (by omega))
      exact Or.inr (Or.inr (Or.inr (Or.inl ⟨(fun ⟨a, b, c⟩ => by have c1 := hA2.mpr c; omega), (fun ⟨a, b, c⟩ => by have c1 := hS1.mpr c; omega), rfl, rfl, by omega, ⟨hS1.mp (by omega), hA2.mp (by omega)⟩, rfl⟩)))
    have h81 := qF_ne (cx := (v5_m9).toInt) (cy := 0) rfl (by decide) h81
    refine pm_go (g := (114, _, [.ref 25], _, 0, 0)) rfl ?_
    refine pm_go (g := (117, _, [.int v12_m9], _, 0, 0)) rfl ?_
    refine pm_if2 (g := (125, [(8, .int v14_r9), (7, .int v12_r9), (6, .int v7_r9), (5, .int v5_m9), (4, .int v5_r9), (0, .ref 25), (1, .int t), (2, .int w), (3, .int f)], [], hq g c1 c2 c3 c4 c5 c6 c7 c8 c9 c10 c11 c12 c13 c14 c15 c16 c17 c18 c19 c20 c21 c22 c23 c24 (hc25 mTy mTm mMn mFn mRn mTn mVn mLr mTr mFl v12_m9 v12_p9 mSc v5_p9 mEn) (hc26 mPa) (hc27 mTo) (hc28 mOt) (hc29 mNa) (hc30 mRe) (hc31 mMa) (hc32 mMy) (hc33 mPm) (hc34 mFy) (hc35 mFa) (hc36 mFr) (hc37 mFo) (hc38 mRt) (hc39 mRm) (hc40 mTt) (hc41 mTi) (hc42 mPl) (hc43 mVr) (hc44 mVf) (hc45 mVc) (hc46 mAr) (hc47 mTc) (hc48 v12_f9) (hc49 mGo) dyn, 0, 0)) (h := (120, [(8, .int v14_r9), (7, .int v12_r9), (6, .int v7_r9), (5, .int v5_m9), (4, .int v5_r9), (0, .ref 25), (1, .int t), (2, .int w), (3, .int f)], [], hq g c1 c2 c3 c4 c5 c6 c7 c8 c9 c10 c11 c12 c13 c14 c15 c16 c17 c18 c19 c20 c21 c22 c23 c24 (hc25 mTy mTm mMn mFn mRn mTn mVn mLr mTr mFl v12_m9 v12_p9 mSc v5_p9 mEn) (hc26 mPa) (hc27 mTo) (hc28 mOt) (hc29 mNa) (hc30 mRe) (hc31 mMa) (hc32 mMy) (hc33 mPm) (hc34 mFy) (hc35 mFa) (hc36 mFr) (hc37 mFo) (hc38 mRt) (hc39 mRm) (hc40 mTt) (hc41 mTi) (hc42 mPl) (hc43 mVr) (hc44 mVf) (hc45 mVc) (hc46 mAr) (hc47 mTc) (hc48 v12_f9) (hc49 mGo) dyn, 0, 0)) rfl (fun h84 => ?_) (fun h84 => ?_)
    ·
      have h84 := qT_ne (cx := (v12_m9).toInt) (cy := 0) rfl (by decide) h84
      refine pm_go (g := (127, _, [.int v7_r9], _, 0, 0)) rfl ?_
      refine pm_if2 (g := (144, [(8, .int v14_r9), (7, .int v12_r9), (6, .int v7_r9), (5, .int v5_m9), (4, .int v5_r9), (0, .ref 25), (1, .int t), (2, .int w), (3, .int f)], [], hq g c1 c2 c3 c4 c5 c6 c7 c8 c9 c10 c11 c12 c13 c14 c15 c16 c17 c18 c19 c20 c21 c22 c23 c24 (hc25 mTy mTm mMn mFn mRn mTn mVn mLr mTr mFl v12_m9 v12_p9 mSc v5_p9 mEn) (hc26 mPa) (hc27 mTo) (hc28 mOt) (hc29 mNa) (hc30 mRe) (hc31 mMa) (hc32 mMy) (hc33 mPm) (hc34 mFy) (hc35 mFa) (hc36 mFr) (hc37 mFo) (hc38 mRt) (hc39 mRm) (hc40 mTt) (hc41 mTi) (hc42 mPl) (hc43 mVr) (hc44 mVf) (hc45 mVc) (hc46 mAr) (hc47 mTc) (hc48 v12_f9) (hc49 mGo) dyn, 0, 0)) (h := (130, [(8, .int v14_r9), (7, .int v12_r9), (6, .int v7_r9), (5, .int v5_m9), (4, .int v5_r9), (0, .ref 25), (1, .int t), (2, .int w), (3, .int f)], [], hq g c1 c2 c3 c4 c5 c6 c7 c8 c9 c10 c11 c12 c13 c14 c15 c16 c17 c18 c19 c20 c21 c22 c23 c24 (hc25 mTy mTm mMn mFn mRn mTn mVn mLr mTr mFl v12_m9 v12_p9 mSc v5_p9 mEn) (hc26 mPa) (hc27 mTo) (hc28 mOt) (hc29 mNa) (hc30 mRe) (hc31 mMa) (hc32 mMy) (hc33 mPm) (hc34 mFy) (hc35 mFa) (hc36 mFr) (hc37 mFo) (hc38 mRt) (hc39 mRm) (hc40 mTt) (hc41 mTi) (hc42 mPl) (hc43 mVr) (hc44 mVf) (hc45 mVc) (hc46 mAr) (hc47 mTc) (hc48 v12_f9) (hc49 mGo) dyn, 0, 0)) rfl (fun h85 => ?_) (fun h85 => ?_)
      ·
        have h85 := qT_ne (cx := (v7_r9).toInt) (cy := 0) rfl (by decide) h85
        refine pm_go (g := (146, _, [.int (-12)], _, 0, 0)) rfl ?_
        refine pm_ret rfl (k0 _ _ _ _ _ ⟨_, _, _, _, h2, h9, ?_⟩ (by omega))
        exact Or.inr (Or.inr (Or.inr (Or.inr ⟨(fun ⟨a, b, c⟩ => by have c1 := hA2.mpr c; omega), (fun ⟨a, b, c⟩ => by have c1 := hS1.mpr c; omega), rfl, rfl, by omega, (fun ⟨a, b⟩ => by have c1 := hS1.mpr a; have c2 := hA2.mpr b; omega), rfl⟩)))
      have h85 := qF_ne (cx := (v7_r9).toInt) (cy := 0) rfl (by decide) h85
      refine pm_go (g := (132, _, [.int v14_r9], _, 0, 0)) rfl ?_
      refine pm_go (g := (133, _, [.ref 25, .int v14_r9], _, 0, 0)) rfl ?_
      refine pm_go (g := (136, _, [.int v12_m9, .int v14_r9], _, 0, 0)) rfl ?_
      refine pm_if2 (g := (144, [(8, .int v14_r9), (7, .int v12_r9), (6, .int v7_r9), (5, .int v5_m9), (4, .int v5_r9), (0, .ref 25), (1, .int t), (2, .int w), (3, .int f)], [], hq g c1 c2 c3 c4 c5 c6 c7 c8 c9 c10 c11 c12 c13 c14 c15 c16 c17 c18 c19 c20 c21 c22 c23 c24 (hc25 mTy mTm mMn mFn mRn mTn mVn mLr mTr mFl v12_m9 v12_p9 mSc v5_p9 mEn) (hc26 mPa) (hc27 mTo) (hc28 mOt) (hc29 mNa) (hc30 mRe) (hc31 mMa) (hc32 mMy) (hc33 mPm) (hc34 mFy) (hc35 mFa) (hc36 mFr) (hc37 mFo) (hc38 mRt) (hc39 mRm) (hc40 mTt) (hc41 mTi) (hc42 mPl) (hc43 mVr) (hc44 mVf) (hc45 mVc) (hc46 mAr) (hc47 mTc) (hc48 v12_f9) (hc49 mGo) dyn, 0, 0)) (h := (139, [(8, .int v14_r9), (7, .int v12_r9), (6, .int v7_r9), (5, .int v5_m9), (4, .int v5_r9), (0, .ref 25), (1, .int t), (2, .int w), (3, .int f)], [], hq g c1 c2 c3 c4 c5 c6 c7 c8 c9 c10 c11 c12 c13 c14 c15 c16 c17 c18 c19 c20 c21 c22 c23 c24 (hc25 mTy mTm mMn mFn mRn mTn mVn mLr mTr mFl v12_m9 v12_p9 mSc v5_p9 mEn) (hc26 mPa) (hc27 mTo) (hc28 mOt) (hc29 mNa) (hc30 mRe) (hc31 mMa) (hc32 mMy) (hc33 mPm) (hc34 mFy) (hc35 mFa) (hc36 mFr) (hc37 mFo) (hc38 mRt) (hc39 mRm) (hc40 mTt) (hc41 mTi) (hc42 mPl) (hc43 mVr) (hc44 mVf) (hc45 mVc) (hc46 mAr) (hc47 mTc) (hc48 v12_f9) (hc49 mGo) dyn, 0, 0)) rfl (fun h86 => ?_) (fun h86 => ?_)
      ·
        have h86 := qT_ne (cx := (v14_r9).toInt) (cy := (v12_m9).toInt) rfl rfl h86
        refine pm_go (g := (146, _, [.int (-12)], _, 0, 0)) rfl ?_
        refine pm_ret rfl (k0 _ _ _ _ _ ⟨_, _, _, _, h2, h9, ?_⟩ (by omega))
        exact Or.inr (Or.inr (Or.inr (Or.inr ⟨(fun ⟨a, b, c⟩ => by have c1 := hA2.mpr c; omega), (fun ⟨a, b, c⟩ => by have c1 := hS1.mpr c; omega), rfl, rfl, by omega, (fun ⟨a, b⟩ => by have c1 := hS1.mpr a; have c2 := hA2.mpr b; omega), rfl⟩)))
      have h86 := qF_ne (cx := (v14_r9).toInt) (cy := (v12_m9).toInt) rfl rfl h86
      refine pm_go (g := (141, _, [.int (-13)], _, 0, 0)) rfl ?_
      refine pm_go (g := (146, _, [.int (-13)], _, 0, 0)) rfl ?_
      refine pm_ret rfl (k0 _ _ _ _ _ ⟨_, _, _, _, h2, h9, ?_⟩ (by omega))
      exact Or.inr (Or.inr (Or.inr (Or.inl ⟨(fun ⟨a, b, c⟩ => by have c1 := hA2.mpr c; omega), (fun ⟨a, b, c⟩ => by have c1 := hS1.mpr c; omega), rfl, rfl, by omega, ⟨hS1.mp (by omega), hA2.mp (by omega)⟩, rfl⟩)))
    have h84 := qF_ne (cx := (v12_m9).toInt) (cy := 0) rfl (by decide) h84
    refine pm_go (g := (122, _, [.int (-11)], _, 0, 0)) rfl ?_
    refine pm_go (g := (146, _, [.int (-11)], _, 0, 0)) rfl ?_
    refine pm_ret rfl (k0 _ _ _ _ _ ⟨_, _, _, _, h2, h9, ?_⟩ (by omega))
    exact Or.inr (Or.inr (Or.inl ⟨(fun ⟨a, b, c⟩ => by have c1 := hA2.mpr c; omega), (fun ⟨a, b, c⟩ => by have c1 := hS1.mpr c; omega), rfl, rfl, by omega, rfl⟩))
  show pm_WP 155 (84, [(8, .int v14_r9), (7, .int v12_r9), (6, .int v7_r9), (5, .int v5_m9), (4, .int v5_r9), (0, .ref 25), (1, .int t), (2, .int w), (3, .int f)], [.int 0], hq g c1 c2 c3 c4 c5 c6 c7 c8 c9 c10 c11 c12 c13 c14 c15 c16 c17 c18 c19 c20 c21 c22 c23 c24 (hc25 mTy mTm mMn mFn mRn mTn mVn mLr mTr mFl v12_m9 v12_p9 mSc v5_p9 mEn) (hc26 mPa) (hc27 mTo) (hc28 mOt) (hc29 mNa) (hc30 mRe) (hc31 mMa) (hc32 mMy) (hc33 mPm) (hc34 mFy) (hc35 mFa) (hc36 mFr) (hc37 mFo) (hc38 mRt) (hc39 mRm) (hc40 mTt) (hc41 mTi) (hc42 mPl) (hc43 mVr) (hc44 mVf) (hc45 mVc) (hc46 mAr) (hc47 mTc) (hc48 v12_f9) (hc49 mGo) dyn, 0, 0) _
  refine pm_brF (h := (87, [(8, .int v14_r9), (7, .int v12_r9), (6, .int v7_r9), (5, .int v5_m9), (4, .int v5_r9), (0, .ref 25), (1, .int t), (2, .int w), (3, .int f)], [], hq g c1 c2 c3 c4 c5 c6 c7 c8 c9 c10 c11 c12 c13 c14 c15 c16 c17 c18 c19 c20 c21 c22 c23 c24 (hc25 mTy mTm mMn mFn mRn mTn mVn mLr mTr mFl v12_m9 v12_p9 mSc v5_p9 mEn) (hc26 mPa) (hc27 mTo) (hc28 mOt) (hc29 mNa) (hc30 mRe) (hc31 mMa) (hc32 mMy) (hc33 mPm) (hc34 mFy) (hc35 mFa) (hc36 mFr) (hc37 mFo) (hc38 mRt) (hc39 mRm) (hc40 mTt) (hc41 mTi) (hc42 mPl) (hc43 mVr) (hc44 mVf) (hc45 mVc) (hc46 mAr) (hc47 mTc) (hc48 v12_f9) (hc49 mGo) dyn, 0, 0)) rfl ?_
  refine pm_go (g := (89, _, [.int v7_r9], _, 0, 0)) rfl ?_
  refine pm_if2 (g := (108, [(8, .int v14_r9), (7, .int v12_r9), (6, .int v7_r9), (5, .int v5_m9), (4, .int v5_r9), (0, .ref 25), (1, .int t), (2, .int w), (3, .int f)], [], hq g c1 c2 c3 c4 c5 c6 c7 c8 c9 c10 c11 c12 c13 c14 c15 c16 c17 c18 c19 c20 c21 c22 c23 c24 (hc25 mTy mTm mMn mFn mRn mTn mVn mLr mTr mFl v12_m9 v12_p9 mSc v5_p9 mEn) (hc26 mPa) (hc27 mTo) (hc28 mOt) (hc29 mNa) (hc30 mRe) (hc31 mMa) (hc32 mMy) (hc33 mPm) (hc34 mFy) (hc35 mFa) (hc36 mFr) (hc37 mFo) (hc38 mRt) (hc39 mRm) (hc40 mTt) (hc41 mTi) (hc42 mPl) (hc43 mVr) (hc44 mVf) (hc45 mVc) (hc46 mAr) (hc47 mTc) (hc48 v12_f9) (hc49 mGo) dyn, 0, 0)) (h := (92, [(8, .int v14_r9), (7, .int v12_r9), (6, .int v7_r9), (5, .int v5_m9), (4, .int v5_r9), (0, .ref 25), (1, .int t), (2, .int w), (3, .int f)], [], hq g c1 c2 c3 c4 c5 c6 c7 c8 c9 c10 c11 c12 c13 c14 c15 c16 c17 c18 c19 c20 c21 c22 c23 c24 (hc25 mTy mTm mMn mFn mRn mTn mVn mLr mTr mFl v12_m9 v12_p9 mSc v5_p9 mEn) (hc26 mPa) (hc27 mTo) (hc28 mOt) (hc29 mNa) (hc30 mRe) (hc31 mMa) (hc32 mMy) (hc33 mPm) (hc34 mFy) (hc35 mFa) (hc36 mFr) (hc37 mFo) (hc38 mRt) (hc39 mRm) (hc40 mTt) (hc41 mTi) (hc42 mPl) (hc43 mVr) (hc44 mVf) (hc45 mVc) (hc46 mAr) (hc47 mTc) (hc48 v12_f9) (hc49 mGo) dyn, 0, 0)) rfl (fun h87 => ?_) (fun h87 => ?_)
  ·
    have h87 := qT_ne (cx := (v7_r9).toInt) (cy := 0) rfl (by decide) h87
    refine pm_go (g := (110, _, [.int v5_m9], _, 0, 0)) rfl ?_
    refine pm_if2 (g := (125, [(8, .int v14_r9), (7, .int v12_r9), (6, .int v7_r9), (5, .int v5_m9), (4, .int v5_r9), (0, .ref 25), (1, .int t), (2, .int w), (3, .int f)], [], hq g c1 c2 c3 c4 c5 c6 c7 c8 c9 c10 c11 c12 c13 c14 c15 c16 c17 c18 c19 c20 c21 c22 c23 c24 (hc25 mTy mTm mMn mFn mRn mTn mVn mLr mTr mFl v12_m9 v12_p9 mSc v5_p9 mEn) (hc26 mPa) (hc27 mTo) (hc28 mOt) (hc29 mNa) (hc30 mRe) (hc31 mMa) (hc32 mMy) (hc33 mPm) (hc34 mFy) (hc35 mFa) (hc36 mFr) (hc37 mFo) (hc38 mRt) (hc39 mRm) (hc40 mTt) (hc41 mTi) (hc42 mPl) (hc43 mVr) (hc44 mVf) (hc45 mVc) (hc46 mAr) (hc47 mTc) (hc48 v12_f9) (hc49 mGo) dyn, 0, 0)) (h := (113, [(8, .int v14_r9), (7, .int v12_r9), (6, .int v7_r9), (5, .int v5_m9), (4, .int v5_r9), (0, .ref 25), (1, .int t), (2, .int w), (3, .int f)], [], hq g c1 c2 c3 c4 c5 c6 c7 c8 c9 c10 c11 c12 c13 c14 c15 c16 c17 c18 c19 c20 c21 c22 c23 c24 (hc25 mTy mTm mMn mFn mRn mTn mVn mLr mTr mFl v12_m9 v12_p9 mSc v5_p9 mEn) (hc26 mPa) (hc27 mTo) (hc28 mOt) (hc29 mNa) (hc30 mRe) (hc31 mMa) (hc32 mMy) (hc33 mPm) (hc34 mFy) (hc35 mFa) (hc36 mFr) (hc37 mFo) (hc38 mRt) (hc39 mRm) (hc40 mTt) (hc41 mTi) (hc42 mPl) (hc43 mVr) (hc44 mVf) (hc45 mVc) (hc46 mAr) (hc47 mTc) (hc48 v12_f9) (hc49 mGo) dyn, 0, 0)) rfl (fun h88 => ?_) (fun h88 => ?_)
    ·
      have h88 := qT_ne (cx := (v5_m9).toInt) (cy := 0) rfl (by decide) h88
      refine pm_go (g := (127, _, [.int v7_r9], _, 0, 0)) rfl ?_
      refine pm_if2 (g := (144, [(8, .int v14_r9), (7, .int v12_r9), (6, .int v7_r9), (5, .int v5_m9), (4, .int v5_r9), (0, .ref 25), (1, .int t), (2, .int w), (3, .int f)], [], hq g c1 c2 c3 c4 c5 c6 c7 c8 c9 c10 c11 c12 c13 c14 c15 c16 c17 c18 c19 c20 c21 c22 c23 c24 (hc25 mTy mTm mMn mFn mRn mTn mVn mLr mTr mFl v12_m9 v12_p9 mSc v5_p9 mEn) (hc26 mPa) (hc27 mTo) (hc28 mOt) (hc29 mNa) (hc30 mRe) (hc31 mMa) (hc32 mMy) (hc33 mPm) (hc34 mFy) (hc35 mFa) (hc36 mFr) (hc37 mFo) (hc38 mRt) (hc39 mRm) (hc40 mTt) (hc41 mTi) (hc42 mPl) (hc43 mVr) (hc44 mVf) (hc45 mVc) (hc46 mAr) (hc47 mTc) (hc48 v12_f9) (hc49 mGo) dyn, 0, 0)) (h := (130, [(8, .int v14_r9), (7, .int v12_r9), (6, .int v7_r9), (5, .int v5_m9), (4, .int v5_r9), (0, .ref 25), (1, .int t), (2, .int w), (3, .int f)], [], hq g c1 c2 c3 c4 c5 c6 c7 c8 c9 c10 c11 c12 c13 c14 c15 c16 c17 c18 c19 c20 c21 c22 c23 c24 (hc25 mTy mTm mMn mFn mRn mTn mVn mLr mTr mFl v12_m9 v12_p9 mSc v5_p9 mEn) (hc26 mPa) (hc27 mTo) (hc28 mOt) (hc29 mNa) (hc30 mRe) (hc31 mMa) (hc32 mMy) (hc33 mPm) (hc34 mFy) (hc35 mFa) (hc36 mFr) (hc37 mFo) (hc38 mRt) (hc39 mRm) (hc40 mTt) (hc41 mTi) (hc42 mPl) (hc43 mVr) (hc44 mVf) (hc45 mVc) (hc46 mAr) (hc47 mTc) (hc48 v12_f9) (hc49 mGo) dyn, 0, 0)) rfl (fun h89 => ?_) (fun h89 => ?_)
      ·
        have h89 := qT_ne (cx := (v7_r9).toInt) (cy := 0) rfl (by decide) h89
        refine pm_go (g := (146, _, [.int (-12)], _, 0, 0)) rfl ?_
        refine pm_ret rfl (k0 _ _ _ _ _ ⟨_, _, _, _, h2, h9, ?_⟩ (by omega))
        exact Or.inr (Or.inr (Or.inr (Or.inr ⟨(fun ⟨a, b, c⟩ => by have c1 := hA2.mpr c; omega), (fun ⟨a, b, c⟩ => by have c1 := hS1.mpr c; omega), rfl, rfl, by omega, (fun ⟨a, b⟩ => by have c1 := hS1.mpr a; have c2 := hA2.mpr b; omega), rfl⟩)))
      have h89 := qF_ne (cx := (v7_r9).toInt) (cy := 0) rfl (by decide) h89
      refine pm_go (g := (132, _, [.int v14_r9], _, 0, 0)) rfl ?_
      refine pm_go (g := (133, _, [.ref 25, .int v14_r9], _, 0, 0)) rfl ?_
      refine pm_go (g := (136, _, [.int v12_m9, .int v14_r9], _, 0, 0)) rfl ?_
      refine pm_if2 (g := (144, [(8, .int v14_r9), (7, .int v12_r9), (6, .int v7_r9), (5, .int v5_m9), (4, .int v5_r9), (0, .ref 25), (1, .int t), (2, .int w), (3, .int f)], [], hq g c1 c2 c3 c4 c5 c6 c7 c8 c9 c10 c11 c12 c13 c14 c15 c16 c17 c18 c19 c20 c21 c22 c23 c24 (hc25 mTy mTm mMn mFn mRn mTn mVn mLr mTr mFl v12_m9 v12_p9 mSc v5_p9 mEn) (hc26 mPa) (hc27 mTo) (hc28 mOt) (hc29 mNa) (hc30 mRe) (hc31 mMa) (hc32 mMy) (hc33 mPm) (hc34 mFy) (hc35 mFa) (hc36 mFr) (hc37 mFo) (hc38 mRt) (hc39 mRm) (hc40 mTt) (hc41 mTi) (hc42 mPl) (hc43 mVr) (hc44 mVf) (hc45 mVc) (hc46 mAr) (hc47 mTc) (hc48 v12_f9) (hc49 mGo) dyn, 0, 0)) (h := (139, [(8, .int v14_r9), (7, .int v12_r9), (6, .int v7_r9), (5, .int v5_m9), (4, .int v5_r9), (0, .ref 25), (1, .int t), (2, .int w), (3, .int f)], [], hq g c1 c2 c3 c4 c5 c6 c7 c8 c9 c10 c11 c12 c13 c14 c15 c16 c17 c18 c19 c20 c21 c22 c23 c24 (hc25 mTy mTm mMn mFn mRn mTn mVn mLr mTr mFl v12_m9 v12_p9 mSc v5_p9 mEn) (hc26 mPa) (hc27 mTo) (hc28 mOt) (hc29 mNa) (hc30 mRe) (hc31 mMa) (hc32 mMy) (hc33 mPm) (hc34 mFy) (hc35 mFa) (hc36 mFr) (hc37 mFo) (hc38 mRt) (hc39 mRm) (hc40 mTt) (hc41 mTi) (hc42 mPl) (hc43 mVr) (hc44 mVf) (hc45 mVc) (hc46 mAr) (hc47 mTc) (hc48 v12_f9) (hc49 mGo) dyn, 0, 0)) rfl (fun h90 => ?_) (fun h90 => ?_)
      ·
        have h90 := qT_ne (cx := (v14_r9).toInt) (cy := (v12_m9).toInt) rfl rfl h90
        refine pm_go (g := (146, _, [.int (-12)], _, 0, 0)) rfl ?_
        refine pm_ret rfl (k0 _ _ _ _ _ ⟨_, _, _, _, h2, h9, ?_⟩ (by omega))
        exact Or.inr (Or.inr (Or.inr (Or.inr ⟨(fun ⟨a, b, c⟩ => by have c1 := hA2.mpr c; omega), (fun ⟨a, b, c⟩ => by have c1 := hS1.mpr c; omega), rfl, rfl, by omega, (fun ⟨a, b⟩ => by have c1 := hS1.mpr a; have c2 := hA2.mpr b; omega), rfl⟩)))
      have h90 := qF_ne (cx := (v14_r9).toInt) (cy := (v12_m9).toInt) rfl rfl h90
      refine pm_go (g := (141, _, [.int (-13)], _, 0, 0)) rfl ?_
      refine pm_go (g := (146, _, [.int (-13)], _, 0, 0)) rfl ?_
      refine pm_ret rfl (k0 _ _ _ _ _ ⟨_, _, _, _, h2, h9, ?_⟩ (by omega))
      exact Or.inr (Or.inr (Or.inr (Or.inl ⟨(fun ⟨a, b, c⟩ => by have c1 := hA2.mpr c; omega), (fun ⟨a, b, c⟩ => by have c1 := hS1.mpr c; omega), rfl, rfl, by omega, ⟨hS1.mp (by omega), hA2.mp (by omega)⟩, rfl⟩)))
    have h88 := qF_ne (cx := (v5_m9).toInt) (cy := 0) rfl (by decide) h88
    refine pm_go (g := (114, _, [.ref 25], _, 0, 0)) rfl ?_
    refine pm_go (g := (117, _, [.int v12_m9], _, 0, 0)) rfl ?_
    refine pm_if2 (g := (125, [(8, .int v14_r9), (7, .int v12_r9), (6, .int v7_r9), (5, .int v5_m9), (4, .int v5_r9), (0, .ref 25), (1, .int t), (2, .int w), (3, .int f)], [], hq g c1 c2 c3 c4 c5 c6 c7 c8 c9 c10 c11 c12 c13 c14 c15 c16 c17 c18 c19 c20 c21 c22 c23 c24 (hc25 mTy mTm mMn mFn mRn mTn mVn mLr mTr mFl v12_m9 v12_p9 mSc v5_p9 mEn) (hc26 mPa) (hc27 mTo) (hc28 mOt) (hc29 mNa) (hc30 mRe) (hc31 mMa) (hc32 mMy) (hc33 mPm) (hc34 mFy) (hc35 mFa) (hc36 mFr) (hc37 mFo) (hc38 mRt) (hc39 mRm) (hc40 mTt) (hc41 mTi) (hc42 mPl) (hc43 mVr) (hc44 mVf) (hc45 mVc) (hc46 mAr) (hc47 mTc) (hc48 v12_f9) (hc49 mGo) dyn, 0, 0)) (h := (120, [(8, .int v14_r9), (7, .int v12_r9), (6, .int v7_r9), (5, .int v5_m9), (4, .int v5_r9), (0, .ref 25), (1, .int t), (2, .int w), (3, .int f)], [], hq g c1 c2 c3 c4 c5 c6 c7 c8 c9 c10 c11 c12 c13 c14 c15 c16 c17 c18 c19 c20 c21 c22 c23 c24 (hc25 mTy mTm mMn mFn mRn mTn mVn mLr mTr mFl v12_m9 v12_p9 mSc v5_p9 mEn) (hc26 mPa) (hc27 mTo) (hc28 mOt) (hc29 mNa) (hc30 mRe) (hc31 mMa) (hc32 mMy) (hc33 mPm) (hc34 mFy) (hc35 mFa) (hc36 mFr) (hc37 mFo) (hc38 mRt) (hc39 mRm) (hc40 mTt) (hc41 mTi) (hc42 mPl) (hc43 mVr) (hc44 mVf) (hc45 mVc) (hc46 mAr) (hc47 mTc) (hc48 v12_f9) (hc49 mGo) dyn, 0, 0)) rfl (fun h91 => ?_) (fun h91 => ?_)
    ·
      have h91 := qT_ne (cx := (v12_m9).toInt) (cy := 0) rfl (by decide) h91
      refine pm_go (g := (127, _, [.int v7_r9], _, 0, 0)) rfl ?_
      refine pm_if2 (g := (144, [(8, .int v14_r9), (7, .int v12_r9), (6, .int v7_r9), (5, .int v5_m9), (4, .int v5_r9), (0, .ref 25), (1, .int t), (2, .int w), (3, .int f)], [], hq g c1 c2 c3 c4 c5 c6 c7 c8 c9 c10 c11 c12 c13 c14 c15 c16 c17 c18 c19 c20 c21 c22 c23 c24 (hc25 mTy mTm mMn mFn mRn mTn mVn mLr mTr mFl v12_m9 v12_p9 mSc v5_p9 mEn) (hc26 mPa) (hc27 mTo) (hc28 mOt) (hc29 mNa) (hc30 mRe) (hc31 mMa) (hc32 mMy) (hc33 mPm) (hc34 mFy) (hc35 mFa) (hc36 mFr) (hc37 mFo) (hc38 mRt) (hc39 mRm) (hc40 mTt) (hc41 mTi) (hc42 mPl) (hc43 mVr) (hc44 mVf) (hc45 mVc) (hc46 mAr) (hc47 mTc) (hc48 v12_f9) (hc49 mGo) dyn, 0, 0)) (h := (130, [(8, .int v14_r9), (7, .int v12_r9), (6, .int v7_r9), (5, .int v5_m9), (4, .int v5_r9), (0, .ref 25), (1, .int t), (2, .int w), (3, .int f)], [], hq g c1 c2 c3 c4 c5 c6 c7 c8 c9 c10 c11 c12 c13 c14 c15 c16 c17 c18 c19 c20 c21 c22 c23 c24 (hc25 mTy mTm mMn mFn mRn mTn mVn mLr mTr mFl v12_m9 v12_p9 mSc v5_p9 mEn) (hc26 mPa) (hc27 mTo) (hc28 mOt) (hc29 mNa) (hc30 mRe) (hc31 mMa) (hc32 mMy) (hc33 mPm) (hc34 mFy) (hc35 mFa) (hc36 mFr) (hc37 mFo) (hc38 mRt) (hc39 mRm) (hc40 mTt) (hc41 mTi) (hc42 mPl) (hc43 mVr) (hc44 mVf) (hc45 mVc) (hc46 mAr) (hc47 mTc) (hc48 v12_f9) (hc49 mGo) dyn, 0, 0)) rfl (fun h92 => ?_) (fun h92 => ?_)
      ·
        have h92 := qT_ne (cx := (v7_r9).toInt) (cy := 0) rfl (by decide) h92
        refine pm_go (g := (146, _, [.int (-12)], _, 0, 0)) rfl ?_
        refine pm_ret rfl (k0 _ _ _ _ _ ⟨_, _, _, _, h2, h9, ?_⟩ (by omega))
        exact Or.inr (Or.inr (Or.inr (Or.inr ⟨(fun ⟨a, b, c⟩ => by have c1 := hA2.mpr c; omega), (fun ⟨a, b, c⟩ => by have c1 := hS1.mpr c; omega), rfl, rfl, by omega, (fun ⟨a, b⟩ => by have c1 := hS1.mpr a; have c2 := hA2.mpr b; omega), rfl⟩)))
      have h92 := qF_ne (cx := (v7_r9).toInt) (cy := 0) rfl (by decide) h92
      refine pm_go (g := (132, _, [.int v14_r9], _, 0, 0)) rfl ?_
      refine pm_go (g := (133, _, [.ref 25, .int v14_r9], _, 0, 0)) rfl ?_
      refine pm_go (g := (136, _, [.int v12_m9, .int v14_r9], _, 0, 0)) rfl ?_
      refine pm_if2 (g := (144, [(8, .int v14_r9), (7, .int v12_r9), (6, .int v7_r9), (5, .int v5_m9), (4, .int v5_r9), (0, .ref 25), (1, .int t), (2, .int w), (3, .int f)], [], hq g c1 c2 c3 c4 c5 c6 c7 c8 c9 c10 c11 c12 c13 c14 c15 c16 c17 c18 c19 c20 c21 c22 c23 c24 (hc25 mTy mTm mMn mFn mRn mTn mVn mLr mTr mFl v12_m9 v12_p9 mSc v5_p9 mEn) (hc26 mPa) (hc27 mTo) (hc28 mOt) (hc29 mNa) (hc30 mRe) (hc31 mMa) (hc32 mMy) (hc33 mPm) (hc34 mFy) (hc35 mFa) (hc36 mFr) (hc37 mFo) (hc38 mRt) (hc39 mRm) (hc40 mTt) (hc41 mTi) (hc42 mPl) (hc43 mVr) (hc44 mVf) (hc45 mVc) (hc46 mAr) (hc47 mTc) (hc48 v12_f9) (hc49 mGo) dyn, 0, 0)) (h := (139, [(8, .int v14_r9), (7, .int v12_r9), (6, .int v7_r9), (5, .int v5_m9), (4, .int v5_r9), (0, .ref 25), (1, .int t), (2, .int w), (3, .int f)], [], hq g c1 c2 c3 c4 c5 c6 c7 c8 c9 c10 c11 c12 c13 c14 c15 c16 c17 c18 c19 c20 c21 c22 c23 c24 (hc25 mTy mTm mMn mFn mRn mTn mVn mLr mTr mFl v12_m9 v12_p9 mSc v5_p9 mEn) (hc26 mPa) (hc27 mTo) (hc28 mOt) (hc29 mNa) (hc30 mRe) (hc31 mMa) (hc32 mMy) (hc33 mPm) (hc34 mFy) (hc35 mFa) (hc36 mFr) (hc37 mFo) (hc38 mRt) (hc39 mRm) (hc40 mTt) (hc41 mTi) (hc42 mPl) (hc43 mVr) (hc44 mVf) (hc45 mVc) (hc46 mAr) (hc47 mTc) (hc48 v12_f9) (hc49 mGo) dyn, 0, 0)) rfl (fun h93 => ?_) (fun h93 => ?_)
      ·
        have h93 := qT_ne (cx := (v14_r9).toInt) (cy := (v12_m9).toInt) rfl rfl h93
        refine pm_go (g := (146, _, [.int (-12)], _, 0, 0)) rfl ?_
        refine pm_ret rfl (k0 _ _ _ _ _ ⟨_, _, _, _, h2, h9, ?_⟩ (by omega))
        exact Or.inr (Or.inr (Or.inr (Or.inr ⟨(fun ⟨a, b, c⟩ => by have c1 := hA2.mpr c; omega), (fun ⟨a, b, c⟩ => by have c1 := hS1.mpr c; omega), rfl, rfl, by omega, (fun ⟨a, b⟩ => by have c1 := hS1.mpr a; have c2 := hA2.mpr b; omega), rfl⟩)))
      have h93 := qF_ne (cx := (v14_r9).toInt) (cy := (v12_m9).toInt) rfl rfl h93
      refine pm_go (g := (141, _, [.int (-13)], _, 0, 0)) rfl ?_
      refine pm_go (g := (146, _, [.int (-13)], _, 0, 0)) rfl ?_
      refine pm_ret rfl (k0 _ _ _ _ _ ⟨_, _, _, _, h2, h9, ?_⟩ (by omega))
      exact Or.inr (Or.inr (Or.inr (Or.inl ⟨(fun ⟨a, b, c⟩ => by have c1 := hA2.mpr c; omega), (fun ⟨a, b, c⟩ => by have c1 := hS1.mpr c; omega), rfl, rfl, by omega, ⟨hS1.mp (by omega), hA2.mp (by omega)⟩, rfl⟩)))
    have h91 := qF_ne (cx := (v12_m9).toInt) (cy := 0) rfl (by decide) h91
    refine pm_go (g := (122, _, [.int (-11)], _, 0, 0)) rfl ?_
    refine pm_go (g := (146, _, [.int (-11)], _, 0, 0)) rfl ?_
    refine pm_ret rfl (k0 _ _ _ _ _ ⟨_, _, _, _, h2, h9, ?_⟩ (by omega))
    exact Or.inr (Or.inr (Or.inl ⟨(fun ⟨a, b, c⟩ => by have c1 := hA2.mpr c; omega), (fun ⟨a, b, c⟩ => by have c1 := hS1.mpr c; omega), rfl, rfl, by omega, rfl⟩))
  have h87 := qF_ne (cx := (v7_r9).toInt) (cy := 0) rfl (by decide) h87
  refine pm_go (g := (93, _, [.ref 25], _, 0, 0)) rfl ?_
  refine pm_go (g := (94, _, [.int 1, .ref 25], _, 0, 0)) rfl ?_
  refine pm_go (g := (97, _, [], hq g c1 c2 c3 c4 c5 c6 c7 c8 c9 c10 c11 c12 c13 c14 c15 c16 c17 c18 c19 c20 c21 c22 c23 c24 (hc25 mTy mTm mMn mFn mRn mTn mVn mLr mTr mFl v12_m9 v12_p9 1 v5_p9 mEn) (hc26 mPa) (hc27 mTo) (hc28 mOt) (hc29 mNa) (hc30 mRe) (hc31 mMa) (hc32 mMy) (hc33 mPm) (hc34 mFy) (hc35 mFa) (hc36 mFr) (hc37 mFo) (hc38 mRt) (hc39 mRm) (hc40 mTt) (hc41 mTi) (hc42 mPl) (hc43 mVr) (hc44 mVf) (hc45 mVc) (hc46 mAr) (hc47 mTc) (hc48 v12_f9) (hc49 mGo) dyn, 0, 0)) rfl ?_
  refine pm_go (g := (98, _, [.ref 25], _, 0, 0)) rfl ?_
  refine pm_go (g := (99, _, [.ref 25, .ref 25], _, 0, 0)) rfl ?_
  refine pm_go (g := (102, _, [.int v12_p9, .ref 25], _, 0, 0)) rfl ?_
  refine pm_go (g := (105, _, [], hq g c1 c2 c3 c4 c5 c6 c7 c8 c9 c10 c11 c12 c13 c14 c15 c16 c17 c18 c19 c20 c21 c22 c23 c24 (hc25 mTy mTm mMn mFn mRn mTn mVn mLr mTr mFl v12_m9 v12_p9 1 v12_p9 mEn) (hc26 mPa) (hc27 mTo) (hc28 mOt) (hc29 mNa) (hc30 mRe) (hc31 mMa) (hc32 mMy) (hc33 mPm) (hc34 mFy) (hc35 mFa) (hc36 mFr) (hc37 mFo) (hc38 mRt) (hc39 mRm) (hc40 mTt) (hc41 mTi) (hc42 mPl) (hc43 mVr) (hc44 mVf) (hc45 mVc) (hc46 mAr) (hc47 mTc) (hc48 v12_f9) (hc49 mGo) dyn, 0, 0)) rfl ?_
  refine pm_go (g := (107, _, [.int v12_r9], _, 0, 0)) rfl ?_
  refine pm_ret rfl (k1 _ _ _ _ _ ⟨_, _, _, _, h2, h9, ?_⟩ (by omega))
  exact Or.inr (Or.inl ⟨(fun ⟨a, b, c⟩ => by have c1 := hA2.mpr c; omega), ⟨by omega, by omega, hS1.mp (by omega)⟩, rfl, rfl, rfl⟩)
/-- the reference's means: fo, t, w are the reference's -/
def mnM (pa ot na my pm ma fa fy : Nat → Int32) (mn fo t w f sc mp r : Int32) : Prop :=
  (fo.toInt = 0 ∧ bothM pa ot na my pm ma fa fy mn t w f sc mp r) ∨
  (fo.toInt = 1 ∧ sc = 0 ∧ ∃ r1 : Int32, oneM pa ot na my pm ma fa fy mn t w f mp r1 ∧ (((0 ≤ r1.toInt ∧ (ma r1.toNatClampNeg &&& 1).toInt ≠ 0) ∧ r = -13) ∨ (¬ (0 ≤ r1.toInt ∧ (ma r1.toNatClampNeg &&& 1).toInt ≠ 0) ∧ r = r1))) ∨
  (fo.toInt = 2 ∧ sc = 0 ∧ ∃ r1 : Int32, oneM pa ot na my pm ma fa fy mn (pa t.toNatClampNeg) w f mp r1 ∧ ((r1.toInt < 0 ∧ r = r1) ∨ ((0 ≤ r1.toInt ∧ (ma r1.toNatClampNeg &&& 1).toInt ≠ 0) ∧ r = -13) ∨ ((0 ≤ r1.toInt ∧ (ma r1.toNatClampNeg &&& 1).toInt = 0 ∧ (ma r1.toNatClampNeg &&& 2).toInt ≠ 0) ∧ r = -14) ∨ ((0 ≤ r1.toInt ∧ (ma r1.toNatClampNeg &&& 1).toInt = 0 ∧ (ma r1.toNatClampNeg &&& 2).toInt = 0) ∧ r = r1))) ∨
  (fo.toInt = 3 ∧ sc = 0 ∧ ((opL pa ot na my pm ma mn t 0 ∧ mp = 0 ∧ r = -14) ∨ (¬ opL pa ot na my pm ma mn t 0 ∧ ¬ mkE ot na mn t 0 ∧ mp = 0 ∧ (((fy f.toNatClampNeg).toInt = 0 ∧ r = 99) ∨ ((fy f.toNatClampNeg).toInt ≠ 0 ∧ r = -11))) ∨ (¬ opL pa ot na my pm ma mn t 0 ∧ mkE ot na mn t 0 ∧ oneM pa ot na my pm ma fa fy mn t 6 f mp r))) ∨
  ((fo.toInt < 0 ∨ 3 < fo.toInt) ∧ sc = 0 ∧ mp = 0 ∧ ((((fy f.toNatClampNeg).toInt = 1 ∧ lM pa (fa (3 * f).toNatClampNeg) 10) ∧ r = 99) ∨ (¬ ((fy f.toNatClampNeg).toInt = 1 ∧ lM pa (fa (3 * f).toNatClampNeg) 10) ∧ r = -11)))
/-- the type of what comes -/
def cmM (re : Nat → Int32) (fo t m : Int32) : Int32 := if fo.toInt = 4 then (if t.toInt = 10 then 30 else 20 + t) else if fo.toInt = 3 then t else re m.toNatClampNeg
/-- the reference's wholeMeaning -/
def wmM (pa ot na re my pm ma fa fy fr : Nat → Int32) (mn fo t w f sc mp r : Int32) : Prop := ∃ r1 : Int32, mnM pa ot na my pm ma fa fy mn fo t w f sc mp r1 ∧ ((r1.toInt < 0 ∧ r = r1) ∨ ((0 ≤ r1.toInt ∧ ((fr f.toNatClampNeg).toInt = 11 ∨ lM pa (cmM re fo t r1) (fr f.toNatClampNeg))) ∧ r = r1) ∨ ((0 ≤ r1.toInt ∧ (fr f.toNatClampNeg).toInt ≠ 11 ∧ ¬ lM pa (cmM re fo t r1) (fr f.toNatClampNeg)) ∧ r = -15))
set_option maxRecDepth 100000 in
set_option maxHeartbeats 4000000 in
theorem w_X12_means {g c1 c2 c3 c4 c5 c6 c7 c8 c9 c10 c11 c12 c13 c14 c15 c16 c17 c18 c19 c20 c21 c22 c23 c24 : pm_C} {dyn : pm_H} {mTy : Int32} {mPa : Nat → Int32} {mTo : Nat → Int32} {mTm : Int32} {mMn : Int32} {mOt : Nat → Int32} {mNa : Nat → Int32} {mRe : Nat → Int32} {mMa : Nat → Int32} {mMy : Nat → Int32} {mPm : Nat → Int32} {mFn : Int32} {mFy : Nat → Int32} {mFa : Nat → Int32} {mFr : Nat → Int32} {mRn : Int32} {mFo : Nat → Int32} {mRt : Nat → Int32} {mRm : Nat → Int32} {mTn : Int32} {mTt : Nat → Int32} {mTi : Nat → Int32} {mPl : Nat → Int32} {mVn : Int32} {mVr : Nat → Int32} {mVf : Nat → Int32} {mVc : Nat → Int32} {mAr : Nat → Int32} {mLr : Int32} {mTc : Nat → Int32} {mTr : Int32} {mFl : Int32} {mFt : Nat → Int32} {mFm : Int32} {mFp : Int32} {mSc : Int32} {mMp : Int32} {mEn : Int32} {mGo : Nat → Int32} {Q : pm_Q} (r : Int32) (f : Int32) (p0 : 0 ≤ r.toInt ∧ r.toInt < 30) (p1 : (0 ≤ (mFo r.toNatClampNeg).toInt ∧ (mFo r.toNatClampNeg).toInt ≤ 4) ∧ ((mFo r.toNatClampNeg).toInt = 2 → 0 ≤ (mRt r.toNatClampNeg).toInt ∧ (mRt r.toNatClampNeg).toInt < 10)) (p2 : 0 ≤ f.toInt ∧ f.toInt < 10) (p3 : 0 ≤ (mFy f.toNatClampNeg).toInt ∧ (mFy f.toNatClampNeg).toInt ≤ 3) (p4 : paD mPa) (p5 : myD mMy) (p6 : vrD mMa mMy) (p7 : 0 ≤ mMn.toInt ∧ mMn.toInt ≤ 40) (k0 : ∀ (s9 : Int32), ∀ (f9 : Nat → Int32), ∀ (m9 : Int32), ∀ (q9 : Int32), ∀ (p9 : Int32), ∀ (r9 : Int32), (mnM mPa mOt mNa mMy mPm mMa mFa mFy mMn (mFo r.toNatClampNeg) (mRt r.toNatClampNeg) (mRm r.toNatClampNeg) f s9 p9 r9) → ((-15 ≤ r9.toInt ∧ (r9.toInt < mMn.toInt ∨ (r9.toInt = 99 ∧ 3 ≤ (mFo r.toNatClampNeg).toInt))) ∧ (0 ≤ p9.toInt ∧ p9.toInt ≤ 3)) → Q (some (.int r9)) (hq g c1 c2 c3 c4 c5 c6 c7 c8 c9 c10 c11 c12 c13 c14 c15 c16 c17 c18 c19 c20 c21 c22 c23 c24 (hc25 mTy mTm mMn mFn mRn mTn mVn mLr mTr mFl m9 q9 s9 p9 mEn) (hc26 mPa) (hc27 mTo) (hc28 mOt) (hc29 mNa) (hc30 mRe) (hc31 mMa) (hc32 mMy) (hc33 mPm) (hc34 mFy) (hc35 mFa) (hc36 mFr) (hc37 mFo) (hc38 mRt) (hc39 mRm) (hc40 mTt) (hc41 mTi) (hc42 mPl) (hc43 mVr) (hc44 mVf) (hc45 mVc) (hc46 mAr) (hc47 mTc) (hc48 f9) (hc49 mGo) dyn)) : pm_WP 157 (0, [(0, .ref 25), (1, .int r), (2, .int f)], [], hq g c1 c2 c3 c4 c5 c6 c7 c8 c9 c10 c11 c12 c13 c14 c15 c16 c17 c18 c19 c20 c21 c22 c23 c24 (hc25 mTy mTm mMn mFn mRn mTn mVn mLr mTr mFl mFm mFp mSc mMp mEn) (hc26 mPa) (hc27 mTo) (hc28 mOt) (hc29 mNa) (hc30 mRe) (hc31 mMa) (hc32 mMy) (hc33 mPm) (hc34 mFy) (hc35 mFa) (hc36 mFr) (hc37 mFo) (hc38 mRt) (hc39 mRm) (hc40 mTt) (hc41 mTi) (hc42 mPl) (hc43 mVr) (hc44 mVf) (hc45 mVc) (hc46 mAr) (hc47 mTc) (hc48 mFt) (hc49 mGo) dyn, 0, 0) Q := by
  have z0 : (0 : Int32).toInt = 0 := by decide
  have z1 : (1 : Int32).toInt = 1 := by decide
  have z_11 : (-11 : Int32).toInt = -11 := by decide
  have z_12 : (-12 : Int32).toInt = -12 := by decide
  have z_13 : (-13 : Int32).toInt = -13 := by decide
  have z_14 : (-14 : Int32).toInt = -14 := by decide
  have z_15 : (-15 : Int32).toInt = -15 := by decide
  have z99 : (99 : Int32).toInt = 99 := by decide
  refine pm_go (g := (1, [(0, .ref 25), (1, .int r), (2, .int f)], [.ref 25], hq g c1 c2 c3 c4 c5 c6 c7 c8 c9 c10 c11 c12 c13 c14 c15 c16 c17 c18 c19 c20 c21 c22 c23 c24 (hc25 mTy mTm mMn mFn mRn mTn mVn mLr mTr mFl mFm mFp mSc mMp mEn) (hc26 mPa) (hc27 mTo) (hc28 mOt) (hc29 mNa) (hc30 mRe) (hc31 mMa) (hc32 mMy) (hc33 mPm) (hc34 mFy) (hc35 mFa) (hc36 mFr) (hc37 mFo) (hc38 mRt) (hc39 mRm) (hc40 mTt) (hc41 mTi) (hc42 mPl) (hc43 mVr) (hc44 mVf) (hc45 mVc) (hc46 mAr) (hc47 mTc) (hc48 mFt) (hc49 mGo) dyn, 0, 0)) rfl ?_
  refine pm_go (g := (4, _, [.ref 38], _, 0, 0)) rfl ?_
  refine pm_go (g := (5, _, [.int r, .ref 38], _, 0, 0)) rfl ?_
  refine pm_sd (g := (6, _, [.int (mRt (r).toNatClampNeg)], _, 0, 0)) rfl (pm_inI (by omega) (by omega)) ?_
  refine pm_go (g := (7, [(3, .int (mRt (r).toNatClampNeg)), (0, .ref 25), (1, .int r), (2, .int f)], [], _, 0, 0)) rfl ?_
  refine pm_go (g := (8, _, [.ref 25], _, 0, 0)) rfl ?_
  refine pm_go (g := (11, _, [.ref 39], _, 0, 0)) rfl ?_
  refine pm_go (g := (12, _, [.int r, .ref 39], _, 0, 0)) rfl ?_
  refine pm_sd (g := (13, _, [.int (mRm (r).toNatClampNeg)], _, 0, 0)) rfl (pm_inI (by omega) (by omega)) ?_
  refine pm_go (g := (15, [(4, .int (mRm (r).toNatClampNeg)), (3, .int (mRt (r).toNatClampNeg)), (0, .ref 25), (1, .int r), (2, .int f)], [], _, 0, 0)) rfl ?_
  refine pm_go (g := (16, _, [.ref 25], _, 0, 0)) rfl ?_
  refine pm_go (g := (17, _, [.int 0, .ref 25], _, 0, 0)) rfl ?_
  refine pm_go (g := (20, _, [], hq g c1 c2 c3 c4 c5 c6 c7 c8 c9 c10 c11 c12 c13 c14 c15 c16 c17 c18 c19 c20 c21 c22 c23 c24 (hc25 mTy mTm mMn mFn mRn mTn mVn mLr mTr mFl mFm mFp 0 mMp mEn) (hc26 mPa) (hc27 mTo) (hc28 mOt) (hc29 mNa) (hc30 mRe) (hc31 mMa) (hc32 mMy) (hc33 mPm) (hc34 mFy) (hc35 mFa) (hc36 mFr) (hc37 mFo) (hc38 mRt) (hc39 mRm) (hc40 mTt) (hc41 mTi) (hc42 mPl) (hc43 mVr) (hc44 mVf) (hc45 mVc) (hc46 mAr) (hc47 mTc) (hc48 mFt) (hc49 mGo) dyn, 0, 0)) rfl ?_
  refine pm_go (g := (21, _, [.ref 25], _, 0, 0)) rfl ?_
  refine pm_go (g := (22, _, [.int 0, .ref 25], _, 0, 0)) rfl ?_
  refine pm_go (g := (25, _, [], hq g c1 c2 c3 c4 c5 c6 c7 c8 c9 c10 c11 c12 c13 c14 c15 c16 c17 c18 c19 c20 c21 c22 c23 c24 (hc25 mTy mTm mMn mFn mRn mTn mVn mLr mTr mFl mFm mFp 0 0 mEn) (hc26 mPa) (hc27 mTo) (hc28 mOt) (hc29 mNa) (hc30 mRe) (hc31 mMa) (hc32 mMy) (hc33 mPm) (hc34 mFy) (hc35 mFa) (hc36 mFr) (hc37 mFo) (hc38 mRt) (hc39 mRm) (hc40 mTt) (hc41 mTi) (hc42 mPl) (hc43 mVr) (hc44 mVf) (hc45 mVc) (hc46 mAr) (hc47 mTc) (hc48 mFt) (hc49 mGo) dyn, 0, 0)) rfl ?_
  refine pm_go (g := (26, _, [.ref 25], _, 0, 0)) rfl ?_
  refine pm_go (g := (29, _, [.ref 37], _, 0, 0)) rfl ?_
  refine pm_go (g := (30, _, [.int r, .ref 37], _, 0, 0)) rfl ?_
  refine pm_sd (g := (31, _, [.int (mFo (r).toNatClampNeg)], _, 0, 0)) rfl (pm_inI (by omega) (by omega)) ?_
  have h1 : (mFo (r).toNatClampNeg).toInt = 0 ∨ (mFo (r).toNatClampNeg).toInt = 1 ∨ (mFo (r).toNatClampNeg).toInt = 2 ∨ (mFo (r).toNatClampNeg).toInt = 3 ∨ ((mFo (r).toNatClampNeg).toInt < 0 ∨ 3 < (mFo (r).toNatClampNeg).toInt) := by omega
  rcases h1 with h1 | h1 | h1 | h1 | h1
  ·
    have h2 : mFo (r).toNatClampNeg = 0 := xI (c := 0) (by decide) (by omega)
    refine pm_go (g := (60, [(4, .int (mRm (r).toNatClampNeg)), (3, .int (mRt (r).toNatClampNeg)), (0, .ref 25), (1, .int r), (2, .int f)], [], hq g c1 c2 c3 c4 c5 c6 c7 c8 c9 c10 c11 c12 c13 c14 c15 c16 c17 c18 c19 c20 c21 c22 c23 c24 (hc25 mTy mTm mMn mFn mRn mTn mVn mLr mTr mFl mFm mFp 0 0 mEn) (hc26 mPa) (hc27 mTo) (hc28 mOt) (hc29 mNa) (hc30 mRe) (hc31 mMa) (hc32 mMy) (hc33 mPm) (hc34 mFy) (hc35 mFa) (hc36 mFr) (hc37 mFo) (hc38 mRt) (hc39 mRm) (hc40 mTt) (hc41 mTi) (hc42 mPl) (hc43 mVr) (hc44 mVf) (hc45 mVc) (hc46 mAr) (hc47 mTc) (hc48 mFt) (hc49 mGo) dyn, 0, 0)) (by rw [h2]; rfl) ?_
    refine pm_go (g := (61, _, [.ref 25], _, 0, 0)) rfl ?_
    refine pm_go (g := (62, _, [.int (mRt (r).toNatClampNeg), .ref 25], _, 0, 0)) rfl ?_
    refine pm_go (g := (64, _, [.int (mRm (r).toNatClampNeg), .int (mRt (r).toNatClampNeg), .ref 25], _, 0, 0)) rfl ?_
    refine pm_go (g := (65, _, [.int f, .int (mRm (r).toNatClampNeg), .int (mRt (r).toNatClampNeg), .ref 25], _, 0, 0)) rfl ?_
    refine pm_callD (z := 155) (as := [.ref 25, .int (mRt (r).toNatClampNeg), .int (mRm (r).toNatClampNeg), .int f]) (rest := []) rfl ?_
    have h3 : (0 : Int32).toInt = 0 := by decide
    refine w_X12_ofBoth (mRt (r).toNatClampNeg) (mRm (r).toNatClampNeg) f (by omega) (by omega) (by assumption) (by assumption) (by assumption) (by omega) (fun v7_f9 v7_m9 v7_q9 v7_p9 v7_r9 h4 h5 => ?_) (fun v7_f9 v7_m9 v7_q9 v7_p9 v7_r9 h6 h7 => ?_)
    ·
      show pm_WP 157 (68, [(4, .int (mRm (r).toNatClampNeg)), (3, .int (mRt (r).toNatClampNeg)), (0, .ref 25), (1, .int r), (2, .int f)], [.int v7_r9], _, 0, 0) _
      refine pm_ret rfl (k0 _ _ _ _ _ _ ?_ ?_)
      rotate_left
      · omega
      exact Or.inl ⟨by omega, h4⟩
    show pm_WP 157 (68, [(4, .int (mRm (r).toNatClampNeg)), (3, .int (mRt (r).toNatClampNeg)), (0, .ref 25), (1, .int r), (2, .int f)], [.int v7_r9], hq g c1 c2 c3 c4 c5 c6 c7 c8 c9 c10 c11 c12 c13 c14 c15 c16 c17 c18 c19 c20 c21 c22 c23 c24 (hc25 mTy mTm mMn mFn mRn mTn mVn mLr mTr mFl v7_m9 v7_q9 1 v7_p9 mEn) (hc26 mPa) (hc27 mTo) (hc28 mOt) (hc29 mNa) (hc30 mRe) (hc31 mMa) (hc32 mMy) (hc33 mPm) (hc34 mFy) (hc35 mFa) (hc36 mFr) (hc37 mFo) (hc38 mRt) (hc39 mRm) (hc40 mTt) (hc41 mTi) (hc42 mPl) (hc43 mVr) (hc44 mVf) (hc45 mVc) (hc46 mAr) (hc47 mTc) (hc48 v7_f9) (hc49 mGo) dyn, 0, 0) _
    refine pm_ret rfl (k0 _ _ _ _ _ _ ?_ ?_)
    rotate_left
    · omega
    exact Or.inl ⟨by omega, h6⟩
  ·
    have h9 : mFo (r).toNatClampNeg = 1 := xI (c := 1) (by decide) (by omega)
    refine pm_go (g := (69, [(4, .int (mRm (r).toNatClampNeg)), (3, .int (mRt (r).toNatClampNeg)), (0, .ref 25), (1, .int r), (2, .int f)], [], hq g c1 c2 c3 c4 c5 c6 c7 c8 c9 c10 c11 c12 c13 c14 c15 c16 c17 c18 c19 c20 c21 c22 c23 c24 (hc25 mTy mTm mMn mFn mRn mTn mVn mLr mTr mFl mFm mFp 0 0 mEn) (hc26 mPa) (hc27 mTo) (hc28 mOt) (hc29 mNa) (hc30 mRe) (hc31 mMa) (hc32 mMy) (hc33 mPm) (hc34 mFy) (hc35 mFa) (hc36 mFr) (hc37 mFo) (hc38 mRt) (hc39 mRm) (hc40 mTt) (hc41 mTi) (hc42 mPl) (hc43 mVr) (hc44 mVf) (hc45 mVc) (hc46 mAr) (hc47 mTc) (hc48 mFt) (hc49 mGo) dyn, 0, 0)) (by rw [h9]; rfl) ?_
    refine pm_go (g := (70, _, [.ref 25], _, 0, 0)) rfl ?_
    refine pm_go (g := (71, _, [.int (mRt (r).toNatClampNeg), .ref 25], _, 0, 0)) rfl ?_
    refine pm_go (g := (73, _, [.int (mRm (r).toNatClampNeg), .int (mRt (r).toNatClampNeg), .ref 25], _, 0, 0)) rfl ?_
    refine pm_go (g := (74, _, [.int f, .int (mRm (r).toNatClampNeg), .int (mRt (r).toNatClampNeg), .ref 25], _, 0, 0)) rfl ?_
    refine pm_callD (z := 156) (as := [.ref 25, .int (mRt (r).toNatClampNeg), .int (mRm (r).toNatClampNeg), .int f]) (rest := []) rfl ?_
    have h10 : (0 : Int32).toInt = 0 := by decide
    refine w_X12_ofOne (mRt (r).toNatClampNeg) (mRm (r).toNatClampNeg) f (by omega) (by omega) (by assumption) (by assumption) (by assumption) (by omega) (fun v12_f9 v12_m9 v12_q9 v12_p9 v12_r9 h11 h12 => ?_)
    show pm_WP 157 (77, [(4, .int (mRm (r).toNatClampNeg)), (3, .int (mRt (r).toNatClampNeg)), (0, .ref 25), (1, .int r), (2, .int f)], [.int v12_r9], _, 0, 0) _
    refine pm_go (g := (79, [(5, .int v12_r9), (4, .int (mRm (r).toNatClampNeg)), (3, .int (mRt (r).toNatClampNeg)), (0, .ref 25), (1, .int r), (2, .int f)], [], _, 0, 0)) rfl ?_
    refine pm_go (g := (81, _, [.int v12_r9], _, 0, 0)) rfl ?_
    refine pm_if2 (g := (99, [(5, .int v12_r9), (4, .int (mRm (r).toNatClampNeg)), (3, .int (mRt (r).toNatClampNeg)), (0, .ref 25), (1, .int r), (2, .int f)], [], hq g c1 c2 c3 c4 c5 c6 c7 c8 c9 c10 c11 c12 c13 c14 c15 c16 c17 c18 c19 c20 c21 c22 c23 c24 (hc25 mTy mTm mMn mFn mRn mTn mVn mLr mTr mFl v12_m9 v12_q9 0 v12_p9 mEn) (hc26 mPa) (hc27 mTo) (hc28 mOt) (hc29 mNa) (hc30 mRe) (hc31 mMa) (hc32 mMy) (hc33 mPm) (hc34 mFy) (hc35 mFa) (hc36 mFr) (hc37 mFo) (hc38 mRt) (hc39 mRm) (hc40 mTt) (hc41 mTi) (hc42 mPl) (hc43 mVr) (hc44 mVf) (hc45 mVc) (hc46 mAr) (hc47 mTc) (hc48 v12_f9) (hc49 mGo) dyn, 0, 0)) (h := (84, [(5, .int v12_r9), (4, .int (mRm (r).toNatClampNeg)), (3, .int (mRt (r).toNatClampNeg)), (0, .ref 25), (1, .int r), (2, .int f)], [], hq g c1 c2 c3 c4 c5 c6 c7 c8 c9 c10 c11 c12 c13 c14 c15 c16 c17 c18 c19 c20 c21 c22 c23 c24 (hc25 mTy mTm mMn mFn mRn mTn mVn mLr mTr mFl v12_m9 v12_q9 0 v12_p9 mEn) (hc26 mPa) (hc27 mTo) (hc28 mOt) (hc29 mNa) (hc30 mRe) (hc31 mMa) (hc32 mMy) (hc33 mPm) (hc34 mFy) (hc35 mFa) (hc36 mFr) (hc37 mFo) (hc38 mRt) (hc39 mRm) (hc40 mTt) (hc41 mTi) (hc42 mPl) (hc43 mVr) (hc44 mVf) (hc45 mVc) (hc46 mAr) (hc47 mTc) (hc48 v12_f9) (hc49 mGo) dyn, 0, 0)) rfl (fun h14 => ?_) (fun h14 => ?_)
    ·
      have h14 := qT_lt (cx := (v12_r9).toInt) (cy := 0) rfl (by decide) h14
      refine pm_go (g := (101, _, [.int v12_r9], _, 0, 0)) rfl ?_
      refine pm_ret rfl (k0 _ _ _ _ _ _ ?_ ?_)
      rotate_left
      · omega
      exact Or.inr (Or.inl ⟨by omega, rfl, _, h11, Or.inr ⟨by omega, rfl⟩⟩)
    have h14 := qF_lt (cx := (v12_r9).toInt) (cy := 0) rfl (by decide) h14
    refine pm_go (g := (85, _, [.ref 25], _, 0, 0)) rfl ?_
    refine pm_go (g := (87, _, [.int v12_r9, .ref 25], _, 0, 0)) rfl ?_
    refine pm_go (g := (88, _, [.int 1, .int v12_r9, .ref 25], _, 0, 0)) rfl ?_
    refine pm_callD (z := 139) (as := [.ref 25, .int v12_r9, .int 1]) (rest := []) rfl ?_
    have h15 : (1 : Int32).toInt = 1 := by decide
    have h16 : (0 : Int32).toInt = 0 := by decide
    refine w_X12_isMark v12_r9 1 (by omega) (fun h17 => ?_) (fun h18 => ?_)
    ·
      show pm_WP 157 (91, [(5, .int v12_r9), (4, .int (mRm (r).toNatClampNeg)), (3, .int (mRt (r).toNatClampNeg)), (0, .ref 25), (1, .int r), (2, .int f)], [.int 1], _, 0, 0) _
      refine pm_brF (h := (94, [(5, .int v12_r9), (4, .int (mRm (r).toNatClampNeg)), (3, .int (mRt (r).toNatClampNeg)), (0, .ref 25), (1, .int r), (2, .int f)], [], hq g c1 c2 c3 c4 c5 c6 c7 c8 c9 c10 c11 c12 c13 c14 c15 c16 c17 c18 c19 c20 c21 c22 c23 c24 (hc25 mTy mTm mMn mFn mRn mTn mVn mLr mTr mFl v12_m9 v12_q9 0 v12_p9 mEn) (hc26 mPa) (hc27 mTo) (hc28 mOt) (hc29 mNa) (hc30 mRe) (hc31 mMa) (hc32 mMy) (hc33 mPm) (hc34 mFy) (hc35 mFa) (hc36 mFr) (hc37 mFo) (hc38 mRt) (hc39 mRm) (hc40 mTt) (hc41 mTi) (hc42 mPl) (hc43 mVr) (hc44 mVf) (hc45 mVc) (hc46 mAr) (hc47 mTc) (hc48 v12_f9) (hc49 mGo) dyn, 0, 0)) rfl ?_
      refine pm_go (g := (96, _, [.int (-13)], _, 0, 0)) rfl ?_
      refine pm_go (g := (101, _, [.int (-13)], _, 0, 0)) rfl ?_
      refine pm_ret rfl (k0 _ _ _ _ _ _ ?_ ?_)
      rotate_left
      · omega
      exact Or.inr (Or.inl ⟨by omega, rfl, _, h11, Or.inl ⟨by omega, rfl⟩⟩)
    show pm_WP 157 (91, [(5, .int v12_r9), (4, .int (mRm (r).toNatClampNeg)), (3, .int (mRt (r).toNatClampNeg)), (0, .ref 25), (1, .int r), (2, .int f)], [.int 0], hq g c1 c2 c3 c4 c5 c6 c7 c8 c9 c10 c11 c12 c13 c14 c15 c16 c17 c18 c19 c20 c21 c22 c23 c24 (hc25 mTy mTm mMn mFn mRn mTn mVn mLr mTr mFl v12_m9 v12_q9 0 v12_p9 mEn) (hc26 mPa) (hc27 mTo) (hc28 mOt) (hc29 mNa) (hc30 mRe) (hc31 mMa) (hc32 mMy) (hc33 mPm) (hc34 mFy) (hc35 mFa) (hc36 mFr) (hc37 mFo) (hc38 mRt) (hc39 mRm) (hc40 mTt) (hc41 mTi) (hc42 mPl) (hc43 mVr) (hc44 mVf) (hc45 mVc) (hc46 mAr) (hc47 mTc) (hc48 v12_f9) (hc49 mGo) dyn, 0, 0) _
    refine pm_brT (g := (99, [(5, .int v12_r9), (4, .int (mRm (r).toNatClampNeg)), (3, .int (mRt (r).toNatClampNeg)), (0, .ref 25), (1, .int r), (2, .int f)], [], hq g c1 c2 c3 c4 c5 c6 c7 c8 c9 c10 c11 c12 c13 c14 c15 c16 c17 c18 c19 c20 c21 c22 c23 c24 (hc25 mTy mTm mMn mFn mRn mTn mVn mLr mTr mFl v12_m9 v12_q9 0 v12_p9 mEn) (hc26 mPa) (hc27 mTo) (hc28 mOt) (hc29 mNa) (hc30 mRe) (hc31 mMa) (hc32 mMy) (hc33 mPm) (hc34 mFy) (hc35 mFa) (hc36 mFr) (hc37 mFo) (hc38 mRt) (hc39 mRm) (hc40 mTt) (hc41 mTi) (hc42 mPl) (hc43 mVr) (hc44 mVf) (hc45 mVc) (hc46 mAr) (hc47 mTc) (hc48 v12_f9) (hc49 mGo) dyn, 0, 0)) rfl ?_
    refine pm_go (g := (101, _, [.int v12_r9], _, 0, 0)) rfl ?_
    refine pm_ret rfl (k0 _ _ _ _ _ _ ?_ ?_)
    rotate_left
    · omega
    exact Or.inr (Or.inl ⟨by omega, rfl, _, h11, Or.inr ⟨by omega, rfl⟩⟩)
  ·
    have h20 : mFo (r).toNatClampNeg = 2 := xI (c := 2) (by decide) (by omega)
    refine pm_go (g := (102, [(4, .int (mRm (r).toNatClampNeg)), (3, .int (mRt (r).toNatClampNeg)), (0, .ref 25), (1, .int r), (2, .int f)], [], hq g c1 c2 c3 c4 c5 c6 c7 c8 c9 c10 c11 c12 c13 c14 c15 c16 c17 c18 c19 c20 c21 c22 c23 c24 (hc25 mTy mTm mMn mFn mRn mTn mVn mLr mTr mFl mFm mFp 0 0 mEn) (hc26 mPa) (hc27 mTo) (hc28 mOt) (hc29 mNa) (hc30 mRe) (hc31 mMa) (hc32 mMy) (hc33 mPm) (hc34 mFy) (hc35 mFa) (hc36 mFr) (hc37 mFo) (hc38 mRt) (hc39 mRm) (hc40 mTt) (hc41 mTi) (hc42 mPl) (hc43 mVr) (hc44 mVf) (hc45 mVc) (hc46 mAr) (hc47 mTc) (hc48 mFt) (hc49 mGo) dyn, 0, 0)) (by rw [h20]; rfl) ?_
    refine pm_go (g := (103, _, [.ref 25], _, 0, 0)) rfl ?_
    refine pm_go (g := (104, _, [.ref 25, .ref 25], _, 0, 0)) rfl ?_
    refine pm_go (g := (107, _, [.ref 26, .ref 25], _, 0, 0)) rfl ?_
    refine pm_go (g := (108, _, [.int (mRt (r).toNatClampNeg), .ref 26, .ref 25], _, 0, 0)) rfl ?_
    refine pm_sd (g := (109, _, [.int (mPa (mRt (r).toNatClampNeg).toNatClampNeg), .ref 25], _, 0, 0)) rfl (pm_inI (by omega) (by omega)) ?_
    refine pm_go (g := (111, _, [.int (mRm (r).toNatClampNeg), .int (mPa (mRt (r).toNatClampNeg).toNatClampNeg), .ref 25], _, 0, 0)) rfl ?_
    refine pm_go (g := (112, _, [.int f, .int (mRm (r).toNatClampNeg), .int (mPa (mRt (r).toNatClampNeg).toNatClampNeg), .ref 25], _, 0, 0)) rfl ?_
    refine pm_callD (z := 156) (as := [.ref 25, .int (mPa (mRt (r).toNatClampNeg).toNatClampNeg), .int (mRm (r).toNatClampNeg), .int f]) (rest := []) rfl ?_
    have h21 : (0 : Int32).toInt = 0 := by decide
    refine w_X12_ofOne (mPa (mRt (r).toNatClampNeg).toNatClampNeg) (mRm (r).toNatClampNeg) f (by omega) (by omega) (by assumption) (by assumption) (by assumption) (by omega) (fun v23_f9 v23_m9 v23_q9 v23_p9 v23_r9 h22 h23 => ?_)
    show pm_WP 157 (115, [(4, .int (mRm (r).toNatClampNeg)), (3, .int (mRt (r).toNatClampNeg)), (0, .ref 25), (1, .int r), (2, .int f)], [.int v23_r9], _, 0, 0) _
    refine pm_go (g := (117, [(5, .int v23_r9), (4, .int (mRm (r).toNatClampNeg)), (3, .int (mRt (r).toNatClampNeg)), (0, .ref 25), (1, .int r), (2, .int f)], [], _, 0, 0)) rfl ?_
    refine pm_go (g := (119, _, [.int v23_r9], _, 0, 0)) rfl ?_
    refine pm_if2 (g := (127, [(5, .int v23_r9), (4, .int (mRm (r).toNatClampNeg)), (3, .int (mRt (r).toNatClampNeg)), (0, .ref 25), (1, .int r), (2, .int f)], [], hq g c1 c2 c3 c4 c5 c6 c7 c8 c9 c10 c11 c12 c13 c14 c15 c16 c17 c18 c19 c20 c21 c22 c23 c24 (hc25 mTy mTm mMn mFn mRn mTn mVn mLr mTr mFl v23_m9 v23_q9 0 v23_p9 mEn) (hc26 mPa) (hc27 mTo) (hc28 mOt) (hc29 mNa) (hc30 mRe) (hc31 mMa) (hc32 mMy) (hc33 mPm) (hc34 mFy) (hc35 mFa) (hc36 mFr) (hc37 mFo) (hc38 mRt) (hc39 mRm) (hc40 mTt) (hc41 mTi) (hc42 mPl) (hc43 mVr) (hc44 mVf) (hc45 mVc) (hc46 mAr) (hc47 mTc) (hc48 v23_f9) (hc49 mGo) dyn, 0, 0)) (h := (122, [(5, .int v23_r9), (4, .int (mRm (r).toNatClampNeg)), (3, .int (mRt (r).toNatClampNeg)), (0, .ref 25), (1, .int r), (2, .int f)], [], hq g c1 c2 c3 c4 c5 c6 c7 c8 c9 c10 c11 c12 c13 c14 c15 c16 c17 c18 c19 c20 c21 c22 c23 c24 (hc25 mTy mTm mMn mFn mRn mTn mVn mLr mTr mFl v23_m9 v23_q9 0 v23_p9 mEn) (hc26 mPa) (hc27 mTo) (hc28 mOt) (hc29 mNa) (hc30 mRe) (hc31 mMa) (hc32 mMy) (hc33 mPm) (hc34 mFy) (hc35 mFa) (hc36 mFr) (hc37 mFo) (hc38 mRt) (hc39 mRm) (hc40 mTt) (hc41 mTi) (hc42 mPl) (hc43 mVr) (hc44 mVf) (hc45 mVc) (hc46 mAr) (hc47 mTc) (hc48 v23_f9) (hc49 mGo) dyn, 0, 0)) rfl (fun h25 => ?_) (fun h25 => ?_)
    ·
      have h25 := qT_ge (cx := (v23_r9).toInt) (cy := 0) rfl (by decide) h25
      refine pm_go (g := (128, _, [.ref 25], _, 0, 0)) rfl ?_
      refine pm_go (g := (130, _, [.int v23_r9, .ref 25], _, 0, 0)) rfl ?_
      refine pm_go (g := (131, _, [.int 1, .int v23_r9, .ref 25], _, 0, 0)) rfl ?_
      refine pm_callD (z := 139) (as := [.ref 25, .int v23_r9, .int 1]) (rest := []) rfl ?_
      have h26 : (1 : Int32).toInt = 1 := by decide
      have h27 : (0 : Int32).toInt = 0 := by decide
      refine w_X12_isMark v23_r9 1 (by omega) (fun h28 => ?_) (fun h29 => ?_)
      ·
        show pm_WP 157 (134, [(5, .int v23_r9), (4, .int (mRm (r).toNatClampNeg)), (3, .int (mRt (r).toNatClampNeg)), (0, .ref 25), (1, .int r), (2, .int f)], [.int 1], _, 0, 0) _
        refine pm_brF (h := (137, [(5, .int v23_r9), (4, .int (mRm (r).toNatClampNeg)), (3, .int (mRt (r).toNatClampNeg)), (0, .ref 25), (1, .int r), (2, .int f)], [], hq g c1 c2 c3 c4 c5 c6 c7 c8 c9 c10 c11 c12 c13 c14 c15 c16 c17 c18 c19 c20 c21 c22 c23 c24 (hc25 mTy mTm mMn mFn mRn mTn mVn mLr mTr mFl v23_m9 v23_q9 0 v23_p9 mEn) (hc26 mPa) (hc27 mTo) (hc28 mOt) (hc29 mNa) (hc30 mRe) (hc31 mMa) (hc32 mMy) (hc33 mPm) (hc34 mFy) (hc35 mFa) (hc36 mFr) (hc37 mFo) (hc38 mRt) (hc39 mRm) (hc40 mTt) (hc41 mTi) (hc42 mPl) (hc43 mVr) (hc44 mVf) (hc45 mVc) (hc46 mAr) (hc47 mTc) (hc48 v23_f9) (hc49 mGo) dyn, 0, 0)) rfl ?_
        refine pm_go (g := (139, _, [.int (-13)], _, 0, 0)) rfl ?_
        refine pm_go (g := (159, _, [.int (-13)], _, 0, 0)) rfl ?_
        refine pm_ret rfl (k0 _ _ _ _ _ _ ?_ ?_)
        rotate_left
        · omega
        exact Or.inr (Or.inr (Or.inl ⟨by omega, rfl, _, h22, Or.inr (Or.inl ⟨by omega, rfl⟩)⟩))
      show pm_WP 157 (134, [(5, .int v23_r9), (4, .int (mRm (r).toNatClampNeg)), (3, .int (mRt (r).toNatClampNeg)), (0, .ref 25), (1, .int r), (2, .int f)], [.int 0], hq g c1 c2 c3 c4 c5 c6 c7 c8 c9 c10 c11 c12 c13 c14 c15 c16 c17 c18 c19 c20 c21 c22 c23 c24 (hc25 mTy mTm mMn mFn mRn mTn mVn mLr mTr mFl v23_m9 v23_q9 0 v23_p9 mEn) (hc26 mPa) (hc27 mTo) (hc28 mOt) (hc29 mNa) (hc30 mRe) (hc31 mMa) (hc32 mMy) (hc33 mPm) (hc34 mFy) (hc35 mFa) (hc36 mFr) (hc37 mFo) (hc38 mRt) (hc39 mRm) (hc40 mTt) (hc41 mTi) (hc42 mPl) (hc43 mVr) (hc44 mVf) (hc45 mVc) (hc46 mAr) (hc47 mTc) (hc48 v23_f9) (hc49 mGo) dyn, 0, 0) _
      refine pm_brT (g := (142, [(5, .int v23_r9), (4, .int (mRm (r).toNatClampNeg)), (3, .int (mRt (r).toNatClampNeg)), (0, .ref 25), (1, .int r), (2, .int f)], [], hq g c1 c2 c3 c4 c5 c6 c7 c8 c9 c10 c11 c12 c13 c14 c15 c16 c17 c18 c19 c20 c21 c22 c23 c24 (hc25 mTy mTm mMn mFn mRn mTn mVn mLr mTr mFl v23_m9 v23_q9 0 v23_p9 mEn) (hc26 mPa) (hc27 mTo) (hc28 mOt) (hc29 mNa) (hc30 mRe) (hc31 mMa) (hc32 mMy) (hc33 mPm) (hc34 mFy) (hc35 mFa) (hc36 mFr) (hc37 mFo) (hc38 mRt) (hc39 mRm) (hc40 mTt) (hc41 mTi) (hc42 mPl) (hc43 mVr) (hc44 mVf) (hc45 mVc) (hc46 mAr) (hc47 mTc) (hc48 v23_f9) (hc49 mGo) dyn, 0, 0)) rfl ?_
      refine pm_go (g := (143, _, [.ref 25], _, 0, 0)) rfl ?_
      refine pm_go (g := (145, _, [.int v23_r9, .ref 25], _, 0, 0)) rfl ?_
      refine pm_go (g := (146, _, [.int 2, .int v23_r9, .ref 25], _, 0, 0)) rfl ?_
      refine pm_callD (z := 139) (as := [.ref 25, .int v23_r9, .int 2]) (rest := []) rfl ?_
      have h31 : (2 : Int32).toInt = 2 := by decide
      have h32 : (0 : Int32).toInt = 0 := by decide
      refine w_X12_isMark v23_r9 2 (by omega) (fun h33 => ?_) (fun h34 => ?_)
      ·
        show pm_WP 157 (149, [(5, .int v23_r9), (4, .int (mRm (r).toNatClampNeg)), (3, .int (mRt (r).toNatClampNeg)), (0, .ref 25), (1, .int r), (2, .int f)], [.int 1], _, 0, 0) _
        refine pm_brF (h := (152, [(5, .int v23_r9), (4, .int (mRm (r).toNatClampNeg)), (3, .int (mRt (r).toNatClampNeg)), (0, .ref 25), (1, .int r), (2, .int f)], [], hq g c1 c2 c3 c4 c5 c6 c7 c8 c9 c10 c11 c12 c13 c14 c15 c16 c17 c18 c19 c20 c21 c22 c23 c24 (hc25 mTy mTm mMn mFn mRn mTn mVn mLr mTr mFl v23_m9 v23_q9 0 v23_p9 mEn) (hc26 mPa) (hc27 mTo) (hc28 mOt) (hc29 mNa) (hc30 mRe) (hc31 mMa) (hc32 mMy) (hc33 mPm) (hc34 mFy) (hc35 mFa) (hc36 mFr) (hc37 mFo) (hc38 mRt) (hc39 mRm) (hc40 mTt) (hc41 mTi) (hc42 mPl) (hc43 mVr) (hc44 mVf) (hc45 mVc) (hc46 mAr) (hc47 mTc) (hc48 v23_f9) (hc49 mGo) dyn, 0, 0)) rfl ?_
        refine pm_go (g := (154, _, [.int (-14)], _, 0, 0)) rfl ?_
        refine pm_go (g := (159, _, [.int (-14)], _, 0, 0)) rfl ?_
        refine pm_ret rfl (k0 _ _ _ _ _ _ ?_ ?_)
        rotate_left
        · omega
        exact Or.inr (Or.inr (Or.inl ⟨by omega, rfl, _, h22, Or.inr (Or.inr (Or.inl ⟨by omega, rfl⟩))⟩))
      show pm_WP 157 (149, [(5, .int v23_r9), (4, .int (mRm (r).toNatClampNeg)), (3, .int (mRt (r).toNatClampNeg)), (0, .ref 25), (1, .int r), (2, .int f)], [.int 0], hq g c1 c2 c3 c4 c5 c6 c7 c8 c9 c10 c11 c12 c13 c14 c15 c16 c17 c18 c19 c20 c21 c22 c23 c24 (hc25 mTy mTm mMn mFn mRn mTn mVn mLr mTr mFl v23_m9 v23_q9 0 v23_p9 mEn) (hc26 mPa) (hc27 mTo) (hc28 mOt) (hc29 mNa) (hc30 mRe) (hc31 mMa) (hc32 mMy) (hc33 mPm) (hc34 mFy) (hc35 mFa) (hc36 mFr) (hc37 mFo) (hc38 mRt) (hc39 mRm) (hc40 mTt) (hc41 mTi) (hc42 mPl) (hc43 mVr) (hc44 mVf) (hc45 mVc) (hc46 mAr) (hc47 mTc) (hc48 v23_f9) (hc49 mGo) dyn, 0, 0) _
      refine pm_brT (g := (157, [(5, .int v23_r9), (4, .int (mRm (r).toNatClampNeg)), (3, .int (mRt (r).toNatClampNeg)), (0, .ref 25), (1, .int r), (2, .int f)], [], hq g c1 c2 c3 c4 c5 c6 c7 c8 c9 c10 c11 c12 c13 c14 c15 c16 c17 c18 c19 c20 c21 c22 c23 c24 (hc25 mTy mTm mMn mFn mRn mTn mVn mLr mTr mFl v23_m9 v23_q9 0 v23_p9 mEn) (hc26 mPa) (hc27 mTo) (hc28 mOt) (hc29 mNa) (hc30 mRe) (hc31 mMa) (hc32 mMy) (hc33 mPm) (hc34 mFy) (hc35 mFa) (hc36 mFr) (hc37 mFo) (hc38 mRt) (hc39 mRm) (hc40 mTt) (hc41 mTi) (hc42 mPl) (hc43 mVr) (hc44 mVf) (hc45 mVc) (hc46 mAr) (hc47 mTc) (hc48 v23_f9) (hc49 mGo) dyn, 0, 0)) rfl ?_
      refine pm_go (g := (159, _, [.int v23_r9], _, 0, 0)) rfl ?_
      refine pm_ret rfl (k0 _ _ _ _ _ _ ?_ ?_)
      rotate_left
      · omega
      exact Or.inr (Or.inr (Or.inl ⟨by omega, rfl, _, h22, by first | exact Or.inl ⟨by omega, rfl⟩ | exact Or.inr (Or.inr (Or.inr ⟨by omega, rfl⟩))⟩))
    have h25 := qF_ge (cx := (v23_r9).toInt) (cy := 0) rfl (by decide) h25
    refine pm_go (g := (124, _, [.int v23_r9], _, 0, 0)) rfl ?_
    refine pm_go (g := (159, _, [.int v23_r9], _, 0, 0)) rfl ?_
    refine pm_ret rfl (k0 _ _ _ _ _ _ ?_ ?_)
    rotate_left
    · omega
    exact Or.inr (Or.inr (Or.inl ⟨by omega, rfl, _, h22, by first | exact Or.inl ⟨by omega, rfl⟩ | exact Or.inr (Or.inr (Or.inr ⟨by omega, rfl⟩))⟩))
  ·
    have h36 : mFo (r).toNatClampNeg = 3 := xI (c := 3) (by decide) (by omega)
    refine pm_go (g := (160, [(4, .int (mRm (r).toNatClampNeg)), (3, .int (mRt (r).toNatClampNeg)), (0, .ref 25), (1, .int r), (2, .int f)], [], hq g c1 c2 c3 c4 c5 c6 c7 c8 c9 c10 c11 c12 c13 c14 c15 c16 c17 c18 c19 c20 c21 c22 c23 c24 (hc25 mTy mTm mMn mFn mRn mTn mVn mLr mTr mFl mFm mFp 0 0 mEn) (hc26 mPa) (hc27 mTo) (hc28 mOt) (hc29 mNa) (hc30 mRe) (hc31 mMa) (hc32 mMy) (hc33 mPm) (hc34 mFy) (hc35 mFa) (hc36 mFr) (hc37 mFo) (hc38 mRt) (hc39 mRm) (hc40 mTt) (hc41 mTi) (hc42 mPl) (hc43 mVr) (hc44 mVf) (hc45 mVc) (hc46 mAr) (hc47 mTc) (hc48 mFt) (hc49 mGo) dyn, 0, 0)) (by rw [h36]; rfl) ?_
    refine pm_go (g := (161, _, [.ref 25], _, 0, 0)) rfl ?_
    refine pm_go (g := (162, _, [.int (mRt (r).toNatClampNeg), .ref 25], _, 0, 0)) rfl ?_
    refine pm_callD (z := 145) (as := [.ref 25, .int (mRt (r).toNatClampNeg)]) (rest := []) rfl ?_
    have h37 : (0 : Int32).toInt = 0 := by decide
    refine w_X12_isOpen (mRt (r).toNatClampNeg) (by assumption) (by assumption) (by omega) (fun h38 => ?_) (fun h39 => ?_)
    ·
      show pm_WP 157 (165, [(4, .int (mRm (r).toNatClampNeg)), (3, .int (mRt (r).toNatClampNeg)), (0, .ref 25), (1, .int r), (2, .int f)], [.int 1], _, 0, 0) _
      refine pm_brF (h := (168, [(4, .int (mRm (r).toNatClampNeg)), (3, .int (mRt (r).toNatClampNeg)), (0, .ref 25), (1, .int r), (2, .int f)], [], hq g c1 c2 c3 c4 c5 c6 c7 c8 c9 c10 c11 c12 c13 c14 c15 c16 c17 c18 c19 c20 c21 c22 c23 c24 (hc25 mTy mTm mMn mFn mRn mTn mVn mLr mTr mFl mFm mFp 0 0 mEn) (hc26 mPa) (hc27 mTo) (hc28 mOt) (hc29 mNa) (hc30 mRe) (hc31 mMa) (hc32 mMy) (hc33 mPm) (hc34 mFy) (hc35 mFa) (hc36 mFr) (hc37 mFo) (hc38 mRt) (hc39 mRm) (hc40 mTt) (hc41 mTi) (hc42 mPl) (hc43 mVr) (hc44 mVf) (hc45 mVc) (hc46 mAr) (hc47 mTc) (hc48 mFt) (hc49 mGo) dyn, 0, 0)) rfl ?_
      refine pm_go (g := (170, _, [.int (-14)], _, 0, 0)) rfl ?_
      refine pm_ret rfl (k0 _ _ _ _ _ _ ?_ ?_)
      rotate_left
      · omega
      exact Or.inr (Or.inr (Or.inr (Or.inl ⟨by omega, rfl, Or.inl ⟨by assumption, rfl, rfl⟩⟩)))
    show pm_WP 157 (165, [(4, .int (mRm (r).toNatClampNeg)), (3, .int (mRt (r).toNatClampNeg)), (0, .ref 25), (1, .int r), (2, .int f)], [.int 0], hq g c1 c2 c3 c4 c5 c6 c7 c8 c9 c10 c11 c12 c13 c14 c15 c16 c17 c18 c19 c20 c21 c22 c23 c24 (hc25 mTy mTm mMn mFn mRn mTn mVn mLr mTr mFl mFm mFp 0 0 mEn) (hc26 mPa) (hc27 mTo) (hc28 mOt) (hc29 mNa) (hc30 mRe) (hc31 mMa) (hc32 mMy) (hc33 mPm) (hc34 mFy) (hc35 mFa) (hc36 mFr) (hc37 mFo) (hc38 mRt) (hc39 mRm) (hc40 mTt) (hc41 mTi) (hc42 mPl) (hc43 mVr) (hc44 mVf) (hc45 mVc) (hc46 mAr) (hc47 mTc) (hc48 mFt) (hc49 mGo) dyn, 0, 0) _
    refine pm_brT (g := (171, [(4, .int (mRm (r).toNatClampNeg)), (3, .int (mRt (r).toNatClampNeg)), (0, .ref 25), (1, .int r), (2, .int f)], [], hq g c1 c2 c3 c4 c5 c6 c7 c8 c9 c10 c11 c12 c13 c14 c15 c16 c17 c18 c19 c20 c21 c22 c23 c24 (hc25 mTy mTm mMn mFn mRn mTn mVn mLr mTr mFl mFm mFp 0 0 mEn) (hc26 mPa) (hc27 mTo) (hc28 mOt) (hc29 mNa) (hc30 mRe) (hc31 mMa) (hc32 mMy) (hc33 mPm) (hc34 mFy) (hc35 mFa) (hc36 mFr) (hc37 mFo) (hc38 mRt) (hc39 mRm) (hc40 mTt) (hc41 mTi) (hc42 mPl) (hc43 mVr) (hc44 mVf) (hc45 mVc) (hc46 mAr) (hc47 mTc) (hc48 mFt) (hc49 mGo) dyn, 0, 0)) rfl ?_
    refine pm_go (g := (172, _, [.ref 25], _, 0, 0)) rfl ?_
    refine pm_go (g := (173, _, [.int (mRt (r).toNatClampNeg), .ref 25], _, 0, 0)) rfl ?_
    refine pm_callD (z := 154) (as := [.ref 25, .int (mRt (r).toNatClampNeg)]) (rest := []) rfl ?_
    have h41 : (0 : Int32).toInt = 0 := by decide
    refine w_X12_makers (mRt (r).toNatClampNeg) (by omega) (fun v42_r9 h42 => ?_)
    show pm_WP 157 (176, [(4, .int (mRm (r).toNatClampNeg)), (3, .int (mRt (r).toNatClampNeg)), (0, .ref 25), (1, .int r), (2, .int f)], [.int v42_r9], _, 0, 0) _
    refine pm_if2 (g := (196, [(4, .int (mRm (r).toNatClampNeg)), (3, .int (mRt (r).toNatClampNeg)), (0, .ref 25), (1, .int r), (2, .int f)], [], hq g c1 c2 c3 c4 c5 c6 c7 c8 c9 c10 c11 c12 c13 c14 c15 c16 c17 c18 c19 c20 c21 c22 c23 c24 (hc25 mTy mTm mMn mFn mRn mTn mVn mLr mTr mFl mFm mFp 0 0 mEn) (hc26 mPa) (hc27 mTo) (hc28 mOt) (hc29 mNa) (hc30 mRe) (hc31 mMa) (hc32 mMy) (hc33 mPm) (hc34 mFy) (hc35 mFa) (hc36 mFr) (hc37 mFo) (hc38 mRt) (hc39 mRm) (hc40 mTt) (hc41 mTi) (hc42 mPl) (hc43 mVr) (hc44 mVf) (hc45 mVc) (hc46 mAr) (hc47 mTc) (hc48 mFt) (hc49 mGo) dyn, 0, 0)) (h := (179, [(4, .int (mRm (r).toNatClampNeg)), (3, .int (mRt (r).toNatClampNeg)), (0, .ref 25), (1, .int r), (2, .int f)], [], hq g c1 c2 c3 c4 c5 c6 c7 c8 c9 c10 c11 c12 c13 c14 c15 c16 c17 c18 c19 c20 c21 c22 c23 c24 (hc25 mTy mTm mMn mFn mRn mTn mVn mLr mTr mFl mFm mFp 0 0 mEn) (hc26 mPa) (hc27 mTo) (hc28 mOt) (hc29 mNa) (hc30 mRe) (hc31 mMa) (hc32 mMy) (hc33 mPm) (hc34 mFy) (hc35 mFa) (hc36 mFr) (hc37 mFo) (hc38 mRt) (hc39 mRm) (hc40 mTt) (hc41 mTi) (hc42 mPl) (hc43 mVr) (hc44 mVf) (hc45 mVc) (hc46 mAr) (hc47 mTc) (hc48 mFt) (hc49 mGo) dyn, 0, 0)) rfl (fun h44 => ?_) (fun h44 => ?_)
    ·
      have h44 := qT_ne (cx := (v42_r9).toInt) (cy := 0) rfl (by decide) h44
      refine pm_go (g := (197, _, [.ref 25], _, 0, 0)) rfl ?_
      refine pm_go (g := (198, _, [.int (mRt (r).toNatClampNeg), .ref 25], _, 0, 0)) rfl ?_
      refine pm_go (g := (200, _, [.int 6, .int (mRt (r).toNatClampNeg), .ref 25], _, 0, 0)) rfl ?_
      refine pm_go (g := (201, _, [.int f, .int 6, .int (mRt (r).toNatClampNeg), .ref 25], _, 0, 0)) rfl ?_
      refine pm_callD (z := 156) (as := [.ref 25, .int (mRt (r).toNatClampNeg), .int 6, .int f]) (rest := []) rfl ?_
      have h45 : (6 : Int32).toInt = 6 := by decide
      have h46 : (0 : Int32).toInt = 0 := by decide
      refine w_X12_ofOne (mRt (r).toNatClampNeg) 6 f (by omega) (by omega) (by assumption) (by assumption) (by assumption) (by omega) (fun v48_f9 v48_m9 v48_q9 v48_p9 v48_r9 h47 h48 => ?_)
      show pm_WP 157 (204, [(4, .int (mRm (r).toNatClampNeg)), (3, .int (mRt (r).toNatClampNeg)), (0, .ref 25), (1, .int r), (2, .int f)], [.int v48_r9], _, 0, 0) _
      refine pm_ret rfl (k0 _ _ _ _ _ _ ?_ ?_)
      rotate_left
      · omega
      exact Or.inr (Or.inr (Or.inr (Or.inl ⟨by omega, rfl, Or.inr (Or.inr ⟨by assumption, Classical.byContradiction (fun q => absurd (h42.mpr q) (by omega)), h47⟩)⟩)))
    have h44 := qF_ne (cx := (v42_r9).toInt) (cy := 0) rfl (by decide) h44
    refine pm_go (g := (180, _, [.ref 25], hq g c1 c2 c3 c4 c5 c6 c7 c8 c9 c10 c11 c12 c13 c14 c15 c16 c17 c18 c19 c20 c21 c22 c23 c24 (hc25 mTy mTm mMn mFn mRn mTn mVn mLr mTr mFl mFm mFp 0 0 mEn) (hc26 mPa) (hc27 mTo) (hc28 mOt) (hc29 mNa) (hc30 mRe) (hc31 mMa) (hc32 mMy) (hc33 mPm) (hc34 mFy) (hc35 mFa) (hc36 mFr) (hc37 mFo) (hc38 mRt) (hc39 mRm) (hc40 mTt) (hc41 mTi) (hc42 mPl) (hc43 mVr) (hc44 mVf) (hc45 mVc) (hc46 mAr) (hc47 mTc) (hc48 mFt) (hc49 mGo) dyn, 0, 0)) rfl ?_
    refine pm_go (g := (183, _, [.ref 34], _, 0, 0)) rfl ?_
    refine pm_go (g := (184, _, [.int f, .ref 34], _, 0, 0)) rfl ?_
    refine pm_sd (g := (185, _, [.int (mFy (f).toNatClampNeg)], _, 0, 0)) rfl (pm_inI (by omega) (by omega)) ?_
    refine pm_if2 (g := (193, [(4, .int (mRm (r).toNatClampNeg)), (3, .int (mRt (r).toNatClampNeg)), (0, .ref 25), (1, .int r), (2, .int f)], [], hq g c1 c2 c3 c4 c5 c6 c7 c8 c9 c10 c11 c12 c13 c14 c15 c16 c17 c18 c19 c20 c21 c22 c23 c24 (hc25 mTy mTm mMn mFn mRn mTn mVn mLr mTr mFl mFm mFp 0 0 mEn) (hc26 mPa) (hc27 mTo) (hc28 mOt) (hc29 mNa) (hc30 mRe) (hc31 mMa) (hc32 mMy) (hc33 mPm) (hc34 mFy) (hc35 mFa) (hc36 mFr) (hc37 mFo) (hc38 mRt) (hc39 mRm) (hc40 mTt) (hc41 mTi) (hc42 mPl) (hc43 mVr) (hc44 mVf) (hc45 mVc) (hc46 mAr) (hc47 mTc) (hc48 mFt) (hc49 mGo) dyn, 0, 0)) (h := (188, [(4, .int (mRm (r).toNatClampNeg)), (3, .int (mRt (r).toNatClampNeg)), (0, .ref 25), (1, .int r), (2, .int f)], [], hq g c1 c2 c3 c4 c5 c6 c7 c8 c9 c10 c11 c12 c13 c14 c15 c16 c17 c18 c19 c20 c21 c22 c23 c24 (hc25 mTy mTm mMn mFn mRn mTn mVn mLr mTr mFl mFm mFp 0 0 mEn) (hc26 mPa) (hc27 mTo) (hc28 mOt) (hc29 mNa) (hc30 mRe) (hc31 mMa) (hc32 mMy) (hc33 mPm) (hc34 mFy) (hc35 mFa) (hc36 mFr) (hc37 mFo) (hc38 mRt) (hc39 mRm) (hc40 mTt) (hc41 mTi) (hc42 mPl) (hc43 mVr) (hc44 mVf) (hc45 mVc) (hc46 mAr) (hc47 mTc) (hc48 mFt) (hc49 mGo) dyn, 0, 0)) rfl (fun h50 => ?_) (fun h50 => ?_)
    ·
      have h50 := qT_ne (cx := (mFy (f).toNatClampNeg).toInt) (cy := 0) rfl (by decide) h50
      refine pm_go (g := (195, _, [.int (-11)], _, 0, 0)) rfl ?_
      refine pm_ret rfl (k0 _ _ _ _ _ _ ?_ ?_)
      rotate_left
      · omega
      exact Or.inr (Or.inr (Or.inr (Or.inl ⟨by omega, rfl, Or.inr (Or.inl ⟨by assumption, h42.mp (by omega), rfl, Or.inr ⟨by omega, rfl⟩⟩)⟩)))
    have h50 := qF_ne (cx := (mFy (f).toNatClampNeg).toInt) (cy := 0) rfl (by decide) h50
    refine pm_go (g := (190, _, [.int 99], _, 0, 0)) rfl ?_
    refine pm_go (g := (195, _, [.int 99], _, 0, 0)) rfl ?_
    refine pm_ret rfl (k0 _ _ _ _ _ _ ?_ ?_)
    rotate_left
    · omega
    exact Or.inr (Or.inr (Or.inr (Or.inl ⟨by omega, rfl, Or.inr (Or.inl ⟨by assumption, h42.mp (by omega), rfl, Or.inl ⟨by omega, rfl⟩⟩)⟩)))
  refine pm_goE (g := (205, [(4, .int (mRm (r).toNatClampNeg)), (3, .int (mRt (r).toNatClampNeg)), (0, .ref 25), (1, .int r), (2, .int f)], [], hq g c1 c2 c3 c4 c5 c6 c7 c8 c9 c10 c11 c12 c13 c14 c15 c16 c17 c18 c19 c20 c21 c22 c23 c24 (hc25 mTy mTm mMn mFn mRn mTn mVn mLr mTr mFl mFm mFp 0 0 mEn) (hc26 mPa) (hc27 mTo) (hc28 mOt) (hc29 mNa) (hc30 mRe) (hc31 mMa) (hc32 mMy) (hc33 mPm) (hc34 mFy) (hc35 mFa) (hc36 mFr) (hc37 mFo) (hc38 mRt) (hc39 mRm) (hc40 mTt) (hc41 mTi) (hc42 mPl) (hc43 mVr) (hc44 mVf) (hc45 mVc) (hc46 mAr) (hc47 mTc) (hc48 mFt) (hc49 mGo) dyn, 0, 0)) (pm_swO (by decide) rfl (by omega)) ?_
  refine pm_go (g := (206, _, [.ref 25], _, 0, 0)) rfl ?_
  refine pm_go (g := (209, _, [.ref 34], _, 0, 0)) rfl ?_
  refine pm_go (g := (210, _, [.int f, .ref 34], _, 0, 0)) rfl ?_
  refine pm_sd (g := (211, _, [.int (mFy (f).toNatClampNeg)], _, 0, 0)) rfl (pm_inI (by omega) (by omega)) ?_
  refine pm_go (g := (212, _, [.int 1, .int (mFy (f).toNatClampNeg)], _, 0, 0)) rfl ?_
  refine pm_if2 (g := (237, [(4, .int (mRm (r).toNatClampNeg)), (3, .int (mRt (r).toNatClampNeg)), (0, .ref 25), (1, .int r), (2, .int f)], [], hq g c1 c2 c3 c4 c5 c6 c7 c8 c9 c10 c11 c12 c13 c14 c15 c16 c17 c18 c19 c20 c21 c22 c23 c24 (hc25 mTy mTm mMn mFn mRn mTn mVn mLr mTr mFl mFm mFp 0 0 mEn) (hc26 mPa) (hc27 mTo) (hc28 mOt) (hc29 mNa) (hc30 mRe) (hc31 mMa) (hc32 mMy) (hc33 mPm) (hc34 mFy) (hc35 mFa) (hc36 mFr) (hc37 mFo) (hc38 mRt) (hc39 mRm) (hc40 mTt) (hc41 mTi) (hc42 mPl) (hc43 mVr) (hc44 mVf) (hc45 mVc) (hc46 mAr) (hc47 mTc) (hc48 mFt) (hc49 mGo) dyn, 0, 0)) (h := (215, [(4, .int (mRm (r).toNatClampNeg)), (3, .int (mRt (r).toNatClampNeg)), (0, .ref 25), (1, .int r), (2, .int f)], [], hq g c1 c2 c3 c4 c5 c6 c7 c8 c9 c10 c11 c12 c13 c14 c15 c16 c17 c18 c19 c20 c21 c22 c23 c24 (hc25 mTy mTm mMn mFn mRn mTn mVn mLr mTr mFl mFm mFp 0 0 mEn) (hc26 mPa) (hc27 mTo) (hc28 mOt) (hc29 mNa) (hc30 mRe) (hc31 mMa) (hc32 mMy) (hc33 mPm) (hc34 mFy) (hc35 mFa) (hc36 mFr) (hc37 mFo) (hc38 mRt) (hc39 mRm) (hc40 mTt) (hc41 mTi) (hc42 mPl) (hc43 mVr) (hc44 mVf) (hc45 mVc) (hc46 mAr) (hc47 mTc) (hc48 mFt) (hc49 mGo) dyn, 0, 0)) rfl (fun h51 => ?_) (fun h51 => ?_)
  ·
    have h51 := qT_ne (cx := (mFy (f).toNatClampNeg).toInt) (cy := 1) rfl (by decide) h51
    refine pm_go (g := (239, _, [.int (-11)], _, 0, 0)) rfl ?_
    refine pm_ret rfl (k0 _ _ _ _ _ _ ?_ ?_)
    rotate_left
    · omega
    exact Or.inr (Or.inr (Or.inr (Or.inr ⟨by omega, rfl, rfl, Or.inr ⟨by rintro ⟨q1, q2⟩; first | omega | contradiction, rfl⟩⟩)))
  have h51 := qF_ne (cx := (mFy (f).toNatClampNeg).toInt) (cy := 1) rfl (by decide) h51
  refine pm_go (g := (216, _, [.ref 25], _, 0, 0)) rfl ?_
  refine pm_go (g := (217, _, [.ref 25, .ref 25], _, 0, 0)) rfl ?_
  refine pm_go (g := (220, _, [.ref 35, .ref 25], _, 0, 0)) rfl ?_
  refine pm_go (g := (221, _, [.int 3, .ref 35, .ref 25], _, 0, 0)) rfl ?_
  refine pm_go (g := (222, _, [.int f, .int 3, .ref 35, .ref 25], _, 0, 0)) rfl ?_
  refine pm_go (g := (223, _, [.int (3 * f), .ref 35, .ref 25], _, 0, 0)) rfl ?_
  try have h52 : (3 * f).toInt = 3 * (f).toInt := iMul (x := 3) (y := (f).toInt) (by decide) rfl (by omega) (by omega)
  refine pm_sd (g := (224, _, [.int (mFa (3 * f).toNatClampNeg), .ref 25], _, 0, 0)) rfl (pm_inI (by omega) (by omega)) ?_
  refine pm_go (g := (226, _, [.int 10, .int (mFa (3 * f).toNatClampNeg), .ref 25], _, 0, 0)) rfl ?_
  refine pm_callD (z := 133) (as := [.ref 25, .int (mFa (3 * f).toNatClampNeg), .int 10]) (rest := []) rfl ?_
  have h53 : (10 : Int32).toInt = 10 := by decide
  have h54 : (0 : Int32).toInt = 0 := by decide
  refine w_X12_isLoose (mFa (3 * f).toNatClampNeg) 10 (by assumption) (fun h55 => ?_) (fun h56 => ?_)
  ·
    show pm_WP 157 (229, [(4, .int (mRm (r).toNatClampNeg)), (3, .int (mRt (r).toNatClampNeg)), (0, .ref 25), (1, .int r), (2, .int f)], [.int 1], _, 0, 0) _
    refine pm_brF (h := (232, [(4, .int (mRm (r).toNatClampNeg)), (3, .int (mRt (r).toNatClampNeg)), (0, .ref 25), (1, .int r), (2, .int f)], [], hq g c1 c2 c3 c4 c5 c6 c7 c8 c9 c10 c11 c12 c13 c14 c15 c16 c17 c18 c19 c20 c21 c22 c23 c24 (hc25 mTy mTm mMn mFn mRn mTn mVn mLr mTr mFl mFm mFp 0 0 mEn) (hc26 mPa) (hc27 mTo) (hc28 mOt) (hc29 mNa) (hc30 mRe) (hc31 mMa) (hc32 mMy) (hc33 mPm) (hc34 mFy) (hc35 mFa) (hc36 mFr) (hc37 mFo) (hc38 mRt) (hc39 mRm) (hc40 mTt) (hc41 mTi) (hc42 mPl) (hc43 mVr) (hc44 mVf) (hc45 mVc) (hc46 mAr) (hc47 mTc) (hc48 mFt) (hc49 mGo) dyn, 0, 0)) rfl ?_
    refine pm_go (g := (234, _, [.int 99], _, 0, 0)) rfl ?_
    refine pm_go (g := (239, _, [.int 99], _, 0, 0)) rfl ?_
    refine pm_ret rfl (k0 _ _ _ _ _ _ ?_ ?_)
    rotate_left
    · omega
    exact Or.inr (Or.inr (Or.inr (Or.inr ⟨by omega, rfl, rfl, Or.inl ⟨⟨by omega, by assumption⟩, rfl⟩⟩)))
  show pm_WP 157 (229, [(4, .int (mRm (r).toNatClampNeg)), (3, .int (mRt (r).toNatClampNeg)), (0, .ref 25), (1, .int r), (2, .int f)], [.int 0], hq g c1 c2 c3 c4 c5 c6 c7 c8 c9 c10 c11 c12 c13 c14 c15 c16 c17 c18 c19 c20 c21 c22 c23 c24 (hc25 mTy mTm mMn mFn mRn mTn mVn mLr mTr mFl mFm mFp 0 0 mEn) (hc26 mPa) (hc27 mTo) (hc28 mOt) (hc29 mNa) (hc30 mRe) (hc31 mMa) (hc32 mMy) (hc33 mPm) (hc34 mFy) (hc35 mFa) (hc36 mFr) (hc37 mFo) (hc38 mRt) (hc39 mRm) (hc40 mTt) (hc41 mTi) (hc42 mPl) (hc43 mVr) (hc44 mVf) (hc45 mVc) (hc46 mAr) (hc47 mTc) (hc48 mFt) (hc49 mGo) dyn, 0, 0) _
  refine pm_brT (g := (237, [(4, .int (mRm (r).toNatClampNeg)), (3, .int (mRt (r).toNatClampNeg)), (0, .ref 25), (1, .int r), (2, .int f)], [], hq g c1 c2 c3 c4 c5 c6 c7 c8 c9 c10 c11 c12 c13 c14 c15 c16 c17 c18 c19 c20 c21 c22 c23 c24 (hc25 mTy mTm mMn mFn mRn mTn mVn mLr mTr mFl mFm mFp 0 0 mEn) (hc26 mPa) (hc27 mTo) (hc28 mOt) (hc29 mNa) (hc30 mRe) (hc31 mMa) (hc32 mMy) (hc33 mPm) (hc34 mFy) (hc35 mFa) (hc36 mFr) (hc37 mFo) (hc38 mRt) (hc39 mRm) (hc40 mTt) (hc41 mTi) (hc42 mPl) (hc43 mVr) (hc44 mVf) (hc45 mVc) (hc46 mAr) (hc47 mTc) (hc48 mFt) (hc49 mGo) dyn, 0, 0)) rfl ?_
  refine pm_go (g := (239, _, [.int (-11)], _, 0, 0)) rfl ?_
  refine pm_ret rfl (k0 _ _ _ _ _ _ ?_ ?_)
  rotate_left
  · omega
  exact Or.inr (Or.inr (Or.inr (Or.inr ⟨by omega, rfl, rfl, Or.inr ⟨by rintro ⟨q1, q2⟩; first | omega | contradiction, rfl⟩⟩)))
