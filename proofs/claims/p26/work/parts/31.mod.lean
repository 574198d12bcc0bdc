section
def S1M (pa ot na my pm ma fa fy : Nat → Int32) (mn t w f p : Int32) : Prop := ∃ j : Nat, (j : Int) < mn.toInt ∧ (p.toInt ≠ 0 ∧ fitM pa ot na my pm ma fa fy mn t w f 0 p j) ∧ (ma j &&& 1).toInt ≠ 0
def A2M (pa ot na my pm ma fa fy : Nat → Int32) (mn t w f p : Int32) : Prop := ∀ j : Nat, (j : Int) < mn.toInt → (c2M pa fa fy t f ∧ p.toInt ≠ 0 ∧ fitM pa ot na my pm ma fa fy mn t w f 1 p j) → (ma j &&& 1).toInt ≠ 0
/-- the reference's ofBoth, from what the searches gave -/
def boM (ma : Nat → Int32) (s1 a2 : Prop) (p1 r1 p2 r2 sc mp r : Int32) : Prop :=
  ((0 ≤ r1.toInt ∧ (ma r1.toNatClampNeg &&& 1).toInt ≠ 0 ∧ a2) ∧ r = r1 ∧ sc = 0 ∧ mp = p1) ∨
  (¬ (0 ≤ r1.toInt ∧ (ma r1.toNatClampNeg &&& 1).toInt ≠ 0 ∧ a2) ∧ (0 ≤ r2.toInt ∧ ¬ (ma r2.toNatClampNeg &&& 1).toInt ≠ 0 ∧ ¬ s1) ∧ r = r2 ∧ sc = 1 ∧ mp = p2) ∨
  (¬ (0 ≤ r1.toInt ∧ (ma r1.toNatClampNeg &&& 1).toInt ≠ 0 ∧ a2) ∧ ¬ (0 ≤ r2.toInt ∧ ¬ (ma r2.toNatClampNeg &&& 1).toInt ≠ 0 ∧ ¬ s1) ∧ sc = 0 ∧ mp = p1 ∧ (p1.toInt = 0 ∧ p2.toInt = 0) ∧ r = -11) ∨
  (¬ (0 ≤ r1.toInt ∧ (ma r1.toNatClampNeg &&& 1).toInt ≠ 0 ∧ a2) ∧ ¬ (0 ≤ r2.toInt ∧ ¬ (ma r2.toNatClampNeg &&& 1).toInt ≠ 0 ∧ ¬ s1) ∧ sc = 0 ∧ mp = p1 ∧ ¬ (p1.toInt = 0 ∧ p2.toInt = 0) ∧ (¬ s1 ∧ a2) ∧ r = -13) ∨
  (¬ (0 ≤ r1.toInt ∧ (ma r1.toNatClampNeg &&& 1).toInt ≠ 0 ∧ a2) ∧ ¬ (0 ≤ r2.toInt ∧ ¬ (ma r2.toNatClampNeg &&& 1).toInt ≠ 0 ∧ ¬ s1) ∧ sc = 0 ∧ mp = p1 ∧ ¬ (p1.toInt = 0 ∧ p2.toInt = 0) ∧ ¬ (¬ s1 ∧ a2) ∧ r = -12)
def bothM (pa ot na my pm ma fa fy : Nat → Int32) (mn t w f sc mp r : Int32) : Prop := ∃ p1 r1 p2 r2 : Int32, srM pa ot na my pm ma fa fy mn t w f 0 p1 r1 ∧ s2M pa ot na my pm ma fa fy mn t w f p2 r2 ∧ boM ma (S1M pa ot na my pm ma fa fy mn t w f p1) (A2M pa ot na my pm ma fa fy mn t w f p2) p1 r1 p2 r2 sc mp r
theorem sr_fit {pa ot na my pm ma fa fy : Nat → Int32} {mn t w f s p r : Int32} (h : srM pa ot na my pm ma fa fy mn t w f s p r) (hp : p.toInt ≠ 0) : ¬ nfM pa ot na my pm ma fa fy mn t w f s p := by
  rcases h with ⟨h1, _⟩ | ⟨h1, h2, _⟩ | ⟨h1, _, h2, _⟩ | ⟨h1, _, _, h2, _⟩
  · exact absurd (by rw [h1]; decide) hp
  · rw [h1]; exact h2
  · rw [h1]; exact h2
  · rw [h1]; exact h2
theorem bo_s1 {pa ot na my pm ma fa fy ft : Nat → Int32} {mn t w f p : Int32} (hn : 0 ≤ mn.toInt) (h : ftM pa ot na my pm ma fa fy mn t w f 0 p ft) {c : Int32} (hc : c.toInt = cT ft ma mn.toNatClampNeg) : c.toInt = 0 ↔ ¬ S1M pa ot na my pm ma fa fy mn t w f p := by
  have hx := xN hn
  rw [hc, cT_0]
  constructor
  · rintro q ⟨j, q1, q2, q3⟩
    exact q j (by omega) ⟨(h j q1).mpr q2, q3⟩
  · intro q j q1 q2
    exact q ⟨j, by omega, (h j (by omega)).mp q2.1, q2.2⟩
theorem bo_a2 {pa ot na my pm ma fa fy ft : Nat → Int32} {mn t w f p : Int32} (hn : 0 ≤ mn.toInt) (h : f2M pa ot na my pm ma fa fy mn t w f p ft) {c d : Int32} (hc : c.toInt = cT ft ma mn.toNatClampNeg) (hd : d.toInt = cF ft mn.toNatClampNeg) : c.toInt = d.toInt ↔ A2M pa ot na my pm ma fa fy mn t w f p := by
  have hx := xN hn
  rw [hc, hd, cT_all]
  exact ⟨fun q j q1 q2 => q j (by omega) ((h j q1).mpr q2), fun q j q1 q2 => q j (by omega) ((h j (by omega)).mp q2)⟩
theorem bo_p1 {pa ot na my pm ma fa fy ft : Nat → Int32} {mn t w f s p r : Int32} (hn : 0 ≤ mn.toInt) (h : ftM pa ot na my pm ma fa fy mn t w f s p ft) (hr : srM pa ot na my pm ma fa fy mn t w f s p r) {d : Int32} (hd : d.toInt = cF ft mn.toNatClampNeg) : d.toInt = 0 ↔ p.toInt = 0 := by
  have hx := xN hn
  rw [hd, cF_0]
  constructor
  · intro q
    by_cases e : p.toInt = 0
    · exact e
    · exact absurd (fun j q1 q2 => (h j q1).mpr ⟨e, q2⟩ (q j (by omega))) (sr_fit hr e)
  · intro q j q1
    by_cases e : (ft j).toInt = 0
    · exact e
    · exact absurd q ((h j (by omega)).mp e).1
theorem bo_p2 {pa ot na my pm ma fa fy ft : Nat → Int32} {mn t w f p r : Int32} (hn : 0 ≤ mn.toInt) (h : f2M pa ot na my pm ma fa fy mn t w f p ft) (hr : s2M pa ot na my pm ma fa fy mn t w f p r) {d : Int32} (hd : d.toInt = cF ft mn.toNatClampNeg) : d.toInt = 0 ↔ p.toInt = 0 := by
  have hx := xN hn
  rw [hd, cF_0]
  constructor
  · intro q
    by_cases e : p.toInt = 0
    · exact e
    · rcases hr with ⟨h1, h2⟩ | ⟨h1, h2, _⟩
      · exact absurd (fun j q1 q2 => (h j q1).mpr ⟨h1, e, q2⟩ (q j (by omega))) (sr_fit h2 e)
      · exact absurd (by rw [h2]; decide) e
  · intro q j q1
    by_cases e : (ft j).toInt = 0
    · exact e
    · exact absurd q ((h j (by omega)).mp e).2.1
set_option maxRecDepth 100000 in
set_option maxHeartbeats 4000000 in
theorem w_X12_ofBoth {g c1 c2 c3 c4 c5 c6 c7 c8 c9 c10 c11 c12 c13 c14 c15 c16 c17 c18 c19 c20 c21 c22 c23 c24 : pm_C} {dyn : pm_H} {mTy : Int32} {mPa : Nat → Int32} {mTo : Nat → Int32} {mTm : Int32} {mMn : Int32} {mOt : Nat → Int32} {mNa : Nat → Int32} {mRe : Nat → Int32} {mMa : Nat → Int32} {mMy : Nat → Int32} {mPm : Nat → Int32} {mFn : Int32} {mFy : Nat → Int32} {mFa : Nat → Int32} {mFr : Nat → Int32} {mRn : Int32} {mFo : Nat → Int32} {mRt : Nat → Int32} {mRm : Nat → Int32} {mTn : Int32} {mTt : Nat → Int32} {mTi : Nat → Int32} {mPl : Nat → Int32} {mVn : Int32} {mVr : Nat → Int32} {mVf : Nat → Int32} {mVc : Nat → Int32} {mAr : Nat → Int32} {mLr : Int32} {mTc : Nat → Int32} {mTr : Int32} {mFl : Int32} {mFt : Nat → Int32} {mFm : Int32} {mFp : Int32} {mSc : Int32} {mMp : Int32} {mEn : Int32} {mGo : Nat → Int32} {Q : pm_Q} (t : Int32) (w : Int32) (f : Int32) (p0 : 0 ≤ f.toInt ∧ f.toInt < 10) (p1 : 0 ≤ (mFy f.toNatClampNeg).toInt ∧ (mFy f.toNatClampNeg).toInt ≤ 3) (p2 : paD mPa) (p3 : myD mMy) (p4 : vrD mMa mMy) (p5 : 0 ≤ mMn.toInt ∧ mMn.toInt ≤ 40) (k0 : ∀ (f9 : Nat → Int32), ∀ (m9 : Int32), ∀ (q9 : Int32), ∀ (p9 : Int32), ∀ (r9 : Int32), (bothM mPa mOt mNa mMy mPm mMa mFa mFy mMn t w f 0 p9 r9) → ((-15 ≤ r9.toInt ∧ r9.toInt < mMn.toInt) ∧ (0 ≤ p9.toInt ∧ p9.toInt ≤ 3)) → Q (some (.int r9)) (hq g c1 c2 c3 c4 c5 c6 c7 c8 c9 c10 c11 c12 c13 c14 c15 c16 c17 c18 c19 c20 c21 c22 c23 c24 (hc25 mTy mTm mMn mFn mRn mTn mVn mLr mTr mFl m9 q9 mSc p9 mEn) (hc26 mPa) (hc27 mTo) (hc28 mOt) (hc29 mNa) (hc30 mRe) (hc31 mMa) (hc32 mMy) (hc33 mPm) (hc34 mFy) (hc35 mFa) (hc36 mFr) (hc37 mFo) (hc38 mRt) (hc39 mRm) (hc40 mTt) (hc41 mTi) (hc42 mPl) (hc43 mVr) (hc44 mVf) (hc45 mVc) (hc46 mAr) (hc47 mTc) (hc48 f9) (hc49 mGo) dyn)) (k1 : ∀ (f9 : Nat → Int32), ∀ (m9 : Int32), ∀ (q9 : Int32), ∀ (p9 : Int32), ∀ (r9 : Int32), (bothM mPa mOt mNa mMy mPm mMa mFa mFy mMn t w f 1 p9 r9) → ((-15 ≤ r9.toInt ∧ r9.toInt < mMn.toInt) ∧ (0 ≤ p9.toInt ∧ p9.toInt ≤ 3)) → Q (some (.int r9)) (hq g c1 c2 c3 c4 c5 c6 c7 c8 c9 c10 c11 c12 c13 c14 c15 c16 c17 c18 c19 c20 c21 c22 c23 c24 (hc25 mTy mTm mMn mFn mRn mTn mVn mLr mTr mFl m9 q9 1 p9 mEn) (hc26 mPa) (hc27 mTo) (hc28 mOt) (hc29 mNa) (hc30 mRe) (hc31 mMa) (hc32 mMy) (hc33 mPm) (hc34 mFy) (hc35 mFa) (hc36 mFr) (hc37 mFo) (hc38 mRt) (hc39 mRm) (hc40 mTt) (hc41 mTi) (hc42 mPl) (hc43 mVr) (hc44 mVf) (hc45 mVc) (hc46 mAr) (hc47 mTc) (hc48 f9) (hc49 mGo) dyn)) : pm_WP 155 (0, [(0, .ref 25), (1, .int t), (2, .int w), (3, .int f)], [], hq g c1 c2 c3 c4 c5 c6 c7 c8 c9 c10 c11 c12 c13 c14 c15 c16 c17 c18 c19 c20 c21 c22 c23 c24 (hc25 mTy mTm mMn mFn mRn mTn mVn mLr mTr mFl mFm mFp mSc mMp mEn) (hc26 mPa) (hc27 mTo) (hc28 mOt) (hc29 mNa) (hc30 mRe) (hc31 mMa) (hc32 mMy) (hc33 mPm) (hc34 mFy) (hc35 mFa) (hc36 mFr) (hc37 mFo) (hc38 mRt) (hc39 mRm) (hc40 mTt) (hc41 mTi) (hc42 mPl) (hc43 mVr) (hc44 mVf) (hc45 mVc) (hc46 mAr) (hc47 mTc) (hc48 mFt) (hc49 mGo) dyn, 0, 0) Q := by
  have z0 : (0 : Int32).toInt = 0 := by decide
  have z1 : (1 : Int32).toInt = 1 := by decide
  have z_11 : (-11 : Int32).toInt = -11 := by decide
  have z_12 : (-12 : Int32).toInt = -12 := by decide
  have z_13 : (-13 : Int32).toInt = -13 := by decide
  have z_14 : (-14 : Int32).toInt = -14 := by decide
  have z_15 : (-15 : Int32).toInt = -15 := by decide
  have z99 : (99 : Int32).toInt = 99 := by decide
  refine pm_go (g := (1, [(0, .ref 25), (1, .int t), (2, .int w), (3, .int f)], [.ref 25], hq g c1 c2 c3 c4 c5 c6 c7 c8 c9 c10 c11 c12 c13 c14 c15 c16 c17 c18 c19 c20 c21 c22 c23 c24 (hc25 mTy mTm mMn mFn mRn mTn mVn mLr mTr mFl mFm mFp mSc mMp mEn) (hc26 mPa) (hc27 mTo) (hc28 mOt) (hc29 mNa) (hc30 mRe) (hc31 mMa) (hc32 mMy) (hc33 mPm) (hc34 mFy) (hc35 mFa) (hc36 mFr) (hc37 mFo) (hc38 mRt) (hc39 mRm) (hc40 mTt) (hc41 mTi) (hc42 mPl) (hc43 mVr) (hc44 mVf) (hc45 mVc) (hc46 mAr) (hc47 mTc) (hc48 mFt) (hc49 mGo) dyn, 0, 0)) rfl ?_
  refine pm_go (g := (2, _, [.int t, .ref 25], _, 0, 0)) rfl ?_
  refine pm_go (g := (3, _, [.int w, .int t, .ref 25], _, 0, 0)) rfl ?_
  refine pm_go (g := (4, _, [.int f, .int w, .int t, .ref 25], _, 0, 0)) rfl ?_
  refine pm_go (g := (5, _, [.int 0, .int f, .int w, .int t, .ref 25], _, 0, 0)) rfl ?_
  refine pm_callD (z := 150) (as := [.ref 25, .int t, .int w, .int f, .int 0]) (rest := []) rfl ?_
  have h1 : (0 : Int32).toInt = 0 := by decide
  refine w_X12_searched t w f 0 (by omega) (by omega) (by omega) (by assumption) (by assumption) (by assumption) (by omega) (fun v5_f9 v5_m9 v5_p9 v5_r9 h2 h3 h4 h5 => ?_)
  show pm_WP 155 (8, [(0, .ref 25), (1, .int t), (2, .int w), (3, .int f)], [.int v5_r9], _, 0, 0) _
  refine pm_go (g := (10, [(4, .int v5_r9), (0, .ref 25), (1, .int t), (2, .int w), (3, .int f)], [], _, 0, 0)) rfl ?_
  refine pm_go (g := (11, _, [.ref 25], _, 0, 0)) rfl ?_
  refine pm_go (g := (14, _, [.int v5_m9], _, 0, 0)) rfl ?_
  refine pm_go (g := (16, [(5, .int v5_m9), (4, .int v5_r9), (0, .ref 25), (1, .int t), (2, .int w), (3, .int f)], [], _, 0, 0)) rfl ?_
  refine pm_go (g := (17, _, [.ref 25], _, 0, 0)) rfl ?_
  refine pm_callD (z := 153) (as := [.ref 25]) (rest := []) rfl ?_
  refine w_X12_statics  (by omega) (fun v7_r9 h7 => ?_)
  show pm_WP 155 (20, [(5, .int v5_m9), (4, .int v5_r9), (0, .ref 25), (1, .int t), (2, .int w), (3, .int f)], [.int v7_r9], _, 0, 0) _
  refine pm_go (g := (22, [(6, .int v7_r9), (5, .int v5_m9), (4, .int v5_r9), (0, .ref 25), (1, .int t), (2, .int w), (3, .int f)], [], _, 0, 0)) rfl ?_
  refine pm_go (g := (23, _, [.ref 25], _, 0, 0)) rfl ?_
  refine pm_go (g := (24, _, [.ref 25, .ref 25], _, 0, 0)) rfl ?_
  refine pm_go (g := (27, _, [.int v5_p9, .ref 25], _, 0, 0)) rfl ?_
  refine pm_go (g := (30, _, [], hq g c1 c2 c3 c4 c5 c6 c7 c8 c9 c10 c11 c12 c13 c14 c15 c16 c17 c18 c19 c20 c21 c22 c23 c24 (hc25 mTy mTm mMn mFn mRn mTn mVn mLr mTr mFl v5_m9 v5_p9 mSc v5_p9 mEn) (hc26 mPa) (hc27 mTo) (hc28 mOt) (hc29 mNa) (hc30 mRe) (hc31 mMa) (hc32 mMy) (hc33 mPm) (hc34 mFy) (hc35 mFa) (hc36 mFr) (hc37 mFo) (hc38 mRt) (hc39 mRm) (hc40 mTt) (hc41 mTi) (hc42 mPl) (hc43 mVr) (hc44 mVf) (hc45 mVc) (hc46 mAr) (hc47 mTc) (hc48 v5_f9) (hc49 mGo) dyn, 0, 0)) rfl ?_
  refine pm_go (g := (31, _, [.ref 25], _, 0, 0)) rfl ?_
  refine pm_go (g := (32, _, [.int t, .ref 25], _, 0, 0)) rfl ?_
  refine pm_go (g := (33, _, [.int w, .int t, .ref 25], _, 0, 0)) rfl ?_
  refine pm_go (g := (34, _, [.int f, .int w, .int t, .ref 25], _, 0, 0)) rfl ?_
  refine pm_callD (z := 152) (as := [.ref 25, .int t, .int w, .int f]) (rest := []) rfl ?_
  refine w_X12_secondSearched t w f (by omega) (by omega) (by assumption) (by assumption) (by assumption) (by omega) (fun v12_f9 v12_m9 v12_p9 v12_r9 h9 h10 h11 h12 => ?_)
  show pm_WP 155 (37, [(6, .int v7_r9), (5, .int v5_m9), (4, .int v5_r9), (0, .ref 25), (1, .int t), (2, .int w), (3, .int f)], [.int v12_r9], _, 0, 0) _
  refine pm_go (g := (39, [(7, .int v12_r9), (6, .int v7_r9), (5, .int v5_m9), (4, .int v5_r9), (0, .ref 25), (1, .int t), (2, .int w), (3, .int f)], [], _, 0, 0)) rfl ?_
  refine pm_go (g := (40, _, [.ref 25], _, 0, 0)) rfl ?_
  refine pm_callD (z := 153) (as := [.ref 25]) (rest := []) rfl ?_
  refine w_X12_statics  (by omega) (fun v14_r9 h14 => ?_)
  show pm_WP 155 (43, [(7, .int v12_r9), (6, .int v7_r9), (5, .int v5_m9), (4, .int v5_r9), (0, .ref 25), (1, .int t), (2, .int w), (3, .int f)], [.int v14_r9], _, 0, 0) _
  refine pm_go (g := (45, [(8, .int v14_r9), (7, .int v12_r9), (6, .int v7_r9), (5, .int v5_m9), (4, .int v5_r9), (0, .ref 25), (1, .int t), (2, .int w), (3, .int f)], [], _, 0, 0)) rfl ?_
  have hS1 := bo_s1 p5.1 h3 h7
  have hA2 := bo_a2 p5.1 h10 h14 h11
  have hp1 := bo_p1 p5.1 h3 h2 h4
  have hp2 := bo_p2 p5.1 h10 h9 h11
  refine pm_go (g := (47, _, [.int v5_r9], _, 0, 0)) rfl ?_
  refine pm_if2 (g := (72, [(8, .int v14_r9), (7, .int v12_r9), (6, .int v7_r9), (5, .int v5_m9), (4, .int v5_r9), (0, .ref 25), (1, .int t), (2, .int w), (3, .int f)], [], hq g c1 c2 c3 c4 c5 c6 c7 c8 c9 c10 c11 c12 c13 c14 c15 c16 c17 c18 c19 c20 c21 c22 c23 c24 (hc25 mTy mTm mMn mFn mRn mTn mVn mLr mTr mFl v12_m9 v12_p9 mSc v5_p9 mEn) (hc26 mPa) (hc27 mTo) (hc28 mOt) (hc29 mNa) (hc30 mRe) (hc31 mMa) (hc32 mMy) (hc33 mPm) (hc34 mFy) (hc35 mFa) (hc36 mFr) (hc37 mFo) (hc38 mRt) (hc39 mRm) (hc40 mTt) (hc41 mTi) (hc42 mPl) (hc43 mVr) (hc44 mVf) (hc45 mVc) (hc46 mAr) (hc47 mTc) (hc48 v12_f9) (hc49 mGo) dyn, 0, 0)) (h := (50, [(8, .int v14_r9), (7, .int v12_r9), (6, .int v7_r9), (5, .int v5_m9), (4, .int v5_r9), (0, .ref 25), (1, .int t), (2, .int w), (3, .int f)], [], hq g c1 c2 c3 c4 c5 c6 c7 c8 c9 c10 c11 c12 c13 c14 c15 c16 c17 c18 c19 c20 c21 c22 c23 c24 (hc25 mTy mTm mMn mFn mRn mTn mVn mLr mTr mFl v12_m9 v12_p9 mSc v5_p9 mEn) (hc26 mPa) (hc27 mTo) (hc28 mOt) (hc29 mNa) (hc30 mRe) (hc31 mMa) (hc32 mMy) (hc33 mPm) (hc34 mFy) (hc35 mFa) (hc36 mFr) (hc37 mFo) (hc38 mRt) (hc39 mRm) (hc40 mTt) (hc41 mTi) (hc42 mPl) (hc43 mVr) (hc44 mVf) (hc45 mVc) (hc46 mAr) (hc47 mTc) (hc48 v12_f9) (hc49 mGo) dyn, 0, 0)) rfl (fun h16 => ?_) (fun h16 => ?_)
  ·
    have h16 := qT_lt (cx := (v5_r9).toInt) (cy := 0) rfl (by decide) h16
    refine pm_go (g := (74, _, [.int v12_r9], _, 0, 0)) rfl ?_
    refine pm_if2 (g := (108, [(8, .int v14_r9), (7, .int v12_r9), (6, .int v7_r9), (5, .int v5_m9), (4, .int v5_r9), (0, .ref 25), (1, .int t), (2, .int w), (3, .int f)], [], hq g c1 c2 c3 c4 c5 c6 c7 c8 c9 c10 c11 c12 c13 c14 c15 c16 c17 c18 c19 c20 c21 c22 c23 c24 (hc25 mTy mTm mMn mFn mRn mTn mVn mLr mTr mFl v12_m9 v12_p9 mSc v5_p9 mEn) (hc26 mPa) (hc27 mTo) (hc28 mOt) (hc29 mNa) (hc30 mRe) (hc31 mMa) (hc32 mMy) (hc33 mPm) (hc34 mFy) (hc35 mFa) (hc36 mFr) (hc37 mFo) (hc38 mRt) (hc39 mRm) (hc40 mTt) (hc41 mTi) (hc42 mPl) (hc43 mVr) (hc44 mVf) (hc45 mVc) (hc46 mAr) (hc47 mTc) (hc48 v12_f9) (hc49 mGo) dyn, 0, 0)) (h := (77, [(8, .int v14_r9), (7, .int v12_r9), (6, .int v7_r9), (5, .int v5_m9), (4, .int v5_r9), (0, .ref 25), (1, .int t), (2, .int w), (3, .int f)], [], hq g c1 c2 c3 c4 c5 c6 c7 c8 c9 c10 c11 c12 c13 c14 c15 c16 c17 c18 c19 c20 c21 c22 c23 c24 (hc25 mTy mTm mMn mFn mRn mTn mVn mLr mTr mFl v12_m9 v12_p9 mSc v5_p9 mEn) (hc26 mPa) (hc27 mTo) (hc28 mOt) (hc29 mNa) (hc30 mRe) (hc31 mMa) (hc32 mMy) (hc33 mPm) (hc34 mFy) (hc35 mFa) (hc36 mFr) (hc37 mFo) (hc38 mRt) (hc39 mRm) (hc40 mTt) (hc41 mTi) (hc42 mPl) (hc43 mVr) (hc44 mVf) (hc45 mVc) (hc46 mAr) (hc47 mTc) (hc48 v12_f9) (hc49 mGo) dyn, 0, 0)) rfl (fun h17 => ?_) (fun h17 => ?_)
    ·
      have h17 := qT_lt (cx := (v12_r9).toInt) (cy := 0) rfl (by decide) h17
      refine pm_go (g := (110, _, [.int v5_m9], _, 0, 0)) rfl ?_
      refine pm_if2 (g := (125, [(8, .int v14_r9), (7, .int v12_r9), (6, .int v7_r9), (5, .int v5_m9), (4, .int v5_r9), (0, .ref 25), (1, .int t), (2, .int w), (3, .int f)], [], hq g c1 c2 c3 c4 c5 c6 c7 c8 c9 c10 c11 c12 c13 c14 c15 c16 c17 c18 c19 c20 c21 c22 c23 c24 (hc25 mTy mTm mMn mFn mRn mTn mVn mLr mTr mFl v12_m9 v12_p9 mSc v5_p9 mEn) (hc26 mPa) (hc27 mTo) (hc28 mOt) (hc29 mNa) (hc30 mRe) (hc31 mMa) (hc32 mMy) (hc33 mPm) (hc34 mFy) (hc35 mFa) (hc36 mFr) (hc37 mFo) (hc38 mRt) (hc39 mRm) (hc40 mTt) (hc41 mTi) (hc42 mPl) (hc43 mVr) (hc44 mVf) (hc45 mVc) (hc46 mAr) (hc47 mTc) (hc48 v12_f9) (hc49 mGo) dyn, 0, 0)) (h := (113, [(8, .int v14_r9), (7, .int v12_r9), (6, .int v7_r9), (5, .int v5_m9), (4, .int v5_r9), (0, .ref 25), (1, .int t), (2, .int w), (3, .int f)], [], hq g c1 c2 c3 c4 c5 c6 c7 c8 c9 c10 c11 c12 c13 c14 c15 c16 c17 c18 c19 c20 c21 c22 c23 c24 (hc25 mTy mTm mMn mFn mRn mTn mVn mLr mTr mFl v12_m9 v12_p9 mSc v5_p9 mEn) (hc26 mPa) (hc27 mTo) (hc28 mOt) (hc29 mNa) (hc30 mRe) (hc31 mMa) (hc32 mMy) (hc33 mPm) (hc34 mFy) (hc35 mFa) (hc36 mFr) (hc37 mFo) (hc38 mRt) (hc39 mRm) (hc40 mTt) (hc41 mTi) (hc42 mPl) (hc43 mVr) (hc44 mVf) (hc45 mVc) (hc46 mAr) (hc47 mTc) (hc48 v12_f9) (hc49 mGo) dyn, 0, 0)) rfl (fun h18 => ?_) (fun h18 => ?_)
      ·
        have h18 := qT_ne (cx := (v5_m9).toInt) (cy := 0) rfl (by decide) h18
        refine pm_go (g := (127, _, [.int v7_r9], _, 0, 0)) rfl ?_
        refine pm_if2 (g := (144, [(8, .int v14_r9), (7, .int v12_r9), (6, .int v7_r9), (5, .int v5_m9), (4, .int v5_r9), (0, .ref 25), (1, .int t), (2, .int w), (3, .int f)], [], hq g c1 c2 c3 c4 c5 c6 c7 c8 c9 c10 c11 c12 c13 c14 c15 c16 c17 c18 c19 c20 c21 c22 c23 c24 (hc25 mTy mTm mMn mFn mRn mTn mVn mLr mTr mFl v12_m9 v12_p9 mSc v5_p9 mEn) (hc26 mPa) (hc27 mTo) (hc28 mOt) (hc29 mNa) (hc30 mRe) (hc31 mMa) (hc32 mMy) (hc33 mPm) (hc34 mFy) (hc35 mFa) (hc36 mFr) (hc37 mFo) (hc38 mRt) (hc39 mRm) (hc40 mTt) (hc41 mTi) (hc42 mPl) (hc43 mVr) (hc44 mVf) (hc45 mVc) (hc46 mAr) (hc47 mTc) (hc48 v12_f9) (hc49 mGo) dyn, 0, 0)) (h := (130, [(8, .int v14_r9), (7, .int v12_r9), (6, .int v7_r9), (5, .int v5_m9), (4, .int v5_r9), (0, .ref 25), (1, .int t), (2, .int w), (3, .int f)], [], hq g c1 c2 c3 c4 c5 c6 c7 c8 c9 c10 c11 c12 c13 c14 c15 c16 c17 c18 c19 c20 c21 c22 c23 c24 (hc25 mTy mTm mMn mFn mRn mTn mVn mLr mTr mFl v12_m9 v12_p9 mSc v5_p9 mEn) (hc26 mPa) (hc27 mTo) (hc28 mOt) (hc29 mNa) (hc30 mRe) (hc31 mMa) (hc32 mMy) (hc33 mPm) (hc34 mFy) (hc35 mFa) (hc36 mFr) (hc37 mFo) (hc38 mRt) (hc39 mRm) (hc40 mTt) (hc41 mTi) (hc42 mPl) (hc43 mVr) (hc44 mVf) (hc45 mVc) (hc46 mAr) (hc47 mTc) (hc48 v12_f9) (hc49 mGo) dyn, 0, 0)) rfl (fun h19 => ?_) (fun h19 => ?_)
        ·
          have h19 := qT_ne (cx := (v7_r9).toInt) (cy := 0) rfl (by decide) h19
          refine pm_go (g := (146, _, [.int (-12)], _, 0, 0)) rfl ?_
          refine pm_ret rfl (k0 _ _ _ _ _ ⟨_, _, _, _, h2, h9, ?_⟩ (by omega))
          exact Or.inr (Or.inr (Or.inr (Or.inr ⟨(fun ⟨a, b, c⟩ => by have c1 := hA2.mpr c; omega), (fun ⟨a, b, c⟩ => by have c1 := hS1.mpr c; omega), rfl, rfl, by omega, (fun ⟨a, b⟩ => by have c1 := hS1.mpr a; have c2 := hA2.mpr b; omega), rfl⟩)))
        have h19 := qF_ne (cx := (v7_r9).toInt) (cy := 0) rfl (by decide) h19
        refine pm_go (g := (132, _, [.int v14_r9], _, 0, 0)) rfl ?_
        refine pm_go (g := (133, _, [.ref 25, .int v14_r9], _, 0, 0)) rfl ?_
        refine pm_go (g := (136, _, [.int v12_m9, .int v14_r9], _, 0, 0)) rfl ?_
        refine pm_if2 (g := (144, [(8, .int v14_r9), (7, .int v12_r9), (6, .int v7_r9), (5, .int v5_m9), (4, .int v5_r9), (0, .ref 25), (1, .int t), (2, .int w), (3, .int f)], [], hq g c1 c2 c3 c4 c5 c6 c7 c8 c9 c10 c11 c12 c13 c14 c15 c16 c17 c18 c19 c20 c21 c22 c23 c24 (hc25 mTy mTm mMn mFn mRn mTn mVn mLr mTr mFl v12_m9 v12_p9 mSc v5_p9 mEn) (hc26 mPa) (hc27 mTo) (hc28 mOt) (hc29 mNa) (hc30 mRe) (hc31 mMa) (hc32 mMy) (hc33 mPm) (hc34 mFy) (hc35 mFa) (hc36 mFr) (hc37 mFo) (hc38 mRt) (hc39 mRm) (hc40 mTt) (hc41 mTi) (hc42 mPl) (hc43 mVr) (hc44 mVf) (hc45 mVc) (hc46 mAr) (hc47 mTc) (hc48 v12_f9) (hc49 mGo) dyn, 0, 0)) (h := (139, [(8, .int v14_r9), (7, .int v12_r9), (6, .int v7_r9), (5, .int v5_m9), (4, .int v5_r9), (0, .ref 25), (1, .int t), (2, .int w), (3, .int f)], [], hq g c1 c2 c3 c4 c5 c6 c7 c8 c9 c10 c11 c12 c13 c14 c15 c16 c17 c18 c19 c20 c21 c22 c23 c24 (hc25 mTy mTm mMn mFn mRn mTn mVn mLr mTr mFl v12_m9 v12_p9 mSc v5_p9 mEn) (hc26 mPa) (hc27 mTo) (hc28 mOt) (hc29 mNa) (hc30 mRe) (hc31 mMa) (hc32 mMy) (hc33 mPm) (hc34 mFy) (hc35 mFa) (hc36 mFr) (hc37 mFo) (hc38 mRt) (hc39 mRm) (hc40 mTt) (hc41 mTi) (hc42 mPl) (hc43 mVr) (hc44 mVf) (hc45 mVc) (hc46 mAr) (hc47 mTc) (hc48 v12_f9) (hc49 mGo) dyn, 0, 0)) rfl (fun h20 => ?_) (fun h20 => ?_)
        ·
          have h20 := qT_ne (cx := (v14_r9).toInt) (cy := (v12_m9).toInt) rfl rfl h20
          refine pm_go (g := (146, _, [.int (-12)], _, 0, 0)) rfl ?_
          refine pm_ret rfl (k0 _ _ _ _ _ ⟨_, _, _, _, h2, h9, ?_⟩ (by omega))
          exact Or.inr (Or.inr (Or.inr (Or.inr ⟨(fun ⟨a, b, c⟩ => by have c1 := hA2.mpr c; omega), (fun ⟨a, b, c⟩ => by have c1 := hS1.mpr c; omega), rfl, rfl, by omega, (fun ⟨a, b⟩ => by have c1 := hS1.mpr a; have c2 := hA2.mpr b; omega), rfl⟩)))
        have h20 := qF_ne (cx := (v14_r9).toInt) (cy := (v12_m9).toInt) rfl rfl h20
        refine pm_go (g := (141, _, [.int (-13)], _, 0, 0)) rfl ?_
        refine pm_go (g := (146, _, [.int (-13)], _, 0, 0)) rfl ?_
        refine pm_ret rfl (k0 _ _ _ _ _ ⟨_, _, _, _, h2, h9, ?_⟩ (by omega))
        exact Or.inr (Or.inr (Or.inr (Or.inl ⟨(fun ⟨a, b, c⟩ => by have c1 := hA2.mpr c; omega), (fun ⟨a, b, c⟩ => by have c1 := hS1.mpr c; omega), rfl, rfl, by omega, ⟨hS1.mp (by omega), hA2.mp (by omega)⟩, rfl⟩)))
      have h18 := qF_ne (cx := (v5_m9).toInt) (cy := 0) rfl (by decide) h18
      refine pm_go (g := (114, _, [.ref 25], _, 0, 0)) rfl ?_
      refine pm_go (g := (117, _, [.int v12_m9], _, 0, 0)) rfl ?_
      refine pm_if2 (g := (125, [(8, .int v14_r9), (7, .int v12_r9), (6, .int v7_r9), (5, .int v5_m9), (4, .int v5_r9), (0, .ref 25), (1, .int t), (2, .int w), (3, .int f)], [], hq g c1 c2 c3 c4 c5 c6 c7 c8 c9 c10 c11 c12 c13 c14 c15 c16 c17 c18 c19 c20 c21 c22 c23 c24 (hc25 mTy mTm mMn mFn mRn mTn mVn mLr mTr mFl v12_m9 v12_p9 mSc v5_p9 mEn) (hc26 mPa) (hc27 mTo) (hc28 mOt) (hc29 mNa) (hc30 mRe) (hc31 mMa) (hc32 mMy) (hc33 mPm) (hc34 mFy) (hc35 mFa) (hc36 mFr) (hc37 mFo) (hc38 mRt) (hc39 mRm) (hc40 mTt) (hc41 mTi) (hc42 mPl) (hc43 mVr) (hc44 mVf) (hc45 mVc) (hc46 mAr) (hc47 mTc) (hc48 v12_f9) (hc49 mGo) dyn, 0, 0)) (h := (120, [(8, .int v14_r9), (7, .int v12_r9), (6, .int v7_r9), (5, .int v5_m9), (4, .int v5_r9), (0, .ref 25), (1, .int t), (2, .int w), (3, .int f)], [], hq g c1 c2 c3 c4 c5 c6 c7 c8 c9 c10 c11 c12 c13 c14 c15 c16 c17 c18 c19 c20 c21 c22 c23 c24 (hc25 mTy mTm mMn mFn mRn mTn mVn mLr mTr mFl v12_m9 v12_p9 mSc v5_p9 mEn) (hc26 mPa) (hc27 mTo) (hc28 mOt) (hc29 mNa) (hc30 mRe) (hc31 mMa) (hc32 mMy) (hc33 mPm) (hc34 mFy) (hc35 mFa) (hc36 mFr) (hc37 mFo) (hc38 mRt) (hc39 mRm) (hc40 mTt) (hc41 mTi) (hc42 mPl) (hc43 mVr) (hc44 mVf) (hc45 mVc) (hc46 mAr) (hc47 mTc) (hc48 v12_f9) (hc49 mGo) dyn, 0, 0)) rfl (fun h21 => ?_) (fun h21 => ?_)
      ·
        have h21 := qT_ne (cx := (v12_m9).toInt) (cy := 0) rfl (by decide) h21
        refine pm_go (g := (127, _, [.int v7_r9], _, 0, 0)) rfl ?_
        refine pm_if2 (g := (144, [(8, .int v14_r9), (7, .int v12_r9), (6, .int v7_r9), (5, .int v5_m9), (4, .int v5_r9), (0, .ref 25), (1, .int t), (2, .int w), (3, .int f)], [], hq g c1 c2 c3 c4 c5 c6 c7 c8 c9 c10 c11 c12 c13 c14 c15 c16 c17 c18 c19 c20 c21 c22 c23 c24 (hc25 mTy mTm mMn mFn mRn mTn mVn mLr mTr mFl v12_m9 v12_p9 mSc v5_p9 mEn) (hc26 mPa) (hc27 mTo) (hc28 mOt) (hc29 mNa) (hc30 mRe) (hc31 mMa) (hc32 mMy) (hc33 mPm) (hc34 mFy) (hc35 mFa) (hc36 mFr) (hc37 mFo) (hc38 mRt) (hc39 mRm) (hc40 mTt) (hc41 mTi) (hc42 mPl) (hc43 mVr) (hc44 mVf) (hc45 mVc) (hc46 mAr) (hc47 mTc) (hc48 v12_f9) (hc49 mGo) dyn, 0, 0)) (h := (130, [(8, .int v14_r9), (7, .int v12_r9), (6, .int v7_r9), (5, .int v5_m9), (4, .int v5_r9), (0, .ref 25), (1, .int t), (2, .int w), (3, .int f)], [], hq g c1 c2 c3 c4 c5 c6 c7 c8 c9 c10 c11 c12 c13 c14 c15 c16 c17 c18 c19 c20 c21 c22 c23 c24 (hc25 mTy mTm mMn mFn mRn mTn mVn mLr mTr mFl v12_m9 v12_p9 mSc v5_p9 mEn) (hc26 mPa) (hc27 mTo) (hc28 mOt) (hc29 mNa) (hc30 mRe) (hc31 mMa) (hc32 mMy) (hc33 mPm) (hc34 mFy) (hc35 mFa) (hc36 mFr) (hc37 mFo) (hc38 mRt) (hc39 mRm) (hc40 mTt) (hc41 mTi) (hc42 mPl) (hc43 mVr) (hc44 mVf) (hc45 mVc) (hc46 mAr) (hc47 mTc) (hc48 v12_f9) (hc49 mGo) dyn, 0, 0)) rfl (fun h22 => ?_) (fun h22 => ?_)
        ·
          have h22 := qT_ne (cx := (v7_r9).toInt) (cy := 0) rfl (by decide) h22
          refine pm_go (g := (146, _, [.int (-12)], _, 0, 0)) rfl ?_
          refine pm_ret rfl (k0 _ _ _ _ _ ⟨_, _, _, _, h2, h9, ?_⟩ (by omega))
          exact Or.inr (Or.inr (Or.inr (Or.inr ⟨(fun ⟨a, b, c⟩ => by have c1 := hA2.mpr c; omega), (fun ⟨a, b, c⟩ => by have c1 := hS1.mpr c; omega), rfl, rfl, by omega, (fun ⟨a, b⟩ => by have c1 := hS1.mpr a; have c2 := hA2.mpr b; omega), rfl⟩)))
        have h22 := qF_ne (cx := (v7_r9).toInt) (cy := 0) rfl (by decide) h22
        refine pm_go (g := (132, _, [.int v14_r9], _, 0, 0)) rfl ?_
        refine pm_go (g := (133, _, [.ref 25, .int v14_r9], _, 0, 0)) rfl ?_
        refine pm_go (g := (136, _, [.int v12_m9, .int v14_r9], _, 0, 0)) rfl ?_
        refine pm_if2 (g := (144, [(8, .int v14_r9), (7, .int v12_r9), (6, .int v7_r9), (5, .int v5_m9), (4, .int v5_r9), (0, .ref 25), (1, .int t), (2, .int w), (3, .int f)], [], hq g c1 c2 c3 c4 c5 c6 c7 c8 c9 c10 c11 c12 c13 c14 c15 c16 c17 c18 c19 c20 c21 c22 c23 c24 (hc25 mTy mTm mMn mFn mRn mTn mVn mLr mTr mFl v12_m9 v12_p9 mSc v5_p9 mEn) (hc26 mPa) (hc27 mTo) (hc28 mOt) (hc29 mNa) (hc30 mRe) (hc31 mMa) (hc32 mMy) (hc33 mPm) (hc34 mFy) (hc35 mFa) (hc36 mFr) (hc37 mFo) (hc38 mRt) (hc39 mRm) (hc40 mTt) (hc41 mTi) (hc42 mPl) (hc43 mVr) (hc44 mVf) (hc45 mVc) (hc46 mAr) (hc47 mTc) (hc48 v12_f9) (hc49 mGo) dyn, 0, 0)) (h := (139, [(8, .int v14_r9), (7, .int v12_r9), (6, .int v7_r9), (5, .int v5_m9), (4, .int v5_r9), (0, .ref 25), (1, .int t), (2, .int w), (3, .int f)], [], hq g c1 c2 c3 c4 c5 c6 c7 c8 c9 c10 c11 c12 c13 c14 c15 c16 c17 c18 c19 c20 c21 c22 c23 c24 (hc25 mTy mTm mMn mFn mRn mTn mVn mLr mTr mFl v12_m9 v12_p9 mSc v5_p9 mEn) (hc26 mPa) (hc27 mTo) (hc28 mOt) (hc29 mNa) (hc30 mRe) (hc31 mMa) (hc32 mMy) (hc33 mPm) (hc34 mFy) (hc35 mFa) (hc36 mFr) (hc37 mFo) (hc38 mRt) (hc39 mRm) (hc40 mTt) (hc41 mTi) (hc42 mPl) (hc43 mVr) (hc44 mVf) (hc45 mVc) (hc46 mAr) (hc47 mTc) (hc48 v12_f9) (hc49 mGo) dyn, 0, 0)) rfl (fun h23 => ?_) (fun h23 => ?_)
        ·
          have h23 := qT_ne (cx := (v14_r9).toInt) (cy := (v12_m9).toInt) rfl rfl h23
          refine pm_go (g := (146, _, [.int (-12)], _, 0, 0)) rfl ?_
          refine pm_ret rfl (k0 _ _ _ _ _ ⟨_, _, _, _, h2, h9, ?_⟩ (by omega))
          exact Or.inr (Or.inr (Or.inr (Or.inr ⟨(fun ⟨a, b, c⟩ => by have c1 := hA2.mpr c; omega), (fun ⟨a, b, c⟩ => by have c1 := hS1.mpr c; omega), rfl, rfl, by omega, (fun ⟨a, b⟩ => by have c1 := hS1.mpr a; have c2 := hA2.mpr b; omega), rfl⟩)))
        have h23 := qF_ne (cx := (v14_r9).toInt) (cy := (v12_m9).toInt) rfl rfl h23
        refine pm_go (g := (141, _, [.int (-13)], _, 0, 0)) rfl ?_
        refine pm_go (g := (146, _, [.int (-13)], _, 0, 0)) rfl ?_
        refine pm_ret rfl (k0 _ _ _ _ _ ⟨_, _, _, _, h2, h9, ?_⟩ (by omega))
        exact Or.inr (Or.inr (Or.inr (Or.inl ⟨(fun ⟨a, b, c⟩ => by have c1 := hA2.mpr c; omega), (fun ⟨a, b, c⟩ => by have c1 := hS1.mpr c; omega), rfl, rfl, by omega, ⟨hS1.mp (by omega), hA2.mp (by omega)⟩, rfl⟩)))
      have h21 := qF_ne (cx := (v12_m9).toInt) (cy := 0) rfl (by decide) h21
      refine pm_go (g := (122, _, [.int (-11)], _, 0, 0)) rfl ?_
      refine pm_go (g := (146, _, [.int (-11)], _, 0, 0)) rfl ?_
      refine pm_ret rfl (k0 _ _ _ _ _ ⟨_, _, _, _, h2, h9, ?_⟩ (by omega))
      exact Or.inr (Or.inr (Or.inl ⟨(fun ⟨a, b, c⟩ => by have c1 := hA2.mpr c; omega), (fun ⟨a, b, c⟩ => by have c1 := hS1.mpr c; omega), rfl, rfl, by omega, rfl⟩))
    have h17 := qF_lt (cx := (v12_r9).toInt) (cy := 0) rfl (by decide) h17
    refine pm_go (g := (78, _, [.ref 25], _, 0, 0)) rfl ?_
    refine pm_go (g := (80, _, [.int v12_r9, .ref 25], _, 0, 0)) rfl ?_
    refine pm_go (g := (81, _, [.int 1, .int v12_r9, .ref 25], _, 0, 0)) rfl ?_
    refine pm_callD (z := 139) (as := [.ref 25, .int v12_r9, .int 1]) (rest := []) rfl ?_
    have h24 : (1 : Int32).toInt = 1 := by decide
    refine w_X12_isMark v12_r9 1 (by omega) (fun h25 => ?_) (fun h26 => ?_)
    ·
      show pm_WP 155 (84, [(8, .int v14_r9), (7, .int v12_r9), (6, .int v7_r9), (5, .int v5_m9), (4, .int v5_r9), (0, .ref 25), (1, .int t), (2, .int w), (3, .int f)], [.int 1], _, 0, 0) _
      refine pm_brT (g := (108, [(8, .int v14_r9), (7, .int v12_r9), (6, .int v7_r9), (5, .int v5_m9), (4, .int v5_r9), (0, .ref 25), (1, .int t), (2, .int w), (3, .int f)], [], hq g c1 c2 c3 c4 c5 c6 c7 c8 c9 c10 c11 c12 c13 c14 c15 c16 c17 c18 c19 c20 c21 c22 c23 c24 (hc25 mTy mTm mMn mFn mRn mTn mVn mLr mTr mFl v12_m9 v12_p9 mSc v5_p9 mEn) (hc26 mPa) (hc27 mTo) (hc28 mOt) (hc29 mNa) (hc30 mRe) (hc31 mMa) (hc32 mMy) (hc33 mPm) (hc34 mFy) (hc35 mFa) (hc36 mFr) (hc37 mFo) (hc38 mRt) (hc39 mRm) (hc40 mTt) (hc41 mTi) (hc42 mPl) (hc43 mVr) (hc44 mVf) (hc45 mVc) (hc46 mAr) (hc47 mTc) (hc48 v12_f9) (hc49 mGo) dyn, 0, 0)) rfl ?_
      refine pm_go (g := (110, _, [.int v5_m9], _, 0, 0)) rfl ?_
      refine pm_if2 (g := (125, [(8, .int v14_r9), (7, .int v12_r9), (6, .int v7_r9), (5, .int v5_m9), (4, .int v5_r9), (0, .ref 25), (1, .int t), (2, .int w), (3, .int f)], [], hq g c1 c2 c3 c4 c5 c6 c7 c8 c9 c10 c11 c12 c13 c14 c15 c16 c17 c18 c19 c20 c21 c22 c23 c24 (hc25 mTy mTm mMn mFn mRn mTn mVn mLr mTr mFl v12_m9 v12_p9 mSc v5_p9 mEn) (hc26 mPa) (hc27 mTo) (hc28 mOt) (hc29 mNa) (hc30 mRe) (hc31 mMa) (hc32 mMy) (hc33 mPm) (hc34 mFy) (hc35 mFa) (hc36 mFr) (hc37 mFo) (hc38 mRt) (hc39 mRm) (hc40 mTt) (hc41 mTi) (hc42 mPl) (hc43 mVr) (hc44 mVf) (hc45 mVc) (hc46 mAr) (hc47 mTc) (hc48 v12_f9) (hc49 mGo) dyn, 0, 0)) (h := (113, [(8, .int v14_r9), (7, .int v12_r9), (6, .int v7_r9), (5, .int v5_m9), (4, .int v5_r9), (0, .ref 25), (1, .int t), (2, .int w), (3, .int f)], [], hq g c1 c2 c3 c4 c5 c6 c7 c8 c9 c10 c11 c12 c13 c14 c15 c16 c17 c18 c19 c20 c21 c22 c23 c24 (hc25 mTy mTm mMn mFn mRn mTn mVn mLr mTr mFl v12_m9 v12_p9 mSc v5_p9 mEn) (hc26 mPa) (hc27 mTo) (hc28 mOt) (hc29 mNa) (hc30 mRe) (hc31 mMa) (hc32 mMy) (hc33 mPm) (hc34 mFy) (hc35 mFa) (hc36 mFr) (hc37 mFo) (hc38 mRt) (hc39 mRm) (hc40 mTt) (hc41 mTi) (hc42 mPl) (hc43 mVr) (hc44 mVf) (hc45 mVc) (hc46 mAr) (hc47 mTc) (hc48 v12_f9) (hc49 mGo) dyn, 0, 0)) rfl (fun h28 => ?_) (fun h28 => ?_)
      ·
        have h28 := qT_ne (cx := (v5_m9).toInt) (cy := 0) rfl (by decide) h28
        refine pm_go (g := (127, _, [.int v7_r9], _, 0, 0)) rfl ?_
        refine pm_if2 (g := (144, [(8, .int v14_r9), (7, .int v12_r9), (6, .int v7_r9), (5, .int v5_m9), (4, .int v5_r9), (0, .ref 25), (1, .int t), (2, .int w), (3, .int f)], [], hq g c1 c2 c3 c4 c5 c6 c7 c8 c9 c10 c11 c12 c13 c14 c15 c16 c17 c18 c19 c20 c21 c22 c23 c24 (hc25 mTy mTm mMn mFn mRn mTn mVn mLr mTr mFl v12_m9 v12_p9 mSc v5_p9 mEn) (hc26 mPa) (hc27 mTo) (hc28 mOt) (hc29 mNa) (hc30 mRe) (hc31 mMa) (hc32 mMy) (hc33 mPm) (hc34 mFy) (hc35 mFa) (hc36 mFr) (hc37 mFo) (hc38 mRt) (hc39 mRm) (hc40 mTt) (hc41 mTi) (hc42 mPl) (hc43 mVr) (hc44 mVf) (hc45 mVc) (hc46 mAr) (hc47 mTc) (hc48 v12_f9) (hc49 mGo) dyn, 0, 0)) (h := (130, [(8, .int v14_r9), (7, .int v12_r9), (6, .int v7_r9), (5, .int v5_m9), (4, .int v5_r9), (0, .ref 25), (1, .int t), (2, .int w), (3, .int f)], [], hq g c1 c2 c3 c4 c5 c6 c7 c8 c9 c10 c11 c12 c13 c14 c15 c16 c17 c18 c19 c20 c21 c22 c23 c24 (hc25 mTy mTm mMn mFn mRn mTn mVn mLr mTr mFl v12_m9 v12_p9 mSc v5_p9 mEn) (hc26 mPa) (hc27 mTo) (hc28 mOt) (hc29 mNa) (hc30 mRe) (hc31 mMa) (hc32 mMy) (hc33 mPm) (hc34 mFy) (hc35 mFa) (hc36 mFr) (hc37 mFo) (hc38 mRt) (hc39 mRm) (hc40 mTt) (hc41 mTi) (hc42 mPl) (hc43 mVr) (hc44 mVf) (hc45 mVc) (hc46 mAr) (hc47 mTc) (hc48 v12_f9) (hc49 mGo) dyn, 0, 0)) rfl (fun h29 => ?_) (fun h29 => ?_)
        ·
          have h29 := qT_ne (cx := (v7_r9).toInt) (cy := 0) rfl (by decide) h29
          refine pm_go (g := (146, _, [.int (-12)], _, 0, 0)) rfl ?_
          refine pm_ret rfl (k0 _ _ _ _ _ ⟨_, _, _, _, h2, h9, ?_⟩ (by omega))
          exact Or.inr (Or.inr (Or.inr (Or.inr ⟨(fun ⟨a, b, c⟩ => by have c1 := hA2.mpr c; omega), (fun ⟨a, b, c⟩ => by have c1 := hS1.mpr c; omega), rfl, rfl, by omega, (fun ⟨a, b⟩ => by have c1 := hS1.mpr a; have c2 := hA2.mpr b; omega), rfl⟩)))
        have h29 := qF_ne (cx := (v7_r9).toInt) (cy := 0) rfl (by decide) h29
        refine pm_go (g := (132, _, [.int v14_r9], _, 0, 0)) rfl ?_
        refine pm_go (g := (133, _, [.ref 25, .int v14_r9], _, 0, 0)) rfl ?_
        refine pm_go (g := (136, _, [.int v12_m9, .int v14_r9], _, 0, 0)) rfl ?_
        refine pm_if2 (g := (144, [(8, .int v14_r9), (7, .int v12_r9), (6, .int v7_r9), (5, .int v5_m9), (4, .int v5_r9), (0, .ref 25), (1, .int t), (2, .int w), (3, .int f)], [], hq g c1 c2 c3 c4 c5 c6 c7 c8 c9 c10 c11 c12 c13 c14 c15 c16 c17 c18 c19 c20 c21 c22 c23 c24 (hc25 mTy mTm mMn mFn mRn mTn mVn mLr mTr mFl v12_m9 v12_p9 mSc v5_p9 mEn) (hc26 mPa) (hc27 mTo) (hc28 mOt) (hc29 mNa) (hc30 mRe) (hc31 mMa) (hc32 mMy) (hc33 mPm) (hc34 mFy) (hc35 mFa) (hc36 mFr) (hc37 mFo) (hc38 mRt) (hc39 mRm) (hc40 mTt) (hc41 mTi) (hc42 mPl) (hc43 mVr) (hc44 mVf) (hc45 mVc) (hc46 mAr) (hc47 mTc) (hc48 v12_f9) (hc49 mGo) dyn, 0, 0)) (h := (139, [(8, .int v14_r9), (7, .int v12_r9), (6, .int v7_r9), (5, .int v5_m9), (4, .int v5_r9), (0, .ref 25), (1, .int t), (2, .int w), (3, .int f)], [], hq g c1 c2 c3 c4 c5 c6 c7 c8 c9 c10 c11 c12 c13 c14 c15 c16 c17 c18 c19 c20 c21 c22 c23 c24 (hc25 mTy mTm mMn mFn mRn mTn mVn mLr mTr mFl v12_m9 v12_p9 mSc v5_p9 mEn) (hc26 mPa) (hc27 mTo) (hc28 mOt) (hc29 mNa) (hc30 mRe) (hc31 mMa) (hc32 mMy) (hc33 mPm) (hc34 mFy) (hc35 mFa) (hc36 mFr) (hc37 mFo) (hc38 mRt) (hc39 mRm) (hc40 mTt) (hc41 mTi) (hc42 mPl) (hc43 mVr) (hc44 mVf) (hc45 mVc) (hc46 mAr) (hc47 mTc) (hc48 v12_f9) (hc49 mGo) dyn, 0, 0)) rfl (fun h30 => ?_) (fun h30 => ?_)
        ·
          have h30 := qT_ne (cx := (v14_r9).toInt) (cy := (v12_m9).toInt) rfl rfl h30
          refine pm_go (g := (146, _, [.int (-12)], _, 0, 0)) rfl ?_
          refine pm_ret rfl (k0 _ _ _ _ _ ⟨_, _, _, _, h2, h9, ?_⟩ (by omega))
          exact Or.inr (Or.inr (Or.inr (Or.inr ⟨(fun ⟨a, b, c⟩ => by have c1 := hA2.mpr c; omega), (fun ⟨a, b, c⟩ => by have c1 := hS1.mpr c; omega), rfl, rfl, by omega, (fun ⟨a, b⟩ => by have c1 := hS1.mpr a; have c2 := hA2.mpr b; omega), rfl⟩)))
        have h30 := qF_ne (cx := (v14_r9).toInt) (cy := (v12_m9).toInt) rfl rfl h30
        refine pm_go (g := (141, _, [.int (-13)], _, 0, 0)) rfl ?_
        refine pm_go (g := (146, _, [.int (-13)], _, 0, 0)) rfl ?_
        refine pm_ret rfl (k0 _ _ _ _ _ ⟨_, _, _, _, h2, h9, ?_⟩ (by omega))
        exact Or.inr (Or.inr (Or.inr (Or.inl ⟨(fun ⟨a, b, c⟩ => by have c1 := hA2.mpr c; omega), (fun ⟨a, b, c⟩ => by have c1 := hS1.mpr c; omega), rfl, rfl, by omega, ⟨hS1.mp (by omega), hA2.mp (by omega)⟩, rfl⟩)))
      have h28 := qF_ne (cx := (v5_m9).toInt) (cy := 0) rfl (by decide) h28
      refine pm_go (g := (114, _, [.ref 25], _, 0, 0)) rfl ?_
      refine pm_go (g := (117, _, [.int v12_m9], _, 0, 0)) rfl ?_
      refine pm_if2 (g := (125, [(8, .int v14_r9), (7, .int v12_r9), (6, .int v7_r9), (5, .int v5_m9), (4, .int v5_r9), (0, .ref 25), (1, .int t), (2, .int w), (3, .int f)], [], hq g c1 c2 c3 c4 c5 c6 c7 c8 c9 c10 c11 c12 c13 c14 c15 c16 c17 c18 c19 c20 c21 c22 c23 c24 (hc25 mTy mTm mMn mFn mRn mTn mVn mLr mTr mFl v12_m9 v12_p9 mSc v5_p9 mEn) (hc26 mPa) (hc27 mTo) (hc28 mOt) (hc29 mNa) (hc30 mRe) (hc31 mMa) (hc32 mMy) (hc33 mPm) (hc34 mFy) (hc35 mFa) (hc36 mFr) (hc37 mFo) (hc38 mRt) (hc39 mRm) (hc40 mTt) (hc41 mTi) (hc42 mPl) (hc43 mVr) (hc44 mVf) (hc45 mVc) (hc46 mAr) (hc47 mTc) (hc48 v12_f9) (hc49 mGo) dyn, 0, 0)) (h := (120, [(8, .int v14_r9), (7, .int v12_r9), (6, .int v7_r9), (5, .int v5_m9), (4, .int v5_r9), (0, .ref 25), (1, .int t), (2, .int w), (3, .int f)], [], hq g c1 c2 c3 c4 c5 c6 c7 c8 c9 c10 c11 c12 c13 c14 c15 c16 c17 c18 c19 c20 c21 c22 c23 c24 (hc25 mTy mTm mMn mFn mRn mTn mVn mLr mTr mFl v12_m9 v12_p9 mSc v5_p9 mEn) (hc26 mPa) (hc27 mTo) (hc28 mOt) (hc29 mNa) (hc30 mRe) (hc31 mMa) (hc32 mMy) (hc33 mPm) (hc34 mFy) (hc35 mFa) (hc36 mFr) (hc37 mFo) (hc38 mRt) (hc39 mRm) (hc40 mTt) (hc41 mTi) (hc42 mPl) (hc43 mVr) (hc44 mVf) (hc45 mVc) (hc46 mAr) (hc47 mTc) (hc48 v12_f9) (hc49 mGo) dyn, 0, 0)) rfl (fun h31 => ?_) (fun h31 => ?_)
      ·
        have h31 := qT_ne (cx := (v12_m9).toInt) (cy := 0) rfl (by decide) h31
        refine pm_go (g := (127, _, [.int v7_r9], _, 0, 0)) rfl ?_
        refine pm_if2 (g := (144, [(8, .int v14_r9), (7, .int v12_r9), (6, .int v7_r9), (5, .int v5_m9), (4, .int v5_r9), (0, .ref 25), (1, .int t), (2, .int w), (3, .int f)], [], hq g c1 c2 c3 c4 c5 c6 c7 c8 c9 c10 c11 c12 c13 c14 c15 c16 c17 c18 c19 c20 c21 c22 c23 c24 (hc25 mTy mTm mMn mFn mRn mTn mVn mLr mTr mFl v12_m9 v12_p9 mSc v5_p9 mEn) (hc26 mPa) (hc27 mTo) (hc28 mOt) (hc29 mNa) (hc30 mRe) (hc31 mMa) (hc32 mMy) (hc33 mPm) (hc34 mFy) (hc35 mFa) (hc36 mFr) (hc37 mFo) (hc38 mRt) (hc39 mRm) (hc40 mTt) (hc41 mTi) (hc42 mPl) (hc43 mVr) (hc44 mVf) (hc45 mVc) (hc46 mAr) (hc47 mTc) (hc48 v12_f9) (hc49 mGo) dyn, 0, 0)) (h := (130, [(8, .int v14_r9), (7, .int v12_r9), (6, .int v7_r9), (5, .int v5_m9), (4, .int v5_r9), (0, .ref 25), (1, .int t), (2, .int w), (3, .int f)], [], hq g c1 c2 c3 c4 c5 c6 c7 c8 c9 c10 c11 c12 c13 c14 c15 c16 c17 c18 c19 c20 c21 c22 c23 c24 (hc25 mTy mTm mMn mFn mRn mTn mVn mLr mTr mFl v12_m9 v12_p9 mSc v5_p9 mEn) (hc26 mPa) (hc27 mTo) (hc28 mOt) (hc29 mNa) (hc30 mRe) (hc31 mMa) (hc32 mMy) (hc33 mPm) (hc34 mFy) (hc35 mFa) (hc36 mFr) (hc37 mFo) (hc38 mRt) (hc39 mRm) (hc40 mTt) (hc41 mTi) (hc42 mPl) (hc43 mVr) (hc44 mVf) (hc45 mVc) (hc46 mAr) (hc47 mTc) (hc48 v12_f9) (hc49 mGo) dyn, 0, 0)) rfl (fun h32 => ?_) (fun h32 => ?_)
        ·
          have h32 := qT_ne (cx := (v7_r9).toInt) (cy := 0) rfl (by decide) h32
          refine pm_go (g := (146, _, [.int (-12)], _, 0, 0)) rfl ?_
          refine pm_ret rfl (k0 _ _ _ _ _ ⟨_, _, _, _, h2, h9, ?_⟩ (by omega))
          exact Or.inr (Or.inr (Or.inr (Or.inr ⟨(fun ⟨a, b, c⟩ => by have c1 := hA2.mpr c; omega), (fun ⟨a, b, c⟩ => by have c1 := hS1.mpr c; omega), rfl, rfl, by omega, (fun ⟨a, b⟩ => by have c1 := hS1.mpr a; have c2 := hA2.mpr b; omega), rfl⟩)))
        have h32 := qF_ne (cx := (v7_r9).toInt) (cy := 0) rfl (by decide) h32
        refine pm_go (g := (132, _, [.int v14_r9], _, 0, 0)) rfl ?_
        refine pm_go (g := (133, _, [.ref 25, .int v14_r9], _, 0, 0)) rfl ?_
        refine pm_go (g := (136, _, [.int v12_m9, .int v14_r9], _, 0, 0)) rfl ?_
        refine pm_if2 (g := (144, [(8, .int v14_r9), (7, .int v12_r9), (6, .int v7_r9), (5, .int v5_m9), (4, .int v5_r9), (0, .ref 25), (1, .int t), (2, .int w), (3, .int f)], [], hq g c1 c2 c3 c4 c5 c6 c7 c8 c9 c10 c11 c12 c13 c14 c15 c16 c17 c18 c19 c20 c21 c22 c23 c24 (hc25 mTy mTm mMn mFn mRn mTn mVn mLr mTr mFl v12_m9 v12_p9 mSc v5_p9 mEn) (hc26 mPa) (hc27 mTo) (hc28 mOt) (hc29 mNa) (hc30 mRe) (hc31 mMa) (hc32 mMy) (hc33 mPm) (hc34 mFy) (hc35 mFa) (hc36 mFr) (hc37 mFo) (hc38 mRt) (hc39 mRm) (hc40 mTt) (hc41 mTi) (hc42 mPl) (hc43 mVr) (hc44 mVf) (hc45 mVc) (hc46 mAr) (hc47 mTc) (hc48 v12_f9) (hc49 mGo) dyn, 0, 0)) (h := (139, [(8, .int v14_r9), (7, .int v12_r9), (6, .int v7_r9), (5, .int v5_m9), (4, .int v5_r9), (0, .ref 25), (1, .int t), (2, .int w), (3, .int f)], [], hq g c1 c2 c3 c4 c5 c6 c7 c8 c9 c10 c11 c12 c13 c14 c15 c16 c17 c18 c19 c20 c21 c22 c23 c24 (hc25 mTy mTm mMn mFn mRn mTn mVn mLr mTr mFl v12_m9 v12_p9 mSc v5_p9 mEn) (hc26 mPa) (hc27 mTo) (hc28 mOt) (hc29 mNa) (hc30 mRe) (hc31 mMa) (hc32 mMy) (hc33 mPm) (hc34 mFy) (hc35 mFa) (hc36 mFr) (hc37 mFo) (hc38 mRt) (hc39 mRm) (hc40 mTt) (hc41 mTi) (hc42 mPl) (hc43 mVr) (hc44 mVf) (hc45 mVc) (hc46 mAr) (hc47 mTc) (hc48 v12_f9) (hc49 mGo) dyn, 0, 0)) rfl (fun h33 => ?_) (fun h33 => ?_)
        ·
          have h33 := qT_ne (cx := (v14_r9).toInt) (cy := (v12_m9).toInt) rfl rfl h33
          refine pm_go (g := (146, _, [.int (-12)], _, 0, 0)) rfl ?_
          refine pm_ret rfl (k0 _ _ _ _ _ ⟨_, _, _, _, h2, h9, ?_⟩ (by omega))
          exact Or.inr (Or.inr (Or.inr (Or.inr ⟨(fun ⟨a, b, c⟩ => by have c1 := hA2.mpr c; omega), (fun ⟨a, b, c⟩ => by have c1 := hS1.mpr c; omega), rfl, rfl, by omega, (fun ⟨a, b⟩ => by have c1 := hS1.mpr a; have c2 := hA2.mpr b; omega), rfl⟩)))
        have h33 := qF_ne (cx := (v14_r9).toInt) (cy := (v12_m9).toInt) rfl rfl h33
        refine pm_go (g := (141, _, [.int (-13)], _, 0, 0)) rfl ?_
        refine pm_go (g := (146, _, [.int (-13)], _, 0, 0)) rfl ?_
        refine pm_ret rfl (k0 _ _ _ _ _ ⟨_, _, _, _, h2, h9, ?_⟩ (by omega))
        exact Or.inr (Or.inr (Or.inr (Or.inl ⟨(fun ⟨a, b, c⟩ => by have c1 := hA2.mpr c; omega), (fun ⟨a, b, c⟩ => by have c1 := hS1.mpr c; omega), rfl, rfl, by omega, ⟨hS1.mp (by omega), hA2.mp (by omega)⟩, rfl⟩)))
      have h31 := qF_ne (cx := (v12_m9).toInt) (cy := 0) rfl (by decide) h31
      refine pm_go (g := (122, _, [.int (-11)], _, 0, 0)) rfl ?_
      refine pm_go (g := (146, _, [.int (-11)], _, 0, 0)) rfl ?_
      refine pm_ret rfl (k0 _ _ _ _ _ ⟨_, _, _, _, h2, h9, ?_⟩ (by omega))
      exact Or.inr (Or.inr (Or.inl ⟨(fun ⟨a, b, c⟩ => by have c1 := hA2.mpr c; omega), (fun ⟨a, b, c⟩ => by have c1 := hS1.mpr c; omega), rfl, rfl, by omega, rfl⟩))
    show pm_WP 155 (84, [(8, .int v14_r9), (7, .int v12_r9), (6, .int v7_r9), (5, .int v5_m9), (4, .int v5_r9), (0, .ref 25), (1, .int t), (2, .int w), (3, .int f)], [.int 0], hq g c1 c2 c3 c4 c5 c6 c7 c8 c9 c10 c11 c12 c13 c14 c15 c16 c17 c18 c19 c20 c21 c22 c23 c24 (hc25 mTy mTm mMn mFn mRn mTn mVn mLr mTr mFl v12_m9 v12_p9 mSc v5_p9 mEn) (hc26 mPa) (hc27 mTo) (hc28 mOt) (hc29 mNa) (hc30 mRe) (hc31 mMa) (hc32 mMy) (hc33 mPm) (hc34 mFy) (hc35 mFa) (hc36 mFr) (hc37 mFo) (hc38 mRt) (hc39 mRm) (hc40 mTt) (hc41 mTi) (hc42 mPl) (hc43 mVr) (hc44 mVf) (hc45 mVc) (hc46 mAr) (hc47 mTc) (hc48 v12_f9) (hc49 mGo) dyn, 0, 0) _
    refine pm_brF (h := (87, [(8, .int v14_r9), (7, .int v12_r9), (6, .int v7_r9), (5, .int v5_m9), (4, .int v5_r9), (0, .ref 25), (1, .int t), (2, .int w), (3, .int f)], [], hq g c1 c2 c3 c4 c5 c6 c7 c8 c9 c10 c11 c12 c13 c14 c15 c16 c17 c18 c19 c20 c21 c22 c23 c24 (hc25 mTy mTm mMn mFn mRn mTn mVn mLr mTr mFl v12_m9 v12_p9 mSc v5_p9 mEn) (hc26 mPa) (hc27 mTo) (hc28 mOt) (hc29 mNa) (hc30 mRe) (hc31 mMa) (hc32 mMy) (hc33 mPm) (hc34 mFy) (hc35 mFa) (hc36 mFr) (hc37 mFo) (hc38 mRt) (hc39 mRm) (hc40 mTt) (hc41 mTi) (hc42 mPl) (hc43 mVr) (hc44 mVf) (hc45 mVc) (hc46 mAr) (hc47 mTc) (hc48 v12_f9) (hc49 mGo) dyn, 0, 0)) rfl ?_
    refine pm_go (g := (89, _, [.int v7_r9], _, 0, 0)) rfl ?_
    refine pm_if2 (g := (108, [(8, .int v14_r9), (7, .int v12_r9), (6, .int v7_r9), (5, .int v5_m9), (4, .int v5_r9), (0, .ref 25), (1, .int t), (2, .int w), (3, .int f)], [], hq g c1 c2 c3 c4 c5 c6 c7 c8 c9 c10 c11 c12 c13 c14 c15 c16 c17 c18 c19 c20 c21 c22 c23 c24 (hc25 mTy mTm mMn mFn mRn mTn mVn mLr mTr mFl v12_m9 v12_p9 mSc v5_p9 mEn) (hc26 mPa) (hc27 mTo) (hc28 mOt) (hc29 mNa) (hc30 mRe) (hc31 mMa) (hc32 mMy) (hc33 mPm) (hc34 mFy) (hc35 mFa) (hc36 mFr) (hc37 mFo) (hc38 mRt) (hc39 mRm) (hc40 mTt) (hc41 mTi) (hc42 mPl) (hc43 mVr) (hc44 mVf) (hc45 mVc) (hc46 mAr) (hc47 mTc) (hc48 v12_f9) (hc49 mGo) dyn, 0, 0)) (h := (92, [(8, .int v14_r9), (7, .int v12_r9), (6, .int v7_r9), (5, .int v5_m9), (4, .int v5_r9), (0, .ref 25), (1, .int t), (2, .int w), (3, .int f)], [], hq g c1 c2 c3 c4 c5 c6 c7 c8 c9 c10 c11 c12 c13 c14 c15 c16 c17 c18 c19 c20 c21 c22 c23 c24 (hc25 mTy mTm mMn mFn mRn mTn mVn mLr mTr mFl v12_m9 v12_p9 mSc v5_p9 mEn) (hc26 mPa) (hc27 mTo) (hc28 mOt) (hc29 mNa) (hc30 mRe) (hc31 mMa) (hc32 mMy) (hc33 mPm) (hc34 mFy) (hc35 mFa) (hc36 mFr) (hc37 mFo) (hc38 mRt) (hc39 mRm) (hc40 mTt) (hc41 mTi) (hc42 mPl) (hc43 mVr) (hc44 mVf) (hc45 mVc) (hc46 mAr) (hc47 mTc) (hc48 v12_f9) (hc49 mGo) dyn, 0, 0)) rfl (fun h34 => ?_) (fun h34 => ?_)
    ·
      have h34 := qT_ne (cx := (v7_r9).toInt) (cy := 0) rfl (by decide) h34
      refine pm_go (g := (110, _, [.int v5_m9], _, 0, 0)) rfl ?_
      refine pm_if2 (g := (125, [(8, .int v14_r9), (7, .int v12_r9), (6, .int v7_r9), (5, .int v5_m9), (4, .int v5_r9), (0, .ref 25), (1, .int t), (2, .int w), (3, .int f)], [], hq g c1 c2 c3 c4 c5 c6 c7 c8 c9 c10 c11 c12 c13 c14 c15 c16 c17 c18 c19 c20 c21 c22 c23 c24 (hc25 mTy mTm mMn mFn mRn mTn mVn mLr mTr mFl v12_m9 v12_p9 mSc v5_p9 mEn) (hc26 mPa) (hc27 mTo) (hc28 mOt) (hc29 mNa) (hc30 mRe) (hc31 mMa) (hc32 mMy) (hc33 mPm) (hc34 mFy) (hc35 mFa) (hc36 mFr) (hc37 mFo) (hc38 mRt) (hc39 mRm) (hc40 mTt) (hc41 mTi) (hc42 mPl) (hc43 mVr) (hc44 mVf) (hc45 mVc) (hc46 mAr) (hc47 mTc) (hc48 v12_f9) (hc49 mGo) dyn, 0, 0)) (h := (113, [(8, .int v14_r9), (7, .int v12_r9), (6, .int v7_r9), (5, .int v5_m9), (4, .int v5_r9), (0, .ref 25), (1, .int t), (2, .int w), (3, .int f)], [], hq g c1 c2 c3 c4 c5 c6 c7 c8 c9 c10 c11 c12 c13 c14 c15 c16 c17 c18 c19 c20 c21 c22 c23 c24 (hc25 mTy mTm mMn mFn mRn mTn mVn mLr mTr mFl v12_m9 v12_p9 mSc v5_p9 mEn) (hc26 mPa) (hc27 mTo) (hc28 mOt) (hc29 mNa) (hc30 mRe) (hc31 mMa) (hc32 mMy) (hc33 mPm) (hc34 mFy) (hc35 mFa) (hc36 mFr) (hc37 mFo) (hc38 mRt) (hc39 mRm) (hc40 mTt) (hc41 mTi) (hc42 mPl) (hc43 mVr) (hc44 mVf) (hc45 mVc) (hc46 mAr) (hc47 mTc) (hc48 v12_f9) (hc49 mGo) dyn, 0, 0)) rfl (fun h35 => ?_) (fun h35 => ?_)
      ·
        have h35 := qT_ne (cx := (v5_m9).toInt) (cy := 0) rfl (by decide) h35
        refine pm_go (g := (127, _, [.int v7_r9], _, 0, 0)) rfl ?_
        refine pm_if2 (g := (144, [(8, .int v14_r9), (7, .int v12_r9), (6, .int v7_r9), (5, .int v5_m9), (4, .int v5_r9), (0, .ref 25), (1, .int t), (2, .int w), (3, .int f)], [], hq g c1 c2 c3 c4 c5 c6 c7 c8 c9 c10 c11 c12 c13 c14 c15 c16 c17 c18 c19 c20 c21 c22 c23 c24 (hc25 mTy mTm mMn mFn mRn mTn mVn mLr mTr mFl v12_m9 v12_p9 mSc v5_p9 mEn) (hc26 mPa) (hc27 mTo) (hc28 mOt) (hc29 mNa) (hc30 mRe) (hc31 mMa) (hc32 mMy) (hc33 mPm) (hc34 mFy) (hc35 mFa) (hc36 mFr) (hc37 mFo) (hc38 mRt) (hc39 mRm) (hc40 mTt) (hc41 mTi) (hc42 mPl) (hc43 mVr) (hc44 mVf) (hc45 mVc) (hc46 mAr) (hc47 mTc) (hc48 v12_f9) (hc49 mGo) dyn, 0, 0)) (h := (130, [(8, .int v14_r9), (7, .int v12_r9), (6, .int v7_r9), (5, .int v5_m9), (4, .int v5_r9), (0, .ref 25), (1, .int t), (2, .int w), (3, .int f)], [], hq g c1 c2 c3 c4 c5 c6 c7 c8 c9 c10 c11 c12 c13 c14 c15 c16 c17 c18 c19 c20 c21 c22 c23 c24 (hc25 mTy mTm mMn mFn mRn mTn mVn mLr mTr mFl v12_m9 v12_p9 mSc v5_p9 mEn) (hc26 mPa) (hc27 mTo) (hc28 mOt) (hc29 mNa) (hc30 mRe) (hc31 mMa) (hc32 mMy) (hc33 mPm) (hc34 mFy) (hc35 mFa) (hc36 mFr) (hc37 mFo) (hc38 mRt) (hc39 mRm) (hc40 mTt) (hc41 mTi) (hc42 mPl) (hc43 mVr) (hc44 mVf) (hc45 mVc) (hc46 mAr) (hc47 mTc) (hc48 v12_f9) (hc49 mGo) dyn, 0, 0)) rfl (fun h36 => ?_) (fun h36 => ?_)
        ·
          have h36 := qT_ne (cx := (v7_r9).toInt) (cy := 0) rfl (by decide) h36
          refine pm_go (g := (146, _, [.int (-12)], _, 0, 0)) rfl ?_
          refine pm_ret rfl (k0 _ _ _ _ _ ⟨_, _, _, _, h2, h9, ?_⟩ (by omega))
          exact Or.inr (Or.inr (Or.inr (Or.inr ⟨(fun ⟨a, b, c⟩ => by have c1 := hA2.mpr c; omega), (fun ⟨a, b, c⟩ => by have c1 := hS1.mpr c; omega), rfl, rfl, by omega, (fun ⟨a, b⟩ => by have c1 := hS1.mpr a; have c2 := hA2.mpr b; omega), rfl⟩)))
        have h36 := qF_ne (cx := (v7_r9).toInt) (cy := 0) rfl (by decide) h36
        refine pm_go (g := (132, _, [.int v14_r9], _, 0, 0)) rfl ?_
        refine pm_go (g := (133, _, [.ref 25, .int v14_r9], _, 0, 0)) rfl ?_
        refine pm_go (g := (136, _, [.int v12_m9, .int v14_r9], _, 0, 0)) rfl ?_
        refine pm_if2 (g := (144, [(8, .int v14_r9), (7, .int v12_r9), (6, .int v7_r9), (5, .int v5_m9), (4, .int v5_r9), (0, .ref 25), (1, .int t), (2, .int w), (3, .int f)], [], hq g c1 c2 c3 c4 c5 c6 c7 c8 c9 c10 c11 c12 c13 c14 c15 c16 c17 c18 c19 c20 c21 c22 c23 c24 (hc25 mTy mTm mMn mFn mRn mTn mVn mLr mTr mFl v12_m9 v12_p9 mSc v5_p9 mEn) (hc26 mPa) (hc27 mTo) (hc28 mOt) (hc29 mNa) (hc30 mRe) (hc31 mMa) (hc32 mMy) (hc33 mPm) (hc34 mFy) (hc35 mFa) (hc36 mFr) (hc37 mFo) (hc38 mRt) (hc39 mRm) (hc40 mTt) (hc41 mTi) (hc42 mPl) (hc43 mVr) (hc44 mVf) (hc45 mVc) (hc46 mAr) (hc47 mTc) (hc48 v12_f9) (hc49 mGo) dyn, 0, 0)) (h := (139, [(8, .int v14_r9), (7, .int v12_r9), (6, .int v7_r9), (5, .int v5_m9), (4, .int v5_r9), (0, .ref 25), (1, .int t), (2, .int w), (3, .int f)], [], hq g c1 c2 c3 c4 c5 c6 c7 c8 c9 c10 c11 c12 c13 c14 c15 c16 c17 c18 c19 c20 c21 c22 c23 c24 (hc25 mTy mTm mMn mFn mRn mTn mVn mLr mTr mFl v12_m9 v12_p9 mSc v5_p9 mEn) (hc26 mPa) (hc27 mTo) (hc28 mOt) (hc29 mNa) (hc30 mRe) (hc31 mMa) (hc32 mMy) (hc33 mPm) (hc34 mFy) (hc35 mFa) (hc36 mFr) (hc37 mFo) (hc38 mRt) (hc39 mRm) (hc40 mTt) (hc41 mTi) (hc42 mPl) (hc43 mVr) (hc44 mVf) (hc45 mVc) (hc46 mAr) (hc47 mTc) (hc48 v12_f9) (hc49 mGo) dyn, 0, 0)) rfl (fun h37 => ?_) (fun h37 => ?_)
        ·
          have h37 := qT_ne (cx := (v14_r9).toInt) (cy := (v12_m9).toInt) rfl rfl h37
          refine pm_go (g := (146, _, [.int (-12)], _, 0, 0)) rfl ?_
          refine pm_ret rfl (k0 _ _ _ _ _ ⟨_, _, _, _, h2, h9, ?_⟩ (by omega))
          exact Or.inr (Or.inr (Or.inr (Or.inr ⟨(fun ⟨a, b, c⟩ => by have c1 := hA2.mpr c; omega), (fun ⟨a, b, c⟩ => by have c1 := hS1.mpr c; omega), rfl, rfl, by omega, (fun ⟨a, b⟩ => by have c1 := hS1.mpr a; have c2 := hA2.mpr b; omega), rfl⟩)))
        have h37 := qF_ne (cx := (v14_r9).toInt) (cy := (v12_m9).toInt) rfl rfl h37
        refine pm_go (g := (141, _, [.int (-13)], _, 0, 0)) rfl ?_
        refine pm_go (g := (146, _, [.int (-13)], _, 0, 0)) rfl ?_
        refine pm_ret rfl (k0 _ _ _ _ _ ⟨_, _, _, _, h2, h9, ?_⟩ (by omega))
        exact Or.inr (Or.inr (Or.inr (Or.inl ⟨(fun ⟨a, b, c⟩ => by have c1 := hA2.mpr c; omega), (fun ⟨a, b, c⟩ => by have c1 := hS1.mpr c; omega), rfl, rfl, by omega, ⟨hS1.mp (by omega), hA2.mp (by omega)⟩, rfl⟩)))
      have h35 := qF_ne (cx := (v5_m9).toInt) (cy := 0) rfl (by decide) h35
      refine pm_go (g := (114, _, [.ref 25], _, 0, 0)) rfl ?_
      refine pm_go (g := (117, _, [.int v12_m9], _, 0, 0)) rfl ?_
      refine pm_if2 (g := (125, [(8, .int v14_r9), (7, .int v12_r9), (6, .int v7_r9), (5, .int v5_m9), (4, .int v5_r9), (0, .ref 25), (1, .int t), (2, .int w), (3, .int f)], [], hq g c1 c2 c3 c4 c5 c6 c7 c8 c9 c10 c11 c12 c13 c14 c15 c16 c17 c18 c19 c20 c21 c22 c23 c24 (hc25 mTy mTm mMn mFn mRn mTn mVn mLr mTr mFl v12_m9 v12_p9 mSc v5_p9 mEn) (hc26 mPa) (hc27 mTo) (hc28 mOt) (hc29 mNa) (hc30 mRe) (hc31 mMa) (hc32 mMy) (hc33 mPm) (hc34 mFy) (hc35 mFa) (hc36 mFr) (hc37 mFo) (hc38 mRt) (hc39 mRm) (hc40 mTt) (hc41 mTi) (hc42 mPl) (hc43 mVr) (hc44 mVf) (hc45 mVc) (hc46 mAr) (hc47 mTc) (hc48 v12_f9) (hc49 mGo) dyn, 0, 0)) (h := (120, [(8, .int v14_r9), (7, .int v12_r9), (6, .int v7_r9), (5, .int v5_m9), (4, .int v5_r9), (0, .ref 25), (1, .int t), (2, .int w), (3, .int f)], [], hq g c1 c2 c3 c4 c5 c6 c7 c8 c9 c10 c11 c12 c13 c14 c15 c16 c17 c18 c19 c20 c21 c22 c23 c24 (hc25 mTy mTm mMn mFn mRn mTn mVn mLr mTr mFl v12_m9 v12_p9 mSc v5_p9 mEn) (hc26 mPa) (hc27 mTo) (hc28 mOt) (hc29 mNa) (hc30 mRe) (hc31 mMa) (hc32 mMy) (hc33 mPm) (hc34 mFy) (hc35 mFa) (hc36 mFr) (hc37 mFo) (hc38 mRt) (hc39 mRm) (hc40 mTt) (hc41 mTi) (hc42 mPl) (hc43 mVr) (hc44 mVf) (hc45 mVc) (hc46 mAr) (hc47 mTc) (hc48 v12_f9) (hc49 mGo) dyn, 0, 0)) rfl (fun h38 => ?_) (fun h38 => ?_)
      ·
        have h38 := qT_ne (cx := (v12_m9).toInt) (cy := 0) rfl (by decide) h38
        refine pm_go (g := (127, _, [.int v7_r9], _, 0, 0)) rfl ?_
        refine pm_if2 (g := (144, [(8, .int v14_r9), (7, .int v12_r9), (6, .int v7_r9), (5, .int v5_m9), (4, .int v5_r9), (0, .ref 25), (1, .int t), (2, .int w), (3, .int f)], [], hq g c1 c2 c3 c4 c5 c6 c7 c8 c9 c10 c11 c12 c13 c14 c15 c16 c17 c18 c19 c20 c21 c22 c23 c24 (hc25 mTy mTm mMn mFn mRn mTn mVn mLr mTr mFl v12_m9 v12_p9 mSc v5_p9 mEn) (hc26 mPa) (hc27 mTo) (hc28 mOt) (hc29 mNa) (hc30 mRe) (hc31 mMa) (hc32 mMy) (hc33 mPm) (hc34 mFy) (hc35 mFa) (hc36 mFr) (hc37 mFo) (hc38 mRt) (hc39 mRm) (hc40 mTt) (hc41 mTi) (hc42 mPl) (hc43 mVr) (hc44 mVf) (hc45 mVc) (hc46 mAr) (hc47 mTc) (hc48 v12_f9) (hc49 mGo) dyn, 0, 0)) (h := (130, [(8, .int v14_r9), (7, .int v12_r9), (6, .int v7_r9), (5, .int v5_m9), (4, .int v5_r9), (0, .ref 25), (1, .int t), (2, .int w), (3, .int f)], [], hq g c1 c2 c3 c4 c5 c6 c7 c8 c9 c10 c11 c12 c13 c14 c15 c16 c17 c18 c19 c20 c21 c22 c23 c24 (hc25 mTy mTm mMn mFn mRn mTn mVn mLr mTr mFl v12_m9 v12_p9 mSc v5_p9 mEn) (hc26 mPa) (hc27 mTo) (hc28 mOt) (hc29 mNa) (hc30 mRe) (hc31 mMa) (hc32 mMy) (hc33 mPm) (hc34 mFy) (hc35 mFa) (hc36 mFr) (hc37 mFo) (hc38 mRt) (hc39 mRm) (hc40 mTt) (hc41 mTi) (hc42 mPl) (hc43 mVr) (hc44 mVf) (hc45 mVc) (hc46 mAr) (hc47 mTc) (hc48 v12_f9) (hc49 mGo) dyn, 0, 0)) rfl (fun h39 => ?_) (fun h39 => ?_)
        ·
          have h39 := qT_ne (cx := (v7_r9).toInt) (cy := 0) rfl (by decide) h39
          refine pm_go (g := (146, _, [.int (-12)], _, 0, 0)) rfl ?_
          refine pm_ret rfl (k0 _ _ _ _ _ ⟨_, _, _, _, h2, h9, ?_⟩ (by omega))
          exact Or.inr (Or.inr (Or.inr (Or.inr ⟨(fun ⟨a, b, c⟩ => by have c1 := hA2.mpr c; omega), (fun ⟨a, b, c⟩ => by have c1 := hS1.mpr c; omega), rfl, rfl, by omega, (fun ⟨a, b⟩ => by have c1 := hS1.mpr a; have c2 := hA2.mpr b; omega), rfl⟩)))
        have h39 := qF_ne (cx := (v7_r9).toInt) (cy := 0) rfl (by decide) h39
        refine pm_go (g := (132, _, [.int v14_r9], _, 0, 0)) rfl ?_
        refine pm_go (g := (133, _, [.ref 25, .int v14_r9], _, 0, 0)) rfl ?_
        refine pm_go (g := (136, _, [.int v12_m9, .int v14_r9], _, 0, 0)) rfl ?_
        refine pm_if2 (g := (144, [(8, .int v14_r9), (7, .int v12_r9), (6, .int v7_r9), (5, .int v5_m9), (4, .int v5_r9), (0, .ref 25), (1, .int t), (2, .int w), (3, .int f)], [], hq g c1 c2 c3 c4 c5 c6 c7 c8 c9 c10 c11 c12 c13 c14 c15 c16 c17 c18 c19 c20 c21 c22 c23 c24 (hc25 mTy mTm mMn mFn mRn mTn mVn mLr mTr mFl v12_m9 v12_p9 mSc v5_p9 mEn) (hc26 mPa) (hc27 mTo) (hc28 mOt) (hc29 mNa) (hc30 mRe) (hc31 mMa) (hc32 mMy) (hc33 mPm) (hc34 mFy) (hc35 mFa) (hc36 mFr) (hc37 mFo) (hc38 mRt) (hc39 mRm) (hc40 mTt) (hc41 mTi) (hc42 mPl) (hc43 mVr) (hc44 mVf) (hc45 mVc) (hc46 mAr) (hc47 mTc) (hc48 v12_f9) (hc49 mGo) dyn, 0, 0)) (h := (139, [(8, .int v14_r9), (7, .int v12_r9), (6, .int v7_r9), (5, .int v5_m9), (4, .int v5_r9), (0, .ref 25), (1, .int t), (2, .int w), (3, .int f)], [], hq g c1 c2 c3 c4 c5 c6 c7 c8 c9 c10 c11 c12 c13 c14 c15 c16 c17 c18 c19 c20 c21 c22 c23 c24 (hc25 mTy mTm mMn mFn mRn mTn mVn mLr mTr mFl v12_m9 v12_p9 mSc v5_p9 mEn) (hc26 mPa) (hc27 mTo) (hc28 mOt) (hc29 mNa) (hc30 mRe) (hc31 mMa) (hc32 mMy) (hc33 mPm) (hc34 mFy) (hc35 mFa) (hc36 mFr) (hc37 mFo) (hc38 mRt) (hc39 mRm) (hc40 mTt) (hc41 mTi) (hc42 mPl) (hc43 mVr) (hc44 mVf) (hc45 mVc) (hc46 mAr) (hc47 mTc) (hc48 v12_f9) (hc49 mGo) dyn, 0, 0)) rfl (fun h40 => ?_) (fun h40 => ?_)
        ·
          have h40 := qT_ne (cx := (v14_r9).toInt) (cy := (v12_m9).toInt) rfl rfl h40
          refine pm_go (g := (146, _, [.int (-12)], _, 0, 0)) rfl ?_
          refine pm_ret rfl (k0 _ _ _ _ _ ⟨_, _, _, _, h2, h9, ?_⟩ (by omega))
          exact Or.inr (Or.inr (Or.inr (Or.inr ⟨(fun ⟨a, b, c⟩ => by have c1 := hA2.mpr c; omega), (fun ⟨a, b, c⟩ => by have c1 := hS1.mpr c; omega), rfl, rfl, by omega, (fun ⟨a, b⟩ => by have c1 := hS1.mpr a; have c2 := hA2.mpr b; omega), rfl⟩)))
        have h40 := qF_ne (cx := (v14_r9).toInt) (cy := (v12_m9).toInt) rfl rfl h40
        refine pm_go (g := (141, _, [.int (-13)], _, 0, 0)) rfl ?_
        refine pm_go (g := (146, _, [.int (-13)], _, 0, 0)) rfl ?_
        refine pm_ret rfl (k0 _ _ _ _ _ ⟨_, _, _, _, h2, h9, ?_⟩ (by omega))
        exact Or.inr (Or.inr (Or.inr (Or.inl ⟨(fun ⟨a, b, c⟩ => by have c1 := hA2.mpr c; omega), (fun ⟨a, b, c⟩ => by have c1 := hS1.mpr c; omega), rfl, rfl, by omega, ⟨hS1.mp (by omega), hA2.mp (by omega)⟩, rfl⟩)))
      have h38 := qF_ne (cx := (v12_m9).toInt) (cy := 0) rfl (by decide) h38
      refine pm_go (g := (122, _, [.int (-11)], _, 0, 0)) rfl ?_
      refine pm_go (g := (146, _, [.int (-11)], _, 0, 0)) rfl ?_
      refine pm_ret rfl (k0 _ _ _ _ _ ⟨_, _, _, _, h2, h9, ?_⟩ (by omega))
      exact Or.inr (Or.inr (Or.inl ⟨(fun ⟨a, b, c⟩ => by have c1 := hA2.mpr c; omega), (fun ⟨a, b, c⟩ => by have c1 := hS1.mpr c; omega), rfl, rfl, by omega, rfl⟩))
    have h34 := qF_ne (cx := (v7_r9).toInt) (cy := 0) rfl (by decide) h34
    refine pm_go (g := (93, _, [.ref 25], _, 0, 0)) rfl ?_
    refine pm_go (g := (94, _, [.int 1, .ref 25], _, 0, 0)) rfl ?_
    refine pm_go (g := (97, _, [], hq g c1 c2 c3 c4 c5 c6 c7 c8 c9 c10 c11 c12 c13 c14 c15 c16 c17 c18 c19 c20 c21 c22 c23 c24 (hc25 mTy mTm mMn mFn mRn mTn mVn mLr mTr mFl v12_m9 v12_p9 1 v5_p9 mEn) (hc26 mPa) (hc27 mTo) (hc28 mOt) (hc29 mNa) (hc30 mRe) (hc31 mMa) (hc32 mMy) (hc33 mPm) (hc34 mFy) (hc35 mFa) (hc36 mFr) (hc37 mFo) (hc38 mRt) (hc39 mRm) (hc40 mTt) (hc41 mTi) (hc42 mPl) (hc43 mVr) (hc44 mVf) (hc45 mVc) (hc46 mAr) (hc47 mTc) (hc48 v12_f9) (hc49 mGo) dyn, 0, 0)) rfl ?_
    refine pm_go (g := (98, _, [.ref 25], _, 0, 0)) rfl ?_
    refine pm_go (g := (99, _, [.ref 25, .ref 25], _, 0, 0)) rfl ?_
    refine pm_go (g := (102, _, [.int v12_p9, .ref 25], _, 0, 0)) rfl ?_
    refine pm_go (g := (105, _, [], hq g c1 c2 c3 c4 c5 c6 c7 c8 c9 c10 c11 c12 c13 c14 c15 c16 c17 c18 c19 c20 c21 c22 c23 c24 (hc25 mTy mTm mMn mFn mRn mTn mVn mLr mTr mFl v12_m9 v12_p9 1 v12_p9 mEn) (hc26 mPa) (hc27 mTo) (hc28 mOt) (hc29 mNa) (hc30 mRe) (hc31 mMa) (hc32 mMy) (hc33 mPm) (hc34 mFy) (hc35 mFa) (hc36 mFr) (hc37 mFo) (hc38 mRt) (hc39 mRm) (hc40 mTt) (hc41 mTi) (hc42 mPl) (hc43 mVr) (hc44 mVf) (hc45 mVc) (hc46 mAr) (hc47 mTc) (hc48 v12_f9) (hc49 mGo) dyn, 0, 0)) rfl ?_
    refine pm_go (g := (107, _, [.int v12_r9], _, 0, 0)) rfl ?_
    refine pm_ret rfl (k1 _ _ _ _ _ ⟨_, _, _, _, h2, h9, ?_⟩ (by omega))
    exact Or.inr (Or.inl ⟨(fun ⟨a, b, c⟩ => by have c1 := hA2.mpr c; omega), ⟨by omega, by omega, hS1.mp (by omega)⟩, rfl, rfl, rfl⟩)
  have h16 := qF_lt (cx := (v5_r9).toInt) (cy := 0) rfl (by decide) h16
  refine pm_go (g := (51, _, [.ref 25], hq g c1 c2 c3 c4 c5 c6 c7 c8 c9 c10 c11 c12 c13 c14 c15 c16 c17 c18 c19 c20 c21 c22 c23 c24 (hc25 mTy mTm mMn mFn mRn mTn mVn mLr mTr mFl v12_m9 v12_p9 mSc v5_p9 mEn) (hc26 mPa) (hc27 mTo) (hc28 mOt) (hc29 mNa) (hc30 mRe) (hc31 mMa) (hc32 mMy) (hc33 mPm) (hc34 mFy) (hc35 mFa) (hc36 mFr) (hc37 mFo) (hc38 mRt) (hc39 mRm) (hc40 mTt) (hc41 mTi) (hc42 mPl) (hc43 mVr) (hc44 mVf) (hc45 mVc) (hc46 mAr) (hc47 mTc) (hc48 v12_f9) (hc49 mGo) dyn, 0, 0)) rfl ?_
  refine pm_go (g := (53, _, [.int v5_r9, .ref 25], _, 0, 0)) rfl ?_
  refine pm_go (g := (54, _, [.int 1, .int v5_r9, .ref 25], _, 0, 0)) rfl ?_
  refine pm_callD (z := 139) (as := [.ref 25, .int v5_r9, .int 1]) (rest := []) rfl ?_
  have h41 : (1 : Int32).toInt = 1 := by decide
  refine w_X12_isMark v5_r9 1 (by omega) (fun h42 => ?_) (fun h43 => ?_)
  ·
    show pm_WP 155 (57, [(8, .int v14_r9), (7, .int v12_r9), (6, .int v7_r9), (5, .int v5_m9), (4, .int v5_r9), (0, .ref 25), (1, .int t), (2, .int w), (3, .int f)], [.int 1], _, 0, 0) _
    refine pm_brF (h := (60, [(8, .int v14_r9), (7, .int v12_r9), (6, .int v7_r9), (5, .int v5_m9), (4, .int v5_r9), (0, .ref 25), (1, .int t), (2, .int w), (3, .int f)], [], hq g c1 c2 c3 c4 c5 c6 c7 c8 c9 c10 c11 c12 c13 c14 c15 c16 c17 c18 c19 c20 c21 c22 c23 c24 (hc25 mTy mTm mMn mFn mRn mTn mVn mLr mTr mFl v12_m9 v12_p9 mSc v5_p9 mEn) (hc26 mPa) (hc27 mTo) (hc28 mOt) (hc29 mNa) (hc30 mRe) (hc31 mMa) (hc32 mMy) (hc33 mPm) (hc34 mFy) (hc35 mFa) (hc36 mFr) (hc37 mFo) (hc38 mRt) (hc39 mRm) (hc40 mTt) (hc41 mTi) (hc42 mPl) (hc43 mVr) (hc44 mVf) (hc45 mVc) (hc46 mAr) (hc47 mTc) (hc48 v12_f9) (hc49 mGo) dyn, 0, 0)) rfl ?_
    refine pm_go (g := (62, _, [.int v14_r9], _, 0, 0)) rfl ?_
    refine pm_go (g := (63, _, [.ref 25, .int v14_r9], _, 0, 0)) rfl ?_
    refine pm_go (g := (66, _, [.int v12_m9, .int v14_r9], _, 0, 0)) rfl ?_
    refine pm_if2 (g := (72, [(8, .int v14_r9), (7, .int v12_r9), (6, .int v7_r9), (5, .int v5_m9), (4, .int v5_r9), (0, .ref 25), (1, .int t), (2, .int w), (3, .int f)], [], hq g c1 c2 c3 c4 c5 c6 c7 c8 c9 c10 c11 c12 c13 c14 c15 c16 c17 c18 c19 c20 c21 c22 c23 c24 (hc25 mTy mTm mMn mFn mRn mTn mVn mLr mTr mFl v12_m9 v12_p9 mSc v5_p9 mEn) (hc26 mPa) (hc27 mTo) (hc28 mOt) (hc29 mNa) (hc30 mRe) (hc31 mMa) (hc32 mMy) (hc33 mPm) (hc34 mFy) (hc35 mFa) (hc36 mFr) (hc37 mFo) (hc38 mRt) (hc39 mRm) (hc40 mTt) (hc41 mTi) (hc42 mPl) (hc43 mVr) (hc44 mVf) (hc45 mVc) (hc46 mAr) (hc47 mTc) (hc48 v12_f9) (hc49 mGo) dyn, 0, 0)) (h := (69, [(8, .int v14_r9), (7, .int v12_r9), (6, .int v7_r9), (5, .int v5_m9), (4, .int v5_r9), (0, .ref 25), (1, .int t), (2, .int w), (3, .int f)], [], hq g c1 c2 c3 c4 c5 c6 c7 c8 c9 c10 c11 c12 c13 c14 c15 c16 c17 c18 c19 c20 c21 c22 c23 c24 (hc25 mTy mTm mMn mFn mRn mTn mVn mLr mTr mFl v12_m9 v12_p9 mSc v5_p9 mEn) (hc26 mPa) (hc27 mTo) (hc28 mOt) (hc29 mNa) (hc30 mRe) (hc31 mMa) (hc32 mMy) (hc33 mPm) (hc34 mFy) (hc35 mFa) (hc36 mFr) (hc37 mFo) (hc38 mRt) (hc39 mRm) (hc40 mTt) (hc41 mTi) (hc42 mPl) (hc43 mVr) (hc44 mVf) (hc45 mVc) (hc46 mAr) (hc47 mTc) (hc48 v12_f9) (hc49 mGo) dyn, 0, 0)) rfl (fun h45 => ?_) (fun h45 => ?_)
    ·
      have h45 := qT_ne (cx := (v14_r9).toInt) (cy := (v12_m9).toInt) rfl rfl h45
      refine pm_go (g := (74, _, [.int v12_r9], _, 0, 0)) rfl ?_
      refine pm_if2 (g := (108, [(8, .int v14_r9), (7, .int v12_r9), (6, .int v7_r9), (5, .int v5_m9), (4, .int v5_r9), (0, .ref 25), (1, .int t), (2, .int w), (3, .int f)], [], hq g c1 c2 c3 c4 c5 c6 c7 c8 c9 c10 c11 c12 c13 c14 c15 c16 c17 c18 c19 c20 c21 c22 c23 c24 (hc25 mTy mTm mMn mFn mRn mTn mVn mLr mTr mFl v12_m9 v12_p9 mSc v5_p9 mEn) (hc26 mPa) (hc27 mTo) (hc28 mOt) (hc29 mNa) (hc30 mRe) (hc31 mMa) (hc32 mMy) (hc33 mPm) (hc34 mFy) (hc35 mFa) (hc36 mFr) (hc37 mFo) (hc38 mRt) (hc39 mRm) (hc40 mTt) (hc41 mTi) (hc42 mPl) (hc43 mVr) (hc44 mVf) (hc45 mVc) (hc46 mAr) (hc47 mTc) (hc48 v12_f9) (hc49 mGo) dyn, 0, 0)) (h := (77, [(8, .int v14_r9), (7, .int v12_r9), (6, .int v7_r9), (5, .int v5_m9), (4, .int v5_r9), (0, .ref 25), (1, .int t), (2, .int w), (3, .int f)], [], hq g c1 c2 c3 c4 c5 c6 c7 c8 c9 c10 c11 c12 c13 c14 c15 c16 c17 c18 c19 c20 c21 c22 c23 c24 (hc25 mTy mTm mMn mFn mRn mTn mVn mLr mTr mFl v12_m9 v12_p9 mSc v5_p9 mEn) (hc26 mPa) (hc27 mTo) (hc28 mOt) (hc29 mNa) (hc30 mRe) (hc31 mMa) (hc32 mMy) (hc33 mPm) (hc34 mFy) (hc35 mFa) (hc36 mFr) (hc37 mFo) (hc38 mRt) (hc39 mRm) (hc40 mTt) (hc41 mTi) (hc42 mPl) (hc43 mVr) (hc44 mVf) (hc45 mVc) (hc46 mAr) (hc47 mTc) (hc48 v12_f9) (hc49 mGo) dyn, 0, 0)) rfl (fun h46 => ?_) (fun h46 => ?_)
      ·
        have h46 := qT_lt (cx := (v12_r9).toInt) (cy := 0) rfl (by decide) h46
        refine pm_go (g := (110, _, [.int v5_m9], _, 0, 0)) rfl ?_
        refine pm_if2 (g := (125, [(8, .int v14_r9), (7, .int v12_r9), (6, .int v7_r9), (5, .int v5_m9), (4, .int v5_r9), (0, .ref 25), (1, .int t), (2, .int w), (3, .int f)], [], hq g c1 c2 c3 c4 c5 c6 c7 c8 c9 c10 c11 c12 c13 c14 c15 c16 c17 c18 c19 c20 c21 c22 c23 c24 (hc25 mTy mTm mMn mFn mRn mTn mVn mLr mTr mFl v12_m9 v12_p9 mSc v5_p9 mEn) (hc26 mPa) (hc27 mTo) (hc28 mOt) (hc29 mNa) (hc30 mRe) (hc31 mMa) (hc32 mMy) (hc33 mPm) (hc34 mFy) (hc35 mFa) (hc36 mFr) (hc37 mFo) (hc38 mRt) (hc39 mRm) (hc40 mTt) (hc41 mTi) (hc42 mPl) (hc43 mVr) (hc44 mVf) (hc45 mVc) (hc46 mAr) (hc47 mTc) (hc48 v12_f9) (hc49 mGo) dyn, 0, 0)) (h := (113, [(8, .int v14_r9), (7, .int v12_r9), (6, .int v7_r9), (5, .int v5_m9), (4, .int v5_r9), (0, .ref 25), (1, .int t), (2, .int w), (3, .int f)], [], hq g c1 c2 c3 c4 c5 c6 c7 c8 c9 c10 c11 c12 c13 c14 c15 c16 c17 c18 c19 c20 c21 c22 c23 c24 (hc25 mTy mTm mMn mFn mRn mTn mVn mLr mTr mFl v12_m9 v12_p9 mSc v5_p9 mEn) (hc26 mPa) (hc27 mTo) (hc28 mOt) (hc29 mNa) (hc30 mRe) (hc31 mMa) (hc32 mMy) (hc33 mPm) (hc34 mFy) (hc35 mFa) (hc36 mFr) (hc37 mFo) (hc38 mRt) (hc39 mRm) (hc40 mTt) (hc41 mTi) (hc42 mPl) (hc43 mVr) (hc44 mVf) (hc45 mVc) (hc46 mAr) (hc47 mTc) (hc48 v12_f9) (hc49 mGo) dyn, 0, 0)) rfl (fun h47 => ?_) (fun h47 => ?_)
        ·
          have h47 := qT_ne (cx := (v5_m9).toInt) (cy := 0) rfl (by decide) h47
          refine pm_go (g := (127, _, [.int v7_r9], _, 0, 0)) rfl ?_
          refine pm_if2 (g := (144, [(8, .int v14_r9), (7, .int v12_r9), (6, .int v7_r9), (5, .int v5_m9), (4, .int v5_r9), (0, .ref 25), (1, .int t), (2, .int w), (3, .int f)], [], hq g c1 c2 c3 c4 c5 c6 c7 c8 c9 c10 c11 c12 c13 c14 c15 c16 c17 c18 c19 c20 c21 c22 c23 c24 (hc25 mTy mTm mMn mFn mRn mTn mVn mLr mTr mFl v12_m9 v12_p9 mSc v5_p9 mEn) (hc26 mPa) (hc27 mTo) (hc28 mOt) (hc29 mNa) (hc30 mRe) (hc31 mMa) (hc32 mMy) (hc33 mPm) (hc34 mFy) (hc35 mFa) (hc36 mFr) (hc37 mFo) (hc38 mRt) (hc39 mRm) (hc40 mTt) (hc41 mTi) (hc42 mPl) (hc43 mVr) (hc44 mVf) (hc45 mVc) (hc46 mAr) (hc47 mTc) (hc48 v12_f9) (hc49 mGo) dyn, 0, 0)) (h := (130, [(8, .int v14_r9), (7, .int v12_r9), (6, .int v7_r9), (5, .int v5_m9), (4, .int v5_r9), (0, .ref 25), (1, .int t), (2, .int w), (3, .int f)], [], hq g c1 c2 c3 c4 c5 c6 c7 c8 c9 c10 c11 c12 c13 c14 c15 c16 c17 c18 c19 c20 c21 c22 c23 c24 (hc25 mTy mTm mMn mFn mRn mTn mVn mLr mTr mFl v12_m9 v12_p9 mSc v5_p9 mEn) (hc26 mPa) (hc27 mTo) (hc28 mOt) (hc29 mNa) (hc30 mRe) (hc31 mMa) (hc32 mMy) (hc33 mPm) (hc34 mFy) (hc35 mFa) (hc36 mFr) (hc37 mFo) (hc38 mRt) (hc39 mRm) (hc40 mTt) (hc41 mTi) (hc42 mPl) (hc43 mVr) (hc44 mVf) (hc45 mVc) (hc46 mAr) (hc47 mTc) (hc48 v12_f9) (hc49 mGo) dyn, 0, 0)) rfl (fun h48 => ?_) (fun h48 => ?_)
          ·
            have h48 := qT_ne (cx := (v7_r9).toInt) (cy := 0) rfl (by decide) h48
            refine pm_go (g := (146, _, [.int (-12)], _, 0, 0)) rfl ?_
            refine pm_ret rfl (k0 _ _ _ _ _ ⟨_, _, _, _, h2, h9, ?_⟩ (by omega))
            exact Or.inr (Or.inr (Or.inr (Or.inr ⟨(fun ⟨a, b, c⟩ => by have c1 := hA2.mpr c; omega), (fun ⟨a, b, c⟩ => by have c1 := hS1.mpr c; omega), rfl, rfl, by omega, (fun ⟨a, b⟩ => by have c1 := hS1.mpr a; have c2 := hA2.mpr b; omega), rfl⟩)))
          have h48 := qF_ne (cx := (v7_r9).toInt) (cy := 0) rfl (by decide) h48
          refine pm_go (g := (132, _, [.int v14_r9], _, 0, 0)) rfl ?_
          refine pm_go (g := (133, _, [.ref 25, .int v14_r9], _, 0, 0)) rfl ?_
          refine pm_go (g := (136, _, [.int v12_m9, .int v14_r9], _, 0, 0)) rfl ?_
          refine pm_if2 (g := (144, [(8, .int v14_r9), (7, .int v12_r9), (6, .int v7_r9), (5, .int v5_m9), (4, .int v5_r9), (0, .ref 25), (1, .int t), (2, .int w), (3, .int f)], [], hq g c1 c2 c3 c4 c5 c6 c7 c8 c9 c10 c11 c12 c13 c14 c15 c16 c17 c18 c19 c20 c21 c22 c23 c24 (hc25 mTy mTm mMn mFn mRn mTn mVn mLr mTr mFl v12_m9 v12_p9 mSc v5_p9 mEn) (hc26 mPa) (hc27 mTo) (hc28 mOt) (hc29 mNa) (hc30 mRe) (hc31 mMa) (hc32 mMy) (hc33 mPm) (hc34 mFy) (hc35 mFa) (hc36 mFr) (hc37 mFo) (hc38 mRt) (hc39 mRm) (hc40 mTt) (hc41 mTi) (hc42 mPl) (hc43 mVr) (hc44 mVf) (hc45 mVc) (hc46 mAr) (hc47 mTc) (hc48 v12_f9) (hc49 mGo) dyn, 0, 0)) (h := (139, [(8, .int v14_r9), (7, .int v12_r9), (6, .int v7_r9), (5, .int v5_m9), (4, .int v5_r9), (0, .ref 25), (1, .int t), (2, .int w), (3, .int f)], [], hq g c1 c2 c3 c4 c5 c6 c7 c8 c9 c10 c11 c12 c13 c14 c15 c16 c17 c18 c19 c20 c21 c22 c23 c24 (hc25 mTy mTm mMn mFn mRn mTn mVn mLr mTr mFl v12_m9 v12_p9 mSc v5_p9 mEn) (hc26 mPa) (hc27 mTo) (hc28 mOt) (hc29 mNa) (hc30 mRe) (hc31 mMa) (hc32 mMy) (hc33 mPm) (hc34 mFy) (hc35 mFa) (hc36 mFr) (hc37 mFo) (hc38 mRt) (hc39 mRm) (hc40 mTt) (hc41 mTi) (hc42 mPl) (hc43 mVr) (hc44 mVf) (hc45 mVc) (hc46 mAr) (hc47 mTc) (hc48 v12_f9) (hc49 mGo) dyn, 0, 0)) rfl (fun h49 => ?_) (fun h49 => ?_)
          ·
            have h49 := qT_ne (cx := (v14_r9).toInt) (cy := (v12_m9).toInt) rfl rfl h49
            refine pm_go (g := (146, _, [.int (-12)], _, 0, 0)) rfl ?_
            refine pm_ret rfl (k0 _ _ _ _ _ ⟨_, _, _, _, h2, h9, ?_⟩ (by omega))
            exact Or.inr (Or.inr (Or.inr (Or.inr ⟨(fun ⟨a, b, c⟩ => by have c1 := hA2.mpr c; omega), (fun ⟨a, b, c⟩ => by have c1 := hS1.mpr c; omega), rfl, rfl, by omega, (fun ⟨a, b⟩ => by have c1 := hS1.mpr a; have c2 := hA2.mpr b; omega), rfl⟩)))
          have h49 := qF_ne (cx := (v14_r9).toInt) (cy := (v12_m9).toInt) rfl rfl h49
          refine pm_go (g := (141, _, [.int (-13)], _, 0, 0)) rfl ?_
          refine pm_go (g := (146, _, [.int (-13)], _, 0, 0)) rfl ?_
          refine pm_ret rfl (k0 _ _ _ _ _ ⟨_, _, _, _, h2, h9, ?_⟩ (by omega))
          exact Or.inr (Or.inr (Or.inr (Or.inl ⟨(fun ⟨a, b, c⟩ => by have c1 := hA2.mpr c; omega), (fun ⟨a, b, c⟩ => by have c1 := hS1.mpr c; omega), rfl, rfl, by omega, ⟨hS1.mp (by omega), hA2.mp (by omega)⟩, rfl⟩)))
        have h47 := qF_ne (cx := (v5_m9).toInt) (cy := 0) rfl (by decide) h47
        refine pm_go (g := (114, _, [.ref 25], _, 0, 0)) rfl ?_
        refine pm_go (g := (117, _, [.int v12_m9], _, 0, 0)) rfl ?_
        refine pm_if2 (g := (125, [(8, .int v14_r9), (7, .int v12_r9), (6, .int v7_r9), (5, .int v5_m9), (4, .int v5_r9), (0, .ref 25), (1, .int t), (2, .int w), (3, .int f)], [], hq g c1 c2 c3 c4 c5 c6 c7 c8 c9 c10 c11 c12 c13 c14 c15 c16 c17 c18 c19 c20 c21 c22 c23 c24 (hc25 mTy mTm mMn mFn mRn mTn mVn mLr mTr mFl v12_m9 v12_p9 mSc v5_p9 mEn) (hc26 mPa) (hc27 mTo) (hc28 mOt) (hc29 mNa) (hc30 mRe) (hc31 mMa) (hc32 mMy) (hc33 mPm) (hc34 mFy) (hc35 mFa) (hc36 mFr) (hc37 mFo) (hc38 mRt) (hc39 mRm) (hc40 mTt) (hc41 mTi) (hc42 mPl) (hc43 mVr) (hc44 mVf) (hc45 mVc) (hc46 mAr) (hc47 mTc) (hc48 v12_f9) (hc49 mGo) dyn, 0, 0)) (h := (120, [(8, .int v14_r9), (7, .int v12_r9), (6, .int v7_r9), (5, .int v5_m9), (4, .int v5_r9), (0, .ref 25), (1, .int t), (2, .int w), (3, .int f)], [], hq g c1 c2 c3 c4 c5 c6 c7 c8 c9 c10 c11 c12 c13 c14 c15 c16 c17 c18 c19 c20 c21 c22 c23 c24 (hc25 mTy mTm mMn mFn mRn mTn mVn mLr mTr mFl v12_m9 v12_p9 mSc v5_p9 mEn) (hc26 mPa) (hc27 mTo) (hc28 mOt) (hc29 mNa) (hc30 mRe) (hc31 mMa) (hc32 mMy) (hc33 mPm) (hc34 mFy) (hc35 mFa) (hc36 mFr) (hc37 mFo) (hc38 mRt) (hc39 mRm) (hc40 mTt) (hc41 mTi) (hc42 mPl) (hc43 mVr) (hc44 mVf) (hc45 mVc) (hc46 mAr) (hc47 mTc) (hc48 v12_f9) (hc49 mGo) dyn, 0, 0)) rfl (fun h50 => ?_) (fun h50 => ?_)
        ·
          have h50 := qT_ne (cx := (v12_m9).toInt) (cy := 0) rfl (by decide) h50
          refine pm_go (g := (127, _, [.int v7_r9], _, 0, 0)) rfl ?_
          refine pm_if2 (g := (144, [(8, .int v14_r9), (7, .int v12_r9), (6, .int v7_r9), (5, .int v5_m9), (4, .int v5_r9), (0, .ref 25), (1, .int t), (2, .int w), (3, .int f)], [], hq g c1 c2 c3 c4 c5 c6 c7 c8 c9 c10 c11 c12 c13 c14 c15 c16 c17 c18 c19 c20 c21 c22 c23 c24 (hc25 mTy mTm mMn mFn mRn mTn mVn mLr mTr mFl v12_m9 v12_p9 mSc v5_p9 mEn) (hc26 mPa) (hc27 mTo) (hc28 mOt) (hc29 mNa) (hc30 mRe) (hc31 mMa) (hc32 mMy) (hc33 mPm) (hc34 mFy) (hc35 mFa) (hc36 mFr) (hc37 mFo) (hc38 mRt) (hc39 mRm) (hc40 mTt) (hc41 mTi) (hc42 mPl) (hc43 mVr) (hc44 mVf) (hc45 mVc) (hc46 mAr) (hc47 mTc) (hc48 v12_f9) (hc49 mGo) dyn, 0, 0)) (h := (130, [(8, .int v14_r9), (7, .int v12_r9), (6, .int v7_r9), (5, .int v5_m9), (4, .int v5_r9), (0, .ref 25), (1, .int t), (2, .int w), (3, .int f)], [], hq g c1 c2 c3 c4 c5 c6 c7 c8 c9 c10 c11 c12 c13 c14 c15 c16 c17 c18 c19 c20 c21 c22 c23 c24 (hc25 mTy mTm mMn mFn mRn mTn mVn mLr mTr mFl v12_m9 v12_p9 mSc v5_p9 mEn) (hc26 mPa) (hc27 mTo) (hc28 mOt) (hc29 mNa) (hc30 mRe) (hc31 mMa) (hc32 mMy) (hc33 mPm) (hc34 mFy) (hc35 mFa) (hc36 mFr) (hc37 mFo) (hc38 mRt) (hc39 mRm) (hc40 mTt) (hc41 mTi) (hc42 mPl) (hc43 mVr) (hc44 mVf) (hc45 mVc) (hc46 mAr) (hc47 mTc) (hc48 v12_f9) (hc49 mGo) dyn, 0, 0)) rfl (fun h51 => ?_) (fun h51 => ?_)
          ·
            have h51 := qT_ne (cx := (v7_r9).toInt) (cy := 0) rfl (by decide) h51
            refine pm_go (g := (146, _, [.int (-12)], _, 0, 0)) rfl ?_
            refine pm_ret rfl (k0 _ _ _ _ _ ⟨_, _, _, _, h2, h9, ?_⟩ (by omega))
            exact Or.inr (Or.inr (Or.inr (Or.inr ⟨(fun ⟨a, b, c⟩ => by have c1 := hA2.mpr c; omega), (fun ⟨a, b, c⟩ => by have c1 := hS1.mpr c; omega), rfl, rfl, by omega, (fun ⟨a, b⟩ => by have c1 := hS1.mpr a; have c2 := hA2.mpr b; omega), rfl⟩)))
          have h51 := qF_ne (cx := (v7_r9).toInt) (cy := 0) rfl (by decide) h51
          refine pm_go (g := (132, _, [.int v14_r9], _, 0, 0)) rfl ?_
          refine pm_go (g := (133, _, [.ref 25, .int v14_r9], _, 0, 0)) rfl ?_
          refine pm_go (g := (136, _, [.int v12_m9, .int v14_r9], _, 0, 0)) rfl ?_
          refine pm_if2 (g := (144, [(8, .int v14_r9), (7, .int v12_r9), (6, .int v7_r9), (5, .int v5_m9), (4, .int v5_r9), (0, .ref 25), (1, .int t), (2, .int w), (3, .int f)], [], hq g c1 c2 c3 c4 c5 c6 c7 c8 c9 c10 c11 c12 c13 c14 c15 c16 c17 c18 c19 c20 c21 c22 c23 c24 (hc25 mTy mTm mMn mFn mRn mTn mVn mLr mTr mFl v12_m9 v12_p9 mSc v5_p9 mEn) (hc26 mPa) (hc27 mTo) (hc28 mOt) (hc29 mNa) (hc30 mRe) (hc31 mMa) (hc32 mMy) (hc33 mPm) (hc34 mFy) (hc35 mFa) (hc36 mFr) (hc37 mFo) (hc38 mRt) (hc39 mRm) (hc40 mTt) (hc41 mTi) (hc42 mPl) (hc43 mVr) (hc44 mVf) (hc45 mVc) (hc46 mAr) (hc47 mTc) (hc48 v12_f9) (hc49 mGo) dyn, 0, 0)) (h := (139, [(8, .int v14_r9), (7, .int v12_r9), (6, .int v7_r9), (5, .int v5_m9), (4, .int v5_r9), (0, .ref 25), (1, .int t), (2, .int w), (3, .int f)], [], hq g c1 c2 c3 c4 c5 c6 c7 c8 c9 c10 c11 c12 c13 c14 c15 c16 c17 c18 c19 c20 c21 c22 c23 c24 (hc25 mTy mTm mMn mFn mRn mTn mVn mLr mTr mFl v12_m9 v12_p9 mSc v5_p9 mEn) (hc26 mPa) (hc27 mTo) (hc28 mOt) (hc29 mNa) (hc30 mRe) (hc31 mMa) (hc32 mMy) (hc33 mPm) (hc34 mFy) (hc35 mFa) (hc36 mFr) (hc37 mFo) (hc38 mRt) (hc39 mRm) (hc40 mTt) (hc41 mTi) (hc42 mPl) (hc43 mVr) (hc44 mVf) (hc45 mVc) (hc46 mAr) (hc47 mTc) (hc48 v12_f9) (hc49 mGo) dyn, 0, 0)) rfl (fun h52 => ?_) (fun h52 => ?_)
          ·
            have h52 := qT_ne (cx := (v14_r9).toInt) (cy := (v12_m9).toInt) rfl rfl h52
            refine pm_go (g := (146, _, [.int (-12)], _, 0, 0)) rfl ?_
            refine pm_ret rfl (k0 _ _ _ _ _ ⟨_, _, _, _, h2, h9, ?_⟩ (by omega))
            exact Or.inr (Or.inr (Or.inr (Or.inr ⟨(fun ⟨a, b, c⟩ => by have c1 := hA2.mpr c; omega), (fun ⟨a, b, c⟩ => by have c1 := hS1.mpr c; omega), rfl, rfl, by omega, (fun ⟨a, b⟩ => by have c1 := hS1.mpr a; have c2 := hA2.mpr b; omega), rfl⟩)))
          have h52 := qF_ne (cx := (v14_r9).toInt) (cy := (v12_m9).toInt) rfl rfl h52
          refine pm_go (g := (141, _, [.int (-13)], _, 0, 0)) rfl ?_
          refine pm_go (g := (146, _, [.int (-13)], _, 0, 0)) rfl ?_
          refine pm_ret rfl (k0 _ _ _ _ _ ⟨_, _, _, _, h2, h9, ?_⟩ (by omega))
          exact Or.inr (Or.inr (Or.inr (Or.inl ⟨(fun ⟨a, b, c⟩ => by have c1 := hA2.mpr c; omega), (fun ⟨a, b, c⟩ => by have c1 := hS1.mpr c; omega), rfl, rfl, by omega, ⟨hS1.mp (by omega), hA2.mp (by omega)⟩, rfl⟩)))
        have h50 := qF_ne (cx := (v12_m9).toInt) (cy := 0) rfl (by decide) h50
        refine pm_go (g := (122, _, [.int (-11)], _, 0, 0)) rfl ?_
        refine pm_go (g := (146, _, [.int (-11)], _, 0, 0)) rfl ?_
        refine pm_ret rfl (k0 _ _ _ _ _ ⟨_, _, _, _, h2, h9, ?_⟩ (by omega))
        exact Or.inr (Or.inr (Or.inl ⟨(fun ⟨a, b, c⟩ => by have c1 := hA2.mpr c; omega), (fun ⟨a, b, c⟩ => by have c1 := hS1.mpr c; omega), rfl, rfl, by omega, rfl⟩))
      have h46 := qF_lt (cx := (v12_r9).toInt) (cy := 0) rfl (by decide) h46
      refine pm_go (g := (78, _, [.ref 25], _, 0, 0)) rfl ?_
      refine pm_go (g := (80, _, [.int v12_r9, .ref 25], _, 0, 0)) rfl ?_
      refine pm_go (g := (81, _, [.int 1, .int v12_r9, .ref 25], _, 0, 0)) rfl ?_
      refine pm_callD (z := 139) (as := [.ref 25, .int v12_r9, .int 1]) (rest := []) rfl ?_
      have h53 : (1 : Int32).toInt = 1 := by decide
      refine w_X12_isMark v12_r9 1 (by omega) (fun h54 => ?_) (fun h55 => ?_)
      ·
        show pm_WP 155 (84, [(8, .int v14_r9), (7, .int v12_r9), (6, .int v7_r9), (5, .int v5_m9), (4, .int v5_r9), (0, .ref 25), (1, .int t), (2, .int w), (3, .int f)], [.int 1], _, 0, 0) _
        refine pm_brT (g := (108, [(8, .int v14_r9), (7, .int v12_r9), (6, .int v7_r9), (5, .int v5_m9), (4, .int v5_r9), (0, .ref 25), (1, .int t), (2, .int w), (3, .int f)], [], hq g c1 c2 c3 c4 c5 c6 c7 c8 c9 c10 c11 c12 c13 c14 c15 c16 c17 c18 c19 c20 c21 c22 c23 c24 (hc25 mTy mTm mMn mFn mRn mTn mVn mLr mTr mFl v12_m9 v12_p9 mSc v5_p9 mEn) (hc26 mPa) (hc27 mTo) (hc28 mOt) (hc29 mNa) (hc30 mRe) (hc31 mMa) (hc32 mMy) (hc33 mPm) (hc34 mFy) (hc35 mFa) (hc36 mFr) (hc37 mFo) (hc38 mRt) (hc39 mRm) (hc40 mTt) (hc41 mTi) (hc42 mPl) (hc43 mVr) (hc44 mVf) (hc45 mVc) (hc46 mAr) (hc47 mTc) (hc48 v12_f9) (hc49 mGo) dyn, 0, 0)) rfl ?_
        refine pm_go (g := (110, _, [.int v5_m9], _, 0, 0)) rfl ?_
        refine pm_if2 (g := (125, [(8, .int v14_r9), (7, .int v12_r9), (6, .int v7_r9), (5, .int v5_m9), (4, .int v5_r9), (0, .ref 25), (1, .int t), (2, .int w), (3, .int f)], [], hq g c1 c2 c3 c4 c5 c6 c7 c8 c9 c10 c11 c12 c13 c14 c15 c16 c17 c18 c19 c20 c21 c22 c23 c24 (hc25 mTy mTm mMn mFn mRn mTn mVn mLr mTr mFl v12_m9 v12_p9 mSc v5_p9 mEn) (hc26 mPa) (hc27 mTo) (hc28 mOt) (hc29 mNa) (hc30 mRe) (hc31 mMa) (hc32 mMy) (hc33 mPm) (hc34 mFy) (hc35 mFa) (hc36 mFr) (hc37 mFo) (hc38 mRt) (hc39 mRm) (hc40 mTt) (hc41 mTi) (hc42 mPl) (hc43 mVr) (hc44 mVf) (hc45 mVc) (hc46 mAr) (hc47 mTc) (hc48 v12_f9) (hc49 mGo) dyn, 0, 0)) (h := (113, [(8, .int v14_r9), (7, .int v12_r9), (6, .int v7_r9), (5, .int v5_m9), (4, .int v5_r9), (0, .ref 25), (1, .int t), (2, .int w), (3, .int f)], [], hq g c1 c2 c3 c4 c5 c6 c7 c8 c9 c10 c11 c12 c13 c14 c15 c16 c17 c18 c19 c20 c21 c22 c23 c24 (hc25 mTy mTm mMn mFn mRn mTn mVn mLr mTr mFl v12_m9 v12_p9 mSc v5_p9 mEn) (hc26 mPa) (hc27 mTo) (hc28 mOt) (hc29 mNa) (hc30 mRe) (hc31 mMa) (hc32 mMy) (hc33 mPm) (hc34 mFy) (hc35 mFa) (hc36 mFr) (hc37 mFo) (hc38 mRt) (hc39 mRm) (hc40 mTt) (hc41 mTi) (hc42 mPl) (hc43 mVr) (hc44 mVf) (hc45 mVc) (hc46 mAr) (hc47 mTc) (hc48 v12_f9) (hc49 mGo) dyn, 0, 0)) rfl (fun h57 => ?_) (fun h57 => ?_)
        ·
          have h57 := qT_ne (cx := (v5_m9).toInt) (cy := 0) rfl (by decide) h57
          refine pm_go (g := (127, _, [.int v7_r9], _, 0, 0)) rfl ?_
          refine pm_if2 (g := (144, [(8, .int v14_r9), (7, .int v12_r9), (6, .int v7_r9), (5, .int v5_m9), (4, .int v5_r9), (0, .ref 25), (1, .int t), (2, .int w), (3, .int f)], [], hq g c1 c2 c3 c4 c5 c6 c7 c8 c9 c10 c11 c12 c13 c14 c15 c16 c17 c18 c19 c20 c21 c22 c23 c24 (hc25 mTy mTm mMn mFn mRn mTn mVn mLr mTr mFl v12_m9 v12_p9 mSc v5_p9 mEn) (hc26 mPa) (hc27 mTo) (hc28 mOt) (hc29 mNa) (hc30 mRe) (hc31 mMa) (hc32 mMy) (hc33 mPm) (hc34 mFy) (hc35 mFa) (hc36 mFr) (hc37 mFo) (hc38 mRt) (hc39 mRm) (hc40 mTt) (hc41 mTi) (hc42 mPl) (hc43 mVr) (hc44 mVf) (hc45 mVc) (hc46 mAr) (hc47 mTc) (hc48 v12_f9) (hc49 mGo) dyn, 0, 0)) (h := (130, [(8, .int v14_r9), (7, .int v12_r9), (6, .int v7_r9), (5, .int v5_m9), (4, .int v5_r9), (0, .ref 25), (1, .int t), (2, .int w), (3, .int f)], [], hq g c1 c2 c3 c4 c5 c6 c7 c8 c9 c10 c11 c12 c13 c14 c15 c16 c17 c18 c19 c20 c21 c22 c23 c24 (hc25 mTy mTm mMn mFn mRn mTn mVn mLr mTr mFl v12_m9 v12_p9 mSc v5_p9 mEn) (hc26 mPa) (hc27 mTo) (hc28 mOt) (hc29 mNa) (hc30 mRe) (hc31 mMa) (hc32 mMy) (hc33 mPm) (hc34 mFy) (hc35 mFa) (hc36 mFr) (hc37 mFo) (hc38 mRt) (hc39 mRm) (hc40 mTt) (hc41 mTi) (hc42 mPl) (hc43 mVr) (hc44 mVf) (hc45 mVc) (hc46 mAr) (hc47 mTc) (hc48 v12_f9) (hc49 mGo) dyn, 0, 0)) rfl (fun h58 => ?_) (fun h58 => ?_)
          ·
            have h58 := qT_ne (cx := (v7_r9).toInt) (cy := 0) rfl (by decide) h58
            refine pm_go (g := (146, _, [.int (-12)], _, 0, 0)) rfl ?_
            refine pm_ret rfl (k0 _ _ _ _ _ ⟨_, _, _, _, h2, h9, ?_⟩ (by omega))
            exact Or.inr (Or.inr (Or.inr (Or.inr ⟨(fun ⟨a, b, c⟩ => by have c1 := hA2.mpr c; omega), (fun ⟨a, b, c⟩ => by have c1 := hS1.mpr c; omega), rfl, rfl, by omega, (fun ⟨a, b⟩ => by have c1 := hS1.mpr a; have c2 := hA2.mpr b; omega), rfl⟩)))
          have h58 := qF_ne (cx := (v7_r9).toInt) (cy := 0) rfl (by decide) h58
          refine pm_go (g := (132, _, [.int v14_r9], _, 0, 0)) rfl ?_
          refine pm_go (g := (133, _, [.ref 25, .int v14_r9], _, 0, 0)) rfl ?_
          refine pm_go (g := (136, _, [.int v12_m9, .int v14_r9], _, 0, 0)) rfl ?_
          refine pm_if2 (g := (144, [(8, .int v14_r9), (7, .int v12_r9), (6, .int v7_r9), (5, .int v5_m9), (4, .int v5_r9), (0, .ref 25), (1, .int t), (2, .int w), (3, .int f)], [], hq g c1 c2 c3 c4 c5 c6 c7 c8 c9 c10 c11 c12 c13 c14 c15 c16 c17 c18 c19 c20 c21 c22 c23 c24 (hc25 mTy mTm mMn mFn mRn mTn mVn mLr mTr mFl v12_m9 v12_p9 mSc v5_p9 mEn) (hc26 mPa) (hc27 mTo) (hc28 mOt) (hc29 mNa) (hc30 mRe) (hc31 mMa) (hc32 mMy) (hc33 mPm) (hc34 mFy) (hc35 mFa) (hc36 mFr) (hc37 mFo) (hc38 mRt) (hc39 mRm) (hc40 mTt) (hc41 mTi) (hc42 mPl) (hc43 mVr) (hc44 mVf) (hc45 mVc) (hc46 mAr) (hc47 mTc) (hc48 v12_f9) (hc49 mGo) dyn, 0, 0)) (h := (139, [(8, .int v14_r9), (7, .int v12_r9), (6, .int v7_r9), (5, .int v5_m9), (4, .int v5_r9), (0, .ref 25), (1, .int t), (2, .int w), (3, .int f)], [], hq g c1 c2 c3 c4 c5 c6 c7 c8 c9 c10 c11 c12 c13 c14 c15 c16 c17 c18 c19 c20 c21 c22 c23 c24 (hc25 mTy mTm mMn mFn mRn mTn mVn mLr mTr mFl v12_m9 v12_p9 mSc v5_p9 mEn) (hc26 mPa) (hc27 mTo) (hc28 mOt) (hc29 mNa) (hc30 mRe) (hc31 mMa) (hc32 mMy) (hc33 mPm) (hc34 mFy) (hc35 mFa) (hc36 mFr) (hc37 mFo) (hc38 mRt) (hc39 mRm) (hc40 mTt) (hc41 mTi) (hc42 mPl) (hc43 mVr) (hc44 mVf) (hc45 mVc) (hc46 mAr) (hc47 mTc) (hc48 v12_f9) (hc49 mGo) dyn, 0, 0)) rfl (fun h59 => ?_) (fun h59 => ?_)
          ·
            have h59 := qT_ne (cx := (v14_r9).toInt) (cy := (v12_m9).toInt) rfl rfl h59
            refine pm_go (g := (146, _, [.int (-12)], _, 0, 0)) rfl ?_
            refine pm_ret rfl (k0 _ _ _ _ _ ⟨_, _, _, _, h2, h9, ?_⟩ (by omega))
            exact Or.inr (Or.inr (Or.inr (Or.inr ⟨(fun ⟨a, b, c⟩ => by have c1 := hA2.mpr c; omega), (fun ⟨a, b, c⟩ => by have c1 := hS1.mpr c; omega), rfl, rfl, by omega, (fun ⟨a, b⟩ => by have c1 := hS1.mpr a; have c2 := hA2.mpr b; omega), rfl⟩)))
          have h59 := qF_ne (cx := (v14_r9).toInt) (cy := (v12_m9).toInt) rfl rfl h59
          refine pm_go (g := (141, _, [.int (-13)], _, 0, 0)) rfl ?_
          refine pm_go (g := (146, _, [.int (-13)], _, 0, 0)) rfl ?_
          refine pm_ret rfl (k0 _ _ _ _ _ ⟨_, _, _, _, h2, h9, ?_⟩ (by omega))
          exact Or.inr (Or.inr (Or.inr (Or.inl ⟨(fun ⟨a, b, c⟩ => by have c1 := hA2.mpr c; omega), (fun ⟨a, b, c⟩ => by have c1 := hS1.mpr c; omega), rfl, rfl, by omega, ⟨hS1.mp (by omega), hA2.mp (by omega)⟩, rfl⟩)))
        have h57 := qF_ne (cx := (v5_m9).toInt) (cy := 0) rfl (by decide) h57
        refine pm_go (g := (114, _, [.ref 25], _, 0, 0)) rfl ?_
        refine pm_go (g := (117, _, [.int v12_m9], _, 0, 0)) rfl ?_
        refine pm_if2 (g := (125, [(8, .int v14_r9), (7, .int v12_r9), (6, .int v7_r9), (5, .int v5_m9), (4, .int v5_r9), (0, .ref 25), (1, .int t), (2, .int w), (3, .int f)], [], hq g c1 c2 c3 c4 c5 c6 c7 c8 c9 c10 c11 c12 c13 c14 c15 c16 c17 c18 c19 c20 c21 c22 c23 c24 (hc25 mTy mTm mMn mFn mRn mTn mVn mLr mTr mFl v12_m9 v12_p9 mSc v5_p9 mEn) (hc26 mPa) (hc27 mTo) (hc28 mOt) (hc29 mNa) (hc30 mRe) (hc31 mMa) (hc32 mMy) (hc33 mPm) (hc34 mFy) (hc35 mFa) (hc36 mFr) (hc37 mFo) (hc38 mRt) (hc39 mRm) (hc40 mTt) (hc41 mTi) (hc42 mPl) (hc43 mVr) (hc44 mVf) (hc45 mVc) (hc46 mAr) (hc47 mTc) (hc48 v12_f9) (hc49 mGo) dyn, 0, 0)) (h := (120, [(8, .int v14_r9), (7, .int v12_r9), (6, .int v7_r9), (5, .int v5_m9), (4, .int v5_r9), (0, .ref 25), (1, .int t), (2, .int w), (3, .int f)], [], hq g c1 c2 c3 c4 c5 c6 c7 c8 c9 c10 c11 c12 c13 c14 c15 c16 c17 c18 c19 c20 c21 c22 c23 c24 (hc25 mTy mTm mMn mFn mRn mTn mVn mLr mTr mFl v12_m9 v12_p9 mSc v5_p9 mEn) (hc26 mPa) (hc27 mTo) (hc28 mOt) (hc29 mNa) (hc30 mRe) (hc31 mMa) (hc32 mMy) (hc33 mPm) (hc34 mFy) (hc35 mFa) (hc36 mFr) (hc37 mFo) (hc38 mRt) (hc39 mRm) (hc40 mTt) (hc41 mTi) (hc42 mPl) (hc43 mVr) (hc44 mVf) (hc45 mVc) (hc46 mAr) (hc47 mTc) (hc48 v12_f9) (hc49 mGo) dyn, 0, 0)) rfl (fun h60 => ?_) (fun h60 => ?_)
        ·
          have h60 := qT_ne (cx := (v12_m9).toInt) (cy := 0) rfl (by decide) h60
          refine pm_go (g := (127, _, [.int v7_r9], _, 0, 0)) rfl ?_
          refine pm_if2 (g := (144, [(8, .int v14_r9), (7, .int v12_r9), (6, .int v7_r9), (5, .int v5_m9), (4, .int v5_r9), (0, .ref 25), (1, .int t), (2, .int w), (3, .int f)], [], hq g c1 c2 c3 c4 c5 c6 c7 c8 c9 c10 c11 c12 c13 c14 c15 c16 c17 c18 c19 c20 c21 c22 c23 c24 (hc25 mTy mTm mMn mFn mRn mTn mVn mLr mTr mFl v12_m9 v12_p9 mSc v5_p9 mEn) (hc26 mPa) (hc27 mTo) (hc28 mOt) (hc29 mNa) (hc30 mRe) (hc31 mMa) (hc32 mMy) (hc33 mPm) (hc34 mFy) (hc35 mFa) (hc36 mFr) (hc37 mFo) (hc38 mRt) (hc39 mRm) (hc40 mTt) (hc41 mTi) (hc42 mPl) (hc43 mVr) (hc44 mVf) (hc45 mVc) (hc46 mAr) (hc47 mTc) (hc48 v12_f9) (hc49 mGo) dyn, 0, 0)) (h := (130, [(8, .int v14_r9), (7, .int v12_r9), (6, .int v7_r9), (5, .int v5_m9), (4, .int v5_r9), (0, .ref 25), (1, .int t), (2, .int w), (3, .int f)], [], hq g c1 c2 c3 c4 c5 c6 c7 c8 c9 c10 c11 c12 c13 c14 c15 c16 c17 c18 c19 c20 c21 c22 c23 c24 (hc25 mTy mTm mMn mFn mRn mTn mVn mLr mTr mFl v12_m9 v12_p9 mSc v5_p9 mEn) (hc26 mPa) (hc27 mTo) (hc28 mOt) (hc29 mNa) (hc30 mRe) (hc31 mMa) (hc32 mMy) (hc33 mPm) (hc34 mFy) (hc35 mFa) (hc36 mFr) (hc37 mFo) (hc38 mRt) (hc39 mRm) (hc40 mTt) (hc41 mTi) (hc42 mPl) (hc43 mVr) (hc44 mVf) (hc45 mVc) (hc46 mAr) (hc47 mTc) (hc48 v12_f9) (hc49 mGo) dyn, 0, 0)) rfl (fun h61 => ?_) (fun h61 => ?_)
          ·
            have h61 := qT_ne (cx := (v7_r9).toInt) (cy := 0) rfl (by decide) h61
            refine pm_go (g := (146, _, [.int (-12)], _, 0, 0)) rfl ?_
            refine pm_ret rfl (k0 _ _ _ _ _ ⟨_, _, _, _, h2, h9, ?_⟩ (by omega))
            exact Or.inr (Or.inr (Or.inr (Or.inr ⟨(fun ⟨a, b, c⟩ => by have c1 := hA2.mpr c; omega), (fun ⟨a, b, c⟩ => by have c1 := hS1.mpr c; omega), rfl, rfl, by omega, (fun ⟨a, b⟩ => by have c1 := hS1.mpr a; have c2 := hA2.mpr b; omega), rfl⟩)))
          have h61 := qF_ne (cx := (v7_r9).toInt) (cy := 0) rfl (by decide) h61
          refine pm_go (g := (132, _, [.int v14_r9], _, 0, 0)) rfl ?_
          refine pm_go (g := (133, _, [.ref 25, .int v14_r9], _, 0, 0)) rfl ?_
          refine pm_go (g := (136, _, [.int v12_m9, .int v14_r9], _, 0, 0)) rfl ?_
          refine pm_if2 (g := (144, [(8, .int v14_r9), (7, .int v12_r9), (6, .int v7_r9), (5, .int v5_m9), (4, .int v5_r9), (0, .ref 25), (1, .int t), (2, .int w), (3, .int f)], [], hq g c1 c2 c3 c4 c5 c6 c7 c8 c9 c10 c11 c12 c13 c14 c15 c16 c17 c18 c19 c20 c21 c22 c23 c24 (hc25 mTy mTm mMn mFn mRn mTn mVn mLr mTr mFl v12_m9 v12_p9 mSc v5_p9 mEn) (hc26 mPa) (hc27 mTo) (hc28 mOt) (hc29 mNa) (hc30 mRe) (hc31 mMa) (hc32 mMy) (hc33 mPm) (hc34 mFy) (hc35 mFa) (hc36 mFr) (hc37 mFo) (hc38 mRt) (hc39 mRm) (hc40 mTt) (hc41 mTi) (hc42 mPl) (hc43 mVr) (hc44 mVf) (hc45 mVc) (hc46 mAr) (hc47 mTc) (hc48 v12_f9) (hc49 mGo) dyn, 0, 0)) (h := (139, [(8, .int v14_r9), (7, .int v12_r9), (6, .int v7_r9), (5, .int v5_m9), (4, .int v5_r9), (0, .ref 25), (1, .int t), (2, .int w), (3, .int f)], [], hq g c1 c2 c3 c4 c5 c6 c7 c8 c9 c10 c11 c12 c13 c14 c15 c16 c17 c18 c19 c20 c21 c22 c23 c24 (hc25 mTy mTm mMn mFn mRn mTn mVn mLr mTr mFl v12_m9 v12_p9 mSc v5_p9 mEn) (hc26 mPa) (hc27 mTo) (hc28 mOt) (hc29 mNa) (hc30 mRe) (hc31 mMa) (hc32 mMy) (hc33 mPm) (hc34 mFy) (hc35 mFa) (hc36 mFr) (hc37 mFo) (hc38 mRt) (hc39 mRm) (hc40 mTt) (hc41 mTi) (hc42 mPl) (hc43 mVr) (hc44 mVf) (hc45 mVc) (hc46 mAr) (hc47 mTc) (hc48 v12_f9) (hc49 mGo) dyn, 0, 0)) rfl (fun h62 => ?_) (fun h62 => ?_)
          ·
            have h62 := qT_ne (cx := (v14_r9).toInt) (cy := (v12_m9).toInt) rfl rfl h62
            refine pm_go (g := (146, _, [.int (-12)], _, 0, 0)) rfl ?_
            refine pm_ret rfl (k0 _ _ _ _ _ ⟨_, _, _, _, h2, h9, ?_⟩ (by omega))
            exact Or.inr (Or.inr (Or.inr (Or.inr ⟨(fun ⟨a, b, c⟩ => by have c1 := hA2.mpr c; omega), (fun ⟨a, b, c⟩ => by have c1 := hS1.mpr c; omega), rfl, rfl, by omega, (fun ⟨a, b⟩ => by have c1 := hS1.mpr a; have c2 := hA2.mpr b; omega), rfl⟩)))
          have h62 := qF_ne (cx := (v14_r9).toInt) (cy := (v12_m9).toInt) rfl rfl h62
          refine pm_go (g := (141, _, [.int (-13)], _, 0, 0)) rfl ?_
          refine pm_go (g := (146, _, [.int (-13)], _, 0, 0)) rfl ?_
          refine pm_ret rfl (k0 _ _ _ _ _ ⟨_, _, _, _, h2, h9, ?_⟩ (by omega))
          exact Or.inr (Or.inr (Or.inr (Or.inl ⟨(fun ⟨a, b, c⟩ => by have c1 := hA2.mpr c; omega), (fun ⟨a, b, c⟩ => by have c1 := hS1.mpr c; omega), rfl, rfl, by omega, ⟨hS1.mp (by omega), hA2.mp (by omega)⟩, rfl⟩)))
        have h60 := qF_ne (cx := (v12_m9).toInt) (cy := 0) rfl (by decide) h60
        refine pm_go (g := (122, _, [.int (-11)], _, 0, 0)) rfl ?_
        refine pm_go (g := (146, _, [.int (-11)], _, 0, 0)) rfl ?_
        refine pm_ret rfl (k0 _ _ _ _ _ ⟨_, _, _, _, h2, h9, ?_⟩ (by omega))
        exact Or.inr (Or.inr (Or.inl ⟨(fun ⟨a, b, c⟩ => by have c1 := hA2.mpr c; omega), (fun ⟨a, b, c⟩ => by have c1 := hS1.mpr c; omega), rfl, rfl, by omega, rfl⟩))
      show pm_WP 155 (84, [(8, .int v14_r9), (7, .int v12_r9), (6, .int v7_r9), (5, .int v5_m9), (4, .int v5_r9), (0, .ref 25), (1, .int t), (2, .int w), (3, .int f)], [.int 0], hq g c1 c2 c3 c4 c5 c6 c7 c8 c9 c10 c11 c12 c13 c14 c15 c16 c17 c18 c19 c20 c21 c22 c23 c24 (hc25 mTy mTm mMn mFn mRn mTn mVn mLr mTr mFl v12_m9 v12_p9 mSc v5_p9 mEn) (hc26 mPa) (hc27 mTo) (hc28 mOt) (hc29 mNa) (hc30 mRe) (hc31 mMa) (hc32 mMy) (hc33 mPm) (hc34 mFy) (hc35 mFa) (hc36 mFr) (hc37 mFo) (hc38 mRt) (hc39 mRm) (hc40 mTt) (hc41 mTi) (hc42 mPl) (hc43 mVr) (hc44 mVf) (hc45 mVc) (hc46 mAr) (hc47 mTc) (hc48 v12_f9) (hc49 mGo) dyn, 0, 0) _
      refine pm_brF (h := (87, [(8, .int v14_r9), (7, .int v12_r9), (6, .int v7_r9), (5, .int v5_m9), (4, .int v5_r9), (0, .ref 25), (1, .int t), (2, .int w), (3, .int f)], [], hq g c1 c2 c3 c4 c5 c6 c7 c8 c9 c10 c11 c12 c13 c14 c15 c16 c17 c18 c19 c20 c21 c22 c23 c24 (hc25 mTy mTm mMn mFn mRn mTn mVn mLr mTr mFl v12_m9 v12_p9 mSc v5_p9 mEn) (hc26 mPa) (hc27 mTo) (hc28 mOt) (hc29 mNa) (hc30 mRe) (hc31 mMa) (hc32 mMy) (hc33 mPm) (hc34 mFy) (hc35 mFa) (hc36 mFr) (hc37 mFo) (hc38 mRt) (hc39 mRm) (hc40 mTt) (hc41 mTi) (hc42 mPl) (hc43 mVr) (hc44 mVf) (hc45 mVc) (hc46 mAr) (hc47 mTc) (hc48 v12_f9) (hc49 mGo) dyn, 0, 0)) rfl ?_
      refine pm_go (g := (89, _, [.int v7_r9], _, 0, 0)) rfl ?_
      refine pm_if2 (g := (108, [(8, .int v14_r9), (7, .int v12_r9), (6, .int v7_r9), (5, .int v5_m9), (4, .int v5_r9), (0, .ref 25), (1, .int t), (2, .int w), (3, .int f)], [], hq g c1 c2 c3 c4 c5 c6 c7 c8 c9 c10 c11 c12 c13 c14 c15 c16 c17 c18 c19 c20 c21 c22 c23 c24 (hc25 mTy mTm mMn mFn mRn mTn mVn mLr mTr mFl v12_m9 v12_p9 mSc v5_p9 mEn) (hc26 mPa) (hc27 mTo) (hc28 mOt) (hc29 mNa) (hc30 mRe) (hc31 mMa) (hc32 mMy) (hc33 mPm) (hc34 mFy) (hc35 mFa) (hc36 mFr) (hc37 mFo) (hc38 mRt) (hc39 mRm) (hc40 mTt) (hc41 mTi) (hc42 mPl) (hc43 mVr) (hc44 mVf) (hc45 mVc) (hc46 mAr) (hc47 mTc) (hc48 v12_f9) (hc49 mGo) dyn, 0, 0)) (h := (92, [(8, .int v14_r9), (7, .int v12_r9), (6, .int v7_r9), (5, .int v5_m9), (4, .int v5_r9), (0, .ref 25), (1, .int t), (2, .int w), (3, .int f)], [], hq g c1 c2 c3 c4 c5 c6 c7 c8 c9 c10 c11 c12 c13 c14 c15 c16 c17 c18 c19 c20 c21 c22 c23 c24 (hc25 mTy mTm mMn mFn mRn mTn mVn mLr mTr mFl v12_m9 v12_p9 mSc v5_p9 mEn) (hc26 mPa) (hc27 mTo) (hc28 mOt) (hc29 mNa) (hc30 mRe) (hc31 mMa) (hc32 mMy) (hc33 mPm) (hc34 mFy) (hc35 mFa) (hc36 mFr) (hc37 mFo) (hc38 mRt) (hc39 mRm) (hc40 mTt) (hc41 mTi) (hc42 mPl) (hc43 mVr) (hc44 mVf) (hc45 mVc) (hc46 mAr) (hc47 mTc) (hc48 v12_f9) (hc49 mGo) dyn, 0, 0)) rfl (fun h63 => ?_) (fun h63 => ?_)
      ·
        have h63 := qT_ne (cx := (v7_r9).toInt) (cy := 0) rfl (by decide) h63
        refine pm_go (g := (110, _, [.int v5_m9], _, 0, 0)) rfl ?_
        refine pm_if2 (g := (125, [(8, .int v14_r9), (7, .int v12_r9), (6, .int v7_r9), (5, .int v5_m9), (4, .int v5_r9), (0, .ref 25), (1, .int t), (2, .int w), (3, .int f)], [], hq g c1 c2 c3 c4 c5 c6 c7 c8 c9 c10 c11 c12 c13 c14 c15 c16 c17 c18 c19 c20 c21 c22 c23 c24 (hc25 mTy mTm mMn mFn mRn mTn mVn mLr mTr mFl v12_m9 v12_p9 mSc v5_p9 mEn) (hc26 mPa) (hc27 mTo) (hc28 mOt) (hc29 mNa) (hc30 mRe) (hc31 mMa) (hc32 mMy) (hc33 mPm) (hc34 mFy) (hc35 mFa) (hc36 mFr) (hc37 mFo) (hc38 mRt) (hc39 mRm) (hc40 mTt) (hc41 mTi) (hc42 mPl) (hc43 mVr) (hc44 mVf) (hc45 mVc) (hc46 mAr) (hc47 mTc) (hc48 v12_f9) (hc49 mGo) dyn, 0, 0)) (h := (113, [(8, .int v14_r9), (7, .int v12_r9), (6, .int v7_r9), (5, .int v5_m9), (4, .int v5_r9), (0, .ref 25), (1, .int t), (2, .int w), (3, .int f)], [], hq g c1 c2 c3 c4 c5 c6 c7 c8 c9 c10 c11 c12 c13 c14 c15 c16 c17 c18 c19 c20 c21 c22 c23 c24 (hc25 mTy mTm mMn mFn mRn mTn mVn mLr mTr mFl v12_m9 v12_p9 mSc v5_p9 mEn) (hc26 mPa) (hc27 mTo) (hc28 mOt) (hc29 mNa) (hc30 mRe) (hc31 mMa) (hc32 mMy) (hc33 mPm) (hc34 mFy) (hc35 mFa) (hc36 mFr) (hc37 mFo) (hc38 mRt) (hc39 mRm) (hc40 mTt) (hc41 mTi) (hc42 mPl) (hc43 mVr) (hc44 mVf) (hc45 mVc) (hc46 mAr) (hc47 mTc) (hc48 v12_f9) (hc49 mGo) dyn, 0, 0)) rfl (fun h64 => ?_) (fun h64 => ?_)
        ·
          have h64 := qT_ne (cx := (v5_m9).toInt) (cy := 0) rfl (by decide) h64
          refine pm_go (g := (127, _, [.int v7_r9], _, 0, 0)) rfl ?_
          refine pm_if2 (g := (144, [(8, .int v14_r9), (7, .int v12_r9), (6, .int v7_r9), (5, .int v5_m9), (4, .int v5_r9), (0, .ref 25), (1, .int t), (2, .int w), (3, .int f)], [], hq g c1 c2 c3 c4 c5 c6 c7 c8 c9 c10 c11 c12 c13 c14 c15 c16 c17 c18 c19 c20 c21 c22 c23 c24 (hc25 mTy mTm mMn mFn mRn mTn mVn mLr mTr mFl v12_m9 v12_p9 mSc v5_p9 mEn) (hc26 mPa) (hc27 mTo) (hc28 mOt) (hc29 mNa) (hc30 mRe) (hc31 mMa) (hc32 mMy) (hc33 mPm) (hc34 mFy) (hc35 mFa) (hc36 mFr) (hc37 mFo) (hc38 mRt) (hc39 mRm) (hc40 mTt) (hc41 mTi) (hc42 mPl) (hc43 mVr) (hc44 mVf) (hc45 mVc) (hc46 mAr) (hc47 mTc) (hc48 v12_f9) (hc49 mGo) dyn, 0, 0)) (h := (130, [(8, .int v14_r9), (7, .int v12_r9), (6, .int v7_r9), (5, .int v5_m9), (4, .int v5_r9), (0, .ref 25), (1, .int t), (2, .int w), (3, .int f)], [], hq g c1 c2 c3 c4 c5 c6 c7 c8 c9 c10 c11 c12 c13 c14 c15 c16 c17 c18 c19 c20 c21 c22 c23 c24 (hc25 mTy mTm mMn mFn mRn mTn mVn mLr mTr mFl v12_m9 v12_p9 mSc v5_p9 mEn) (hc26 mPa) (hc27 mTo) (hc28 mOt) (hc29 mNa) (hc30 mRe) (hc31 mMa) (hc32 mMy) (hc33 mPm) (hc34 mFy) (hc35 mFa) (hc36 mFr) (hc37 mFo) (hc38 mRt) (hc39 mRm) (hc40 mTt) (hc41 mTi) (hc42 mPl) (hc43 mVr) (hc44 mVf) (hc45 mVc) (hc46 mAr) (hc47 mTc) (hc48 v12_f9) (hc49 mGo) dyn, 0, 0)) rfl (fun h65 => ?_) (fun h65 => ?_)
          ·
            have h65 := qT_ne (cx := (v7_r9).toInt) (cy := 0) rfl (by decide) h65
            refine pm_go (g := (146, _, [.int (-12)], _, 0, 0)) rfl ?_
            refine pm_ret rfl (k0 _ _ _ _ _ ⟨_, _, _, _, h2, h9, ?_⟩ (by omega))
            exact Or.inr (Or.inr (Or.inr (Or.inr ⟨(fun ⟨a, b, c⟩ => by have c1 := hA2.mpr c; omega), (fun ⟨a, b, c⟩ => by have c1 := hS1.mpr c; omega), rfl, rfl, by omega, (fun ⟨a, b⟩ => by have c1 := hS1.mpr a; have c2 := hA2.mpr b; omega), rfl⟩)))
          have h65 := qF_ne (cx := (v7_r9).toInt) (cy := 0) rfl (by decide) h65
          refine pm_go (g := (132, _, [.int v14_r9], _, 0, 0)) rfl ?_
          refine pm_go (g := (133, _, [.ref 25, .int v14_r9], _, 0, 0)) rfl ?_
          refine pm_go (g := (136, _, [.int v12_m9, .int v14_r9], _, 0, 0)) rfl ?_
          refine pm_if2 (g := (144, [(8, .int v14_r9), (7, .int v12_r9), (6, .int v7_r9), (5, .int v5_m9), (4, .int v5_r9), (0, .ref 25), (1, .int t), (2, .int w), (3, .int f)], [], hq g c1 c2 c3 c4 c5 c6 c7 c8 c9 c10 c11 c12 c13 c14 c15 c16 c17 c18 c19 c20 c21 c22 c23 c24 (hc25 mTy mTm mMn mFn mRn mTn mVn mLr mTr mFl v12_m9 v12_p9 mSc v5_p9 mEn) (hc26 mPa) (hc27 mTo) (hc28 mOt) (hc29 mNa) (hc30 mRe) (hc31 mMa) (hc32 mMy) (hc33 mPm) (hc34 mFy) (hc35 mFa) (hc36 mFr) (hc37 mFo) (hc38 mRt) (hc39 mRm) (hc40 mTt) (hc41 mTi) (hc42 mPl) (hc43 mVr) (hc44 mVf) (hc45 mVc) (hc46 mAr) (hc47 mTc) (hc48 v12_f9) (hc49 mGo) dyn, 0, 0)) (h := (139, [(8, .int v14_r9), (7, .int v12_r9), (6, .int v7_r9), (5, .int v5_m9), (4, .int v5_r9), (0, .ref 25), (1, .int t), (2, .int w), (3, .int f)], [], hq g c1 c2 c3 c4 c5 c6 c7 c8 c9 c10 c11 c12 c13 c14 c15 c16 c17 c18 c19 c20 c21 c22 c23 c24 (hc25 mTy mTm mMn mFn mRn mTn mVn mLr mTr mFl v12_m9 v12_p9 mSc v5_p9 mEn) (hc26 mPa) (hc27 mTo) (hc28 mOt) (hc29 mNa) (hc30 mRe) (hc31 mMa) (hc32 mMy) (hc33 mPm) (hc34 mFy) (hc35 mFa) (hc36 mFr) (hc37 mFo) (hc38 mRt) (hc39 mRm) (hc40 mTt) (hc41 mTi) (hc42 mPl) (hc43 mVr) (hc44 mVf) (hc45 mVc) (hc46 mAr) (hc47 mTc) (hc48 v12_f9) (hc49 mGo) dyn, 0, 0)) rfl (fun h66 => ?_) (fun h66 => ?_)
          ·
            have h66 := qT_ne (cx := (v14_r9).toInt) (cy := (v12_m9).toInt) rfl rfl h66
            refine pm_go (g := (146, _, [.int (-12)], _, 0, 0)) rfl ?_
            refine pm_ret rfl (k0 _ _ _ _ _ ⟨_, _, _, _, h2, h9, ?_⟩ (by omega))
            exact Or.inr (Or.inr (Or.inr (Or.inr ⟨(fun ⟨a, b, c⟩ => by have c1 := hA2.mpr c; omega), (fun ⟨a, b, c⟩ => by have c1 := hS1.mpr c; omega), rfl, rfl, by omega, (fun ⟨a, b⟩ => by have c1 := hS1.mpr a; have c2 := hA2.mpr b; omega), rfl⟩)))
          have h66 := qF_ne (cx := (v14_r9).toInt) (cy := (v12_m9).toInt) rfl rfl h66
          refine pm_go (g := (141, _, [.int (-13)], _, 0, 0)) rfl ?_
          refine pm_go (g := (146, _, [.int (-13)], _, 0, 0)) rfl ?_
          refine pm_ret rfl (k0 _ _ _ _ _ ⟨_, _, _, _, h2, h9, ?_⟩ (by omega))
          exact Or.inr (Or.inr (Or.inr (Or.inl ⟨(fun ⟨a, b, c⟩ => by have c1 := hA2.mpr c; omega), (fun ⟨a, b, c⟩ => by have c1 := hS1.mpr c; omega), rfl, rfl, by omega, ⟨hS1.mp (by omega), hA2.mp (by omega)⟩, rfl⟩)))
        have h64 := qF_ne (cx := (v5_m9).toInt) (cy := 0) rfl (by decide) h64
        refine pm_go (g := (114, _, [.ref 25], _, 0, 0)) rfl ?_
        refine pm_go (g := (117, _, [.int v12_m9], _, 0, 0)) rfl ?_
        refine pm_if2 (g := (125, [(8, .int v14_r9), (7, .int v12_r9), (6, .int v7_r9), (5, .int v5_m9), (4, .int v5_r9), (0, .ref 25), (1, .int t), (2, .int w), (3, .int f)], [], hq g c1 c2 c3 c4 c5 c6 c7 c8 c9 c10 c11 c12 c13 c14 c15 c16 c17 c18 c19 c20 c21 c22 c23 c24 (hc25 mTy mTm mMn mFn mRn mTn mVn mLr mTr mFl v12_m9 v12_p9 mSc v5_p9 mEn) (hc26 mPa) (hc27 mTo) (hc28 mOt) (hc29 mNa) (hc30 mRe) (hc31 mMa) (hc32 mMy) (hc33 mPm) (hc34 mFy) (hc35 mFa) (hc36 mFr) (hc37 mFo) (hc38 mRt) (hc39 mRm) (hc40 mTt) (hc41 mTi) (hc42 mPl) (hc43 mVr) (hc44 mVf) (hc45 mVc) (hc46 mAr) (hc47 mTc) (hc48 v12_f9) (hc49 mGo) dyn, 0, 0)) (h := (120, [(8, .int v14_r9), (7, .int v12_r9), (6, .int v7_r9), (5, .int v5_m9), (4, .int v5_r9), (0, .ref 25), (1, .int t), (2, .int w), (3, .int f)], [], hq g c1 c2 c3 c4 c5 c6 c7 c8 c9 c10 c11 c12 c13 c14 c15 c16 c17 c18 c19 c20 c21 c22 c23 c24 (hc25 mTy mTm mMn mFn mRn mTn mVn mLr mTr mFl v12_m9 v12_p9 mSc v5_p9 mEn) (hc26 mPa) (hc27 mTo) (hc28 mOt) (hc29 mNa) (hc30 mRe) (hc31 mMa) (hc32 mMy) (hc33 mPm) (hc34 mFy) (hc35 mFa) (hc36 mFr) (hc37 mFo) (hc38 mRt) (hc39 mRm) (hc40 mTt) (hc41 mTi) (hc42 mPl) (hc43 mVr) (hc44 mVf) (hc45 mVc) (hc46 mAr) (hc47 mTc) (hc48 v12_f9) (hc49 mGo) dyn, 0, 0)) rfl (fun h67 => ?_) (fun h67 => ?_)
        ·
          have h67 := qT_ne (cx := (v12_m9).toInt) (cy := 0) rfl (by decide) h67
          refine pm_go (g := (127, _, [.int v7_r9], _, 0, 0)) rfl ?_
          refine pm_if2 (g := (144, [(8, .int v14_r9), (7, .int v12_r9), (6, .int v7_r9), (5, .int v5_m9), (4, .int v5_r9), (0, .ref 25), (1, .int t), (2, .int w), (3, .int f)], [], hq g c1 c2 c3 c4 c5 c6 c7 c8 c9 c10 c11 c12 c13 c14 c15 c16 c17 c18 c19 c20 c21 c22 c23 c24 (hc25 mTy mTm mMn mFn mRn mTn mVn mLr mTr mFl v12_m9 v12_p9 mSc v5_p9 mEn) (hc26 mPa) (hc27 mTo) (hc28 mOt) (hc29 mNa) (hc30 mRe) (hc31 mMa) (hc32 mMy) (hc33 mPm) (hc34 mFy) (hc35 mFa) (hc36 mFr) (hc37 mFo) (hc38 mRt) (hc39 mRm) (hc40 mTt) (hc41 mTi) (hc42 mPl) (hc43 mVr) (hc44 mVf) (hc45 mVc) (hc46 mAr) (hc47 mTc) (hc48 v12_f9) (hc49 mGo) dyn, 0, 0)) (h := (130, [(8, .int v14_r9), (7, .int v12_r9), (6, .int v7_r9), (5, .int v5_m9), (4, .int v5_r9), (0, .ref 25), (1, .int t), (2, .int w), (3, .int f)], [], hq g c1 c2 c3 c4 c5 c6 c7 c8 c9 c10 c11 c12 c13 c14 c15 c16 c17 c18 c19 c20 c21 c22 c23 c24 (hc25 mTy mTm mMn mFn mRn mTn mVn mLr mTr mFl v12_m9 v12_p9 mSc v5_p9 mEn) (hc26 mPa) (hc27 mTo) (hc28 mOt) (hc29 mNa) (hc30 mRe) (hc31 mMa) (hc32 mMy) (hc33 mPm) (hc34 mFy) (hc35 mFa) (hc36 mFr) (hc37 mFo) (hc38 mRt) (hc39 mRm) (hc40 mTt) (hc41 mTi) (hc42 mPl) (hc43 mVr) (hc44 mVf) (hc45 mVc) (hc46 mAr) (hc47 mTc) (hc48 v12_f9) (hc49 mGo) dyn, 0, 0)) rfl (fun h68 => ?_) (fun h68 => ?_)
          ·
            have h68 := qT_ne (cx := (v7_r9).toInt) (cy := 0) rfl (by decide) h68
            refine pm_go (g := (146, _, [.int (-12)], _, 0, 0)) rfl ?_
            refine pm_ret rfl (k0 _ _ _ _ _ ⟨_, _, _, _, h2, h9, ?_⟩ (by omega))
            exact Or.inr (Or.inr (Or.inr (Or.inr ⟨(fun ⟨a, b, c⟩ => by have c1 := hA2.mpr c; omega), (fun ⟨a, b, c⟩ => by have c1 := hS1.mpr c; omega), rfl, rfl, by omega, (fun ⟨a, b⟩ => by have c1 := hS1.mpr a; have c2 := hA2.mpr b; omega), rfl⟩)))
          have h68 := qF_ne (cx := (v7_r9).toInt) (cy := 0) rfl (by decide) h68
          refine pm_go (g := (132, _, [.int v14_r9], _, 0, 0)) rfl ?_
          refine pm_go (g := (133, _, [.ref 25, .int v14_r9], _, 0, 0)) rfl ?_
          refine pm_go (g := (136, _, [.int v12_m9, .int v14_r9], _, 0, 0)) rfl ?_
          refine pm_if2 (g := (144, [(8, .int v14_r9), (7, .int v12_r9), (6, .int v7_r9), (5, .int v5_m9), (4, .int v5_r9), (0, .ref 25), (1, .int t), (2, .int w), (3, .int f)], [], hq g c1 c2 c3 c4 c5 c6 c7 c8 c9 c10 c11 c12 c13 c14 c15 c16 c17 c18 c19 c20 c21 c22 c23 c24 (hc25 mTy mTm mMn mFn mRn mTn mVn mLr mTr mFl v12_m9 v12_p9 mSc v5_p9 mEn) (hc26 mPa) (hc27 mTo) (hc28 mOt) (hc29 mNa) (hc30 mRe) (hc31 mMa) (hc32 mMy) (hc33 mPm) (hc34 mFy) (hc35 mFa) (hc36 mFr) (hc37 mFo) (hc38 mRt) (hc39 mRm) (hc40 mTt) (hc41 mTi) (hc42 mPl) (hc43 mVr) (hc44 mVf) (hc45 mVc) (hc46 mAr) (hc47 mTc) (hc48 v12_f9) (hc49 mGo) dyn, 0, 0)) (h := (139, [(8, .int v14_r9), (7, .int v12_r9), (6, .int v7_r9), (5, .int v5_m9), (4, .int v5_r9), (0, .ref 25), (1, .int t), (2, .int w), (3, .int f)], [], hq g c1 c2 c3 c4 c5 c6 c7 c8 c9 c10 c11 c12 c13 c14 c15 c16 c17 c18 c19 c20 c21 c22 c23 c24 (hc25 mTy mTm mMn mFn mRn mTn mVn mLr mTr mFl v12_m9 v12_p9 mSc v5_p9 mEn) (hc26 mPa) (hc27 mTo) (hc28 mOt) (hc29 mNa) (hc30 mRe) (hc31 mMa) (hc32 mMy) (hc33 mPm) (hc34 mFy) (hc35 mFa) (hc36 mFr) (hc37 mFo) (hc38 mRt) (hc39 mRm) (hc40 mTt) (hc41 mTi) (hc42 mPl) (hc43 mVr) (hc44 mVf) (hc45 mVc) (hc46 mAr) (hc47 mTc) (hc48 v12_f9) (hc49 mGo) dyn, 0, 0)) rfl (fun h69 => ?_) (fun h69 => ?_)
          ·
            have h69 := qT_ne (cx := (v14_r9).toInt) (cy := (v12_m9).toInt) rfl rfl h69
            refine pm_go (g := (146, _, [.int (-12)], _, 0, 0)) rfl ?_
            refine pm_ret rfl (k0 _ _ _ _ _ ⟨_, _, _, _, h2, h9, ?_⟩ (by omega))
            exact Or.inr (Or.inr (Or.inr (Or.inr ⟨(fun ⟨a, b, c⟩ => by have c1 := hA2.mpr c; omega), (fun ⟨a, b, c⟩ => by have c1 := hS1.mpr c; omega), rfl, rfl, by omega, (fun ⟨a, b⟩ => by have c1 := hS1.mpr a; have c2 := hA2.mpr b; omega), rfl⟩)))
          have h69 := qF_ne (cx := (v14_r9).toInt) (cy := (v12_m9).toInt) rfl rfl h69
          refine pm_go (g := (141, _, [.int (-13)], _, 0, 0)) rfl ?_
          refine pm_go (g := (146, _, [.int (-13)], _, 0, 0)) rfl ?_
          refine pm_ret rfl (k0 _ _ _ _ _ ⟨_, _, _, _, h2, h9, ?_⟩ (by omega))
          exact Or.inr (Or.inr (Or.inr (Or.inl ⟨(fun ⟨a, b, c⟩ => by have c1 := hA2.mpr c; omega), (fun ⟨a, b, c⟩ => by have c1 := hS1.mpr c; omega), rfl, rfl, by omega, ⟨hS1.mp (by omega), hA2.mp (by omega)⟩, rfl⟩)))
        have h67 := qF_ne (cx := (v12_m9).toInt) (cy := 0) rfl (by decide) h67
        refine pm_go (g := (122, _, [.int (-11)], _, 0, 0)) rfl ?_
        refine pm_go (g := (146, _, [.int (-11)], _, 0, 0)) rfl ?_
        refine pm_ret rfl (k0 _ _ _ _ _ ⟨_, _, _, _, h2, h9, ?_⟩ (by omega))
        exact Or.inr (Or.inr (Or.inl ⟨(fun ⟨a, b, c⟩ => by have c1 := hA2.mpr c; omega), (fun ⟨a, b, c⟩ => by have c1 := hS1.mpr c; omega), rfl, rfl, by omega, rfl⟩))
      have h63 := qF_ne (cx := (v7_r9).toInt) (cy := 0) rfl (by decide) h63
      refine pm_go (g := (93, _, [.ref 25], _, 0, 0)) rfl ?_
      refine pm_go (g := (94, _, [.int 1, .ref 25], _, 0, 0)) rfl ?_
      refine pm_go (g := (97, _, [], hq g c1 c2 c3 c4 c5 c6 c7 c8 c9 c10 c11 c12 c13 c14 c15 c16 c17 c18 c19 c20 c21 c22 c23 c24 (hc25 mTy mTm mMn mFn mRn mTn mVn mLr mTr mFl v12_m9 v12_p9 1 v5_p9 mEn) (hc26 mPa) (hc27 mTo) (hc28 mOt) (hc29 mNa) (hc30 mRe) (hc31 mMa) (hc32 mMy) (hc33 mPm) (hc34 mFy) (hc35 mFa) (hc36 mFr) (hc37 mFo) (hc38 mRt) (hc39 mRm) (hc40 mTt) (hc41 mTi) (hc42 mPl) (hc43 mVr) (hc44 mVf) (hc45 mVc) (hc46 mAr) (hc47 mTc) (hc48 v12_f9) (hc49 mGo) dyn, 0, 0)) rfl ?_
      refine pm_go (g := (98, _, [.ref 25], _, 0, 0)) rfl ?_
      refine pm_go (g := (99, _, [.ref 25, .ref 25], _, 0, 0)) rfl ?_
      refine pm_go (g := (102, _, [.int v12_p9, .ref 25], _, 0, 0)) rfl ?_
      refine pm_go (g := (105, _, [], hq g c1 c2 c3 c4 c5 c6 c7 c8 c9 c10 c11 c12 c13 c14 c15 c16 c17 c18 c19 c20 c21 c22 c23 c24 (hc25 mTy mTm mMn mFn mRn mTn mVn mLr mTr mFl v12_m9 v12_p9 1 v12_p9 mEn) (hc26 mPa) (hc27 mTo) (hc28 mOt) (hc29 mNa) (hc30 mRe) (hc31 mMa) (hc32 mMy) (hc33 mPm) (hc34 mFy) (hc35 mFa) (hc36 mFr) (hc37 mFo) (hc38 mRt) (hc39 mRm) (hc40 mTt) (hc41 mTi) (hc42 mPl) (hc43 mVr) (hc44 mVf) (hc45 mVc) (hc46 mAr) (hc47 mTc) (hc48 v12_f9) (hc49 mGo) dyn, 0, 0)) rfl ?_
      refine pm_go (g := (107, _, [.int v12_r9], _, 0, 0)) rfl ?_
      refine pm_ret rfl (k1 _ _ _ _ _ ⟨_, _, _, _, h2, h9, ?_⟩ (by omega))
      exact Or.inr (Or.inl ⟨(fun ⟨a, b, c⟩ => by have c1 := hA2.mpr c; omega), ⟨by omega, by omega, hS1.mp (by omega)⟩, rfl, rfl, rfl⟩)
    have h45 := qF_ne (cx := (v14_r9).toInt) (cy := (v12_m9).toInt) rfl rfl h45
    refine pm_go (g := (71, _, [.int v5_r9], hq g c1 c2 c3 c4 c5 c6 c7 c8 c9 c10 c11 c12 c13 c14 c15 c16 c17 c18 c19 c20 c21 c22 c23 c24 (hc25 mTy mTm mMn mFn mRn mTn mVn mLr mTr mFl v12_m9 v12_p9 mSc v5_p9 mEn) (hc26 mPa) (hc27 mTo) (hc28 mOt) (hc29 mNa) (hc30 mRe) (hc31 mMa) (hc32 mMy) (hc33 mPm) (hc34 mFy) (hc35 mFa) (hc36 mFr) (hc37 mFo) (hc38 mRt) (hc39 mRm) (hc40 mTt) (hc41 mTi) (hc42 mPl) (hc43 mVr) (hc44 mVf) (hc45 mVc) (hc46 mAr) (hc47 mTc) (hc48 v12_f9) (hc49 mGo) dyn, 0, 0)) rfl ?_
    refine pm_ret rfl (k0 _ _ _ _ _ ⟨_, _, _, _, h2, h9, ?_⟩ (by omega))
    exact Or.inl ⟨⟨by omega, by omega, hA2.mp (by omega)⟩, rfl, rfl, rfl⟩
  show pm_WP 155 (57, [(8, .int v14_r9), (7, .int v12_r9), (6, .int v7_r9), (5, .int v5_m9), (4, .int v5_r9), (0, .ref 25), (1, .int t), (2, .int w), (3, .int f)], [.int 0], hq g c1 c2 c3 c4 c5 c6 c7 c8 c9 c10 c11 c12 c13 c14 c15 c16 c17 c18 c19 c20 c21 c22 c23 c24 (hc25 mTy mTm mMn mFn mRn mTn mVn mLr mTr mFl v12_m9 v12_p9 mSc v5_p9 mEn) (hc26 mPa) (hc27 mTo) (hc28 mOt) (hc29 mNa) (hc30 mRe) (hc31 mMa) (hc32 mMy) (hc33 mPm) (hc34 mFy) (hc35 mFa) (hc36 mFr) (hc37 mFo) (hc38 mRt) (hc39 mRm) (hc40 mTt) (hc41 mTi) (hc42 mPl) (hc43 mVr) (hc44 mVf) (hc45 mVc) (hc46 mAr) (hc47 mTc) (hc48 v12_f9) (hc49 mGo) dyn, 0, 0) _
  refine pm_brT (g := (72, [(8, .int v14_r9), (7, .int v12_r9), (6, .int v7_r9), (5, .int v5_m9), (4, .int v5_r9), (0, .ref 25), (1, .int t), (2, .int w), (3, .int f)], [], hq g c1 c2 c3 c4 c5 c6 c7 c8 c9 c10 c11 c12 c13 c14 c15 c16 c17 c18 c19 c20 c21 c22 c23 c24 (hc25 mTy mTm mMn mFn mRn mTn mVn mLr mTr mFl v12_m9 v12_p9 mSc v5_p9 mEn) (hc26 mPa) (hc27 mTo) (hc28 mOt) (hc29 mNa) (hc30 mRe) (hc31 mMa) (hc32 mMy) (hc33 mPm) (hc34 mFy) (hc35 mFa) (hc36 mFr) (hc37 mFo) (hc38 mRt) (hc39 mRm) (hc40 mTt) (hc41 mTi) (hc42 mPl) (hc43 mVr) (hc44 mVf) (hc45 mVc) (hc46 mAr) (hc47 mTc) (hc48 v12_f9) (hc49 mGo) dyn, 0, 0)) rfl ?_
  refine pm_go (g := (74, _, [.int v12_r9], _, 0, 0)) rfl ?_
  refine pm_if2 (g := (108, [(8, .int v14_r9), (7, .int v12_r9), (6, .int v7_r9), (5, .int v5_m9), (4, .int v5_r9), (0, .ref 25), (1, .int t), (2, .int w), (3, .int f)], [], hq g c1 c2 c3 c4 c5 c6 c7 c8 c9 c10 c11 c12 c13 c14 c15 c16 c17 c18 c19 c20 c21 c22 c23 c24 (hc25 mTy mTm mMn mFn mRn mTn mVn mLr mTr mFl v12_m9 v12_p9 mSc v5_p9 mEn) (hc26 mPa) (hc27 mTo) (hc28 mOt) (hc29 mNa) (hc30 mRe) (hc31 mMa) (hc32 mMy) (hc33 mPm) (hc34 mFy) (hc35 mFa) (hc36 mFr) (hc37 mFo) (hc38 mRt) (hc39 mRm) (hc40 mTt) (hc41 mTi) (hc42 mPl) (hc43 mVr) (hc44 mVf) (hc45 mVc) (hc46 mAr) (hc47 mTc) (hc48 v12_f9) (hc49 mGo) dyn, 0, 0)) (h := (77, [(8, .int v14_r9), (7, .int v12_r9), (6, .int v7_r9), (5, .int v5_m9), (4, .int v5_r9), (0, .ref 25), (1, .int t), (2, .int w), (3, .int f)], [], hq g c1 c2 c3 c4 c5 c6 c7 c8 c9 c10 c11 c12 c13 c14 c15 c16 c17 c18 c19 c20 c21 c22 c23 c24 (hc25 mTy mTm mMn mFn mRn mTn mVn mLr mTr mFl v12_m9 v12_p9 mSc v5_p9 mEn) (hc26 mPa) (hc27 mTo) (hc28 mOt) (hc29 mNa) (hc30 mRe) (hc31 mMa) (hc32 mMy) (hc33 mPm) (hc34 mFy) (hc35 mFa) (hc36 mFr) (hc37 mFo) (hc38 mRt) (hc39 mRm) (hc40 mTt) (hc41 mTi) (hc42 mPl) (hc43 mVr) (hc44 mVf) (hc45 mVc) (hc46 mAr) (hc47 mTc) (hc48 v12_f9) (hc49 mGo) dyn, 0, 0)) rfl (fun h70 => ?_) (fun h70 => ?_)
  ·
    have h70 := qT_lt (cx := (v12_r9).toInt) (cy := 0) rfl (by decide) h70
    refine pm_go (g := (110, _, [.int v5_m9], _, 0, 0)) rfl ?_
    refine pm_if2 (g := (125, [(8, .int v14_r9), (7, .int v12_r9), (6, .int v7_r9), (5, .int v5_m9), (4, .int v5_r9), (0, .ref 25), (1, .int t), (2, .int w), (3, .int f)], [], hq g c1 c2 c3 c4 c5 c6 c7 c8 c9 c10 c11 c12 c13 c14 c15 c16 c17 c18 c19 c20 c21 c22 c23 c24 (hc25 mTy mTm mMn mFn mRn mTn mVn mLr mTr mFl v12_m9 v12_p9 mSc v5_p9 mEn) (hc26 mPa) (hc27 mTo) (hc28 mOt) (hc29 mNa) (hc30 mRe) (hc31 mMa) (hc32 mMy) (hc33 mPm) (hc34 mFy) (hc35 mFa) (hc36 mFr) (hc37 mFo) (hc38 mRt) (hc39 mRm) (hc40 mTt) (hc41 mTi) (hc42 mPl) (hc43 mVr) (hc44 mVf) (hc45 mVc) (hc46 mAr) (hc47 mTc) (hc48 v12_f9) (hc49 mGo) dyn, 0, 0)) (h := (113, [(8, .int v14_r9), (7, .int v12_r9), (6, .int v7_r9), (5, .int v5_m9), (4, .int v5_r9), (0, .ref 25), (1, .int t), (2, .int w), (3, .int f)], [], hq g c1 c2 c3 c4 c5 c6 c7 c8 c9 c10 c11 c12 c13 c14 c15 c16 c17 c18 c19 c20 c21 c22 c23 c24 (hc25 mTy mTm mMn mFn mRn mTn mVn mLr mTr mFl v12_m9 v12_p9 mSc v5_p9 mEn) (hc26 mPa) (hc27 mTo) (hc28 mOt) (hc29 mNa) (hc30 mRe) (hc31 mMa) (hc32 mMy) (hc33 mPm) (hc34 mFy) (hc35 mFa) (hc36 mFr) (hc37 mFo) (hc38 mRt) (hc39 mRm) (hc40 mTt) (hc41 mTi) (hc42 mPl) (hc43 mVr) (hc44 mVf) (hc45 mVc) (hc46 mAr) (hc47 mTc) (hc48 v12_f9) (hc49 mGo) dyn, 0, 0)) rfl (fun h71 => ?_) (fun h71 => ?_)
    ·
      have h71 := qT_ne (cx := (v5_m9).toInt) (cy := 0) rfl (by decide) h71
      refine pm_go (g := (127, _, [.int v7_r9], _, 0, 0)) rfl ?_
      refine pm_if2 (g := (144, [(8, .int v14_r9), (7, .int v12_r9), (6, .int v7_r9), (5, .int v5_m9), (4, .int v5_r9), (0, .ref 25), (1, .int t), (2, .int w), (3, .int f)], [], hq g c1 c2 c3 c4 c5 c6 c7 c8 c9 c10 c11 c12 c13 c14 c15 c16 c17 c18 c19 c20 c21 c22 c23 c24 (hc25 mTy mTm mMn mFn mRn mTn mVn mLr mTr mFl v12_m9 v12_p9 mSc v5_p9 mEn) (hc26 mPa) (hc27 mTo) (hc28 mOt) (hc29 mNa) (hc30 mRe) (hc31 mMa) (hc32 mMy) (hc33 mPm) (hc34 mFy) (hc35 mFa) (hc36 mFr) (hc37 mFo) (hc38 mRt) (hc39 mRm) (hc40 mTt) (hc41 mTi) (hc42 mPl) (hc43 mVr) (hc44 mVf) (hc45 mVc) (hc46 mAr) (hc47 mTc) (hc48 v12_f9) (hc49 mGo) dyn, 0, 0)) (h := (130, [(8, .int v14_r9), (7, .int v12_r9), (6, .int v7_r9), (5, .int v5_m9), (4, .int v5_r9), (0, .ref 25), (1, .int t), (2, .int w), (3, .int f)], [], hq g c1 c2 c3 c4 c5 c6 c7 c8 c9 c10 c11 c12 c13 c14 c15 c16 c17 c18 c19 c20 c21 c22 c23 c24 (hc25 mTy mTm mMn mFn mRn mTn mVn mLr mTr mFl v12_m9 v12_p9 mSc v5_p9 mEn) (hc26 mPa) (hc27 mTo) (hc28 mOt) (hc29 mNa) (hc30 mRe) (hc31 mMa) (hc32 mMy) (hc33 mPm) (hc34 mFy) (hc35 mFa) (hc36 mFr) (hc37 mFo) (hc38 mRt) (hc39 mRm) (hc40 mTt) (hc41 mTi) (hc42 mPl) (hc43 mVr) (hc44 mVf) (hc45 mVc) (hc46 mAr) (hc47 mTc) (hc48 v12_f9) (hc49 mGo) dyn, 0, 0)) rfl (fun h72 => ?_) (fun h72 => ?_)
      ·
        have h72 := qT_ne (cx := (v7_r9).toInt) (cy := 0) rfl (by decide) h72
        refine pm_go (g := (146, _, [.int (-12)], _, 0, 0)) rfl ?_
        refine pm_ret rfl (k0 _ _ _ _ _ ⟨_, _, _, _, h2, h9, ?_⟩ (by omega))
        exact Or.inr (Or.inr (Or.inr (Or.inr ⟨(fun ⟨a, b, c⟩ => by have c1 := hA2.mpr c; omega), (fun ⟨a, b, c⟩ => by have c1 := hS1.mpr c; omega), rfl, rfl, by omega, (fun ⟨a, b⟩ => by have c1 := hS1.mpr a; have c2 := hA2.mpr b; omega), rfl⟩)))
      have h72 := qF_ne (cx := (v7_r9).toInt) (cy := 0) rfl (by decide) h72
      refine pm_go (g := (132, _, [.int v14_r9], _, 0, 0)) rfl ?_
      refine pm_go (g := (133, _, [.ref 25, .int v14_r9], _, 0, 0)) rfl ?_
      refine pm_go (g := (136, _, [.int v12_m9, .int v14_r9], _, 0, 0)) rfl ?_
      refine pm_if2 (g := (144, [(8, .int v14_r9), (7, .int v12_r9), (6, .int v7_r9), (5, .int v5_m9), (4, .int v5_r9), (0, .ref 25), (1, .int t), (2, .int w), (3, .int f)], [], hq g c1 c2 c3 c4 c5 c6 c7 c8 c9 c10 c11 c12 c13 c14 c15 c16 c17 c18 c19 c20 c21 c22 c23 c24 (hc25 mTy mTm mMn mFn mRn mTn mVn mLr mTr mFl v12_m9 v12_p9 mSc v5_p9 mEn) (hc26 mPa) (hc27 mTo) (hc28 mOt) (hc29 mNa) (hc30 mRe) (hc31 mMa) (hc32 mMy) (hc33 mPm) (hc34 mFy) (hc35 mFa) (hc36 mFr) (hc37 mFo) (hc38 mRt) (hc39 mRm) (hc40 mTt) (hc41 mTi) (hc42 mPl) (hc43 mVr) (hc44 mVf) (hc45 mVc) (hc46 mAr) (hc47 mTc) (hc48 v12_f9) (hc49 mGo) dyn, 0, 0)) (h := (139, [(8, .int v14_r9), (7, .int v12_r9), (6, .int v7_r9), (5, .int v5_m9), (4, .int v5_r9), (0, .ref 25), (1, .int t), (2, .int w), (3, .int f)], [], hq g c1 c2 c3 c4 c5 c6 c7 c8 c9 c10 c11 c12 c13 c14 c15 c16 c17 c18 c19 c20 c21 c22 c23 c24 (hc25 mTy mTm mMn mFn mRn mTn mVn mLr mTr mFl v12_m9 v12_p9 mSc v5_p9 mEn) (hc26 mPa) (hc27 mTo) (hc28 mOt) (hc29 mNa) (hc30 mRe) (hc31 mMa) (hc32 mMy) (hc33 mPm) (hc34 mFy) (hc35 mFa) (hc36 mFr) (hc37 mFo) (hc38 mRt) (hc39 mRm) (hc40 mTt) (hc41 mTi) (hc42 mPl) (hc43 mVr) (hc44 mVf) (hc45 mVc) (hc46 mAr) (hc47 mTc) (hc48 v12_f9) (hc49 mGo) dyn, 0, 0)) rfl (fun h73 => ?_) (fun h73 => ?_)
      ·
        have h73 := qT_ne (cx := (v14_r9).toInt) (cy := (v12_m9).toInt) rfl rfl h73
        refine pm_go (g := (146, _, [.int (-12)], _, 0, 0)) rfl ?_
        refine pm_ret rfl (k0 _ _ _ _ _ ⟨_, _, _, _, h2, h9, ?_⟩ (by omega))
        exact Or.inr (Or.inr (Or.inr (Or.inr ⟨(fun ⟨a, b, c⟩ => by have c1 := hA2.mpr c; omega), (fun ⟨a, b, c⟩ => by have c1 := hS1.mpr c; omega), rfl, rfl, by omega, (fun ⟨a, b⟩ => by have c1 := hS1.mpr a; have c2 := hA2.mpr b; omega), rfl⟩)))
      have h73 := qF_ne (cx := (v14_r9).toInt) (cy := (v12_m9).toInt) rfl rfl h73
      refine pm_go (g := (141, _, [.int (-13)], _, 0, 0)) rfl ?_
      refine pm_go (g := (146, _, [.int (-13)], _, 0, 0)) rfl ?_
      refine pm_ret rfl (k0 _ _ _ _ _ ⟨_, _, _, _, h2, h9, ?_⟩ (by omega))
      exact Or.inr (Or.inr (Or.inr (Or.inl ⟨(fun ⟨a, b, c⟩ => by have c1 := hA2.mpr c; omega), (fun ⟨a, b, c⟩ => by have c1 := hS1.mpr c; omega), rfl, rfl, by omega, ⟨hS1.mp (by omega), hA2.mp (by omega)⟩, rfl⟩)))
    have h71 := qF_ne (cx := (v5_m9).toInt) (cy := 0) rfl (by decide) h71
    refine pm_go (g := (114, _, [.ref 25], _, 0, 0)) rfl ?_
    refine pm_go (g := (117, _, [.int v12_m9], _, 0, 0)) rfl ?_
    refine pm_if2 (g := (125, [(8, .int v14_r9), (7, .int v12_r9), (6, .int v7_r9), (5, .int v5_m9), (4, .int v5_r9), (0, .ref 25), (1, .int t), (2, .int w), (3, .int f)], [], hq g c1 c2 c3 c4 c5 c6 c7 c8 c9 c10 c11 c12 c13 c14 c15 c16 c17 c18 c19 c20 c21 c22 c23 c24 (hc25 mTy mTm mMn mFn mRn mTn mVn mLr mTr mFl v12_m9 v12_p9 mSc v5_p9 mEn) (hc26 mPa) (hc27 mTo) (hc28 mOt) (hc29 mNa) (hc30 mRe) (hc31 mMa) (hc32 mMy) (hc33 mPm) (hc34 mFy) (hc35 mFa) (hc36 mFr) (hc37 mFo) (hc38 mRt) (hc39 mRm) (hc40 mTt) (hc41 mTi) (hc42 mPl) (hc43 mVr) (hc44 mVf) (hc45 mVc) (hc46 mAr) (hc47 mTc) (hc48 v12_f9) (hc49 mGo) dyn, 0, 0)) (h := (120, [(8, .int v14_r9), (7, .int v12_r9), (6, .int v7_r9), (5, .int v5_m9), (4, .int v5_r9), (0, .ref 25), (1, .int t), (2, .int w), (3, .int f)], [], hq g c1 c2 c3 c4 c5 c6 c7 c8 c9 c10 c11 c12 c13 c14 c15 c16 c17 c18 c19 c20 c21 c22 c23 c24 (hc25 mTy mTm mMn mFn mRn mTn mVn mLr mTr mFl v12_m9 v12_p9 mSc v5_p9 mEn) (hc26 mPa) (hc27 mTo) (hc28 mOt) (hc29 mNa) (hc30 mRe) (hc31 mMa) (hc32 mMy) (hc33 mPm) (hc34 mFy) (hc35 mFa) (hc36 mFr) (hc37 mFo) (hc38 mRt) (hc39 mRm) (hc40 mTt) (hc41 mTi) (hc42 mPl) (hc43 mVr) (hc44 mVf) (hc45 mVc) (hc46 mAr) (hc47 mTc) (hc48 v12_f9) (hc49 mGo) dyn, 0, 0)) rfl (fun h74 => ?_) (fun h74 => ?_)
    ·
      have h74 := qT_ne (cx := (v12_m9).toInt) (cy := 0) rfl (by decide) h74
      refine pm_go (g := (127, _, [.int v7_r9], _, 0, 0)) rfl ?_
      refine pm_if2 (g := (144, [(8, .int v14_r9), (7, .int v12_r9), (6, .int v7_r9), (5, .int v5_m9), (4, .int v5_r9), (0, .ref 25), (1, .int t), (2, .int w), (3, .int f)], [], hq g c1 c2 c3 c4 c5 c6 c7 c8 c9 c10 c11 c12 c13 c14 c15 c16 c17 c18 c19 c20 c21 c22 c23 c24 (hc25 mTy mTm mMn mFn mRn mTn mVn mLr mTr mFl v12_m9 v12_p9 mSc v5_p9 mEn) (hc26 mPa) (hc27 mTo) (hc28 mOt) (hc29 mNa) (hc30 mRe) (hc31 mMa) (hc32 mMy) (hc33 mPm) (hc34 mFy) (hc35 mFa) (hc36 mFr) (hc37 mFo) (hc38 mRt) (hc39 mRm) (hc40 mTt) (hc41 mTi) (hc42 mPl) (hc43 mVr) (hc44 mVf) (hc45 mVc) (hc46 mAr) (hc47 mTc) (hc48 v12_f9) (hc49 mGo) dyn, 0, 0)) (h := (130, [(8, .int v14_r9), (7, .int v12_r9), (6, .int v7_r9), (5, .int v5_m9), (4, .int v5_r9), (0, .ref 25), (1, .int t), (2, .int w), (3, .int f)], [], hq g c1 c2 c3 c4 c5 c6 c7 c8 c9 c10 c11 c12 c13 c14 c15 c16 c17 c18 c19 c20 c21 c22 c23 c24 (hc25 mTy mTm mMn mFn mRn mTn mVn mLr mTr mFl v12_m9 v12_p9 mSc v5_p9 mEn) (hc26 mPa) (hc27 mTo) (hc28 mOt) (hc29 mNa) (hc30 mRe) (hc31 mMa) (hc32 mMy) (hc33 mPm) (hc34 mFy) (hc35 mFa) (hc36 mFr) (hc37 mFo) (hc38 mRt) (hc39 mRm) (hc40 mTt) (hc41 mTi) (hc42 mPl) (hc43 mVr) (hc44 mVf) (hc45 mVc) (hc46 mAr) (hc47 mTc) (hc48 v12_f9) (hc49 mGo) dyn, 0, 0)) rfl (fun h75 => ?_) (fun h75 => ?_)
      ·
        have h75 := qT_ne (cx := (v7_r9).toInt) (cy := 0) rfl (by decide) h75
        refine pm_go (g := (146, _, [.int (-12)], _, 0, 0)) rfl ?_
        refine pm_ret rfl (k0 _ _ _ _ _ ⟨_, _, _, _, h2, h9, ?_⟩ (by omega))
        exact Or.inr (Or.inr (Or.inr (Or.inr ⟨(fun ⟨a, b, c⟩ => by have c1 := hA2.mpr c; omega), (fun ⟨a, b, c⟩ => by have c1 := hS1.mpr c; omega), rfl, rfl, by omega, (fun ⟨a, b⟩ => by have c1 := hS1.mpr a; have c2 := hA2.mpr b; omega), rfl⟩)))
      have h75 := qF_ne (cx := (v7_r9).toInt) (cy := 0) rfl (by decide) h75
      refine pm_go (g := (132, _, [.int v14_r9], _, 0, 0)) rfl ?_
      refine pm_go (g := (133, _, [.ref 25, .int v14_r9], _, 0, 0)) rfl ?_
      refine pm_go (g := (136, _, [.int v12_m9, .int v14_r9], _, 0, 0)) rfl ?_
      refine pm_if2 (g := (144, [(8, .int v14_r9), (7, .int v12_r9), (6, .int v7_r9), (5, .int v5_m9), (4, .int v5_r9), (0, .ref 25), (1, .int t), (2, .int w), (3, .int f)], [], hq g c1 c2 c3 c4 c5 c6 c7 c8 c9 c10 c11 c12 c13 c14 c15 c16 c17 c18 c19 c20 c21 c22 c23 c24 (hc25 mTy mTm mMn mFn mRn mTn mVn mLr mTr mFl v12_m9 v12_p9 mSc v5_p9 mEn) (hc26 mPa) (hc27 mTo) (hc28 mOt) (hc29 mNa) (hc30 mRe) (hc31 mMa) (hc32 mMy) (hc33 mPm) (hc34 mFy) (hc35 mFa) (hc36 mFr) (hc37 mFo) (hc38 mRt) (hc39 mRm) (hc40 mTt) (hc41 mTi) (hc42 mPl) (hc43 mVr) (hc44 mVf) (hc45 mVc) (hc46 mAr) (hc47 mTc) (hc48 v12_f9) (hc49 mGo) dyn, 0, 0)) (h := (139, [(8, .int v14_r9), (7, .int v12_r9), (6, .int v7_r9), (5, .int v5_m9), (4, .int v5_r9), (0, .ref 25), (1, .int t), (2, .int w), (3, .int f)], [], hq g c1 c2 c3 c4 c5 c6 c7 c8 c9 c10 c11 c12 c13 c14 c15 c16 c17 c18 c19 c20 c21 c22 c23 c24 (hc25 mTy mTm mMn mFn mRn mTn mVn mLr mTr mFl v12_m9 v12_p9 mSc v5_p9 mEn) (hc26 mPa) (hc27 mTo) (hc28 mOt) (hc29 mNa) (hc30 mRe) (hc31 mMa) (hc32 mMy) (hc33 mPm) (hc34 mFy) (hc35 mFa) (hc36 mFr) (hc37 mFo) (hc38 mRt) (hc39 mRm) (hc40 mTt) (hc41 mTi) (hc42 mPl) (hc43 mVr) (hc44 mVf) (hc45 mVc) (hc46 mAr) (hc47 mTc) (hc48 v12_f9) (hc49 mGo) dyn, 0, 0)) rfl (fun h76 => ?_) (fun h76 => ?_)
      ·
        have h76 := qT_ne (cx := (v14_r9).toInt) (cy := (v12_m9).toInt) rfl rfl h76
        refine pm_go (g := (146, _, [.int (-12)], _, 0, 0)) rfl ?_
        refine pm_ret rfl (k0 _ _ _ _ _ ⟨_, _, _, _, h2, h9, ?_⟩ (by omega))
        exact Or.inr (Or.inr (Or.inr (Or.inr ⟨(fun ⟨a, b, c⟩ => by have c1 := hA2.mpr c; omega), (fun ⟨a, b, c⟩ => by have c1 := hS1.mpr c; omega), rfl, rfl, by omega, (fun ⟨a, b⟩ => by have c1 := hS1.mpr a; have c2 := hA2.mpr b; omega), rfl⟩)))
      have h76 := qF_ne (cx := (v14_r9).toInt) (cy := (v12_m9).toInt) rfl rfl h76
      refine pm_go (g := (141, _, [.int (-13)], _, 0, 0)) rfl ?_
      refine pm_go (g := (146, _, [.int (-13)], _, 0, 0)) rfl ?_
      refine pm_ret rfl (k0 _ _ _ _ _ ⟨_, _, _, _, h2, h9, ?_⟩ (by omega))
      exact Or.inr (Or.inr (Or.inr (Or.inl ⟨(fun ⟨a, b, c⟩ => by have c1 := hA2.mpr c; omega), (fun ⟨a, b, c⟩ => by have c1 := hS1.mpr c; omega), rfl, rfl, by omega, ⟨hS1.mp (by omega), hA2.mp (by omega)⟩, rfl⟩)))
    have h74 := qF_ne (cx := (v12_m9).toInt) (cy := 0) rfl (by decide) h74
    refine pm_go (g := (122, _, [.int (-11)], _, 0, 0)) rfl ?_
    refine pm_go (g := (146, _, [.int (-11)], _, 0, 0)) rfl ?_
    refine pm_ret rfl (k0 _ _ _ _ _ ⟨_, _, _, _, h2, h9, ?_⟩ (by omega))
    exact Or.inr (Or.inr (Or.inl ⟨(fun ⟨a, b, c⟩ => by have c1 := hA2.mpr c; omega), (fun ⟨a, b, c⟩ => by have c1 := hS1.mpr c; omega), rfl, rfl, by omega, rfl⟩))
  have h70 := qF_lt (cx := (v12_r9).toInt) (cy := 0) rfl (by decide) h70
  refine pm_go (g := (78, _, [.ref 25], _, 0, 0)) rfl ?_
  refine pm_go (g := (80, _, [.int v12_r9, .ref 25], _, 0, 0)) rfl ?_
  refine pm_go (g := (81, _, [.int 1, .int v12_r9, .ref 25], _, 0, 0)) rfl ?_
  refine pm_callD (z := 139) (as := [.ref 25, .int v12_r9, .int 1]) (rest := []) rfl ?_
  have h77 : (1 : Int32).toInt = 1 := by decide
  refine w_X12_isMark v12_r9 1 (by omega) (fun h78 => ?_) (fun h79 => ?_)
  ·
    show pm_WP 155 (84, [(8, .int v14_r9), (7, .int v12_r9), (6, .int v7_r9), (5, .int v5_m9), (4, .int v5_r9), (0, .ref 25), (1, .int t), (2, .int w), (3, .int f)], [.int 1], _, 0, 0) _
    refine pm_brT (g := (108, [(8, .int v14_r9), (7, .int v12_r9), (6, .int v7_r9), (5, .int v5_m9), (4, .int v5_r9), (0, .ref 25), (1, .int t), (2, .int w), (3, .int f)], [], hq g c1 c2 c3 c4 c5 c6 c7 c8 c9 c10 c11 c12 c13 c14 c15 c16 c17 c18 c19 c20 c21 c22 c23 c24 (hc25 mTy mTm mMn mFn mRn mTn mVn mLr mTr mFl v12_m9 v12_p9 mSc v5_p9 mEn) (hc26 mPa) (hc27 mTo) (hc28 mOt) (hc29 mNa) (hc30 mRe) (hc31 mMa) (hc32 mMy) (hc33 mPm) (hc34 mFy) (hc35 mFa) (hc36 mFr) (hc37 mFo) (hc38 mRt) (hc39 mRm) (hc40 mTt) (hc41 mTi) (hc42 mPl) (hc43 mVr) (hc44 mVf) (hc45 mVc) (hc46 mAr) (hc47 mTc) (hc48 v12_f9) (hc49 mGo) dyn, 0, 0)) rfl ?_
    refine pm_go (g := (110, _, [.int v5_m9], _, 0, 0)) rfl ?_
    refine pm_if2 (g := (125, [(8, .int v14_r9), (7, .int v12_r9), (6, .int v7_r9), (5, .int v5_m9), (4, .int v5_r9), (0, .ref 25), (1, .int t), (2, .int w), (3, .int f)], [], hq g c1 c2 c3 c4 c5 c6 c7 c8 c9 c10 c11 c12 c13 c14 c15 c16 c17 c18 c19 c20 c21 c22 c23 c24 (hc25 mTy mTm mMn mFn mRn mTn mVn mLr mTr mFl v12_m9 v12_p9 mSc v5_p9 mEn) (hc26 mPa) (hc27 mTo) (hc28 mOt) (hc29 mNa) (hc30 mRe) (hc31 mMa) (hc32 mMy) (hc33 mPm) (hc34 mFy) (hc35 mFa) (hc36 mFr) (hc37 mFo) (hc38 mRt) (hc39 mRm) (hc40 mTt) (hc41 mTi) (hc42 mPl) (hc43 mVr) (hc44 mVf) (hc45 mVc) (hc46 mAr) (hc47 mTc) (hc48 v12_f9) (hc49 mGo) dyn, 0, 0)) (h := (113, [(8, .int v14_r9), (7, .int v12_r9), (6, .int v7_r9), (5, .int v5_m9), (4, .int v5_r9), (0, .ref 25), (1, .int t), (2, .int w), (3, .int f)], [], hq g c1 c2 c3 c4 c5 c6 c7 c8 c9 c10 c11 c12 c13 c14 c15 c16 c17 c18 c19 c20 c21 c22 c23 c24 (hc25 mTy mTm mMn mFn mRn mTn mVn mLr mTr mFl v12_m9 v12_p9 mSc v5_p9 mEn) (hc26 mPa) (hc27 mTo) (hc28 mOt) (hc29 mNa) (hc30 mRe) (hc31 mMa) (hc32 mMy) (hc33 mPm) (hc34 mFy) (hc35 mFa) (hc36 mFr) (hc37 mFo) (hc38 mRt) (hc39 mRm) (hc40 mTt) (hc41 mTi) (hc42 mPl) (hc43 mVr) (hc44 mVf) (hc45 mVc) (hc46 mAr) (hc47 mTc) (hc48 v12_f9) (hc49 mGo) dyn, 0, 0)) rfl (fun h81 => ?_) (fun h81 => ?_)
    ·
      have h81 := qT_ne (cx := (v5_m9).toInt) (cy := 0) rfl (by decide) h81
      refine pm_go (g := (127, _, [.int v7_r9], _, 0, 0)) rfl ?_
      refine pm_if2 (g := (144, [(8, .int v14_r9), (7, .int v12_r9), (6, .int v7_r9), (5, .int v5_m9), (4, .int v5_r9), (0, .ref 25), (1, .int t), (2, .int w), (3, .int f)], [], hq g c1 c2 c3 c4 c5 c6 c7 c8 c9 c10 c11 c12 c13 c14 c15 c16 c17 c18 c19 c20 c21 c22 c23 c24 (hc25 mTy mTm mMn mFn mRn mTn mVn mLr mTr mFl v12_m9 v12_p9 mSc v5_p9 mEn) (hc26 mPa) (hc27 mTo) (hc28 mOt) (hc29 mNa) (hc30 mRe) (hc31 mMa) (hc32 mMy) (hc33 mPm) (hc34 mFy) (hc35 mFa) (hc36 mFr) (hc37 mFo) (hc38 mRt) (hc39 mRm) (hc40 mTt) (hc41 mTi) (hc42 mPl) (hc43 mVr) (hc44 mVf) (hc45 mVc) (hc46 mAr) (hc47 mTc) (hc48 v12_f9) (hc49 mGo) dyn, 0, 0)) (h := (130, [(8, .int v14_r9), (7, .int v12_r9), (6, .int v7_r9), (5, .int v5_m9), (4, .int v5_r9), (0, .ref 25), (1, .int t), (2, .int w), (3, .int f)], [], hq g c1 c2 c3 c4 c5 c6 c7 c8 c9 c10 c11 c12 c13 c14 c15 c16 c17 c18 c19 c20 c21 c22 c23 c24 (hc25 mTy mTm mMn mFn mRn mTn mVn mLr mTr mFl v12_m9 v12_p9 mSc v5_p9 mEn) (hc26 mPa) (hc27 mTo) (hc28 mOt) (hc29 mNa) (hc30 mRe) (hc31 mMa) (hc32 mMy) (hc33 mPm) (hc34 mFy) (hc35 mFa) (hc36 mFr) (hc37 mFo) (hc38 mRt) (hc39 mRm) (hc40 mTt) (hc41 mTi) (hc42 mPl) (hc43 mVr) (hc44 mVf) (hc45 mVc) (hc46 mAr) (hc47 mTc) (hc48 v12_f9) (hc49 mGo) dyn, 0, 0)) rfl (fun h82 => ?_) (fun h82 => ?_)
      ·
        have h82 := qT_ne (cx := (v7_r9).toInt) (cy := 0) rfl (by decide) h82
        refine pm_go (g := (146, _, [.int (-12)], _, 0, 0)) rfl ?_
        refine pm_ret rfl (k0 _ _ _ _ _ ⟨_, _, _, _, h2, h9, ?_⟩ (by omega))
        exact Or.inr (Or.inr (Or.inr (Or.inr ⟨(fun ⟨a, b, c⟩ => by have c1 := hA2.mpr c; omega), (fun ⟨a, b, c⟩ => by have c1 := hS1.mpr c; omega), rfl, rfl, by omega, (fun ⟨a, b⟩ => by have c1 := hS1.mpr a; have c2 := hA2.mpr b; omega), rfl⟩)))
      have h82 := qF_ne (cx := (v7_r9).toInt) (cy := 0) rfl (by decide) h82
      refine pm_go (g := (132, _, [.int v14_r9], _, 0, 0)) rfl ?_
      refine pm_go (g := (133, _, [.ref 25, .int v14_r9], _, 0, 0)) rfl ?_
      refine pm_go (g := (136, _, [.int v12_m9, .int v14_r9], _, 0, 0)) rfl ?_
      refine pm_if2 (g := (144, [(8, .int v14_r9), (7, .int v12_r9), (6, .int v7_r9), (5, .int v5_m9), (4, .int v5_r9), (0, .ref 25), (1, .int t), (2, .int w), (3, .int f)], [], hq g c1 c2 c3 c4 c5 c6 c7 c8 c9 c10 c11 c12 c13 c14 c15 c16 c17 c18 c19 c20 c21 c22 c23 c24 (hc25 mTy mTm mMn mFn mRn mTn mVn mLr mTr mFl v12_m9 v12_p9 mSc v5_p9 mEn) (hc26 mPa) (hc27 mTo) (hc28 mOt) (hc29 mNa) (hc30 mRe) (hc31 mMa) (hc32 mMy) (hc33 mPm) (hc34 mFy) (hc35 mFa) (hc36 mFr) (hc37 mFo) (hc38 mRt) (hc39 mRm) (hc40 mTt) (hc41 mTi) (hc42 mPl) (hc43 mVr) (hc44 mVf) (hc45 mVc) (hc46 mAr) (hc47 mTc) (hc48 v12_f9) (hc49 mGo) dyn, 0, 0)) (h := (139, [(8, .int v14_r9), (7, .int v12_r9), (6, .int v7_r9), (5, .int v5_m9), (4, .int v5_r9), (0, .ref 25), (1, .int t), (2, .int w), (3, .int f)], [], hq g c1 c2 c3 c4 c5 c6 c7 c8 c9 c10 c11 c12 c13 c14 c15 c16 c17 c18 c19 c20 c21 c22 c23 c24 (hc25 mTy mTm mMn mFn mRn mTn mVn mLr mTr mFl v12_m9 v12_p9 mSc v5_p9 mEn) (hc26 mPa) (hc27 mTo) (hc28 mOt) (hc29 mNa) (hc30 mRe) (hc31 mMa) (hc32 mMy) (hc33 mPm) (hc34 mFy) (hc35 mFa) (hc36 mFr) (hc37 mFo) (hc38 mRt) (hc39 mRm) (hc40 mTt) (hc41 mTi) (hc42 mPl) (hc43 mVr) (hc44 mVf) (hc45 mVc) (hc46 mAr) (hc47 mTc) (hc48 v12_f9) (hc49 mGo) dyn, 0, 0)) rfl (fun h83 => ?_) (fun h83 => ?_)
      ·
        have h83 := qT_ne (cx := (v14_r9).toInt) (cy := (v12_m9).toInt) rfl rfl h83
        refine pm_go (g := (146, _, [.int (-12)], _, 0, 0)) rfl ?_
        refine pm_ret rfl (k0 _ _ _ _ _ ⟨_, _, _, _, h2, h9, ?_⟩ (by omega))
        exact Or.inr (Or.inr (Or.inr (Or.inr ⟨(fun ⟨a, b, c⟩ => by have c1 := hA2.mpr c; omega), (fun ⟨a, b, c⟩ => by have c1 := hS1.mpr c; omega), rfl, rfl, by omega, (fun ⟨a, b⟩ => by have c1 := hS1.mpr a; have c2 := hA2.mpr b; omega), rfl⟩)))
      have h83 := qF_ne (cx := (v14_r9).toInt) (cy := (v12_m9).toInt) rfl rfl h83
      refine pm_go (g := (141, _, [.int (-13)], _, 0, 0)) rfl ?_
      refine pm_go (g := (146, _, [.int (-13)], _, 0, 0)) rfl ?_
      refine pm_ret rfl (k0 _ _ _ _ _ ⟨_, _, _, _, h2, h9, ?_⟩ (by omega))
      exact Or.inr (Or.inr (Or.inr (Or.inl ⟨(fun ⟨a, b, c⟩ => by have c1 := hA2.mpr c; omega), (fun ⟨a, b, c⟩ => by have c1 := hS1.mpr c; omega), rfl, rfl, by omega, ⟨hS1.mp (by omega), hA2.mp (by omega)⟩, rfl⟩)))
    have h81 := qF_ne (cx := (v5_m9).toInt) (cy := 0) rfl (by decide) h81
    refine pm_go (g := (114, _, [.ref 25], _, 0, 0)) rfl ?_
    refine pm_go (g := (117, _, [.int v12_m9], _, 0, 0)) rfl ?_
    refine pm_if2 (g := (125, [(8, .int v14_r9), (7, .int v12_r9), (6, .int v7_r9), (5, .int v5_m9), (4, .int v5_r9), (0, .ref 25), (1, .int t), (2, .int w), (3, .int f)], [], hq g c1 c2 c3 c4 c5 c6 c7 c8 c9 c10 c11 c12 c13 c14 c15 c16 c17 c18 c19 c20 c21 c22 c23 c24 (hc25 mTy mTm mMn mFn mRn mTn mVn mLr mTr mFl v12_m9 v12_p9 mSc v5_p9 mEn) (hc26 mPa) (hc27 mTo) (hc28 mOt) (hc29 mNa) (hc30 mRe) (hc31 mMa) (hc32 mMy) (hc33 mPm) (hc34 mFy) (hc35 mFa) (hc36 mFr) (hc37 mFo) (hc38 mRt) (hc39 mRm) (hc40 mTt) (hc41 mTi) (hc42 mPl) (hc43 mVr) (hc44 mVf) (hc45 mVc) (hc46 mAr) (hc47 mTc) (hc48 v12_f9) (hc49 mGo) dyn, 0, 0)) (h := (120, [(8, .int v14_r9), (7, .int v12_r9), (6, .int v7_r9), (5, .int v5_m9), (4, .int v5_r9), (0, .ref 25), (1, .int t), (2, .int w), (3, .int f)], [], hq g c1 c2 c3 c4 c5 c6 c7 c8 c9 c10 c11 c12 c13 c14 c15 c16 c17 c18 c19 c20 c21 c22 c23 c24 (hc25 mTy mTm mMn mFn mRn mTn mVn mLr mTr mFl v12_m9 v12_p9 mSc v5_p9 mEn) (hc26 mPa) (hc27 mTo) (hc28 mOt) (hc29 mNa) (hc30 mRe) (hc31 mMa) (hc32 mMy) (hc33 mPm) (hc34 mFy) (hc35 mFa) (hc36 mFr) (hc37 mFo) (hc38 mRt) (hc39 mRm) (hc40 mTt) (hc41 mTi) (hc42 mPl) (hc43 mVr) (hc44 mVf) (hc45 mVc) (hc46 mAr) (hc47 mTc) (hc48 v12_f9) (hc49 mGo) dyn, 0, 0)) rfl (fun h84 => ?_) (fun h84 => ?_)
    ·
      have h84 := qT_ne (cx := (v12_m9).toInt) (cy := 0) rfl (by decide) h84
      refine pm_go (g := (127, _, [.int v7_r9], _, 0, 0)) rfl ?_
      refine pm_if2 (g := (144, [(8, .int v14_r9), (7, .int v12_r9), (6, .int v7_r9), (5, .int v5_m9), (4, .int v5_r9), (0, .ref 25), (1, .int t), (2, .int w), (3, .int f)], [], hq g c1 c2 c3 c4 c5 c6 c7 c8 c9 c10 c11 c12 c13 c14 c15 c16 c17 c18 c19 c20 c21 c22 c23 c24 (hc25 mTy mTm mMn mFn mRn mTn mVn mLr mTr mFl v12_m9 v12_p9 mSc v5_p9 mEn) (hc26 mPa) (hc27 mTo) (hc28 mOt) (hc29 mNa) (hc30 mRe) (hc31 mMa) (hc32 mMy) (hc33 mPm) (hc34 mFy) (hc35 mFa) (hc36 mFr) (hc37 mFo) (hc38 mRt) (hc39 mRm) (hc40 mTt) (hc41 mTi) (hc42 mPl) (hc43 mVr) (hc44 mVf) (hc45 mVc) (hc46 mAr) (hc47 mTc) (hc48 v12_f9) (hc49 mGo) dyn, 0, 0)) (h := (130, [(8, .int v14_r9), (7, .int v12_r9), (6, .int v7_r9), (5, .int v5_m9), (4, .int v5_r9), (0, .ref 25), (1, .int t), (2, .int w), (3, .int f)], [], hq g c1 c2 c3 c4 c5 c6 c7 c8 c9 c10 c11 c12 c13 c14 c15 c16 c17 c18 c19 c20 c21 c22 c23 c24 (hc25 mTy mTm mMn mFn mRn mTn mVn mLr mTr mFl v12_m9 v12_p9 mSc v5_p9 mEn) (hc26 mPa) (hc27 mTo) (hc28 mOt) (hc29 mNa) (hc30 mRe) (hc31 mMa) (hc32 mMy) (hc33 mPm) (hc34 mFy) (hc35 mFa) (hc36 mFr) (hc37 mFo) (hc38 mRt) (hc39 mRm) (hc40 mTt) (hc41 mTi) (hc42 mPl) (hc43 mVr) (hc44 mVf) (hc45 mVc) (hc46 mAr) (hc47 mTc) (hc48 v12_f9) (hc49 mGo) dyn, 0, 0)) rfl (fun h85 => ?_) (fun h85 => ?_)
      ·
        have h85 := qT_ne (cx := (v7_r9).toInt) (cy := 0) rfl (by decide) h85
        refine pm_go (g := (146, _, [.int (-12)], _, 0, 0)) rfl ?_
        refine pm_ret rfl (k0 _ _ _ _ _ ⟨_, _, _, _, h2, h9, ?_⟩ (by omega))
        exact Or.inr (Or.inr (Or.inr (Or.inr ⟨(fun ⟨a, b, c⟩ => by have c1 := hA2.mpr c; omega), (fun ⟨a, b, c⟩ => by have c1 := hS1.mpr c; omega), rfl, rfl, by omega, (fun ⟨a, b⟩ => by have c1 := hS1.mpr a; have c2 := hA2.mpr b; omega), rfl⟩)))
      have h85 := qF_ne (cx := (v7_r9).toInt) (cy := 0) rfl (by decide) h85
      refine pm_go (g := (132, _, [.int v14_r9], _, 0, 0)) rfl ?_
      refine pm_go (g := (133, _, [.ref 25, .int v14_r9], _, 0, 0)) rfl ?_
      refine pm_go (g := (136, _, [.int v12_m9, .int v14_r9], _, 0, 0)) rfl ?_
      refine pm_if2 (g := (144, [(8, .int v14_r9), (7, .int v12_r9), (6, .int v7_r9), (5, .int v5_m9), (4, .int v5_r9), (0, .ref 25), (1, .int t), (2, .int w), (3, .int f)], [], hq g c1 c2 c3 c4 c5 c6 c7 c8 c9 c10 c11 c12 c13 c14 c15 c16 c17 c18 c19 c20 c21 c22 c23 c24 (hc25 mTy mTm mMn mFn mRn mTn mVn mLr mTr mFl v12_m9 v12_p9 mSc v5_p9 mEn) (hc26 mPa) (hc27 mTo) (hc28 mOt) (hc29 mNa) (hc30 mRe) (hc31 mMa) (hc32 mMy) (hc33 mPm) (hc34 mFy) (hc35 mFa) (hc36 mFr) (hc37 mFo) (hc38 mRt) (hc39 mRm) (hc40 mTt) (hc41 mTi) (hc42 mPl) (hc43 mVr) (hc44 mVf) (hc45 mVc) (hc46 mAr) (hc47 mTc) (hc48 v12_f9) (hc49 mGo) dyn, 0, 0)) (h := (139, [(8, .int v14_r9), (7, .int v12_r9), (6, .int v7_r9), (5, .int v5_m9), (4, .int v5_r9), (0, .ref 25), (1, .int t), (2, .int w), (3, .int f)], [], hq g c1 c2 c3 c4 c5 c6 c7 c8 c9 c10 c11 c12 c13 c14 c15 c16 c17 c18 c19 c20 c21 c22 c23 c24 (hc25 mTy mTm mMn mFn mRn mTn mVn mLr mTr mFl v12_m9 v12_p9 mSc v5_p9 mEn) (hc26 mPa) (hc27 mTo) (hc28 mOt) (hc29 mNa) (hc30 mRe) (hc31 mMa) (hc32 mMy) (hc33 mPm) (hc34 mFy) (hc35 mFa) (hc36 mFr) (hc37 mFo) (hc38 mRt) (hc39 mRm) (hc40 mTt) (hc41 mTi) (hc42 mPl) (hc43 mVr) (hc44 mVf) (hc45 mVc) (hc46 mAr) (hc47 mTc) (hc48 v12_f9) (hc49 mGo) dyn, 0, 0)) rfl (fun h86 => ?_) (fun h86 => ?_)
      ·
        have h86 := qT_ne (cx := (v14_r9).toInt) (cy := (v12_m9).toInt) rfl rfl h86
        refine pm_go (g := (146, _, [.int (-12)], _, 0, 0)) rfl ?_
        refine pm_ret rfl (k0 _ _ _ _ _ ⟨_, _, _, _, h2, h9, ?_⟩ (by omega))
        exact Or.inr (Or.inr (Or.inr (Or.inr ⟨(fun ⟨a, b, c⟩ => by have c1 := hA2.mpr c; omega), (fun ⟨a, b, c⟩ => by have c1 := hS1.mpr c; omega), rfl, rfl, by omega, (fun ⟨a, b⟩ => by have c1 := hS1.mpr a; have c2 := hA2.mpr b; omega), rfl⟩)))
      have h86 := qF_ne (cx := (v14_r9).toInt) (cy := (v12_m9).toInt) rfl rfl h86
      refine pm_go (g := (141, _, [.int (-13)], _, 0, 0)) rfl ?_
      refine pm_go (g := (146, _, [.int (-13)], _, 0, 0)) rfl ?_
      refine pm_ret rfl (k0 _ _ _ _ _ ⟨_, _, _, _, h2, h9, ?_⟩ (by omega))
      exact Or.inr (Or.inr (Or.inr (Or.inl ⟨(fun ⟨a, b, c⟩ => by have c1 := hA2.mpr c; omega), (fun ⟨a, b, c⟩ => by have c1 := hS1.mpr c; omega), rfl, rfl, by omega, ⟨hS1.mp (by omega), hA2.mp (by omega)⟩, rfl⟩)))
    have h84 := qF_ne (cx := (v12_m9).toInt) (cy := 0) rfl (by decide) h84
    refine pm_go (g := (122, _, [.int (-11)], _, 0, 0)) rfl ?_
    refine pm_go (g := (146, _, [.int (-11)], _, 0, 0)) rfl ?_
    refine pm_ret rfl (k0 _ _ _ _ _ ⟨_, _, _, _, h2, h9, ?_⟩ (by omega))
    exact Or.inr (Or.inr (Or.inl ⟨(fun ⟨a, b, c⟩ => by have c1 := hA2.mpr c; omega), (fun ⟨a, b, c⟩ => by have c1 := hS1.mpr c; omega), rfl, rfl, by omega, rfl⟩))
  show pm_WP 155 (84, [(8, .int v14_r9), (7, .int v12_r9), (6, .int v7_r9), (5, .int v5_m9), (4, .int v5_r9), (0, .ref 25), (1, .int t), (2, .int w), (3, .int f)], [.int 0], hq g c1 c2 c3 c4 c5 c6 c7 c8 c9 c10 c11 c12 c13 c14 c15 c16 c17 c18 c19 c20 c21 c22 c23 c24 (hc25 mTy mTm mMn mFn mRn mTn mVn mLr mTr mFl v12_m9 v12_p9 mSc v5_p9 mEn) (hc26 mPa) (hc27 mTo) (hc28 mOt) (hc29 mNa) (hc30 mRe) (hc31 mMa) (hc32 mMy) (hc33 mPm) (hc34 mFy) (hc35 mFa) (hc36 mFr) (hc37 mFo) (hc38 mRt) (hc39 mRm) (hc40 mTt) (hc41 mTi) (hc42 mPl) (hc43 mVr) (hc44 mVf) (hc45 mVc) (hc46 mAr) (hc47 mTc) (hc48 v12_f9) (hc49 mGo) dyn, 0, 0) _
  refine pm_brF (h := (87, [(8, .int v14_r9), (7, .int v12_r9), (6, .int v7_r9), (5, .int v5_m9), (4, .int v5_r9), (0, .ref 25), (1, .int t), (2, .int w), (3, .int f)], [], hq g c1 c2 c3 c4 c5 c6 c7 c8 c9 c10 c11 c12 c13 c14 c15 c16 c17 c18 c19 c20 c21 c22 c23 c24 (hc25 mTy mTm mMn mFn mRn mTn mVn mLr mTr mFl v12_m9 v12_p9 mSc v5_p9 mEn) (hc26 mPa) (hc27 mTo) (hc28 mOt) (hc29 mNa) (hc30 mRe) (hc31 mMa) (hc32 mMy) (hc33 mPm) (hc34 mFy) (hc35 mFa) (hc36 mFr) (hc37 mFo) (hc38 mRt) (hc39 mRm) (hc40 mTt) (hc41 mTi) (hc42 mPl) (hc43 mVr) (hc44 mVf) (hc45 mVc) (hc46 mAr) (hc47 mTc) (hc48 v12_f9) (hc49 mGo) dyn, 0, 0)) rfl ?_
  refine pm_go (g := (89, _, [.int v7_r9], _, 0, 0)) rfl ?_
  refine pm_if2 (g := (108, [(8, .int v14_r9), (7, .int v12_r9), (6, .int v7_r9), (5, .int v5_m9), (4, .int v5_r9), (0, .ref 25), (1, .int t), (2, .int w), (3, .int f)], [], hq g c1 c2 c3 c4 c5 c6 c7 c8 c9 c10 c11 c12 c13 c14 c15 c16 c17 c18 c19 c20 c21 c22 c23 c24 (hc25 mTy mTm mMn mFn mRn mTn mVn mLr mTr mFl v12_m9 v12_p9 mSc v5_p9 mEn) (hc26 mPa) (hc27 mTo) (hc28 mOt) (hc29 mNa) (hc30 mRe) (hc31 mMa) (hc32 mMy) (hc33 mPm) (hc34 mFy) (hc35 mFa) (hc36 mFr) (hc37 mFo) (hc38 mRt) (hc39 mRm) (hc40 mTt) (hc41 mTi) (hc42 mPl) (hc43 mVr) (hc44 mVf) (hc45 mVc) (hc46 mAr) (hc47 mTc) (hc48 v12_f9) (hc49 mGo) dyn, 0, 0)) (h := (92, [(8, .int v14_r9), (7, .int v12_r9), (6, .int v7_r9), (5, .int v5_m9), (4, .int v5_r9), (0, .ref 25), (1, .int t), (2, .int w), (3, .int f)], [], hq g c1 c2 c3 c4 c5 c6 c7 c8 c9 c10 c11 c12 c13 c14 c15 c16 c17 c18 c19 c20 c21 c22 c23 c24 (hc25 mTy mTm mMn mFn mRn mTn mVn mLr mTr mFl v12_m9 v12_p9 mSc v5_p9 mEn) (hc26 mPa) (hc27 mTo) (hc28 mOt) (hc29 mNa) (hc30 mRe) (hc31 mMa) (hc32 mMy) (hc33 mPm) (hc34 mFy) (hc35 mFa) (hc36 mFr) (hc37 mFo) (hc38 mRt) (hc39 mRm) (hc40 mTt) (hc41 mTi) (hc42 mPl) (hc43 mVr) (hc44 mVf) (hc45 mVc) (hc46 mAr) (hc47 mTc) (hc48 v12_f9) (hc49 mGo) dyn, 0, 0)) rfl (fun h87 => ?_) (fun h87 => ?_)
  ·
    have h87 := qT_ne (cx := (v7_r9).toInt) (cy := 0) rfl (by decide) h87
    refine pm_go (g := (110, _, [.int v5_m9], _, 0, 0)) rfl ?_
    refine pm_if2 (g := (125, [(8, .int v14_r9), (7, .int v12_r9), (6, .int v7_r9), (5, .int v5_m9), (4, .int v5_r9), (0, .ref 25), (1, .int t), (2, .int w), (3, .int f)], [], hq g c1 c2 c3 c4 c5 c6 c7 c8 c9 c10 c11 c12 c13 c14 c15 c16 c17 c18 c19 c20 c21 c22 c23 c24 (hc25 mTy mTm mMn mFn mRn mTn mVn mLr mTr mFl v12_m9 v12_p9 mSc v5_p9 mEn) (hc26 mPa) (hc27 mTo) (hc28 mOt) (hc29 mNa) (hc30 mRe) (hc31 mMa) (hc32 mMy) (hc33 mPm) (hc34 mFy) (hc35 mFa) (hc36 mFr) (hc37 mFo) (hc38 mRt) (hc39 mRm) (hc40 mTt) (hc41 mTi) (hc42 mPl) (hc43 mVr) (hc44 mVf) (hc45 mVc) (hc46 mAr) (hc47 mTc) (hc48 v12_f9) (hc49 mGo) dyn, 0, 0)) (h := (113, [(8, .int v14_r9), (7, .int v12_r9), (6, .int v7_r9), (5, .int v5_m9), (4, .int v5_r9), (0, .ref 25), (1, .int t), (2, .int w), (3, .int f)], [], hq g c1 c2 c3 c4 c5 c6 c7 c8 c9 c10 c11 c12 c13 c14 c15 c16 c17 c18 c19 c20 c21 c22 c23 c24 (hc25 mTy mTm mMn mFn mRn mTn mVn mLr mTr mFl v12_m9 v12_p9 mSc v5_p9 mEn) (hc26 mPa) (hc27 mTo) (hc28 mOt) (hc29 mNa) (hc30 mRe) (hc31 mMa) (hc32 mMy) (hc33 mPm) (hc34 mFy) (hc35 mFa) (hc36 mFr) (hc37 mFo) (hc38 mRt) (hc39 mRm) (hc40 mTt) (hc41 mTi) (hc42 mPl) (hc43 mVr) (hc44 mVf) (hc45 mVc) (hc46 mAr) (hc47 mTc) (hc48 v12_f9) (hc49 mGo) dyn, 0, 0)) rfl (fun h88 => ?_) (fun h88 => ?_)
    ·
      have h88 := qT_ne (cx := (v5_m9).toInt) (cy := 0) rfl (by decide) h88
      refine pm_go (g := (127, _, [.int v7_r9], _, 0, 0)) rfl ?_
      refine pm_if2 (g := (144, [(8, .int v14_r9), (7, .int v12_r9), (6, .int v7_r9), (5, .int v5_m9), (4, .int v5_r9), (0, .ref 25), (1, .int t), (2, .int w), (3, .int f)], [], hq g c1 c2 c3 c4 c5 c6 c7 c8 c9 c10 c11 c12 c13 c14 c15 c16 c17 c18 c19 c20 c21 c22 c23 c24 (hc25 mTy mTm mMn mFn mRn mTn mVn mLr mTr mFl v12_m9 v12_p9 mSc v5_p9 mEn) (hc26 mPa) (hc27 mTo) (hc28 mOt) (hc29 mNa) (hc30 mRe) (hc31 mMa) (hc32 mMy) (hc33 mPm) (hc34 mFy) (hc35 mFa) (hc36 mFr) (hc37 mFo) (hc38 mRt) (hc39 mRm) (hc40 mTt) (hc41 mTi) (hc42 mPl) (hc43 mVr) (hc44 mVf) (hc45 mVc) (hc46 mAr) (hc47 mTc) (hc48 v12_f9) (hc49 mGo) dyn, 0, 0)) (h := (130, [(8, .int v14_r9), (7, .int v12_r9), (6, .int v7_r9), (5, .int v5_m9), (4, .int v5_r9), (0, .ref 25), (1, .int t), (2, .int w), (3, .int f)], [], hq g c1 c2 c3 c4 c5 c6 c7 c8 c9 c10 c11 c12 c13 c14 c15 c16 c17 c18 c19 c20 c21 c22 c23 c24 (hc25 mTy mTm mMn mFn mRn mTn mVn mLr mTr mFl v12_m9 v12_p9 mSc v5_p9 mEn) (hc26 mPa) (hc27 mTo) (hc28 mOt) (hc29 mNa) (hc30 mRe) (hc31 mMa) (hc32 mMy) (hc33 mPm) (hc34 mFy) (hc35 mFa) (hc36 mFr) (hc37 mFo) (hc38 mRt) (hc39 mRm) (hc40 mTt) (hc41 mTi) (hc42 mPl) (hc43 mVr) (hc44 mVf) (hc45 mVc) (hc46 mAr) (hc47 mTc) (hc48 v12_f9) (hc49 mGo) dyn, 0, 0)) rfl (fun h89 => ?_) (fun h89 => ?_)
      ·
        have h89 := qT_ne (cx := (v7_r9).toInt) (cy := 0) rfl (by decide) h89
        refine pm_go (g := (146, _, [.int (-12)], _, 0, 0)) rfl ?_
        refine pm_ret rfl (k0 _ _ _ _ _ ⟨_, _, _, _, h2, h9, ?_⟩ (by omega))
        exact Or.inr (Or.inr (Or.inr (Or.inr ⟨(fun ⟨a, b, c⟩ => by have c1 := hA2.mpr c; omega), (fun ⟨a, b, c⟩ => by have c1 := hS1.mpr c; omega), rfl, rfl, by omega, (fun ⟨a, b⟩ => by have c1 := hS1.mpr a; have c2 := hA2.mpr b; omega), rfl⟩)))
      have h89 := qF_ne (cx := (v7_r9).toInt) (cy := 0) rfl (by decide) h89
      refine pm_go (g := (132, _, [.int v14_r9], _, 0, 0)) rfl ?_
      refine pm_go (g := (133, _, [.ref 25, .int v14_r9], _, 0, 0)) rfl ?_
      refine pm_go (g := (136, _, [.int v12_m9, .int v14_r9], _, 0, 0)) rfl ?_
      refine pm_if2 (g := (144, [(8, .int v14_r9), (7, .int v12_r9), (6, .int v7_r9), (5, .int v5_m9), (4, .int v5_r9), (0, .ref 25), (1, .int t), (2, .int w), (3, .int f)], [], hq g c1 c2 c3 c4 c5 c6 c7 c8 c9 c10 c11 c12 c13 c14 c15 c16 c17 c18 c19 c20 c21 c22 c23 c24 (hc25 mTy mTm mMn mFn mRn mTn mVn mLr mTr mFl v12_m9 v12_p9 mSc v5_p9 mEn) (hc26 mPa) (hc27 mTo) (hc28 mOt) (hc29 mNa) (hc30 mRe) (hc31 mMa) (hc32 mMy) (hc33 mPm) (hc34 mFy) (hc35 mFa) (hc36 mFr) (hc37 mFo) (hc38 mRt) (hc39 mRm) (hc40 mTt) (hc41 mTi) (hc42 mPl) (hc43 mVr) (hc44 mVf) (hc45 mVc) (hc46 mAr) (hc47 mTc) (hc48 v12_f9) (hc49 mGo) dyn, 0, 0)) (h := (139, [(8, .int v14_r9), (7, .int v12_r9), (6, .int v7_r9), (5, .int v5_m9), (4, .int v5_r9), (0, .ref 25), (1, .int t), (2, .int w), (3, .int f)], [], hq g c1 c2 c3 c4 c5 c6 c7 c8 c9 c10 c11 c12 c13 c14 c15 c16 c17 c18 c19 c20 c21 c22 c23 c24 (hc25 mTy mTm mMn mFn mRn mTn mVn mLr mTr mFl v12_m9 v12_p9 mSc v5_p9 mEn) (hc26 mPa) (hc27 mTo) (hc28 mOt) (hc29 mNa) (hc30 mRe) (hc31 mMa) (hc32 mMy) (hc33 mPm) (hc34 mFy) (hc35 mFa) (hc36 mFr) (hc37 mFo) (hc38 mRt) (hc39 mRm) (hc40 mTt) (hc41 mTi) (hc42 mPl) (hc43 mVr) (hc44 mVf) (hc45 mVc) (hc46 mAr) (hc47 mTc) (hc48 v12_f9) (hc49 mGo) dyn, 0, 0)) rfl (fun h90 => ?_) (fun h90 => ?_)
      ·
        have h90 := qT_ne (cx := (v14_r9).toInt) (cy := (v12_m9).toInt) rfl rfl h90
        refine pm_go (g := (146, _, [.int (-12)], _, 0, 0)) rfl ?_
        refine pm_ret rfl (k0 _ _ _ _ _ ⟨_, _, _, _, h2, h9, ?_⟩ (by omega))
        exact Or.inr (Or.inr (Or.inr (Or.inr ⟨(fun ⟨a, b, c⟩ => by have c1 := hA2.mpr c; omega), (fun ⟨a, b, c⟩ => by have c1 := hS1.mpr c; omega), rfl, rfl, by omega, (fun ⟨a, b⟩ => by have c1 := hS1.mpr a; have c2 := hA2.mpr b; omega), rfl⟩)))
      have h90 := qF_ne (cx := (v14_r9).toInt) (cy := (v12_m9).toInt) rfl rfl h90
      refine pm_go (g := (141, _, [.int (-13)], _, 0, 0)) rfl ?_
      refine pm_go (g := (146, _, [.int (-13)], _, 0, 0)) rfl ?_
      refine pm_ret rfl (k0 _ _ _ _ _ ⟨_, _, _, _, h2, h9, ?_⟩ (by omega))
      exact Or.inr (Or.inr (Or.inr (Or.inl ⟨(fun ⟨a, b, c⟩ => by have c1 := hA2.mpr c; omega), (fun ⟨a, b, c⟩ => by have c1 := hS1.mpr c; omega), rfl, rfl, by omega, ⟨hS1.mp (by omega), hA2.mp (by omega)⟩, rfl⟩)))
    have h88 := qF_ne (cx := (v5_m9).toInt) (cy := 0) rfl (by decide) h88
    refine pm_go (g := (114, _, [.ref 25], _, 0, 0)) rfl ?_
    refine pm_go (g := (117, _, [.int v12_m9], _, 0, 0)) rfl ?_
    refine pm_if2 (g := (125, [(8, .int v14_r9), (7, .int v12_r9), (6, .int v7_r9), (5, .int v5_m9), (4, .int v5_r9), (0, .ref 25), (1, .int t), (2, .int w), (3, .int f)], [], hq g c1 c2 c3 c4 c5 c6 c7 c8 c9 c10 c11 c12 c13 c14 c15 c16 c17 c18 c19 c20 c21 c22 c23 c24 (hc25 mTy mTm mMn mFn mRn mTn mVn mLr mTr mFl v12_m9 v12_p9 mSc v5_p9 mEn) (hc26 mPa) (hc27 mTo) (hc28 mOt) (hc29 mNa) (hc30 mRe) (hc31 mMa) (hc32 mMy) (hc33 mPm) (hc34 mFy) (hc35 mFa) (hc36 mFr) (hc37 mFo) (hc38 mRt) (hc39 mRm) (hc40 mTt) (hc41 mTi) (hc42 mPl) (hc43 mVr) (hc44 mVf) (hc45 mVc) (hc46 mAr) (hc47 mTc) (hc48 v12_f9) (hc49 mGo) dyn, 0, 0)) (h := (120, [(8, .int v14_r9), (7, .int v12_r9), (6, .int v7_r9), (5, .int v5_m9), (4, .int v5_r9), (0, .ref 25), (1, .int t), (2, .int w), (3, .int f)], [], hq g c1 c2 c3 c4 c5 c6 c7 c8 c9 c10 c11 c12 c13 c14 c15 c16 c17 c18 c19 c20 c21 c22 c23 c24 (hc25 mTy mTm mMn mFn mRn mTn mVn mLr mTr mFl v12_m9 v12_p9 mSc v5_p9 mEn) (hc26 mPa) (hc27 mTo) (hc28 mOt) (hc29 mNa) (hc30 mRe) (hc31 mMa) (hc32 mMy) (hc33 mPm) (hc34 mFy) (hc35 mFa) (hc36 mFr) (hc37 mFo) (hc38 mRt) (hc39 mRm) (hc40 mTt) (hc41 mTi) (hc42 mPl) (hc43 mVr) (hc44 mVf) (hc45 mVc) (hc46 mAr) (hc47 mTc) (hc48 v12_f9) (hc49 mGo) dyn, 0, 0)) rfl (fun h91 => ?_) (fun h91 => ?_)
    ·
      have h91 := qT_ne (cx := (v12_m9).toInt) (cy := 0) rfl (by decide) h91
      refine pm_go (g := (127, _, [.int v7_r9], _, 0, 0)) rfl ?_
      refine pm_if2 (g := (144, [(8, .int v14_r9), (7, .int v12_r9), (6, .int v7_r9), (5, .int v5_m9), (4, .int v5_r9), (0, .ref 25), (1, .int t), (2, .int w), (3, .int f)], [], hq g c1 c2 c3 c4 c5 c6 c7 c8 c9 c10 c11 c12 c13 c14 c15 c16 c17 c18 c19 c20 c21 c22 c23 c24 (hc25 mTy mTm mMn mFn mRn mTn mVn mLr mTr mFl v12_m9 v12_p9 mSc v5_p9 mEn) (hc26 mPa) (hc27 mTo) (hc28 mOt) (hc29 mNa) (hc30 mRe) (hc31 mMa) (hc32 mMy) (hc33 mPm) (hc34 mFy) (hc35 mFa) (hc36 mFr) (hc37 mFo) (hc38 mRt) (hc39 mRm) (hc40 mTt) (hc41 mTi) (hc42 mPl) (hc43 mVr) (hc44 mVf) (hc45 mVc) (hc46 mAr) (hc47 mTc) (hc48 v12_f9) (hc49 mGo) dyn, 0, 0)) (h := (130, [(8, .int v14_r9), (7, .int v12_r9), (6, .int v7_r9), (5, .int v5_m9), (4, .int v5_r9), (0, .ref 25), (1, .int t), (2, .int w), (3, .int f)], [], hq g c1 c2 c3 c4 c5 c6 c7 c8 c9 c10 c11 c12 c13 c14 c15 c16 c17 c18 c19 c20 c21 c22 c23 c24 (hc25 mTy mTm mMn mFn mRn mTn mVn mLr mTr mFl v12_m9 v12_p9 mSc v5_p9 mEn) (hc26 mPa) (hc27 mTo) (hc28 mOt) (hc29 mNa) (hc30 mRe) (hc31 mMa) (hc32 mMy) (hc33 mPm) (hc34 mFy) (hc35 mFa) (hc36 mFr) (hc37 mFo) (hc38 mRt) (hc39 mRm) (hc40 mTt) (hc41 mTi) (hc42 mPl) (hc43 mVr) (hc44 mVf) (hc45 mVc) (hc46 mAr) (hc47 mTc) (hc48 v12_f9) (hc49 mGo) dyn, 0, 0)) rfl (fun h92 => ?_) (fun h92 => ?_)
      ·
        have h92 := qT_ne (cx := (v7_r9).toInt) (cy := 0) rfl (by decide) h92
        refine pm_go (g := (146, _, [.int (-12)], _, 0, 0)) rfl ?_
        refine pm_ret rfl (k0 _ _ _ _ _ ⟨_, _, _, _, h2, h9, ?_⟩ (by omega))
        exact Or.inr (Or.inr (Or.inr (Or.inr ⟨(fun ⟨a, b, c⟩ => by have c1 := hA2.mpr c; omega), (fun ⟨a, b, c⟩ => by have c1 := hS1.mpr c; omega), rfl, rfl, by omega, (fun ⟨a, b⟩ => by have c1 := hS1.mpr a; have c2 := hA2.mpr b; omega), rfl⟩)))
      have h92 := qF_ne (cx := (v7_r9).toInt) (cy := 0) rfl (by decide) h92
      refine pm_go (g := (132, _, [.int v14_r9], _, 0, 0)) rfl ?_
      refine pm_go (g := (133, _, [.ref 25, .int v14_r9], _, 0, 0)) rfl ?_
      refine pm_go (g := (136, _, [.int v12_m9, .int v14_r9], _, 0, 0)) rfl ?_
      refine pm_if2 (g := (144, [(8, .int v14_r9), (7, .int v12_r9), (6, .int v7_r9), (5, .int v5_m9), (4, .int v5_r9), (0, .ref 25), (1, .int t), (2, .int w), (3, .int f)], [], hq g c1 c2 c3 c4 c5 c6 c7 c8 c9 c10 c11 c12 c13 c14 c15 c16 c17 c18 c19 c20 c21 c22 c23 c24 (hc25 mTy mTm mMn mFn mRn mTn mVn mLr mTr mFl v12_m9 v12_p9 mSc v5_p9 mEn) (hc26 mPa) (hc27 mTo) (hc28 mOt) (hc29 mNa) (hc30 mRe) (hc31 mMa) (hc32 mMy) (hc33 mPm) (hc34 mFy) (hc35 mFa) (hc36 mFr) (hc37 mFo) (hc38 mRt) (hc39 mRm) (hc40 mTt) (hc41 mTi) (hc42 mPl) (hc43 mVr) (hc44 mVf) (hc45 mVc) (hc46 mAr) (hc47 mTc) (hc48 v12_f9) (hc49 mGo) dyn, 0, 0)) (h := (139, [(8, .int v14_r9), (7, .int v12_r9), (6, .int v7_r9), (5, .int v5_m9), (4, .int v5_r9), (0, .ref 25), (1, .int t), (2, .int w), (3, .int f)], [], hq g c1 c2 c3 c4 c5 c6 c7 c8 c9 c10 c11 c12 c13 c14 c15 c16 c17 c18 c19 c20 c21 c22 c23 c24 (hc25 mTy mTm mMn mFn mRn mTn mVn mLr mTr mFl v12_m9 v12_p9 mSc v5_p9 mEn) (hc26 mPa) (hc27 mTo) (hc28 mOt) (hc29 mNa) (hc30 mRe) (hc31 mMa) (hc32 mMy) (hc33 mPm) (hc34 mFy) (hc35 mFa) (hc36 mFr) (hc37 mFo) (hc38 mRt) (hc39 mRm) (hc40 mTt) (hc41 mTi) (hc42 mPl) (hc43 mVr) (hc44 mVf) (hc45 mVc) (hc46 mAr) (hc47 mTc) (hc48 v12_f9) (hc49 mGo) dyn, 0, 0)) rfl (fun h93 => ?_) (fun h93 => ?_)
      ·
        have h93 := qT_ne (cx := (v14_r9).toInt) (cy := (v12_m9).toInt) rfl rfl h93
        refine pm_go (g := (146, _, [.int (-12)], _, 0, 0)) rfl ?_
        refine pm_ret rfl (k0 _ _ _ _ _ ⟨_, _, _, _, h2, h9, ?_⟩ (by omega))
        exact Or.inr (Or.inr (Or.inr (Or.inr ⟨(fun ⟨a, b, c⟩ => by have c1 := hA2.mpr c; omega), (fun ⟨a, b, c⟩ => by have c1 := hS1.mpr c; omega), rfl, rfl, by omega, (fun ⟨a, b⟩ => by have c1 := hS1.mpr a; have c2 := hA2.mpr b; omega), rfl⟩)))
      have h93 := qF_ne (cx := (v14_r9).toInt) (cy := (v12_m9).toInt) rfl rfl h93
      refine pm_go (g := (141, _, [.int (-13)], _, 0, 0)) rfl ?_
      refine pm_go (g := (146, _, [.int (-13)], _, 0, 0)) rfl ?_
      refine pm_ret rfl (k0 _ _ _ _ _ ⟨_, _, _, _, h2, h9, ?_⟩ (by omega))
      exact Or.inr (Or.inr (Or.inr (Or.inl ⟨(fun ⟨a, b, c⟩ => by have c1 := hA2.mpr c; omega), (fun ⟨a, b, c⟩ => by have c1 := hS1.mpr c; omega), rfl, rfl, by omega, ⟨hS1.mp (by omega), hA2.mp (by omega)⟩, rfl⟩)))
    have h91 := qF_ne (cx := (v12_m9).toInt) (cy := 0) rfl (by decide) h91
    refine pm_go (g := (122, _, [.int (-11)], _, 0, 0)) rfl ?_
    refine pm_go (g := (146, _, [.int (-11)], _, 0, 0)) rfl ?_
    refine pm_ret rfl (k0 _ _ _ _ _ ⟨_, _, _, _, h2, h9, ?_⟩ (by omega))
    exact Or.inr (Or.inr (Or.inl ⟨(fun ⟨a, b, c⟩ => by have c1 := hA2.mpr c; omega), (fun ⟨a, b, c⟩ => by have c1 := hS1.mpr c; omega), rfl, rfl, by omega, rfl⟩))
  have h87 := qF_ne (cx := (v7_r9).toInt) (cy := 0) rfl (by decide) h87
  refine pm_go (g := (93, _, [.ref 25], _, 0, 0)) rfl ?_
  refine pm_go (g := (94, _, [.int 1, .ref 25], _, 0, 0)) rfl ?_
  refine pm_go (g := (97, _, [], hq g c1 c2 c3 c4 c5 c6 c7 c8 c9 c10 c11 c12 c13 c14 c15 c16 c17 c18 c19 c20 c21 c22 c23 c24 (hc25 mTy mTm mMn mFn mRn mTn mVn mLr mTr mFl v12_m9 v12_p9 1 v5_p9 mEn) (hc26 mPa) (hc27 mTo) (hc28 mOt) (hc29 mNa) (hc30 mRe) (hc31 mMa) (hc32 mMy) (hc33 mPm) (hc34 mFy) (hc35 mFa) (hc36 mFr) (hc37 mFo) (hc38 mRt) (hc39 mRm) (hc40 mTt) (hc41 mTi) (hc42 mPl) (hc43 mVr) (hc44 mVf) (hc45 mVc) (hc46 mAr) (hc47 mTc) (hc48 v12_f9) (hc49 mGo) dyn, 0, 0)) rfl ?_
  refine pm_go (g := (98, _, [.ref 25], _, 0, 0)) rfl ?_
  refine pm_go (g := (99, _, [.ref 25, .ref 25], _, 0, 0)) rfl ?_
  refine pm_go (g := (102, _, [.int v12_p9, .ref 25], _, 0, 0)) rfl ?_
  refine pm_go (g := (105, _, [], hq g c1 c2 c3 c4 c5 c6 c7 c8 c9 c10 c11 c12 c13 c14 c15 c16 c17 c18 c19 c20 c21 c22 c23 c24 (hc25 mTy mTm mMn mFn mRn mTn mVn mLr mTr mFl v12_m9 v12_p9 1 v12_p9 mEn) (hc26 mPa) (hc27 mTo) (hc28 mOt) (hc29 mNa) (hc30 mRe) (hc31 mMa) (hc32 mMy) (hc33 mPm) (hc34 mFy) (hc35 mFa) (hc36 mFr) (hc37 mFo) (hc38 mRt) (hc39 mRm) (hc40 mTt) (hc41 mTi) (hc42 mPl) (hc43 mVr) (hc44 mVf) (hc45 mVc) (hc46 mAr) (hc47 mTc) (hc48 v12_f9) (hc49 mGo) dyn, 0, 0)) rfl ?_
  refine pm_go (g := (107, _, [.int v12_r9], _, 0, 0)) rfl ?_
  refine pm_ret rfl (k1 _ _ _ _ _ ⟨_, _, _, _, h2, h9, ?_⟩ (by omega))
  exact Or.inr (Or.inl ⟨(fun ⟨a, b, c⟩ => by have c1 := hA2.mpr c; omega), ⟨by omega, by omega, hS1.mp (by omega)⟩, rfl, rfl, rfl⟩)
/-- the reference's means: fo, t, w are the reference's -/
def mnM (pa ot na my pm ma fa fy : Nat → Int32) (mn fo t w f sc mp r : Int32) : Prop :=
  (fo.toInt = 0 ∧ bothM pa ot na my pm ma fa fy mn t w f sc mp r) ∨
  (fo.toInt = 1 ∧ sc = 0 ∧ ∃ r1 : Int32, oneM pa ot na my pm ma fa fy mn t w f mp r1 ∧ (((0 ≤ r1.toInt ∧ (ma r1.toNatClampNeg &&& 1).toInt ≠ 0) ∧ r = -13) ∨ (¬ (0 ≤ r1.toInt ∧ (ma r1.toNatClampNeg &&& 1).toInt ≠ 0) ∧ r = r1))) ∨
  (fo.toInt = 2 ∧ sc = 0 ∧ ∃ r1 : Int32, oneM pa ot na my pm ma fa fy mn (pa t.toNatClampNeg) w f mp r1 ∧ ((r1.toInt < 0 ∧ r = r1) ∨ ((0 ≤ r1.toInt ∧ (ma r1.toNatClampNeg &&& 1).toInt ≠ 0) ∧ r = -13) ∨ ((0 ≤ r1.toInt ∧ (ma r1.toNatClampNeg &&& 1).toInt = 0 ∧ (ma r1.toNatClampNeg &&& 2).toInt ≠ 0) ∧ r = -14) ∨ ((0 ≤ r1.toInt ∧ (ma r1.toNatClampNeg &&& 1).toInt = 0 ∧ (ma r1.toNatClampNeg &&& 2).toInt = 0) ∧ r = r1))) ∨
  (fo.toInt = 3 ∧ sc = 0 ∧ ((opL pa ot na my pm ma mn t 0 ∧ mp = 0 ∧ r = -14) ∨ (¬ opL pa ot na my pm ma mn t 0 ∧ ¬ mkE ot na mn t 0 ∧ mp = 0 ∧ (((fy f.toNatClampNeg).toInt = 0 ∧ r = 99) ∨ ((fy f.toNatClampNeg).toInt ≠ 0 ∧ r = -11))) ∨ (¬ opL pa ot na my pm ma mn t 0 ∧ mkE ot na mn t 0 ∧ oneM pa ot na my pm ma fa fy mn t 6 f mp r))) ∨
  ((fo.toInt < 0 ∨ 3 < fo.toInt) ∧ sc = 0 ∧ mp = 0 ∧ ((((fy f.toNatClampNeg).toInt = 1 ∧ lM pa (fa (3 * f).toNatClampNeg) 10) ∧ r = 99) ∨ (¬ ((fy f.toNatClampNeg).toInt = 1 ∧ lM pa (fa (3 * f).toNatClampNeg) 10) ∧ r = -11)))
/-- the type of what comes -/
def cmM (re : Nat → Int32) (fo t m : Int32) : Int32 := if fo.toInt = 4 then (if t.toInt = 10 then 30 else 20 + t) else if fo.toInt = 3 then t else re m.toNatClampNeg
/-- the reference's wholeMeaning -/
def wmM (pa ot na re my pm ma fa fy fr : Nat → Int32) (mn fo t w f sc mp r : Int32) : Prop := ∃ r1 : Int32, mnM pa ot na my pm ma fa fy mn fo t w f sc mp r1 ∧ ((r1.toInt < 0 ∧ r = r1) ∨ ((0 ≤ r1.toInt ∧ ((fr f.toNatClampNeg).toInt = 11 ∨ lM pa (cmM re fo t r1) (fr f.toNatClampNeg))) ∧ r = r1) ∨ ((0 ≤ r1.toInt ∧ (fr f.toNatClampNeg).toInt ≠ 11 ∧ ¬ lM pa (cmM re fo t r1) (fr f.toNatClampNeg)) ∧ r = -15))
set_option maxRecDepth 100000 in
set_option maxHeartbeats 4000000 in
theorem w_X12_means {g c1 c2 c3 c4 c5 c6 c7 c8 c9 c10 c11 c12 c13 c14 c15 c16 c17 c18 c19 c20 c21 c22 c23 c24 : pm_C} {dyn : pm_H} {mTy : Int32} {mPa : Nat → Int32} {mTo : Nat → Int32} {mTm : Int32} {mMn : Int32} {mOt : Nat → Int32} {mNa : Nat → Int32} {mRe : Nat → Int32} {mMa : Nat → Int32} {mMy : Nat → Int32} {mPm : Nat → Int32} {mFn : Int32} {mFy : Nat → Int32} {mFa : Nat → Int32} {mFr : Nat → Int32} {mRn : Int32} {mFo : Nat → Int32} {mRt : Nat → Int32} {mRm : Nat → Int32} {mTn : Int32} {mTt : Nat → Int32} {mTi : Nat → Int32} {mPl : Nat → Int32} {mVn : Int32} {mVr : Nat → Int32} {mVf : Nat → Int32} {mVc : Nat → Int32} {mAr : Nat → Int32} {mLr : Int32} {mTc : Nat → Int32} {mTr : Int32} {mFl : Int32} {mFt : Nat → Int32} {mFm : Int32} {mFp : Int32} {mSc : Int32} {mMp : Int32} {mEn : Int32} {mGo : Nat → Int32} {Q : pm_Q} (r : Int32) (f : Int32) (p0 : 0 ≤ r.toInt ∧ r.toInt < 30) (p1 : (0 ≤ (mFo r.toNatClampNeg).toInt ∧ (mFo r.toNatClampNeg).toInt ≤ 4) ∧ ((mFo r.toNatClampNeg).toInt = 2 → 0 ≤ (mRt r.toNatClampNeg).toInt ∧ (mRt r.toNatClampNeg).toInt < 10)) (p2 : 0 ≤ f.toInt ∧ f.toInt < 10) (p3 : 0 ≤ (mFy f.toNatClampNeg).toInt ∧ (mFy f.toNatClampNeg).toInt ≤ 3) (p4 : paD mPa) (p5 : myD mMy) (p6 : vrD mMa mMy) (p7 : 0 ≤ mMn.toInt ∧ mMn.toInt ≤ 40) (k0 : ∀ (s9 : Int32), ∀ (f9 : Nat → Int32), ∀ (m9 : Int32), ∀ (q9 : Int32), ∀ (p9 : Int32), ∀ (r9 : Int32), (mnM mPa mOt mNa mMy mPm mMa mFa mFy mMn (mFo r.toNatClampNeg) (mRt r.toNatClampNeg) (mRm r.toNatClampNeg) f s9 p9 r9) → ((-15 ≤ r9.toInt ∧ (r9.toInt < mMn.toInt ∨ (r9.toInt = 99 ∧ 3 ≤ (mFo r.toNatClampNeg).toInt))) ∧ (0 ≤ p9.toInt ∧ p9.toInt ≤ 3)) → Q (some (.int r9)) (hq g c1 c2 c3 c4 c5 c6 c7 c8 c9 c10 c11 c12 c13 c14 c15 c16 c17 c18 c19 c20 c21 c22 c23 c24 (hc25 mTy mTm mMn mFn mRn mTn mVn mLr mTr mFl m9 q9 s9 p9 mEn) (hc26 mPa) (hc27 mTo) (hc28 mOt) (hc29 mNa) (hc30 mRe) (hc31 mMa) (hc32 mMy) (hc33 mPm) (hc34 mFy) (hc35 mFa) (hc36 mFr) (hc37 mFo) (hc38 mRt) (hc39 mRm) (hc40 mTt) (hc41 mTi) (hc42 mPl) (hc43 mVr) (hc44 mVf) (hc45 mVc) (hc46 mAr) (hc47 mTc) (hc48 f9) (hc49 mGo) dyn)) : pm_WP 157 (0, [(0, .ref 25), (1, .int r), (2, .int f)], [], hq g c1 c2 c3 c4 c5 c6 c7 c8 c9 c10 c11 c12 c13 c14 c15 c16 c17 c18 c19 c20 c21 c22 c23 c24 (hc25 mTy mTm mMn mFn mRn mTn mVn mLr mTr mFl mFm mFp mSc mMp mEn) (hc26 mPa) (hc27 mTo) (hc28 mOt) (hc29 mNa) (hc30 mRe) (hc31 mMa) (hc32 mMy) (hc33 mPm) (hc34 mFy) (hc35 mFa) (hc36 mFr) (hc37 mFo) (hc38 mRt) (hc39 mRm) (hc40 mTt) (hc41 mTi) (hc42 mPl) (hc43 mVr) (hc44 mVf) (hc45 mVc) (hc46 mAr) (hc47 mTc) (hc48 mFt) (hc49 mGo) dyn, 0, 0) Q := by
  have z0 : (0 : Int32).toInt = 0 := by decide
  have z1 : (1 : Int32).toInt = 1 := by decide
  have z_11 : (-11 : Int32).toInt = -11 := by decide
  have z_12 : (-12 : Int32).toInt = -12 := by decide
  have z_13 : (-13 : Int32).toInt = -13 := by decide
  have z_14 : (-14 : Int32).toInt = -14 := by decide
  have z_15 : (-15 : Int32).toInt = -15 := by decide
  have z99 : (99 : Int32).toInt = 99 := by decide
  refine pm_go (g := (1, [(0, .ref 25), (1, .int r), (2, .int f)], [.ref 25], hq g c1 c2 c3 c4 c5 c6 c7 c8 c9 c10 c11 c12 c13 c14 c15 c16 c17 c18 c19 c20 c21 c22 c23 c24 (hc25 mTy mTm mMn mFn mRn mTn mVn mLr mTr mFl mFm mFp mSc mMp mEn) (hc26 mPa) (hc27 mTo) (hc28 mOt) (hc29 mNa) (hc30 mRe) (hc31 mMa) (hc32 mMy) (hc33 mPm) (hc34 mFy) (hc35 mFa) (hc36 mFr) (hc37 mFo) (hc38 mRt) (hc39 mRm) (hc40 mTt) (hc41 mTi) (hc42 mPl) (hc43 mVr) (hc44 mVf) (hc45 mVc) (hc46 mAr) (hc47 mTc) (hc48 mFt) (hc49 mGo) dyn, 0, 0)) rfl ?_
  refine pm_go (g := (4, _, [.ref 38], _, 0, 0)) rfl ?_
  refine pm_go (g := (5, _, [.int r, .ref 38], _, 0, 0)) rfl ?_
  refine pm_sd (g := (6, _, [.int (mRt (r).toNatClampNeg)], _, 0, 0)) rfl (pm_inI (by omega) (by omega)) ?_
  refine pm_go (g := (7, [(3, .int (mRt (r).toNatClampNeg)), (0, .ref 25), (1, .int r), (2, .int f)], [], _, 0, 0)) rfl ?_
  refine pm_go (g := (8, _, [.ref 25], _, 0, 0)) rfl ?_
  refine pm_go (g := (11, _, [.ref 39], _, 0, 0)) rfl ?_
  refine pm_go (g := (12, _, [.int r, .ref 39], _, 0, 0)) rfl ?_
  refine pm_sd (g := (13, _, [.int (mRm (r).toNatClampNeg)], _, 0, 0)) rfl (pm_inI (by omega) (by omega)) ?_
  refine pm_go (g := (15, [(4, .int (mRm (r).toNatClampNeg)), (3, .int (mRt (r).toNatClampNeg)), (0, .ref 25), (1, .int r), (2, .int f)], [], _, 0, 0)) rfl ?_
  refine pm_go (g := (16, _, [.ref 25], _, 0, 0)) rfl ?_
  refine pm_go (g := (17, _, [.int 0, .ref 25], _, 0, 0)) rfl ?_
  refine pm_go (g := (20, _, [], hq g c1 c2 c3 c4 c5 c6 c7 c8 c9 c10 c11 c12 c13 c14 c15 c16 c17 c18 c19 c20 c21 c22 c23 c24 (hc25 mTy mTm mMn mFn mRn mTn mVn mLr mTr mFl mFm mFp 0 mMp mEn) (hc26 mPa) (hc27 mTo) (hc28 mOt) (hc29 mNa) (hc30 mRe) (hc31 mMa) (hc32 mMy) (hc33 mPm) (hc34 mFy) (hc35 mFa) (hc36 mFr) (hc37 mFo) (hc38 mRt) (hc39 mRm) (hc40 mTt) (hc41 mTi) (hc42 mPl) (hc43 mVr) (hc44 mVf) (hc45 mVc) (hc46 mAr) (hc47 mTc) (hc48 mFt) (hc49 mGo) dyn, 0, 0)) rfl ?_
  refine pm_go (g := (21, _, [.ref 25], _, 0, 0)) rfl ?_
  refine pm_go (g := (22, _, [.int 0, .ref 25], _, 0, 0)) rfl ?_
  refine pm_go (g := (25, _, [], hq g c1 c2 c3 c4 c5 c6 c7 c8 c9 c10 c11 c12 c13 c14 c15 c16 c17 c18 c19 c20 c21 c22 c23 c24 (hc25 mTy mTm mMn mFn mRn mTn mVn mLr mTr mFl mFm mFp 0 0 mEn) (hc26 mPa) (hc27 mTo) (hc28 mOt) (hc29 mNa) (hc30 mRe) (hc31 mMa) (hc32 mMy) (hc33 mPm) (hc34 mFy) (hc35 mFa) (hc36 mFr) (hc37 mFo) (hc38 mRt) (hc39 mRm) (hc40 mTt) (hc41 mTi) (hc42 mPl) (hc43 mVr) (hc44 mVf) (hc45 mVc) (hc46 mAr) (hc47 mTc) (hc48 mFt) (hc49 mGo) dyn, 0, 0)) rfl ?_
  refine pm_go (g := (26, _, [.ref 25], _, 0, 0)) rfl ?_
  refine pm_go (g := (29, _, [.ref 37], _, 0, 0)) rfl ?_
  refine pm_go (g := (30, _, [.int r, .ref 37], _, 0, 0)) rfl ?_
  refine pm_sd (g := (31, _, [.int (mFo (r).toNatClampNeg)], _, 0, 0)) rfl (pm_inI (by omega) (by omega)) ?_
  have h1 : (mFo (r).toNatClampNeg).toInt = 0 ∨ (mFo (r).toNatClampNeg).toInt = 1 ∨ (mFo (r).toNatClampNeg).toInt = 2 ∨ (mFo (r).toNatClampNeg).toInt = 3 ∨ ((mFo (r).toNatClampNeg).toInt < 0 ∨ 3 < (mFo (r).toNatClampNeg).toInt) := by omega
  rcases h1 with h1 | h1 | h1 | h1 | h1
  ·
    have h2 : mFo (r).toNatClampNeg = 0 := xI (c := 0) (by decide) (by omega)
    refine pm_go (g := (60, [(4, .int (mRm (r).toNatClampNeg)), (3, .int (mRt (r).toNatClampNeg)), (0, .ref 25), (1, .int r), (2, .int f)], [], hq g c1 c2 c3 c4 c5 c6 c7 c8 c9 c10 c11 c12 c13 c14 c15 c16 c17 c18 c19 c20 c21 c22 c23 c24 (hc25 mTy mTm mMn mFn mRn mTn mVn mLr mTr mFl mFm mFp 0 0 mEn) (hc26 mPa) (hc27 mTo) (hc28 mOt) (hc29 mNa) (hc30 mRe) (hc31 mMa) (hc32 mMy) (hc33 mPm) (hc34 mFy) (hc35 mFa) (hc36 mFr) (hc37 mFo) (hc38 mRt) (hc39 mRm) (hc40 mTt) (hc41 mTi) (hc42 mPl) (hc43 mVr) (hc44 mVf) (hc45 mVc) (hc46 mAr) (hc47 mTc) (hc48 mFt) (hc49 mGo) dyn, 0, 0)) (by rw [h2]; rfl) ?_
    refine pm_go (g := (61, _, [.ref 25], _, 0, 0)) rfl ?_
    refine pm_go (g := (62, _, [.int (mRt (r).toNatClampNeg), .ref 25], _, 0, 0)) rfl ?_
    refine pm_go (g := (64, _, [.int (mRm (r).toNatClampNeg), .int (mRt (r).toNatClampNeg), .ref 25], _, 0, 0)) rfl ?_
    refine pm_go (g := (65, _, [.int f, .int (mRm (r).toNatClampNeg), .int (mRt (r).toNatClampNeg), .ref 25], _, 0, 0)) rfl ?_
    refine pm_callD (z := 155) (as := [.ref 25, .int (mRt (r).toNatClampNeg), .int (mRm (r).toNatClampNeg), .int f]) (rest := []) rfl ?_
    have h3 : (0 : Int32).toInt = 0 := by decide
    refine w_X12_ofBoth (mRt (r).toNatClampNeg) (mRm (r).toNatClampNeg) f (by omega) (by omega) (by assumption) (by assumption) (by assumption) (by omega) (fun v7_f9 v7_m9 v7_q9 v7_p9 v7_r9 h4 h5 => ?_) (fun v7_f9 v7_m9 v7_q9 v7_p9 v7_r9 h6 h7 => ?_)
    ·
      show pm_WP 157 (68, [(4, .int (mRm (r).toNatClampNeg)), (3, .int (mRt (r).toNatClampNeg)), (0, .ref 25), (1, .int r), (2, .int f)], [.int v7_r9], _, 0, 0) _
      refine pm_ret rfl (k0 _ _ _ _ _ _ ?_ ?_)
      rotate_left
      · omega
      exact Or.inl ⟨by omega, h4⟩
    show pm_WP 157 (68, [(4, .int (mRm (r).toNatClampNeg)), (3, .int (mRt (r).toNatClampNeg)), (0, .ref 25), (1, .int r), (2, .int f)], [.int v7_r9], hq g c1 c2 c3 c4 c5 c6 c7 c8 c9 c10 c11 c12 c13 c14 c15 c16 c17 c18 c19 c20 c21 c22 c23 c24 (hc25 mTy mTm mMn mFn mRn mTn mVn mLr mTr mFl v7_m9 v7_q9 1 v7_p9 mEn) (hc26 mPa) (hc27 mTo) (hc28 mOt) (hc29 mNa) (hc30 mRe) (hc31 mMa) (hc32 mMy) (hc33 mPm) (hc34 mFy) (hc35 mFa) (hc36 mFr) (hc37 mFo) (hc38 mRt) (hc39 mRm) (hc40 mTt) (hc41 mTi) (hc42 mPl) (hc43 mVr) (hc44 mVf) (hc45 mVc) (hc46 mAr) (hc47 mTc) (hc48 v7_f9) (hc49 mGo) dyn, 0, 0) _
    refine pm_ret rfl (k0 _ _ _ _ _ _ ?_ ?_)
    rotate_left
    · omega
    exact Or.inl ⟨by omega, h6⟩
  ·
    have h9 : mFo (r).toNatClampNeg = 1 := xI (c := 1) (by decide) (by omega)
    refine pm_go (g := (69, [(4, .int (mRm (r).toNatClampNeg)), (3, .int (mRt (r).toNatClampNeg)), (0, .ref 25), (1, .int r), (2, .int f)], [], hq g c1 c2 c3 c4 c5 c6 c7 c8 c9 c10 c11 c12 c13 c14 c15 c16 c17 c18 c19 c20 c21 c22 c23 c24 (hc25 mTy mTm mMn mFn mRn mTn mVn mLr mTr mFl mFm mFp 0 0 mEn) (hc26 mPa) (hc27 mTo) (hc28 mOt) (hc29 mNa) (hc30 mRe) (hc31 mMa) (hc32 mMy) (hc33 mPm) (hc34 mFy) (hc35 mFa) (hc36 mFr) (hc37 mFo) (hc38 mRt) (hc39 mRm) (hc40 mTt) (hc41 mTi) (hc42 mPl) (hc43 mVr) (hc44 mVf) (hc45 mVc) (hc46 mAr) (hc47 mTc) (hc48 mFt) (hc49 mGo) dyn, 0, 0)) (by rw [h9]; rfl) ?_
    refine pm_go (g := (70, _, [.ref 25], _, 0, 0)) rfl ?_
    refine pm_go (g := (71, _, [.int (mRt (r).toNatClampNeg), .ref 25], _, 0, 0)) rfl ?_
    refine pm_go (g := (73, _, [.int (mRm (r).toNatClampNeg), .int (mRt (r).toNatClampNeg), .ref 25], _, 0, 0)) rfl ?_
    refine pm_go (g := (74, _, [.int f, .int (mRm (r).toNatClampNeg), .int (mRt (r).toNatClampNeg), .ref 25], _, 0, 0)) rfl ?_
    refine pm_callD (z := 156) (as := [.ref 25, .int (mRt (r).toNatClampNeg), .int (mRm (r).toNatClampNeg), .int f]) (rest := []) rfl ?_
    have h10 : (0 : Int32).toInt = 0 := by decide
    refine w_X12_ofOne (mRt (r).toNatClampNeg) (mRm (r).toNatClampNeg) f (by omega) (by omega) (by assumption) (by assumption) (by assumption) (by omega) (fun v12_f9 v12_m9 v12_q9 v12_p9 v12_r9 h11 h12 => ?_)
    show pm_WP 157 (77, [(4, .int (mRm (r).toNatClampNeg)), (3, .int (mRt (r).toNatClampNeg)), (0, .ref 25), (1, .int r), (2, .int f)], [.int v12_r9], _, 0, 0) _
    refine pm_go (g := (79, [(5, .int v12_r9), (4, .int (mRm (r).toNatClampNeg)), (3, .int (mRt (r).toNatClampNeg)), (0, .ref 25), (1, .int r), (2, .int f)], [], _, 0, 0)) rfl ?_
    refine pm_go (g := (81, _, [.int v12_r9], _, 0, 0)) rfl ?_
    refine pm_if2 (g := (99, [(5, .int v12_r9), (4, .int (mRm (r).toNatClampNeg)), (3, .int (mRt (r).toNatClampNeg)), (0, .ref 25), (1, .int r), (2, .int f)], [], hq g c1 c2 c3 c4 c5 c6 c7 c8 c9 c10 c11 c12 c13 c14 c15 c16 c17 c18 c19 c20 c21 c22 c23 c24 (hc25 mTy mTm mMn mFn mRn mTn mVn mLr mTr mFl v12_m9 v12_q9 0 v12_p9 mEn) (hc26 mPa) (hc27 mTo) (hc28 mOt) (hc29 mNa) (hc30 mRe) (hc31 mMa) (hc32 mMy) (hc33 mPm) (hc34 mFy) (hc35 mFa) (hc36 mFr) (hc37 mFo) (hc38 mRt) (hc39 mRm) (hc40 mTt) (hc41 mTi) (hc42 mPl) (hc43 mVr) (hc44 mVf) (hc45 mVc) (hc46 mAr) (hc47 mTc) (hc48 v12_f9) (hc49 mGo) dyn, 0, 0)) (h := (84, [(5, .int v12_r9), (4, .int (mRm (r).toNatClampNeg)), (3, .int (mRt (r).toNatClampNeg)), (0, .ref 25), (1, .int r), (2, .int f)], [], hq g c1 c2 c3 c4 c5 c6 c7 c8 c9 c10 c11 c12 c13 c14 c15 c16 c17 c18 c19 c20 c21 c22 c23 c24 (hc25 mTy mTm mMn mFn mRn mTn mVn mLr mTr mFl v12_m9 v12_q9 0 v12_p9 mEn) (hc26 mPa) (hc27 mTo) (hc28 mOt) (hc29 mNa) (hc30 mRe) (hc31 mMa) (hc32 mMy) (hc33 mPm) (hc34 mFy) (hc35 mFa) (hc36 mFr) (hc37 mFo) (hc38 mRt) (hc39 mRm) (hc40 mTt) (hc41 mTi) (hc42 mPl) (hc43 mVr) (hc44 mVf) (hc45 mVc) (hc46 mAr) (hc47 mTc) (hc48 v12_f9) (hc49 mGo) dyn, 0, 0)) rfl (fun h14 => ?_) (fun h14 => ?_)
    ·
      have h14 := qT_lt (cx := (v12_r9).toInt) (cy := 0) rfl (by decide) h14
      refine pm_go (g := (101, _, [.int v12_r9], _, 0, 0)) rfl ?_
      refine pm_ret rfl (k0 _ _ _ _ _ _ ?_ ?_)
      rotate_left
      · omega
      exact Or.inr (Or.inl ⟨by omega, rfl, _, h11, Or.inr ⟨by omega, rfl⟩⟩)
    have h14 := qF_lt (cx := (v12_r9).toInt) (cy := 0) rfl (by decide) h14
    refine pm_go (g := (85, _, [.ref 25], _, 0, 0)) rfl ?_
    refine pm_go (g := (87, _, [.int v12_r9, .ref 25], _, 0, 0)) rfl ?_
    refine pm_go (g := (88, _, [.int 1, .int v12_r9, .ref 25], _, 0, 0)) rfl ?_
    refine pm_callD (z := 139) (as := [.ref 25, .int v12_r9, .int 1]) (rest := []) rfl ?_
    have h15 : (1 : Int32).toInt = 1 := by decide
    have h16 : (0 : Int32).toInt = 0 := by decide
    refine w_X12_isMark v12_r9 1 (by omega) (fun h17 => ?_) (fun h18 => ?_)
    ·
      show pm_WP 157 (91, [(5, .int v12_r9), (4, .int (mRm (r).toNatClampNeg)), (3, .int (mRt (r).toNatClampNeg)), (0, .ref 25), (1, .int r), (2, .int f)], [.int 1], _, 0, 0) _
      refine pm_brF (h := (94, [(5, .int v12_r9), (4, .int (mRm (r).toNatClampNeg)), (3, .int (mRt (r).toNatClampNeg)), (0, .ref 25), (1, .int r), (2, .int f)], [], hq g c1 c2 c3 c4 c5 c6 c7 c8 c9 c10 c11 c12 c13 c14 c15 c16 c17 c18 c19 c20 c21 c22 c23 c24 (hc25 mTy mTm mMn mFn mRn mTn mVn mLr mTr mFl v12_m9 v12_q9 0 v12_p9 mEn) (hc26 mPa) (hc27 mTo) (hc28 mOt) (hc29 mNa) (hc30 mRe) (hc31 mMa) (hc32 mMy) (hc33 mPm) (hc34 mFy) (hc35 mFa) (hc36 mFr) (hc37 mFo) (hc38 mRt) (hc39 mRm) (hc40 mTt) (hc41 mTi) (hc42 mPl) (hc43 mVr) (hc44 mVf) (hc45 mVc) (hc46 mAr) (hc47 mTc) (hc48 v12_f9) (hc49 mGo) dyn, 0, 0)) rfl ?_
      refine pm_go (g := (96, _, [.int (-13)], _, 0, 0)) rfl ?_
      refine pm_go (g := (101, _, [.int (-13)], _, 0, 0)) rfl ?_
      refine pm_ret rfl (k0 _ _ _ _ _ _ ?_ ?_)
      rotate_left
      · omega
      exact Or.inr (Or.inl ⟨by omega, rfl, _, h11, Or.inl ⟨by omega, rfl⟩⟩)
    show pm_WP 157 (91, [(5, .int v12_r9), (4, .int (mRm (r).toNatClampNeg)), (3, .int (mRt (r).toNatClampNeg)), (0, .ref 25), (1, .int r), (2, .int f)], [.int 0], hq g c1 c2 c3 c4 c5 c6 c7 c8 c9 c10 c11 c12 c13 c14 c15 c16 c17 c18 c19 c20 c21 c22 c23 c24 (hc25 mTy mTm mMn mFn mRn mTn mVn mLr mTr mFl v12_m9 v12_q9 0 v12_p9 mEn) (hc26 mPa) (hc27 mTo) (hc28 mOt) (hc29 mNa) (hc30 mRe) (hc31 mMa) (hc32 mMy) (hc33 mPm) (hc34 mFy) (hc35 mFa) (hc36 mFr) (hc37 mFo) (hc38 mRt) (hc39 mRm) (hc40 mTt) (hc41 mTi) (hc42 mPl) (hc43 mVr) (hc44 mVf) (hc45 mVc) (hc46 mAr) (hc47 mTc) (hc48 v12_f9) (hc49 mGo) dyn, 0, 0) _
    refine pm_brT (g := (99, [(5, .int v12_r9), (4, .int (mRm (r).toNatClampNeg)), (3, .int (mRt (r).toNatClampNeg)), (0, .ref 25), (1, .int r), (2, .int f)], [], hq g c1 c2 c3 c4 c5 c6 c7 c8 c9 c10 c11 c12 c13 c14 c15 c16 c17 c18 c19 c20 c21 c22 c23 c24 (hc25 mTy mTm mMn mFn mRn mTn mVn mLr mTr mFl v12_m9 v12_q9 0 v12_p9 mEn) (hc26 mPa) (hc27 mTo) (hc28 mOt) (hc29 mNa) (hc30 mRe) (hc31 mMa) (hc32 mMy) (hc33 mPm) (hc34 mFy) (hc35 mFa) (hc36 mFr) (hc37 mFo) (hc38 mRt) (hc39 mRm) (hc40 mTt) (hc41 mTi) (hc42 mPl) (hc43 mVr) (hc44 mVf) (hc45 mVc) (hc46 mAr) (hc47 mTc) (hc48 v12_f9) (hc49 mGo) dyn, 0, 0)) rfl ?_
    refine pm_go (g := (101, _, [.int v12_r9], _, 0, 0)) rfl ?_
    refine pm_ret rfl (k0 _ _ _ _ _ _ ?_ ?_)
    rotate_left
    · omega
    exact Or.inr (Or.inl ⟨by omega, rfl, _, h11, Or.inr ⟨by omega, rfl⟩⟩)
  ·
    have h20 : mFo (r).toNatClampNeg = 2 := xI (c := 2) (by decide) (by omega)
    refine pm_go (g := (102, [(4, .int (mRm (r).toNatClampNeg)), (3, .int (mRt (r).toNatClampNeg)), (0, .ref 25), (1, .int r), (2, .int f)], [], hq g c1 c2 c3 c4 c5 c6 c7 c8 c9 c10 c11 c12 c13 c14 c15 c16 c17 c18 c19 c20 c21 c22 c23 c24 (hc25 mTy mTm mMn mFn mRn mTn mVn mLr mTr mFl mFm mFp 0 0 mEn) (hc26 mPa) (hc27 mTo) (hc28 mOt) (hc29 mNa) (hc30 mRe) (hc31 mMa) (hc32 mMy) (hc33 mPm) (hc34 mFy) (hc35 mFa) (hc36 mFr) (hc37 mFo) (hc38 mRt) (hc39 mRm) (hc40 mTt) (hc41 mTi) (hc42 mPl) (hc43 mVr) (hc44 mVf) (hc45 mVc) (hc46 mAr) (hc47 mTc) (hc48 mFt) (hc49 mGo) dyn, 0, 0)) (by rw [h20]; rfl) ?_
    refine pm_go (g := (103, _, [.ref 25], _, 0, 0)) rfl ?_
    refine pm_go (g := (104, _, [.ref 25, .ref 25], _, 0, 0)) rfl ?_
    refine pm_go (g := (107, _, [.ref 26, .ref 25], _, 0, 0)) rfl ?_
    refine pm_go (g := (108, _, [.int (mRt (r).toNatClampNeg), .ref 26, .ref 25], _, 0, 0)) rfl ?_
    refine pm_sd (g := (109, _, [.int (mPa (mRt (r).toNatClampNeg).toNatClampNeg), .ref 25], _, 0, 0)) rfl (pm_inI (by omega) (by omega)) ?_
    refine pm_go (g := (111, _, [.int (mRm (r).toNatClampNeg), .int (mPa (mRt (r).toNatClampNeg).toNatClampNeg), .ref 25], _, 0, 0)) rfl ?_
    refine pm_go (g := (112, _, [.int f, .int (mRm (r).toNatClampNeg), .int (mPa (mRt (r).toNatClampNeg).toNatClampNeg), .ref 25], _, 0, 0)) rfl ?_
    refine pm_callD (z := 156) (as := [.ref 25, .int (mPa (mRt (r).toNatClampNeg).toNatClampNeg), .int (mRm (r).toNatClampNeg), .int f]) (rest := []) rfl ?_
    have h21 : (0 : Int32).toInt = 0 := by decide
    refine w_X12_ofOne (mPa (mRt (r).toNatClampNeg).toNatClampNeg) (mRm (r).toNatClampNeg) f (by omega) (by omega) (by assumption) (by assumption) (by assumption) (by omega) (fun v23_f9 v23_m9 v23_q9 v23_p9 v23_r9 h22 h23 => ?_)
    show pm_WP 157 (115, [(4, .int (mRm (r).toNatClampNeg)), (3, .int (mRt (r).toNatClampNeg)), (0, .ref 25), (1, .int r), (2, .int f)], [.int v23_r9], _, 0, 0) _
    refine pm_go (g := (117, [(5, .int v23_r9), (4, .int (mRm (r).toNatClampNeg)), (3, .int (mRt (r).toNatClampNeg)), (0, .ref 25), (1, .int r), (2, .int f)], [], _, 0, 0)) rfl ?_
    refine pm_go (g := (119, _, [.int v23_r9], _, 0, 0)) rfl ?_
    refine pm_if2 (g := (127, [(5, .int v23_r9), (4, .int (mRm (r).toNatClampNeg)), (3, .int (mRt (r).toNatClampNeg)), (0, .ref 25), (1, .int r), (2, .int f)], [], hq g c1 c2 c3 c4 c5 c6 c7 c8 c9 c10 c11 c12 c13 c14 c15 c16 c17 c18 c19 c20 c21 c22 c23 c24 (hc25 mTy mTm mMn mFn mRn mTn mVn mLr mTr mFl v23_m9 v23_q9 0 v23_p9 mEn) (hc26 mPa) (hc27 mTo) (hc28 mOt) (hc29 mNa) (hc30 mRe) (hc31 mMa) (hc32 mMy) (hc33 mPm) (hc34 mFy) (hc35 mFa) (hc36 mFr) (hc37 mFo) (hc38 mRt) (hc39 mRm) (hc40 mTt) (hc41 mTi) (hc42 mPl) (hc43 mVr) (hc44 mVf) (hc45 mVc) (hc46 mAr) (hc47 mTc) (hc48 v23_f9) (hc49 mGo) dyn, 0, 0)) (h := (122, [(5, .int v23_r9), (4, .int (mRm (r).toNatClampNeg)), (3, .int (mRt (r).toNatClampNeg)), (0, .ref 25), (1, .int r), (2, .int f)], [], hq g c1 c2 c3 c4 c5 c6 c7 c8 c9 c10 c11 c12 c13 c14 c15 c16 c17 c18 c19 c20 c21 c22 c23 c24 (hc25 mTy mTm mMn mFn mRn mTn mVn mLr mTr mFl v23_m9 v23_q9 0 v23_p9 mEn) (hc26 mPa) (hc27 mTo) (hc28 mOt) (hc29 mNa) (hc30 mRe) (hc31 mMa) (hc32 mMy) (hc33 mPm) (hc34 mFy) (hc35 mFa) (hc36 mFr) (hc37 mFo) (hc38 mRt) (hc39 mRm) (hc40 mTt) (hc41 mTi) (hc42 mPl) (hc43 mVr) (hc44 mVf) (hc45 mVc) (hc46 mAr) (hc47 mTc) (hc48 v23_f9) (hc49 mGo) dyn, 0, 0)) rfl (fun h25 => ?_) (fun h25 => ?_)
    ·
      have h25 := qT_ge (cx := (v23_r9).toInt) (cy := 0) rfl (by decide) h25
      refine pm_go (g := (128, _, [.ref 25], _, 0, 0)) rfl ?_
      refine pm_go (g := (130, _, [.int v23_r9, .ref 25], _, 0, 0)) rfl ?_
      refine pm_go (g := (131, _, [.int 1, .int v23_r9, .ref 25], _, 0, 0)) rfl ?_
      refine pm_callD (z := 139) (as := [.ref 25, .int v23_r9, .int 1]) (rest := []) rfl ?_
      have h26 : (1 : Int32).toInt = 1 := by decide
      have h27 : (0 : Int32).toInt = 0 := by decide
      refine w_X12_isMark v23_r9 1 (by omega) (fun h28 => ?_) (fun h29 => ?_)
      ·
        show pm_WP 157 (134, [(5, .int v23_r9), (4, .int (mRm (r).toNatClampNeg)), (3, .int (mRt (r).toNatClampNeg)), (0, .ref 25), (1, .int r), (2, .int f)], [.int 1], _, 0, 0) _
        refine pm_brF (h := (137, [(5, .int v23_r9), (4, .int (mRm (r).toNatClampNeg)), (3, .int (mRt (r).toNatClampNeg)), (0, .ref 25), (1, .int r), (2, .int f)], [], hq g c1 c2 c3 c4 c5 c6 c7 c8 c9 c10 c11 c12 c13 c14 c15 c16 c17 c18 c19 c20 c21 c22 c23 c24 (hc25 mTy mTm mMn mFn mRn mTn mVn mLr mTr mFl v23_m9 v23_q9 0 v23_p9 mEn) (hc26 mPa) (hc27 mTo) (hc28 mOt) (hc29 mNa) (hc30 mRe) (hc31 mMa) (hc32 mMy) (hc33 mPm) (hc34 mFy) (hc35 mFa) (hc36 mFr) (hc37 mFo) (hc38 mRt) (hc39 mRm) (hc40 mTt) (hc41 mTi) (hc42 mPl) (hc43 mVr) (hc44 mVf) (hc45 mVc) (hc46 mAr) (hc47 mTc) (hc48 v23_f9) (hc49 mGo) dyn, 0, 0)) rfl ?_
        refine pm_go (g := (139, _, [.int (-13)], _, 0, 0)) rfl ?_
        refine pm_go (g := (159, _, [.int (-13)], _, 0, 0)) rfl ?_
        refine pm_ret rfl (k0 _ _ _ _ _ _ ?_ ?_)
        rotate_left
        · omega
        exact Or.inr (Or.inr (Or.inl ⟨by omega, rfl, _, h22, Or.inr (Or.inl ⟨by omega, rfl⟩)⟩))
      show pm_WP 157 (134, [(5, .int v23_r9), (4, .int (mRm (r).toNatClampNeg)), (3, .int (mRt (r).toNatClampNeg)), (0, .ref 25), (1, .int r), (2, .int f)], [.int 0], hq g c1 c2 c3 c4 c5 c6 c7 c8 c9 c10 c11 c12 c13 c14 c15 c16 c17 c18 c19 c20 c21 c22 c23 c24 (hc25 mTy mTm mMn mFn mRn mTn mVn mLr mTr mFl v23_m9 v23_q9 0 v23_p9 mEn) (hc26 mPa) (hc27 mTo) (hc28 mOt) (hc29 mNa) (hc30 mRe) (hc31 mMa) (hc32 mMy) (hc33 mPm) (hc34 mFy) (hc35 mFa) (hc36 mFr) (hc37 mFo) (hc38 mRt) (hc39 mRm) (hc40 mTt) (hc41 mTi) (hc42 mPl) (hc43 mVr) (hc44 mVf) (hc45 mVc) (hc46 mAr) (hc47 mTc) (hc48 v23_f9) (hc49 mGo) dyn, 0, 0) _
      refine pm_brT (g := (142, [(5, .int v23_r9), (4, .int (mRm (r).toNatClampNeg)), (3, .int (mRt (r).toNatClampNeg)), (0, .ref 25), (1, .int r), (2, .int f)], [], hq g c1 c2 c3 c4 c5 c6 c7 c8 c9 c10 c11 c12 c13 c14 c15 c16 c17 c18 c19 c20 c21 c22 c23 c24 (hc25 mTy mTm mMn mFn mRn mTn mVn mLr mTr mFl v23_m9 v23_q9 0 v23_p9 mEn) (hc26 mPa) (hc27 mTo) (hc28 mOt) (hc29 mNa) (hc30 mRe) (hc31 mMa) (hc32 mMy) (hc33 mPm) (hc34 mFy) (hc35 mFa) (hc36 mFr) (hc37 mFo) (hc38 mRt) (hc39 mRm) (hc40 mTt) (hc41 mTi) (hc42 mPl) (hc43 mVr) (hc44 mVf) (hc45 mVc) (hc46 mAr) (hc47 mTc) (hc48 v23_f9) (hc49 mGo) dyn, 0, 0)) rfl ?_
      refine pm_go (g := (143, _, [.ref 25], _, 0, 0)) rfl ?_
      refine pm_go (g := (145, _, [.int v23_r9, .ref 25], _, 0, 0)) rfl ?_
      refine pm_go (g := (146, _, [.int 2, .int v23_r9, .ref 25], _, 0, 0)) rfl ?_
      refine pm_callD (z := 139) (as := [.ref 25, .int v23_r9, .int 2]) (rest := []) rfl ?_
      have h31 : (2 : Int32).toInt = 2 := by decide
      have h32 : (0 : Int32).toInt = 0 := by decide
      refine w_X12_isMark v23_r9 2 (by omega) (fun h33 => ?_) (fun h34 => ?_)
      ·
        show pm_WP 157 (149, [(5, .int v23_r9), (4, .int (mRm (r).toNatClampNeg)), (3, .int (mRt (r).toNatClampNeg)), (0, .ref 25), (1, .int r), (2, .int f)], [.int 1], _, 0, 0) _
        refine pm_brF (h := (152, [(5, .int v23_r9), (4, .int (mRm (r).toNatClampNeg)), (3, .int (mRt (r).toNatClampNeg)), (0, .ref 25), (1, .int r), (2, .int f)], [], hq g c1 c2 c3 c4 c5 c6 c7 c8 c9 c10 c11 c12 c13 c14 c15 c16 c17 c18 c19 c20 c21 c22 c23 c24 (hc25 mTy mTm mMn mFn mRn mTn mVn mLr mTr mFl v23_m9 v23_q9 0 v23_p9 mEn) (hc26 mPa) (hc27 mTo) (hc28 mOt) (hc29 mNa) (hc30 mRe) (hc31 mMa) (hc32 mMy) (hc33 mPm) (hc34 mFy) (hc35 mFa) (hc36 mFr) (hc37 mFo) (hc38 mRt) (hc39 mRm) (hc40 mTt) (hc41 mTi) (hc42 mPl) (hc43 mVr) (hc44 mVf) (hc45 mVc) (hc46 mAr) (hc47 mTc) (hc48 v23_f9) (hc49 mGo) dyn, 0, 0)) rfl ?_
        refine pm_go (g := (154, _, [.int (-14)], _, 0, 0)) rfl ?_
        refine pm_go (g := (159, _, [.int (-14)], _, 0, 0)) rfl ?_
        refine pm_ret rfl (k0 _ _ _ _ _ _ ?_ ?_)
        rotate_left
        · omega
        exact Or.inr (Or.inr (Or.inl ⟨by omega, rfl, _, h22, Or.inr (Or.inr (Or.inl ⟨by omega, rfl⟩))⟩))
      show pm_WP 157 (149, [(5, .int v23_r9), (4, .int (mRm (r).toNatClampNeg)), (3, .int (mRt (r).toNatClampNeg)), (0, .ref 25), (1, .int r), (2, .int f)], [.int 0], hq g c1 c2 c3 c4 c5 c6 c7 c8 c9 c10 c11 c12 c13 c14 c15 c16 c17 c18 c19 c20 c21 c22 c23 c24 (hc25 mTy mTm mMn mFn mRn mTn mVn mLr mTr mFl v23_m9 v23_q9 0 v23_p9 mEn) (hc26 mPa) (hc27 mTo) (hc28 mOt) (hc29 mNa) (hc30 mRe) (hc31 mMa) (hc32 mMy) (hc33 mPm) (hc34 mFy) (hc35 mFa) (hc36 mFr) (hc37 mFo) (hc38 mRt) (hc39 mRm) (hc40 mTt) (hc41 mTi) (hc42 mPl) (hc43 mVr) (hc44 mVf) (hc45 mVc) (hc46 mAr) (hc47 mTc) (hc48 v23_f9) (hc49 mGo) dyn, 0, 0) _
      refine pm_brT (g := (157, [(5, .int v23_r9), (4, .int (mRm (r).toNatClampNeg)), (3, .int (mRt (r).toNatClampNeg)), (0, .ref 25), (1, .int r), (2, .int f)], [], hq g c1 c2 c3 c4 c5 c6 c7 c8 c9 c10 c11 c12 c13 c14 c15 c16 c17 c18 c19 c20 c21 c22 c23 c24 (hc25 mTy mTm mMn mFn mRn mTn mVn mLr mTr mFl v23_m9 v23_q9 0 v23_p9 mEn) (hc26 mPa) (hc27 mTo) (hc28 mOt) (hc29 mNa) (hc30 mRe) (hc31 mMa) (hc32 mMy) (hc33 mPm) (hc34 mFy) (hc35 mFa) (hc36 mFr) (hc37 mFo) (hc38 mRt) (hc39 mRm) (hc40 mTt) (hc41 mTi) (hc42 mPl) (hc43 mVr) (hc44 mVf) (hc45 mVc) (hc46 mAr) (hc47 mTc) (hc48 v23_f9) (hc49 mGo) dyn, 0, 0)) rfl ?_
      refine pm_go (g := (159, _, [.int v23_r9], _, 0, 0)) rfl ?_
      refine pm_ret rfl (k0 _ _ _ _ _ _ ?_ ?_)
      rotate_left
      · omega
      exact Or.inr (Or.inr (Or.inl ⟨by omega, rfl, _, h22, by first | exact Or.inl ⟨by omega, rfl⟩ | exact Or.inr (Or.inr (Or.inr ⟨by omega, rfl⟩))⟩))
    have h25 := qF_ge (cx := (v23_r9).toInt) (cy := 0) rfl (by decide) h25
    refine pm_go (g := (124, _, [.int v23_r9], _, 0, 0)) rfl ?_
    refine pm_go (g := (159, _, [.int v23_r9], _, 0, 0)) rfl ?_
    refine pm_ret rfl (k0 _ _ _ _ _ _ ?_ ?_)
    rotate_left
    · omega
    exact Or.inr (Or.inr (Or.inl ⟨by omega, rfl, _, h22, by first | exact Or.inl ⟨by omega, rfl⟩ | exact Or.inr (Or.inr (Or.inr ⟨by omega, rfl⟩))⟩))
  ·
    have h36 : mFo (r).toNatClampNeg = 3 := xI (c := 3) (by decide) (by omega)
    refine pm_go (g := (160, [(4, .int (mRm (r).toNatClampNeg)), (3, .int (mRt (r).toNatClampNeg)), (0, .ref 25), (1, .int r), (2, .int f)], [], hq g c1 c2 c3 c4 c5 c6 c7 c8 c9 c10 c11 c12 c13 c14 c15 c16 c17 c18 c19 c20 c21 c22 c23 c24 (hc25 mTy mTm mMn mFn mRn mTn mVn mLr mTr mFl mFm mFp 0 0 mEn) (hc26 mPa) (hc27 mTo) (hc28 mOt) (hc29 mNa) (hc30 mRe) (hc31 mMa) (hc32 mMy) (hc33 mPm) (hc34 mFy) (hc35 mFa) (hc36 mFr) (hc37 mFo) (hc38 mRt) (hc39 mRm) (hc40 mTt) (hc41 mTi) (hc42 mPl) (hc43 mVr) (hc44 mVf) (hc45 mVc) (hc46 mAr) (hc47 mTc) (hc48 mFt) (hc49 mGo) dyn, 0, 0)) (by rw [h36]; rfl) ?_
    refine pm_go (g := (161, _, [.ref 25], _, 0, 0)) rfl ?_
    refine pm_go (g := (162, _, [.int (mRt (r).toNatClampNeg), .ref 25], _, 0, 0)) rfl ?_
    refine pm_callD (z := 145) (as := [.ref 25, .int (mRt (r).toNatClampNeg)]) (rest := []) rfl ?_
    have h37 : (0 : Int32).toInt = 0 := by decide
    refine w_X12_isOpen (mRt (r).toNatClampNeg) (by assumption) (by assumption) (by omega) (fun h38 => ?_) (fun h39 => ?_)
    ·
      show pm_WP 157 (165, [(4, .int (mRm (r).toNatClampNeg)), (3, .int (mRt (r).toNatClampNeg)), (0, .ref 25), (1, .int r), (2, .int f)], [.int 1], _, 0, 0) _
      refine pm_brF (h := (168, [(4, .int (mRm (r).toNatClampNeg)), (3, .int (mRt (r).toNatClampNeg)), (0, .ref 25), (1, .int r), (2, .int f)], [], hq g c1 c2 c3 c4 c5 c6 c7 c8 c9 c10 c11 c12 c13 c14 c15 c16 c17 c18 c19 c20 c21 c22 c23 c24 (hc25 mTy mTm mMn mFn mRn mTn mVn mLr mTr mFl mFm mFp 0 0 mEn) (hc26 mPa) (hc27 mTo) (hc28 mOt) (hc29 mNa) (hc30 mRe) (hc31 mMa) (hc32 mMy) (hc33 mPm) (hc34 mFy) (hc35 mFa) (hc36 mFr) (hc37 mFo) (hc38 mRt) (hc39 mRm) (hc40 mTt) (hc41 mTi) (hc42 mPl) (hc43 mVr) (hc44 mVf) (hc45 mVc) (hc46 mAr) (hc47 mTc) (hc48 mFt) (hc49 mGo) dyn, 0, 0)) rfl ?_
      refine pm_go (g := (170, _, [.int (-14)], _, 0, 0)) rfl ?_
      refine pm_ret rfl (k0 _ _ _ _ _ _ ?_ ?_)
      rotate_left
      · omega
      exact Or.inr (Or.inr (Or.inr (Or.inl ⟨by omega, rfl, Or.inl ⟨by assumption, rfl, rfl⟩⟩)))
    show pm_WP 157 (165, [(4, .int (mRm (r).toNatClampNeg)), (3, .int (mRt (r).toNatClampNeg)), (0, .ref 25), (1, .int r), (2, .int f)], [.int 0], hq g c1 c2 c3 c4 c5 c6 c7 c8 c9 c10 c11 c12 c13 c14 c15 c16 c17 c18 c19 c20 c21 c22 c23 c24 (hc25 mTy mTm mMn mFn mRn mTn mVn mLr mTr mFl mFm mFp 0 0 mEn) (hc26 mPa) (hc27 mTo) (hc28 mOt) (hc29 mNa) (hc30 mRe) (hc31 mMa) (hc32 mMy) (hc33 mPm) (hc34 mFy) (hc35 mFa) (hc36 mFr) (hc37 mFo) (hc38 mRt) (hc39 mRm) (hc40 mTt) (hc41 mTi) (hc42 mPl) (hc43 mVr) (hc44 mVf) (hc45 mVc) (hc46 mAr) (hc47 mTc) (hc48 mFt) (hc49 mGo) dyn, 0, 0) _
    refine pm_brT (g := (171, [(4, .int (mRm (r).toNatClampNeg)), (3, .int (mRt (r).toNatClampNeg)), (0, .ref 25), (1, .int r), (2, .int f)], [], hq g c1 c2 c3 c4 c5 c6 c7 c8 c9 c10 c11 c12 c13 c14 c15 c16 c17 c18 c19 c20 c21 c22 c23 c24 (hc25 mTy mTm mMn mFn mRn mTn mVn mLr mTr mFl mFm mFp 0 0 mEn) (hc26 mPa) (hc27 mTo) (hc28 mOt) (hc29 mNa) (hc30 mRe) (hc31 mMa) (hc32 mMy) (hc33 mPm) (hc34 mFy) (hc35 mFa) (hc36 mFr) (hc37 mFo) (hc38 mRt) (hc39 mRm) (hc40 mTt) (hc41 mTi) (hc42 mPl) (hc43 mVr) (hc44 mVf) (hc45 mVc) (hc46 mAr) (hc47 mTc) (hc48 mFt) (hc49 mGo) dyn, 0, 0)) rfl ?_
    refine pm_go (g := (172, _, [.ref 25], _, 0, 0)) rfl ?_
    refine pm_go (g := (173, _, [.int (mRt (r).toNatClampNeg), .ref 25], _, 0, 0)) rfl ?_
    refine pm_callD (z := 154) (as := [.ref 25, .int (mRt (r).toNatClampNeg)]) (rest := []) rfl ?_
    have h41 : (0 : Int32).toInt = 0 := by decide
    refine w_X12_makers (mRt (r).toNatClampNeg) (by omega) (fun v42_r9 h42 => ?_)
    show pm_WP 157 (176, [(4, .int (mRm (r).toNatClampNeg)), (3, .int (mRt (r).toNatClampNeg)), (0, .ref 25), (1, .int r), (2, .int f)], [.int v42_r9], _, 0, 0) _
    refine pm_if2 (g := (196, [(4, .int (mRm (r).toNatClampNeg)), (3, .int (mRt (r).toNatClampNeg)), (0, .ref 25), (1, .int r), (2, .int f)], [], hq g c1 c2 c3 c4 c5 c6 c7 c8 c9 c10 c11 c12 c13 c14 c15 c16 c17 c18 c19 c20 c21 c22 c23 c24 (hc25 mTy mTm mMn mFn mRn mTn mVn mLr mTr mFl mFm mFp 0 0 mEn) (hc26 mPa) (hc27 mTo) (hc28 mOt) (hc29 mNa) (hc30 mRe) (hc31 mMa) (hc32 mMy) (hc33 mPm) (hc34 mFy) (hc35 mFa) (hc36 mFr) (hc37 mFo) (hc38 mRt) (hc39 mRm) (hc40 mTt) (hc41 mTi) (hc42 mPl) (hc43 mVr) (hc44 mVf) (hc45 mVc) (hc46 mAr) (hc47 mTc) (hc48 mFt) (hc49 mGo) dyn, 0, 0)) (h := (179, [(4, .int (mRm (r).toNatClampNeg)), (3, .int (mRt (r).toNatClampNeg)), (0, .ref 25), (1, .int r), (2, .int f)], [], hq g c1 c2 c3 c4 c5 c6 c7 c8 c9 c10 c11 c12 c13 c14 c15 c16 c17 c18 c19 c20 c21 c22 c23 c24 (hc25 mTy mTm mMn mFn mRn mTn mVn mLr mTr mFl mFm mFp 0 0 mEn) (hc26 mPa) (hc27 mTo) (hc28 mOt) (hc29 mNa) (hc30 mRe) (hc31 mMa) (hc32 mMy) (hc33 mPm) (hc34 mFy) (hc35 mFa) (hc36 mFr) (hc37 mFo) (hc38 mRt) (hc39 mRm) (hc40 mTt) (hc41 mTi) (hc42 mPl) (hc43 mVr) (hc44 mVf) (hc45 mVc) (hc46 mAr) (hc47 mTc) (hc48 mFt) (hc49 mGo) dyn, 0, 0)) rfl (fun h44 => ?_) (fun h44 => ?_)
    ·
      have h44 := qT_ne (cx := (v42_r9).toInt) (cy := 0) rfl (by decide) h44
      refine pm_go (g := (197, _, [.ref 25], _, 0, 0)) rfl ?_
      refine pm_go (g := (198, _, [.int (mRt (r).toNatClampNeg), .ref 25], _, 0, 0)) rfl ?_
      refine pm_go (g := (200, _, [.int 6, .int (mRt (r).toNatClampNeg), .ref 25], _, 0, 0)) rfl ?_
      refine pm_go (g := (201, _, [.int f, .int 6, .int (mRt (r).toNatClampNeg), .ref 25], _, 0, 0)) rfl ?_
      refine pm_callD (z := 156) (as := [.ref 25, .int (mRt (r).toNatClampNeg), .int 6, .int f]) (rest := []) rfl ?_
      have h45 : (6 : Int32).toInt = 6 := by decide
      have h46 : (0 : Int32).toInt = 0 := by decide
      refine w_X12_ofOne (mRt (r).toNatClampNeg) 6 f (by omega) (by omega) (by assumption) (by assumption) (by assumption) (by omega) (fun v48_f9 v48_m9 v48_q9 v48_p9 v48_r9 h47 h48 => ?_)
      show pm_WP 157 (204, [(4, .int (mRm (r).toNatClampNeg)), (3, .int (mRt (r).toNatClampNeg)), (0, .ref 25), (1, .int r), (2, .int f)], [.int v48_r9], _, 0, 0) _
      refine pm_ret rfl (k0 _ _ _ _ _ _ ?_ ?_)
      rotate_left
      · omega
      exact Or.inr (Or.inr (Or.inr (Or.inl ⟨by omega, rfl, Or.inr (Or.inr ⟨by assumption, Classical.byContradiction (fun q => absurd (h42.mpr q) (by omega)), h47⟩)⟩)))
    have h44 := qF_ne (cx := (v42_r9).toInt) (cy := 0) rfl (by decide) h44
    refine pm_go (g := (180, _, [.ref 25], hq g c1 c2 c3 c4 c5 c6 c7 c8 c9 c10 c11 c12 c13 c14 c15 c16 c17 c18 c19 c20 c21 c22 c23 c24 (hc25 mTy mTm mMn mFn mRn mTn mVn mLr mTr mFl mFm mFp 0 0 mEn) (hc26 mPa) (hc27 mTo) (hc28 mOt) (hc29 mNa) (hc30 mRe) (hc31 mMa) (hc32 mMy) (hc33 mPm) (hc34 mFy) (hc35 mFa) (hc36 mFr) (hc37 mFo) (hc38 mRt) (hc39 mRm) (hc40 mTt) (hc41 mTi) (hc42 mPl) (hc43 mVr) (hc44 mVf) (hc45 mVc) (hc46 mAr) (hc47 mTc) (hc48 mFt) (hc49 mGo) dyn, 0, 0)) rfl ?_
    refine pm_go (g := (183, _, [.ref 34], _, 0, 0)) rfl ?_
    refine pm_go (g := (184, _, [.int f, .ref 34], _, 0, 0)) rfl ?_
    refine pm_sd (g := (185, _, [.int (mFy (f).toNatClampNeg)], _, 0, 0)) rfl (pm_inI (by omega) (by omega)) ?_
    refine pm_if2 (g := (193, [(4, .int (mRm (r).toNatClampNeg)), (3, .int (mRt (r).toNatClampNeg)), (0, .ref 25), (1, .int r), (2, .int f)], [], hq g c1 c2 c3 c4 c5 c6 c7 c8 c9 c10 c11 c12 c13 c14 c15 c16 c17 c18 c19 c20 c21 c22 c23 c24 (hc25 mTy mTm mMn mFn mRn mTn mVn mLr mTr mFl mFm mFp 0 0 mEn) (hc26 mPa) (hc27 mTo) (hc28 mOt) (hc29 mNa) (hc30 mRe) (hc31 mMa) (hc32 mMy) (hc33 mPm) (hc34 mFy) (hc35 mFa) (hc36 mFr) (hc37 mFo) (hc38 mRt) (hc39 mRm) (hc40 mTt) (hc41 mTi) (hc42 mPl) (hc43 mVr) (hc44 mVf) (hc45 mVc) (hc46 mAr) (hc47 mTc) (hc48 mFt) (hc49 mGo) dyn, 0, 0)) (h := (188, [(4, .int (mRm (r).toNatClampNeg)), (3, .int (mRt (r).toNatClampNeg)), (0, .ref 25), (1, .int r), (2, .int f)], [], hq g c1 c2 c3 c4 c5 c6 c7 c8 c9 c10 c11 c12 c13 c14 c15 c16 c17 c18 c19 c20 c21 c22 c23 c24 (hc25 mTy mTm mMn mFn mRn mTn mVn mLr mTr mFl mFm mFp 0 0 mEn) (hc26 mPa) (hc27 mTo) (hc28 mOt) (hc29 mNa) (hc30 mRe) (hc31 mMa) (hc32 mMy) (hc33 mPm) (hc34 mFy) (hc35 mFa) (hc36 mFr) (hc37 mFo) (hc38 mRt) (hc39 mRm) (hc40 mTt) (hc41 mTi) (hc42 mPl) (hc43 mVr) (hc44 mVf) (hc45 mVc) (hc46 mAr) (hc47 mTc) (hc48 mFt) (hc49 mGo) dyn, 0, 0)) rfl (fun h50 => ?_) (fun h50 => ?_)
    ·
      have h50 := qT_ne (cx := (mFy (f).toNatClampNeg).toInt) (cy := 0) rfl (by decide) h50
      refine pm_go (g := (195, _, [.int (-11)], _, 0, 0)) rfl ?_
      refine pm_ret rfl (k0 _ _ _ _ _ _ ?_ ?_)
      rotate_left
      · omega
      exact Or.inr (Or.inr (Or.inr (Or.inl ⟨by omega, rfl, Or.inr (Or.inl ⟨by assumption, h42.mp (by omega), rfl, Or.inr ⟨by omega, rfl⟩⟩)⟩)))
    have h50 := qF_ne (cx := (mFy (f).toNatClampNeg).toInt) (cy := 0) rfl (by decide) h50
    refine pm_go (g := (190, _, [.int 99], _, 0, 0)) rfl ?_
    refine pm_go (g := (195, _, [.int 99], _, 0, 0)) rfl ?_
    refine pm_ret rfl (k0 _ _ _ _ _ _ ?_ ?_)
    rotate_left
    · omega
    exact Or.inr (Or.inr (Or.inr (Or.inl ⟨by omega, rfl, Or.inr (Or.inl ⟨by assumption, h42.mp (by omega), rfl, Or.inl ⟨by omega, rfl⟩⟩)⟩)))
  refine pm_goE (g := (205, [(4, .int (mRm (r).toNatClampNeg)), (3, .int (mRt (r).toNatClampNeg)), (0, .ref 25), (1, .int r), (2, .int f)], [], hq g c1 c2 c3 c4 c5 c6 c7 c8 c9 c10 c11 c12 c13 c14 c15 c16 c17 c18 c19 c20 c21 c22 c23 c24 (hc25 mTy mTm mMn mFn mRn mTn mVn mLr mTr mFl mFm mFp 0 0 mEn) (hc26 mPa) (hc27 mTo) (hc28 mOt) (hc29 mNa) (hc30 mRe) (hc31 mMa) (hc32 mMy) (hc33 mPm) (hc34 mFy) (hc35 mFa) (hc36 mFr) (hc37 mFo) (hc38 mRt) (hc39 mRm) (hc40 mTt) (hc41 mTi) (hc42 mPl) (hc43 mVr) (hc44 mVf) (hc45 mVc) (hc46 mAr) (hc47 mTc) (hc48 mFt) (hc49 mGo) dyn, 0, 0)) (pm_swO (by decide) rfl (by omega)) ?_
  refine pm_go (g := (206, _, [.ref 25], _, 0, 0)) rfl ?_
  refine pm_go (g := (209, _, [.ref 34], _, 0, 0)) rfl ?_
  refine pm_go (g := (210, _, [.int f, .ref 34], _, 0, 0)) rfl ?_
  refine pm_sd (g := (211, _, [.int (mFy (f).toNatClampNeg)], _, 0, 0)) rfl (pm_inI (by omega) (by omega)) ?_
  refine pm_go (g := (212, _, [.int 1, .int (mFy (f).toNatClampNeg)], _, 0, 0)) rfl ?_
  refine pm_if2 (g := (237, [(4, .int (mRm (r).toNatClampNeg)), (3, .int (mRt (r).toNatClampNeg)), (0, .ref 25), (1, .int r), (2, .int f)], [], hq g c1 c2 c3 c4 c5 c6 c7 c8 c9 c10 c11 c12 c13 c14 c15 c16 c17 c18 c19 c20 c21 c22 c23 c24 (hc25 mTy mTm mMn mFn mRn mTn mVn mLr mTr mFl mFm mFp 0 0 mEn) (hc26 mPa) (hc27 mTo) (hc28 mOt) (hc29 mNa) (hc30 mRe) (hc31 mMa) (hc32 mMy) (hc33 mPm) (hc34 mFy) (hc35 mFa) (hc36 mFr) (hc37 mFo) (hc38 mRt) (hc39 mRm) (hc40 mTt) (hc41 mTi) (hc42 mPl) (hc43 mVr) (hc44 mVf) (hc45 mVc) (hc46 mAr) (hc47 mTc) (hc48 mFt) (hc49 mGo) dyn, 0, 0)) (h := (215, [(4, .int (mRm (r).toNatClampNeg)), (3, .int (mRt (r).toNatClampNeg)), (0, .ref 25), (1, .int r), (2, .int f)], [], hq g c1 c2 c3 c4 c5 c6 c7 c8 c9 c10 c11 c12 c13 c14 c15 c16 c17 c18 c19 c20 c21 c22 c23 c24 (hc25 mTy mTm mMn mFn mRn mTn mVn mLr mTr mFl mFm mFp 0 0 mEn) (hc26 mPa) (hc27 mTo) (hc28 mOt) (hc29 mNa) (hc30 mRe) (hc31 mMa) (hc32 mMy) (hc33 mPm) (hc34 mFy) (hc35 mFa) (hc36 mFr) (hc37 mFo) (hc38 mRt) (hc39 mRm) (hc40 mTt) (hc41 mTi) (hc42 mPl) (hc43 mVr) (hc44 mVf) (hc45 mVc) (hc46 mAr) (hc47 mTc) (hc48 mFt) (hc49 mGo) dyn, 0, 0)) rfl (fun h51 => ?_) (fun h51 => ?_)
  ·
    have h51 := qT_ne (cx := (mFy (f).toNatClampNeg).toInt) (cy := 1) rfl (by decide) h51
    refine pm_go (g := (239, _, [.int (-11)], _, 0, 0)) rfl ?_
    refine pm_ret rfl (k0 _ _ _ _ _ _ ?_ ?_)
    rotate_left
    · omega
    exact Or.inr (Or.inr (Or.inr (Or.inr ⟨by omega, rfl, rfl, Or.inr ⟨by rintro ⟨q1, q2⟩; first | omega | contradiction, rfl⟩⟩)))
  have h51 := qF_ne (cx := (mFy (f).toNatClampNeg).toInt) (cy := 1) rfl (by decide) h51
  refine pm_go (g := (216, _, [.ref 25], _, 0, 0)) rfl ?_
  refine pm_go (g := (217, _, [.ref 25, .ref 25], _, 0, 0)) rfl ?_
  refine pm_go (g := (220, _, [.ref 35, .ref 25], _, 0, 0)) rfl ?_
  refine pm_go (g := (221, _, [.int 3, .ref 35, .ref 25], _, 0, 0)) rfl ?_
  refine pm_go (g := (222, _, [.int f, .int 3, .ref 35, .ref 25], _, 0, 0)) rfl ?_
  refine pm_go (g := (223, _, [.int (3 * f), .ref 35, .ref 25], _, 0, 0)) rfl ?_
  try have h52 : (3 * f).toInt = 3 * (f).toInt := iMul (x := 3) (y := (f).toInt) (by decide) rfl (by omega) (by omega)
  refine pm_sd (g := (224, _, [.int (mFa (3 * f).toNatClampNeg), .ref 25], _, 0, 0)) rfl (pm_inI (by omega) (by omega)) ?_
  refine pm_go (g := (226, _, [.int 10, .int (mFa (3 * f).toNatClampNeg), .ref 25], _, 0, 0)) rfl ?_
  refine pm_callD (z := 133) (as := [.ref 25, .int (mFa (3 * f).toNatClampNeg), .int 10]) (rest := []) rfl ?_
  have h53 : (10 : Int32).toInt = 10 := by decide
  have h54 : (0 : Int32).toInt = 0 := by decide
  refine w_X12_isLoose (mFa (3 * f).toNatClampNeg) 10 (by assumption) (fun h55 => ?_) (fun h56 => ?_)
  ·
    show pm_WP 157 (229, [(4, .int (mRm (r).toNatClampNeg)), (3, .int (mRt (r).toNatClampNeg)), (0, .ref 25), (1, .int r), (2, .int f)], [.int 1], _, 0, 0) _
    refine pm_brF (h := (232, [(4, .int (mRm (r).toNatClampNeg)), (3, .int (mRt (r).toNatClampNeg)), (0, .ref 25), (1, .int r), (2, .int f)], [], hq g c1 c2 c3 c4 c5 c6 c7 c8 c9 c10 c11 c12 c13 c14 c15 c16 c17 c18 c19 c20 c21 c22 c23 c24 (hc25 mTy mTm mMn mFn mRn mTn mVn mLr mTr mFl mFm mFp 0 0 mEn) (hc26 mPa) (hc27 mTo) (hc28 mOt) (hc29 mNa) (hc30 mRe) (hc31 mMa) (hc32 mMy) (hc33 mPm) (hc34 mFy) (hc35 mFa) (hc36 mFr) (hc37 mFo) (hc38 mRt) (hc39 mRm) (hc40 mTt) (hc41 mTi) (hc42 mPl) (hc43 mVr) (hc44 mVf) (hc45 mVc) (hc46 mAr) (hc47 mTc) (hc48 mFt) (hc49 mGo) dyn, 0, 0)) rfl ?_
    refine pm_go (g := (234, _, [.int 99], _, 0, 0)) rfl ?_
    refine pm_go (g := (239, _, [.int 99], _, 0, 0)) rfl ?_
    refine pm_ret rfl (k0 _ _ _ _ _ _ ?_ ?_)
    rotate_left
    · omega
    exact Or.inr (Or.inr (Or.inr (Or.inr ⟨by omega, rfl, rfl, Or.inl ⟨⟨by omega, by assumption⟩, rfl⟩⟩)))
  show pm_WP 157 (229, [(4, .int (mRm (r).toNatClampNeg)), (3, .int (mRt (r).toNatClampNeg)), (0, .ref 25), (1, .int r), (2, .int f)], [.int 0], hq g c1 c2 c3 c4 c5 c6 c7 c8 c9 c10 c11 c12 c13 c14 c15 c16 c17 c18 c19 c20 c21 c22 c23 c24 (hc25 mTy mTm mMn mFn mRn mTn mVn mLr mTr mFl mFm mFp 0 0 mEn) (hc26 mPa) (hc27 mTo) (hc28 mOt) (hc29 mNa) (hc30 mRe) (hc31 mMa) (hc32 mMy) (hc33 mPm) (hc34 mFy) (hc35 mFa) (hc36 mFr) (hc37 mFo) (hc38 mRt) (hc39 mRm) (hc40 mTt) (hc41 mTi) (hc42 mPl) (hc43 mVr) (hc44 mVf) (hc45 mVc) (hc46 mAr) (hc47 mTc) (hc48 mFt) (hc49 mGo) dyn, 0, 0) _
  refine pm_brT (g := (237, [(4, .int (mRm (r).toNatClampNeg)), (3, .int (mRt (r).toNatClampNeg)), (0, .ref 25), (1, .int r), (2, .int f)], [], hq g c1 c2 c3 c4 c5 c6 c7 c8 c9 c10 c11 c12 c13 c14 c15 c16 c17 c18 c19 c20 c21 c22 c23 c24 (hc25 mTy mTm mMn mFn mRn mTn mVn mLr mTr mFl mFm mFp 0 0 mEn) (hc26 mPa) (hc27 mTo) (hc28 mOt) (hc29 mNa) (hc30 mRe) (hc31 mMa) (hc32 mMy) (hc33 mPm) (hc34 mFy) (hc35 mFa) (hc36 mFr) (hc37 mFo) (hc38 mRt) (hc39 mRm) (hc40 mTt) (hc41 mTi) (hc42 mPl) (hc43 mVr) (hc44 mVf) (hc45 mVc) (hc46 mAr) (hc47 mTc) (hc48 mFt) (hc49 mGo) dyn, 0, 0)) rfl ?_
  refine pm_go (g := (239, _, [.int (-11)], _, 0, 0)) rfl ?_
  refine pm_ret rfl (k0 _ _ _ _ _ _ ?_ ?_)
  rotate_left
  · omega
  exact Or.inr (Or.inr (Or.inr (Or.inr ⟨by omega, rfl, rfl, Or.inr ⟨by rintro ⟨q1, q2⟩; first | omega | contradiction, rfl⟩⟩)))
end
section
theorem cm_1 {re : Nat → Int32} {fo t m : Int32} (h : fo.toInt = 4 ∧ t.toInt = 10) : cmM re fo t m = 30 := by unfold cmM; rw [if_pos h.1, if_pos h.2]
theorem cm_2 {re : Nat → Int32} {fo t m : Int32} (h : fo.toInt = 4 ∧ t.toInt ≠ 10) : cmM re fo t m = 20 + t := by unfold cmM; rw [if_pos h.1, if_neg h.2]
theorem cm_3 {re : Nat → Int32} {fo t m : Int32} (h : fo.toInt = 3) : cmM re fo t m = t := by unfold cmM; rw [if_neg (by omega), if_pos h]
theorem cm_4 {re : Nat → Int32} {fo t m : Int32} (h : fo.toInt ≠ 4 ∧ fo.toInt ≠ 3) : cmM re fo t m = re m.toNatClampNeg := by unfold cmM; rw [if_neg h.1, if_neg h.2]
set_option maxRecDepth 100000 in
set_option maxHeartbeats 4000000 in
theorem w2_X12_comes {g c1 c2 c3 c4 c5 c6 c7 c8 c9 c10 c11 c12 c13 c14 c15 c16 c17 c18 c19 c20 c21 c22 c23 c24 : pm_C} {dyn : pm_H} {mTy : Int32} {mPa : Nat → Int32} {mTo : Nat → Int32} {mTm : Int32} {mMn : Int32} {mOt : Nat → Int32} {mNa : Nat → Int32} {mRe : Nat → Int32} {mMa : Nat → Int32} {mMy : Nat → Int32} {mPm : Nat → Int32} {mFn : Int32} {mFy : Nat → Int32} {mFa : Nat → Int32} {mFr : Nat → Int32} {mRn : Int32} {mFo : Nat → Int32} {mRt : Nat → Int32} {mRm : Nat → Int32} {mTn : Int32} {mTt : Nat → Int32} {mTi : Nat → Int32} {mPl : Nat → Int32} {mVn : Int32} {mVr : Nat → Int32} {mVf : Nat → Int32} {mVc : Nat → Int32} {mAr : Nat → Int32} {mLr : Int32} {mTc : Nat → Int32} {mTr : Int32} {mFl : Int32} {mFt : Nat → Int32} {mFm : Int32} {mFp : Int32} {mSc : Int32} {mMp : Int32} {mEn : Int32} {mGo : Nat → Int32} {Q : pm_Q} (r : Int32) (m : Int32) (p0 : 0 ≤ r.toInt ∧ r.toInt < 30) (p1 : ((mFo r.toNatClampNeg).toInt = 3 ∨ (mFo r.toNatClampNeg).toInt = 4 ∨ (0 ≤ m.toInt ∧ m.toInt < 40))) (k0 : Q (some (.int (cmM mRe (mFo r.toNatClampNeg) (mRt r.toNatClampNeg) m))) (hq g c1 c2 c3 c4 c5 c6 c7 c8 c9 c10 c11 c12 c13 c14 c15 c16 c17 c18 c19 c20 c21 c22 c23 c24 (hc25 mTy mTm mMn mFn mRn mTn mVn mLr mTr mFl mFm mFp mSc mMp mEn) (hc26 mPa) (hc27 mTo) (hc28 mOt) (hc29 mNa) (hc30 mRe) (hc31 mMa) (hc32 mMy) (hc33 mPm) (hc34 mFy) (hc35 mFa) (hc36 mFr) (hc37 mFo) (hc38 mRt) (hc39 mRm) (hc40 mTt) (hc41 mTi) (hc42 mPl) (hc43 mVr) (hc44 mVf) (hc45 mVc) (hc46 mAr) (hc47 mTc) (hc48 mFt) (hc49 mGo) dyn)) : pm_WP 158 (0, [(0, .ref 25), (1, .int r), (2, .int m)], [], hq g c1 c2 c3 c4 c5 c6 c7 c8 c9 c10 c11 c12 c13 c14 c15 c16 c17 c18 c19 c20 c21 c22 c23 c24 (hc25 mTy mTm mMn mFn mRn mTn mVn mLr mTr mFl mFm mFp mSc mMp mEn) (hc26 mPa) (hc27 mTo) (hc28 mOt) (hc29 mNa) (hc30 mRe) (hc31 mMa) (hc32 mMy) (hc33 mPm) (hc34 mFy) (hc35 mFa) (hc36 mFr) (hc37 mFo) (hc38 mRt) (hc39 mRm) (hc40 mTt) (hc41 mTi) (hc42 mPl) (hc43 mVr) (hc44 mVf) (hc45 mVc) (hc46 mAr) (hc47 mTc) (hc48 mFt) (hc49 mGo) dyn, 0, 0) Q := by
  refine w_X12_comes r m p0 p1 (fun h => ?_) (fun h => ?_) (fun h => ?_) (fun h => ?_)
  · rw [cm_1 h] at k0; exact k0
  · rw [cm_2 h] at k0; exact k0
  · rw [cm_3 h] at k0; exact k0
  · rw [cm_4 h] at k0; exact k0
set_option maxRecDepth 100000 in
set_option maxHeartbeats 4000000 in
theorem w_X12_wholeMeaning {g c1 c2 c3 c4 c5 c6 c7 c8 c9 c10 c11 c12 c13 c14 c15 c16 c17 c18 c19 c20 c21 c22 c23 c24 : pm_C} {dyn : pm_H} {mTy : Int32} {mPa : Nat → Int32} {mTo : Nat → Int32} {mTm : Int32} {mMn : Int32} {mOt : Nat → Int32} {mNa : Nat → Int32} {mRe : Nat → Int32} {mMa : Nat → Int32} {mMy : Nat → Int32} {mPm : Nat → Int32} {mFn : Int32} {mFy : Nat → Int32} {mFa : Nat → Int32} {mFr : Nat → Int32} {mRn : Int32} {mFo : Nat → Int32} {mRt : Nat → Int32} {mRm : Nat → Int32} {mTn : Int32} {mTt : Nat → Int32} {mTi : Nat → Int32} {mPl : Nat → Int32} {mVn : Int32} {mVr : Nat → Int32} {mVf : Nat → Int32} {mVc : Nat → Int32} {mAr : Nat → Int32} {mLr : Int32} {mTc : Nat → Int32} {mTr : Int32} {mFl : Int32} {mFt : Nat → Int32} {mFm : Int32} {mFp : Int32} {mSc : Int32} {mMp : Int32} {mEn : Int32} {mGo : Nat → Int32} {Q : pm_Q} (r : Int32) (f : Int32) (p0 : 0 ≤ r.toInt ∧ r.toInt < 30) (p1 : (0 ≤ (mFo r.toNatClampNeg).toInt ∧ (mFo r.toNatClampNeg).toInt ≤ 4) ∧ ((mFo r.toNatClampNeg).toInt = 2 → 0 ≤ (mRt r.toNatClampNeg).toInt ∧ (mRt r.toNatClampNeg).toInt < 10)) (p2 : 0 ≤ f.toInt ∧ f.toInt < 10) (p3 : 0 ≤ (mFy f.toNatClampNeg).toInt ∧ (mFy f.toNatClampNeg).toInt ≤ 3) (p4 : paD mPa) (p5 : myD mMy) (p6 : vrD mMa mMy) (p7 : 0 ≤ mMn.toInt ∧ mMn.toInt ≤ 40) (k0 : ∀ (s9 : Int32), ∀ (f9 : Nat → Int32), ∀ (m9 : Int32), ∀ (q9 : Int32), ∀ (p9 : Int32), ∀ (r9 : Int32), (wmM mPa mOt mNa mRe mMy mPm mMa mFa mFy mFr mMn (mFo r.toNatClampNeg) (mRt r.toNatClampNeg) (mRm r.toNatClampNeg) f s9 p9 r9) → ((-15 ≤ r9.toInt ∧ (r9.toInt < mMn.toInt ∨ (r9.toInt = 99 ∧ 3 ≤ (mFo r.toNatClampNeg).toInt))) ∧ (0 ≤ p9.toInt ∧ p9.toInt ≤ 3)) → Q (some (.int r9)) (hq g c1 c2 c3 c4 c5 c6 c7 c8 c9 c10 c11 c12 c13 c14 c15 c16 c17 c18 c19 c20 c21 c22 c23 c24 (hc25 mTy mTm mMn mFn mRn mTn mVn mLr mTr mFl m9 q9 s9 p9 mEn) (hc26 mPa) (hc27 mTo) (hc28 mOt) (hc29 mNa) (hc30 mRe) (hc31 mMa) (hc32 mMy) (hc33 mPm) (hc34 mFy) (hc35 mFa) (hc36 mFr) (hc37 mFo) (hc38 mRt) (hc39 mRm) (hc40 mTt) (hc41 mTi) (hc42 mPl) (hc43 mVr) (hc44 mVf) (hc45 mVc) (hc46 mAr) (hc47 mTc) (hc48 f9) (hc49 mGo) dyn)) : pm_WP 159 (0, [(0, .ref 25), (1, .int r), (2, .int f)], [], hq g c1 c2 c3 c4 c5 c6 c7 c8 c9 c10 c11 c12 c13 c14 c15 c16 c17 c18 c19 c20 c21 c22 c23 c24 (hc25 mTy mTm mMn mFn mRn mTn mVn mLr mTr mFl mFm mFp mSc mMp mEn) (hc26 mPa) (hc27 mTo) (hc28 mOt) (hc29 mNa) (hc30 mRe) (hc31 mMa) (hc32 mMy) (hc33 mPm) (hc34 mFy) (hc35 mFa) (hc36 mFr) (hc37 mFo) (hc38 mRt) (hc39 mRm) (hc40 mTt) (hc41 mTi) (hc42 mPl) (hc43 mVr) (hc44 mVf) (hc45 mVc) (hc46 mAr) (hc47 mTc) (hc48 mFt) (hc49 mGo) dyn, 0, 0) Q := by
  have z0 : (0 : Int32).toInt = 0 := by decide
  have z1 : (1 : Int32).toInt = 1 := by decide
  have z_11 : (-11 : Int32).toInt = -11 := by decide
  have z_12 : (-12 : Int32).toInt = -12 := by decide
  have z_13 : (-13 : Int32).toInt = -13 := by decide
  have z_14 : (-14 : Int32).toInt = -14 := by decide
  have z_15 : (-15 : Int32).toInt = -15 := by decide
  have z99 : (99 : Int32).toInt = 99 := by decide
  refine pm_go (g := (1, [(0, .ref 25), (1, .int r), (2, .int f)], [.ref 25], hq g c1 c2 c3 c4 c5 c6 c7 c8 c9 c10 c11 c12 c13 c14 c15 c16 c17 c18 c19 c20 c21 c22 c23 c24 (hc25 mTy mTm mMn mFn mRn mTn mVn mLr mTr mFl mFm mFp mSc mMp mEn) (hc26 mPa) (hc27 mTo) (hc28 mOt) (hc29 mNa) (hc30 mRe) (hc31 mMa) (hc32 mMy) (hc33 mPm) (hc34 mFy) (hc35 mFa) (hc36 mFr) (hc37 mFo) (hc38 mRt) (hc39 mRm) (hc40 mTt) (hc41 mTi) (hc42 mPl) (hc43 mVr) (hc44 mVf) (hc45 mVc) (hc46 mAr) (hc47 mTc) (hc48 mFt) (hc49 mGo) dyn, 0, 0)) rfl ?_
  refine pm_go (g := (2, _, [.int r, .ref 25], _, 0, 0)) rfl ?_
  refine pm_go (g := (3, _, [.int f, .int r, .ref 25], _, 0, 0)) rfl ?_
  refine pm_callD (z := 157) (as := [.ref 25, .int r, .int f]) (rest := []) rfl ?_
  refine w_X12_means r f (by omega) (by omega) (by omega) (by omega) (by assumption) (by assumption) (by assumption) (by omega) (fun v2_s9 v2_f9 v2_m9 v2_q9 v2_p9 v2_r9 h1 h2 => ?_)
  show pm_WP 159 (6, [(0, .ref 25), (1, .int r), (2, .int f)], [.int v2_r9], _, 0, 0) _
  refine pm_go (g := (7, [(3, .int v2_r9), (0, .ref 25), (1, .int r), (2, .int f)], [], _, 0, 0)) rfl ?_
  refine pm_go (g := (8, _, [.int v2_r9], _, 0, 0)) rfl ?_
  refine pm_if2 (g := (46, [(3, .int v2_r9), (0, .ref 25), (1, .int r), (2, .int f)], [], hq g c1 c2 c3 c4 c5 c6 c7 c8 c9 c10 c11 c12 c13 c14 c15 c16 c17 c18 c19 c20 c21 c22 c23 c24 (hc25 mTy mTm mMn mFn mRn mTn mVn mLr mTr mFl v2_m9 v2_q9 v2_s9 v2_p9 mEn) (hc26 mPa) (hc27 mTo) (hc28 mOt) (hc29 mNa) (hc30 mRe) (hc31 mMa) (hc32 mMy) (hc33 mPm) (hc34 mFy) (hc35 mFa) (hc36 mFr) (hc37 mFo) (hc38 mRt) (hc39 mRm) (hc40 mTt) (hc41 mTi) (hc42 mPl) (hc43 mVr) (hc44 mVf) (hc45 mVc) (hc46 mAr) (hc47 mTc) (hc48 v2_f9) (hc49 mGo) dyn, 0, 0)) (h := (11, [(3, .int v2_r9), (0, .ref 25), (1, .int r), (2, .int f)], [], hq g c1 c2 c3 c4 c5 c6 c7 c8 c9 c10 c11 c12 c13 c14 c15 c16 c17 c18 c19 c20 c21 c22 c23 c24 (hc25 mTy mTm mMn mFn mRn mTn mVn mLr mTr mFl v2_m9 v2_q9 v2_s9 v2_p9 mEn) (hc26 mPa) (hc27 mTo) (hc28 mOt) (hc29 mNa) (hc30 mRe) (hc31 mMa) (hc32 mMy) (hc33 mPm) (hc34 mFy) (hc35 mFa) (hc36 mFr) (hc37 mFo) (hc38 mRt) (hc39 mRm) (hc40 mTt) (hc41 mTi) (hc42 mPl) (hc43 mVr) (hc44 mVf) (hc45 mVc) (hc46 mAr) (hc47 mTc) (hc48 v2_f9) (hc49 mGo) dyn, 0, 0)) rfl (fun h4 => ?_) (fun h4 => ?_)
  ·
    have h4 := qT_lt (cx := (v2_r9).toInt) (cy := 0) rfl (by decide) h4
    refine pm_go (g := (47, _, [.int v2_r9], _, 0, 0)) rfl ?_
    refine pm_ret rfl (k0 _ _ _ _ _ _ ⟨_, h1, ?_⟩ (by omega))
    first | exact Or.inl ⟨by omega, rfl⟩ | exact Or.inr (Or.inl ⟨⟨by omega, Or.inl (by omega)⟩, rfl⟩) | exact Or.inr (Or.inl ⟨⟨by omega, Or.inr (by assumption)⟩, rfl⟩)
  have h4 := qF_lt (cx := (v2_r9).toInt) (cy := 0) rfl (by decide) h4
  refine pm_go (g := (12, _, [.ref 25], _, 0, 0)) rfl ?_
  refine pm_go (g := (15, _, [.ref 36], _, 0, 0)) rfl ?_
  refine pm_go (g := (16, _, [.int f, .ref 36], _, 0, 0)) rfl ?_
  refine pm_sd (g := (17, _, [.int (mFr (f).toNatClampNeg)], _, 0, 0)) rfl (pm_inI (by omega) (by omega)) ?_
  refine pm_go (g := (19, _, [.int 11, .int (mFr (f).toNatClampNeg)], _, 0, 0)) rfl ?_
  refine pm_if2 (g := (46, [(3, .int v2_r9), (0, .ref 25), (1, .int r), (2, .int f)], [], hq g c1 c2 c3 c4 c5 c6 c7 c8 c9 c10 c11 c12 c13 c14 c15 c16 c17 c18 c19 c20 c21 c22 c23 c24 (hc25 mTy mTm mMn mFn mRn mTn mVn mLr mTr mFl v2_m9 v2_q9 v2_s9 v2_p9 mEn) (hc26 mPa) (hc27 mTo) (hc28 mOt) (hc29 mNa) (hc30 mRe) (hc31 mMa) (hc32 mMy) (hc33 mPm) (hc34 mFy) (hc35 mFa) (hc36 mFr) (hc37 mFo) (hc38 mRt) (hc39 mRm) (hc40 mTt) (hc41 mTi) (hc42 mPl) (hc43 mVr) (hc44 mVf) (hc45 mVc) (hc46 mAr) (hc47 mTc) (hc48 v2_f9) (hc49 mGo) dyn, 0, 0)) (h := (22, [(3, .int v2_r9), (0, .ref 25), (1, .int r), (2, .int f)], [], hq g c1 c2 c3 c4 c5 c6 c7 c8 c9 c10 c11 c12 c13 c14 c15 c16 c17 c18 c19 c20 c21 c22 c23 c24 (hc25 mTy mTm mMn mFn mRn mTn mVn mLr mTr mFl v2_m9 v2_q9 v2_s9 v2_p9 mEn) (hc26 mPa) (hc27 mTo) (hc28 mOt) (hc29 mNa) (hc30 mRe) (hc31 mMa) (hc32 mMy) (hc33 mPm) (hc34 mFy) (hc35 mFa) (hc36 mFr) (hc37 mFo) (hc38 mRt) (hc39 mRm) (hc40 mTt) (hc41 mTi) (hc42 mPl) (hc43 mVr) (hc44 mVf) (hc45 mVc) (hc46 mAr) (hc47 mTc) (hc48 v2_f9) (hc49 mGo) dyn, 0, 0)) rfl (fun h5 => ?_) (fun h5 => ?_)
  ·
    have h5 := qT_eq (cx := (mFr (f).toNatClampNeg).toInt) (cy := 11) rfl (by decide) h5
    refine pm_go (g := (47, _, [.int v2_r9], _, 0, 0)) rfl ?_
    refine pm_ret rfl (k0 _ _ _ _ _ _ ⟨_, h1, ?_⟩ (by omega))
    first | exact Or.inl ⟨by omega, rfl⟩ | exact Or.inr (Or.inl ⟨⟨by omega, Or.inl (by omega)⟩, rfl⟩) | exact Or.inr (Or.inl ⟨⟨by omega, Or.inr (by assumption)⟩, rfl⟩)
  have h5 := qF_eq (cx := (mFr (f).toNatClampNeg).toInt) (cy := 11) rfl (by decide) h5
  refine pm_go (g := (23, _, [.ref 25], _, 0, 0)) rfl ?_
  refine pm_go (g := (24, _, [.ref 25, .ref 25], _, 0, 0)) rfl ?_
  refine pm_go (g := (25, _, [.int r, .ref 25, .ref 25], _, 0, 0)) rfl ?_
  refine pm_go (g := (26, _, [.int v2_r9, .int r, .ref 25, .ref 25], _, 0, 0)) rfl ?_
  refine pm_callD (z := 158) (as := [.ref 25, .int r, .int v2_r9]) (rest := [.ref 25]) rfl ?_
  refine w2_X12_comes r v2_r9 (by omega) (by omega) ?_
  show pm_WP 159 (29, [(3, .int v2_r9), (0, .ref 25), (1, .int r), (2, .int f)], [.int (cmM mRe (mFo r.toNatClampNeg) (mRt r.toNatClampNeg) v2_r9), .ref 25], _, 0, 0) _
  refine pm_go (g := (30, _, [.ref 25, .int (cmM mRe (mFo r.toNatClampNeg) (mRt r.toNatClampNeg) v2_r9), .ref 25], _, 0, 0)) rfl ?_
  refine pm_go (g := (33, _, [.ref 36, .int (cmM mRe (mFo r.toNatClampNeg) (mRt r.toNatClampNeg) v2_r9), .ref 25], _, 0, 0)) rfl ?_
  refine pm_go (g := (34, _, [.int f, .ref 36, .int (cmM mRe (mFo r.toNatClampNeg) (mRt r.toNatClampNeg) v2_r9), .ref 25], _, 0, 0)) rfl ?_
  refine pm_sd (g := (35, _, [.int (mFr (f).toNatClampNeg), .int (cmM mRe (mFo r.toNatClampNeg) (mRt r.toNatClampNeg) v2_r9), .ref 25], _, 0, 0)) rfl (pm_inI (by omega) (by omega)) ?_
  refine pm_callD (z := 133) (as := [.ref 25, .int (cmM mRe (mFo r.toNatClampNeg) (mRt r.toNatClampNeg) v2_r9), .int (mFr (f).toNatClampNeg)]) (rest := []) rfl ?_
  refine w_X12_isLoose (cmM mRe (mFo r.toNatClampNeg) (mRt r.toNatClampNeg) v2_r9) (mFr (f).toNatClampNeg) (by assumption) (fun h7 => ?_) (fun h8 => ?_)
  ·
    show pm_WP 159 (38, [(3, .int v2_r9), (0, .ref 25), (1, .int r), (2, .int f)], [.int 1], _, 0, 0) _
    refine pm_brT (g := (46, [(3, .int v2_r9), (0, .ref 25), (1, .int r), (2, .int f)], [], hq g c1 c2 c3 c4 c5 c6 c7 c8 c9 c10 c11 c12 c13 c14 c15 c16 c17 c18 c19 c20 c21 c22 c23 c24 (hc25 mTy mTm mMn mFn mRn mTn mVn mLr mTr mFl v2_m9 v2_q9 v2_s9 v2_p9 mEn) (hc26 mPa) (hc27 mTo) (hc28 mOt) (hc29 mNa) (hc30 mRe) (hc31 mMa) (hc32 mMy) (hc33 mPm) (hc34 mFy) (hc35 mFa) (hc36 mFr) (hc37 mFo) (hc38 mRt) (hc39 mRm) (hc40 mTt) (hc41 mTi) (hc42 mPl) (hc43 mVr) (hc44 mVf) (hc45 mVc) (hc46 mAr) (hc47 mTc) (hc48 v2_f9) (hc49 mGo) dyn, 0, 0)) rfl ?_
    refine pm_go (g := (47, _, [.int v2_r9], _, 0, 0)) rfl ?_
    refine pm_ret rfl (k0 _ _ _ _ _ _ ⟨_, h1, ?_⟩ (by omega))
    first | exact Or.inl ⟨by omega, rfl⟩ | exact Or.inr (Or.inl ⟨⟨by omega, Or.inl (by omega)⟩, rfl⟩) | exact Or.inr (Or.inl ⟨⟨by omega, Or.inr (by assumption)⟩, rfl⟩)
  show pm_WP 159 (38, [(3, .int v2_r9), (0, .ref 25), (1, .int r), (2, .int f)], [.int 0], hq g c1 c2 c3 c4 c5 c6 c7 c8 c9 c10 c11 c12 c13 c14 c15 c16 c17 c18 c19 c20 c21 c22 c23 c24 (hc25 mTy mTm mMn mFn mRn mTn mVn mLr mTr mFl v2_m9 v2_q9 v2_s9 v2_p9 mEn) (hc26 mPa) (hc27 mTo) (hc28 mOt) (hc29 mNa) (hc30 mRe) (hc31 mMa) (hc32 mMy) (hc33 mPm) (hc34 mFy) (hc35 mFa) (hc36 mFr) (hc37 mFo) (hc38 mRt) (hc39 mRm) (hc40 mTt) (hc41 mTi) (hc42 mPl) (hc43 mVr) (hc44 mVf) (hc45 mVc) (hc46 mAr) (hc47 mTc) (hc48 v2_f9) (hc49 mGo) dyn, 0, 0) _
  refine pm_brF (h := (41, [(3, .int v2_r9), (0, .ref 25), (1, .int r), (2, .int f)], [], hq g c1 c2 c3 c4 c5 c6 c7 c8 c9 c10 c11 c12 c13 c14 c15 c16 c17 c18 c19 c20 c21 c22 c23 c24 (hc25 mTy mTm mMn mFn mRn mTn mVn mLr mTr mFl v2_m9 v2_q9 v2_s9 v2_p9 mEn) (hc26 mPa) (hc27 mTo) (hc28 mOt) (hc29 mNa) (hc30 mRe) (hc31 mMa) (hc32 mMy) (hc33 mPm) (hc34 mFy) (hc35 mFa) (hc36 mFr) (hc37 mFo) (hc38 mRt) (hc39 mRm) (hc40 mTt) (hc41 mTi) (hc42 mPl) (hc43 mVr) (hc44 mVf) (hc45 mVc) (hc46 mAr) (hc47 mTc) (hc48 v2_f9) (hc49 mGo) dyn, 0, 0)) rfl ?_
  refine pm_go (g := (43, _, [.int (-15)], _, 0, 0)) rfl ?_
  refine pm_go (g := (47, _, [.int (-15)], _, 0, 0)) rfl ?_
  refine pm_ret rfl (k0 _ _ _ _ _ _ ⟨_, h1, ?_⟩ (by omega))
  exact Or.inr (Or.inr ⟨⟨by omega, by omega, by assumption⟩, rfl⟩)
/-- what holds of the references -/
def rfD (rn ty : Int32) (fo rt : Nat → Int32) : Prop := ∀ i : Nat, (i : Int) < rn.toInt → (0 ≤ (fo i).toInt ∧ (fo i).toInt ≤ 4) ∧ ((fo i).toInt ≠ 4 → 0 ≤ (rt i).toInt ∧ (rt i).toInt < ty.toInt) ∧ ((fo i).toInt = 4 → (0 ≤ (rt i).toInt ∧ (rt i).toInt < ty.toInt) ∨ (rt i).toInt = 10) ∧ ((fo i).toInt = 2 → (rt i).toInt ≠ 0)
def fcD (fn : Int32) (fy : Nat → Int32) : Prop := ∀ i : Nat, (i : Int) < fn.toInt → 0 ≤ (fy i).toInt ∧ (fy i).toInt ≤ 3
theorem rfD_at {rn ty : Int32} {fo rt : Nat → Int32} (h : rfD rn ty fo rt) {r : Int32} (q : 0 ≤ r.toInt ∧ r.toInt < rn.toInt) : (0 ≤ (fo r.toNatClampNeg).toInt ∧ (fo r.toNatClampNeg).toInt ≤ 4) ∧ ((fo r.toNatClampNeg).toInt ≠ 4 → 0 ≤ (rt r.toNatClampNeg).toInt ∧ (rt r.toNatClampNeg).toInt < ty.toInt) ∧ ((fo r.toNatClampNeg).toInt = 4 → (0 ≤ (rt r.toNatClampNeg).toInt ∧ (rt r.toNatClampNeg).toInt < ty.toInt) ∨ (rt r.toNatClampNeg).toInt = 10) ∧ ((fo r.toNatClampNeg).toInt = 2 → (rt r.toNatClampNeg).toInt ≠ 0) := h _ (by have := xN q.1; omega)
theorem fcD_at {fn : Int32} {fy : Nat → Int32} (h : fcD fn fy) {f : Int32} (q : 0 ≤ f.toInt ∧ f.toInt < fn.toInt) : 0 ≤ (fy f.toNatClampNeg).toInt ∧ (fy f.toNatClampNeg).toInt ≤ 3 := h _ (by have := xN q.1; omega)
theorem srM_n {pa ot na my pm ma fa fy : Nat → Int32} {mn t w f s p r : Int32} (hn : 0 ≤ mn.toInt ∧ mn.toInt ≤ 40) (k : srM pa ot na my pm ma fa fy mn t w f s p r) : r.toInt = -4 ∨ r.toInt = -5 ∨ 0 ≤ r.toInt := by
  have u : ∀ {sp : Nat → Prop}, uqM sp mn r → r.toInt = -4 ∨ r.toInt = -5 ∨ 0 ≤ r.toInt := by
    intro sp h
    rcases h with ⟨b, h1, h2, _⟩ | ⟨h1, _⟩
    · have := nI_toInt (n := b) (by omega)
      rw [h2]; omega
    · rw [h1]; decide
  rcases k with ⟨h1, h2, _⟩ | ⟨h1, _, h2⟩ | ⟨h1, _, _, h2⟩ | ⟨h1, _, _, _, h2⟩
  · rw [h2]; decide
  · exact u h2
  · exact u h2
  · exact u h2
theorem s2M_n {pa ot na my pm ma fa fy : Nat → Int32} {mn t w f p r : Int32} (hn : 0 ≤ mn.toInt ∧ mn.toInt ≤ 40) (k : s2M pa ot na my pm ma fa fy mn t w f p r) : r.toInt = -4 ∨ r.toInt = -5 ∨ 0 ≤ r.toInt := by
  rcases k with ⟨_, h⟩ | ⟨_, _, h⟩
  · exact srM_n hn h
  · rw [h]; decide
/-- what a search gives, as it is asked for -/
def lkS (pa ot na my pm ma fa fy : Nat → Int32) (mn fo t w f wh p r : Int32) : Prop := (fo.toInt = 3 ∧ srM pa ot na my pm ma fa fy mn t 6 f 0 p r) ∨ (fo.toInt ≠ 3 ∧ wh.toInt = 2 ∧ s2M pa ot na my pm ma fa fy mn t w f p r) ∨ (fo.toInt = 2 ∧ wh.toInt ≠ 2 ∧ srM pa ot na my pm ma fa fy mn (pa t.toNatClampNeg) w f 0 p r) ∨ (fo.toInt ≠ 3 ∧ fo.toInt ≠ 2 ∧ wh.toInt ≠ 2 ∧ srM pa ot na my pm ma fa fy mn t w f 0 p r)
set_option maxRecDepth 100000 in
set_option maxHeartbeats 4000000 in
theorem w_X12_meant {g c1 c2 c3 c4 c5 c6 c7 c8 c9 c10 c11 c12 c13 c14 c15 c16 c17 c18 c19 c20 c21 c22 c23 c24 : pm_C} {dyn : pm_H} {mTy : Int32} {mPa : Nat → Int32} {mTo : Nat → Int32} {mTm : Int32} {mMn : Int32} {mOt : Nat → Int32} {mNa : Nat → Int32} {mRe : Nat → Int32} {mMa : Nat → Int32} {mMy : Nat → Int32} {mPm : Nat → Int32} {mFn : Int32} {mFy : Nat → Int32} {mFa : Nat → Int32} {mFr : Nat → Int32} {mRn : Int32} {mFo : Nat → Int32} {mRt : Nat → Int32} {mRm : Nat → Int32} {mTn : Int32} {mTt : Nat → Int32} {mTi : Nat → Int32} {mPl : Nat → Int32} {mVn : Int32} {mVr : Nat → Int32} {mVf : Nat → Int32} {mVc : Nat → Int32} {mAr : Nat → Int32} {mLr : Int32} {mTc : Nat → Int32} {mTr : Int32} {mFl : Int32} {mFt : Nat → Int32} {mFm : Int32} {mFp : Int32} {mSc : Int32} {mMp : Int32} {mEn : Int32} {mGo : Nat → Int32} {Q : pm_Q} (r : Int32) (f : Int32) (p0 : 0 ≤ mRn.toInt ∧ mRn.toInt ≤ 30) (p1 : 0 ≤ mFn.toInt ∧ mFn.toInt ≤ 10) (p2 : 2 ≤ mTy.toInt ∧ mTy.toInt ≤ 10) (p3 : rfD mRn mTy mFo mRt) (p4 : fcD mFn mFy) (p5 : paD mPa) (p6 : myD mMy) (p7 : vrD mMa mMy) (p8 : 0 ≤ mMn.toInt ∧ mMn.toInt ≤ 40) (k0 : ¬ ((0 ≤ r.toInt ∧ r.toInt < mRn.toInt) ∧ (0 ≤ f.toInt ∧ f.toInt < mFn.toInt)) → Q (some (.int (-1))) (hq g c1 c2 c3 c4 c5 c6 c7 c8 c9 c10 c11 c12 c13 c14 c15 c16 c17 c18 c19 c20 c21 c22 c23 c24 (hc25 mTy mTm mMn mFn mRn mTn mVn mLr mTr mFl mFm mFp mSc mMp mEn) (hc26 mPa) (hc27 mTo) (hc28 mOt) (hc29 mNa) (hc30 mRe) (hc31 mMa) (hc32 mMy) (hc33 mPm) (hc34 mFy) (hc35 mFa) (hc36 mFr) (hc37 mFo) (hc38 mRt) (hc39 mRm) (hc40 mTt) (hc41 mTi) (hc42 mPl) (hc43 mVr) (hc44 mVf) (hc45 mVc) (hc46 mAr) (hc47 mTc) (hc48 mFt) (hc49 mGo) dyn)) (k1 : ∀ (s9 : Int32), ∀ (f9 : Nat → Int32), ∀ (m9 : Int32), ∀ (q9 : Int32), ∀ (p9 : Int32), ∀ (r9 : Int32), ((0 ≤ r.toInt ∧ r.toInt < mRn.toInt) ∧ (0 ≤ f.toInt ∧ f.toInt < mFn.toInt)) → (wmM mPa mOt mNa mRe mMy mPm mMa mFa mFy mFr mMn (mFo r.toNatClampNeg) (mRt r.toNatClampNeg) (mRm r.toNatClampNeg) f s9 p9 r9) → ((-15 ≤ r9.toInt ∧ (r9.toInt < mMn.toInt ∨ (r9.toInt = 99 ∧ 3 ≤ (mFo r.toNatClampNeg).toInt))) ∧ (0 ≤ p9.toInt ∧ p9.toInt ≤ 3)) → Q (some (.int r9)) (hq g c1 c2 c3 c4 c5 c6 c7 c8 c9 c10 c11 c12 c13 c14 c15 c16 c17 c18 c19 c20 c21 c22 c23 c24 (hc25 mTy mTm mMn mFn mRn mTn mVn mLr mTr mFl m9 q9 s9 p9 mEn) (hc26 mPa) (hc27 mTo) (hc28 mOt) (hc29 mNa) (hc30 mRe) (hc31 mMa) (hc32 mMy) (hc33 mPm) (hc34 mFy) (hc35 mFa) (hc36 mFr) (hc37 mFo) (hc38 mRt) (hc39 mRm) (hc40 mTt) (hc41 mTi) (hc42 mPl) (hc43 mVr) (hc44 mVf) (hc45 mVc) (hc46 mAr) (hc47 mTc) (hc48 f9) (hc49 mGo) dyn)) : pm_WP 164 (0, [(0, .ref 25), (1, .int r), (2, .int f)], [], hq g c1 c2 c3 c4 c5 c6 c7 c8 c9 c10 c11 c12 c13 c14 c15 c16 c17 c18 c19 c20 c21 c22 c23 c24 (hc25 mTy mTm mMn mFn mRn mTn mVn mLr mTr mFl mFm mFp mSc mMp mEn) (hc26 mPa) (hc27 mTo) (hc28 mOt) (hc29 mNa) (hc30 mRe) (hc31 mMa) (hc32 mMy) (hc33 mPm) (hc34 mFy) (hc35 mFa) (hc36 mFr) (hc37 mFo) (hc38 mRt) (hc39 mRm) (hc40 mTt) (hc41 mTi) (hc42 mPl) (hc43 mVr) (hc44 mVf) (hc45 mVc) (hc46 mAr) (hc47 mTc) (hc48 mFt) (hc49 mGo) dyn, 0, 0) Q := by
  have z0 : (0 : Int32).toInt = 0 := by decide
  have z1 : (1 : Int32).toInt = 1 := by decide
  have z_11 : (-11 : Int32).toInt = -11 := by decide
  have z_12 : (-12 : Int32).toInt = -12 := by decide
  have z_13 : (-13 : Int32).toInt = -13 := by decide
  have z_14 : (-14 : Int32).toInt = -14 := by decide
  have z_15 : (-15 : Int32).toInt = -15 := by decide
  have z99 : (99 : Int32).toInt = 99 := by decide
  have hrf := fun q : (0 ≤ r.toInt ∧ r.toInt < mRn.toInt) => rfD_at p3 q
  have hfc := fun q : (0 ≤ f.toInt ∧ f.toInt < mFn.toInt) => fcD_at p4 q
  refine pm_go (g := (1, [(0, .ref 25), (1, .int r), (2, .int f)], [.ref 25], hq g c1 c2 c3 c4 c5 c6 c7 c8 c9 c10 c11 c12 c13 c14 c15 c16 c17 c18 c19 c20 c21 c22 c23 c24 (hc25 mTy mTm mMn mFn mRn mTn mVn mLr mTr mFl mFm mFp mSc mMp mEn) (hc26 mPa) (hc27 mTo) (hc28 mOt) (hc29 mNa) (hc30 mRe) (hc31 mMa) (hc32 mMy) (hc33 mPm) (hc34 mFy) (hc35 mFa) (hc36 mFr) (hc37 mFo) (hc38 mRt) (hc39 mRm) (hc40 mTt) (hc41 mTi) (hc42 mPl) (hc43 mVr) (hc44 mVf) (hc45 mVc) (hc46 mAr) (hc47 mTc) (hc48 mFt) (hc49 mGo) dyn, 0, 0)) rfl ?_
  refine pm_go (g := (2, _, [.int r, .ref 25], _, 0, 0)) rfl ?_
  refine pm_callD (z := 160) (as := [.ref 25, .int r]) (rest := []) rfl ?_
  refine w_X12_isReference r (by omega) (fun h1 => ?_) (fun h2 => ?_)
  ·
    show pm_WP 164 (5, [(0, .ref 25), (1, .int r), (2, .int f)], [.int 1], _, 0, 0) _
    refine pm_brF (h := (8, [(0, .ref 25), (1, .int r), (2, .int f)], [], hq g c1 c2 c3 c4 c5 c6 c7 c8 c9 c10 c11 c12 c13 c14 c15 c16 c17 c18 c19 c20 c21 c22 c23 c24 (hc25 mTy mTm mMn mFn mRn mTn mVn mLr mTr mFl mFm mFp mSc mMp mEn) (hc26 mPa) (hc27 mTo) (hc28 mOt) (hc29 mNa) (hc30 mRe) (hc31 mMa) (hc32 mMy) (hc33 mPm) (hc34 mFy) (hc35 mFa) (hc36 mFr) (hc37 mFo) (hc38 mRt) (hc39 mRm) (hc40 mTt) (hc41 mTi) (hc42 mPl) (hc43 mVr) (hc44 mVf) (hc45 mVc) (hc46 mAr) (hc47 mTc) (hc48 mFt) (hc49 mGo) dyn, 0, 0)) rfl ?_
    refine pm_go (g := (9, _, [.ref 25], _, 0, 0)) rfl ?_
    refine pm_go (g := (10, _, [.int f, .ref 25], _, 0, 0)) rfl ?_
    refine pm_callD (z := 161) (as := [.ref 25, .int f]) (rest := []) rfl ?_
    refine w_X12_isFace f (by omega) (fun h4 => ?_) (fun h5 => ?_)
    ·
      show pm_WP 164 (13, [(0, .ref 25), (1, .int r), (2, .int f)], [.int 1], _, 0, 0) _
      refine pm_brF (h := (16, [(0, .ref 25), (1, .int r), (2, .int f)], [], hq g c1 c2 c3 c4 c5 c6 c7 c8 c9 c10 c11 c12 c13 c14 c15 c16 c17 c18 c19 c20 c21 c22 c23 c24 (hc25 mTy mTm mMn mFn mRn mTn mVn mLr mTr mFl mFm mFp mSc mMp mEn) (hc26 mPa) (hc27 mTo) (hc28 mOt) (hc29 mNa) (hc30 mRe) (hc31 mMa) (hc32 mMy) (hc33 mPm) (hc34 mFy) (hc35 mFa) (hc36 mFr) (hc37 mFo) (hc38 mRt) (hc39 mRm) (hc40 mTt) (hc41 mTi) (hc42 mPl) (hc43 mVr) (hc44 mVf) (hc45 mVc) (hc46 mAr) (hc47 mTc) (hc48 mFt) (hc49 mGo) dyn, 0, 0)) rfl ?_
      refine pm_go (g := (17, _, [.ref 25], _, 0, 0)) rfl ?_
      refine pm_go (g := (18, _, [.int r, .ref 25], _, 0, 0)) rfl ?_
      refine pm_go (g := (19, _, [.int f, .int r, .ref 25], _, 0, 0)) rfl ?_
      refine pm_callD (z := 159) (as := [.ref 25, .int r, .int f]) (rest := []) rfl ?_
      refine w_X12_wholeMeaning r f (by omega) (by omega) (by omega) (by omega) (by assumption) (by assumption) (by assumption) (by omega) (fun v8_s9 v8_f9 v8_m9 v8_q9 v8_p9 v8_r9 h7 h8 => ?_)
      show pm_WP 164 (22, [(0, .ref 25), (1, .int r), (2, .int f)], [.int v8_r9], _, 0, 0) _
      refine pm_go (g := (26, _, [.int v8_r9], _, 0, 0)) rfl ?_
      exact pm_ret rfl (k1 _ _ _ _ _ _ (by omega) (by assumption) (by assumption))
    show pm_WP 164 (13, [(0, .ref 25), (1, .int r), (2, .int f)], [.int 0], hq g c1 c2 c3 c4 c5 c6 c7 c8 c9 c10 c11 c12 c13 c14 c15 c16 c17 c18 c19 c20 c21 c22 c23 c24 (hc25 mTy mTm mMn mFn mRn mTn mVn mLr mTr mFl mFm mFp mSc mMp mEn) (hc26 mPa) (hc27 mTo) (hc28 mOt) (hc29 mNa) (hc30 mRe) (hc31 mMa) (hc32 mMy) (hc33 mPm) (hc34 mFy) (hc35 mFa) (hc36 mFr) (hc37 mFo) (hc38 mRt) (hc39 mRm) (hc40 mTt) (hc41 mTi) (hc42 mPl) (hc43 mVr) (hc44 mVf) (hc45 mVc) (hc46 mAr) (hc47 mTc) (hc48 mFt) (hc49 mGo) dyn, 0, 0) _
    refine pm_brT (g := (25, [(0, .ref 25), (1, .int r), (2, .int f)], [], hq g c1 c2 c3 c4 c5 c6 c7 c8 c9 c10 c11 c12 c13 c14 c15 c16 c17 c18 c19 c20 c21 c22 c23 c24 (hc25 mTy mTm mMn mFn mRn mTn mVn mLr mTr mFl mFm mFp mSc mMp mEn) (hc26 mPa) (hc27 mTo) (hc28 mOt) (hc29 mNa) (hc30 mRe) (hc31 mMa) (hc32 mMy) (hc33 mPm) (hc34 mFy) (hc35 mFa) (hc36 mFr) (hc37 mFo) (hc38 mRt) (hc39 mRm) (hc40 mTt) (hc41 mTi) (hc42 mPl) (hc43 mVr) (hc44 mVf) (hc45 mVc) (hc46 mAr) (hc47 mTc) (hc48 mFt) (hc49 mGo) dyn, 0, 0)) rfl ?_
    refine pm_go (g := (26, _, [.int (-1)], _, 0, 0)) rfl ?_
    exact pm_ret rfl (k0 (by omega))
  show pm_WP 164 (5, [(0, .ref 25), (1, .int r), (2, .int f)], [.int 0], hq g c1 c2 c3 c4 c5 c6 c7 c8 c9 c10 c11 c12 c13 c14 c15 c16 c17 c18 c19 c20 c21 c22 c23 c24 (hc25 mTy mTm mMn mFn mRn mTn mVn mLr mTr mFl mFm mFp mSc mMp mEn) (hc26 mPa) (hc27 mTo) (hc28 mOt) (hc29 mNa) (hc30 mRe) (hc31 mMa) (hc32 mMy) (hc33 mPm) (hc34 mFy) (hc35 mFa) (hc36 mFr) (hc37 mFo) (hc38 mRt) (hc39 mRm) (hc40 mTt) (hc41 mTi) (hc42 mPl) (hc43 mVr) (hc44 mVf) (hc45 mVc) (hc46 mAr) (hc47 mTc) (hc48 mFt) (hc49 mGo) dyn, 0, 0) _
  refine pm_brT (g := (25, [(0, .ref 25), (1, .int r), (2, .int f)], [], hq g c1 c2 c3 c4 c5 c6 c7 c8 c9 c10 c11 c12 c13 c14 c15 c16 c17 c18 c19 c20 c21 c22 c23 c24 (hc25 mTy mTm mMn mFn mRn mTn mVn mLr mTr mFl mFm mFp mSc mMp mEn) (hc26 mPa) (hc27 mTo) (hc28 mOt) (hc29 mNa) (hc30 mRe) (hc31 mMa) (hc32 mMy) (hc33 mPm) (hc34 mFy) (hc35 mFa) (hc36 mFr) (hc37 mFo) (hc38 mRt) (hc39 mRm) (hc40 mTt) (hc41 mTi) (hc42 mPl) (hc43 mVr) (hc44 mVf) (hc45 mVc) (hc46 mAr) (hc47 mTc) (hc48 mFt) (hc49 mGo) dyn, 0, 0)) rfl ?_
  refine pm_go (g := (26, _, [.int (-1)], _, 0, 0)) rfl ?_
  exact pm_ret rfl (k0 (by omega))
set_option maxRecDepth 100000 in
set_option maxHeartbeats 4000000 in
theorem w_X12_looked {g c1 c2 c3 c4 c5 c6 c7 c8 c9 c10 c11 c12 c13 c14 c15 c16 c17 c18 c19 c20 c21 c22 c23 c24 : pm_C} {dyn : pm_H} {mTy : Int32} {mPa : Nat → Int32} {mTo : Nat → Int32} {mTm : Int32} {mMn : Int32} {mOt : Nat → Int32} {mNa : Nat → Int32} {mRe : Nat → Int32} {mMa : Nat → Int32} {mMy : Nat → Int32} {mPm : Nat → Int32} {mFn : Int32} {mFy : Nat → Int32} {mFa : Nat → Int32} {mFr : Nat → Int32} {mRn : Int32} {mFo : Nat → Int32} {mRt : Nat → Int32} {mRm : Nat → Int32} {mTn : Int32} {mTt : Nat → Int32} {mTi : Nat → Int32} {mPl : Nat → Int32} {mVn : Int32} {mVr : Nat → Int32} {mVf : Nat → Int32} {mVc : Nat → Int32} {mAr : Nat → Int32} {mLr : Int32} {mTc : Nat → Int32} {mTr : Int32} {mFl : Int32} {mFt : Nat → Int32} {mFm : Int32} {mFp : Int32} {mSc : Int32} {mMp : Int32} {mEn : Int32} {mGo : Nat → Int32} {Q : pm_Q} (r : Int32) (f : Int32) (h : Int32) (p0 : 0 ≤ mRn.toInt ∧ mRn.toInt ≤ 30) (p1 : 0 ≤ mFn.toInt ∧ mFn.toInt ≤ 10) (p2 : 2 ≤ mTy.toInt ∧ mTy.toInt ≤ 10) (p3 : rfD mRn mTy mFo mRt) (p4 : fcD mFn mFy) (p5 : paD mPa) (p6 : myD mMy) (p7 : vrD mMa mMy) (p8 : 0 ≤ mMn.toInt ∧ mMn.toInt ≤ 40) (k0 : ¬ ((0 ≤ r.toInt ∧ r.toInt < mRn.toInt) ∧ (0 ≤ f.toInt ∧ f.toInt < mFn.toInt) ∧ (mFo r.toNatClampNeg).toInt ≠ 4 ∧ 1 ≤ h.toInt ∧ (h.toInt ≤ 1 ∨ (h.toInt ≤ 2 ∧ (mFo r.toNatClampNeg).toInt = 0))) → Q (some (.int (-1))) (hq g c1 c2 c3 c4 c5 c6 c7 c8 c9 c10 c11 c12 c13 c14 c15 c16 c17 c18 c19 c20 c21 c22 c23 c24 (hc25 mTy mTm mMn mFn mRn mTn mVn mLr mTr mFl mFm mFp mSc mMp mEn) (hc26 mPa) (hc27 mTo) (hc28 mOt) (hc29 mNa) (hc30 mRe) (hc31 mMa) (hc32 mMy) (hc33 mPm) (hc34 mFy) (hc35 mFa) (hc36 mFr) (hc37 mFo) (hc38 mRt) (hc39 mRm) (hc40 mTt) (hc41 mTi) (hc42 mPl) (hc43 mVr) (hc44 mVf) (hc45 mVc) (hc46 mAr) (hc47 mTc) (hc48 mFt) (hc49 mGo) dyn)) (k1 : (((0 ≤ r.toInt ∧ r.toInt < mRn.toInt) ∧ (0 ≤ f.toInt ∧ f.toInt < mFn.toInt) ∧ (mFo r.toNatClampNeg).toInt ≠ 4 ∧ 1 ≤ h.toInt ∧ (h.toInt ≤ 1 ∨ (h.toInt ≤ 2 ∧ (mFo r.toNatClampNeg).toInt = 0))) ∧ (mFo r.toNatClampNeg).toInt = 3) → ((opL mPa mOt mNa mMy mPm mMa mMn (mRt r.toNatClampNeg) 0 ∨ ¬ mkE mOt mNa mMn (mRt r.toNatClampNeg) 0)) → Q (some (.int (-3))) (hq g c1 c2 c3 c4 c5 c6 c7 c8 c9 c10 c11 c12 c13 c14 c15 c16 c17 c18 c19 c20 c21 c22 c23 c24 (hc25 mTy mTm mMn mFn mRn mTn mVn mLr mTr mFl mFm mFp mSc mMp mEn) (hc26 mPa) (hc27 mTo) (hc28 mOt) (hc29 mNa) (hc30 mRe) (hc31 mMa) (hc32 mMy) (hc33 mPm) (hc34 mFy) (hc35 mFa) (hc36 mFr) (hc37 mFo) (hc38 mRt) (hc39 mRm) (hc40 mTt) (hc41 mTi) (hc42 mPl) (hc43 mVr) (hc44 mVf) (hc45 mVc) (hc46 mAr) (hc47 mTc) (hc48 mFt) (hc49 mGo) dyn)) (k2 : ∀ (f9 : Nat → Int32), ∀ (m9 : Int32), ∀ (p9 : Int32), ∀ (r9 : Int32), (((0 ≤ r.toInt ∧ r.toInt < mRn.toInt) ∧ (0 ≤ f.toInt ∧ f.toInt < mFn.toInt) ∧ (mFo r.toNatClampNeg).toInt ≠ 4 ∧ 1 ≤ h.toInt ∧ (h.toInt ≤ 1 ∨ (h.toInt ≤ 2 ∧ (mFo r.toNatClampNeg).toInt = 0)))) → ((mFo r.toNatClampNeg).toInt ≠ 3 ∨ (¬ opL mPa mOt mNa mMy mPm mMa mMn (mRt r.toNatClampNeg) 0 ∧ mkE mOt mNa mMn (mRt r.toNatClampNeg) 0)) → (lkS mPa mOt mNa mMy mPm mMa mFa mFy mMn (mFo r.toNatClampNeg) (mRt r.toNatClampNeg) (mRm r.toNatClampNeg) f h p9 r9) → ((r9.toInt = -4 ∨ r9.toInt = -5 ∨ 0 ≤ r9.toInt)) → ((-5 ≤ r9.toInt ∧ r9.toInt < mMn.toInt) ∧ (0 ≤ p9.toInt ∧ p9.toInt ≤ 3)) → Q (some (.int r9)) (hq g c1 c2 c3 c4 c5 c6 c7 c8 c9 c10 c11 c12 c13 c14 c15 c16 c17 c18 c19 c20 c21 c22 c23 c24 (hc25 mTy mTm mMn mFn mRn mTn mVn mLr mTr mFl m9 p9 mSc mMp mEn) (hc26 mPa) (hc27 mTo) (hc28 mOt) (hc29 mNa) (hc30 mRe) (hc31 mMa) (hc32 mMy) (hc33 mPm) (hc34 mFy) (hc35 mFa) (hc36 mFr) (hc37 mFo) (hc38 mRt) (hc39 mRm) (hc40 mTt) (hc41 mTi) (hc42 mPl) (hc43 mVr) (hc44 mVf) (hc45 mVc) (hc46 mAr) (hc47 mTc) (hc48 f9) (hc49 mGo) dyn)) : pm_WP 165 (0, [(0, .ref 25), (1, .int r), (2, .int f), (3, .int h)], [], hq g c1 c2 c3 c4 c5 c6 c7 c8 c9 c10 c11 c12 c13 c14 c15 c16 c17 c18 c19 c20 c21 c22 c23 c24 (hc25 mTy mTm mMn mFn mRn mTn mVn mLr mTr mFl mFm mFp mSc mMp mEn) (hc26 mPa) (hc27 mTo) (hc28 mOt) (hc29 mNa) (hc30 mRe) (hc31 mMa) (hc32 mMy) (hc33 mPm) (hc34 mFy) (hc35 mFa) (hc36 mFr) (hc37 mFo) (hc38 mRt) (hc39 mRm) (hc40 mTt) (hc41 mTi) (hc42 mPl) (hc43 mVr) (hc44 mVf) (hc45 mVc) (hc46 mAr) (hc47 mTc) (hc48 mFt) (hc49 mGo) dyn, 0, 0) Q := by
  have z0 : (0 : Int32).toInt = 0 := by decide
  have z1 : (1 : Int32).toInt = 1 := by decide
  have z_11 : (-11 : Int32).toInt = -11 := by decide
  have z_12 : (-12 : Int32).toInt = -12 := by decide
  have z_13 : (-13 : Int32).toInt = -13 := by decide
  have z_14 : (-14 : Int32).toInt = -14 := by decide
  have z_15 : (-15 : Int32).toInt = -15 := by decide
  have z99 : (99 : Int32).toInt = 99 := by decide
  have hrf := fun q : (0 ≤ r.toInt ∧ r.toInt < mRn.toInt) => rfD_at p3 q
  have hfc := fun q : (0 ≤ f.toInt ∧ f.toInt < mFn.toInt) => fcD_at p4 q
  refine pm_go (g := (1, [(0, .ref 25), (1, .int r), (2, .int f), (3, .int h)], [.ref 25], hq g c1 c2 c3 c4 c5 c6 c7 c8 c9 c10 c11 c12 c13 c14 c15 c16 c17 c18 c19 c20 c21 c22 c23 c24 (hc25 mTy mTm mMn mFn mRn mTn mVn mLr mTr mFl mFm mFp mSc mMp mEn) (hc26 mPa) (hc27 mTo) (hc28 mOt) (hc29 mNa) (hc30 mRe) (hc31 mMa) (hc32 mMy) (hc33 mPm) (hc34 mFy) (hc35 mFa) (hc36 mFr) (hc37 mFo) (hc38 mRt) (hc39 mRm) (hc40 mTt) (hc41 mTi) (hc42 mPl) (hc43 mVr) (hc44 mVf) (hc45 mVc) (hc46 mAr) (hc47 mTc) (hc48 mFt) (hc49 mGo) dyn, 0, 0)) rfl ?_
  refine pm_go (g := (2, _, [.int r, .ref 25], _, 0, 0)) rfl ?_
  refine pm_callD (z := 160) (as := [.ref 25, .int r]) (rest := []) rfl ?_
  refine w_X12_isReference r (by omega) (fun h1 => ?_) (fun h2 => ?_)
  ·
    show pm_WP 165 (5, [(0, .ref 25), (1, .int r), (2, .int f), (3, .int h)], [.int 1], _, 0, 0) _
    refine pm_brF (h := (8, [(0, .ref 25), (1, .int r), (2, .int f), (3, .int h)], [], hq g c1 c2 c3 c4 c5 c6 c7 c8 c9 c10 c11 c12 c13 c14 c15 c16 c17 c18 c19 c20 c21 c22 c23 c24 (hc25 mTy mTm mMn mFn mRn mTn mVn mLr mTr mFl mFm mFp mSc mMp mEn) (hc26 mPa) (hc27 mTo) (hc28 mOt) (hc29 mNa) (hc30 mRe) (hc31 mMa) (hc32 mMy) (hc33 mPm) (hc34 mFy) (hc35 mFa) (hc36 mFr) (hc37 mFo) (hc38 mRt) (hc39 mRm) (hc40 mTt) (hc41 mTi) (hc42 mPl) (hc43 mVr) (hc44 mVf) (hc45 mVc) (hc46 mAr) (hc47 mTc) (hc48 mFt) (hc49 mGo) dyn, 0, 0)) rfl ?_
    refine pm_go (g := (9, _, [.ref 25], _, 0, 0)) rfl ?_
    refine pm_go (g := (10, _, [.int f, .ref 25], _, 0, 0)) rfl ?_
    refine pm_callD (z := 161) (as := [.ref 25, .int f]) (rest := []) rfl ?_
    refine w_X12_isFace f (by omega) (fun h4 => ?_) (fun h5 => ?_)
    ·
      show pm_WP 165 (13, [(0, .ref 25), (1, .int r), (2, .int f), (3, .int h)], [.int 1], _, 0, 0) _
      refine pm_brF (h := (16, [(0, .ref 25), (1, .int r), (2, .int f), (3, .int h)], [], hq g c1 c2 c3 c4 c5 c6 c7 c8 c9 c10 c11 c12 c13 c14 c15 c16 c17 c18 c19 c20 c21 c22 c23 c24 (hc25 mTy mTm mMn mFn mRn mTn mVn mLr mTr mFl mFm mFp mSc mMp mEn) (hc26 mPa) (hc27 mTo) (hc28 mOt) (hc29 mNa) (hc30 mRe) (hc31 mMa) (hc32 mMy) (hc33 mPm) (hc34 mFy) (hc35 mFa) (hc36 mFr) (hc37 mFo) (hc38 mRt) (hc39 mRm) (hc40 mTt) (hc41 mTi) (hc42 mPl) (hc43 mVr) (hc44 mVf) (hc45 mVc) (hc46 mAr) (hc47 mTc) (hc48 mFt) (hc49 mGo) dyn, 0, 0)) rfl ?_
      refine pm_go (g := (17, _, [.ref 25], _, 0, 0)) rfl ?_
      refine pm_go (g := (20, _, [.ref 37], _, 0, 0)) rfl ?_
      refine pm_go (g := (21, _, [.int r, .ref 37], _, 0, 0)) rfl ?_
      refine pm_sd (g := (22, _, [.int (mFo (r).toNatClampNeg)], _, 0, 0)) rfl (pm_inI (by omega) (by omega)) ?_
      refine pm_go (g := (23, _, [.int 4, .int (mFo (r).toNatClampNeg)], _, 0, 0)) rfl ?_
      refine pm_if2 (g := (48, [(0, .ref 25), (1, .int r), (2, .int f), (3, .int h)], [], hq g c1 c2 c3 c4 c5 c6 c7 c8 c9 c10 c11 c12 c13 c14 c15 c16 c17 c18 c19 c20 c21 c22 c23 c24 (hc25 mTy mTm mMn mFn mRn mTn mVn mLr mTr mFl mFm mFp mSc mMp mEn) (hc26 mPa) (hc27 mTo) (hc28 mOt) (hc29 mNa) (hc30 mRe) (hc31 mMa) (hc32 mMy) (hc33 mPm) (hc34 mFy) (hc35 mFa) (hc36 mFr) (hc37 mFo) (hc38 mRt) (hc39 mRm) (hc40 mTt) (hc41 mTi) (hc42 mPl) (hc43 mVr) (hc44 mVf) (hc45 mVc) (hc46 mAr) (hc47 mTc) (hc48 mFt) (hc49 mGo) dyn, 0, 0)) (h := (26, [(0, .ref 25), (1, .int r), (2, .int f), (3, .int h)], [], hq g c1 c2 c3 c4 c5 c6 c7 c8 c9 c10 c11 c12 c13 c14 c15 c16 c17 c18 c19 c20 c21 c22 c23 c24 (hc25 mTy mTm mMn mFn mRn mTn mVn mLr mTr mFl mFm mFp mSc mMp mEn) (hc26 mPa) (hc27 mTo) (hc28 mOt) (hc29 mNa) (hc30 mRe) (hc31 mMa) (hc32 mMy) (hc33 mPm) (hc34 mFy) (hc35 mFa) (hc36 mFr) (hc37 mFo) (hc38 mRt) (hc39 mRm) (hc40 mTt) (hc41 mTi) (hc42 mPl) (hc43 mVr) (hc44 mVf) (hc45 mVc) (hc46 mAr) (hc47 mTc) (hc48 mFt) (hc49 mGo) dyn, 0, 0)) rfl (fun h7 => ?_) (fun h7 => ?_)
      ·
        have h7 := qT_eq (cx := (mFo (r).toNatClampNeg).toInt) (cy := 4) rfl (by decide) h7
        refine pm_go (g := (49, _, [.int (-1)], _, 0, 0)) rfl ?_
        exact pm_ret rfl (k0 (by omega))
      have h7 := qF_eq (cx := (mFo (r).toNatClampNeg).toInt) (cy := 4) rfl (by decide) h7
      refine pm_go (g := (27, _, [.int h], _, 0, 0)) rfl ?_
      refine pm_go (g := (28, _, [.int 1, .int h], _, 0, 0)) rfl ?_
      refine pm_go (g := (29, _, [.ref 25, .int 1, .int h], _, 0, 0)) rfl ?_
      refine pm_go (g := (32, _, [.ref 37, .int 1, .int h], _, 0, 0)) rfl ?_
      refine pm_go (g := (33, _, [.int r, .ref 37, .int 1, .int h], _, 0, 0)) rfl ?_
      refine pm_sd (g := (34, _, [.int (mFo (r).toNatClampNeg), .int 1, .int h], _, 0, 0)) rfl (pm_inI (by omega) (by omega)) ?_
      refine pm_if2 (g := (41, [(0, .ref 25), (1, .int r), (2, .int f), (3, .int h)], [.int 1, .int h], hq g c1 c2 c3 c4 c5 c6 c7 c8 c9 c10 c11 c12 c13 c14 c15 c16 c17 c18 c19 c20 c21 c22 c23 c24 (hc25 mTy mTm mMn mFn mRn mTn mVn mLr mTr mFl mFm mFp mSc mMp mEn) (hc26 mPa) (hc27 mTo) (hc28 mOt) (hc29 mNa) (hc30 mRe) (hc31 mMa) (hc32 mMy) (hc33 mPm) (hc34 mFy) (hc35 mFa) (hc36 mFr) (hc37 mFo) (hc38 mRt) (hc39 mRm) (hc40 mTt) (hc41 mTi) (hc42 mPl) (hc43 mVr) (hc44 mVf) (hc45 mVc) (hc46 mAr) (hc47 mTc) (hc48 mFt) (hc49 mGo) dyn, 0, 0)) (h := (37, [(0, .ref 25), (1, .int r), (2, .int f), (3, .int h)], [.int 1, .int h], hq g c1 c2 c3 c4 c5 c6 c7 c8 c9 c10 c11 c12 c13 c14 c15 c16 c17 c18 c19 c20 c21 c22 c23 c24 (hc25 mTy mTm mMn mFn mRn mTn mVn mLr mTr mFl mFm mFp mSc mMp mEn) (hc26 mPa) (hc27 mTo) (hc28 mOt) (hc29 mNa) (hc30 mRe) (hc31 mMa) (hc32 mMy) (hc33 mPm) (hc34 mFy) (hc35 mFa) (hc36 mFr) (hc37 mFo) (hc38 mRt) (hc39 mRm) (hc40 mTt) (hc41 mTi) (hc42 mPl) (hc43 mVr) (hc44 mVf) (hc45 mVc) (hc46 mAr) (hc47 mTc) (hc48 mFt) (hc49 mGo) dyn, 0, 0)) rfl (fun h8 => ?_) (fun h8 => ?_)
      ·
        have h8 := qT_ne (cx := (mFo (r).toNatClampNeg).toInt) (cy := 0) rfl (by decide) h8
        refine pm_go (g := (42, _, [.int 1, .int 1, .int h], _, 0, 0)) rfl ?_
        refine pm_callD (z := 128) (as := [.int h, .int 1, .int 1]) (rest := []) rfl ?_
        have h9 : (1 : Int32).toInt = 1 := by decide
        have h10 : (1 : Int32).toInt = 1 := by decide
        refine w_X12_isIn h 1 1 (fun h11 => ?_) (fun h12 => ?_)
        ·
          show pm_WP 165 (45, [(0, .ref 25), (1, .int r), (2, .int f), (3, .int h)], [.int 1], _, 0, 0) _
          refine pm_brT (g := (50, [(0, .ref 25), (1, .int r), (2, .int f), (3, .int h)], [], hq g c1 c2 c3 c4 c5 c6 c7 c8 c9 c10 c11 c12 c13 c14 c15 c16 c17 c18 c19 c20 c21 c22 c23 c24 (hc25 mTy mTm mMn mFn mRn mTn mVn mLr mTr mFl mFm mFp mSc mMp mEn) (hc26 mPa) (hc27 mTo) (hc28 mOt) (hc29 mNa) (hc30 mRe) (hc31 mMa) (hc32 mMy) (hc33 mPm) (hc34 mFy) (hc35 mFa) (hc36 mFr) (hc37 mFo) (hc38 mRt) (hc39 mRm) (hc40 mTt) (hc41 mTi) (hc42 mPl) (hc43 mVr) (hc44 mVf) (hc45 mVc) (hc46 mAr) (hc47 mTc) (hc48 mFt) (hc49 mGo) dyn, 0, 0)) rfl ?_
          refine pm_go (g := (51, _, [.ref 25], _, 0, 0)) rfl ?_
          refine pm_go (g := (54, _, [.ref 38], _, 0, 0)) rfl ?_
          refine pm_go (g := (55, _, [.int r, .ref 38], _, 0, 0)) rfl ?_
          refine pm_sd (g := (56, _, [.int (mRt (r).toNatClampNeg)], _, 0, 0)) rfl (pm_inI (by omega) (by omega)) ?_
          refine pm_go (g := (58, [(4, .int (mRt (r).toNatClampNeg)), (0, .ref 25), (1, .int r), (2, .int f), (3, .int h)], [], _, 0, 0)) rfl ?_
          refine pm_go (g := (59, _, [.ref 25], _, 0, 0)) rfl ?_
          refine pm_go (g := (62, _, [.ref 37], _, 0, 0)) rfl ?_
          refine pm_go (g := (63, _, [.int r, .ref 37], _, 0, 0)) rfl ?_
          refine pm_sd (g := (64, _, [.int (mFo (r).toNatClampNeg)], _, 0, 0)) rfl (pm_inI (by omega) (by omega)) ?_
          refine pm_go (g := (65, _, [.int 3, .int (mFo (r).toNatClampNeg)], _, 0, 0)) rfl ?_
          refine pm_if2 (g := (102, [(4, .int (mRt (r).toNatClampNeg)), (0, .ref 25), (1, .int r), (2, .int f), (3, .int h)], [], hq g c1 c2 c3 c4 c5 c6 c7 c8 c9 c10 c11 c12 c13 c14 c15 c16 c17 c18 c19 c20 c21 c22 c23 c24 (hc25 mTy mTm mMn mFn mRn mTn mVn mLr mTr mFl mFm mFp mSc mMp mEn) (hc26 mPa) (hc27 mTo) (hc28 mOt) (hc29 mNa) (hc30 mRe) (hc31 mMa) (hc32 mMy) (hc33 mPm) (hc34 mFy) (hc35 mFa) (hc36 mFr) (hc37 mFo) (hc38 mRt) (hc39 mRm) (hc40 mTt) (hc41 mTi) (hc42 mPl) (hc43 mVr) (hc44 mVf) (hc45 mVc) (hc46 mAr) (hc47 mTc) (hc48 mFt) (hc49 mGo) dyn, 0, 0)) (h := (68, [(4, .int (mRt (r).toNatClampNeg)), (0, .ref 25), (1, .int r), (2, .int f), (3, .int h)], [], hq g c1 c2 c3 c4 c5 c6 c7 c8 c9 c10 c11 c12 c13 c14 c15 c16 c17 c18 c19 c20 c21 c22 c23 c24 (hc25 mTy mTm mMn mFn mRn mTn mVn mLr mTr mFl mFm mFp mSc mMp mEn) (hc26 mPa) (hc27 mTo) (hc28 mOt) (hc29 mNa) (hc30 mRe) (hc31 mMa) (hc32 mMy) (hc33 mPm) (hc34 mFy) (hc35 mFa) (hc36 mFr) (hc37 mFo) (hc38 mRt) (hc39 mRm) (hc40 mTt) (hc41 mTi) (hc42 mPl) (hc43 mVr) (hc44 mVf) (hc45 mVc) (hc46 mAr) (hc47 mTc) (hc48 mFt) (hc49 mGo) dyn, 0, 0)) rfl (fun h14 => ?_) (fun h14 => ?_)
          ·
            have h14 := qT_ne (cx := (mFo (r).toNatClampNeg).toInt) (cy := 3) rfl (by decide) h14
            refine pm_go (g := (103, _, [.int h], _, 0, 0)) rfl ?_
            refine pm_go (g := (104, _, [.int 2, .int h], _, 0, 0)) rfl ?_
            refine pm_if2 (g := (123, [(4, .int (mRt (r).toNatClampNeg)), (0, .ref 25), (1, .int r), (2, .int f), (3, .int h)], [], hq g c1 c2 c3 c4 c5 c6 c7 c8 c9 c10 c11 c12 c13 c14 c15 c16 c17 c18 c19 c20 c21 c22 c23 c24 (hc25 mTy mTm mMn mFn mRn mTn mVn mLr mTr mFl mFm mFp mSc mMp mEn) (hc26 mPa) (hc27 mTo) (hc28 mOt) (hc29 mNa) (hc30 mRe) (hc31 mMa) (hc32 mMy) (hc33 mPm) (hc34 mFy) (hc35 mFa) (hc36 mFr) (hc37 mFo) (hc38 mRt) (hc39 mRm) (hc40 mTt) (hc41 mTi) (hc42 mPl) (hc43 mVr) (hc44 mVf) (hc45 mVc) (hc46 mAr) (hc47 mTc) (hc48 mFt) (hc49 mGo) dyn, 0, 0)) (h := (107, [(4, .int (mRt (r).toNatClampNeg)), (0, .ref 25), (1, .int r), (2, .int f), (3, .int h)], [], hq g c1 c2 c3 c4 c5 c6 c7 c8 c9 c10 c11 c12 c13 c14 c15 c16 c17 c18 c19 c20 c21 c22 c23 c24 (hc25 mTy mTm mMn mFn mRn mTn mVn mLr mTr mFl mFm mFp mSc mMp mEn) (hc26 mPa) (hc27 mTo) (hc28 mOt) (hc29 mNa) (hc30 mRe) (hc31 mMa) (hc32 mMy) (hc33 mPm) (hc34 mFy) (hc35 mFa) (hc36 mFr) (hc37 mFo) (hc38 mRt) (hc39 mRm) (hc40 mTt) (hc41 mTi) (hc42 mPl) (hc43 mVr) (hc44 mVf) (hc45 mVc) (hc46 mAr) (hc47 mTc) (hc48 mFt) (hc49 mGo) dyn, 0, 0)) rfl (fun h15 => ?_) (fun h15 => ?_)
            ·
              have h15 := qT_ne (cx := (h).toInt) (cy := 2) rfl (by decide) h15
              refine pm_go (g := (124, _, [.ref 25], _, 0, 0)) rfl ?_
              refine pm_go (g := (125, _, [.ref 25, .ref 25], _, 0, 0)) rfl ?_
              refine pm_go (g := (128, _, [.ref 37, .ref 25], _, 0, 0)) rfl ?_
              refine pm_go (g := (129, _, [.int r, .ref 37, .ref 25], _, 0, 0)) rfl ?_
              refine pm_sd (g := (130, _, [.int (mFo (r).toNatClampNeg), .ref 25], _, 0, 0)) rfl (pm_inI (by omega) (by omega)) ?_
              refine pm_go (g := (131, _, [.int 2, .int (mFo (r).toNatClampNeg), .ref 25], _, 0, 0)) rfl ?_
              refine pm_if2 (g := (144, [(4, .int (mRt (r).toNatClampNeg)), (0, .ref 25), (1, .int r), (2, .int f), (3, .int h)], [.ref 25], hq g c1 c2 c3 c4 c5 c6 c7 c8 c9 c10 c11 c12 c13 c14 c15 c16 c17 c18 c19 c20 c21 c22 c23 c24 (hc25 mTy mTm mMn mFn mRn mTn mVn mLr mTr mFl mFm mFp mSc mMp mEn) (hc26 mPa) (hc27 mTo) (hc28 mOt) (hc29 mNa) (hc30 mRe) (hc31 mMa) (hc32 mMy) (hc33 mPm) (hc34 mFy) (hc35 mFa) (hc36 mFr) (hc37 mFo) (hc38 mRt) (hc39 mRm) (hc40 mTt) (hc41 mTi) (hc42 mPl) (hc43 mVr) (hc44 mVf) (hc45 mVc) (hc46 mAr) (hc47 mTc) (hc48 mFt) (hc49 mGo) dyn, 0, 0)) (h := (134, [(4, .int (mRt (r).toNatClampNeg)), (0, .ref 25), (1, .int r), (2, .int f), (3, .int h)], [.ref 25], hq g c1 c2 c3 c4 c5 c6 c7 c8 c9 c10 c11 c12 c13 c14 c15 c16 c17 c18 c19 c20 c21 c22 c23 c24 (hc25 mTy mTm mMn mFn mRn mTn mVn mLr mTr mFl mFm mFp mSc mMp mEn) (hc26 mPa) (hc27 mTo) (hc28 mOt) (hc29 mNa) (hc30 mRe) (hc31 mMa) (hc32 mMy) (hc33 mPm) (hc34 mFy) (hc35 mFa) (hc36 mFr) (hc37 mFo) (hc38 mRt) (hc39 mRm) (hc40 mTt) (hc41 mTi) (hc42 mPl) (hc43 mVr) (hc44 mVf) (hc45 mVc) (hc46 mAr) (hc47 mTc) (hc48 mFt) (hc49 mGo) dyn, 0, 0)) rfl (fun h16 => ?_) (fun h16 => ?_)
              ·
                have h16 := qT_ne (cx := (mFo (r).toNatClampNeg).toInt) (cy := 2) rfl (by decide) h16
                refine pm_go (g := (146, _, [.int (mRt (r).toNatClampNeg), .ref 25], _, 0, 0)) rfl ?_
                refine pm_go (g := (147, _, [.ref 25, .int (mRt (r).toNatClampNeg), .ref 25], _, 0, 0)) rfl ?_
                refine pm_go (g := (150, _, [.ref 39, .int (mRt (r).toNatClampNeg), .ref 25], _, 0, 0)) rfl ?_
                refine pm_go (g := (151, _, [.int r, .ref 39, .int (mRt (r).toNatClampNeg), .ref 25], _, 0, 0)) rfl ?_
                refine pm_sd (g := (152, _, [.int (mRm (r).toNatClampNeg), .int (mRt (r).toNatClampNeg), .ref 25], _, 0, 0)) rfl (pm_inI (by omega) (by omega)) ?_
                refine pm_go (g := (153, _, [.int f, .int (mRm (r).toNatClampNeg), .int (mRt (r).toNatClampNeg), .ref 25], _, 0, 0)) rfl ?_
                refine pm_go (g := (154, _, [.int 0, .int f, .int (mRm (r).toNatClampNeg), .int (mRt (r).toNatClampNeg), .ref 25], _, 0, 0)) rfl ?_
                refine pm_callD (z := 150) (as := [.ref 25, .int (mRt (r).toNatClampNeg), .int (mRm (r).toNatClampNeg), .int f, .int 0]) (rest := []) rfl ?_
                have h17 : (0 : Int32).toInt = 0 := by decide
                refine w_X12_searched (mRt (r).toNatClampNeg) (mRm (r).toNatClampNeg) f 0 (by omega) (by omega) (by omega) (by assumption) (by assumption) (by assumption) (by omega) (fun v21_f9 v21_m9 v21_p9 v21_r9 h18 h19 h20 h21 => ?_)
                show pm_WP 165 (157, [(4, .int (mRt (r).toNatClampNeg)), (0, .ref 25), (1, .int r), (2, .int f), (3, .int h)], [.int v21_r9], _, 0, 0) _
                refine pm_ret rfl (k2 _ _ _ _ (by omega) ?_ ?_ (srM_n p8 h18) (by omega))
                · first | exact Or.inl (by omega) | exact Or.inr ⟨by assumption, Classical.byContradiction (fun q => absurd (h0.mpr q) (by omega))⟩
                · first | exact Or.inl ⟨by omega, h18⟩ | exact Or.inr (Or.inr (Or.inl ⟨by omega, by omega, h18⟩)) | exact Or.inr (Or.inr (Or.inr ⟨by omega, by omega, by omega, h18⟩))
              have h16 := qF_ne (cx := (mFo (r).toNatClampNeg).toInt) (cy := 2) rfl (by decide) h16
              refine pm_go (g := (135, _, [.ref 25, .ref 25], hq g c1 c2 c3 c4 c5 c6 c7 c8 c9 c10 c11 c12 c13 c14 c15 c16 c17 c18 c19 c20 c21 c22 c23 c24 (hc25 mTy mTm mMn mFn mRn mTn mVn mLr mTr mFl mFm mFp mSc mMp mEn) (hc26 mPa) (hc27 mTo) (hc28 mOt) (hc29 mNa) (hc30 mRe) (hc31 mMa) (hc32 mMy) (hc33 mPm) (hc34 mFy) (hc35 mFa) (hc36 mFr) (hc37 mFo) (hc38 mRt) (hc39 mRm) (hc40 mTt) (hc41 mTi) (hc42 mPl) (hc43 mVr) (hc44 mVf) (hc45 mVc) (hc46 mAr) (hc47 mTc) (hc48 mFt) (hc49 mGo) dyn, 0, 0)) rfl ?_
              refine pm_go (g := (138, _, [.ref 26, .ref 25], _, 0, 0)) rfl ?_
              refine pm_go (g := (140, _, [.int (mRt (r).toNatClampNeg), .ref 26, .ref 25], _, 0, 0)) rfl ?_
              refine pm_sd (g := (141, _, [.int (mPa (mRt (r).toNatClampNeg).toNatClampNeg), .ref 25], _, 0, 0)) rfl (pm_inI (by omega) (by omega)) ?_
              refine pm_go (g := (146, _, [.int (mPa (mRt (r).toNatClampNeg).toNatClampNeg), .ref 25], _, 0, 0)) rfl ?_
              refine pm_go (g := (147, _, [.ref 25, .int (mPa (mRt (r).toNatClampNeg).toNatClampNeg), .ref 25], _, 0, 0)) rfl ?_
              refine pm_go (g := (150, _, [.ref 39, .int (mPa (mRt (r).toNatClampNeg).toNatClampNeg), .ref 25], _, 0, 0)) rfl ?_
              refine pm_go (g := (151, _, [.int r, .ref 39, .int (mPa (mRt (r).toNatClampNeg).toNatClampNeg), .ref 25], _, 0, 0)) rfl ?_
              refine pm_sd (g := (152, _, [.int (mRm (r).toNatClampNeg), .int (mPa (mRt (r).toNatClampNeg).toNatClampNeg), .ref 25], _, 0, 0)) rfl (pm_inI (by omega) (by omega)) ?_
              refine pm_go (g := (153, _, [.int f, .int (mRm (r).toNatClampNeg), .int (mPa (mRt (r).toNatClampNeg).toNatClampNeg), .ref 25], _, 0, 0)) rfl ?_
              refine pm_go (g := (154, _, [.int 0, .int f, .int (mRm (r).toNatClampNeg), .int (mPa (mRt (r).toNatClampNeg).toNatClampNeg), .ref 25], _, 0, 0)) rfl ?_
              refine pm_callD (z := 150) (as := [.ref 25, .int (mPa (mRt (r).toNatClampNeg).toNatClampNeg), .int (mRm (r).toNatClampNeg), .int f, .int 0]) (rest := []) rfl ?_
              have h23 : (0 : Int32).toInt = 0 := by decide
              refine w_X12_searched (mPa (mRt (r).toNatClampNeg).toNatClampNeg) (mRm (r).toNatClampNeg) f 0 (by omega) (by omega) (by omega) (by assumption) (by assumption) (by assumption) (by omega) (fun v27_f9 v27_m9 v27_p9 v27_r9 h24 h25 h26 h27 => ?_)
              show pm_WP 165 (157, [(4, .int (mRt (r).toNatClampNeg)), (0, .ref 25), (1, .int r), (2, .int f), (3, .int h)], [.int v27_r9], _, 0, 0) _
              refine pm_ret rfl (k2 _ _ _ _ (by omega) ?_ ?_ (srM_n p8 h24) (by omega))
              · first | exact Or.inl (by omega) | exact Or.inr ⟨by assumption, Classical.byContradiction (fun q => absurd (h0.mpr q) (by omega))⟩
              · first | exact Or.inl ⟨by omega, h24⟩ | exact Or.inr (Or.inr (Or.inl ⟨by omega, by omega, h24⟩)) | exact Or.inr (Or.inr (Or.inr ⟨by omega, by omega, by omega, h24⟩))
            have h15 := qF_ne (cx := (h).toInt) (cy := 2) rfl (by decide) h15
            refine pm_go (g := (108, _, [.ref 25], hq g c1 c2 c3 c4 c5 c6 c7 c8 c9 c10 c11 c12 c13 c14 c15 c16 c17 c18 c19 c20 c21 c22 c23 c24 (hc25 mTy mTm mMn mFn mRn mTn mVn mLr mTr mFl mFm mFp mSc mMp mEn) (hc26 mPa) (hc27 mTo) (hc28 mOt) (hc29 mNa) (hc30 mRe) (hc31 mMa) (hc32 mMy) (hc33 mPm) (hc34 mFy) (hc35 mFa) (hc36 mFr) (hc37 mFo) (hc38 mRt) (hc39 mRm) (hc40 mTt) (hc41 mTi) (hc42 mPl) (hc43 mVr) (hc44 mVf) (hc45 mVc) (hc46 mAr) (hc47 mTc) (hc48 mFt) (hc49 mGo) dyn, 0, 0)) rfl ?_
            refine pm_go (g := (110, _, [.int (mRt (r).toNatClampNeg), .ref 25], _, 0, 0)) rfl ?_
            refine pm_go (g := (111, _, [.ref 25, .int (mRt (r).toNatClampNeg), .ref 25], _, 0, 0)) rfl ?_
            refine pm_go (g := (114, _, [.ref 39, .int (mRt (r).toNatClampNeg), .ref 25], _, 0, 0)) rfl ?_
            refine pm_go (g := (115, _, [.int r, .ref 39, .int (mRt (r).toNatClampNeg), .ref 25], _, 0, 0)) rfl ?_
            refine pm_sd (g := (116, _, [.int (mRm (r).toNatClampNeg), .int (mRt (r).toNatClampNeg), .ref 25], _, 0, 0)) rfl (pm_inI (by omega) (by omega)) ?_
            refine pm_go (g := (117, _, [.int f, .int (mRm (r).toNatClampNeg), .int (mRt (r).toNatClampNeg), .ref 25], _, 0, 0)) rfl ?_
            refine pm_callD (z := 152) (as := [.ref 25, .int (mRt (r).toNatClampNeg), .int (mRm (r).toNatClampNeg), .int f]) (rest := []) rfl ?_
            refine w_X12_secondSearched (mRt (r).toNatClampNeg) (mRm (r).toNatClampNeg) f (by omega) (by omega) (by assumption) (by assumption) (by assumption) (by omega) (fun v32_f9 v32_m9 v32_p9 v32_r9 h29 h30 h31 h32 => ?_)
            show pm_WP 165 (120, [(4, .int (mRt (r).toNatClampNeg)), (0, .ref 25), (1, .int r), (2, .int f), (3, .int h)], [.int v32_r9], _, 0, 0) _
            refine pm_go (g := (157, _, [.int v32_r9], _, 0, 0)) rfl ?_
            exact pm_ret rfl (k2 _ _ _ _ (by omega) (Or.inl (by omega)) (Or.inr (Or.inl ⟨by omega, by omega, h29⟩)) (s2M_n p8 h29) (by omega))
          have h14 := qF_ne (cx := (mFo (r).toNatClampNeg).toInt) (cy := 3) rfl (by decide) h14
          refine pm_go (g := (69, _, [.ref 25], hq g c1 c2 c3 c4 c5 c6 c7 c8 c9 c10 c11 c12 c13 c14 c15 c16 c17 c18 c19 c20 c21 c22 c23 c24 (hc25 mTy mTm mMn mFn mRn mTn mVn mLr mTr mFl mFm mFp mSc mMp mEn) (hc26 mPa) (hc27 mTo) (hc28 mOt) (hc29 mNa) (hc30 mRe) (hc31 mMa) (hc32 mMy) (hc33 mPm) (hc34 mFy) (hc35 mFa) (hc36 mFr) (hc37 mFo) (hc38 mRt) (hc39 mRm) (hc40 mTt) (hc41 mTi) (hc42 mPl) (hc43 mVr) (hc44 mVf) (hc45 mVc) (hc46 mAr) (hc47 mTc) (hc48 mFt) (hc49 mGo) dyn, 0, 0)) rfl ?_
          refine pm_go (g := (71, _, [.int (mRt (r).toNatClampNeg), .ref 25], _, 0, 0)) rfl ?_
          refine pm_callD (z := 145) (as := [.ref 25, .int (mRt (r).toNatClampNeg)]) (rest := []) rfl ?_
          refine w_X12_isOpen (mRt (r).toNatClampNeg) (by assumption) (by assumption) (by omega) (fun h34 => ?_) (fun h35 => ?_)
          ·
            show pm_WP 165 (74, [(4, .int (mRt (r).toNatClampNeg)), (0, .ref 25), (1, .int r), (2, .int f), (3, .int h)], [.int 1], _, 0, 0) _
            refine pm_brT (g := (86, [(4, .int (mRt (r).toNatClampNeg)), (0, .ref 25), (1, .int r), (2, .int f), (3, .int h)], [], hq g c1 c2 c3 c4 c5 c6 c7 c8 c9 c10 c11 c12 c13 c14 c15 c16 c17 c18 c19 c20 c21 c22 c23 c24 (hc25 mTy mTm mMn mFn mRn mTn mVn mLr mTr mFl mFm mFp mSc mMp mEn) (hc26 mPa) (hc27 mTo) (hc28 mOt) (hc29 mNa) (hc30 mRe) (hc31 mMa) (hc32 mMy) (hc33 mPm) (hc34 mFy) (hc35 mFa) (hc36 mFr) (hc37 mFo) (hc38 mRt) (hc39 mRm) (hc40 mTt) (hc41 mTi) (hc42 mPl) (hc43 mVr) (hc44 mVf) (hc45 mVc) (hc46 mAr) (hc47 mTc) (hc48 mFt) (hc49 mGo) dyn, 0, 0)) rfl ?_
            refine pm_go (g := (88, _, [.int (-3)], _, 0, 0)) rfl ?_
            refine pm_go (g := (101, _, [.int (-3)], _, 0, 0)) rfl ?_
            exact pm_ret rfl (k1 (by omega) (by first | (left; assumption) | (right; exact h0.mp (by omega))))
          show pm_WP 165 (74, [(4, .int (mRt (r).toNatClampNeg)), (0, .ref 25), (1, .int r), (2, .int f), (3, .int h)], [.int 0], hq g c1 c2 c3 c4 c5 c6 c7 c8 c9 c10 c11 c12 c13 c14 c15 c16 c17 c18 c19 c20 c21 c22 c23 c24 (hc25 mTy mTm mMn mFn mRn mTn mVn mLr mTr mFl mFm mFp mSc mMp mEn) (hc26 mPa) (hc27 mTo) (hc28 mOt) (hc29 mNa) (hc30 mRe) (hc31 mMa) (hc32 mMy) (hc33 mPm) (hc34 mFy) (hc35 mFa) (hc36 mFr) (hc37 mFo) (hc38 mRt) (hc39 mRm) (hc40 mTt) (hc41 mTi) (hc42 mPl) (hc43 mVr) (hc44 mVf) (hc45 mVc) (hc46 mAr) (hc47 mTc) (hc48 mFt) (hc49 mGo) dyn, 0, 0) _
          refine pm_brF (h := (77, [(4, .int (mRt (r).toNatClampNeg)), (0, .ref 25), (1, .int r), (2, .int f), (3, .int h)], [], hq g c1 c2 c3 c4 c5 c6 c7 c8 c9 c10 c11 c12 c13 c14 c15 c16 c17 c18 c19 c20 c21 c22 c23 c24 (hc25 mTy mTm mMn mFn mRn mTn mVn mLr mTr mFl mFm mFp mSc mMp mEn) (hc26 mPa) (hc27 mTo) (hc28 mOt) (hc29 mNa) (hc30 mRe) (hc31 mMa) (hc32 mMy) (hc33 mPm) (hc34 mFy) (hc35 mFa) (hc36 mFr) (hc37 mFo) (hc38 mRt) (hc39 mRm) (hc40 mTt) (hc41 mTi) (hc42 mPl) (hc43 mVr) (hc44 mVf) (hc45 mVc) (hc46 mAr) (hc47 mTc) (hc48 mFt) (hc49 mGo) dyn, 0, 0)) rfl ?_
          refine pm_go (g := (78, _, [.ref 25], _, 0, 0)) rfl ?_
          refine pm_go (g := (80, _, [.int (mRt (r).toNatClampNeg), .ref 25], _, 0, 0)) rfl ?_
          refine pm_callD (z := 154) (as := [.ref 25, .int (mRt (r).toNatClampNeg)]) (rest := []) rfl ?_
          refine w_X12_makers (mRt (r).toNatClampNeg) (by omega) (fun v37_r9 h37 => ?_)
          show pm_WP 165 (83, [(4, .int (mRt (r).toNatClampNeg)), (0, .ref 25), (1, .int r), (2, .int f), (3, .int h)], [.int v37_r9], _, 0, 0) _
          refine pm_if2 (g := (91, [(4, .int (mRt (r).toNatClampNeg)), (0, .ref 25), (1, .int r), (2, .int f), (3, .int h)], [], hq g c1 c2 c3 c4 c5 c6 c7 c8 c9 c10 c11 c12 c13 c14 c15 c16 c17 c18 c19 c20 c21 c22 c23 c24 (hc25 mTy mTm mMn mFn mRn mTn mVn mLr mTr mFl mFm mFp mSc mMp mEn) (hc26 mPa) (hc27 mTo) (hc28 mOt) (hc29 mNa) (hc30 mRe) (hc31 mMa) (hc32 mMy) (hc33 mPm) (hc34 mFy) (hc35 mFa) (hc36 mFr) (hc37 mFo) (hc38 mRt) (hc39 mRm) (hc40 mTt) (hc41 mTi) (hc42 mPl) (hc43 mVr) (hc44 mVf) (hc45 mVc) (hc46 mAr) (hc47 mTc) (hc48 mFt) (hc49 mGo) dyn, 0, 0)) (h := (86, [(4, .int (mRt (r).toNatClampNeg)), (0, .ref 25), (1, .int r), (2, .int f), (3, .int h)], [], hq g c1 c2 c3 c4 c5 c6 c7 c8 c9 c10 c11 c12 c13 c14 c15 c16 c17 c18 c19 c20 c21 c22 c23 c24 (hc25 mTy mTm mMn mFn mRn mTn mVn mLr mTr mFl mFm mFp mSc mMp mEn) (hc26 mPa) (hc27 mTo) (hc28 mOt) (hc29 mNa) (hc30 mRe) (hc31 mMa) (hc32 mMy) (hc33 mPm) (hc34 mFy) (hc35 mFa) (hc36 mFr) (hc37 mFo) (hc38 mRt) (hc39 mRm) (hc40 mTt) (hc41 mTi) (hc42 mPl) (hc43 mVr) (hc44 mVf) (hc45 mVc) (hc46 mAr) (hc47 mTc) (hc48 mFt) (hc49 mGo) dyn, 0, 0)) rfl (fun h39 => ?_) (fun h39 => ?_)
          ·
            have h39 := qT_ne (cx := (v37_r9).toInt) (cy := 0) rfl (by decide) h39
            refine pm_go (g := (92, _, [.ref 25], _, 0, 0)) rfl ?_
            refine pm_go (g := (94, _, [.int (mRt (r).toNatClampNeg), .ref 25], _, 0, 0)) rfl ?_
            refine pm_go (g := (96, _, [.int 6, .int (mRt (r).toNatClampNeg), .ref 25], _, 0, 0)) rfl ?_
            refine pm_go (g := (97, _, [.int f, .int 6, .int (mRt (r).toNatClampNeg), .ref 25], _, 0, 0)) rfl ?_
            refine pm_go (g := (98, _, [.int 0, .int f, .int 6, .int (mRt (r).toNatClampNeg), .ref 25], _, 0, 0)) rfl ?_
            refine pm_callD (z := 150) (as := [.ref 25, .int (mRt (r).toNatClampNeg), .int 6, .int f, .int 0]) (rest := []) rfl ?_
            have h40 : (6 : Int32).toInt = 6 := by decide
            have h41 : (0 : Int32).toInt = 0 := by decide
            refine w_X12_searched (mRt (r).toNatClampNeg) 6 f 0 (by omega) (by omega) (by omega) (by assumption) (by assumption) (by assumption) (by omega) (fun v45_f9 v45_m9 v45_p9 v45_r9 h42 h43 h44 h45 => ?_)
            show pm_WP 165 (101, [(4, .int (mRt (r).toNatClampNeg)), (0, .ref 25), (1, .int r), (2, .int f), (3, .int h)], [.int v45_r9], _, 0, 0) _
            refine pm_ret rfl (k2 _ _ _ _ (by omega) ?_ ?_ (srM_n p8 h42) (by omega))
            · first | exact Or.inl (by omega) | exact Or.inr ⟨by assumption, Classical.byContradiction (fun q => absurd (h37.mpr q) (by omega))⟩
            · first | exact Or.inl ⟨by omega, h42⟩ | exact Or.inr (Or.inr (Or.inl ⟨by omega, by omega, h42⟩)) | exact Or.inr (Or.inr (Or.inr ⟨by omega, by omega, by omega, h42⟩))
          have h39 := qF_ne (cx := (v37_r9).toInt) (cy := 0) rfl (by decide) h39
          refine pm_go (g := (88, _, [.int (-3)], hq g c1 c2 c3 c4 c5 c6 c7 c8 c9 c10 c11 c12 c13 c14 c15 c16 c17 c18 c19 c20 c21 c22 c23 c24 (hc25 mTy mTm mMn mFn mRn mTn mVn mLr mTr mFl mFm mFp mSc mMp mEn) (hc26 mPa) (hc27 mTo) (hc28 mOt) (hc29 mNa) (hc30 mRe) (hc31 mMa) (hc32 mMy) (hc33 mPm) (hc34 mFy) (hc35 mFa) (hc36 mFr) (hc37 mFo) (hc38 mRt) (hc39 mRm) (hc40 mTt) (hc41 mTi) (hc42 mPl) (hc43 mVr) (hc44 mVf) (hc45 mVc) (hc46 mAr) (hc47 mTc) (hc48 mFt) (hc49 mGo) dyn, 0, 0)) rfl ?_
          refine pm_go (g := (101, _, [.int (-3)], _, 0, 0)) rfl ?_
          exact pm_ret rfl (k1 (by omega) (by first | (left; assumption) | (right; exact h37.mp (by omega))))
        show pm_WP 165 (45, [(0, .ref 25), (1, .int r), (2, .int f), (3, .int h)], [.int 0], hq g c1 c2 c3 c4 c5 c6 c7 c8 c9 c10 c11 c12 c13 c14 c15 c16 c17 c18 c19 c20 c21 c22 c23 c24 (hc25 mTy mTm mMn mFn mRn mTn mVn mLr mTr mFl mFm mFp mSc mMp mEn) (hc26 mPa) (hc27 mTo) (hc28 mOt) (hc29 mNa) (hc30 mRe) (hc31 mMa) (hc32 mMy) (hc33 mPm) (hc34 mFy) (hc35 mFa) (hc36 mFr) (hc37 mFo) (hc38 mRt) (hc39 mRm) (hc40 mTt) (hc41 mTi) (hc42 mPl) (hc43 mVr) (hc44 mVf) (hc45 mVc) (hc46 mAr) (hc47 mTc) (hc48 mFt) (hc49 mGo) dyn, 0, 0) _
        refine pm_brF (h := (48, [(0, .ref 25), (1, .int r), (2, .int f), (3, .int h)], [], hq g c1 c2 c3 c4 c5 c6 c7 c8 c9 c10 c11 c12 c13 c14 c15 c16 c17 c18 c19 c20 c21 c22 c23 c24 (hc25 mTy mTm mMn mFn mRn mTn mVn mLr mTr mFl mFm mFp mSc mMp mEn) (hc26 mPa) (hc27 mTo) (hc28 mOt) (hc29 mNa) (hc30 mRe) (hc31 mMa) (hc32 mMy) (hc33 mPm) (hc34 mFy) (hc35 mFa) (hc36 mFr) (hc37 mFo) (hc38 mRt) (hc39 mRm) (hc40 mTt) (hc41 mTi) (hc42 mPl) (hc43 mVr) (hc44 mVf) (hc45 mVc) (hc46 mAr) (hc47 mTc) (hc48 mFt) (hc49 mGo) dyn, 0, 0)) rfl ?_
        refine pm_go (g := (49, _, [.int (-1)], _, 0, 0)) rfl ?_
        exact pm_ret rfl (k0 (by omega))
      have h8 := qF_ne (cx := (mFo (r).toNatClampNeg).toInt) (cy := 0) rfl (by decide) h8
      refine pm_go (g := (38, _, [.int 2, .int 1, .int h], _, 0, 0)) rfl ?_
      refine pm_go (g := (42, _, [.int 2, .int 1, .int h], _, 0, 0)) rfl ?_
      refine pm_callD (z := 128) (as := [.int h, .int 1, .int 2]) (rest := []) rfl ?_
      have h47 : (1 : Int32).toInt = 1 := by decide
      have h48 : (2 : Int32).toInt = 2 := by decide
      refine w_X12_isIn h 1 2 (fun h49 => ?_) (fun h50 => ?_)
      ·
        show pm_WP 165 (45, [(0, .ref 25), (1, .int r), (2, .int f), (3, .int h)], [.int 1], _, 0, 0) _
        refine pm_brT (g := (50, [(0, .ref 25), (1, .int r), (2, .int f), (3, .int h)], [], hq g c1 c2 c3 c4 c5 c6 c7 c8 c9 c10 c11 c12 c13 c14 c15 c16 c17 c18 c19 c20 c21 c22 c23 c24 (hc25 mTy mTm mMn mFn mRn mTn mVn mLr mTr mFl mFm mFp mSc mMp mEn) (hc26 mPa) (hc27 mTo) (hc28 mOt) (hc29 mNa) (hc30 mRe) (hc31 mMa) (hc32 mMy) (hc33 mPm) (hc34 mFy) (hc35 mFa) (hc36 mFr) (hc37 mFo) (hc38 mRt) (hc39 mRm) (hc40 mTt) (hc41 mTi) (hc42 mPl) (hc43 mVr) (hc44 mVf) (hc45 mVc) (hc46 mAr) (hc47 mTc) (hc48 mFt) (hc49 mGo) dyn, 0, 0)) rfl ?_
        refine pm_go (g := (51, _, [.ref 25], _, 0, 0)) rfl ?_
        refine pm_go (g := (54, _, [.ref 38], _, 0, 0)) rfl ?_
        refine pm_go (g := (55, _, [.int r, .ref 38], _, 0, 0)) rfl ?_
        refine pm_sd (g := (56, _, [.int (mRt (r).toNatClampNeg)], _, 0, 0)) rfl (pm_inI (by omega) (by omega)) ?_
        refine pm_go (g := (58, [(4, .int (mRt (r).toNatClampNeg)), (0, .ref 25), (1, .int r), (2, .int f), (3, .int h)], [], _, 0, 0)) rfl ?_
        refine pm_go (g := (59, _, [.ref 25], _, 0, 0)) rfl ?_
        refine pm_go (g := (62, _, [.ref 37], _, 0, 0)) rfl ?_
        refine pm_go (g := (63, _, [.int r, .ref 37], _, 0, 0)) rfl ?_
        refine pm_sd (g := (64, _, [.int (mFo (r).toNatClampNeg)], _, 0, 0)) rfl (pm_inI (by omega) (by omega)) ?_
        refine pm_go (g := (65, _, [.int 3, .int (mFo (r).toNatClampNeg)], _, 0, 0)) rfl ?_
        refine pm_if2 (g := (102, [(4, .int (mRt (r).toNatClampNeg)), (0, .ref 25), (1, .int r), (2, .int f), (3, .int h)], [], hq g c1 c2 c3 c4 c5 c6 c7 c8 c9 c10 c11 c12 c13 c14 c15 c16 c17 c18 c19 c20 c21 c22 c23 c24 (hc25 mTy mTm mMn mFn mRn mTn mVn mLr mTr mFl mFm mFp mSc mMp mEn) (hc26 mPa) (hc27 mTo) (hc28 mOt) (hc29 mNa) (hc30 mRe) (hc31 mMa) (hc32 mMy) (hc33 mPm) (hc34 mFy) (hc35 mFa) (hc36 mFr) (hc37 mFo) (hc38 mRt) (hc39 mRm) (hc40 mTt) (hc41 mTi) (hc42 mPl) (hc43 mVr) (hc44 mVf) (hc45 mVc) (hc46 mAr) (hc47 mTc) (hc48 mFt) (hc49 mGo) dyn, 0, 0)) (h := (68, [(4, .int (mRt (r).toNatClampNeg)), (0, .ref 25), (1, .int r), (2, .int f), (3, .int h)], [], hq g c1 c2 c3 c4 c5 c6 c7 c8 c9 c10 c11 c12 c13 c14 c15 c16 c17 c18 c19 c20 c21 c22 c23 c24 (hc25 mTy mTm mMn mFn mRn mTn mVn mLr mTr mFl mFm mFp mSc mMp mEn) (hc26 mPa) (hc27 mTo) (hc28 mOt) (hc29 mNa) (hc30 mRe) (hc31 mMa) (hc32 mMy) (hc33 mPm) (hc34 mFy) (hc35 mFa) (hc36 mFr) (hc37 mFo) (hc38 mRt) (hc39 mRm) (hc40 mTt) (hc41 mTi) (hc42 mPl) (hc43 mVr) (hc44 mVf) (hc45 mVc) (hc46 mAr) (hc47 mTc) (hc48 mFt) (hc49 mGo) dyn, 0, 0)) rfl (fun h52 => ?_) (fun h52 => ?_)
        ·
          have h52 := qT_ne (cx := (mFo (r).toNatClampNeg).toInt) (cy := 3) rfl (by decide) h52
          refine pm_go (g := (103, _, [.int h], _, 0, 0)) rfl ?_
          refine pm_go (g := (104, _, [.int 2, .int h], _, 0, 0)) rfl ?_
          refine pm_if2 (g := (123, [(4, .int (mRt (r).toNatClampNeg)), (0, .ref 25), (1, .int r), (2, .int f), (3, .int h)], [], hq g c1 c2 c3 c4 c5 c6 c7 c8 c9 c10 c11 c12 c13 c14 c15 c16 c17 c18 c19 c20 c21 c22 c23 c24 (hc25 mTy mTm mMn mFn mRn mTn mVn mLr mTr mFl mFm mFp mSc mMp mEn) (hc26 mPa) (hc27 mTo) (hc28 mOt) (hc29 mNa) (hc30 mRe) (hc31 mMa) (hc32 mMy) (hc33 mPm) (hc34 mFy) (hc35 mFa) (hc36 mFr) (hc37 mFo) (hc38 mRt) (hc39 mRm) (hc40 mTt) (hc41 mTi) (hc42 mPl) (hc43 mVr) (hc44 mVf) (hc45 mVc) (hc46 mAr) (hc47 mTc) (hc48 mFt) (hc49 mGo) dyn, 0, 0)) (h := (107, [(4, .int (mRt (r).toNatClampNeg)), (0, .ref 25), (1, .int r), (2, .int f), (3, .int h)], [], hq g c1 c2 c3 c4 c5 c6 c7 c8 c9 c10 c11 c12 c13 c14 c15 c16 c17 c18 c19 c20 c21 c22 c23 c24 (hc25 mTy mTm mMn mFn mRn mTn mVn mLr mTr mFl mFm mFp mSc mMp mEn) (hc26 mPa) (hc27 mTo) (hc28 mOt) (hc29 mNa) (hc30 mRe) (hc31 mMa) (hc32 mMy) (hc33 mPm) (hc34 mFy) (hc35 mFa) (hc36 mFr) (hc37 mFo) (hc38 mRt) (hc39 mRm) (hc40 mTt) (hc41 mTi) (hc42 mPl) (hc43 mVr) (hc44 mVf) (hc45 mVc) (hc46 mAr) (hc47 mTc) (hc48 mFt) (hc49 mGo) dyn, 0, 0)) rfl (fun h53 => ?_) (fun h53 => ?_)
          ·
            have h53 := qT_ne (cx := (h).toInt) (cy := 2) rfl (by decide) h53
            refine pm_go (g := (124, _, [.ref 25], _, 0, 0)) rfl ?_
            refine pm_go (g := (125, _, [.ref 25, .ref 25], _, 0, 0)) rfl ?_
            refine pm_go (g := (128, _, [.ref 37, .ref 25], _, 0, 0)) rfl ?_
            refine pm_go (g := (129, _, [.int r, .ref 37, .ref 25], _, 0, 0)) rfl ?_
            refine pm_sd (g := (130, _, [.int (mFo (r).toNatClampNeg), .ref 25], _, 0, 0)) rfl (pm_inI (by omega) (by omega)) ?_
            refine pm_go (g := (131, _, [.int 2, .int (mFo (r).toNatClampNeg), .ref 25], _, 0, 0)) rfl ?_
            refine pm_if2 (g := (144, [(4, .int (mRt (r).toNatClampNeg)), (0, .ref 25), (1, .int r), (2, .int f), (3, .int h)], [.ref 25], hq g c1 c2 c3 c4 c5 c6 c7 c8 c9 c10 c11 c12 c13 c14 c15 c16 c17 c18 c19 c20 c21 c22 c23 c24 (hc25 mTy mTm mMn mFn mRn mTn mVn mLr mTr mFl mFm mFp mSc mMp mEn) (hc26 mPa) (hc27 mTo) (hc28 mOt) (hc29 mNa) (hc30 mRe) (hc31 mMa) (hc32 mMy) (hc33 mPm) (hc34 mFy) (hc35 mFa) (hc36 mFr) (hc37 mFo) (hc38 mRt) (hc39 mRm) (hc40 mTt) (hc41 mTi) (hc42 mPl) (hc43 mVr) (hc44 mVf) (hc45 mVc) (hc46 mAr) (hc47 mTc) (hc48 mFt) (hc49 mGo) dyn, 0, 0)) (h := (134, [(4, .int (mRt (r).toNatClampNeg)), (0, .ref 25), (1, .int r), (2, .int f), (3, .int h)], [.ref 25], hq g c1 c2 c3 c4 c5 c6 c7 c8 c9 c10 c11 c12 c13 c14 c15 c16 c17 c18 c19 c20 c21 c22 c23 c24 (hc25 mTy mTm mMn mFn mRn mTn mVn mLr mTr mFl mFm mFp mSc mMp mEn) (hc26 mPa) (hc27 mTo) (hc28 mOt) (hc29 mNa) (hc30 mRe) (hc31 mMa) (hc32 mMy) (hc33 mPm) (hc34 mFy) (hc35 mFa) (hc36 mFr) (hc37 mFo) (hc38 mRt) (hc39 mRm) (hc40 mTt) (hc41 mTi) (hc42 mPl) (hc43 mVr) (hc44 mVf) (hc45 mVc) (hc46 mAr) (hc47 mTc) (hc48 mFt) (hc49 mGo) dyn, 0, 0)) rfl (fun h54 => ?_) (fun h54 => ?_)
            ·
              have h54 := qT_ne (cx := (mFo (r).toNatClampNeg).toInt) (cy := 2) rfl (by decide) h54
              refine pm_go (g := (146, _, [.int (mRt (r).toNatClampNeg), .ref 25], _, 0, 0)) rfl ?_
              refine pm_go (g := (147, _, [.ref 25, .int (mRt (r).toNatClampNeg), .ref 25], _, 0, 0)) rfl ?_
              refine pm_go (g := (150, _, [.ref 39, .int (mRt (r).toNatClampNeg), .ref 25], _, 0, 0)) rfl ?_
              refine pm_go (g := (151, _, [.int r, .ref 39, .int (mRt (r).toNatClampNeg), .ref 25], _, 0, 0)) rfl ?_
              refine pm_sd (g := (152, _, [.int (mRm (r).toNatClampNeg), .int (mRt (r).toNatClampNeg), .ref 25], _, 0, 0)) rfl (pm_inI (by omega) (by omega)) ?_
              refine pm_go (g := (153, _, [.int f, .int (mRm (r).toNatClampNeg), .int (mRt (r).toNatClampNeg), .ref 25], _, 0, 0)) rfl ?_
              refine pm_go (g := (154, _, [.int 0, .int f, .int (mRm (r).toNatClampNeg), .int (mRt (r).toNatClampNeg), .ref 25], _, 0, 0)) rfl ?_
              refine pm_callD (z := 150) (as := [.ref 25, .int (mRt (r).toNatClampNeg), .int (mRm (r).toNatClampNeg), .int f, .int 0]) (rest := []) rfl ?_
              have h55 : (0 : Int32).toInt = 0 := by decide
              refine w_X12_searched (mRt (r).toNatClampNeg) (mRm (r).toNatClampNeg) f 0 (by omega) (by omega) (by omega) (by assumption) (by assumption) (by assumption) (by omega) (fun v59_f9 v59_m9 v59_p9 v59_r9 h56 h57 h58 h59 => ?_)
              show pm_WP 165 (157, [(4, .int (mRt (r).toNatClampNeg)), (0, .ref 25), (1, .int r), (2, .int f), (3, .int h)], [.int v59_r9], _, 0, 0) _
              refine pm_ret rfl (k2 _ _ _ _ (by omega) ?_ ?_ (srM_n p8 h56) (by omega))
              · first | exact Or.inl (by omega) | exact Or.inr ⟨by assumption, Classical.byContradiction (fun q => absurd (h37.mpr q) (by omega))⟩
              · first | exact Or.inl ⟨by omega, h56⟩ | exact Or.inr (Or.inr (Or.inl ⟨by omega, by omega, h56⟩)) | exact Or.inr (Or.inr (Or.inr ⟨by omega, by omega, by omega, h56⟩))
            have h54 := qF_ne (cx := (mFo (r).toNatClampNeg).toInt) (cy := 2) rfl (by decide) h54
            refine pm_go (g := (135, _, [.ref 25, .ref 25], hq g c1 c2 c3 c4 c5 c6 c7 c8 c9 c10 c11 c12 c13 c14 c15 c16 c17 c18 c19 c20 c21 c22 c23 c24 (hc25 mTy mTm mMn mFn mRn mTn mVn mLr mTr mFl mFm mFp mSc mMp mEn) (hc26 mPa) (hc27 mTo) (hc28 mOt) (hc29 mNa) (hc30 mRe) (hc31 mMa) (hc32 mMy) (hc33 mPm) (hc34 mFy) (hc35 mFa) (hc36 mFr) (hc37 mFo) (hc38 mRt) (hc39 mRm) (hc40 mTt) (hc41 mTi) (hc42 mPl) (hc43 mVr) (hc44 mVf) (hc45 mVc) (hc46 mAr) (hc47 mTc) (hc48 mFt) (hc49 mGo) dyn, 0, 0)) rfl ?_
            refine pm_go (g := (138, _, [.ref 26, .ref 25], _, 0, 0)) rfl ?_
            refine pm_go (g := (140, _, [.int (mRt (r).toNatClampNeg), .ref 26, .ref 25], _, 0, 0)) rfl ?_
            refine pm_sd (g := (141, _, [.int (mPa (mRt (r).toNatClampNeg).toNatClampNeg), .ref 25], _, 0, 0)) rfl (pm_inI (by omega) (by omega)) ?_
            refine pm_go (g := (146, _, [.int (mPa (mRt (r).toNatClampNeg).toNatClampNeg), .ref 25], _, 0, 0)) rfl ?_
            refine pm_go (g := (147, _, [.ref 25, .int (mPa (mRt (r).toNatClampNeg).toNatClampNeg), .ref 25], _, 0, 0)) rfl ?_
            refine pm_go (g := (150, _, [.ref 39, .int (mPa (mRt (r).toNatClampNeg).toNatClampNeg), .ref 25], _, 0, 0)) rfl ?_
            refine pm_go (g := (151, _, [.int r, .ref 39, .int (mPa (mRt (r).toNatClampNeg).toNatClampNeg), .ref 25], _, 0, 0)) rfl ?_
            refine pm_sd (g := (152, _, [.int (mRm (r).toNatClampNeg), .int (mPa (mRt (r).toNatClampNeg).toNatClampNeg), .ref 25], _, 0, 0)) rfl (pm_inI (by omega) (by omega)) ?_
            refine pm_go (g := (153, _, [.int f, .int (mRm (r).toNatClampNeg), .int (mPa (mRt (r).toNatClampNeg).toNatClampNeg), .ref 25], _, 0, 0)) rfl ?_
            refine pm_go (g := (154, _, [.int 0, .int f, .int (mRm (r).toNatClampNeg), .int (mPa (mRt (r).toNatClampNeg).toNatClampNeg), .ref 25], _, 0, 0)) rfl ?_
            refine pm_callD (z := 150) (as := [.ref 25, .int (mPa (mRt (r).toNatClampNeg).toNatClampNeg), .int (mRm (r).toNatClampNeg), .int f, .int 0]) (rest := []) rfl ?_
            have h61 : (0 : Int32).toInt = 0 := by decide
            refine w_X12_searched (mPa (mRt (r).toNatClampNeg).toNatClampNeg) (mRm (r).toNatClampNeg) f 0 (by omega) (by omega) (by omega) (by assumption) (by assumption) (by assumption) (by omega) (fun v65_f9 v65_m9 v65_p9 v65_r9 h62 h63 h64 h65 => ?_)
            show pm_WP 165 (157, [(4, .int (mRt (r).toNatClampNeg)), (0, .ref 25), (1, .int r), (2, .int f), (3, .int h)], [.int v65_r9], _, 0, 0) _
            refine pm_ret rfl (k2 _ _ _ _ (by omega) ?_ ?_ (srM_n p8 h62) (by omega))
            · first | exact Or.inl (by omega) | exact Or.inr ⟨by assumption, Classical.byContradiction (fun q => absurd (h37.mpr q) (by omega))⟩
            · first | exact Or.inl ⟨by omega, h62⟩ | exact Or.inr (Or.inr (Or.inl ⟨by omega, by omega, h62⟩)) | exact Or.inr (Or.inr (Or.inr ⟨by omega, by omega, by omega, h62⟩))
          have h53 := qF_ne (cx := (h).toInt) (cy := 2) rfl (by decide) h53
          refine pm_go (g := (108, _, [.ref 25], hq g c1 c2 c3 c4 c5 c6 c7 c8 c9 c10 c11 c12 c13 c14 c15 c16 c17 c18 c19 c20 c21 c22 c23 c24 (hc25 mTy mTm mMn mFn mRn mTn mVn mLr mTr mFl mFm mFp mSc mMp mEn) (hc26 mPa) (hc27 mTo) (hc28 mOt) (hc29 mNa) (hc30 mRe) (hc31 mMa) (hc32 mMy) (hc33 mPm) (hc34 mFy) (hc35 mFa) (hc36 mFr) (hc37 mFo) (hc38 mRt) (hc39 mRm) (hc40 mTt) (hc41 mTi) (hc42 mPl) (hc43 mVr) (hc44 mVf) (hc45 mVc) (hc46 mAr) (hc47 mTc) (hc48 mFt) (hc49 mGo) dyn, 0, 0)) rfl ?_
          refine pm_go (g := (110, _, [.int (mRt (r).toNatClampNeg), .ref 25], _, 0, 0)) rfl ?_
          refine pm_go (g := (111, _, [.ref 25, .int (mRt (r).toNatClampNeg), .ref 25], _, 0, 0)) rfl ?_
          refine pm_go (g := (114, _, [.ref 39, .int (mRt (r).toNatClampNeg), .ref 25], _, 0, 0)) rfl ?_
          refine pm_go (g := (115, _, [.int r, .ref 39, .int (mRt (r).toNatClampNeg), .ref 25], _, 0, 0)) rfl ?_
          refine pm_sd (g := (116, _, [.int (mRm (r).toNatClampNeg), .int (mRt (r).toNatClampNeg), .ref 25], _, 0, 0)) rfl (pm_inI (by omega) (by omega)) ?_
          refine pm_go (g := (117, _, [.int f, .int (mRm (r).toNatClampNeg), .int (mRt (r).toNatClampNeg), .ref 25], _, 0, 0)) rfl ?_
          refine pm_callD (z := 152) (as := [.ref 25, .int (mRt (r).toNatClampNeg), .int (mRm (r).toNatClampNeg), .int f]) (rest := []) rfl ?_
          refine w_X12_secondSearched (mRt (r).toNatClampNeg) (mRm (r).toNatClampNeg) f (by omega) (by omega) (by assumption) (by assumption) (by assumption) (by omega) (fun v70_f9 v70_m9 v70_p9 v70_r9 h67 h68 h69 h70 => ?_)
          show pm_WP 165 (120, [(4, .int (mRt (r).toNatClampNeg)), (0, .ref 25), (1, .int r), (2, .int f), (3, .int h)], [.int v70_r9], _, 0, 0) _
          refine pm_go (g := (157, _, [.int v70_r9], _, 0, 0)) rfl ?_
          exact pm_ret rfl (k2 _ _ _ _ (by omega) (Or.inl (by omega)) (Or.inr (Or.inl ⟨by omega, by omega, h67⟩)) (s2M_n p8 h67) (by omega))
        have h52 := qF_ne (cx := (mFo (r).toNatClampNeg).toInt) (cy := 3) rfl (by decide) h52
        refine pm_go (g := (69, _, [.ref 25], hq g c1 c2 c3 c4 c5 c6 c7 c8 c9 c10 c11 c12 c13 c14 c15 c16 c17 c18 c19 c20 c21 c22 c23 c24 (hc25 mTy mTm mMn mFn mRn mTn mVn mLr mTr mFl mFm mFp mSc mMp mEn) (hc26 mPa) (hc27 mTo) (hc28 mOt) (hc29 mNa) (hc30 mRe) (hc31 mMa) (hc32 mMy) (hc33 mPm) (hc34 mFy) (hc35 mFa) (hc36 mFr) (hc37 mFo) (hc38 mRt) (hc39 mRm) (hc40 mTt) (hc41 mTi) (hc42 mPl) (hc43 mVr) (hc44 mVf) (hc45 mVc) (hc46 mAr) (hc47 mTc) (hc48 mFt) (hc49 mGo) dyn, 0, 0)) rfl ?_
        refine pm_go (g := (71, _, [.int (mRt (r).toNatClampNeg), .ref 25], _, 0, 0)) rfl ?_
        refine pm_callD (z := 145) (as := [.ref 25, .int (mRt (r).toNatClampNeg)]) (rest := []) rfl ?_
        refine w_X12_isOpen (mRt (r).toNatClampNeg) (by assumption) (by assumption) (by omega) (fun h72 => ?_) (fun h73 => ?_)
        ·
          show pm_WP 165 (74, [(4, .int (mRt (r).toNatClampNeg)), (0, .ref 25), (1, .int r), (2, .int f), (3, .int h)], [.int 1], _, 0, 0) _
          refine pm_brT (g := (86, [(4, .int (mRt (r).toNatClampNeg)), (0, .ref 25), (1, .int r), (2, .int f), (3, .int h)], [], hq g c1 c2 c3 c4 c5 c6 c7 c8 c9 c10 c11 c12 c13 c14 c15 c16 c17 c18 c19 c20 c21 c22 c23 c24 (hc25 mTy mTm mMn mFn mRn mTn mVn mLr mTr mFl mFm mFp mSc mMp mEn) (hc26 mPa) (hc27 mTo) (hc28 mOt) (hc29 mNa) (hc30 mRe) (hc31 mMa) (hc32 mMy) (hc33 mPm) (hc34 mFy) (hc35 mFa) (hc36 mFr) (hc37 mFo) (hc38 mRt) (hc39 mRm) (hc40 mTt) (hc41 mTi) (hc42 mPl) (hc43 mVr) (hc44 mVf) (hc45 mVc) (hc46 mAr) (hc47 mTc) (hc48 mFt) (hc49 mGo) dyn, 0, 0)) rfl ?_
          refine pm_go (g := (88, _, [.int (-3)], _, 0, 0)) rfl ?_
          refine pm_go (g := (101, _, [.int (-3)], _, 0, 0)) rfl ?_
          exact pm_ret rfl (k1 (by omega) (by first | (left; assumption) | (right; exact h37.mp (by omega))))
        show pm_WP 165 (74, [(4, .int (mRt (r).toNatClampNeg)), (0, .ref 25), (1, .int r), (2, .int f), (3, .int h)], [.int 0], hq g c1 c2 c3 c4 c5 c6 c7 c8 c9 c10 c11 c12 c13 c14 c15 c16 c17 c18 c19 c20 c21 c22 c23 c24 (hc25 mTy mTm mMn mFn mRn mTn mVn mLr mTr mFl mFm mFp mSc mMp mEn) (hc26 mPa) (hc27 mTo) (hc28 mOt) (hc29 mNa) (hc30 mRe) (hc31 mMa) (hc32 mMy) (hc33 mPm) (hc34 mFy) (hc35 mFa) (hc36 mFr) (hc37 mFo) (hc38 mRt) (hc39 mRm) (hc40 mTt) (hc41 mTi) (hc42 mPl) (hc43 mVr) (hc44 mVf) (hc45 mVc) (hc46 mAr) (hc47 mTc) (hc48 mFt) (hc49 mGo) dyn, 0, 0) _
        refine pm_brF (h := (77, [(4, .int (mRt (r).toNatClampNeg)), (0, .ref 25), (1, .int r), (2, .int f), (3, .int h)], [], hq g c1 c2 c3 c4 c5 c6 c7 c8 c9 c10 c11 c12 c13 c14 c15 c16 c17 c18 c19 c20 c21 c22 c23 c24 (hc25 mTy mTm mMn mFn mRn mTn mVn mLr mTr mFl mFm mFp mSc mMp mEn) (hc26 mPa) (hc27 mTo) (hc28 mOt) (hc29 mNa) (hc30 mRe) (hc31 mMa) (hc32 mMy) (hc33 mPm) (hc34 mFy) (hc35 mFa) (hc36 mFr) (hc37 mFo) (hc38 mRt) (hc39 mRm) (hc40 mTt) (hc41 mTi) (hc42 mPl) (hc43 mVr) (hc44 mVf) (hc45 mVc) (hc46 mAr) (hc47 mTc) (hc48 mFt) (hc49 mGo) dyn, 0, 0)) rfl ?_
        refine pm_go (g := (78, _, [.ref 25], _, 0, 0)) rfl ?_
        refine pm_go (g := (80, _, [.int (mRt (r).toNatClampNeg), .ref 25], _, 0, 0)) rfl ?_
        refine pm_callD (z := 154) (as := [.ref 25, .int (mRt (r).toNatClampNeg)]) (rest := []) rfl ?_
        refine w_X12_makers (mRt (r).toNatClampNeg) (by omega) (fun v75_r9 h75 => ?_)
        show pm_WP 165 (83, [(4, .int (mRt (r).toNatClampNeg)), (0, .ref 25), (1, .int r), (2, .int f), (3, .int h)], [.int v75_r9], _, 0, 0) _
        refine pm_if2 (g := (91, [(4, .int (mRt (r).toNatClampNeg)), (0, .ref 25), (1, .int r), (2, .int f), (3, .int h)], [], hq g c1 c2 c3 c4 c5 c6 c7 c8 c9 c10 c11 c12 c13 c14 c15 c16 c17 c18 c19 c20 c21 c22 c23 c24 (hc25 mTy mTm mMn mFn mRn mTn mVn mLr mTr mFl mFm mFp mSc mMp mEn) (hc26 mPa) (hc27 mTo) (hc28 mOt) (hc29 mNa) (hc30 mRe) (hc31 mMa) (hc32 mMy) (hc33 mPm) (hc34 mFy) (hc35 mFa) (hc36 mFr) (hc37 mFo) (hc38 mRt) (hc39 mRm) (hc40 mTt) (hc41 mTi) (hc42 mPl) (hc43 mVr) (hc44 mVf) (hc45 mVc) (hc46 mAr) (hc47 mTc) (hc48 mFt) (hc49 mGo) dyn, 0, 0)) (h := (86, [(4, .int (mRt (r).toNatClampNeg)), (0, .ref 25), (1, .int r), (2, .int f), (3, .int h)], [], hq g c1 c2 c3 c4 c5 c6 c7 c8 c9 c10 c11 c12 c13 c14 c15 c16 c17 c18 c19 c20 c21 c22 c23 c24 (hc25 mTy mTm mMn mFn mRn mTn mVn mLr mTr mFl mFm mFp mSc mMp mEn) (hc26 mPa) (hc27 mTo) (hc28 mOt) (hc29 mNa) (hc30 mRe) (hc31 mMa) (hc32 mMy) (hc33 mPm) (hc34 mFy) (hc35 mFa) (hc36 mFr) (hc37 mFo) (hc38 mRt) (hc39 mRm) (hc40 mTt) (hc41 mTi) (hc42 mPl) (hc43 mVr) (hc44 mVf) (hc45 mVc) (hc46 mAr) (hc47 mTc) (hc48 mFt) (hc49 mGo) dyn, 0, 0)) rfl (fun h77 => ?_) (fun h77 => ?_)
        ·
          have h77 := qT_ne (cx := (v75_r9).toInt) (cy := 0) rfl (by decide) h77
          refine pm_go (g := (92, _, [.ref 25], _, 0, 0)) rfl ?_
          refine pm_go (g := (94, _, [.int (mRt (r).toNatClampNeg), .ref 25], _, 0, 0)) rfl ?_
          refine pm_go (g := (96, _, [.int 6, .int (mRt (r).toNatClampNeg), .ref 25], _, 0, 0)) rfl ?_
          refine pm_go (g := (97, _, [.int f, .int 6, .int (mRt (r).toNatClampNeg), .ref 25], _, 0, 0)) rfl ?_
          refine pm_go (g := (98, _, [.int 0, .int f, .int 6, .int (mRt (r).toNatClampNeg), .ref 25], _, 0, 0)) rfl ?_
          refine pm_callD (z := 150) (as := [.ref 25, .int (mRt (r).toNatClampNeg), .int 6, .int f, .int 0]) (rest := []) rfl ?_
          have h78 : (6 : Int32).toInt = 6 := by decide
          have h79 : (0 : Int32).toInt = 0 := by decide
          refine w_X12_searched (mRt (r).toNatClampNeg) 6 f 0 (by omega) (by omega) (by omega) (by assumption) (by assumption) (by assumption) (by omega) (fun v83_f9 v83_m9 v83_p9 v83_r9 h80 h81 h82 h83 => ?_)
          show pm_WP 165 (101, [(4, .int (mRt (r).toNatClampNeg)), (0, .ref 25), (1, .int r), (2, .int f), (3, .int h)], [.int v83_r9], _, 0, 0) _
          refine pm_ret rfl (k2 _ _ _ _ (by omega) ?_ ?_ (srM_n p8 h80) (by omega))
          · first | exact Or.inl (by omega) | exact Or.inr ⟨by assumption, Classical.byContradiction (fun q => absurd (h75.mpr q) (by omega))⟩
          · first | exact Or.inl ⟨by omega, h80⟩ | exact Or.inr (Or.inr (Or.inl ⟨by omega, by omega, h80⟩)) | exact Or.inr (Or.inr (Or.inr ⟨by omega, by omega, by omega, h80⟩))
        have h77 := qF_ne (cx := (v75_r9).toInt) (cy := 0) rfl (by decide) h77
        refine pm_go (g := (88, _, [.int (-3)], hq g c1 c2 c3 c4 c5 c6 c7 c8 c9 c10 c11 c12 c13 c14 c15 c16 c17 c18 c19 c20 c21 c22 c23 c24 (hc25 mTy mTm mMn mFn mRn mTn mVn mLr mTr mFl mFm mFp mSc mMp mEn) (hc26 mPa) (hc27 mTo) (hc28 mOt) (hc29 mNa) (hc30 mRe) (hc31 mMa) (hc32 mMy) (hc33 mPm) (hc34 mFy) (hc35 mFa) (hc36 mFr) (hc37 mFo) (hc38 mRt) (hc39 mRm) (hc40 mTt) (hc41 mTi) (hc42 mPl) (hc43 mVr) (hc44 mVf) (hc45 mVc) (hc46 mAr) (hc47 mTc) (hc48 mFt) (hc49 mGo) dyn, 0, 0)) rfl ?_
        refine pm_go (g := (101, _, [.int (-3)], _, 0, 0)) rfl ?_
        exact pm_ret rfl (k1 (by omega) (by first | (left; assumption) | (right; exact h75.mp (by omega))))
      show pm_WP 165 (45, [(0, .ref 25), (1, .int r), (2, .int f), (3, .int h)], [.int 0], hq g c1 c2 c3 c4 c5 c6 c7 c8 c9 c10 c11 c12 c13 c14 c15 c16 c17 c18 c19 c20 c21 c22 c23 c24 (hc25 mTy mTm mMn mFn mRn mTn mVn mLr mTr mFl mFm mFp mSc mMp mEn) (hc26 mPa) (hc27 mTo) (hc28 mOt) (hc29 mNa) (hc30 mRe) (hc31 mMa) (hc32 mMy) (hc33 mPm) (hc34 mFy) (hc35 mFa) (hc36 mFr) (hc37 mFo) (hc38 mRt) (hc39 mRm) (hc40 mTt) (hc41 mTi) (hc42 mPl) (hc43 mVr) (hc44 mVf) (hc45 mVc) (hc46 mAr) (hc47 mTc) (hc48 mFt) (hc49 mGo) dyn, 0, 0) _
      refine pm_brF (h := (48, [(0, .ref 25), (1, .int r), (2, .int f), (3, .int h)], [], hq g c1 c2 c3 c4 c5 c6 c7 c8 c9 c10 c11 c12 c13 c14 c15 c16 c17 c18 c19 c20 c21 c22 c23 c24 (hc25 mTy mTm mMn mFn mRn mTn mVn mLr mTr mFl mFm mFp mSc mMp mEn) (hc26 mPa) (hc27 mTo) (hc28 mOt) (hc29 mNa) (hc30 mRe) (hc31 mMa) (hc32 mMy) (hc33 mPm) (hc34 mFy) (hc35 mFa) (hc36 mFr) (hc37 mFo) (hc38 mRt) (hc39 mRm) (hc40 mTt) (hc41 mTi) (hc42 mPl) (hc43 mVr) (hc44 mVf) (hc45 mVc) (hc46 mAr) (hc47 mTc) (hc48 mFt) (hc49 mGo) dyn, 0, 0)) rfl ?_
      refine pm_go (g := (49, _, [.int (-1)], _, 0, 0)) rfl ?_
      exact pm_ret rfl (k0 (by omega))
    show pm_WP 165 (13, [(0, .ref 25), (1, .int r), (2, .int f), (3, .int h)], [.int 0], hq g c1 c2 c3 c4 c5 c6 c7 c8 c9 c10 c11 c12 c13 c14 c15 c16 c17 c18 c19 c20 c21 c22 c23 c24 (hc25 mTy mTm mMn mFn mRn mTn mVn mLr mTr mFl mFm mFp mSc mMp mEn) (hc26 mPa) (hc27 mTo) (hc28 mOt) (hc29 mNa) (hc30 mRe) (hc31 mMa) (hc32 mMy) (hc33 mPm) (hc34 mFy) (hc35 mFa) (hc36 mFr) (hc37 mFo) (hc38 mRt) (hc39 mRm) (hc40 mTt) (hc41 mTi) (hc42 mPl) (hc43 mVr) (hc44 mVf) (hc45 mVc) (hc46 mAr) (hc47 mTc) (hc48 mFt) (hc49 mGo) dyn, 0, 0) _
    refine pm_brT (g := (48, [(0, .ref 25), (1, .int r), (2, .int f), (3, .int h)], [], hq g c1 c2 c3 c4 c5 c6 c7 c8 c9 c10 c11 c12 c13 c14 c15 c16 c17 c18 c19 c20 c21 c22 c23 c24 (hc25 mTy mTm mMn mFn mRn mTn mVn mLr mTr mFl mFm mFp mSc mMp mEn) (hc26 mPa) (hc27 mTo) (hc28 mOt) (hc29 mNa) (hc30 mRe) (hc31 mMa) (hc32 mMy) (hc33 mPm) (hc34 mFy) (hc35 mFa) (hc36 mFr) (hc37 mFo) (hc38 mRt) (hc39 mRm) (hc40 mTt) (hc41 mTi) (hc42 mPl) (hc43 mVr) (hc44 mVf) (hc45 mVc) (hc46 mAr) (hc47 mTc) (hc48 mFt) (hc49 mGo) dyn, 0, 0)) rfl ?_
    refine pm_go (g := (49, _, [.int (-1)], _, 0, 0)) rfl ?_
    exact pm_ret rfl (k0 (by omega))
  show pm_WP 165 (5, [(0, .ref 25), (1, .int r), (2, .int f), (3, .int h)], [.int 0], hq g c1 c2 c3 c4 c5 c6 c7 c8 c9 c10 c11 c12 c13 c14 c15 c16 c17 c18 c19 c20 c21 c22 c23 c24 (hc25 mTy mTm mMn mFn mRn mTn mVn mLr mTr mFl mFm mFp mSc mMp mEn) (hc26 mPa) (hc27 mTo) (hc28 mOt) (hc29 mNa) (hc30 mRe) (hc31 mMa) (hc32 mMy) (hc33 mPm) (hc34 mFy) (hc35 mFa) (hc36 mFr) (hc37 mFo) (hc38 mRt) (hc39 mRm) (hc40 mTt) (hc41 mTi) (hc42 mPl) (hc43 mVr) (hc44 mVf) (hc45 mVc) (hc46 mAr) (hc47 mTc) (hc48 mFt) (hc49 mGo) dyn, 0, 0) _
  refine pm_brT (g := (48, [(0, .ref 25), (1, .int r), (2, .int f), (3, .int h)], [], hq g c1 c2 c3 c4 c5 c6 c7 c8 c9 c10 c11 c12 c13 c14 c15 c16 c17 c18 c19 c20 c21 c22 c23 c24 (hc25 mTy mTm mMn mFn mRn mTn mVn mLr mTr mFl mFm mFp mSc mMp mEn) (hc26 mPa) (hc27 mTo) (hc28 mOt) (hc29 mNa) (hc30 mRe) (hc31 mMa) (hc32 mMy) (hc33 mPm) (hc34 mFy) (hc35 mFa) (hc36 mFr) (hc37 mFo) (hc38 mRt) (hc39 mRm) (hc40 mTt) (hc41 mTi) (hc42 mPl) (hc43 mVr) (hc44 mVf) (hc45 mVc) (hc46 mAr) (hc47 mTc) (hc48 mFt) (hc49 mGo) dyn, 0, 0)) rfl ?_
  refine pm_go (g := (49, _, [.int (-1)], _, 0, 0)) rfl ?_
  exact pm_ret rfl (k0 (by omega))
set_option maxRecDepth 100000 in
set_option maxHeartbeats 4000000 in
theorem w_X12_search {g c1 c2 c3 c4 c5 c6 c7 c8 c9 c10 c11 c12 c13 c14 c15 c16 c17 c18 c19 c20 c21 c22 c23 c24 : pm_C} {dyn : pm_H} {mTy : Int32} {mPa : Nat → Int32} {mTo : Nat → Int32} {mTm : Int32} {mMn : Int32} {mOt : Nat → Int32} {mNa : Nat → Int32} {mRe : Nat → Int32} {mMa : Nat → Int32} {mMy : Nat → Int32} {mPm : Nat → Int32} {mFn : Int32} {mFy : Nat → Int32} {mFa : Nat → Int32} {mFr : Nat → Int32} {mRn : Int32} {mFo : Nat → Int32} {mRt : Nat → Int32} {mRm : Nat → Int32} {mTn : Int32} {mTt : Nat → Int32} {mTi : Nat → Int32} {mPl : Nat → Int32} {mVn : Int32} {mVr : Nat → Int32} {mVf : Nat → Int32} {mVc : Nat → Int32} {mAr : Nat → Int32} {mLr : Int32} {mTc : Nat → Int32} {mTr : Int32} {mFl : Int32} {mFt : Nat → Int32} {mFm : Int32} {mFp : Int32} {mSc : Int32} {mMp : Int32} {mEn : Int32} {mGo : Nat → Int32} {Q : pm_Q} (r : Int32) (f : Int32) (h : Int32) (p0 : 0 ≤ mRn.toInt ∧ mRn.toInt ≤ 30) (p1 : 0 ≤ mFn.toInt ∧ mFn.toInt ≤ 10) (p2 : 2 ≤ mTy.toInt ∧ mTy.toInt ≤ 10) (p3 : rfD mRn mTy mFo mRt) (p4 : fcD mFn mFy) (p5 : paD mPa) (p6 : myD mMy) (p7 : vrD mMa mMy) (p8 : 0 ≤ mMn.toInt ∧ mMn.toInt ≤ 40) (k0 : ¬ ((0 ≤ r.toInt ∧ r.toInt < mRn.toInt) ∧ (0 ≤ f.toInt ∧ f.toInt < mFn.toInt) ∧ (mFo r.toNatClampNeg).toInt ≠ 4 ∧ 1 ≤ h.toInt ∧ (h.toInt ≤ 1 ∨ (h.toInt ≤ 2 ∧ (mFo r.toNatClampNeg).toInt = 0))) → Q (some (.int (-1))) (hq g c1 c2 c3 c4 c5 c6 c7 c8 c9 c10 c11 c12 c13 c14 c15 c16 c17 c18 c19 c20 c21 c22 c23 c24 (hc25 mTy mTm mMn mFn mRn mTn mVn mLr mTr mFl mFm mFp mSc mMp mEn) (hc26 mPa) (hc27 mTo) (hc28 mOt) (hc29 mNa) (hc30 mRe) (hc31 mMa) (hc32 mMy) (hc33 mPm) (hc34 mFy) (hc35 mFa) (hc36 mFr) (hc37 mFo) (hc38 mRt) (hc39 mRm) (hc40 mTt) (hc41 mTi) (hc42 mPl) (hc43 mVr) (hc44 mVf) (hc45 mVc) (hc46 mAr) (hc47 mTc) (hc48 mFt) (hc49 mGo) dyn)) (k1 : (((0 ≤ r.toInt ∧ r.toInt < mRn.toInt) ∧ (0 ≤ f.toInt ∧ f.toInt < mFn.toInt) ∧ (mFo r.toNatClampNeg).toInt ≠ 4 ∧ 1 ≤ h.toInt ∧ (h.toInt ≤ 1 ∨ (h.toInt ≤ 2 ∧ (mFo r.toNatClampNeg).toInt = 0))) ∧ (mFo r.toNatClampNeg).toInt = 3) → ((opL mPa mOt mNa mMy mPm mMa mMn (mRt r.toNatClampNeg) 0 ∨ ¬ mkE mOt mNa mMn (mRt r.toNatClampNeg) 0)) → Q (some (.int (-3))) (hq g c1 c2 c3 c4 c5 c6 c7 c8 c9 c10 c11 c12 c13 c14 c15 c16 c17 c18 c19 c20 c21 c22 c23 c24 (hc25 mTy mTm mMn mFn mRn mTn mVn mLr mTr mFl mFm mFp mSc mMp mEn) (hc26 mPa) (hc27 mTo) (hc28 mOt) (hc29 mNa) (hc30 mRe) (hc31 mMa) (hc32 mMy) (hc33 mPm) (hc34 mFy) (hc35 mFa) (hc36 mFr) (hc37 mFo) (hc38 mRt) (hc39 mRm) (hc40 mTt) (hc41 mTi) (hc42 mPl) (hc43 mVr) (hc44 mVf) (hc45 mVc) (hc46 mAr) (hc47 mTc) (hc48 mFt) (hc49 mGo) dyn)) (k2 : ∀ (f9 : Nat → Int32), ∀ (m9 : Int32), ∀ (p9 : Int32), ∀ (r9 : Int32), (((0 ≤ r.toInt ∧ r.toInt < mRn.toInt) ∧ (0 ≤ f.toInt ∧ f.toInt < mFn.toInt) ∧ (mFo r.toNatClampNeg).toInt ≠ 4 ∧ 1 ≤ h.toInt ∧ (h.toInt ≤ 1 ∨ (h.toInt ≤ 2 ∧ (mFo r.toNatClampNeg).toInt = 0)))) → ((mFo r.toNatClampNeg).toInt ≠ 3 ∨ (¬ opL mPa mOt mNa mMy mPm mMa mMn (mRt r.toNatClampNeg) 0 ∧ mkE mOt mNa mMn (mRt r.toNatClampNeg) 0)) → (lkS mPa mOt mNa mMy mPm mMa mFa mFy mMn (mFo r.toNatClampNeg) (mRt r.toNatClampNeg) (mRm r.toNatClampNeg) f h p9 r9) → ((r9.toInt = -4 ∨ r9.toInt = -5 ∨ 0 ≤ r9.toInt)) → ((-5 ≤ r9.toInt ∧ r9.toInt < mMn.toInt) ∧ (0 ≤ p9.toInt ∧ p9.toInt ≤ 3)) → Q (some (.int r9)) (hq g c1 c2 c3 c4 c5 c6 c7 c8 c9 c10 c11 c12 c13 c14 c15 c16 c17 c18 c19 c20 c21 c22 c23 c24 (hc25 mTy mTm mMn mFn mRn mTn mVn mLr mTr mFl m9 p9 mSc mMp mEn) (hc26 mPa) (hc27 mTo) (hc28 mOt) (hc29 mNa) (hc30 mRe) (hc31 mMa) (hc32 mMy) (hc33 mPm) (hc34 mFy) (hc35 mFa) (hc36 mFr) (hc37 mFo) (hc38 mRt) (hc39 mRm) (hc40 mTt) (hc41 mTi) (hc42 mPl) (hc43 mVr) (hc44 mVf) (hc45 mVc) (hc46 mAr) (hc47 mTc) (hc48 f9) (hc49 mGo) dyn)) : pm_WP 166 (0, [(0, .ref 25), (1, .int r), (2, .int f), (3, .int h)], [], hq g c1 c2 c3 c4 c5 c6 c7 c8 c9 c10 c11 c12 c13 c14 c15 c16 c17 c18 c19 c20 c21 c22 c23 c24 (hc25 mTy mTm mMn mFn mRn mTn mVn mLr mTr mFl mFm mFp mSc mMp mEn) (hc26 mPa) (hc27 mTo) (hc28 mOt) (hc29 mNa) (hc30 mRe) (hc31 mMa) (hc32 mMy) (hc33 mPm) (hc34 mFy) (hc35 mFa) (hc36 mFr) (hc37 mFo) (hc38 mRt) (hc39 mRm) (hc40 mTt) (hc41 mTi) (hc42 mPl) (hc43 mVr) (hc44 mVf) (hc45 mVc) (hc46 mAr) (hc47 mTc) (hc48 mFt) (hc49 mGo) dyn, 0, 0) Q := by
  refine pm_go (g := (1, [(0, .ref 25), (1, .int r), (2, .int f), (3, .int h)], [.ref 25], hq g c1 c2 c3 c4 c5 c6 c7 c8 c9 c10 c11 c12 c13 c14 c15 c16 c17 c18 c19 c20 c21 c22 c23 c24 (hc25 mTy mTm mMn mFn mRn mTn mVn mLr mTr mFl mFm mFp mSc mMp mEn) (hc26 mPa) (hc27 mTo) (hc28 mOt) (hc29 mNa) (hc30 mRe) (hc31 mMa) (hc32 mMy) (hc33 mPm) (hc34 mFy) (hc35 mFa) (hc36 mFr) (hc37 mFo) (hc38 mRt) (hc39 mRm) (hc40 mTt) (hc41 mTi) (hc42 mPl) (hc43 mVr) (hc44 mVf) (hc45 mVc) (hc46 mAr) (hc47 mTc) (hc48 mFt) (hc49 mGo) dyn, 0, 0)) rfl ?_
  refine pm_go (g := (2, _, [.int r, .ref 25], _, 0, 0)) rfl ?_
  refine pm_go (g := (3, _, [.int f, .int r, .ref 25], _, 0, 0)) rfl ?_
  refine pm_go (g := (4, _, [.int h, .int f, .int r, .ref 25], _, 0, 0)) rfl ?_
  refine pm_callD (z := 165) (as := [.ref 25, .int r, .int f, .int h]) (rest := []) rfl ?_
  refine w_X12_looked r f h (by omega) (by omega) (by omega) (by assumption) (by assumption) (by assumption) (by assumption) (by assumption) (by omega) (fun h1 => ?_) (fun h2 h3 => ?_) (fun v8_f9 v8_m9 v8_p9 v8_r9 h4 h5 h6 h7 h8 => ?_)
  ·
    show pm_WP 166 (7, [(0, .ref 25), (1, .int r), (2, .int f), (3, .int h)], [.int (-1)], _, 0, 0) _
    first | exact pm_ret rfl (k0 (by assumption)) | exact pm_ret rfl (k1 (by assumption) (by assumption)) | exact pm_ret rfl (k2 _ _ _ _ (by assumption) (by assumption) (by assumption) (by assumption) (by assumption))
  ·
    show pm_WP 166 (7, [(0, .ref 25), (1, .int r), (2, .int f), (3, .int h)], [.int (-3)], _, 0, 0) _
    first | exact pm_ret rfl (k0 (by assumption)) | exact pm_ret rfl (k1 (by assumption) (by assumption)) | exact pm_ret rfl (k2 _ _ _ _ (by assumption) (by assumption) (by assumption) (by assumption) (by assumption))
  show pm_WP 166 (7, [(0, .ref 25), (1, .int r), (2, .int f), (3, .int h)], [.int v8_r9], _, 0, 0) _
  first | exact pm_ret rfl (k0 (by assumption)) | exact pm_ret rfl (k1 (by assumption) (by assumption)) | exact pm_ret rfl (k2 _ _ _ _ (by assumption) (by assumption) (by assumption) (by assumption) (by assumption))
set_option maxRecDepth 100000 in
set_option maxHeartbeats 4000000 in
theorem w_X12_phase {g c1 c2 c3 c4 c5 c6 c7 c8 c9 c10 c11 c12 c13 c14 c15 c16 c17 c18 c19 c20 c21 c22 c23 c24 : pm_C} {dyn : pm_H} {mTy : Int32} {mPa : Nat → Int32} {mTo : Nat → Int32} {mTm : Int32} {mMn : Int32} {mOt : Nat → Int32} {mNa : Nat → Int32} {mRe : Nat → Int32} {mMa : Nat → Int32} {mMy : Nat → Int32} {mPm : Nat → Int32} {mFn : Int32} {mFy : Nat → Int32} {mFa : Nat → Int32} {mFr : Nat → Int32} {mRn : Int32} {mFo : Nat → Int32} {mRt : Nat → Int32} {mRm : Nat → Int32} {mTn : Int32} {mTt : Nat → Int32} {mTi : Nat → Int32} {mPl : Nat → Int32} {mVn : Int32} {mVr : Nat → Int32} {mVf : Nat → Int32} {mVc : Nat → Int32} {mAr : Nat → Int32} {mLr : Int32} {mTc : Nat → Int32} {mTr : Int32} {mFl : Int32} {mFt : Nat → Int32} {mFm : Int32} {mFp : Int32} {mSc : Int32} {mMp : Int32} {mEn : Int32} {mGo : Nat → Int32} {Q : pm_Q} (r : Int32) (f : Int32) (h : Int32) (p0 : 0 ≤ mRn.toInt ∧ mRn.toInt ≤ 30) (p1 : 0 ≤ mFn.toInt ∧ mFn.toInt ≤ 10) (p2 : 2 ≤ mTy.toInt ∧ mTy.toInt ≤ 10) (p3 : rfD mRn mTy mFo mRt) (p4 : fcD mFn mFy) (p5 : paD mPa) (p6 : myD mMy) (p7 : vrD mMa mMy) (p8 : 0 ≤ mMn.toInt ∧ mMn.toInt ≤ 40) (k0 : ¬ ((0 ≤ r.toInt ∧ r.toInt < mRn.toInt) ∧ (0 ≤ f.toInt ∧ f.toInt < mFn.toInt) ∧ (mFo r.toNatClampNeg).toInt ≠ 4 ∧ 1 ≤ h.toInt ∧ (h.toInt ≤ 1 ∨ (h.toInt ≤ 2 ∧ (mFo r.toNatClampNeg).toInt = 0))) → Q (some (.int (-1))) (hq g c1 c2 c3 c4 c5 c6 c7 c8 c9 c10 c11 c12 c13 c14 c15 c16 c17 c18 c19 c20 c21 c22 c23 c24 (hc25 mTy mTm mMn mFn mRn mTn mVn mLr mTr mFl mFm mFp mSc mMp mEn) (hc26 mPa) (hc27 mTo) (hc28 mOt) (hc29 mNa) (hc30 mRe) (hc31 mMa) (hc32 mMy) (hc33 mPm) (hc34 mFy) (hc35 mFa) (hc36 mFr) (hc37 mFo) (hc38 mRt) (hc39 mRm) (hc40 mTt) (hc41 mTi) (hc42 mPl) (hc43 mVr) (hc44 mVf) (hc45 mVc) (hc46 mAr) (hc47 mTc) (hc48 mFt) (hc49 mGo) dyn)) (k1 : (((0 ≤ r.toInt ∧ r.toInt < mRn.toInt) ∧ (0 ≤ f.toInt ∧ f.toInt < mFn.toInt) ∧ (mFo r.toNatClampNeg).toInt ≠ 4 ∧ 1 ≤ h.toInt ∧ (h.toInt ≤ 1 ∨ (h.toInt ≤ 2 ∧ (mFo r.toNatClampNeg).toInt = 0))) ∧ (mFo r.toNatClampNeg).toInt = 3) → ((opL mPa mOt mNa mMy mPm mMa mMn (mRt r.toNatClampNeg) 0 ∨ ¬ mkE mOt mNa mMn (mRt r.toNatClampNeg) 0)) → Q (some (.int (-3))) (hq g c1 c2 c3 c4 c5 c6 c7 c8 c9 c10 c11 c12 c13 c14 c15 c16 c17 c18 c19 c20 c21 c22 c23 c24 (hc25 mTy mTm mMn mFn mRn mTn mVn mLr mTr mFl mFm mFp mSc mMp mEn) (hc26 mPa) (hc27 mTo) (hc28 mOt) (hc29 mNa) (hc30 mRe) (hc31 mMa) (hc32 mMy) (hc33 mPm) (hc34 mFy) (hc35 mFa) (hc36 mFr) (hc37 mFo) (hc38 mRt) (hc39 mRm) (hc40 mTt) (hc41 mTi) (hc42 mPl) (hc43 mVr) (hc44 mVf) (hc45 mVc) (hc46 mAr) (hc47 mTc) (hc48 mFt) (hc49 mGo) dyn)) (k2 : ∀ (f9 : Nat → Int32), ∀ (m9 : Int32), ∀ (p9 : Int32), ∀ (r9 : Int32), (((0 ≤ r.toInt ∧ r.toInt < mRn.toInt) ∧ (0 ≤ f.toInt ∧ f.toInt < mFn.toInt) ∧ (mFo r.toNatClampNeg).toInt ≠ 4 ∧ 1 ≤ h.toInt ∧ (h.toInt ≤ 1 ∨ (h.toInt ≤ 2 ∧ (mFo r.toNatClampNeg).toInt = 0)))) → ((mFo r.toNatClampNeg).toInt ≠ 3 ∨ (¬ opL mPa mOt mNa mMy mPm mMa mMn (mRt r.toNatClampNeg) 0 ∧ mkE mOt mNa mMn (mRt r.toNatClampNeg) 0)) → (lkS mPa mOt mNa mMy mPm mMa mFa mFy mMn (mFo r.toNatClampNeg) (mRt r.toNatClampNeg) (mRm r.toNatClampNeg) f h p9 r9) → ((r9.toInt = -4 ∨ r9.toInt = -5 ∨ 0 ≤ r9.toInt)) → ((-5 ≤ r9.toInt ∧ r9.toInt < mMn.toInt) ∧ (0 ≤ p9.toInt ∧ p9.toInt ≤ 3)) → Q (some (.int p9)) (hq g c1 c2 c3 c4 c5 c6 c7 c8 c9 c10 c11 c12 c13 c14 c15 c16 c17 c18 c19 c20 c21 c22 c23 c24 (hc25 mTy mTm mMn mFn mRn mTn mVn mLr mTr mFl m9 p9 mSc mMp mEn) (hc26 mPa) (hc27 mTo) (hc28 mOt) (hc29 mNa) (hc30 mRe) (hc31 mMa) (hc32 mMy) (hc33 mPm) (hc34 mFy) (hc35 mFa) (hc36 mFr) (hc37 mFo) (hc38 mRt) (hc39 mRm) (hc40 mTt) (hc41 mTi) (hc42 mPl) (hc43 mVr) (hc44 mVf) (hc45 mVc) (hc46 mAr) (hc47 mTc) (hc48 f9) (hc49 mGo) dyn)) : pm_WP 167 (0, [(0, .ref 25), (1, .int r), (2, .int f), (3, .int h)], [], hq g c1 c2 c3 c4 c5 c6 c7 c8 c9 c10 c11 c12 c13 c14 c15 c16 c17 c18 c19 c20 c21 c22 c23 c24 (hc25 mTy mTm mMn mFn mRn mTn mVn mLr mTr mFl mFm mFp mSc mMp mEn) (hc26 mPa) (hc27 mTo) (hc28 mOt) (hc29 mNa) (hc30 mRe) (hc31 mMa) (hc32 mMy) (hc33 mPm) (hc34 mFy) (hc35 mFa) (hc36 mFr) (hc37 mFo) (hc38 mRt) (hc39 mRm) (hc40 mTt) (hc41 mTi) (hc42 mPl) (hc43 mVr) (hc44 mVf) (hc45 mVc) (hc46 mAr) (hc47 mTc) (hc48 mFt) (hc49 mGo) dyn, 0, 0) Q := by
  refine pm_go (g := (1, [(0, .ref 25), (1, .int r), (2, .int f), (3, .int h)], [.ref 25], hq g c1 c2 c3 c4 c5 c6 c7 c8 c9 c10 c11 c12 c13 c14 c15 c16 c17 c18 c19 c20 c21 c22 c23 c24 (hc25 mTy mTm mMn mFn mRn mTn mVn mLr mTr mFl mFm mFp mSc mMp mEn) (hc26 mPa) (hc27 mTo) (hc28 mOt) (hc29 mNa) (hc30 mRe) (hc31 mMa) (hc32 mMy) (hc33 mPm) (hc34 mFy) (hc35 mFa) (hc36 mFr) (hc37 mFo) (hc38 mRt) (hc39 mRm) (hc40 mTt) (hc41 mTi) (hc42 mPl) (hc43 mVr) (hc44 mVf) (hc45 mVc) (hc46 mAr) (hc47 mTc) (hc48 mFt) (hc49 mGo) dyn, 0, 0)) rfl ?_
  refine pm_go (g := (2, _, [.int r, .ref 25], _, 0, 0)) rfl ?_
  refine pm_go (g := (3, _, [.int f, .int r, .ref 25], _, 0, 0)) rfl ?_
  refine pm_go (g := (4, _, [.int h, .int f, .int r, .ref 25], _, 0, 0)) rfl ?_
  refine pm_callD (z := 165) (as := [.ref 25, .int r, .int f, .int h]) (rest := []) rfl ?_
  refine w_X12_looked r f h (by omega) (by omega) (by omega) (by assumption) (by assumption) (by assumption) (by assumption) (by assumption) (by omega) (fun h1 => ?_) (fun h2 h3 => ?_) (fun v8_f9 v8_m9 v8_p9 v8_r9 h4 h5 h6 h7 h8 => ?_)
  ·
    show pm_WP 167 (7, [(0, .ref 25), (1, .int r), (2, .int f), (3, .int h)], [.int (-1)], _, 0, 0) _
    refine pm_go (g := (9, [(4, .int (-1)), (0, .ref 25), (1, .int r), (2, .int f), (3, .int h)], [], _, 0, 0)) rfl ?_
    refine pm_go (g := (11, _, [.int (-1)], _, 0, 0)) rfl ?_
    refine pm_go (g := (12, _, [.int (-1), .int (-1)], _, 0, 0)) rfl ?_
    refine pm_brT (g := (22, [(4, .int (-1)), (0, .ref 25), (1, .int r), (2, .int f), (3, .int h)], [], hq g c1 c2 c3 c4 c5 c6 c7 c8 c9 c10 c11 c12 c13 c14 c15 c16 c17 c18 c19 c20 c21 c22 c23 c24 (hc25 mTy mTm mMn mFn mRn mTn mVn mLr mTr mFl mFm mFp mSc mMp mEn) (hc26 mPa) (hc27 mTo) (hc28 mOt) (hc29 mNa) (hc30 mRe) (hc31 mMa) (hc32 mMy) (hc33 mPm) (hc34 mFy) (hc35 mFa) (hc36 mFr) (hc37 mFo) (hc38 mRt) (hc39 mRm) (hc40 mTt) (hc41 mTi) (hc42 mPl) (hc43 mVr) (hc44 mVf) (hc45 mVc) (hc46 mAr) (hc47 mTc) (hc48 mFt) (hc49 mGo) dyn, 0, 0)) rfl ?_
    refine pm_go (g := (24, _, [.int (-1)], _, 0, 0)) rfl ?_
    refine pm_go (g := (31, _, [.int (-1)], _, 0, 0)) rfl ?_
    first | exact pm_ret rfl (k0 (by assumption)) | exact pm_ret rfl (k1 (by assumption) (by assumption)) | exact pm_ret rfl (k2 _ _ _ _ (by assumption) (by assumption) (by assumption) (by assumption) (by assumption)) | (exfalso; omega)
  ·
    show pm_WP 167 (7, [(0, .ref 25), (1, .int r), (2, .int f), (3, .int h)], [.int (-3)], hq g c1 c2 c3 c4 c5 c6 c7 c8 c9 c10 c11 c12 c13 c14 c15 c16 c17 c18 c19 c20 c21 c22 c23 c24 (hc25 mTy mTm mMn mFn mRn mTn mVn mLr mTr mFl mFm mFp mSc mMp mEn) (hc26 mPa) (hc27 mTo) (hc28 mOt) (hc29 mNa) (hc30 mRe) (hc31 mMa) (hc32 mMy) (hc33 mPm) (hc34 mFy) (hc35 mFa) (hc36 mFr) (hc37 mFo) (hc38 mRt) (hc39 mRm) (hc40 mTt) (hc41 mTi) (hc42 mPl) (hc43 mVr) (hc44 mVf) (hc45 mVc) (hc46 mAr) (hc47 mTc) (hc48 mFt) (hc49 mGo) dyn, 0, 0) _
    refine pm_go (g := (9, [(4, .int (-3)), (0, .ref 25), (1, .int r), (2, .int f), (3, .int h)], [], _, 0, 0)) rfl ?_
    refine pm_go (g := (11, _, [.int (-3)], _, 0, 0)) rfl ?_
    refine pm_go (g := (12, _, [.int (-1), .int (-3)], _, 0, 0)) rfl ?_
    refine pm_brF (h := (15, [(4, .int (-3)), (0, .ref 25), (1, .int r), (2, .int f), (3, .int h)], [], hq g c1 c2 c3 c4 c5 c6 c7 c8 c9 c10 c11 c12 c13 c14 c15 c16 c17 c18 c19 c20 c21 c22 c23 c24 (hc25 mTy mTm mMn mFn mRn mTn mVn mLr mTr mFl mFm mFp mSc mMp mEn) (hc26 mPa) (hc27 mTo) (hc28 mOt) (hc29 mNa) (hc30 mRe) (hc31 mMa) (hc32 mMy) (hc33 mPm) (hc34 mFy) (hc35 mFa) (hc36 mFr) (hc37 mFo) (hc38 mRt) (hc39 mRm) (hc40 mTt) (hc41 mTi) (hc42 mPl) (hc43 mVr) (hc44 mVf) (hc45 mVc) (hc46 mAr) (hc47 mTc) (hc48 mFt) (hc49 mGo) dyn, 0, 0)) rfl ?_
    refine pm_go (g := (17, _, [.int (-3)], _, 0, 0)) rfl ?_
    refine pm_go (g := (19, _, [.int (-3), .int (-3)], _, 0, 0)) rfl ?_
    refine pm_brF (h := (22, [(4, .int (-3)), (0, .ref 25), (1, .int r), (2, .int f), (3, .int h)], [], hq g c1 c2 c3 c4 c5 c6 c7 c8 c9 c10 c11 c12 c13 c14 c15 c16 c17 c18 c19 c20 c21 c22 c23 c24 (hc25 mTy mTm mMn mFn mRn mTn mVn mLr mTr mFl mFm mFp mSc mMp mEn) (hc26 mPa) (hc27 mTo) (hc28 mOt) (hc29 mNa) (hc30 mRe) (hc31 mMa) (hc32 mMy) (hc33 mPm) (hc34 mFy) (hc35 mFa) (hc36 mFr) (hc37 mFo) (hc38 mRt) (hc39 mRm) (hc40 mTt) (hc41 mTi) (hc42 mPl) (hc43 mVr) (hc44 mVf) (hc45 mVc) (hc46 mAr) (hc47 mTc) (hc48 mFt) (hc49 mGo) dyn, 0, 0)) rfl ?_
    refine pm_go (g := (24, _, [.int (-3)], _, 0, 0)) rfl ?_
    refine pm_go (g := (31, _, [.int (-3)], _, 0, 0)) rfl ?_
    first | exact pm_ret rfl (k0 (by assumption)) | exact pm_ret rfl (k1 (by assumption) (by assumption)) | exact pm_ret rfl (k2 _ _ _ _ (by assumption) (by assumption) (by assumption) (by assumption) (by assumption)) | (exfalso; omega)
  show pm_WP 167 (7, [(0, .ref 25), (1, .int r), (2, .int f), (3, .int h)], [.int v8_r9], hq g c1 c2 c3 c4 c5 c6 c7 c8 c9 c10 c11 c12 c13 c14 c15 c16 c17 c18 c19 c20 c21 c22 c23 c24 (hc25 mTy mTm mMn mFn mRn mTn mVn mLr mTr mFl v8_m9 v8_p9 mSc mMp mEn) (hc26 mPa) (hc27 mTo) (hc28 mOt) (hc29 mNa) (hc30 mRe) (hc31 mMa) (hc32 mMy) (hc33 mPm) (hc34 mFy) (hc35 mFa) (hc36 mFr) (hc37 mFo) (hc38 mRt) (hc39 mRm) (hc40 mTt) (hc41 mTi) (hc42 mPl) (hc43 mVr) (hc44 mVf) (hc45 mVc) (hc46 mAr) (hc47 mTc) (hc48 v8_f9) (hc49 mGo) dyn, 0, 0) _
  refine pm_go (g := (9, [(4, .int v8_r9), (0, .ref 25), (1, .int r), (2, .int f), (3, .int h)], [], _, 0, 0)) rfl ?_
  refine pm_go (g := (11, _, [.int v8_r9], _, 0, 0)) rfl ?_
  refine pm_go (g := (12, _, [.int (-1), .int v8_r9], _, 0, 0)) rfl ?_
  refine pm_if2 (g := (22, [(4, .int v8_r9), (0, .ref 25), (1, .int r), (2, .int f), (3, .int h)], [], hq g c1 c2 c3 c4 c5 c6 c7 c8 c9 c10 c11 c12 c13 c14 c15 c16 c17 c18 c19 c20 c21 c22 c23 c24 (hc25 mTy mTm mMn mFn mRn mTn mVn mLr mTr mFl v8_m9 v8_p9 mSc mMp mEn) (hc26 mPa) (hc27 mTo) (hc28 mOt) (hc29 mNa) (hc30 mRe) (hc31 mMa) (hc32 mMy) (hc33 mPm) (hc34 mFy) (hc35 mFa) (hc36 mFr) (hc37 mFo) (hc38 mRt) (hc39 mRm) (hc40 mTt) (hc41 mTi) (hc42 mPl) (hc43 mVr) (hc44 mVf) (hc45 mVc) (hc46 mAr) (hc47 mTc) (hc48 v8_f9) (hc49 mGo) dyn, 0, 0)) (h := (15, [(4, .int v8_r9), (0, .ref 25), (1, .int r), (2, .int f), (3, .int h)], [], hq g c1 c2 c3 c4 c5 c6 c7 c8 c9 c10 c11 c12 c13 c14 c15 c16 c17 c18 c19 c20 c21 c22 c23 c24 (hc25 mTy mTm mMn mFn mRn mTn mVn mLr mTr mFl v8_m9 v8_p9 mSc mMp mEn) (hc26 mPa) (hc27 mTo) (hc28 mOt) (hc29 mNa) (hc30 mRe) (hc31 mMa) (hc32 mMy) (hc33 mPm) (hc34 mFy) (hc35 mFa) (hc36 mFr) (hc37 mFo) (hc38 mRt) (hc39 mRm) (hc40 mTt) (hc41 mTi) (hc42 mPl) (hc43 mVr) (hc44 mVf) (hc45 mVc) (hc46 mAr) (hc47 mTc) (hc48 v8_f9) (hc49 mGo) dyn, 0, 0)) rfl (fun h10 => ?_) (fun h10 => ?_)
  ·
    have h10 := qT_eq (cx := (v8_r9).toInt) (cy := (-1)) rfl (by decide) h10
    refine pm_go (g := (24, _, [.int v8_r9], _, 0, 0)) rfl ?_
    refine pm_go (g := (31, _, [.int v8_r9], _, 0, 0)) rfl ?_
    first | exact pm_ret rfl (k0 (by assumption)) | exact pm_ret rfl (k1 (by assumption) (by assumption)) | exact pm_ret rfl (k2 _ _ _ _ (by assumption) (by assumption) (by assumption) (by assumption) (by assumption)) | (exfalso; omega)
  have h10 := qF_eq (cx := (v8_r9).toInt) (cy := (-1)) rfl (by decide) h10
  refine pm_go (g := (17, _, [.int v8_r9], _, 0, 0)) rfl ?_
  refine pm_go (g := (19, _, [.int (-3), .int v8_r9], _, 0, 0)) rfl ?_
  refine pm_if2 (g := (27, [(4, .int v8_r9), (0, .ref 25), (1, .int r), (2, .int f), (3, .int h)], [], hq g c1 c2 c3 c4 c5 c6 c7 c8 c9 c10 c11 c12 c13 c14 c15 c16 c17 c18 c19 c20 c21 c22 c23 c24 (hc25 mTy mTm mMn mFn mRn mTn mVn mLr mTr mFl v8_m9 v8_p9 mSc mMp mEn) (hc26 mPa) (hc27 mTo) (hc28 mOt) (hc29 mNa) (hc30 mRe) (hc31 mMa) (hc32 mMy) (hc33 mPm) (hc34 mFy) (hc35 mFa) (hc36 mFr) (hc37 mFo) (hc38 mRt) (hc39 mRm) (hc40 mTt) (hc41 mTi) (hc42 mPl) (hc43 mVr) (hc44 mVf) (hc45 mVc) (hc46 mAr) (hc47 mTc) (hc48 v8_f9) (hc49 mGo) dyn, 0, 0)) (h := (22, [(4, .int v8_r9), (0, .ref 25), (1, .int r), (2, .int f), (3, .int h)], [], hq g c1 c2 c3 c4 c5 c6 c7 c8 c9 c10 c11 c12 c13 c14 c15 c16 c17 c18 c19 c20 c21 c22 c23 c24 (hc25 mTy mTm mMn mFn mRn mTn mVn mLr mTr mFl v8_m9 v8_p9 mSc mMp mEn) (hc26 mPa) (hc27 mTo) (hc28 mOt) (hc29 mNa) (hc30 mRe) (hc31 mMa) (hc32 mMy) (hc33 mPm) (hc34 mFy) (hc35 mFa) (hc36 mFr) (hc37 mFo) (hc38 mRt) (hc39 mRm) (hc40 mTt) (hc41 mTi) (hc42 mPl) (hc43 mVr) (hc44 mVf) (hc45 mVc) (hc46 mAr) (hc47 mTc) (hc48 v8_f9) (hc49 mGo) dyn, 0, 0)) rfl (fun h11 => ?_) (fun h11 => ?_)
  ·
    have h11 := qT_ne (cx := (v8_r9).toInt) (cy := (-3)) rfl (by decide) h11
    refine pm_go (g := (28, _, [.ref 25], _, 0, 0)) rfl ?_
    refine pm_go (g := (31, _, [.int v8_p9], _, 0, 0)) rfl ?_
    first | exact pm_ret rfl (k0 (by assumption)) | exact pm_ret rfl (k1 (by assumption) (by assumption)) | exact pm_ret rfl (k2 _ _ _ _ (by assumption) (by assumption) (by assumption) (by assumption) (by assumption)) | (exfalso; omega)
  have h11 := qF_ne (cx := (v8_r9).toInt) (cy := (-3)) rfl (by decide) h11
  refine pm_go (g := (24, _, [.int v8_r9], _, 0, 0)) rfl ?_
  refine pm_go (g := (31, _, [.int v8_r9], _, 0, 0)) rfl ?_
  first | exact pm_ret rfl (k0 (by assumption)) | exact pm_ret rfl (k1 (by assumption) (by assumption)) | exact pm_ret rfl (k2 _ _ _ _ (by assumption) (by assumption) (by assumption) (by assumption) (by assumption)) | (exfalso; omega)
/-- the j-th member is named by the reference -/
def exJ (pa ot na my pm : Nat → Int32) (mn fo t w : Int32) (j : Nat) : Prop := (fo.toInt = 3 ∧ (ot (nI j).toNatClampNeg).toInt = t.toInt ∧ (na (nI j).toNatClampNeg).toInt = 6) ∨ (fo.toInt ≠ 3 ∧ (na (nI j).toNatClampNeg).toInt = w.toInt ∧ ((fo.toInt = 2 ∧ hadM pa ot na my pm mn (pa t.toNatClampNeg) (nI j)) ∨ (fo.toInt ≠ 2 ∧ hadM pa ot na my pm mn t (nI j))))
/-- the reference's exact -/
def exM (pa ot na my pm ma : Nat → Int32) (mn fo t w : Int32) : Prop := (∀ j : Nat, (j : Int) < mn.toInt → exJ pa ot na my pm mn fo t w j → (ma (nI j).toNatClampNeg &&& 4).toInt = 0) ∧ ((∃ b : Nat, (b : Int) < mn.toInt ∧ exJ pa ot na my pm mn fo t w b ∧ ∀ j : Nat, (j : Int) < mn.toInt → exJ pa ot na my pm mn fo t w j → j = b) ∨ (fo.toInt = 3 ∧ ∀ j : Nat, (j : Int) < mn.toInt → ¬ exJ pa ot na my pm mn fo t w j))
theorem bs_1 {sp : Nat → Prop} {c b mn : Int32} {k : Nat} (h : bsM sp c b k) (hk : (k : Int) = mn.toInt) (hc : c.toInt = 1) : ∃ b : Nat, (b : Int) < mn.toInt ∧ sp b ∧ ∀ j : Nat, (j : Int) < mn.toInt → sp j → j = b := by
  rcases h with ⟨h, h2⟩ | ⟨h, i, h2, h3, h4, h5⟩ | ⟨h, h2, i, j, h3, h4, h5⟩
  · omega
  · exact ⟨i, by omega, h4, fun j q => h5 j (by omega)⟩
  · omega
theorem bs_z {sp : Nat → Prop} {c b mn : Int32} {k : Nat} (h : bsM sp c b k) (hk : (k : Int) = mn.toInt) (hc : c.toInt = 0) : ∀ j : Nat, (j : Int) < mn.toInt → ¬ sp j := by
  rcases h with ⟨h, h2⟩ | ⟨h, i, h2, h3, h4, h5⟩ | ⟨h, h2, i, j, h3, h4, h5⟩
  · exact fun j q => h2 j (by omega)
  · omega
  · omega
theorem bs_n1 {sp : Nat → Prop} {c b mn : Int32} {k : Nat} (h : bsM sp c b k) (hk : (k : Int) = mn.toInt) (hc : c.toInt ≠ 1) : ¬ ∃ b : Nat, (b : Int) < mn.toInt ∧ sp b ∧ ∀ j : Nat, (j : Int) < mn.toInt → sp j → j = b := by
  rintro ⟨x, q1, q2, q3⟩
  rcases h with ⟨h, h2⟩ | ⟨h, i, h2, h3, h4, h5⟩ | ⟨h, h2, i, j, h3, h4, h5, h6, h7⟩
  · exact h2 x (by omega) q2
  · omega
  · exact h5 ((q3 i (by omega) h6).trans (q3 j (by omega) h7).symm)
theorem bs_nz {sp : Nat → Prop} {c b mn : Int32} {k : Nat} (h : bsM sp c b k) (hk : (k : Int) = mn.toInt) (hc : c.toInt ≠ 0) : ¬ ∀ j : Nat, (j : Int) < mn.toInt → ¬ sp j := by
  intro q
  rcases h with ⟨h, h2⟩ | ⟨h, i, h2, h3, h4, h5⟩ | ⟨h, h2, i, j, h3, h4, h5, h6, h7⟩
  · omega
  · exact q i (by omega) h4
  · exact q i (by omega) h6
set_option maxRecDepth 100000 in
set_option maxHeartbeats 4000000 in
theorem w_exact_loop1 {g c1 c2 c3 c4 c5 c6 c7 c8 c9 c10 c11 c12 c13 c14 c15 c16 c17 c18 c19 c20 c21 c22 c23 c24 : pm_C} {dyn : pm_H} {mTy : Int32} {mPa : Nat → Int32} {mTo : Nat → Int32} {mTm : Int32} {mMn : Int32} {mOt : Nat → Int32} {mNa : Nat → Int32} {mRe : Nat → Int32} {mMa : Nat → Int32} {mMy : Nat → Int32} {mPm : Nat → Int32} {mFn : Int32} {mFy : Nat → Int32} {mFa : Nat → Int32} {mFr : Nat → Int32} {mRn : Int32} {mFo : Nat → Int32} {mRt : Nat → Int32} {mRm : Nat → Int32} {mTn : Int32} {mTt : Nat → Int32} {mTi : Nat → Int32} {mPl : Nat → Int32} {mVn : Int32} {mVr : Nat → Int32} {mVf : Nat → Int32} {mVc : Nat → Int32} {mAr : Nat → Int32} {mLr : Int32} {mTc : Nat → Int32} {mTr : Int32} {mFl : Int32} {mFt : Nat → Int32} {mFm : Int32} {mFp : Int32} {mSc : Int32} {mMp : Int32} {mEn : Int32} {mGo : Nat → Int32} {Q : pm_Q} (r : Int32) (hr : 0 ≤ r.toInt ∧ r.toInt < 30) (ht : (mFo r.toNatClampNeg).toInt = 2 → 0 ≤ (mRt r.toNatClampNeg).toInt ∧ (mRt r.toNatClampNeg).toInt < 10) (hp : paD mPa) (hy : myD mMy) (hn : 0 ≤ mMn.toInt ∧ mMn.toInt ≤ 40) : ∀ (n k : Nat) (c : Int32), (k ≤ 40) → (40 < k + n) → (0 ≤ c.toInt ∧ c.toInt ≤ k) → (Q (some (.int 0)) (hq g c1 c2 c3 c4 c5 c6 c7 c8 c9 c10 c11 c12 c13 c14 c15 c16 c17 c18 c19 c20 c21 c22 c23 c24 (hc25 mTy mTm mMn mFn mRn mTn mVn mLr mTr mFl mFm mFp mSc mMp mEn) (hc26 mPa) (hc27 mTo) (hc28 mOt) (hc29 mNa) (hc30 mRe) (hc31 mMa) (hc32 mMy) (hc33 mPm) (hc34 mFy) (hc35 mFa) (hc36 mFr) (hc37 mFo) (hc38 mRt) (hc39 mRm) (hc40 mTt) (hc41 mTi) (hc42 mPl) (hc43 mVr) (hc44 mVf) (hc45 mVc) (hc46 mAr) (hc47 mTc) (hc48 mFt) (hc49 mGo) dyn)) → pm_WP 168 (37, [(5, .int (nI k)), (4, .int 1), (3, .int c), (2, .int (mRt r.toNatClampNeg)), (0, .ref 25), (1, .int r)], [], hq g c1 c2 c3 c4 c5 c6 c7 c8 c9 c10 c11 c12 c13 c14 c15 c16 c17 c18 c19 c20 c21 c22 c23 c24 (hc25 mTy mTm mMn mFn mRn mTn mVn mLr mTr mFl mFm mFp mSc mMp mEn) (hc26 mPa) (hc27 mTo) (hc28 mOt) (hc29 mNa) (hc30 mRe) (hc31 mMa) (hc32 mMy) (hc33 mPm) (hc34 mFy) (hc35 mFa) (hc36 mFr) (hc37 mFo) (hc38 mRt) (hc39 mRm) (hc40 mTt) (hc41 mTi) (hc42 mPl) (hc43 mVr) (hc44 mVf) (hc45 mVc) (hc46 mAr) (hc47 mTc) (hc48 mFt) (hc49 mGo) dyn, 0, 0) Q := by
  intro n
  induction n with
  | zero =>
    intro k c g1 g2 g3 k0
    exfalso; omega
  | succ n ih =>
    intro k c g1 g2 g3 k0
    have hk := nI_toInt (n := k) (by omega)
    have hkc : (nI k).toNatClampNeg = k := nI_clamp (by omega)
    refine pm_go (g := (39, [(5, .int (nI k)), (4, .int 1), (3, .int c), (2, .int (mRt r.toNatClampNeg)), (0, .ref 25), (1, .int r)], [.int (nI k)], hq g c1 c2 c3 c4 c5 c6 c7 c8 c9 c10 c11 c12 c13 c14 c15 c16 c17 c18 c19 c20 c21 c22 c23 c24 (hc25 mTy mTm mMn mFn mRn mTn mVn mLr mTr mFl mFm mFp mSc mMp mEn) (hc26 mPa) (hc27 mTo) (hc28 mOt) (hc29 mNa) (hc30 mRe) (hc31 mMa) (hc32 mMy) (hc33 mPm) (hc34 mFy) (hc35 mFa) (hc36 mFr) (hc37 mFo) (hc38 mRt) (hc39 mRm) (hc40 mTt) (hc41 mTi) (hc42 mPl) (hc43 mVr) (hc44 mVf) (hc45 mVc) (hc46 mAr) (hc47 mTc) (hc48 mFt) (hc49 mGo) dyn, 0, 0)) rfl ?_
    refine pm_go (g := (40, _, [.ref 25, .int (nI k)], _, 0, 0)) rfl ?_
    refine pm_go (g := (43, _, [.int mMn, .int (nI k)], _, 0, 0)) rfl ?_
    refine pm_if2 (g := (185, [(5, .int (nI k)), (4, .int 1), (3, .int c), (2, .int (mRt r.toNatClampNeg)), (0, .ref 25), (1, .int r)], [], hq g c1 c2 c3 c4 c5 c6 c7 c8 c9 c10 c11 c12 c13 c14 c15 c16 c17 c18 c19 c20 c21 c22 c23 c24 (hc25 mTy mTm mMn mFn mRn mTn mVn mLr mTr mFl mFm mFp mSc mMp mEn) (hc26 mPa) (hc27 mTo) (hc28 mOt) (hc29 mNa) (hc30 mRe) (hc31 mMa) (hc32 mMy) (hc33 mPm) (hc34 mFy) (hc35 mFa) (hc36 mFr) (hc37 mFo) (hc38 mRt) (hc39 mRm) (hc40 mTt) (hc41 mTi) (hc42 mPl) (hc43 mVr) (hc44 mVf) (hc45 mVc) (hc46 mAr) (hc47 mTc) (hc48 mFt) (hc49 mGo) dyn, 0, 0)) (h := (46, [(5, .int (nI k)), (4, .int 1), (3, .int c), (2, .int (mRt r.toNatClampNeg)), (0, .ref 25), (1, .int r)], [], hq g c1 c2 c3 c4 c5 c6 c7 c8 c9 c10 c11 c12 c13 c14 c15 c16 c17 c18 c19 c20 c21 c22 c23 c24 (hc25 mTy mTm mMn mFn mRn mTn mVn mLr mTr mFl mFm mFp mSc mMp mEn) (hc26 mPa) (hc27 mTo) (hc28 mOt) (hc29 mNa) (hc30 mRe) (hc31 mMa) (hc32 mMy) (hc33 mPm) (hc34 mFy) (hc35 mFa) (hc36 mFr) (hc37 mFo) (hc38 mRt) (hc39 mRm) (hc40 mTt) (hc41 mTi) (hc42 mPl) (hc43 mVr) (hc44 mVf) (hc45 mVc) (hc46 mAr) (hc47 mTc) (hc48 mFt) (hc49 mGo) dyn, 0, 0)) rfl (fun h1 => ?_) (fun h1 => ?_)
    ·
      have h1 := qT_ge (cx := (nI k).toInt) (cy := (mMn).toInt) rfl rfl h1
      refine pm_go (g := (187, _, [.int 1], _, 0, 0)) rfl ?_
      refine pm_brT (g := (213, [(5, .int (nI k)), (4, .int 1), (3, .int c), (2, .int (mRt r.toNatClampNeg)), (0, .ref 25), (1, .int r)], [], hq g c1 c2 c3 c4 c5 c6 c7 c8 c9 c10 c11 c12 c13 c14 c15 c16 c17 c18 c19 c20 c21 c22 c23 c24 (hc25 mTy mTm mMn mFn mRn mTn mVn mLr mTr mFl mFm mFp mSc mMp mEn) (hc26 mPa) (hc27 mTo) (hc28 mOt) (hc29 mNa) (hc30 mRe) (hc31 mMa) (hc32 mMy) (hc33 mPm) (hc34 mFy) (hc35 mFa) (hc36 mFr) (hc37 mFo) (hc38 mRt) (hc39 mRm) (hc40 mTt) (hc41 mTi) (hc42 mPl) (hc43 mVr) (hc44 mVf) (hc45 mVc) (hc46 mAr) (hc47 mTc) (hc48 mFt) (hc49 mGo) dyn, 0, 0)) rfl ?_
      refine pm_go (g := (214, _, [.int 0], _, 0, 0)) rfl ?_
      exact pm_ret rfl k0
    have h1 := qF_ge (cx := (nI k).toInt) (cy := (mMn).toInt) rfl rfl h1
    refine pm_go (g := (47, _, [.ref 25], _, 0, 0)) rfl ?_
    refine pm_go (g := (50, _, [.ref 37], _, 0, 0)) rfl ?_
    refine pm_go (g := (51, _, [.int r, .ref 37], _, 0, 0)) rfl ?_
    refine pm_sd (g := (52, _, [.int (mFo (r).toNatClampNeg)], _, 0, 0)) rfl (pm_inI (by omega) (by omega)) ?_
    refine pm_go (g := (53, _, [.int 3, .int (mFo (r).toNatClampNeg)], _, 0, 0)) rfl ?_
    refine pm_if2 (g := (87, [(5, .int (nI k)), (4, .int 1), (3, .int c), (2, .int (mRt r.toNatClampNeg)), (0, .ref 25), (1, .int r)], [], hq g c1 c2 c3 c4 c5 c6 c7 c8 c9 c10 c11 c12 c13 c14 c15 c16 c17 c18 c19 c20 c21 c22 c23 c24 (hc25 mTy mTm mMn mFn mRn mTn mVn mLr mTr mFl mFm mFp mSc mMp mEn) (hc26 mPa) (hc27 mTo) (hc28 mOt) (hc29 mNa) (hc30 mRe) (hc31 mMa) (hc32 mMy) (hc33 mPm) (hc34 mFy) (hc35 mFa) (hc36 mFr) (hc37 mFo) (hc38 mRt) (hc39 mRm) (hc40 mTt) (hc41 mTi) (hc42 mPl) (hc43 mVr) (hc44 mVf) (hc45 mVc) (hc46 mAr) (hc47 mTc) (hc48 mFt) (hc49 mGo) dyn, 0, 0)) (h := (56, [(5, .int (nI k)), (4, .int 1), (3, .int c), (2, .int (mRt r.toNatClampNeg)), (0, .ref 25), (1, .int r)], [], hq g c1 c2 c3 c4 c5 c6 c7 c8 c9 c10 c11 c12 c13 c14 c15 c16 c17 c18 c19 c20 c21 c22 c23 c24 (hc25 mTy mTm mMn mFn mRn mTn mVn mLr mTr mFl mFm mFp mSc mMp mEn) (hc26 mPa) (hc27 mTo) (hc28 mOt) (hc29 mNa) (hc30 mRe) (hc31 mMa) (hc32 mMy) (hc33 mPm) (hc34 mFy) (hc35 mFa) (hc36 mFr) (hc37 mFo) (hc38 mRt) (hc39 mRm) (hc40 mTt) (hc41 mTi) (hc42 mPl) (hc43 mVr) (hc44 mVf) (hc45 mVc) (hc46 mAr) (hc47 mTc) (hc48 mFt) (hc49 mGo) dyn, 0, 0)) rfl (fun h2 => ?_) (fun h2 => ?_)
    ·
      have h2 := qT_ne (cx := (mFo (r).toNatClampNeg).toInt) (cy := 3) rfl (by decide) h2
      refine pm_go (g := (88, _, [.ref 25], _, 0, 0)) rfl ?_
      refine pm_go (g := (91, _, [.ref 29], _, 0, 0)) rfl ?_
      refine pm_go (g := (93, _, [.int (nI k), .ref 29], _, 0, 0)) rfl ?_
      refine pm_sd (g := (94, _, [.int (mNa (nI k).toNatClampNeg)], _, 0, 0)) rfl (pm_inI (by omega) (by omega)) ?_
      refine pm_go (g := (95, _, [.ref 25, .int (mNa (nI k).toNatClampNeg)], _, 0, 0)) rfl ?_
      refine pm_go (g := (98, _, [.ref 39, .int (mNa (nI k).toNatClampNeg)], _, 0, 0)) rfl ?_
      refine pm_go (g := (99, _, [.int r, .ref 39, .int (mNa (nI k).toNatClampNeg)], _, 0, 0)) rfl ?_
      refine pm_sd (g := (100, _, [.int (mRm (r).toNatClampNeg), .int (mNa (nI k).toNatClampNeg)], _, 0, 0)) rfl (pm_inI (by omega) (by omega)) ?_
      refine pm_if2 (g := (136, [(5, .int (nI k)), (4, .int 1), (3, .int c), (2, .int (mRt r.toNatClampNeg)), (0, .ref 25), (1, .int r)], [], hq g c1 c2 c3 c4 c5 c6 c7 c8 c9 c10 c11 c12 c13 c14 c15 c16 c17 c18 c19 c20 c21 c22 c23 c24 (hc25 mTy mTm mMn mFn mRn mTn mVn mLr mTr mFl mFm mFp mSc mMp mEn) (hc26 mPa) (hc27 mTo) (hc28 mOt) (hc29 mNa) (hc30 mRe) (hc31 mMa) (hc32 mMy) (hc33 mPm) (hc34 mFy) (hc35 mFa) (hc36 mFr) (hc37 mFo) (hc38 mRt) (hc39 mRm) (hc40 mTt) (hc41 mTi) (hc42 mPl) (hc43 mVr) (hc44 mVf) (hc45 mVc) (hc46 mAr) (hc47 mTc) (hc48 mFt) (hc49 mGo) dyn, 0, 0)) (h := (103, [(5, .int (nI k)), (4, .int 1), (3, .int c), (2, .int (mRt r.toNatClampNeg)), (0, .ref 25), (1, .int r)], [], hq g c1 c2 c3 c4 c5 c6 c7 c8 c9 c10 c11 c12 c13 c14 c15 c16 c17 c18 c19 c20 c21 c22 c23 c24 (hc25 mTy mTm mMn mFn mRn mTn mVn mLr mTr mFl mFm mFp mSc mMp mEn) (hc26 mPa) (hc27 mTo) (hc28 mOt) (hc29 mNa) (hc30 mRe) (hc31 mMa) (hc32 mMy) (hc33 mPm) (hc34 mFy) (hc35 mFa) (hc36 mFr) (hc37 mFo) (hc38 mRt) (hc39 mRm) (hc40 mTt) (hc41 mTi) (hc42 mPl) (hc43 mVr) (hc44 mVf) (hc45 mVc) (hc46 mAr) (hc47 mTc) (hc48 mFt) (hc49 mGo) dyn, 0, 0)) rfl (fun h3 => ?_) (fun h3 => ?_)
      ·
        have h3 := qT_ne (cx := (mNa (nI k).toNatClampNeg).toInt) (cy := (mRm (r).toNatClampNeg).toInt) rfl rfl h3
        refine pm_go (g := (137, _, [.int 0], _, 0, 0)) rfl ?_
        refine pm_go (g := (139, [(6, .int 0), (5, .int (nI k)), (4, .int 1), (3, .int c), (2, .int (mRt r.toNatClampNeg)), (0, .ref 25), (1, .int r)], [], _, 0, 0)) rfl ?_
        refine pm_go (g := (140, _, [.int c], _, 0, 0)) rfl ?_
        refine pm_go (g := (142, _, [.int 0, .int c], _, 0, 0)) rfl ?_
        refine pm_brT (g := (149, [(6, .int 0), (5, .int (nI k)), (4, .int 1), (3, .int c), (2, .int (mRt r.toNatClampNeg)), (0, .ref 25), (1, .int r)], [.int c], hq g c1 c2 c3 c4 c5 c6 c7 c8 c9 c10 c11 c12 c13 c14 c15 c16 c17 c18 c19 c20 c21 c22 c23 c24 (hc25 mTy mTm mMn mFn mRn mTn mVn mLr mTr mFl mFm mFp mSc mMp mEn) (hc26 mPa) (hc27 mTo) (hc28 mOt) (hc29 mNa) (hc30 mRe) (hc31 mMa) (hc32 mMy) (hc33 mPm) (hc34 mFy) (hc35 mFa) (hc36 mFr) (hc37 mFo) (hc38 mRt) (hc39 mRm) (hc40 mTt) (hc41 mTi) (hc42 mPl) (hc43 mVr) (hc44 mVf) (hc45 mVc) (hc46 mAr) (hc47 mTc) (hc48 mFt) (hc49 mGo) dyn, 0, 0)) rfl ?_
        refine pm_go (g := (150, _, [.int 0, .int c], _, 0, 0)) rfl ?_
        refine pm_go (g := (151, _, [.int (c + 0)], _, 0, 0)) rfl ?_
        try have h4 : (c + 0).toInt = (c).toInt + 0 := iAdd (x := (c).toInt) (y := 0) rfl (by decide) (by omega) (by omega)
        refine pm_go (g := (152, [(3, .int (c + 0)), (6, .int 0), (5, .int (nI k)), (4, .int 1), (2, .int (mRt r.toNatClampNeg)), (0, .ref 25), (1, .int r)], [], _, 0, 0)) rfl ?_
        refine pm_go (g := (154, _, [.int 1], _, 0, 0)) rfl ?_
        refine pm_brT (g := (172, [(3, .int (c + 0)), (6, .int 0), (5, .int (nI k)), (4, .int 1), (2, .int (mRt r.toNatClampNeg)), (0, .ref 25), (1, .int r)], [], hq g c1 c2 c3 c4 c5 c6 c7 c8 c9 c10 c11 c12 c13 c14 c15 c16 c17 c18 c19 c20 c21 c22 c23 c24 (hc25 mTy mTm mMn mFn mRn mTn mVn mLr mTr mFl mFm mFp mSc mMp mEn) (hc26 mPa) (hc27 mTo) (hc28 mOt) (hc29 mNa) (hc30 mRe) (hc31 mMa) (hc32 mMy) (hc33 mPm) (hc34 mFy) (hc35 mFa) (hc36 mFr) (hc37 mFo) (hc38 mRt) (hc39 mRm) (hc40 mTt) (hc41 mTi) (hc42 mPl) (hc43 mVr) (hc44 mVf) (hc45 mVc) (hc46 mAr) (hc47 mTc) (hc48 mFt) (hc49 mGo) dyn, 0, 0)) rfl ?_
        refine pm_go (g := (173, _, [.int 1], _, 0, 0)) rfl ?_
        refine pm_go (g := (177, _, [.int 1], _, 0, 0)) rfl ?_
        refine pm_go (g := (179, [(4, .int 1), (3, .int (c + 0)), (6, .int 0), (5, .int (nI k)), (2, .int (mRt r.toNatClampNeg)), (0, .ref 25), (1, .int r)], [], _, 0, 0)) rfl ?_
        refine pm_go (g := (182, [(5, .int ((nI k) + 1)), (4, .int 1), (3, .int (c + 0)), (6, .int 0), (2, .int (mRt r.toNatClampNeg)), (0, .ref 25), (1, .int r)], [], _, 0, 0)) rfl ?_
        refine pm_go (g := (37, _, [], _, 0, 0)) rfl ?_
        refine pm_sub (lv := [(5, .int ((nI k) + 1)), (4, .int 1), (3, .int (c + 0)), (2, .int (mRt r.toNatClampNeg)), (0, .ref 25), (1, .int r)]) ?_ ⟨le_c (List.Mem.head _) (le_c (List.Mem.tail _ (List.Mem.head _)) (le_c (List.Mem.tail _ (List.Mem.tail _ (List.Mem.head _))) (le_c (List.Mem.tail _ (List.Mem.tail _ (List.Mem.tail _ (List.Mem.tail _ (List.Mem.head _))))) (le_c (List.Mem.tail _ (List.Mem.tail _ (List.Mem.tail _ (List.Mem.tail _ (List.Mem.tail _ (List.Mem.head _)))))) (le_c (List.Mem.tail _ (List.Mem.tail _ (List.Mem.tail _ (List.Mem.tail _ (List.Mem.tail _ (List.Mem.tail _ (List.Mem.head _))))))) le_n))))), (show ([5, 4, 3, 6, 2, 0, 1] : List Nat).Nodup by decide)⟩
        rw [nI_1]
        exact ih (k + 1) (c + 0) (by omega) (by omega) (by omega) k0
      have h3 := qF_ne (cx := (mNa (nI k).toNatClampNeg).toInt) (cy := (mRm (r).toNatClampNeg).toInt) rfl rfl h3
      refine pm_go (g := (104, [(5, .int (nI k)), (4, .int 1), (3, .int c), (2, .int (mRt r.toNatClampNeg)), (0, .ref 25), (1, .int r)], [.ref 25], _, 0, 0)) rfl ?_
      refine pm_go (g := (105, _, [.ref 25, .ref 25], _, 0, 0)) rfl ?_
      refine pm_go (g := (108, _, [.ref 37, .ref 25], _, 0, 0)) rfl ?_
      refine pm_go (g := (109, _, [.int r, .ref 37, .ref 25], _, 0, 0)) rfl ?_
      refine pm_sd (g := (110, _, [.int (mFo (r).toNatClampNeg), .ref 25], _, 0, 0)) rfl (pm_inI (by omega) (by omega)) ?_
      refine pm_go (g := (111, _, [.int 2, .int (mFo (r).toNatClampNeg), .ref 25], _, 0, 0)) rfl ?_
      refine pm_if2 (g := (123, [(5, .int (nI k)), (4, .int 1), (3, .int c), (2, .int (mRt r.toNatClampNeg)), (0, .ref 25), (1, .int r)], [.ref 25], hq g c1 c2 c3 c4 c5 c6 c7 c8 c9 c10 c11 c12 c13 c14 c15 c16 c17 c18 c19 c20 c21 c22 c23 c24 (hc25 mTy mTm mMn mFn mRn mTn mVn mLr mTr mFl mFm mFp mSc mMp mEn) (hc26 mPa) (hc27 mTo) (hc28 mOt) (hc29 mNa) (hc30 mRe) (hc31 mMa) (hc32 mMy) (hc33 mPm) (hc34 mFy) (hc35 mFa) (hc36 mFr) (hc37 mFo) (hc38 mRt) (hc39 mRm) (hc40 mTt) (hc41 mTi) (hc42 mPl) (hc43 mVr) (hc44 mVf) (hc45 mVc) (hc46 mAr) (hc47 mTc) (hc48 mFt) (hc49 mGo) dyn, 0, 0)) (h := (114, [(5, .int (nI k)), (4, .int 1), (3, .int c), (2, .int (mRt r.toNatClampNeg)), (0, .ref 25), (1, .int r)], [.ref 25], hq g c1 c2 c3 c4 c5 c6 c7 c8 c9 c10 c11 c12 c13 c14 c15 c16 c17 c18 c19 c20 c21 c22 c23 c24 (hc25 mTy mTm mMn mFn mRn mTn mVn mLr mTr mFl mFm mFp mSc mMp mEn) (hc26 mPa) (hc27 mTo) (hc28 mOt) (hc29 mNa) (hc30 mRe) (hc31 mMa) (hc32 mMy) (hc33 mPm) (hc34 mFy) (hc35 mFa) (hc36 mFr) (hc37 mFo) (hc38 mRt) (hc39 mRm) (hc40 mTt) (hc41 mTi) (hc42 mPl) (hc43 mVr) (hc44 mVf) (hc45 mVc) (hc46 mAr) (hc47 mTc) (hc48 mFt) (hc49 mGo) dyn, 0, 0)) rfl (fun h5 => ?_) (fun h5 => ?_)
      ·
        have h5 := qT_ne (cx := (mFo (r).toNatClampNeg).toInt) (cy := 2) rfl (by decide) h5
        refine pm_go (g := (124, _, [.int (mRt r.toNatClampNeg), .ref 25], _, 0, 0)) rfl ?_
        refine pm_go (g := (126, _, [.int (nI k), .int (mRt r.toNatClampNeg), .ref 25], _, 0, 0)) rfl ?_
        refine pm_callD (z := 143) (as := [.ref 25, .int (mRt r.toNatClampNeg), .int (nI k)]) (rest := []) rfl ?_
        refine w_X12_isHad (mRt r.toNatClampNeg) (nI k) (by omega) (by assumption) (by assumption) (by omega) (fun h6 => ?_) (fun h7 => ?_)
        ·
          show pm_WP 168 (129, [(5, .int (nI k)), (4, .int 1), (3, .int c), (2, .int (mRt r.toNatClampNeg)), (0, .ref 25), (1, .int r)], [.int 1], _, 0, 0) _
          refine pm_brF (h := (132, [(5, .int (nI k)), (4, .int 1), (3, .int c), (2, .int (mRt r.toNatClampNeg)), (0, .ref 25), (1, .int r)], [], hq g c1 c2 c3 c4 c5 c6 c7 c8 c9 c10 c11 c12 c13 c14 c15 c16 c17 c18 c19 c20 c21 c22 c23 c24 (hc25 mTy mTm mMn mFn mRn mTn mVn mLr mTr mFl mFm mFp mSc mMp mEn) (hc26 mPa) (hc27 mTo) (hc28 mOt) (hc29 mNa) (hc30 mRe) (hc31 mMa) (hc32 mMy) (hc33 mPm) (hc34 mFy) (hc35 mFa) (hc36 mFr) (hc37 mFo) (hc38 mRt) (hc39 mRm) (hc40 mTt) (hc41 mTi) (hc42 mPl) (hc43 mVr) (hc44 mVf) (hc45 mVc) (hc46 mAr) (hc47 mTc) (hc48 mFt) (hc49 mGo) dyn, 0, 0)) rfl ?_
          refine pm_go (g := (133, _, [.int 1], _, 0, 0)) rfl ?_
          refine pm_go (g := (137, _, [.int 1], _, 0, 0)) rfl ?_
          refine pm_go (g := (139, [(6, .int 1), (5, .int (nI k)), (4, .int 1), (3, .int c), (2, .int (mRt r.toNatClampNeg)), (0, .ref 25), (1, .int r)], [], _, 0, 0)) rfl ?_
          refine pm_go (g := (140, _, [.int c], _, 0, 0)) rfl ?_
          refine pm_go (g := (142, _, [.int 1, .int c], _, 0, 0)) rfl ?_
          refine pm_brF (h := (145, [(6, .int 1), (5, .int (nI k)), (4, .int 1), (3, .int c), (2, .int (mRt r.toNatClampNeg)), (0, .ref 25), (1, .int r)], [.int c], hq g c1 c2 c3 c4 c5 c6 c7 c8 c9 c10 c11 c12 c13 c14 c15 c16 c17 c18 c19 c20 c21 c22 c23 c24 (hc25 mTy mTm mMn mFn mRn mTn mVn mLr mTr mFl mFm mFp mSc mMp mEn) (hc26 mPa) (hc27 mTo) (hc28 mOt) (hc29 mNa) (hc30 mRe) (hc31 mMa) (hc32 mMy) (hc33 mPm) (hc34 mFy) (hc35 mFa) (hc36 mFr) (hc37 mFo) (hc38 mRt) (hc39 mRm) (hc40 mTt) (hc41 mTi) (hc42 mPl) (hc43 mVr) (hc44 mVf) (hc45 mVc) (hc46 mAr) (hc47 mTc) (hc48 mFt) (hc49 mGo) dyn, 0, 0)) rfl ?_
          refine pm_go (g := (146, _, [.int 1, .int c], _, 0, 0)) rfl ?_
          refine pm_go (g := (150, _, [.int 1, .int c], _, 0, 0)) rfl ?_
          refine pm_go (g := (151, _, [.int (c + 1)], _, 0, 0)) rfl ?_
          try have h9 : (c + 1).toInt = (c).toInt + 1 := iAdd (x := (c).toInt) (y := 1) rfl (by decide) (by omega) (by omega)
          refine pm_go (g := (152, [(3, .int (c + 1)), (6, .int 1), (5, .int (nI k)), (4, .int 1), (2, .int (mRt r.toNatClampNeg)), (0, .ref 25), (1, .int r)], [], _, 0, 0)) rfl ?_
          refine pm_go (g := (154, _, [.int 1], _, 0, 0)) rfl ?_
          refine pm_brT (g := (172, [(3, .int (c + 1)), (6, .int 1), (5, .int (nI k)), (4, .int 1), (2, .int (mRt r.toNatClampNeg)), (0, .ref 25), (1, .int r)], [], hq g c1 c2 c3 c4 c5 c6 c7 c8 c9 c10 c11 c12 c13 c14 c15 c16 c17 c18 c19 c20 c21 c22 c23 c24 (hc25 mTy mTm mMn mFn mRn mTn mVn mLr mTr mFl mFm mFp mSc mMp mEn) (hc26 mPa) (hc27 mTo) (hc28 mOt) (hc29 mNa) (hc30 mRe) (hc31 mMa) (hc32 mMy) (hc33 mPm) (hc34 mFy) (hc35 mFa) (hc36 mFr) (hc37 mFo) (hc38 mRt) (hc39 mRm) (hc40 mTt) (hc41 mTi) (hc42 mPl) (hc43 mVr) (hc44 mVf) (hc45 mVc) (hc46 mAr) (hc47 mTc) (hc48 mFt) (hc49 mGo) dyn, 0, 0)) rfl ?_
          refine pm_go (g := (173, _, [.int 1], _, 0, 0)) rfl ?_
          refine pm_go (g := (177, _, [.int 1], _, 0, 0)) rfl ?_
          refine pm_go (g := (179, [(4, .int 1), (3, .int (c + 1)), (6, .int 1), (5, .int (nI k)), (2, .int (mRt r.toNatClampNeg)), (0, .ref 25), (1, .int r)], [], _, 0, 0)) rfl ?_
          refine pm_go (g := (182, [(5, .int ((nI k) + 1)), (4, .int 1), (3, .int (c + 1)), (6, .int 1), (2, .int (mRt r.toNatClampNeg)), (0, .ref 25), (1, .int r)], [], _, 0, 0)) rfl ?_
          refine pm_go (g := (37, _, [], _, 0, 0)) rfl ?_
          refine pm_sub (lv := [(5, .int ((nI k) + 1)), (4, .int 1), (3, .int (c + 1)), (2, .int (mRt r.toNatClampNeg)), (0, .ref 25), (1, .int r)]) ?_ ⟨le_c (List.Mem.head _) (le_c (List.Mem.tail _ (List.Mem.head _)) (le_c (List.Mem.tail _ (List.Mem.tail _ (List.Mem.head _))) (le_c (List.Mem.tail _ (List.Mem.tail _ (List.Mem.tail _ (List.Mem.tail _ (List.Mem.head _))))) (le_c (List.Mem.tail _ (List.Mem.tail _ (List.Mem.tail _ (List.Mem.tail _ (List.Mem.tail _ (List.Mem.head _)))))) (le_c (List.Mem.tail _ (List.Mem.tail _ (List.Mem.tail _ (List.Mem.tail _ (List.Mem.tail _ (List.Mem.tail _ (List.Mem.head _))))))) le_n))))), (show ([5, 4, 3, 6, 2, 0, 1] : List Nat).Nodup by decide)⟩
          rw [nI_1]
          exact ih (k + 1) (c + 1) (by omega) (by omega) (by omega) k0
        show pm_WP 168 (129, [(5, .int (nI k)), (4, .int 1), (3, .int c), (2, .int (mRt r.toNatClampNeg)), (0, .ref 25), (1, .int r)], [.int 0], hq g c1 c2 c3 c4 c5 c6 c7 c8 c9 c10 c11 c12 c13 c14 c15 c16 c17 c18 c19 c20 c21 c22 c23 c24 (hc25 mTy mTm mMn mFn mRn mTn mVn mLr mTr mFl mFm mFp mSc mMp mEn) (hc26 mPa) (hc27 mTo) (hc28 mOt) (hc29 mNa) (hc30 mRe) (hc31 mMa) (hc32 mMy) (hc33 mPm) (hc34 mFy) (hc35 mFa) (hc36 mFr) (hc37 mFo) (hc38 mRt) (hc39 mRm) (hc40 mTt) (hc41 mTi) (hc42 mPl) (hc43 mVr) (hc44 mVf) (hc45 mVc) (hc46 mAr) (hc47 mTc) (hc48 mFt) (hc49 mGo) dyn, 0, 0) _
        refine pm_brT (g := (136, [(5, .int (nI k)), (4, .int 1), (3, .int c), (2, .int (mRt r.toNatClampNeg)), (0, .ref 25), (1, .int r)], [], hq g c1 c2 c3 c4 c5 c6 c7 c8 c9 c10 c11 c12 c13 c14 c15 c16 c17 c18 c19 c20 c21 c22 c23 c24 (hc25 mTy mTm mMn mFn mRn mTn mVn mLr mTr mFl mFm mFp mSc mMp mEn) (hc26 mPa) (hc27 mTo) (hc28 mOt) (hc29 mNa) (hc30 mRe) (hc31 mMa) (hc32 mMy) (hc33 mPm) (hc34 mFy) (hc35 mFa) (hc36 mFr) (hc37 mFo) (hc38 mRt) (hc39 mRm) (hc40 mTt) (hc41 mTi) (hc42 mPl) (hc43 mVr) (hc44 mVf) (hc45 mVc) (hc46 mAr) (hc47 mTc) (hc48 mFt) (hc49 mGo) dyn, 0, 0)) rfl ?_
        refine pm_go (g := (137, _, [.int 0], _, 0, 0)) rfl ?_
        refine pm_go (g := (139, [(6, .int 0), (5, .int (nI k)), (4, .int 1), (3, .int c), (2, .int (mRt r.toNatClampNeg)), (0, .ref 25), (1, .int r)], [], _, 0, 0)) rfl ?_
        refine pm_go (g := (140, _, [.int c], _, 0, 0)) rfl ?_
        refine pm_go (g := (142, _, [.int 0, .int c], _, 0, 0)) rfl ?_
        refine pm_brT (g := (149, [(6, .int 0), (5, .int (nI k)), (4, .int 1), (3, .int c), (2, .int (mRt r.toNatClampNeg)), (0, .ref 25), (1, .int r)], [.int c], hq g c1 c2 c3 c4 c5 c6 c7 c8 c9 c10 c11 c12 c13 c14 c15 c16 c17 c18 c19 c20 c21 c22 c23 c24 (hc25 mTy mTm mMn mFn mRn mTn mVn mLr mTr mFl mFm mFp mSc mMp mEn) (hc26 mPa) (hc27 mTo) (hc28 mOt) (hc29 mNa) (hc30 mRe) (hc31 mMa) (hc32 mMy) (hc33 mPm) (hc34 mFy) (hc35 mFa) (hc36 mFr) (hc37 mFo) (hc38 mRt) (hc39 mRm) (hc40 mTt) (hc41 mTi) (hc42 mPl) (hc43 mVr) (hc44 mVf) (hc45 mVc) (hc46 mAr) (hc47 mTc) (hc48 mFt) (hc49 mGo) dyn, 0, 0)) rfl ?_
        refine pm_go (g := (150, _, [.int 0, .int c], _, 0, 0)) rfl ?_
        refine pm_go (g := (151, _, [.int (c + 0)], _, 0, 0)) rfl ?_
        try have h10 : (c + 0).toInt = (c).toInt + 0 := iAdd (x := (c).toInt) (y := 0) rfl (by decide) (by omega) (by omega)
        refine pm_go (g := (152, [(3, .int (c + 0)), (6, .int 0), (5, .int (nI k)), (4, .int 1), (2, .int (mRt r.toNatClampNeg)), (0, .ref 25), (1, .int r)], [], _, 0, 0)) rfl ?_
        refine pm_go (g := (154, _, [.int 1], _, 0, 0)) rfl ?_
        refine pm_brT (g := (172, [(3, .int (c + 0)), (6, .int 0), (5, .int (nI k)), (4, .int 1), (2, .int (mRt r.toNatClampNeg)), (0, .ref 25), (1, .int r)], [], hq g c1 c2 c3 c4 c5 c6 c7 c8 c9 c10 c11 c12 c13 c14 c15 c16 c17 c18 c19 c20 c21 c22 c23 c24 (hc25 mTy mTm mMn mFn mRn mTn mVn mLr mTr mFl mFm mFp mSc mMp mEn) (hc26 mPa) (hc27 mTo) (hc28 mOt) (hc29 mNa) (hc30 mRe) (hc31 mMa) (hc32 mMy) (hc33 mPm) (hc34 mFy) (hc35 mFa) (hc36 mFr) (hc37 mFo) (hc38 mRt) (hc39 mRm) (hc40 mTt) (hc41 mTi) (hc42 mPl) (hc43 mVr) (hc44 mVf) (hc45 mVc) (hc46 mAr) (hc47 mTc) (hc48 mFt) (hc49 mGo) dyn, 0, 0)) rfl ?_
        refine pm_go (g := (173, _, [.int 1], _, 0, 0)) rfl ?_
        refine pm_go (g := (177, _, [.int 1], _, 0, 0)) rfl ?_
        refine pm_go (g := (179, [(4, .int 1), (3, .int (c + 0)), (6, .int 0), (5, .int (nI k)), (2, .int (mRt r.toNatClampNeg)), (0, .ref 25), (1, .int r)], [], _, 0, 0)) rfl ?_
        refine pm_go (g := (182, [(5, .int ((nI k) + 1)), (4, .int 1), (3, .int (c + 0)), (6, .int 0), (2, .int (mRt r.toNatClampNeg)), (0, .ref 25), (1, .int r)], [], _, 0, 0)) rfl ?_
        refine pm_go (g := (37, _, [], _, 0, 0)) rfl ?_
        refine pm_sub (lv := [(5, .int ((nI k) + 1)), (4, .int 1), (3, .int (c + 0)), (2, .int (mRt r.toNatClampNeg)), (0, .ref 25), (1, .int r)]) ?_ ⟨le_c (List.Mem.head _) (le_c (List.Mem.tail _ (List.Mem.head _)) (le_c (List.Mem.tail _ (List.Mem.tail _ (List.Mem.head _))) (le_c (List.Mem.tail _ (List.Mem.tail _ (List.Mem.tail _ (List.Mem.tail _ (List.Mem.head _))))) (le_c (List.Mem.tail _ (List.Mem.tail _ (List.Mem.tail _ (List.Mem.tail _ (List.Mem.tail _ (List.Mem.head _)))))) (le_c (List.Mem.tail _ (List.Mem.tail _ (List.Mem.tail _ (List.Mem.tail _ (List.Mem.tail _ (List.Mem.tail _ (List.Mem.head _))))))) le_n))))), (show ([5, 4, 3, 6, 2, 0, 1] : List Nat).Nodup by decide)⟩
        rw [nI_1]
        exact ih (k + 1) (c + 0) (by omega) (by omega) (by omega) k0
      have h5 := qF_ne (cx := (mFo (r).toNatClampNeg).toInt) (cy := 2) rfl (by decide) h5
      refine pm_go (g := (115, [(5, .int (nI k)), (4, .int 1), (3, .int c), (2, .int (mRt r.toNatClampNeg)), (0, .ref 25), (1, .int r)], [.ref 25, .ref 25], _, 0, 0)) rfl ?_
      refine pm_go (g := (118, _, [.ref 26, .ref 25], _, 0, 0)) rfl ?_
      refine pm_go (g := (119, _, [.int (mRt r.toNatClampNeg), .ref 26, .ref 25], _, 0, 0)) rfl ?_
      refine pm_sd (g := (120, _, [.int (mPa (mRt r.toNatClampNeg).toNatClampNeg), .ref 25], _, 0, 0)) rfl (pm_inI (by omega) (by omega)) ?_
      refine pm_go (g := (124, _, [.int (mPa (mRt r.toNatClampNeg).toNatClampNeg), .ref 25], _, 0, 0)) rfl ?_
      refine pm_go (g := (126, _, [.int (nI k), .int (mPa (mRt r.toNatClampNeg).toNatClampNeg), .ref 25], _, 0, 0)) rfl ?_
      refine pm_callD (z := 143) (as := [.ref 25, .int (mPa (mRt r.toNatClampNeg).toNatClampNeg), .int (nI k)]) (rest := []) rfl ?_
      refine w_X12_isHad (mPa (mRt r.toNatClampNeg).toNatClampNeg) (nI k) (by omega) (by assumption) (by assumption) (by omega) (fun h11 => ?_) (fun h12 => ?_)
      ·
        show pm_WP 168 (129, [(5, .int (nI k)), (4, .int 1), (3, .int c), (2, .int (mRt r.toNatClampNeg)), (0, .ref 25), (1, .int r)], [.int 1], _, 0, 0) _
        refine pm_brF (h := (132, [(5, .int (nI k)), (4, .int 1), (3, .int c), (2, .int (mRt r.toNatClampNeg)), (0, .ref 25), (1, .int r)], [], hq g c1 c2 c3 c4 c5 c6 c7 c8 c9 c10 c11 c12 c13 c14 c15 c16 c17 c18 c19 c20 c21 c22 c23 c24 (hc25 mTy mTm mMn mFn mRn mTn mVn mLr mTr mFl mFm mFp mSc mMp mEn) (hc26 mPa) (hc27 mTo) (hc28 mOt) (hc29 mNa) (hc30 mRe) (hc31 mMa) (hc32 mMy) (hc33 mPm) (hc34 mFy) (hc35 mFa) (hc36 mFr) (hc37 mFo) (hc38 mRt) (hc39 mRm) (hc40 mTt) (hc41 mTi) (hc42 mPl) (hc43 mVr) (hc44 mVf) (hc45 mVc) (hc46 mAr) (hc47 mTc) (hc48 mFt) (hc49 mGo) dyn, 0, 0)) rfl ?_
        refine pm_go (g := (133, _, [.int 1], _, 0, 0)) rfl ?_
        refine pm_go (g := (137, _, [.int 1], _, 0, 0)) rfl ?_
        refine pm_go (g := (139, [(6, .int 1), (5, .int (nI k)), (4, .int 1), (3, .int c), (2, .int (mRt r.toNatClampNeg)), (0, .ref 25), (1, .int r)], [], _, 0, 0)) rfl ?_
        refine pm_go (g := (140, _, [.int c], _, 0, 0)) rfl ?_
        refine pm_go (g := (142, _, [.int 1, .int c], _, 0, 0)) rfl ?_
        refine pm_brF (h := (145, [(6, .int 1), (5, .int (nI k)), (4, .int 1), (3, .int c), (2, .int (mRt r.toNatClampNeg)), (0, .ref 25), (1, .int r)], [.int c], hq g c1 c2 c3 c4 c5 c6 c7 c8 c9 c10 c11 c12 c13 c14 c15 c16 c17 c18 c19 c20 c21 c22 c23 c24 (hc25 mTy mTm mMn mFn mRn mTn mVn mLr mTr mFl mFm mFp mSc mMp mEn) (hc26 mPa) (hc27 mTo) (hc28 mOt) (hc29 mNa) (hc30 mRe) (hc31 mMa) (hc32 mMy) (hc33 mPm) (hc34 mFy) (hc35 mFa) (hc36 mFr) (hc37 mFo) (hc38 mRt) (hc39 mRm) (hc40 mTt) (hc41 mTi) (hc42 mPl) (hc43 mVr) (hc44 mVf) (hc45 mVc) (hc46 mAr) (hc47 mTc) (hc48 mFt) (hc49 mGo) dyn, 0, 0)) rfl ?_
        refine pm_go (g := (146, _, [.int 1, .int c], _, 0, 0)) rfl ?_
        refine pm_go (g := (150, _, [.int 1, .int c], _, 0, 0)) rfl ?_
        refine pm_go (g := (151, _, [.int (c + 1)], _, 0, 0)) rfl ?_
        try have h14 : (c + 1).toInt = (c).toInt + 1 := iAdd (x := (c).toInt) (y := 1) rfl (by decide) (by omega) (by omega)
        refine pm_go (g := (152, [(3, .int (c + 1)), (6, .int 1), (5, .int (nI k)), (4, .int 1), (2, .int (mRt r.toNatClampNeg)), (0, .ref 25), (1, .int r)], [], _, 0, 0)) rfl ?_
        refine pm_go (g := (154, _, [.int 1], _, 0, 0)) rfl ?_
        refine pm_brT (g := (172, [(3, .int (c + 1)), (6, .int 1), (5, .int (nI k)), (4, .int 1), (2, .int (mRt r.toNatClampNeg)), (0, .ref 25), (1, .int r)], [], hq g c1 c2 c3 c4 c5 c6 c7 c8 c9 c10 c11 c12 c13 c14 c15 c16 c17 c18 c19 c20 c21 c22 c23 c24 (hc25 mTy mTm mMn mFn mRn mTn mVn mLr mTr mFl mFm mFp mSc mMp mEn) (hc26 mPa) (hc27 mTo) (hc28 mOt) (hc29 mNa) (hc30 mRe) (hc31 mMa) (hc32 mMy) (hc33 mPm) (hc34 mFy) (hc35 mFa) (hc36 mFr) (hc37 mFo) (hc38 mRt) (hc39 mRm) (hc40 mTt) (hc41 mTi) (hc42 mPl) (hc43 mVr) (hc44 mVf) (hc45 mVc) (hc46 mAr) (hc47 mTc) (hc48 mFt) (hc49 mGo) dyn, 0, 0)) rfl ?_
        refine pm_go (g := (173, _, [.int 1], _, 0, 0)) rfl ?_
        refine pm_go (g := (177, _, [.int 1], _, 0, 0)) rfl ?_
        refine pm_go (g := (179, [(4, .int 1), (3, .int (c + 1)), (6, .int 1), (5, .int (nI k)), (2, .int (mRt r.toNatClampNeg)), (0, .ref 25), (1, .int r)], [], _, 0, 0)) rfl ?_
        refine pm_go (g := (182, [(5, .int ((nI k) + 1)), (4, .int 1), (3, .int (c + 1)), (6, .int 1), (2, .int (mRt r.toNatClampNeg)), (0, .ref 25), (1, .int r)], [], _, 0, 0)) rfl ?_
        refine pm_go (g := (37, _, [], _, 0, 0)) rfl ?_
        refine pm_sub (lv := [(5, .int ((nI k) + 1)), (4, .int 1), (3, .int (c + 1)), (2, .int (mRt r.toNatClampNeg)), (0, .ref 25), (1, .int r)]) ?_ ⟨le_c (List.Mem.head _) (le_c (List.Mem.tail _ (List.Mem.head _)) (le_c (List.Mem.tail _ (List.Mem.tail _ (List.Mem.head _))) (le_c (List.Mem.tail _ (List.Mem.tail _ (List.Mem.tail _ (List.Mem.tail _ (List.Mem.head _))))) (le_c (List.Mem.tail _ (List.Mem.tail _ (List.Mem.tail _ (List.Mem.tail _ (List.Mem.tail _ (List.Mem.head _)))))) (le_c (List.Mem.tail _ (List.Mem.tail _ (List.Mem.tail _ (List.Mem.tail _ (List.Mem.tail _ (List.Mem.tail _ (List.Mem.head _))))))) le_n))))), (show ([5, 4, 3, 6, 2, 0, 1] : List Nat).Nodup by decide)⟩
        rw [nI_1]
        exact ih (k + 1) (c + 1) (by omega) (by omega) (by omega) k0
      show pm_WP 168 (129, [(5, .int (nI k)), (4, .int 1), (3, .int c), (2, .int (mRt r.toNatClampNeg)), (0, .ref 25), (1, .int r)], [.int 0], hq g c1 c2 c3 c4 c5 c6 c7 c8 c9 c10 c11 c12 c13 c14 c15 c16 c17 c18 c19 c20 c21 c22 c23 c24 (hc25 mTy mTm mMn mFn mRn mTn mVn mLr mTr mFl mFm mFp mSc mMp mEn) (hc26 mPa) (hc27 mTo) (hc28 mOt) (hc29 mNa) (hc30 mRe) (hc31 mMa) (hc32 mMy) (hc33 mPm) (hc34 mFy) (hc35 mFa) (hc36 mFr) (hc37 mFo) (hc38 mRt) (hc39 mRm) (hc40 mTt) (hc41 mTi) (hc42 mPl) (hc43 mVr) (hc44 mVf) (hc45 mVc) (hc46 mAr) (hc47 mTc) (hc48 mFt) (hc49 mGo) dyn, 0, 0) _
      refine pm_brT (g := (136, [(5, .int (nI k)), (4, .int 1), (3, .int c), (2, .int (mRt r.toNatClampNeg)), (0, .ref 25), (1, .int r)], [], hq g c1 c2 c3 c4 c5 c6 c7 c8 c9 c10 c11 c12 c13 c14 c15 c16 c17 c18 c19 c20 c21 c22 c23 c24 (hc25 mTy mTm mMn mFn mRn mTn mVn mLr mTr mFl mFm mFp mSc mMp mEn) (hc26 mPa) (hc27 mTo) (hc28 mOt) (hc29 mNa) (hc30 mRe) (hc31 mMa) (hc32 mMy) (hc33 mPm) (hc34 mFy) (hc35 mFa) (hc36 mFr) (hc37 mFo) (hc38 mRt) (hc39 mRm) (hc40 mTt) (hc41 mTi) (hc42 mPl) (hc43 mVr) (hc44 mVf) (hc45 mVc) (hc46 mAr) (hc47 mTc) (hc48 mFt) (hc49 mGo) dyn, 0, 0)) rfl ?_
      refine pm_go (g := (137, _, [.int 0], _, 0, 0)) rfl ?_
      refine pm_go (g := (139, [(6, .int 0), (5, .int (nI k)), (4, .int 1), (3, .int c), (2, .int (mRt r.toNatClampNeg)), (0, .ref 25), (1, .int r)], [], _, 0, 0)) rfl ?_
      refine pm_go (g := (140, _, [.int c], _, 0, 0)) rfl ?_
      refine pm_go (g := (142, _, [.int 0, .int c], _, 0, 0)) rfl ?_
      refine pm_brT (g := (149, [(6, .int 0), (5, .int (nI k)), (4, .int 1), (3, .int c), (2, .int (mRt r.toNatClampNeg)), (0, .ref 25), (1, .int r)], [.int c], hq g c1 c2 c3 c4 c5 c6 c7 c8 c9 c10 c11 c12 c13 c14 c15 c16 c17 c18 c19 c20 c21 c22 c23 c24 (hc25 mTy mTm mMn mFn mRn mTn mVn mLr mTr mFl mFm mFp mSc mMp mEn) (hc26 mPa) (hc27 mTo) (hc28 mOt) (hc29 mNa) (hc30 mRe) (hc31 mMa) (hc32 mMy) (hc33 mPm) (hc34 mFy) (hc35 mFa) (hc36 mFr) (hc37 mFo) (hc38 mRt) (hc39 mRm) (hc40 mTt) (hc41 mTi) (hc42 mPl) (hc43 mVr) (hc44 mVf) (hc45 mVc) (hc46 mAr) (hc47 mTc) (hc48 mFt) (hc49 mGo) dyn, 0, 0)) rfl ?_
      refine pm_go (g := (150, _, [.int 0, .int c], _, 0, 0)) rfl ?_
      refine pm_go (g := (151, _, [.int (c + 0)], _, 0, 0)) rfl ?_
      try have h15 : (c + 0).toInt = (c).toInt + 0 := iAdd (x := (c).toInt) (y := 0) rfl (by decide) (by omega) (by omega)
      refine pm_go (g := (152, [(3, .int (c + 0)), (6, .int 0), (5, .int (nI k)), (4, .int 1), (2, .int (mRt r.toNatClampNeg)), (0, .ref 25), (1, .int r)], [], _, 0, 0)) rfl ?_
      refine pm_go (g := (154, _, [.int 1], _, 0, 0)) rfl ?_
      refine pm_brT (g := (172, [(3, .int (c + 0)), (6, .int 0), (5, .int (nI k)), (4, .int 1), (2, .int (mRt r.toNatClampNeg)), (0, .ref 25), (1, .int r)], [], hq g c1 c2 c3 c4 c5 c6 c7 c8 c9 c10 c11 c12 c13 c14 c15 c16 c17 c18 c19 c20 c21 c22 c23 c24 (hc25 mTy mTm mMn mFn mRn mTn mVn mLr mTr mFl mFm mFp mSc mMp mEn) (hc26 mPa) (hc27 mTo) (hc28 mOt) (hc29 mNa) (hc30 mRe) (hc31 mMa) (hc32 mMy) (hc33 mPm) (hc34 mFy) (hc35 mFa) (hc36 mFr) (hc37 mFo) (hc38 mRt) (hc39 mRm) (hc40 mTt) (hc41 mTi) (hc42 mPl) (hc43 mVr) (hc44 mVf) (hc45 mVc) (hc46 mAr) (hc47 mTc) (hc48 mFt) (hc49 mGo) dyn, 0, 0)) rfl ?_
      refine pm_go (g := (173, _, [.int 1], _, 0, 0)) rfl ?_
      refine pm_go (g := (177, _, [.int 1], _, 0, 0)) rfl ?_
      refine pm_go (g := (179, [(4, .int 1), (3, .int (c + 0)), (6, .int 0), (5, .int (nI k)), (2, .int (mRt r.toNatClampNeg)), (0, .ref 25), (1, .int r)], [], _, 0, 0)) rfl ?_
      refine pm_go (g := (182, [(5, .int ((nI k) + 1)), (4, .int 1), (3, .int (c + 0)), (6, .int 0), (2, .int (mRt r.toNatClampNeg)), (0, .ref 25), (1, .int r)], [], _, 0, 0)) rfl ?_
      refine pm_go (g := (37, _, [], _, 0, 0)) rfl ?_
      refine pm_sub (lv := [(5, .int ((nI k) + 1)), (4, .int 1), (3, .int (c + 0)), (2, .int (mRt r.toNatClampNeg)), (0, .ref 25), (1, .int r)]) ?_ ⟨le_c (List.Mem.head _) (le_c (List.Mem.tail _ (List.Mem.head _)) (le_c (List.Mem.tail _ (List.Mem.tail _ (List.Mem.head _))) (le_c (List.Mem.tail _ (List.Mem.tail _ (List.Mem.tail _ (List.Mem.tail _ (List.Mem.head _))))) (le_c (List.Mem.tail _ (List.Mem.tail _ (List.Mem.tail _ (List.Mem.tail _ (List.Mem.tail _ (List.Mem.head _)))))) (le_c (List.Mem.tail _ (List.Mem.tail _ (List.Mem.tail _ (List.Mem.tail _ (List.Mem.tail _ (List.Mem.tail _ (List.Mem.head _))))))) le_n))))), (show ([5, 4, 3, 6, 2, 0, 1] : List Nat).Nodup by decide)⟩
      rw [nI_1]
      exact ih (k + 1) (c + 0) (by omega) (by omega) (by omega) k0
    have h2 := qF_ne (cx := (mFo (r).toNatClampNeg).toInt) (cy := 3) rfl (by decide) h2
    refine pm_go (g := (57, [(5, .int (nI k)), (4, .int 1), (3, .int c), (2, .int (mRt r.toNatClampNeg)), (0, .ref 25), (1, .int r)], [.ref 25], _, 0, 0)) rfl ?_
    refine pm_go (g := (60, _, [.ref 28], _, 0, 0)) rfl ?_
    refine pm_go (g := (62, _, [.int (nI k), .ref 28], _, 0, 0)) rfl ?_
    refine pm_sd (g := (63, _, [.int (mOt (nI k).toNatClampNeg)], _, 0, 0)) rfl (pm_inI (by omega) (by omega)) ?_
    refine pm_go (g := (64, _, [.int (mRt r.toNatClampNeg), .int (mOt (nI k).toNatClampNeg)], _, 0, 0)) rfl ?_
    refine pm_if2 (g := (83, [(5, .int (nI k)), (4, .int 1), (3, .int c), (2, .int (mRt r.toNatClampNeg)), (0, .ref 25), (1, .int r)], [], hq g c1 c2 c3 c4 c5 c6 c7 c8 c9 c10 c11 c12 c13 c14 c15 c16 c17 c18 c19 c20 c21 c22 c23 c24 (hc25 mTy mTm mMn mFn mRn mTn mVn mLr mTr mFl mFm mFp mSc mMp mEn) (hc26 mPa) (hc27 mTo) (hc28 mOt) (hc29 mNa) (hc30 mRe) (hc31 mMa) (hc32 mMy) (hc33 mPm) (hc34 mFy) (hc35 mFa) (hc36 mFr) (hc37 mFo) (hc38 mRt) (hc39 mRm) (hc40 mTt) (hc41 mTi) (hc42 mPl) (hc43 mVr) (hc44 mVf) (hc45 mVc) (hc46 mAr) (hc47 mTc) (hc48 mFt) (hc49 mGo) dyn, 0, 0)) (h := (67, [(5, .int (nI k)), (4, .int 1), (3, .int c), (2, .int (mRt r.toNatClampNeg)), (0, .ref 25), (1, .int r)], [], hq g c1 c2 c3 c4 c5 c6 c7 c8 c9 c10 c11 c12 c13 c14 c15 c16 c17 c18 c19 c20 c21 c22 c23 c24 (hc25 mTy mTm mMn mFn mRn mTn mVn mLr mTr mFl mFm mFp mSc mMp mEn) (hc26 mPa) (hc27 mTo) (hc28 mOt) (hc29 mNa) (hc30 mRe) (hc31 mMa) (hc32 mMy) (hc33 mPm) (hc34 mFy) (hc35 mFa) (hc36 mFr) (hc37 mFo) (hc38 mRt) (hc39 mRm) (hc40 mTt) (hc41 mTi) (hc42 mPl) (hc43 mVr) (hc44 mVf) (hc45 mVc) (hc46 mAr) (hc47 mTc) (hc48 mFt) (hc49 mGo) dyn, 0, 0)) rfl (fun h16 => ?_) (fun h16 => ?_)
    ·
      have h16 := qT_ne (cx := (mOt (nI k).toNatClampNeg).toInt) (cy := (mRt r.toNatClampNeg).toInt) rfl rfl h16
      refine pm_go (g := (84, _, [.int 0], _, 0, 0)) rfl ?_
      refine pm_go (g := (137, _, [.int 0], _, 0, 0)) rfl ?_
      refine pm_go (g := (139, [(6, .int 0), (5, .int (nI k)), (4, .int 1), (3, .int c), (2, .int (mRt r.toNatClampNeg)), (0, .ref 25), (1, .int r)], [], _, 0, 0)) rfl ?_
      refine pm_go (g := (140, _, [.int c], _, 0, 0)) rfl ?_
      refine pm_go (g := (142, _, [.int 0, .int c], _, 0, 0)) rfl ?_
      refine pm_brT (g := (149, [(6, .int 0), (5, .int (nI k)), (4, .int 1), (3, .int c), (2, .int (mRt r.toNatClampNeg)), (0, .ref 25), (1, .int r)], [.int c], hq g c1 c2 c3 c4 c5 c6 c7 c8 c9 c10 c11 c12 c13 c14 c15 c16 c17 c18 c19 c20 c21 c22 c23 c24 (hc25 mTy mTm mMn mFn mRn mTn mVn mLr mTr mFl mFm mFp mSc mMp mEn) (hc26 mPa) (hc27 mTo) (hc28 mOt) (hc29 mNa) (hc30 mRe) (hc31 mMa) (hc32 mMy) (hc33 mPm) (hc34 mFy) (hc35 mFa) (hc36 mFr) (hc37 mFo) (hc38 mRt) (hc39 mRm) (hc40 mTt) (hc41 mTi) (hc42 mPl) (hc43 mVr) (hc44 mVf) (hc45 mVc) (hc46 mAr) (hc47 mTc) (hc48 mFt) (hc49 mGo) dyn, 0, 0)) rfl ?_
      refine pm_go (g := (150, _, [.int 0, .int c], _, 0, 0)) rfl ?_
      refine pm_go (g := (151, _, [.int (c + 0)], _, 0, 0)) rfl ?_
      try have h17 : (c + 0).toInt = (c).toInt + 0 := iAdd (x := (c).toInt) (y := 0) rfl (by decide) (by omega) (by omega)
      refine pm_go (g := (152, [(3, .int (c + 0)), (6, .int 0), (5, .int (nI k)), (4, .int 1), (2, .int (mRt r.toNatClampNeg)), (0, .ref 25), (1, .int r)], [], _, 0, 0)) rfl ?_
      refine pm_go (g := (154, _, [.int 1], _, 0, 0)) rfl ?_
      refine pm_brT (g := (172, [(3, .int (c + 0)), (6, .int 0), (5, .int (nI k)), (4, .int 1), (2, .int (mRt r.toNatClampNeg)), (0, .ref 25), (1, .int r)], [], hq g c1 c2 c3 c4 c5 c6 c7 c8 c9 c10 c11 c12 c13 c14 c15 c16 c17 c18 c19 c20 c21 c22 c23 c24 (hc25 mTy mTm mMn mFn mRn mTn mVn mLr mTr mFl mFm mFp mSc mMp mEn) (hc26 mPa) (hc27 mTo) (hc28 mOt) (hc29 mNa) (hc30 mRe) (hc31 mMa) (hc32 mMy) (hc33 mPm) (hc34 mFy) (hc35 mFa) (hc36 mFr) (hc37 mFo) (hc38 mRt) (hc39 mRm) (hc40 mTt) (hc41 mTi) (hc42 mPl) (hc43 mVr) (hc44 mVf) (hc45 mVc) (hc46 mAr) (hc47 mTc) (hc48 mFt) (hc49 mGo) dyn, 0, 0)) rfl ?_
      refine pm_go (g := (173, _, [.int 1], _, 0, 0)) rfl ?_
      refine pm_go (g := (177, _, [.int 1], _, 0, 0)) rfl ?_
      refine pm_go (g := (179, [(4, .int 1), (3, .int (c + 0)), (6, .int 0), (5, .int (nI k)), (2, .int (mRt r.toNatClampNeg)), (0, .ref 25), (1, .int r)], [], _, 0, 0)) rfl ?_
      refine pm_go (g := (182, [(5, .int ((nI k) + 1)), (4, .int 1), (3, .int (c + 0)), (6, .int 0), (2, .int (mRt r.toNatClampNeg)), (0, .ref 25), (1, .int r)], [], _, 0, 0)) rfl ?_
      refine pm_go (g := (37, _, [], _, 0, 0)) rfl ?_
      refine pm_sub (lv := [(5, .int ((nI k) + 1)), (4, .int 1), (3, .int (c + 0)), (2, .int (mRt r.toNatClampNeg)), (0, .ref 25), (1, .int r)]) ?_ ⟨le_c (List.Mem.head _) (le_c (List.Mem.tail _ (List.Mem.head _)) (le_c (List.Mem.tail _ (List.Mem.tail _ (List.Mem.head _))) (le_c (List.Mem.tail _ (List.Mem.tail _ (List.Mem.tail _ (List.Mem.tail _ (List.Mem.head _))))) (le_c (List.Mem.tail _ (List.Mem.tail _ (List.Mem.tail _ (List.Mem.tail _ (List.Mem.tail _ (List.Mem.head _)))))) (le_c (List.Mem.tail _ (List.Mem.tail _ (List.Mem.tail _ (List.Mem.tail _ (List.Mem.tail _ (List.Mem.tail _ (List.Mem.head _))))))) le_n))))), (show ([5, 4, 3, 6, 2, 0, 1] : List Nat).Nodup by decide)⟩
      rw [nI_1]
      exact ih (k + 1) (c + 0) (by omega) (by omega) (by omega) k0
    have h16 := qF_ne (cx := (mOt (nI k).toNatClampNeg).toInt) (cy := (mRt r.toNatClampNeg).toInt) rfl rfl h16
    refine pm_go (g := (68, [(5, .int (nI k)), (4, .int 1), (3, .int c), (2, .int (mRt r.toNatClampNeg)), (0, .ref 25), (1, .int r)], [.ref 25], _, 0, 0)) rfl ?_
    refine pm_go (g := (71, _, [.ref 29], _, 0, 0)) rfl ?_
    refine pm_go (g := (73, _, [.int (nI k), .ref 29], _, 0, 0)) rfl ?_
    refine pm_sd (g := (74, _, [.int (mNa (nI k).toNatClampNeg)], _, 0, 0)) rfl (pm_inI (by omega) (by omega)) ?_
    refine pm_go (g := (76, _, [.int 6, .int (mNa (nI k).toNatClampNeg)], _, 0, 0)) rfl ?_
    refine pm_if2 (g := (83, [(5, .int (nI k)), (4, .int 1), (3, .int c), (2, .int (mRt r.toNatClampNeg)), (0, .ref 25), (1, .int r)], [], hq g c1 c2 c3 c4 c5 c6 c7 c8 c9 c10 c11 c12 c13 c14 c15 c16 c17 c18 c19 c20 c21 c22 c23 c24 (hc25 mTy mTm mMn mFn mRn mTn mVn mLr mTr mFl mFm mFp mSc mMp mEn) (hc26 mPa) (hc27 mTo) (hc28 mOt) (hc29 mNa) (hc30 mRe) (hc31 mMa) (hc32 mMy) (hc33 mPm) (hc34 mFy) (hc35 mFa) (hc36 mFr) (hc37 mFo) (hc38 mRt) (hc39 mRm) (hc40 mTt) (hc41 mTi) (hc42 mPl) (hc43 mVr) (hc44 mVf) (hc45 mVc) (hc46 mAr) (hc47 mTc) (hc48 mFt) (hc49 mGo) dyn, 0, 0)) (h := (79, [(5, .int (nI k)), (4, .int 1), (3, .int c), (2, .int (mRt r.toNatClampNeg)), (0, .ref 25), (1, .int r)], [], hq g c1 c2 c3 c4 c5 c6 c7 c8 c9 c10 c11 c12 c13 c14 c15 c16 c17 c18 c19 c20 c21 c22 c23 c24 (hc25 mTy mTm mMn mFn mRn mTn mVn mLr mTr mFl mFm mFp mSc mMp mEn) (hc26 mPa) (hc27 mTo) (hc28 mOt) (hc29 mNa) (hc30 mRe) (hc31 mMa) (hc32 mMy) (hc33 mPm) (hc34 mFy) (hc35 mFa) (hc36 mFr) (hc37 mFo) (hc38 mRt) (hc39 mRm) (hc40 mTt) (hc41 mTi) (hc42 mPl) (hc43 mVr) (hc44 mVf) (hc45 mVc) (hc46 mAr) (hc47 mTc) (hc48 mFt) (hc49 mGo) dyn, 0, 0)) rfl (fun h18 => ?_) (fun h18 => ?_)
    ·
      have h18 := qT_ne (cx := (mNa (nI k).toNatClampNeg).toInt) (cy := 6) rfl (by decide) h18
      refine pm_go (g := (84, _, [.int 0], _, 0, 0)) rfl ?_
      refine pm_go (g := (137, _, [.int 0], _, 0, 0)) rfl ?_
      refine pm_go (g := (139, [(6, .int 0), (5, .int (nI k)), (4, .int 1), (3, .int c), (2, .int (mRt r.toNatClampNeg)), (0, .ref 25), (1, .int r)], [], _, 0, 0)) rfl ?_
      refine pm_go (g := (140, _, [.int c], _, 0, 0)) rfl ?_
      refine pm_go (g := (142, _, [.int 0, .int c], _, 0, 0)) rfl ?_
      refine pm_brT (g := (149, [(6, .int 0), (5, .int (nI k)), (4, .int 1), (3, .int c), (2, .int (mRt r.toNatClampNeg)), (0, .ref 25), (1, .int r)], [.int c], hq g c1 c2 c3 c4 c5 c6 c7 c8 c9 c10 c11 c12 c13 c14 c15 c16 c17 c18 c19 c20 c21 c22 c23 c24 (hc25 mTy mTm mMn mFn mRn mTn mVn mLr mTr mFl mFm mFp mSc mMp mEn) (hc26 mPa) (hc27 mTo) (hc28 mOt) (hc29 mNa) (hc30 mRe) (hc31 mMa) (hc32 mMy) (hc33 mPm) (hc34 mFy) (hc35 mFa) (hc36 mFr) (hc37 mFo) (hc38 mRt) (hc39 mRm) (hc40 mTt) (hc41 mTi) (hc42 mPl) (hc43 mVr) (hc44 mVf) (hc45 mVc) (hc46 mAr) (hc47 mTc) (hc48 mFt) (hc49 mGo) dyn, 0, 0)) rfl ?_
      refine pm_go (g := (150, _, [.int 0, .int c], _, 0, 0)) rfl ?_
      refine pm_go (g := (151, _, [.int (c + 0)], _, 0, 0)) rfl ?_
      try have h19 : (c + 0).toInt = (c).toInt + 0 := iAdd (x := (c).toInt) (y := 0) rfl (by decide) (by omega) (by omega)
      refine pm_go (g := (152, [(3, .int (c + 0)), (6, .int 0), (5, .int (nI k)), (4, .int 1), (2, .int (mRt r.toNatClampNeg)), (0, .ref 25), (1, .int r)], [], _, 0, 0)) rfl ?_
      refine pm_go (g := (154, _, [.int 1], _, 0, 0)) rfl ?_
      refine pm_brT (g := (172, [(3, .int (c + 0)), (6, .int 0), (5, .int (nI k)), (4, .int 1), (2, .int (mRt r.toNatClampNeg)), (0, .ref 25), (1, .int r)], [], hq g c1 c2 c3 c4 c5 c6 c7 c8 c9 c10 c11 c12 c13 c14 c15 c16 c17 c18 c19 c20 c21 c22 c23 c24 (hc25 mTy mTm mMn mFn mRn mTn mVn mLr mTr mFl mFm mFp mSc mMp mEn) (hc26 mPa) (hc27 mTo) (hc28 mOt) (hc29 mNa) (hc30 mRe) (hc31 mMa) (hc32 mMy) (hc33 mPm) (hc34 mFy) (hc35 mFa) (hc36 mFr) (hc37 mFo) (hc38 mRt) (hc39 mRm) (hc40 mTt) (hc41 mTi) (hc42 mPl) (hc43 mVr) (hc44 mVf) (hc45 mVc) (hc46 mAr) (hc47 mTc) (hc48 mFt) (hc49 mGo) dyn, 0, 0)) rfl ?_
      refine pm_go (g := (173, _, [.int 1], _, 0, 0)) rfl ?_
      refine pm_go (g := (177, _, [.int 1], _, 0, 0)) rfl ?_
      refine pm_go (g := (179, [(4, .int 1), (3, .int (c + 0)), (6, .int 0), (5, .int (nI k)), (2, .int (mRt r.toNatClampNeg)), (0, .ref 25), (1, .int r)], [], _, 0, 0)) rfl ?_
      refine pm_go (g := (182, [(5, .int ((nI k) + 1)), (4, .int 1), (3, .int (c + 0)), (6, .int 0), (2, .int (mRt r.toNatClampNeg)), (0, .ref 25), (1, .int r)], [], _, 0, 0)) rfl ?_
      refine pm_go (g := (37, _, [], _, 0, 0)) rfl ?_
      refine pm_sub (lv := [(5, .int ((nI k) + 1)), (4, .int 1), (3, .int (c + 0)), (2, .int (mRt r.toNatClampNeg)), (0, .ref 25), (1, .int r)]) ?_ ⟨le_c (List.Mem.head _) (le_c (List.Mem.tail _ (List.Mem.head _)) (le_c (List.Mem.tail _ (List.Mem.tail _ (List.Mem.head _))) (le_c (List.Mem.tail _ (List.Mem.tail _ (List.Mem.tail _ (List.Mem.tail _ (List.Mem.head _))))) (le_c (List.Mem.tail _ (List.Mem.tail _ (List.Mem.tail _ (List.Mem.tail _ (List.Mem.tail _ (List.Mem.head _)))))) (le_c (List.Mem.tail _ (List.Mem.tail _ (List.Mem.tail _ (List.Mem.tail _ (List.Mem.tail _ (List.Mem.tail _ (List.Mem.head _))))))) le_n))))), (show ([5, 4, 3, 6, 2, 0, 1] : List Nat).Nodup by decide)⟩
      rw [nI_1]
      exact ih (k + 1) (c + 0) (by omega) (by omega) (by omega) k0
    have h18 := qF_ne (cx := (mNa (nI k).toNatClampNeg).toInt) (cy := 6) rfl (by decide) h18
    refine pm_go (g := (80, [(5, .int (nI k)), (4, .int 1), (3, .int c), (2, .int (mRt r.toNatClampNeg)), (0, .ref 25), (1, .int r)], [.int 1], _, 0, 0)) rfl ?_
    refine pm_go (g := (137, _, [.int 1], _, 0, 0)) rfl ?_
    refine pm_go (g := (139, [(6, .int 1), (5, .int (nI k)), (4, .int 1), (3, .int c), (2, .int (mRt r.toNatClampNeg)), (0, .ref 25), (1, .int r)], [], _, 0, 0)) rfl ?_
    refine pm_go (g := (140, _, [.int c], _, 0, 0)) rfl ?_
    refine pm_go (g := (142, _, [.int 1, .int c], _, 0, 0)) rfl ?_
    refine pm_brF (h := (145, [(6, .int 1), (5, .int (nI k)), (4, .int 1), (3, .int c), (2, .int (mRt r.toNatClampNeg)), (0, .ref 25), (1, .int r)], [.int c], hq g c1 c2 c3 c4 c5 c6 c7 c8 c9 c10 c11 c12 c13 c14 c15 c16 c17 c18 c19 c20 c21 c22 c23 c24 (hc25 mTy mTm mMn mFn mRn mTn mVn mLr mTr mFl mFm mFp mSc mMp mEn) (hc26 mPa) (hc27 mTo) (hc28 mOt) (hc29 mNa) (hc30 mRe) (hc31 mMa) (hc32 mMy) (hc33 mPm) (hc34 mFy) (hc35 mFa) (hc36 mFr) (hc37 mFo) (hc38 mRt) (hc39 mRm) (hc40 mTt) (hc41 mTi) (hc42 mPl) (hc43 mVr) (hc44 mVf) (hc45 mVc) (hc46 mAr) (hc47 mTc) (hc48 mFt) (hc49 mGo) dyn, 0, 0)) rfl ?_
    refine pm_go (g := (146, _, [.int 1, .int c], _, 0, 0)) rfl ?_
    refine pm_go (g := (150, _, [.int 1, .int c], _, 0, 0)) rfl ?_
    refine pm_go (g := (151, _, [.int (c + 1)], _, 0, 0)) rfl ?_
    try have h20 : (c + 1).toInt = (c).toInt + 1 := iAdd (x := (c).toInt) (y := 1) rfl (by decide) (by omega) (by omega)
    refine pm_go (g := (152, [(3, .int (c + 1)), (6, .int 1), (5, .int (nI k)), (4, .int 1), (2, .int (mRt r.toNatClampNeg)), (0, .ref 25), (1, .int r)], [], _, 0, 0)) rfl ?_
    refine pm_go (g := (154, _, [.int 1], _, 0, 0)) rfl ?_
    refine pm_brT (g := (172, [(3, .int (c + 1)), (6, .int 1), (5, .int (nI k)), (4, .int 1), (2, .int (mRt r.toNatClampNeg)), (0, .ref 25), (1, .int r)], [], hq g c1 c2 c3 c4 c5 c6 c7 c8 c9 c10 c11 c12 c13 c14 c15 c16 c17 c18 c19 c20 c21 c22 c23 c24 (hc25 mTy mTm mMn mFn mRn mTn mVn mLr mTr mFl mFm mFp mSc mMp mEn) (hc26 mPa) (hc27 mTo) (hc28 mOt) (hc29 mNa) (hc30 mRe) (hc31 mMa) (hc32 mMy) (hc33 mPm) (hc34 mFy) (hc35 mFa) (hc36 mFr) (hc37 mFo) (hc38 mRt) (hc39 mRm) (hc40 mTt) (hc41 mTi) (hc42 mPl) (hc43 mVr) (hc44 mVf) (hc45 mVc) (hc46 mAr) (hc47 mTc) (hc48 mFt) (hc49 mGo) dyn, 0, 0)) rfl ?_
    refine pm_go (g := (173, _, [.int 1], _, 0, 0)) rfl ?_
    refine pm_go (g := (177, _, [.int 1], _, 0, 0)) rfl ?_
    refine pm_go (g := (179, [(4, .int 1), (3, .int (c + 1)), (6, .int 1), (5, .int (nI k)), (2, .int (mRt r.toNatClampNeg)), (0, .ref 25), (1, .int r)], [], _, 0, 0)) rfl ?_
    refine pm_go (g := (182, [(5, .int ((nI k) + 1)), (4, .int 1), (3, .int (c + 1)), (6, .int 1), (2, .int (mRt r.toNatClampNeg)), (0, .ref 25), (1, .int r)], [], _, 0, 0)) rfl ?_
    refine pm_go (g := (37, _, [], _, 0, 0)) rfl ?_
    refine pm_sub (lv := [(5, .int ((nI k) + 1)), (4, .int 1), (3, .int (c + 1)), (2, .int (mRt r.toNatClampNeg)), (0, .ref 25), (1, .int r)]) ?_ ⟨le_c (List.Mem.head _) (le_c (List.Mem.tail _ (List.Mem.head _)) (le_c (List.Mem.tail _ (List.Mem.tail _ (List.Mem.head _))) (le_c (List.Mem.tail _ (List.Mem.tail _ (List.Mem.tail _ (List.Mem.tail _ (List.Mem.head _))))) (le_c (List.Mem.tail _ (List.Mem.tail _ (List.Mem.tail _ (List.Mem.tail _ (List.Mem.tail _ (List.Mem.head _)))))) (le_c (List.Mem.tail _ (List.Mem.tail _ (List.Mem.tail _ (List.Mem.tail _ (List.Mem.tail _ (List.Mem.tail _ (List.Mem.head _))))))) le_n))))), (show ([5, 4, 3, 6, 2, 0, 1] : List Nat).Nodup by decide)⟩
    rw [nI_1]
    exact ih (k + 1) (c + 1) (by omega) (by omega) (by omega) k0
set_option maxRecDepth 100000 in
set_option maxHeartbeats 4000000 in
theorem w_exact_loop {g c1 c2 c3 c4 c5 c6 c7 c8 c9 c10 c11 c12 c13 c14 c15 c16 c17 c18 c19 c20 c21 c22 c23 c24 : pm_C} {dyn : pm_H} {mTy : Int32} {mPa : Nat → Int32} {mTo : Nat → Int32} {mTm : Int32} {mMn : Int32} {mOt : Nat → Int32} {mNa : Nat → Int32} {mRe : Nat → Int32} {mMa : Nat → Int32} {mMy : Nat → Int32} {mPm : Nat → Int32} {mFn : Int32} {mFy : Nat → Int32} {mFa : Nat → Int32} {mFr : Nat → Int32} {mRn : Int32} {mFo : Nat → Int32} {mRt : Nat → Int32} {mRm : Nat → Int32} {mTn : Int32} {mTt : Nat → Int32} {mTi : Nat → Int32} {mPl : Nat → Int32} {mVn : Int32} {mVr : Nat → Int32} {mVf : Nat → Int32} {mVc : Nat → Int32} {mAr : Nat → Int32} {mLr : Int32} {mTc : Nat → Int32} {mTr : Int32} {mFl : Int32} {mFt : Nat → Int32} {mFm : Int32} {mFp : Int32} {mSc : Int32} {mMp : Int32} {mEn : Int32} {mGo : Nat → Int32} {Q : pm_Q} (r : Int32) (hr : 0 ≤ r.toInt ∧ r.toInt < 30) (ht : (mFo r.toNatClampNeg).toInt = 2 → 0 ≤ (mRt r.toNatClampNeg).toInt ∧ (mRt r.toNatClampNeg).toInt < 10) (hp : paD mPa) (hy : myD mMy) (hn : 0 ≤ mMn.toInt ∧ mMn.toInt ≤ 40) : ∀ (n k : Nat) (b : Int32) (c : Int32), ((k : Int) ≤ mMn.toInt) → (40 < k + n) → (bsM (exJ mPa mOt mNa mMy mPm mMn (mFo r.toNatClampNeg) (mRt r.toNatClampNeg) (mRm r.toNatClampNeg)) c b k) → (∀ j : Nat, j < k → exJ mPa mOt mNa mMy mPm mMn (mFo r.toNatClampNeg) (mRt r.toNatClampNeg) (mRm r.toNatClampNeg) j → (mMa (nI j).toNatClampNeg &&& 4).toInt = 0) → (exM mPa mOt mNa mMy mPm mMa mMn (mFo r.toNatClampNeg) (mRt r.toNatClampNeg) (mRm r.toNatClampNeg) → Q (some (.int 1)) (hq g c1 c2 c3 c4 c5 c6 c7 c8 c9 c10 c11 c12 c13 c14 c15 c16 c17 c18 c19 c20 c21 c22 c23 c24 (hc25 mTy mTm mMn mFn mRn mTn mVn mLr mTr mFl mFm mFp mSc mMp mEn) (hc26 mPa) (hc27 mTo) (hc28 mOt) (hc29 mNa) (hc30 mRe) (hc31 mMa) (hc32 mMy) (hc33 mPm) (hc34 mFy) (hc35 mFa) (hc36 mFr) (hc37 mFo) (hc38 mRt) (hc39 mRm) (hc40 mTt) (hc41 mTi) (hc42 mPl) (hc43 mVr) (hc44 mVf) (hc45 mVc) (hc46 mAr) (hc47 mTc) (hc48 mFt) (hc49 mGo) dyn)) → (¬ exM mPa mOt mNa mMy mPm mMa mMn (mFo r.toNatClampNeg) (mRt r.toNatClampNeg) (mRm r.toNatClampNeg) → Q (some (.int 0)) (hq g c1 c2 c3 c4 c5 c6 c7 c8 c9 c10 c11 c12 c13 c14 c15 c16 c17 c18 c19 c20 c21 c22 c23 c24 (hc25 mTy mTm mMn mFn mRn mTn mVn mLr mTr mFl mFm mFp mSc mMp mEn) (hc26 mPa) (hc27 mTo) (hc28 mOt) (hc29 mNa) (hc30 mRe) (hc31 mMa) (hc32 mMy) (hc33 mPm) (hc34 mFy) (hc35 mFa) (hc36 mFr) (hc37 mFo) (hc38 mRt) (hc39 mRm) (hc40 mTt) (hc41 mTi) (hc42 mPl) (hc43 mVr) (hc44 mVf) (hc45 mVc) (hc46 mAr) (hc47 mTc) (hc48 mFt) (hc49 mGo) dyn)) → pm_WP 168 (37, [(5, .int (nI k)), (4, .int 0), (3, .int c), (2, .int (mRt r.toNatClampNeg)), (0, .ref 25), (1, .int r)], [], hq g c1 c2 c3 c4 c5 c6 c7 c8 c9 c10 c11 c12 c13 c14 c15 c16 c17 c18 c19 c20 c21 c22 c23 c24 (hc25 mTy mTm mMn mFn mRn mTn mVn mLr mTr mFl mFm mFp mSc mMp mEn) (hc26 mPa) (hc27 mTo) (hc28 mOt) (hc29 mNa) (hc30 mRe) (hc31 mMa) (hc32 mMy) (hc33 mPm) (hc34 mFy) (hc35 mFa) (hc36 mFr) (hc37 mFo) (hc38 mRt) (hc39 mRm) (hc40 mTt) (hc41 mTi) (hc42 mPl) (hc43 mVr) (hc44 mVf) (hc45 mVc) (hc46 mAr) (hc47 mTc) (hc48 mFt) (hc49 mGo) dyn, 0, 0) Q := by
  intro n
  induction n with
  | zero =>
    intro k b c g1 g2 g3 g4 k0 k1
    exfalso; omega
  | succ n ih =>
    intro k b c g1 g2 g3 g4 k0 k1
    have hk := nI_toInt (n := k) (by omega)
    have hkc : (nI k).toNatClampNeg = k := nI_clamp (by omega)
    have hb := bsM_b g3
    refine pm_go (g := (39, [(5, .int (nI k)), (4, .int 0), (3, .int c), (2, .int (mRt r.toNatClampNeg)), (0, .ref 25), (1, .int r)], [.int (nI k)], hq g c1 c2 c3 c4 c5 c6 c7 c8 c9 c10 c11 c12 c13 c14 c15 c16 c17 c18 c19 c20 c21 c22 c23 c24 (hc25 mTy mTm mMn mFn mRn mTn mVn mLr mTr mFl mFm mFp mSc mMp mEn) (hc26 mPa) (hc27 mTo) (hc28 mOt) (hc29 mNa) (hc30 mRe) (hc31 mMa) (hc32 mMy) (hc33 mPm) (hc34 mFy) (hc35 mFa) (hc36 mFr) (hc37 mFo) (hc38 mRt) (hc39 mRm) (hc40 mTt) (hc41 mTi) (hc42 mPl) (hc43 mVr) (hc44 mVf) (hc45 mVc) (hc46 mAr) (hc47 mTc) (hc48 mFt) (hc49 mGo) dyn, 0, 0)) rfl ?_
    refine pm_go (g := (40, _, [.ref 25, .int (nI k)], _, 0, 0)) rfl ?_
    refine pm_go (g := (43, _, [.int mMn, .int (nI k)], _, 0, 0)) rfl ?_
    refine pm_if2 (g := (185, [(5, .int (nI k)), (4, .int 0), (3, .int c), (2, .int (mRt r.toNatClampNeg)), (0, .ref 25), (1, .int r)], [], hq g c1 c2 c3 c4 c5 c6 c7 c8 c9 c10 c11 c12 c13 c14 c15 c16 c17 c18 c19 c20 c21 c22 c23 c24 (hc25 mTy mTm mMn mFn mRn mTn mVn mLr mTr mFl mFm mFp mSc mMp mEn) (hc26 mPa) (hc27 mTo) (hc28 mOt) (hc29 mNa) (hc30 mRe) (hc31 mMa) (hc32 mMy) (hc33 mPm) (hc34 mFy) (hc35 mFa) (hc36 mFr) (hc37 mFo) (hc38 mRt) (hc39 mRm) (hc40 mTt) (hc41 mTi) (hc42 mPl) (hc43 mVr) (hc44 mVf) (hc45 mVc) (hc46 mAr) (hc47 mTc) (hc48 mFt) (hc49 mGo) dyn, 0, 0)) (h := (46, [(5, .int (nI k)), (4, .int 0), (3, .int c), (2, .int (mRt r.toNatClampNeg)), (0, .ref 25), (1, .int r)], [], hq g c1 c2 c3 c4 c5 c6 c7 c8 c9 c10 c11 c12 c13 c14 c15 c16 c17 c18 c19 c20 c21 c22 c23 c24 (hc25 mTy mTm mMn mFn mRn mTn mVn mLr mTr mFl mFm mFp mSc mMp mEn) (hc26 mPa) (hc27 mTo) (hc28 mOt) (hc29 mNa) (hc30 mRe) (hc31 mMa) (hc32 mMy) (hc33 mPm) (hc34 mFy) (hc35 mFa) (hc36 mFr) (hc37 mFo) (hc38 mRt) (hc39 mRm) (hc40 mTt) (hc41 mTi) (hc42 mPl) (hc43 mVr) (hc44 mVf) (hc45 mVc) (hc46 mAr) (hc47 mTc) (hc48 mFt) (hc49 mGo) dyn, 0, 0)) rfl (fun h1 => ?_) (fun h1 => ?_)
    ·
      have h1 := qT_ge (cx := (nI k).toInt) (cy := (mMn).toInt) rfl rfl h1
      refine pm_go (g := (187, _, [.int 0], _, 0, 0)) rfl ?_
      refine pm_brF (h := (190, [(5, .int (nI k)), (4, .int 0), (3, .int c), (2, .int (mRt r.toNatClampNeg)), (0, .ref 25), (1, .int r)], [], hq g c1 c2 c3 c4 c5 c6 c7 c8 c9 c10 c11 c12 c13 c14 c15 c16 c17 c18 c19 c20 c21 c22 c23 c24 (hc25 mTy mTm mMn mFn mRn mTn mVn mLr mTr mFl mFm mFp mSc mMp mEn) (hc26 mPa) (hc27 mTo) (hc28 mOt) (hc29 mNa) (hc30 mRe) (hc31 mMa) (hc32 mMy) (hc33 mPm) (hc34 mFy) (hc35 mFa) (hc36 mFr) (hc37 mFo) (hc38 mRt) (hc39 mRm) (hc40 mTt) (hc41 mTi) (hc42 mPl) (hc43 mVr) (hc44 mVf) (hc45 mVc) (hc46 mAr) (hc47 mTc) (hc48 mFt) (hc49 mGo) dyn, 0, 0)) rfl ?_
      refine pm_go (g := (191, _, [.int c], _, 0, 0)) rfl ?_
      refine pm_go (g := (192, _, [.int 1, .int c], _, 0, 0)) rfl ?_
      refine pm_if2 (g := (209, [(5, .int (nI k)), (4, .int 0), (3, .int c), (2, .int (mRt r.toNatClampNeg)), (0, .ref 25), (1, .int r)], [], hq g c1 c2 c3 c4 c5 c6 c7 c8 c9 c10 c11 c12 c13 c14 c15 c16 c17 c18 c19 c20 c21 c22 c23 c24 (hc25 mTy mTm mMn mFn mRn mTn mVn mLr mTr mFl mFm mFp mSc mMp mEn) (hc26 mPa) (hc27 mTo) (hc28 mOt) (hc29 mNa) (hc30 mRe) (hc31 mMa) (hc32 mMy) (hc33 mPm) (hc34 mFy) (hc35 mFa) (hc36 mFr) (hc37 mFo) (hc38 mRt) (hc39 mRm) (hc40 mTt) (hc41 mTi) (hc42 mPl) (hc43 mVr) (hc44 mVf) (hc45 mVc) (hc46 mAr) (hc47 mTc) (hc48 mFt) (hc49 mGo) dyn, 0, 0)) (h := (195, [(5, .int (nI k)), (4, .int 0), (3, .int c), (2, .int (mRt r.toNatClampNeg)), (0, .ref 25), (1, .int r)], [], hq g c1 c2 c3 c4 c5 c6 c7 c8 c9 c10 c11 c12 c13 c14 c15 c16 c17 c18 c19 c20 c21 c22 c23 c24 (hc25 mTy mTm mMn mFn mRn mTn mVn mLr mTr mFl mFm mFp mSc mMp mEn) (hc26 mPa) (hc27 mTo) (hc28 mOt) (hc29 mNa) (hc30 mRe) (hc31 mMa) (hc32 mMy) (hc33 mPm) (hc34 mFy) (hc35 mFa) (hc36 mFr) (hc37 mFo) (hc38 mRt) (hc39 mRm) (hc40 mTt) (hc41 mTi) (hc42 mPl) (hc43 mVr) (hc44 mVf) (hc45 mVc) (hc46 mAr) (hc47 mTc) (hc48 mFt) (hc49 mGo) dyn, 0, 0)) rfl (fun h2 => ?_) (fun h2 => ?_)
      ·
        have h2 := qT_eq (cx := (c).toInt) (cy := 1) rfl (by decide) h2
        refine pm_go (g := (210, _, [.int 1], _, 0, 0)) rfl ?_
        refine pm_go (g := (214, _, [.int 1], _, 0, 0)) rfl ?_
        exact pm_ret rfl (k0 ⟨fun j q q2 => g4 j (by omega) q2, by first | exact Or.inl (bs_1 g3 (by omega) (by omega)) | exact Or.inr ⟨by omega, bs_z g3 (by omega) (by omega)⟩⟩)
      have h2 := qF_eq (cx := (c).toInt) (cy := 1) rfl (by decide) h2
      refine pm_go (g := (196, _, [.int c], _, 0, 0)) rfl ?_
      refine pm_if2 (g := (213, [(5, .int (nI k)), (4, .int 0), (3, .int c), (2, .int (mRt r.toNatClampNeg)), (0, .ref 25), (1, .int r)], [], hq g c1 c2 c3 c4 c5 c6 c7 c8 c9 c10 c11 c12 c13 c14 c15 c16 c17 c18 c19 c20 c21 c22 c23 c24 (hc25 mTy mTm mMn mFn mRn mTn mVn mLr mTr mFl mFm mFp mSc mMp mEn) (hc26 mPa) (hc27 mTo) (hc28 mOt) (hc29 mNa) (hc30 mRe) (hc31 mMa) (hc32 mMy) (hc33 mPm) (hc34 mFy) (hc35 mFa) (hc36 mFr) (hc37 mFo) (hc38 mRt) (hc39 mRm) (hc40 mTt) (hc41 mTi) (hc42 mPl) (hc43 mVr) (hc44 mVf) (hc45 mVc) (hc46 mAr) (hc47 mTc) (hc48 mFt) (hc49 mGo) dyn, 0, 0)) (h := (199, [(5, .int (nI k)), (4, .int 0), (3, .int c), (2, .int (mRt r.toNatClampNeg)), (0, .ref 25), (1, .int r)], [], hq g c1 c2 c3 c4 c5 c6 c7 c8 c9 c10 c11 c12 c13 c14 c15 c16 c17 c18 c19 c20 c21 c22 c23 c24 (hc25 mTy mTm mMn mFn mRn mTn mVn mLr mTr mFl mFm mFp mSc mMp mEn) (hc26 mPa) (hc27 mTo) (hc28 mOt) (hc29 mNa) (hc30 mRe) (hc31 mMa) (hc32 mMy) (hc33 mPm) (hc34 mFy) (hc35 mFa) (hc36 mFr) (hc37 mFo) (hc38 mRt) (hc39 mRm) (hc40 mTt) (hc41 mTi) (hc42 mPl) (hc43 mVr) (hc44 mVf) (hc45 mVc) (hc46 mAr) (hc47 mTc) (hc48 mFt) (hc49 mGo) dyn, 0, 0)) rfl (fun h3 => ?_) (fun h3 => ?_)
      ·
        have h3 := qT_ne (cx := (c).toInt) (cy := 0) rfl (by decide) h3
        refine pm_go (g := (214, _, [.int 0], _, 0, 0)) rfl ?_
        exact pm_ret rfl (k1 (fun q => by rcases q.2 with q2 | ⟨q2, q3⟩; exact bs_n1 g3 (by omega) (by omega) q2; first | omega | exact bs_nz g3 (by omega) (by omega) q3))
      have h3 := qF_ne (cx := (c).toInt) (cy := 0) rfl (by decide) h3
      refine pm_go (g := (200, _, [.ref 25], _, 0, 0)) rfl ?_
      refine pm_go (g := (203, _, [.ref 37], _, 0, 0)) rfl ?_
      refine pm_go (g := (204, _, [.int r, .ref 37], _, 0, 0)) rfl ?_
      refine pm_sd (g := (205, _, [.int (mFo (r).toNatClampNeg)], _, 0, 0)) rfl (pm_inI (by omega) (by omega)) ?_
      refine pm_go (g := (206, _, [.int 3, .int (mFo (r).toNatClampNeg)], _, 0, 0)) rfl ?_
      refine pm_if2 (g := (213, [(5, .int (nI k)), (4, .int 0), (3, .int c), (2, .int (mRt r.toNatClampNeg)), (0, .ref 25), (1, .int r)], [], hq g c1 c2 c3 c4 c5 c6 c7 c8 c9 c10 c11 c12 c13 c14 c15 c16 c17 c18 c19 c20 c21 c22 c23 c24 (hc25 mTy mTm mMn mFn mRn mTn mVn mLr mTr mFl mFm mFp mSc mMp mEn) (hc26 mPa) (hc27 mTo) (hc28 mOt) (hc29 mNa) (hc30 mRe) (hc31 mMa) (hc32 mMy) (hc33 mPm) (hc34 mFy) (hc35 mFa) (hc36 mFr) (hc37 mFo) (hc38 mRt) (hc39 mRm) (hc40 mTt) (hc41 mTi) (hc42 mPl) (hc43 mVr) (hc44 mVf) (hc45 mVc) (hc46 mAr) (hc47 mTc) (hc48 mFt) (hc49 mGo) dyn, 0, 0)) (h := (209, [(5, .int (nI k)), (4, .int 0), (3, .int c), (2, .int (mRt r.toNatClampNeg)), (0, .ref 25), (1, .int r)], [], hq g c1 c2 c3 c4 c5 c6 c7 c8 c9 c10 c11 c12 c13 c14 c15 c16 c17 c18 c19 c20 c21 c22 c23 c24 (hc25 mTy mTm mMn mFn mRn mTn mVn mLr mTr mFl mFm mFp mSc mMp mEn) (hc26 mPa) (hc27 mTo) (hc28 mOt) (hc29 mNa) (hc30 mRe) (hc31 mMa) (hc32 mMy) (hc33 mPm) (hc34 mFy) (hc35 mFa) (hc36 mFr) (hc37 mFo) (hc38 mRt) (hc39 mRm) (hc40 mTt) (hc41 mTi) (hc42 mPl) (hc43 mVr) (hc44 mVf) (hc45 mVc) (hc46 mAr) (hc47 mTc) (hc48 mFt) (hc49 mGo) dyn, 0, 0)) rfl (fun h4 => ?_) (fun h4 => ?_)
      ·
        have h4 := qT_ne (cx := (mFo (r).toNatClampNeg).toInt) (cy := 3) rfl (by decide) h4
        refine pm_go (g := (214, _, [.int 0], _, 0, 0)) rfl ?_
        exact pm_ret rfl (k1 (fun q => by rcases q.2 with q2 | ⟨q2, q3⟩; exact bs_n1 g3 (by omega) (by omega) q2; first | omega | exact bs_nz g3 (by omega) (by omega) q3))
      have h4 := qF_ne (cx := (mFo (r).toNatClampNeg).toInt) (cy := 3) rfl (by decide) h4
      refine pm_go (g := (210, _, [.int 1], _, 0, 0)) rfl ?_
      refine pm_go (g := (214, _, [.int 1], _, 0, 0)) rfl ?_
      exact pm_ret rfl (k0 ⟨fun j q q2 => g4 j (by omega) q2, by first | exact Or.inl (bs_1 g3 (by omega) (by omega)) | exact Or.inr ⟨by omega, bs_z g3 (by omega) (by omega)⟩⟩)
    have h1 := qF_ge (cx := (nI k).toInt) (cy := (mMn).toInt) rfl rfl h1
    refine pm_go (g := (47, _, [.ref 25], _, 0, 0)) rfl ?_
    refine pm_go (g := (50, _, [.ref 37], _, 0, 0)) rfl ?_
    refine pm_go (g := (51, _, [.int r, .ref 37], _, 0, 0)) rfl ?_
    refine pm_sd (g := (52, _, [.int (mFo (r).toNatClampNeg)], _, 0, 0)) rfl (pm_inI (by omega) (by omega)) ?_
    refine pm_go (g := (53, _, [.int 3, .int (mFo (r).toNatClampNeg)], _, 0, 0)) rfl ?_
    refine pm_if2 (g := (87, [(5, .int (nI k)), (4, .int 0), (3, .int c), (2, .int (mRt r.toNatClampNeg)), (0, .ref 25), (1, .int r)], [], hq g c1 c2 c3 c4 c5 c6 c7 c8 c9 c10 c11 c12 c13 c14 c15 c16 c17 c18 c19 c20 c21 c22 c23 c24 (hc25 mTy mTm mMn mFn mRn mTn mVn mLr mTr mFl mFm mFp mSc mMp mEn) (hc26 mPa) (hc27 mTo) (hc28 mOt) (hc29 mNa) (hc30 mRe) (hc31 mMa) (hc32 mMy) (hc33 mPm) (hc34 mFy) (hc35 mFa) (hc36 mFr) (hc37 mFo) (hc38 mRt) (hc39 mRm) (hc40 mTt) (hc41 mTi) (hc42 mPl) (hc43 mVr) (hc44 mVf) (hc45 mVc) (hc46 mAr) (hc47 mTc) (hc48 mFt) (hc49 mGo) dyn, 0, 0)) (h := (56, [(5, .int (nI k)), (4, .int 0), (3, .int c), (2, .int (mRt r.toNatClampNeg)), (0, .ref 25), (1, .int r)], [], hq g c1 c2 c3 c4 c5 c6 c7 c8 c9 c10 c11 c12 c13 c14 c15 c16 c17 c18 c19 c20 c21 c22 c23 c24 (hc25 mTy mTm mMn mFn mRn mTn mVn mLr mTr mFl mFm mFp mSc mMp mEn) (hc26 mPa) (hc27 mTo) (hc28 mOt) (hc29 mNa) (hc30 mRe) (hc31 mMa) (hc32 mMy) (hc33 mPm) (hc34 mFy) (hc35 mFa) (hc36 mFr) (hc37 mFo) (hc38 mRt) (hc39 mRm) (hc40 mTt) (hc41 mTi) (hc42 mPl) (hc43 mVr) (hc44 mVf) (hc45 mVc) (hc46 mAr) (hc47 mTc) (hc48 mFt) (hc49 mGo) dyn, 0, 0)) rfl (fun h5 => ?_) (fun h5 => ?_)
    ·
      have h5 := qT_ne (cx := (mFo (r).toNatClampNeg).toInt) (cy := 3) rfl (by decide) h5
      refine pm_go (g := (88, _, [.ref 25], _, 0, 0)) rfl ?_
      refine pm_go (g := (91, _, [.ref 29], _, 0, 0)) rfl ?_
      refine pm_go (g := (93, _, [.int (nI k), .ref 29], _, 0, 0)) rfl ?_
      refine pm_sd (g := (94, _, [.int (mNa (nI k).toNatClampNeg)], _, 0, 0)) rfl (pm_inI (by omega) (by omega)) ?_
      refine pm_go (g := (95, _, [.ref 25, .int (mNa (nI k).toNatClampNeg)], _, 0, 0)) rfl ?_
      refine pm_go (g := (98, _, [.ref 39, .int (mNa (nI k).toNatClampNeg)], _, 0, 0)) rfl ?_
      refine pm_go (g := (99, _, [.int r, .ref 39, .int (mNa (nI k).toNatClampNeg)], _, 0, 0)) rfl ?_
      refine pm_sd (g := (100, _, [.int (mRm (r).toNatClampNeg), .int (mNa (nI k).toNatClampNeg)], _, 0, 0)) rfl (pm_inI (by omega) (by omega)) ?_
      refine pm_if2 (g := (136, [(5, .int (nI k)), (4, .int 0), (3, .int c), (2, .int (mRt r.toNatClampNeg)), (0, .ref 25), (1, .int r)], [], hq g c1 c2 c3 c4 c5 c6 c7 c8 c9 c10 c11 c12 c13 c14 c15 c16 c17 c18 c19 c20 c21 c22 c23 c24 (hc25 mTy mTm mMn mFn mRn mTn mVn mLr mTr mFl mFm mFp mSc mMp mEn) (hc26 mPa) (hc27 mTo) (hc28 mOt) (hc29 mNa) (hc30 mRe) (hc31 mMa) (hc32 mMy) (hc33 mPm) (hc34 mFy) (hc35 mFa) (hc36 mFr) (hc37 mFo) (hc38 mRt) (hc39 mRm) (hc40 mTt) (hc41 mTi) (hc42 mPl) (hc43 mVr) (hc44 mVf) (hc45 mVc) (hc46 mAr) (hc47 mTc) (hc48 mFt) (hc49 mGo) dyn, 0, 0)) (h := (103, [(5, .int (nI k)), (4, .int 0), (3, .int c), (2, .int (mRt r.toNatClampNeg)), (0, .ref 25), (1, .int r)], [], hq g c1 c2 c3 c4 c5 c6 c7 c8 c9 c10 c11 c12 c13 c14 c15 c16 c17 c18 c19 c20 c21 c22 c23 c24 (hc25 mTy mTm mMn mFn mRn mTn mVn mLr mTr mFl mFm mFp mSc mMp mEn) (hc26 mPa) (hc27 mTo) (hc28 mOt) (hc29 mNa) (hc30 mRe) (hc31 mMa) (hc32 mMy) (hc33 mPm) (hc34 mFy) (hc35 mFa) (hc36 mFr) (hc37 mFo) (hc38 mRt) (hc39 mRm) (hc40 mTt) (hc41 mTi) (hc42 mPl) (hc43 mVr) (hc44 mVf) (hc45 mVc) (hc46 mAr) (hc47 mTc) (hc48 mFt) (hc49 mGo) dyn, 0, 0)) rfl (fun h6 => ?_) (fun h6 => ?_)
      ·
        have h6 := qT_ne (cx := (mNa (nI k).toNatClampNeg).toInt) (cy := (mRm (r).toNatClampNeg).toInt) rfl rfl h6
        refine pm_go (g := (137, _, [.int 0], _, 0, 0)) rfl ?_
        refine pm_go (g := (139, [(6, .int 0), (5, .int (nI k)), (4, .int 0), (3, .int c), (2, .int (mRt r.toNatClampNeg)), (0, .ref 25), (1, .int r)], [], _, 0, 0)) rfl ?_
        refine pm_go (g := (140, _, [.int c], _, 0, 0)) rfl ?_
        refine pm_go (g := (142, _, [.int 0, .int c], _, 0, 0)) rfl ?_
        refine pm_brT (g := (149, [(6, .int 0), (5, .int (nI k)), (4, .int 0), (3, .int c), (2, .int (mRt r.toNatClampNeg)), (0, .ref 25), (1, .int r)], [.int c], hq g c1 c2 c3 c4 c5 c6 c7 c8 c9 c10 c11 c12 c13 c14 c15 c16 c17 c18 c19 c20 c21 c22 c23 c24 (hc25 mTy mTm mMn mFn mRn mTn mVn mLr mTr mFl mFm mFp mSc mMp mEn) (hc26 mPa) (hc27 mTo) (hc28 mOt) (hc29 mNa) (hc30 mRe) (hc31 mMa) (hc32 mMy) (hc33 mPm) (hc34 mFy) (hc35 mFa) (hc36 mFr) (hc37 mFo) (hc38 mRt) (hc39 mRm) (hc40 mTt) (hc41 mTi) (hc42 mPl) (hc43 mVr) (hc44 mVf) (hc45 mVc) (hc46 mAr) (hc47 mTc) (hc48 mFt) (hc49 mGo) dyn, 0, 0)) rfl ?_
        refine pm_go (g := (150, _, [.int 0, .int c], _, 0, 0)) rfl ?_
        refine pm_go (g := (151, _, [.int (c + 0)], _, 0, 0)) rfl ?_
        try have h7 : (c + 0).toInt = (c).toInt + 0 := iAdd (x := (c).toInt) (y := 0) rfl (by decide) (by omega) (by omega)
        refine pm_go (g := (152, [(3, .int (c + 0)), (6, .int 0), (5, .int (nI k)), (4, .int 0), (2, .int (mRt r.toNatClampNeg)), (0, .ref 25), (1, .int r)], [], _, 0, 0)) rfl ?_
        refine pm_go (g := (154, _, [.int 0], _, 0, 0)) rfl ?_
        refine pm_brF (h := (157, [(3, .int (c + 0)), (6, .int 0), (5, .int (nI k)), (4, .int 0), (2, .int (mRt r.toNatClampNeg)), (0, .ref 25), (1, .int r)], [], hq g c1 c2 c3 c4 c5 c6 c7 c8 c9 c10 c11 c12 c13 c14 c15 c16 c17 c18 c19 c20 c21 c22 c23 c24 (hc25 mTy mTm mMn mFn mRn mTn mVn mLr mTr mFl mFm mFp mSc mMp mEn) (hc26 mPa) (hc27 mTo) (hc28 mOt) (hc29 mNa) (hc30 mRe) (hc31 mMa) (hc32 mMy) (hc33 mPm) (hc34 mFy) (hc35 mFa) (hc36 mFr) (hc37 mFo) (hc38 mRt) (hc39 mRm) (hc40 mTt) (hc41 mTi) (hc42 mPl) (hc43 mVr) (hc44 mVf) (hc45 mVc) (hc46 mAr) (hc47 mTc) (hc48 mFt) (hc49 mGo) dyn, 0, 0)) rfl ?_
        refine pm_go (g := (159, _, [.int 0], _, 0, 0)) rfl ?_
        refine pm_brT (g := (176, [(3, .int (c + 0)), (6, .int 0), (5, .int (nI k)), (4, .int 0), (2, .int (mRt r.toNatClampNeg)), (0, .ref 25), (1, .int r)], [], hq g c1 c2 c3 c4 c5 c6 c7 c8 c9 c10 c11 c12 c13 c14 c15 c16 c17 c18 c19 c20 c21 c22 c23 c24 (hc25 mTy mTm mMn mFn mRn mTn mVn mLr mTr mFl mFm mFp mSc mMp mEn) (hc26 mPa) (hc27 mTo) (hc28 mOt) (hc29 mNa) (hc30 mRe) (hc31 mMa) (hc32 mMy) (hc33 mPm) (hc34 mFy) (hc35 mFa) (hc36 mFr) (hc37 mFo) (hc38 mRt) (hc39 mRm) (hc40 mTt) (hc41 mTi) (hc42 mPl) (hc43 mVr) (hc44 mVf) (hc45 mVc) (hc46 mAr) (hc47 mTc) (hc48 mFt) (hc49 mGo) dyn, 0, 0)) rfl ?_
        refine pm_go (g := (177, _, [.int 0], _, 0, 0)) rfl ?_
        refine pm_go (g := (179, [(4, .int 0), (3, .int (c + 0)), (6, .int 0), (5, .int (nI k)), (2, .int (mRt r.toNatClampNeg)), (0, .ref 25), (1, .int r)], [], _, 0, 0)) rfl ?_
        refine pm_go (g := (182, [(5, .int ((nI k) + 1)), (4, .int 0), (3, .int (c + 0)), (6, .int 0), (2, .int (mRt r.toNatClampNeg)), (0, .ref 25), (1, .int r)], [], _, 0, 0)) rfl ?_
        refine pm_go (g := (37, _, [], _, 0, 0)) rfl ?_
        refine pm_sub (lv := [(5, .int ((nI k) + 1)), (4, .int 0), (3, .int (c + 0)), (2, .int (mRt r.toNatClampNeg)), (0, .ref 25), (1, .int r)]) ?_ ⟨le_c (List.Mem.head _) (le_c (List.Mem.tail _ (List.Mem.head _)) (le_c (List.Mem.tail _ (List.Mem.tail _ (List.Mem.head _))) (le_c (List.Mem.tail _ (List.Mem.tail _ (List.Mem.tail _ (List.Mem.tail _ (List.Mem.head _))))) (le_c (List.Mem.tail _ (List.Mem.tail _ (List.Mem.tail _ (List.Mem.tail _ (List.Mem.tail _ (List.Mem.head _)))))) (le_c (List.Mem.tail _ (List.Mem.tail _ (List.Mem.tail _ (List.Mem.tail _ (List.Mem.tail _ (List.Mem.tail _ (List.Mem.head _))))))) le_n))))), (show ([5, 4, 3, 6, 2, 0, 1] : List Nat).Nodup by decide)⟩
        rw [nI_1]
        have hj : ¬ exJ mPa mOt mNa mMy mPm mMn (mFo r.toNatClampNeg) (mRt r.toNatClampNeg) (mRm r.toNatClampNeg) k := by rintro (⟨q1, q2, q3⟩ | ⟨q1, q2, ⟨q3, q4⟩ | ⟨q3, q4⟩⟩) <;> first | omega | contradiction
        have hc1 : (c + 0).toInt = c.toInt + 0 := iAdd rfl (by decide) (by omega) (by omega)
        refine ih (k + 1) b (c + 0) (by omega) (by omega) ?_ (fun j q q2 => ?_) k0 k1
        · rw [show (c + 0) = c from xJ (by omega)]; exact bsM_n g3 hj
        · rcases Nat.lt_succ_iff_lt_or_eq.mp q with q | q
          · exact g4 j q q2
          · subst q; exact absurd q2 hj
      have h6 := qF_ne (cx := (mNa (nI k).toNatClampNeg).toInt) (cy := (mRm (r).toNatClampNeg).toInt) rfl rfl h6
      refine pm_go (g := (104, [(5, .int (nI k)), (4, .int 0), (3, .int c), (2, .int (mRt r.toNatClampNeg)), (0, .ref 25), (1, .int r)], [.ref 25], _, 0, 0)) rfl ?_
      refine pm_go (g := (105, _, [.ref 25, .ref 25], _, 0, 0)) rfl ?_
      refine pm_go (g := (108, _, [.ref 37, .ref 25], _, 0, 0)) rfl ?_
      refine pm_go (g := (109, _, [.int r, .ref 37, .ref 25], _, 0, 0)) rfl ?_
      refine pm_sd (g := (110, _, [.int (mFo (r).toNatClampNeg), .ref 25], _, 0, 0)) rfl (pm_inI (by omega) (by omega)) ?_
      refine pm_go (g := (111, _, [.int 2, .int (mFo (r).toNatClampNeg), .ref 25], _, 0, 0)) rfl ?_
      refine pm_if2 (g := (123, [(5, .int (nI k)), (4, .int 0), (3, .int c), (2, .int (mRt r.toNatClampNeg)), (0, .ref 25), (1, .int r)], [.ref 25], hq g c1 c2 c3 c4 c5 c6 c7 c8 c9 c10 c11 c12 c13 c14 c15 c16 c17 c18 c19 c20 c21 c22 c23 c24 (hc25 mTy mTm mMn mFn mRn mTn mVn mLr mTr mFl mFm mFp mSc mMp mEn) (hc26 mPa) (hc27 mTo) (hc28 mOt) (hc29 mNa) (hc30 mRe) (hc31 mMa) (hc32 mMy) (hc33 mPm) (hc34 mFy) (hc35 mFa) (hc36 mFr) (hc37 mFo) (hc38 mRt) (hc39 mRm) (hc40 mTt) (hc41 mTi) (hc42 mPl) (hc43 mVr) (hc44 mVf) (hc45 mVc) (hc46 mAr) (hc47 mTc) (hc48 mFt) (hc49 mGo) dyn, 0, 0)) (h := (114, [(5, .int (nI k)), (4, .int 0), (3, .int c), (2, .int (mRt r.toNatClampNeg)), (0, .ref 25), (1, .int r)], [.ref 25], hq g c1 c2 c3 c4 c5 c6 c7 c8 c9 c10 c11 c12 c13 c14 c15 c16 c17 c18 c19 c20 c21 c22 c23 c24 (hc25 mTy mTm mMn mFn mRn mTn mVn mLr mTr mFl mFm mFp mSc mMp mEn) (hc26 mPa) (hc27 mTo) (hc28 mOt) (hc29 mNa) (hc30 mRe) (hc31 mMa) (hc32 mMy) (hc33 mPm) (hc34 mFy) (hc35 mFa) (hc36 mFr) (hc37 mFo) (hc38 mRt) (hc39 mRm) (hc40 mTt) (hc41 mTi) (hc42 mPl) (hc43 mVr) (hc44 mVf) (hc45 mVc) (hc46 mAr) (hc47 mTc) (hc48 mFt) (hc49 mGo) dyn, 0, 0)) rfl (fun h8 => ?_) (fun h8 => ?_)
      ·
        have h8 := qT_ne (cx := (mFo (r).toNatClampNeg).toInt) (cy := 2) rfl (by decide) h8
        refine pm_go (g := (124, _, [.int (mRt r.toNatClampNeg), .ref 25], _, 0, 0)) rfl ?_
        refine pm_go (g := (126, _, [.int (nI k), .int (mRt r.toNatClampNeg), .ref 25], _, 0, 0)) rfl ?_
        refine pm_callD (z := 143) (as := [.ref 25, .int (mRt r.toNatClampNeg), .int (nI k)]) (rest := []) rfl ?_
        refine w_X12_isHad (mRt r.toNatClampNeg) (nI k) (by omega) (by assumption) (by assumption) (by omega) (fun h9 => ?_) (fun h10 => ?_)
        ·
          show pm_WP 168 (129, [(5, .int (nI k)), (4, .int 0), (3, .int c), (2, .int (mRt r.toNatClampNeg)), (0, .ref 25), (1, .int r)], [.int 1], _, 0, 0) _
          refine pm_brF (h := (132, [(5, .int (nI k)), (4, .int 0), (3, .int c), (2, .int (mRt r.toNatClampNeg)), (0, .ref 25), (1, .int r)], [], hq g c1 c2 c3 c4 c5 c6 c7 c8 c9 c10 c11 c12 c13 c14 c15 c16 c17 c18 c19 c20 c21 c22 c23 c24 (hc25 mTy mTm mMn mFn mRn mTn mVn mLr mTr mFl mFm mFp mSc mMp mEn) (hc26 mPa) (hc27 mTo) (hc28 mOt) (hc29 mNa) (hc30 mRe) (hc31 mMa) (hc32 mMy) (hc33 mPm) (hc34 mFy) (hc35 mFa) (hc36 mFr) (hc37 mFo) (hc38 mRt) (hc39 mRm) (hc40 mTt) (hc41 mTi) (hc42 mPl) (hc43 mVr) (hc44 mVf) (hc45 mVc) (hc46 mAr) (hc47 mTc) (hc48 mFt) (hc49 mGo) dyn, 0, 0)) rfl ?_
          refine pm_go (g := (133, _, [.int 1], _, 0, 0)) rfl ?_
          refine pm_go (g := (137, _, [.int 1], _, 0, 0)) rfl ?_
          refine pm_go (g := (139, [(6, .int 1), (5, .int (nI k)), (4, .int 0), (3, .int c), (2, .int (mRt r.toNatClampNeg)), (0, .ref 25), (1, .int r)], [], _, 0, 0)) rfl ?_
          refine pm_go (g := (140, _, [.int c], _, 0, 0)) rfl ?_
          refine pm_go (g := (142, _, [.int 1, .int c], _, 0, 0)) rfl ?_
          refine pm_brF (h := (145, [(6, .int 1), (5, .int (nI k)), (4, .int 0), (3, .int c), (2, .int (mRt r.toNatClampNeg)), (0, .ref 25), (1, .int r)], [.int c], hq g c1 c2 c3 c4 c5 c6 c7 c8 c9 c10 c11 c12 c13 c14 c15 c16 c17 c18 c19 c20 c21 c22 c23 c24 (hc25 mTy mTm mMn mFn mRn mTn mVn mLr mTr mFl mFm mFp mSc mMp mEn) (hc26 mPa) (hc27 mTo) (hc28 mOt) (hc29 mNa) (hc30 mRe) (hc31 mMa) (hc32 mMy) (hc33 mPm) (hc34 mFy) (hc35 mFa) (hc36 mFr) (hc37 mFo) (hc38 mRt) (hc39 mRm) (hc40 mTt) (hc41 mTi) (hc42 mPl) (hc43 mVr) (hc44 mVf) (hc45 mVc) (hc46 mAr) (hc47 mTc) (hc48 mFt) (hc49 mGo) dyn, 0, 0)) rfl ?_
          refine pm_go (g := (146, _, [.int 1, .int c], _, 0, 0)) rfl ?_
          refine pm_go (g := (150, _, [.int 1, .int c], _, 0, 0)) rfl ?_
          refine pm_go (g := (151, _, [.int (c + 1)], _, 0, 0)) rfl ?_
          try have h12 : (c + 1).toInt = (c).toInt + 1 := iAdd (x := (c).toInt) (y := 1) rfl (by decide) (by omega) (by omega)
          refine pm_go (g := (152, [(3, .int (c + 1)), (6, .int 1), (5, .int (nI k)), (4, .int 0), (2, .int (mRt r.toNatClampNeg)), (0, .ref 25), (1, .int r)], [], _, 0, 0)) rfl ?_
          refine pm_go (g := (154, _, [.int 0], _, 0, 0)) rfl ?_
          refine pm_brF (h := (157, [(3, .int (c + 1)), (6, .int 1), (5, .int (nI k)), (4, .int 0), (2, .int (mRt r.toNatClampNeg)), (0, .ref 25), (1, .int r)], [], hq g c1 c2 c3 c4 c5 c6 c7 c8 c9 c10 c11 c12 c13 c14 c15 c16 c17 c18 c19 c20 c21 c22 c23 c24 (hc25 mTy mTm mMn mFn mRn mTn mVn mLr mTr mFl mFm mFp mSc mMp mEn) (hc26 mPa) (hc27 mTo) (hc28 mOt) (hc29 mNa) (hc30 mRe) (hc31 mMa) (hc32 mMy) (hc33 mPm) (hc34 mFy) (hc35 mFa) (hc36 mFr) (hc37 mFo) (hc38 mRt) (hc39 mRm) (hc40 mTt) (hc41 mTi) (hc42 mPl) (hc43 mVr) (hc44 mVf) (hc45 mVc) (hc46 mAr) (hc47 mTc) (hc48 mFt) (hc49 mGo) dyn, 0, 0)) rfl ?_
          refine pm_go (g := (159, _, [.int 1], _, 0, 0)) rfl ?_
          refine pm_brF (h := (162, [(3, .int (c + 1)), (6, .int 1), (5, .int (nI k)), (4, .int 0), (2, .int (mRt r.toNatClampNeg)), (0, .ref 25), (1, .int r)], [], hq g c1 c2 c3 c4 c5 c6 c7 c8 c9 c10 c11 c12 c13 c14 c15 c16 c17 c18 c19 c20 c21 c22 c23 c24 (hc25 mTy mTm mMn mFn mRn mTn mVn mLr mTr mFl mFm mFp mSc mMp mEn) (hc26 mPa) (hc27 mTo) (hc28 mOt) (hc29 mNa) (hc30 mRe) (hc31 mMa) (hc32 mMy) (hc33 mPm) (hc34 mFy) (hc35 mFa) (hc36 mFr) (hc37 mFo) (hc38 mRt) (hc39 mRm) (hc40 mTt) (hc41 mTi) (hc42 mPl) (hc43 mVr) (hc44 mVf) (hc45 mVc) (hc46 mAr) (hc47 mTc) (hc48 mFt) (hc49 mGo) dyn, 0, 0)) rfl ?_
          refine pm_go (g := (163, _, [.ref 25], _, 0, 0)) rfl ?_
          refine pm_go (g := (165, _, [.int (nI k), .ref 25], _, 0, 0)) rfl ?_
          refine pm_go (g := (166, _, [.int 4, .int (nI k), .ref 25], _, 0, 0)) rfl ?_
          refine pm_callD (z := 139) (as := [.ref 25, .int (nI k), .int 4]) (rest := []) rfl ?_
          have h13 : (4 : Int32).toInt = 4 := by decide
          refine w_X12_isMark (nI k) 4 (by omega) (fun h14 => ?_) (fun h15 => ?_)
          ·
            show pm_WP 168 (169, [(3, .int (c + 1)), (6, .int 1), (5, .int (nI k)), (4, .int 0), (2, .int (mRt r.toNatClampNeg)), (0, .ref 25), (1, .int r)], [.int 1], _, 0, 0) _
            refine pm_brF (h := (172, [(3, .int (c + 1)), (6, .int 1), (5, .int (nI k)), (4, .int 0), (2, .int (mRt r.toNatClampNeg)), (0, .ref 25), (1, .int r)], [], hq g c1 c2 c3 c4 c5 c6 c7 c8 c9 c10 c11 c12 c13 c14 c15 c16 c17 c18 c19 c20 c21 c22 c23 c24 (hc25 mTy mTm mMn mFn mRn mTn mVn mLr mTr mFl mFm mFp mSc mMp mEn) (hc26 mPa) (hc27 mTo) (hc28 mOt) (hc29 mNa) (hc30 mRe) (hc31 mMa) (hc32 mMy) (hc33 mPm) (hc34 mFy) (hc35 mFa) (hc36 mFr) (hc37 mFo) (hc38 mRt) (hc39 mRm) (hc40 mTt) (hc41 mTi) (hc42 mPl) (hc43 mVr) (hc44 mVf) (hc45 mVc) (hc46 mAr) (hc47 mTc) (hc48 mFt) (hc49 mGo) dyn, 0, 0)) rfl ?_
            refine pm_go (g := (173, _, [.int 1], _, 0, 0)) rfl ?_
            refine pm_go (g := (177, _, [.int 1], _, 0, 0)) rfl ?_
            refine pm_go (g := (179, [(4, .int 1), (3, .int (c + 1)), (6, .int 1), (5, .int (nI k)), (2, .int (mRt r.toNatClampNeg)), (0, .ref 25), (1, .int r)], [], _, 0, 0)) rfl ?_
            refine pm_go (g := (182, [(5, .int ((nI k) + 1)), (4, .int 1), (3, .int (c + 1)), (6, .int 1), (2, .int (mRt r.toNatClampNeg)), (0, .ref 25), (1, .int r)], [], _, 0, 0)) rfl ?_
            refine pm_go (g := (37, _, [], _, 0, 0)) rfl ?_
            refine pm_sub (lv := [(5, .int ((nI k) + 1)), (4, .int 1), (3, .int (c + 1)), (2, .int (mRt r.toNatClampNeg)), (0, .ref 25), (1, .int r)]) ?_ ⟨le_c (List.Mem.head _) (le_c (List.Mem.tail _ (List.Mem.head _)) (le_c (List.Mem.tail _ (List.Mem.tail _ (List.Mem.head _))) (le_c (List.Mem.tail _ (List.Mem.tail _ (List.Mem.tail _ (List.Mem.tail _ (List.Mem.head _))))) (le_c (List.Mem.tail _ (List.Mem.tail _ (List.Mem.tail _ (List.Mem.tail _ (List.Mem.tail _ (List.Mem.head _)))))) (le_c (List.Mem.tail _ (List.Mem.tail _ (List.Mem.tail _ (List.Mem.tail _ (List.Mem.tail _ (List.Mem.tail _ (List.Mem.head _))))))) le_n))))), (show ([5, 4, 3, 6, 2, 0, 1] : List Nat).Nodup by decide)⟩
            rw [nI_1]
            have hj : exJ mPa mOt mNa mMy mPm mMn (mFo r.toNatClampNeg) (mRt r.toNatClampNeg) (mRm r.toNatClampNeg) k := by first | exact Or.inl ⟨by omega, by omega, by omega⟩ | exact Or.inr ⟨by omega, by omega, Or.inl ⟨by omega, by assumption⟩⟩ | exact Or.inr ⟨by omega, by omega, Or.inr ⟨by omega, by assumption⟩⟩
            have hc1 : (c + 1).toInt = c.toInt + 1 := iAdd rfl (by decide) (by omega) (by omega)
            exact w_exact_loop1 r hr ht hp hy hn n (k + 1) (c + 1) (by omega) (by omega) (by omega) (k1 (fun q => absurd (q.1 k (by omega) hj) (by omega)))
          show pm_WP 168 (169, [(3, .int (c + 1)), (6, .int 1), (5, .int (nI k)), (4, .int 0), (2, .int (mRt r.toNatClampNeg)), (0, .ref 25), (1, .int r)], [.int 0], hq g c1 c2 c3 c4 c5 c6 c7 c8 c9 c10 c11 c12 c13 c14 c15 c16 c17 c18 c19 c20 c21 c22 c23 c24 (hc25 mTy mTm mMn mFn mRn mTn mVn mLr mTr mFl mFm mFp mSc mMp mEn) (hc26 mPa) (hc27 mTo) (hc28 mOt) (hc29 mNa) (hc30 mRe) (hc31 mMa) (hc32 mMy) (hc33 mPm) (hc34 mFy) (hc35 mFa) (hc36 mFr) (hc37 mFo) (hc38 mRt) (hc39 mRm) (hc40 mTt) (hc41 mTi) (hc42 mPl) (hc43 mVr) (hc44 mVf) (hc45 mVc) (hc46 mAr) (hc47 mTc) (hc48 mFt) (hc49 mGo) dyn, 0, 0) _
          refine pm_brT (g := (176, [(3, .int (c + 1)), (6, .int 1), (5, .int (nI k)), (4, .int 0), (2, .int (mRt r.toNatClampNeg)), (0, .ref 25), (1, .int r)], [], hq g c1 c2 c3 c4 c5 c6 c7 c8 c9 c10 c11 c12 c13 c14 c15 c16 c17 c18 c19 c20 c21 c22 c23 c24 (hc25 mTy mTm mMn mFn mRn mTn mVn mLr mTr mFl mFm mFp mSc mMp mEn) (hc26 mPa) (hc27 mTo) (hc28 mOt) (hc29 mNa) (hc30 mRe) (hc31 mMa) (hc32 mMy) (hc33 mPm) (hc34 mFy) (hc35 mFa) (hc36 mFr) (hc37 mFo) (hc38 mRt) (hc39 mRm) (hc40 mTt) (hc41 mTi) (hc42 mPl) (hc43 mVr) (hc44 mVf) (hc45 mVc) (hc46 mAr) (hc47 mTc) (hc48 mFt) (hc49 mGo) dyn, 0, 0)) rfl ?_
          refine pm_go (g := (177, _, [.int 0], _, 0, 0)) rfl ?_
          refine pm_go (g := (179, [(4, .int 0), (3, .int (c + 1)), (6, .int 1), (5, .int (nI k)), (2, .int (mRt r.toNatClampNeg)), (0, .ref 25), (1, .int r)], [], _, 0, 0)) rfl ?_
          refine pm_go (g := (182, [(5, .int ((nI k) + 1)), (4, .int 0), (3, .int (c + 1)), (6, .int 1), (2, .int (mRt r.toNatClampNeg)), (0, .ref 25), (1, .int r)], [], _, 0, 0)) rfl ?_
          refine pm_go (g := (37, _, [], _, 0, 0)) rfl ?_
          refine pm_sub (lv := [(5, .int ((nI k) + 1)), (4, .int 0), (3, .int (c + 1)), (2, .int (mRt r.toNatClampNeg)), (0, .ref 25), (1, .int r)]) ?_ ⟨le_c (List.Mem.head _) (le_c (List.Mem.tail _ (List.Mem.head _)) (le_c (List.Mem.tail _ (List.Mem.tail _ (List.Mem.head _))) (le_c (List.Mem.tail _ (List.Mem.tail _ (List.Mem.tail _ (List.Mem.tail _ (List.Mem.head _))))) (le_c (List.Mem.tail _ (List.Mem.tail _ (List.Mem.tail _ (List.Mem.tail _ (List.Mem.tail _ (List.Mem.head _)))))) (le_c (List.Mem.tail _ (List.Mem.tail _ (List.Mem.tail _ (List.Mem.tail _ (List.Mem.tail _ (List.Mem.tail _ (List.Mem.head _))))))) le_n))))), (show ([5, 4, 3, 6, 2, 0, 1] : List Nat).Nodup by decide)⟩
          rw [nI_1]
          have hj : exJ mPa mOt mNa mMy mPm mMn (mFo r.toNatClampNeg) (mRt r.toNatClampNeg) (mRm r.toNatClampNeg) k := by first | exact Or.inl ⟨by omega, by omega, by omega⟩ | exact Or.inr ⟨by omega, by omega, Or.inl ⟨by omega, by assumption⟩⟩ | exact Or.inr ⟨by omega, by omega, Or.inr ⟨by omega, by assumption⟩⟩
          have hc1 : (c + 1).toInt = c.toInt + 1 := iAdd rfl (by decide) (by omega) (by omega)
          refine ih (k + 1) (nI k) (c + 1) (by omega) (by omega) (bsM_y g3 hj hc1) (fun j q q2 => ?_) k0 k1
          rcases Nat.lt_succ_iff_lt_or_eq.mp q with q | q
          · exact g4 j q q2
          · subst q; omega
        show pm_WP 168 (129, [(5, .int (nI k)), (4, .int 0), (3, .int c), (2, .int (mRt r.toNatClampNeg)), (0, .ref 25), (1, .int r)], [.int 0], hq g c1 c2 c3 c4 c5 c6 c7 c8 c9 c10 c11 c12 c13 c14 c15 c16 c17 c18 c19 c20 c21 c22 c23 c24 (hc25 mTy mTm mMn mFn mRn mTn mVn mLr mTr mFl mFm mFp mSc mMp mEn) (hc26 mPa) (hc27 mTo) (hc28 mOt) (hc29 mNa) (hc30 mRe) (hc31 mMa) (hc32 mMy) (hc33 mPm) (hc34 mFy) (hc35 mFa) (hc36 mFr) (hc37 mFo) (hc38 mRt) (hc39 mRm) (hc40 mTt) (hc41 mTi) (hc42 mPl) (hc43 mVr) (hc44 mVf) (hc45 mVc) (hc46 mAr) (hc47 mTc) (hc48 mFt) (hc49 mGo) dyn, 0, 0) _
        refine pm_brT (g := (136, [(5, .int (nI k)), (4, .int 0), (3, .int c), (2, .int (mRt r.toNatClampNeg)), (0, .ref 25), (1, .int r)], [], hq g c1 c2 c3 c4 c5 c6 c7 c8 c9 c10 c11 c12 c13 c14 c15 c16 c17 c18 c19 c20 c21 c22 c23 c24 (hc25 mTy mTm mMn mFn mRn mTn mVn mLr mTr mFl mFm mFp mSc mMp mEn) (hc26 mPa) (hc27 mTo) (hc28 mOt) (hc29 mNa) (hc30 mRe) (hc31 mMa) (hc32 mMy) (hc33 mPm) (hc34 mFy) (hc35 mFa) (hc36 mFr) (hc37 mFo) (hc38 mRt) (hc39 mRm) (hc40 mTt) (hc41 mTi) (hc42 mPl) (hc43 mVr) (hc44 mVf) (hc45 mVc) (hc46 mAr) (hc47 mTc) (hc48 mFt) (hc49 mGo) dyn, 0, 0)) rfl ?_
        refine pm_go (g := (137, _, [.int 0], _, 0, 0)) rfl ?_
        refine pm_go (g := (139, [(6, .int 0), (5, .int (nI k)), (4, .int 0), (3, .int c), (2, .int (mRt r.toNatClampNeg)), (0, .ref 25), (1, .int r)], [], _, 0, 0)) rfl ?_
        refine pm_go (g := (140, _, [.int c], _, 0, 0)) rfl ?_
        refine pm_go (g := (142, _, [.int 0, .int c], _, 0, 0)) rfl ?_
        refine pm_brT (g := (149, [(6, .int 0), (5, .int (nI k)), (4, .int 0), (3, .int c), (2, .int (mRt r.toNatClampNeg)), (0, .ref 25), (1, .int r)], [.int c], hq g c1 c2 c3 c4 c5 c6 c7 c8 c9 c10 c11 c12 c13 c14 c15 c16 c17 c18 c19 c20 c21 c22 c23 c24 (hc25 mTy mTm mMn mFn mRn mTn mVn mLr mTr mFl mFm mFp mSc mMp mEn) (hc26 mPa) (hc27 mTo) (hc28 mOt) (hc29 mNa) (hc30 mRe) (hc31 mMa) (hc32 mMy) (hc33 mPm) (hc34 mFy) (hc35 mFa) (hc36 mFr) (hc37 mFo) (hc38 mRt) (hc39 mRm) (hc40 mTt) (hc41 mTi) (hc42 mPl) (hc43 mVr) (hc44 mVf) (hc45 mVc) (hc46 mAr) (hc47 mTc) (hc48 mFt) (hc49 mGo) dyn, 0, 0)) rfl ?_
        refine pm_go (g := (150, _, [.int 0, .int c], _, 0, 0)) rfl ?_
        refine pm_go (g := (151, _, [.int (c + 0)], _, 0, 0)) rfl ?_
        try have h17 : (c + 0).toInt = (c).toInt + 0 := iAdd (x := (c).toInt) (y := 0) rfl (by decide) (by omega) (by omega)
        refine pm_go (g := (152, [(3, .int (c + 0)), (6, .int 0), (5, .int (nI k)), (4, .int 0), (2, .int (mRt r.toNatClampNeg)), (0, .ref 25), (1, .int r)], [], _, 0, 0)) rfl ?_
        refine pm_go (g := (154, _, [.int 0], _, 0, 0)) rfl ?_
        refine pm_brF (h := (157, [(3, .int (c + 0)), (6, .int 0), (5, .int (nI k)), (4, .int 0), (2, .int (mRt r.toNatClampNeg)), (0, .ref 25), (1, .int r)], [], hq g c1 c2 c3 c4 c5 c6 c7 c8 c9 c10 c11 c12 c13 c14 c15 c16 c17 c18 c19 c20 c21 c22 c23 c24 (hc25 mTy mTm mMn mFn mRn mTn mVn mLr mTr mFl mFm mFp mSc mMp mEn) (hc26 mPa) (hc27 mTo) (hc28 mOt) (hc29 mNa) (hc30 mRe) (hc31 mMa) (hc32 mMy) (hc33 mPm) (hc34 mFy) (hc35 mFa) (hc36 mFr) (hc37 mFo) (hc38 mRt) (hc39 mRm) (hc40 mTt) (hc41 mTi) (hc42 mPl) (hc43 mVr) (hc44 mVf) (hc45 mVc) (hc46 mAr) (hc47 mTc) (hc48 mFt) (hc49 mGo) dyn, 0, 0)) rfl ?_
        refine pm_go (g := (159, _, [.int 0], _, 0, 0)) rfl ?_
        refine pm_brT (g := (176, [(3, .int (c + 0)), (6, .int 0), (5, .int (nI k)), (4, .int 0), (2, .int (mRt r.toNatClampNeg)), (0, .ref 25), (1, .int r)], [], hq g c1 c2 c3 c4 c5 c6 c7 c8 c9 c10 c11 c12 c13 c14 c15 c16 c17 c18 c19 c20 c21 c22 c23 c24 (hc25 mTy mTm mMn mFn mRn mTn mVn mLr mTr mFl mFm mFp mSc mMp mEn) (hc26 mPa) (hc27 mTo) (hc28 mOt) (hc29 mNa) (hc30 mRe) (hc31 mMa) (hc32 mMy) (hc33 mPm) (hc34 mFy) (hc35 mFa) (hc36 mFr) (hc37 mFo) (hc38 mRt) (hc39 mRm) (hc40 mTt) (hc41 mTi) (hc42 mPl) (hc43 mVr) (hc44 mVf) (hc45 mVc) (hc46 mAr) (hc47 mTc) (hc48 mFt) (hc49 mGo) dyn, 0, 0)) rfl ?_
        refine pm_go (g := (177, _, [.int 0], _, 0, 0)) rfl ?_
        refine pm_go (g := (179, [(4, .int 0), (3, .int (c + 0)), (6, .int 0), (5, .int (nI k)), (2, .int (mRt r.toNatClampNeg)), (0, .ref 25), (1, .int r)], [], _, 0, 0)) rfl ?_
        refine pm_go (g := (182, [(5, .int ((nI k) + 1)), (4, .int 0), (3, .int (c + 0)), (6, .int 0), (2, .int (mRt r.toNatClampNeg)), (0, .ref 25), (1, .int r)], [], _, 0, 0)) rfl ?_
        refine pm_go (g := (37, _, [], _, 0, 0)) rfl ?_
        refine pm_sub (lv := [(5, .int ((nI k) + 1)), (4, .int 0), (3, .int (c + 0)), (2, .int (mRt r.toNatClampNeg)), (0, .ref 25), (1, .int r)]) ?_ ⟨le_c (List.Mem.head _) (le_c (List.Mem.tail _ (List.Mem.head _)) (le_c (List.Mem.tail _ (List.Mem.tail _ (List.Mem.head _))) (le_c (List.Mem.tail _ (List.Mem.tail _ (List.Mem.tail _ (List.Mem.tail _ (List.Mem.head _))))) (le_c (List.Mem.tail _ (List.Mem.tail _ (List.Mem.tail _ (List.Mem.tail _ (List.Mem.tail _ (List.Mem.head _)))))) (le_c (List.Mem.tail _ (List.Mem.tail _ (List.Mem.tail _ (List.Mem.tail _ (List.Mem.tail _ (List.Mem.tail _ (List.Mem.head _))))))) le_n))))), (show ([5, 4, 3, 6, 2, 0, 1] : List Nat).Nodup by decide)⟩
        rw [nI_1]
        have hj : ¬ exJ mPa mOt mNa mMy mPm mMn (mFo r.toNatClampNeg) (mRt r.toNatClampNeg) (mRm r.toNatClampNeg) k := by rintro (⟨q1, q2, q3⟩ | ⟨q1, q2, ⟨q3, q4⟩ | ⟨q3, q4⟩⟩) <;> first | omega | contradiction
        have hc1 : (c + 0).toInt = c.toInt + 0 := iAdd rfl (by decide) (by omega) (by omega)
        refine ih (k + 1) b (c + 0) (by omega) (by omega) ?_ (fun j q q2 => ?_) k0 k1
        · rw [show (c + 0) = c from xJ (by omega)]; exact bsM_n g3 hj
        · rcases Nat.lt_succ_iff_lt_or_eq.mp q with q | q
          · exact g4 j q q2
          · subst q; exact absurd q2 hj
      have h8 := qF_ne (cx := (mFo (r).toNatClampNeg).toInt) (cy := 2) rfl (by decide) h8
      refine pm_go (g := (115, [(5, .int (nI k)), (4, .int 0), (3, .int c), (2, .int (mRt r.toNatClampNeg)), (0, .ref 25), (1, .int r)], [.ref 25, .ref 25], _, 0, 0)) rfl ?_
      refine pm_go (g := (118, _, [.ref 26, .ref 25], _, 0, 0)) rfl ?_
      refine pm_go (g := (119, _, [.int (mRt r.toNatClampNeg), .ref 26, .ref 25], _, 0, 0)) rfl ?_
      refine pm_sd (g := (120, _, [.int (mPa (mRt r.toNatClampNeg).toNatClampNeg), .ref 25], _, 0, 0)) rfl (pm_inI (by omega) (by omega)) ?_
      refine pm_go (g := (124, _, [.int (mPa (mRt r.toNatClampNeg).toNatClampNeg), .ref 25], _, 0, 0)) rfl ?_
      refine pm_go (g := (126, _, [.int (nI k), .int (mPa (mRt r.toNatClampNeg).toNatClampNeg), .ref 25], _, 0, 0)) rfl ?_
      refine pm_callD (z := 143) (as := [.ref 25, .int (mPa (mRt r.toNatClampNeg).toNatClampNeg), .int (nI k)]) (rest := []) rfl ?_
      refine w_X12_isHad (mPa (mRt r.toNatClampNeg).toNatClampNeg) (nI k) (by omega) (by assumption) (by assumption) (by omega) (fun h18 => ?_) (fun h19 => ?_)
      ·
        show pm_WP 168 (129, [(5, .int (nI k)), (4, .int 0), (3, .int c), (2, .int (mRt r.toNatClampNeg)), (0, .ref 25), (1, .int r)], [.int 1], _, 0, 0) _
        refine pm_brF (h := (132, [(5, .int (nI k)), (4, .int 0), (3, .int c), (2, .int (mRt r.toNatClampNeg)), (0, .ref 25), (1, .int r)], [], hq g c1 c2 c3 c4 c5 c6 c7 c8 c9 c10 c11 c12 c13 c14 c15 c16 c17 c18 c19 c20 c21 c22 c23 c24 (hc25 mTy mTm mMn mFn mRn mTn mVn mLr mTr mFl mFm mFp mSc mMp mEn) (hc26 mPa) (hc27 mTo) (hc28 mOt) (hc29 mNa) (hc30 mRe) (hc31 mMa) (hc32 mMy) (hc33 mPm) (hc34 mFy) (hc35 mFa) (hc36 mFr) (hc37 mFo) (hc38 mRt) (hc39 mRm) (hc40 mTt) (hc41 mTi) (hc42 mPl) (hc43 mVr) (hc44 mVf) (hc45 mVc) (hc46 mAr) (hc47 mTc) (hc48 mFt) (hc49 mGo) dyn, 0, 0)) rfl ?_
        refine pm_go (g := (133, _, [.int 1], _, 0, 0)) rfl ?_
        refine pm_go (g := (137, _, [.int 1], _, 0, 0)) rfl ?_
        refine pm_go (g := (139, [(6, .int 1), (5, .int (nI k)), (4, .int 0), (3, .int c), (2, .int (mRt r.toNatClampNeg)), (0, .ref 25), (1, .int r)], [], _, 0, 0)) rfl ?_
        refine pm_go (g := (140, _, [.int c], _, 0, 0)) rfl ?_
        refine pm_go (g := (142, _, [.int 1, .int c], _, 0, 0)) rfl ?_
        refine pm_brF (h := (145, [(6, .int 1), (5, .int (nI k)), (4, .int 0), (3, .int c), (2, .int (mRt r.toNatClampNeg)), (0, .ref 25), (1, .int r)], [.int c], hq g c1 c2 c3 c4 c5 c6 c7 c8 c9 c10 c11 c12 c13 c14 c15 c16 c17 c18 c19 c20 c21 c22 c23 c24 (hc25 mTy mTm mMn mFn mRn mTn mVn mLr mTr mFl mFm mFp mSc mMp mEn) (hc26 mPa) (hc27 mTo) (hc28 mOt) (hc29 mNa) (hc30 mRe) (hc31 mMa) (hc32 mMy) (hc33 mPm) (hc34 mFy) (hc35 mFa) (hc36 mFr) (hc37 mFo) (hc38 mRt) (hc39 mRm) (hc40 mTt) (hc41 mTi) (hc42 mPl) (hc43 mVr) (hc44 mVf) (hc45 mVc) (hc46 mAr) (hc47 mTc) (hc48 mFt) (hc49 mGo) dyn, 0, 0)) rfl ?_
        refine pm_go (g := (146, _, [.int 1, .int c], _, 0, 0)) rfl ?_
        refine pm_go (g := (150, _, [.int 1, .int c], _, 0, 0)) rfl ?_
        refine pm_go (g := (151, _, [.int (c + 1)], _, 0, 0)) rfl ?_
        try have h21 : (c + 1).toInt = (c).toInt + 1 := iAdd (x := (c).toInt) (y := 1) rfl (by decide) (by omega) (by omega)
        refine pm_go (g := (152, [(3, .int (c + 1)), (6, .int 1), (5, .int (nI k)), (4, .int 0), (2, .int (mRt r.toNatClampNeg)), (0, .ref 25), (1, .int r)], [], _, 0, 0)) rfl ?_
        refine pm_go (g := (154, _, [.int 0], _, 0, 0)) rfl ?_
        refine pm_brF (h := (157, [(3, .int (c + 1)), (6, .int 1), (5, .int (nI k)), (4, .int 0), (2, .int (mRt r.toNatClampNeg)), (0, .ref 25), (1, .int r)], [], hq g c1 c2 c3 c4 c5 c6 c7 c8 c9 c10 c11 c12 c13 c14 c15 c16 c17 c18 c19 c20 c21 c22 c23 c24 (hc25 mTy mTm mMn mFn mRn mTn mVn mLr mTr mFl mFm mFp mSc mMp mEn) (hc26 mPa) (hc27 mTo) (hc28 mOt) (hc29 mNa) (hc30 mRe) (hc31 mMa) (hc32 mMy) (hc33 mPm) (hc34 mFy) (hc35 mFa) (hc36 mFr) (hc37 mFo) (hc38 mRt) (hc39 mRm) (hc40 mTt) (hc41 mTi) (hc42 mPl) (hc43 mVr) (hc44 mVf) (hc45 mVc) (hc46 mAr) (hc47 mTc) (hc48 mFt) (hc49 mGo) dyn, 0, 0)) rfl ?_
        refine pm_go (g := (159, _, [.int 1], _, 0, 0)) rfl ?_
        refine pm_brF (h := (162, [(3, .int (c + 1)), (6, .int 1), (5, .int (nI k)), (4, .int 0), (2, .int (mRt r.toNatClampNeg)), (0, .ref 25), (1, .int r)], [], hq g c1 c2 c3 c4 c5 c6 c7 c8 c9 c10 c11 c12 c13 c14 c15 c16 c17 c18 c19 c20 c21 c22 c23 c24 (hc25 mTy mTm mMn mFn mRn mTn mVn mLr mTr mFl mFm mFp mSc mMp mEn) (hc26 mPa) (hc27 mTo) (hc28 mOt) (hc29 mNa) (hc30 mRe) (hc31 mMa) (hc32 mMy) (hc33 mPm) (hc34 mFy) (hc35 mFa) (hc36 mFr) (hc37 mFo) (hc38 mRt) (hc39 mRm) (hc40 mTt) (hc41 mTi) (hc42 mPl) (hc43 mVr) (hc44 mVf) (hc45 mVc) (hc46 mAr) (hc47 mTc) (hc48 mFt) (hc49 mGo) dyn, 0, 0)) rfl ?_
        refine pm_go (g := (163, _, [.ref 25], _, 0, 0)) rfl ?_
        refine pm_go (g := (165, _, [.int (nI k), .ref 25], _, 0, 0)) rfl ?_
        refine pm_go (g := (166, _, [.int 4, .int (nI k), .ref 25], _, 0, 0)) rfl ?_
        refine pm_callD (z := 139) (as := [.ref 25, .int (nI k), .int 4]) (rest := []) rfl ?_
        have h22 : (4 : Int32).toInt = 4 := by decide
        refine w_X12_isMark (nI k) 4 (by omega) (fun h23 => ?_) (fun h24 => ?_)
        ·
          show pm_WP 168 (169, [(3, .int (c + 1)), (6, .int 1), (5, .int (nI k)), (4, .int 0), (2, .int (mRt r.toNatClampNeg)), (0, .ref 25), (1, .int r)], [.int 1], _, 0, 0) _
          refine pm_brF (h := (172, [(3, .int (c + 1)), (6, .int 1), (5, .int (nI k)), (4, .int 0), (2, .int (mRt r.toNatClampNeg)), (0, .ref 25), (1, .int r)], [], hq g c1 c2 c3 c4 c5 c6 c7 c8 c9 c10 c11 c12 c13 c14 c15 c16 c17 c18 c19 c20 c21 c22 c23 c24 (hc25 mTy mTm mMn mFn mRn mTn mVn mLr mTr mFl mFm mFp mSc mMp mEn) (hc26 mPa) (hc27 mTo) (hc28 mOt) (hc29 mNa) (hc30 mRe) (hc31 mMa) (hc32 mMy) (hc33 mPm) (hc34 mFy) (hc35 mFa) (hc36 mFr) (hc37 mFo) (hc38 mRt) (hc39 mRm) (hc40 mTt) (hc41 mTi) (hc42 mPl) (hc43 mVr) (hc44 mVf) (hc45 mVc) (hc46 mAr) (hc47 mTc) (hc48 mFt) (hc49 mGo) dyn, 0, 0)) rfl ?_
          refine pm_go (g := (173, _, [.int 1], _, 0, 0)) rfl ?_
          refine pm_go (g := (177, _, [.int 1], _, 0, 0)) rfl ?_
          refine pm_go (g := (179, [(4, .int 1), (3, .int (c + 1)), (6, .int 1), (5, .int (nI k)), (2, .int (mRt r.toNatClampNeg)), (0, .ref 25), (1, .int r)], [], _, 0, 0)) rfl ?_
          refine pm_go (g := (182, [(5, .int ((nI k) + 1)), (4, .int 1), (3, .int (c + 1)), (6, .int 1), (2, .int (mRt r.toNatClampNeg)), (0, .ref 25), (1, .int r)], [], _, 0, 0)) rfl ?_
          refine pm_go (g := (37, _, [], _, 0, 0)) rfl ?_
          refine pm_sub (lv := [(5, .int ((nI k) + 1)), (4, .int 1), (3, .int (c + 1)), (2, .int (mRt r.toNatClampNeg)), (0, .ref 25), (1, .int r)]) ?_ ⟨le_c (List.Mem.head _) (le_c (List.Mem.tail _ (List.Mem.head _)) (le_c (List.Mem.tail _ (List.Mem.tail _ (List.Mem.head _))) (le_c (List.Mem.tail _ (List.Mem.tail _ (List.Mem.tail _ (List.Mem.tail _ (List.Mem.head _))))) (le_c (List.Mem.tail _ (List.Mem.tail _ (List.Mem.tail _ (List.Mem.tail _ (List.Mem.tail _ (List.Mem.head _)))))) (le_c (List.Mem.tail _ (List.Mem.tail _ (List.Mem.tail _ (List.Mem.tail _ (List.Mem.tail _ (List.Mem.tail _ (List.Mem.head _))))))) le_n))))), (show ([5, 4, 3, 6, 2, 0, 1] : List Nat).Nodup by decide)⟩
          rw [nI_1]
          have hj : exJ mPa mOt mNa mMy mPm mMn (mFo r.toNatClampNeg) (mRt r.toNatClampNeg) (mRm r.toNatClampNeg) k := by first | exact Or.inl ⟨by omega, by omega, by omega⟩ | exact Or.inr ⟨by omega, by omega, Or.inl ⟨by omega, by assumption⟩⟩ | exact Or.inr ⟨by omega, by omega, Or.inr ⟨by omega, by assumption⟩⟩
          have hc1 : (c + 1).toInt = c.toInt + 1 := iAdd rfl (by decide) (by omega) (by omega)
          exact w_exact_loop1 r hr ht hp hy hn n (k + 1) (c + 1) (by omega) (by omega) (by omega) (k1 (fun q => absurd (q.1 k (by omega) hj) (by omega)))
        show pm_WP 168 (169, [(3, .int (c + 1)), (6, .int 1), (5, .int (nI k)), (4, .int 0), (2, .int (mRt r.toNatClampNeg)), (0, .ref 25), (1, .int r)], [.int 0], hq g c1 c2 c3 c4 c5 c6 c7 c8 c9 c10 c11 c12 c13 c14 c15 c16 c17 c18 c19 c20 c21 c22 c23 c24 (hc25 mTy mTm mMn mFn mRn mTn mVn mLr mTr mFl mFm mFp mSc mMp mEn) (hc26 mPa) (hc27 mTo) (hc28 mOt) (hc29 mNa) (hc30 mRe) (hc31 mMa) (hc32 mMy) (hc33 mPm) (hc34 mFy) (hc35 mFa) (hc36 mFr) (hc37 mFo) (hc38 mRt) (hc39 mRm) (hc40 mTt) (hc41 mTi) (hc42 mPl) (hc43 mVr) (hc44 mVf) (hc45 mVc) (hc46 mAr) (hc47 mTc) (hc48 mFt) (hc49 mGo) dyn, 0, 0) _
        refine pm_brT (g := (176, [(3, .int (c + 1)), (6, .int 1), (5, .int (nI k)), (4, .int 0), (2, .int (mRt r.toNatClampNeg)), (0, .ref 25), (1, .int r)], [], hq g c1 c2 c3 c4 c5 c6 c7 c8 c9 c10 c11 c12 c13 c14 c15 c16 c17 c18 c19 c20 c21 c22 c23 c24 (hc25 mTy mTm mMn mFn mRn mTn mVn mLr mTr mFl mFm mFp mSc mMp mEn) (hc26 mPa) (hc27 mTo) (hc28 mOt) (hc29 mNa) (hc30 mRe) (hc31 mMa) (hc32 mMy) (hc33 mPm) (hc34 mFy) (hc35 mFa) (hc36 mFr) (hc37 mFo) (hc38 mRt) (hc39 mRm) (hc40 mTt) (hc41 mTi) (hc42 mPl) (hc43 mVr) (hc44 mVf) (hc45 mVc) (hc46 mAr) (hc47 mTc) (hc48 mFt) (hc49 mGo) dyn, 0, 0)) rfl ?_
        refine pm_go (g := (177, _, [.int 0], _, 0, 0)) rfl ?_
        refine pm_go (g := (179, [(4, .int 0), (3, .int (c + 1)), (6, .int 1), (5, .int (nI k)), (2, .int (mRt r.toNatClampNeg)), (0, .ref 25), (1, .int r)], [], _, 0, 0)) rfl ?_
        refine pm_go (g := (182, [(5, .int ((nI k) + 1)), (4, .int 0), (3, .int (c + 1)), (6, .int 1), (2, .int (mRt r.toNatClampNeg)), (0, .ref 25), (1, .int r)], [], _, 0, 0)) rfl ?_
        refine pm_go (g := (37, _, [], _, 0, 0)) rfl ?_
        refine pm_sub (lv := [(5, .int ((nI k) + 1)), (4, .int 0), (3, .int (c + 1)), (2, .int (mRt r.toNatClampNeg)), (0, .ref 25), (1, .int r)]) ?_ ⟨le_c (List.Mem.head _) (le_c (List.Mem.tail _ (List.Mem.head _)) (le_c (List.Mem.tail _ (List.Mem.tail _ (List.Mem.head _))) (le_c (List.Mem.tail _ (List.Mem.tail _ (List.Mem.tail _ (List.Mem.tail _ (List.Mem.head _))))) (le_c (List.Mem.tail _ (List.Mem.tail _ (List.Mem.tail _ (List.Mem.tail _ (List.Mem.tail _ (List.Mem.head _)))))) (le_c (List.Mem.tail _ (List.Mem.tail _ (List.Mem.tail _ (List.Mem.tail _ (List.Mem.tail _ (List.Mem.tail _ (List.Mem.head _))))))) le_n))))), (show ([5, 4, 3, 6, 2, 0, 1] : List Nat).Nodup by decide)⟩
        rw [nI_1]
        have hj : exJ mPa mOt mNa mMy mPm mMn (mFo r.toNatClampNeg) (mRt r.toNatClampNeg) (mRm r.toNatClampNeg) k := by first | exact Or.inl ⟨by omega, by omega, by omega⟩ | exact Or.inr ⟨by omega, by omega, Or.inl ⟨by omega, by assumption⟩⟩ | exact Or.inr ⟨by omega, by omega, Or.inr ⟨by omega, by assumption⟩⟩
        have hc1 : (c + 1).toInt = c.toInt + 1 := iAdd rfl (by decide) (by omega) (by omega)
        refine ih (k + 1) (nI k) (c + 1) (by omega) (by omega) (bsM_y g3 hj hc1) (fun j q q2 => ?_) k0 k1
        rcases Nat.lt_succ_iff_lt_or_eq.mp q with q | q
        · exact g4 j q q2
        · subst q; omega
      show pm_WP 168 (129, [(5, .int (nI k)), (4, .int 0), (3, .int c), (2, .int (mRt r.toNatClampNeg)), (0, .ref 25), (1, .int r)], [.int 0], hq g c1 c2 c3 c4 c5 c6 c7 c8 c9 c10 c11 c12 c13 c14 c15 c16 c17 c18 c19 c20 c21 c22 c23 c24 (hc25 mTy mTm mMn mFn mRn mTn mVn mLr mTr mFl mFm mFp mSc mMp mEn) (hc26 mPa) (hc27 mTo) (hc28 mOt) (hc29 mNa) (hc30 mRe) (hc31 mMa) (hc32 mMy) (hc33 mPm) (hc34 mFy) (hc35 mFa) (hc36 mFr) (hc37 mFo) (hc38 mRt) (hc39 mRm) (hc40 mTt) (hc41 mTi) (hc42 mPl) (hc43 mVr) (hc44 mVf) (hc45 mVc) (hc46 mAr) (hc47 mTc) (hc48 mFt) (hc49 mGo) dyn, 0, 0) _
      refine pm_brT (g := (136, [(5, .int (nI k)), (4, .int 0), (3, .int c), (2, .int (mRt r.toNatClampNeg)), (0, .ref 25), (1, .int r)], [], hq g c1 c2 c3 c4 c5 c6 c7 c8 c9 c10 c11 c12 c13 c14 c15 c16 c17 c18 c19 c20 c21 c22 c23 c24 (hc25 mTy mTm mMn mFn mRn mTn mVn mLr mTr mFl mFm mFp mSc mMp mEn) (hc26 mPa) (hc27 mTo) (hc28 mOt) (hc29 mNa) (hc30 mRe) (hc31 mMa) (hc32 mMy) (hc33 mPm) (hc34 mFy) (hc35 mFa) (hc36 mFr) (hc37 mFo) (hc38 mRt) (hc39 mRm) (hc40 mTt) (hc41 mTi) (hc42 mPl) (hc43 mVr) (hc44 mVf) (hc45 mVc) (hc46 mAr) (hc47 mTc) (hc48 mFt) (hc49 mGo) dyn, 0, 0)) rfl ?_
      refine pm_go (g := (137, _, [.int 0], _, 0, 0)) rfl ?_
      refine pm_go (g := (139, [(6, .int 0), (5, .int (nI k)), (4, .int 0), (3, .int c), (2, .int (mRt r.toNatClampNeg)), (0, .ref 25), (1, .int r)], [], _, 0, 0)) rfl ?_
      refine pm_go (g := (140, _, [.int c], _, 0, 0)) rfl ?_
      refine pm_go (g := (142, _, [.int 0, .int c], _, 0, 0)) rfl ?_
      refine pm_brT (g := (149, [(6, .int 0), (5, .int (nI k)), (4, .int 0), (3, .int c), (2, .int (mRt r.toNatClampNeg)), (0, .ref 25), (1, .int r)], [.int c], hq g c1 c2 c3 c4 c5 c6 c7 c8 c9 c10 c11 c12 c13 c14 c15 c16 c17 c18 c19 c20 c21 c22 c23 c24 (hc25 mTy mTm mMn mFn mRn mTn mVn mLr mTr mFl mFm mFp mSc mMp mEn) (hc26 mPa) (hc27 mTo) (hc28 mOt) (hc29 mNa) (hc30 mRe) (hc31 mMa) (hc32 mMy) (hc33 mPm) (hc34 mFy) (hc35 mFa) (hc36 mFr) (hc37 mFo) (hc38 mRt) (hc39 mRm) (hc40 mTt) (hc41 mTi) (hc42 mPl) (hc43 mVr) (hc44 mVf) (hc45 mVc) (hc46 mAr) (hc47 mTc) (hc48 mFt) (hc49 mGo) dyn, 0, 0)) rfl ?_
      refine pm_go (g := (150, _, [.int 0, .int c], _, 0, 0)) rfl ?_
      refine pm_go (g := (151, _, [.int (c + 0)], _, 0, 0)) rfl ?_
      try have h26 : (c + 0).toInt = (c).toInt + 0 := iAdd (x := (c).toInt) (y := 0) rfl (by decide) (by omega) (by omega)
      refine pm_go (g := (152, [(3, .int (c + 0)), (6, .int 0), (5, .int (nI k)), (4, .int 0), (2, .int (mRt r.toNatClampNeg)), (0, .ref 25), (1, .int r)], [], _, 0, 0)) rfl ?_
      refine pm_go (g := (154, _, [.int 0], _, 0, 0)) rfl ?_
      refine pm_brF (h := (157, [(3, .int (c + 0)), (6, .int 0), (5, .int (nI k)), (4, .int 0), (2, .int (mRt r.toNatClampNeg)), (0, .ref 25), (1, .int r)], [], hq g c1 c2 c3 c4 c5 c6 c7 c8 c9 c10 c11 c12 c13 c14 c15 c16 c17 c18 c19 c20 c21 c22 c23 c24 (hc25 mTy mTm mMn mFn mRn mTn mVn mLr mTr mFl mFm mFp mSc mMp mEn) (hc26 mPa) (hc27 mTo) (hc28 mOt) (hc29 mNa) (hc30 mRe) (hc31 mMa) (hc32 mMy) (hc33 mPm) (hc34 mFy) (hc35 mFa) (hc36 mFr) (hc37 mFo) (hc38 mRt) (hc39 mRm) (hc40 mTt) (hc41 mTi) (hc42 mPl) (hc43 mVr) (hc44 mVf) (hc45 mVc) (hc46 mAr) (hc47 mTc) (hc48 mFt) (hc49 mGo) dyn, 0, 0)) rfl ?_
      refine pm_go (g := (159, _, [.int 0], _, 0, 0)) rfl ?_
      refine pm_brT (g := (176, [(3, .int (c + 0)), (6, .int 0), (5, .int (nI k)), (4, .int 0), (2, .int (mRt r.toNatClampNeg)), (0, .ref 25), (1, .int r)], [], hq g c1 c2 c3 c4 c5 c6 c7 c8 c9 c10 c11 c12 c13 c14 c15 c16 c17 c18 c19 c20 c21 c22 c23 c24 (hc25 mTy mTm mMn mFn mRn mTn mVn mLr mTr mFl mFm mFp mSc mMp mEn) (hc26 mPa) (hc27 mTo) (hc28 mOt) (hc29 mNa) (hc30 mRe) (hc31 mMa) (hc32 mMy) (hc33 mPm) (hc34 mFy) (hc35 mFa) (hc36 mFr) (hc37 mFo) (hc38 mRt) (hc39 mRm) (hc40 mTt) (hc41 mTi) (hc42 mPl) (hc43 mVr) (hc44 mVf) (hc45 mVc) (hc46 mAr) (hc47 mTc) (hc48 mFt) (hc49 mGo) dyn, 0, 0)) rfl ?_
      refine pm_go (g := (177, _, [.int 0], _, 0, 0)) rfl ?_
      refine pm_go (g := (179, [(4, .int 0), (3, .int (c + 0)), (6, .int 0), (5, .int (nI k)), (2, .int (mRt r.toNatClampNeg)), (0, .ref 25), (1, .int r)], [], _, 0, 0)) rfl ?_
      refine pm_go (g := (182, [(5, .int ((nI k) + 1)), (4, .int 0), (3, .int (c + 0)), (6, .int 0), (2, .int (mRt r.toNatClampNeg)), (0, .ref 25), (1, .int r)], [], _, 0, 0)) rfl ?_
      refine pm_go (g := (37, _, [], _, 0, 0)) rfl ?_
      refine pm_sub (lv := [(5, .int ((nI k) + 1)), (4, .int 0), (3, .int (c + 0)), (2, .int (mRt r.toNatClampNeg)), (0, .ref 25), (1, .int r)]) ?_ ⟨le_c (List.Mem.head _) (le_c (List.Mem.tail _ (List.Mem.head _)) (le_c (List.Mem.tail _ (List.Mem.tail _ (List.Mem.head _))) (le_c (List.Mem.tail _ (List.Mem.tail _ (List.Mem.tail _ (List.Mem.tail _ (List.Mem.head _))))) (le_c (List.Mem.tail _ (List.Mem.tail _ (List.Mem.tail _ (List.Mem.tail _ (List.Mem.tail _ (List.Mem.head _)))))) (le_c (List.Mem.tail _ (List.Mem.tail _ (List.Mem.tail _ (List.Mem.tail _ (List.Mem.tail _ (List.Mem.tail _ (List.Mem.head _))))))) le_n))))), (show ([5, 4, 3, 6, 2, 0, 1] : List Nat).Nodup by decide)⟩
      rw [nI_1]
      have hj : ¬ exJ mPa mOt mNa mMy mPm mMn (mFo r.toNatClampNeg) (mRt r.toNatClampNeg) (mRm r.toNatClampNeg) k := by rintro (⟨q1, q2, q3⟩ | ⟨q1, q2, ⟨q3, q4⟩ | ⟨q3, q4⟩⟩) <;> first | omega | contradiction
      have hc1 : (c + 0).toInt = c.toInt + 0 := iAdd rfl (by decide) (by omega) (by omega)
      refine ih (k + 1) b (c + 0) (by omega) (by omega) ?_ (fun j q q2 => ?_) k0 k1
      · rw [show (c + 0) = c from xJ (by omega)]; exact bsM_n g3 hj
      · rcases Nat.lt_succ_iff_lt_or_eq.mp q with q | q
        · exact g4 j q q2
        · subst q; exact absurd q2 hj
    have h5 := qF_ne (cx := (mFo (r).toNatClampNeg).toInt) (cy := 3) rfl (by decide) h5
    refine pm_go (g := (57, [(5, .int (nI k)), (4, .int 0), (3, .int c), (2, .int (mRt r.toNatClampNeg)), (0, .ref 25), (1, .int r)], [.ref 25], _, 0, 0)) rfl ?_
    refine pm_go (g := (60, _, [.ref 28], _, 0, 0)) rfl ?_
    refine pm_go (g := (62, _, [.int (nI k), .ref 28], _, 0, 0)) rfl ?_
    refine pm_sd (g := (63, _, [.int (mOt (nI k).toNatClampNeg)], _, 0, 0)) rfl (pm_inI (by omega) (by omega)) ?_
    refine pm_go (g := (64, _, [.int (mRt r.toNatClampNeg), .int (mOt (nI k).toNatClampNeg)], _, 0, 0)) rfl ?_
    refine pm_if2 (g := (83, [(5, .int (nI k)), (4, .int 0), (3, .int c), (2, .int (mRt r.toNatClampNeg)), (0, .ref 25), (1, .int r)], [], hq g c1 c2 c3 c4 c5 c6 c7 c8 c9 c10 c11 c12 c13 c14 c15 c16 c17 c18 c19 c20 c21 c22 c23 c24 (hc25 mTy mTm mMn mFn mRn mTn mVn mLr mTr mFl mFm mFp mSc mMp mEn) (hc26 mPa) (hc27 mTo) (hc28 mOt) (hc29 mNa) (hc30 mRe) (hc31 mMa) (hc32 mMy) (hc33 mPm) (hc34 mFy) (hc35 mFa) (hc36 mFr) (hc37 mFo) (hc38 mRt) (hc39 mRm) (hc40 mTt) (hc41 mTi) (hc42 mPl) (hc43 mVr) (hc44 mVf) (hc45 mVc) (hc46 mAr) (hc47 mTc) (hc48 mFt) (hc49 mGo) dyn, 0, 0)) (h := (67, [(5, .int (nI k)), (4, .int 0), (3, .int c), (2, .int (mRt r.toNatClampNeg)), (0, .ref 25), (1, .int r)], [], hq g c1 c2 c3 c4 c5 c6 c7 c8 c9 c10 c11 c12 c13 c14 c15 c16 c17 c18 c19 c20 c21 c22 c23 c24 (hc25 mTy mTm mMn mFn mRn mTn mVn mLr mTr mFl mFm mFp mSc mMp mEn) (hc26 mPa) (hc27 mTo) (hc28 mOt) (hc29 mNa) (hc30 mRe) (hc31 mMa) (hc32 mMy) (hc33 mPm) (hc34 mFy) (hc35 mFa) (hc36 mFr) (hc37 mFo) (hc38 mRt) (hc39 mRm) (hc40 mTt) (hc41 mTi) (hc42 mPl) (hc43 mVr) (hc44 mVf) (hc45 mVc) (hc46 mAr) (hc47 mTc) (hc48 mFt) (hc49 mGo) dyn, 0, 0)) rfl (fun h27 => ?_) (fun h27 => ?_)
    ·
      have h27 := qT_ne (cx := (mOt (nI k).toNatClampNeg).toInt) (cy := (mRt r.toNatClampNeg).toInt) rfl rfl h27
      refine pm_go (g := (84, _, [.int 0], _, 0, 0)) rfl ?_
      refine pm_go (g := (137, _, [.int 0], _, 0, 0)) rfl ?_
      refine pm_go (g := (139, [(6, .int 0), (5, .int (nI k)), (4, .int 0), (3, .int c), (2, .int (mRt r.toNatClampNeg)), (0, .ref 25), (1, .int r)], [], _, 0, 0)) rfl ?_
      refine pm_go (g := (140, _, [.int c], _, 0, 0)) rfl ?_
      refine pm_go (g := (142, _, [.int 0, .int c], _, 0, 0)) rfl ?_
      refine pm_brT (g := (149, [(6, .int 0), (5, .int (nI k)), (4, .int 0), (3, .int c), (2, .int (mRt r.toNatClampNeg)), (0, .ref 25), (1, .int r)], [.int c], hq g c1 c2 c3 c4 c5 c6 c7 c8 c9 c10 c11 c12 c13 c14 c15 c16 c17 c18 c19 c20 c21 c22 c23 c24 (hc25 mTy mTm mMn mFn mRn mTn mVn mLr mTr mFl mFm mFp mSc mMp mEn) (hc26 mPa) (hc27 mTo) (hc28 mOt) (hc29 mNa) (hc30 mRe) (hc31 mMa) (hc32 mMy) (hc33 mPm) (hc34 mFy) (hc35 mFa) (hc36 mFr) (hc37 mFo) (hc38 mRt) (hc39 mRm) (hc40 mTt) (hc41 mTi) (hc42 mPl) (hc43 mVr) (hc44 mVf) (hc45 mVc) (hc46 mAr) (hc47 mTc) (hc48 mFt) (hc49 mGo) dyn, 0, 0)) rfl ?_
      refine pm_go (g := (150, _, [.int 0, .int c], _, 0, 0)) rfl ?_
      refine pm_go (g := (151, _, [.int (c + 0)], _, 0, 0)) rfl ?_
      try have h28 : (c + 0).toInt = (c).toInt + 0 := iAdd (x := (c).toInt) (y := 0) rfl (by decide) (by omega) (by omega)
      refine pm_go (g := (152, [(3, .int (c + 0)), (6, .int 0), (5, .int (nI k)), (4, .int 0), (2, .int (mRt r.toNatClampNeg)), (0, .ref 25), (1, .int r)], [], _, 0, 0)) rfl ?_
      refine pm_go (g := (154, _, [.int 0], _, 0, 0)) rfl ?_
      refine pm_brF (h := (157, [(3, .int (c + 0)), (6, .int 0), (5, .int (nI k)), (4, .int 0), (2, .int (mRt r.toNatClampNeg)), (0, .ref 25), (1, .int r)], [], hq g c1 c2 c3 c4 c5 c6 c7 c8 c9 c10 c11 c12 c13 c14 c15 c16 c17 c18 c19 c20 c21 c22 c23 c24 (hc25 mTy mTm mMn mFn mRn mTn mVn mLr mTr mFl mFm mFp mSc mMp mEn) (hc26 mPa) (hc27 mTo) (hc28 mOt) (hc29 mNa) (hc30 mRe) (hc31 mMa) (hc32 mMy) (hc33 mPm) (hc34 mFy) (hc35 mFa) (hc36 mFr) (hc37 mFo) (hc38 mRt) (hc39 mRm) (hc40 mTt) (hc41 mTi) (hc42 mPl) (hc43 mVr) (hc44 mVf) (hc45 mVc) (hc46 mAr) (hc47 mTc) (hc48 mFt) (hc49 mGo) dyn, 0, 0)) rfl ?_
      refine pm_go (g := (159, _, [.int 0], _, 0, 0)) rfl ?_
      refine pm_brT (g := (176, [(3, .int (c + 0)), (6, .int 0), (5, .int (nI k)), (4, .int 0), (2, .int (mRt r.toNatClampNeg)), (0, .ref 25), (1, .int r)], [], hq g c1 c2 c3 c4 c5 c6 c7 c8 c9 c10 c11 c12 c13 c14 c15 c16 c17 c18 c19 c20 c21 c22 c23 c24 (hc25 mTy mTm mMn mFn mRn mTn mVn mLr mTr mFl mFm mFp mSc mMp mEn) (hc26 mPa) (hc27 mTo) (hc28 mOt) (hc29 mNa) (hc30 mRe) (hc31 mMa) (hc32 mMy) (hc33 mPm) (hc34 mFy) (hc35 mFa) (hc36 mFr) (hc37 mFo) (hc38 mRt) (hc39 mRm) (hc40 mTt) (hc41 mTi) (hc42 mPl) (hc43 mVr) (hc44 mVf) (hc45 mVc) (hc46 mAr) (hc47 mTc) (hc48 mFt) (hc49 mGo) dyn, 0, 0)) rfl ?_
      refine pm_go (g := (177, _, [.int 0], _, 0, 0)) rfl ?_
      refine pm_go (g := (179, [(4, .int 0), (3, .int (c + 0)), (6, .int 0), (5, .int (nI k)), (2, .int (mRt r.toNatClampNeg)), (0, .ref 25), (1, .int r)], [], _, 0, 0)) rfl ?_
      refine pm_go (g := (182, [(5, .int ((nI k) + 1)), (4, .int 0), (3, .int (c + 0)), (6, .int 0), (2, .int (mRt r.toNatClampNeg)), (0, .ref 25), (1, .int r)], [], _, 0, 0)) rfl ?_
      refine pm_go (g := (37, _, [], _, 0, 0)) rfl ?_
      refine pm_sub (lv := [(5, .int ((nI k) + 1)), (4, .int 0), (3, .int (c + 0)), (2, .int (mRt r.toNatClampNeg)), (0, .ref 25), (1, .int r)]) ?_ ⟨le_c (List.Mem.head _) (le_c (List.Mem.tail _ (List.Mem.head _)) (le_c (List.Mem.tail _ (List.Mem.tail _ (List.Mem.head _))) (le_c (List.Mem.tail _ (List.Mem.tail _ (List.Mem.tail _ (List.Mem.tail _ (List.Mem.head _))))) (le_c (List.Mem.tail _ (List.Mem.tail _ (List.Mem.tail _ (List.Mem.tail _ (List.Mem.tail _ (List.Mem.head _)))))) (le_c (List.Mem.tail _ (List.Mem.tail _ (List.Mem.tail _ (List.Mem.tail _ (List.Mem.tail _ (List.Mem.tail _ (List.Mem.head _))))))) le_n))))), (show ([5, 4, 3, 6, 2, 0, 1] : List Nat).Nodup by decide)⟩
      rw [nI_1]
      have hj : ¬ exJ mPa mOt mNa mMy mPm mMn (mFo r.toNatClampNeg) (mRt r.toNatClampNeg) (mRm r.toNatClampNeg) k := by rintro (⟨q1, q2, q3⟩ | ⟨q1, q2, ⟨q3, q4⟩ | ⟨q3, q4⟩⟩) <;> first | omega | contradiction
      have hc1 : (c + 0).toInt = c.toInt + 0 := iAdd rfl (by decide) (by omega) (by omega)
      refine ih (k + 1) b (c + 0) (by omega) (by omega) ?_ (fun j q q2 => ?_) k0 k1
      · rw [show (c + 0) = c from xJ (by omega)]; exact bsM_n g3 hj
      · rcases Nat.lt_succ_iff_lt_or_eq.mp q with q | q
        · exact g4 j q q2
        · subst q; exact absurd q2 hj
    have h27 := qF_ne (cx := (mOt (nI k).toNatClampNeg).toInt) (cy := (mRt r.toNatClampNeg).toInt) rfl rfl h27
    refine pm_go (g := (68, [(5, .int (nI k)), (4, .int 0), (3, .int c), (2, .int (mRt r.toNatClampNeg)), (0, .ref 25), (1, .int r)], [.ref 25], _, 0, 0)) rfl ?_
    refine pm_go (g := (71, _, [.ref 29], _, 0, 0)) rfl ?_
    refine pm_go (g := (73, _, [.int (nI k), .ref 29], _, 0, 0)) rfl ?_
    refine pm_sd (g := (74, _, [.int (mNa (nI k).toNatClampNeg)], _, 0, 0)) rfl (pm_inI (by omega) (by omega)) ?_
    refine pm_go (g := (76, _, [.int 6, .int (mNa (nI k).toNatClampNeg)], _, 0, 0)) rfl ?_
    refine pm_if2 (g := (83, [(5, .int (nI k)), (4, .int 0), (3, .int c), (2, .int (mRt r.toNatClampNeg)), (0, .ref 25), (1, .int r)], [], hq g c1 c2 c3 c4 c5 c6 c7 c8 c9 c10 c11 c12 c13 c14 c15 c16 c17 c18 c19 c20 c21 c22 c23 c24 (hc25 mTy mTm mMn mFn mRn mTn mVn mLr mTr mFl mFm mFp mSc mMp mEn) (hc26 mPa) (hc27 mTo) (hc28 mOt) (hc29 mNa) (hc30 mRe) (hc31 mMa) (hc32 mMy) (hc33 mPm) (hc34 mFy) (hc35 mFa) (hc36 mFr) (hc37 mFo) (hc38 mRt) (hc39 mRm) (hc40 mTt) (hc41 mTi) (hc42 mPl) (hc43 mVr) (hc44 mVf) (hc45 mVc) (hc46 mAr) (hc47 mTc) (hc48 mFt) (hc49 mGo) dyn, 0, 0)) (h := (79, [(5, .int (nI k)), (4, .int 0), (3, .int c), (2, .int (mRt r.toNatClampNeg)), (0, .ref 25), (1, .int r)], [], hq g c1 c2 c3 c4 c5 c6 c7 c8 c9 c10 c11 c12 c13 c14 c15 c16 c17 c18 c19 c20 c21 c22 c23 c24 (hc25 mTy mTm mMn mFn mRn mTn mVn mLr mTr mFl mFm mFp mSc mMp mEn) (hc26 mPa) (hc27 mTo) (hc28 mOt) (hc29 mNa) (hc30 mRe) (hc31 mMa) (hc32 mMy) (hc33 mPm) (hc34 mFy) (hc35 mFa) (hc36 mFr) (hc37 mFo) (hc38 mRt) (hc39 mRm) (hc40 mTt) (hc41 mTi) (hc42 mPl) (hc43 mVr) (hc44 mVf) (hc45 mVc) (hc46 mAr) (hc47 mTc) (hc48 mFt) (hc49 mGo) dyn, 0, 0)) rfl (fun h29 => ?_) (fun h29 => ?_)
    ·
      have h29 := qT_ne (cx := (mNa (nI k).toNatClampNeg).toInt) (cy := 6) rfl (by decide) h29
      refine pm_go (g := (84, _, [.int 0], _, 0, 0)) rfl ?_
      refine pm_go (g := (137, _, [.int 0], _, 0, 0)) rfl ?_
      refine pm_go (g := (139, [(6, .int 0), (5, .int (nI k)), (4, .int 0), (3, .int c), (2, .int (mRt r.toNatClampNeg)), (0, .ref 25), (1, .int r)], [], _, 0, 0)) rfl ?_
      refine pm_go (g := (140, _, [.int c], _, 0, 0)) rfl ?_
      refine pm_go (g := (142, _, [.int 0, .int c], _, 0, 0)) rfl ?_
      refine pm_brT (g := (149, [(6, .int 0), (5, .int (nI k)), (4, .int 0), (3, .int c), (2, .int (mRt r.toNatClampNeg)), (0, .ref 25), (1, .int r)], [.int c], hq g c1 c2 c3 c4 c5 c6 c7 c8 c9 c10 c11 c12 c13 c14 c15 c16 c17 c18 c19 c20 c21 c22 c23 c24 (hc25 mTy mTm mMn mFn mRn mTn mVn mLr mTr mFl mFm mFp mSc mMp mEn) (hc26 mPa) (hc27 mTo) (hc28 mOt) (hc29 mNa) (hc30 mRe) (hc31 mMa) (hc32 mMy) (hc33 mPm) (hc34 mFy) (hc35 mFa) (hc36 mFr) (hc37 mFo) (hc38 mRt) (hc39 mRm) (hc40 mTt) (hc41 mTi) (hc42 mPl) (hc43 mVr) (hc44 mVf) (hc45 mVc) (hc46 mAr) (hc47 mTc) (hc48 mFt) (hc49 mGo) dyn, 0, 0)) rfl ?_
      refine pm_go (g := (150, _, [.int 0, .int c], _, 0, 0)) rfl ?_
      refine pm_go (g := (151, _, [.int (c + 0)], _, 0, 0)) rfl ?_
      try have h30 : (c + 0).toInt = (c).toInt + 0 := iAdd (x := (c).toInt) (y := 0) rfl (by decide) (by omega) (by omega)
      refine pm_go (g := (152, [(3, .int (c + 0)), (6, .int 0), (5, .int (nI k)), (4, .int 0), (2, .int (mRt r.toNatClampNeg)), (0, .ref 25), (1, .int r)], [], _, 0, 0)) rfl ?_
      refine pm_go (g := (154, _, [.int 0], _, 0, 0)) rfl ?_
      refine pm_brF (h := (157, [(3, .int (c + 0)), (6, .int 0), (5, .int (nI k)), (4, .int 0), (2, .int (mRt r.toNatClampNeg)), (0, .ref 25), (1, .int r)], [], hq g c1 c2 c3 c4 c5 c6 c7 c8 c9 c10 c11 c12 c13 c14 c15 c16 c17 c18 c19 c20 c21 c22 c23 c24 (hc25 mTy mTm mMn mFn mRn mTn mVn mLr mTr mFl mFm mFp mSc mMp mEn) (hc26 mPa) (hc27 mTo) (hc28 mOt) (hc29 mNa) (hc30 mRe) (hc31 mMa) (hc32 mMy) (hc33 mPm) (hc34 mFy) (hc35 mFa) (hc36 mFr) (hc37 mFo) (hc38 mRt) (hc39 mRm) (hc40 mTt) (hc41 mTi) (hc42 mPl) (hc43 mVr) (hc44 mVf) (hc45 mVc) (hc46 mAr) (hc47 mTc) (hc48 mFt) (hc49 mGo) dyn, 0, 0)) rfl ?_
      refine pm_go (g := (159, _, [.int 0], _, 0, 0)) rfl ?_
      refine pm_brT (g := (176, [(3, .int (c + 0)), (6, .int 0), (5, .int (nI k)), (4, .int 0), (2, .int (mRt r.toNatClampNeg)), (0, .ref 25), (1, .int r)], [], hq g c1 c2 c3 c4 c5 c6 c7 c8 c9 c10 c11 c12 c13 c14 c15 c16 c17 c18 c19 c20 c21 c22 c23 c24 (hc25 mTy mTm mMn mFn mRn mTn mVn mLr mTr mFl mFm mFp mSc mMp mEn) (hc26 mPa) (hc27 mTo) (hc28 mOt) (hc29 mNa) (hc30 mRe) (hc31 mMa) (hc32 mMy) (hc33 mPm) (hc34 mFy) (hc35 mFa) (hc36 mFr) (hc37 mFo) (hc38 mRt) (hc39 mRm) (hc40 mTt) (hc41 mTi) (hc42 mPl) (hc43 mVr) (hc44 mVf) (hc45 mVc) (hc46 mAr) (hc47 mTc) (hc48 mFt) (hc49 mGo) dyn, 0, 0)) rfl ?_
      refine pm_go (g := (177, _, [.int 0], _, 0, 0)) rfl ?_
      refine pm_go (g := (179, [(4, .int 0), (3, .int (c + 0)), (6, .int 0), (5, .int (nI k)), (2, .int (mRt r.toNatClampNeg)), (0, .ref 25), (1, .int r)], [], _, 0, 0)) rfl ?_
      refine pm_go (g := (182, [(5, .int ((nI k) + 1)), (4, .int 0), (3, .int (c + 0)), (6, .int 0), (2, .int (mRt r.toNatClampNeg)), (0, .ref 25), (1, .int r)], [], _, 0, 0)) rfl ?_
      refine pm_go (g := (37, _, [], _, 0, 0)) rfl ?_
      refine pm_sub (lv := [(5, .int ((nI k) + 1)), (4, .int 0), (3, .int (c + 0)), (2, .int (mRt r.toNatClampNeg)), (0, .ref 25), (1, .int r)]) ?_ ⟨le_c (List.Mem.head _) (le_c (List.Mem.tail _ (List.Mem.head _)) (le_c (List.Mem.tail _ (List.Mem.tail _ (List.Mem.head _))) (le_c (List.Mem.tail _ (List.Mem.tail _ (List.Mem.tail _ (List.Mem.tail _ (List.Mem.head _))))) (le_c (List.Mem.tail _ (List.Mem.tail _ (List.Mem.tail _ (List.Mem.tail _ (List.Mem.tail _ (List.Mem.head _)))))) (le_c (List.Mem.tail _ (List.Mem.tail _ (List.Mem.tail _ (List.Mem.tail _ (List.Mem.tail _ (List.Mem.tail _ (List.Mem.head _))))))) le_n))))), (show ([5, 4, 3, 6, 2, 0, 1] : List Nat).Nodup by decide)⟩
      rw [nI_1]
      have hj : ¬ exJ mPa mOt mNa mMy mPm mMn (mFo r.toNatClampNeg) (mRt r.toNatClampNeg) (mRm r.toNatClampNeg) k := by rintro (⟨q1, q2, q3⟩ | ⟨q1, q2, ⟨q3, q4⟩ | ⟨q3, q4⟩⟩) <;> first | omega | contradiction
      have hc1 : (c + 0).toInt = c.toInt + 0 := iAdd rfl (by decide) (by omega) (by omega)
      refine ih (k + 1) b (c + 0) (by omega) (by omega) ?_ (fun j q q2 => ?_) k0 k1
      · rw [show (c + 0) = c from xJ (by omega)]; exact bsM_n g3 hj
      · rcases Nat.lt_succ_iff_lt_or_eq.mp q with q | q
        · exact g4 j q q2
        · subst q; exact absurd q2 hj
    have h29 := qF_ne (cx := (mNa (nI k).toNatClampNeg).toInt) (cy := 6) rfl (by decide) h29
    refine pm_go (g := (80, [(5, .int (nI k)), (4, .int 0), (3, .int c), (2, .int (mRt r.toNatClampNeg)), (0, .ref 25), (1, .int r)], [.int 1], _, 0, 0)) rfl ?_
    refine pm_go (g := (137, _, [.int 1], _, 0, 0)) rfl ?_
    refine pm_go (g := (139, [(6, .int 1), (5, .int (nI k)), (4, .int 0), (3, .int c), (2, .int (mRt r.toNatClampNeg)), (0, .ref 25), (1, .int r)], [], _, 0, 0)) rfl ?_
    refine pm_go (g := (140, _, [.int c], _, 0, 0)) rfl ?_
    refine pm_go (g := (142, _, [.int 1, .int c], _, 0, 0)) rfl ?_
    refine pm_brF (h := (145, [(6, .int 1), (5, .int (nI k)), (4, .int 0), (3, .int c), (2, .int (mRt r.toNatClampNeg)), (0, .ref 25), (1, .int r)], [.int c], hq g c1 c2 c3 c4 c5 c6 c7 c8 c9 c10 c11 c12 c13 c14 c15 c16 c17 c18 c19 c20 c21 c22 c23 c24 (hc25 mTy mTm mMn mFn mRn mTn mVn mLr mTr mFl mFm mFp mSc mMp mEn) (hc26 mPa) (hc27 mTo) (hc28 mOt) (hc29 mNa) (hc30 mRe) (hc31 mMa) (hc32 mMy) (hc33 mPm) (hc34 mFy) (hc35 mFa) (hc36 mFr) (hc37 mFo) (hc38 mRt) (hc39 mRm) (hc40 mTt) (hc41 mTi) (hc42 mPl) (hc43 mVr) (hc44 mVf) (hc45 mVc) (hc46 mAr) (hc47 mTc) (hc48 mFt) (hc49 mGo) dyn, 0, 0)) rfl ?_
    refine pm_go (g := (146, _, [.int 1, .int c], _, 0, 0)) rfl ?_
    refine pm_go (g := (150, _, [.int 1, .int c], _, 0, 0)) rfl ?_
    refine pm_go (g := (151, _, [.int (c + 1)], _, 0, 0)) rfl ?_
    try have h31 : (c + 1).toInt = (c).toInt + 1 := iAdd (x := (c).toInt) (y := 1) rfl (by decide) (by omega) (by omega)
    refine pm_go (g := (152, [(3, .int (c + 1)), (6, .int 1), (5, .int (nI k)), (4, .int 0), (2, .int (mRt r.toNatClampNeg)), (0, .ref 25), (1, .int r)], [], _, 0, 0)) rfl ?_
    refine pm_go (g := (154, _, [.int 0], _, 0, 0)) rfl ?_
    refine pm_brF (h := (157, [(3, .int (c + 1)), (6, .int 1), (5, .int (nI k)), (4, .int 0), (2, .int (mRt r.toNatClampNeg)), (0, .ref 25), (1, .int r)], [], hq g c1 c2 c3 c4 c5 c6 c7 c8 c9 c10 c11 c12 c13 c14 c15 c16 c17 c18 c19 c20 c21 c22 c23 c24 (hc25 mTy mTm mMn mFn mRn mTn mVn mLr mTr mFl mFm mFp mSc mMp mEn) (hc26 mPa) (hc27 mTo) (hc28 mOt) (hc29 mNa) (hc30 mRe) (hc31 mMa) (hc32 mMy) (hc33 mPm) (hc34 mFy) (hc35 mFa) (hc36 mFr) (hc37 mFo) (hc38 mRt) (hc39 mRm) (hc40 mTt) (hc41 mTi) (hc42 mPl) (hc43 mVr) (hc44 mVf) (hc45 mVc) (hc46 mAr) (hc47 mTc) (hc48 mFt) (hc49 mGo) dyn, 0, 0)) rfl ?_
    refine pm_go (g := (159, _, [.int 1], _, 0, 0)) rfl ?_
    refine pm_brF (h := (162, [(3, .int (c + 1)), (6, .int 1), (5, .int (nI k)), (4, .int 0), (2, .int (mRt r.toNatClampNeg)), (0, .ref 25), (1, .int r)], [], hq g c1 c2 c3 c4 c5 c6 c7 c8 c9 c10 c11 c12 c13 c14 c15 c16 c17 c18 c19 c20 c21 c22 c23 c24 (hc25 mTy mTm mMn mFn mRn mTn mVn mLr mTr mFl mFm mFp mSc mMp mEn) (hc26 mPa) (hc27 mTo) (hc28 mOt) (hc29 mNa) (hc30 mRe) (hc31 mMa) (hc32 mMy) (hc33 mPm) (hc34 mFy) (hc35 mFa) (hc36 mFr) (hc37 mFo) (hc38 mRt) (hc39 mRm) (hc40 mTt) (hc41 mTi) (hc42 mPl) (hc43 mVr) (hc44 mVf) (hc45 mVc) (hc46 mAr) (hc47 mTc) (hc48 mFt) (hc49 mGo) dyn, 0, 0)) rfl ?_
    refine pm_go (g := (163, _, [.ref 25], _, 0, 0)) rfl ?_
    refine pm_go (g := (165, _, [.int (nI k), .ref 25], _, 0, 0)) rfl ?_
    refine pm_go (g := (166, _, [.int 4, .int (nI k), .ref 25], _, 0, 0)) rfl ?_
    refine pm_callD (z := 139) (as := [.ref 25, .int (nI k), .int 4]) (rest := []) rfl ?_
    have h32 : (4 : Int32).toInt = 4 := by decide
    refine w_X12_isMark (nI k) 4 (by omega) (fun h33 => ?_) (fun h34 => ?_)
    ·
      show pm_WP 168 (169, [(3, .int (c + 1)), (6, .int 1), (5, .int (nI k)), (4, .int 0), (2, .int (mRt r.toNatClampNeg)), (0, .ref 25), (1, .int r)], [.int 1], _, 0, 0) _
      refine pm_brF (h := (172, [(3, .int (c + 1)), (6, .int 1), (5, .int (nI k)), (4, .int 0), (2, .int (mRt r.toNatClampNeg)), (0, .ref 25), (1, .int r)], [], hq g c1 c2 c3 c4 c5 c6 c7 c8 c9 c10 c11 c12 c13 c14 c15 c16 c17 c18 c19 c20 c21 c22 c23 c24 (hc25 mTy mTm mMn mFn mRn mTn mVn mLr mTr mFl mFm mFp mSc mMp mEn) (hc26 mPa) (hc27 mTo) (hc28 mOt) (hc29 mNa) (hc30 mRe) (hc31 mMa) (hc32 mMy) (hc33 mPm) (hc34 mFy) (hc35 mFa) (hc36 mFr) (hc37 mFo) (hc38 mRt) (hc39 mRm) (hc40 mTt) (hc41 mTi) (hc42 mPl) (hc43 mVr) (hc44 mVf) (hc45 mVc) (hc46 mAr) (hc47 mTc) (hc48 mFt) (hc49 mGo) dyn, 0, 0)) rfl ?_
      refine pm_go (g := (173, _, [.int 1], _, 0, 0)) rfl ?_
      refine pm_go (g := (177, _, [.int 1], _, 0, 0)) rfl ?_
      refine pm_go (g := (179, [(4, .int 1), (3, .int (c + 1)), (6, .int 1), (5, .int (nI k)), (2, .int (mRt r.toNatClampNeg)), (0, .ref 25), (1, .int r)], [], _, 0, 0)) rfl ?_
      refine pm_go (g := (182, [(5, .int ((nI k) + 1)), (4, .int 1), (3, .int (c + 1)), (6, .int 1), (2, .int (mRt r.toNatClampNeg)), (0, .ref 25), (1, .int r)], [], _, 0, 0)) rfl ?_
      refine pm_go (g := (37, _, [], _, 0, 0)) rfl ?_
      refine pm_sub (lv := [(5, .int ((nI k) + 1)), (4, .int 1), (3, .int (c + 1)), (2, .int (mRt r.toNatClampNeg)), (0, .ref 25), (1, .int r)]) ?_ ⟨le_c (List.Mem.head _) (le_c (List.Mem.tail _ (List.Mem.head _)) (le_c (List.Mem.tail _ (List.Mem.tail _ (List.Mem.head _))) (le_c (List.Mem.tail _ (List.Mem.tail _ (List.Mem.tail _ (List.Mem.tail _ (List.Mem.head _))))) (le_c (List.Mem.tail _ (List.Mem.tail _ (List.Mem.tail _ (List.Mem.tail _ (List.Mem.tail _ (List.Mem.head _)))))) (le_c (List.Mem.tail _ (List.Mem.tail _ (List.Mem.tail _ (List.Mem.tail _ (List.Mem.tail _ (List.Mem.tail _ (List.Mem.head _))))))) le_n))))), (show ([5, 4, 3, 6, 2, 0, 1] : List Nat).Nodup by decide)⟩
      rw [nI_1]
      have hj : exJ mPa mOt mNa mMy mPm mMn (mFo r.toNatClampNeg) (mRt r.toNatClampNeg) (mRm r.toNatClampNeg) k := by first | exact Or.inl ⟨by omega, by omega, by omega⟩ | exact Or.inr ⟨by omega, by omega, Or.inl ⟨by omega, by assumption⟩⟩ | exact Or.inr ⟨by omega, by omega, Or.inr ⟨by omega, by assumption⟩⟩
      have hc1 : (c + 1).toInt = c.toInt + 1 := iAdd rfl (by decide) (by omega) (by omega)
      exact w_exact_loop1 r hr ht hp hy hn n (k + 1) (c + 1) (by omega) (by omega) (by omega) (k1 (fun q => absurd (q.1 k (by omega) hj) (by omega)))
    show pm_WP 168 (169, [(3, .int (c + 1)), (6, .int 1), (5, .int (nI k)), (4, .int 0), (2, .int (mRt r.toNatClampNeg)), (0, .ref 25), (1, .int r)], [.int 0], hq g c1 c2 c3 c4 c5 c6 c7 c8 c9 c10 c11 c12 c13 c14 c15 c16 c17 c18 c19 c20 c21 c22 c23 c24 (hc25 mTy mTm mMn mFn mRn mTn mVn mLr mTr mFl mFm mFp mSc mMp mEn) (hc26 mPa) (hc27 mTo) (hc28 mOt) (hc29 mNa) (hc30 mRe) (hc31 mMa) (hc32 mMy) (hc33 mPm) (hc34 mFy) (hc35 mFa) (hc36 mFr) (hc37 mFo) (hc38 mRt) (hc39 mRm) (hc40 mTt) (hc41 mTi) (hc42 mPl) (hc43 mVr) (hc44 mVf) (hc45 mVc) (hc46 mAr) (hc47 mTc) (hc48 mFt) (hc49 mGo) dyn, 0, 0) _
    refine pm_brT (g := (176, [(3, .int (c + 1)), (6, .int 1), (5, .int (nI k)), (4, .int 0), (2, .int (mRt r.toNatClampNeg)), (0, .ref 25), (1, .int r)], [], hq g c1 c2 c3 c4 c5 c6 c7 c8 c9 c10 c11 c12 c13 c14 c15 c16 c17 c18 c19 c20 c21 c22 c23 c24 (hc25 mTy mTm mMn mFn mRn mTn mVn mLr mTr mFl mFm mFp mSc mMp mEn) (hc26 mPa) (hc27 mTo) (hc28 mOt) (hc29 mNa) (hc30 mRe) (hc31 mMa) (hc32 mMy) (hc33 mPm) (hc34 mFy) (hc35 mFa) (hc36 mFr) (hc37 mFo) (hc38 mRt) (hc39 mRm) (hc40 mTt) (hc41 mTi) (hc42 mPl) (hc43 mVr) (hc44 mVf) (hc45 mVc) (hc46 mAr) (hc47 mTc) (hc48 mFt) (hc49 mGo) dyn, 0, 0)) rfl ?_
    refine pm_go (g := (177, _, [.int 0], _, 0, 0)) rfl ?_
    refine pm_go (g := (179, [(4, .int 0), (3, .int (c + 1)), (6, .int 1), (5, .int (nI k)), (2, .int (mRt r.toNatClampNeg)), (0, .ref 25), (1, .int r)], [], _, 0, 0)) rfl ?_
    refine pm_go (g := (182, [(5, .int ((nI k) + 1)), (4, .int 0), (3, .int (c + 1)), (6, .int 1), (2, .int (mRt r.toNatClampNeg)), (0, .ref 25), (1, .int r)], [], _, 0, 0)) rfl ?_
    refine pm_go (g := (37, _, [], _, 0, 0)) rfl ?_
    refine pm_sub (lv := [(5, .int ((nI k) + 1)), (4, .int 0), (3, .int (c + 1)), (2, .int (mRt r.toNatClampNeg)), (0, .ref 25), (1, .int r)]) ?_ ⟨le_c (List.Mem.head _) (le_c (List.Mem.tail _ (List.Mem.head _)) (le_c (List.Mem.tail _ (List.Mem.tail _ (List.Mem.head _))) (le_c (List.Mem.tail _ (List.Mem.tail _ (List.Mem.tail _ (List.Mem.tail _ (List.Mem.head _))))) (le_c (List.Mem.tail _ (List.Mem.tail _ (List.Mem.tail _ (List.Mem.tail _ (List.Mem.tail _ (List.Mem.head _)))))) (le_c (List.Mem.tail _ (List.Mem.tail _ (List.Mem.tail _ (List.Mem.tail _ (List.Mem.tail _ (List.Mem.tail _ (List.Mem.head _))))))) le_n))))), (show ([5, 4, 3, 6, 2, 0, 1] : List Nat).Nodup by decide)⟩
    rw [nI_1]
    have hj : exJ mPa mOt mNa mMy mPm mMn (mFo r.toNatClampNeg) (mRt r.toNatClampNeg) (mRm r.toNatClampNeg) k := by first | exact Or.inl ⟨by omega, by omega, by omega⟩ | exact Or.inr ⟨by omega, by omega, Or.inl ⟨by omega, by assumption⟩⟩ | exact Or.inr ⟨by omega, by omega, Or.inr ⟨by omega, by assumption⟩⟩
    have hc1 : (c + 1).toInt = c.toInt + 1 := iAdd rfl (by decide) (by omega) (by omega)
    refine ih (k + 1) (nI k) (c + 1) (by omega) (by omega) (bsM_y g3 hj hc1) (fun j q q2 => ?_) k0 k1
    rcases Nat.lt_succ_iff_lt_or_eq.mp q with q | q
    · exact g4 j q q2
    · subst q; omega
set_option maxRecDepth 100000 in
set_option maxHeartbeats 4000000 in
theorem w_X12_exact {g c1 c2 c3 c4 c5 c6 c7 c8 c9 c10 c11 c12 c13 c14 c15 c16 c17 c18 c19 c20 c21 c22 c23 c24 : pm_C} {dyn : pm_H} {mTy : Int32} {mPa : Nat → Int32} {mTo : Nat → Int32} {mTm : Int32} {mMn : Int32} {mOt : Nat → Int32} {mNa : Nat → Int32} {mRe : Nat → Int32} {mMa : Nat → Int32} {mMy : Nat → Int32} {mPm : Nat → Int32} {mFn : Int32} {mFy : Nat → Int32} {mFa : Nat → Int32} {mFr : Nat → Int32} {mRn : Int32} {mFo : Nat → Int32} {mRt : Nat → Int32} {mRm : Nat → Int32} {mTn : Int32} {mTt : Nat → Int32} {mTi : Nat → Int32} {mPl : Nat → Int32} {mVn : Int32} {mVr : Nat → Int32} {mVf : Nat → Int32} {mVc : Nat → Int32} {mAr : Nat → Int32} {mLr : Int32} {mTc : Nat → Int32} {mTr : Int32} {mFl : Int32} {mFt : Nat → Int32} {mFm : Int32} {mFp : Int32} {mSc : Int32} {mMp : Int32} {mEn : Int32} {mGo : Nat → Int32} {Q : pm_Q} (r : Int32) (p0 : 0 ≤ mRn.toInt ∧ mRn.toInt ≤ 30) (p1 : 2 ≤ mTy.toInt ∧ mTy.toInt ≤ 10) (p2 : rfD mRn mTy mFo mRt) (p3 : paD mPa) (p4 : myD mMy) (p5 : 0 ≤ mMn.toInt ∧ mMn.toInt ≤ 40) (k0 : ¬ (0 ≤ r.toInt ∧ r.toInt < mRn.toInt) → Q (some (.int (-1))) (hq g c1 c2 c3 c4 c5 c6 c7 c8 c9 c10 c11 c12 c13 c14 c15 c16 c17 c18 c19 c20 c21 c22 c23 c24 (hc25 mTy mTm mMn mFn mRn mTn mVn mLr mTr mFl mFm mFp mSc mMp mEn) (hc26 mPa) (hc27 mTo) (hc28 mOt) (hc29 mNa) (hc30 mRe) (hc31 mMa) (hc32 mMy) (hc33 mPm) (hc34 mFy) (hc35 mFa) (hc36 mFr) (hc37 mFo) (hc38 mRt) (hc39 mRm) (hc40 mTt) (hc41 mTi) (hc42 mPl) (hc43 mVr) (hc44 mVf) (hc45 mVc) (hc46 mAr) (hc47 mTc) (hc48 mFt) (hc49 mGo) dyn)) (k1 : ((0 ≤ r.toInt ∧ r.toInt < mRn.toInt) ∧ (mFo r.toNatClampNeg).toInt ≠ 4) → (exM mPa mOt mNa mMy mPm mMa mMn (mFo r.toNatClampNeg) (mRt r.toNatClampNeg) (mRm r.toNatClampNeg)) → Q (some (.int 1)) (hq g c1 c2 c3 c4 c5 c6 c7 c8 c9 c10 c11 c12 c13 c14 c15 c16 c17 c18 c19 c20 c21 c22 c23 c24 (hc25 mTy mTm mMn mFn mRn mTn mVn mLr mTr mFl mFm mFp mSc mMp mEn) (hc26 mPa) (hc27 mTo) (hc28 mOt) (hc29 mNa) (hc30 mRe) (hc31 mMa) (hc32 mMy) (hc33 mPm) (hc34 mFy) (hc35 mFa) (hc36 mFr) (hc37 mFo) (hc38 mRt) (hc39 mRm) (hc40 mTt) (hc41 mTi) (hc42 mPl) (hc43 mVr) (hc44 mVf) (hc45 mVc) (hc46 mAr) (hc47 mTc) (hc48 mFt) (hc49 mGo) dyn)) (k2 : ((0 ≤ r.toInt ∧ r.toInt < mRn.toInt) ∧ (mFo r.toNatClampNeg).toInt ≠ 4) → (¬ exM mPa mOt mNa mMy mPm mMa mMn (mFo r.toNatClampNeg) (mRt r.toNatClampNeg) (mRm r.toNatClampNeg)) → Q (some (.int 0)) (hq g c1 c2 c3 c4 c5 c6 c7 c8 c9 c10 c11 c12 c13 c14 c15 c16 c17 c18 c19 c20 c21 c22 c23 c24 (hc25 mTy mTm mMn mFn mRn mTn mVn mLr mTr mFl mFm mFp mSc mMp mEn) (hc26 mPa) (hc27 mTo) (hc28 mOt) (hc29 mNa) (hc30 mRe) (hc31 mMa) (hc32 mMy) (hc33 mPm) (hc34 mFy) (hc35 mFa) (hc36 mFr) (hc37 mFo) (hc38 mRt) (hc39 mRm) (hc40 mTt) (hc41 mTi) (hc42 mPl) (hc43 mVr) (hc44 mVf) (hc45 mVc) (hc46 mAr) (hc47 mTc) (hc48 mFt) (hc49 mGo) dyn)) (k3 : (0 ≤ r.toInt ∧ r.toInt < mRn.toInt) ∧ (mFo r.toNatClampNeg).toInt = 4 → Q (some (.int 1)) (hq g c1 c2 c3 c4 c5 c6 c7 c8 c9 c10 c11 c12 c13 c14 c15 c16 c17 c18 c19 c20 c21 c22 c23 c24 (hc25 mTy mTm mMn mFn mRn mTn mVn mLr mTr mFl mFm mFp mSc mMp mEn) (hc26 mPa) (hc27 mTo) (hc28 mOt) (hc29 mNa) (hc30 mRe) (hc31 mMa) (hc32 mMy) (hc33 mPm) (hc34 mFy) (hc35 mFa) (hc36 mFr) (hc37 mFo) (hc38 mRt) (hc39 mRm) (hc40 mTt) (hc41 mTi) (hc42 mPl) (hc43 mVr) (hc44 mVf) (hc45 mVc) (hc46 mAr) (hc47 mTc) (hc48 mFt) (hc49 mGo) dyn)) : pm_WP 168 (0, [(0, .ref 25), (1, .int r)], [], hq g c1 c2 c3 c4 c5 c6 c7 c8 c9 c10 c11 c12 c13 c14 c15 c16 c17 c18 c19 c20 c21 c22 c23 c24 (hc25 mTy mTm mMn mFn mRn mTn mVn mLr mTr mFl mFm mFp mSc mMp mEn) (hc26 mPa) (hc27 mTo) (hc28 mOt) (hc29 mNa) (hc30 mRe) (hc31 mMa) (hc32 mMy) (hc33 mPm) (hc34 mFy) (hc35 mFa) (hc36 mFr) (hc37 mFo) (hc38 mRt) (hc39 mRm) (hc40 mTt) (hc41 mTi) (hc42 mPl) (hc43 mVr) (hc44 mVf) (hc45 mVc) (hc46 mAr) (hc47 mTc) (hc48 mFt) (hc49 mGo) dyn, 0, 0) Q := by
  have hrf := fun q : (0 ≤ r.toInt ∧ r.toInt < mRn.toInt) => rfD_at p2 q
  refine pm_go (g := (1, [(0, .ref 25), (1, .int r)], [.ref 25], hq g c1 c2 c3 c4 c5 c6 c7 c8 c9 c10 c11 c12 c13 c14 c15 c16 c17 c18 c19 c20 c21 c22 c23 c24 (hc25 mTy mTm mMn mFn mRn mTn mVn mLr mTr mFl mFm mFp mSc mMp mEn) (hc26 mPa) (hc27 mTo) (hc28 mOt) (hc29 mNa) (hc30 mRe) (hc31 mMa) (hc32 mMy) (hc33 mPm) (hc34 mFy) (hc35 mFa) (hc36 mFr) (hc37 mFo) (hc38 mRt) (hc39 mRm) (hc40 mTt) (hc41 mTi) (hc42 mPl) (hc43 mVr) (hc44 mVf) (hc45 mVc) (hc46 mAr) (hc47 mTc) (hc48 mFt) (hc49 mGo) dyn, 0, 0)) rfl ?_
  refine pm_go (g := (2, _, [.int r, .ref 25], _, 0, 0)) rfl ?_
  refine pm_callD (z := 160) (as := [.ref 25, .int r]) (rest := []) rfl ?_
  refine w_X12_isReference r (by omega) (fun h1 => ?_) (fun h2 => ?_)
  ·
    show pm_WP 168 (5, [(0, .ref 25), (1, .int r)], [.int 1], _, 0, 0) _
    refine pm_brT (g := (10, [(0, .ref 25), (1, .int r)], [], hq g c1 c2 c3 c4 c5 c6 c7 c8 c9 c10 c11 c12 c13 c14 c15 c16 c17 c18 c19 c20 c21 c22 c23 c24 (hc25 mTy mTm mMn mFn mRn mTn mVn mLr mTr mFl mFm mFp mSc mMp mEn) (hc26 mPa) (hc27 mTo) (hc28 mOt) (hc29 mNa) (hc30 mRe) (hc31 mMa) (hc32 mMy) (hc33 mPm) (hc34 mFy) (hc35 mFa) (hc36 mFr) (hc37 mFo) (hc38 mRt) (hc39 mRm) (hc40 mTt) (hc41 mTi) (hc42 mPl) (hc43 mVr) (hc44 mVf) (hc45 mVc) (hc46 mAr) (hc47 mTc) (hc48 mFt) (hc49 mGo) dyn, 0, 0)) rfl ?_
    refine pm_go (g := (11, _, [.ref 25], _, 0, 0)) rfl ?_
    refine pm_go (g := (14, _, [.ref 38], _, 0, 0)) rfl ?_
    refine pm_go (g := (15, _, [.int r, .ref 38], _, 0, 0)) rfl ?_
    refine pm_sd (g := (16, _, [.int (mRt (r).toNatClampNeg)], _, 0, 0)) rfl (pm_inI (by omega) (by omega)) ?_
    refine pm_go (g := (17, [(2, .int (mRt (r).toNatClampNeg)), (0, .ref 25), (1, .int r)], [], _, 0, 0)) rfl ?_
    refine pm_go (g := (18, _, [.ref 25], _, 0, 0)) rfl ?_
    refine pm_go (g := (21, _, [.ref 37], _, 0, 0)) rfl ?_
    refine pm_go (g := (22, _, [.int r, .ref 37], _, 0, 0)) rfl ?_
    refine pm_sd (g := (23, _, [.int (mFo (r).toNatClampNeg)], _, 0, 0)) rfl (pm_inI (by omega) (by omega)) ?_
    refine pm_go (g := (24, _, [.int 4, .int (mFo (r).toNatClampNeg)], _, 0, 0)) rfl ?_
    refine pm_if2 (g := (29, [(2, .int (mRt (r).toNatClampNeg)), (0, .ref 25), (1, .int r)], [], hq g c1 c2 c3 c4 c5 c6 c7 c8 c9 c10 c11 c12 c13 c14 c15 c16 c17 c18 c19 c20 c21 c22 c23 c24 (hc25 mTy mTm mMn mFn mRn mTn mVn mLr mTr mFl mFm mFp mSc mMp mEn) (hc26 mPa) (hc27 mTo) (hc28 mOt) (hc29 mNa) (hc30 mRe) (hc31 mMa) (hc32 mMy) (hc33 mPm) (hc34 mFy) (hc35 mFa) (hc36 mFr) (hc37 mFo) (hc38 mRt) (hc39 mRm) (hc40 mTt) (hc41 mTi) (hc42 mPl) (hc43 mVr) (hc44 mVf) (hc45 mVc) (hc46 mAr) (hc47 mTc) (hc48 mFt) (hc49 mGo) dyn, 0, 0)) (h := (27, [(2, .int (mRt (r).toNatClampNeg)), (0, .ref 25), (1, .int r)], [], hq g c1 c2 c3 c4 c5 c6 c7 c8 c9 c10 c11 c12 c13 c14 c15 c16 c17 c18 c19 c20 c21 c22 c23 c24 (hc25 mTy mTm mMn mFn mRn mTn mVn mLr mTr mFl mFm mFp mSc mMp mEn) (hc26 mPa) (hc27 mTo) (hc28 mOt) (hc29 mNa) (hc30 mRe) (hc31 mMa) (hc32 mMy) (hc33 mPm) (hc34 mFy) (hc35 mFa) (hc36 mFr) (hc37 mFo) (hc38 mRt) (hc39 mRm) (hc40 mTt) (hc41 mTi) (hc42 mPl) (hc43 mVr) (hc44 mVf) (hc45 mVc) (hc46 mAr) (hc47 mTc) (hc48 mFt) (hc49 mGo) dyn, 0, 0)) rfl (fun h4 => ?_) (fun h4 => ?_)
    ·
      have h4 := qT_ne (cx := (mFo (r).toNatClampNeg).toInt) (cy := 4) rfl (by decide) h4
      refine pm_go (g := (30, _, [.int 0], _, 0, 0)) rfl ?_
      refine pm_go (g := (31, [(3, .int 0), (2, .int (mRt (r).toNatClampNeg)), (0, .ref 25), (1, .int r)], [], _, 0, 0)) rfl ?_
      refine pm_go (g := (32, _, [.int 0], _, 0, 0)) rfl ?_
      refine pm_go (g := (34, [(4, .int 0), (3, .int 0), (2, .int (mRt (r).toNatClampNeg)), (0, .ref 25), (1, .int r)], [], _, 0, 0)) rfl ?_
      refine pm_go (g := (35, _, [.int 0], _, 0, 0)) rfl ?_
      refine pm_go (g := (37, [(5, .int 0), (4, .int 0), (3, .int 0), (2, .int (mRt (r).toNatClampNeg)), (0, .ref 25), (1, .int r)], [], _, 0, 0)) rfl ?_
      exact w_exact_loop r (by omega) (by omega) p3 p4 p5 41 0 0 0 (by omega) (by omega) bs_0 (fun j q => absurd q (Nat.not_lt_zero j)) (k1 (by omega)) (k2 (by omega))
    have h4 := qF_ne (cx := (mFo (r).toNatClampNeg).toInt) (cy := 4) rfl (by decide) h4
    refine pm_go (g := (28, [(2, .int (mRt (r).toNatClampNeg)), (0, .ref 25), (1, .int r)], [.int 1], _, 0, 0)) rfl ?_
    first | exact pm_ret rfl (k0 (by omega)) | exact pm_ret rfl (k3 (by omega))
  show pm_WP 168 (5, [(0, .ref 25), (1, .int r)], [.int 0], hq g c1 c2 c3 c4 c5 c6 c7 c8 c9 c10 c11 c12 c13 c14 c15 c16 c17 c18 c19 c20 c21 c22 c23 c24 (hc25 mTy mTm mMn mFn mRn mTn mVn mLr mTr mFl mFm mFp mSc mMp mEn) (hc26 mPa) (hc27 mTo) (hc28 mOt) (hc29 mNa) (hc30 mRe) (hc31 mMa) (hc32 mMy) (hc33 mPm) (hc34 mFy) (hc35 mFa) (hc36 mFr) (hc37 mFo) (hc38 mRt) (hc39 mRm) (hc40 mTt) (hc41 mTi) (hc42 mPl) (hc43 mVr) (hc44 mVf) (hc45 mVc) (hc46 mAr) (hc47 mTc) (hc48 mFt) (hc49 mGo) dyn, 0, 0) _
  refine pm_brF (h := (8, [(0, .ref 25), (1, .int r)], [], hq g c1 c2 c3 c4 c5 c6 c7 c8 c9 c10 c11 c12 c13 c14 c15 c16 c17 c18 c19 c20 c21 c22 c23 c24 (hc25 mTy mTm mMn mFn mRn mTn mVn mLr mTr mFl mFm mFp mSc mMp mEn) (hc26 mPa) (hc27 mTo) (hc28 mOt) (hc29 mNa) (hc30 mRe) (hc31 mMa) (hc32 mMy) (hc33 mPm) (hc34 mFy) (hc35 mFa) (hc36 mFr) (hc37 mFo) (hc38 mRt) (hc39 mRm) (hc40 mTt) (hc41 mTi) (hc42 mPl) (hc43 mVr) (hc44 mVf) (hc45 mVc) (hc46 mAr) (hc47 mTc) (hc48 mFt) (hc49 mGo) dyn, 0, 0)) rfl ?_
  refine pm_go (g := (9, _, [.int (-1)], _, 0, 0)) rfl ?_
  first | exact pm_ret rfl (k0 (by omega)) | exact pm_ret rfl (k3 (by omega))
end
section
/-- things, what it ended with, kinds, amounts, places -/
abbrev cs_T : Type := Int32 × Int32 × (Nat → Int32) × (Nat → Int32) × (Nat → Int32)
/-- the reference's made -/
def mdF (t v : Int32) (z : cs_T) : Int32 × cs_T := if z.2.1.toInt ≠ 0 then (0, z) else if z.1.toInt = 60 then (0, (z.1, -2, z.2.2)) else (z.1 + 1, (z.1 + 1, z.2.1, upd z.2.2.1 (z.1 + 1).toNatClampNeg t, upd z.2.2.2.1 (z.1 + 1).toNatClampNeg v, zP z.2.2.2.2 (z.1 + 1)))
/-- the reference's turned -/
def tuF (v a b : Int32) (z : cs_T) : Int32 × cs_T := if a.toInt = 10 ∧ b.toInt ≠ 10 then mdF 1 v z else if a.toInt ≠ 10 ∧ b.toInt = 10 then (if z.2.1.toInt = 0 ∧ v.toInt = 0 then (0, (z.1, -21, z.2.2)) else if z.2.1.toInt = 0 then (z.2.2.2.1 v.toNatClampNeg, z) else (0, z)) else (v, z)
theorem md_1 {t v tn en : Int32} {x : (Nat → Int32) × (Nat → Int32) × (Nat → Int32)} (h : en.toInt ≠ 0) : mdF t v (tn, en, x) = (0, tn, en, x) := by unfold mdF; rw [if_pos h]
theorem md_2 {t v tn en : Int32} {x : (Nat → Int32) × (Nat → Int32) × (Nat → Int32)} (h : en.toInt = 0 ∧ tn.toInt = 60) : mdF t v (tn, en, x) = (0, tn, -2, x) := by unfold mdF; rw [if_neg (fun q => q h.1), if_pos h.2]
theorem md_3 {t v tn en : Int32} {tt ti pl : Nat → Int32} (h : en.toInt = 0 ∧ tn.toInt < 60) : mdF t v (tn, en, tt, ti, pl) = (tn + 1, tn + 1, en, upd tt (tn + 1).toNatClampNeg t, upd ti (tn + 1).toNatClampNeg v, zP pl (tn + 1)) := by unfold mdF; rw [if_neg (fun q => q h.1), if_neg (by show ¬ tn.toInt = 60; omega)]
theorem tu_1 {v a b : Int32} {z : cs_T} (h : a.toInt = 10 ∧ b.toInt ≠ 10) : tuF v a b z = mdF 1 v z := by unfold tuF; rw [if_pos h]
theorem tu_2 {v a b tn en : Int32} {x : (Nat → Int32) × (Nat → Int32) × (Nat → Int32)} (h : a.toInt ≠ 10 ∧ b.toInt = 10) (h2 : en.toInt = 0 ∧ v.toInt = 0) : tuF v a b (tn, en, x) = (0, tn, -21, x) := by unfold tuF; rw [if_neg (fun q => h.1 q.1), if_pos h, if_pos h2]
theorem tu_3 {v a b tn en : Int32} {tt ti pl : Nat → Int32} (h : a.toInt ≠ 10 ∧ b.toInt = 10) (h2 : ¬ (en.toInt = 0 ∧ v.toInt = 0)) (h3 : en.toInt = 0) : tuF v a b (tn, en, tt, ti, pl) = (ti v.toNatClampNeg, tn, en, tt, ti, pl) := by unfold tuF; rw [if_neg (fun q => h.1 q.1), if_pos h, if_neg h2, if_pos h3]
theorem tu_4 {v a b tn en : Int32} {x : (Nat → Int32) × (Nat → Int32) × (Nat → Int32)} (h : a.toInt ≠ 10 ∧ b.toInt = 10) (h3 : en.toInt ≠ 0) : tuF v a b (tn, en, x) = (0, tn, en, x) := by unfold tuF; rw [if_neg (fun q => h.1 q.1), if_pos h, if_neg (fun q => h3 q.1), if_neg h3]
theorem tu_5 {v a b : Int32} {z : cs_T} (h : ¬ (a.toInt = 10 ∧ b.toInt ≠ 10)) (h2 : ¬ (a.toInt ≠ 10 ∧ b.toInt = 10)) : tuF v a b z = (v, z) := by unfold tuF; rw [if_neg h, if_neg h2]
set_option maxRecDepth 100000 in
set_option maxHeartbeats 4000000 in
theorem w2_X12_made {g c1 c2 c3 c4 c5 c6 c7 c8 c9 c10 c11 c12 c13 c14 c15 c16 c17 c18 c19 c20 c21 c22 c23 c24 : pm_C} {dyn : pm_H} {mTy : Int32} {mPa : Nat → Int32} {mTo : Nat → Int32} {mTm : Int32} {mMn : Int32} {mOt : Nat → Int32} {mNa : Nat → Int32} {mRe : Nat → Int32} {mMa : Nat → Int32} {mMy : Nat → Int32} {mPm : Nat → Int32} {mFn : Int32} {mFy : Nat → Int32} {mFa : Nat → Int32} {mFr : Nat → Int32} {mRn : Int32} {mFo : Nat → Int32} {mRt : Nat → Int32} {mRm : Nat → Int32} {mTn : Int32} {mTt : Nat → Int32} {mTi : Nat → Int32} {mPl : Nat → Int32} {mVn : Int32} {mVr : Nat → Int32} {mVf : Nat → Int32} {mVc : Nat → Int32} {mAr : Nat → Int32} {mLr : Int32} {mTc : Nat → Int32} {mTr : Int32} {mFl : Int32} {mFt : Nat → Int32} {mFm : Int32} {mFp : Int32} {mSc : Int32} {mMp : Int32} {mEn : Int32} {mGo : Nat → Int32} {Q : pm_Q} (t : Int32) (v : Int32) (p0 : 0 ≤ mTn.toInt ∧ mTn.toInt ≤ 60) (k0 : ∀ (r9 : Int32), ∀ (n9 : Int32), ∀ (e9 : Int32), ∀ (t9 : Nat → Int32), ∀ (i9 : Nat → Int32), ∀ (l9 : Nat → Int32), ((r9, n9, e9, t9, i9, l9) = mdF t v (mTn, mEn, mTt, mTi, mPl)) → (((0 ≤ n9.toInt ∧ n9.toInt ≤ 60) ∧ mTn.toInt ≤ n9.toInt) ∧ (0 ≤ r9.toInt ∧ r9.toInt ≤ n9.toInt)) → Q (some (.int r9)) (hq g c1 c2 c3 c4 c5 c6 c7 c8 c9 c10 c11 c12 c13 c14 c15 c16 c17 c18 c19 c20 c21 c22 c23 c24 (hc25 mTy mTm mMn mFn mRn n9 mVn mLr mTr mFl mFm mFp mSc mMp e9) (hc26 mPa) (hc27 mTo) (hc28 mOt) (hc29 mNa) (hc30 mRe) (hc31 mMa) (hc32 mMy) (hc33 mPm) (hc34 mFy) (hc35 mFa) (hc36 mFr) (hc37 mFo) (hc38 mRt) (hc39 mRm) (hc40 t9) (hc41 i9) (hc42 l9) (hc43 mVr) (hc44 mVf) (hc45 mVc) (hc46 mAr) (hc47 mTc) (hc48 mFt) (hc49 mGo) dyn)) : pm_WP 169 (0, [(0, .ref 25), (1, .int t), (2, .int v)], [], hq g c1 c2 c3 c4 c5 c6 c7 c8 c9 c10 c11 c12 c13 c14 c15 c16 c17 c18 c19 c20 c21 c22 c23 c24 (hc25 mTy mTm mMn mFn mRn mTn mVn mLr mTr mFl mFm mFp mSc mMp mEn) (hc26 mPa) (hc27 mTo) (hc28 mOt) (hc29 mNa) (hc30 mRe) (hc31 mMa) (hc32 mMy) (hc33 mPm) (hc34 mFy) (hc35 mFa) (hc36 mFr) (hc37 mFo) (hc38 mRt) (hc39 mRm) (hc40 mTt) (hc41 mTi) (hc42 mPl) (hc43 mVr) (hc44 mVf) (hc45 mVc) (hc46 mAr) (hc47 mTc) (hc48 mFt) (hc49 mGo) dyn, 0, 0) Q := by
  have z0 : (0 : Int32).toInt = 0 := by decide
  refine w_X12_made t v p0 (fun h => ?_) (fun h => ?_) (fun h => ?_)
  · exact k0 _ _ _ _ _ _ (md_1 h).symm (by omega)
  · exact k0 _ _ _ _ _ _ (md_2 h).symm (by omega)
  · have z1 : (mTn + 1).toInt = mTn.toInt + 1 := iAdd rfl (by decide) (by omega) (by omega)
    exact k0 _ _ _ _ _ _ (md_3 h).symm (by omega)
set_option maxRecDepth 100000 in
set_option maxHeartbeats 4000000 in
theorem w_X12_turned {g c1 c2 c3 c4 c5 c6 c7 c8 c9 c10 c11 c12 c13 c14 c15 c16 c17 c18 c19 c20 c21 c22 c23 c24 : pm_C} {dyn : pm_H} {mTy : Int32} {mPa : Nat → Int32} {mTo : Nat → Int32} {mTm : Int32} {mMn : Int32} {mOt : Nat → Int32} {mNa : Nat → Int32} {mRe : Nat → Int32} {mMa : Nat → Int32} {mMy : Nat → Int32} {mPm : Nat → Int32} {mFn : Int32} {mFy : Nat → Int32} {mFa : Nat → Int32} {mFr : Nat → Int32} {mRn : Int32} {mFo : Nat → Int32} {mRt : Nat → Int32} {mRm : Nat → Int32} {mTn : Int32} {mTt : Nat → Int32} {mTi : Nat → Int32} {mPl : Nat → Int32} {mVn : Int32} {mVr : Nat → Int32} {mVf : Nat → Int32} {mVc : Nat → Int32} {mAr : Nat → Int32} {mLr : Int32} {mTc : Nat → Int32} {mTr : Int32} {mFl : Int32} {mFt : Nat → Int32} {mFm : Int32} {mFp : Int32} {mSc : Int32} {mMp : Int32} {mEn : Int32} {mGo : Nat → Int32} {Q : pm_Q} (v : Int32) (a : Int32) (b : Int32) (p0 : 0 ≤ mTn.toInt ∧ mTn.toInt ≤ 60) (p1 : (a.toInt ≠ 10 ∧ b.toInt = 10) → (0 ≤ v.toInt ∧ v.toInt ≤ 60)) (k0 : ∀ (r9 : Int32), ∀ (n9 : Int32), ∀ (e9 : Int32), ∀ (t9 : Nat → Int32), ∀ (i9 : Nat → Int32), ∀ (l9 : Nat → Int32), ((r9, n9, e9, t9, i9, l9) = tuF v a b (mTn, mEn, mTt, mTi, mPl)) → (((0 ≤ n9.toInt ∧ n9.toInt ≤ 60) ∧ mTn.toInt ≤ n9.toInt) ∧ ((a.toInt = 10 ∧ b.toInt ≠ 10) → (0 ≤ r9.toInt ∧ r9.toInt ≤ n9.toInt))) → Q (some (.int r9)) (hq g c1 c2 c3 c4 c5 c6 c7 c8 c9 c10 c11 c12 c13 c14 c15 c16 c17 c18 c19 c20 c21 c22 c23 c24 (hc25 mTy mTm mMn mFn mRn n9 mVn mLr mTr mFl mFm mFp mSc mMp e9) (hc26 mPa) (hc27 mTo) (hc28 mOt) (hc29 mNa) (hc30 mRe) (hc31 mMa) (hc32 mMy) (hc33 mPm) (hc34 mFy) (hc35 mFa) (hc36 mFr) (hc37 mFo) (hc38 mRt) (hc39 mRm) (hc40 t9) (hc41 i9) (hc42 l9) (hc43 mVr) (hc44 mVf) (hc45 mVc) (hc46 mAr) (hc47 mTc) (hc48 mFt) (hc49 mGo) dyn)) : pm_WP 178 (0, [(0, .ref 25), (1, .int v), (2, .int a), (3, .int b)], [], hq g c1 c2 c3 c4 c5 c6 c7 c8 c9 c10 c11 c12 c13 c14 c15 c16 c17 c18 c19 c20 c21 c22 c23 c24 (hc25 mTy mTm mMn mFn mRn mTn mVn mLr mTr mFl mFm mFp mSc mMp mEn) (hc26 mPa) (hc27 mTo) (hc28 mOt) (hc29 mNa) (hc30 mRe) (hc31 mMa) (hc32 mMy) (hc33 mPm) (hc34 mFy) (hc35 mFa) (hc36 mFr) (hc37 mFo) (hc38 mRt) (hc39 mRm) (hc40 mTt) (hc41 mTi) (hc42 mPl) (hc43 mVr) (hc44 mVf) (hc45 mVc) (hc46 mAr) (hc47 mTc) (hc48 mFt) (hc49 mGo) dyn, 0, 0) Q := by
  refine pm_go (g := (1, [(0, .ref 25), (1, .int v), (2, .int a), (3, .int b)], [.int a], hq g c1 c2 c3 c4 c5 c6 c7 c8 c9 c10 c11 c12 c13 c14 c15 c16 c17 c18 c19 c20 c21 c22 c23 c24 (hc25 mTy mTm mMn mFn mRn mTn mVn mLr mTr mFl mFm mFp mSc mMp mEn) (hc26 mPa) (hc27 mTo) (hc28 mOt) (hc29 mNa) (hc30 mRe) (hc31 mMa) (hc32 mMy) (hc33 mPm) (hc34 mFy) (hc35 mFa) (hc36 mFr) (hc37 mFo) (hc38 mRt) (hc39 mRm) (hc40 mTt) (hc41 mTi) (hc42 mPl) (hc43 mVr) (hc44 mVf) (hc45 mVc) (hc46 mAr) (hc47 mTc) (hc48 mFt) (hc49 mGo) dyn, 0, 0)) rfl ?_
  refine pm_go (g := (3, _, [.int 10, .int a], _, 0, 0)) rfl ?_
  refine pm_if2 (g := (19, [(0, .ref 25), (1, .int v), (2, .int a), (3, .int b)], [], hq g c1 c2 c3 c4 c5 c6 c7 c8 c9 c10 c11 c12 c13 c14 c15 c16 c17 c18 c19 c20 c21 c22 c23 c24 (hc25 mTy mTm mMn mFn mRn mTn mVn mLr mTr mFl mFm mFp mSc mMp mEn) (hc26 mPa) (hc27 mTo) (hc28 mOt) (hc29 mNa) (hc30 mRe) (hc31 mMa) (hc32 mMy) (hc33 mPm) (hc34 mFy) (hc35 mFa) (hc36 mFr) (hc37 mFo) (hc38 mRt) (hc39 mRm) (hc40 mTt) (hc41 mTi) (hc42 mPl) (hc43 mVr) (hc44 mVf) (hc45 mVc) (hc46 mAr) (hc47 mTc) (hc48 mFt) (hc49 mGo) dyn, 0, 0)) (h := (6, [(0, .ref 25), (1, .int v), (2, .int a), (3, .int b)], [], hq g c1 c2 c3 c4 c5 c6 c7 c8 c9 c10 c11 c12 c13 c14 c15 c16 c17 c18 c19 c20 c21 c22 c23 c24 (hc25 mTy mTm mMn mFn mRn mTn mVn mLr mTr mFl mFm mFp mSc mMp mEn) (hc26 mPa) (hc27 mTo) (hc28 mOt) (hc29 mNa) (hc30 mRe) (hc31 mMa) (hc32 mMy) (hc33 mPm) (hc34 mFy) (hc35 mFa) (hc36 mFr) (hc37 mFo) (hc38 mRt) (hc39 mRm) (hc40 mTt) (hc41 mTi) (hc42 mPl) (hc43 mVr) (hc44 mVf) (hc45 mVc) (hc46 mAr) (hc47 mTc) (hc48 mFt) (hc49 mGo) dyn, 0, 0)) rfl (fun h1 => ?_) (fun h1 => ?_)
  ·
    have h1 := qT_ne (cx := (a).toInt) (cy := 10) rfl (by decide) h1
    refine pm_go (g := (20, _, [.int a], _, 0, 0)) rfl ?_
    refine pm_go (g := (22, _, [.int 10, .int a], _, 0, 0)) rfl ?_
    refine pm_if2 (g := (73, [(0, .ref 25), (1, .int v), (2, .int a), (3, .int b)], [], hq g c1 c2 c3 c4 c5 c6 c7 c8 c9 c10 c11 c12 c13 c14 c15 c16 c17 c18 c19 c20 c21 c22 c23 c24 (hc25 mTy mTm mMn mFn mRn mTn mVn mLr mTr mFl mFm mFp mSc mMp mEn) (hc26 mPa) (hc27 mTo) (hc28 mOt) (hc29 mNa) (hc30 mRe) (hc31 mMa) (hc32 mMy) (hc33 mPm) (hc34 mFy) (hc35 mFa) (hc36 mFr) (hc37 mFo) (hc38 mRt) (hc39 mRm) (hc40 mTt) (hc41 mTi) (hc42 mPl) (hc43 mVr) (hc44 mVf) (hc45 mVc) (hc46 mAr) (hc47 mTc) (hc48 mFt) (hc49 mGo) dyn, 0, 0)) (h := (25, [(0, .ref 25), (1, .int v), (2, .int a), (3, .int b)], [], hq g c1 c2 c3 c4 c5 c6 c7 c8 c9 c10 c11 c12 c13 c14 c15 c16 c17 c18 c19 c20 c21 c22 c23 c24 (hc25 mTy mTm mMn mFn mRn mTn mVn mLr mTr mFl mFm mFp mSc mMp mEn) (hc26 mPa) (hc27 mTo) (hc28 mOt) (hc29 mNa) (hc30 mRe) (hc31 mMa) (hc32 mMy) (hc33 mPm) (hc34 mFy) (hc35 mFa) (hc36 mFr) (hc37 mFo) (hc38 mRt) (hc39 mRm) (hc40 mTt) (hc41 mTi) (hc42 mPl) (hc43 mVr) (hc44 mVf) (hc45 mVc) (hc46 mAr) (hc47 mTc) (hc48 mFt) (hc49 mGo) dyn, 0, 0)) rfl (fun h2 => ?_) (fun h2 => ?_)
    ·
      have h2 := qT_eq (cx := (a).toInt) (cy := 10) rfl (by decide) h2
      refine pm_go (g := (74, _, [.int v], _, 0, 0)) rfl ?_
      first | exact pm_ret rfl (k0 _ _ _ _ _ _ (h0.trans (tu_1 (by omega)).symm) (by omega)) | exact pm_ret rfl (k0 _ _ _ _ _ _ (tu_2 (by omega) (by omega)).symm (by omega)) | exact pm_ret rfl (k0 _ _ _ _ _ _ (tu_3 (by omega) (by omega) (by omega)).symm (by omega)) | exact pm_ret rfl (k0 _ _ _ _ _ _ (tu_4 (by omega) (by omega)).symm (by omega)) | exact pm_ret rfl (k0 _ _ _ _ _ _ (tu_5 (by omega) (by omega)).symm (by omega)) | (exfalso; omega)
    have h2 := qF_eq (cx := (a).toInt) (cy := 10) rfl (by decide) h2
    refine pm_go (g := (26, _, [.int b], _, 0, 0)) rfl ?_
    refine pm_go (g := (28, _, [.int 10, .int b], _, 0, 0)) rfl ?_
    refine pm_if2 (g := (73, [(0, .ref 25), (1, .int v), (2, .int a), (3, .int b)], [], hq g c1 c2 c3 c4 c5 c6 c7 c8 c9 c10 c11 c12 c13 c14 c15 c16 c17 c18 c19 c20 c21 c22 c23 c24 (hc25 mTy mTm mMn mFn mRn mTn mVn mLr mTr mFl mFm mFp mSc mMp mEn) (hc26 mPa) (hc27 mTo) (hc28 mOt) (hc29 mNa) (hc30 mRe) (hc31 mMa) (hc32 mMy) (hc33 mPm) (hc34 mFy) (hc35 mFa) (hc36 mFr) (hc37 mFo) (hc38 mRt) (hc39 mRm) (hc40 mTt) (hc41 mTi) (hc42 mPl) (hc43 mVr) (hc44 mVf) (hc45 mVc) (hc46 mAr) (hc47 mTc) (hc48 mFt) (hc49 mGo) dyn, 0, 0)) (h := (31, [(0, .ref 25), (1, .int v), (2, .int a), (3, .int b)], [], hq g c1 c2 c3 c4 c5 c6 c7 c8 c9 c10 c11 c12 c13 c14 c15 c16 c17 c18 c19 c20 c21 c22 c23 c24 (hc25 mTy mTm mMn mFn mRn mTn mVn mLr mTr mFl mFm mFp mSc mMp mEn) (hc26 mPa) (hc27 mTo) (hc28 mOt) (hc29 mNa) (hc30 mRe) (hc31 mMa) (hc32 mMy) (hc33 mPm) (hc34 mFy) (hc35 mFa) (hc36 mFr) (hc37 mFo) (hc38 mRt) (hc39 mRm) (hc40 mTt) (hc41 mTi) (hc42 mPl) (hc43 mVr) (hc44 mVf) (hc45 mVc) (hc46 mAr) (hc47 mTc) (hc48 mFt) (hc49 mGo) dyn, 0, 0)) rfl (fun h3 => ?_) (fun h3 => ?_)
    ·
      have h3 := qT_ne (cx := (b).toInt) (cy := 10) rfl (by decide) h3
      refine pm_go (g := (74, _, [.int v], _, 0, 0)) rfl ?_
      first | exact pm_ret rfl (k0 _ _ _ _ _ _ (h0.trans (tu_1 (by omega)).symm) (by omega)) | exact pm_ret rfl (k0 _ _ _ _ _ _ (tu_2 (by omega) (by omega)).symm (by omega)) | exact pm_ret rfl (k0 _ _ _ _ _ _ (tu_3 (by omega) (by omega) (by omega)).symm (by omega)) | exact pm_ret rfl (k0 _ _ _ _ _ _ (tu_4 (by omega) (by omega)).symm (by omega)) | exact pm_ret rfl (k0 _ _ _ _ _ _ (tu_5 (by omega) (by omega)).symm (by omega)) | (exfalso; omega)
    have h3 := qF_ne (cx := (b).toInt) (cy := 10) rfl (by decide) h3
    refine pm_go (g := (32, _, [.ref 25], _, 0, 0)) rfl ?_
    refine pm_go (g := (33, _, [.ref 25, .ref 25], _, 0, 0)) rfl ?_
    refine pm_go (g := (36, _, [.int mEn, .ref 25], _, 0, 0)) rfl ?_
    refine pm_if2 (g := (48, [(0, .ref 25), (1, .int v), (2, .int a), (3, .int b)], [.ref 25], hq g c1 c2 c3 c4 c5 c6 c7 c8 c9 c10 c11 c12 c13 c14 c15 c16 c17 c18 c19 c20 c21 c22 c23 c24 (hc25 mTy mTm mMn mFn mRn mTn mVn mLr mTr mFl mFm mFp mSc mMp mEn) (hc26 mPa) (hc27 mTo) (hc28 mOt) (hc29 mNa) (hc30 mRe) (hc31 mMa) (hc32 mMy) (hc33 mPm) (hc34 mFy) (hc35 mFa) (hc36 mFr) (hc37 mFo) (hc38 mRt) (hc39 mRm) (hc40 mTt) (hc41 mTi) (hc42 mPl) (hc43 mVr) (hc44 mVf) (hc45 mVc) (hc46 mAr) (hc47 mTc) (hc48 mFt) (hc49 mGo) dyn, 0, 0)) (h := (39, [(0, .ref 25), (1, .int v), (2, .int a), (3, .int b)], [.ref 25], hq g c1 c2 c3 c4 c5 c6 c7 c8 c9 c10 c11 c12 c13 c14 c15 c16 c17 c18 c19 c20 c21 c22 c23 c24 (hc25 mTy mTm mMn mFn mRn mTn mVn mLr mTr mFl mFm mFp mSc mMp mEn) (hc26 mPa) (hc27 mTo) (hc28 mOt) (hc29 mNa) (hc30 mRe) (hc31 mMa) (hc32 mMy) (hc33 mPm) (hc34 mFy) (hc35 mFa) (hc36 mFr) (hc37 mFo) (hc38 mRt) (hc39 mRm) (hc40 mTt) (hc41 mTi) (hc42 mPl) (hc43 mVr) (hc44 mVf) (hc45 mVc) (hc46 mAr) (hc47 mTc) (hc48 mFt) (hc49 mGo) dyn, 0, 0)) rfl (fun h4 => ?_) (fun h4 => ?_)
    ·
      have h4 := qT_ne (cx := (mEn).toInt) (cy := 0) rfl (by decide) h4
      refine pm_go (g := (49, _, [.ref 25, .ref 25], _, 0, 0)) rfl ?_
      refine pm_go (g := (52, _, [.int mEn, .ref 25], _, 0, 0)) rfl ?_
      refine pm_go (g := (55, _, [], _, 0, 0)) rfl ?_
      refine pm_go (g := (56, _, [.ref 25], _, 0, 0)) rfl ?_
      refine pm_go (g := (59, _, [.int mEn], _, 0, 0)) rfl ?_
      refine pm_if2 (g := (71, [(0, .ref 25), (1, .int v), (2, .int a), (3, .int b)], [], hq g c1 c2 c3 c4 c5 c6 c7 c8 c9 c10 c11 c12 c13 c14 c15 c16 c17 c18 c19 c20 c21 c22 c23 c24 (hc25 mTy mTm mMn mFn mRn mTn mVn mLr mTr mFl mFm mFp mSc mMp mEn) (hc26 mPa) (hc27 mTo) (hc28 mOt) (hc29 mNa) (hc30 mRe) (hc31 mMa) (hc32 mMy) (hc33 mPm) (hc34 mFy) (hc35 mFa) (hc36 mFr) (hc37 mFo) (hc38 mRt) (hc39 mRm) (hc40 mTt) (hc41 mTi) (hc42 mPl) (hc43 mVr) (hc44 mVf) (hc45 mVc) (hc46 mAr) (hc47 mTc) (hc48 mFt) (hc49 mGo) dyn, 0, 0)) (h := (62, [(0, .ref 25), (1, .int v), (2, .int a), (3, .int b)], [], hq g c1 c2 c3 c4 c5 c6 c7 c8 c9 c10 c11 c12 c13 c14 c15 c16 c17 c18 c19 c20 c21 c22 c23 c24 (hc25 mTy mTm mMn mFn mRn mTn mVn mLr mTr mFl mFm mFp mSc mMp mEn) (hc26 mPa) (hc27 mTo) (hc28 mOt) (hc29 mNa) (hc30 mRe) (hc31 mMa) (hc32 mMy) (hc33 mPm) (hc34 mFy) (hc35 mFa) (hc36 mFr) (hc37 mFo) (hc38 mRt) (hc39 mRm) (hc40 mTt) (hc41 mTi) (hc42 mPl) (hc43 mVr) (hc44 mVf) (hc45 mVc) (hc46 mAr) (hc47 mTc) (hc48 mFt) (hc49 mGo) dyn, 0, 0)) rfl (fun h5 => ?_) (fun h5 => ?_)
      ·
        have h5 := qT_ne (cx := (mEn).toInt) (cy := 0) rfl (by decide) h5
        refine pm_go (g := (72, _, [.int 0], _, 0, 0)) rfl ?_
        first | exact pm_ret rfl (k0 _ _ _ _ _ _ (h0.trans (tu_1 (by omega)).symm) (by omega)) | exact pm_ret rfl (k0 _ _ _ _ _ _ (tu_2 (by omega) (by omega)).symm (by omega)) | exact pm_ret rfl (k0 _ _ _ _ _ _ (tu_3 (by omega) (by omega) (by omega)).symm (by omega)) | exact pm_ret rfl (k0 _ _ _ _ _ _ (tu_4 (by omega) (by omega)).symm (by omega)) | exact pm_ret rfl (k0 _ _ _ _ _ _ (tu_5 (by omega) (by omega)).symm (by omega)) | (exfalso; omega)
      have h5 := qF_ne (cx := (mEn).toInt) (cy := 0) rfl (by decide) h5
      refine pm_go (g := (63, _, [.ref 25], _, 0, 0)) rfl ?_
      refine pm_go (g := (66, _, [.ref 41], _, 0, 0)) rfl ?_
      refine pm_go (g := (67, _, [.int v, .ref 41], _, 0, 0)) rfl ?_
      refine pm_sd (g := (68, _, [.int (mTi (v).toNatClampNeg)], _, 0, 0)) rfl (pm_inI (by omega) (by omega)) ?_
      refine pm_go (g := (72, _, [.int (mTi (v).toNatClampNeg)], _, 0, 0)) rfl ?_
      first | exact pm_ret rfl (k0 _ _ _ _ _ _ (h0.trans (tu_1 (by omega)).symm) (by omega)) | exact pm_ret rfl (k0 _ _ _ _ _ _ (tu_2 (by omega) (by omega)).symm (by omega)) | exact pm_ret rfl (k0 _ _ _ _ _ _ (tu_3 (by omega) (by omega) (by omega)).symm (by omega)) | exact pm_ret rfl (k0 _ _ _ _ _ _ (tu_4 (by omega) (by omega)).symm (by omega)) | exact pm_ret rfl (k0 _ _ _ _ _ _ (tu_5 (by omega) (by omega)).symm (by omega)) | (exfalso; omega)
    have h4 := qF_ne (cx := (mEn).toInt) (cy := 0) rfl (by decide) h4
    refine pm_go (g := (40, _, [.int v, .ref 25], _, 0, 0)) rfl ?_
    refine pm_if2 (g := (48, [(0, .ref 25), (1, .int v), (2, .int a), (3, .int b)], [.ref 25], hq g c1 c2 c3 c4 c5 c6 c7 c8 c9 c10 c11 c12 c13 c14 c15 c16 c17 c18 c19 c20 c21 c22 c23 c24 (hc25 mTy mTm mMn mFn mRn mTn mVn mLr mTr mFl mFm mFp mSc mMp mEn) (hc26 mPa) (hc27 mTo) (hc28 mOt) (hc29 mNa) (hc30 mRe) (hc31 mMa) (hc32 mMy) (hc33 mPm) (hc34 mFy) (hc35 mFa) (hc36 mFr) (hc37 mFo) (hc38 mRt) (hc39 mRm) (hc40 mTt) (hc41 mTi) (hc42 mPl) (hc43 mVr) (hc44 mVf) (hc45 mVc) (hc46 mAr) (hc47 mTc) (hc48 mFt) (hc49 mGo) dyn, 0, 0)) (h := (43, [(0, .ref 25), (1, .int v), (2, .int a), (3, .int b)], [.ref 25], hq g c1 c2 c3 c4 c5 c6 c7 c8 c9 c10 c11 c12 c13 c14 c15 c16 c17 c18 c19 c20 c21 c22 c23 c24 (hc25 mTy mTm mMn mFn mRn mTn mVn mLr mTr mFl mFm mFp mSc mMp mEn) (hc26 mPa) (hc27 mTo) (hc28 mOt) (hc29 mNa) (hc30 mRe) (hc31 mMa) (hc32 mMy) (hc33 mPm) (hc34 mFy) (hc35 mFa) (hc36 mFr) (hc37 mFo) (hc38 mRt) (hc39 mRm) (hc40 mTt) (hc41 mTi) (hc42 mPl) (hc43 mVr) (hc44 mVf) (hc45 mVc) (hc46 mAr) (hc47 mTc) (hc48 mFt) (hc49 mGo) dyn, 0, 0)) rfl (fun h6 => ?_) (fun h6 => ?_)
    ·
      have h6 := qT_ne (cx := (v).toInt) (cy := 0) rfl (by decide) h6
      refine pm_go (g := (49, _, [.ref 25, .ref 25], _, 0, 0)) rfl ?_
      refine pm_go (g := (52, _, [.int mEn, .ref 25], _, 0, 0)) rfl ?_
      refine pm_go (g := (55, _, [], _, 0, 0)) rfl ?_
      refine pm_go (g := (56, _, [.ref 25], _, 0, 0)) rfl ?_
      refine pm_go (g := (59, _, [.int mEn], _, 0, 0)) rfl ?_
      refine pm_if2 (g := (71, [(0, .ref 25), (1, .int v), (2, .int a), (3, .int b)], [], hq g c1 c2 c3 c4 c5 c6 c7 c8 c9 c10 c11 c12 c13 c14 c15 c16 c17 c18 c19 c20 c21 c22 c23 c24 (hc25 mTy mTm mMn mFn mRn mTn mVn mLr mTr mFl mFm mFp mSc mMp mEn) (hc26 mPa) (hc27 mTo) (hc28 mOt) (hc29 mNa) (hc30 mRe) (hc31 mMa) (hc32 mMy) (hc33 mPm) (hc34 mFy) (hc35 mFa) (hc36 mFr) (hc37 mFo) (hc38 mRt) (hc39 mRm) (hc40 mTt) (hc41 mTi) (hc42 mPl) (hc43 mVr) (hc44 mVf) (hc45 mVc) (hc46 mAr) (hc47 mTc) (hc48 mFt) (hc49 mGo) dyn, 0, 0)) (h := (62, [(0, .ref 25), (1, .int v), (2, .int a), (3, .int b)], [], hq g c1 c2 c3 c4 c5 c6 c7 c8 c9 c10 c11 c12 c13 c14 c15 c16 c17 c18 c19 c20 c21 c22 c23 c24 (hc25 mTy mTm mMn mFn mRn mTn mVn mLr mTr mFl mFm mFp mSc mMp mEn) (hc26 mPa) (hc27 mTo) (hc28 mOt) (hc29 mNa) (hc30 mRe) (hc31 mMa) (hc32 mMy) (hc33 mPm) (hc34 mFy) (hc35 mFa) (hc36 mFr) (hc37 mFo) (hc38 mRt) (hc39 mRm) (hc40 mTt) (hc41 mTi) (hc42 mPl) (hc43 mVr) (hc44 mVf) (hc45 mVc) (hc46 mAr) (hc47 mTc) (hc48 mFt) (hc49 mGo) dyn, 0, 0)) rfl (fun h7 => ?_) (fun h7 => ?_)
      ·
        have h7 := qT_ne (cx := (mEn).toInt) (cy := 0) rfl (by decide) h7
        refine pm_go (g := (72, _, [.int 0], _, 0, 0)) rfl ?_
        first | exact pm_ret rfl (k0 _ _ _ _ _ _ (h0.trans (tu_1 (by omega)).symm) (by omega)) | exact pm_ret rfl (k0 _ _ _ _ _ _ (tu_2 (by omega) (by omega)).symm (by omega)) | exact pm_ret rfl (k0 _ _ _ _ _ _ (tu_3 (by omega) (by omega) (by omega)).symm (by omega)) | exact pm_ret rfl (k0 _ _ _ _ _ _ (tu_4 (by omega) (by omega)).symm (by omega)) | exact pm_ret rfl (k0 _ _ _ _ _ _ (tu_5 (by omega) (by omega)).symm (by omega)) | (exfalso; omega)
      have h7 := qF_ne (cx := (mEn).toInt) (cy := 0) rfl (by decide) h7
      refine pm_go (g := (63, _, [.ref 25], _, 0, 0)) rfl ?_
      refine pm_go (g := (66, _, [.ref 41], _, 0, 0)) rfl ?_
      refine pm_go (g := (67, _, [.int v, .ref 41], _, 0, 0)) rfl ?_
      refine pm_sd (g := (68, _, [.int (mTi (v).toNatClampNeg)], _, 0, 0)) rfl (pm_inI (by omega) (by omega)) ?_
      refine pm_go (g := (72, _, [.int (mTi (v).toNatClampNeg)], _, 0, 0)) rfl ?_
      first | exact pm_ret rfl (k0 _ _ _ _ _ _ (h0.trans (tu_1 (by omega)).symm) (by omega)) | exact pm_ret rfl (k0 _ _ _ _ _ _ (tu_2 (by omega) (by omega)).symm (by omega)) | exact pm_ret rfl (k0 _ _ _ _ _ _ (tu_3 (by omega) (by omega) (by omega)).symm (by omega)) | exact pm_ret rfl (k0 _ _ _ _ _ _ (tu_4 (by omega) (by omega)).symm (by omega)) | exact pm_ret rfl (k0 _ _ _ _ _ _ (tu_5 (by omega) (by omega)).symm (by omega)) | (exfalso; omega)
    have h6 := qF_ne (cx := (v).toInt) (cy := 0) rfl (by decide) h6
    refine pm_go (g := (45, _, [.int (-21), .ref 25], _, 0, 0)) rfl ?_
    refine pm_go (g := (52, _, [.int (-21), .ref 25], _, 0, 0)) rfl ?_
    refine pm_go (g := (55, _, [], hq g c1 c2 c3 c4 c5 c6 c7 c8 c9 c10 c11 c12 c13 c14 c15 c16 c17 c18 c19 c20 c21 c22 c23 c24 (hc25 mTy mTm mMn mFn mRn mTn mVn mLr mTr mFl mFm mFp mSc mMp (-21)) (hc26 mPa) (hc27 mTo) (hc28 mOt) (hc29 mNa) (hc30 mRe) (hc31 mMa) (hc32 mMy) (hc33 mPm) (hc34 mFy) (hc35 mFa) (hc36 mFr) (hc37 mFo) (hc38 mRt) (hc39 mRm) (hc40 mTt) (hc41 mTi) (hc42 mPl) (hc43 mVr) (hc44 mVf) (hc45 mVc) (hc46 mAr) (hc47 mTc) (hc48 mFt) (hc49 mGo) dyn, 0, 0)) rfl ?_
    refine pm_go (g := (56, _, [.ref 25], _, 0, 0)) rfl ?_
    refine pm_go (g := (59, _, [.int (-21)], _, 0, 0)) rfl ?_
    refine pm_brT (g := (71, [(0, .ref 25), (1, .int v), (2, .int a), (3, .int b)], [], hq g c1 c2 c3 c4 c5 c6 c7 c8 c9 c10 c11 c12 c13 c14 c15 c16 c17 c18 c19 c20 c21 c22 c23 c24 (hc25 mTy mTm mMn mFn mRn mTn mVn mLr mTr mFl mFm mFp mSc mMp (-21)) (hc26 mPa) (hc27 mTo) (hc28 mOt) (hc29 mNa) (hc30 mRe) (hc31 mMa) (hc32 mMy) (hc33 mPm) (hc34 mFy) (hc35 mFa) (hc36 mFr) (hc37 mFo) (hc38 mRt) (hc39 mRm) (hc40 mTt) (hc41 mTi) (hc42 mPl) (hc43 mVr) (hc44 mVf) (hc45 mVc) (hc46 mAr) (hc47 mTc) (hc48 mFt) (hc49 mGo) dyn, 0, 0)) rfl ?_
    refine pm_go (g := (72, _, [.int 0], _, 0, 0)) rfl ?_
    first | exact pm_ret rfl (k0 _ _ _ _ _ _ (h0.trans (tu_1 (by omega)).symm) (by omega)) | exact pm_ret rfl (k0 _ _ _ _ _ _ (tu_2 (by omega) (by omega)).symm (by omega)) | exact pm_ret rfl (k0 _ _ _ _ _ _ (tu_3 (by omega) (by omega) (by omega)).symm (by omega)) | exact pm_ret rfl (k0 _ _ _ _ _ _ (tu_4 (by omega) (by omega)).symm (by omega)) | exact pm_ret rfl (k0 _ _ _ _ _ _ (tu_5 (by omega) (by omega)).symm (by omega)) | (exfalso; omega)
  have h1 := qF_ne (cx := (a).toInt) (cy := 10) rfl (by decide) h1
  refine pm_go (g := (7, _, [.int b], hq g c1 c2 c3 c4 c5 c6 c7 c8 c9 c10 c11 c12 c13 c14 c15 c16 c17 c18 c19 c20 c21 c22 c23 c24 (hc25 mTy mTm mMn mFn mRn mTn mVn mLr mTr mFl mFm mFp mSc mMp mEn) (hc26 mPa) (hc27 mTo) (hc28 mOt) (hc29 mNa) (hc30 mRe) (hc31 mMa) (hc32 mMy) (hc33 mPm) (hc34 mFy) (hc35 mFa) (hc36 mFr) (hc37 mFo) (hc38 mRt) (hc39 mRm) (hc40 mTt) (hc41 mTi) (hc42 mPl) (hc43 mVr) (hc44 mVf) (hc45 mVc) (hc46 mAr) (hc47 mTc) (hc48 mFt) (hc49 mGo) dyn, 0, 0)) rfl ?_
  refine pm_go (g := (9, _, [.int 10, .int b], _, 0, 0)) rfl ?_
  refine pm_if2 (g := (19, [(0, .ref 25), (1, .int v), (2, .int a), (3, .int b)], [], hq g c1 c2 c3 c4 c5 c6 c7 c8 c9 c10 c11 c12 c13 c14 c15 c16 c17 c18 c19 c20 c21 c22 c23 c24 (hc25 mTy mTm mMn mFn mRn mTn mVn mLr mTr mFl mFm mFp mSc mMp mEn) (hc26 mPa) (hc27 mTo) (hc28 mOt) (hc29 mNa) (hc30 mRe) (hc31 mMa) (hc32 mMy) (hc33 mPm) (hc34 mFy) (hc35 mFa) (hc36 mFr) (hc37 mFo) (hc38 mRt) (hc39 mRm) (hc40 mTt) (hc41 mTi) (hc42 mPl) (hc43 mVr) (hc44 mVf) (hc45 mVc) (hc46 mAr) (hc47 mTc) (hc48 mFt) (hc49 mGo) dyn, 0, 0)) (h := (12, [(0, .ref 25), (1, .int v), (2, .int a), (3, .int b)], [], hq g c1 c2 c3 c4 c5 c6 c7 c8 c9 c10 c11 c12 c13 c14 c15 c16 c17 c18 c19 c20 c21 c22 c23 c24 (hc25 mTy mTm mMn mFn mRn mTn mVn mLr mTr mFl mFm mFp mSc mMp mEn) (hc26 mPa) (hc27 mTo) (hc28 mOt) (hc29 mNa) (hc30 mRe) (hc31 mMa) (hc32 mMy) (hc33 mPm) (hc34 mFy) (hc35 mFa) (hc36 mFr) (hc37 mFo) (hc38 mRt) (hc39 mRm) (hc40 mTt) (hc41 mTi) (hc42 mPl) (hc43 mVr) (hc44 mVf) (hc45 mVc) (hc46 mAr) (hc47 mTc) (hc48 mFt) (hc49 mGo) dyn, 0, 0)) rfl (fun h8 => ?_) (fun h8 => ?_)
  ·
    have h8 := qT_eq (cx := (b).toInt) (cy := 10) rfl (by decide) h8
    refine pm_go (g := (20, _, [.int a], _, 0, 0)) rfl ?_
    refine pm_go (g := (22, _, [.int 10, .int a], _, 0, 0)) rfl ?_
    refine pm_if2 (g := (73, [(0, .ref 25), (1, .int v), (2, .int a), (3, .int b)], [], hq g c1 c2 c3 c4 c5 c6 c7 c8 c9 c10 c11 c12 c13 c14 c15 c16 c17 c18 c19 c20 c21 c22 c23 c24 (hc25 mTy mTm mMn mFn mRn mTn mVn mLr mTr mFl mFm mFp mSc mMp mEn) (hc26 mPa) (hc27 mTo) (hc28 mOt) (hc29 mNa) (hc30 mRe) (hc31 mMa) (hc32 mMy) (hc33 mPm) (hc34 mFy) (hc35 mFa) (hc36 mFr) (hc37 mFo) (hc38 mRt) (hc39 mRm) (hc40 mTt) (hc41 mTi) (hc42 mPl) (hc43 mVr) (hc44 mVf) (hc45 mVc) (hc46 mAr) (hc47 mTc) (hc48 mFt) (hc49 mGo) dyn, 0, 0)) (h := (25, [(0, .ref 25), (1, .int v), (2, .int a), (3, .int b)], [], hq g c1 c2 c3 c4 c5 c6 c7 c8 c9 c10 c11 c12 c13 c14 c15 c16 c17 c18 c19 c20 c21 c22 c23 c24 (hc25 mTy mTm mMn mFn mRn mTn mVn mLr mTr mFl mFm mFp mSc mMp mEn) (hc26 mPa) (hc27 mTo) (hc28 mOt) (hc29 mNa) (hc30 mRe) (hc31 mMa) (hc32 mMy) (hc33 mPm) (hc34 mFy) (hc35 mFa) (hc36 mFr) (hc37 mFo) (hc38 mRt) (hc39 mRm) (hc40 mTt) (hc41 mTi) (hc42 mPl) (hc43 mVr) (hc44 mVf) (hc45 mVc) (hc46 mAr) (hc47 mTc) (hc48 mFt) (hc49 mGo) dyn, 0, 0)) rfl (fun h9 => ?_) (fun h9 => ?_)
    ·
      have h9 := qT_eq (cx := (a).toInt) (cy := 10) rfl (by decide) h9
      refine pm_go (g := (74, _, [.int v], _, 0, 0)) rfl ?_
      first | exact pm_ret rfl (k0 _ _ _ _ _ _ (h0.trans (tu_1 (by omega)).symm) (by omega)) | exact pm_ret rfl (k0 _ _ _ _ _ _ (tu_2 (by omega) (by omega)).symm (by omega)) | exact pm_ret rfl (k0 _ _ _ _ _ _ (tu_3 (by omega) (by omega) (by omega)).symm (by omega)) | exact pm_ret rfl (k0 _ _ _ _ _ _ (tu_4 (by omega) (by omega)).symm (by omega)) | exact pm_ret rfl (k0 _ _ _ _ _ _ (tu_5 (by omega) (by omega)).symm (by omega)) | (exfalso; omega)
    have h9 := qF_eq (cx := (a).toInt) (cy := 10) rfl (by decide) h9
    refine pm_go (g := (26, _, [.int b], _, 0, 0)) rfl ?_
    refine pm_go (g := (28, _, [.int 10, .int b], _, 0, 0)) rfl ?_
    refine pm_if2 (g := (73, [(0, .ref 25), (1, .int v), (2, .int a), (3, .int b)], [], hq g c1 c2 c3 c4 c5 c6 c7 c8 c9 c10 c11 c12 c13 c14 c15 c16 c17 c18 c19 c20 c21 c22 c23 c24 (hc25 mTy mTm mMn mFn mRn mTn mVn mLr mTr mFl mFm mFp mSc mMp mEn) (hc26 mPa) (hc27 mTo) (hc28 mOt) (hc29 mNa) (hc30 mRe) (hc31 mMa) (hc32 mMy) (hc33 mPm) (hc34 mFy) (hc35 mFa) (hc36 mFr) (hc37 mFo) (hc38 mRt) (hc39 mRm) (hc40 mTt) (hc41 mTi) (hc42 mPl) (hc43 mVr) (hc44 mVf) (hc45 mVc) (hc46 mAr) (hc47 mTc) (hc48 mFt) (hc49 mGo) dyn, 0, 0)) (h := (31, [(0, .ref 25), (1, .int v), (2, .int a), (3, .int b)], [], hq g c1 c2 c3 c4 c5 c6 c7 c8 c9 c10 c11 c12 c13 c14 c15 c16 c17 c18 c19 c20 c21 c22 c23 c24 (hc25 mTy mTm mMn mFn mRn mTn mVn mLr mTr mFl mFm mFp mSc mMp mEn) (hc26 mPa) (hc27 mTo) (hc28 mOt) (hc29 mNa) (hc30 mRe) (hc31 mMa) (hc32 mMy) (hc33 mPm) (hc34 mFy) (hc35 mFa) (hc36 mFr) (hc37 mFo) (hc38 mRt) (hc39 mRm) (hc40 mTt) (hc41 mTi) (hc42 mPl) (hc43 mVr) (hc44 mVf) (hc45 mVc) (hc46 mAr) (hc47 mTc) (hc48 mFt) (hc49 mGo) dyn, 0, 0)) rfl (fun h10 => ?_) (fun h10 => ?_)
    ·
      have h10 := qT_ne (cx := (b).toInt) (cy := 10) rfl (by decide) h10
      refine pm_go (g := (74, _, [.int v], _, 0, 0)) rfl ?_
      first | exact pm_ret rfl (k0 _ _ _ _ _ _ (h0.trans (tu_1 (by omega)).symm) (by omega)) | exact pm_ret rfl (k0 _ _ _ _ _ _ (tu_2 (by omega) (by omega)).symm (by omega)) | exact pm_ret rfl (k0 _ _ _ _ _ _ (tu_3 (by omega) (by omega) (by omega)).symm (by omega)) | exact pm_ret rfl (k0 _ _ _ _ _ _ (tu_4 (by omega) (by omega)).symm (by omega)) | exact pm_ret rfl (k0 _ _ _ _ _ _ (tu_5 (by omega) (by omega)).symm (by omega)) | (exfalso; omega)
    have h10 := qF_ne (cx := (b).toInt) (cy := 10) rfl (by decide) h10
    refine pm_go (g := (32, _, [.ref 25], _, 0, 0)) rfl ?_
    refine pm_go (g := (33, _, [.ref 25, .ref 25], _, 0, 0)) rfl ?_
    refine pm_go (g := (36, _, [.int mEn, .ref 25], _, 0, 0)) rfl ?_
    refine pm_if2 (g := (48, [(0, .ref 25), (1, .int v), (2, .int a), (3, .int b)], [.ref 25], hq g c1 c2 c3 c4 c5 c6 c7 c8 c9 c10 c11 c12 c13 c14 c15 c16 c17 c18 c19 c20 c21 c22 c23 c24 (hc25 mTy mTm mMn mFn mRn mTn mVn mLr mTr mFl mFm mFp mSc mMp mEn) (hc26 mPa) (hc27 mTo) (hc28 mOt) (hc29 mNa) (hc30 mRe) (hc31 mMa) (hc32 mMy) (hc33 mPm) (hc34 mFy) (hc35 mFa) (hc36 mFr) (hc37 mFo) (hc38 mRt) (hc39 mRm) (hc40 mTt) (hc41 mTi) (hc42 mPl) (hc43 mVr) (hc44 mVf) (hc45 mVc) (hc46 mAr) (hc47 mTc) (hc48 mFt) (hc49 mGo) dyn, 0, 0)) (h := (39, [(0, .ref 25), (1, .int v), (2, .int a), (3, .int b)], [.ref 25], hq g c1 c2 c3 c4 c5 c6 c7 c8 c9 c10 c11 c12 c13 c14 c15 c16 c17 c18 c19 c20 c21 c22 c23 c24 (hc25 mTy mTm mMn mFn mRn mTn mVn mLr mTr mFl mFm mFp mSc mMp mEn) (hc26 mPa) (hc27 mTo) (hc28 mOt) (hc29 mNa) (hc30 mRe) (hc31 mMa) (hc32 mMy) (hc33 mPm) (hc34 mFy) (hc35 mFa) (hc36 mFr) (hc37 mFo) (hc38 mRt) (hc39 mRm) (hc40 mTt) (hc41 mTi) (hc42 mPl) (hc43 mVr) (hc44 mVf) (hc45 mVc) (hc46 mAr) (hc47 mTc) (hc48 mFt) (hc49 mGo) dyn, 0, 0)) rfl (fun h11 => ?_) (fun h11 => ?_)
    ·
      have h11 := qT_ne (cx := (mEn).toInt) (cy := 0) rfl (by decide) h11
      refine pm_go (g := (49, _, [.ref 25, .ref 25], _, 0, 0)) rfl ?_
      refine pm_go (g := (52, _, [.int mEn, .ref 25], _, 0, 0)) rfl ?_
      refine pm_go (g := (55, _, [], _, 0, 0)) rfl ?_
      refine pm_go (g := (56, _, [.ref 25], _, 0, 0)) rfl ?_
      refine pm_go (g := (59, _, [.int mEn], _, 0, 0)) rfl ?_
      refine pm_if2 (g := (71, [(0, .ref 25), (1, .int v), (2, .int a), (3, .int b)], [], hq g c1 c2 c3 c4 c5 c6 c7 c8 c9 c10 c11 c12 c13 c14 c15 c16 c17 c18 c19 c20 c21 c22 c23 c24 (hc25 mTy mTm mMn mFn mRn mTn mVn mLr mTr mFl mFm mFp mSc mMp mEn) (hc26 mPa) (hc27 mTo) (hc28 mOt) (hc29 mNa) (hc30 mRe) (hc31 mMa) (hc32 mMy) (hc33 mPm) (hc34 mFy) (hc35 mFa) (hc36 mFr) (hc37 mFo) (hc38 mRt) (hc39 mRm) (hc40 mTt) (hc41 mTi) (hc42 mPl) (hc43 mVr) (hc44 mVf) (hc45 mVc) (hc46 mAr) (hc47 mTc) (hc48 mFt) (hc49 mGo) dyn, 0, 0)) (h := (62, [(0, .ref 25), (1, .int v), (2, .int a), (3, .int b)], [], hq g c1 c2 c3 c4 c5 c6 c7 c8 c9 c10 c11 c12 c13 c14 c15 c16 c17 c18 c19 c20 c21 c22 c23 c24 (hc25 mTy mTm mMn mFn mRn mTn mVn mLr mTr mFl mFm mFp mSc mMp mEn) (hc26 mPa) (hc27 mTo) (hc28 mOt) (hc29 mNa) (hc30 mRe) (hc31 mMa) (hc32 mMy) (hc33 mPm) (hc34 mFy) (hc35 mFa) (hc36 mFr) (hc37 mFo) (hc38 mRt) (hc39 mRm) (hc40 mTt) (hc41 mTi) (hc42 mPl) (hc43 mVr) (hc44 mVf) (hc45 mVc) (hc46 mAr) (hc47 mTc) (hc48 mFt) (hc49 mGo) dyn, 0, 0)) rfl (fun h12 => ?_) (fun h12 => ?_)
      ·
        have h12 := qT_ne (cx := (mEn).toInt) (cy := 0) rfl (by decide) h12
        refine pm_go (g := (72, _, [.int 0], _, 0, 0)) rfl ?_
        first | exact pm_ret rfl (k0 _ _ _ _ _ _ (h0.trans (tu_1 (by omega)).symm) (by omega)) | exact pm_ret rfl (k0 _ _ _ _ _ _ (tu_2 (by omega) (by omega)).symm (by omega)) | exact pm_ret rfl (k0 _ _ _ _ _ _ (tu_3 (by omega) (by omega) (by omega)).symm (by omega)) | exact pm_ret rfl (k0 _ _ _ _ _ _ (tu_4 (by omega) (by omega)).symm (by omega)) | exact pm_ret rfl (k0 _ _ _ _ _ _ (tu_5 (by omega) (by omega)).symm (by omega)) | (exfalso; omega)
      have h12 := qF_ne (cx := (mEn).toInt) (cy := 0) rfl (by decide) h12
      refine pm_go (g := (63, _, [.ref 25], _, 0, 0)) rfl ?_
      refine pm_go (g := (66, _, [.ref 41], _, 0, 0)) rfl ?_
      refine pm_go (g := (67, _, [.int v, .ref 41], _, 0, 0)) rfl ?_
      refine pm_sd (g := (68, _, [.int (mTi (v).toNatClampNeg)], _, 0, 0)) rfl (pm_inI (by omega) (by omega)) ?_
      refine pm_go (g := (72, _, [.int (mTi (v).toNatClampNeg)], _, 0, 0)) rfl ?_
      first | exact pm_ret rfl (k0 _ _ _ _ _ _ (h0.trans (tu_1 (by omega)).symm) (by omega)) | exact pm_ret rfl (k0 _ _ _ _ _ _ (tu_2 (by omega) (by omega)).symm (by omega)) | exact pm_ret rfl (k0 _ _ _ _ _ _ (tu_3 (by omega) (by omega) (by omega)).symm (by omega)) | exact pm_ret rfl (k0 _ _ _ _ _ _ (tu_4 (by omega) (by omega)).symm (by omega)) | exact pm_ret rfl (k0 _ _ _ _ _ _ (tu_5 (by omega) (by omega)).symm (by omega)) | (exfalso; omega)
    have h11 := qF_ne (cx := (mEn).toInt) (cy := 0) rfl (by decide) h11
    refine pm_go (g := (40, _, [.int v, .ref 25], _, 0, 0)) rfl ?_
    refine pm_if2 (g := (48, [(0, .ref 25), (1, .int v), (2, .int a), (3, .int b)], [.ref 25], hq g c1 c2 c3 c4 c5 c6 c7 c8 c9 c10 c11 c12 c13 c14 c15 c16 c17 c18 c19 c20 c21 c22 c23 c24 (hc25 mTy mTm mMn mFn mRn mTn mVn mLr mTr mFl mFm mFp mSc mMp mEn) (hc26 mPa) (hc27 mTo) (hc28 mOt) (hc29 mNa) (hc30 mRe) (hc31 mMa) (hc32 mMy) (hc33 mPm) (hc34 mFy) (hc35 mFa) (hc36 mFr) (hc37 mFo) (hc38 mRt) (hc39 mRm) (hc40 mTt) (hc41 mTi) (hc42 mPl) (hc43 mVr) (hc44 mVf) (hc45 mVc) (hc46 mAr) (hc47 mTc) (hc48 mFt) (hc49 mGo) dyn, 0, 0)) (h := (43, [(0, .ref 25), (1, .int v), (2, .int a), (3, .int b)], [.ref 25], hq g c1 c2 c3 c4 c5 c6 c7 c8 c9 c10 c11 c12 c13 c14 c15 c16 c17 c18 c19 c20 c21 c22 c23 c24 (hc25 mTy mTm mMn mFn mRn mTn mVn mLr mTr mFl mFm mFp mSc mMp mEn) (hc26 mPa) (hc27 mTo) (hc28 mOt) (hc29 mNa) (hc30 mRe) (hc31 mMa) (hc32 mMy) (hc33 mPm) (hc34 mFy) (hc35 mFa) (hc36 mFr) (hc37 mFo) (hc38 mRt) (hc39 mRm) (hc40 mTt) (hc41 mTi) (hc42 mPl) (hc43 mVr) (hc44 mVf) (hc45 mVc) (hc46 mAr) (hc47 mTc) (hc48 mFt) (hc49 mGo) dyn, 0, 0)) rfl (fun h13 => ?_) (fun h13 => ?_)
    ·
      have h13 := qT_ne (cx := (v).toInt) (cy := 0) rfl (by decide) h13
      refine pm_go (g := (49, _, [.ref 25, .ref 25], _, 0, 0)) rfl ?_
      refine pm_go (g := (52, _, [.int mEn, .ref 25], _, 0, 0)) rfl ?_
      refine pm_go (g := (55, _, [], _, 0, 0)) rfl ?_
      refine pm_go (g := (56, _, [.ref 25], _, 0, 0)) rfl ?_
      refine pm_go (g := (59, _, [.int mEn], _, 0, 0)) rfl ?_
      refine pm_if2 (g := (71, [(0, .ref 25), (1, .int v), (2, .int a), (3, .int b)], [], hq g c1 c2 c3 c4 c5 c6 c7 c8 c9 c10 c11 c12 c13 c14 c15 c16 c17 c18 c19 c20 c21 c22 c23 c24 (hc25 mTy mTm mMn mFn mRn mTn mVn mLr mTr mFl mFm mFp mSc mMp mEn) (hc26 mPa) (hc27 mTo) (hc28 mOt) (hc29 mNa) (hc30 mRe) (hc31 mMa) (hc32 mMy) (hc33 mPm) (hc34 mFy) (hc35 mFa) (hc36 mFr) (hc37 mFo) (hc38 mRt) (hc39 mRm) (hc40 mTt) (hc41 mTi) (hc42 mPl) (hc43 mVr) (hc44 mVf) (hc45 mVc) (hc46 mAr) (hc47 mTc) (hc48 mFt) (hc49 mGo) dyn, 0, 0)) (h := (62, [(0, .ref 25), (1, .int v), (2, .int a), (3, .int b)], [], hq g c1 c2 c3 c4 c5 c6 c7 c8 c9 c10 c11 c12 c13 c14 c15 c16 c17 c18 c19 c20 c21 c22 c23 c24 (hc25 mTy mTm mMn mFn mRn mTn mVn mLr mTr mFl mFm mFp mSc mMp mEn) (hc26 mPa) (hc27 mTo) (hc28 mOt) (hc29 mNa) (hc30 mRe) (hc31 mMa) (hc32 mMy) (hc33 mPm) (hc34 mFy) (hc35 mFa) (hc36 mFr) (hc37 mFo) (hc38 mRt) (hc39 mRm) (hc40 mTt) (hc41 mTi) (hc42 mPl) (hc43 mVr) (hc44 mVf) (hc45 mVc) (hc46 mAr) (hc47 mTc) (hc48 mFt) (hc49 mGo) dyn, 0, 0)) rfl (fun h14 => ?_) (fun h14 => ?_)
      ·
        have h14 := qT_ne (cx := (mEn).toInt) (cy := 0) rfl (by decide) h14
        refine pm_go (g := (72, _, [.int 0], _, 0, 0)) rfl ?_
        first | exact pm_ret rfl (k0 _ _ _ _ _ _ (h0.trans (tu_1 (by omega)).symm) (by omega)) | exact pm_ret rfl (k0 _ _ _ _ _ _ (tu_2 (by omega) (by omega)).symm (by omega)) | exact pm_ret rfl (k0 _ _ _ _ _ _ (tu_3 (by omega) (by omega) (by omega)).symm (by omega)) | exact pm_ret rfl (k0 _ _ _ _ _ _ (tu_4 (by omega) (by omega)).symm (by omega)) | exact pm_ret rfl (k0 _ _ _ _ _ _ (tu_5 (by omega) (by omega)).symm (by omega)) | (exfalso; omega)
      have h14 := qF_ne (cx := (mEn).toInt) (cy := 0) rfl (by decide) h14
      refine pm_go (g := (63, _, [.ref 25], _, 0, 0)) rfl ?_
      refine pm_go (g := (66, _, [.ref 41], _, 0, 0)) rfl ?_
      refine pm_go (g := (67, _, [.int v, .ref 41], _, 0, 0)) rfl ?_
      refine pm_sd (g := (68, _, [.int (mTi (v).toNatClampNeg)], _, 0, 0)) rfl (pm_inI (by omega) (by omega)) ?_
      refine pm_go (g := (72, _, [.int (mTi (v).toNatClampNeg)], _, 0, 0)) rfl ?_
      first | exact pm_ret rfl (k0 _ _ _ _ _ _ (h0.trans (tu_1 (by omega)).symm) (by omega)) | exact pm_ret rfl (k0 _ _ _ _ _ _ (tu_2 (by omega) (by omega)).symm (by omega)) | exact pm_ret rfl (k0 _ _ _ _ _ _ (tu_3 (by omega) (by omega) (by omega)).symm (by omega)) | exact pm_ret rfl (k0 _ _ _ _ _ _ (tu_4 (by omega) (by omega)).symm (by omega)) | exact pm_ret rfl (k0 _ _ _ _ _ _ (tu_5 (by omega) (by omega)).symm (by omega)) | (exfalso; omega)
    have h13 := qF_ne (cx := (v).toInt) (cy := 0) rfl (by decide) h13
    refine pm_go (g := (45, _, [.int (-21), .ref 25], _, 0, 0)) rfl ?_
    refine pm_go (g := (52, _, [.int (-21), .ref 25], _, 0, 0)) rfl ?_
    refine pm_go (g := (55, _, [], hq g c1 c2 c3 c4 c5 c6 c7 c8 c9 c10 c11 c12 c13 c14 c15 c16 c17 c18 c19 c20 c21 c22 c23 c24 (hc25 mTy mTm mMn mFn mRn mTn mVn mLr mTr mFl mFm mFp mSc mMp (-21)) (hc26 mPa) (hc27 mTo) (hc28 mOt) (hc29 mNa) (hc30 mRe) (hc31 mMa) (hc32 mMy) (hc33 mPm) (hc34 mFy) (hc35 mFa) (hc36 mFr) (hc37 mFo) (hc38 mRt) (hc39 mRm) (hc40 mTt) (hc41 mTi) (hc42 mPl) (hc43 mVr) (hc44 mVf) (hc45 mVc) (hc46 mAr) (hc47 mTc) (hc48 mFt) (hc49 mGo) dyn, 0, 0)) rfl ?_
    refine pm_go (g := (56, _, [.ref 25], _, 0, 0)) rfl ?_
    refine pm_go (g := (59, _, [.int (-21)], _, 0, 0)) rfl ?_
    refine pm_brT (g := (71, [(0, .ref 25), (1, .int v), (2, .int a), (3, .int b)], [], hq g c1 c2 c3 c4 c5 c6 c7 c8 c9 c10 c11 c12 c13 c14 c15 c16 c17 c18 c19 c20 c21 c22 c23 c24 (hc25 mTy mTm mMn mFn mRn mTn mVn mLr mTr mFl mFm mFp mSc mMp (-21)) (hc26 mPa) (hc27 mTo) (hc28 mOt) (hc29 mNa) (hc30 mRe) (hc31 mMa) (hc32 mMy) (hc33 mPm) (hc34 mFy) (hc35 mFa) (hc36 mFr) (hc37 mFo) (hc38 mRt) (hc39 mRm) (hc40 mTt) (hc41 mTi) (hc42 mPl) (hc43 mVr) (hc44 mVf) (hc45 mVc) (hc46 mAr) (hc47 mTc) (hc48 mFt) (hc49 mGo) dyn, 0, 0)) rfl ?_
    refine pm_go (g := (72, _, [.int 0], _, 0, 0)) rfl ?_
    first | exact pm_ret rfl (k0 _ _ _ _ _ _ (h0.trans (tu_1 (by omega)).symm) (by omega)) | exact pm_ret rfl (k0 _ _ _ _ _ _ (tu_2 (by omega) (by omega)).symm (by omega)) | exact pm_ret rfl (k0 _ _ _ _ _ _ (tu_3 (by omega) (by omega) (by omega)).symm (by omega)) | exact pm_ret rfl (k0 _ _ _ _ _ _ (tu_4 (by omega) (by omega)).symm (by omega)) | exact pm_ret rfl (k0 _ _ _ _ _ _ (tu_5 (by omega) (by omega)).symm (by omega)) | (exfalso; omega)
  have h8 := qF_eq (cx := (b).toInt) (cy := 10) rfl (by decide) h8
  refine pm_go (g := (13, _, [.ref 25], hq g c1 c2 c3 c4 c5 c6 c7 c8 c9 c10 c11 c12 c13 c14 c15 c16 c17 c18 c19 c20 c21 c22 c23 c24 (hc25 mTy mTm mMn mFn mRn mTn mVn mLr mTr mFl mFm mFp mSc mMp mEn) (hc26 mPa) (hc27 mTo) (hc28 mOt) (hc29 mNa) (hc30 mRe) (hc31 mMa) (hc32 mMy) (hc33 mPm) (hc34 mFy) (hc35 mFa) (hc36 mFr) (hc37 mFo) (hc38 mRt) (hc39 mRm) (hc40 mTt) (hc41 mTi) (hc42 mPl) (hc43 mVr) (hc44 mVf) (hc45 mVc) (hc46 mAr) (hc47 mTc) (hc48 mFt) (hc49 mGo) dyn, 0, 0)) rfl ?_
  refine pm_go (g := (14, _, [.int 1, .ref 25], _, 0, 0)) rfl ?_
  refine pm_go (g := (15, _, [.int v, .int 1, .ref 25], _, 0, 0)) rfl ?_
  refine pm_callD (z := 169) (as := [.ref 25, .int 1, .int v]) (rest := []) rfl ?_
  have h15 : (1 : Int32).toInt = 1 := by decide
  refine w2_X12_made 1 v (by omega) (fun v17_r9 v17_n9 v17_e9 v17_t9 v17_i9 v17_l9 h16 h17 => ?_)
  show pm_WP 178 (18, [(0, .ref 25), (1, .int v), (2, .int a), (3, .int b)], [.int v17_r9], _, 0, 0) _
  first | exact pm_ret rfl (k0 _ _ _ _ _ _ (h16.trans (tu_1 (by omega)).symm) (by omega)) | exact pm_ret rfl (k0 _ _ _ _ _ _ (tu_2 (by omega) (by omega)).symm (by omega)) | exact pm_ret rfl (k0 _ _ _ _ _ _ (tu_3 (by omega) (by omega) (by omega)).symm (by omega)) | exact pm_ret rfl (k0 _ _ _ _ _ _ (tu_4 (by omega) (by omega)).symm (by omega)) | exact pm_ret rfl (k0 _ _ _ _ _ _ (tu_5 (by omega) (by omega)).symm (by omega)) | (exfalso; omega)
/-- the places that take one each -/
def gv1 (ar fa pm : Nat → Int32) (m f s : Int32) : Nat → Nat → (Nat → Int32) × cs_T → (Nat → Int32) × cs_T
  | 0, _, x => x
  | n + 1, k, x => gv1 ar fa pm m f s n (k + 1) (upd x.1 k (tuF (ar (s + nI k).toNatClampNeg) (fa (3 * f + s + nI k).toNatClampNeg) (pm (3 * m + nI k).toNatClampNeg) x.2).1, (tuF (ar (s + nI k).toNatClampNeg) (fa (3 * f + s + nI k).toNatClampNeg) (pm (3 * m + nI k).toNatClampNeg) x.2).2)
/-- a value goes into the row, if nothing has ended it -/
def pvF (i : Nat) (x : Int32 × cs_T) : cs_T := if x.2.2.1.toInt = 0 then (x.2.1, x.2.2.1, x.2.2.2.1, x.2.2.2.2.1, upd x.2.2.2.2.2 i x.1) else x.2
/-- the rest, into the row -/
def gv2 (ar fa my pm : Nat → Int32) (m f s pn row : Int32) : Nat → Nat → cs_T → cs_T
  | 0, _, z => z
  | n + 1, k, z => gv2 ar fa my pm m f s pn row n (k + 1) (pvF (20 * row + nI k - pn).toNatClampNeg (tuF (ar (s + nI k).toNatClampNeg) (fa (3 * f + s + nI k).toNatClampNeg) (plV my pm m (nI k)) z))
/-- the reference's give -/
def gvF (ar fa fy my pm : Nat → Int32) (m f s p : Int32) (x : (Nat → Int32) × cs_T) : (Nat → Int32) × cs_T :=
  if p.toInt ≠ 3 then gv1 ar fa pm m f s (my m.toNatClampNeg).toNatClampNeg 0 x
  else (fun (pn : Int32) (y : (Nat → Int32) × cs_T) => (fun (w : Int32 × cs_T) => (upd y.1 pn.toNatClampNeg w.1, gv2 ar fa my pm m f s pn w.1 ((fy f.toNatClampNeg - s).toNatClampNeg - pn.toNatClampNeg) pn.toNatClampNeg w.2)) (mdF (pm (3 * m + pn).toNatClampNeg) (fy f.toNatClampNeg - s - pn) y.2)) (my m.toNatClampNeg - 1) (gv1 ar fa pm m f s (my m.toNatClampNeg - 1).toNatClampNeg 0 x)
/-- arguments that aren't ints are things or 0 -/
def agD (ar fa fy : Nat → Int32) (f s : Int32) : Prop := ∀ j : Nat, (j : Int) < (fy f.toNatClampNeg).toInt - s.toInt → (fa (3 * f + s + nI j).toNatClampNeg).toInt ≠ 10 → 0 ≤ (ar (s + nI j).toNatClampNeg).toInt ∧ (ar (s + nI j).toNatClampNeg).toInt ≤ 60
theorem pv_1 {i : Nat} {r tn en : Int32} {tt ti pl : Nat → Int32} (h : en.toInt = 0) : pvF i (r, tn, en, tt, ti, pl) = (tn, en, tt, ti, upd pl i r) := by unfold pvF; rw [if_pos h]
theorem pv_2 {i : Nat} {r : Int32} {z : cs_T} (h : z.2.1.toInt ≠ 0) : pvF i (r, z) = z := by unfold pvF; rw [if_neg h]
set_option maxRecDepth 100000 in
set_option maxHeartbeats 4000000 in
theorem w_give_1 {g c1 c2 c3 c4 c5 c6 c7 c8 c9 c10 c11 c12 c13 c14 c15 c16 c17 c18 c19 c20 c21 c22 c23 c24 : pm_C} {dyn : pm_H} {mTy : Int32} {mPa : Nat → Int32} {mTo : Nat → Int32} {mTm : Int32} {mMn : Int32} {mOt : Nat → Int32} {mNa : Nat → Int32} {mRe : Nat → Int32} {mMa : Nat → Int32} {mMy : Nat → Int32} {mPm : Nat → Int32} {mFn : Int32} {mFy : Nat → Int32} {mFa : Nat → Int32} {mFr : Nat → Int32} {mRn : Int32} {mFo : Nat → Int32} {mRt : Nat → Int32} {mRm : Nat → Int32} {mTn : Int32} {mTt : Nat → Int32} {mTi : Nat → Int32} {mPl : Nat → Int32} {mVn : Int32} {mVr : Nat → Int32} {mVf : Nat → Int32} {mVc : Nat → Int32} {mAr : Nat → Int32} {mLr : Int32} {mTc : Nat → Int32} {mTr : Int32} {mFl : Int32} {mFt : Nat → Int32} {mFm : Int32} {mFp : Int32} {mSc : Int32} {mMp : Int32} {mEn : Int32} {mGo : Nat → Int32} {Q : pm_Q} (m f s p n0 x : Int32) (hm : 0 ≤ m.toInt ∧ m.toInt < 40) (hf : 0 ≤ f.toInt ∧ f.toInt < 10) (hs : 0 ≤ s.toInt ∧ s.toInt ≤ 1) (hx : 0 ≤ x.toInt ∧ x.toInt ≤ (mMy m.toNatClampNeg).toInt ∧ x.toInt + s.toInt ≤ (mFy f.toNatClampNeg).toInt) (hmy : (mMy m.toNatClampNeg).toInt ≤ 3) (hfy : (mFy f.toNatClampNeg).toInt ≤ 3) (hA : agD mAr mFa mFy f s) : ∀ (n k : Nat) (u0 : Nat → Int32) (zn : Int32) (ze : Int32) (zt : Nat → Int32) (zi : Nat → Int32) (zl : Nat → Int32), ((k : Int) ≤ x.toInt) → (3 < k + n) → (0 ≤ zn.toInt ∧ zn.toInt ≤ 60) → (∀ (g9 : Nat → Int32) (n9 e9 : Int32) (t9 i9 l9 : Nat → Int32), (g9, n9, e9, t9, i9, l9) = gv1 mAr mFa mPm m f s (x.toNatClampNeg - k) k (u0, zn, ze, zt, zi, zl) → ((0 ≤ n9.toInt ∧ n9.toInt ≤ 60) ∧ zn.toInt ≤ n9.toInt) → pm_WP 179 (95, [(6, .int x), (5, .int n0), (0, .ref 25), (1, .int m), (2, .int f), (3, .int s), (4, .int p)], [], hq g c1 c2 c3 c4 c5 c6 c7 c8 c9 c10 c11 c12 c13 c14 c15 c16 c17 c18 c19 c20 c21 c22 c23 c24 (hc25 mTy mTm mMn mFn mRn n9 mVn mLr mTr mFl mFm mFp mSc mMp e9) (hc26 mPa) (hc27 mTo) (hc28 mOt) (hc29 mNa) (hc30 mRe) (hc31 mMa) (hc32 mMy) (hc33 mPm) (hc34 mFy) (hc35 mFa) (hc36 mFr) (hc37 mFo) (hc38 mRt) (hc39 mRm) (hc40 t9) (hc41 i9) (hc42 l9) (hc43 mVr) (hc44 mVf) (hc45 mVc) (hc46 mAr) (hc47 mTc) (hc48 mFt) (hc49 g9) dyn, 0, 0) Q) → pm_WP 179 (38, [(7, .int (nI k)), (6, .int x), (5, .int n0), (0, .ref 25), (1, .int m), (2, .int f), (3, .int s), (4, .int p)], [], hq g c1 c2 c3 c4 c5 c6 c7 c8 c9 c10 c11 c12 c13 c14 c15 c16 c17 c18 c19 c20 c21 c22 c23 c24 (hc25 mTy mTm mMn mFn mRn zn mVn mLr mTr mFl mFm mFp mSc mMp ze) (hc26 mPa) (hc27 mTo) (hc28 mOt) (hc29 mNa) (hc30 mRe) (hc31 mMa) (hc32 mMy) (hc33 mPm) (hc34 mFy) (hc35 mFa) (hc36 mFr) (hc37 mFo) (hc38 mRt) (hc39 mRm) (hc40 zt) (hc41 zi) (hc42 zl) (hc43 mVr) (hc44 mVf) (hc45 mVc) (hc46 mAr) (hc47 mTc) (hc48 mFt) (hc49 u0) dyn, 0, 0) Q := by
  intro n
  induction n with
  | zero =>
    intro k u0 zn ze zt zi zl g1 g2 g3 k0
    exfalso; omega
  | succ n ih =>
    intro k u0 zn ze zt zi zl g1 g2 g3 k0
    have hk := nI_toInt (n := k) (by omega)
    have hkc : (nI k).toNatClampNeg = k := nI_clamp (by omega)
    have hxx := xN hx.1
    have hak := hA k
    refine pm_go (g := (40, [(7, .int (nI k)), (6, .int x), (5, .int n0), (0, .ref 25), (1, .int m), (2, .int f), (3, .int s), (4, .int p)], [.int (nI k)], hq g c1 c2 c3 c4 c5 c6 c7 c8 c9 c10 c11 c12 c13 c14 c15 c16 c17 c18 c19 c20 c21 c22 c23 c24 (hc25 mTy mTm mMn mFn mRn zn mVn mLr mTr mFl mFm mFp mSc mMp ze) (hc26 mPa) (hc27 mTo) (hc28 mOt) (hc29 mNa) (hc30 mRe) (hc31 mMa) (hc32 mMy) (hc33 mPm) (hc34 mFy) (hc35 mFa) (hc36 mFr) (hc37 mFo) (hc38 mRt) (hc39 mRm) (hc40 zt) (hc41 zi) (hc42 zl) (hc43 mVr) (hc44 mVf) (hc45 mVc) (hc46 mAr) (hc47 mTc) (hc48 mFt) (hc49 u0) dyn, 0, 0)) rfl ?_
    refine pm_go (g := (42, _, [.int x, .int (nI k)], _, 0, 0)) rfl ?_
    refine pm_if2 (g := (95, [(7, .int (nI k)), (6, .int x), (5, .int n0), (0, .ref 25), (1, .int m), (2, .int f), (3, .int s), (4, .int p)], [], hq g c1 c2 c3 c4 c5 c6 c7 c8 c9 c10 c11 c12 c13 c14 c15 c16 c17 c18 c19 c20 c21 c22 c23 c24 (hc25 mTy mTm mMn mFn mRn zn mVn mLr mTr mFl mFm mFp mSc mMp ze) (hc26 mPa) (hc27 mTo) (hc28 mOt) (hc29 mNa) (hc30 mRe) (hc31 mMa) (hc32 mMy) (hc33 mPm) (hc34 mFy) (hc35 mFa) (hc36 mFr) (hc37 mFo) (hc38 mRt) (hc39 mRm) (hc40 zt) (hc41 zi) (hc42 zl) (hc43 mVr) (hc44 mVf) (hc45 mVc) (hc46 mAr) (hc47 mTc) (hc48 mFt) (hc49 u0) dyn, 0, 0)) (h := (45, [(7, .int (nI k)), (6, .int x), (5, .int n0), (0, .ref 25), (1, .int m), (2, .int f), (3, .int s), (4, .int p)], [], hq g c1 c2 c3 c4 c5 c6 c7 c8 c9 c10 c11 c12 c13 c14 c15 c16 c17 c18 c19 c20 c21 c22 c23 c24 (hc25 mTy mTm mMn mFn mRn zn mVn mLr mTr mFl mFm mFp mSc mMp ze) (hc26 mPa) (hc27 mTo) (hc28 mOt) (hc29 mNa) (hc30 mRe) (hc31 mMa) (hc32 mMy) (hc33 mPm) (hc34 mFy) (hc35 mFa) (hc36 mFr) (hc37 mFo) (hc38 mRt) (hc39 mRm) (hc40 zt) (hc41 zi) (hc42 zl) (hc43 mVr) (hc44 mVf) (hc45 mVc) (hc46 mAr) (hc47 mTc) (hc48 mFt) (hc49 u0) dyn, 0, 0)) rfl (fun h1 => ?_) (fun h1 => ?_)
    ·
      have h1 := qT_ge (cx := (nI k).toInt) (cy := (x).toInt) rfl rfl h1
      refine pm_sub (lv := [(6, .int x), (5, .int n0), (0, .ref 25), (1, .int m), (2, .int f), (3, .int s), (4, .int p)]) ?_ ⟨le_c (List.Mem.tail _ (List.Mem.head _)) (le_c (List.Mem.tail _ (List.Mem.tail _ (List.Mem.head _))) (le_c (List.Mem.tail _ (List.Mem.tail _ (List.Mem.tail _ (List.Mem.head _)))) (le_c (List.Mem.tail _ (List.Mem.tail _ (List.Mem.tail _ (List.Mem.tail _ (List.Mem.head _))))) (le_c (List.Mem.tail _ (List.Mem.tail _ (List.Mem.tail _ (List.Mem.tail _ (List.Mem.tail _ (List.Mem.head _)))))) (le_c (List.Mem.tail _ (List.Mem.tail _ (List.Mem.tail _ (List.Mem.tail _ (List.Mem.tail _ (List.Mem.tail _ (List.Mem.head _))))))) (le_c (List.Mem.tail _ (List.Mem.tail _ (List.Mem.tail _ (List.Mem.tail _ (List.Mem.tail _ (List.Mem.tail _ (List.Mem.tail _ (List.Mem.head _)))))))) le_n)))))), (show ([7, 6, 5, 0, 1, 2, 3, 4] : List Nat).Nodup by decide)⟩
      exact k0 _ _ _ _ _ _ (by rw [show x.toNatClampNeg - k = 0 by omega]; rfl) (by omega)
    have h1 := qF_ge (cx := (nI k).toInt) (cy := (x).toInt) rfl rfl h1
    refine pm_go (g := (46, _, [.ref 25], _, 0, 0)) rfl ?_
    refine pm_go (g := (49, _, [.ref 49], _, 0, 0)) rfl ?_
    refine pm_go (g := (51, _, [.int (nI k), .ref 49], _, 0, 0)) rfl ?_
    refine pm_go (g := (52, _, [.ref 25, .int (nI k), .ref 49], _, 0, 0)) rfl ?_
    refine pm_go (g := (53, _, [.ref 25, .ref 25, .int (nI k), .ref 49], _, 0, 0)) rfl ?_
    refine pm_go (g := (56, _, [.ref 46, .ref 25, .int (nI k), .ref 49], _, 0, 0)) rfl ?_
    refine pm_go (g := (57, _, [.int s, .ref 46, .ref 25, .int (nI k), .ref 49], _, 0, 0)) rfl ?_
    refine pm_go (g := (59, _, [.int (nI k), .int s, .ref 46, .ref 25, .int (nI k), .ref 49], _, 0, 0)) rfl ?_
    refine pm_go (g := (60, _, [.int (s + (nI k)), .ref 46, .ref 25, .int (nI k), .ref 49], _, 0, 0)) rfl ?_
    try have h2 : (s + (nI k)).toInt = (s).toInt + (nI k).toInt := iAdd (x := (s).toInt) (y := (nI k).toInt) rfl rfl (by omega) (by omega)
    refine pm_sd (g := (61, _, [.int (mAr (s + (nI k)).toNatClampNeg), .ref 25, .int (nI k), .ref 49], _, 0, 0)) rfl (pm_inI (by omega) (by omega)) ?_
    refine pm_go (g := (62, _, [.ref 25, .int (mAr (s + (nI k)).toNatClampNeg), .ref 25, .int (nI k), .ref 49], _, 0, 0)) rfl ?_
    refine pm_go (g := (65, _, [.ref 35, .int (mAr (s + (nI k)).toNatClampNeg), .ref 25, .int (nI k), .ref 49], _, 0, 0)) rfl ?_
    refine pm_go (g := (66, _, [.int 3, .ref 35, .int (mAr (s + (nI k)).toNatClampNeg), .ref 25, .int (nI k), .ref 49], _, 0, 0)) rfl ?_
    refine pm_go (g := (67, _, [.int f, .int 3, .ref 35, .int (mAr (s + (nI k)).toNatClampNeg), .ref 25, .int (nI k), .ref 49], _, 0, 0)) rfl ?_
    refine pm_go (g := (68, _, [.int (3 * f), .ref 35, .int (mAr (s + (nI k)).toNatClampNeg), .ref 25, .int (nI k), .ref 49], _, 0, 0)) rfl ?_
    try have h3 : (3 * f).toInt = 3 * (f).toInt := iMul (x := 3) (y := (f).toInt) (by decide) rfl (by omega) (by omega)
    refine pm_go (g := (69, _, [.int s, .int (3 * f), .ref 35, .int (mAr (s + (nI k)).toNatClampNeg), .ref 25, .int (nI k), .ref 49], _, 0, 0)) rfl ?_
    refine pm_go (g := (70, _, [.int ((3 * f) + s), .ref 35, .int (mAr (s + (nI k)).toNatClampNeg), .ref 25, .int (nI k), .ref 49], _, 0, 0)) rfl ?_
    try have h4 : ((3 * f) + s).toInt = (3 * f).toInt + (s).toInt := iAdd (x := (3 * f).toInt) (y := (s).toInt) rfl rfl (by omega) (by omega)
    refine pm_go (g := (72, _, [.int (nI k), .int ((3 * f) + s), .ref 35, .int (mAr (s + (nI k)).toNatClampNeg), .ref 25, .int (nI k), .ref 49], _, 0, 0)) rfl ?_
    refine pm_go (g := (73, _, [.int (((3 * f) + s) + (nI k)), .ref 35, .int (mAr (s + (nI k)).toNatClampNeg), .ref 25, .int (nI k), .ref 49], _, 0, 0)) rfl ?_
    try have h5 : (((3 * f) + s) + (nI k)).toInt = ((3 * f) + s).toInt + (nI k).toInt := iAdd (x := ((3 * f) + s).toInt) (y := (nI k).toInt) rfl rfl (by omega) (by omega)
    refine pm_sd (g := (74, _, [.int (mFa (((3 * f) + s) + (nI k)).toNatClampNeg), .int (mAr (s + (nI k)).toNatClampNeg), .ref 25, .int (nI k), .ref 49], _, 0, 0)) rfl (pm_inI (by omega) (by omega)) ?_
    refine pm_go (g := (75, _, [.ref 25, .int (mFa (((3 * f) + s) + (nI k)).toNatClampNeg), .int (mAr (s + (nI k)).toNatClampNeg), .ref 25, .int (nI k), .ref 49], _, 0, 0)) rfl ?_
    refine pm_go (g := (78, _, [.ref 33, .int (mFa (((3 * f) + s) + (nI k)).toNatClampNeg), .int (mAr (s + (nI k)).toNatClampNeg), .ref 25, .int (nI k), .ref 49], _, 0, 0)) rfl ?_
    refine pm_go (g := (79, _, [.int 3, .ref 33, .int (mFa (((3 * f) + s) + (nI k)).toNatClampNeg), .int (mAr (s + (nI k)).toNatClampNeg), .ref 25, .int (nI k), .ref 49], _, 0, 0)) rfl ?_
    refine pm_go (g := (80, _, [.int m, .int 3, .ref 33, .int (mFa (((3 * f) + s) + (nI k)).toNatClampNeg), .int (mAr (s + (nI k)).toNatClampNeg), .ref 25, .int (nI k), .ref 49], _, 0, 0)) rfl ?_
    refine pm_go (g := (81, _, [.int (3 * m), .ref 33, .int (mFa (((3 * f) + s) + (nI k)).toNatClampNeg), .int (mAr (s + (nI k)).toNatClampNeg), .ref 25, .int (nI k), .ref 49], _, 0, 0)) rfl ?_
    try have h6 : (3 * m).toInt = 3 * (m).toInt := iMul (x := 3) (y := (m).toInt) (by decide) rfl (by omega) (by omega)
    refine pm_go (g := (83, _, [.int (nI k), .int (3 * m), .ref 33, .int (mFa (((3 * f) + s) + (nI k)).toNatClampNeg), .int (mAr (s + (nI k)).toNatClampNeg), .ref 25, .int (nI k), .ref 49], _, 0, 0)) rfl ?_
    refine pm_go (g := (84, _, [.int ((3 * m) + (nI k)), .ref 33, .int (mFa (((3 * f) + s) + (nI k)).toNatClampNeg), .int (mAr (s + (nI k)).toNatClampNeg), .ref 25, .int (nI k), .ref 49], _, 0, 0)) rfl ?_
    try have h7 : ((3 * m) + (nI k)).toInt = (3 * m).toInt + (nI k).toInt := iAdd (x := (3 * m).toInt) (y := (nI k).toInt) rfl rfl (by omega) (by omega)
    refine pm_sd (g := (85, _, [.int (mPm ((3 * m) + (nI k)).toNatClampNeg), .int (mFa (((3 * f) + s) + (nI k)).toNatClampNeg), .int (mAr (s + (nI k)).toNatClampNeg), .ref 25, .int (nI k), .ref 49], _, 0, 0)) rfl (pm_inI (by omega) (by omega)) ?_
    refine pm_callD (z := 178) (as := [.ref 25, .int (mAr (s + (nI k)).toNatClampNeg), .int (mFa (((3 * f) + s) + (nI k)).toNatClampNeg), .int (mPm ((3 * m) + (nI k)).toNatClampNeg)]) (rest := [.int (nI k), .ref 49]) rfl ?_
    refine w_X12_turned (mAr (s + (nI k)).toNatClampNeg) (mFa (((3 * f) + s) + (nI k)).toNatClampNeg) (mPm ((3 * m) + (nI k)).toNatClampNeg) (by omega) (by omega) (fun v9_r9 v9_n9 v9_e9 v9_t9 v9_i9 v9_l9 h8 h9 => ?_)
    show pm_WP 179 (88, [(7, .int (nI k)), (6, .int x), (5, .int n0), (0, .ref 25), (1, .int m), (2, .int f), (3, .int s), (4, .int p)], [.int v9_r9, .int (nI k), .ref 49], _, 0, 0) _
    refine pm_sd (g := (89, _, [], hq g c1 c2 c3 c4 c5 c6 c7 c8 c9 c10 c11 c12 c13 c14 c15 c16 c17 c18 c19 c20 c21 c22 c23 c24 (hc25 mTy mTm mMn mFn mRn v9_n9 mVn mLr mTr mFl mFm mFp mSc mMp v9_e9) (hc26 mPa) (hc27 mTo) (hc28 mOt) (hc29 mNa) (hc30 mRe) (hc31 mMa) (hc32 mMy) (hc33 mPm) (hc34 mFy) (hc35 mFa) (hc36 mFr) (hc37 mFo) (hc38 mRt) (hc39 mRm) (hc40 v9_t9) (hc41 v9_i9) (hc42 v9_l9) (hc43 mVr) (hc44 mVf) (hc45 mVc) (hc46 mAr) (hc47 mTc) (hc48 mFt) (hc49 (upd u0 (nI k).toNatClampNeg v9_r9)) dyn, 0, 0)) rfl (pm_inI (by omega) (by omega)) ?_
    refine pm_go (g := (92, [(7, .int ((nI k) + 1)), (6, .int x), (5, .int n0), (0, .ref 25), (1, .int m), (2, .int f), (3, .int s), (4, .int p)], [], _, 0, 0)) rfl ?_
    refine pm_go (g := (38, _, [], _, 0, 0)) rfl ?_
    refine pm_sub (lv := [(7, .int ((nI k) + 1)), (6, .int x), (5, .int n0), (0, .ref 25), (1, .int m), (2, .int f), (3, .int s), (4, .int p)]) ?_ ⟨le_c (List.Mem.head _) (le_c (List.Mem.tail _ (List.Mem.head _)) (le_c (List.Mem.tail _ (List.Mem.tail _ (List.Mem.head _))) (le_c (List.Mem.tail _ (List.Mem.tail _ (List.Mem.tail _ (List.Mem.head _)))) (le_c (List.Mem.tail _ (List.Mem.tail _ (List.Mem.tail _ (List.Mem.tail _ (List.Mem.head _))))) (le_c (List.Mem.tail _ (List.Mem.tail _ (List.Mem.tail _ (List.Mem.tail _ (List.Mem.tail _ (List.Mem.head _)))))) (le_c (List.Mem.tail _ (List.Mem.tail _ (List.Mem.tail _ (List.Mem.tail _ (List.Mem.tail _ (List.Mem.tail _ (List.Mem.head _))))))) (le_c (List.Mem.tail _ (List.Mem.tail _ (List.Mem.tail _ (List.Mem.tail _ (List.Mem.tail _ (List.Mem.tail _ (List.Mem.tail _ (List.Mem.head _)))))))) le_n))))))), (show ([7, 6, 5, 0, 1, 2, 3, 4] : List Nat).Nodup by decide)⟩
    rw [nI_1, hkc]
    refine ih (k + 1) _ _ _ _ _ _ (by omega) (by omega) (by omega) (fun g9 n9 e9 t9 i9 l9 q1 q2 => k0 g9 n9 e9 t9 i9 l9 ?_ (by omega))
    rw [q1, show x.toNatClampNeg - k = (x.toNatClampNeg - (k + 1)) + 1 by omega]
    show _ = gv1 mAr mFa mPm m f s _ (k + 1) (upd u0 k (tuF _ _ _ (zn, ze, zt, zi, zl)).1, (tuF _ _ _ (zn, ze, zt, zi, zl)).2)
    rw [← h8]
set_option maxRecDepth 100000 in
set_option maxHeartbeats 4000000 in
theorem w_give_2 {g c1 c2 c3 c4 c5 c6 c7 c8 c9 c10 c11 c12 c13 c14 c15 c16 c17 c18 c19 c20 c21 c22 c23 c24 : pm_C} {dyn : pm_H} {mTy : Int32} {mPa : Nat → Int32} {mTo : Nat → Int32} {mTm : Int32} {mMn : Int32} {mOt : Nat → Int32} {mNa : Nat → Int32} {mRe : Nat → Int32} {mMa : Nat → Int32} {mMy : Nat → Int32} {mPm : Nat → Int32} {mFn : Int32} {mFy : Nat → Int32} {mFa : Nat → Int32} {mFr : Nat → Int32} {mRn : Int32} {mFo : Nat → Int32} {mRt : Nat → Int32} {mRm : Nat → Int32} {mTn : Int32} {mTt : Nat → Int32} {mTi : Nat → Int32} {mPl : Nat → Int32} {mVn : Int32} {mVr : Nat → Int32} {mVf : Nat → Int32} {mVc : Nat → Int32} {mAr : Nat → Int32} {mLr : Int32} {mTc : Nat → Int32} {mTr : Int32} {mFl : Int32} {mFt : Nat → Int32} {mFm : Int32} {mFp : Int32} {mSc : Int32} {mMp : Int32} {mEn : Int32} {mGo : Nat → Int32} {Q : pm_Q} (m f s p n0 x row : Int32) (hm : 0 ≤ m.toInt ∧ m.toInt < 40) (hf : 0 ≤ f.toInt ∧ f.toInt < 10) (hs : 0 ≤ s.toInt ∧ s.toInt ≤ 1) (hx : 0 ≤ x.toInt ∧ x.toInt ≤ 2) (hn0 : n0.toInt + s.toInt = (mFy f.toNatClampNeg).toInt) (hn00 : 0 ≤ n0.toInt) (hmy : 1 ≤ (mMy m.toNatClampNeg).toInt ∧ (mMy m.toNatClampNeg).toInt ≤ 3) (hfy : (mFy f.toNatClampNeg).toInt ≤ 3) (hA : agD mAr mFa mFy f s) (hrow : 0 ≤ row.toInt ∧ row.toInt ≤ 60) : ∀ (n k : Nat) (zn : Int32) (ze : Int32) (zt : Nat → Int32) (zi : Nat → Int32) (zl : Nat → Int32), (x.toInt ≤ (k : Int)) → ((k : Int) ≤ n0.toInt + 1) → (4 < k + n) → (0 ≤ zn.toInt ∧ zn.toInt ≤ 60) → (∀ (n9 e9 : Int32) (t9 i9 l9 : Nat → Int32), (n9, e9, t9, i9, l9) = gv2 mAr mFa mMy mPm m f s x row (n0.toNatClampNeg - k) k (zn, ze, zt, zi, zl) → ((0 ≤ n9.toInt ∧ n9.toInt ≤ 60) ∧ zn.toInt ≤ n9.toInt) → Q none (hq g c1 c2 c3 c4 c5 c6 c7 c8 c9 c10 c11 c12 c13 c14 c15 c16 c17 c18 c19 c20 c21 c22 c23 c24 (hc25 mTy mTm mMn mFn mRn n9 mVn mLr mTr mFl mFm mFp mSc mMp e9) (hc26 mPa) (hc27 mTo) (hc28 mOt) (hc29 mNa) (hc30 mRe) (hc31 mMa) (hc32 mMy) (hc33 mPm) (hc34 mFy) (hc35 mFa) (hc36 mFr) (hc37 mFo) (hc38 mRt) (hc39 mRm) (hc40 t9) (hc41 i9) (hc42 l9) (hc43 mVr) (hc44 mVf) (hc45 mVc) (hc46 mAr) (hc47 mTc) (hc48 mFt) (hc49 mGo) dyn)) → pm_WP 179 (136, [(8, .int (nI k)), (7, .int row), (6, .int x), (5, .int n0), (0, .ref 25), (1, .int m), (2, .int f), (3, .int s), (4, .int p)], [], hq g c1 c2 c3 c4 c5 c6 c7 c8 c9 c10 c11 c12 c13 c14 c15 c16 c17 c18 c19 c20 c21 c22 c23 c24 (hc25 mTy mTm mMn mFn mRn zn mVn mLr mTr mFl mFm mFp mSc mMp ze) (hc26 mPa) (hc27 mTo) (hc28 mOt) (hc29 mNa) (hc30 mRe) (hc31 mMa) (hc32 mMy) (hc33 mPm) (hc34 mFy) (hc35 mFa) (hc36 mFr) (hc37 mFo) (hc38 mRt) (hc39 mRm) (hc40 zt) (hc41 zi) (hc42 zl) (hc43 mVr) (hc44 mVf) (hc45 mVc) (hc46 mAr) (hc47 mTc) (hc48 mFt) (hc49 mGo) dyn, 0, 0) Q := by
  intro n
  induction n with
  | zero =>
    intro k zn ze zt zi zl g0 g1 g2 g3 k0
    exfalso; omega
  | succ n ih =>
    intro k zn ze zt zi zl g0 g1 g2 g3 k0
    have hk := nI_toInt (n := k) (by omega)
    have hkc : (nI k).toNatClampNeg = k := nI_clamp (by omega)
    have hxx := xN hn00
    have hak := hA k
    refine pm_go (g := (138, [(8, .int (nI k)), (7, .int row), (6, .int x), (5, .int n0), (0, .ref 25), (1, .int m), (2, .int f), (3, .int s), (4, .int p)], [.int (nI k)], hq g c1 c2 c3 c4 c5 c6 c7 c8 c9 c10 c11 c12 c13 c14 c15 c16 c17 c18 c19 c20 c21 c22 c23 c24 (hc25 mTy mTm mMn mFn mRn zn mVn mLr mTr mFl mFm mFp mSc mMp ze) (hc26 mPa) (hc27 mTo) (hc28 mOt) (hc29 mNa) (hc30 mRe) (hc31 mMa) (hc32 mMy) (hc33 mPm) (hc34 mFy) (hc35 mFa) (hc36 mFr) (hc37 mFo) (hc38 mRt) (hc39 mRm) (hc40 zt) (hc41 zi) (hc42 zl) (hc43 mVr) (hc44 mVf) (hc45 mVc) (hc46 mAr) (hc47 mTc) (hc48 mFt) (hc49 mGo) dyn, 0, 0)) rfl ?_
    refine pm_go (g := (140, _, [.int n0, .int (nI k)], _, 0, 0)) rfl ?_
    refine pm_if2 (g := (209, [(8, .int (nI k)), (7, .int row), (6, .int x), (5, .int n0), (0, .ref 25), (1, .int m), (2, .int f), (3, .int s), (4, .int p)], [], hq g c1 c2 c3 c4 c5 c6 c7 c8 c9 c10 c11 c12 c13 c14 c15 c16 c17 c18 c19 c20 c21 c22 c23 c24 (hc25 mTy mTm mMn mFn mRn zn mVn mLr mTr mFl mFm mFp mSc mMp ze) (hc26 mPa) (hc27 mTo) (hc28 mOt) (hc29 mNa) (hc30 mRe) (hc31 mMa) (hc32 mMy) (hc33 mPm) (hc34 mFy) (hc35 mFa) (hc36 mFr) (hc37 mFo) (hc38 mRt) (hc39 mRm) (hc40 zt) (hc41 zi) (hc42 zl) (hc43 mVr) (hc44 mVf) (hc45 mVc) (hc46 mAr) (hc47 mTc) (hc48 mFt) (hc49 mGo) dyn, 0, 0)) (h := (143, [(8, .int (nI k)), (7, .int row), (6, .int x), (5, .int n0), (0, .ref 25), (1, .int m), (2, .int f), (3, .int s), (4, .int p)], [], hq g c1 c2 c3 c4 c5 c6 c7 c8 c9 c10 c11 c12 c13 c14 c15 c16 c17 c18 c19 c20 c21 c22 c23 c24 (hc25 mTy mTm mMn mFn mRn zn mVn mLr mTr mFl mFm mFp mSc mMp ze) (hc26 mPa) (hc27 mTo) (hc28 mOt) (hc29 mNa) (hc30 mRe) (hc31 mMa) (hc32 mMy) (hc33 mPm) (hc34 mFy) (hc35 mFa) (hc36 mFr) (hc37 mFo) (hc38 mRt) (hc39 mRm) (hc40 zt) (hc41 zi) (hc42 zl) (hc43 mVr) (hc44 mVf) (hc45 mVc) (hc46 mAr) (hc47 mTc) (hc48 mFt) (hc49 mGo) dyn, 0, 0)) rfl (fun h1 => ?_) (fun h1 => ?_)
    ·
      have h1 := qT_ge (cx := (nI k).toInt) (cy := (n0).toInt) rfl rfl h1
      exact pm_ret rfl (k0 _ _ _ _ _ (by rw [show n0.toNatClampNeg - k = 0 by omega]; rfl) (by omega))
    have h1 := qF_ge (cx := (nI k).toInt) (cy := (n0).toInt) rfl rfl h1
    refine pm_go (g := (144, _, [.ref 25], _, 0, 0)) rfl ?_
    refine pm_go (g := (145, _, [.ref 25, .ref 25], _, 0, 0)) rfl ?_
    refine pm_go (g := (148, _, [.ref 46, .ref 25], _, 0, 0)) rfl ?_
    refine pm_go (g := (149, _, [.int s, .ref 46, .ref 25], _, 0, 0)) rfl ?_
    refine pm_go (g := (151, _, [.int (nI k), .int s, .ref 46, .ref 25], _, 0, 0)) rfl ?_
    refine pm_go (g := (152, _, [.int (s + (nI k)), .ref 46, .ref 25], _, 0, 0)) rfl ?_
    try have h2 : (s + (nI k)).toInt = (s).toInt + (nI k).toInt := iAdd (x := (s).toInt) (y := (nI k).toInt) rfl rfl (by omega) (by omega)
    refine pm_sd (g := (153, _, [.int (mAr (s + (nI k)).toNatClampNeg), .ref 25], _, 0, 0)) rfl (pm_inI (by omega) (by omega)) ?_
    refine pm_go (g := (154, _, [.ref 25, .int (mAr (s + (nI k)).toNatClampNeg), .ref 25], _, 0, 0)) rfl ?_
    refine pm_go (g := (157, _, [.ref 35, .int (mAr (s + (nI k)).toNatClampNeg), .ref 25], _, 0, 0)) rfl ?_
    refine pm_go (g := (158, _, [.int 3, .ref 35, .int (mAr (s + (nI k)).toNatClampNeg), .ref 25], _, 0, 0)) rfl ?_
    refine pm_go (g := (159, _, [.int f, .int 3, .ref 35, .int (mAr (s + (nI k)).toNatClampNeg), .ref 25], _, 0, 0)) rfl ?_
    refine pm_go (g := (160, _, [.int (3 * f), .ref 35, .int (mAr (s + (nI k)).toNatClampNeg), .ref 25], _, 0, 0)) rfl ?_
    try have h3 : (3 * f).toInt = 3 * (f).toInt := iMul (x := 3) (y := (f).toInt) (by decide) rfl (by omega) (by omega)
    refine pm_go (g := (161, _, [.int s, .int (3 * f), .ref 35, .int (mAr (s + (nI k)).toNatClampNeg), .ref 25], _, 0, 0)) rfl ?_
    refine pm_go (g := (162, _, [.int ((3 * f) + s), .ref 35, .int (mAr (s + (nI k)).toNatClampNeg), .ref 25], _, 0, 0)) rfl ?_
    try have h4 : ((3 * f) + s).toInt = (3 * f).toInt + (s).toInt := iAdd (x := (3 * f).toInt) (y := (s).toInt) rfl rfl (by omega) (by omega)
    refine pm_go (g := (164, _, [.int (nI k), .int ((3 * f) + s), .ref 35, .int (mAr (s + (nI k)).toNatClampNeg), .ref 25], _, 0, 0)) rfl ?_
    refine pm_go (g := (165, _, [.int (((3 * f) + s) + (nI k)), .ref 35, .int (mAr (s + (nI k)).toNatClampNeg), .ref 25], _, 0, 0)) rfl ?_
    try have h5 : (((3 * f) + s) + (nI k)).toInt = ((3 * f) + s).toInt + (nI k).toInt := iAdd (x := ((3 * f) + s).toInt) (y := (nI k).toInt) rfl rfl (by omega) (by omega)
    refine pm_sd (g := (166, _, [.int (mFa (((3 * f) + s) + (nI k)).toNatClampNeg), .int (mAr (s + (nI k)).toNatClampNeg), .ref 25], _, 0, 0)) rfl (pm_inI (by omega) (by omega)) ?_
    refine pm_go (g := (167, _, [.ref 25, .int (mFa (((3 * f) + s) + (nI k)).toNatClampNeg), .int (mAr (s + (nI k)).toNatClampNeg), .ref 25], _, 0, 0)) rfl ?_
    refine pm_go (g := (168, _, [.int m, .ref 25, .int (mFa (((3 * f) + s) + (nI k)).toNatClampNeg), .int (mAr (s + (nI k)).toNatClampNeg), .ref 25], _, 0, 0)) rfl ?_
    refine pm_go (g := (170, _, [.int (nI k), .int m, .ref 25, .int (mFa (((3 * f) + s) + (nI k)).toNatClampNeg), .int (mAr (s + (nI k)).toNatClampNeg), .ref 25], _, 0, 0)) rfl ?_
    refine pm_callD (z := 147) (as := [.ref 25, .int m, .int (nI k)]) (rest := [.int (mFa (((3 * f) + s) + (nI k)).toNatClampNeg), .int (mAr (s + (nI k)).toNatClampNeg), .ref 25]) rfl ?_
    refine w2_X12_placeOf m (nI k) (by omega) (by omega) (by omega) ?_
    show pm_WP 179 (173, [(8, .int (nI k)), (7, .int row), (6, .int x), (5, .int n0), (0, .ref 25), (1, .int m), (2, .int f), (3, .int s), (4, .int p)], [.int (plV mMy mPm m (nI k)), .int (mFa (((3 * f) + s) + (nI k)).toNatClampNeg), .int (mAr (s + (nI k)).toNatClampNeg), .ref 25], _, 0, 0) _
    refine pm_callD (z := 178) (as := [.ref 25, .int (mAr (s + (nI k)).toNatClampNeg), .int (mFa (((3 * f) + s) + (nI k)).toNatClampNeg), .int (plV mMy mPm m (nI k))]) (rest := []) rfl ?_
    refine w_X12_turned (mAr (s + (nI k)).toNatClampNeg) (mFa (((3 * f) + s) + (nI k)).toNatClampNeg) (plV mMy mPm m (nI k)) (by omega) (by omega) (fun v8_r9 v8_n9 v8_e9 v8_t9 v8_i9 v8_l9 h7 h8 => ?_)
    show pm_WP 179 (176, [(8, .int (nI k)), (7, .int row), (6, .int x), (5, .int n0), (0, .ref 25), (1, .int m), (2, .int f), (3, .int s), (4, .int p)], [.int v8_r9], _, 0, 0) _
    refine pm_go (g := (178, [(9, .int v8_r9), (8, .int (nI k)), (7, .int row), (6, .int x), (5, .int n0), (0, .ref 25), (1, .int m), (2, .int f), (3, .int s), (4, .int p)], [], _, 0, 0)) rfl ?_
    refine pm_go (g := (179, _, [.ref 25], _, 0, 0)) rfl ?_
    refine pm_go (g := (182, _, [.int v8_e9], _, 0, 0)) rfl ?_
    refine pm_if2 (g := (203, [(9, .int v8_r9), (8, .int (nI k)), (7, .int row), (6, .int x), (5, .int n0), (0, .ref 25), (1, .int m), (2, .int f), (3, .int s), (4, .int p)], [], hq g c1 c2 c3 c4 c5 c6 c7 c8 c9 c10 c11 c12 c13 c14 c15 c16 c17 c18 c19 c20 c21 c22 c23 c24 (hc25 mTy mTm mMn mFn mRn v8_n9 mVn mLr mTr mFl mFm mFp mSc mMp v8_e9) (hc26 mPa) (hc27 mTo) (hc28 mOt) (hc29 mNa) (hc30 mRe) (hc31 mMa) (hc32 mMy) (hc33 mPm) (hc34 mFy) (hc35 mFa) (hc36 mFr) (hc37 mFo) (hc38 mRt) (hc39 mRm) (hc40 v8_t9) (hc41 v8_i9) (hc42 v8_l9) (hc43 mVr) (hc44 mVf) (hc45 mVc) (hc46 mAr) (hc47 mTc) (hc48 mFt) (hc49 mGo) dyn, 0, 0)) (h := (185, [(9, .int v8_r9), (8, .int (nI k)), (7, .int row), (6, .int x), (5, .int n0), (0, .ref 25), (1, .int m), (2, .int f), (3, .int s), (4, .int p)], [], hq g c1 c2 c3 c4 c5 c6 c7 c8 c9 c10 c11 c12 c13 c14 c15 c16 c17 c18 c19 c20 c21 c22 c23 c24 (hc25 mTy mTm mMn mFn mRn v8_n9 mVn mLr mTr mFl mFm mFp mSc mMp v8_e9) (hc26 mPa) (hc27 mTo) (hc28 mOt) (hc29 mNa) (hc30 mRe) (hc31 mMa) (hc32 mMy) (hc33 mPm) (hc34 mFy) (hc35 mFa) (hc36 mFr) (hc37 mFo) (hc38 mRt) (hc39 mRm) (hc40 v8_t9) (hc41 v8_i9) (hc42 v8_l9) (hc43 mVr) (hc44 mVf) (hc45 mVc) (hc46 mAr) (hc47 mTc) (hc48 mFt) (hc49 mGo) dyn, 0, 0)) rfl (fun h10 => ?_) (fun h10 => ?_)
    ·
      have h10 := qT_ne (cx := (v8_e9).toInt) (cy := 0) rfl (by decide) h10
      refine pm_go (g := (206, [(8, .int ((nI k) + 1)), (9, .int v8_r9), (7, .int row), (6, .int x), (5, .int n0), (0, .ref 25), (1, .int m), (2, .int f), (3, .int s), (4, .int p)], [], _, 0, 0)) rfl ?_
      refine pm_go (g := (136, _, [], _, 0, 0)) rfl ?_
      refine pm_sub (lv := [(8, .int ((nI k) + 1)), (7, .int row), (6, .int x), (5, .int n0), (0, .ref 25), (1, .int m), (2, .int f), (3, .int s), (4, .int p)]) ?_ ⟨le_c (List.Mem.head _) (le_c (List.Mem.tail _ (List.Mem.tail _ (List.Mem.head _))) (le_c (List.Mem.tail _ (List.Mem.tail _ (List.Mem.tail _ (List.Mem.head _)))) (le_c (List.Mem.tail _ (List.Mem.tail _ (List.Mem.tail _ (List.Mem.tail _ (List.Mem.head _))))) (le_c (List.Mem.tail _ (List.Mem.tail _ (List.Mem.tail _ (List.Mem.tail _ (List.Mem.tail _ (List.Mem.head _)))))) (le_c (List.Mem.tail _ (List.Mem.tail _ (List.Mem.tail _ (List.Mem.tail _ (List.Mem.tail _ (List.Mem.tail _ (List.Mem.head _))))))) (le_c (List.Mem.tail _ (List.Mem.tail _ (List.Mem.tail _ (List.Mem.tail _ (List.Mem.tail _ (List.Mem.tail _ (List.Mem.tail _ (List.Mem.head _)))))))) (le_c (List.Mem.tail _ (List.Mem.tail _ (List.Mem.tail _ (List.Mem.tail _ (List.Mem.tail _ (List.Mem.tail _ (List.Mem.tail _ (List.Mem.tail _ (List.Mem.head _))))))))) (le_c (List.Mem.tail _ (List.Mem.tail _ (List.Mem.tail _ (List.Mem.tail _ (List.Mem.tail _ (List.Mem.tail _ (List.Mem.tail _ (List.Mem.tail _ (List.Mem.tail _ (List.Mem.head _)))))))))) le_n)))))))), (show ([8, 9, 7, 6, 5, 0, 1, 2, 3, 4] : List Nat).Nodup by decide)⟩
      rw [nI_1]
      refine ih (k + 1) _ _ _ _ _ (by omega) (by omega) (by omega) (by omega) (fun n9 e9 t9 i9 l9 q1 q2 => k0 n9 e9 t9 i9 l9 ?_ (by omega))
      rw [q1, show n0.toNatClampNeg - k = (n0.toNatClampNeg - (k + 1)) + 1 by omega]
      show _ = gv2 mAr mFa mMy mPm m f s x row _ (k + 1) (pvF _ (tuF _ _ _ (zn, ze, zt, zi, zl)))
      rw [← h7]
      first | rw [pv_1 (by omega)] | rw [pv_2 (by first | assumption | omega | (show ¬ _ = (0 : Int); omega))]
    have h10 := qF_ne (cx := (v8_e9).toInt) (cy := 0) rfl (by decide) h10
    refine pm_go (g := (186, [(9, .int v8_r9), (8, .int (nI k)), (7, .int row), (6, .int x), (5, .int n0), (0, .ref 25), (1, .int m), (2, .int f), (3, .int s), (4, .int p)], [.ref 25], _, 0, 0)) rfl ?_
    refine pm_go (g := (189, _, [.ref 42], _, 0, 0)) rfl ?_
    refine pm_go (g := (191, _, [.int 20, .ref 42], _, 0, 0)) rfl ?_
    refine pm_go (g := (193, _, [.int row, .int 20, .ref 42], _, 0, 0)) rfl ?_
    refine pm_go (g := (194, _, [.int (20 * row), .ref 42], _, 0, 0)) rfl ?_
    try have h11 : (20 * row).toInt = 20 * (row).toInt := iMul (x := 20) (y := (row).toInt) (by decide) rfl (by omega) (by omega)
    refine pm_go (g := (196, _, [.int (nI k), .int (20 * row), .ref 42], _, 0, 0)) rfl ?_
    refine pm_go (g := (197, _, [.int ((20 * row) + (nI k)), .ref 42], _, 0, 0)) rfl ?_
    try have h12 : ((20 * row) + (nI k)).toInt = (20 * row).toInt + (nI k).toInt := iAdd (x := (20 * row).toInt) (y := (nI k).toInt) rfl rfl (by omega) (by omega)
    refine pm_go (g := (199, _, [.int x, .int ((20 * row) + (nI k)), .ref 42], _, 0, 0)) rfl ?_
    refine pm_go (g := (200, _, [.int (((20 * row) + (nI k)) - x), .ref 42], _, 0, 0)) rfl ?_
    try have h13 : (((20 * row) + (nI k)) - x).toInt = ((20 * row) + (nI k)).toInt - (x).toInt := iSub (x := ((20 * row) + (nI k)).toInt) (y := (x).toInt) rfl rfl (by omega) (by omega)
    refine pm_go (g := (202, _, [.int v8_r9, .int (((20 * row) + (nI k)) - x), .ref 42], _, 0, 0)) rfl ?_
    refine pm_sd (g := (203, _, [], hq g c1 c2 c3 c4 c5 c6 c7 c8 c9 c10 c11 c12 c13 c14 c15 c16 c17 c18 c19 c20 c21 c22 c23 c24 (hc25 mTy mTm mMn mFn mRn v8_n9 mVn mLr mTr mFl mFm mFp mSc mMp v8_e9) (hc26 mPa) (hc27 mTo) (hc28 mOt) (hc29 mNa) (hc30 mRe) (hc31 mMa) (hc32 mMy) (hc33 mPm) (hc34 mFy) (hc35 mFa) (hc36 mFr) (hc37 mFo) (hc38 mRt) (hc39 mRm) (hc40 v8_t9) (hc41 v8_i9) (hc42 (upd v8_l9 (((20 * row) + (nI k)) - x).toNatClampNeg v8_r9)) (hc43 mVr) (hc44 mVf) (hc45 mVc) (hc46 mAr) (hc47 mTc) (hc48 mFt) (hc49 mGo) dyn, 0, 0)) rfl (pm_inI (by omega) (by omega)) ?_
    refine pm_go (g := (206, [(8, .int ((nI k) + 1)), (9, .int v8_r9), (7, .int row), (6, .int x), (5, .int n0), (0, .ref 25), (1, .int m), (2, .int f), (3, .int s), (4, .int p)], [], _, 0, 0)) rfl ?_
    refine pm_go (g := (136, _, [], _, 0, 0)) rfl ?_
    refine pm_sub (lv := [(8, .int ((nI k) + 1)), (7, .int row), (6, .int x), (5, .int n0), (0, .ref 25), (1, .int m), (2, .int f), (3, .int s), (4, .int p)]) ?_ ⟨le_c (List.Mem.head _) (le_c (List.Mem.tail _ (List.Mem.tail _ (List.Mem.head _))) (le_c (List.Mem.tail _ (List.Mem.tail _ (List.Mem.tail _ (List.Mem.head _)))) (le_c (List.Mem.tail _ (List.Mem.tail _ (List.Mem.tail _ (List.Mem.tail _ (List.Mem.head _))))) (le_c (List.Mem.tail _ (List.Mem.tail _ (List.Mem.tail _ (List.Mem.tail _ (List.Mem.tail _ (List.Mem.head _)))))) (le_c (List.Mem.tail _ (List.Mem.tail _ (List.Mem.tail _ (List.Mem.tail _ (List.Mem.tail _ (List.Mem.tail _ (List.Mem.head _))))))) (le_c (List.Mem.tail _ (List.Mem.tail _ (List.Mem.tail _ (List.Mem.tail _ (List.Mem.tail _ (List.Mem.tail _ (List.Mem.tail _ (List.Mem.head _)))))))) (le_c (List.Mem.tail _ (List.Mem.tail _ (List.Mem.tail _ (List.Mem.tail _ (List.Mem.tail _ (List.Mem.tail _ (List.Mem.tail _ (List.Mem.tail _ (List.Mem.head _))))))))) (le_c (List.Mem.tail _ (List.Mem.tail _ (List.Mem.tail _ (List.Mem.tail _ (List.Mem.tail _ (List.Mem.tail _ (List.Mem.tail _ (List.Mem.tail _ (List.Mem.tail _ (List.Mem.head _)))))))))) le_n)))))))), (show ([8, 9, 7, 6, 5, 0, 1, 2, 3, 4] : List Nat).Nodup by decide)⟩
    rw [nI_1]
    refine ih (k + 1) _ _ _ _ _ (by omega) (by omega) (by omega) (by omega) (fun n9 e9 t9 i9 l9 q1 q2 => k0 n9 e9 t9 i9 l9 ?_ (by omega))
    rw [q1, show n0.toNatClampNeg - k = (n0.toNatClampNeg - (k + 1)) + 1 by omega]
    show _ = gv2 mAr mFa mMy mPm m f s x row _ (k + 1) (pvF _ (tuF _ _ _ (zn, ze, zt, zi, zl)))
    rw [← h7]
    first | rw [pv_1 (by omega)] | rw [pv_2 (by first | assumption | omega | (show ¬ _ = (0 : Int); omega))]
theorem pm_sub8 {y pc : Nat} {a b : Int32} {l : pm_L} {x : List Value × pm_H × Nat × Nat} {Q : pm_Q} (e : a = b) (h : pm_WP y (pc, (8, .int a) :: l, x) Q) : pm_WP y (pc, (8, .int b) :: l, x) Q := by rw [← e]; exact h
set_option maxRecDepth 100000 in
set_option maxHeartbeats 4000000 in
theorem w_X12_give {g c1 c2 c3 c4 c5 c6 c7 c8 c9 c10 c11 c12 c13 c14 c15 c16 c17 c18 c19 c20 c21 c22 c23 c24 : pm_C} {dyn : pm_H} {mTy : Int32} {mPa : Nat → Int32} {mTo : Nat → Int32} {mTm : Int32} {mMn : Int32} {mOt : Nat → Int32} {mNa : Nat → Int32} {mRe : Nat → Int32} {mMa : Nat → Int32} {mMy : Nat → Int32} {mPm : Nat → Int32} {mFn : Int32} {mFy : Nat → Int32} {mFa : Nat → Int32} {mFr : Nat → Int32} {mRn : Int32} {mFo : Nat → Int32} {mRt : Nat → Int32} {mRm : Nat → Int32} {mTn : Int32} {mTt : Nat → Int32} {mTi : Nat → Int32} {mPl : Nat → Int32} {mVn : Int32} {mVr : Nat → Int32} {mVf : Nat → Int32} {mVc : Nat → Int32} {mAr : Nat → Int32} {mLr : Int32} {mTc : Nat → Int32} {mTr : Int32} {mFl : Int32} {mFt : Nat → Int32} {mFm : Int32} {mFp : Int32} {mSc : Int32} {mMp : Int32} {mEn : Int32} {mGo : Nat → Int32} {Q : pm_Q} (m : Int32) (f : Int32) (s : Int32) (p : Int32) (p0 : 0 ≤ m.toInt ∧ m.toInt < 40) (p1 : 0 ≤ f.toInt ∧ f.toInt < 10) (p2 : 0 ≤ s.toInt ∧ s.toInt ≤ 1) (p3 : s.toInt ≤ (mFy f.toNatClampNeg).toInt ∧ (mFy f.toNatClampNeg).toInt ≤ 3) (p4 : (p.toInt ≠ 3 ∧ 0 ≤ (mMy m.toNatClampNeg).toInt ∧ (mMy m.toNatClampNeg).toInt = (mFy f.toNatClampNeg).toInt - s.toInt) ∨ (p.toInt = 3 ∧ 1 ≤ (mMy m.toNatClampNeg).toInt ∧ (mMy m.toNatClampNeg).toInt ≤ 3 ∧ (mMy m.toNatClampNeg).toInt ≤ (mFy f.toNatClampNeg).toInt - s.toInt + 1)) (p5 : agD mAr mFa mFy f s) (p6 : 0 ≤ mTn.toInt ∧ mTn.toInt ≤ 60) (k0 : ∀ (g9 : Nat → Int32), ∀ (n9 : Int32), ∀ (e9 : Int32), ∀ (t9 : Nat → Int32), ∀ (i9 : Nat → Int32), ∀ (l9 : Nat → Int32), ((g9, n9, e9, t9, i9, l9) = gvF mAr mFa mFy mMy mPm m f s p (mGo, mTn, mEn, mTt, mTi, mPl)) → (((0 ≤ n9.toInt ∧ n9.toInt ≤ 60) ∧ mTn.toInt ≤ n9.toInt)) → Q none (hq g c1 c2 c3 c4 c5 c6 c7 c8 c9 c10 c11 c12 c13 c14 c15 c16 c17 c18 c19 c20 c21 c22 c23 c24 (hc25 mTy mTm mMn mFn mRn n9 mVn mLr mTr mFl mFm mFp mSc mMp e9) (hc26 mPa) (hc27 mTo) (hc28 mOt) (hc29 mNa) (hc30 mRe) (hc31 mMa) (hc32 mMy) (hc33 mPm) (hc34 mFy) (hc35 mFa) (hc36 mFr) (hc37 mFo) (hc38 mRt) (hc39 mRm) (hc40 t9) (hc41 i9) (hc42 l9) (hc43 mVr) (hc44 mVf) (hc45 mVc) (hc46 mAr) (hc47 mTc) (hc48 mFt) (hc49 g9) dyn)) : pm_WP 179 (0, [(0, .ref 25), (1, .int m), (2, .int f), (3, .int s), (4, .int p)], [], hq g c1 c2 c3 c4 c5 c6 c7 c8 c9 c10 c11 c12 c13 c14 c15 c16 c17 c18 c19 c20 c21 c22 c23 c24 (hc25 mTy mTm mMn mFn mRn mTn mVn mLr mTr mFl mFm mFp mSc mMp mEn) (hc26 mPa) (hc27 mTo) (hc28 mOt) (hc29 mNa) (hc30 mRe) (hc31 mMa) (hc32 mMy) (hc33 mPm) (hc34 mFy) (hc35 mFa) (hc36 mFr) (hc37 mFo) (hc38 mRt) (hc39 mRm) (hc40 mTt) (hc41 mTi) (hc42 mPl) (hc43 mVr) (hc44 mVf) (hc45 mVc) (hc46 mAr) (hc47 mTc) (hc48 mFt) (hc49 mGo) dyn, 0, 0) Q := by
  refine pm_go (g := (1, [(0, .ref 25), (1, .int m), (2, .int f), (3, .int s), (4, .int p)], [.ref 25], hq g c1 c2 c3 c4 c5 c6 c7 c8 c9 c10 c11 c12 c13 c14 c15 c16 c17 c18 c19 c20 c21 c22 c23 c24 (hc25 mTy mTm mMn mFn mRn mTn mVn mLr mTr mFl mFm mFp mSc mMp mEn) (hc26 mPa) (hc27 mTo) (hc28 mOt) (hc29 mNa) (hc30 mRe) (hc31 mMa) (hc32 mMy) (hc33 mPm) (hc34 mFy) (hc35 mFa) (hc36 mFr) (hc37 mFo) (hc38 mRt) (hc39 mRm) (hc40 mTt) (hc41 mTi) (hc42 mPl) (hc43 mVr) (hc44 mVf) (hc45 mVc) (hc46 mAr) (hc47 mTc) (hc48 mFt) (hc49 mGo) dyn, 0, 0)) rfl ?_
  refine pm_go (g := (4, _, [.ref 34], _, 0, 0)) rfl ?_
  refine pm_go (g := (5, _, [.int f, .ref 34], _, 0, 0)) rfl ?_
  refine pm_sd (g := (6, _, [.int (mFy (f).toNatClampNeg)], _, 0, 0)) rfl (pm_inI (by omega) (by omega)) ?_
  refine pm_go (g := (7, _, [.int s, .int (mFy (f).toNatClampNeg)], _, 0, 0)) rfl ?_
  refine pm_go (g := (8, _, [.int ((mFy (f).toNatClampNeg) - s)], _, 0, 0)) rfl ?_
  try have h1 : ((mFy (f).toNatClampNeg) - s).toInt = (mFy (f).toNatClampNeg).toInt - (s).toInt := iSub (x := (mFy (f).toNatClampNeg).toInt) (y := (s).toInt) rfl rfl (by omega) (by omega)
  refine pm_go (g := (10, [(5, .int ((mFy (f).toNatClampNeg) - s)), (0, .ref 25), (1, .int m), (2, .int f), (3, .int s), (4, .int p)], [], _, 0, 0)) rfl ?_
  refine pm_go (g := (12, _, [.int p], _, 0, 0)) rfl ?_
  refine pm_go (g := (13, _, [.int 3, .int p], _, 0, 0)) rfl ?_
  refine pm_if2 (g := (27, [(5, .int ((mFy (f).toNatClampNeg) - s)), (0, .ref 25), (1, .int m), (2, .int f), (3, .int s), (4, .int p)], [], hq g c1 c2 c3 c4 c5 c6 c7 c8 c9 c10 c11 c12 c13 c14 c15 c16 c17 c18 c19 c20 c21 c22 c23 c24 (hc25 mTy mTm mMn mFn mRn mTn mVn mLr mTr mFl mFm mFp mSc mMp mEn) (hc26 mPa) (hc27 mTo) (hc28 mOt) (hc29 mNa) (hc30 mRe) (hc31 mMa) (hc32 mMy) (hc33 mPm) (hc34 mFy) (hc35 mFa) (hc36 mFr) (hc37 mFo) (hc38 mRt) (hc39 mRm) (hc40 mTt) (hc41 mTi) (hc42 mPl) (hc43 mVr) (hc44 mVf) (hc45 mVc) (hc46 mAr) (hc47 mTc) (hc48 mFt) (hc49 mGo) dyn, 0, 0)) (h := (16, [(5, .int ((mFy (f).toNatClampNeg) - s)), (0, .ref 25), (1, .int m), (2, .int f), (3, .int s), (4, .int p)], [], hq g c1 c2 c3 c4 c5 c6 c7 c8 c9 c10 c11 c12 c13 c14 c15 c16 c17 c18 c19 c20 c21 c22 c23 c24 (hc25 mTy mTm mMn mFn mRn mTn mVn mLr mTr mFl mFm mFp mSc mMp mEn) (hc26 mPa) (hc27 mTo) (hc28 mOt) (hc29 mNa) (hc30 mRe) (hc31 mMa) (hc32 mMy) (hc33 mPm) (hc34 mFy) (hc35 mFa) (hc36 mFr) (hc37 mFo) (hc38 mRt) (hc39 mRm) (hc40 mTt) (hc41 mTi) (hc42 mPl) (hc43 mVr) (hc44 mVf) (hc45 mVc) (hc46 mAr) (hc47 mTc) (hc48 mFt) (hc49 mGo) dyn, 0, 0)) rfl (fun h2 => ?_) (fun h2 => ?_)
  ·
    have h2 := qT_ne (cx := (p).toInt) (cy := 3) rfl (by decide) h2
    refine pm_go (g := (28, _, [.ref 25], _, 0, 0)) rfl ?_
    refine pm_go (g := (31, _, [.ref 32], _, 0, 0)) rfl ?_
    refine pm_go (g := (32, _, [.int m, .ref 32], _, 0, 0)) rfl ?_
    refine pm_sd (g := (33, _, [.int (mMy (m).toNatClampNeg)], _, 0, 0)) rfl (pm_inI (by omega) (by omega)) ?_
    refine pm_go (g := (35, [(6, .int (mMy (m).toNatClampNeg)), (5, .int ((mFy (f).toNatClampNeg) - s)), (0, .ref 25), (1, .int m), (2, .int f), (3, .int s), (4, .int p)], [], _, 0, 0)) rfl ?_
    refine pm_go (g := (36, _, [.int 0], _, 0, 0)) rfl ?_
    refine pm_go (g := (38, [(7, .int 0), (6, .int (mMy (m).toNatClampNeg)), (5, .int ((mFy (f).toNatClampNeg) - s)), (0, .ref 25), (1, .int m), (2, .int f), (3, .int s), (4, .int p)], [], _, 0, 0)) rfl ?_
    refine pm_sub (lv := [(7, .int 0), (6, .int (mMy (m).toNatClampNeg)), (5, .int ((mFy (f).toNatClampNeg) - s)), (0, .ref 25), (1, .int m), (2, .int f), (3, .int s), (4, .int p)]) ?_ ⟨le_c (List.Mem.head _) (le_c (List.Mem.tail _ (List.Mem.head _)) (le_c (List.Mem.tail _ (List.Mem.tail _ (List.Mem.head _))) (le_c (List.Mem.tail _ (List.Mem.tail _ (List.Mem.tail _ (List.Mem.head _)))) (le_c (List.Mem.tail _ (List.Mem.tail _ (List.Mem.tail _ (List.Mem.tail _ (List.Mem.head _))))) (le_c (List.Mem.tail _ (List.Mem.tail _ (List.Mem.tail _ (List.Mem.tail _ (List.Mem.tail _ (List.Mem.head _)))))) (le_c (List.Mem.tail _ (List.Mem.tail _ (List.Mem.tail _ (List.Mem.tail _ (List.Mem.tail _ (List.Mem.tail _ (List.Mem.head _))))))) (le_c (List.Mem.tail _ (List.Mem.tail _ (List.Mem.tail _ (List.Mem.tail _ (List.Mem.tail _ (List.Mem.tail _ (List.Mem.tail _ (List.Mem.head _)))))))) le_n))))))), (show ([7, 6, 5, 0, 1, 2, 3, 4] : List Nat).Nodup by decide)⟩
    refine w_give_1 (mGo := mGo) (mTn := mTn) (mEn := mEn) (mTt := mTt) (mTi := mTi) (mPl := mPl) m f s p ((mFy (f).toNatClampNeg) - s) (mMy (m).toNatClampNeg) p0 p1 p2 (by omega) (by omega) (by omega) p5 4 0 _ _ _ _ _ _ (by omega) (by omega) p6 (fun ga na ea ta ia la hq1 hq2 => ?_)
    show pm_WP 179 (95, [(6, .int (mMy (m).toNatClampNeg)), (5, .int ((mFy (f).toNatClampNeg) - s)), (0, .ref 25), (1, .int m), (2, .int f), (3, .int s), (4, .int p)], [], _, 0, 0) _
    refine pm_go (g := (97, _, [.int p], _, 0, 0)) rfl ?_
    refine pm_go (g := (98, _, [.int 3, .int p], _, 0, 0)) rfl ?_
    refine pm_if2 (g := (209, [(6, .int (mMy (m).toNatClampNeg)), (5, .int ((mFy (f).toNatClampNeg) - s)), (0, .ref 25), (1, .int m), (2, .int f), (3, .int s), (4, .int p)], [], hq g c1 c2 c3 c4 c5 c6 c7 c8 c9 c10 c11 c12 c13 c14 c15 c16 c17 c18 c19 c20 c21 c22 c23 c24 (hc25 mTy mTm mMn mFn mRn na mVn mLr mTr mFl mFm mFp mSc mMp ea) (hc26 mPa) (hc27 mTo) (hc28 mOt) (hc29 mNa) (hc30 mRe) (hc31 mMa) (hc32 mMy) (hc33 mPm) (hc34 mFy) (hc35 mFa) (hc36 mFr) (hc37 mFo) (hc38 mRt) (hc39 mRm) (hc40 ta) (hc41 ia) (hc42 la) (hc43 mVr) (hc44 mVf) (hc45 mVc) (hc46 mAr) (hc47 mTc) (hc48 mFt) (hc49 ga) dyn, 0, 0)) (h := (101, [(6, .int (mMy (m).toNatClampNeg)), (5, .int ((mFy (f).toNatClampNeg) - s)), (0, .ref 25), (1, .int m), (2, .int f), (3, .int s), (4, .int p)], [], hq g c1 c2 c3 c4 c5 c6 c7 c8 c9 c10 c11 c12 c13 c14 c15 c16 c17 c18 c19 c20 c21 c22 c23 c24 (hc25 mTy mTm mMn mFn mRn na mVn mLr mTr mFl mFm mFp mSc mMp ea) (hc26 mPa) (hc27 mTo) (hc28 mOt) (hc29 mNa) (hc30 mRe) (hc31 mMa) (hc32 mMy) (hc33 mPm) (hc34 mFy) (hc35 mFa) (hc36 mFr) (hc37 mFo) (hc38 mRt) (hc39 mRm) (hc40 ta) (hc41 ia) (hc42 la) (hc43 mVr) (hc44 mVf) (hc45 mVc) (hc46 mAr) (hc47 mTc) (hc48 mFt) (hc49 ga) dyn, 0, 0)) rfl (fun h3 => ?_) (fun h3 => ?_)
    ·
      have h3 := qT_ne (cx := (p).toInt) (cy := 3) rfl (by decide) h3
      exact pm_ret rfl (k0 _ _ _ _ _ _ (by unfold gvF; rw [if_pos (by omega)]; exact hq1) (by omega))
    have h3 := qF_ne (cx := (p).toInt) (cy := 3) rfl (by decide) h3
    refine pm_go (g := (102, _, [.ref 25], _, 0, 0)) rfl ?_
    refine pm_go (g := (103, _, [.ref 25, .ref 25], _, 0, 0)) rfl ?_
    refine pm_go (g := (106, _, [.ref 33, .ref 25], _, 0, 0)) rfl ?_
    refine pm_go (g := (107, _, [.int 3, .ref 33, .ref 25], _, 0, 0)) rfl ?_
    refine pm_go (g := (108, _, [.int m, .int 3, .ref 33, .ref 25], _, 0, 0)) rfl ?_
    refine pm_go (g := (109, _, [.int (3 * m), .ref 33, .ref 25], _, 0, 0)) rfl ?_
    try have h4 : (3 * m).toInt = 3 * (m).toInt := iMul (x := 3) (y := (m).toInt) (by decide) rfl (by omega) (by omega)
    refine pm_go (g := (111, _, [.int (mMy (m).toNatClampNeg), .int (3 * m), .ref 33, .ref 25], _, 0, 0)) rfl ?_
    refine pm_go (g := (112, _, [.int ((3 * m) + (mMy (m).toNatClampNeg)), .ref 33, .ref 25], _, 0, 0)) rfl ?_
    try have h5 : ((3 * m) + (mMy (m).toNatClampNeg)).toInt = (3 * m).toInt + (mMy (m).toNatClampNeg).toInt := iAdd (x := (3 * m).toInt) (y := (mMy (m).toNatClampNeg).toInt) rfl rfl (by omega) (by omega)
    refine pm_sd (g := (113, _, [.int (mPm ((3 * m) + (mMy (m).toNatClampNeg)).toNatClampNeg), .ref 25], _, 0, 0)) rfl (pm_inI (by omega) (by omega)) ?_
    refine pm_go (g := (115, _, [.int ((mFy (f).toNatClampNeg) - s), .int (mPm ((3 * m) + (mMy (m).toNatClampNeg)).toNatClampNeg), .ref 25], _, 0, 0)) rfl ?_
    refine pm_go (g := (117, _, [.int (mMy (m).toNatClampNeg), .int ((mFy (f).toNatClampNeg) - s), .int (mPm ((3 * m) + (mMy (m).toNatClampNeg)).toNatClampNeg), .ref 25], _, 0, 0)) rfl ?_
    refine pm_go (g := (118, _, [.int (((mFy (f).toNatClampNeg) - s) - (mMy (m).toNatClampNeg)), .int (mPm ((3 * m) + (mMy (m).toNatClampNeg)).toNatClampNeg), .ref 25], _, 0, 0)) rfl ?_
    try have h6 : (((mFy (f).toNatClampNeg) - s) - (mMy (m).toNatClampNeg)).toInt = ((mFy (f).toNatClampNeg) - s).toInt - (mMy (m).toNatClampNeg).toInt := iSub (x := ((mFy (f).toNatClampNeg) - s).toInt) (y := (mMy (m).toNatClampNeg).toInt) rfl rfl (by omega) (by omega)
    refine pm_callD (z := 169) (as := [.ref 25, .int (mPm ((3 * m) + (mMy (m).toNatClampNeg)).toNatClampNeg), .int (((mFy (f).toNatClampNeg) - s) - (mMy (m).toNatClampNeg))]) (rest := []) rfl ?_
    refine w2_X12_made (mPm ((3 * m) + (mMy (m).toNatClampNeg)).toNatClampNeg) (((mFy (f).toNatClampNeg) - s) - (mMy (m).toNatClampNeg)) (by omega) (fun v8_r9 v8_n9 v8_e9 v8_t9 v8_i9 v8_l9 h7 h8 => ?_)
    show pm_WP 179 (121, [(6, .int (mMy (m).toNatClampNeg)), (5, .int ((mFy (f).toNatClampNeg) - s)), (0, .ref 25), (1, .int m), (2, .int f), (3, .int s), (4, .int p)], [.int v8_r9], _, 0, 0) _
    refine pm_go (g := (123, [(7, .int v8_r9), (6, .int (mMy (m).toNatClampNeg)), (5, .int ((mFy (f).toNatClampNeg) - s)), (0, .ref 25), (1, .int m), (2, .int f), (3, .int s), (4, .int p)], [], _, 0, 0)) rfl ?_
    refine pm_go (g := (124, _, [.ref 25], _, 0, 0)) rfl ?_
    refine pm_go (g := (127, _, [.ref 49], _, 0, 0)) rfl ?_
    refine pm_go (g := (129, _, [.int (mMy (m).toNatClampNeg), .ref 49], _, 0, 0)) rfl ?_
    refine pm_go (g := (131, _, [.int v8_r9, .int (mMy (m).toNatClampNeg), .ref 49], _, 0, 0)) rfl ?_
    refine pm_sd (g := (132, _, [], hq g c1 c2 c3 c4 c5 c6 c7 c8 c9 c10 c11 c12 c13 c14 c15 c16 c17 c18 c19 c20 c21 c22 c23 c24 (hc25 mTy mTm mMn mFn mRn v8_n9 mVn mLr mTr mFl mFm mFp mSc mMp v8_e9) (hc26 mPa) (hc27 mTo) (hc28 mOt) (hc29 mNa) (hc30 mRe) (hc31 mMa) (hc32 mMy) (hc33 mPm) (hc34 mFy) (hc35 mFa) (hc36 mFr) (hc37 mFo) (hc38 mRt) (hc39 mRm) (hc40 v8_t9) (hc41 v8_i9) (hc42 v8_l9) (hc43 mVr) (hc44 mVf) (hc45 mVc) (hc46 mAr) (hc47 mTc) (hc48 mFt) (hc49 (upd ga (mMy (m).toNatClampNeg).toNatClampNeg v8_r9)) dyn, 0, 0)) rfl (pm_inI (by omega) (by omega)) ?_
    refine pm_go (g := (134, _, [.int (mMy (m).toNatClampNeg)], _, 0, 0)) rfl ?_
    refine pm_go (g := (136, [(8, .int (mMy (m).toNatClampNeg)), (7, .int v8_r9), (6, .int (mMy (m).toNatClampNeg)), (5, .int ((mFy (f).toNatClampNeg) - s)), (0, .ref 25), (1, .int m), (2, .int f), (3, .int s), (4, .int p)], [], _, 0, 0)) rfl ?_
    exfalso; omega
  have h2 := qF_ne (cx := (p).toInt) (cy := 3) rfl (by decide) h2
  refine pm_go (g := (17, [(5, .int ((mFy (f).toNatClampNeg) - s)), (0, .ref 25), (1, .int m), (2, .int f), (3, .int s), (4, .int p)], [.ref 25], hq g c1 c2 c3 c4 c5 c6 c7 c8 c9 c10 c11 c12 c13 c14 c15 c16 c17 c18 c19 c20 c21 c22 c23 c24 (hc25 mTy mTm mMn mFn mRn mTn mVn mLr mTr mFl mFm mFp mSc mMp mEn) (hc26 mPa) (hc27 mTo) (hc28 mOt) (hc29 mNa) (hc30 mRe) (hc31 mMa) (hc32 mMy) (hc33 mPm) (hc34 mFy) (hc35 mFa) (hc36 mFr) (hc37 mFo) (hc38 mRt) (hc39 mRm) (hc40 mTt) (hc41 mTi) (hc42 mPl) (hc43 mVr) (hc44 mVf) (hc45 mVc) (hc46 mAr) (hc47 mTc) (hc48 mFt) (hc49 mGo) dyn, 0, 0)) rfl ?_
  refine pm_go (g := (20, _, [.ref 32], _, 0, 0)) rfl ?_
  refine pm_go (g := (21, _, [.int m, .ref 32], _, 0, 0)) rfl ?_
  refine pm_sd (g := (22, _, [.int (mMy (m).toNatClampNeg)], _, 0, 0)) rfl (pm_inI (by omega) (by omega)) ?_
  refine pm_go (g := (23, _, [.int 1, .int (mMy (m).toNatClampNeg)], _, 0, 0)) rfl ?_
  refine pm_go (g := (24, _, [.int ((mMy (m).toNatClampNeg) - 1)], _, 0, 0)) rfl ?_
  try have h10 : ((mMy (m).toNatClampNeg) - 1).toInt = (mMy (m).toNatClampNeg).toInt - 1 := iSub (x := (mMy (m).toNatClampNeg).toInt) (y := 1) rfl (by decide) (by omega) (by omega)
  refine pm_go (g := (33, _, [.int ((mMy (m).toNatClampNeg) - 1)], _, 0, 0)) rfl ?_
  refine pm_go (g := (35, [(6, .int ((mMy (m).toNatClampNeg) - 1)), (5, .int ((mFy (f).toNatClampNeg) - s)), (0, .ref 25), (1, .int m), (2, .int f), (3, .int s), (4, .int p)], [], _, 0, 0)) rfl ?_
  refine pm_go (g := (36, _, [.int 0], _, 0, 0)) rfl ?_
  refine pm_go (g := (38, [(7, .int 0), (6, .int ((mMy (m).toNatClampNeg) - 1)), (5, .int ((mFy (f).toNatClampNeg) - s)), (0, .ref 25), (1, .int m), (2, .int f), (3, .int s), (4, .int p)], [], _, 0, 0)) rfl ?_
  refine pm_sub (lv := [(7, .int 0), (6, .int ((mMy (m).toNatClampNeg) - 1)), (5, .int ((mFy (f).toNatClampNeg) - s)), (0, .ref 25), (1, .int m), (2, .int f), (3, .int s), (4, .int p)]) ?_ ⟨le_c (List.Mem.head _) (le_c (List.Mem.tail _ (List.Mem.head _)) (le_c (List.Mem.tail _ (List.Mem.tail _ (List.Mem.head _))) (le_c (List.Mem.tail _ (List.Mem.tail _ (List.Mem.tail _ (List.Mem.head _)))) (le_c (List.Mem.tail _ (List.Mem.tail _ (List.Mem.tail _ (List.Mem.tail _ (List.Mem.head _))))) (le_c (List.Mem.tail _ (List.Mem.tail _ (List.Mem.tail _ (List.Mem.tail _ (List.Mem.tail _ (List.Mem.head _)))))) (le_c (List.Mem.tail _ (List.Mem.tail _ (List.Mem.tail _ (List.Mem.tail _ (List.Mem.tail _ (List.Mem.tail _ (List.Mem.head _))))))) (le_c (List.Mem.tail _ (List.Mem.tail _ (List.Mem.tail _ (List.Mem.tail _ (List.Mem.tail _ (List.Mem.tail _ (List.Mem.tail _ (List.Mem.head _)))))))) le_n))))))), (show ([7, 6, 5, 0, 1, 2, 3, 4] : List Nat).Nodup by decide)⟩
  refine w_give_1 (mGo := mGo) (mTn := mTn) (mEn := mEn) (mTt := mTt) (mTi := mTi) (mPl := mPl) m f s p ((mFy (f).toNatClampNeg) - s) ((mMy (m).toNatClampNeg) - 1) p0 p1 p2 (by omega) (by omega) (by omega) p5 4 0 _ _ _ _ _ _ (by omega) (by omega) p6 (fun ga na ea ta ia la hq1 hq2 => ?_)
  show pm_WP 179 (95, [(6, .int ((mMy (m).toNatClampNeg) - 1)), (5, .int ((mFy (f).toNatClampNeg) - s)), (0, .ref 25), (1, .int m), (2, .int f), (3, .int s), (4, .int p)], [], _, 0, 0) _
  refine pm_go (g := (97, _, [.int p], _, 0, 0)) rfl ?_
  refine pm_go (g := (98, _, [.int 3, .int p], _, 0, 0)) rfl ?_
  refine pm_if2 (g := (209, [(6, .int ((mMy (m).toNatClampNeg) - 1)), (5, .int ((mFy (f).toNatClampNeg) - s)), (0, .ref 25), (1, .int m), (2, .int f), (3, .int s), (4, .int p)], [], hq g c1 c2 c3 c4 c5 c6 c7 c8 c9 c10 c11 c12 c13 c14 c15 c16 c17 c18 c19 c20 c21 c22 c23 c24 (hc25 mTy mTm mMn mFn mRn na mVn mLr mTr mFl mFm mFp mSc mMp ea) (hc26 mPa) (hc27 mTo) (hc28 mOt) (hc29 mNa) (hc30 mRe) (hc31 mMa) (hc32 mMy) (hc33 mPm) (hc34 mFy) (hc35 mFa) (hc36 mFr) (hc37 mFo) (hc38 mRt) (hc39 mRm) (hc40 ta) (hc41 ia) (hc42 la) (hc43 mVr) (hc44 mVf) (hc45 mVc) (hc46 mAr) (hc47 mTc) (hc48 mFt) (hc49 ga) dyn, 0, 0)) (h := (101, [(6, .int ((mMy (m).toNatClampNeg) - 1)), (5, .int ((mFy (f).toNatClampNeg) - s)), (0, .ref 25), (1, .int m), (2, .int f), (3, .int s), (4, .int p)], [], hq g c1 c2 c3 c4 c5 c6 c7 c8 c9 c10 c11 c12 c13 c14 c15 c16 c17 c18 c19 c20 c21 c22 c23 c24 (hc25 mTy mTm mMn mFn mRn na mVn mLr mTr mFl mFm mFp mSc mMp ea) (hc26 mPa) (hc27 mTo) (hc28 mOt) (hc29 mNa) (hc30 mRe) (hc31 mMa) (hc32 mMy) (hc33 mPm) (hc34 mFy) (hc35 mFa) (hc36 mFr) (hc37 mFo) (hc38 mRt) (hc39 mRm) (hc40 ta) (hc41 ia) (hc42 la) (hc43 mVr) (hc44 mVf) (hc45 mVc) (hc46 mAr) (hc47 mTc) (hc48 mFt) (hc49 ga) dyn, 0, 0)) rfl (fun h11 => ?_) (fun h11 => ?_)
  ·
    have h11 := qT_ne (cx := (p).toInt) (cy := 3) rfl (by decide) h11
    exfalso; omega
  have h11 := qF_ne (cx := (p).toInt) (cy := 3) rfl (by decide) h11
  refine pm_go (g := (102, _, [.ref 25], _, 0, 0)) rfl ?_
  refine pm_go (g := (103, _, [.ref 25, .ref 25], _, 0, 0)) rfl ?_
  refine pm_go (g := (106, _, [.ref 33, .ref 25], _, 0, 0)) rfl ?_
  refine pm_go (g := (107, _, [.int 3, .ref 33, .ref 25], _, 0, 0)) rfl ?_
  refine pm_go (g := (108, _, [.int m, .int 3, .ref 33, .ref 25], _, 0, 0)) rfl ?_
  refine pm_go (g := (109, _, [.int (3 * m), .ref 33, .ref 25], _, 0, 0)) rfl ?_
  try have h12 : (3 * m).toInt = 3 * (m).toInt := iMul (x := 3) (y := (m).toInt) (by decide) rfl (by omega) (by omega)
  refine pm_go (g := (111, _, [.int ((mMy (m).toNatClampNeg) - 1), .int (3 * m), .ref 33, .ref 25], _, 0, 0)) rfl ?_
  refine pm_go (g := (112, _, [.int ((3 * m) + ((mMy (m).toNatClampNeg) - 1)), .ref 33, .ref 25], _, 0, 0)) rfl ?_
  try have h13 : ((3 * m) + ((mMy (m).toNatClampNeg) - 1)).toInt = (3 * m).toInt + ((mMy (m).toNatClampNeg) - 1).toInt := iAdd (x := (3 * m).toInt) (y := ((mMy (m).toNatClampNeg) - 1).toInt) rfl rfl (by omega) (by omega)
  refine pm_sd (g := (113, _, [.int (mPm ((3 * m) + ((mMy (m).toNatClampNeg) - 1)).toNatClampNeg), .ref 25], _, 0, 0)) rfl (pm_inI (by omega) (by omega)) ?_
  refine pm_go (g := (115, _, [.int ((mFy (f).toNatClampNeg) - s), .int (mPm ((3 * m) + ((mMy (m).toNatClampNeg) - 1)).toNatClampNeg), .ref 25], _, 0, 0)) rfl ?_
  refine pm_go (g := (117, _, [.int ((mMy (m).toNatClampNeg) - 1), .int ((mFy (f).toNatClampNeg) - s), .int (mPm ((3 * m) + ((mMy (m).toNatClampNeg) - 1)).toNatClampNeg), .ref 25], _, 0, 0)) rfl ?_
  refine pm_go (g := (118, _, [.int (((mFy (f).toNatClampNeg) - s) - ((mMy (m).toNatClampNeg) - 1)), .int (mPm ((3 * m) + ((mMy (m).toNatClampNeg) - 1)).toNatClampNeg), .ref 25], _, 0, 0)) rfl ?_
  try have h14 : (((mFy (f).toNatClampNeg) - s) - ((mMy (m).toNatClampNeg) - 1)).toInt = ((mFy (f).toNatClampNeg) - s).toInt - ((mMy (m).toNatClampNeg) - 1).toInt := iSub (x := ((mFy (f).toNatClampNeg) - s).toInt) (y := ((mMy (m).toNatClampNeg) - 1).toInt) rfl rfl (by omega) (by omega)
  refine pm_callD (z := 169) (as := [.ref 25, .int (mPm ((3 * m) + ((mMy (m).toNatClampNeg) - 1)).toNatClampNeg), .int (((mFy (f).toNatClampNeg) - s) - ((mMy (m).toNatClampNeg) - 1))]) (rest := []) rfl ?_
  refine w2_X12_made (mPm ((3 * m) + ((mMy (m).toNatClampNeg) - 1)).toNatClampNeg) (((mFy (f).toNatClampNeg) - s) - ((mMy (m).toNatClampNeg) - 1)) (by omega) (fun v16_r9 v16_n9 v16_e9 v16_t9 v16_i9 v16_l9 h15 h16 => ?_)
  show pm_WP 179 (121, [(6, .int ((mMy (m).toNatClampNeg) - 1)), (5, .int ((mFy (f).toNatClampNeg) - s)), (0, .ref 25), (1, .int m), (2, .int f), (3, .int s), (4, .int p)], [.int v16_r9], _, 0, 0) _
  refine pm_go (g := (123, [(7, .int v16_r9), (6, .int ((mMy (m).toNatClampNeg) - 1)), (5, .int ((mFy (f).toNatClampNeg) - s)), (0, .ref 25), (1, .int m), (2, .int f), (3, .int s), (4, .int p)], [], _, 0, 0)) rfl ?_
  refine pm_go (g := (124, _, [.ref 25], _, 0, 0)) rfl ?_
  refine pm_go (g := (127, _, [.ref 49], _, 0, 0)) rfl ?_
  refine pm_go (g := (129, _, [.int ((mMy (m).toNatClampNeg) - 1), .ref 49], _, 0, 0)) rfl ?_
  refine pm_go (g := (131, _, [.int v16_r9, .int ((mMy (m).toNatClampNeg) - 1), .ref 49], _, 0, 0)) rfl ?_
  refine pm_sd (g := (132, _, [], hq g c1 c2 c3 c4 c5 c6 c7 c8 c9 c10 c11 c12 c13 c14 c15 c16 c17 c18 c19 c20 c21 c22 c23 c24 (hc25 mTy mTm mMn mFn mRn v16_n9 mVn mLr mTr mFl mFm mFp mSc mMp v16_e9) (hc26 mPa) (hc27 mTo) (hc28 mOt) (hc29 mNa) (hc30 mRe) (hc31 mMa) (hc32 mMy) (hc33 mPm) (hc34 mFy) (hc35 mFa) (hc36 mFr) (hc37 mFo) (hc38 mRt) (hc39 mRm) (hc40 v16_t9) (hc41 v16_i9) (hc42 v16_l9) (hc43 mVr) (hc44 mVf) (hc45 mVc) (hc46 mAr) (hc47 mTc) (hc48 mFt) (hc49 (upd ga ((mMy (m).toNatClampNeg) - 1).toNatClampNeg v16_r9)) dyn, 0, 0)) rfl (pm_inI (by omega) (by omega)) ?_
  refine pm_go (g := (134, _, [.int ((mMy (m).toNatClampNeg) - 1)], _, 0, 0)) rfl ?_
  refine pm_go (g := (136, [(8, .int ((mMy (m).toNatClampNeg) - 1)), (7, .int v16_r9), (6, .int ((mMy (m).toNatClampNeg) - 1)), (5, .int ((mFy (f).toNatClampNeg) - s)), (0, .ref 25), (1, .int m), (2, .int f), (3, .int s), (4, .int p)], [], _, 0, 0)) rfl ?_
  refine pm_sub (lv := [(8, .int ((mMy (m).toNatClampNeg) - 1)), (7, .int v16_r9), (6, .int ((mMy (m).toNatClampNeg) - 1)), (5, .int ((mFy (f).toNatClampNeg) - s)), (0, .ref 25), (1, .int m), (2, .int f), (3, .int s), (4, .int p)]) ?_ ⟨le_c (List.Mem.head _) (le_c (List.Mem.tail _ (List.Mem.head _)) (le_c (List.Mem.tail _ (List.Mem.tail _ (List.Mem.head _))) (le_c (List.Mem.tail _ (List.Mem.tail _ (List.Mem.tail _ (List.Mem.head _)))) (le_c (List.Mem.tail _ (List.Mem.tail _ (List.Mem.tail _ (List.Mem.tail _ (List.Mem.head _))))) (le_c (List.Mem.tail _ (List.Mem.tail _ (List.Mem.tail _ (List.Mem.tail _ (List.Mem.tail _ (List.Mem.head _)))))) (le_c (List.Mem.tail _ (List.Mem.tail _ (List.Mem.tail _ (List.Mem.tail _ (List.Mem.tail _ (List.Mem.tail _ (List.Mem.head _))))))) (le_c (List.Mem.tail _ (List.Mem.tail _ (List.Mem.tail _ (List.Mem.tail _ (List.Mem.tail _ (List.Mem.tail _ (List.Mem.tail _ (List.Mem.head _)))))))) (le_c (List.Mem.tail _ (List.Mem.tail _ (List.Mem.tail _ (List.Mem.tail _ (List.Mem.tail _ (List.Mem.tail _ (List.Mem.tail _ (List.Mem.tail _ (List.Mem.head _))))))))) le_n)))))))), (show ([8, 7, 6, 5, 0, 1, 2, 3, 4] : List Nat).Nodup by decide)⟩
  have hxn := xN (x := (mMy (m).toNatClampNeg) - 1) (by omega)
  have hnn := xN (x := (mFy (f).toNatClampNeg) - s) (by omega)
  have hnix : nI ((mMy (m).toNatClampNeg) - 1).toNatClampNeg = (mMy (m).toNatClampNeg) - 1 := xJ (by rw [nI_toInt (by omega)]; omega)
  refine pm_sub8 hnix ?_
  refine w_give_2 (mTn := mTn) (mEn := mEn) (mTt := mTt) (mTi := mTi) (mPl := mPl) m f s p ((mFy (f).toNatClampNeg) - s) ((mMy (m).toNatClampNeg) - 1) v16_r9 p0 p1 p2 (by omega) (by omega) (by omega) (by omega) (by omega) p5 (by omega) 5 ((mMy (m).toNatClampNeg) - 1).toNatClampNeg _ _ _ _ _ (by omega) (by omega) (by omega) (by omega) (fun n9 e9 t9 i9 l9 q1 q2 => k0 _ _ _ _ _ _ ?_ (by omega))
  rw [q1]; unfold gvF; rw [if_neg (by omega)]; dsimp only
  rw [show (gv1 mAr mFa mPm m f s ((mMy (m).toNatClampNeg) - 1).toNatClampNeg 0 (mGo, mTn, mEn, mTt, mTi, mPl)) = (ga, na, ea, ta, ia, la) from hq1.symm]
  dsimp only; rw [← h15]
end
