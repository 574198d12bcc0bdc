/-- the sum over a row's places -/
def suI (pl : Nat → Int32) (g : Int32) : Nat → Nat → Int32 → Int32
  | 0, _, v => v
  | n + 1, i, v => suI pl g n (i + 1) (v + pl (20 * g + nI i).toNatClampNeg)
def suT (ti go : Nat → Int32) (k : Int32) (t v : Int32) : Int32 := v + (if t.toInt = 10 then go k.toNatClampNeg else if t.toInt = 1 ∧ (go k.toNatClampNeg).toInt ≠ 0 then ti (go k.toNatClampNeg).toNatClampNeg else 0)
def suS (ti pl go : Nat → Int32) (last : Prop) [Decidable last] (k t v : Int32) : Int32 := if t.toInt = 30 ∧ last ∧ (go k.toNatClampNeg).toInt ≠ 0 then suI pl (go k.toNatClampNeg) (ti (go k.toNatClampNeg).toNatClampNeg).toNatClampNeg 0 (suT ti go k t v) else suT ti go k t v
def suO (ma my pm ti pl go : Nat → Int32) (m : Int32) : Nat → Nat → Int32 → Int32
  | 0, _, v => v
  | n + 1, k, v => suO ma my pm ti pl go m n (k + 1) (suS ti pl go ((k : Int) = (my m.toNatClampNeg).toInt - 1 ∧ (ma m.toNatClampNeg &&& 4).toInt ≠ 0) (nI k) (pm (3 * m + nI k).toNatClampNeg) v)
/-- the reference's sumOf -/
def suF (ma my pm ti pl go : Nat → Int32) (m : Int32) : Int32 := suO ma my pm ti pl go m (my m.toNatClampNeg).toNatClampNeg 0 (100 * m)
/-- what was handed on can be summed -/
def gtD (my pm ti go : Nat → Int32) (m : Int32) : Prop := ∀ k : Nat, (k : Int) < (my m.toNatClampNeg).toInt → ((pm (3 * m + nI k).toNatClampNeg).toInt = 1 → 0 ≤ (go (nI k).toNatClampNeg).toInt ∧ (go (nI k).toNatClampNeg).toInt ≤ 60) ∧ ((pm (3 * m + nI k).toNatClampNeg).toInt = 30 → (go (nI k).toNatClampNeg).toInt ≠ 0 → (0 ≤ (go (nI k).toNatClampNeg).toInt ∧ (go (nI k).toNatClampNeg).toInt ≤ 60) ∧ 0 ≤ (ti (go (nI k).toNatClampNeg).toNatClampNeg).toInt ∧ (ti (go (nI k).toNatClampNeg).toNatClampNeg).toInt ≤ 20)
theorem su_1 {ti go : Nat → Int32} {k t v : Int32} (h : t.toInt = 10) : suT ti go k t v = v + go k.toNatClampNeg := by unfold suT; rw [if_pos h]
theorem su_2 {ti go : Nat → Int32} {k t v : Int32} (h : t.toInt ≠ 10) (h2 : t.toInt = 1 ∧ (go k.toNatClampNeg).toInt ≠ 0) : suT ti go k t v = v + ti (go k.toNatClampNeg).toNatClampNeg := by unfold suT; rw [if_neg h, if_pos h2]
theorem su_3 {ti go : Nat → Int32} {k t v : Int32} (h : t.toInt ≠ 10) (h2 : ¬ (t.toInt = 1 ∧ (go k.toNatClampNeg).toInt ≠ 0)) : suT ti go k t v = v + 0 := by unfold suT; rw [if_neg h, if_neg h2]
set_option maxRecDepth 100000 in
set_option maxHeartbeats 4000000 in
theorem w_sumOf_in {g c1 c2 c3 c4 c5 c6 c7 c8 c9 c10 c11 c12 c13 c14 c15 c16 c17 c18 c19 c20 c21 c22 c23 c24 : pm_C} {dyn : pm_H} {mTy : Int32} {mPa : Nat → Int32} {mTo : Nat → Int32} {mTm : Int32} {mMn : Int32} {mOt : Nat → Int32} {mNa : Nat → Int32} {mRe : Nat → Int32} {mMa : Nat → Int32} {mMy : Nat → Int32} {mPm : Nat → Int32} {mFn : Int32} {mFy : Nat → Int32} {mFa : Nat → Int32} {mFr : Nat → Int32} {mRn : Int32} {mFo : Nat → Int32} {mRt : Nat → Int32} {mRm : Nat → Int32} {mTn : Int32} {mTt : Nat → Int32} {mTi : Nat → Int32} {mPl : Nat → Int32} {mVn : Int32} {mVr : Nat → Int32} {mVf : Nat → Int32} {mVc : Nat → Int32} {mAr : Nat → Int32} {mLr : Int32} {mTc : Nat → Int32} {mTr : Int32} {mFl : Int32} {mFt : Nat → Int32} {mFm : Int32} {mFp : Int32} {mSc : Int32} {mMp : Int32} {mEn : Int32} {mGo : Nat → Int32} {Q : pm_Q} (m a : Int32) (hm : 0 ≤ m.toInt ∧ m.toInt < 40) (ha : 0 ≤ a.toInt ∧ a.toInt < 3) (hg : 0 ≤ (mGo (a).toNatClampNeg).toInt ∧ (mGo (a).toNatClampNeg).toInt ≤ 60) (ht : 0 ≤ (mTi (mGo (a).toNatClampNeg).toNatClampNeg).toInt ∧ (mTi (mGo (a).toNatClampNeg).toNatClampNeg).toInt ≤ 20) : ∀ (n k : Nat) (v : Int32), ((k : Int) ≤ (mTi (mGo (a).toNatClampNeg).toNatClampNeg).toInt) → (20 < k + n) → (pm_WP 180 (160, [(3, .int a), (2, .int (suI mPl (mGo (a).toNatClampNeg) ((mTi (mGo (a).toNatClampNeg).toNatClampNeg).toNatClampNeg - k) k v)), (0, .ref 25), (1, .int m)], [], hq g c1 c2 c3 c4 c5 c6 c7 c8 c9 c10 c11 c12 c13 c14 c15 c16 c17 c18 c19 c20 c21 c22 c23 c24 (hc25 mTy mTm mMn mFn mRn mTn mVn mLr mTr mFl mFm mFp mSc mMp mEn) (hc26 mPa) (hc27 mTo) (hc28 mOt) (hc29 mNa) (hc30 mRe) (hc31 mMa) (hc32 mMy) (hc33 mPm) (hc34 mFy) (hc35 mFa) (hc36 mFr) (hc37 mFo) (hc38 mRt) (hc39 mRm) (hc40 mTt) (hc41 mTi) (hc42 mPl) (hc43 mVr) (hc44 mVf) (hc45 mVc) (hc46 mAr) (hc47 mTc) (hc48 mFt) (hc49 mGo) dyn, 0, 0) Q) → pm_WP 180 (118, [(5, .int (nI k)), (3, .int a), (2, .int v), (0, .ref 25), (1, .int m)], [], hq g c1 c2 c3 c4 c5 c6 c7 c8 c9 c10 c11 c12 c13 c14 c15 c16 c17 c18 c19 c20 c21 c22 c23 c24 (hc25 mTy mTm mMn mFn mRn mTn mVn mLr mTr mFl mFm mFp mSc mMp mEn) (hc26 mPa) (hc27 mTo) (hc28 mOt) (hc29 mNa) (hc30 mRe) (hc31 mMa) (hc32 mMy) (hc33 mPm) (hc34 mFy) (hc35 mFa) (hc36 mFr) (hc37 mFo) (hc38 mRt) (hc39 mRm) (hc40 mTt) (hc41 mTi) (hc42 mPl) (hc43 mVr) (hc44 mVf) (hc45 mVc) (hc46 mAr) (hc47 mTc) (hc48 mFt) (hc49 mGo) dyn, 0, 0) Q := by
  intro n
  induction n with
  | zero =>
    intro k v g1 g2 k0
    exfalso; omega
  | succ n ih =>
    intro k v g1 g2 k0
    have hk := nI_toInt (n := k) (by omega)
    have hkc : (nI k).toNatClampNeg = k := nI_clamp (by omega)
    have hxx := xN ht.1
    refine pm_go (g := (120, [(5, .int (nI k)), (3, .int a), (2, .int v), (0, .ref 25), (1, .int m)], [.int (nI k)], hq g c1 c2 c3 c4 c5 c6 c7 c8 c9 c10 c11 c12 c13 c14 c15 c16 c17 c18 c19 c20 c21 c22 c23 c24 (hc25 mTy mTm mMn mFn mRn mTn mVn mLr mTr mFl mFm mFp mSc mMp mEn) (hc26 mPa) (hc27 mTo) (hc28 mOt) (hc29 mNa) (hc30 mRe) (hc31 mMa) (hc32 mMy) (hc33 mPm) (hc34 mFy) (hc35 mFa) (hc36 mFr) (hc37 mFo) (hc38 mRt) (hc39 mRm) (hc40 mTt) (hc41 mTi) (hc42 mPl) (hc43 mVr) (hc44 mVf) (hc45 mVc) (hc46 mAr) (hc47 mTc) (hc48 mFt) (hc49 mGo) dyn, 0, 0)) rfl ?_
    refine pm_go (g := (121, _, [.ref 25, .int (nI k)], _, 0, 0)) rfl ?_
    refine pm_go (g := (124, _, [.ref 41, .int (nI k)], _, 0, 0)) rfl ?_
    refine pm_go (g := (125, _, [.ref 25, .ref 41, .int (nI k)], _, 0, 0)) rfl ?_
    refine pm_go (g := (128, _, [.ref 49, .ref 41, .int (nI k)], _, 0, 0)) rfl ?_
    refine pm_go (g := (129, _, [.int a, .ref 49, .ref 41, .int (nI k)], _, 0, 0)) rfl ?_
    refine pm_sd (g := (130, _, [.int (mGo (a).toNatClampNeg), .ref 41, .int (nI k)], _, 0, 0)) rfl (pm_inI (by omega) (by omega)) ?_
    refine pm_sd (g := (131, _, [.int (mTi (mGo (a).toNatClampNeg).toNatClampNeg), .int (nI k)], _, 0, 0)) rfl (pm_inI (by omega) (by omega)) ?_
    refine pm_if2 (g := (160, [(5, .int (nI k)), (3, .int a), (2, .int v), (0, .ref 25), (1, .int m)], [], hq g c1 c2 c3 c4 c5 c6 c7 c8 c9 c10 c11 c12 c13 c14 c15 c16 c17 c18 c19 c20 c21 c22 c23 c24 (hc25 mTy mTm mMn mFn mRn mTn mVn mLr mTr mFl mFm mFp mSc mMp mEn) (hc26 mPa) (hc27 mTo) (hc28 mOt) (hc29 mNa) (hc30 mRe) (hc31 mMa) (hc32 mMy) (hc33 mPm) (hc34 mFy) (hc35 mFa) (hc36 mFr) (hc37 mFo) (hc38 mRt) (hc39 mRm) (hc40 mTt) (hc41 mTi) (hc42 mPl) (hc43 mVr) (hc44 mVf) (hc45 mVc) (hc46 mAr) (hc47 mTc) (hc48 mFt) (hc49 mGo) dyn, 0, 0)) (h := (134, [(5, .int (nI k)), (3, .int a), (2, .int v), (0, .ref 25), (1, .int m)], [], hq g c1 c2 c3 c4 c5 c6 c7 c8 c9 c10 c11 c12 c13 c14 c15 c16 c17 c18 c19 c20 c21 c22 c23 c24 (hc25 mTy mTm mMn mFn mRn mTn mVn mLr mTr mFl mFm mFp mSc mMp mEn) (hc26 mPa) (hc27 mTo) (hc28 mOt) (hc29 mNa) (hc30 mRe) (hc31 mMa) (hc32 mMy) (hc33 mPm) (hc34 mFy) (hc35 mFa) (hc36 mFr) (hc37 mFo) (hc38 mRt) (hc39 mRm) (hc40 mTt) (hc41 mTi) (hc42 mPl) (hc43 mVr) (hc44 mVf) (hc45 mVc) (hc46 mAr) (hc47 mTc) (hc48 mFt) (hc49 mGo) dyn, 0, 0)) rfl (fun h1 => ?_) (fun h1 => ?_)
    ·
      have h1 := qT_ge (cx := (nI k).toInt) (cy := (mTi (mGo (a).toNatClampNeg).toNatClampNeg).toInt) rfl rfl h1
      refine pm_sub (lv := [(3, .int a), (2, .int v), (0, .ref 25), (1, .int m)]) ?_ ⟨le_c (List.Mem.tail _ (List.Mem.head _)) (le_c (List.Mem.tail _ (List.Mem.tail _ (List.Mem.head _))) (le_c (List.Mem.tail _ (List.Mem.tail _ (List.Mem.tail _ (List.Mem.head _)))) (le_c (List.Mem.tail _ (List.Mem.tail _ (List.Mem.tail _ (List.Mem.tail _ (List.Mem.head _))))) le_n))), (show ([5, 3, 2, 0, 1] : List Nat).Nodup by decide)⟩
      rw [show (mTi (mGo (a).toNatClampNeg).toNatClampNeg).toNatClampNeg - k = 0 by omega] at k0
      exact k0
    have h1 := qF_ge (cx := (nI k).toInt) (cy := (mTi (mGo (a).toNatClampNeg).toNatClampNeg).toInt) rfl rfl h1
    refine pm_go (g := (135, _, [.int v], _, 0, 0)) rfl ?_
    refine pm_go (g := (136, _, [.ref 25, .int v], _, 0, 0)) rfl ?_
    refine pm_go (g := (139, _, [.ref 42, .int v], _, 0, 0)) rfl ?_
    refine pm_go (g := (141, _, [.int 20, .ref 42, .int v], _, 0, 0)) rfl ?_
    refine pm_go (g := (142, _, [.ref 25, .int 20, .ref 42, .int v], _, 0, 0)) rfl ?_
    refine pm_go (g := (145, _, [.ref 49, .int 20, .ref 42, .int v], _, 0, 0)) rfl ?_
    refine pm_go (g := (146, _, [.int a, .ref 49, .int 20, .ref 42, .int v], _, 0, 0)) rfl ?_
    refine pm_sd (g := (147, _, [.int (mGo (a).toNatClampNeg), .int 20, .ref 42, .int v], _, 0, 0)) rfl (pm_inI (by omega) (by omega)) ?_
    refine pm_go (g := (148, _, [.int (20 * (mGo (a).toNatClampNeg)), .ref 42, .int v], _, 0, 0)) rfl ?_
    try have h2 : (20 * (mGo (a).toNatClampNeg)).toInt = 20 * (mGo (a).toNatClampNeg).toInt := iMul (x := 20) (y := (mGo (a).toNatClampNeg).toInt) (by decide) rfl (by omega) (by omega)
    refine pm_go (g := (150, _, [.int (nI k), .int (20 * (mGo (a).toNatClampNeg)), .ref 42, .int v], _, 0, 0)) rfl ?_
    refine pm_go (g := (151, _, [.int ((20 * (mGo (a).toNatClampNeg)) + (nI k)), .ref 42, .int v], _, 0, 0)) rfl ?_
    try have h3 : ((20 * (mGo (a).toNatClampNeg)) + (nI k)).toInt = (20 * (mGo (a).toNatClampNeg)).toInt + (nI k).toInt := iAdd (x := (20 * (mGo (a).toNatClampNeg)).toInt) (y := (nI k).toInt) rfl rfl (by omega) (by omega)
    refine pm_sd (g := (152, _, [.int (mPl ((20 * (mGo (a).toNatClampNeg)) + (nI k)).toNatClampNeg), .int v], _, 0, 0)) rfl (pm_inI (by omega) (by omega)) ?_
    refine pm_go (g := (153, _, [.int (v + (mPl ((20 * (mGo (a).toNatClampNeg)) + (nI k)).toNatClampNeg))], _, 0, 0)) rfl ?_
    try have h4 : (v + (mPl ((20 * (mGo (a).toNatClampNeg)) + (nI k)).toNatClampNeg)).toInt = (v).toInt + (mPl ((20 * (mGo (a).toNatClampNeg)) + (nI k)).toNatClampNeg).toInt := iAdd (x := (v).toInt) (y := (mPl ((20 * (mGo (a).toNatClampNeg)) + (nI k)).toNatClampNeg).toInt) rfl rfl (by omega) (by omega)
    refine pm_go (g := (154, [(2, .int (v + (mPl ((20 * (mGo (a).toNatClampNeg)) + (nI k)).toNatClampNeg))), (5, .int (nI k)), (3, .int a), (0, .ref 25), (1, .int m)], [], _, 0, 0)) rfl ?_
    refine pm_go (g := (157, [(5, .int ((nI k) + 1)), (2, .int (v + (mPl ((20 * (mGo (a).toNatClampNeg)) + (nI k)).toNatClampNeg))), (3, .int a), (0, .ref 25), (1, .int m)], [], _, 0, 0)) rfl ?_
    refine pm_go (g := (118, _, [], _, 0, 0)) rfl ?_
    refine pm_sub (lv := [(5, .int ((nI k) + 1)), (3, .int a), (2, .int (v + (mPl ((20 * (mGo (a).toNatClampNeg)) + (nI k)).toNatClampNeg))), (0, .ref 25), (1, .int m)]) ?_ ⟨le_c (List.Mem.head _) (le_c (List.Mem.tail _ (List.Mem.tail _ (List.Mem.head _))) (le_c (List.Mem.tail _ (List.Mem.head _)) (le_c (List.Mem.tail _ (List.Mem.tail _ (List.Mem.tail _ (List.Mem.head _)))) (le_c (List.Mem.tail _ (List.Mem.tail _ (List.Mem.tail _ (List.Mem.tail _ (List.Mem.head _))))) le_n)))), (show ([5, 2, 3, 0, 1] : List Nat).Nodup by decide)⟩
    rw [nI_1]
    refine ih (k + 1) (v + (mPl ((20 * (mGo (a).toNatClampNeg)) + (nI k)).toNatClampNeg)) (by omega) (by omega) ?_
    rw [show (mTi (mGo (a).toNatClampNeg).toNatClampNeg).toNatClampNeg - k = ((mTi (mGo (a).toNatClampNeg).toNatClampNeg).toNatClampNeg - (k + 1)) + 1 by omega] at k0
    exact k0
set_option maxRecDepth 100000 in
set_option maxHeartbeats 4000000 in
theorem w_sumOf_loop {g c1 c2 c3 c4 c5 c6 c7 c8 c9 c10 c11 c12 c13 c14 c15 c16 c17 c18 c19 c20 c21 c22 c23 c24 : pm_C} {dyn : pm_H} {mTy : Int32} {mPa : Nat → Int32} {mTo : Nat → Int32} {mTm : Int32} {mMn : Int32} {mOt : Nat → Int32} {mNa : Nat → Int32} {mRe : Nat → Int32} {mMa : Nat → Int32} {mMy : Nat → Int32} {mPm : Nat → Int32} {mFn : Int32} {mFy : Nat → Int32} {mFa : Nat → Int32} {mFr : Nat → Int32} {mRn : Int32} {mFo : Nat → Int32} {mRt : Nat → Int32} {mRm : Nat → Int32} {mTn : Int32} {mTt : Nat → Int32} {mTi : Nat → Int32} {mPl : Nat → Int32} {mVn : Int32} {mVr : Nat → Int32} {mVf : Nat → Int32} {mVc : Nat → Int32} {mAr : Nat → Int32} {mLr : Int32} {mTc : Nat → Int32} {mTr : Int32} {mFl : Int32} {mFt : Nat → Int32} {mFm : Int32} {mFp : Int32} {mSc : Int32} {mMp : Int32} {mEn : Int32} {mGo : Nat → Int32} {Q : pm_Q} (m : Int32) (hm : 0 ≤ m.toInt ∧ m.toInt < 40) (hmy : 0 ≤ (mMy m.toNatClampNeg).toInt ∧ (mMy m.toNatClampNeg).toInt ≤ 3) (hg : gtD mMy mPm mTi mGo m) : ∀ (n k : Nat) (v : Int32), ((k : Int) ≤ (mMy m.toNatClampNeg).toInt) → (3 < k + n) → (Q (some (.int (suO mMa mMy mPm mTi mPl mGo m ((mMy m.toNatClampNeg).toNatClampNeg - k) k v))) (hq g c1 c2 c3 c4 c5 c6 c7 c8 c9 c10 c11 c12 c13 c14 c15 c16 c17 c18 c19 c20 c21 c22 c23 c24 (hc25 mTy mTm mMn mFn mRn mTn mVn mLr mTr mFl mFm mFp mSc mMp mEn) (hc26 mPa) (hc27 mTo) (hc28 mOt) (hc29 mNa) (hc30 mRe) (hc31 mMa) (hc32 mMy) (hc33 mPm) (hc34 mFy) (hc35 mFa) (hc36 mFr) (hc37 mFo) (hc38 mRt) (hc39 mRm) (hc40 mTt) (hc41 mTi) (hc42 mPl) (hc43 mVr) (hc44 mVf) (hc45 mVc) (hc46 mAr) (hc47 mTc) (hc48 mFt) (hc49 mGo) dyn)) → pm_WP 180 (7, [(3, .int (nI k)), (2, .int v), (0, .ref 25), (1, .int m)], [], hq g c1 c2 c3 c4 c5 c6 c7 c8 c9 c10 c11 c12 c13 c14 c15 c16 c17 c18 c19 c20 c21 c22 c23 c24 (hc25 mTy mTm mMn mFn mRn mTn mVn mLr mTr mFl mFm mFp mSc mMp mEn) (hc26 mPa) (hc27 mTo) (hc28 mOt) (hc29 mNa) (hc30 mRe) (hc31 mMa) (hc32 mMy) (hc33 mPm) (hc34 mFy) (hc35 mFa) (hc36 mFr) (hc37 mFo) (hc38 mRt) (hc39 mRm) (hc40 mTt) (hc41 mTi) (hc42 mPl) (hc43 mVr) (hc44 mVf) (hc45 mVc) (hc46 mAr) (hc47 mTc) (hc48 mFt) (hc49 mGo) dyn, 0, 0) Q := by
  intro n
  induction n with
  | zero =>
    intro k v g1 g2 k0
    exfalso; omega
  | succ n ih =>
    intro k v g1 g2 k0
    have hk := nI_toInt (n := k) (by omega)
    have hkc : (nI k).toNatClampNeg = k := nI_clamp (by omega)
    have hxx := xN hmy.1
    have hgk0 := fun q => hg k q
    refine pm_go (g := (8, [(3, .int (nI k)), (2, .int v), (0, .ref 25), (1, .int m)], [.int (nI k)], hq g c1 c2 c3 c4 c5 c6 c7 c8 c9 c10 c11 c12 c13 c14 c15 c16 c17 c18 c19 c20 c21 c22 c23 c24 (hc25 mTy mTm mMn mFn mRn mTn mVn mLr mTr mFl mFm mFp mSc mMp mEn) (hc26 mPa) (hc27 mTo) (hc28 mOt) (hc29 mNa) (hc30 mRe) (hc31 mMa) (hc32 mMy) (hc33 mPm) (hc34 mFy) (hc35 mFa) (hc36 mFr) (hc37 mFo) (hc38 mRt) (hc39 mRm) (hc40 mTt) (hc41 mTi) (hc42 mPl) (hc43 mVr) (hc44 mVf) (hc45 mVc) (hc46 mAr) (hc47 mTc) (hc48 mFt) (hc49 mGo) dyn, 0, 0)) rfl ?_
    refine pm_go (g := (9, _, [.ref 25, .int (nI k)], _, 0, 0)) rfl ?_
    refine pm_go (g := (12, _, [.ref 32, .int (nI k)], _, 0, 0)) rfl ?_
    refine pm_go (g := (13, _, [.int m, .ref 32, .int (nI k)], _, 0, 0)) rfl ?_
    refine pm_sd (g := (14, _, [.int (mMy (m).toNatClampNeg), .int (nI k)], _, 0, 0)) rfl (pm_inI (by omega) (by omega)) ?_
    refine pm_if2 (g := (166, [(3, .int (nI k)), (2, .int v), (0, .ref 25), (1, .int m)], [], hq g c1 c2 c3 c4 c5 c6 c7 c8 c9 c10 c11 c12 c13 c14 c15 c16 c17 c18 c19 c20 c21 c22 c23 c24 (hc25 mTy mTm mMn mFn mRn mTn mVn mLr mTr mFl mFm mFp mSc mMp mEn) (hc26 mPa) (hc27 mTo) (hc28 mOt) (hc29 mNa) (hc30 mRe) (hc31 mMa) (hc32 mMy) (hc33 mPm) (hc34 mFy) (hc35 mFa) (hc36 mFr) (hc37 mFo) (hc38 mRt) (hc39 mRm) (hc40 mTt) (hc41 mTi) (hc42 mPl) (hc43 mVr) (hc44 mVf) (hc45 mVc) (hc46 mAr) (hc47 mTc) (hc48 mFt) (hc49 mGo) dyn, 0, 0)) (h := (17, [(3, .int (nI k)), (2, .int v), (0, .ref 25), (1, .int m)], [], hq g c1 c2 c3 c4 c5 c6 c7 c8 c9 c10 c11 c12 c13 c14 c15 c16 c17 c18 c19 c20 c21 c22 c23 c24 (hc25 mTy mTm mMn mFn mRn mTn mVn mLr mTr mFl mFm mFp mSc mMp mEn) (hc26 mPa) (hc27 mTo) (hc28 mOt) (hc29 mNa) (hc30 mRe) (hc31 mMa) (hc32 mMy) (hc33 mPm) (hc34 mFy) (hc35 mFa) (hc36 mFr) (hc37 mFo) (hc38 mRt) (hc39 mRm) (hc40 mTt) (hc41 mTi) (hc42 mPl) (hc43 mVr) (hc44 mVf) (hc45 mVc) (hc46 mAr) (hc47 mTc) (hc48 mFt) (hc49 mGo) dyn, 0, 0)) rfl (fun h1 => ?_) (fun h1 => ?_)
    ·
      have h1 := qT_ge (cx := (nI k).toInt) (cy := (mMy (m).toNatClampNeg).toInt) rfl rfl h1
      refine pm_go (g := (167, _, [.int v], _, 0, 0)) rfl ?_
      rw [show (mMy m.toNatClampNeg).toNatClampNeg - k = 0 by omega] at k0
      exact pm_ret rfl k0
    have h1 := qF_ge (cx := (nI k).toInt) (cy := (mMy (m).toNatClampNeg).toInt) rfl rfl h1
    refine pm_go (g := (18, _, [.ref 25], _, 0, 0)) rfl ?_
    refine pm_go (g := (21, _, [.ref 33], _, 0, 0)) rfl ?_
    refine pm_go (g := (22, _, [.int 3, .ref 33], _, 0, 0)) rfl ?_
    refine pm_go (g := (23, _, [.int m, .int 3, .ref 33], _, 0, 0)) rfl ?_
    refine pm_go (g := (24, _, [.int (3 * m), .ref 33], _, 0, 0)) rfl ?_
    try have h2 : (3 * m).toInt = 3 * (m).toInt := iMul (x := 3) (y := (m).toInt) (by decide) rfl (by omega) (by omega)
    refine pm_go (g := (25, _, [.int (nI k), .int (3 * m), .ref 33], _, 0, 0)) rfl ?_
    refine pm_go (g := (26, _, [.int ((3 * m) + (nI k)), .ref 33], _, 0, 0)) rfl ?_
    try have h3 : ((3 * m) + (nI k)).toInt = (3 * m).toInt + (nI k).toInt := iAdd (x := (3 * m).toInt) (y := (nI k).toInt) rfl rfl (by omega) (by omega)
    refine pm_sd (g := (27, _, [.int (mPm ((3 * m) + (nI k)).toNatClampNeg)], _, 0, 0)) rfl (pm_inI (by omega) (by omega)) ?_
    refine pm_go (g := (29, [(4, .int (mPm ((3 * m) + (nI k)).toNatClampNeg)), (3, .int (nI k)), (2, .int v), (0, .ref 25), (1, .int m)], [], _, 0, 0)) rfl ?_
    refine pm_go (g := (30, _, [.int v], _, 0, 0)) rfl ?_
    refine pm_go (g := (32, _, [.int (mPm ((3 * m) + (nI k)).toNatClampNeg), .int v], _, 0, 0)) rfl ?_
    refine pm_go (g := (34, _, [.int 10, .int (mPm ((3 * m) + (nI k)).toNatClampNeg), .int v], _, 0, 0)) rfl ?_
    refine pm_if2 (g := (46, [(4, .int (mPm ((3 * m) + (nI k)).toNatClampNeg)), (3, .int (nI k)), (2, .int v), (0, .ref 25), (1, .int m)], [.int v], hq g c1 c2 c3 c4 c5 c6 c7 c8 c9 c10 c11 c12 c13 c14 c15 c16 c17 c18 c19 c20 c21 c22 c23 c24 (hc25 mTy mTm mMn mFn mRn mTn mVn mLr mTr mFl mFm mFp mSc mMp mEn) (hc26 mPa) (hc27 mTo) (hc28 mOt) (hc29 mNa) (hc30 mRe) (hc31 mMa) (hc32 mMy) (hc33 mPm) (hc34 mFy) (hc35 mFa) (hc36 mFr) (hc37 mFo) (hc38 mRt) (hc39 mRm) (hc40 mTt) (hc41 mTi) (hc42 mPl) (hc43 mVr) (hc44 mVf) (hc45 mVc) (hc46 mAr) (hc47 mTc) (hc48 mFt) (hc49 mGo) dyn, 0, 0)) (h := (37, [(4, .int (mPm ((3 * m) + (nI k)).toNatClampNeg)), (3, .int (nI k)), (2, .int v), (0, .ref 25), (1, .int m)], [.int v], hq g c1 c2 c3 c4 c5 c6 c7 c8 c9 c10 c11 c12 c13 c14 c15 c16 c17 c18 c19 c20 c21 c22 c23 c24 (hc25 mTy mTm mMn mFn mRn mTn mVn mLr mTr mFl mFm mFp mSc mMp mEn) (hc26 mPa) (hc27 mTo) (hc28 mOt) (hc29 mNa) (hc30 mRe) (hc31 mMa) (hc32 mMy) (hc33 mPm) (hc34 mFy) (hc35 mFa) (hc36 mFr) (hc37 mFo) (hc38 mRt) (hc39 mRm) (hc40 mTt) (hc41 mTi) (hc42 mPl) (hc43 mVr) (hc44 mVf) (hc45 mVc) (hc46 mAr) (hc47 mTc) (hc48 mFt) (hc49 mGo) dyn, 0, 0)) rfl (fun h4 => ?_) (fun h4 => ?_)
    ·
      have h4 := qT_ne (cx := (mPm ((3 * m) + (nI k)).toNatClampNeg).toInt) (cy := 10) rfl (by decide) h4
      refine pm_go (g := (48, _, [.int (mPm ((3 * m) + (nI k)).toNatClampNeg), .int v], _, 0, 0)) rfl ?_
      refine pm_go (g := (49, _, [.int 1, .int (mPm ((3 * m) + (nI k)).toNatClampNeg), .int v], _, 0, 0)) rfl ?_
      refine pm_if2 (g := (75, [(4, .int (mPm ((3 * m) + (nI k)).toNatClampNeg)), (3, .int (nI k)), (2, .int v), (0, .ref 25), (1, .int m)], [.int v], hq g c1 c2 c3 c4 c5 c6 c7 c8 c9 c10 c11 c12 c13 c14 c15 c16 c17 c18 c19 c20 c21 c22 c23 c24 (hc25 mTy mTm mMn mFn mRn mTn mVn mLr mTr mFl mFm mFp mSc mMp mEn) (hc26 mPa) (hc27 mTo) (hc28 mOt) (hc29 mNa) (hc30 mRe) (hc31 mMa) (hc32 mMy) (hc33 mPm) (hc34 mFy) (hc35 mFa) (hc36 mFr) (hc37 mFo) (hc38 mRt) (hc39 mRm) (hc40 mTt) (hc41 mTi) (hc42 mPl) (hc43 mVr) (hc44 mVf) (hc45 mVc) (hc46 mAr) (hc47 mTc) (hc48 mFt) (hc49 mGo) dyn, 0, 0)) (h := (52, [(4, .int (mPm ((3 * m) + (nI k)).toNatClampNeg)), (3, .int (nI k)), (2, .int v), (0, .ref 25), (1, .int m)], [.int v], hq g c1 c2 c3 c4 c5 c6 c7 c8 c9 c10 c11 c12 c13 c14 c15 c16 c17 c18 c19 c20 c21 c22 c23 c24 (hc25 mTy mTm mMn mFn mRn mTn mVn mLr mTr mFl mFm mFp mSc mMp mEn) (hc26 mPa) (hc27 mTo) (hc28 mOt) (hc29 mNa) (hc30 mRe) (hc31 mMa) (hc32 mMy) (hc33 mPm) (hc34 mFy) (hc35 mFa) (hc36 mFr) (hc37 mFo) (hc38 mRt) (hc39 mRm) (hc40 mTt) (hc41 mTi) (hc42 mPl) (hc43 mVr) (hc44 mVf) (hc45 mVc) (hc46 mAr) (hc47 mTc) (hc48 mFt) (hc49 mGo) dyn, 0, 0)) rfl (fun h5 => ?_) (fun h5 => ?_)
      ·
        have h5 := qT_ne (cx := (mPm ((3 * m) + (nI k)).toNatClampNeg).toInt) (cy := 1) rfl (by decide) h5
        refine pm_go (g := (76, _, [.int 0, .int v], _, 0, 0)) rfl ?_
        refine pm_go (g := (77, _, [.int (v + 0)], _, 0, 0)) rfl ?_
        try have h6 : (v + 0).toInt = (v).toInt + 0 := iAdd (x := (v).toInt) (y := 0) rfl (by decide) (by omega) (by omega)
        refine pm_go (g := (78, [(2, .int (v + 0)), (4, .int (mPm ((3 * m) + (nI k)).toNatClampNeg)), (3, .int (nI k)), (0, .ref 25), (1, .int m)], [], _, 0, 0)) rfl ?_
        refine pm_go (g := (80, _, [.int (mPm ((3 * m) + (nI k)).toNatClampNeg)], _, 0, 0)) rfl ?_
        refine pm_go (g := (82, _, [.int 30, .int (mPm ((3 * m) + (nI k)).toNatClampNeg)], _, 0, 0)) rfl ?_
        refine pm_if2 (g := (160, [(2, .int (v + 0)), (4, .int (mPm ((3 * m) + (nI k)).toNatClampNeg)), (3, .int (nI k)), (0, .ref 25), (1, .int m)], [], hq g c1 c2 c3 c4 c5 c6 c7 c8 c9 c10 c11 c12 c13 c14 c15 c16 c17 c18 c19 c20 c21 c22 c23 c24 (hc25 mTy mTm mMn mFn mRn mTn mVn mLr mTr mFl mFm mFp mSc mMp mEn) (hc26 mPa) (hc27 mTo) (hc28 mOt) (hc29 mNa) (hc30 mRe) (hc31 mMa) (hc32 mMy) (hc33 mPm) (hc34 mFy) (hc35 mFa) (hc36 mFr) (hc37 mFo) (hc38 mRt) (hc39 mRm) (hc40 mTt) (hc41 mTi) (hc42 mPl) (hc43 mVr) (hc44 mVf) (hc45 mVc) (hc46 mAr) (hc47 mTc) (hc48 mFt) (hc49 mGo) dyn, 0, 0)) (h := (85, [(2, .int (v + 0)), (4, .int (mPm ((3 * m) + (nI k)).toNatClampNeg)), (3, .int (nI k)), (0, .ref 25), (1, .int m)], [], hq g c1 c2 c3 c4 c5 c6 c7 c8 c9 c10 c11 c12 c13 c14 c15 c16 c17 c18 c19 c20 c21 c22 c23 c24 (hc25 mTy mTm mMn mFn mRn mTn mVn mLr mTr mFl mFm mFp mSc mMp mEn) (hc26 mPa) (hc27 mTo) (hc28 mOt) (hc29 mNa) (hc30 mRe) (hc31 mMa) (hc32 mMy) (hc33 mPm) (hc34 mFy) (hc35 mFa) (hc36 mFr) (hc37 mFo) (hc38 mRt) (hc39 mRm) (hc40 mTt) (hc41 mTi) (hc42 mPl) (hc43 mVr) (hc44 mVf) (hc45 mVc) (hc46 mAr) (hc47 mTc) (hc48 mFt) (hc49 mGo) dyn, 0, 0)) rfl (fun h7 => ?_) (fun h7 => ?_)
        ·
          have h7 := qT_ne (cx := (mPm ((3 * m) + (nI k)).toNatClampNeg).toInt) (cy := 30) rfl (by decide) h7
          refine pm_go (g := (163, [(3, .int ((nI k) + 1)), (2, .int (v + 0)), (4, .int (mPm ((3 * m) + (nI k)).toNatClampNeg)), (0, .ref 25), (1, .int m)], [], _, 0, 0)) rfl ?_
          refine pm_go (g := (7, _, [], _, 0, 0)) rfl ?_
          refine pm_sub (lv := [(3, .int ((nI k) + 1)), (2, .int (v + 0)), (0, .ref 25), (1, .int m)]) ?_ ⟨le_c (List.Mem.head _) (le_c (List.Mem.tail _ (List.Mem.head _)) (le_c (List.Mem.tail _ (List.Mem.tail _ (List.Mem.tail _ (List.Mem.head _)))) (le_c (List.Mem.tail _ (List.Mem.tail _ (List.Mem.tail _ (List.Mem.tail _ (List.Mem.head _))))) le_n))), (show ([3, 2, 4, 0, 1] : List Nat).Nodup by decide)⟩
          rw [nI_1]
          have hT : suS mTi mPl mGo ((k : Int) = (mMy m.toNatClampNeg).toInt - 1 ∧ (mMa m.toNatClampNeg &&& 4).toInt ≠ 0) (nI k) (mPm (3 * m + nI k).toNatClampNeg) v = v + 0 := by
            unfold suS
            first | rw [if_pos ⟨by omega, by omega, by omega⟩] | rw [if_neg (by rintro ⟨q1, q2, q3⟩; omega)]
            first | rw [su_1 (by omega)] | rw [su_2 (by omega) (by omega)] | rw [su_3 (by omega) (by omega)]
          refine ih (k + 1) (v + 0) (by omega) (by omega) ?_
          rw [show (mMy m.toNatClampNeg).toNatClampNeg - k = ((mMy m.toNatClampNeg).toNatClampNeg - (k + 1)) + 1 by omega] at k0
          rw [← hT]; exact k0
        have h7 := qF_ne (cx := (mPm ((3 * m) + (nI k)).toNatClampNeg).toInt) (cy := 30) rfl (by decide) h7
        refine pm_go (g := (86, [(2, .int (v + 0)), (4, .int (mPm ((3 * m) + (nI k)).toNatClampNeg)), (3, .int (nI k)), (0, .ref 25), (1, .int m)], [.int (nI k)], _, 0, 0)) rfl ?_
        refine pm_go (g := (87, _, [.ref 25, .int (nI k)], _, 0, 0)) rfl ?_
        refine pm_go (g := (90, _, [.ref 32, .int (nI k)], _, 0, 0)) rfl ?_
        refine pm_go (g := (91, _, [.int m, .ref 32, .int (nI k)], _, 0, 0)) rfl ?_
        refine pm_sd (g := (92, _, [.int (mMy (m).toNatClampNeg), .int (nI k)], _, 0, 0)) rfl (pm_inI (by omega) (by omega)) ?_
        refine pm_go (g := (93, _, [.int 1, .int (mMy (m).toNatClampNeg), .int (nI k)], _, 0, 0)) rfl ?_
        refine pm_go (g := (94, _, [.int ((mMy (m).toNatClampNeg) - 1), .int (nI k)], _, 0, 0)) rfl ?_
        try have h8 : ((mMy (m).toNatClampNeg) - 1).toInt = (mMy (m).toNatClampNeg).toInt - 1 := iSub (x := (mMy (m).toNatClampNeg).toInt) (y := 1) rfl (by decide) (by omega) (by omega)
        refine pm_if2 (g := (160, [(2, .int (v + 0)), (4, .int (mPm ((3 * m) + (nI k)).toNatClampNeg)), (3, .int (nI k)), (0, .ref 25), (1, .int m)], [], hq g c1 c2 c3 c4 c5 c6 c7 c8 c9 c10 c11 c12 c13 c14 c15 c16 c17 c18 c19 c20 c21 c22 c23 c24 (hc25 mTy mTm mMn mFn mRn mTn mVn mLr mTr mFl mFm mFp mSc mMp mEn) (hc26 mPa) (hc27 mTo) (hc28 mOt) (hc29 mNa) (hc30 mRe) (hc31 mMa) (hc32 mMy) (hc33 mPm) (hc34 mFy) (hc35 mFa) (hc36 mFr) (hc37 mFo) (hc38 mRt) (hc39 mRm) (hc40 mTt) (hc41 mTi) (hc42 mPl) (hc43 mVr) (hc44 mVf) (hc45 mVc) (hc46 mAr) (hc47 mTc) (hc48 mFt) (hc49 mGo) dyn, 0, 0)) (h := (97, [(2, .int (v + 0)), (4, .int (mPm ((3 * m) + (nI k)).toNatClampNeg)), (3, .int (nI k)), (0, .ref 25), (1, .int m)], [], hq g c1 c2 c3 c4 c5 c6 c7 c8 c9 c10 c11 c12 c13 c14 c15 c16 c17 c18 c19 c20 c21 c22 c23 c24 (hc25 mTy mTm mMn mFn mRn mTn mVn mLr mTr mFl mFm mFp mSc mMp mEn) (hc26 mPa) (hc27 mTo) (hc28 mOt) (hc29 mNa) (hc30 mRe) (hc31 mMa) (hc32 mMy) (hc33 mPm) (hc34 mFy) (hc35 mFa) (hc36 mFr) (hc37 mFo) (hc38 mRt) (hc39 mRm) (hc40 mTt) (hc41 mTi) (hc42 mPl) (hc43 mVr) (hc44 mVf) (hc45 mVc) (hc46 mAr) (hc47 mTc) (hc48 mFt) (hc49 mGo) dyn, 0, 0)) rfl (fun h9 => ?_) (fun h9 => ?_)
        ·
          have h9 := qT_ne (cx := (nI k).toInt) (cy := ((mMy (m).toNatClampNeg) - 1).toInt) rfl rfl h9
          refine pm_go (g := (163, [(3, .int ((nI k) + 1)), (2, .int (v + 0)), (4, .int (mPm ((3 * m) + (nI k)).toNatClampNeg)), (0, .ref 25), (1, .int m)], [], _, 0, 0)) rfl ?_
          refine pm_go (g := (7, _, [], _, 0, 0)) rfl ?_
          refine pm_sub (lv := [(3, .int ((nI k) + 1)), (2, .int (v + 0)), (0, .ref 25), (1, .int m)]) ?_ ⟨le_c (List.Mem.head _) (le_c (List.Mem.tail _ (List.Mem.head _)) (le_c (List.Mem.tail _ (List.Mem.tail _ (List.Mem.tail _ (List.Mem.head _)))) (le_c (List.Mem.tail _ (List.Mem.tail _ (List.Mem.tail _ (List.Mem.tail _ (List.Mem.head _))))) le_n))), (show ([3, 2, 4, 0, 1] : List Nat).Nodup by decide)⟩
          rw [nI_1]
          have hT : suS mTi mPl mGo ((k : Int) = (mMy m.toNatClampNeg).toInt - 1 ∧ (mMa m.toNatClampNeg &&& 4).toInt ≠ 0) (nI k) (mPm (3 * m + nI k).toNatClampNeg) v = v + 0 := by
            unfold suS
            first | rw [if_pos ⟨by omega, by omega, by omega⟩] | rw [if_neg (by rintro ⟨q1, q2, q3⟩; omega)]
            first | rw [su_1 (by omega)] | rw [su_2 (by omega) (by omega)] | rw [su_3 (by omega) (by omega)]
          refine ih (k + 1) (v + 0) (by omega) (by omega) ?_
          rw [show (mMy m.toNatClampNeg).toNatClampNeg - k = ((mMy m.toNatClampNeg).toNatClampNeg - (k + 1)) + 1 by omega] at k0
          rw [← hT]; exact k0
        have h9 := qF_ne (cx := (nI k).toInt) (cy := ((mMy (m).toNatClampNeg) - 1).toInt) rfl rfl h9
        refine pm_go (g := (98, [(2, .int (v + 0)), (4, .int (mPm ((3 * m) + (nI k)).toNatClampNeg)), (3, .int (nI k)), (0, .ref 25), (1, .int m)], [.ref 25], _, 0, 0)) rfl ?_
        refine pm_go (g := (99, _, [.int m, .ref 25], _, 0, 0)) rfl ?_
        refine pm_go (g := (100, _, [.int 4, .int m, .ref 25], _, 0, 0)) rfl ?_
        refine pm_callD (z := 139) (as := [.ref 25, .int m, .int 4]) (rest := []) rfl ?_
        have h10 : (4 : Int32).toInt = 4 := by decide
        refine w_X12_isMark m 4 (by omega) (fun h11 => ?_) (fun h12 => ?_)
        ·
          show pm_WP 180 (103, [(2, .int (v + 0)), (4, .int (mPm ((3 * m) + (nI k)).toNatClampNeg)), (3, .int (nI k)), (0, .ref 25), (1, .int m)], [.int 1], _, 0, 0) _
          refine pm_brF (h := (106, [(2, .int (v + 0)), (4, .int (mPm ((3 * m) + (nI k)).toNatClampNeg)), (3, .int (nI k)), (0, .ref 25), (1, .int m)], [], hq g c1 c2 c3 c4 c5 c6 c7 c8 c9 c10 c11 c12 c13 c14 c15 c16 c17 c18 c19 c20 c21 c22 c23 c24 (hc25 mTy mTm mMn mFn mRn mTn mVn mLr mTr mFl mFm mFp mSc mMp mEn) (hc26 mPa) (hc27 mTo) (hc28 mOt) (hc29 mNa) (hc30 mRe) (hc31 mMa) (hc32 mMy) (hc33 mPm) (hc34 mFy) (hc35 mFa) (hc36 mFr) (hc37 mFo) (hc38 mRt) (hc39 mRm) (hc40 mTt) (hc41 mTi) (hc42 mPl) (hc43 mVr) (hc44 mVf) (hc45 mVc) (hc46 mAr) (hc47 mTc) (hc48 mFt) (hc49 mGo) dyn, 0, 0)) rfl ?_
          refine pm_go (g := (107, _, [.ref 25], _, 0, 0)) rfl ?_
          refine pm_go (g := (110, _, [.ref 49], _, 0, 0)) rfl ?_
          refine pm_go (g := (111, _, [.int (nI k), .ref 49], _, 0, 0)) rfl ?_
          refine pm_sd (g := (112, _, [.int (mGo (nI k).toNatClampNeg)], _, 0, 0)) rfl (pm_inI (by omega) (by omega)) ?_
          refine pm_if2 (g := (160, [(2, .int (v + 0)), (4, .int (mPm ((3 * m) + (nI k)).toNatClampNeg)), (3, .int (nI k)), (0, .ref 25), (1, .int m)], [], hq g c1 c2 c3 c4 c5 c6 c7 c8 c9 c10 c11 c12 c13 c14 c15 c16 c17 c18 c19 c20 c21 c22 c23 c24 (hc25 mTy mTm mMn mFn mRn mTn mVn mLr mTr mFl mFm mFp mSc mMp mEn) (hc26 mPa) (hc27 mTo) (hc28 mOt) (hc29 mNa) (hc30 mRe) (hc31 mMa) (hc32 mMy) (hc33 mPm) (hc34 mFy) (hc35 mFa) (hc36 mFr) (hc37 mFo) (hc38 mRt) (hc39 mRm) (hc40 mTt) (hc41 mTi) (hc42 mPl) (hc43 mVr) (hc44 mVf) (hc45 mVc) (hc46 mAr) (hc47 mTc) (hc48 mFt) (hc49 mGo) dyn, 0, 0)) (h := (115, [(2, .int (v + 0)), (4, .int (mPm ((3 * m) + (nI k)).toNatClampNeg)), (3, .int (nI k)), (0, .ref 25), (1, .int m)], [], hq g c1 c2 c3 c4 c5 c6 c7 c8 c9 c10 c11 c12 c13 c14 c15 c16 c17 c18 c19 c20 c21 c22 c23 c24 (hc25 mTy mTm mMn mFn mRn mTn mVn mLr mTr mFl mFm mFp mSc mMp mEn) (hc26 mPa) (hc27 mTo) (hc28 mOt) (hc29 mNa) (hc30 mRe) (hc31 mMa) (hc32 mMy) (hc33 mPm) (hc34 mFy) (hc35 mFa) (hc36 mFr) (hc37 mFo) (hc38 mRt) (hc39 mRm) (hc40 mTt) (hc41 mTi) (hc42 mPl) (hc43 mVr) (hc44 mVf) (hc45 mVc) (hc46 mAr) (hc47 mTc) (hc48 mFt) (hc49 mGo) dyn, 0, 0)) rfl (fun h14 => ?_) (fun h14 => ?_)
          ·
            have h14 := qT_eq (cx := (mGo (nI k).toNatClampNeg).toInt) (cy := 0) rfl (by decide) h14
            refine pm_go (g := (163, [(3, .int ((nI k) + 1)), (2, .int (v + 0)), (4, .int (mPm ((3 * m) + (nI k)).toNatClampNeg)), (0, .ref 25), (1, .int m)], [], _, 0, 0)) rfl ?_
            refine pm_go (g := (7, _, [], _, 0, 0)) rfl ?_
            refine pm_sub (lv := [(3, .int ((nI k) + 1)), (2, .int (v + 0)), (0, .ref 25), (1, .int m)]) ?_ ⟨le_c (List.Mem.head _) (le_c (List.Mem.tail _ (List.Mem.head _)) (le_c (List.Mem.tail _ (List.Mem.tail _ (List.Mem.tail _ (List.Mem.head _)))) (le_c (List.Mem.tail _ (List.Mem.tail _ (List.Mem.tail _ (List.Mem.tail _ (List.Mem.head _))))) le_n))), (show ([3, 2, 4, 0, 1] : List Nat).Nodup by decide)⟩
            rw [nI_1]
            have hT : suS mTi mPl mGo ((k : Int) = (mMy m.toNatClampNeg).toInt - 1 ∧ (mMa m.toNatClampNeg &&& 4).toInt ≠ 0) (nI k) (mPm (3 * m + nI k).toNatClampNeg) v = v + 0 := by
              unfold suS
              first | rw [if_pos ⟨by omega, by omega, by omega⟩] | rw [if_neg (by rintro ⟨q1, q2, q3⟩; omega)]
              first | rw [su_1 (by omega)] | rw [su_2 (by omega) (by omega)] | rw [su_3 (by omega) (by omega)]
            refine ih (k + 1) (v + 0) (by omega) (by omega) ?_
            rw [show (mMy m.toNatClampNeg).toNatClampNeg - k = ((mMy m.toNatClampNeg).toNatClampNeg - (k + 1)) + 1 by omega] at k0
            rw [← hT]; exact k0
          have h14 := qF_eq (cx := (mGo (nI k).toNatClampNeg).toInt) (cy := 0) rfl (by decide) h14
          refine pm_go (g := (116, [(2, .int (v + 0)), (4, .int (mPm ((3 * m) + (nI k)).toNatClampNeg)), (3, .int (nI k)), (0, .ref 25), (1, .int m)], [.int 0], _, 0, 0)) rfl ?_
          refine pm_go (g := (118, [(5, .int 0), (2, .int (v + 0)), (4, .int (mPm ((3 * m) + (nI k)).toNatClampNeg)), (3, .int (nI k)), (0, .ref 25), (1, .int m)], [], _, 0, 0)) rfl ?_
          refine pm_sub (lv := [(5, .int 0), (3, .int (nI k)), (2, .int (v + 0)), (0, .ref 25), (1, .int m)]) ?_ ⟨le_c (List.Mem.head _) (le_c (List.Mem.tail _ (List.Mem.tail _ (List.Mem.tail _ (List.Mem.head _)))) (le_c (List.Mem.tail _ (List.Mem.head _)) (le_c (List.Mem.tail _ (List.Mem.tail _ (List.Mem.tail _ (List.Mem.tail _ (List.Mem.head _))))) (le_c (List.Mem.tail _ (List.Mem.tail _ (List.Mem.tail _ (List.Mem.tail _ (List.Mem.tail _ (List.Mem.head _)))))) le_n)))), (show ([5, 2, 4, 3, 0, 1] : List Nat).Nodup by decide)⟩
          have hgk := hgk0 (by omega)
          have hgk2 := hgk.2 (by omega) (by omega)
          refine w_sumOf_in m (nI k) hm (by omega) hgk2.1 hgk2.2 21 0 (v + 0) (by omega) (by omega) ?_
          show pm_WP 180 (160, [(3, .int (nI k)), (2, .int (suI mPl (mGo (nI k).toNatClampNeg) ((mTi (mGo (nI k).toNatClampNeg).toNatClampNeg).toNatClampNeg - 0) 0 (v + 0))), (0, .ref 25), (1, .int m)], [], _, 0, 0) _
          refine pm_go (g := (163, [(3, .int ((nI k) + 1)), (2, .int (suI mPl (mGo (nI k).toNatClampNeg) ((mTi (mGo (nI k).toNatClampNeg).toNatClampNeg).toNatClampNeg - 0) 0 (v + 0))), (0, .ref 25), (1, .int m)], [], _, 0, 0)) rfl ?_
          refine pm_go (g := (7, _, [], _, 0, 0)) rfl ?_
          refine pm_sub (lv := [(3, .int ((nI k) + 1)), (2, .int (suI mPl (mGo (nI k).toNatClampNeg) ((mTi (mGo (nI k).toNatClampNeg).toNatClampNeg).toNatClampNeg - 0) 0 (v + 0))), (0, .ref 25), (1, .int m)]) ?_ ⟨le_c (List.Mem.head _) (le_c (List.Mem.tail _ (List.Mem.head _)) (le_c (List.Mem.tail _ (List.Mem.tail _ (List.Mem.head _))) (le_c (List.Mem.tail _ (List.Mem.tail _ (List.Mem.tail _ (List.Mem.head _)))) le_n))), (show ([3, 2, 0, 1] : List Nat).Nodup by decide)⟩
          rw [nI_1]
          have hT : suS mTi mPl mGo ((k : Int) = (mMy m.toNatClampNeg).toInt - 1 ∧ (mMa m.toNatClampNeg &&& 4).toInt ≠ 0) (nI k) (mPm (3 * m + nI k).toNatClampNeg) v = suI mPl (mGo (nI k).toNatClampNeg) ((mTi (mGo (nI k).toNatClampNeg).toNatClampNeg).toNatClampNeg - 0) 0 (v + 0) := by
            unfold suS
            first | rw [if_pos ⟨by omega, by omega, by omega⟩] | rw [if_neg (by rintro ⟨q1, q2, q3⟩; omega)]
            first | rw [su_1 (by omega)] | rw [su_2 (by omega) (by omega)] | rw [su_3 (by omega) (by omega)]
            rfl
          refine ih (k + 1) (suI mPl (mGo (nI k).toNatClampNeg) ((mTi (mGo (nI k).toNatClampNeg).toNatClampNeg).toNatClampNeg - 0) 0 (v + 0)) (by omega) (by omega) ?_
          rw [show (mMy m.toNatClampNeg).toNatClampNeg - k = ((mMy m.toNatClampNeg).toNatClampNeg - (k + 1)) + 1 by omega] at k0
          rw [← hT]; exact k0
        show pm_WP 180 (103, [(2, .int (v + 0)), (4, .int (mPm ((3 * m) + (nI k)).toNatClampNeg)), (3, .int (nI k)), (0, .ref 25), (1, .int m)], [.int 0], hq g c1 c2 c3 c4 c5 c6 c7 c8 c9 c10 c11 c12 c13 c14 c15 c16 c17 c18 c19 c20 c21 c22 c23 c24 (hc25 mTy mTm mMn mFn mRn mTn mVn mLr mTr mFl mFm mFp mSc mMp mEn) (hc26 mPa) (hc27 mTo) (hc28 mOt) (hc29 mNa) (hc30 mRe) (hc31 mMa) (hc32 mMy) (hc33 mPm) (hc34 mFy) (hc35 mFa) (hc36 mFr) (hc37 mFo) (hc38 mRt) (hc39 mRm) (hc40 mTt) (hc41 mTi) (hc42 mPl) (hc43 mVr) (hc44 mVf) (hc45 mVc) (hc46 mAr) (hc47 mTc) (hc48 mFt) (hc49 mGo) dyn, 0, 0) _
        refine pm_brT (g := (160, [(2, .int (v + 0)), (4, .int (mPm ((3 * m) + (nI k)).toNatClampNeg)), (3, .int (nI k)), (0, .ref 25), (1, .int m)], [], hq g c1 c2 c3 c4 c5 c6 c7 c8 c9 c10 c11 c12 c13 c14 c15 c16 c17 c18 c19 c20 c21 c22 c23 c24 (hc25 mTy mTm mMn mFn mRn mTn mVn mLr mTr mFl mFm mFp mSc mMp mEn) (hc26 mPa) (hc27 mTo) (hc28 mOt) (hc29 mNa) (hc30 mRe) (hc31 mMa) (hc32 mMy) (hc33 mPm) (hc34 mFy) (hc35 mFa) (hc36 mFr) (hc37 mFo) (hc38 mRt) (hc39 mRm) (hc40 mTt) (hc41 mTi) (hc42 mPl) (hc43 mVr) (hc44 mVf) (hc45 mVc) (hc46 mAr) (hc47 mTc) (hc48 mFt) (hc49 mGo) dyn, 0, 0)) rfl ?_
        refine pm_go (g := (163, [(3, .int ((nI k) + 1)), (2, .int (v + 0)), (4, .int (mPm ((3 * m) + (nI k)).toNatClampNeg)), (0, .ref 25), (1, .int m)], [], _, 0, 0)) rfl ?_
        refine pm_go (g := (7, _, [], _, 0, 0)) rfl ?_
        refine pm_sub (lv := [(3, .int ((nI k) + 1)), (2, .int (v + 0)), (0, .ref 25), (1, .int m)]) ?_ ⟨le_c (List.Mem.head _) (le_c (List.Mem.tail _ (List.Mem.head _)) (le_c (List.Mem.tail _ (List.Mem.tail _ (List.Mem.tail _ (List.Mem.head _)))) (le_c (List.Mem.tail _ (List.Mem.tail _ (List.Mem.tail _ (List.Mem.tail _ (List.Mem.head _))))) le_n))), (show ([3, 2, 4, 0, 1] : List Nat).Nodup by decide)⟩
        rw [nI_1]
        have hT : suS mTi mPl mGo ((k : Int) = (mMy m.toNatClampNeg).toInt - 1 ∧ (mMa m.toNatClampNeg &&& 4).toInt ≠ 0) (nI k) (mPm (3 * m + nI k).toNatClampNeg) v = v + 0 := by
          unfold suS
          first | rw [if_pos ⟨by omega, by omega, by omega⟩] | rw [if_neg (by rintro ⟨q1, q2, q3⟩; omega)]
          first | rw [su_1 (by omega)] | rw [su_2 (by omega) (by omega)] | rw [su_3 (by omega) (by omega)]
        refine ih (k + 1) (v + 0) (by omega) (by omega) ?_
        rw [show (mMy m.toNatClampNeg).toNatClampNeg - k = ((mMy m.toNatClampNeg).toNatClampNeg - (k + 1)) + 1 by omega] at k0
        rw [← hT]; exact k0
      have h5 := qF_ne (cx := (mPm ((3 * m) + (nI k)).toNatClampNeg).toInt) (cy := 1) rfl (by decide) h5
      refine pm_go (g := (53, [(4, .int (mPm ((3 * m) + (nI k)).toNatClampNeg)), (3, .int (nI k)), (2, .int v), (0, .ref 25), (1, .int m)], [.ref 25, .int v], _, 0, 0)) rfl ?_
      refine pm_go (g := (56, _, [.ref 49, .int v], _, 0, 0)) rfl ?_
      refine pm_go (g := (57, _, [.int (nI k), .ref 49, .int v], _, 0, 0)) rfl ?_
      refine pm_sd (g := (58, _, [.int (mGo (nI k).toNatClampNeg), .int v], _, 0, 0)) rfl (pm_inI (by omega) (by omega)) ?_
      refine pm_if2 (g := (75, [(4, .int (mPm ((3 * m) + (nI k)).toNatClampNeg)), (3, .int (nI k)), (2, .int v), (0, .ref 25), (1, .int m)], [.int v], hq g c1 c2 c3 c4 c5 c6 c7 c8 c9 c10 c11 c12 c13 c14 c15 c16 c17 c18 c19 c20 c21 c22 c23 c24 (hc25 mTy mTm mMn mFn mRn mTn mVn mLr mTr mFl mFm mFp mSc mMp mEn) (hc26 mPa) (hc27 mTo) (hc28 mOt) (hc29 mNa) (hc30 mRe) (hc31 mMa) (hc32 mMy) (hc33 mPm) (hc34 mFy) (hc35 mFa) (hc36 mFr) (hc37 mFo) (hc38 mRt) (hc39 mRm) (hc40 mTt) (hc41 mTi) (hc42 mPl) (hc43 mVr) (hc44 mVf) (hc45 mVc) (hc46 mAr) (hc47 mTc) (hc48 mFt) (hc49 mGo) dyn, 0, 0)) (h := (61, [(4, .int (mPm ((3 * m) + (nI k)).toNatClampNeg)), (3, .int (nI k)), (2, .int v), (0, .ref 25), (1, .int m)], [.int v], hq g c1 c2 c3 c4 c5 c6 c7 c8 c9 c10 c11 c12 c13 c14 c15 c16 c17 c18 c19 c20 c21 c22 c23 c24 (hc25 mTy mTm mMn mFn mRn mTn mVn mLr mTr mFl mFm mFp mSc mMp mEn) (hc26 mPa) (hc27 mTo) (hc28 mOt) (hc29 mNa) (hc30 mRe) (hc31 mMa) (hc32 mMy) (hc33 mPm) (hc34 mFy) (hc35 mFa) (hc36 mFr) (hc37 mFo) (hc38 mRt) (hc39 mRm) (hc40 mTt) (hc41 mTi) (hc42 mPl) (hc43 mVr) (hc44 mVf) (hc45 mVc) (hc46 mAr) (hc47 mTc) (hc48 mFt) (hc49 mGo) dyn, 0, 0)) rfl (fun h15 => ?_) (fun h15 => ?_)
      ·
        have h15 := qT_eq (cx := (mGo (nI k).toNatClampNeg).toInt) (cy := 0) rfl (by decide) h15
        refine pm_go (g := (76, _, [.int 0, .int v], _, 0, 0)) rfl ?_
        refine pm_go (g := (77, _, [.int (v + 0)], _, 0, 0)) rfl ?_
        try have h16 : (v + 0).toInt = (v).toInt + 0 := iAdd (x := (v).toInt) (y := 0) rfl (by decide) (by omega) (by omega)
        refine pm_go (g := (78, [(2, .int (v + 0)), (4, .int (mPm ((3 * m) + (nI k)).toNatClampNeg)), (3, .int (nI k)), (0, .ref 25), (1, .int m)], [], _, 0, 0)) rfl ?_
        refine pm_go (g := (80, _, [.int (mPm ((3 * m) + (nI k)).toNatClampNeg)], _, 0, 0)) rfl ?_
        refine pm_go (g := (82, _, [.int 30, .int (mPm ((3 * m) + (nI k)).toNatClampNeg)], _, 0, 0)) rfl ?_
        refine pm_if2 (g := (160, [(2, .int (v + 0)), (4, .int (mPm ((3 * m) + (nI k)).toNatClampNeg)), (3, .int (nI k)), (0, .ref 25), (1, .int m)], [], hq g c1 c2 c3 c4 c5 c6 c7 c8 c9 c10 c11 c12 c13 c14 c15 c16 c17 c18 c19 c20 c21 c22 c23 c24 (hc25 mTy mTm mMn mFn mRn mTn mVn mLr mTr mFl mFm mFp mSc mMp mEn) (hc26 mPa) (hc27 mTo) (hc28 mOt) (hc29 mNa) (hc30 mRe) (hc31 mMa) (hc32 mMy) (hc33 mPm) (hc34 mFy) (hc35 mFa) (hc36 mFr) (hc37 mFo) (hc38 mRt) (hc39 mRm) (hc40 mTt) (hc41 mTi) (hc42 mPl) (hc43 mVr) (hc44 mVf) (hc45 mVc) (hc46 mAr) (hc47 mTc) (hc48 mFt) (hc49 mGo) dyn, 0, 0)) (h := (85, [(2, .int (v + 0)), (4, .int (mPm ((3 * m) + (nI k)).toNatClampNeg)), (3, .int (nI k)), (0, .ref 25), (1, .int m)], [], hq g c1 c2 c3 c4 c5 c6 c7 c8 c9 c10 c11 c12 c13 c14 c15 c16 c17 c18 c19 c20 c21 c22 c23 c24 (hc25 mTy mTm mMn mFn mRn mTn mVn mLr mTr mFl mFm mFp mSc mMp mEn) (hc26 mPa) (hc27 mTo) (hc28 mOt) (hc29 mNa) (hc30 mRe) (hc31 mMa) (hc32 mMy) (hc33 mPm) (hc34 mFy) (hc35 mFa) (hc36 mFr) (hc37 mFo) (hc38 mRt) (hc39 mRm) (hc40 mTt) (hc41 mTi) (hc42 mPl) (hc43 mVr) (hc44 mVf) (hc45 mVc) (hc46 mAr) (hc47 mTc) (hc48 mFt) (hc49 mGo) dyn, 0, 0)) rfl (fun h17 => ?_) (fun h17 => ?_)
        ·
          have h17 := qT_ne (cx := (mPm ((3 * m) + (nI k)).toNatClampNeg).toInt) (cy := 30) rfl (by decide) h17
          refine pm_go (g := (163, [(3, .int ((nI k) + 1)), (2, .int (v + 0)), (4, .int (mPm ((3 * m) + (nI k)).toNatClampNeg)), (0, .ref 25), (1, .int m)], [], _, 0, 0)) rfl ?_
          refine pm_go (g := (7, _, [], _, 0, 0)) rfl ?_
          refine pm_sub (lv := [(3, .int ((nI k) + 1)), (2, .int (v + 0)), (0, .ref 25), (1, .int m)]) ?_ ⟨le_c (List.Mem.head _) (le_c (List.Mem.tail _ (List.Mem.head _)) (le_c (List.Mem.tail _ (List.Mem.tail _ (List.Mem.tail _ (List.Mem.head _)))) (le_c (List.Mem.tail _ (List.Mem.tail _ (List.Mem.tail _ (List.Mem.tail _ (List.Mem.head _))))) le_n))), (show ([3, 2, 4, 0, 1] : List Nat).Nodup by decide)⟩
          rw [nI_1]
          have hT : suS mTi mPl mGo ((k : Int) = (mMy m.toNatClampNeg).toInt - 1 ∧ (mMa m.toNatClampNeg &&& 4).toInt ≠ 0) (nI k) (mPm (3 * m + nI k).toNatClampNeg) v = v + 0 := by
            unfold suS
            first | rw [if_pos ⟨by omega, by omega, by omega⟩] | rw [if_neg (by rintro ⟨q1, q2, q3⟩; omega)]
            first | rw [su_1 (by omega)] | rw [su_2 (by omega) (by omega)] | rw [su_3 (by omega) (by omega)]
          refine ih (k + 1) (v + 0) (by omega) (by omega) ?_
          rw [show (mMy m.toNatClampNeg).toNatClampNeg - k = ((mMy m.toNatClampNeg).toNatClampNeg - (k + 1)) + 1 by omega] at k0
          rw [← hT]; exact k0
        have h17 := qF_ne (cx := (mPm ((3 * m) + (nI k)).toNatClampNeg).toInt) (cy := 30) rfl (by decide) h17
        exfalso; omega
      have h15 := qF_eq (cx := (mGo (nI k).toNatClampNeg).toInt) (cy := 0) rfl (by decide) h15
      refine pm_go (g := (62, [(4, .int (mPm ((3 * m) + (nI k)).toNatClampNeg)), (3, .int (nI k)), (2, .int v), (0, .ref 25), (1, .int m)], [.ref 25, .int v], _, 0, 0)) rfl ?_
      refine pm_go (g := (65, _, [.ref 41, .int v], _, 0, 0)) rfl ?_
      refine pm_go (g := (66, _, [.ref 25, .ref 41, .int v], _, 0, 0)) rfl ?_
      refine pm_go (g := (69, _, [.ref 49, .ref 41, .int v], _, 0, 0)) rfl ?_
      refine pm_go (g := (70, _, [.int (nI k), .ref 49, .ref 41, .int v], _, 0, 0)) rfl ?_
      refine pm_sd (g := (71, _, [.int (mGo (nI k).toNatClampNeg), .ref 41, .int v], _, 0, 0)) rfl (pm_inI (by omega) (by omega)) ?_
      refine pm_sd (g := (72, _, [.int (mTi (mGo (nI k).toNatClampNeg).toNatClampNeg), .int v], _, 0, 0)) rfl (pm_inI (by omega) (by omega)) ?_
      refine pm_go (g := (76, _, [.int (mTi (mGo (nI k).toNatClampNeg).toNatClampNeg), .int v], _, 0, 0)) rfl ?_
      refine pm_go (g := (77, _, [.int (v + (mTi (mGo (nI k).toNatClampNeg).toNatClampNeg))], _, 0, 0)) rfl ?_
      try have h18 : (v + (mTi (mGo (nI k).toNatClampNeg).toNatClampNeg)).toInt = (v).toInt + (mTi (mGo (nI k).toNatClampNeg).toNatClampNeg).toInt := iAdd (x := (v).toInt) (y := (mTi (mGo (nI k).toNatClampNeg).toNatClampNeg).toInt) rfl rfl (by omega) (by omega)
      refine pm_go (g := (78, [(2, .int (v + (mTi (mGo (nI k).toNatClampNeg).toNatClampNeg))), (4, .int (mPm ((3 * m) + (nI k)).toNatClampNeg)), (3, .int (nI k)), (0, .ref 25), (1, .int m)], [], _, 0, 0)) rfl ?_
      refine pm_go (g := (80, _, [.int (mPm ((3 * m) + (nI k)).toNatClampNeg)], _, 0, 0)) rfl ?_
      refine pm_go (g := (82, _, [.int 30, .int (mPm ((3 * m) + (nI k)).toNatClampNeg)], _, 0, 0)) rfl ?_
      refine pm_if2 (g := (160, [(2, .int (v + (mTi (mGo (nI k).toNatClampNeg).toNatClampNeg))), (4, .int (mPm ((3 * m) + (nI k)).toNatClampNeg)), (3, .int (nI k)), (0, .ref 25), (1, .int m)], [], hq g c1 c2 c3 c4 c5 c6 c7 c8 c9 c10 c11 c12 c13 c14 c15 c16 c17 c18 c19 c20 c21 c22 c23 c24 (hc25 mTy mTm mMn mFn mRn mTn mVn mLr mTr mFl mFm mFp mSc mMp mEn) (hc26 mPa) (hc27 mTo) (hc28 mOt) (hc29 mNa) (hc30 mRe) (hc31 mMa) (hc32 mMy) (hc33 mPm) (hc34 mFy) (hc35 mFa) (hc36 mFr) (hc37 mFo) (hc38 mRt) (hc39 mRm) (hc40 mTt) (hc41 mTi) (hc42 mPl) (hc43 mVr) (hc44 mVf) (hc45 mVc) (hc46 mAr) (hc47 mTc) (hc48 mFt) (hc49 mGo) dyn, 0, 0)) (h := (85, [(2, .int (v + (mTi (mGo (nI k).toNatClampNeg).toNatClampNeg))), (4, .int (mPm ((3 * m) + (nI k)).toNatClampNeg)), (3, .int (nI k)), (0, .ref 25), (1, .int m)], [], hq g c1 c2 c3 c4 c5 c6 c7 c8 c9 c10 c11 c12 c13 c14 c15 c16 c17 c18 c19 c20 c21 c22 c23 c24 (hc25 mTy mTm mMn mFn mRn mTn mVn mLr mTr mFl mFm mFp mSc mMp mEn) (hc26 mPa) (hc27 mTo) (hc28 mOt) (hc29 mNa) (hc30 mRe) (hc31 mMa) (hc32 mMy) (hc33 mPm) (hc34 mFy) (hc35 mFa) (hc36 mFr) (hc37 mFo) (hc38 mRt) (hc39 mRm) (hc40 mTt) (hc41 mTi) (hc42 mPl) (hc43 mVr) (hc44 mVf) (hc45 mVc) (hc46 mAr) (hc47 mTc) (hc48 mFt) (hc49 mGo) dyn, 0, 0)) rfl (fun h19 => ?_) (fun h19 => ?_)
      ·
        have h19 := qT_ne (cx := (mPm ((3 * m) + (nI k)).toNatClampNeg).toInt) (cy := 30) rfl (by decide) h19
        refine pm_go (g := (163, [(3, .int ((nI k) + 1)), (2, .int (v + (mTi (mGo (nI k).toNatClampNeg).toNatClampNeg))), (4, .int (mPm ((3 * m) + (nI k)).toNatClampNeg)), (0, .ref 25), (1, .int m)], [], _, 0, 0)) rfl ?_
        refine pm_go (g := (7, _, [], _, 0, 0)) rfl ?_
        refine pm_sub (lv := [(3, .int ((nI k) + 1)), (2, .int (v + (mTi (mGo (nI k).toNatClampNeg).toNatClampNeg))), (0, .ref 25), (1, .int m)]) ?_ ⟨le_c (List.Mem.head _) (le_c (List.Mem.tail _ (List.Mem.head _)) (le_c (List.Mem.tail _ (List.Mem.tail _ (List.Mem.tail _ (List.Mem.head _)))) (le_c (List.Mem.tail _ (List.Mem.tail _ (List.Mem.tail _ (List.Mem.tail _ (List.Mem.head _))))) le_n))), (show ([3, 2, 4, 0, 1] : List Nat).Nodup by decide)⟩
        rw [nI_1]
        have hT : suS mTi mPl mGo ((k : Int) = (mMy m.toNatClampNeg).toInt - 1 ∧ (mMa m.toNatClampNeg &&& 4).toInt ≠ 0) (nI k) (mPm (3 * m + nI k).toNatClampNeg) v = v + (mTi (mGo (nI k).toNatClampNeg).toNatClampNeg) := by
          unfold suS
          first | rw [if_pos ⟨by omega, by omega, by omega⟩] | rw [if_neg (by rintro ⟨q1, q2, q3⟩; omega)]
          first | rw [su_1 (by omega)] | rw [su_2 (by omega) (by omega)] | rw [su_3 (by omega) (by omega)]
        refine ih (k + 1) (v + (mTi (mGo (nI k).toNatClampNeg).toNatClampNeg)) (by omega) (by omega) ?_
        rw [show (mMy m.toNatClampNeg).toNatClampNeg - k = ((mMy m.toNatClampNeg).toNatClampNeg - (k + 1)) + 1 by omega] at k0
        rw [← hT]; exact k0
      have h19 := qF_ne (cx := (mPm ((3 * m) + (nI k)).toNatClampNeg).toInt) (cy := 30) rfl (by decide) h19
      exfalso; omega
    have h4 := qF_ne (cx := (mPm ((3 * m) + (nI k)).toNatClampNeg).toInt) (cy := 10) rfl (by decide) h4
    refine pm_go (g := (38, [(4, .int (mPm ((3 * m) + (nI k)).toNatClampNeg)), (3, .int (nI k)), (2, .int v), (0, .ref 25), (1, .int m)], [.ref 25, .int v], _, 0, 0)) rfl ?_
    refine pm_go (g := (41, _, [.ref 49, .int v], _, 0, 0)) rfl ?_
    refine pm_go (g := (42, _, [.int (nI k), .ref 49, .int v], _, 0, 0)) rfl ?_
    refine pm_sd (g := (43, _, [.int (mGo (nI k).toNatClampNeg), .int v], _, 0, 0)) rfl (pm_inI (by omega) (by omega)) ?_
    refine pm_go (g := (76, _, [.int (mGo (nI k).toNatClampNeg), .int v], _, 0, 0)) rfl ?_
    refine pm_go (g := (77, _, [.int (v + (mGo (nI k).toNatClampNeg))], _, 0, 0)) rfl ?_
    try have h20 : (v + (mGo (nI k).toNatClampNeg)).toInt = (v).toInt + (mGo (nI k).toNatClampNeg).toInt := iAdd (x := (v).toInt) (y := (mGo (nI k).toNatClampNeg).toInt) rfl rfl (by omega) (by omega)
    refine pm_go (g := (78, [(2, .int (v + (mGo (nI k).toNatClampNeg))), (4, .int (mPm ((3 * m) + (nI k)).toNatClampNeg)), (3, .int (nI k)), (0, .ref 25), (1, .int m)], [], _, 0, 0)) rfl ?_
    refine pm_go (g := (80, _, [.int (mPm ((3 * m) + (nI k)).toNatClampNeg)], _, 0, 0)) rfl ?_
    refine pm_go (g := (82, _, [.int 30, .int (mPm ((3 * m) + (nI k)).toNatClampNeg)], _, 0, 0)) rfl ?_
    refine pm_if2 (g := (160, [(2, .int (v + (mGo (nI k).toNatClampNeg))), (4, .int (mPm ((3 * m) + (nI k)).toNatClampNeg)), (3, .int (nI k)), (0, .ref 25), (1, .int m)], [], hq g c1 c2 c3 c4 c5 c6 c7 c8 c9 c10 c11 c12 c13 c14 c15 c16 c17 c18 c19 c20 c21 c22 c23 c24 (hc25 mTy mTm mMn mFn mRn mTn mVn mLr mTr mFl mFm mFp mSc mMp mEn) (hc26 mPa) (hc27 mTo) (hc28 mOt) (hc29 mNa) (hc30 mRe) (hc31 mMa) (hc32 mMy) (hc33 mPm) (hc34 mFy) (hc35 mFa) (hc36 mFr) (hc37 mFo) (hc38 mRt) (hc39 mRm) (hc40 mTt) (hc41 mTi) (hc42 mPl) (hc43 mVr) (hc44 mVf) (hc45 mVc) (hc46 mAr) (hc47 mTc) (hc48 mFt) (hc49 mGo) dyn, 0, 0)) (h := (85, [(2, .int (v + (mGo (nI k).toNatClampNeg))), (4, .int (mPm ((3 * m) + (nI k)).toNatClampNeg)), (3, .int (nI k)), (0, .ref 25), (1, .int m)], [], hq g c1 c2 c3 c4 c5 c6 c7 c8 c9 c10 c11 c12 c13 c14 c15 c16 c17 c18 c19 c20 c21 c22 c23 c24 (hc25 mTy mTm mMn mFn mRn mTn mVn mLr mTr mFl mFm mFp mSc mMp mEn) (hc26 mPa) (hc27 mTo) (hc28 mOt) (hc29 mNa) (hc30 mRe) (hc31 mMa) (hc32 mMy) (hc33 mPm) (hc34 mFy) (hc35 mFa) (hc36 mFr) (hc37 mFo) (hc38 mRt) (hc39 mRm) (hc40 mTt) (hc41 mTi) (hc42 mPl) (hc43 mVr) (hc44 mVf) (hc45 mVc) (hc46 mAr) (hc47 mTc) (hc48 mFt) (hc49 mGo) dyn, 0, 0)) rfl (fun h21 => ?_) (fun h21 => ?_)
    ·
      have h21 := qT_ne (cx := (mPm ((3 * m) + (nI k)).toNatClampNeg).toInt) (cy := 30) rfl (by decide) h21
      refine pm_go (g := (163, [(3, .int ((nI k) + 1)), (2, .int (v + (mGo (nI k).toNatClampNeg))), (4, .int (mPm ((3 * m) + (nI k)).toNatClampNeg)), (0, .ref 25), (1, .int m)], [], _, 0, 0)) rfl ?_
      refine pm_go (g := (7, _, [], _, 0, 0)) rfl ?_
      refine pm_sub (lv := [(3, .int ((nI k) + 1)), (2, .int (v + (mGo (nI k).toNatClampNeg))), (0, .ref 25), (1, .int m)]) ?_ ⟨le_c (List.Mem.head _) (le_c (List.Mem.tail _ (List.Mem.head _)) (le_c (List.Mem.tail _ (List.Mem.tail _ (List.Mem.tail _ (List.Mem.head _)))) (le_c (List.Mem.tail _ (List.Mem.tail _ (List.Mem.tail _ (List.Mem.tail _ (List.Mem.head _))))) le_n))), (show ([3, 2, 4, 0, 1] : List Nat).Nodup by decide)⟩
      rw [nI_1]
      have hT : suS mTi mPl mGo ((k : Int) = (mMy m.toNatClampNeg).toInt - 1 ∧ (mMa m.toNatClampNeg &&& 4).toInt ≠ 0) (nI k) (mPm (3 * m + nI k).toNatClampNeg) v = v + (mGo (nI k).toNatClampNeg) := by
        unfold suS
        first | rw [if_pos ⟨by omega, by omega, by omega⟩] | rw [if_neg (by rintro ⟨q1, q2, q3⟩; omega)]
        first | rw [su_1 (by omega)] | rw [su_2 (by omega) (by omega)] | rw [su_3 (by omega) (by omega)]
      refine ih (k + 1) (v + (mGo (nI k).toNatClampNeg)) (by omega) (by omega) ?_
      rw [show (mMy m.toNatClampNeg).toNatClampNeg - k = ((mMy m.toNatClampNeg).toNatClampNeg - (k + 1)) + 1 by omega] at k0
      rw [← hT]; exact k0
    have h21 := qF_ne (cx := (mPm ((3 * m) + (nI k)).toNatClampNeg).toInt) (cy := 30) rfl (by decide) h21
    exfalso; omega
set_option maxRecDepth 100000 in
set_option maxHeartbeats 4000000 in
theorem w_X12_sumOf {g c1 c2 c3 c4 c5 c6 c7 c8 c9 c10 c11 c12 c13 c14 c15 c16 c17 c18 c19 c20 c21 c22 c23 c24 : pm_C} {dyn : pm_H} {mTy : Int32} {mPa : Nat → Int32} {mTo : Nat → Int32} {mTm : Int32} {mMn : Int32} {mOt : Nat → Int32} {mNa : Nat → Int32} {mRe : Nat → Int32} {mMa : Nat → Int32} {mMy : Nat → Int32} {mPm : Nat → Int32} {mFn : Int32} {mFy : Nat → Int32} {mFa : Nat → Int32} {mFr : Nat → Int32} {mRn : Int32} {mFo : Nat → Int32} {mRt : Nat → Int32} {mRm : Nat → Int32} {mTn : Int32} {mTt : Nat → Int32} {mTi : Nat → Int32} {mPl : Nat → Int32} {mVn : Int32} {mVr : Nat → Int32} {mVf : Nat → Int32} {mVc : Nat → Int32} {mAr : Nat → Int32} {mLr : Int32} {mTc : Nat → Int32} {mTr : Int32} {mFl : Int32} {mFt : Nat → Int32} {mFm : Int32} {mFp : Int32} {mSc : Int32} {mMp : Int32} {mEn : Int32} {mGo : Nat → Int32} {Q : pm_Q} (m : Int32) (p0 : 0 ≤ m.toInt ∧ m.toInt < 40) (p1 : 0 ≤ (mMy m.toNatClampNeg).toInt ∧ (mMy m.toNatClampNeg).toInt ≤ 3) (p2 : gtD mMy mPm mTi mGo m) (k0 : Q (some (.int (suF mMa mMy mPm mTi mPl mGo m))) (hq g c1 c2 c3 c4 c5 c6 c7 c8 c9 c10 c11 c12 c13 c14 c15 c16 c17 c18 c19 c20 c21 c22 c23 c24 (hc25 mTy mTm mMn mFn mRn mTn mVn mLr mTr mFl mFm mFp mSc mMp mEn) (hc26 mPa) (hc27 mTo) (hc28 mOt) (hc29 mNa) (hc30 mRe) (hc31 mMa) (hc32 mMy) (hc33 mPm) (hc34 mFy) (hc35 mFa) (hc36 mFr) (hc37 mFo) (hc38 mRt) (hc39 mRm) (hc40 mTt) (hc41 mTi) (hc42 mPl) (hc43 mVr) (hc44 mVf) (hc45 mVc) (hc46 mAr) (hc47 mTc) (hc48 mFt) (hc49 mGo) dyn)) : pm_WP 180 (0, [(0, .ref 25), (1, .int m)], [], hq g c1 c2 c3 c4 c5 c6 c7 c8 c9 c10 c11 c12 c13 c14 c15 c16 c17 c18 c19 c20 c21 c22 c23 c24 (hc25 mTy mTm mMn mFn mRn mTn mVn mLr mTr mFl mFm mFp mSc mMp mEn) (hc26 mPa) (hc27 mTo) (hc28 mOt) (hc29 mNa) (hc30 mRe) (hc31 mMa) (hc32 mMy) (hc33 mPm) (hc34 mFy) (hc35 mFa) (hc36 mFr) (hc37 mFo) (hc38 mRt) (hc39 mRm) (hc40 mTt) (hc41 mTi) (hc42 mPl) (hc43 mVr) (hc44 mVf) (hc45 mVc) (hc46 mAr) (hc47 mTc) (hc48 mFt) (hc49 mGo) dyn, 0, 0) Q := by
  refine pm_go (g := (2, [(0, .ref 25), (1, .int m)], [.int 100], hq g c1 c2 c3 c4 c5 c6 c7 c8 c9 c10 c11 c12 c13 c14 c15 c16 c17 c18 c19 c20 c21 c22 c23 c24 (hc25 mTy mTm mMn mFn mRn mTn mVn mLr mTr mFl mFm mFp mSc mMp mEn) (hc26 mPa) (hc27 mTo) (hc28 mOt) (hc29 mNa) (hc30 mRe) (hc31 mMa) (hc32 mMy) (hc33 mPm) (hc34 mFy) (hc35 mFa) (hc36 mFr) (hc37 mFo) (hc38 mRt) (hc39 mRm) (hc40 mTt) (hc41 mTi) (hc42 mPl) (hc43 mVr) (hc44 mVf) (hc45 mVc) (hc46 mAr) (hc47 mTc) (hc48 mFt) (hc49 mGo) dyn, 0, 0)) rfl ?_
  refine pm_go (g := (3, _, [.int m, .int 100], _, 0, 0)) rfl ?_
  refine pm_go (g := (4, _, [.int (100 * m)], _, 0, 0)) rfl ?_
  try have h1 : (100 * m).toInt = 100 * (m).toInt := iMul (x := 100) (y := (m).toInt) (by decide) rfl (by omega) (by omega)
  refine pm_go (g := (5, [(2, .int (100 * m)), (0, .ref 25), (1, .int m)], [], _, 0, 0)) rfl ?_
  refine pm_go (g := (6, _, [.int 0], _, 0, 0)) rfl ?_
  refine pm_go (g := (7, [(3, .int 0), (2, .int (100 * m)), (0, .ref 25), (1, .int m)], [], _, 0, 0)) rfl ?_
  exact w_sumOf_loop m p0 p1 p2 4 0 (100 * m) (by omega) (by omega) k0
/-- the reference's gives -/
def giM (na re my : Nat → Int32) (op : Prop) (m v : Int32) (z : cs_T) (x : Int32 × cs_T) : Prop :=
  ((na m.toNatClampNeg).toInt = 6 ∧ x = mdF (re m.toNatClampNeg) 0 z) ∨ ((na m.toNatClampNeg).toInt ≠ 6 ∧ (re m.toNatClampNeg).toInt = 10 ∧ x = (v, z)) ∨ ((na m.toNatClampNeg).toInt ≠ 6 ∧ (re m.toNatClampNeg).toInt = 1 ∧ x = mdF 1 v z) ∨ ((na m.toNatClampNeg).toInt ≠ 6 ∧ (re m.toNatClampNeg).toInt = 11 ∧ x = (0, z)) ∨ ((na m.toNatClampNeg).toInt ≠ 6 ∧ 20 ≤ (re m.toNatClampNeg).toInt ∧ x = mdF (re m.toNatClampNeg) (my m.toNatClampNeg) z) ∨ (((na m.toNatClampNeg).toInt ≠ 6 ∧ (re m.toNatClampNeg).toInt ≠ 10 ∧ (re m.toNatClampNeg).toInt ≠ 1 ∧ (re m.toNatClampNeg).toInt ≠ 11 ∧ (re m.toNatClampNeg).toInt < 20) ∧ ((op ∧ x = (0, z)) ∨ (¬ op ∧ x = mdF (re m.toNatClampNeg) 0 z)))
set_option maxRecDepth 100000 in
set_option maxHeartbeats 4000000 in
theorem w_X12_gives {g c1 c2 c3 c4 c5 c6 c7 c8 c9 c10 c11 c12 c13 c14 c15 c16 c17 c18 c19 c20 c21 c22 c23 c24 : pm_C} {dyn : pm_H} {mTy : Int32} {mPa : Nat → Int32} {mTo : Nat → Int32} {mTm : Int32} {mMn : Int32} {mOt : Nat → Int32} {mNa : Nat → Int32} {mRe : Nat → Int32} {mMa : Nat → Int32} {mMy : Nat → Int32} {mPm : Nat → Int32} {mFn : Int32} {mFy : Nat → Int32} {mFa : Nat → Int32} {mFr : Nat → Int32} {mRn : Int32} {mFo : Nat → Int32} {mRt : Nat → Int32} {mRm : Nat → Int32} {mTn : Int32} {mTt : Nat → Int32} {mTi : Nat → Int32} {mPl : Nat → Int32} {mVn : Int32} {mVr : Nat → Int32} {mVf : Nat → Int32} {mVc : Nat → Int32} {mAr : Nat → Int32} {mLr : Int32} {mTc : Nat → Int32} {mTr : Int32} {mFl : Int32} {mFt : Nat → Int32} {mFm : Int32} {mFp : Int32} {mSc : Int32} {mMp : Int32} {mEn : Int32} {mGo : Nat → Int32} {Q : pm_Q} (m : Int32) (v : Int32) (p0 : 0 ≤ m.toInt ∧ m.toInt < 40) (p1 : paD mPa) (p2 : myD mMy) (p3 : 0 ≤ mMn.toInt ∧ mMn.toInt ≤ 40) (p4 : 0 ≤ mTn.toInt ∧ mTn.toInt ≤ 60) (k0 : ∀ (r9 : Int32), ∀ (n9 : Int32), ∀ (e9 : Int32), ∀ (t9 : Nat → Int32), ∀ (i9 : Nat → Int32), ∀ (l9 : Nat → Int32), (giM mNa mRe mMy (opL mPa mOt mNa mMy mPm mMa mMn (mRe m.toNatClampNeg) 0) m v (mTn, mEn, mTt, mTi, mPl) (r9, n9, e9, t9, i9, l9)) → (((0 ≤ n9.toInt ∧ n9.toInt ≤ 60) ∧ mTn.toInt ≤ n9.toInt) ∧ ((mRe m.toNatClampNeg).toInt = 1 → 0 ≤ r9.toInt ∧ r9.toInt ≤ n9.toInt)) → Q (some (.int r9)) (hq g c1 c2 c3 c4 c5 c6 c7 c8 c9 c10 c11 c12 c13 c14 c15 c16 c17 c18 c19 c20 c21 c22 c23 c24 (hc25 mTy mTm mMn mFn mRn n9 mVn mLr mTr mFl mFm mFp mSc mMp e9) (hc26 mPa) (hc27 mTo) (hc28 mOt) (hc29 mNa) (hc30 mRe) (hc31 mMa) (hc32 mMy) (hc33 mPm) (hc34 mFy) (hc35 mFa) (hc36 mFr) (hc37 mFo) (hc38 mRt) (hc39 mRm) (hc40 t9) (hc41 i9) (hc42 l9) (hc43 mVr) (hc44 mVf) (hc45 mVc) (hc46 mAr) (hc47 mTc) (hc48 mFt) (hc49 mGo) dyn)) : pm_WP 181 (0, [(0, .ref 25), (1, .int m), (2, .int v)], [], hq g c1 c2 c3 c4 c5 c6 c7 c8 c9 c10 c11 c12 c13 c14 c15 c16 c17 c18 c19 c20 c21 c22 c23 c24 (hc25 mTy mTm mMn mFn mRn mTn mVn mLr mTr mFl mFm mFp mSc mMp mEn) (hc26 mPa) (hc27 mTo) (hc28 mOt) (hc29 mNa) (hc30 mRe) (hc31 mMa) (hc32 mMy) (hc33 mPm) (hc34 mFy) (hc35 mFa) (hc36 mFr) (hc37 mFo) (hc38 mRt) (hc39 mRm) (hc40 mTt) (hc41 mTi) (hc42 mPl) (hc43 mVr) (hc44 mVf) (hc45 mVc) (hc46 mAr) (hc47 mTc) (hc48 mFt) (hc49 mGo) dyn, 0, 0) Q := by
  refine pm_go (g := (1, [(0, .ref 25), (1, .int m), (2, .int v)], [.ref 25], hq g c1 c2 c3 c4 c5 c6 c7 c8 c9 c10 c11 c12 c13 c14 c15 c16 c17 c18 c19 c20 c21 c22 c23 c24 (hc25 mTy mTm mMn mFn mRn mTn mVn mLr mTr mFl mFm mFp mSc mMp mEn) (hc26 mPa) (hc27 mTo) (hc28 mOt) (hc29 mNa) (hc30 mRe) (hc31 mMa) (hc32 mMy) (hc33 mPm) (hc34 mFy) (hc35 mFa) (hc36 mFr) (hc37 mFo) (hc38 mRt) (hc39 mRm) (hc40 mTt) (hc41 mTi) (hc42 mPl) (hc43 mVr) (hc44 mVf) (hc45 mVc) (hc46 mAr) (hc47 mTc) (hc48 mFt) (hc49 mGo) dyn, 0, 0)) rfl ?_
  refine pm_go (g := (4, _, [.ref 30], _, 0, 0)) rfl ?_
  refine pm_go (g := (5, _, [.int m, .ref 30], _, 0, 0)) rfl ?_
  refine pm_sd (g := (6, _, [.int (mRe (m).toNatClampNeg)], _, 0, 0)) rfl (pm_inI (by omega) (by omega)) ?_
  refine pm_go (g := (7, [(3, .int (mRe (m).toNatClampNeg)), (0, .ref 25), (1, .int m), (2, .int v)], [], _, 0, 0)) rfl ?_
  refine pm_go (g := (8, _, [.ref 25], _, 0, 0)) rfl ?_
  refine pm_go (g := (11, _, [.ref 29], _, 0, 0)) rfl ?_
  refine pm_go (g := (12, _, [.int m, .ref 29], _, 0, 0)) rfl ?_
  refine pm_sd (g := (13, _, [.int (mNa (m).toNatClampNeg)], _, 0, 0)) rfl (pm_inI (by omega) (by omega)) ?_
  refine pm_go (g := (15, _, [.int 6, .int (mNa (m).toNatClampNeg)], _, 0, 0)) rfl ?_
  refine pm_if2 (g := (27, [(3, .int (mRe (m).toNatClampNeg)), (0, .ref 25), (1, .int m), (2, .int v)], [], hq g c1 c2 c3 c4 c5 c6 c7 c8 c9 c10 c11 c12 c13 c14 c15 c16 c17 c18 c19 c20 c21 c22 c23 c24 (hc25 mTy mTm mMn mFn mRn mTn mVn mLr mTr mFl mFm mFp mSc mMp mEn) (hc26 mPa) (hc27 mTo) (hc28 mOt) (hc29 mNa) (hc30 mRe) (hc31 mMa) (hc32 mMy) (hc33 mPm) (hc34 mFy) (hc35 mFa) (hc36 mFr) (hc37 mFo) (hc38 mRt) (hc39 mRm) (hc40 mTt) (hc41 mTi) (hc42 mPl) (hc43 mVr) (hc44 mVf) (hc45 mVc) (hc46 mAr) (hc47 mTc) (hc48 mFt) (hc49 mGo) dyn, 0, 0)) (h := (18, [(3, .int (mRe (m).toNatClampNeg)), (0, .ref 25), (1, .int m), (2, .int v)], [], hq g c1 c2 c3 c4 c5 c6 c7 c8 c9 c10 c11 c12 c13 c14 c15 c16 c17 c18 c19 c20 c21 c22 c23 c24 (hc25 mTy mTm mMn mFn mRn mTn mVn mLr mTr mFl mFm mFp mSc mMp mEn) (hc26 mPa) (hc27 mTo) (hc28 mOt) (hc29 mNa) (hc30 mRe) (hc31 mMa) (hc32 mMy) (hc33 mPm) (hc34 mFy) (hc35 mFa) (hc36 mFr) (hc37 mFo) (hc38 mRt) (hc39 mRm) (hc40 mTt) (hc41 mTi) (hc42 mPl) (hc43 mVr) (hc44 mVf) (hc45 mVc) (hc46 mAr) (hc47 mTc) (hc48 mFt) (hc49 mGo) dyn, 0, 0)) rfl (fun h1 => ?_) (fun h1 => ?_)
  ·
    have h1 := qT_ne (cx := (mNa (m).toNatClampNeg).toInt) (cy := 6) rfl (by decide) h1
    refine pm_go (g := (28, _, [.int (mRe (m).toNatClampNeg)], _, 0, 0)) rfl ?_
    refine pm_go (g := (30, _, [.int 10, .int (mRe (m).toNatClampNeg)], _, 0, 0)) rfl ?_
    refine pm_if2 (g := (37, [(3, .int (mRe (m).toNatClampNeg)), (0, .ref 25), (1, .int m), (2, .int v)], [], hq g c1 c2 c3 c4 c5 c6 c7 c8 c9 c10 c11 c12 c13 c14 c15 c16 c17 c18 c19 c20 c21 c22 c23 c24 (hc25 mTy mTm mMn mFn mRn mTn mVn mLr mTr mFl mFm mFp mSc mMp mEn) (hc26 mPa) (hc27 mTo) (hc28 mOt) (hc29 mNa) (hc30 mRe) (hc31 mMa) (hc32 mMy) (hc33 mPm) (hc34 mFy) (hc35 mFa) (hc36 mFr) (hc37 mFo) (hc38 mRt) (hc39 mRm) (hc40 mTt) (hc41 mTi) (hc42 mPl) (hc43 mVr) (hc44 mVf) (hc45 mVc) (hc46 mAr) (hc47 mTc) (hc48 mFt) (hc49 mGo) dyn, 0, 0)) (h := (33, [(3, .int (mRe (m).toNatClampNeg)), (0, .ref 25), (1, .int m), (2, .int v)], [], hq g c1 c2 c3 c4 c5 c6 c7 c8 c9 c10 c11 c12 c13 c14 c15 c16 c17 c18 c19 c20 c21 c22 c23 c24 (hc25 mTy mTm mMn mFn mRn mTn mVn mLr mTr mFl mFm mFp mSc mMp mEn) (hc26 mPa) (hc27 mTo) (hc28 mOt) (hc29 mNa) (hc30 mRe) (hc31 mMa) (hc32 mMy) (hc33 mPm) (hc34 mFy) (hc35 mFa) (hc36 mFr) (hc37 mFo) (hc38 mRt) (hc39 mRm) (hc40 mTt) (hc41 mTi) (hc42 mPl) (hc43 mVr) (hc44 mVf) (hc45 mVc) (hc46 mAr) (hc47 mTc) (hc48 mFt) (hc49 mGo) dyn, 0, 0)) rfl (fun h2 => ?_) (fun h2 => ?_)
    ·
      have h2 := qT_ne (cx := (mRe (m).toNatClampNeg).toInt) (cy := 10) rfl (by decide) h2
      refine pm_go (g := (38, _, [.int (mRe (m).toNatClampNeg)], _, 0, 0)) rfl ?_
      refine pm_go (g := (39, _, [.int 1, .int (mRe (m).toNatClampNeg)], _, 0, 0)) rfl ?_
      refine pm_if2 (g := (51, [(3, .int (mRe (m).toNatClampNeg)), (0, .ref 25), (1, .int m), (2, .int v)], [], hq g c1 c2 c3 c4 c5 c6 c7 c8 c9 c10 c11 c12 c13 c14 c15 c16 c17 c18 c19 c20 c21 c22 c23 c24 (hc25 mTy mTm mMn mFn mRn mTn mVn mLr mTr mFl mFm mFp mSc mMp mEn) (hc26 mPa) (hc27 mTo) (hc28 mOt) (hc29 mNa) (hc30 mRe) (hc31 mMa) (hc32 mMy) (hc33 mPm) (hc34 mFy) (hc35 mFa) (hc36 mFr) (hc37 mFo) (hc38 mRt) (hc39 mRm) (hc40 mTt) (hc41 mTi) (hc42 mPl) (hc43 mVr) (hc44 mVf) (hc45 mVc) (hc46 mAr) (hc47 mTc) (hc48 mFt) (hc49 mGo) dyn, 0, 0)) (h := (42, [(3, .int (mRe (m).toNatClampNeg)), (0, .ref 25), (1, .int m), (2, .int v)], [], hq g c1 c2 c3 c4 c5 c6 c7 c8 c9 c10 c11 c12 c13 c14 c15 c16 c17 c18 c19 c20 c21 c22 c23 c24 (hc25 mTy mTm mMn mFn mRn mTn mVn mLr mTr mFl mFm mFp mSc mMp mEn) (hc26 mPa) (hc27 mTo) (hc28 mOt) (hc29 mNa) (hc30 mRe) (hc31 mMa) (hc32 mMy) (hc33 mPm) (hc34 mFy) (hc35 mFa) (hc36 mFr) (hc37 mFo) (hc38 mRt) (hc39 mRm) (hc40 mTt) (hc41 mTi) (hc42 mPl) (hc43 mVr) (hc44 mVf) (hc45 mVc) (hc46 mAr) (hc47 mTc) (hc48 mFt) (hc49 mGo) dyn, 0, 0)) rfl (fun h3 => ?_) (fun h3 => ?_)
      ·
        have h3 := qT_ne (cx := (mRe (m).toNatClampNeg).toInt) (cy := 1) rfl (by decide) h3
        refine pm_go (g := (52, _, [.int (mRe (m).toNatClampNeg)], _, 0, 0)) rfl ?_
        refine pm_go (g := (54, _, [.int 11, .int (mRe (m).toNatClampNeg)], _, 0, 0)) rfl ?_
        refine pm_if2 (g := (61, [(3, .int (mRe (m).toNatClampNeg)), (0, .ref 25), (1, .int m), (2, .int v)], [], hq g c1 c2 c3 c4 c5 c6 c7 c8 c9 c10 c11 c12 c13 c14 c15 c16 c17 c18 c19 c20 c21 c22 c23 c24 (hc25 mTy mTm mMn mFn mRn mTn mVn mLr mTr mFl mFm mFp mSc mMp mEn) (hc26 mPa) (hc27 mTo) (hc28 mOt) (hc29 mNa) (hc30 mRe) (hc31 mMa) (hc32 mMy) (hc33 mPm) (hc34 mFy) (hc35 mFa) (hc36 mFr) (hc37 mFo) (hc38 mRt) (hc39 mRm) (hc40 mTt) (hc41 mTi) (hc42 mPl) (hc43 mVr) (hc44 mVf) (hc45 mVc) (hc46 mAr) (hc47 mTc) (hc48 mFt) (hc49 mGo) dyn, 0, 0)) (h := (57, [(3, .int (mRe (m).toNatClampNeg)), (0, .ref 25), (1, .int m), (2, .int v)], [], hq g c1 c2 c3 c4 c5 c6 c7 c8 c9 c10 c11 c12 c13 c14 c15 c16 c17 c18 c19 c20 c21 c22 c23 c24 (hc25 mTy mTm mMn mFn mRn mTn mVn mLr mTr mFl mFm mFp mSc mMp mEn) (hc26 mPa) (hc27 mTo) (hc28 mOt) (hc29 mNa) (hc30 mRe) (hc31 mMa) (hc32 mMy) (hc33 mPm) (hc34 mFy) (hc35 mFa) (hc36 mFr) (hc37 mFo) (hc38 mRt) (hc39 mRm) (hc40 mTt) (hc41 mTi) (hc42 mPl) (hc43 mVr) (hc44 mVf) (hc45 mVc) (hc46 mAr) (hc47 mTc) (hc48 mFt) (hc49 mGo) dyn, 0, 0)) rfl (fun h4 => ?_) (fun h4 => ?_)
        ·
          have h4 := qT_ne (cx := (mRe (m).toNatClampNeg).toInt) (cy := 11) rfl (by decide) h4
          refine pm_go (g := (62, _, [.int (mRe (m).toNatClampNeg)], _, 0, 0)) rfl ?_
          refine pm_go (g := (64, _, [.int 20, .int (mRe (m).toNatClampNeg)], _, 0, 0)) rfl ?_
          refine pm_if2 (g := (81, [(3, .int (mRe (m).toNatClampNeg)), (0, .ref 25), (1, .int m), (2, .int v)], [], hq g c1 c2 c3 c4 c5 c6 c7 c8 c9 c10 c11 c12 c13 c14 c15 c16 c17 c18 c19 c20 c21 c22 c23 c24 (hc25 mTy mTm mMn mFn mRn mTn mVn mLr mTr mFl mFm mFp mSc mMp mEn) (hc26 mPa) (hc27 mTo) (hc28 mOt) (hc29 mNa) (hc30 mRe) (hc31 mMa) (hc32 mMy) (hc33 mPm) (hc34 mFy) (hc35 mFa) (hc36 mFr) (hc37 mFo) (hc38 mRt) (hc39 mRm) (hc40 mTt) (hc41 mTi) (hc42 mPl) (hc43 mVr) (hc44 mVf) (hc45 mVc) (hc46 mAr) (hc47 mTc) (hc48 mFt) (hc49 mGo) dyn, 0, 0)) (h := (67, [(3, .int (mRe (m).toNatClampNeg)), (0, .ref 25), (1, .int m), (2, .int v)], [], hq g c1 c2 c3 c4 c5 c6 c7 c8 c9 c10 c11 c12 c13 c14 c15 c16 c17 c18 c19 c20 c21 c22 c23 c24 (hc25 mTy mTm mMn mFn mRn mTn mVn mLr mTr mFl mFm mFp mSc mMp mEn) (hc26 mPa) (hc27 mTo) (hc28 mOt) (hc29 mNa) (hc30 mRe) (hc31 mMa) (hc32 mMy) (hc33 mPm) (hc34 mFy) (hc35 mFa) (hc36 mFr) (hc37 mFo) (hc38 mRt) (hc39 mRm) (hc40 mTt) (hc41 mTi) (hc42 mPl) (hc43 mVr) (hc44 mVf) (hc45 mVc) (hc46 mAr) (hc47 mTc) (hc48 mFt) (hc49 mGo) dyn, 0, 0)) rfl (fun h5 => ?_) (fun h5 => ?_)
          ·
            have h5 := qT_lt (cx := (mRe (m).toNatClampNeg).toInt) (cy := 20) rfl (by decide) h5
            refine pm_go (g := (82, _, [.ref 25], _, 0, 0)) rfl ?_
            refine pm_go (g := (83, _, [.int (mRe (m).toNatClampNeg), .ref 25], _, 0, 0)) rfl ?_
            refine pm_callD (z := 145) (as := [.ref 25, .int (mRe (m).toNatClampNeg)]) (rest := []) rfl ?_
            refine w_X12_isOpen (mRe (m).toNatClampNeg) (by assumption) (by assumption) (by omega) (fun h6 => ?_) (fun h7 => ?_)
            ·
              show pm_WP 181 (86, [(3, .int (mRe (m).toNatClampNeg)), (0, .ref 25), (1, .int m), (2, .int v)], [.int 1], _, 0, 0) _
              refine pm_brF (h := (89, [(3, .int (mRe (m).toNatClampNeg)), (0, .ref 25), (1, .int m), (2, .int v)], [], hq g c1 c2 c3 c4 c5 c6 c7 c8 c9 c10 c11 c12 c13 c14 c15 c16 c17 c18 c19 c20 c21 c22 c23 c24 (hc25 mTy mTm mMn mFn mRn mTn mVn mLr mTr mFl mFm mFp mSc mMp mEn) (hc26 mPa) (hc27 mTo) (hc28 mOt) (hc29 mNa) (hc30 mRe) (hc31 mMa) (hc32 mMy) (hc33 mPm) (hc34 mFy) (hc35 mFa) (hc36 mFr) (hc37 mFo) (hc38 mRt) (hc39 mRm) (hc40 mTt) (hc41 mTi) (hc42 mPl) (hc43 mVr) (hc44 mVf) (hc45 mVc) (hc46 mAr) (hc47 mTc) (hc48 mFt) (hc49 mGo) dyn, 0, 0)) rfl ?_
              refine pm_go (g := (90, _, [.int 0], _, 0, 0)) rfl ?_
              refine pm_go (g := (99, _, [.int 0], _, 0, 0)) rfl ?_
              refine pm_ret rfl (k0 _ _ _ _ _ _ ?_ (by omega))
              first | exact Or.inl ⟨by omega, h6⟩ | exact Or.inr (Or.inl ⟨by omega, by omega, rfl⟩) | exact Or.inr (Or.inr (Or.inl ⟨by omega, by omega, h6⟩)) | exact Or.inr (Or.inr (Or.inr (Or.inl ⟨by omega, by omega, rfl⟩))) | exact Or.inr (Or.inr (Or.inr (Or.inr (Or.inl ⟨by omega, by omega, h6⟩)))) | exact Or.inr (Or.inr (Or.inr (Or.inr (Or.inr ⟨by omega, Or.inl ⟨by assumption, rfl⟩⟩)))) | exact Or.inr (Or.inr (Or.inr (Or.inr (Or.inr ⟨by omega, Or.inr ⟨by assumption, h6⟩⟩))))
            show pm_WP 181 (86, [(3, .int (mRe (m).toNatClampNeg)), (0, .ref 25), (1, .int m), (2, .int v)], [.int 0], hq g c1 c2 c3 c4 c5 c6 c7 c8 c9 c10 c11 c12 c13 c14 c15 c16 c17 c18 c19 c20 c21 c22 c23 c24 (hc25 mTy mTm mMn mFn mRn mTn mVn mLr mTr mFl mFm mFp mSc mMp mEn) (hc26 mPa) (hc27 mTo) (hc28 mOt) (hc29 mNa) (hc30 mRe) (hc31 mMa) (hc32 mMy) (hc33 mPm) (hc34 mFy) (hc35 mFa) (hc36 mFr) (hc37 mFo) (hc38 mRt) (hc39 mRm) (hc40 mTt) (hc41 mTi) (hc42 mPl) (hc43 mVr) (hc44 mVf) (hc45 mVc) (hc46 mAr) (hc47 mTc) (hc48 mFt) (hc49 mGo) dyn, 0, 0) _
            refine pm_brT (g := (93, [(3, .int (mRe (m).toNatClampNeg)), (0, .ref 25), (1, .int m), (2, .int v)], [], hq g c1 c2 c3 c4 c5 c6 c7 c8 c9 c10 c11 c12 c13 c14 c15 c16 c17 c18 c19 c20 c21 c22 c23 c24 (hc25 mTy mTm mMn mFn mRn mTn mVn mLr mTr mFl mFm mFp mSc mMp mEn) (hc26 mPa) (hc27 mTo) (hc28 mOt) (hc29 mNa) (hc30 mRe) (hc31 mMa) (hc32 mMy) (hc33 mPm) (hc34 mFy) (hc35 mFa) (hc36 mFr) (hc37 mFo) (hc38 mRt) (hc39 mRm) (hc40 mTt) (hc41 mTi) (hc42 mPl) (hc43 mVr) (hc44 mVf) (hc45 mVc) (hc46 mAr) (hc47 mTc) (hc48 mFt) (hc49 mGo) dyn, 0, 0)) rfl ?_
            refine pm_go (g := (94, _, [.ref 25], _, 0, 0)) rfl ?_
            refine pm_go (g := (95, _, [.int (mRe (m).toNatClampNeg), .ref 25], _, 0, 0)) rfl ?_
            refine pm_go (g := (96, _, [.int 0, .int (mRe (m).toNatClampNeg), .ref 25], _, 0, 0)) rfl ?_
            refine pm_callD (z := 169) (as := [.ref 25, .int (mRe (m).toNatClampNeg), .int 0]) (rest := []) rfl ?_
            have h9 : (0 : Int32).toInt = 0 := by decide
            refine w2_X12_made (mRe (m).toNatClampNeg) 0 (by omega) (fun v11_r9 v11_n9 v11_e9 v11_t9 v11_i9 v11_l9 h10 h11 => ?_)
            show pm_WP 181 (99, [(3, .int (mRe (m).toNatClampNeg)), (0, .ref 25), (1, .int m), (2, .int v)], [.int v11_r9], _, 0, 0) _
            refine pm_ret rfl (k0 _ _ _ _ _ _ ?_ (by omega))
            first | exact Or.inl ⟨by omega, h10⟩ | exact Or.inr (Or.inl ⟨by omega, by omega, rfl⟩) | exact Or.inr (Or.inr (Or.inl ⟨by omega, by omega, h10⟩)) | exact Or.inr (Or.inr (Or.inr (Or.inl ⟨by omega, by omega, rfl⟩))) | exact Or.inr (Or.inr (Or.inr (Or.inr (Or.inl ⟨by omega, by omega, h10⟩)))) | exact Or.inr (Or.inr (Or.inr (Or.inr (Or.inr ⟨by omega, Or.inl ⟨by assumption, rfl⟩⟩)))) | exact Or.inr (Or.inr (Or.inr (Or.inr (Or.inr ⟨by omega, Or.inr ⟨by assumption, h10⟩⟩))))
          have h5 := qF_lt (cx := (mRe (m).toNatClampNeg).toInt) (cy := 20) rfl (by decide) h5
          refine pm_go (g := (68, _, [.ref 25], hq g c1 c2 c3 c4 c5 c6 c7 c8 c9 c10 c11 c12 c13 c14 c15 c16 c17 c18 c19 c20 c21 c22 c23 c24 (hc25 mTy mTm mMn mFn mRn mTn mVn mLr mTr mFl mFm mFp mSc mMp mEn) (hc26 mPa) (hc27 mTo) (hc28 mOt) (hc29 mNa) (hc30 mRe) (hc31 mMa) (hc32 mMy) (hc33 mPm) (hc34 mFy) (hc35 mFa) (hc36 mFr) (hc37 mFo) (hc38 mRt) (hc39 mRm) (hc40 mTt) (hc41 mTi) (hc42 mPl) (hc43 mVr) (hc44 mVf) (hc45 mVc) (hc46 mAr) (hc47 mTc) (hc48 mFt) (hc49 mGo) dyn, 0, 0)) rfl ?_
          refine pm_go (g := (69, _, [.int (mRe (m).toNatClampNeg), .ref 25], _, 0, 0)) rfl ?_
          refine pm_go (g := (70, _, [.ref 25, .int (mRe (m).toNatClampNeg), .ref 25], _, 0, 0)) rfl ?_
          refine pm_go (g := (73, _, [.ref 32, .int (mRe (m).toNatClampNeg), .ref 25], _, 0, 0)) rfl ?_
          refine pm_go (g := (74, _, [.int m, .ref 32, .int (mRe (m).toNatClampNeg), .ref 25], _, 0, 0)) rfl ?_
          refine pm_sd (g := (75, _, [.int (mMy (m).toNatClampNeg), .int (mRe (m).toNatClampNeg), .ref 25], _, 0, 0)) rfl (pm_inI (by omega) (by omega)) ?_
          refine pm_callD (z := 169) (as := [.ref 25, .int (mRe (m).toNatClampNeg), .int (mMy (m).toNatClampNeg)]) (rest := []) rfl ?_
          refine w2_X12_made (mRe (m).toNatClampNeg) (mMy (m).toNatClampNeg) (by omega) (fun v14_r9 v14_n9 v14_e9 v14_t9 v14_i9 v14_l9 h13 h14 => ?_)
          show pm_WP 181 (78, [(3, .int (mRe (m).toNatClampNeg)), (0, .ref 25), (1, .int m), (2, .int v)], [.int v14_r9], _, 0, 0) _
          refine pm_go (g := (99, _, [.int v14_r9], _, 0, 0)) rfl ?_
          refine pm_ret rfl (k0 _ _ _ _ _ _ ?_ (by omega))
          first | exact Or.inl ⟨by omega, h13⟩ | exact Or.inr (Or.inl ⟨by omega, by omega, rfl⟩) | exact Or.inr (Or.inr (Or.inl ⟨by omega, by omega, h13⟩)) | exact Or.inr (Or.inr (Or.inr (Or.inl ⟨by omega, by omega, rfl⟩))) | exact Or.inr (Or.inr (Or.inr (Or.inr (Or.inl ⟨by omega, by omega, h13⟩)))) | exact Or.inr (Or.inr (Or.inr (Or.inr (Or.inr ⟨by omega, Or.inl ⟨by assumption, rfl⟩⟩)))) | exact Or.inr (Or.inr (Or.inr (Or.inr (Or.inr ⟨by omega, Or.inr ⟨by assumption, h13⟩⟩))))
        have h4 := qF_ne (cx := (mRe (m).toNatClampNeg).toInt) (cy := 11) rfl (by decide) h4
        refine pm_go (g := (58, _, [.int 0], hq g c1 c2 c3 c4 c5 c6 c7 c8 c9 c10 c11 c12 c13 c14 c15 c16 c17 c18 c19 c20 c21 c22 c23 c24 (hc25 mTy mTm mMn mFn mRn mTn mVn mLr mTr mFl mFm mFp mSc mMp mEn) (hc26 mPa) (hc27 mTo) (hc28 mOt) (hc29 mNa) (hc30 mRe) (hc31 mMa) (hc32 mMy) (hc33 mPm) (hc34 mFy) (hc35 mFa) (hc36 mFr) (hc37 mFo) (hc38 mRt) (hc39 mRm) (hc40 mTt) (hc41 mTi) (hc42 mPl) (hc43 mVr) (hc44 mVf) (hc45 mVc) (hc46 mAr) (hc47 mTc) (hc48 mFt) (hc49 mGo) dyn, 0, 0)) rfl ?_
        refine pm_go (g := (99, _, [.int 0], _, 0, 0)) rfl ?_
        refine pm_ret rfl (k0 _ _ _ _ _ _ ?_ (by omega))
        first | exact Or.inl ⟨by omega, h13⟩ | exact Or.inr (Or.inl ⟨by omega, by omega, rfl⟩) | exact Or.inr (Or.inr (Or.inl ⟨by omega, by omega, h13⟩)) | exact Or.inr (Or.inr (Or.inr (Or.inl ⟨by omega, by omega, rfl⟩))) | exact Or.inr (Or.inr (Or.inr (Or.inr (Or.inl ⟨by omega, by omega, h13⟩)))) | exact Or.inr (Or.inr (Or.inr (Or.inr (Or.inr ⟨by omega, Or.inl ⟨by assumption, rfl⟩⟩)))) | exact Or.inr (Or.inr (Or.inr (Or.inr (Or.inr ⟨by omega, Or.inr ⟨by assumption, h13⟩⟩))))
      have h3 := qF_ne (cx := (mRe (m).toNatClampNeg).toInt) (cy := 1) rfl (by decide) h3
      refine pm_go (g := (43, _, [.ref 25], _, 0, 0)) rfl ?_
      refine pm_go (g := (44, _, [.int 1, .ref 25], _, 0, 0)) rfl ?_
      refine pm_go (g := (45, _, [.int v, .int 1, .ref 25], _, 0, 0)) rfl ?_
      refine pm_callD (z := 169) (as := [.ref 25, .int 1, .int v]) (rest := []) rfl ?_
      have h16 : (1 : Int32).toInt = 1 := by decide
      refine w2_X12_made 1 v (by omega) (fun v18_r9 v18_n9 v18_e9 v18_t9 v18_i9 v18_l9 h17 h18 => ?_)
      show pm_WP 181 (48, [(3, .int (mRe (m).toNatClampNeg)), (0, .ref 25), (1, .int m), (2, .int v)], [.int v18_r9], _, 0, 0) _
      refine pm_go (g := (99, _, [.int v18_r9], _, 0, 0)) rfl ?_
      refine pm_ret rfl (k0 _ _ _ _ _ _ ?_ (by omega))
      first | exact Or.inl ⟨by omega, h17⟩ | exact Or.inr (Or.inl ⟨by omega, by omega, rfl⟩) | exact Or.inr (Or.inr (Or.inl ⟨by omega, by omega, h17⟩)) | exact Or.inr (Or.inr (Or.inr (Or.inl ⟨by omega, by omega, rfl⟩))) | exact Or.inr (Or.inr (Or.inr (Or.inr (Or.inl ⟨by omega, by omega, h17⟩)))) | exact Or.inr (Or.inr (Or.inr (Or.inr (Or.inr ⟨by omega, Or.inl ⟨by assumption, rfl⟩⟩)))) | exact Or.inr (Or.inr (Or.inr (Or.inr (Or.inr ⟨by omega, Or.inr ⟨by assumption, h17⟩⟩))))
    have h2 := qF_ne (cx := (mRe (m).toNatClampNeg).toInt) (cy := 10) rfl (by decide) h2
    refine pm_go (g := (34, _, [.int v], hq g c1 c2 c3 c4 c5 c6 c7 c8 c9 c10 c11 c12 c13 c14 c15 c16 c17 c18 c19 c20 c21 c22 c23 c24 (hc25 mTy mTm mMn mFn mRn mTn mVn mLr mTr mFl mFm mFp mSc mMp mEn) (hc26 mPa) (hc27 mTo) (hc28 mOt) (hc29 mNa) (hc30 mRe) (hc31 mMa) (hc32 mMy) (hc33 mPm) (hc34 mFy) (hc35 mFa) (hc36 mFr) (hc37 mFo) (hc38 mRt) (hc39 mRm) (hc40 mTt) (hc41 mTi) (hc42 mPl) (hc43 mVr) (hc44 mVf) (hc45 mVc) (hc46 mAr) (hc47 mTc) (hc48 mFt) (hc49 mGo) dyn, 0, 0)) rfl ?_
    refine pm_go (g := (99, _, [.int v], _, 0, 0)) rfl ?_
    refine pm_ret rfl (k0 _ _ _ _ _ _ ?_ (by omega))
    first | exact Or.inl ⟨by omega, h17⟩ | exact Or.inr (Or.inl ⟨by omega, by omega, rfl⟩) | exact Or.inr (Or.inr (Or.inl ⟨by omega, by omega, h17⟩)) | exact Or.inr (Or.inr (Or.inr (Or.inl ⟨by omega, by omega, rfl⟩))) | exact Or.inr (Or.inr (Or.inr (Or.inr (Or.inl ⟨by omega, by omega, h17⟩)))) | exact Or.inr (Or.inr (Or.inr (Or.inr (Or.inr ⟨by omega, Or.inl ⟨by assumption, rfl⟩⟩)))) | exact Or.inr (Or.inr (Or.inr (Or.inr (Or.inr ⟨by omega, Or.inr ⟨by assumption, h17⟩⟩))))
  have h1 := qF_ne (cx := (mNa (m).toNatClampNeg).toInt) (cy := 6) rfl (by decide) h1
  refine pm_go (g := (19, _, [.ref 25], _, 0, 0)) rfl ?_
  refine pm_go (g := (20, _, [.int (mRe (m).toNatClampNeg), .ref 25], _, 0, 0)) rfl ?_
  refine pm_go (g := (21, _, [.int 0, .int (mRe (m).toNatClampNeg), .ref 25], _, 0, 0)) rfl ?_
  refine pm_callD (z := 169) (as := [.ref 25, .int (mRe (m).toNatClampNeg), .int 0]) (rest := []) rfl ?_
  have h20 : (0 : Int32).toInt = 0 := by decide
  refine w2_X12_made (mRe (m).toNatClampNeg) 0 (by omega) (fun v22_r9 v22_n9 v22_e9 v22_t9 v22_i9 v22_l9 h21 h22 => ?_)
  show pm_WP 181 (24, [(3, .int (mRe (m).toNatClampNeg)), (0, .ref 25), (1, .int m), (2, .int v)], [.int v22_r9], _, 0, 0) _
  refine pm_go (g := (99, _, [.int v22_r9], _, 0, 0)) rfl ?_
  refine pm_ret rfl (k0 _ _ _ _ _ _ ?_ (by omega))
  first | exact Or.inl ⟨by omega, h21⟩ | exact Or.inr (Or.inl ⟨by omega, by omega, rfl⟩) | exact Or.inr (Or.inr (Or.inl ⟨by omega, by omega, h21⟩)) | exact Or.inr (Or.inr (Or.inr (Or.inl ⟨by omega, by omega, rfl⟩))) | exact Or.inr (Or.inr (Or.inr (Or.inr (Or.inl ⟨by omega, by omega, h21⟩)))) | exact Or.inr (Or.inr (Or.inr (Or.inr (Or.inr ⟨by omega, Or.inl ⟨by assumption, rfl⟩⟩)))) | exact Or.inr (Or.inr (Or.inr (Or.inr (Or.inr ⟨by omega, Or.inr ⟨by assumption, h21⟩⟩))))
/-- o is the member that a thing of type t has in m's place -/
def chJ (pa ot na my pm : Nat → Int32) (mn t m : Int32) (o : Nat) : Prop := smM na my pm (nI o) m ∧ hadM pa ot na my pm mn t (nI o)
/-- the reference's chosen, of the first k -/
def chL (pa ot na my pm : Nat → Int32) (mn t m r : Int32) (k : Nat) : Prop := (r = m ∧ ∀ j : Nat, j < k → ¬ chJ pa ot na my pm mn t m j) ∨ (∃ b : Nat, b < k ∧ r = nI b ∧ chJ pa ot na my pm mn t m b ∧ ∀ j : Nat, b < j → j < k → ¬ chJ pa ot na my pm mn t m j)
theorem chL_n {pa ot na my pm : Nat → Int32} {mn t m r : Int32} {k : Nat} (h : chL pa ot na my pm mn t m r k) (q : ¬ chJ pa ot na my pm mn t m k) : chL pa ot na my pm mn t m r (k + 1) := by
  rcases h with ⟨h1, h2⟩ | ⟨b, h1, h2, h3, h4⟩
  · refine Or.inl ⟨h1, fun j q1 => ?_⟩
    rcases Nat.lt_succ_iff_lt_or_eq.mp q1 with q1 | q1
    · exact h2 j q1
    · subst q1; exact q
  · refine Or.inr ⟨b, by omega, h2, h3, fun j q0 q1 => ?_⟩
    rcases Nat.lt_succ_iff_lt_or_eq.mp q1 with q1 | q1
    · exact h4 j q0 q1
    · subst q1; exact q
theorem chL_y {pa ot na my pm : Nat → Int32} {mn t m : Int32} {k : Nat} (q : chJ pa ot na my pm mn t m k) : chL pa ot na my pm mn t m (nI k) (k + 1) := Or.inr ⟨k, by omega, rfl, q, fun j q0 q1 => by omega⟩
set_option maxRecDepth 100000 in
set_option maxHeartbeats 4000000 in
theorem w_chosen_loop {g c1 c2 c3 c4 c5 c6 c7 c8 c9 c10 c11 c12 c13 c14 c15 c16 c17 c18 c19 c20 c21 c22 c23 c24 : pm_C} {dyn : pm_H} {mTy : Int32} {mPa : Nat → Int32} {mTo : Nat → Int32} {mTm : Int32} {mMn : Int32} {mOt : Nat → Int32} {mNa : Nat → Int32} {mRe : Nat → Int32} {mMa : Nat → Int32} {mMy : Nat → Int32} {mPm : Nat → Int32} {mFn : Int32} {mFy : Nat → Int32} {mFa : Nat → Int32} {mFr : Nat → Int32} {mRn : Int32} {mFo : Nat → Int32} {mRt : Nat → Int32} {mRm : Nat → Int32} {mTn : Int32} {mTt : Nat → Int32} {mTi : Nat → Int32} {mPl : Nat → Int32} {mVn : Int32} {mVr : Nat → Int32} {mVf : Nat → Int32} {mVc : Nat → Int32} {mAr : Nat → Int32} {mLr : Int32} {mTc : Nat → Int32} {mTr : Int32} {mFl : Int32} {mFt : Nat → Int32} {mFm : Int32} {mFp : Int32} {mSc : Int32} {mMp : Int32} {mEn : Int32} {mGo : Nat → Int32} {Q : pm_Q} (m rc : Int32) (hm : 0 ≤ m.toInt ∧ m.toInt < 40) (hr : 0 ≤ rc.toInt ∧ rc.toInt ≤ 60) (hp : paD mPa) (hy : myD mMy) (hn : 0 ≤ mMn.toInt ∧ mMn.toInt ≤ 40) : ∀ (n k : Nat) (b : Int32), ((k : Int) ≤ mMn.toInt) → (40 < k + n) → (chL mPa mOt mNa mMy mPm mMn (mTt rc.toNatClampNeg) m b k) → (∀ r9 : Int32, chL mPa mOt mNa mMy mPm mMn (mTt rc.toNatClampNeg) m r9 mMn.toNatClampNeg → Q (some (.int r9)) (hq g c1 c2 c3 c4 c5 c6 c7 c8 c9 c10 c11 c12 c13 c14 c15 c16 c17 c18 c19 c20 c21 c22 c23 c24 (hc25 mTy mTm mMn mFn mRn mTn mVn mLr mTr mFl mFm mFp mSc mMp mEn) (hc26 mPa) (hc27 mTo) (hc28 mOt) (hc29 mNa) (hc30 mRe) (hc31 mMa) (hc32 mMy) (hc33 mPm) (hc34 mFy) (hc35 mFa) (hc36 mFr) (hc37 mFo) (hc38 mRt) (hc39 mRm) (hc40 mTt) (hc41 mTi) (hc42 mPl) (hc43 mVr) (hc44 mVf) (hc45 mVc) (hc46 mAr) (hc47 mTc) (hc48 mFt) (hc49 mGo) dyn)) → pm_WP 183 (5, [(4, .int (nI k)), (3, .int b), (0, .ref 25), (1, .int m), (2, .int rc)], [], hq g c1 c2 c3 c4 c5 c6 c7 c8 c9 c10 c11 c12 c13 c14 c15 c16 c17 c18 c19 c20 c21 c22 c23 c24 (hc25 mTy mTm mMn mFn mRn mTn mVn mLr mTr mFl mFm mFp mSc mMp mEn) (hc26 mPa) (hc27 mTo) (hc28 mOt) (hc29 mNa) (hc30 mRe) (hc31 mMa) (hc32 mMy) (hc33 mPm) (hc34 mFy) (hc35 mFa) (hc36 mFr) (hc37 mFo) (hc38 mRt) (hc39 mRm) (hc40 mTt) (hc41 mTi) (hc42 mPl) (hc43 mVr) (hc44 mVf) (hc45 mVc) (hc46 mAr) (hc47 mTc) (hc48 mFt) (hc49 mGo) dyn, 0, 0) Q := by
  intro n
  induction n with
  | zero =>
    intro k b g1 g2 g3 k0
    exfalso; omega
  | succ n ih =>
    intro k b g1 g2 g3 k0
    have hk := nI_toInt (n := k) (by omega)
    have hkc : (nI k).toNatClampNeg = k := nI_clamp (by omega)
    refine pm_go (g := (7, [(4, .int (nI k)), (3, .int b), (0, .ref 25), (1, .int m), (2, .int rc)], [.int (nI k)], hq g c1 c2 c3 c4 c5 c6 c7 c8 c9 c10 c11 c12 c13 c14 c15 c16 c17 c18 c19 c20 c21 c22 c23 c24 (hc25 mTy mTm mMn mFn mRn mTn mVn mLr mTr mFl mFm mFp mSc mMp mEn) (hc26 mPa) (hc27 mTo) (hc28 mOt) (hc29 mNa) (hc30 mRe) (hc31 mMa) (hc32 mMy) (hc33 mPm) (hc34 mFy) (hc35 mFa) (hc36 mFr) (hc37 mFo) (hc38 mRt) (hc39 mRm) (hc40 mTt) (hc41 mTi) (hc42 mPl) (hc43 mVr) (hc44 mVf) (hc45 mVc) (hc46 mAr) (hc47 mTc) (hc48 mFt) (hc49 mGo) dyn, 0, 0)) rfl ?_
    refine pm_go (g := (8, _, [.ref 25, .int (nI k)], _, 0, 0)) rfl ?_
    refine pm_go (g := (11, _, [.int mMn, .int (nI k)], _, 0, 0)) rfl ?_
    refine pm_if2 (g := (48, [(4, .int (nI k)), (3, .int b), (0, .ref 25), (1, .int m), (2, .int rc)], [], hq g c1 c2 c3 c4 c5 c6 c7 c8 c9 c10 c11 c12 c13 c14 c15 c16 c17 c18 c19 c20 c21 c22 c23 c24 (hc25 mTy mTm mMn mFn mRn mTn mVn mLr mTr mFl mFm mFp mSc mMp mEn) (hc26 mPa) (hc27 mTo) (hc28 mOt) (hc29 mNa) (hc30 mRe) (hc31 mMa) (hc32 mMy) (hc33 mPm) (hc34 mFy) (hc35 mFa) (hc36 mFr) (hc37 mFo) (hc38 mRt) (hc39 mRm) (hc40 mTt) (hc41 mTi) (hc42 mPl) (hc43 mVr) (hc44 mVf) (hc45 mVc) (hc46 mAr) (hc47 mTc) (hc48 mFt) (hc49 mGo) dyn, 0, 0)) (h := (14, [(4, .int (nI k)), (3, .int b), (0, .ref 25), (1, .int m), (2, .int rc)], [], hq g c1 c2 c3 c4 c5 c6 c7 c8 c9 c10 c11 c12 c13 c14 c15 c16 c17 c18 c19 c20 c21 c22 c23 c24 (hc25 mTy mTm mMn mFn mRn mTn mVn mLr mTr mFl mFm mFp mSc mMp mEn) (hc26 mPa) (hc27 mTo) (hc28 mOt) (hc29 mNa) (hc30 mRe) (hc31 mMa) (hc32 mMy) (hc33 mPm) (hc34 mFy) (hc35 mFa) (hc36 mFr) (hc37 mFo) (hc38 mRt) (hc39 mRm) (hc40 mTt) (hc41 mTi) (hc42 mPl) (hc43 mVr) (hc44 mVf) (hc45 mVc) (hc46 mAr) (hc47 mTc) (hc48 mFt) (hc49 mGo) dyn, 0, 0)) rfl (fun h1 => ?_) (fun h1 => ?_)
    ·
      have h1 := qT_ge (cx := (nI k).toInt) (cy := (mMn).toInt) rfl rfl h1
      refine pm_go (g := (49, _, [.int b], _, 0, 0)) rfl ?_
      exact pm_ret rfl (k0 _ (by rw [show mMn.toNatClampNeg = k from tN (by omega)]; exact g3))
    have h1 := qF_ge (cx := (nI k).toInt) (cy := (mMn).toInt) rfl rfl h1
    refine pm_go (g := (15, _, [.ref 25], _, 0, 0)) rfl ?_
    refine pm_go (g := (17, _, [.int (nI k), .ref 25], _, 0, 0)) rfl ?_
    refine pm_go (g := (18, _, [.int m, .int (nI k), .ref 25], _, 0, 0)) rfl ?_
    refine pm_callD (z := 140) (as := [.ref 25, .int (nI k), .int m]) (rest := []) rfl ?_
    refine w_X12_isSame (nI k) m (by omega) (by omega) (by assumption) (fun h2 => ?_) (fun h3 => ?_)
    ·
      show pm_WP 183 (21, [(4, .int (nI k)), (3, .int b), (0, .ref 25), (1, .int m), (2, .int rc)], [.int 1], _, 0, 0) _
      refine pm_brF (h := (24, [(4, .int (nI k)), (3, .int b), (0, .ref 25), (1, .int m), (2, .int rc)], [], hq g c1 c2 c3 c4 c5 c6 c7 c8 c9 c10 c11 c12 c13 c14 c15 c16 c17 c18 c19 c20 c21 c22 c23 c24 (hc25 mTy mTm mMn mFn mRn mTn mVn mLr mTr mFl mFm mFp mSc mMp mEn) (hc26 mPa) (hc27 mTo) (hc28 mOt) (hc29 mNa) (hc30 mRe) (hc31 mMa) (hc32 mMy) (hc33 mPm) (hc34 mFy) (hc35 mFa) (hc36 mFr) (hc37 mFo) (hc38 mRt) (hc39 mRm) (hc40 mTt) (hc41 mTi) (hc42 mPl) (hc43 mVr) (hc44 mVf) (hc45 mVc) (hc46 mAr) (hc47 mTc) (hc48 mFt) (hc49 mGo) dyn, 0, 0)) rfl ?_
      refine pm_go (g := (25, _, [.ref 25], _, 0, 0)) rfl ?_
      refine pm_go (g := (26, _, [.ref 25, .ref 25], _, 0, 0)) rfl ?_
      refine pm_go (g := (29, _, [.ref 40, .ref 25], _, 0, 0)) rfl ?_
      refine pm_go (g := (30, _, [.int rc, .ref 40, .ref 25], _, 0, 0)) rfl ?_
      refine pm_sd (g := (31, _, [.int (mTt (rc).toNatClampNeg), .ref 25], _, 0, 0)) rfl (pm_inI (by omega) (by omega)) ?_
      refine pm_go (g := (33, _, [.int (nI k), .int (mTt (rc).toNatClampNeg), .ref 25], _, 0, 0)) rfl ?_
      refine pm_callD (z := 143) (as := [.ref 25, .int (mTt (rc).toNatClampNeg), .int (nI k)]) (rest := []) rfl ?_
      refine w_X12_isHad (mTt (rc).toNatClampNeg) (nI k) (by omega) (by assumption) (by assumption) (by omega) (fun h5 => ?_) (fun h6 => ?_)
      ·
        show pm_WP 183 (36, [(4, .int (nI k)), (3, .int b), (0, .ref 25), (1, .int m), (2, .int rc)], [.int 1], _, 0, 0) _
        refine pm_brF (h := (39, [(4, .int (nI k)), (3, .int b), (0, .ref 25), (1, .int m), (2, .int rc)], [], hq g c1 c2 c3 c4 c5 c6 c7 c8 c9 c10 c11 c12 c13 c14 c15 c16 c17 c18 c19 c20 c21 c22 c23 c24 (hc25 mTy mTm mMn mFn mRn mTn mVn mLr mTr mFl mFm mFp mSc mMp mEn) (hc26 mPa) (hc27 mTo) (hc28 mOt) (hc29 mNa) (hc30 mRe) (hc31 mMa) (hc32 mMy) (hc33 mPm) (hc34 mFy) (hc35 mFa) (hc36 mFr) (hc37 mFo) (hc38 mRt) (hc39 mRm) (hc40 mTt) (hc41 mTi) (hc42 mPl) (hc43 mVr) (hc44 mVf) (hc45 mVc) (hc46 mAr) (hc47 mTc) (hc48 mFt) (hc49 mGo) dyn, 0, 0)) rfl ?_
        refine pm_go (g := (41, _, [.int (nI k)], _, 0, 0)) rfl ?_
        refine pm_go (g := (42, [(3, .int (nI k)), (4, .int (nI k)), (0, .ref 25), (1, .int m), (2, .int rc)], [], _, 0, 0)) rfl ?_
        refine pm_go (g := (45, [(4, .int ((nI k) + 1)), (3, .int (nI k)), (0, .ref 25), (1, .int m), (2, .int rc)], [], _, 0, 0)) rfl ?_
        refine pm_go (g := (5, _, [], _, 0, 0)) rfl ?_
        refine pm_sub (lv := [(4, .int ((nI k) + 1)), (3, .int (nI k)), (0, .ref 25), (1, .int m), (2, .int rc)]) ?_ ⟨le_c (List.Mem.head _) (le_c (List.Mem.tail _ (List.Mem.head _)) (le_c (List.Mem.tail _ (List.Mem.tail _ (List.Mem.head _))) (le_c (List.Mem.tail _ (List.Mem.tail _ (List.Mem.tail _ (List.Mem.head _)))) (le_c (List.Mem.tail _ (List.Mem.tail _ (List.Mem.tail _ (List.Mem.tail _ (List.Mem.head _))))) le_n)))), (show ([4, 3, 0, 1, 2] : List Nat).Nodup by decide)⟩
        rw [nI_1]
        exact ih (k + 1) (nI k) (by omega) (by omega) (chL_y ⟨by assumption, by assumption⟩) k0
      show pm_WP 183 (36, [(4, .int (nI k)), (3, .int b), (0, .ref 25), (1, .int m), (2, .int rc)], [.int 0], hq g c1 c2 c3 c4 c5 c6 c7 c8 c9 c10 c11 c12 c13 c14 c15 c16 c17 c18 c19 c20 c21 c22 c23 c24 (hc25 mTy mTm mMn mFn mRn mTn mVn mLr mTr mFl mFm mFp mSc mMp mEn) (hc26 mPa) (hc27 mTo) (hc28 mOt) (hc29 mNa) (hc30 mRe) (hc31 mMa) (hc32 mMy) (hc33 mPm) (hc34 mFy) (hc35 mFa) (hc36 mFr) (hc37 mFo) (hc38 mRt) (hc39 mRm) (hc40 mTt) (hc41 mTi) (hc42 mPl) (hc43 mVr) (hc44 mVf) (hc45 mVc) (hc46 mAr) (hc47 mTc) (hc48 mFt) (hc49 mGo) dyn, 0, 0) _
      refine pm_brT (g := (42, [(4, .int (nI k)), (3, .int b), (0, .ref 25), (1, .int m), (2, .int rc)], [], hq g c1 c2 c3 c4 c5 c6 c7 c8 c9 c10 c11 c12 c13 c14 c15 c16 c17 c18 c19 c20 c21 c22 c23 c24 (hc25 mTy mTm mMn mFn mRn mTn mVn mLr mTr mFl mFm mFp mSc mMp mEn) (hc26 mPa) (hc27 mTo) (hc28 mOt) (hc29 mNa) (hc30 mRe) (hc31 mMa) (hc32 mMy) (hc33 mPm) (hc34 mFy) (hc35 mFa) (hc36 mFr) (hc37 mFo) (hc38 mRt) (hc39 mRm) (hc40 mTt) (hc41 mTi) (hc42 mPl) (hc43 mVr) (hc44 mVf) (hc45 mVc) (hc46 mAr) (hc47 mTc) (hc48 mFt) (hc49 mGo) dyn, 0, 0)) rfl ?_
      refine pm_go (g := (45, [(4, .int ((nI k) + 1)), (3, .int b), (0, .ref 25), (1, .int m), (2, .int rc)], [], _, 0, 0)) rfl ?_
      refine pm_go (g := (5, _, [], _, 0, 0)) rfl ?_
      refine pm_sub (lv := [(4, .int ((nI k) + 1)), (3, .int b), (0, .ref 25), (1, .int m), (2, .int rc)]) ?_ ⟨le_c (List.Mem.head _) (le_c (List.Mem.tail _ (List.Mem.head _)) (le_c (List.Mem.tail _ (List.Mem.tail _ (List.Mem.head _))) (le_c (List.Mem.tail _ (List.Mem.tail _ (List.Mem.tail _ (List.Mem.head _)))) (le_c (List.Mem.tail _ (List.Mem.tail _ (List.Mem.tail _ (List.Mem.tail _ (List.Mem.head _))))) le_n)))), (show ([4, 3, 0, 1, 2] : List Nat).Nodup by decide)⟩
      rw [nI_1]
      exact ih (k + 1) b (by omega) (by omega) (chL_n g3 (by rintro ⟨q1, q2⟩; contradiction)) k0
    show pm_WP 183 (21, [(4, .int (nI k)), (3, .int b), (0, .ref 25), (1, .int m), (2, .int rc)], [.int 0], hq g c1 c2 c3 c4 c5 c6 c7 c8 c9 c10 c11 c12 c13 c14 c15 c16 c17 c18 c19 c20 c21 c22 c23 c24 (hc25 mTy mTm mMn mFn mRn mTn mVn mLr mTr mFl mFm mFp mSc mMp mEn) (hc26 mPa) (hc27 mTo) (hc28 mOt) (hc29 mNa) (hc30 mRe) (hc31 mMa) (hc32 mMy) (hc33 mPm) (hc34 mFy) (hc35 mFa) (hc36 mFr) (hc37 mFo) (hc38 mRt) (hc39 mRm) (hc40 mTt) (hc41 mTi) (hc42 mPl) (hc43 mVr) (hc44 mVf) (hc45 mVc) (hc46 mAr) (hc47 mTc) (hc48 mFt) (hc49 mGo) dyn, 0, 0) _
    refine pm_brT (g := (42, [(4, .int (nI k)), (3, .int b), (0, .ref 25), (1, .int m), (2, .int rc)], [], hq g c1 c2 c3 c4 c5 c6 c7 c8 c9 c10 c11 c12 c13 c14 c15 c16 c17 c18 c19 c20 c21 c22 c23 c24 (hc25 mTy mTm mMn mFn mRn mTn mVn mLr mTr mFl mFm mFp mSc mMp mEn) (hc26 mPa) (hc27 mTo) (hc28 mOt) (hc29 mNa) (hc30 mRe) (hc31 mMa) (hc32 mMy) (hc33 mPm) (hc34 mFy) (hc35 mFa) (hc36 mFr) (hc37 mFo) (hc38 mRt) (hc39 mRm) (hc40 mTt) (hc41 mTi) (hc42 mPl) (hc43 mVr) (hc44 mVf) (hc45 mVc) (hc46 mAr) (hc47 mTc) (hc48 mFt) (hc49 mGo) dyn, 0, 0)) rfl ?_
    refine pm_go (g := (45, [(4, .int ((nI k) + 1)), (3, .int b), (0, .ref 25), (1, .int m), (2, .int rc)], [], _, 0, 0)) rfl ?_
    refine pm_go (g := (5, _, [], _, 0, 0)) rfl ?_
    refine pm_sub (lv := [(4, .int ((nI k) + 1)), (3, .int b), (0, .ref 25), (1, .int m), (2, .int rc)]) ?_ ⟨le_c (List.Mem.head _) (le_c (List.Mem.tail _ (List.Mem.head _)) (le_c (List.Mem.tail _ (List.Mem.tail _ (List.Mem.head _))) (le_c (List.Mem.tail _ (List.Mem.tail _ (List.Mem.tail _ (List.Mem.head _)))) (le_c (List.Mem.tail _ (List.Mem.tail _ (List.Mem.tail _ (List.Mem.tail _ (List.Mem.head _))))) le_n)))), (show ([4, 3, 0, 1, 2] : List Nat).Nodup by decide)⟩
    rw [nI_1]
    exact ih (k + 1) b (by omega) (by omega) (chL_n g3 (by rintro ⟨q1, q2⟩; contradiction)) k0
set_option maxRecDepth 100000 in
set_option maxHeartbeats 4000000 in
theorem w_X12_chosen {g c1 c2 c3 c4 c5 c6 c7 c8 c9 c10 c11 c12 c13 c14 c15 c16 c17 c18 c19 c20 c21 c22 c23 c24 : pm_C} {dyn : pm_H} {mTy : Int32} {mPa : Nat → Int32} {mTo : Nat → Int32} {mTm : Int32} {mMn : Int32} {mOt : Nat → Int32} {mNa : Nat → Int32} {mRe : Nat → Int32} {mMa : Nat → Int32} {mMy : Nat → Int32} {mPm : Nat → Int32} {mFn : Int32} {mFy : Nat → Int32} {mFa : Nat → Int32} {mFr : Nat → Int32} {mRn : Int32} {mFo : Nat → Int32} {mRt : Nat → Int32} {mRm : Nat → Int32} {mTn : Int32} {mTt : Nat → Int32} {mTi : Nat → Int32} {mPl : Nat → Int32} {mVn : Int32} {mVr : Nat → Int32} {mVf : Nat → Int32} {mVc : Nat → Int32} {mAr : Nat → Int32} {mLr : Int32} {mTc : Nat → Int32} {mTr : Int32} {mFl : Int32} {mFt : Nat → Int32} {mFm : Int32} {mFp : Int32} {mSc : Int32} {mMp : Int32} {mEn : Int32} {mGo : Nat → Int32} {Q : pm_Q} (m : Int32) (rc : Int32) (p0 : 0 ≤ m.toInt ∧ m.toInt < 40) (p1 : 0 ≤ rc.toInt ∧ rc.toInt ≤ 60) (p2 : paD mPa) (p3 : myD mMy) (p4 : 0 ≤ mMn.toInt ∧ mMn.toInt ≤ 40) (k0 : ∀ (r9 : Int32), chL mPa mOt mNa mMy mPm mMn (mTt rc.toNatClampNeg) m r9 mMn.toNatClampNeg → Q (some (.int r9)) (hq g c1 c2 c3 c4 c5 c6 c7 c8 c9 c10 c11 c12 c13 c14 c15 c16 c17 c18 c19 c20 c21 c22 c23 c24 (hc25 mTy mTm mMn mFn mRn mTn mVn mLr mTr mFl mFm mFp mSc mMp mEn) (hc26 mPa) (hc27 mTo) (hc28 mOt) (hc29 mNa) (hc30 mRe) (hc31 mMa) (hc32 mMy) (hc33 mPm) (hc34 mFy) (hc35 mFa) (hc36 mFr) (hc37 mFo) (hc38 mRt) (hc39 mRm) (hc40 mTt) (hc41 mTi) (hc42 mPl) (hc43 mVr) (hc44 mVf) (hc45 mVc) (hc46 mAr) (hc47 mTc) (hc48 mFt) (hc49 mGo) dyn)) : pm_WP 183 (0, [(0, .ref 25), (1, .int m), (2, .int rc)], [], hq g c1 c2 c3 c4 c5 c6 c7 c8 c9 c10 c11 c12 c13 c14 c15 c16 c17 c18 c19 c20 c21 c22 c23 c24 (hc25 mTy mTm mMn mFn mRn mTn mVn mLr mTr mFl mFm mFp mSc mMp mEn) (hc26 mPa) (hc27 mTo) (hc28 mOt) (hc29 mNa) (hc30 mRe) (hc31 mMa) (hc32 mMy) (hc33 mPm) (hc34 mFy) (hc35 mFa) (hc36 mFr) (hc37 mFo) (hc38 mRt) (hc39 mRm) (hc40 mTt) (hc41 mTi) (hc42 mPl) (hc43 mVr) (hc44 mVf) (hc45 mVc) (hc46 mAr) (hc47 mTc) (hc48 mFt) (hc49 mGo) dyn, 0, 0) Q := by
  refine pm_go (g := (1, [(0, .ref 25), (1, .int m), (2, .int rc)], [.int m], hq g c1 c2 c3 c4 c5 c6 c7 c8 c9 c10 c11 c12 c13 c14 c15 c16 c17 c18 c19 c20 c21 c22 c23 c24 (hc25 mTy mTm mMn mFn mRn mTn mVn mLr mTr mFl mFm mFp mSc mMp mEn) (hc26 mPa) (hc27 mTo) (hc28 mOt) (hc29 mNa) (hc30 mRe) (hc31 mMa) (hc32 mMy) (hc33 mPm) (hc34 mFy) (hc35 mFa) (hc36 mFr) (hc37 mFo) (hc38 mRt) (hc39 mRm) (hc40 mTt) (hc41 mTi) (hc42 mPl) (hc43 mVr) (hc44 mVf) (hc45 mVc) (hc46 mAr) (hc47 mTc) (hc48 mFt) (hc49 mGo) dyn, 0, 0)) rfl ?_
  refine pm_go (g := (2, [(3, .int m), (0, .ref 25), (1, .int m), (2, .int rc)], [], _, 0, 0)) rfl ?_
  refine pm_go (g := (3, _, [.int 0], _, 0, 0)) rfl ?_
  refine pm_go (g := (5, [(4, .int 0), (3, .int m), (0, .ref 25), (1, .int m), (2, .int rc)], [], _, 0, 0)) rfl ?_
  refine pm_sub (lv := [(4, .int 0), (3, .int m), (0, .ref 25), (1, .int m), (2, .int rc)]) ?_ ⟨le_c (List.Mem.head _) (le_c (List.Mem.tail _ (List.Mem.head _)) (le_c (List.Mem.tail _ (List.Mem.tail _ (List.Mem.head _))) (le_c (List.Mem.tail _ (List.Mem.tail _ (List.Mem.tail _ (List.Mem.head _)))) (le_c (List.Mem.tail _ (List.Mem.tail _ (List.Mem.tail _ (List.Mem.tail _ (List.Mem.head _))))) le_n)))), (show ([4, 3, 0, 1, 2] : List Nat).Nodup by decide)⟩
  exact w_chosen_loop m rc p0 p1 p2 p3 p4 41 0 m (by omega) (by omega) (Or.inl ⟨rfl, fun j q => absurd q (Nat.not_lt_zero j)⟩) k0
/-- the reference's sized -/
def szF (ar fa : Nat → Int32) (f row : Int32) (z : cs_T) : Int32 × cs_T := (fun u : Int32 × cs_T => mdF row u.1 (u.2.1, (if u.2.2.1.toInt = 0 then (if u.1.toInt < 0 then -22 else if 20 < u.1.toInt then -2 else 0) else u.2.2.1), u.2.2.2)) (tuF (ar 0) (fa (3 * f).toNatClampNeg) 10 z)
theorem sz_0 {ar fa : Nat → Int32} {f row : Int32} {z : cs_T} {n tn en e : Int32} {x : (Nat → Int32) × (Nat → Int32) × (Nat → Int32)} (h : (n, tn, en, x) = tuF (ar 0) (fa (3 * f).toNatClampNeg) 10 z) (he : e = if en.toInt = 0 then (if n.toInt < 0 then -22 else if 20 < n.toInt then -2 else 0) else en) : szF ar fa f row z = mdF row n (tn, e, x) := by
  unfold szF
  rw [← h]
  dsimp only
  rw [he]
set_option maxRecDepth 100000 in
set_option maxHeartbeats 4000000 in
theorem w_X12_sized {g c1 c2 c3 c4 c5 c6 c7 c8 c9 c10 c11 c12 c13 c14 c15 c16 c17 c18 c19 c20 c21 c22 c23 c24 : pm_C} {dyn : pm_H} {mTy : Int32} {mPa : Nat → Int32} {mTo : Nat → Int32} {mTm : Int32} {mMn : Int32} {mOt : Nat → Int32} {mNa : Nat → Int32} {mRe : Nat → Int32} {mMa : Nat → Int32} {mMy : Nat → Int32} {mPm : Nat → Int32} {mFn : Int32} {mFy : Nat → Int32} {mFa : Nat → Int32} {mFr : Nat → Int32} {mRn : Int32} {mFo : Nat → Int32} {mRt : Nat → Int32} {mRm : Nat → Int32} {mTn : Int32} {mTt : Nat → Int32} {mTi : Nat → Int32} {mPl : Nat → Int32} {mVn : Int32} {mVr : Nat → Int32} {mVf : Nat → Int32} {mVc : Nat → Int32} {mAr : Nat → Int32} {mLr : Int32} {mTc : Nat → Int32} {mTr : Int32} {mFl : Int32} {mFt : Nat → Int32} {mFm : Int32} {mFp : Int32} {mSc : Int32} {mMp : Int32} {mEn : Int32} {mGo : Nat → Int32} {Q : pm_Q} (f : Int32) (row : Int32) (p0 : 0 ≤ f.toInt ∧ f.toInt < 10) (p1 : 0 ≤ mTn.toInt ∧ mTn.toInt ≤ 60) (p2 : (mFa (3 * f).toNatClampNeg).toInt ≠ 10 → (0 ≤ (mAr 0).toInt ∧ (mAr 0).toInt ≤ 60)) (k0 : ∀ (r9 : Int32), ∀ (n9 : Int32), ∀ (e9 : Int32), ∀ (t9 : Nat → Int32), ∀ (i9 : Nat → Int32), ∀ (l9 : Nat → Int32), ((r9, n9, e9, t9, i9, l9) = szF mAr mFa f row (mTn, mEn, mTt, mTi, mPl)) → (((0 ≤ n9.toInt ∧ n9.toInt ≤ 60) ∧ mTn.toInt ≤ n9.toInt)) → Q (some (.int r9)) (hq g c1 c2 c3 c4 c5 c6 c7 c8 c9 c10 c11 c12 c13 c14 c15 c16 c17 c18 c19 c20 c21 c22 c23 c24 (hc25 mTy mTm mMn mFn mRn n9 mVn mLr mTr mFl mFm mFp mSc mMp e9) (hc26 mPa) (hc27 mTo) (hc28 mOt) (hc29 mNa) (hc30 mRe) (hc31 mMa) (hc32 mMy) (hc33 mPm) (hc34 mFy) (hc35 mFa) (hc36 mFr) (hc37 mFo) (hc38 mRt) (hc39 mRm) (hc40 t9) (hc41 i9) (hc42 l9) (hc43 mVr) (hc44 mVf) (hc45 mVc) (hc46 mAr) (hc47 mTc) (hc48 mFt) (hc49 mGo) dyn)) : pm_WP 184 (0, [(0, .ref 25), (1, .int f), (2, .int row)], [], hq g c1 c2 c3 c4 c5 c6 c7 c8 c9 c10 c11 c12 c13 c14 c15 c16 c17 c18 c19 c20 c21 c22 c23 c24 (hc25 mTy mTm mMn mFn mRn mTn mVn mLr mTr mFl mFm mFp mSc mMp mEn) (hc26 mPa) (hc27 mTo) (hc28 mOt) (hc29 mNa) (hc30 mRe) (hc31 mMa) (hc32 mMy) (hc33 mPm) (hc34 mFy) (hc35 mFa) (hc36 mFr) (hc37 mFo) (hc38 mRt) (hc39 mRm) (hc40 mTt) (hc41 mTi) (hc42 mPl) (hc43 mVr) (hc44 mVf) (hc45 mVc) (hc46 mAr) (hc47 mTc) (hc48 mFt) (hc49 mGo) dyn, 0, 0) Q := by
  refine pm_go (g := (1, [(0, .ref 25), (1, .int f), (2, .int row)], [.ref 25], hq g c1 c2 c3 c4 c5 c6 c7 c8 c9 c10 c11 c12 c13 c14 c15 c16 c17 c18 c19 c20 c21 c22 c23 c24 (hc25 mTy mTm mMn mFn mRn mTn mVn mLr mTr mFl mFm mFp mSc mMp mEn) (hc26 mPa) (hc27 mTo) (hc28 mOt) (hc29 mNa) (hc30 mRe) (hc31 mMa) (hc32 mMy) (hc33 mPm) (hc34 mFy) (hc35 mFa) (hc36 mFr) (hc37 mFo) (hc38 mRt) (hc39 mRm) (hc40 mTt) (hc41 mTi) (hc42 mPl) (hc43 mVr) (hc44 mVf) (hc45 mVc) (hc46 mAr) (hc47 mTc) (hc48 mFt) (hc49 mGo) dyn, 0, 0)) rfl ?_
  refine pm_go (g := (2, _, [.ref 25, .ref 25], _, 0, 0)) rfl ?_
  refine pm_go (g := (5, _, [.ref 46, .ref 25], _, 0, 0)) rfl ?_
  refine pm_go (g := (6, _, [.int 0, .ref 46, .ref 25], _, 0, 0)) rfl ?_
  refine pm_go (g := (7, _, [.int (mAr 0), .ref 25], _, 0, 0)) rfl ?_
  refine pm_go (g := (8, _, [.ref 25, .int (mAr 0), .ref 25], _, 0, 0)) rfl ?_
  refine pm_go (g := (11, _, [.ref 35, .int (mAr 0), .ref 25], _, 0, 0)) rfl ?_
  refine pm_go (g := (12, _, [.int 3, .ref 35, .int (mAr 0), .ref 25], _, 0, 0)) rfl ?_
  refine pm_go (g := (13, _, [.int f, .int 3, .ref 35, .int (mAr 0), .ref 25], _, 0, 0)) rfl ?_
  refine pm_go (g := (14, _, [.int (3 * f), .ref 35, .int (mAr 0), .ref 25], _, 0, 0)) rfl ?_
  try have h1 : (3 * f).toInt = 3 * (f).toInt := iMul (x := 3) (y := (f).toInt) (by decide) rfl (by omega) (by omega)
  refine pm_sd (g := (15, _, [.int (mFa (3 * f).toNatClampNeg), .int (mAr 0), .ref 25], _, 0, 0)) rfl (pm_inI (by omega) (by omega)) ?_
  refine pm_go (g := (17, _, [.int 10, .int (mFa (3 * f).toNatClampNeg), .int (mAr 0), .ref 25], _, 0, 0)) rfl ?_
  refine pm_callD (z := 178) (as := [.ref 25, .int (mAr 0), .int (mFa (3 * f).toNatClampNeg), .int 10]) (rest := []) rfl ?_
  have h2 : (10 : Int32).toInt = 10 := by decide
  refine w_X12_turned (mAr 0) (mFa (3 * f).toNatClampNeg) 10 (by omega) (by omega) (fun v4_r9 v4_n9 v4_e9 v4_t9 v4_i9 v4_l9 h3 h4 => ?_)
  show pm_WP 184 (20, [(0, .ref 25), (1, .int f), (2, .int row)], [.int v4_r9], _, 0, 0) _
  refine pm_go (g := (21, [(3, .int v4_r9), (0, .ref 25), (1, .int f), (2, .int row)], [], _, 0, 0)) rfl ?_
  refine pm_go (g := (22, _, [.ref 25], _, 0, 0)) rfl ?_
  refine pm_go (g := (25, _, [.int v4_e9], _, 0, 0)) rfl ?_
  refine pm_if2 (g := (53, [(3, .int v4_r9), (0, .ref 25), (1, .int f), (2, .int row)], [], hq g c1 c2 c3 c4 c5 c6 c7 c8 c9 c10 c11 c12 c13 c14 c15 c16 c17 c18 c19 c20 c21 c22 c23 c24 (hc25 mTy mTm mMn mFn mRn v4_n9 mVn mLr mTr mFl mFm mFp mSc mMp v4_e9) (hc26 mPa) (hc27 mTo) (hc28 mOt) (hc29 mNa) (hc30 mRe) (hc31 mMa) (hc32 mMy) (hc33 mPm) (hc34 mFy) (hc35 mFa) (hc36 mFr) (hc37 mFo) (hc38 mRt) (hc39 mRm) (hc40 v4_t9) (hc41 v4_i9) (hc42 v4_l9) (hc43 mVr) (hc44 mVf) (hc45 mVc) (hc46 mAr) (hc47 mTc) (hc48 mFt) (hc49 mGo) dyn, 0, 0)) (h := (28, [(3, .int v4_r9), (0, .ref 25), (1, .int f), (2, .int row)], [], hq g c1 c2 c3 c4 c5 c6 c7 c8 c9 c10 c11 c12 c13 c14 c15 c16 c17 c18 c19 c20 c21 c22 c23 c24 (hc25 mTy mTm mMn mFn mRn v4_n9 mVn mLr mTr mFl mFm mFp mSc mMp v4_e9) (hc26 mPa) (hc27 mTo) (hc28 mOt) (hc29 mNa) (hc30 mRe) (hc31 mMa) (hc32 mMy) (hc33 mPm) (hc34 mFy) (hc35 mFa) (hc36 mFr) (hc37 mFo) (hc38 mRt) (hc39 mRm) (hc40 v4_t9) (hc41 v4_i9) (hc42 v4_l9) (hc43 mVr) (hc44 mVf) (hc45 mVc) (hc46 mAr) (hc47 mTc) (hc48 mFt) (hc49 mGo) dyn, 0, 0)) rfl (fun h6 => ?_) (fun h6 => ?_)
  ·
    have h6 := qT_ne (cx := (v4_e9).toInt) (cy := 0) rfl (by decide) h6
    refine pm_go (g := (54, _, [.ref 25], _, 0, 0)) rfl ?_
    refine pm_go (g := (55, _, [.int row, .ref 25], _, 0, 0)) rfl ?_
    refine pm_go (g := (56, _, [.int v4_r9, .int row, .ref 25], _, 0, 0)) rfl ?_
    refine pm_callD (z := 169) (as := [.ref 25, .int row, .int v4_r9]) (rest := []) rfl ?_
    refine w2_X12_made row v4_r9 (by omega) (fun v8_r9 v8_n9 v8_e9 v8_t9 v8_i9 v8_l9 h7 h8 => ?_)
    show pm_WP 184 (59, [(3, .int v4_r9), (0, .ref 25), (1, .int f), (2, .int row)], [.int v8_r9], _, 0, 0) _
    refine pm_ret rfl (k0 _ _ _ _ _ _ (h7.trans (sz_0 h3 ?_).symm) (by omega))
    first | rw [if_pos (by omega), if_pos (by omega)] | rw [if_pos (by omega), if_neg (by omega), if_pos (by omega)] | rw [if_pos (by omega), if_neg (by omega), if_neg (by omega)] | rw [if_neg (by omega)]
  have h6 := qF_ne (cx := (v4_e9).toInt) (cy := 0) rfl (by decide) h6
  refine pm_go (g := (29, _, [.ref 25], hq g c1 c2 c3 c4 c5 c6 c7 c8 c9 c10 c11 c12 c13 c14 c15 c16 c17 c18 c19 c20 c21 c22 c23 c24 (hc25 mTy mTm mMn mFn mRn v4_n9 mVn mLr mTr mFl mFm mFp mSc mMp v4_e9) (hc26 mPa) (hc27 mTo) (hc28 mOt) (hc29 mNa) (hc30 mRe) (hc31 mMa) (hc32 mMy) (hc33 mPm) (hc34 mFy) (hc35 mFa) (hc36 mFr) (hc37 mFo) (hc38 mRt) (hc39 mRm) (hc40 v4_t9) (hc41 v4_i9) (hc42 v4_l9) (hc43 mVr) (hc44 mVf) (hc45 mVc) (hc46 mAr) (hc47 mTc) (hc48 mFt) (hc49 mGo) dyn, 0, 0)) rfl ?_
  refine pm_go (g := (30, _, [.int v4_r9, .ref 25], _, 0, 0)) rfl ?_
  refine pm_if2 (g := (38, [(3, .int v4_r9), (0, .ref 25), (1, .int f), (2, .int row)], [.ref 25], hq g c1 c2 c3 c4 c5 c6 c7 c8 c9 c10 c11 c12 c13 c14 c15 c16 c17 c18 c19 c20 c21 c22 c23 c24 (hc25 mTy mTm mMn mFn mRn v4_n9 mVn mLr mTr mFl mFm mFp mSc mMp v4_e9) (hc26 mPa) (hc27 mTo) (hc28 mOt) (hc29 mNa) (hc30 mRe) (hc31 mMa) (hc32 mMy) (hc33 mPm) (hc34 mFy) (hc35 mFa) (hc36 mFr) (hc37 mFo) (hc38 mRt) (hc39 mRm) (hc40 v4_t9) (hc41 v4_i9) (hc42 v4_l9) (hc43 mVr) (hc44 mVf) (hc45 mVc) (hc46 mAr) (hc47 mTc) (hc48 mFt) (hc49 mGo) dyn, 0, 0)) (h := (33, [(3, .int v4_r9), (0, .ref 25), (1, .int f), (2, .int row)], [.ref 25], hq g c1 c2 c3 c4 c5 c6 c7 c8 c9 c10 c11 c12 c13 c14 c15 c16 c17 c18 c19 c20 c21 c22 c23 c24 (hc25 mTy mTm mMn mFn mRn v4_n9 mVn mLr mTr mFl mFm mFp mSc mMp v4_e9) (hc26 mPa) (hc27 mTo) (hc28 mOt) (hc29 mNa) (hc30 mRe) (hc31 mMa) (hc32 mMy) (hc33 mPm) (hc34 mFy) (hc35 mFa) (hc36 mFr) (hc37 mFo) (hc38 mRt) (hc39 mRm) (hc40 v4_t9) (hc41 v4_i9) (hc42 v4_l9) (hc43 mVr) (hc44 mVf) (hc45 mVc) (hc46 mAr) (hc47 mTc) (hc48 mFt) (hc49 mGo) dyn, 0, 0)) rfl (fun h10 => ?_) (fun h10 => ?_)
  ·
    have h10 := qT_ge (cx := (v4_r9).toInt) (cy := 0) rfl (by decide) h10
    refine pm_go (g := (39, _, [.int v4_r9, .ref 25], _, 0, 0)) rfl ?_
    refine pm_go (g := (41, _, [.int 20, .int v4_r9, .ref 25], _, 0, 0)) rfl ?_
    refine pm_if2 (g := (49, [(3, .int v4_r9), (0, .ref 25), (1, .int f), (2, .int row)], [.ref 25], hq g c1 c2 c3 c4 c5 c6 c7 c8 c9 c10 c11 c12 c13 c14 c15 c16 c17 c18 c19 c20 c21 c22 c23 c24 (hc25 mTy mTm mMn mFn mRn v4_n9 mVn mLr mTr mFl mFm mFp mSc mMp v4_e9) (hc26 mPa) (hc27 mTo) (hc28 mOt) (hc29 mNa) (hc30 mRe) (hc31 mMa) (hc32 mMy) (hc33 mPm) (hc34 mFy) (hc35 mFa) (hc36 mFr) (hc37 mFo) (hc38 mRt) (hc39 mRm) (hc40 v4_t9) (hc41 v4_i9) (hc42 v4_l9) (hc43 mVr) (hc44 mVf) (hc45 mVc) (hc46 mAr) (hc47 mTc) (hc48 mFt) (hc49 mGo) dyn, 0, 0)) (h := (44, [(3, .int v4_r9), (0, .ref 25), (1, .int f), (2, .int row)], [.ref 25], hq g c1 c2 c3 c4 c5 c6 c7 c8 c9 c10 c11 c12 c13 c14 c15 c16 c17 c18 c19 c20 c21 c22 c23 c24 (hc25 mTy mTm mMn mFn mRn v4_n9 mVn mLr mTr mFl mFm mFp mSc mMp v4_e9) (hc26 mPa) (hc27 mTo) (hc28 mOt) (hc29 mNa) (hc30 mRe) (hc31 mMa) (hc32 mMy) (hc33 mPm) (hc34 mFy) (hc35 mFa) (hc36 mFr) (hc37 mFo) (hc38 mRt) (hc39 mRm) (hc40 v4_t9) (hc41 v4_i9) (hc42 v4_l9) (hc43 mVr) (hc44 mVf) (hc45 mVc) (hc46 mAr) (hc47 mTc) (hc48 mFt) (hc49 mGo) dyn, 0, 0)) rfl (fun h11 => ?_) (fun h11 => ?_)
    ·
      have h11 := qT_le (cx := (v4_r9).toInt) (cy := 20) rfl (by decide) h11
      refine pm_go (g := (50, _, [.int 0, .ref 25], _, 0, 0)) rfl ?_
      refine pm_go (g := (53, _, [], hq g c1 c2 c3 c4 c5 c6 c7 c8 c9 c10 c11 c12 c13 c14 c15 c16 c17 c18 c19 c20 c21 c22 c23 c24 (hc25 mTy mTm mMn mFn mRn v4_n9 mVn mLr mTr mFl mFm mFp mSc mMp 0) (hc26 mPa) (hc27 mTo) (hc28 mOt) (hc29 mNa) (hc30 mRe) (hc31 mMa) (hc32 mMy) (hc33 mPm) (hc34 mFy) (hc35 mFa) (hc36 mFr) (hc37 mFo) (hc38 mRt) (hc39 mRm) (hc40 v4_t9) (hc41 v4_i9) (hc42 v4_l9) (hc43 mVr) (hc44 mVf) (hc45 mVc) (hc46 mAr) (hc47 mTc) (hc48 mFt) (hc49 mGo) dyn, 0, 0)) rfl ?_
      refine pm_go (g := (54, _, [.ref 25], _, 0, 0)) rfl ?_
      refine pm_go (g := (55, _, [.int row, .ref 25], _, 0, 0)) rfl ?_
      refine pm_go (g := (56, _, [.int v4_r9, .int row, .ref 25], _, 0, 0)) rfl ?_
      refine pm_callD (z := 169) (as := [.ref 25, .int row, .int v4_r9]) (rest := []) rfl ?_
      have h12 : (0 : Int32).toInt = 0 := by decide
      refine w2_X12_made row v4_r9 (by omega) (fun v14_r9 v14_n9 v14_e9 v14_t9 v14_i9 v14_l9 h13 h14 => ?_)
      show pm_WP 184 (59, [(3, .int v4_r9), (0, .ref 25), (1, .int f), (2, .int row)], [.int v14_r9], _, 0, 0) _
      refine pm_ret rfl (k0 _ _ _ _ _ _ (h13.trans (sz_0 h3 ?_).symm) (by omega))
      first | rw [if_pos (by omega), if_pos (by omega)] | rw [if_pos (by omega), if_neg (by omega), if_pos (by omega)] | rw [if_pos (by omega), if_neg (by omega), if_neg (by omega)] | rw [if_neg (by omega)]
    have h11 := qF_le (cx := (v4_r9).toInt) (cy := 20) rfl (by decide) h11
    refine pm_go (g := (46, _, [.int (-2), .ref 25], hq g c1 c2 c3 c4 c5 c6 c7 c8 c9 c10 c11 c12 c13 c14 c15 c16 c17 c18 c19 c20 c21 c22 c23 c24 (hc25 mTy mTm mMn mFn mRn v4_n9 mVn mLr mTr mFl mFm mFp mSc mMp v4_e9) (hc26 mPa) (hc27 mTo) (hc28 mOt) (hc29 mNa) (hc30 mRe) (hc31 mMa) (hc32 mMy) (hc33 mPm) (hc34 mFy) (hc35 mFa) (hc36 mFr) (hc37 mFo) (hc38 mRt) (hc39 mRm) (hc40 v4_t9) (hc41 v4_i9) (hc42 v4_l9) (hc43 mVr) (hc44 mVf) (hc45 mVc) (hc46 mAr) (hc47 mTc) (hc48 mFt) (hc49 mGo) dyn, 0, 0)) rfl ?_
    refine pm_go (g := (50, _, [.int (-2), .ref 25], _, 0, 0)) rfl ?_
    refine pm_go (g := (53, _, [], hq g c1 c2 c3 c4 c5 c6 c7 c8 c9 c10 c11 c12 c13 c14 c15 c16 c17 c18 c19 c20 c21 c22 c23 c24 (hc25 mTy mTm mMn mFn mRn v4_n9 mVn mLr mTr mFl mFm mFp mSc mMp (-2)) (hc26 mPa) (hc27 mTo) (hc28 mOt) (hc29 mNa) (hc30 mRe) (hc31 mMa) (hc32 mMy) (hc33 mPm) (hc34 mFy) (hc35 mFa) (hc36 mFr) (hc37 mFo) (hc38 mRt) (hc39 mRm) (hc40 v4_t9) (hc41 v4_i9) (hc42 v4_l9) (hc43 mVr) (hc44 mVf) (hc45 mVc) (hc46 mAr) (hc47 mTc) (hc48 mFt) (hc49 mGo) dyn, 0, 0)) rfl ?_
    refine pm_go (g := (54, _, [.ref 25], _, 0, 0)) rfl ?_
    refine pm_go (g := (55, _, [.int row, .ref 25], _, 0, 0)) rfl ?_
    refine pm_go (g := (56, _, [.int v4_r9, .int row, .ref 25], _, 0, 0)) rfl ?_
    refine pm_callD (z := 169) (as := [.ref 25, .int row, .int v4_r9]) (rest := []) rfl ?_
    have h16 : ((-2) : Int32).toInt = -2 := by decide
    refine w2_X12_made row v4_r9 (by omega) (fun v18_r9 v18_n9 v18_e9 v18_t9 v18_i9 v18_l9 h17 h18 => ?_)
    show pm_WP 184 (59, [(3, .int v4_r9), (0, .ref 25), (1, .int f), (2, .int row)], [.int v18_r9], _, 0, 0) _
    refine pm_ret rfl (k0 _ _ _ _ _ _ (h17.trans (sz_0 h3 ?_).symm) (by omega))
    first | rw [if_pos (by omega), if_pos (by omega)] | rw [if_pos (by omega), if_neg (by omega), if_pos (by omega)] | rw [if_pos (by omega), if_neg (by omega), if_neg (by omega)] | rw [if_neg (by omega)]
  have h10 := qF_ge (cx := (v4_r9).toInt) (cy := 0) rfl (by decide) h10
  refine pm_go (g := (35, _, [.int (-22), .ref 25], hq g c1 c2 c3 c4 c5 c6 c7 c8 c9 c10 c11 c12 c13 c14 c15 c16 c17 c18 c19 c20 c21 c22 c23 c24 (hc25 mTy mTm mMn mFn mRn v4_n9 mVn mLr mTr mFl mFm mFp mSc mMp v4_e9) (hc26 mPa) (hc27 mTo) (hc28 mOt) (hc29 mNa) (hc30 mRe) (hc31 mMa) (hc32 mMy) (hc33 mPm) (hc34 mFy) (hc35 mFa) (hc36 mFr) (hc37 mFo) (hc38 mRt) (hc39 mRm) (hc40 v4_t9) (hc41 v4_i9) (hc42 v4_l9) (hc43 mVr) (hc44 mVf) (hc45 mVc) (hc46 mAr) (hc47 mTc) (hc48 mFt) (hc49 mGo) dyn, 0, 0)) rfl ?_
  refine pm_go (g := (50, _, [.int (-22), .ref 25], _, 0, 0)) rfl ?_
  refine pm_go (g := (53, _, [], hq g c1 c2 c3 c4 c5 c6 c7 c8 c9 c10 c11 c12 c13 c14 c15 c16 c17 c18 c19 c20 c21 c22 c23 c24 (hc25 mTy mTm mMn mFn mRn v4_n9 mVn mLr mTr mFl mFm mFp mSc mMp (-22)) (hc26 mPa) (hc27 mTo) (hc28 mOt) (hc29 mNa) (hc30 mRe) (hc31 mMa) (hc32 mMy) (hc33 mPm) (hc34 mFy) (hc35 mFa) (hc36 mFr) (hc37 mFo) (hc38 mRt) (hc39 mRm) (hc40 v4_t9) (hc41 v4_i9) (hc42 v4_l9) (hc43 mVr) (hc44 mVf) (hc45 mVc) (hc46 mAr) (hc47 mTc) (hc48 mFt) (hc49 mGo) dyn, 0, 0)) rfl ?_
  refine pm_go (g := (54, _, [.ref 25], _, 0, 0)) rfl ?_
  refine pm_go (g := (55, _, [.int row, .ref 25], _, 0, 0)) rfl ?_
  refine pm_go (g := (56, _, [.int v4_r9, .int row, .ref 25], _, 0, 0)) rfl ?_
  refine pm_callD (z := 169) (as := [.ref 25, .int row, .int v4_r9]) (rest := []) rfl ?_
  have h20 : ((-22) : Int32).toInt = -22 := by decide
  refine w2_X12_made row v4_r9 (by omega) (fun v22_r9 v22_n9 v22_e9 v22_t9 v22_i9 v22_l9 h21 h22 => ?_)
  show pm_WP 184 (59, [(3, .int v4_r9), (0, .ref 25), (1, .int f), (2, .int row)], [.int v22_r9], _, 0, 0) _
  refine pm_ret rfl (k0 _ _ _ _ _ _ (h21.trans (sz_0 h3 ?_).symm) (by omega))
  first | rw [if_pos (by omega), if_pos (by omega)] | rw [if_pos (by omega), if_neg (by omega), if_pos (by omega)] | rw [if_pos (by omega), if_neg (by omega), if_neg (by omega)] | rw [if_neg (by omega)]
theorem sh_50 (w : Nat → Int32) (i : Nat) {k : Nat} (e : k = 50) : (if i + 1 < k then w (i + 1) else w i) = shT w i := by
  unfold shT
  by_cases e8 : i < 49
  · rw [if_pos (by omega), if_pos e8]
  · rw [if_neg (by omega), if_neg e8]
set_option maxRecDepth 100000 in
set_option maxHeartbeats 4000000 in
theorem w_remember_loop {g c1 c2 c3 c4 c5 c6 c7 c8 c9 c10 c11 c12 c13 c14 c15 c16 c17 c18 c19 c20 c21 c22 c23 c24 : pm_C} {dyn : pm_H} {mTy : Int32} {mPa : Nat → Int32} {mTo : Nat → Int32} {mTm : Int32} {mMn : Int32} {mOt : Nat → Int32} {mNa : Nat → Int32} {mRe : Nat → Int32} {mMa : Nat → Int32} {mMy : Nat → Int32} {mPm : Nat → Int32} {mFn : Int32} {mFy : Nat → Int32} {mFa : Nat → Int32} {mFr : Nat → Int32} {mRn : Int32} {mFo : Nat → Int32} {mRt : Nat → Int32} {mRm : Nat → Int32} {mTn : Int32} {mTt : Nat → Int32} {mTi : Nat → Int32} {mPl : Nat → Int32} {mVn : Int32} {mVr : Nat → Int32} {mVf : Nat → Int32} {mVc : Nat → Int32} {mAr : Nat → Int32} {mLr : Int32} {mTc : Nat → Int32} {mTr : Int32} {mFl : Int32} {mFt : Nat → Int32} {mFm : Int32} {mFp : Int32} {mSc : Int32} {mMp : Int32} {mEn : Int32} {mGo : Nat → Int32} {Q : pm_Q} (m : Int32) : ∀ (n k : Nat) (u0 : Nat → Int32), (k ≤ 50) → (50 < k + n) → (1 ≤ k) → (∀ i : Nat, u0 i = if i + 1 < k then mTc (i + 1) else mTc i) → (pm_WP 182 (37, [(0, .ref 25), (1, .int m)], [], hq g c1 c2 c3 c4 c5 c6 c7 c8 c9 c10 c11 c12 c13 c14 c15 c16 c17 c18 c19 c20 c21 c22 c23 c24 (hc25 mTy mTm mMn mFn mRn mTn mVn mLr mTr mFl mFm mFp mSc mMp mEn) (hc26 mPa) (hc27 mTo) (hc28 mOt) (hc29 mNa) (hc30 mRe) (hc31 mMa) (hc32 mMy) (hc33 mPm) (hc34 mFy) (hc35 mFa) (hc36 mFr) (hc37 mFo) (hc38 mRt) (hc39 mRm) (hc40 mTt) (hc41 mTi) (hc42 mPl) (hc43 mVr) (hc44 mVf) (hc45 mVc) (hc46 mAr) (hc47 (shT mTc)) (hc48 mFt) (hc49 mGo) dyn, 0, 0) Q) → pm_WP 182 (11, [(2, .int (nI k)), (0, .ref 25), (1, .int m)], [], hq g c1 c2 c3 c4 c5 c6 c7 c8 c9 c10 c11 c12 c13 c14 c15 c16 c17 c18 c19 c20 c21 c22 c23 c24 (hc25 mTy mTm mMn mFn mRn mTn mVn mLr mTr mFl mFm mFp mSc mMp mEn) (hc26 mPa) (hc27 mTo) (hc28 mOt) (hc29 mNa) (hc30 mRe) (hc31 mMa) (hc32 mMy) (hc33 mPm) (hc34 mFy) (hc35 mFa) (hc36 mFr) (hc37 mFo) (hc38 mRt) (hc39 mRm) (hc40 mTt) (hc41 mTi) (hc42 mPl) (hc43 mVr) (hc44 mVf) (hc45 mVc) (hc46 mAr) (hc47 u0) (hc48 mFt) (hc49 mGo) dyn, 0, 0) Q := by
  intro n
  induction n with
  | zero =>
    intro k u0 g1 g2 g0 g3 k0
    exfalso; omega
  | succ n ih =>
    intro k u0 g1 g2 g0 g3 k0
    have hk := nI_toInt (n := k) (by omega)
    have hkc : (nI k).toNatClampNeg = k := nI_clamp (by omega)
    refine pm_go (g := (12, [(2, .int (nI k)), (0, .ref 25), (1, .int m)], [.int (nI k)], hq g c1 c2 c3 c4 c5 c6 c7 c8 c9 c10 c11 c12 c13 c14 c15 c16 c17 c18 c19 c20 c21 c22 c23 c24 (hc25 mTy mTm mMn mFn mRn mTn mVn mLr mTr mFl mFm mFp mSc mMp mEn) (hc26 mPa) (hc27 mTo) (hc28 mOt) (hc29 mNa) (hc30 mRe) (hc31 mMa) (hc32 mMy) (hc33 mPm) (hc34 mFy) (hc35 mFa) (hc36 mFr) (hc37 mFo) (hc38 mRt) (hc39 mRm) (hc40 mTt) (hc41 mTi) (hc42 mPl) (hc43 mVr) (hc44 mVf) (hc45 mVc) (hc46 mAr) (hc47 u0) (hc48 mFt) (hc49 mGo) dyn, 0, 0)) rfl ?_
    refine pm_go (g := (14, _, [.int 50, .int (nI k)], _, 0, 0)) rfl ?_
    refine pm_if2 (g := (37, [(2, .int (nI k)), (0, .ref 25), (1, .int m)], [], hq g c1 c2 c3 c4 c5 c6 c7 c8 c9 c10 c11 c12 c13 c14 c15 c16 c17 c18 c19 c20 c21 c22 c23 c24 (hc25 mTy mTm mMn mFn mRn mTn mVn mLr mTr mFl mFm mFp mSc mMp mEn) (hc26 mPa) (hc27 mTo) (hc28 mOt) (hc29 mNa) (hc30 mRe) (hc31 mMa) (hc32 mMy) (hc33 mPm) (hc34 mFy) (hc35 mFa) (hc36 mFr) (hc37 mFo) (hc38 mRt) (hc39 mRm) (hc40 mTt) (hc41 mTi) (hc42 mPl) (hc43 mVr) (hc44 mVf) (hc45 mVc) (hc46 mAr) (hc47 u0) (hc48 mFt) (hc49 mGo) dyn, 0, 0)) (h := (17, [(2, .int (nI k)), (0, .ref 25), (1, .int m)], [], hq g c1 c2 c3 c4 c5 c6 c7 c8 c9 c10 c11 c12 c13 c14 c15 c16 c17 c18 c19 c20 c21 c22 c23 c24 (hc25 mTy mTm mMn mFn mRn mTn mVn mLr mTr mFl mFm mFp mSc mMp mEn) (hc26 mPa) (hc27 mTo) (hc28 mOt) (hc29 mNa) (hc30 mRe) (hc31 mMa) (hc32 mMy) (hc33 mPm) (hc34 mFy) (hc35 mFa) (hc36 mFr) (hc37 mFo) (hc38 mRt) (hc39 mRm) (hc40 mTt) (hc41 mTi) (hc42 mPl) (hc43 mVr) (hc44 mVf) (hc45 mVc) (hc46 mAr) (hc47 u0) (hc48 mFt) (hc49 mGo) dyn, 0, 0)) rfl (fun h1 => ?_) (fun h1 => ?_)
    ·
      have h1 := qT_ge (cx := (nI k).toInt) (cy := 50) rfl (by decide) h1
      refine pm_sub (lv := [(0, .ref 25), (1, .int m)]) ?_ ⟨le_c (List.Mem.tail _ (List.Mem.head _)) (le_c (List.Mem.tail _ (List.Mem.tail _ (List.Mem.head _))) le_n), (show ([2, 0, 1] : List Nat).Nodup by decide)⟩
      have ef : u0 = shT mTc := funext (fun i => (g3 i).trans (sh_50 mTc i (by omega)))
      rw [ef]
      exact k0
    have h1 := qF_ge (cx := (nI k).toInt) (cy := 50) rfl (by decide) h1
    refine pm_go (g := (18, _, [.ref 25], _, 0, 0)) rfl ?_
    refine pm_go (g := (21, _, [.ref 47], _, 0, 0)) rfl ?_
    refine pm_go (g := (22, _, [.int (nI k), .ref 47], _, 0, 0)) rfl ?_
    refine pm_go (g := (23, _, [.int 1, .int (nI k), .ref 47], _, 0, 0)) rfl ?_
    refine pm_go (g := (24, _, [.int ((nI k) - 1), .ref 47], _, 0, 0)) rfl ?_
    try have h2 : ((nI k) - 1).toInt = (nI k).toInt - 1 := iSub (x := (nI k).toInt) (y := 1) rfl (by decide) (by omega) (by omega)
    refine pm_go (g := (25, _, [.ref 25, .int ((nI k) - 1), .ref 47], _, 0, 0)) rfl ?_
    refine pm_go (g := (28, _, [.ref 47, .int ((nI k) - 1), .ref 47], _, 0, 0)) rfl ?_
    refine pm_go (g := (29, _, [.int (nI k), .ref 47, .int ((nI k) - 1), .ref 47], _, 0, 0)) rfl ?_
    refine pm_sd (g := (30, _, [.int (u0 (nI k).toNatClampNeg), .int ((nI k) - 1), .ref 47], _, 0, 0)) rfl (pm_inI (by omega) (by omega)) ?_
    refine pm_sd (g := (31, _, [], hq g c1 c2 c3 c4 c5 c6 c7 c8 c9 c10 c11 c12 c13 c14 c15 c16 c17 c18 c19 c20 c21 c22 c23 c24 (hc25 mTy mTm mMn mFn mRn mTn mVn mLr mTr mFl mFm mFp mSc mMp mEn) (hc26 mPa) (hc27 mTo) (hc28 mOt) (hc29 mNa) (hc30 mRe) (hc31 mMa) (hc32 mMy) (hc33 mPm) (hc34 mFy) (hc35 mFa) (hc36 mFr) (hc37 mFo) (hc38 mRt) (hc39 mRm) (hc40 mTt) (hc41 mTi) (hc42 mPl) (hc43 mVr) (hc44 mVf) (hc45 mVc) (hc46 mAr) (hc47 (upd u0 ((nI k) - 1).toNatClampNeg (u0 (nI k).toNatClampNeg))) (hc48 mFt) (hc49 mGo) dyn, 0, 0)) rfl (pm_inI (by omega) (by omega)) ?_
    refine pm_go (g := (34, [(2, .int ((nI k) + 1)), (0, .ref 25), (1, .int m)], [], _, 0, 0)) rfl ?_
    refine pm_go (g := (11, _, [], _, 0, 0)) rfl ?_
    have hix : (nI k - 1).toNatClampNeg = k - 1 := tN (by omega)
    rw [nI_1, hix, hkc]
    refine ih (k + 1) (upd u0 (k - 1) (u0 k)) (by omega) (by omega) (by omega) (fun i => ?_) k0
    unfold upd
    by_cases e9 : i = k - 1
    · rw [if_pos e9, if_pos (by omega), g3 k, if_neg (by omega), show i + 1 = k by omega]
    · rw [if_neg e9, g3 i]
      by_cases e8 : i + 1 < k
      · rw [if_pos e8, if_pos (by omega)]
      · rw [if_neg e8, if_neg (by omega)]
set_option maxRecDepth 100000 in
set_option maxHeartbeats 4000000 in
theorem w_X12_remember {g c1 c2 c3 c4 c5 c6 c7 c8 c9 c10 c11 c12 c13 c14 c15 c16 c17 c18 c19 c20 c21 c22 c23 c24 : pm_C} {dyn : pm_H} {mTy : Int32} {mPa : Nat → Int32} {mTo : Nat → Int32} {mTm : Int32} {mMn : Int32} {mOt : Nat → Int32} {mNa : Nat → Int32} {mRe : Nat → Int32} {mMa : Nat → Int32} {mMy : Nat → Int32} {mPm : Nat → Int32} {mFn : Int32} {mFy : Nat → Int32} {mFa : Nat → Int32} {mFr : Nat → Int32} {mRn : Int32} {mFo : Nat → Int32} {mRt : Nat → Int32} {mRm : Nat → Int32} {mTn : Int32} {mTt : Nat → Int32} {mTi : Nat → Int32} {mPl : Nat → Int32} {mVn : Int32} {mVr : Nat → Int32} {mVf : Nat → Int32} {mVc : Nat → Int32} {mAr : Nat → Int32} {mLr : Int32} {mTc : Nat → Int32} {mTr : Int32} {mFl : Int32} {mFt : Nat → Int32} {mFm : Int32} {mFp : Int32} {mSc : Int32} {mMp : Int32} {mEn : Int32} {mGo : Nat → Int32} {Q : pm_Q} (m : Int32) (p0 : 0 ≤ mTr.toInt ∧ mTr.toInt ≤ 50) (k0 : mTr.toInt = 50 → Q none (hq g c1 c2 c3 c4 c5 c6 c7 c8 c9 c10 c11 c12 c13 c14 c15 c16 c17 c18 c19 c20 c21 c22 c23 c24 (hc25 mTy mTm mMn mFn mRn mTn mVn mLr (mTr - 1 + 1) mFl mFm mFp mSc mMp mEn) (hc26 mPa) (hc27 mTo) (hc28 mOt) (hc29 mNa) (hc30 mRe) (hc31 mMa) (hc32 mMy) (hc33 mPm) (hc34 mFy) (hc35 mFa) (hc36 mFr) (hc37 mFo) (hc38 mRt) (hc39 mRm) (hc40 mTt) (hc41 mTi) (hc42 mPl) (hc43 mVr) (hc44 mVf) (hc45 mVc) (hc46 mAr) (hc47 (upd (shT mTc) (mTr - 1).toNatClampNeg m)) (hc48 mFt) (hc49 mGo) dyn)) (k1 : mTr.toInt < 50 → Q none (hq g c1 c2 c3 c4 c5 c6 c7 c8 c9 c10 c11 c12 c13 c14 c15 c16 c17 c18 c19 c20 c21 c22 c23 c24 (hc25 mTy mTm mMn mFn mRn mTn mVn mLr (mTr + 1) mFl mFm mFp mSc mMp mEn) (hc26 mPa) (hc27 mTo) (hc28 mOt) (hc29 mNa) (hc30 mRe) (hc31 mMa) (hc32 mMy) (hc33 mPm) (hc34 mFy) (hc35 mFa) (hc36 mFr) (hc37 mFo) (hc38 mRt) (hc39 mRm) (hc40 mTt) (hc41 mTi) (hc42 mPl) (hc43 mVr) (hc44 mVf) (hc45 mVc) (hc46 mAr) (hc47 (upd mTc mTr.toNatClampNeg m)) (hc48 mFt) (hc49 mGo) dyn)) : pm_WP 182 (0, [(0, .ref 25), (1, .int m)], [], hq g c1 c2 c3 c4 c5 c6 c7 c8 c9 c10 c11 c12 c13 c14 c15 c16 c17 c18 c19 c20 c21 c22 c23 c24 (hc25 mTy mTm mMn mFn mRn mTn mVn mLr mTr mFl mFm mFp mSc mMp mEn) (hc26 mPa) (hc27 mTo) (hc28 mOt) (hc29 mNa) (hc30 mRe) (hc31 mMa) (hc32 mMy) (hc33 mPm) (hc34 mFy) (hc35 mFa) (hc36 mFr) (hc37 mFo) (hc38 mRt) (hc39 mRm) (hc40 mTt) (hc41 mTi) (hc42 mPl) (hc43 mVr) (hc44 mVf) (hc45 mVc) (hc46 mAr) (hc47 mTc) (hc48 mFt) (hc49 mGo) dyn, 0, 0) Q := by
  refine pm_go (g := (1, [(0, .ref 25), (1, .int m)], [.ref 25], hq g c1 c2 c3 c4 c5 c6 c7 c8 c9 c10 c11 c12 c13 c14 c15 c16 c17 c18 c19 c20 c21 c22 c23 c24 (hc25 mTy mTm mMn mFn mRn mTn mVn mLr mTr mFl mFm mFp mSc mMp mEn) (hc26 mPa) (hc27 mTo) (hc28 mOt) (hc29 mNa) (hc30 mRe) (hc31 mMa) (hc32 mMy) (hc33 mPm) (hc34 mFy) (hc35 mFa) (hc36 mFr) (hc37 mFo) (hc38 mRt) (hc39 mRm) (hc40 mTt) (hc41 mTi) (hc42 mPl) (hc43 mVr) (hc44 mVf) (hc45 mVc) (hc46 mAr) (hc47 mTc) (hc48 mFt) (hc49 mGo) dyn, 0, 0)) rfl ?_
  refine pm_go (g := (4, _, [.int mTr], _, 0, 0)) rfl ?_
  refine pm_go (g := (6, _, [.int 50, .int mTr], _, 0, 0)) rfl ?_
  refine pm_if2 (g := (47, [(0, .ref 25), (1, .int m)], [], hq g c1 c2 c3 c4 c5 c6 c7 c8 c9 c10 c11 c12 c13 c14 c15 c16 c17 c18 c19 c20 c21 c22 c23 c24 (hc25 mTy mTm mMn mFn mRn mTn mVn mLr mTr mFl mFm mFp mSc mMp mEn) (hc26 mPa) (hc27 mTo) (hc28 mOt) (hc29 mNa) (hc30 mRe) (hc31 mMa) (hc32 mMy) (hc33 mPm) (hc34 mFy) (hc35 mFa) (hc36 mFr) (hc37 mFo) (hc38 mRt) (hc39 mRm) (hc40 mTt) (hc41 mTi) (hc42 mPl) (hc43 mVr) (hc44 mVf) (hc45 mVc) (hc46 mAr) (hc47 mTc) (hc48 mFt) (hc49 mGo) dyn, 0, 0)) (h := (9, [(0, .ref 25), (1, .int m)], [], hq g c1 c2 c3 c4 c5 c6 c7 c8 c9 c10 c11 c12 c13 c14 c15 c16 c17 c18 c19 c20 c21 c22 c23 c24 (hc25 mTy mTm mMn mFn mRn mTn mVn mLr mTr mFl mFm mFp mSc mMp mEn) (hc26 mPa) (hc27 mTo) (hc28 mOt) (hc29 mNa) (hc30 mRe) (hc31 mMa) (hc32 mMy) (hc33 mPm) (hc34 mFy) (hc35 mFa) (hc36 mFr) (hc37 mFo) (hc38 mRt) (hc39 mRm) (hc40 mTt) (hc41 mTi) (hc42 mPl) (hc43 mVr) (hc44 mVf) (hc45 mVc) (hc46 mAr) (hc47 mTc) (hc48 mFt) (hc49 mGo) dyn, 0, 0)) rfl (fun h1 => ?_) (fun h1 => ?_)
  ·
    have h1 := qT_ne (cx := (mTr).toInt) (cy := 50) rfl (by decide) h1
    refine pm_go (g := (48, _, [.ref 25], _, 0, 0)) rfl ?_
    refine pm_go (g := (51, _, [.ref 47], _, 0, 0)) rfl ?_
    refine pm_go (g := (52, _, [.ref 25, .ref 47], _, 0, 0)) rfl ?_
    refine pm_go (g := (55, _, [.int mTr, .ref 47], _, 0, 0)) rfl ?_
    refine pm_go (g := (56, _, [.int m, .int mTr, .ref 47], _, 0, 0)) rfl ?_
    refine pm_sd (g := (57, _, [], hq g c1 c2 c3 c4 c5 c6 c7 c8 c9 c10 c11 c12 c13 c14 c15 c16 c17 c18 c19 c20 c21 c22 c23 c24 (hc25 mTy mTm mMn mFn mRn mTn mVn mLr mTr mFl mFm mFp mSc mMp mEn) (hc26 mPa) (hc27 mTo) (hc28 mOt) (hc29 mNa) (hc30 mRe) (hc31 mMa) (hc32 mMy) (hc33 mPm) (hc34 mFy) (hc35 mFa) (hc36 mFr) (hc37 mFo) (hc38 mRt) (hc39 mRm) (hc40 mTt) (hc41 mTi) (hc42 mPl) (hc43 mVr) (hc44 mVf) (hc45 mVc) (hc46 mAr) (hc47 (upd mTc (mTr).toNatClampNeg m)) (hc48 mFt) (hc49 mGo) dyn, 0, 0)) rfl (pm_inI (by omega) (by omega)) ?_
    refine pm_go (g := (58, _, [.ref 25], _, 0, 0)) rfl ?_
    refine pm_go (g := (59, _, [.ref 25, .ref 25], _, 0, 0)) rfl ?_
    refine pm_go (g := (62, _, [.int mTr, .ref 25], _, 0, 0)) rfl ?_
    refine pm_go (g := (63, _, [.int 1, .int mTr, .ref 25], _, 0, 0)) rfl ?_
    refine pm_go (g := (64, _, [.int (mTr + 1), .ref 25], _, 0, 0)) rfl ?_
    try have h2 : (mTr + 1).toInt = (mTr).toInt + 1 := iAdd (x := (mTr).toInt) (y := 1) rfl (by decide) (by omega) (by omega)
    refine pm_go (g := (67, _, [], hq g c1 c2 c3 c4 c5 c6 c7 c8 c9 c10 c11 c12 c13 c14 c15 c16 c17 c18 c19 c20 c21 c22 c23 c24 (hc25 mTy mTm mMn mFn mRn mTn mVn mLr (mTr + 1) mFl mFm mFp mSc mMp mEn) (hc26 mPa) (hc27 mTo) (hc28 mOt) (hc29 mNa) (hc30 mRe) (hc31 mMa) (hc32 mMy) (hc33 mPm) (hc34 mFy) (hc35 mFa) (hc36 mFr) (hc37 mFo) (hc38 mRt) (hc39 mRm) (hc40 mTt) (hc41 mTi) (hc42 mPl) (hc43 mVr) (hc44 mVf) (hc45 mVc) (hc46 mAr) (hc47 (upd mTc (mTr).toNatClampNeg m)) (hc48 mFt) (hc49 mGo) dyn, 0, 0)) rfl ?_
    first | exact pm_ret rfl (k0 (by omega)) | exact pm_ret rfl (k1 (by omega))
  have h1 := qF_ne (cx := (mTr).toInt) (cy := 50) rfl (by decide) h1
  refine pm_go (g := (10, _, [.int 1], hq g c1 c2 c3 c4 c5 c6 c7 c8 c9 c10 c11 c12 c13 c14 c15 c16 c17 c18 c19 c20 c21 c22 c23 c24 (hc25 mTy mTm mMn mFn mRn mTn mVn mLr mTr mFl mFm mFp mSc mMp mEn) (hc26 mPa) (hc27 mTo) (hc28 mOt) (hc29 mNa) (hc30 mRe) (hc31 mMa) (hc32 mMy) (hc33 mPm) (hc34 mFy) (hc35 mFa) (hc36 mFr) (hc37 mFo) (hc38 mRt) (hc39 mRm) (hc40 mTt) (hc41 mTi) (hc42 mPl) (hc43 mVr) (hc44 mVf) (hc45 mVc) (hc46 mAr) (hc47 mTc) (hc48 mFt) (hc49 mGo) dyn, 0, 0)) rfl ?_
  refine pm_go (g := (11, [(2, .int 1), (0, .ref 25), (1, .int m)], [], _, 0, 0)) rfl ?_
  refine pm_sub (lv := [(2, .int 1), (0, .ref 25), (1, .int m)]) ?_ ⟨le_c (List.Mem.head _) (le_c (List.Mem.tail _ (List.Mem.head _)) (le_c (List.Mem.tail _ (List.Mem.tail _ (List.Mem.head _))) le_n)), (show ([2, 0, 1] : List Nat).Nodup by decide)⟩
  refine w_remember_loop (mTc := mTc) m 50 1 mTc (by omega) (by omega) (by omega) (fun i => ?_) ?_
  · split
    · omega
    · rfl
  show pm_WP 182 (37, [(0, .ref 25), (1, .int m)], [], _, 0, 0) _
  refine pm_go (g := (38, _, [.ref 25], _, 0, 0)) rfl ?_
  refine pm_go (g := (39, _, [.ref 25, .ref 25], _, 0, 0)) rfl ?_
  refine pm_go (g := (42, _, [.int mTr, .ref 25], _, 0, 0)) rfl ?_
  refine pm_go (g := (43, _, [.int 1, .int mTr, .ref 25], _, 0, 0)) rfl ?_
  refine pm_go (g := (44, _, [.int (mTr - 1), .ref 25], _, 0, 0)) rfl ?_
  try have h3 : (mTr - 1).toInt = (mTr).toInt - 1 := iSub (x := (mTr).toInt) (y := 1) rfl (by decide) (by omega) (by omega)
  refine pm_go (g := (47, _, [], hq g c1 c2 c3 c4 c5 c6 c7 c8 c9 c10 c11 c12 c13 c14 c15 c16 c17 c18 c19 c20 c21 c22 c23 c24 (hc25 mTy mTm mMn mFn mRn mTn mVn mLr (mTr - 1) mFl mFm mFp mSc mMp mEn) (hc26 mPa) (hc27 mTo) (hc28 mOt) (hc29 mNa) (hc30 mRe) (hc31 mMa) (hc32 mMy) (hc33 mPm) (hc34 mFy) (hc35 mFa) (hc36 mFr) (hc37 mFo) (hc38 mRt) (hc39 mRm) (hc40 mTt) (hc41 mTi) (hc42 mPl) (hc43 mVr) (hc44 mVf) (hc45 mVc) (hc46 mAr) (hc47 (shT mTc)) (hc48 mFt) (hc49 mGo) dyn, 0, 0)) rfl ?_
  refine pm_go (g := (48, _, [.ref 25], _, 0, 0)) rfl ?_
  refine pm_go (g := (51, _, [.ref 47], _, 0, 0)) rfl ?_
  refine pm_go (g := (52, _, [.ref 25, .ref 47], _, 0, 0)) rfl ?_
  refine pm_go (g := (55, _, [.int (mTr - 1), .ref 47], _, 0, 0)) rfl ?_
  refine pm_go (g := (56, _, [.int m, .int (mTr - 1), .ref 47], _, 0, 0)) rfl ?_
  refine pm_sd (g := (57, _, [], hq g c1 c2 c3 c4 c5 c6 c7 c8 c9 c10 c11 c12 c13 c14 c15 c16 c17 c18 c19 c20 c21 c22 c23 c24 (hc25 mTy mTm mMn mFn mRn mTn mVn mLr (mTr - 1) mFl mFm mFp mSc mMp mEn) (hc26 mPa) (hc27 mTo) (hc28 mOt) (hc29 mNa) (hc30 mRe) (hc31 mMa) (hc32 mMy) (hc33 mPm) (hc34 mFy) (hc35 mFa) (hc36 mFr) (hc37 mFo) (hc38 mRt) (hc39 mRm) (hc40 mTt) (hc41 mTi) (hc42 mPl) (hc43 mVr) (hc44 mVf) (hc45 mVc) (hc46 mAr) (hc47 (upd (shT mTc) (mTr - 1).toNatClampNeg m)) (hc48 mFt) (hc49 mGo) dyn, 0, 0)) rfl (pm_inI (by omega) (by omega)) ?_
  refine pm_go (g := (58, _, [.ref 25], _, 0, 0)) rfl ?_
  refine pm_go (g := (59, _, [.ref 25, .ref 25], _, 0, 0)) rfl ?_
  refine pm_go (g := (62, _, [.int (mTr - 1), .ref 25], _, 0, 0)) rfl ?_
  refine pm_go (g := (63, _, [.int 1, .int (mTr - 1), .ref 25], _, 0, 0)) rfl ?_
  refine pm_go (g := (64, _, [.int ((mTr - 1) + 1), .ref 25], _, 0, 0)) rfl ?_
  try have h4 : ((mTr - 1) + 1).toInt = (mTr - 1).toInt + 1 := iAdd (x := (mTr - 1).toInt) (y := 1) rfl (by decide) (by omega) (by omega)
  refine pm_go (g := (67, _, [], hq g c1 c2 c3 c4 c5 c6 c7 c8 c9 c10 c11 c12 c13 c14 c15 c16 c17 c18 c19 c20 c21 c22 c23 c24 (hc25 mTy mTm mMn mFn mRn mTn mVn mLr ((mTr - 1) + 1) mFl mFm mFp mSc mMp mEn) (hc26 mPa) (hc27 mTo) (hc28 mOt) (hc29 mNa) (hc30 mRe) (hc31 mMa) (hc32 mMy) (hc33 mPm) (hc34 mFy) (hc35 mFa) (hc36 mFr) (hc37 mFo) (hc38 mRt) (hc39 mRm) (hc40 mTt) (hc41 mTi) (hc42 mPl) (hc43 mVr) (hc44 mVf) (hc45 mVc) (hc46 mAr) (hc47 (upd (shT mTc) (mTr - 1).toNatClampNeg m)) (hc48 mFt) (hc49 mGo) dyn, 0, 0)) rfl ?_
  first | exact pm_ret rfl (k0 (by omega)) | exact pm_ret rfl (k1 (by omega))
