/-- the j-th member fits in phase p -/
def fitM (pa ot na my pm ma fa fy : Nat → Int32) (mn t w f s p : Int32) (j : Nat) : Prop := (na (nI j).toNatClampNeg).toInt = w.toInt ∧ hadM pa ot na my pm mn t (nI j) ∧ tkM pa my pm fa ma fy (nI j) f s p
def nfM (pa ot na my pm ma fa fy : Nat → Int32) (mn t w f s p : Int32) : Prop := ∀ j : Nat, (j : Int) < mn.toInt → ¬ fitM pa ot na my pm ma fa fy mn t w f s p j
/-- it fits, and all its places are under those of the others that fit -/
def spF (pa ot na my pm ma fa fy : Nat → Int32) (mn t w f s p : Int32) (j : Nat) : Prop := fitM pa ot na my pm ma fa fy mn t w f s p j ∧ ∀ o : Nat, (o : Int) < mn.toInt → fitM pa ot na my pm ma fa fy mn t w f s p o → (o : Int) ≠ j → spO pa my pm p (fy f.toNatClampNeg - s) (nI j) (nI o)
/-- the one, or -5 -/
def uqM (sp : Nat → Prop) (mn r : Int32) : Prop := (∃ b : Nat, (b : Int) < mn.toInt ∧ r = nI b ∧ sp b ∧ ∀ j : Nat, (j : Int) < mn.toInt → sp j → j = b) ∨ (r = -5 ∧ ¬ ∃ b : Nat, (b : Int) < mn.toInt ∧ sp b ∧ ∀ j : Nat, (j : Int) < mn.toInt → sp j → j = b)
/-- the reference's searched: phase and answer -/
def srM (pa ot na my pm ma fa fy : Nat → Int32) (mn t w f s p r : Int32) : Prop := (p = 0 ∧ r = -4 ∧ nfM pa ot na my pm ma fa fy mn t w f s 1 ∧ nfM pa ot na my pm ma fa fy mn t w f s 2 ∧ nfM pa ot na my pm ma fa fy mn t w f s 3) ∨ (p = 1 ∧ ¬ nfM pa ot na my pm ma fa fy mn t w f s 1 ∧ uqM (spF pa ot na my pm ma fa fy mn t w f s 1) mn r) ∨ (p = 2 ∧ nfM pa ot na my pm ma fa fy mn t w f s 1 ∧ ¬ nfM pa ot na my pm ma fa fy mn t w f s 2 ∧ uqM (spF pa ot na my pm ma fa fy mn t w f s 2) mn r) ∨ (p = 3 ∧ nfM pa ot na my pm ma fa fy mn t w f s 1 ∧ nfM pa ot na my pm ma fa fy mn t w f s 2 ∧ ¬ nfM pa ot na my pm ma fa fy mn t w f s 3 ∧ uqM (spF pa ot na my pm ma fa fy mn t w f s 3) mn r)
/-- what lies in fit afterwards -/
def ftM (pa ot na my pm ma fa fy : Nat → Int32) (mn t w f s p : Int32) (ft : Nat → Int32) : Prop := ∀ j : Nat, (j : Int) < mn.toInt → ((ft j).toInt ≠ 0 ↔ (p.toInt ≠ 0 ∧ fitM pa ot na my pm ma fa fy mn t w f s p j))
theorem cF_upd {f : Nat → Int32} {x : Int32} {m : Nat} : ∀ {k : Nat}, k ≤ m → cF (upd f m x) k = cF f k := by
  intro k
  induction k with
  | zero => intro _; rfl
  | succ k ih =>
    intro h
    show cF (upd f m x) k + (if (upd f m x k).toInt ≠ 0 then 1 else 0) = cF f k + (if (f k).toInt ≠ 0 then 1 else 0)
    rw [ih (by omega), updN (by omega)]
/-- how many were found among the first k, and the last of them -/
def bsM (sp : Nat → Prop) (c b : Int32) (k : Nat) : Prop := (c.toInt = 0 ∧ ∀ j : Nat, j < k → ¬ sp j) ∨ (c.toInt = 1 ∧ ∃ i : Nat, i < k ∧ b = nI i ∧ sp i ∧ ∀ j : Nat, j < k → sp j → j = i) ∨ (2 ≤ c.toInt ∧ c.toInt ≤ k ∧ ∃ i j : Nat, i < k ∧ j < k ∧ i ≠ j ∧ sp i ∧ sp j)
theorem bsM_b {sp : Nat → Prop} {c b : Int32} {k : Nat} (h : bsM sp c b k) : 0 ≤ c.toInt ∧ c.toInt ≤ k := by
  rcases h with ⟨h, _⟩ | ⟨h, i, h2, _⟩ | ⟨h, h2, _⟩ <;> omega
theorem bsM_n {sp : Nat → Prop} {c b : Int32} {k : Nat} (h : bsM sp c b k) (hs : ¬ sp k) : bsM sp c b (k + 1) := by
  rcases h with ⟨h, h2⟩ | ⟨h, i, h2, h3, h4, h5⟩ | ⟨h, h2, i, j, h3, h4, h5⟩
  · refine Or.inl ⟨h, fun j q => ?_⟩
    rcases Nat.lt_succ_iff_lt_or_eq.mp q with q | q
    · exact h2 j q
    · subst q; exact hs
  · refine Or.inr (Or.inl ⟨h, i, by omega, h3, h4, fun j q q2 => ?_⟩)
    rcases Nat.lt_succ_iff_lt_or_eq.mp q with q | q
    · exact h5 j q q2
    · subst q; exact absurd q2 hs
  · exact Or.inr (Or.inr ⟨h, by omega, i, j, by omega, by omega, h5⟩)
theorem bsM_y {sp : Nat → Prop} {c b : Int32} {k : Nat} (h : bsM sp c b k) (hs : sp k) {c' : Int32} (hc : c'.toInt = c.toInt + 1) : bsM sp c' (nI k) (k + 1) := by
  rcases h with ⟨h, h2⟩ | ⟨h, i, h2, h3, h4, h5⟩ | ⟨h, h2, i, j, h3, h4, h5⟩
  · refine Or.inr (Or.inl ⟨by omega, k, by omega, rfl, hs, fun j q q2 => ?_⟩)
    rcases Nat.lt_succ_iff_lt_or_eq.mp q with q | q
    · exact absurd q2 (h2 j q)
    · exact q
  · exact Or.inr (Or.inr ⟨by omega, by omega, i, k, by omega, by omega, by omega, h4, hs⟩)
  · exact Or.inr (Or.inr ⟨by omega, by omega, i, j, by omega, by omega, h5⟩)
theorem bsM_1 {sp : Nat → Prop} {c b mn : Int32} {k : Nat} (h : bsM sp c b k) (hk : (k : Int) = mn.toInt) (hc : c.toInt = 1) : uqM sp mn b := by
  rcases h with ⟨h, h2⟩ | ⟨h, i, h2, h3, h4, h5⟩ | ⟨h, h2, i, j, h3, h4, h5⟩
  · omega
  · exact Or.inl ⟨i, by omega, h3, h4, fun j q => h5 j (by omega)⟩
  · omega
theorem bsM_2 {sp : Nat → Prop} {c b mn : Int32} {k : Nat} (h : bsM sp c b k) (hk : (k : Int) = mn.toInt) (hc : c.toInt ≠ 1) : uqM sp mn (-5) := by
  refine Or.inr ⟨rfl, ?_⟩
  rintro ⟨x, q1, q2, q3⟩
  rcases h with ⟨h, h2⟩ | ⟨h, i, h2, h3, h4, h5⟩ | ⟨h, h2, i, j, h3, h4, h5, h6, h7⟩
  · exact h2 x (by omega) q2
  · omega
  · exact h5 ((q3 i (by omega) h6).trans (q3 j (by omega) h7).symm)
theorem uqM_c {sp sq : Nat → Prop} {mn r : Int32} (h : ∀ j : Nat, (j : Int) < mn.toInt → (sp j ↔ sq j)) (k : uqM sp mn r) : uqM sq mn r := by
  rcases k with ⟨b, h1, h2, h3, h4⟩ | ⟨h1, h2⟩
  · exact Or.inl ⟨b, h1, h2, (h b h1).mp h3, fun j q q2 => h4 j q ((h j q).mpr q2)⟩
  · exact Or.inr ⟨h1, fun ⟨b, q1, q2, q3⟩ => h2 ⟨b, q1, (h b q1).mpr q2, fun j q q4 => q3 j q ((h j q).mp q4)⟩⟩
theorem uqM_b {sp : Nat → Prop} {mn r : Int32} (hn : 0 ≤ mn.toInt ∧ mn.toInt ≤ 40) (k : uqM sp mn r) : -5 ≤ r.toInt ∧ r.toInt < mn.toInt := by
  rcases k with ⟨b, h1, h2, h3, h4⟩ | ⟨h1, h2⟩
  · have := nI_toInt (n := b) (by omega)
    rw [h2]; omega
  · have : (-5 : Int32).toInt = -5 := by decide
    rw [h1]; omega
theorem srM_b {pa ot na my pm ma fa fy : Nat → Int32} {mn t w f s p r : Int32} (hn : 0 ≤ mn.toInt ∧ mn.toInt ≤ 40) (k : srM pa ot na my pm ma fa fy mn t w f s p r) : (-5 ≤ r.toInt ∧ r.toInt < mn.toInt) ∧ (0 ≤ p.toInt ∧ p.toInt ≤ 3) := by
  have z0 : (0 : Int32).toInt = 0 := by decide
  have z1 : (1 : Int32).toInt = 1 := by decide
  have z2 : (2 : Int32).toInt = 2 := by decide
  have z3 : (3 : Int32).toInt = 3 := by decide
  have z4 : (-4 : Int32).toInt = -4 := by decide
  rcases k with ⟨h1, h2, _⟩ | ⟨h1, _, h2⟩ | ⟨h1, _, _, h2⟩ | ⟨h1, _, _, _, h2⟩
  · rw [h1, h2]; omega
  · have := uqM_b hn h2; rw [h1]; omega
  · have := uqM_b hn h2; rw [h1]; omega
  · have := uqM_b hn h2; rw [h1]; omega
theorem spF_c {pa ot na my pm ma fa fy ft : Nat → Int32} {mn t w f s p : Int32} (hn : mn.toInt ≤ 40) (h : ∀ j : Nat, (j : Int) < mn.toInt → ((ft j).toInt ≠ 0 ↔ fitM pa ot na my pm ma fa fy mn t w f s p j)) : ∀ j : Nat, (j : Int) < mn.toInt → (((ft j).toInt ≠ 0 ∧ spL pa my pm ft mn p (fy f.toNatClampNeg - s) (nI j) 0) ↔ spF pa ot na my pm ma fa fy mn t w f s p j) := by
  intro j q
  have hj := nI_toInt (n := j) (by omega)
  constructor
  · rintro ⟨h1, h2⟩
    exact ⟨(h j q).mp h1, fun o q1 q2 q3 => h2 o (Nat.zero_le o) q1 ((h o q1).mpr q2) (by omega)⟩
  · rintro ⟨h1, h2⟩
    exact ⟨(h j q).mpr h1, fun o _ q1 q2 q3 => h2 o q1 ((h o q1).mp q2) (by omega)⟩
set_option maxRecDepth 100000 in
set_option maxHeartbeats 4000000 in
theorem w_searched_phase {g c1 c2 c3 c4 c5 c6 c7 c8 c9 c10 c11 c12 c13 c14 c15 c16 c17 c18 c19 c20 c21 c22 c23 c24 : pm_C} {dyn : pm_H} {mTy : Int32} {mPa : Nat → Int32} {mTo : Nat → Int32} {mTm : Int32} {mMn : Int32} {mOt : Nat → Int32} {mNa : Nat → Int32} {mRe : Nat → Int32} {mMa : Nat → Int32} {mMy : Nat → Int32} {mPm : Nat → Int32} {mFn : Int32} {mFy : Nat → Int32} {mFa : Nat → Int32} {mFr : Nat → Int32} {mRn : Int32} {mFo : Nat → Int32} {mRt : Nat → Int32} {mRm : Nat → Int32} {mTn : Int32} {mTt : Nat → Int32} {mTi : Nat → Int32} {mPl : Nat → Int32} {mVn : Int32} {mVr : Nat → Int32} {mVf : Nat → Int32} {mVc : Nat → Int32} {mAr : Nat → Int32} {mLr : Int32} {mTc : Nat → Int32} {mTr : Int32} {mFl : Int32} {mFt : Nat → Int32} {mFm : Int32} {mFp : Int32} {mSc : Int32} {mMp : Int32} {mEn : Int32} {mGo : Nat → Int32} {Q : pm_Q} (t w f s p : Int32) (hf : 0 ≤ f.toInt ∧ f.toInt < 10) (hs : 0 ≤ s.toInt ∧ s.toInt ≤ 1) (hfy : s.toInt ≤ (mFy f.toNatClampNeg).toInt ∧ (mFy f.toNatClampNeg).toInt ≤ 3) (hp : 1 ≤ p.toInt ∧ p.toInt ≤ 3) (hpa : paD mPa) (hy : myD mMy) (hv : vrD mMa mMy) (hn : 0 ≤ mMn.toInt ∧ mMn.toInt ≤ 40) : ∀ (n k : Nat) (u0 : Nat → Int32) (c : Int32), ((k : Int) ≤ mMn.toInt) → (40 < k + n) → (∀ j : Nat, j < k → ((u0 j).toInt ≠ 0 ↔ fitM mPa mOt mNa mMy mPm mMa mFa mFy mMn t w f s p j)) → (c.toInt = cF u0 k) → (∀ (f9 : Nat → Int32) (w9 : Int32), (∀ j : Nat, (j : Int) < mMn.toInt → ((f9 j).toInt ≠ 0 ↔ fitM mPa mOt mNa mMy mPm mMa mFa mFy mMn t w f s p j)) → w9.toInt = cF f9 mMn.toNatClampNeg → pm_WP 150 (109, [(5, .int p), (0, .ref 25), (1, .int t), (2, .int w), (3, .int f), (4, .int s)], [], hq g c1 c2 c3 c4 c5 c6 c7 c8 c9 c10 c11 c12 c13 c14 c15 c16 c17 c18 c19 c20 c21 c22 c23 c24 (hc25 mTy mTm mMn mFn mRn mTn mVn mLr mTr mFl w9 mFp mSc mMp mEn) (hc26 mPa) (hc27 mTo) (hc28 mOt) (hc29 mNa) (hc30 mRe) (hc31 mMa) (hc32 mMy) (hc33 mPm) (hc34 mFy) (hc35 mFa) (hc36 mFr) (hc37 mFo) (hc38 mRt) (hc39 mRm) (hc40 mTt) (hc41 mTi) (hc42 mPl) (hc43 mVr) (hc44 mVf) (hc45 mVc) (hc46 mAr) (hc47 mTc) (hc48 f9) (hc49 mGo) dyn, 0, 0) Q) → pm_WP 150 (23, [(6, .int (nI k)), (5, .int p), (0, .ref 25), (1, .int t), (2, .int w), (3, .int f), (4, .int s)], [], hq g c1 c2 c3 c4 c5 c6 c7 c8 c9 c10 c11 c12 c13 c14 c15 c16 c17 c18 c19 c20 c21 c22 c23 c24 (hc25 mTy mTm mMn mFn mRn mTn mVn mLr mTr mFl c mFp mSc mMp mEn) (hc26 mPa) (hc27 mTo) (hc28 mOt) (hc29 mNa) (hc30 mRe) (hc31 mMa) (hc32 mMy) (hc33 mPm) (hc34 mFy) (hc35 mFa) (hc36 mFr) (hc37 mFo) (hc38 mRt) (hc39 mRm) (hc40 mTt) (hc41 mTi) (hc42 mPl) (hc43 mVr) (hc44 mVf) (hc45 mVc) (hc46 mAr) (hc47 mTc) (hc48 u0) (hc49 mGo) dyn, 0, 0) Q := by
  intro n
  induction n with
  | zero =>
    intro k u0 c g1 g2 g3 g4 k0
    exfalso; omega
  | succ n ih =>
    intro k u0 c g1 g2 g3 g4 k0
    have hk := nI_toInt (n := k) (by omega)
    have hkc : (nI k).toNatClampNeg = k := nI_clamp (by omega)
    have hb := cF_b u0 k
    refine pm_go (g := (25, [(6, .int (nI k)), (5, .int p), (0, .ref 25), (1, .int t), (2, .int w), (3, .int f), (4, .int s)], [.int (nI k)], hq g c1 c2 c3 c4 c5 c6 c7 c8 c9 c10 c11 c12 c13 c14 c15 c16 c17 c18 c19 c20 c21 c22 c23 c24 (hc25 mTy mTm mMn mFn mRn mTn mVn mLr mTr mFl c mFp mSc mMp mEn) (hc26 mPa) (hc27 mTo) (hc28 mOt) (hc29 mNa) (hc30 mRe) (hc31 mMa) (hc32 mMy) (hc33 mPm) (hc34 mFy) (hc35 mFa) (hc36 mFr) (hc37 mFo) (hc38 mRt) (hc39 mRm) (hc40 mTt) (hc41 mTi) (hc42 mPl) (hc43 mVr) (hc44 mVf) (hc45 mVc) (hc46 mAr) (hc47 mTc) (hc48 u0) (hc49 mGo) dyn, 0, 0)) rfl ?_
    refine pm_go (g := (26, _, [.ref 25, .int (nI k)], _, 0, 0)) rfl ?_
    refine pm_go (g := (29, _, [.int mMn, .int (nI k)], _, 0, 0)) rfl ?_
    refine pm_if2 (g := (109, [(6, .int (nI k)), (5, .int p), (0, .ref 25), (1, .int t), (2, .int w), (3, .int f), (4, .int s)], [], hq g c1 c2 c3 c4 c5 c6 c7 c8 c9 c10 c11 c12 c13 c14 c15 c16 c17 c18 c19 c20 c21 c22 c23 c24 (hc25 mTy mTm mMn mFn mRn mTn mVn mLr mTr mFl c mFp mSc mMp mEn) (hc26 mPa) (hc27 mTo) (hc28 mOt) (hc29 mNa) (hc30 mRe) (hc31 mMa) (hc32 mMy) (hc33 mPm) (hc34 mFy) (hc35 mFa) (hc36 mFr) (hc37 mFo) (hc38 mRt) (hc39 mRm) (hc40 mTt) (hc41 mTi) (hc42 mPl) (hc43 mVr) (hc44 mVf) (hc45 mVc) (hc46 mAr) (hc47 mTc) (hc48 u0) (hc49 mGo) dyn, 0, 0)) (h := (32, [(6, .int (nI k)), (5, .int p), (0, .ref 25), (1, .int t), (2, .int w), (3, .int f), (4, .int s)], [], hq g c1 c2 c3 c4 c5 c6 c7 c8 c9 c10 c11 c12 c13 c14 c15 c16 c17 c18 c19 c20 c21 c22 c23 c24 (hc25 mTy mTm mMn mFn mRn mTn mVn mLr mTr mFl c mFp mSc mMp mEn) (hc26 mPa) (hc27 mTo) (hc28 mOt) (hc29 mNa) (hc30 mRe) (hc31 mMa) (hc32 mMy) (hc33 mPm) (hc34 mFy) (hc35 mFa) (hc36 mFr) (hc37 mFo) (hc38 mRt) (hc39 mRm) (hc40 mTt) (hc41 mTi) (hc42 mPl) (hc43 mVr) (hc44 mVf) (hc45 mVc) (hc46 mAr) (hc47 mTc) (hc48 u0) (hc49 mGo) dyn, 0, 0)) rfl (fun h1 => ?_) (fun h1 => ?_)
    ·
      have h1 := qT_ge (cx := (nI k).toInt) (cy := (mMn).toInt) rfl rfl h1
      refine pm_sub (lv := [(5, .int p), (0, .ref 25), (1, .int t), (2, .int w), (3, .int f), (4, .int s)]) ?_ ⟨le_c (List.Mem.tail _ (List.Mem.head _)) (le_c (List.Mem.tail _ (List.Mem.tail _ (List.Mem.head _))) (le_c (List.Mem.tail _ (List.Mem.tail _ (List.Mem.tail _ (List.Mem.head _)))) (le_c (List.Mem.tail _ (List.Mem.tail _ (List.Mem.tail _ (List.Mem.tail _ (List.Mem.head _))))) (le_c (List.Mem.tail _ (List.Mem.tail _ (List.Mem.tail _ (List.Mem.tail _ (List.Mem.tail _ (List.Mem.head _)))))) (le_c (List.Mem.tail _ (List.Mem.tail _ (List.Mem.tail _ (List.Mem.tail _ (List.Mem.tail _ (List.Mem.tail _ (List.Mem.head _))))))) le_n))))), (show ([6, 5, 0, 1, 2, 3, 4] : List Nat).Nodup by decide)⟩
      exact k0 u0 c (fun j q => g3 j (by omega)) (by rw [g4, show k = mMn.toNatClampNeg from (tN (by omega)).symm])
    have h1 := qF_ge (cx := (nI k).toInt) (cy := (mMn).toInt) rfl rfl h1
    refine pm_go (g := (33, _, [.ref 25], _, 0, 0)) rfl ?_
    refine pm_go (g := (36, _, [.ref 48], _, 0, 0)) rfl ?_
    refine pm_go (g := (38, _, [.int (nI k), .ref 48], _, 0, 0)) rfl ?_
    refine pm_go (g := (39, _, [.ref 25, .int (nI k), .ref 48], _, 0, 0)) rfl ?_
    refine pm_go (g := (42, _, [.ref 29, .int (nI k), .ref 48], _, 0, 0)) rfl ?_
    refine pm_go (g := (44, _, [.int (nI k), .ref 29, .int (nI k), .ref 48], _, 0, 0)) rfl ?_
    refine pm_sd (g := (45, _, [.int (mNa (nI k).toNatClampNeg), .int (nI k), .ref 48], _, 0, 0)) rfl (pm_inI (by omega) (by omega)) ?_
    refine pm_go (g := (46, _, [.int w, .int (mNa (nI k).toNatClampNeg), .int (nI k), .ref 48], _, 0, 0)) rfl ?_
    refine pm_if2 (g := (77, [(6, .int (nI k)), (5, .int p), (0, .ref 25), (1, .int t), (2, .int w), (3, .int f), (4, .int s)], [.int (nI k), .ref 48], hq g c1 c2 c3 c4 c5 c6 c7 c8 c9 c10 c11 c12 c13 c14 c15 c16 c17 c18 c19 c20 c21 c22 c23 c24 (hc25 mTy mTm mMn mFn mRn mTn mVn mLr mTr mFl c mFp mSc mMp mEn) (hc26 mPa) (hc27 mTo) (hc28 mOt) (hc29 mNa) (hc30 mRe) (hc31 mMa) (hc32 mMy) (hc33 mPm) (hc34 mFy) (hc35 mFa) (hc36 mFr) (hc37 mFo) (hc38 mRt) (hc39 mRm) (hc40 mTt) (hc41 mTi) (hc42 mPl) (hc43 mVr) (hc44 mVf) (hc45 mVc) (hc46 mAr) (hc47 mTc) (hc48 u0) (hc49 mGo) dyn, 0, 0)) (h := (49, [(6, .int (nI k)), (5, .int p), (0, .ref 25), (1, .int t), (2, .int w), (3, .int f), (4, .int s)], [.int (nI k), .ref 48], hq g c1 c2 c3 c4 c5 c6 c7 c8 c9 c10 c11 c12 c13 c14 c15 c16 c17 c18 c19 c20 c21 c22 c23 c24 (hc25 mTy mTm mMn mFn mRn mTn mVn mLr mTr mFl c mFp mSc mMp mEn) (hc26 mPa) (hc27 mTo) (hc28 mOt) (hc29 mNa) (hc30 mRe) (hc31 mMa) (hc32 mMy) (hc33 mPm) (hc34 mFy) (hc35 mFa) (hc36 mFr) (hc37 mFo) (hc38 mRt) (hc39 mRm) (hc40 mTt) (hc41 mTi) (hc42 mPl) (hc43 mVr) (hc44 mVf) (hc45 mVc) (hc46 mAr) (hc47 mTc) (hc48 u0) (hc49 mGo) dyn, 0, 0)) rfl (fun h2 => ?_) (fun h2 => ?_)
    ·
      have h2 := qT_ne (cx := (mNa (nI k).toNatClampNeg).toInt) (cy := (w).toInt) rfl rfl h2
      refine pm_go (g := (78, _, [.int 0, .int (nI k), .ref 48], _, 0, 0)) rfl ?_
      refine pm_sd (g := (79, _, [], hq g c1 c2 c3 c4 c5 c6 c7 c8 c9 c10 c11 c12 c13 c14 c15 c16 c17 c18 c19 c20 c21 c22 c23 c24 (hc25 mTy mTm mMn mFn mRn mTn mVn mLr mTr mFl c mFp mSc mMp mEn) (hc26 mPa) (hc27 mTo) (hc28 mOt) (hc29 mNa) (hc30 mRe) (hc31 mMa) (hc32 mMy) (hc33 mPm) (hc34 mFy) (hc35 mFa) (hc36 mFr) (hc37 mFo) (hc38 mRt) (hc39 mRm) (hc40 mTt) (hc41 mTi) (hc42 mPl) (hc43 mVr) (hc44 mVf) (hc45 mVc) (hc46 mAr) (hc47 mTc) (hc48 (upd u0 (nI k).toNatClampNeg 0)) (hc49 mGo) dyn, 0, 0)) rfl (pm_inI (by omega) (by omega)) ?_
      refine pm_go (g := (80, _, [.ref 25], _, 0, 0)) rfl ?_
      refine pm_go (g := (81, _, [.ref 25, .ref 25], _, 0, 0)) rfl ?_
      refine pm_go (g := (84, _, [.int c, .ref 25], _, 0, 0)) rfl ?_
      refine pm_go (g := (85, _, [.ref 25, .int c, .ref 25], _, 0, 0)) rfl ?_
      refine pm_go (g := (88, _, [.ref 48, .int c, .ref 25], _, 0, 0)) rfl ?_
      refine pm_go (g := (90, _, [.int (nI k), .ref 48, .int c, .ref 25], _, 0, 0)) rfl ?_
      refine pm_sd (g := (91, _, [.int ((upd u0 (nI k).toNatClampNeg 0) (nI k).toNatClampNeg), .int c, .ref 25], _, 0, 0)) rfl (pm_inI (by omega) (by omega)) ?_
      rw [updS]
      refine pm_brT (g := (98, [(6, .int (nI k)), (5, .int p), (0, .ref 25), (1, .int t), (2, .int w), (3, .int f), (4, .int s)], [.int c, .ref 25], hq g c1 c2 c3 c4 c5 c6 c7 c8 c9 c10 c11 c12 c13 c14 c15 c16 c17 c18 c19 c20 c21 c22 c23 c24 (hc25 mTy mTm mMn mFn mRn mTn mVn mLr mTr mFl c mFp mSc mMp mEn) (hc26 mPa) (hc27 mTo) (hc28 mOt) (hc29 mNa) (hc30 mRe) (hc31 mMa) (hc32 mMy) (hc33 mPm) (hc34 mFy) (hc35 mFa) (hc36 mFr) (hc37 mFo) (hc38 mRt) (hc39 mRm) (hc40 mTt) (hc41 mTi) (hc42 mPl) (hc43 mVr) (hc44 mVf) (hc45 mVc) (hc46 mAr) (hc47 mTc) (hc48 (upd u0 (nI k).toNatClampNeg 0)) (hc49 mGo) dyn, 0, 0)) rfl ?_
      refine pm_go (g := (99, _, [.int 0, .int c, .ref 25], _, 0, 0)) rfl ?_
      refine pm_go (g := (100, _, [.int (c + 0), .ref 25], _, 0, 0)) rfl ?_
      try have h3 : (c + 0).toInt = (c).toInt + 0 := iAdd (x := (c).toInt) (y := 0) rfl (by decide) (by omega) (by omega)
      refine pm_go (g := (103, _, [], hq g c1 c2 c3 c4 c5 c6 c7 c8 c9 c10 c11 c12 c13 c14 c15 c16 c17 c18 c19 c20 c21 c22 c23 c24 (hc25 mTy mTm mMn mFn mRn mTn mVn mLr mTr mFl (c + 0) mFp mSc mMp mEn) (hc26 mPa) (hc27 mTo) (hc28 mOt) (hc29 mNa) (hc30 mRe) (hc31 mMa) (hc32 mMy) (hc33 mPm) (hc34 mFy) (hc35 mFa) (hc36 mFr) (hc37 mFo) (hc38 mRt) (hc39 mRm) (hc40 mTt) (hc41 mTi) (hc42 mPl) (hc43 mVr) (hc44 mVf) (hc45 mVc) (hc46 mAr) (hc47 mTc) (hc48 (upd u0 (nI k).toNatClampNeg 0)) (hc49 mGo) dyn, 0, 0)) rfl ?_
      refine pm_go (g := (106, [(6, .int ((nI k) + 1)), (5, .int p), (0, .ref 25), (1, .int t), (2, .int w), (3, .int f), (4, .int s)], [], _, 0, 0)) rfl ?_
      refine pm_go (g := (23, _, [], _, 0, 0)) rfl ?_
      refine pm_sub (lv := [(6, .int ((nI k) + 1)), (5, .int p), (0, .ref 25), (1, .int t), (2, .int w), (3, .int f), (4, .int s)]) ?_ ⟨le_c (List.Mem.head _) (le_c (List.Mem.tail _ (List.Mem.head _)) (le_c (List.Mem.tail _ (List.Mem.tail _ (List.Mem.head _))) (le_c (List.Mem.tail _ (List.Mem.tail _ (List.Mem.tail _ (List.Mem.head _)))) (le_c (List.Mem.tail _ (List.Mem.tail _ (List.Mem.tail _ (List.Mem.tail _ (List.Mem.head _))))) (le_c (List.Mem.tail _ (List.Mem.tail _ (List.Mem.tail _ (List.Mem.tail _ (List.Mem.tail _ (List.Mem.head _)))))) (le_c (List.Mem.tail _ (List.Mem.tail _ (List.Mem.tail _ (List.Mem.tail _ (List.Mem.tail _ (List.Mem.tail _ (List.Mem.head _))))))) le_n)))))), (show ([6, 5, 0, 1, 2, 3, 4] : List Nat).Nodup by decide)⟩
      rw [nI_1, hkc]
      refine ih (k + 1) (upd u0 k 0) (c + 0) (by omega) (by omega) (fun j q => ?_) ?_ k0
      · rcases Nat.lt_succ_iff_lt_or_eq.mp q with q | q
        · rw [updN (by omega)]; exact g3 j q
        · subst q; rw [updS]; exact ⟨fun q => absurd (show (0 : Int32).toInt = 0 by decide) q, fun q => absurd q (by rintro ⟨q1, q2, q3⟩; first | omega | contradiction)⟩
      · show _ = cF (upd u0 k 0) k + (if (upd u0 k 0 k).toInt ≠ 0 then 1 else 0)
        rw [cF_upd (Nat.le_refl k), updS, if_neg (by decide)]; omega
    have h2 := qF_ne (cx := (mNa (nI k).toNatClampNeg).toInt) (cy := (w).toInt) rfl rfl h2
    refine pm_go (g := (50, [(6, .int (nI k)), (5, .int p), (0, .ref 25), (1, .int t), (2, .int w), (3, .int f), (4, .int s)], [.ref 25, .int (nI k), .ref 48], hq g c1 c2 c3 c4 c5 c6 c7 c8 c9 c10 c11 c12 c13 c14 c15 c16 c17 c18 c19 c20 c21 c22 c23 c24 (hc25 mTy mTm mMn mFn mRn mTn mVn mLr mTr mFl c mFp mSc mMp mEn) (hc26 mPa) (hc27 mTo) (hc28 mOt) (hc29 mNa) (hc30 mRe) (hc31 mMa) (hc32 mMy) (hc33 mPm) (hc34 mFy) (hc35 mFa) (hc36 mFr) (hc37 mFo) (hc38 mRt) (hc39 mRm) (hc40 mTt) (hc41 mTi) (hc42 mPl) (hc43 mVr) (hc44 mVf) (hc45 mVc) (hc46 mAr) (hc47 mTc) (hc48 u0) (hc49 mGo) dyn, 0, 0)) rfl ?_
    refine pm_go (g := (51, _, [.int t, .ref 25, .int (nI k), .ref 48], _, 0, 0)) rfl ?_
    refine pm_go (g := (53, _, [.int (nI k), .int t, .ref 25, .int (nI k), .ref 48], _, 0, 0)) rfl ?_
    refine pm_callD (z := 143) (as := [.ref 25, .int t, .int (nI k)]) (rest := [.int (nI k), .ref 48]) rfl ?_
    refine w_X12_isHad t (nI k) (by omega) (by assumption) (by assumption) (by omega) (fun h4 => ?_) (fun h5 => ?_)
    ·
      show pm_WP 150 (56, [(6, .int (nI k)), (5, .int p), (0, .ref 25), (1, .int t), (2, .int w), (3, .int f), (4, .int s)], [.int 1, .int (nI k), .ref 48], _, 0, 0) _
      refine pm_brF (h := (59, [(6, .int (nI k)), (5, .int p), (0, .ref 25), (1, .int t), (2, .int w), (3, .int f), (4, .int s)], [.int (nI k), .ref 48], hq g c1 c2 c3 c4 c5 c6 c7 c8 c9 c10 c11 c12 c13 c14 c15 c16 c17 c18 c19 c20 c21 c22 c23 c24 (hc25 mTy mTm mMn mFn mRn mTn mVn mLr mTr mFl c mFp mSc mMp mEn) (hc26 mPa) (hc27 mTo) (hc28 mOt) (hc29 mNa) (hc30 mRe) (hc31 mMa) (hc32 mMy) (hc33 mPm) (hc34 mFy) (hc35 mFa) (hc36 mFr) (hc37 mFo) (hc38 mRt) (hc39 mRm) (hc40 mTt) (hc41 mTi) (hc42 mPl) (hc43 mVr) (hc44 mVf) (hc45 mVc) (hc46 mAr) (hc47 mTc) (hc48 u0) (hc49 mGo) dyn, 0, 0)) rfl ?_
      refine pm_go (g := (60, _, [.ref 25, .int (nI k), .ref 48], _, 0, 0)) rfl ?_
      refine pm_go (g := (62, _, [.int (nI k), .ref 25, .int (nI k), .ref 48], _, 0, 0)) rfl ?_
      refine pm_go (g := (63, _, [.int f, .int (nI k), .ref 25, .int (nI k), .ref 48], _, 0, 0)) rfl ?_
      refine pm_go (g := (65, _, [.int s, .int f, .int (nI k), .ref 25, .int (nI k), .ref 48], _, 0, 0)) rfl ?_
      refine pm_go (g := (67, _, [.int p, .int s, .int f, .int (nI k), .ref 25, .int (nI k), .ref 48], _, 0, 0)) rfl ?_
      refine pm_callD (z := 148) (as := [.ref 25, .int (nI k), .int f, .int s, .int p]) (rest := [.int (nI k), .ref 48]) rfl ?_
      refine w_X12_takes (nI k) f s p (by omega) (by omega) (by omega) (by omega) (by omega) (by assumption) (by assumption) (by assumption) (fun h7 => ?_) (fun h8 => ?_)
      ·
        show pm_WP 150 (70, [(6, .int (nI k)), (5, .int p), (0, .ref 25), (1, .int t), (2, .int w), (3, .int f), (4, .int s)], [.int 1, .int (nI k), .ref 48], _, 0, 0) _
        refine pm_brF (h := (73, [(6, .int (nI k)), (5, .int p), (0, .ref 25), (1, .int t), (2, .int w), (3, .int f), (4, .int s)], [.int (nI k), .ref 48], hq g c1 c2 c3 c4 c5 c6 c7 c8 c9 c10 c11 c12 c13 c14 c15 c16 c17 c18 c19 c20 c21 c22 c23 c24 (hc25 mTy mTm mMn mFn mRn mTn mVn mLr mTr mFl c mFp mSc mMp mEn) (hc26 mPa) (hc27 mTo) (hc28 mOt) (hc29 mNa) (hc30 mRe) (hc31 mMa) (hc32 mMy) (hc33 mPm) (hc34 mFy) (hc35 mFa) (hc36 mFr) (hc37 mFo) (hc38 mRt) (hc39 mRm) (hc40 mTt) (hc41 mTi) (hc42 mPl) (hc43 mVr) (hc44 mVf) (hc45 mVc) (hc46 mAr) (hc47 mTc) (hc48 u0) (hc49 mGo) dyn, 0, 0)) rfl ?_
        refine pm_go (g := (74, _, [.int 1, .int (nI k), .ref 48], _, 0, 0)) rfl ?_
        refine pm_go (g := (78, _, [.int 1, .int (nI k), .ref 48], _, 0, 0)) rfl ?_
        refine pm_sd (g := (79, _, [], hq g c1 c2 c3 c4 c5 c6 c7 c8 c9 c10 c11 c12 c13 c14 c15 c16 c17 c18 c19 c20 c21 c22 c23 c24 (hc25 mTy mTm mMn mFn mRn mTn mVn mLr mTr mFl c mFp mSc mMp mEn) (hc26 mPa) (hc27 mTo) (hc28 mOt) (hc29 mNa) (hc30 mRe) (hc31 mMa) (hc32 mMy) (hc33 mPm) (hc34 mFy) (hc35 mFa) (hc36 mFr) (hc37 mFo) (hc38 mRt) (hc39 mRm) (hc40 mTt) (hc41 mTi) (hc42 mPl) (hc43 mVr) (hc44 mVf) (hc45 mVc) (hc46 mAr) (hc47 mTc) (hc48 (upd u0 (nI k).toNatClampNeg 1)) (hc49 mGo) dyn, 0, 0)) rfl (pm_inI (by omega) (by omega)) ?_
        refine pm_go (g := (80, _, [.ref 25], _, 0, 0)) rfl ?_
        refine pm_go (g := (81, _, [.ref 25, .ref 25], _, 0, 0)) rfl ?_
        refine pm_go (g := (84, _, [.int c, .ref 25], _, 0, 0)) rfl ?_
        refine pm_go (g := (85, _, [.ref 25, .int c, .ref 25], _, 0, 0)) rfl ?_
        refine pm_go (g := (88, _, [.ref 48, .int c, .ref 25], _, 0, 0)) rfl ?_
        refine pm_go (g := (90, _, [.int (nI k), .ref 48, .int c, .ref 25], _, 0, 0)) rfl ?_
        refine pm_sd (g := (91, _, [.int ((upd u0 (nI k).toNatClampNeg 1) (nI k).toNatClampNeg), .int c, .ref 25], _, 0, 0)) rfl (pm_inI (by omega) (by omega)) ?_
        rw [updS]
        refine pm_brF (h := (94, [(6, .int (nI k)), (5, .int p), (0, .ref 25), (1, .int t), (2, .int w), (3, .int f), (4, .int s)], [.int c, .ref 25], hq g c1 c2 c3 c4 c5 c6 c7 c8 c9 c10 c11 c12 c13 c14 c15 c16 c17 c18 c19 c20 c21 c22 c23 c24 (hc25 mTy mTm mMn mFn mRn mTn mVn mLr mTr mFl c mFp mSc mMp mEn) (hc26 mPa) (hc27 mTo) (hc28 mOt) (hc29 mNa) (hc30 mRe) (hc31 mMa) (hc32 mMy) (hc33 mPm) (hc34 mFy) (hc35 mFa) (hc36 mFr) (hc37 mFo) (hc38 mRt) (hc39 mRm) (hc40 mTt) (hc41 mTi) (hc42 mPl) (hc43 mVr) (hc44 mVf) (hc45 mVc) (hc46 mAr) (hc47 mTc) (hc48 (upd u0 (nI k).toNatClampNeg 1)) (hc49 mGo) dyn, 0, 0)) rfl ?_
        refine pm_go (g := (95, _, [.int 1, .int c, .ref 25], _, 0, 0)) rfl ?_
        refine pm_go (g := (99, _, [.int 1, .int c, .ref 25], _, 0, 0)) rfl ?_
        refine pm_go (g := (100, _, [.int (c + 1), .ref 25], _, 0, 0)) rfl ?_
        try have h10 : (c + 1).toInt = (c).toInt + 1 := iAdd (x := (c).toInt) (y := 1) rfl (by decide) (by omega) (by omega)
        refine pm_go (g := (103, _, [], hq g c1 c2 c3 c4 c5 c6 c7 c8 c9 c10 c11 c12 c13 c14 c15 c16 c17 c18 c19 c20 c21 c22 c23 c24 (hc25 mTy mTm mMn mFn mRn mTn mVn mLr mTr mFl (c + 1) mFp mSc mMp mEn) (hc26 mPa) (hc27 mTo) (hc28 mOt) (hc29 mNa) (hc30 mRe) (hc31 mMa) (hc32 mMy) (hc33 mPm) (hc34 mFy) (hc35 mFa) (hc36 mFr) (hc37 mFo) (hc38 mRt) (hc39 mRm) (hc40 mTt) (hc41 mTi) (hc42 mPl) (hc43 mVr) (hc44 mVf) (hc45 mVc) (hc46 mAr) (hc47 mTc) (hc48 (upd u0 (nI k).toNatClampNeg 1)) (hc49 mGo) dyn, 0, 0)) rfl ?_
        refine pm_go (g := (106, [(6, .int ((nI k) + 1)), (5, .int p), (0, .ref 25), (1, .int t), (2, .int w), (3, .int f), (4, .int s)], [], _, 0, 0)) rfl ?_
        refine pm_go (g := (23, _, [], _, 0, 0)) rfl ?_
        refine pm_sub (lv := [(6, .int ((nI k) + 1)), (5, .int p), (0, .ref 25), (1, .int t), (2, .int w), (3, .int f), (4, .int s)]) ?_ ⟨le_c (List.Mem.head _) (le_c (List.Mem.tail _ (List.Mem.head _)) (le_c (List.Mem.tail _ (List.Mem.tail _ (List.Mem.head _))) (le_c (List.Mem.tail _ (List.Mem.tail _ (List.Mem.tail _ (List.Mem.head _)))) (le_c (List.Mem.tail _ (List.Mem.tail _ (List.Mem.tail _ (List.Mem.tail _ (List.Mem.head _))))) (le_c (List.Mem.tail _ (List.Mem.tail _ (List.Mem.tail _ (List.Mem.tail _ (List.Mem.tail _ (List.Mem.head _)))))) (le_c (List.Mem.tail _ (List.Mem.tail _ (List.Mem.tail _ (List.Mem.tail _ (List.Mem.tail _ (List.Mem.tail _ (List.Mem.head _))))))) le_n)))))), (show ([6, 5, 0, 1, 2, 3, 4] : List Nat).Nodup by decide)⟩
        rw [nI_1, hkc]
        refine ih (k + 1) (upd u0 k 1) (c + 1) (by omega) (by omega) (fun j q => ?_) ?_ k0
        · rcases Nat.lt_succ_iff_lt_or_eq.mp q with q | q
          · rw [updN (by omega)]; exact g3 j q
          · subst q; rw [updS]; exact ⟨fun _ => ⟨by omega, by assumption, by assumption⟩, fun _ => by decide⟩
        · show _ = cF (upd u0 k 1) k + (if (upd u0 k 1 k).toInt ≠ 0 then 1 else 0)
          rw [cF_upd (Nat.le_refl k), updS, if_pos (by decide)]; omega
      show pm_WP 150 (70, [(6, .int (nI k)), (5, .int p), (0, .ref 25), (1, .int t), (2, .int w), (3, .int f), (4, .int s)], [.int 0, .int (nI k), .ref 48], hq g c1 c2 c3 c4 c5 c6 c7 c8 c9 c10 c11 c12 c13 c14 c15 c16 c17 c18 c19 c20 c21 c22 c23 c24 (hc25 mTy mTm mMn mFn mRn mTn mVn mLr mTr mFl c mFp mSc mMp mEn) (hc26 mPa) (hc27 mTo) (hc28 mOt) (hc29 mNa) (hc30 mRe) (hc31 mMa) (hc32 mMy) (hc33 mPm) (hc34 mFy) (hc35 mFa) (hc36 mFr) (hc37 mFo) (hc38 mRt) (hc39 mRm) (hc40 mTt) (hc41 mTi) (hc42 mPl) (hc43 mVr) (hc44 mVf) (hc45 mVc) (hc46 mAr) (hc47 mTc) (hc48 u0) (hc49 mGo) dyn, 0, 0) _
      refine pm_brT (g := (77, [(6, .int (nI k)), (5, .int p), (0, .ref 25), (1, .int t), (2, .int w), (3, .int f), (4, .int s)], [.int (nI k), .ref 48], hq g c1 c2 c3 c4 c5 c6 c7 c8 c9 c10 c11 c12 c13 c14 c15 c16 c17 c18 c19 c20 c21 c22 c23 c24 (hc25 mTy mTm mMn mFn mRn mTn mVn mLr mTr mFl c mFp mSc mMp mEn) (hc26 mPa) (hc27 mTo) (hc28 mOt) (hc29 mNa) (hc30 mRe) (hc31 mMa) (hc32 mMy) (hc33 mPm) (hc34 mFy) (hc35 mFa) (hc36 mFr) (hc37 mFo) (hc38 mRt) (hc39 mRm) (hc40 mTt) (hc41 mTi) (hc42 mPl) (hc43 mVr) (hc44 mVf) (hc45 mVc) (hc46 mAr) (hc47 mTc) (hc48 u0) (hc49 mGo) dyn, 0, 0)) rfl ?_
      refine pm_go (g := (78, _, [.int 0, .int (nI k), .ref 48], _, 0, 0)) rfl ?_
      refine pm_sd (g := (79, _, [], hq g c1 c2 c3 c4 c5 c6 c7 c8 c9 c10 c11 c12 c13 c14 c15 c16 c17 c18 c19 c20 c21 c22 c23 c24 (hc25 mTy mTm mMn mFn mRn mTn mVn mLr mTr mFl c mFp mSc mMp mEn) (hc26 mPa) (hc27 mTo) (hc28 mOt) (hc29 mNa) (hc30 mRe) (hc31 mMa) (hc32 mMy) (hc33 mPm) (hc34 mFy) (hc35 mFa) (hc36 mFr) (hc37 mFo) (hc38 mRt) (hc39 mRm) (hc40 mTt) (hc41 mTi) (hc42 mPl) (hc43 mVr) (hc44 mVf) (hc45 mVc) (hc46 mAr) (hc47 mTc) (hc48 (upd u0 (nI k).toNatClampNeg 0)) (hc49 mGo) dyn, 0, 0)) rfl (pm_inI (by omega) (by omega)) ?_
      refine pm_go (g := (80, _, [.ref 25], _, 0, 0)) rfl ?_
      refine pm_go (g := (81, _, [.ref 25, .ref 25], _, 0, 0)) rfl ?_
      refine pm_go (g := (84, _, [.int c, .ref 25], _, 0, 0)) rfl ?_
      refine pm_go (g := (85, _, [.ref 25, .int c, .ref 25], _, 0, 0)) rfl ?_
      refine pm_go (g := (88, _, [.ref 48, .int c, .ref 25], _, 0, 0)) rfl ?_
      refine pm_go (g := (90, _, [.int (nI k), .ref 48, .int c, .ref 25], _, 0, 0)) rfl ?_
      refine pm_sd (g := (91, _, [.int ((upd u0 (nI k).toNatClampNeg 0) (nI k).toNatClampNeg), .int c, .ref 25], _, 0, 0)) rfl (pm_inI (by omega) (by omega)) ?_
      rw [updS]
      refine pm_brT (g := (98, [(6, .int (nI k)), (5, .int p), (0, .ref 25), (1, .int t), (2, .int w), (3, .int f), (4, .int s)], [.int c, .ref 25], hq g c1 c2 c3 c4 c5 c6 c7 c8 c9 c10 c11 c12 c13 c14 c15 c16 c17 c18 c19 c20 c21 c22 c23 c24 (hc25 mTy mTm mMn mFn mRn mTn mVn mLr mTr mFl c mFp mSc mMp mEn) (hc26 mPa) (hc27 mTo) (hc28 mOt) (hc29 mNa) (hc30 mRe) (hc31 mMa) (hc32 mMy) (hc33 mPm) (hc34 mFy) (hc35 mFa) (hc36 mFr) (hc37 mFo) (hc38 mRt) (hc39 mRm) (hc40 mTt) (hc41 mTi) (hc42 mPl) (hc43 mVr) (hc44 mVf) (hc45 mVc) (hc46 mAr) (hc47 mTc) (hc48 (upd u0 (nI k).toNatClampNeg 0)) (hc49 mGo) dyn, 0, 0)) rfl ?_
      refine pm_go (g := (99, _, [.int 0, .int c, .ref 25], _, 0, 0)) rfl ?_
      refine pm_go (g := (100, _, [.int (c + 0), .ref 25], _, 0, 0)) rfl ?_
      try have h11 : (c + 0).toInt = (c).toInt + 0 := iAdd (x := (c).toInt) (y := 0) rfl (by decide) (by omega) (by omega)
      refine pm_go (g := (103, _, [], hq g c1 c2 c3 c4 c5 c6 c7 c8 c9 c10 c11 c12 c13 c14 c15 c16 c17 c18 c19 c20 c21 c22 c23 c24 (hc25 mTy mTm mMn mFn mRn mTn mVn mLr mTr mFl (c + 0) mFp mSc mMp mEn) (hc26 mPa) (hc27 mTo) (hc28 mOt) (hc29 mNa) (hc30 mRe) (hc31 mMa) (hc32 mMy) (hc33 mPm) (hc34 mFy) (hc35 mFa) (hc36 mFr) (hc37 mFo) (hc38 mRt) (hc39 mRm) (hc40 mTt) (hc41 mTi) (hc42 mPl) (hc43 mVr) (hc44 mVf) (hc45 mVc) (hc46 mAr) (hc47 mTc) (hc48 (upd u0 (nI k).toNatClampNeg 0)) (hc49 mGo) dyn, 0, 0)) rfl ?_
      refine pm_go (g := (106, [(6, .int ((nI k) + 1)), (5, .int p), (0, .ref 25), (1, .int t), (2, .int w), (3, .int f), (4, .int s)], [], _, 0, 0)) rfl ?_
      refine pm_go (g := (23, _, [], _, 0, 0)) rfl ?_
      refine pm_sub (lv := [(6, .int ((nI k) + 1)), (5, .int p), (0, .ref 25), (1, .int t), (2, .int w), (3, .int f), (4, .int s)]) ?_ ⟨le_c (List.Mem.head _) (le_c (List.Mem.tail _ (List.Mem.head _)) (le_c (List.Mem.tail _ (List.Mem.tail _ (List.Mem.head _))) (le_c (List.Mem.tail _ (List.Mem.tail _ (List.Mem.tail _ (List.Mem.head _)))) (le_c (List.Mem.tail _ (List.Mem.tail _ (List.Mem.tail _ (List.Mem.tail _ (List.Mem.head _))))) (le_c (List.Mem.tail _ (List.Mem.tail _ (List.Mem.tail _ (List.Mem.tail _ (List.Mem.tail _ (List.Mem.head _)))))) (le_c (List.Mem.tail _ (List.Mem.tail _ (List.Mem.tail _ (List.Mem.tail _ (List.Mem.tail _ (List.Mem.tail _ (List.Mem.head _))))))) le_n)))))), (show ([6, 5, 0, 1, 2, 3, 4] : List Nat).Nodup by decide)⟩
      rw [nI_1, hkc]
      refine ih (k + 1) (upd u0 k 0) (c + 0) (by omega) (by omega) (fun j q => ?_) ?_ k0
      · rcases Nat.lt_succ_iff_lt_or_eq.mp q with q | q
        · rw [updN (by omega)]; exact g3 j q
        · subst q; rw [updS]; exact ⟨fun q => absurd (show (0 : Int32).toInt = 0 by decide) q, fun q => absurd q (by rintro ⟨q1, q2, q3⟩; first | omega | contradiction)⟩
      · show _ = cF (upd u0 k 0) k + (if (upd u0 k 0 k).toInt ≠ 0 then 1 else 0)
        rw [cF_upd (Nat.le_refl k), updS, if_neg (by decide)]; omega
    show pm_WP 150 (56, [(6, .int (nI k)), (5, .int p), (0, .ref 25), (1, .int t), (2, .int w), (3, .int f), (4, .int s)], [.int 0, .int (nI k), .ref 48], hq g c1 c2 c3 c4 c5 c6 c7 c8 c9 c10 c11 c12 c13 c14 c15 c16 c17 c18 c19 c20 c21 c22 c23 c24 (hc25 mTy mTm mMn mFn mRn mTn mVn mLr mTr mFl c mFp mSc mMp mEn) (hc26 mPa) (hc27 mTo) (hc28 mOt) (hc29 mNa) (hc30 mRe) (hc31 mMa) (hc32 mMy) (hc33 mPm) (hc34 mFy) (hc35 mFa) (hc36 mFr) (hc37 mFo) (hc38 mRt) (hc39 mRm) (hc40 mTt) (hc41 mTi) (hc42 mPl) (hc43 mVr) (hc44 mVf) (hc45 mVc) (hc46 mAr) (hc47 mTc) (hc48 u0) (hc49 mGo) dyn, 0, 0) _
    refine pm_brT (g := (77, [(6, .int (nI k)), (5, .int p), (0, .ref 25), (1, .int t), (2, .int w), (3, .int f), (4, .int s)], [.int (nI k), .ref 48], hq g c1 c2 c3 c4 c5 c6 c7 c8 c9 c10 c11 c12 c13 c14 c15 c16 c17 c18 c19 c20 c21 c22 c23 c24 (hc25 mTy mTm mMn mFn mRn mTn mVn mLr mTr mFl c mFp mSc mMp mEn) (hc26 mPa) (hc27 mTo) (hc28 mOt) (hc29 mNa) (hc30 mRe) (hc31 mMa) (hc32 mMy) (hc33 mPm) (hc34 mFy) (hc35 mFa) (hc36 mFr) (hc37 mFo) (hc38 mRt) (hc39 mRm) (hc40 mTt) (hc41 mTi) (hc42 mPl) (hc43 mVr) (hc44 mVf) (hc45 mVc) (hc46 mAr) (hc47 mTc) (hc48 u0) (hc49 mGo) dyn, 0, 0)) rfl ?_
    refine pm_go (g := (78, _, [.int 0, .int (nI k), .ref 48], _, 0, 0)) rfl ?_
    refine pm_sd (g := (79, _, [], hq g c1 c2 c3 c4 c5 c6 c7 c8 c9 c10 c11 c12 c13 c14 c15 c16 c17 c18 c19 c20 c21 c22 c23 c24 (hc25 mTy mTm mMn mFn mRn mTn mVn mLr mTr mFl c mFp mSc mMp mEn) (hc26 mPa) (hc27 mTo) (hc28 mOt) (hc29 mNa) (hc30 mRe) (hc31 mMa) (hc32 mMy) (hc33 mPm) (hc34 mFy) (hc35 mFa) (hc36 mFr) (hc37 mFo) (hc38 mRt) (hc39 mRm) (hc40 mTt) (hc41 mTi) (hc42 mPl) (hc43 mVr) (hc44 mVf) (hc45 mVc) (hc46 mAr) (hc47 mTc) (hc48 (upd u0 (nI k).toNatClampNeg 0)) (hc49 mGo) dyn, 0, 0)) rfl (pm_inI (by omega) (by omega)) ?_
    refine pm_go (g := (80, _, [.ref 25], _, 0, 0)) rfl ?_
    refine pm_go (g := (81, _, [.ref 25, .ref 25], _, 0, 0)) rfl ?_
    refine pm_go (g := (84, _, [.int c, .ref 25], _, 0, 0)) rfl ?_
    refine pm_go (g := (85, _, [.ref 25, .int c, .ref 25], _, 0, 0)) rfl ?_
    refine pm_go (g := (88, _, [.ref 48, .int c, .ref 25], _, 0, 0)) rfl ?_
    refine pm_go (g := (90, _, [.int (nI k), .ref 48, .int c, .ref 25], _, 0, 0)) rfl ?_
    refine pm_sd (g := (91, _, [.int ((upd u0 (nI k).toNatClampNeg 0) (nI k).toNatClampNeg), .int c, .ref 25], _, 0, 0)) rfl (pm_inI (by omega) (by omega)) ?_
    rw [updS]
    refine pm_brT (g := (98, [(6, .int (nI k)), (5, .int p), (0, .ref 25), (1, .int t), (2, .int w), (3, .int f), (4, .int s)], [.int c, .ref 25], hq g c1 c2 c3 c4 c5 c6 c7 c8 c9 c10 c11 c12 c13 c14 c15 c16 c17 c18 c19 c20 c21 c22 c23 c24 (hc25 mTy mTm mMn mFn mRn mTn mVn mLr mTr mFl c mFp mSc mMp mEn) (hc26 mPa) (hc27 mTo) (hc28 mOt) (hc29 mNa) (hc30 mRe) (hc31 mMa) (hc32 mMy) (hc33 mPm) (hc34 mFy) (hc35 mFa) (hc36 mFr) (hc37 mFo) (hc38 mRt) (hc39 mRm) (hc40 mTt) (hc41 mTi) (hc42 mPl) (hc43 mVr) (hc44 mVf) (hc45 mVc) (hc46 mAr) (hc47 mTc) (hc48 (upd u0 (nI k).toNatClampNeg 0)) (hc49 mGo) dyn, 0, 0)) rfl ?_
    refine pm_go (g := (99, _, [.int 0, .int c, .ref 25], _, 0, 0)) rfl ?_
    refine pm_go (g := (100, _, [.int (c + 0), .ref 25], _, 0, 0)) rfl ?_
    try have h12 : (c + 0).toInt = (c).toInt + 0 := iAdd (x := (c).toInt) (y := 0) rfl (by decide) (by omega) (by omega)
    refine pm_go (g := (103, _, [], hq g c1 c2 c3 c4 c5 c6 c7 c8 c9 c10 c11 c12 c13 c14 c15 c16 c17 c18 c19 c20 c21 c22 c23 c24 (hc25 mTy mTm mMn mFn mRn mTn mVn mLr mTr mFl (c + 0) mFp mSc mMp mEn) (hc26 mPa) (hc27 mTo) (hc28 mOt) (hc29 mNa) (hc30 mRe) (hc31 mMa) (hc32 mMy) (hc33 mPm) (hc34 mFy) (hc35 mFa) (hc36 mFr) (hc37 mFo) (hc38 mRt) (hc39 mRm) (hc40 mTt) (hc41 mTi) (hc42 mPl) (hc43 mVr) (hc44 mVf) (hc45 mVc) (hc46 mAr) (hc47 mTc) (hc48 (upd u0 (nI k).toNatClampNeg 0)) (hc49 mGo) dyn, 0, 0)) rfl ?_
    refine pm_go (g := (106, [(6, .int ((nI k) + 1)), (5, .int p), (0, .ref 25), (1, .int t), (2, .int w), (3, .int f), (4, .int s)], [], _, 0, 0)) rfl ?_
    refine pm_go (g := (23, _, [], _, 0, 0)) rfl ?_
    refine pm_sub (lv := [(6, .int ((nI k) + 1)), (5, .int p), (0, .ref 25), (1, .int t), (2, .int w), (3, .int f), (4, .int s)]) ?_ ⟨le_c (List.Mem.head _) (le_c (List.Mem.tail _ (List.Mem.head _)) (le_c (List.Mem.tail _ (List.Mem.tail _ (List.Mem.head _))) (le_c (List.Mem.tail _ (List.Mem.tail _ (List.Mem.tail _ (List.Mem.head _)))) (le_c (List.Mem.tail _ (List.Mem.tail _ (List.Mem.tail _ (List.Mem.tail _ (List.Mem.head _))))) (le_c (List.Mem.tail _ (List.Mem.tail _ (List.Mem.tail _ (List.Mem.tail _ (List.Mem.tail _ (List.Mem.head _)))))) (le_c (List.Mem.tail _ (List.Mem.tail _ (List.Mem.tail _ (List.Mem.tail _ (List.Mem.tail _ (List.Mem.tail _ (List.Mem.head _))))))) le_n)))))), (show ([6, 5, 0, 1, 2, 3, 4] : List Nat).Nodup by decide)⟩
    rw [nI_1, hkc]
    refine ih (k + 1) (upd u0 k 0) (c + 0) (by omega) (by omega) (fun j q => ?_) ?_ k0
    · rcases Nat.lt_succ_iff_lt_or_eq.mp q with q | q
      · rw [updN (by omega)]; exact g3 j q
      · subst q; rw [updS]; exact ⟨fun q => absurd (show (0 : Int32).toInt = 0 by decide) q, fun q => absurd q (by rintro ⟨q1, q2, q3⟩; first | omega | contradiction)⟩
    · show _ = cF (upd u0 k 0) k + (if (upd u0 k 0 k).toInt ≠ 0 then 1 else 0)
      rw [cF_upd (Nat.le_refl k), updS, if_neg (by decide)]; omega
set_option maxRecDepth 100000 in
set_option maxHeartbeats 4000000 in
theorem w_searched_best {g c1 c2 c3 c4 c5 c6 c7 c8 c9 c10 c11 c12 c13 c14 c15 c16 c17 c18 c19 c20 c21 c22 c23 c24 : pm_C} {dyn : pm_H} {mTy : Int32} {mPa : Nat → Int32} {mTo : Nat → Int32} {mTm : Int32} {mMn : Int32} {mOt : Nat → Int32} {mNa : Nat → Int32} {mRe : Nat → Int32} {mMa : Nat → Int32} {mMy : Nat → Int32} {mPm : Nat → Int32} {mFn : Int32} {mFy : Nat → Int32} {mFa : Nat → Int32} {mFr : Nat → Int32} {mRn : Int32} {mFo : Nat → Int32} {mRt : Nat → Int32} {mRm : Nat → Int32} {mTn : Int32} {mTt : Nat → Int32} {mTi : Nat → Int32} {mPl : Nat → Int32} {mVn : Int32} {mVr : Nat → Int32} {mVf : Nat → Int32} {mVc : Nat → Int32} {mAr : Nat → Int32} {mLr : Int32} {mTc : Nat → Int32} {mTr : Int32} {mFl : Int32} {mFt : Nat → Int32} {mFm : Int32} {mFp : Int32} {mSc : Int32} {mMp : Int32} {mEn : Int32} {mGo : Nat → Int32} {Q : pm_Q} (t w f s : Int32) (hf : 0 ≤ f.toInt ∧ f.toInt < 10) (hs : 0 ≤ s.toInt ∧ s.toInt ≤ 1) (hfy : s.toInt ≤ (mFy f.toNatClampNeg).toInt ∧ (mFy f.toNatClampNeg).toInt ≤ 3) (hpp : 1 ≤ mFp.toInt ∧ mFp.toInt ≤ 3) (hp : paD mPa) (hy : myD mMy) (hn : 0 ≤ mMn.toInt ∧ mMn.toInt ≤ 40) (hfv : fvD mFp mMy mFt mMn) : ∀ (n k : Nat) (b : Int32) (c : Int32), ((k : Int) ≤ mMn.toInt) → (40 < k + n) → (bsM (fun j : Nat => ((mFt j).toInt ≠ 0 ∧ spL mPa mMy mPm mFt mMn mFp (mFy f.toNatClampNeg - s) (nI j) 0)) c b k) → (∀ r9 : Int32, uqM (fun j : Nat => ((mFt j).toInt ≠ 0 ∧ spL mPa mMy mPm mFt mMn mFp (mFy f.toNatClampNeg - s) (nI j) 0)) mMn r9 → Q (some (.int r9)) (hq g c1 c2 c3 c4 c5 c6 c7 c8 c9 c10 c11 c12 c13 c14 c15 c16 c17 c18 c19 c20 c21 c22 c23 c24 (hc25 mTy mTm mMn mFn mRn mTn mVn mLr mTr mFl mFm mFp mSc mMp mEn) (hc26 mPa) (hc27 mTo) (hc28 mOt) (hc29 mNa) (hc30 mRe) (hc31 mMa) (hc32 mMy) (hc33 mPm) (hc34 mFy) (hc35 mFa) (hc36 mFr) (hc37 mFo) (hc38 mRt) (hc39 mRm) (hc40 mTt) (hc41 mTi) (hc42 mPl) (hc43 mVr) (hc44 mVf) (hc45 mVc) (hc46 mAr) (hc47 mTc) (hc48 mFt) (hc49 mGo) dyn)) → pm_WP 150 (152, [(7, .int (nI k)), (6, .int c), (5, .int b), (0, .ref 25), (1, .int t), (2, .int w), (3, .int f), (4, .int s)], [], hq g c1 c2 c3 c4 c5 c6 c7 c8 c9 c10 c11 c12 c13 c14 c15 c16 c17 c18 c19 c20 c21 c22 c23 c24 (hc25 mTy mTm mMn mFn mRn mTn mVn mLr mTr mFl mFm mFp mSc mMp mEn) (hc26 mPa) (hc27 mTo) (hc28 mOt) (hc29 mNa) (hc30 mRe) (hc31 mMa) (hc32 mMy) (hc33 mPm) (hc34 mFy) (hc35 mFa) (hc36 mFr) (hc37 mFo) (hc38 mRt) (hc39 mRm) (hc40 mTt) (hc41 mTi) (hc42 mPl) (hc43 mVr) (hc44 mVf) (hc45 mVc) (hc46 mAr) (hc47 mTc) (hc48 mFt) (hc49 mGo) dyn, 0, 0) Q := by
  intro n
  induction n with
  | zero =>
    intro k b c g1 g2 g3 k0
    exfalso; omega
  | succ n ih =>
    intro k b c g1 g2 g3 k0
    have hk := nI_toInt (n := k) (by omega)
    have hkc : (nI k).toNatClampNeg = k := nI_clamp (by omega)
    have hb := bsM_b g3
    have hft : (mFt (nI k).toNatClampNeg).toInt = (mFt k).toInt := by rw [hkc]
    have h3k : mFp.toInt = 3 → (k : Int) < mMn.toInt → (mFt k).toInt ≠ 0 → 1 ≤ (mMy (nI k).toNatClampNeg).toInt := fun q q1 q2 => by rw [hkc]; exact hfv q k q1 q2
    refine pm_go (g := (154, [(7, .int (nI k)), (6, .int c), (5, .int b), (0, .ref 25), (1, .int t), (2, .int w), (3, .int f), (4, .int s)], [.int (nI k)], hq g c1 c2 c3 c4 c5 c6 c7 c8 c9 c10 c11 c12 c13 c14 c15 c16 c17 c18 c19 c20 c21 c22 c23 c24 (hc25 mTy mTm mMn mFn mRn mTn mVn mLr mTr mFl mFm mFp mSc mMp mEn) (hc26 mPa) (hc27 mTo) (hc28 mOt) (hc29 mNa) (hc30 mRe) (hc31 mMa) (hc32 mMy) (hc33 mPm) (hc34 mFy) (hc35 mFa) (hc36 mFr) (hc37 mFo) (hc38 mRt) (hc39 mRm) (hc40 mTt) (hc41 mTi) (hc42 mPl) (hc43 mVr) (hc44 mVf) (hc45 mVc) (hc46 mAr) (hc47 mTc) (hc48 mFt) (hc49 mGo) dyn, 0, 0)) rfl ?_
    refine pm_go (g := (155, _, [.ref 25, .int (nI k)], _, 0, 0)) rfl ?_
    refine pm_go (g := (158, _, [.int mMn, .int (nI k)], _, 0, 0)) rfl ?_
    refine pm_if2 (g := (202, [(7, .int (nI k)), (6, .int c), (5, .int b), (0, .ref 25), (1, .int t), (2, .int w), (3, .int f), (4, .int s)], [], hq g c1 c2 c3 c4 c5 c6 c7 c8 c9 c10 c11 c12 c13 c14 c15 c16 c17 c18 c19 c20 c21 c22 c23 c24 (hc25 mTy mTm mMn mFn mRn mTn mVn mLr mTr mFl mFm mFp mSc mMp mEn) (hc26 mPa) (hc27 mTo) (hc28 mOt) (hc29 mNa) (hc30 mRe) (hc31 mMa) (hc32 mMy) (hc33 mPm) (hc34 mFy) (hc35 mFa) (hc36 mFr) (hc37 mFo) (hc38 mRt) (hc39 mRm) (hc40 mTt) (hc41 mTi) (hc42 mPl) (hc43 mVr) (hc44 mVf) (hc45 mVc) (hc46 mAr) (hc47 mTc) (hc48 mFt) (hc49 mGo) dyn, 0, 0)) (h := (161, [(7, .int (nI k)), (6, .int c), (5, .int b), (0, .ref 25), (1, .int t), (2, .int w), (3, .int f), (4, .int s)], [], hq g c1 c2 c3 c4 c5 c6 c7 c8 c9 c10 c11 c12 c13 c14 c15 c16 c17 c18 c19 c20 c21 c22 c23 c24 (hc25 mTy mTm mMn mFn mRn mTn mVn mLr mTr mFl mFm mFp mSc mMp mEn) (hc26 mPa) (hc27 mTo) (hc28 mOt) (hc29 mNa) (hc30 mRe) (hc31 mMa) (hc32 mMy) (hc33 mPm) (hc34 mFy) (hc35 mFa) (hc36 mFr) (hc37 mFo) (hc38 mRt) (hc39 mRm) (hc40 mTt) (hc41 mTi) (hc42 mPl) (hc43 mVr) (hc44 mVf) (hc45 mVc) (hc46 mAr) (hc47 mTc) (hc48 mFt) (hc49 mGo) dyn, 0, 0)) rfl (fun h1 => ?_) (fun h1 => ?_)
    ·
      have h1 := qT_ge (cx := (nI k).toInt) (cy := (mMn).toInt) rfl rfl h1
      refine pm_go (g := (204, _, [.int c], _, 0, 0)) rfl ?_
      refine pm_go (g := (205, _, [.int 1, .int c], _, 0, 0)) rfl ?_
      refine pm_if2 (g := (213, [(7, .int (nI k)), (6, .int c), (5, .int b), (0, .ref 25), (1, .int t), (2, .int w), (3, .int f), (4, .int s)], [], hq g c1 c2 c3 c4 c5 c6 c7 c8 c9 c10 c11 c12 c13 c14 c15 c16 c17 c18 c19 c20 c21 c22 c23 c24 (hc25 mTy mTm mMn mFn mRn mTn mVn mLr mTr mFl mFm mFp mSc mMp mEn) (hc26 mPa) (hc27 mTo) (hc28 mOt) (hc29 mNa) (hc30 mRe) (hc31 mMa) (hc32 mMy) (hc33 mPm) (hc34 mFy) (hc35 mFa) (hc36 mFr) (hc37 mFo) (hc38 mRt) (hc39 mRm) (hc40 mTt) (hc41 mTi) (hc42 mPl) (hc43 mVr) (hc44 mVf) (hc45 mVc) (hc46 mAr) (hc47 mTc) (hc48 mFt) (hc49 mGo) dyn, 0, 0)) (h := (208, [(7, .int (nI k)), (6, .int c), (5, .int b), (0, .ref 25), (1, .int t), (2, .int w), (3, .int f), (4, .int s)], [], hq g c1 c2 c3 c4 c5 c6 c7 c8 c9 c10 c11 c12 c13 c14 c15 c16 c17 c18 c19 c20 c21 c22 c23 c24 (hc25 mTy mTm mMn mFn mRn mTn mVn mLr mTr mFl mFm mFp mSc mMp mEn) (hc26 mPa) (hc27 mTo) (hc28 mOt) (hc29 mNa) (hc30 mRe) (hc31 mMa) (hc32 mMy) (hc33 mPm) (hc34 mFy) (hc35 mFa) (hc36 mFr) (hc37 mFo) (hc38 mRt) (hc39 mRm) (hc40 mTt) (hc41 mTi) (hc42 mPl) (hc43 mVr) (hc44 mVf) (hc45 mVc) (hc46 mAr) (hc47 mTc) (hc48 mFt) (hc49 mGo) dyn, 0, 0)) rfl (fun h2 => ?_) (fun h2 => ?_)
      ·
        have h2 := qT_ne (cx := (c).toInt) (cy := 1) rfl (by decide) h2
        refine pm_go (g := (215, _, [.int (-5)], _, 0, 0)) rfl ?_
        exact pm_ret rfl (k0 _ (bsM_2 g3 (by omega) (by omega)))
      have h2 := qF_ne (cx := (c).toInt) (cy := 1) rfl (by decide) h2
      refine pm_go (g := (210, _, [.int b], _, 0, 0)) rfl ?_
      refine pm_go (g := (215, _, [.int b], _, 0, 0)) rfl ?_
      exact pm_ret rfl (k0 _ (bsM_1 g3 (by omega) (by omega)))
    have h1 := qF_ge (cx := (nI k).toInt) (cy := (mMn).toInt) rfl rfl h1
    refine pm_go (g := (162, _, [.ref 25], _, 0, 0)) rfl ?_
    refine pm_go (g := (165, _, [.ref 48], _, 0, 0)) rfl ?_
    refine pm_go (g := (167, _, [.int (nI k), .ref 48], _, 0, 0)) rfl ?_
    refine pm_sd (g := (168, _, [.int (mFt (nI k).toNatClampNeg)], _, 0, 0)) rfl (pm_inI (by omega) (by omega)) ?_
    refine pm_if2 (g := (196, [(7, .int (nI k)), (6, .int c), (5, .int b), (0, .ref 25), (1, .int t), (2, .int w), (3, .int f), (4, .int s)], [], hq g c1 c2 c3 c4 c5 c6 c7 c8 c9 c10 c11 c12 c13 c14 c15 c16 c17 c18 c19 c20 c21 c22 c23 c24 (hc25 mTy mTm mMn mFn mRn mTn mVn mLr mTr mFl mFm mFp mSc mMp mEn) (hc26 mPa) (hc27 mTo) (hc28 mOt) (hc29 mNa) (hc30 mRe) (hc31 mMa) (hc32 mMy) (hc33 mPm) (hc34 mFy) (hc35 mFa) (hc36 mFr) (hc37 mFo) (hc38 mRt) (hc39 mRm) (hc40 mTt) (hc41 mTi) (hc42 mPl) (hc43 mVr) (hc44 mVf) (hc45 mVc) (hc46 mAr) (hc47 mTc) (hc48 mFt) (hc49 mGo) dyn, 0, 0)) (h := (171, [(7, .int (nI k)), (6, .int c), (5, .int b), (0, .ref 25), (1, .int t), (2, .int w), (3, .int f), (4, .int s)], [], hq g c1 c2 c3 c4 c5 c6 c7 c8 c9 c10 c11 c12 c13 c14 c15 c16 c17 c18 c19 c20 c21 c22 c23 c24 (hc25 mTy mTm mMn mFn mRn mTn mVn mLr mTr mFl mFm mFp mSc mMp mEn) (hc26 mPa) (hc27 mTo) (hc28 mOt) (hc29 mNa) (hc30 mRe) (hc31 mMa) (hc32 mMy) (hc33 mPm) (hc34 mFy) (hc35 mFa) (hc36 mFr) (hc37 mFo) (hc38 mRt) (hc39 mRm) (hc40 mTt) (hc41 mTi) (hc42 mPl) (hc43 mVr) (hc44 mVf) (hc45 mVc) (hc46 mAr) (hc47 mTc) (hc48 mFt) (hc49 mGo) dyn, 0, 0)) rfl (fun h3 => ?_) (fun h3 => ?_)
    ·
      have h3 := qT_eq (cx := (mFt (nI k).toNatClampNeg).toInt) (cy := 0) rfl (by decide) h3
      refine pm_go (g := (199, [(7, .int ((nI k) + 1)), (6, .int c), (5, .int b), (0, .ref 25), (1, .int t), (2, .int w), (3, .int f), (4, .int s)], [], _, 0, 0)) rfl ?_
      refine pm_go (g := (152, _, [], _, 0, 0)) rfl ?_
      refine pm_sub (lv := [(7, .int ((nI k) + 1)), (6, .int c), (5, .int b), (0, .ref 25), (1, .int t), (2, .int w), (3, .int f), (4, .int s)]) ?_ ⟨le_c (List.Mem.head _) (le_c (List.Mem.tail _ (List.Mem.head _)) (le_c (List.Mem.tail _ (List.Mem.tail _ (List.Mem.head _))) (le_c (List.Mem.tail _ (List.Mem.tail _ (List.Mem.tail _ (List.Mem.head _)))) (le_c (List.Mem.tail _ (List.Mem.tail _ (List.Mem.tail _ (List.Mem.tail _ (List.Mem.head _))))) (le_c (List.Mem.tail _ (List.Mem.tail _ (List.Mem.tail _ (List.Mem.tail _ (List.Mem.tail _ (List.Mem.head _)))))) (le_c (List.Mem.tail _ (List.Mem.tail _ (List.Mem.tail _ (List.Mem.tail _ (List.Mem.tail _ (List.Mem.tail _ (List.Mem.head _))))))) (le_c (List.Mem.tail _ (List.Mem.tail _ (List.Mem.tail _ (List.Mem.tail _ (List.Mem.tail _ (List.Mem.tail _ (List.Mem.tail _ (List.Mem.head _)))))))) le_n))))))), (show ([7, 6, 5, 0, 1, 2, 3, 4] : List Nat).Nodup by decide)⟩
      rw [nI_1]
      exact ih (k + 1) b c (by omega) (by omega) (bsM_n g3 (by rintro ⟨q1, q2⟩; first | omega | contradiction)) k0
    have h3 := qF_eq (cx := (mFt (nI k).toNatClampNeg).toInt) (cy := 0) rfl (by decide) h3
    refine pm_go (g := (172, [(7, .int (nI k)), (6, .int c), (5, .int b), (0, .ref 25), (1, .int t), (2, .int w), (3, .int f), (4, .int s)], [.ref 25], _, 0, 0)) rfl ?_
    refine pm_go (g := (174, _, [.int (nI k), .ref 25], _, 0, 0)) rfl ?_
    refine pm_go (g := (175, _, [.ref 25, .int (nI k), .ref 25], _, 0, 0)) rfl ?_
    refine pm_go (g := (178, _, [.ref 34, .int (nI k), .ref 25], _, 0, 0)) rfl ?_
    refine pm_go (g := (179, _, [.int f, .ref 34, .int (nI k), .ref 25], _, 0, 0)) rfl ?_
    refine pm_sd (g := (180, _, [.int (mFy (f).toNatClampNeg), .int (nI k), .ref 25], _, 0, 0)) rfl (pm_inI (by omega) (by omega)) ?_
    refine pm_go (g := (182, _, [.int s, .int (mFy (f).toNatClampNeg), .int (nI k), .ref 25], _, 0, 0)) rfl ?_
    refine pm_go (g := (183, _, [.int ((mFy (f).toNatClampNeg) - s), .int (nI k), .ref 25], _, 0, 0)) rfl ?_
    try have h4 : ((mFy (f).toNatClampNeg) - s).toInt = (mFy (f).toNatClampNeg).toInt - (s).toInt := iSub (x := (mFy (f).toNatClampNeg).toInt) (y := (s).toInt) rfl rfl (by omega) (by omega)
    refine pm_callD (z := 149) (as := [.ref 25, .int (nI k), .int ((mFy (f).toNatClampNeg) - s)]) (rest := []) rfl ?_
    refine w_X12_isSpecial (nI k) ((mFy (f).toNatClampNeg) - s) (by omega) (by omega) (by omega) (by assumption) (by assumption) (by omega) (by assumption) (by omega) (fun h5 => ?_) (fun h6 => ?_)
    ·
      show pm_WP 150 (186, [(7, .int (nI k)), (6, .int c), (5, .int b), (0, .ref 25), (1, .int t), (2, .int w), (3, .int f), (4, .int s)], [.int 1], _, 0, 0) _
      refine pm_brF (h := (189, [(7, .int (nI k)), (6, .int c), (5, .int b), (0, .ref 25), (1, .int t), (2, .int w), (3, .int f), (4, .int s)], [], hq g c1 c2 c3 c4 c5 c6 c7 c8 c9 c10 c11 c12 c13 c14 c15 c16 c17 c18 c19 c20 c21 c22 c23 c24 (hc25 mTy mTm mMn mFn mRn mTn mVn mLr mTr mFl mFm mFp mSc mMp mEn) (hc26 mPa) (hc27 mTo) (hc28 mOt) (hc29 mNa) (hc30 mRe) (hc31 mMa) (hc32 mMy) (hc33 mPm) (hc34 mFy) (hc35 mFa) (hc36 mFr) (hc37 mFo) (hc38 mRt) (hc39 mRm) (hc40 mTt) (hc41 mTi) (hc42 mPl) (hc43 mVr) (hc44 mVf) (hc45 mVc) (hc46 mAr) (hc47 mTc) (hc48 mFt) (hc49 mGo) dyn, 0, 0)) rfl ?_
      refine pm_go (g := (191, _, [.int (nI k)], _, 0, 0)) rfl ?_
      refine pm_go (g := (193, [(5, .int (nI k)), (7, .int (nI k)), (6, .int c), (0, .ref 25), (1, .int t), (2, .int w), (3, .int f), (4, .int s)], [], _, 0, 0)) rfl ?_
      refine pm_go (g := (196, [(6, .int (c + 1)), (5, .int (nI k)), (7, .int (nI k)), (0, .ref 25), (1, .int t), (2, .int w), (3, .int f), (4, .int s)], [], _, 0, 0)) rfl ?_
      refine pm_go (g := (199, [(7, .int ((nI k) + 1)), (6, .int (c + 1)), (5, .int (nI k)), (0, .ref 25), (1, .int t), (2, .int w), (3, .int f), (4, .int s)], [], _, 0, 0)) rfl ?_
      refine pm_go (g := (152, _, [], _, 0, 0)) rfl ?_
      refine pm_sub (lv := [(7, .int ((nI k) + 1)), (6, .int (c + 1)), (5, .int (nI k)), (0, .ref 25), (1, .int t), (2, .int w), (3, .int f), (4, .int s)]) ?_ ⟨le_c (List.Mem.head _) (le_c (List.Mem.tail _ (List.Mem.head _)) (le_c (List.Mem.tail _ (List.Mem.tail _ (List.Mem.head _))) (le_c (List.Mem.tail _ (List.Mem.tail _ (List.Mem.tail _ (List.Mem.head _)))) (le_c (List.Mem.tail _ (List.Mem.tail _ (List.Mem.tail _ (List.Mem.tail _ (List.Mem.head _))))) (le_c (List.Mem.tail _ (List.Mem.tail _ (List.Mem.tail _ (List.Mem.tail _ (List.Mem.tail _ (List.Mem.head _)))))) (le_c (List.Mem.tail _ (List.Mem.tail _ (List.Mem.tail _ (List.Mem.tail _ (List.Mem.tail _ (List.Mem.tail _ (List.Mem.head _))))))) (le_c (List.Mem.tail _ (List.Mem.tail _ (List.Mem.tail _ (List.Mem.tail _ (List.Mem.tail _ (List.Mem.tail _ (List.Mem.tail _ (List.Mem.head _)))))))) le_n))))))), (show ([7, 6, 5, 0, 1, 2, 3, 4] : List Nat).Nodup by decide)⟩
      rw [nI_1]
      have hc1 : (c + 1).toInt = c.toInt + 1 := iAdd rfl (by decide) (by omega) (by omega)
      exact ih (k + 1) (nI k) (c + 1) (by omega) (by omega) (bsM_y g3 ⟨by omega, by assumption⟩ hc1) k0
    show pm_WP 150 (186, [(7, .int (nI k)), (6, .int c), (5, .int b), (0, .ref 25), (1, .int t), (2, .int w), (3, .int f), (4, .int s)], [.int 0], hq g c1 c2 c3 c4 c5 c6 c7 c8 c9 c10 c11 c12 c13 c14 c15 c16 c17 c18 c19 c20 c21 c22 c23 c24 (hc25 mTy mTm mMn mFn mRn mTn mVn mLr mTr mFl mFm mFp mSc mMp mEn) (hc26 mPa) (hc27 mTo) (hc28 mOt) (hc29 mNa) (hc30 mRe) (hc31 mMa) (hc32 mMy) (hc33 mPm) (hc34 mFy) (hc35 mFa) (hc36 mFr) (hc37 mFo) (hc38 mRt) (hc39 mRm) (hc40 mTt) (hc41 mTi) (hc42 mPl) (hc43 mVr) (hc44 mVf) (hc45 mVc) (hc46 mAr) (hc47 mTc) (hc48 mFt) (hc49 mGo) dyn, 0, 0) _
    refine pm_brT (g := (196, [(7, .int (nI k)), (6, .int c), (5, .int b), (0, .ref 25), (1, .int t), (2, .int w), (3, .int f), (4, .int s)], [], hq g c1 c2 c3 c4 c5 c6 c7 c8 c9 c10 c11 c12 c13 c14 c15 c16 c17 c18 c19 c20 c21 c22 c23 c24 (hc25 mTy mTm mMn mFn mRn mTn mVn mLr mTr mFl mFm mFp mSc mMp mEn) (hc26 mPa) (hc27 mTo) (hc28 mOt) (hc29 mNa) (hc30 mRe) (hc31 mMa) (hc32 mMy) (hc33 mPm) (hc34 mFy) (hc35 mFa) (hc36 mFr) (hc37 mFo) (hc38 mRt) (hc39 mRm) (hc40 mTt) (hc41 mTi) (hc42 mPl) (hc43 mVr) (hc44 mVf) (hc45 mVc) (hc46 mAr) (hc47 mTc) (hc48 mFt) (hc49 mGo) dyn, 0, 0)) rfl ?_
    refine pm_go (g := (199, [(7, .int ((nI k) + 1)), (6, .int c), (5, .int b), (0, .ref 25), (1, .int t), (2, .int w), (3, .int f), (4, .int s)], [], _, 0, 0)) rfl ?_
    refine pm_go (g := (152, _, [], _, 0, 0)) rfl ?_
    refine pm_sub (lv := [(7, .int ((nI k) + 1)), (6, .int c), (5, .int b), (0, .ref 25), (1, .int t), (2, .int w), (3, .int f), (4, .int s)]) ?_ ⟨le_c (List.Mem.head _) (le_c (List.Mem.tail _ (List.Mem.head _)) (le_c (List.Mem.tail _ (List.Mem.tail _ (List.Mem.head _))) (le_c (List.Mem.tail _ (List.Mem.tail _ (List.Mem.tail _ (List.Mem.head _)))) (le_c (List.Mem.tail _ (List.Mem.tail _ (List.Mem.tail _ (List.Mem.tail _ (List.Mem.head _))))) (le_c (List.Mem.tail _ (List.Mem.tail _ (List.Mem.tail _ (List.Mem.tail _ (List.Mem.tail _ (List.Mem.head _)))))) (le_c (List.Mem.tail _ (List.Mem.tail _ (List.Mem.tail _ (List.Mem.tail _ (List.Mem.tail _ (List.Mem.tail _ (List.Mem.head _))))))) (le_c (List.Mem.tail _ (List.Mem.tail _ (List.Mem.tail _ (List.Mem.tail _ (List.Mem.tail _ (List.Mem.tail _ (List.Mem.tail _ (List.Mem.head _)))))))) le_n))))))), (show ([7, 6, 5, 0, 1, 2, 3, 4] : List Nat).Nodup by decide)⟩
    rw [nI_1]
    exact ih (k + 1) b c (by omega) (by omega) (bsM_n g3 (by rintro ⟨q1, q2⟩; first | omega | contradiction)) k0
