section
variable {mTy : Int32} {mPa mTo : Nat → Int32} {mTm mMn : Int32} {mOt mNa mRe mMa mMy mPm : Nat → Int32} {mFn : Int32} {mFy mFa mFr : Nat → Int32} {mRn : Int32} {mFo mRt mRm : Nat → Int32} {mTn : Int32} {mTt mTi : Nat → Int32} {mVn : Int32} {mVr mVf mVc : Nat → Int32} {mTr : Int32}
theorem ixg {f k : Int32} (hf : 0 ≤ f.toInt ∧ f.toInt < 1000) (hk : 0 ≤ k.toInt ∧ k.toInt < 1000) : ((3 * f + k).toNatClampNeg : Int) = 3 * f.toInt + k.toInt := by
  have e1 : (3 * f).toInt = 3 * f.toInt := iMul (by decide) rfl (by omega) (by omega)
  have e3 : (3 * f + k).toInt = 3 * f.toInt + k.toInt := iAdd e1 rfl (by omega) (by omega)
  have := xN (x := 3 * f + k) (by omega)
  omega
theorem ix3 {f : Int32} {j : Nat} (hf : 0 ≤ f.toInt ∧ f.toInt < 1000) (hj : j < 1000) : ((3 * f + nI j).toNatClampNeg : Int) = 3 * f.toInt + j := by
  have e2 := nI_toInt (n := j) (by omega)
  have := ixg (f := f) (k := nI j) hf (by omega)
  omega
theorem cp_o {f to : Nat → Int32} {n m : Int32} {i : Nat} (hn : 0 ≤ n.toInt) (h : (i : Int) < 3 * n.toInt) : cpF f to n m i = f i := by
  have := xN hn
  unfold cpF; rw [if_neg (by omega)]
theorem cp_n {f to : Nat → Int32} {n m : Int32} {i k : Nat} (hn : 0 ≤ n.toInt) (hm : 0 ≤ m.toInt) (h : (i : Int) = 3 * n.toInt + k) (hk : (k : Int) < m.toInt) : cpF f to n m i = to k := by
  have := xN hn
  have := xN hm
  unfold cpF; rw [if_pos (by omega), show i - 3 * n.toNatClampNeg = k by omega]
theorem cp_p {ty : Int32} {f to : Nat → Int32} {n m : Int32} (h1 : ∀ i : Nat, plT ty (to i)) (h2 : ∀ i : Nat, plT ty (f i)) (i : Nat) : plT ty (cpF f to n m i) := by
  unfold cpF
  split
  · exact h1 _
  · exact h2 _
theorem iv_tell (h : mIv mTy mPa mTo mTm mMn mOt mNa mRe mMa mMy mPm mFn mFy mFa mFr mRn mFo mRt mRm mTn mTt mTi mVn mVr mVf mVc mTr) {t : Int32} (ht : plT mTy t) (h3 : mTm.toInt < 3) : mIv mTy mPa (upd mTo mTm.toNatClampNeg t) (mTm + 1) mMn mOt mNa mRe mMa mMy mPm mFn mFy mFa mFr mRn mFo mRt mRm mTn mTt mTi mVn mVr mVf mVc mTr := by
  have htm := h.itm
  have e : (mTm + 1).toInt = mTm.toInt + 1 := iAdd rfl (by decide) (by omega) (by omega)
  have hx := xN htm.1
  refine mIv.mk (ity := h.ity) (ipa := h.ipa) (ipt := h.ipt) (itm := by omega) (ito := ?_) (imn := h.imn) (imy := h.imy) (ivr := h.ivr) (imb := h.imb) (ipm := h.ipm) (imo := h.imo) (inc := h.inc) (ifn := h.ifn) (ifc := h.ifc) (ifa := h.ifa) (irn := h.irn) (irf := h.irf) (irw := h.irw) (itn := h.itn) (itk := h.itk) (ivn := h.ivn) (iva := h.iva) (itr := h.itr)
  intro j
  by_cases ej : j = mTm.toNatClampNeg
  · rw [ej, updS]; exact ht
  · rw [updN ej]; exact h.ito j
theorem iv_untell (h : mIv mTy mPa mTo mTm mMn mOt mNa mRe mMa mMy mPm mFn mFy mFa mFr mRn mFo mRt mRm mTn mTt mTi mVn mVr mVf mVc mTr) : mIv mTy mPa mTo 0 mMn mOt mNa mRe mMa mMy mPm mFn mFy mFa mFr mRn mFo mRt mRm mTn mTt mTi mVn mVr mVf mVc mTr := by
  have z0 : (0 : Int32).toInt = 0 := by decide
  exact mIv.mk (ity := h.ity) (ipa := h.ipa) (ipt := h.ipt) (itm := by omega) (ito := h.ito) (imn := h.imn) (imy := h.imy) (ivr := h.ivr) (imb := h.imb) (ipm := h.ipm) (imo := h.imo) (inc := h.inc) (ifn := h.ifn) (ifc := h.ifc) (ifa := h.ifa) (irn := h.irn) (irf := h.irf) (irw := h.irw) (itn := h.itn) (itk := h.itk) (ivn := h.ivn) (iva := h.iva) (itr := h.itr)
theorem iv_face (h : mIv mTy mPa mTo mTm mMn mOt mNa mRe mMa mMy mPm mFn mFy mFa mFr mRn mFo mRt mRm mTn mTt mTi mVn mVr mVf mVc mTr) {r : Int32} (h9 : mFn.toInt < 10) : mIv mTy mPa mTo 0 mMn mOt mNa mRe mMa mMy mPm (mFn + 1) (upd mFy mFn.toNatClampNeg mTm) (cpF mFa mTo mFn mTm) (upd mFr mFn.toNatClampNeg r) mRn mFo mRt mRm mTn mTt mTi mVn mVr mVf mVc mTr := by
  have z0 : (0 : Int32).toInt = 0 := by decide
  have hfn := h.ifn
  have htm := h.itm
  have e : (mFn + 1).toInt = mFn.toInt + 1 := iAdd rfl (by decide) (by omega) (by omega)
  have hx := xN hfn.1
  refine mIv.mk (ity := h.ity) (ipa := h.ipa) (ipt := h.ipt) (itm := by omega) (ito := h.ito) (imn := h.imn) (imy := h.imy) (ivr := h.ivr) (imb := h.imb) (ipm := h.ipm) (imo := h.imo) (inc := h.inc) (ifn := by omega) (ifc := ?_) (ifa := fun i => cp_p h.ito h.ifa i) (irn := h.irn) (irf := h.irf) (irw := h.irw) (itn := h.itn) (itk := h.itk) (ivn := h.ivn) (iva := ?_) (itr := h.itr)
  · intro i q
    by_cases ei : i = mFn.toNatClampNeg
    · rw [ei, updS]; omega
    · rw [updN ei]; exact h.ifc i (by omega)
  · intro v q
    obtain ⟨q1, q2, q3, q4, q5⟩ := h.iva v q
    refine ⟨q1, by omega, q3, q4, fun sc mp m u => ?_⟩
    have k := rf_k h q1
    have hrf := rfD_at h.irf q1
    have hxf := xN q2.1
    have hfy := fcD_at h.ifc q2
    have ef : (mVf v).toNatClampNeg ≠ mFn.toNatClampNeg := by omega
    refine q5 sc mp m (wm_c (ty := mTy) (fun _ _ _ => rfl) h.ity.1 h.imn.2 (mk_of h) ⟨by omega, ?_, updN ef, ?_⟩ (updN ef) k.1 k.2.1 (fun w => ⟨rfl, k.2.2 w⟩) hrf.1 u)
    · rw [updN ef]; exact hfy
    · intro j w
      rw [updN ef] at w
      have hi := ix3 (f := mVf v) (j := j) (by omega) (by omega)
      rw [cp_o hfn.1 (by omega)]
      exact ⟨rfl, pl_ok h.ity.1 (h.ifa _)⟩
theorem iv_ref (h : mIv mTy mPa mTo mTm mMn mOt mNa mRe mMa mMy mPm mFn mFy mFa mFr mRn mFo mRt mRm mTn mTt mTi mVn mVr mVf mVc mTr) {f t w : Int32} (hc : ((0 ≤ f.toInt ∧ f.toInt ≤ 4) ∧ ((f.toInt < 2 ∧ (0 ≤ t.toInt ∧ t.toInt < mTy.toInt)) ∨ (f.toInt = 2 ∧ (0 ≤ t.toInt ∧ t.toInt < mTy.toInt) ∧ t.toInt ≠ 0) ∨ (f.toInt = 3 ∧ (0 ≤ t.toInt ∧ t.toInt < mTy.toInt ∧ t.toInt ≠ 1)) ∨ (f.toInt = 4 ∧ ((0 ≤ t.toInt ∧ t.toInt < mTy.toInt) ∨ t.toInt = 10))) ∧ (3 ≤ f.toInt ∨ (0 ≤ w.toInt ∧ w.toInt ≤ 5)))) (h9 : mRn.toInt < 30) : mIv mTy mPa mTo mTm mMn mOt mNa mRe mMa mMy mPm mFn mFy mFa mFr (mRn + 1) (upd mFo mRn.toNatClampNeg f) (upd mRt mRn.toNatClampNeg t) (upd mRm mRn.toNatClampNeg w) mTn mTt mTi mVn mVr mVf mVc mTr := by
  have hrn := h.irn
  have e : (mRn + 1).toInt = mRn.toInt + 1 := iAdd rfl (by decide) (by omega) (by omega)
  have hx := xN hrn.1
  refine mIv.mk (ity := h.ity) (ipa := h.ipa) (ipt := h.ipt) (itm := h.itm) (ito := h.ito) (imn := h.imn) (imy := h.imy) (ivr := h.ivr) (imb := h.imb) (ipm := h.ipm) (imo := h.imo) (inc := h.inc) (ifn := h.ifn) (ifc := h.ifc) (ifa := h.ifa) (irn := by omega) (irf := ?_) (irw := ?_) (itn := h.itn) (itk := h.itk) (ivn := h.ivn) (iva := ?_) (itr := h.itr)
  · intro i q
    by_cases ei : i = mRn.toNatClampNeg
    · rw [ei, updS, updS]; omega
    · rw [updN ei, updN ei]; exact h.irf i (by omega)
  · intro i q
    by_cases ei : i = mRn.toNatClampNeg
    · rw [ei, updS, updS]; omega
    · rw [updN ei, updN ei]; exact h.irw i (by omega)
  · intro v q
    obtain ⟨q1, q2, q3, q4, q5⟩ := h.iva v q
    have hxr := xN q1.1
    have er : (mVr v).toNatClampNeg ≠ mRn.toNatClampNeg := by omega
    unfold vaO
    rw [updN er, updN er, updN er]
    exact ⟨by omega, q2, q3, q4, q5⟩
theorem plV_c {my mz pm pn : Nat → Int32} {m k : Int32} (h1 : mz m.toNatClampNeg = my m.toNatClampNeg) (h2 : k.toInt < (my m.toNatClampNeg).toInt - 1 → pn (3 * m + k).toNatClampNeg = pm (3 * m + k).toNatClampNeg) (h3 : pn (3 * m + (my m.toNatClampNeg - 1)).toNatClampNeg = pm (3 * m + (my m.toNatClampNeg - 1)).toNatClampNeg) : plV mz pn m k = plV my pm m k := by
  unfold plV
  rw [h1, h3]
  split
  · next e => rw [h2 e]
  · rfl
theorem nc_one {pa ot na re ma my pm to : Nat → Int32} {tm t w r a m : Int32} (h : ¬ clM pa ot na re ma my pm to tm m t w r a) (h1 : (na m.toNatClampNeg).toInt = w.toInt) (h2 : (my m.toNatClampNeg).toInt = tm.toInt) (h3 : alL pm to tm m 0) (h6 : w.toInt ≠ 6) (hu : uM pa t (ot m.toNatClampNeg) = true ∨ uM pa (ot m.toNatClampNeg) t = true) : re m.toNatClampNeg = r := by
  by_cases e : (re m.toNatClampNeg).toInt = r.toInt
  · exact xJ e
  · refine absurd ⟨h1, h2, h3, ?_⟩ h
    by_cases e2 : (ot m.toNatClampNeg).toInt = t.toInt
    · exact Or.inl e2
    · exact Or.inr ⟨e2, h6, hu, Or.inr (Or.inl e)⟩
theorem iv_member (h : mIv mTy mPa mTo mTm mMn mOt mNa mRe mMa mMy mPm mFn mFy mFa mFr mRn mFo mRt mRm mTn mTt mTi mVn mVr mVf mVc mTr) {t w r a : Int32} (ht : 0 ≤ t.toInt ∧ t.toInt < mTy.toInt) (hr : anyT mTy r) (ha : (a &&& 4).toInt = 0 ∨ (mTm.toInt ≠ 0 ∧ 20 ≤ (mTo (mTm - 1).toNatClampNeg).toInt)) (hw : w.toInt = 6 → r.toInt = t.toInt) (hv : mVn.toInt ≤ 0) (hcl : ∀ j : Nat, (j : Int) < mMn.toInt → ¬ clM mPa mOt mNa mRe mMa mMy mPm mTo mTm (nI j) t w r a) (h9 : mMn.toInt < 40) : mIv mTy mPa mTo 0 (mMn + 1) (upd mOt mMn.toNatClampNeg t) (upd mNa mMn.toNatClampNeg w) (upd mRe mMn.toNatClampNeg r) (upd mMa mMn.toNatClampNeg a) (upd mMy mMn.toNatClampNeg mTm) (cpF mPm mTo mMn mTm) mFn mFy mFa mFr mRn mFo mRt mRm mTn mTt mTi mVn mVr mVf mVc mTr := by
  have z0 : (0 : Int32).toInt = 0 := by decide
  have hmn := h.imn
  have htm := h.itm
  have hty := h.ity
  have e : (mMn + 1).toInt = mMn.toInt + 1 := iAdd rfl (by decide) (by omega) (by omega)
  have hx := xN hmn.1
  have hxt := xN htm.1
  have hnn : nI mMn.toNatClampNeg = mMn := xJ (by rw [nI_toInt (by omega)]; omega)
  -- the places of the members
  have pO : ∀ (j : Nat) (k : Int32), (j : Int) < mMn.toInt → (0 ≤ k.toInt ∧ k.toInt < 3) → cpF mPm mTo mMn mTm (3 * nI j + k).toNatClampNeg = mPm (3 * nI j + k).toNatClampNeg := by
    intro j k q q2
    have e1 := nI_toInt (n := j) (by omega)
    have hi := ixg (f := nI j) (k := k) (by omega) (by omega)
    exact cp_o hmn.1 (by omega)
  have pN : ∀ k : Nat, (k : Int) < mTm.toInt → cpF mPm mTo mMn mTm (3 * mMn + nI k).toNatClampNeg = mTo k := by
    intro k q
    have hi := ix3 (f := mMn) (j := k) (by omega) (by omega)
    exact cp_n hmn.1 htm.1 (by omega) q
  have hsm : ∀ i j : Nat, (i : Int) < mMn.toInt → (j : Int) < mMn.toInt → smM (upd mNa mMn.toNatClampNeg w) (upd mMy mMn.toNatClampNeg mTm) (cpF mPm mTo mMn mTm) (nI i) (nI j) → smM mNa mMy mPm (nI i) (nI j) := by
    intro i j q1 q2 q3
    have ci := nI_c (k := i) (by omega)
    have cj := nI_c (k := j) (by omega)
    have hi : i ≠ mMn.toNatClampNeg := by omega
    have hj : j ≠ mMn.toNatClampNeg := by omega
    obtain ⟨a1, a2, a3⟩ := q3
    rw [ci, cj, updN hi, updN hj] at a1 a2
    refine ⟨by rw [ci, cj]; exact a1, by rw [ci, cj]; exact a2, fun k _ u => ?_⟩
    rw [ci] at u
    have hmi := h.imy i (by omega)
    have ek := nI_toInt (n := k) (by omega)
    have b := a3 k (Nat.zero_le k) (by rw [ci, updN hi]; exact u)
    rw [pO i (nI k) q1 (by omega), pO j (nI k) q2 (by omega)] at b
    exact b
  refine mIv.mk (ity := h.ity) (ipa := h.ipa) (ipt := h.ipt) (itm := by omega) (ito := h.ito) (imn := by omega) (imy := ?_) (ivr := ?_) (imb := ?_) (ipm := fun i => cp_p h.ito h.ipm i) (imo := ?_) (inc := ?_) (ifn := h.ifn) (ifc := h.ifc) (ifa := h.ifa) (irn := h.irn) (irf := h.irf) (irw := h.irw) (itn := h.itn) (itk := h.itk) (ivn := h.ivn) (iva := fun v q => by omega) (itr := h.itr)
  · intro j q
    by_cases ej : j = mMn.toNatClampNeg
    · rw [ej, updS]; omega
    · rw [updN ej]; exact h.imy j q
  · intro j q
    by_cases ej : j = mMn.toNatClampNeg
    · rw [ej, updS, updS]; omega
    · rw [updN ej, updN ej]; exact h.ivr j q
  · intro j q
    by_cases ej : j = mMn.toNatClampNeg
    · rw [ej, updS, updS, updS]; exact ⟨by omega, fun q6 => xJ (hw q6)⟩
    · rw [updN ej, updN ej, updN ej]; exact h.imb j (by omega)
  · intro j q
    by_cases ej : j = mMn.toNatClampNeg
    · rw [ej, updS, updS, updS, updS, hnn]
      refine ⟨Or.inl ht.2, ?_, fun q2 => ?_⟩
      · unfold anyT at hr; unfold okT; omega
      · have e2 : (mTm - 1).toInt = mTm.toInt - 1 := iSub rfl (by decide) (by omega) (by omega)
        have e3 := xN (x := mTm - 1) (by omega)
        have hi := ixg (f := mMn) (k := mTm - 1) (by omega) (by omega)
        rw [cp_n (k := (mTm - 1).toNatClampNeg) hmn.1 htm.1 (by omega) (by omega)]
        omega
    · have hj : (j : Int) < mMn.toInt := by omega
      obtain ⟨q1, q2, q3⟩ := h.imo j hj
      rw [updN ej, updN ej, updN ej, updN ej]
      refine ⟨q1, q2, fun u => ?_⟩
      have hm1 := h.imy j (by omega)
      have hm2 := h.ivr j (by omega) u
      have e2 : (mMy j - 1).toInt = (mMy j).toInt - 1 := iSub rfl (by decide) (by omega) (by omega)
      rw [pO j _ hj (by omega)]
      exact q3 u
  · intro i j q1 q2 q3 q4 q5 q6
    by_cases ei : i = mMn.toNatClampNeg
    · have ej : j ≠ mMn.toNatClampNeg := by omega
      have hj : (j : Int) < mMn.toInt := by omega
      have cj := nI_c (k := j) (by omega)
      rw [ei, updS, updN ej] at q6 ⊢
      rw [ei, updS] at q5
      rw [ei, hnn] at q4
      obtain ⟨a1, a2, a3⟩ := q4
      rw [updS, cj, updN ej] at a1 a2
      have k := nc_one (hcl j hj) (by rw [cj, ← a1]) (by rw [cj, ← a2]) (fun k _ u => ?_) q5 (by rw [cj]; exact q6)
      · rw [cj] at k; exact k.symm
      · have ek := nI_toInt (n := k) (by omega)
        have b := a3 k (Nat.zero_le k) (by rw [updS]; exact u)
        rw [pO j (nI k) hj (by omega), pN k u] at b
        rw [nI_c (by omega)]; exact b.symm
    · have hi : (i : Int) < mMn.toInt := by omega
      have ci := nI_c (k := i) (by omega)
      by_cases ej : j = mMn.toNatClampNeg
      · rw [ej, updS, updN ei] at q6 ⊢
        rw [updN ei] at q5
        rw [ej, hnn] at q4
        obtain ⟨a1, a2, a3⟩ := q4
        rw [updS, ci, updN ei] at a1 a2
        have k := nc_one (hcl i hi) (by rw [ci, a1]) (by rw [ci, a2]) (fun k _ u => ?_) (by rw [← a1]; exact q5) (by rw [ci]; exact q6.symm)
        · rw [ci] at k; exact k
        · have ek := nI_toInt (n := k) (by omega)
          have b := a3 k (Nat.zero_le k) (by rw [ci, updN ei, a2]; exact u)
          rw [pO i (nI k) hi (by omega), pN k u] at b
          rw [nI_c (by omega)]; exact b
      · rw [updN ei, updN ej] at q6 ⊢
        rw [updN ei] at q5
        exact h.inc i j hi (by omega) q3 (hsm i j hi (by omega) q4) q5 q6
end
