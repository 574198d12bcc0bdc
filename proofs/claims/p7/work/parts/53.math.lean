/-! things that a call makes -/
theorem ok_1 {ty : Int32} (h : 2 ≤ ty.toInt) : okT ty 1 := Or.inl (by have : (1 : Int32).toInt = 1 := by decide
                                                                      omega)
theorem md_k {ty t v : Int32} {z : cs_T} (hz : tnB z) (hk : tOK ty z) (ht : okT ty t) (hv : 20 ≤ t.toInt → z.2.1.toInt = 0 → 0 ≤ v.toInt ∧ v.toInt ≤ 20) : tOK ty (mdF t v z).2 := by
  have hz1 := hz.1
  have hz2 := hz.2
  unfold mdF
  split
  · exact hk
  · next e0 =>
    split
    · exact hk
    · have z1 : (z.1 + 1).toInt = z.1.toInt + 1 := iAdd rfl (by decide) (by omega) (by omega)
      have z2 := xN (x := z.1 + 1) (by omega)
      intro i q1 q2
      dsimp only at q2 ⊢
      by_cases ei : i = (z.1 + 1).toNatClampNeg
      · rw [ei, updS, updS]
        exact ⟨ht, fun q => hv q (by omega)⟩
      · rw [updN ei, updN ei]
        exact hk i q1 (by omega)
theorem tu_k {ty v a b : Int32} {z : cs_T} (h2 : 2 ≤ ty.toInt) (hz : tnB z) (hk : tOK ty z) : tOK ty (tuF v a b z).2 := by
  unfold tuF
  split
  · exact md_k hz hk (ok_1 h2) (fun q => absurd q (by decide))
  · split
    · split
      · exact hk
      · split
        · exact hk
        · exact hk
    · exact hk
theorem pv_k {ty : Int32} {i : Nat} {x : Int32 × cs_T} (hk : tOK ty x.2) : tOK ty (pvF i x) := by
  unfold pvF
  split
  · exact hk
  · exact hk
theorem g1_k {ty : Int32} {ar fa pm : Nat → Int32} {m f s : Int32} (h2 : 2 ≤ ty.toInt) : ∀ (n k : Nat) (x : (Nat → Int32) × cs_T), tnB x.2 → tOK ty x.2 → tOK ty (gv1 ar fa pm m f s n k x).2 := by
  intro n
  induction n with
  | zero => intro k x _ hk; exact hk
  | succ n ih => intro k x hz hk; exact ih (k + 1) _ (tu_x hz).2 (tu_k h2 hz hk)
theorem g2_k {ty : Int32} {ar fa my pm : Nat → Int32} {m f s pn row : Int32} (h2 : 2 ≤ ty.toInt) : ∀ (n k : Nat) (z : cs_T), tnB z → tOK ty z → tOK ty (gv2 ar fa my pm m f s pn row n k z) := by
  intro n
  induction n with
  | zero => intro k z _ hk; exact hk
  | succ n ih => intro k z hz hk; exact ih (k + 1) _ (pv_x.2 (tu_x hz).2) (pv_k (tu_k h2 hz hk))
/-- what a call does to the things -/
def exK (ty : Int32) (z y : cs_T) : Prop := exX z y ∧ tnB y ∧ tOK ty y
theorem gv_k {ty : Int32} {ar fa fy my pm : Nat → Int32} {m f s p : Int32} {x : (Nat → Int32) × cs_T} (h2 : 2 ≤ ty.toInt) (hz : tnB x.2) (hk : tOK ty x.2) (hp : ∀ i : Nat, okT ty (pm i)) (hs : 0 ≤ s.toInt ∧ s.toInt ≤ 1) (hfy : (fy f.toNatClampNeg).toInt ≤ 3) (hg : (p.toInt ≠ 3 ∧ 0 ≤ (my m.toNatClampNeg).toInt ∧ (my m.toNatClampNeg).toInt = (fy f.toNatClampNeg).toInt - s.toInt) ∨ (p.toInt = 3 ∧ 1 ≤ (my m.toNatClampNeg).toInt ∧ (my m.toNatClampNeg).toInt ≤ 3 ∧ (my m.toNatClampNeg).toInt ≤ (fy f.toNatClampNeg).toInt - s.toInt + 1)) : exK ty x.2 (gvF ar fa fy my pm m f s p x).2 := by
  unfold gvF
  split
  · have a := g1_x (ar := ar) (fa := fa) (pm := pm) (m := m) (f := f) (s := s) (my m.toNatClampNeg).toNatClampNeg 0 x hz
    exact ⟨a.1, a.2.1, g1_k h2 _ _ x hz hk⟩
  · have a := g1_x (ar := ar) (fa := fa) (pm := pm) (m := m) (f := f) (s := s) (my m.toNatClampNeg - 1).toNatClampNeg 0 x hz
    have b := g1_k (ar := ar) (fa := fa) (pm := pm) (m := m) (f := f) (s := s) h2 (my m.toNatClampNeg - 1).toNatClampNeg 0 x hz hk
    dsimp only
    generalize gv1 ar fa pm m f s (my m.toNatClampNeg - 1).toNatClampNeg 0 x = y at a b ⊢
    have e1 : (my m.toNatClampNeg - 1).toInt = (my m.toNatClampNeg).toInt - 1 := iSub rfl (by decide) (by omega) (by omega)
    have e2 : (fy f.toNatClampNeg - s).toInt = (fy f.toNatClampNeg).toInt - s.toInt := iSub rfl rfl (by omega) (by omega)
    have e3 : (fy f.toNatClampNeg - s - (my m.toNatClampNeg - 1)).toInt = (fy f.toNatClampNeg).toInt - s.toInt - ((my m.toNatClampNeg).toInt - 1) := by rw [iSub e2 e1 (by omega) (by omega)]
    have c := md_x (t := pm (3 * m + (my m.toNatClampNeg - 1)).toNatClampNeg) (v := fy f.toNatClampNeg - s - (my m.toNatClampNeg - 1)) a.2.1
    have d := md_k (t := pm (3 * m + (my m.toNatClampNeg - 1)).toNatClampNeg) (v := fy f.toNatClampNeg - s - (my m.toNatClampNeg - 1)) a.2.1 b (hp _) (fun _ _ => by omega)
    generalize mdF (pm (3 * m + (my m.toNatClampNeg - 1)).toNatClampNeg) (fy f.toNatClampNeg - s - (my m.toNatClampNeg - 1)) y.2 = w at c d ⊢
    have g := g2_x (ar := ar) (fa := fa) (my := my) (pm := pm) (m := m) (f := f) (s := s) (pn := my m.toNatClampNeg - 1) (row := w.1) ((fy f.toNatClampNeg - s).toNatClampNeg - (my m.toNatClampNeg - 1).toNatClampNeg) (my m.toNatClampNeg - 1).toNatClampNeg w.2 c.2.1
    exact ⟨ex_t a.1 (ex_t c.1 g.1), g.2, g2_k h2 _ _ w.2 c.2.1 d⟩
theorem md_K {ty t v : Int32} {z : cs_T} (hz : tnB z) (hk : tOK ty z) (ht : okT ty t) (hv : 20 ≤ t.toInt → z.2.1.toInt = 0 → 0 ≤ v.toInt ∧ v.toInt ≤ 20) : exK ty z (mdF t v z).2 := ⟨(md_x hz).1, (md_x hz).2.1, md_k hz hk ht hv⟩
theorem exK_r {ty : Int32} {z : cs_T} (hz : tnB z) (hk : tOK ty z) : exK ty z z := ⟨ex_r z, hz, hk⟩
theorem exK_t {ty : Int32} {x y z : cs_T} (h : exK ty x y) (k : exK ty y z) : exK ty x z := ⟨ex_t h.1 k.1, k.2⟩
theorem gi_k {ty : Int32} {na re my : Nat → Int32} {op : Prop} {m v cm : Int32} {z y : cs_T} (h2 : 2 ≤ ty.toInt) (hz : tnB z) (hk : tOK ty z) (hr : okT ty (re m.toNatClampNeg)) (hm : 0 ≤ (my m.toNatClampNeg).toInt ∧ (my m.toNatClampNeg).toInt ≤ 3) (h : giM na re my op m v z (cm, y)) : exK ty z y := by
  have z0 : (0 : Int32).toInt = 0 := by decide
  have p : ∀ {w : Int32 × cs_T}, (cm, y) = w → y = w.2 := fun q => congrArg Prod.snd q
  rcases h with ⟨_, h⟩ | ⟨_, _, h⟩ | ⟨_, _, h⟩ | ⟨_, _, h⟩ | ⟨_, _, h⟩ | ⟨_, ⟨_, h⟩ | ⟨_, h⟩⟩
  · rw [p h]; exact md_K hz hk hr (fun _ _ => by omega)
  · rw [p h]; exact exK_r hz hk
  · rw [p h]; exact md_K hz hk (ok_1 h2) (fun q => absurd q (by decide))
  · rw [p h]; exact exK_r hz hk
  · rw [p h]; exact md_K hz hk hr (fun _ _ => by omega)
  · rw [p h]; exact exK_r hz hk
  · rw [p h]; exact md_K hz hk hr (fun _ _ => by omega)
theorem rn_k {ty : Int32} {ar fa fy na re my pm ma : Nat → Int32} {op : Prop} {m f s p cm : Int32} {x y : (Nat → Int32) × cs_T} (h2 : 2 ≤ ty.toInt) (hz : tnB x.2) (hk : tOK ty x.2) (hp : ∀ i : Nat, okT ty (pm i)) (hs : 0 ≤ s.toInt ∧ s.toInt ≤ 1) (hfy : (fy f.toNatClampNeg).toInt ≤ 3) (hg : (p.toInt ≠ 3 ∧ 0 ≤ (my m.toNatClampNeg).toInt ∧ (my m.toNatClampNeg).toInt = (fy f.toNatClampNeg).toInt - s.toInt) ∨ (p.toInt = 3 ∧ 1 ≤ (my m.toNatClampNeg).toInt ∧ (my m.toNatClampNeg).toInt ≤ 3 ∧ (my m.toNatClampNeg).toInt ≤ (fy f.toNatClampNeg).toInt - s.toInt + 1)) (hr : okT ty (re m.toNatClampNeg)) (hm : 0 ≤ (my m.toNatClampNeg).toInt ∧ (my m.toNatClampNeg).toInt ≤ 3) (h : rnM ar fa fy na re my pm ma op m f s p x cm y) : exK ty x.2 y.2 := by
  have a := gv_k (ar := ar) (fa := fa) (m := m) h2 hz hk hp hs hfy hg
  unfold rnM at h
  generalize gvF ar fa fy my pm m f s p x = w at h a
  rcases h with ⟨_, _, h⟩ | ⟨_, h, _⟩
  · rw [h]; exact a
  · exact exK_t a (gi_k h2 a.2.1 a.2.2 hr hm h)
theorem sz_k {ty : Int32} {ar fa : Nat → Int32} {f row : Int32} {z : cs_T} (h2 : 2 ≤ ty.toInt) (hz : tnB z) (hk : tOK ty z) (hr : okT ty row) : exK ty z (szF ar fa f row z).2 := by
  have z0 : (0 : Int32).toInt = 0 := by decide
  have zm : (-22 : Int32).toInt = -22 := by decide
  have z2 : (-2 : Int32).toInt = -2 := by decide
  have a := tu_x (v := ar 0) (a := fa (3 * f).toNatClampNeg) (b := 10) hz
  have b := tu_k (v := ar 0) (a := fa (3 * f).toNatClampNeg) (b := 10) h2 hz hk
  unfold szF
  dsimp only
  generalize tuF (ar 0) (fa (3 * f).toNatClampNeg) 10 z = u at a b ⊢
  have c : tOK ty (u.2.1, (if u.2.2.1.toInt = 0 then (if u.1.toInt < 0 then (-22 : Int32) else if 20 < u.1.toInt then -2 else 0) else u.2.2.1), u.2.2.2) := b
  have d : exX z (u.2.1, (if u.2.2.1.toInt = 0 then (if u.1.toInt < 0 then (-22 : Int32) else if 20 < u.1.toInt then -2 else 0) else u.2.2.1), u.2.2.2) := a.1
  have g : tnB (u.2.1, (if u.2.2.1.toInt = 0 then (if u.1.toInt < 0 then (-22 : Int32) else if 20 < u.1.toInt then -2 else 0) else u.2.2.1), u.2.2.2) := a.2
  refine exK_t ⟨d, g, c⟩ (md_K g c hr (fun _ q => ?_))
  dsimp only at q
  split at q
  · split at q
    · omega
    · split at q
      · omega
      · omega
  · next e => exact absurd q e
theorem fn_k {ty due wh cm : Int32} {z : cs_T} (h2 : 2 ≤ ty.toInt) (hz : tnB z) (hk : tOK ty z) : exK ty z (fnF due wh cm z).2 := by
  unfold fnF
  split
  · exact exK_r hz hk
  · split
    · exact exK_r hz hk
    · split
      · exact md_K hz hk (ok_1 h2) (fun q => absurd q (by decide))
      · split
        · exact exK_r hz hk
        · exact exK_r hz hk
section
variable {mTy : Int32} {mPa mTo : Nat → Int32} {mTm mMn : Int32} {mOt mNa mRe mMa mMy mPm : Nat → Int32} {mFn : Int32} {mFy mFa mFr : Nat → Int32} {mRn : Int32} {mFo mRt mRm : Nat → Int32} {mTn : Int32} {mTt mTi : Nat → Int32} {mVn : Int32} {mVr mVf mVc : Nat → Int32} {mTr : Int32}
/-- more things -/
theorem iv_more (h : mIv mTy mPa mTo mTm mMn mOt mNa mRe mMa mMy mPm mFn mFy mFa mFr mRn mFo mRt mRm mTn mTt mTi mVn mVr mVf mVc mTr) {e0 n9 e9 : Int32} {p0 t9 i9 l9 : Nat → Int32} (k : exK mTy (mTn, e0, mTt, mTi, p0) (n9, e9, t9, i9, l9)) : mIv mTy mPa mTo mTm mMn mOt mNa mRe mMa mMy mPm mFn mFy mFa mFr mRn mFo mRt mRm n9 t9 i9 mVn mVr mVf mVc mTr := by
  obtain ⟨⟨k1, k2⟩, k3, k4⟩ := k
  dsimp only at k1 k2
  refine mIv.mk (ity := h.ity) (ipa := h.ipa) (ipt := h.ipt) (itm := h.itm) (ito := h.ito) (imn := h.imn) (imy := h.imy) (ivr := h.ivr) (imb := h.imb) (ipm := h.ipm) (imo := h.imo) (inc := h.inc) (ifn := h.ifn) (ifc := h.ifc) (ifa := h.ifa) (irn := h.irn) (irf := h.irf) (irw := h.irw) (itn := k3) (itk := k4) (ivn := h.ivn) (iva := ?_) (itr := h.itr)
  intro v q
  obtain ⟨q1, q2, q3, q4, q5⟩ := h.iva v q
  have hx := xN q3.1
  refine ⟨q1, q2, by omega, fun u => ⟨(q4 u).1, ?_⟩, q5⟩
  rw [(k2 (mVc v).toNatClampNeg (by omega)).1]
  exact (q4 u).2
/-- as many things as before -/
theorem iv_back (h : mIv mTy mPa mTo mTm mMn mOt mNa mRe mMa mMy mPm mFn mFy mFa mFr mRn mFo mRt mRm mTn mTt mTi mVn mVr mVf mVc mTr) {e0 n9 e9 : Int32} {p0 t9 i9 l9 : Nat → Int32} (k : exK mTy (mTn, e0, mTt, mTi, p0) (n9, e9, t9, i9, l9)) : mIv mTy mPa mTo mTm mMn mOt mNa mRe mMa mMy mPm mFn mFy mFa mFr mRn mFo mRt mRm mTn t9 i9 mVn mVr mVf mVc mTr := by
  obtain ⟨⟨k1, k2⟩, k3, k4⟩ := k
  dsimp only at k1 k2
  refine mIv.mk (ity := h.ity) (ipa := h.ipa) (ipt := h.ipt) (itm := h.itm) (ito := h.ito) (imn := h.imn) (imy := h.imy) (ivr := h.ivr) (imb := h.imb) (ipm := h.ipm) (imo := h.imo) (inc := h.inc) (ifn := h.ifn) (ifc := h.ifc) (ifa := h.ifa) (irn := h.irn) (irf := h.irf) (irw := h.irw) (itn := h.itn) (itk := ?_) (ivn := h.ivn) (iva := ?_) (itr := h.itr)
  · intro i q1 q2
    rw [(k2 i q2).1, (k2 i q2).2]
    exact h.itk i q1 q2
  · intro v q
    obtain ⟨q1, q2, q3, q4, q5⟩ := h.iva v q
    have hx := xN q3.1
    refine ⟨q1, q2, q3, fun u => ⟨(q4 u).1, ?_⟩, q5⟩
    rw [(k2 (mVc v).toNatClampNeg (by omega)).1]
    exact (q4 u).2
theorem iv_tr (h : mIv mTy mPa mTo mTm mMn mOt mNa mRe mMa mMy mPm mFn mFy mFa mFr mRn mFo mRt mRm mTn mTt mTi mVn mVr mVf mVc mTr) {x : Int32} (hx : 0 ≤ x.toInt ∧ x.toInt ≤ 50) : mIv mTy mPa mTo mTm mMn mOt mNa mRe mMa mMy mPm mFn mFy mFa mFr mRn mFo mRt mRm mTn mTt mTi mVn mVr mVf mVc x := mIv.mk (ity := h.ity) (ipa := h.ipa) (ipt := h.ipt) (itm := h.itm) (ito := h.ito) (imn := h.imn) (imy := h.imy) (ivr := h.ivr) (imb := h.imb) (ipm := h.ipm) (imo := h.imo) (inc := h.inc) (ifn := h.ifn) (ifc := h.ifc) (ifa := h.ifa) (irn := h.irn) (irf := h.irf) (irw := h.irw) (itn := h.itn) (itk := h.itk) (ivn := h.ivn) (iva := h.iva) (itr := hx)
theorem iv_clear (h : mIv mTy mPa mTo mTm mMn mOt mNa mRe mMa mMy mPm mFn mFy mFa mFr mRn mFo mRt mRm mTn mTt mTi mVn mVr mVf mVc mTr) : mIv mTy mPa mTo mTm mMn mOt mNa mRe mMa mMy mPm mFn mFy mFa mFr mRn mFo mRt mRm 0 mTt mTi 0 mVr mVf mVc 0 := by
  have z0 : (0 : Int32).toInt = 0 := by decide
  exact mIv.mk (ity := h.ity) (ipa := h.ipa) (ipt := h.ipt) (itm := h.itm) (ito := h.ito) (imn := h.imn) (imy := h.imy) (ivr := h.ivr) (imb := h.imb) (ipm := h.ipm) (imo := h.imo) (inc := h.inc) (ifn := h.ifn) (ifc := h.ifc) (ifa := h.ifa) (irn := h.irn) (irf := h.irf) (irw := h.irw) (itn := by omega) (itk := fun i q1 q2 => by omega) (ivn := by omega) (iva := fun v q => by omega) (itr := by omega)
/-- what is there of things, as one -/
theorem iv_tk (h : mIv mTy mPa mTo mTm mMn mOt mNa mRe mMa mMy mPm mFn mFy mFa mFr mRn mFo mRt mRm mTn mTt mTi mVn mVr mVf mVc mTr) (e0 : Int32) (p0 : Nat → Int32) : tnB (mTn, e0, mTt, mTi, p0) ∧ tOK mTy (mTn, e0, mTt, mTi, p0) := ⟨h.itn, h.itk⟩
theorem iv_thing (h : mIv mTy mPa mTo mTm mMn mOt mNa mRe mMa mMy mPm mFn mFy mFa mFr mRn mFo mRt mRm mTn mTt mTi mVn mVr mVf mVc mTr) {t v : Int32} (ht : okT mTy t) (h20 : t.toInt < 20) (h9 : mTn.toInt < 60) : mIv mTy mPa mTo mTm mMn mOt mNa mRe mMa mMy mPm mFn mFy mFa mFr mRn mFo mRt mRm (mTn + 1) (upd mTt (mTn + 1).toNatClampNeg t) (upd mTi (mTn + 1).toNatClampNeg v) mVn mVr mVf mVc mTr := by
  have k := md_K (t := t) (v := v) (iv_tk h 0 (fun _ => 0)).1 (iv_tk h 0 (fun _ => 0)).2 ht (fun q => by omega)
  rw [md_3 ⟨by decide, h9⟩] at k
  exact iv_more h k
theorem iv_make (h : mIv mTy mPa mTo mTm mMn mOt mNa mRe mMa mMy mPm mFn mFy mFa mFr mRn mFo mRt mRm mTn mTt mTi mVn mVr mVf mVc mTr) {r f v sc mp m : Int32} (hr : 0 ≤ r.toInt ∧ r.toInt < mRn.toInt) (hf : 0 ≤ f.toInt ∧ f.toInt < mFn.toInt) (hc : rcM mPa mTt mTn (mFo r.toNatClampNeg) (mRt r.toNatClampNeg) v) (hw : wmM mPa mOt mNa mRe mMy mPm mMa mFa mFy mFr mMn (mFo r.toNatClampNeg) (mRt r.toNatClampNeg) (mRm r.toNatClampNeg) f sc mp m) (hm : 0 ≤ m.toInt) (hn : ¬ ((mFo r.toNatClampNeg).toInt = 1 ∧ v.toInt = 0)) (h9 : mVn.toInt < 30) : mIv mTy mPa mTo mTm mMn mOt mNa mRe mMa mMy mPm mFn mFy mFa mFr mRn mFo mRt mRm mTn mTt mTi (mVn + 1) (upd mVr mVn.toNatClampNeg r) (upd mVf mVn.toNatClampNeg f) (upd mVc mVn.toNatClampNeg v) mTr := by
  have hvn := h.ivn
  have e : (mVn + 1).toInt = mVn.toInt + 1 := iAdd rfl (by decide) (by omega) (by omega)
  have hx := xN hvn.1
  have htn := h.itn
  refine mIv.mk (ity := h.ity) (ipa := h.ipa) (ipt := h.ipt) (itm := h.itm) (ito := h.ito) (imn := h.imn) (imy := h.imy) (ivr := h.ivr) (imb := h.imb) (ipm := h.ipm) (imo := h.imo) (inc := h.inc) (ifn := h.ifn) (ifc := h.ifc) (ifa := h.ifa) (irn := h.irn) (irf := h.irf) (irw := h.irw) (itn := h.itn) (itk := h.itk) (ivn := by omega) (iva := ?_) (itr := h.itr)
  intro u q
  by_cases eu : u = mVn.toNatClampNeg
  · rw [eu, updS, updS, updS]
    refine ⟨hr, hf, ?_, fun q1 => ?_, fun sc2 mp2 m2 q1 => by rw [← wm_d hw q1]; exact hm⟩
    · rcases hc with ⟨_, hc | ⟨hc, _⟩, _⟩ | ⟨_, hc⟩ <;> omega
    · rcases hc with ⟨_, hc | ⟨hc, hc2⟩, _⟩ | ⟨hc, _⟩
      · exact absurd ⟨q1, hc⟩ hn
      · exact ⟨hc.1, hc2⟩
      · omega
  · rw [updN eu, updN eu, updN eu]
    exact h.iva u (by omega)
/-- a call of a value is safe -/
theorem iv_safe (h : mIv mTy mPa mTo mTm mMn mOt mNa mRe mMa mMy mPm mFn mFy mFa mFr mRn mFo mRt mRm mTn mTt mTi mVn mVr mVf mVc mTr) {mAr mGo mPl : Nat → Int32} {v : Int32} (hv : 0 ≤ v.toInt ∧ v.toInt < mVn.toInt) (hag : agM mPa mTt mAr mFa mFy mTn (mVf v.toNatClampNeg) 0) : caS mPa mOt mNa mRe mMy mPm mMa mFa mFy mFr mAr mMn (mFo (mVr v.toNatClampNeg).toNatClampNeg) (mRt (mVr v.toNatClampNeg).toNatClampNeg) (mRm (mVr v.toNatClampNeg).toNatClampNeg) (mVf v.toNatClampNeg) (mVc v.toNatClampNeg) mGo mTn (mTt, mTi, mPl) := by
  have hx := xN hv.1
  obtain ⟨q1, q2, q3, q4, q5⟩ := h.iva v.toNatClampNeg (by omega)
  have hrf := rfD_at h.irf q1
  have hxr := xN q1.1
  have hfn := h.ifn
  have hty := h.ity
  refine ca_safe h.ipa h.imy h.ivr h.imn h.itn (by omega) (fcD_at h.ifc q2) (fun q => by have := hrf.2.1 q; omega) (fun q => h.irw _ (by omega) q) h.inc h.imb (fun i u1 u2 => (h.itk i u1 u2).2) (fun q => ?_) q5 hag
  exact ⟨⟨(q4 q).1, q3.2⟩, (q4 q).2⟩
/-- and what it does to the things -/
theorem iv_co (h : mIv mTy mPa mTo mTm mMn mOt mNa mRe mMa mMy mPm mFn mFy mFa mFr mRn mFo mRt mRm mTn mTt mTi mVn mVr mVf mVc mTr) {mAr mGo mPl : Nat → Int32} {v : Int32} (hv : 0 ≤ v.toInt ∧ v.toInt < mVn.toInt) (hag : agM mPa mTt mAr mFa mFy mTn (mVf v.toNatClampNeg) 0) {rn wh cm : Int32} {y : (Nat → Int32) × cs_T} (hco : coM mPa mOt mNa mRe mMy mPm mMa mFa mFy mFr mAr mMn (mFo (mVr v.toNatClampNeg).toNatClampNeg) (mRt (mVr v.toNatClampNeg).toNatClampNeg) (mRm (mVr v.toNatClampNeg).toNatClampNeg) (mVf v.toNatClampNeg) (mVc v.toNatClampNeg) mGo mTn (mTt, mTi, mPl) rn wh cm y) : exK mTy (mTn, 0, mTt, mTi, mPl) y.2 := by
  have hca := iv_safe (mGo := mGo) (mPl := mPl) h hv hag
  have hx := xN hv.1
  obtain ⟨q1, q2, q3, q4, q5⟩ := h.iva v.toNatClampNeg (by omega)
  have hz := fun e0 => iv_tk h e0 mPl
  have hk := rf_k h q1
  have hty := h.ity
  have hmn := h.imn
  have hfy := fcD_at h.ifc q2
  obtain ⟨sc, mp, m, c1, c2, ⟨c3, _, _, ⟨c4, c5⟩ | ⟨c4, c5⟩⟩ | ⟨c3, e0, s, c4, c5, c6⟩⟩ := hco
  · have c7 := congrArg Prod.snd c5
    dsimp only at c7
    rw [c7]
    refine sz_k hty.1 (hz 0).1 (hz 0).2 ?_
    rw [c2]
    by_cases e : (mRt (mVr v.toNatClampNeg).toNatClampNeg).toInt = 10
    · rw [cm_1 ⟨c4, e⟩]; exact Or.inr (Or.inr (by decide))
    · rw [cm_2 ⟨c4, e⟩]; exact hk.2.1 c4
  · have c7 := congrArg Prod.snd c5
    dsimp only at c7
    rw [c7]
    have z0 : (0 : Int32).toInt = 0 := by decide
    refine md_K (hz 0).1 (hz 0).2 ?_ (fun _ _ => by omega)
    rw [c2]
    by_cases e3 : (mFo (mVr v.toNatClampNeg).toNatClampNeg).toInt = 3
    · rw [cm_3 e3]; exact (hk.1 c4).1
    · exfalso
      obtain ⟨w1, d1, d2⟩ := c1
      have e99 : w1.toInt = 99 := by
        rcases d2 with ⟨_, d2⟩ | ⟨_, d2⟩ | ⟨_, d2⟩
        · rw [← d2]; exact c3
        · rw [← d2]; exact c3
        · rw [d2] at c3; exact absurd c3 (by decide)
      have one : ∀ {a b p q : Int32}, oneM mPa mOt mNa mMy mPm mMa mFa mFy mMn a b (mVf v.toNatClampNeg) p q → q.toInt = 99 → False := by
        rintro a b p q ⟨u, g1, ⟨_, g2⟩ | ⟨_, g2⟩ | ⟨_, _, g2⟩⟩ g3
        · rw [g2] at g3; exact absurd g3 (by decide)
        · rw [g2] at g3; exact absurd g3 (by decide)
        · subst g2
          have := (sr_tk g1 (by omega)).1
          omega
      have hfo := (rfD_at h.irf q1).1
      rcases d1 with ⟨b0, p1, u1, p2, u2, g1, g2, g3⟩ | ⟨b0, _, u, g1, ⟨_, g2⟩ | ⟨_, g2⟩⟩ | ⟨b0, _, u, g1, ⟨_, g2⟩ | ⟨_, g2⟩ | ⟨_, g2⟩ | ⟨_, g2⟩⟩ | ⟨b0, _⟩ | ⟨b0, _⟩
      · rcases g3 with ⟨_, g4, _⟩ | ⟨_, _, g4, _⟩ | ⟨_, _, _, _, _, g4⟩ | ⟨_, _, _, _, _, _, g4⟩ | ⟨_, _, _, _, _, _, g4⟩
        · rw [g4] at e99
          have := (sr_tk g1 (by omega)).1
          omega
        · rw [g4] at e99
          rcases g2 with ⟨_, g2⟩ | ⟨_, _, g2⟩
          · have := (sr_tk g2 (by omega)).1
            omega
          · rw [g2] at e99; exact absurd e99 (by decide)
        · rw [g4] at e99; exact absurd e99 (by decide)
        · rw [g4] at e99; exact absurd e99 (by decide)
        · rw [g4] at e99; exact absurd e99 (by decide)
      · rw [g2] at e99; exact absurd e99 (by decide)
      · rw [g2] at e99; exact one g1 e99
      · rw [g2] at e99; exact one g1 e99
      · rw [g2] at e99; exact absurd e99 (by decide)
      · rw [g2] at e99; exact absurd e99 (by decide)
      · rw [g2] at e99; exact one g1 e99
      · omega
      · omega
  · obtain ⟨y1, y2, y3, y4, y5, y6⟩ := hca.2 sc mp m e0 rn s c1 c3 c4 c5
    have hxr := xN y1.1
    have hs01 : 0 ≤ s.toInt ∧ s.toInt ≤ 1 := by rcases c4 with ⟨_, w⟩ | ⟨_, w⟩ <;> rw [w] <;> decide
    have k := rn_k (x := (mGo, mTn, e0, mTt, mTi, mPl)) hty.1 (hz e0).1 (hz e0).2 (fun i => pl_ok hty.1 (h.ipm i)) hs01 hfy.2 y3 (h.imo rn.toNatClampNeg (by omega)).2.1 (h.imy rn.toNatClampNeg (by omega)) c6
    exact k
end
