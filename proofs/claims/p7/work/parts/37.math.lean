/-! what a meaning says of the member -/
theorem sr_tk {pa ot na my pm ma fa fy : Nat → Int32} {mn t w f s p r : Int32} (h : srM pa ot na my pm ma fa fy mn t w f s p r) (hr : 0 ≤ r.toInt) : (0 ≤ r.toInt ∧ r.toInt < mn.toInt ∨ 40 < mn.toInt) ∧ (1 ≤ p.toInt ∧ p.toInt ≤ 3) ∧ (na r.toNatClampNeg).toInt = w.toInt ∧ hadM pa ot na my pm mn t r ∧ tkM pa my pm fa ma fy r f s p := by
  have u : ∀ q : Int32, uqM (spF pa ot na my pm ma fa fy mn t w f s q) mn r → (0 ≤ r.toInt ∧ r.toInt < mn.toInt ∨ 40 < mn.toInt) ∧ (na r.toNatClampNeg).toInt = w.toInt ∧ hadM pa ot na my pm mn t r ∧ tkM pa my pm fa ma fy r f s q := by
    intro q h
    rcases h with ⟨b, h1, h2, h3, _⟩ | ⟨h1, _⟩
    · subst h2
      refine ⟨?_, h3.1⟩
      by_cases e : 40 < mn.toInt
      · exact Or.inr e
      · have := nI_toInt (n := b) (by omega)
        exact Or.inl (by omega)
    · rw [h1] at hr; exact absurd hr (by decide)
  rcases h with ⟨h1, h2, _⟩ | ⟨h1, _, h2⟩ | ⟨h1, _, _, h2⟩ | ⟨h1, _, _, _, h2⟩
  · rw [h2] at hr; exact absurd hr (by decide)
  · subst h1; exact ⟨(u 1 h2).1, by decide, (u 1 h2).2⟩
  · subst h1; exact ⟨(u 2 h2).1, by decide, (u 2 h2).2⟩
  · subst h1; exact ⟨(u 3 h2).1, by decide, (u 3 h2).2⟩
theorem one_tk {pa ot na my pm ma fa fy : Nat → Int32} {mn t w f p r : Int32} (h : oneM pa ot na my pm ma fa fy mn t w f p r) (hr : 0 ≤ r.toInt) : (1 ≤ p.toInt ∧ p.toInt ≤ 3) ∧ (na r.toNatClampNeg).toInt = w.toInt ∧ hadM pa ot na my pm mn t r ∧ tkM pa my pm fa ma fy r f 0 p := by
  obtain ⟨r1, h1, ⟨_, h2⟩ | ⟨_, h2⟩ | ⟨_, _, h2⟩⟩ := h
  · rw [h2] at hr; exact absurd hr (by decide)
  · rw [h2] at hr; exact absurd hr (by decide)
  · subst h2; exact (sr_tk h1 hr).2
/-- where m comes from -/
def mtR (pa ot na my pm ma fa fy : Nat → Int32) (mn fo t w f sc mp m tS w1 s : Int32) : Prop := ((sc.toInt ≠ 0 ∧ s = 1 ∧ fo.toInt = 0 ∧ c2M pa fa fy t f) ∨ (sc.toInt = 0 ∧ s = 0)) ∧ ((fo.toInt = 2 ∧ tS = pa t.toNatClampNeg) ∨ (fo.toInt ≠ 2 ∧ tS = t)) ∧ ((fo.toInt = 3 ∧ w1 = 6) ∨ (fo.toInt ≠ 3 ∧ w1 = w)) ∧ (0 ≤ fo.toInt ∧ fo.toInt ≤ 3) ∧ (1 ≤ mp.toInt ∧ mp.toInt ≤ 3) ∧ (na m.toNatClampNeg).toInt = w1.toInt ∧ hadM pa ot na my pm mn tS m ∧ tkM pa my pm fa ma fy m f s mp
theorem mn_tk {pa ot na my pm ma fa fy : Nat → Int32} {mn fo t w f sc mp m : Int32} (hn : mn.toInt ≤ 40) (h : mnM pa ot na my pm ma fa fy mn fo t w f sc mp m) (hm : 0 ≤ m.toInt ∧ m.toInt < mn.toInt) : ∃ tS w1 s : Int32, mtR pa ot na my pm ma fa fy mn fo t w f sc mp m tS w1 s := by
  have z0 : (0 : Int32).toInt = 0 := by decide
  have z1 : (1 : Int32).toInt = 1 := by decide
  rcases h with ⟨h0, p1, r1, p2, r2, h1, h2, h3⟩ | ⟨h0, h1, r1, h2, h3⟩ | ⟨h0, h1, r1, h2, h3⟩ | ⟨h0, h1, h2⟩ | ⟨_, _, _, h1⟩
  · rcases h3 with ⟨_, e1, e2, e3⟩ | ⟨_, _, e1, e2, e3⟩ | ⟨_, _, _, _, _, e1⟩ | ⟨_, _, _, _, _, _, e1⟩ | ⟨_, _, _, _, _, _, e1⟩
    · subst e1; subst e2; subst e3
      have q := sr_tk h1 hm.1
      exact ⟨t, w, 0, Or.inr ⟨z0, rfl⟩, Or.inr ⟨by omega, rfl⟩, Or.inr ⟨by omega, rfl⟩, by omega, q.2⟩
    · subst e1; subst e2; subst e3
      rcases h2 with ⟨h2, h4⟩ | ⟨_, _, h4⟩
      · have q := sr_tk h4 hm.1
        exact ⟨t, w, 1, Or.inl ⟨by omega, rfl, h0, h2⟩, Or.inr ⟨by omega, rfl⟩, Or.inr ⟨by omega, rfl⟩, by omega, q.2⟩
      · rw [h4] at hm; exact absurd hm.1 (by decide)
    · rw [e1] at hm; exact absurd hm.1 (by decide)
    · rw [e1] at hm; exact absurd hm.1 (by decide)
    · rw [e1] at hm; exact absurd hm.1 (by decide)
  · subst h1
    rcases h3 with ⟨_, h3⟩ | ⟨_, h3⟩
    · rw [h3] at hm; exact absurd hm.1 (by decide)
    · subst h3
      exact ⟨t, w, 0, Or.inr ⟨z0, rfl⟩, Or.inr ⟨by omega, rfl⟩, Or.inr ⟨by omega, rfl⟩, by omega, one_tk h2 hm.1⟩
  · subst h1
    rcases h3 with ⟨h3, h4⟩ | ⟨_, h3⟩ | ⟨_, h3⟩ | ⟨_, h3⟩
    · rw [h4] at hm; omega
    · rw [h3] at hm; exact absurd hm.1 (by decide)
    · rw [h3] at hm; exact absurd hm.1 (by decide)
    · subst h3
      exact ⟨_, w, 0, Or.inr ⟨z0, rfl⟩, Or.inl ⟨h0, rfl⟩, Or.inr ⟨by omega, rfl⟩, by omega, one_tk h2 hm.1⟩
  · subst h1
    rcases h2 with ⟨_, _, h3⟩ | ⟨_, _, _, ⟨_, h3⟩ | ⟨_, h3⟩⟩ | ⟨_, _, h3⟩
    · rw [h3] at hm; exact absurd hm.1 (by decide)
    · rw [h3] at hm; have := hm.2; have : (99 : Int32).toInt = 99 := by decide
      omega
    · rw [h3] at hm; exact absurd hm.1 (by decide)
    · exact ⟨t, 6, 0, Or.inr ⟨z0, rfl⟩, Or.inr ⟨by omega, rfl⟩, Or.inl ⟨h0, rfl⟩, by omega, one_tk h3 hm.1⟩
  · rcases h1 with ⟨_, h3⟩ | ⟨_, h3⟩
    · rw [h3] at hm; have := hm.2; have : (99 : Int32).toInt = 99 := by decide
      omega
    · rw [h3] at hm; exact absurd hm.1 (by decide)
theorem wm_tk {pa ot na re my pm ma fa fy fr : Nat → Int32} {mn fo t w f sc mp m : Int32} (hn : mn.toInt ≤ 40) (h : wmM pa ot na re my pm ma fa fy fr mn fo t w f sc mp m) (hm : 0 ≤ m.toInt ∧ m.toInt < mn.toInt) : ∃ tS w1 s : Int32, mtR pa ot na my pm ma fa fy mn fo t w f sc mp m tS w1 s := by
  obtain ⟨r1, h1, ⟨_, h2⟩ | ⟨_, h2⟩ | ⟨_, h2⟩⟩ := h
  · subst h2; exact mn_tk hn h1 hm
  · subst h2; exact mn_tk hn h1 hm
  · rw [h2] at hm; exact absurd hm.1 (by decide)
theorem wm_sc {pa ot na re my pm ma fa fy fr : Nat → Int32} {mn fo t w f sc mp m : Int32} (h : wmM pa ot na re my pm ma fa fy fr mn fo t w f sc mp m) (hs : sc.toInt ≠ 0) : fo.toInt = 0 ∧ c2M pa fa fy t f := by
  have z0 : (0 : Int32).toInt = 0 := by decide
  obtain ⟨r1, h1, _⟩ := h
  rcases h1 with ⟨h0, p1, r1, p2, r2, h1, h2, h3⟩ | ⟨h0, h1, _⟩ | ⟨h0, h1, _⟩ | ⟨h0, h1, _⟩ | ⟨_, h1, _⟩
  · rcases h3 with ⟨_, e1, e2, e3⟩ | ⟨_, q, e1, e2, e3⟩ | ⟨_, _, e2, _⟩ | ⟨_, _, e2, _⟩ | ⟨_, _, e2, _⟩
    · rw [e2] at hs; exact absurd z0 hs
    · rcases h2 with ⟨h2, h4⟩ | ⟨_, _, h4⟩
      · exact ⟨h0, h2⟩
      · have := q.1; rw [h4] at this; exact absurd this (by decide)
    · rw [e2] at hs; exact absurd z0 hs
    · rw [e2] at hs; exact absurd z0 hs
    · rw [e2] at hs; exact absurd z0 hs
  · rw [h1] at hs; exact absurd z0 hs
  · rw [h1] at hs; exact absurd z0 hs
  · rw [h1] at hs; exact absurd z0 hs
  · rw [h1] at hs; exact absurd z0 hs
theorem wm_99 {pa ot na re my pm ma fa fy fr : Nat → Int32} {mn fo t w f sc mp m : Int32} (h : wmM pa ot na re my pm ma fa fy fr mn fo t w f sc mp m) (hm : m.toInt = 99) (h4 : fo.toInt = 4) : (fy f.toNatClampNeg).toInt = 1 := by
  obtain ⟨r1, h1, h2⟩ := h
  have e : r1.toInt = 99 := by
    rcases h2 with ⟨_, h2⟩ | ⟨_, h2⟩ | ⟨_, h2⟩
    · rw [← h2]; exact hm
    · rw [← h2]; exact hm
    · rw [h2] at hm; exact absurd hm (by decide)
  rcases h1 with ⟨h0, _⟩ | ⟨h0, _⟩ | ⟨h0, _⟩ | ⟨h0, _⟩ | ⟨_, _, _, ⟨h1, _⟩ | ⟨_, h1⟩⟩
  · omega
  · omega
  · omega
  · omega
  · exact h1.1
  · rw [h1] at e; exact absurd e (by decide)
/-! when a call is safe -/
theorem nI_00 : nI 0 = 0 := by decide
theorem ix_0 {f : Int32} (hf : 0 ≤ f.toInt ∧ f.toInt < 10) (j : Nat) : 3 * f + 0 + nI j = 3 * f + nI j := by rw [Int32.add_zero]
theorem ix_1 {f : Int32} (hf : 0 ≤ f.toInt ∧ f.toInt < 10) {j : Nat} (hj : j < 10) : 3 * f + 1 + nI j = 3 * f + nI (j + 1) := by
  rw [Int32.add_assoc, show (1 : Int32) + nI j = nI (j + 1) from by rw [← nI_1, Int32.add_comm]]
theorem ix_2 {j : Nat} : (1 : Int32) + nI j = nI (j + 1) := by rw [← nI_1, Int32.add_comm]
/-- the arguments from s on are given -/
def agS (pa tt ar fa fy : Nat → Int32) (tn f s : Int32) : Prop := ∀ j : Nat, (j : Int) < (fy f.toNatClampNeg).toInt - s.toInt → (fa (3 * f + s + nI j).toNatClampNeg).toInt ≠ 10 → ((ar (s + nI j).toNatClampNeg).toInt = 0 ∨ ((1 ≤ (ar (s + nI j).toNatClampNeg).toInt ∧ (ar (s + nI j).toNatClampNeg).toInt ≤ tn.toInt) ∧ uM pa (tt (ar (s + nI j).toNatClampNeg).toNatClampNeg) (fa (3 * f + s + nI j).toNatClampNeg) = true))
theorem ag_s {pa tt ar fa fy : Nat → Int32} {tn f s : Int32} (hf : 0 ≤ f.toInt ∧ f.toInt < 10) (hfy : (fy f.toNatClampNeg).toInt ≤ 3) (hs : s = 1 ∨ s = 0) (h : agM pa tt ar fa fy tn f 0) : agS pa tt ar fa fy tn f s := by
  have z0 : (0 : Int32).toInt = 0 := by decide
  have z1 : (1 : Int32).toInt = 1 := by decide
  intro j q1 q2
  rcases hs with e | e
  · subst e
    rw [ix_1 hf (by omega)] at q2 ⊢
    rw [ix_2]
    exact h (j + 1) (Nat.zero_le _) (by omega) q2
  · subst e
    rw [ix_0 hf] at q2 ⊢
    rw [show (0 : Int32) + nI j = nI j from Int32.zero_add _]
    exact h j (Nat.zero_le _) (by omega) q2
theorem ag_d {pa tt ar fa fy : Nat → Int32} {tn f s : Int32} (hn : 0 ≤ tn.toInt ∧ tn.toInt ≤ 60) (h : agS pa tt ar fa fy tn f s) : agD ar fa fy f s := fun j q1 q2 => by have := h j q1 q2; omega
theorem ag_0 {pa tt ar fa fy : Nat → Int32} {tn f : Int32} (h : agM pa tt ar fa fy tn f 0) (h1 : 1 ≤ (fy f.toNatClampNeg).toInt) (h2 : (fa (3 * f).toNatClampNeg).toInt ≠ 10) : (ar 0).toInt = 0 ∨ ((1 ≤ (ar 0).toInt ∧ (ar 0).toInt ≤ tn.toInt) ∧ uM pa (tt (ar 0).toNatClampNeg) (fa (3 * f).toNatClampNeg) = true) := by
  have q := h 0 (Nat.le_refl 0) (by omega)
  rw [nI_00, Int32.add_zero] at q
  exact q h2
/-- what holds of things: rows are short -/
def thD (tn : Int32) (tt ti : Nat → Int32) : Prop := ∀ i : Nat, 1 ≤ i → (i : Int) ≤ tn.toInt → 20 ≤ (tt i).toInt → 0 ≤ (ti i).toInt ∧ (ti i).toInt ≤ 20
theorem sm_r {na my pm : Nat → Int32} (m : Int32) : smM na my pm m m := ⟨rfl, rfl, fun _ _ _ => rfl⟩
/-- what was handed to m can be summed -/
theorem gv_gt {pa ar fa fy my pm ma tt ti pl go : Nat → Int32} {m rn f s p tn e0 : Int32} (hd : paD pa) (hn : 0 ≤ tn.toInt ∧ tn.toInt ≤ 60) (hs : s = 1 ∨ s = 0) (hfy : 0 ≤ (fy f.toNatClampNeg).toInt ∧ (fy f.toNatClampNeg).toInt ≤ 3) (hmy : 0 ≤ (my m.toNatClampNeg).toInt ∧ (my m.toNatClampNeg).toInt ≤ 3)
  (hv : (ma m.toNatClampNeg &&& 4).toInt ≠ 0 → 1 ≤ (my m.toNatClampNeg).toInt) (hth : thD tn tt ti) (hag : agS pa tt ar fa fy tn f s) (hp : 1 ≤ p.toInt ∧ p.toInt ≤ 3) (htk : tkM pa my pm fa ma fy m f s p) (hmm : my rn.toNatClampNeg = my m.toNatClampNeg) (hsm : smL my pm rn m 0)
  {g9 t9 i9 l9 : Nat → Int32} {n9 e9 : Int32} (h : (g9, n9, e9, t9, i9, l9) = gvF ar fa fy my pm rn f s p (go, tn, e0, tt, ti, pl)) : gtD my pm i9 g9 rn := by
  have z0 : (0 : Int32).toInt = 0 := by decide
  have z1 : (1 : Int32).toInt = 1 := by decide
  have hs01 : 0 ≤ s.toInt ∧ s.toInt ≤ 1 := by rcases hs with e | e <;> rw [e] <;> decide
  have hz : tnB (tn, e0, tt, ti, pl) := hn
  intro k hk
  rw [hmm] at hk
  rw [nI_c (by omega)]
  have hpe : pm (3 * rn + nI k).toNatClampNeg = pm (3 * m + nI k).toNatClampNeg := hsm k (Nat.zero_le k) (by rw [hmm]; exact hk)
  unfold gvF at h
  split at h
  · next e =>
    have hcnt : (my m.toNatClampNeg).toInt = (fy f.toNatClampNeg).toInt - s.toInt := by have := htk.1; omega
    obtain ⟨i1, i2, i3, i4⟩ := g1_x (ar := ar) (fa := fa) (pm := pm) (m := rn) (f := f) (s := s) (my rn.toNatClampNeg).toNatClampNeg 0 (go, tn, e0, tt, ti, pl) hz
    have hx := xN (x := my rn.toNatClampNeg) (by rw [hmm]; omega)
    rw [hmm] at hx
    have q := i4 k (Nat.zero_le k) (by rw [hmm]; omega)
    rw [← h] at q
    refine gt_one (tn := tn) (tt := tt) (ti := ti) (y := (n9, e9, t9, i9, l9)) hd hz ⟨rfl, rfl, rfl⟩ q (hag k (by omega)) ?_ hth
    rw [hpe]
    have hj := htk.2 k (Nat.zero_le k) (by omega)
    by_cases e1 : p.toInt = 1
    · exact Or.inl (hj.1 e1)
    · exact hj.2.1 (by omega)
  · next e =>
    have e3 : p.toInt = 3 := by omega
    have hcv : (ma m.toNatClampNeg &&& 4).toInt ≠ 0 ∧ (my m.toNatClampNeg).toInt ≤ (fy f.toNatClampNeg).toInt - s.toInt + 1 := by have := htk.1; omega
    have hm1 := hv hcv.1
    have hpn : (my rn.toNatClampNeg - 1).toInt = (my m.toNatClampNeg).toInt - 1 := by rw [hmm]; exact iSub rfl (by decide) (by omega) (by omega)
    have hpx := xN (x := my rn.toNatClampNeg - 1) (by omega)
    obtain ⟨i1, i2, i3, i4⟩ := g1_x (ar := ar) (fa := fa) (pm := pm) (m := rn) (f := f) (s := s) (my rn.toNatClampNeg - 1).toNatClampNeg 0 (go, tn, e0, tt, ti, pl) hz
    dsimp only at h
    generalize gv1 ar fa pm rn f s (my rn.toNatClampNeg - 1).toNatClampNeg 0 (go, tn, e0, tt, ti, pl) = y at h i1 i2 i3 i4
    have hsub : (fy f.toNatClampNeg - s).toInt = (fy f.toNatClampNeg).toInt - s.toInt := iSub rfl rfl (by omega) (by omega)
    have hsub2 : (fy f.toNatClampNeg - s - (my rn.toNatClampNeg - 1)).toInt = (fy f.toNatClampNeg).toInt - s.toInt - ((my m.toNatClampNeg).toInt - 1) := by rw [iSub hsub hpn (by omega) (by omega)]
    have hmd := md_x (t := pm (3 * rn + (my rn.toNatClampNeg - 1)).toNatClampNeg) (v := fy f.toNatClampNeg - s - (my rn.toNatClampNeg - 1)) i2
    have hmi := md_i (t := pm (3 * rn + (my rn.toNatClampNeg - 1)).toNatClampNeg) (v := fy f.toNatClampNeg - s - (my rn.toNatClampNeg - 1)) i2
    generalize mdF (pm (3 * rn + (my rn.toNatClampNeg - 1)).toNatClampNeg) (fy f.toNatClampNeg - s - (my rn.toNatClampNeg - 1)) y.2 = w at h hmd hmi
    have h2 := g2_x (ar := ar) (fa := fa) (my := my) (pm := pm) (m := rn) (f := f) (s := s) (pn := my rn.toNatClampNeg - 1) (row := w.1) ((fy f.toNatClampNeg - s).toNatClampNeg - (my rn.toNatClampNeg - 1).toNatClampNeg) (my rn.toNatClampNeg - 1).toNatClampNeg w.2 hmd.2.1
    generalize gv2 ar fa my pm rn f s (my rn.toNatClampNeg - 1) w.1 ((fy f.toNatClampNeg - s).toNatClampNeg - (my rn.toNatClampNeg - 1).toNatClampNeg) (my rn.toNatClampNeg - 1).toNatClampNeg w.2 = v at h h2
    have hg : g9 = upd y.1 (my rn.toNatClampNeg - 1).toNatClampNeg w.1 := congrArg Prod.fst h
    have hvv : (n9, e9, t9, i9, l9) = v := congrArg Prod.snd h
    subst hg
    subst hvv
    by_cases ek : k = (my rn.toNatClampNeg - 1).toNatClampNeg
    · subst ek
      rw [updS]
      refine ⟨fun _ => hmd.2.2, fun _ q2 => ⟨hmd.2.2, ?_⟩⟩
      have hw := hmd.2.2
      have hwx := xN (x := w.1) hw.1
      have q := hmi q2
      have hwt : w.2.1.toInt = w.1.toInt := by rw [← q.2.2]
      have q3 := (h2.1.2 w.1.toNatClampNeg (by omega)).2
      dsimp only at q3
      rw [q3, q.1, hsub2]
      omega
    · rw [updN ek]
      have q := i4 k (Nat.zero_le k) (by omega)
      obtain ⟨zj, j0, j1, j2, j3⟩ := q
      refine gt_one (tn := tn) (tt := tt) (ti := ti) (y := (n9, e9, t9, i9, l9)) hd hz ⟨rfl, rfl, rfl⟩ ⟨zj, j0, j1, ex_t j2 (ex_t hmd.1 h2.1), j3⟩ (hag k (by omega)) ?_ hth
      rw [hpe]
      have hj := (htk.2 k (Nat.zero_le k) (by omega)).2.2 e3
      rw [plV_1 (by rw [nI_toInt (by omega)]; omega)] at hj
      exact hj
