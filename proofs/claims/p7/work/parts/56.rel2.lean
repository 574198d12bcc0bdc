/-! the class's sets of members are what the reference's types have -/
def hbR (ha : Nat → Int64) (pa ot na my pm : Nat → Int32) (ty mn : Int32) : Prop := ∀ t i : Nat, (t : Int) < ty.toInt → i < 64 → (bl (ha t) i = true ↔ ((i : Int) < mn.toInt ∧ hadM pa ot na my pm mn (nI t) (nI i)))
def nmR (nm : Nat → Int64) (na : Nat → Int32) (mn : Int32) : Prop := ∀ w i : Nat, w < 7 → i < 64 → (bl (nm w) i = true ↔ ((i : Int) < mn.toInt ∧ (na i).toInt = (w : Int)))
def stR (s : Int64) (ma : Nat → Int32) (b mn : Int32) : Prop := ∀ i : Nat, i < 64 → (bl s i = true ↔ ((i : Int) < mn.toInt ∧ (ma i &&& b).toInt ≠ 0))
/-- the order of the types -/
theorem uC_r {pa : Nat → Int32} {a : Int32} : uM pa a a = true := uM_r
theorem uC_a {pa : Nat → Int32} (hd : paD pa) {a b : Int32} (ha : a.toInt < 20) (hb : b.toInt < 20) (h : uM pa a b = true) (k : uM pa b a = true) : a = b := by
  rw [uM_c ha] at h
  rw [uM_c hb] at k
  have := (uR_le' hd h).1
  have := (uR_le' hd k).1
  exact xJ (by omega)
theorem uC_l {pa : Nat → Int32} (hd : paD pa) {c a b : Int32} (hc : c.toInt < 20) (ha : a.toInt < 20) (hb : b.toInt < 20) (h : uM pa c a = true) (k : uM pa c b = true) : uM pa a b = true ∨ uM pa b a = true := by
  rw [uM_c hc] at h k
  rw [uM_c ha, uM_c hb]
  exact uR_ln hd 10 c (x_fuel c) h k
theorem uC_le {pa : Nat → Int32} (hd : paD pa) {a b : Int32} (ha : a.toInt < 20) (h : uM pa a b = true) : b.toInt ≤ a.toInt := by
  rw [uM_c ha] at h
  exact (uR_le' hd h).1
theorem sm_s {na my pm : Nat → Int32} {i j : Int32} (h : smM na my pm i j) : smM na my pm j i := ⟨h.1.symm, h.2.1.symm, fun k q1 q2 => (h.2.2 k q1 (by rw [h.2.1]; exact q2)).symm⟩
theorem sm_t {na my pm : Nat → Int32} {i j k : Int32} (h : smM na my pm i j) (g : smM na my pm j k) : smM na my pm i k := ⟨h.1.trans g.1, h.2.1.trans g.2.1, fun x q1 q2 => (h.2.2 x q1 q2).trans (g.2.2 x q1 (by rw [← h.2.1]; exact q2))⟩
theorem cM_b {ty t : Int32} (hty : 2 ≤ ty.toInt ∧ ty.toInt ≤ 10) (ht : (0 ≤ t.toInt ∧ t.toInt < ty.toInt) ∨ 20 ≤ t.toInt) : 0 ≤ (cM t).toInt ∧ (cM t).toInt < ty.toInt := by
  have z0 : (0 : Int32).toInt = 0 := by decide
  rcases ht with h | h
  · rw [cM_2 (by omega)]; exact h
  · rw [cM_1 h]; omega
/-- a type has one of a name and parameters at most -/
theorem had_1 {pa ot na re my pm : Nat → Int32} {ty mn t : Int32} {i j : Nat} (hd : paD pa) (hty : 2 ≤ ty.toInt ∧ ty.toInt ≤ 10) (hmn : mn.toInt ≤ 40) (hX : mbX ty ot na re my pm mn) (ht : (0 ≤ t.toInt ∧ t.toInt < ty.toInt) ∨ 20 ≤ t.toInt) (hi : (i : Int) < mn.toInt) (hj : (j : Int) < mn.toInt) (h1 : hadM pa ot na my pm mn t (nI i)) (h2 : hadM pa ot na my pm mn t (nI j)) (hs : smM na my pm (nI i) (nI j)) : i = j := by
  rcases Classical.em (i = j) with e | e
  · exact e
  exfalso
  have hc := cM_b hty ht
  have hic : (nI i).toNatClampNeg = i := nI_c (by omega)
  have hjc : (nI j).toNatClampNeg = j := nI_c (by omega)
  have ho : (ot i).toInt ≠ (ot j).toInt := (hX j hj).2 i hi e hs
  have oi := (hX i hi).1.2.2
  have oj := (hX j hj).1.2.2
  unfold hadM at h1 h2
  rw [hic] at h1
  rw [hjc] at h2
  have ov : ∀ a b : Nat, (a : Int) < mn.toInt → (b : Int) < mn.toInt → (ot a).toInt ≠ (ot b).toInt → uM pa (cM t) (ot a) = true → uM pa (ot a) (ot b) = true → smM na my pm (nI a) (nI b) → ovM pa ot na my pm (cM t) (nI b) (nI a) := by
    intro a b ha hb q1 q2 q3 q4
    unfold ovM
    rw [nI_c (k := a) (by omega), nI_c (k := b) (by omega)]
    exact ⟨q1, q2, q3, q4⟩
  rcases h1 with ⟨a1, a2⟩ | ⟨a1, a2, a3, a4⟩
  · rcases h2 with ⟨b1, b2⟩ | ⟨b1, b2, b3, b4⟩
    · omega
    · have e1 : ot i = cM t := xJ a1
      exact b4 i hi (ov i j hi hj ho (by rw [e1]; exact uC_r) (by rw [e1]; exact b3) hs)
  · rcases h2 with ⟨b1, b2⟩ | ⟨b1, b2, b3, b4⟩
    · have e1 : ot j = cM t := xJ b1
      exact a4 j hj (ov j i hj hi (fun q => ho q.symm) (by rw [e1]; exact uC_r) (by rw [e1]; exact a3) (sm_s hs))
    · rcases uC_l hd (by omega) (by omega) (by omega) a3 b3 with q | q
      · exact b4 i hi (ov i j hi hj ho a3 q hs)
      · exact a4 j hj (ov j i hj hi (fun q => ho q.symm) b3 q (sm_s hs))
/-- the bits of a type's set -/
theorem hb_x {ha nm : Nat → Int64} {pa ot na my pm : Nat → Int32} {ty mn t : Int32} (hty : 2 ≤ ty.toInt ∧ ty.toInt ≤ 10) (hmn : mn.toInt ≤ 40) (hH : hbR ha pa ot na my pm ty mn) (hN : nmR nm na mn) (ht : (0 ≤ t.toInt ∧ t.toInt < ty.toInt) ∨ 20 ≤ t.toInt) {i : Nat} (hi : i < 64) : bl (hbX ha nm t) i = true ↔ ((i : Int) < mn.toInt ∧ hadM pa ot na my pm mn t (nI i)) := by
  have z0 : (0 : Int32).toInt = 0 := by decide
  rcases ht with h | h
  · rw [hb_1 (by omega), hH _ _ (by have := xN h.1; omega) hi, nI_self h.1]
  · rw [hb_2 (by omega), l_and, l_xor, l_m1 i hi]
    have e1 := hH 0 i (by omega) hi
    have e2 := hN 6 i (by omega) hi
    have c0 : nI 0 = 0 := by decide
    rw [c0] at e1
    have hx : (bl (ha 0) i && (bl (nm 6) i ^^ true)) = true ↔ (bl (ha 0) i = true ∧ ¬ bl (nm 6) i = true) := by cases bl (ha 0) i <;> cases bl (nm 6) i <;> simp
    rw [hx, e1, e2]
    constructor
    · rintro ⟨⟨q1, q2⟩, q3⟩
      have q4 : (na (nI i).toNatClampNeg).toInt ≠ 6 := by rw [nI_c (by omega)]; exact fun w => q3 ⟨q1, w⟩
      refine ⟨q1, ?_⟩
      unfold hadM at q2 ⊢
      rw [cM_1 h]
      rw [cM_2 (by omega)] at q2
      rcases q2 with ⟨w1, _⟩ | w
      · exact Or.inl ⟨w1, Or.inl q4⟩
      · exact Or.inr w
    · rintro ⟨q1, q2⟩
      have q4 : (na (nI i).toNatClampNeg).toInt ≠ 6 := by
        unfold hadM at q2
        rw [cM_1 h] at q2
        rcases q2 with ⟨_, w | w⟩ | ⟨_, w, _⟩
        · exact w
        · omega
        · exact w
      refine ⟨⟨q1, ?_⟩, fun w => q4 (by rw [nI_c (by omega)]; exact w.2)⟩
      unfold hadM at q2 ⊢
      rw [cM_1 h] at q2
      rw [cM_2 (by omega)]
      rcases q2 with ⟨w1, _⟩ | w
      · exact Or.inl ⟨w1, Or.inl q4⟩
      · exact Or.inr w
theorem nm_x {ha nm : Nat → Int64} {pa ot na my pm : Nat → Int32} {ty mn t w : Int32} (hty : 2 ≤ ty.toInt ∧ ty.toInt ≤ 10) (hmn : mn.toInt ≤ 40) (hH : hbR ha pa ot na my pm ty mn) (hN : nmR nm na mn) (ht : (0 ≤ t.toInt ∧ t.toInt < ty.toInt) ∨ 20 ≤ t.toInt) (hw : 0 ≤ w.toInt ∧ w.toInt ≤ 6) {i : Nat} (hi : i < 64) : bl (nmX ha nm t w) i = true ↔ ((i : Int) < mn.toInt ∧ (na i).toInt = w.toInt ∧ hadM pa ot na my pm mn t (nI i)) := by
  have hx := xN hw.1
  rw [nm_1 hw, l_and, Bool.and_eq_true, hb_x hty hmn hH hN ht hi, hN _ _ (by omega) hi, hx]
  exact ⟨fun q => ⟨q.1.1, q.2.2, q.1.2⟩, fun q => ⟨⟨q.1, q.2.2⟩, q.1, q.2.1⟩⟩
theorem ns_x {ha nm : Nat → Int64} {pa ot na my pm : Nat → Int32} {ty mn t w : Int32} (hty : 2 ≤ ty.toInt ∧ ty.toInt ≤ 10) (hmn : mn.toInt ≤ 40) (hH : hbR ha pa ot na my pm ty mn) (hN : nmR nm na mn) (ht : (0 ≤ t.toInt ∧ t.toInt < ty.toInt) ∨ 20 ≤ t.toInt) (hw : 0 ≤ w.toInt ∧ w.toInt ≤ 6) : nsX pa ot na my pm mn t w (nmX ha nm t w) := fun j q => (nm_x hty hmn hH hN ht hw (by omega)).trans ⟨fun z => z.2, fun z => ⟨q, z⟩⟩
theorem op_x {ha nm : Nat → Int64} {Ab : Int64} {pa ot na ma my pm : Nat → Int32} {ty mn t : Int32} (hty : 2 ≤ ty.toInt ∧ ty.toInt ≤ 10) (hmn : mn.toInt ≤ 40) (hH : hbR ha pa ot na my pm ty mn) (hN : nmR nm na mn) (hA : stR Ab ma 2 mn) (ht : (0 ≤ t.toInt ∧ t.toInt < ty.toInt) ∨ 20 ≤ t.toInt) : hbX ha nm t &&& Ab ≠ 0 ↔ opL pa ot na my pm ma mn t 0 := by
  rw [l_nz]
  constructor
  · rintro ⟨i, hi, h⟩
    rw [l_and, Bool.and_eq_true, hb_x hty hmn hH hN ht hi, hA i hi] at h
    exact ⟨i, Nat.zero_le i, h.1.1, by rw [nI_c (by omega)]; exact h.2.2, h.1.2⟩
  · rintro ⟨i, _, h1, h2, h3⟩
    rw [nI_c (by omega)] at h2
    refine ⟨i, by omega, ?_⟩
    rw [l_and, Bool.and_eq_true, hb_x hty hmn hH hN ht (by omega), hA i (by omega)]
    exact ⟨⟨h1, h3⟩, h1, h2⟩
theorem mk_x {ha nm : Nat → Int64} {pa ot na my pm : Nat → Int32} {ty mn t : Int32} (hty : 2 ≤ ty.toInt ∧ ty.toInt ≤ 10) (hmn : mn.toInt ≤ 40) (hH : hbR ha pa ot na my pm ty mn) (hN : nmR nm na mn) (ht : 0 ≤ t.toInt ∧ t.toInt < ty.toInt) : nmX ha nm t 6 ≠ 0 ↔ mkE ot na mn t 0 := by
  have z6 : (6 : Int32).toInt = 6 := by decide
  rw [l_nz]
  constructor
  · rintro ⟨i, hi, h⟩
    rw [nm_x hty hmn hH hN (Or.inl ht) (by omega) hi] at h
    obtain ⟨h1, h2, h3⟩ := h
    refine ⟨i, Nat.zero_le i, h1, ?_, by rw [nI_c (by omega)]; omega⟩
    unfold hadM at h3
    rw [cM_2 (by omega)] at h3
    rcases h3 with ⟨q, _⟩ | ⟨_, q, _⟩
    · exact q
    · rw [nI_c (by omega)] at q; omega
  · rintro ⟨i, _, h1, h2, h3⟩
    refine ⟨i, by omega, ?_⟩
    rw [nm_x hty hmn hH hN (Or.inl ht) (by omega) (by omega)]
    refine ⟨h1, by rw [nI_c (by omega)] at h3; omega, Or.inl ⟨?_, Or.inr ?_⟩⟩
    · rw [cM_2 (by omega)]; exact h2
    · rw [cM_2 (by omega)]
/-! a member's number tells its name and parameters -/
theorem dg_b {ty : Int32} {my pm : Nat → Int32} {i k : Nat} (hty : ty.toInt ≤ 10) (hp : ∀ i : Nat, plT ty (pm i)) : (k < (my i).toNatClampNeg ∧ (dgM my pm i k).toInt = (pm (3 * i + k)).toInt + 1 ∧ 0 ≤ (pm (3 * i + k)).toInt ∧ (pm (3 * i + k)).toInt ≤ 30) ∨ ((my i).toNatClampNeg ≤ k ∧ (dgM my pm i k).toInt = 0) := by
  have h := pl_b hty (hp (3 * i + k))
  by_cases q : k < (my i).toNatClampNeg
  · left
    unfold dgM
    rw [if_pos q, iAdd (x := (pm (3 * i + k)).toInt) (y := 1) rfl (by decide) (by omega) (by omega)]
    exact ⟨q, rfl, h⟩
  · right
    unfold dgM
    rw [if_neg q]
    exact ⟨by omega, by decide⟩
theorem sg_i {ty : Int32} {na my pm : Nat → Int32} {i : Nat} (hty : ty.toInt ≤ 10) (hp : ∀ i : Nat, plT ty (pm i)) (hn : 0 ≤ (na i).toInt ∧ (na i).toInt ≤ 6) : (sgM na my pm i).toInt = (((na i).toInt * 32 + (dgM my pm i 0).toInt) * 32 + (dgM my pm i 1).toInt) * 32 + (dgM my pm i 2).toInt := by
  have d0 := dg_b (my := my) (i := i) (k := 0) hty hp
  have d1 := dg_b (my := my) (i := i) (k := 1) hty hp
  have d2 := dg_b (my := my) (i := i) (k := 2) hty hp
  unfold sgM
  generalize dgM my pm i 0 = a at *
  generalize dgM my pm i 1 = b at *
  generalize dgM my pm i 2 = c at *
  generalize na i = w at *
  have e1 : (w * 32).toInt = w.toInt * 32 := iMul rfl (by decide) (by omega) (by omega)
  have e2 : (w * 32 + a).toInt = w.toInt * 32 + a.toInt := iAdd e1 rfl (by omega) (by omega)
  have e3 : ((w * 32 + a) * 32).toInt = (w.toInt * 32 + a.toInt) * 32 := iMul e2 (by decide) (by omega) (by omega)
  have e4 : ((w * 32 + a) * 32 + b).toInt = (w.toInt * 32 + a.toInt) * 32 + b.toInt := iAdd e3 rfl (by omega) (by omega)
  have e5 : (((w * 32 + a) * 32 + b) * 32).toInt = ((w.toInt * 32 + a.toInt) * 32 + b.toInt) * 32 := iMul e4 (by decide) (by omega) (by omega)
  exact iAdd e5 rfl (by omega) (by omega)
theorem sg_x {ty : Int32} {na my pm : Nat → Int32} {i j : Nat} (hi : i < 100) (hj : j < 100) (hty : ty.toInt ≤ 10) (hp : ∀ i : Nat, plT ty (pm i)) (hni : 0 ≤ (na i).toInt ∧ (na i).toInt ≤ 6) (hnj : 0 ≤ (na j).toInt ∧ (na j).toInt ≤ 6) (hyi : 0 ≤ (my i).toInt ∧ (my i).toInt ≤ 3) (hyj : 0 ≤ (my j).toInt ∧ (my j).toInt ≤ 3) : sgM na my pm i = sgM na my pm j ↔ smM na my pm (nI i) (nI j) := by
  have hic : (nI i).toNatClampNeg = i := nI_c (by omega)
  have hjc : (nI j).toNatClampNeg = j := nI_c (by omega)
  have hxi := xN hyi.1
  have hxj := xN hyj.1
  constructor
  · intro h
    have e := congrArg Int32.toInt h
    rw [sg_i hty hp hni, sg_i hty hp hnj] at e
    have a0 := dg_b (my := my) (i := i) (k := 0) hty hp
    have a1 := dg_b (my := my) (i := i) (k := 1) hty hp
    have a2 := dg_b (my := my) (i := i) (k := 2) hty hp
    have b0 := dg_b (my := my) (i := j) (k := 0) hty hp
    have b1 := dg_b (my := my) (i := j) (k := 1) hty hp
    have b2 := dg_b (my := my) (i := j) (k := 2) hty hp
    have en : (na i).toInt = (na j).toInt := by omega
    have e0 : (dgM my pm i 0).toInt = (dgM my pm j 0).toInt := by omega
    have e1 : (dgM my pm i 1).toInt = (dgM my pm j 1).toInt := by omega
    have e2 : (dgM my pm i 2).toInt = (dgM my pm j 2).toInt := by omega
    have ey : (my i).toInt = (my j).toInt := by omega
    unfold smM smL
    rw [hic, hjc]
    refine ⟨xJ en, xJ ey, fun k _ q => ?_⟩
    rw [ixn (by omega) (by omega), ixn (by omega) (by omega)]
    refine xJ ?_
    have hk : k = 0 ∨ k = 1 ∨ k = 2 := by omega
    rcases hk with e | e | e <;> subst e <;> omega
  · intro h
    unfold smM smL at h
    rw [hic, hjc] at h
    obtain ⟨h1, h2, h3⟩ := h
    have hd : ∀ k : Nat, k < 3 → dgM my pm i k = dgM my pm j k := by
      intro k hk
      unfold dgM
      rw [← h2]
      by_cases q : k < (my i).toNatClampNeg
      · have := h3 k (Nat.zero_le k) (by omega)
        rw [ixn (by omega) (by omega), ixn (by omega) (by omega)] at this
        rw [if_pos q, if_pos q, this]
      · rw [if_neg q, if_neg q]
    unfold sgM
    rw [h1, hd 0 (by omega), hd 1 (by omega), hd 2 (by omega)]
