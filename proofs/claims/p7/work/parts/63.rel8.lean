/-! things, the ring, what was made stays -/
theorem kd_new {ty tn t : Int32} {tt : Nat → Int32} (hn : 0 ≤ tn.toInt ∧ tn.toInt ≤ 60) (h6 : tn.toInt < 60) (h : ∀ i : Nat, 1 ≤ i → (i : Int) ≤ tn.toInt → kdT ty (tt i)) (hk : kdT ty t) : ∀ i : Nat, 1 ≤ i → (i : Int) ≤ (tn + 1).toInt → kdT ty (upd tt (tn + 1).toNatClampNeg t i) := fun i q1 q2 => by
  have e : (tn + 1).toInt = tn.toInt + 1 := iAdd rfl (by decide) (by omega) (by omega)
  have hx := xN (x := tn + 1) (by omega)
  by_cases ei : i = (tn + 1).toNatClampNeg
  · rw [ei, updS]; exact hk
  · rw [updN ei]; exact h i q1 (by omega)
theorem i50 {a i : Int32} {A I : Nat} (ha : a.toInt = (A : Int)) (hi : i.toInt = (I : Int)) (hA : A < 1000) (hI : I < 1000) : ((a + i) - (a + i) / 50 * 50).toNatClampNeg = (A + I) % 50 := by
  have e50 : (50 : Int32).toInt = 50 := by decide
  have e0 : (a + i).toInt = (A : Int) + (I : Int) := iAdd ha hi (by omega) (by omega)
  have e1 : ((a + i) / 50).toInt = ((A : Int) + (I : Int)) / 50 := by
    rw [Int32.toInt_div, e50, e0, Int.tdiv_eq_ediv_of_nonneg (by omega)]
    exact Int.bmod_eq_of_le (by omega) (by omega)
  have e2 : ((a + i) / 50 * 50).toInt = ((A : Int) + (I : Int)) / 50 * 50 := iMul e1 e50 (by omega) (by omega)
  have e3 := iSub (a := a + i) (b := (a + i) / 50 * 50) e0 e2 (by omega) (by omega)
  refine tN ?_
  rw [e3]
  omega
theorem rk_1 {ke tc : Nat → Int32} {ol kn v : Int32} (ho : 0 ≤ ol.toInt ∧ ol.toInt < 50) (hk : 0 ≤ kn.toInt ∧ kn.toInt < 50) (h : ∀ i : Nat, (i : Int) < kn.toInt → ke ((ol + nI i) - (ol + nI i) / 50 * 50).toNatClampNeg = tc i) : ∀ i : Nat, (i : Int) < (kn + 1).toInt → upd ke ((ol + kn) - (ol + kn) / 50 * 50).toNatClampNeg v ((ol + nI i) - (ol + nI i) / 50 * 50).toNatClampNeg = upd tc kn.toNatClampNeg v i := fun i q => by
  have e : (kn + 1).toInt = kn.toInt + 1 := iAdd rfl (by decide) (by omega) (by omega)
  have ha := xN ho.1
  have hb := xN hk.1
  have e1 := i50 (a := ol) (i := kn) (A := ol.toNatClampNeg) (I := kn.toNatClampNeg) ha.symm hb.symm (by omega) (by omega)
  have e2 := i50 (a := ol) (i := nI i) (A := ol.toNatClampNeg) (I := i) ha.symm (nI_toInt (by omega)) (by omega) (by omega)
  by_cases ei : i = kn.toNatClampNeg
  · rw [ei, updS, nI_self hk.1, updS]
  · have hi := h i (by omega)
    rw [updN ei, updN (by rw [e1, e2]; omega)]
    exact hi
theorem rk_2 {ke tc : Nat → Int32} {ol kn v : Int32} (ho : 0 ≤ ol.toInt ∧ ol.toInt < 50) (hk : kn.toInt = 50) (h : ∀ i : Nat, (i : Int) < kn.toInt → ke ((ol + nI i) - (ol + nI i) / 50 * 50).toNatClampNeg = tc i) : ∀ i : Nat, (i : Int) < (kn - 1 + 1).toInt → upd ke ((ol + kn) - (ol + kn) / 50 * 50).toNatClampNeg v ((((ol + 1) - (ol + 1) / 50 * 50) + nI i) - (((ol + 1) - (ol + 1) / 50 * 50) + nI i) / 50 * 50).toNatClampNeg = upd (shT tc) (kn - 1).toNatClampNeg v i := fun i q => by
  have e0 : (kn - 1).toInt = 49 := by rw [iSub (x := 50) (y := 1) hk (by decide) (by omega) (by omega)]; rfl
  have e : (kn - 1 + 1).toInt = 50 := by rw [iAdd (x := 49) (y := 1) e0 (by decide) (by omega) (by omega)]; rfl
  have ha := xN ho.1
  have e1 := i50 (a := ol) (i := kn) (A := ol.toNatClampNeg) (I := 50) ha.symm hk (by omega) (by omega)
  have eo := i50 (a := ol) (i := 1) (A := ol.toNatClampNeg) (I := 1) ha.symm (by decide) (by omega) (by omega)
  have er := rem50 (x := ol + 1) (by rw [iAdd (x := ol.toInt) (y := 1) rfl (by decide) (by omega) (by omega)]; omega)
  have hx := xN er.1
  have e2 := i50 (a := (ol + 1) - (ol + 1) / 50 * 50) (i := nI i) (A := (ol.toNatClampNeg + 1) % 50) (I := i) (by rw [← eo]; exact hx.symm) (nI_toInt (by omega)) (by omega) (by omega)
  have ek : (kn - 1).toNatClampNeg = 49 := tN e0
  rw [e1, e2, ek]
  by_cases ei : i = 49
  · rw [ei, updS]
    have : (ol.toNatClampNeg + 50) % 50 = ((ol.toNatClampNeg + 1) % 50 + 49) % 50 := by omega
    rw [this, updS]
  · rw [updN ei, updN (by omega)]
    unfold shT
    rw [if_pos (by omega)]
    have hi := h (i + 1) (by omega)
    have e3 := i50 (a := ol) (i := nI (i + 1)) (A := ol.toNatClampNeg) (I := i + 1) ha.symm (nI_toInt (by omega)) (by omega) (by omega)
    rw [e3] at hi
    rw [← hi]
    congr 1
    omega
/-- references that were made stay -/
theorem rfF_c {fo rt rm : Nat → Int32} {o t w mn : Int32} {dyn : pm_H} {j i : Nat} (e : i ≠ mn.toNatClampNeg) (h : rfF fo rt rm dyn j i) : rfF (upd fo mn.toNatClampNeg o) (upd rt mn.toNatClampNeg t) (upd rm mn.toNatClampNeg w) dyn j i := by
  unfold rfF rnF at h ⊢
  rw [updN e, updN e, updN e]
  exact h
/-- faces that were made stay -/
theorem fcF_c {dFy dFa dFr to : Nat → Int32} {r mn tm : Int32} {dyn : pm_H} {j i : Nat} (hi : i < mn.toNatClampNeg) (h : fcF dFy dFa dFr dyn j i) : fcF (upd dFy mn.toNatClampNeg tm) (cpF dFa to mn tm) (upd dFr mn.toNatClampNeg r) dyn j i := by
  obtain ⟨p, h2, h3, h4⟩ := h
  have e : i ≠ mn.toNatClampNeg := by omega
  refine ⟨p, ?_, ?_, ?_⟩
  · rw [updN e]; exact h2
  · rw [updN e, cut_c (my := dFy) (pm := dFa) (updN e) (fun k q => cp_old hi q) h4]; exact h3
  · rw [updN e]; exact h4
theorem vlF_ap {dFo dRt dRm dFy dFa dFr dOt dNa dRe dMa dMy dPm dVr dVf dVc dVb dVp dVo : Nat → Int32} {dVm : Nat → Option Nat} {mn : Int32} {al : Nat → Option Nat} {dyn : pm_H} (e : pm_H) (h : vlF dFo dRt dRm dFy dFa dFr dOt dNa dRe dMa dMy dPm dVr dVf dVc dVb dVp dVo dVm mn al dyn) : vlF dFo dRt dRm dFy dFa dFr dOt dNa dRe dMa dMy dPm dVr dVf dVc dVb dVp dVo dVm mn al (dyn ++ e) := fun i q => by
  obtain ⟨j, r, f, mv, q1, q2⟩ := h i q
  exact ⟨j, r, f, mv, q1, vuF_ap e q2⟩
theorem vlF_r {dFo dRt dRm dFy dFa dFr dOt dNa dRe dMa dMy dPm dVr dVf dVc dVb dVp dVo : Nat → Int32} {dVm : Nat → Option Nat} {mn rn o t w : Int32} {al : Nat → Option Nat} {dyn : pm_H} (hb : ∀ i : Nat, (i : Int) < mn.toInt → 0 ≤ (dVr i).toInt ∧ (dVr i).toInt < rn.toInt) (h : vlF dFo dRt dRm dFy dFa dFr dOt dNa dRe dMa dMy dPm dVr dVf dVc dVb dVp dVo dVm mn al dyn) : vlF (upd dFo rn.toNatClampNeg o) (upd dRt rn.toNatClampNeg t) (upd dRm rn.toNatClampNeg w) dFy dFa dFr dOt dNa dRe dMa dMy dPm dVr dVf dVc dVb dVp dVo dVm mn al dyn := fun i q => by
  obtain ⟨j, r, f, mv, q1, q2, q3, q4⟩ := h i q
  have hx := hb i q
  have k1 := xN hx.1
  have k2 := xN (x := rn) (by omega)
  exact ⟨j, r, f, mv, q1, q2, rfF_c (by omega) q3, q4⟩
theorem vlF_f {dFo dRt dRm dFy dFa dFr dOt dNa dRe dMa dMy dPm dVr dVf dVc dVb dVp dVo to : Nat → Int32} {dVm : Nat → Option Nat} {mn fn tm x : Int32} {al : Nat → Option Nat} {dyn : pm_H} (hb : ∀ i : Nat, (i : Int) < mn.toInt → 0 ≤ (dVf i).toInt ∧ (dVf i).toInt < fn.toInt) (h : vlF dFo dRt dRm dFy dFa dFr dOt dNa dRe dMa dMy dPm dVr dVf dVc dVb dVp dVo dVm mn al dyn) : vlF dFo dRt dRm (upd dFy fn.toNatClampNeg tm) (cpF dFa to fn tm) (upd dFr fn.toNatClampNeg x) dOt dNa dRe dMa dMy dPm dVr dVf dVc dVb dVp dVo dVm mn al dyn := fun i q => by
  obtain ⟨j, r, f, mv, q1, q2, q3, q4, q5⟩ := h i q
  have hx := hb i q
  have k1 := xN hx.1
  have k2 := xN (x := fn) (by omega)
  exact ⟨j, r, f, mv, q1, q2, q3, fcF_c (by omega) q4, q5⟩
/-! one search alone -/
theorem lk_1 {up xpa pa ot na re ma my pm fy fa fr : Nat → Int32} {ty mn fo t w f wh p r : Int32} {ha nm : Nat → Int64} {St Ab Va : Int64} {f9 p9 : Int32} {t9 : Int64} {o9 : Option Nat} (hR : mmR up xpa pa ty ot na re ma my pm mn ha nm St Ab Va) (hF : fcR ty fy fa fr f) (hf : rfR ty fo t w) (k4 : fo.toInt ≠ 4) (hw : wh.toInt = 1) (h : rsX up ma my pm (nmX ha nm (tsX xpa ty fo t) (rwF fo w)) (tsX xpa ty fo t) (fy f.toNatClampNeg).toNatClampNeg (cutF fy fa f.toNatClampNeg) mn 0 f9 t9 p9 o9) (k : lkS pa ot na my pm ma fa fy mn fo t w f wh p r) : p9 = p ∧ anX o9 t9 = r := by
  obtain ⟨tb, t2, t3⟩ := ts_b hR.2.2.1 hf k4
  obtain ⟨s1, _⟩ := r1_x hR hF tb (rw_b hf k4) h
  have e1 : fo.toInt = 3 → rwF fo w = 6 := fun q => by unfold rwF; rw [if_pos q]
  have e2 : fo.toInt ≠ 3 → rwF fo w = w := fun q => by unfold rwF; rw [if_neg q]
  rcases k with ⟨k3, k⟩ | ⟨_, q, _⟩ | ⟨k2, _, k⟩ | ⟨k3, k2, _, k⟩
  · rw [t3 (by omega), e1 k3] at s1
    exact sr_d s1 k
  · omega
  · rw [t2 k2, e2 (by omega)] at s1
    exact sr_d s1 k
  · rw [t3 k2, e2 k3] at s1
    exact sr_d s1 k
theorem lk_2 {up xpa pa ot na re ma my pm fy fa fr : Nat → Int32} {ty mn fo t w f wh p r : Int32} {ha nm : Nat → Int64} {St Ab Va : Int64} {f9 p9 : Int32} {t9 : Int64} {o9 : Option Nat} (hR : mmR up xpa pa ty ot na re ma my pm mn ha nm St Ab Va) (hF : fcR ty fy fa fr f) (hf : rfR ty fo t w) (k0 : fo.toInt = 0) (hw : wh.toInt = 2) (h : rsX up ma my pm (nmX ha nm t (rwF fo w)) t (fy f.toNatClampNeg).toNatClampNeg (cutF fy fa f.toNatClampNeg) mn 1 f9 t9 p9 o9) (k : lkS pa ot na my pm ma fa fy mn fo t w f wh p r) : p9 = p ∧ anX o9 t9 = r := by
  obtain ⟨s1, _⟩ := r2_x hR hF (hf.2.1 (by omega)) (rw_b hf (by omega)) h
  have e2 : rwF fo w = w := by unfold rwF; rw [if_neg (by omega)]
  rw [e2] at s1
  rcases k with ⟨k3, _⟩ | ⟨_, _, k⟩ | ⟨_, q, _⟩ | ⟨_, _, q, _⟩
  · omega
  · exact s2_d s1 k
  · exact absurd hw q
  · exact absurd hw q
/-- when a maker's search is refused -/
theorem sf_x {up xpa pa ot na re ma my pm : Nat → Int32} {ty mn t : Int32} {ha nm : Nat → Int64} {St Ab Va : Int64} (hR : mmR up xpa pa ty ot na re ma my pm mn ha nm St Ab Va) (ht : 0 ≤ t.toInt ∧ t.toInt < ty.toInt) : (hbX ha nm t &&& Ab ≠ 0 ∨ nmX ha nm t 6 = 0) ↔ (opL pa ot na my pm ma mn t 0 ∨ ¬ mkE ot na mn t 0) := by
  obtain ⟨hU, hd, hP, hS, hX, hK, hB, hH, hN, hSt, hAb, hVa⟩ := hR
  exact or_congr (op_x hS.1 hS.2.1.2 hH hN hAb (Or.inl ht)) (Classical.not_not.symm.trans (not_congr (mk_x hS.1 hS.2.1.2 hH hN ht)))
/-! what is found is a member that is there -/
theorem sb_1 {up xpa pa ot na re ma my pm fy fa fr : Nat → Int32} {ty mn fo t w f : Int32} {ha nm : Nat → Int64} {St Ab Va : Int64} {f9 p9 : Int32} {t9 : Int64} {o9 : Option Nat} (hR : mmR up xpa pa ty ot na re ma my pm mn ha nm St Ab Va) (hF : fcR ty fy fa fr f) (hf : rfR ty fo t w) (k4 : fo.toInt ≠ 4) (h : rsX up ma my pm (nmX ha nm (tsX xpa ty fo t) (rwF fo w)) (tsX xpa ty fo t) (fy f.toNatClampNeg).toNatClampNeg (cutF fy fa f.toNatClampNeg) mn 0 f9 t9 p9 o9) : ∀ c : Nat, o9 = some c → (c : Int) < mn.toInt := fun c q => by
  obtain ⟨tb, _, _⟩ := ts_b hR.2.2.1 hf k4
  exact ((r1_x hR hF tb (rw_b hf k4) h).2.2.2 c q).1
theorem sb_2 {up xpa pa ot na re ma my pm fy fa fr : Nat → Int32} {ty mn fo t w f : Int32} {ha nm : Nat → Int64} {St Ab Va : Int64} {f9 p9 : Int32} {t9 : Int64} {o9 : Option Nat} (hR : mmR up xpa pa ty ot na re ma my pm mn ha nm St Ab Va) (hF : fcR ty fy fa fr f) (hf : rfR ty fo t w) (k0 : fo.toInt = 0) (h : rsX up ma my pm (nmX ha nm t (rwF fo w)) t (fy f.toNatClampNeg).toNatClampNeg (cutF fy fa f.toNatClampNeg) mn 1 f9 t9 p9 o9) : ∀ c : Nat, o9 = some c → (c : Int) < mn.toInt := fun c q => ((r2_x hR hF (hf.2.1 (by omega)) (rw_b hf (by omega)) h).2.2.2 c q).1
theorem fo_b {up xpa pa ot na re ma my pm fy fa fr : Nat → Int32} {ty mn fo t w f : Int32} {ha nm : Nat → Int64} {St Ab Va : Int64} {f1 p1 f2 p2 : Int32} {T U : Int64} {o1 o2 o19 o29 : Option Nat} {b9 : Value} {s9 r9 : Int32} (hR : mmR up xpa pa ty ot na re ma my pm mn ha nm St Ab Va) (hF : fcR ty fy fa fr f) (hf : rfR ty fo t w) (h : fiX up xpa re ma my pm St Ab ha nm ty mn (fy f.toNatClampNeg).toNatClampNeg (cutF fy fa f.toNatClampNeg) fo t (rwF fo w) (fr f.toNatClampNeg) f1 T p1 o19 f2 U p2 o29 b9 s9 r9) (b1 : fo.toInt = 4 → o19 = o1) (b2 : fo.toInt ≠ 0 → o29 = o2) (k1 : ∀ b : Nat, o1 = some b → (b : Int) < mn.toInt) (k2 : ∀ b : Nat, o2 = some b → (b : Int) < mn.toInt) : (∀ b : Nat, o19 = some b → (b : Int) < mn.toInt) ∧ (∀ b : Nat, o29 = some b → (b : Int) < mn.toInt) := by
  constructor
  · intro b q
    by_cases e : fo.toInt = 4
    · exact k1 b (by rw [← b1 e]; exact q)
    · exact sb_1 hR hF hf e (h.1 e) b q
  · intro b q
    by_cases e : fo.toInt = 0
    · exact sb_2 hR hF hf e (h.2.1 e) b q
    · exact k2 b (by rw [← b2 e]; exact q)
