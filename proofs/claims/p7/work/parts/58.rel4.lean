/-! what a reference means is the same -/
/-- a maker is neither static nor abstract -/
def mkS (na ma : Nat → Int32) (mn : Int32) : Prop := ∀ j : Nat, (j : Int) < mn.toInt → (na j).toInt = 6 → (ma j &&& 1).toInt = 0 ∧ (ma j &&& 2).toInt = 0
/-- what holds of types, members, their sets -/
def mmR (up xpa pa : Nat → Int32) (ty : Int32) (ot na re ma my pm : Nat → Int32) (mn : Int32) (ha nm : Nat → Int64) (St Ab Va : Int64) : Prop := upR up pa ty ∧ paD pa ∧ (∀ k : Nat, 1 ≤ k → (k : Int) < ty.toInt → xpa k = pa k ∧ 0 ≤ (pa k).toInt ∧ (pa k).toInt < ty.toInt) ∧ mbS ty ma my pm mn ∧ mbX ty ot na re my pm mn ∧ mkS na ma mn ∧ mbD ot na re mn ∧ hbR ha pa ot na my pm ty mn ∧ nmR nm na mn ∧ stR St ma 1 mn ∧ stR Ab ma 2 mn ∧ stR Va ma 4 mn
/-- what holds of a face -/
def fcR (ty : Int32) (fy fa fr : Nat → Int32) (f : Int32) : Prop := (0 ≤ f.toInt ∧ f.toInt < 10) ∧ (0 ≤ (fy f.toNatClampNeg).toInt ∧ (fy f.toNatClampNeg).toInt ≤ 3) ∧ (∀ i : Nat, plT ty (fa i)) ∧ anyT ty (fr f.toNatClampNeg)
/-- what holds of a reference: form, type, name -/
def rfR (ty fo t w : Int32) : Prop := (0 ≤ fo.toInt ∧ fo.toInt ≤ 4) ∧ (fo.toInt ≠ 4 → 0 ≤ t.toInt ∧ t.toInt < ty.toInt) ∧ (fo.toInt = 4 → (0 ≤ t.toInt ∧ t.toInt < ty.toInt) ∨ t.toInt = 10) ∧ (fo.toInt = 2 → t.toInt ≠ 0) ∧ (fo.toInt ≤ 2 → 0 ≤ w.toInt ∧ w.toInt ≤ 5)
def rwF (fo w : Int32) : Int32 := if fo.toInt = 3 then 6 else w
theorem rw_b {ty fo t w : Int32} (h : rfR ty fo t w) (h4 : fo.toInt ≠ 4) : 0 ≤ (rwF fo w).toInt ∧ (rwF fo w).toInt ≤ 6 := by
  obtain ⟨h1, _, _, _, h5⟩ := h
  have z6 : (6 : Int32).toInt = 6 := by decide
  unfold rwF
  split
  · omega
  · have := h5 (by omega)
    omega
theorem ts_b {xpa pa : Nat → Int32} {ty fo t w : Int32} (hP : ∀ k : Nat, 1 ≤ k → (k : Int) < ty.toInt → xpa k = pa k ∧ 0 ≤ (pa k).toInt ∧ (pa k).toInt < ty.toInt) (h : rfR ty fo t w) (h4 : fo.toInt ≠ 4) : (0 ≤ (tsX xpa ty fo t).toInt ∧ (tsX xpa ty fo t).toInt < ty.toInt) ∧ (fo.toInt = 2 → tsX xpa ty fo t = pa t.toNatClampNeg) ∧ (fo.toInt ≠ 2 → tsX xpa ty fo t = t) := by
  obtain ⟨h1, h2, _, h3, _⟩ := h
  have ht := h2 h4
  by_cases q : fo.toInt = 2
  · have hx := xN ht.1
    have := hP t.toNatClampNeg (by have := h3 q; omega) (by omega)
    rw [ts_1 q ht, this.1]
    exact ⟨this.2, fun _ => rfl, fun w => absurd q w⟩
  · rw [ts_3 q]
    exact ⟨ht, fun w => absurd w q, fun _ => rfl⟩
/-- the first search -/
theorem r1_x {up xpa pa ot na re ma my pm fy fa fr : Nat → Int32} {ty mn t w f : Int32} {ha nm : Nat → Int64} {St Ab Va : Int64} {f9 p9 : Int32} {t9 : Int64} {o9 : Option Nat} (hR : mmR up xpa pa ty ot na re ma my pm mn ha nm St Ab Va) (hF : fcR ty fy fa fr f) (ht : 0 ≤ t.toInt ∧ t.toInt < ty.toInt) (hw : 0 ≤ w.toInt ∧ w.toInt ≤ 6) (h : rsX up ma my pm (nmX ha nm t w) t (fy f.toNatClampNeg).toNatClampNeg (cutF fy fa f.toNatClampNeg) mn 0 f9 t9 p9 o9) :
    srM pa ot na my pm ma fa fy mn t w f 0 p9 (anX o9 t9) ∧ (∀ j : Nat, j < 64 → (bl t9 j = true ↔ ((j : Int) < mn.toInt ∧ p9.toInt ≠ 0 ∧ fitM pa ot na my pm ma fa fy mn t w f 0 p9 j))) ∧ (t9 = 0 ↔ p9.toInt = 0) ∧ (∀ c : Nat, o9 = some c → (c : Int) < mn.toInt ∧ bl t9 c = true) := by
  have z0 : (0 : Int32).toInt = 0 := by decide
  obtain ⟨hU, hd, hP, hS, hX, hK, hB, hH, hN, _⟩ := hR
  obtain ⟨hf, hfy, hA, _⟩ := hF
  rcases h with ⟨⟨q, _⟩, _⟩ | ⟨_, q2, q3, q4⟩
  · exact absurd z0 q
  · rcases q2 with ⟨q, _⟩ | ⟨_, q⟩
    · exact absurd z0 q
    · subst q
      exact sr_x hU hS hA hf hfy (Or.inl rfl) (by omega) (ns_x hS.1 hS.2.1.2 hH hN (Or.inl ht) hw) q3 q4
/-- the second one -/
theorem r2_x {up xpa pa ot na re ma my pm fy fa fr : Nat → Int32} {ty mn t w f : Int32} {ha nm : Nat → Int64} {St Ab Va : Int64} {f9 p9 : Int32} {t9 : Int64} {o9 : Option Nat} (hR : mmR up xpa pa ty ot na re ma my pm mn ha nm St Ab Va) (hF : fcR ty fy fa fr f) (ht : 0 ≤ t.toInt ∧ t.toInt < ty.toInt) (hw : 0 ≤ w.toInt ∧ w.toInt ≤ 6) (h : rsX up ma my pm (nmX ha nm t w) t (fy f.toNatClampNeg).toNatClampNeg (cutF fy fa f.toNatClampNeg) mn 1 f9 t9 p9 o9) :
    s2M pa ot na my pm ma fa fy mn t w f p9 (anX o9 t9) ∧ (∀ j : Nat, j < 64 → (bl t9 j = true ↔ ((j : Int) < mn.toInt ∧ c2M pa fa fy t f ∧ p9.toInt ≠ 0 ∧ fitM pa ot na my pm ma fa fy mn t w f 1 p9 j))) ∧ (t9 = 0 ↔ p9.toInt = 0) ∧ (∀ c : Nat, o9 = some c → (c : Int) < mn.toInt ∧ bl t9 c = true) := by
  have z1 : (1 : Int32).toInt = 1 := by decide
  have z0 : (0 : Int32).toInt = 0 := by decide
  obtain ⟨hU, hd, hP, hS, hX, hK, hB, hH, hN, _⟩ := hR
  obtain ⟨hf, hfy, hA, _⟩ := hF
  have hfx := xN hfy.1
  have hff := xN hf.1
  have e0 : (3 * f).toNatClampNeg = 3 * f.toNatClampNeg := by
    have : (3 * f).toInt = 3 * f.toInt := iMul (by decide) rfl (by omega) (by omega)
    exact tN (by omega)
  have hC : ((fy f.toNatClampNeg).toNatClampNeg = 0 ∨ ¬ xU up (cutF fy fa f.toNatClampNeg 0) t) ↔ ¬ c2M pa fa fy t f := by
    unfold c2M
    by_cases q : (fy f.toNatClampNeg).toNatClampNeg = 0
    · exact ⟨fun _ w => w.1 (by omega), fun _ => Or.inl q⟩
    · have ec : cutF fy fa f.toNatClampNeg 0 = fa (3 * f).toNatClampNeg := by rw [cut_at (by omega), e0]; rfl
      rw [ec, hU.2 _ _ (pl_any (hA _)) (by have := hS.1; omega)]
      constructor
      · rintro (w | w) z
        · exact q w
        · exact w z.2
      · intro w
        exact Or.inr (fun z => w ⟨by omega, z⟩)
  rcases h with ⟨⟨_, q⟩, _, q2, q3, q4⟩ | ⟨q1, q2, q3, q4⟩
  · have hn := hC.mp q
    subst q2; subst q3; subst q4
    refine ⟨Or.inr ⟨hn, rfl, an_2 rfl rfl⟩, fun j _ => ?_, ⟨fun _ => z0, fun _ => rfl⟩, fun c hc => by cases hc⟩
    rw [l_0]
    exact ⟨fun z => (by cases z), fun z => absurd z.2.1 hn⟩
  · have hy : c2M pa fa fy t f := Classical.byContradiction (fun w => q1 ⟨by omega, hC.mpr w⟩)
    rcases q2 with ⟨_, q⟩ | ⟨q, _⟩
    · subst q
      obtain ⟨a1, a2, a3, a4⟩ := sr_x hU hS hA hf hfy (Or.inr rfl) (by have := hy.1; omega) (ns_x hS.1 hS.2.1.2 hH hN (Or.inl ht) hw) q3 q4
      exact ⟨Or.inl ⟨hy, a1⟩, fun j q => (a2 j q).trans ⟨fun z => ⟨z.1, hy, z.2⟩, fun z => ⟨z.1, z.2.2⟩⟩, a3, a4⟩
    · omega
/-- the answer of a search, and what it is not -/
theorem an_b {o : Option Nat} {T : Int64} {p mn : Int32} (hmn : mn.toInt ≤ 40) (hT : T = 0 ↔ p.toInt = 0) (hc : ∀ c : Nat, o = some c → (c : Int) < mn.toInt ∧ bl T c = true) : (o = none ∧ T = 0 ∧ p.toInt = 0 ∧ anX o T = -4) ∨ (o = none ∧ T ≠ 0 ∧ p.toInt ≠ 0 ∧ anX o T = -5) ∨ ∃ c : Nat, o = some c ∧ (c : Int) < mn.toInt ∧ T ≠ 0 ∧ p.toInt ≠ 0 ∧ anX o T = nI c ∧ (nI c).toInt = (c : Int) ∧ (nI c).toNatClampNeg = c := by
  cases o with
  | none =>
    by_cases q : T = 0
    · exact Or.inl ⟨rfl, q, hT.mp q, an_2 rfl q⟩
    · exact Or.inr (Or.inl ⟨rfl, q, fun w => q (hT.mpr w), an_3 rfl q⟩)
  | some c =>
    obtain ⟨h1, h2⟩ := hc c rfl
    have hz : T ≠ 0 := fun q => by rw [q, l_0] at h2; cases h2
    exact Or.inr (Or.inr ⟨c, rfl, h1, hz, fun w => hz (hT.mpr w), an_1 rfl, nI_toInt (by omega), nI_c (by omega)⟩)
/-- what is asked of the meaning: the reference's mnM, and what the class holds -/
def miR (pa ot na re my pm ma fa fy : Nat → Int32) (mn fo t w f : Int32) (s9 : Int32) (o : Option Nat) (ph : Int32) (r : Int32) : Prop := ∃ sc mp r1 : Int32, mnM pa ot na my pm ma fa fy mn fo t w f sc mp r1 ∧ ((r.toInt ≠ 0 ∧ r1 = -10 - r) ∨ (r.toInt = 0 ∧ 0 ≤ r1.toInt ∧ sc = s9 ∧ wcX re fo t o = cmM re fo t r1 ∧ ((o = none ∧ r1 = 99) ∨ ∃ c : Nat, o = some c ∧ r1 = nI c ∧ (c : Int) < mn.toInt ∧ mp = ph)))
theorem mi_x {up xpa pa ot na re ma my pm fy fa fr : Nat → Int32} {ty mn fo t w f : Int32} {ha nm : Nat → Int64} {St Ab Va : Int64} {f1 p1 f2 p2 : Int32} {T U : Int64} {o1 o2 : Option Nat} {b9 : Value} {s9 r : Int32} (hR : mmR up xpa pa ty ot na re ma my pm mn ha nm St Ab Va) (hF : fcR ty fy fa fr f) (hf : rfR ty fo t w)
    (h1 : fo.toInt ≠ 4 → rsX up ma my pm (nmX ha nm (tsX xpa ty fo t) (rwF fo w)) (tsX xpa ty fo t) (fy f.toNatClampNeg).toNatClampNeg (cutF fy fa f.toNatClampNeg) mn 0 f1 T p1 o1) (h2 : fo.toInt = 0 → rsX up ma my pm (nmX ha nm t (rwF fo w)) t (fy f.toNatClampNeg).toNatClampNeg (cutF fy fa f.toNatClampNeg) mn 1 f2 U p2 o2)
    (h3 : faX up ma St Ab ha nm (fy f.toNatClampNeg).toNatClampNeg (cutF fy fa f.toNatClampNeg) fo t T U o1 o2 .null 0 b9 s9 r) : miR pa ot na re my pm ma fa fy mn fo t w f s9 (meO b9 o1 o2) (mePh b9 p1 p2) r := by
  have z0 : (0 : Int32).toInt = 0 := by decide
  have z1 : (1 : Int32).toInt = 1 := by decide
  have z2 : (2 : Int32).toInt = 2 := by decide
  have z3 : (3 : Int32).toInt = 3 := by decide
  have z4 : (4 : Int32).toInt = 4 := by decide
  have z5 : (-5 : Int32).toInt = -5 := by decide
  have zm : (-4 : Int32).toInt = -4 := by decide
  have z99 : (99 : Int32).toInt = 99 := by decide
  have d1 : (-10 - 1 : Int32) = -11 := by decide
  have d2 : (-10 - 2 : Int32) = -12 := by decide
  have d3 : (-10 - 3 : Int32) = -13 := by decide
  have d4 : (-10 - 4 : Int32) = -14 := by decide
  have hR0 := hR
  obtain ⟨hU, hd, hP, hS, hX, hK, hB, hH, hN, hSt, hAb, hVa⟩ := hR
  have hmn := hS.2.1
  have hty := hS.1
  have hF0 := hF
  obtain ⟨hff, hfy, hA, hfr⟩ := hF
  have hfx := xN hfy.1
  obtain ⟨g1, g2, g3, g4, g5⟩ := hf
  have hfxf := xN hff.1
  have e0 : (3 * f).toNatClampNeg = 3 * f.toNatClampNeg := by
    have : (3 * f).toInt = 3 * f.toInt := iMul (by decide) rfl (by omega) (by omega)
    exact tN (by omega)
  by_cases k4 : fo.toInt = 4
  · -- rows
    have hL : ((fy f.toNatClampNeg).toNatClampNeg = 1 ∧ xL up (cutF fy fa f.toNatClampNeg 0) 10) ↔ ((fy f.toNatClampNeg).toInt = 1 ∧ lM pa (fa (3 * f).toNatClampNeg) 10) := by
      by_cases q : (fy f.toNatClampNeg).toInt = 1
      · have ec : cutF fy fa f.toNatClampNeg 0 = fa (3 * f).toNatClampNeg := by rw [cut_at (by omega), e0]; rfl
        rw [ec, up_L hU hS.1.1 (pl_any (hA _)) (by decide)]
        exact ⟨fun z => ⟨q, z.2⟩, fun z => ⟨by omega, z.2⟩⟩
      · exact ⟨fun z => by omega, fun z => absurd z.1 q⟩
    rcases h3 with ⟨_, q2, q3, ⟨q4, q5⟩ | ⟨q4, q5⟩⟩ | ⟨q, _⟩ | ⟨q, _⟩ | ⟨q, _⟩ | ⟨q, _⟩
    · subst q2; subst q3; subst q5
      refine ⟨0, 0, 99, Or.inr (Or.inr (Or.inr (Or.inr ⟨by omega, rfl, rfl, Or.inl ⟨hL.mp q4, rfl⟩⟩))), Or.inr ⟨z0, by omega, rfl, ?_, Or.inl ⟨rfl, rfl⟩⟩⟩
      unfold wcX cmM
      rw [if_pos k4, if_pos k4]
    · subst q2; subst q3; subst q5
      exact ⟨0, 0, -11, Or.inr (Or.inr (Or.inr (Or.inr ⟨by omega, rfl, rfl, Or.inr ⟨fun z => q4 (hL.mpr z), rfl⟩⟩))), Or.inl ⟨by omega, d1.symm⟩⟩
    · omega
    · omega
    · omega
    · omega
  · have ht := g2 k4
    have hw := rw_b (w := w) ⟨g1, g2, g3, g4, g5⟩ k4
    obtain ⟨tb, t2, t3⟩ := ts_b hP (w := w) ⟨g1, g2, g3, g4, g5⟩ k4
    obtain ⟨s1, s2, s3, s4⟩ := r1_x hR0 hF0 tb hw (h1 k4)
    have A1 := an_b hmn.2 s3 s4
    -- one search alone
    have one : ∀ (t' w' : Int32), tsX xpa ty fo t = t' → rwF fo w = w' → fo.toInt ≠ 0 → s9 = 0 → ffX ma T o1 fo .null b9 r → (fo.toInt = 3 → (∀ c : Nat, o1 = some c → (ma c &&& 1).toInt = 0)) → ∃ r1 : Int32, oneM pa ot na my pm ma fa fy mn t' w' f p1 r1 ∧ ((r.toInt = 1 ∧ r1 = -11) ∨ (r.toInt = 2 ∧ r1 = -12) ∨ ∃ c : Nat, o1 = some c ∧ (c : Int) < mn.toInt ∧ r1 = nI c ∧ b9 = .ref 10 ∧ ((r.toInt = 3 ∧ (ma c &&& 1).toInt ≠ 0) ∨ (r.toInt = 4 ∧ (ma c &&& 1).toInt = 0 ∧ fo.toInt = 2 ∧ (ma c &&& 2).toInt ≠ 0) ∨ (r.toInt = 0 ∧ (ma c &&& 1).toInt = 0 ∧ ¬ (fo.toInt = 2 ∧ (ma c &&& 2).toInt ≠ 0)))) := by
      intro t' w' et ew _ _ hff2 _
      rw [et, ew] at s1
      rcases A1 with ⟨a1, a2, a3, a4⟩ | ⟨a1, a2, a3, a4⟩ | ⟨c, a1, a2, a3, a4, a5, a6, a7⟩
      · refine ⟨-11, ⟨_, s1, Or.inl ⟨by rw [a4]; exact zm, rfl⟩⟩, Or.inl ⟨?_, rfl⟩⟩
        rcases hff2 with ⟨_, _, ⟨_, q⟩ | ⟨q, _⟩⟩ | ⟨c, q, _⟩
        · rw [q]; exact z1
        · exact absurd a2 q
        · rw [a1] at q; cases q
      · refine ⟨-12, ⟨_, s1, Or.inr (Or.inl ⟨by rw [a4]; exact z5, rfl⟩)⟩, Or.inr (Or.inl ⟨?_, rfl⟩)⟩
        rcases hff2 with ⟨_, _, ⟨q, _⟩ | ⟨_, q⟩⟩ | ⟨c, q, _⟩
        · exact absurd q a2
        · rw [q]; exact z2
        · rw [a1] at q; cases q
      · refine ⟨nI c, ⟨_, s1, Or.inr (Or.inr ⟨by rw [a5]; omega, by rw [a5]; omega, a5.symm⟩)⟩, Or.inr (Or.inr ⟨c, a1, a2, rfl, ?_⟩)⟩
        rcases hff2 with ⟨q, _⟩ | ⟨c', q, q2, q3⟩
        · rw [a1] at q; cases q
        · rw [a1] at q; cases q
          refine ⟨q2, ?_⟩
          rcases q3 with ⟨w1, w2⟩ | ⟨w1, w2, w3⟩ | ⟨w1, w2, w3⟩
          · exact Or.inl ⟨by rw [w2]; exact z3, w1⟩
          · exact Or.inr (Or.inl ⟨by rw [w3]; exact z4, w1, w2⟩)
          · exact Or.inr (Or.inr ⟨by rw [w3]; exact z0, w1, w2⟩)
    have wc : ∀ c : Nat, fo.toInt ≠ 3 → (c : Int) < mn.toInt → wcX re fo t (some c) = cmM re fo t (nI c) := fun c q q2 => by
      rw [wc_4 k4]
      unfold cmM
      rw [if_neg k4, if_neg q, nI_c (by omega)]
    have em : ∀ q : Int32, q.toInt = 1 → q = 1 := fun q h => xJ (by omega)
    rcases h3 with ⟨q, _⟩ | ⟨k3, q1, q2, q3, q4⟩ | ⟨k3, q1, q2, q3, q4, q5⟩ | ⟨_, _, k0, hb⟩ | ⟨_, k3, k0, q1, q2⟩
    · exact absurd q k4
    · -- an open type
      have hop := (op_x hS.1 hmn.2 hH hN hAb (Or.inl ht)).mp q1
      subst q4
      exact ⟨0, 0, -14, Or.inr (Or.inr (Or.inr (Or.inl ⟨k3, rfl, Or.inl ⟨hop, rfl, rfl⟩⟩))), Or.inl ⟨by omega, d4.symm⟩⟩
    · -- no makers
      have hop : ¬ opL pa ot na my pm ma mn t 0 := fun z => (op_x hS.1 hmn.2 hH hN hAb (Or.inl ht)).mpr z q1
      have hmk : ¬ mkE ot na mn t 0 := fun z => (mk_x hS.1 hmn.2 hH hN ht).mpr z q2
      subst q3; subst q4
      rcases q5 with ⟨q5, q6⟩ | ⟨q5, q6⟩
      · subst q6
        refine ⟨0, 0, 99, Or.inr (Or.inr (Or.inr (Or.inl ⟨k3, rfl, Or.inr (Or.inl ⟨hop, hmk, rfl, Or.inl ⟨by omega, rfl⟩⟩)⟩))), Or.inr ⟨z0, by omega, rfl, ?_, Or.inl ⟨rfl, rfl⟩⟩⟩
        show wcX re fo t none = _
        rw [wc_3 k4]
        unfold cmM
        rw [if_neg k4, if_pos k3]
      · subst q6
        exact ⟨0, 0, -11, Or.inr (Or.inr (Or.inr (Or.inl ⟨k3, rfl, Or.inr (Or.inl ⟨hop, hmk, rfl, Or.inr ⟨by omega, rfl⟩⟩)⟩))), Or.inl ⟨by omega, d1.symm⟩⟩
    · -- both searches
      have ew : rwF fo w = w := by unfold rwF; rw [if_neg (by omega)]
      have h2' := h2 k0
      rw [ew] at h2' hw
      obtain ⟨u1, u2, u3, u4⟩ := r2_x hR0 hF0 ht hw h2'
      have A2 := an_b hmn.2 u3 u4
      rw [t3 (by omega), ew] at s1 s2
      have eS : T &&& St ≠ 0 ↔ S1M pa ot na my pm ma fa fy mn t w f p1 := by
        rw [l_nz]
        constructor
        · rintro ⟨i, hi, hh⟩
          rw [l_and, Bool.and_eq_true, s2 i hi, hSt i hi] at hh
          exact ⟨i, hh.1.1, hh.1.2, hh.2.2⟩
        · rintro ⟨i, hi, hh, hs⟩
          exact ⟨i, by omega, by rw [l_and, Bool.and_eq_true, s2 i (by omega), hSt i (by omega)]; exact ⟨⟨hi, hh⟩, hi, hs⟩⟩
      have eA : U &&& (St ^^^ (-1)) = 0 ↔ A2M pa ot na my pm ma fa fy mn t w f p2 := by
        constructor
        · intro z j hj hh
          rcases Classical.em ((ma j &&& 1).toInt ≠ 0) with q | q
          · exact q
          · exfalso
            refine l_nz.mpr ⟨j, by omega, ?_⟩ z
            rw [l_and, l_xor, l_m1 j (by omega), Bool.and_eq_true, u2 j (by omega)]
            refine ⟨⟨hj, hh⟩, ?_⟩
            have : bl St j = false := Bool.eq_false_iff.mpr (fun w => q ((hSt j (by omega)).mp w).2)
            rw [this]; rfl
        · intro z
          rcases Classical.em (U &&& (St ^^^ (-1)) = 0) with q | q
          · exact q
          · obtain ⟨j, hj, hh⟩ := l_nz.mp q
            rw [l_and, l_xor, l_m1 j hj, Bool.and_eq_true, u2 j hj] at hh
            have := (hSt j hj).mpr ⟨hh.1.1, z j hh.1.1 hh.1.2⟩
            rw [this] at hh
            exact absurd hh.2 (by decide)
      have c1 : f1C ma St U o1 ↔ (0 ≤ (anX o1 T).toInt ∧ (ma (anX o1 T).toNatClampNeg &&& 1).toInt ≠ 0 ∧ A2M pa ot na my pm ma fa fy mn t w f p2) := by
        unfold f1C
        rw [← eA]
        rcases A1 with ⟨a1, _, _, a4⟩ | ⟨a1, _, _, a4⟩ | ⟨c, a1, a2, _, _, a5, a6, a7⟩
        · rw [a4]; exact ⟨fun ⟨c, q, _⟩ => (by rw [a1] at q; cases q), fun q => by omega⟩
        · rw [a4]; exact ⟨fun ⟨c, q, _⟩ => (by rw [a1] at q; cases q), fun q => by omega⟩
        · rw [a5, a7]
          constructor
          · rintro ⟨c', q, q2, q3⟩
            rw [a1] at q; cases q
            exact ⟨by omega, q2, q3⟩
          · rintro ⟨_, q2, q3⟩
            exact ⟨c, a1, q2, q3⟩
      have c2 : f2C ma St T o2 ↔ (0 ≤ (anX o2 U).toInt ∧ ¬ (ma (anX o2 U).toNatClampNeg &&& 1).toInt ≠ 0 ∧ ¬ S1M pa ot na my pm ma fa fy mn t w f p1) := by
        unfold f2C
        rw [← eS]
        rcases A2 with ⟨a1, _, _, a4⟩ | ⟨a1, _, _, a4⟩ | ⟨c, a1, a2, _, _, a5, a6, a7⟩
        · rw [a4]; exact ⟨fun ⟨c, q, _⟩ => (by rw [a1] at q; cases q), fun q => by omega⟩
        · rw [a4]; exact ⟨fun ⟨c, q, _⟩ => (by rw [a1] at q; cases q), fun q => by omega⟩
        · rw [a5, a7]
          constructor
          · rintro ⟨c', q, q2, q3⟩
            rw [a1] at q; cases q
            exact ⟨by omega, fun w => w q2, fun w => w q3⟩
          · rintro ⟨_, q2, q3⟩
            exact ⟨c, a1, by omega, Classical.not_not.mp q3⟩
      have bz : ∀ sc mp r1 : Int32, boM ma (S1M pa ot na my pm ma fa fy mn t w f p1) (A2M pa ot na my pm ma fa fy mn t w f p2) p1 (anX o1 T) p2 (anX o2 U) sc mp r1 → mnM pa ot na my pm ma fa fy mn fo t w f sc mp r1 := fun sc mp r1 z => Or.inl ⟨k0, _, _, _, _, s1, u1, z⟩
      rcases hb with ⟨q1, q2, q3, q4⟩ | ⟨q0, q1, q2, q3, q4⟩ | ⟨q0, q1, q2, q3, q4⟩
      · subst q2; subst q3; subst q4
        obtain ⟨c, o, _, _⟩ := id q1
        refine ⟨0, p1, anX o1 T, bz _ _ _ (Or.inl ⟨c1.mp q1, rfl, rfl, rfl⟩), Or.inr ⟨z0, (c1.mp q1).1, rfl, ?_, Or.inr ⟨c, o, an_1 o, (s4 c o).1, rfl⟩⟩⟩
        show wcX re fo t o1 = _
        rw [an_1 o, o]; exact wc c (by omega) (s4 c o).1
      · subst q2; subst q3; subst q4
        obtain ⟨c, o, _, _⟩ := id q1
        refine ⟨1, p2, anX o2 U, bz _ _ _ (Or.inr (Or.inl ⟨fun z => q0 (c1.mpr z), c2.mp q1, rfl, rfl, rfl⟩)), Or.inr ⟨z0, (c2.mp q1).1, rfl, ?_, Or.inr ⟨c, o, an_1 o, (u4 c o).1, rfl⟩⟩⟩
        show wcX re fo t o2 = _
        rw [an_1 o, o]; exact wc c (by omega) (u4 c o).1
      · have n1 := fun z => q0 (c1.mpr z)
        have n2 := fun z => q1 (c2.mpr z)
        rcases q4 with ⟨w1, w2, w3⟩ | ⟨w1, w2, w3⟩ | ⟨w1, w2, w3⟩
        · subst w3
          exact ⟨0, p1, -11, bz _ _ _ (Or.inr (Or.inr (Or.inl ⟨n1, n2, rfl, rfl, ⟨s3.mp w1, u3.mp w2⟩, rfl⟩))), Or.inl ⟨by omega, d1.symm⟩⟩
        · subst w3
          refine ⟨0, p1, -12, bz _ _ _ (Or.inr (Or.inr (Or.inr (Or.inr ⟨n1, n2, rfl, rfl, fun z => w1 ⟨s3.mpr z.1, u3.mpr z.2⟩, ?_, rfl⟩)))), Or.inl ⟨by omega, d2.symm⟩⟩
          rintro ⟨y1, y2⟩
          rcases w2 with y | y
          · exact y1 (eS.mp y)
          · exact y (eA.mpr y2)
        · subst w3
          refine ⟨0, p1, -13, bz _ _ _ (Or.inr (Or.inr (Or.inr (Or.inl ⟨n1, n2, rfl, rfl, fun z => w1 ⟨s3.mpr z.1, u3.mpr z.2⟩, ⟨fun z => w2 (Or.inl (eS.mpr z)), ?_⟩, rfl⟩)))), Or.inl ⟨by omega, d3.symm⟩⟩
          exact eA.mp (Classical.not_not.mp (fun z => w2 (Or.inr z)))
    · -- one search
      have e9 : ∀ c : Nat, b9 = .ref 10 → o1 = some c → meO b9 o1 o2 = some c ∧ mePh b9 p1 p2 = p1 := fun c y1 y2 => ⟨by rw [y1]; exact y2, by rw [y1]; rfl⟩
      by_cases k1 : fo.toInt = 1
      · have ew : rwF fo w = w := by unfold rwF; rw [if_neg (by omega)]
        obtain ⟨r1, y1, y2⟩ := one t w (t3 (by omega)) ew k0 q1 q2 (fun z => by omega)
        rcases y2 with ⟨y3, y4⟩ | ⟨y3, y4⟩ | ⟨c, o, y3, y4, y5, y6⟩
        · refine ⟨0, p1, -11, Or.inr (Or.inl ⟨k1, rfl, r1, y1, Or.inr ⟨fun z => absurd z.1 (by rw [y4]; decide), y4.symm⟩⟩), Or.inl ⟨by omega, ?_⟩⟩
          rw [em r y3]; exact d1.symm
        · refine ⟨0, p1, -12, Or.inr (Or.inl ⟨k1, rfl, r1, y1, Or.inr ⟨fun z => absurd z.1 (by rw [y4]; decide), y4.symm⟩⟩), Or.inl ⟨by omega, ?_⟩⟩
          rw [show r = 2 from xJ (by omega)]; exact d2.symm
        · have hn := nI_toInt (n := c) (by omega)
          have hcc : (nI c).toNatClampNeg = c := nI_c (by omega)
          obtain ⟨e1, e2⟩ := e9 c y5 o
          rcases y6 with ⟨y7, y8⟩ | ⟨y7, y8, y9, _⟩ | ⟨y7, y8, y9⟩
          · refine ⟨0, p1, -13, Or.inr (Or.inl ⟨k1, rfl, r1, y1, Or.inl ⟨⟨by rw [y4]; omega, by rw [y4, hcc]; exact y8⟩, rfl⟩⟩), Or.inl ⟨by omega, ?_⟩⟩
            rw [show r = 3 from xJ (by omega)]; exact d3.symm
          · omega
          · refine ⟨0, p1, nI c, Or.inr (Or.inl ⟨k1, rfl, r1, y1, Or.inr ⟨fun z => by rw [y4, hcc] at z; omega, y4.symm⟩⟩), Or.inr ⟨y7, by omega, q1.symm, ?_, Or.inr ⟨c, e1, rfl, y3, e2.symm⟩⟩⟩
            rw [e1]; exact wc c (by omega) y3
      · by_cases k2 : fo.toInt = 2
        · have ew : rwF fo w = w := by unfold rwF; rw [if_neg (by omega)]
          obtain ⟨r1, y1, y2⟩ := one (pa t.toNatClampNeg) w (t2 k2) ew k0 q1 q2 (fun z => by omega)
          rcases y2 with ⟨y3, y4⟩ | ⟨y3, y4⟩ | ⟨c, o, y3, y4, y5, y6⟩
          · refine ⟨0, p1, -11, Or.inr (Or.inr (Or.inl ⟨k2, rfl, r1, y1, Or.inl ⟨by rw [y4]; decide, y4.symm⟩⟩)), Or.inl ⟨by omega, ?_⟩⟩
            rw [em r y3]; exact d1.symm
          · refine ⟨0, p1, -12, Or.inr (Or.inr (Or.inl ⟨k2, rfl, r1, y1, Or.inl ⟨by rw [y4]; decide, y4.symm⟩⟩)), Or.inl ⟨by omega, ?_⟩⟩
            rw [show r = 2 from xJ (by omega)]; exact d2.symm
          · have hn := nI_toInt (n := c) (by omega)
            have hcc : (nI c).toNatClampNeg = c := nI_c (by omega)
            obtain ⟨e1, e2⟩ := e9 c y5 o
            rcases y6 with ⟨y7, y8⟩ | ⟨y7, y8, y9, y10⟩ | ⟨y7, y8, y9⟩
            · refine ⟨0, p1, -13, Or.inr (Or.inr (Or.inl ⟨k2, rfl, r1, y1, Or.inr (Or.inl ⟨⟨by rw [y4]; omega, by rw [y4, hcc]; exact y8⟩, rfl⟩)⟩)), Or.inl ⟨by omega, ?_⟩⟩
              rw [show r = 3 from xJ (by omega)]; exact d3.symm
            · refine ⟨0, p1, -14, Or.inr (Or.inr (Or.inl ⟨k2, rfl, r1, y1, Or.inr (Or.inr (Or.inl ⟨⟨by rw [y4]; omega, by rw [y4, hcc]; exact y8, by rw [y4, hcc]; exact y10⟩, rfl⟩))⟩)), Or.inl ⟨by omega, ?_⟩⟩
              rw [show r = 4 from xJ (by omega)]; exact d4.symm
            · refine ⟨0, p1, nI c, Or.inr (Or.inr (Or.inl ⟨k2, rfl, r1, y1, Or.inr (Or.inr (Or.inr ⟨⟨by rw [y4]; omega, by rw [y4, hcc]; exact y8, ?_⟩, y4.symm⟩))⟩)), Or.inr ⟨y7, by omega, q1.symm, ?_, Or.inr ⟨c, e1, rfl, y3, e2.symm⟩⟩⟩
              · rw [y4, hcc]; omega
              · rw [e1]; exact wc c (by omega) y3
        · have k33 : fo.toInt = 3 := by omega
          obtain ⟨m1, m2⟩ := k3 k33
          have hop : ¬ opL pa ot na my pm ma mn t 0 := fun z => (op_x hS.1 hmn.2 hH hN hAb (Or.inl ht)).mpr z m1
          have hmk : mkE ot na mn t 0 := (mk_x hS.1 hmn.2 hH hN ht).mp m2
          have ew : rwF fo w = 6 := by unfold rwF; rw [if_pos k33]
          have hfit : ∀ c : Nat, o1 = some c → (na c).toInt = 6 ∧ (ot c).toInt = t.toInt := fun c o => by
            obtain ⟨b1, b2⟩ := s4 c o
            have b3 := ((s2 c (by omega)).mp b2).2.2
            rw [t3 (by omega), ew] at b3
            obtain ⟨b4, b5, _⟩ := b3
            rw [nI_c (by omega)] at b4
            have z6 : (6 : Int32).toInt = 6 := by decide
            refine ⟨by omega, ?_⟩
            unfold hadM at b5
            rw [cM_2 (by omega), nI_c (k := c) (by omega)] at b5
            rcases b5 with ⟨b6, _⟩ | ⟨_, b6, _⟩
            · exact b6
            · omega
          obtain ⟨r1, y1, y2⟩ := one t 6 (t3 (by omega)) ew k0 q1 q2 (fun _ c o => (hK c (s4 c o).1 (hfit c o).1).1)
          have fin : ∀ z : Int32, oneM pa ot na my pm ma fa fy mn t 6 f p1 z → mnM pa ot na my pm ma fa fy mn fo t w f 0 p1 z := fun z y => Or.inr (Or.inr (Or.inr (Or.inl ⟨k33, rfl, Or.inr (Or.inr ⟨hop, hmk, y⟩)⟩)))
          rcases y2 with ⟨y3, y4⟩ | ⟨y3, y4⟩ | ⟨c, o, y3, y4, y5, y6⟩
          · refine ⟨0, p1, r1, fin _ y1, Or.inl ⟨by omega, ?_⟩⟩
            rw [em r y3, y4]; exact d1.symm
          · refine ⟨0, p1, r1, fin _ y1, Or.inl ⟨by omega, ?_⟩⟩
            rw [show r = 2 from xJ (by omega), y4]; exact d2.symm
          · have hn := nI_toInt (n := c) (by omega)
            obtain ⟨e1, e2⟩ := e9 c y5 o
            have ns := (hK c y3 (hfit c o).1).1
            rcases y6 with ⟨y7, y8⟩ | ⟨y7, y8, y9, y10⟩ | ⟨y7, y8, y9⟩
            · exact absurd ns y8
            · omega
            · refine ⟨0, p1, r1, fin _ y1, Or.inr ⟨y7, by rw [y4]; omega, q1.symm, ?_, Or.inr ⟨c, e1, y4, y3, e2.symm⟩⟩⟩
              rw [e1, wc_4 k4]
              unfold cmM
              rw [if_neg k4, if_pos k33, (hB c y3).2 (hfit c o).1]
              exact xJ (hfit c o).2
/-- the whole of it -/
theorem fi_x {up xpa pa ot na re ma my pm fy fa fr : Nat → Int32} {ty mn fo t w f : Int32} {ha nm : Nat → Int64} {St Ab Va : Int64} {f1 p1 f2 p2 : Int32} {T U : Int64} {o1 o2 : Option Nat} {b9 : Value} {s9 r9 : Int32} (hR : mmR up xpa pa ty ot na re ma my pm mn ha nm St Ab Va) (hF : fcR ty fy fa fr f) (hf : rfR ty fo t w) (h : fiX up xpa re ma my pm St Ab ha nm ty mn (fy f.toNatClampNeg).toNatClampNeg (cutF fy fa f.toNatClampNeg) fo t (rwF fo w) (fr f.toNatClampNeg) f1 T p1 o1 f2 U p2 o2 b9 s9 r9) :
    ∃ sc mp : Int32, wmM pa ot na re my pm ma fa fy fr mn fo t w f sc mp r9 ∧ (0 ≤ r9.toInt → sc = s9 ∧ wcX re fo t (meO b9 o1 o2) = cmM re fo t r9 ∧ ((meO b9 o1 o2 = none ∧ r9 = 99) ∨ ∃ c : Nat, meO b9 o1 o2 = some c ∧ r9 = nI c ∧ (c : Int) < mn.toInt ∧ mp = mePh b9 p1 p2)) := by
  obtain ⟨h1, h2, r, h3, h4⟩ := h
  obtain ⟨sc, mp, r1, k1, k2⟩ := mi_x hR hF hf h1 h2 h3
  have hrb := fa_r h3
  obtain ⟨hU, hd, hP, hS, hX, hK, hB, hH, hN, hSt, hAb, hVa⟩ := hR
  have z99 : (99 : Int32).toInt = 99 := by decide
  have z15 : (-15 : Int32).toInt = -15 := by decide
  refine ⟨sc, mp, ?_⟩
  rcases k2 with ⟨a1, a2⟩ | ⟨a1, a2, a3, a4, a5⟩
  · have e : (-10 - r).toInt = -10 - r.toInt := iSub (by decide) rfl (by omega) (by omega)
    rcases h4 with ⟨_, b2⟩ | ⟨b1, _⟩ | ⟨b1, _⟩
    · have e2 : r9 = r1 := b2.trans a2.symm
      exact ⟨⟨r1, k1, Or.inl ⟨by rw [a2]; omega, e2⟩⟩, fun z => by rw [b2] at z; omega⟩
    · exact absurd b1 a1
    · exact absurd b1 a1
  · have ht : anyT ty (cmM re fo t r1) := by
      obtain ⟨g1, g2, g3, g4, g5⟩ := hf
      have hty := hS.1
      have hmn := hS.2.1
      unfold cmM
      by_cases k4 : fo.toInt = 4
      · rw [if_pos k4]
        by_cases k10 : t.toInt = 10
        · rw [if_pos k10]; unfold anyT; have : (30 : Int32).toInt = 30 := by decide
          omega
        · rw [if_neg k10]
          have := g3 k4
          have e : (20 + t).toInt = 20 + t.toInt := iAdd (by decide) rfl (by omega) (by omega)
          unfold anyT; omega
      · rw [if_neg k4]
        by_cases k3 : fo.toInt = 3
        · rw [if_pos k3]; have := g2 k4; unfold anyT; omega
        · rw [if_neg k3]
          rcases a5 with ⟨_, a6⟩ | ⟨c, _, a6, a7, _⟩
          · exfalso
            rw [a6] at k1
            rcases k1 with ⟨y0, p1', r1', p2', r2', y1, y2, y3⟩ | ⟨y0, _, r2', y1, y3⟩ | ⟨y0, _, r2', y1, y3⟩ | ⟨y0, _⟩ | ⟨y0, _⟩
            · have b1 := (srM_b (by omega) y1).1
              have b2 : -5 ≤ r2'.toInt ∧ r2'.toInt < 99 := by
                rcases y2 with ⟨_, y2⟩ | ⟨_, _, y2⟩
                · have := (srM_b (by omega) y2).1; omega
                · rw [y2]; decide
              rcases y3 with ⟨_, y4, _⟩ | ⟨_, _, y4, _⟩ | ⟨_, _, _, _, _, y4⟩ | ⟨_, _, _, _, _, _, y4⟩ | ⟨_, _, _, _, _, _, y4⟩ <;> have := congrArg Int32.toInt y4 <;> first | omega | (rw [z99] at this; exact absurd this (by decide))
            · obtain ⟨r3, y5, y6⟩ := y1
              have b1 := (srM_b (by omega) y5).1
              have b2 : r2'.toInt < 99 := by rcases y6 with ⟨_, y⟩ | ⟨_, y⟩ | ⟨_, _, y⟩ <;> rw [y] <;> first | decide | omega
              rcases y3 with ⟨_, y4⟩ | ⟨_, y4⟩ <;> have := congrArg Int32.toInt y4 <;> first | omega | (rw [z99] at this; exact absurd this (by decide))
            · obtain ⟨r3, y5, y6⟩ := y1
              have b1 := (srM_b (by omega) y5).1
              have b2 : r2'.toInt < 99 := by rcases y6 with ⟨_, y⟩ | ⟨_, y⟩ | ⟨_, _, y⟩ <;> rw [y] <;> first | decide | omega
              rcases y3 with ⟨_, y4⟩ | ⟨_, y4⟩ | ⟨_, y4⟩ | ⟨_, y4⟩ <;> have := congrArg Int32.toInt y4 <;> first | omega | (rw [z99] at this; exact absurd this (by decide))
            · exact k3 y0
            · omega
          · rw [a6, nI_c (by omega)]; exact (hX c a7).1.2.1
    have hfr := any_b hS.1 hF.2.2.2
    have hL : xL up (wcX re fo t (meO b9 o1 o2)) (fr f.toNatClampNeg) ↔ lM pa (cmM re fo t r1) (fr f.toNatClampNeg) := by rw [a4]; exact up_L hU hS.1.1 ht hfr
    rcases h4 with ⟨b1, _⟩ | ⟨_, b2, b3⟩ | ⟨_, b2, b3⟩
    · exact absurd a1 b1
    · refine ⟨⟨r1, k1, Or.inr (Or.inr ⟨⟨a2, b2.1, fun z => b2.2 (hL.mpr z)⟩, b3⟩)⟩, fun z => by rw [b3] at z; omega⟩
    · have e2 : r9 = r1 := by
        rcases b3 with ⟨c1, c2⟩ | ⟨c, c1, c2⟩
        · rcases a5 with ⟨_, d2⟩ | ⟨c', d1, _⟩
          · rw [c2, d2]
          · rw [c1] at d1; cases d1
        · rcases a5 with ⟨d1, _⟩ | ⟨c', d1, d2, _⟩
          · rw [c1] at d1; cases d1
          · rw [c1] at d1; cases d1; rw [c2, d2]
      rw [e2]
      refine ⟨⟨r1, k1, Or.inr (Or.inl ⟨⟨a2, ?_⟩, rfl⟩)⟩, fun _ => ⟨a3, a4, a5⟩⟩
      rcases Classical.em ((fr f.toNatClampNeg).toInt = 11) with q | q
      · exact Or.inl q
      · exact Or.inr (hL.mp (Classical.byContradiction (fun z => b2 ⟨q, z⟩)))
