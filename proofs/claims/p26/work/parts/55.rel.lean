section
/-! the class's searches are the reference's -/
theorem ixn {i k : Nat} (hi : i < 1000) (hk : k < 1000) : (3 * nI i + nI k).toNatClampNeg = 3 * i + k := by
  have h := ix3 (f := nI i) (j := k) (by rw [nI_toInt (by omega)]; omega) hk
  rw [nI_toInt (by omega)] at h
  omega
/-- what is known of the members beside mIv -/
def mbX (ty : Int32) (ot na re my pm : Nat → Int32) (mn : Int32) : Prop := ∀ j : Nat, (j : Int) < mn.toInt → ((0 ≤ (na j).toInt ∧ (na j).toInt ≤ 6) ∧ anyT ty (re j) ∧ (0 ≤ (ot j).toInt ∧ (ot j).toInt < ty.toInt)) ∧ ∀ i : Nat, (i : Int) < mn.toInt → i ≠ j → smM na my pm (nI i) (nI j) → (ot i).toInt ≠ (ot j).toInt
theorem pl_any {ty x : Int32} (h : plT ty x) : anyT ty x := by unfold plT at h; unfold anyT; omega
theorem pl_b {ty x : Int32} (hty : ty.toInt ≤ 10) (h : plT ty x) : 0 ≤ x.toInt ∧ x.toInt ≤ 30 := by unfold plT at h; omega
theorem any_ok {ty x : Int32} (h0 : 0 ≤ ty.toInt) (h : anyT ty x) : okT ty x := by unfold anyT at h; unfold okT; omega
/-- a place's type, ahead of phase 3 -/
theorem ty_p {my pm : Nat → Int32} {i k : Nat} {p : Int32} (hi : i < 40) (hk : k < (my i).toNatClampNeg) (h3 : (my i).toNatClampNeg ≤ 3) (hp : p.toInt ≠ 3) : tyM my pm i k p = pm (3 * nI i + nI k).toNatClampNeg := by
  rw [ty_3 (by omega) (by omega) hk, ixn (by omega) (by omega)]
theorem ty_v {my pm : Nat → Int32} {i k : Nat} {p : Int32} (hi : i < 40) (hk : k < 1000) (h1 : 1 ≤ (my i).toInt ∧ (my i).toInt ≤ 3) (hp : p.toInt = 3) : tyM my pm i k p = plV my pm (nI i) (nI k) := by
  have hx := xN (x := my i) (by omega)
  have hic : (nI i).toNatClampNeg = i := nI_c (by omega)
  have hkt := nI_toInt (n := k) (by omega)
  have hm1 : (my i - 1).toInt = (my i).toInt - 1 := iSub rfl (by decide) (by omega) (by omega)
  have hit := nI_toInt (n := i) (by omega)
  have hix : (3 * nI i + (my i - 1)).toNatClampNeg = 3 * i + ((my i).toNatClampNeg - 1) := by
    have := ixg (f := nI i) (k := my i - 1) (by omega) (by omega)
    omega
  unfold plV
  rw [hic, hix]
  by_cases q : k + 1 < (my i).toNatClampNeg
  · rw [ty_3 (by omega) (by omega) (by omega), if_pos (by omega), ixn (by omega) (by omega)]
  · rw [if_neg (by omega)]
    by_cases q2 : (pm (3 * i + ((my i).toNatClampNeg - 1))).toInt = 30
    · rw [ty_1 (by omega) (by omega) q2, if_pos q2]
    · rw [ty_2 (by omega) (by omega) q2, if_neg q2]
theorem pl_V {ty : Int32} {my pm : Nat → Int32} {i k : Nat} (hty : 2 ≤ ty.toInt ∧ ty.toInt ≤ 10) (hi : i < 40) (hp : ∀ i : Nat, plT ty (pm i)) (h20 : 20 ≤ (pm (3 * nI i + (my i - 1)).toNatClampNeg).toInt) : plT ty (plV my pm (nI i) (nI k)) := by
  have hic : (nI i).toNatClampNeg = i := nI_c (by omega)
  unfold plV
  rw [hic]
  split
  · exact hp _
  · split
    · unfold plT; have : (10 : Int32).toInt = 10 := by decide
      omega
    · have h := hp (3 * nI i + (my i - 1)).toNatClampNeg
      generalize pm (3 * nI i + (my i - 1)).toNatClampNeg = x at *
      have e : (x - 20).toInt = x.toInt - 20 := by
        refine iSub rfl (by decide) ?_ ?_ <;> unfold plT at h <;> omega
      unfold plT at h ⊢
      omega
/-- the members' facts that a search needs -/
def mbS (ty : Int32) (ma my pm : Nat → Int32) (mn : Int32) : Prop := (2 ≤ ty.toInt ∧ ty.toInt ≤ 10) ∧ (0 ≤ mn.toInt ∧ mn.toInt ≤ 40) ∧ myD my ∧ vrD ma my ∧ (∀ i : Nat, plT ty (pm i)) ∧ ∀ j : Nat, (j : Int) < mn.toInt → (ma j &&& 4).toInt ≠ 0 → 20 ≤ (pm (3 * nI j + (my j - 1)).toNatClampNeg).toInt
theorem cutA {ty : Int32} {fy fa : Nat → Int32} {f s : Int32} {j : Nat} (hf : 0 ≤ f.toInt ∧ f.toInt < 10) (hfy : 0 ≤ (fy f.toNatClampNeg).toInt ∧ (fy f.toNatClampNeg).toInt ≤ 3) (hs : s = 0 ∨ s = 1) (hj : (j : Int) < (fy f.toNatClampNeg).toInt - s.toInt) : cutF fy fa f.toNatClampNeg (s.toNatClampNeg + j) = fa (3 * f + s + nI j).toNatClampNeg := by
  have z0 : (0 : Int32).toInt = 0 := by decide
  have z1 : (1 : Int32).toInt = 1 := by decide
  have hx := xN hfy.1
  have hff := xN hf.1
  have hs2 : 0 ≤ s.toInt ∧ s.toInt ≤ 1 := by rcases hs with e | e <;> rw [e] <;> omega
  have hsx := xN hs2.1
  rw [cut_at (by omega)]
  congr 1
  have e1 : (3 * f).toInt = 3 * f.toInt := iMul (by decide) rfl (by omega) (by omega)
  have e2 : (3 * f + s).toInt = 3 * f.toInt + s.toInt := iAdd e1 rfl (by omega) (by omega)
  have e3 : (3 * f + s + nI j).toInt = 3 * f.toInt + s.toInt + (j : Int) := iAdd e2 (nI_toInt (by omega)) (by omega) (by omega)
  exact (tN (by omega)).symm
theorem fit_x {up pa ma my pm fa fy : Nat → Int32} {ty mn f s p : Int32} {i : Nat} (hU : upR up pa ty) (hS : mbS ty ma my pm mn) (hA : ∀ i : Nat, plT ty (fa i)) (hf : 0 ≤ f.toInt ∧ f.toInt < 10) (hfy : 0 ≤ (fy f.toNatClampNeg).toInt ∧ (fy f.toNatClampNeg).toInt ≤ 3) (hs : s = 0 ∨ s = 1) (hp : 1 ≤ p.toInt ∧ p.toInt ≤ 3) (hi : (i : Int) < mn.toInt) : fitX up ma my pm (fy f.toNatClampNeg).toNatClampNeg (cutF fy fa f.toNatClampNeg) s i p ↔ tkM pa my pm fa ma fy (nI i) f s p := by
  obtain ⟨hty, hmn, hmy, hvr, hpm, hlast⟩ := hS
  have hic : (nI i).toNatClampNeg = i := nI_c (by omega)
  have hy := hmy i (by omega)
  have hyx := xN hy.1
  have hfx := xN hfy.1
  have hv := hvr i (by omega)
  have hs2 : 0 ≤ s.toInt ∧ s.toInt ≤ 1 := by rcases hs with e | e <;> rw [e] <;> decide
  unfold fitX tkM
  rw [hic]
  have e0 : ((p.toInt ≠ 3 ∧ ((my i).toNatClampNeg : Int) = ((fy f.toNatClampNeg).toNatClampNeg : Int) - s.toInt) ∨ (p.toInt = 3 ∧ (ma i &&& 4).toInt ≠ 0 ∧ ((my i).toNatClampNeg : Int) ≤ ((fy f.toNatClampNeg).toNatClampNeg : Int) - s.toInt + 1)) ↔ ((p.toInt < 3 ∧ (my i).toInt = (fy f.toNatClampNeg).toInt - s.toInt) ∨ (p.toInt = 3 ∧ (ma i &&& 4).toInt ≠ 0 ∧ (my i).toInt ≤ (fy f.toNatClampNeg).toInt - s.toInt + 1)) := by omega
  rw [e0]
  refine and_congr_right fun q0 => ?_
  unfold fjL tkL
  rw [hfx]
  refine forall_congr' fun j => ?_
  refine imp_congr_right fun _ => ?_
  refine imp_congr_right fun qj => ?_
  rw [cutA (ty := ty) hf hfy hs qj]
  unfold fJ
  have ha := pl_any (hA (3 * f + s + nI j).toNatClampNeg)
  generalize fa (3 * f + s + nI j).toNatClampNeg = a at ha
  rcases q0 with ⟨q1, q2⟩ | ⟨q1, q2, q3⟩
  · rw [ty_p (by omega) (by omega) (by omega) (by omega)]
    have hb := pl_b hty.2 (hpm (3 * nI i + nI j).toNatClampNeg)
    rw [hU.2 _ _ ha hb, up_L hU hty.1 ha hb]
    constructor
    · rintro ⟨w1, w2⟩
      exact ⟨w1, fun w => w2 (by omega), fun w => by omega⟩
    · rintro ⟨w1, w2, w3⟩
      exact ⟨w1, fun w => w2 (by omega)⟩
  · have hv1 := hv q2
    rw [ty_v (by omega) (by omega) (by omega) q1]
    have hb := pl_b hty.2 (pl_V (k := j) hty (by omega) hpm (hlast i hi q2))
    rw [up_L hU hty.1 ha hb]
    constructor
    · rintro ⟨w1, w2⟩
      exact ⟨fun w => by omega, fun w => by omega, fun w => w2 (by omega)⟩
    · rintro ⟨w1, w2, w3⟩
      exact ⟨fun w => by omega, fun w => w3 q1⟩
theorem ua_x {up pa ma my pm : Nat → Int32} {ty mn n p : Int32} {N : Int} {i o : Nat} (hU : upR up pa ty) (hS : mbS ty ma my pm mn) (hp : 1 ≤ p.toInt ∧ p.toInt ≤ 3) (hi : (i : Int) < mn.toInt) (ho : (o : Int) < mn.toInt) (hn : n.toInt = N) (hN : N ≤ 3) (hd : p.toInt < 3 → (my i).toInt = N ∧ (my o).toInt = N) (h3 : p.toInt = 3 → (ma i &&& 4).toInt ≠ 0 ∧ (ma o &&& 4).toInt ≠ 0) : uaX up my pm N p i o ↔ spO pa my pm p n (nI i) (nI o) := by
  obtain ⟨hty, hmn, hmy, hvr, hpm, hlast⟩ := hS
  have hic : (nI i).toNatClampNeg = i := nI_c (by omega)
  have hoc : (nI o).toNatClampNeg = o := nI_c (by omega)
  have hyi := hmy i (by omega)
  have hyo := hmy o (by omega)
  have hxi := xN hyi.1
  have hxo := xN hyo.1
  unfold uaX spO
  refine forall_congr' fun k => ?_
  have eB : uaB my N p i o k ↔ spB my p n (nI i) (nI o) k := by
    unfold uaB spB
    rw [hic, hoc]
    by_cases q : p.toInt = 3
    · omega
    · have := hd (by omega)
      omega
  rw [eB]
  refine imp_congr_right fun qk => ?_
  unfold spB at qk
  rw [hic, hoc] at qk
  unfold spK
  by_cases q : p.toInt = 3
  · obtain ⟨v1, v2⟩ := h3 q
    have w1 := hvr i (by omega) v1
    have w2 := hvr o (by omega) v2
    rw [ty_v (by omega) (by omega) (by omega) q, ty_v (by omega) (by omega) (by omega) q]
    have ha := pl_any (pl_V (k := k) hty (by omega) hpm (hlast i hi v1))
    have hb := pl_b hty.2 (pl_V (k := k) hty (by omega) hpm (hlast o ho v2))
    rw [hU.2 _ _ ha hb]
    exact ⟨fun z => ⟨fun w => by omega, fun _ => z⟩, fun z => z.2 q⟩
  · have w := hd (by omega)
    rw [ty_p (by omega) (by omega) (by omega) q, ty_p (by omega) (by omega) (by omega) q]
    have ha := pl_any (hpm (3 * nI i + nI k).toNatClampNeg)
    have hb := pl_b hty.2 (hpm (3 * nI o + nI k).toNatClampNeg)
    rw [hU.2 _ _ ha hb]
    exact ⟨fun z => ⟨fun _ => z, fun w => by omega⟩, fun z => z.1 (by omega)⟩
theorem uM_r {pa : Nat → Int32} {a : Int32} : uM pa a a = true := by
  by_cases h : 20 ≤ a.toInt ∧ a.toInt = 0
  · omega
  · by_cases h2 : (20 ≤ a.toInt ∧ a.toInt ≤ 29) ∧ (20 ≤ a.toInt ∧ a.toInt ≤ 29)
    · rw [uM_2 h h2]; exact uR_eq rfl
    · rw [uM_3 h h2]; exact uR_eq rfl
/-- a place is under itself -/
theorem sp_r {pa my pm : Nat → Int32} {p n : Int32} {m : Int32} : spO pa my pm p n m m := fun k _ => ⟨fun _ => uM_r, fun _ => uM_r⟩
/-- a search's named members, and what fits -/
def nsX (pa ot na my pm : Nat → Int32) (mn t w : Int32) (s : Int64) : Prop := ∀ j : Nat, (j : Int) < mn.toInt → (bl s j = true ↔ ((na j).toInt = w.toInt ∧ hadM pa ot na my pm mn t (nI j)))
theorem Fx_x {up pa ot na ma my pm fa fy : Nat → Int32} {ty mn t w f s p : Int32} {sb : Int64} {i : Nat} (hU : upR up pa ty) (hS : mbS ty ma my pm mn) (hA : ∀ i : Nat, plT ty (fa i)) (hf : 0 ≤ f.toInt ∧ f.toInt < 10) (hfy : 0 ≤ (fy f.toNatClampNeg).toInt ∧ (fy f.toNatClampNeg).toInt ≤ 3) (hs : s = 0 ∨ s = 1) (hp : 1 ≤ p.toInt ∧ p.toInt ≤ 3) (hN : nsX pa ot na my pm mn t w sb) (hi : (i : Int) < mn.toInt) : (bl sb i = true ∧ fitX up ma my pm (fy f.toNatClampNeg).toNatClampNeg (cutF fy fa f.toNatClampNeg) s i p) ↔ fitM pa ot na my pm ma fa fy mn t w f s p i := by
  have hic : (nI i).toNatClampNeg = i := nI_c (by have := hS.2.1; omega)
  unfold fitM
  rw [fit_x hU hS hA hf hfy hs hp hi, hN i hi, hic]
  exact ⟨fun q => ⟨q.1.1, q.1.2, q.2⟩, fun q => ⟨⟨q.1, q.2.1⟩, q.2.2⟩⟩
/-- what was found, as the reference tells it -/
def ansF (o : Option Nat) (T : Int64) : Int32 := anX o T
theorem sr_x {up pa ot na ma my pm fa fy : Nat → Int32} {ty mn t w f s : Int32} {sb T : Int64} {p : Int32} {o : Option Nat} (hU : upR up pa ty) (hS : mbS ty ma my pm mn) (hA : ∀ i : Nat, plT ty (fa i)) (hf : 0 ≤ f.toInt ∧ f.toInt < 10) (hfy : 0 ≤ (fy f.toNatClampNeg).toInt ∧ (fy f.toNatClampNeg).toInt ≤ 3) (hs : s = 0 ∨ s = 1) (hsf : s.toInt ≤ (fy f.toNatClampNeg).toInt) (hN : nsX pa ot na my pm mn t w sb)
    (h : rnX (fun ph x => bl sb x = true ∧ fitX up ma my pm (fy f.toNatClampNeg).toNatClampNeg (cutF fy fa f.toNatClampNeg) s x ph) mn T p)
    (h2 : (∃ c : Nat, o = some c ∧ oneP (fun b => bl T b = true ∧ spX up my pm T mn (((fy f.toNatClampNeg).toNatClampNeg : Int) - s.toInt) p b 0) mn c) ∨ (o = none ∧ ¬ ∃ c : Nat, oneP (fun b => bl T b = true ∧ spX up my pm T mn (((fy f.toNatClampNeg).toNatClampNeg : Int) - s.toInt) p b 0) mn c)) :
    srM pa ot na my pm ma fa fy mn t w f s p (anX o T) ∧ (∀ j : Nat, j < 64 → (bl T j = true ↔ ((j : Int) < mn.toInt ∧ p.toInt ≠ 0 ∧ fitM pa ot na my pm ma fa fy mn t w f s p j))) ∧ (T = 0 ↔ p.toInt = 0) ∧ (∀ c : Nat, o = some c → (c : Int) < mn.toInt ∧ bl T c = true) := by
  have z0 : (0 : Int32).toInt = 0 := by decide
  have z1 : (1 : Int32).toInt = 1 := by decide
  have z2 : (2 : Int32).toInt = 2 := by decide
  have z3 : (3 : Int32).toInt = 3 := by decide
  have hmn := hS.2.1
  have hfx := xN hfy.1
  have hs2 : 0 ≤ s.toInt ∧ s.toInt ≤ 1 := by rcases hs with e | e <;> rw [e] <;> decide
  have FX : ∀ (q : Int32) (i : Nat), 1 ≤ q.toInt ∧ q.toInt ≤ 3 → (i : Int) < mn.toInt → ((bl sb i = true ∧ fitX up ma my pm (fy f.toNatClampNeg).toNatClampNeg (cutF fy fa f.toNatClampNeg) s i q) ↔ fitM pa ot na my pm ma fa fy mn t w f s q i) := fun q i hq hi => Fx_x hU hS hA hf hfy hs hq hN hi
  rcases h with ⟨hp, hT, hno⟩ | ⟨hp, hT, hb, ⟨j0, hj0, hj1⟩, hless⟩
  · have ho : o = none := by
      rcases h2 with ⟨c, _, _, hc, _⟩ | ⟨q, _⟩
      · rw [hT, l_0] at hc; exact absurd hc.1 (by decide)
      · exact q
    refine ⟨Or.inl ⟨hp, ?_, ?_, ?_, ?_⟩, fun j q => ?_, ?_, fun c hc => ?_⟩
    · rw [an_2 ho hT]
    · exact fun j q w => (hno j q).1 ((FX 1 j (by omega) q).mpr w)
    · exact fun j q w => (hno j q).2.1 ((FX 2 j (by omega) q).mpr w)
    · exact fun j q w => (hno j q).2.2 ((FX 3 j (by omega) q).mpr w)
    · rw [hT, l_0, hp]
      exact ⟨fun q => (by cases q), fun q => absurd z0 q.2.1⟩
    · rw [hT, hp]; exact ⟨fun _ => z0, fun _ => rfl⟩
    · rw [ho] at hc; cases hc
  · have hbM : ∀ j : Nat, j < 64 → (bl T j = true ↔ ((j : Int) < mn.toInt ∧ fitM pa ot na my pm ma fa fy mn t w f s p j)) := fun j q => (hb j q).trans ⟨fun z => ⟨z.1, (FX p j hp z.1).mp z.2⟩, fun z => ⟨z.1, (FX p j hp z.1).mpr z.2⟩⟩
    have hd : ∀ j : Nat, (j : Int) < mn.toInt → fitM pa ot na my pm ma fa fy mn t w f s p j → (p.toInt < 3 → (my j).toInt = ((fy f.toNatClampNeg).toNatClampNeg : Int) - s.toInt) ∧ (p.toInt = 3 → (ma j &&& 4).toInt ≠ 0) := fun j q z => by
      have e := z.2.2.1
      rw [nI_c (by omega)] at e
      omega
    have hSP : ∀ b : Nat, (b : Int) < mn.toInt → ((bl T b = true ∧ spX up my pm T mn (((fy f.toNatClampNeg).toNatClampNeg : Int) - s.toInt) p b 0) ↔ spF pa ot na my pm ma fa fy mn t w f s p b) := by
      intro b qb
      unfold spF
      rw [hbM b (by omega)]
      constructor
      · rintro ⟨⟨_, w1⟩, w2⟩
        refine ⟨w1, fun o1 q1 q2 q3 => ?_⟩
        have w3 := w2 o1 (Nat.zero_le _) q1 ((hbM o1 (by omega)).mpr ⟨q1, q2⟩)
        exact (ua_x hU hS hp qb q1 (n := fy f.toNatClampNeg - s) (by rw [iSub (x := (fy f.toNatClampNeg).toInt) (y := s.toInt) rfl rfl (by omega) (by omega)]; omega) (by omega) (fun z => ⟨(hd b qb w1).1 z, (hd o1 q1 q2).1 z⟩) (fun z => ⟨(hd b qb w1).2 z, (hd o1 q1 q2).2 z⟩)).mp w3
      · rintro ⟨w1, w2⟩
        refine ⟨⟨qb, w1⟩, fun o1 _ q1 q2 => ?_⟩
        have q3 := ((hbM o1 (by omega)).mp q2).2
        refine (ua_x hU hS hp qb q1 (n := fy f.toNatClampNeg - s) (by rw [iSub (x := (fy f.toNatClampNeg).toInt) (y := s.toInt) rfl rfl (by omega) (by omega)]; omega) (by omega) (fun z => ⟨(hd b qb w1).1 z, (hd o1 q1 q3).1 z⟩) (fun z => ⟨(hd b qb w1).2 z, (hd o1 q1 q3).2 z⟩)).mpr ?_
        by_cases e : (o1 : Int) = b
        · have e2 : o1 = b := by omega
          rw [e2]; exact sp_r
        · exact w2 o1 q1 q3 e
    have hU2 : uqM (spF pa ot na my pm ma fa fy mn t w f s p) mn (anX o T) := by
      rcases h2 with ⟨c, hc, c1, c2, c3⟩ | ⟨hc, c1⟩
      · rw [an_1 hc]
        exact Or.inl ⟨c, c1, rfl, (hSP c c1).mp c2, fun j q w => c3 j q ((hSP j q).mpr w)⟩
      · rw [an_3 hc hT]
        exact Or.inr ⟨rfl, fun ⟨b, q1, q2, q3⟩ => c1 ⟨b, q1, (hSP b q1).mpr q2, fun j q w => q3 j q ((hSP j q).mp w)⟩⟩
    have hne : ¬ nfM pa ot na my pm ma fa fy mn t w f s p := fun z => z j0 hj0 ((FX p j0 hp hj0).mp hj1)
    have hnf : ∀ (q : Nat) (Q : Int32), Q = nI q → 1 ≤ q → (q : Int) < p.toInt → nfM pa ot na my pm ma fa fy mn t w f s Q := fun q Q e q1 q2 j q3 z => by
      subst e
      exact hless q q1 q2 j q3 ((FX (nI q) j (by rw [nI_toInt (by omega)]; omega) q3).mpr z)
    refine ⟨?_, fun j q => (hbM j q).trans ⟨fun z => ⟨z.1, by omega, z.2⟩, fun z => ⟨z.1, z.2.2⟩⟩, ⟨fun z => absurd z hT, fun z => by omega⟩, fun c hc => ?_⟩
    · have hp3 : p.toInt = 1 ∨ p.toInt = 2 ∨ p.toInt = 3 := by omega
      rcases hp3 with e | e | e
      · have e2 : p = 1 := xJ (by omega)
        subst e2
        exact Or.inr (Or.inl ⟨rfl, hne, hU2⟩)
      · have e2 : p = 2 := xJ (by omega)
        subst e2
        exact Or.inr (Or.inr (Or.inl ⟨rfl, hnf 1 1 rfl (by omega) (by omega), hne, hU2⟩))
      · have e2 : p = 3 := xJ (by omega)
        subst e2
        exact Or.inr (Or.inr (Or.inr ⟨rfl, hnf 1 1 rfl (by omega) (by omega), hnf 2 2 rfl (by omega) (by omega), hne, hU2⟩))
    · rcases h2 with ⟨c', hc', c1, c2, _⟩ | ⟨hc', _⟩
      · rw [hc] at hc'; cases hc'; exact ⟨c1, c2.1⟩
      · rw [hc] at hc'; cases hc'
end
section
/-! the class's sets of members are what the reference's types have -/
def hbR (ha : Nat → Int64) (pa ot na my pm : Nat → Int32) (ty mn : Int32) : Prop := ∀ t i : Nat, (t : Int) < ty.toInt → i < 64 → (bl (ha t) i = true ↔ ((i : Int) < mn.toInt ∧ hadM pa ot na my pm mn (nI t) (nI i)))
def nmR (nm : Nat → Int64) (na : Nat → Int32) (mn : Int32) : Prop := ∀ w i : Nat, w < 7 → i < 64 → (bl (nm w) i = true ↔ ((i : Int) < mn.toInt ∧ (na i).toInt = (w : Int)))
def stR (s : Int64) (ma : Nat → Int32) (b mn : Int32) : Prop := ∀ i : Nat, i < 64 → (bl s i = true ↔ ((i : Int) < mn.toInt ∧ (ma i &&& b).toInt ≠ 0))
/-- the order of the types -/
theorem uC_r {pa : Nat → Int32} {a : Int32} : uM pa a a = true := uM_r
theorem uC_a {pa : Nat → Int32} (hd : paD pa) {a b : Int32} (ha : a.toInt < 20) (hb : b.toInt < 20) (h : uM pa a b = true) (k : uM pa b a = true) : a = b := by
  rw [uM_c ha] at h
  rw [uM_c hb] at k
  have := (uR_le' hd h).1
  have := (uR_le' hd k).1
  exact xJ (by omega)
theorem uC_l {pa : Nat → Int32} (hd : paD pa) {c a b : Int32} (hc : c.toInt < 20) (ha : a.toInt < 20) (hb : b.toInt < 20) (h : uM pa c a = true) (k : uM pa c b = true) : uM pa a b = true ∨ uM pa b a = true := by
  rw [uM_c hc] at h k
  rw [uM_c ha, uM_c hb]
  exact uR_ln hd 10 c (x_fuel c) h k
theorem uC_le {pa : Nat → Int32} (hd : paD pa) {a b : Int32} (ha : a.toInt < 20) (h : uM pa a b = true) : b.toInt ≤ a.toInt := by
  rw [uM_c ha] at h
  exact (uR_le' hd h).1
theorem sm_s {na my pm : Nat → Int32} {i j : Int32} (h : smM na my pm i j) : smM na my pm j i := ⟨h.1.symm, h.2.1.symm, fun k q1 q2 => (h.2.2 k q1 (by rw [h.2.1]; exact q2)).symm⟩
theorem sm_t {na my pm : Nat → Int32} {i j k : Int32} (h : smM na my pm i j) (g : smM na my pm j k) : smM na my pm i k := ⟨h.1.trans g.1, h.2.1.trans g.2.1, fun x q1 q2 => (h.2.2 x q1 q2).trans (g.2.2 x q1 (by rw [← h.2.1]; exact q2))⟩
theorem cM_b {ty t : Int32} (hty : 2 ≤ ty.toInt ∧ ty.toInt ≤ 10) (ht : (0 ≤ t.toInt ∧ t.toInt < ty.toInt) ∨ 20 ≤ t.toInt) : 0 ≤ (cM t).toInt ∧ (cM t).toInt < ty.toInt := by
  have z0 : (0 : Int32).toInt = 0 := by decide
  rcases ht with h | h
  · rw [cM_2 (by omega)]; exact h
  · rw [cM_1 h]; omega
/-- a type has one of a name and parameters at most -/
theorem had_1 {pa ot na re my pm : Nat → Int32} {ty mn t : Int32} {i j : Nat} (hd : paD pa) (hty : 2 ≤ ty.toInt ∧ ty.toInt ≤ 10) (hmn : mn.toInt ≤ 40) (hX : mbX ty ot na re my pm mn) (ht : (0 ≤ t.toInt ∧ t.toInt < ty.toInt) ∨ 20 ≤ t.toInt) (hi : (i : Int) < mn.toInt) (hj : (j : Int) < mn.toInt) (h1 : hadM pa ot na my pm mn t (nI i)) (h2 : hadM pa ot na my pm mn t (nI j)) (hs : smM na my pm (nI i) (nI j)) : i = j := by
  rcases Classical.em (i = j) with e | e
  · exact e
  exfalso
  have hc := cM_b hty ht
  have hic : (nI i).toNatClampNeg = i := nI_c (by omega)
  have hjc : (nI j).toNatClampNeg = j := nI_c (by omega)
  have ho : (ot i).toInt ≠ (ot j).toInt := (hX j hj).2 i hi e hs
  have oi := (hX i hi).1.2.2
  have oj := (hX j hj).1.2.2
  unfold hadM at h1 h2
  rw [hic] at h1
  rw [hjc] at h2
  have ov : ∀ a b : Nat, (a : Int) < mn.toInt → (b : Int) < mn.toInt → (ot a).toInt ≠ (ot b).toInt → uM pa (cM t) (ot a) = true → uM pa (ot a) (ot b) = true → smM na my pm (nI a) (nI b) → ovM pa ot na my pm (cM t) (nI b) (nI a) := by
    intro a b ha hb q1 q2 q3 q4
    unfold ovM
    rw [nI_c (k := a) (by omega), nI_c (k := b) (by omega)]
    exact ⟨q1, q2, q3, q4⟩
  rcases h1 with ⟨a1, a2⟩ | ⟨a1, a2, a3, a4⟩
  · rcases h2 with ⟨b1, b2⟩ | ⟨b1, b2, b3, b4⟩
    · omega
    · have e1 : ot i = cM t := xJ a1
      exact b4 i hi (ov i j hi hj ho (by rw [e1]; exact uC_r) (by rw [e1]; exact b3) hs)
  · rcases h2 with ⟨b1, b2⟩ | ⟨b1, b2, b3, b4⟩
    · have e1 : ot j = cM t := xJ b1
      exact a4 j hj (ov j i hj hi (fun q => ho q.symm) (by rw [e1]; exact uC_r) (by rw [e1]; exact a3) (sm_s hs))
    · rcases uC_l hd (by omega) (by omega) (by omega) a3 b3 with q | q
      · exact b4 i hi (ov i j hi hj ho a3 q hs)
      · exact a4 j hj (ov j i hj hi (fun q => ho q.symm) b3 q (sm_s hs))
/-- the bits of a type's set -/
theorem hb_x {ha nm : Nat → Int64} {pa ot na my pm : Nat → Int32} {ty mn t : Int32} (hty : 2 ≤ ty.toInt ∧ ty.toInt ≤ 10) (hmn : mn.toInt ≤ 40) (hH : hbR ha pa ot na my pm ty mn) (hN : nmR nm na mn) (ht : (0 ≤ t.toInt ∧ t.toInt < ty.toInt) ∨ 20 ≤ t.toInt) {i : Nat} (hi : i < 64) : bl (hbX ha nm t) i = true ↔ ((i : Int) < mn.toInt ∧ hadM pa ot na my pm mn t (nI i)) := by
  have z0 : (0 : Int32).toInt = 0 := by decide
  rcases ht with h | h
  · rw [hb_1 (by omega), hH _ _ (by have := xN h.1; omega) hi, nI_self h.1]
  · rw [hb_2 (by omega), l_and, l_xor, l_m1 i hi]
    have e1 := hH 0 i (by omega) hi
    have e2 := hN 6 i (by omega) hi
    have c0 : nI 0 = 0 := by decide
    rw [c0] at e1
    have hx : (bl (ha 0) i && (bl (nm 6) i ^^ true)) = true ↔ (bl (ha 0) i = true ∧ ¬ bl (nm 6) i = true) := by cases bl (ha 0) i <;> cases bl (nm 6) i <;> simp
    rw [hx, e1, e2]
    constructor
    · rintro ⟨⟨q1, q2⟩, q3⟩
      have q4 : (na (nI i).toNatClampNeg).toInt ≠ 6 := by rw [nI_c (by omega)]; exact fun w => q3 ⟨q1, w⟩
      refine ⟨q1, ?_⟩
      unfold hadM at q2 ⊢
      rw [cM_1 h]
      rw [cM_2 (by omega)] at q2
      rcases q2 with ⟨w1, _⟩ | w
      · exact Or.inl ⟨w1, Or.inl q4⟩
      · exact Or.inr w
    · rintro ⟨q1, q2⟩
      have q4 : (na (nI i).toNatClampNeg).toInt ≠ 6 := by
        unfold hadM at q2
        rw [cM_1 h] at q2
        rcases q2 with ⟨_, w | w⟩ | ⟨_, w, _⟩
        · exact w
        · omega
        · exact w
      refine ⟨⟨q1, ?_⟩, fun w => q4 (by rw [nI_c (by omega)]; exact w.2)⟩
      unfold hadM at q2 ⊢
      rw [cM_1 h] at q2
      rw [cM_2 (by omega)]
      rcases q2 with ⟨w1, _⟩ | w
      · exact Or.inl ⟨w1, Or.inl q4⟩
      · exact Or.inr w
theorem nm_x {ha nm : Nat → Int64} {pa ot na my pm : Nat → Int32} {ty mn t w : Int32} (hty : 2 ≤ ty.toInt ∧ ty.toInt ≤ 10) (hmn : mn.toInt ≤ 40) (hH : hbR ha pa ot na my pm ty mn) (hN : nmR nm na mn) (ht : (0 ≤ t.toInt ∧ t.toInt < ty.toInt) ∨ 20 ≤ t.toInt) (hw : 0 ≤ w.toInt ∧ w.toInt ≤ 6) {i : Nat} (hi : i < 64) : bl (nmX ha nm t w) i = true ↔ ((i : Int) < mn.toInt ∧ (na i).toInt = w.toInt ∧ hadM pa ot na my pm mn t (nI i)) := by
  have hx := xN hw.1
  rw [nm_1 hw, l_and, Bool.and_eq_true, hb_x hty hmn hH hN ht hi, hN _ _ (by omega) hi, hx]
  exact ⟨fun q => ⟨q.1.1, q.2.2, q.1.2⟩, fun q => ⟨⟨q.1, q.2.2⟩, q.1, q.2.1⟩⟩
theorem ns_x {ha nm : Nat → Int64} {pa ot na my pm : Nat → Int32} {ty mn t w : Int32} (hty : 2 ≤ ty.toInt ∧ ty.toInt ≤ 10) (hmn : mn.toInt ≤ 40) (hH : hbR ha pa ot na my pm ty mn) (hN : nmR nm na mn) (ht : (0 ≤ t.toInt ∧ t.toInt < ty.toInt) ∨ 20 ≤ t.toInt) (hw : 0 ≤ w.toInt ∧ w.toInt ≤ 6) : nsX pa ot na my pm mn t w (nmX ha nm t w) := fun j q => (nm_x hty hmn hH hN ht hw (by omega)).trans ⟨fun z => z.2, fun z => ⟨q, z⟩⟩
theorem op_x {ha nm : Nat → Int64} {Ab : Int64} {pa ot na ma my pm : Nat → Int32} {ty mn t : Int32} (hty : 2 ≤ ty.toInt ∧ ty.toInt ≤ 10) (hmn : mn.toInt ≤ 40) (hH : hbR ha pa ot na my pm ty mn) (hN : nmR nm na mn) (hA : stR Ab ma 2 mn) (ht : (0 ≤ t.toInt ∧ t.toInt < ty.toInt) ∨ 20 ≤ t.toInt) : hbX ha nm t &&& Ab ≠ 0 ↔ opL pa ot na my pm ma mn t 0 := by
  rw [l_nz]
  constructor
  · rintro ⟨i, hi, h⟩
    rw [l_and, Bool.and_eq_true, hb_x hty hmn hH hN ht hi, hA i hi] at h
    exact ⟨i, Nat.zero_le i, h.1.1, by rw [nI_c (by omega)]; exact h.2.2, h.1.2⟩
  · rintro ⟨i, _, h1, h2, h3⟩
    rw [nI_c (by omega)] at h2
    refine ⟨i, by omega, ?_⟩
    rw [l_and, Bool.and_eq_true, hb_x hty hmn hH hN ht (by omega), hA i (by omega)]
    exact ⟨⟨h1, h3⟩, h1, h2⟩
theorem mk_x {ha nm : Nat → Int64} {pa ot na my pm : Nat → Int32} {ty mn t : Int32} (hty : 2 ≤ ty.toInt ∧ ty.toInt ≤ 10) (hmn : mn.toInt ≤ 40) (hH : hbR ha pa ot na my pm ty mn) (hN : nmR nm na mn) (ht : 0 ≤ t.toInt ∧ t.toInt < ty.toInt) : nmX ha nm t 6 ≠ 0 ↔ mkE ot na mn t 0 := by
  have z6 : (6 : Int32).toInt = 6 := by decide
  rw [l_nz]
  constructor
  · rintro ⟨i, hi, h⟩
    rw [nm_x hty hmn hH hN (Or.inl ht) (by omega) hi] at h
    obtain ⟨h1, h2, h3⟩ := h
    refine ⟨i, Nat.zero_le i, h1, ?_, by rw [nI_c (by omega)]; omega⟩
    unfold hadM at h3
    rw [cM_2 (by omega)] at h3
    rcases h3 with ⟨q, _⟩ | ⟨_, q, _⟩
    · exact q
    · rw [nI_c (by omega)] at q; omega
  · rintro ⟨i, _, h1, h2, h3⟩
    refine ⟨i, by omega, ?_⟩
    rw [nm_x hty hmn hH hN (Or.inl ht) (by omega) (by omega)]
    refine ⟨h1, by rw [nI_c (by omega)] at h3; omega, Or.inl ⟨?_, Or.inr ?_⟩⟩
    · rw [cM_2 (by omega)]; exact h2
    · rw [cM_2 (by omega)]
/-! a member's number tells its name and parameters -/
theorem dg_b {ty : Int32} {my pm : Nat → Int32} {i k : Nat} (hty : ty.toInt ≤ 10) (hp : ∀ i : Nat, plT ty (pm i)) : (k < (my i).toNatClampNeg ∧ (dgM my pm i k).toInt = (pm (3 * i + k)).toInt + 1 ∧ 0 ≤ (pm (3 * i + k)).toInt ∧ (pm (3 * i + k)).toInt ≤ 30) ∨ ((my i).toNatClampNeg ≤ k ∧ (dgM my pm i k).toInt = 0) := by
  have h := pl_b hty (hp (3 * i + k))
  by_cases q : k < (my i).toNatClampNeg
  · left
    unfold dgM
    rw [if_pos q, iAdd (x := (pm (3 * i + k)).toInt) (y := 1) rfl (by decide) (by omega) (by omega)]
    exact ⟨q, rfl, h⟩
  · right
    unfold dgM
    rw [if_neg q]
    exact ⟨by omega, by decide⟩
theorem sg_i {ty : Int32} {na my pm : Nat → Int32} {i : Nat} (hty : ty.toInt ≤ 10) (hp : ∀ i : Nat, plT ty (pm i)) (hn : 0 ≤ (na i).toInt ∧ (na i).toInt ≤ 6) : (sgM na my pm i).toInt = (((na i).toInt * 32 + (dgM my pm i 0).toInt) * 32 + (dgM my pm i 1).toInt) * 32 + (dgM my pm i 2).toInt := by
  have d0 := dg_b (my := my) (i := i) (k := 0) hty hp
  have d1 := dg_b (my := my) (i := i) (k := 1) hty hp
  have d2 := dg_b (my := my) (i := i) (k := 2) hty hp
  unfold sgM
  generalize dgM my pm i 0 = a at *
  generalize dgM my pm i 1 = b at *
  generalize dgM my pm i 2 = c at *
  generalize na i = w at *
  have e1 : (w * 32).toInt = w.toInt * 32 := iMul rfl (by decide) (by omega) (by omega)
  have e2 : (w * 32 + a).toInt = w.toInt * 32 + a.toInt := iAdd e1 rfl (by omega) (by omega)
  have e3 : ((w * 32 + a) * 32).toInt = (w.toInt * 32 + a.toInt) * 32 := iMul e2 (by decide) (by omega) (by omega)
  have e4 : ((w * 32 + a) * 32 + b).toInt = (w.toInt * 32 + a.toInt) * 32 + b.toInt := iAdd e3 rfl (by omega) (by omega)
  have e5 : (((w * 32 + a) * 32 + b) * 32).toInt = ((w.toInt * 32 + a.toInt) * 32 + b.toInt) * 32 := iMul e4 (by decide) (by omega) (by omega)
  exact iAdd e5 rfl (by omega) (by omega)
theorem sg_x {ty : Int32} {na my pm : Nat → Int32} {i j : Nat} (hi : i < 100) (hj : j < 100) (hty : ty.toInt ≤ 10) (hp : ∀ i : Nat, plT ty (pm i)) (hni : 0 ≤ (na i).toInt ∧ (na i).toInt ≤ 6) (hnj : 0 ≤ (na j).toInt ∧ (na j).toInt ≤ 6) (hyi : 0 ≤ (my i).toInt ∧ (my i).toInt ≤ 3) (hyj : 0 ≤ (my j).toInt ∧ (my j).toInt ≤ 3) : sgM na my pm i = sgM na my pm j ↔ smM na my pm (nI i) (nI j) := by
  have hic : (nI i).toNatClampNeg = i := nI_c (by omega)
  have hjc : (nI j).toNatClampNeg = j := nI_c (by omega)
  have hxi := xN hyi.1
  have hxj := xN hyj.1
  constructor
  · intro h
    have e := congrArg Int32.toInt h
    rw [sg_i hty hp hni, sg_i hty hp hnj] at e
    have a0 := dg_b (my := my) (i := i) (k := 0) hty hp
    have a1 := dg_b (my := my) (i := i) (k := 1) hty hp
    have a2 := dg_b (my := my) (i := i) (k := 2) hty hp
    have b0 := dg_b (my := my) (i := j) (k := 0) hty hp
    have b1 := dg_b (my := my) (i := j) (k := 1) hty hp
    have b2 := dg_b (my := my) (i := j) (k := 2) hty hp
    have en : (na i).toInt = (na j).toInt := by omega
    have e0 : (dgM my pm i 0).toInt = (dgM my pm j 0).toInt := by omega
    have e1 : (dgM my pm i 1).toInt = (dgM my pm j 1).toInt := by omega
    have e2 : (dgM my pm i 2).toInt = (dgM my pm j 2).toInt := by omega
    have ey : (my i).toInt = (my j).toInt := by omega
    unfold smM smL
    rw [hic, hjc]
    refine ⟨xJ en, xJ ey, fun k _ q => ?_⟩
    rw [ixn (by omega) (by omega), ixn (by omega) (by omega)]
    refine xJ ?_
    have hk : k = 0 ∨ k = 1 ∨ k = 2 := by omega
    rcases hk with e | e | e <;> subst e <;> omega
  · intro h
    unfold smM smL at h
    rw [hic, hjc] at h
    obtain ⟨h1, h2, h3⟩ := h
    have hd : ∀ k : Nat, k < 3 → dgM my pm i k = dgM my pm j k := by
      intro k hk
      unfold dgM
      rw [← h2]
      by_cases q : k < (my i).toNatClampNeg
      · have := h3 k (Nat.zero_le k) (by omega)
        rw [ixn (by omega) (by omega), ixn (by omega) (by omega)] at this
        rw [if_pos q, if_pos q, this]
      · rw [if_neg q, if_neg q]
    unfold sgM
    rw [h1, hd 0 (by omega), hd 1 (by omega), hd 2 (by omega)]
end
section
/-! a member more, a type more -/
/-- the highest of finitely many -/
theorem max_of {P : Nat → Prop} {v : Nat → Int} (hv : ∀ j : Nat, P j → 0 ≤ v j ∧ v j ≤ 10) (h : ∃ j : Nat, P j) : ∃ j : Nat, P j ∧ ∀ i : Nat, P i → v i ≤ v j := by
  obtain ⟨d, ⟨j, hj, ej⟩, hd⟩ := pk_least (fun d => ∃ j : Nat, P j ∧ v j + (d : Int) = 10) (by
    obtain ⟨j, hj⟩ := h
    have := hv j hj
    exact ⟨(10 - v j).toNat, j, hj, by omega⟩)
  refine ⟨j, hj, fun i hi => ?_⟩
  have hvi := hv i hi
  rcases Int.lt_or_le (v j) (v i) with q | q
  · exact absurd ⟨i, hi, by omega⟩ (hd (10 - v i).toNat (by omega))
  · exact q
/-- the rows with one member more -/
def nwM (ot na my pm ot' na' my' pm' : Nat → Int32) (m : Nat) : Prop := ∀ i : Nat, i < m → ot' i = ot i ∧ na' i = na i ∧ my' i = my i ∧ ∀ k : Nat, k < 3 → pm' (3 * i + k) = pm (3 * i + k)
theorem nw_sm {ot na my pm ot' na' my' pm' : Nat → Int32} {m i j : Nat} (hm : m ≤ 40) (hN : nwM ot na my pm ot' na' my' pm' m) (hy : ∀ i : Nat, i < m → 0 ≤ (my i).toInt ∧ (my i).toInt ≤ 3) (hi : i < m) (hj : j < m) : smM na' my' pm' (nI i) (nI j) ↔ smM na my pm (nI i) (nI j) := by
  have hic : (nI i).toNatClampNeg = i := nI_c (by omega)
  have hjc : (nI j).toNatClampNeg = j := nI_c (by omega)
  obtain ⟨_, a1, a2, a3⟩ := hN i hi
  obtain ⟨_, b1, b2, b3⟩ := hN j hj
  have h1 := hy i hi
  unfold smM smL
  rw [hic, hjc, a1, a2, b1, b2]
  refine and_congr_right fun _ => and_congr_right fun _ => ?_
  refine forall_congr' fun k => ?_
  refine imp_congr_right fun _ => ?_
  refine imp_congr_right fun q => ?_
  rw [ixn (by omega) (by omega), ixn (by omega) (by omega), a3 k (by omega), b3 k (by omega)]
theorem ad_x {up pa ot na re my pm ot' na' my' pm' : Nat → Int32} {ha hb : Nat → Int64} {ty mn : Int32} {m : Nat} (hU : upR up pa ty) (hd : paD pa) (hty : 2 ≤ ty.toInt ∧ ty.toInt ≤ 10) (hmn : 0 ≤ mn.toInt ∧ mn.toInt < 40) (hm : (m : Int) = mn.toInt) (hX : mbX ty ot na re my pm mn) (hy : ∀ i : Nat, i < m → 0 ≤ (my i).toInt ∧ (my i).toInt ≤ 3) (hN : nwM ot na my pm ot' na' my' pm' m) (hT : 0 ≤ (ot' m).toInt ∧ (ot' m).toInt < ty.toInt)
    (hsg : ∀ i : Nat, i < m → (sgM na' my' pm' i = sgM na' my' pm' m ↔ smM na' my' pm' (nI i) (nI m))) (hnc : ∀ i : Nat, i < m → smM na' my' pm' (nI i) (nI m) → (ot i).toInt ≠ (ot' m).toInt)
    (hH : hbR ha pa ot na my pm ty mn) (hA : adX up ot' na' my' pm' m ty 0 ha hb) : hbR hb pa ot' na' my' pm' ty (mn + 1) := by
  intro t x ht hx
  have e1 : (mn + 1).toInt = mn.toInt + 1 := iAdd rfl (by decide) (by omega) (by omega)
  have htn := nI_toInt (n := t) (by omega)
  have hmc : (nI m).toNatClampNeg = m := nI_c (by omega)
  have htT : (cM (nI t)) = nI t := cM_2 (by omega)
  generalize hTT : ot' m = T at *
  have hty2 : ∀ i : Nat, i < m → 0 ≤ (ot i).toInt ∧ (ot i).toInt < ty.toInt := fun i q => (hX i (by omega)).1.2.2
  have anyC : ∀ z : Int32, 0 ≤ z.toInt ∧ z.toInt < ty.toInt → anyT ty z := fun z q => by unfold anyT; omega
  have UX : ∀ a b : Int32, 0 ≤ a.toInt ∧ a.toInt < ty.toInt → 0 ≤ b.toInt ∧ b.toInt < ty.toInt → (xU up a b ↔ uM pa a b = true) := fun a b qa qb => hU.2 a b (anyC a qa) (by omega)
  -- what had says in plain words
  have HM : ∀ i : Nat, i < m → (hadM pa ot na my pm mn (nI t) (nI i) ↔ ((ot i).toInt = (t : Int) ∨ ((ot i).toInt ≠ (t : Int) ∧ (na i).toInt ≠ 6 ∧ uM pa (nI t) (ot i) = true ∧ ∀ j : Nat, j < m → ¬ ((ot j).toInt ≠ (ot i).toInt ∧ uM pa (nI t) (ot j) = true ∧ uM pa (ot j) (ot i) = true ∧ smM na my pm (nI j) (nI i))))) := by
    intro i hi
    unfold hadM ovM
    rw [htT, nI_c (k := i) (by omega), htn]
    refine or_congr ⟨fun q => q.1, fun q => ⟨q, Or.inr rfl⟩⟩ ?_
    refine and_congr_right fun _ => and_congr_right fun _ => and_congr_right fun _ => ?_
    constructor
    · intro q j hj w; exact q j (by omega) (by rw [nI_c (k := j) (by omega)]; exact w)
    · intro q j hj w; rw [nI_c (k := j) (by omega)] at w; exact q j (by omega) w
  have HN : ∀ i : Nat, i ≤ m → (hadM pa ot' na' my' pm' (mn + 1) (nI t) (nI i) ↔ ((ot' i).toInt = (t : Int) ∨ ((ot' i).toInt ≠ (t : Int) ∧ (na' i).toInt ≠ 6 ∧ uM pa (nI t) (ot' i) = true ∧ ∀ j : Nat, j ≤ m → ¬ ((ot' j).toInt ≠ (ot' i).toInt ∧ uM pa (nI t) (ot' j) = true ∧ uM pa (ot' j) (ot' i) = true ∧ smM na' my' pm' (nI j) (nI i))))) := by
    intro i hi
    unfold hadM ovM
    rw [htT, nI_c (k := i) (by omega), htn]
    refine or_congr ⟨fun q => q.1, fun q => ⟨q, Or.inr rfl⟩⟩ ?_
    refine and_congr_right fun _ => and_congr_right fun _ => and_congr_right fun _ => ?_
    constructor
    · intro q j hj w; exact q j (by omega) (by rw [nI_c (k := j) (by omega)]; exact w)
    · intro q j hj w; rw [nI_c (k := j) (by omega)] at w; exact q j (by omega) w
  -- an old one is had still, but if the new one stands in its way
  have HO : ∀ i : Nat, i < m → (hadM pa ot' na' my' pm' (mn + 1) (nI t) (nI i) ↔ (hadM pa ot na my pm mn (nI t) (nI i) ∧ ((ot i).toInt = (t : Int) ∨ ¬ (T.toInt ≠ (ot i).toInt ∧ uM pa (nI t) T = true ∧ uM pa T (ot i) = true ∧ smM na' my' pm' (nI m) (nI i))))) := by
    intro i hi
    obtain ⟨a0, a1, a2, a3⟩ := hN i hi
    rw [HM i hi, HN i (by omega), a0, a1]
    constructor
    · rintro (q | ⟨q1, q2, q3, q4⟩)
      · exact ⟨Or.inl q, Or.inl q⟩
      · refine ⟨Or.inr ⟨q1, q2, q3, fun j hj w => ?_⟩, Or.inr (fun w => q4 m (Nat.le_refl m) (by rw [hTT]; exact w))⟩
        refine q4 j (by omega) ?_
        rw [(hN j hj).1]
        exact ⟨w.1, w.2.1, w.2.2.1, (nw_sm (by omega) hN hy hj hi).mpr w.2.2.2⟩
    · rintro ⟨q | ⟨q1, q2, q3, q4⟩, q5⟩
      · exact Or.inl q
      · rcases q5 with q5 | q5
        · exact absurd q5 q1
        · refine Or.inr ⟨q1, q2, q3, fun j hj w => ?_⟩
          rcases Nat.lt_or_eq_of_le hj with z | z
          · rw [(hN j z).1] at w
            exact q4 j z ⟨w.1, w.2.1, w.2.2.1, (nw_sm (by omega) hN hy z hi).mp w.2.2.2⟩
          · subst z
            rw [hTT] at w
            exact q5 w
  have HB : ∀ i : Nat, i < 64 → (bl (ha t) i = true ↔ ((i : Int) < mn.toInt ∧ hadM pa ot na my pm mn (nI t) (nI i))) := fun i q => hH t i ht q
  -- of one name and parameters one is had
  have H1 : ∀ i j : Nat, i < m → j < m → hadM pa ot na my pm mn (nI t) (nI i) → hadM pa ot na my pm mn (nI t) (nI j) → smM na' my' pm' (nI i) (nI m) → smM na' my' pm' (nI j) (nI m) → i = j := by
    intro i j hi hj h1 h2 h3 h4
    exact had_1 hd hty (by omega) hX (Or.inl (by omega)) (by omega) (by omega) h1 h2 ((nw_sm (by omega) hN hy hi hj).mp (sm_t h3 (sm_s h4)))
  have hut : ∀ i : Nat, i < m → hadM pa ot na my pm mn (nI t) (nI i) → uM pa (nI t) (ot i) = true := by
    intro i hi h
    rcases (HM i hi).mp h with q | q
    · have e : ot i = nI t := xJ (by omega)
      rw [e]; exact uC_r
    · exact q.2.2.1
  obtain ⟨hA1, hA2⟩ := hA t
  have hC : (0 ≤ t ∧ adC up ot' na' m ty t) ↔ ((t : Int) = T.toInt ∨ ((na' m).toInt ≠ 6 ∧ uM pa (nI t) T = true)) := by
    unfold adC
    rw [hTT, UX (nI t) T (by omega) hT]
    exact ⟨fun q => q.2.2, fun q => ⟨Nat.zero_le t, ht, q⟩⟩
  have hxm : ((x : Int) < (mn + 1).toInt) ↔ (x < m ∨ x = m) := by omega
  by_cases c : (t : Int) = T.toInt ∨ ((na' m).toInt ≠ 6 ∧ uM pa (nI t) T = true)
  · have hp := hA1 (hC.mpr c)
    have hUT : uM pa (nI t) T = true := by
      rcases c with q | q
      · have e : T = nI t := xJ (by omega)
        rw [e]; exact uC_r
      · exact q.2
    have n6 : ∀ i : Nat, i < m → smM na' my' pm' (nI i) (nI m) → (na i).toInt = (na' m).toInt := fun i hi q => by
      have := q.1
      rw [nI_c (k := i) (by omega), hmc, (hN i hi).2.1] at this
      rw [this]
    rcases hp with ⟨i, _, hi, ⟨g1, g2⟩, g3, _, g5⟩ | ⟨g1, g2⟩
    · -- one hides the new one
      rw [hsg i hi] at g1
      have gh := ((HB i (by omega)).mp g2).2
      rw [hTT, (hN i hi).1, UX _ _ (hty2 i hi) hT] at g3
      have oi := hnc i hi g1
      have hne : (t : Int) ≠ T.toInt := fun q => by
        have e : T = nI t := xJ (by omega)
        have u1 := hut i hi gh
        rw [e] at g3
        have := uC_a hd (by have := hty2 i hi; omega) (by omega) g3 u1
        exact oi (by rw [this, e])
      have hw6 : (na' m).toInt ≠ 6 := by
        rcases c with q | q
        · exact absurd q hne
        · exact q.1
      rw [g5 x hx, HB x hx, hxm]
      constructor
      · rintro ⟨⟨q1, q2⟩, q3⟩
        have hxm2 : x < m := by omega
        refine ⟨Or.inl hxm2, (HO x hxm2).mpr ⟨q2, ?_⟩⟩
        rcases Classical.em ((ot x).toInt = (t : Int)) with z | z
        · exact Or.inl z
        · refine Or.inr (fun w => ?_)
          have e := H1 x i hxm2 hi q2 gh (sm_s w.2.2.2) g1
          subst e
          exact w.1 (by rw [uC_a hd (by omega) (by have := hty2 x hxm2; omega) w.2.2.1 g3])
      · rintro ⟨q1 | q1, q2⟩
        · have q3 := (HO x q1).mp q2
          refine ⟨⟨by omega, q3.1⟩, fun w => ?_⟩
          have e := H1 x i q1 hi q3.1 gh ((hsg x q1).mp w.2.2) g1
          omega
        · exfalso
          subst q1
          rcases (HN x (Nat.le_refl x)).mp q2 with z | ⟨z1, z2, z3, z4⟩
          · rw [hTT] at z; omega
          · refine z4 i (by omega) ?_
            rw [hTT, (hN i hi).1]
            exact ⟨oi, hut i hi gh, g3, g1⟩
    · -- the new one is had
      rw [g2 x hx, HB x hx, hxm]
      have gno : ∀ y : Nat, y < m → hadM pa ot na my pm mn (nI t) (nI y) → smM na' my' pm' (nI y) (nI m) → ¬ uM pa (ot y) T = true := by
        intro y hy2 h1 h2 h3
        refine g1 y (Nat.zero_le y) hy2 ⟨(hsg y hy2).mpr h2, (HB y (by omega)).mpr ⟨by omega, h1⟩⟩ ?_
        rw [hTT, (hN y hy2).1, UX _ _ (hty2 y hy2) hT]
        exact h3
      constructor
      · rintro (⟨⟨q1, q2⟩, q3⟩ | q)
        · have hxm2 : x < m := by omega
          refine ⟨Or.inl hxm2, (HO x hxm2).mpr ⟨q2, ?_⟩⟩
          rcases Classical.em ((ot x).toInt = (t : Int)) with z | z
          · exact Or.inl z
          · exact Or.inr (fun w => q3 ⟨Nat.zero_le x, hxm2, (hsg x hxm2).mpr (sm_s w.2.2.2)⟩)
        · subst q
          refine ⟨Or.inr rfl, (HN x (Nat.le_refl x)).mpr ?_⟩
          rw [hTT]
          rcases Classical.em (T.toInt = (t : Int)) with z | z
          · exact Or.inl z
          · have hw6 : (na' x).toInt ≠ 6 := by
              rcases c with q | q
              · omega
              · exact q.1
            refine Or.inr ⟨z, hw6, hUT, fun j hj w => ?_⟩
            have hjm : j < x := by
              rcases Nat.lt_or_eq_of_le hj with q | q
              · exact q
              · subst q; rw [hTT] at w; exact absurd rfl w.1
            rw [(hN j hjm).1] at w
            obtain ⟨y, ⟨y1, y2, y3⟩, y4⟩ := max_of (P := fun y => y < x ∧ smM na' my' pm' (nI y) (nI x) ∧ uM pa (nI t) (ot y) = true) (v := fun y => (ot y).toInt) (fun y q => by have := hty2 y q.1; omega) ⟨j, hjm, w.2.2.2, w.2.1⟩
            have hy6 : (na y).toInt ≠ 6 := by rw [n6 y y1 y2]; exact hw6
            have hhad : hadM pa ot na my pm mn (nI t) (nI y) := by
              rw [HM y y1]
              rcases Classical.em ((ot y).toInt = (t : Int)) with z2 | z2
              · exact Or.inl z2
              · refine Or.inr ⟨z2, hy6, y3, fun o ho v => ?_⟩
                have k1 := y4 o ⟨ho, sm_t ((nw_sm (by omega) hN hy ho y1).mpr v.2.2.2) y2, v.2.1⟩
                have k2 := uC_le hd (by have := hty2 o ho; omega) v.2.2.1
                have := v.1
                omega
            refine gno y y1 hhad y2 ?_
            rcases uC_l hd (by omega) (by have := hty2 y y1; omega) (by have := hty2 j hjm; omega) y3 w.2.1 with q | q
            · exact uM_tr hd q w.2.2.1 (by omega)
            · have k1 := y4 j ⟨hjm, w.2.2.2, w.2.1⟩
              have k2 := uC_le hd (by have := hty2 j hjm; omega) q
              have e : ot y = ot j := xJ (by omega)
              rw [e]; exact w.2.2.1
      · rintro ⟨q1 | q1, q2⟩
        · have q3 := (HO x q1).mp q2
          refine Or.inl ⟨⟨by omega, q3.1⟩, fun w => ?_⟩
          have ws := (hsg x q1).mp w.2.2
          have n1 := gno x q1 q3.1 ws
          have u1 := hut x q1 q3.1
          have u2 : uM pa T (ot x) = true := by
            rcases uC_l hd (by omega) (by omega) (by have := hty2 x q1; omega) hUT u1 with q | q
            · exact q
            · exact absurd q n1
          rcases q3.2 with z | z
          · refine n1 ?_
            have e : ot x = nI t := xJ (by omega)
            rw [e]; exact hUT
          · refine z ⟨fun q => n1 ?_, hUT, u2, sm_s ws⟩
            have e : T = ot x := xJ q
            rw [e]; exact uC_r
        · exact Or.inr q1
  · have hp := hA2 (fun q => c (hC.mp q))
    rw [hp, HB x hx, hxm]
    have hnU : ¬ ((na' m).toInt ≠ 6 ∧ uM pa (nI t) T = true) := fun q => c (Or.inr q)
    constructor
    · rintro ⟨q1, q2⟩
      have hxm2 : x < m := by omega
      refine ⟨Or.inl hxm2, (HO x hxm2).mpr ⟨q2, ?_⟩⟩
      rcases (HM x hxm2).mp q2 with z | z
      · exact Or.inl z
      · refine Or.inr (fun w => hnU ⟨?_, w.2.1⟩)
        have := w.2.2.2.1
        rw [hmc, nI_c (k := x) (by omega), (hN x hxm2).2.1] at this
        rw [this]; exact z.2.1
    · rintro ⟨q1 | q1, q2⟩
      · exact ⟨by omega, ((HO x q1).mp q2).1⟩
      · exfalso
        subst q1
        rcases (HN x (Nat.le_refl x)).mp q2 with z | ⟨_, z2, z3, _⟩
        · rw [hTT] at z; exact c (Or.inl z.symm)
        · rw [hTT] at z3; exact hnU ⟨z2, z3⟩
/-- a type more has what its parent has, but the makers -/
theorem ty_x {pa ot na re my pm : Nat → Int32} {ha nm : Nat → Int64} {ty mn p : Int32} (hd0 : paD pa) (hd : paD (upd pa ty.toNatClampNeg p)) (hty : 2 ≤ ty.toInt ∧ ty.toInt ≤ 9) (hp : 0 ≤ p.toInt ∧ p.toInt < ty.toInt) (hmn : 0 ≤ mn.toInt ∧ mn.toInt ≤ 40) (hX : mbX ty ot na re my pm mn) (hN : nmR nm na mn) (hH : hbR ha pa ot na my pm ty mn) : hbR (vp_updL ha ty.toNatClampNeg ((ha p.toNatClampNeg) &&& ((nm 6) ^^^ (-1)))) (upd pa ty.toNatClampNeg p) ot na my pm (ty + 1) mn := by
  intro t i ht hi
  have e1 : (ty + 1).toInt = ty.toInt + 1 := iAdd rfl (by decide) (by omega) (by omega)
  have htx := xN (x := ty) (by omega)
  have hpx := xN hp.1
  have hU := uM_n (t := p) hd0 hty
  have hok : ∀ j : Nat, (j : Int) < mn.toInt → okT ty (ot (nI j).toNatClampNeg) := fun j q => by rw [nI_c (by omega)]; have := (hX j q).1.2.2; exact Or.inl (by omega)
  by_cases e : t = ty.toNatClampNeg
  · subst e
    rw [pk_uLs, l_and, l_xor, l_m1 i hi, nI_self (by omega)]
    have hx : (bl (ha p.toNatClampNeg) i && (bl (nm 6) i ^^ true)) = true ↔ (bl (ha p.toNatClampNeg) i = true ∧ ¬ bl (nm 6) i = true) := by cases bl (ha p.toNatClampNeg) i <;> cases bl (nm 6) i <;> simp
    rw [hx, hH _ _ (by omega) hi, hN 6 i (by omega) hi, nI_self hp.1]
    have hc : cM ty = ty := cM_2 (by omega)
    have hcp : cM p = p := cM_2 (by omega)
    have UU : ∀ j : Nat, (j : Int) < mn.toInt → (uM (upd pa ty.toNatClampNeg p) ty (ot j) = true ↔ uM pa p (ot j) = true) := by
      intro j q
      have o := (hX j q).1.2.2
      have w := (up_uM (b := ot j) hd hty hp (by omega)).1
      rw [w, hU p (ot j) (Or.inl (by omega))]
      exact ⟨fun z => z.elim (fun z => by rw [z] at o; omega) id, Or.inr⟩
    have OV : ∀ j : Nat, (j : Int) < mn.toInt → (ovM (upd pa ty.toNatClampNeg p) ot na my pm ty (nI i) (nI j) ↔ ovM pa ot na my pm p (nI i) (nI j)) := by
      intro j q
      unfold ovM
      rw [nI_c (k := j) (by omega), UU j q, hU _ _ (Or.inl (by have := (hX j q).1.2.2; omega))]
    constructor
    · rintro ⟨⟨q1, q2⟩, q3⟩
      have n6 : (na (nI i).toNatClampNeg).toInt ≠ 6 := by rw [nI_c (by omega)]; exact fun w => q3 ⟨q1, w⟩
      have o := (hX i q1).1.2.2
      refine ⟨q1, Or.inr ?_⟩
      rw [hc]
      refine ⟨by rw [nI_c (by omega)]; omega, n6, ?_, fun j hj w => ?_⟩
      · rw [nI_c (k := i) (by omega), UU i q1]
        unfold hadM at q2
        rw [hcp, nI_c (k := i) (by omega)] at q2
        rcases q2 with ⟨z, _⟩ | z
        · rw [show ot i = p from xJ z]; exact uC_r
        · exact z.2.2.1
      · rw [OV j hj] at w
        unfold hadM at q2
        rw [hcp] at q2
        rcases q2 with ⟨z, _⟩ | z
        · have oj := (hX j hj).1.2.2
          unfold ovM at w
          have e3 : ot (nI i).toNatClampNeg = p := xJ z
          rw [e3] at w
          exact w.1 (by rw [uC_a hd0 (by rw [nI_c (by omega)]; omega) (by omega) w.2.2.1 w.2.1])
        · exact z.2.2.2 j hj w
    · rintro ⟨q1, q2⟩
      have o := (hX i q1).1.2.2
      unfold hadM at q2
      rw [hc] at q2
      rcases q2 with ⟨z, _⟩ | ⟨z1, z2, z3, z4⟩
      · rw [nI_c (by omega)] at z; omega
      · refine ⟨⟨q1, ?_⟩, fun w => z2 (by rw [nI_c (by omega)]; exact w.2)⟩
        unfold hadM
        rw [hcp]
        rw [nI_c (k := i) (by omega), UU i q1] at z3
        rcases Classical.em ((ot (nI i).toNatClampNeg).toInt = p.toInt) with y | y
        · exact Or.inl ⟨y, Or.inl z2⟩
        · exact Or.inr ⟨y, z2, by rw [nI_c (k := i) (by omega)]; exact z3, fun j hj w => z4 j hj ((OV j hj).mpr w)⟩
  · rw [pk_uLn e, hH t i (by omega) hi]
    refine and_congr_right fun _ => ?_
    have htn := nI_toInt (n := t) (by omega)
    exact (had_c hU hok (Or.inl (by rw [cM_2 (by omega)]; omega))).symm
/-- which member stands for the one that was found -/
theorem tf_x {pa ot na re my pm : Nat → Int32} {ty mn t : Int32} {s : Int64} {c b : Nat} (hd : paD pa) (hty : 2 ≤ ty.toInt ∧ ty.toInt ≤ 10) (hmn : 0 ≤ mn.toInt ∧ mn.toInt ≤ 40) (hX : mbX ty ot na re my pm mn) (ht : (0 ≤ t.toInt ∧ t.toInt < ty.toInt) ∨ 20 ≤ t.toInt) (hb : ∀ i : Nat, i < 64 → (bl s i = true ↔ ((i : Int) < mn.toInt ∧ hadM pa ot na my pm mn t (nI i)))) (hc : (c : Int) < mn.toInt) (hsg : ∀ i : Nat, (i : Int) < mn.toInt → (sgM na my pm i = sgM na my pm c ↔ smM na my pm (nI i) (nI c))) (h : tfX na my pm s mn c b) : chL pa ot na my pm mn t (nI c) (nI b) mn.toNatClampNeg ∧ (b : Int) < mn.toInt := by
  have hmx := xN hmn.1
  rcases h with ⟨h1, h2, h3, _⟩ | ⟨h1, h2⟩
  · have k1 := (hsg b h1).mp h2
    have k2 := ((hb b (by omega)).mp h3).2
    refine ⟨Or.inr ⟨b, by omega, rfl, ⟨k1, k2⟩, fun j q1 q2 q3 => ?_⟩, h1⟩
    have := had_1 hd hty (by omega) hX ht h1 (by omega) k2 q3.2 (sm_t k1 (sm_s q3.1))
    omega
  · rw [h1]
    refine ⟨Or.inl ⟨rfl, fun j q1 q2 => ?_⟩, hc⟩
    exact h2 j (by omega) ⟨(hsg j (by omega)).mpr q2.1, (hb j (by omega)).mpr ⟨by omega, q2.2⟩⟩
end
section
/-! what a reference means is the same -/
/-- a maker is neither static nor abstract -/
def mkS (na ma : Nat → Int32) (mn : Int32) : Prop := ∀ j : Nat, (j : Int) < mn.toInt → (na j).toInt = 6 → (ma j &&& 1).toInt = 0 ∧ (ma j &&& 2).toInt = 0
/-- what holds of types, members, their sets -/
def mmR (up xpa pa : Nat → Int32) (ty : Int32) (ot na re ma my pm : Nat → Int32) (mn : Int32) (ha nm : Nat → Int64) (St Ab Va : Int64) : Prop := upR up pa ty ∧ paD pa ∧ (∀ k : Nat, 1 ≤ k → (k : Int) < ty.toInt → xpa k = pa k ∧ 0 ≤ (pa k).toInt ∧ (pa k).toInt < ty.toInt) ∧ mbS ty ma my pm mn ∧ mbX ty ot na re my pm mn ∧ mkS na ma mn ∧ mbD ot na re mn ∧ hbR ha pa ot na my pm ty mn ∧ nmR nm na mn ∧ stR St ma 1 mn ∧ stR Ab ma 2 mn ∧ stR Va ma 4 mn
/-- what holds of a face -/
def fcR (ty : Int32) (fy fa fr : Nat → Int32) (f : Int32) : Prop := (0 ≤ f.toInt ∧ f.toInt < 10) ∧ (0 ≤ (fy f.toNatClampNeg).toInt ∧ (fy f.toNatClampNeg).toInt ≤ 3) ∧ (∀ i : Nat, plT ty (fa i)) ∧ anyT ty (fr f.toNatClampNeg)
/-- what holds of a reference: form, type, name -/
def rfR (ty fo t w : Int32) : Prop := (0 ≤ fo.toInt ∧ fo.toInt ≤ 4) ∧ (fo.toInt ≠ 4 → 0 ≤ t.toInt ∧ t.toInt < ty.toInt) ∧ (fo.toInt = 4 → (0 ≤ t.toInt ∧ t.toInt < ty.toInt) ∨ t.toInt = 10) ∧ (fo.toInt = 2 → t.toInt ≠ 0) ∧ (fo.toInt ≤ 2 → 0 ≤ w.toInt ∧ w.toInt ≤ 5)
def rwF (fo w : Int32) : Int32 := if fo.toInt = 3 then 6 else w
theorem rw_b {ty fo t w : Int32} (h : rfR ty fo t w) (h4 : fo.toInt ≠ 4) : 0 ≤ (rwF fo w).toInt ∧ (rwF fo w).toInt ≤ 6 := by
  obtain ⟨h1, _, _, _, h5⟩ := h
  have z6 : (6 : Int32).toInt = 6 := by decide
  unfold rwF
  split
  · omega
  · have := h5 (by omega)
    omega
theorem ts_b {xpa pa : Nat → Int32} {ty fo t w : Int32} (hP : ∀ k : Nat, 1 ≤ k → (k : Int) < ty.toInt → xpa k = pa k ∧ 0 ≤ (pa k).toInt ∧ (pa k).toInt < ty.toInt) (h : rfR ty fo t w) (h4 : fo.toInt ≠ 4) : (0 ≤ (tsX xpa ty fo t).toInt ∧ (tsX xpa ty fo t).toInt < ty.toInt) ∧ (fo.toInt = 2 → tsX xpa ty fo t = pa t.toNatClampNeg) ∧ (fo.toInt ≠ 2 → tsX xpa ty fo t = t) := by
  obtain ⟨h1, h2, _, h3, _⟩ := h
  have ht := h2 h4
  by_cases q : fo.toInt = 2
  · have hx := xN ht.1
    have := hP t.toNatClampNeg (by have := h3 q; omega) (by omega)
    rw [ts_1 q ht, this.1]
    exact ⟨this.2, fun _ => rfl, fun w => absurd q w⟩
  · rw [ts_3 q]
    exact ⟨ht, fun w => absurd w q, fun _ => rfl⟩
/-- the first search -/
theorem r1_x {up xpa pa ot na re ma my pm fy fa fr : Nat → Int32} {ty mn t w f : Int32} {ha nm : Nat → Int64} {St Ab Va : Int64} {f9 p9 : Int32} {t9 : Int64} {o9 : Option Nat} (hR : mmR up xpa pa ty ot na re ma my pm mn ha nm St Ab Va) (hF : fcR ty fy fa fr f) (ht : 0 ≤ t.toInt ∧ t.toInt < ty.toInt) (hw : 0 ≤ w.toInt ∧ w.toInt ≤ 6) (h : rsX up ma my pm (nmX ha nm t w) t (fy f.toNatClampNeg).toNatClampNeg (cutF fy fa f.toNatClampNeg) mn 0 f9 t9 p9 o9) :
    srM pa ot na my pm ma fa fy mn t w f 0 p9 (anX o9 t9) ∧ (∀ j : Nat, j < 64 → (bl t9 j = true ↔ ((j : Int) < mn.toInt ∧ p9.toInt ≠ 0 ∧ fitM pa ot na my pm ma fa fy mn t w f 0 p9 j))) ∧ (t9 = 0 ↔ p9.toInt = 0) ∧ (∀ c : Nat, o9 = some c → (c : Int) < mn.toInt ∧ bl t9 c = true) := by
  have z0 : (0 : Int32).toInt = 0 := by decide
  obtain ⟨hU, hd, hP, hS, hX, hK, hB, hH, hN, _⟩ := hR
  obtain ⟨hf, hfy, hA, _⟩ := hF
  rcases h with ⟨⟨q, _⟩, _⟩ | ⟨_, q2, q3, q4⟩
  · exact absurd z0 q
  · rcases q2 with ⟨q, _⟩ | ⟨_, q⟩
    · exact absurd z0 q
    · subst q
      exact sr_x hU hS hA hf hfy (Or.inl rfl) (by omega) (ns_x hS.1 hS.2.1.2 hH hN (Or.inl ht) hw) q3 q4
/-- the second one -/
theorem r2_x {up xpa pa ot na re ma my pm fy fa fr : Nat → Int32} {ty mn t w f : Int32} {ha nm : Nat → Int64} {St Ab Va : Int64} {f9 p9 : Int32} {t9 : Int64} {o9 : Option Nat} (hR : mmR up xpa pa ty ot na re ma my pm mn ha nm St Ab Va) (hF : fcR ty fy fa fr f) (ht : 0 ≤ t.toInt ∧ t.toInt < ty.toInt) (hw : 0 ≤ w.toInt ∧ w.toInt ≤ 6) (h : rsX up ma my pm (nmX ha nm t w) t (fy f.toNatClampNeg).toNatClampNeg (cutF fy fa f.toNatClampNeg) mn 1 f9 t9 p9 o9) :
    s2M pa ot na my pm ma fa fy mn t w f p9 (anX o9 t9) ∧ (∀ j : Nat, j < 64 → (bl t9 j = true ↔ ((j : Int) < mn.toInt ∧ c2M pa fa fy t f ∧ p9.toInt ≠ 0 ∧ fitM pa ot na my pm ma fa fy mn t w f 1 p9 j))) ∧ (t9 = 0 ↔ p9.toInt = 0) ∧ (∀ c : Nat, o9 = some c → (c : Int) < mn.toInt ∧ bl t9 c = true) := by
  have z1 : (1 : Int32).toInt = 1 := by decide
  have z0 : (0 : Int32).toInt = 0 := by decide
  obtain ⟨hU, hd, hP, hS, hX, hK, hB, hH, hN, _⟩ := hR
  obtain ⟨hf, hfy, hA, _⟩ := hF
  have hfx := xN hfy.1
  have hff := xN hf.1
  have e0 : (3 * f).toNatClampNeg = 3 * f.toNatClampNeg := by
    have : (3 * f).toInt = 3 * f.toInt := iMul (by decide) rfl (by omega) (by omega)
    exact tN (by omega)
  have hC : ((fy f.toNatClampNeg).toNatClampNeg = 0 ∨ ¬ xU up (cutF fy fa f.toNatClampNeg 0) t) ↔ ¬ c2M pa fa fy t f := by
    unfold c2M
    by_cases q : (fy f.toNatClampNeg).toNatClampNeg = 0
    · exact ⟨fun _ w => w.1 (by omega), fun _ => Or.inl q⟩
    · have ec : cutF fy fa f.toNatClampNeg 0 = fa (3 * f).toNatClampNeg := by rw [cut_at (by omega), e0]; rfl
      rw [ec, hU.2 _ _ (pl_any (hA _)) (by have := hS.1; omega)]
      constructor
      · rintro (w | w) z
        · exact q w
        · exact w z.2
      · intro w
        exact Or.inr (fun z => w ⟨by omega, z⟩)
  rcases h with ⟨⟨_, q⟩, _, q2, q3, q4⟩ | ⟨q1, q2, q3, q4⟩
  · have hn := hC.mp q
    subst q2; subst q3; subst q4
    refine ⟨Or.inr ⟨hn, rfl, an_2 rfl rfl⟩, fun j _ => ?_, ⟨fun _ => z0, fun _ => rfl⟩, fun c hc => by cases hc⟩
    rw [l_0]
    exact ⟨fun z => (by cases z), fun z => absurd z.2.1 hn⟩
  · have hy : c2M pa fa fy t f := Classical.byContradiction (fun w => q1 ⟨by omega, hC.mpr w⟩)
    rcases q2 with ⟨_, q⟩ | ⟨q, _⟩
    · subst q
      obtain ⟨a1, a2, a3, a4⟩ := sr_x hU hS hA hf hfy (Or.inr rfl) (by have := hy.1; omega) (ns_x hS.1 hS.2.1.2 hH hN (Or.inl ht) hw) q3 q4
      exact ⟨Or.inl ⟨hy, a1⟩, fun j q => (a2 j q).trans ⟨fun z => ⟨z.1, hy, z.2⟩, fun z => ⟨z.1, z.2.2⟩⟩, a3, a4⟩
    · omega
/-- the answer of a search, and what it is not -/
theorem an_b {o : Option Nat} {T : Int64} {p mn : Int32} (hmn : mn.toInt ≤ 40) (hT : T = 0 ↔ p.toInt = 0) (hc : ∀ c : Nat, o = some c → (c : Int) < mn.toInt ∧ bl T c = true) : (o = none ∧ T = 0 ∧ p.toInt = 0 ∧ anX o T = -4) ∨ (o = none ∧ T ≠ 0 ∧ p.toInt ≠ 0 ∧ anX o T = -5) ∨ ∃ c : Nat, o = some c ∧ (c : Int) < mn.toInt ∧ T ≠ 0 ∧ p.toInt ≠ 0 ∧ anX o T = nI c ∧ (nI c).toInt = (c : Int) ∧ (nI c).toNatClampNeg = c := by
  cases o with
  | none =>
    by_cases q : T = 0
    · exact Or.inl ⟨rfl, q, hT.mp q, an_2 rfl q⟩
    · exact Or.inr (Or.inl ⟨rfl, q, fun w => q (hT.mpr w), an_3 rfl q⟩)
  | some c =>
    obtain ⟨h1, h2⟩ := hc c rfl
    have hz : T ≠ 0 := fun q => by rw [q, l_0] at h2; cases h2
    exact Or.inr (Or.inr ⟨c, rfl, h1, hz, fun w => hz (hT.mpr w), an_1 rfl, nI_toInt (by omega), nI_c (by omega)⟩)
/-- what is asked of the meaning: the reference's mnM, and what the class holds -/
def miR (pa ot na re my pm ma fa fy : Nat → Int32) (mn fo t w f : Int32) (s9 : Int32) (o : Option Nat) (ph : Int32) (r : Int32) : Prop := ∃ sc mp r1 : Int32, mnM pa ot na my pm ma fa fy mn fo t w f sc mp r1 ∧ ((r.toInt ≠ 0 ∧ r1 = -10 - r) ∨ (r.toInt = 0 ∧ 0 ≤ r1.toInt ∧ sc = s9 ∧ wcX re fo t o = cmM re fo t r1 ∧ ((o = none ∧ r1 = 99) ∨ ∃ c : Nat, o = some c ∧ r1 = nI c ∧ (c : Int) < mn.toInt ∧ mp = ph)))
theorem mi_x {up xpa pa ot na re ma my pm fy fa fr : Nat → Int32} {ty mn fo t w f : Int32} {ha nm : Nat → Int64} {St Ab Va : Int64} {f1 p1 f2 p2 : Int32} {T U : Int64} {o1 o2 : Option Nat} {b9 : Value} {s9 r : Int32} (hR : mmR up xpa pa ty ot na re ma my pm mn ha nm St Ab Va) (hF : fcR ty fy fa fr f) (hf : rfR ty fo t w)
    (h1 : fo.toInt ≠ 4 → rsX up ma my pm (nmX ha nm (tsX xpa ty fo t) (rwF fo w)) (tsX xpa ty fo t) (fy f.toNatClampNeg).toNatClampNeg (cutF fy fa f.toNatClampNeg) mn 0 f1 T p1 o1) (h2 : fo.toInt = 0 → rsX up ma my pm (nmX ha nm t (rwF fo w)) t (fy f.toNatClampNeg).toNatClampNeg (cutF fy fa f.toNatClampNeg) mn 1 f2 U p2 o2)
    (h3 : faX up ma St Ab ha nm (fy f.toNatClampNeg).toNatClampNeg (cutF fy fa f.toNatClampNeg) fo t T U o1 o2 .null 0 b9 s9 r) : miR pa ot na re my pm ma fa fy mn fo t w f s9 (meO b9 o1 o2) (mePh b9 p1 p2) r := by
  have z0 : (0 : Int32).toInt = 0 := by decide
  have z1 : (1 : Int32).toInt = 1 := by decide
  have z2 : (2 : Int32).toInt = 2 := by decide
  have z3 : (3 : Int32).toInt = 3 := by decide
  have z4 : (4 : Int32).toInt = 4 := by decide
  have z5 : (-5 : Int32).toInt = -5 := by decide
  have zm : (-4 : Int32).toInt = -4 := by decide
  have z99 : (99 : Int32).toInt = 99 := by decide
  have d1 : (-10 - 1 : Int32) = -11 := by decide
  have d2 : (-10 - 2 : Int32) = -12 := by decide
  have d3 : (-10 - 3 : Int32) = -13 := by decide
  have d4 : (-10 - 4 : Int32) = -14 := by decide
  have hR0 := hR
  obtain ⟨hU, hd, hP, hS, hX, hK, hB, hH, hN, hSt, hAb, hVa⟩ := hR
  have hmn := hS.2.1
  have hty := hS.1
  have hF0 := hF
  obtain ⟨hff, hfy, hA, hfr⟩ := hF
  have hfx := xN hfy.1
  obtain ⟨g1, g2, g3, g4, g5⟩ := hf
  have hfxf := xN hff.1
  have e0 : (3 * f).toNatClampNeg = 3 * f.toNatClampNeg := by
    have : (3 * f).toInt = 3 * f.toInt := iMul (by decide) rfl (by omega) (by omega)
    exact tN (by omega)
  by_cases k4 : fo.toInt = 4
  · -- rows
    have hL : ((fy f.toNatClampNeg).toNatClampNeg = 1 ∧ xL up (cutF fy fa f.toNatClampNeg 0) 10) ↔ ((fy f.toNatClampNeg).toInt = 1 ∧ lM pa (fa (3 * f).toNatClampNeg) 10) := by
      by_cases q : (fy f.toNatClampNeg).toInt = 1
      · have ec : cutF fy fa f.toNatClampNeg 0 = fa (3 * f).toNatClampNeg := by rw [cut_at (by omega), e0]; rfl
        rw [ec, up_L hU hS.1.1 (pl_any (hA _)) (by decide)]
        exact ⟨fun z => ⟨q, z.2⟩, fun z => ⟨by omega, z.2⟩⟩
      · exact ⟨fun z => by omega, fun z => absurd z.1 q⟩
    rcases h3 with ⟨_, q2, q3, ⟨q4, q5⟩ | ⟨q4, q5⟩⟩ | ⟨q, _⟩ | ⟨q, _⟩ | ⟨q, _⟩ | ⟨q, _⟩
    · subst q2; subst q3; subst q5
      refine ⟨0, 0, 99, Or.inr (Or.inr (Or.inr (Or.inr ⟨by omega, rfl, rfl, Or.inl ⟨hL.mp q4, rfl⟩⟩))), Or.inr ⟨z0, by omega, rfl, ?_, Or.inl ⟨rfl, rfl⟩⟩⟩
      unfold wcX cmM
      rw [if_pos k4, if_pos k4]
    · subst q2; subst q3; subst q5
      exact ⟨0, 0, -11, Or.inr (Or.inr (Or.inr (Or.inr ⟨by omega, rfl, rfl, Or.inr ⟨fun z => q4 (hL.mpr z), rfl⟩⟩))), Or.inl ⟨by omega, d1.symm⟩⟩
    · omega
    · omega
    · omega
    · omega
  · have ht := g2 k4
    have hw := rw_b (w := w) ⟨g1, g2, g3, g4, g5⟩ k4
    obtain ⟨tb, t2, t3⟩ := ts_b hP (w := w) ⟨g1, g2, g3, g4, g5⟩ k4
    obtain ⟨s1, s2, s3, s4⟩ := r1_x hR0 hF0 tb hw (h1 k4)
    have A1 := an_b hmn.2 s3 s4
    -- one search alone
    have one : ∀ (t' w' : Int32), tsX xpa ty fo t = t' → rwF fo w = w' → fo.toInt ≠ 0 → s9 = 0 → ffX ma T o1 fo .null b9 r → (fo.toInt = 3 → (∀ c : Nat, o1 = some c → (ma c &&& 1).toInt = 0)) → ∃ r1 : Int32, oneM pa ot na my pm ma fa fy mn t' w' f p1 r1 ∧ ((r.toInt = 1 ∧ r1 = -11) ∨ (r.toInt = 2 ∧ r1 = -12) ∨ ∃ c : Nat, o1 = some c ∧ (c : Int) < mn.toInt ∧ r1 = nI c ∧ b9 = .ref 10 ∧ ((r.toInt = 3 ∧ (ma c &&& 1).toInt ≠ 0) ∨ (r.toInt = 4 ∧ (ma c &&& 1).toInt = 0 ∧ fo.toInt = 2 ∧ (ma c &&& 2).toInt ≠ 0) ∨ (r.toInt = 0 ∧ (ma c &&& 1).toInt = 0 ∧ ¬ (fo.toInt = 2 ∧ (ma c &&& 2).toInt ≠ 0)))) := by
      intro t' w' et ew _ _ hff2 _
      rw [et, ew] at s1
      rcases A1 with ⟨a1, a2, a3, a4⟩ | ⟨a1, a2, a3, a4⟩ | ⟨c, a1, a2, a3, a4, a5, a6, a7⟩
      · refine ⟨-11, ⟨_, s1, Or.inl ⟨by rw [a4]; exact zm, rfl⟩⟩, Or.inl ⟨?_, rfl⟩⟩
        rcases hff2 with ⟨_, _, ⟨_, q⟩ | ⟨q, _⟩⟩ | ⟨c, q, _⟩
        · rw [q]; exact z1
        · exact absurd a2 q
        · rw [a1] at q; cases q
      · refine ⟨-12, ⟨_, s1, Or.inr (Or.inl ⟨by rw [a4]; exact z5, rfl⟩)⟩, Or.inr (Or.inl ⟨?_, rfl⟩)⟩
        rcases hff2 with ⟨_, _, ⟨q, _⟩ | ⟨_, q⟩⟩ | ⟨c, q, _⟩
        · exact absurd q a2
        · rw [q]; exact z2
        · rw [a1] at q; cases q
      · refine ⟨nI c, ⟨_, s1, Or.inr (Or.inr ⟨by rw [a5]; omega, by rw [a5]; omega, a5.symm⟩)⟩, Or.inr (Or.inr ⟨c, a1, a2, rfl, ?_⟩)⟩
        rcases hff2 with ⟨q, _⟩ | ⟨c', q, q2, q3⟩
        · rw [a1] at q; cases q
        · rw [a1] at q; cases q
          refine ⟨q2, ?_⟩
          rcases q3 with ⟨w1, w2⟩ | ⟨w1, w2, w3⟩ | ⟨w1, w2, w3⟩
          · exact Or.inl ⟨by rw [w2]; exact z3, w1⟩
          · exact Or.inr (Or.inl ⟨by rw [w3]; exact z4, w1, w2⟩)
          · exact Or.inr (Or.inr ⟨by rw [w3]; exact z0, w1, w2⟩)
    have wc : ∀ c : Nat, fo.toInt ≠ 3 → (c : Int) < mn.toInt → wcX re fo t (some c) = cmM re fo t (nI c) := fun c q q2 => by
      rw [wc_4 k4]
      unfold cmM
      rw [if_neg k4, if_neg q, nI_c (by omega)]
    have em : ∀ q : Int32, q.toInt = 1 → q = 1 := fun q h => xJ (by omega)
    rcases h3 with ⟨q, _⟩ | ⟨k3, q1, q2, q3, q4⟩ | ⟨k3, q1, q2, q3, q4, q5⟩ | ⟨_, _, k0, hb⟩ | ⟨_, k3, k0, q1, q2⟩
    · exact absurd q k4
    · -- an open type
      have hop := (op_x hS.1 hmn.2 hH hN hAb (Or.inl ht)).mp q1
      subst q4
      exact ⟨0, 0, -14, Or.inr (Or.inr (Or.inr (Or.inl ⟨k3, rfl, Or.inl ⟨hop, rfl, rfl⟩⟩))), Or.inl ⟨by omega, d4.symm⟩⟩
    · -- no makers
      have hop : ¬ opL pa ot na my pm ma mn t 0 := fun z => (op_x hS.1 hmn.2 hH hN hAb (Or.inl ht)).mpr z q1
      have hmk : ¬ mkE ot na mn t 0 := fun z => (mk_x hS.1 hmn.2 hH hN ht).mpr z q2
      subst q3; subst q4
      rcases q5 with ⟨q5, q6⟩ | ⟨q5, q6⟩
      · subst q6
        refine ⟨0, 0, 99, Or.inr (Or.inr (Or.inr (Or.inl ⟨k3, rfl, Or.inr (Or.inl ⟨hop, hmk, rfl, Or.inl ⟨by omega, rfl⟩⟩)⟩))), Or.inr ⟨z0, by omega, rfl, ?_, Or.inl ⟨rfl, rfl⟩⟩⟩
        show wcX re fo t none = _
        rw [wc_3 k4]
        unfold cmM
        rw [if_neg k4, if_pos k3]
      · subst q6
        exact ⟨0, 0, -11, Or.inr (Or.inr (Or.inr (Or.inl ⟨k3, rfl, Or.inr (Or.inl ⟨hop, hmk, rfl, Or.inr ⟨by omega, rfl⟩⟩)⟩))), Or.inl ⟨by omega, d1.symm⟩⟩
    · -- both searches
      have ew : rwF fo w = w := by unfold rwF; rw [if_neg (by omega)]
      have h2' := h2 k0
      rw [ew] at h2' hw
      obtain ⟨u1, u2, u3, u4⟩ := r2_x hR0 hF0 ht hw h2'
      have A2 := an_b hmn.2 u3 u4
      rw [t3 (by omega), ew] at s1 s2
      have eS : T &&& St ≠ 0 ↔ S1M pa ot na my pm ma fa fy mn t w f p1 := by
        rw [l_nz]
        constructor
        · rintro ⟨i, hi, hh⟩
          rw [l_and, Bool.and_eq_true, s2 i hi, hSt i hi] at hh
          exact ⟨i, hh.1.1, hh.1.2, hh.2.2⟩
        · rintro ⟨i, hi, hh, hs⟩
          exact ⟨i, by omega, by rw [l_and, Bool.and_eq_true, s2 i (by omega), hSt i (by omega)]; exact ⟨⟨hi, hh⟩, hi, hs⟩⟩
      have eA : U &&& (St ^^^ (-1)) = 0 ↔ A2M pa ot na my pm ma fa fy mn t w f p2 := by
        constructor
        · intro z j hj hh
          rcases Classical.em ((ma j &&& 1).toInt ≠ 0) with q | q
          · exact q
          · exfalso
            refine l_nz.mpr ⟨j, by omega, ?_⟩ z
            rw [l_and, l_xor, l_m1 j (by omega), Bool.and_eq_true, u2 j (by omega)]
            refine ⟨⟨hj, hh⟩, ?_⟩
            have : bl St j = false := Bool.eq_false_iff.mpr (fun w => q ((hSt j (by omega)).mp w).2)
            rw [this]; rfl
        · intro z
          rcases Classical.em (U &&& (St ^^^ (-1)) = 0) with q | q
          · exact q
          · obtain ⟨j, hj, hh⟩ := l_nz.mp q
            rw [l_and, l_xor, l_m1 j hj, Bool.and_eq_true, u2 j hj] at hh
            have := (hSt j hj).mpr ⟨hh.1.1, z j hh.1.1 hh.1.2⟩
            rw [this] at hh
            exact absurd hh.2 (by decide)
      have c1 : f1C ma St U o1 ↔ (0 ≤ (anX o1 T).toInt ∧ (ma (anX o1 T).toNatClampNeg &&& 1).toInt ≠ 0 ∧ A2M pa ot na my pm ma fa fy mn t w f p2) := by
        unfold f1C
        rw [← eA]
        rcases A1 with ⟨a1, _, _, a4⟩ | ⟨a1, _, _, a4⟩ | ⟨c, a1, a2, _, _, a5, a6, a7⟩
        · rw [a4]; exact ⟨fun ⟨c, q, _⟩ => (by rw [a1] at q; cases q), fun q => by omega⟩
        · rw [a4]; exact ⟨fun ⟨c, q, _⟩ => (by rw [a1] at q; cases q), fun q => by omega⟩
        · rw [a5, a7]
          constructor
          · rintro ⟨c', q, q2, q3⟩
            rw [a1] at q; cases q
            exact ⟨by omega, q2, q3⟩
          · rintro ⟨_, q2, q3⟩
            exact ⟨c, a1, q2, q3⟩
      have c2 : f2C ma St T o2 ↔ (0 ≤ (anX o2 U).toInt ∧ ¬ (ma (anX o2 U).toNatClampNeg &&& 1).toInt ≠ 0 ∧ ¬ S1M pa ot na my pm ma fa fy mn t w f p1) := by
        unfold f2C
        rw [← eS]
        rcases A2 with ⟨a1, _, _, a4⟩ | ⟨a1, _, _, a4⟩ | ⟨c, a1, a2, _, _, a5, a6, a7⟩
        · rw [a4]; exact ⟨fun ⟨c, q, _⟩ => (by rw [a1] at q; cases q), fun q => by omega⟩
        · rw [a4]; exact ⟨fun ⟨c, q, _⟩ => (by rw [a1] at q; cases q), fun q => by omega⟩
        · rw [a5, a7]
          constructor
          · rintro ⟨c', q, q2, q3⟩
            rw [a1] at q; cases q
            exact ⟨by omega, fun w => w q2, fun w => w q3⟩
          · rintro ⟨_, q2, q3⟩
            exact ⟨c, a1, by omega, Classical.not_not.mp q3⟩
      have bz : ∀ sc mp r1 : Int32, boM ma (S1M pa ot na my pm ma fa fy mn t w f p1) (A2M pa ot na my pm ma fa fy mn t w f p2) p1 (anX o1 T) p2 (anX o2 U) sc mp r1 → mnM pa ot na my pm ma fa fy mn fo t w f sc mp r1 := fun sc mp r1 z => Or.inl ⟨k0, _, _, _, _, s1, u1, z⟩
      rcases hb with ⟨q1, q2, q3, q4⟩ | ⟨q0, q1, q2, q3, q4⟩ | ⟨q0, q1, q2, q3, q4⟩
      · subst q2; subst q3; subst q4
        obtain ⟨c, o, _, _⟩ := id q1
        refine ⟨0, p1, anX o1 T, bz _ _ _ (Or.inl ⟨c1.mp q1, rfl, rfl, rfl⟩), Or.inr ⟨z0, (c1.mp q1).1, rfl, ?_, Or.inr ⟨c, o, an_1 o, (s4 c o).1, rfl⟩⟩⟩
        show wcX re fo t o1 = _
        rw [an_1 o, o]; exact wc c (by omega) (s4 c o).1
      · subst q2; subst q3; subst q4
        obtain ⟨c, o, _, _⟩ := id q1
        refine ⟨1, p2, anX o2 U, bz _ _ _ (Or.inr (Or.inl ⟨fun z => q0 (c1.mpr z), c2.mp q1, rfl, rfl, rfl⟩)), Or.inr ⟨z0, (c2.mp q1).1, rfl, ?_, Or.inr ⟨c, o, an_1 o, (u4 c o).1, rfl⟩⟩⟩
        show wcX re fo t o2 = _
        rw [an_1 o, o]; exact wc c (by omega) (u4 c o).1
      · have n1 := fun z => q0 (c1.mpr z)
        have n2 := fun z => q1 (c2.mpr z)
        rcases q4 with ⟨w1, w2, w3⟩ | ⟨w1, w2, w3⟩ | ⟨w1, w2, w3⟩
        · subst w3
          exact ⟨0, p1, -11, bz _ _ _ (Or.inr (Or.inr (Or.inl ⟨n1, n2, rfl, rfl, ⟨s3.mp w1, u3.mp w2⟩, rfl⟩))), Or.inl ⟨by omega, d1.symm⟩⟩
        · subst w3
          refine ⟨0, p1, -12, bz _ _ _ (Or.inr (Or.inr (Or.inr (Or.inr ⟨n1, n2, rfl, rfl, fun z => w1 ⟨s3.mpr z.1, u3.mpr z.2⟩, ?_, rfl⟩)))), Or.inl ⟨by omega, d2.symm⟩⟩
          rintro ⟨y1, y2⟩
          rcases w2 with y | y
          · exact y1 (eS.mp y)
          · exact y (eA.mpr y2)
        · subst w3
          refine ⟨0, p1, -13, bz _ _ _ (Or.inr (Or.inr (Or.inr (Or.inl ⟨n1, n2, rfl, rfl, fun z => w1 ⟨s3.mpr z.1, u3.mpr z.2⟩, ⟨fun z => w2 (Or.inl (eS.mpr z)), ?_⟩, rfl⟩)))), Or.inl ⟨by omega, d3.symm⟩⟩
          exact eA.mp (Classical.not_not.mp (fun z => w2 (Or.inr z)))
    · -- one search
      have e9 : ∀ c : Nat, b9 = .ref 10 → o1 = some c → meO b9 o1 o2 = some c ∧ mePh b9 p1 p2 = p1 := fun c y1 y2 => ⟨by rw [y1]; exact y2, by rw [y1]; rfl⟩
      by_cases k1 : fo.toInt = 1
      · have ew : rwF fo w = w := by unfold rwF; rw [if_neg (by omega)]
        obtain ⟨r1, y1, y2⟩ := one t w (t3 (by omega)) ew k0 q1 q2 (fun z => by omega)
        rcases y2 with ⟨y3, y4⟩ | ⟨y3, y4⟩ | ⟨c, o, y3, y4, y5, y6⟩
        · refine ⟨0, p1, -11, Or.inr (Or.inl ⟨k1, rfl, r1, y1, Or.inr ⟨fun z => absurd z.1 (by rw [y4]; decide), y4.symm⟩⟩), Or.inl ⟨by omega, ?_⟩⟩
          rw [em r y3]; exact d1.symm
        · refine ⟨0, p1, -12, Or.inr (Or.inl ⟨k1, rfl, r1, y1, Or.inr ⟨fun z => absurd z.1 (by rw [y4]; decide), y4.symm⟩⟩), Or.inl ⟨by omega, ?_⟩⟩
          rw [show r = 2 from xJ (by omega)]; exact d2.symm
        · have hn := nI_toInt (n := c) (by omega)
          have hcc : (nI c).toNatClampNeg = c := nI_c (by omega)
          obtain ⟨e1, e2⟩ := e9 c y5 o
          rcases y6 with ⟨y7, y8⟩ | ⟨y7, y8, y9, _⟩ | ⟨y7, y8, y9⟩
          · refine ⟨0, p1, -13, Or.inr (Or.inl ⟨k1, rfl, r1, y1, Or.inl ⟨⟨by rw [y4]; omega, by rw [y4, hcc]; exact y8⟩, rfl⟩⟩), Or.inl ⟨by omega, ?_⟩⟩
            rw [show r = 3 from xJ (by omega)]; exact d3.symm
          · omega
          · refine ⟨0, p1, nI c, Or.inr (Or.inl ⟨k1, rfl, r1, y1, Or.inr ⟨fun z => by rw [y4, hcc] at z; omega, y4.symm⟩⟩), Or.inr ⟨y7, by omega, q1.symm, ?_, Or.inr ⟨c, e1, rfl, y3, e2.symm⟩⟩⟩
            rw [e1]; exact wc c (by omega) y3
      · by_cases k2 : fo.toInt = 2
        · have ew : rwF fo w = w := by unfold rwF; rw [if_neg (by omega)]
          obtain ⟨r1, y1, y2⟩ := one (pa t.toNatClampNeg) w (t2 k2) ew k0 q1 q2 (fun z => by omega)
          rcases y2 with ⟨y3, y4⟩ | ⟨y3, y4⟩ | ⟨c, o, y3, y4, y5, y6⟩
          · refine ⟨0, p1, -11, Or.inr (Or.inr (Or.inl ⟨k2, rfl, r1, y1, Or.inl ⟨by rw [y4]; decide, y4.symm⟩⟩)), Or.inl ⟨by omega, ?_⟩⟩
            rw [em r y3]; exact d1.symm
          · refine ⟨0, p1, -12, Or.inr (Or.inr (Or.inl ⟨k2, rfl, r1, y1, Or.inl ⟨by rw [y4]; decide, y4.symm⟩⟩)), Or.inl ⟨by omega, ?_⟩⟩
            rw [show r = 2 from xJ (by omega)]; exact d2.symm
          · have hn := nI_toInt (n := c) (by omega)
            have hcc : (nI c).toNatClampNeg = c := nI_c (by omega)
            obtain ⟨e1, e2⟩ := e9 c y5 o
            rcases y6 with ⟨y7, y8⟩ | ⟨y7, y8, y9, y10⟩ | ⟨y7, y8, y9⟩
            · refine ⟨0, p1, -13, Or.inr (Or.inr (Or.inl ⟨k2, rfl, r1, y1, Or.inr (Or.inl ⟨⟨by rw [y4]; omega, by rw [y4, hcc]; exact y8⟩, rfl⟩)⟩)), Or.inl ⟨by omega, ?_⟩⟩
              rw [show r = 3 from xJ (by omega)]; exact d3.symm
            · refine ⟨0, p1, -14, Or.inr (Or.inr (Or.inl ⟨k2, rfl, r1, y1, Or.inr (Or.inr (Or.inl ⟨⟨by rw [y4]; omega, by rw [y4, hcc]; exact y8, by rw [y4, hcc]; exact y10⟩, rfl⟩))⟩)), Or.inl ⟨by omega, ?_⟩⟩
              rw [show r = 4 from xJ (by omega)]; exact d4.symm
            · refine ⟨0, p1, nI c, Or.inr (Or.inr (Or.inl ⟨k2, rfl, r1, y1, Or.inr (Or.inr (Or.inr ⟨⟨by rw [y4]; omega, by rw [y4, hcc]; exact y8, ?_⟩, y4.symm⟩))⟩)), Or.inr ⟨y7, by omega, q1.symm, ?_, Or.inr ⟨c, e1, rfl, y3, e2.symm⟩⟩⟩
              · rw [y4, hcc]; omega
              · rw [e1]; exact wc c (by omega) y3
        · have k33 : fo.toInt = 3 := by omega
          obtain ⟨m1, m2⟩ := k3 k33
          have hop : ¬ opL pa ot na my pm ma mn t 0 := fun z => (op_x hS.1 hmn.2 hH hN hAb (Or.inl ht)).mpr z m1
          have hmk : mkE ot na mn t 0 := (mk_x hS.1 hmn.2 hH hN ht).mp m2
          have ew : rwF fo w = 6 := by unfold rwF; rw [if_pos k33]
          have hfit : ∀ c : Nat, o1 = some c → (na c).toInt = 6 ∧ (ot c).toInt = t.toInt := fun c o => by
            obtain ⟨b1, b2⟩ := s4 c o
            have b3 := ((s2 c (by omega)).mp b2).2.2
            rw [t3 (by omega), ew] at b3
            obtain ⟨b4, b5, _⟩ := b3
            rw [nI_c (by omega)] at b4
            have z6 : (6 : Int32).toInt = 6 := by decide
            refine ⟨by omega, ?_⟩
            unfold hadM at b5
            rw [cM_2 (by omega), nI_c (k := c) (by omega)] at b5
            rcases b5 with ⟨b6, _⟩ | ⟨_, b6, _⟩
            · exact b6
            · omega
          obtain ⟨r1, y1, y2⟩ := one t 6 (t3 (by omega)) ew k0 q1 q2 (fun _ c o => (hK c (s4 c o).1 (hfit c o).1).1)
          have fin : ∀ z : Int32, oneM pa ot na my pm ma fa fy mn t 6 f p1 z → mnM pa ot na my pm ma fa fy mn fo t w f 0 p1 z := fun z y => Or.inr (Or.inr (Or.inr (Or.inl ⟨k33, rfl, Or.inr (Or.inr ⟨hop, hmk, y⟩)⟩)))
          rcases y2 with ⟨y3, y4⟩ | ⟨y3, y4⟩ | ⟨c, o, y3, y4, y5, y6⟩
          · refine ⟨0, p1, r1, fin _ y1, Or.inl ⟨by omega, ?_⟩⟩
            rw [em r y3, y4]; exact d1.symm
          · refine ⟨0, p1, r1, fin _ y1, Or.inl ⟨by omega, ?_⟩⟩
            rw [show r = 2 from xJ (by omega), y4]; exact d2.symm
          · have hn := nI_toInt (n := c) (by omega)
            obtain ⟨e1, e2⟩ := e9 c y5 o
            have ns := (hK c y3 (hfit c o).1).1
            rcases y6 with ⟨y7, y8⟩ | ⟨y7, y8, y9, y10⟩ | ⟨y7, y8, y9⟩
            · exact absurd ns y8
            · omega
            · refine ⟨0, p1, r1, fin _ y1, Or.inr ⟨y7, by rw [y4]; omega, q1.symm, ?_, Or.inr ⟨c, e1, y4, y3, e2.symm⟩⟩⟩
              rw [e1, wc_4 k4]
              unfold cmM
              rw [if_neg k4, if_pos k33, (hB c y3).2 (hfit c o).1]
              exact xJ (hfit c o).2
/-- the whole of it -/
theorem fi_x {up xpa pa ot na re ma my pm fy fa fr : Nat → Int32} {ty mn fo t w f : Int32} {ha nm : Nat → Int64} {St Ab Va : Int64} {f1 p1 f2 p2 : Int32} {T U : Int64} {o1 o2 : Option Nat} {b9 : Value} {s9 r9 : Int32} (hR : mmR up xpa pa ty ot na re ma my pm mn ha nm St Ab Va) (hF : fcR ty fy fa fr f) (hf : rfR ty fo t w) (h : fiX up xpa re ma my pm St Ab ha nm ty mn (fy f.toNatClampNeg).toNatClampNeg (cutF fy fa f.toNatClampNeg) fo t (rwF fo w) (fr f.toNatClampNeg) f1 T p1 o1 f2 U p2 o2 b9 s9 r9) :
    ∃ sc mp : Int32, wmM pa ot na re my pm ma fa fy fr mn fo t w f sc mp r9 ∧ (0 ≤ r9.toInt → sc = s9 ∧ wcX re fo t (meO b9 o1 o2) = cmM re fo t r9 ∧ ((meO b9 o1 o2 = none ∧ r9 = 99) ∨ ∃ c : Nat, meO b9 o1 o2 = some c ∧ r9 = nI c ∧ (c : Int) < mn.toInt ∧ mp = mePh b9 p1 p2)) := by
  obtain ⟨h1, h2, r, h3, h4⟩ := h
  obtain ⟨sc, mp, r1, k1, k2⟩ := mi_x hR hF hf h1 h2 h3
  have hrb := fa_r h3
  obtain ⟨hU, hd, hP, hS, hX, hK, hB, hH, hN, hSt, hAb, hVa⟩ := hR
  have z99 : (99 : Int32).toInt = 99 := by decide
  have z15 : (-15 : Int32).toInt = -15 := by decide
  refine ⟨sc, mp, ?_⟩
  rcases k2 with ⟨a1, a2⟩ | ⟨a1, a2, a3, a4, a5⟩
  · have e : (-10 - r).toInt = -10 - r.toInt := iSub (by decide) rfl (by omega) (by omega)
    rcases h4 with ⟨_, b2⟩ | ⟨b1, _⟩ | ⟨b1, _⟩
    · have e2 : r9 = r1 := b2.trans a2.symm
      exact ⟨⟨r1, k1, Or.inl ⟨by rw [a2]; omega, e2⟩⟩, fun z => by rw [b2] at z; omega⟩
    · exact absurd b1 a1
    · exact absurd b1 a1
  · have ht : anyT ty (cmM re fo t r1) := by
      obtain ⟨g1, g2, g3, g4, g5⟩ := hf
      have hty := hS.1
      have hmn := hS.2.1
      unfold cmM
      by_cases k4 : fo.toInt = 4
      · rw [if_pos k4]
        by_cases k10 : t.toInt = 10
        · rw [if_pos k10]; unfold anyT; have : (30 : Int32).toInt = 30 := by decide
          omega
        · rw [if_neg k10]
          have := g3 k4
          have e : (20 + t).toInt = 20 + t.toInt := iAdd (by decide) rfl (by omega) (by omega)
          unfold anyT; omega
      · rw [if_neg k4]
        by_cases k3 : fo.toInt = 3
        · rw [if_pos k3]; have := g2 k4; unfold anyT; omega
        · rw [if_neg k3]
          rcases a5 with ⟨_, a6⟩ | ⟨c, _, a6, a7, _⟩
          · exfalso
            rw [a6] at k1
            rcases k1 with ⟨y0, p1', r1', p2', r2', y1, y2, y3⟩ | ⟨y0, _, r2', y1, y3⟩ | ⟨y0, _, r2', y1, y3⟩ | ⟨y0, _⟩ | ⟨y0, _⟩
            · have b1 := (srM_b (by omega) y1).1
              have b2 : -5 ≤ r2'.toInt ∧ r2'.toInt < 99 := by
                rcases y2 with ⟨_, y2⟩ | ⟨_, _, y2⟩
                · have := (srM_b (by omega) y2).1; omega
                · rw [y2]; decide
              rcases y3 with ⟨_, y4, _⟩ | ⟨_, _, y4, _⟩ | ⟨_, _, _, _, _, y4⟩ | ⟨_, _, _, _, _, _, y4⟩ | ⟨_, _, _, _, _, _, y4⟩ <;> have := congrArg Int32.toInt y4 <;> first | omega | (rw [z99] at this; exact absurd this (by decide))
            · obtain ⟨r3, y5, y6⟩ := y1
              have b1 := (srM_b (by omega) y5).1
              have b2 : r2'.toInt < 99 := by rcases y6 with ⟨_, y⟩ | ⟨_, y⟩ | ⟨_, _, y⟩ <;> rw [y] <;> first | decide | omega
              rcases y3 with ⟨_, y4⟩ | ⟨_, y4⟩ <;> have := congrArg Int32.toInt y4 <;> first | omega | (rw [z99] at this; exact absurd this (by decide))
            · obtain ⟨r3, y5, y6⟩ := y1
              have b1 := (srM_b (by omega) y5).1
              have b2 : r2'.toInt < 99 := by rcases y6 with ⟨_, y⟩ | ⟨_, y⟩ | ⟨_, _, y⟩ <;> rw [y] <;> first | decide | omega
              rcases y3 with ⟨_, y4⟩ | ⟨_, y4⟩ | ⟨_, y4⟩ | ⟨_, y4⟩ <;> have := congrArg Int32.toInt y4 <;> first | omega | (rw [z99] at this; exact absurd this (by decide))
            · exact k3 y0
            · omega
          · rw [a6, nI_c (by omega)]; exact (hX c a7).1.2.1
    have hfr := any_b hS.1 hF.2.2.2
    have hL : xL up (wcX re fo t (meO b9 o1 o2)) (fr f.toNatClampNeg) ↔ lM pa (cmM re fo t r1) (fr f.toNatClampNeg) := by rw [a4]; exact up_L hU hS.1.1 ht hfr
    rcases h4 with ⟨b1, _⟩ | ⟨_, b2, b3⟩ | ⟨_, b2, b3⟩
    · exact absurd a1 b1
    · refine ⟨⟨r1, k1, Or.inr (Or.inr ⟨⟨a2, b2.1, fun z => b2.2 (hL.mpr z)⟩, b3⟩)⟩, fun z => by rw [b3] at z; omega⟩
    · have e2 : r9 = r1 := by
        rcases b3 with ⟨c1, c2⟩ | ⟨c, c1, c2⟩
        · rcases a5 with ⟨_, d2⟩ | ⟨c', d1, _⟩
          · rw [c2, d2]
          · rw [c1] at d1; cases d1
        · rcases a5 with ⟨d1, _⟩ | ⟨c', d1, d2, _⟩
          · rw [c1] at d1; cases d1
          · rw [c1] at d1; cases d1; rw [c2, d2]
      rw [e2]
      refine ⟨⟨r1, k1, Or.inr (Or.inl ⟨⟨a2, ?_⟩, rfl⟩)⟩, fun _ => ⟨a3, a4, a5⟩⟩
      rcases Classical.em ((fr f.toNatClampNeg).toInt = 11) with q | q
      · exact Or.inl q
      · exact Or.inr (hL.mp (Classical.byContradiction (fun z => b2 ⟨q, z⟩)))
end
section
/-! a call goes the same way -/
/-! what is meant is one: second, phase -/
theorem bo_e {ma : Nat → Int32} {s1 a2 : Prop} {p1 r1 p2 r2 sc mp r sc2 mp2 q : Int32} (h : boM ma s1 a2 p1 r1 p2 r2 sc mp r) (k : boM ma s1 a2 p1 r1 p2 r2 sc2 mp2 q) : sc = sc2 ∧ mp = mp2 := by
  rcases h with ⟨h1, _, h3, h4⟩ | ⟨h1, h2, _, h3, h4⟩ | ⟨h1, h2, h3, h4, _⟩ | ⟨h1, h2, h3, h4, _⟩ | ⟨h1, h2, h3, h4, _⟩ <;> rcases k with ⟨k1, _, k3, k4⟩ | ⟨k1, k2, _, k3, k4⟩ | ⟨k1, k2, k3, k4, _⟩ | ⟨k1, k2, k3, k4, _⟩ | ⟨k1, k2, k3, k4, _⟩ <;> first | exact ⟨h3.trans k3.symm, h4.trans k4.symm⟩ | exact absurd h1 k1 | exact absurd k1 h1 | exact absurd h2 k2 | exact absurd k2 h2
theorem both_e {pa ot na my pm ma fa fy : Nat → Int32} {mn t w f sc mp r sc2 mp2 q : Int32} (h : bothM pa ot na my pm ma fa fy mn t w f sc mp r) (k : bothM pa ot na my pm ma fa fy mn t w f sc2 mp2 q) : sc = sc2 ∧ mp = mp2 := by
  obtain ⟨p1, r1, p2, r2, h1, h2, h3⟩ := h
  obtain ⟨u1, v1, u2, v2, k1, k2, k3⟩ := k
  obtain ⟨e1, e2⟩ := sr_d h1 k1
  obtain ⟨e3, e4⟩ := s2_d h2 k2
  rw [← e1, ← e2, ← e3, ← e4] at k3
  exact bo_e h3 k3
theorem mn_e {pa ot na my pm ma fa fy : Nat → Int32} {mn fo t w f sc mp r sc2 mp2 q : Int32} (h : mnM pa ot na my pm ma fa fy mn fo t w f sc mp r) (k : mnM pa ot na my pm ma fa fy mn fo t w f sc2 mp2 q) : sc = sc2 ∧ mp = mp2 := by
  rcases h with ⟨h0, h1⟩ | ⟨h0, h1, v, h2, _⟩ | ⟨h0, h1, v, h2, _⟩ | ⟨h0, h1, h2⟩ | ⟨h0, h1, h2, _⟩
  · rcases k with ⟨k0, k1⟩ | ⟨k0, _⟩ | ⟨k0, _⟩ | ⟨k0, _⟩ | ⟨k0, _⟩
    · exact both_e h1 k1
    · omega
    · omega
    · omega
    · omega
  · rcases k with ⟨k0, _⟩ | ⟨k0, k1, u, k2, _⟩ | ⟨k0, _⟩ | ⟨k0, _⟩ | ⟨k0, _⟩
    · omega
    · exact ⟨h1.trans k1.symm, (one_d h2 k2).1⟩
    · omega
    · omega
    · omega
  · rcases k with ⟨k0, _⟩ | ⟨k0, _⟩ | ⟨k0, k1, u, k2, _⟩ | ⟨k0, _⟩ | ⟨k0, _⟩
    · omega
    · omega
    · exact ⟨h1.trans k1.symm, (one_d h2 k2).1⟩
    · omega
    · omega
  · rcases k with ⟨k0, _⟩ | ⟨k0, _⟩ | ⟨k0, _⟩ | ⟨k0, k1, k2⟩ | ⟨k0, _⟩
    · omega
    · omega
    · omega
    · refine ⟨h1.trans k1.symm, ?_⟩
      rcases h2 with ⟨h2, h3, _⟩ | ⟨h2, h4, h3, _⟩ | ⟨h2, h4, h3⟩ <;> rcases k2 with ⟨k2, k3, _⟩ | ⟨k2, k4, k3, _⟩ | ⟨k2, k4, k3⟩ <;> first | exact h3.trans k3.symm | exact (one_d h3 k3).1 | exact absurd h2 k2 | exact absurd k2 h2 | exact absurd h4 k4 | exact absurd k4 h4
    · omega
  · rcases k with ⟨k0, _⟩ | ⟨k0, _⟩ | ⟨k0, _⟩ | ⟨k0, _⟩ | ⟨k0, k1, k2, _⟩
    · omega
    · omega
    · omega
    · omega
    · exact ⟨h1.trans k1.symm, h2.trans k2.symm⟩
theorem wm_e {pa ot na re my pm ma fa fy fr : Nat → Int32} {mn fo t w f sc mp r sc2 mp2 q : Int32} (h : wmM pa ot na re my pm ma fa fy fr mn fo t w f sc mp r) (k : wmM pa ot na re my pm ma fa fy fr mn fo t w f sc2 mp2 q) : sc = sc2 ∧ mp = mp2 ∧ r = q := by
  obtain ⟨r1, h1, h2⟩ := h
  obtain ⟨q1, k1, k2⟩ := k
  obtain ⟨e1, e2⟩ := mn_e h1 k1
  have e3 := mn_d h1 k1
  subst e3
  refine ⟨e1, e2, ?_⟩
  rcases h2 with ⟨h2, h3⟩ | ⟨h2, h3⟩ | ⟨h2, h3⟩ <;> rcases k2 with ⟨k2, k3⟩ | ⟨k2, k3⟩ | ⟨k2, k3⟩ <;> first | exact h3.trans k3.symm | omega | skip
  · exact absurd h2.2 (fun z => z.elim (fun z => k2.2.1 z) (fun z => k2.2.2 z))
  · exact absurd k2.2 (fun z => z.elim (fun z => h2.2.1 z) (fun z => h2.2.2 z))
theorem ch_d {pa ot na my pm : Nat → Int32} {mn t m r q : Int32} {k : Nat} (h : chL pa ot na my pm mn t m r k) (g : chL pa ot na my pm mn t m q k) : r = q := by
  rcases h with ⟨h1, h2⟩ | ⟨b, h1, h2, h3, h4⟩ <;> rcases g with ⟨g1, g2⟩ | ⟨c, g1, g2, g3, g4⟩
  · rw [h1, g1]
  · exact absurd g3 (h2 c g1)
  · exact absurd h3 (g2 b h1)
  · rcases Nat.lt_trichotomy b c with e | e | e
    · exact absurd g3 (h4 c e g1)
    · rw [h2, g2, e]
    · exact absurd h3 (g4 b e h1)
/-! handing on -/
/-- one value: as long as nothing has ended it -/
theorem cv_x {v a b : Int32} {z : cs_T} (hb : b.toInt ≠ 11) (h1 : a.toInt ≠ 10 → b.toInt = 10 → a.toInt = 1) (h2 : a.toInt = 1 → b.toInt = 10 → v.toInt = 0 ∨ (1 ≤ v.toInt ∧ v.toInt ≤ z.1.toInt)) : (cvX v a b z).2 = (tuF v a b z).2 ∧ ((tuF v a b z).2.2.1.toInt = 0 → (cvX v a b z).1 = (tuF v a b z).1) ∧ ((tuF v a b z).2.2.1.toInt ≠ 0 → (cvX v a b z).1 = 0) := by
  obtain ⟨tn, en, tt, ti, pl⟩ := z
  dsimp only at h2
  by_cases e : en.toInt ≠ 0
  · rw [cv_1 (Or.inl e)]
    by_cases q : a.toInt = 10 ∧ b.toInt ≠ 10
    · rw [tu_1 q, md_1 e]; exact ⟨rfl, fun _ => rfl, fun _ => rfl⟩
    · by_cases q2 : a.toInt ≠ 10 ∧ b.toInt = 10
      · rw [tu_4 q2 e]; exact ⟨rfl, fun _ => rfl, fun _ => rfl⟩
      · rw [tu_5 q q2]; exact ⟨rfl, fun w => absurd w e, fun _ => rfl⟩
  · have e0 : en.toInt = 0 := by omega
    have n1 : ¬ (en.toInt ≠ 0 ∨ b.toInt = 11) := by omega
    by_cases q : a.toInt = 10 ∧ b.toInt ≠ 10
    · rw [cv_2 n1 q, tu_1 q]
      refine ⟨rfl, fun _ => rfl, fun w => ?_⟩
      by_cases q3 : tn.toInt = 60
      · rw [md_2 ⟨e0, q3⟩]
      · unfold mdF at w ⊢
        rw [if_neg (fun z => z e0), if_neg q3] at w
        exact absurd e0 w
    · by_cases q2 : a.toInt ≠ 10 ∧ b.toInt = 10
      · have a1 := h1 q2.1 q2.2
        by_cases q3 : v.toInt = 0
        · rw [cv_3 n1 q ⟨a1, q2.2⟩ q3, tu_2 q2 ⟨e0, q3⟩]
          exact ⟨rfl, fun _ => rfl, fun _ => rfl⟩
        · have hv := (h2 a1 q2.2).resolve_left q3
          rw [cv_4 n1 q ⟨a1, q2.2⟩ q3 hv, tu_3 q2 (by omega) e0]
          exact ⟨rfl, fun _ => rfl, fun w => absurd e0 w⟩
      · rw [cv_5 n1 q (by omega), tu_5 q q2]
        exact ⟨rfl, fun _ => rfl, fun w => absurd e0 w⟩
theorem tu_e {v a b : Int32} {z : cs_T} (h : z.2.1.toInt ≠ 0) : (tuF v a b z).2 = z := by
  obtain ⟨tn, en, tt, ti, pl⟩ := z
  by_cases q : a.toInt = 10 ∧ b.toInt ≠ 10
  · rw [tu_1 q, md_1 h]
  · by_cases q2 : a.toInt ≠ 10 ∧ b.toInt = 10
    · rw [tu_4 q2 h]
    · rw [tu_5 q q2]
/-- what is handed on fits -/
def paR (ty : Int32) (ar fq pf : Nat → Int32) (tn : Int32) (s k : Nat) : Prop := (pf k).toInt ≠ 11 ∧ ((fq (s + k)).toInt ≠ 10 → (pf k).toInt = 10 → (fq (s + k)).toInt = 1) ∧ ((fq (s + k)).toInt = 1 → (ar (s + k)).toInt = 0 ∨ (1 ≤ (ar (s + k)).toInt ∧ (ar (s + k)).toInt ≤ tn.toInt))
theorem tu_le {v a b : Int32} {z : cs_T} (hz : tnB z) : z.1.toInt ≤ (tuF v a b z).2.1.toInt := (tu_x hz).1.1
/-- the arguments one by one -/
theorem c1_x {ty : Int32} {ar fa fq pf pm : Nat → Int32} {m f : Int32} {s : Nat} {sI tn : Int32} : ∀ (n k : Nat) (x y : (Nat → Int32) × cs_T), tnB y.2 → tn.toInt ≤ y.2.1.toInt → (∀ j : Nat, k ≤ j → j < k + n → paR ty ar fq pf tn s j ∧ ar (sI + nI j).toNatClampNeg = ar (s + j) ∧ fa (3 * f + sI + nI j).toNatClampNeg = fq (s + j) ∧ pm (3 * m + nI j).toNatClampNeg = pf j) → x.2 = y.2 → (y.2.2.1.toInt = 0 → ∀ j : Nat, j < k → x.1 j = y.1 j) →
    (cp1 ar fq pf s n k x).2 = (gv1 ar fa pm m f sI n k y).2 ∧ ((gv1 ar fa pm m f sI n k y).2.2.1.toInt = 0 → y.2.2.1.toInt = 0 ∧ ∀ j : Nat, j < k + n → (cp1 ar fq pf s n k x).1 j = (gv1 ar fa pm m f sI n k y).1 j) := by
  intro n
  induction n with
  | zero => intro k x y hz ht hP h1 h2; exact ⟨h1, fun w => ⟨w, fun j q => h2 w j (by omega)⟩⟩
  | succ n ih =>
    intro k x y hz ht hP h1 h2
    obtain ⟨⟨p1, p2, p3⟩, e1, e2, e3⟩ := hP k (Nat.le_refl k) (by omega)
    have hc := cv_x (v := ar (s + k)) (a := fq (s + k)) (b := pf k) (z := y.2) p1 p2 (fun w _ => (p3 w).imp id (fun q => ⟨q.1, by omega⟩))
    show (cp1 ar fq pf s n (k + 1) _).2 = (gv1 ar fa pm m f sI n (k + 1) _).2 ∧ ((gv1 ar fa pm m f sI n (k + 1) _).2.2.1.toInt = 0 → y.2.2.1.toInt = 0 ∧ ∀ j : Nat, j < k + (n + 1) → (cp1 ar fq pf s n (k + 1) _).1 j = (gv1 ar fa pm m f sI n (k + 1) _).1 j)
    rw [h1, e1, e2, e3]
    have hz2 := (tu_x (v := ar (s + k)) (a := fq (s + k)) (b := pf k) hz).2
    have hle := tu_le (v := ar (s + k)) (a := fq (s + k)) (b := pf k) hz
    obtain ⟨i1, i2⟩ := ih (k + 1) (upd x.1 k (cvX (ar (s + k)) (fq (s + k)) (pf k) y.2).1, (cvX (ar (s + k)) (fq (s + k)) (pf k) y.2).2) (upd y.1 k (tuF (ar (s + k)) (fq (s + k)) (pf k) y.2).1, (tuF (ar (s + k)) (fq (s + k)) (pf k) y.2).2) hz2 (Int.le_trans ht hle) (fun j q1 q2 => hP j (by omega) (by omega)) hc.1 (fun w j q => by
      dsimp only at w ⊢
      by_cases e : j = k
      · rw [e, updS, updS]; exact hc.2.1 w
      · rw [updN e, updN e]
        refine h2 ?_ j (by omega)
        rcases Classical.em (y.2.2.1.toInt = 0) with z | z
        · exact z
        · rw [tu_e z] at w; exact w)
    refine ⟨i1, fun w => ?_⟩
    obtain ⟨w1, w2⟩ := i2 w
    refine ⟨?_, fun j q => w2 j (by omega)⟩
    rcases Classical.em (y.2.2.1.toInt = 0) with z | z
    · exact z
    · dsimp only at w1; rw [tu_e z] at w1; exact w1
theorem tu_pl {v a b : Int32} {z : cs_T} {i : Nat} (h : z.2.2.2.2 i = 0) : (tuF v a b z).2.2.2.2.2 i = 0 := by
  obtain ⟨tn, en, tt, ti, pl⟩ := z
  dsimp only at h
  by_cases q : a.toInt = 10 ∧ b.toInt ≠ 10
  · rw [tu_1 q]
    unfold mdF
    split
    · exact h
    · split
      · exact h
      · show zP pl (tn + 1) i = 0
        unfold zP
        split
        · rfl
        · exact h
  · by_cases q2 : a.toInt ≠ 10 ∧ b.toInt = 10
    · by_cases q3 : en.toInt = 0 ∧ v.toInt = 0
      · rw [tu_2 q2 q3]; exact h
      · by_cases q4 : en.toInt = 0
        · rw [tu_3 q2 q3 q4]; exact h
        · rw [tu_4 q2 q4]; exact h
    · rw [tu_5 q q2]; exact h
theorem upd_0 {f : Nat → Int32} {i : Nat} (h : f i = 0) : upd f i 0 = f := funext fun j => by
  by_cases e : j = i
  · rw [e, updS, h]
  · rw [updN e]
/-- one place of the row -/
theorem st_x {row : Int32} {k i : Nat} {u c : Int32 × cs_T} (hrow : row.toInt = 0 ∨ ((1 ≤ row.toInt ∧ row.toInt ≤ u.2.1.toInt) ∧ u.2.2.2.2.2 (20 * row.toNatClampNeg + k) = 0)) (hk : k < 20) (hi : i = 20 * row.toNatClampNeg + k) (h1 : c.2 = u.2) (h2 : u.2.2.1.toInt = 0 → c.1 = u.1 ∧ 1 ≤ row.toInt) (h3 : u.2.2.1.toInt ≠ 0 → c.1 = 0) : setX row k c = pvF i u := by
  obtain ⟨cr, cz⟩ := c
  obtain ⟨ur, tn, en, tt, ti, pl⟩ := u
  dsimp only at h1 h2 h3 hrow
  subst h1
  subst hi
  by_cases e : en.toInt = 0
  · obtain ⟨h4, h5⟩ := h2 e
    rcases hrow with q | ⟨q, _⟩
    · omega
    · rw [set_1 ⟨q, hk⟩, pv_1 e, h4]
  · rw [pv_2 e, h3 e]
    rcases hrow with q | ⟨q, q2⟩
    · rw [set_2 (by omega)]
    · rw [set_1 ⟨q, hk⟩, upd_0 q2]
theorem pv_e {i : Nat} {u : Int32 × cs_T} : (pvF i u).1 = u.2.1 ∧ (pvF i u).2.1 = u.2.2.1 := by
  unfold pvF
  split
  · exact ⟨rfl, rfl⟩
  · exact ⟨rfl, rfl⟩
theorem c2_x {ty : Int32} {ar fa fq my pm : Nat → Int32} {m f sI pn row part tn : Int32} {s p0 : Nat} (hb : part.toInt ≠ 11) : ∀ (n k : Nat) (z : cs_T), tnB z → tn.toInt ≤ z.1.toInt → k + n ≤ 20 → (∀ j : Nat, k ≤ j → j < k + n → ((fq (s + j)).toInt ≠ 10 → part.toInt = 10 → (fq (s + j)).toInt = 1) ∧ ((fq (s + j)).toInt = 1 → (ar (s + j)).toInt = 0 ∨ (1 ≤ (ar (s + j)).toInt ∧ (ar (s + j)).toInt ≤ tn.toInt)) ∧ ar (sI + nI (p0 + j)).toNatClampNeg = ar (s + j) ∧ fa (3 * f + sI + nI (p0 + j)).toNatClampNeg = fq (s + j) ∧ plV my pm m (nI (p0 + j)) = part ∧ (row.toInt ≠ 0 → (20 * row + nI (p0 + j) - pn).toNatClampNeg = 20 * row.toNatClampNeg + j)) → (0 ≤ row.toInt) → (row.toInt = 0 ∨ ((1 ≤ row.toInt ∧ row.toInt ≤ z.1.toInt) ∧ ∀ j : Nat, k ≤ j → j < 20 → z.2.2.2.2 (20 * row.toNatClampNeg + j) = 0)) → (z.2.1.toInt = 0 → 1 ≤ row.toInt) →
    cp2 ar fq s row part n k z = gv2 ar fa my pm m f sI pn row n (p0 + k) z ∧ ((gv2 ar fa my pm m f sI pn row n (p0 + k) z).2.1.toInt = 0 → z.2.1.toInt = 0) := by
  intro n
  induction n with
  | zero => intro k z _ _ _ _ _ _ _; exact ⟨rfl, fun w => w⟩
  | succ n ih =>
    intro k z hz ht hk hP hr0 hrow h0
    obtain ⟨p2, p3, e1, e2, e3, e4⟩ := hP k (Nat.le_refl k) (by omega)
    have hc := cv_x (v := ar (s + k)) (a := fq (s + k)) (b := part) (z := z) hb p2 (fun w _ => (p3 w).imp id (fun q => ⟨q.1, by omega⟩))
    have hz2 := (tu_x (v := ar (s + k)) (a := fq (s + k)) (b := part) hz).2
    have hle := tu_le (v := ar (s + k)) (a := fq (s + k)) (b := part) hz
    show cp2 ar fq s row part n (k + 1) _ = gv2 ar fa my pm m f sI pn row n (p0 + k + 1) _ ∧ ((gv2 ar fa my pm m f sI pn row n (p0 + k + 1) _).2.1.toInt = 0 → _)
    rw [e1, e2, e3]
    have hend : (tuF (ar (s + k)) (fq (s + k)) part z).2.2.1.toInt = 0 → z.2.1.toInt = 0 := fun w => by
      rcases Classical.em (z.2.1.toInt = 0) with q | q
      · exact q
      · rw [tu_e q] at w; exact w
    have hst : setX row k (cvX (ar (s + k)) (fq (s + k)) part z) = pvF (20 * row + nI (p0 + k) - pn).toNatClampNeg (tuF (ar (s + k)) (fq (s + k)) part z) := by
      rcases hrow with q | ⟨q, q2⟩
      · have hne : (tuF (ar (s + k)) (fq (s + k)) part z).2.2.1.toInt ≠ 0 := fun w => by have := h0 (hend w); omega
        generalize tuF (ar (s + k)) (fq (s + k)) part z = u at *
        generalize cvX (ar (s + k)) (fq (s + k)) part z = c at *
        obtain ⟨cr, tn2, en2, x2⟩ := c
        obtain ⟨ur, uz⟩ := u
        dsimp only at hc hne ⊢
        rw [set_2 (by omega), pv_2 hne]
        exact hc.1
      · exact st_x (Or.inr ⟨⟨q.1, by omega⟩, tu_pl (q2 k (Nat.le_refl k) (by omega))⟩) (by omega) (e4 (by omega)) hc.1 (fun w => ⟨hc.2.1 w, q.1⟩) hc.2.2
    rw [hst]
    generalize hu : tuF (ar (s + k)) (fq (s + k)) part z = u at *
    have hpe := pv_e (i := (20 * row + nI (p0 + k) - pn).toNatClampNeg) (u := u)
    have hpv := pv_x (i := (20 * row + nI (p0 + k) - pn).toNatClampNeg) (x := u)
    obtain ⟨i1, i2⟩ := ih (k + 1) (pvF (20 * row + nI (p0 + k) - pn).toNatClampNeg u) (hpv.2 hz2) (by rw [hpe.1]; exact Int.le_trans ht hle) (by omega) (fun j q1 q2 => hP j (by omega) (by omega)) hr0 (by
      rcases hrow with q | ⟨q, q2⟩
      · exact Or.inl q
      · refine Or.inr ⟨⟨q.1, by rw [hpe.1]; exact Int.le_trans q.2 hle⟩, fun j w1 w2 => ?_⟩
        have hj : u.2.2.2.2.2 (20 * row.toNatClampNeg + j) = 0 := by rw [← hu]; exact tu_pl (q2 j (by omega) w2)
        unfold pvF
        split
        · show upd u.2.2.2.2.2 _ u.1 (20 * row.toNatClampNeg + j) = 0
          rw [e4 (by omega), updN (by omega)]
          exact hj
        · exact hj) (fun w => h0 (hend (by rw [hpe.2] at w; exact w)))
    refine ⟨i1, fun w => hend ?_⟩
    have := i2 w
    rw [hpe.2] at this
    exact this
/-- what is handed on to a member -/
theorem ha_x {ty : Int32} {ar fa fq pf fy my pm : Nat → Int32} {m f sI p ip tn : Int32} {n nq s : Nat} {x y : (Nat → Int32) × cs_T} (hxy : x.2 = y.2) (hz : tnB y.2) (ht : tn.toInt = y.2.1.toInt) (hn3 : n ≤ 3) (hq3 : nq ≤ 3) (hs : s ≤ 1) (hmy : (my m.toNatClampNeg).toInt = (n : Int)) (hfy : (fy f.toNatClampNeg).toInt = (nq : Int)) (hsI : sI = nI s) (hip : ip.toInt ≠ 0 ↔ p.toInt = 3)
    (hnq : (p.toInt ≠ 3 ∧ (n : Int) = (nq : Int) - s) ∨ (p.toInt = 3 ∧ 1 ≤ n ∧ (n : Int) ≤ (nq : Int) - s + 1))
    (hP : ∀ j : Nat, s + j < nq → ((fq (s + j)).toInt = 1 → (ar (s + j)).toInt = 0 ∨ (1 ≤ (ar (s + j)).toInt ∧ (ar (s + j)).toInt ≤ tn.toInt)) ∧ ar (sI + nI j).toNatClampNeg = ar (s + j) ∧ fa (3 * f + sI + nI j).toNatClampNeg = fq (s + j) ∧ (j < (if p.toInt = 3 then n - 1 else n) → (pf j).toInt ≠ 11 ∧ ((fq (s + j)).toInt ≠ 10 → (pf j).toInt = 10 → (fq (s + j)).toInt = 1)) ∧ (p.toInt = 3 → n - 1 ≤ j → (plV my pm m (nI j)).toInt ≠ 11 ∧ ((fq (s + j)).toInt ≠ 10 → (plV my pm m (nI j)).toInt = 10 → (fq (s + j)).toInt = 1)))
    (hpf : ∀ j : Nat, j < n → pm (3 * m + nI j).toNatClampNeg = pf j) (hpl : p.toInt = 3 → ∀ j : Nat, n - 1 ≤ j → j < 3 → plV my pm m (nI j) = prX (pf (n - 1))) (hpr : p.toInt = 3 → (prX (pf (n - 1))).toInt ≠ 11) :
    (haX ar fq pf n nq s ip x).2 = (gvF ar fa fy my pm m f sI p y).2 ∧ ((gvF ar fa fy my pm m f sI p y).2.2.1.toInt = 0 → y.2.2.1.toInt = 0 ∧ ∀ j : Nat, j < n → (haX ar fq pf n nq s ip x).1 j = (gvF ar fa fy my pm m f sI p y).1 j) := by
  have hmN : (my m.toNatClampNeg).toNatClampNeg = n := tN hmy
  have hsi := nI_toInt (n := s) (by omega)
  by_cases h3 : p.toInt = 3
  · obtain ⟨w1, w2⟩ : 1 ≤ n ∧ (n : Int) ≤ (nq : Int) - s + 1 := by omega
    have hm1 : (my m.toNatClampNeg - 1).toInt = (n : Int) - 1 := by rw [iSub (x := (my m.toNatClampNeg).toInt) (y := 1) rfl (by decide) (by omega) (by omega)]; omega
    have hm1N : (my m.toNatClampNeg - 1).toNatClampNeg = n - 1 := tN (by omega)
    have hpn : my m.toNatClampNeg - 1 = nI (n - 1) := xJ (by rw [nI_toInt (by omega)]; omega)
    have efs : (fy f.toNatClampNeg - sI).toInt = (nq : Int) - s := by rw [hsI, iSub (x := (fy f.toNatClampNeg).toInt) (y := (s : Int)) rfl hsi (by omega) (by omega)]; omega
    have eam : fy f.toNatClampNeg - sI - (my m.toNatClampNeg - 1) = nI nq - nI (s + (n - 1)) := by
      refine xJ ?_
      rw [iSub (x := (nq : Int) - s) (y := (n : Int) - 1) efs hm1 (by omega) (by omega), iSub (x := (nq : Int)) (y := ((s + (n - 1) : Nat) : Int)) (nI_toInt (by omega)) (nI_toInt (by omega)) (by omega) (by omega)]
      omega
    have ecn : (fy f.toNatClampNeg - sI).toNatClampNeg - (n - 1) = nq - (s + (n - 1)) := by rw [tN (e := fy f.toNatClampNeg - sI) (z := nq - s) (by omega)]; omega
    have t2 : 0 + (nq - (s + (n - 1))) ≤ 20 := by omega
    have t10 : ∀ j : Nat, j < 0 + (n - 1) → s + j < nq ∧ j < n - 1 ∧ j < n := fun j q => by omega
    have t9 : ∀ j : Nat, j < n → ¬ j = n - 1 → j < 0 + (n - 1) := fun j q e => by omega
    have t3 : ∀ j : Nat, j < 0 + (nq - (s + (n - 1))) → s + (n - 1 + j) < nq ∧ n - 1 ≤ n - 1 + j ∧ n - 1 + j < 3 := fun j q => by omega
    unfold haX gvF
    rw [if_pos ⟨hip.mpr h3, w1⟩, if_neg (by omega)]
    dsimp only
    rw [hm1N, eam, ecn, hpn, hpf (n - 1) (by omega), show min (n - 1) (nq - s) = n - 1 by omega]
    obtain ⟨g1, g2⟩ := c1_x (ty := ty) (ar := ar) (fa := fa) (fq := fq) (pf := pf) (pm := pm) (m := m) (f := f) (s := s) (sI := sI) (tn := tn) (n - 1) 0 x y hz (Int.le_of_eq ht) (fun j _ q => by
      obtain ⟨m1, m2, m3⟩ := t10 j q
      obtain ⟨k1, k2, k3, k4, _⟩ := hP j m1
      rw [if_pos h3] at k4
      obtain ⟨k5, k6⟩ := k4 m2
      exact ⟨⟨k5, k6, k1⟩, k2, k3, hpf j m3⟩) hxy (fun _ j q => absurd q (Nat.not_lt_zero j))
    have gb := g1_x (ar := ar) (fa := fa) (pm := pm) (m := m) (f := f) (s := sI) (n - 1) 0 y hz
    generalize hA : cp1 ar fq pf s (n - 1) 0 x = A at *
    generalize hB : gv1 ar fa pm m f sI (n - 1) 0 y = B at *
    rw [g1]
    have mb := md_x (t := pf (n - 1)) (v := nI nq - nI (s + (n - 1))) gb.2.1
    have mi := md_i (t := pf (n - 1)) (v := nI nq - nI (s + (n - 1))) gb.2.1
    have mz : (mdF (pf (n - 1)) (nI nq - nI (s + (n - 1))) B.2).1.toInt ≠ 0 → ∀ j : Nat, j < 20 → (mdF (pf (n - 1)) (nI nq - nI (s + (n - 1))) B.2).2.2.2.2.2 (20 * (mdF (pf (n - 1)) (nI nq - nI (s + (n - 1))) B.2).1.toNatClampNeg + j) = 0 := fun w j q => by
      have e := (mi w).2.2
      unfold mdF at w ⊢
      split
      · next e1 => rw [if_pos e1] at w; exact absurd (by decide : (0 : Int32).toInt = 0) w
      · next e1 =>
        rw [if_neg e1] at w
        split
        · next e2 => rw [if_pos e2] at w; exact absurd (by decide : (0 : Int32).toInt = 0) w
        · show zP _ _ _ = 0
          unfold zP
          rw [if_pos (by dsimp only; omega)]
    have me : (mdF (pf (n - 1)) (nI nq - nI (s + (n - 1))) B.2).2.2.1.toInt = 0 → 1 ≤ (mdF (pf (n - 1)) (nI nq - nI (s + (n - 1))) B.2).1.toInt ∧ B.2.2.1.toInt = 0 := fun w => by
      have hb0 := gb.2.1
      unfold tnB at hb0
      unfold mdF at w ⊢
      split
      · next e1 => rw [if_pos e1] at w; exact absurd w e1
      · next e1 =>
        rw [if_neg e1] at w
        split
        · next e2 => rw [if_pos e2] at w; exact absurd (show (-2 : Int32).toInt = 0 from w) (by decide)
        · refine ⟨?_, by omega⟩
          show 1 ≤ (B.2.1 + 1).toInt
          rw [iAdd (x := B.2.1.toInt) (y := 1) rfl (by decide) (by omega) (by omega)]
          omega
    have ml : ∀ w : (mdF (pf (n - 1)) (nI nq - nI (s + (n - 1))) B.2).1.toInt ≠ 0, (mdF (pf (n - 1)) (nI nq - nI (s + (n - 1))) B.2).1.toInt ≤ (mdF (pf (n - 1)) (nI nq - nI (s + (n - 1))) B.2).2.1.toInt := fun w => by rw [(mi w).2.2]; exact Int.le_refl _
    have mge := mb.1.1
    generalize hC : mdF (pf (n - 1)) (nI nq - nI (s + (n - 1))) B.2 = C at *
    have hx0 : tn.toInt ≤ B.2.1.toInt := by have := gb.1.1; omega
    obtain ⟨q1, q2⟩ := c2_x (ty := ty) (ar := ar) (fa := fa) (fq := fq) (my := my) (pm := pm) (m := m) (f := f) (sI := sI) (pn := nI (n - 1)) (row := C.1) (part := prX (pf (n - 1))) (tn := tn) (s := s + (n - 1)) (p0 := n - 1) (hpr h3) (nq - (s + (n - 1))) 0 C.2 mb.2.1 (Int.le_trans hx0 mge) t2 (fun j _ q => by
      obtain ⟨t4, t5, t6⟩ := t3 j q
      obtain ⟨k1, k2, k3, _, k5⟩ := hP (n - 1 + j) t4
      have k6 := k5 h3 t5
      have e := hpl h3 (n - 1 + j) t5 t6
      rw [e] at k6
      rw [Nat.add_assoc s (n - 1) j]
      refine ⟨k6.2, k1, k2, k3, e, fun w => ?_⟩
      have hb2 := mb.2.2
      have hrx := xN hb2.1
      have e1 : (20 * C.1).toInt = 20 * C.1.toInt := iMul (by decide) rfl (by omega) (by omega)
      have e2 : (20 * C.1 + nI (n - 1 + j)).toInt = 20 * C.1.toInt + ((n - 1 + j : Nat) : Int) := iAdd e1 (nI_toInt (by omega)) (by omega) (by omega)
      have e3 : (20 * C.1 + nI (n - 1 + j) - nI (n - 1)).toInt = 20 * C.1.toInt + ((n - 1 + j : Nat) : Int) - ((n - 1 : Nat) : Int) := iSub e2 (nI_toInt (by omega)) (by omega) (by omega)
      exact tN (by omega)) mb.2.2.1 (by
        rcases Classical.em (C.1.toInt = 0) with w | w
        · exact Or.inl w
        · exact Or.inr ⟨⟨by have := mb.2.2.1; omega, ml w⟩, fun j _ w2 => mz w j w2⟩) (fun w => (me w).1)
    rw [Nat.add_zero] at q1 q2
    have hnc : (nI (n - 1)).toNatClampNeg = n - 1 := nI_c (by omega)
    rw [hnc] at *
    refine ⟨q1, fun w => ?_⟩
    have w3 := q2 w
    obtain ⟨w4, w5⟩ := me w3
    obtain ⟨w6, w7⟩ := g2 w5
    refine ⟨w6, fun j q => ?_⟩
    by_cases e : j = n - 1
    · rw [e, updS, updS]
    · rw [updN e, updN e]
      exact w7 j (t9 j q e)
  · have t11 : ∀ j : Nat, j < 0 + n → s + j < nq ∧ j < n := fun j q => by omega
    unfold haX gvF
    rw [if_neg (by omega), if_pos h3, hmN, if_neg (fun w => h3 (hip.mp w)), show min n (nq - s) = n by omega]
    obtain ⟨g1, g2⟩ := c1_x (ty := ty) (ar := ar) (fa := fa) (fq := fq) (pf := pf) (pm := pm) (m := m) (f := f) (s := s) (sI := sI) (tn := tn) n 0 x y hz (Int.le_of_eq ht) (fun j _ q => by
      obtain ⟨m1, m2⟩ := t11 j q
      obtain ⟨k1, k2, k3, k4, _⟩ := hP j m1
      rw [if_neg h3] at k4
      obtain ⟨k5, k6⟩ := k4 m2
      exact ⟨⟨k5, k6, k1⟩, k2, k3, hpf j m2⟩) hxy (fun _ j q => absurd q (Nat.not_lt_zero j))
    exact ⟨g1, fun w => ⟨(g2 w).1, fun j q => (g2 w).2 j (by rw [Nat.zero_add]; exact q)⟩⟩
end
section
/-! sums, results -/
theorem spl_a {v : Int32} {z : cs_T} : ∀ (n k : Nat) (c : Int32), splF v z n k c = c + splF v z n k 0 := by
  intro n
  induction n with
  | zero => intro k c; show c = c + 0; rw [Int32.add_zero]
  | succ n ih =>
    intro k c
    rw [spl_s, spl_s, ih (k + 1) (c + plX v z k), ih (k + 1) (0 + plX v z k), Int32.zero_add, Int32.add_assoc]
theorem suI_x {g tn en : Int32} {tt ti pl : Nat → Int32} (hg : 1 ≤ g.toInt ∧ g.toInt ≤ tn.toInt) (ht : tn.toInt ≤ 60) : ∀ (n i : Nat) (v : Int32), i + n ≤ 20 → suI pl g n i v = v + splF g (tn, en, tt, ti, pl) n i 0 := by
  intro n
  induction n with
  | zero => intro i v _; show v = v + 0; rw [Int32.add_zero]
  | succ n ih =>
    intro i v hi
    have hx := xN (x := g) (by omega)
    have e1 : (20 * g).toInt = 20 * g.toInt := iMul (by decide) rfl (by omega) (by omega)
    have e2 : (20 * g + nI i).toInt = 20 * g.toInt + (i : Int) := iAdd e1 (nI_toInt (by omega)) (by omega) (by omega)
    have ei : (20 * g + nI i).toNatClampNeg = 20 * g.toNatClampNeg + i := tN (by omega)
    show suI pl g n (i + 1) (v + pl (20 * g + nI i).toNatClampNeg) = _
    rw [ih (i + 1) _ (by omega), spl_s, pl_1 ⟨hg, by omega⟩, ei, Int32.zero_add, spl_a n (i + 1) (pl (20 * g.toNatClampNeg + i)), Int32.add_assoc]
/-- what was got can be summed, from k on -/
def gtX (pf go : Nat → Int32) (tn : Int32) (ti : Nat → Int32) (k : Nat) : Prop := ((pf k).toInt = 1 → (go k).toInt = 0 ∨ (1 ≤ (go k).toInt ∧ (go k).toInt ≤ tn.toInt)) ∧ ((pf k).toInt = 30 → (go k).toInt = 0 ∨ ((1 ≤ (go k).toInt ∧ (go k).toInt ≤ tn.toInt) ∧ 0 ≤ (ti (go k).toNatClampNeg).toInt ∧ (ti (go k).toNatClampNeg).toInt ≤ 20))
theorem suO_x {ma my pm pf go gp : Nat → Int32} {m tn en : Int32} {tt ti pl : Nat → Int32} {N : Nat} (hN : (my m.toNatClampNeg).toInt = (N : Int)) (hN3 : N ≤ 3) (ht : tn.toInt ≤ 60) (hpf : ∀ j : Nat, j < N → pm (3 * m + nI j).toNatClampNeg = pf j) (hgo : ∀ j : Nat, j < N → go j = gp j) (hG : ∀ j : Nat, j < N → gtX pf gp tn ti j) :
    ∀ (n k : Nat) (v : Int32), k + n = N → suO ma my pm ti pl gp m n k v = sgX pf go (tn, en, tt, ti, pl) n k v + (if 1 ≤ n ∧ (ma m.toNatClampNeg &&& 4).toInt ≠ 0 ∧ (pf (N - 1)).toInt = 30 then splF (go (N - 1)) (tn, en, tt, ti, pl) (amX (go (N - 1)) (tn, en, tt, ti, pl)).toNatClampNeg 0 0 else 0) := by
  intro n
  induction n with
  | zero => intro k v _; show v = v + _; rw [if_neg (by omega), Int32.add_zero]
  | succ n ih =>
    intro k v hk
    have hkc : (nI k).toNatClampNeg = k := nI_c (by omega)
    obtain ⟨G1, G2⟩ := hG k (by omega)
    have hgk := hgo k (by omega)
    have z0 : (0 : Int32).toInt = 0 := by decide
    have am0 : (gp k).toInt = 0 → amX (gp k) (tn, en, tt, ti, pl) = 0 := fun q => am_2 (by omega)
    have hT : suT ti gp (nI k) (pf k) v = (if (pf k).toInt = 10 then v + go k else if (pf k).toInt = 1 then v + amX (go k) (tn, en, tt, ti, pl) else v) := by
      by_cases q1 : (pf k).toInt = 10
      · rw [su_1 q1, if_pos q1, hkc, hgk]
      · rw [if_neg q1]
        by_cases q2 : (pf k).toInt = 1
        · rw [if_pos q2, hgk]
          rcases G1 q2 with q3 | q3
          · rw [su_3 q1 (by rw [hkc]; omega), am0 q3]
          · rw [su_2 q1 (by rw [hkc]; omega), am_1 q3, hkc]
        · rw [if_neg q2, su_3 q1 (by omega), Int32.add_zero]
    show suO ma my pm ti pl gp m n (k + 1) (suS ti pl gp ((k : Int) = (my m.toNatClampNeg).toInt - 1 ∧ (ma m.toNatClampNeg &&& 4).toInt ≠ 0) (nI k) (pm (3 * m + nI k).toNatClampNeg) v) = _
    rw [sgX_s, hpf k (by omega), ih (k + 1) _ (by omega)]
    unfold suS
    rw [hkc, hT]
    generalize (if (pf k).toInt = 10 then v + go k else if (pf k).toInt = 1 then v + amX (go k) (tn, en, tt, ti, pl) else v) = u
    by_cases c : (ma m.toNatClampNeg &&& 4).toInt ≠ 0 ∧ (pf (N - 1)).toInt = 30
    · by_cases hl : k + 1 = N
      · have e0 : n = 0 := by omega
        subst e0
        have eN : N - 1 = k := by omega
        rw [eN] at c ⊢
        show (if _ then _ else _) + _ = u + _
        have n1 : ¬ (1 ≤ 0 ∧ (ma m.toNatClampNeg &&& 4).toInt ≠ 0 ∧ (pf k).toInt = 30) := fun w => absurd w.1 (by decide)
        have n2 : 1 ≤ 0 + 1 ∧ (ma m.toNatClampNeg &&& 4).toInt ≠ 0 ∧ (pf k).toInt = 30 := ⟨by decide, c⟩
        rw [if_neg n1, if_pos n2, Int32.add_zero, hgk]
        rcases G2 c.2 with q | ⟨q, q2⟩
        · rw [if_neg (fun w => w.2.2 q), am0 q]
          show u = u + 0
          rw [Int32.add_zero]
        · rw [if_pos ⟨c.2, ⟨by omega, c.1⟩, by omega⟩, am_1 q]
          have hx := xN q2.1
          exact suI_x q ht _ 0 u (by omega)
      · rw [if_neg (fun w => by have := w.2.1.1; omega), if_pos ⟨by omega, c⟩, if_pos ⟨by omega, c⟩]
    · have e1 : ¬ ((pf k).toInt = 30 ∧ ((k : Int) = (my m.toNatClampNeg).toInt - 1 ∧ (ma m.toNatClampNeg &&& 4).toInt ≠ 0) ∧ (gp k).toInt ≠ 0) := fun w => by
        have : N - 1 = k := by have := w.2.1.1; omega
        exact c ⟨w.2.1.2, by rw [this]; exact w.1⟩
      rw [if_neg e1, if_neg (fun w => c w.2), if_neg (fun w => c w.2)]
theorem smA_1 {ma : Int32} {n : Nat} {pf go : Nat → Int32} {z : cs_T} {i : Nat} (h : (ma &&& 4).toInt ≠ 0 ∧ 1 ≤ n ∧ (pf (n - 1)).toInt = 30) : sumX ma n pf go z i = sgX pf go z n 0 (100 * nI i) + splF (go (n - 1)) z (amX (go (n - 1)) z).toNatClampNeg 0 0 := by unfold sumX; rw [if_pos h]
theorem smA_2 {ma : Int32} {n : Nat} {pf go : Nat → Int32} {z : cs_T} {i : Nat} (h : ¬ ((ma &&& 4).toInt ≠ 0 ∧ 1 ≤ n ∧ (pf (n - 1)).toInt = 30)) : sumX ma n pf go z i = sgX pf go z n 0 (100 * nI i) := by unfold sumX; rw [if_neg h]
theorem su_x {ma my pm pf go gp : Nat → Int32} {tn en : Int32} {tt ti pl : Nat → Int32} {b N : Nat} (hb : b < 40) (hN : (my b).toInt = (N : Int)) (hN3 : N ≤ 3) (ht : tn.toInt ≤ 60) (hpf : ∀ j : Nat, j < N → pm (3 * nI b + nI j).toNatClampNeg = pf j) (hgo : ∀ j : Nat, j < N → go j = gp j) (hG : ∀ j : Nat, j < N → gtX pf gp tn ti j) : sumX (ma b) N pf go (tn, en, tt, ti, pl) b = suF ma my pm ti pl gp (nI b) := by
  have hbc : (nI b).toNatClampNeg = b := nI_c (by omega)
  unfold suF
  rw [hbc, tN hN, suO_x (en := en) (tt := tt) (by rw [hbc]; exact hN) hN3 ht hpf hgo hG N 0 (100 * nI b) (by omega), hbc]
  by_cases c : (ma b &&& 4).toInt ≠ 0 ∧ 1 ≤ N ∧ (pf (N - 1)).toInt = 30
  · rw [smA_1 c, if_pos ⟨c.2.1, c.1, c.2.2⟩]
  · rw [smA_2 c, if_neg (fun w => c ⟨w.2.1, w.1, w.2.2⟩), Int32.add_zero]
/-- what a member gives -/
theorem gr_x {na re my : Nat → Int32} {op : Prop} {S : Int32} {b N : Nat} {z : cs_T} {x y : Int32 × cs_T} (hb : b < 40) (hN : my b = nI N) (h6 : (na b).toInt = 6 → ¬ op ∧ (re b).toInt ≠ 1 ∧ (re b).toInt < 10) (h : grX (re b) (nI N) op S z x) (k : giM na re my op (nI b) S z y) : x = y := by
  have hbc : (nI b).toNatClampNeg = b := nI_c (by omega)
  unfold giM at k
  rw [hbc, hN] at k
  rcases h with ⟨h1, h2⟩ | ⟨h1, h2⟩ | ⟨h1, h2⟩ | ⟨h1, h2⟩ | ⟨h1, ⟨h0, h2⟩ | ⟨h0, h2⟩⟩ <;> rcases k with ⟨k1, k2⟩ | ⟨k1, k3, k2⟩ | ⟨k1, k3, k2⟩ | ⟨k1, k3, k2⟩ | ⟨k1, k3, k2⟩ | ⟨k1, ⟨k0, k2⟩ | ⟨k0, k2⟩⟩ <;> first | exact h2.trans k2.symm | (exfalso; omega) | (exfalso; exact k0 h0) | (exfalso; exact h0 k0) | (exfalso; exact (h6 k1).1 h0) | (exfalso; have := h6 k1; omega)
/-- ended is ended -/
theorem gr_e {re n S : Int32} {op : Prop} {z : cs_T} {x : Int32 × cs_T} (he : z.2.1.toInt ≠ 0) (h : grX re n op S z x) : x.2 = z := by
  obtain ⟨tn, en, y⟩ := z
  rcases h with ⟨_, h⟩ | ⟨_, h⟩ | ⟨_, h⟩ | ⟨_, h⟩ | ⟨_, ⟨_, h⟩ | ⟨_, h⟩⟩
  · rw [h]
  · rw [h]
  · rw [h, md_1 he]
  · rw [h, md_1 he]
  · rw [h]
  · rw [h, md_1 he]
/-- the face's end -/
theorem fn_x {due wh cm : Int32} {z : cs_T} (h : wh.toInt = 1 → due.toInt = 10 → z.2.1.toInt = 0 → 1 ≤ cm.toInt ∧ cm.toInt ≤ z.1.toInt) : (cvX cm wh due z).2 = (fnF due wh cm z).2 ∧ ((fnF due wh cm z).2.2.1.toInt = 0 → (cvX cm wh due z).1 = (fnF due wh cm z).1) := by
  obtain ⟨tn, en, tt, ti, pl⟩ := z
  dsimp only at h
  unfold fnF
  by_cases e : en.toInt ≠ 0
  · rw [cv_1 (Or.inl e), if_pos e]
    exact ⟨rfl, fun w => absurd w e⟩
  · have e0 : en.toInt = 0 := by omega
    rw [if_neg e]
    by_cases q : due.toInt = 11
    · rw [cv_1 (Or.inr q), if_pos q]
      exact ⟨rfl, fun _ => rfl⟩
    · rw [if_neg q]
      by_cases q2 : wh.toInt = 10 ∧ due.toInt ≠ 10
      · rw [cv_2 (by omega) q2, if_pos q2]
        exact ⟨rfl, fun _ => rfl⟩
      · rw [if_neg q2]
        by_cases q3 : wh.toInt = 1 ∧ due.toInt = 10
        · have hv := h q3.1 q3.2 e0
          rw [cv_4 (by omega) q2 q3 (by omega) hv, if_pos q3]
          exact ⟨rfl, fun _ => rfl⟩
        · rw [cv_5 (by omega) q2 q3, if_neg q3]
          exact ⟨rfl, fun _ => rfl⟩
/-- a size -/
theorem sz_x {ar fa fq : Nat → Int32} {f row tn : Int32} {x : (Nat → Int32) × (Nat → Int32) × (Nat → Int32)} (hf : fq 0 = fa (3 * f).toNatClampNeg) (h1 : (fq 0).toInt = 10 ∨ (fq 0).toInt = 1) (h2 : (fq 0).toInt = 1 → (ar 0).toInt = 0 ∨ (1 ≤ (ar 0).toInt ∧ (ar 0).toInt ≤ tn.toInt)) : szX ar fq row (tn, 0, x) = szF ar fa f row (tn, 0, x) := by
  have z0 : (0 : Int32).toInt = 0 := by decide
  have z10 : (10 : Int32).toInt = 10 := by decide
  have hc := cv_x (v := ar 0) (a := fq 0) (b := 10) (z := (tn, 0, x)) (by decide) (fun w _ => by omega) (fun w _ => h2 w)
  unfold szX szF
  rw [← hf]
  obtain ⟨c1, c2, c3⟩ := hc
  generalize hu : tuF (ar 0) (fq 0) 10 (tn, 0, x) = u at *
  generalize hv : cvX (ar 0) (fq 0) 10 (tn, 0, x) = c at *
  obtain ⟨cr, cz⟩ := c
  obtain ⟨ur, tn2, en2, x2⟩ := u
  dsimp only at c1 c2 c3 ⊢
  subst c1
  dsimp only
  by_cases e : en2.toInt = 0
  · have e1 := c2 e
    subst e1
    have e2 : en2 = 0 := xJ (by omega)
    subst e2
    rw [if_pos e]
    by_cases q : cr.toInt < 0
    · rw [if_neg (by omega), if_pos q, if_pos q]
    · rw [if_neg q, if_neg q]
  · have e1 := c3 e
    subst e1
    rw [if_neg (by omega), if_neg (by omega), if_neg e, md_1 e, md_1 e]
end
section
/-! what kinds are made, how a call can end -/
def gK (K : Int32 → Prop) (z : cs_T) : Prop := tnB z ∧ (∀ i : Nat, 1 ≤ i → (i : Int) ≤ z.1.toInt → K (z.2.2.1 i)) ∧ (z.2.1.toInt = 0 ∨ z.2.1.toInt = -2 ∨ z.2.1.toInt = -21 ∨ z.2.1.toInt = -22)
theorem md_g {K : Int32 → Prop} {t v : Int32} {z : cs_T} (ht : K t) (h : gK K z) : gK K (mdF t v z).2 := by
  have hb0 := h.1
  unfold tnB at hb0
  refine ⟨(md_x h.1).2.1, ?_⟩
  unfold mdF
  split
  · exact h.2
  · split
    · exact ⟨h.2.1, Or.inr (Or.inl (show (-2 : Int32).toInt = -2 by decide))⟩
    · refine ⟨fun i q1 q2 => ?_, h.2.2⟩
      have e1 : (z.1 + 1).toInt = z.1.toInt + 1 := iAdd rfl (by decide) (by omega) (by omega)
      have hx := xN (x := z.1 + 1) (by omega)
      have q3 : (i : Int) ≤ (z.1 + 1).toInt := q2
      show K (upd z.2.2.1 (z.1 + 1).toNatClampNeg t i)
      by_cases ei : i = (z.1 + 1).toNatClampNeg
      · rw [ei, updS]; exact ht
      · rw [updN ei]; exact h.2.1 i q1 (by omega)
theorem tu_g {K : Int32 → Prop} {v a b : Int32} {z : cs_T} (h1 : K 1) (h : gK K z) : gK K (tuF v a b z).2 := by
  obtain ⟨tn, en, tt, ti, pl⟩ := z
  by_cases q : a.toInt = 10 ∧ b.toInt ≠ 10
  · rw [tu_1 q]; exact md_g h1 h
  · by_cases q2 : a.toInt ≠ 10 ∧ b.toInt = 10
    · by_cases q4 : en.toInt = 0
      · by_cases q3 : v.toInt = 0
        · rw [tu_2 q2 ⟨q4, q3⟩]; exact ⟨h.1, h.2.1, Or.inr (Or.inr (Or.inl (show (-21 : Int32).toInt = -21 by decide)))⟩
        · rw [tu_3 q2 (by omega) q4]; exact h
      · rw [tu_4 q2 q4]; exact h
    · rw [tu_5 q q2]; exact h
theorem pv_g {K : Int32 → Prop} {i : Nat} {x : Int32 × cs_T} (h : gK K x.2) : gK K (pvF i x) := by
  unfold pvF
  split
  · exact ⟨h.1, h.2.1, h.2.2⟩
  · exact h
theorem g1_g {K : Int32 → Prop} {ar fa pm : Nat → Int32} {m f s : Int32} (h1 : K 1) : ∀ (n k : Nat) (x : (Nat → Int32) × cs_T), gK K x.2 → gK K (gv1 ar fa pm m f s n k x).2 := by
  intro n
  induction n with
  | zero => intro k x h; exact h
  | succ n ih => intro k x h; exact ih (k + 1) _ (tu_g h1 h)
theorem g2_g {K : Int32 → Prop} {ar fa my pm : Nat → Int32} {m f s pn row : Int32} (h1 : K 1) : ∀ (n k : Nat) (z : cs_T), gK K z → gK K (gv2 ar fa my pm m f s pn row n k z) := by
  intro n
  induction n with
  | zero => intro k z h; exact h
  | succ n ih => intro k z h; exact ih (k + 1) _ (pv_g (tu_g h1 h))
theorem gv_g {K : Int32 → Prop} {ar fa fy my pm : Nat → Int32} {m f s p : Int32} {x : (Nat → Int32) × cs_T} (h1 : K 1) (hp : p.toInt = 3 → K (pm (3 * m + (my m.toNatClampNeg - 1)).toNatClampNeg)) (h : gK K x.2) : gK K (gvF ar fa fy my pm m f s p x).2 := by
  unfold gvF
  by_cases h3 : p.toInt = 3
  · rw [if_neg (fun w => w h3)]
    dsimp only
    exact g2_g h1 _ _ _ (md_g (hp h3) (g1_g h1 _ 0 x h))
  · rw [if_pos h3]
    exact g1_g h1 _ 0 x h
theorem gi_g {K : Int32 → Prop} {na re my : Nat → Int32} {op : Prop} {m v cm : Int32} {z y : cs_T} (h1 : K 1) (hr : (re m.toNatClampNeg).toInt ≠ 10 → (re m.toNatClampNeg).toInt ≠ 11 → K (re m.toNatClampNeg)) (h6 : (na m.toNatClampNeg).toInt = 6 → (re m.toNatClampNeg).toInt ≠ 10 ∧ (re m.toNatClampNeg).toInt ≠ 11) (h : gK K z) (k : giM na re my op m v z (cm, y)) : gK K y := by
  have p : ∀ {x : Int32 × cs_T}, (cm, y) = x → y = x.2 := fun q => congrArg Prod.snd q
  rcases k with ⟨k1, k⟩ | ⟨_, k1, k⟩ | ⟨_, k1, k⟩ | ⟨_, k1, k⟩ | ⟨_, k1, k⟩ | ⟨k1, ⟨_, k⟩ | ⟨_, k⟩⟩
  · rw [p k]; exact md_g (hr (h6 k1).1 (h6 k1).2) h
  · rw [p k]; exact h
  · rw [p k]; exact md_g h1 h
  · rw [p k]; exact h
  · rw [p k]; exact md_g (hr (by omega) (by omega)) h
  · rw [p k]; exact h
  · rw [p k]; exact md_g (hr k1.2.1 k1.2.2.2.1) h
theorem rn_g {K : Int32 → Prop} {ar fa fy na re my pm ma : Nat → Int32} {op : Prop} {m f s p cm : Int32} {x y : (Nat → Int32) × cs_T} (h1 : K 1) (hp : p.toInt = 3 → K (pm (3 * m + (my m.toNatClampNeg - 1)).toNatClampNeg)) (hr : (re m.toNatClampNeg).toInt ≠ 10 → (re m.toNatClampNeg).toInt ≠ 11 → K (re m.toNatClampNeg)) (h6 : (na m.toNatClampNeg).toInt = 6 → (re m.toNatClampNeg).toInt ≠ 10 ∧ (re m.toNatClampNeg).toInt ≠ 11) (h : gK K x.2) (k : rnM ar fa fy na re my pm ma op m f s p x cm y) : gK K y.2 := by
  have a := gv_g (ar := ar) (fa := fa) (fy := fy) (f := f) (s := s) h1 hp h
  rcases k with ⟨_, _, k⟩ | ⟨_, k, _⟩
  · rw [k]; exact a
  · exact gi_g h1 hr h6 a k
theorem sz_g {K : Int32 → Prop} {ar fa : Nat → Int32} {f row : Int32} {z : cs_T} (h1 : K 1) (hr : K row) (h : gK K z) : gK K (szF ar fa f row z).2 := by
  unfold szF
  dsimp only
  have a := tu_g (v := ar 0) (a := fa (3 * f).toNatClampNeg) (b := 10) h1 h
  generalize tuF (ar 0) (fa (3 * f).toNatClampNeg) 10 z = u at *
  refine md_g hr ⟨a.1, a.2.1, ?_⟩
  dsimp only
  split
  · split
    · exact Or.inr (Or.inr (Or.inr (by decide)))
    · split
      · exact Or.inr (Or.inl (by decide))
      · exact Or.inl (by decide)
  · exact a.2.2
theorem fn_g {K : Int32 → Prop} {due wh cm : Int32} {z : cs_T} (h1 : K 1) (h : gK K z) : gK K (fnF due wh cm z).2 := by
  unfold fnF
  split
  · exact h
  · split
    · exact h
    · split
      · exact md_g h1 h
      · split
        · exact h
        · exact h
end
section
/-! one call -/
theorem gp_le {ar fa pm : Nat → Int32} {m f s : Int32} {z y : cs_T} {j : Nat} {g : Int32} (h : gtP ar fa pm m f s z y j g) (hb : (pm (3 * m + nI j).toNatClampNeg).toInt ≠ 10) (ha : (fa (3 * f + s + nI j).toNatClampNeg).toInt ≠ 10 → (ar (s + nI j).toNatClampNeg).toInt = 0 ∨ (1 ≤ (ar (s + nI j).toNatClampNeg).toInt ∧ (ar (s + nI j).toNatClampNeg).toInt ≤ z.1.toInt)) : 0 ≤ g.toInt ∧ g.toInt ≤ y.1.toInt := by
  obtain ⟨zj, j0, j1, j2, j3⟩ := h
  have hz := j0
  unfold tnB at hz
  have k1 := j1.1
  have k2 := j2.1
  by_cases e : (fa (3 * f + s + nI j).toNatClampNeg).toInt = 10
  · rw [tu_1 ⟨e, hb⟩] at j3 k2
    have hm := md_x (t := 1) (v := ar (s + nI j).toNatClampNeg) j0
    have hi := md_i (t := 1) (v := ar (s + nI j).toNatClampNeg) j0
    have hb2 := hm.2.1
    unfold tnB at hb2
    have hb3 := hm.2.2
    rw [j3]
    refine ⟨hb3.1, ?_⟩
    rcases Classical.em ((mdF 1 (ar (s + nI j).toNatClampNeg) zj).1.toInt = 0) with q | q
    · omega
    · rw [(hi q).2.2]; exact k2
  · rw [tu_5 (by omega) (by omega)] at j3 k2
    dsimp only at j3 k2
    have := ha e
    rw [j3]
    omega
theorem gv_le {ar fa fy my pm : Nat → Int32} {m f s p : Int32} {x : (Nat → Int32) × cs_T} {n : Nat} (hz : tnB x.2) (hn : (my m.toNatClampNeg).toInt = (n : Int)) (hn3 : n ≤ 3) (h1 : p.toInt = 3 → 1 ≤ n) (hA : ∀ j : Nat, j < n → (p.toInt = 3 → j < n - 1) → (fa (3 * f + s + nI j).toNatClampNeg).toInt ≠ 10 → (ar (s + nI j).toNatClampNeg).toInt = 0 ∨ (1 ≤ (ar (s + nI j).toNatClampNeg).toInt ∧ (ar (s + nI j).toNatClampNeg).toInt ≤ x.2.1.toInt)) {j : Nat} (hj : j < n) (hb : (pm (3 * m + nI j).toNatClampNeg).toInt ≠ 10) : 0 ≤ ((gvF ar fa fy my pm m f s p x).1 j).toInt ∧ ((gvF ar fa fy my pm m f s p x).1 j).toInt ≤ (gvF ar fa fy my pm m f s p x).2.1.toInt := by
  unfold gvF
  by_cases h3 : p.toInt = 3
  · rw [if_neg (by omega)]
    dsimp only
    have w1 := h1 h3
    have hm1 : (my m.toNatClampNeg - 1).toInt = (n : Int) - 1 := by rw [iSub (x := (my m.toNatClampNeg).toInt) (y := 1) rfl (by decide) (by omega) (by omega)]; omega
    have hm1N : (my m.toNatClampNeg - 1).toNatClampNeg = n - 1 := tN (by omega)
    rw [hm1N]
    have gb := g1_x (ar := ar) (fa := fa) (pm := pm) (m := m) (f := f) (s := s) (n - 1) 0 x hz
    generalize gv1 ar fa pm m f s (n - 1) 0 x = B at *
    generalize hkd : pm (3 * m + (my m.toNatClampNeg - 1)).toNatClampNeg = kd at *
    generalize fy f.toNatClampNeg - s - (my m.toNatClampNeg - 1) = am at *
    have mb := md_x (t := kd) (v := am) gb.2.1
    have mi := md_i (t := kd) (v := am) gb.2.1
    generalize mdF kd am B.2 = C at *
    have g2 := g2_x (ar := ar) (fa := fa) (my := my) (pm := pm) (m := m) (f := f) (s := s) (pn := my m.toNatClampNeg - 1) (row := C.1) ((fy f.toNatClampNeg - s).toNatClampNeg - (n - 1)) (n - 1) C.2 mb.2.1
    generalize gv2 ar fa my pm m f s (my m.toNatClampNeg - 1) C.1 ((fy f.toNatClampNeg - s).toNatClampNeg - (n - 1)) (n - 1) C.2 = D at *
    have k1 := mb.1.1
    have k2 := g2.1.1
    have k3 := g2.2
    unfold tnB at k3
    by_cases e : j = n - 1
    · rw [e, updS]
      refine ⟨mb.2.2.1, ?_⟩
      rcases Classical.em (C.1.toInt = 0) with q | q
      · omega
      · rw [(mi q).2.2]; exact k2
    · rw [updN e]
      have := gp_le (gb.2.2.2 j (Nat.zero_le j) (by omega)) hb (hA j hj (fun _ => by omega))
      omega
  · rw [if_pos h3, tN hn]
    have gb := g1_x (ar := ar) (fa := fa) (pm := pm) (m := m) (f := f) (s := s) n 0 x hz
    exact gp_le (gb.2.2.2 j (Nat.zero_le j) (by omega)) hb (hA j hj (fun w => absurd w h3))
theorem grX_c {re n S : Int32} {op oq : Prop} {z : cs_T} {x : Int32 × cs_T} (ho : re.toInt ≠ 11 → re.toInt ≠ 10 → re.toInt ≠ 1 → re.toInt < 20 → (op ↔ oq)) (h : grX re n op S z x) : grX re n oq S z x := by
  rcases h with h | h | h | h | ⟨h1, ⟨h2, h3⟩ | ⟨h2, h3⟩⟩
  · exact Or.inl h
  · exact Or.inr (Or.inl h)
  · exact Or.inr (Or.inr (Or.inl h))
  · exact Or.inr (Or.inr (Or.inr (Or.inl h)))
  · exact Or.inr (Or.inr (Or.inr (Or.inr ⟨h1, Or.inl ⟨(ho h1.1 h1.2.1 h1.2.2.1 h1.2.2.2).mp h2, h3⟩⟩)))
  · exact Or.inr (Or.inr (Or.inr (Or.inr ⟨h1, Or.inr ⟨fun w => h2 ((ho h1.1 h1.2.1 h1.2.2.1 h1.2.2.2).mpr w), h3⟩⟩)))
/-- the kinds of things -/
def kdT (ty x : Int32) : Prop := (0 ≤ x.toInt ∧ x.toInt < ty.toInt) ∨ (20 ≤ x.toInt ∧ anyT ty x)
theorem kd_any {ty x : Int32} (h : kdT ty x) : anyT ty x := by
  rcases h with h | h
  · unfold anyT; omega
  · exact h.2
theorem lM_10 {pa : Nat → Int32} (hd : paD pa) {a b : Int32} (hb : b.toInt = 10) (h : lM pa a b) : a.toInt = 10 ∨ a.toInt = 1 := by
  rcases h with h | ⟨h, _⟩ | ⟨h, _⟩
  · have := uM_30 hd (Or.inr hb) h
    rw [this]; exact Or.inl hb
  · exact Or.inl h
  · exact Or.inr h
theorem gv_b {ar fa fy my pm : Nat → Int32} {m f s p : Int32} {x : (Nat → Int32) × cs_T} (hz : tnB x.2) : tnB (gvF ar fa fy my pm m f s p x).2 := by
  unfold gvF
  split
  · exact (g1_x _ 0 x hz).2.1
  · dsimp only
    exact (g2_x _ _ _ (md_x (g1_x _ 0 x hz).2.1).2.1).2
theorem md_0 {t v : Int32} {z : cs_T} (hz : tnB z) (w : (mdF t v z).2.2.1.toInt = 0) : 1 ≤ (mdF t v z).1.toInt ∧ (mdF t v z).1.toInt ≤ (mdF t v z).2.1.toInt := by
  have hb0 := hz
  unfold tnB at hb0
  have k1 : 1 ≤ (mdF t v z).1.toInt := by
    unfold mdF at w ⊢
    split
    · next e1 => rw [if_pos e1] at w; exact absurd w e1
    · next e1 =>
      rw [if_neg e1] at w
      split
      · next e2 => rw [if_pos e2] at w; exact absurd (show (-2 : Int32).toInt = 0 from w) (by decide)
      · show 1 ≤ (z.1 + 1).toInt
        rw [iAdd (x := z.1.toInt) (y := 1) rfl (by decide) (by omega) (by omega)]
        omega
  exact ⟨k1, by rw [(md_i hz (by omega)).2.2]; exact Int.le_refl _⟩
/-- a maker is called where it is meant -/
theorem mk_re {pa ot na re my pm ma fa fy fr tt : Nat → Int32} {ty mn fo t w f sc mp a0 vc e0 : Int32} {c b : Nat} (hty : ty.toInt ≤ 10) (hmn : mn.toInt ≤ 40) (hB : mbD ot na re mn) (hf : rfR ty fo t w) (h1t : ∀ j : Nat, (j : Int) < mn.toInt → (ot j).toInt ≠ 1) (hw : wmM pa ot na re my pm ma fa fy fr mn fo t w f sc mp (nI c)) (hc : (c : Int) < mn.toInt) (hb : (b : Int) < mn.toInt) (hru : ruM pa ot na my pm tt mn fo sc a0 vc (nI c) e0 (nI b)) (hna : na b = na c) (h6 : (na b).toInt = 6) : ¬ opL pa ot na my pm ma mn (re b) 0 ∧ (re b).toInt ≠ 1 ∧ (re b).toInt < 10 := by
  have hnc : (nI c).toInt = (c : Int) := nI_toInt (by omega)
  have hnb : (nI b).toInt = (b : Int) := nI_toInt (by omega)
  have hnC : (nI c).toNatClampNeg = c := nI_c (by omega)
  have z14 : (-14 : Int32).toInt = -14 := by decide
  have z15 : (-15 : Int32).toInt = -15 := by decide
  have z6 : (6 : Int32).toInt = 6 := by decide
  obtain ⟨tS, w1, s, hT1, hT2, hT3, hT4, _, hT6, hT7, _⟩ := wm_tk hmn hw (by omega)
  rw [hnC, ← hna, h6] at hT6
  have k3 : fo.toInt = 3 := by
    rcases hT3 with ⟨q, _⟩ | ⟨q, q2⟩
    · exact q
    · rw [q2] at hT6
      have := hf.2.2.2.2 (by omega)
      omega
  have ht := hf.2.1 (by omega)
  have ksc : sc.toInt = 0 := by
    rcases hT1 with ⟨_, _, q, _⟩ | ⟨q, _⟩
    · omega
    · exact q
  have ebc : b = c := by
    rcases hru with ⟨q, _⟩ | ⟨q, _⟩ | ⟨_, q, _⟩ | ⟨_, _, _, q⟩
    · exact absurd ksc q
    · exact absurd ksc q
    · omega
    · have : (nI b).toInt = (nI c).toInt := by rw [q]
      omega
  subst ebc
  have eS : tS = t := by
    rcases hT2 with ⟨q, _⟩ | ⟨_, q⟩
    · omega
    · exact q
  subst eS
  have ecM : cM tS = tS := by unfold cM; rw [if_neg (by omega)]
  have eot : (ot b).toInt = tS.toInt := by
    unfold hadM at hT7
    rw [hnC, ecM] at hT7
    rcases hT7 with ⟨q, _⟩ | ⟨_, q, _⟩
    · exact q
    · exact absurd h6 q
  have ere : re b = tS := xJ (by rw [(hB b hc).2 h6]; exact eot)
  rw [ere]
  refine ⟨?_, by have := h1t b hc; omega, by omega⟩
  obtain ⟨r1, hm, hr⟩ := hw
  have er : r1 = nI b := by
    rcases hr with ⟨_, q⟩ | ⟨_, q⟩ | ⟨_, q⟩
    · exact q.symm
    · exact q.symm
    · exfalso
      rw [q] at hnb
      omega
  subst er
  rcases hm with ⟨q, _⟩ | ⟨q, _⟩ | ⟨q, _⟩ | ⟨_, _, ⟨_, _, q⟩ | ⟨q, _⟩ | ⟨q, _⟩⟩ | ⟨q, _⟩
  · omega
  · omega
  · omega
  · exfalso
    rw [q] at hnb
    omega
  · exact q
  · exact q
  · omega
/-- a call of a member goes the same way -/
theorem call_1 {up xpa pa ot na re ma my pm fy fa fr ar tt ti pl gox goy : Nat → Int32} {ty mn fo t w f vc tn : Int32} {ha nm : Nat → Int64} {St Ab Va : Int64} (hR : mmR up xpa pa ty ot na re ma my pm mn ha nm St Ab Va) (hF : fcR ty fy fa fr f) (hf : rfR ty fo t w) (htn : 0 ≤ tn.toInt ∧ tn.toInt ≤ 60) (hkd : ∀ i : Nat, 1 ≤ i → (i : Int) ≤ tn.toInt → kdT ty (tt i)) (h1t : ∀ j : Nat, (j : Int) < mn.toInt → (ot j).toInt ≠ 1) (hvc : fo.toInt = 1 → 1 ≤ vc.toInt ∧ vc.toInt ≤ tn.toInt) (hag : agM pa tt ar fa fy tn f 0) (hcs : caS pa ot na re my pm ma fa fy fr ar mn fo t w f vc goy tn (tt, ti, pl))
    {sc mp ip : Int32} {c : Nat} (hw : wmM pa ot na re my pm ma fa fy fr mn fo t w f sc mp (nI c)) (hc : (c : Int) < mn.toInt) (hip : ip.toInt ≠ 0 ↔ mp.toInt = 3)
    {b9 : Nat} {e9 : Int32} {g9 : Nat → Int32} {Z7 Z8 Z9 : cs_T} {m9 o9 : Int32} (hmt : mtX na my pm ha nm mn sc fo (ar 0) vc tt tn c e9 b9) (hha : (g9, Z7) = haX ar (cutF fy fa f.toNatClampNeg) (cutF my pm b9) (my b9).toNatClampNeg (fy f.toNatClampNeg).toNatClampNeg (if sc.toInt ≠ 0 then 1 else 0) ip (gox, tn, e9, tt, ti, pl)) (hgr : grX (re b9) (nI (my b9).toNatClampNeg) (hbX ha nm (re b9) &&& Ab ≠ 0) (sumX (ma b9) (my b9).toNatClampNeg (cutF my pm b9) g9 Z7 b9) Z7 (m9, Z8)) (hcv : (o9, Z9) = cvX m9 (cmM re fo t (nI c)) (fr f.toNatClampNeg) Z8)
    {rn wh cm w9 : Int32} {gg : Nat → Int32} {Y8 Y9 : cs_T} (hco : coM pa ot na re my pm ma fa fy fr ar mn fo t w f vc goy tn (tt, ti, pl) rn wh cm (gg, Y8)) (hfn : (w9, Y9) = fnF (fr f.toNatClampNeg) wh cm Y8) : rn = nI b9 ∧ (b9 : Int) < mn.toInt ∧ gK (kdT ty) Y9 ∧ Z9 = Y9 ∧ (Y9.2.1.toInt = 0 → o9 = w9) := by
  have z0 : (0 : Int32).toInt = 0 := by decide
  have z1 : (1 : Int32).toInt = 1 := by decide
  obtain ⟨hU, hd, hP, hS, hX, hK, hB, hH, hN, hSt, hAb, hVa⟩ := hR
  have hty := hS.1
  have hmn := hS.2.1
  obtain ⟨hff, hfy, hA, hfr⟩ := hF
  have hnc : (nI c).toInt = (c : Int) := nI_toInt (by omega)
  have hnC : (nI c).toNatClampNeg = c := nI_c (by omega)
  have hmb : 0 ≤ (nI c).toInt ∧ (nI c).toInt < mn.toInt := by omega
  obtain ⟨sc2, mp2, m2, hw2, hwh, hco⟩ := hco
  obtain ⟨e1, e2, e3⟩ := wm_e hw hw2
  subst e1; subst e2; subst e3
  rcases hco with ⟨q, _⟩ | ⟨_, e0, s, hs, hru, hrn⟩
  · exfalso; omega
  have hs1 : s = 1 ∨ s = 0 := by
    rcases hs with ⟨_, q⟩ | ⟨_, q⟩
    · exact Or.inl q
    · exact Or.inr q
  obtain ⟨hrb, hsf, hlen, hagd, hre1, hgt⟩ := hcs.2 sc mp (nI c) e0 rn s hw hmb hs hru
  obtain ⟨tS, w1, s', hT1, hT2, hT3, hT4, hT5, hT6, hT7, hT8⟩ := wm_tk hmn.2 hw hmb
  have es : s' = s := by
    rcases hT1 with ⟨q, q2, _⟩ | ⟨q, q2⟩ <;> rcases hs with ⟨k, k2⟩ | ⟨k, k2⟩
    · rw [q2, k2]
    · exact absurd k q
    · exact absurd q k
    · rw [q2, k2]
  rw [es] at hT8
  have hagS := ag_s (s := s) hff hfy.2 hs1 hag
  have hs0 : sc.toInt ≠ 0 → (ar 0).toInt = 0 ∨ (1 ≤ (ar 0).toInt ∧ (ar 0).toInt ≤ tn.toInt) := fun q => by
    obtain ⟨u1, u2, u3⟩ := wm_sc hw q
    have ht := hf.2.1 (by omega)
    have u4 : (fa (3 * f).toNatClampNeg).toInt ≠ 10 := fun e => by
      rw [uM_c (by omega)] at u3
      have := (uR_le' hd u3).2 (by omega)
      have : t.toInt = 10 := by rw [this]; exact e
      omega
    rcases ag_0 hag (by omega) u4 with e | e
    · exact Or.inl e
    · exact Or.inr e.1
  have hsg : ∀ i : Nat, (i : Int) < mn.toInt → (sgM na my pm i = sgM na my pm c ↔ smM na my pm (nI i) (nI c)) := fun i q => sg_x (by omega) (by omega) hty.2 hS.2.2.2.2.1 (hX i q).1.1 (hX c hc).1.1 (hS.2.2.1 i (by omega)) (hS.2.2.1 c (by omega))
  have hch : ∀ v : Int32, 1 ≤ v.toInt ∧ v.toInt ≤ tn.toInt → tfX na my pm (hbX ha nm (if 1 ≤ v.toInt ∧ v.toInt ≤ tn.toInt then tt v.toNatClampNeg else -1)) mn c b9 → chL pa ot na my pm mn (tt v.toNatClampNeg) (nI c) (nI b9) mn.toNatClampNeg ∧ (b9 : Int) < mn.toInt := fun v hv h => by
    rw [if_pos hv] at h
    have hx := xN (x := v) (by omega)
    have hk : (0 ≤ (tt v.toNatClampNeg).toInt ∧ (tt v.toNatClampNeg).toInt < ty.toInt) ∨ 20 ≤ (tt v.toNatClampNeg).toInt := (hkd v.toNatClampNeg (by omega) (by omega)).imp id (fun q => q.1)
    exact tf_x hd hty hmn hX hk (fun i q => hb_x hty hmn.2 hH hN hk q) hc hsg h
  have hbn : rn = nI b9 ∧ (b9 : Int) < mn.toInt ∧ e0 = e9 := by
    rcases hmt with ⟨⟨k1, k2⟩, k3, k4⟩ | ⟨k1, r, k2, k3⟩
    · rcases hru with ⟨q1, _⟩ | ⟨q1, _⟩ | ⟨_, q1, _⟩ | ⟨_, _, q3, q4⟩
      · exact absurd k1 q1
      · exact absurd k1 q1
      · exact absurd q1 k2
      · exact ⟨by rw [q4, k4], by rw [k4]; exact hc, q3.trans k3.symm⟩
    · rcases hru with ⟨q1, q2, q3, q4⟩ | ⟨q1, q2, q3, q4⟩ | ⟨q1, q2, q3, q4⟩ | ⟨q1, q2, _⟩
      · rcases k2 with ⟨k2, k4⟩ | ⟨k2, _⟩
        · rw [k4] at k3
          rcases k3 with ⟨k5, k6, k7⟩ | ⟨k5, _⟩
          · exact ⟨by rw [q4, k7], by rw [k7]; exact hc, q3.trans k6.symm⟩
          · exact absurd q2 k5
        · exact absurd k2 q1
      · rcases k2 with ⟨k2, k4⟩ | ⟨k2, _⟩
        · rw [k4] at k3
          rcases k3 with ⟨k5, _⟩ | ⟨k5, k6, k7⟩
          · exact absurd k5 q2
          · obtain ⟨u1, u2⟩ := hch (ar 0) ((hs0 q1).resolve_left q2) k7
            exact ⟨ch_d q4 u1, u2, q3.trans k6.symm⟩
        · exact absurd k2 q1
      · rcases k2 with ⟨k2, _⟩ | ⟨k2, k4⟩
        · exact absurd q1 k2
        · rw [k4] at k3
          rcases k3 with ⟨k5, _⟩ | ⟨k5, k6, k7⟩
          · have := hvc q2
            omega
          · obtain ⟨u1, u2⟩ := hch vc (hvc q2) k7
            exact ⟨ch_d q4 u1, u2, q3.trans k6.symm⟩
      · exact absurd ⟨q1, q2⟩ k1
  obtain ⟨e4, hbm, e5⟩ := hbn
  subst e4; subst e5
  have hbC : (nI b9).toNatClampNeg = b9 := nI_c (by omega)
  have hsm : smM na my pm (nI b9) (nI c) := by
    have ch : ∀ T : Int32, chL pa ot na my pm mn T (nI c) (nI b9) mn.toNatClampNeg → smM na my pm (nI b9) (nI c) := fun T h => by
      rcases h with ⟨q, _⟩ | ⟨b, _, q, q2, _⟩
      · rw [q]; exact sm_r _
      · rw [q]; exact q2.1
    rcases hru with ⟨_, _, _, q⟩ | ⟨_, _, _, q⟩ | ⟨_, _, _, q⟩ | ⟨_, _, _, q⟩
    · rw [q]; exact sm_r _
    · exact ch _ q
    · exact ch _ q
    · rw [q]; exact sm_r _
  have hna : na b9 = na c := by have := hsm.1; rw [hbC, hnC] at this; exact this
  have hmc : my b9 = my c := by have := hsm.2.1; rw [hbC, hnC] at this; exact this
  have hyb := hS.2.2.1 b9 (by omega)
  have hNb := xN hyb.1
  have hQ := xN hfy.1
  obtain ⟨N, hNd⟩ : ∃ n : Nat, (my b9).toNatClampNeg = n := ⟨_, rfl⟩
  obtain ⟨nq, hqd⟩ : ∃ n : Nat, (fy f.toNatClampNeg).toNatClampNeg = n := ⟨_, rfl⟩
  obtain ⟨sN, hsd⟩ : ∃ n : Nat, (if sc.toInt ≠ 0 then 1 else 0 : Nat) = n := ⟨_, rfl⟩
  rw [hNd, hqd, hsd] at hha
  rw [hNd] at hgr hNb
  rw [hqd] at hQ
  rw [hbC] at hlen hre1
  have hsN : s = nI sN ∧ sN ≤ 1 := by
    rw [← hsd]
    rcases hs with ⟨q, q2⟩ | ⟨q, q2⟩
    · rw [if_pos q, q2]; exact ⟨by decide, by decide⟩
    · rw [if_neg (fun z => z q), q2]; exact ⟨by decide, by decide⟩
  have hsT : s.toInt = (sN : Int) := by rw [hsN.1]; exact nI_toInt (by omega)
  have hsC : s.toNatClampNeg = sN := tN hsT
  have hN1 : mp.toInt = 3 → 1 ≤ N := fun q => by omega
  have har : ∀ j : Nat, j < 10 → (s + nI j).toNatClampNeg = sN + j := fun j q => by
    have : (s + nI j).toInt = (sN : Int) + (j : Int) := iAdd hsT (nI_toInt (by omega)) (by omega) (by omega)
    exact tN (by omega)
  have hfq : ∀ j : Nat, sN + j < nq → fa (3 * f + s + nI j).toNatClampNeg = cutF fy fa f.toNatClampNeg (sN + j) := fun j q => by
    have := cutA (ty := ty) (fy := fy) (fa := fa) (f := f) (s := s) (j := j) hff hfy hs1.symm (by omega)
    rw [hsC] at this
    exact this.symm
  have hpf : ∀ j : Nat, j < N → pm (3 * nI b9 + nI j).toNatClampNeg = cutF my pm b9 j := fun j q => by
    rw [ixn (by omega) (by omega), cut_at (by rw [hNd]; exact q)]
  have hpc : ∀ j : Nat, j < N → pm (3 * nI b9 + nI j).toNatClampNeg = pm (3 * nI c + nI j).toNatClampNeg := fun j q => hsm.2.2 j (Nat.zero_le j) (by rw [hbC]; omega)
  have hlast : 1 ≤ N → my b9 - 1 = nI (N - 1) := fun q => xJ (by
    rw [nI_toInt (by omega), iSub (x := (my b9).toInt) (y := 1) rfl (by decide) (by omega) (by omega)]
    omega)
  have hplc : 1 ≤ N → ∀ j : Nat, j < 10 → plV my pm (nI b9) (nI j) = plV my pm (nI c) (nI j) := fun q j hj => by
    unfold plV
    rw [hbC, hnC, ← hmc, hlast q, hpc (N - 1) (by omega)]
    by_cases e : (nI j).toInt < (my b9).toInt - 1
    · rw [if_pos e, if_pos e]
      exact hpc j (by have := nI_toInt (n := j) (by omega); omega)
    · rw [if_neg e, if_neg e]
  have hplx : 1 ≤ N → ∀ j : Nat, N - 1 ≤ j → j < 10 → plV my pm (nI b9) (nI j) = prX (cutF my pm b9 (N - 1)) := fun q j q1 q2 => by
    unfold plV prX
    rw [hbC, if_neg (by rw [nI_toInt (by omega)]; omega), hlast q, hpf (N - 1) (by omega)]
  have hv3 : mp.toInt = 3 → ∀ j : Nat, j < 10 → plT ty (plV my pm (nI c) (nI j)) := fun q j hj => by
    have h4 : (ma c &&& 4).toInt ≠ 0 := by
      rcases hT8.1 with ⟨q1, _⟩ | ⟨_, q2, _⟩
      · omega
      · rw [hnC] at q2; exact q2
    exact pl_V hty (by omega) hS.2.2.2.2.1 (hS.2.2.2.2.2 c hc h4)
  have hfit : ∀ j : Nat, sN + j < nq → (j < (if mp.toInt = 3 then N - 1 else N) → (cutF my pm b9 j).toInt ≠ 11 ∧ ((cutF fy fa f.toNatClampNeg (sN + j)).toInt ≠ 10 → (cutF my pm b9 j).toInt = 10 → (cutF fy fa f.toNatClampNeg (sN + j)).toInt = 1)) ∧ (mp.toInt = 3 → N - 1 ≤ j → (plV my pm (nI b9) (nI j)).toInt ≠ 11 ∧ ((cutF fy fa f.toNatClampNeg (sN + j)).toInt ≠ 10 → (plV my pm (nI b9) (nI j)).toInt = 10 → (cutF fy fa f.toNatClampNeg (sN + j)).toInt = 1)) := fun j q => by
    obtain ⟨J1, J2, J3⟩ := hT8.2 j (Nat.zero_le j) (by omega)
    rw [hfq j q] at J1 J2 J3
    have ten : ∀ a b : Int32, lM pa a b → a.toInt ≠ 10 → b.toInt = 10 → a.toInt = 1 := fun a b h k1 k2 => (lM_10 hd k2 h).resolve_left k1
    refine ⟨fun hj => ?_, fun k3 hj => ?_⟩
    · have hjN : j < N := by
        split at hj
        · omega
        · omega
      rw [← hpf j hjN]
      have hp := hS.2.2.2.2.1 (3 * nI b9 + nI j).toNatClampNeg
      refine ⟨by unfold plT at hp; omega, fun k1 k2 => ?_⟩
      rw [hpc j hjN] at k2
      have hp3 : mp.toInt = 1 ∨ mp.toInt = 2 ∨ mp.toInt = 3 := by omega
      rcases hp3 with e | e | e
      · have e6 := uM_30 hd (Or.inr k2) (J1 e)
        rw [e6] at k1
        exact absurd k2 k1
      · exact ten _ _ (J2 e) k1 k2
      · refine ten _ _ (J3 e) k1 ?_
        rw [if_pos e] at hj
        unfold plV
        rw [hnC, ← hmc, if_pos (by rw [nI_toInt (by omega)]; omega)]
        exact k2
    · rw [hplc (hN1 k3) j (by omega)]
      have hp := hv3 k3 j (by omega)
      exact ⟨by unfold plT at hp; omega, fun k1 k2 => ten _ _ (J3 k3) k1 k2⟩
  have hx := ha_x (ty := ty) (ar := ar) (fa := fa) (fq := cutF fy fa f.toNatClampNeg) (pf := cutF my pm b9) (fy := fy) (my := my) (pm := pm) (m := nI b9) (f := f) (sI := s) (p := mp) (ip := ip) (tn := tn) (n := N) (nq := nq) (s := sN) (x := (gox, tn, e0, tt, ti, pl)) (y := (goy, tn, e0, tt, ti, pl)) rfl htn rfl (by omega) (by omega) hsN.2 (by rw [hbC]; omega) (by omega) hsN.1 hip (by omega) (fun j q => ⟨fun k1 => by
      have hz := hagS j (by omega) (by rw [hfq j q]; omega)
      rw [har j (by omega)] at hz
      exact hz.imp id (fun z => z.1), by rw [har j (by omega)], hfq j q, (hfit j q).1, (hfit j q).2⟩) hpf (fun k3 j q1 q2 => hplx (hN1 k3) j q1 (by omega)) (fun k3 => by
      rw [← hplx (hN1 k3) (N - 1) (Nat.le_refl _) (by omega), hplc (hN1 k3) (N - 1) (by omega)]
      have hp := hv3 k3 (N - 1) (by omega)
      unfold plT at hp
      omega)
  rw [← hha] at hx
  have hWb := gv_b (ar := ar) (fa := fa) (fy := fy) (my := my) (pm := pm) (m := nI b9) (f := f) (s := s) (p := mp) (x := (goy, tn, e0, tt, ti, pl)) htn
  have hle : ∀ j : Nat, j < N → (pm (3 * nI b9 + nI j).toNatClampNeg).toInt ≠ 10 → 0 ≤ ((gvF ar fa fy my pm (nI b9) f s mp (goy, tn, e0, tt, ti, pl)).1 j).toInt ∧ ((gvF ar fa fy my pm (nI b9) f s mp (goy, tn, e0, tt, ti, pl)).1 j).toInt ≤ (gvF ar fa fy my pm (nI b9) f s mp (goy, tn, e0, tt, ti, pl)).2.1.toInt := fun j q k => gv_le (n := N) (x := (goy, tn, e0, tt, ti, pl)) (show tnB (tn, e0, tt, ti, pl) from htn) (by rw [hbC]; omega) (by omega) hN1 (fun i q1 q2 q3 => by
      have q4 : (i : Int) < (fy f.toNatClampNeg).toInt - s.toInt := by
        rcases hlen with ⟨u1, _, u2⟩ | ⟨u1, _, _, u2⟩
        · omega
        · have := q2 u1
          omega
      exact (hagS i q4 q3).imp id (fun z => z.1)) q k
  have hK1 : kdT ty 1 := Or.inl ⟨by decide, by omega⟩
  have hg8 : gK (kdT ty) Y8 := rn_g (x := (goy, tn, e0, tt, ti, pl)) hK1 (fun k3 => by
      rw [hbC, hlast (hN1 k3), hpc (N - 1) (by have := hN1 k3; omega)]
      have h4 : (ma c &&& 4).toInt ≠ 0 := by
        rcases hT8.1 with ⟨q1, _⟩ | ⟨_, q2, _⟩
        · omega
        · rw [hnC] at q2; exact q2
      have h20 := hS.2.2.2.2.2 c hc h4
      rw [← hmc, hlast (hN1 k3)] at h20
      exact Or.inr ⟨h20, pl_any (hS.2.2.2.2.1 _)⟩) (fun u1 u2 => by
      rw [hbC] at u1 u2 ⊢
      have hany := (hX b9 hbm).1.2.1
      unfold kdT
      unfold anyT at hany ⊢
      omega) (fun u => by
      rw [hbC] at u ⊢
      have := hB b9 hbm
      rw [this.2 u]
      omega) ⟨htn, hkd, by
      rcases hru with ⟨_, _, q, _⟩ | ⟨_, _, q, _⟩ | ⟨_, _, q, _⟩ | ⟨_, _, q, _⟩
      · rw [q]; exact Or.inr (Or.inr (Or.inl (show (-21 : Int32).toInt = -21 by decide)))
      · rw [q]; exact Or.inl (show (0 : Int32).toInt = 0 by decide)
      · rw [q]; exact Or.inl (show (0 : Int32).toInt = 0 by decide)
      · rw [q]; exact Or.inl (show (0 : Int32).toInt = 0 by decide)⟩ hrn
  have hg9 : gK (kdT ty) Y9 := by
    have := fn_g (due := fr f.toNatClampNeg) (wh := wh) (cm := cm) hK1 hg8
    rw [← hfn] at this
    exact this
  unfold rnM at hrn
  rw [hbC] at hrn
  obtain ⟨W, hW⟩ : ∃ W, gvF ar fa fy my pm (nI b9) f s mp (goy, tn, e0, tt, ti, pl) = W := ⟨_, rfl⟩
  rw [hW] at hrn hx hWb hle
  obtain ⟨g, n7, en7, t7, i7, l7⟩ := W
  dsimp only at hrn hx hWb hle
  obtain ⟨hx1, hx2⟩ := hx
  subst hx1
  refine ⟨rfl, hbm, hg9, ?_⟩
  rcases hrn with ⟨k1, k2, k3⟩ | ⟨k1, k2, k3⟩
  · -- it has ended
    have eY : Y8 = (n7, en7, t7, i7, l7) := congrArg Prod.snd k3
    have eZ : Z8 = (n7, en7, t7, i7, l7) := gr_e k1 hgr
    subst eY; subst eZ
    rw [cv_1 (Or.inl k1)] at hcv
    unfold fnF at hfn
    rw [if_pos k1] at hfn
    have e6 := congrArg Prod.snd hcv
    have e7 := congrArg Prod.snd hfn
    dsimp only at e6 e7
    rw [e6, e7]
    exact ⟨rfl, fun q => absurd q k1⟩
  · -- it goes on
    obtain ⟨_, hgo⟩ := hx2 k1
    have hgd := hgt g n7 en7 t7 i7 l7 hW.symm k1
    have hG : ∀ j : Nat, j < N → gtX (cutF my pm b9) g n7 i7 j := fun j q => by
      have hnj : (nI j).toNatClampNeg = j := nI_c (by omega)
      obtain ⟨G1, G2⟩ := hgd j (by rw [hbC]; omega)
      rw [hnj, hpf j q] at G1 G2
      have hl := hle j q
      rw [hpf j q] at hl
      refine ⟨fun k => ?_, fun k => ?_⟩
      · have := hl (by omega)
        omega
      · have := hl (by omega)
        rcases Classical.em ((g j).toInt = 0) with u | u
        · exact Or.inl u
        · exact Or.inr ⟨by omega, (G2 k u).2⟩
    have hsu := su_x (ma := ma) (my := my) (pm := pm) (pf := cutF my pm b9) (go := g9) (gp := g) (tn := n7) (en := en7) (tt := t7) (ti := i7) (pl := l7) (b := b9) (N := N) (by omega) (by omega) (by omega) hWb.2 hpf hgo hG
    rw [hsu] at hgr
    have hgr2 := grX_c (oq := opL pa ot na my pm ma mn (re b9) 0) (fun u1 u2 u3 u4 => op_x hty hmn.2 hH hN hAb (Or.inl (by
      have := (hX b9 hbm).1.2.1
      unfold anyT at this
      omega))) hgr
    have hE := gr_x (by omega) (show my b9 = nI N by rw [← hNd]; exact (nI_self hyb.1).symm) (mk_re hty.2 hmn.2 hB hf h1t hw hc hbm hru hna) hgr2 k2
    have e6 := congrArg Prod.fst hE
    have e7 := congrArg Prod.snd hE
    dsimp only at e6 e7
    subst e6; subst e7
    have hfx := fn_x (due := fr f.toNatClampNeg) (wh := wh) (cm := m9) (z := Z8) (fun u1 u2 u3 => by
      have v1 : (re b9).toInt = 1 := hre1 (by rw [← hwh]; exact u1)
      rcases hgr2 with ⟨v2, _⟩ | ⟨v2, _⟩ | ⟨_, v2⟩ | ⟨v2, _⟩ | ⟨v2, _⟩
      · omega
      · omega
      · have v3 := congrArg Prod.fst v2
        have v4 := congrArg Prod.snd v2
        dsimp only at v3 v4
        rw [v4] at u3
        rw [v3, v4]
        exact md_0 hWb u3
      · omega
      · omega)
    rw [hwh] at hfx hfn
    rw [← hcv, ← hfn] at hfx
    exact hfx
theorem wm_4 {pa ot na re my pm ma fa fy fr : Nat → Int32} {mn fo t w f sc mp m : Int32} (h : wmM pa ot na re my pm ma fa fy fr mn fo t w f sc mp m) (hm : m.toInt = 99) (k4 : fo.toInt = 4) : lM pa (fa (3 * f).toNatClampNeg) 10 := by
  have z15 : (-15 : Int32).toInt = -15 := by decide
  have z11 : (-11 : Int32).toInt = -11 := by decide
  obtain ⟨r1, h1, h2⟩ := h
  have e : r1.toInt = 99 := by
    rcases h2 with ⟨_, q⟩ | ⟨_, q⟩ | ⟨_, q⟩
    · rw [← q]; exact hm
    · rw [← q]; exact hm
    · rw [q] at hm; omega
  rcases h1 with ⟨q, _⟩ | ⟨q, _⟩ | ⟨q, _⟩ | ⟨q, _⟩ | ⟨_, _, _, ⟨q, _⟩ | ⟨_, q⟩⟩
  · omega
  · omega
  · omega
  · omega
  · exact q.2
  · rw [q] at e; omega
/-- a call that makes one plainly goes the same way -/
theorem call_0 {pa ot na re ma my pm fy fa fr ar tt ti pl goy : Nat → Int32} {ty mn fo t w f vc tn : Int32} (hd : paD pa) (hty : 2 ≤ ty.toInt ∧ ty.toInt ≤ 10) (hkd : ∀ i : Nat, 1 ≤ i → (i : Int) ≤ tn.toInt → kdT ty (tt i)) (hmn : mn.toInt ≤ 40) (hF : fcR ty fy fa fr f) (hf : rfR ty fo t w) (htn : 0 ≤ tn.toInt ∧ tn.toInt ≤ 60) (hag : agM pa tt ar fa fy tn f 0) {sc mp : Int32} (hw : wmM pa ot na re my pm ma fa fy fr mn fo t w f sc mp 99) (h34 : fo.toInt = 3 ∨ fo.toInt = 4)
    {Z8 Z9 : cs_T} {m9 o9 : Int32} (hpl : ((fo.toInt = 3 ∨ (fy f.toNatClampNeg).toNatClampNeg = 0) ∧ (m9, Z8) = mdF (cmM re fo t 99) 0 (tn, 0, tt, ti, pl)) ∨ (¬ (fo.toInt = 3 ∨ (fy f.toNatClampNeg).toNatClampNeg = 0) ∧ (m9, Z8) = szX ar (cutF fy fa f.toNatClampNeg) (cmM re fo t 99) (tn, 0, tt, ti, pl))) (hcv : (o9, Z9) = cvX m9 (cmM re fo t 99) (fr f.toNatClampNeg) Z8)
    {rn wh cm w9 : Int32} {gg : Nat → Int32} {Y8 Y9 : cs_T} (hco : coM pa ot na re my pm ma fa fy fr ar mn fo t w f vc goy tn (tt, ti, pl) rn wh cm (gg, Y8)) (hfn : (w9, Y9) = fnF (fr f.toNatClampNeg) wh cm Y8) : rn = -4 ∧ gK (kdT ty) Y9 ∧ Z9 = Y9 ∧ (Y9.2.1.toInt = 0 → o9 = w9) := by
  have z0 : (0 : Int32).toInt = 0 := by decide
  have z99 : (99 : Int32).toInt = 99 := by decide
  have z30 : (30 : Int32).toInt = 30 := by decide
  have z20 : (20 : Int32).toInt = 20 := by decide
  obtain ⟨hff, hfy, hA, hfr⟩ := hF
  obtain ⟨sc2, mp2, m2, hw2, hwh, hco⟩ := hco
  obtain ⟨_, _, e3⟩ := wm_e hw hw2
  rw [← e3] at hwh hco
  rcases hco with ⟨_, hrn, _, hco⟩ | ⟨q, _⟩
  · have hK1 : kdT ty 1 := Or.inl ⟨by decide, by have z1 : (1 : Int32).toInt = 1 := (by decide); omega⟩
    have hKw : kdT ty (cmM re fo t 99) := by
      unfold cmM
      rcases h34 with k3 | k4
      · rw [if_neg (by omega), if_pos k3]; exact Or.inl (hf.2.1 (by omega))
      · rw [if_pos k4]
        have ht := hf.2.2.1 k4
        by_cases q : t.toInt = 10
        · rw [if_pos q]; exact Or.inr ⟨by omega, by unfold anyT; omega⟩
        · rw [if_neg q]
          have e := iAdd (a := 20) (b := t) z20 rfl (by omega) (by omega)
          exact Or.inr ⟨by omega, by unfold anyT; omega⟩
    have hg0 : gK (kdT ty) (tn, 0, tt, ti, pl) := ⟨htn, hkd, Or.inl z0⟩
    have hg8 : gK (kdT ty) Y8 := by
      rw [← hwh] at hKw
      rcases hco with ⟨_, k5⟩ | ⟨_, k5⟩
      · have := sz_g (ar := ar) (fa := fa) (f := f) hK1 hKw hg0
        rw [← k5] at this
        exact this
      · have := md_g (v := 0) hKw hg0
        rw [← k5] at this
        exact this
    have hg9 : gK (kdT ty) Y9 := by
      have := fn_g (due := fr f.toNatClampNeg) (wh := wh) (cm := cm) hK1 hg8
      rw [← hfn] at this
      exact this
    refine ⟨hrn, hg9, ?_⟩
    have hE : (m9, Z8) = (cm, Y8) := by
      rcases hco with ⟨k4, k5⟩ | ⟨k4, k5⟩
      · have hy1 := wm_99 hw z99 k4
        have hyN : (fy f.toNatClampNeg).toNatClampNeg = 1 := tN hy1
        have h10 := lM_10 hd (by decide) (wm_4 hw z99 k4)
        have e0 : (3 * f).toNatClampNeg = 3 * f.toNatClampNeg := by
          have hfx := xN hff.1
          have : (3 * f).toInt = 3 * f.toInt := iMul (by decide) rfl (by omega) (by omega)
          exact tN (by omega)
        have ec : cutF fy fa f.toNatClampNeg 0 = fa (3 * f).toNatClampNeg := by rw [cut_at (by omega), e0]; rfl
        rcases hpl with ⟨q | q, _⟩ | ⟨_, q⟩
        · omega
        · omega
        · rw [q]
          dsimp only at k5
          rw [k5, hwh]
          exact sz_x ec (by rw [ec]; exact h10) (fun u => by
            rw [ec] at u
            rcases ag_0 hag (by omega) (by omega) with v | v
            · exact Or.inl v
            · exact Or.inr v.1)
      · rcases hpl with ⟨_, q⟩ | ⟨q, _⟩
        · rw [q]
          dsimp only at k5
          rw [k5, hwh]
        · exact absurd (Or.inl (h34.resolve_right k4)) q
    have e6 := congrArg Prod.fst hE
    have e7 := congrArg Prod.snd hE
    dsimp only at e6 e7
    subst e6; subst e7
    have hfx := fn_x (due := fr f.toNatClampNeg) (wh := wh) (cm := m9) (z := Z8) (fun u1 u2 u3 => by
      rcases h34 with k3 | k4
      · rcases hpl with ⟨_, q⟩ | ⟨q, _⟩
        · have v3 := congrArg Prod.fst q
          have v4 := congrArg Prod.snd q
          dsimp only at v3 v4
          rw [v4] at u3
          rw [v3, v4]
          exact md_0 htn u3
        · exact absurd (Or.inl k3) q
      · exfalso
        rw [hwh] at u1
        unfold cmM at u1
        rw [if_pos k4] at u1
        have ht := hf.2.2.1 k4
        by_cases q : t.toInt = 10
        · rw [if_pos q] at u1
          omega
        · rw [if_neg q, iAdd z20 rfl (by omega) (by omega)] at u1
          omega)
    rw [hwh] at hfx hfn
    rw [← hcv, ← hfn] at hfx
    exact hfx
  · exfalso; omega
end
section
/-! things, the ring, what was made stays -/
theorem kd_new {ty tn t : Int32} {tt : Nat → Int32} (hn : 0 ≤ tn.toInt ∧ tn.toInt ≤ 60) (h6 : tn.toInt < 60) (h : ∀ i : Nat, 1 ≤ i → (i : Int) ≤ tn.toInt → kdT ty (tt i)) (hk : kdT ty t) : ∀ i : Nat, 1 ≤ i → (i : Int) ≤ (tn + 1).toInt → kdT ty (upd tt (tn + 1).toNatClampNeg t i) := fun i q1 q2 => by
  have e : (tn + 1).toInt = tn.toInt + 1 := iAdd rfl (by decide) (by omega) (by omega)
  have hx := xN (x := tn + 1) (by omega)
  by_cases ei : i = (tn + 1).toNatClampNeg
  · rw [ei, updS]; exact hk
  · rw [updN ei]; exact h i q1 (by omega)
theorem i50 {a i : Int32} {A I : Nat} (ha : a.toInt = (A : Int)) (hi : i.toInt = (I : Int)) (hA : A < 1000) (hI : I < 1000) : ((a + i) - (a + i) / 50 * 50).toNatClampNeg = (A + I) % 50 := by
  have e50 : (50 : Int32).toInt = 50 := by decide
  have e0 : (a + i).toInt = (A : Int) + (I : Int) := iAdd ha hi (by omega) (by omega)
  have e1 : ((a + i) / 50).toInt = ((A : Int) + (I : Int)) / 50 := by
    rw [Int32.toInt_div, e50, e0, Int.tdiv_eq_ediv_of_nonneg (by omega)]
    exact Int.bmod_eq_of_le (by omega) (by omega)
  have e2 : ((a + i) / 50 * 50).toInt = ((A : Int) + (I : Int)) / 50 * 50 := iMul e1 e50 (by omega) (by omega)
  have e3 := iSub (a := a + i) (b := (a + i) / 50 * 50) e0 e2 (by omega) (by omega)
  refine tN ?_
  rw [e3]
  omega
theorem rk_1 {ke tc : Nat → Int32} {ol kn v : Int32} (ho : 0 ≤ ol.toInt ∧ ol.toInt < 50) (hk : 0 ≤ kn.toInt ∧ kn.toInt < 50) (h : ∀ i : Nat, (i : Int) < kn.toInt → ke ((ol + nI i) - (ol + nI i) / 50 * 50).toNatClampNeg = tc i) : ∀ i : Nat, (i : Int) < (kn + 1).toInt → upd ke ((ol + kn) - (ol + kn) / 50 * 50).toNatClampNeg v ((ol + nI i) - (ol + nI i) / 50 * 50).toNatClampNeg = upd tc kn.toNatClampNeg v i := fun i q => by
  have e : (kn + 1).toInt = kn.toInt + 1 := iAdd rfl (by decide) (by omega) (by omega)
  have ha := xN ho.1
  have hb := xN hk.1
  have e1 := i50 (a := ol) (i := kn) (A := ol.toNatClampNeg) (I := kn.toNatClampNeg) ha.symm hb.symm (by omega) (by omega)
  have e2 := i50 (a := ol) (i := nI i) (A := ol.toNatClampNeg) (I := i) ha.symm (nI_toInt (by omega)) (by omega) (by omega)
  by_cases ei : i = kn.toNatClampNeg
  · rw [ei, updS, nI_self hk.1, updS]
  · have hi := h i (by omega)
    rw [updN ei, updN (by rw [e1, e2]; omega)]
    exact hi
theorem rk_2 {ke tc : Nat → Int32} {ol kn v : Int32} (ho : 0 ≤ ol.toInt ∧ ol.toInt < 50) (hk : kn.toInt = 50) (h : ∀ i : Nat, (i : Int) < kn.toInt → ke ((ol + nI i) - (ol + nI i) / 50 * 50).toNatClampNeg = tc i) : ∀ i : Nat, (i : Int) < (kn - 1 + 1).toInt → upd ke ((ol + kn) - (ol + kn) / 50 * 50).toNatClampNeg v ((((ol + 1) - (ol + 1) / 50 * 50) + nI i) - (((ol + 1) - (ol + 1) / 50 * 50) + nI i) / 50 * 50).toNatClampNeg = upd (shT tc) (kn - 1).toNatClampNeg v i := fun i q => by
  have e0 : (kn - 1).toInt = 49 := by rw [iSub (x := 50) (y := 1) hk (by decide) (by omega) (by omega)]; rfl
  have e : (kn - 1 + 1).toInt = 50 := by rw [iAdd (x := 49) (y := 1) e0 (by decide) (by omega) (by omega)]; rfl
  have ha := xN ho.1
  have e1 := i50 (a := ol) (i := kn) (A := ol.toNatClampNeg) (I := 50) ha.symm hk (by omega) (by omega)
  have eo := i50 (a := ol) (i := 1) (A := ol.toNatClampNeg) (I := 1) ha.symm (by decide) (by omega) (by omega)
  have er := rem50 (x := ol + 1) (by rw [iAdd (x := ol.toInt) (y := 1) rfl (by decide) (by omega) (by omega)]; omega)
  have hx := xN er.1
  have e2 := i50 (a := (ol + 1) - (ol + 1) / 50 * 50) (i := nI i) (A := (ol.toNatClampNeg + 1) % 50) (I := i) (by rw [← eo]; exact hx.symm) (nI_toInt (by omega)) (by omega) (by omega)
  have ek : (kn - 1).toNatClampNeg = 49 := tN e0
  rw [e1, e2, ek]
  by_cases ei : i = 49
  · rw [ei, updS]
    have : (ol.toNatClampNeg + 50) % 50 = ((ol.toNatClampNeg + 1) % 50 + 49) % 50 := by omega
    rw [this, updS]
  · rw [updN ei, updN (by omega)]
    unfold shT
    rw [if_pos (by omega)]
    have hi := h (i + 1) (by omega)
    have e3 := i50 (a := ol) (i := nI (i + 1)) (A := ol.toNatClampNeg) (I := i + 1) ha.symm (nI_toInt (by omega)) (by omega) (by omega)
    rw [e3] at hi
    rw [← hi]
    congr 1
    omega
/-- references that were made stay -/
theorem rfF_c {fo rt rm : Nat → Int32} {o t w mn : Int32} {dyn : pm_H} {j i : Nat} (e : i ≠ mn.toNatClampNeg) (h : rfF fo rt rm dyn j i) : rfF (upd fo mn.toNatClampNeg o) (upd rt mn.toNatClampNeg t) (upd rm mn.toNatClampNeg w) dyn j i := by
  unfold rfF rnF at h ⊢
  rw [updN e, updN e, updN e]
  exact h
/-- faces that were made stay -/
theorem fcF_c {dFy dFa dFr to : Nat → Int32} {r mn tm : Int32} {dyn : pm_H} {j i : Nat} (hi : i < mn.toNatClampNeg) (h : fcF dFy dFa dFr dyn j i) : fcF (upd dFy mn.toNatClampNeg tm) (cpF dFa to mn tm) (upd dFr mn.toNatClampNeg r) dyn j i := by
  obtain ⟨p, h2, h3, h4⟩ := h
  have e : i ≠ mn.toNatClampNeg := by omega
  refine ⟨p, ?_, ?_, ?_⟩
  · rw [updN e]; exact h2
  · rw [updN e, cut_c (my := dFy) (pm := dFa) (updN e) (fun k q => cp_old hi q) h4]; exact h3
  · rw [updN e]; exact h4
theorem vlF_ap {dFo dRt dRm dFy dFa dFr dOt dNa dRe dMa dMy dPm dVr dVf dVc dVb dVp dVo : Nat → Int32} {dVm : Nat → Option Nat} {mn : Int32} {al : Nat → Option Nat} {dyn : pm_H} (e : pm_H) (h : vlF dFo dRt dRm dFy dFa dFr dOt dNa dRe dMa dMy dPm dVr dVf dVc dVb dVp dVo dVm mn al dyn) : vlF dFo dRt dRm dFy dFa dFr dOt dNa dRe dMa dMy dPm dVr dVf dVc dVb dVp dVo dVm mn al (dyn ++ e) := fun i q => by
  obtain ⟨j, r, f, mv, q1, q2⟩ := h i q
  exact ⟨j, r, f, mv, q1, vuF_ap e q2⟩
theorem vlF_r {dFo dRt dRm dFy dFa dFr dOt dNa dRe dMa dMy dPm dVr dVf dVc dVb dVp dVo : Nat → Int32} {dVm : Nat → Option Nat} {mn rn o t w : Int32} {al : Nat → Option Nat} {dyn : pm_H} (hb : ∀ i : Nat, (i : Int) < mn.toInt → 0 ≤ (dVr i).toInt ∧ (dVr i).toInt < rn.toInt) (h : vlF dFo dRt dRm dFy dFa dFr dOt dNa dRe dMa dMy dPm dVr dVf dVc dVb dVp dVo dVm mn al dyn) : vlF (upd dFo rn.toNatClampNeg o) (upd dRt rn.toNatClampNeg t) (upd dRm rn.toNatClampNeg w) dFy dFa dFr dOt dNa dRe dMa dMy dPm dVr dVf dVc dVb dVp dVo dVm mn al dyn := fun i q => by
  obtain ⟨j, r, f, mv, q1, q2, q3, q4⟩ := h i q
  have hx := hb i q
  have k1 := xN hx.1
  have k2 := xN (x := rn) (by omega)
  exact ⟨j, r, f, mv, q1, q2, rfF_c (by omega) q3, q4⟩
theorem vlF_f {dFo dRt dRm dFy dFa dFr dOt dNa dRe dMa dMy dPm dVr dVf dVc dVb dVp dVo to : Nat → Int32} {dVm : Nat → Option Nat} {mn fn tm x : Int32} {al : Nat → Option Nat} {dyn : pm_H} (hb : ∀ i : Nat, (i : Int) < mn.toInt → 0 ≤ (dVf i).toInt ∧ (dVf i).toInt < fn.toInt) (h : vlF dFo dRt dRm dFy dFa dFr dOt dNa dRe dMa dMy dPm dVr dVf dVc dVb dVp dVo dVm mn al dyn) : vlF dFo dRt dRm (upd dFy fn.toNatClampNeg tm) (cpF dFa to fn tm) (upd dFr fn.toNatClampNeg x) dOt dNa dRe dMa dMy dPm dVr dVf dVc dVb dVp dVo dVm mn al dyn := fun i q => by
  obtain ⟨j, r, f, mv, q1, q2, q3, q4, q5⟩ := h i q
  have hx := hb i q
  have k1 := xN hx.1
  have k2 := xN (x := fn) (by omega)
  exact ⟨j, r, f, mv, q1, q2, q3, fcF_c (by omega) q4, q5⟩
/-! one search alone -/
theorem lk_1 {up xpa pa ot na re ma my pm fy fa fr : Nat → Int32} {ty mn fo t w f wh p r : Int32} {ha nm : Nat → Int64} {St Ab Va : Int64} {f9 p9 : Int32} {t9 : Int64} {o9 : Option Nat} (hR : mmR up xpa pa ty ot na re ma my pm mn ha nm St Ab Va) (hF : fcR ty fy fa fr f) (hf : rfR ty fo t w) (k4 : fo.toInt ≠ 4) (hw : wh.toInt = 1) (h : rsX up ma my pm (nmX ha nm (tsX xpa ty fo t) (rwF fo w)) (tsX xpa ty fo t) (fy f.toNatClampNeg).toNatClampNeg (cutF fy fa f.toNatClampNeg) mn 0 f9 t9 p9 o9) (k : lkS pa ot na my pm ma fa fy mn fo t w f wh p r) : p9 = p ∧ anX o9 t9 = r := by
  obtain ⟨tb, t2, t3⟩ := ts_b hR.2.2.1 hf k4
  obtain ⟨s1, _⟩ := r1_x hR hF tb (rw_b hf k4) h
  have e1 : fo.toInt = 3 → rwF fo w = 6 := fun q => by unfold rwF; rw [if_pos q]
  have e2 : fo.toInt ≠ 3 → rwF fo w = w := fun q => by unfold rwF; rw [if_neg q]
  rcases k with ⟨k3, k⟩ | ⟨_, q, _⟩ | ⟨k2, _, k⟩ | ⟨k3, k2, _, k⟩
  · rw [t3 (by omega), e1 k3] at s1
    exact sr_d s1 k
  · omega
  · rw [t2 k2, e2 (by omega)] at s1
    exact sr_d s1 k
  · rw [t3 k2, e2 k3] at s1
    exact sr_d s1 k
theorem lk_2 {up xpa pa ot na re ma my pm fy fa fr : Nat → Int32} {ty mn fo t w f wh p r : Int32} {ha nm : Nat → Int64} {St Ab Va : Int64} {f9 p9 : Int32} {t9 : Int64} {o9 : Option Nat} (hR : mmR up xpa pa ty ot na re ma my pm mn ha nm St Ab Va) (hF : fcR ty fy fa fr f) (hf : rfR ty fo t w) (k0 : fo.toInt = 0) (hw : wh.toInt = 2) (h : rsX up ma my pm (nmX ha nm t (rwF fo w)) t (fy f.toNatClampNeg).toNatClampNeg (cutF fy fa f.toNatClampNeg) mn 1 f9 t9 p9 o9) (k : lkS pa ot na my pm ma fa fy mn fo t w f wh p r) : p9 = p ∧ anX o9 t9 = r := by
  obtain ⟨s1, _⟩ := r2_x hR hF (hf.2.1 (by omega)) (rw_b hf (by omega)) h
  have e2 : rwF fo w = w := by unfold rwF; rw [if_neg (by omega)]
  rw [e2] at s1
  rcases k with ⟨k3, _⟩ | ⟨_, _, k⟩ | ⟨_, q, _⟩ | ⟨_, _, q, _⟩
  · omega
  · exact s2_d s1 k
  · exact absurd hw q
  · exact absurd hw q
/-- when a maker's search is refused -/
theorem sf_x {up xpa pa ot na re ma my pm : Nat → Int32} {ty mn t : Int32} {ha nm : Nat → Int64} {St Ab Va : Int64} (hR : mmR up xpa pa ty ot na re ma my pm mn ha nm St Ab Va) (ht : 0 ≤ t.toInt ∧ t.toInt < ty.toInt) : (hbX ha nm t &&& Ab ≠ 0 ∨ nmX ha nm t 6 = 0) ↔ (opL pa ot na my pm ma mn t 0 ∨ ¬ mkE ot na mn t 0) := by
  obtain ⟨hU, hd, hP, hS, hX, hK, hB, hH, hN, hSt, hAb, hVa⟩ := hR
  exact or_congr (op_x hS.1 hS.2.1.2 hH hN hAb (Or.inl ht)) (Classical.not_not.symm.trans (not_congr (mk_x hS.1 hS.2.1.2 hH hN ht)))
/-! what is found is a member that is there -/
theorem sb_1 {up xpa pa ot na re ma my pm fy fa fr : Nat → Int32} {ty mn fo t w f : Int32} {ha nm : Nat → Int64} {St Ab Va : Int64} {f9 p9 : Int32} {t9 : Int64} {o9 : Option Nat} (hR : mmR up xpa pa ty ot na re ma my pm mn ha nm St Ab Va) (hF : fcR ty fy fa fr f) (hf : rfR ty fo t w) (k4 : fo.toInt ≠ 4) (h : rsX up ma my pm (nmX ha nm (tsX xpa ty fo t) (rwF fo w)) (tsX xpa ty fo t) (fy f.toNatClampNeg).toNatClampNeg (cutF fy fa f.toNatClampNeg) mn 0 f9 t9 p9 o9) : ∀ c : Nat, o9 = some c → (c : Int) < mn.toInt := fun c q => by
  obtain ⟨tb, _, _⟩ := ts_b hR.2.2.1 hf k4
  exact ((r1_x hR hF tb (rw_b hf k4) h).2.2.2 c q).1
theorem sb_2 {up xpa pa ot na re ma my pm fy fa fr : Nat → Int32} {ty mn fo t w f : Int32} {ha nm : Nat → Int64} {St Ab Va : Int64} {f9 p9 : Int32} {t9 : Int64} {o9 : Option Nat} (hR : mmR up xpa pa ty ot na re ma my pm mn ha nm St Ab Va) (hF : fcR ty fy fa fr f) (hf : rfR ty fo t w) (k0 : fo.toInt = 0) (h : rsX up ma my pm (nmX ha nm t (rwF fo w)) t (fy f.toNatClampNeg).toNatClampNeg (cutF fy fa f.toNatClampNeg) mn 1 f9 t9 p9 o9) : ∀ c : Nat, o9 = some c → (c : Int) < mn.toInt := fun c q => ((r2_x hR hF (hf.2.1 (by omega)) (rw_b hf (by omega)) h).2.2.2 c q).1
theorem fo_b {up xpa pa ot na re ma my pm fy fa fr : Nat → Int32} {ty mn fo t w f : Int32} {ha nm : Nat → Int64} {St Ab Va : Int64} {f1 p1 f2 p2 : Int32} {T U : Int64} {o1 o2 o19 o29 : Option Nat} {b9 : Value} {s9 r9 : Int32} (hR : mmR up xpa pa ty ot na re ma my pm mn ha nm St Ab Va) (hF : fcR ty fy fa fr f) (hf : rfR ty fo t w) (h : fiX up xpa re ma my pm St Ab ha nm ty mn (fy f.toNatClampNeg).toNatClampNeg (cutF fy fa f.toNatClampNeg) fo t (rwF fo w) (fr f.toNatClampNeg) f1 T p1 o19 f2 U p2 o29 b9 s9 r9) (b1 : fo.toInt = 4 → o19 = o1) (b2 : fo.toInt ≠ 0 → o29 = o2) (k1 : ∀ b : Nat, o1 = some b → (b : Int) < mn.toInt) (k2 : ∀ b : Nat, o2 = some b → (b : Int) < mn.toInt) : (∀ b : Nat, o19 = some b → (b : Int) < mn.toInt) ∧ (∀ b : Nat, o29 = some b → (b : Int) < mn.toInt) := by
  constructor
  · intro b q
    by_cases e : fo.toInt = 4
    · exact k1 b (by rw [← b1 e]; exact q)
    · exact sb_1 hR hF hf e (h.1 e) b q
  · intro b q
    by_cases e : fo.toInt = 0
    · exact sb_2 hR hF hf e (h.2.1 e) b q
    · exact k2 b (by rw [← b2 e]; exact q)
end
section
/-! receivers, arguments -/
/-- a receiver -/
theorem rv_x {up pa tt : Nat → Int32} {ty tn fo t w v : Int32} (hU : upR up pa ty) (hty : 2 ≤ ty.toInt ∧ ty.toInt ≤ 10) (hf : rfR ty fo t w) (hkd : ∀ i : Nat, 1 ≤ i → (i : Int) ≤ tn.toInt → kdT ty (tt i)) : rcM pa tt tn fo t v ↔ (rvX up tt tn fo t v ∧ ¬ (fo.toInt = 2 ∧ v.toInt = 0)) := by
  obtain ⟨g1, g2, g3, g4, g5⟩ := hf
  have hu : (1 ≤ v.toInt ∧ v.toInt ≤ tn.toInt) → fo.toInt ≠ 4 → (xU up (tt v.toNatClampNeg) t ↔ uM pa (tt v.toNatClampNeg) t = true) := fun q k => by
    have hx := xN (x := v) (by omega)
    have ht := g2 k
    exact hU.2 _ _ (kd_any (hkd _ (by omega) (by omega))) (by omega)
  unfold rcM rvX tuX
  constructor
  · rintro (⟨q1, q2 | q2, q3⟩ | ⟨q1, q2⟩)
    · exact ⟨Or.inl q2, q3⟩
    · exact ⟨Or.inr ⟨by omega, q2.1, (hu q2.1 (by omega)).mpr q2.2⟩, q3⟩
    · exact ⟨Or.inl q2, by omega⟩
  · rintro ⟨q1 | ⟨q1, q2, q3⟩, q4⟩
    · by_cases k : 1 ≤ fo.toInt ∧ fo.toInt ≤ 2
      · exact Or.inl ⟨k, Or.inl q1, q4⟩
      · exact Or.inr ⟨by omega, q1⟩
    · exact Or.inl ⟨by omega, Or.inr ⟨q2, (hu q2 (by omega)).mp q3⟩, q4⟩
/-- the arguments suit -/
theorem ds_x {up pa tt ar fy fa fr : Nat → Int32} {ty tn f : Int32} (hU : upR up pa ty) (hty : 2 ≤ ty.toInt ∧ ty.toInt ≤ 10) (hF : fcR ty fy fa fr f) (hkd : ∀ i : Nat, 1 ≤ i → (i : Int) ≤ tn.toInt → kdT ty (tt i)) : dsL up tt ar tn (fy f.toNatClampNeg).toNatClampNeg (cutF fy fa f.toNatClampNeg) 0 ↔ agM pa tt ar fa fy tn f 0 := by
  obtain ⟨hff, hfy, hA, hfr⟩ := hF
  have hQ := xN hfy.1
  have hc : ∀ j : Nat, (j : Int) < (fy f.toNatClampNeg).toInt → cutF fy fa f.toNatClampNeg j = fa (3 * f + nI j).toNatClampNeg := fun j q => by
    have z0 : (0 : Int32).toInt = 0 := by decide
    have := cutA (ty := ty) (fy := fy) (fa := fa) (f := f) (s := 0) (j := j) hff hfy (Or.inl rfl) (by omega)
    rw [Int32.add_zero, show (0 : Int32).toNatClampNeg + j = j by rw [show (0 : Int32).toNatClampNeg = 0 by decide]; omega] at this
    exact this
  have hu : ∀ (v a : Int32), plT ty a → (1 ≤ v.toInt ∧ v.toInt ≤ tn.toInt) → (xU up (tt v.toNatClampNeg) a ↔ uM pa (tt v.toNatClampNeg) a = true) := fun v a ha q => by
    have hx := xN (x := v) (by omega)
    exact hU.2 _ _ (kd_any (hkd _ (by omega) (by omega))) (pl_b hty.2 ha)
  constructor
  · intro h j q1 q2 q3
    have hj : (nI j).toNatClampNeg = j := nI_c (by omega)
    rw [hj]
    have h2 := h j q1 (by omega)
    rw [hc j q2] at h2
    rcases Classical.em ((ar j).toInt = 0) with e | e
    · exact Or.inl e
    · obtain ⟨k1, k2⟩ := h2 q3 e
      exact Or.inr ⟨k1, (hu _ _ (hA _) k1).mp k2⟩
  · intro h j q1 q2 q3 q4
    have hj : (nI j).toNatClampNeg = j := nI_c (by omega)
    rw [hc j (by omega)] at q3 ⊢
    have h2 := h j q1 (by omega) q3
    rw [hj] at h2
    obtain ⟨k1, k2⟩ := h2.resolve_left q4
    exact ⟨k1, (hu _ _ (hA _) k1).mpr k2⟩
/-! one by one -/
theorem cP_c {P P' : Nat → Prop} : ∀ k : Nat, (∀ b : Nat, b < k → (P b ↔ P' b)) → cP P k = cP P' k := by
  intro k
  induction k with
  | zero => intro _; rfl
  | succ k ih =>
    intro h
    have e := ih (fun b q => h b (by omega))
    by_cases q : P k
    · rw [cP_y q, cP_y ((h k (by omega)).mp q), e]
    · rw [cP_n q, cP_n (fun z => q ((h k (by omega)).mpr z)), e]
theorem cP_m {P : Nat → Prop} {k : Nat} : ∀ l : Nat, k ≤ l → cP P k ≤ cP P l := by
  intro l
  induction l with
  | zero =>
    intro q
    rw [show k = 0 by omega]
    exact Nat.le_refl _
  | succ l ih =>
    intro q
    rcases Nat.eq_or_lt_of_le q with e | e
    · rw [e]; exact Nat.le_refl _
    · have := ih (by omega)
      by_cases w : P l
      · rw [cP_y w]; omega
      · rw [cP_n w]; omega
theorem cP_lt {P : Nat → Prop} {k l : Nat} (h : P k) (q : k < l) : cP P k < cP P l := by
  have e := cP_m (P := P) (k := k + 1) l (by omega)
  rw [cP_y h] at e
  omega
theorem nth_e {P P' : Nat → Prop} {mn i r r' : Int32} (h : ∀ b : Nat, (b : Int) < mn.toInt → (P b ↔ P' b)) (a : nthP P mn i r) (b : nthP P' mn i r') : r = r' := by
  have hc : ∀ x : Nat, (x : Int) < mn.toInt → cP P x = cP P' x := fun x q => cP_c x (fun y q2 => h y (by omega))
  rcases a with ⟨x, x1, x2, x3, x4⟩ | ⟨x1, x2⟩ <;> rcases b with ⟨y, y1, y2, y3, y4⟩ | ⟨y1, y2⟩
  · have e : x = y := by
      have hy := (h y y1).mpr y2
      have ey := hc y y1
      rcases Nat.lt_trichotomy x y with e | e | e
      · have := cP_lt x2 e
        omega
      · exact e
      · have := cP_lt hy e
        omega
    rw [x4, y4, e]
  · exact absurd x3 (by rw [hc x x1]; exact y1 x x1 ((h x x1).mp x2))
  · exact absurd y3 (by rw [← hc y y1]; exact x1 y y1 ((h y y1).mpr y2))
  · rw [x2, y2]
end
section
/-! a new member -/
theorem b_nz {x : Int32} : x.toInt ≠ 0 ↔ ∃ i : Nat, i < 32 ∧ bt x i = true := by
  constructor
  · intro h
    refine Classical.byContradiction (fun q => h ?_)
    have e : x = 0 := b_ext (fun i hi => by rw [b_0]; exact Bool.eq_false_iff.mpr (fun w => q ⟨i, hi, w⟩))
    rw [e]; decide
  · rintro ⟨i, _, h⟩
    exact b_ne h
theorem b_four : ∀ i, i < 32 → bt 4 i = decide (i = 2) := by decide +kernel
theorem b_a4 {x : Int32} : (x &&& 4).toInt ≠ 0 ↔ bt x 2 = true := by
  rw [b_nz]
  constructor
  · rintro ⟨i, hi, h⟩
    rw [b_and, b_four i hi, Bool.and_eq_true, decide_eq_true_eq] at h
    rw [← h.2]; exact h.1
  · intro h
    refine ⟨2, by omega, ?_⟩
    rw [b_and, h, b_four 2 (by omega)]
    rfl
theorem b_xor (x y : Int32) (i : Nat) : bt (x ^^^ y) i = (bt x i ^^ bt y i) := by unfold bt; rw [Int32.toBitVec_xor, BitVec.getLsbD_xor]
theorem bits_1 {x a : Int32} : ((x ||| a) &&& 1).toInt ≠ 0 ↔ ((x &&& 1).toInt ≠ 0 ∨ (a &&& 1).toInt ≠ 0) := by rw [b_a1, b_a1, b_a1, b_or, Bool.or_eq_true]
theorem bits_4 {x a : Int32} : ((x ^^^ a) &&& 4).toInt ≠ 0 ↔ ¬ ((x &&& 4).toInt ≠ 0 ↔ (a &&& 4).toInt ≠ 0) := by
  rw [b_a4, b_a4, b_a4, b_xor]
  cases bt x 2 <;> cases bt a 2 <;> decide
theorem mk3 {a : Int32} (h : 0 ≤ a.toInt ∧ a.toInt ≤ 7) : ((a &&& 3).toInt = 3 ↔ ((a &&& 1).toInt ≠ 0 ∧ (a &&& 2).toInt ≠ 0)) ∧ ((a &&& 3).toInt = 0 ↔ ((a &&& 1).toInt = 0 ∧ (a &&& 2).toInt = 0)) := by
  have hx := xN h.1
  obtain ⟨n, hn, en⟩ : ∃ n : Nat, n < 8 ∧ a = nI n := ⟨a.toNatClampNeg, by omega, (nI_self h.1).symm⟩
  clear hx h
  subst en
  have hc : n = 0 ∨ n = 1 ∨ n = 2 ∨ n = 3 ∨ n = 4 ∨ n = 5 ∨ n = 6 ∨ n = 7 := by omega
  rcases hc with rfl | rfl | rfl | rfl | rfl | rfl | rfl | rfl <;> decide
/-- a clash of two, but for name and parameters -/
theorem cw_x {up pa ot re ma : Nat → Int32} {ty t w r a : Int32} {j : Nat} (hj : j < 1000) (hU : upR up pa ty) (hty : 2 ≤ ty.toInt ∧ ty.toInt ≤ 10) (ht : 0 ≤ t.toInt ∧ t.toInt < ty.toInt) (hot : 0 ≤ (ot j).toInt ∧ (ot j).toInt < ty.toInt) : (t.toInt = (ot j).toInt ∨ (w.toInt ≠ 6 ∧ (xU up t (ot j) ∨ xU up (ot j) t) ∧ ¬ ((a &&& 1).toInt = 0 ∧ (ma j &&& 1).toInt = 0 ∧ r.toInt = (re j).toInt ∧ ((a &&& 4).toInt ≠ 0 ↔ (ma j &&& 4).toInt ≠ 0)))) ↔ clR pa ot re ma (nI j) t w r a := by
  have hb1 := bits_1 (x := ma j) (a := a)
  have hb4 := bits_4 (x := ma j) (a := a)
  have u1 := hU.2 t (ot j) (by unfold anyT; omega) (by omega)
  have u2 := hU.2 (ot j) t (by unfold anyT; omega) (by omega)
  unfold clR
  rw [nI_c hj, u1, u2]
  constructor
  · rintro (q | ⟨q1, q2, q3⟩)
    · exact Or.inl q.symm
    · by_cases e : (ot j).toInt = t.toInt
      · exact Or.inl e
      · exact Or.inr ⟨e, q1, q2, by omega⟩
  · rintro (q | ⟨_, q1, q2, q3⟩)
    · exact Or.inl q.symm
    · exact Or.inr ⟨q1, q2, by omega⟩
/-- name and parameters of the new one -/
theorem sm_new {na my pm to : Nat → Int32} {mn tm w : Int32} {j : Nat} (hmn : 0 ≤ mn.toInt ∧ mn.toInt < 1000) (htm : 0 ≤ tm.toInt ∧ tm.toInt ≤ 3) (hj : j < mn.toNatClampNeg) : smM (upd na mn.toNatClampNeg w) (upd my mn.toNatClampNeg tm) (cpF pm to mn tm) (nI j) (nI mn.toNatClampNeg) ↔ ((na j).toInt = w.toInt ∧ (my j).toInt = tm.toInt ∧ alL pm to tm (nI j) 0) := by
  have hx := xN hmn.1
  have ht := xN htm.1
  have ej : (nI j).toNatClampNeg = j := nI_c (by omega)
  have em : (nI mn.toNatClampNeg).toNatClampNeg = mn.toNatClampNeg := nI_c (by omega)
  have ne : j ≠ mn.toNatClampNeg := by omega
  have e1 : ∀ k : Nat, k < 3 → cpF pm to mn tm (3 * nI j + nI k).toNatClampNeg = pm (3 * nI j + nI k).toNatClampNeg := fun k q => by
    rw [ixn (by omega) (by omega)]
    exact cp_old hj q
  have e2 : ∀ k : Nat, k < tm.toNatClampNeg → cpF pm to mn tm (3 * nI mn.toNatClampNeg + nI k).toNatClampNeg = to (nI k).toNatClampNeg := fun k q => by
    rw [ixn (by omega) (by omega), nI_c (k := k) (by omega)]
    unfold cpF
    rw [if_pos (by omega)]
    congr 1
    omega
  unfold smM smL alL
  rw [ej, em, updN ne, updS, updN ne, updS]
  constructor
  · rintro ⟨q1, q2, q3⟩
    refine ⟨by rw [q1], by rw [q2], fun k k1 k2 => ?_⟩
    have := q3 k k1 (by rw [q2]; exact k2)
    rw [e1 k (by omega), e2 k (by omega)] at this
    exact this
  · rintro ⟨q1, q2, q3⟩
    refine ⟨xJ q1, xJ q2, fun k k1 k2 => ?_⟩
    rw [q2] at k2
    rw [e1 k (by omega), e2 k (by omega)]
    exact q3 k k1 k2
/-- the same clash -/
theorem cl_x {up xpa pa ot na re ma my pm to : Nat → Int32} {ty mn tm t w r a : Int32} {ha nm : Nat → Int64} {St Ab Va : Int64} (hR : mmR up xpa pa ty ot na re ma my pm mn ha nm St Ab Va) (hto : ∀ j : Nat, plT ty (to j)) (htm : 0 ≤ tm.toInt ∧ tm.toInt ≤ 3) (ht : 0 ≤ t.toInt ∧ t.toInt < ty.toInt) (hw : 0 ≤ w.toInt ∧ w.toInt ≤ 6) : clL up (upd ot mn.toNatClampNeg t) (upd na mn.toNatClampNeg w) (upd re mn.toNatClampNeg r) (upd ma mn.toNatClampNeg a) (upd my mn.toNatClampNeg tm) (cpF pm to mn tm) mn mn.toNatClampNeg 0 ↔ ∃ j : Nat, (j : Int) < mn.toInt ∧ clM pa ot na re ma my pm to tm (nI j) t w r a := by
  obtain ⟨hU, hd, hP, hS, hX, hK, hB, hH, hN, hSt, hAb, hVa⟩ := hR
  have hmn := hS.2.1
  have hx := xN hmn.1
  have key : ∀ j : Nat, (j : Int) < mn.toInt → ((sgM (upd na mn.toNatClampNeg w) (upd my mn.toNatClampNeg tm) (cpF pm to mn tm) j = sgM (upd na mn.toNatClampNeg w) (upd my mn.toNatClampNeg tm) (cpF pm to mn tm) mn.toNatClampNeg ∧ cwX up (upd ot mn.toNatClampNeg t) (upd na mn.toNatClampNeg w) (upd re mn.toNatClampNeg r) (upd ma mn.toNatClampNeg a) mn.toNatClampNeg j) ↔ clM pa ot na re ma my pm to tm (nI j) t w r a) := fun j hj => by
    have ne : j ≠ mn.toNatClampNeg := by omega
    have hXj := hX j hj
    have hyj := hS.2.2.1 j (by omega)
    rw [sg_x (by omega) (by omega) hS.1.2 (cp_p hto hS.2.2.2.2.1) (by rw [updN ne]; exact hXj.1.1) (by rw [updS]; exact hw) (by rw [updN ne]; exact hyj) (by rw [updS]; exact htm), sm_new ⟨hmn.1, by omega⟩ htm (by omega)]
    unfold cwX agX clM
    simp only [updS, updN ne]
    have hc := cw_x (re := re) (ma := ma) (w := w) (r := r) (a := a) (j := j) (by omega) hU hS.1 ht hXj.1.2.2
    rw [nI_c (k := j) (by omega)]
    exact ⟨fun z => ⟨z.1.1, z.1.2.1, z.1.2.2, hc.mp z.2⟩, fun z => ⟨⟨z.1, z.2.1, z.2.2.1⟩, hc.mpr z.2.2.2⟩⟩
  unfold clL
  constructor
  · rintro ⟨j, _, k1, k2, k3⟩
    exact ⟨j, k1, (key j k1).mp ⟨k2, k3⟩⟩
  · rintro ⟨j, k1, k2⟩
    obtain ⟨k3, k4⟩ := (key j k1).mpr k2
    exact ⟨j, Nat.zero_le j, k1, k3, k4⟩
theorem nm_new {nm : Nat → Int64} {na : Nat → Int32} {mn w : Int32} (hmn : 0 ≤ mn.toInt ∧ mn.toInt < 40) (hw : 0 ≤ w.toInt ∧ w.toInt ≤ 6) (h : nmR nm na mn) : nmR (vp_updL nm (upd na mn.toNatClampNeg w mn.toNatClampNeg).toNatClampNeg ((nm (upd na mn.toNatClampNeg w mn.toNatClampNeg).toNatClampNeg) ||| (1 <<< ((nI mn.toNatClampNeg).toInt64 &&& 63)))) (upd na mn.toNatClampNeg w) (mn + 1) := by
  intro x i hx hi
  have e1 : (mn + 1).toInt = mn.toInt + 1 := iAdd rfl (by decide) (by omega) (by omega)
  have hM := xN hmn.1
  have hW := xN hw.1
  rw [updS]
  by_cases e : x = w.toNatClampNeg
  · rw [e, pk_uLs, l_st (k := mn.toNatClampNeg) (by omega) hi, h w.toNatClampNeg i (by omega) hi]
    constructor
    · rintro (⟨q1, q2⟩ | q)
      · exact ⟨by omega, by rw [updN (by omega)]; exact q2⟩
      · rw [q, updS]; exact ⟨by omega, by omega⟩
    · rintro ⟨q1, q2⟩
      by_cases ei : i = mn.toNatClampNeg
      · exact Or.inr ei
      · rw [updN ei] at q2
        exact Or.inl ⟨by omega, q2⟩
  · rw [pk_uLn e, h x i hx hi]
    constructor
    · rintro ⟨q1, q2⟩
      exact ⟨by omega, by rw [updN (by omega)]; exact q2⟩
    · rintro ⟨q1, q2⟩
      by_cases ei : i = mn.toNatClampNeg
      · rw [ei, updS] at q2
        omega
      · rw [updN ei] at q2
        exact ⟨by omega, q2⟩
theorem st_new {S : Int64} {ma : Nat → Int32} {mn a b : Int32} (hmn : 0 ≤ mn.toInt ∧ mn.toInt < 40) (h : stR S ma b mn) : stR (stX S (upd ma mn.toNatClampNeg a mn.toNatClampNeg &&& b) mn.toNatClampNeg) (upd ma mn.toNatClampNeg a) b (mn + 1) := by
  intro i hi
  have e1 : (mn + 1).toInt = mn.toInt + 1 := iAdd rfl (by decide) (by omega) (by omega)
  have hM := xN hmn.1
  rw [updS]
  by_cases q : (a &&& b).toInt = 0
  · rw [st_2 q, l_or, l_0, Bool.or_false, h i hi]
    constructor
    · rintro ⟨q1, q2⟩
      exact ⟨by omega, by rw [updN (by omega)]; exact q2⟩
    · rintro ⟨q1, q2⟩
      by_cases ei : i = mn.toNatClampNeg
      · rw [ei, updS] at q2
        exact absurd q q2
      · rw [updN ei] at q2
        exact ⟨by omega, q2⟩
  · rw [st_1 q, l_st (k := mn.toNatClampNeg) (by omega) hi, h i hi]
    constructor
    · rintro (⟨q1, q2⟩ | q1)
      · exact ⟨by omega, by rw [updN (by omega)]; exact q2⟩
      · rw [q1, updS]; exact ⟨by omega, q⟩
    · rintro ⟨q1, q2⟩
      by_cases ei : i = mn.toNatClampNeg
      · exact Or.inr ei
      · rw [updN ei] at q2
        exact Or.inl ⟨by omega, q2⟩
theorem mm_new {up xpa pa ot na re ma my pm to : Nat → Int32} {ty mn tm t w r a : Int32} {ha hb nm : Nat → Int64} {St Ab Va : Int64} (hR : mmR up xpa pa ty ot na re ma my pm mn ha nm St Ab Va) (hto : ∀ j : Nat, plT ty (to j)) (htm : 0 ≤ tm.toInt ∧ tm.toInt ≤ 3) (h40 : mn.toInt < 40) (ht : 0 ≤ t.toInt ∧ t.toInt < ty.toInt) (hw : 0 ≤ w.toInt ∧ w.toInt ≤ 6) (hr : anyT ty r) (hk : w.toInt = 6 → (a &&& 1).toInt = 0 ∧ (a &&& 2).toInt = 0) (hcl : ∀ j : Nat, (j : Int) < mn.toInt → ¬ clM pa ot na re ma my pm to tm (nI j) t w r a)
    (h1 : myD (upd my mn.toNatClampNeg tm)) (h2 : vrD (upd ma mn.toNatClampNeg a) (upd my mn.toNatClampNeg tm)) (h3 : mbD (upd ot mn.toNatClampNeg t) (upd na mn.toNatClampNeg w) (upd re mn.toNatClampNeg r) (mn + 1)) (h4 : ∀ i : Nat, plT ty (cpF pm to mn tm i)) (h5 : ∀ j : Nat, (j : Int) < (mn + 1).toInt → (upd ma mn.toNatClampNeg a j &&& 4).toInt ≠ 0 → 20 ≤ (cpF pm to mn tm (3 * nI j + (upd my mn.toNatClampNeg tm j - 1)).toNatClampNeg).toInt)
    (hA : adX up (upd ot mn.toNatClampNeg t) (upd na mn.toNatClampNeg w) (upd my mn.toNatClampNeg tm) (cpF pm to mn tm) mn.toNatClampNeg ty 0 ha hb) :
    mmR up xpa pa ty (upd ot mn.toNatClampNeg t) (upd na mn.toNatClampNeg w) (upd re mn.toNatClampNeg r) (upd ma mn.toNatClampNeg a) (upd my mn.toNatClampNeg tm) (cpF pm to mn tm) (mn + 1) hb (vp_updL nm (upd na mn.toNatClampNeg w mn.toNatClampNeg).toNatClampNeg ((nm (upd na mn.toNatClampNeg w mn.toNatClampNeg).toNatClampNeg) ||| (1 <<< ((nI mn.toNatClampNeg).toInt64 &&& 63)))) (stX St (upd ma mn.toNatClampNeg a mn.toNatClampNeg &&& 1) mn.toNatClampNeg) (stX Ab (upd ma mn.toNatClampNeg a mn.toNatClampNeg &&& 2) mn.toNatClampNeg) (stX Va (upd ma mn.toNatClampNeg a mn.toNatClampNeg &&& 4) mn.toNatClampNeg) := by
  obtain ⟨hU, hd, hP, hS, hX, hK, hB, hH, hN, hSt, hAb, hVa⟩ := hR
  have hmn := hS.2.1
  have hM := xN hmn.1
  have e1 : (mn + 1).toInt = mn.toInt + 1 := iAdd rfl (by decide) (by omega) (by omega)
  have hm4 : 0 ≤ mn.toInt ∧ mn.toInt < 40 := ⟨hmn.1, h40⟩
  have hot : ∀ j : Nat, j < mn.toNatClampNeg → smM (upd na mn.toNatClampNeg w) (upd my mn.toNatClampNeg tm) (cpF pm to mn tm) (nI j) (nI mn.toNatClampNeg) → (ot j).toInt ≠ t.toInt := fun j q s e => by
    obtain ⟨k1, k2, k3⟩ := (sm_new (by omega) htm q).mp s
    refine hcl j (by omega) ⟨?_, ?_, k3, Or.inl ?_⟩
    · rw [nI_c (k := j) (by omega)]; exact k1
    · rw [nI_c (k := j) (by omega)]; exact k2
    · rw [nI_c (k := j) (by omega)]; exact e
  have hNw : nwM ot na my pm (upd ot mn.toNatClampNeg t) (upd na mn.toNatClampNeg w) (upd my mn.toNatClampNeg tm) (cpF pm to mn tm) mn.toNatClampNeg := fun i q => ⟨updN (by omega), updN (by omega), updN (by omega), fun k q2 => cp_old q q2⟩
  have hy : ∀ i : Nat, i < mn.toNatClampNeg → 0 ≤ (my i).toInt ∧ (my i).toInt ≤ 3 := fun i q => hS.2.2.1 i (by omega)
  have hX' : mbX ty (upd ot mn.toNatClampNeg t) (upd na mn.toNatClampNeg w) (upd re mn.toNatClampNeg r) (upd my mn.toNatClampNeg tm) (cpF pm to mn tm) (mn + 1) := by
    intro j q
    refine ⟨?_, fun i q2 q3 q4 => ?_⟩
    · by_cases ej : j = mn.toNatClampNeg
      · rw [ej, updS, updS, updS]; exact ⟨hw, hr, ht⟩
      · rw [updN ej, updN ej, updN ej]; exact (hX j (by omega)).1
    · by_cases ej : j = mn.toNatClampNeg
      · have ei : i ≠ mn.toNatClampNeg := by omega
        rw [ej] at q4 ⊢
        rw [updN ei, updS]
        exact hot i (by omega) q4
      · by_cases ei : i = mn.toNatClampNeg
        · rw [ei] at q4 ⊢
          rw [updN ej, updS]
          exact fun z => hot j (by omega) (sm_s q4) z.symm
        · rw [updN ei, updN ej]
          exact (hX j (by omega)).2 i (by omega) q3 ((nw_sm (by omega) hNw hy (by omega) (by omega)).mp q4)
  refine ⟨hU, hd, hP, ⟨hS.1, by omega, h1, h2, h4, h5⟩, hX', ?_, h3, ?_, nm_new hm4 hw hN, st_new hm4 hSt, st_new hm4 hAb, st_new hm4 hVa⟩
  · intro j q q6
    by_cases ej : j = mn.toNatClampNeg
    · rw [ej, updS] at q6 ⊢
      exact hk q6
    · rw [updN ej] at q6 ⊢
      exact hK j (by omega) q6
  · refine ad_x hU hd hS.1 hm4 hM hX hy hNw (by rw [updS]; exact ht) (fun i q => ?_) (fun i q s => by rw [updS]; exact hot i q s) hH hA
    refine sg_x (by omega) (by omega) hS.1.2 h4 ?_ (by rw [updS]; exact hw) ?_ (by rw [updS]; exact htm)
    · rw [updN (by omega)]; exact (hX i (by omega)).1.1
    · rw [updN (by omega)]; exact hy i q
end
section
/-! exact -/
theorem ex_j {ha nm : Nat → Int64} {xpa pa ot na my pm : Nat → Int32} {ty mn fo t w : Int32} (hP : ∀ k : Nat, 1 ≤ k → (k : Int) < ty.toInt → xpa k = pa k ∧ 0 ≤ (pa k).toInt ∧ (pa k).toInt < ty.toInt) (hty : 2 ≤ ty.toInt ∧ ty.toInt ≤ 10) (hmn : mn.toInt ≤ 40) (hH : hbR ha pa ot na my pm ty mn) (hN : nmR nm na mn) (hf : rfR ty fo t w) (h4 : fo.toInt ≠ 4) {i : Nat} (hi : i < 64) : bl (nmX ha nm (tsX xpa ty fo t) (rwF fo w)) i = true ↔ ((i : Int) < mn.toInt ∧ exJ pa ot na my pm mn fo t w i) := by
  obtain ⟨hT, hT2, hT3⟩ := ts_b hP hf h4
  have hw := rw_b hf h4
  have ht := hf.2.1 h4
  rw [nm_x hty hmn hH hN (Or.inl hT) hw hi]
  have hg : ∀ (P Q : Prop), ((i : Int) < mn.toInt → (P ↔ Q)) → (((i : Int) < mn.toInt ∧ P) ↔ ((i : Int) < mn.toInt ∧ Q)) := fun P Q z => ⟨fun q => ⟨q.1, (z q.1).mp q.2⟩, fun q => ⟨q.1, (z q.1).mpr q.2⟩⟩
  refine hg _ _ (fun q => ?_)
  have hic : (nI i).toNatClampNeg = i := nI_c (by omega)
  unfold exJ
  rw [hic]
  by_cases q3 : fo.toInt = 3
  · have e6 : rwF fo w = 6 := by unfold rwF; rw [if_pos q3]
    have z6 : (6 : Int32).toInt = 6 := by decide
    rw [e6, hT3 (by omega)]
    unfold hadM
    rw [cM_2 (by omega), hic]
    constructor
    · rintro ⟨k1, k2 | k2⟩
      · exact Or.inl ⟨q3, k2.1, by omega⟩
      · exact absurd k2.2.1 (by omega)
    · rintro (⟨_, k1, k2⟩ | ⟨k, _⟩)
      · exact ⟨by omega, Or.inl ⟨k1, Or.inr rfl⟩⟩
      · exact absurd q3 k
  · have e6 : rwF fo w = w := by unfold rwF; rw [if_neg q3]
    rw [e6]
    by_cases q2 : fo.toInt = 2
    · rw [hT2 q2]
      constructor
      · rintro ⟨k1, k2⟩
        exact Or.inr ⟨q3, k1, Or.inl ⟨q2, k2⟩⟩
      · rintro (⟨k, _⟩ | ⟨_, k1, ⟨_, k2⟩ | ⟨k, _⟩⟩)
        · exact absurd k q3
        · exact ⟨k1, k2⟩
        · exact absurd q2 k
    · rw [hT3 q2]
      constructor
      · rintro ⟨k1, k2⟩
        exact Or.inr ⟨q3, k1, Or.inr ⟨q2, k2⟩⟩
      · rintro (⟨k, _⟩ | ⟨_, k1, ⟨k, _⟩ | ⟨_, k2⟩⟩)
        · exact absurd k q3
        · exact absurd k q2
        · exact ⟨k1, k2⟩
theorem ex_x {up xpa pa ot na re ma my pm : Nat → Int32} {ty mn fo t w : Int32} {ha nm : Nat → Int64} {St Ab Va : Int64} (hR : mmR up xpa pa ty ot na re ma my pm mn ha nm St Ab Va) (hf : rfR ty fo t w) (h4 : fo.toInt ≠ 4) : oaF (nmX ha nm (tsX xpa ty fo t) (rwF fo w)) Va fo ↔ exM pa ot na my pm ma mn fo t w := by
  obtain ⟨hU, hd, hP, hS, hX, hK, hB, hH, hN, hSt, hAb, hVa⟩ := hR
  have hj : ∀ i : Nat, i < 64 → (bl (nmX ha nm (tsX xpa ty fo t) (rwF fo w)) i = true ↔ ((i : Int) < mn.toInt ∧ exJ pa ot na my pm mn fo t w i)) := fun i hi => ex_j hP hS.1 hS.2.1.2 hH hN hf h4 hi
  have hmn := hS.2.1
  generalize nmX ha nm (tsX xpa ty fo t) (rwF fo w) = s at hj ⊢
  have h1 : (bcX s).toInt = 1 ↔ ∃ b : Nat, (b : Int) < mn.toInt ∧ exJ pa ot na my pm mn fo t w b ∧ ∀ j : Nat, (j : Int) < mn.toInt → exJ pa ot na my pm mn fo t w j → j = b := by
    rw [bc_1]
    constructor
    · rintro ⟨b, hb, k⟩
      have kb := (hj b hb).mp ((k b hb).mpr rfl)
      exact ⟨b, kb.1, kb.2, fun j q1 q2 => (k j (by omega)).mp ((hj j (by omega)).mpr ⟨q1, q2⟩)⟩
    · rintro ⟨b, hb, k1, k2⟩
      refine ⟨b, by omega, fun i hi => ⟨fun q => ?_, fun q => ?_⟩⟩
      · have := (hj i hi).mp q
        exact k2 i this.1 this.2
      · rw [q]
        exact (hj b (by omega)).mpr ⟨hb, k1⟩
  have h0 : (bcX s).toInt = 0 ↔ ∀ j : Nat, (j : Int) < mn.toInt → ¬ exJ pa ot na my pm mn fo t w j := by
    rw [bc_0]
    constructor
    · intro e j q1 q2
      have := (hj j (by omega)).mpr ⟨q1, q2⟩
      rw [e, l_0] at this
      exact absurd this (by decide)
    · intro k
      refine Classical.byContradiction (fun q => ?_)
      obtain ⟨i, hi, hb⟩ := l_nz.mp q
      have := (hj i hi).mp hb
      exact k i this.1 this.2
  have hv : s &&& Va = 0 ↔ ∀ j : Nat, (j : Int) < mn.toInt → exJ pa ot na my pm mn fo t w j → (ma (nI j).toNatClampNeg &&& 4).toInt = 0 := by
    constructor
    · intro e j q1 q2
      refine Classical.byContradiction (fun q => ?_)
      rw [nI_c (by omega)] at q
      exact absurd e (l_nz.mpr ⟨j, by omega, by rw [l_and, Bool.and_eq_true, hj j (by omega), hVa j (by omega)]; exact ⟨⟨q1, q2⟩, q1, q⟩⟩)
    · intro k
      refine Classical.byContradiction (fun q => ?_)
      obtain ⟨i, hi, hb⟩ := l_nz.mp q
      rw [l_and, Bool.and_eq_true, hj i hi, hVa i hi] at hb
      have := k i hb.1.1 hb.1.2
      rw [nI_c (by omega)] at this
      exact hb.2.2 this
  unfold oaF exM
  rw [h1, h0, hv]
  constructor
  · rintro (k | ⟨k1 | ⟨k1, k2⟩, k3⟩)
    · exact absurd k h4
    · exact ⟨k3, Or.inl k1⟩
    · exact ⟨k3, Or.inr ⟨k2, k1⟩⟩
  · rintro ⟨k3, k1 | ⟨k2, k1⟩⟩
    · exact Or.inr ⟨Or.inl k1, k3⟩
    · exact Or.inr ⟨Or.inr ⟨k1, k2⟩, k3⟩
end
