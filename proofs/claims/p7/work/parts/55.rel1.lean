/-! the class's searches are the reference's -/
theorem ixn {i k : Nat} (hi : i < 1000) (hk : k < 1000) : (3 * nI i + nI k).toNatClampNeg = 3 * i + k := by
  have h := ix3 (f := nI i) (j := k) (by rw [nI_toInt (by omega)]; omega) hk
  rw [nI_toInt (by omega)] at h
  omega
/-- what is known of the members beside mIv -/
def mbX (ty : Int32) (ot na re my pm : Nat → Int32) (mn : Int32) : Prop := ∀ j : Nat, (j : Int) < mn.toInt → ((0 ≤ (na j).toInt ∧ (na j).toInt ≤ 6) ∧ anyT ty (re j) ∧ (0 ≤ (ot j).toInt ∧ (ot j).toInt < ty.toInt)) ∧ ∀ i : Nat, (i : Int) < mn.toInt → i ≠ j → smM na my pm (nI i) (nI j) → (ot i).toInt ≠ (ot j).toInt
theorem pl_any {ty x : Int32} (h : plT ty x) : anyT ty x := by unfold plT at h; unfold anyT; omega
theorem pl_b {ty x : Int32} (hty : ty.toInt ≤ 10) (h : plT ty x) : 0 ≤ x.toInt ∧ x.toInt ≤ 30 := by unfold plT at h; omega
theorem any_ok {ty x : Int32} (h0 : 0 ≤ ty.toInt) (h : anyT ty x) : okT ty x := by unfold anyT at h; unfold okT; omega
/-- a place's type, ahead of phase 3 -/
theorem ty_p {my pm : Nat → Int32} {i k : Nat} {p : Int32} (hi : i < 40) (hk : k < (my i).toNatClampNeg) (h3 : (my i).toNatClampNeg ≤ 3) (hp : p.toInt ≠ 3) : tyM my pm i k p = pm (3 * nI i + nI k).toNatClampNeg := by
  rw [ty_3 (by omega) (by omega) hk, ixn (by omega) (by omega)]
theorem ty_v {my pm : Nat → Int32} {i k : Nat} {p : Int32} (hi : i < 40) (hk : k < 1000) (h1 : 1 ≤ (my i).toInt ∧ (my i).toInt ≤ 3) (hp : p.toInt = 3) : tyM my pm i k p = plV my pm (nI i) (nI k) := by
  have hx := xN (x := my i) (by omega)
  have hic : (nI i).toNatClampNeg = i := nI_c (by omega)
  have hkt := nI_toInt (n := k) (by omega)
  have hm1 : (my i - 1).toInt = (my i).toInt - 1 := iSub rfl (by decide) (by omega) (by omega)
  have hit := nI_toInt (n := i) (by omega)
  have hix : (3 * nI i + (my i - 1)).toNatClampNeg = 3 * i + ((my i).toNatClampNeg - 1) := by
    have := ixg (f := nI i) (k := my i - 1) (by omega) (by omega)
    omega
  unfold plV
  rw [hic, hix]
  by_cases q : k + 1 < (my i).toNatClampNeg
  · rw [ty_3 (by omega) (by omega) (by omega), if_pos (by omega), ixn (by omega) (by omega)]
  · rw [if_neg (by omega)]
    by_cases q2 : (pm (3 * i + ((my i).toNatClampNeg - 1))).toInt = 30
    · rw [ty_1 (by omega) (by omega) q2, if_pos q2]
    · rw [ty_2 (by omega) (by omega) q2, if_neg q2]
theorem pl_V {ty : Int32} {my pm : Nat → Int32} {i k : Nat} (hty : 2 ≤ ty.toInt ∧ ty.toInt ≤ 10) (hi : i < 40) (hp : ∀ i : Nat, plT ty (pm i)) (h20 : 20 ≤ (pm (3 * nI i + (my i - 1)).toNatClampNeg).toInt) : plT ty (plV my pm (nI i) (nI k)) := by
  have hic : (nI i).toNatClampNeg = i := nI_c (by omega)
  unfold plV
  rw [hic]
  split
  · exact hp _
  · split
    · unfold plT; have : (10 : Int32).toInt = 10 := by decide
      omega
    · have h := hp (3 * nI i + (my i - 1)).toNatClampNeg
      generalize pm (3 * nI i + (my i - 1)).toNatClampNeg = x at *
      have e : (x - 20).toInt = x.toInt - 20 := by
        refine iSub rfl (by decide) ?_ ?_ <;> unfold plT at h <;> omega
      unfold plT at h ⊢
      omega
/-- the members' facts that a search needs -/
def mbS (ty : Int32) (ma my pm : Nat → Int32) (mn : Int32) : Prop := (2 ≤ ty.toInt ∧ ty.toInt ≤ 10) ∧ (0 ≤ mn.toInt ∧ mn.toInt ≤ 40) ∧ myD my ∧ vrD ma my ∧ (∀ i : Nat, plT ty (pm i)) ∧ ∀ j : Nat, (j : Int) < mn.toInt → (ma j &&& 4).toInt ≠ 0 → 20 ≤ (pm (3 * nI j + (my j - 1)).toNatClampNeg).toInt
theorem cutA {ty : Int32} {fy fa : Nat → Int32} {f s : Int32} {j : Nat} (hf : 0 ≤ f.toInt ∧ f.toInt < 10) (hfy : 0 ≤ (fy f.toNatClampNeg).toInt ∧ (fy f.toNatClampNeg).toInt ≤ 3) (hs : s = 0 ∨ s = 1) (hj : (j : Int) < (fy f.toNatClampNeg).toInt - s.toInt) : cutF fy fa f.toNatClampNeg (s.toNatClampNeg + j) = fa (3 * f + s + nI j).toNatClampNeg := by
  have z0 : (0 : Int32).toInt = 0 := by decide
  have z1 : (1 : Int32).toInt = 1 := by decide
  have hx := xN hfy.1
  have hff := xN hf.1
  have hs2 : 0 ≤ s.toInt ∧ s.toInt ≤ 1 := by rcases hs with e | e <;> rw [e] <;> omega
  have hsx := xN hs2.1
  rw [cut_at (by omega)]
  congr 1
  have e1 : (3 * f).toInt = 3 * f.toInt := iMul (by decide) rfl (by omega) (by omega)
  have e2 : (3 * f + s).toInt = 3 * f.toInt + s.toInt := iAdd e1 rfl (by omega) (by omega)
  have e3 : (3 * f + s + nI j).toInt = 3 * f.toInt + s.toInt + (j : Int) := iAdd e2 (nI_toInt (by omega)) (by omega) (by omega)
  exact (tN (by omega)).symm
theorem fit_x {up pa ma my pm fa fy : Nat → Int32} {ty mn f s p : Int32} {i : Nat} (hU : upR up pa ty) (hS : mbS ty ma my pm mn) (hA : ∀ i : Nat, plT ty (fa i)) (hf : 0 ≤ f.toInt ∧ f.toInt < 10) (hfy : 0 ≤ (fy f.toNatClampNeg).toInt ∧ (fy f.toNatClampNeg).toInt ≤ 3) (hs : s = 0 ∨ s = 1) (hp : 1 ≤ p.toInt ∧ p.toInt ≤ 3) (hi : (i : Int) < mn.toInt) : fitX up ma my pm (fy f.toNatClampNeg).toNatClampNeg (cutF fy fa f.toNatClampNeg) s i p ↔ tkM pa my pm fa ma fy (nI i) f s p := by
  obtain ⟨hty, hmn, hmy, hvr, hpm, hlast⟩ := hS
  have hic : (nI i).toNatClampNeg = i := nI_c (by omega)
  have hy := hmy i (by omega)
  have hyx := xN hy.1
  have hfx := xN hfy.1
  have hv := hvr i (by omega)
  have hs2 : 0 ≤ s.toInt ∧ s.toInt ≤ 1 := by rcases hs with e | e <;> rw [e] <;> decide
  unfold fitX tkM
  rw [hic]
  have e0 : ((p.toInt ≠ 3 ∧ ((my i).toNatClampNeg : Int) = ((fy f.toNatClampNeg).toNatClampNeg : Int) - s.toInt) ∨ (p.toInt = 3 ∧ (ma i &&& 4).toInt ≠ 0 ∧ ((my i).toNatClampNeg : Int) ≤ ((fy f.toNatClampNeg).toNatClampNeg : Int) - s.toInt + 1)) ↔ ((p.toInt < 3 ∧ (my i).toInt = (fy f.toNatClampNeg).toInt - s.toInt) ∨ (p.toInt = 3 ∧ (ma i &&& 4).toInt ≠ 0 ∧ (my i).toInt ≤ (fy f.toNatClampNeg).toInt - s.toInt + 1)) := by omega
  rw [e0]
  refine and_congr_right fun q0 => ?_
  unfold fjL tkL
  rw [hfx]
  refine forall_congr' fun j => ?_
  refine imp_congr_right fun _ => ?_
  refine imp_congr_right fun qj => ?_
  rw [cutA (ty := ty) hf hfy hs qj]
  unfold fJ
  have ha := pl_any (hA (3 * f + s + nI j).toNatClampNeg)
  generalize fa (3 * f + s + nI j).toNatClampNeg = a at ha
  rcases q0 with ⟨q1, q2⟩ | ⟨q1, q2, q3⟩
  · rw [ty_p (by omega) (by omega) (by omega) (by omega)]
    have hb := pl_b hty.2 (hpm (3 * nI i + nI j).toNatClampNeg)
    rw [hU.2 _ _ ha hb, up_L hU hty.1 ha hb]
    constructor
    · rintro ⟨w1, w2⟩
      exact ⟨w1, fun w => w2 (by omega), fun w => by omega⟩
    · rintro ⟨w1, w2, w3⟩
      exact ⟨w1, fun w => w2 (by omega)⟩
  · have hv1 := hv q2
    rw [ty_v (by omega) (by omega) (by omega) q1]
    have hb := pl_b hty.2 (pl_V (k := j) hty (by omega) hpm (hlast i hi q2))
    rw [up_L hU hty.1 ha hb]
    constructor
    · rintro ⟨w1, w2⟩
      exact ⟨fun w => by omega, fun w => by omega, fun w => w2 (by omega)⟩
    · rintro ⟨w1, w2, w3⟩
      exact ⟨fun w => by omega, fun w => w3 q1⟩
theorem ua_x {up pa ma my pm : Nat → Int32} {ty mn n p : Int32} {N : Int} {i o : Nat} (hU : upR up pa ty) (hS : mbS ty ma my pm mn) (hp : 1 ≤ p.toInt ∧ p.toInt ≤ 3) (hi : (i : Int) < mn.toInt) (ho : (o : Int) < mn.toInt) (hn : n.toInt = N) (hN : N ≤ 3) (hd : p.toInt < 3 → (my i).toInt = N ∧ (my o).toInt = N) (h3 : p.toInt = 3 → (ma i &&& 4).toInt ≠ 0 ∧ (ma o &&& 4).toInt ≠ 0) : uaX up my pm N p i o ↔ spO pa my pm p n (nI i) (nI o) := by
  obtain ⟨hty, hmn, hmy, hvr, hpm, hlast⟩ := hS
  have hic : (nI i).toNatClampNeg = i := nI_c (by omega)
  have hoc : (nI o).toNatClampNeg = o := nI_c (by omega)
  have hyi := hmy i (by omega)
  have hyo := hmy o (by omega)
  have hxi := xN hyi.1
  have hxo := xN hyo.1
  unfold uaX spO
  refine forall_congr' fun k => ?_
  have eB : uaB my N p i o k ↔ spB my p n (nI i) (nI o) k := by
    unfold uaB spB
    rw [hic, hoc]
    by_cases q : p.toInt = 3
    · omega
    · have := hd (by omega)
      omega
  rw [eB]
  refine imp_congr_right fun qk => ?_
  unfold spB at qk
  rw [hic, hoc] at qk
  unfold spK
  by_cases q : p.toInt = 3
  · obtain ⟨v1, v2⟩ := h3 q
    have w1 := hvr i (by omega) v1
    have w2 := hvr o (by omega) v2
    rw [ty_v (by omega) (by omega) (by omega) q, ty_v (by omega) (by omega) (by omega) q]
    have ha := pl_any (pl_V (k := k) hty (by omega) hpm (hlast i hi v1))
    have hb := pl_b hty.2 (pl_V (k := k) hty (by omega) hpm (hlast o ho v2))
    rw [hU.2 _ _ ha hb]
    exact ⟨fun z => ⟨fun w => by omega, fun _ => z⟩, fun z => z.2 q⟩
  · have w := hd (by omega)
    rw [ty_p (by omega) (by omega) (by omega) q, ty_p (by omega) (by omega) (by omega) q]
    have ha := pl_any (hpm (3 * nI i + nI k).toNatClampNeg)
    have hb := pl_b hty.2 (hpm (3 * nI o + nI k).toNatClampNeg)
    rw [hU.2 _ _ ha hb]
    exact ⟨fun z => ⟨fun _ => z, fun w => by omega⟩, fun z => z.1 (by omega)⟩
theorem uM_r {pa : Nat → Int32} {a : Int32} : uM pa a a = true := by
  by_cases h : 20 ≤ a.toInt ∧ a.toInt = 0
  · omega
  · by_cases h2 : (20 ≤ a.toInt ∧ a.toInt ≤ 29) ∧ (20 ≤ a.toInt ∧ a.toInt ≤ 29)
    · rw [uM_2 h h2]; exact uR_eq rfl
    · rw [uM_3 h h2]; exact uR_eq rfl
/-- a place is under itself -/
theorem sp_r {pa my pm : Nat → Int32} {p n : Int32} {m : Int32} : spO pa my pm p n m m := fun k _ => ⟨fun _ => uM_r, fun _ => uM_r⟩
/-- a search's named members, and what fits -/
def nsX (pa ot na my pm : Nat → Int32) (mn t w : Int32) (s : Int64) : Prop := ∀ j : Nat, (j : Int) < mn.toInt → (bl s j = true ↔ ((na j).toInt = w.toInt ∧ hadM pa ot na my pm mn t (nI j)))
theorem Fx_x {up pa ot na ma my pm fa fy : Nat → Int32} {ty mn t w f s p : Int32} {sb : Int64} {i : Nat} (hU : upR up pa ty) (hS : mbS ty ma my pm mn) (hA : ∀ i : Nat, plT ty (fa i)) (hf : 0 ≤ f.toInt ∧ f.toInt < 10) (hfy : 0 ≤ (fy f.toNatClampNeg).toInt ∧ (fy f.toNatClampNeg).toInt ≤ 3) (hs : s = 0 ∨ s = 1) (hp : 1 ≤ p.toInt ∧ p.toInt ≤ 3) (hN : nsX pa ot na my pm mn t w sb) (hi : (i : Int) < mn.toInt) : (bl sb i = true ∧ fitX up ma my pm (fy f.toNatClampNeg).toNatClampNeg (cutF fy fa f.toNatClampNeg) s i p) ↔ fitM pa ot na my pm ma fa fy mn t w f s p i := by
  have hic : (nI i).toNatClampNeg = i := nI_c (by have := hS.2.1; omega)
  unfold fitM
  rw [fit_x hU hS hA hf hfy hs hp hi, hN i hi, hic]
  exact ⟨fun q => ⟨q.1.1, q.1.2, q.2⟩, fun q => ⟨⟨q.1, q.2.1⟩, q.2.2⟩⟩
/-- what was found, as the reference tells it -/
def ansF (o : Option Nat) (T : Int64) : Int32 := anX o T
theorem sr_x {up pa ot na ma my pm fa fy : Nat → Int32} {ty mn t w f s : Int32} {sb T : Int64} {p : Int32} {o : Option Nat} (hU : upR up pa ty) (hS : mbS ty ma my pm mn) (hA : ∀ i : Nat, plT ty (fa i)) (hf : 0 ≤ f.toInt ∧ f.toInt < 10) (hfy : 0 ≤ (fy f.toNatClampNeg).toInt ∧ (fy f.toNatClampNeg).toInt ≤ 3) (hs : s = 0 ∨ s = 1) (hsf : s.toInt ≤ (fy f.toNatClampNeg).toInt) (hN : nsX pa ot na my pm mn t w sb)
    (h : rnX (fun ph x => bl sb x = true ∧ fitX up ma my pm (fy f.toNatClampNeg).toNatClampNeg (cutF fy fa f.toNatClampNeg) s x ph) mn T p)
    (h2 : (∃ c : Nat, o = some c ∧ oneP (fun b => bl T b = true ∧ spX up my pm T mn (((fy f.toNatClampNeg).toNatClampNeg : Int) - s.toInt) p b 0) mn c) ∨ (o = none ∧ ¬ ∃ c : Nat, oneP (fun b => bl T b = true ∧ spX up my pm T mn (((fy f.toNatClampNeg).toNatClampNeg : Int) - s.toInt) p b 0) mn c)) :
    srM pa ot na my pm ma fa fy mn t w f s p (anX o T) ∧ (∀ j : Nat, j < 64 → (bl T j = true ↔ ((j : Int) < mn.toInt ∧ p.toInt ≠ 0 ∧ fitM pa ot na my pm ma fa fy mn t w f s p j))) ∧ (T = 0 ↔ p.toInt = 0) ∧ (∀ c : Nat, o = some c → (c : Int) < mn.toInt ∧ bl T c = true) := by
  have z0 : (0 : Int32).toInt = 0 := by decide
  have z1 : (1 : Int32).toInt = 1 := by decide
  have z2 : (2 : Int32).toInt = 2 := by decide
  have z3 : (3 : Int32).toInt = 3 := by decide
  have hmn := hS.2.1
  have hfx := xN hfy.1
  have hs2 : 0 ≤ s.toInt ∧ s.toInt ≤ 1 := by rcases hs with e | e <;> rw [e] <;> decide
  have FX : ∀ (q : Int32) (i : Nat), 1 ≤ q.toInt ∧ q.toInt ≤ 3 → (i : Int) < mn.toInt → ((bl sb i = true ∧ fitX up ma my pm (fy f.toNatClampNeg).toNatClampNeg (cutF fy fa f.toNatClampNeg) s i q) ↔ fitM pa ot na my pm ma fa fy mn t w f s q i) := fun q i hq hi => Fx_x hU hS hA hf hfy hs hq hN hi
  rcases h with ⟨hp, hT, hno⟩ | ⟨hp, hT, hb, ⟨j0, hj0, hj1⟩, hless⟩
  · have ho : o = none := by
      rcases h2 with ⟨c, _, _, hc, _⟩ | ⟨q, _⟩
      · rw [hT, l_0] at hc; exact absurd hc.1 (by decide)
      · exact q
    refine ⟨Or.inl ⟨hp, ?_, ?_, ?_, ?_⟩, fun j q => ?_, ?_, fun c hc => ?_⟩
    · rw [an_2 ho hT]
    · exact fun j q w => (hno j q).1 ((FX 1 j (by omega) q).mpr w)
    · exact fun j q w => (hno j q).2.1 ((FX 2 j (by omega) q).mpr w)
    · exact fun j q w => (hno j q).2.2 ((FX 3 j (by omega) q).mpr w)
    · rw [hT, l_0, hp]
      exact ⟨fun q => (by cases q), fun q => absurd z0 q.2.1⟩
    · rw [hT, hp]; exact ⟨fun _ => z0, fun _ => rfl⟩
    · rw [ho] at hc; cases hc
  · have hbM : ∀ j : Nat, j < 64 → (bl T j = true ↔ ((j : Int) < mn.toInt ∧ fitM pa ot na my pm ma fa fy mn t w f s p j)) := fun j q => (hb j q).trans ⟨fun z => ⟨z.1, (FX p j hp z.1).mp z.2⟩, fun z => ⟨z.1, (FX p j hp z.1).mpr z.2⟩⟩
    have hd : ∀ j : Nat, (j : Int) < mn.toInt → fitM pa ot na my pm ma fa fy mn t w f s p j → (p.toInt < 3 → (my j).toInt = ((fy f.toNatClampNeg).toNatClampNeg : Int) - s.toInt) ∧ (p.toInt = 3 → (ma j &&& 4).toInt ≠ 0) := fun j q z => by
      have e := z.2.2.1
      rw [nI_c (by omega)] at e
      omega
    have hSP : ∀ b : Nat, (b : Int) < mn.toInt → ((bl T b = true ∧ spX up my pm T mn (((fy f.toNatClampNeg).toNatClampNeg : Int) - s.toInt) p b 0) ↔ spF pa ot na my pm ma fa fy mn t w f s p b) := by
      intro b qb
      unfold spF
      rw [hbM b (by omega)]
      constructor
      · rintro ⟨⟨_, w1⟩, w2⟩
        refine ⟨w1, fun o1 q1 q2 q3 => ?_⟩
        have w3 := w2 o1 (Nat.zero_le _) q1 ((hbM o1 (by omega)).mpr ⟨q1, q2⟩)
        exact (ua_x hU hS hp qb q1 (n := fy f.toNatClampNeg - s) (by rw [iSub (x := (fy f.toNatClampNeg).toInt) (y := s.toInt) rfl rfl (by omega) (by omega)]; omega) (by omega) (fun z => ⟨(hd b qb w1).1 z, (hd o1 q1 q2).1 z⟩) (fun z => ⟨(hd b qb w1).2 z, (hd o1 q1 q2).2 z⟩)).mp w3
      · rintro ⟨w1, w2⟩
        refine ⟨⟨qb, w1⟩, fun o1 _ q1 q2 => ?_⟩
        have q3 := ((hbM o1 (by omega)).mp q2).2
        refine (ua_x hU hS hp qb q1 (n := fy f.toNatClampNeg - s) (by rw [iSub (x := (fy f.toNatClampNeg).toInt) (y := s.toInt) rfl rfl (by omega) (by omega)]; omega) (by omega) (fun z => ⟨(hd b qb w1).1 z, (hd o1 q1 q3).1 z⟩) (fun z => ⟨(hd b qb w1).2 z, (hd o1 q1 q3).2 z⟩)).mpr ?_
        by_cases e : (o1 : Int) = b
        · have e2 : o1 = b := by omega
          rw [e2]; exact sp_r
        · exact w2 o1 q1 q3 e
    have hU2 : uqM (spF pa ot na my pm ma fa fy mn t w f s p) mn (anX o T) := by
      rcases h2 with ⟨c, hc, c1, c2, c3⟩ | ⟨hc, c1⟩
      · rw [an_1 hc]
        exact Or.inl ⟨c, c1, rfl, (hSP c c1).mp c2, fun j q w => c3 j q ((hSP j q).mpr w)⟩
      · rw [an_3 hc hT]
        exact Or.inr ⟨rfl, fun ⟨b, q1, q2, q3⟩ => c1 ⟨b, q1, (hSP b q1).mpr q2, fun j q w => q3 j q ((hSP j q).mp w)⟩⟩
    have hne : ¬ nfM pa ot na my pm ma fa fy mn t w f s p := fun z => z j0 hj0 ((FX p j0 hp hj0).mp hj1)
    have hnf : ∀ (q : Nat) (Q : Int32), Q = nI q → 1 ≤ q → (q : Int) < p.toInt → nfM pa ot na my pm ma fa fy mn t w f s Q := fun q Q e q1 q2 j q3 z => by
      subst e
      exact hless q q1 q2 j q3 ((FX (nI q) j (by rw [nI_toInt (by omega)]; omega) q3).mpr z)
    refine ⟨?_, fun j q => (hbM j q).trans ⟨fun z => ⟨z.1, by omega, z.2⟩, fun z => ⟨z.1, z.2.2⟩⟩, ⟨fun z => absurd z hT, fun z => by omega⟩, fun c hc => ?_⟩
    · have hp3 : p.toInt = 1 ∨ p.toInt = 2 ∨ p.toInt = 3 := by omega
      rcases hp3 with e | e | e
      · have e2 : p = 1 := xJ (by omega)
        subst e2
        exact Or.inr (Or.inl ⟨rfl, hne, hU2⟩)
      · have e2 : p = 2 := xJ (by omega)
        subst e2
        exact Or.inr (Or.inr (Or.inl ⟨rfl, hnf 1 1 rfl (by omega) (by omega), hne, hU2⟩))
      · have e2 : p = 3 := xJ (by omega)
        subst e2
        exact Or.inr (Or.inr (Or.inr ⟨rfl, hnf 1 1 rfl (by omega) (by omega), hnf 2 2 rfl (by omega) (by omega), hne, hU2⟩))
    · rcases h2 with ⟨c', hc', c1, c2, _⟩ | ⟨hc', _⟩
      · rw [hc] at hc'; cases hc'; exact ⟨c1, c2.1⟩
      · rw [hc] at hc'; cases hc'
