/-! exact -/
theorem ex_j {ha nm : Nat → Int64} {xpa pa ot na my pm : Nat → Int32} {ty mn fo t w : Int32} (hP : ∀ k : Nat, 1 ≤ k → (k : Int) < ty.toInt → xpa k = pa k ∧ 0 ≤ (pa k).toInt ∧ (pa k).toInt < ty.toInt) (hty : 2 ≤ ty.toInt ∧ ty.toInt ≤ 10) (hmn : mn.toInt ≤ 40) (hH : hbR ha pa ot na my pm ty mn) (hN : nmR nm na mn) (hf : rfR ty fo t w) (h4 : fo.toInt ≠ 4) {i : Nat} (hi : i < 64) : bl (nmX ha nm (tsX xpa ty fo t) (rwF fo w)) i = true ↔ ((i : Int) < mn.toInt ∧ exJ pa ot na my pm mn fo t w i) := by
  obtain ⟨hT, hT2, hT3⟩ := ts_b hP hf h4
  have hw := rw_b hf h4
  have ht := hf.2.1 h4
  rw [nm_x hty hmn hH hN (Or.inl hT) hw hi]
  have hg : ∀ (P Q : Prop), ((i : Int) < mn.toInt → (P ↔ Q)) → (((i : Int) < mn.toInt ∧ P) ↔ ((i : Int) < mn.toInt ∧ Q)) := fun P Q z => ⟨fun q => ⟨q.1, (z q.1).mp q.2⟩, fun q => ⟨q.1, (z q.1).mpr q.2⟩⟩
  refine hg _ _ (fun q => ?_)
  have hic : (nI i).toNatClampNeg = i := nI_c (by omega)
  unfold exJ
  rw [hic]
  by_cases q3 : fo.toInt = 3
  · have e6 : rwF fo w = 6 := by unfold rwF; rw [if_pos q3]
    have z6 : (6 : Int32).toInt = 6 := by decide
    rw [e6, hT3 (by omega)]
    unfold hadM
    rw [cM_2 (by omega), hic]
    constructor
    · rintro ⟨k1, k2 | k2⟩
      · exact Or.inl ⟨q3, k2.1, by omega⟩
      · exact absurd k2.2.1 (by omega)
    · rintro (⟨_, k1, k2⟩ | ⟨k, _⟩)
      · exact ⟨by omega, Or.inl ⟨k1, Or.inr rfl⟩⟩
      · exact absurd q3 k
  · have e6 : rwF fo w = w := by unfold rwF; rw [if_neg q3]
    rw [e6]
    by_cases q2 : fo.toInt = 2
    · rw [hT2 q2]
      constructor
      · rintro ⟨k1, k2⟩
        exact Or.inr ⟨q3, k1, Or.inl ⟨q2, k2⟩⟩
      · rintro (⟨k, _⟩ | ⟨_, k1, ⟨_, k2⟩ | ⟨k, _⟩⟩)
        · exact absurd k q3
        · exact ⟨k1, k2⟩
        · exact absurd q2 k
    · rw [hT3 q2]
      constructor
      · rintro ⟨k1, k2⟩
        exact Or.inr ⟨q3, k1, Or.inr ⟨q2, k2⟩⟩
      · rintro (⟨k, _⟩ | ⟨_, k1, ⟨k, _⟩ | ⟨_, k2⟩⟩)
        · exact absurd k q3
        · exact absurd k q2
        · exact ⟨k1, k2⟩
theorem ex_x {up xpa pa ot na re ma my pm : Nat → Int32} {ty mn fo t w : Int32} {ha nm : Nat → Int64} {St Ab Va : Int64} (hR : mmR up xpa pa ty ot na re ma my pm mn ha nm St Ab Va) (hf : rfR ty fo t w) (h4 : fo.toInt ≠ 4) : oaF (nmX ha nm (tsX xpa ty fo t) (rwF fo w)) Va fo ↔ exM pa ot na my pm ma mn fo t w := by
  obtain ⟨hU, hd, hP, hS, hX, hK, hB, hH, hN, hSt, hAb, hVa⟩ := hR
  have hj : ∀ i : Nat, i < 64 → (bl (nmX ha nm (tsX xpa ty fo t) (rwF fo w)) i = true ↔ ((i : Int) < mn.toInt ∧ exJ pa ot na my pm mn fo t w i)) := fun i hi => ex_j hP hS.1 hS.2.1.2 hH hN hf h4 hi
  have hmn := hS.2.1
  generalize nmX ha nm (tsX xpa ty fo t) (rwF fo w) = s at hj ⊢
  have h1 : (bcX s).toInt = 1 ↔ ∃ b : Nat, (b : Int) < mn.toInt ∧ exJ pa ot na my pm mn fo t w b ∧ ∀ j : Nat, (j : Int) < mn.toInt → exJ pa ot na my pm mn fo t w j → j = b := by
    rw [bc_1]
    constructor
    · rintro ⟨b, hb, k⟩
      have kb := (hj b hb).mp ((k b hb).mpr rfl)
      exact ⟨b, kb.1, kb.2, fun j q1 q2 => (k j (by omega)).mp ((hj j (by omega)).mpr ⟨q1, q2⟩)⟩
    · rintro ⟨b, hb, k1, k2⟩
      refine ⟨b, by omega, fun i hi => ⟨fun q => ?_, fun q => ?_⟩⟩
      · have := (hj i hi).mp q
        exact k2 i this.1 this.2
      · rw [q]
        exact (hj b (by omega)).mpr ⟨hb, k1⟩
  have h0 : (bcX s).toInt = 0 ↔ ∀ j : Nat, (j : Int) < mn.toInt → ¬ exJ pa ot na my pm mn fo t w j := by
    rw [bc_0]
    constructor
    · intro e j q1 q2
      have := (hj j (by omega)).mpr ⟨q1, q2⟩
      rw [e, l_0] at this
      exact absurd this (by decide)
    · intro k
      refine Classical.byContradiction (fun q => ?_)
      obtain ⟨i, hi, hb⟩ := l_nz.mp q
      have := (hj i hi).mp hb
      exact k i this.1 this.2
  have hv : s &&& Va = 0 ↔ ∀ j : Nat, (j : Int) < mn.toInt → exJ pa ot na my pm mn fo t w j → (ma (nI j).toNatClampNeg &&& 4).toInt = 0 := by
    constructor
    · intro e j q1 q2
      refine Classical.byContradiction (fun q => ?_)
      rw [nI_c (by omega)] at q
      exact absurd e (l_nz.mpr ⟨j, by omega, by rw [l_and, Bool.and_eq_true, hj j (by omega), hVa j (by omega)]; exact ⟨⟨q1, q2⟩, q1, q⟩⟩)
    · intro k
      refine Classical.byContradiction (fun q => ?_)
      obtain ⟨i, hi, hb⟩ := l_nz.mp q
      rw [l_and, Bool.and_eq_true, hj i hi, hVa i hi] at hb
      have := k i hb.1.1 hb.1.2
      rw [nI_c (by omega)] at this
      exact hb.2.2 this
  unfold oaF exM
  rw [h1, h0, hv]
  constructor
  · rintro (k | ⟨k1 | ⟨k1, k2⟩, k3⟩)
    · exact absurd k h4
    · exact ⟨k3, Or.inl k1⟩
    · exact ⟨k3, Or.inr ⟨k2, k1⟩⟩
  · rintro ⟨k3, k1 | ⟨k2, k1⟩⟩
    · exact Or.inr ⟨Or.inl k1, k3⟩
    · exact Or.inr ⟨Or.inr ⟨k1, k2⟩, k3⟩
