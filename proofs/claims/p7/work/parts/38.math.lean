/-- members that are alike and in line agree -/
def ncD (pa ot na re my pm : Nat → Int32) (mn : Int32) : Prop := ∀ i j : Nat, (i : Int) < mn.toInt → (j : Int) < mn.toInt → i ≠ j → smM na my pm (nI i) (nI j) → (na i).toInt ≠ 6 → (uM pa (ot i) (ot j) = true ∨ uM pa (ot j) (ot i) = true) → re i = re j
/-- a maker gives its owner; owners are types -/
def mbD (ot na re : Nat → Int32) (mn : Int32) : Prop := ∀ j : Nat, (j : Int) < mn.toInt → (0 ≤ (ot j).toInt ∧ (ot j).toInt < 10) ∧ ((na j).toInt = 6 → re j = ot j)
theorem had_u {pa ot na my pm : Nat → Int32} {mn t m : Int32} (hd : paD pa) (h : hadM pa ot na my pm mn t m) : uR pa 11 (cM t) (ot m.toNatClampNeg) = true := by
  rcases h with ⟨h, _⟩ | ⟨_, _, h, _⟩
  · exact uR_eq h.symm
  · have z0 : (0 : Int32).toInt = 0 := by decide
    rwa [uM_c (by unfold cM; split <;> omega)] at h
/-- what a thing of type T has in m's place gives what m gives -/
theorem ch_re {pa ot na re my pm : Nat → Int32} {mn T t m rn : Int32} (hd : paD pa) (hn : mn.toInt ≤ 40) (hnc : ncD pa ot na re my pm mn) (hmb : mbD ot na re mn) (hm : 0 ≤ m.toInt ∧ m.toInt < mn.toInt) (hna : (na m.toNatClampNeg).toInt ≠ 6) (ht : 0 ≤ t.toInt ∧ t.toInt < 10) (hu : uM pa T t = true) (hh : hadM pa ot na my pm mn t m) (h : chL pa ot na my pm mn T m rn mn.toNatClampNeg) : (0 ≤ rn.toInt ∧ rn.toInt < mn.toInt) ∧ smM na my pm rn m ∧ re rn.toNatClampNeg = re m.toNatClampNeg := by
  have z0 : (0 : Int32).toInt = 0 := by decide
  have hmx := xN hm.1
  rcases h with ⟨h, _⟩ | ⟨b, h1, h2, h3, _⟩
  · subst h; exact ⟨hm, sm_r _, rfl⟩
  · have hnn := xN (x := mn) (by omega)
    have hb := nI_toInt (n := b) (by omega)
    have hbc := nI_c (k := b) (by omega)
    subst h2
    refine ⟨by omega, h3.1, ?_⟩
    rw [hbc]
    by_cases e : b = m.toNatClampNeg
    · rw [e]
    · have hmi : nI m.toNatClampNeg = m := xJ (by rw [nI_toInt (by omega)]; omega)
      have hu1 := had_u hd h3.2
      have hu2 := had_u hd hh
      rw [hbc] at hu1
      have hn6 : (na b).toInt ≠ 6 := by
        have e6 := h3.1.1
        rw [hbc] at e6
        rw [e6]; exact hna
      have hob := (hmb b (by omega)).1
      have hom := (hmb m.toNatClampNeg (by omega)).1
      have hct : cM t = t := by unfold cM; rw [if_neg (by omega)]
      rw [hct] at hu2
      have hTt : uR pa 11 (cM T) t = true := by
        unfold cM
        split
        · next e2 =>
          by_cases et : t.toInt = 0
          · exact uR_eq (by omega)
          · rw [uM_3 (by omega) (by omega)] at hu
            have := (uR_le' hd hu).2 (by omega)
            rw [this] at ht; omega
        · next e2 => rwa [uM_c (by omega)] at hu
      have hu3 := uR_tr hd hu2 10 _ (x_fuel _) hTt
      have hln := uR_ln hd 10 _ (x_fuel _) hu1 hu3
      rw [← uM_c (by omega), ← uM_c (by omega)] at hln
      exact hnc b m.toNatClampNeg (by omega) (by omega) e (by rw [hmi]; exact h3.1) hn6 hln
theorem ca_safe {pa ot na re my pm ma fa fy fr ar tt ti pl go : Nat → Int32} {mn fo t w f vc tn : Int32} (hd : paD pa) (hy : myD my) (hvr : vrD ma my) (hn : 0 ≤ mn.toInt ∧ mn.toInt ≤ 40) (htn : 0 ≤ tn.toInt ∧ tn.toInt ≤ 60) (hf : 0 ≤ f.toInt ∧ f.toInt < 10) (hfy : 0 ≤ (fy f.toNatClampNeg).toInt ∧ (fy f.toNatClampNeg).toInt ≤ 3) (ht : fo.toInt ≠ 4 → 0 ≤ t.toInt ∧ t.toInt < 10) (hw : fo.toInt ≤ 2 → w.toInt ≠ 6)
  (hnc : ncD pa ot na re my pm mn) (hmb : mbD ot na re mn) (hth : thD tn tt ti) (hvc : fo.toInt = 1 → (1 ≤ vc.toInt ∧ vc.toInt ≤ tn.toInt) ∧ uM pa (tt vc.toNatClampNeg) t = true) (hV : ∀ sc mp m : Int32, wmM pa ot na re my pm ma fa fy fr mn fo t w f sc mp m → 0 ≤ m.toInt) (hag : agM pa tt ar fa fy tn f 0) : caS pa ot na re my pm ma fa fy fr ar mn fo t w f vc go tn (tt, ti, pl) := by
  have z0 : (0 : Int32).toInt = 0 := by decide
  have z1 : (1 : Int32).toInt = 1 := by decide
  have h10 : ∀ x : Int32, fo.toInt ≠ 4 → x.toInt = 10 → uM pa x t = true → False := by
    intro x q4 q q2
    have ht2 := ht q4
    rw [uM_c (by omega)] at q2
    have := (uR_le' hd q2).2 (by omega)
    rw [this] at ht2
    omega
  have hsc : ∀ sc mp m : Int32, wmM pa ot na re my pm ma fa fy fr mn fo t w f sc mp m → sc.toInt ≠ 0 → fo.toInt = 0 ∧ c2M pa fa fy t f ∧ ((ar 0).toInt = 0 ∨ ((1 ≤ (ar 0).toInt ∧ (ar 0).toInt ≤ tn.toInt) ∧ uM pa (tt (ar 0).toNatClampNeg) (fa (3 * f).toNatClampNeg) = true)) := by
    intro sc mp m h q
    obtain ⟨q1, q2⟩ := wm_sc h q
    refine ⟨q1, q2, ag_0 hag (by have := q2.1; omega) (fun q3 => h10 _ (by omega) q3 q2.2)⟩
  refine ⟨fun sc mp m h => ⟨hV sc mp m h, fun q => ?_, fun q1 q2 q3 => ?_⟩, fun sc mp m e0 rn s h hm hs hru => ?_⟩
  · have := (hsc sc mp m h q).2.2; omega
  · have := ag_0 hag (by have := wm_99 h q1 q2; omega) q3; omega
  · obtain ⟨tS, w1, s1, m1, m2, m3, m4, m5, m6, m7, m8⟩ := wm_tk hn.2 h hm
    have es : s1 = s := by
      rcases m1 with ⟨q1, q2, _⟩ | ⟨q1, q2⟩
      · rcases hs with ⟨q3, q4⟩ | ⟨q3, q4⟩
        · rw [q2, q4]
        · omega
      · rcases hs with ⟨q3, q4⟩ | ⟨q3, q4⟩
        · omega
        · rw [q2, q4]
    subst es
    have hs2 : s1 = 1 ∨ s1 = 0 := by rcases m1 with ⟨_, q, _⟩ | ⟨_, q⟩; exact Or.inl q; exact Or.inr q
    have hs01 : 0 ≤ s1.toInt ∧ s1.toInt ≤ 1 := by rcases hs2 with e | e <;> rw [e] <;> decide
    have hmx := xN hm.1
    have hmy := hy m.toNatClampNeg (by omega)
    have hfo2 : fo.toInt ≠ 3 → (na m.toNatClampNeg).toInt ≠ 6 := by
      intro q
      rcases m3 with ⟨q1, _⟩ | ⟨_, q1⟩
      · omega
      · rw [m6, q1]; exact hw (by omega)
    have hts : fo.toInt ≠ 2 → tS = t := by
      intro q
      rcases m2 with ⟨q1, _⟩ | ⟨_, q1⟩
      · omega
      · exact q1
    have hrn : (0 ≤ rn.toInt ∧ rn.toInt < mn.toInt) ∧ smM na my pm rn m ∧ re rn.toNatClampNeg = re m.toNatClampNeg := by
      rcases hru with ⟨_, _, _, q⟩ | ⟨q1, q2, _, q3⟩ | ⟨_, q2, _, q3⟩ | ⟨_, _, _, q⟩
      · subst q; exact ⟨hm, sm_r _, rfl⟩
      · obtain ⟨u1, u2, u3⟩ := hsc sc mp m h q1
        rcases u3 with u3 | ⟨u3, u4⟩
        · omega
        · rw [hts (by omega)] at m7
          exact ch_re hd hn.2 hnc hmb hm (hfo2 (by omega)) (ht (by omega)) (uM_tr hd u4 u2.2 (ht (by omega)).1) m7 q3
      · rw [hts (by omega)] at m7
        exact ch_re hd hn.2 hnc hmb hm (hfo2 (by omega)) (ht (by omega)) (hvc q2).2 m7 q3
      · subst q; exact ⟨hm, sm_r _, rfl⟩
    obtain ⟨n1, n2, n3⟩ := hrn
    have hmm : my rn.toNatClampNeg = my m.toNatClampNeg := n2.2.1
    have hv1 : (ma m.toNatClampNeg &&& 4).toInt ≠ 0 → 1 ≤ (my m.toNatClampNeg).toInt := hvr m.toNatClampNeg (by omega)
    have hsf : s1.toInt ≤ (fy f.toNatClampNeg).toInt := by
      rcases m1 with ⟨_, q, _, q2⟩ | ⟨_, q⟩
      · have := q2.1; rw [q]; omega
      · rw [q]; omega
    have has := ag_s hf hfy.2 hs2 hag
    refine ⟨n1, hsf, ?_, ag_d htn has, fun q => ?_, fun g9 n9 e9 t9 i9 l9 q _ => gv_gt hd htn hs2 hfy hmy hv1 hth has m5 m8 hmm n2.2.2 q⟩
    · rw [hmm]
      have k := m8.1
      by_cases e : (ma m.toNatClampNeg &&& 4).toInt ≠ 0
      · have := hv1 e; omega
      · omega
    · rw [n3]
      by_cases e3 : fo.toInt = 3
      · rw [cm_3 e3] at q
        rw [hts (by omega)] at m7
        have hna : (na m.toNatClampNeg).toInt = 6 := by
          rcases m3 with ⟨_, q1⟩ | ⟨q1, _⟩
          · rw [m6, q1]; decide
          · omega
        rw [(hmb m.toNatClampNeg (by omega)).2 hna]
        rcases m7 with ⟨q1, _⟩ | ⟨_, q1, _⟩
        · rw [q1]; unfold cM; rw [if_neg (by omega)]; exact q
        · exact absurd hna q1
      · rwa [cm_4 ⟨by omega, e3⟩] at q
