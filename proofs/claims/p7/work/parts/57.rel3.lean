/-! a member more, a type more -/
/-- the highest of finitely many -/
theorem max_of {P : Nat → Prop} {v : Nat → Int} (hv : ∀ j : Nat, P j → 0 ≤ v j ∧ v j ≤ 10) (h : ∃ j : Nat, P j) : ∃ j : Nat, P j ∧ ∀ i : Nat, P i → v i ≤ v j := by
  obtain ⟨d, ⟨j, hj, ej⟩, hd⟩ := pk_least (fun d => ∃ j : Nat, P j ∧ v j + (d : Int) = 10) (by
    obtain ⟨j, hj⟩ := h
    have := hv j hj
    exact ⟨(10 - v j).toNat, j, hj, by omega⟩)
  refine ⟨j, hj, fun i hi => ?_⟩
  have hvi := hv i hi
  rcases Int.lt_or_le (v j) (v i) with q | q
  · exact absurd ⟨i, hi, by omega⟩ (hd (10 - v i).toNat (by omega))
  · exact q
/-- the rows with one member more -/
def nwM (ot na my pm ot' na' my' pm' : Nat → Int32) (m : Nat) : Prop := ∀ i : Nat, i < m → ot' i = ot i ∧ na' i = na i ∧ my' i = my i ∧ ∀ k : Nat, k < 3 → pm' (3 * i + k) = pm (3 * i + k)
theorem nw_sm {ot na my pm ot' na' my' pm' : Nat → Int32} {m i j : Nat} (hm : m ≤ 40) (hN : nwM ot na my pm ot' na' my' pm' m) (hy : ∀ i : Nat, i < m → 0 ≤ (my i).toInt ∧ (my i).toInt ≤ 3) (hi : i < m) (hj : j < m) : smM na' my' pm' (nI i) (nI j) ↔ smM na my pm (nI i) (nI j) := by
  have hic : (nI i).toNatClampNeg = i := nI_c (by omega)
  have hjc : (nI j).toNatClampNeg = j := nI_c (by omega)
  obtain ⟨_, a1, a2, a3⟩ := hN i hi
  obtain ⟨_, b1, b2, b3⟩ := hN j hj
  have h1 := hy i hi
  unfold smM smL
  rw [hic, hjc, a1, a2, b1, b2]
  refine and_congr_right fun _ => and_congr_right fun _ => ?_
  refine forall_congr' fun k => ?_
  refine imp_congr_right fun _ => ?_
  refine imp_congr_right fun q => ?_
  rw [ixn (by omega) (by omega), ixn (by omega) (by omega), a3 k (by omega), b3 k (by omega)]
theorem ad_x {up pa ot na re my pm ot' na' my' pm' : Nat → Int32} {ha hb : Nat → Int64} {ty mn : Int32} {m : Nat} (hU : upR up pa ty) (hd : paD pa) (hty : 2 ≤ ty.toInt ∧ ty.toInt ≤ 10) (hmn : 0 ≤ mn.toInt ∧ mn.toInt < 40) (hm : (m : Int) = mn.toInt) (hX : mbX ty ot na re my pm mn) (hy : ∀ i : Nat, i < m → 0 ≤ (my i).toInt ∧ (my i).toInt ≤ 3) (hN : nwM ot na my pm ot' na' my' pm' m) (hT : 0 ≤ (ot' m).toInt ∧ (ot' m).toInt < ty.toInt)
    (hsg : ∀ i : Nat, i < m → (sgM na' my' pm' i = sgM na' my' pm' m ↔ smM na' my' pm' (nI i) (nI m))) (hnc : ∀ i : Nat, i < m → smM na' my' pm' (nI i) (nI m) → (ot i).toInt ≠ (ot' m).toInt)
    (hH : hbR ha pa ot na my pm ty mn) (hA : adX up ot' na' my' pm' m ty 0 ha hb) : hbR hb pa ot' na' my' pm' ty (mn + 1) := by
  intro t x ht hx
  have e1 : (mn + 1).toInt = mn.toInt + 1 := iAdd rfl (by decide) (by omega) (by omega)
  have htn := nI_toInt (n := t) (by omega)
  have hmc : (nI m).toNatClampNeg = m := nI_c (by omega)
  have htT : (cM (nI t)) = nI t := cM_2 (by omega)
  generalize hTT : ot' m = T at *
  have hty2 : ∀ i : Nat, i < m → 0 ≤ (ot i).toInt ∧ (ot i).toInt < ty.toInt := fun i q => (hX i (by omega)).1.2.2
  have anyC : ∀ z : Int32, 0 ≤ z.toInt ∧ z.toInt < ty.toInt → anyT ty z := fun z q => by unfold anyT; omega
  have UX : ∀ a b : Int32, 0 ≤ a.toInt ∧ a.toInt < ty.toInt → 0 ≤ b.toInt ∧ b.toInt < ty.toInt → (xU up a b ↔ uM pa a b = true) := fun a b qa qb => hU.2 a b (anyC a qa) (by omega)
  -- what had says in plain words
  have HM : ∀ i : Nat, i < m → (hadM pa ot na my pm mn (nI t) (nI i) ↔ ((ot i).toInt = (t : Int) ∨ ((ot i).toInt ≠ (t : Int) ∧ (na i).toInt ≠ 6 ∧ uM pa (nI t) (ot i) = true ∧ ∀ j : Nat, j < m → ¬ ((ot j).toInt ≠ (ot i).toInt ∧ uM pa (nI t) (ot j) = true ∧ uM pa (ot j) (ot i) = true ∧ smM na my pm (nI j) (nI i))))) := by
    intro i hi
    unfold hadM ovM
    rw [htT, nI_c (k := i) (by omega), htn]
    refine or_congr ⟨fun q => q.1, fun q => ⟨q, Or.inr rfl⟩⟩ ?_
    refine and_congr_right fun _ => and_congr_right fun _ => and_congr_right fun _ => ?_
    constructor
    · intro q j hj w; exact q j (by omega) (by rw [nI_c (k := j) (by omega)]; exact w)
    · intro q j hj w; rw [nI_c (k := j) (by omega)] at w; exact q j (by omega) w
  have HN : ∀ i : Nat, i ≤ m → (hadM pa ot' na' my' pm' (mn + 1) (nI t) (nI i) ↔ ((ot' i).toInt = (t : Int) ∨ ((ot' i).toInt ≠ (t : Int) ∧ (na' i).toInt ≠ 6 ∧ uM pa (nI t) (ot' i) = true ∧ ∀ j : Nat, j ≤ m → ¬ ((ot' j).toInt ≠ (ot' i).toInt ∧ uM pa (nI t) (ot' j) = true ∧ uM pa (ot' j) (ot' i) = true ∧ smM na' my' pm' (nI j) (nI i))))) := by
    intro i hi
    unfold hadM ovM
    rw [htT, nI_c (k := i) (by omega), htn]
    refine or_congr ⟨fun q => q.1, fun q => ⟨q, Or.inr rfl⟩⟩ ?_
    refine and_congr_right fun _ => and_congr_right fun _ => and_congr_right fun _ => ?_
    constructor
    · intro q j hj w; exact q j (by omega) (by rw [nI_c (k := j) (by omega)]; exact w)
    · intro q j hj w; rw [nI_c (k := j) (by omega)] at w; exact q j (by omega) w
  -- an old one is had still, but if the new one stands in its way
  have HO : ∀ i : Nat, i < m → (hadM pa ot' na' my' pm' (mn + 1) (nI t) (nI i) ↔ (hadM pa ot na my pm mn (nI t) (nI i) ∧ ((ot i).toInt = (t : Int) ∨ ¬ (T.toInt ≠ (ot i).toInt ∧ uM pa (nI t) T = true ∧ uM pa T (ot i) = true ∧ smM na' my' pm' (nI m) (nI i))))) := by
    intro i hi
    obtain ⟨a0, a1, a2, a3⟩ := hN i hi
    rw [HM i hi, HN i (by omega), a0, a1]
    constructor
    · rintro (q | ⟨q1, q2, q3, q4⟩)
      · exact ⟨Or.inl q, Or.inl q⟩
      · refine ⟨Or.inr ⟨q1, q2, q3, fun j hj w => ?_⟩, Or.inr (fun w => q4 m (Nat.le_refl m) (by rw [hTT]; exact w))⟩
        refine q4 j (by omega) ?_
        rw [(hN j hj).1]
        exact ⟨w.1, w.2.1, w.2.2.1, (nw_sm (by omega) hN hy hj hi).mpr w.2.2.2⟩
    · rintro ⟨q | ⟨q1, q2, q3, q4⟩, q5⟩
      · exact Or.inl q
      · rcases q5 with q5 | q5
        · exact absurd q5 q1
        · refine Or.inr ⟨q1, q2, q3, fun j hj w => ?_⟩
          rcases Nat.lt_or_eq_of_le hj with z | z
          · rw [(hN j z).1] at w
            exact q4 j z ⟨w.1, w.2.1, w.2.2.1, (nw_sm (by omega) hN hy z hi).mp w.2.2.2⟩
          · subst z
            rw [hTT] at w
            exact q5 w
  have HB : ∀ i : Nat, i < 64 → (bl (ha t) i = true ↔ ((i : Int) < mn.toInt ∧ hadM pa ot na my pm mn (nI t) (nI i))) := fun i q => hH t i ht q
  -- of one name and parameters one is had
  have H1 : ∀ i j : Nat, i < m → j < m → hadM pa ot na my pm mn (nI t) (nI i) → hadM pa ot na my pm mn (nI t) (nI j) → smM na' my' pm' (nI i) (nI m) → smM na' my' pm' (nI j) (nI m) → i = j := by
    intro i j hi hj h1 h2 h3 h4
    exact had_1 hd hty (by omega) hX (Or.inl (by omega)) (by omega) (by omega) h1 h2 ((nw_sm (by omega) hN hy hi hj).mp (sm_t h3 (sm_s h4)))
  have hut : ∀ i : Nat, i < m → hadM pa ot na my pm mn (nI t) (nI i) → uM pa (nI t) (ot i) = true := by
    intro i hi h
    rcases (HM i hi).mp h with q | q
    · have e : ot i = nI t := xJ (by omega)
      rw [e]; exact uC_r
    · exact q.2.2.1
  obtain ⟨hA1, hA2⟩ := hA t
  have hC : (0 ≤ t ∧ adC up ot' na' m ty t) ↔ ((t : Int) = T.toInt ∨ ((na' m).toInt ≠ 6 ∧ uM pa (nI t) T = true)) := by
    unfold adC
    rw [hTT, UX (nI t) T (by omega) hT]
    exact ⟨fun q => q.2.2, fun q => ⟨Nat.zero_le t, ht, q⟩⟩
  have hxm : ((x : Int) < (mn + 1).toInt) ↔ (x < m ∨ x = m) := by omega
  by_cases c : (t : Int) = T.toInt ∨ ((na' m).toInt ≠ 6 ∧ uM pa (nI t) T = true)
  · have hp := hA1 (hC.mpr c)
    have hUT : uM pa (nI t) T = true := by
      rcases c with q | q
      · have e : T = nI t := xJ (by omega)
        rw [e]; exact uC_r
      · exact q.2
    have n6 : ∀ i : Nat, i < m → smM na' my' pm' (nI i) (nI m) → (na i).toInt = (na' m).toInt := fun i hi q => by
      have := q.1
      rw [nI_c (k := i) (by omega), hmc, (hN i hi).2.1] at this
      rw [this]
    rcases hp with ⟨i, _, hi, ⟨g1, g2⟩, g3, _, g5⟩ | ⟨g1, g2⟩
    · -- one hides the new one
      rw [hsg i hi] at g1
      have gh := ((HB i (by omega)).mp g2).2
      rw [hTT, (hN i hi).1, UX _ _ (hty2 i hi) hT] at g3
      have oi := hnc i hi g1
      have hne : (t : Int) ≠ T.toInt := fun q => by
        have e : T = nI t := xJ (by omega)
        have u1 := hut i hi gh
        rw [e] at g3
        have := uC_a hd (by have := hty2 i hi; omega) (by omega) g3 u1
        exact oi (by rw [this, e])
      have hw6 : (na' m).toInt ≠ 6 := by
        rcases c with q | q
        · exact absurd q hne
        · exact q.1
      rw [g5 x hx, HB x hx, hxm]
      constructor
      · rintro ⟨⟨q1, q2⟩, q3⟩
        have hxm2 : x < m := by omega
        refine ⟨Or.inl hxm2, (HO x hxm2).mpr ⟨q2, ?_⟩⟩
        rcases Classical.em ((ot x).toInt = (t : Int)) with z | z
        · exact Or.inl z
        · refine Or.inr (fun w => ?_)
          have e := H1 x i hxm2 hi q2 gh (sm_s w.2.2.2) g1
          subst e
          exact w.1 (by rw [uC_a hd (by omega) (by have := hty2 x hxm2; omega) w.2.2.1 g3])
      · rintro ⟨q1 | q1, q2⟩
        · have q3 := (HO x q1).mp q2
          refine ⟨⟨by omega, q3.1⟩, fun w => ?_⟩
          have e := H1 x i q1 hi q3.1 gh ((hsg x q1).mp w.2.2) g1
          omega
        · exfalso
          subst q1
          rcases (HN x (Nat.le_refl x)).mp q2 with z | ⟨z1, z2, z3, z4⟩
          · rw [hTT] at z; omega
          · refine z4 i (by omega) ?_
            rw [hTT, (hN i hi).1]
            exact ⟨oi, hut i hi gh, g3, g1⟩
    · -- the new one is had
      rw [g2 x hx, HB x hx, hxm]
      have gno : ∀ y : Nat, y < m → hadM pa ot na my pm mn (nI t) (nI y) → smM na' my' pm' (nI y) (nI m) → ¬ uM pa (ot y) T = true := by
        intro y hy2 h1 h2 h3
        refine g1 y (Nat.zero_le y) hy2 ⟨(hsg y hy2).mpr h2, (HB y (by omega)).mpr ⟨by omega, h1⟩⟩ ?_
        rw [hTT, (hN y hy2).1, UX _ _ (hty2 y hy2) hT]
        exact h3
      constructor
      · rintro (⟨⟨q1, q2⟩, q3⟩ | q)
        · have hxm2 : x < m := by omega
          refine ⟨Or.inl hxm2, (HO x hxm2).mpr ⟨q2, ?_⟩⟩
          rcases Classical.em ((ot x).toInt = (t : Int)) with z | z
          · exact Or.inl z
          · exact Or.inr (fun w => q3 ⟨Nat.zero_le x, hxm2, (hsg x hxm2).mpr (sm_s w.2.2.2)⟩)
        · subst q
          refine ⟨Or.inr rfl, (HN x (Nat.le_refl x)).mpr ?_⟩
          rw [hTT]
          rcases Classical.em (T.toInt = (t : Int)) with z | z
          · exact Or.inl z
          · have hw6 : (na' x).toInt ≠ 6 := by
              rcases c with q | q
              · omega
              · exact q.1
            refine Or.inr ⟨z, hw6, hUT, fun j hj w => ?_⟩
            have hjm : j < x := by
              rcases Nat.lt_or_eq_of_le hj with q | q
              · exact q
              · subst q; rw [hTT] at w; exact absurd rfl w.1
            rw [(hN j hjm).1] at w
            obtain ⟨y, ⟨y1, y2, y3⟩, y4⟩ := max_of (P := fun y => y < x ∧ smM na' my' pm' (nI y) (nI x) ∧ uM pa (nI t) (ot y) = true) (v := fun y => (ot y).toInt) (fun y q => by have := hty2 y q.1; omega) ⟨j, hjm, w.2.2.2, w.2.1⟩
            have hy6 : (na y).toInt ≠ 6 := by rw [n6 y y1 y2]; exact hw6
            have hhad : hadM pa ot na my pm mn (nI t) (nI y) := by
              rw [HM y y1]
              rcases Classical.em ((ot y).toInt = (t : Int)) with z2 | z2
              · exact Or.inl z2
              · refine Or.inr ⟨z2, hy6, y3, fun o ho v => ?_⟩
                have k1 := y4 o ⟨ho, sm_t ((nw_sm (by omega) hN hy ho y1).mpr v.2.2.2) y2, v.2.1⟩
                have k2 := uC_le hd (by have := hty2 o ho; omega) v.2.2.1
                have := v.1
                omega
            refine gno y y1 hhad y2 ?_
            rcases uC_l hd (by omega) (by have := hty2 y y1; omega) (by have := hty2 j hjm; omega) y3 w.2.1 with q | q
            · exact uM_tr hd q w.2.2.1 (by omega)
            · have k1 := y4 j ⟨hjm, w.2.2.2, w.2.1⟩
              have k2 := uC_le hd (by have := hty2 j hjm; omega) q
              have e : ot y = ot j := xJ (by omega)
              rw [e]; exact w.2.2.1
      · rintro ⟨q1 | q1, q2⟩
        · have q3 := (HO x q1).mp q2
          refine Or.inl ⟨⟨by omega, q3.1⟩, fun w => ?_⟩
          have ws := (hsg x q1).mp w.2.2
          have n1 := gno x q1 q3.1 ws
          have u1 := hut x q1 q3.1
          have u2 : uM pa T (ot x) = true := by
            rcases uC_l hd (by omega) (by omega) (by have := hty2 x q1; omega) hUT u1 with q | q
            · exact q
            · exact absurd q n1
          rcases q3.2 with z | z
          · refine n1 ?_
            have e : ot x = nI t := xJ (by omega)
            rw [e]; exact hUT
          · refine z ⟨fun q => n1 ?_, hUT, u2, sm_s ws⟩
            have e : T = ot x := xJ q
            rw [e]; exact uC_r
        · exact Or.inr q1
  · have hp := hA2 (fun q => c (hC.mp q))
    rw [hp, HB x hx, hxm]
    have hnU : ¬ ((na' m).toInt ≠ 6 ∧ uM pa (nI t) T = true) := fun q => c (Or.inr q)
    constructor
    · rintro ⟨q1, q2⟩
      have hxm2 : x < m := by omega
      refine ⟨Or.inl hxm2, (HO x hxm2).mpr ⟨q2, ?_⟩⟩
      rcases (HM x hxm2).mp q2 with z | z
      · exact Or.inl z
      · refine Or.inr (fun w => hnU ⟨?_, w.2.1⟩)
        have := w.2.2.2.1
        rw [hmc, nI_c (k := x) (by omega), (hN x hxm2).2.1] at this
        rw [this]; exact z.2.1
    · rintro ⟨q1 | q1, q2⟩
      · exact ⟨by omega, ((HO x q1).mp q2).1⟩
      · exfalso
        subst q1
        rcases (HN x (Nat.le_refl x)).mp q2 with z | ⟨_, z2, z3, _⟩
        · rw [hTT] at z; exact c (Or.inl z.symm)
        · rw [hTT] at z3; exact hnU ⟨z2, z3⟩
/-- a type more has what its parent has, but the makers -/
theorem ty_x {pa ot na re my pm : Nat → Int32} {ha nm : Nat → Int64} {ty mn p : Int32} (hd0 : paD pa) (hd : paD (upd pa ty.toNatClampNeg p)) (hty : 2 ≤ ty.toInt ∧ ty.toInt ≤ 9) (hp : 0 ≤ p.toInt ∧ p.toInt < ty.toInt) (hmn : 0 ≤ mn.toInt ∧ mn.toInt ≤ 40) (hX : mbX ty ot na re my pm mn) (hN : nmR nm na mn) (hH : hbR ha pa ot na my pm ty mn) : hbR (vp_updL ha ty.toNatClampNeg ((ha p.toNatClampNeg) &&& ((nm 6) ^^^ (-1)))) (upd pa ty.toNatClampNeg p) ot na my pm (ty + 1) mn := by
  intro t i ht hi
  have e1 : (ty + 1).toInt = ty.toInt + 1 := iAdd rfl (by decide) (by omega) (by omega)
  have htx := xN (x := ty) (by omega)
  have hpx := xN hp.1
  have hU := uM_n (t := p) hd0 hty
  have hok : ∀ j : Nat, (j : Int) < mn.toInt → okT ty (ot (nI j).toNatClampNeg) := fun j q => by rw [nI_c (by omega)]; have := (hX j q).1.2.2; exact Or.inl (by omega)
  by_cases e : t = ty.toNatClampNeg
  · subst e
    rw [pk_uLs, l_and, l_xor, l_m1 i hi, nI_self (by omega)]
    have hx : (bl (ha p.toNatClampNeg) i && (bl (nm 6) i ^^ true)) = true ↔ (bl (ha p.toNatClampNeg) i = true ∧ ¬ bl (nm 6) i = true) := by cases bl (ha p.toNatClampNeg) i <;> cases bl (nm 6) i <;> simp
    rw [hx, hH _ _ (by omega) hi, hN 6 i (by omega) hi, nI_self hp.1]
    have hc : cM ty = ty := cM_2 (by omega)
    have hcp : cM p = p := cM_2 (by omega)
    have UU : ∀ j : Nat, (j : Int) < mn.toInt → (uM (upd pa ty.toNatClampNeg p) ty (ot j) = true ↔ uM pa p (ot j) = true) := by
      intro j q
      have o := (hX j q).1.2.2
      have w := (up_uM (b := ot j) hd hty hp (by omega)).1
      rw [w, hU p (ot j) (Or.inl (by omega))]
      exact ⟨fun z => z.elim (fun z => by rw [z] at o; omega) id, Or.inr⟩
    have OV : ∀ j : Nat, (j : Int) < mn.toInt → (ovM (upd pa ty.toNatClampNeg p) ot na my pm ty (nI i) (nI j) ↔ ovM pa ot na my pm p (nI i) (nI j)) := by
      intro j q
      unfold ovM
      rw [nI_c (k := j) (by omega), UU j q, hU _ _ (Or.inl (by have := (hX j q).1.2.2; omega))]
    constructor
    · rintro ⟨⟨q1, q2⟩, q3⟩
      have n6 : (na (nI i).toNatClampNeg).toInt ≠ 6 := by rw [nI_c (by omega)]; exact fun w => q3 ⟨q1, w⟩
      have o := (hX i q1).1.2.2
      refine ⟨q1, Or.inr ?_⟩
      rw [hc]
      refine ⟨by rw [nI_c (by omega)]; omega, n6, ?_, fun j hj w => ?_⟩
      · rw [nI_c (k := i) (by omega), UU i q1]
        unfold hadM at q2
        rw [hcp, nI_c (k := i) (by omega)] at q2
        rcases q2 with ⟨z, _⟩ | z
        · rw [show ot i = p from xJ z]; exact uC_r
        · exact z.2.2.1
      · rw [OV j hj] at w
        unfold hadM at q2
        rw [hcp] at q2
        rcases q2 with ⟨z, _⟩ | z
        · have oj := (hX j hj).1.2.2
          unfold ovM at w
          have e3 : ot (nI i).toNatClampNeg = p := xJ z
          rw [e3] at w
          exact w.1 (by rw [uC_a hd0 (by rw [nI_c (by omega)]; omega) (by omega) w.2.2.1 w.2.1])
        · exact z.2.2.2 j hj w
    · rintro ⟨q1, q2⟩
      have o := (hX i q1).1.2.2
      unfold hadM at q2
      rw [hc] at q2
      rcases q2 with ⟨z, _⟩ | ⟨z1, z2, z3, z4⟩
      · rw [nI_c (by omega)] at z; omega
      · refine ⟨⟨q1, ?_⟩, fun w => z2 (by rw [nI_c (by omega)]; exact w.2)⟩
        unfold hadM
        rw [hcp]
        rw [nI_c (k := i) (by omega), UU i q1] at z3
        rcases Classical.em ((ot (nI i).toNatClampNeg).toInt = p.toInt) with y | y
        · exact Or.inl ⟨y, Or.inl z2⟩
        · exact Or.inr ⟨y, z2, by rw [nI_c (k := i) (by omega)]; exact z3, fun j hj w => z4 j hj ((OV j hj).mpr w)⟩
  · rw [pk_uLn e, hH t i (by omega) hi]
    refine and_congr_right fun _ => ?_
    have htn := nI_toInt (n := t) (by omega)
    exact (had_c hU hok (Or.inl (by rw [cM_2 (by omega)]; omega))).symm
/-- which member stands for the one that was found -/
theorem tf_x {pa ot na re my pm : Nat → Int32} {ty mn t : Int32} {s : Int64} {c b : Nat} (hd : paD pa) (hty : 2 ≤ ty.toInt ∧ ty.toInt ≤ 10) (hmn : 0 ≤ mn.toInt ∧ mn.toInt ≤ 40) (hX : mbX ty ot na re my pm mn) (ht : (0 ≤ t.toInt ∧ t.toInt < ty.toInt) ∨ 20 ≤ t.toInt) (hb : ∀ i : Nat, i < 64 → (bl s i = true ↔ ((i : Int) < mn.toInt ∧ hadM pa ot na my pm mn t (nI i)))) (hc : (c : Int) < mn.toInt) (hsg : ∀ i : Nat, (i : Int) < mn.toInt → (sgM na my pm i = sgM na my pm c ↔ smM na my pm (nI i) (nI c))) (h : tfX na my pm s mn c b) : chL pa ot na my pm mn t (nI c) (nI b) mn.toNatClampNeg ∧ (b : Int) < mn.toInt := by
  have hmx := xN hmn.1
  rcases h with ⟨h1, h2, h3, _⟩ | ⟨h1, h2⟩
  · have k1 := (hsg b h1).mp h2
    have k2 := ((hb b (by omega)).mp h3).2
    refine ⟨Or.inr ⟨b, by omega, rfl, ⟨k1, k2⟩, fun j q1 q2 q3 => ?_⟩, h1⟩
    have := had_1 hd hty (by omega) hX ht h1 (by omega) k2 q3.2 (sm_t k1 (sm_s q3.1))
    omega
  · rw [h1]
    refine ⟨Or.inl ⟨rfl, fun j q1 q2 => ?_⟩, hc⟩
    exact h2 j (by omega) ⟨(hsg j (by omega)).mpr q2.1, (hb j (by omega)).mpr ⟨by omega, q2.2⟩⟩
