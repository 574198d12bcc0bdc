/-! a new member -/
theorem b_nz {x : Int32} : x.toInt ≠ 0 ↔ ∃ i : Nat, i < 32 ∧ bt x i = true := by
  constructor
  · intro h
    refine Classical.byContradiction (fun q => h ?_)
    have e : x = 0 := b_ext (fun i hi => by rw [b_0]; exact Bool.eq_false_iff.mpr (fun w => q ⟨i, hi, w⟩))
    rw [e]; decide
  · rintro ⟨i, _, h⟩
    exact b_ne h
theorem b_four : ∀ i, i < 32 → bt 4 i = decide (i = 2) := by decide +kernel
theorem b_a4 {x : Int32} : (x &&& 4).toInt ≠ 0 ↔ bt x 2 = true := by
  rw [b_nz]
  constructor
  · rintro ⟨i, hi, h⟩
    rw [b_and, b_four i hi, Bool.and_eq_true, decide_eq_true_eq] at h
    rw [← h.2]; exact h.1
  · intro h
    refine ⟨2, by omega, ?_⟩
    rw [b_and, h, b_four 2 (by omega)]
    rfl
theorem b_xor (x y : Int32) (i : Nat) : bt (x ^^^ y) i = (bt x i ^^ bt y i) := by unfold bt; rw [Int32.toBitVec_xor, BitVec.getLsbD_xor]
theorem bits_1 {x a : Int32} : ((x ||| a) &&& 1).toInt ≠ 0 ↔ ((x &&& 1).toInt ≠ 0 ∨ (a &&& 1).toInt ≠ 0) := by rw [b_a1, b_a1, b_a1, b_or, Bool.or_eq_true]
theorem bits_4 {x a : Int32} : ((x ^^^ a) &&& 4).toInt ≠ 0 ↔ ¬ ((x &&& 4).toInt ≠ 0 ↔ (a &&& 4).toInt ≠ 0) := by
  rw [b_a4, b_a4, b_a4, b_xor]
  cases bt x 2 <;> cases bt a 2 <;> decide
theorem mk3 {a : Int32} (h : 0 ≤ a.toInt ∧ a.toInt ≤ 7) : ((a &&& 3).toInt = 3 ↔ ((a &&& 1).toInt ≠ 0 ∧ (a &&& 2).toInt ≠ 0)) ∧ ((a &&& 3).toInt = 0 ↔ ((a &&& 1).toInt = 0 ∧ (a &&& 2).toInt = 0)) := by
  have hx := xN h.1
  obtain ⟨n, hn, en⟩ : ∃ n : Nat, n < 8 ∧ a = nI n := ⟨a.toNatClampNeg, by omega, (nI_self h.1).symm⟩
  clear hx h
  subst en
  have hc : n = 0 ∨ n = 1 ∨ n = 2 ∨ n = 3 ∨ n = 4 ∨ n = 5 ∨ n = 6 ∨ n = 7 := by omega
  rcases hc with rfl | rfl | rfl | rfl | rfl | rfl | rfl | rfl <;> decide
/-- a clash of two, but for name and parameters -/
theorem cw_x {up pa ot re ma : Nat → Int32} {ty t w r a : Int32} {j : Nat} (hj : j < 1000) (hU : upR up pa ty) (hty : 2 ≤ ty.toInt ∧ ty.toInt ≤ 10) (ht : 0 ≤ t.toInt ∧ t.toInt < ty.toInt) (hot : 0 ≤ (ot j).toInt ∧ (ot j).toInt < ty.toInt) : (t.toInt = (ot j).toInt ∨ (w.toInt ≠ 6 ∧ (xU up t (ot j) ∨ xU up (ot j) t) ∧ ¬ ((a &&& 1).toInt = 0 ∧ (ma j &&& 1).toInt = 0 ∧ r.toInt = (re j).toInt ∧ ((a &&& 4).toInt ≠ 0 ↔ (ma j &&& 4).toInt ≠ 0)))) ↔ clR pa ot re ma (nI j) t w r a := by
  have hb1 := bits_1 (x := ma j) (a := a)
  have hb4 := bits_4 (x := ma j) (a := a)
  have u1 := hU.2 t (ot j) (by unfold anyT; omega) (by omega)
  have u2 := hU.2 (ot j) t (by unfold anyT; omega) (by omega)
  unfold clR
  rw [nI_c hj, u1, u2]
  constructor
  · rintro (q | ⟨q1, q2, q3⟩)
    · exact Or.inl q.symm
    · by_cases e : (ot j).toInt = t.toInt
      · exact Or.inl e
      · exact Or.inr ⟨e, q1, q2, by omega⟩
  · rintro (q | ⟨_, q1, q2, q3⟩)
    · exact Or.inl q.symm
    · exact Or.inr ⟨q1, q2, by omega⟩
/-- name and parameters of the new one -/
theorem sm_new {na my pm to : Nat → Int32} {mn tm w : Int32} {j : Nat} (hmn : 0 ≤ mn.toInt ∧ mn.toInt < 1000) (htm : 0 ≤ tm.toInt ∧ tm.toInt ≤ 3) (hj : j < mn.toNatClampNeg) : smM (upd na mn.toNatClampNeg w) (upd my mn.toNatClampNeg tm) (cpF pm to mn tm) (nI j) (nI mn.toNatClampNeg) ↔ ((na j).toInt = w.toInt ∧ (my j).toInt = tm.toInt ∧ alL pm to tm (nI j) 0) := by
  have hx := xN hmn.1
  have ht := xN htm.1
  have ej : (nI j).toNatClampNeg = j := nI_c (by omega)
  have em : (nI mn.toNatClampNeg).toNatClampNeg = mn.toNatClampNeg := nI_c (by omega)
  have ne : j ≠ mn.toNatClampNeg := by omega
  have e1 : ∀ k : Nat, k < 3 → cpF pm to mn tm (3 * nI j + nI k).toNatClampNeg = pm (3 * nI j + nI k).toNatClampNeg := fun k q => by
    rw [ixn (by omega) (by omega)]
    exact cp_old hj q
  have e2 : ∀ k : Nat, k < tm.toNatClampNeg → cpF pm to mn tm (3 * nI mn.toNatClampNeg + nI k).toNatClampNeg = to (nI k).toNatClampNeg := fun k q => by
    rw [ixn (by omega) (by omega), nI_c (k := k) (by omega)]
    unfold cpF
    rw [if_pos (by omega)]
    congr 1
    omega
  unfold smM smL alL
  rw [ej, em, updN ne, updS, updN ne, updS]
  constructor
  · rintro ⟨q1, q2, q3⟩
    refine ⟨by rw [q1], by rw [q2], fun k k1 k2 => ?_⟩
    have := q3 k k1 (by rw [q2]; exact k2)
    rw [e1 k (by omega), e2 k (by omega)] at this
    exact this
  · rintro ⟨q1, q2, q3⟩
    refine ⟨xJ q1, xJ q2, fun k k1 k2 => ?_⟩
    rw [q2] at k2
    rw [e1 k (by omega), e2 k (by omega)]
    exact q3 k k1 k2
/-- the same clash -/
theorem cl_x {up xpa pa ot na re ma my pm to : Nat → Int32} {ty mn tm t w r a : Int32} {ha nm : Nat → Int64} {St Ab Va : Int64} (hR : mmR up xpa pa ty ot na re ma my pm mn ha nm St Ab Va) (hto : ∀ j : Nat, plT ty (to j)) (htm : 0 ≤ tm.toInt ∧ tm.toInt ≤ 3) (ht : 0 ≤ t.toInt ∧ t.toInt < ty.toInt) (hw : 0 ≤ w.toInt ∧ w.toInt ≤ 6) : clL up (upd ot mn.toNatClampNeg t) (upd na mn.toNatClampNeg w) (upd re mn.toNatClampNeg r) (upd ma mn.toNatClampNeg a) (upd my mn.toNatClampNeg tm) (cpF pm to mn tm) mn mn.toNatClampNeg 0 ↔ ∃ j : Nat, (j : Int) < mn.toInt ∧ clM pa ot na re ma my pm to tm (nI j) t w r a := by
  obtain ⟨hU, hd, hP, hS, hX, hK, hB, hH, hN, hSt, hAb, hVa⟩ := hR
  have hmn := hS.2.1
  have hx := xN hmn.1
  have key : ∀ j : Nat, (j : Int) < mn.toInt → ((sgM (upd na mn.toNatClampNeg w) (upd my mn.toNatClampNeg tm) (cpF pm to mn tm) j = sgM (upd na mn.toNatClampNeg w) (upd my mn.toNatClampNeg tm) (cpF pm to mn tm) mn.toNatClampNeg ∧ cwX up (upd ot mn.toNatClampNeg t) (upd na mn.toNatClampNeg w) (upd re mn.toNatClampNeg r) (upd ma mn.toNatClampNeg a) mn.toNatClampNeg j) ↔ clM pa ot na re ma my pm to tm (nI j) t w r a) := fun j hj => by
    have ne : j ≠ mn.toNatClampNeg := by omega
    have hXj := hX j hj
    have hyj := hS.2.2.1 j (by omega)
    rw [sg_x (by omega) (by omega) hS.1.2 (cp_p hto hS.2.2.2.2.1) (by rw [updN ne]; exact hXj.1.1) (by rw [updS]; exact hw) (by rw [updN ne]; exact hyj) (by rw [updS]; exact htm), sm_new ⟨hmn.1, by omega⟩ htm (by omega)]
    unfold cwX agX clM
    simp only [updS, updN ne]
    have hc := cw_x (re := re) (ma := ma) (w := w) (r := r) (a := a) (j := j) (by omega) hU hS.1 ht hXj.1.2.2
    rw [nI_c (k := j) (by omega)]
    exact ⟨fun z => ⟨z.1.1, z.1.2.1, z.1.2.2, hc.mp z.2⟩, fun z => ⟨⟨z.1, z.2.1, z.2.2.1⟩, hc.mpr z.2.2.2⟩⟩
  unfold clL
  constructor
  · rintro ⟨j, _, k1, k2, k3⟩
    exact ⟨j, k1, (key j k1).mp ⟨k2, k3⟩⟩
  · rintro ⟨j, k1, k2⟩
    obtain ⟨k3, k4⟩ := (key j k1).mpr k2
    exact ⟨j, Nat.zero_le j, k1, k3, k4⟩
theorem nm_new {nm : Nat → Int64} {na : Nat → Int32} {mn w : Int32} (hmn : 0 ≤ mn.toInt ∧ mn.toInt < 40) (hw : 0 ≤ w.toInt ∧ w.toInt ≤ 6) (h : nmR nm na mn) : nmR (vp_updL nm (upd na mn.toNatClampNeg w mn.toNatClampNeg).toNatClampNeg ((nm (upd na mn.toNatClampNeg w mn.toNatClampNeg).toNatClampNeg) ||| (1 <<< ((nI mn.toNatClampNeg).toInt64 &&& 63)))) (upd na mn.toNatClampNeg w) (mn + 1) := by
  intro x i hx hi
  have e1 : (mn + 1).toInt = mn.toInt + 1 := iAdd rfl (by decide) (by omega) (by omega)
  have hM := xN hmn.1
  have hW := xN hw.1
  rw [updS]
  by_cases e : x = w.toNatClampNeg
  · rw [e, pk_uLs, l_st (k := mn.toNatClampNeg) (by omega) hi, h w.toNatClampNeg i (by omega) hi]
    constructor
    · rintro (⟨q1, q2⟩ | q)
      · exact ⟨by omega, by rw [updN (by omega)]; exact q2⟩
      · rw [q, updS]; exact ⟨by omega, by omega⟩
    · rintro ⟨q1, q2⟩
      by_cases ei : i = mn.toNatClampNeg
      · exact Or.inr ei
      · rw [updN ei] at q2
        exact Or.inl ⟨by omega, q2⟩
  · rw [pk_uLn e, h x i hx hi]
    constructor
    · rintro ⟨q1, q2⟩
      exact ⟨by omega, by rw [updN (by omega)]; exact q2⟩
    · rintro ⟨q1, q2⟩
      by_cases ei : i = mn.toNatClampNeg
      · rw [ei, updS] at q2
        omega
      · rw [updN ei] at q2
        exact ⟨by omega, q2⟩
theorem st_new {S : Int64} {ma : Nat → Int32} {mn a b : Int32} (hmn : 0 ≤ mn.toInt ∧ mn.toInt < 40) (h : stR S ma b mn) : stR (stX S (upd ma mn.toNatClampNeg a mn.toNatClampNeg &&& b) mn.toNatClampNeg) (upd ma mn.toNatClampNeg a) b (mn + 1) := by
  intro i hi
  have e1 : (mn + 1).toInt = mn.toInt + 1 := iAdd rfl (by decide) (by omega) (by omega)
  have hM := xN hmn.1
  rw [updS]
  by_cases q : (a &&& b).toInt = 0
  · rw [st_2 q, l_or, l_0, Bool.or_false, h i hi]
    constructor
    · rintro ⟨q1, q2⟩
      exact ⟨by omega, by rw [updN (by omega)]; exact q2⟩
    · rintro ⟨q1, q2⟩
      by_cases ei : i = mn.toNatClampNeg
      · rw [ei, updS] at q2
        exact absurd q q2
      · rw [updN ei] at q2
        exact ⟨by omega, q2⟩
  · rw [st_1 q, l_st (k := mn.toNatClampNeg) (by omega) hi, h i hi]
    constructor
    · rintro (⟨q1, q2⟩ | q1)
      · exact ⟨by omega, by rw [updN (by omega)]; exact q2⟩
      · rw [q1, updS]; exact ⟨by omega, q⟩
    · rintro ⟨q1, q2⟩
      by_cases ei : i = mn.toNatClampNeg
      · exact Or.inr ei
      · rw [updN ei] at q2
        exact Or.inl ⟨by omega, q2⟩
theorem mm_new {up xpa pa ot na re ma my pm to : Nat → Int32} {ty mn tm t w r a : Int32} {ha hb nm : Nat → Int64} {St Ab Va : Int64} (hR : mmR up xpa pa ty ot na re ma my pm mn ha nm St Ab Va) (hto : ∀ j : Nat, plT ty (to j)) (htm : 0 ≤ tm.toInt ∧ tm.toInt ≤ 3) (h40 : mn.toInt < 40) (ht : 0 ≤ t.toInt ∧ t.toInt < ty.toInt) (hw : 0 ≤ w.toInt ∧ w.toInt ≤ 6) (hr : anyT ty r) (hk : w.toInt = 6 → (a &&& 1).toInt = 0 ∧ (a &&& 2).toInt = 0) (hcl : ∀ j : Nat, (j : Int) < mn.toInt → ¬ clM pa ot na re ma my pm to tm (nI j) t w r a)
    (h1 : myD (upd my mn.toNatClampNeg tm)) (h2 : vrD (upd ma mn.toNatClampNeg a) (upd my mn.toNatClampNeg tm)) (h3 : mbD (upd ot mn.toNatClampNeg t) (upd na mn.toNatClampNeg w) (upd re mn.toNatClampNeg r) (mn + 1)) (h4 : ∀ i : Nat, plT ty (cpF pm to mn tm i)) (h5 : ∀ j : Nat, (j : Int) < (mn + 1).toInt → (upd ma mn.toNatClampNeg a j &&& 4).toInt ≠ 0 → 20 ≤ (cpF pm to mn tm (3 * nI j + (upd my mn.toNatClampNeg tm j - 1)).toNatClampNeg).toInt)
    (hA : adX up (upd ot mn.toNatClampNeg t) (upd na mn.toNatClampNeg w) (upd my mn.toNatClampNeg tm) (cpF pm to mn tm) mn.toNatClampNeg ty 0 ha hb) :
    mmR up xpa pa ty (upd ot mn.toNatClampNeg t) (upd na mn.toNatClampNeg w) (upd re mn.toNatClampNeg r) (upd ma mn.toNatClampNeg a) (upd my mn.toNatClampNeg tm) (cpF pm to mn tm) (mn + 1) hb (vp_updL nm (upd na mn.toNatClampNeg w mn.toNatClampNeg).toNatClampNeg ((nm (upd na mn.toNatClampNeg w mn.toNatClampNeg).toNatClampNeg) ||| (1 <<< ((nI mn.toNatClampNeg).toInt64 &&& 63)))) (stX St (upd ma mn.toNatClampNeg a mn.toNatClampNeg &&& 1) mn.toNatClampNeg) (stX Ab (upd ma mn.toNatClampNeg a mn.toNatClampNeg &&& 2) mn.toNatClampNeg) (stX Va (upd ma mn.toNatClampNeg a mn.toNatClampNeg &&& 4) mn.toNatClampNeg) := by
  obtain ⟨hU, hd, hP, hS, hX, hK, hB, hH, hN, hSt, hAb, hVa⟩ := hR
  have hmn := hS.2.1
  have hM := xN hmn.1
  have e1 : (mn + 1).toInt = mn.toInt + 1 := iAdd rfl (by decide) (by omega) (by omega)
  have hm4 : 0 ≤ mn.toInt ∧ mn.toInt < 40 := ⟨hmn.1, h40⟩
  have hot : ∀ j : Nat, j < mn.toNatClampNeg → smM (upd na mn.toNatClampNeg w) (upd my mn.toNatClampNeg tm) (cpF pm to mn tm) (nI j) (nI mn.toNatClampNeg) → (ot j).toInt ≠ t.toInt := fun j q s e => by
    obtain ⟨k1, k2, k3⟩ := (sm_new (by omega) htm q).mp s
    refine hcl j (by omega) ⟨?_, ?_, k3, Or.inl ?_⟩
    · rw [nI_c (k := j) (by omega)]; exact k1
    · rw [nI_c (k := j) (by omega)]; exact k2
    · rw [nI_c (k := j) (by omega)]; exact e
  have hNw : nwM ot na my pm (upd ot mn.toNatClampNeg t) (upd na mn.toNatClampNeg w) (upd my mn.toNatClampNeg tm) (cpF pm to mn tm) mn.toNatClampNeg := fun i q => ⟨updN (by omega), updN (by omega), updN (by omega), fun k q2 => cp_old q q2⟩
  have hy : ∀ i : Nat, i < mn.toNatClampNeg → 0 ≤ (my i).toInt ∧ (my i).toInt ≤ 3 := fun i q => hS.2.2.1 i (by omega)
  have hX' : mbX ty (upd ot mn.toNatClampNeg t) (upd na mn.toNatClampNeg w) (upd re mn.toNatClampNeg r) (upd my mn.toNatClampNeg tm) (cpF pm to mn tm) (mn + 1) := by
    intro j q
    refine ⟨?_, fun i q2 q3 q4 => ?_⟩
    · by_cases ej : j = mn.toNatClampNeg
      · rw [ej, updS, updS, updS]; exact ⟨hw, hr, ht⟩
      · rw [updN ej, updN ej, updN ej]; exact (hX j (by omega)).1
    · by_cases ej : j = mn.toNatClampNeg
      · have ei : i ≠ mn.toNatClampNeg := by omega
        rw [ej] at q4 ⊢
        rw [updN ei, updS]
        exact hot i (by omega) q4
      · by_cases ei : i = mn.toNatClampNeg
        · rw [ei] at q4 ⊢
          rw [updN ej, updS]
          exact fun z => hot j (by omega) (sm_s q4) z.symm
        · rw [updN ei, updN ej]
          exact (hX j (by omega)).2 i (by omega) q3 ((nw_sm (by omega) hNw hy (by omega) (by omega)).mp q4)
  refine ⟨hU, hd, hP, ⟨hS.1, by omega, h1, h2, h4, h5⟩, hX', ?_, h3, ?_, nm_new hm4 hw hN, st_new hm4 hSt, st_new hm4 hAb, st_new hm4 hVa⟩
  · intro j q q6
    by_cases ej : j = mn.toNatClampNeg
    · rw [ej, updS] at q6 ⊢
      exact hk q6
    · rw [updN ej] at q6 ⊢
      exact hK j (by omega) q6
  · refine ad_x hU hd hS.1 hm4 hM hX hy hNw (by rw [updS]; exact ht) (fun i q => ?_) (fun i q s => by rw [updS]; exact hot i q s) hH hA
    refine sg_x (by omega) (by omega) hS.1.2 h4 ?_ (by rw [updS]; exact hw) ?_ (by rw [updS]; exact htm)
    · rw [updN (by omega)]; exact (hX i (by omega)).1.1
    · rw [updN (by omega)]; exact hy i q
