/-! sums, results -/
theorem spl_a {v : Int32} {z : cs_T} : ∀ (n k : Nat) (c : Int32), splF v z n k c = c + splF v z n k 0 := by
  intro n
  induction n with
  | zero => intro k c; show c = c + 0; rw [Int32.add_zero]
  | succ n ih =>
    intro k c
    rw [spl_s, spl_s, ih (k + 1) (c + plX v z k), ih (k + 1) (0 + plX v z k), Int32.zero_add, Int32.add_assoc]
theorem suI_x {g tn en : Int32} {tt ti pl : Nat → Int32} (hg : 1 ≤ g.toInt ∧ g.toInt ≤ tn.toInt) (ht : tn.toInt ≤ 60) : ∀ (n i : Nat) (v : Int32), i + n ≤ 20 → suI pl g n i v = v + splF g (tn, en, tt, ti, pl) n i 0 := by
  intro n
  induction n with
  | zero => intro i v _; show v = v + 0; rw [Int32.add_zero]
  | succ n ih =>
    intro i v hi
    have hx := xN (x := g) (by omega)
    have e1 : (20 * g).toInt = 20 * g.toInt := iMul (by decide) rfl (by omega) (by omega)
    have e2 : (20 * g + nI i).toInt = 20 * g.toInt + (i : Int) := iAdd e1 (nI_toInt (by omega)) (by omega) (by omega)
    have ei : (20 * g + nI i).toNatClampNeg = 20 * g.toNatClampNeg + i := tN (by omega)
    show suI pl g n (i + 1) (v + pl (20 * g + nI i).toNatClampNeg) = _
    rw [ih (i + 1) _ (by omega), spl_s, pl_1 ⟨hg, by omega⟩, ei, Int32.zero_add, spl_a n (i + 1) (pl (20 * g.toNatClampNeg + i)), Int32.add_assoc]
/-- what was got can be summed, from k on -/
def gtX (pf go : Nat → Int32) (tn : Int32) (ti : Nat → Int32) (k : Nat) : Prop := ((pf k).toInt = 1 → (go k).toInt = 0 ∨ (1 ≤ (go k).toInt ∧ (go k).toInt ≤ tn.toInt)) ∧ ((pf k).toInt = 30 → (go k).toInt = 0 ∨ ((1 ≤ (go k).toInt ∧ (go k).toInt ≤ tn.toInt) ∧ 0 ≤ (ti (go k).toNatClampNeg).toInt ∧ (ti (go k).toNatClampNeg).toInt ≤ 20))
theorem suO_x {ma my pm pf go gp : Nat → Int32} {m tn en : Int32} {tt ti pl : Nat → Int32} {N : Nat} (hN : (my m.toNatClampNeg).toInt = (N : Int)) (hN3 : N ≤ 3) (ht : tn.toInt ≤ 60) (hpf : ∀ j : Nat, j < N → pm (3 * m + nI j).toNatClampNeg = pf j) (hgo : ∀ j : Nat, j < N → go j = gp j) (hG : ∀ j : Nat, j < N → gtX pf gp tn ti j) :
    ∀ (n k : Nat) (v : Int32), k + n = N → suO ma my pm ti pl gp m n k v = sgX pf go (tn, en, tt, ti, pl) n k v + (if 1 ≤ n ∧ (ma m.toNatClampNeg &&& 4).toInt ≠ 0 ∧ (pf (N - 1)).toInt = 30 then splF (go (N - 1)) (tn, en, tt, ti, pl) (amX (go (N - 1)) (tn, en, tt, ti, pl)).toNatClampNeg 0 0 else 0) := by
  intro n
  induction n with
  | zero => intro k v _; show v = v + _; rw [if_neg (by omega), Int32.add_zero]
  | succ n ih =>
    intro k v hk
    have hkc : (nI k).toNatClampNeg = k := nI_c (by omega)
    obtain ⟨G1, G2⟩ := hG k (by omega)
    have hgk := hgo k (by omega)
    have z0 : (0 : Int32).toInt = 0 := by decide
    have am0 : (gp k).toInt = 0 → amX (gp k) (tn, en, tt, ti, pl) = 0 := fun q => am_2 (by omega)
    have hT : suT ti gp (nI k) (pf k) v = (if (pf k).toInt = 10 then v + go k else if (pf k).toInt = 1 then v + amX (go k) (tn, en, tt, ti, pl) else v) := by
      by_cases q1 : (pf k).toInt = 10
      · rw [su_1 q1, if_pos q1, hkc, hgk]
      · rw [if_neg q1]
        by_cases q2 : (pf k).toInt = 1
        · rw [if_pos q2, hgk]
          rcases G1 q2 with q3 | q3
          · rw [su_3 q1 (by rw [hkc]; omega), am0 q3]
          · rw [su_2 q1 (by rw [hkc]; omega), am_1 q3, hkc]
        · rw [if_neg q2, su_3 q1 (by omega), Int32.add_zero]
    show suO ma my pm ti pl gp m n (k + 1) (suS ti pl gp ((k : Int) = (my m.toNatClampNeg).toInt - 1 ∧ (ma m.toNatClampNeg &&& 4).toInt ≠ 0) (nI k) (pm (3 * m + nI k).toNatClampNeg) v) = _
    rw [sgX_s, hpf k (by omega), ih (k + 1) _ (by omega)]
    unfold suS
    rw [hkc, hT]
    generalize (if (pf k).toInt = 10 then v + go k else if (pf k).toInt = 1 then v + amX (go k) (tn, en, tt, ti, pl) else v) = u
    by_cases c : (ma m.toNatClampNeg &&& 4).toInt ≠ 0 ∧ (pf (N - 1)).toInt = 30
    · by_cases hl : k + 1 = N
      · have e0 : n = 0 := by omega
        subst e0
        have eN : N - 1 = k := by omega
        rw [eN] at c ⊢
        show (if _ then _ else _) + _ = u + _
        have n1 : ¬ (1 ≤ 0 ∧ (ma m.toNatClampNeg &&& 4).toInt ≠ 0 ∧ (pf k).toInt = 30) := fun w => absurd w.1 (by decide)
        have n2 : 1 ≤ 0 + 1 ∧ (ma m.toNatClampNeg &&& 4).toInt ≠ 0 ∧ (pf k).toInt = 30 := ⟨by decide, c⟩
        rw [if_neg n1, if_pos n2, Int32.add_zero, hgk]
        rcases G2 c.2 with q | ⟨q, q2⟩
        · rw [if_neg (fun w => w.2.2 q), am0 q]
          show u = u + 0
          rw [Int32.add_zero]
        · rw [if_pos ⟨c.2, ⟨by omega, c.1⟩, by omega⟩, am_1 q]
          have hx := xN q2.1
          exact suI_x q ht _ 0 u (by omega)
      · rw [if_neg (fun w => by have := w.2.1.1; omega), if_pos ⟨by omega, c⟩, if_pos ⟨by omega, c⟩]
    · have e1 : ¬ ((pf k).toInt = 30 ∧ ((k : Int) = (my m.toNatClampNeg).toInt - 1 ∧ (ma m.toNatClampNeg &&& 4).toInt ≠ 0) ∧ (gp k).toInt ≠ 0) := fun w => by
        have : N - 1 = k := by have := w.2.1.1; omega
        exact c ⟨w.2.1.2, by rw [this]; exact w.1⟩
      rw [if_neg e1, if_neg (fun w => c w.2), if_neg (fun w => c w.2)]
theorem smA_1 {ma : Int32} {n : Nat} {pf go : Nat → Int32} {z : cs_T} {i : Nat} (h : (ma &&& 4).toInt ≠ 0 ∧ 1 ≤ n ∧ (pf (n - 1)).toInt = 30) : sumX ma n pf go z i = sgX pf go z n 0 (100 * nI i) + splF (go (n - 1)) z (amX (go (n - 1)) z).toNatClampNeg 0 0 := by unfold sumX; rw [if_pos h]
theorem smA_2 {ma : Int32} {n : Nat} {pf go : Nat → Int32} {z : cs_T} {i : Nat} (h : ¬ ((ma &&& 4).toInt ≠ 0 ∧ 1 ≤ n ∧ (pf (n - 1)).toInt = 30)) : sumX ma n pf go z i = sgX pf go z n 0 (100 * nI i) := by unfold sumX; rw [if_neg h]
theorem su_x {ma my pm pf go gp : Nat → Int32} {tn en : Int32} {tt ti pl : Nat → Int32} {b N : Nat} (hb : b < 40) (hN : (my b).toInt = (N : Int)) (hN3 : N ≤ 3) (ht : tn.toInt ≤ 60) (hpf : ∀ j : Nat, j < N → pm (3 * nI b + nI j).toNatClampNeg = pf j) (hgo : ∀ j : Nat, j < N → go j = gp j) (hG : ∀ j : Nat, j < N → gtX pf gp tn ti j) : sumX (ma b) N pf go (tn, en, tt, ti, pl) b = suF ma my pm ti pl gp (nI b) := by
  have hbc : (nI b).toNatClampNeg = b := nI_c (by omega)
  unfold suF
  rw [hbc, tN hN, suO_x (en := en) (tt := tt) (by rw [hbc]; exact hN) hN3 ht hpf hgo hG N 0 (100 * nI b) (by omega), hbc]
  by_cases c : (ma b &&& 4).toInt ≠ 0 ∧ 1 ≤ N ∧ (pf (N - 1)).toInt = 30
  · rw [smA_1 c, if_pos ⟨c.2.1, c.1, c.2.2⟩]
  · rw [smA_2 c, if_neg (fun w => c ⟨w.2.1, w.1, w.2.2⟩), Int32.add_zero]
/-- what a member gives -/
theorem gr_x {na re my : Nat → Int32} {op : Prop} {S : Int32} {b N : Nat} {z : cs_T} {x y : Int32 × cs_T} (hb : b < 40) (hN : my b = nI N) (h6 : (na b).toInt = 6 → ¬ op ∧ (re b).toInt ≠ 1 ∧ (re b).toInt < 10) (h : grX (re b) (nI N) op S z x) (k : giM na re my op (nI b) S z y) : x = y := by
  have hbc : (nI b).toNatClampNeg = b := nI_c (by omega)
  unfold giM at k
  rw [hbc, hN] at k
  rcases h with ⟨h1, h2⟩ | ⟨h1, h2⟩ | ⟨h1, h2⟩ | ⟨h1, h2⟩ | ⟨h1, ⟨h0, h2⟩ | ⟨h0, h2⟩⟩ <;> rcases k with ⟨k1, k2⟩ | ⟨k1, k3, k2⟩ | ⟨k1, k3, k2⟩ | ⟨k1, k3, k2⟩ | ⟨k1, k3, k2⟩ | ⟨k1, ⟨k0, k2⟩ | ⟨k0, k2⟩⟩ <;> first | exact h2.trans k2.symm | (exfalso; omega) | (exfalso; exact k0 h0) | (exfalso; exact h0 k0) | (exfalso; exact (h6 k1).1 h0) | (exfalso; have := h6 k1; omega)
/-- ended is ended -/
theorem gr_e {re n S : Int32} {op : Prop} {z : cs_T} {x : Int32 × cs_T} (he : z.2.1.toInt ≠ 0) (h : grX re n op S z x) : x.2 = z := by
  obtain ⟨tn, en, y⟩ := z
  rcases h with ⟨_, h⟩ | ⟨_, h⟩ | ⟨_, h⟩ | ⟨_, h⟩ | ⟨_, ⟨_, h⟩ | ⟨_, h⟩⟩
  · rw [h]
  · rw [h]
  · rw [h, md_1 he]
  · rw [h, md_1 he]
  · rw [h]
  · rw [h, md_1 he]
/-- the face's end -/
theorem fn_x {due wh cm : Int32} {z : cs_T} (h : wh.toInt = 1 → due.toInt = 10 → z.2.1.toInt = 0 → 1 ≤ cm.toInt ∧ cm.toInt ≤ z.1.toInt) : (cvX cm wh due z).2 = (fnF due wh cm z).2 ∧ ((fnF due wh cm z).2.2.1.toInt = 0 → (cvX cm wh due z).1 = (fnF due wh cm z).1) := by
  obtain ⟨tn, en, tt, ti, pl⟩ := z
  dsimp only at h
  unfold fnF
  by_cases e : en.toInt ≠ 0
  · rw [cv_1 (Or.inl e), if_pos e]
    exact ⟨rfl, fun w => absurd w e⟩
  · have e0 : en.toInt = 0 := by omega
    rw [if_neg e]
    by_cases q : due.toInt = 11
    · rw [cv_1 (Or.inr q), if_pos q]
      exact ⟨rfl, fun _ => rfl⟩
    · rw [if_neg q]
      by_cases q2 : wh.toInt = 10 ∧ due.toInt ≠ 10
      · rw [cv_2 (by omega) q2, if_pos q2]
        exact ⟨rfl, fun _ => rfl⟩
      · rw [if_neg q2]
        by_cases q3 : wh.toInt = 1 ∧ due.toInt = 10
        · have hv := h q3.1 q3.2 e0
          rw [cv_4 (by omega) q2 q3 (by omega) hv, if_pos q3]
          exact ⟨rfl, fun _ => rfl⟩
        · rw [cv_5 (by omega) q2 q3, if_neg q3]
          exact ⟨rfl, fun _ => rfl⟩
/-- a size -/
theorem sz_x {ar fa fq : Nat → Int32} {f row tn : Int32} {x : (Nat → Int32) × (Nat → Int32) × (Nat → Int32)} (hf : fq 0 = fa (3 * f).toNatClampNeg) (h1 : (fq 0).toInt = 10 ∨ (fq 0).toInt = 1) (h2 : (fq 0).toInt = 1 → (ar 0).toInt = 0 ∨ (1 ≤ (ar 0).toInt ∧ (ar 0).toInt ≤ tn.toInt)) : szX ar fq row (tn, 0, x) = szF ar fa f row (tn, 0, x) := by
  have z0 : (0 : Int32).toInt = 0 := by decide
  have z10 : (10 : Int32).toInt = 10 := by decide
  have hc := cv_x (v := ar 0) (a := fq 0) (b := 10) (z := (tn, 0, x)) (by decide) (fun w _ => by omega) (fun w _ => h2 w)
  unfold szX szF
  rw [← hf]
  obtain ⟨c1, c2, c3⟩ := hc
  generalize hu : tuF (ar 0) (fq 0) 10 (tn, 0, x) = u at *
  generalize hv : cvX (ar 0) (fq 0) 10 (tn, 0, x) = c at *
  obtain ⟨cr, cz⟩ := c
  obtain ⟨ur, tn2, en2, x2⟩ := u
  dsimp only at c1 c2 c3 ⊢
  subst c1
  dsimp only
  by_cases e : en2.toInt = 0
  · have e1 := c2 e
    subst e1
    have e2 : en2 = 0 := xJ (by omega)
    subst e2
    rw [if_pos e]
    by_cases q : cr.toInt < 0
    · rw [if_neg (by omega), if_pos q, if_pos q]
    · rw [if_neg q, if_neg q]
  · have e1 := c3 e
    subst e1
    rw [if_neg (by omega), if_neg (by omega), if_neg e, md_1 e, md_1 e]
