/-! a call goes the same way -/
/-! what is meant is one: second, phase -/
theorem bo_e {ma : Nat → Int32} {s1 a2 : Prop} {p1 r1 p2 r2 sc mp r sc2 mp2 q : Int32} (h : boM ma s1 a2 p1 r1 p2 r2 sc mp r) (k : boM ma s1 a2 p1 r1 p2 r2 sc2 mp2 q) : sc = sc2 ∧ mp = mp2 := by
  rcases h with ⟨h1, _, h3, h4⟩ | ⟨h1, h2, _, h3, h4⟩ | ⟨h1, h2, h3, h4, _⟩ | ⟨h1, h2, h3, h4, _⟩ | ⟨h1, h2, h3, h4, _⟩ <;> rcases k with ⟨k1, _, k3, k4⟩ | ⟨k1, k2, _, k3, k4⟩ | ⟨k1, k2, k3, k4, _⟩ | ⟨k1, k2, k3, k4, _⟩ | ⟨k1, k2, k3, k4, _⟩ <;> first | exact ⟨h3.trans k3.symm, h4.trans k4.symm⟩ | exact absurd h1 k1 | exact absurd k1 h1 | exact absurd h2 k2 | exact absurd k2 h2
theorem both_e {pa ot na my pm ma fa fy : Nat → Int32} {mn t w f sc mp r sc2 mp2 q : Int32} (h : bothM pa ot na my pm ma fa fy mn t w f sc mp r) (k : bothM pa ot na my pm ma fa fy mn t w f sc2 mp2 q) : sc = sc2 ∧ mp = mp2 := by
  obtain ⟨p1, r1, p2, r2, h1, h2, h3⟩ := h
  obtain ⟨u1, v1, u2, v2, k1, k2, k3⟩ := k
  obtain ⟨e1, e2⟩ := sr_d h1 k1
  obtain ⟨e3, e4⟩ := s2_d h2 k2
  rw [← e1, ← e2, ← e3, ← e4] at k3
  exact bo_e h3 k3
theorem mn_e {pa ot na my pm ma fa fy : Nat → Int32} {mn fo t w f sc mp r sc2 mp2 q : Int32} (h : mnM pa ot na my pm ma fa fy mn fo t w f sc mp r) (k : mnM pa ot na my pm ma fa fy mn fo t w f sc2 mp2 q) : sc = sc2 ∧ mp = mp2 := by
  rcases h with ⟨h0, h1⟩ | ⟨h0, h1, v, h2, _⟩ | ⟨h0, h1, v, h2, _⟩ | ⟨h0, h1, h2⟩ | ⟨h0, h1, h2, _⟩
  · rcases k with ⟨k0, k1⟩ | ⟨k0, _⟩ | ⟨k0, _⟩ | ⟨k0, _⟩ | ⟨k0, _⟩
    · exact both_e h1 k1
    · omega
    · omega
    · omega
    · omega
  · rcases k with ⟨k0, _⟩ | ⟨k0, k1, u, k2, _⟩ | ⟨k0, _⟩ | ⟨k0, _⟩ | ⟨k0, _⟩
    · omega
    · exact ⟨h1.trans k1.symm, (one_d h2 k2).1⟩
    · omega
    · omega
    · omega
  · rcases k with ⟨k0, _⟩ | ⟨k0, _⟩ | ⟨k0, k1, u, k2, _⟩ | ⟨k0, _⟩ | ⟨k0, _⟩
    · omega
    · omega
    · exact ⟨h1.trans k1.symm, (one_d h2 k2).1⟩
    · omega
    · omega
  · rcases k with ⟨k0, _⟩ | ⟨k0, _⟩ | ⟨k0, _⟩ | ⟨k0, k1, k2⟩ | ⟨k0, _⟩
    · omega
    · omega
    · omega
    · refine ⟨h1.trans k1.symm, ?_⟩
      rcases h2 with ⟨h2, h3, _⟩ | ⟨h2, h4, h3, _⟩ | ⟨h2, h4, h3⟩ <;> rcases k2 with ⟨k2, k3, _⟩ | ⟨k2, k4, k3, _⟩ | ⟨k2, k4, k3⟩ <;> first | exact h3.trans k3.symm | exact (one_d h3 k3).1 | exact absurd h2 k2 | exact absurd k2 h2 | exact absurd h4 k4 | exact absurd k4 h4
    · omega
  · rcases k with ⟨k0, _⟩ | ⟨k0, _⟩ | ⟨k0, _⟩ | ⟨k0, _⟩ | ⟨k0, k1, k2, _⟩
    · omega
    · omega
    · omega
    · omega
    · exact ⟨h1.trans k1.symm, h2.trans k2.symm⟩
theorem wm_e {pa ot na re my pm ma fa fy fr : Nat → Int32} {mn fo t w f sc mp r sc2 mp2 q : Int32} (h : wmM pa ot na re my pm ma fa fy fr mn fo t w f sc mp r) (k : wmM pa ot na re my pm ma fa fy fr mn fo t w f sc2 mp2 q) : sc = sc2 ∧ mp = mp2 ∧ r = q := by
  obtain ⟨r1, h1, h2⟩ := h
  obtain ⟨q1, k1, k2⟩ := k
  obtain ⟨e1, e2⟩ := mn_e h1 k1
  have e3 := mn_d h1 k1
  subst e3
  refine ⟨e1, e2, ?_⟩
  rcases h2 with ⟨h2, h3⟩ | ⟨h2, h3⟩ | ⟨h2, h3⟩ <;> rcases k2 with ⟨k2, k3⟩ | ⟨k2, k3⟩ | ⟨k2, k3⟩ <;> first | exact h3.trans k3.symm | omega | skip
  · exact absurd h2.2 (fun z => z.elim (fun z => k2.2.1 z) (fun z => k2.2.2 z))
  · exact absurd k2.2 (fun z => z.elim (fun z => h2.2.1 z) (fun z => h2.2.2 z))
theorem ch_d {pa ot na my pm : Nat → Int32} {mn t m r q : Int32} {k : Nat} (h : chL pa ot na my pm mn t m r k) (g : chL pa ot na my pm mn t m q k) : r = q := by
  rcases h with ⟨h1, h2⟩ | ⟨b, h1, h2, h3, h4⟩ <;> rcases g with ⟨g1, g2⟩ | ⟨c, g1, g2, g3, g4⟩
  · rw [h1, g1]
  · exact absurd g3 (h2 c g1)
  · exact absurd h3 (g2 b h1)
  · rcases Nat.lt_trichotomy b c with e | e | e
    · exact absurd g3 (h4 c e g1)
    · rw [h2, g2, e]
    · exact absurd h3 (g4 b e h1)
/-! handing on -/
/-- one value: as long as nothing has ended it -/
theorem cv_x {v a b : Int32} {z : cs_T} (hb : b.toInt ≠ 11) (h1 : a.toInt ≠ 10 → b.toInt = 10 → a.toInt = 1) (h2 : a.toInt = 1 → b.toInt = 10 → v.toInt = 0 ∨ (1 ≤ v.toInt ∧ v.toInt ≤ z.1.toInt)) : (cvX v a b z).2 = (tuF v a b z).2 ∧ ((tuF v a b z).2.2.1.toInt = 0 → (cvX v a b z).1 = (tuF v a b z).1) ∧ ((tuF v a b z).2.2.1.toInt ≠ 0 → (cvX v a b z).1 = 0) := by
  obtain ⟨tn, en, tt, ti, pl⟩ := z
  dsimp only at h2
  by_cases e : en.toInt ≠ 0
  · rw [cv_1 (Or.inl e)]
    by_cases q : a.toInt = 10 ∧ b.toInt ≠ 10
    · rw [tu_1 q, md_1 e]; exact ⟨rfl, fun _ => rfl, fun _ => rfl⟩
    · by_cases q2 : a.toInt ≠ 10 ∧ b.toInt = 10
      · rw [tu_4 q2 e]; exact ⟨rfl, fun _ => rfl, fun _ => rfl⟩
      · rw [tu_5 q q2]; exact ⟨rfl, fun w => absurd w e, fun _ => rfl⟩
  · have e0 : en.toInt = 0 := by omega
    have n1 : ¬ (en.toInt ≠ 0 ∨ b.toInt = 11) := by omega
    by_cases q : a.toInt = 10 ∧ b.toInt ≠ 10
    · rw [cv_2 n1 q, tu_1 q]
      refine ⟨rfl, fun _ => rfl, fun w => ?_⟩
      by_cases q3 : tn.toInt = 60
      · rw [md_2 ⟨e0, q3⟩]
      · unfold mdF at w ⊢
        rw [if_neg (fun z => z e0), if_neg q3] at w
        exact absurd e0 w
    · by_cases q2 : a.toInt ≠ 10 ∧ b.toInt = 10
      · have a1 := h1 q2.1 q2.2
        by_cases q3 : v.toInt = 0
        · rw [cv_3 n1 q ⟨a1, q2.2⟩ q3, tu_2 q2 ⟨e0, q3⟩]
          exact ⟨rfl, fun _ => rfl, fun _ => rfl⟩
        · have hv := (h2 a1 q2.2).resolve_left q3
          rw [cv_4 n1 q ⟨a1, q2.2⟩ q3 hv, tu_3 q2 (by omega) e0]
          exact ⟨rfl, fun _ => rfl, fun w => absurd e0 w⟩
      · rw [cv_5 n1 q (by omega), tu_5 q q2]
        exact ⟨rfl, fun _ => rfl, fun w => absurd e0 w⟩
theorem tu_e {v a b : Int32} {z : cs_T} (h : z.2.1.toInt ≠ 0) : (tuF v a b z).2 = z := by
  obtain ⟨tn, en, tt, ti, pl⟩ := z
  by_cases q : a.toInt = 10 ∧ b.toInt ≠ 10
  · rw [tu_1 q, md_1 h]
  · by_cases q2 : a.toInt ≠ 10 ∧ b.toInt = 10
    · rw [tu_4 q2 h]
    · rw [tu_5 q q2]
/-- what is handed on fits -/
def paR (ty : Int32) (ar fq pf : Nat → Int32) (tn : Int32) (s k : Nat) : Prop := (pf k).toInt ≠ 11 ∧ ((fq (s + k)).toInt ≠ 10 → (pf k).toInt = 10 → (fq (s + k)).toInt = 1) ∧ ((fq (s + k)).toInt = 1 → (ar (s + k)).toInt = 0 ∨ (1 ≤ (ar (s + k)).toInt ∧ (ar (s + k)).toInt ≤ tn.toInt))
theorem tu_le {v a b : Int32} {z : cs_T} (hz : tnB z) : z.1.toInt ≤ (tuF v a b z).2.1.toInt := (tu_x hz).1.1
/-- the arguments one by one -/
theorem c1_x {ty : Int32} {ar fa fq pf pm : Nat → Int32} {m f : Int32} {s : Nat} {sI tn : Int32} : ∀ (n k : Nat) (x y : (Nat → Int32) × cs_T), tnB y.2 → tn.toInt ≤ y.2.1.toInt → (∀ j : Nat, k ≤ j → j < k + n → paR ty ar fq pf tn s j ∧ ar (sI + nI j).toNatClampNeg = ar (s + j) ∧ fa (3 * f + sI + nI j).toNatClampNeg = fq (s + j) ∧ pm (3 * m + nI j).toNatClampNeg = pf j) → x.2 = y.2 → (y.2.2.1.toInt = 0 → ∀ j : Nat, j < k → x.1 j = y.1 j) →
    (cp1 ar fq pf s n k x).2 = (gv1 ar fa pm m f sI n k y).2 ∧ ((gv1 ar fa pm m f sI n k y).2.2.1.toInt = 0 → y.2.2.1.toInt = 0 ∧ ∀ j : Nat, j < k + n → (cp1 ar fq pf s n k x).1 j = (gv1 ar fa pm m f sI n k y).1 j) := by
  intro n
  induction n with
  | zero => intro k x y hz ht hP h1 h2; exact ⟨h1, fun w => ⟨w, fun j q => h2 w j (by omega)⟩⟩
  | succ n ih =>
    intro k x y hz ht hP h1 h2
    obtain ⟨⟨p1, p2, p3⟩, e1, e2, e3⟩ := hP k (Nat.le_refl k) (by omega)
    have hc := cv_x (v := ar (s + k)) (a := fq (s + k)) (b := pf k) (z := y.2) p1 p2 (fun w _ => (p3 w).imp id (fun q => ⟨q.1, by omega⟩))
    show (cp1 ar fq pf s n (k + 1) _).2 = (gv1 ar fa pm m f sI n (k + 1) _).2 ∧ ((gv1 ar fa pm m f sI n (k + 1) _).2.2.1.toInt = 0 → y.2.2.1.toInt = 0 ∧ ∀ j : Nat, j < k + (n + 1) → (cp1 ar fq pf s n (k + 1) _).1 j = (gv1 ar fa pm m f sI n (k + 1) _).1 j)
    rw [h1, e1, e2, e3]
    have hz2 := (tu_x (v := ar (s + k)) (a := fq (s + k)) (b := pf k) hz).2
    have hle := tu_le (v := ar (s + k)) (a := fq (s + k)) (b := pf k) hz
    obtain ⟨i1, i2⟩ := ih (k + 1) (upd x.1 k (cvX (ar (s + k)) (fq (s + k)) (pf k) y.2).1, (cvX (ar (s + k)) (fq (s + k)) (pf k) y.2).2) (upd y.1 k (tuF (ar (s + k)) (fq (s + k)) (pf k) y.2).1, (tuF (ar (s + k)) (fq (s + k)) (pf k) y.2).2) hz2 (Int.le_trans ht hle) (fun j q1 q2 => hP j (by omega) (by omega)) hc.1 (fun w j q => by
      dsimp only at w ⊢
      by_cases e : j = k
      · rw [e, updS, updS]; exact hc.2.1 w
      · rw [updN e, updN e]
        refine h2 ?_ j (by omega)
        rcases Classical.em (y.2.2.1.toInt = 0) with z | z
        · exact z
        · rw [tu_e z] at w; exact w)
    refine ⟨i1, fun w => ?_⟩
    obtain ⟨w1, w2⟩ := i2 w
    refine ⟨?_, fun j q => w2 j (by omega)⟩
    rcases Classical.em (y.2.2.1.toInt = 0) with z | z
    · exact z
    · dsimp only at w1; rw [tu_e z] at w1; exact w1
theorem tu_pl {v a b : Int32} {z : cs_T} {i : Nat} (h : z.2.2.2.2 i = 0) : (tuF v a b z).2.2.2.2.2 i = 0 := by
  obtain ⟨tn, en, tt, ti, pl⟩ := z
  dsimp only at h
  by_cases q : a.toInt = 10 ∧ b.toInt ≠ 10
  · rw [tu_1 q]
    unfold mdF
    split
    · exact h
    · split
      · exact h
      · show zP pl (tn + 1) i = 0
        unfold zP
        split
        · rfl
        · exact h
  · by_cases q2 : a.toInt ≠ 10 ∧ b.toInt = 10
    · by_cases q3 : en.toInt = 0 ∧ v.toInt = 0
      · rw [tu_2 q2 q3]; exact h
      · by_cases q4 : en.toInt = 0
        · rw [tu_3 q2 q3 q4]; exact h
        · rw [tu_4 q2 q4]; exact h
    · rw [tu_5 q q2]; exact h
theorem upd_0 {f : Nat → Int32} {i : Nat} (h : f i = 0) : upd f i 0 = f := funext fun j => by
  by_cases e : j = i
  · rw [e, updS, h]
  · rw [updN e]
/-- one place of the row -/
theorem st_x {row : Int32} {k i : Nat} {u c : Int32 × cs_T} (hrow : row.toInt = 0 ∨ ((1 ≤ row.toInt ∧ row.toInt ≤ u.2.1.toInt) ∧ u.2.2.2.2.2 (20 * row.toNatClampNeg + k) = 0)) (hk : k < 20) (hi : i = 20 * row.toNatClampNeg + k) (h1 : c.2 = u.2) (h2 : u.2.2.1.toInt = 0 → c.1 = u.1 ∧ 1 ≤ row.toInt) (h3 : u.2.2.1.toInt ≠ 0 → c.1 = 0) : setX row k c = pvF i u := by
  obtain ⟨cr, cz⟩ := c
  obtain ⟨ur, tn, en, tt, ti, pl⟩ := u
  dsimp only at h1 h2 h3 hrow
  subst h1
  subst hi
  by_cases e : en.toInt = 0
  · obtain ⟨h4, h5⟩ := h2 e
    rcases hrow with q | ⟨q, _⟩
    · omega
    · rw [set_1 ⟨q, hk⟩, pv_1 e, h4]
  · rw [pv_2 e, h3 e]
    rcases hrow with q | ⟨q, q2⟩
    · rw [set_2 (by omega)]
    · rw [set_1 ⟨q, hk⟩, upd_0 q2]
theorem pv_e {i : Nat} {u : Int32 × cs_T} : (pvF i u).1 = u.2.1 ∧ (pvF i u).2.1 = u.2.2.1 := by
  unfold pvF
  split
  · exact ⟨rfl, rfl⟩
  · exact ⟨rfl, rfl⟩
theorem c2_x {ty : Int32} {ar fa fq my pm : Nat → Int32} {m f sI pn row part tn : Int32} {s p0 : Nat} (hb : part.toInt ≠ 11) : ∀ (n k : Nat) (z : cs_T), tnB z → tn.toInt ≤ z.1.toInt → k + n ≤ 20 → (∀ j : Nat, k ≤ j → j < k + n → ((fq (s + j)).toInt ≠ 10 → part.toInt = 10 → (fq (s + j)).toInt = 1) ∧ ((fq (s + j)).toInt = 1 → (ar (s + j)).toInt = 0 ∨ (1 ≤ (ar (s + j)).toInt ∧ (ar (s + j)).toInt ≤ tn.toInt)) ∧ ar (sI + nI (p0 + j)).toNatClampNeg = ar (s + j) ∧ fa (3 * f + sI + nI (p0 + j)).toNatClampNeg = fq (s + j) ∧ plV my pm m (nI (p0 + j)) = part ∧ (row.toInt ≠ 0 → (20 * row + nI (p0 + j) - pn).toNatClampNeg = 20 * row.toNatClampNeg + j)) → (0 ≤ row.toInt) → (row.toInt = 0 ∨ ((1 ≤ row.toInt ∧ row.toInt ≤ z.1.toInt) ∧ ∀ j : Nat, k ≤ j → j < 20 → z.2.2.2.2 (20 * row.toNatClampNeg + j) = 0)) → (z.2.1.toInt = 0 → 1 ≤ row.toInt) →
    cp2 ar fq s row part n k z = gv2 ar fa my pm m f sI pn row n (p0 + k) z ∧ ((gv2 ar fa my pm m f sI pn row n (p0 + k) z).2.1.toInt = 0 → z.2.1.toInt = 0) := by
  intro n
  induction n with
  | zero => intro k z _ _ _ _ _ _ _; exact ⟨rfl, fun w => w⟩
  | succ n ih =>
    intro k z hz ht hk hP hr0 hrow h0
    obtain ⟨p2, p3, e1, e2, e3, e4⟩ := hP k (Nat.le_refl k) (by omega)
    have hc := cv_x (v := ar (s + k)) (a := fq (s + k)) (b := part) (z := z) hb p2 (fun w _ => (p3 w).imp id (fun q => ⟨q.1, by omega⟩))
    have hz2 := (tu_x (v := ar (s + k)) (a := fq (s + k)) (b := part) hz).2
    have hle := tu_le (v := ar (s + k)) (a := fq (s + k)) (b := part) hz
    show cp2 ar fq s row part n (k + 1) _ = gv2 ar fa my pm m f sI pn row n (p0 + k + 1) _ ∧ ((gv2 ar fa my pm m f sI pn row n (p0 + k + 1) _).2.1.toInt = 0 → _)
    rw [e1, e2, e3]
    have hend : (tuF (ar (s + k)) (fq (s + k)) part z).2.2.1.toInt = 0 → z.2.1.toInt = 0 := fun w => by
      rcases Classical.em (z.2.1.toInt = 0) with q | q
      · exact q
      · rw [tu_e q] at w; exact w
    have hst : setX row k (cvX (ar (s + k)) (fq (s + k)) part z) = pvF (20 * row + nI (p0 + k) - pn).toNatClampNeg (tuF (ar (s + k)) (fq (s + k)) part z) := by
      rcases hrow with q | ⟨q, q2⟩
      · have hne : (tuF (ar (s + k)) (fq (s + k)) part z).2.2.1.toInt ≠ 0 := fun w => by have := h0 (hend w); omega
        generalize tuF (ar (s + k)) (fq (s + k)) part z = u at *
        generalize cvX (ar (s + k)) (fq (s + k)) part z = c at *
        obtain ⟨cr, tn2, en2, x2⟩ := c
        obtain ⟨ur, uz⟩ := u
        dsimp only at hc hne ⊢
        rw [set_2 (by omega), pv_2 hne]
        exact hc.1
      · exact st_x (Or.inr ⟨⟨q.1, by omega⟩, tu_pl (q2 k (Nat.le_refl k) (by omega))⟩) (by omega) (e4 (by omega)) hc.1 (fun w => ⟨hc.2.1 w, q.1⟩) hc.2.2
    rw [hst]
    generalize hu : tuF (ar (s + k)) (fq (s + k)) part z = u at *
    have hpe := pv_e (i := (20 * row + nI (p0 + k) - pn).toNatClampNeg) (u := u)
    have hpv := pv_x (i := (20 * row + nI (p0 + k) - pn).toNatClampNeg) (x := u)
    obtain ⟨i1, i2⟩ := ih (k + 1) (pvF (20 * row + nI (p0 + k) - pn).toNatClampNeg u) (hpv.2 hz2) (by rw [hpe.1]; exact Int.le_trans ht hle) (by omega) (fun j q1 q2 => hP j (by omega) (by omega)) hr0 (by
      rcases hrow with q | ⟨q, q2⟩
      · exact Or.inl q
      · refine Or.inr ⟨⟨q.1, by rw [hpe.1]; exact Int.le_trans q.2 hle⟩, fun j w1 w2 => ?_⟩
        have hj : u.2.2.2.2.2 (20 * row.toNatClampNeg + j) = 0 := by rw [← hu]; exact tu_pl (q2 j (by omega) w2)
        unfold pvF
        split
        · show upd u.2.2.2.2.2 _ u.1 (20 * row.toNatClampNeg + j) = 0
          rw [e4 (by omega), updN (by omega)]
          exact hj
        · exact hj) (fun w => h0 (hend (by rw [hpe.2] at w; exact w)))
    refine ⟨i1, fun w => hend ?_⟩
    have := i2 w
    rw [hpe.2] at this
    exact this
/-- what is handed on to a member -/
theorem ha_x {ty : Int32} {ar fa fq pf fy my pm : Nat → Int32} {m f sI p ip tn : Int32} {n nq s : Nat} {x y : (Nat → Int32) × cs_T} (hxy : x.2 = y.2) (hz : tnB y.2) (ht : tn.toInt = y.2.1.toInt) (hn3 : n ≤ 3) (hq3 : nq ≤ 3) (hs : s ≤ 1) (hmy : (my m.toNatClampNeg).toInt = (n : Int)) (hfy : (fy f.toNatClampNeg).toInt = (nq : Int)) (hsI : sI = nI s) (hip : ip.toInt ≠ 0 ↔ p.toInt = 3)
    (hnq : (p.toInt ≠ 3 ∧ (n : Int) = (nq : Int) - s) ∨ (p.toInt = 3 ∧ 1 ≤ n ∧ (n : Int) ≤ (nq : Int) - s + 1))
    (hP : ∀ j : Nat, s + j < nq → ((fq (s + j)).toInt = 1 → (ar (s + j)).toInt = 0 ∨ (1 ≤ (ar (s + j)).toInt ∧ (ar (s + j)).toInt ≤ tn.toInt)) ∧ ar (sI + nI j).toNatClampNeg = ar (s + j) ∧ fa (3 * f + sI + nI j).toNatClampNeg = fq (s + j) ∧ (j < (if p.toInt = 3 then n - 1 else n) → (pf j).toInt ≠ 11 ∧ ((fq (s + j)).toInt ≠ 10 → (pf j).toInt = 10 → (fq (s + j)).toInt = 1)) ∧ (p.toInt = 3 → n - 1 ≤ j → (plV my pm m (nI j)).toInt ≠ 11 ∧ ((fq (s + j)).toInt ≠ 10 → (plV my pm m (nI j)).toInt = 10 → (fq (s + j)).toInt = 1)))
    (hpf : ∀ j : Nat, j < n → pm (3 * m + nI j).toNatClampNeg = pf j) (hpl : p.toInt = 3 → ∀ j : Nat, n - 1 ≤ j → j < 3 → plV my pm m (nI j) = prX (pf (n - 1))) (hpr : p.toInt = 3 → (prX (pf (n - 1))).toInt ≠ 11) :
    (haX ar fq pf n nq s ip x).2 = (gvF ar fa fy my pm m f sI p y).2 ∧ ((gvF ar fa fy my pm m f sI p y).2.2.1.toInt = 0 → y.2.2.1.toInt = 0 ∧ ∀ j : Nat, j < n → (haX ar fq pf n nq s ip x).1 j = (gvF ar fa fy my pm m f sI p y).1 j) := by
  have hmN : (my m.toNatClampNeg).toNatClampNeg = n := tN hmy
  have hsi := nI_toInt (n := s) (by omega)
  by_cases h3 : p.toInt = 3
  · obtain ⟨w1, w2⟩ : 1 ≤ n ∧ (n : Int) ≤ (nq : Int) - s + 1 := by omega
    have hm1 : (my m.toNatClampNeg - 1).toInt = (n : Int) - 1 := by rw [iSub (x := (my m.toNatClampNeg).toInt) (y := 1) rfl (by decide) (by omega) (by omega)]; omega
    have hm1N : (my m.toNatClampNeg - 1).toNatClampNeg = n - 1 := tN (by omega)
    have hpn : my m.toNatClampNeg - 1 = nI (n - 1) := xJ (by rw [nI_toInt (by omega)]; omega)
    have efs : (fy f.toNatClampNeg - sI).toInt = (nq : Int) - s := by rw [hsI, iSub (x := (fy f.toNatClampNeg).toInt) (y := (s : Int)) rfl hsi (by omega) (by omega)]; omega
    have eam : fy f.toNatClampNeg - sI - (my m.toNatClampNeg - 1) = nI nq - nI (s + (n - 1)) := by
      refine xJ ?_
      rw [iSub (x := (nq : Int) - s) (y := (n : Int) - 1) efs hm1 (by omega) (by omega), iSub (x := (nq : Int)) (y := ((s + (n - 1) : Nat) : Int)) (nI_toInt (by omega)) (nI_toInt (by omega)) (by omega) (by omega)]
      omega
    have ecn : (fy f.toNatClampNeg - sI).toNatClampNeg - (n - 1) = nq - (s + (n - 1)) := by rw [tN (e := fy f.toNatClampNeg - sI) (z := nq - s) (by omega)]; omega
    have t2 : 0 + (nq - (s + (n - 1))) ≤ 20 := by omega
    have t10 : ∀ j : Nat, j < 0 + (n - 1) → s + j < nq ∧ j < n - 1 ∧ j < n := fun j q => by omega
    have t9 : ∀ j : Nat, j < n → ¬ j = n - 1 → j < 0 + (n - 1) := fun j q e => by omega
    have t3 : ∀ j : Nat, j < 0 + (nq - (s + (n - 1))) → s + (n - 1 + j) < nq ∧ n - 1 ≤ n - 1 + j ∧ n - 1 + j < 3 := fun j q => by omega
    unfold haX gvF
    rw [if_pos ⟨hip.mpr h3, w1⟩, if_neg (by omega)]
    dsimp only
    rw [hm1N, eam, ecn, hpn, hpf (n - 1) (by omega), show min (n - 1) (nq - s) = n - 1 by omega]
    obtain ⟨g1, g2⟩ := c1_x (ty := ty) (ar := ar) (fa := fa) (fq := fq) (pf := pf) (pm := pm) (m := m) (f := f) (s := s) (sI := sI) (tn := tn) (n - 1) 0 x y hz (Int.le_of_eq ht) (fun j _ q => by
      obtain ⟨m1, m2, m3⟩ := t10 j q
      obtain ⟨k1, k2, k3, k4, _⟩ := hP j m1
      rw [if_pos h3] at k4
      obtain ⟨k5, k6⟩ := k4 m2
      exact ⟨⟨k5, k6, k1⟩, k2, k3, hpf j m3⟩) hxy (fun _ j q => absurd q (Nat.not_lt_zero j))
    have gb := g1_x (ar := ar) (fa := fa) (pm := pm) (m := m) (f := f) (s := sI) (n - 1) 0 y hz
    generalize hA : cp1 ar fq pf s (n - 1) 0 x = A at *
    generalize hB : gv1 ar fa pm m f sI (n - 1) 0 y = B at *
    rw [g1]
    have mb := md_x (t := pf (n - 1)) (v := nI nq - nI (s + (n - 1))) gb.2.1
    have mi := md_i (t := pf (n - 1)) (v := nI nq - nI (s + (n - 1))) gb.2.1
    have mz : (mdF (pf (n - 1)) (nI nq - nI (s + (n - 1))) B.2).1.toInt ≠ 0 → ∀ j : Nat, j < 20 → (mdF (pf (n - 1)) (nI nq - nI (s + (n - 1))) B.2).2.2.2.2.2 (20 * (mdF (pf (n - 1)) (nI nq - nI (s + (n - 1))) B.2).1.toNatClampNeg + j) = 0 := fun w j q => by
      have e := (mi w).2.2
      unfold mdF at w ⊢
      split
      · next e1 => rw [if_pos e1] at w; exact absurd (by decide : (0 : Int32).toInt = 0) w
      · next e1 =>
        rw [if_neg e1] at w
        split
        · next e2 => rw [if_pos e2] at w; exact absurd (by decide : (0 : Int32).toInt = 0) w
        · show zP _ _ _ = 0
          unfold zP
          rw [if_pos (by dsimp only; omega)]
    have me : (mdF (pf (n - 1)) (nI nq - nI (s + (n - 1))) B.2).2.2.1.toInt = 0 → 1 ≤ (mdF (pf (n - 1)) (nI nq - nI (s + (n - 1))) B.2).1.toInt ∧ B.2.2.1.toInt = 0 := fun w => by
      have hb0 := gb.2.1
      unfold tnB at hb0
      unfold mdF at w ⊢
      split
      · next e1 => rw [if_pos e1] at w; exact absurd w e1
      · next e1 =>
        rw [if_neg e1] at w
        split
        · next e2 => rw [if_pos e2] at w; exact absurd (show (-2 : Int32).toInt = 0 from w) (by decide)
        · refine ⟨?_, by omega⟩
          show 1 ≤ (B.2.1 + 1).toInt
          rw [iAdd (x := B.2.1.toInt) (y := 1) rfl (by decide) (by omega) (by omega)]
          omega
    have ml : ∀ w : (mdF (pf (n - 1)) (nI nq - nI (s + (n - 1))) B.2).1.toInt ≠ 0, (mdF (pf (n - 1)) (nI nq - nI (s + (n - 1))) B.2).1.toInt ≤ (mdF (pf (n - 1)) (nI nq - nI (s + (n - 1))) B.2).2.1.toInt := fun w => by rw [(mi w).2.2]; exact Int.le_refl _
    have mge := mb.1.1
    generalize hC : mdF (pf (n - 1)) (nI nq - nI (s + (n - 1))) B.2 = C at *
    have hx0 : tn.toInt ≤ B.2.1.toInt := by have := gb.1.1; omega
    obtain ⟨q1, q2⟩ := c2_x (ty := ty) (ar := ar) (fa := fa) (fq := fq) (my := my) (pm := pm) (m := m) (f := f) (sI := sI) (pn := nI (n - 1)) (row := C.1) (part := prX (pf (n - 1))) (tn := tn) (s := s + (n - 1)) (p0 := n - 1) (hpr h3) (nq - (s + (n - 1))) 0 C.2 mb.2.1 (Int.le_trans hx0 mge) t2 (fun j _ q => by
      obtain ⟨t4, t5, t6⟩ := t3 j q
      obtain ⟨k1, k2, k3, _, k5⟩ := hP (n - 1 + j) t4
      have k6 := k5 h3 t5
      have e := hpl h3 (n - 1 + j) t5 t6
      rw [e] at k6
      rw [Nat.add_assoc s (n - 1) j]
      refine ⟨k6.2, k1, k2, k3, e, fun w => ?_⟩
      have hb2 := mb.2.2
      have hrx := xN hb2.1
      have e1 : (20 * C.1).toInt = 20 * C.1.toInt := iMul (by decide) rfl (by omega) (by omega)
      have e2 : (20 * C.1 + nI (n - 1 + j)).toInt = 20 * C.1.toInt + ((n - 1 + j : Nat) : Int) := iAdd e1 (nI_toInt (by omega)) (by omega) (by omega)
      have e3 : (20 * C.1 + nI (n - 1 + j) - nI (n - 1)).toInt = 20 * C.1.toInt + ((n - 1 + j : Nat) : Int) - ((n - 1 : Nat) : Int) := iSub e2 (nI_toInt (by omega)) (by omega) (by omega)
      exact tN (by omega)) mb.2.2.1 (by
        rcases Classical.em (C.1.toInt = 0) with w | w
        · exact Or.inl w
        · exact Or.inr ⟨⟨by have := mb.2.2.1; omega, ml w⟩, fun j _ w2 => mz w j w2⟩) (fun w => (me w).1)
    rw [Nat.add_zero] at q1 q2
    have hnc : (nI (n - 1)).toNatClampNeg = n - 1 := nI_c (by omega)
    rw [hnc] at *
    refine ⟨q1, fun w => ?_⟩
    have w3 := q2 w
    obtain ⟨w4, w5⟩ := me w3
    obtain ⟨w6, w7⟩ := g2 w5
    refine ⟨w6, fun j q => ?_⟩
    by_cases e : j = n - 1
    · rw [e, updS, updS]
    · rw [updN e, updN e]
      exact w7 j (t9 j q e)
  · have t11 : ∀ j : Nat, j < 0 + n → s + j < nq ∧ j < n := fun j q => by omega
    unfold haX gvF
    rw [if_neg (by omega), if_pos h3, hmN, if_neg (fun w => h3 (hip.mp w)), show min n (nq - s) = n by omega]
    obtain ⟨g1, g2⟩ := c1_x (ty := ty) (ar := ar) (fa := fa) (fq := fq) (pf := pf) (pm := pm) (m := m) (f := f) (s := s) (sI := sI) (tn := tn) n 0 x y hz (Int.le_of_eq ht) (fun j _ q => by
      obtain ⟨m1, m2⟩ := t11 j q
      obtain ⟨k1, k2, k3, k4, _⟩ := hP j m1
      rw [if_neg h3] at k4
      obtain ⟨k5, k6⟩ := k4 m2
      exact ⟨⟨k5, k6, k1⟩, k2, k3, hpf j m2⟩) hxy (fun _ j q => absurd q (Nat.not_lt_zero j))
    exact ⟨g1, fun w => ⟨(g2 w).1, fun j q => (g2 w).2 j (by rw [Nat.zero_add]; exact q)⟩⟩
