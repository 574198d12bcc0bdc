/-! what the types' order is -/
theorem uR_more {f : Nat → Int32} (hd : paD f) (y : Int32) : ∀ (n : Nat) (x : Int32), (x.toInt < n ∨ 9 < x.toInt) → ∀ m : Nat, n ≤ m → uR f m x y = uR f n x y := by
  intro n
  induction n with
  | zero =>
    intro x hx m hm
    by_cases e : x.toInt = y.toInt
    · rw [uR_eq e, uR_eq e]
    · rw [uR_out e (by omega), uR_out e (by omega)]
  | succ n ih =>
    intro x hx m hm
    by_cases e : x.toInt = y.toInt
    · rw [uR_eq e, uR_eq e]
    · by_cases e2 : 0 ≤ x.toInt ∧ x.toInt ≤ 9
      · obtain ⟨m, rfl⟩ : ∃ q, m = q + 1 := ⟨m - 1, by omega⟩
        rw [uR_step e e2.1 e2.2, uR_step e e2.1 e2.2]
        have hx2 := xN e2.1
        have := hd x.toNatClampNeg (by omega)
        exact ih _ (by omega) m (by omega)
      · rw [uR_out e (by omega), uR_out e (by omega)]
theorem uR_u {f : Nat → Int32} (hd : paD f) {x y : Int32} : uR f 11 x y = true ↔ x = y ∨ ((0 ≤ x.toInt ∧ x.toInt ≤ 9) ∧ uR f 11 (f x.toNatClampNeg) y = true) := by
  by_cases e : x.toInt = y.toInt
  · exact ⟨fun _ => Or.inl (xJ e), fun _ => uR_eq e⟩
  · by_cases e2 : 0 ≤ x.toInt ∧ x.toInt ≤ 9
    · have hx2 := xN e2.1
      have := hd x.toNatClampNeg (by omega)
      rw [uR_step e e2.1 e2.2, ← uR_more hd y 10 _ (by omega) 11 (by omega)]
      exact ⟨fun q => Or.inr ⟨e2, q⟩, fun q => q.elim (fun q => absurd (by rw [q]) e) (fun q => q.2)⟩
    · rw [uR_out e (by omega)]
      exact ⟨fun q => Bool.noConfusion q, fun q => q.elim (fun q => absurd (by rw [q]) e) (fun q => absurd q.1 e2)⟩
theorem uR_tr {f : Nat → Int32} (hd : paD f) {y z : Int32} (h2 : uR f 11 y z = true) : ∀ (n : Nat) (x : Int32), (x.toInt < n ∨ 9 < x.toInt) → uR f 11 x y = true → uR f 11 x z = true := by
  intro n
  induction n with
  | zero =>
    intro x hx h
    rcases (uR_u hd).mp h with h | h
    · rw [h]; exact h2
    · omega
  | succ n ih =>
    intro x hx h
    rcases (uR_u hd).mp h with h | ⟨h, h3⟩
    · rw [h]; exact h2
    · have hx2 := xN h.1
      have := hd x.toNatClampNeg (by omega)
      exact (uR_u hd).mpr (Or.inr ⟨h, ih _ (by omega) h3⟩)
theorem uR_le {f : Nat → Int32} (hd : paD f) {y : Int32} : ∀ (n : Nat) (x : Int32), (x.toInt < n ∨ 9 < x.toInt) → uR f 11 x y = true → y.toInt ≤ x.toInt ∧ (9 < x.toInt → y = x) := by
  intro n
  induction n with
  | zero =>
    intro x hx h
    rcases (uR_u hd).mp h with h | h
    · rw [h]; exact ⟨Int.le_refl _, fun _ => rfl⟩
    · omega
  | succ n ih =>
    intro x hx h
    rcases (uR_u hd).mp h with h | ⟨h, h3⟩
    · rw [h]; exact ⟨Int.le_refl _, fun _ => rfl⟩
    · have hx2 := xN h.1
      have := hd x.toNatClampNeg (by omega)
      have := (ih _ (by omega) h3).1
      exact ⟨by omega, fun q => by omega⟩
theorem uR_ln {f : Nat → Int32} (hd : paD f) {a b : Int32} : ∀ (n : Nat) (x : Int32), (x.toInt < n ∨ 9 < x.toInt) → uR f 11 x a = true → uR f 11 x b = true → uR f 11 a b = true ∨ uR f 11 b a = true := by
  intro n
  induction n with
  | zero =>
    intro x hx h h2
    rcases (uR_u hd).mp h with h | h
    · rw [← h]; exact Or.inl h2
    · omega
  | succ n ih =>
    intro x hx h h2
    rcases (uR_u hd).mp h with e | ⟨e, h3⟩
    · rw [← e]; exact Or.inl h2
    · rcases (uR_u hd).mp h2 with e2 | ⟨_, h4⟩
      · rw [← e2]; exact Or.inr h
      · have hx2 := xN e.1
        have := hd x.toNatClampNeg (by omega)
        exact ih _ (by omega) h3 h4
theorem x_fuel (x : Int32) : x.toInt < (10 : Nat) ∨ 9 < x.toInt := by omega
theorem uR_le' {f : Nat → Int32} (hd : paD f) {x y : Int32} (h : uR f 11 x y = true) : y.toInt ≤ x.toInt ∧ (9 < x.toInt → y = x) := uR_le hd 10 x (x_fuel x) h
theorem uM_c {f : Nat → Int32} {a b : Int32} (h : a.toInt < 20) : uM f a b = uR f 11 a b := uM_3 (by omega) (by omega)
/-- what is under one that is under another is under it -/
theorem uM_tr {f : Nat → Int32} (hd : paD f) {a b c : Int32} (h : uM f a b = true) (h2 : uM f b c = true) (hc : 0 ≤ c.toInt) : uM f a c = true := by
  have z0 : (0 : Int32).toInt = 0 := by decide
  by_cases e : a.toInt < 20
  · rw [uM_c e] at h ⊢
    have hb := (uR_le' hd h).1
    rw [uM_c (by omega)] at h2
    exact uR_tr hd h2 10 a (x_fuel a) h
  · by_cases eb : b.toInt = 0
    · rw [uM_c (by omega)] at h2
      have := (uR_le' hd h2).1
      unfold uM; rw [if_pos (by omega)]
    · by_cases ec : c.toInt = 0
      · unfold uM; rw [if_pos (by omega)]
      · by_cases er : (20 ≤ a.toInt ∧ a.toInt ≤ 29) ∧ (20 ≤ b.toInt ∧ b.toInt ≤ 29)
        · rw [uM_2 (by omega) er] at h
          by_cases er2 : 20 ≤ c.toInt ∧ c.toInt ≤ 29
          · rw [uM_2 (by omega) ⟨er.2, er2⟩] at h2
            rw [uM_2 (by omega) ⟨er.1, er2⟩]
            exact uR_tr hd h2 10 _ (x_fuel _) h
          · rw [uM_3 (by omega) (by omega)] at h2
            have := (uR_le' hd h2).2 (by omega)
            rw [this] at er2
            omega
        · rw [uM_3 (by omega) er] at h
          have := (uR_le' hd h).2 (by omega)
          rw [this] at h2
          exact h2
theorem uM_30 {f : Nat → Int32} (hd : paD f) {a b : Int32} (hb : b.toInt = 30 ∨ b.toInt = 10) (h : uM f a b = true) : a = b := by
  rw [uM_3 (by omega) (by omega)] at h
  have := uR_le' hd h
  by_cases e : 9 < a.toInt
  · exact (this.2 e).symm
  · omega
/-! what is added to things -/
def exX (z y : cs_T) : Prop := z.1.toInt ≤ y.1.toInt ∧ ∀ i : Nat, (i : Int) ≤ z.1.toInt → y.2.2.1 i = z.2.2.1 i ∧ y.2.2.2.1 i = z.2.2.2.1 i
def tnB (z : cs_T) : Prop := 0 ≤ z.1.toInt ∧ z.1.toInt ≤ 60
theorem ex_r (z : cs_T) : exX z z := ⟨Int.le_refl _, fun _ _ => ⟨rfl, rfl⟩⟩
theorem ex_t {x y z : cs_T} (h : exX x y) (h2 : exX y z) : exX x z := ⟨by have := h.1; have := h2.1; omega, fun i q => ⟨((h2.2 i (by have := h.1; omega)).1).trans (h.2 i q).1, ((h2.2 i (by have := h.1; omega)).2).trans (h.2 i q).2⟩⟩
theorem md_x {t v : Int32} {z : cs_T} (hz : tnB z) : exX z (mdF t v z).2 ∧ tnB (mdF t v z).2 ∧ (0 ≤ (mdF t v z).1.toInt ∧ (mdF t v z).1.toInt ≤ 60) := by
  refine ⟨?_, (md_b hz).2.1, (md_b hz).1⟩
  unfold mdF
  split
  · exact ex_r z
  · split
    · exact ⟨Int.le_refl _, fun _ _ => ⟨rfl, rfl⟩⟩
    · have hz1 := hz.1
      have hz2 := hz.2
      have z1 : (z.1 + 1).toInt = z.1.toInt + 1 := iAdd rfl (by decide) (by omega) (by omega)
      have z2 := xN (x := z.1 + 1) (by omega)
      refine ⟨by dsimp only; omega, fun i q => ⟨?_, ?_⟩⟩
      · exact updN (by omega)
      · exact updN (by omega)
/-- a thing that was made has what it was made with -/
theorem md_i {t v : Int32} {z : cs_T} (hz : tnB z) (h : (mdF t v z).1.toInt ≠ 0) : (mdF t v z).2.2.2.2.1 (mdF t v z).1.toNatClampNeg = v ∧ (mdF t v z).2.2.2.1 (mdF t v z).1.toNatClampNeg = t ∧ (mdF t v z).1 = (mdF t v z).2.1 := by
  unfold mdF at h ⊢
  split
  · next e => rw [if_pos e] at h; exact absurd (by decide : (0 : Int32).toInt = 0) h
  · next e =>
    rw [if_neg e] at h
    split
    · next e2 => rw [if_pos e2] at h; exact absurd (by decide : (0 : Int32).toInt = 0) h
    · exact ⟨updS, updS, rfl⟩
theorem tu_x {v a b : Int32} {z : cs_T} (hz : tnB z) : exX z (tuF v a b z).2 ∧ tnB (tuF v a b z).2 := by
  refine ⟨?_, (tu_b hz).1⟩
  unfold tuF
  split
  · exact (md_x hz).1
  · split
    · split
      · exact ⟨Int.le_refl _, fun _ _ => ⟨rfl, rfl⟩⟩
      · split
        · exact ex_r z
        · exact ex_r z
    · exact ex_r z
theorem pv_x {i : Nat} {x : Int32 × cs_T} : exX x.2 (pvF i x) ∧ (tnB x.2 → tnB (pvF i x)) := by
  unfold pvF
  split
  · exact ⟨⟨Int.le_refl _, fun _ _ => ⟨rfl, rfl⟩⟩, fun h => h⟩
  · exact ⟨ex_r _, fun h => h⟩
theorem g2_x {ar fa my pm : Nat → Int32} {m f s pn row : Int32} : ∀ (n k : Nat) (z : cs_T), tnB z → exX z (gv2 ar fa my pm m f s pn row n k z) ∧ tnB (gv2 ar fa my pm m f s pn row n k z) := by
  intro n
  induction n with
  | zero => intro k z hz; exact ⟨ex_r z, hz⟩
  | succ n ih =>
    intro k z hz
    have h1 := tu_x (v := ar (s + nI k).toNatClampNeg) (a := fa (3 * f + s + nI k).toNatClampNeg) (b := plV my pm m (nI k)) hz
    have h2 := pv_x (i := (20 * row + nI k - pn).toNatClampNeg) (x := tuF (ar (s + nI k).toNatClampNeg) (fa (3 * f + s + nI k).toNatClampNeg) (plV my pm m (nI k)) z)
    have h3 := ih (k + 1) _ (h2.2 h1.2)
    exact ⟨ex_t (ex_t h1.1 h2.1) h3.1, h3.2⟩
/-- what the k-th place got, and when -/
def gtP (ar fa pm : Nat → Int32) (m f s : Int32) (z y : cs_T) (j : Nat) (g : Int32) : Prop := ∃ zj : cs_T, tnB zj ∧ exX z zj ∧ exX (tuF (ar (s + nI j).toNatClampNeg) (fa (3 * f + s + nI j).toNatClampNeg) (pm (3 * m + nI j).toNatClampNeg) zj).2 y ∧ g = (tuF (ar (s + nI j).toNatClampNeg) (fa (3 * f + s + nI j).toNatClampNeg) (pm (3 * m + nI j).toNatClampNeg) zj).1
theorem g1_x {ar fa pm : Nat → Int32} {m f s : Int32} : ∀ (n k : Nat) (x : (Nat → Int32) × cs_T), tnB x.2 → exX x.2 (gv1 ar fa pm m f s n k x).2 ∧ tnB (gv1 ar fa pm m f s n k x).2 ∧ (∀ j : Nat, j < k → (gv1 ar fa pm m f s n k x).1 j = x.1 j) ∧ (∀ j : Nat, k ≤ j → j < k + n → gtP ar fa pm m f s x.2 (gv1 ar fa pm m f s n k x).2 j ((gv1 ar fa pm m f s n k x).1 j)) := by
  intro n
  induction n with
  | zero => intro k x hz; exact ⟨ex_r _, hz, fun _ _ => rfl, fun j q1 q2 => by omega⟩
  | succ n ih =>
    intro k x hz
    have h1 := tu_x (v := ar (s + nI k).toNatClampNeg) (a := fa (3 * f + s + nI k).toNatClampNeg) (b := pm (3 * m + nI k).toNatClampNeg) hz
    obtain ⟨i1, i2, i3, i4⟩ := ih (k + 1) (upd x.1 k (tuF (ar (s + nI k).toNatClampNeg) (fa (3 * f + s + nI k).toNatClampNeg) (pm (3 * m + nI k).toNatClampNeg) x.2).1, (tuF (ar (s + nI k).toNatClampNeg) (fa (3 * f + s + nI k).toNatClampNeg) (pm (3 * m + nI k).toNatClampNeg) x.2).2) h1.2
    refine ⟨ex_t h1.1 i1, i2, fun j q => (i3 j (by omega)).trans (updN (by omega)), fun j q1 q2 => ?_⟩
    rcases Nat.eq_or_lt_of_le q1 with e | e
    · subst e
      exact ⟨x.2, hz, ex_r _, i1, (i3 k (by omega)).trans updS⟩
    · obtain ⟨zj, j0, j1, j2, j3⟩ := i4 j e (by omega)
      exact ⟨zj, j0, ex_t h1.1 j1, j2, j3⟩
theorem nI_c {k : Nat} (h : k < 1000) : (nI k).toNatClampNeg = k := nI_clamp (by omega)
/-- what one place got can be summed -/
theorem gt_one {pa ar fa pm tt ti : Nat → Int32} {m f s tn : Int32} {z y : cs_T} {j : Nat} {g : Int32} (hd : paD pa) (hz : tnB z) (htn : z.1 = tn ∧ z.2.2.1 = tt ∧ z.2.2.2.1 = ti) (h : gtP ar fa pm m f s z y j g)
  (hg : (fa (3 * f + s + nI j).toNatClampNeg).toInt ≠ 10 → ((ar (s + nI j).toNatClampNeg).toInt = 0 ∨ ((1 ≤ (ar (s + nI j).toNatClampNeg).toInt ∧ (ar (s + nI j).toNatClampNeg).toInt ≤ tn.toInt) ∧ uM pa (tt (ar (s + nI j).toNatClampNeg).toNatClampNeg) (fa (3 * f + s + nI j).toNatClampNeg) = true)))
  (hl : lM pa (fa (3 * f + s + nI j).toNatClampNeg) (pm (3 * m + nI j).toNatClampNeg)) (hth : ∀ i : Nat, 1 ≤ i → (i : Int) ≤ tn.toInt → 20 ≤ (tt i).toInt → 0 ≤ (ti i).toInt ∧ (ti i).toInt ≤ 20) :
  ((pm (3 * m + nI j).toNatClampNeg).toInt = 1 → 0 ≤ g.toInt ∧ g.toInt ≤ 60) ∧ ((pm (3 * m + nI j).toNatClampNeg).toInt = 30 → g.toInt ≠ 0 → (0 ≤ g.toInt ∧ g.toInt ≤ 60) ∧ 0 ≤ (y.2.2.2.1 g.toNatClampNeg).toInt ∧ (y.2.2.2.1 g.toNatClampNeg).toInt ≤ 20) := by
  obtain ⟨zj, j0, j1, j2, j3⟩ := h
  obtain ⟨rfl, rfl, rfl⟩ := htn
  have hz1 := hz.1
  have hz2 := hz.2
  constructor
  · intro q
    by_cases e : (fa (3 * f + s + nI j).toNatClampNeg).toInt = 10
    · rw [j3, tu_1 ⟨e, by omega⟩]; exact (md_x j0).2.2
    · rw [j3, tu_5 (by omega) (by omega)]
      have := hg e
      dsimp only
      omega
  · intro q q2
    have e : (fa (3 * f + s + nI j).toNatClampNeg).toInt = 30 := by
      rcases hl with hl | ⟨hl, hl2⟩ | ⟨hl, hl2⟩
      · have := uM_30 hd (Or.inl q) hl; rw [this]; exact q
      · have := uM_30 hd (Or.inl q) hl2; rw [← this] at q; exact absurd q (by decide)
      · omega
    rw [tu_5 (by omega) (by omega)] at j3 j2
    dsimp only at j3 j2
    subst j3
    rcases hg (by omega) with hg | ⟨hg, hg2⟩
    · exact absurd hg q2
    · have e2 := uM_30 hd (Or.inl e) hg2
      have hx := xN (x := ar (s + nI j).toNatClampNeg) (by omega)
      have hy := ((ex_t j1 j2).2 (ar (s + nI j).toNatClampNeg).toNatClampNeg (by omega)).2
      rw [hy]
      exact ⟨by omega, hth _ (by omega) (by omega) (by rw [e2]; omega)⟩
