section
/-! what the types' order is -/
theorem uR_more {f : Nat → Int32} (hd : paD f) (y : Int32) : ∀ (n : Nat) (x : Int32), (x.toInt < n ∨ 9 < x.toInt) → ∀ m : Nat, n ≤ m → uR f m x y = uR f n x y := by
  intro n
  induction n with
  | zero =>
    intro x hx m hm
    by_cases e : x.toInt = y.toInt
    · rw [uR_eq e, uR_eq e]
    · rw [uR_out e (by omega), uR_out e (by omega)]
  | succ n ih =>
    intro x hx m hm
    by_cases e : x.toInt = y.toInt
    · rw [uR_eq e, uR_eq e]
    · by_cases e2 : 0 ≤ x.toInt ∧ x.toInt ≤ 9
      · obtain ⟨m, rfl⟩ : ∃ q, m = q + 1 := ⟨m - 1, by omega⟩
        rw [uR_step e e2.1 e2.2, uR_step e e2.1 e2.2]
        have hx2 := xN e2.1
        have := hd x.toNatClampNeg (by omega)
        exact ih _ (by omega) m (by omega)
      · rw [uR_out e (by omega), uR_out e (by omega)]
theorem uR_u {f : Nat → Int32} (hd : paD f) {x y : Int32} : uR f 11 x y = true ↔ x = y ∨ ((0 ≤ x.toInt ∧ x.toInt ≤ 9) ∧ uR f 11 (f x.toNatClampNeg) y = true) := by
  by_cases e : x.toInt = y.toInt
  · exact ⟨fun _ => Or.inl (xJ e), fun _ => uR_eq e⟩
  · by_cases e2 : 0 ≤ x.toInt ∧ x.toInt ≤ 9
    · have hx2 := xN e2.1
      have := hd x.toNatClampNeg (by omega)
      rw [uR_step e e2.1 e2.2, ← uR_more hd y 10 _ (by omega) 11 (by omega)]
      exact ⟨fun q => Or.inr ⟨e2, q⟩, fun q => q.elim (fun q => absurd (by rw [q]) e) (fun q => q.2)⟩
    · rw [uR_out e (by omega)]
      exact ⟨fun q => Bool.noConfusion q, fun q => q.elim (fun q => absurd (by rw [q]) e) (fun q => absurd q.1 e2)⟩
theorem uR_tr {f : Nat → Int32} (hd : paD f) {y z : Int32} (h2 : uR f 11 y z = true) : ∀ (n : Nat) (x : Int32), (x.toInt < n ∨ 9 < x.toInt) → uR f 11 x y = true → uR f 11 x z = true := by
  intro n
  induction n with
  | zero =>
    intro x hx h
    rcases (uR_u hd).mp h with h | h
    · rw [h]; exact h2
    · omega
  | succ n ih =>
    intro x hx h
    rcases (uR_u hd).mp h with h | ⟨h, h3⟩
    · rw [h]; exact h2
    · have hx2 := xN h.1
      have := hd x.toNatClampNeg (by omega)
      exact (uR_u hd).mpr (Or.inr ⟨h, ih _ (by omega) h3⟩)
theorem uR_le {f : Nat → Int32} (hd : paD f) {y : Int32} : ∀ (n : Nat) (x : Int32), (x.toInt < n ∨ 9 < x.toInt) → uR f 11 x y = true → y.toInt ≤ x.toInt ∧ (9 < x.toInt → y = x) := by
  intro n
  induction n with
  | zero =>
    intro x hx h
    rcases (uR_u hd).mp h with h | h
    · rw [h]; exact ⟨Int.le_refl _, fun _ => rfl⟩
    · omega
  | succ n ih =>
    intro x hx h
    rcases (uR_u hd).mp h with h | ⟨h, h3⟩
    · rw [h]; exact ⟨Int.le_refl _, fun _ => rfl⟩
    · have hx2 := xN h.1
      have := hd x.toNatClampNeg (by omega)
      have := (ih _ (by omega) h3).1
      exact ⟨by omega, fun q => by omega⟩
theorem uR_ln {f : Nat → Int32} (hd : paD f) {a b : Int32} : ∀ (n : Nat) (x : Int32), (x.toInt < n ∨ 9 < x.toInt) → uR f 11 x a = true → uR f 11 x b = true → uR f 11 a b = true ∨ uR f 11 b a = true := by
  intro n
  induction n with
  | zero =>
    intro x hx h h2
    rcases (uR_u hd).mp h with h | h
    · rw [← h]; exact Or.inl h2
    · omega
  | succ n ih =>
    intro x hx h h2
    rcases (uR_u hd).mp h with e | ⟨e, h3⟩
    · rw [← e]; exact Or.inl h2
    · rcases (uR_u hd).mp h2 with e2 | ⟨_, h4⟩
      · rw [← e2]; exact Or.inr h
      · have hx2 := xN e.1
        have := hd x.toNatClampNeg (by omega)
        exact ih _ (by omega) h3 h4
theorem x_fuel (x : Int32) : x.toInt < (10 : Nat) ∨ 9 < x.toInt := by omega
theorem uR_le' {f : Nat → Int32} (hd : paD f) {x y : Int32} (h : uR f 11 x y = true) : y.toInt ≤ x.toInt ∧ (9 < x.toInt → y = x) := uR_le hd 10 x (x_fuel x) h
theorem uM_c {f : Nat → Int32} {a b : Int32} (h : a.toInt < 20) : uM f a b = uR f 11 a b := uM_3 (by omega) (by omega)
/-- what is under one that is under another is under it -/
theorem uM_tr {f : Nat → Int32} (hd : paD f) {a b c : Int32} (h : uM f a b = true) (h2 : uM f b c = true) (hc : 0 ≤ c.toInt) : uM f a c = true := by
  have z0 : (0 : Int32).toInt = 0 := by decide
  by_cases e : a.toInt < 20
  · rw [uM_c e] at h ⊢
    have hb := (uR_le' hd h).1
    rw [uM_c (by omega)] at h2
    exact uR_tr hd h2 10 a (x_fuel a) h
  · by_cases eb : b.toInt = 0
    · rw [uM_c (by omega)] at h2
      have := (uR_le' hd h2).1
      unfold uM; rw [if_pos (by omega)]
    · by_cases ec : c.toInt = 0
      · unfold uM; rw [if_pos (by omega)]
      · by_cases er : (20 ≤ a.toInt ∧ a.toInt ≤ 29) ∧ (20 ≤ b.toInt ∧ b.toInt ≤ 29)
        · rw [uM_2 (by omega) er] at h
          by_cases er2 : 20 ≤ c.toInt ∧ c.toInt ≤ 29
          · rw [uM_2 (by omega) ⟨er.2, er2⟩] at h2
            rw [uM_2 (by omega) ⟨er.1, er2⟩]
            exact uR_tr hd h2 10 _ (x_fuel _) h
          · rw [uM_3 (by omega) (by omega)] at h2
            have := (uR_le' hd h2).2 (by omega)
            rw [this] at er2
            omega
        · rw [uM_3 (by omega) er] at h
          have := (uR_le' hd h).2 (by omega)
          rw [this] at h2
          exact h2
theorem uM_30 {f : Nat → Int32} (hd : paD f) {a b : Int32} (hb : b.toInt = 30 ∨ b.toInt = 10) (h : uM f a b = true) : a = b := by
  rw [uM_3 (by omega) (by omega)] at h
  have := uR_le' hd h
  by_cases e : 9 < a.toInt
  · exact (this.2 e).symm
  · omega
/-! what is added to things -/
def exX (z y : cs_T) : Prop := z.1.toInt ≤ y.1.toInt ∧ ∀ i : Nat, (i : Int) ≤ z.1.toInt → y.2.2.1 i = z.2.2.1 i ∧ y.2.2.2.1 i = z.2.2.2.1 i
def tnB (z : cs_T) : Prop := 0 ≤ z.1.toInt ∧ z.1.toInt ≤ 60
theorem ex_r (z : cs_T) : exX z z := ⟨Int.le_refl _, fun _ _ => ⟨rfl, rfl⟩⟩
theorem ex_t {x y z : cs_T} (h : exX x y) (h2 : exX y z) : exX x z := ⟨by have := h.1; have := h2.1; omega, fun i q => ⟨((h2.2 i (by have := h.1; omega)).1).trans (h.2 i q).1, ((h2.2 i (by have := h.1; omega)).2).trans (h.2 i q).2⟩⟩
theorem md_x {t v : Int32} {z : cs_T} (hz : tnB z) : exX z (mdF t v z).2 ∧ tnB (mdF t v z).2 ∧ (0 ≤ (mdF t v z).1.toInt ∧ (mdF t v z).1.toInt ≤ 60) := by
  refine ⟨?_, (md_b hz).2.1, (md_b hz).1⟩
  unfold mdF
  split
  · exact ex_r z
  · split
    · exact ⟨Int.le_refl _, fun _ _ => ⟨rfl, rfl⟩⟩
    · have hz1 := hz.1
      have hz2 := hz.2
      have z1 : (z.1 + 1).toInt = z.1.toInt + 1 := iAdd rfl (by decide) (by omega) (by omega)
      have z2 := xN (x := z.1 + 1) (by omega)
      refine ⟨by dsimp only; omega, fun i q => ⟨?_, ?_⟩⟩
      · exact updN (by omega)
      · exact updN (by omega)
/-- a thing that was made has what it was made with -/
theorem md_i {t v : Int32} {z : cs_T} (hz : tnB z) (h : (mdF t v z).1.toInt ≠ 0) : (mdF t v z).2.2.2.2.1 (mdF t v z).1.toNatClampNeg = v ∧ (mdF t v z).2.2.2.1 (mdF t v z).1.toNatClampNeg = t ∧ (mdF t v z).1 = (mdF t v z).2.1 := by
  unfold mdF at h ⊢
  split
  · next e => rw [if_pos e] at h; exact absurd (by decide : (0 : Int32).toInt = 0) h
  · next e =>
    rw [if_neg e] at h
    split
    · next e2 => rw [if_pos e2] at h; exact absurd (by decide : (0 : Int32).toInt = 0) h
    · exact ⟨updS, updS, rfl⟩
theorem tu_x {v a b : Int32} {z : cs_T} (hz : tnB z) : exX z (tuF v a b z).2 ∧ tnB (tuF v a b z).2 := by
  refine ⟨?_, (tu_b hz).1⟩
  unfold tuF
  split
  · exact (md_x hz).1
  · split
    · split
      · exact ⟨Int.le_refl _, fun _ _ => ⟨rfl, rfl⟩⟩
      · split
        · exact ex_r z
        · exact ex_r z
    · exact ex_r z
theorem pv_x {i : Nat} {x : Int32 × cs_T} : exX x.2 (pvF i x) ∧ (tnB x.2 → tnB (pvF i x)) := by
  unfold pvF
  split
  · exact ⟨⟨Int.le_refl _, fun _ _ => ⟨rfl, rfl⟩⟩, fun h => h⟩
  · exact ⟨ex_r _, fun h => h⟩
theorem g2_x {ar fa my pm : Nat → Int32} {m f s pn row : Int32} : ∀ (n k : Nat) (z : cs_T), tnB z → exX z (gv2 ar fa my pm m f s pn row n k z) ∧ tnB (gv2 ar fa my pm m f s pn row n k z) := by
  intro n
  induction n with
  | zero => intro k z hz; exact ⟨ex_r z, hz⟩
  | succ n ih =>
    intro k z hz
    have h1 := tu_x (v := ar (s + nI k).toNatClampNeg) (a := fa (3 * f + s + nI k).toNatClampNeg) (b := plV my pm m (nI k)) hz
    have h2 := pv_x (i := (20 * row + nI k - pn).toNatClampNeg) (x := tuF (ar (s + nI k).toNatClampNeg) (fa (3 * f + s + nI k).toNatClampNeg) (plV my pm m (nI k)) z)
    have h3 := ih (k + 1) _ (h2.2 h1.2)
    exact ⟨ex_t (ex_t h1.1 h2.1) h3.1, h3.2⟩
/-- what the k-th place got, and when -/
def gtP (ar fa pm : Nat → Int32) (m f s : Int32) (z y : cs_T) (j : Nat) (g : Int32) : Prop := ∃ zj : cs_T, tnB zj ∧ exX z zj ∧ exX (tuF (ar (s + nI j).toNatClampNeg) (fa (3 * f + s + nI j).toNatClampNeg) (pm (3 * m + nI j).toNatClampNeg) zj).2 y ∧ g = (tuF (ar (s + nI j).toNatClampNeg) (fa (3 * f + s + nI j).toNatClampNeg) (pm (3 * m + nI j).toNatClampNeg) zj).1
theorem g1_x {ar fa pm : Nat → Int32} {m f s : Int32} : ∀ (n k : Nat) (x : (Nat → Int32) × cs_T), tnB x.2 → exX x.2 (gv1 ar fa pm m f s n k x).2 ∧ tnB (gv1 ar fa pm m f s n k x).2 ∧ (∀ j : Nat, j < k → (gv1 ar fa pm m f s n k x).1 j = x.1 j) ∧ (∀ j : Nat, k ≤ j → j < k + n → gtP ar fa pm m f s x.2 (gv1 ar fa pm m f s n k x).2 j ((gv1 ar fa pm m f s n k x).1 j)) := by
  intro n
  induction n with
  | zero => intro k x hz; exact ⟨ex_r _, hz, fun _ _ => rfl, fun j q1 q2 => by omega⟩
  | succ n ih =>
    intro k x hz
    have h1 := tu_x (v := ar (s + nI k).toNatClampNeg) (a := fa (3 * f + s + nI k).toNatClampNeg) (b := pm (3 * m + nI k).toNatClampNeg) hz
    obtain ⟨i1, i2, i3, i4⟩ := ih (k + 1) (upd x.1 k (tuF (ar (s + nI k).toNatClampNeg) (fa (3 * f + s + nI k).toNatClampNeg) (pm (3 * m + nI k).toNatClampNeg) x.2).1, (tuF (ar (s + nI k).toNatClampNeg) (fa (3 * f + s + nI k).toNatClampNeg) (pm (3 * m + nI k).toNatClampNeg) x.2).2) h1.2
    refine ⟨ex_t h1.1 i1, i2, fun j q => (i3 j (by omega)).trans (updN (by omega)), fun j q1 q2 => ?_⟩
    rcases Nat.eq_or_lt_of_le q1 with e | e
    · subst e
      exact ⟨x.2, hz, ex_r _, i1, (i3 k (by omega)).trans updS⟩
    · obtain ⟨zj, j0, j1, j2, j3⟩ := i4 j e (by omega)
      exact ⟨zj, j0, ex_t h1.1 j1, j2, j3⟩
theorem nI_c {k : Nat} (h : k < 1000) : (nI k).toNatClampNeg = k := nI_clamp (by omega)
/-- what one place got can be summed -/
theorem gt_one {pa ar fa pm tt ti : Nat → Int32} {m f s tn : Int32} {z y : cs_T} {j : Nat} {g : Int32} (hd : paD pa) (hz : tnB z) (htn : z.1 = tn ∧ z.2.2.1 = tt ∧ z.2.2.2.1 = ti) (h : gtP ar fa pm m f s z y j g)
  (hg : (fa (3 * f + s + nI j).toNatClampNeg).toInt ≠ 10 → ((ar (s + nI j).toNatClampNeg).toInt = 0 ∨ ((1 ≤ (ar (s + nI j).toNatClampNeg).toInt ∧ (ar (s + nI j).toNatClampNeg).toInt ≤ tn.toInt) ∧ uM pa (tt (ar (s + nI j).toNatClampNeg).toNatClampNeg) (fa (3 * f + s + nI j).toNatClampNeg) = true)))
  (hl : lM pa (fa (3 * f + s + nI j).toNatClampNeg) (pm (3 * m + nI j).toNatClampNeg)) (hth : ∀ i : Nat, 1 ≤ i → (i : Int) ≤ tn.toInt → 20 ≤ (tt i).toInt → 0 ≤ (ti i).toInt ∧ (ti i).toInt ≤ 20) :
  ((pm (3 * m + nI j).toNatClampNeg).toInt = 1 → 0 ≤ g.toInt ∧ g.toInt ≤ 60) ∧ ((pm (3 * m + nI j).toNatClampNeg).toInt = 30 → g.toInt ≠ 0 → (0 ≤ g.toInt ∧ g.toInt ≤ 60) ∧ 0 ≤ (y.2.2.2.1 g.toNatClampNeg).toInt ∧ (y.2.2.2.1 g.toNatClampNeg).toInt ≤ 20) := by
  obtain ⟨zj, j0, j1, j2, j3⟩ := h
  obtain ⟨rfl, rfl, rfl⟩ := htn
  have hz1 := hz.1
  have hz2 := hz.2
  constructor
  · intro q
    by_cases e : (fa (3 * f + s + nI j).toNatClampNeg).toInt = 10
    · rw [j3, tu_1 ⟨e, by omega⟩]; exact (md_x j0).2.2
    · rw [j3, tu_5 (by omega) (by omega)]
      have := hg e
      dsimp only
      omega
  · intro q q2
    have e : (fa (3 * f + s + nI j).toNatClampNeg).toInt = 30 := by
      rcases hl with hl | ⟨hl, hl2⟩ | ⟨hl, hl2⟩
      · have := uM_30 hd (Or.inl q) hl; rw [this]; exact q
      · have := uM_30 hd (Or.inl q) hl2; rw [← this] at q; exact absurd q (by decide)
      · omega
    rw [tu_5 (by omega) (by omega)] at j3 j2
    dsimp only at j3 j2
    subst j3
    rcases hg (by omega) with hg | ⟨hg, hg2⟩
    · exact absurd hg q2
    · have e2 := uM_30 hd (Or.inl e) hg2
      have hx := xN (x := ar (s + nI j).toNatClampNeg) (by omega)
      have hy := ((ex_t j1 j2).2 (ar (s + nI j).toNatClampNeg).toNatClampNeg (by omega)).2
      rw [hy]
      exact ⟨by omega, hth _ (by omega) (by omega) (by rw [e2]; omega)⟩
end
section
/-! what a meaning says of the member -/
theorem sr_tk {pa ot na my pm ma fa fy : Nat → Int32} {mn t w f s p r : Int32} (h : srM pa ot na my pm ma fa fy mn t w f s p r) (hr : 0 ≤ r.toInt) : (0 ≤ r.toInt ∧ r.toInt < mn.toInt ∨ 40 < mn.toInt) ∧ (1 ≤ p.toInt ∧ p.toInt ≤ 3) ∧ (na r.toNatClampNeg).toInt = w.toInt ∧ hadM pa ot na my pm mn t r ∧ tkM pa my pm fa ma fy r f s p := by
  have u : ∀ q : Int32, uqM (spF pa ot na my pm ma fa fy mn t w f s q) mn r → (0 ≤ r.toInt ∧ r.toInt < mn.toInt ∨ 40 < mn.toInt) ∧ (na r.toNatClampNeg).toInt = w.toInt ∧ hadM pa ot na my pm mn t r ∧ tkM pa my pm fa ma fy r f s q := by
    intro q h
    rcases h with ⟨b, h1, h2, h3, _⟩ | ⟨h1, _⟩
    · subst h2
      refine ⟨?_, h3.1⟩
      by_cases e : 40 < mn.toInt
      · exact Or.inr e
      · have := nI_toInt (n := b) (by omega)
        exact Or.inl (by omega)
    · rw [h1] at hr; exact absurd hr (by decide)
  rcases h with ⟨h1, h2, _⟩ | ⟨h1, _, h2⟩ | ⟨h1, _, _, h2⟩ | ⟨h1, _, _, _, h2⟩
  · rw [h2] at hr; exact absurd hr (by decide)
  · subst h1; exact ⟨(u 1 h2).1, by decide, (u 1 h2).2⟩
  · subst h1; exact ⟨(u 2 h2).1, by decide, (u 2 h2).2⟩
  · subst h1; exact ⟨(u 3 h2).1, by decide, (u 3 h2).2⟩
theorem one_tk {pa ot na my pm ma fa fy : Nat → Int32} {mn t w f p r : Int32} (h : oneM pa ot na my pm ma fa fy mn t w f p r) (hr : 0 ≤ r.toInt) : (1 ≤ p.toInt ∧ p.toInt ≤ 3) ∧ (na r.toNatClampNeg).toInt = w.toInt ∧ hadM pa ot na my pm mn t r ∧ tkM pa my pm fa ma fy r f 0 p := by
  obtain ⟨r1, h1, ⟨_, h2⟩ | ⟨_, h2⟩ | ⟨_, _, h2⟩⟩ := h
  · rw [h2] at hr; exact absurd hr (by decide)
  · rw [h2] at hr; exact absurd hr (by decide)
  · subst h2; exact (sr_tk h1 hr).2
/-- where m comes from -/
def mtR (pa ot na my pm ma fa fy : Nat → Int32) (mn fo t w f sc mp m tS w1 s : Int32) : Prop := ((sc.toInt ≠ 0 ∧ s = 1 ∧ fo.toInt = 0 ∧ c2M pa fa fy t f) ∨ (sc.toInt = 0 ∧ s = 0)) ∧ ((fo.toInt = 2 ∧ tS = pa t.toNatClampNeg) ∨ (fo.toInt ≠ 2 ∧ tS = t)) ∧ ((fo.toInt = 3 ∧ w1 = 6) ∨ (fo.toInt ≠ 3 ∧ w1 = w)) ∧ (0 ≤ fo.toInt ∧ fo.toInt ≤ 3) ∧ (1 ≤ mp.toInt ∧ mp.toInt ≤ 3) ∧ (na m.toNatClampNeg).toInt = w1.toInt ∧ hadM pa ot na my pm mn tS m ∧ tkM pa my pm fa ma fy m f s mp
theorem mn_tk {pa ot na my pm ma fa fy : Nat → Int32} {mn fo t w f sc mp m : Int32} (hn : mn.toInt ≤ 40) (h : mnM pa ot na my pm ma fa fy mn fo t w f sc mp m) (hm : 0 ≤ m.toInt ∧ m.toInt < mn.toInt) : ∃ tS w1 s : Int32, mtR pa ot na my pm ma fa fy mn fo t w f sc mp m tS w1 s := by
  have z0 : (0 : Int32).toInt = 0 := by decide
  have z1 : (1 : Int32).toInt = 1 := by decide
  rcases h with ⟨h0, p1, r1, p2, r2, h1, h2, h3⟩ | ⟨h0, h1, r1, h2, h3⟩ | ⟨h0, h1, r1, h2, h3⟩ | ⟨h0, h1, h2⟩ | ⟨_, _, _, h1⟩
  · rcases h3 with ⟨_, e1, e2, e3⟩ | ⟨_, _, e1, e2, e3⟩ | ⟨_, _, _, _, _, e1⟩ | ⟨_, _, _, _, _, _, e1⟩ | ⟨_, _, _, _, _, _, e1⟩
    · subst e1; subst e2; subst e3
      have q := sr_tk h1 hm.1
      exact ⟨t, w, 0, Or.inr ⟨z0, rfl⟩, Or.inr ⟨by omega, rfl⟩, Or.inr ⟨by omega, rfl⟩, by omega, q.2⟩
    · subst e1; subst e2; subst e3
      rcases h2 with ⟨h2, h4⟩ | ⟨_, _, h4⟩
      · have q := sr_tk h4 hm.1
        exact ⟨t, w, 1, Or.inl ⟨by omega, rfl, h0, h2⟩, Or.inr ⟨by omega, rfl⟩, Or.inr ⟨by omega, rfl⟩, by omega, q.2⟩
      · rw [h4] at hm; exact absurd hm.1 (by decide)
    · rw [e1] at hm; exact absurd hm.1 (by decide)
    · rw [e1] at hm; exact absurd hm.1 (by decide)
    · rw [e1] at hm; exact absurd hm.1 (by decide)
  · subst h1
    rcases h3 with ⟨_, h3⟩ | ⟨_, h3⟩
    · rw [h3] at hm; exact absurd hm.1 (by decide)
    · subst h3
      exact ⟨t, w, 0, Or.inr ⟨z0, rfl⟩, Or.inr ⟨by omega, rfl⟩, Or.inr ⟨by omega, rfl⟩, by omega, one_tk h2 hm.1⟩
  · subst h1
    rcases h3 with ⟨h3, h4⟩ | ⟨_, h3⟩ | ⟨_, h3⟩ | ⟨_, h3⟩
    · rw [h4] at hm; omega
    · rw [h3] at hm; exact absurd hm.1 (by decide)
    · rw [h3] at hm; exact absurd hm.1 (by decide)
    · subst h3
      exact ⟨_, w, 0, Or.inr ⟨z0, rfl⟩, Or.inl ⟨h0, rfl⟩, Or.inr ⟨by omega, rfl⟩, by omega, one_tk h2 hm.1⟩
  · subst h1
    rcases h2 with ⟨_, _, h3⟩ | ⟨_, _, _, ⟨_, h3⟩ | ⟨_, h3⟩⟩ | ⟨_, _, h3⟩
    · rw [h3] at hm; exact absurd hm.1 (by decide)
    · rw [h3] at hm; have := hm.2; have : (99 : Int32).toInt = 99 := by decide
      omega
    · rw [h3] at hm; exact absurd hm.1 (by decide)
    · exact ⟨t, 6, 0, Or.inr ⟨z0, rfl⟩, Or.inr ⟨by omega, rfl⟩, Or.inl ⟨h0, rfl⟩, by omega, one_tk h3 hm.1⟩
  · rcases h1 with ⟨_, h3⟩ | ⟨_, h3⟩
    · rw [h3] at hm; have := hm.2; have : (99 : Int32).toInt = 99 := by decide
      omega
    · rw [h3] at hm; exact absurd hm.1 (by decide)
theorem wm_tk {pa ot na re my pm ma fa fy fr : Nat → Int32} {mn fo t w f sc mp m : Int32} (hn : mn.toInt ≤ 40) (h : wmM pa ot na re my pm ma fa fy fr mn fo t w f sc mp m) (hm : 0 ≤ m.toInt ∧ m.toInt < mn.toInt) : ∃ tS w1 s : Int32, mtR pa ot na my pm ma fa fy mn fo t w f sc mp m tS w1 s := by
  obtain ⟨r1, h1, ⟨_, h2⟩ | ⟨_, h2⟩ | ⟨_, h2⟩⟩ := h
  · subst h2; exact mn_tk hn h1 hm
  · subst h2; exact mn_tk hn h1 hm
  · rw [h2] at hm; exact absurd hm.1 (by decide)
theorem wm_sc {pa ot na re my pm ma fa fy fr : Nat → Int32} {mn fo t w f sc mp m : Int32} (h : wmM pa ot na re my pm ma fa fy fr mn fo t w f sc mp m) (hs : sc.toInt ≠ 0) : fo.toInt = 0 ∧ c2M pa fa fy t f := by
  have z0 : (0 : Int32).toInt = 0 := by decide
  obtain ⟨r1, h1, _⟩ := h
  rcases h1 with ⟨h0, p1, r1, p2, r2, h1, h2, h3⟩ | ⟨h0, h1, _⟩ | ⟨h0, h1, _⟩ | ⟨h0, h1, _⟩ | ⟨_, h1, _⟩
  · rcases h3 with ⟨_, e1, e2, e3⟩ | ⟨_, q, e1, e2, e3⟩ | ⟨_, _, e2, _⟩ | ⟨_, _, e2, _⟩ | ⟨_, _, e2, _⟩
    · rw [e2] at hs; exact absurd z0 hs
    · rcases h2 with ⟨h2, h4⟩ | ⟨_, _, h4⟩
      · exact ⟨h0, h2⟩
      · have := q.1; rw [h4] at this; exact absurd this (by decide)
    · rw [e2] at hs; exact absurd z0 hs
    · rw [e2] at hs; exact absurd z0 hs
    · rw [e2] at hs; exact absurd z0 hs
  · rw [h1] at hs; exact absurd z0 hs
  · rw [h1] at hs; exact absurd z0 hs
  · rw [h1] at hs; exact absurd z0 hs
  · rw [h1] at hs; exact absurd z0 hs
theorem wm_99 {pa ot na re my pm ma fa fy fr : Nat → Int32} {mn fo t w f sc mp m : Int32} (h : wmM pa ot na re my pm ma fa fy fr mn fo t w f sc mp m) (hm : m.toInt = 99) (h4 : fo.toInt = 4) : (fy f.toNatClampNeg).toInt = 1 := by
  obtain ⟨r1, h1, h2⟩ := h
  have e : r1.toInt = 99 := by
    rcases h2 with ⟨_, h2⟩ | ⟨_, h2⟩ | ⟨_, h2⟩
    · rw [← h2]; exact hm
    · rw [← h2]; exact hm
    · rw [h2] at hm; exact absurd hm (by decide)
  rcases h1 with ⟨h0, _⟩ | ⟨h0, _⟩ | ⟨h0, _⟩ | ⟨h0, _⟩ | ⟨_, _, _, ⟨h1, _⟩ | ⟨_, h1⟩⟩
  · omega
  · omega
  · omega
  · omega
  · exact h1.1
  · rw [h1] at e; exact absurd e (by decide)
/-! when a call is safe -/
theorem nI_00 : nI 0 = 0 := by decide
theorem ix_0 {f : Int32} (hf : 0 ≤ f.toInt ∧ f.toInt < 10) (j : Nat) : 3 * f + 0 + nI j = 3 * f + nI j := by rw [Int32.add_zero]
theorem ix_1 {f : Int32} (hf : 0 ≤ f.toInt ∧ f.toInt < 10) {j : Nat} (hj : j < 10) : 3 * f + 1 + nI j = 3 * f + nI (j + 1) := by
  rw [Int32.add_assoc, show (1 : Int32) + nI j = nI (j + 1) from by rw [← nI_1, Int32.add_comm]]
theorem ix_2 {j : Nat} : (1 : Int32) + nI j = nI (j + 1) := by rw [← nI_1, Int32.add_comm]
/-- the arguments from s on are given -/
def agS (pa tt ar fa fy : Nat → Int32) (tn f s : Int32) : Prop := ∀ j : Nat, (j : Int) < (fy f.toNatClampNeg).toInt - s.toInt → (fa (3 * f + s + nI j).toNatClampNeg).toInt ≠ 10 → ((ar (s + nI j).toNatClampNeg).toInt = 0 ∨ ((1 ≤ (ar (s + nI j).toNatClampNeg).toInt ∧ (ar (s + nI j).toNatClampNeg).toInt ≤ tn.toInt) ∧ uM pa (tt (ar (s + nI j).toNatClampNeg).toNatClampNeg) (fa (3 * f + s + nI j).toNatClampNeg) = true))
theorem ag_s {pa tt ar fa fy : Nat → Int32} {tn f s : Int32} (hf : 0 ≤ f.toInt ∧ f.toInt < 10) (hfy : (fy f.toNatClampNeg).toInt ≤ 3) (hs : s = 1 ∨ s = 0) (h : agM pa tt ar fa fy tn f 0) : agS pa tt ar fa fy tn f s := by
  have z0 : (0 : Int32).toInt = 0 := by decide
  have z1 : (1 : Int32).toInt = 1 := by decide
  intro j q1 q2
  rcases hs with e | e
  · subst e
    rw [ix_1 hf (by omega)] at q2 ⊢
    rw [ix_2]
    exact h (j + 1) (Nat.zero_le _) (by omega) q2
  · subst e
    rw [ix_0 hf] at q2 ⊢
    rw [show (0 : Int32) + nI j = nI j from Int32.zero_add _]
    exact h j (Nat.zero_le _) (by omega) q2
theorem ag_d {pa tt ar fa fy : Nat → Int32} {tn f s : Int32} (hn : 0 ≤ tn.toInt ∧ tn.toInt ≤ 60) (h : agS pa tt ar fa fy tn f s) : agD ar fa fy f s := fun j q1 q2 => by have := h j q1 q2; omega
theorem ag_0 {pa tt ar fa fy : Nat → Int32} {tn f : Int32} (h : agM pa tt ar fa fy tn f 0) (h1 : 1 ≤ (fy f.toNatClampNeg).toInt) (h2 : (fa (3 * f).toNatClampNeg).toInt ≠ 10) : (ar 0).toInt = 0 ∨ ((1 ≤ (ar 0).toInt ∧ (ar 0).toInt ≤ tn.toInt) ∧ uM pa (tt (ar 0).toNatClampNeg) (fa (3 * f).toNatClampNeg) = true) := by
  have q := h 0 (Nat.le_refl 0) (by omega)
  rw [nI_00, Int32.add_zero] at q
  exact q h2
/-- what holds of things: rows are short -/
def thD (tn : Int32) (tt ti : Nat → Int32) : Prop := ∀ i : Nat, 1 ≤ i → (i : Int) ≤ tn.toInt → 20 ≤ (tt i).toInt → 0 ≤ (ti i).toInt ∧ (ti i).toInt ≤ 20
theorem sm_r {na my pm : Nat → Int32} (m : Int32) : smM na my pm m m := ⟨rfl, rfl, fun _ _ _ => rfl⟩
/-- what was handed to m can be summed -/
theorem gv_gt {pa ar fa fy my pm ma tt ti pl go : Nat → Int32} {m rn f s p tn e0 : Int32} (hd : paD pa) (hn : 0 ≤ tn.toInt ∧ tn.toInt ≤ 60) (hs : s = 1 ∨ s = 0) (hfy : 0 ≤ (fy f.toNatClampNeg).toInt ∧ (fy f.toNatClampNeg).toInt ≤ 3) (hmy : 0 ≤ (my m.toNatClampNeg).toInt ∧ (my m.toNatClampNeg).toInt ≤ 3)
  (hv : (ma m.toNatClampNeg &&& 4).toInt ≠ 0 → 1 ≤ (my m.toNatClampNeg).toInt) (hth : thD tn tt ti) (hag : agS pa tt ar fa fy tn f s) (hp : 1 ≤ p.toInt ∧ p.toInt ≤ 3) (htk : tkM pa my pm fa ma fy m f s p) (hmm : my rn.toNatClampNeg = my m.toNatClampNeg) (hsm : smL my pm rn m 0)
  {g9 t9 i9 l9 : Nat → Int32} {n9 e9 : Int32} (h : (g9, n9, e9, t9, i9, l9) = gvF ar fa fy my pm rn f s p (go, tn, e0, tt, ti, pl)) : gtD my pm i9 g9 rn := by
  have z0 : (0 : Int32).toInt = 0 := by decide
  have z1 : (1 : Int32).toInt = 1 := by decide
  have hs01 : 0 ≤ s.toInt ∧ s.toInt ≤ 1 := by rcases hs with e | e <;> rw [e] <;> decide
  have hz : tnB (tn, e0, tt, ti, pl) := hn
  intro k hk
  rw [hmm] at hk
  rw [nI_c (by omega)]
  have hpe : pm (3 * rn + nI k).toNatClampNeg = pm (3 * m + nI k).toNatClampNeg := hsm k (Nat.zero_le k) (by rw [hmm]; exact hk)
  unfold gvF at h
  split at h
  · next e =>
    have hcnt : (my m.toNatClampNeg).toInt = (fy f.toNatClampNeg).toInt - s.toInt := by have := htk.1; omega
    obtain ⟨i1, i2, i3, i4⟩ := g1_x (ar := ar) (fa := fa) (pm := pm) (m := rn) (f := f) (s := s) (my rn.toNatClampNeg).toNatClampNeg 0 (go, tn, e0, tt, ti, pl) hz
    have hx := xN (x := my rn.toNatClampNeg) (by rw [hmm]; omega)
    rw [hmm] at hx
    have q := i4 k (Nat.zero_le k) (by rw [hmm]; omega)
    rw [← h] at q
    refine gt_one (tn := tn) (tt := tt) (ti := ti) (y := (n9, e9, t9, i9, l9)) hd hz ⟨rfl, rfl, rfl⟩ q (hag k (by omega)) ?_ hth
    rw [hpe]
    have hj := htk.2 k (Nat.zero_le k) (by omega)
    by_cases e1 : p.toInt = 1
    · exact Or.inl (hj.1 e1)
    · exact hj.2.1 (by omega)
  · next e =>
    have e3 : p.toInt = 3 := by omega
    have hcv : (ma m.toNatClampNeg &&& 4).toInt ≠ 0 ∧ (my m.toNatClampNeg).toInt ≤ (fy f.toNatClampNeg).toInt - s.toInt + 1 := by have := htk.1; omega
    have hm1 := hv hcv.1
    have hpn : (my rn.toNatClampNeg - 1).toInt = (my m.toNatClampNeg).toInt - 1 := by rw [hmm]; exact iSub rfl (by decide) (by omega) (by omega)
    have hpx := xN (x := my rn.toNatClampNeg - 1) (by omega)
    obtain ⟨i1, i2, i3, i4⟩ := g1_x (ar := ar) (fa := fa) (pm := pm) (m := rn) (f := f) (s := s) (my rn.toNatClampNeg - 1).toNatClampNeg 0 (go, tn, e0, tt, ti, pl) hz
    dsimp only at h
    generalize gv1 ar fa pm rn f s (my rn.toNatClampNeg - 1).toNatClampNeg 0 (go, tn, e0, tt, ti, pl) = y at h i1 i2 i3 i4
    have hsub : (fy f.toNatClampNeg - s).toInt = (fy f.toNatClampNeg).toInt - s.toInt := iSub rfl rfl (by omega) (by omega)
    have hsub2 : (fy f.toNatClampNeg - s - (my rn.toNatClampNeg - 1)).toInt = (fy f.toNatClampNeg).toInt - s.toInt - ((my m.toNatClampNeg).toInt - 1) := by rw [iSub hsub hpn (by omega) (by omega)]
    have hmd := md_x (t := pm (3 * rn + (my rn.toNatClampNeg - 1)).toNatClampNeg) (v := fy f.toNatClampNeg - s - (my rn.toNatClampNeg - 1)) i2
    have hmi := md_i (t := pm (3 * rn + (my rn.toNatClampNeg - 1)).toNatClampNeg) (v := fy f.toNatClampNeg - s - (my rn.toNatClampNeg - 1)) i2
    generalize mdF (pm (3 * rn + (my rn.toNatClampNeg - 1)).toNatClampNeg) (fy f.toNatClampNeg - s - (my rn.toNatClampNeg - 1)) y.2 = w at h hmd hmi
    have h2 := g2_x (ar := ar) (fa := fa) (my := my) (pm := pm) (m := rn) (f := f) (s := s) (pn := my rn.toNatClampNeg - 1) (row := w.1) ((fy f.toNatClampNeg - s).toNatClampNeg - (my rn.toNatClampNeg - 1).toNatClampNeg) (my rn.toNatClampNeg - 1).toNatClampNeg w.2 hmd.2.1
    generalize gv2 ar fa my pm rn f s (my rn.toNatClampNeg - 1) w.1 ((fy f.toNatClampNeg - s).toNatClampNeg - (my rn.toNatClampNeg - 1).toNatClampNeg) (my rn.toNatClampNeg - 1).toNatClampNeg w.2 = v at h h2
    have hg : g9 = upd y.1 (my rn.toNatClampNeg - 1).toNatClampNeg w.1 := congrArg Prod.fst h
    have hvv : (n9, e9, t9, i9, l9) = v := congrArg Prod.snd h
    subst hg
    subst hvv
    by_cases ek : k = (my rn.toNatClampNeg - 1).toNatClampNeg
    · subst ek
      rw [updS]
      refine ⟨fun _ => hmd.2.2, fun _ q2 => ⟨hmd.2.2, ?_⟩⟩
      have hw := hmd.2.2
      have hwx := xN (x := w.1) hw.1
      have q := hmi q2
      have hwt : w.2.1.toInt = w.1.toInt := by rw [← q.2.2]
      have q3 := (h2.1.2 w.1.toNatClampNeg (by omega)).2
      dsimp only at q3
      rw [q3, q.1, hsub2]
      omega
    · rw [updN ek]
      have q := i4 k (Nat.zero_le k) (by omega)
      obtain ⟨zj, j0, j1, j2, j3⟩ := q
      refine gt_one (tn := tn) (tt := tt) (ti := ti) (y := (n9, e9, t9, i9, l9)) hd hz ⟨rfl, rfl, rfl⟩ ⟨zj, j0, j1, ex_t j2 (ex_t hmd.1 h2.1), j3⟩ (hag k (by omega)) ?_ hth
      rw [hpe]
      have hj := (htk.2 k (Nat.zero_le k) (by omega)).2.2 e3
      rw [plV_1 (by rw [nI_toInt (by omega)]; omega)] at hj
      exact hj
end
section
/-- members that are alike and in line agree -/
def ncD (pa ot na re my pm : Nat → Int32) (mn : Int32) : Prop := ∀ i j : Nat, (i : Int) < mn.toInt → (j : Int) < mn.toInt → i ≠ j → smM na my pm (nI i) (nI j) → (na i).toInt ≠ 6 → (uM pa (ot i) (ot j) = true ∨ uM pa (ot j) (ot i) = true) → re i = re j
/-- a maker gives its owner; owners are types -/
def mbD (ot na re : Nat → Int32) (mn : Int32) : Prop := ∀ j : Nat, (j : Int) < mn.toInt → (0 ≤ (ot j).toInt ∧ (ot j).toInt < 10) ∧ ((na j).toInt = 6 → re j = ot j)
theorem had_u {pa ot na my pm : Nat → Int32} {mn t m : Int32} (hd : paD pa) (h : hadM pa ot na my pm mn t m) : uR pa 11 (cM t) (ot m.toNatClampNeg) = true := by
  rcases h with ⟨h, _⟩ | ⟨_, _, h, _⟩
  · exact uR_eq h.symm
  · have z0 : (0 : Int32).toInt = 0 := by decide
    rwa [uM_c (by unfold cM; split <;> omega)] at h
/-- what a thing of type T has in m's place gives what m gives -/
theorem ch_re {pa ot na re my pm : Nat → Int32} {mn T t m rn : Int32} (hd : paD pa) (hn : mn.toInt ≤ 40) (hnc : ncD pa ot na re my pm mn) (hmb : mbD ot na re mn) (hm : 0 ≤ m.toInt ∧ m.toInt < mn.toInt) (hna : (na m.toNatClampNeg).toInt ≠ 6) (ht : 0 ≤ t.toInt ∧ t.toInt < 10) (hu : uM pa T t = true) (hh : hadM pa ot na my pm mn t m) (h : chL pa ot na my pm mn T m rn mn.toNatClampNeg) : (0 ≤ rn.toInt ∧ rn.toInt < mn.toInt) ∧ smM na my pm rn m ∧ re rn.toNatClampNeg = re m.toNatClampNeg := by
  have z0 : (0 : Int32).toInt = 0 := by decide
  have hmx := xN hm.1
  rcases h with ⟨h, _⟩ | ⟨b, h1, h2, h3, _⟩
  · subst h; exact ⟨hm, sm_r _, rfl⟩
  · have hnn := xN (x := mn) (by omega)
    have hb := nI_toInt (n := b) (by omega)
    have hbc := nI_c (k := b) (by omega)
    subst h2
    refine ⟨by omega, h3.1, ?_⟩
    rw [hbc]
    by_cases e : b = m.toNatClampNeg
    · rw [e]
    · have hmi : nI m.toNatClampNeg = m := xJ (by rw [nI_toInt (by omega)]; omega)
      have hu1 := had_u hd h3.2
      have hu2 := had_u hd hh
      rw [hbc] at hu1
      have hn6 : (na b).toInt ≠ 6 := by
        have e6 := h3.1.1
        rw [hbc] at e6
        rw [e6]; exact hna
      have hob := (hmb b (by omega)).1
      have hom := (hmb m.toNatClampNeg (by omega)).1
      have hct : cM t = t := by unfold cM; rw [if_neg (by omega)]
      rw [hct] at hu2
      have hTt : uR pa 11 (cM T) t = true := by
        unfold cM
        split
        · next e2 =>
          by_cases et : t.toInt = 0
          · exact uR_eq (by omega)
          · rw [uM_3 (by omega) (by omega)] at hu
            have := (uR_le' hd hu).2 (by omega)
            rw [this] at ht; omega
        · next e2 => rwa [uM_c (by omega)] at hu
      have hu3 := uR_tr hd hu2 10 _ (x_fuel _) hTt
      have hln := uR_ln hd 10 _ (x_fuel _) hu1 hu3
      rw [← uM_c (by omega), ← uM_c (by omega)] at hln
      exact hnc b m.toNatClampNeg (by omega) (by omega) e (by rw [hmi]; exact h3.1) hn6 hln
theorem ca_safe {pa ot na re my pm ma fa fy fr ar tt ti pl go : Nat → Int32} {mn fo t w f vc tn : Int32} (hd : paD pa) (hy : myD my) (hvr : vrD ma my) (hn : 0 ≤ mn.toInt ∧ mn.toInt ≤ 40) (htn : 0 ≤ tn.toInt ∧ tn.toInt ≤ 60) (hf : 0 ≤ f.toInt ∧ f.toInt < 10) (hfy : 0 ≤ (fy f.toNatClampNeg).toInt ∧ (fy f.toNatClampNeg).toInt ≤ 3) (ht : fo.toInt ≠ 4 → 0 ≤ t.toInt ∧ t.toInt < 10) (hw : fo.toInt ≤ 2 → w.toInt ≠ 6)
  (hnc : ncD pa ot na re my pm mn) (hmb : mbD ot na re mn) (hth : thD tn tt ti) (hvc : fo.toInt = 1 → (1 ≤ vc.toInt ∧ vc.toInt ≤ tn.toInt) ∧ uM pa (tt vc.toNatClampNeg) t = true) (hV : ∀ sc mp m : Int32, wmM pa ot na re my pm ma fa fy fr mn fo t w f sc mp m → 0 ≤ m.toInt) (hag : agM pa tt ar fa fy tn f 0) : caS pa ot na re my pm ma fa fy fr ar mn fo t w f vc go tn (tt, ti, pl) := by
  have z0 : (0 : Int32).toInt = 0 := by decide
  have z1 : (1 : Int32).toInt = 1 := by decide
  have h10 : ∀ x : Int32, fo.toInt ≠ 4 → x.toInt = 10 → uM pa x t = true → False := by
    intro x q4 q q2
    have ht2 := ht q4
    rw [uM_c (by omega)] at q2
    have := (uR_le' hd q2).2 (by omega)
    rw [this] at ht2
    omega
  have hsc : ∀ sc mp m : Int32, wmM pa ot na re my pm ma fa fy fr mn fo t w f sc mp m → sc.toInt ≠ 0 → fo.toInt = 0 ∧ c2M pa fa fy t f ∧ ((ar 0).toInt = 0 ∨ ((1 ≤ (ar 0).toInt ∧ (ar 0).toInt ≤ tn.toInt) ∧ uM pa (tt (ar 0).toNatClampNeg) (fa (3 * f).toNatClampNeg) = true)) := by
    intro sc mp m h q
    obtain ⟨q1, q2⟩ := wm_sc h q
    refine ⟨q1, q2, ag_0 hag (by have := q2.1; omega) (fun q3 => h10 _ (by omega) q3 q2.2)⟩
  refine ⟨fun sc mp m h => ⟨hV sc mp m h, fun q => ?_, fun q1 q2 q3 => ?_⟩, fun sc mp m e0 rn s h hm hs hru => ?_⟩
  · have := (hsc sc mp m h q).2.2; omega
  · have := ag_0 hag (by have := wm_99 h q1 q2; omega) q3; omega
  · obtain ⟨tS, w1, s1, m1, m2, m3, m4, m5, m6, m7, m8⟩ := wm_tk hn.2 h hm
    have es : s1 = s := by
      rcases m1 with ⟨q1, q2, _⟩ | ⟨q1, q2⟩
      · rcases hs with ⟨q3, q4⟩ | ⟨q3, q4⟩
        · rw [q2, q4]
        · omega
      · rcases hs with ⟨q3, q4⟩ | ⟨q3, q4⟩
        · omega
        · rw [q2, q4]
    subst es
    have hs2 : s1 = 1 ∨ s1 = 0 := by rcases m1 with ⟨_, q, _⟩ | ⟨_, q⟩; exact Or.inl q; exact Or.inr q
    have hs01 : 0 ≤ s1.toInt ∧ s1.toInt ≤ 1 := by rcases hs2 with e | e <;> rw [e] <;> decide
    have hmx := xN hm.1
    have hmy := hy m.toNatClampNeg (by omega)
    have hfo2 : fo.toInt ≠ 3 → (na m.toNatClampNeg).toInt ≠ 6 := by
      intro q
      rcases m3 with ⟨q1, _⟩ | ⟨_, q1⟩
      · omega
      · rw [m6, q1]; exact hw (by omega)
    have hts : fo.toInt ≠ 2 → tS = t := by
      intro q
      rcases m2 with ⟨q1, _⟩ | ⟨_, q1⟩
      · omega
      · exact q1
    have hrn : (0 ≤ rn.toInt ∧ rn.toInt < mn.toInt) ∧ smM na my pm rn m ∧ re rn.toNatClampNeg = re m.toNatClampNeg := by
      rcases hru with ⟨_, _, _, q⟩ | ⟨q1, q2, _, q3⟩ | ⟨_, q2, _, q3⟩ | ⟨_, _, _, q⟩
      · subst q; exact ⟨hm, sm_r _, rfl⟩
      · obtain ⟨u1, u2, u3⟩ := hsc sc mp m h q1
        rcases u3 with u3 | ⟨u3, u4⟩
        · omega
        · rw [hts (by omega)] at m7
          exact ch_re hd hn.2 hnc hmb hm (hfo2 (by omega)) (ht (by omega)) (uM_tr hd u4 u2.2 (ht (by omega)).1) m7 q3
      · rw [hts (by omega)] at m7
        exact ch_re hd hn.2 hnc hmb hm (hfo2 (by omega)) (ht (by omega)) (hvc q2).2 m7 q3
      · subst q; exact ⟨hm, sm_r _, rfl⟩
    obtain ⟨n1, n2, n3⟩ := hrn
    have hmm : my rn.toNatClampNeg = my m.toNatClampNeg := n2.2.1
    have hv1 : (ma m.toNatClampNeg &&& 4).toInt ≠ 0 → 1 ≤ (my m.toNatClampNeg).toInt := hvr m.toNatClampNeg (by omega)
    have hsf : s1.toInt ≤ (fy f.toNatClampNeg).toInt := by
      rcases m1 with ⟨_, q, _, q2⟩ | ⟨_, q⟩
      · have := q2.1; rw [q]; omega
      · rw [q]; omega
    have has := ag_s hf hfy.2 hs2 hag
    refine ⟨n1, hsf, ?_, ag_d htn has, fun q => ?_, fun g9 n9 e9 t9 i9 l9 q _ => gv_gt hd htn hs2 hfy hmy hv1 hth has m5 m8 hmm n2.2.2 q⟩
    · rw [hmm]
      have k := m8.1
      by_cases e : (ma m.toNatClampNeg &&& 4).toInt ≠ 0
      · have := hv1 e; omega
      · omega
    · rw [n3]
      by_cases e3 : fo.toInt = 3
      · rw [cm_3 e3] at q
        rw [hts (by omega)] at m7
        have hna : (na m.toNatClampNeg).toInt = 6 := by
          rcases m3 with ⟨_, q1⟩ | ⟨q1, _⟩
          · rw [m6, q1]; decide
          · omega
        rw [(hmb m.toNatClampNeg (by omega)).2 hna]
        rcases m7 with ⟨q1, _⟩ | ⟨_, q1, _⟩
        · rw [q1]; unfold cM; rw [if_neg (by omega)]; exact q
        · exact absurd hna q1
      · rwa [cm_4 ⟨by omega, e3⟩] at q
end
section
/-! nothing changes for the types that were there -/
def okT (ty x : Int32) : Prop := x.toInt < ty.toInt ∨ (10 ≤ x.toInt ∧ x.toInt < 20 + ty.toInt) ∨ 30 ≤ x.toInt
def hUU (ty : Int32) (pa pb : Nat → Int32) : Prop := ∀ x y : Int32, okT ty x → uM pa x y = uM pb x y
theorem hU_s {ty : Int32} {pa pb : Nat → Int32} (h : hUU ty pa pb) : hUU ty pb pa := fun x y q => (h x y q).symm
theorem lM_c {ty : Int32} {pa pb : Nat → Int32} (hU : hUU ty pa pb) (h2 : 2 ≤ ty.toInt) {a b : Int32} (ha : okT ty a) : lM pa a b ↔ lM pb a b := by
  unfold lM
  rw [hU a b ha, hU 1 b (Or.inl (by have : (1 : Int32).toInt = 1 := by decide
                                    omega))]
theorem had_c {ty : Int32} {pa pb ot na my pm : Nat → Int32} {mn t m : Int32} (hU : hUU ty pa pb) (hot : ∀ j : Nat, (j : Int) < mn.toInt → okT ty (ot (nI j).toNatClampNeg)) (ht : okT ty (cM t)) : hadM pa ot na my pm mn t m ↔ hadM pb ot na my pm mn t m := by
  unfold hadM
  rw [hU _ _ ht]
  have e : (∀ j : Nat, (j : Int) < mn.toInt → ¬ ovM pa ot na my pm (cM t) m (nI j)) ↔ (∀ j : Nat, (j : Int) < mn.toInt → ¬ ovM pb ot na my pm (cM t) m (nI j)) := by
    refine forall_congr' fun j => ?_
    refine imp_congr_right fun q => ?_
    unfold ovM
    rw [hU _ _ ht, hU _ _ (hot j q)]
  rw [e]
theorem tk_c {ty : Int32} {pa pb my pm fa fb ma fy gy : Nat → Int32} {m f s p : Int32} (hU : hUU ty pa pb) (h2 : 2 ≤ ty.toInt) (hy : fy f.toNatClampNeg = gy f.toNatClampNeg) (hf : ∀ j : Nat, (j : Int) < (fy f.toNatClampNeg).toInt - s.toInt → fa (3 * f + s + nI j).toNatClampNeg = fb (3 * f + s + nI j).toNatClampNeg ∧ okT ty (fa (3 * f + s + nI j).toNatClampNeg)) : tkM pa my pm fa ma fy m f s p ↔ tkM pb my pm fb ma gy m f s p := by
  unfold tkM
  rw [← hy]
  refine and_congr_right fun _ => ?_
  unfold tkL
  refine forall_congr' fun j => ?_
  refine imp_congr_right fun _ => ?_
  refine imp_congr_right fun q => ?_
  unfold fJ
  obtain ⟨q1, q2⟩ := hf j q
  rw [← q1, hU _ _ q2, lM_c hU h2 q2, lM_c hU h2 q2]
/-- what the members' types are -/
def mbK (ty : Int32) (ot re ma my pm : Nat → Int32) (mn : Int32) : Prop := ∀ j : Nat, (j : Int) < mn.toInt → okT ty (ot (nI j).toNatClampNeg) ∧ okT ty (re (nI j).toNatClampNeg) ∧ (∀ k : Nat, (k : Int) < (my (nI j).toNatClampNeg).toInt → okT ty (pm (3 * nI j + nI k).toNatClampNeg)) ∧ ((ma (nI j).toNatClampNeg &&& 4).toInt ≠ 0 → ∀ k : Nat, okT ty (plV my pm (nI j) (nI k)))
/-- what the face's are, and that two states have the same face -/
def fcK (ty : Int32) (fa fb fy gy : Nat → Int32) (f : Int32) : Prop := (0 ≤ f.toInt ∧ f.toInt < 10) ∧ (0 ≤ (fy f.toNatClampNeg).toInt ∧ (fy f.toNatClampNeg).toInt ≤ 3) ∧ fy f.toNatClampNeg = gy f.toNatClampNeg ∧ ∀ j : Nat, (j : Int) < (fy f.toNatClampNeg).toInt → fa (3 * f + nI j).toNatClampNeg = fb (3 * f + nI j).toNatClampNeg ∧ okT ty (fa (3 * f + nI j).toNatClampNeg)
theorem fc_s {ty : Int32} {fa fb fy gy : Nat → Int32} {f : Int32} (h : fcK ty fa fb fy gy f) {s : Int32} (hs : s = 1 ∨ s = 0) : ∀ j : Nat, (j : Int) < (fy f.toNatClampNeg).toInt - s.toInt → fa (3 * f + s + nI j).toNatClampNeg = fb (3 * f + s + nI j).toNatClampNeg ∧ okT ty (fa (3 * f + s + nI j).toNatClampNeg) := by
  have z0 : (0 : Int32).toInt = 0 := by decide
  have z1 : (1 : Int32).toInt = 1 := by decide
  obtain ⟨h1, h2, _, h3⟩ := h
  intro j q
  rcases hs with e | e
  · subst e
    rw [ix_1 h1 (by omega)]
    exact h3 (j + 1) (by omega)
  · subst e
    rw [ix_0 h1]
    exact h3 j (by omega)
theorem fit_c {ty : Int32} {pa pb ot na my pm ma fa fb fy gy : Nat → Int32} {mn t w f s p : Int32} {j : Nat} (hU : hUU ty pa pb) (h2 : 2 ≤ ty.toInt) {re : Nat → Int32} (hK : mbK ty ot re ma my pm mn) (hF : fcK ty fa fb fy gy f) (hs : s = 1 ∨ s = 0) (ht : okT ty (cM t)) : fitM pa ot na my pm ma fa fy mn t w f s p j ↔ fitM pb ot na my pm ma fb gy mn t w f s p j := by
  unfold fitM
  rw [had_c hU (fun j q => (hK j q).1) ht, tk_c hU h2 hF.2.2.1 (fc_s hF hs)]
theorem sp_c {ty : Int32} {pa pb my pm ma re ot : Nat → Int32} {mn p n : Int32} {j o : Nat} (hU : hUU ty pa pb) (hK : mbK ty ot re ma my pm mn) (hj : (j : Int) < mn.toInt) (hp : p.toInt ≤ 3) (hv : p.toInt = 3 → (ma (nI j).toNatClampNeg &&& 4).toInt ≠ 0) : spO pa my pm p n (nI j) (nI o) ↔ spO pb my pm p n (nI j) (nI o) := by
  unfold spO
  refine forall_congr' fun k => ?_
  refine imp_congr_right fun q => ?_
  unfold spK
  rcases q with ⟨q1, q2⟩ | ⟨q1, q2⟩
  · have e := (hK j hj).2.2.1 k q2
    rw [hU _ _ e]
    exact and_congr_right fun _ => ⟨fun _ q => by omega, fun _ q => by omega⟩
  · have e := (hK j hj).2.2.2 (hv q1) k
    rw [hU _ _ e]
    exact and_congr_left fun _ => ⟨fun _ q => by omega, fun _ q => by omega⟩
theorem fit_v {pa ot na my pm ma fa fy : Nat → Int32} {mn t w f s p : Int32} {j : Nat} (h : fitM pa ot na my pm ma fa fy mn t w f s p j) (hp : p.toInt = 3) : (ma (nI j).toNatClampNeg &&& 4).toInt ≠ 0 := by
  have := h.2.2.1
  omega
theorem spQ_c {ty : Int32} {pa pb ot na re my pm ma fa fb fy gy : Nat → Int32} {mn t w f s p : Int32} {j : Nat} (hU : hUU ty pa pb) (h2 : 2 ≤ ty.toInt) (hK : mbK ty ot re ma my pm mn) (hF : fcK ty fa fb fy gy f) (hs : s = 1 ∨ s = 0) (ht : okT ty (cM t)) (hp : p.toInt ≤ 3) (hj : (j : Int) < mn.toInt) : spF pa ot na my pm ma fa fy mn t w f s p j ↔ spF pb ot na my pm ma fb gy mn t w f s p j := by
  unfold spF
  rw [← fit_c (j := j) hU h2 hK hF hs ht, ← hF.2.2.1]
  refine and_congr_right fun q0 => ?_
  refine forall_congr' fun o => ?_
  refine imp_congr_right fun q1 => ?_
  rw [← fit_c (j := o) hU h2 hK hF hs ht]
  refine imp_congr_right fun q2 => ?_
  refine imp_congr_right fun _ => ?_
  exact sp_c hU hK hj hp (fun q => fit_v q0 q)
theorem uq_c {sp sq : Nat → Prop} {mn r : Int32} (h : ∀ j : Nat, (j : Int) < mn.toInt → (sp j ↔ sq j)) (k : uqM sp mn r) : uqM sq mn r := by
  rcases k with ⟨b, k1, k2, k3, k4⟩ | ⟨k1, k2⟩
  · exact Or.inl ⟨b, k1, k2, (h b k1).mp k3, fun j q1 q2 => k4 j q1 ((h j q1).mpr q2)⟩
  · refine Or.inr ⟨k1, fun ⟨b, q1, q2, q3⟩ => k2 ⟨b, q1, (h b q1).mpr q2, fun j q4 q5 => q3 j q4 ((h j q4).mp q5)⟩⟩
theorem nf_c {ty : Int32} {pa pb ot na re my pm ma fa fb fy gy : Nat → Int32} {mn t w f s : Int32} (p : Int32) (hU : hUU ty pa pb) (h2 : 2 ≤ ty.toInt) (hK : mbK ty ot re ma my pm mn) (hF : fcK ty fa fb fy gy f) (hs : s = 1 ∨ s = 0) (ht : okT ty (cM t)) : nfM pa ot na my pm ma fa fy mn t w f s p ↔ nfM pb ot na my pm ma fb gy mn t w f s p := by
  unfold nfM
  refine forall_congr' fun o => ?_
  refine imp_congr_right fun q1 => ?_
  rw [fit_c (j := o) hU h2 hK hF hs ht]
theorem sr_c {ty : Int32} {pa pb ot na re my pm ma fa fb fy gy : Nat → Int32} {mn t w f s p r : Int32} (hU : hUU ty pa pb) (h2 : 2 ≤ ty.toInt) (hK : mbK ty ot re ma my pm mn) (hF : fcK ty fa fb fy gy f) (hs : s = 1 ∨ s = 0) (ht : okT ty (cM t)) (h : srM pa ot na my pm ma fa fy mn t w f s p r) : srM pb ot na my pm ma fb gy mn t w f s p r := by
  have n := fun p => nf_c (w := w) p hU h2 hK hF hs ht (na := na) (re := re)
  have u := fun (p : Int32) (hp : p.toInt ≤ 3) (j : Nat) (q : (j : Int) < mn.toInt) => spQ_c (na := na) (w := w) (p := p) (j := j) hU h2 hK hF hs ht hp q
  unfold srM at h ⊢
  rw [n 1, n 2, n 3] at h
  rcases h with h | ⟨a1, a2, a3⟩ | ⟨a1, a2, a3, a4⟩ | ⟨a1, a2, a3, a4, a5⟩
  · exact Or.inl h
  · exact Or.inr (Or.inl ⟨a1, a2, uq_c (u 1 (by decide)) a3⟩)
  · exact Or.inr (Or.inr (Or.inl ⟨a1, a2, a3, uq_c (u 2 (by decide)) a4⟩))
  · exact Or.inr (Or.inr (Or.inr ⟨a1, a2, a3, a4, uq_c (u 3 (by decide)) a5⟩))
theorem c2_c {ty : Int32} {pa pb fa fb fy gy : Nat → Int32} {t f : Int32} (hU : hUU ty pa pb) (hF : fcK ty fa fb fy gy f) : c2M pa fa fy t f ↔ c2M pb fb gy t f := by
  unfold c2M
  rw [← hF.2.2.1]
  refine and_congr_right fun q => ?_
  have k := hF.2.2.2 0 (by have := hF.2.1; omega)
  rw [nI_00, Int32.add_zero] at k
  rw [← k.1, hU _ _ k.2]
theorem s2_c {ty : Int32} {pa pb ot na re my pm ma fa fb fy gy : Nat → Int32} {mn t w f p r : Int32} (hU : hUU ty pa pb) (h2 : 2 ≤ ty.toInt) (hK : mbK ty ot re ma my pm mn) (hF : fcK ty fa fb fy gy f) (ht : okT ty (cM t)) (h : s2M pa ot na my pm ma fa fy mn t w f p r) : s2M pb ot na my pm ma fb gy mn t w f p r := by
  unfold s2M at h ⊢
  rw [c2_c hU hF] at h
  rcases h with ⟨a1, a2⟩ | h
  · exact Or.inl ⟨a1, sr_c hU h2 hK hF (Or.inl rfl) ht a2⟩
  · exact Or.inr h
theorem one_c {ty : Int32} {pa pb ot na re my pm ma fa fb fy gy : Nat → Int32} {mn t w f p r : Int32} (hU : hUU ty pa pb) (h2 : 2 ≤ ty.toInt) (hK : mbK ty ot re ma my pm mn) (hF : fcK ty fa fb fy gy f) (ht : okT ty (cM t)) (h : oneM pa ot na my pm ma fa fy mn t w f p r) : oneM pb ot na my pm ma fb gy mn t w f p r := by
  obtain ⟨r1, a1, a2⟩ := h
  exact ⟨r1, sr_c hU h2 hK hF (Or.inr rfl) ht a1, a2⟩
theorem op_c {ty : Int32} {pa pb ot na my pm ma : Nat → Int32} {mn t : Int32} {k : Nat} (hU : hUU ty pa pb) (hot : ∀ j : Nat, (j : Int) < mn.toInt → okT ty (ot (nI j).toNatClampNeg)) (ht : okT ty (cM t)) : opL pa ot na my pm ma mn t k ↔ opL pb ot na my pm ma mn t k := by
  unfold opL
  refine exists_congr fun j => ?_
  rw [had_c (t := t) (m := nI j) hU hot ht]
theorem both_c {ty : Int32} {pa pb ot na re my pm ma fa fb fy gy : Nat → Int32} {mn t w f sc mp r : Int32} (hU : hUU ty pa pb) (h2 : 2 ≤ ty.toInt) (hK : mbK ty ot re ma my pm mn) (hF : fcK ty fa fb fy gy f) (ht : okT ty (cM t)) (h : bothM pa ot na my pm ma fa fy mn t w f sc mp r) : bothM pb ot na my pm ma fb gy mn t w f sc mp r := by
  obtain ⟨p1, r1, p2, r2, a1, a2, a3⟩ := h
  refine ⟨p1, r1, p2, r2, sr_c hU h2 hK hF (Or.inr rfl) ht a1, s2_c hU h2 hK hF ht a2, ?_⟩
  have e1 : S1M pa ot na my pm ma fa fy mn t w f p1 = S1M pb ot na my pm ma fb gy mn t w f p1 := by
    unfold S1M
    refine propext (exists_congr fun j => ?_)
    rw [fit_c (j := j) hU h2 hK hF (Or.inr rfl) ht]
  have e2 : A2M pa ot na my pm ma fa fy mn t w f p2 = A2M pb ot na my pm ma fb gy mn t w f p2 := by
    unfold A2M
    refine propext (forall_congr' fun j => ?_)
    rw [c2_c hU hF, fit_c (j := j) hU h2 hK hF (Or.inl rfl) ht]
  rw [← e1, ← e2]
  exact a3
theorem wm_c {ty : Int32} {pa pb ot na re my pm ma fa fb fy gy fr gr : Nat → Int32} {mn fo t w f sc mp m : Int32} (hU : hUU ty pa pb) (h2 : 2 ≤ ty.toInt) (hn : mn.toInt ≤ 40) (hK : mbK ty ot re ma my pm mn) (hF : fcK ty fa fb fy gy f) (hr : fr f.toNatClampNeg = gr f.toNatClampNeg) (ht : fo.toInt ≠ 4 → okT ty t ∧ okT ty (cM t)) (ht4 : fo.toInt = 4 → okT ty (20 + t)) (hpt : fo.toInt = 2 → pa t.toNatClampNeg = pb t.toNatClampNeg ∧ okT ty (cM (pa t.toNatClampNeg))) (hfo : 0 ≤ fo.toInt ∧ fo.toInt ≤ 4) (h : wmM pa ot na re my pm ma fa fy fr mn fo t w f sc mp m) : wmM pb ot na re my pm ma fb gy gr mn fo t w f sc mp m := by
  obtain ⟨r1, a1, a2⟩ := h
  refine ⟨r1, ?_, ?_⟩
  · rcases a1 with ⟨b0, b1⟩ | ⟨b0, b1, q, b2, b3⟩ | ⟨b0, b1, q, b2, b3⟩ | ⟨b0, b1, b2⟩ | ⟨b0, b1, b2, b3⟩
    · exact Or.inl ⟨b0, both_c hU h2 hK hF (ht (by omega)).2 b1⟩
    · exact Or.inr (Or.inl ⟨b0, b1, q, one_c hU h2 hK hF (ht (by omega)).2 b2, b3⟩)
    · refine Or.inr (Or.inr (Or.inl ⟨b0, b1, q, ?_, b3⟩))
      rw [← (hpt b0).1]
      exact one_c hU h2 hK hF (hpt b0).2 b2
    · refine Or.inr (Or.inr (Or.inr (Or.inl ⟨b0, b1, ?_⟩)))
      rw [← op_c hU (fun j q => (hK j q).1) (ht (by omega)).2, ← hF.2.2.1]
      rcases b2 with b2 | b2 | ⟨c1, c2, c3⟩
      · exact Or.inl b2
      · exact Or.inr (Or.inl b2)
      · exact Or.inr (Or.inr ⟨c1, c2, one_c hU h2 hK hF (ht (by omega)).2 c3⟩)
    · refine Or.inr (Or.inr (Or.inr (Or.inr ⟨b0, b1, b2, ?_⟩)))
      have e : ((fy f.toNatClampNeg).toInt = 1 ∧ lM pa (fa (3 * f).toNatClampNeg) 10) ↔ ((gy f.toNatClampNeg).toInt = 1 ∧ lM pb (fb (3 * f).toNatClampNeg) 10) := by
        rw [← hF.2.2.1]
        refine and_congr_right fun q => ?_
        have k := hF.2.2.2 0 (by omega)
        rw [nI_00, Int32.add_zero] at k
        rw [← k.1, lM_c hU h2 k.2]
      rw [← e]
      exact b3
  · rw [← hr]
    by_cases e0 : 0 ≤ r1.toInt
    · have hcm : okT ty (cmM re fo t r1) := by
        by_cases e4 : fo.toInt = 4
        · by_cases e10 : t.toInt = 10
          · rw [cm_1 ⟨e4, e10⟩]; exact Or.inr (Or.inr (by decide))
          · rw [cm_2 ⟨e4, e10⟩]; exact ht4 e4
        · by_cases e3 : fo.toInt = 3
          · rw [cm_3 e3]; exact (ht e4).1
          · rw [cm_4 ⟨e4, e3⟩]
            by_cases em : r1.toInt < mn.toInt
            · have k := (hK r1.toNatClampNeg (by have := xN e0; omega)).2.1
              rwa [nI_c (by have := xN e0; omega)] at k
            · exfalso
              have nb : ∀ {tt : Int32} {q : Int32} {ss : Int32} {pp : Int32}, srM pa ot na my pm ma fa fy mn tt w f ss pp q → q.toInt < mn.toInt ∨ q.toInt < 0 := by
                intro tt q ss pp k
                by_cases e : 0 ≤ q.toInt
                · have := (sr_tk k e).1; omega
                · omega
              have no : ∀ {tt : Int32} {q : Int32} {pp : Int32}, oneM pa ot na my pm ma fa fy mn tt w f pp q → q.toInt < mn.toInt ∨ q.toInt < 0 := by
                rintro tt q pp ⟨q1, k, ⟨_, k2⟩ | ⟨_, k2⟩ | ⟨_, _, k2⟩⟩
                · rw [k2]; exact Or.inr (by decide)
                · rw [k2]; exact Or.inr (by decide)
                · rw [k2]; exact nb k
              rcases a1 with ⟨b0, p1, q1, p2, q2, c1, c2, c3⟩ | ⟨b0, b1, q, b2, ⟨_, b3⟩ | ⟨_, b3⟩⟩ | ⟨b0, b1, q, b2, ⟨_, b3⟩ | ⟨_, b3⟩ | ⟨_, b3⟩ | ⟨_, b3⟩⟩ | ⟨b0, _⟩ | ⟨b0, _⟩
              · rcases c3 with ⟨_, e1, _⟩ | ⟨_, _, e1, _⟩ | ⟨_, _, _, _, _, e1⟩ | ⟨_, _, _, _, _, _, e1⟩ | ⟨_, _, _, _, _, _, e1⟩
                · subst e1; have := nb c1; omega
                · subst e1
                  rcases c2 with ⟨_, c2⟩ | ⟨_, _, c2⟩
                  · have := nb c2; omega
                  · rw [c2] at e0; exact absurd e0 (by decide)
                · rw [e1] at e0; exact absurd e0 (by decide)
                · rw [e1] at e0; exact absurd e0 (by decide)
                · rw [e1] at e0; exact absurd e0 (by decide)
              · rw [b3] at e0; exact absurd e0 (by decide)
              · subst b3; have := no b2; omega
              · subst b3; have := no b2; omega
              · rw [b3] at e0; exact absurd e0 (by decide)
              · rw [b3] at e0; exact absurd e0 (by decide)
              · subst b3; have := no b2; omega
              · omega
              · omega
      rw [← lM_c hU h2 hcm]
      exact a2
    · rcases a2 with a2 | ⟨⟨a2, _⟩, _⟩ | ⟨⟨a2, _⟩, _⟩
      · exact Or.inl a2
      · exact absurd a2 e0
      · exact absurd a2 e0
/-- a type more -/
theorem uR_n {pa : Nat → Int32} {n : Nat} {t y : Int32} (hd : paD pa) (hn : n ≤ 9) : ∀ (k : Nat) (x : Int32), (x.toInt < n ∨ 9 < x.toInt) → uR (upd pa n t) k x y = uR pa k x y := by
  intro k
  induction k with
  | zero => intro x _; rfl
  | succ k ih =>
    intro x hx
    by_cases e : x.toInt = y.toInt
    · rw [uR_eq e, uR_eq e]
    · by_cases e2 : 0 ≤ x.toInt ∧ x.toInt ≤ 9
      · rw [uR_step e e2.1 e2.2, uR_step e e2.1 e2.2]
        have hx2 := xN e2.1
        have := hd x.toNatClampNeg (by omega)
        rw [updN (by omega)]
        exact ih _ (by omega)
      · rw [uR_out e (by omega), uR_out e (by omega)]
theorem uM_n {pa : Nat → Int32} {ty t : Int32} (hd : paD pa) (hty : 2 ≤ ty.toInt ∧ ty.toInt ≤ 9) : hUU ty (upd pa ty.toNatClampNeg t) pa := by
  intro x y hx
  have hn := xN (x := ty) (by omega)
  have z20 : (-20 : Int32).toInt = -20 := by decide
  unfold uM
  split
  · rfl
  · split
    · next e1 e2 =>
      have e3 : (x + -20).toInt = x.toInt + -20 := iAdd rfl z20 (by omega) (by omega)
      exact uR_n hd (by omega) 11 _ (by unfold okT at hx; omega)
    · exact uR_n hd (by omega) 11 _ (by unfold okT at hx; omega)
end
section
theorem hq_at {g c1 c2 c3 c4 c5 c6 c7 c8 c9 c10 c11 c12 c13 c14 c15 c16 c17 c18 c19 c20 c21 c22 c23 c24 c25 c26 c27 c28 c29 c30 c31 c32 c33 c34 c35 c36 c37 c38 c39 c40 c41 c42 c43 c44 c45 c46 c47 c48 c49 : pm_C} {dyn : pm_H} {j : Nat} : (hq g c1 c2 c3 c4 c5 c6 c7 c8 c9 c10 c11 c12 c13 c14 c15 c16 c17 c18 c19 c20 c21 c22 c23 c24 c25 c26 c27 c28 c29 c30 c31 c32 c33 c34 c35 c36 c37 c38 c39 c40 c41 c42 c43 c44 c45 c46 c47 c48 c49 dyn)[j + 50]? = dyn[j]? := rfl
theorem hq_len {g c1 c2 c3 c4 c5 c6 c7 c8 c9 c10 c11 c12 c13 c14 c15 c16 c17 c18 c19 c20 c21 c22 c23 c24 c25 c26 c27 c28 c29 c30 c31 c32 c33 c34 c35 c36 c37 c38 c39 c40 c41 c42 c43 c44 c45 c46 c47 c48 c49 : pm_C} {dyn : pm_H} : (hq g c1 c2 c3 c4 c5 c6 c7 c8 c9 c10 c11 c12 c13 c14 c15 c16 c17 c18 c19 c20 c21 c22 c23 c24 c25 c26 c27 c28 c29 c30 c31 c32 c33 c34 c35 c36 c37 c38 c39 c40 c41 c42 c43 c44 c45 c46 c47 c48 c49 dyn).length = dyn.length + 50 := rfl
theorem hq_app {g c1 c2 c3 c4 c5 c6 c7 c8 c9 c10 c11 c12 c13 c14 c15 c16 c17 c18 c19 c20 c21 c22 c23 c24 c25 c26 c27 c28 c29 c30 c31 c32 c33 c34 c35 c36 c37 c38 c39 c40 c41 c42 c43 c44 c45 c46 c47 c48 c49 : pm_C} {dyn : pm_H} {e : pm_H} : hq g c1 c2 c3 c4 c5 c6 c7 c8 c9 c10 c11 c12 c13 c14 c15 c16 c17 c18 c19 c20 c21 c22 c23 c24 c25 c26 c27 c28 c29 c30 c31 c32 c33 c34 c35 c36 c37 c38 c39 c40 c41 c42 c43 c44 c45 c46 c47 c48 c49 dyn ++ e = hq g c1 c2 c3 c4 c5 c6 c7 c8 c9 c10 c11 c12 c13 c14 c15 c16 c17 c18 c19 c20 c21 c22 c23 c24 c25 c26 c27 c28 c29 c30 c31 c32 c33 c34 c35 c36 c37 c38 c39 c40 c41 c42 c43 c44 c45 c46 c47 c48 c49 (dyn ++ e) := rfl
theorem hq_set {g c1 c2 c3 c4 c5 c6 c7 c8 c9 c10 c11 c12 c13 c14 c15 c16 c17 c18 c19 c20 c21 c22 c23 c24 c25 c26 c27 c28 c29 c30 c31 c32 c33 c34 c35 c36 c37 c38 c39 c40 c41 c42 c43 c44 c45 c46 c47 c48 c49 : pm_C} {dyn : pm_H} {j : Nat} {x : pm_C} : (hq g c1 c2 c3 c4 c5 c6 c7 c8 c9 c10 c11 c12 c13 c14 c15 c16 c17 c18 c19 c20 c21 c22 c23 c24 c25 c26 c27 c28 c29 c30 c31 c32 c33 c34 c35 c36 c37 c38 c39 c40 c41 c42 c43 c44 c45 c46 c47 c48 c49 dyn).set (j + 50) x = hq g c1 c2 c3 c4 c5 c6 c7 c8 c9 c10 c11 c12 c13 c14 c15 c16 c17 c18 c19 c20 c21 c22 c23 c24 c25 c26 c27 c28 c29 c30 c31 c32 c33 c34 c35 c36 c37 c38 c39 c40 c41 c42 c43 c44 c45 c46 c47 c48 c49 (dyn.set j x) := rfl
theorem nbeq (t : Nat) : Nat.beq t t = true := by
  induction t with
  | zero => rfl
  | succ n ih => exact ih
theorem pm_gfD {y pc r a b ci x : Nat} {lv : pm_L} {st fs : List Value} {G : pm_H} {c n : Nat} {v : Value} {Q : pm_Q} (hk : pm_k y pc = some (.getfield x, a, b)) (hG : G[r]? = some (.inr (ci, fs))) (hf : fs[b]? = some v) (hc : Nat.beq ci a = true) (k : pm_WP y (pc + 3, lv, v :: st, G, c, n) Q) : pm_WP y (pc, lv, .ref r :: st, G, c, n) Q := by
  refine pm_sd (g := (pc + 3, lv, v :: st, G, c, n)) (s := Nat.beq ci a) ?_ hc k
  unfold pm_D
  dsimp only
  rw [hk]
  dsimp only
  unfold pm_I
  dsimp only
  rw [hG]
  dsimp only
  rw [hf]
  rfl
theorem pm_alD {y pc r a b t n0 : Nat} {lv : pm_L} {st : List Value} {G : pm_H} {c n : Nat} {z : _} {Q : pm_Q} (hk : pm_k y pc = some (.arraylength, a, b)) (hG : G[r]? = some (.inl (t, n0, z))) (k : pm_WP y (pc + 1, lv, .int (nI n0) :: st, G, c, n) Q) : pm_WP y (pc, lv, .ref r :: st, G, c, n) Q := by
  refine pm_go (g := (pc + 1, lv, .int (nI n0) :: st, G, c, n)) ?_ k
  unfold pm_D
  dsimp only
  rw [hk]
  dsimp only
  unfold pm_I
  dsimp only
  rw [hG]
  rfl
theorem pm_iaD {y pc r a b m : Nat} {i : Int32} {f : Nat → Int32} {lv : pm_L} {st : List Value} {G : pm_H} {c n : Nat} {Q : pm_Q} (hk : pm_k y pc = some (.iaload, a, b)) (hG : G[r]? = some (.inl (0, m, .inl f))) (hi : pm_in i m = true) (k : pm_WP y (pc + 1, lv, .int (f i.toNatClampNeg) :: st, G, c, n) Q) : pm_WP y (pc, lv, .int i :: .ref r :: st, G, c, n) Q := by
  refine pm_sd (g := (pc + 1, lv, .int (f i.toNatClampNeg) :: st, G, c, n)) (s := pm_in i m) ?_ hi k
  unfold pm_D
  dsimp only
  rw [hk]
  dsimp only
  unfold pm_I
  dsimp only
  rw [hG]
  rfl
theorem pm_aaD {y pc r a b t m : Nat} {i : Int32} {f : Nat → Option Nat} {v : Value} {lv : pm_L} {st : List Value} {G : pm_H} {c n : Nat} {Q : pm_Q} (hk : pm_k y pc = some (.aaload, a, b)) (hG : G[r]? = some (.inl (t + 3, m, .inr (.inr (.inr (.inr f)))))) (hi : pm_in i m = true) (hv : pm_rf (f i.toNatClampNeg) = v) (k : pm_WP y (pc + 1, lv, v :: st, G, c, n) Q) : pm_WP y (pc, lv, .int i :: .ref r :: st, G, c, n) Q := by
  refine pm_sd (g := (pc + 1, lv, v :: st, G, c, n)) (s := pm_in i m) ?_ hi k
  unfold pm_D
  dsimp only
  rw [hk]
  dsimp only
  unfold pm_I
  dsimp only
  rw [hG]
  dsimp only
  rw [hv]
  rfl
theorem pm_asD {y pc r a b t m v : Nat} {i : Int32} {f : Nat → Option Nat} {fs : List Value} {lv : pm_L} {st : List Value} {G : pm_H} {c n : Nat} {Q : pm_Q} (hk : pm_k y pc = some (.aastore, a, b)) (hG : G[r + 1]? = some (.inl (t + 3, m, .inr (.inr (.inr (.inr f)))))) (hv : G[v + 1]? = some (.inr (t, fs))) (hi : pm_in i m = true) (k : pm_WP y (pc + 1, lv, st, G.set (r + 1) (.inl (t + 3, m, .inr (.inr (.inr (.inr (va_up f i.toNatClampNeg (some (v + 1)))))))), c, n) Q) : pm_WP y (pc, lv, .ref (v + 1) :: .int i :: .ref (r + 1) :: st, G, c, n) Q := by
  refine pm_sd (g := (pc + 1, lv, st, G.set (r + 1) (.inl (t + 3, m, .inr (.inr (.inr (.inr (va_up f i.toNatClampNeg (some (v + 1)))))))), c, n)) (s := pm_in i m && Nat.beq t t) ?_ (by rw [hi, nbeq]; rfl) k
  unfold pm_D
  dsimp only
  rw [hk]
  dsimp only
  unfold pm_I
  dsimp only
  rw [hG, hv]
  rfl
theorem pm_ivD {y pc r a b ci x : Nat} {lv : pm_L} {st fs as rest : List Value} {G : pm_H} {c n : Nat} {Q : pm_Q} (hk : pm_k y pc = some (.invokevirtual x, a, b)) (hp : pm_pop (pm_na b) st [] = some (as, .ref r :: rest)) (hG : G[r]? = some (.inr (ci, fs))) (hc : (Nat.beq ci (pm_oc b) && (Nat.ble (pm_bc b) c && (Nat.ble (pm_bs b) n && (pm_ct rest && pm_cs (.ref r :: as) (pm_ml b))))) = true) (k : pm_WP b (0, lv_args 0 (.ref r :: as), [], G, pm_bc b, pm_bs b) (fun q G2 => pm_WP y (pc + 3, lv, q.toList ++ rest, G2, c - pm_bc b, n - pm_bs b) Q)) : pm_WP y (pc, lv, st, G, c, n) Q := by
  refine pm_callD (z := b) (as := .ref r :: as) (rest := rest) ?_ k
  unfold pm_D
  dsimp only
  rw [hk]
  dsimp only
  unfold pm_I
  dsimp only
  rw [hp]
  dsimp only
  rw [hG]
  dsimp only
  rw [hc]
  rfl
theorem pm_mxD {y pc b : Nat} {x u : Int32} {q : Nat} {lv : pm_L} {st : List Value} {G : pm_H} {c n : Nat} {Q : pm_Q} (hk : pm_k y pc = some (.invokestatic q, 6, b)) (hs : pm_ct st = true) (k1 : x.toInt < u.toInt → pm_WP y (pc + 3, lv, .int u :: st, G, c, n) Q) (k2 : u.toInt ≤ x.toInt → pm_WP y (pc + 3, lv, .int x :: st, G, c, n) Q) : pm_WP y (pc, lv, .int u :: .int x :: st, G, c, n) Q := by
  refine pm_sd (g := (pc + 3, lv, .int (if x < u then u else x) :: st, G, c, n)) (s := pm_ct st) ?_ hs ?_
  · unfold pm_D
    dsimp only
    rw [hk]
    rfl
  · by_cases e : x < u
    · rw [if_pos e]; exact k1 (Int32.lt_iff_toInt_lt.mp e)
    · rw [if_neg e]; exact k2 (Int.not_lt.mp (fun q => e (Int32.lt_iff_toInt_lt.mpr q)))
theorem pm_miD {y pc b : Nat} {x u : Int32} {q : Nat} {lv : pm_L} {st : List Value} {G : pm_H} {c n : Nat} {Q : pm_Q} (hk : pm_k y pc = some (.invokestatic q, 7, b)) (hs : pm_ct st = true) (k1 : u.toInt < x.toInt → pm_WP y (pc + 3, lv, .int u :: st, G, c, n) Q) (k2 : x.toInt ≤ u.toInt → pm_WP y (pc + 3, lv, .int x :: st, G, c, n) Q) : pm_WP y (pc, lv, .int u :: .int x :: st, G, c, n) Q := by
  refine pm_sd (g := (pc + 3, lv, .int (if u < x then u else x) :: st, G, c, n)) (s := pm_ct st) ?_ hs ?_
  · unfold pm_D
    dsimp only
    rw [hk]
    rfl
  · by_cases e : u < x
    · rw [if_pos e]; exact k1 (Int32.lt_iff_toInt_lt.mp e)
    · rw [if_neg e]; exact k2 (Int.not_lt.mp (fun q => e (Int32.lt_iff_toInt_lt.mpr q)))
theorem fitB {x : Int32} (h : x.toInt = 0 ∨ x.toInt = 1) : (decide (x = 0) || decide (x = 1)) = true := by
  rcases h with h | h
  · rw [show x = 0 from Int32.toInt_inj.mp (h.trans (by decide))]; rfl
  · rw [show x = 1 from Int32.toInt_inj.mp (h.trans (by decide))]; rfl
theorem pm_retB {y pc a b : Nat} {x : Int32} {lv : pm_L} {G : pm_H} {c n : Nat} {Q : pm_Q} (hk : pm_k y pc = some (.ireturn, a, b)) (hr : pm_rty y = some .boolean) (h : x.toInt = 0 ∨ x.toInt = 1) (k : Q (some (.int x)) G) : pm_WP y (pc, lv, [.int x], G, c, n) Q := by
  refine pm_ret (r := some (.int x)) ?_ k
  unfold pm_D
  dsimp only
  rw [hk]
  dsimp only
  unfold pm_I
  dsimp only
  rw [hr]
  dsimp only
  rw [fitB h]
  rfl
/-! what is made stays as it was made: members, faces, references, values -/
def isAr (dyn : pm_H) (p n : Nat) (f : Nat → Int32) : Prop := dyn[p]? = some (.inl (0, n, .inl f)) ∧ n ≤ 3
def isMb (dyn : pm_H) (j : Nat) : Prop := ∃ (nu ow na re ma : Int32) (p : Nat) (sg : Int32) (n : Nat) (f : Nat → Int32), dyn[j]? = some (.inr (3, [.int nu, .int ow, .int na, .int re, .int ma, .ref (p + 50), .int sg])) ∧ (dyn[p]? = some (.inl (0, n, .inl f)) ∧ n ≤ 3)
def isFc (dyn : pm_H) (j : Nat) : Prop := ∃ (p : Nat) (re : Int32) (n : Nat) (f : Nat → Int32), dyn[j]? = some (.inr (1, [.ref (p + 50), .int re])) ∧ (dyn[p]? = some (.inl (0, n, .inl f)) ∧ n ≤ 3)
def isRf (dyn : pm_H) (j : Nat) : Prop := ∃ (fo t na : Int32), dyn[j]? = some (.inr (5, [.int fo, .int t, .int na]))
def vNM (dyn : pm_H) (v : Value) : Prop := v = .null ∨ ∃ j : Nat, v = .ref (j + 50) ∧ isMb dyn j
def isVl (dyn : pm_H) (j : Nat) : Prop := ∃ (r f : Nat) (rc : Int32) (v : Value) (bs ip co : Int32), dyn[j]? = some (.inr (10, [.ref (r + 50), .ref (f + 50), .int rc, v, .int bs, .int ip, .int co])) ∧ isRf dyn r ∧ isFc dyn f ∧ vNM dyn v
def isMp (dyn : pm_H) (j p n : Nat) (f : Nat → Int32) : Prop := ∃ (nu ow na re ma sg : Int32), dyn[j]? = some (.inr (3, [.int nu, .int ow, .int na, .int re, .int ma, .ref (p + 50), .int sg])) ∧ (dyn[p]? = some (.inl (0, n, .inl f)) ∧ n ≤ 3)
theorem isMp_i {dyn : pm_H} {j p n : Nat} {f : Nat → Int32} (h : isMp dyn j p n f) : isMb dyn j := by
  obtain ⟨nu, ow, na, re, ma, sg, h⟩ := h
  exact ⟨nu, ow, na, re, ma, p, sg, n, f, h⟩
def isVm (dyn : pm_H) (j : Nat) : Prop := ∃ (r f : Nat) (rc : Int32) (m : Nat) (bs ip co : Int32), dyn[j]? = some (.inr (10, [.ref (r + 50), .ref (f + 50), .int rc, .ref (m + 50), .int bs, .int ip, .int co])) ∧ isRf dyn r ∧ isFc dyn f ∧ isMb dyn m
def alD (mn : Int32) (al : Nat → Option Nat) (dyn : pm_H) : Prop := ∀ i : Nat, (i : Int) < mn.toInt → ∃ j : Nat, al i = some (j + 50) ∧ isMb dyn j
def faD (fn : Int32) (fa : Nat → Option Nat) (dyn : pm_H) : Prop := ∀ i : Nat, (i : Int) < fn.toInt → ∃ j : Nat, fa i = some (j + 50) ∧ isFc dyn j
def reD (rn : Int32) (re : Nat → Option Nat) (dyn : pm_H) : Prop := ∀ i : Nat, (i : Int) < rn.toInt → ∃ j : Nat, re i = some (j + 50) ∧ isRf dyn j
def vlD (vn : Int32) (vl : Nat → Option Nat) (dyn : pm_H) : Prop := ∀ i : Nat, (i : Int) < vn.toInt → ∃ j : Nat, vl i = some (j + 50) ∧ isVl dyn j
def byV (v : Value) : Prop := v = .null ∨ v = .ref 10 ∨ v = .ref 11
theorem ap_at {dyn e : pm_H} {j : Nat} {x : pm_C} (h : dyn[j]? = some x) : (dyn ++ e)[j]? = some x := by
  rw [List.getElem?_append_left (by
    rcases Nat.lt_or_ge j dyn.length with q | q
    · exact q
    · rw [List.getElem?_eq_none q] at h; cases h)]
  exact h
theorem mb_ap {dyn : pm_H} (e : pm_H) {j : Nat} (h : isMb dyn j) : isMb (dyn ++ e) j := by
  obtain ⟨nu, ow, na, re, ma, p, sg, n, f, h1, h2, h3⟩ := h
  exact ⟨nu, ow, na, re, ma, p, sg, n, f, ap_at h1, ap_at h2, h3⟩
theorem fc_ap {dyn : pm_H} (e : pm_H) {j : Nat} (h : isFc dyn j) : isFc (dyn ++ e) j := by
  obtain ⟨p, re, n, f, h1, h2, h3⟩ := h
  exact ⟨p, re, n, f, ap_at h1, ap_at h2, h3⟩
theorem rf_ap {dyn : pm_H} (e : pm_H) {j : Nat} (h : isRf dyn j) : isRf (dyn ++ e) j := by
  obtain ⟨fo, t, na, h1⟩ := h
  exact ⟨fo, t, na, ap_at h1⟩
theorem nm_ap {dyn : pm_H} (e : pm_H) {v : Value} (h : vNM dyn v) : vNM (dyn ++ e) v := by
  rcases h with h | ⟨j, h1, h2⟩
  · exact Or.inl h
  · exact Or.inr ⟨j, h1, mb_ap e h2⟩
theorem vl_ap {dyn : pm_H} (e : pm_H) {j : Nat} (h : isVl dyn j) : isVl (dyn ++ e) j := by
  obtain ⟨r, f, rc, v, bs, ip, co, h1, h2, h3, h4⟩ := h
  exact ⟨r, f, rc, v, bs, ip, co, ap_at h1, rf_ap e h2, fc_ap e h3, nm_ap e h4⟩
theorem alD_ap {mn : Int32} {al : Nat → Option Nat} {dyn : pm_H} (e : pm_H) (h : alD mn al dyn) : alD mn al (dyn ++ e) := fun i q => by obtain ⟨j, h1, h2⟩ := h i q; exact ⟨j, h1, mb_ap e h2⟩
theorem faD_ap {mn : Int32} {al : Nat → Option Nat} {dyn : pm_H} (e : pm_H) (h : faD mn al dyn) : faD mn al (dyn ++ e) := fun i q => by obtain ⟨j, h1, h2⟩ := h i q; exact ⟨j, h1, fc_ap e h2⟩
theorem reD_ap {mn : Int32} {al : Nat → Option Nat} {dyn : pm_H} (e : pm_H) (h : reD mn al dyn) : reD mn al (dyn ++ e) := fun i q => by obtain ⟨j, h1, h2⟩ := h i q; exact ⟨j, h1, rf_ap e h2⟩
theorem vlD_ap {mn : Int32} {al : Nat → Option Nat} {dyn : pm_H} (e : pm_H) (h : vlD mn al dyn) : vlD mn al (dyn ++ e) := fun i q => by obtain ⟨j, h1, h2⟩ := h i q; exact ⟨j, h1, vl_ap e h2⟩
theorem alD_at {mn : Int32} {al : Nat → Option Nat} {dyn : pm_H} (h : alD mn al dyn) {i : Int32} (h0 : 0 ≤ i.toInt) (h1 : i.toInt < mn.toInt) : ∃ j : Nat, pm_rf (al i.toNatClampNeg) = .ref (j + 50) ∧ isMb dyn j := by
  obtain ⟨j, q1, q2⟩ := h i.toNatClampNeg (by have := xN h0; omega)
  exact ⟨j, by rw [q1]; rfl, q2⟩
theorem faD_at {mn : Int32} {al : Nat → Option Nat} {dyn : pm_H} (h : faD mn al dyn) {i : Int32} (h0 : 0 ≤ i.toInt) (h1 : i.toInt < mn.toInt) : ∃ j : Nat, pm_rf (al i.toNatClampNeg) = .ref (j + 50) ∧ isFc dyn j := by
  obtain ⟨j, q1, q2⟩ := h i.toNatClampNeg (by have := xN h0; omega)
  exact ⟨j, by rw [q1]; rfl, q2⟩
theorem reD_at {mn : Int32} {al : Nat → Option Nat} {dyn : pm_H} (h : reD mn al dyn) {i : Int32} (h0 : 0 ≤ i.toInt) (h1 : i.toInt < mn.toInt) : ∃ j : Nat, pm_rf (al i.toNatClampNeg) = .ref (j + 50) ∧ isRf dyn j := by
  obtain ⟨j, q1, q2⟩ := h i.toNatClampNeg (by have := xN h0; omega)
  exact ⟨j, by rw [q1]; rfl, q2⟩
theorem vlD_at {mn : Int32} {al : Nat → Option Nat} {dyn : pm_H} (h : vlD mn al dyn) {i : Int32} (h0 : 0 ≤ i.toInt) (h1 : i.toInt < mn.toInt) : ∃ j : Nat, pm_rf (al i.toNatClampNeg) = .ref (j + 50) ∧ isVl dyn j := by
  obtain ⟨j, q1, q2⟩ := h i.toNatClampNeg (by have := xN h0; omega)
  exact ⟨j, by rw [q1]; rfl, q2⟩
theorem rem50 {x : Int32} (h : 0 ≤ x.toInt) : 0 ≤ (x - x / 50 * 50).toInt ∧ (x - x / 50 * 50).toInt < 50 := by
  have e50 : (50 : Int32).toInt = 50 := by decide
  have e1 : (x / 50).toInt = x.toInt / 50 := by
    rw [Int32.toInt_div, e50, Int.tdiv_eq_ediv_of_nonneg h]
    have h3 := x.toInt_lt
    exact Int.bmod_eq_of_le (by omega) (by omega)
  have h3 := x.toInt_lt
  have e2 : (x / 50 * 50).toInt = x.toInt / 50 * 50 := iMul e1 e50 (by omega) (by omega)
  have e3 := iSub (a := x) (b := x / 50 * 50) rfl e2 (by omega) (by omega)
  omega
theorem at_mid {dyn e : pm_H} {x : pm_C} : (dyn ++ x :: e)[dyn.length]? = some x := by simp
theorem at_mid1 {dyn e : pm_H} {x z : pm_C} : (dyn ++ x :: z :: e)[dyn.length + 1]? = some z := by
  rw [List.getElem?_append_right (by omega), show dyn.length + 1 - dyn.length = 1 by omega]
  rfl
theorem set_mid {dyn e : pm_H} {x y : pm_C} : (dyn ++ x :: e).set dyn.length y = dyn ++ y :: e := by
  rw [List.set_append_right _ _ (Nat.le_refl _), Nat.sub_self]
  rfl
theorem ap2 {dyn : pm_H} {x z : pm_C} : (dyn ++ [x]) ++ [z] = dyn ++ [x, z] := by rw [List.append_assoc]; rfl
theorem len1 {dyn : pm_H} {x : pm_C} : (dyn ++ [x]).length = dyn.length + 1 := by rw [List.length_append]; rfl
theorem at_bk {dyn : pm_H} {fs : List Value} {j : Nat} {x : pm_C} (h : (dyn ++ [.inr (10, fs)])[j]? = some x) (hx : x ≠ .inr (10, fs)) : dyn[j]? = some x := by
  rcases Nat.lt_or_ge j dyn.length with q | q
  · rw [List.getElem?_append_left q] at h; exact h
  · rw [List.getElem?_append_right q] at h
    cases e : j - dyn.length with
    | zero => rw [e] at h; exact absurd (Option.some.inj h).symm hx
    | succ n => rw [e] at h; cases h
theorem mb_bk {dyn : pm_H} {fs : List Value} {j : Nat} (h : isMb (dyn ++ [.inr (10, fs)]) j) : isMb dyn j := by
  obtain ⟨nu, ow, na, re, ma, p, sg, n, f, h1, h2, h3⟩ := h
  refine ⟨nu, ow, na, re, ma, p, sg, n, f, at_bk h1 (fun q => ?_), at_bk h2 (fun q => ?_), h3⟩
  · injection q with q; injection q with q; exact absurd q (by decide)
  · cases q
theorem pm_nwD {y pc a b x : Nat} {lv : pm_L} {st : List Value} {G : pm_H} {c n : Nat} {Q : pm_Q} (hk : pm_k y pc = some (.new x, a, b)) (hc : (Nat.ble 1 c && Nat.ble (pm_nf a) n) = true) (k : pm_WP y (pc + 3, lv, .ref G.length :: st, G ++ [.inr (a, pm_df a)], c - 1, n - pm_nf a) Q) : pm_WP y (pc, lv, st, G, c, n) Q := by
  refine pm_sd (g := (pc + 3, lv, .ref G.length :: st, G ++ [.inr (a, pm_df a)], c - 1, n - pm_nf a)) (s := Nat.ble 1 c && Nat.ble (pm_nf a) n) ?_ hc k
  unfold pm_D
  dsimp only
  rw [hk]
  rfl
theorem pm_naD {y pc a b : Nat} {m : Int32} {lv : pm_L} {st : List Value} {G : pm_H} {c n : Nat} {Q : pm_Q} (hk : pm_k y pc = some (.newarray .int, a, b)) (h0 : 0 ≤ m.toInt ∧ m.toInt ≤ 3) (hc : 1 ≤ c ∧ 3 ≤ n) (k : pm_WP y (pc + 2, lv, .ref G.length :: st, G ++ [.inl (0, m.toNatClampNeg, .inl (fun _ => 0))], c - 1, n - m.toNatClampNeg) Q) : pm_WP y (pc, lv, .int m :: st, G, c, n) Q := by
  have hx := xN h0.1
  have hm : (decide (m < 0)) = false := by
    rw [decide_eq_false_iff_not, Int32.lt_iff_toInt_lt]
    have z0 : (0 : Int32).toInt = 0 := by decide
    omega
  refine pm_sd (g := (pc + 2, lv, .ref G.length :: st, G ++ [.inl (0, m.toNatClampNeg, .inl (fun _ => 0))], c - 1, n - m.toNatClampNeg)) (s := !(decide (m < 0)) && (Nat.ble (m.toNatClampNeg * 8) 536870912 && (Nat.ble 1 c && Nat.ble m.toNatClampNeg n))) ?_ ?_ k
  · unfold pm_D
    dsimp only
    rw [hk]
    rfl
  · rw [hm, Nat.ble_eq_true_of_le (show m.toNatClampNeg * 8 ≤ 536870912 by omega), Nat.ble_eq_true_of_le hc.1, Nat.ble_eq_true_of_le (show m.toNatClampNeg ≤ n by omega)]
    rfl
theorem pm_acD {y pc b x q r n0 n1 : Nat} {m : Int32} {f u : Nat → Int32} {lv : pm_L} {st : List Value} {G : pm_H} {c n : Nat} {Q : pm_Q} (hk : pm_k y pc = some (.invokestatic x, 8, b)) (hq0 : G[q + 1]? = some (.inl (0, n0, .inl f))) (hr : G[r + 1]? = some (.inl (0, n1, .inl u))) (h0 : 0 ≤ m.toInt) (h1 : m.toNatClampNeg ≤ n0) (h2 : m.toNatClampNeg ≤ n1) (hs : pm_ct st = true) (k : pm_WP y (pc + 3, lv, st, G.set (r + 1) (.inl (0, n1, .inl (va_cpy f u 0 0 m.toNatClampNeg))), c, n) Q) : pm_WP y (pc, lv, .int m :: .int 0 :: .ref (r + 1) :: .int 0 :: .ref (q + 1) :: st, G, c, n) Q := by
  have hm : (decide (m < 0)) = false := by
    rw [decide_eq_false_iff_not, Int32.lt_iff_toInt_lt]
    have z0 : (0 : Int32).toInt = 0 := by decide
    omega
  refine pm_sd (g := (pc + 3, lv, st, G.set (r + 1) (.inl (0, n1, .inl (va_cpy f u 0 0 m.toNatClampNeg))), c, n)) (s := !(decide ((0 : Int32) < 0)) && (!(decide ((0 : Int32) < 0)) && (!(decide (m < 0)) && (Nat.ble (0 + m.toNatClampNeg) n0 && (Nat.ble (0 + m.toNatClampNeg) n1 && pm_ct st))))) ?_ ?_ k
  · unfold pm_D
    dsimp only
    rw [hk]
    dsimp only
    unfold pm_I
    dsimp only
    rw [hq0, hr]
    rfl
  · rw [hm, hs, Nat.ble_eq_true_of_le (show 0 + m.toNatClampNeg ≤ n0 by omega), Nat.ble_eq_true_of_le (show 0 + m.toNatClampNeg ≤ n1 by omega)]
    rfl
theorem hq_set2 {g c1 c2 c3 c4 c5 c6 c7 c8 c9 c10 c11 c12 c13 c14 c15 c16 c17 c18 c19 c20 c21 c22 c23 c24 c25 c26 c27 c28 c29 c30 c31 c32 c33 c34 c35 c36 c37 c38 c39 c40 c41 c42 c43 c44 c45 c46 c47 c48 c49 : pm_C} {dyn : pm_H} {x y : pm_C} {e : pm_H} : (hq g c1 c2 c3 c4 c5 c6 c7 c8 c9 c10 c11 c12 c13 c14 c15 c16 c17 c18 c19 c20 c21 c22 c23 c24 c25 c26 c27 c28 c29 c30 c31 c32 c33 c34 c35 c36 c37 c38 c39 c40 c41 c42 c43 c44 c45 c46 c47 c48 c49 (dyn ++ x :: e)).set (dyn.length + 49 + 1) y = hq g c1 c2 c3 c4 c5 c6 c7 c8 c9 c10 c11 c12 c13 c14 c15 c16 c17 c18 c19 c20 c21 c22 c23 c24 c25 c26 c27 c28 c29 c30 c31 c32 c33 c34 c35 c36 c37 c38 c39 c40 c41 c42 c43 c44 c45 c46 c47 c48 c49 (dyn ++ y :: e) := by rw [show dyn.length + 49 + 1 = dyn.length + 50 from rfl, hq_set, set_mid]
theorem pm_pfM {g c1 c2 c3 c4 c5 c6 c7 c8 c9 c10 c11 c12 c13 c14 c15 c16 c17 c18 c19 c20 c21 c22 c23 c24 c25 c26 c27 c28 c29 c30 c31 c32 c33 c34 c35 c36 c37 c38 c39 c40 c41 c42 c43 c44 c45 c46 c47 c48 c49 : pm_C} {dyn : pm_H} {y pc a b ci x : Nat} {lv : pm_L} {st fs : List Value} {e : pm_H} {c n : Nat} {v : Value} {Q : pm_Q} (hk : pm_k y pc = some (.putfield x, a, b)) (hc : (Nat.beq ci a && (Nat.blt b fs.length && pm_fits (pm_ft a b) v)) = true) (k : pm_WP y (pc + 3, lv, st, hq g c1 c2 c3 c4 c5 c6 c7 c8 c9 c10 c11 c12 c13 c14 c15 c16 c17 c18 c19 c20 c21 c22 c23 c24 c25 c26 c27 c28 c29 c30 c31 c32 c33 c34 c35 c36 c37 c38 c39 c40 c41 c42 c43 c44 c45 c46 c47 c48 c49 (dyn ++ .inr (a, fs.set b v) :: e), c, n) Q) : pm_WP y (pc, lv, v :: .ref (dyn.length + 50) :: st, hq g c1 c2 c3 c4 c5 c6 c7 c8 c9 c10 c11 c12 c13 c14 c15 c16 c17 c18 c19 c20 c21 c22 c23 c24 c25 c26 c27 c28 c29 c30 c31 c32 c33 c34 c35 c36 c37 c38 c39 c40 c41 c42 c43 c44 c45 c46 c47 c48 c49 (dyn ++ .inr (ci, fs) :: e), c, n) Q := by
  refine pm_sd (g := (pc + 3, lv, st, hq g c1 c2 c3 c4 c5 c6 c7 c8 c9 c10 c11 c12 c13 c14 c15 c16 c17 c18 c19 c20 c21 c22 c23 c24 c25 c26 c27 c28 c29 c30 c31 c32 c33 c34 c35 c36 c37 c38 c39 c40 c41 c42 c43 c44 c45 c46 c47 c48 c49 (dyn ++ .inr (a, fs.set b v) :: e), c, n)) (s := Nat.beq ci a && (Nat.blt b fs.length && pm_fits (pm_ft a b) v)) ?_ hc k
  unfold pm_D
  dsimp only
  rw [hk]
  dsimp only
  unfold pm_I
  dsimp only
  rw [show (hq g c1 c2 c3 c4 c5 c6 c7 c8 c9 c10 c11 c12 c13 c14 c15 c16 c17 c18 c19 c20 c21 c22 c23 c24 c25 c26 c27 c28 c29 c30 c31 c32 c33 c34 c35 c36 c37 c38 c39 c40 c41 c42 c43 c44 c45 c46 c47 c48 c49 (dyn ++ .inr (ci, fs) :: e))[dyn.length + 50]? = some (.inr (ci, fs)) from hq_at.trans at_mid]
  dsimp only
  rw [hq_set, set_mid]
  rfl
end
section
/-! bits of an int and of a long (the first rows were pasted from the kit's laws) -/
def bt (x : Int32) (i : Nat) : Bool := x.toBitVec.getLsbD i
theorem b_or (x y : Int32) (i : Nat) : bt (x ||| y) i = (bt x i || bt y i) := by unfold bt; rw [Int32.toBitVec_or, BitVec.getLsbD_or]
theorem b_and (x y : Int32) (i : Nat) : bt (x &&& y) i = (bt x i && bt y i) := by unfold bt; rw [Int32.toBitVec_and, BitVec.getLsbD_and]
theorem b_big {x : Int32} {i : Nat} (h : 32 ≤ i) : bt x i = false := BitVec.getLsbD_of_ge _ _ h
theorem b_0 (i : Nat) : bt 0 i = false := BitVec.getLsbD_zero
theorem s_l : ∀ n, n < 32 → ((nI n &&& 31).toBitVec.smod 32).toNat = n := by decide +kernel
theorem b_shl (n : Nat) (hn : n < 32) (x : Int32) {i : Nat} (hi : i < 32) : bt (x <<< (nI n &&& 31)) i = (decide (n ≤ i) && bt x (i - n)) := by
  unfold bt
  rw [Int32.toBitVec_shiftLeft]
  show (x.toBitVec <<< ((nI n &&& 31).toBitVec.smod 32).toNat).getLsbD i = _
  rw [s_l n hn, BitVec.getLsbD_shiftLeft]
  rcases Nat.lt_or_ge i n with h | h
  · simp [h, Nat.not_le.mpr h]
  · simp [hi, h, Nat.not_lt.mpr h]
theorem b_sshr (n : Nat) (hn : n < 32) (x : Int32) {i : Nat} (hi : i < 32) : bt (x >>> (nI n &&& 31)) i = if n + i < 32 then bt x (n + i) else bt x 31 := by
  unfold bt
  rw [Int32.toBitVec_shiftRight]
  show (x.toBitVec.sshiftRight ((nI n &&& 31).toBitVec.smod 32).toNat).getLsbD i = _
  rw [s_l n hn, BitVec.getLsbD_sshiftRight, BitVec.msb_eq_getLsbD_last]
  simp [hi]
theorem b_one : ∀ i, i < 32 → bt 1 i = decide (i = 0) := by decide +kernel
theorem b_1 (n : Nat) (hn : n < 32) {i : Nat} (hi : i < 32) : bt (1 <<< (nI n &&& 31)) i = decide (i = n) := by
  rw [b_shl n hn 1 hi]
  rcases Nat.lt_trichotomy i n with h | h | h
  · rw [decide_eq_false (by omega), decide_eq_false (by omega)]; rfl
  · subst h; rw [b_one _ (by omega)]; simp
  · rw [b_one _ (by omega), decide_eq_true (by omega), decide_eq_false (by omega), decide_eq_false (by omega)]; rfl
theorem b_ne {x : Int32} {i : Nat} (h : bt x i = true) : x.toInt ≠ 0 := by
  intro q
  have e : x = 0 := Int32.toInt_inj.mp (q.trans (by decide))
  rw [e, b_0] at h
  cases h
theorem b_ext {x y : Int32} (h : ∀ i, i < 32 → bt x i = bt y i) : x = y := Int32.toBitVec_inj.mp (BitVec.eq_of_getLsbD_eq (fun i hi => h i hi))
/-- a number masked to its first bit -/
theorem b_a1 {x : Int32} : (x &&& 1).toInt ≠ 0 ↔ bt x 0 = true := by
  constructor
  · intro h
    cases e : bt x 0
    · exfalso
      apply h
      have e2 : x &&& 1 = 0 := b_ext (fun i hi => by
        rw [b_and, b_0, b_one i hi]
        by_cases q : i = 0
        · subst q; rw [e]; rfl
        · rw [decide_eq_false q, Bool.and_false])
      rw [e2]; decide
    · rfl
  · intro h
    refine b_ne (i := 0) ?_
    rw [b_and, h]; decide
/-- the n-th bit, as the class asks for it -/
theorem b_q {x b : Int32} (h0 : 0 ≤ b.toInt) (h1 : b.toInt ≤ 31) : ((x >>> (b &&& 31)) &&& 1).toInt ≠ 0 ↔ bt x b.toNatClampNeg = true := by
  have hb := xN h0
  have e : b = nI b.toNatClampNeg := xJ (by rw [nI_toInt (by omega), hb])
  rw [b_a1]
  conv => lhs; rw [e]
  rw [b_sshr _ (by omega) x (by omega), if_pos (by omega), Nat.add_zero]
/-! the same of a long -/
def bl (x : Int64) (i : Nat) : Bool := x.toBitVec.getLsbD i
theorem l_or (x y : Int64) (i : Nat) : bl (x ||| y) i = (bl x i || bl y i) := by unfold bl; rw [Int64.toBitVec_or, BitVec.getLsbD_or]
theorem l_and (x y : Int64) (i : Nat) : bl (x &&& y) i = (bl x i && bl y i) := by unfold bl; rw [Int64.toBitVec_and, BitVec.getLsbD_and]
theorem l_xor (x y : Int64) (i : Nat) : bl (x ^^^ y) i = (bl x i ^^ bl y i) := by unfold bl; rw [Int64.toBitVec_xor, BitVec.getLsbD_xor]
theorem l_0 (i : Nat) : bl 0 i = false := BitVec.getLsbD_zero
theorem l_m1 : ∀ i, i < 64 → bl (-1) i = true := by decide +kernel
theorem s_L : ∀ n, n < 64 → (((nI n).toInt64 &&& 63).toBitVec.smod 64).toNat = n := by decide +kernel
theorem l_ext {x y : Int64} (h : ∀ i, i < 64 → bl x i = bl y i) : x = y := Int64.toBitVec_inj.mp (BitVec.eq_of_getLsbD_eq (fun i hi => h i hi))
theorem l_shl (n : Nat) (hn : n < 64) (x : Int64) {i : Nat} (hi : i < 64) : bl (x <<< ((nI n).toInt64 &&& 63)) i = (decide (n ≤ i) && bl x (i - n)) := by
  unfold bl
  rw [Int64.toBitVec_shiftLeft]
  show (x.toBitVec <<< (((nI n).toInt64 &&& 63).toBitVec.smod 64).toNat).getLsbD i = _
  rw [s_L n hn, BitVec.getLsbD_shiftLeft]
  rcases Nat.lt_or_ge i n with h | h
  · simp [h, Nat.not_le.mpr h]
  · simp [hi, h, Nat.not_lt.mpr h]
theorem l_sshr (n : Nat) (hn : n < 64) (x : Int64) {i : Nat} (hi : i < 64) : bl (x >>> ((nI n).toInt64 &&& 63)) i = if n + i < 64 then bl x (n + i) else bl x 63 := by
  unfold bl
  rw [Int64.toBitVec_shiftRight]
  show (x.toBitVec.sshiftRight (((nI n).toInt64 &&& 63).toBitVec.smod 64).toNat).getLsbD i = _
  rw [s_L n hn, BitVec.getLsbD_sshiftRight, BitVec.msb_eq_getLsbD_last]
  simp [hi]
theorem l_one : ∀ i, i < 64 → bl 1 i = decide (i = 0) := by decide +kernel
theorem l_1 (n : Nat) (hn : n < 64) {i : Nat} (hi : i < 64) : bl (1 <<< ((nI n).toInt64 &&& 63)) i = decide (i = n) := by
  rw [l_shl n hn 1 hi]
  rcases Nat.lt_trichotomy i n with h | h | h
  · rw [decide_eq_false (by omega), decide_eq_false (by omega)]; rfl
  · subst h; rw [l_one _ (by omega)]; simp
  · rw [l_one _ (by omega), decide_eq_true (by omega), decide_eq_false (by omega), decide_eq_false (by omega)]; rfl
theorem l_nz {x : Int64} : x ≠ 0 ↔ ∃ i, i < 64 ∧ bl x i = true := by
  constructor
  · intro h
    rcases Classical.em (∃ i, i < 64 ∧ bl x i = true) with q | q
    · exact q
    · exfalso
      exact h (l_ext (fun i hi => by
        rw [l_0]
        cases e : bl x i
        · rfl
        · exact absurd ⟨i, hi, e⟩ q))
  · rintro ⟨i, _, h⟩ q
    rw [q, l_0] at h
    cases h
theorem l_a1 {x : Int64} : x &&& 1 ≠ 0 ↔ bl x 0 = true := by
  constructor
  · intro h
    obtain ⟨i, hi, e⟩ := l_nz.mp h
    rw [l_and, l_one i hi] at e
    by_cases q : i = 0
    · subst q; simpa using e
    · rw [decide_eq_false q, Bool.and_false] at e; cases e
  · intro h
    exact l_nz.mpr ⟨0, by omega, by rw [l_and, h]; decide⟩
/-- the n-th bit, as the class asks for it -/
theorem l_q {x : Int64} {n : Nat} (h : n < 64) : (x >>> ((nI n).toInt64 &&& 63)) &&& 1 ≠ 0 ↔ bl x n = true := by
  rw [l_a1, l_sshr n h x (by omega), if_pos (by omega), Nat.add_zero]
end
section
/-! the class's objects, with what they hold -/
def dgM (my pm : Nat → Int32) (i k : Nat) : Int32 := if k < (my i).toNatClampNeg then pm (3 * i + k) + 1 else 0
/-- a member's name and parameters in one number -/
def sgM (na my pm : Nat → Int32) (i : Nat) : Int32 := ((na i * 32 + dgM my pm i 0) * 32 + dgM my pm i 1) * 32 + dgM my pm i 2
/-- the row that is kept of a row of three -/
def cutF (my pm : Nat → Int32) (i : Nat) : Nat → Int32 := fun k => if k < (my i).toNatClampNeg then pm (3 * i + k) else 0
theorem cut_at {my pm : Nat → Int32} {i k : Nat} (h : k < (my i).toNatClampNeg) : cutF my pm i k = pm (3 * i + k) := by unfold cutF; rw [if_pos h]
def mbF (dOt dNa dRe dMa dMy dPm : Nat → Int32) (dyn : pm_H) (j i : Nat) : Prop := ∃ p : Nat, dyn[j]? = some (.inr (3, [.int (nI i), .int (dOt i), .int (dNa i), .int (dRe i), .int (dMa i), .ref (p + 50), .int (sgM dNa dMy dPm i)])) ∧ dyn[p]? = some (.inl (0, (dMy i).toNatClampNeg, .inl (cutF dMy dPm i))) ∧ (dMy i).toNatClampNeg ≤ 3
def fcF (dFy dFa dFr : Nat → Int32) (dyn : pm_H) (j i : Nat) : Prop := ∃ p : Nat, dyn[j]? = some (.inr (1, [.ref (p + 50), .int (dFr i)])) ∧ dyn[p]? = some (.inl (0, (dFy i).toNatClampNeg, .inl (cutF dFy dFa i))) ∧ (dFy i).toNatClampNeg ≤ 3
def rnF (fo rm : Nat → Int32) (i : Nat) : Int32 := if (fo i).toInt = 3 then 6 else rm i
def rfF (dFo dRt dRm : Nat → Int32) (dyn : pm_H) (j i : Nat) : Prop := dyn[j]? = some (.inr (5, [.int (dFo i), .int (dRt i), .int (rnF dFo dRm i)]))
def alF (dOt dNa dRe dMa dMy dPm : Nat → Int32) (mn : Int32) (al : Nat → Option Nat) (dyn : pm_H) : Prop := ∀ i : Nat, (i : Int) < mn.toInt → ∃ j : Nat, al i = some (j + 50) ∧ mbF dOt dNa dRe dMa dMy dPm dyn j i
def faF (dFy dFa dFr : Nat → Int32) (mn : Int32) (al : Nat → Option Nat) (dyn : pm_H) : Prop := ∀ i : Nat, (i : Int) < mn.toInt → ∃ j : Nat, al i = some (j + 50) ∧ fcF dFy dFa dFr dyn j i
def reF (dFo dRt dRm : Nat → Int32) (mn : Int32) (al : Nat → Option Nat) (dyn : pm_H) : Prop := ∀ i : Nat, (i : Int) < mn.toInt → ∃ j : Nat, al i = some (j + 50) ∧ rfF dFo dRt dRm dyn j i
theorem mbF_ap {dOt dNa dRe dMa dMy dPm : Nat → Int32} {dyn : pm_H} (e : pm_H) {j i : Nat} (h : mbF dOt dNa dRe dMa dMy dPm dyn j i) : mbF dOt dNa dRe dMa dMy dPm (dyn ++ e) j i := by
  obtain ⟨p, h1, h2, h3⟩ := h
  exact ⟨p, ap_at h1, ap_at h2, h3⟩
theorem fcF_ap {dFy dFa dFr : Nat → Int32} {dyn : pm_H} (e : pm_H) {j i : Nat} (h : fcF dFy dFa dFr dyn j i) : fcF dFy dFa dFr (dyn ++ e) j i := by
  obtain ⟨p, h1, h2, h3⟩ := h
  exact ⟨p, ap_at h1, ap_at h2, h3⟩
theorem rfF_ap {dFo dRt dRm : Nat → Int32} {dyn : pm_H} (e : pm_H) {j i : Nat} (h : rfF dFo dRt dRm dyn j i) : rfF dFo dRt dRm (dyn ++ e) j i := ap_at h
theorem alF_ap {dOt dNa dRe dMa dMy dPm : Nat → Int32} {mn : Int32} {al : Nat → Option Nat} {dyn : pm_H} (e : pm_H) (h : alF dOt dNa dRe dMa dMy dPm mn al dyn) : alF dOt dNa dRe dMa dMy dPm mn al (dyn ++ e) := fun i q => by
  obtain ⟨j, h1, h2⟩ := h i q
  exact ⟨j, h1, mbF_ap e h2⟩
theorem faF_ap {dFy dFa dFr : Nat → Int32} {mn : Int32} {al : Nat → Option Nat} {dyn : pm_H} (e : pm_H) (h : faF dFy dFa dFr mn al dyn) : faF dFy dFa dFr mn al (dyn ++ e) := fun i q => by
  obtain ⟨j, h1, h2⟩ := h i q
  exact ⟨j, h1, fcF_ap e h2⟩
theorem reF_ap {dFo dRt dRm : Nat → Int32} {mn : Int32} {al : Nat → Option Nat} {dyn : pm_H} (e : pm_H) (h : reF dFo dRt dRm mn al dyn) : reF dFo dRt dRm mn al (dyn ++ e) := fun i q => by
  obtain ⟨j, h1, h2⟩ := h i q
  exact ⟨j, h1, rfF_ap e h2⟩
theorem alF_at {dOt dNa dRe dMa dMy dPm : Nat → Int32} {mn : Int32} {al : Nat → Option Nat} {dyn : pm_H} (h : alF dOt dNa dRe dMa dMy dPm mn al dyn) {i : Int32} (h0 : 0 ≤ i.toInt) (h1 : i.toInt < mn.toInt) : ∃ j : Nat, pm_rf (al i.toNatClampNeg) = .ref (j + 50) ∧ mbF dOt dNa dRe dMa dMy dPm dyn j i.toNatClampNeg := by
  obtain ⟨j, q1, q2⟩ := h i.toNatClampNeg (by have := xN h0; omega)
  exact ⟨j, by rw [q1]; rfl, q2⟩
theorem nI_K {k : Nat} {mn : Int32} (h : (k : Int) < mn.toInt) : (nI k).toNatClampNeg = k := nI_clamp (by have := Int32.toInt_lt mn; omega)
theorem alF_atN {dOt dNa dRe dMa dMy dPm : Nat → Int32} {mn : Int32} {al : Nat → Option Nat} {dyn : pm_H} (h : alF dOt dNa dRe dMa dMy dPm mn al dyn) {k : Nat} (h1 : (k : Int) < mn.toInt) : ∃ j : Nat, pm_rf (al (nI k).toNatClampNeg) = .ref (j + 50) ∧ mbF dOt dNa dRe dMa dMy dPm dyn j k := by
  obtain ⟨j, q1, q2⟩ := h k h1
  rw [nI_K h1]
  exact ⟨j, by rw [q1]; rfl, q2⟩
theorem faF_at {dFy dFa dFr : Nat → Int32} {mn : Int32} {al : Nat → Option Nat} {dyn : pm_H} (h : faF dFy dFa dFr mn al dyn) {i : Int32} (h0 : 0 ≤ i.toInt) (h1 : i.toInt < mn.toInt) : ∃ j : Nat, pm_rf (al i.toNatClampNeg) = .ref (j + 50) ∧ fcF dFy dFa dFr dyn j i.toNatClampNeg := by
  obtain ⟨j, q1, q2⟩ := h i.toNatClampNeg (by have := xN h0; omega)
  exact ⟨j, by rw [q1]; rfl, q2⟩
theorem reF_at {dFo dRt dRm : Nat → Int32} {mn : Int32} {al : Nat → Option Nat} {dyn : pm_H} (h : reF dFo dRt dRm mn al dyn) {i : Int32} (h0 : 0 ≤ i.toInt) (h1 : i.toInt < mn.toInt) : ∃ j : Nat, pm_rf (al i.toNatClampNeg) = .ref (j + 50) ∧ rfF dFo dRt dRm dyn j i.toNatClampNeg := by
  obtain ⟨j, q1, q2⟩ := h i.toNatClampNeg (by have := xN h0; omega)
  exact ⟨j, by rw [q1]; rfl, q2⟩
/-- the class's isUnder -/
def xU (up : Nat → Int32) (a b : Int32) : Prop := ((0 ≤ a.toInt ∧ a.toInt ≤ 30) ∧ (0 ≤ b.toInt ∧ b.toInt ≤ 30)) ∧ ((up a.toNatClampNeg >>> (b &&& 31)) &&& 1).toInt ≠ 0
def xL (up : Nat → Int32) (a b : Int32) : Prop := xU up a b ∨ (a.toInt = 10 ∧ xU up 1 b) ∨ (a.toInt = 1 ∧ b.toInt = 10)
/-- the class's isAnyType -/
def xA (up : Nat → Int32) (t : Int32) : Prop := (0 ≤ t.toInt ∧ t.toInt ≤ 30) ∧ (up t.toNatClampNeg).toInt ≠ 0
def xPm (up : Nat → Int32) (t : Int32) : Prop := xA up t ∧ t.toInt ≠ 11
def xRw (up : Nat → Int32) (t : Int32) : Prop := xA up t ∧ 20 ≤ t.toInt
/-- what place k of member i wants -/
def tyM (my pm : Nat → Int32) (i k : Nat) (ph : Int32) : Int32 := if (my i).toNatClampNeg = 0 then -1 else if ph.toInt = 3 ∧ (my i).toNatClampNeg ≤ k + 1 then (if (pm (3 * i + ((my i).toNatClampNeg - 1))).toInt = 30 then 10 else pm (3 * i + ((my i).toNatClampNeg - 1)) - 20) else if k < (my i).toNatClampNeg then pm (3 * i + k) else -1
theorem ty_0 {my pm : Nat → Int32} {i k : Nat} {ph : Int32} (h : (my i).toNatClampNeg = 0) : tyM my pm i k ph = -1 := by unfold tyM; rw [if_pos h]
theorem ty_1 {my pm : Nat → Int32} {i k : Nat} {ph : Int32} (h : (my i).toNatClampNeg ≠ 0) (h2 : ph.toInt = 3 ∧ (my i).toNatClampNeg ≤ k + 1) (h3 : (pm (3 * i + ((my i).toNatClampNeg - 1))).toInt = 30) : tyM my pm i k ph = 10 := by unfold tyM; rw [if_neg h, if_pos h2, if_pos h3]
theorem ty_2 {my pm : Nat → Int32} {i k : Nat} {ph : Int32} (h : (my i).toNatClampNeg ≠ 0) (h2 : ph.toInt = 3 ∧ (my i).toNatClampNeg ≤ k + 1) (h3 : (pm (3 * i + ((my i).toNatClampNeg - 1))).toInt ≠ 30) : tyM my pm i k ph = pm (3 * i + ((my i).toNatClampNeg - 1)) - 20 := by unfold tyM; rw [if_neg h, if_pos h2, if_neg h3]
theorem ty_3 {my pm : Nat → Int32} {i k : Nat} {ph : Int32} (h : (my i).toNatClampNeg ≠ 0) (h2 : ¬ (ph.toInt = 3 ∧ (my i).toNatClampNeg ≤ k + 1)) (h3 : k < (my i).toNatClampNeg) : tyM my pm i k ph = pm (3 * i + k) := by unfold tyM; rw [if_neg h, if_neg h2, if_pos h3]
theorem ty_4 {my pm : Nat → Int32} {i k : Nat} {ph : Int32} (h : (my i).toNatClampNeg ≠ 0) (h2 : ¬ (ph.toInt = 3 ∧ (my i).toNatClampNeg ≤ k + 1)) (h3 : ¬ k < (my i).toNatClampNeg) : tyM my pm i k ph = -1 := by unfold tyM; rw [if_neg h, if_neg h2, if_neg h3]
def agX (re ma : Nat → Int32) (i j : Nat) : Prop := (ma i &&& 1).toInt = 0 ∧ (ma j &&& 1).toInt = 0 ∧ (re i).toInt = (re j).toInt ∧ ((ma i &&& 4).toInt ≠ 0 ↔ (ma j &&& 4).toInt ≠ 0)
def cwX (up ot na re ma : Nat → Int32) (i j : Nat) : Prop := (ot i).toInt = (ot j).toInt ∨ ((na i).toInt ≠ 6 ∧ (xU up (ot i) (ot j) ∨ xU up (ot j) (ot i)) ∧ ¬ agX re ma i j)
/-- what a type has, as the class keeps it -/
def hbX (ha nm : Nat → Int64) (t : Int32) : Int64 := if 0 ≤ t.toInt ∧ t.toInt < 10 then ha t.toNatClampNeg else ha 0 &&& (nm 6 ^^^ (-1))
theorem hb_1 {ha nm : Nat → Int64} {t : Int32} (h : 0 ≤ t.toInt ∧ t.toInt < 10) : hbX ha nm t = ha t.toNatClampNeg := by unfold hbX; rw [if_pos h]
theorem hb_2 {ha nm : Nat → Int64} {t : Int32} (h : ¬ (0 ≤ t.toInt ∧ t.toInt < 10)) : hbX ha nm t = ha 0 &&& (nm 6 ^^^ (-1)) := by unfold hbX; rw [if_neg h]
def nmX (ha nm : Nat → Int64) (t w : Int32) : Int64 := if 0 ≤ w.toInt ∧ w.toInt ≤ 6 then hbX ha nm t &&& nm w.toNatClampNeg else 0
theorem nm_1 {ha nm : Nat → Int64} {t w : Int32} (h : 0 ≤ w.toInt ∧ w.toInt ≤ 6) : nmX ha nm t w = hbX ha nm t &&& nm w.toNatClampNeg := by unfold nmX; rw [if_pos h]
theorem nm_2 {ha nm : Nat → Int64} {t w : Int32} (h : ¬ (0 ≤ w.toInt ∧ w.toInt ≤ 6)) : nmX ha nm t w = 0 := by unfold nmX; rw [if_neg h]
theorem lc0 {x u : Int64} : (lg_cmp x u).toInt = 0 ↔ x = u := by
  rw [← lg_cmp_eq]
  exact ⟨fun h => Int32.toInt_inj.mp (h.trans (by decide)), fun h => by rw [h]; decide⟩
theorem l_qI {s : Int64} {i : Int32} (h : 0 ≤ i.toInt ∧ i.toInt < 64) : (lg_cmp ((s >>> (i.toInt64 &&& 63)) &&& 1) 0).toInt ≠ 0 ↔ bl s i.toNatClampNeg = true := by
  have hx := xN h.1
  have e : i = nI i.toNatClampNeg := xJ (by rw [nI_toInt (by omega), hx])
  rw [Ne, lc0]
  conv => lhs; rw [e]
  exact l_q (by omega)
/-- how many of the first have it -/
noncomputable def cP (P : Nat → Prop) : Nat → Nat
  | 0 => 0
  | k + 1 => cP P k + @ite Nat (P k) (Classical.propDecidable (P k)) 1 0
theorem cP_y {P : Nat → Prop} {k : Nat} (h : P k) : cP P (k + 1) = cP P k + 1 := by
  show cP P k + @ite Nat (P k) (Classical.propDecidable (P k)) 1 0 = _
  rw [if_pos h]
theorem cP_n {P : Nat → Prop} {k : Nat} (h : ¬ P k) : cP P (k + 1) = cP P k := by
  show cP P k + @ite Nat (P k) (Classical.propDecidable (P k)) 1 0 = _
  rw [if_neg h, Nat.add_zero]
theorem cP_le {P : Nat → Prop} : ∀ {k : Nat}, cP P k ≤ k := by
  intro k
  induction k with
  | zero => exact Nat.le_refl _
  | succ k ih =>
    by_cases h : P k
    · rw [cP_y h]; omega
    · rw [cP_n h]; omega
/-- the one of them that has so many ahead of it -/
def nthP (P : Nat → Prop) (mn i r : Int32) : Prop := (∃ b : Nat, (b : Int) < mn.toInt ∧ P b ∧ (cP P b : Int) = i.toInt ∧ r = nI b) ∨ ((∀ b : Nat, (b : Int) < mn.toInt → P b → (cP P b : Int) ≠ i.toInt) ∧ r = -4)
def tfX (na my pm : Nat → Int32) (s : Int64) (mn : Int32) (i b : Nat) : Prop := ((b : Int) < mn.toInt ∧ sgM na my pm b = sgM na my pm i ∧ bl s b = true ∧ ∀ c : Nat, c < b → ¬ (sgM na my pm c = sgM na my pm i ∧ bl s c = true)) ∨ (b = i ∧ ∀ c : Nat, (c : Int) < mn.toInt → ¬ (sgM na my pm c = sgM na my pm i ∧ bl s c = true))
end
section
/-! how many bits a long has -/
def usL (x : Int64) (n : Int32) : Int64 := ((x : Int64).toUInt64 >>> ((n : Int32).toInt64.toUInt64 &&& Int64.toUInt64 63)).toInt64
def bc1 (x : Int64) : Int64 := x - ((usL x 1) &&& 6148914691236517205)
def bc2 (x : Int64) : Int64 := (x &&& 3689348814741910323) + ((usL x 2) &&& 3689348814741910323)
def bc3 (x : Int64) : Int64 := (x + usL x 4) &&& 1085102592571150095
def bc4 (x : Int64) : Int64 := x + usL x 8
def bc5 (x : Int64) : Int64 := x + usL x 16
def bc6 (x : Int64) : Int64 := x + usL x 32
def bcX (x : Int64) : Int32 := (bc6 (bc5 (bc4 (bc3 (bc2 (bc1 x)))))).toInt32 &&& 127
def nL (x : Int64) : Nat := x.toBitVec.toNat
theorem nL_lt (x : Int64) : nL x < 18446744073709551616 := x.toBitVec.isLt
theorem us_n {x : Int64} {n : Int32} (k : Nat) (e : ((n.toInt64.toUInt64 &&& Int64.toUInt64 63).toBitVec % 64#64).toNat = k) : nL (usL x n) = nL x / 2 ^ k := by
  unfold nL usL
  rw [UInt64.toBitVec_toInt64, UInt64.toBitVec_shiftRight, BitVec.ushiftRight_eq', BitVec.toNat_ushiftRight, Nat.shiftRight_eq_div_pow]
  show x.toBitVec.toNat / 2 ^ (((n.toInt64.toUInt64 &&& Int64.toUInt64 63).toBitVec % 64#64).toNat) = _
  rw [e]
theorem nl_and (x y : Int64) : nL (x &&& y) = nL x &&& nL y := by unfold nL; rw [Int64.toBitVec_and, BitVec.toNat_and]
theorem nl_add (x y : Int64) : nL (x + y) = (nL x + nL y) % 18446744073709551616 := by unfold nL; rw [Int64.toBitVec_add, BitVec.toNat_add]
theorem nl_sub {x y : Int64} (h : nL y ≤ nL x) : nL (x - y) = nL x - nL y := by
  have h1 := nL_lt x
  have h2 := nL_lt y
  unfold nL at h h1 h2 ⊢
  rw [Int64.toBitVec_sub, BitVec.toNat_sub]
  omega
/-- eight bytes -/
def octB (a0 a1 a2 a3 a4 a5 a6 a7 : Nat) : Nat := a0 + a1 * 256 + a2 * 65536 + a3 * 16777216 + a4 * 4294967296 + a5 * 1099511627776 + a6 * 281474976710656 + a7 * 72057594037927936
theorem oct_of (n : Nat) (h : n < 18446744073709551616) : ∃ a0 a1 a2 a3 a4 a5 a6 a7 : Nat, n = octB a0 a1 a2 a3 a4 a5 a6 a7 ∧ a0 < 256 ∧ a1 < 256 ∧ a2 < 256 ∧ a3 < 256 ∧ a4 < 256 ∧ a5 < 256 ∧ a6 < 256 ∧ a7 < 256 := by
  refine ⟨n / 1 % 256, n / 256 % 256, n / 65536 % 256, n / 16777216 % 256, n / 4294967296 % 256, n / 1099511627776 % 256, n / 281474976710656 % 256, n / 72057594037927936 % 256, ?_, by omega, by omega, by omega, by omega, by omega, by omega, by omega, by omega⟩
  unfold octB
  omega
theorem ln_and {a b M N : Nat} (ha : a < 256) (hM : M < 256) : (b * 256 + a) &&& (N * 256 + M) = (b &&& N) * 256 + (a &&& M) := by
  apply Nat.eq_of_testBit_eq
  intro i
  have e : (256 : Nat) = 2 ^ 8 := rfl
  have hAM : a &&& M < 2 ^ 8 := Nat.and_lt_two_pow a hM
  rw [Nat.testBit_and, Nat.mul_comm b, Nat.mul_comm N, Nat.mul_comm (b &&& N), e, Nat.testBit_two_pow_mul_add b ha, Nat.testBit_two_pow_mul_add N hM, Nat.testBit_two_pow_mul_add (b &&& N) hAM]
  by_cases q : i < 8
  · rw [if_pos q, if_pos q, if_pos q, Nat.testBit_and]
  · rw [if_neg q, if_neg q, if_neg q, Nat.testBit_and]
def ochB (a0 a1 a2 a3 a4 a5 a6 a7 : Nat) : Nat := ((((((a7 * 256 + a6) * 256 + a5) * 256 + a4) * 256 + a3) * 256 + a2) * 256 + a1) * 256 + a0
theorem och_e (a0 a1 a2 a3 a4 a5 a6 a7 : Nat) : octB a0 a1 a2 a3 a4 a5 a6 a7 = ochB a0 a1 a2 a3 a4 a5 a6 a7 := by unfold octB ochB; omega
theorem oc_and {a0 a1 a2 a3 a4 a5 a6 a7 M : Nat} (hM : M < 256) (h0 : a0 < 256) (h1 : a1 < 256) (h2 : a2 < 256) (h3 : a3 < 256) (h4 : a4 < 256) (h5 : a5 < 256) (h6 : a6 < 256) (h7 : a7 < 256) : octB a0 a1 a2 a3 a4 a5 a6 a7 &&& octB M M M M M M M M = octB (a0 &&& M) (a1 &&& M) (a2 &&& M) (a3 &&& M) (a4 &&& M) (a5 &&& M) (a6 &&& M) (a7 &&& M) := by
  rw [och_e, och_e, och_e]
  unfold ochB
  rw [ln_and h0 hM, ln_and h1 hM, ln_and h2 hM, ln_and h3 hM, ln_and h4 hM, ln_and h5 hM, ln_and h6 hM]
theorem sh_1 : ∀ a, a < 256 → ∀ c, c < 2 → (a / 2 + 128 * c) &&& 85 = (a / 2) &&& 85 := by decide +kernel
theorem sh_2 : ∀ a, a < 256 → ∀ c, c < 4 → (a / 4 + 64 * c) &&& 51 = (a / 4) &&& 51 := by decide +kernel
theorem f_1 : ∀ a, a < 256 → (a / 2 &&& 85) ≤ a ∧ a - (a / 2 &&& 85) < 256 := by decide +kernel
def pq1 (a : Nat) : Nat := a - (a / 2 &&& 85)
def pq2 (a : Nat) : Nat := (a &&& 51) + (a / 4 &&& 51)
def pq3 (a : Nat) : Nat := (a + a / 16) &&& 15
def pqc (a : Nat) : Nat := pq3 (pq2 (pq1 a))
theorem f_2 : ∀ a, a < 256 → pq2 a < 256 ∧ pq2 (pq1 a) / 16 ≤ 4 ∧ pq2 (pq1 a) % 16 ≤ 4 := by decide +kernel
theorem f_3 : ∀ a, a < 256 → a / 16 ≤ 4 → a % 16 ≤ 4 → ∀ c, c < 5 → (a + (a / 16 + 16 * c)) < 256 ∧ ((a + (a / 16 + 16 * c)) &&& 15) = pq3 a := by decide +kernel
theorem f_4 : ∀ a, a < 256 → pqc a ≤ 8 ∧ (pqc a = 0 ↔ a = 0) ∧ (pqc a = 1 ↔ ∃ i, i < 8 ∧ a = 2 ^ i) := by decide +kernel
theorem b_1x {x : Int64} {a0 a1 a2 a3 a4 a5 a6 a7 : Nat} (e : nL x = octB a0 a1 a2 a3 a4 a5 a6 a7) (h0 : a0 < 256) (h1 : a1 < 256) (h2 : a2 < 256) (h3 : a3 < 256) (h4 : a4 < 256) (h5 : a5 < 256) (h6 : a6 < 256) (h7 : a7 < 256) : nL (bc1 x) = octB (pq1 a0) (pq1 a1) (pq1 a2) (pq1 a3) (pq1 a4) (pq1 a5) (pq1 a6) (pq1 a7) := by
  have hs : nL (usL x 1) = nL x / 2 ^ 1 := us_n 1 (by decide +kernel)
  have e2 : octB a0 a1 a2 a3 a4 a5 a6 a7 / 2 ^ 1 = octB (a0 / 2 + 128 * (a1 % 2)) (a1 / 2 + 128 * (a2 % 2)) (a2 / 2 + 128 * (a3 % 2)) (a3 / 2 + 128 * (a4 % 2)) (a4 / 2 + 128 * (a5 % 2)) (a5 / 2 + 128 * (a6 % 2)) (a6 / 2 + 128 * (a7 % 2)) (a7 / 2 + 128 * (0 % 2)) := by unfold octB; omega
  have e3 : nL (6148914691236517205 : Int64) = octB 85 85 85 85 85 85 85 85 := by decide +kernel
  have e4 : nL (usL x 1 &&& 6148914691236517205) = octB (a0 / 2 &&& 85) (a1 / 2 &&& 85) (a2 / 2 &&& 85) (a3 / 2 &&& 85) (a4 / 2 &&& 85) (a5 / 2 &&& 85) (a6 / 2 &&& 85) (a7 / 2 &&& 85) := by
    rw [nl_and, hs, e, e2, e3, oc_and (by decide) (by omega) (by omega) (by omega) (by omega) (by omega) (by omega) (by omega) (by omega)]
    rw [sh_1 a0 h0 _ (by omega), sh_1 a1 h1 _ (by omega), sh_1 a2 h2 _ (by omega), sh_1 a3 h3 _ (by omega), sh_1 a4 h4 _ (by omega), sh_1 a5 h5 _ (by omega), sh_1 a6 h6 _ (by omega), sh_1 a7 h7 _ (by omega)]
  have g0 := f_1 a0 h0
  have g1 := f_1 a1 h1
  have g2 := f_1 a2 h2
  have g3 := f_1 a3 h3
  have g4 := f_1 a4 h4
  have g5 := f_1 a5 h5
  have g6 := f_1 a6 h6
  have g7 := f_1 a7 h7
  unfold bc1
  rw [nl_sub (by rw [e4, e]; unfold octB; omega), e4, e]
  unfold octB pq1
  omega
theorem b_2x {x : Int64} {a0 a1 a2 a3 a4 a5 a6 a7 : Nat} (e : nL x = octB a0 a1 a2 a3 a4 a5 a6 a7) (h0 : a0 < 256) (h1 : a1 < 256) (h2 : a2 < 256) (h3 : a3 < 256) (h4 : a4 < 256) (h5 : a5 < 256) (h6 : a6 < 256) (h7 : a7 < 256) (g0 : pq2 a0 < 256) (g1 : pq2 a1 < 256) (g2 : pq2 a2 < 256) (g3 : pq2 a3 < 256) (g4 : pq2 a4 < 256) (g5 : pq2 a5 < 256) (g6 : pq2 a6 < 256) (g7 : pq2 a7 < 256) : nL (bc2 x) = octB (pq2 a0) (pq2 a1) (pq2 a2) (pq2 a3) (pq2 a4) (pq2 a5) (pq2 a6) (pq2 a7) := by
  have hs : nL (usL x 2) = nL x / 2 ^ 2 := us_n 2 (by decide +kernel)
  have e2 : octB a0 a1 a2 a3 a4 a5 a6 a7 / 2 ^ 2 = octB (a0 / 4 + 64 * (a1 % 4)) (a1 / 4 + 64 * (a2 % 4)) (a2 / 4 + 64 * (a3 % 4)) (a3 / 4 + 64 * (a4 % 4)) (a4 / 4 + 64 * (a5 % 4)) (a5 / 4 + 64 * (a6 % 4)) (a6 / 4 + 64 * (a7 % 4)) (a7 / 4 + 64 * (0 % 4)) := by unfold octB; omega
  have e3 : nL (3689348814741910323 : Int64) = octB 51 51 51 51 51 51 51 51 := by decide +kernel
  have e4 : nL (usL x 2 &&& 3689348814741910323) = octB (a0 / 4 &&& 51) (a1 / 4 &&& 51) (a2 / 4 &&& 51) (a3 / 4 &&& 51) (a4 / 4 &&& 51) (a5 / 4 &&& 51) (a6 / 4 &&& 51) (a7 / 4 &&& 51) := by
    rw [nl_and, hs, e, e2, e3, oc_and (by decide) (by omega) (by omega) (by omega) (by omega) (by omega) (by omega) (by omega) (by omega)]
    rw [sh_2 a0 h0 _ (by omega), sh_2 a1 h1 _ (by omega), sh_2 a2 h2 _ (by omega), sh_2 a3 h3 _ (by omega), sh_2 a4 h4 _ (by omega), sh_2 a5 h5 _ (by omega), sh_2 a6 h6 _ (by omega), sh_2 a7 h7 _ (by omega)]
  have e5 : nL (x &&& 3689348814741910323) = octB (a0 &&& 51) (a1 &&& 51) (a2 &&& 51) (a3 &&& 51) (a4 &&& 51) (a5 &&& 51) (a6 &&& 51) (a7 &&& 51) := by rw [nl_and, e, e3, oc_and (by decide) h0 h1 h2 h3 h4 h5 h6 h7]
  unfold bc2
  rw [nl_add, e4, e5]
  unfold pq2 at *
  unfold octB
  omega
theorem b_3x {x : Int64} {a0 a1 a2 a3 a4 a5 a6 a7 : Nat} (e : nL x = octB a0 a1 a2 a3 a4 a5 a6 a7) (h0 : a0 < 256) (h1 : a1 < 256) (h2 : a2 < 256) (h3 : a3 < 256) (h4 : a4 < 256) (h5 : a5 < 256) (h6 : a6 < 256) (h7 : a7 < 256) (g0 : a0 / 16 ≤ 4 ∧ a0 % 16 ≤ 4) (g1 : a1 / 16 ≤ 4 ∧ a1 % 16 ≤ 4) (g2 : a2 / 16 ≤ 4 ∧ a2 % 16 ≤ 4) (g3 : a3 / 16 ≤ 4 ∧ a3 % 16 ≤ 4) (g4 : a4 / 16 ≤ 4 ∧ a4 % 16 ≤ 4) (g5 : a5 / 16 ≤ 4 ∧ a5 % 16 ≤ 4) (g6 : a6 / 16 ≤ 4 ∧ a6 % 16 ≤ 4) (g7 : a7 / 16 ≤ 4 ∧ a7 % 16 ≤ 4) : nL (bc3 x) = octB (pq3 a0) (pq3 a1) (pq3 a2) (pq3 a3) (pq3 a4) (pq3 a5) (pq3 a6) (pq3 a7) := by
  have hs : nL (usL x 4) = nL x / 2 ^ 4 := us_n 4 (by decide +kernel)
  have e2 : octB a0 a1 a2 a3 a4 a5 a6 a7 / 2 ^ 4 = octB (a0 / 16 + 16 * (a1 % 16)) (a1 / 16 + 16 * (a2 % 16)) (a2 / 16 + 16 * (a3 % 16)) (a3 / 16 + 16 * (a4 % 16)) (a4 / 16 + 16 * (a5 % 16)) (a5 / 16 + 16 * (a6 % 16)) (a6 / 16 + 16 * (a7 % 16)) (a7 / 16 + 16 * (0 % 16)) := by unfold octB; omega
  have e3 : nL (1085102592571150095 : Int64) = octB 15 15 15 15 15 15 15 15 := by decide +kernel
  have k0 := f_3 a0 h0 g0.1 g0.2 (a1 % 16) (by omega)
  have k1 := f_3 a1 h1 g1.1 g1.2 (a2 % 16) (by omega)
  have k2 := f_3 a2 h2 g2.1 g2.2 (a3 % 16) (by omega)
  have k3 := f_3 a3 h3 g3.1 g3.2 (a4 % 16) (by omega)
  have k4 := f_3 a4 h4 g4.1 g4.2 (a5 % 16) (by omega)
  have k5 := f_3 a5 h5 g5.1 g5.2 (a6 % 16) (by omega)
  have k6 := f_3 a6 h6 g6.1 g6.2 (a7 % 16) (by omega)
  have k7 := f_3 a7 h7 g7.1 g7.2 (0 % 16) (by omega)
  have e4 : nL (x + usL x 4) = octB (a0 + (a0 / 16 + 16 * (a1 % 16))) (a1 + (a1 / 16 + 16 * (a2 % 16))) (a2 + (a2 / 16 + 16 * (a3 % 16))) (a3 + (a3 / 16 + 16 * (a4 % 16))) (a4 + (a4 / 16 + 16 * (a5 % 16))) (a5 + (a5 / 16 + 16 * (a6 % 16))) (a6 + (a6 / 16 + 16 * (a7 % 16))) (a7 + (a7 / 16 + 16 * (0 % 16))) := by
    rw [nl_add, hs, e, e2]
    unfold octB
    omega
  unfold bc3
  rw [nl_and, e4, e3, oc_and (by decide) (by omega) (by omega) (by omega) (by omega) (by omega) (by omega) (by omega) (by omega)]
  rw [k0.2, k1.2, k2.2, k3.2, k4.2, k5.2, k6.2, k7.2]
theorem oc_d8 {a0 a1 a2 a3 a4 a5 a6 a7 : Nat} (h0 : a0 < 256) : octB a0 a1 a2 a3 a4 a5 a6 a7 / 256 = octB a1 a2 a3 a4 a5 a6 a7 0 := by unfold octB; omega
theorem oc_d16 {a0 a1 a2 a3 a4 a5 a6 a7 : Nat} (h0 : a0 < 256) (h1 : a1 < 256) : octB a0 a1 a2 a3 a4 a5 a6 a7 / 65536 = octB a2 a3 a4 a5 a6 a7 0 0 := by unfold octB; omega
theorem oc_d32 {a0 a1 a2 a3 a4 a5 a6 a7 : Nat} (h0 : a0 < 256) (h1 : a1 < 256) (h2 : a2 < 256) (h3 : a3 < 256) : octB a0 a1 a2 a3 a4 a5 a6 a7 / 4294967296 = octB a4 a5 a6 a7 0 0 0 0 := by unfold octB; omega
theorem oc_ad {a0 a1 a2 a3 a4 a5 a6 a7 b0 b1 b2 b3 b4 b5 b6 b7 : Nat} (h0 : a0 + b0 < 256) (h1 : a1 + b1 < 256) (h2 : a2 + b2 < 256) (h3 : a3 + b3 < 256) (h4 : a4 + b4 < 256) (h5 : a5 + b5 < 256) (h6 : a6 + b6 < 256) (h7 : a7 + b7 < 256) : (octB a0 a1 a2 a3 a4 a5 a6 a7 + octB b0 b1 b2 b3 b4 b5 b6 b7) % 18446744073709551616 = octB (a0 + b0) (a1 + b1) (a2 + b2) (a3 + b3) (a4 + b4) (a5 + b5) (a6 + b6) (a7 + b7) := by
  have e : octB a0 a1 a2 a3 a4 a5 a6 a7 + octB b0 b1 b2 b3 b4 b5 b6 b7 = octB (a0 + b0) (a1 + b1) (a2 + b2) (a3 + b3) (a4 + b4) (a5 + b5) (a6 + b6) (a7 + b7) := by unfold octB; omega
  rw [e]
  apply Nat.mod_eq_of_lt
  unfold octB
  omega
theorem b_4x {x : Int64} {a0 a1 a2 a3 a4 a5 a6 a7 : Nat} (e : nL x = octB a0 a1 a2 a3 a4 a5 a6 a7) (h0 : a0 ≤ 8) (h1 : a1 ≤ 8) (h2 : a2 ≤ 8) (h3 : a3 ≤ 8) (h4 : a4 ≤ 8) (h5 : a5 ≤ 8) (h6 : a6 ≤ 8) (h7 : a7 ≤ 8) : nL (bc6 (bc5 (bc4 x))) % 256 = a0 + a1 + a2 + a3 + a4 + a5 + a6 + a7 := by
  have hs : ∀ y, nL (usL y 8) = nL y / 2 ^ 8 := fun y => us_n 8 (by decide +kernel)
  have ht : ∀ y, nL (usL y 16) = nL y / 2 ^ 16 := fun y => us_n 16 (by decide +kernel)
  have hu : ∀ y, nL (usL y 32) = nL y / 2 ^ 32 := fun y => us_n 32 (by decide +kernel)
  have e1 : nL (bc4 x) = octB (a0 + a1) (a1 + a2) (a2 + a3) (a3 + a4) (a4 + a5) (a5 + a6) (a6 + a7) a7 := by unfold bc4; rw [nl_add, hs, e, show (2:Nat)^8 = 256 from rfl, oc_d8 (by omega)]; exact oc_ad (by omega) (by omega) (by omega) (by omega) (by omega) (by omega) (by omega) (by omega)
  have e2 : nL (bc5 (bc4 x)) = octB (a0 + a1 + a2 + a3) (a1 + a2 + a3 + a4) (a2 + a3 + a4 + a5) (a3 + a4 + a5 + a6) (a4 + a5 + a6 + a7) (a5 + a6 + a7) (a6 + a7) (a7) := by unfold bc5; rw [nl_add, ht, e1, show (2:Nat)^16 = 65536 from rfl, oc_d16 (by omega) (by omega)]; exact (oc_ad (by omega) (by omega) (by omega) (by omega) (by omega) (by omega) (by omega) (by omega)).trans (by unfold octB; omega)
  have e3 : nL (bc6 (bc5 (bc4 x))) = octB (a0 + a1 + a2 + a3 + a4 + a5 + a6 + a7) (a1 + a2 + a3 + a4 + a5 + a6 + a7) (a2 + a3 + a4 + a5 + a6 + a7) (a3 + a4 + a5 + a6 + a7) (a4 + a5 + a6 + a7) (a5 + a6 + a7) (a6 + a7) (a7) := by unfold bc6; rw [nl_add, hu, e2, show (2:Nat)^32 = 4294967296 from rfl, oc_d32 (by omega) (by omega) (by omega) (by omega)]; exact (oc_ad (by omega) (by omega) (by omega) (by omega) (by omega) (by omega) (by omega) (by omega)).trans (by unfold octB; omega)
  rw [e3]
  unfold octB
  omega
theorem bc_n {x : Int64} {a0 a1 a2 a3 a4 a5 a6 a7 : Nat} (e : nL x = octB a0 a1 a2 a3 a4 a5 a6 a7) (h0 : a0 < 256) (h1 : a1 < 256) (h2 : a2 < 256) (h3 : a3 < 256) (h4 : a4 < 256) (h5 : a5 < 256) (h6 : a6 < 256) (h7 : a7 < 256) : (bcX x).toInt = (pqc a0 : Int) + (pqc a1 : Int) + (pqc a2 : Int) + (pqc a3 : Int) + (pqc a4 : Int) + (pqc a5 : Int) + (pqc a6 : Int) + (pqc a7 : Int) := by
  have g0 := f_1 a0 h0
  have k0 : pq1 a0 < 256 := g0.2
  have m0 := f_2 (pq1 a0) k0
  have w0 := f_2 a0 h0
  have z0 := (f_4 a0 h0).1
  have g1 := f_1 a1 h1
  have k1 : pq1 a1 < 256 := g1.2
  have m1 := f_2 (pq1 a1) k1
  have w1 := f_2 a1 h1
  have z1 := (f_4 a1 h1).1
  have g2 := f_1 a2 h2
  have k2 : pq1 a2 < 256 := g2.2
  have m2 := f_2 (pq1 a2) k2
  have w2 := f_2 a2 h2
  have z2 := (f_4 a2 h2).1
  have g3 := f_1 a3 h3
  have k3 : pq1 a3 < 256 := g3.2
  have m3 := f_2 (pq1 a3) k3
  have w3 := f_2 a3 h3
  have z3 := (f_4 a3 h3).1
  have g4 := f_1 a4 h4
  have k4 : pq1 a4 < 256 := g4.2
  have m4 := f_2 (pq1 a4) k4
  have w4 := f_2 a4 h4
  have z4 := (f_4 a4 h4).1
  have g5 := f_1 a5 h5
  have k5 : pq1 a5 < 256 := g5.2
  have m5 := f_2 (pq1 a5) k5
  have w5 := f_2 a5 h5
  have z5 := (f_4 a5 h5).1
  have g6 := f_1 a6 h6
  have k6 : pq1 a6 < 256 := g6.2
  have m6 := f_2 (pq1 a6) k6
  have w6 := f_2 a6 h6
  have z6 := (f_4 a6 h6).1
  have g7 := f_1 a7 h7
  have k7 : pq1 a7 < 256 := g7.2
  have m7 := f_2 (pq1 a7) k7
  have w7 := f_2 a7 h7
  have z7 := (f_4 a7 h7).1
  have q1 := b_1x e h0 h1 h2 h3 h4 h5 h6 h7
  have q2 := b_2x q1 k0 k1 k2 k3 k4 k5 k6 k7 m0.1 m1.1 m2.1 m3.1 m4.1 m5.1 m6.1 m7.1
  have q3 := b_3x q2 m0.1 m1.1 m2.1 m3.1 m4.1 m5.1 m6.1 m7.1 w0.2 w1.2 w2.2 w3.2 w4.2 w5.2 w6.2 w7.2
  have q4 := b_4x q3 z0 z1 z2 z3 z4 z5 z6 z7
  have q5 : (bcX x).toBitVec.toNat = nL (bc6 (bc5 (bc4 (bc3 (bc2 (bc1 x)))))) % 128 := by
    unfold bcX nL
    rw [Int32.toBitVec_and, BitVec.toNat_and]
    have e7 : (127 : Int32).toBitVec.toNat = 2 ^ 7 - 1 := by decide
    rw [e7, Nat.and_two_pow_sub_one_eq_mod, Int64.toBitVec_toInt32, BitVec.signExtend_eq_setWidth_of_le _ (by decide), BitVec.toNat_setWidth]
    omega
  have q6 : nL (bc6 (bc5 (bc4 (bc3 (bc2 (bc1 x)))))) % 128 = pqc a0 + pqc a1 + pqc a2 + pqc a3 + pqc a4 + pqc a5 + pqc a6 + pqc a7 := by
    have q4 : _ % 256 = pqc a0 + pqc a1 + pqc a2 + pqc a3 + pqc a4 + pqc a5 + pqc a6 + pqc a7 := q4
    omega
  rw [q6] at q5
  have q7 : (bcX x).toInt = (bcX x).toBitVec.toInt := rfl
  rw [q7, BitVec.toInt_eq_toNat_cond, q5, if_pos (by omega)]
  omega
theorem bl_n {x : Int64} {i : Nat} : bl x i = (nL x).testBit i := rfl
theorem bc_0 {x : Int64} : (bcX x).toInt = 0 ↔ x = 0 := by
  obtain ⟨a0, a1, a2, a3, a4, a5, a6, a7, e, h0, h1, h2, h3, h4, h5, h6, h7⟩ := oct_of (nL x) (nL_lt x)
  rw [bc_n e h0 h1 h2 h3 h4 h5 h6 h7]
  have f0 := And.intro (f_4 a0 h0).1 (f_4 a0 h0).2.1
  have f1 := And.intro (f_4 a1 h1).1 (f_4 a1 h1).2.1
  have f2 := And.intro (f_4 a2 h2).1 (f_4 a2 h2).2.1
  have f3 := And.intro (f_4 a3 h3).1 (f_4 a3 h3).2.1
  have f4 := And.intro (f_4 a4 h4).1 (f_4 a4 h4).2.1
  have f5 := And.intro (f_4 a5 h5).1 (f_4 a5 h5).2.1
  have f6 := And.intro (f_4 a6 h6).1 (f_4 a6 h6).2.1
  have f7 := And.intro (f_4 a7 h7).1 (f_4 a7 h7).2.1
  have z : nL x = 0 ↔ x = 0 := by
    constructor
    · intro q
      apply l_ext
      intro i _
      rw [bl_n, q, l_0, Nat.zero_testBit]
    · intro q
      rw [q]
      decide +kernel
  rw [← z, e]
  unfold octB
  omega
theorem oc_1 {a0 a1 a2 a3 a4 a5 a6 a7 : Nat} (h0 : a0 < 256) (h1 : a1 < 256) (h2 : a2 < 256) (h3 : a3 < 256) (h4 : a4 < 256) (h5 : a5 < 256) (h6 : a6 < 256) (h7 : a7 < 256) : pqc a0 + pqc a1 + pqc a2 + pqc a3 + pqc a4 + pqc a5 + pqc a6 + pqc a7 = 1 ↔ ∃ j, j < 64 ∧ octB a0 a1 a2 a3 a4 a5 a6 a7 = 2 ^ j := by
  have f0 := And.intro (f_4 a0 h0).1 (f_4 a0 h0).2.1
  have f1 := And.intro (f_4 a1 h1).1 (f_4 a1 h1).2.1
  have f2 := And.intro (f_4 a2 h2).1 (f_4 a2 h2).2.1
  have f3 := And.intro (f_4 a3 h3).1 (f_4 a3 h3).2.1
  have f4 := And.intro (f_4 a4 h4).1 (f_4 a4 h4).2.1
  have f5 := And.intro (f_4 a5 h5).1 (f_4 a5 h5).2.1
  have f6 := And.intro (f_4 a6 h6).1 (f_4 a6 h6).2.1
  have f7 := And.intro (f_4 a7 h7).1 (f_4 a7 h7).2.1
  constructor
  · intro q
    by_cases q0 : pqc a0 = 1
    · obtain ⟨i, hi, ei⟩ := (f_4 a0 h0).2.2.mp q0
      have r1 : a1 = 0 := f1.2.mp (by omega)
      have r2 : a2 = 0 := f2.2.mp (by omega)
      have r3 : a3 = 0 := f3.2.mp (by omega)
      have r4 : a4 = 0 := f4.2.mp (by omega)
      have r5 : a5 = 0 := f5.2.mp (by omega)
      have r6 : a6 = 0 := f6.2.mp (by omega)
      have r7 : a7 = 0 := f7.2.mp (by omega)
      refine ⟨0 + i, by omega, ?_⟩
      rw [Nat.pow_add, ← ei, r1, r2, r3, r4, r5, r6, r7]
      unfold octB
      omega
    have s0 : pqc a0 = 0 := by omega
    by_cases q1 : pqc a1 = 1
    · obtain ⟨i, hi, ei⟩ := (f_4 a1 h1).2.2.mp q1
      have r0 : a0 = 0 := f0.2.mp (by omega)
      have r2 : a2 = 0 := f2.2.mp (by omega)
      have r3 : a3 = 0 := f3.2.mp (by omega)
      have r4 : a4 = 0 := f4.2.mp (by omega)
      have r5 : a5 = 0 := f5.2.mp (by omega)
      have r6 : a6 = 0 := f6.2.mp (by omega)
      have r7 : a7 = 0 := f7.2.mp (by omega)
      refine ⟨8 + i, by omega, ?_⟩
      rw [Nat.pow_add, ← ei, r0, r2, r3, r4, r5, r6, r7]
      unfold octB
      omega
    have s1 : pqc a1 = 0 := by omega
    by_cases q2 : pqc a2 = 1
    · obtain ⟨i, hi, ei⟩ := (f_4 a2 h2).2.2.mp q2
      have r0 : a0 = 0 := f0.2.mp (by omega)
      have r1 : a1 = 0 := f1.2.mp (by omega)
      have r3 : a3 = 0 := f3.2.mp (by omega)
      have r4 : a4 = 0 := f4.2.mp (by omega)
      have r5 : a5 = 0 := f5.2.mp (by omega)
      have r6 : a6 = 0 := f6.2.mp (by omega)
      have r7 : a7 = 0 := f7.2.mp (by omega)
      refine ⟨16 + i, by omega, ?_⟩
      rw [Nat.pow_add, ← ei, r0, r1, r3, r4, r5, r6, r7]
      unfold octB
      omega
    have s2 : pqc a2 = 0 := by omega
    by_cases q3 : pqc a3 = 1
    · obtain ⟨i, hi, ei⟩ := (f_4 a3 h3).2.2.mp q3
      have r0 : a0 = 0 := f0.2.mp (by omega)
      have r1 : a1 = 0 := f1.2.mp (by omega)
      have r2 : a2 = 0 := f2.2.mp (by omega)
      have r4 : a4 = 0 := f4.2.mp (by omega)
      have r5 : a5 = 0 := f5.2.mp (by omega)
      have r6 : a6 = 0 := f6.2.mp (by omega)
      have r7 : a7 = 0 := f7.2.mp (by omega)
      refine ⟨24 + i, by omega, ?_⟩
      rw [Nat.pow_add, ← ei, r0, r1, r2, r4, r5, r6, r7]
      unfold octB
      omega
    have s3 : pqc a3 = 0 := by omega
    by_cases q4 : pqc a4 = 1
    · obtain ⟨i, hi, ei⟩ := (f_4 a4 h4).2.2.mp q4
      have r0 : a0 = 0 := f0.2.mp (by omega)
      have r1 : a1 = 0 := f1.2.mp (by omega)
      have r2 : a2 = 0 := f2.2.mp (by omega)
      have r3 : a3 = 0 := f3.2.mp (by omega)
      have r5 : a5 = 0 := f5.2.mp (by omega)
      have r6 : a6 = 0 := f6.2.mp (by omega)
      have r7 : a7 = 0 := f7.2.mp (by omega)
      refine ⟨32 + i, by omega, ?_⟩
      rw [Nat.pow_add, ← ei, r0, r1, r2, r3, r5, r6, r7]
      unfold octB
      omega
    have s4 : pqc a4 = 0 := by omega
    by_cases q5 : pqc a5 = 1
    · obtain ⟨i, hi, ei⟩ := (f_4 a5 h5).2.2.mp q5
      have r0 : a0 = 0 := f0.2.mp (by omega)
      have r1 : a1 = 0 := f1.2.mp (by omega)
      have r2 : a2 = 0 := f2.2.mp (by omega)
      have r3 : a3 = 0 := f3.2.mp (by omega)
      have r4 : a4 = 0 := f4.2.mp (by omega)
      have r6 : a6 = 0 := f6.2.mp (by omega)
      have r7 : a7 = 0 := f7.2.mp (by omega)
      refine ⟨40 + i, by omega, ?_⟩
      rw [Nat.pow_add, ← ei, r0, r1, r2, r3, r4, r6, r7]
      unfold octB
      omega
    have s5 : pqc a5 = 0 := by omega
    by_cases q6 : pqc a6 = 1
    · obtain ⟨i, hi, ei⟩ := (f_4 a6 h6).2.2.mp q6
      have r0 : a0 = 0 := f0.2.mp (by omega)
      have r1 : a1 = 0 := f1.2.mp (by omega)
      have r2 : a2 = 0 := f2.2.mp (by omega)
      have r3 : a3 = 0 := f3.2.mp (by omega)
      have r4 : a4 = 0 := f4.2.mp (by omega)
      have r5 : a5 = 0 := f5.2.mp (by omega)
      have r7 : a7 = 0 := f7.2.mp (by omega)
      refine ⟨48 + i, by omega, ?_⟩
      rw [Nat.pow_add, ← ei, r0, r1, r2, r3, r4, r5, r7]
      unfold octB
      omega
    have s6 : pqc a6 = 0 := by omega
    by_cases q7 : pqc a7 = 1
    · obtain ⟨i, hi, ei⟩ := (f_4 a7 h7).2.2.mp q7
      have r0 : a0 = 0 := f0.2.mp (by omega)
      have r1 : a1 = 0 := f1.2.mp (by omega)
      have r2 : a2 = 0 := f2.2.mp (by omega)
      have r3 : a3 = 0 := f3.2.mp (by omega)
      have r4 : a4 = 0 := f4.2.mp (by omega)
      have r5 : a5 = 0 := f5.2.mp (by omega)
      have r6 : a6 = 0 := f6.2.mp (by omega)
      refine ⟨56 + i, by omega, ?_⟩
      rw [Nat.pow_add, ← ei, r0, r1, r2, r3, r4, r5, r6]
      unfold octB
      omega
    have s7 : pqc a7 = 0 := by omega
    exfalso; omega
  · rintro ⟨j, hj, q⟩
    have hd : j = 8 * (j / 8) + j % 8 := by omega
    have hr : j % 8 < 8 := by omega
    have hp : (2 : Nat) ^ j = 256 ^ (j / 8) * 2 ^ (j % 8) := by
      have e8 : (256 : Nat) = 2 ^ 8 := rfl
      rw [e8, ← Nat.pow_mul, ← Nat.pow_add, ← hd]
    have hb : 2 ^ (j % 8) < 256 := Nat.pow_lt_pow_right (by decide) hr
    have hk : j / 8 < 8 := by omega
    have hb1 : pqc (2 ^ (j % 8)) = 1 := (f_4 _ hb).2.2.mpr ⟨j % 8, hr, rfl⟩
    have pz : pqc 0 = 0 := by decide
    rw [hp] at q
    generalize 2 ^ (j % 8) = b at *
    have hk2 : j / 8 = 0 ∨ j / 8 = 1 ∨ j / 8 = 2 ∨ j / 8 = 3 ∨ j / 8 = 4 ∨ j / 8 = 5 ∨ j / 8 = 6 ∨ j / 8 = 7 := by omega
    clear hd hr hp hk hj
    generalize j / 8 = k at *
    unfold octB at q
    rcases hk2 with z | z | z | z | z | z | z | z <;> subst z
    · have e0 : a0 = b := by omega
      rw [e0]; omega
    · have e1 : a1 = b := by omega
      rw [e1]; omega
    · have e2 : a2 = b := by omega
      rw [e2]; omega
    · have e3 : a3 = b := by omega
      rw [e3]; omega
    · have e4 : a4 = b := by omega
      rw [e4]; omega
    · have e5 : a5 = b := by omega
      rw [e5]; omega
    · have e6 : a6 = b := by omega
      rw [e6]; omega
    · have e7 : a7 = b := by omega
      rw [e7]; omega
theorem bc_1 {x : Int64} : (bcX x).toInt = 1 ↔ ∃ j, j < 64 ∧ ∀ i, i < 64 → (bl x i = true ↔ i = j) := by
  obtain ⟨a0, a1, a2, a3, a4, a5, a6, a7, e, h0, h1, h2, h3, h4, h5, h6, h7⟩ := oct_of (nL x) (nL_lt x)
  rw [bc_n e h0 h1 h2 h3 h4 h5 h6 h7]
  have h := oc_1 h0 h1 h2 h3 h4 h5 h6 h7
  rw [← e] at h
  have hi : ((pqc a0 : Int) + (pqc a1 : Int) + (pqc a2 : Int) + (pqc a3 : Int) + (pqc a4 : Int) + (pqc a5 : Int) + (pqc a6 : Int) + (pqc a7 : Int) = 1) ↔ pqc a0 + pqc a1 + pqc a2 + pqc a3 + pqc a4 + pqc a5 + pqc a6 + pqc a7 = 1 := by omega
  rw [hi, h]
  constructor
  · rintro ⟨j, hj, q⟩
    refine ⟨j, hj, fun i _ => ?_⟩
    rw [bl_n, q, Nat.testBit_two_pow]
    constructor
    · intro z; exact (of_decide_eq_true z).symm
    · intro z; exact decide_eq_true z.symm
  · rintro ⟨j, hj, q⟩
    refine ⟨j, hj, ?_⟩
    apply Nat.eq_of_testBit_eq
    intro i
    rw [Nat.testBit_two_pow]
    by_cases hi : i < 64
    · by_cases hij : i = j
      · rw [← bl_n, (q i hi).mpr hij, decide_eq_true hij.symm]
      · rw [← bl_n, decide_eq_false (fun z => hij z.symm)]
        cases w : bl x i with
        | false => rfl
        | true => exact absurd ((q i hi).mp w) hij
    · rw [decide_eq_false (by omega), Nat.testBit_lt_two_pow (Nat.lt_of_lt_of_le (nL_lt x) (by
        have : (2 : Nat) ^ 64 ≤ 2 ^ i := Nat.pow_le_pow_right (by decide) (by omega)
        omega))]
/-- one alone is named -/
def oaF (s Va : Int64) (fo : Int32) : Prop := fo.toInt = 4 ∨ (((bcX s).toInt = 1 ∨ ((bcX s).toInt = 0 ∧ fo.toInt = 3)) ∧ s &&& Va = 0)
end
section
/-! what putting a new member into a type's set does -/
def htX (na my pm : Nat → Int32) (m : Nat) (s : Int64) (c : Nat) : Prop := sgM na my pm c = sgM na my pm m ∧ bl s c = true
def piX (up ot na my pm : Nat → Int32) (m k : Nat) (s r : Int64) : Prop :=
  (∃ i : Nat, k ≤ i ∧ i < m ∧ htX na my pm m s i ∧ xU up (ot i) (ot m) ∧ (∀ c : Nat, k ≤ c → c < i → htX na my pm m s c → ¬ xU up (ot c) (ot m)) ∧ ∀ x : Nat, x < 64 → (bl r x = true ↔ (bl s x = true ∧ ¬ (k ≤ x ∧ x < i ∧ sgM na my pm x = sgM na my pm m))))
  ∨ ((∀ c : Nat, k ≤ c → c < m → htX na my pm m s c → ¬ xU up (ot c) (ot m)) ∧ ∀ x : Nat, x < 64 → (bl r x = true ↔ ((bl s x = true ∧ ¬ (k ≤ x ∧ x < m ∧ sgM na my pm x = sgM na my pm m)) ∨ x = m)))
/-- one that isn't met -/
theorem pi_n {up ot na my pm : Nat → Int32} {m k : Nat} {s r : Int64} (hn : ¬ htX na my pm m s k) (h : piX up ot na my pm m (k + 1) s r) : piX up ot na my pm m k s r := by
  have hx : ∀ x : Nat, sgM na my pm x = sgM na my pm m → bl s x = true → x ≠ k := fun x q1 q2 e => hn ⟨by rw [← e]; exact q1, by rw [← e]; exact q2⟩
  rcases h with ⟨i, h1, h2, h3, h4, h5, h6⟩ | ⟨h1, h2⟩
  · refine Or.inl ⟨i, by omega, h2, h3, h4, fun c q1 q2 q3 => h5 c ?_ q2 q3, fun x q => ?_⟩
    · rcases Nat.eq_or_lt_of_le q1 with e | e
      · subst e; exact absurd q3 hn
      · omega
    · rw [h6 x q]
      refine and_congr_right fun q2 => not_congr ⟨fun w => ⟨by omega, w.2⟩, fun w => ⟨?_, w.2⟩⟩
      have := hx x w.2.2 q2
      omega
  · refine Or.inr ⟨fun c q1 q2 q3 => h1 c ?_ q2 q3, fun x q => ?_⟩
    · rcases Nat.eq_or_lt_of_le q1 with e | e
      · subst e; exact absurd q3 hn
      · omega
    · rw [h2 x q]
      refine or_congr (and_congr_right fun q2 => not_congr ⟨fun w => ⟨by omega, w.2⟩, fun w => ⟨?_, w.2⟩⟩) Iff.rfl
      have := hx x w.2.2 q2
      omega
/-- one that hides the new one -/
theorem pi_u {up ot na my pm : Nat → Int32} {m k : Nat} {s : Int64} (hk : k < m) (h : htX na my pm m s k) (hu : xU up (ot k) (ot m)) : piX up ot na my pm m k s s :=
  Or.inl ⟨k, Nat.le_refl k, hk, h, hu, fun c q1 q2 => by omega, fun x _ => ⟨fun q => ⟨q, fun w => by omega⟩, fun q => q.1⟩⟩
theorem l_cl {s : Int64} {k x : Nat} (hk : k < 64) (hx : x < 64) : bl (s &&& ((1 <<< ((nI k).toInt64 &&& 63)) ^^^ (-1))) x = true ↔ (bl s x = true ∧ x ≠ k) := by
  rw [l_and, l_xor, l_1 k hk hx, l_m1 x hx]
  by_cases e : x = k
  · rw [decide_eq_true e]; simp [e]
  · rw [decide_eq_false e]; simp [e]
theorem l_st {s : Int64} {k x : Nat} (hk : k < 64) (hx : x < 64) : bl (s ||| (1 <<< ((nI k).toInt64 &&& 63))) x = true ↔ (bl s x = true ∨ x = k) := by
  rw [l_or, l_1 k hk hx]
  simp
/-- one that is hidden -/
theorem pi_h {up ot na my pm : Nat → Int32} {m k : Nat} {s r : Int64} (hk : k < m) (hm : m < 64) (h : htX na my pm m s k) (hu : ¬ xU up (ot k) (ot m)) (w : piX up ot na my pm m (k + 1) (s &&& ((1 <<< ((nI k).toInt64 &&& 63)) ^^^ (-1))) r) : piX up ot na my pm m k s r := by
  have hb : ∀ c : Nat, c ≠ k → c < 64 → (htX na my pm m (s &&& ((1 <<< ((nI k).toInt64 &&& 63)) ^^^ (-1))) c ↔ htX na my pm m s c) := fun c q1 q2 => and_congr_right fun _ => (l_cl (by omega) q2).trans ⟨fun z => z.1, fun z => ⟨z, q1⟩⟩
  rcases w with ⟨i, h1, h2, h3, h4, h5, h6⟩ | ⟨h1, h2⟩
  · refine Or.inl ⟨i, by omega, h2, (hb i (by omega) (by omega)).mp h3, h4, fun c q1 q2 q3 => ?_, fun x q => ?_⟩
    · rcases Nat.eq_or_lt_of_le q1 with e | e
      · subst e; exact hu
      · exact h5 c e q2 ((hb c (by omega) (by omega)).mpr q3)
    · rw [h6 x q, l_cl (by omega) q]
      constructor
      · rintro ⟨⟨z1, z2⟩, z3⟩
        exact ⟨z1, fun z => z3 ⟨by omega, z.2⟩⟩
      · rintro ⟨z1, z2⟩
        refine ⟨⟨z1, fun e => ?_⟩, fun z => z2 ⟨by omega, z.2⟩⟩
        subst e
        exact z2 ⟨Nat.le_refl _, by omega, h.1⟩
  · refine Or.inr ⟨fun c q1 q2 q3 => ?_, fun x q => ?_⟩
    · rcases Nat.eq_or_lt_of_le q1 with e | e
      · subst e; exact hu
      · exact h1 c e q2 ((hb c (by omega) (by omega)).mpr q3)
    · rw [h2 x q, l_cl (by omega) q]
      refine or_congr ?_ Iff.rfl
      constructor
      · rintro ⟨⟨z1, z2⟩, z3⟩
        exact ⟨z1, fun z => z3 ⟨by omega, z.2⟩⟩
      · rintro ⟨z1, z2⟩
        refine ⟨⟨z1, fun e => ?_⟩, fun z => z2 ⟨by omega, z.2⟩⟩
        subst e
        exact z2 ⟨Nat.le_refl _, by omega, h.1⟩
theorem pi_e {up ot na my pm : Nat → Int32} {m : Nat} {s : Int64} (hm : m < 64) : piX up ot na my pm m m s (s ||| (1 <<< ((nI m).toInt64 &&& 63))) :=
  Or.inr ⟨fun c q1 q2 => by omega, fun x q => (l_st hm q).trans (or_congr ⟨fun z => ⟨z, fun w => by omega⟩, fun z => z.1⟩ Iff.rfl)⟩
def adC (up ot na : Nat → Int32) (m : Nat) (tn : Int32) (x : Nat) : Prop := (x : Int) < tn.toInt ∧ ((x : Int) = (ot m).toInt ∨ ((na m).toInt ≠ 6 ∧ xU up (nI x) (ot m)))
def adX (up ot na my pm : Nat → Int32) (m : Nat) (tn : Int32) (k : Nat) (ha hb : Nat → Int64) : Prop := ∀ x : Nat, ((k ≤ x ∧ adC up ot na m tn x) → piX up ot na my pm m 0 (ha x) (hb x)) ∧ (¬ (k ≤ x ∧ adC up ot na m tn x) → hb x = ha x)
def stX (s : Int64) (b : Int32) (i : Nat) : Int64 := if b.toInt ≠ 0 then s ||| (1 <<< ((nI i).toInt64 &&& 63)) else s ||| 0
theorem st_1 {s : Int64} {b : Int32} {i : Nat} (h : b.toInt ≠ 0) : stX s b i = s ||| (1 <<< ((nI i).toInt64 &&& 63)) := by unfold stX; rw [if_pos h]
theorem st_2 {s : Int64} {b : Int32} {i : Nat} (h : b.toInt = 0) : stX s b i = s ||| 0 := by unfold stX; rw [if_neg (by omega)]
theorem ad_n {up ot na my pm : Nat → Int32} {m : Nat} {tn : Int32} {k : Nat} {ha hb : Nat → Int64} (hc : ¬ adC up ot na m tn k) (h : adX up ot na my pm m tn (k + 1) ha hb) : adX up ot na my pm m tn k ha hb := fun x => by
  obtain ⟨h1, h2⟩ := h x
  refine ⟨fun q => h1 ⟨?_, q.2⟩, fun q => h2 (fun z => q ⟨by omega, z.2⟩)⟩
  rcases Nat.eq_or_lt_of_le q.1 with e | e
  · subst e; exact absurd q.2 hc
  · exact e
theorem ad_y {up ot na my pm : Nat → Int32} {m : Nat} {tn : Int32} {k : Nat} {ha hb hd : Nat → Int64} (hc : adC up ot na m tn k) (h : adX up ot na my pm m tn (k + 1) hd hb) (h3 : ∀ x : Nat, x ≠ k → hd x = ha x) (h4 : piX up ot na my pm m 0 (ha k) (hd k)) : adX up ot na my pm m tn k ha hb := fun x => by
  obtain ⟨h1, h2⟩ := h x
  by_cases e : x = k
  · subst e
    have e2 := h2 (fun z => by omega)
    refine ⟨fun _ => by rw [e2]; exact h4, fun q => absurd ⟨Nat.le_refl _, hc⟩ q⟩
  · rw [h3 x e] at h1 h2
    exact ⟨fun q => h1 ⟨by omega, q.2⟩, fun q => h2 (fun z => q ⟨by omega, z.2⟩)⟩
theorem ad_e {up ot na my pm : Nat → Int32} {m : Nat} {tn : Int32} {k : Nat} {ha : Nat → Int64} (hk : tn.toInt ≤ k) : adX up ot na my pm m tn k ha ha := fun x => ⟨fun q => by have := q.2.1; omega, fun _ => rfl⟩
theorem va_s {f : Nat → Option Nat} {i : Nat} {v : Option Nat} : va_up f i v i = v := by simp [va_up]
theorem va_n {f : Nat → Option Nat} {i j : Nat} {v : Option Nat} (h : j ≠ i) : va_up f i v j = f j := by simp [va_up, h]
theorem alF_put {dOt dNa dRe dMa dMy dPm : Nat → Int32} {mn : Int32} {al : Nat → Option Nat} {dyn : pm_H} {j : Nat} (hn : 0 ≤ mn.toInt ∧ mn.toInt < 1000) (h : alF dOt dNa dRe dMa dMy dPm mn al dyn) (hj : mbF dOt dNa dRe dMa dMy dPm dyn j mn.toNatClampNeg) : alF dOt dNa dRe dMa dMy dPm (mn + 1) (va_up al mn.toNatClampNeg (some (j + 50))) dyn := by
  have e : (mn + 1).toInt = mn.toInt + 1 := iAdd rfl (by decide) (by omega) (by omega)
  have hx := xN hn.1
  intro i q
  by_cases ei : i = mn.toNatClampNeg
  · exact ⟨j, by rw [ei]; exact va_s, by rw [ei]; exact hj⟩
  · rw [va_n ei]; exact h i (by omega)
theorem faF_put {dFy dFa dFr : Nat → Int32} {mn : Int32} {al : Nat → Option Nat} {dyn : pm_H} {j : Nat} (hn : 0 ≤ mn.toInt ∧ mn.toInt < 1000) (h : faF dFy dFa dFr mn al dyn) (hj : fcF dFy dFa dFr dyn j mn.toNatClampNeg) : faF dFy dFa dFr (mn + 1) (va_up al mn.toNatClampNeg (some (j + 50))) dyn := by
  have e : (mn + 1).toInt = mn.toInt + 1 := iAdd rfl (by decide) (by omega) (by omega)
  have hx := xN hn.1
  intro i q
  by_cases ei : i = mn.toNatClampNeg
  · exact ⟨j, by rw [ei]; exact va_s, by rw [ei]; exact hj⟩
  · rw [va_n ei]; exact h i (by omega)
theorem reF_put {dFo dRt dRm : Nat → Int32} {mn : Int32} {al : Nat → Option Nat} {dyn : pm_H} {j : Nat} (hn : 0 ≤ mn.toInt ∧ mn.toInt < 1000) (h : reF dFo dRt dRm mn al dyn) (hj : rfF dFo dRt dRm dyn j mn.toNatClampNeg) : reF dFo dRt dRm (mn + 1) (va_up al mn.toNatClampNeg (some (j + 50))) dyn := by
  have e : (mn + 1).toInt = mn.toInt + 1 := iAdd rfl (by decide) (by omega) (by omega)
  have hx := xN hn.1
  intro i q
  by_cases ei : i = mn.toNatClampNeg
  · exact ⟨j, by rw [ei]; exact va_s, by rw [ei]; exact hj⟩
  · rw [va_n ei]; exact h i (by omega)
def clL (up ot na re ma my pm : Nat → Int32) (mn : Int32) (m k : Nat) : Prop := ∃ j : Nat, k ≤ j ∧ (j : Int) < mn.toInt ∧ sgM na my pm j = sgM na my pm m ∧ cwX up ot na re ma m j
end
section
/-! searches, as the class runs them -/
def fjL (up my pm : Nat → Int32) (nq : Nat) (fq : Nat → Int32) (F : Int32) (i : Nat) (ph : Int32) (k : Nat) : Prop := ∀ j : Nat, k ≤ j → (j : Int) < (nq : Int) - F.toInt → ((ph.toInt = 1 → xU up (fq (F.toNatClampNeg + j)) (tyM my pm i j ph)) ∧ (ph.toInt ≠ 1 → xL up (fq (F.toNatClampNeg + j)) (tyM my pm i j ph)))
def fitX (up ma my pm : Nat → Int32) (nq : Nat) (fq : Nat → Int32) (F : Int32) (i : Nat) (ph : Int32) : Prop := ((ph.toInt ≠ 3 ∧ ((my i).toNatClampNeg : Int) = (nq : Int) - F.toInt) ∨ (ph.toInt = 3 ∧ (ma i &&& 4).toInt ≠ 0 ∧ ((my i).toNatClampNeg : Int) ≤ (nq : Int) - F.toInt + 1)) ∧ fjL up my pm nq fq F i ph 0
/-- what is gathered from k on -/
def gfX (P : Nat → Prop) (mn : Int32) (k : Nat) (a b : Int64) (x y ph : Int32) : Prop := (∀ j : Nat, j < 64 → (bl b j = true ↔ (bl a j = true ∨ (k ≤ j ∧ (j : Int) < mn.toInt ∧ P j)))) ∧ ((∃ j : Nat, k ≤ j ∧ (j : Int) < mn.toInt ∧ P j) → y = ph) ∧ ((¬ ∃ j : Nat, k ≤ j ∧ (j : Int) < mn.toInt ∧ P j) → y = x)
theorem gf_n {P : Nat → Prop} {mn : Int32} {k : Nat} {a b : Int64} {x y ph : Int32} (hn : ¬ P k) (h : gfX P mn (k + 1) a b x y ph) : gfX P mn k a b x y ph := by
  have e : ∀ j : Nat, (k ≤ j ∧ (j : Int) < mn.toInt ∧ P j) ↔ (k + 1 ≤ j ∧ (j : Int) < mn.toInt ∧ P j) := fun j => ⟨fun q => ⟨by
    rcases Nat.eq_or_lt_of_le q.1 with e | e
    · subst e; exact absurd q.2.2 hn
    · exact e, q.2⟩, fun q => ⟨by omega, q.2⟩⟩
  obtain ⟨h1, h2, h3⟩ := h
  refine ⟨fun j q => (h1 j q).trans (or_congr Iff.rfl (e j).symm), fun ⟨j, q⟩ => h2 ⟨j, (e j).mp q⟩, fun q => h3 (fun ⟨j, w⟩ => q ⟨j, (e j).mpr w⟩)⟩
theorem gf_y {P : Nat → Prop} {mn : Int32} {k : Nat} {a b : Int64} {x y ph : Int32} (hk : k < 64) (hm : (k : Int) < mn.toInt) (hp : P k) (h : gfX P mn (k + 1) (a ||| (1 <<< ((nI k).toInt64 &&& 63))) b ph y ph) : gfX P mn k a b x y ph := by
  obtain ⟨h1, h2, h3⟩ := h
  have hy : y = ph := by
    rcases Classical.em (∃ j : Nat, k + 1 ≤ j ∧ (j : Int) < mn.toInt ∧ P j) with q | q
    · exact h2 q
    · exact h3 q
  refine ⟨fun j q => (h1 j q).trans ?_, fun _ => hy, fun q => absurd ⟨k, Nat.le_refl k, hm, hp⟩ q⟩
  rw [l_st hk q]
  constructor
  · rintro ((w | w) | w)
    · exact Or.inl w
    · subst w; exact Or.inr ⟨Nat.le_refl _, hm, hp⟩
    · exact Or.inr ⟨by omega, w.2⟩
  · rintro (w | w)
    · exact Or.inl (Or.inl w)
    · rcases Nat.eq_or_lt_of_le w.1 with e | e
      · exact Or.inl (Or.inr e.symm)
      · exact Or.inr ⟨e, w.2⟩
theorem gf_e {P : Nat → Prop} {mn : Int32} {k : Nat} {a : Int64} {x ph : Int32} (h : mn.toInt ≤ k) : gfX P mn k a a x x ph :=
  ⟨fun j _ => ⟨Or.inl, fun q => q.elim id (fun w => by omega)⟩, fun ⟨j, q⟩ => by omega, fun _ => rfl⟩
def uaB (my : Nat → Int32) (n : Int) (P : Int32) (i j : Nat) (k : Nat) : Prop := (k : Int) < n ∨ (P.toInt = 3 ∧ (k < (my i).toNatClampNeg ∨ k < (my j).toNatClampNeg))
def uaX (up my pm : Nat → Int32) (n : Int) (P : Int32) (i j : Nat) : Prop := ∀ k : Nat, uaB my n P i j k → xU up (tyM my pm i k P) (tyM my pm j k P)
def uaL (up my pm : Nat → Int32) (c P : Int32) (i j k : Nat) : Prop := ∀ x : Nat, k ≤ x → (x : Int) < c.toInt → xU up (tyM my pm i x P) (tyM my pm j x P)
def spX (up my pm : Nat → Int32) (s : Int64) (mn : Int32) (n : Int) (P : Int32) (i k : Nat) : Prop := ∀ j : Nat, k ≤ j → (j : Int) < mn.toInt → bl s j = true → uaX up my pm n P i j
def oneP (SP : Nat → Prop) (mn : Int32) (b : Nat) : Prop := (b : Int) < mn.toInt ∧ SP b ∧ ∀ j : Nat, (j : Int) < mn.toInt → SP j → j = b
/-- the phases: which fits are gathered -/
def rnX (Fx : Int32 → Nat → Prop) (mn : Int32) (T : Int64) (P : Int32) : Prop := (P = 0 ∧ T = 0 ∧ ∀ j : Nat, (j : Int) < mn.toInt → ¬ Fx 1 j ∧ ¬ Fx 2 j ∧ ¬ Fx 3 j) ∨ ((1 ≤ P.toInt ∧ P.toInt ≤ 3) ∧ T ≠ 0 ∧ (∀ j : Nat, j < 64 → (bl T j = true ↔ ((j : Int) < mn.toInt ∧ Fx P j))) ∧ (∃ j : Nat, (j : Int) < mn.toInt ∧ Fx P j) ∧ ∀ p : Nat, 1 ≤ p → (p : Int) < P.toInt → ∀ j : Nat, (j : Int) < mn.toInt → ¬ Fx (nI p) j)
/-- ahead of phase k -/
def rnK (Fx : Int32 → Nat → Prop) (mn : Int32) (T : Int64) (P : Int32) (k : Nat) : Prop := (T = 0 ∧ P = 0 ∧ ∀ p : Nat, 1 ≤ p → p < k → ∀ j : Nat, (j : Int) < mn.toInt → ¬ Fx (nI p) j) ∨ (T ≠ 0 ∧ rnX Fx mn T P)
theorem rn_s {Fx : Int32 → Nat → Prop} {mn : Int32} {T U : Int64} {P y : Int32} {k : Nat} (hk : 1 ≤ k ∧ k ≤ 3) (hm : mn.toInt ≤ 64) (hT : T = 0) (h : rnK Fx mn T P k) (g : gfX (Fx (nI k)) mn 0 T U P y (nI k)) : rnK Fx mn U y (k + 1) := by
  have hnk := nI_toInt (n := k) (by omega)
  rcases h with ⟨_, h2, h3⟩ | ⟨h1, _⟩
  · obtain ⟨g1, g2, g3⟩ := g
    rcases Classical.em (∃ j : Nat, 0 ≤ j ∧ (j : Int) < mn.toInt ∧ Fx (nI k) j) with q | q
    · have hy := g2 q
      have hb : ∀ j : Nat, j < 64 → (bl U j = true ↔ ((j : Int) < mn.toInt ∧ Fx (nI k) j)) := fun j w => (g1 j w).trans ⟨fun z => z.elim (fun z => by rw [hT, l_0] at z; cases z) (fun z => z.2), fun z => Or.inr ⟨Nat.zero_le j, z⟩⟩
      obtain ⟨j, _, q2, q3⟩ := q
      have hU : U ≠ 0 := l_nz.mpr ⟨j, by omega, (hb j (by omega)).mpr ⟨q2, q3⟩⟩
      refine Or.inr ⟨hU, Or.inr ⟨by rw [hy]; omega, hU, by rw [hy]; exact hb, by rw [hy]; exact ⟨j, q2, q3⟩, fun p w1 w2 => h3 p w1 (by rw [hy] at w2; omega)⟩⟩
    · have hy := g3 q
      have hU : U = 0 := by
        rcases Classical.em (U = 0) with z | z
        · exact z
        · obtain ⟨j, w1, w2⟩ := l_nz.mp z
          rcases (g1 j w1).mp w2 with w | w
          · rw [hT, l_0] at w; cases w
          · exact absurd ⟨j, w⟩ q
      refine Or.inl ⟨hU, by rw [hy, h2], fun p w1 w2 j w3 w4 => ?_⟩
      rcases Nat.lt_succ_iff_lt_or_eq.mp w2 with e | e
      · exact h3 p w1 e j w3 w4
      · subst e; exact q ⟨j, Nat.zero_le j, w3, w4⟩
  · exact absurd hT h1
theorem rn_e {Fx : Int32 → Nat → Prop} {mn : Int32} {T : Int64} {P : Int32} {k : Nat} (hk : T ≠ 0 ∨ 4 ≤ k) (h : rnK Fx mn T P k) : rnX Fx mn T P := by
  rcases h with ⟨h1, h2, h3⟩ | ⟨_, h⟩
  · rcases hk with hk | hk
    · exact absurd h1 hk
    · refine Or.inl ⟨h2, h1, fun j q => ⟨?_, ?_, ?_⟩⟩
      · exact h3 1 (by omega) (by omega) j q
      · exact h3 2 (by omega) (by omega) j q
      · exact h3 3 (by omega) (by omega) j q
  · exact h
/-- what was found: nothing, or a member -/
def fdF (dOt dNa dRe dMa dMy dPm : Nat → Int32) (dyn : pm_H) (v : Value) (o : Option Nat) : Prop := (o = none ∧ v = .null) ∨ ∃ j b : Nat, o = some b ∧ v = .ref (j + 50) ∧ mbF dOt dNa dRe dMa dMy dPm dyn j b
/-- a search, as the class runs it -/
def rsX (up ma my pm : Nat → Int32) (s : Int64) (t : Int32) (nq : Nat) (fq : Nat → Int32) (mn b f9 : Int32) (t9 : Int64) (p9 : Int32) (o9 : Option Nat) : Prop :=
  ((b.toInt ≠ 0 ∧ (nq = 0 ∨ ¬ xU up (fq 0) t)) ∧ f9 = 1 ∧ t9 = 0 ∧ p9 = 0 ∧ o9 = none)
  ∨ (¬ (b.toInt ≠ 0 ∧ (nq = 0 ∨ ¬ xU up (fq 0) t)) ∧ ((b.toInt ≠ 0 ∧ f9 = 1) ∨ (b.toInt = 0 ∧ f9 = 0)) ∧ rnX (fun ph x => bl s x = true ∧ fitX up ma my pm nq fq f9 x ph) mn t9 p9 ∧ ((∃ c : Nat, o9 = some c ∧ oneP (fun b => bl t9 b = true ∧ spX up my pm t9 mn ((nq : Int) - f9.toInt) p9 b 0) mn c) ∨ (o9 = none ∧ ¬ ∃ c : Nat, oneP (fun b => bl t9 b = true ∧ spX up my pm t9 mn ((nq : Int) - f9.toInt) p9 b 0) mn c)))
end
section
/-! what a reference means, as the class finds it -/
def tsX (pa : Nat → Int32) (tn fo t : Int32) : Int32 := if fo.toInt = 2 then (if 0 ≤ t.toInt ∧ t.toInt < tn.toInt then pa t.toNatClampNeg else -1) else t
theorem ts_1 {pa : Nat → Int32} {tn fo t : Int32} (h : fo.toInt = 2) (h2 : 0 ≤ t.toInt ∧ t.toInt < tn.toInt) : tsX pa tn fo t = pa t.toNatClampNeg := by unfold tsX; rw [if_pos h, if_pos h2]
theorem ts_2 {pa : Nat → Int32} {tn fo t : Int32} (h : fo.toInt = 2) (h2 : ¬ (0 ≤ t.toInt ∧ t.toInt < tn.toInt)) : tsX pa tn fo t = -1 := by unfold tsX; rw [if_pos h, if_neg h2]
theorem ts_3 {pa : Nat → Int32} {tn fo t : Int32} (h : fo.toInt ≠ 2) : tsX pa tn fo t = t := by unfold tsX; rw [if_neg h]
/-- the fault of one search alone -/
def ffX (ma : Nat → Int32) (T : Int64) (o : Option Nat) (fo : Int32) (b0 b9 : Value) (r : Int32) : Prop := (o = none ∧ b9 = b0 ∧ ((T = 0 ∧ r = 1) ∨ (T ≠ 0 ∧ r = 2))) ∨ ∃ c : Nat, o = some c ∧ b9 = .ref 10 ∧ (((ma c &&& 1).toInt ≠ 0 ∧ r = 3) ∨ ((ma c &&& 1).toInt = 0 ∧ (fo.toInt = 2 ∧ (ma c &&& 2).toInt ≠ 0) ∧ r = 4) ∨ ((ma c &&& 1).toInt = 0 ∧ ¬ (fo.toInt = 2 ∧ (ma c &&& 2).toInt ≠ 0) ∧ r = 0))
def f1C (ma : Nat → Int32) (St U : Int64) (o : Option Nat) : Prop := ∃ c : Nat, o = some c ∧ (ma c &&& 1).toInt ≠ 0 ∧ U &&& (St ^^^ (-1)) = 0
def f2C (ma : Nat → Int32) (St T : Int64) (o : Option Nat) : Prop := ∃ c : Nat, o = some c ∧ (ma c &&& 1).toInt = 0 ∧ T &&& St = 0
/-- the fault of both -/
def fbX (ma : Nat → Int32) (St T U : Int64) (o1 o2 : Option Nat) (b0 : Value) (s0 : Int32) (b9 : Value) (s9 r : Int32) : Prop := (f1C ma St U o1 ∧ b9 = .ref 10 ∧ s9 = s0 ∧ r = 0) ∨ (¬ f1C ma St U o1 ∧ f2C ma St T o2 ∧ b9 = .ref 11 ∧ s9 = 1 ∧ r = 0) ∨ (¬ f1C ma St U o1 ∧ ¬ f2C ma St T o2 ∧ b9 = b0 ∧ s9 = s0 ∧ ((T = 0 ∧ U = 0 ∧ r = 1) ∨ (¬ (T = 0 ∧ U = 0) ∧ (T &&& St ≠ 0 ∨ U &&& (St ^^^ (-1)) ≠ 0) ∧ r = 2) ∨ (¬ (T = 0 ∧ U = 0) ∧ ¬ (T &&& St ≠ 0 ∨ U &&& (St ^^^ (-1)) ≠ 0) ∧ r = 3)))
/-- the fault -/
def faX (up ma : Nat → Int32) (St Ab : Int64) (ha nm : Nat → Int64) (nq : Nat) (fq : Nat → Int32) (fo t : Int32) (T U : Int64) (o1 o2 : Option Nat) (b0 : Value) (s0 : Int32) (b9 : Value) (s9 r : Int32) : Prop :=
  (fo.toInt = 4 ∧ b9 = b0 ∧ s9 = s0 ∧ (((nq = 1 ∧ xL up (fq 0) 10) ∧ r = 0) ∨ (¬ (nq = 1 ∧ xL up (fq 0) 10) ∧ r = 1)))
  ∨ (fo.toInt = 3 ∧ hbX ha nm t &&& Ab ≠ 0 ∧ b9 = b0 ∧ s9 = s0 ∧ r = 4)
  ∨ (fo.toInt = 3 ∧ hbX ha nm t &&& Ab = 0 ∧ nmX ha nm t 6 = 0 ∧ b9 = b0 ∧ s9 = s0 ∧ ((nq = 0 ∧ r = 0) ∨ (nq ≠ 0 ∧ r = 1)))
  ∨ (fo.toInt ≠ 4 ∧ (fo.toInt = 3 → hbX ha nm t &&& Ab = 0 ∧ nmX ha nm t 6 ≠ 0) ∧ fo.toInt = 0 ∧ fbX ma St T U o1 o2 b0 s0 b9 s9 r)
  ∨ (fo.toInt ≠ 4 ∧ (fo.toInt = 3 → hbX ha nm t &&& Ab = 0 ∧ nmX ha nm t 6 ≠ 0) ∧ fo.toInt ≠ 0 ∧ s9 = s0 ∧ ffX ma T o1 fo b0 b9 r)
/-- what the fault is none of -/
theorem fa_0 {up ma : Nat → Int32} {St Ab : Int64} {ha nm : Nat → Int64} {nq : Nat} {fq : Nat → Int32} {fo t : Int32} {T U : Int64} {o1 o2 : Option Nat} {b9 : Value} {s9 r : Int32} (h : faX up ma St Ab ha nm nq fq fo t T U o1 o2 .null 0 b9 s9 r) (hr : r.toInt = 0) : (b9 = .null ∧ s9 = 0 ∧ (fo.toInt = 4 ∨ fo.toInt = 3)) ∨ (b9 = .ref 10 ∧ s9 = 0 ∧ (∃ c : Nat, o1 = some c) ∧ fo.toInt ≠ 4) ∨ (b9 = .ref 11 ∧ s9 = 1 ∧ (∃ c : Nat, o2 = some c) ∧ fo.toInt = 0) := by
  have z1 : (1 : Int32).toInt = 1 := by decide
  have z2 : (2 : Int32).toInt = 2 := by decide
  have z3 : (3 : Int32).toInt = 3 := by decide
  have z4 : (4 : Int32).toInt = 4 := by decide
  rcases h with ⟨h1, h2, h3, _⟩ | ⟨h1, _, h2, h3, h4⟩ | ⟨h1, _, _, h2, h3, _⟩ | ⟨h1, _, h3, h4⟩ | ⟨h1, _, h3, h4, h5⟩
  · exact Or.inl ⟨h2, h3, Or.inl h1⟩
  · rw [h4] at hr; omega
  · exact Or.inl ⟨h2, h3, Or.inr h1⟩
  · rcases h4 with ⟨⟨c, q, _⟩, q2, q3, _⟩ | ⟨_, ⟨c, q, _⟩, q2, q3, _⟩ | ⟨_, _, _, _, ⟨_, _, q⟩ | ⟨_, _, q⟩ | ⟨_, _, q⟩⟩
    · exact Or.inr (Or.inl ⟨q2, q3, ⟨c, q⟩, by omega⟩)
    · exact Or.inr (Or.inr ⟨q2, q3, ⟨c, q⟩, h3⟩)
    · rw [q] at hr; omega
    · rw [q] at hr; omega
    · rw [q] at hr; omega
  · rcases h5 with ⟨_, _, ⟨_, q⟩ | ⟨_, q⟩⟩ | ⟨c, q1, q2, _⟩
    · rw [q] at hr; omega
    · rw [q] at hr; omega
    · exact Or.inr (Or.inl ⟨q2, h4, ⟨c, q1⟩, by omega⟩)
/-- which member is meant -/
def meO (b9 : Value) (o1 o2 : Option Nat) : Option Nat := match b9 with
  | .ref 10 => o1
  | .ref 11 => o2
  | _ => none
def mePh (b9 : Value) (p1 p2 : Int32) : Int32 := match b9 with
  | .ref 10 => p1
  | .ref 11 => p2
  | _ => 0
/-- what comes of a call -/
def wcX (re : Nat → Int32) (fo t : Int32) (o : Option Nat) : Int32 := if fo.toInt = 4 then (if t.toInt = 10 then 30 else 20 + t) else match o with
  | none => t
  | some c => re c
/-- the whole of it: fault, what comes, the answer -/
def fiR (up re : Nat → Int32) (fo t fr : Int32) (o : Option Nat) (r r9 : Int32) : Prop := (r.toInt ≠ 0 ∧ r9 = -10 - r) ∨ (r.toInt = 0 ∧ (fr.toInt ≠ 11 ∧ ¬ xL up (wcX re fo t o) fr) ∧ r9 = -15) ∨ (r.toInt = 0 ∧ ¬ (fr.toInt ≠ 11 ∧ ¬ xL up (wcX re fo t o) fr) ∧ ((o = none ∧ r9 = 99) ∨ ∃ c : Nat, o = some c ∧ r9 = nI c))
def fiX (up pa re ma my pm : Nat → Int32) (St Ab : Int64) (ha nm : Nat → Int64) (tn mn : Int32) (nq : Nat) (fq : Nat → Int32) (fo t w fr : Int32) (f1 : Int32) (T : Int64) (p1 : Int32) (o1 : Option Nat) (f2 : Int32) (U : Int64) (p2 : Int32) (o2 : Option Nat) (b9 : Value) (s9 r9 : Int32) : Prop :=
  (fo.toInt ≠ 4 → rsX up ma my pm (nmX ha nm (tsX pa tn fo t) w) (tsX pa tn fo t) nq fq mn 0 f1 T p1 o1) ∧ (fo.toInt = 0 → rsX up ma my pm (nmX ha nm t w) t nq fq mn 1 f2 U p2 o2) ∧ ∃ r : Int32, faX up ma St Ab ha nm nq fq fo t T U o1 o2 .null 0 b9 s9 r ∧ fiR up re fo t fr (meO b9 o1 o2) r r9
def anX (o : Option Nat) (T : Int64) : Int32 := match o with
  | some c => nI c
  | none => if T = 0 then -4 else -5
theorem an_1 {o : Option Nat} {T : Int64} {c : Nat} (h : o = some c) : anX o T = nI c := by rw [h]; rfl
theorem an_2 {o : Option Nat} {T : Int64} (h : o = none) (h2 : T = 0) : anX o T = -4 := by
  rw [h]
  show (if T = 0 then (-4 : Int32) else -5) = -4
  rw [if_pos h2]
theorem an_3 {o : Option Nat} {T : Int64} (h : o = none) (h2 : T ≠ 0) : anX o T = -5 := by
  rw [h]
  show (if T = 0 then (-4 : Int32) else -5) = -5
  rw [if_neg h2]
def byC (b9 : Value) (o1 o2 : Option Nat) : Prop := b9 = .null ∨ (b9 = .ref 10 ∧ ∃ c : Nat, o1 = some c) ∨ (b9 = .ref 11 ∧ ∃ c : Nat, o2 = some c)
theorem fa_c {up ma : Nat → Int32} {St Ab : Int64} {ha nm : Nat → Int64} {nq : Nat} {fq : Nat → Int32} {fo t : Int32} {T U : Int64} {o1 o2 : Option Nat} {b9 : Value} {s9 r : Int32} (h : faX up ma St Ab ha nm nq fq fo t T U o1 o2 .null 0 b9 s9 r) (hr : r.toInt = 0) : byC b9 o1 o2 := by
  rcases fa_0 h hr with ⟨q, _⟩ | ⟨q, _, w, _⟩ | ⟨q, _, w, _⟩
  · exact Or.inl q
  · exact Or.inr (Or.inl ⟨q, w⟩)
  · exact Or.inr (Or.inr ⟨q, w⟩)
theorem fd_s {dOt dNa dRe dMa dMy dPm : Nat → Int32} {dyn : pm_H} {v : Value} {o : Option Nat} {c : Nat} (h : fdF dOt dNa dRe dMa dMy dPm dyn v o) (hc : o = some c) : ∃ j : Nat, v = .ref (j + 50) ∧ mbF dOt dNa dRe dMa dMy dPm dyn j c := by
  rcases h with ⟨q, _⟩ | ⟨j, b, q, q2, q3⟩
  · rw [hc] at q; cases q
  · rw [hc] at q; cases q; exact ⟨j, q2, q3⟩
theorem wc_1 {re : Nat → Int32} {fo t : Int32} {o : Option Nat} (h : fo.toInt = 4) (h2 : t.toInt = 10) : wcX re fo t o = 30 := by unfold wcX; rw [if_pos h, if_pos h2]
theorem wc_2 {re : Nat → Int32} {fo t : Int32} {o : Option Nat} (h : fo.toInt = 4) (h2 : t.toInt ≠ 10) : wcX re fo t o = 20 + t := by unfold wcX; rw [if_pos h, if_neg h2]
theorem wc_3 {re : Nat → Int32} {fo t : Int32} (h : fo.toInt ≠ 4) : wcX re fo t none = t := by unfold wcX; rw [if_neg h]
theorem wc_4 {re : Nat → Int32} {fo t : Int32} {c : Nat} (h : fo.toInt ≠ 4) : wcX re fo t (some c) = re c := by unfold wcX; rw [if_neg h]
end
section
/-! calls, as the class does them -/
def amX (v : Int32) (z : cs_T) : Int32 := if 1 ≤ v.toInt ∧ v.toInt ≤ z.1.toInt then z.2.2.2.1 v.toNatClampNeg else 0
theorem am_1 {v tl cs : Int32} {ki am pl : Nat → Int32} (h : 1 ≤ v.toInt ∧ v.toInt ≤ tl.toInt) : amX v (tl, cs, ki, am, pl) = am v.toNatClampNeg := by unfold amX; rw [if_pos h]
theorem am_2 {v tl cs : Int32} {x : (Nat → Int32) × (Nat → Int32) × (Nat → Int32)} (h : ¬ (1 ≤ v.toInt ∧ v.toInt ≤ tl.toInt)) : amX v (tl, cs, x) = 0 := by unfold amX; rw [if_neg h]
/-- the class's convert -/
def cvX (v a b : Int32) (z : cs_T) : Int32 × cs_T := if z.2.1.toInt ≠ 0 ∨ b.toInt = 11 then (0, z) else if a.toInt = 10 ∧ b.toInt ≠ 10 then mdF 1 v z else if a.toInt = 1 ∧ b.toInt = 10 then (amX v z, z.1, (if v.toInt = 0 then -21 else z.2.1), z.2.2) else (v, z)
theorem cv_1 {v a b tl cs : Int32} {x : (Nat → Int32) × (Nat → Int32) × (Nat → Int32)} (h : cs.toInt ≠ 0 ∨ b.toInt = 11) : cvX v a b (tl, cs, x) = (0, tl, cs, x) := by unfold cvX; rw [if_pos h]
theorem cv_2 {v a b tl cs : Int32} {x : (Nat → Int32) × (Nat → Int32) × (Nat → Int32)} (h : ¬ (cs.toInt ≠ 0 ∨ b.toInt = 11)) (h2 : a.toInt = 10 ∧ b.toInt ≠ 10) : cvX v a b (tl, cs, x) = mdF 1 v (tl, cs, x) := by unfold cvX; rw [if_neg h, if_pos h2]
theorem cv_3 {v a b tl cs : Int32} {x : (Nat → Int32) × (Nat → Int32) × (Nat → Int32)} (h : ¬ (cs.toInt ≠ 0 ∨ b.toInt = 11)) (h2 : ¬ (a.toInt = 10 ∧ b.toInt ≠ 10)) (h3 : a.toInt = 1 ∧ b.toInt = 10) (h4 : v.toInt = 0) : cvX v a b (tl, cs, x) = (0, tl, -21, x) := by
  unfold cvX
  rw [if_neg h, if_neg h2, if_pos h3, if_pos h4, am_2 (by omega)]
theorem cv_4 {v a b tl cs : Int32} {ki am pl : Nat → Int32} (h : ¬ (cs.toInt ≠ 0 ∨ b.toInt = 11)) (h2 : ¬ (a.toInt = 10 ∧ b.toInt ≠ 10)) (h3 : a.toInt = 1 ∧ b.toInt = 10) (h4 : v.toInt ≠ 0) (h5 : 1 ≤ v.toInt ∧ v.toInt ≤ tl.toInt) : cvX v a b (tl, cs, ki, am, pl) = (am v.toNatClampNeg, tl, cs, ki, am, pl) := by
  unfold cvX
  rw [if_neg h, if_neg h2, if_pos h3, if_neg h4, am_1 h5]
theorem cv_4n {v a b tl cs : Int32} {ki am pl : Nat → Int32} (h : ¬ (cs.toInt ≠ 0 ∨ b.toInt = 11)) (h2 : ¬ (a.toInt = 10 ∧ b.toInt ≠ 10)) (h3 : a.toInt = 1 ∧ b.toInt = 10) (h4 : v.toInt ≠ 0) (h5 : ¬ (1 ≤ v.toInt ∧ v.toInt ≤ tl.toInt)) : cvX v a b (tl, cs, ki, am, pl) = (0, tl, cs, ki, am, pl) := by
  unfold cvX
  rw [if_neg h, if_neg h2, if_pos h3, if_neg h4, am_2 h5]
theorem cv_5 {v a b tl cs : Int32} {x : (Nat → Int32) × (Nat → Int32) × (Nat → Int32)} (h : ¬ (cs.toInt ≠ 0 ∨ b.toInt = 11)) (h2 : ¬ (a.toInt = 10 ∧ b.toInt ≠ 10)) (h3 : ¬ (a.toInt = 1 ∧ b.toInt = 10)) : cvX v a b (tl, cs, x) = (v, tl, cs, x) := by unfold cvX; rw [if_neg h, if_neg h2, if_neg h3]
theorem cv_b {v a b : Int32} {z : cs_T} (hz : 0 ≤ z.1.toInt ∧ z.1.toInt ≤ 60) : (0 ≤ (cvX v a b z).2.1.toInt ∧ (cvX v a b z).2.1.toInt ≤ 60) ∧ z.1.toInt ≤ (cvX v a b z).2.1.toInt := by
  unfold cvX
  split
  · exact ⟨hz, Int.le_refl _⟩
  · split
    · exact (md_b hz).2
    · split
      · exact ⟨hz, Int.le_refl _⟩
      · exact ⟨hz, Int.le_refl _⟩
/-- the places' sum -/
def plX (v : Int32) (z : cs_T) (k : Nat) : Int32 := if (1 ≤ v.toInt ∧ v.toInt ≤ z.1.toInt) ∧ k < 20 then z.2.2.2.2 (20 * v.toNatClampNeg + k) else 0
def splF (v : Int32) (z : cs_T) : Nat → Nat → Int32 → Int32
  | 0, _, c => c
  | n + 1, k, c => splF v z n (k + 1) (c + plX v z k)
/-- the sum of what was got -/
def sgX (pf go : Nat → Int32) (z : cs_T) : Nat → Nat → Int32 → Int32
  | 0, _, c => c
  | n + 1, k, c => sgX pf go z n (k + 1) (if (pf k).toInt = 10 then c + go k else if (pf k).toInt = 1 then c + amX (go k) z else c)
def sumX (ma : Int32) (n : Nat) (pf go : Nat → Int32) (z : cs_T) (i : Nat) : Int32 := if (ma &&& 4).toInt ≠ 0 ∧ 1 ≤ n ∧ (pf (n - 1)).toInt = 30 then sgX pf go z n 0 (100 * nI i) + splF (go (n - 1)) z (amX (go (n - 1)) z).toNatClampNeg 0 0 else sgX pf go z n 0 (100 * nI i)
/-- what a member gives -/
def grX (re n : Int32) (op : Prop) (S : Int32) (z : cs_T) (x : Int32 × cs_T) : Prop := (re.toInt = 11 ∧ x = (0, z)) ∨ (re.toInt = 10 ∧ x = (S, z)) ∨ (re.toInt = 1 ∧ x = mdF 1 S z) ∨ (20 ≤ re.toInt ∧ x = mdF re n z) ∨ ((re.toInt ≠ 11 ∧ re.toInt ≠ 10 ∧ re.toInt ≠ 1 ∧ re.toInt < 20) ∧ ((op ∧ x = (0, z)) ∨ (¬ op ∧ x = mdF re 0 z)))
/-- the arguments one by one -/
def cp1 (ar fq pf : Nat → Int32) (s : Nat) : Nat → Nat → (Nat → Int32) × cs_T → (Nat → Int32) × cs_T
  | 0, _, x => x
  | n + 1, k, x => cp1 ar fq pf s n (k + 1) (upd x.1 k (cvX (ar (s + k)) (fq (s + k)) (pf k) x.2).1, (cvX (ar (s + k)) (fq (s + k)) (pf k) x.2).2)
def setX (row : Int32) (i : Nat) (x : Int32 × cs_T) : cs_T := if (1 ≤ row.toInt ∧ row.toInt ≤ x.2.1.toInt) ∧ i < 20 then (x.2.1, x.2.2.1, x.2.2.2.1, x.2.2.2.2.1, upd x.2.2.2.2.2 (20 * row.toNatClampNeg + i) x.1) else x.2
/-- the rest, into the row -/
def cp2 (ar fq : Nat → Int32) (s : Nat) (row part : Int32) : Nat → Nat → cs_T → cs_T
  | 0, _, z => z
  | n + 1, k, z => cp2 ar fq s row part n (k + 1) (setX row k (cvX (ar (s + k)) (fq (s + k)) part z))
theorem set_1 {row r tn en : Int32} {i : Nat} {tt ti pl : Nat → Int32} (h : (1 ≤ row.toInt ∧ row.toInt ≤ tn.toInt) ∧ i < 20) : setX row i (r, tn, en, tt, ti, pl) = (tn, en, tt, ti, upd pl (20 * row.toNatClampNeg + i) r) := by unfold setX; rw [if_pos h]
theorem set_2 {row r tn en : Int32} {i : Nat} {x : (Nat → Int32) × (Nat → Int32) × (Nat → Int32)} (h : ¬ ((1 ≤ row.toInt ∧ row.toInt ≤ tn.toInt) ∧ i < 20)) : setX row i (r, tn, en, x) = (tn, en, x) := by unfold setX; rw [if_neg h]
def prX (kd : Int32) : Int32 := if kd.toInt = 30 then 10 else kd - 20
/-- what is handed on to a member: n parameters pf, nq arguments fq from s on -/
def haX (ar fq pf : Nat → Int32) (n nq s : Nat) (ip : Int32) (x : (Nat → Int32) × cs_T) : (Nat → Int32) × cs_T :=
  if ip.toInt ≠ 0 ∧ 1 ≤ n then
    (fun (y : (Nat → Int32) × cs_T) => (fun (w : Int32 × cs_T) => (upd y.1 (n - 1) w.1, cp2 ar fq (s + (n - 1)) w.1 (prX (pf (n - 1))) (nq - (s + (n - 1))) 0 w.2)) (mdF (pf (n - 1)) (nI nq - nI (s + (n - 1))) y.2)) (cp1 ar fq pf s (min (n - 1) (nq - s)) 0 x)
  else cp1 ar fq pf s (min (if ip.toInt ≠ 0 then n - 1 else n) (nq - s)) 0 x
/-- which member is taken -/
def mtX (na my pm : Nat → Int32) (ha nm : Nat → Int64) (mn : Int32) (bs fo a0 rc : Int32) (ki : Nat → Int32) (tl : Int32) (c : Nat) (e0 : Int32) (b : Nat) : Prop :=
  ((bs.toInt = 0 ∧ fo.toInt ≠ 1) ∧ e0 = 0 ∧ b = c) ∨ (¬ (bs.toInt = 0 ∧ fo.toInt ≠ 1) ∧ ∃ r : Int32, ((bs.toInt ≠ 0 ∧ r = a0) ∨ (bs.toInt = 0 ∧ r = rc)) ∧ ((r.toInt = 0 ∧ e0 = -21 ∧ b = c) ∨ (r.toInt ≠ 0 ∧ e0 = 0 ∧ tfX na my pm (hbX ha nm (if 1 ≤ r.toInt ∧ r.toInt ≤ tl.toInt then ki r.toNatClampNeg else -1)) mn c b)))
/-- a size -/
def szX (ar fq : Nat → Int32) (co : Int32) (z : cs_T) : Int32 × cs_T := (fun u : Int32 × cs_T => mdF co u.1 (u.2.1, (if 20 < u.1.toInt then -2 else if u.1.toInt < 0 then -22 else u.2.2.1), u.2.2.2)) (cvX (ar 0) (fq 0) 10 z)
/-- a value, with what it holds -/
def vuF (dFo dRt dRm dFy dFa dFr dOt dNa dRe dMa dMy dPm : Nat → Int32) (dyn : pm_H) (v r ir f jf : Nat) (rc : Int32) (mv : Value) (om : Option Nat) (bs ip co : Int32) : Prop := dyn[v]? = some (.inr (10, [.ref (r + 50), .ref (f + 50), .int rc, mv, .int bs, .int ip, .int co])) ∧ rfF dFo dRt dRm dyn r ir ∧ fcF dFy dFa dFr dyn f jf ∧ fdF dOt dNa dRe dMa dMy dPm dyn mv om
theorem spl_s {v : Int32} {z : cs_T} {n k : Nat} {c : Int32} : splF v z (n + 1) k c = splF v z n (k + 1) (c + plX v z k) := rfl
theorem pl_1 {v tl cs : Int32} {ki am pl : Nat → Int32} {k : Nat} (h : (1 ≤ v.toInt ∧ v.toInt ≤ tl.toInt) ∧ k < 20) : plX v (tl, cs, ki, am, pl) k = pl (20 * v.toNatClampNeg + k) := by unfold plX; rw [if_pos h]
theorem pl_2 {v tl cs : Int32} {x : (Nat → Int32) × (Nat → Int32) × (Nat → Int32)} {k : Nat} (h : ¬ ((1 ≤ v.toInt ∧ v.toInt ≤ tl.toInt) ∧ k < 20)) : plX v (tl, cs, x) k = 0 := by unfold plX; rw [if_neg h]
theorem xNn {x : Int32} (h : x.toInt ≤ 0) : x.toNatClampNeg = 0 := Int.toNat_of_nonpos h
theorem cp1_s {ar fq pf : Nat → Int32} {s n k : Nat} {x : (Nat → Int32) × cs_T} : cp1 ar fq pf s (n + 1) k x = cp1 ar fq pf s n (k + 1) (upd x.1 k (cvX (ar (s + k)) (fq (s + k)) (pf k) x.2).1, (cvX (ar (s + k)) (fq (s + k)) (pf k) x.2).2) := rfl
theorem cp2_s {ar fq : Nat → Int32} {s n k : Nat} {row part : Int32} {z : cs_T} : cp2 ar fq s row part (n + 1) k z = cp2 ar fq s row part n (k + 1) (setX row k (cvX (ar (s + k)) (fq (s + k)) part z)) := rfl
theorem sgX_s {pf go : Nat → Int32} {z : cs_T} {n k : Nat} {c : Int32} : sgX pf go z (n + 1) k c = sgX pf go z n (k + 1) (if (pf k).toInt = 10 then c + go k else if (pf k).toInt = 1 then c + amX (go k) z else c) := rfl
theorem ix20 {v i : Int32} {k : Nat} (hv : 0 ≤ v.toInt ∧ v.toInt ≤ 60) (hi : i.toInt = (k : Int)) (hk : k < 20) : (v * 20 + i).toNatClampNeg = 20 * v.toNatClampNeg + k := by
  have hx := xN hv.1
  have e1 : (v * 20).toInt = v.toInt * 20 := iMul rfl (by decide) (by omega) (by omega)
  have e2 : (v * 20 + i).toInt = v.toInt * 20 + (k : Int) := iAdd e1 hi (by omega) (by omega)
  exact tN (by omega)
theorem fd_w {dOt dNa dRe dMa dMy dPm : Nat → Int32} {dyn : pm_H} {w k : Nat} (h : fdF dOt dNa dRe dMa dMy dPm dyn (.ref (w + 50)) (some k)) : mbF dOt dNa dRe dMa dMy dPm dyn w k := by
  rcases h with ⟨q, _⟩ | ⟨j, b, q, q2, q3⟩
  · cases q
  · cases q
    have e : w = j := by
      have q4 : w + 50 = j + 50 := by injection q2
      omega
    rw [e]; exact q3
end
section
/-! what is made: members, faces, references, values, with what they hold -/
def sgA (w : Int32) (n : Nat) (f : Nat → Int32) : Int32 := ((w * 32 + (if 0 < n then f 0 + 1 else 0)) * 32 + (if 1 < n then f 1 + 1 else 0)) * 32 + (if 2 < n then f 2 + 1 else 0)
theorem sg_cut {na my pm : Nat → Int32} {i : Nat} : sgA (na i) (my i).toNatClampNeg (cutF my pm i) = sgM na my pm i := by
  unfold sgA sgM dgM cutF
  have h : ∀ k : Nat, (if k < (my i).toNatClampNeg then (if k < (my i).toNatClampNeg then pm (3 * i + k) else 0) + 1 else (0 : Int32)) = (if k < (my i).toNatClampNeg then pm (3 * i + k) + 1 else 0) := fun k => by
    by_cases q : k < (my i).toNatClampNeg
    · rw [if_pos q, if_pos q, if_pos q]
    · rw [if_neg q, if_neg q]
  rw [h 0, h 1, h 2]
/-- the row that is copied is the row that is kept -/
theorem cut_new {my pm to : Nat → Int32} {mn tm : Int32} : va_cpy to (fun _ => 0) 0 0 tm.toNatClampNeg = cutF (upd my mn.toNatClampNeg tm) (cpF pm to mn tm) mn.toNatClampNeg := by
  funext k
  unfold cutF
  rw [updS]
  by_cases q : k < tm.toNatClampNeg
  · rw [if_pos q, pk_cpy_in (by omega) (by omega)]
    unfold cpF
    rw [if_pos (by omega)]
    congr 1
    omega
  · rw [if_neg q, pk_cpy_out (by omega)]
theorem cut_c {my pm my' pm' : Nat → Int32} {i : Nat} (h1 : my' i = my i) (h2 : ∀ k : Nat, k < 3 → pm' (3 * i + k) = pm (3 * i + k)) (h3 : (my i).toNatClampNeg ≤ 3) : cutF my' pm' i = cutF my pm i := by
  funext k
  unfold cutF
  rw [h1]
  by_cases q : k < (my i).toNatClampNeg
  · rw [if_pos q, if_pos q, h2 k (by omega)]
  · rw [if_neg q, if_neg q]
theorem sg_c {na my pm na' my' pm' : Nat → Int32} {i : Nat} (h0 : na' i = na i) (h1 : my' i = my i) (h2 : ∀ k : Nat, k < 3 → pm' (3 * i + k) = pm (3 * i + k)) : sgM na' my' pm' i = sgM na my pm i := by
  unfold sgM dgM
  rw [h0, h1, h2 0 (by omega), h2 1 (by omega), h2 2 (by omega)]
theorem cp_old {f to : Nat → Int32} {mn tm : Int32} {i k : Nat} (h : i < mn.toNatClampNeg) (hk : k < 3) : cpF f to mn tm (3 * i + k) = f (3 * i + k) := by
  unfold cpF
  rw [if_neg (by omega)]
/-- the members that were there, as the longer rows have them -/
theorem mbF_c {dOt dNa dRe dMa dMy dPm to : Nat → Int32} {t w r a mn tm : Int32} {dyn : pm_H} {j i : Nat} (hi : i < mn.toNatClampNeg) (h : mbF dOt dNa dRe dMa dMy dPm dyn j i) : mbF (upd dOt mn.toNatClampNeg t) (upd dNa mn.toNatClampNeg w) (upd dRe mn.toNatClampNeg r) (upd dMa mn.toNatClampNeg a) (upd dMy mn.toNatClampNeg tm) (cpF dPm to mn tm) dyn j i := by
  obtain ⟨p, h1, h2, h3⟩ := h
  have e : i ≠ mn.toNatClampNeg := by omega
  refine ⟨p, ?_, ?_, ?_⟩
  · rw [updN e, updN e, updN e, updN e, sg_c (na := dNa) (my := dMy) (pm := dPm) (updN e) (updN e) (fun k q => cp_old hi q)]
    exact h1
  · rw [updN e, cut_c (my := dMy) (pm := dPm) (updN e) (fun k q => cp_old hi q) h3]
    exact h2
  · rw [updN e]; exact h3
theorem alF_c {dOt dNa dRe dMa dMy dPm to : Nat → Int32} {t w r a mn tm : Int32} {al : Nat → Option Nat} {dyn : pm_H} (hn : 0 ≤ mn.toInt) (h : alF dOt dNa dRe dMa dMy dPm mn al dyn) : alF (upd dOt mn.toNatClampNeg t) (upd dNa mn.toNatClampNeg w) (upd dRe mn.toNatClampNeg r) (upd dMa mn.toNatClampNeg a) (upd dMy mn.toNatClampNeg tm) (cpF dPm to mn tm) mn al dyn := fun i q => by
  obtain ⟨j, h1, h2⟩ := h i q
  exact ⟨j, h1, mbF_c (by have := xN hn; omega) h2⟩
theorem nI_self {x : Int32} (h : 0 ≤ x.toInt) : nI x.toNatClampNeg = x := xJ (by rw [nI_toInt (by have := xN h; have := Int32.toInt_lt x; omega)]; exact xN h)
theorem mbF_new {dOt dNa dRe dMa dMy dPm to : Nat → Int32} {t w r a mn tm : Int32} {dyn : pm_H} (hn : 0 ≤ mn.toInt) (h3 : tm.toNatClampNeg ≤ 3) : mbF (upd dOt mn.toNatClampNeg t) (upd dNa mn.toNatClampNeg w) (upd dRe mn.toNatClampNeg r) (upd dMa mn.toNatClampNeg a) (upd dMy mn.toNatClampNeg tm) (cpF dPm to mn tm) (dyn ++ [.inr (3, [.int mn, .int t, .int w, .int r, .int a, .ref (dyn.length + 1 + 50), .int (sgA w tm.toNatClampNeg (va_cpy to (fun _ => 0) 0 0 tm.toNatClampNeg))]), .inl (0, tm.toNatClampNeg, .inl (va_cpy to (fun _ => 0) 0 0 tm.toNatClampNeg))]) dyn.length mn.toNatClampNeg := by
  have hs := sg_cut (na := upd dNa mn.toNatClampNeg w) (my := upd dMy mn.toNatClampNeg tm) (pm := cpF dPm to mn tm) (i := mn.toNatClampNeg)
  rw [updS, updS, ← cut_new] at hs
  refine ⟨dyn.length + 1, ?_, ?_, ?_⟩
  · rw [updS, updS, updS, updS, ← hs, nI_self hn]
    exact at_mid
  · rw [← cut_new, updS]
    exact at_mid1
  · rw [updS]; exact h3
theorem faF_c {dFy dFa dFr to : Nat → Int32} {r mn tm : Int32} {al : Nat → Option Nat} {dyn : pm_H} (hn : 0 ≤ mn.toInt) (h : faF dFy dFa dFr mn al dyn) : faF (upd dFy mn.toNatClampNeg tm) (cpF dFa to mn tm) (upd dFr mn.toNatClampNeg r) mn al dyn := fun i q => by
  obtain ⟨j, h1, p, h2, h3, h4⟩ := h i q
  have hi : i < mn.toNatClampNeg := by have := xN hn; omega
  have e : i ≠ mn.toNatClampNeg := by omega
  refine ⟨j, h1, p, ?_, ?_, ?_⟩
  · rw [updN e]; exact h2
  · rw [updN e, cut_c (my := dFy) (pm := dFa) (updN e) (fun k q => cp_old hi q) h4]; exact h3
  · rw [updN e]; exact h4
theorem fcF_new {dFy dFa dFr to : Nat → Int32} {r mn tm : Int32} {dyn : pm_H} (h3 : tm.toNatClampNeg ≤ 3) : fcF (upd dFy mn.toNatClampNeg tm) (cpF dFa to mn tm) (upd dFr mn.toNatClampNeg r) (dyn ++ [.inr (1, [.ref (dyn.length + 1 + 50), .int r]), .inl (0, tm.toNatClampNeg, .inl (va_cpy to (fun _ => 0) 0 0 tm.toNatClampNeg))]) dyn.length mn.toNatClampNeg := by
  refine ⟨dyn.length + 1, ?_, ?_, ?_⟩
  · rw [updS]; exact at_mid
  · rw [← cut_new, updS]; exact at_mid1
  · rw [updS]; exact h3
theorem reF_c {dFo dRt dRm : Nat → Int32} {o t w mn : Int32} {al : Nat → Option Nat} {dyn : pm_H} (hn : 0 ≤ mn.toInt) (h : reF dFo dRt dRm mn al dyn) : reF (upd dFo mn.toNatClampNeg o) (upd dRt mn.toNatClampNeg t) (upd dRm mn.toNatClampNeg w) mn al dyn := fun i q => by
  obtain ⟨j, h1, h2⟩ := h i q
  have e : i ≠ mn.toNatClampNeg := by have := xN hn; omega
  refine ⟨j, h1, ?_⟩
  unfold rfF rnF at h2 ⊢
  rw [updN e, updN e, updN e]
  exact h2
theorem rfF_new {dFo dRt dRm : Nat → Int32} {o t w z mn : Int32} {dyn : pm_H} (hz : z = if o.toInt = 3 then 6 else w) : rfF (upd dFo mn.toNatClampNeg o) (upd dRt mn.toNatClampNeg t) (upd dRm mn.toNatClampNeg w) (dyn ++ [.inr (5, [.int o, .int t, .int z])]) dyn.length mn.toNatClampNeg := by
  unfold rfF rnF
  rw [updS, updS, updS, ← hz]
  exact at_mid
/-- the values -/
def vlF (dFo dRt dRm dFy dFa dFr dOt dNa dRe dMa dMy dPm dVr dVf dVc dVb dVp dVo : Nat → Int32) (dVm : Nat → Option Nat) (mn : Int32) (al : Nat → Option Nat) (dyn : pm_H) : Prop := ∀ i : Nat, (i : Int) < mn.toInt → ∃ j r f : Nat, ∃ mv : Value, al i = some (j + 50) ∧ vuF dFo dRt dRm dFy dFa dFr dOt dNa dRe dMa dMy dPm dyn j r (dVr i).toNatClampNeg f (dVf i).toNatClampNeg (dVc i) mv (dVm i) (dVb i) (dVp i) (dVo i)
theorem vlF_at {dFo dRt dRm dFy dFa dFr dOt dNa dRe dMa dMy dPm dVr dVf dVc dVb dVp dVo : Nat → Int32} {dVm : Nat → Option Nat} {mn : Int32} {al : Nat → Option Nat} {dyn : pm_H} (h : vlF dFo dRt dRm dFy dFa dFr dOt dNa dRe dMa dMy dPm dVr dVf dVc dVb dVp dVo dVm mn al dyn) {i : Int32} (h0 : 0 ≤ i.toInt) (h1 : i.toInt < mn.toInt) : ∃ j : Nat, pm_rf (al i.toNatClampNeg) = .ref (j + 50) ∧ ∃ r f : Nat, ∃ mv : Value, vuF dFo dRt dRm dFy dFa dFr dOt dNa dRe dMa dMy dPm dyn j r (dVr i.toNatClampNeg).toNatClampNeg f (dVf i.toNatClampNeg).toNatClampNeg (dVc i.toNatClampNeg) mv (dVm i.toNatClampNeg) (dVb i.toNatClampNeg) (dVp i.toNatClampNeg) (dVo i.toNatClampNeg) := by
  obtain ⟨j, r, f, mv, q1, q2⟩ := h i.toNatClampNeg (by have := xN h0; omega)
  exact ⟨j, by rw [q1]; rfl, r, f, mv, q2⟩
theorem fdF_ap {dOt dNa dRe dMa dMy dPm : Nat → Int32} {dyn : pm_H} (e : pm_H) {v : Value} {o : Option Nat} (h : fdF dOt dNa dRe dMa dMy dPm dyn v o) : fdF dOt dNa dRe dMa dMy dPm (dyn ++ e) v o := by
  rcases h with h | ⟨j, b, h1, h2, h3⟩
  · exact Or.inl h
  · exact Or.inr ⟨j, b, h1, h2, mbF_ap e h3⟩
theorem vuF_ap {dFo dRt dRm dFy dFa dFr dOt dNa dRe dMa dMy dPm : Nat → Int32} {dyn : pm_H} (e : pm_H) {v r ir f jf : Nat} {rc : Int32} {mv : Value} {om : Option Nat} {bs ip co : Int32} (h : vuF dFo dRt dRm dFy dFa dFr dOt dNa dRe dMa dMy dPm dyn v r ir f jf rc mv om bs ip co) : vuF dFo dRt dRm dFy dFa dFr dOt dNa dRe dMa dMy dPm (dyn ++ e) v r ir f jf rc mv om bs ip co := ⟨ap_at h.1, rfF_ap e h.2.1, fcF_ap e h.2.2.1, fdF_ap e h.2.2.2⟩
/-- one value more -/
theorem vlF_put {dFo dRt dRm dFy dFa dFr dOt dNa dRe dMa dMy dPm dVr dVf dVc dVb dVp dVo : Nat → Int32} {dVm : Nat → Option Nat} {mn : Int32} {al : Nat → Option Nat} {dyn e : pm_H} {j r f : Nat} {ir jf rc bs ip co : Int32} {mv : Value} {om : Option Nat} (hn : 0 ≤ mn.toInt ∧ mn.toInt < 1000) (h : vlF dFo dRt dRm dFy dFa dFr dOt dNa dRe dMa dMy dPm dVr dVf dVc dVb dVp dVo dVm mn al dyn) (hj : vuF dFo dRt dRm dFy dFa dFr dOt dNa dRe dMa dMy dPm (dyn ++ e) j r ir.toNatClampNeg f jf.toNatClampNeg rc mv om bs ip co) : vlF dFo dRt dRm dFy dFa dFr dOt dNa dRe dMa dMy dPm (upd dVr mn.toNatClampNeg ir) (upd dVf mn.toNatClampNeg jf) (upd dVc mn.toNatClampNeg rc) (upd dVb mn.toNatClampNeg bs) (upd dVp mn.toNatClampNeg ip) (upd dVo mn.toNatClampNeg co) (va_up dVm mn.toNatClampNeg om) (mn + 1) (va_up al mn.toNatClampNeg (some (j + 50))) (dyn ++ e) := by
  have e1 : (mn + 1).toInt = mn.toInt + 1 := iAdd rfl (by decide) (by omega) (by omega)
  have hx := xN hn.1
  intro i q
  by_cases ei : i = mn.toNatClampNeg
  · subst ei
    refine ⟨j, r, f, mv, va_s, ?_⟩
    rw [updS, updS, updS, updS, updS, updS, va_s]
    exact hj
  · obtain ⟨j2, r2, f2, mv2, q1, q2⟩ := h i (by omega)
    refine ⟨j2, r2, f2, mv2, ?_, ?_⟩
    · rw [va_n ei]; exact q1
    · rw [updN ei, updN ei, updN ei, updN ei, updN ei, updN ei, va_n ei]
      exact vuF_ap e q2
/-- what the class asks of a member's head and marks -/
def mhX (up : Nat → Int32) (tn t w r a : Int32) : Prop := ((0 ≤ t.toInt ∧ t.toInt < tn.toInt) ∧ t.toInt ≠ 1) ∧ (0 ≤ w.toInt ∧ w.toInt ≤ 6) ∧ xA up r ∧ (0 ≤ a.toInt ∧ a.toInt ≤ 7) ∧ (w.toInt ≠ 6 ∨ r.toInt = t.toInt)
def ltX (up to : Nat → Int32) (tc : Int32) : Prop := 0 < tc.toInt ∧ xRw up (to (tc - 1).toNatClampNeg)
def maX (up to : Nat → Int32) (tc t w a : Int32) : Prop := ((a &&& 4).toInt ≠ 0 → ltX up to tc) ∧ (w.toInt = 6 → (a &&& 1).toInt = 0 ∧ (a &&& 2).toInt = 0) ∧ ((a &&& 2).toInt ≠ 0 → (a &&& 1).toInt = 0 ∧ t.toInt ≠ 0)
def tuX (up ki : Nat → Int32) (tl v t : Int32) : Prop := (1 ≤ v.toInt ∧ v.toInt ≤ tl.toInt) ∧ xU up (ki v.toNatClampNeg) t
def dsL (up ki ar : Nat → Int32) (tl : Int32) (nq : Nat) (fq : Nat → Int32) (k : Nat) : Prop := ∀ j : Nat, k ≤ j → j < nq → (fq j).toInt ≠ 10 → (ar j).toInt ≠ 0 → tuX up ki tl (ar j) (fq j)
def rvX (up ki : Nat → Int32) (tl fo t v : Int32) : Prop := v.toInt = 0 ∨ ((fo.toInt = 1 ∨ fo.toInt = 2) ∧ tuX up ki tl v t)
/-- a fault's number -/
theorem fa_r {up ma : Nat → Int32} {St Ab : Int64} {ha nm : Nat → Int64} {nq : Nat} {fq : Nat → Int32} {fo t : Int32} {T U : Int64} {o1 o2 : Option Nat} {b0 b9 : Value} {s0 s9 r : Int32} (h : faX up ma St Ab ha nm nq fq fo t T U o1 o2 b0 s0 b9 s9 r) : 0 ≤ r.toInt ∧ r.toInt ≤ 4 := by
  have z0 : (0 : Int32).toInt = 0 := by decide
  have z1 : (1 : Int32).toInt = 1 := by decide
  have z2 : (2 : Int32).toInt = 2 := by decide
  have z3 : (3 : Int32).toInt = 3 := by decide
  have z4 : (4 : Int32).toInt = 4 := by decide
  rcases h with ⟨_, _, _, ⟨_, q⟩ | ⟨_, q⟩⟩ | ⟨_, _, _, _, q⟩ | ⟨_, _, _, _, _, ⟨_, q⟩ | ⟨_, q⟩⟩ | ⟨_, _, _, h⟩ | ⟨_, _, _, _, h⟩
  · rw [q]; omega
  · rw [q]; omega
  · rw [q]; omega
  · rw [q]; omega
  · rw [q]; omega
  · rcases h with ⟨_, _, _, q⟩ | ⟨_, _, _, _, q⟩ | ⟨_, _, _, _, ⟨_, _, q⟩ | ⟨_, _, q⟩ | ⟨_, _, q⟩⟩ <;> rw [q] <;> omega
  · rcases h with ⟨_, _, ⟨_, q⟩ | ⟨_, q⟩⟩ | ⟨c, _, _, ⟨_, q⟩ | ⟨_, _, q⟩ | ⟨_, _, q⟩⟩ <;> rw [q] <;> omega
theorem fi_by {up pa re ma my pm : Nat → Int32} {St Ab : Int64} {ha nm : Nat → Int64} {tn mn : Int32} {nq : Nat} {fq : Nat → Int32} {fo t w fr f1 : Int32} {T : Int64} {p1 : Int32} {o1 : Option Nat} {f2 : Int32} {U : Int64} {p2 : Int32} {o2 : Option Nat} {b9 : Value} {s9 r9 : Int32} (h : fiX up pa re ma my pm St Ab ha nm tn mn nq fq fo t w fr f1 T p1 o1 f2 U p2 o2 b9 s9 r9) (h0 : 0 ≤ r9.toInt) : (b9 = .null ∧ s9 = 0 ∧ (fo.toInt = 4 ∨ fo.toInt = 3)) ∨ (b9 = .ref 10 ∧ s9 = 0 ∧ (∃ c : Nat, o1 = some c) ∧ fo.toInt ≠ 4) ∨ (b9 = .ref 11 ∧ s9 = 1 ∧ (∃ c : Nat, o2 = some c) ∧ fo.toInt = 0) := by
  obtain ⟨_, _, r, h1, h2⟩ := h
  have hb := fa_r h1
  refine fa_0 h1 ?_
  rcases h2 with ⟨q1, q2⟩ | ⟨q1, _⟩ | ⟨q1, _⟩
  · exfalso
    have e : (-10 - r).toInt = -10 - r.toInt := iSub (by decide) rfl (by omega) (by omega)
    rw [q2] at h0
    omega
  · exact q1
  · exact q1
def ipX (b9 : Value) (p1 p2 : Int32) : Int32 := if (mePh b9 p1 p2).toInt = 3 then 1 else 0
end
section
/-! a meaning is one -/
theorem uq_d {sp : Nat → Prop} {mn r q : Int32} (h : uqM sp mn r) (k : uqM sp mn q) : r = q := by
  rcases h with ⟨b, h1, h2, h3, h4⟩ | ⟨h1, h2⟩ <;> rcases k with ⟨c, k1, k2, k3, k4⟩ | ⟨k1, k2⟩
  · rw [h2, k2, k4 b h1 h3]
  · exact absurd ⟨b, h1, h3, h4⟩ k2
  · exact absurd ⟨c, k1, k3, k4⟩ h2
  · rw [h1, k1]
theorem sr_d {pa ot na my pm ma fa fy : Nat → Int32} {mn t w f s p r p2 r2 : Int32} (h : srM pa ot na my pm ma fa fy mn t w f s p r) (k : srM pa ot na my pm ma fa fy mn t w f s p2 r2) : p = p2 ∧ r = r2 := by
  rcases h with ⟨a1, a2, a3, a4, a5⟩ | ⟨a1, a2, a3⟩ | ⟨a1, a2, a3, a4⟩ | ⟨a1, a2, a3, a4, a5⟩ <;> rcases k with ⟨b1, b2, b3, b4, b5⟩ | ⟨b1, b2, b3⟩ | ⟨b1, b2, b3, b4⟩ | ⟨b1, b2, b3, b4, b5⟩ <;> first | contradiction | exact ⟨a1.trans b1.symm, a2.trans b2.symm⟩ | exact ⟨a1.trans b1.symm, uq_d a3 b3⟩ | exact ⟨a1.trans b1.symm, uq_d a4 b4⟩ | exact ⟨a1.trans b1.symm, uq_d a5 b5⟩
theorem s2_d {pa ot na my pm ma fa fy : Nat → Int32} {mn t w f p r p2 r2 : Int32} (h : s2M pa ot na my pm ma fa fy mn t w f p r) (k : s2M pa ot na my pm ma fa fy mn t w f p2 r2) : p = p2 ∧ r = r2 := by
  rcases h with ⟨a1, a2⟩ | ⟨a1, a2, a3⟩ <;> rcases k with ⟨b1, b2⟩ | ⟨b1, b2, b3⟩ <;> first | contradiction | exact sr_d a2 b2 | exact ⟨a2.trans b2.symm, a3.trans b3.symm⟩
theorem one_d {pa ot na my pm ma fa fy : Nat → Int32} {mn t w f p r p2 r2 : Int32} (h : oneM pa ot na my pm ma fa fy mn t w f p r) (k : oneM pa ot na my pm ma fa fy mn t w f p2 r2) : p = p2 ∧ r = r2 := by
  obtain ⟨q1, h1, h2⟩ := h
  obtain ⟨q2, k1, k2⟩ := k
  obtain ⟨e1, e2⟩ := sr_d h1 k1
  refine ⟨e1, ?_⟩
  rw [← e2] at k2
  rcases h2 with ⟨a1, a2⟩ | ⟨a1, a2⟩ | ⟨a1, a2, a3⟩ <;> rcases k2 with ⟨b1, b2⟩ | ⟨b1, b2⟩ | ⟨b1, b2, b3⟩ <;> first | omega | exact a2.trans b2.symm | exact a3.trans b3.symm
theorem bo_d {ma : Nat → Int32} {s1 a2 : Prop} {p1 r1 p2 r2 sc mp r sc2 mp2 q : Int32} (h : boM ma s1 a2 p1 r1 p2 r2 sc mp r) (k : boM ma s1 a2 p1 r1 p2 r2 sc2 mp2 q) : r = q := by
  rcases h with ⟨h1, h2, _⟩ | ⟨h1, h3, h2, _⟩ | ⟨h1, h3, _, _, h4, h2⟩ | ⟨h1, h3, _, _, h4, h5, h2⟩ | ⟨h1, h3, _, _, h4, h5, h2⟩ <;> rcases k with ⟨k1, k2, _⟩ | ⟨k1, k3, k2, _⟩ | ⟨k1, k3, _, _, k4, k2⟩ | ⟨k1, k3, _, _, k4, k5, k2⟩ | ⟨k1, k3, _, _, k4, k5, k2⟩ <;> first | exact h2.trans k2.symm | contradiction
theorem both_d {pa ot na my pm ma fa fy : Nat → Int32} {mn t w f sc mp r sc2 mp2 q : Int32} (h : bothM pa ot na my pm ma fa fy mn t w f sc mp r) (k : bothM pa ot na my pm ma fa fy mn t w f sc2 mp2 q) : r = q := by
  obtain ⟨p1, r1, p2, r2, h1, h2, h3⟩ := h
  obtain ⟨u1, v1, u2, v2, k1, k2, k3⟩ := k
  obtain ⟨e1, e2⟩ := sr_d h1 k1
  obtain ⟨e3, e4⟩ := s2_d h2 k2
  rw [← e1, ← e2, ← e3, ← e4] at k3
  exact bo_d h3 k3
theorem mn_d {pa ot na my pm ma fa fy : Nat → Int32} {mn fo t w f sc mp r sc2 mp2 q : Int32} (h : mnM pa ot na my pm ma fa fy mn fo t w f sc mp r) (k : mnM pa ot na my pm ma fa fy mn fo t w f sc2 mp2 q) : r = q := by
  rcases h with ⟨h0, h1⟩ | ⟨h0, _, v, h2, h3⟩ | ⟨h0, _, v, h2, h3⟩ | ⟨h0, _, h2⟩ | ⟨h0, _, _, h2⟩
  · rcases k with ⟨k0, k1⟩ | ⟨k0, _⟩ | ⟨k0, _⟩ | ⟨k0, _⟩ | ⟨k0, _⟩
    · exact both_d h1 k1
    · omega
    · omega
    · omega
    · omega
  · rcases k with ⟨k0, _⟩ | ⟨k0, _, u, k2, k3⟩ | ⟨k0, _⟩ | ⟨k0, _⟩ | ⟨k0, _⟩
    · omega
    · rw [← (one_d h2 k2).2] at k3
      rcases h3 with ⟨h3, h4⟩ | ⟨h3, h4⟩ <;> rcases k3 with ⟨k3, k4⟩ | ⟨k3, k4⟩ <;> first | exact h4.trans k4.symm | contradiction
    · omega
    · omega
    · omega
  · rcases k with ⟨k0, _⟩ | ⟨k0, _⟩ | ⟨k0, _, u, k2, k3⟩ | ⟨k0, _⟩ | ⟨k0, _⟩
    · omega
    · omega
    · rw [← (one_d h2 k2).2] at k3
      rcases h3 with ⟨h3, h4⟩ | ⟨h3, h4⟩ | ⟨h3, h4⟩ | ⟨h3, h4⟩ <;> rcases k3 with ⟨k3, k4⟩ | ⟨k3, k4⟩ | ⟨k3, k4⟩ | ⟨k3, k4⟩ <;> first | exact h4.trans k4.symm | omega
    · omega
    · omega
  · rcases k with ⟨k0, _⟩ | ⟨k0, _⟩ | ⟨k0, _⟩ | ⟨k0, _, k2⟩ | ⟨k0, _⟩
    · omega
    · omega
    · omega
    · rcases h2 with ⟨h2, _, h3⟩ | ⟨h2, h4, _, ⟨h5, h3⟩ | ⟨h5, h3⟩⟩ | ⟨h2, h4, h3⟩ <;> rcases k2 with ⟨k2, _, k3⟩ | ⟨k2, k4, _, ⟨k5, k3⟩ | ⟨k5, k3⟩⟩ | ⟨k2, k4, k3⟩ <;> first | exact h3.trans k3.symm | exact (one_d h3 k3).2 | contradiction
    · omega
  · rcases k with ⟨k0, _⟩ | ⟨k0, _⟩ | ⟨k0, _⟩ | ⟨k0, _⟩ | ⟨k0, _, _, k2⟩
    · omega
    · omega
    · omega
    · omega
    · rcases h2 with ⟨h2, h3⟩ | ⟨h2, h3⟩ <;> rcases k2 with ⟨k2, k3⟩ | ⟨k2, k3⟩ <;> first | exact h3.trans k3.symm | contradiction
theorem wm_d {pa ot na re my pm ma fa fy fr : Nat → Int32} {mn fo t w f sc mp r sc2 mp2 q : Int32} (h : wmM pa ot na re my pm ma fa fy fr mn fo t w f sc mp r) (k : wmM pa ot na re my pm ma fa fy fr mn fo t w f sc2 mp2 q) : r = q := by
  obtain ⟨u, h1, h2⟩ := h
  obtain ⟨v, k1, k2⟩ := k
  rw [← mn_d h1 k1] at k2
  rcases h2 with ⟨h2, h3⟩ | ⟨⟨h2, h4⟩, h3⟩ | ⟨⟨h2, h4, h5⟩, h3⟩ <;> rcases k2 with ⟨k2, k3⟩ | ⟨⟨k2, k4⟩, k3⟩ | ⟨⟨k2, k4, k5⟩, k3⟩ <;> first | exact h3.trans k3.symm | omega | (rcases h4 with h4 | h4 <;> first | contradiction | omega) | (rcases k4 with k4 | k4 <;> first | contradiction | omega)
/-! what holds of the reference between calls -/
def plT (ty x : Int32) : Prop := (0 ≤ x.toInt ∧ x.toInt < ty.toInt) ∨ x.toInt = 10 ∨ (20 ≤ x.toInt ∧ x.toInt < 20 + ty.toInt) ∨ x.toInt = 30
theorem pl_ok {ty x : Int32} (h2 : 2 ≤ ty.toInt) (h : plT ty x) : okT ty x := by unfold plT at h; unfold okT; omega
/-- what holds of one value -/
def vaO (mPa mOt mNa mRe mMa mMy mPm mFy mFa mFr : Nat → Int32) (mMn mFn mRn : Int32) (mFo mRt mRm : Nat → Int32) (mTn : Int32) (mTt : Nat → Int32) (r f c : Int32) : Prop := (0 ≤ r.toInt ∧ r.toInt < mRn.toInt) ∧ (0 ≤ f.toInt ∧ f.toInt < mFn.toInt) ∧ (0 ≤ c.toInt ∧ c.toInt ≤ mTn.toInt) ∧ ((mFo r.toNatClampNeg).toInt = 1 → 1 ≤ c.toInt ∧ uM mPa (mTt c.toNatClampNeg) (mRt r.toNatClampNeg) = true) ∧ ∀ sc mp m : Int32, wmM mPa mOt mNa mRe mMy mPm mMa mFa mFy mFr mMn (mFo r.toNatClampNeg) (mRt r.toNatClampNeg) (mRm r.toNatClampNeg) f sc mp m → 0 ≤ m.toInt
/-- rows are short, and things' types are types -/
def tOK (ty : Int32) (z : cs_T) : Prop := ∀ i : Nat, 1 ≤ i → (i : Int) ≤ z.1.toInt → okT ty (z.2.2.1 i) ∧ (20 ≤ (z.2.2.1 i).toInt → 0 ≤ (z.2.2.2.1 i).toInt ∧ (z.2.2.2.1 i).toInt ≤ 20)
def mIv (mTy : Int32) (mPa mTo : Nat → Int32) (mTm mMn : Int32) (mOt mNa mRe mMa mMy mPm : Nat → Int32) (mFn : Int32) (mFy mFa mFr : Nat → Int32) (mRn : Int32) (mFo mRt mRm : Nat → Int32) (mTn : Int32) (mTt mTi : Nat → Int32) (mVn : Int32) (mVr mVf mVc : Nat → Int32) (mTr : Int32) : Prop := (2 ≤ mTy.toInt ∧ mTy.toInt ≤ 10) ∧ (paD mPa) ∧ (∀ k : Nat, 1 ≤ k → (k : Int) < mTy.toInt → 0 ≤ (mPa k).toInt) ∧ (0 ≤ mTm.toInt ∧ mTm.toInt ≤ 3) ∧ (∀ j : Nat, plT mTy (mTo j)) ∧ (0 ≤ mMn.toInt ∧ mMn.toInt ≤ 40) ∧ (myD mMy) ∧ (vrD mMa mMy) ∧ (mbD mOt mNa mRe mMn) ∧ (∀ i : Nat, plT mTy (mPm i)) ∧ (∀ j : Nat, (j : Int) < mMn.toInt → okT mTy (mOt j) ∧ okT mTy (mRe j) ∧ ((mMa j &&& 4).toInt ≠ 0 → 20 ≤ (mPm (3 * nI j + (mMy j - 1)).toNatClampNeg).toInt)) ∧ (ncD mPa mOt mNa mRe mMy mPm mMn) ∧ (0 ≤ mFn.toInt ∧ mFn.toInt ≤ 10) ∧ (fcD mFn mFy) ∧ (∀ i : Nat, plT mTy (mFa i)) ∧ (0 ≤ mRn.toInt ∧ mRn.toInt ≤ 30) ∧ (rfD mRn mTy mFo mRt) ∧ (∀ i : Nat, (i : Int) < mRn.toInt → (mFo i).toInt ≤ 2 → (mRm i).toInt ≠ 6) ∧ (0 ≤ mTn.toInt ∧ mTn.toInt ≤ 60) ∧ (∀ i : Nat, 1 ≤ i → (i : Int) ≤ mTn.toInt → okT mTy (mTt i) ∧ (20 ≤ (mTt i).toInt → 0 ≤ (mTi i).toInt ∧ (mTi i).toInt ≤ 20)) ∧ (0 ≤ mVn.toInt ∧ mVn.toInt ≤ 30) ∧ (∀ v : Nat, (v : Int) < mVn.toInt → vaO mPa mOt mNa mRe mMa mMy mPm mFy mFa mFr mMn mFn mRn mFo mRt mRm mTn mTt (mVr v) (mVf v) (mVc v)) ∧ (0 ≤ mTr.toInt ∧ mTr.toInt ≤ 50)
theorem mIv.mk {mTy : Int32} {mPa mTo : Nat → Int32} {mTm mMn : Int32} {mOt mNa mRe mMa mMy mPm : Nat → Int32} {mFn : Int32} {mFy mFa mFr : Nat → Int32} {mRn : Int32} {mFo mRt mRm : Nat → Int32} {mTn : Int32} {mTt mTi : Nat → Int32} {mVn : Int32} {mVr mVf mVc : Nat → Int32} {mTr : Int32} (ity : 2 ≤ mTy.toInt ∧ mTy.toInt ≤ 10) (ipa : paD mPa) (ipt : ∀ k : Nat, 1 ≤ k → (k : Int) < mTy.toInt → 0 ≤ (mPa k).toInt) (itm : 0 ≤ mTm.toInt ∧ mTm.toInt ≤ 3) (ito : ∀ j : Nat, plT mTy (mTo j)) (imn : 0 ≤ mMn.toInt ∧ mMn.toInt ≤ 40) (imy : myD mMy) (ivr : vrD mMa mMy) (imb : mbD mOt mNa mRe mMn) (ipm : ∀ i : Nat, plT mTy (mPm i)) (imo : ∀ j : Nat, (j : Int) < mMn.toInt → okT mTy (mOt j) ∧ okT mTy (mRe j) ∧ ((mMa j &&& 4).toInt ≠ 0 → 20 ≤ (mPm (3 * nI j + (mMy j - 1)).toNatClampNeg).toInt)) (inc : ncD mPa mOt mNa mRe mMy mPm mMn) (ifn : 0 ≤ mFn.toInt ∧ mFn.toInt ≤ 10) (ifc : fcD mFn mFy) (ifa : ∀ i : Nat, plT mTy (mFa i)) (irn : 0 ≤ mRn.toInt ∧ mRn.toInt ≤ 30) (irf : rfD mRn mTy mFo mRt) (irw : ∀ i : Nat, (i : Int) < mRn.toInt → (mFo i).toInt ≤ 2 → (mRm i).toInt ≠ 6) (itn : 0 ≤ mTn.toInt ∧ mTn.toInt ≤ 60) (itk : ∀ i : Nat, 1 ≤ i → (i : Int) ≤ mTn.toInt → okT mTy (mTt i) ∧ (20 ≤ (mTt i).toInt → 0 ≤ (mTi i).toInt ∧ (mTi i).toInt ≤ 20)) (ivn : 0 ≤ mVn.toInt ∧ mVn.toInt ≤ 30) (iva : ∀ v : Nat, (v : Int) < mVn.toInt → vaO mPa mOt mNa mRe mMa mMy mPm mFy mFa mFr mMn mFn mRn mFo mRt mRm mTn mTt (mVr v) (mVf v) (mVc v)) (itr : 0 ≤ mTr.toInt ∧ mTr.toInt ≤ 50) : mIv mTy mPa mTo mTm mMn mOt mNa mRe mMa mMy mPm mFn mFy mFa mFr mRn mFo mRt mRm mTn mTt mTi mVn mVr mVf mVc mTr := ⟨ity, ipa, ipt, itm, ito, imn, imy, ivr, imb, ipm, imo, inc, ifn, ifc, ifa, irn, irf, irw, itn, itk, ivn, iva, itr⟩
theorem mIv.ity {mTy : Int32} {mPa mTo : Nat → Int32} {mTm mMn : Int32} {mOt mNa mRe mMa mMy mPm : Nat → Int32} {mFn : Int32} {mFy mFa mFr : Nat → Int32} {mRn : Int32} {mFo mRt mRm : Nat → Int32} {mTn : Int32} {mTt mTi : Nat → Int32} {mVn : Int32} {mVr mVf mVc : Nat → Int32} {mTr : Int32} (h : mIv mTy mPa mTo mTm mMn mOt mNa mRe mMa mMy mPm mFn mFy mFa mFr mRn mFo mRt mRm mTn mTt mTi mVn mVr mVf mVc mTr) : 2 ≤ mTy.toInt ∧ mTy.toInt ≤ 10 := h.1
theorem mIv.ipa {mTy : Int32} {mPa mTo : Nat → Int32} {mTm mMn : Int32} {mOt mNa mRe mMa mMy mPm : Nat → Int32} {mFn : Int32} {mFy mFa mFr : Nat → Int32} {mRn : Int32} {mFo mRt mRm : Nat → Int32} {mTn : Int32} {mTt mTi : Nat → Int32} {mVn : Int32} {mVr mVf mVc : Nat → Int32} {mTr : Int32} (h : mIv mTy mPa mTo mTm mMn mOt mNa mRe mMa mMy mPm mFn mFy mFa mFr mRn mFo mRt mRm mTn mTt mTi mVn mVr mVf mVc mTr) : paD mPa := h.2.1
theorem mIv.ipt {mTy : Int32} {mPa mTo : Nat → Int32} {mTm mMn : Int32} {mOt mNa mRe mMa mMy mPm : Nat → Int32} {mFn : Int32} {mFy mFa mFr : Nat → Int32} {mRn : Int32} {mFo mRt mRm : Nat → Int32} {mTn : Int32} {mTt mTi : Nat → Int32} {mVn : Int32} {mVr mVf mVc : Nat → Int32} {mTr : Int32} (h : mIv mTy mPa mTo mTm mMn mOt mNa mRe mMa mMy mPm mFn mFy mFa mFr mRn mFo mRt mRm mTn mTt mTi mVn mVr mVf mVc mTr) : ∀ k : Nat, 1 ≤ k → (k : Int) < mTy.toInt → 0 ≤ (mPa k).toInt := h.2.2.1
theorem mIv.itm {mTy : Int32} {mPa mTo : Nat → Int32} {mTm mMn : Int32} {mOt mNa mRe mMa mMy mPm : Nat → Int32} {mFn : Int32} {mFy mFa mFr : Nat → Int32} {mRn : Int32} {mFo mRt mRm : Nat → Int32} {mTn : Int32} {mTt mTi : Nat → Int32} {mVn : Int32} {mVr mVf mVc : Nat → Int32} {mTr : Int32} (h : mIv mTy mPa mTo mTm mMn mOt mNa mRe mMa mMy mPm mFn mFy mFa mFr mRn mFo mRt mRm mTn mTt mTi mVn mVr mVf mVc mTr) : 0 ≤ mTm.toInt ∧ mTm.toInt ≤ 3 := h.2.2.2.1
theorem mIv.ito {mTy : Int32} {mPa mTo : Nat → Int32} {mTm mMn : Int32} {mOt mNa mRe mMa mMy mPm : Nat → Int32} {mFn : Int32} {mFy mFa mFr : Nat → Int32} {mRn : Int32} {mFo mRt mRm : Nat → Int32} {mTn : Int32} {mTt mTi : Nat → Int32} {mVn : Int32} {mVr mVf mVc : Nat → Int32} {mTr : Int32} (h : mIv mTy mPa mTo mTm mMn mOt mNa mRe mMa mMy mPm mFn mFy mFa mFr mRn mFo mRt mRm mTn mTt mTi mVn mVr mVf mVc mTr) : ∀ j : Nat, plT mTy (mTo j) := h.2.2.2.2.1
theorem mIv.imn {mTy : Int32} {mPa mTo : Nat → Int32} {mTm mMn : Int32} {mOt mNa mRe mMa mMy mPm : Nat → Int32} {mFn : Int32} {mFy mFa mFr : Nat → Int32} {mRn : Int32} {mFo mRt mRm : Nat → Int32} {mTn : Int32} {mTt mTi : Nat → Int32} {mVn : Int32} {mVr mVf mVc : Nat → Int32} {mTr : Int32} (h : mIv mTy mPa mTo mTm mMn mOt mNa mRe mMa mMy mPm mFn mFy mFa mFr mRn mFo mRt mRm mTn mTt mTi mVn mVr mVf mVc mTr) : 0 ≤ mMn.toInt ∧ mMn.toInt ≤ 40 := h.2.2.2.2.2.1
theorem mIv.imy {mTy : Int32} {mPa mTo : Nat → Int32} {mTm mMn : Int32} {mOt mNa mRe mMa mMy mPm : Nat → Int32} {mFn : Int32} {mFy mFa mFr : Nat → Int32} {mRn : Int32} {mFo mRt mRm : Nat → Int32} {mTn : Int32} {mTt mTi : Nat → Int32} {mVn : Int32} {mVr mVf mVc : Nat → Int32} {mTr : Int32} (h : mIv mTy mPa mTo mTm mMn mOt mNa mRe mMa mMy mPm mFn mFy mFa mFr mRn mFo mRt mRm mTn mTt mTi mVn mVr mVf mVc mTr) : myD mMy := h.2.2.2.2.2.2.1
theorem mIv.ivr {mTy : Int32} {mPa mTo : Nat → Int32} {mTm mMn : Int32} {mOt mNa mRe mMa mMy mPm : Nat → Int32} {mFn : Int32} {mFy mFa mFr : Nat → Int32} {mRn : Int32} {mFo mRt mRm : Nat → Int32} {mTn : Int32} {mTt mTi : Nat → Int32} {mVn : Int32} {mVr mVf mVc : Nat → Int32} {mTr : Int32} (h : mIv mTy mPa mTo mTm mMn mOt mNa mRe mMa mMy mPm mFn mFy mFa mFr mRn mFo mRt mRm mTn mTt mTi mVn mVr mVf mVc mTr) : vrD mMa mMy := h.2.2.2.2.2.2.2.1
theorem mIv.imb {mTy : Int32} {mPa mTo : Nat → Int32} {mTm mMn : Int32} {mOt mNa mRe mMa mMy mPm : Nat → Int32} {mFn : Int32} {mFy mFa mFr : Nat → Int32} {mRn : Int32} {mFo mRt mRm : Nat → Int32} {mTn : Int32} {mTt mTi : Nat → Int32} {mVn : Int32} {mVr mVf mVc : Nat → Int32} {mTr : Int32} (h : mIv mTy mPa mTo mTm mMn mOt mNa mRe mMa mMy mPm mFn mFy mFa mFr mRn mFo mRt mRm mTn mTt mTi mVn mVr mVf mVc mTr) : mbD mOt mNa mRe mMn := h.2.2.2.2.2.2.2.2.1
theorem mIv.ipm {mTy : Int32} {mPa mTo : Nat → Int32} {mTm mMn : Int32} {mOt mNa mRe mMa mMy mPm : Nat → Int32} {mFn : Int32} {mFy mFa mFr : Nat → Int32} {mRn : Int32} {mFo mRt mRm : Nat → Int32} {mTn : Int32} {mTt mTi : Nat → Int32} {mVn : Int32} {mVr mVf mVc : Nat → Int32} {mTr : Int32} (h : mIv mTy mPa mTo mTm mMn mOt mNa mRe mMa mMy mPm mFn mFy mFa mFr mRn mFo mRt mRm mTn mTt mTi mVn mVr mVf mVc mTr) : ∀ i : Nat, plT mTy (mPm i) := h.2.2.2.2.2.2.2.2.2.1
theorem mIv.imo {mTy : Int32} {mPa mTo : Nat → Int32} {mTm mMn : Int32} {mOt mNa mRe mMa mMy mPm : Nat → Int32} {mFn : Int32} {mFy mFa mFr : Nat → Int32} {mRn : Int32} {mFo mRt mRm : Nat → Int32} {mTn : Int32} {mTt mTi : Nat → Int32} {mVn : Int32} {mVr mVf mVc : Nat → Int32} {mTr : Int32} (h : mIv mTy mPa mTo mTm mMn mOt mNa mRe mMa mMy mPm mFn mFy mFa mFr mRn mFo mRt mRm mTn mTt mTi mVn mVr mVf mVc mTr) : ∀ j : Nat, (j : Int) < mMn.toInt → okT mTy (mOt j) ∧ okT mTy (mRe j) ∧ ((mMa j &&& 4).toInt ≠ 0 → 20 ≤ (mPm (3 * nI j + (mMy j - 1)).toNatClampNeg).toInt) := h.2.2.2.2.2.2.2.2.2.2.1
theorem mIv.inc {mTy : Int32} {mPa mTo : Nat → Int32} {mTm mMn : Int32} {mOt mNa mRe mMa mMy mPm : Nat → Int32} {mFn : Int32} {mFy mFa mFr : Nat → Int32} {mRn : Int32} {mFo mRt mRm : Nat → Int32} {mTn : Int32} {mTt mTi : Nat → Int32} {mVn : Int32} {mVr mVf mVc : Nat → Int32} {mTr : Int32} (h : mIv mTy mPa mTo mTm mMn mOt mNa mRe mMa mMy mPm mFn mFy mFa mFr mRn mFo mRt mRm mTn mTt mTi mVn mVr mVf mVc mTr) : ncD mPa mOt mNa mRe mMy mPm mMn := h.2.2.2.2.2.2.2.2.2.2.2.1
theorem mIv.ifn {mTy : Int32} {mPa mTo : Nat → Int32} {mTm mMn : Int32} {mOt mNa mRe mMa mMy mPm : Nat → Int32} {mFn : Int32} {mFy mFa mFr : Nat → Int32} {mRn : Int32} {mFo mRt mRm : Nat → Int32} {mTn : Int32} {mTt mTi : Nat → Int32} {mVn : Int32} {mVr mVf mVc : Nat → Int32} {mTr : Int32} (h : mIv mTy mPa mTo mTm mMn mOt mNa mRe mMa mMy mPm mFn mFy mFa mFr mRn mFo mRt mRm mTn mTt mTi mVn mVr mVf mVc mTr) : 0 ≤ mFn.toInt ∧ mFn.toInt ≤ 10 := h.2.2.2.2.2.2.2.2.2.2.2.2.1
theorem mIv.ifc {mTy : Int32} {mPa mTo : Nat → Int32} {mTm mMn : Int32} {mOt mNa mRe mMa mMy mPm : Nat → Int32} {mFn : Int32} {mFy mFa mFr : Nat → Int32} {mRn : Int32} {mFo mRt mRm : Nat → Int32} {mTn : Int32} {mTt mTi : Nat → Int32} {mVn : Int32} {mVr mVf mVc : Nat → Int32} {mTr : Int32} (h : mIv mTy mPa mTo mTm mMn mOt mNa mRe mMa mMy mPm mFn mFy mFa mFr mRn mFo mRt mRm mTn mTt mTi mVn mVr mVf mVc mTr) : fcD mFn mFy := h.2.2.2.2.2.2.2.2.2.2.2.2.2.1
theorem mIv.ifa {mTy : Int32} {mPa mTo : Nat → Int32} {mTm mMn : Int32} {mOt mNa mRe mMa mMy mPm : Nat → Int32} {mFn : Int32} {mFy mFa mFr : Nat → Int32} {mRn : Int32} {mFo mRt mRm : Nat → Int32} {mTn : Int32} {mTt mTi : Nat → Int32} {mVn : Int32} {mVr mVf mVc : Nat → Int32} {mTr : Int32} (h : mIv mTy mPa mTo mTm mMn mOt mNa mRe mMa mMy mPm mFn mFy mFa mFr mRn mFo mRt mRm mTn mTt mTi mVn mVr mVf mVc mTr) : ∀ i : Nat, plT mTy (mFa i) := h.2.2.2.2.2.2.2.2.2.2.2.2.2.2.1
theorem mIv.irn {mTy : Int32} {mPa mTo : Nat → Int32} {mTm mMn : Int32} {mOt mNa mRe mMa mMy mPm : Nat → Int32} {mFn : Int32} {mFy mFa mFr : Nat → Int32} {mRn : Int32} {mFo mRt mRm : Nat → Int32} {mTn : Int32} {mTt mTi : Nat → Int32} {mVn : Int32} {mVr mVf mVc : Nat → Int32} {mTr : Int32} (h : mIv mTy mPa mTo mTm mMn mOt mNa mRe mMa mMy mPm mFn mFy mFa mFr mRn mFo mRt mRm mTn mTt mTi mVn mVr mVf mVc mTr) : 0 ≤ mRn.toInt ∧ mRn.toInt ≤ 30 := h.2.2.2.2.2.2.2.2.2.2.2.2.2.2.2.1
theorem mIv.irf {mTy : Int32} {mPa mTo : Nat → Int32} {mTm mMn : Int32} {mOt mNa mRe mMa mMy mPm : Nat → Int32} {mFn : Int32} {mFy mFa mFr : Nat → Int32} {mRn : Int32} {mFo mRt mRm : Nat → Int32} {mTn : Int32} {mTt mTi : Nat → Int32} {mVn : Int32} {mVr mVf mVc : Nat → Int32} {mTr : Int32} (h : mIv mTy mPa mTo mTm mMn mOt mNa mRe mMa mMy mPm mFn mFy mFa mFr mRn mFo mRt mRm mTn mTt mTi mVn mVr mVf mVc mTr) : rfD mRn mTy mFo mRt := h.2.2.2.2.2.2.2.2.2.2.2.2.2.2.2.2.1
theorem mIv.irw {mTy : Int32} {mPa mTo : Nat → Int32} {mTm mMn : Int32} {mOt mNa mRe mMa mMy mPm : Nat → Int32} {mFn : Int32} {mFy mFa mFr : Nat → Int32} {mRn : Int32} {mFo mRt mRm : Nat → Int32} {mTn : Int32} {mTt mTi : Nat → Int32} {mVn : Int32} {mVr mVf mVc : Nat → Int32} {mTr : Int32} (h : mIv mTy mPa mTo mTm mMn mOt mNa mRe mMa mMy mPm mFn mFy mFa mFr mRn mFo mRt mRm mTn mTt mTi mVn mVr mVf mVc mTr) : ∀ i : Nat, (i : Int) < mRn.toInt → (mFo i).toInt ≤ 2 → (mRm i).toInt ≠ 6 := h.2.2.2.2.2.2.2.2.2.2.2.2.2.2.2.2.2.1
theorem mIv.itn {mTy : Int32} {mPa mTo : Nat → Int32} {mTm mMn : Int32} {mOt mNa mRe mMa mMy mPm : Nat → Int32} {mFn : Int32} {mFy mFa mFr : Nat → Int32} {mRn : Int32} {mFo mRt mRm : Nat → Int32} {mTn : Int32} {mTt mTi : Nat → Int32} {mVn : Int32} {mVr mVf mVc : Nat → Int32} {mTr : Int32} (h : mIv mTy mPa mTo mTm mMn mOt mNa mRe mMa mMy mPm mFn mFy mFa mFr mRn mFo mRt mRm mTn mTt mTi mVn mVr mVf mVc mTr) : 0 ≤ mTn.toInt ∧ mTn.toInt ≤ 60 := h.2.2.2.2.2.2.2.2.2.2.2.2.2.2.2.2.2.2.1
theorem mIv.itk {mTy : Int32} {mPa mTo : Nat → Int32} {mTm mMn : Int32} {mOt mNa mRe mMa mMy mPm : Nat → Int32} {mFn : Int32} {mFy mFa mFr : Nat → Int32} {mRn : Int32} {mFo mRt mRm : Nat → Int32} {mTn : Int32} {mTt mTi : Nat → Int32} {mVn : Int32} {mVr mVf mVc : Nat → Int32} {mTr : Int32} (h : mIv mTy mPa mTo mTm mMn mOt mNa mRe mMa mMy mPm mFn mFy mFa mFr mRn mFo mRt mRm mTn mTt mTi mVn mVr mVf mVc mTr) : ∀ i : Nat, 1 ≤ i → (i : Int) ≤ mTn.toInt → okT mTy (mTt i) ∧ (20 ≤ (mTt i).toInt → 0 ≤ (mTi i).toInt ∧ (mTi i).toInt ≤ 20) := h.2.2.2.2.2.2.2.2.2.2.2.2.2.2.2.2.2.2.2.1
theorem mIv.ivn {mTy : Int32} {mPa mTo : Nat → Int32} {mTm mMn : Int32} {mOt mNa mRe mMa mMy mPm : Nat → Int32} {mFn : Int32} {mFy mFa mFr : Nat → Int32} {mRn : Int32} {mFo mRt mRm : Nat → Int32} {mTn : Int32} {mTt mTi : Nat → Int32} {mVn : Int32} {mVr mVf mVc : Nat → Int32} {mTr : Int32} (h : mIv mTy mPa mTo mTm mMn mOt mNa mRe mMa mMy mPm mFn mFy mFa mFr mRn mFo mRt mRm mTn mTt mTi mVn mVr mVf mVc mTr) : 0 ≤ mVn.toInt ∧ mVn.toInt ≤ 30 := h.2.2.2.2.2.2.2.2.2.2.2.2.2.2.2.2.2.2.2.2.1
theorem mIv.iva {mTy : Int32} {mPa mTo : Nat → Int32} {mTm mMn : Int32} {mOt mNa mRe mMa mMy mPm : Nat → Int32} {mFn : Int32} {mFy mFa mFr : Nat → Int32} {mRn : Int32} {mFo mRt mRm : Nat → Int32} {mTn : Int32} {mTt mTi : Nat → Int32} {mVn : Int32} {mVr mVf mVc : Nat → Int32} {mTr : Int32} (h : mIv mTy mPa mTo mTm mMn mOt mNa mRe mMa mMy mPm mFn mFy mFa mFr mRn mFo mRt mRm mTn mTt mTi mVn mVr mVf mVc mTr) : ∀ v : Nat, (v : Int) < mVn.toInt → vaO mPa mOt mNa mRe mMa mMy mPm mFy mFa mFr mMn mFn mRn mFo mRt mRm mTn mTt (mVr v) (mVf v) (mVc v) := h.2.2.2.2.2.2.2.2.2.2.2.2.2.2.2.2.2.2.2.2.2.1
theorem mIv.itr {mTy : Int32} {mPa mTo : Nat → Int32} {mTm mMn : Int32} {mOt mNa mRe mMa mMy mPm : Nat → Int32} {mFn : Int32} {mFy mFa mFr : Nat → Int32} {mRn : Int32} {mFo mRt mRm : Nat → Int32} {mTn : Int32} {mTt mTi : Nat → Int32} {mVn : Int32} {mVr mVf mVc : Nat → Int32} {mTr : Int32} (h : mIv mTy mPa mTo mTm mMn mOt mNa mRe mMa mMy mPm mFn mFy mFa mFr mRn mFo mRt mRm mTn mTt mTi mVn mVr mVf mVc mTr) : 0 ≤ mTr.toInt ∧ mTr.toInt ≤ 50 := h.2.2.2.2.2.2.2.2.2.2.2.2.2.2.2.2.2.2.2.2.2.2
section
variable {mTy : Int32} {mPa mTo : Nat → Int32} {mTm mMn : Int32} {mOt mNa mRe mMa mMy mPm : Nat → Int32} {mFn : Int32} {mFy mFa mFr : Nat → Int32} {mRn : Int32} {mFo mRt mRm : Nat → Int32} {mTn : Int32} {mTt mTi : Nat → Int32} {mVn : Int32} {mVr mVf mVc : Nat → Int32} {mTr : Int32}
theorem ok_m {ty x : Int32} (h1 : ty.toInt ≤ 9) (h0 : 0 ≤ ty.toInt) (h : okT ty x) : okT (ty + 1) x := by
  have e : (ty + 1).toInt = ty.toInt + 1 := iAdd rfl (by decide) (by omega) (by omega)
  unfold okT at h ⊢; omega
theorem pl_m {ty x : Int32} (h1 : ty.toInt ≤ 9) (h0 : 0 ≤ ty.toInt) (h : plT ty x) : plT (ty + 1) x := by
  have e : (ty + 1).toInt = ty.toInt + 1 := iAdd rfl (by decide) (by omega) (by omega)
  unfold plT at h ⊢; omega
/-- the types of a reference that a meaning asks for -/
theorem rf_k (h : mIv mTy mPa mTo mTm mMn mOt mNa mRe mMa mMy mPm mFn mFy mFa mFr mRn mFo mRt mRm mTn mTt mTi mVn mVr mVf mVc mTr) {r : Int32} (hr : 0 ≤ r.toInt ∧ r.toInt < mRn.toInt) : ((mFo r.toNatClampNeg).toInt ≠ 4 → okT mTy (mRt r.toNatClampNeg) ∧ okT mTy (cM (mRt r.toNatClampNeg))) ∧ ((mFo r.toNatClampNeg).toInt = 4 → okT mTy (20 + mRt r.toNatClampNeg)) ∧ ((mFo r.toNatClampNeg).toInt = 2 → okT mTy (cM (mPa (mRt r.toNatClampNeg).toNatClampNeg))) := by
  have hrf := rfD_at h.irf hr
  have hty := h.ity
  refine ⟨fun q => ?_, fun q => ?_, fun q => ?_⟩
  · have e := hrf.2.1 q
    have ec : cM (mRt r.toNatClampNeg) = mRt r.toNatClampNeg := by unfold cM; rw [if_neg (by omega)]
    rw [ec]
    exact ⟨Or.inl e.2, Or.inl e.2⟩
  · have e := hrf.2.2.1 q
    have e2 : (20 + mRt r.toNatClampNeg).toInt = 20 + (mRt r.toNatClampNeg).toInt := iAdd (by decide) rfl (by omega) (by omega)
    unfold okT; omega
  · have e := hrf.2.1 (by omega)
    have e2 := hrf.2.2.2 q
    have hx := xN e.1
    have e3 := h.ipa (mRt r.toNatClampNeg).toNatClampNeg (by omega)
    have ec : cM (mPa (mRt r.toNatClampNeg).toNatClampNeg) = mPa (mRt r.toNatClampNeg).toNatClampNeg := by unfold cM; rw [if_neg (by omega)]
    rw [ec]
    exact Or.inl (by omega)
theorem mk_of (h : mIv mTy mPa mTo mTm mMn mOt mNa mRe mMa mMy mPm mFn mFy mFa mFr mRn mFo mRt mRm mTn mTt mTi mVn mVr mVf mVc mTr) : mbK mTy mOt mRe mMa mMy mPm mMn := by
  intro j q
  have hty := h.ity
  have hmn := h.imn
  obtain ⟨q1, q2, q3⟩ := h.imo j q
  have ec := nI_c (k := j) (by omega)
  rw [ec]
  refine ⟨q1, q2, fun k _ => pl_ok hty.1 (h.ipm _), fun u k => ?_⟩
  unfold plV
  rw [ec]
  have q4 := q3 u
  have q5 := h.ipm (3 * nI j + (mMy j - 1)).toNatClampNeg
  split
  · exact pl_ok hty.1 (h.ipm _)
  · split
    · have e10 : (10 : Int32).toInt = 10 := by decide
      exact Or.inr (Or.inl (by omega))
    · next q6 =>
      unfold plT at q5
      have e4 : (mPm (3 * nI j + (mMy j - 1)).toNatClampNeg - 20).toInt = (mPm (3 * nI j + (mMy j - 1)).toNatClampNeg).toInt - 20 := iSub rfl (by decide) (by omega) (by omega)
      exact Or.inl (by omega)
theorem fk_s (h : mIv mTy mPa mTo mTm mMn mOt mNa mRe mMa mMy mPm mFn mFy mFa mFr mRn mFo mRt mRm mTn mTt mTi mVn mVr mVf mVc mTr) {f : Int32} (hf : 0 ≤ f.toInt ∧ f.toInt < mFn.toInt) : fcK mTy mFa mFa mFy mFy f := ⟨by have := h.ifn; omega, fcD_at h.ifc hf, rfl, fun j q => ⟨rfl, pl_ok h.ity.1 (h.ifa _)⟩⟩
/-- a type more -/
theorem iv_type (h : mIv mTy mPa mTo mTm mMn mOt mNa mRe mMa mMy mPm mFn mFy mFa mFr mRn mFo mRt mRm mTn mTt mTi mVn mVr mVf mVc mTr) {t : Int32} (ht : 0 ≤ t.toInt ∧ t.toInt < mTy.toInt) (h9 : mTy.toInt < 10) : mIv (mTy + 1) (upd mPa mTy.toNatClampNeg t) mTo mTm mMn mOt mNa mRe mMa mMy mPm mFn mFy mFa mFr mRn mFo mRt mRm mTn mTt mTi mVn mVr mVf mVc mTr := by
  have hty := h.ity
  have e : (mTy + 1).toInt = mTy.toInt + 1 := iAdd rfl (by decide) (by omega) (by omega)
  have hx := xN (x := mTy) (by omega)
  have hU := uM_n (t := t) h.ipa (show 2 ≤ mTy.toInt ∧ mTy.toInt ≤ 9 by omega)
  have om : ∀ {x : Int32}, okT mTy x → okT (mTy + 1) x := fun q => ok_m (by omega) (by omega) q
  refine mIv.mk (ity := by omega) (ipa := ?_) (ipt := ?_) (itm := h.itm) (ito := fun j => pl_m (by omega) (by omega) (h.ito j)) (imn := h.imn) (imy := h.imy) (ivr := h.ivr) (imb := h.imb) (ipm := fun j => pl_m (by omega) (by omega) (h.ipm j)) (imo := fun j q => ⟨om (h.imo j q).1, om (h.imo j q).2.1, (h.imo j q).2.2⟩) (inc := ?_) (ifn := h.ifn) (ifc := h.ifc) (ifa := fun j => pl_m (by omega) (by omega) (h.ifa j)) (irn := h.irn) (irf := ?_) (irw := h.irw) (itn := h.itn) (itk := fun i q q2 => ⟨om (h.itk i q q2).1, (h.itk i q q2).2⟩) (ivn := h.ivn) (iva := ?_) (itr := h.itr)
  · intro k q
    by_cases ek : k = mTy.toNatClampNeg
    · rw [ek, updS]; omega
    · rw [updN ek]; exact h.ipa k q
  · intro k q q2
    by_cases ek : k = mTy.toNatClampNeg
    · rw [ek, updS]; omega
    · rw [updN ek]; exact h.ipt k q (by omega)
  · intro i j q1 q2 q3 q4 q5 q6
    have k1 := (h.imo i q1).1
    have k2 := (h.imo j q2).1
    rw [hU _ _ k1, hU _ _ k2] at q6
    exact h.inc i j q1 q2 q3 q4 q5 q6
  · intro i q
    obtain ⟨q1, q2, q3, q4⟩ := h.irf i q
    exact ⟨q1, fun u => by have := q2 u; omega, fun u => by have := q3 u; omega, q4⟩
  · intro v q
    obtain ⟨q1, q2, q3, q4, q5⟩ := h.iva v q
    refine ⟨q1, q2, q3, fun u => ⟨(q4 u).1, ?_⟩, fun sc mp m u => ?_⟩
    · have hv := q4 u
      rw [hU _ _ (h.itk (mVc v).toNatClampNeg (by have := xN q3.1; omega) (by have := xN q3.1; omega)).1]
      exact hv.2
    · have k := rf_k h q1
      have hrf := rfD_at h.irf q1
      refine q5 sc mp m (wm_c hU hty.1 h.imn.2 (mk_of h) (fk_s h q2) rfl k.1 k.2.1 (fun w => ?_) hrf.1 u)
      have e2 := hrf.2.1 (by omega)
      have hx2 := xN e2.1
      rw [updN (by omega)]
      exact ⟨rfl, k.2.2 w⟩
end
end
section
section
variable {mTy : Int32} {mPa mTo : Nat → Int32} {mTm mMn : Int32} {mOt mNa mRe mMa mMy mPm : Nat → Int32} {mFn : Int32} {mFy mFa mFr : Nat → Int32} {mRn : Int32} {mFo mRt mRm : Nat → Int32} {mTn : Int32} {mTt mTi : Nat → Int32} {mVn : Int32} {mVr mVf mVc : Nat → Int32} {mTr : Int32}
theorem ixg {f k : Int32} (hf : 0 ≤ f.toInt ∧ f.toInt < 1000) (hk : 0 ≤ k.toInt ∧ k.toInt < 1000) : ((3 * f + k).toNatClampNeg : Int) = 3 * f.toInt + k.toInt := by
  have e1 : (3 * f).toInt = 3 * f.toInt := iMul (by decide) rfl (by omega) (by omega)
  have e3 : (3 * f + k).toInt = 3 * f.toInt + k.toInt := iAdd e1 rfl (by omega) (by omega)
  have := xN (x := 3 * f + k) (by omega)
  omega
theorem ix3 {f : Int32} {j : Nat} (hf : 0 ≤ f.toInt ∧ f.toInt < 1000) (hj : j < 1000) : ((3 * f + nI j).toNatClampNeg : Int) = 3 * f.toInt + j := by
  have e2 := nI_toInt (n := j) (by omega)
  have := ixg (f := f) (k := nI j) hf (by omega)
  omega
theorem cp_o {f to : Nat → Int32} {n m : Int32} {i : Nat} (hn : 0 ≤ n.toInt) (h : (i : Int) < 3 * n.toInt) : cpF f to n m i = f i := by
  have := xN hn
  unfold cpF; rw [if_neg (by omega)]
theorem cp_n {f to : Nat → Int32} {n m : Int32} {i k : Nat} (hn : 0 ≤ n.toInt) (hm : 0 ≤ m.toInt) (h : (i : Int) = 3 * n.toInt + k) (hk : (k : Int) < m.toInt) : cpF f to n m i = to k := by
  have := xN hn
  have := xN hm
  unfold cpF; rw [if_pos (by omega), show i - 3 * n.toNatClampNeg = k by omega]
theorem cp_p {ty : Int32} {f to : Nat → Int32} {n m : Int32} (h1 : ∀ i : Nat, plT ty (to i)) (h2 : ∀ i : Nat, plT ty (f i)) (i : Nat) : plT ty (cpF f to n m i) := by
  unfold cpF
  split
  · exact h1 _
  · exact h2 _
theorem iv_tell (h : mIv mTy mPa mTo mTm mMn mOt mNa mRe mMa mMy mPm mFn mFy mFa mFr mRn mFo mRt mRm mTn mTt mTi mVn mVr mVf mVc mTr) {t : Int32} (ht : plT mTy t) (h3 : mTm.toInt < 3) : mIv mTy mPa (upd mTo mTm.toNatClampNeg t) (mTm + 1) mMn mOt mNa mRe mMa mMy mPm mFn mFy mFa mFr mRn mFo mRt mRm mTn mTt mTi mVn mVr mVf mVc mTr := by
  have htm := h.itm
  have e : (mTm + 1).toInt = mTm.toInt + 1 := iAdd rfl (by decide) (by omega) (by omega)
  have hx := xN htm.1
  refine mIv.mk (ity := h.ity) (ipa := h.ipa) (ipt := h.ipt) (itm := by omega) (ito := ?_) (imn := h.imn) (imy := h.imy) (ivr := h.ivr) (imb := h.imb) (ipm := h.ipm) (imo := h.imo) (inc := h.inc) (ifn := h.ifn) (ifc := h.ifc) (ifa := h.ifa) (irn := h.irn) (irf := h.irf) (irw := h.irw) (itn := h.itn) (itk := h.itk) (ivn := h.ivn) (iva := h.iva) (itr := h.itr)
  intro j
  by_cases ej : j = mTm.toNatClampNeg
  · rw [ej, updS]; exact ht
  · rw [updN ej]; exact h.ito j
theorem iv_untell (h : mIv mTy mPa mTo mTm mMn mOt mNa mRe mMa mMy mPm mFn mFy mFa mFr mRn mFo mRt mRm mTn mTt mTi mVn mVr mVf mVc mTr) : mIv mTy mPa mTo 0 mMn mOt mNa mRe mMa mMy mPm mFn mFy mFa mFr mRn mFo mRt mRm mTn mTt mTi mVn mVr mVf mVc mTr := by
  have z0 : (0 : Int32).toInt = 0 := by decide
  exact mIv.mk (ity := h.ity) (ipa := h.ipa) (ipt := h.ipt) (itm := by omega) (ito := h.ito) (imn := h.imn) (imy := h.imy) (ivr := h.ivr) (imb := h.imb) (ipm := h.ipm) (imo := h.imo) (inc := h.inc) (ifn := h.ifn) (ifc := h.ifc) (ifa := h.ifa) (irn := h.irn) (irf := h.irf) (irw := h.irw) (itn := h.itn) (itk := h.itk) (ivn := h.ivn) (iva := h.iva) (itr := h.itr)
theorem iv_face (h : mIv mTy mPa mTo mTm mMn mOt mNa mRe mMa mMy mPm mFn mFy mFa mFr mRn mFo mRt mRm mTn mTt mTi mVn mVr mVf mVc mTr) {r : Int32} (h9 : mFn.toInt < 10) : mIv mTy mPa mTo 0 mMn mOt mNa mRe mMa mMy mPm (mFn + 1) (upd mFy mFn.toNatClampNeg mTm) (cpF mFa mTo mFn mTm) (upd mFr mFn.toNatClampNeg r) mRn mFo mRt mRm mTn mTt mTi mVn mVr mVf mVc mTr := by
  have z0 : (0 : Int32).toInt = 0 := by decide
  have hfn := h.ifn
  have htm := h.itm
  have e : (mFn + 1).toInt = mFn.toInt + 1 := iAdd rfl (by decide) (by omega) (by omega)
  have hx := xN hfn.1
  refine mIv.mk (ity := h.ity) (ipa := h.ipa) (ipt := h.ipt) (itm := by omega) (ito := h.ito) (imn := h.imn) (imy := h.imy) (ivr := h.ivr) (imb := h.imb) (ipm := h.ipm) (imo := h.imo) (inc := h.inc) (ifn := by omega) (ifc := ?_) (ifa := fun i => cp_p h.ito h.ifa i) (irn := h.irn) (irf := h.irf) (irw := h.irw) (itn := h.itn) (itk := h.itk) (ivn := h.ivn) (iva := ?_) (itr := h.itr)
  · intro i q
    by_cases ei : i = mFn.toNatClampNeg
    · rw [ei, updS]; omega
    · rw [updN ei]; exact h.ifc i (by omega)
  · intro v q
    obtain ⟨q1, q2, q3, q4, q5⟩ := h.iva v q
    refine ⟨q1, by omega, q3, q4, fun sc mp m u => ?_⟩
    have k := rf_k h q1
    have hrf := rfD_at h.irf q1
    have hxf := xN q2.1
    have hfy := fcD_at h.ifc q2
    have ef : (mVf v).toNatClampNeg ≠ mFn.toNatClampNeg := by omega
    refine q5 sc mp m (wm_c (ty := mTy) (fun _ _ _ => rfl) h.ity.1 h.imn.2 (mk_of h) ⟨by omega, ?_, updN ef, ?_⟩ (updN ef) k.1 k.2.1 (fun w => ⟨rfl, k.2.2 w⟩) hrf.1 u)
    · rw [updN ef]; exact hfy
    · intro j w
      rw [updN ef] at w
      have hi := ix3 (f := mVf v) (j := j) (by omega) (by omega)
      rw [cp_o hfn.1 (by omega)]
      exact ⟨rfl, pl_ok h.ity.1 (h.ifa _)⟩
theorem iv_ref (h : mIv mTy mPa mTo mTm mMn mOt mNa mRe mMa mMy mPm mFn mFy mFa mFr mRn mFo mRt mRm mTn mTt mTi mVn mVr mVf mVc mTr) {f t w : Int32} (hc : ((0 ≤ f.toInt ∧ f.toInt ≤ 4) ∧ ((f.toInt < 2 ∧ (0 ≤ t.toInt ∧ t.toInt < mTy.toInt)) ∨ (f.toInt = 2 ∧ (0 ≤ t.toInt ∧ t.toInt < mTy.toInt) ∧ t.toInt ≠ 0) ∨ (f.toInt = 3 ∧ (0 ≤ t.toInt ∧ t.toInt < mTy.toInt ∧ t.toInt ≠ 1)) ∨ (f.toInt = 4 ∧ ((0 ≤ t.toInt ∧ t.toInt < mTy.toInt) ∨ t.toInt = 10))) ∧ (3 ≤ f.toInt ∨ (0 ≤ w.toInt ∧ w.toInt ≤ 5)))) (h9 : mRn.toInt < 30) : mIv mTy mPa mTo mTm mMn mOt mNa mRe mMa mMy mPm mFn mFy mFa mFr (mRn + 1) (upd mFo mRn.toNatClampNeg f) (upd mRt mRn.toNatClampNeg t) (upd mRm mRn.toNatClampNeg w) mTn mTt mTi mVn mVr mVf mVc mTr := by
  have hrn := h.irn
  have e : (mRn + 1).toInt = mRn.toInt + 1 := iAdd rfl (by decide) (by omega) (by omega)
  have hx := xN hrn.1
  refine mIv.mk (ity := h.ity) (ipa := h.ipa) (ipt := h.ipt) (itm := h.itm) (ito := h.ito) (imn := h.imn) (imy := h.imy) (ivr := h.ivr) (imb := h.imb) (ipm := h.ipm) (imo := h.imo) (inc := h.inc) (ifn := h.ifn) (ifc := h.ifc) (ifa := h.ifa) (irn := by omega) (irf := ?_) (irw := ?_) (itn := h.itn) (itk := h.itk) (ivn := h.ivn) (iva := ?_) (itr := h.itr)
  · intro i q
    by_cases ei : i = mRn.toNatClampNeg
    · rw [ei, updS, updS]; omega
    · rw [updN ei, updN ei]; exact h.irf i (by omega)
  · intro i q
    by_cases ei : i = mRn.toNatClampNeg
    · rw [ei, updS, updS]; omega
    · rw [updN ei, updN ei]; exact h.irw i (by omega)
  · intro v q
    obtain ⟨q1, q2, q3, q4, q5⟩ := h.iva v q
    have hxr := xN q1.1
    have er : (mVr v).toNatClampNeg ≠ mRn.toNatClampNeg := by omega
    unfold vaO
    rw [updN er, updN er, updN er]
    exact ⟨by omega, q2, q3, q4, q5⟩
theorem plV_c {my mz pm pn : Nat → Int32} {m k : Int32} (h1 : mz m.toNatClampNeg = my m.toNatClampNeg) (h2 : k.toInt < (my m.toNatClampNeg).toInt - 1 → pn (3 * m + k).toNatClampNeg = pm (3 * m + k).toNatClampNeg) (h3 : pn (3 * m + (my m.toNatClampNeg - 1)).toNatClampNeg = pm (3 * m + (my m.toNatClampNeg - 1)).toNatClampNeg) : plV mz pn m k = plV my pm m k := by
  unfold plV
  rw [h1, h3]
  split
  · next e => rw [h2 e]
  · rfl
theorem nc_one {pa ot na re ma my pm to : Nat → Int32} {tm t w r a m : Int32} (h : ¬ clM pa ot na re ma my pm to tm m t w r a) (h1 : (na m.toNatClampNeg).toInt = w.toInt) (h2 : (my m.toNatClampNeg).toInt = tm.toInt) (h3 : alL pm to tm m 0) (h6 : w.toInt ≠ 6) (hu : uM pa t (ot m.toNatClampNeg) = true ∨ uM pa (ot m.toNatClampNeg) t = true) : re m.toNatClampNeg = r := by
  by_cases e : (re m.toNatClampNeg).toInt = r.toInt
  · exact xJ e
  · refine absurd ⟨h1, h2, h3, ?_⟩ h
    by_cases e2 : (ot m.toNatClampNeg).toInt = t.toInt
    · exact Or.inl e2
    · exact Or.inr ⟨e2, h6, hu, Or.inr (Or.inl e)⟩
theorem iv_member (h : mIv mTy mPa mTo mTm mMn mOt mNa mRe mMa mMy mPm mFn mFy mFa mFr mRn mFo mRt mRm mTn mTt mTi mVn mVr mVf mVc mTr) {t w r a : Int32} (ht : 0 ≤ t.toInt ∧ t.toInt < mTy.toInt) (hr : anyT mTy r) (ha : (a &&& 4).toInt = 0 ∨ (mTm.toInt ≠ 0 ∧ 20 ≤ (mTo (mTm - 1).toNatClampNeg).toInt)) (hw : w.toInt = 6 → r.toInt = t.toInt) (hv : mVn.toInt ≤ 0) (hcl : ∀ j : Nat, (j : Int) < mMn.toInt → ¬ clM mPa mOt mNa mRe mMa mMy mPm mTo mTm (nI j) t w r a) (h9 : mMn.toInt < 40) : mIv mTy mPa mTo 0 (mMn + 1) (upd mOt mMn.toNatClampNeg t) (upd mNa mMn.toNatClampNeg w) (upd mRe mMn.toNatClampNeg r) (upd mMa mMn.toNatClampNeg a) (upd mMy mMn.toNatClampNeg mTm) (cpF mPm mTo mMn mTm) mFn mFy mFa mFr mRn mFo mRt mRm mTn mTt mTi mVn mVr mVf mVc mTr := by
  have z0 : (0 : Int32).toInt = 0 := by decide
  have hmn := h.imn
  have htm := h.itm
  have hty := h.ity
  have e : (mMn + 1).toInt = mMn.toInt + 1 := iAdd rfl (by decide) (by omega) (by omega)
  have hx := xN hmn.1
  have hxt := xN htm.1
  have hnn : nI mMn.toNatClampNeg = mMn := xJ (by rw [nI_toInt (by omega)]; omega)
  -- the places of the members
  have pO : ∀ (j : Nat) (k : Int32), (j : Int) < mMn.toInt → (0 ≤ k.toInt ∧ k.toInt < 3) → cpF mPm mTo mMn mTm (3 * nI j + k).toNatClampNeg = mPm (3 * nI j + k).toNatClampNeg := by
    intro j k q q2
    have e1 := nI_toInt (n := j) (by omega)
    have hi := ixg (f := nI j) (k := k) (by omega) (by omega)
    exact cp_o hmn.1 (by omega)
  have pN : ∀ k : Nat, (k : Int) < mTm.toInt → cpF mPm mTo mMn mTm (3 * mMn + nI k).toNatClampNeg = mTo k := by
    intro k q
    have hi := ix3 (f := mMn) (j := k) (by omega) (by omega)
    exact cp_n hmn.1 htm.1 (by omega) q
  have hsm : ∀ i j : Nat, (i : Int) < mMn.toInt → (j : Int) < mMn.toInt → smM (upd mNa mMn.toNatClampNeg w) (upd mMy mMn.toNatClampNeg mTm) (cpF mPm mTo mMn mTm) (nI i) (nI j) → smM mNa mMy mPm (nI i) (nI j) := by
    intro i j q1 q2 q3
    have ci := nI_c (k := i) (by omega)
    have cj := nI_c (k := j) (by omega)
    have hi : i ≠ mMn.toNatClampNeg := by omega
    have hj : j ≠ mMn.toNatClampNeg := by omega
    obtain ⟨a1, a2, a3⟩ := q3
    rw [ci, cj, updN hi, updN hj] at a1 a2
    refine ⟨by rw [ci, cj]; exact a1, by rw [ci, cj]; exact a2, fun k _ u => ?_⟩
    rw [ci] at u
    have hmi := h.imy i (by omega)
    have ek := nI_toInt (n := k) (by omega)
    have b := a3 k (Nat.zero_le k) (by rw [ci, updN hi]; exact u)
    rw [pO i (nI k) q1 (by omega), pO j (nI k) q2 (by omega)] at b
    exact b
  refine mIv.mk (ity := h.ity) (ipa := h.ipa) (ipt := h.ipt) (itm := by omega) (ito := h.ito) (imn := by omega) (imy := ?_) (ivr := ?_) (imb := ?_) (ipm := fun i => cp_p h.ito h.ipm i) (imo := ?_) (inc := ?_) (ifn := h.ifn) (ifc := h.ifc) (ifa := h.ifa) (irn := h.irn) (irf := h.irf) (irw := h.irw) (itn := h.itn) (itk := h.itk) (ivn := h.ivn) (iva := fun v q => by omega) (itr := h.itr)
  · intro j q
    by_cases ej : j = mMn.toNatClampNeg
    · rw [ej, updS]; omega
    · rw [updN ej]; exact h.imy j q
  · intro j q
    by_cases ej : j = mMn.toNatClampNeg
    · rw [ej, updS, updS]; omega
    · rw [updN ej, updN ej]; exact h.ivr j q
  · intro j q
    by_cases ej : j = mMn.toNatClampNeg
    · rw [ej, updS, updS, updS]; exact ⟨by omega, fun q6 => xJ (hw q6)⟩
    · rw [updN ej, updN ej, updN ej]; exact h.imb j (by omega)
  · intro j q
    by_cases ej : j = mMn.toNatClampNeg
    · rw [ej, updS, updS, updS, updS, hnn]
      refine ⟨Or.inl ht.2, ?_, fun q2 => ?_⟩
      · unfold anyT at hr; unfold okT; omega
      · have e2 : (mTm - 1).toInt = mTm.toInt - 1 := iSub rfl (by decide) (by omega) (by omega)
        have e3 := xN (x := mTm - 1) (by omega)
        have hi := ixg (f := mMn) (k := mTm - 1) (by omega) (by omega)
        rw [cp_n (k := (mTm - 1).toNatClampNeg) hmn.1 htm.1 (by omega) (by omega)]
        omega
    · have hj : (j : Int) < mMn.toInt := by omega
      obtain ⟨q1, q2, q3⟩ := h.imo j hj
      rw [updN ej, updN ej, updN ej, updN ej]
      refine ⟨q1, q2, fun u => ?_⟩
      have hm1 := h.imy j (by omega)
      have hm2 := h.ivr j (by omega) u
      have e2 : (mMy j - 1).toInt = (mMy j).toInt - 1 := iSub rfl (by decide) (by omega) (by omega)
      rw [pO j _ hj (by omega)]
      exact q3 u
  · intro i j q1 q2 q3 q4 q5 q6
    by_cases ei : i = mMn.toNatClampNeg
    · have ej : j ≠ mMn.toNatClampNeg := by omega
      have hj : (j : Int) < mMn.toInt := by omega
      have cj := nI_c (k := j) (by omega)
      rw [ei, updS, updN ej] at q6 ⊢
      rw [ei, updS] at q5
      rw [ei, hnn] at q4
      obtain ⟨a1, a2, a3⟩ := q4
      rw [updS, cj, updN ej] at a1 a2
      have k := nc_one (hcl j hj) (by rw [cj, ← a1]) (by rw [cj, ← a2]) (fun k _ u => ?_) q5 (by rw [cj]; exact q6)
      · rw [cj] at k; exact k.symm
      · have ek := nI_toInt (n := k) (by omega)
        have b := a3 k (Nat.zero_le k) (by rw [updS]; exact u)
        rw [pO j (nI k) hj (by omega), pN k u] at b
        rw [nI_c (by omega)]; exact b.symm
    · have hi : (i : Int) < mMn.toInt := by omega
      have ci := nI_c (k := i) (by omega)
      by_cases ej : j = mMn.toNatClampNeg
      · rw [ej, updS, updN ei] at q6 ⊢
        rw [updN ei] at q5
        rw [ej, hnn] at q4
        obtain ⟨a1, a2, a3⟩ := q4
        rw [updS, ci, updN ei] at a1 a2
        have k := nc_one (hcl i hi) (by rw [ci, a1]) (by rw [ci, a2]) (fun k _ u => ?_) (by rw [← a1]; exact q5) (by rw [ci]; exact q6.symm)
        · rw [ci] at k; exact k
        · have ek := nI_toInt (n := k) (by omega)
          have b := a3 k (Nat.zero_le k) (by rw [ci, updN ei, a2]; exact u)
          rw [pO i (nI k) hi (by omega), pN k u] at b
          rw [nI_c (by omega)]; exact b
      · rw [updN ei, updN ej] at q6 ⊢
        rw [updN ei] at q5
        exact h.inc i j hi (by omega) q3 (hsm i j hi (by omega) q4) q5 q6
end
end
section
/-! things that a call makes -/
theorem ok_1 {ty : Int32} (h : 2 ≤ ty.toInt) : okT ty 1 := Or.inl (by have : (1 : Int32).toInt = 1 := by decide
                                                                      omega)
theorem md_k {ty t v : Int32} {z : cs_T} (hz : tnB z) (hk : tOK ty z) (ht : okT ty t) (hv : 20 ≤ t.toInt → z.2.1.toInt = 0 → 0 ≤ v.toInt ∧ v.toInt ≤ 20) : tOK ty (mdF t v z).2 := by
  have hz1 := hz.1
  have hz2 := hz.2
  unfold mdF
  split
  · exact hk
  · next e0 =>
    split
    · exact hk
    · have z1 : (z.1 + 1).toInt = z.1.toInt + 1 := iAdd rfl (by decide) (by omega) (by omega)
      have z2 := xN (x := z.1 + 1) (by omega)
      intro i q1 q2
      dsimp only at q2 ⊢
      by_cases ei : i = (z.1 + 1).toNatClampNeg
      · rw [ei, updS, updS]
        exact ⟨ht, fun q => hv q (by omega)⟩
      · rw [updN ei, updN ei]
        exact hk i q1 (by omega)
theorem tu_k {ty v a b : Int32} {z : cs_T} (h2 : 2 ≤ ty.toInt) (hz : tnB z) (hk : tOK ty z) : tOK ty (tuF v a b z).2 := by
  unfold tuF
  split
  · exact md_k hz hk (ok_1 h2) (fun q => absurd q (by decide))
  · split
    · split
      · exact hk
      · split
        · exact hk
        · exact hk
    · exact hk
theorem pv_k {ty : Int32} {i : Nat} {x : Int32 × cs_T} (hk : tOK ty x.2) : tOK ty (pvF i x) := by
  unfold pvF
  split
  · exact hk
  · exact hk
theorem g1_k {ty : Int32} {ar fa pm : Nat → Int32} {m f s : Int32} (h2 : 2 ≤ ty.toInt) : ∀ (n k : Nat) (x : (Nat → Int32) × cs_T), tnB x.2 → tOK ty x.2 → tOK ty (gv1 ar fa pm m f s n k x).2 := by
  intro n
  induction n with
  | zero => intro k x _ hk; exact hk
  | succ n ih => intro k x hz hk; exact ih (k + 1) _ (tu_x hz).2 (tu_k h2 hz hk)
theorem g2_k {ty : Int32} {ar fa my pm : Nat → Int32} {m f s pn row : Int32} (h2 : 2 ≤ ty.toInt) : ∀ (n k : Nat) (z : cs_T), tnB z → tOK ty z → tOK ty (gv2 ar fa my pm m f s pn row n k z) := by
  intro n
  induction n with
  | zero => intro k z _ hk; exact hk
  | succ n ih => intro k z hz hk; exact ih (k + 1) _ (pv_x.2 (tu_x hz).2) (pv_k (tu_k h2 hz hk))
/-- what a call does to the things -/
def exK (ty : Int32) (z y : cs_T) : Prop := exX z y ∧ tnB y ∧ tOK ty y
theorem gv_k {ty : Int32} {ar fa fy my pm : Nat → Int32} {m f s p : Int32} {x : (Nat → Int32) × cs_T} (h2 : 2 ≤ ty.toInt) (hz : tnB x.2) (hk : tOK ty x.2) (hp : ∀ i : Nat, okT ty (pm i)) (hs : 0 ≤ s.toInt ∧ s.toInt ≤ 1) (hfy : (fy f.toNatClampNeg).toInt ≤ 3) (hg : (p.toInt ≠ 3 ∧ 0 ≤ (my m.toNatClampNeg).toInt ∧ (my m.toNatClampNeg).toInt = (fy f.toNatClampNeg).toInt - s.toInt) ∨ (p.toInt = 3 ∧ 1 ≤ (my m.toNatClampNeg).toInt ∧ (my m.toNatClampNeg).toInt ≤ 3 ∧ (my m.toNatClampNeg).toInt ≤ (fy f.toNatClampNeg).toInt - s.toInt + 1)) : exK ty x.2 (gvF ar fa fy my pm m f s p x).2 := by
  unfold gvF
  split
  · have a := g1_x (ar := ar) (fa := fa) (pm := pm) (m := m) (f := f) (s := s) (my m.toNatClampNeg).toNatClampNeg 0 x hz
    exact ⟨a.1, a.2.1, g1_k h2 _ _ x hz hk⟩
  · have a := g1_x (ar := ar) (fa := fa) (pm := pm) (m := m) (f := f) (s := s) (my m.toNatClampNeg - 1).toNatClampNeg 0 x hz
    have b := g1_k (ar := ar) (fa := fa) (pm := pm) (m := m) (f := f) (s := s) h2 (my m.toNatClampNeg - 1).toNatClampNeg 0 x hz hk
    dsimp only
    generalize gv1 ar fa pm m f s (my m.toNatClampNeg - 1).toNatClampNeg 0 x = y at a b ⊢
    have e1 : (my m.toNatClampNeg - 1).toInt = (my m.toNatClampNeg).toInt - 1 := iSub rfl (by decide) (by omega) (by omega)
    have e2 : (fy f.toNatClampNeg - s).toInt = (fy f.toNatClampNeg).toInt - s.toInt := iSub rfl rfl (by omega) (by omega)
    have e3 : (fy f.toNatClampNeg - s - (my m.toNatClampNeg - 1)).toInt = (fy f.toNatClampNeg).toInt - s.toInt - ((my m.toNatClampNeg).toInt - 1) := by rw [iSub e2 e1 (by omega) (by omega)]
    have c := md_x (t := pm (3 * m + (my m.toNatClampNeg - 1)).toNatClampNeg) (v := fy f.toNatClampNeg - s - (my m.toNatClampNeg - 1)) a.2.1
    have d := md_k (t := pm (3 * m + (my m.toNatClampNeg - 1)).toNatClampNeg) (v := fy f.toNatClampNeg - s - (my m.toNatClampNeg - 1)) a.2.1 b (hp _) (fun _ _ => by omega)
    generalize mdF (pm (3 * m + (my m.toNatClampNeg - 1)).toNatClampNeg) (fy f.toNatClampNeg - s - (my m.toNatClampNeg - 1)) y.2 = w at c d ⊢
    have g := g2_x (ar := ar) (fa := fa) (my := my) (pm := pm) (m := m) (f := f) (s := s) (pn := my m.toNatClampNeg - 1) (row := w.1) ((fy f.toNatClampNeg - s).toNatClampNeg - (my m.toNatClampNeg - 1).toNatClampNeg) (my m.toNatClampNeg - 1).toNatClampNeg w.2 c.2.1
    exact ⟨ex_t a.1 (ex_t c.1 g.1), g.2, g2_k h2 _ _ w.2 c.2.1 d⟩
theorem md_K {ty t v : Int32} {z : cs_T} (hz : tnB z) (hk : tOK ty z) (ht : okT ty t) (hv : 20 ≤ t.toInt → z.2.1.toInt = 0 → 0 ≤ v.toInt ∧ v.toInt ≤ 20) : exK ty z (mdF t v z).2 := ⟨(md_x hz).1, (md_x hz).2.1, md_k hz hk ht hv⟩
theorem exK_r {ty : Int32} {z : cs_T} (hz : tnB z) (hk : tOK ty z) : exK ty z z := ⟨ex_r z, hz, hk⟩
theorem exK_t {ty : Int32} {x y z : cs_T} (h : exK ty x y) (k : exK ty y z) : exK ty x z := ⟨ex_t h.1 k.1, k.2⟩
theorem gi_k {ty : Int32} {na re my : Nat → Int32} {op : Prop} {m v cm : Int32} {z y : cs_T} (h2 : 2 ≤ ty.toInt) (hz : tnB z) (hk : tOK ty z) (hr : okT ty (re m.toNatClampNeg)) (hm : 0 ≤ (my m.toNatClampNeg).toInt ∧ (my m.toNatClampNeg).toInt ≤ 3) (h : giM na re my op m v z (cm, y)) : exK ty z y := by
  have z0 : (0 : Int32).toInt = 0 := by decide
  have p : ∀ {w : Int32 × cs_T}, (cm, y) = w → y = w.2 := fun q => congrArg Prod.snd q
  rcases h with ⟨_, h⟩ | ⟨_, _, h⟩ | ⟨_, _, h⟩ | ⟨_, _, h⟩ | ⟨_, _, h⟩ | ⟨_, ⟨_, h⟩ | ⟨_, h⟩⟩
  · rw [p h]; exact md_K hz hk hr (fun _ _ => by omega)
  · rw [p h]; exact exK_r hz hk
  · rw [p h]; exact md_K hz hk (ok_1 h2) (fun q => absurd q (by decide))
  · rw [p h]; exact exK_r hz hk
  · rw [p h]; exact md_K hz hk hr (fun _ _ => by omega)
  · rw [p h]; exact exK_r hz hk
  · rw [p h]; exact md_K hz hk hr (fun _ _ => by omega)
theorem rn_k {ty : Int32} {ar fa fy na re my pm ma : Nat → Int32} {op : Prop} {m f s p cm : Int32} {x y : (Nat → Int32) × cs_T} (h2 : 2 ≤ ty.toInt) (hz : tnB x.2) (hk : tOK ty x.2) (hp : ∀ i : Nat, okT ty (pm i)) (hs : 0 ≤ s.toInt ∧ s.toInt ≤ 1) (hfy : (fy f.toNatClampNeg).toInt ≤ 3) (hg : (p.toInt ≠ 3 ∧ 0 ≤ (my m.toNatClampNeg).toInt ∧ (my m.toNatClampNeg).toInt = (fy f.toNatClampNeg).toInt - s.toInt) ∨ (p.toInt = 3 ∧ 1 ≤ (my m.toNatClampNeg).toInt ∧ (my m.toNatClampNeg).toInt ≤ 3 ∧ (my m.toNatClampNeg).toInt ≤ (fy f.toNatClampNeg).toInt - s.toInt + 1)) (hr : okT ty (re m.toNatClampNeg)) (hm : 0 ≤ (my m.toNatClampNeg).toInt ∧ (my m.toNatClampNeg).toInt ≤ 3) (h : rnM ar fa fy na re my pm ma op m f s p x cm y) : exK ty x.2 y.2 := by
  have a := gv_k (ar := ar) (fa := fa) (m := m) h2 hz hk hp hs hfy hg
  unfold rnM at h
  generalize gvF ar fa fy my pm m f s p x = w at h a
  rcases h with ⟨_, _, h⟩ | ⟨_, h, _⟩
  · rw [h]; exact a
  · exact exK_t a (gi_k h2 a.2.1 a.2.2 hr hm h)
theorem sz_k {ty : Int32} {ar fa : Nat → Int32} {f row : Int32} {z : cs_T} (h2 : 2 ≤ ty.toInt) (hz : tnB z) (hk : tOK ty z) (hr : okT ty row) : exK ty z (szF ar fa f row z).2 := by
  have z0 : (0 : Int32).toInt = 0 := by decide
  have zm : (-22 : Int32).toInt = -22 := by decide
  have z2 : (-2 : Int32).toInt = -2 := by decide
  have a := tu_x (v := ar 0) (a := fa (3 * f).toNatClampNeg) (b := 10) hz
  have b := tu_k (v := ar 0) (a := fa (3 * f).toNatClampNeg) (b := 10) h2 hz hk
  unfold szF
  dsimp only
  generalize tuF (ar 0) (fa (3 * f).toNatClampNeg) 10 z = u at a b ⊢
  have c : tOK ty (u.2.1, (if u.2.2.1.toInt = 0 then (if u.1.toInt < 0 then (-22 : Int32) else if 20 < u.1.toInt then -2 else 0) else u.2.2.1), u.2.2.2) := b
  have d : exX z (u.2.1, (if u.2.2.1.toInt = 0 then (if u.1.toInt < 0 then (-22 : Int32) else if 20 < u.1.toInt then -2 else 0) else u.2.2.1), u.2.2.2) := a.1
  have g : tnB (u.2.1, (if u.2.2.1.toInt = 0 then (if u.1.toInt < 0 then (-22 : Int32) else if 20 < u.1.toInt then -2 else 0) else u.2.2.1), u.2.2.2) := a.2
  refine exK_t ⟨d, g, c⟩ (md_K g c hr (fun _ q => ?_))
  dsimp only at q
  split at q
  · split at q
    · omega
    · split at q
      · omega
      · omega
  · next e => exact absurd q e
theorem fn_k {ty due wh cm : Int32} {z : cs_T} (h2 : 2 ≤ ty.toInt) (hz : tnB z) (hk : tOK ty z) : exK ty z (fnF due wh cm z).2 := by
  unfold fnF
  split
  · exact exK_r hz hk
  · split
    · exact exK_r hz hk
    · split
      · exact md_K hz hk (ok_1 h2) (fun q => absurd q (by decide))
      · split
        · exact exK_r hz hk
        · exact exK_r hz hk
section
variable {mTy : Int32} {mPa mTo : Nat → Int32} {mTm mMn : Int32} {mOt mNa mRe mMa mMy mPm : Nat → Int32} {mFn : Int32} {mFy mFa mFr : Nat → Int32} {mRn : Int32} {mFo mRt mRm : Nat → Int32} {mTn : Int32} {mTt mTi : Nat → Int32} {mVn : Int32} {mVr mVf mVc : Nat → Int32} {mTr : Int32}
/-- more things -/
theorem iv_more (h : mIv mTy mPa mTo mTm mMn mOt mNa mRe mMa mMy mPm mFn mFy mFa mFr mRn mFo mRt mRm mTn mTt mTi mVn mVr mVf mVc mTr) {e0 n9 e9 : Int32} {p0 t9 i9 l9 : Nat → Int32} (k : exK mTy (mTn, e0, mTt, mTi, p0) (n9, e9, t9, i9, l9)) : mIv mTy mPa mTo mTm mMn mOt mNa mRe mMa mMy mPm mFn mFy mFa mFr mRn mFo mRt mRm n9 t9 i9 mVn mVr mVf mVc mTr := by
  obtain ⟨⟨k1, k2⟩, k3, k4⟩ := k
  dsimp only at k1 k2
  refine mIv.mk (ity := h.ity) (ipa := h.ipa) (ipt := h.ipt) (itm := h.itm) (ito := h.ito) (imn := h.imn) (imy := h.imy) (ivr := h.ivr) (imb := h.imb) (ipm := h.ipm) (imo := h.imo) (inc := h.inc) (ifn := h.ifn) (ifc := h.ifc) (ifa := h.ifa) (irn := h.irn) (irf := h.irf) (irw := h.irw) (itn := k3) (itk := k4) (ivn := h.ivn) (iva := ?_) (itr := h.itr)
  intro v q
  obtain ⟨q1, q2, q3, q4, q5⟩ := h.iva v q
  have hx := xN q3.1
  refine ⟨q1, q2, by omega, fun u => ⟨(q4 u).1, ?_⟩, q5⟩
  rw [(k2 (mVc v).toNatClampNeg (by omega)).1]
  exact (q4 u).2
/-- as many things as before -/
theorem iv_back (h : mIv mTy mPa mTo mTm mMn mOt mNa mRe mMa mMy mPm mFn mFy mFa mFr mRn mFo mRt mRm mTn mTt mTi mVn mVr mVf mVc mTr) {e0 n9 e9 : Int32} {p0 t9 i9 l9 : Nat → Int32} (k : exK mTy (mTn, e0, mTt, mTi, p0) (n9, e9, t9, i9, l9)) : mIv mTy mPa mTo mTm mMn mOt mNa mRe mMa mMy mPm mFn mFy mFa mFr mRn mFo mRt mRm mTn t9 i9 mVn mVr mVf mVc mTr := by
  obtain ⟨⟨k1, k2⟩, k3, k4⟩ := k
  dsimp only at k1 k2
  refine mIv.mk (ity := h.ity) (ipa := h.ipa) (ipt := h.ipt) (itm := h.itm) (ito := h.ito) (imn := h.imn) (imy := h.imy) (ivr := h.ivr) (imb := h.imb) (ipm := h.ipm) (imo := h.imo) (inc := h.inc) (ifn := h.ifn) (ifc := h.ifc) (ifa := h.ifa) (irn := h.irn) (irf := h.irf) (irw := h.irw) (itn := h.itn) (itk := ?_) (ivn := h.ivn) (iva := ?_) (itr := h.itr)
  · intro i q1 q2
    rw [(k2 i q2).1, (k2 i q2).2]
    exact h.itk i q1 q2
  · intro v q
    obtain ⟨q1, q2, q3, q4, q5⟩ := h.iva v q
    have hx := xN q3.1
    refine ⟨q1, q2, q3, fun u => ⟨(q4 u).1, ?_⟩, q5⟩
    rw [(k2 (mVc v).toNatClampNeg (by omega)).1]
    exact (q4 u).2
theorem iv_tr (h : mIv mTy mPa mTo mTm mMn mOt mNa mRe mMa mMy mPm mFn mFy mFa mFr mRn mFo mRt mRm mTn mTt mTi mVn mVr mVf mVc mTr) {x : Int32} (hx : 0 ≤ x.toInt ∧ x.toInt ≤ 50) : mIv mTy mPa mTo mTm mMn mOt mNa mRe mMa mMy mPm mFn mFy mFa mFr mRn mFo mRt mRm mTn mTt mTi mVn mVr mVf mVc x := mIv.mk (ity := h.ity) (ipa := h.ipa) (ipt := h.ipt) (itm := h.itm) (ito := h.ito) (imn := h.imn) (imy := h.imy) (ivr := h.ivr) (imb := h.imb) (ipm := h.ipm) (imo := h.imo) (inc := h.inc) (ifn := h.ifn) (ifc := h.ifc) (ifa := h.ifa) (irn := h.irn) (irf := h.irf) (irw := h.irw) (itn := h.itn) (itk := h.itk) (ivn := h.ivn) (iva := h.iva) (itr := hx)
theorem iv_clear (h : mIv mTy mPa mTo mTm mMn mOt mNa mRe mMa mMy mPm mFn mFy mFa mFr mRn mFo mRt mRm mTn mTt mTi mVn mVr mVf mVc mTr) : mIv mTy mPa mTo mTm mMn mOt mNa mRe mMa mMy mPm mFn mFy mFa mFr mRn mFo mRt mRm 0 mTt mTi 0 mVr mVf mVc 0 := by
  have z0 : (0 : Int32).toInt = 0 := by decide
  exact mIv.mk (ity := h.ity) (ipa := h.ipa) (ipt := h.ipt) (itm := h.itm) (ito := h.ito) (imn := h.imn) (imy := h.imy) (ivr := h.ivr) (imb := h.imb) (ipm := h.ipm) (imo := h.imo) (inc := h.inc) (ifn := h.ifn) (ifc := h.ifc) (ifa := h.ifa) (irn := h.irn) (irf := h.irf) (irw := h.irw) (itn := by omega) (itk := fun i q1 q2 => by omega) (ivn := by omega) (iva := fun v q => by omega) (itr := by omega)
/-- what is there of things, as one -/
theorem iv_tk (h : mIv mTy mPa mTo mTm mMn mOt mNa mRe mMa mMy mPm mFn mFy mFa mFr mRn mFo mRt mRm mTn mTt mTi mVn mVr mVf mVc mTr) (e0 : Int32) (p0 : Nat → Int32) : tnB (mTn, e0, mTt, mTi, p0) ∧ tOK mTy (mTn, e0, mTt, mTi, p0) := ⟨h.itn, h.itk⟩
theorem iv_thing (h : mIv mTy mPa mTo mTm mMn mOt mNa mRe mMa mMy mPm mFn mFy mFa mFr mRn mFo mRt mRm mTn mTt mTi mVn mVr mVf mVc mTr) {t v : Int32} (ht : okT mTy t) (h20 : t.toInt < 20) (h9 : mTn.toInt < 60) : mIv mTy mPa mTo mTm mMn mOt mNa mRe mMa mMy mPm mFn mFy mFa mFr mRn mFo mRt mRm (mTn + 1) (upd mTt (mTn + 1).toNatClampNeg t) (upd mTi (mTn + 1).toNatClampNeg v) mVn mVr mVf mVc mTr := by
  have k := md_K (t := t) (v := v) (iv_tk h 0 (fun _ => 0)).1 (iv_tk h 0 (fun _ => 0)).2 ht (fun q => by omega)
  rw [md_3 ⟨by decide, h9⟩] at k
  exact iv_more h k
theorem iv_make (h : mIv mTy mPa mTo mTm mMn mOt mNa mRe mMa mMy mPm mFn mFy mFa mFr mRn mFo mRt mRm mTn mTt mTi mVn mVr mVf mVc mTr) {r f v sc mp m : Int32} (hr : 0 ≤ r.toInt ∧ r.toInt < mRn.toInt) (hf : 0 ≤ f.toInt ∧ f.toInt < mFn.toInt) (hc : rcM mPa mTt mTn (mFo r.toNatClampNeg) (mRt r.toNatClampNeg) v) (hw : wmM mPa mOt mNa mRe mMy mPm mMa mFa mFy mFr mMn (mFo r.toNatClampNeg) (mRt r.toNatClampNeg) (mRm r.toNatClampNeg) f sc mp m) (hm : 0 ≤ m.toInt) (hn : ¬ ((mFo r.toNatClampNeg).toInt = 1 ∧ v.toInt = 0)) (h9 : mVn.toInt < 30) : mIv mTy mPa mTo mTm mMn mOt mNa mRe mMa mMy mPm mFn mFy mFa mFr mRn mFo mRt mRm mTn mTt mTi (mVn + 1) (upd mVr mVn.toNatClampNeg r) (upd mVf mVn.toNatClampNeg f) (upd mVc mVn.toNatClampNeg v) mTr := by
  have hvn := h.ivn
  have e : (mVn + 1).toInt = mVn.toInt + 1 := iAdd rfl (by decide) (by omega) (by omega)
  have hx := xN hvn.1
  have htn := h.itn
  refine mIv.mk (ity := h.ity) (ipa := h.ipa) (ipt := h.ipt) (itm := h.itm) (ito := h.ito) (imn := h.imn) (imy := h.imy) (ivr := h.ivr) (imb := h.imb) (ipm := h.ipm) (imo := h.imo) (inc := h.inc) (ifn := h.ifn) (ifc := h.ifc) (ifa := h.ifa) (irn := h.irn) (irf := h.irf) (irw := h.irw) (itn := h.itn) (itk := h.itk) (ivn := by omega) (iva := ?_) (itr := h.itr)
  intro u q
  by_cases eu : u = mVn.toNatClampNeg
  · rw [eu, updS, updS, updS]
    refine ⟨hr, hf, ?_, fun q1 => ?_, fun sc2 mp2 m2 q1 => by rw [← wm_d hw q1]; exact hm⟩
    · rcases hc with ⟨_, hc | ⟨hc, _⟩, _⟩ | ⟨_, hc⟩ <;> omega
    · rcases hc with ⟨_, hc | ⟨hc, hc2⟩, _⟩ | ⟨hc, _⟩
      · exact absurd ⟨q1, hc⟩ hn
      · exact ⟨hc.1, hc2⟩
      · omega
  · rw [updN eu, updN eu, updN eu]
    exact h.iva u (by omega)
/-- a call of a value is safe -/
theorem iv_safe (h : mIv mTy mPa mTo mTm mMn mOt mNa mRe mMa mMy mPm mFn mFy mFa mFr mRn mFo mRt mRm mTn mTt mTi mVn mVr mVf mVc mTr) {mAr mGo mPl : Nat → Int32} {v : Int32} (hv : 0 ≤ v.toInt ∧ v.toInt < mVn.toInt) (hag : agM mPa mTt mAr mFa mFy mTn (mVf v.toNatClampNeg) 0) : caS mPa mOt mNa mRe mMy mPm mMa mFa mFy mFr mAr mMn (mFo (mVr v.toNatClampNeg).toNatClampNeg) (mRt (mVr v.toNatClampNeg).toNatClampNeg) (mRm (mVr v.toNatClampNeg).toNatClampNeg) (mVf v.toNatClampNeg) (mVc v.toNatClampNeg) mGo mTn (mTt, mTi, mPl) := by
  have hx := xN hv.1
  obtain ⟨q1, q2, q3, q4, q5⟩ := h.iva v.toNatClampNeg (by omega)
  have hrf := rfD_at h.irf q1
  have hxr := xN q1.1
  have hfn := h.ifn
  have hty := h.ity
  refine ca_safe h.ipa h.imy h.ivr h.imn h.itn (by omega) (fcD_at h.ifc q2) (fun q => by have := hrf.2.1 q; omega) (fun q => h.irw _ (by omega) q) h.inc h.imb (fun i u1 u2 => (h.itk i u1 u2).2) (fun q => ?_) q5 hag
  exact ⟨⟨(q4 q).1, q3.2⟩, (q4 q).2⟩
/-- and what it does to the things -/
theorem iv_co (h : mIv mTy mPa mTo mTm mMn mOt mNa mRe mMa mMy mPm mFn mFy mFa mFr mRn mFo mRt mRm mTn mTt mTi mVn mVr mVf mVc mTr) {mAr mGo mPl : Nat → Int32} {v : Int32} (hv : 0 ≤ v.toInt ∧ v.toInt < mVn.toInt) (hag : agM mPa mTt mAr mFa mFy mTn (mVf v.toNatClampNeg) 0) {rn wh cm : Int32} {y : (Nat → Int32) × cs_T} (hco : coM mPa mOt mNa mRe mMy mPm mMa mFa mFy mFr mAr mMn (mFo (mVr v.toNatClampNeg).toNatClampNeg) (mRt (mVr v.toNatClampNeg).toNatClampNeg) (mRm (mVr v.toNatClampNeg).toNatClampNeg) (mVf v.toNatClampNeg) (mVc v.toNatClampNeg) mGo mTn (mTt, mTi, mPl) rn wh cm y) : exK mTy (mTn, 0, mTt, mTi, mPl) y.2 := by
  have hca := iv_safe (mGo := mGo) (mPl := mPl) h hv hag
  have hx := xN hv.1
  obtain ⟨q1, q2, q3, q4, q5⟩ := h.iva v.toNatClampNeg (by omega)
  have hz := fun e0 => iv_tk h e0 mPl
  have hk := rf_k h q1
  have hty := h.ity
  have hmn := h.imn
  have hfy := fcD_at h.ifc q2
  obtain ⟨sc, mp, m, c1, c2, ⟨c3, _, _, ⟨c4, c5⟩ | ⟨c4, c5⟩⟩ | ⟨c3, e0, s, c4, c5, c6⟩⟩ := hco
  · have c7 := congrArg Prod.snd c5
    dsimp only at c7
    rw [c7]
    refine sz_k hty.1 (hz 0).1 (hz 0).2 ?_
    rw [c2]
    by_cases e : (mRt (mVr v.toNatClampNeg).toNatClampNeg).toInt = 10
    · rw [cm_1 ⟨c4, e⟩]; exact Or.inr (Or.inr (by decide))
    · rw [cm_2 ⟨c4, e⟩]; exact hk.2.1 c4
  · have c7 := congrArg Prod.snd c5
    dsimp only at c7
    rw [c7]
    have z0 : (0 : Int32).toInt = 0 := by decide
    refine md_K (hz 0).1 (hz 0).2 ?_ (fun _ _ => by omega)
    rw [c2]
    by_cases e3 : (mFo (mVr v.toNatClampNeg).toNatClampNeg).toInt = 3
    · rw [cm_3 e3]; exact (hk.1 c4).1
    · exfalso
      obtain ⟨w1, d1, d2⟩ := c1
      have e99 : w1.toInt = 99 := by
        rcases d2 with ⟨_, d2⟩ | ⟨_, d2⟩ | ⟨_, d2⟩
        · rw [← d2]; exact c3
        · rw [← d2]; exact c3
        · rw [d2] at c3; exact absurd c3 (by decide)
      have one : ∀ {a b p q : Int32}, oneM mPa mOt mNa mMy mPm mMa mFa mFy mMn a b (mVf v.toNatClampNeg) p q → q.toInt = 99 → False := by
        rintro a b p q ⟨u, g1, ⟨_, g2⟩ | ⟨_, g2⟩ | ⟨_, _, g2⟩⟩ g3
        · rw [g2] at g3; exact absurd g3 (by decide)
        · rw [g2] at g3; exact absurd g3 (by decide)
        · subst g2
          have := (sr_tk g1 (by omega)).1
          omega
      have hfo := (rfD_at h.irf q1).1
      rcases d1 with ⟨b0, p1, u1, p2, u2, g1, g2, g3⟩ | ⟨b0, _, u, g1, ⟨_, g2⟩ | ⟨_, g2⟩⟩ | ⟨b0, _, u, g1, ⟨_, g2⟩ | ⟨_, g2⟩ | ⟨_, g2⟩ | ⟨_, g2⟩⟩ | ⟨b0, _⟩ | ⟨b0, _⟩
      · rcases g3 with ⟨_, g4, _⟩ | ⟨_, _, g4, _⟩ | ⟨_, _, _, _, _, g4⟩ | ⟨_, _, _, _, _, _, g4⟩ | ⟨_, _, _, _, _, _, g4⟩
        · rw [g4] at e99
          have := (sr_tk g1 (by omega)).1
          omega
        · rw [g4] at e99
          rcases g2 with ⟨_, g2⟩ | ⟨_, _, g2⟩
          · have := (sr_tk g2 (by omega)).1
            omega
          · rw [g2] at e99; exact absurd e99 (by decide)
        · rw [g4] at e99; exact absurd e99 (by decide)
        · rw [g4] at e99; exact absurd e99 (by decide)
        · rw [g4] at e99; exact absurd e99 (by decide)
      · rw [g2] at e99; exact absurd e99 (by decide)
      · rw [g2] at e99; exact one g1 e99
      · rw [g2] at e99; exact one g1 e99
      · rw [g2] at e99; exact absurd e99 (by decide)
      · rw [g2] at e99; exact absurd e99 (by decide)
      · rw [g2] at e99; exact one g1 e99
      · omega
      · omega
  · obtain ⟨y1, y2, y3, y4, y5, y6⟩ := hca.2 sc mp m e0 rn s c1 c3 c4 c5
    have hxr := xN y1.1
    have hs01 : 0 ≤ s.toInt ∧ s.toInt ≤ 1 := by rcases c4 with ⟨_, w⟩ | ⟨_, w⟩ <;> rw [w] <;> decide
    have k := rn_k (x := (mGo, mTn, e0, mTt, mTi, mPl)) hty.1 (hz e0).1 (hz e0).2 (fun i => pl_ok hty.1 (h.ipm i)) hs01 hfy.2 y3 (h.imo rn.toNatClampNeg (by omega)).2.1 (h.imy rn.toNatClampNeg (by omega)) c6
    exact k
end
end
section
/-! the class's types against the reference's -/
def upR (up pa : Nat → Int32) (ty : Int32) : Prop := (∀ t : Int32, xA up t ↔ anyT ty t) ∧ ∀ a b : Int32, anyT ty a → (0 ≤ b.toInt ∧ b.toInt ≤ 30) → (xU up a b ↔ uM pa a b = true)
theorem xU_b {up : Nat → Int32} {a b : Int32} (ha : 0 ≤ a.toInt ∧ a.toInt ≤ 30) (hb : 0 ≤ b.toInt ∧ b.toInt ≤ 30) : xU up a b ↔ bt (up a.toNatClampNeg) b.toNatClampNeg = true := by
  unfold xU
  rw [b_q hb.1 (by omega)]
  exact ⟨fun h => h.2, fun h => ⟨⟨ha, hb⟩, h⟩⟩
theorem any_b {ty t : Int32} (hty : 2 ≤ ty.toInt ∧ ty.toInt ≤ 10) (h : anyT ty t) : 0 ≤ t.toInt ∧ t.toInt ≤ 30 := by
  unfold anyT at h; omega
theorem up_0 : upR (upd (upd (upd (upd (upd (upd (upd (fun _ => 0) (0) 1) (1) 3) (10) 1024) (11) 2048) (20) 1048577) (21) 3145729) (30) 1073741825) (upd (upd (fun _ => 0) (0) (-4)) (1) 0) 2 := by
  have z2 : (2 : Int32).toInt = 2 := by decide
  have k1 : ∀ k : Nat, k < 31 → ((((upd (upd (upd (upd (upd (upd (upd (fun _ => 0) (0) 1) (1) 3) (10) 1024) (11) 2048) (20) 1048577) (21) 3145729) (30) 1073741825) k).toInt ≠ 0) ↔ ((k < 2 ∨ k = 10 ∨ (20 ≤ k ∧ k < 22) ∨ k = 30) ∨ k = 11)) := by decide +kernel
  have k2 : ∀ k : Nat, k < 31 → ((k < 2 ∨ k = 10 ∨ (20 ≤ k ∧ k < 22) ∨ k = 30) ∨ k = 11) → ∀ j : Nat, j < 31 → (bt ((upd (upd (upd (upd (upd (upd (upd (fun _ => 0) (0) 1) (1) 3) (10) 1024) (11) 2048) (20) 1048577) (21) 3145729) (30) 1073741825) k) j = true ↔ uM (upd (upd (fun _ => 0) (0) (-4)) (1) 0) (nI k) (nI j) = true) := by decide +kernel
  constructor
  · intro t
    unfold xA anyT
    by_cases ht : 0 ≤ t.toInt ∧ t.toInt ≤ 30
    · have hx := xN ht.1
      have := k1 t.toNatClampNeg (by omega)
      constructor
      · intro q; have := this.mp q.2; omega
      · intro q; exact ⟨ht, this.mpr (by omega)⟩
    · constructor
      · intro q; exact absurd q.1 ht
      · intro q; exfalso; omega
  · intro a b ha hb
    have ha2 := any_b (by omega) ha
    rw [xU_b ha2 hb]
    have hx := xN ha2.1
    have hy := xN hb.1
    have e1 : a = nI a.toNatClampNeg := xJ (by rw [nI_toInt (by omega), hx])
    have e2 : b = nI b.toNatClampNeg := xJ (by rw [nI_toInt (by omega), hy])
    have := k2 a.toNatClampNeg (by omega) (by unfold anyT at ha; omega) b.toNatClampNeg (by omega)
    rw [← e1, ← e2] at this
    exact this
theorem up_uM {pa : Nat → Int32} {ty t b : Int32} (hd : paD (upd pa ty.toNatClampNeg t)) (hty : 2 ≤ ty.toInt ∧ ty.toInt ≤ 9) (ht : 0 ≤ t.toInt ∧ t.toInt < ty.toInt) (hb : 0 ≤ b.toInt ∧ b.toInt ≤ 30) :
    (uM (upd pa ty.toNatClampNeg t) ty b = true ↔ b = ty ∨ uM (upd pa ty.toNatClampNeg t) t b = true) ∧ (uM (upd pa ty.toNatClampNeg t) (20 + ty) b = true ↔ b = 20 + ty ∨ uM (upd pa ty.toNatClampNeg t) (20 + t) b = true) := by
  have e1 : (20 + ty).toInt = 20 + ty.toInt := iAdd (by decide) rfl (by omega) (by omega)
  have e2 : (20 + t).toInt = 20 + t.toInt := iAdd (by decide) rfl (by omega) (by omega)
  have hm20 : (-20 : Int32).toInt = -20 := by decide
  have us : upd pa ty.toNatClampNeg t ty.toNatClampNeg = t := updS
  constructor
  · rw [uM_c (by omega), uM_c (by omega), uR_u hd, us]
    exact ⟨fun q => q.elim (fun q => Or.inl q.symm) (fun q => Or.inr q.2), fun q => q.elim (fun q => Or.inl q.symm) (fun q => Or.inr ⟨by omega, q⟩)⟩
  · by_cases b0 : b.toInt = 0
    · exact ⟨fun _ => Or.inr (uM_1 (by omega)), fun _ => uM_1 (by omega)⟩
    · by_cases b2 : 20 ≤ b.toInt ∧ b.toInt ≤ 29
      · have e3 : 20 + ty + -20 = ty := xJ (by rw [iAdd e1 hm20 (by omega) (by omega)]; omega)
        have e4 : 20 + t + -20 = t := xJ (by rw [iAdd e2 hm20 (by omega) (by omega)]; omega)
        have e5 : (b + -20).toInt = b.toInt + -20 := iAdd rfl hm20 (by omega) (by omega)
        rw [uM_2 (by omega) (by omega), uM_2 (by omega) (by omega), e3, e4, uR_u hd, us]
        constructor
        · rintro (q | q)
          · left
            have := congrArg Int32.toInt q
            exact xJ (by omega)
          · exact Or.inr q.2
        · rintro (q | q)
          · left
            have := congrArg Int32.toInt q
            exact xJ (by omega)
          · exact Or.inr ⟨by omega, q⟩
      · rw [uM_3 (by omega) (by omega), uM_3 (by omega) (by omega), uR_out (by omega) (by omega), uR_out (by omega) (by omega)]
        constructor
        · intro q; cases q
        · rintro (q | q)
          · have := congrArg Int32.toInt q; omega
          · cases q
theorem up_t {up pa : Nat → Int32} {ty t : Int32} (h : upR up pa ty) (hd0 : paD pa) (hd : paD (upd pa ty.toNatClampNeg t)) (hty : 2 ≤ ty.toInt ∧ ty.toInt ≤ 9) (ht : 0 ≤ t.toInt ∧ t.toInt < ty.toInt) :
    upR (upd (upd up ty.toNatClampNeg ((1 <<< (ty &&& 31)) ||| up t.toNatClampNeg)) (20 + ty).toNatClampNeg ((1 <<< ((20 + ty) &&& 31)) ||| (upd up ty.toNatClampNeg ((1 <<< (ty &&& 31)) ||| up t.toNatClampNeg)) (20 + t).toNatClampNeg)) (upd pa ty.toNatClampNeg t) (ty + 1) := by
  have e1 : (20 + ty).toInt = 20 + ty.toInt := iAdd (by decide) rfl (by omega) (by omega)
  have e2 : (20 + t).toInt = 20 + t.toInt := iAdd (by decide) rfl (by omega) (by omega)
  have e0 : (ty + 1).toInt = ty.toInt + 1 := iAdd rfl (by decide) (by omega) (by omega)
  have x1 := xN (x := ty) (by omega)
  have x2 := xN (x := t) (by omega)
  have x3 := xN (x := 20 + ty) (by omega)
  have x4 := xN (x := 20 + t) (by omega)
  have n1 : ty = nI ty.toNatClampNeg := xJ (by rw [nI_toInt (by omega), x1])
  have n3 : 20 + ty = nI (20 + ty).toNatClampNeg := xJ (by rw [nI_toInt (by omega), x3])
  have hu : ∀ b : Int32, (0 ≤ b.toInt ∧ b.toInt ≤ 30) → (bt ((1 <<< (ty &&& 31)) ||| up t.toNatClampNeg) b.toNatClampNeg = true ↔ b = ty ∨ xU up t b) := by
    intro b hb
    have y := xN hb.1
    rw [b_or, xU_b (by omega) hb]
    conv => lhs; rw [n1]
    rw [b_1 _ (by omega) (by omega), Bool.or_eq_true, decide_eq_true_eq]
    exact or_congr ⟨fun q => xJ (by omega), fun q => by rw [q]⟩ Iff.rfl
  have hv : ∀ b : Int32, (0 ≤ b.toInt ∧ b.toInt ≤ 30) → (bt ((1 <<< ((20 + ty) &&& 31)) ||| up (20 + t).toNatClampNeg) b.toNatClampNeg = true ↔ b = 20 + ty ∨ xU up (20 + t) b) := by
    intro b hb
    have y := xN hb.1
    rw [b_or, xU_b (by omega) hb]
    conv => lhs; rw [n3]
    rw [b_1 _ (by omega) (by omega), Bool.or_eq_true, decide_eq_true_eq]
    exact or_congr ⟨fun q => xJ (by omega), fun q => by rw [q]⟩ Iff.rfl
  have ut : (upd up ty.toNatClampNeg ((1 <<< (ty &&& 31)) ||| up t.toNatClampNeg)) (20 + t).toNatClampNeg = up (20 + t).toNatClampNeg := updN (by omega)
  rw [ut]
  generalize hA : (1 <<< (ty &&& 31)) ||| up t.toNatClampNeg = A at hu
  generalize hB : (1 <<< ((20 + ty) &&& 31)) ||| up (20 + t).toNatClampNeg = B at hv
  have vB : (upd (upd up ty.toNatClampNeg A) (20 + ty).toNatClampNeg B) (20 + ty).toNatClampNeg = B := updS
  have vA : (upd (upd up ty.toNatClampNeg A) (20 + ty).toNatClampNeg B) ty.toNatClampNeg = A := (updN (by omega)).trans updS
  have vo : ∀ x : Int32, 0 ≤ x.toInt → x.toInt ≠ ty.toInt → x.toInt ≠ 20 + ty.toInt → (upd (upd up ty.toNatClampNeg A) (20 + ty).toNatClampNeg B) x.toNatClampNeg = up x.toNatClampNeg := by
    intro x q q1 q2
    have y := xN q
    exact (updN (by omega)).trans (updN (by omega))
  have hU := uM_n (t := t) hd0 hty
  constructor
  · intro x
    by_cases q : 0 ≤ x.toInt
    · by_cases q1 : x.toInt = ty.toInt
      · have e := xJ q1
        subst e
        unfold xA
        rw [vA]
        exact ⟨fun _ => by unfold anyT; omega, fun _ => ⟨by omega, b_ne ((hu x (by omega)).mpr (Or.inl rfl))⟩⟩
      · by_cases q2 : x.toInt = 20 + ty.toInt
        · have e : x = 20 + ty := xJ (by omega)
          subst e
          unfold xA
          rw [vB]
          exact ⟨fun _ => by unfold anyT; omega, fun _ => ⟨by omega, b_ne ((hv _ (by omega)).mpr (Or.inl rfl))⟩⟩
        · have k := h.1 x
          unfold xA at k ⊢
          rw [vo x q q1 q2, k]
          unfold anyT
          omega
    · unfold xA anyT
      omega
  · intro a b ha hb
    have ha2 := any_b (by omega) ha
    obtain ⟨w1, w2⟩ := up_uM hd hty ht hb
    rw [xU_b ha2 hb]
    by_cases q1 : a.toInt = ty.toInt
    · have e := xJ q1
      subst e
      rw [vA, hu b hb, w1, h.2 t b (by unfold anyT; omega) hb, hU t b (Or.inl (by omega))]
    · by_cases q2 : a.toInt = 20 + ty.toInt
      · have e : a = 20 + ty := xJ (by omega)
        subst e
        rw [vB, hv b hb, w2, h.2 (20 + t) b (by unfold anyT; omega) hb, hU (20 + t) b (Or.inr (Or.inl (by omega)))]
      · have hk : anyT ty a := by unfold anyT at ha ⊢; omega
        rw [vo a ha2.1 q1 q2, ← xU_b ha2 hb, h.2 a b hk hb, hU a b (by unfold anyT at hk; unfold okT; omega)]
theorem up_L {up pa : Nat → Int32} {ty a b : Int32} (h : upR up pa ty) (hty : 2 ≤ ty.toInt) (ha : anyT ty a) (hb : 0 ≤ b.toInt ∧ b.toInt ≤ 30) : xL up a b ↔ lM pa a b := by
  unfold xL lM
  have z1 : (1 : Int32).toInt = 1 := by decide
  rw [h.2 a b ha hb, h.2 1 b (by unfold anyT; omega) hb]
end
