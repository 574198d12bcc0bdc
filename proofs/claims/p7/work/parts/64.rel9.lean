/-! receivers, arguments -/
/-- a receiver -/
theorem rv_x {up pa tt : Nat → Int32} {ty tn fo t w v : Int32} (hU : upR up pa ty) (hty : 2 ≤ ty.toInt ∧ ty.toInt ≤ 10) (hf : rfR ty fo t w) (hkd : ∀ i : Nat, 1 ≤ i → (i : Int) ≤ tn.toInt → kdT ty (tt i)) : rcM pa tt tn fo t v ↔ (rvX up tt tn fo t v ∧ ¬ (fo.toInt = 2 ∧ v.toInt = 0)) := by
  obtain ⟨g1, g2, g3, g4, g5⟩ := hf
  have hu : (1 ≤ v.toInt ∧ v.toInt ≤ tn.toInt) → fo.toInt ≠ 4 → (xU up (tt v.toNatClampNeg) t ↔ uM pa (tt v.toNatClampNeg) t = true) := fun q k => by
    have hx := xN (x := v) (by omega)
    have ht := g2 k
    exact hU.2 _ _ (kd_any (hkd _ (by omega) (by omega))) (by omega)
  unfold rcM rvX tuX
  constructor
  · rintro (⟨q1, q2 | q2, q3⟩ | ⟨q1, q2⟩)
    · exact ⟨Or.inl q2, q3⟩
    · exact ⟨Or.inr ⟨by omega, q2.1, (hu q2.1 (by omega)).mpr q2.2⟩, q3⟩
    · exact ⟨Or.inl q2, by omega⟩
  · rintro ⟨q1 | ⟨q1, q2, q3⟩, q4⟩
    · by_cases k : 1 ≤ fo.toInt ∧ fo.toInt ≤ 2
      · exact Or.inl ⟨k, Or.inl q1, q4⟩
      · exact Or.inr ⟨by omega, q1⟩
    · exact Or.inl ⟨by omega, Or.inr ⟨q2, (hu q2 (by omega)).mp q3⟩, q4⟩
/-- the arguments suit -/
theorem ds_x {up pa tt ar fy fa fr : Nat → Int32} {ty tn f : Int32} (hU : upR up pa ty) (hty : 2 ≤ ty.toInt ∧ ty.toInt ≤ 10) (hF : fcR ty fy fa fr f) (hkd : ∀ i : Nat, 1 ≤ i → (i : Int) ≤ tn.toInt → kdT ty (tt i)) : dsL up tt ar tn (fy f.toNatClampNeg).toNatClampNeg (cutF fy fa f.toNatClampNeg) 0 ↔ agM pa tt ar fa fy tn f 0 := by
  obtain ⟨hff, hfy, hA, hfr⟩ := hF
  have hQ := xN hfy.1
  have hc : ∀ j : Nat, (j : Int) < (fy f.toNatClampNeg).toInt → cutF fy fa f.toNatClampNeg j = fa (3 * f + nI j).toNatClampNeg := fun j q => by
    have z0 : (0 : Int32).toInt = 0 := by decide
    have := cutA (ty := ty) (fy := fy) (fa := fa) (f := f) (s := 0) (j := j) hff hfy (Or.inl rfl) (by omega)
    rw [Int32.add_zero, show (0 : Int32).toNatClampNeg + j = j by rw [show (0 : Int32).toNatClampNeg = 0 by decide]; omega] at this
    exact this
  have hu : ∀ (v a : Int32), plT ty a → (1 ≤ v.toInt ∧ v.toInt ≤ tn.toInt) → (xU up (tt v.toNatClampNeg) a ↔ uM pa (tt v.toNatClampNeg) a = true) := fun v a ha q => by
    have hx := xN (x := v) (by omega)
    exact hU.2 _ _ (kd_any (hkd _ (by omega) (by omega))) (pl_b hty.2 ha)
  constructor
  · intro h j q1 q2 q3
    have hj : (nI j).toNatClampNeg = j := nI_c (by omega)
    rw [hj]
    have h2 := h j q1 (by omega)
    rw [hc j q2] at h2
    rcases Classical.em ((ar j).toInt = 0) with e | e
    · exact Or.inl e
    · obtain ⟨k1, k2⟩ := h2 q3 e
      exact Or.inr ⟨k1, (hu _ _ (hA _) k1).mp k2⟩
  · intro h j q1 q2 q3 q4
    have hj : (nI j).toNatClampNeg = j := nI_c (by omega)
    rw [hc j (by omega)] at q3 ⊢
    have h2 := h j q1 (by omega) q3
    rw [hj] at h2
    obtain ⟨k1, k2⟩ := h2.resolve_left q4
    exact ⟨k1, (hu _ _ (hA _) k1).mpr k2⟩
/-! one by one -/
theorem cP_c {P P' : Nat → Prop} : ∀ k : Nat, (∀ b : Nat, b < k → (P b ↔ P' b)) → cP P k = cP P' k := by
  intro k
  induction k with
  | zero => intro _; rfl
  | succ k ih =>
    intro h
    have e := ih (fun b q => h b (by omega))
    by_cases q : P k
    · rw [cP_y q, cP_y ((h k (by omega)).mp q), e]
    · rw [cP_n q, cP_n (fun z => q ((h k (by omega)).mpr z)), e]
theorem cP_m {P : Nat → Prop} {k : Nat} : ∀ l : Nat, k ≤ l → cP P k ≤ cP P l := by
  intro l
  induction l with
  | zero =>
    intro q
    rw [show k = 0 by omega]
    exact Nat.le_refl _
  | succ l ih =>
    intro q
    rcases Nat.eq_or_lt_of_le q with e | e
    · rw [e]; exact Nat.le_refl _
    · have := ih (by omega)
      by_cases w : P l
      · rw [cP_y w]; omega
      · rw [cP_n w]; omega
theorem cP_lt {P : Nat → Prop} {k l : Nat} (h : P k) (q : k < l) : cP P k < cP P l := by
  have e := cP_m (P := P) (k := k + 1) l (by omega)
  rw [cP_y h] at e
  omega
theorem nth_e {P P' : Nat → Prop} {mn i r r' : Int32} (h : ∀ b : Nat, (b : Int) < mn.toInt → (P b ↔ P' b)) (a : nthP P mn i r) (b : nthP P' mn i r') : r = r' := by
  have hc : ∀ x : Nat, (x : Int) < mn.toInt → cP P x = cP P' x := fun x q => cP_c x (fun y q2 => h y (by omega))
  rcases a with ⟨x, x1, x2, x3, x4⟩ | ⟨x1, x2⟩ <;> rcases b with ⟨y, y1, y2, y3, y4⟩ | ⟨y1, y2⟩
  · have e : x = y := by
      have hy := (h y y1).mpr y2
      have ey := hc y y1
      rcases Nat.lt_trichotomy x y with e | e | e
      · have := cP_lt x2 e
        omega
      · exact e
      · have := cP_lt hy e
        omega
    rw [x4, y4, e]
  · exact absurd x3 (by rw [hc x x1]; exact y1 x x1 ((h x x1).mp x2))
  · exact absurd y3 (by rw [← hc y y1]; exact x1 y y1 ((h y y1).mpr y2))
  · rw [x2, y2]
