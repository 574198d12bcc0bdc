/-! what kinds are made, how a call can end -/
def gK (K : Int32 → Prop) (z : cs_T) : Prop := tnB z ∧ (∀ i : Nat, 1 ≤ i → (i : Int) ≤ z.1.toInt → K (z.2.2.1 i)) ∧ (z.2.1.toInt = 0 ∨ z.2.1.toInt = -2 ∨ z.2.1.toInt = -21 ∨ z.2.1.toInt = -22)
theorem md_g {K : Int32 → Prop} {t v : Int32} {z : cs_T} (ht : K t) (h : gK K z) : gK K (mdF t v z).2 := by
  have hb0 := h.1
  unfold tnB at hb0
  refine ⟨(md_x h.1).2.1, ?_⟩
  unfold mdF
  split
  · exact h.2
  · split
    · exact ⟨h.2.1, Or.inr (Or.inl (show (-2 : Int32).toInt = -2 by decide))⟩
    · refine ⟨fun i q1 q2 => ?_, h.2.2⟩
      have e1 : (z.1 + 1).toInt = z.1.toInt + 1 := iAdd rfl (by decide) (by omega) (by omega)
      have hx := xN (x := z.1 + 1) (by omega)
      have q3 : (i : Int) ≤ (z.1 + 1).toInt := q2
      show K (upd z.2.2.1 (z.1 + 1).toNatClampNeg t i)
      by_cases ei : i = (z.1 + 1).toNatClampNeg
      · rw [ei, updS]; exact ht
      · rw [updN ei]; exact h.2.1 i q1 (by omega)
theorem tu_g {K : Int32 → Prop} {v a b : Int32} {z : cs_T} (h1 : K 1) (h : gK K z) : gK K (tuF v a b z).2 := by
  obtain ⟨tn, en, tt, ti, pl⟩ := z
  by_cases q : a.toInt = 10 ∧ b.toInt ≠ 10
  · rw [tu_1 q]; exact md_g h1 h
  · by_cases q2 : a.toInt ≠ 10 ∧ b.toInt = 10
    · by_cases q4 : en.toInt = 0
      · by_cases q3 : v.toInt = 0
        · rw [tu_2 q2 ⟨q4, q3⟩]; exact ⟨h.1, h.2.1, Or.inr (Or.inr (Or.inl (show (-21 : Int32).toInt = -21 by decide)))⟩
        · rw [tu_3 q2 (by omega) q4]; exact h
      · rw [tu_4 q2 q4]; exact h
    · rw [tu_5 q q2]; exact h
theorem pv_g {K : Int32 → Prop} {i : Nat} {x : Int32 × cs_T} (h : gK K x.2) : gK K (pvF i x) := by
  unfold pvF
  split
  · exact ⟨h.1, h.2.1, h.2.2⟩
  · exact h
theorem g1_g {K : Int32 → Prop} {ar fa pm : Nat → Int32} {m f s : Int32} (h1 : K 1) : ∀ (n k : Nat) (x : (Nat → Int32) × cs_T), gK K x.2 → gK K (gv1 ar fa pm m f s n k x).2 := by
  intro n
  induction n with
  | zero => intro k x h; exact h
  | succ n ih => intro k x h; exact ih (k + 1) _ (tu_g h1 h)
theorem g2_g {K : Int32 → Prop} {ar fa my pm : Nat → Int32} {m f s pn row : Int32} (h1 : K 1) : ∀ (n k : Nat) (z : cs_T), gK K z → gK K (gv2 ar fa my pm m f s pn row n k z) := by
  intro n
  induction n with
  | zero => intro k z h; exact h
  | succ n ih => intro k z h; exact ih (k + 1) _ (pv_g (tu_g h1 h))
theorem gv_g {K : Int32 → Prop} {ar fa fy my pm : Nat → Int32} {m f s p : Int32} {x : (Nat → Int32) × cs_T} (h1 : K 1) (hp : p.toInt = 3 → K (pm (3 * m + (my m.toNatClampNeg - 1)).toNatClampNeg)) (h : gK K x.2) : gK K (gvF ar fa fy my pm m f s p x).2 := by
  unfold gvF
  by_cases h3 : p.toInt = 3
  · rw [if_neg (fun w => w h3)]
    dsimp only
    exact g2_g h1 _ _ _ (md_g (hp h3) (g1_g h1 _ 0 x h))
  · rw [if_pos h3]
    exact g1_g h1 _ 0 x h
theorem gi_g {K : Int32 → Prop} {na re my : Nat → Int32} {op : Prop} {m v cm : Int32} {z y : cs_T} (h1 : K 1) (hr : (re m.toNatClampNeg).toInt ≠ 10 → (re m.toNatClampNeg).toInt ≠ 11 → K (re m.toNatClampNeg)) (h6 : (na m.toNatClampNeg).toInt = 6 → (re m.toNatClampNeg).toInt ≠ 10 ∧ (re m.toNatClampNeg).toInt ≠ 11) (h : gK K z) (k : giM na re my op m v z (cm, y)) : gK K y := by
  have p : ∀ {x : Int32 × cs_T}, (cm, y) = x → y = x.2 := fun q => congrArg Prod.snd q
  rcases k with ⟨k1, k⟩ | ⟨_, k1, k⟩ | ⟨_, k1, k⟩ | ⟨_, k1, k⟩ | ⟨_, k1, k⟩ | ⟨k1, ⟨_, k⟩ | ⟨_, k⟩⟩
  · rw [p k]; exact md_g (hr (h6 k1).1 (h6 k1).2) h
  · rw [p k]; exact h
  · rw [p k]; exact md_g h1 h
  · rw [p k]; exact h
  · rw [p k]; exact md_g (hr (by omega) (by omega)) h
  · rw [p k]; exact h
  · rw [p k]; exact md_g (hr k1.2.1 k1.2.2.2.1) h
theorem rn_g {K : Int32 → Prop} {ar fa fy na re my pm ma : Nat → Int32} {op : Prop} {m f s p cm : Int32} {x y : (Nat → Int32) × cs_T} (h1 : K 1) (hp : p.toInt = 3 → K (pm (3 * m + (my m.toNatClampNeg - 1)).toNatClampNeg)) (hr : (re m.toNatClampNeg).toInt ≠ 10 → (re m.toNatClampNeg).toInt ≠ 11 → K (re m.toNatClampNeg)) (h6 : (na m.toNatClampNeg).toInt = 6 → (re m.toNatClampNeg).toInt ≠ 10 ∧ (re m.toNatClampNeg).toInt ≠ 11) (h : gK K x.2) (k : rnM ar fa fy na re my pm ma op m f s p x cm y) : gK K y.2 := by
  have a := gv_g (ar := ar) (fa := fa) (fy := fy) (f := f) (s := s) h1 hp h
  rcases k with ⟨_, _, k⟩ | ⟨_, k, _⟩
  · rw [k]; exact a
  · exact gi_g h1 hr h6 a k
theorem sz_g {K : Int32 → Prop} {ar fa : Nat → Int32} {f row : Int32} {z : cs_T} (h1 : K 1) (hr : K row) (h : gK K z) : gK K (szF ar fa f row z).2 := by
  unfold szF
  dsimp only
  have a := tu_g (v := ar 0) (a := fa (3 * f).toNatClampNeg) (b := 10) h1 h
  generalize tuF (ar 0) (fa (3 * f).toNatClampNeg) 10 z = u at *
  refine md_g hr ⟨a.1, a.2.1, ?_⟩
  dsimp only
  split
  · split
    · exact Or.inr (Or.inr (Or.inr (by decide)))
    · split
      · exact Or.inr (Or.inl (by decide))
      · exact Or.inl (by decide)
  · exact a.2.2
theorem fn_g {K : Int32 → Prop} {due wh cm : Int32} {z : cs_T} (h1 : K 1) (h : gK K z) : gK K (fnF due wh cm z).2 := by
  unfold fnF
  split
  · exact h
  · split
    · exact h
    · split
      · exact md_g h1 h
      · split
        · exact h
        · exact h
