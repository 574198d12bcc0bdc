/-! rows for runs of the plain machine -/
theorem pm_callD {y z : Nat} {f : pm_F} {Q : pm_Q} {as rest : List Value} (h : pm_D y f = .inr (.inr (.inr (.inl (true, z, as, rest))))) (k : pm_WP z (0, lv_args 0 as, [], f.2.2.2.1, pm_bc z, pm_bs z) (fun r G => pm_WP y (f.1 + 3, f.2.1, r.toList ++ rest, G, f.2.2.2.2.1 - pm_bc z, f.2.2.2.2.2 - pm_bs z) Q)) : pm_WP y f Q := pm_call h _ k (fun _ _ q => q)
theorem pm_brT {y : Nat} {f g h : pm_F} {Q : pm_Q} (e : pm_D y f = .inr (.inl (true, g, h))) (k : pm_WP y g Q) : pm_WP y f Q := pm_if2 e (fun _ => k) (fun q => by cases q)
theorem pm_brF {y : Nat} {f g h : pm_F} {Q : pm_Q} (e : pm_D y f = .inr (.inl (false, g, h))) (k : pm_WP y h Q) : pm_WP y f Q := pm_if2 e (fun q => by cases q) (fun _ => k)
theorem pm_cons {y : Nat} {f : pm_F} {Q Q' : pm_Q} (h : pm_WP y f Q') (k : ∀ r G, Q' r G → Q r G) : pm_WP y f Q := by
  have gen : ∀ (y : Nat) (f : pm_F) (Q' : pm_Q), pm_WP y f Q' → ∀ Q : pm_Q, (∀ r G, Q' r G → Q r G) → pm_WP y f Q := by
    intro y f Q' h
    refine h (fun y f Q' => ∀ Q : pm_Q, (∀ r G, Q' r G → Q r G) → pm_WP y f Q) ?_
    intro y f Q' h Q k
    refine pm_step ?_
    unfold pm_N at h ⊢
    unfold pm_K at h ⊢
    split at h
    · exact ⟨h.1, h.2 Q k⟩
    · exact ⟨fun z => h.1 z Q k, fun z => h.2 z Q k⟩
    · exact ⟨h.1, k _ _ h.2⟩
    · obtain ⟨h1, Q2, h2, h3⟩ := h
      exact ⟨h1, Q2, h2 Q2 (fun _ _ q => q), fun r G q => h3 r G q Q k⟩
    · exact h
  exact gen y f Q' h Q k

theorem xI {a v : Int32} {c : Int} (hc : v.toInt = c) (h : a.toInt = c) : a = v := Int32.toInt_inj.mp (h.trans hc.symm)
theorem pm_inI {i : Int32} {n : Nat} (h0 : 0 ≤ i.toInt) (h1 : i.toInt < n) : pm_in i n = true := by
  have e1 : (i.toNatClampNeg : Int) = i.toInt := Int.toNat_of_nonneg h0
  have g0 : ¬ i < 0 := fun q => by
    have q := Int32.lt_iff_toInt_lt.mp q
    simp at q
    omega
  unfold pm_in
  rw [show Nat.blt i.toNatClampNeg n = true from Nat.ble_eq_true_of_le (by omega)]
  simp [g0]
theorem pm_goE {y : Nat} {f g : pm_F} {Q : pm_Q} (h : pm_D y f = .inl (true, g)) (k : pm_WP y g Q) : pm_WP y f Q := pm_go h k
theorem pm_ifT {y : Nat} {f g h : pm_F} {Q : pm_Q} {t : Bool} (e : pm_D y f = .inr (.inl (t, g, h))) (ht : t = true) (k : pm_WP y g Q) : pm_WP y f Q := pm_if2 e (fun _ => k) (fun q => by rw [ht] at q; cases q)
theorem pm_ifF {y : Nat} {f g h : pm_F} {Q : pm_Q} {t : Bool} (e : pm_D y f = .inr (.inl (t, g, h))) (ht : t = false) (k : pm_WP y h Q) : pm_WP y f Q := pm_if2 e (fun q => by rw [ht] at q; cases q) (fun _ => k)
theorem pm_tswO {pc tgt : Nat} {d lo hi : Int} {offs : Array Int} {x : Int32} (ht : ((pc : Int) + d).toNat = tgt) (h : x.toInt < lo ∨ hi < x.toInt) : pm_tsw pc d lo hi offs x = tgt := by
  unfold pm_tsw
  rw [if_pos h, ht]
theorem pm_swO {y pc tgt a b : Nat} {lv : pm_L} {st : List Value} {G : pm_H} {c n : Nat} {d lo hi : Int} {offs : Array Int} {x : Int32} (ht : ((pc : Int) + d).toNat = tgt) (hk : pm_k y pc = some (.tableswitch d lo hi offs, a, b)) (h : x.toInt < lo ∨ hi < x.toInt) : pm_D y (pc, lv, .int x :: st, G, c, n) = .inl (true, (tgt, lv, st, G, c, n)) := by
  unfold pm_D
  dsimp only
  rw [hk]
  show pm_ok (pm_tsw pc d lo hi offs x, lv, st, G, c, n) = _
  rw [pm_tswO ht h]
  rfl
theorem pq_eq {x y : Int32} : pm_cmp .eq x y = true ↔ (x.toInt = y.toInt) := by
  show decide (x = y) = true ↔ _
  simp only [decide_eq_true_eq, Int32.toInt_inj]
theorem qT_eq {x y : Int32} {cx cy : Int} (hx : x.toInt = cx) (hy : y.toInt = cy) (h : pm_cmp .eq x y = true) : cx = cy := by
  have q := pq_eq.mp h
  omega
theorem qF_eq {x y : Int32} {cx cy : Int} (hx : x.toInt = cx) (hy : y.toInt = cy) (h : pm_cmp .eq x y = false) : cx ≠ cy := by
  have q : ¬ (pm_cmp .eq x y = true) := by rw [h]; decide
  rw [pq_eq] at q
  omega
theorem rT_eq {x y : Int32} {cx cy : Int} (hx : x.toInt = cx) (hy : y.toInt = cy) (h : cx = cy) : pm_cmp .eq x y = true := pq_eq.mpr (by omega)
theorem rF_eq {x y : Int32} {cx cy : Int} (hx : x.toInt = cx) (hy : y.toInt = cy) (h : cx ≠ cy) : pm_cmp .eq x y = false := by
  cases e : pm_cmp .eq x y with
  | false => rfl
  | true =>
    have q := pq_eq.mp e
    omega
theorem pq_ne {x y : Int32} : pm_cmp .ne x y = true ↔ (x.toInt ≠ y.toInt) := by
  show (!(decide (x = y))) = true ↔ _
  simp only [Bool.not_eq_true', decide_eq_false_iff_not, ne_eq, Int32.toInt_inj]
theorem qT_ne {x y : Int32} {cx cy : Int} (hx : x.toInt = cx) (hy : y.toInt = cy) (h : pm_cmp .ne x y = true) : cx ≠ cy := by
  have q := pq_ne.mp h
  omega
theorem qF_ne {x y : Int32} {cx cy : Int} (hx : x.toInt = cx) (hy : y.toInt = cy) (h : pm_cmp .ne x y = false) : cx = cy := by
  have q : ¬ (pm_cmp .ne x y = true) := by rw [h]; decide
  rw [pq_ne] at q
  omega
theorem rT_ne {x y : Int32} {cx cy : Int} (hx : x.toInt = cx) (hy : y.toInt = cy) (h : cx ≠ cy) : pm_cmp .ne x y = true := pq_ne.mpr (by omega)
theorem rF_ne {x y : Int32} {cx cy : Int} (hx : x.toInt = cx) (hy : y.toInt = cy) (h : cx = cy) : pm_cmp .ne x y = false := by
  cases e : pm_cmp .ne x y with
  | false => rfl
  | true =>
    have q := pq_ne.mp e
    omega
theorem pq_lt {x y : Int32} : pm_cmp .lt x y = true ↔ (x.toInt < y.toInt) := by
  show decide (x < y) = true ↔ _
  simp only [decide_eq_true_eq, Int32.lt_iff_toInt_lt]
theorem qT_lt {x y : Int32} {cx cy : Int} (hx : x.toInt = cx) (hy : y.toInt = cy) (h : pm_cmp .lt x y = true) : cx < cy := by
  have q := pq_lt.mp h
  omega
theorem qF_lt {x y : Int32} {cx cy : Int} (hx : x.toInt = cx) (hy : y.toInt = cy) (h : pm_cmp .lt x y = false) : cy ≤ cx := by
  have q : ¬ (pm_cmp .lt x y = true) := by rw [h]; decide
  rw [pq_lt] at q
  omega
theorem rT_lt {x y : Int32} {cx cy : Int} (hx : x.toInt = cx) (hy : y.toInt = cy) (h : cx < cy) : pm_cmp .lt x y = true := pq_lt.mpr (by omega)
theorem rF_lt {x y : Int32} {cx cy : Int} (hx : x.toInt = cx) (hy : y.toInt = cy) (h : cy ≤ cx) : pm_cmp .lt x y = false := by
  cases e : pm_cmp .lt x y with
  | false => rfl
  | true =>
    have q := pq_lt.mp e
    omega
theorem pq_ge {x y : Int32} : pm_cmp .ge x y = true ↔ (y.toInt ≤ x.toInt) := by
  show decide (y ≤ x) = true ↔ _
  simp only [decide_eq_true_eq, Int32.le_iff_toInt_le]
theorem qT_ge {x y : Int32} {cx cy : Int} (hx : x.toInt = cx) (hy : y.toInt = cy) (h : pm_cmp .ge x y = true) : cy ≤ cx := by
  have q := pq_ge.mp h
  omega
theorem qF_ge {x y : Int32} {cx cy : Int} (hx : x.toInt = cx) (hy : y.toInt = cy) (h : pm_cmp .ge x y = false) : cx < cy := by
  have q : ¬ (pm_cmp .ge x y = true) := by rw [h]; decide
  rw [pq_ge] at q
  omega
theorem rT_ge {x y : Int32} {cx cy : Int} (hx : x.toInt = cx) (hy : y.toInt = cy) (h : cy ≤ cx) : pm_cmp .ge x y = true := pq_ge.mpr (by omega)
theorem rF_ge {x y : Int32} {cx cy : Int} (hx : x.toInt = cx) (hy : y.toInt = cy) (h : cx < cy) : pm_cmp .ge x y = false := by
  cases e : pm_cmp .ge x y with
  | false => rfl
  | true =>
    have q := pq_ge.mp e
    omega
theorem pq_gt {x y : Int32} : pm_cmp .gt x y = true ↔ (y.toInt < x.toInt) := by
  show decide (y < x) = true ↔ _
  simp only [decide_eq_true_eq, Int32.lt_iff_toInt_lt]
theorem qT_gt {x y : Int32} {cx cy : Int} (hx : x.toInt = cx) (hy : y.toInt = cy) (h : pm_cmp .gt x y = true) : cy < cx := by
  have q := pq_gt.mp h
  omega
theorem qF_gt {x y : Int32} {cx cy : Int} (hx : x.toInt = cx) (hy : y.toInt = cy) (h : pm_cmp .gt x y = false) : cx ≤ cy := by
  have q : ¬ (pm_cmp .gt x y = true) := by rw [h]; decide
  rw [pq_gt] at q
  omega
theorem rT_gt {x y : Int32} {cx cy : Int} (hx : x.toInt = cx) (hy : y.toInt = cy) (h : cy < cx) : pm_cmp .gt x y = true := pq_gt.mpr (by omega)
theorem rF_gt {x y : Int32} {cx cy : Int} (hx : x.toInt = cx) (hy : y.toInt = cy) (h : cx ≤ cy) : pm_cmp .gt x y = false := by
  cases e : pm_cmp .gt x y with
  | false => rfl
  | true =>
    have q := pq_gt.mp e
    omega
theorem pq_le {x y : Int32} : pm_cmp .le x y = true ↔ (x.toInt ≤ y.toInt) := by
  show decide (x ≤ y) = true ↔ _
  simp only [decide_eq_true_eq, Int32.le_iff_toInt_le]
theorem qT_le {x y : Int32} {cx cy : Int} (hx : x.toInt = cx) (hy : y.toInt = cy) (h : pm_cmp .le x y = true) : cx ≤ cy := by
  have q := pq_le.mp h
  omega
theorem qF_le {x y : Int32} {cx cy : Int} (hx : x.toInt = cx) (hy : y.toInt = cy) (h : pm_cmp .le x y = false) : cy < cx := by
  have q : ¬ (pm_cmp .le x y = true) := by rw [h]; decide
  rw [pq_le] at q
  omega
theorem rT_le {x y : Int32} {cx cy : Int} (hx : x.toInt = cx) (hy : y.toInt = cy) (h : cx ≤ cy) : pm_cmp .le x y = true := pq_le.mpr (by omega)
theorem rF_le {x y : Int32} {cx cy : Int} (hx : x.toInt = cx) (hy : y.toInt = cy) (h : cy < cx) : pm_cmp .le x y = false := by
  cases e : pm_cmp .le x y with
  | false => rfl
  | true =>
    have q := pq_le.mp e
    omega

