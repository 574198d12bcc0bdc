/-! the class's types against the reference's -/
def upR (up pa : Nat → Int32) (ty : Int32) : Prop := (∀ t : Int32, xA up t ↔ anyT ty t) ∧ ∀ a b : Int32, anyT ty a → (0 ≤ b.toInt ∧ b.toInt ≤ 30) → (xU up a b ↔ uM pa a b = true)
theorem xU_b {up : Nat → Int32} {a b : Int32} (ha : 0 ≤ a.toInt ∧ a.toInt ≤ 30) (hb : 0 ≤ b.toInt ∧ b.toInt ≤ 30) : xU up a b ↔ bt (up a.toNatClampNeg) b.toNatClampNeg = true := by
  unfold xU
  rw [b_q hb.1 (by omega)]
  exact ⟨fun h => h.2, fun h => ⟨⟨ha, hb⟩, h⟩⟩
theorem any_b {ty t : Int32} (hty : 2 ≤ ty.toInt ∧ ty.toInt ≤ 10) (h : anyT ty t) : 0 ≤ t.toInt ∧ t.toInt ≤ 30 := by
  unfold anyT at h; omega
theorem up_0 : upR (upd (upd (upd (upd (upd (upd (upd (fun _ => 0) (0) 1) (1) 3) (10) 1024) (11) 2048) (20) 1048577) (21) 3145729) (30) 1073741825) (upd (upd (fun _ => 0) (0) (-4)) (1) 0) 2 := by
  have z2 : (2 : Int32).toInt = 2 := by decide
  have k1 : ∀ k : Nat, k < 31 → ((((upd (upd (upd (upd (upd (upd (upd (fun _ => 0) (0) 1) (1) 3) (10) 1024) (11) 2048) (20) 1048577) (21) 3145729) (30) 1073741825) k).toInt ≠ 0) ↔ ((k < 2 ∨ k = 10 ∨ (20 ≤ k ∧ k < 22) ∨ k = 30) ∨ k = 11)) := by decide +kernel
  have k2 : ∀ k : Nat, k < 31 → ((k < 2 ∨ k = 10 ∨ (20 ≤ k ∧ k < 22) ∨ k = 30) ∨ k = 11) → ∀ j : Nat, j < 31 → (bt ((upd (upd (upd (upd (upd (upd (upd (fun _ => 0) (0) 1) (1) 3) (10) 1024) (11) 2048) (20) 1048577) (21) 3145729) (30) 1073741825) k) j = true ↔ uM (upd (upd (fun _ => 0) (0) (-4)) (1) 0) (nI k) (nI j) = true) := by decide +kernel
  constructor
  · intro t
    unfold xA anyT
    by_cases ht : 0 ≤ t.toInt ∧ t.toInt ≤ 30
    · have hx := xN ht.1
      have := k1 t.toNatClampNeg (by omega)
      constructor
      · intro q; have := this.mp q.2; omega
      · intro q; exact ⟨ht, this.mpr (by omega)⟩
    · constructor
      · intro q; exact absurd q.1 ht
      · intro q; exfalso; omega
  · intro a b ha hb
    have ha2 := any_b (by omega) ha
    rw [xU_b ha2 hb]
    have hx := xN ha2.1
    have hy := xN hb.1
    have e1 : a = nI a.toNatClampNeg := xJ (by rw [nI_toInt (by omega), hx])
    have e2 : b = nI b.toNatClampNeg := xJ (by rw [nI_toInt (by omega), hy])
    have := k2 a.toNatClampNeg (by omega) (by unfold anyT at ha; omega) b.toNatClampNeg (by omega)
    rw [← e1, ← e2] at this
    exact this
theorem up_uM {pa : Nat → Int32} {ty t b : Int32} (hd : paD (upd pa ty.toNatClampNeg t)) (hty : 2 ≤ ty.toInt ∧ ty.toInt ≤ 9) (ht : 0 ≤ t.toInt ∧ t.toInt < ty.toInt) (hb : 0 ≤ b.toInt ∧ b.toInt ≤ 30) :
    (uM (upd pa ty.toNatClampNeg t) ty b = true ↔ b = ty ∨ uM (upd pa ty.toNatClampNeg t) t b = true) ∧ (uM (upd pa ty.toNatClampNeg t) (20 + ty) b = true ↔ b = 20 + ty ∨ uM (upd pa ty.toNatClampNeg t) (20 + t) b = true) := by
  have e1 : (20 + ty).toInt = 20 + ty.toInt := iAdd (by decide) rfl (by omega) (by omega)
  have e2 : (20 + t).toInt = 20 + t.toInt := iAdd (by decide) rfl (by omega) (by omega)
  have hm20 : (-20 : Int32).toInt = -20 := by decide
  have us : upd pa ty.toNatClampNeg t ty.toNatClampNeg = t := updS
  constructor
  · rw [uM_c (by omega), uM_c (by omega), uR_u hd, us]
    exact ⟨fun q => q.elim (fun q => Or.inl q.symm) (fun q => Or.inr q.2), fun q => q.elim (fun q => Or.inl q.symm) (fun q => Or.inr ⟨by omega, q⟩)⟩
  · by_cases b0 : b.toInt = 0
    · exact ⟨fun _ => Or.inr (uM_1 (by omega)), fun _ => uM_1 (by omega)⟩
    · by_cases b2 : 20 ≤ b.toInt ∧ b.toInt ≤ 29
      · have e3 : 20 + ty + -20 = ty := xJ (by rw [iAdd e1 hm20 (by omega) (by omega)]; omega)
        have e4 : 20 + t + -20 = t := xJ (by rw [iAdd e2 hm20 (by omega) (by omega)]; omega)
        have e5 : (b + -20).toInt = b.toInt + -20 := iAdd rfl hm20 (by omega) (by omega)
        rw [uM_2 (by omega) (by omega), uM_2 (by omega) (by omega), e3, e4, uR_u hd, us]
        constructor
        · rintro (q | q)
          · left
            have := congrArg Int32.toInt q
            exact xJ (by omega)
          · exact Or.inr q.2
        · rintro (q | q)
          · left
            have := congrArg Int32.toInt q
            exact xJ (by omega)
          · exact Or.inr ⟨by omega, q⟩
      · rw [uM_3 (by omega) (by omega), uM_3 (by omega) (by omega), uR_out (by omega) (by omega), uR_out (by omega) (by omega)]
        constructor
        · intro q; cases q
        · rintro (q | q)
          · have := congrArg Int32.toInt q; omega
          · cases q
theorem up_t {up pa : Nat → Int32} {ty t : Int32} (h : upR up pa ty) (hd0 : paD pa) (hd : paD (upd pa ty.toNatClampNeg t)) (hty : 2 ≤ ty.toInt ∧ ty.toInt ≤ 9) (ht : 0 ≤ t.toInt ∧ t.toInt < ty.toInt) :
    upR (upd (upd up ty.toNatClampNeg ((1 <<< (ty &&& 31)) ||| up t.toNatClampNeg)) (20 + ty).toNatClampNeg ((1 <<< ((20 + ty) &&& 31)) ||| (upd up ty.toNatClampNeg ((1 <<< (ty &&& 31)) ||| up t.toNatClampNeg)) (20 + t).toNatClampNeg)) (upd pa ty.toNatClampNeg t) (ty + 1) := by
  have e1 : (20 + ty).toInt = 20 + ty.toInt := iAdd (by decide) rfl (by omega) (by omega)
  have e2 : (20 + t).toInt = 20 + t.toInt := iAdd (by decide) rfl (by omega) (by omega)
  have e0 : (ty + 1).toInt = ty.toInt + 1 := iAdd rfl (by decide) (by omega) (by omega)
  have x1 := xN (x := ty) (by omega)
  have x2 := xN (x := t) (by omega)
  have x3 := xN (x := 20 + ty) (by omega)
  have x4 := xN (x := 20 + t) (by omega)
  have n1 : ty = nI ty.toNatClampNeg := xJ (by rw [nI_toInt (by omega), x1])
  have n3 : 20 + ty = nI (20 + ty).toNatClampNeg := xJ (by rw [nI_toInt (by omega), x3])
  have hu : ∀ b : Int32, (0 ≤ b.toInt ∧ b.toInt ≤ 30) → (bt ((1 <<< (ty &&& 31)) ||| up t.toNatClampNeg) b.toNatClampNeg = true ↔ b = ty ∨ xU up t b) := by
    intro b hb
    have y := xN hb.1
    rw [b_or, xU_b (by omega) hb]
    conv => lhs; rw [n1]
    rw [b_1 _ (by omega) (by omega), Bool.or_eq_true, decide_eq_true_eq]
    exact or_congr ⟨fun q => xJ (by omega), fun q => by rw [q]⟩ Iff.rfl
  have hv : ∀ b : Int32, (0 ≤ b.toInt ∧ b.toInt ≤ 30) → (bt ((1 <<< ((20 + ty) &&& 31)) ||| up (20 + t).toNatClampNeg) b.toNatClampNeg = true ↔ b = 20 + ty ∨ xU up (20 + t) b) := by
    intro b hb
    have y := xN hb.1
    rw [b_or, xU_b (by omega) hb]
    conv => lhs; rw [n3]
    rw [b_1 _ (by omega) (by omega), Bool.or_eq_true, decide_eq_true_eq]
    exact or_congr ⟨fun q => xJ (by omega), fun q => by rw [q]⟩ Iff.rfl
  have ut : (upd up ty.toNatClampNeg ((1 <<< (ty &&& 31)) ||| up t.toNatClampNeg)) (20 + t).toNatClampNeg = up (20 + t).toNatClampNeg := updN (by omega)
  rw [ut]
  generalize hA : (1 <<< (ty &&& 31)) ||| up t.toNatClampNeg = A at hu
  generalize hB : (1 <<< ((20 + ty) &&& 31)) ||| up (20 + t).toNatClampNeg = B at hv
  have vB : (upd (upd up ty.toNatClampNeg A) (20 + ty).toNatClampNeg B) (20 + ty).toNatClampNeg = B := updS
  have vA : (upd (upd up ty.toNatClampNeg A) (20 + ty).toNatClampNeg B) ty.toNatClampNeg = A := (updN (by omega)).trans updS
  have vo : ∀ x : Int32, 0 ≤ x.toInt → x.toInt ≠ ty.toInt → x.toInt ≠ 20 + ty.toInt → (upd (upd up ty.toNatClampNeg A) (20 + ty).toNatClampNeg B) x.toNatClampNeg = up x.toNatClampNeg := by
    intro x q q1 q2
    have y := xN q
    exact (updN (by omega)).trans (updN (by omega))
  have hU := uM_n (t := t) hd0 hty
  constructor
  · intro x
    by_cases q : 0 ≤ x.toInt
    · by_cases q1 : x.toInt = ty.toInt
      · have e := xJ q1
        subst e
        unfold xA
        rw [vA]
        exact ⟨fun _ => by unfold anyT; omega, fun _ => ⟨by omega, b_ne ((hu x (by omega)).mpr (Or.inl rfl))⟩⟩
      · by_cases q2 : x.toInt = 20 + ty.toInt
        · have e : x = 20 + ty := xJ (by omega)
          subst e
          unfold xA
          rw [vB]
          exact ⟨fun _ => by unfold anyT; omega, fun _ => ⟨by omega, b_ne ((hv _ (by omega)).mpr (Or.inl rfl))⟩⟩
        · have k := h.1 x
          unfold xA at k ⊢
          rw [vo x q q1 q2, k]
          unfold anyT
          omega
    · unfold xA anyT
      omega
  · intro a b ha hb
    have ha2 := any_b (by omega) ha
    obtain ⟨w1, w2⟩ := up_uM hd hty ht hb
    rw [xU_b ha2 hb]
    by_cases q1 : a.toInt = ty.toInt
    · have e := xJ q1
      subst e
      rw [vA, hu b hb, w1, h.2 t b (by unfold anyT; omega) hb, hU t b (Or.inl (by omega))]
    · by_cases q2 : a.toInt = 20 + ty.toInt
      · have e : a = 20 + ty := xJ (by omega)
        subst e
        rw [vB, hv b hb, w2, h.2 (20 + t) b (by unfold anyT; omega) hb, hU (20 + t) b (Or.inr (Or.inl (by omega)))]
      · have hk : anyT ty a := by unfold anyT at ha ⊢; omega
        rw [vo a ha2.1 q1 q2, ← xU_b ha2 hb, h.2 a b hk hb, hU a b (by unfold anyT at hk; unfold okT; omega)]
theorem up_L {up pa : Nat → Int32} {ty a b : Int32} (h : upR up pa ty) (hty : 2 ≤ ty.toInt) (ha : anyT ty a) (hb : 0 ≤ b.toInt ∧ b.toInt ≤ 30) : xL up a b ↔ lM pa a b := by
  unfold xL lM
  have z1 : (1 : Int32).toInt = 1 := by decide
  rw [h.2 a b ha hb, h.2 1 b (by unfold anyT; omega) hb]
