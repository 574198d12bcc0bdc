theorem pm_neg {m : Int32} (h : (!(decide (m < 0))) = true) : ¬ m < 0 := by simpa using h
set_option maxHeartbeats 4000000 in
theorem sS_new {l : Launch} {b base L : Nat} {xs : Nat → Int32} {D : va_G} {κ : Nat → ClassId} {ix : Nat} : pm_S l b base L xs D κ (.new ix) := by
  intro y pc a bb lv st G c n Q hy hd hln h p e s m args below meth cd R Z H locs ls cells slots hC hZ hR hS hl hc hn
  obtain ⟨hx, hb, hml, hown, hnm, hts, hns, hao, hK, hX, hbb, hbs, hbd, hbl⟩ := id hC
  unfold pm_I at h
  dsimp only at h hR hl hc hn ⊢
  obtain ⟨w1, w2, w3, w4⟩ := pm_nw_at hln
  obtain ⟨g1, h2⟩ := h
  obtain ⟨g2, g3⟩ := pm_and g1
  have g2 := Nat.le_of_ble_eq_true g2
  have g3 := Nat.le_of_ble_eq_true g3
  have hKn := hK.1 a _ (pm_cls_at w4)
  refine W.newcK hx hb hown (hts _ w1) (hts _ w2) (hts _ w3) rfl hd (by omega) (by omega) hKn.2.1 rfl fun H1 kC hkC e1 z1 o1 => ?_
  have hq : pm_Rl b base L xs D κ (G ++ [.inr (a, pm_df a)]) H1 := hR.push z1 o1 (fun t x q => by cases q) ⟨_, pm_cls_at w4, (u_born (pm_ft a) hts (pm_lays_in w4) hKn hkC e1 (pm_ft_ok w4)).to (pm_df_ok b base w4)⟩
  have hg := h2 p e s m args below meth cd R Z H1 locs ls (cells + 1) (slots + pm_nf a) hC hZ hq ⟨Nat.le_trans hS.1 (by omega), fun x h1 h2 => (o1 x (Nat.lt_of_lt_of_le h1 hS.1)).trans (hS.2.1 x h1 h2), hS.2.2⟩ hl (by dsimp only; omega) (by dsimp only; omega)
  dsimp only at hg
  rw [List.map_cons, show pm_v b base (.ref G.length) = .ref H.size by show Value.ref (pm_ad b base G.length) = _; rw [pm_next hR]] at hg
  exact hg
theorem pm_arr_at {t : ArrayType} {tg : Nat} (h : pm_tg t = some tg) : Cond.arrayClass (newarray.typeOf t) ∈ pm_tbl ∧ tg ∈ pm_tgs ∧ newarray.typeOf t = pm_aty tg ∧ componentBytes (newarray.typeOf t) ≤ 8 ∧ (∀ cA n, vp_cell cA (n, pm_z tg) = arrV cA n (fun _ => defaultValue (newarray.typeOf t))) ∧ (∀ (s : State) (c : ClassId), va_RA s c (pm_aty tg) → s.vm.findClass ("[" ++ (newarray.typeOf t).toString) = some c) ∧ ∀ b base n, pm_a b base (n, pm_z tg) = (n, pm_z tg) := by
  obtain ⟨a1, a2⟩ := pm_and pm_arr_ok
  obtain ⟨a1, a3⟩ := pm_and a1
  cases t <;> cases h
  · exact ⟨pm_has_in a2, by decide, rfl, by decide, fun _ _ => rfl, fun _ _ q => q, fun _ _ _ => rfl⟩
  · exact ⟨pm_has_in a1, by decide, rfl, by decide, fun _ _ => rfl, fun _ _ q => q, fun _ _ _ => rfl⟩
  · exact ⟨pm_has_in a3, by decide, rfl, by decide, fun _ _ => rfl, fun _ _ q => q, fun _ _ _ => rfl⟩
set_option maxHeartbeats 4000000 in
theorem sS_newarray {l : Launch} {b base L : Nat} {xs : Nat → Int32} {D : va_G} {κ : Nat → ClassId} {t : ArrayType} : pm_S l b base L xs D κ (.newarray t) := by
  intro y pc a bb lv st G c n Q hy hd hln h p e s m args below meth cd R Z H locs ls cells slots hC hZ hR hS hl hc hn
  obtain ⟨hx, hb, hml, hown, hnm, hts, hns, hao, hK, hX, hbb, hbs, hbd, hbl⟩ := id hC
  unfold pm_I at h
  dsimp only at h hR hl hc hn ⊢
  split at h
  · next m1 rest =>
    split at h
    · next tg e1 =>
      obtain ⟨w1, w2, w3, w4, w5, w6, w7⟩ := pm_arr_at e1
      obtain ⟨t0, ht⟩ := pm_tys_at (κ := κ) w2
      obtain ⟨g1, h2⟩ := h
      obtain ⟨g2, g3⟩ := pm_and g1
      obtain ⟨g4, g5⟩ := pm_and g3
      obtain ⟨g6, g7⟩ := pm_and g5
      have g2 := pm_neg g2
      have g4 := Nat.le_of_ble_eq_true g4
      have g6 := Nat.le_of_ble_eq_true g6
      have g7 := Nat.le_of_ble_eq_true g7
      refine va_newaK hx hb (hts _ w1) rfl hd rfl g2 rfl (Nat.le_trans (Nat.mul_le_mul_left _ w4) g4) (by omega) (by omega) rfl fun H1 cA e1 z1 o1 hAr hNm => ?_
      have hcA : cA = κ tg := Option.some.inj (hNm.symm.trans (w6 s _ (hK.2 t0 _ ht).2))
      subst hcA
      have hq : pm_Rl b base L xs D κ (G ++ [.inl (tg, m1.toNatClampNeg, pm_z tg)]) H1 := hR.push z1 o1 (fun t x q => by cases q; exact w2) (by
        show H1[H.size]? = some (vp_cell _ (pm_a b base (m1.toNatClampNeg, pm_z tg)))
        rw [w7, w5]
        exact e1)
      have hg := h2 p e s m args below meth cd R Z H1 locs ls (cells + 1) (slots + m1.toNatClampNeg) hC hZ hq ⟨Nat.le_trans hS.1 (by omega), fun x h1 h2 => (o1 x (Nat.lt_of_lt_of_le h1 hS.1)).trans (hS.2.1 x h1 h2), hS.2.2⟩ hl (by dsimp only; omega) (by dsimp only; omega)
      dsimp only at hg
      rw [List.map_cons, show pm_v b base (.ref G.length) = .ref H.size by show Value.ref (pm_ad b base G.length) = _; rw [pm_next hR]] at hg
      exact hg
    · exact h.elim
  · exact h.elim
set_option maxHeartbeats 4000000 in
theorem sS_anewarray {l : Launch} {b base L : Nat} {xs : Nat → Int32} {D : va_G} {κ : Nat → ClassId} {ix : Nat} : pm_S l b base L xs D κ (.anewarray ix) := by
  intro y pc a bb lv st G c n Q hy hd hln h p e s m args below meth cd R Z H locs ls cells slots hC hZ hR hS hl hc hn
  obtain ⟨hx, hb, hml, hown, hnm, hts, hns, hao, hK, hX, hbb, hbs, hbd, hbl⟩ := id hC
  unfold pm_I at h
  dsimp only at h hR hl hc hn ⊢
  split at h
  · next m1 rest =>
    obtain ⟨w1, w2, w3⟩ := pm_nq_at hln
    obtain ⟨t0, ht⟩ := pm_tys_at (κ := κ) w3
    obtain ⟨g1, h2⟩ := h
    obtain ⟨g2, g3⟩ := pm_and g1
    obtain ⟨g4, g5⟩ := pm_and g3
    obtain ⟨g6, g7⟩ := pm_and g5
    have g2 := pm_neg g2
    have g4 := Nat.le_of_ble_eq_true g4
    have g6 := Nat.le_of_ble_eq_true g6
    have g7 := Nat.le_of_ble_eq_true g7
    refine W.anew hx hb hown (hts _ w1) (va_AO.use (hao _ w2)) rfl hd rfl g2 g4 (by omega) (by omega) fun cA kA comp f1 f2 f3 f4 => ?_
    obtain ⟨-, -, -, -, -, k4⟩ := (hK.2 t0 _ ht).2
    have hcA : cA = κ (a + 3) := Option.some.inj (f1.symm.trans k4)
    subst hcA
    generalize hH1 : H.push ({ cls := κ (a + 3), slots := Array.replicate m1.toNatClampNeg .null, vm := .none } : Cell) = H1
    have z1 : H1.size = H.size + 1 := by rw [← hH1, Array.size_push]
    have e1 : H1[H.size]? = some (arrV (κ (a + 3)) m1.toNatClampNeg (fun _ => .null)) := by rw [← hH1, Array.getElem?_push_size, ← arrV_new]
    have o1 : ∀ q : Nat, q < H.size → H1[q]? = H[q]? := fun q hq => by rw [← hH1, Array.getElem?_push, if_neg (Nat.ne_of_lt hq)]
    have hq : pm_Rl b base L xs D κ (G ++ [.inl (a + 3, m1.toNatClampNeg, .inr (.inr (.inr (.inr (fun _ => none)))))]) H1 := hR.push z1 o1 (fun t x q => by cases q; exact w3) e1
    have hg := h2 p e s m args below meth cd R Z H1 locs ls (cells + 1) (slots + m1.toNatClampNeg) hC hZ hq ⟨Nat.le_trans hS.1 (by omega), fun x h1 h2 => (o1 x (Nat.lt_of_lt_of_le h1 hS.1)).trans (hS.2.1 x h1 h2), hS.2.2⟩ hl (by dsimp only; omega) (by dsimp only; omega)
    dsimp only at hg
    rw [List.map_cons, show pm_v b base (.ref G.length) = .ref H.size by show Value.ref (pm_ad b base G.length) = _; rw [pm_next hR]] at hg
    exact hg
  · exact h.elim
