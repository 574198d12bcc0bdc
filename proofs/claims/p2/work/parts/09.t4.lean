set_option maxHeartbeats 4000000 in
theorem sS_iaload {l : Launch} {b base L : Nat} {xs : Nat → Int32} {D : va_G} {κ : Nat → ClassId} : pm_S l b base L xs D κ (.iaload) := by
  intro y pc a bb lv st G c n Q hy hd hln h p e s m args below meth cd R Z H locs ls cells slots hC hZ hR hS hl hc hn
  obtain ⟨hx, hb, hml, hown, hnm, hts, hns, hao, hK, hX, hbb, hbs, hbd, hbl⟩ := id hC
  unfold pm_I at h
  dsimp only at h hR hl hc hn ⊢
  split at h
  · next i r rest =>
    split at h
    · next m1 f e1 =>
      have hin := pm_in_of h.1
      obtain ⟨t0, ht⟩ := pm_tys_at (κ := κ) (hR.2.2.2 r _ _ e1)
      cases r with
      | zero =>
        have q := hR.1.symm.trans e1
        cases q
        exact va_sld hx hb hX (Nat.lt_of_lt_of_le hbb hbs) (Nat.not_le.mpr hbb) hS hin hd (h.2 p e s m args below meth cd R Z H locs ls cells slots hC hZ hR hS hl hc hn)
      | succ k => exact va_iald hx hb hK hR.2.2.1 k t0 (pm_ws_get (b := b) (base := base) (κ := κ) e1) ht hin hd (h.2 p e s m args below meth cd R Z H locs ls cells slots hC hZ hR hS hl hc hn)
    · exact h.elim
  · exact h.elim
set_option maxHeartbeats 4000000 in
theorem sS_baload {l : Launch} {b base L : Nat} {xs : Nat → Int32} {D : va_G} {κ : Nat → ClassId} : pm_S l b base L xs D κ (.baload) := by
  intro y pc a bb lv st G c n Q hy hd hln h p e s m args below meth cd R Z H locs ls cells slots hC hZ hR hS hl hc hn
  obtain ⟨hx, hb, hml, hown, hnm, hts, hns, hao, hK, hX, hbb, hbs, hbd, hbl⟩ := id hC
  unfold pm_I at h
  dsimp only at h hR hl hc hn ⊢
  split at h
  · next i r rest =>
    split at h
    · next m1 f e1 =>
      have hin := pm_in_of h.1
      obtain ⟨t0, ht⟩ := pm_tys_at (κ := κ) (hR.2.2.2 r _ _ e1)
      cases r with
      | zero =>
        have q := hR.1.symm.trans e1
        cases q
      | succ k => exact va_zald hx hb hK hR.2.2.1 k t0 (pm_ws_get (b := b) (base := base) (κ := κ) e1) ht hin hd (h.2 p e s m args below meth cd R Z H locs ls cells slots hC hZ hR hS hl hc hn)
    · exact h.elim
  · exact h.elim
set_option maxHeartbeats 4000000 in
theorem sS_laload {l : Launch} {b base L : Nat} {xs : Nat → Int32} {D : va_G} {κ : Nat → ClassId} : pm_S l b base L xs D κ (.laload) := by
  intro y pc a bb lv st G c n Q hy hd hln h p e s m args below meth cd R Z H locs ls cells slots hC hZ hR hS hl hc hn
  obtain ⟨hx, hb, hml, hown, hnm, hts, hns, hao, hK, hX, hbb, hbs, hbd, hbl⟩ := id hC
  unfold pm_I at h
  dsimp only at h hR hl hc hn ⊢
  split at h
  · next i r rest =>
    split at h
    · next m1 f e1 =>
      have hin := pm_in_of h.1
      obtain ⟨t0, ht⟩ := pm_tys_at (κ := κ) (hR.2.2.2 r _ _ e1)
      cases r with
      | zero =>
        have q := hR.1.symm.trans e1
        cases q
      | succ k => exact va_lald hx hb hK hR.2.2.1 k t0 (pm_ws_get (b := b) (base := base) (κ := κ) e1) ht hin hd (h.2 p e s m args below meth cd R Z H locs ls cells slots hC hZ hR hS hl hc hn)
    · exact h.elim
  · exact h.elim
set_option maxHeartbeats 4000000 in
theorem sS_aaload {l : Launch} {b base L : Nat} {xs : Nat → Int32} {D : va_G} {κ : Nat → ClassId} : pm_S l b base L xs D κ (.aaload) := by
  intro y pc a bb lv st G c n Q hy hd hln h p e s m args below meth cd R Z H locs ls cells slots hC hZ hR hS hl hc hn
  obtain ⟨hx, hb, hml, hown, hnm, hts, hns, hao, hK, hX, hbb, hbs, hbd, hbl⟩ := id hC
  unfold pm_I at h
  dsimp only at h hR hl hc hn ⊢
  split at h
  · next i r rest =>
    split at h
    · next t m1 f e1 =>
      have hin := pm_in_of h.1
      obtain ⟨t0, ht⟩ := pm_tys_at (κ := κ) (hR.2.2.2 r _ _ e1)
      cases r with
      | zero =>
        have q := hR.1.symm.trans e1
        cases q
      | succ k =>
        refine va_aldq hx hb hK hR.2.2.1 k t0 (pm_ws_get (b := b) (base := base) (κ := κ) e1) ht hin hd ?_
        have hg := h.2 p e s m args below meth cd R Z H locs ls cells slots hC hZ hR hS hl hc hn
        dsimp only at hg
        rw [List.map_cons] at hg
        rw [show va_rf ((f i.toNatClampNeg).map (pm_ad b base)) = pm_v b base (pm_rf (f i.toNatClampNeg)) by cases f i.toNatClampNeg <;> rfl]
        exact hg
    · exact h.elim
  · exact h.elim
set_option maxHeartbeats 4000000 in
theorem sS_arraylength {l : Launch} {b base L : Nat} {xs : Nat → Int32} {D : va_G} {κ : Nat → ClassId} : pm_S l b base L xs D κ (.arraylength) := by
  intro y pc a bb lv st G c n Q hy hd hln h p e s m args below meth cd R Z H locs ls cells slots hC hZ hR hS hl hc hn
  obtain ⟨hx, hb, hml, hown, hnm, hts, hns, hao, hK, hX, hbb, hbs, hbd, hbl⟩ := id hC
  unfold pm_I at h
  dsimp only at h hR hl hc hn ⊢
  split at h
  · next r rest =>
    split at h
    · next t x e1 =>
      obtain ⟨t0, ht⟩ := pm_tys_at (κ := κ) (hR.2.2.2 r _ _ e1)
      cases r with
      | zero =>
        have q := hR.1.symm.trans e1
        cases q
        exact va_slen hx hb hX (Nat.lt_of_lt_of_le hbb hbs) (Nat.not_le.mpr hbb) hS hd (h.2 p e s m args below meth cd R Z H locs ls cells slots hC hZ hR hS hl hc hn)
      | succ k => exact va_alen hx hb hK hR.2.2.1 k t0 (pm_ws_get (b := b) (base := base) (κ := κ) e1) ht (by obtain ⟨n1, f | f | f | f | f⟩ := x <;> rfl) hd (h.2 p e s m args below meth cd R Z H locs ls cells slots hC hZ hR hS hl hc hn)
    · exact h.elim
  · exact h.elim
set_option maxHeartbeats 4000000 in
theorem sS_iastore {l : Launch} {b base L : Nat} {xs : Nat → Int32} {D : va_G} {κ : Nat → ClassId} : pm_S l b base L xs D κ (.iastore) := by
  intro y pc a bb lv st G c n Q hy hd hln h p e s m args below meth cd R Z H locs ls cells slots hC hZ hR hS hl hc hn
  obtain ⟨hx, hb, hml, hown, hnm, hts, hns, hao, hK, hX, hbb, hbs, hbd, hbl⟩ := id hC
  unfold pm_I at h
  dsimp only at h hR hl hc hn ⊢
  split at h
  · next x i k rest =>
    split at h
    · next m1 f e1 =>
      have hin := pm_in_of h.1
      have htg := hR.2.2.2 (k + 1) _ _ e1
      obtain ⟨t0, ht⟩ := pm_tys_at (κ := κ) htg
      have he := pm_ws_get (b := b) (base := base) (κ := κ) e1
      refine W.iast hx hb (hR.2.2.1 k _ he) ((hK.2 t0 _ ht).1 m1 (fun j => .int (f j))) (fun q => by cases q) (by show ¬ (i < 0 ∨ (arrV _ _ _).slots.size ≤ _); rw [arrV_size]; exact hin) rfl rfl hd fun H1 e9 z oq => ?_
      have hq := pm_stored (j := i.toNatClampNeg) (g := .inl (0, m1, .inl (upd f i.toNatClampNeg x))) hR hS he z oq (fun t x q => by cases q; exact htg) (by
        show H1[base + k]? = some (vp_cell _ _)
        rw [e9]
        show some (Cell.setSlot (vp_cell _ (m1, .inl f)) _ _) = some (vp_cell _ (m1, .inl (upd f i.toNatClampNeg x)))
        rw [vp_cell_i, vp_cell_i, arrV_store]
        congr 2
        funext q
        by_cases hq : q = i.toNatClampNeg
        · subst hq
          simp [updV, upd]
          try rfl
        · simp [updV, upd, hq])
      exact h.2 p e s m args below meth cd R Z H1 _ ls cells slots hC hZ hq.1 hq.2 hl hc hn
    · exact h.elim
  · exact h.elim
set_option maxHeartbeats 4000000 in
theorem sS_bastore {l : Launch} {b base L : Nat} {xs : Nat → Int32} {D : va_G} {κ : Nat → ClassId} : pm_S l b base L xs D κ (.bastore) := by
  intro y pc a bb lv st G c n Q hy hd hln h p e s m args below meth cd R Z H locs ls cells slots hC hZ hR hS hl hc hn
  obtain ⟨hx, hb, hml, hown, hnm, hts, hns, hao, hK, hX, hbb, hbs, hbd, hbl⟩ := id hC
  unfold pm_I at h
  dsimp only at h hR hl hc hn ⊢
  split at h
  · next x i k rest =>
    split at h
    · next m1 f e1 =>
      have hin := pm_in_of h.1
      have htg := hR.2.2.2 (k + 1) _ _ e1
      obtain ⟨t0, ht⟩ := pm_tys_at (κ := κ) htg
      have he := pm_ws_get (b := b) (base := base) (κ := κ) e1
      refine W.zast hx hb (hR.2.2.1 k _ he) ((hK.2 t0 _ ht).1 m1 (fun j => .int (f j))) (fun q => by cases q) (by show ¬ (i < 0 ∨ (arrV _ _ _).slots.size ≤ _); rw [arrV_size]; exact hin) rfl rfl hd fun H1 e9 z oq => ?_
      have hq := pm_stored (j := i.toNatClampNeg) (g := .inl (2, m1, .inl (upd f i.toNatClampNeg (vp_nar .boolean x)))) hR hS he z oq (fun t x q => by cases q; exact htg) (by
        show H1[base + k]? = some (vp_cell _ _)
        rw [e9]
        show some (Cell.setSlot (vp_cell _ (m1, .inl f)) _ _) = some (vp_cell _ (m1, .inl (upd f i.toNatClampNeg (vp_nar .boolean x))))
        rw [vp_cell_i, vp_cell_i, arrV_store]
        congr 2
        funext q
        by_cases hq : q = i.toNatClampNeg
        · subst hq
          simp [updV, upd, vp_nar]
          try rfl
        · simp [updV, upd, hq])
      exact h.2 p e s m args below meth cd R Z H1 _ ls cells slots hC hZ hq.1 hq.2 hl hc hn
    · exact h.elim
  · exact h.elim
set_option maxHeartbeats 4000000 in
theorem sS_lastore {l : Launch} {b base L : Nat} {xs : Nat → Int32} {D : va_G} {κ : Nat → ClassId} : pm_S l b base L xs D κ (.lastore) := by
  intro y pc a bb lv st G c n Q hy hd hln h p e s m args below meth cd R Z H locs ls cells slots hC hZ hR hS hl hc hn
  obtain ⟨hx, hb, hml, hown, hnm, hts, hns, hao, hK, hX, hbb, hbs, hbd, hbl⟩ := id hC
  unfold pm_I at h
  dsimp only at h hR hl hc hn ⊢
  split at h
  · next x i k rest =>
    split at h
    · next m1 f e1 =>
      have hin := pm_in_of h.1
      have htg := hR.2.2.2 (k + 1) _ _ e1
      obtain ⟨t0, ht⟩ := pm_tys_at (κ := κ) htg
      have he := pm_ws_get (b := b) (base := base) (κ := κ) e1
      refine W.last hx hb (hR.2.2.1 k _ he) ((hK.2 t0 _ ht).1 m1 (fun j => .long (f j))) (fun q => by cases q) (by show ¬ (i < 0 ∨ (arrV _ _ _).slots.size ≤ _); rw [arrV_size]; exact hin) rfl rfl hd fun H1 e9 z oq => ?_
      have hq := pm_stored (j := i.toNatClampNeg) (g := .inl (1, m1, .inr (.inl (vp_updL f i.toNatClampNeg x)))) hR hS he z oq (fun t x q => by cases q; exact htg) (by
        show H1[base + k]? = some (vp_cell _ _)
        rw [e9]
        show some (Cell.setSlot (vp_cell _ (m1, .inr (.inl f))) _ _) = some (vp_cell _ (m1, .inr (.inl (vp_updL f i.toNatClampNeg x))))
        rw [vp_cell_l, vp_cell_l, arrV_store]
        congr 2
        funext q
        by_cases hq : q = i.toNatClampNeg
        · subst hq
          simp [updV, vp_updL]
          try rfl
        · simp [updV, vp_updL, hq])
      exact h.2 p e s m args below meth cd R Z H1 _ ls cells slots hC hZ hq.1 hq.2 hl hc hn
    · exact h.elim
  · exact h.elim
set_option maxHeartbeats 4000000 in
theorem sS_aastore {l : Launch} {b base L : Nat} {xs : Nat → Int32} {D : va_G} {κ : Nat → ClassId} : pm_S l b base L xs D κ (.aastore) := by
  intro y pc a bb lv st G c n Q hy hd hln h p e s m args below meth cd R Z H locs ls cells slots hC hZ hR hS hl hc hn
  obtain ⟨hx, hb, hml, hown, hnm, hts, hns, hao, hK, hX, hbb, hbs, hbd, hbl⟩ := id hC
  unfold pm_I at h
  dsimp only at h hR hl hc hn ⊢
  split at h
  · next v i k rest =>
    split at h
    · next t m1 f ci fs e1 e2 =>
      obtain ⟨g1, g2⟩ := pm_and h.1
      have hin := pm_in_of g1
      have hci := Nat.eq_of_beq_eq_true g2
      subst hci
      have htg := hR.2.2.2 (k + 1) _ _ e1
      obtain ⟨t0, ht⟩ := pm_tys_at (κ := κ) htg
      have he := pm_ws_get (b := b) (base := base) (κ := κ) e1
      have hev := pm_ws_get (b := b) (base := base) (κ := κ) e2
      have hlt : i.toNatClampNeg < m1 := Nat.not_le.mp fun q => hin (Or.inr q)
      have h0 : ¬ i < 0 := fun q => hin (Or.inl q)
      obtain ⟨r', hr', cellV, g1, g2, g3, -⟩ := hR.2.2.1 v _ hev
      have hcn : pm_cls[ci]? = some (pm_cn ci, pm_T ci, pm_nf ci) := pm_cls_at (by
        by_cases q : ci < 13
        · exact Nat.ble_eq_true_of_le q
        · have q2 : pm_cls[ci]? = none := List.getElem?_eq_none (by simp only [pm_cls, List.length_cons, List.length_nil]; omega)
          rw [q2] at hr'
          cases hr')
      have hcls := (hK.1 ci _ hcn).2
      obtain ⟨kA, comp, k1, k2, k3, -⟩ := (hK.2 t0 _ ht).2
      have hcomp : comp = D.1 ci := Option.some.inj (k3.symm.trans hcls.1)
      subst hcomp
      obtain ⟨kC, hkC, -⟩ := hcls.2
      refine W.aast hx hb (hR.2.2.1 k _ he) (fun q h => by cases h) (fun h => by cases h) k1 k2 rfl hkC ⟨h0, by show _ < (arrV _ _ _).slots.size; rw [arrV_size]; exact hlt⟩ g1 (fun q h => by rw [g3] at h; cases h) (by rw [g2]; exact hkC) (by rw [g2]; exact va_assign hcls) rfl rfl hd fun H1 e9 z oq => ?_
      have hq := pm_stored (j := i.toNatClampNeg) (g := .inl (ci + 3, m1, .inr (.inr (.inr (.inr (va_up f i.toNatClampNeg (some (v + 1)))))))) hR hS he z oq (fun t x q => by cases q; exact htg) (by
        show H1[base + k]? = some (vp_cell _ _)
        rw [e9]
        show some (Cell.setSlot (vp_cell _ (m1, .inr (.inr (.inr (.inr (fun j => (f j).map (pm_ad b base))))))) _ _) = some (vp_cell _ (m1, .inr (.inr (.inr (.inr (fun j => (va_up f i.toNatClampNeg (some (v + 1)) j).map (pm_ad b base)))))))
        rw [vp_cell_q, vp_cell_q, arrV_store]
        congr 2
        funext q
        by_cases hq : q = i.toNatClampNeg
        · subst hq
          simp [updV, va_up, va_rf, pm_ad]
        · simp [updV, va_up, hq])
      exact h.2 p e s m args below meth cd R Z H1 _ ls cells slots hC hZ hq.1 hq.2 hl hc hn
    · exact h.elim
  · next i k rest =>
    split at h
    · next t m1 f e1 =>
      have hin := pm_in_of h.1
      have htg := hR.2.2.2 (k + 1) _ _ e1
      obtain ⟨t0, ht⟩ := pm_tys_at (κ := κ) htg
      have he := pm_ws_get (b := b) (base := base) (κ := κ) e1
      refine va_WaastN (C := pm_cn t) hx hb (hR.2.2.1 k _ he) ((hK.2 t0 _ ht).1 m1 (fun j => va_rf ((f j).map (pm_ad b base)))) (fun h => by cases h) (by show ¬ (i < 0 ∨ (arrV _ _ _).slots.size ≤ _); rw [arrV_size]; exact hin) rfl rfl hd fun H1 e9 z oq => ?_
      have hq := pm_stored (j := i.toNatClampNeg) (g := .inl (t + 3, m1, .inr (.inr (.inr (.inr (va_up f i.toNatClampNeg none)))))) hR hS he z oq (fun t x q => by cases q; exact htg) (by
        show H1[base + k]? = some (vp_cell _ _)
        rw [e9]
        show some (Cell.setSlot (vp_cell _ (m1, .inr (.inr (.inr (.inr (fun j => (f j).map (pm_ad b base))))))) _ _) = some (vp_cell _ (m1, .inr (.inr (.inr (.inr (fun j => (va_up f i.toNatClampNeg none j).map (pm_ad b base)))))))
        rw [vp_cell_q, vp_cell_q, arrV_store]
        congr 2
        funext q
        by_cases hq : q = i.toNatClampNeg
        · subst hq
          simp [updV, va_up, va_rf, pm_ad]
        · simp [updV, va_up, hq])
      exact h.2 p e s m args below meth cd R Z H1 _ ls cells slots hC hZ hq.1 hq.2 hl hc hn
    · exact h.elim
  · exact h.elim
