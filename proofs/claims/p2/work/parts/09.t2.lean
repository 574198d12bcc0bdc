theorem pm_ld_at {o ix : Nat} {v : Int64} (h : pm_ld o ix = some v) : Cond.constantLong (pm_cn o) ix v ∈ pm_tbl := by
  have h1 : pm_kl.any (fun e => decide (e.2 = (o, ix, v))) = true := by
    revert h
    unfold pm_ld
    intro h
    simp only [Bool.cond_eq_ite] at h
    repeat' split at h
    all_goals first | cases h | skip
    all_goals
      simp only [Nat.beq_eq] at *
      subst_vars
      decide +kernel
  obtain ⟨⟨p, o', ix', v'⟩, h1, h2⟩ := pm_any_all h1 pm_kl_ok
  cases of_decide_eq_true h1
  exact pm_has_in h2
set_option maxHeartbeats 4000000 in
theorem sS_ifCond {l : Launch} {b base L : Nat} {xs : Nat → Int32} {D : va_G} {κ : Nat → ClassId} {cc : ClassFile.Cond} {off : Int} : pm_S l b base L xs D κ (.ifCond cc off) := by
  intro y pc a bb lv st G c n Q hy hd hln h p e s m args below meth cd R Z H locs ls cells slots hC hZ hR hS hl hc hn
  obtain ⟨hx, hb, hml, hown, hnm, hts, hns, hao, hK, hX, hbb, hbs, hbd, hbl⟩ := id hC
  unfold pm_I at h
  dsimp only at h hR hl hc hn ⊢
  have ht := of_decide_eq_true hln
  split at h
  · cases cc
    · exact lv_if_eq hx hb hd ht (fun q => h.1 (decide_eq_true q) p e s m args below meth cd R Z H locs ls cells slots hC hZ hR hS hl hc hn) (fun q => h.2 (decide_eq_false q) p e s m args below meth cd R Z H locs ls cells slots hC hZ hR hS hl hc hn)
    · exact lv_if_ne hx hb hd ht (fun q => h.1 (by simpa [pm_cmp] using q) p e s m args below meth cd R Z H locs ls cells slots hC hZ hR hS hl hc hn) (fun q => h.2 (by simpa [pm_cmp] using q) p e s m args below meth cd R Z H locs ls cells slots hC hZ hR hS hl hc hn)
    · exact lv_if_lt hx hb hd ht (fun q => h.1 (decide_eq_true q) p e s m args below meth cd R Z H locs ls cells slots hC hZ hR hS hl hc hn) (fun q => h.2 (decide_eq_false q) p e s m args below meth cd R Z H locs ls cells slots hC hZ hR hS hl hc hn)
    · exact lv_if_ge hx hb hd ht (fun q => h.1 (decide_eq_true q) p e s m args below meth cd R Z H locs ls cells slots hC hZ hR hS hl hc hn) (fun q => h.2 (decide_eq_false q) p e s m args below meth cd R Z H locs ls cells slots hC hZ hR hS hl hc hn)
    · exact lv_if_gt hx hb hd ht (fun q => h.1 (decide_eq_true q) p e s m args below meth cd R Z H locs ls cells slots hC hZ hR hS hl hc hn) (fun q => h.2 (decide_eq_false q) p e s m args below meth cd R Z H locs ls cells slots hC hZ hR hS hl hc hn)
    · exact lv_if_le hx hb hd ht (fun q => h.1 (decide_eq_true q) p e s m args below meth cd R Z H locs ls cells slots hC hZ hR hS hl hc hn) (fun q => h.2 (decide_eq_false q) p e s m args below meth cd R Z H locs ls cells slots hC hZ hR hS hl hc hn)
  · exact h.elim
set_option maxHeartbeats 4000000 in
theorem sS_if_icmp {l : Launch} {b base L : Nat} {xs : Nat → Int32} {D : va_G} {κ : Nat → ClassId} {cc : ClassFile.Cond} {off : Int} : pm_S l b base L xs D κ (.if_icmp cc off) := by
  intro y pc a bb lv st G c n Q hy hd hln h p e s m args below meth cd R Z H locs ls cells slots hC hZ hR hS hl hc hn
  obtain ⟨hx, hb, hml, hown, hnm, hts, hns, hao, hK, hX, hbb, hbs, hbd, hbl⟩ := id hC
  unfold pm_I at h
  dsimp only at h hR hl hc hn ⊢
  have ht := of_decide_eq_true hln
  split at h
  · cases cc
    · exact lv_icmp_eq hx hb hd ht (fun q => h.1 (decide_eq_true q) p e s m args below meth cd R Z H locs ls cells slots hC hZ hR hS hl hc hn) (fun q => h.2 (decide_eq_false q) p e s m args below meth cd R Z H locs ls cells slots hC hZ hR hS hl hc hn)
    · exact lv_icmp_ne hx hb hd ht (fun q => h.1 (by simpa [pm_cmp] using q) p e s m args below meth cd R Z H locs ls cells slots hC hZ hR hS hl hc hn) (fun q => h.2 (by simpa [pm_cmp] using q) p e s m args below meth cd R Z H locs ls cells slots hC hZ hR hS hl hc hn)
    · exact lv_icmp_lt hx hb hd ht (fun q => h.1 (decide_eq_true q) p e s m args below meth cd R Z H locs ls cells slots hC hZ hR hS hl hc hn) (fun q => h.2 (decide_eq_false q) p e s m args below meth cd R Z H locs ls cells slots hC hZ hR hS hl hc hn)
    · exact lv_icmp_ge hx hb hd ht (fun q => h.1 (decide_eq_true q) p e s m args below meth cd R Z H locs ls cells slots hC hZ hR hS hl hc hn) (fun q => h.2 (decide_eq_false q) p e s m args below meth cd R Z H locs ls cells slots hC hZ hR hS hl hc hn)
    · exact lv_icmp_gt hx hb hd ht (fun q => h.1 (decide_eq_true q) p e s m args below meth cd R Z H locs ls cells slots hC hZ hR hS hl hc hn) (fun q => h.2 (decide_eq_false q) p e s m args below meth cd R Z H locs ls cells slots hC hZ hR hS hl hc hn)
    · exact lv_icmp_le hx hb hd ht (fun q => h.1 (decide_eq_true q) p e s m args below meth cd R Z H locs ls cells slots hC hZ hR hS hl hc hn) (fun q => h.2 (decide_eq_false q) p e s m args below meth cd R Z H locs ls cells slots hC hZ hR hS hl hc hn)
  · exact h.elim
set_option maxHeartbeats 4000000 in
theorem sS_ifnull {l : Launch} {b base L : Nat} {xs : Nat → Int32} {D : va_G} {κ : Nat → ClassId} {off : Int} : pm_S l b base L xs D κ (.ifnull off) := by
  intro y pc a bb lv st G c n Q hy hd hln h p e s m args below meth cd R Z H locs ls cells slots hC hZ hR hS hl hc hn
  obtain ⟨hx, hb, hml, hown, hnm, hts, hns, hao, hK, hX, hbb, hbs, hbd, hbl⟩ := id hC
  unfold pm_I at h
  dsimp only at h hR hl hc hn ⊢
  have ht := of_decide_eq_true hln
  split at h
  · exact lv_ifnull hx hb hd (h.2 p e s m args below meth cd R Z H locs ls cells slots hC hZ hR hS hl hc hn)
  · exact lv_ifnullN hx hb hd ht (h.2 p e s m args below meth cd R Z H locs ls cells slots hC hZ hR hS hl hc hn)
  · exact h.elim
set_option maxHeartbeats 4000000 in
theorem sS_ifnonnull {l : Launch} {b base L : Nat} {xs : Nat → Int32} {D : va_G} {κ : Nat → ClassId} {off : Int} : pm_S l b base L xs D κ (.ifnonnull off) := by
  intro y pc a bb lv st G c n Q hy hd hln h p e s m args below meth cd R Z H locs ls cells slots hC hZ hR hS hl hc hn
  obtain ⟨hx, hb, hml, hown, hnm, hts, hns, hao, hK, hX, hbb, hbs, hbd, hbl⟩ := id hC
  unfold pm_I at h
  dsimp only at h hR hl hc hn ⊢
  have ht := of_decide_eq_true hln
  split at h
  · exact lv_ifnonnull hx hb hd ht (h.2 p e s m args below meth cd R Z H locs ls cells slots hC hZ hR hS hl hc hn)
  · exact lv_ifnonnullN hx hb hd (h.2 p e s m args below meth cd R Z H locs ls cells slots hC hZ hR hS hl hc hn)
  · exact h.elim
set_option maxHeartbeats 4000000 in
theorem sS_goto {l : Launch} {b base L : Nat} {xs : Nat → Int32} {D : va_G} {κ : Nat → ClassId} {off : Int} : pm_S l b base L xs D κ (.goto off) := by
  intro y pc a bb lv st G c n Q hy hd hln h p e s m args below meth cd R Z H locs ls cells slots hC hZ hR hS hl hc hn
  obtain ⟨hx, hb, hml, hown, hnm, hts, hns, hao, hK, hX, hbb, hbs, hbd, hbl⟩ := id hC
  unfold pm_I at h
  dsimp only at h hR hl hc hn ⊢
  have ht := of_decide_eq_true hln
  exact lv_goto hx hb hd ht (h.2 p e s m args below meth cd R Z H locs ls cells slots hC hZ hR hS hl hc hn)
set_option maxHeartbeats 4000000 in
theorem sS_tableswitch {l : Launch} {b base L : Nat} {xs : Nat → Int32} {D : va_G} {κ : Nat → ClassId} {d lo hi : Int} {offs : Array Int} : pm_S l b base L xs D κ (.tableswitch d lo hi offs) := by
  intro y pc a bb lv st G c n Q hy hd hln h p e s m args below meth cd R Z H locs ls cells slots hC hZ hR hS hl hc hn
  obtain ⟨hx, hb, hml, hown, hnm, hts, hns, hao, hK, hX, hbb, hbs, hbd, hbl⟩ := id hC
  unfold pm_I at h
  dsimp only at h hR hl hc hn ⊢
  obtain ⟨t1, t2⟩ := pm_and hln
  obtain ⟨t2, t3⟩ := pm_and t2
  have t1 := of_decide_eq_true t1
  have t2 := of_decide_eq_true t2
  split at h
  · next x r =>
    have hg := h.2 p e s m args below meth cd R Z H locs ls cells slots hC hZ hR hS hl hc hn
    unfold pm_tsw at hg
    by_cases hin : x.toInt < lo ∨ hi < x.toInt
    · rw [if_pos hin] at hg
      exact lv_tableOut hx hb hd hin (Int.toNat_of_nonneg t1).symm hg
    · rw [if_neg hin] at hg
      have h1 : ¬ x.toInt < lo := fun q => hin (Or.inl q)
      have h2 : ¬ hi < x.toInt := fun q => hin (Or.inr q)
      have hlt : (x.toInt - lo).toNat < offs.size := by omega
      have ho : offs[(x.toInt - lo).toNat]? = some (offs[(x.toInt - lo).toNat]) := Array.getElem?_eq_getElem hlt
      have hz : 0 ≤ (pc : Int) + offs[(x.toInt - lo).toNat] := of_decide_eq_true (List.all_eq_true.mp t3 _ (Array.mem_toList_iff.mpr (Array.getElem_mem hlt)))
      rw [ho] at hg
      exact lv_tableIn hx hb hd h1 h2 ho (Int.toNat_of_nonneg hz).symm hg
  · exact h.elim
set_option maxHeartbeats 4000000 in
theorem sS_ldc2_w {l : Launch} {b base L : Nat} {xs : Nat → Int32} {D : va_G} {κ : Nat → ClassId} {ix : Nat} : pm_S l b base L xs D κ (.ldc2_w ix) := by
  intro y pc a bb lv st G c n Q hy hd hln h p e s m args below meth cd R Z H locs ls cells slots hC hZ hR hS hl hc hn
  obtain ⟨hx, hb, hml, hown, hnm, hts, hns, hao, hK, hX, hbb, hbs, hbd, hbl⟩ := id hC
  unfold pm_I at h
  dsimp only at h hR hl hc hn ⊢
  have hix := of_decide_eq_true hln
  subst hix
  split at h
  · next v e1 => exact W.ldc2 hx hb hown (hts _ (pm_ld_at e1)) rfl hd (h.2 p e s m args below meth cd R Z H locs ls cells slots hC hZ hR hS hl hc hn)
  · exact h.elim
