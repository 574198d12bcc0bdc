def pm_S (l : Launch) (b base L : Nat) (xs : Nat → Int32) (D : va_G) (κ : Nat → ClassId) (i : Instr) : Prop := ∀ (y pc a bb : Nat) (lv : pm_L) (st : List Value) (G : pm_H) (c n : Nat) (Q : pm_Q), Nat.blt y 191 = true → decode (pm_by y) pc = .ok (pm_dec i a) → pm_lnk y pc i a bb = true → pm_K (pm_X l b base L xs D κ) y (pc, lv, st, G, c, n) Q (pm_I y i a bb pc lv st G c n) → pm_X l b base L xs D κ y (pc, lv, st, G, c, n) Q
set_option maxHeartbeats 4000000 in
theorem sS_aconst_null {l : Launch} {b base L : Nat} {xs : Nat → Int32} {D : va_G} {κ : Nat → ClassId} : pm_S l b base L xs D κ (.aconst_null) := by
  intro y pc a bb lv st G c n Q hy hd hln h p e s m args below meth cd R Z H locs ls cells slots hC hZ hR hS hl hc hn
  obtain ⟨hx, hb, hml, hown, hnm, hts, hns, hao, hK, hX, hbb, hbs, hbd, hbl⟩ := id hC
  unfold pm_I at h
  dsimp only at h hR hl hc hn ⊢
  exact lv_null hx hb hd (h.2 p e s m args below meth cd R Z H locs ls cells slots hC hZ hR hS hl hc hn)
set_option maxHeartbeats 4000000 in
theorem sS_iconst {l : Launch} {b base L : Nat} {xs : Nat → Int32} {D : va_G} {κ : Nat → ClassId} {k : Int} : pm_S l b base L xs D κ (.iconst k) := by
  intro y pc a bb lv st G c n Q hy hd hln h p e s m args below meth cd R Z H locs ls cells slots hC hZ hR hS hl hc hn
  obtain ⟨hx, hb, hml, hown, hnm, hts, hns, hao, hK, hX, hbb, hbs, hbd, hbl⟩ := id hC
  unfold pm_I at h
  dsimp only at h hR hl hc hn ⊢
  exact lv_iconst hx hb hd rfl (h.2 p e s m args below meth cd R Z H locs ls cells slots hC hZ hR hS hl hc hn)
set_option maxHeartbeats 4000000 in
theorem sS_bipush {l : Launch} {b base L : Nat} {xs : Nat → Int32} {D : va_G} {κ : Nat → ClassId} {k : Int} : pm_S l b base L xs D κ (.bipush k) := by
  intro y pc a bb lv st G c n Q hy hd hln h p e s m args below meth cd R Z H locs ls cells slots hC hZ hR hS hl hc hn
  obtain ⟨hx, hb, hml, hown, hnm, hts, hns, hao, hK, hX, hbb, hbs, hbd, hbl⟩ := id hC
  unfold pm_I at h
  dsimp only at h hR hl hc hn ⊢
  exact lv_bipush hx hb hd rfl (h.2 p e s m args below meth cd R Z H locs ls cells slots hC hZ hR hS hl hc hn)
set_option maxHeartbeats 4000000 in
theorem sS_sipush {l : Launch} {b base L : Nat} {xs : Nat → Int32} {D : va_G} {κ : Nat → ClassId} {k : Int} : pm_S l b base L xs D κ (.sipush k) := by
  intro y pc a bb lv st G c n Q hy hd hln h p e s m args below meth cd R Z H locs ls cells slots hC hZ hR hS hl hc hn
  obtain ⟨hx, hb, hml, hown, hnm, hts, hns, hao, hK, hX, hbb, hbs, hbd, hbl⟩ := id hC
  unfold pm_I at h
  dsimp only at h hR hl hc hn ⊢
  exact lv_sipush hx hb hd rfl (h.2 p e s m args below meth cd R Z H locs ls cells slots hC hZ hR hS hl hc hn)
set_option maxHeartbeats 4000000 in
theorem sS_lconst {l : Launch} {b base L : Nat} {xs : Nat → Int32} {D : va_G} {κ : Nat → ClassId} {k : Fin 2} : pm_S l b base L xs D κ (.lconst k) := by
  intro y pc a bb lv st G c n Q hy hd hln h p e s m args below meth cd R Z H locs ls cells slots hC hZ hR hS hl hc hn
  obtain ⟨hx, hb, hml, hown, hnm, hts, hns, hao, hK, hX, hbb, hbs, hbd, hbl⟩ := id hC
  unfold pm_I at h
  dsimp only at h hR hl hc hn ⊢
  exact lv_lconst hx hb hd rfl (h.2 p e s m args below meth cd R Z H locs ls cells slots hC hZ hR hS hl hc hn)
set_option maxHeartbeats 4000000 in
theorem sS_aload_n {l : Launch} {b base L : Nat} {xs : Nat → Int32} {D : va_G} {κ : Nat → ClassId} {k : Fin 4} : pm_S l b base L xs D κ (.aload_n k) := by
  intro y pc a bb lv st G c n Q hy hd hln h p e s m args below meth cd R Z H locs ls cells slots hC hZ hR hS hl hc hn
  obtain ⟨hx, hb, hml, hown, hnm, hts, hns, hao, hK, hX, hbb, hbs, hbd, hbl⟩ := id hC
  unfold pm_I at h
  dsimp only at h hR hl hc hn ⊢
  split at h
  · next x e1 => exact lv_aload_n hx hb hd rfl (pm_lv_at hl e1) (h.2 p e s m args below meth cd R Z H locs ls cells slots hC hZ hR hS hl hc hn)
  · next e1 => exact lv_aload_nN hx hb hd rfl (pm_lv_at hl e1) (h.2 p e s m args below meth cd R Z H locs ls cells slots hC hZ hR hS hl hc hn)
  · exact h.elim
set_option maxHeartbeats 4000000 in
theorem sS_aload {l : Launch} {b base L : Nat} {xs : Nat → Int32} {D : va_G} {κ : Nat → ClassId} {k : Nat} : pm_S l b base L xs D κ (.aload k) := by
  intro y pc a bb lv st G c n Q hy hd hln h p e s m args below meth cd R Z H locs ls cells slots hC hZ hR hS hl hc hn
  obtain ⟨hx, hb, hml, hown, hnm, hts, hns, hao, hK, hX, hbb, hbs, hbd, hbl⟩ := id hC
  unfold pm_I at h
  dsimp only at h hR hl hc hn ⊢
  split at h
  · next x e1 => exact lv_aload hx hb hd (pm_lv_at hl e1) (h.2 p e s m args below meth cd R Z H locs ls cells slots hC hZ hR hS hl hc hn)
  · next e1 => exact lv_aloadN hx hb hd (pm_lv_at hl e1) (h.2 p e s m args below meth cd R Z H locs ls cells slots hC hZ hR hS hl hc hn)
  · exact h.elim
set_option maxHeartbeats 4000000 in
theorem sS_iload_n {l : Launch} {b base L : Nat} {xs : Nat → Int32} {D : va_G} {κ : Nat → ClassId} {k : Fin 4} : pm_S l b base L xs D κ (.iload_n k) := by
  intro y pc a bb lv st G c n Q hy hd hln h p e s m args below meth cd R Z H locs ls cells slots hC hZ hR hS hl hc hn
  obtain ⟨hx, hb, hml, hown, hnm, hts, hns, hao, hK, hX, hbb, hbs, hbd, hbl⟩ := id hC
  unfold pm_I at h
  dsimp only at h hR hl hc hn ⊢
  split at h
  · next x e1 => exact lv_iload_n hx hb hd rfl (pm_lv_at hl e1) (h.2 p e s m args below meth cd R Z H locs ls cells slots hC hZ hR hS hl hc hn)
  · exact h.elim
set_option maxHeartbeats 4000000 in
theorem sS_iload {l : Launch} {b base L : Nat} {xs : Nat → Int32} {D : va_G} {κ : Nat → ClassId} {k : Nat} : pm_S l b base L xs D κ (.iload k) := by
  intro y pc a bb lv st G c n Q hy hd hln h p e s m args below meth cd R Z H locs ls cells slots hC hZ hR hS hl hc hn
  obtain ⟨hx, hb, hml, hown, hnm, hts, hns, hao, hK, hX, hbb, hbs, hbd, hbl⟩ := id hC
  unfold pm_I at h
  dsimp only at h hR hl hc hn ⊢
  split at h
  · next x e1 => exact lv_iload hx hb hd (pm_lv_at hl e1) (h.2 p e s m args below meth cd R Z H locs ls cells slots hC hZ hR hS hl hc hn)
  · exact h.elim
set_option maxHeartbeats 4000000 in
theorem sS_lload_n {l : Launch} {b base L : Nat} {xs : Nat → Int32} {D : va_G} {κ : Nat → ClassId} {k : Fin 4} : pm_S l b base L xs D κ (.lload_n k) := by
  intro y pc a bb lv st G c n Q hy hd hln h p e s m args below meth cd R Z H locs ls cells slots hC hZ hR hS hl hc hn
  obtain ⟨hx, hb, hml, hown, hnm, hts, hns, hao, hK, hX, hbb, hbs, hbd, hbl⟩ := id hC
  unfold pm_I at h
  dsimp only at h hR hl hc hn ⊢
  split at h
  · next x e1 => exact lv_lload_n hx hb hd rfl (pm_lv_at hl e1) (h.2 p e s m args below meth cd R Z H locs ls cells slots hC hZ hR hS hl hc hn)
  · exact h.elim
set_option maxHeartbeats 4000000 in
theorem sS_lload {l : Launch} {b base L : Nat} {xs : Nat → Int32} {D : va_G} {κ : Nat → ClassId} {k : Nat} : pm_S l b base L xs D κ (.lload k) := by
  intro y pc a bb lv st G c n Q hy hd hln h p e s m args below meth cd R Z H locs ls cells slots hC hZ hR hS hl hc hn
  obtain ⟨hx, hb, hml, hown, hnm, hts, hns, hao, hK, hX, hbb, hbs, hbd, hbl⟩ := id hC
  unfold pm_I at h
  dsimp only at h hR hl hc hn ⊢
  split at h
  · next x e1 => exact lv_lload hx hb hd (pm_lv_at hl e1) (h.2 p e s m args below meth cd R Z H locs ls cells slots hC hZ hR hS hl hc hn)
  · exact h.elim
set_option maxHeartbeats 4000000 in
theorem sS_istore_n {l : Launch} {b base L : Nat} {xs : Nat → Int32} {D : va_G} {κ : Nat → ClassId} {k : Fin 4} : pm_S l b base L xs D κ (.istore_n k) := by
  intro y pc a bb lv st G c n Q hy hd hln h p e s m args below meth cd R Z H locs ls cells slots hC hZ hR hS hl hc hn
  obtain ⟨hx, hb, hml, hown, hnm, hts, hns, hao, hK, hX, hbb, hbs, hbd, hbl⟩ := id hC
  unfold pm_I at h
  dsimp only at h hR hl hc hn ⊢
  split at h
  · next x r => exact lv_istore_n hx hb hd rfl hl (pm_blt h.1) (pm_s1_map lv k (.int x)) (fun ls hl => h.2 p e s m args below meth cd R Z H locs ls cells slots hC hZ hR hS hl hc hn)
  · exact h.elim
set_option maxHeartbeats 4000000 in
theorem sS_istore {l : Launch} {b base L : Nat} {xs : Nat → Int32} {D : va_G} {κ : Nat → ClassId} {k : Nat} : pm_S l b base L xs D κ (.istore k) := by
  intro y pc a bb lv st G c n Q hy hd hln h p e s m args below meth cd R Z H locs ls cells slots hC hZ hR hS hl hc hn
  obtain ⟨hx, hb, hml, hown, hnm, hts, hns, hao, hK, hX, hbb, hbs, hbd, hbl⟩ := id hC
  unfold pm_I at h
  dsimp only at h hR hl hc hn ⊢
  split at h
  · next x r => exact lv_istore hx hb hd hl (pm_blt h.1) (pm_s1_map lv k (.int x)) (fun ls hl => h.2 p e s m args below meth cd R Z H locs ls cells slots hC hZ hR hS hl hc hn)
  · exact h.elim
set_option maxHeartbeats 4000000 in
theorem sS_lstore_n {l : Launch} {b base L : Nat} {xs : Nat → Int32} {D : va_G} {κ : Nat → ClassId} {k : Fin 4} : pm_S l b base L xs D κ (.lstore_n k) := by
  intro y pc a bb lv st G c n Q hy hd hln h p e s m args below meth cd R Z H locs ls cells slots hC hZ hR hS hl hc hn
  obtain ⟨hx, hb, hml, hown, hnm, hts, hns, hao, hK, hX, hbb, hbs, hbd, hbl⟩ := id hC
  unfold pm_I at h
  dsimp only at h hR hl hc hn ⊢
  split at h
  · next x r => exact lv_lstore_n hx hb hd rfl hl (pm_blt h.1) (pm_s2_map lv k (.long x)) (fun ls hl => h.2 p e s m args below meth cd R Z H locs ls cells slots hC hZ hR hS hl hc hn)
  · exact h.elim
set_option maxHeartbeats 4000000 in
theorem sS_lstore {l : Launch} {b base L : Nat} {xs : Nat → Int32} {D : va_G} {κ : Nat → ClassId} {k : Nat} : pm_S l b base L xs D κ (.lstore k) := by
  intro y pc a bb lv st G c n Q hy hd hln h p e s m args below meth cd R Z H locs ls cells slots hC hZ hR hS hl hc hn
  obtain ⟨hx, hb, hml, hown, hnm, hts, hns, hao, hK, hX, hbb, hbs, hbd, hbl⟩ := id hC
  unfold pm_I at h
  dsimp only at h hR hl hc hn ⊢
  split at h
  · next x r => exact lv_lstore hx hb hd hl (pm_blt h.1) (pm_s2_map lv k (.long x)) (fun ls hl => h.2 p e s m args below meth cd R Z H locs ls cells slots hC hZ hR hS hl hc hn)
  · exact h.elim
set_option maxHeartbeats 4000000 in
theorem sS_astore_n {l : Launch} {b base L : Nat} {xs : Nat → Int32} {D : va_G} {κ : Nat → ClassId} {k : Fin 4} : pm_S l b base L xs D κ (.astore_n k) := by
  intro y pc a bb lv st G c n Q hy hd hln h p e s m args below meth cd R Z H locs ls cells slots hC hZ hR hS hl hc hn
  obtain ⟨hx, hb, hml, hown, hnm, hts, hns, hao, hK, hX, hbb, hbs, hbd, hbl⟩ := id hC
  unfold pm_I at h
  dsimp only at h hR hl hc hn ⊢
  split at h
  · next x r => exact lv_astore_n hx hb hd rfl hl (pm_blt h.1) (pm_s1_map lv k (.ref x)) (fun ls hl => h.2 p e s m args below meth cd R Z H locs ls cells slots hC hZ hR hS hl hc hn)
  · next r => exact lv_astore_nN hx hb hd rfl hl (pm_blt h.1) (pm_s1_map lv k .null) (fun ls hl => h.2 p e s m args below meth cd R Z H locs ls cells slots hC hZ hR hS hl hc hn)
  · exact h.elim
set_option maxHeartbeats 4000000 in
theorem sS_astore {l : Launch} {b base L : Nat} {xs : Nat → Int32} {D : va_G} {κ : Nat → ClassId} {k : Nat} : pm_S l b base L xs D κ (.astore k) := by
  intro y pc a bb lv st G c n Q hy hd hln h p e s m args below meth cd R Z H locs ls cells slots hC hZ hR hS hl hc hn
  obtain ⟨hx, hb, hml, hown, hnm, hts, hns, hao, hK, hX, hbb, hbs, hbd, hbl⟩ := id hC
  unfold pm_I at h
  dsimp only at h hR hl hc hn ⊢
  split at h
  · next x r => exact lv_astore hx hb hd hl (pm_blt h.1) (pm_s1_map lv k (.ref x)) (fun ls hl => h.2 p e s m args below meth cd R Z H locs ls cells slots hC hZ hR hS hl hc hn)
  · next r => exact lv_astoreN hx hb hd hl (pm_blt h.1) (pm_s1_map lv k .null) (fun ls hl => h.2 p e s m args below meth cd R Z H locs ls cells slots hC hZ hR hS hl hc hn)
  · exact h.elim
set_option maxHeartbeats 4000000 in
theorem sS_iinc {l : Launch} {b base L : Nat} {xs : Nat → Int32} {D : va_G} {κ : Nat → ClassId} {k : Nat} {d : Int} : pm_S l b base L xs D κ (.iinc k d) := by
  intro y pc a bb lv st G c n Q hy hd hln h p e s m args below meth cd R Z H locs ls cells slots hC hZ hR hS hl hc hn
  obtain ⟨hx, hb, hml, hown, hnm, hts, hns, hao, hK, hX, hbb, hbs, hbd, hbl⟩ := id hC
  unfold pm_I at h
  dsimp only at h hR hl hc hn ⊢
  split at h
  · next x e1 =>
    obtain ⟨q, hq⟩ := List.getElem?_of_mem (List.mem_map.mpr ⟨(k, .int x), pm_lv_mem e1, rfl⟩ : (k, Value.int x) ∈ lv.map (fun q => (q.1, pm_v b base q.2)))
    exact lv_iinc hx hb hd hl hq rfl (pm_blt h.1) (pm_s1_map lv k (.int (x + Int32.ofInt d))) (fun ls hl => h.2 p e s m args below meth cd R Z H locs ls cells slots hC hZ hR hS hl hc hn)
  · exact h.elim
set_option maxHeartbeats 4000000 in
theorem sS_iadd {l : Launch} {b base L : Nat} {xs : Nat → Int32} {D : va_G} {κ : Nat → ClassId} : pm_S l b base L xs D κ (.iadd) := by
  intro y pc a bb lv st G c n Q hy hd hln h p e s m args below meth cd R Z H locs ls cells slots hC hZ hR hS hl hc hn
  obtain ⟨hx, hb, hml, hown, hnm, hts, hns, hao, hK, hX, hbb, hbs, hbd, hbl⟩ := id hC
  unfold pm_I at h
  dsimp only at h hR hl hc hn ⊢
  split at h
  · exact lv_iadd hx hb hd (h.2 p e s m args below meth cd R Z H locs ls cells slots hC hZ hR hS hl hc hn)
  · exact h.elim
set_option maxHeartbeats 4000000 in
theorem sS_isub {l : Launch} {b base L : Nat} {xs : Nat → Int32} {D : va_G} {κ : Nat → ClassId} : pm_S l b base L xs D κ (.isub) := by
  intro y pc a bb lv st G c n Q hy hd hln h p e s m args below meth cd R Z H locs ls cells slots hC hZ hR hS hl hc hn
  obtain ⟨hx, hb, hml, hown, hnm, hts, hns, hao, hK, hX, hbb, hbs, hbd, hbl⟩ := id hC
  unfold pm_I at h
  dsimp only at h hR hl hc hn ⊢
  split at h
  · exact lv_isub hx hb hd (h.2 p e s m args below meth cd R Z H locs ls cells slots hC hZ hR hS hl hc hn)
  · exact h.elim
set_option maxHeartbeats 4000000 in
theorem sS_imul {l : Launch} {b base L : Nat} {xs : Nat → Int32} {D : va_G} {κ : Nat → ClassId} : pm_S l b base L xs D κ (.imul) := by
  intro y pc a bb lv st G c n Q hy hd hln h p e s m args below meth cd R Z H locs ls cells slots hC hZ hR hS hl hc hn
  obtain ⟨hx, hb, hml, hown, hnm, hts, hns, hao, hK, hX, hbb, hbs, hbd, hbl⟩ := id hC
  unfold pm_I at h
  dsimp only at h hR hl hc hn ⊢
  split at h
  · exact lv_imul hx hb hd (h.2 p e s m args below meth cd R Z H locs ls cells slots hC hZ hR hS hl hc hn)
  · exact h.elim
set_option maxHeartbeats 4000000 in
theorem sS_iand {l : Launch} {b base L : Nat} {xs : Nat → Int32} {D : va_G} {κ : Nat → ClassId} : pm_S l b base L xs D κ (.iand) := by
  intro y pc a bb lv st G c n Q hy hd hln h p e s m args below meth cd R Z H locs ls cells slots hC hZ hR hS hl hc hn
  obtain ⟨hx, hb, hml, hown, hnm, hts, hns, hao, hK, hX, hbb, hbs, hbd, hbl⟩ := id hC
  unfold pm_I at h
  dsimp only at h hR hl hc hn ⊢
  split at h
  · exact lv_iand hx hb hd (h.2 p e s m args below meth cd R Z H locs ls cells slots hC hZ hR hS hl hc hn)
  · exact h.elim
set_option maxHeartbeats 4000000 in
theorem sS_ior {l : Launch} {b base L : Nat} {xs : Nat → Int32} {D : va_G} {κ : Nat → ClassId} : pm_S l b base L xs D κ (.ior) := by
  intro y pc a bb lv st G c n Q hy hd hln h p e s m args below meth cd R Z H locs ls cells slots hC hZ hR hS hl hc hn
  obtain ⟨hx, hb, hml, hown, hnm, hts, hns, hao, hK, hX, hbb, hbs, hbd, hbl⟩ := id hC
  unfold pm_I at h
  dsimp only at h hR hl hc hn ⊢
  split at h
  · exact lv_ior hx hb hd (h.2 p e s m args below meth cd R Z H locs ls cells slots hC hZ hR hS hl hc hn)
  · exact h.elim
set_option maxHeartbeats 4000000 in
theorem sS_ixor {l : Launch} {b base L : Nat} {xs : Nat → Int32} {D : va_G} {κ : Nat → ClassId} : pm_S l b base L xs D κ (.ixor) := by
  intro y pc a bb lv st G c n Q hy hd hln h p e s m args below meth cd R Z H locs ls cells slots hC hZ hR hS hl hc hn
  obtain ⟨hx, hb, hml, hown, hnm, hts, hns, hao, hK, hX, hbb, hbs, hbd, hbl⟩ := id hC
  unfold pm_I at h
  dsimp only at h hR hl hc hn ⊢
  split at h
  · exact lv_ixor hx hb hd (h.2 p e s m args below meth cd R Z H locs ls cells slots hC hZ hR hS hl hc hn)
  · exact h.elim
set_option maxHeartbeats 4000000 in
theorem sS_ishl {l : Launch} {b base L : Nat} {xs : Nat → Int32} {D : va_G} {κ : Nat → ClassId} : pm_S l b base L xs D κ (.ishl) := by
  intro y pc a bb lv st G c n Q hy hd hln h p e s m args below meth cd R Z H locs ls cells slots hC hZ hR hS hl hc hn
  obtain ⟨hx, hb, hml, hown, hnm, hts, hns, hao, hK, hX, hbb, hbs, hbd, hbl⟩ := id hC
  unfold pm_I at h
  dsimp only at h hR hl hc hn ⊢
  split at h
  · exact lv_ishl hx hb hd (h.2 p e s m args below meth cd R Z H locs ls cells slots hC hZ hR hS hl hc hn)
  · exact h.elim
set_option maxHeartbeats 4000000 in
theorem sS_ishr {l : Launch} {b base L : Nat} {xs : Nat → Int32} {D : va_G} {κ : Nat → ClassId} : pm_S l b base L xs D κ (.ishr) := by
  intro y pc a bb lv st G c n Q hy hd hln h p e s m args below meth cd R Z H locs ls cells slots hC hZ hR hS hl hc hn
  obtain ⟨hx, hb, hml, hown, hnm, hts, hns, hao, hK, hX, hbb, hbs, hbd, hbl⟩ := id hC
  unfold pm_I at h
  dsimp only at h hR hl hc hn ⊢
  split at h
  · exact lv_ishr hx hb hd (h.2 p e s m args below meth cd R Z H locs ls cells slots hC hZ hR hS hl hc hn)
  · exact h.elim
set_option maxHeartbeats 4000000 in
theorem sS_ladd {l : Launch} {b base L : Nat} {xs : Nat → Int32} {D : va_G} {κ : Nat → ClassId} : pm_S l b base L xs D κ (.ladd) := by
  intro y pc a bb lv st G c n Q hy hd hln h p e s m args below meth cd R Z H locs ls cells slots hC hZ hR hS hl hc hn
  obtain ⟨hx, hb, hml, hown, hnm, hts, hns, hao, hK, hX, hbb, hbs, hbd, hbl⟩ := id hC
  unfold pm_I at h
  dsimp only at h hR hl hc hn ⊢
  split at h
  · exact lv_ladd hx hb hd (h.2 p e s m args below meth cd R Z H locs ls cells slots hC hZ hR hS hl hc hn)
  · exact h.elim
set_option maxHeartbeats 4000000 in
theorem sS_lsub {l : Launch} {b base L : Nat} {xs : Nat → Int32} {D : va_G} {κ : Nat → ClassId} : pm_S l b base L xs D κ (.lsub) := by
  intro y pc a bb lv st G c n Q hy hd hln h p e s m args below meth cd R Z H locs ls cells slots hC hZ hR hS hl hc hn
  obtain ⟨hx, hb, hml, hown, hnm, hts, hns, hao, hK, hX, hbb, hbs, hbd, hbl⟩ := id hC
  unfold pm_I at h
  dsimp only at h hR hl hc hn ⊢
  split at h
  · exact lv_lsub hx hb hd (h.2 p e s m args below meth cd R Z H locs ls cells slots hC hZ hR hS hl hc hn)
  · exact h.elim
set_option maxHeartbeats 4000000 in
theorem sS_land {l : Launch} {b base L : Nat} {xs : Nat → Int32} {D : va_G} {κ : Nat → ClassId} : pm_S l b base L xs D κ (.land) := by
  intro y pc a bb lv st G c n Q hy hd hln h p e s m args below meth cd R Z H locs ls cells slots hC hZ hR hS hl hc hn
  obtain ⟨hx, hb, hml, hown, hnm, hts, hns, hao, hK, hX, hbb, hbs, hbd, hbl⟩ := id hC
  unfold pm_I at h
  dsimp only at h hR hl hc hn ⊢
  split at h
  · exact lv_land hx hb hd (h.2 p e s m args below meth cd R Z H locs ls cells slots hC hZ hR hS hl hc hn)
  · exact h.elim
set_option maxHeartbeats 4000000 in
theorem sS_lor {l : Launch} {b base L : Nat} {xs : Nat → Int32} {D : va_G} {κ : Nat → ClassId} : pm_S l b base L xs D κ (.lor) := by
  intro y pc a bb lv st G c n Q hy hd hln h p e s m args below meth cd R Z H locs ls cells slots hC hZ hR hS hl hc hn
  obtain ⟨hx, hb, hml, hown, hnm, hts, hns, hao, hK, hX, hbb, hbs, hbd, hbl⟩ := id hC
  unfold pm_I at h
  dsimp only at h hR hl hc hn ⊢
  split at h
  · exact lv_lor hx hb hd (h.2 p e s m args below meth cd R Z H locs ls cells slots hC hZ hR hS hl hc hn)
  · exact h.elim
set_option maxHeartbeats 4000000 in
theorem sS_lxor {l : Launch} {b base L : Nat} {xs : Nat → Int32} {D : va_G} {κ : Nat → ClassId} : pm_S l b base L xs D κ (.lxor) := by
  intro y pc a bb lv st G c n Q hy hd hln h p e s m args below meth cd R Z H locs ls cells slots hC hZ hR hS hl hc hn
  obtain ⟨hx, hb, hml, hown, hnm, hts, hns, hao, hK, hX, hbb, hbs, hbd, hbl⟩ := id hC
  unfold pm_I at h
  dsimp only at h hR hl hc hn ⊢
  split at h
  · exact lv_lxor hx hb hd (h.2 p e s m args below meth cd R Z H locs ls cells slots hC hZ hR hS hl hc hn)
  · exact h.elim
set_option maxHeartbeats 4000000 in
theorem sS_irem {l : Launch} {b base L : Nat} {xs : Nat → Int32} {D : va_G} {κ : Nat → ClassId} : pm_S l b base L xs D κ (.irem) := by
  intro y pc a bb lv st G c n Q hy hd hln h p e s m args below meth cd R Z H locs ls cells slots hC hZ hR hS hl hc hn
  obtain ⟨hx, hb, hml, hown, hnm, hts, hns, hao, hK, hX, hbb, hbs, hbd, hbl⟩ := id hC
  unfold pm_I at h
  dsimp only at h hR hl hc hn ⊢
  split at h
  · exact lv_irem hx hb hd (by simpa using h.1) (h.2 p e s m args below meth cd R Z H locs ls cells slots hC hZ hR hS hl hc hn)
  · exact h.elim
set_option maxHeartbeats 4000000 in
theorem sS_lshl {l : Launch} {b base L : Nat} {xs : Nat → Int32} {D : va_G} {κ : Nat → ClassId} : pm_S l b base L xs D κ (.lshl) := by
  intro y pc a bb lv st G c n Q hy hd hln h p e s m args below meth cd R Z H locs ls cells slots hC hZ hR hS hl hc hn
  obtain ⟨hx, hb, hml, hown, hnm, hts, hns, hao, hK, hX, hbb, hbs, hbd, hbl⟩ := id hC
  unfold pm_I at h
  dsimp only at h hR hl hc hn ⊢
  split at h
  · exact lv_lshl hx hb hd rfl (h.2 p e s m args below meth cd R Z H locs ls cells slots hC hZ hR hS hl hc hn)
  · exact h.elim
set_option maxHeartbeats 4000000 in
theorem sS_lshr {l : Launch} {b base L : Nat} {xs : Nat → Int32} {D : va_G} {κ : Nat → ClassId} : pm_S l b base L xs D κ (.lshr) := by
  intro y pc a bb lv st G c n Q hy hd hln h p e s m args below meth cd R Z H locs ls cells slots hC hZ hR hS hl hc hn
  obtain ⟨hx, hb, hml, hown, hnm, hts, hns, hao, hK, hX, hbb, hbs, hbd, hbl⟩ := id hC
  unfold pm_I at h
  dsimp only at h hR hl hc hn ⊢
  split at h
  · exact lv_lshr hx hb hd rfl (h.2 p e s m args below meth cd R Z H locs ls cells slots hC hZ hR hS hl hc hn)
  · exact h.elim
set_option maxHeartbeats 4000000 in
theorem sS_lushr {l : Launch} {b base L : Nat} {xs : Nat → Int32} {D : va_G} {κ : Nat → ClassId} : pm_S l b base L xs D κ (.lushr) := by
  intro y pc a bb lv st G c n Q hy hd hln h p e s m args below meth cd R Z H locs ls cells slots hC hZ hR hS hl hc hn
  obtain ⟨hx, hb, hml, hown, hnm, hts, hns, hao, hK, hX, hbb, hbs, hbd, hbl⟩ := id hC
  unfold pm_I at h
  dsimp only at h hR hl hc hn ⊢
  split at h
  · exact lv_lushr hx hb hd rfl (h.2 p e s m args below meth cd R Z H locs ls cells slots hC hZ hR hS hl hc hn)
  · exact h.elim
set_option maxHeartbeats 4000000 in
theorem sS_l2i {l : Launch} {b base L : Nat} {xs : Nat → Int32} {D : va_G} {κ : Nat → ClassId} : pm_S l b base L xs D κ (.l2i) := by
  intro y pc a bb lv st G c n Q hy hd hln h p e s m args below meth cd R Z H locs ls cells slots hC hZ hR hS hl hc hn
  obtain ⟨hx, hb, hml, hown, hnm, hts, hns, hao, hK, hX, hbb, hbs, hbd, hbl⟩ := id hC
  unfold pm_I at h
  dsimp only at h hR hl hc hn ⊢
  split at h
  · exact lv_l2i hx hb hd rfl (h.2 p e s m args below meth cd R Z H locs ls cells slots hC hZ hR hS hl hc hn)
  · exact h.elim
set_option maxHeartbeats 4000000 in
theorem sS_i2l {l : Launch} {b base L : Nat} {xs : Nat → Int32} {D : va_G} {κ : Nat → ClassId} : pm_S l b base L xs D κ (.i2l) := by
  intro y pc a bb lv st G c n Q hy hd hln h p e s m args below meth cd R Z H locs ls cells slots hC hZ hR hS hl hc hn
  obtain ⟨hx, hb, hml, hown, hnm, hts, hns, hao, hK, hX, hbb, hbs, hbd, hbl⟩ := id hC
  unfold pm_I at h
  dsimp only at h hR hl hc hn ⊢
  split at h
  · exact lv_i2l hx hb hd rfl (h.2 p e s m args below meth cd R Z H locs ls cells slots hC hZ hR hS hl hc hn)
  · exact h.elim
set_option maxHeartbeats 4000000 in
theorem sS_lcmp {l : Launch} {b base L : Nat} {xs : Nat → Int32} {D : va_G} {κ : Nat → ClassId} : pm_S l b base L xs D κ (.lcmp) := by
  intro y pc a bb lv st G c n Q hy hd hln h p e s m args below meth cd R Z H locs ls cells slots hC hZ hR hS hl hc hn
  obtain ⟨hx, hb, hml, hown, hnm, hts, hns, hao, hK, hX, hbb, hbs, hbd, hbl⟩ := id hC
  unfold pm_I at h
  dsimp only at h hR hl hc hn ⊢
  split at h
  · exact W.lcmp hx hb hd (h.2 p e s m args below meth cd R Z H locs ls cells slots hC hZ hR hS hl hc hn)
  · exact h.elim
set_option maxHeartbeats 4000000 in
theorem sS_dup {l : Launch} {b base L : Nat} {xs : Nat → Int32} {D : va_G} {κ : Nat → ClassId} : pm_S l b base L xs D κ (.dup) := by
  intro y pc a bb lv st G c n Q hy hd hln h p e s m args below meth cd R Z H locs ls cells slots hC hZ hR hS hl hc hn
  obtain ⟨hx, hb, hml, hown, hnm, hts, hns, hao, hK, hX, hbb, hbs, hbd, hbl⟩ := id hC
  unfold pm_I at h
  dsimp only at h hR hl hc hn ⊢
  split at h
  · exact lv_dup hx hb hd rfl (h.2 p e s m args below meth cd R Z H locs ls cells slots hC hZ hR hS hl hc hn)
  · exact lv_dup hx hb hd rfl (h.2 p e s m args below meth cd R Z H locs ls cells slots hC hZ hR hS hl hc hn)
  · exact lv_dup hx hb hd rfl (h.2 p e s m args below meth cd R Z H locs ls cells slots hC hZ hR hS hl hc hn)
  · exact h.elim
set_option maxHeartbeats 4000000 in
theorem sS_pop {l : Launch} {b base L : Nat} {xs : Nat → Int32} {D : va_G} {κ : Nat → ClassId} : pm_S l b base L xs D κ (.pop) := by
  intro y pc a bb lv st G c n Q hy hd hln h p e s m args below meth cd R Z H locs ls cells slots hC hZ hR hS hl hc hn
  obtain ⟨hx, hb, hml, hown, hnm, hts, hns, hao, hK, hX, hbb, hbs, hbd, hbl⟩ := id hC
  unfold pm_I at h
  dsimp only at h hR hl hc hn ⊢
  split at h
  · exact lv_pop hx hb hd rfl (h.2 p e s m args below meth cd R Z H locs ls cells slots hC hZ hR hS hl hc hn)
  · exact lv_pop hx hb hd rfl (h.2 p e s m args below meth cd R Z H locs ls cells slots hC hZ hR hS hl hc hn)
  · exact lv_pop hx hb hd rfl (h.2 p e s m args below meth cd R Z H locs ls cells slots hC hZ hR hS hl hc hn)
  · exact h.elim
set_option maxHeartbeats 4000000 in
theorem sS_dup2 {l : Launch} {b base L : Nat} {xs : Nat → Int32} {D : va_G} {κ : Nat → ClassId} : pm_S l b base L xs D κ (.dup2) := by
  intro y pc a bb lv st G c n Q hy hd hln h p e s m args below meth cd R Z H locs ls cells slots hC hZ hR hS hl hc hn
  obtain ⟨hx, hb, hml, hown, hnm, hts, hns, hao, hK, hX, hbb, hbs, hbd, hbl⟩ := id hC
  unfold pm_I at h
  dsimp only at h hR hl hc hn ⊢
  split at h
  · exact lv_dup2_11 hx hb hd rfl rfl (h.2 p e s m args below meth cd R Z H locs ls cells slots hC hZ hR hS hl hc hn)
  · exact lv_dup2_2 hx hb hd rfl (h.2 p e s m args below meth cd R Z H locs ls cells slots hC hZ hR hS hl hc hn)
  · exact h.elim
