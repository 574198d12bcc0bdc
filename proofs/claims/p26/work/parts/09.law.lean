section
def pm_S (l : Launch) (b base L : Nat) (xs : Nat → Int32) (D : va_G) (κ : Nat → ClassId) (i : Instr) : Prop := ∀ (y pc a bb : Nat) (lv : pm_L) (st : List Value) (G : pm_H) (c n : Nat) (Q : pm_Q), Nat.blt y 191 = true → decode (pm_by y) pc = .ok (pm_dec i a) → pm_lnk y pc i a bb = true → pm_K (pm_X l b base L xs D κ) y (pc, lv, st, G, c, n) Q (pm_I y i a bb pc lv st G c n) → pm_X l b base L xs D κ y (pc, lv, st, G, c, n) Q
set_option maxHeartbeats 4000000 in
theorem sS_aconst_null {l : Launch} {b base L : Nat} {xs : Nat → Int32} {D : va_G} {κ : Nat → ClassId} : pm_S l b base L xs D κ (.aconst_null) := by
  intro y pc a bb lv st G c n Q hy hd hln h p e s m args below meth cd R Z H locs ls cells slots hC hZ hR hS hl hc hn
  obtain ⟨hx, hb, hml, hown, hnm, hts, hns, hao, hK, hX, hbb, hbs, hbd, hbl⟩ := id hC
  unfold pm_I at h
  dsimp only at h hR hl hc hn ⊢
  exact lv_null hx hb hd (h.2 p e s m args below meth cd R Z H locs ls cells slots hC hZ hR hS hl hc hn)
set_option maxHeartbeats 4000000 in
theorem sS_iconst {l : Launch} {b base L : Nat} {xs : Nat → Int32} {D : va_G} {κ : Nat → ClassId} {k : Int} : pm_S l b base L xs D κ (.iconst k) := by
  intro y pc a bb lv st G c n Q hy hd hln h p e s m args below meth cd R Z H locs ls cells slots hC hZ hR hS hl hc hn
  obtain ⟨hx, hb, hml, hown, hnm, hts, hns, hao, hK, hX, hbb, hbs, hbd, hbl⟩ := id hC
  unfold pm_I at h
  dsimp only at h hR hl hc hn ⊢
  exact lv_iconst hx hb hd rfl (h.2 p e s m args below meth cd R Z H locs ls cells slots hC hZ hR hS hl hc hn)
set_option maxHeartbeats 4000000 in
theorem sS_bipush {l : Launch} {b base L : Nat} {xs : Nat → Int32} {D : va_G} {κ : Nat → ClassId} {k : Int} : pm_S l b base L xs D κ (.bipush k) := by
  intro y pc a bb lv st G c n Q hy hd hln h p e s m args below meth cd R Z H locs ls cells slots hC hZ hR hS hl hc hn
  obtain ⟨hx, hb, hml, hown, hnm, hts, hns, hao, hK, hX, hbb, hbs, hbd, hbl⟩ := id hC
  unfold pm_I at h
  dsimp only at h hR hl hc hn ⊢
  exact lv_bipush hx hb hd rfl (h.2 p e s m args below meth cd R Z H locs ls cells slots hC hZ hR hS hl hc hn)
set_option maxHeartbeats 4000000 in
theorem sS_sipush {l : Launch} {b base L : Nat} {xs : Nat → Int32} {D : va_G} {κ : Nat → ClassId} {k : Int} : pm_S l b base L xs D κ (.sipush k) := by
  intro y pc a bb lv st G c n Q hy hd hln h p e s m args below meth cd R Z H locs ls cells slots hC hZ hR hS hl hc hn
  obtain ⟨hx, hb, hml, hown, hnm, hts, hns, hao, hK, hX, hbb, hbs, hbd, hbl⟩ := id hC
  unfold pm_I at h
  dsimp only at h hR hl hc hn ⊢
  exact lv_sipush hx hb hd rfl (h.2 p e s m args below meth cd R Z H locs ls cells slots hC hZ hR hS hl hc hn)
set_option maxHeartbeats 4000000 in
theorem sS_lconst {l : Launch} {b base L : Nat} {xs : Nat → Int32} {D : va_G} {κ : Nat → ClassId} {k : Fin 2} : pm_S l b base L xs D κ (.lconst k) := by
  intro y pc a bb lv st G c n Q hy hd hln h p e s m args below meth cd R Z H locs ls cells slots hC hZ hR hS hl hc hn
  obtain ⟨hx, hb, hml, hown, hnm, hts, hns, hao, hK, hX, hbb, hbs, hbd, hbl⟩ := id hC
  unfold pm_I at h
  dsimp only at h hR hl hc hn ⊢
  exact lv_lconst hx hb hd rfl (h.2 p e s m args below meth cd R Z H locs ls cells slots hC hZ hR hS hl hc hn)
set_option maxHeartbeats 4000000 in
theorem sS_aload_n {l : Launch} {b base L : Nat} {xs : Nat → Int32} {D : va_G} {κ : Nat → ClassId} {k : Fin 4} : pm_S l b base L xs D κ (.aload_n k) := by
  intro y pc a bb lv st G c n Q hy hd hln h p e s m args below meth cd R Z H locs ls cells slots hC hZ hR hS hl hc hn
  obtain ⟨hx, hb, hml, hown, hnm, hts, hns, hao, hK, hX, hbb, hbs, hbd, hbl⟩ := id hC
  unfold pm_I at h
  dsimp only at h hR hl hc hn ⊢
  split at h
  · next x e1 => exact lv_aload_n hx hb hd rfl (pm_lv_at hl e1) (h.2 p e s m args below meth cd R Z H locs ls cells slots hC hZ hR hS hl hc hn)
  · next e1 => exact lv_aload_nN hx hb hd rfl (pm_lv_at hl e1) (h.2 p e s m args below meth cd R Z H locs ls cells slots hC hZ hR hS hl hc hn)
  · exact h.elim
set_option maxHeartbeats 4000000 in
theorem sS_aload {l : Launch} {b base L : Nat} {xs : Nat → Int32} {D : va_G} {κ : Nat → ClassId} {k : Nat} : pm_S l b base L xs D κ (.aload k) := by
  intro y pc a bb lv st G c n Q hy hd hln h p e s m args below meth cd R Z H locs ls cells slots hC hZ hR hS hl hc hn
  obtain ⟨hx, hb, hml, hown, hnm, hts, hns, hao, hK, hX, hbb, hbs, hbd, hbl⟩ := id hC
  unfold pm_I at h
  dsimp only at h hR hl hc hn ⊢
  split at h
  · next x e1 => exact lv_aload hx hb hd (pm_lv_at hl e1) (h.2 p e s m args below meth cd R Z H locs ls cells slots hC hZ hR hS hl hc hn)
  · next e1 => exact lv_aloadN hx hb hd (pm_lv_at hl e1) (h.2 p e s m args below meth cd R Z H locs ls cells slots hC hZ hR hS hl hc hn)
  · exact h.elim
set_option maxHeartbeats 4000000 in
theorem sS_iload_n {l : Launch} {b base L : Nat} {xs : Nat → Int32} {D : va_G} {κ : Nat → ClassId} {k : Fin 4} : pm_S l b base L xs D κ (.iload_n k) := by
  intro y pc a bb lv st G c n Q hy hd hln h p e s m args below meth cd R Z H locs ls cells slots hC hZ hR hS hl hc hn
  obtain ⟨hx, hb, hml, hown, hnm, hts, hns, hao, hK, hX, hbb, hbs, hbd, hbl⟩ := id hC
  unfold pm_I at h
  dsimp only at h hR hl hc hn ⊢
  split at h
  · next x e1 => exact lv_iload_n hx hb hd rfl (pm_lv_at hl e1) (h.2 p e s m args below meth cd R Z H locs ls cells slots hC hZ hR hS hl hc hn)
  · exact h.elim
set_option maxHeartbeats 4000000 in
theorem sS_iload {l : Launch} {b base L : Nat} {xs : Nat → Int32} {D : va_G} {κ : Nat → ClassId} {k : Nat} : pm_S l b base L xs D κ (.iload k) := by
  intro y pc a bb lv st G c n Q hy hd hln h p e s m args below meth cd R Z H locs ls cells slots hC hZ hR hS hl hc hn
  obtain ⟨hx, hb, hml, hown, hnm, hts, hns, hao, hK, hX, hbb, hbs, hbd, hbl⟩ := id hC
  unfold pm_I at h
  dsimp only at h hR hl hc hn ⊢
  split at h
  · next x e1 => exact lv_iload hx hb hd (pm_lv_at hl e1) (h.2 p e s m args below meth cd R Z H locs ls cells slots hC hZ hR hS hl hc hn)
  · exact h.elim
set_option maxHeartbeats 4000000 in
theorem sS_lload_n {l : Launch} {b base L : Nat} {xs : Nat → Int32} {D : va_G} {κ : Nat → ClassId} {k : Fin 4} : pm_S l b base L xs D κ (.lload_n k) := by
  intro y pc a bb lv st G c n Q hy hd hln h p e s m args below meth cd R Z H locs ls cells slots hC hZ hR hS hl hc hn
  obtain ⟨hx, hb, hml, hown, hnm, hts, hns, hao, hK, hX, hbb, hbs, hbd, hbl⟩ := id hC
  unfold pm_I at h
  dsimp only at h hR hl hc hn ⊢
  split at h
  · next x e1 => exact lv_lload_n hx hb hd rfl (pm_lv_at hl e1) (h.2 p e s m args below meth cd R Z H locs ls cells slots hC hZ hR hS hl hc hn)
  · exact h.elim
set_option maxHeartbeats 4000000 in
theorem sS_lload {l : Launch} {b base L : Nat} {xs : Nat → Int32} {D : va_G} {κ : Nat → ClassId} {k : Nat} : pm_S l b base L xs D κ (.lload k) := by
  intro y pc a bb lv st G c n Q hy hd hln h p e s m args below meth cd R Z H locs ls cells slots hC hZ hR hS hl hc hn
  obtain ⟨hx, hb, hml, hown, hnm, hts, hns, hao, hK, hX, hbb, hbs, hbd, hbl⟩ := id hC
  unfold pm_I at h
  dsimp only at h hR hl hc hn ⊢
  split at h
  · next x e1 => exact lv_lload hx hb hd (pm_lv_at hl e1) (h.2 p e s m args below meth cd R Z H locs ls cells slots hC hZ hR hS hl hc hn)
  · exact h.elim
set_option maxHeartbeats 4000000 in
theorem sS_istore_n {l : Launch} {b base L : Nat} {xs : Nat → Int32} {D : va_G} {κ : Nat → ClassId} {k : Fin 4} : pm_S l b base L xs D κ (.istore_n k) := by
  intro y pc a bb lv st G c n Q hy hd hln h p e s m args below meth cd R Z H locs ls cells slots hC hZ hR hS hl hc hn
  obtain ⟨hx, hb, hml, hown, hnm, hts, hns, hao, hK, hX, hbb, hbs, hbd, hbl⟩ := id hC
  unfold pm_I at h
  dsimp only at h hR hl hc hn ⊢
  split at h
  · next x r => exact lv_istore_n hx hb hd rfl hl (pm_blt h.1) (pm_s1_map lv k (.int x)) (fun ls hl => h.2 p e s m args below meth cd R Z H locs ls cells slots hC hZ hR hS hl hc hn)
  · exact h.elim
set_option maxHeartbeats 4000000 in
theorem sS_istore {l : Launch} {b base L : Nat} {xs : Nat → Int32} {D : va_G} {κ : Nat → ClassId} {k : Nat} : pm_S l b base L xs D κ (.istore k) := by
  intro y pc a bb lv st G c n Q hy hd hln h p e s m args below meth cd R Z H locs ls cells slots hC hZ hR hS hl hc hn
  obtain ⟨hx, hb, hml, hown, hnm, hts, hns, hao, hK, hX, hbb, hbs, hbd, hbl⟩ := id hC
  unfold pm_I at h
  dsimp only at h hR hl hc hn ⊢
  split at h
  · next x r => exact lv_istore hx hb hd hl (pm_blt h.1) (pm_s1_map lv k (.int x)) (fun ls hl => h.2 p e s m args below meth cd R Z H locs ls cells slots hC hZ hR hS hl hc hn)
  · exact h.elim
set_option maxHeartbeats 4000000 in
theorem sS_lstore_n {l : Launch} {b base L : Nat} {xs : Nat → Int32} {D : va_G} {κ : Nat → ClassId} {k : Fin 4} : pm_S l b base L xs D κ (.lstore_n k) := by
  intro y pc a bb lv st G c n Q hy hd hln h p e s m args below meth cd R Z H locs ls cells slots hC hZ hR hS hl hc hn
  obtain ⟨hx, hb, hml, hown, hnm, hts, hns, hao, hK, hX, hbb, hbs, hbd, hbl⟩ := id hC
  unfold pm_I at h
  dsimp only at h hR hl hc hn ⊢
  split at h
  · next x r => exact lv_lstore_n hx hb hd rfl hl (pm_blt h.1) (pm_s2_map lv k (.long x)) (fun ls hl => h.2 p e s m args below meth cd R Z H locs ls cells slots hC hZ hR hS hl hc hn)
  · exact h.elim
set_option maxHeartbeats 4000000 in
theorem sS_lstore {l : Launch} {b base L : Nat} {xs : Nat → Int32} {D : va_G} {κ : Nat → ClassId} {k : Nat} : pm_S l b base L xs D κ (.lstore k) := by
  intro y pc a bb lv st G c n Q hy hd hln h p e s m args below meth cd R Z H locs ls cells slots hC hZ hR hS hl hc hn
  obtain ⟨hx, hb, hml, hown, hnm, hts, hns, hao, hK, hX, hbb, hbs, hbd, hbl⟩ := id hC
  unfold pm_I at h
  dsimp only at h hR hl hc hn ⊢
  split at h
  · next x r => exact lv_lstore hx hb hd hl (pm_blt h.1) (pm_s2_map lv k (.long x)) (fun ls hl => h.2 p e s m args below meth cd R Z H locs ls cells slots hC hZ hR hS hl hc hn)
  · exact h.elim
set_option maxHeartbeats 4000000 in
theorem sS_astore_n {l : Launch} {b base L : Nat} {xs : Nat → Int32} {D : va_G} {κ : Nat → ClassId} {k : Fin 4} : pm_S l b base L xs D κ (.astore_n k) := by
  intro y pc a bb lv st G c n Q hy hd hln h p e s m args below meth cd R Z H locs ls cells slots hC hZ hR hS hl hc hn
  obtain ⟨hx, hb, hml, hown, hnm, hts, hns, hao, hK, hX, hbb, hbs, hbd, hbl⟩ := id hC
  unfold pm_I at h
  dsimp only at h hR hl hc hn ⊢
  split at h
  · next x r => exact lv_astore_n hx hb hd rfl hl (pm_blt h.1) (pm_s1_map lv k (.ref x)) (fun ls hl => h.2 p e s m args below meth cd R Z H locs ls cells slots hC hZ hR hS hl hc hn)
  · next r => exact lv_astore_nN hx hb hd rfl hl (pm_blt h.1) (pm_s1_map lv k .null) (fun ls hl => h.2 p e s m args below meth cd R Z H locs ls cells slots hC hZ hR hS hl hc hn)
  · exact h.elim
set_option maxHeartbeats 4000000 in
theorem sS_astore {l : Launch} {b base L : Nat} {xs : Nat → Int32} {D : va_G} {κ : Nat → ClassId} {k : Nat} : pm_S l b base L xs D κ (.astore k) := by
  intro y pc a bb lv st G c n Q hy hd hln h p e s m args below meth cd R Z H locs ls cells slots hC hZ hR hS hl hc hn
  obtain ⟨hx, hb, hml, hown, hnm, hts, hns, hao, hK, hX, hbb, hbs, hbd, hbl⟩ := id hC
  unfold pm_I at h
  dsimp only at h hR hl hc hn ⊢
  split at h
  · next x r => exact lv_astore hx hb hd hl (pm_blt h.1) (pm_s1_map lv k (.ref x)) (fun ls hl => h.2 p e s m args below meth cd R Z H locs ls cells slots hC hZ hR hS hl hc hn)
  · next r => exact lv_astoreN hx hb hd hl (pm_blt h.1) (pm_s1_map lv k .null) (fun ls hl => h.2 p e s m args below meth cd R Z H locs ls cells slots hC hZ hR hS hl hc hn)
  · exact h.elim
set_option maxHeartbeats 4000000 in
theorem sS_iinc {l : Launch} {b base L : Nat} {xs : Nat → Int32} {D : va_G} {κ : Nat → ClassId} {k : Nat} {d : Int} : pm_S l b base L xs D κ (.iinc k d) := by
  intro y pc a bb lv st G c n Q hy hd hln h p e s m args below meth cd R Z H locs ls cells slots hC hZ hR hS hl hc hn
  obtain ⟨hx, hb, hml, hown, hnm, hts, hns, hao, hK, hX, hbb, hbs, hbd, hbl⟩ := id hC
  unfold pm_I at h
  dsimp only at h hR hl hc hn ⊢
  split at h
  · next x e1 =>
    obtain ⟨q, hq⟩ := List.getElem?_of_mem (List.mem_map.mpr ⟨(k, .int x), pm_lv_mem e1, rfl⟩ : (k, Value.int x) ∈ lv.map (fun q => (q.1, pm_v b base q.2)))
    exact lv_iinc hx hb hd hl hq rfl (pm_blt h.1) (pm_s1_map lv k (.int (x + Int32.ofInt d))) (fun ls hl => h.2 p e s m args below meth cd R Z H locs ls cells slots hC hZ hR hS hl hc hn)
  · exact h.elim
set_option maxHeartbeats 4000000 in
theorem sS_iadd {l : Launch} {b base L : Nat} {xs : Nat → Int32} {D : va_G} {κ : Nat → ClassId} : pm_S l b base L xs D κ (.iadd) := by
  intro y pc a bb lv st G c n Q hy hd hln h p e s m args below meth cd R Z H locs ls cells slots hC hZ hR hS hl hc hn
  obtain ⟨hx, hb, hml, hown, hnm, hts, hns, hao, hK, hX, hbb, hbs, hbd, hbl⟩ := id hC
  unfold pm_I at h
  dsimp only at h hR hl hc hn ⊢
  split at h
  · exact lv_iadd hx hb hd (h.2 p e s m args below meth cd R Z H locs ls cells slots hC hZ hR hS hl hc hn)
  · exact h.elim
set_option maxHeartbeats 4000000 in
theorem sS_isub {l : Launch} {b base L : Nat} {xs : Nat → Int32} {D : va_G} {κ : Nat → ClassId} : pm_S l b base L xs D κ (.isub) := by
  intro y pc a bb lv st G c n Q hy hd hln h p e s m args below meth cd R Z H locs ls cells slots hC hZ hR hS hl hc hn
  obtain ⟨hx, hb, hml, hown, hnm, hts, hns, hao, hK, hX, hbb, hbs, hbd, hbl⟩ := id hC
  unfold pm_I at h
  dsimp only at h hR hl hc hn ⊢
  split at h
  · exact lv_isub hx hb hd (h.2 p e s m args below meth cd R Z H locs ls cells slots hC hZ hR hS hl hc hn)
  · exact h.elim
set_option maxHeartbeats 4000000 in
theorem sS_imul {l : Launch} {b base L : Nat} {xs : Nat → Int32} {D : va_G} {κ : Nat → ClassId} : pm_S l b base L xs D κ (.imul) := by
  intro y pc a bb lv st G c n Q hy hd hln h p e s m args below meth cd R Z H locs ls cells slots hC hZ hR hS hl hc hn
  obtain ⟨hx, hb, hml, hown, hnm, hts, hns, hao, hK, hX, hbb, hbs, hbd, hbl⟩ := id hC
  unfold pm_I at h
  dsimp only at h hR hl hc hn ⊢
  split at h
  · exact lv_imul hx hb hd (h.2 p e s m args below meth cd R Z H locs ls cells slots hC hZ hR hS hl hc hn)
  · exact h.elim
set_option maxHeartbeats 4000000 in
theorem sS_iand {l : Launch} {b base L : Nat} {xs : Nat → Int32} {D : va_G} {κ : Nat → ClassId} : pm_S l b base L xs D κ (.iand) := by
  intro y pc a bb lv st G c n Q hy hd hln h p e s m args below meth cd R Z H locs ls cells slots hC hZ hR hS hl hc hn
  obtain ⟨hx, hb, hml, hown, hnm, hts, hns, hao, hK, hX, hbb, hbs, hbd, hbl⟩ := id hC
  unfold pm_I at h
  dsimp only at h hR hl hc hn ⊢
  split at h
  · exact lv_iand hx hb hd (h.2 p e s m args below meth cd R Z H locs ls cells slots hC hZ hR hS hl hc hn)
  · exact h.elim
set_option maxHeartbeats 4000000 in
theorem sS_ior {l : Launch} {b base L : Nat} {xs : Nat → Int32} {D : va_G} {κ : Nat → ClassId} : pm_S l b base L xs D κ (.ior) := by
  intro y pc a bb lv st G c n Q hy hd hln h p e s m args below meth cd R Z H locs ls cells slots hC hZ hR hS hl hc hn
  obtain ⟨hx, hb, hml, hown, hnm, hts, hns, hao, hK, hX, hbb, hbs, hbd, hbl⟩ := id hC
  unfold pm_I at h
  dsimp only at h hR hl hc hn ⊢
  split at h
  · exact lv_ior hx hb hd (h.2 p e s m args below meth cd R Z H locs ls cells slots hC hZ hR hS hl hc hn)
  · exact h.elim
set_option maxHeartbeats 4000000 in
theorem sS_ixor {l : Launch} {b base L : Nat} {xs : Nat → Int32} {D : va_G} {κ : Nat → ClassId} : pm_S l b base L xs D κ (.ixor) := by
  intro y pc a bb lv st G c n Q hy hd hln h p e s m args below meth cd R Z H locs ls cells slots hC hZ hR hS hl hc hn
  obtain ⟨hx, hb, hml, hown, hnm, hts, hns, hao, hK, hX, hbb, hbs, hbd, hbl⟩ := id hC
  unfold pm_I at h
  dsimp only at h hR hl hc hn ⊢
  split at h
  · exact lv_ixor hx hb hd (h.2 p e s m args below meth cd R Z H locs ls cells slots hC hZ hR hS hl hc hn)
  · exact h.elim
set_option maxHeartbeats 4000000 in
theorem sS_ishl {l : Launch} {b base L : Nat} {xs : Nat → Int32} {D : va_G} {κ : Nat → ClassId} : pm_S l b base L xs D κ (.ishl) := by
  intro y pc a bb lv st G c n Q hy hd hln h p e s m args below meth cd R Z H locs ls cells slots hC hZ hR hS hl hc hn
  obtain ⟨hx, hb, hml, hown, hnm, hts, hns, hao, hK, hX, hbb, hbs, hbd, hbl⟩ := id hC
  unfold pm_I at h
  dsimp only at h hR hl hc hn ⊢
  split at h
  · exact lv_ishl hx hb hd (h.2 p e s m args below meth cd R Z H locs ls cells slots hC hZ hR hS hl hc hn)
  · exact h.elim
set_option maxHeartbeats 4000000 in
theorem sS_ishr {l : Launch} {b base L : Nat} {xs : Nat → Int32} {D : va_G} {κ : Nat → ClassId} : pm_S l b base L xs D κ (.ishr) := by
  intro y pc a bb lv st G c n Q hy hd hln h p e s m args below meth cd R Z H locs ls cells slots hC hZ hR hS hl hc hn
  obtain ⟨hx, hb, hml, hown, hnm, hts, hns, hao, hK, hX, hbb, hbs, hbd, hbl⟩ := id hC
  unfold pm_I at h
  dsimp only at h hR hl hc hn ⊢
  split at h
  · exact lv_ishr hx hb hd (h.2 p e s m args below meth cd R Z H locs ls cells slots hC hZ hR hS hl hc hn)
  · exact h.elim
set_option maxHeartbeats 4000000 in
theorem sS_ladd {l : Launch} {b base L : Nat} {xs : Nat → Int32} {D : va_G} {κ : Nat → ClassId} : pm_S l b base L xs D κ (.ladd) := by
  intro y pc a bb lv st G c n Q hy hd hln h p e s m args below meth cd R Z H locs ls cells slots hC hZ hR hS hl hc hn
  obtain ⟨hx, hb, hml, hown, hnm, hts, hns, hao, hK, hX, hbb, hbs, hbd, hbl⟩ := id hC
  unfold pm_I at h
  dsimp only at h hR hl hc hn ⊢
  split at h
  · exact lv_ladd hx hb hd (h.2 p e s m args below meth cd R Z H locs ls cells slots hC hZ hR hS hl hc hn)
  · exact h.elim
set_option maxHeartbeats 4000000 in
theorem sS_lsub {l : Launch} {b base L : Nat} {xs : Nat → Int32} {D : va_G} {κ : Nat → ClassId} : pm_S l b base L xs D κ (.lsub) := by
  intro y pc a bb lv st G c n Q hy hd hln h p e s m args below meth cd R Z H locs ls cells slots hC hZ hR hS hl hc hn
  obtain ⟨hx, hb, hml, hown, hnm, hts, hns, hao, hK, hX, hbb, hbs, hbd, hbl⟩ := id hC
  unfold pm_I at h
  dsimp only at h hR hl hc hn ⊢
  split at h
  · exact lv_lsub hx hb hd (h.2 p e s m args below meth cd R Z H locs ls cells slots hC hZ hR hS hl hc hn)
  · exact h.elim
set_option maxHeartbeats 4000000 in
theorem sS_land {l : Launch} {b base L : Nat} {xs : Nat → Int32} {D : va_G} {κ : Nat → ClassId} : pm_S l b base L xs D κ (.land) := by
  intro y pc a bb lv st G c n Q hy hd hln h p e s m args below meth cd R Z H locs ls cells slots hC hZ hR hS hl hc hn
  obtain ⟨hx, hb, hml, hown, hnm, hts, hns, hao, hK, hX, hbb, hbs, hbd, hbl⟩ := id hC
  unfold pm_I at h
  dsimp only at h hR hl hc hn ⊢
  split at h
  · exact lv_land hx hb hd (h.2 p e s m args below meth cd R Z H locs ls cells slots hC hZ hR hS hl hc hn)
  · exact h.elim
set_option maxHeartbeats 4000000 in
theorem sS_lor {l : Launch} {b base L : Nat} {xs : Nat → Int32} {D : va_G} {κ : Nat → ClassId} : pm_S l b base L xs D κ (.lor) := by
  intro y pc a bb lv st G c n Q hy hd hln h p e s m args below meth cd R Z H locs ls cells slots hC hZ hR hS hl hc hn
  obtain ⟨hx, hb, hml, hown, hnm, hts, hns, hao, hK, hX, hbb, hbs, hbd, hbl⟩ := id hC
  unfold pm_I at h
  dsimp only at h hR hl hc hn ⊢
  split at h
  · exact lv_lor hx hb hd (h.2 p e s m args below meth cd R Z H locs ls cells slots hC hZ hR hS hl hc hn)
  · exact h.elim
set_option maxHeartbeats 4000000 in
theorem sS_lxor {l : Launch} {b base L : Nat} {xs : Nat → Int32} {D : va_G} {κ : Nat → ClassId} : pm_S l b base L xs D κ (.lxor) := by
  intro y pc a bb lv st G c n Q hy hd hln h p e s m args below meth cd R Z H locs ls cells slots hC hZ hR hS hl hc hn
  obtain ⟨hx, hb, hml, hown, hnm, hts, hns, hao, hK, hX, hbb, hbs, hbd, hbl⟩ := id hC
  unfold pm_I at h
  dsimp only at h hR hl hc hn ⊢
  split at h
  · exact lv_lxor hx hb hd (h.2 p e s m args below meth cd R Z H locs ls cells slots hC hZ hR hS hl hc hn)
  · exact h.elim
set_option maxHeartbeats 4000000 in
theorem sS_irem {l : Launch} {b base L : Nat} {xs : Nat → Int32} {D : va_G} {κ : Nat → ClassId} : pm_S l b base L xs D κ (.irem) := by
  intro y pc a bb lv st G c n Q hy hd hln h p e s m args below meth cd R Z H locs ls cells slots hC hZ hR hS hl hc hn
  obtain ⟨hx, hb, hml, hown, hnm, hts, hns, hao, hK, hX, hbb, hbs, hbd, hbl⟩ := id hC
  unfold pm_I at h
  dsimp only at h hR hl hc hn ⊢
  split at h
  · exact lv_irem hx hb hd (by simpa using h.1) (h.2 p e s m args below meth cd R Z H locs ls cells slots hC hZ hR hS hl hc hn)
  · exact h.elim
set_option maxHeartbeats 4000000 in
theorem sS_lshl {l : Launch} {b base L : Nat} {xs : Nat → Int32} {D : va_G} {κ : Nat → ClassId} : pm_S l b base L xs D κ (.lshl) := by
  intro y pc a bb lv st G c n Q hy hd hln h p e s m args below meth cd R Z H locs ls cells slots hC hZ hR hS hl hc hn
  obtain ⟨hx, hb, hml, hown, hnm, hts, hns, hao, hK, hX, hbb, hbs, hbd, hbl⟩ := id hC
  unfold pm_I at h
  dsimp only at h hR hl hc hn ⊢
  split at h
  · exact lv_lshl hx hb hd rfl (h.2 p e s m args below meth cd R Z H locs ls cells slots hC hZ hR hS hl hc hn)
  · exact h.elim
set_option maxHeartbeats 4000000 in
theorem sS_lshr {l : Launch} {b base L : Nat} {xs : Nat → Int32} {D : va_G} {κ : Nat → ClassId} : pm_S l b base L xs D κ (.lshr) := by
  intro y pc a bb lv st G c n Q hy hd hln h p e s m args below meth cd R Z H locs ls cells slots hC hZ hR hS hl hc hn
  obtain ⟨hx, hb, hml, hown, hnm, hts, hns, hao, hK, hX, hbb, hbs, hbd, hbl⟩ := id hC
  unfold pm_I at h
  dsimp only at h hR hl hc hn ⊢
  split at h
  · exact lv_lshr hx hb hd rfl (h.2 p e s m args below meth cd R Z H locs ls cells slots hC hZ hR hS hl hc hn)
  · exact h.elim
set_option maxHeartbeats 4000000 in
theorem sS_lushr {l : Launch} {b base L : Nat} {xs : Nat → Int32} {D : va_G} {κ : Nat → ClassId} : pm_S l b base L xs D κ (.lushr) := by
  intro y pc a bb lv st G c n Q hy hd hln h p e s m args below meth cd R Z H locs ls cells slots hC hZ hR hS hl hc hn
  obtain ⟨hx, hb, hml, hown, hnm, hts, hns, hao, hK, hX, hbb, hbs, hbd, hbl⟩ := id hC
  unfold pm_I at h
  dsimp only at h hR hl hc hn ⊢
  split at h
  · exact lv_lushr hx hb hd rfl (h.2 p e s m args below meth cd R Z H locs ls cells slots hC hZ hR hS hl hc hn)
  · exact h.elim
set_option maxHeartbeats 4000000 in
theorem sS_l2i {l : Launch} {b base L : Nat} {xs : Nat → Int32} {D : va_G} {κ : Nat → ClassId} : pm_S l b base L xs D κ (.l2i) := by
  intro y pc a bb lv st G c n Q hy hd hln h p e s m args below meth cd R Z H locs ls cells slots hC hZ hR hS hl hc hn
  obtain ⟨hx, hb, hml, hown, hnm, hts, hns, hao, hK, hX, hbb, hbs, hbd, hbl⟩ := id hC
  unfold pm_I at h
  dsimp only at h hR hl hc hn ⊢
  split at h
  · exact lv_l2i hx hb hd rfl (h.2 p e s m args below meth cd R Z H locs ls cells slots hC hZ hR hS hl hc hn)
  · exact h.elim
set_option maxHeartbeats 4000000 in
theorem sS_i2l {l : Launch} {b base L : Nat} {xs : Nat → Int32} {D : va_G} {κ : Nat → ClassId} : pm_S l b base L xs D κ (.i2l) := by
  intro y pc a bb lv st G c n Q hy hd hln h p e s m args below meth cd R Z H locs ls cells slots hC hZ hR hS hl hc hn
  obtain ⟨hx, hb, hml, hown, hnm, hts, hns, hao, hK, hX, hbb, hbs, hbd, hbl⟩ := id hC
  unfold pm_I at h
  dsimp only at h hR hl hc hn ⊢
  split at h
  · exact lv_i2l hx hb hd rfl (h.2 p e s m args below meth cd R Z H locs ls cells slots hC hZ hR hS hl hc hn)
  · exact h.elim
set_option maxHeartbeats 4000000 in
theorem sS_lcmp {l : Launch} {b base L : Nat} {xs : Nat → Int32} {D : va_G} {κ : Nat → ClassId} : pm_S l b base L xs D κ (.lcmp) := by
  intro y pc a bb lv st G c n Q hy hd hln h p e s m args below meth cd R Z H locs ls cells slots hC hZ hR hS hl hc hn
  obtain ⟨hx, hb, hml, hown, hnm, hts, hns, hao, hK, hX, hbb, hbs, hbd, hbl⟩ := id hC
  unfold pm_I at h
  dsimp only at h hR hl hc hn ⊢
  split at h
  · exact W.lcmp hx hb hd (h.2 p e s m args below meth cd R Z H locs ls cells slots hC hZ hR hS hl hc hn)
  · exact h.elim
set_option maxHeartbeats 4000000 in
theorem sS_dup {l : Launch} {b base L : Nat} {xs : Nat → Int32} {D : va_G} {κ : Nat → ClassId} : pm_S l b base L xs D κ (.dup) := by
  intro y pc a bb lv st G c n Q hy hd hln h p e s m args below meth cd R Z H locs ls cells slots hC hZ hR hS hl hc hn
  obtain ⟨hx, hb, hml, hown, hnm, hts, hns, hao, hK, hX, hbb, hbs, hbd, hbl⟩ := id hC
  unfold pm_I at h
  dsimp only at h hR hl hc hn ⊢
  split at h
  · exact lv_dup hx hb hd rfl (h.2 p e s m args below meth cd R Z H locs ls cells slots hC hZ hR hS hl hc hn)
  · exact lv_dup hx hb hd rfl (h.2 p e s m args below meth cd R Z H locs ls cells slots hC hZ hR hS hl hc hn)
  · exact lv_dup hx hb hd rfl (h.2 p e s m args below meth cd R Z H locs ls cells slots hC hZ hR hS hl hc hn)
  · exact h.elim
set_option maxHeartbeats 4000000 in
theorem sS_pop {l : Launch} {b base L : Nat} {xs : Nat → Int32} {D : va_G} {κ : Nat → ClassId} : pm_S l b base L xs D κ (.pop) := by
  intro y pc a bb lv st G c n Q hy hd hln h p e s m args below meth cd R Z H locs ls cells slots hC hZ hR hS hl hc hn
  obtain ⟨hx, hb, hml, hown, hnm, hts, hns, hao, hK, hX, hbb, hbs, hbd, hbl⟩ := id hC
  unfold pm_I at h
  dsimp only at h hR hl hc hn ⊢
  split at h
  · exact lv_pop hx hb hd rfl (h.2 p e s m args below meth cd R Z H locs ls cells slots hC hZ hR hS hl hc hn)
  · exact lv_pop hx hb hd rfl (h.2 p e s m args below meth cd R Z H locs ls cells slots hC hZ hR hS hl hc hn)
  · exact lv_pop hx hb hd rfl (h.2 p e s m args below meth cd R Z H locs ls cells slots hC hZ hR hS hl hc hn)
  · exact h.elim
set_option maxHeartbeats 4000000 in
theorem sS_dup2 {l : Launch} {b base L : Nat} {xs : Nat → Int32} {D : va_G} {κ : Nat → ClassId} : pm_S l b base L xs D κ (.dup2) := by
  intro y pc a bb lv st G c n Q hy hd hln h p e s m args below meth cd R Z H locs ls cells slots hC hZ hR hS hl hc hn
  obtain ⟨hx, hb, hml, hown, hnm, hts, hns, hao, hK, hX, hbb, hbs, hbd, hbl⟩ := id hC
  unfold pm_I at h
  dsimp only at h hR hl hc hn ⊢
  split at h
  · exact lv_dup2_11 hx hb hd rfl rfl (h.2 p e s m args below meth cd R Z H locs ls cells slots hC hZ hR hS hl hc hn)
  · exact lv_dup2_2 hx hb hd rfl (h.2 p e s m args below meth cd R Z H locs ls cells slots hC hZ hR hS hl hc hn)
  · exact h.elim
theorem pm_ld_at {o ix : Nat} {v : Int64} (h : pm_ld o ix = some v) : Cond.constantLong (pm_cn o) ix v ∈ pm_tbl := by
  have h1 : pm_kl.any (fun e => decide (e.2 = (o, ix, v))) = true := by
    revert h
    unfold pm_ld
    intro h
    simp only [Bool.cond_eq_ite] at h
    repeat' split at h
    all_goals first | cases h | skip
    all_goals
      simp only [Nat.beq_eq] at *
      subst_vars
      decide +kernel
  obtain ⟨⟨p, o', ix', v'⟩, h1, h2⟩ := pm_any_all h1 pm_kl_ok
  cases of_decide_eq_true h1
  exact pm_has_in h2
set_option maxHeartbeats 4000000 in
theorem sS_ifCond {l : Launch} {b base L : Nat} {xs : Nat → Int32} {D : va_G} {κ : Nat → ClassId} {cc : ClassFile.Cond} {off : Int} : pm_S l b base L xs D κ (.ifCond cc off) := by
  intro y pc a bb lv st G c n Q hy hd hln h p e s m args below meth cd R Z H locs ls cells slots hC hZ hR hS hl hc hn
  obtain ⟨hx, hb, hml, hown, hnm, hts, hns, hao, hK, hX, hbb, hbs, hbd, hbl⟩ := id hC
  unfold pm_I at h
  dsimp only at h hR hl hc hn ⊢
  have ht := of_decide_eq_true hln
  split at h
  · cases cc
    · exact lv_if_eq hx hb hd ht (fun q => h.1 (decide_eq_true q) p e s m args below meth cd R Z H locs ls cells slots hC hZ hR hS hl hc hn) (fun q => h.2 (decide_eq_false q) p e s m args below meth cd R Z H locs ls cells slots hC hZ hR hS hl hc hn)
    · exact lv_if_ne hx hb hd ht (fun q => h.1 (by simpa [pm_cmp] using q) p e s m args below meth cd R Z H locs ls cells slots hC hZ hR hS hl hc hn) (fun q => h.2 (by simpa [pm_cmp] using q) p e s m args below meth cd R Z H locs ls cells slots hC hZ hR hS hl hc hn)
    · exact lv_if_lt hx hb hd ht (fun q => h.1 (decide_eq_true q) p e s m args below meth cd R Z H locs ls cells slots hC hZ hR hS hl hc hn) (fun q => h.2 (decide_eq_false q) p e s m args below meth cd R Z H locs ls cells slots hC hZ hR hS hl hc hn)
    · exact lv_if_ge hx hb hd ht (fun q => h.1 (decide_eq_true q) p e s m args below meth cd R Z H locs ls cells slots hC hZ hR hS hl hc hn) (fun q => h.2 (decide_eq_false q) p e s m args below meth cd R Z H locs ls cells slots hC hZ hR hS hl hc hn)
    · exact lv_if_gt hx hb hd ht (fun q => h.1 (decide_eq_true q) p e s m args below meth cd R Z H locs ls cells slots hC hZ hR hS hl hc hn) (fun q => h.2 (decide_eq_false q) p e s m args below meth cd R Z H locs ls cells slots hC hZ hR hS hl hc hn)
    · exact lv_if_le hx hb hd ht (fun q => h.1 (decide_eq_true q) p e s m args below meth cd R Z H locs ls cells slots hC hZ hR hS hl hc hn) (fun q => h.2 (decide_eq_false q) p e s m args below meth cd R Z H locs ls cells slots hC hZ hR hS hl hc hn)
  · exact h.elim
set_option maxHeartbeats 4000000 in
theorem sS_if_icmp {l : Launch} {b base L : Nat} {xs : Nat → Int32} {D : va_G} {κ : Nat → ClassId} {cc : ClassFile.Cond} {off : Int} : pm_S l b base L xs D κ (.if_icmp cc off) := by
  intro y pc a bb lv st G c n Q hy hd hln h p e s m args below meth cd R Z H locs ls cells slots hC hZ hR hS hl hc hn
  obtain ⟨hx, hb, hml, hown, hnm, hts, hns, hao, hK, hX, hbb, hbs, hbd, hbl⟩ := id hC
  unfold pm_I at h
  dsimp only at h hR hl hc hn ⊢
  have ht := of_decide_eq_true hln
  split at h
  · cases cc
    · exact lv_icmp_eq hx hb hd ht (fun q => h.1 (decide_eq_true q) p e s m args below meth cd R Z H locs ls cells slots hC hZ hR hS hl hc hn) (fun q => h.2 (decide_eq_false q) p e s m args below meth cd R Z H locs ls cells slots hC hZ hR hS hl hc hn)
    · exact lv_icmp_ne hx hb hd ht (fun q => h.1 (by simpa [pm_cmp] using q) p e s m args below meth cd R Z H locs ls cells slots hC hZ hR hS hl hc hn) (fun q => h.2 (by simpa [pm_cmp] using q) p e s m args below meth cd R Z H locs ls cells slots hC hZ hR hS hl hc hn)
    · exact lv_icmp_lt hx hb hd ht (fun q => h.1 (decide_eq_true q) p e s m args below meth cd R Z H locs ls cells slots hC hZ hR hS hl hc hn) (fun q => h.2 (decide_eq_false q) p e s m args below meth cd R Z H locs ls cells slots hC hZ hR hS hl hc hn)
    · exact lv_icmp_ge hx hb hd ht (fun q => h.1 (decide_eq_true q) p e s m args below meth cd R Z H locs ls cells slots hC hZ hR hS hl hc hn) (fun q => h.2 (decide_eq_false q) p e s m args below meth cd R Z H locs ls cells slots hC hZ hR hS hl hc hn)
    · exact lv_icmp_gt hx hb hd ht (fun q => h.1 (decide_eq_true q) p e s m args below meth cd R Z H locs ls cells slots hC hZ hR hS hl hc hn) (fun q => h.2 (decide_eq_false q) p e s m args below meth cd R Z H locs ls cells slots hC hZ hR hS hl hc hn)
    · exact lv_icmp_le hx hb hd ht (fun q => h.1 (decide_eq_true q) p e s m args below meth cd R Z H locs ls cells slots hC hZ hR hS hl hc hn) (fun q => h.2 (decide_eq_false q) p e s m args below meth cd R Z H locs ls cells slots hC hZ hR hS hl hc hn)
  · exact h.elim
set_option maxHeartbeats 4000000 in
theorem sS_ifnull {l : Launch} {b base L : Nat} {xs : Nat → Int32} {D : va_G} {κ : Nat → ClassId} {off : Int} : pm_S l b base L xs D κ (.ifnull off) := by
  intro y pc a bb lv st G c n Q hy hd hln h p e s m args below meth cd R Z H locs ls cells slots hC hZ hR hS hl hc hn
  obtain ⟨hx, hb, hml, hown, hnm, hts, hns, hao, hK, hX, hbb, hbs, hbd, hbl⟩ := id hC
  unfold pm_I at h
  dsimp only at h hR hl hc hn ⊢
  have ht := of_decide_eq_true hln
  split at h
  · exact lv_ifnull hx hb hd (h.2 p e s m args below meth cd R Z H locs ls cells slots hC hZ hR hS hl hc hn)
  · exact lv_ifnullN hx hb hd ht (h.2 p e s m args below meth cd R Z H locs ls cells slots hC hZ hR hS hl hc hn)
  · exact h.elim
set_option maxHeartbeats 4000000 in
theorem sS_ifnonnull {l : Launch} {b base L : Nat} {xs : Nat → Int32} {D : va_G} {κ : Nat → ClassId} {off : Int} : pm_S l b base L xs D κ (.ifnonnull off) := by
  intro y pc a bb lv st G c n Q hy hd hln h p e s m args below meth cd R Z H locs ls cells slots hC hZ hR hS hl hc hn
  obtain ⟨hx, hb, hml, hown, hnm, hts, hns, hao, hK, hX, hbb, hbs, hbd, hbl⟩ := id hC
  unfold pm_I at h
  dsimp only at h hR hl hc hn ⊢
  have ht := of_decide_eq_true hln
  split at h
  · exact lv_ifnonnull hx hb hd ht (h.2 p e s m args below meth cd R Z H locs ls cells slots hC hZ hR hS hl hc hn)
  · exact lv_ifnonnullN hx hb hd (h.2 p e s m args below meth cd R Z H locs ls cells slots hC hZ hR hS hl hc hn)
  · exact h.elim
set_option maxHeartbeats 4000000 in
theorem sS_goto {l : Launch} {b base L : Nat} {xs : Nat → Int32} {D : va_G} {κ : Nat → ClassId} {off : Int} : pm_S l b base L xs D κ (.goto off) := by
  intro y pc a bb lv st G c n Q hy hd hln h p e s m args below meth cd R Z H locs ls cells slots hC hZ hR hS hl hc hn
  obtain ⟨hx, hb, hml, hown, hnm, hts, hns, hao, hK, hX, hbb, hbs, hbd, hbl⟩ := id hC
  unfold pm_I at h
  dsimp only at h hR hl hc hn ⊢
  have ht := of_decide_eq_true hln
  exact lv_goto hx hb hd ht (h.2 p e s m args below meth cd R Z H locs ls cells slots hC hZ hR hS hl hc hn)
set_option maxHeartbeats 4000000 in
theorem sS_tableswitch {l : Launch} {b base L : Nat} {xs : Nat → Int32} {D : va_G} {κ : Nat → ClassId} {d lo hi : Int} {offs : Array Int} : pm_S l b base L xs D κ (.tableswitch d lo hi offs) := by
  intro y pc a bb lv st G c n Q hy hd hln h p e s m args below meth cd R Z H locs ls cells slots hC hZ hR hS hl hc hn
  obtain ⟨hx, hb, hml, hown, hnm, hts, hns, hao, hK, hX, hbb, hbs, hbd, hbl⟩ := id hC
  unfold pm_I at h
  dsimp only at h hR hl hc hn ⊢
  obtain ⟨t1, t2⟩ := pm_and hln
  obtain ⟨t2, t3⟩ := pm_and t2
  have t1 := of_decide_eq_true t1
  have t2 := of_decide_eq_true t2
  split at h
  · next x r =>
    have hg := h.2 p e s m args below meth cd R Z H locs ls cells slots hC hZ hR hS hl hc hn
    unfold pm_tsw at hg
    by_cases hin : x.toInt < lo ∨ hi < x.toInt
    · rw [if_pos hin] at hg
      exact lv_tableOut hx hb hd hin (Int.toNat_of_nonneg t1).symm hg
    · rw [if_neg hin] at hg
      have h1 : ¬ x.toInt < lo := fun q => hin (Or.inl q)
      have h2 : ¬ hi < x.toInt := fun q => hin (Or.inr q)
      have hlt : (x.toInt - lo).toNat < offs.size := by omega
      have ho : offs[(x.toInt - lo).toNat]? = some (offs[(x.toInt - lo).toNat]) := Array.getElem?_eq_getElem hlt
      have hz : 0 ≤ (pc : Int) + offs[(x.toInt - lo).toNat] := of_decide_eq_true (List.all_eq_true.mp t3 _ (Array.mem_toList_iff.mpr (Array.getElem_mem hlt)))
      rw [ho] at hg
      exact lv_tableIn hx hb hd h1 h2 ho (Int.toNat_of_nonneg hz).symm hg
  · exact h.elim
set_option maxHeartbeats 4000000 in
theorem sS_ldc2_w {l : Launch} {b base L : Nat} {xs : Nat → Int32} {D : va_G} {κ : Nat → ClassId} {ix : Nat} : pm_S l b base L xs D κ (.ldc2_w ix) := by
  intro y pc a bb lv st G c n Q hy hd hln h p e s m args below meth cd R Z H locs ls cells slots hC hZ hR hS hl hc hn
  obtain ⟨hx, hb, hml, hown, hnm, hts, hns, hao, hK, hX, hbb, hbs, hbd, hbl⟩ := id hC
  unfold pm_I at h
  dsimp only at h hR hl hc hn ⊢
  have hix := of_decide_eq_true hln
  subst hix
  split at h
  · next v e1 => exact W.ldc2 hx hb hown (hts _ (pm_ld_at e1)) rfl hd (h.2 p e s m args below meth cd R Z H locs ls cells slots hC hZ hR hS hl hc hn)
  · exact h.elim
section PMP
variable {p : Program} {l : Launch} {e : Env} {R : Room} {s : State} {m : MethodId} {args : Array Value} {below : List Frame} {meth : Method} {c : Code} {H : Heap} {locs : List Loc} {cells slots : Nat} {Q : State → Prop}
variable {cc : ByteArray} {pc : Nat} {ls : Array Slot} {rest : List Value} {D : va_G} {cl : List vw_C} {A : Nat → Prop} {a : Nat} {tys : List (ClassId × FieldType)} {ws : va_W} {H0 : Heap}
/-- what a field of a cell of the world is to the machine: the field that is found, its slot, and the cell behind a store into it -/
theorem pm_field {own C : String} {T : u_T} {N ci : Nat} {Ts : List Cond} (hts : ∀ w ∈ Ts, w.before args s = true) (hin : ∀ w ∈ u_ws C T N, w ∈ Ts) (ty0 : Nat → FieldType) (hty : ∀ k, k < N → parseFieldDescriptor (T k).2.2.1 = some (ty0 k)) (hnm : ∀ a, a < N → ∀ b, b < N → a ≠ b → (T a).2.1 ≠ (T b).2.1) (hK : va_K D cl tys s) (hP : va_P D cl ws H) (hD : va_D A ws) (q0 : Nat) {fs : List Value} (he : ws[q0]? = some (a, .inr (ci, fs))) (hc : cl[ci]? = some (C, T, N)) (k : Nat) (hk : k < N) {v : Value} (hl : k < fs.length) :
    ∃ (cell : Cell) (cf : Nat) (kf : Class) (fi : Nat) (f : Field) (kC : Class), H[a]? = some cell ∧ cell.vm = .none ∧ cell.cls = D.1 ci ∧ f.slot < cell.slots.size ∧ s.fieldFound? (T k).1 (T k).2.1 (T k).2.2.1 = some (cf, kf, fi, f) ∧ f.isStatic = false ∧ s.vm.findClass C = some (D.1 ci) ∧ s.vm.classes[D.1 ci]? = some kC ∧ kC.kind = .ordinary ∧
      ∀ H1 : Heap, H1[a]? = some (cell.setSlot f.slot v) → (∀ q, q ≠ a → H1[q]? = H[q]?) → va_P D cl (ws.set q0 (a, .inr (ci, fs.set k v))) H1 := by
  have hap := va_apart (own := own) hts hin ty0 hty hnm hK hc
  obtain ⟨r, h1, cell, q1, q2, q3, q4⟩ := hP q0 _ he
  have hr : r = (C, T, N) := Option.some.inj (h1.symm.trans hc)
  subst hr
  obtain ⟨hS, hfc, kC, hkC, hkind⟩ := hK.1 ci _ hc
  obtain ⟨cf, kf, fi, f, hi, hsl⟩ := hS k hk
  refine ⟨cell, cf, kf, fi, f, kC, q1, q3, q2, by rw [hsl]; exact k2_hasslot (q4 k hk), hi, (u_facts hfc hkC (u_lays hts hin hk) hi).1, hfc, hkC, hkind, fun H1 e1 e3 => ?_⟩
  rw [hsl] at e1
  exact hP.set hD he ⟨_, hc, t_OB.to (V := updV (vp_V fs) k v) ⟨_, e1, q2, q3, t_set q4 hap hk v⟩ (fun j _ => vp_updV_set hl v j)⟩ e3
theorem pm_put (hexec : p.tables.exec = Jvm.exec) (hb : c.code = cc) {own ref C : String} {T : u_T} {N ci index : Nat} {Ts : List Cond} (hts : ∀ w ∈ Ts, w.before args s = true) (hin : ∀ w ∈ u_ws C T N, w ∈ Ts) (ty0 : Nat → FieldType) (hty : ∀ k, k < N → parseFieldDescriptor (T k).2.2.1 = some (ty0 k)) (hnm : ∀ a, a < N → ∀ b, b < N → a ≠ b → (T a).2.1 ≠ (T b).2.1) (hown : s.vm.findClass own = some m.cls) (hK : va_K D cl tys s) (hP : va_P D cl ws H) (hD : va_D A ws) (hS0 : va_S A H0 H locs) (q0 : Nat) {fs : List Value} (he : ws[q0]? = some (a, .inr (ci, fs))) (hc : cl[ci]? = some (C, T, N)) (k : Nat) (hk : k < N) (hlink : (Cond.fieldLink own index ref (T k).2.1 (T k).2.2.1).before args s = true) (hsame : ∀ x, s.fieldFound? (T k).1 (T k).2.1 (T k).2.2.1 = some x → s.fieldFound? ref (T k).2.1 (T k).2.2.1 = some x) (hfin : (T k).2.2.2 = false) {ty : FieldType} {v : Value} (hd : parseFieldDescriptor (T k).2.2.1 = some ty) (hn : narrow ty v = v) (hfit : fits ty v = true) (hl : k < fs.length) (hdg : decode cc pc = .ok (.putfield index, 3))
    (kk : ∀ (H1 : Heap) (locs1 : List Loc), H1.size = H.size → va_P D cl (ws.set q0 (a, .inr (ci, fs.set k v))) H1 → va_S A H0 H1 locs1 → W p l e R s m args below meth c H1 locs1 cells slots Q (F0 m (pc + 3) ls rest)) : W p l e R s m args below meth c H locs cells slots Q (F0 m pc ls (v :: .ref a :: rest)) := by
  obtain ⟨cell, cf, kf, fi, f, kC, q1, q3, q2, q5, hi, hst, hfc, hkC, hkind, hput⟩ := pm_field (own := own) (v := v) hts hin ty0 hty hnm hK hP hD q0 he hc k hk hl
  have hlay := hts _ (hin _ (u_in_lay hk))
  unfold u_lay at hlay
  rw [if_neg (by rw [hfin]; decide)] at hlay
  exact W.putK hexec hb (f := f) ⟨hown, hlink, ⟨_, _, _, hsame _ hi⟩, hst⟩ (by rw [q2]; exact u_store hfc hkC hkind hlay hi hd hn hfit) q1 q3 q5 rfl rfl hdg fun H' e1 e2 e3 => kk H' _ e2 (hput H' e1 e3) (hS0.put e2 e3 (hD.2 q0 _ he))
theorem pm_putF (hexec : p.tables.exec = Jvm.exec) (hb : c.code = cc) {own ref C : String} {T : u_T} {N ci index : Nat} {Ts : List Cond} (hts : ∀ w ∈ Ts, w.before args s = true) (hin : ∀ w ∈ u_ws C T N, w ∈ Ts) (ty0 : Nat → FieldType) (hty : ∀ k, k < N → parseFieldDescriptor (T k).2.2.1 = some (ty0 k)) (hnm : ∀ a, a < N → ∀ b, b < N → a ≠ b → (T a).2.1 ≠ (T b).2.1) (hown : s.vm.findClass own = some m.cls) (hK : va_K D cl tys s) (hP : va_P D cl ws H) (hD : va_D A ws) (hS0 : va_S A H0 H locs) (q0 : Nat) {fs : List Value} (he : ws[q0]? = some (a, .inr (ci, fs))) (hc : cl[ci]? = some (C, T, N)) (k : Nat) (hk : k < N) (hlink : (Cond.fieldLink own index ref (T k).2.1 (T k).2.2.1).before args s = true) (hsame : ∀ x, s.fieldFound? (T k).1 (T k).2.1 (T k).2.2.1 = some x → s.fieldFound? ref (T k).2.1 (T k).2.2.1 = some x) (hfin : (T k).2.2.2 = true) (hin2 : meth.name = "<init>") (hdecl : (T k).1 = own) {ty : FieldType} {v : Value} (hd : parseFieldDescriptor (T k).2.2.1 = some ty) (hn : narrow ty v = v) (hfit : fits ty v = true) (hl : k < fs.length) (hdg : decode cc pc = .ok (.putfield index, 3))
    (kk : ∀ (H1 : Heap) (locs1 : List Loc), H1.size = H.size → va_P D cl (ws.set q0 (a, .inr (ci, fs.set k v))) H1 → va_S A H0 H1 locs1 → W p l e R s m args below meth c H1 locs1 cells slots Q (F0 m (pc + 3) ls rest)) : W p l e R s m args below meth c H locs cells slots Q (F0 m pc ls (v :: .ref a :: rest)) := by
  obtain ⟨cell, cf, kf, fi, f, kC, q1, q3, q2, q5, hi, hst, hfc, hkC, hkind, hput⟩ := pm_field (own := own) (v := v) hts hin ty0 hty hnm hK hP hD q0 he hc k hk hl
  have hlay := hts _ (hin _ (u_in_lay hk))
  unfold u_lay at hlay
  rw [if_pos hfin] at hlay
  have hcf : m.cls = cf := by
    obtain ⟨_, _, c', _, _, _, -, -, hf', -, -, -, hown2, -⟩ := Cond.laysFinal_spec hlay
    have e1 : c' = cf := by have := hi.symm.trans hf'; simp at this; exact this.1.symm
    rw [hdecl] at hown2
    rw [← e1]
    exact Option.some.inj (hown.symm.trans hown2)
  exact W.putFinK hexec hb hown hlink (hsame _ hi) hst hcf hin2 (by rw [q2]; exact u_fits hfc hkC hkind (Or.inr hlay) hi hd hn hfit) q1 q3 q5 rfl rfl hdg fun H' e1 e2 e3 => kk H' _ e2 (hput H' e1 e3) (hS0.put e2 e3 (hD.2 q0 _ he))
theorem pm_putN (hexec : p.tables.exec = Jvm.exec) (hb : c.code = cc) {own ref C host : String} {T : u_T} {N ci index : Nat} {Ts : List Cond} (hts : ∀ w ∈ Ts, w.before args s = true) (hin : ∀ w ∈ u_ws C T N, w ∈ Ts) (ty0 : Nat → FieldType) (hty : ∀ k, k < N → parseFieldDescriptor (T k).2.2.1 = some (ty0 k)) (hnm : ∀ a, a < N → ∀ b, b < N → a ≠ b → (T a).2.1 ≠ (T b).2.1) (hown : s.vm.findClass own = some m.cls) (hK : va_K D cl tys s) (hP : va_P D cl ws H) (hD : va_D A ws) (hS0 : va_S A H0 H locs) (q0 : Nat) {fs : List Value} (he : ws[q0]? = some (a, .inr (ci, fs))) (hc : cl[ci]? = some (C, T, N)) (k : Nat) (hk : k < N) (hlink : (Cond.fieldLinkNest own index ref (T k).2.1 (T k).2.2.1 host).before args s = true) (hsame : ∀ x, s.fieldFound? (T k).1 (T k).2.1 (T k).2.2.1 = some x → s.fieldFound? ref (T k).2.1 (T k).2.2.1 = some x) (hfin : (T k).2.2.2 = false) {ty : FieldType} {v : Value} (hd : parseFieldDescriptor (T k).2.2.1 = some ty) (hn : narrow ty v = v) (hfit : fits ty v = true) (hl : k < fs.length) (hdg : decode cc pc = .ok (.putfield index, 3))
    (kk : ∀ (H1 : Heap) (locs1 : List Loc), H1.size = H.size → va_P D cl (ws.set q0 (a, .inr (ci, fs.set k v))) H1 → va_S A H0 H1 locs1 → W p l e R s m args below meth c H1 locs1 cells slots Q (F0 m (pc + 3) ls rest)) : W p l e R s m args below meth c H locs cells slots Q (F0 m pc ls (v :: .ref a :: rest)) := by
  obtain ⟨cell, cf, kf, fi, f, kC, q1, q3, q2, q5, hi, hst, hfc, hkC, hkind, hput⟩ := pm_field (own := own) (v := v) hts hin ty0 hty hnm hK hP hD q0 he hc k hk hl
  have hlay := hts _ (hin _ (u_in_lay hk))
  unfold u_lay at hlay
  rw [if_neg (by rw [hfin]; decide)] at hlay
  exact va_WputK hexec hb (f := f) hown hlink (hsame _ hi) hst (by rw [q2]; exact u_store hfc hkC hkind hlay hi hd hn hfit) q1 q3 q5 rfl rfl hdg fun H' e1 e2 e3 => kk H' _ e2 (hput H' e1 e3) (hS0.put e2 e3 (hD.2 q0 _ he))
end PMP
theorem pm_kd_init : ∀ {y : Nat}, y < 191 → pm_kd y = 1 → (pm_nm y).name = "<init>" := by decide +kernel
/-- one cell of the world is changed by a store: the relation, and the frame -/
theorem pm_stored {b base L : Nat} {xs : Nat → Int32} {D : va_G} {κ : Nat → ClassId} {G : pm_H} {H H0 H1 : Heap} {locs : List Loc} {k j : Nat} {e0 : va_E} {g : pm_C} (hR : pm_Rl b base L xs D κ G H) (hS : va_S (pm_A base) H0 H locs) (he : (pm_ws b base κ G)[k]? = some (base + k, e0)) (z : H1.size = H.size) (oq : ∀ q, q ≠ base + k → H1[q]? = H[q]?) (ht : ∀ t x, g = .inl (t, x) → t ∈ pm_tgs) (hg : va_at D pm_cls (base + k, pm_c b base κ g) H1) : pm_Rl b base L xs D κ (G.set (k + 1) g) H1 ∧ va_S (pm_A base) H0 H1 (locs ++ [⟨base + k, j⟩]) :=
  ⟨hR.set z ht (hR.2.2.1.set pm_ws_D he hg oq), hS.put z oq (Nat.le_add_right base k)⟩

theorem pm_not0 {b base L : Nat} {xs : Nat → Int32} {D : va_G} {κ : Nat → ClassId} {G : pm_H} {H : Heap} (h : pm_Rl b base L xs D κ G H) {r : Nat} {o : Nat × List Value} (e : G[r]? = some (.inr o)) : ∃ k, r = k + 1 := by
  cases r with
  | zero => rw [h.1] at e; cases e
  | succ k => exact ⟨k, rfl⟩
set_option maxHeartbeats 4000000 in
theorem sS_getfield {l : Launch} {b base L : Nat} {xs : Nat → Int32} {D : va_G} {κ : Nat → ClassId} {ix : Nat} : pm_S l b base L xs D κ (.getfield ix) := by
  intro y pc a bb lv st G c n Q hy hd hln h p e s m args below meth cd R Z H locs ls cells slots hC hZ hR hS hl hc hn
  obtain ⟨hx, hb, hml, hown, hnm, hts, hns, hao, hK, hX, hbb, hbs, hbd, hbl⟩ := id hC
  unfold pm_I at h
  dsimp only at h hR hl hc hn ⊢
  split at h
  · next r rest =>
    split at h
    · next ci fs e1 =>
      split at h
      · next v e2 =>
        obtain ⟨k, rfl⟩ := pm_not0 hR e1
        have hci := Nat.eq_of_beq_eq_true h.1
        subst hci
        have he := pm_ws_get (b := b) (base := base) (κ := κ) e1
        have hv : (fs.map (pm_v b base))[bb]? = some (pm_v b base v) := by rw [List.getElem?_map, e2]; rfl
        rcases pm_or hln with q | q
        · obtain ⟨w1, w2, w3⟩ := pm_fl_at q
          exact va_get (D := D) (ci := ci) (C := pm_cn ci) (T := pm_T ci) (N := pm_nf ci) hx hb hts (pm_lays_in w2) hown hK hR.2.2.1 k he (pm_cls_at w2) bb w3 (hts _ w1) (fun _ h9 => h9) hv hd (h.2 p e s m args below meth cd R Z H locs ls cells slots hC hZ hR hS hl hc hn)
        · obtain ⟨w1, w2, w3⟩ := pm_fn_at q
          exact va_getN (D := D) (ci := ci) (C := pm_cn ci) (T := pm_T ci) (N := pm_nf ci) hx hb hts (pm_lays_in w2) hown hK hR.2.2.1 k he (pm_cls_at w2) bb w3 ((hns _ w1).use rfl) (fun _ h9 => h9) hv hd (h.2 p e s m args below meth cd R Z H locs ls cells slots hC hZ hR hS hl hc hn)
      · exact h.elim
    · exact h.elim
  · exact h.elim
set_option maxHeartbeats 4000000 in
theorem sS_putfield {l : Launch} {b base L : Nat} {xs : Nat → Int32} {D : va_G} {κ : Nat → ClassId} {ix : Nat} : pm_S l b base L xs D κ (.putfield ix) := by
  intro y pc a bb lv st G c n Q hy hd hln h p e s m args below meth cd R Z H locs ls cells slots hC hZ hR hS hl hc hn
  obtain ⟨hx, hb, hml, hown, hnm, hts, hns, hao, hK, hX, hbb, hbs, hbd, hbl⟩ := id hC
  unfold pm_I at h
  dsimp only at h hR hl hc hn ⊢
  split at h
  · next v r rest =>
    split at h
    · next ci fs e1 =>
      obtain ⟨k, rfl⟩ := pm_not0 hR e1
      obtain ⟨g1, h2⟩ := h
      obtain ⟨g2, g3⟩ := pm_and g1
      obtain ⟨h3, h4⟩ := pm_and g3
      have hci := Nat.eq_of_beq_eq_true g2
      clear g1 g2 g3
      subst hci
      have he := pm_ws_get (b := b) (base := base) (κ := κ) e1
      have hlt : bb < (fs.map (pm_v b base)).length := by rw [List.length_map]; exact pm_blt h3
      obtain ⟨hn1, hn2⟩ := pm_fits_ok (b := b) (base := base) h4
      have kk : ∀ (H1 : Heap) (locs1 : List Loc), H1.size = H.size → va_P D pm_cls ((pm_ws b base κ G).set k (base + k, .inr (ci, (fs.map (pm_v b base)).set bb (pm_v b base v)))) H1 → va_S (pm_A base) s.heap H1 locs1 → W p l e R s m args below meth cd H1 locs1 cells slots Z (F0 m (pc + 3) ls (rest.map (pm_v b base))) := fun H1 locs1 hz hP1 hS1 => h2 p e s m args below meth cd R Z H1 locs1 ls cells slots hC hZ (pm_Rl.set hR hz (fun t x q => by cases q) (by rw [show pm_c b base κ (.inr (ci, fs.set bb v)) = .inr (ci, (fs.map (pm_v b base)).set bb (pm_v b base v)) by show Sum.inr (ci, (fs.set bb v).map (pm_v b base)) = _; rw [List.map_set]]; exact hP1)) hS1 hl hc hn
      rcases pm_or hln with q | q
      · obtain ⟨q, q2⟩ := pm_and q
        obtain ⟨w1, w2, w3⟩ := pm_fl_at q
        rcases pm_or q2 with q3 | q3
        · exact pm_put (D := D) (ci := ci) (C := pm_cn ci) (T := pm_T ci) (N := pm_nf ci) hx hb hts (pm_lays_in w2) (pm_ft ci) (pm_ft_ok w2) (pm_nm_ok w2) hown hK hR.2.2.1 pm_ws_D hS k he (pm_cls_at w2) bb w3 (hts _ w1) (fun _ h9 => h9) (by simpa using q3) (pm_ft_ok w2 bb w3) hn1 hn2 hlt hd kk
        · obtain ⟨q3, q4⟩ := pm_and q3
          have hoc := Nat.eq_of_beq_eq_true q4
          cases hf : (pm_T ci bb).2.2.2 with
          | false => exact pm_put (D := D) (ci := ci) (C := pm_cn ci) (T := pm_T ci) (N := pm_nf ci) hx hb hts (pm_lays_in w2) (pm_ft ci) (pm_ft_ok w2) (pm_nm_ok w2) hown hK hR.2.2.1 pm_ws_D hS k he (pm_cls_at w2) bb w3 (hts _ w1) (fun _ h9 => h9) hf (pm_ft_ok w2 bb w3) hn1 hn2 hlt hd kk
          | true => exact pm_putF (D := D) (ci := ci) (C := pm_cn ci) (T := pm_T ci) (N := pm_nf ci) hx hb hts (pm_lays_in w2) (pm_ft ci) (pm_ft_ok w2) (pm_nm_ok w2) hown hK hR.2.2.1 pm_ws_D hS k he (pm_cls_at w2) bb w3 (hts _ w1) (fun _ h9 => h9) hf (hnm.trans (pm_kd_init (pm_blt hy) (Nat.eq_of_beq_eq_true q3))) (by rw [← hoc]; exact pm_own_ok w2 bb w3) (pm_ft_ok w2 bb w3) hn1 hn2 hlt hd kk
      · obtain ⟨q, q2⟩ := pm_and q
        obtain ⟨w1, w2, w3⟩ := pm_fn_at q
        exact pm_putN (D := D) (ci := ci) (C := pm_cn ci) (T := pm_T ci) (N := pm_nf ci) hx hb hts (pm_lays_in w2) (pm_ft ci) (pm_ft_ok w2) (pm_nm_ok w2) hown hK hR.2.2.1 pm_ws_D hS k he (pm_cls_at w2) bb w3 ((hns _ w1).use rfl) (fun _ h9 => h9) (by simpa using q2) (pm_ft_ok w2 bb w3) hn1 hn2 hlt hd kk
    · exact h.elim
  · exact h.elim
set_option maxHeartbeats 4000000 in
theorem sS_iaload {l : Launch} {b base L : Nat} {xs : Nat → Int32} {D : va_G} {κ : Nat → ClassId} : pm_S l b base L xs D κ (.iaload) := by
  intro y pc a bb lv st G c n Q hy hd hln h p e s m args below meth cd R Z H locs ls cells slots hC hZ hR hS hl hc hn
  obtain ⟨hx, hb, hml, hown, hnm, hts, hns, hao, hK, hX, hbb, hbs, hbd, hbl⟩ := id hC
  unfold pm_I at h
  dsimp only at h hR hl hc hn ⊢
  split at h
  · next i r rest =>
    split at h
    · next m1 f e1 =>
      have hin := pm_in_of h.1
      obtain ⟨t0, ht⟩ := pm_tys_at (κ := κ) (hR.2.2.2 r _ _ e1)
      cases r with
      | zero =>
        have q := hR.1.symm.trans e1
        cases q
        exact va_sld hx hb hX (Nat.lt_of_lt_of_le hbb hbs) (Nat.not_le.mpr hbb) hS hin hd (h.2 p e s m args below meth cd R Z H locs ls cells slots hC hZ hR hS hl hc hn)
      | succ k => exact va_iald hx hb hK hR.2.2.1 k t0 (pm_ws_get (b := b) (base := base) (κ := κ) e1) ht hin hd (h.2 p e s m args below meth cd R Z H locs ls cells slots hC hZ hR hS hl hc hn)
    · exact h.elim
  · exact h.elim
set_option maxHeartbeats 4000000 in
theorem sS_baload {l : Launch} {b base L : Nat} {xs : Nat → Int32} {D : va_G} {κ : Nat → ClassId} : pm_S l b base L xs D κ (.baload) := by
  intro y pc a bb lv st G c n Q hy hd hln h p e s m args below meth cd R Z H locs ls cells slots hC hZ hR hS hl hc hn
  obtain ⟨hx, hb, hml, hown, hnm, hts, hns, hao, hK, hX, hbb, hbs, hbd, hbl⟩ := id hC
  unfold pm_I at h
  dsimp only at h hR hl hc hn ⊢
  split at h
  · next i r rest =>
    split at h
    · next m1 f e1 =>
      have hin := pm_in_of h.1
      obtain ⟨t0, ht⟩ := pm_tys_at (κ := κ) (hR.2.2.2 r _ _ e1)
      cases r with
      | zero =>
        have q := hR.1.symm.trans e1
        cases q
      | succ k => exact va_zald hx hb hK hR.2.2.1 k t0 (pm_ws_get (b := b) (base := base) (κ := κ) e1) ht hin hd (h.2 p e s m args below meth cd R Z H locs ls cells slots hC hZ hR hS hl hc hn)
    · exact h.elim
  · exact h.elim
set_option maxHeartbeats 4000000 in
theorem sS_laload {l : Launch} {b base L : Nat} {xs : Nat → Int32} {D : va_G} {κ : Nat → ClassId} : pm_S l b base L xs D κ (.laload) := by
  intro y pc a bb lv st G c n Q hy hd hln h p e s m args below meth cd R Z H locs ls cells slots hC hZ hR hS hl hc hn
  obtain ⟨hx, hb, hml, hown, hnm, hts, hns, hao, hK, hX, hbb, hbs, hbd, hbl⟩ := id hC
  unfold pm_I at h
  dsimp only at h hR hl hc hn ⊢
  split at h
  · next i r rest =>
    split at h
    · next m1 f e1 =>
      have hin := pm_in_of h.1
      obtain ⟨t0, ht⟩ := pm_tys_at (κ := κ) (hR.2.2.2 r _ _ e1)
      cases r with
      | zero =>
        have q := hR.1.symm.trans e1
        cases q
      | succ k => exact va_lald hx hb hK hR.2.2.1 k t0 (pm_ws_get (b := b) (base := base) (κ := κ) e1) ht hin hd (h.2 p e s m args below meth cd R Z H locs ls cells slots hC hZ hR hS hl hc hn)
    · exact h.elim
  · exact h.elim
set_option maxHeartbeats 4000000 in
theorem sS_aaload {l : Launch} {b base L : Nat} {xs : Nat → Int32} {D : va_G} {κ : Nat → ClassId} : pm_S l b base L xs D κ (.aaload) := by
  intro y pc a bb lv st G c n Q hy hd hln h p e s m args below meth cd R Z H locs ls cells slots hC hZ hR hS hl hc hn
  obtain ⟨hx, hb, hml, hown, hnm, hts, hns, hao, hK, hX, hbb, hbs, hbd, hbl⟩ := id hC
  unfold pm_I at h
  dsimp only at h hR hl hc hn ⊢
  split at h
  · next i r rest =>
    split at h
    · next t m1 f e1 =>
      have hin := pm_in_of h.1
      obtain ⟨t0, ht⟩ := pm_tys_at (κ := κ) (hR.2.2.2 r _ _ e1)
      cases r with
      | zero =>
        have q := hR.1.symm.trans e1
        cases q
      | succ k =>
        refine va_aldq hx hb hK hR.2.2.1 k t0 (pm_ws_get (b := b) (base := base) (κ := κ) e1) ht hin hd ?_
        have hg := h.2 p e s m args below meth cd R Z H locs ls cells slots hC hZ hR hS hl hc hn
        dsimp only at hg
        rw [List.map_cons] at hg
        rw [show va_rf ((f i.toNatClampNeg).map (pm_ad b base)) = pm_v b base (pm_rf (f i.toNatClampNeg)) by cases f i.toNatClampNeg <;> rfl]
        exact hg
    · exact h.elim
  · exact h.elim
set_option maxHeartbeats 4000000 in
theorem sS_arraylength {l : Launch} {b base L : Nat} {xs : Nat → Int32} {D : va_G} {κ : Nat → ClassId} : pm_S l b base L xs D κ (.arraylength) := by
  intro y pc a bb lv st G c n Q hy hd hln h p e s m args below meth cd R Z H locs ls cells slots hC hZ hR hS hl hc hn
  obtain ⟨hx, hb, hml, hown, hnm, hts, hns, hao, hK, hX, hbb, hbs, hbd, hbl⟩ := id hC
  unfold pm_I at h
  dsimp only at h hR hl hc hn ⊢
  split at h
  · next r rest =>
    split at h
    · next t x e1 =>
      obtain ⟨t0, ht⟩ := pm_tys_at (κ := κ) (hR.2.2.2 r _ _ e1)
      cases r with
      | zero =>
        have q := hR.1.symm.trans e1
        cases q
        exact va_slen hx hb hX (Nat.lt_of_lt_of_le hbb hbs) (Nat.not_le.mpr hbb) hS hd (h.2 p e s m args below meth cd R Z H locs ls cells slots hC hZ hR hS hl hc hn)
      | succ k => exact va_alen hx hb hK hR.2.2.1 k t0 (pm_ws_get (b := b) (base := base) (κ := κ) e1) ht (by obtain ⟨n1, f | f | f | f | f⟩ := x <;> rfl) hd (h.2 p e s m args below meth cd R Z H locs ls cells slots hC hZ hR hS hl hc hn)
    · exact h.elim
  · exact h.elim
set_option maxHeartbeats 4000000 in
theorem sS_iastore {l : Launch} {b base L : Nat} {xs : Nat → Int32} {D : va_G} {κ : Nat → ClassId} : pm_S l b base L xs D κ (.iastore) := by
  intro y pc a bb lv st G c n Q hy hd hln h p e s m args below meth cd R Z H locs ls cells slots hC hZ hR hS hl hc hn
  obtain ⟨hx, hb, hml, hown, hnm, hts, hns, hao, hK, hX, hbb, hbs, hbd, hbl⟩ := id hC
  unfold pm_I at h
  dsimp only at h hR hl hc hn ⊢
  split at h
  · next x i k rest =>
    split at h
    · next m1 f e1 =>
      have hin := pm_in_of h.1
      have htg := hR.2.2.2 (k + 1) _ _ e1
      obtain ⟨t0, ht⟩ := pm_tys_at (κ := κ) htg
      have he := pm_ws_get (b := b) (base := base) (κ := κ) e1
      refine W.iast hx hb (hR.2.2.1 k _ he) ((hK.2 t0 _ ht).1 m1 (fun j => .int (f j))) (fun q => by cases q) (by show ¬ (i < 0 ∨ (arrV _ _ _).slots.size ≤ _); rw [arrV_size]; exact hin) rfl rfl hd fun H1 e9 z oq => ?_
      have hq := pm_stored (j := i.toNatClampNeg) (g := .inl (0, m1, .inl (upd f i.toNatClampNeg x))) hR hS he z oq (fun t x q => by cases q; exact htg) (by
        show H1[base + k]? = some (vp_cell _ _)
        rw [e9]
        show some (Cell.setSlot (vp_cell _ (m1, .inl f)) _ _) = some (vp_cell _ (m1, .inl (upd f i.toNatClampNeg x)))
        rw [vp_cell_i, vp_cell_i, arrV_store]
        congr 2
        funext q
        by_cases hq : q = i.toNatClampNeg
        · subst hq
          simp [updV, upd]
          try rfl
        · simp [updV, upd, hq])
      exact h.2 p e s m args below meth cd R Z H1 _ ls cells slots hC hZ hq.1 hq.2 hl hc hn
    · exact h.elim
  · exact h.elim
set_option maxHeartbeats 4000000 in
theorem sS_bastore {l : Launch} {b base L : Nat} {xs : Nat → Int32} {D : va_G} {κ : Nat → ClassId} : pm_S l b base L xs D κ (.bastore) := by
  intro y pc a bb lv st G c n Q hy hd hln h p e s m args below meth cd R Z H locs ls cells slots hC hZ hR hS hl hc hn
  obtain ⟨hx, hb, hml, hown, hnm, hts, hns, hao, hK, hX, hbb, hbs, hbd, hbl⟩ := id hC
  unfold pm_I at h
  dsimp only at h hR hl hc hn ⊢
  split at h
  · next x i k rest =>
    split at h
    · next m1 f e1 =>
      have hin := pm_in_of h.1
      have htg := hR.2.2.2 (k + 1) _ _ e1
      obtain ⟨t0, ht⟩ := pm_tys_at (κ := κ) htg
      have he := pm_ws_get (b := b) (base := base) (κ := κ) e1
      refine W.zast hx hb (hR.2.2.1 k _ he) ((hK.2 t0 _ ht).1 m1 (fun j => .int (f j))) (fun q => by cases q) (by show ¬ (i < 0 ∨ (arrV _ _ _).slots.size ≤ _); rw [arrV_size]; exact hin) rfl rfl hd fun H1 e9 z oq => ?_
      have hq := pm_stored (j := i.toNatClampNeg) (g := .inl (2, m1, .inl (upd f i.toNatClampNeg (vp_nar .boolean x)))) hR hS he z oq (fun t x q => by cases q; exact htg) (by
        show H1[base + k]? = some (vp_cell _ _)
        rw [e9]
        show some (Cell.setSlot (vp_cell _ (m1, .inl f)) _ _) = some (vp_cell _ (m1, .inl (upd f i.toNatClampNeg (vp_nar .boolean x))))
        rw [vp_cell_i, vp_cell_i, arrV_store]
        congr 2
        funext q
        by_cases hq : q = i.toNatClampNeg
        · subst hq
          simp [updV, upd, vp_nar]
          try rfl
        · simp [updV, upd, hq])
      exact h.2 p e s m args below meth cd R Z H1 _ ls cells slots hC hZ hq.1 hq.2 hl hc hn
    · exact h.elim
  · exact h.elim
set_option maxHeartbeats 4000000 in
theorem sS_lastore {l : Launch} {b base L : Nat} {xs : Nat → Int32} {D : va_G} {κ : Nat → ClassId} : pm_S l b base L xs D κ (.lastore) := by
  intro y pc a bb lv st G c n Q hy hd hln h p e s m args below meth cd R Z H locs ls cells slots hC hZ hR hS hl hc hn
  obtain ⟨hx, hb, hml, hown, hnm, hts, hns, hao, hK, hX, hbb, hbs, hbd, hbl⟩ := id hC
  unfold pm_I at h
  dsimp only at h hR hl hc hn ⊢
  split at h
  · next x i k rest =>
    split at h
    · next m1 f e1 =>
      have hin := pm_in_of h.1
      have htg := hR.2.2.2 (k + 1) _ _ e1
      obtain ⟨t0, ht⟩ := pm_tys_at (κ := κ) htg
      have he := pm_ws_get (b := b) (base := base) (κ := κ) e1
      refine W.last hx hb (hR.2.2.1 k _ he) ((hK.2 t0 _ ht).1 m1 (fun j => .long (f j))) (fun q => by cases q) (by show ¬ (i < 0 ∨ (arrV _ _ _).slots.size ≤ _); rw [arrV_size]; exact hin) rfl rfl hd fun H1 e9 z oq => ?_
      have hq := pm_stored (j := i.toNatClampNeg) (g := .inl (1, m1, .inr (.inl (vp_updL f i.toNatClampNeg x)))) hR hS he z oq (fun t x q => by cases q; exact htg) (by
        show H1[base + k]? = some (vp_cell _ _)
        rw [e9]
        show some (Cell.setSlot (vp_cell _ (m1, .inr (.inl f))) _ _) = some (vp_cell _ (m1, .inr (.inl (vp_updL f i.toNatClampNeg x))))
        rw [vp_cell_l, vp_cell_l, arrV_store]
        congr 2
        funext q
        by_cases hq : q = i.toNatClampNeg
        · subst hq
          simp [updV, vp_updL]
          try rfl
        · simp [updV, vp_updL, hq])
      exact h.2 p e s m args below meth cd R Z H1 _ ls cells slots hC hZ hq.1 hq.2 hl hc hn
    · exact h.elim
  · exact h.elim
set_option maxHeartbeats 4000000 in
theorem sS_aastore {l : Launch} {b base L : Nat} {xs : Nat → Int32} {D : va_G} {κ : Nat → ClassId} : pm_S l b base L xs D κ (.aastore) := by
  intro y pc a bb lv st G c n Q hy hd hln h p e s m args below meth cd R Z H locs ls cells slots hC hZ hR hS hl hc hn
  obtain ⟨hx, hb, hml, hown, hnm, hts, hns, hao, hK, hX, hbb, hbs, hbd, hbl⟩ := id hC
  unfold pm_I at h
  dsimp only at h hR hl hc hn ⊢
  split at h
  · next v i k rest =>
    split at h
    · next t m1 f ci fs e1 e2 =>
      obtain ⟨g1, g2⟩ := pm_and h.1
      have hin := pm_in_of g1
      have hci := Nat.eq_of_beq_eq_true g2
      subst hci
      have htg := hR.2.2.2 (k + 1) _ _ e1
      obtain ⟨t0, ht⟩ := pm_tys_at (κ := κ) htg
      have he := pm_ws_get (b := b) (base := base) (κ := κ) e1
      have hev := pm_ws_get (b := b) (base := base) (κ := κ) e2
      have hlt : i.toNatClampNeg < m1 := Nat.not_le.mp fun q => hin (Or.inr q)
      have h0 : ¬ i < 0 := fun q => hin (Or.inl q)
      obtain ⟨r', hr', cellV, g1, g2, g3, -⟩ := hR.2.2.1 v _ hev
      have hcn : pm_cls[ci]? = some (pm_cn ci, pm_T ci, pm_nf ci) := pm_cls_at (by
        by_cases q : ci < 13
        · exact Nat.ble_eq_true_of_le q
        · have q2 : pm_cls[ci]? = none := List.getElem?_eq_none (by simp only [pm_cls, List.length_cons, List.length_nil]; omega)
          rw [q2] at hr'
          cases hr')
      have hcls := (hK.1 ci _ hcn).2
      obtain ⟨kA, comp, k1, k2, k3, -⟩ := (hK.2 t0 _ ht).2
      have hcomp : comp = D.1 ci := Option.some.inj (k3.symm.trans hcls.1)
      subst hcomp
      obtain ⟨kC, hkC, -⟩ := hcls.2
      refine W.aast hx hb (hR.2.2.1 k _ he) (fun q h => by cases h) (fun h => by cases h) k1 k2 rfl hkC ⟨h0, by show _ < (arrV _ _ _).slots.size; rw [arrV_size]; exact hlt⟩ g1 (fun q h => by rw [g3] at h; cases h) (by rw [g2]; exact hkC) (by rw [g2]; exact va_assign hcls) rfl rfl hd fun H1 e9 z oq => ?_
      have hq := pm_stored (j := i.toNatClampNeg) (g := .inl (ci + 3, m1, .inr (.inr (.inr (.inr (va_up f i.toNatClampNeg (some (v + 1)))))))) hR hS he z oq (fun t x q => by cases q; exact htg) (by
        show H1[base + k]? = some (vp_cell _ _)
        rw [e9]
        show some (Cell.setSlot (vp_cell _ (m1, .inr (.inr (.inr (.inr (fun j => (f j).map (pm_ad b base))))))) _ _) = some (vp_cell _ (m1, .inr (.inr (.inr (.inr (fun j => (va_up f i.toNatClampNeg (some (v + 1)) j).map (pm_ad b base)))))))
        rw [vp_cell_q, vp_cell_q, arrV_store]
        congr 2
        funext q
        by_cases hq : q = i.toNatClampNeg
        · subst hq
          simp [updV, va_up, va_rf, pm_ad]
        · simp [updV, va_up, hq])
      exact h.2 p e s m args below meth cd R Z H1 _ ls cells slots hC hZ hq.1 hq.2 hl hc hn
    · exact h.elim
  · next i k rest =>
    split at h
    · next t m1 f e1 =>
      have hin := pm_in_of h.1
      have htg := hR.2.2.2 (k + 1) _ _ e1
      obtain ⟨t0, ht⟩ := pm_tys_at (κ := κ) htg
      have he := pm_ws_get (b := b) (base := base) (κ := κ) e1
      refine va_WaastN (C := pm_cn t) hx hb (hR.2.2.1 k _ he) ((hK.2 t0 _ ht).1 m1 (fun j => va_rf ((f j).map (pm_ad b base)))) (fun h => by cases h) (by show ¬ (i < 0 ∨ (arrV _ _ _).slots.size ≤ _); rw [arrV_size]; exact hin) rfl rfl hd fun H1 e9 z oq => ?_
      have hq := pm_stored (j := i.toNatClampNeg) (g := .inl (t + 3, m1, .inr (.inr (.inr (.inr (va_up f i.toNatClampNeg none)))))) hR hS he z oq (fun t x q => by cases q; exact htg) (by
        show H1[base + k]? = some (vp_cell _ _)
        rw [e9]
        show some (Cell.setSlot (vp_cell _ (m1, .inr (.inr (.inr (.inr (fun j => (f j).map (pm_ad b base))))))) _ _) = some (vp_cell _ (m1, .inr (.inr (.inr (.inr (fun j => (va_up f i.toNatClampNeg none j).map (pm_ad b base)))))))
        rw [vp_cell_q, vp_cell_q, arrV_store]
        congr 2
        funext q
        by_cases hq : q = i.toNatClampNeg
        · subst hq
          simp [updV, va_up, va_rf, pm_ad]
        · simp [updV, va_up, hq])
      exact h.2 p e s m args below meth cd R Z H1 _ ls cells slots hC hZ hq.1 hq.2 hl hc hn
    · exact h.elim
  · exact h.elim
theorem pm_neg {m : Int32} (h : (!(decide (m < 0))) = true) : ¬ m < 0 := by simpa using h
set_option maxHeartbeats 4000000 in
theorem sS_new {l : Launch} {b base L : Nat} {xs : Nat → Int32} {D : va_G} {κ : Nat → ClassId} {ix : Nat} : pm_S l b base L xs D κ (.new ix) := by
  intro y pc a bb lv st G c n Q hy hd hln h p e s m args below meth cd R Z H locs ls cells slots hC hZ hR hS hl hc hn
  obtain ⟨hx, hb, hml, hown, hnm, hts, hns, hao, hK, hX, hbb, hbs, hbd, hbl⟩ := id hC
  unfold pm_I at h
  dsimp only at h hR hl hc hn ⊢
  obtain ⟨w1, w2, w3, w4⟩ := pm_nw_at hln
  obtain ⟨g1, h2⟩ := h
  obtain ⟨g2, g3⟩ := pm_and g1
  have g2 := Nat.le_of_ble_eq_true g2
  have g3 := Nat.le_of_ble_eq_true g3
  have hKn := hK.1 a _ (pm_cls_at w4)
  refine W.newcK hx hb hown (hts _ w1) (hts _ w2) (hts _ w3) rfl hd (by omega) (by omega) hKn.2.1 rfl fun H1 kC hkC e1 z1 o1 => ?_
  have hq : pm_Rl b base L xs D κ (G ++ [.inr (a, pm_df a)]) H1 := hR.push z1 o1 (fun t x q => by cases q) ⟨_, pm_cls_at w4, (u_born (pm_ft a) hts (pm_lays_in w4) hKn hkC e1 (pm_ft_ok w4)).to (pm_df_ok b base w4)⟩
  have hg := h2 p e s m args below meth cd R Z H1 locs ls (cells + 1) (slots + pm_nf a) hC hZ hq ⟨Nat.le_trans hS.1 (by omega), fun x h1 h2 => (o1 x (Nat.lt_of_lt_of_le h1 hS.1)).trans (hS.2.1 x h1 h2), hS.2.2⟩ hl (by dsimp only; omega) (by dsimp only; omega)
  dsimp only at hg
  rw [List.map_cons, show pm_v b base (.ref G.length) = .ref H.size by show Value.ref (pm_ad b base G.length) = _; rw [pm_next hR]] at hg
  exact hg
theorem pm_arr_at {t : ArrayType} {tg : Nat} (h : pm_tg t = some tg) : Cond.arrayClass (newarray.typeOf t) ∈ pm_tbl ∧ tg ∈ pm_tgs ∧ newarray.typeOf t = pm_aty tg ∧ componentBytes (newarray.typeOf t) ≤ 8 ∧ (∀ cA n, vp_cell cA (n, pm_z tg) = arrV cA n (fun _ => defaultValue (newarray.typeOf t))) ∧ (∀ (s : State) (c : ClassId), va_RA s c (pm_aty tg) → s.vm.findClass ("[" ++ (newarray.typeOf t).toString) = some c) ∧ ∀ b base n, pm_a b base (n, pm_z tg) = (n, pm_z tg) := by
  obtain ⟨a1, a2⟩ := pm_and pm_arr_ok
  obtain ⟨a1, a3⟩ := pm_and a1
  cases t <;> cases h
  · exact ⟨pm_has_in a2, by decide, rfl, by decide, fun _ _ => rfl, fun _ _ q => q, fun _ _ _ => rfl⟩
  · exact ⟨pm_has_in a1, by decide, rfl, by decide, fun _ _ => rfl, fun _ _ q => q, fun _ _ _ => rfl⟩
  · exact ⟨pm_has_in a3, by decide, rfl, by decide, fun _ _ => rfl, fun _ _ q => q, fun _ _ _ => rfl⟩
set_option maxHeartbeats 4000000 in
theorem sS_newarray {l : Launch} {b base L : Nat} {xs : Nat → Int32} {D : va_G} {κ : Nat → ClassId} {t : ArrayType} : pm_S l b base L xs D κ (.newarray t) := by
  intro y pc a bb lv st G c n Q hy hd hln h p e s m args below meth cd R Z H locs ls cells slots hC hZ hR hS hl hc hn
  obtain ⟨hx, hb, hml, hown, hnm, hts, hns, hao, hK, hX, hbb, hbs, hbd, hbl⟩ := id hC
  unfold pm_I at h
  dsimp only at h hR hl hc hn ⊢
  split at h
  · next m1 rest =>
    split at h
    · next tg e1 =>
      obtain ⟨w1, w2, w3, w4, w5, w6, w7⟩ := pm_arr_at e1
      obtain ⟨t0, ht⟩ := pm_tys_at (κ := κ) w2
      obtain ⟨g1, h2⟩ := h
      obtain ⟨g2, g3⟩ := pm_and g1
      obtain ⟨g4, g5⟩ := pm_and g3
      obtain ⟨g6, g7⟩ := pm_and g5
      have g2 := pm_neg g2
      have g4 := Nat.le_of_ble_eq_true g4
      have g6 := Nat.le_of_ble_eq_true g6
      have g7 := Nat.le_of_ble_eq_true g7
      refine va_newaK hx hb (hts _ w1) rfl hd rfl g2 rfl (Nat.le_trans (Nat.mul_le_mul_left _ w4) g4) (by omega) (by omega) rfl fun H1 cA e1 z1 o1 hAr hNm => ?_
      have hcA : cA = κ tg := Option.some.inj (hNm.symm.trans (w6 s _ (hK.2 t0 _ ht).2))
      subst hcA
      have hq : pm_Rl b base L xs D κ (G ++ [.inl (tg, m1.toNatClampNeg, pm_z tg)]) H1 := hR.push z1 o1 (fun t x q => by cases q; exact w2) (by
        show H1[H.size]? = some (vp_cell _ (pm_a b base (m1.toNatClampNeg, pm_z tg)))
        rw [w7, w5]
        exact e1)
      have hg := h2 p e s m args below meth cd R Z H1 locs ls (cells + 1) (slots + m1.toNatClampNeg) hC hZ hq ⟨Nat.le_trans hS.1 (by omega), fun x h1 h2 => (o1 x (Nat.lt_of_lt_of_le h1 hS.1)).trans (hS.2.1 x h1 h2), hS.2.2⟩ hl (by dsimp only; omega) (by dsimp only; omega)
      dsimp only at hg
      rw [List.map_cons, show pm_v b base (.ref G.length) = .ref H.size by show Value.ref (pm_ad b base G.length) = _; rw [pm_next hR]] at hg
      exact hg
    · exact h.elim
  · exact h.elim
set_option maxHeartbeats 4000000 in
theorem sS_anewarray {l : Launch} {b base L : Nat} {xs : Nat → Int32} {D : va_G} {κ : Nat → ClassId} {ix : Nat} : pm_S l b base L xs D κ (.anewarray ix) := by
  intro y pc a bb lv st G c n Q hy hd hln h p e s m args below meth cd R Z H locs ls cells slots hC hZ hR hS hl hc hn
  obtain ⟨hx, hb, hml, hown, hnm, hts, hns, hao, hK, hX, hbb, hbs, hbd, hbl⟩ := id hC
  unfold pm_I at h
  dsimp only at h hR hl hc hn ⊢
  split at h
  · next m1 rest =>
    obtain ⟨w1, w2, w3⟩ := pm_nq_at hln
    obtain ⟨t0, ht⟩ := pm_tys_at (κ := κ) w3
    obtain ⟨g1, h2⟩ := h
    obtain ⟨g2, g3⟩ := pm_and g1
    obtain ⟨g4, g5⟩ := pm_and g3
    obtain ⟨g6, g7⟩ := pm_and g5
    have g2 := pm_neg g2
    have g4 := Nat.le_of_ble_eq_true g4
    have g6 := Nat.le_of_ble_eq_true g6
    have g7 := Nat.le_of_ble_eq_true g7
    refine W.anew hx hb hown (hts _ w1) (va_AO.use (hao _ w2)) rfl hd rfl g2 g4 (by omega) (by omega) fun cA kA comp f1 f2 f3 f4 => ?_
    obtain ⟨-, -, -, -, -, k4⟩ := (hK.2 t0 _ ht).2
    have hcA : cA = κ (a + 3) := Option.some.inj (f1.symm.trans k4)
    subst hcA
    generalize hH1 : H.push ({ cls := κ (a + 3), slots := Array.replicate m1.toNatClampNeg .null, vm := .none } : Cell) = H1
    have z1 : H1.size = H.size + 1 := by rw [← hH1, Array.size_push]
    have e1 : H1[H.size]? = some (arrV (κ (a + 3)) m1.toNatClampNeg (fun _ => .null)) := by rw [← hH1, Array.getElem?_push_size, ← arrV_new]
    have o1 : ∀ q : Nat, q < H.size → H1[q]? = H[q]? := fun q hq => by rw [← hH1, Array.getElem?_push, if_neg (Nat.ne_of_lt hq)]
    have hq : pm_Rl b base L xs D κ (G ++ [.inl (a + 3, m1.toNatClampNeg, .inr (.inr (.inr (.inr (fun _ => none)))))]) H1 := hR.push z1 o1 (fun t x q => by cases q; exact w3) e1
    have hg := h2 p e s m args below meth cd R Z H1 locs ls (cells + 1) (slots + m1.toNatClampNeg) hC hZ hq ⟨Nat.le_trans hS.1 (by omega), fun x h1 h2 => (o1 x (Nat.lt_of_lt_of_le h1 hS.1)).trans (hS.2.1 x h1 h2), hS.2.2⟩ hl (by dsimp only; omega) (by dsimp only; omega)
    dsimp only at hg
    rw [List.map_cons, show pm_v b base (.ref G.length) = .ref H.size by show Value.ref (pm_ad b base G.length) = _; rw [pm_next hR]] at hg
    exact hg
  · exact h.elim
theorem pm_nn (z : Int32) (hz : ¬ z < 0) : z.toInt = (z.toNatClampNeg : Int) := by
  have hz0 : (0 : Int) ≤ z.toInt := by
    have := Int32.not_lt.mp hz
    simpa using Int32.le_iff_toInt_le.mp this
  show z.toInt = ((z.toInt.toNat : Nat) : Int)
  omega
/-- System.arraycopy between rows of ints: the copy, and no cell more -/
theorem pm_copy {p : Program} {l : Launch} {e : Env} {R : Room} {s : State} {m : MethodId} {args : Array Value} {below : List Frame} {meth : Method} {c : Code} {H H0 : Heap} {locs : List Loc} {cells slots pc : Nat} {Q : State → Prop} {ls : Array Slot} {rest : List Value} {D : va_G} {A : Nat → Prop} {a a0 : Nat} {tys : List (ClassId × FieldType)} {ws : va_W} {cc : ByteArray} {own : String} {ix n0 n1 : Nat} {c0 : ClassId} {f g : Nat → Int32} {sp dp n : Int32}
    (hx : p.tables.exec = Jvm.exec) (hb : c.code = cc) (hml : c.maxLocals = ls.size) (hown : s.vm.findClass own = some m.cls) (hlink : (Cond.methodLink own ix arraycopyName).before args s = true) (hnat : (Cond.native arraycopyName).before args s = true) (hstat : (Cond.static arraycopyName).before args s = true) (hini : (Cond.initialized "java/lang/System").before args s = true)
    (hK : va_K D pm_cls tys s) (hP : va_P D pm_cls ws H) (hD : va_D A ws) (hS : va_S A H0 H locs) (q0 q1 t0 : Nat) (h0 : ws[q0]? = some (a0, .inl (c0, n0, .inl f))) (h1 : ws[q1]? = some (a, .inl (c0, n1, .inl g))) (ht : tys[t0]? = some (c0, .int)) (g1 : ¬ sp < 0) (g2 : ¬ dp < 0) (g3 : ¬ n < 0) (g4 : sp.toNatClampNeg + n.toNatClampNeg ≤ n0) (g5 : dp.toNatClampNeg + n.toNatClampNeg ≤ n1)
    (hfr : 1 ≤ R.frames) (hlo : (rest.map fun v => v.category).sum + (nativeFrameWords "java/lang/System" "arraycopy" 5 + 11) ≤ R.locals) (hd : decode cc pc = .ok (.invokestatic ix, 3))
    (kk : ∀ (H1 : Heap) (locs1 : List Loc), H1.size = H.size → va_P D pm_cls (ws.set q1 (a, .inl (c0, n1, .inl (va_cpy f g sp.toNatClampNeg dp.toNatClampNeg n.toNatClampNeg)))) H1 → va_S A H0 H1 locs1 → W p l e R s m args below meth c H1 locs1 cells slots Q (F0 m (pc + 3) ls rest)) : W p l e R s m args below meth c H locs cells slots Q (F0 m pc ls (.int n :: .int dp :: .ref a :: .int sp :: .ref a0 :: rest)) := by
  intro T hT X
  have hc0 : H[a0]? = some (vp_cell c0 (n0, .inl f)) := hP q0 _ h0
  have hc1 : H[a]? = some (vp_cell c0 (n1, .inl g)) := hP q1 _ h1
  obtain ⟨-, k0, hk0, cm0, hkk0⟩ := (hK.2 t0 _ ht).1 n0 (fun j => .int (f j))
  have eR : ∀ i, i < n.toNatClampNeg → (vp_cell c0 (n0, .inl f)).slots.getD (sp.toNatClampNeg + i) .null = .int (f (sp.toNatClampNeg + i)) := fun i hi => by
    show (arrV c0 n0 (fun j => .int (f j))).slots.getD _ _ = _
    rw [Array.getD_eq_getD_getElem?, arrV_read _ _ (by omega)]
    rfl
  obtain ⟨vm', X', step⟩ := X.arraycopy hx hown hlink hnat hstat hini (src := a0) (dst := a) (cs := vp_cell c0 (n0, .inl f)) (cd := vp_cell c0 (n1, .inl g)) (srcPos := sp) (destPos := dp) (n := n) (by rw [hT]; exact hc0) (by rw [hT]; exact hc1) (fun _ h => by cases h) (fun _ h => by cases h) (fun h => by cases h) (fun h => by cases h) hk0 hk0 hkk0 hkk0 (show (refKind FieldType.int != refKind FieldType.int || !refKind FieldType.int && FieldType.int != FieldType.int) = false by decide) g1 g2 g3
    (by rw [pm_nn sp g1, pm_nn n g3]; show ¬ _ > ((arrV c0 n0 (fun j => .int (f j))).slots.size : Int); rw [arrV_size]; omega)
    (by rw [pm_nn dp g2, pm_nn n g3]; show ¬ _ > ((arrV c0 n1 (fun j => .int (g j))).slots.size : Int); rw [arrV_size]; omega)
    (fun vm₁ _ i hi => by rw [eR i hi]; exact ⟨rfl, trivial⟩)
    (g := F0 m pc ls (.int n :: .int dp :: .ref a :: .int sp :: .ref a0 :: rest)) rfl (by rw [hml]) (rest := rest) rfl (by rw [hb]; exact hd) hfr (by show 2 * 0 + _ + _ ≤ _; omega)
  rw [show copied (vp_cell c0 (n0, .inl f)) (vp_cell c0 (n1, .inl g)) sp dp n = vp_cell c0 (n1, .inl (va_cpy f g sp.toNatClampNeg dp.toNatClampNeg n.toNatClampNeg)) from va_copied (fun z => .int z) c0 c0 f g g4] at X' step
  have hl : a < H.size := (Array.getElem?_eq_some_iff.mp hc1).1
  generalize hv : vp_cell c0 (n1, .inl (va_cpy f g sp.toNatClampNeg dp.toNatClampNeg n.toNatClampNeg)) = cell at X' step
  have hheap : ((T.setVm vm').setCell a cell).heap = H.setIfInBounds a cell := by rw [← hT]; rfl
  have oq : ∀ q : Nat, q ≠ a → (H.setIfInBounds a cell)[q]? = H[q]? := fun q hq => by simp [Array.getElem?_setIfInBounds, Ne.symm hq]
  obtain ⟨t, a1, b1⟩ := kk _ _ (by simp) (hP.set hD h1 (show (H.setIfInBounds a cell)[a]? = some (vp_cell _ _) by rw [hv]; simp [Array.getElem?_setIfInBounds, hl]) oq) ⟨by simp; exact hS.1, fun q z1 z2 => by
      rw [oq q (fun e => z2 (by rw [e]; exact hD.2 q1 _ h1))]
      exact hS.2.1 q z1 z2, fun q hq => by
      rcases List.mem_append.mp hq with h | h
      · exact hS.2.2 q h
      · obtain ⟨z, -, hz⟩ := List.mem_map.mp h
        rw [← hz]
        exact hD.2 q1 _ h1⟩ _ hheap X'
  exact ⟨t, step t a1, b1⟩
section PMC
variable {p : Program} {l : Launch} {e : Env} {R : Room} {s : State} {m : MethodId} {args : Array Value} {below : List Frame} {meth : Method} {c : Code} {H : Heap} {locs : List Loc} {cells slots : Nat} {Z : State → Prop}
variable {b base L : Nat} {xs : Nat → Int32} {D : va_G} {κ : Nat → ClassId} {pc mc ms : Nat} {ls : Array Slot} {rest st0 : List Value} {a : Array Value}
/-- behind a call -/
theorem pm_back {Q' : pm_Q} (hr : va_Run p l e R s m args below meth c H locs cells slots mc ms (F0 m pc ls st0) rest (pm_Qc b base L xs D κ Q' a) (pm_A base)) (hS : va_S (pm_A base) s.heap H locs)
    (kk : ∀ (r : Option Value) (G : pm_H) (H1 : Heap) (locs1 : List Loc), Q' r G → pm_Rl b base L xs D κ G H1 → va_S (pm_A base) s.heap H1 locs1 → W p l e R s m args below meth c H1 locs1 (cells + mc) (slots + ms) Z (F0 m (pc + 3) ls ((r.map (pm_v b base)).toList ++ rest))) : W p l e R s m args below meth c H locs cells slots Z (F0 m pc ls st0) := by
  intro T hT X
  obtain ⟨v, st₀, t, T', Lc, h0, X', hL, e1, e2, ⟨r, G, hv, hq, hR, hz, hk⟩, st⟩ := hr T hT X
  cases hv
  rw [h0] at hz hk
  rw [← e1] at hR hz
  obtain ⟨t2, a1, b1⟩ := kk r G T'.heap (locs ++ Lc) hq hR ⟨Nat.le_trans hS.1 hz, fun q h1 h2 => by
      rw [e1, hk q (Nat.lt_of_lt_of_le h1 hS.1) h2]
      exact hS.2.1 q h1 h2, fun q hq => by
      rcases List.mem_append.mp hq with h | h
      · exact hS.2.2 q h
      · exact hL q h⟩ T' rfl X'
  exact ⟨t2, st t2 a1, b1⟩
end PMC
/-- a method's contract out of its plain run -/
theorem pm_met {l : Launch} {b base L : Nat} {xs : Nat → Int32} {D : va_G} {κ : Nat → ClassId} {z : Nat} {as : List Value} {G : pm_H} {Q : pm_Q} (hbb : b < base) (hp : plainName (pm_nm z).cls = true) (hcl : (pm_nm z).cls = pm_cn (pm_oc z)) (hcs : pm_cs as (pm_ml z) = true)
    (h : pm_X l b base L xs D κ z (0, lv_args 0 as, [], G, pm_bc z, pm_bs z) Q) : Met l (pm_nm z) (pm_wz z) (pm_rm z) (pm_Pc b base L xs D κ as G) (pm_Qc b base L xs D κ Q) (pm_bc z) (pm_bs z) (pm_A base) := by
  refine Met.ofW (cc := pm_by z) (maxL := pm_ml z) (ret := pm_rty z) hp rfl ?_
  intro p e s m args below meth c s₁ B hml hv
  obtain ⟨rfl, hR, hK, hX, hbs, hns, hao⟩ := hv
  have hts := atoms_spec (ws := pm_wz z) B.pre
  have hown : s.vm.findClass (pm_cn (pm_oc z)) = some m.cls := by rw [← hcl]; exact findClass_of_methodNamed B.named
  have hlen : (lg_sl (as.map (pm_v b base))).length ≤ pm_ml z := by
    rw [pm_sl_len, List.map_map, show ((fun v : Value => v.category) ∘ pm_v b base) = (fun v => v.category) from funext (fun v => pm_v_cat b base v)]
    exact Nat.le_of_ble_eq_true hcs
  have hl := lv_entry (as.map (pm_v b base)) (n := pm_ml z) hlen
  rw [pm_args_map] at hl
  rw [lg_entry_eq]
  exact h p e s m _ below meth c (pm_rm z) _ s.heap [] _ 0 0 ⟨B.exec, B.bytes, hml, hown, (name_of_methodNamed B.named B.method).1, fun w hw => hts w (List.mem_cons_of_mem _ hw), hns, hao, hK, hX, hbb, hbs, Nat.le_refl _, Nat.le_refl _⟩ (pm_zr pm_ck B.exec B.bytes B.returns B.notSynchronized (pm_rm z)) hR va_S.rf hl (by show 0 + pm_bc z ≤ pm_bc z; omega) (by show 0 + pm_bs z ≤ pm_bs z; omega)
theorem pm_wz_good {z : Nat} (hc : Cond.code (pm_nm z) (pm_by z) (pm_ml z) (pm_rty z) ∈ pm_tbl) : GoodIn pm_tbl (pm_wz z) := fun w hw => by
  rcases List.mem_cons.mp hw with h | h
  · subst h; exact pm_tbl_good _ hc
  · exact pm_tbl_good _ h
theorem pm_pre {b base L : Nat} {xs : Nat → Int32} {D : va_G} {κ : Nat → ClassId} {as : List Value} {G : pm_H} {s : State} {H : Heap} {locs : List Loc} (hR : pm_Rl b base L xs D κ G H) (hK : va_K D pm_cls (pm_tys κ) s) (hX : va_X b L xs s s.heap) (hbb : b < base) (hbs : base ≤ s.heap.size) (hS : va_S (pm_A base) s.heap H locs) (hns : ∀ w ∈ pm_nst, va_Nw w s) (hao : ∀ C ∈ pm_aos, va_AO C s) : ∀ U : State, U.heap = H → s.WarmedH U.vm → pm_Pc b base L xs D κ as G (as.map (pm_v b base)).toArray U := by
  intro U hU hW
  refine ⟨rfl, by rw [hU]; exact hR, va_K.moved hW.alike hK, ?_, by rw [hU]; exact Nat.le_trans hbs hS.1, pm_nst_warm hW hns, fun C hC => va_AO.moved hW.alike (hao C hC)⟩
  refine va_X.moved hW.alike (hX.kept ?_)
  rw [hU]
  exact hS.2.1 b (Nat.lt_of_lt_of_le hbb hbs) (Nat.not_le.mpr hbb)
set_option maxHeartbeats 4000000 in
theorem sS_invokevirtual {l : Launch} {b base L : Nat} {xs : Nat → Int32} {D : va_G} {κ : Nat → ClassId} {ix : Nat} : pm_S l b base L xs D κ (.invokevirtual ix) := by
  intro y pc a bb lv st G c n Q hy hd hln h p e s m args below meth cd R Z H locs ls cells slots hC hZ hR hS hl hc hn
  obtain ⟨hx, hb, hml, hown, hnm, hts, hns, hao, hK, hX, hbb, hbs, hbd, hbl⟩ := id hC
  unfold pm_I at h
  dsimp only at h hR hl hc hn ⊢
  obtain ⟨w1, w2⟩ := pm_and hln
  obtain ⟨w2, w3⟩ := pm_and w2
  split at h
  · next as r rest e1 =>
    split at h
    · next ci fs e2 =>
      obtain ⟨g1, Q', hQ1, hQ2⟩ := h
      obtain ⟨g2, g3⟩ := pm_and g1
      obtain ⟨g4, g5⟩ := pm_and g3
      obtain ⟨g6, g7⟩ := pm_and g5
      obtain ⟨g8, g9⟩ := pm_and g7
      have g4 := Nat.le_of_ble_eq_true g4
      have g6 := Nat.le_of_ble_eq_true g6
      obtain ⟨p1, p2⟩ := pm_pop_ok _ _ _ _ _ e1
      have p1 : st = as.reverse ++ .ref r :: rest := by simpa using p1
      have p2 : as.length = pm_na bb := by simpa using p2
      subst p1
      obtain ⟨k, rfl⟩ := pm_not0 hR e2
      have hci := Nat.eq_of_beq_eq_true g2
      obtain ⟨f1, f2, f3, f4, f5, f6, f7, f8, f9, f10, f11⟩ := pm_fit_at w3
      obtain ⟨f12, f13, f14⟩ := f9 (Nat.eq_of_beq_eq_true w2)
      have hM := pm_met hbb f6 f5 g9 hQ1
      have he := pm_ws_get (b := b) (base := base) (κ := κ) e2
      have hq : ∃ q, pm_cls[ci]? = some q ∧ q.1 = (pm_nm bb).cls := by
        rw [hci]
        cases hz : pm_cls[pm_oc bb]? with
        | none => rw [hz] at f14; cases f14
        | some q => rw [hz] at f14; exact ⟨q, rfl, Option.some.inj f14⟩
      obtain ⟨q, hq1, hq2⟩ := hq
      have hrc := va_recv hK hR.2.2.1 hq1 he
      rw [hq2] at hrc
      have hpre := pm_pre (as := .ref (k + 1) :: as) hR hK hX hbb hbs hS hns hao
      have hgood : GoodIn pm_tbl (wsV (pm_cn (pm_oc y)) ix (pm_nm bb).cls (pm_nm bb) (pm_wz bb)) := fun w hw => by
        unfold wsV at hw
        rcases List.mem_append.mp hw with h | h
        · simp only [List.mem_cons, List.not_mem_nil, or_false] at h
          rcases h with h | h | h | h <;> subst h
          · exact pm_tbl_good _ (pm_mk_at w1)
          · exact pm_tbl_good _ f12
          · exact pm_tbl_good _ f13
          · exact pm_tbl_good _ f4
        · exact pm_wz_good f3 w h
      rw [List.map_append, List.map_reverse, List.map_cons]
      refine pm_back (Q' := Q') (va_runV (As := as.map (pm_v b base)) (rest := rest.map (pm_v b base)) (b := base + k) (nL := pm_ml y) (own := pm_cn (pm_oc y)) ⟨hx, hb, hml, hown, hts⟩ hM (cwV (pm_na bb) hts hgood rfl rfl rfl ⟨rfl, f7.1, f7.2, f8⟩ ⟨Nat.le_trans f1 hbd, Nat.le_trans f2 hbl⟩) ⟨pm_Pc_blind, hrc, hpre⟩ rfl (by rw [List.length_map]; exact p2) hl.1 rfl (by show 2 * 0 + _ ≤ 8; have := pm_ct_of (b := b) (base := base) g8; omega) hd ⟨by show cells + pm_bc bb ≤ _; omega, by show slots + pm_bs bb ≤ _; omega⟩) hS (fun r2 G2 H2 locs2 k1 k2 k3 => by
          have hg := hQ2 r2 G2 k1 p e s m args below meth cd R Z H2 locs2 ls (cells + pm_bc bb) (slots + pm_bs bb) hC hZ k2 k3 hl (by dsimp only; omega) (by dsimp only; omega)
          dsimp only at hg
          rw [List.map_append] at hg
          rw [show (r2.map (pm_v b base)).toList = r2.toList.map (pm_v b base) by cases r2 <;> rfl]
          exact hg)
    · exact h.elim
  · exact h.elim
set_option maxHeartbeats 4000000 in
theorem sS_invokespecial {l : Launch} {b base L : Nat} {xs : Nat → Int32} {D : va_G} {κ : Nat → ClassId} {ix : Nat} : pm_S l b base L xs D κ (.invokespecial ix) := by
  intro y pc a bb lv st G c n Q hy hd hln h p e s m args below meth cd R Z H locs ls cells slots hC hZ hR hS hl hc hn
  obtain ⟨hx, hb, hml, hown, hnm, hts, hns, hao, hK, hX, hbb, hbs, hbd, hbl⟩ := id hC
  unfold pm_I at h
  dsimp only at h hR hl hc hn ⊢
  split at h
  · split at h
    · next r rest =>
      have hw : pm_mo.any (fun e => decide (e.2 = (pm_oc y, ix))) = true ∧ 1 ≤ pm_bd y ∧ 20 ≤ pm_bl y := by
        rcases pm_or hln with q | q
        · obtain ⟨q1, q2⟩ := pm_and q
          obtain ⟨q2, q3⟩ := pm_and q2
          obtain ⟨q3, q4⟩ := pm_and q3
          exact ⟨q2, Nat.le_of_ble_eq_true q3, Nat.le_of_ble_eq_true q4⟩
        · rcases pm_or q with q | q
          · exact absurd (pm_and q).1 (by decide)
          · exact absurd (pm_and q).1 (by decide)
      obtain ⟨o1, o2⟩ := pm_and pm_obj_ok
      have hct := pm_ct_of (b := b) (base := base) h.1
      exact W.objInit hx hb hown (hts _ (pm_mo_at hw.1)) (hts _ (pm_has_in o1)) (hts _ (pm_has_in o2)) rfl (by rw [hml]; exact hl.1) rfl hd (Nat.le_trans hw.2.1 hbd) (by show 2 * 0 + _ + 12 ≤ _; omega) (h.2 p e s m args below meth cd R Z H locs ls cells slots hC hZ hR hS hl hc hn)
    · exact h.elim
  · next ha =>
    split at h
    · next as r rest e1 =>
      obtain ⟨g1, Q', hQ1, hQ2⟩ := h
      obtain ⟨g3, g4⟩ := pm_and g1
      obtain ⟨g5, g6⟩ := pm_and g4
      obtain ⟨g8, g9⟩ := pm_and g6
      have g4 := Nat.le_of_ble_eq_true g3
      have g6 := Nat.le_of_ble_eq_true g5
      obtain ⟨p1, p2⟩ := pm_pop_ok _ _ _ _ _ e1
      have p1 : st = as.reverse ++ .ref r :: rest := by simpa using p1
      have p2 : as.length = pm_na bb := by simpa using p2
      subst p1
      have hln2 : (Nat.beq a 1 && (pm_mk.any (fun e => decide (e.2 = (pm_oc y, ix, bb))) && (Nat.beq (pm_kd bb) 1 && pm_fit y bb))) = true ∨ (Nat.beq a 3 && (pm_mn.any (fun e => decide (e.2 = (pm_oc y, ix, bb))) && (Nat.beq (pm_kd bb) 1 && pm_fit y bb))) = true := by
        rcases pm_or hln with q | q
        · exact absurd (Nat.eq_of_beq_eq_true (pm_and q).1) ha
        · exact pm_or q
      have hw : Nat.beq (pm_kd bb) 1 = true ∧ pm_fit y bb = true := by
        rcases hln2 with q | q <;> exact pm_and (pm_and (pm_and q).2).2
      obtain ⟨f1, f2, f3, f4, f5, f6, f7, f8, f9, f10, f11⟩ := pm_fit_at hw.2
      obtain ⟨f12, f13, f14⟩ := f10 (Nat.eq_of_beq_eq_true hw.1)
      have hM := pm_met hbb f6 f5 g9 hQ1
      have hpre := pm_pre (as := .ref r :: as) hR hK hX hbb hbs hS hns hao
      have hwz : pm_wz bb = Cond.code (pm_nm bb) (pm_by bb) (pm_ml bb) none :: pm_tbl := by unfold pm_wz; rw [f14]
      rw [List.map_append, List.map_reverse, List.map_cons]
      rcases hln2 with q | q
      · refine pm_back (Q' := Q') (va_runI (As := as.map (pm_v b base)) (rest := rest.map (pm_v b base)) (b := pm_ad b base r) (nL := pm_ml y) (own := pm_cn (pm_oc y)) ⟨hx, hb, hml, hown, hts⟩ hM (cwI (pm_na bb) hts (pm_wz_good f3) hwz rfl rfl (hts _ f4) (hts _ (pm_mk_at (pm_and (pm_and q).2).1)) (hts _ f12) f13 ⟨f7.1, f7.2, f8⟩ ⟨Nat.le_trans f1 hbd, Nat.le_trans f2 hbl⟩) ⟨pm_Pc_blind, hpre⟩ rfl (by rw [List.length_map]; exact p2) hl.1 rfl (by show 2 * 0 + _ ≤ 8; have := pm_ct_of (b := b) (base := base) g8; omega) hd ⟨by show cells + pm_bc bb ≤ _; omega, by show slots + pm_bs bb ≤ _; omega⟩) hS (fun r2 G2 H2 locs2 k1 k2 k3 => by
          have hg := hQ2 r2 G2 k1 p e s m args below meth cd R Z H2 locs2 ls (cells + pm_bc bb) (slots + pm_bs bb) hC hZ k2 k3 hl (by dsimp only; omega) (by dsimp only; omega)
          dsimp only at hg
          rw [List.map_append] at hg
          rw [show (r2.map (pm_v b base)).toList = r2.toList.map (pm_v b base) by cases r2 <;> rfl]
          exact hg)
      · refine pm_back (Q' := Q') (va_runIN (As := as.map (pm_v b base)) (rest := rest.map (pm_v b base)) (b := pm_ad b base r) (nL := pm_ml y) (own := pm_cn (pm_oc y)) ⟨hx, hb, hml, hown, hts⟩ hM ⟨va_cnB (pm_na bb) hts (pm_wz_good f3) hwz rfl rfl (hns _ (pm_mn_at (pm_and (pm_and q).2).1)) (hts _ f4) ⟨f7.1, f7.2, f8⟩ ⟨Nat.le_trans f1 hbd, Nat.le_trans f2 hbl⟩, f13, hts _ f12⟩ ⟨pm_Pc_blind, hpre⟩ rfl (by rw [List.length_map]; exact p2) hl.1 rfl (by show 2 * 0 + _ ≤ 8; have := pm_ct_of (b := b) (base := base) g8; omega) hd ⟨by show cells + pm_bc bb ≤ _; omega, by show slots + pm_bs bb ≤ _; omega⟩) hS (fun r2 G2 H2 locs2 k1 k2 k3 => by
          have hg := hQ2 r2 G2 k1 p e s m args below meth cd R Z H2 locs2 ls (cells + pm_bc bb) (slots + pm_bs bb) hC hZ k2 k3 hl (by dsimp only; omega) (by dsimp only; omega)
          dsimp only at hg
          rw [List.map_append] at hg
          rw [show (r2.map (pm_v b base)).toList = r2.toList.map (pm_v b base) by cases r2 <;> rfl]
          exact hg)
    · exact h.elim
set_option maxHeartbeats 4000000 in
theorem sS_invokestatic {l : Launch} {b base L : Nat} {xs : Nat → Int32} {D : va_G} {κ : Nat → ClassId} {ix : Nat} : pm_S l b base L xs D κ (.invokestatic ix) := by
  intro y pc a bb lv st G c n Q hy hd hln h p e s m args below meth cd R Z H locs ls cells slots hC hZ hR hS hl hc hn
  obtain ⟨hx, hb, hml, hown, hnm, hts, hns, hao, hK, hX, hbb, hbs, hbd, hbl⟩ := id hC
  unfold pm_I at h
  dsimp only at h hR hl hc hn ⊢
  split at h
  · split at h
    · next u x rest =>
      have hw : pm_mx.any (fun e => decide (e.2 = (pm_oc y, ix))) = true ∧ 1 ≤ pm_bd y ∧ 21 ≤ pm_bl y := by
        rcases pm_or hln with q | q
        · obtain ⟨q2, q3⟩ := pm_and (pm_and q).2
          obtain ⟨q3, q4⟩ := pm_and q3
          exact ⟨q2, Nat.le_of_ble_eq_true q3, Nat.le_of_ble_eq_true q4⟩
        · rcases pm_or q with q | q
          · exact absurd (pm_and q).1 (by decide)
          · rcases pm_or q with q | q
            · exact absurd (pm_and q).1 (by decide)
            · exact absurd (pm_and q).1 (by decide)
      obtain ⟨o1, o5⟩ := pm_and pm_mth_ok
      obtain ⟨o1, o4⟩ := pm_and o1
      obtain ⟨o1, o3⟩ := pm_and o1
      obtain ⟨o1, o2⟩ := pm_and o1
      have hct := pm_ct_of (b := b) (base := base) h.1
      exact va_mmax hx hb (by rw [hml]; exact hl.1.symm) hown (hts _ (pm_mx_at hw.1)) (hts _ (pm_has_in o1)) (hts _ (pm_has_in o5)) (hts _ (pm_has_in o2)) (Nat.le_trans hw.2.1 hbd) (by omega) (by omega) (by omega) hd (h.2 p e s m args below meth cd R Z H locs ls cells slots hC hZ hR hS hl hc hn)
    · exact h.elim
  · split at h
    · next u x rest =>
      have hw : pm_my.any (fun e => decide (e.2 = (pm_oc y, ix))) = true ∧ 1 ≤ pm_bd y ∧ 21 ≤ pm_bl y := by
        rcases pm_or hln with q | q
        · obtain ⟨q2, q3⟩ := pm_and (pm_and q).2
          obtain ⟨q3, q4⟩ := pm_and q3
          exact ⟨q2, Nat.le_of_ble_eq_true q3, Nat.le_of_ble_eq_true q4⟩
        · rcases pm_or q with q | q
          · exact absurd (pm_and q).1 (by decide)
          · exact absurd (pm_and q).1 (by decide)
      obtain ⟨o1, o5⟩ := pm_and pm_mth_ok
      obtain ⟨o1, o4⟩ := pm_and o1
      obtain ⟨o1, o3⟩ := pm_and o1
      obtain ⟨o1, o2⟩ := pm_and o1
      have hct := pm_ct_of (b := b) (base := base) h.1
      exact va_mmin hx hb (by rw [hml]; exact hl.1.symm) hown (hts _ (pm_my_at hw.1)) (hts _ (pm_has_in o3)) (hts _ (pm_has_in o5)) (hts _ (pm_has_in o4)) (Nat.le_trans hw.2.1 hbd) (by omega) (by omega) (by omega) hd (h.2 p e s m args below meth cd R Z H locs ls cells slots hC hZ hR hS hl hc hn)
    · exact h.elim
  · split at h
    · next m1 dp k1 sp k0 rest =>
      split at h
      · next n0 f n1 g e1 e2 =>
        have hw : pm_mc.any (fun e => decide (e.2 = (pm_oc y, ix))) = true ∧ 1 ≤ pm_bd y ∧ 8 + (nativeFrameWords "java/lang/System" "arraycopy" 5 + 11) ≤ pm_bl y := by
          rcases pm_or hln with q | q
          · obtain ⟨q2, q3⟩ := pm_and (pm_and q).2
            obtain ⟨q3, q4⟩ := pm_and q3
            exact ⟨q2, Nat.le_of_ble_eq_true q3, Nat.le_of_ble_eq_true q4⟩
          · exact absurd (pm_and q).1 (by decide)
        obtain ⟨o1, o3⟩ := pm_and pm_cpy_ok
        obtain ⟨o1, o2⟩ := pm_and o1
        obtain ⟨g0, h2⟩ := h
        obtain ⟨g1, g2⟩ := pm_and g0
        obtain ⟨g3, g4⟩ := pm_and g2
        obtain ⟨g5, g6⟩ := pm_and g4
        obtain ⟨g7, g8⟩ := pm_and g6
        obtain ⟨g9, g10⟩ := pm_and g8
        have hct := pm_ct_of (b := b) (base := base) g10
        have htg := hR.2.2.2 _ _ _ e1
        obtain ⟨t0, ht⟩ := pm_tys_at (κ := κ) htg
        refine pm_copy hx hb (by rw [hml]; exact hl.1.symm) hown (hts _ (pm_mc_at hw.1)) (hts _ (pm_has_in o1)) (hts _ (pm_has_in o2)) (hts _ (pm_has_in o3)) hK hR.2.2.1 pm_ws_D hS k0 k1 t0 (pm_ws_get (b := b) (base := base) (κ := κ) e1) (pm_ws_get (b := b) (base := base) (κ := κ) e2) ht (pm_neg g1) (pm_neg g3) (pm_neg g5) (Nat.le_of_ble_eq_true g7) (Nat.le_of_ble_eq_true g9) (Nat.le_trans hw.2.1 hbd) (by omega) hd fun H1 locs1 z hP1 hS1 => ?_
        exact h2 p e s m args below meth cd R Z H1 locs1 ls cells slots hC hZ (hR.set z (fun t x q => by cases q; exact htg) hP1) hS1 hl hc hn
      · exact h.elim
    · exact h.elim
  · next h6 h7 h8 =>
    split at h
    · next as rest e1 =>
      obtain ⟨g1, Q', hQ1, hQ2⟩ := h
      obtain ⟨g3, g4⟩ := pm_and g1
      obtain ⟨g5, g6⟩ := pm_and g4
      obtain ⟨g8, g9⟩ := pm_and g6
      have g4 := Nat.le_of_ble_eq_true g3
      have g6 := Nat.le_of_ble_eq_true g5
      obtain ⟨p1, p2⟩ := pm_pop_ok _ _ _ _ _ e1
      have p1 : st = as.reverse ++ rest := by simpa using p1
      have p2 : as.length = pm_na bb := by simpa using p2
      subst p1
      have hw : pm_mk.any (fun e => decide (e.2 = (pm_oc y, ix, bb))) = true ∧ Nat.beq (pm_kd bb) 2 = true ∧ pm_fit y bb = true := by
        rcases pm_or hln with q | q
        · exact absurd (Nat.eq_of_beq_eq_true (pm_and q).1) h6
        · rcases pm_or q with q | q
          · exact absurd (Nat.eq_of_beq_eq_true (pm_and q).1) h7
          · rcases pm_or q with q | q
            · exact absurd (Nat.eq_of_beq_eq_true (pm_and q).1) h8
            · obtain ⟨q1, q2⟩ := pm_and (pm_and q).2
              exact ⟨q1, pm_and q2⟩
      obtain ⟨f1, f2, f3, f4, f5, f6, f7, f8, f9, f10, f11⟩ := pm_fit_at hw.2.2
      have f12 := f11 (Nat.eq_of_beq_eq_true hw.2.1)
      have hM := pm_met hbb f6 f5 g9 hQ1
      have hpre := pm_pre (as := as) hR hK hX hbb hbs hS hns hao
      have hgood : GoodIn pm_tbl (va_wsS (pm_cn (pm_oc y)) ix (pm_nm bb) (pm_wz bb)) := fun w hw2 => by
        unfold va_wsS at hw2
        rcases List.mem_append.mp hw2 with h | h
        · simp only [List.mem_cons, List.not_mem_nil, or_false] at h
          rcases h with h | h | h <;> subst h
          · exact pm_tbl_good _ (pm_mk_at hw.1)
          · exact pm_tbl_good _ f12
          · exact pm_tbl_good _ f4
        · exact pm_wz_good f3 w h
      rw [List.map_append, List.map_reverse]
      refine pm_back (Q' := Q') (va_runS (As := as.map (pm_v b base)) (rest := rest.map (pm_v b base)) (nL := pm_ml y) (own := pm_cn (pm_oc y)) ⟨hx, hb, hml, hown, hts⟩ hM (va_cwS (pm_na bb) hts hgood rfl rfl rfl ⟨f7.1, f7.2, f8⟩ ⟨Nat.le_trans f1 hbd, Nat.le_trans f2 hbl⟩) ⟨pm_Pc_blind, hpre⟩ rfl (by rw [List.length_map]; exact p2) hl.1 rfl (by show 2 * 0 + _ ≤ 8; have := pm_ct_of (b := b) (base := base) g8; omega) hd ⟨by show cells + pm_bc bb ≤ _; omega, by show slots + pm_bs bb ≤ _; omega⟩) hS (fun r2 G2 H2 locs2 k1 k2 k3 => by
          have hg := hQ2 r2 G2 k1 p e s m args below meth cd R Z H2 locs2 ls (cells + pm_bc bb) (slots + pm_bs bb) hC hZ k2 k3 hl (by dsimp only; omega) (by dsimp only; omega)
          dsimp only at hg
          rw [List.map_append] at hg
          rw [show (r2.map (pm_v b base)).toList = r2.toList.map (pm_v b base) by cases r2 <;> rfl]
          exact hg)
    · exact h.elim
set_option maxHeartbeats 8000000 in
theorem pm_sound1 {l : Launch} {b base L : Nat} {xs : Nat → Int32} {D : va_G} {κ : Nat → ClassId} {y pc : Nat} {lv : pm_L} {st : List Value} {G : pm_H} {c n : Nat} {Q : pm_Q} (hnr : ∀ t r, pm_D y (pc, lv, st, G, c, n) ≠ .inr (.inr (.inl (t, r)))) (h : pm_K (pm_X l b base L xs D κ) y (pc, lv, st, G, c, n) Q (pm_D y (pc, lv, st, G, c, n))) : pm_X l b base L xs D κ y (pc, lv, st, G, c, n) Q := by
  unfold pm_D at h hnr
  dsimp only at h hnr
  cases hk : pm_k y pc with
  | none => rw [hk] at h; exact h.elim
  | some e' =>
    obtain ⟨i, a, bb⟩ := e'
    rw [hk] at h hnr
    dsimp only at h hnr
    obtain ⟨hd, hln⟩ := pm_ck _ _ _ _ _ hk
    have hy : Nat.blt y 191 = true := by
      unfold pm_k at hk
      cases hb : Nat.blt y 191 with
      | true => rfl
      | false => rw [hb] at hk; cases hk
    cases i with
    | aconst_null => exact sS_aconst_null _ _ _ _ _ _ _ _ _ _ hy hd hln h
    | iconst _ => exact sS_iconst _ _ _ _ _ _ _ _ _ _ hy hd hln h
    | bipush _ => exact sS_bipush _ _ _ _ _ _ _ _ _ _ hy hd hln h
    | sipush _ => exact sS_sipush _ _ _ _ _ _ _ _ _ _ hy hd hln h
    | lconst _ => exact sS_lconst _ _ _ _ _ _ _ _ _ _ hy hd hln h
    | ldc2_w _ => exact sS_ldc2_w _ _ _ _ _ _ _ _ _ _ hy hd hln h
    | aload_n _ => exact sS_aload_n _ _ _ _ _ _ _ _ _ _ hy hd hln h
    | aload _ => exact sS_aload _ _ _ _ _ _ _ _ _ _ hy hd hln h
    | iload_n _ => exact sS_iload_n _ _ _ _ _ _ _ _ _ _ hy hd hln h
    | iload _ => exact sS_iload _ _ _ _ _ _ _ _ _ _ hy hd hln h
    | lload_n _ => exact sS_lload_n _ _ _ _ _ _ _ _ _ _ hy hd hln h
    | lload _ => exact sS_lload _ _ _ _ _ _ _ _ _ _ hy hd hln h
    | istore_n _ => exact sS_istore_n _ _ _ _ _ _ _ _ _ _ hy hd hln h
    | istore _ => exact sS_istore _ _ _ _ _ _ _ _ _ _ hy hd hln h
    | astore_n _ => exact sS_astore_n _ _ _ _ _ _ _ _ _ _ hy hd hln h
    | astore _ => exact sS_astore _ _ _ _ _ _ _ _ _ _ hy hd hln h
    | lstore_n _ => exact sS_lstore_n _ _ _ _ _ _ _ _ _ _ hy hd hln h
    | lstore _ => exact sS_lstore _ _ _ _ _ _ _ _ _ _ hy hd hln h
    | iinc _ _ => exact sS_iinc _ _ _ _ _ _ _ _ _ _ hy hd hln h
    | iadd => exact sS_iadd _ _ _ _ _ _ _ _ _ _ hy hd hln h
    | isub => exact sS_isub _ _ _ _ _ _ _ _ _ _ hy hd hln h
    | imul => exact sS_imul _ _ _ _ _ _ _ _ _ _ hy hd hln h
    | irem => exact sS_irem _ _ _ _ _ _ _ _ _ _ hy hd hln h
    | iand => exact sS_iand _ _ _ _ _ _ _ _ _ _ hy hd hln h
    | ior => exact sS_ior _ _ _ _ _ _ _ _ _ _ hy hd hln h
    | ixor => exact sS_ixor _ _ _ _ _ _ _ _ _ _ hy hd hln h
    | ishl => exact sS_ishl _ _ _ _ _ _ _ _ _ _ hy hd hln h
    | ishr => exact sS_ishr _ _ _ _ _ _ _ _ _ _ hy hd hln h
    | ladd => exact sS_ladd _ _ _ _ _ _ _ _ _ _ hy hd hln h
    | lsub => exact sS_lsub _ _ _ _ _ _ _ _ _ _ hy hd hln h
    | land => exact sS_land _ _ _ _ _ _ _ _ _ _ hy hd hln h
    | lor => exact sS_lor _ _ _ _ _ _ _ _ _ _ hy hd hln h
    | lxor => exact sS_lxor _ _ _ _ _ _ _ _ _ _ hy hd hln h
    | lshl => exact sS_lshl _ _ _ _ _ _ _ _ _ _ hy hd hln h
    | lshr => exact sS_lshr _ _ _ _ _ _ _ _ _ _ hy hd hln h
    | lushr => exact sS_lushr _ _ _ _ _ _ _ _ _ _ hy hd hln h
    | lcmp => exact sS_lcmp _ _ _ _ _ _ _ _ _ _ hy hd hln h
    | l2i => exact sS_l2i _ _ _ _ _ _ _ _ _ _ hy hd hln h
    | i2l => exact sS_i2l _ _ _ _ _ _ _ _ _ _ hy hd hln h
    | dup => exact sS_dup _ _ _ _ _ _ _ _ _ _ hy hd hln h
    | pop => exact sS_pop _ _ _ _ _ _ _ _ _ _ hy hd hln h
    | dup2 => exact sS_dup2 _ _ _ _ _ _ _ _ _ _ hy hd hln h
    | ifCond _ _ => exact sS_ifCond _ _ _ _ _ _ _ _ _ _ hy hd hln h
    | if_icmp _ _ => exact sS_if_icmp _ _ _ _ _ _ _ _ _ _ hy hd hln h
    | ifnull _ => exact sS_ifnull _ _ _ _ _ _ _ _ _ _ hy hd hln h
    | ifnonnull _ => exact sS_ifnonnull _ _ _ _ _ _ _ _ _ _ hy hd hln h
    | goto _ => exact sS_goto _ _ _ _ _ _ _ _ _ _ hy hd hln h
    | tableswitch _ _ _ _ => exact sS_tableswitch _ _ _ _ _ _ _ _ _ _ hy hd hln h
    | getfield _ => exact sS_getfield _ _ _ _ _ _ _ _ _ _ hy hd hln h
    | putfield _ => exact sS_putfield _ _ _ _ _ _ _ _ _ _ hy hd hln h
    | iaload => exact sS_iaload _ _ _ _ _ _ _ _ _ _ hy hd hln h
    | baload => exact sS_baload _ _ _ _ _ _ _ _ _ _ hy hd hln h
    | laload => exact sS_laload _ _ _ _ _ _ _ _ _ _ hy hd hln h
    | aaload => exact sS_aaload _ _ _ _ _ _ _ _ _ _ hy hd hln h
    | iastore => exact sS_iastore _ _ _ _ _ _ _ _ _ _ hy hd hln h
    | bastore => exact sS_bastore _ _ _ _ _ _ _ _ _ _ hy hd hln h
    | lastore => exact sS_lastore _ _ _ _ _ _ _ _ _ _ hy hd hln h
    | aastore => exact sS_aastore _ _ _ _ _ _ _ _ _ _ hy hd hln h
    | arraylength => exact sS_arraylength _ _ _ _ _ _ _ _ _ _ hy hd hln h
    | newarray _ => exact sS_newarray _ _ _ _ _ _ _ _ _ _ hy hd hln h
    | anewarray _ => exact sS_anewarray _ _ _ _ _ _ _ _ _ _ hy hd hln h
    | new _ => exact sS_new _ _ _ _ _ _ _ _ _ _ hy hd hln h
    | invokevirtual _ => exact sS_invokevirtual _ _ _ _ _ _ _ _ _ _ hy hd hln h
    | invokespecial _ => exact sS_invokespecial _ _ _ _ _ _ _ _ _ _ hy hd hln h
    | invokestatic _ => exact sS_invokestatic _ _ _ _ _ _ _ _ _ _ hy hd hln h
    | ireturn =>
      unfold pm_I at h hnr
      dsimp only at h hnr
      repeat' split at h
      all_goals first | exact h.elim | (rename_i e1; exfalso; dsimp only at hnr; rw [e1] at hnr; exact hnr _ _ rfl)
    | lreturn =>
      unfold pm_I at h hnr
      dsimp only at h hnr
      repeat' split at h
      all_goals first | exact h.elim | (rename_i e1; exfalso; dsimp only at hnr; rw [e1] at hnr; exact hnr _ _ rfl)
    | areturn =>
      unfold pm_I at h hnr
      dsimp only at h hnr
      repeat' split at h
      all_goals first | exact h.elim | (rename_i e1; exfalso; dsimp only at hnr; rw [e1] at hnr; exact hnr _ _ rfl)
    | return_ =>
      unfold pm_I at h hnr
      dsimp only at h hnr
      repeat' split at h
      all_goals first | exact h.elim | (rename_i e1; exfalso; dsimp only at hnr; rw [e1] at hnr; exact hnr _ _ rfl)
    | _ => exact h.elim
set_option maxHeartbeats 8000000 in
theorem pm_sound {l : Launch} {b base L : Nat} {xs : Nat → Int32} {D : va_G} {κ : Nat → ClassId} : ∀ (y : Nat) (f : pm_F) (Q : pm_Q), pm_N (pm_X l b base L xs D κ) y f Q → pm_X l b base L xs D κ y f Q := by
  intro y f Q h
  obtain ⟨pc, lv, st, G, c, n⟩ := f
  unfold pm_N at h
  cases hD : pm_D y (pc, lv, st, G, c, n) with
  | inr d =>
    match d, hD with
    | .inr (.inl (t, r)), hD =>
      rw [hD] at h
      obtain ⟨h1, h2⟩ := h
      subst h1
      intro p e s m args below meth cd R Z H locs ls cells slots hC hZ hR hS hl hc hn
      exact hZ r pc lv st G c n H locs ls cells slots hD h2 hR hS (by dsimp only at hc; omega) (by dsimp only at hn; omega)
    | .inl d, hD => exact pm_sound1 (fun t r q => by rw [q] at hD; cases hD) h
    | .inr (.inr d), hD => exact pm_sound1 (fun t r q => by rw [q] at hD; cases hD) h
  | inl d => exact pm_sound1 (fun t r q => by rw [q] at hD; cases hD) h
theorem pm_wp {l : Launch} {b base L : Nat} {xs : Nat → Int32} {D : va_G} {κ : Nat → ClassId} {y : Nat} {f : pm_F} {Q : pm_Q} (h : pm_WP y f Q) : pm_X l b base L xs D κ y f Q := h _ pm_sound
end
section
-- ===== end of PART A; then your names; then what follows =====
/-! THE CLAIM OUT OF ONE WALK OF THE LAW'S BODY. Your part is whole_start (and what it stands on); all else here is the same for every law, but numbers. -/
def R_law : String := "ReferenceRulesLaw"
def lw_P (b : Addr) (xs : List Int32) (args : Array Value) (s : State) : Prop := args = #[.ref b] ∧ s.IntsAt b xs ∧ xs.length ≤ 2560 ∧ (Jvm.Cond.and given_1 narrow_1).before args s = true
def lw_Q (_ : Array Value) (s : State) (o : Outcome) (t : State) : Prop := o = .returned (some (.int 1)) ∧ Framed s o t [] 729303 6914340
def lw_Z (below : List Frame) (a : Array Value) (s : State) : State → Prop := fun t => ∃ o, t.status = .running ∧ Ended t below o ∧ lw_Q a s o t
/-- the law's own end, with 1 on the stack, nothing written that was there before, its room as the claim has it -/
theorem lw_ret {p : Program} {l : Launch} {e : Env} {s : State} {m : MethodId} {below : List Frame} {meth : Method} {c : Code} {b : Nat} (hx : p.tables.exec = Jvm.exec) (hb : c.code = code) (hr : meth.sig.returnType = ret) (hlocks : meth.locks = false) {pc : Nat} {H : Heap} {ls : Array Slot} (hdg : decode code pc = .ok (.ireturn, 1)) : W p l e room_1 s m #[Value.ref b] below meth c H [] 729303 6914340 (lw_Z below #[Value.ref b] s) (F0 m pc ls [.int 1]) := by
  intro T hT X
  obtain ⟨fs, hret, hrun, hended, hW, hframe⟩ := X.leave (v := some (.int 1)) (hlocks := hlocks) (fun h => by rw [hr] at h; cases h)
  have hmeth' : T.vm.method? m = some meth := X.method'
  refine ⟨T.setFrames fs, ?_, .returned (some (.int 1)), hrun, hended, rfl, ⟨_, rfl⟩, hW, hframe⟩
  jvm_step X.here [X.here.top, hx, hb, hdg, hmeth', hr, ret, narrow_b1]
  (try refine ⟨rfl, ?_⟩); (try refine ⟨rfl, ?_⟩)
  first | (intro acts; rw [hret _ acts rfl rfl rfl]) | rw [hret _ _ rfl rfl rfl]
  exact Steps.refl _
/-- what holds at the law's entry: the machine, the code, the tables' words (any of lw_tbl by 'hts w (by decide +kernel)'), the script of L ints xs at the cell b, what the Statement gives of the start (any of its parts by flat_of_before) -/
def lw_At (p : Program) (s : State) (m : MethodId) (meth : Method) (c : Code) (b L : Nat) (xs : Nat → Int32) : Prop :=
  p.tables.exec = Jvm.exec ∧ c.code = code ∧ meth.sig.returnType = ret ∧ c.maxLocals = 4 ∧ s.vm.findClass R_law = some m.cls ∧ (∀ w ∈ lw_tbl, w.before #[Value.ref b] s = true) ∧ va_X b L xs s s.heap ∧ b < s.heap.size ∧ meth.locks = false ∧ (Jvm.Cond.and given_1 narrow_1).before #[Value.ref b] s = true ∧ meth.name = "law"

theorem pm_aos_in : ∀ C ∈ pm_aos, Cond.arrayOver (.object C) ∈ lw_tbl := by decide +kernel
theorem pm_inst_in : ∀ a, a < 13 → Cond.instantiable (pm_cn a) (pm_nf a) ∈ lw_tbl := by decide +kernel
theorem pm_known {s : State} {args : Array Value} (hts : ∀ w ∈ lw_tbl, w.before args s = true) : ∃ (D : va_G) (κ : Nat → ClassId), va_K D pm_cls (pm_tys κ) s := by
  have hts2 : ∀ w ∈ pm_tbl, w.before args s = true := fun w h => hts w (List.mem_filter.mp h).1
  have hk : ∀ k, k < 13 → ∃ q : ClassId × (Nat → Nat), u_Kn s (pm_cn k) (pm_T k) (pm_nf k) q.1 q.2 := fun k h => by
    obtain ⟨c, iS, q⟩ := u_known (n := pm_nf k) hts2 (pm_lays_in (Nat.ble_eq_true_of_le h)) (hts _ (pm_inst_in k h))
    exact ⟨(c, iS), q⟩
  obtain ⟨f, hf⟩ : ∃ f : Nat → ClassId × (Nat → Nat), ∀ k, k < 13 → u_Kn s (pm_cn k) (pm_T k) (pm_nf k) (f k).1 (f k).2 :=
    ⟨fun k => if h : k < 13 then Classical.choose (hk k h) else (0, fun _ => 0), fun k h => by
      show u_Kn s _ _ _ (if h : k < 13 then Classical.choose (hk k h) else (0, fun _ => 0)).1 (if h : k < 13 then Classical.choose (hk k h) else (0, fun _ => 0)).2
      rw [dif_pos h]
      exact Classical.choose_spec (hk k h)⟩
  refine ⟨(fun k => (f k).1, fun k => (f k).2), fun t => (s.vm.findClass ("[" ++ (pm_aty t).toString)).getD 0, fun c q hq => ?_, fun k q hq => ?_⟩
  · have hc : c < 13 := by
      have := (List.getElem?_eq_some_iff.mp hq).1
      simpa [pm_cls] using this
    have e := pm_cls_at (Nat.ble_eq_true_of_le hc : Nat.blt c 13 = true)
    rw [e] at hq
    cases hq
    exact hf c hc
  · have hm := List.mem_of_getElem? hq
    obtain ⟨t, ht, e⟩ := List.mem_map.mp hm
    subst e
    obtain ⟨a1, a2⟩ := pm_and pm_arr_ok
    obtain ⟨a1, a3⟩ := pm_and a1
    have prim : ∀ ty : FieldType, Cond.arrayClass ty ∈ pm_tbl → va_RA s ((s.vm.findClass ("[" ++ ty.toString)).getD 0) ty = (s.vm.findClass ("[" ++ ty.toString) = some ((s.vm.findClass ("[" ++ ty.toString)).getD 0)) → ArrOfT s ((s.vm.findClass ("[" ++ ty.toString)).getD 0) ty ∧ va_RA s ((s.vm.findClass ("[" ++ ty.toString)).getD 0) ty := by
      intro ty hw hr
      obtain ⟨cA, kA, comp, h1, h2, h3⟩ := Cond.arrayClass_spec (hts2 _ hw)
      rw [hr, h1]
      exact ⟨fun n z => ⟨fun k h => (by cases h), kA, h2, comp, h3⟩, rfl⟩
    match t, ht with
    | 0, _ => exact prim .int (pm_has_in a1) rfl
    | 1, _ => exact prim .long (pm_has_in a3) rfl
    | 2, _ => exact prim .boolean (pm_has_in a2) rfl
    | t + 3, ht =>
      have hC : pm_cn t ∈ pm_aos := by
        have q : ∀ t ∈ pm_tgs, 3 ≤ t → pm_cn (t - 3) ∈ pm_aos := by decide +kernel
        exact q (t + 3) ht (by omega)
      obtain ⟨comp, c, k, h1, h2, h3, h4, h5⟩ := Cond.arrayOver_spec (hts _ (pm_aos_in _ hC))
      show ArrOfT s ((s.vm.findClass ("[" ++ (FieldType.object (pm_cn t)).toString)).getD 0) (.object (pm_cn t)) ∧ va_RA s ((s.vm.findClass ("[" ++ (FieldType.object (pm_cn t)).toString)).getD 0) (.object (pm_cn t))
      rw [h5]
      exact ⟨fun n z => ⟨fun k h => (by cases h), k, h3, comp, h4⟩, k, comp, h3, h4, h1, h5⟩
/-- the law's own return -/
theorem pm_lawZ {l : Launch} {p : Program} {e : Env} {s : State} {m : MethodId} {below : List Frame} {meth : Method} {c : Code} {b L : Nat} {xs : Nat → Int32} {D : va_G} {κ : Nat → ClassId} (hx : p.tables.exec = Jvm.exec) (hb : c.code = code) (hr : meth.sig.returnType = ret) (hlocks : meth.locks = false) : pm_Zr l b s.heap.size L xs D κ 0 (fun r _ => r = some (.int 1)) p e s m #[Value.ref b] below meth c room_1 (lw_Z below #[Value.ref b] s) := by
  intro r pc lv st G c2 n H locs ls cells slots hD hQ hR hS hc hn
  subst hQ
  refine va_forget (fun q hq => hS.2.2 q hq) ?_
  refine W.widen (k := 729303) (n := 6914340) hc hn ?_
  unfold pm_D at hD
  dsimp only at hD
  cases hk : pm_k 0 pc with
  | none => rw [hk] at hD; cases hD
  | some e' =>
    obtain ⟨i, a, bb⟩ := e'
    rw [hk] at hD
    dsimp only at hD
    obtain ⟨hd, -⟩ := pm_ck _ _ _ _ _ hk
    cases i with
    | ireturn =>
      unfold pm_I at hD
      dsimp only at hD
      split at hD
      · next x =>
        have hx1 : x = 1 := by
          split at hD
          · cases hD; rfl
          · have e3 := congrArg Prod.snd (Sum.inl.inj (Sum.inr.inj (Sum.inr.inj hD)))
            cases e3; rfl
          · cases hD
        subst hx1
        exact lw_ret hx hb hr hlocks hd
      · cases hD
    | _ =>
      exfalso
      revert hD
      unfold pm_I
      dsimp only
      repeat' split
      all_goals intro hD; cases hD
/-- the law, from its entry, out of its plain run -/
theorem pm_enter {p : Program} {e : Env} {s : State} {m : MethodId} {below : List Frame} {meth : Method} {c : Code} (l : Launch) {b L : Nat} {xs : Nat → Int32} {nc ns : Nat} (hc0 : 0 + nc ≤ room_1.cells) (hn0 : 0 + ns ≤ room_1.slots) (h : pm_WP 0 (0, [(0, .ref 0)], [], [.inl (0, L, .inl xs)], nc, ns) (fun r _ => r = some (.int 1))) (C0 : lw_At p s m meth c b L xs) : W p l e room_1 s m #[Value.ref b] below meth c s.heap [] 0 0 (lw_Z below #[Value.ref b] s) (entryFrame m ([Value.ref b] : List Value).toArray 4) := by
  obtain ⟨hx, hb, hr, hml, hown, hts, hX, hbl, hlocks, hgv, hnm⟩ := C0
  obtain ⟨D, κ, hK⟩ := pm_known hts
  have hl := lv_entry ([.ref b]) (n := 4) (Nat.le_of_ble_eq_true rfl)
  have hG : ∀ (j t : Nat) (x : vp_A), ([.inl (0, L, .inl xs)] : pm_H)[j]? = some (.inl (t, x)) → t ∈ pm_tgs := by
    intro j t x q
    have q1 := List.mem_of_getElem? q
    have q2 := List.mem_singleton.mp q1
    cases q2
    decide
  have hP : va_P D pm_cls (pm_ws b s.heap.size κ [.inl (0, L, .inl xs)]) s.heap := by
    intro j q hq
    have q1 := List.mem_of_getElem? hq
    exact absurd q1 List.not_mem_nil
  have hR : pm_Rl b s.heap.size L xs D κ [.inl (0, L, .inl xs)] s.heap := ⟨rfl, rfl, hP, hG⟩
  have hC : pm_Cx b s.heap.size L xs D κ 0 p s m #[Value.ref b] meth c room_1 := ⟨hx, hb, hml, hown, hnm, fun w hw => hts w (List.mem_filter.mp hw).1, fun w hw => va_Nw.of (pm_nst_on hw) (hts w (List.mem_filter.mp hw).1), fun C hC => va_AO.of (hts _ (pm_aos_in C hC)), hK, hX, hbl, Nat.le_refl _, by decide +kernel, by decide +kernel⟩
  rw [lg_entry_eq]
  exact pm_wp (l := l) (b := b) (base := s.heap.size) (L := L) (xs := xs) (D := D) (κ := κ) h p e s m #[Value.ref b] below meth c room_1 (lw_Z below #[Value.ref b] s) s.heap [] _ 0 0 hC (pm_lawZ hx hb hr hlocks) hR va_S.rf hl hc0 hn0
theorem pm_room1 : 0 + 729303 ≤ room_1.cells := by decide +kernel
theorem pm_room2 : 0 + 6914340 ≤ room_1.slots := by decide +kernel
end
section
/-! rows for runs of the plain machine -/
theorem pm_callD {y z : Nat} {f : pm_F} {Q : pm_Q} {as rest : List Value} (h : pm_D y f = .inr (.inr (.inr (.inl (true, z, as, rest))))) (k : pm_WP z (0, lv_args 0 as, [], f.2.2.2.1, pm_bc z, pm_bs z) (fun r G => pm_WP y (f.1 + 3, f.2.1, r.toList ++ rest, G, f.2.2.2.2.1 - pm_bc z, f.2.2.2.2.2 - pm_bs z) Q)) : pm_WP y f Q := pm_call h _ k (fun _ _ q => q)
theorem pm_brT {y : Nat} {f g h : pm_F} {Q : pm_Q} (e : pm_D y f = .inr (.inl (true, g, h))) (k : pm_WP y g Q) : pm_WP y f Q := pm_if2 e (fun _ => k) (fun q => by cases q)
theorem pm_brF {y : Nat} {f g h : pm_F} {Q : pm_Q} (e : pm_D y f = .inr (.inl (false, g, h))) (k : pm_WP y h Q) : pm_WP y f Q := pm_if2 e (fun q => by cases q) (fun _ => k)
theorem pm_cons {y : Nat} {f : pm_F} {Q Q' : pm_Q} (h : pm_WP y f Q') (k : ∀ r G, Q' r G → Q r G) : pm_WP y f Q := by
  have gen : ∀ (y : Nat) (f : pm_F) (Q' : pm_Q), pm_WP y f Q' → ∀ Q : pm_Q, (∀ r G, Q' r G → Q r G) → pm_WP y f Q := by
    intro y f Q' h
    refine h (fun y f Q' => ∀ Q : pm_Q, (∀ r G, Q' r G → Q r G) → pm_WP y f Q) ?_
    intro y f Q' h Q k
    refine pm_step ?_
    unfold pm_N at h ⊢
    unfold pm_K at h ⊢
    split at h
    · exact ⟨h.1, h.2 Q k⟩
    · exact ⟨fun z => h.1 z Q k, fun z => h.2 z Q k⟩
    · exact ⟨h.1, k _ _ h.2⟩
    · obtain ⟨h1, Q2, h2, h3⟩ := h
      exact ⟨h1, Q2, h2 Q2 (fun _ _ q => q), fun r G q => h3 r G q Q k⟩
    · exact h
  exact gen y f Q' h Q k

theorem xI {a v : Int32} {c : Int} (hc : v.toInt = c) (h : a.toInt = c) : a = v := Int32.toInt_inj.mp (h.trans hc.symm)
theorem pm_inI {i : Int32} {n : Nat} (h0 : 0 ≤ i.toInt) (h1 : i.toInt < n) : pm_in i n = true := by
  have e1 : (i.toNatClampNeg : Int) = i.toInt := Int.toNat_of_nonneg h0
  have g0 : ¬ i < 0 := fun q => by
    have q := Int32.lt_iff_toInt_lt.mp q
    simp at q
    omega
  unfold pm_in
  rw [show Nat.blt i.toNatClampNeg n = true from Nat.ble_eq_true_of_le (by omega)]
  simp [g0]
theorem pm_goE {y : Nat} {f g : pm_F} {Q : pm_Q} (h : pm_D y f = .inl (true, g)) (k : pm_WP y g Q) : pm_WP y f Q := pm_go h k
theorem pm_ifT {y : Nat} {f g h : pm_F} {Q : pm_Q} {t : Bool} (e : pm_D y f = .inr (.inl (t, g, h))) (ht : t = true) (k : pm_WP y g Q) : pm_WP y f Q := pm_if2 e (fun _ => k) (fun q => by rw [ht] at q; cases q)
theorem pm_ifF {y : Nat} {f g h : pm_F} {Q : pm_Q} {t : Bool} (e : pm_D y f = .inr (.inl (t, g, h))) (ht : t = false) (k : pm_WP y h Q) : pm_WP y f Q := pm_if2 e (fun q => by rw [ht] at q; cases q) (fun _ => k)
theorem pm_tswO {pc tgt : Nat} {d lo hi : Int} {offs : Array Int} {x : Int32} (ht : ((pc : Int) + d).toNat = tgt) (h : x.toInt < lo ∨ hi < x.toInt) : pm_tsw pc d lo hi offs x = tgt := by
  unfold pm_tsw
  rw [if_pos h, ht]
theorem pm_swO {y pc tgt a b : Nat} {lv : pm_L} {st : List Value} {G : pm_H} {c n : Nat} {d lo hi : Int} {offs : Array Int} {x : Int32} (ht : ((pc : Int) + d).toNat = tgt) (hk : pm_k y pc = some (.tableswitch d lo hi offs, a, b)) (h : x.toInt < lo ∨ hi < x.toInt) : pm_D y (pc, lv, .int x :: st, G, c, n) = .inl (true, (tgt, lv, st, G, c, n)) := by
  unfold pm_D
  dsimp only
  rw [hk]
  show pm_ok (pm_tsw pc d lo hi offs x, lv, st, G, c, n) = _
  rw [pm_tswO ht h]
  rfl
theorem pq_eq {x y : Int32} : pm_cmp .eq x y = true ↔ (x.toInt = y.toInt) := by
  show decide (x = y) = true ↔ _
  simp only [decide_eq_true_eq, Int32.toInt_inj]
theorem qT_eq {x y : Int32} {cx cy : Int} (hx : x.toInt = cx) (hy : y.toInt = cy) (h : pm_cmp .eq x y = true) : cx = cy := by
  have q := pq_eq.mp h
  omega
theorem qF_eq {x y : Int32} {cx cy : Int} (hx : x.toInt = cx) (hy : y.toInt = cy) (h : pm_cmp .eq x y = false) : cx ≠ cy := by
  have q : ¬ (pm_cmp .eq x y = true) := by rw [h]; decide
  rw [pq_eq] at q
  omega
theorem rT_eq {x y : Int32} {cx cy : Int} (hx : x.toInt = cx) (hy : y.toInt = cy) (h : cx = cy) : pm_cmp .eq x y = true := pq_eq.mpr (by omega)
theorem rF_eq {x y : Int32} {cx cy : Int} (hx : x.toInt = cx) (hy : y.toInt = cy) (h : cx ≠ cy) : pm_cmp .eq x y = false := by
  cases e : pm_cmp .eq x y with
  | false => rfl
  | true =>
    have q := pq_eq.mp e
    omega
theorem pq_ne {x y : Int32} : pm_cmp .ne x y = true ↔ (x.toInt ≠ y.toInt) := by
  show (!(decide (x = y))) = true ↔ _
  simp only [Bool.not_eq_true', decide_eq_false_iff_not, ne_eq, Int32.toInt_inj]
theorem qT_ne {x y : Int32} {cx cy : Int} (hx : x.toInt = cx) (hy : y.toInt = cy) (h : pm_cmp .ne x y = true) : cx ≠ cy := by
  have q := pq_ne.mp h
  omega
theorem qF_ne {x y : Int32} {cx cy : Int} (hx : x.toInt = cx) (hy : y.toInt = cy) (h : pm_cmp .ne x y = false) : cx = cy := by
  have q : ¬ (pm_cmp .ne x y = true) := by rw [h]; decide
  rw [pq_ne] at q
  omega
theorem rT_ne {x y : Int32} {cx cy : Int} (hx : x.toInt = cx) (hy : y.toInt = cy) (h : cx ≠ cy) : pm_cmp .ne x y = true := pq_ne.mpr (by omega)
theorem rF_ne {x y : Int32} {cx cy : Int} (hx : x.toInt = cx) (hy : y.toInt = cy) (h : cx = cy) : pm_cmp .ne x y = false := by
  cases e : pm_cmp .ne x y with
  | false => rfl
  | true =>
    have q := pq_ne.mp e
    omega
theorem pq_lt {x y : Int32} : pm_cmp .lt x y = true ↔ (x.toInt < y.toInt) := by
  show decide (x < y) = true ↔ _
  simp only [decide_eq_true_eq, Int32.lt_iff_toInt_lt]
theorem qT_lt {x y : Int32} {cx cy : Int} (hx : x.toInt = cx) (hy : y.toInt = cy) (h : pm_cmp .lt x y = true) : cx < cy := by
  have q := pq_lt.mp h
  omega
theorem qF_lt {x y : Int32} {cx cy : Int} (hx : x.toInt = cx) (hy : y.toInt = cy) (h : pm_cmp .lt x y = false) : cy ≤ cx := by
  have q : ¬ (pm_cmp .lt x y = true) := by rw [h]; decide
  rw [pq_lt] at q
  omega
theorem rT_lt {x y : Int32} {cx cy : Int} (hx : x.toInt = cx) (hy : y.toInt = cy) (h : cx < cy) : pm_cmp .lt x y = true := pq_lt.mpr (by omega)
theorem rF_lt {x y : Int32} {cx cy : Int} (hx : x.toInt = cx) (hy : y.toInt = cy) (h : cy ≤ cx) : pm_cmp .lt x y = false := by
  cases e : pm_cmp .lt x y with
  | false => rfl
  | true =>
    have q := pq_lt.mp e
    omega
theorem pq_ge {x y : Int32} : pm_cmp .ge x y = true ↔ (y.toInt ≤ x.toInt) := by
  show decide (y ≤ x) = true ↔ _
  simp only [decide_eq_true_eq, Int32.le_iff_toInt_le]
theorem qT_ge {x y : Int32} {cx cy : Int} (hx : x.toInt = cx) (hy : y.toInt = cy) (h : pm_cmp .ge x y = true) : cy ≤ cx := by
  have q := pq_ge.mp h
  omega
theorem qF_ge {x y : Int32} {cx cy : Int} (hx : x.toInt = cx) (hy : y.toInt = cy) (h : pm_cmp .ge x y = false) : cx < cy := by
  have q : ¬ (pm_cmp .ge x y = true) := by rw [h]; decide
  rw [pq_ge] at q
  omega
theorem rT_ge {x y : Int32} {cx cy : Int} (hx : x.toInt = cx) (hy : y.toInt = cy) (h : cy ≤ cx) : pm_cmp .ge x y = true := pq_ge.mpr (by omega)
theorem rF_ge {x y : Int32} {cx cy : Int} (hx : x.toInt = cx) (hy : y.toInt = cy) (h : cx < cy) : pm_cmp .ge x y = false := by
  cases e : pm_cmp .ge x y with
  | false => rfl
  | true =>
    have q := pq_ge.mp e
    omega
theorem pq_gt {x y : Int32} : pm_cmp .gt x y = true ↔ (y.toInt < x.toInt) := by
  show decide (y < x) = true ↔ _
  simp only [decide_eq_true_eq, Int32.lt_iff_toInt_lt]
theorem qT_gt {x y : Int32} {cx cy : Int} (hx : x.toInt = cx) (hy : y.toInt = cy) (h : pm_cmp .gt x y = true) : cy < cx := by
  have q := pq_gt.mp h
  omega
theorem qF_gt {x y : Int32} {cx cy : Int} (hx : x.toInt = cx) (hy : y.toInt = cy) (h : pm_cmp .gt x y = false) : cx ≤ cy := by
  have q : ¬ (pm_cmp .gt x y = true) := by rw [h]; decide
  rw [pq_gt] at q
  omega
theorem rT_gt {x y : Int32} {cx cy : Int} (hx : x.toInt = cx) (hy : y.toInt = cy) (h : cy < cx) : pm_cmp .gt x y = true := pq_gt.mpr (by omega)
theorem rF_gt {x y : Int32} {cx cy : Int} (hx : x.toInt = cx) (hy : y.toInt = cy) (h : cx ≤ cy) : pm_cmp .gt x y = false := by
  cases e : pm_cmp .gt x y with
  | false => rfl
  | true =>
    have q := pq_gt.mp e
    omega
theorem pq_le {x y : Int32} : pm_cmp .le x y = true ↔ (x.toInt ≤ y.toInt) := by
  show decide (x ≤ y) = true ↔ _
  simp only [decide_eq_true_eq, Int32.le_iff_toInt_le]
theorem qT_le {x y : Int32} {cx cy : Int} (hx : x.toInt = cx) (hy : y.toInt = cy) (h : pm_cmp .le x y = true) : cx ≤ cy := by
  have q := pq_le.mp h
  omega
theorem qF_le {x y : Int32} {cx cy : Int} (hx : x.toInt = cx) (hy : y.toInt = cy) (h : pm_cmp .le x y = false) : cy < cx := by
  have q : ¬ (pm_cmp .le x y = true) := by rw [h]; decide
  rw [pq_le] at q
  omega
theorem rT_le {x y : Int32} {cx cy : Int} (hx : x.toInt = cx) (hy : y.toInt = cy) (h : cx ≤ cy) : pm_cmp .le x y = true := pq_le.mpr (by omega)
theorem rF_le {x y : Int32} {cx cy : Int} (hx : x.toInt = cx) (hy : y.toInt = cy) (h : cy < cx) : pm_cmp .le x y = false := by
  cases e : pm_cmp .le x y with
  | false => rfl
  | true =>
    have q := pq_le.mp e
    omega
end
