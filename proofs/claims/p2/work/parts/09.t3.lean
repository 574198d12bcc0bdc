section PMP
variable {p : Program} {l : Launch} {e : Env} {R : Room} {s : State} {m : MethodId} {args : Array Value} {below : List Frame} {meth : Method} {c : Code} {H : Heap} {locs : List Loc} {cells slots : Nat} {Q : State → Prop}
variable {cc : ByteArray} {pc : Nat} {ls : Array Slot} {rest : List Value} {D : va_G} {cl : List vw_C} {A : Nat → Prop} {a : Nat} {tys : List (ClassId × FieldType)} {ws : va_W} {H0 : Heap}
/-- what a field of a cell of the world is to the machine: the field that is found, its slot, and the cell behind a store into it -/
theorem pm_field {own C : String} {T : u_T} {N ci : Nat} {Ts : List Cond} (hts : ∀ w ∈ Ts, w.before args s = true) (hin : ∀ w ∈ u_ws C T N, w ∈ Ts) (ty0 : Nat → FieldType) (hty : ∀ k, k < N → parseFieldDescriptor (T k).2.2.1 = some (ty0 k)) (hnm : ∀ a, a < N → ∀ b, b < N → a ≠ b → (T a).2.1 ≠ (T b).2.1) (hK : va_K D cl tys s) (hP : va_P D cl ws H) (hD : va_D A ws) (q0 : Nat) {fs : List Value} (he : ws[q0]? = some (a, .inr (ci, fs))) (hc : cl[ci]? = some (C, T, N)) (k : Nat) (hk : k < N) {v : Value} (hl : k < fs.length) :
    ∃ (cell : Cell) (cf : Nat) (kf : Class) (fi : Nat) (f : Field) (kC : Class), H[a]? = some cell ∧ cell.vm = .none ∧ cell.cls = D.1 ci ∧ f.slot < cell.slots.size ∧ s.fieldFound? (T k).1 (T k).2.1 (T k).2.2.1 = some (cf, kf, fi, f) ∧ f.isStatic = false ∧ s.vm.findClass C = some (D.1 ci) ∧ s.vm.classes[D.1 ci]? = some kC ∧ kC.kind = .ordinary ∧
      ∀ H1 : Heap, H1[a]? = some (cell.setSlot f.slot v) → (∀ q, q ≠ a → H1[q]? = H[q]?) → va_P D cl (ws.set q0 (a, .inr (ci, fs.set k v))) H1 := by
  have hap := va_apart (own := own) hts hin ty0 hty hnm hK hc
  obtain ⟨r, h1, cell, q1, q2, q3, q4⟩ := hP q0 _ he
  have hr : r = (C, T, N) := Option.some.inj (h1.symm.trans hc)
  subst hr
  obtain ⟨hS, hfc, kC, hkC, hkind⟩ := hK.1 ci _ hc
  obtain ⟨cf, kf, fi, f, hi, hsl⟩ := hS k hk
  refine ⟨cell, cf, kf, fi, f, kC, q1, q3, q2, by rw [hsl]; exact k2_hasslot (q4 k hk), hi, (u_facts hfc hkC (u_lays hts hin hk) hi).1, hfc, hkC, hkind, fun H1 e1 e3 => ?_⟩
  rw [hsl] at e1
  exact hP.set hD he ⟨_, hc, t_OB.to (V := updV (vp_V fs) k v) ⟨_, e1, q2, q3, t_set q4 hap hk v⟩ (fun j _ => vp_updV_set hl v j)⟩ e3
theorem pm_put (hexec : p.tables.exec = Jvm.exec) (hb : c.code = cc) {own ref C : String} {T : u_T} {N ci index : Nat} {Ts : List Cond} (hts : ∀ w ∈ Ts, w.before args s = true) (hin : ∀ w ∈ u_ws C T N, w ∈ Ts) (ty0 : Nat → FieldType) (hty : ∀ k, k < N → parseFieldDescriptor (T k).2.2.1 = some (ty0 k)) (hnm : ∀ a, a < N → ∀ b, b < N → a ≠ b → (T a).2.1 ≠ (T b).2.1) (hown : s.vm.findClass own = some m.cls) (hK : va_K D cl tys s) (hP : va_P D cl ws H) (hD : va_D A ws) (hS0 : va_S A H0 H locs) (q0 : Nat) {fs : List Value} (he : ws[q0]? = some (a, .inr (ci, fs))) (hc : cl[ci]? = some (C, T, N)) (k : Nat) (hk : k < N) (hlink : (Cond.fieldLink own index ref (T k).2.1 (T k).2.2.1).before args s = true) (hsame : ∀ x, s.fieldFound? (T k).1 (T k).2.1 (T k).2.2.1 = some x → s.fieldFound? ref (T k).2.1 (T k).2.2.1 = some x) (hfin : (T k).2.2.2 = false) {ty : FieldType} {v : Value} (hd : parseFieldDescriptor (T k).2.2.1 = some ty) (hn : narrow ty v = v) (hfit : fits ty v = true) (hl : k < fs.length) (hdg : decode cc pc = .ok (.putfield index, 3))
    (kk : ∀ (H1 : Heap) (locs1 : List Loc), H1.size = H.size → va_P D cl (ws.set q0 (a, .inr (ci, fs.set k v))) H1 → va_S A H0 H1 locs1 → W p l e R s m args below meth c H1 locs1 cells slots Q (F0 m (pc + 3) ls rest)) : W p l e R s m args below meth c H locs cells slots Q (F0 m pc ls (v :: .ref a :: rest)) := by
  obtain ⟨cell, cf, kf, fi, f, kC, q1, q3, q2, q5, hi, hst, hfc, hkC, hkind, hput⟩ := pm_field (own := own) (v := v) hts hin ty0 hty hnm hK hP hD q0 he hc k hk hl
  have hlay := hts _ (hin _ (u_in_lay hk))
  unfold u_lay at hlay
  rw [if_neg (by rw [hfin]; decide)] at hlay
  exact W.putK hexec hb (f := f) ⟨hown, hlink, ⟨_, _, _, hsame _ hi⟩, hst⟩ (by rw [q2]; exact u_store hfc hkC hkind hlay hi hd hn hfit) q1 q3 q5 rfl rfl hdg fun H' e1 e2 e3 => kk H' _ e2 (hput H' e1 e3) (hS0.put e2 e3 (hD.2 q0 _ he))
theorem pm_putF (hexec : p.tables.exec = Jvm.exec) (hb : c.code = cc) {own ref C : String} {T : u_T} {N ci index : Nat} {Ts : List Cond} (hts : ∀ w ∈ Ts, w.before args s = true) (hin : ∀ w ∈ u_ws C T N, w ∈ Ts) (ty0 : Nat → FieldType) (hty : ∀ k, k < N → parseFieldDescriptor (T k).2.2.1 = some (ty0 k)) (hnm : ∀ a, a < N → ∀ b, b < N → a ≠ b → (T a).2.1 ≠ (T b).2.1) (hown : s.vm.findClass own = some m.cls) (hK : va_K D cl tys s) (hP : va_P D cl ws H) (hD : va_D A ws) (hS0 : va_S A H0 H locs) (q0 : Nat) {fs : List Value} (he : ws[q0]? = some (a, .inr (ci, fs))) (hc : cl[ci]? = some (C, T, N)) (k : Nat) (hk : k < N) (hlink : (Cond.fieldLink own index ref (T k).2.1 (T k).2.2.1).before args s = true) (hsame : ∀ x, s.fieldFound? (T k).1 (T k).2.1 (T k).2.2.1 = some x → s.fieldFound? ref (T k).2.1 (T k).2.2.1 = some x) (hfin : (T k).2.2.2 = true) (hin2 : meth.name = "<init>") (hdecl : (T k).1 = own) {ty : FieldType} {v : Value} (hd : parseFieldDescriptor (T k).2.2.1 = some ty) (hn : narrow ty v = v) (hfit : fits ty v = true) (hl : k < fs.length) (hdg : decode cc pc = .ok (.putfield index, 3))
    (kk : ∀ (H1 : Heap) (locs1 : List Loc), H1.size = H.size → va_P D cl (ws.set q0 (a, .inr (ci, fs.set k v))) H1 → va_S A H0 H1 locs1 → W p l e R s m args below meth c H1 locs1 cells slots Q (F0 m (pc + 3) ls rest)) : W p l e R s m args below meth c H locs cells slots Q (F0 m pc ls (v :: .ref a :: rest)) := by
  obtain ⟨cell, cf, kf, fi, f, kC, q1, q3, q2, q5, hi, hst, hfc, hkC, hkind, hput⟩ := pm_field (own := own) (v := v) hts hin ty0 hty hnm hK hP hD q0 he hc k hk hl
  have hlay := hts _ (hin _ (u_in_lay hk))
  unfold u_lay at hlay
  rw [if_pos hfin] at hlay
  have hcf : m.cls = cf := by
    obtain ⟨_, _, c', _, _, _, -, -, hf', -, -, -, hown2, -⟩ := Cond.laysFinal_spec hlay
    have e1 : c' = cf := by have := hi.symm.trans hf'; simp at this; exact this.1.symm
    rw [hdecl] at hown2
    rw [← e1]
    exact Option.some.inj (hown.symm.trans hown2)
  exact W.putFinK hexec hb hown hlink (hsame _ hi) hst hcf hin2 (by rw [q2]; exact u_fits hfc hkC hkind (Or.inr hlay) hi hd hn hfit) q1 q3 q5 rfl rfl hdg fun H' e1 e2 e3 => kk H' _ e2 (hput H' e1 e3) (hS0.put e2 e3 (hD.2 q0 _ he))
theorem pm_putN (hexec : p.tables.exec = Jvm.exec) (hb : c.code = cc) {own ref C host : String} {T : u_T} {N ci index : Nat} {Ts : List Cond} (hts : ∀ w ∈ Ts, w.before args s = true) (hin : ∀ w ∈ u_ws C T N, w ∈ Ts) (ty0 : Nat → FieldType) (hty : ∀ k, k < N → parseFieldDescriptor (T k).2.2.1 = some (ty0 k)) (hnm : ∀ a, a < N → ∀ b, b < N → a ≠ b → (T a).2.1 ≠ (T b).2.1) (hown : s.vm.findClass own = some m.cls) (hK : va_K D cl tys s) (hP : va_P D cl ws H) (hD : va_D A ws) (hS0 : va_S A H0 H locs) (q0 : Nat) {fs : List Value} (he : ws[q0]? = some (a, .inr (ci, fs))) (hc : cl[ci]? = some (C, T, N)) (k : Nat) (hk : k < N) (hlink : (Cond.fieldLinkNest own index ref (T k).2.1 (T k).2.2.1 host).before args s = true) (hsame : ∀ x, s.fieldFound? (T k).1 (T k).2.1 (T k).2.2.1 = some x → s.fieldFound? ref (T k).2.1 (T k).2.2.1 = some x) (hfin : (T k).2.2.2 = false) {ty : FieldType} {v : Value} (hd : parseFieldDescriptor (T k).2.2.1 = some ty) (hn : narrow ty v = v) (hfit : fits ty v = true) (hl : k < fs.length) (hdg : decode cc pc = .ok (.putfield index, 3))
    (kk : ∀ (H1 : Heap) (locs1 : List Loc), H1.size = H.size → va_P D cl (ws.set q0 (a, .inr (ci, fs.set k v))) H1 → va_S A H0 H1 locs1 → W p l e R s m args below meth c H1 locs1 cells slots Q (F0 m (pc + 3) ls rest)) : W p l e R s m args below meth c H locs cells slots Q (F0 m pc ls (v :: .ref a :: rest)) := by
  obtain ⟨cell, cf, kf, fi, f, kC, q1, q3, q2, q5, hi, hst, hfc, hkC, hkind, hput⟩ := pm_field (own := own) (v := v) hts hin ty0 hty hnm hK hP hD q0 he hc k hk hl
  have hlay := hts _ (hin _ (u_in_lay hk))
  unfold u_lay at hlay
  rw [if_neg (by rw [hfin]; decide)] at hlay
  exact va_WputK hexec hb (f := f) hown hlink (hsame _ hi) hst (by rw [q2]; exact u_store hfc hkC hkind hlay hi hd hn hfit) q1 q3 q5 rfl rfl hdg fun H' e1 e2 e3 => kk H' _ e2 (hput H' e1 e3) (hS0.put e2 e3 (hD.2 q0 _ he))
end PMP
theorem pm_kd_init : ∀ {y : Nat}, y < 191 → pm_kd y = 1 → (pm_nm y).name = "<init>" := by decide +kernel
/-- one cell of the world is changed by a store: the relation, and the frame -/
theorem pm_stored {b base L : Nat} {xs : Nat → Int32} {D : va_G} {κ : Nat → ClassId} {G : pm_H} {H H0 H1 : Heap} {locs : List Loc} {k j : Nat} {e0 : va_E} {g : pm_C} (hR : pm_Rl b base L xs D κ G H) (hS : va_S (pm_A base) H0 H locs) (he : (pm_ws b base κ G)[k]? = some (base + k, e0)) (z : H1.size = H.size) (oq : ∀ q, q ≠ base + k → H1[q]? = H[q]?) (ht : ∀ t x, g = .inl (t, x) → t ∈ pm_tgs) (hg : va_at D pm_cls (base + k, pm_c b base κ g) H1) : pm_Rl b base L xs D κ (G.set (k + 1) g) H1 ∧ va_S (pm_A base) H0 H1 (locs ++ [⟨base + k, j⟩]) :=
  ⟨hR.set z ht (hR.2.2.1.set pm_ws_D he hg oq), hS.put z oq (Nat.le_add_right base k)⟩

theorem pm_not0 {b base L : Nat} {xs : Nat → Int32} {D : va_G} {κ : Nat → ClassId} {G : pm_H} {H : Heap} (h : pm_Rl b base L xs D κ G H) {r : Nat} {o : Nat × List Value} (e : G[r]? = some (.inr o)) : ∃ k, r = k + 1 := by
  cases r with
  | zero => rw [h.1] at e; cases e
  | succ k => exact ⟨k, rfl⟩
set_option maxHeartbeats 4000000 in
theorem sS_getfield {l : Launch} {b base L : Nat} {xs : Nat → Int32} {D : va_G} {κ : Nat → ClassId} {ix : Nat} : pm_S l b base L xs D κ (.getfield ix) := by
  intro y pc a bb lv st G c n Q hy hd hln h p e s m args below meth cd R Z H locs ls cells slots hC hZ hR hS hl hc hn
  obtain ⟨hx, hb, hml, hown, hnm, hts, hns, hao, hK, hX, hbb, hbs, hbd, hbl⟩ := id hC
  unfold pm_I at h
  dsimp only at h hR hl hc hn ⊢
  split at h
  · next r rest =>
    split at h
    · next ci fs e1 =>
      split at h
      · next v e2 =>
        obtain ⟨k, rfl⟩ := pm_not0 hR e1
        have hci := Nat.eq_of_beq_eq_true h.1
        subst hci
        have he := pm_ws_get (b := b) (base := base) (κ := κ) e1
        have hv : (fs.map (pm_v b base))[bb]? = some (pm_v b base v) := by rw [List.getElem?_map, e2]; rfl
        rcases pm_or hln with q | q
        · obtain ⟨w1, w2, w3⟩ := pm_fl_at q
          exact va_get (D := D) (ci := ci) (C := pm_cn ci) (T := pm_T ci) (N := pm_nf ci) hx hb hts (pm_lays_in w2) hown hK hR.2.2.1 k he (pm_cls_at w2) bb w3 (hts _ w1) (fun _ h9 => h9) hv hd (h.2 p e s m args below meth cd R Z H locs ls cells slots hC hZ hR hS hl hc hn)
        · obtain ⟨w1, w2, w3⟩ := pm_fn_at q
          exact va_getN (D := D) (ci := ci) (C := pm_cn ci) (T := pm_T ci) (N := pm_nf ci) hx hb hts (pm_lays_in w2) hown hK hR.2.2.1 k he (pm_cls_at w2) bb w3 ((hns _ w1).use rfl) (fun _ h9 => h9) hv hd (h.2 p e s m args below meth cd R Z H locs ls cells slots hC hZ hR hS hl hc hn)
      · exact h.elim
    · exact h.elim
  · exact h.elim
set_option maxHeartbeats 4000000 in
theorem sS_putfield {l : Launch} {b base L : Nat} {xs : Nat → Int32} {D : va_G} {κ : Nat → ClassId} {ix : Nat} : pm_S l b base L xs D κ (.putfield ix) := by
  intro y pc a bb lv st G c n Q hy hd hln h p e s m args below meth cd R Z H locs ls cells slots hC hZ hR hS hl hc hn
  obtain ⟨hx, hb, hml, hown, hnm, hts, hns, hao, hK, hX, hbb, hbs, hbd, hbl⟩ := id hC
  unfold pm_I at h
  dsimp only at h hR hl hc hn ⊢
  split at h
  · next v r rest =>
    split at h
    · next ci fs e1 =>
      obtain ⟨k, rfl⟩ := pm_not0 hR e1
      obtain ⟨g1, h2⟩ := h
      obtain ⟨g2, g3⟩ := pm_and g1
      obtain ⟨h3, h4⟩ := pm_and g3
      have hci := Nat.eq_of_beq_eq_true g2
      clear g1 g2 g3
      subst hci
      have he := pm_ws_get (b := b) (base := base) (κ := κ) e1
      have hlt : bb < (fs.map (pm_v b base)).length := by rw [List.length_map]; exact pm_blt h3
      obtain ⟨hn1, hn2⟩ := pm_fits_ok (b := b) (base := base) h4
      have kk : ∀ (H1 : Heap) (locs1 : List Loc), H1.size = H.size → va_P D pm_cls ((pm_ws b base κ G).set k (base + k, .inr (ci, (fs.map (pm_v b base)).set bb (pm_v b base v)))) H1 → va_S (pm_A base) s.heap H1 locs1 → W p l e R s m args below meth cd H1 locs1 cells slots Z (F0 m (pc + 3) ls (rest.map (pm_v b base))) := fun H1 locs1 hz hP1 hS1 => h2 p e s m args below meth cd R Z H1 locs1 ls cells slots hC hZ (pm_Rl.set hR hz (fun t x q => by cases q) (by rw [show pm_c b base κ (.inr (ci, fs.set bb v)) = .inr (ci, (fs.map (pm_v b base)).set bb (pm_v b base v)) by show Sum.inr (ci, (fs.set bb v).map (pm_v b base)) = _; rw [List.map_set]]; exact hP1)) hS1 hl hc hn
      rcases pm_or hln with q | q
      · obtain ⟨q, q2⟩ := pm_and q
        obtain ⟨w1, w2, w3⟩ := pm_fl_at q
        rcases pm_or q2 with q3 | q3
        · exact pm_put (D := D) (ci := ci) (C := pm_cn ci) (T := pm_T ci) (N := pm_nf ci) hx hb hts (pm_lays_in w2) (pm_ft ci) (pm_ft_ok w2) (pm_nm_ok w2) hown hK hR.2.2.1 pm_ws_D hS k he (pm_cls_at w2) bb w3 (hts _ w1) (fun _ h9 => h9) (by simpa using q3) (pm_ft_ok w2 bb w3) hn1 hn2 hlt hd kk
        · obtain ⟨q3, q4⟩ := pm_and q3
          have hoc := Nat.eq_of_beq_eq_true q4
          cases hf : (pm_T ci bb).2.2.2 with
          | false => exact pm_put (D := D) (ci := ci) (C := pm_cn ci) (T := pm_T ci) (N := pm_nf ci) hx hb hts (pm_lays_in w2) (pm_ft ci) (pm_ft_ok w2) (pm_nm_ok w2) hown hK hR.2.2.1 pm_ws_D hS k he (pm_cls_at w2) bb w3 (hts _ w1) (fun _ h9 => h9) hf (pm_ft_ok w2 bb w3) hn1 hn2 hlt hd kk
          | true => exact pm_putF (D := D) (ci := ci) (C := pm_cn ci) (T := pm_T ci) (N := pm_nf ci) hx hb hts (pm_lays_in w2) (pm_ft ci) (pm_ft_ok w2) (pm_nm_ok w2) hown hK hR.2.2.1 pm_ws_D hS k he (pm_cls_at w2) bb w3 (hts _ w1) (fun _ h9 => h9) hf (hnm.trans (pm_kd_init (pm_blt hy) (Nat.eq_of_beq_eq_true q3))) (by rw [← hoc]; exact pm_own_ok w2 bb w3) (pm_ft_ok w2 bb w3) hn1 hn2 hlt hd kk
      · obtain ⟨q, q2⟩ := pm_and q
        obtain ⟨w1, w2, w3⟩ := pm_fn_at q
        exact pm_putN (D := D) (ci := ci) (C := pm_cn ci) (T := pm_T ci) (N := pm_nf ci) hx hb hts (pm_lays_in w2) (pm_ft ci) (pm_ft_ok w2) (pm_nm_ok w2) hown hK hR.2.2.1 pm_ws_D hS k he (pm_cls_at w2) bb w3 ((hns _ w1).use rfl) (fun _ h9 => h9) (by simpa using q2) (pm_ft_ok w2 bb w3) hn1 hn2 hlt hd kk
    · exact h.elim
  · exact h.elim
