theorem pm_nn (z : Int32) (hz : ¬ z < 0) : z.toInt = (z.toNatClampNeg : Int) := by
  have hz0 : (0 : Int) ≤ z.toInt := by
    have := Int32.not_lt.mp hz
    simpa using Int32.le_iff_toInt_le.mp this
  show z.toInt = ((z.toInt.toNat : Nat) : Int)
  omega
/-- System.arraycopy between rows of ints: the copy, and no cell more -/
theorem pm_copy {p : Program} {l : Launch} {e : Env} {R : Room} {s : State} {m : MethodId} {args : Array Value} {below : List Frame} {meth : Method} {c : Code} {H H0 : Heap} {locs : List Loc} {cells slots pc : Nat} {Q : State → Prop} {ls : Array Slot} {rest : List Value} {D : va_G} {A : Nat → Prop} {a a0 : Nat} {tys : List (ClassId × FieldType)} {ws : va_W} {cc : ByteArray} {own : String} {ix n0 n1 : Nat} {c0 : ClassId} {f g : Nat → Int32} {sp dp n : Int32}
    (hx : p.tables.exec = Jvm.exec) (hb : c.code = cc) (hml : c.maxLocals = ls.size) (hown : s.vm.findClass own = some m.cls) (hlink : (Cond.methodLink own ix arraycopyName).before args s = true) (hnat : (Cond.native arraycopyName).before args s = true) (hstat : (Cond.static arraycopyName).before args s = true) (hini : (Cond.initialized "java/lang/System").before args s = true)
    (hK : va_K D pm_cls tys s) (hP : va_P D pm_cls ws H) (hD : va_D A ws) (hS : va_S A H0 H locs) (q0 q1 t0 : Nat) (h0 : ws[q0]? = some (a0, .inl (c0, n0, .inl f))) (h1 : ws[q1]? = some (a, .inl (c0, n1, .inl g))) (ht : tys[t0]? = some (c0, .int)) (g1 : ¬ sp < 0) (g2 : ¬ dp < 0) (g3 : ¬ n < 0) (g4 : sp.toNatClampNeg + n.toNatClampNeg ≤ n0) (g5 : dp.toNatClampNeg + n.toNatClampNeg ≤ n1)
    (hfr : 1 ≤ R.frames) (hlo : (rest.map fun v => v.category).sum + (nativeFrameWords "java/lang/System" "arraycopy" 5 + 11) ≤ R.locals) (hd : decode cc pc = .ok (.invokestatic ix, 3))
    (kk : ∀ (H1 : Heap) (locs1 : List Loc), H1.size = H.size → va_P D pm_cls (ws.set q1 (a, .inl (c0, n1, .inl (va_cpy f g sp.toNatClampNeg dp.toNatClampNeg n.toNatClampNeg)))) H1 → va_S A H0 H1 locs1 → W p l e R s m args below meth c H1 locs1 cells slots Q (F0 m (pc + 3) ls rest)) : W p l e R s m args below meth c H locs cells slots Q (F0 m pc ls (.int n :: .int dp :: .ref a :: .int sp :: .ref a0 :: rest)) := by
  intro T hT X
  have hc0 : H[a0]? = some (vp_cell c0 (n0, .inl f)) := hP q0 _ h0
  have hc1 : H[a]? = some (vp_cell c0 (n1, .inl g)) := hP q1 _ h1
  obtain ⟨-, k0, hk0, cm0, hkk0⟩ := (hK.2 t0 _ ht).1 n0 (fun j => .int (f j))
  have eR : ∀ i, i < n.toNatClampNeg → (vp_cell c0 (n0, .inl f)).slots.getD (sp.toNatClampNeg + i) .null = .int (f (sp.toNatClampNeg + i)) := fun i hi => by
    show (arrV c0 n0 (fun j => .int (f j))).slots.getD _ _ = _
    rw [Array.getD_eq_getD_getElem?, arrV_read _ _ (by omega)]
    rfl
  obtain ⟨vm', X', step⟩ := X.arraycopy hx hown hlink hnat hstat hini (src := a0) (dst := a) (cs := vp_cell c0 (n0, .inl f)) (cd := vp_cell c0 (n1, .inl g)) (srcPos := sp) (destPos := dp) (n := n) (by rw [hT]; exact hc0) (by rw [hT]; exact hc1) (fun _ h => by cases h) (fun _ h => by cases h) (fun h => by cases h) (fun h => by cases h) hk0 hk0 hkk0 hkk0 (show (refKind FieldType.int != refKind FieldType.int || !refKind FieldType.int && FieldType.int != FieldType.int) = false by decide) g1 g2 g3
    (by rw [pm_nn sp g1, pm_nn n g3]; show ¬ _ > ((arrV c0 n0 (fun j => .int (f j))).slots.size : Int); rw [arrV_size]; omega)
    (by rw [pm_nn dp g2, pm_nn n g3]; show ¬ _ > ((arrV c0 n1 (fun j => .int (g j))).slots.size : Int); rw [arrV_size]; omega)
    (fun vm₁ _ i hi => by rw [eR i hi]; exact ⟨rfl, trivial⟩)
    (g := F0 m pc ls (.int n :: .int dp :: .ref a :: .int sp :: .ref a0 :: rest)) rfl (by rw [hml]) (rest := rest) rfl (by rw [hb]; exact hd) hfr (by show 2 * 0 + _ + _ ≤ _; omega)
  rw [show copied (vp_cell c0 (n0, .inl f)) (vp_cell c0 (n1, .inl g)) sp dp n = vp_cell c0 (n1, .inl (va_cpy f g sp.toNatClampNeg dp.toNatClampNeg n.toNatClampNeg)) from va_copied (fun z => .int z) c0 c0 f g g4] at X' step
  have hl : a < H.size := (Array.getElem?_eq_some_iff.mp hc1).1
  generalize hv : vp_cell c0 (n1, .inl (va_cpy f g sp.toNatClampNeg dp.toNatClampNeg n.toNatClampNeg)) = cell at X' step
  have hheap : ((T.setVm vm').setCell a cell).heap = H.setIfInBounds a cell := by rw [← hT]; rfl
  have oq : ∀ q : Nat, q ≠ a → (H.setIfInBounds a cell)[q]? = H[q]? := fun q hq => by simp [Array.getElem?_setIfInBounds, Ne.symm hq]
  obtain ⟨t, a1, b1⟩ := kk _ _ (by simp) (hP.set hD h1 (show (H.setIfInBounds a cell)[a]? = some (vp_cell _ _) by rw [hv]; simp [Array.getElem?_setIfInBounds, hl]) oq) ⟨by simp; exact hS.1, fun q z1 z2 => by
      rw [oq q (fun e => z2 (by rw [e]; exact hD.2 q1 _ h1))]
      exact hS.2.1 q z1 z2, fun q hq => by
      rcases List.mem_append.mp hq with h | h
      · exact hS.2.2 q h
      · obtain ⟨z, -, hz⟩ := List.mem_map.mp h
        rw [← hz]
        exact hD.2 q1 _ h1⟩ _ hheap X'
  exact ⟨t, step t a1, b1⟩
section PMC
variable {p : Program} {l : Launch} {e : Env} {R : Room} {s : State} {m : MethodId} {args : Array Value} {below : List Frame} {meth : Method} {c : Code} {H : Heap} {locs : List Loc} {cells slots : Nat} {Z : State → Prop}
variable {b base L : Nat} {xs : Nat → Int32} {D : va_G} {κ : Nat → ClassId} {pc mc ms : Nat} {ls : Array Slot} {rest st0 : List Value} {a : Array Value}
/-- behind a call -/
theorem pm_back {Q' : pm_Q} (hr : va_Run p l e R s m args below meth c H locs cells slots mc ms (F0 m pc ls st0) rest (pm_Qc b base L xs D κ Q' a) (pm_A base)) (hS : va_S (pm_A base) s.heap H locs)
    (kk : ∀ (r : Option Value) (G : pm_H) (H1 : Heap) (locs1 : List Loc), Q' r G → pm_Rl b base L xs D κ G H1 → va_S (pm_A base) s.heap H1 locs1 → W p l e R s m args below meth c H1 locs1 (cells + mc) (slots + ms) Z (F0 m (pc + 3) ls ((r.map (pm_v b base)).toList ++ rest))) : W p l e R s m args below meth c H locs cells slots Z (F0 m pc ls st0) := by
  intro T hT X
  obtain ⟨v, st₀, t, T', Lc, h0, X', hL, e1, e2, ⟨r, G, hv, hq, hR, hz, hk⟩, st⟩ := hr T hT X
  cases hv
  rw [h0] at hz hk
  rw [← e1] at hR hz
  obtain ⟨t2, a1, b1⟩ := kk r G T'.heap (locs ++ Lc) hq hR ⟨Nat.le_trans hS.1 hz, fun q h1 h2 => by
      rw [e1, hk q (Nat.lt_of_lt_of_le h1 hS.1) h2]
      exact hS.2.1 q h1 h2, fun q hq => by
      rcases List.mem_append.mp hq with h | h
      · exact hS.2.2 q h
      · exact hL q h⟩ T' rfl X'
  exact ⟨t2, st t2 a1, b1⟩
end PMC
/-- a method's contract out of its plain run -/
theorem pm_met {l : Launch} {b base L : Nat} {xs : Nat → Int32} {D : va_G} {κ : Nat → ClassId} {z : Nat} {as : List Value} {G : pm_H} {Q : pm_Q} (hbb : b < base) (hp : plainName (pm_nm z).cls = true) (hcl : (pm_nm z).cls = pm_cn (pm_oc z)) (hcs : pm_cs as (pm_ml z) = true)
    (h : pm_X l b base L xs D κ z (0, lv_args 0 as, [], G, pm_bc z, pm_bs z) Q) : Met l (pm_nm z) (pm_wz z) (pm_rm z) (pm_Pc b base L xs D κ as G) (pm_Qc b base L xs D κ Q) (pm_bc z) (pm_bs z) (pm_A base) := by
  refine Met.ofW (cc := pm_by z) (maxL := pm_ml z) (ret := pm_rty z) hp rfl ?_
  intro p e s m args below meth c s₁ B hml hv
  obtain ⟨rfl, hR, hK, hX, hbs, hns, hao⟩ := hv
  have hts := atoms_spec (ws := pm_wz z) B.pre
  have hown : s.vm.findClass (pm_cn (pm_oc z)) = some m.cls := by rw [← hcl]; exact findClass_of_methodNamed B.named
  have hlen : (lg_sl (as.map (pm_v b base))).length ≤ pm_ml z := by
    rw [pm_sl_len, List.map_map, show ((fun v : Value => v.category) ∘ pm_v b base) = (fun v => v.category) from funext (fun v => pm_v_cat b base v)]
    exact Nat.le_of_ble_eq_true hcs
  have hl := lv_entry (as.map (pm_v b base)) (n := pm_ml z) hlen
  rw [pm_args_map] at hl
  rw [lg_entry_eq]
  exact h p e s m _ below meth c (pm_rm z) _ s.heap [] _ 0 0 ⟨B.exec, B.bytes, hml, hown, (name_of_methodNamed B.named B.method).1, fun w hw => hts w (List.mem_cons_of_mem _ hw), hns, hao, hK, hX, hbb, hbs, Nat.le_refl _, Nat.le_refl _⟩ (pm_zr pm_ck B.exec B.bytes B.returns B.notSynchronized (pm_rm z)) hR va_S.rf hl (by show 0 + pm_bc z ≤ pm_bc z; omega) (by show 0 + pm_bs z ≤ pm_bs z; omega)
theorem pm_wz_good {z : Nat} (hc : Cond.code (pm_nm z) (pm_by z) (pm_ml z) (pm_rty z) ∈ pm_tbl) : GoodIn pm_tbl (pm_wz z) := fun w hw => by
  rcases List.mem_cons.mp hw with h | h
  · subst h; exact pm_tbl_good _ hc
  · exact pm_tbl_good _ h
theorem pm_pre {b base L : Nat} {xs : Nat → Int32} {D : va_G} {κ : Nat → ClassId} {as : List Value} {G : pm_H} {s : State} {H : Heap} {locs : List Loc} (hR : pm_Rl b base L xs D κ G H) (hK : va_K D pm_cls (pm_tys κ) s) (hX : va_X b L xs s s.heap) (hbb : b < base) (hbs : base ≤ s.heap.size) (hS : va_S (pm_A base) s.heap H locs) (hns : ∀ w ∈ pm_nst, va_Nw w s) (hao : ∀ C ∈ pm_aos, va_AO C s) : ∀ U : State, U.heap = H → s.WarmedH U.vm → pm_Pc b base L xs D κ as G (as.map (pm_v b base)).toArray U := by
  intro U hU hW
  refine ⟨rfl, by rw [hU]; exact hR, va_K.moved hW.alike hK, ?_, by rw [hU]; exact Nat.le_trans hbs hS.1, pm_nst_warm hW hns, fun C hC => va_AO.moved hW.alike (hao C hC)⟩
  refine va_X.moved hW.alike (hX.kept ?_)
  rw [hU]
  exact hS.2.1 b (Nat.lt_of_lt_of_le hbb hbs) (Nat.not_le.mpr hbb)
set_option maxHeartbeats 4000000 in
theorem sS_invokevirtual {l : Launch} {b base L : Nat} {xs : Nat → Int32} {D : va_G} {κ : Nat → ClassId} {ix : Nat} : pm_S l b base L xs D κ (.invokevirtual ix) := by
  intro y pc a bb lv st G c n Q hy hd hln h p e s m args below meth cd R Z H locs ls cells slots hC hZ hR hS hl hc hn
  obtain ⟨hx, hb, hml, hown, hnm, hts, hns, hao, hK, hX, hbb, hbs, hbd, hbl⟩ := id hC
  unfold pm_I at h
  dsimp only at h hR hl hc hn ⊢
  obtain ⟨w1, w2⟩ := pm_and hln
  obtain ⟨w2, w3⟩ := pm_and w2
  split at h
  · next as r rest e1 =>
    split at h
    · next ci fs e2 =>
      obtain ⟨g1, Q', hQ1, hQ2⟩ := h
      obtain ⟨g2, g3⟩ := pm_and g1
      obtain ⟨g4, g5⟩ := pm_and g3
      obtain ⟨g6, g7⟩ := pm_and g5
      obtain ⟨g8, g9⟩ := pm_and g7
      have g4 := Nat.le_of_ble_eq_true g4
      have g6 := Nat.le_of_ble_eq_true g6
      obtain ⟨p1, p2⟩ := pm_pop_ok _ _ _ _ _ e1
      have p1 : st = as.reverse ++ .ref r :: rest := by simpa using p1
      have p2 : as.length = pm_na bb := by simpa using p2
      subst p1
      obtain ⟨k, rfl⟩ := pm_not0 hR e2
      have hci := Nat.eq_of_beq_eq_true g2
      obtain ⟨f1, f2, f3, f4, f5, f6, f7, f8, f9, f10, f11⟩ := pm_fit_at w3
      obtain ⟨f12, f13, f14⟩ := f9 (Nat.eq_of_beq_eq_true w2)
      have hM := pm_met hbb f6 f5 g9 hQ1
      have he := pm_ws_get (b := b) (base := base) (κ := κ) e2
      have hq : ∃ q, pm_cls[ci]? = some q ∧ q.1 = (pm_nm bb).cls := by
        rw [hci]
        cases hz : pm_cls[pm_oc bb]? with
        | none => rw [hz] at f14; cases f14
        | some q => rw [hz] at f14; exact ⟨q, rfl, Option.some.inj f14⟩
      obtain ⟨q, hq1, hq2⟩ := hq
      have hrc := va_recv hK hR.2.2.1 hq1 he
      rw [hq2] at hrc
      have hpre := pm_pre (as := .ref (k + 1) :: as) hR hK hX hbb hbs hS hns hao
      have hgood : GoodIn pm_tbl (wsV (pm_cn (pm_oc y)) ix (pm_nm bb).cls (pm_nm bb) (pm_wz bb)) := fun w hw => by
        unfold wsV at hw
        rcases List.mem_append.mp hw with h | h
        · simp only [List.mem_cons, List.not_mem_nil, or_false] at h
          rcases h with h | h | h | h <;> subst h
          · exact pm_tbl_good _ (pm_mk_at w1)
          · exact pm_tbl_good _ f12
          · exact pm_tbl_good _ f13
          · exact pm_tbl_good _ f4
        · exact pm_wz_good f3 w h
      rw [List.map_append, List.map_reverse, List.map_cons]
      refine pm_back (Q' := Q') (va_runV (As := as.map (pm_v b base)) (rest := rest.map (pm_v b base)) (b := base + k) (nL := pm_ml y) (own := pm_cn (pm_oc y)) ⟨hx, hb, hml, hown, hts⟩ hM (cwV (pm_na bb) hts hgood rfl rfl rfl ⟨rfl, f7.1, f7.2, f8⟩ ⟨Nat.le_trans f1 hbd, Nat.le_trans f2 hbl⟩) ⟨pm_Pc_blind, hrc, hpre⟩ rfl (by rw [List.length_map]; exact p2) hl.1 rfl (by show 2 * 0 + _ ≤ 8; have := pm_ct_of (b := b) (base := base) g8; omega) hd ⟨by show cells + pm_bc bb ≤ _; omega, by show slots + pm_bs bb ≤ _; omega⟩) hS (fun r2 G2 H2 locs2 k1 k2 k3 => by
          have hg := hQ2 r2 G2 k1 p e s m args below meth cd R Z H2 locs2 ls (cells + pm_bc bb) (slots + pm_bs bb) hC hZ k2 k3 hl (by dsimp only; omega) (by dsimp only; omega)
          dsimp only at hg
          rw [List.map_append] at hg
          rw [show (r2.map (pm_v b base)).toList = r2.toList.map (pm_v b base) by cases r2 <;> rfl]
          exact hg)
    · exact h.elim
  · exact h.elim
set_option maxHeartbeats 4000000 in
theorem sS_invokespecial {l : Launch} {b base L : Nat} {xs : Nat → Int32} {D : va_G} {κ : Nat → ClassId} {ix : Nat} : pm_S l b base L xs D κ (.invokespecial ix) := by
  intro y pc a bb lv st G c n Q hy hd hln h p e s m args below meth cd R Z H locs ls cells slots hC hZ hR hS hl hc hn
  obtain ⟨hx, hb, hml, hown, hnm, hts, hns, hao, hK, hX, hbb, hbs, hbd, hbl⟩ := id hC
  unfold pm_I at h
  dsimp only at h hR hl hc hn ⊢
  split at h
  · split at h
    · next r rest =>
      have hw : pm_mo.any (fun e => decide (e.2 = (pm_oc y, ix))) = true ∧ 1 ≤ pm_bd y ∧ 20 ≤ pm_bl y := by
        rcases pm_or hln with q | q
        · obtain ⟨q1, q2⟩ := pm_and q
          obtain ⟨q2, q3⟩ := pm_and q2
          obtain ⟨q3, q4⟩ := pm_and q3
          exact ⟨q2, Nat.le_of_ble_eq_true q3, Nat.le_of_ble_eq_true q4⟩
        · rcases pm_or q with q | q
          · exact absurd (pm_and q).1 (by decide)
          · exact absurd (pm_and q).1 (by decide)
      obtain ⟨o1, o2⟩ := pm_and pm_obj_ok
      have hct := pm_ct_of (b := b) (base := base) h.1
      exact W.objInit hx hb hown (hts _ (pm_mo_at hw.1)) (hts _ (pm_has_in o1)) (hts _ (pm_has_in o2)) rfl (by rw [hml]; exact hl.1) rfl hd (Nat.le_trans hw.2.1 hbd) (by show 2 * 0 + _ + 12 ≤ _; omega) (h.2 p e s m args below meth cd R Z H locs ls cells slots hC hZ hR hS hl hc hn)
    · exact h.elim
  · next ha =>
    split at h
    · next as r rest e1 =>
      obtain ⟨g1, Q', hQ1, hQ2⟩ := h
      obtain ⟨g3, g4⟩ := pm_and g1
      obtain ⟨g5, g6⟩ := pm_and g4
      obtain ⟨g8, g9⟩ := pm_and g6
      have g4 := Nat.le_of_ble_eq_true g3
      have g6 := Nat.le_of_ble_eq_true g5
      obtain ⟨p1, p2⟩ := pm_pop_ok _ _ _ _ _ e1
      have p1 : st = as.reverse ++ .ref r :: rest := by simpa using p1
      have p2 : as.length = pm_na bb := by simpa using p2
      subst p1
      have hln2 : (Nat.beq a 1 && (pm_mk.any (fun e => decide (e.2 = (pm_oc y, ix, bb))) && (Nat.beq (pm_kd bb) 1 && pm_fit y bb))) = true ∨ (Nat.beq a 3 && (pm_mn.any (fun e => decide (e.2 = (pm_oc y, ix, bb))) && (Nat.beq (pm_kd bb) 1 && pm_fit y bb))) = true := by
        rcases pm_or hln with q | q
        · exact absurd (Nat.eq_of_beq_eq_true (pm_and q).1) ha
        · exact pm_or q
      have hw : Nat.beq (pm_kd bb) 1 = true ∧ pm_fit y bb = true := by
        rcases hln2 with q | q <;> exact pm_and (pm_and (pm_and q).2).2
      obtain ⟨f1, f2, f3, f4, f5, f6, f7, f8, f9, f10, f11⟩ := pm_fit_at hw.2
      obtain ⟨f12, f13, f14⟩ := f10 (Nat.eq_of_beq_eq_true hw.1)
      have hM := pm_met hbb f6 f5 g9 hQ1
      have hpre := pm_pre (as := .ref r :: as) hR hK hX hbb hbs hS hns hao
      have hwz : pm_wz bb = Cond.code (pm_nm bb) (pm_by bb) (pm_ml bb) none :: pm_tbl := by unfold pm_wz; rw [f14]
      rw [List.map_append, List.map_reverse, List.map_cons]
      rcases hln2 with q | q
      · refine pm_back (Q' := Q') (va_runI (As := as.map (pm_v b base)) (rest := rest.map (pm_v b base)) (b := pm_ad b base r) (nL := pm_ml y) (own := pm_cn (pm_oc y)) ⟨hx, hb, hml, hown, hts⟩ hM (cwI (pm_na bb) hts (pm_wz_good f3) hwz rfl rfl (hts _ f4) (hts _ (pm_mk_at (pm_and (pm_and q).2).1)) (hts _ f12) f13 ⟨f7.1, f7.2, f8⟩ ⟨Nat.le_trans f1 hbd, Nat.le_trans f2 hbl⟩) ⟨pm_Pc_blind, hpre⟩ rfl (by rw [List.length_map]; exact p2) hl.1 rfl (by show 2 * 0 + _ ≤ 8; have := pm_ct_of (b := b) (base := base) g8; omega) hd ⟨by show cells + pm_bc bb ≤ _; omega, by show slots + pm_bs bb ≤ _; omega⟩) hS (fun r2 G2 H2 locs2 k1 k2 k3 => by
          have hg := hQ2 r2 G2 k1 p e s m args below meth cd R Z H2 locs2 ls (cells + pm_bc bb) (slots + pm_bs bb) hC hZ k2 k3 hl (by dsimp only; omega) (by dsimp only; omega)
          dsimp only at hg
          rw [List.map_append] at hg
          rw [show (r2.map (pm_v b base)).toList = r2.toList.map (pm_v b base) by cases r2 <;> rfl]
          exact hg)
      · refine pm_back (Q' := Q') (va_runIN (As := as.map (pm_v b base)) (rest := rest.map (pm_v b base)) (b := pm_ad b base r) (nL := pm_ml y) (own := pm_cn (pm_oc y)) ⟨hx, hb, hml, hown, hts⟩ hM ⟨va_cnB (pm_na bb) hts (pm_wz_good f3) hwz rfl rfl (hns _ (pm_mn_at (pm_and (pm_and q).2).1)) (hts _ f4) ⟨f7.1, f7.2, f8⟩ ⟨Nat.le_trans f1 hbd, Nat.le_trans f2 hbl⟩, f13, hts _ f12⟩ ⟨pm_Pc_blind, hpre⟩ rfl (by rw [List.length_map]; exact p2) hl.1 rfl (by show 2 * 0 + _ ≤ 8; have := pm_ct_of (b := b) (base := base) g8; omega) hd ⟨by show cells + pm_bc bb ≤ _; omega, by show slots + pm_bs bb ≤ _; omega⟩) hS (fun r2 G2 H2 locs2 k1 k2 k3 => by
          have hg := hQ2 r2 G2 k1 p e s m args below meth cd R Z H2 locs2 ls (cells + pm_bc bb) (slots + pm_bs bb) hC hZ k2 k3 hl (by dsimp only; omega) (by dsimp only; omega)
          dsimp only at hg
          rw [List.map_append] at hg
          rw [show (r2.map (pm_v b base)).toList = r2.toList.map (pm_v b base) by cases r2 <;> rfl]
          exact hg)
    · exact h.elim
set_option maxHeartbeats 4000000 in
theorem sS_invokestatic {l : Launch} {b base L : Nat} {xs : Nat → Int32} {D : va_G} {κ : Nat → ClassId} {ix : Nat} : pm_S l b base L xs D κ (.invokestatic ix) := by
  intro y pc a bb lv st G c n Q hy hd hln h p e s m args below meth cd R Z H locs ls cells slots hC hZ hR hS hl hc hn
  obtain ⟨hx, hb, hml, hown, hnm, hts, hns, hao, hK, hX, hbb, hbs, hbd, hbl⟩ := id hC
  unfold pm_I at h
  dsimp only at h hR hl hc hn ⊢
  split at h
  · split at h
    · next u x rest =>
      have hw : pm_mx.any (fun e => decide (e.2 = (pm_oc y, ix))) = true ∧ 1 ≤ pm_bd y ∧ 21 ≤ pm_bl y := by
        rcases pm_or hln with q | q
        · obtain ⟨q2, q3⟩ := pm_and (pm_and q).2
          obtain ⟨q3, q4⟩ := pm_and q3
          exact ⟨q2, Nat.le_of_ble_eq_true q3, Nat.le_of_ble_eq_true q4⟩
        · rcases pm_or q with q | q
          · exact absurd (pm_and q).1 (by decide)
          · rcases pm_or q with q | q
            · exact absurd (pm_and q).1 (by decide)
            · exact absurd (pm_and q).1 (by decide)
      obtain ⟨o1, o5⟩ := pm_and pm_mth_ok
      obtain ⟨o1, o4⟩ := pm_and o1
      obtain ⟨o1, o3⟩ := pm_and o1
      obtain ⟨o1, o2⟩ := pm_and o1
      have hct := pm_ct_of (b := b) (base := base) h.1
      exact va_mmax hx hb (by rw [hml]; exact hl.1.symm) hown (hts _ (pm_mx_at hw.1)) (hts _ (pm_has_in o1)) (hts _ (pm_has_in o5)) (hts _ (pm_has_in o2)) (Nat.le_trans hw.2.1 hbd) (by omega) (by omega) (by omega) hd (h.2 p e s m args below meth cd R Z H locs ls cells slots hC hZ hR hS hl hc hn)
    · exact h.elim
  · split at h
    · next u x rest =>
      have hw : pm_my.any (fun e => decide (e.2 = (pm_oc y, ix))) = true ∧ 1 ≤ pm_bd y ∧ 21 ≤ pm_bl y := by
        rcases pm_or hln with q | q
        · obtain ⟨q2, q3⟩ := pm_and (pm_and q).2
          obtain ⟨q3, q4⟩ := pm_and q3
          exact ⟨q2, Nat.le_of_ble_eq_true q3, Nat.le_of_ble_eq_true q4⟩
        · rcases pm_or q with q | q
          · exact absurd (pm_and q).1 (by decide)
          · exact absurd (pm_and q).1 (by decide)
      obtain ⟨o1, o5⟩ := pm_and pm_mth_ok
      obtain ⟨o1, o4⟩ := pm_and o1
      obtain ⟨o1, o3⟩ := pm_and o1
      obtain ⟨o1, o2⟩ := pm_and o1
      have hct := pm_ct_of (b := b) (base := base) h.1
      exact va_mmin hx hb (by rw [hml]; exact hl.1.symm) hown (hts _ (pm_my_at hw.1)) (hts _ (pm_has_in o3)) (hts _ (pm_has_in o5)) (hts _ (pm_has_in o4)) (Nat.le_trans hw.2.1 hbd) (by omega) (by omega) (by omega) hd (h.2 p e s m args below meth cd R Z H locs ls cells slots hC hZ hR hS hl hc hn)
    · exact h.elim
  · split at h
    · next m1 dp k1 sp k0 rest =>
      split at h
      · next n0 f n1 g e1 e2 =>
        have hw : pm_mc.any (fun e => decide (e.2 = (pm_oc y, ix))) = true ∧ 1 ≤ pm_bd y ∧ 8 + (nativeFrameWords "java/lang/System" "arraycopy" 5 + 11) ≤ pm_bl y := by
          rcases pm_or hln with q | q
          · obtain ⟨q2, q3⟩ := pm_and (pm_and q).2
            obtain ⟨q3, q4⟩ := pm_and q3
            exact ⟨q2, Nat.le_of_ble_eq_true q3, Nat.le_of_ble_eq_true q4⟩
          · exact absurd (pm_and q).1 (by decide)
        obtain ⟨o1, o3⟩ := pm_and pm_cpy_ok
        obtain ⟨o1, o2⟩ := pm_and o1
        obtain ⟨g0, h2⟩ := h
        obtain ⟨g1, g2⟩ := pm_and g0
        obtain ⟨g3, g4⟩ := pm_and g2
        obtain ⟨g5, g6⟩ := pm_and g4
        obtain ⟨g7, g8⟩ := pm_and g6
        obtain ⟨g9, g10⟩ := pm_and g8
        have hct := pm_ct_of (b := b) (base := base) g10
        have htg := hR.2.2.2 _ _ _ e1
        obtain ⟨t0, ht⟩ := pm_tys_at (κ := κ) htg
        refine pm_copy hx hb (by rw [hml]; exact hl.1.symm) hown (hts _ (pm_mc_at hw.1)) (hts _ (pm_has_in o1)) (hts _ (pm_has_in o2)) (hts _ (pm_has_in o3)) hK hR.2.2.1 pm_ws_D hS k0 k1 t0 (pm_ws_get (b := b) (base := base) (κ := κ) e1) (pm_ws_get (b := b) (base := base) (κ := κ) e2) ht (pm_neg g1) (pm_neg g3) (pm_neg g5) (Nat.le_of_ble_eq_true g7) (Nat.le_of_ble_eq_true g9) (Nat.le_trans hw.2.1 hbd) (by omega) hd fun H1 locs1 z hP1 hS1 => ?_
        exact h2 p e s m args below meth cd R Z H1 locs1 ls cells slots hC hZ (hR.set z (fun t x q => by cases q; exact htg) hP1) hS1 hl hc hn
      · exact h.elim
    · exact h.elim
  · next h6 h7 h8 =>
    split at h
    · next as rest e1 =>
      obtain ⟨g1, Q', hQ1, hQ2⟩ := h
      obtain ⟨g3, g4⟩ := pm_and g1
      obtain ⟨g5, g6⟩ := pm_and g4
      obtain ⟨g8, g9⟩ := pm_and g6
      have g4 := Nat.le_of_ble_eq_true g3
      have g6 := Nat.le_of_ble_eq_true g5
      obtain ⟨p1, p2⟩ := pm_pop_ok _ _ _ _ _ e1
      have p1 : st = as.reverse ++ rest := by simpa using p1
      have p2 : as.length = pm_na bb := by simpa using p2
      subst p1
      have hw : pm_mk.any (fun e => decide (e.2 = (pm_oc y, ix, bb))) = true ∧ Nat.beq (pm_kd bb) 2 = true ∧ pm_fit y bb = true := by
        rcases pm_or hln with q | q
        · exact absurd (Nat.eq_of_beq_eq_true (pm_and q).1) h6
        · rcases pm_or q with q | q
          · exact absurd (Nat.eq_of_beq_eq_true (pm_and q).1) h7
          · rcases pm_or q with q | q
            · exact absurd (Nat.eq_of_beq_eq_true (pm_and q).1) h8
            · obtain ⟨q1, q2⟩ := pm_and (pm_and q).2
              exact ⟨q1, pm_and q2⟩
      obtain ⟨f1, f2, f3, f4, f5, f6, f7, f8, f9, f10, f11⟩ := pm_fit_at hw.2.2
      have f12 := f11 (Nat.eq_of_beq_eq_true hw.2.1)
      have hM := pm_met hbb f6 f5 g9 hQ1
      have hpre := pm_pre (as := as) hR hK hX hbb hbs hS hns hao
      have hgood : GoodIn pm_tbl (va_wsS (pm_cn (pm_oc y)) ix (pm_nm bb) (pm_wz bb)) := fun w hw2 => by
        unfold va_wsS at hw2
        rcases List.mem_append.mp hw2 with h | h
        · simp only [List.mem_cons, List.not_mem_nil, or_false] at h
          rcases h with h | h | h <;> subst h
          · exact pm_tbl_good _ (pm_mk_at hw.1)
          · exact pm_tbl_good _ f12
          · exact pm_tbl_good _ f4
        · exact pm_wz_good f3 w h
      rw [List.map_append, List.map_reverse]
      refine pm_back (Q' := Q') (va_runS (As := as.map (pm_v b base)) (rest := rest.map (pm_v b base)) (nL := pm_ml y) (own := pm_cn (pm_oc y)) ⟨hx, hb, hml, hown, hts⟩ hM (va_cwS (pm_na bb) hts hgood rfl rfl rfl ⟨f7.1, f7.2, f8⟩ ⟨Nat.le_trans f1 hbd, Nat.le_trans f2 hbl⟩) ⟨pm_Pc_blind, hpre⟩ rfl (by rw [List.length_map]; exact p2) hl.1 rfl (by show 2 * 0 + _ ≤ 8; have := pm_ct_of (b := b) (base := base) g8; omega) hd ⟨by show cells + pm_bc bb ≤ _; omega, by show slots + pm_bs bb ≤ _; omega⟩) hS (fun r2 G2 H2 locs2 k1 k2 k3 => by
          have hg := hQ2 r2 G2 k1 p e s m args below meth cd R Z H2 locs2 ls (cells + pm_bc bb) (slots + pm_bs bb) hC hZ k2 k3 hl (by dsimp only; omega) (by dsimp only; omega)
          dsimp only at hg
          rw [List.map_append] at hg
          rw [show (r2.map (pm_v b base)).toList = r2.toList.map (pm_v b base) by cases r2 <;> rfl]
          exact hg)
    · exact h.elim
