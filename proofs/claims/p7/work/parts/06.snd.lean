/-! THE STEPS ARE THE REAL MACHINE'S -/
theorem pm_cls_at {a : Nat} (h : Nat.blt a 13 = true) : pm_cls[a]? = some (pm_cn a, pm_T a, pm_nf a) := by
  have h : a < 13 := pm_blt h
  match a, h with
  | 0, _ => rfl
  | 1, _ => rfl
  | 2, _ => rfl
  | 3, _ => rfl
  | 4, _ => rfl
  | 5, _ => rfl
  | 6, _ => rfl
  | 7, _ => rfl
  | 8, _ => rfl
  | 9, _ => rfl
  | 10, _ => rfl
  | 11, _ => rfl
  | 12, _ => rfl
theorem pm_lays_in {a : Nat} (h : Nat.blt a 13 = true) : ∀ w ∈ u_ws (pm_cn a) (pm_T a) (pm_nf a), w ∈ pm_tbl := by
  have h : a < 13 := pm_blt h
  have go : (∀ w ∈ u_ws (pm_cn a) (pm_T a) (pm_nf a), w ∈ lw_tbl ∧ goodWord w = true) → ∀ w ∈ u_ws (pm_cn a) (pm_T a) (pm_nf a), w ∈ pm_tbl := fun k w hw => List.mem_filter.mpr (k w hw)
  match a, h, go with
  | 0, _, go => exact go pm_in0
  | 1, _, go => exact go pm_in1
  | 2, _, go => exact go pm_in2
  | 3, _, go => exact go pm_in3
  | 4, _, go => exact go pm_in4
  | 5, _, go => exact go pm_in5
  | 6, _, go => exact go pm_in6
  | 7, _, go => exact go pm_in7
  | 8, _, go => exact go pm_in8
  | 9, _, go => exact go pm_in9
  | 10, _, go => exact go pm_in10
  | 11, _, go => exact go pm_in11
  | 12, _, go => exact go pm_in12
theorem pm_ft_ok {a : Nat} (h : Nat.blt a 13 = true) : ∀ k, k < pm_nf a → parseFieldDescriptor (pm_T a k).2.2.1 = some (pm_ft a k) := by
  have h : a < 13 := pm_blt h
  match a, h with
  | 0, _ => exact tyX0_ok
  | 1, _ => exact tyX1_ok
  | 2, _ => exact tyX2_ok
  | 3, _ => exact tyX3_ok
  | 4, _ => exact tyX4_ok
  | 5, _ => exact tyX5_ok
  | 6, _ => exact tyX6_ok
  | 7, _ => exact tyX7_ok
  | 8, _ => exact tyX8_ok
  | 9, _ => exact tyX9_ok
  | 10, _ => exact tyX10_ok
  | 11, _ => exact tyX11_ok
  | 12, _ => exact tyX12_ok
theorem pm_nm_ok {a : Nat} (h : Nat.blt a 13 = true) : ∀ i, i < pm_nf a → ∀ j, j < pm_nf a → i ≠ j → (pm_T a i).2.1 ≠ (pm_T a j).2.1 := by
  have h : a < 13 := pm_blt h
  match a, h with
  | 0, _ => exact nmX0
  | 1, _ => exact nmX1
  | 2, _ => exact nmX2
  | 3, _ => exact nmX3
  | 4, _ => exact nmX4
  | 5, _ => exact nmX5
  | 6, _ => exact nmX6
  | 7, _ => exact nmX7
  | 8, _ => exact nmX8
  | 9, _ => exact nmX9
  | 10, _ => exact nmX10
  | 11, _ => exact nmX11
  | 12, _ => exact nmX12
theorem pm_own_ok {a : Nat} (h : Nat.blt a 13 = true) : ∀ k, k < pm_nf a → (pm_T a k).1 = pm_cn a := by
  have h : a < 13 := pm_blt h
  match a, h with
  | 0, _ => decide +kernel
  | 1, _ => decide +kernel
  | 2, _ => decide +kernel
  | 3, _ => decide +kernel
  | 4, _ => decide +kernel
  | 5, _ => decide +kernel
  | 6, _ => decide +kernel
  | 7, _ => decide +kernel
  | 8, _ => decide +kernel
  | 9, _ => decide +kernel
  | 10, _ => decide +kernel
  | 11, _ => decide +kernel
  | 12, _ => decide +kernel
theorem pm_df_ok {a : Nat} (b base : Nat) (h : Nat.blt a 13 = true) : ∀ j, j < pm_nf a → defaultValue (pm_ft a j) = vp_V ((pm_df a).map (pm_v b base)) j := by
  have h : a < 13 := pm_blt h
  have e : (pm_df a).map (pm_v b base) = pm_df a := by
    match a, h with
    | 0, _ => rfl
    | 1, _ => rfl
    | 2, _ => rfl
    | 3, _ => rfl
    | 4, _ => rfl
    | 5, _ => rfl
    | 6, _ => rfl
    | 7, _ => rfl
    | 8, _ => rfl
    | 9, _ => rfl
    | 10, _ => rfl
    | 11, _ => rfl
    | 12, _ => rfl
  rw [e]
  match a, h with
  | 0, _ => decide +kernel
  | 1, _ => decide +kernel
  | 2, _ => decide +kernel
  | 3, _ => decide +kernel
  | 4, _ => decide +kernel
  | 5, _ => decide +kernel
  | 6, _ => decide +kernel
  | 7, _ => decide +kernel
  | 8, _ => decide +kernel
  | 9, _ => decide +kernel
  | 10, _ => decide +kernel
  | 11, _ => decide +kernel
  | 12, _ => decide +kernel
/-- a field link of the tables -/
theorem pm_fl_at {o ix a k : Nat} (h : pm_fl.any (fun e => decide (e.2 = (o, ix, a, k))) = true) : Cond.fieldLink (pm_cn o) ix (pm_T a k).1 (pm_T a k).2.1 (pm_T a k).2.2.1 ∈ pm_tbl ∧ Nat.blt a 13 = true ∧ k < pm_nf a := by
  obtain ⟨⟨p, o', ix', a', k'⟩, h1, h2⟩ := pm_any_all h pm_fl_ok
  cases of_decide_eq_true h1
  obtain ⟨h3, h4⟩ := pm_and h2
  obtain ⟨h4, h5⟩ := pm_and h4
  exact ⟨pm_has_in h3, h4, pm_blt h5⟩
theorem pm_fn_at {o ix a k : Nat} (h : pm_fn.any (fun e => decide (e.2 = (o, ix, a, k))) = true) : Cond.fieldLinkNest (pm_cn o) ix (pm_T a k).1 (pm_T a k).2.1 (pm_T a k).2.2.1 pm_host ∈ pm_nst ∧ Nat.blt a 13 = true ∧ k < pm_nf a := by
  obtain ⟨⟨p, o', ix', a', k'⟩, h1, h2⟩ := pm_any_all h pm_fn_ok
  cases of_decide_eq_true h1
  obtain ⟨h3, h4⟩ := pm_and h2
  obtain ⟨h4, h5⟩ := pm_and h4
  exact ⟨pm_in_nst (of_decide_eq_true h3) rfl, h4, pm_blt h5⟩
theorem pm_mk_at {o ix z : Nat} (h : pm_mk.any (fun e => decide (e.2 = (o, ix, z))) = true) : Cond.methodLink (pm_cn o) ix (pm_nm z) ∈ pm_tbl := by
  obtain ⟨⟨p, o', ix', z'⟩, h1, h2⟩ := pm_any_all h pm_mk_ok
  cases of_decide_eq_true h1
  exact pm_has_in h2
theorem pm_mn_at {o ix z : Nat} (h : pm_mn.any (fun e => decide (e.2 = (o, ix, z))) = true) : Cond.methodLinkNest (pm_cn o) ix (pm_nm z) pm_host ∈ pm_nst := by
  obtain ⟨⟨p, o', ix', z'⟩, h1, h2⟩ := pm_any_all h pm_mn_ok
  cases of_decide_eq_true h1
  exact pm_in_nst (of_decide_eq_true h2) rfl
theorem pm_mo_at {o ix : Nat} (h : pm_mo.any (fun e => decide (e.2 = (o, ix))) = true) : Cond.methodLink (pm_cn o) ix objectInit ∈ pm_tbl := by
  obtain ⟨⟨p, o', ix'⟩, h1, h2⟩ := pm_any_all h pm_mo_ok
  cases of_decide_eq_true h1
  exact pm_has_in h2
theorem pm_mx_at {o ix : Nat} (h : pm_mx.any (fun e => decide (e.2 = (o, ix))) = true) : Cond.methodLink (pm_cn o) ix Lib.Math.max.name ∈ pm_tbl := by
  obtain ⟨⟨p, o', ix'⟩, h1, h2⟩ := pm_any_all h pm_mx_ok
  cases of_decide_eq_true h1
  exact pm_has_in h2
theorem pm_my_at {o ix : Nat} (h : pm_my.any (fun e => decide (e.2 = (o, ix))) = true) : Cond.methodLink (pm_cn o) ix Lib.Math.min.name ∈ pm_tbl := by
  obtain ⟨⟨p, o', ix'⟩, h1, h2⟩ := pm_any_all h pm_my_ok
  cases of_decide_eq_true h1
  exact pm_has_in h2
theorem pm_mc_at {o ix : Nat} (h : pm_mc.any (fun e => decide (e.2 = (o, ix))) = true) : Cond.methodLink (pm_cn o) ix arraycopyName ∈ pm_tbl := by
  obtain ⟨⟨p, o', ix'⟩, h1, h2⟩ := pm_any_all h pm_mc_ok
  cases of_decide_eq_true h1
  exact pm_has_in h2
theorem pm_nw_at {o ix a : Nat} (h : pm_nw.any (fun e => decide (e.2.1 = o) && (decide (e.2.2.1 = ix) && decide (e.2.2.2.1 = a))) = true) : Cond.classLink (pm_cn o) ix (pm_cn a) ∈ pm_tbl ∧ Cond.instantiable (pm_cn a) (pm_nf a) ∈ pm_tbl ∧ Cond.initialized (pm_cn a) ∈ pm_tbl ∧ Nat.blt a 13 = true := by
  obtain ⟨⟨p, o', ix', a', p2, p3⟩, h1, h2⟩ := pm_any_all h pm_nw_ok
  obtain ⟨g1, g2⟩ := pm_and h1
  obtain ⟨g2, g3⟩ := pm_and g2
  cases of_decide_eq_true g1
  cases of_decide_eq_true g2
  cases of_decide_eq_true g3
  obtain ⟨h3, h4⟩ := pm_and h2
  obtain ⟨h4, h5⟩ := pm_and h4
  obtain ⟨h5, h6⟩ := pm_and h5
  exact ⟨pm_has_in h3, pm_has_in h4, pm_has_in h5, h6⟩
theorem pm_nq_at {o ix a : Nat} (h : pm_nq.any (fun e => decide (e.2.1 = o) && (decide (e.2.2.1 = ix) && decide (e.2.2.2.1 = a))) = true) : Cond.classLink (pm_cn o) ix (pm_cn a) ∈ pm_tbl ∧ pm_cn a ∈ pm_aos ∧ a + 3 ∈ pm_tgs := by
  obtain ⟨⟨p, o', ix', a', p2⟩, h1, h2⟩ := pm_any_all h pm_nq_ok
  obtain ⟨g1, g2⟩ := pm_and h1
  obtain ⟨g2, g3⟩ := pm_and g2
  cases of_decide_eq_true g1
  cases of_decide_eq_true g2
  cases of_decide_eq_true g3
  obtain ⟨h3, h4⟩ := pm_and h2
  obtain ⟨h4, h5⟩ := pm_and h4
  exact ⟨pm_has_in h3, List.contains_iff_mem.mp h4, List.contains_iff_mem.mp h5⟩
theorem pm_code_good (y : MethodName) (cc : ByteArray) (k : Nat) (r : Option FieldType) : goodWord (.code y cc k r) = true := rfl
/-- what the tables say of a method that is called -/
theorem pm_fit_at {y z : Nat} (h : pm_fit y z = true) : pm_bd z + 1 ≤ pm_bd y ∧ 8 + (pm_ml z + 11) + pm_bl z ≤ pm_bl y ∧ Cond.code (pm_nm z) (pm_by z) (pm_ml z) (pm_rty z) ∈ pm_tbl ∧ Cond.initialized (pm_nm z).cls ∈ pm_tbl ∧ (pm_nm z).cls = pm_cn (pm_oc z) ∧ plainName (pm_nm z).cls = true ∧ ((pm_nm z).cls ≠ "java/lang/invoke/MethodHandle" ∧ (pm_nm z).cls ≠ "java/lang/invoke/VarHandle") ∧ (parseMethodDescriptor (pm_nm z).desc).map (fun d => d.parameters.length) = some (pm_na z) ∧
    (pm_kd z = 0 → Cond.instanceMethod (pm_nm z) ∈ pm_tbl ∧ Cond.selects (pm_nm z).cls (pm_nm z) (pm_nm z) ∈ pm_tbl ∧ (pm_cls[pm_oc z]?).map (fun q => q.1) = some (pm_nm z).cls) ∧ (pm_kd z = 1 → Cond.instanceMethod (pm_nm z) ∈ pm_tbl ∧ (pm_nm z).name = "<init>" ∧ pm_rty z = none) ∧ (pm_kd z = 2 → Cond.static (pm_nm z) ∈ pm_tbl) := by
  obtain ⟨h1, h2⟩ := pm_and h
  obtain ⟨h2, h3⟩ := pm_and h2
  obtain ⟨e, he, hz⟩ := List.any_eq_true.mp h3
  have hz := Nat.eq_of_beq_eq_true hz
  subst hz
  obtain ⟨k1, k2⟩ := pm_and (List.all_eq_true.mp pm_ys_ok e he)
  obtain ⟨q1, q2⟩ := pm_and (List.all_eq_true.mp pm_ys_ok2 e he)
  obtain ⟨q2, q3⟩ := pm_and q2
  obtain ⟨q3, q4⟩ := pm_and q3
  have hc : Cond.code (pm_nm e.1) (pm_by e.1) (pm_ml e.1) (pm_rty e.1) ∈ pm_tbl := List.mem_filter.mpr ⟨pm_yl_ok e.1 (List.contains_iff_mem.mp (List.all_eq_true.mp pm_yl_ys e he)), pm_code_good _ _ _ _⟩
  refine ⟨Nat.le_of_ble_eq_true h1, Nat.le_of_ble_eq_true h2, hc, pm_has_in k1, of_decide_eq_true q1, q2, of_decide_eq_true q3, of_decide_eq_true q4, fun z => ?_, fun z => ?_, fun z => ?_⟩
  · rw [z] at k2
    obtain ⟨k2, k3⟩ := pm_and k2
    obtain ⟨k2, k4⟩ := pm_and k2
    exact ⟨pm_has_in k2, pm_has_in k4, of_decide_eq_true k3⟩
  · rw [z] at k2
    obtain ⟨k2, k3⟩ := pm_and k2
    obtain ⟨k3, k4⟩ := pm_and k3
    exact ⟨pm_has_in k2, of_decide_eq_true k3, of_decide_eq_true k4⟩
  · rw [z] at k2
    exact pm_has_in k2
/-- how a contract begins and ends -/
def pm_Pc (b base L : Nat) (xs : Nat → Int32) (D : va_G) (κ : Nat → ClassId) (as : List Value) (G : pm_H) : Array Value → State → Prop := va_Pc (as.map (pm_v b base)) (fun U => pm_Rl b base L xs D κ G U.heap ∧ va_K D pm_cls (pm_tys κ) U ∧ va_X b L xs U U.heap ∧ base ≤ U.heap.size ∧ (∀ w ∈ pm_nst, va_Nw w U) ∧ ∀ C ∈ pm_aos, va_AO C U)
def pm_Qc (b base L : Nat) (xs : Nat → Int32) (D : va_G) (κ : Nat → ClassId) (Q : pm_Q) : Array Value → State → Outcome → State → Prop := fun _ st o t => ∃ (r : Option Value) (G : pm_H), o = .returned (r.map (pm_v b base)) ∧ Q r G ∧ pm_Rl b base L xs D κ G t.heap ∧ va_F (pm_A base) st t
def pm_rm (z : Nat) : Room := { frames := pm_bd z, cells := pm_bc z, slots := pm_bs z, locals := pm_bl z }
def pm_wz (z : Nat) : List Cond := .code (pm_nm z) (pm_by z) (pm_ml z) (pm_rty z) :: pm_tbl
theorem pm_nst_on {w : Cond} (h : w ∈ pm_nst) : w.onTables = true := by
  have g := (List.mem_filter.mp h).2
  cases w <;> first | rfl | cases g
theorem pm_nst_same {u U : State} (h : u.vm = U.vm) (k : ∀ w ∈ pm_nst, va_Nw w u) : ∀ w ∈ pm_nst, va_Nw w U := fun w hw => (k w hw).same (pm_nst_on hw) h
theorem pm_nst_warm {s U : State} (hW : s.WarmedH U.vm) (k : ∀ w ∈ pm_nst, va_Nw w s) : ∀ w ∈ pm_nst, va_Nw w U := by
  intro w hw
  have h := k w hw
  have g := (List.mem_filter.mp hw).2
  cases w <;> first | exact h.warmF hW | exact h.warmM hW | cases g
theorem pm_Pc_blind {b base L : Nat} {xs : Nat → Int32} {D : va_G} {κ : Nat → ClassId} {as : List Value} {G : pm_H} : FrameBlind (pm_Pc b base L xs D κ as G) := by
  intro a U g mk q
  obtain ⟨q0, q1, q2, q3, q4, q5, q6⟩ := q
  exact ⟨q0, q1, va_K.moved (u := U) (U := U.calling g mk a) (Vm.Alike.refl U.vm) q2, va_X.moved (u := U) (U := U.calling g mk a) (Vm.Alike.refl U.vm) q3, q4, pm_nst_same (u := U) (U := U.calling g mk a) rfl q5, fun C hC => va_AO.moved (u := U) (U := U.calling g mk a) (Vm.Alike.refl U.vm) (q6 C hC)⟩
/-- the returns of an ordinary method -/
theorem pm_zr {l : Launch} {b base L : Nat} {xs : Nat → Int32} {D : va_G} {κ : Nat → ClassId} {y : Nat} {Q : pm_Q} {p : Program} {e : Env} {s : State} {m : MethodId} {args : Array Value} {below : List Frame} {meth : Method} {cd : Code}
    (hck : ∀ y pc i a b, pm_k y pc = some (i, a, b) → decode (pm_by y) pc = .ok (pm_dec i a) ∧ pm_lnk y pc i a b = true)
    (hx : p.tables.exec = Jvm.exec) (hb : cd.code = pm_by y) (hr : meth.sig.returnType = pm_rty y) (hlocks : meth.locks = false) (R : Room) : pm_Zr l b base L xs D κ y Q p e s m args below meth cd R (MQ below (pm_Qc b base L xs D κ Q) args s R.cells R.slots (pm_A base)) := by
  intro r pc lv st G c n H locs ls cells slots hD hQ hR hS hc hn
  refine W.widen (k := R.cells) (n := R.slots) hc hn ?_
  have hq : ∀ t : State, t.heap = H → s.WarmedH t.vm → pm_Qc b base L xs D κ Q args s (.returned (r.map (pm_v b base))) t := fun t ht _ => ⟨r, G, rfl, hQ, by rw [ht]; exact hR, hS.F ht⟩
  unfold pm_D at hD
  dsimp only at hD
  cases hk : pm_k y pc with
  | none => rw [hk] at hD; cases hD
  | some e' =>
    obtain ⟨i, a, bb⟩ := e'
    rw [hk] at hD
    dsimp only at hD
    obtain ⟨hd, -⟩ := hck _ _ _ _ _ hk
    cases i with
    | ireturn =>
      unfold pm_I at hD
      dsimp only at hD
      split at hD
      · next x =>
        split at hD
        · next e1 =>
          cases hD
          exact W.iret hx hb (hr.trans e1) hq hS.2.2 hd
        · next e1 =>
          have e2 : (decide (x = 0) || decide (x = 1)) = true ∧ r = some (.int x) := by
            have := Sum.inr.inj hD
            have := Sum.inr.inj this
            have := Sum.inl.inj this
            exact ⟨congrArg Prod.fst this, (congrArg Prod.snd this).symm⟩
          obtain ⟨e2, e3⟩ := e2
          subst e3
          refine W.zret (ty := .boolean) hx hb (hr.trans e1) ?_ hq hS.2.2 hd
          rcases pm_or e2 with q | q <;> (have q := of_decide_eq_true q; subst q; decide)
        · cases hD
      · cases hD
    | lreturn =>
      unfold pm_I at hD
      dsimp only at hD
      split at hD
      · next x =>
        split at hD
        · next e1 =>
          cases hD
          exact W.lret hx hb (hr.trans e1) hq hS.2.2 hd
        · cases hD
      · cases hD
    | areturn =>
      unfold pm_I at hD
      dsimp only at hD
      split at hD
      · next x =>
        split at hD
        · next q e1 =>
          cases hD
          exact W.aret hx hb (hr.trans e1) (Or.inl ⟨_, rfl⟩) (Or.inr ⟨_, rfl⟩) hq hS.2.2 hd
        · next q e1 =>
          cases hD
          exact W.aret hx hb (hr.trans e1) (Or.inr ⟨_, rfl⟩) (Or.inr ⟨_, rfl⟩) hq hS.2.2 hd
        · cases hD
      · split at hD
        · next q e1 =>
          cases hD
          exact W.aret hx hb (hr.trans e1) (Or.inl ⟨_, rfl⟩) (Or.inl rfl) hq hS.2.2 hd
        · next q e1 =>
          cases hD
          exact W.aret hx hb (hr.trans e1) (Or.inr ⟨_, rfl⟩) (Or.inl rfl) hq hS.2.2 hd
        · cases hD
      · cases hD
    | return_ =>
      unfold pm_I at hD
      dsimp only at hD
      split at hD
      · split at hD
        · next e1 =>
          cases hD
          exact W.vret hx hb (hr.trans e1) hq hS.2.2 hd
        · cases hD
      · cases hD
    | _ =>
      exfalso
      revert hD
      unfold pm_I
      dsimp only
      repeat' split
      all_goals intro hD; cases hD
