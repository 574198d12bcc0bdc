-- ===== end of PART A; then your names; then what follows =====
/-! THE CLAIM OUT OF ONE WALK OF THE LAW'S BODY. Your part is whole_start (and what it stands on); all else here is the same for every law, but numbers. -/
def R_law : String := "ReferenceRulesLaw"
def lw_P (b : Addr) (xs : List Int32) (args : Array Value) (s : State) : Prop := args = #[.ref b] ∧ s.IntsAt b xs ∧ xs.length ≤ 2560 ∧ (Jvm.Cond.and given_1 narrow_1).before args s = true
def lw_Q (_ : Array Value) (s : State) (o : Outcome) (t : State) : Prop := o = .returned (some (.int 1)) ∧ Framed s o t [] 729303 6914340
def lw_Z (below : List Frame) (a : Array Value) (s : State) : State → Prop := fun t => ∃ o, t.status = .running ∧ Ended t below o ∧ lw_Q a s o t
/-- the law's own end, with 1 on the stack, nothing written that was there before, its room as the claim has it -/
theorem lw_ret {p : Program} {l : Launch} {e : Env} {s : State} {m : MethodId} {below : List Frame} {meth : Method} {c : Code} {b : Nat} (hx : p.tables.exec = Jvm.exec) (hb : c.code = code) (hr : meth.sig.returnType = ret) (hlocks : meth.locks = false) {pc : Nat} {H : Heap} {ls : Array Slot} (hdg : decode code pc = .ok (.ireturn, 1)) : W p l e room_1 s m #[Value.ref b] below meth c H [] 729303 6914340 (lw_Z below #[Value.ref b] s) (F0 m pc ls [.int 1]) := by
  intro T hT X
  obtain ⟨fs, hret, hrun, hended, hW, hframe⟩ := X.leave (v := some (.int 1)) (hlocks := hlocks) (fun h => by rw [hr] at h; cases h)
  have hmeth' : T.vm.method? m = some meth := X.method'
  refine ⟨T.setFrames fs, ?_, .returned (some (.int 1)), hrun, hended, rfl, ⟨_, rfl⟩, hW, hframe⟩
  jvm_step X.here [X.here.top, hx, hb, hdg, hmeth', hr, ret, narrow_b1]
  (try refine ⟨rfl, ?_⟩); (try refine ⟨rfl, ?_⟩)
  first | (intro acts; rw [hret _ acts rfl rfl rfl]) | rw [hret _ _ rfl rfl rfl]
  exact Steps.refl _
/-- what holds at the law's entry: the machine, the code, the tables' words (any of lw_tbl by 'hts w (by decide +kernel)'), the script of L ints xs at the cell b, what the Statement gives of the start (any of its parts by flat_of_before) -/
def lw_At (p : Program) (s : State) (m : MethodId) (meth : Method) (c : Code) (b L : Nat) (xs : Nat → Int32) : Prop :=
  p.tables.exec = Jvm.exec ∧ c.code = code ∧ meth.sig.returnType = ret ∧ c.maxLocals = 4 ∧ s.vm.findClass R_law = some m.cls ∧ (∀ w ∈ lw_tbl, w.before #[Value.ref b] s = true) ∧ va_X b L xs s s.heap ∧ b < s.heap.size ∧ meth.locks = false ∧ (Jvm.Cond.and given_1 narrow_1).before #[Value.ref b] s = true ∧ meth.name = "law"

theorem pm_aos_in : ∀ C ∈ pm_aos, Cond.arrayOver (.object C) ∈ lw_tbl := by decide +kernel
theorem pm_inst_in : ∀ a, a < 13 → Cond.instantiable (pm_cn a) (pm_nf a) ∈ lw_tbl := by decide +kernel
theorem pm_known {s : State} {args : Array Value} (hts : ∀ w ∈ lw_tbl, w.before args s = true) : ∃ (D : va_G) (κ : Nat → ClassId), va_K D pm_cls (pm_tys κ) s := by
  have hts2 : ∀ w ∈ pm_tbl, w.before args s = true := fun w h => hts w (List.mem_filter.mp h).1
  have hk : ∀ k, k < 13 → ∃ q : ClassId × (Nat → Nat), u_Kn s (pm_cn k) (pm_T k) (pm_nf k) q.1 q.2 := fun k h => by
    obtain ⟨c, iS, q⟩ := u_known (n := pm_nf k) hts2 (pm_lays_in (Nat.ble_eq_true_of_le h)) (hts _ (pm_inst_in k h))
    exact ⟨(c, iS), q⟩
  obtain ⟨f, hf⟩ : ∃ f : Nat → ClassId × (Nat → Nat), ∀ k, k < 13 → u_Kn s (pm_cn k) (pm_T k) (pm_nf k) (f k).1 (f k).2 :=
    ⟨fun k => if h : k < 13 then Classical.choose (hk k h) else (0, fun _ => 0), fun k h => by
      show u_Kn s _ _ _ (if h : k < 13 then Classical.choose (hk k h) else (0, fun _ => 0)).1 (if h : k < 13 then Classical.choose (hk k h) else (0, fun _ => 0)).2
      rw [dif_pos h]
      exact Classical.choose_spec (hk k h)⟩
  refine ⟨(fun k => (f k).1, fun k => (f k).2), fun t => (s.vm.findClass ("[" ++ (pm_aty t).toString)).getD 0, fun c q hq => ?_, fun k q hq => ?_⟩
  · have hc : c < 13 := by
      have := (List.getElem?_eq_some_iff.mp hq).1
      simpa [pm_cls] using this
    have e := pm_cls_at (Nat.ble_eq_true_of_le hc : Nat.blt c 13 = true)
    rw [e] at hq
    cases hq
    exact hf c hc
  · have hm := List.mem_of_getElem? hq
    obtain ⟨t, ht, e⟩ := List.mem_map.mp hm
    subst e
    obtain ⟨a1, a2⟩ := pm_and pm_arr_ok
    obtain ⟨a1, a3⟩ := pm_and a1
    have prim : ∀ ty : FieldType, Cond.arrayClass ty ∈ pm_tbl → va_RA s ((s.vm.findClass ("[" ++ ty.toString)).getD 0) ty = (s.vm.findClass ("[" ++ ty.toString) = some ((s.vm.findClass ("[" ++ ty.toString)).getD 0)) → ArrOfT s ((s.vm.findClass ("[" ++ ty.toString)).getD 0) ty ∧ va_RA s ((s.vm.findClass ("[" ++ ty.toString)).getD 0) ty := by
      intro ty hw hr
      obtain ⟨cA, kA, comp, h1, h2, h3⟩ := Cond.arrayClass_spec (hts2 _ hw)
      rw [hr, h1]
      exact ⟨fun n z => ⟨fun k h => (by cases h), kA, h2, comp, h3⟩, rfl⟩
    match t, ht with
    | 0, _ => exact prim .int (pm_has_in a1) rfl
    | 1, _ => exact prim .long (pm_has_in a3) rfl
    | 2, _ => exact prim .boolean (pm_has_in a2) rfl
    | t + 3, ht =>
      have hC : pm_cn t ∈ pm_aos := by
        have q : ∀ t ∈ pm_tgs, 3 ≤ t → pm_cn (t - 3) ∈ pm_aos := by decide +kernel
        exact q (t + 3) ht (by omega)
      obtain ⟨comp, c, k, h1, h2, h3, h4, h5⟩ := Cond.arrayOver_spec (hts _ (pm_aos_in _ hC))
      show ArrOfT s ((s.vm.findClass ("[" ++ (FieldType.object (pm_cn t)).toString)).getD 0) (.object (pm_cn t)) ∧ va_RA s ((s.vm.findClass ("[" ++ (FieldType.object (pm_cn t)).toString)).getD 0) (.object (pm_cn t))
      rw [h5]
      exact ⟨fun n z => ⟨fun k h => (by cases h), k, h3, comp, h4⟩, k, comp, h3, h4, h1, h5⟩
/-- the law's own return -/
theorem pm_lawZ {l : Launch} {p : Program} {e : Env} {s : State} {m : MethodId} {below : List Frame} {meth : Method} {c : Code} {b L : Nat} {xs : Nat → Int32} {D : va_G} {κ : Nat → ClassId} (hx : p.tables.exec = Jvm.exec) (hb : c.code = code) (hr : meth.sig.returnType = ret) (hlocks : meth.locks = false) : pm_Zr l b s.heap.size L xs D κ 0 (fun r _ => r = some (.int 1)) p e s m #[Value.ref b] below meth c room_1 (lw_Z below #[Value.ref b] s) := by
  intro r pc lv st G c2 n H locs ls cells slots hD hQ hR hS hc hn
  subst hQ
  refine va_forget (fun q hq => hS.2.2 q hq) ?_
  refine W.widen (k := 729303) (n := 6914340) hc hn ?_
  unfold pm_D at hD
  dsimp only at hD
  cases hk : pm_k 0 pc with
  | none => rw [hk] at hD; cases hD
  | some e' =>
    obtain ⟨i, a, bb⟩ := e'
    rw [hk] at hD
    dsimp only at hD
    obtain ⟨hd, -⟩ := pm_ck _ _ _ _ _ hk
    cases i with
    | ireturn =>
      unfold pm_I at hD
      dsimp only at hD
      split at hD
      · next x =>
        have hx1 : x = 1 := by
          split at hD
          · cases hD; rfl
          · have e3 := congrArg Prod.snd (Sum.inl.inj (Sum.inr.inj (Sum.inr.inj hD)))
            cases e3; rfl
          · cases hD
        subst hx1
        exact lw_ret hx hb hr hlocks hd
      · cases hD
    | _ =>
      exfalso
      revert hD
      unfold pm_I
      dsimp only
      repeat' split
      all_goals intro hD; cases hD
/-- the law, from its entry, out of its plain run -/
theorem pm_enter {p : Program} {e : Env} {s : State} {m : MethodId} {below : List Frame} {meth : Method} {c : Code} (l : Launch) {b L : Nat} {xs : Nat → Int32} {nc ns : Nat} (hc0 : 0 + nc ≤ room_1.cells) (hn0 : 0 + ns ≤ room_1.slots) (h : pm_WP 0 (0, [(0, .ref 0)], [], [.inl (0, L, .inl xs)], nc, ns) (fun r _ => r = some (.int 1))) (C0 : lw_At p s m meth c b L xs) : W p l e room_1 s m #[Value.ref b] below meth c s.heap [] 0 0 (lw_Z below #[Value.ref b] s) (entryFrame m ([Value.ref b] : List Value).toArray 4) := by
  obtain ⟨hx, hb, hr, hml, hown, hts, hX, hbl, hlocks, hgv, hnm⟩ := C0
  obtain ⟨D, κ, hK⟩ := pm_known hts
  have hl := lv_entry ([.ref b]) (n := 4) (Nat.le_of_ble_eq_true rfl)
  have hG : ∀ (j t : Nat) (x : vp_A), ([.inl (0, L, .inl xs)] : pm_H)[j]? = some (.inl (t, x)) → t ∈ pm_tgs := by
    intro j t x q
    have q1 := List.mem_of_getElem? q
    have q2 := List.mem_singleton.mp q1
    cases q2
    decide
  have hP : va_P D pm_cls (pm_ws b s.heap.size κ [.inl (0, L, .inl xs)]) s.heap := by
    intro j q hq
    have q1 := List.mem_of_getElem? hq
    exact absurd q1 List.not_mem_nil
  have hR : pm_Rl b s.heap.size L xs D κ [.inl (0, L, .inl xs)] s.heap := ⟨rfl, rfl, hP, hG⟩
  have hC : pm_Cx b s.heap.size L xs D κ 0 p s m #[Value.ref b] meth c room_1 := ⟨hx, hb, hml, hown, hnm, fun w hw => hts w (List.mem_filter.mp hw).1, fun w hw => va_Nw.of (pm_nst_on hw) (hts w (List.mem_filter.mp hw).1), fun C hC => va_AO.of (hts _ (pm_aos_in C hC)), hK, hX, hbl, Nat.le_refl _, by decide +kernel, by decide +kernel⟩
  rw [lg_entry_eq]
  exact pm_wp (l := l) (b := b) (base := s.heap.size) (L := L) (xs := xs) (D := D) (κ := κ) h p e s m #[Value.ref b] below meth c room_1 (lw_Z below #[Value.ref b] s) s.heap [] _ 0 0 hC (pm_lawZ hx hb hr hlocks) hR va_S.rf hl hc0 hn0
theorem pm_room1 : 0 + 729303 ≤ room_1.cells := by decide +kernel
theorem pm_room2 : 0 + 6914340 ≤ room_1.slots := by decide +kernel
