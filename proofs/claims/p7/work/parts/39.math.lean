/-! nothing changes for the types that were there -/
def okT (ty x : Int32) : Prop := x.toInt < ty.toInt ∨ (10 ≤ x.toInt ∧ x.toInt < 20 + ty.toInt) ∨ 30 ≤ x.toInt
def hUU (ty : Int32) (pa pb : Nat → Int32) : Prop := ∀ x y : Int32, okT ty x → uM pa x y = uM pb x y
theorem hU_s {ty : Int32} {pa pb : Nat → Int32} (h : hUU ty pa pb) : hUU ty pb pa := fun x y q => (h x y q).symm
theorem lM_c {ty : Int32} {pa pb : Nat → Int32} (hU : hUU ty pa pb) (h2 : 2 ≤ ty.toInt) {a b : Int32} (ha : okT ty a) : lM pa a b ↔ lM pb a b := by
  unfold lM
  rw [hU a b ha, hU 1 b (Or.inl (by have : (1 : Int32).toInt = 1 := by decide
                                    omega))]
theorem had_c {ty : Int32} {pa pb ot na my pm : Nat → Int32} {mn t m : Int32} (hU : hUU ty pa pb) (hot : ∀ j : Nat, (j : Int) < mn.toInt → okT ty (ot (nI j).toNatClampNeg)) (ht : okT ty (cM t)) : hadM pa ot na my pm mn t m ↔ hadM pb ot na my pm mn t m := by
  unfold hadM
  rw [hU _ _ ht]
  have e : (∀ j : Nat, (j : Int) < mn.toInt → ¬ ovM pa ot na my pm (cM t) m (nI j)) ↔ (∀ j : Nat, (j : Int) < mn.toInt → ¬ ovM pb ot na my pm (cM t) m (nI j)) := by
    refine forall_congr' fun j => ?_
    refine imp_congr_right fun q => ?_
    unfold ovM
    rw [hU _ _ ht, hU _ _ (hot j q)]
  rw [e]
theorem tk_c {ty : Int32} {pa pb my pm fa fb ma fy gy : Nat → Int32} {m f s p : Int32} (hU : hUU ty pa pb) (h2 : 2 ≤ ty.toInt) (hy : fy f.toNatClampNeg = gy f.toNatClampNeg) (hf : ∀ j : Nat, (j : Int) < (fy f.toNatClampNeg).toInt - s.toInt → fa (3 * f + s + nI j).toNatClampNeg = fb (3 * f + s + nI j).toNatClampNeg ∧ okT ty (fa (3 * f + s + nI j).toNatClampNeg)) : tkM pa my pm fa ma fy m f s p ↔ tkM pb my pm fb ma gy m f s p := by
  unfold tkM
  rw [← hy]
  refine and_congr_right fun _ => ?_
  unfold tkL
  refine forall_congr' fun j => ?_
  refine imp_congr_right fun _ => ?_
  refine imp_congr_right fun q => ?_
  unfold fJ
  obtain ⟨q1, q2⟩ := hf j q
  rw [← q1, hU _ _ q2, lM_c hU h2 q2, lM_c hU h2 q2]
/-- what the members' types are -/
def mbK (ty : Int32) (ot re ma my pm : Nat → Int32) (mn : Int32) : Prop := ∀ j : Nat, (j : Int) < mn.toInt → okT ty (ot (nI j).toNatClampNeg) ∧ okT ty (re (nI j).toNatClampNeg) ∧ (∀ k : Nat, (k : Int) < (my (nI j).toNatClampNeg).toInt → okT ty (pm (3 * nI j + nI k).toNatClampNeg)) ∧ ((ma (nI j).toNatClampNeg &&& 4).toInt ≠ 0 → ∀ k : Nat, okT ty (plV my pm (nI j) (nI k)))
/-- what the face's are, and that two states have the same face -/
def fcK (ty : Int32) (fa fb fy gy : Nat → Int32) (f : Int32) : Prop := (0 ≤ f.toInt ∧ f.toInt < 10) ∧ (0 ≤ (fy f.toNatClampNeg).toInt ∧ (fy f.toNatClampNeg).toInt ≤ 3) ∧ fy f.toNatClampNeg = gy f.toNatClampNeg ∧ ∀ j : Nat, (j : Int) < (fy f.toNatClampNeg).toInt → fa (3 * f + nI j).toNatClampNeg = fb (3 * f + nI j).toNatClampNeg ∧ okT ty (fa (3 * f + nI j).toNatClampNeg)
theorem fc_s {ty : Int32} {fa fb fy gy : Nat → Int32} {f : Int32} (h : fcK ty fa fb fy gy f) {s : Int32} (hs : s = 1 ∨ s = 0) : ∀ j : Nat, (j : Int) < (fy f.toNatClampNeg).toInt - s.toInt → fa (3 * f + s + nI j).toNatClampNeg = fb (3 * f + s + nI j).toNatClampNeg ∧ okT ty (fa (3 * f + s + nI j).toNatClampNeg) := by
  have z0 : (0 : Int32).toInt = 0 := by decide
  have z1 : (1 : Int32).toInt = 1 := by decide
  obtain ⟨h1, h2, _, h3⟩ := h
  intro j q
  rcases hs with e | e
  · subst e
    rw [ix_1 h1 (by omega)]
    exact h3 (j + 1) (by omega)
  · subst e
    rw [ix_0 h1]
    exact h3 j (by omega)
theorem fit_c {ty : Int32} {pa pb ot na my pm ma fa fb fy gy : Nat → Int32} {mn t w f s p : Int32} {j : Nat} (hU : hUU ty pa pb) (h2 : 2 ≤ ty.toInt) {re : Nat → Int32} (hK : mbK ty ot re ma my pm mn) (hF : fcK ty fa fb fy gy f) (hs : s = 1 ∨ s = 0) (ht : okT ty (cM t)) : fitM pa ot na my pm ma fa fy mn t w f s p j ↔ fitM pb ot na my pm ma fb gy mn t w f s p j := by
  unfold fitM
  rw [had_c hU (fun j q => (hK j q).1) ht, tk_c hU h2 hF.2.2.1 (fc_s hF hs)]
theorem sp_c {ty : Int32} {pa pb my pm ma re ot : Nat → Int32} {mn p n : Int32} {j o : Nat} (hU : hUU ty pa pb) (hK : mbK ty ot re ma my pm mn) (hj : (j : Int) < mn.toInt) (hp : p.toInt ≤ 3) (hv : p.toInt = 3 → (ma (nI j).toNatClampNeg &&& 4).toInt ≠ 0) : spO pa my pm p n (nI j) (nI o) ↔ spO pb my pm p n (nI j) (nI o) := by
  unfold spO
  refine forall_congr' fun k => ?_
  refine imp_congr_right fun q => ?_
  unfold spK
  rcases q with ⟨q1, q2⟩ | ⟨q1, q2⟩
  · have e := (hK j hj).2.2.1 k q2
    rw [hU _ _ e]
    exact and_congr_right fun _ => ⟨fun _ q => by omega, fun _ q => by omega⟩
  · have e := (hK j hj).2.2.2 (hv q1) k
    rw [hU _ _ e]
    exact and_congr_left fun _ => ⟨fun _ q => by omega, fun _ q => by omega⟩
theorem fit_v {pa ot na my pm ma fa fy : Nat → Int32} {mn t w f s p : Int32} {j : Nat} (h : fitM pa ot na my pm ma fa fy mn t w f s p j) (hp : p.toInt = 3) : (ma (nI j).toNatClampNeg &&& 4).toInt ≠ 0 := by
  have := h.2.2.1
  omega
theorem spQ_c {ty : Int32} {pa pb ot na re my pm ma fa fb fy gy : Nat → Int32} {mn t w f s p : Int32} {j : Nat} (hU : hUU ty pa pb) (h2 : 2 ≤ ty.toInt) (hK : mbK ty ot re ma my pm mn) (hF : fcK ty fa fb fy gy f) (hs : s = 1 ∨ s = 0) (ht : okT ty (cM t)) (hp : p.toInt ≤ 3) (hj : (j : Int) < mn.toInt) : spF pa ot na my pm ma fa fy mn t w f s p j ↔ spF pb ot na my pm ma fb gy mn t w f s p j := by
  unfold spF
  rw [← fit_c (j := j) hU h2 hK hF hs ht, ← hF.2.2.1]
  refine and_congr_right fun q0 => ?_
  refine forall_congr' fun o => ?_
  refine imp_congr_right fun q1 => ?_
  rw [← fit_c (j := o) hU h2 hK hF hs ht]
  refine imp_congr_right fun q2 => ?_
  refine imp_congr_right fun _ => ?_
  exact sp_c hU hK hj hp (fun q => fit_v q0 q)
theorem uq_c {sp sq : Nat → Prop} {mn r : Int32} (h : ∀ j : Nat, (j : Int) < mn.toInt → (sp j ↔ sq j)) (k : uqM sp mn r) : uqM sq mn r := by
  rcases k with ⟨b, k1, k2, k3, k4⟩ | ⟨k1, k2⟩
  · exact Or.inl ⟨b, k1, k2, (h b k1).mp k3, fun j q1 q2 => k4 j q1 ((h j q1).mpr q2)⟩
  · refine Or.inr ⟨k1, fun ⟨b, q1, q2, q3⟩ => k2 ⟨b, q1, (h b q1).mpr q2, fun j q4 q5 => q3 j q4 ((h j q4).mp q5)⟩⟩
theorem nf_c {ty : Int32} {pa pb ot na re my pm ma fa fb fy gy : Nat → Int32} {mn t w f s : Int32} (p : Int32) (hU : hUU ty pa pb) (h2 : 2 ≤ ty.toInt) (hK : mbK ty ot re ma my pm mn) (hF : fcK ty fa fb fy gy f) (hs : s = 1 ∨ s = 0) (ht : okT ty (cM t)) : nfM pa ot na my pm ma fa fy mn t w f s p ↔ nfM pb ot na my pm ma fb gy mn t w f s p := by
  unfold nfM
  refine forall_congr' fun o => ?_
  refine imp_congr_right fun q1 => ?_
  rw [fit_c (j := o) hU h2 hK hF hs ht]
theorem sr_c {ty : Int32} {pa pb ot na re my pm ma fa fb fy gy : Nat → Int32} {mn t w f s p r : Int32} (hU : hUU ty pa pb) (h2 : 2 ≤ ty.toInt) (hK : mbK ty ot re ma my pm mn) (hF : fcK ty fa fb fy gy f) (hs : s = 1 ∨ s = 0) (ht : okT ty (cM t)) (h : srM pa ot na my pm ma fa fy mn t w f s p r) : srM pb ot na my pm ma fb gy mn t w f s p r := by
  have n := fun p => nf_c (w := w) p hU h2 hK hF hs ht (na := na) (re := re)
  have u := fun (p : Int32) (hp : p.toInt ≤ 3) (j : Nat) (q : (j : Int) < mn.toInt) => spQ_c (na := na) (w := w) (p := p) (j := j) hU h2 hK hF hs ht hp q
  unfold srM at h ⊢
  rw [n 1, n 2, n 3] at h
  rcases h with h | ⟨a1, a2, a3⟩ | ⟨a1, a2, a3, a4⟩ | ⟨a1, a2, a3, a4, a5⟩
  · exact Or.inl h
  · exact Or.inr (Or.inl ⟨a1, a2, uq_c (u 1 (by decide)) a3⟩)
  · exact Or.inr (Or.inr (Or.inl ⟨a1, a2, a3, uq_c (u 2 (by decide)) a4⟩))
  · exact Or.inr (Or.inr (Or.inr ⟨a1, a2, a3, a4, uq_c (u 3 (by decide)) a5⟩))
theorem c2_c {ty : Int32} {pa pb fa fb fy gy : Nat → Int32} {t f : Int32} (hU : hUU ty pa pb) (hF : fcK ty fa fb fy gy f) : c2M pa fa fy t f ↔ c2M pb fb gy t f := by
  unfold c2M
  rw [← hF.2.2.1]
  refine and_congr_right fun q => ?_
  have k := hF.2.2.2 0 (by have := hF.2.1; omega)
  rw [nI_00, Int32.add_zero] at k
  rw [← k.1, hU _ _ k.2]
theorem s2_c {ty : Int32} {pa pb ot na re my pm ma fa fb fy gy : Nat → Int32} {mn t w f p r : Int32} (hU : hUU ty pa pb) (h2 : 2 ≤ ty.toInt) (hK : mbK ty ot re ma my pm mn) (hF : fcK ty fa fb fy gy f) (ht : okT ty (cM t)) (h : s2M pa ot na my pm ma fa fy mn t w f p r) : s2M pb ot na my pm ma fb gy mn t w f p r := by
  unfold s2M at h ⊢
  rw [c2_c hU hF] at h
  rcases h with ⟨a1, a2⟩ | h
  · exact Or.inl ⟨a1, sr_c hU h2 hK hF (Or.inl rfl) ht a2⟩
  · exact Or.inr h
theorem one_c {ty : Int32} {pa pb ot na re my pm ma fa fb fy gy : Nat → Int32} {mn t w f p r : Int32} (hU : hUU ty pa pb) (h2 : 2 ≤ ty.toInt) (hK : mbK ty ot re ma my pm mn) (hF : fcK ty fa fb fy gy f) (ht : okT ty (cM t)) (h : oneM pa ot na my pm ma fa fy mn t w f p r) : oneM pb ot na my pm ma fb gy mn t w f p r := by
  obtain ⟨r1, a1, a2⟩ := h
  exact ⟨r1, sr_c hU h2 hK hF (Or.inr rfl) ht a1, a2⟩
theorem op_c {ty : Int32} {pa pb ot na my pm ma : Nat → Int32} {mn t : Int32} {k : Nat} (hU : hUU ty pa pb) (hot : ∀ j : Nat, (j : Int) < mn.toInt → okT ty (ot (nI j).toNatClampNeg)) (ht : okT ty (cM t)) : opL pa ot na my pm ma mn t k ↔ opL pb ot na my pm ma mn t k := by
  unfold opL
  refine exists_congr fun j => ?_
  rw [had_c (t := t) (m := nI j) hU hot ht]
theorem both_c {ty : Int32} {pa pb ot na re my pm ma fa fb fy gy : Nat → Int32} {mn t w f sc mp r : Int32} (hU : hUU ty pa pb) (h2 : 2 ≤ ty.toInt) (hK : mbK ty ot re ma my pm mn) (hF : fcK ty fa fb fy gy f) (ht : okT ty (cM t)) (h : bothM pa ot na my pm ma fa fy mn t w f sc mp r) : bothM pb ot na my pm ma fb gy mn t w f sc mp r := by
  obtain ⟨p1, r1, p2, r2, a1, a2, a3⟩ := h
  refine ⟨p1, r1, p2, r2, sr_c hU h2 hK hF (Or.inr rfl) ht a1, s2_c hU h2 hK hF ht a2, ?_⟩
  have e1 : S1M pa ot na my pm ma fa fy mn t w f p1 = S1M pb ot na my pm ma fb gy mn t w f p1 := by
    unfold S1M
    refine propext (exists_congr fun j => ?_)
    rw [fit_c (j := j) hU h2 hK hF (Or.inr rfl) ht]
  have e2 : A2M pa ot na my pm ma fa fy mn t w f p2 = A2M pb ot na my pm ma fb gy mn t w f p2 := by
    unfold A2M
    refine propext (forall_congr' fun j => ?_)
    rw [c2_c hU hF, fit_c (j := j) hU h2 hK hF (Or.inl rfl) ht]
  rw [← e1, ← e2]
  exact a3
theorem wm_c {ty : Int32} {pa pb ot na re my pm ma fa fb fy gy fr gr : Nat → Int32} {mn fo t w f sc mp m : Int32} (hU : hUU ty pa pb) (h2 : 2 ≤ ty.toInt) (hn : mn.toInt ≤ 40) (hK : mbK ty ot re ma my pm mn) (hF : fcK ty fa fb fy gy f) (hr : fr f.toNatClampNeg = gr f.toNatClampNeg) (ht : fo.toInt ≠ 4 → okT ty t ∧ okT ty (cM t)) (ht4 : fo.toInt = 4 → okT ty (20 + t)) (hpt : fo.toInt = 2 → pa t.toNatClampNeg = pb t.toNatClampNeg ∧ okT ty (cM (pa t.toNatClampNeg))) (hfo : 0 ≤ fo.toInt ∧ fo.toInt ≤ 4) (h : wmM pa ot na re my pm ma fa fy fr mn fo t w f sc mp m) : wmM pb ot na re my pm ma fb gy gr mn fo t w f sc mp m := by
  obtain ⟨r1, a1, a2⟩ := h
  refine ⟨r1, ?_, ?_⟩
  · rcases a1 with ⟨b0, b1⟩ | ⟨b0, b1, q, b2, b3⟩ | ⟨b0, b1, q, b2, b3⟩ | ⟨b0, b1, b2⟩ | ⟨b0, b1, b2, b3⟩
    · exact Or.inl ⟨b0, both_c hU h2 hK hF (ht (by omega)).2 b1⟩
    · exact Or.inr (Or.inl ⟨b0, b1, q, one_c hU h2 hK hF (ht (by omega)).2 b2, b3⟩)
    · refine Or.inr (Or.inr (Or.inl ⟨b0, b1, q, ?_, b3⟩))
      rw [← (hpt b0).1]
      exact one_c hU h2 hK hF (hpt b0).2 b2
    · refine Or.inr (Or.inr (Or.inr (Or.inl ⟨b0, b1, ?_⟩)))
      rw [← op_c hU (fun j q => (hK j q).1) (ht (by omega)).2, ← hF.2.2.1]
      rcases b2 with b2 | b2 | ⟨c1, c2, c3⟩
      · exact Or.inl b2
      · exact Or.inr (Or.inl b2)
      · exact Or.inr (Or.inr ⟨c1, c2, one_c hU h2 hK hF (ht (by omega)).2 c3⟩)
    · refine Or.inr (Or.inr (Or.inr (Or.inr ⟨b0, b1, b2, ?_⟩)))
      have e : ((fy f.toNatClampNeg).toInt = 1 ∧ lM pa (fa (3 * f).toNatClampNeg) 10) ↔ ((gy f.toNatClampNeg).toInt = 1 ∧ lM pb (fb (3 * f).toNatClampNeg) 10) := by
        rw [← hF.2.2.1]
        refine and_congr_right fun q => ?_
        have k := hF.2.2.2 0 (by omega)
        rw [nI_00, Int32.add_zero] at k
        rw [← k.1, lM_c hU h2 k.2]
      rw [← e]
      exact b3
  · rw [← hr]
    by_cases e0 : 0 ≤ r1.toInt
    · have hcm : okT ty (cmM re fo t r1) := by
        by_cases e4 : fo.toInt = 4
        · by_cases e10 : t.toInt = 10
          · rw [cm_1 ⟨e4, e10⟩]; exact Or.inr (Or.inr (by decide))
          · rw [cm_2 ⟨e4, e10⟩]; exact ht4 e4
        · by_cases e3 : fo.toInt = 3
          · rw [cm_3 e3]; exact (ht e4).1
          · rw [cm_4 ⟨e4, e3⟩]
            by_cases em : r1.toInt < mn.toInt
            · have k := (hK r1.toNatClampNeg (by have := xN e0; omega)).2.1
              rwa [nI_c (by have := xN e0; omega)] at k
            · exfalso
              have nb : ∀ {tt : Int32} {q : Int32} {ss : Int32} {pp : Int32}, srM pa ot na my pm ma fa fy mn tt w f ss pp q → q.toInt < mn.toInt ∨ q.toInt < 0 := by
                intro tt q ss pp k
                by_cases e : 0 ≤ q.toInt
                · have := (sr_tk k e).1; omega
                · omega
              have no : ∀ {tt : Int32} {q : Int32} {pp : Int32}, oneM pa ot na my pm ma fa fy mn tt w f pp q → q.toInt < mn.toInt ∨ q.toInt < 0 := by
                rintro tt q pp ⟨q1, k, ⟨_, k2⟩ | ⟨_, k2⟩ | ⟨_, _, k2⟩⟩
                · rw [k2]; exact Or.inr (by decide)
                · rw [k2]; exact Or.inr (by decide)
                · rw [k2]; exact nb k
              rcases a1 with ⟨b0, p1, q1, p2, q2, c1, c2, c3⟩ | ⟨b0, b1, q, b2, ⟨_, b3⟩ | ⟨_, b3⟩⟩ | ⟨b0, b1, q, b2, ⟨_, b3⟩ | ⟨_, b3⟩ | ⟨_, b3⟩ | ⟨_, b3⟩⟩ | ⟨b0, _⟩ | ⟨b0, _⟩
              · rcases c3 with ⟨_, e1, _⟩ | ⟨_, _, e1, _⟩ | ⟨_, _, _, _, _, e1⟩ | ⟨_, _, _, _, _, _, e1⟩ | ⟨_, _, _, _, _, _, e1⟩
                · subst e1; have := nb c1; omega
                · subst e1
                  rcases c2 with ⟨_, c2⟩ | ⟨_, _, c2⟩
                  · have := nb c2; omega
                  · rw [c2] at e0; exact absurd e0 (by decide)
                · rw [e1] at e0; exact absurd e0 (by decide)
                · rw [e1] at e0; exact absurd e0 (by decide)
                · rw [e1] at e0; exact absurd e0 (by decide)
              · rw [b3] at e0; exact absurd e0 (by decide)
              · subst b3; have := no b2; omega
              · subst b3; have := no b2; omega
              · rw [b3] at e0; exact absurd e0 (by decide)
              · rw [b3] at e0; exact absurd e0 (by decide)
              · subst b3; have := no b2; omega
              · omega
              · omega
      rw [← lM_c hU h2 hcm]
      exact a2
    · rcases a2 with a2 | ⟨⟨a2, _⟩, _⟩ | ⟨⟨a2, _⟩, _⟩
      · exact Or.inl a2
      · exact absurd a2 e0
      · exact absurd a2 e0
/-- a type more -/
theorem uR_n {pa : Nat → Int32} {n : Nat} {t y : Int32} (hd : paD pa) (hn : n ≤ 9) : ∀ (k : Nat) (x : Int32), (x.toInt < n ∨ 9 < x.toInt) → uR (upd pa n t) k x y = uR pa k x y := by
  intro k
  induction k with
  | zero => intro x _; rfl
  | succ k ih =>
    intro x hx
    by_cases e : x.toInt = y.toInt
    · rw [uR_eq e, uR_eq e]
    · by_cases e2 : 0 ≤ x.toInt ∧ x.toInt ≤ 9
      · rw [uR_step e e2.1 e2.2, uR_step e e2.1 e2.2]
        have hx2 := xN e2.1
        have := hd x.toNatClampNeg (by omega)
        rw [updN (by omega)]
        exact ih _ (by omega)
      · rw [uR_out e (by omega), uR_out e (by omega)]
theorem uM_n {pa : Nat → Int32} {ty t : Int32} (hd : paD pa) (hty : 2 ≤ ty.toInt ∧ ty.toInt ≤ 9) : hUU ty (upd pa ty.toNatClampNeg t) pa := by
  intro x y hx
  have hn := xN (x := ty) (by omega)
  have z20 : (-20 : Int32).toInt = -20 := by decide
  unfold uM
  split
  · rfl
  · split
    · next e1 e2 =>
      have e3 : (x + -20).toInt = x.toInt + -20 := iAdd rfl z20 (by omega) (by omega)
      exact uR_n hd (by omega) 11 _ (by unfold okT at hx; omega)
    · exact uR_n hd (by omega) 11 _ (by unfold okT at hx; omega)
