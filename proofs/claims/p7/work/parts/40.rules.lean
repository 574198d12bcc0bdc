theorem hq_at {g c1 c2 c3 c4 c5 c6 c7 c8 c9 c10 c11 c12 c13 c14 c15 c16 c17 c18 c19 c20 c21 c22 c23 c24 c25 c26 c27 c28 c29 c30 c31 c32 c33 c34 c35 c36 c37 c38 c39 c40 c41 c42 c43 c44 c45 c46 c47 c48 c49 : pm_C} {dyn : pm_H} {j : Nat} : (hq g c1 c2 c3 c4 c5 c6 c7 c8 c9 c10 c11 c12 c13 c14 c15 c16 c17 c18 c19 c20 c21 c22 c23 c24 c25 c26 c27 c28 c29 c30 c31 c32 c33 c34 c35 c36 c37 c38 c39 c40 c41 c42 c43 c44 c45 c46 c47 c48 c49 dyn)[j + 50]? = dyn[j]? := rfl
theorem hq_len {g c1 c2 c3 c4 c5 c6 c7 c8 c9 c10 c11 c12 c13 c14 c15 c16 c17 c18 c19 c20 c21 c22 c23 c24 c25 c26 c27 c28 c29 c30 c31 c32 c33 c34 c35 c36 c37 c38 c39 c40 c41 c42 c43 c44 c45 c46 c47 c48 c49 : pm_C} {dyn : pm_H} : (hq g c1 c2 c3 c4 c5 c6 c7 c8 c9 c10 c11 c12 c13 c14 c15 c16 c17 c18 c19 c20 c21 c22 c23 c24 c25 c26 c27 c28 c29 c30 c31 c32 c33 c34 c35 c36 c37 c38 c39 c40 c41 c42 c43 c44 c45 c46 c47 c48 c49 dyn).length = dyn.length + 50 := rfl
theorem hq_app {g c1 c2 c3 c4 c5 c6 c7 c8 c9 c10 c11 c12 c13 c14 c15 c16 c17 c18 c19 c20 c21 c22 c23 c24 c25 c26 c27 c28 c29 c30 c31 c32 c33 c34 c35 c36 c37 c38 c39 c40 c41 c42 c43 c44 c45 c46 c47 c48 c49 : pm_C} {dyn : pm_H} {e : pm_H} : hq g c1 c2 c3 c4 c5 c6 c7 c8 c9 c10 c11 c12 c13 c14 c15 c16 c17 c18 c19 c20 c21 c22 c23 c24 c25 c26 c27 c28 c29 c30 c31 c32 c33 c34 c35 c36 c37 c38 c39 c40 c41 c42 c43 c44 c45 c46 c47 c48 c49 dyn ++ e = hq g c1 c2 c3 c4 c5 c6 c7 c8 c9 c10 c11 c12 c13 c14 c15 c16 c17 c18 c19 c20 c21 c22 c23 c24 c25 c26 c27 c28 c29 c30 c31 c32 c33 c34 c35 c36 c37 c38 c39 c40 c41 c42 c43 c44 c45 c46 c47 c48 c49 (dyn ++ e) := rfl
theorem hq_set {g c1 c2 c3 c4 c5 c6 c7 c8 c9 c10 c11 c12 c13 c14 c15 c16 c17 c18 c19 c20 c21 c22 c23 c24 c25 c26 c27 c28 c29 c30 c31 c32 c33 c34 c35 c36 c37 c38 c39 c40 c41 c42 c43 c44 c45 c46 c47 c48 c49 : pm_C} {dyn : pm_H} {j : Nat} {x : pm_C} : (hq g c1 c2 c3 c4 c5 c6 c7 c8 c9 c10 c11 c12 c13 c14 c15 c16 c17 c18 c19 c20 c21 c22 c23 c24 c25 c26 c27 c28 c29 c30 c31 c32 c33 c34 c35 c36 c37 c38 c39 c40 c41 c42 c43 c44 c45 c46 c47 c48 c49 dyn).set (j + 50) x = hq g c1 c2 c3 c4 c5 c6 c7 c8 c9 c10 c11 c12 c13 c14 c15 c16 c17 c18 c19 c20 c21 c22 c23 c24 c25 c26 c27 c28 c29 c30 c31 c32 c33 c34 c35 c36 c37 c38 c39 c40 c41 c42 c43 c44 c45 c46 c47 c48 c49 (dyn.set j x) := rfl
theorem nbeq (t : Nat) : Nat.beq t t = true := by
  induction t with
  | zero => rfl
  | succ n ih => exact ih
theorem pm_gfD {y pc r a b ci x : Nat} {lv : pm_L} {st fs : List Value} {G : pm_H} {c n : Nat} {v : Value} {Q : pm_Q} (hk : pm_k y pc = some (.getfield x, a, b)) (hG : G[r]? = some (.inr (ci, fs))) (hf : fs[b]? = some v) (hc : Nat.beq ci a = true) (k : pm_WP y (pc + 3, lv, v :: st, G, c, n) Q) : pm_WP y (pc, lv, .ref r :: st, G, c, n) Q := by
  refine pm_sd (g := (pc + 3, lv, v :: st, G, c, n)) (s := Nat.beq ci a) ?_ hc k
  unfold pm_D
  dsimp only
  rw [hk]
  dsimp only
  unfold pm_I
  dsimp only
  rw [hG]
  dsimp only
  rw [hf]
  rfl
theorem pm_alD {y pc r a b t n0 : Nat} {lv : pm_L} {st : List Value} {G : pm_H} {c n : Nat} {z : _} {Q : pm_Q} (hk : pm_k y pc = some (.arraylength, a, b)) (hG : G[r]? = some (.inl (t, n0, z))) (k : pm_WP y (pc + 1, lv, .int (nI n0) :: st, G, c, n) Q) : pm_WP y (pc, lv, .ref r :: st, G, c, n) Q := by
  refine pm_go (g := (pc + 1, lv, .int (nI n0) :: st, G, c, n)) ?_ k
  unfold pm_D
  dsimp only
  rw [hk]
  dsimp only
  unfold pm_I
  dsimp only
  rw [hG]
  rfl
theorem pm_iaD {y pc r a b m : Nat} {i : Int32} {f : Nat → Int32} {lv : pm_L} {st : List Value} {G : pm_H} {c n : Nat} {Q : pm_Q} (hk : pm_k y pc = some (.iaload, a, b)) (hG : G[r]? = some (.inl (0, m, .inl f))) (hi : pm_in i m = true) (k : pm_WP y (pc + 1, lv, .int (f i.toNatClampNeg) :: st, G, c, n) Q) : pm_WP y (pc, lv, .int i :: .ref r :: st, G, c, n) Q := by
  refine pm_sd (g := (pc + 1, lv, .int (f i.toNatClampNeg) :: st, G, c, n)) (s := pm_in i m) ?_ hi k
  unfold pm_D
  dsimp only
  rw [hk]
  dsimp only
  unfold pm_I
  dsimp only
  rw [hG]
  rfl
theorem pm_aaD {y pc r a b t m : Nat} {i : Int32} {f : Nat → Option Nat} {v : Value} {lv : pm_L} {st : List Value} {G : pm_H} {c n : Nat} {Q : pm_Q} (hk : pm_k y pc = some (.aaload, a, b)) (hG : G[r]? = some (.inl (t + 3, m, .inr (.inr (.inr (.inr f)))))) (hi : pm_in i m = true) (hv : pm_rf (f i.toNatClampNeg) = v) (k : pm_WP y (pc + 1, lv, v :: st, G, c, n) Q) : pm_WP y (pc, lv, .int i :: .ref r :: st, G, c, n) Q := by
  refine pm_sd (g := (pc + 1, lv, v :: st, G, c, n)) (s := pm_in i m) ?_ hi k
  unfold pm_D
  dsimp only
  rw [hk]
  dsimp only
  unfold pm_I
  dsimp only
  rw [hG]
  dsimp only
  rw [hv]
  rfl
theorem pm_asD {y pc r a b t m v : Nat} {i : Int32} {f : Nat → Option Nat} {fs : List Value} {lv : pm_L} {st : List Value} {G : pm_H} {c n : Nat} {Q : pm_Q} (hk : pm_k y pc = some (.aastore, a, b)) (hG : G[r + 1]? = some (.inl (t + 3, m, .inr (.inr (.inr (.inr f)))))) (hv : G[v + 1]? = some (.inr (t, fs))) (hi : pm_in i m = true) (k : pm_WP y (pc + 1, lv, st, G.set (r + 1) (.inl (t + 3, m, .inr (.inr (.inr (.inr (va_up f i.toNatClampNeg (some (v + 1)))))))), c, n) Q) : pm_WP y (pc, lv, .ref (v + 1) :: .int i :: .ref (r + 1) :: st, G, c, n) Q := by
  refine pm_sd (g := (pc + 1, lv, st, G.set (r + 1) (.inl (t + 3, m, .inr (.inr (.inr (.inr (va_up f i.toNatClampNeg (some (v + 1)))))))), c, n)) (s := pm_in i m && Nat.beq t t) ?_ (by rw [hi, nbeq]; rfl) k
  unfold pm_D
  dsimp only
  rw [hk]
  dsimp only
  unfold pm_I
  dsimp only
  rw [hG, hv]
  rfl
theorem pm_ivD {y pc r a b ci x : Nat} {lv : pm_L} {st fs as rest : List Value} {G : pm_H} {c n : Nat} {Q : pm_Q} (hk : pm_k y pc = some (.invokevirtual x, a, b)) (hp : pm_pop (pm_na b) st [] = some (as, .ref r :: rest)) (hG : G[r]? = some (.inr (ci, fs))) (hc : (Nat.beq ci (pm_oc b) && (Nat.ble (pm_bc b) c && (Nat.ble (pm_bs b) n && (pm_ct rest && pm_cs (.ref r :: as) (pm_ml b))))) = true) (k : pm_WP b (0, lv_args 0 (.ref r :: as), [], G, pm_bc b, pm_bs b) (fun q G2 => pm_WP y (pc + 3, lv, q.toList ++ rest, G2, c - pm_bc b, n - pm_bs b) Q)) : pm_WP y (pc, lv, st, G, c, n) Q := by
  refine pm_callD (z := b) (as := .ref r :: as) (rest := rest) ?_ k
  unfold pm_D
  dsimp only
  rw [hk]
  dsimp only
  unfold pm_I
  dsimp only
  rw [hp]
  dsimp only
  rw [hG]
  dsimp only
  rw [hc]
  rfl
theorem pm_mxD {y pc b : Nat} {x u : Int32} {q : Nat} {lv : pm_L} {st : List Value} {G : pm_H} {c n : Nat} {Q : pm_Q} (hk : pm_k y pc = some (.invokestatic q, 6, b)) (hs : pm_ct st = true) (k1 : x.toInt < u.toInt → pm_WP y (pc + 3, lv, .int u :: st, G, c, n) Q) (k2 : u.toInt ≤ x.toInt → pm_WP y (pc + 3, lv, .int x :: st, G, c, n) Q) : pm_WP y (pc, lv, .int u :: .int x :: st, G, c, n) Q := by
  refine pm_sd (g := (pc + 3, lv, .int (if x < u then u else x) :: st, G, c, n)) (s := pm_ct st) ?_ hs ?_
  · unfold pm_D
    dsimp only
    rw [hk]
    rfl
  · by_cases e : x < u
    · rw [if_pos e]; exact k1 (Int32.lt_iff_toInt_lt.mp e)
    · rw [if_neg e]; exact k2 (Int.not_lt.mp (fun q => e (Int32.lt_iff_toInt_lt.mpr q)))
theorem pm_miD {y pc b : Nat} {x u : Int32} {q : Nat} {lv : pm_L} {st : List Value} {G : pm_H} {c n : Nat} {Q : pm_Q} (hk : pm_k y pc = some (.invokestatic q, 7, b)) (hs : pm_ct st = true) (k1 : u.toInt < x.toInt → pm_WP y (pc + 3, lv, .int u :: st, G, c, n) Q) (k2 : x.toInt ≤ u.toInt → pm_WP y (pc + 3, lv, .int x :: st, G, c, n) Q) : pm_WP y (pc, lv, .int u :: .int x :: st, G, c, n) Q := by
  refine pm_sd (g := (pc + 3, lv, .int (if u < x then u else x) :: st, G, c, n)) (s := pm_ct st) ?_ hs ?_
  · unfold pm_D
    dsimp only
    rw [hk]
    rfl
  · by_cases e : u < x
    · rw [if_pos e]; exact k1 (Int32.lt_iff_toInt_lt.mp e)
    · rw [if_neg e]; exact k2 (Int.not_lt.mp (fun q => e (Int32.lt_iff_toInt_lt.mpr q)))
theorem fitB {x : Int32} (h : x.toInt = 0 ∨ x.toInt = 1) : (decide (x = 0) || decide (x = 1)) = true := by
  rcases h with h | h
  · rw [show x = 0 from Int32.toInt_inj.mp (h.trans (by decide))]; rfl
  · rw [show x = 1 from Int32.toInt_inj.mp (h.trans (by decide))]; rfl
theorem pm_retB {y pc a b : Nat} {x : Int32} {lv : pm_L} {G : pm_H} {c n : Nat} {Q : pm_Q} (hk : pm_k y pc = some (.ireturn, a, b)) (hr : pm_rty y = some .boolean) (h : x.toInt = 0 ∨ x.toInt = 1) (k : Q (some (.int x)) G) : pm_WP y (pc, lv, [.int x], G, c, n) Q := by
  refine pm_ret (r := some (.int x)) ?_ k
  unfold pm_D
  dsimp only
  rw [hk]
  dsimp only
  unfold pm_I
  dsimp only
  rw [hr]
  dsimp only
  rw [fitB h]
  rfl
/-! what is made stays as it was made: members, faces, references, values -/
def isAr (dyn : pm_H) (p n : Nat) (f : Nat → Int32) : Prop := dyn[p]? = some (.inl (0, n, .inl f)) ∧ n ≤ 3
def isMb (dyn : pm_H) (j : Nat) : Prop := ∃ (nu ow na re ma : Int32) (p : Nat) (sg : Int32) (n : Nat) (f : Nat → Int32), dyn[j]? = some (.inr (3, [.int nu, .int ow, .int na, .int re, .int ma, .ref (p + 50), .int sg])) ∧ (dyn[p]? = some (.inl (0, n, .inl f)) ∧ n ≤ 3)
def isFc (dyn : pm_H) (j : Nat) : Prop := ∃ (p : Nat) (re : Int32) (n : Nat) (f : Nat → Int32), dyn[j]? = some (.inr (1, [.ref (p + 50), .int re])) ∧ (dyn[p]? = some (.inl (0, n, .inl f)) ∧ n ≤ 3)
def isRf (dyn : pm_H) (j : Nat) : Prop := ∃ (fo t na : Int32), dyn[j]? = some (.inr (5, [.int fo, .int t, .int na]))
def vNM (dyn : pm_H) (v : Value) : Prop := v = .null ∨ ∃ j : Nat, v = .ref (j + 50) ∧ isMb dyn j
def isVl (dyn : pm_H) (j : Nat) : Prop := ∃ (r f : Nat) (rc : Int32) (v : Value) (bs ip co : Int32), dyn[j]? = some (.inr (10, [.ref (r + 50), .ref (f + 50), .int rc, v, .int bs, .int ip, .int co])) ∧ isRf dyn r ∧ isFc dyn f ∧ vNM dyn v
def isMp (dyn : pm_H) (j p n : Nat) (f : Nat → Int32) : Prop := ∃ (nu ow na re ma sg : Int32), dyn[j]? = some (.inr (3, [.int nu, .int ow, .int na, .int re, .int ma, .ref (p + 50), .int sg])) ∧ (dyn[p]? = some (.inl (0, n, .inl f)) ∧ n ≤ 3)
theorem isMp_i {dyn : pm_H} {j p n : Nat} {f : Nat → Int32} (h : isMp dyn j p n f) : isMb dyn j := by
  obtain ⟨nu, ow, na, re, ma, sg, h⟩ := h
  exact ⟨nu, ow, na, re, ma, p, sg, n, f, h⟩
def isVm (dyn : pm_H) (j : Nat) : Prop := ∃ (r f : Nat) (rc : Int32) (m : Nat) (bs ip co : Int32), dyn[j]? = some (.inr (10, [.ref (r + 50), .ref (f + 50), .int rc, .ref (m + 50), .int bs, .int ip, .int co])) ∧ isRf dyn r ∧ isFc dyn f ∧ isMb dyn m
def alD (mn : Int32) (al : Nat → Option Nat) (dyn : pm_H) : Prop := ∀ i : Nat, (i : Int) < mn.toInt → ∃ j : Nat, al i = some (j + 50) ∧ isMb dyn j
def faD (fn : Int32) (fa : Nat → Option Nat) (dyn : pm_H) : Prop := ∀ i : Nat, (i : Int) < fn.toInt → ∃ j : Nat, fa i = some (j + 50) ∧ isFc dyn j
def reD (rn : Int32) (re : Nat → Option Nat) (dyn : pm_H) : Prop := ∀ i : Nat, (i : Int) < rn.toInt → ∃ j : Nat, re i = some (j + 50) ∧ isRf dyn j
def vlD (vn : Int32) (vl : Nat → Option Nat) (dyn : pm_H) : Prop := ∀ i : Nat, (i : Int) < vn.toInt → ∃ j : Nat, vl i = some (j + 50) ∧ isVl dyn j
def byV (v : Value) : Prop := v = .null ∨ v = .ref 10 ∨ v = .ref 11
theorem ap_at {dyn e : pm_H} {j : Nat} {x : pm_C} (h : dyn[j]? = some x) : (dyn ++ e)[j]? = some x := by
  rw [List.getElem?_append_left (by
    rcases Nat.lt_or_ge j dyn.length with q | q
    · exact q
    · rw [List.getElem?_eq_none q] at h; cases h)]
  exact h
theorem mb_ap {dyn : pm_H} (e : pm_H) {j : Nat} (h : isMb dyn j) : isMb (dyn ++ e) j := by
  obtain ⟨nu, ow, na, re, ma, p, sg, n, f, h1, h2, h3⟩ := h
  exact ⟨nu, ow, na, re, ma, p, sg, n, f, ap_at h1, ap_at h2, h3⟩
theorem fc_ap {dyn : pm_H} (e : pm_H) {j : Nat} (h : isFc dyn j) : isFc (dyn ++ e) j := by
  obtain ⟨p, re, n, f, h1, h2, h3⟩ := h
  exact ⟨p, re, n, f, ap_at h1, ap_at h2, h3⟩
theorem rf_ap {dyn : pm_H} (e : pm_H) {j : Nat} (h : isRf dyn j) : isRf (dyn ++ e) j := by
  obtain ⟨fo, t, na, h1⟩ := h
  exact ⟨fo, t, na, ap_at h1⟩
theorem nm_ap {dyn : pm_H} (e : pm_H) {v : Value} (h : vNM dyn v) : vNM (dyn ++ e) v := by
  rcases h with h | ⟨j, h1, h2⟩
  · exact Or.inl h
  · exact Or.inr ⟨j, h1, mb_ap e h2⟩
theorem vl_ap {dyn : pm_H} (e : pm_H) {j : Nat} (h : isVl dyn j) : isVl (dyn ++ e) j := by
  obtain ⟨r, f, rc, v, bs, ip, co, h1, h2, h3, h4⟩ := h
  exact ⟨r, f, rc, v, bs, ip, co, ap_at h1, rf_ap e h2, fc_ap e h3, nm_ap e h4⟩
theorem alD_ap {mn : Int32} {al : Nat → Option Nat} {dyn : pm_H} (e : pm_H) (h : alD mn al dyn) : alD mn al (dyn ++ e) := fun i q => by obtain ⟨j, h1, h2⟩ := h i q; exact ⟨j, h1, mb_ap e h2⟩
theorem faD_ap {mn : Int32} {al : Nat → Option Nat} {dyn : pm_H} (e : pm_H) (h : faD mn al dyn) : faD mn al (dyn ++ e) := fun i q => by obtain ⟨j, h1, h2⟩ := h i q; exact ⟨j, h1, fc_ap e h2⟩
theorem reD_ap {mn : Int32} {al : Nat → Option Nat} {dyn : pm_H} (e : pm_H) (h : reD mn al dyn) : reD mn al (dyn ++ e) := fun i q => by obtain ⟨j, h1, h2⟩ := h i q; exact ⟨j, h1, rf_ap e h2⟩
theorem vlD_ap {mn : Int32} {al : Nat → Option Nat} {dyn : pm_H} (e : pm_H) (h : vlD mn al dyn) : vlD mn al (dyn ++ e) := fun i q => by obtain ⟨j, h1, h2⟩ := h i q; exact ⟨j, h1, vl_ap e h2⟩
theorem alD_at {mn : Int32} {al : Nat → Option Nat} {dyn : pm_H} (h : alD mn al dyn) {i : Int32} (h0 : 0 ≤ i.toInt) (h1 : i.toInt < mn.toInt) : ∃ j : Nat, pm_rf (al i.toNatClampNeg) = .ref (j + 50) ∧ isMb dyn j := by
  obtain ⟨j, q1, q2⟩ := h i.toNatClampNeg (by have := xN h0; omega)
  exact ⟨j, by rw [q1]; rfl, q2⟩
theorem faD_at {mn : Int32} {al : Nat → Option Nat} {dyn : pm_H} (h : faD mn al dyn) {i : Int32} (h0 : 0 ≤ i.toInt) (h1 : i.toInt < mn.toInt) : ∃ j : Nat, pm_rf (al i.toNatClampNeg) = .ref (j + 50) ∧ isFc dyn j := by
  obtain ⟨j, q1, q2⟩ := h i.toNatClampNeg (by have := xN h0; omega)
  exact ⟨j, by rw [q1]; rfl, q2⟩
theorem reD_at {mn : Int32} {al : Nat → Option Nat} {dyn : pm_H} (h : reD mn al dyn) {i : Int32} (h0 : 0 ≤ i.toInt) (h1 : i.toInt < mn.toInt) : ∃ j : Nat, pm_rf (al i.toNatClampNeg) = .ref (j + 50) ∧ isRf dyn j := by
  obtain ⟨j, q1, q2⟩ := h i.toNatClampNeg (by have := xN h0; omega)
  exact ⟨j, by rw [q1]; rfl, q2⟩
theorem vlD_at {mn : Int32} {al : Nat → Option Nat} {dyn : pm_H} (h : vlD mn al dyn) {i : Int32} (h0 : 0 ≤ i.toInt) (h1 : i.toInt < mn.toInt) : ∃ j : Nat, pm_rf (al i.toNatClampNeg) = .ref (j + 50) ∧ isVl dyn j := by
  obtain ⟨j, q1, q2⟩ := h i.toNatClampNeg (by have := xN h0; omega)
  exact ⟨j, by rw [q1]; rfl, q2⟩
theorem rem50 {x : Int32} (h : 0 ≤ x.toInt) : 0 ≤ (x - x / 50 * 50).toInt ∧ (x - x / 50 * 50).toInt < 50 := by
  have e50 : (50 : Int32).toInt = 50 := by decide
  have e1 : (x / 50).toInt = x.toInt / 50 := by
    rw [Int32.toInt_div, e50, Int.tdiv_eq_ediv_of_nonneg h]
    have h3 := x.toInt_lt
    exact Int.bmod_eq_of_le (by omega) (by omega)
  have h3 := x.toInt_lt
  have e2 : (x / 50 * 50).toInt = x.toInt / 50 * 50 := iMul e1 e50 (by omega) (by omega)
  have e3 := iSub (a := x) (b := x / 50 * 50) rfl e2 (by omega) (by omega)
  omega
theorem at_mid {dyn e : pm_H} {x : pm_C} : (dyn ++ x :: e)[dyn.length]? = some x := by simp
theorem at_mid1 {dyn e : pm_H} {x z : pm_C} : (dyn ++ x :: z :: e)[dyn.length + 1]? = some z := by
  rw [List.getElem?_append_right (by omega), show dyn.length + 1 - dyn.length = 1 by omega]
  rfl
theorem set_mid {dyn e : pm_H} {x y : pm_C} : (dyn ++ x :: e).set dyn.length y = dyn ++ y :: e := by
  rw [List.set_append_right _ _ (Nat.le_refl _), Nat.sub_self]
  rfl
theorem ap2 {dyn : pm_H} {x z : pm_C} : (dyn ++ [x]) ++ [z] = dyn ++ [x, z] := by rw [List.append_assoc]; rfl
theorem len1 {dyn : pm_H} {x : pm_C} : (dyn ++ [x]).length = dyn.length + 1 := by rw [List.length_append]; rfl
theorem at_bk {dyn : pm_H} {fs : List Value} {j : Nat} {x : pm_C} (h : (dyn ++ [.inr (10, fs)])[j]? = some x) (hx : x ≠ .inr (10, fs)) : dyn[j]? = some x := by
  rcases Nat.lt_or_ge j dyn.length with q | q
  · rw [List.getElem?_append_left q] at h; exact h
  · rw [List.getElem?_append_right q] at h
    cases e : j - dyn.length with
    | zero => rw [e] at h; exact absurd (Option.some.inj h).symm hx
    | succ n => rw [e] at h; cases h
theorem mb_bk {dyn : pm_H} {fs : List Value} {j : Nat} (h : isMb (dyn ++ [.inr (10, fs)]) j) : isMb dyn j := by
  obtain ⟨nu, ow, na, re, ma, p, sg, n, f, h1, h2, h3⟩ := h
  refine ⟨nu, ow, na, re, ma, p, sg, n, f, at_bk h1 (fun q => ?_), at_bk h2 (fun q => ?_), h3⟩
  · injection q with q; injection q with q; exact absurd q (by decide)
  · cases q
theorem pm_nwD {y pc a b x : Nat} {lv : pm_L} {st : List Value} {G : pm_H} {c n : Nat} {Q : pm_Q} (hk : pm_k y pc = some (.new x, a, b)) (hc : (Nat.ble 1 c && Nat.ble (pm_nf a) n) = true) (k : pm_WP y (pc + 3, lv, .ref G.length :: st, G ++ [.inr (a, pm_df a)], c - 1, n - pm_nf a) Q) : pm_WP y (pc, lv, st, G, c, n) Q := by
  refine pm_sd (g := (pc + 3, lv, .ref G.length :: st, G ++ [.inr (a, pm_df a)], c - 1, n - pm_nf a)) (s := Nat.ble 1 c && Nat.ble (pm_nf a) n) ?_ hc k
  unfold pm_D
  dsimp only
  rw [hk]
  rfl
theorem pm_naD {y pc a b : Nat} {m : Int32} {lv : pm_L} {st : List Value} {G : pm_H} {c n : Nat} {Q : pm_Q} (hk : pm_k y pc = some (.newarray .int, a, b)) (h0 : 0 ≤ m.toInt ∧ m.toInt ≤ 3) (hc : 1 ≤ c ∧ 3 ≤ n) (k : pm_WP y (pc + 2, lv, .ref G.length :: st, G ++ [.inl (0, m.toNatClampNeg, .inl (fun _ => 0))], c - 1, n - m.toNatClampNeg) Q) : pm_WP y (pc, lv, .int m :: st, G, c, n) Q := by
  have hx := xN h0.1
  have hm : (decide (m < 0)) = false := by
    rw [decide_eq_false_iff_not, Int32.lt_iff_toInt_lt]
    have z0 : (0 : Int32).toInt = 0 := by decide
    omega
  refine pm_sd (g := (pc + 2, lv, .ref G.length :: st, G ++ [.inl (0, m.toNatClampNeg, .inl (fun _ => 0))], c - 1, n - m.toNatClampNeg)) (s := !(decide (m < 0)) && (Nat.ble (m.toNatClampNeg * 8) 536870912 && (Nat.ble 1 c && Nat.ble m.toNatClampNeg n))) ?_ ?_ k
  · unfold pm_D
    dsimp only
    rw [hk]
    rfl
  · rw [hm, Nat.ble_eq_true_of_le (show m.toNatClampNeg * 8 ≤ 536870912 by omega), Nat.ble_eq_true_of_le hc.1, Nat.ble_eq_true_of_le (show m.toNatClampNeg ≤ n by omega)]
    rfl
theorem pm_acD {y pc b x q r n0 n1 : Nat} {m : Int32} {f u : Nat → Int32} {lv : pm_L} {st : List Value} {G : pm_H} {c n : Nat} {Q : pm_Q} (hk : pm_k y pc = some (.invokestatic x, 8, b)) (hq0 : G[q + 1]? = some (.inl (0, n0, .inl f))) (hr : G[r + 1]? = some (.inl (0, n1, .inl u))) (h0 : 0 ≤ m.toInt) (h1 : m.toNatClampNeg ≤ n0) (h2 : m.toNatClampNeg ≤ n1) (hs : pm_ct st = true) (k : pm_WP y (pc + 3, lv, st, G.set (r + 1) (.inl (0, n1, .inl (va_cpy f u 0 0 m.toNatClampNeg))), c, n) Q) : pm_WP y (pc, lv, .int m :: .int 0 :: .ref (r + 1) :: .int 0 :: .ref (q + 1) :: st, G, c, n) Q := by
  have hm : (decide (m < 0)) = false := by
    rw [decide_eq_false_iff_not, Int32.lt_iff_toInt_lt]
    have z0 : (0 : Int32).toInt = 0 := by decide
    omega
  refine pm_sd (g := (pc + 3, lv, st, G.set (r + 1) (.inl (0, n1, .inl (va_cpy f u 0 0 m.toNatClampNeg))), c, n)) (s := !(decide ((0 : Int32) < 0)) && (!(decide ((0 : Int32) < 0)) && (!(decide (m < 0)) && (Nat.ble (0 + m.toNatClampNeg) n0 && (Nat.ble (0 + m.toNatClampNeg) n1 && pm_ct st))))) ?_ ?_ k
  · unfold pm_D
    dsimp only
    rw [hk]
    dsimp only
    unfold pm_I
    dsimp only
    rw [hq0, hr]
    rfl
  · rw [hm, hs, Nat.ble_eq_true_of_le (show 0 + m.toNatClampNeg ≤ n0 by omega), Nat.ble_eq_true_of_le (show 0 + m.toNatClampNeg ≤ n1 by omega)]
    rfl
theorem hq_set2 {g c1 c2 c3 c4 c5 c6 c7 c8 c9 c10 c11 c12 c13 c14 c15 c16 c17 c18 c19 c20 c21 c22 c23 c24 c25 c26 c27 c28 c29 c30 c31 c32 c33 c34 c35 c36 c37 c38 c39 c40 c41 c42 c43 c44 c45 c46 c47 c48 c49 : pm_C} {dyn : pm_H} {x y : pm_C} {e : pm_H} : (hq g c1 c2 c3 c4 c5 c6 c7 c8 c9 c10 c11 c12 c13 c14 c15 c16 c17 c18 c19 c20 c21 c22 c23 c24 c25 c26 c27 c28 c29 c30 c31 c32 c33 c34 c35 c36 c37 c38 c39 c40 c41 c42 c43 c44 c45 c46 c47 c48 c49 (dyn ++ x :: e)).set (dyn.length + 49 + 1) y = hq g c1 c2 c3 c4 c5 c6 c7 c8 c9 c10 c11 c12 c13 c14 c15 c16 c17 c18 c19 c20 c21 c22 c23 c24 c25 c26 c27 c28 c29 c30 c31 c32 c33 c34 c35 c36 c37 c38 c39 c40 c41 c42 c43 c44 c45 c46 c47 c48 c49 (dyn ++ y :: e) := by rw [show dyn.length + 49 + 1 = dyn.length + 50 from rfl, hq_set, set_mid]
theorem pm_pfM {g c1 c2 c3 c4 c5 c6 c7 c8 c9 c10 c11 c12 c13 c14 c15 c16 c17 c18 c19 c20 c21 c22 c23 c24 c25 c26 c27 c28 c29 c30 c31 c32 c33 c34 c35 c36 c37 c38 c39 c40 c41 c42 c43 c44 c45 c46 c47 c48 c49 : pm_C} {dyn : pm_H} {y pc a b ci x : Nat} {lv : pm_L} {st fs : List Value} {e : pm_H} {c n : Nat} {v : Value} {Q : pm_Q} (hk : pm_k y pc = some (.putfield x, a, b)) (hc : (Nat.beq ci a && (Nat.blt b fs.length && pm_fits (pm_ft a b) v)) = true) (k : pm_WP y (pc + 3, lv, st, hq g c1 c2 c3 c4 c5 c6 c7 c8 c9 c10 c11 c12 c13 c14 c15 c16 c17 c18 c19 c20 c21 c22 c23 c24 c25 c26 c27 c28 c29 c30 c31 c32 c33 c34 c35 c36 c37 c38 c39 c40 c41 c42 c43 c44 c45 c46 c47 c48 c49 (dyn ++ .inr (a, fs.set b v) :: e), c, n) Q) : pm_WP y (pc, lv, v :: .ref (dyn.length + 50) :: st, hq g c1 c2 c3 c4 c5 c6 c7 c8 c9 c10 c11 c12 c13 c14 c15 c16 c17 c18 c19 c20 c21 c22 c23 c24 c25 c26 c27 c28 c29 c30 c31 c32 c33 c34 c35 c36 c37 c38 c39 c40 c41 c42 c43 c44 c45 c46 c47 c48 c49 (dyn ++ .inr (ci, fs) :: e), c, n) Q := by
  refine pm_sd (g := (pc + 3, lv, st, hq g c1 c2 c3 c4 c5 c6 c7 c8 c9 c10 c11 c12 c13 c14 c15 c16 c17 c18 c19 c20 c21 c22 c23 c24 c25 c26 c27 c28 c29 c30 c31 c32 c33 c34 c35 c36 c37 c38 c39 c40 c41 c42 c43 c44 c45 c46 c47 c48 c49 (dyn ++ .inr (a, fs.set b v) :: e), c, n)) (s := Nat.beq ci a && (Nat.blt b fs.length && pm_fits (pm_ft a b) v)) ?_ hc k
  unfold pm_D
  dsimp only
  rw [hk]
  dsimp only
  unfold pm_I
  dsimp only
  rw [show (hq g c1 c2 c3 c4 c5 c6 c7 c8 c9 c10 c11 c12 c13 c14 c15 c16 c17 c18 c19 c20 c21 c22 c23 c24 c25 c26 c27 c28 c29 c30 c31 c32 c33 c34 c35 c36 c37 c38 c39 c40 c41 c42 c43 c44 c45 c46 c47 c48 c49 (dyn ++ .inr (ci, fs) :: e))[dyn.length + 50]? = some (.inr (ci, fs)) from hq_at.trans at_mid]
  dsimp only
  rw [hq_set, set_mid]
  rfl
