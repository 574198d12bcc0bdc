/-! what is made: members, faces, references, values, with what they hold -/
def sgA (w : Int32) (n : Nat) (f : Nat → Int32) : Int32 := ((w * 32 + (if 0 < n then f 0 + 1 else 0)) * 32 + (if 1 < n then f 1 + 1 else 0)) * 32 + (if 2 < n then f 2 + 1 else 0)
theorem sg_cut {na my pm : Nat → Int32} {i : Nat} : sgA (na i) (my i).toNatClampNeg (cutF my pm i) = sgM na my pm i := by
  unfold sgA sgM dgM cutF
  have h : ∀ k : Nat, (if k < (my i).toNatClampNeg then (if k < (my i).toNatClampNeg then pm (3 * i + k) else 0) + 1 else (0 : Int32)) = (if k < (my i).toNatClampNeg then pm (3 * i + k) + 1 else 0) := fun k => by
    by_cases q : k < (my i).toNatClampNeg
    · rw [if_pos q, if_pos q, if_pos q]
    · rw [if_neg q, if_neg q]
  rw [h 0, h 1, h 2]
/-- the row that is copied is the row that is kept -/
theorem cut_new {my pm to : Nat → Int32} {mn tm : Int32} : va_cpy to (fun _ => 0) 0 0 tm.toNatClampNeg = cutF (upd my mn.toNatClampNeg tm) (cpF pm to mn tm) mn.toNatClampNeg := by
  funext k
  unfold cutF
  rw [updS]
  by_cases q : k < tm.toNatClampNeg
  · rw [if_pos q, pk_cpy_in (by omega) (by omega)]
    unfold cpF
    rw [if_pos (by omega)]
    congr 1
    omega
  · rw [if_neg q, pk_cpy_out (by omega)]
theorem cut_c {my pm my' pm' : Nat → Int32} {i : Nat} (h1 : my' i = my i) (h2 : ∀ k : Nat, k < 3 → pm' (3 * i + k) = pm (3 * i + k)) (h3 : (my i).toNatClampNeg ≤ 3) : cutF my' pm' i = cutF my pm i := by
  funext k
  unfold cutF
  rw [h1]
  by_cases q : k < (my i).toNatClampNeg
  · rw [if_pos q, if_pos q, h2 k (by omega)]
  · rw [if_neg q, if_neg q]
theorem sg_c {na my pm na' my' pm' : Nat → Int32} {i : Nat} (h0 : na' i = na i) (h1 : my' i = my i) (h2 : ∀ k : Nat, k < 3 → pm' (3 * i + k) = pm (3 * i + k)) : sgM na' my' pm' i = sgM na my pm i := by
  unfold sgM dgM
  rw [h0, h1, h2 0 (by omega), h2 1 (by omega), h2 2 (by omega)]
theorem cp_old {f to : Nat → Int32} {mn tm : Int32} {i k : Nat} (h : i < mn.toNatClampNeg) (hk : k < 3) : cpF f to mn tm (3 * i + k) = f (3 * i + k) := by
  unfold cpF
  rw [if_neg (by omega)]
/-- the members that were there, as the longer rows have them -/
theorem mbF_c {dOt dNa dRe dMa dMy dPm to : Nat → Int32} {t w r a mn tm : Int32} {dyn : pm_H} {j i : Nat} (hi : i < mn.toNatClampNeg) (h : mbF dOt dNa dRe dMa dMy dPm dyn j i) : mbF (upd dOt mn.toNatClampNeg t) (upd dNa mn.toNatClampNeg w) (upd dRe mn.toNatClampNeg r) (upd dMa mn.toNatClampNeg a) (upd dMy mn.toNatClampNeg tm) (cpF dPm to mn tm) dyn j i := by
  obtain ⟨p, h1, h2, h3⟩ := h
  have e : i ≠ mn.toNatClampNeg := by omega
  refine ⟨p, ?_, ?_, ?_⟩
  · rw [updN e, updN e, updN e, updN e, sg_c (na := dNa) (my := dMy) (pm := dPm) (updN e) (updN e) (fun k q => cp_old hi q)]
    exact h1
  · rw [updN e, cut_c (my := dMy) (pm := dPm) (updN e) (fun k q => cp_old hi q) h3]
    exact h2
  · rw [updN e]; exact h3
theorem alF_c {dOt dNa dRe dMa dMy dPm to : Nat → Int32} {t w r a mn tm : Int32} {al : Nat → Option Nat} {dyn : pm_H} (hn : 0 ≤ mn.toInt) (h : alF dOt dNa dRe dMa dMy dPm mn al dyn) : alF (upd dOt mn.toNatClampNeg t) (upd dNa mn.toNatClampNeg w) (upd dRe mn.toNatClampNeg r) (upd dMa mn.toNatClampNeg a) (upd dMy mn.toNatClampNeg tm) (cpF dPm to mn tm) mn al dyn := fun i q => by
  obtain ⟨j, h1, h2⟩ := h i q
  exact ⟨j, h1, mbF_c (by have := xN hn; omega) h2⟩
theorem nI_self {x : Int32} (h : 0 ≤ x.toInt) : nI x.toNatClampNeg = x := xJ (by rw [nI_toInt (by have := xN h; have := Int32.toInt_lt x; omega)]; exact xN h)
theorem mbF_new {dOt dNa dRe dMa dMy dPm to : Nat → Int32} {t w r a mn tm : Int32} {dyn : pm_H} (hn : 0 ≤ mn.toInt) (h3 : tm.toNatClampNeg ≤ 3) : mbF (upd dOt mn.toNatClampNeg t) (upd dNa mn.toNatClampNeg w) (upd dRe mn.toNatClampNeg r) (upd dMa mn.toNatClampNeg a) (upd dMy mn.toNatClampNeg tm) (cpF dPm to mn tm) (dyn ++ [.inr (3, [.int mn, .int t, .int w, .int r, .int a, .ref (dyn.length + 1 + 50), .int (sgA w tm.toNatClampNeg (va_cpy to (fun _ => 0) 0 0 tm.toNatClampNeg))]), .inl (0, tm.toNatClampNeg, .inl (va_cpy to (fun _ => 0) 0 0 tm.toNatClampNeg))]) dyn.length mn.toNatClampNeg := by
  have hs := sg_cut (na := upd dNa mn.toNatClampNeg w) (my := upd dMy mn.toNatClampNeg tm) (pm := cpF dPm to mn tm) (i := mn.toNatClampNeg)
  rw [updS, updS, ← cut_new] at hs
  refine ⟨dyn.length + 1, ?_, ?_, ?_⟩
  · rw [updS, updS, updS, updS, ← hs, nI_self hn]
    exact at_mid
  · rw [← cut_new, updS]
    exact at_mid1
  · rw [updS]; exact h3
theorem faF_c {dFy dFa dFr to : Nat → Int32} {r mn tm : Int32} {al : Nat → Option Nat} {dyn : pm_H} (hn : 0 ≤ mn.toInt) (h : faF dFy dFa dFr mn al dyn) : faF (upd dFy mn.toNatClampNeg tm) (cpF dFa to mn tm) (upd dFr mn.toNatClampNeg r) mn al dyn := fun i q => by
  obtain ⟨j, h1, p, h2, h3, h4⟩ := h i q
  have hi : i < mn.toNatClampNeg := by have := xN hn; omega
  have e : i ≠ mn.toNatClampNeg := by omega
  refine ⟨j, h1, p, ?_, ?_, ?_⟩
  · rw [updN e]; exact h2
  · rw [updN e, cut_c (my := dFy) (pm := dFa) (updN e) (fun k q => cp_old hi q) h4]; exact h3
  · rw [updN e]; exact h4
theorem fcF_new {dFy dFa dFr to : Nat → Int32} {r mn tm : Int32} {dyn : pm_H} (h3 : tm.toNatClampNeg ≤ 3) : fcF (upd dFy mn.toNatClampNeg tm) (cpF dFa to mn tm) (upd dFr mn.toNatClampNeg r) (dyn ++ [.inr (1, [.ref (dyn.length + 1 + 50), .int r]), .inl (0, tm.toNatClampNeg, .inl (va_cpy to (fun _ => 0) 0 0 tm.toNatClampNeg))]) dyn.length mn.toNatClampNeg := by
  refine ⟨dyn.length + 1, ?_, ?_, ?_⟩
  · rw [updS]; exact at_mid
  · rw [← cut_new, updS]; exact at_mid1
  · rw [updS]; exact h3
theorem reF_c {dFo dRt dRm : Nat → Int32} {o t w mn : Int32} {al : Nat → Option Nat} {dyn : pm_H} (hn : 0 ≤ mn.toInt) (h : reF dFo dRt dRm mn al dyn) : reF (upd dFo mn.toNatClampNeg o) (upd dRt mn.toNatClampNeg t) (upd dRm mn.toNatClampNeg w) mn al dyn := fun i q => by
  obtain ⟨j, h1, h2⟩ := h i q
  have e : i ≠ mn.toNatClampNeg := by have := xN hn; omega
  refine ⟨j, h1, ?_⟩
  unfold rfF rnF at h2 ⊢
  rw [updN e, updN e, updN e]
  exact h2
theorem rfF_new {dFo dRt dRm : Nat → Int32} {o t w z mn : Int32} {dyn : pm_H} (hz : z = if o.toInt = 3 then 6 else w) : rfF (upd dFo mn.toNatClampNeg o) (upd dRt mn.toNatClampNeg t) (upd dRm mn.toNatClampNeg w) (dyn ++ [.inr (5, [.int o, .int t, .int z])]) dyn.length mn.toNatClampNeg := by
  unfold rfF rnF
  rw [updS, updS, updS, ← hz]
  exact at_mid
/-- the values -/
def vlF (dFo dRt dRm dFy dFa dFr dOt dNa dRe dMa dMy dPm dVr dVf dVc dVb dVp dVo : Nat → Int32) (dVm : Nat → Option Nat) (mn : Int32) (al : Nat → Option Nat) (dyn : pm_H) : Prop := ∀ i : Nat, (i : Int) < mn.toInt → ∃ j r f : Nat, ∃ mv : Value, al i = some (j + 50) ∧ vuF dFo dRt dRm dFy dFa dFr dOt dNa dRe dMa dMy dPm dyn j r (dVr i).toNatClampNeg f (dVf i).toNatClampNeg (dVc i) mv (dVm i) (dVb i) (dVp i) (dVo i)
theorem vlF_at {dFo dRt dRm dFy dFa dFr dOt dNa dRe dMa dMy dPm dVr dVf dVc dVb dVp dVo : Nat → Int32} {dVm : Nat → Option Nat} {mn : Int32} {al : Nat → Option Nat} {dyn : pm_H} (h : vlF dFo dRt dRm dFy dFa dFr dOt dNa dRe dMa dMy dPm dVr dVf dVc dVb dVp dVo dVm mn al dyn) {i : Int32} (h0 : 0 ≤ i.toInt) (h1 : i.toInt < mn.toInt) : ∃ j : Nat, pm_rf (al i.toNatClampNeg) = .ref (j + 50) ∧ ∃ r f : Nat, ∃ mv : Value, vuF dFo dRt dRm dFy dFa dFr dOt dNa dRe dMa dMy dPm dyn j r (dVr i.toNatClampNeg).toNatClampNeg f (dVf i.toNatClampNeg).toNatClampNeg (dVc i.toNatClampNeg) mv (dVm i.toNatClampNeg) (dVb i.toNatClampNeg) (dVp i.toNatClampNeg) (dVo i.toNatClampNeg) := by
  obtain ⟨j, r, f, mv, q1, q2⟩ := h i.toNatClampNeg (by have := xN h0; omega)
  exact ⟨j, by rw [q1]; rfl, r, f, mv, q2⟩
theorem fdF_ap {dOt dNa dRe dMa dMy dPm : Nat → Int32} {dyn : pm_H} (e : pm_H) {v : Value} {o : Option Nat} (h : fdF dOt dNa dRe dMa dMy dPm dyn v o) : fdF dOt dNa dRe dMa dMy dPm (dyn ++ e) v o := by
  rcases h with h | ⟨j, b, h1, h2, h3⟩
  · exact Or.inl h
  · exact Or.inr ⟨j, b, h1, h2, mbF_ap e h3⟩
theorem vuF_ap {dFo dRt dRm dFy dFa dFr dOt dNa dRe dMa dMy dPm : Nat → Int32} {dyn : pm_H} (e : pm_H) {v r ir f jf : Nat} {rc : Int32} {mv : Value} {om : Option Nat} {bs ip co : Int32} (h : vuF dFo dRt dRm dFy dFa dFr dOt dNa dRe dMa dMy dPm dyn v r ir f jf rc mv om bs ip co) : vuF dFo dRt dRm dFy dFa dFr dOt dNa dRe dMa dMy dPm (dyn ++ e) v r ir f jf rc mv om bs ip co := ⟨ap_at h.1, rfF_ap e h.2.1, fcF_ap e h.2.2.1, fdF_ap e h.2.2.2⟩
/-- one value more -/
theorem vlF_put {dFo dRt dRm dFy dFa dFr dOt dNa dRe dMa dMy dPm dVr dVf dVc dVb dVp dVo : Nat → Int32} {dVm : Nat → Option Nat} {mn : Int32} {al : Nat → Option Nat} {dyn e : pm_H} {j r f : Nat} {ir jf rc bs ip co : Int32} {mv : Value} {om : Option Nat} (hn : 0 ≤ mn.toInt ∧ mn.toInt < 1000) (h : vlF dFo dRt dRm dFy dFa dFr dOt dNa dRe dMa dMy dPm dVr dVf dVc dVb dVp dVo dVm mn al dyn) (hj : vuF dFo dRt dRm dFy dFa dFr dOt dNa dRe dMa dMy dPm (dyn ++ e) j r ir.toNatClampNeg f jf.toNatClampNeg rc mv om bs ip co) : vlF dFo dRt dRm dFy dFa dFr dOt dNa dRe dMa dMy dPm (upd dVr mn.toNatClampNeg ir) (upd dVf mn.toNatClampNeg jf) (upd dVc mn.toNatClampNeg rc) (upd dVb mn.toNatClampNeg bs) (upd dVp mn.toNatClampNeg ip) (upd dVo mn.toNatClampNeg co) (va_up dVm mn.toNatClampNeg om) (mn + 1) (va_up al mn.toNatClampNeg (some (j + 50))) (dyn ++ e) := by
  have e1 : (mn + 1).toInt = mn.toInt + 1 := iAdd rfl (by decide) (by omega) (by omega)
  have hx := xN hn.1
  intro i q
  by_cases ei : i = mn.toNatClampNeg
  · subst ei
    refine ⟨j, r, f, mv, va_s, ?_⟩
    rw [updS, updS, updS, updS, updS, updS, va_s]
    exact hj
  · obtain ⟨j2, r2, f2, mv2, q1, q2⟩ := h i (by omega)
    refine ⟨j2, r2, f2, mv2, ?_, ?_⟩
    · rw [va_n ei]; exact q1
    · rw [updN ei, updN ei, updN ei, updN ei, updN ei, updN ei, va_n ei]
      exact vuF_ap e q2
/-- what the class asks of a member's head and marks -/
def mhX (up : Nat → Int32) (tn t w r a : Int32) : Prop := ((0 ≤ t.toInt ∧ t.toInt < tn.toInt) ∧ t.toInt ≠ 1) ∧ (0 ≤ w.toInt ∧ w.toInt ≤ 6) ∧ xA up r ∧ (0 ≤ a.toInt ∧ a.toInt ≤ 7) ∧ (w.toInt ≠ 6 ∨ r.toInt = t.toInt)
def ltX (up to : Nat → Int32) (tc : Int32) : Prop := 0 < tc.toInt ∧ xRw up (to (tc - 1).toNatClampNeg)
def maX (up to : Nat → Int32) (tc t w a : Int32) : Prop := ((a &&& 4).toInt ≠ 0 → ltX up to tc) ∧ (w.toInt = 6 → (a &&& 1).toInt = 0 ∧ (a &&& 2).toInt = 0) ∧ ((a &&& 2).toInt ≠ 0 → (a &&& 1).toInt = 0 ∧ t.toInt ≠ 0)
def tuX (up ki : Nat → Int32) (tl v t : Int32) : Prop := (1 ≤ v.toInt ∧ v.toInt ≤ tl.toInt) ∧ xU up (ki v.toNatClampNeg) t
def dsL (up ki ar : Nat → Int32) (tl : Int32) (nq : Nat) (fq : Nat → Int32) (k : Nat) : Prop := ∀ j : Nat, k ≤ j → j < nq → (fq j).toInt ≠ 10 → (ar j).toInt ≠ 0 → tuX up ki tl (ar j) (fq j)
def rvX (up ki : Nat → Int32) (tl fo t v : Int32) : Prop := v.toInt = 0 ∨ ((fo.toInt = 1 ∨ fo.toInt = 2) ∧ tuX up ki tl v t)
/-- a fault's number -/
theorem fa_r {up ma : Nat → Int32} {St Ab : Int64} {ha nm : Nat → Int64} {nq : Nat} {fq : Nat → Int32} {fo t : Int32} {T U : Int64} {o1 o2 : Option Nat} {b0 b9 : Value} {s0 s9 r : Int32} (h : faX up ma St Ab ha nm nq fq fo t T U o1 o2 b0 s0 b9 s9 r) : 0 ≤ r.toInt ∧ r.toInt ≤ 4 := by
  have z0 : (0 : Int32).toInt = 0 := by decide
  have z1 : (1 : Int32).toInt = 1 := by decide
  have z2 : (2 : Int32).toInt = 2 := by decide
  have z3 : (3 : Int32).toInt = 3 := by decide
  have z4 : (4 : Int32).toInt = 4 := by decide
  rcases h with ⟨_, _, _, ⟨_, q⟩ | ⟨_, q⟩⟩ | ⟨_, _, _, _, q⟩ | ⟨_, _, _, _, _, ⟨_, q⟩ | ⟨_, q⟩⟩ | ⟨_, _, _, h⟩ | ⟨_, _, _, _, h⟩
  · rw [q]; omega
  · rw [q]; omega
  · rw [q]; omega
  · rw [q]; omega
  · rw [q]; omega
  · rcases h with ⟨_, _, _, q⟩ | ⟨_, _, _, _, q⟩ | ⟨_, _, _, _, ⟨_, _, q⟩ | ⟨_, _, q⟩ | ⟨_, _, q⟩⟩ <;> rw [q] <;> omega
  · rcases h with ⟨_, _, ⟨_, q⟩ | ⟨_, q⟩⟩ | ⟨c, _, _, ⟨_, q⟩ | ⟨_, _, q⟩ | ⟨_, _, q⟩⟩ <;> rw [q] <;> omega
theorem fi_by {up pa re ma my pm : Nat → Int32} {St Ab : Int64} {ha nm : Nat → Int64} {tn mn : Int32} {nq : Nat} {fq : Nat → Int32} {fo t w fr f1 : Int32} {T : Int64} {p1 : Int32} {o1 : Option Nat} {f2 : Int32} {U : Int64} {p2 : Int32} {o2 : Option Nat} {b9 : Value} {s9 r9 : Int32} (h : fiX up pa re ma my pm St Ab ha nm tn mn nq fq fo t w fr f1 T p1 o1 f2 U p2 o2 b9 s9 r9) (h0 : 0 ≤ r9.toInt) : (b9 = .null ∧ s9 = 0 ∧ (fo.toInt = 4 ∨ fo.toInt = 3)) ∨ (b9 = .ref 10 ∧ s9 = 0 ∧ (∃ c : Nat, o1 = some c) ∧ fo.toInt ≠ 4) ∨ (b9 = .ref 11 ∧ s9 = 1 ∧ (∃ c : Nat, o2 = some c) ∧ fo.toInt = 0) := by
  obtain ⟨_, _, r, h1, h2⟩ := h
  have hb := fa_r h1
  refine fa_0 h1 ?_
  rcases h2 with ⟨q1, q2⟩ | ⟨q1, _⟩ | ⟨q1, _⟩
  · exfalso
    have e : (-10 - r).toInt = -10 - r.toInt := iSub (by decide) rfl (by omega) (by omega)
    rw [q2] at h0
    omega
  · exact q1
  · exact q1
def ipX (b9 : Value) (p1 p2 : Int32) : Int32 := if (mePh b9 p1 p2).toInt = 3 then 1 else 0
