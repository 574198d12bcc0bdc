/-! the class's objects, with what they hold -/
def dgM (my pm : Nat → Int32) (i k : Nat) : Int32 := if k < (my i).toNatClampNeg then pm (3 * i + k) + 1 else 0
/-- a member's name and parameters in one number -/
def sgM (na my pm : Nat → Int32) (i : Nat) : Int32 := ((na i * 32 + dgM my pm i 0) * 32 + dgM my pm i 1) * 32 + dgM my pm i 2
/-- the row that is kept of a row of three -/
def cutF (my pm : Nat → Int32) (i : Nat) : Nat → Int32 := fun k => if k < (my i).toNatClampNeg then pm (3 * i + k) else 0
theorem cut_at {my pm : Nat → Int32} {i k : Nat} (h : k < (my i).toNatClampNeg) : cutF my pm i k = pm (3 * i + k) := by unfold cutF; rw [if_pos h]
def mbF (dOt dNa dRe dMa dMy dPm : Nat → Int32) (dyn : pm_H) (j i : Nat) : Prop := ∃ p : Nat, dyn[j]? = some (.inr (3, [.int (nI i), .int (dOt i), .int (dNa i), .int (dRe i), .int (dMa i), .ref (p + 50), .int (sgM dNa dMy dPm i)])) ∧ dyn[p]? = some (.inl (0, (dMy i).toNatClampNeg, .inl (cutF dMy dPm i))) ∧ (dMy i).toNatClampNeg ≤ 3
def fcF (dFy dFa dFr : Nat → Int32) (dyn : pm_H) (j i : Nat) : Prop := ∃ p : Nat, dyn[j]? = some (.inr (1, [.ref (p + 50), .int (dFr i)])) ∧ dyn[p]? = some (.inl (0, (dFy i).toNatClampNeg, .inl (cutF dFy dFa i))) ∧ (dFy i).toNatClampNeg ≤ 3
def rnF (fo rm : Nat → Int32) (i : Nat) : Int32 := if (fo i).toInt = 3 then 6 else rm i
def rfF (dFo dRt dRm : Nat → Int32) (dyn : pm_H) (j i : Nat) : Prop := dyn[j]? = some (.inr (5, [.int (dFo i), .int (dRt i), .int (rnF dFo dRm i)]))
def alF (dOt dNa dRe dMa dMy dPm : Nat → Int32) (mn : Int32) (al : Nat → Option Nat) (dyn : pm_H) : Prop := ∀ i : Nat, (i : Int) < mn.toInt → ∃ j : Nat, al i = some (j + 50) ∧ mbF dOt dNa dRe dMa dMy dPm dyn j i
def faF (dFy dFa dFr : Nat → Int32) (mn : Int32) (al : Nat → Option Nat) (dyn : pm_H) : Prop := ∀ i : Nat, (i : Int) < mn.toInt → ∃ j : Nat, al i = some (j + 50) ∧ fcF dFy dFa dFr dyn j i
def reF (dFo dRt dRm : Nat → Int32) (mn : Int32) (al : Nat → Option Nat) (dyn : pm_H) : Prop := ∀ i : Nat, (i : Int) < mn.toInt → ∃ j : Nat, al i = some (j + 50) ∧ rfF dFo dRt dRm dyn j i
theorem mbF_ap {dOt dNa dRe dMa dMy dPm : Nat → Int32} {dyn : pm_H} (e : pm_H) {j i : Nat} (h : mbF dOt dNa dRe dMa dMy dPm dyn j i) : mbF dOt dNa dRe dMa dMy dPm (dyn ++ e) j i := by
  obtain ⟨p, h1, h2, h3⟩ := h
  exact ⟨p, ap_at h1, ap_at h2, h3⟩
theorem fcF_ap {dFy dFa dFr : Nat → Int32} {dyn : pm_H} (e : pm_H) {j i : Nat} (h : fcF dFy dFa dFr dyn j i) : fcF dFy dFa dFr (dyn ++ e) j i := by
  obtain ⟨p, h1, h2, h3⟩ := h
  exact ⟨p, ap_at h1, ap_at h2, h3⟩
theorem rfF_ap {dFo dRt dRm : Nat → Int32} {dyn : pm_H} (e : pm_H) {j i : Nat} (h : rfF dFo dRt dRm dyn j i) : rfF dFo dRt dRm (dyn ++ e) j i := ap_at h
theorem alF_ap {dOt dNa dRe dMa dMy dPm : Nat → Int32} {mn : Int32} {al : Nat → Option Nat} {dyn : pm_H} (e : pm_H) (h : alF dOt dNa dRe dMa dMy dPm mn al dyn) : alF dOt dNa dRe dMa dMy dPm mn al (dyn ++ e) := fun i q => by
  obtain ⟨j, h1, h2⟩ := h i q
  exact ⟨j, h1, mbF_ap e h2⟩
theorem faF_ap {dFy dFa dFr : Nat → Int32} {mn : Int32} {al : Nat → Option Nat} {dyn : pm_H} (e : pm_H) (h : faF dFy dFa dFr mn al dyn) : faF dFy dFa dFr mn al (dyn ++ e) := fun i q => by
  obtain ⟨j, h1, h2⟩ := h i q
  exact ⟨j, h1, fcF_ap e h2⟩
theorem reF_ap {dFo dRt dRm : Nat → Int32} {mn : Int32} {al : Nat → Option Nat} {dyn : pm_H} (e : pm_H) (h : reF dFo dRt dRm mn al dyn) : reF dFo dRt dRm mn al (dyn ++ e) := fun i q => by
  obtain ⟨j, h1, h2⟩ := h i q
  exact ⟨j, h1, rfF_ap e h2⟩
theorem alF_at {dOt dNa dRe dMa dMy dPm : Nat → Int32} {mn : Int32} {al : Nat → Option Nat} {dyn : pm_H} (h : alF dOt dNa dRe dMa dMy dPm mn al dyn) {i : Int32} (h0 : 0 ≤ i.toInt) (h1 : i.toInt < mn.toInt) : ∃ j : Nat, pm_rf (al i.toNatClampNeg) = .ref (j + 50) ∧ mbF dOt dNa dRe dMa dMy dPm dyn j i.toNatClampNeg := by
  obtain ⟨j, q1, q2⟩ := h i.toNatClampNeg (by have := xN h0; omega)
  exact ⟨j, by rw [q1]; rfl, q2⟩
theorem nI_K {k : Nat} {mn : Int32} (h : (k : Int) < mn.toInt) : (nI k).toNatClampNeg = k := nI_clamp (by have := Int32.toInt_lt mn; omega)
theorem alF_atN {dOt dNa dRe dMa dMy dPm : Nat → Int32} {mn : Int32} {al : Nat → Option Nat} {dyn : pm_H} (h : alF dOt dNa dRe dMa dMy dPm mn al dyn) {k : Nat} (h1 : (k : Int) < mn.toInt) : ∃ j : Nat, pm_rf (al (nI k).toNatClampNeg) = .ref (j + 50) ∧ mbF dOt dNa dRe dMa dMy dPm dyn j k := by
  obtain ⟨j, q1, q2⟩ := h k h1
  rw [nI_K h1]
  exact ⟨j, by rw [q1]; rfl, q2⟩
theorem faF_at {dFy dFa dFr : Nat → Int32} {mn : Int32} {al : Nat → Option Nat} {dyn : pm_H} (h : faF dFy dFa dFr mn al dyn) {i : Int32} (h0 : 0 ≤ i.toInt) (h1 : i.toInt < mn.toInt) : ∃ j : Nat, pm_rf (al i.toNatClampNeg) = .ref (j + 50) ∧ fcF dFy dFa dFr dyn j i.toNatClampNeg := by
  obtain ⟨j, q1, q2⟩ := h i.toNatClampNeg (by have := xN h0; omega)
  exact ⟨j, by rw [q1]; rfl, q2⟩
theorem reF_at {dFo dRt dRm : Nat → Int32} {mn : Int32} {al : Nat → Option Nat} {dyn : pm_H} (h : reF dFo dRt dRm mn al dyn) {i : Int32} (h0 : 0 ≤ i.toInt) (h1 : i.toInt < mn.toInt) : ∃ j : Nat, pm_rf (al i.toNatClampNeg) = .ref (j + 50) ∧ rfF dFo dRt dRm dyn j i.toNatClampNeg := by
  obtain ⟨j, q1, q2⟩ := h i.toNatClampNeg (by have := xN h0; omega)
  exact ⟨j, by rw [q1]; rfl, q2⟩
/-- the class's isUnder -/
def xU (up : Nat → Int32) (a b : Int32) : Prop := ((0 ≤ a.toInt ∧ a.toInt ≤ 30) ∧ (0 ≤ b.toInt ∧ b.toInt ≤ 30)) ∧ ((up a.toNatClampNeg >>> (b &&& 31)) &&& 1).toInt ≠ 0
def xL (up : Nat → Int32) (a b : Int32) : Prop := xU up a b ∨ (a.toInt = 10 ∧ xU up 1 b) ∨ (a.toInt = 1 ∧ b.toInt = 10)
/-- the class's isAnyType -/
def xA (up : Nat → Int32) (t : Int32) : Prop := (0 ≤ t.toInt ∧ t.toInt ≤ 30) ∧ (up t.toNatClampNeg).toInt ≠ 0
def xPm (up : Nat → Int32) (t : Int32) : Prop := xA up t ∧ t.toInt ≠ 11
def xRw (up : Nat → Int32) (t : Int32) : Prop := xA up t ∧ 20 ≤ t.toInt
/-- what place k of member i wants -/
def tyM (my pm : Nat → Int32) (i k : Nat) (ph : Int32) : Int32 := if (my i).toNatClampNeg = 0 then -1 else if ph.toInt = 3 ∧ (my i).toNatClampNeg ≤ k + 1 then (if (pm (3 * i + ((my i).toNatClampNeg - 1))).toInt = 30 then 10 else pm (3 * i + ((my i).toNatClampNeg - 1)) - 20) else if k < (my i).toNatClampNeg then pm (3 * i + k) else -1
theorem ty_0 {my pm : Nat → Int32} {i k : Nat} {ph : Int32} (h : (my i).toNatClampNeg = 0) : tyM my pm i k ph = -1 := by unfold tyM; rw [if_pos h]
theorem ty_1 {my pm : Nat → Int32} {i k : Nat} {ph : Int32} (h : (my i).toNatClampNeg ≠ 0) (h2 : ph.toInt = 3 ∧ (my i).toNatClampNeg ≤ k + 1) (h3 : (pm (3 * i + ((my i).toNatClampNeg - 1))).toInt = 30) : tyM my pm i k ph = 10 := by unfold tyM; rw [if_neg h, if_pos h2, if_pos h3]
theorem ty_2 {my pm : Nat → Int32} {i k : Nat} {ph : Int32} (h : (my i).toNatClampNeg ≠ 0) (h2 : ph.toInt = 3 ∧ (my i).toNatClampNeg ≤ k + 1) (h3 : (pm (3 * i + ((my i).toNatClampNeg - 1))).toInt ≠ 30) : tyM my pm i k ph = pm (3 * i + ((my i).toNatClampNeg - 1)) - 20 := by unfold tyM; rw [if_neg h, if_pos h2, if_neg h3]
theorem ty_3 {my pm : Nat → Int32} {i k : Nat} {ph : Int32} (h : (my i).toNatClampNeg ≠ 0) (h2 : ¬ (ph.toInt = 3 ∧ (my i).toNatClampNeg ≤ k + 1)) (h3 : k < (my i).toNatClampNeg) : tyM my pm i k ph = pm (3 * i + k) := by unfold tyM; rw [if_neg h, if_neg h2, if_pos h3]
theorem ty_4 {my pm : Nat → Int32} {i k : Nat} {ph : Int32} (h : (my i).toNatClampNeg ≠ 0) (h2 : ¬ (ph.toInt = 3 ∧ (my i).toNatClampNeg ≤ k + 1)) (h3 : ¬ k < (my i).toNatClampNeg) : tyM my pm i k ph = -1 := by unfold tyM; rw [if_neg h, if_neg h2, if_neg h3]
def agX (re ma : Nat → Int32) (i j : Nat) : Prop := (ma i &&& 1).toInt = 0 ∧ (ma j &&& 1).toInt = 0 ∧ (re i).toInt = (re j).toInt ∧ ((ma i &&& 4).toInt ≠ 0 ↔ (ma j &&& 4).toInt ≠ 0)
def cwX (up ot na re ma : Nat → Int32) (i j : Nat) : Prop := (ot i).toInt = (ot j).toInt ∨ ((na i).toInt ≠ 6 ∧ (xU up (ot i) (ot j) ∨ xU up (ot j) (ot i)) ∧ ¬ agX re ma i j)
/-- what a type has, as the class keeps it -/
def hbX (ha nm : Nat → Int64) (t : Int32) : Int64 := if 0 ≤ t.toInt ∧ t.toInt < 10 then ha t.toNatClampNeg else ha 0 &&& (nm 6 ^^^ (-1))
theorem hb_1 {ha nm : Nat → Int64} {t : Int32} (h : 0 ≤ t.toInt ∧ t.toInt < 10) : hbX ha nm t = ha t.toNatClampNeg := by unfold hbX; rw [if_pos h]
theorem hb_2 {ha nm : Nat → Int64} {t : Int32} (h : ¬ (0 ≤ t.toInt ∧ t.toInt < 10)) : hbX ha nm t = ha 0 &&& (nm 6 ^^^ (-1)) := by unfold hbX; rw [if_neg h]
def nmX (ha nm : Nat → Int64) (t w : Int32) : Int64 := if 0 ≤ w.toInt ∧ w.toInt ≤ 6 then hbX ha nm t &&& nm w.toNatClampNeg else 0
theorem nm_1 {ha nm : Nat → Int64} {t w : Int32} (h : 0 ≤ w.toInt ∧ w.toInt ≤ 6) : nmX ha nm t w = hbX ha nm t &&& nm w.toNatClampNeg := by unfold nmX; rw [if_pos h]
theorem nm_2 {ha nm : Nat → Int64} {t w : Int32} (h : ¬ (0 ≤ w.toInt ∧ w.toInt ≤ 6)) : nmX ha nm t w = 0 := by unfold nmX; rw [if_neg h]
theorem lc0 {x u : Int64} : (lg_cmp x u).toInt = 0 ↔ x = u := by
  rw [← lg_cmp_eq]
  exact ⟨fun h => Int32.toInt_inj.mp (h.trans (by decide)), fun h => by rw [h]; decide⟩
theorem l_qI {s : Int64} {i : Int32} (h : 0 ≤ i.toInt ∧ i.toInt < 64) : (lg_cmp ((s >>> (i.toInt64 &&& 63)) &&& 1) 0).toInt ≠ 0 ↔ bl s i.toNatClampNeg = true := by
  have hx := xN h.1
  have e : i = nI i.toNatClampNeg := xJ (by rw [nI_toInt (by omega), hx])
  rw [Ne, lc0]
  conv => lhs; rw [e]
  exact l_q (by omega)
/-- how many of the first have it -/
noncomputable def cP (P : Nat → Prop) : Nat → Nat
  | 0 => 0
  | k + 1 => cP P k + @ite Nat (P k) (Classical.propDecidable (P k)) 1 0
theorem cP_y {P : Nat → Prop} {k : Nat} (h : P k) : cP P (k + 1) = cP P k + 1 := by
  show cP P k + @ite Nat (P k) (Classical.propDecidable (P k)) 1 0 = _
  rw [if_pos h]
theorem cP_n {P : Nat → Prop} {k : Nat} (h : ¬ P k) : cP P (k + 1) = cP P k := by
  show cP P k + @ite Nat (P k) (Classical.propDecidable (P k)) 1 0 = _
  rw [if_neg h, Nat.add_zero]
theorem cP_le {P : Nat → Prop} : ∀ {k : Nat}, cP P k ≤ k := by
  intro k
  induction k with
  | zero => exact Nat.le_refl _
  | succ k ih =>
    by_cases h : P k
    · rw [cP_y h]; omega
    · rw [cP_n h]; omega
/-- the one of them that has so many ahead of it -/
def nthP (P : Nat → Prop) (mn i r : Int32) : Prop := (∃ b : Nat, (b : Int) < mn.toInt ∧ P b ∧ (cP P b : Int) = i.toInt ∧ r = nI b) ∨ ((∀ b : Nat, (b : Int) < mn.toInt → P b → (cP P b : Int) ≠ i.toInt) ∧ r = -4)
def tfX (na my pm : Nat → Int32) (s : Int64) (mn : Int32) (i b : Nat) : Prop := ((b : Int) < mn.toInt ∧ sgM na my pm b = sgM na my pm i ∧ bl s b = true ∧ ∀ c : Nat, c < b → ¬ (sgM na my pm c = sgM na my pm i ∧ bl s c = true)) ∨ (b = i ∧ ∀ c : Nat, (c : Int) < mn.toInt → ¬ (sgM na my pm c = sgM na my pm i ∧ bl s c = true))
