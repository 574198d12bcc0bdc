/-! what putting a new member into a type's set does -/
def htX (na my pm : Nat → Int32) (m : Nat) (s : Int64) (c : Nat) : Prop := sgM na my pm c = sgM na my pm m ∧ bl s c = true
def piX (up ot na my pm : Nat → Int32) (m k : Nat) (s r : Int64) : Prop :=
  (∃ i : Nat, k ≤ i ∧ i < m ∧ htX na my pm m s i ∧ xU up (ot i) (ot m) ∧ (∀ c : Nat, k ≤ c → c < i → htX na my pm m s c → ¬ xU up (ot c) (ot m)) ∧ ∀ x : Nat, x < 64 → (bl r x = true ↔ (bl s x = true ∧ ¬ (k ≤ x ∧ x < i ∧ sgM na my pm x = sgM na my pm m))))
  ∨ ((∀ c : Nat, k ≤ c → c < m → htX na my pm m s c → ¬ xU up (ot c) (ot m)) ∧ ∀ x : Nat, x < 64 → (bl r x = true ↔ ((bl s x = true ∧ ¬ (k ≤ x ∧ x < m ∧ sgM na my pm x = sgM na my pm m)) ∨ x = m)))
/-- one that isn't met -/
theorem pi_n {up ot na my pm : Nat → Int32} {m k : Nat} {s r : Int64} (hn : ¬ htX na my pm m s k) (h : piX up ot na my pm m (k + 1) s r) : piX up ot na my pm m k s r := by
  have hx : ∀ x : Nat, sgM na my pm x = sgM na my pm m → bl s x = true → x ≠ k := fun x q1 q2 e => hn ⟨by rw [← e]; exact q1, by rw [← e]; exact q2⟩
  rcases h with ⟨i, h1, h2, h3, h4, h5, h6⟩ | ⟨h1, h2⟩
  · refine Or.inl ⟨i, by omega, h2, h3, h4, fun c q1 q2 q3 => h5 c ?_ q2 q3, fun x q => ?_⟩
    · rcases Nat.eq_or_lt_of_le q1 with e | e
      · subst e; exact absurd q3 hn
      · omega
    · rw [h6 x q]
      refine and_congr_right fun q2 => not_congr ⟨fun w => ⟨by omega, w.2⟩, fun w => ⟨?_, w.2⟩⟩
      have := hx x w.2.2 q2
      omega
  · refine Or.inr ⟨fun c q1 q2 q3 => h1 c ?_ q2 q3, fun x q => ?_⟩
    · rcases Nat.eq_or_lt_of_le q1 with e | e
      · subst e; exact absurd q3 hn
      · omega
    · rw [h2 x q]
      refine or_congr (and_congr_right fun q2 => not_congr ⟨fun w => ⟨by omega, w.2⟩, fun w => ⟨?_, w.2⟩⟩) Iff.rfl
      have := hx x w.2.2 q2
      omega
/-- one that hides the new one -/
theorem pi_u {up ot na my pm : Nat → Int32} {m k : Nat} {s : Int64} (hk : k < m) (h : htX na my pm m s k) (hu : xU up (ot k) (ot m)) : piX up ot na my pm m k s s :=
  Or.inl ⟨k, Nat.le_refl k, hk, h, hu, fun c q1 q2 => by omega, fun x _ => ⟨fun q => ⟨q, fun w => by omega⟩, fun q => q.1⟩⟩
theorem l_cl {s : Int64} {k x : Nat} (hk : k < 64) (hx : x < 64) : bl (s &&& ((1 <<< ((nI k).toInt64 &&& 63)) ^^^ (-1))) x = true ↔ (bl s x = true ∧ x ≠ k) := by
  rw [l_and, l_xor, l_1 k hk hx, l_m1 x hx]
  by_cases e : x = k
  · rw [decide_eq_true e]; simp [e]
  · rw [decide_eq_false e]; simp [e]
theorem l_st {s : Int64} {k x : Nat} (hk : k < 64) (hx : x < 64) : bl (s ||| (1 <<< ((nI k).toInt64 &&& 63))) x = true ↔ (bl s x = true ∨ x = k) := by
  rw [l_or, l_1 k hk hx]
  simp
/-- one that is hidden -/
theorem pi_h {up ot na my pm : Nat → Int32} {m k : Nat} {s r : Int64} (hk : k < m) (hm : m < 64) (h : htX na my pm m s k) (hu : ¬ xU up (ot k) (ot m)) (w : piX up ot na my pm m (k + 1) (s &&& ((1 <<< ((nI k).toInt64 &&& 63)) ^^^ (-1))) r) : piX up ot na my pm m k s r := by
  have hb : ∀ c : Nat, c ≠ k → c < 64 → (htX na my pm m (s &&& ((1 <<< ((nI k).toInt64 &&& 63)) ^^^ (-1))) c ↔ htX na my pm m s c) := fun c q1 q2 => and_congr_right fun _ => (l_cl (by omega) q2).trans ⟨fun z => z.1, fun z => ⟨z, q1⟩⟩
  rcases w with ⟨i, h1, h2, h3, h4, h5, h6⟩ | ⟨h1, h2⟩
  · refine Or.inl ⟨i, by omega, h2, (hb i (by omega) (by omega)).mp h3, h4, fun c q1 q2 q3 => ?_, fun x q => ?_⟩
    · rcases Nat.eq_or_lt_of_le q1 with e | e
      · subst e; exact hu
      · exact h5 c e q2 ((hb c (by omega) (by omega)).mpr q3)
    · rw [h6 x q, l_cl (by omega) q]
      constructor
      · rintro ⟨⟨z1, z2⟩, z3⟩
        exact ⟨z1, fun z => z3 ⟨by omega, z.2⟩⟩
      · rintro ⟨z1, z2⟩
        refine ⟨⟨z1, fun e => ?_⟩, fun z => z2 ⟨by omega, z.2⟩⟩
        subst e
        exact z2 ⟨Nat.le_refl _, by omega, h.1⟩
  · refine Or.inr ⟨fun c q1 q2 q3 => ?_, fun x q => ?_⟩
    · rcases Nat.eq_or_lt_of_le q1 with e | e
      · subst e; exact hu
      · exact h1 c e q2 ((hb c (by omega) (by omega)).mpr q3)
    · rw [h2 x q, l_cl (by omega) q]
      refine or_congr ?_ Iff.rfl
      constructor
      · rintro ⟨⟨z1, z2⟩, z3⟩
        exact ⟨z1, fun z => z3 ⟨by omega, z.2⟩⟩
      · rintro ⟨z1, z2⟩
        refine ⟨⟨z1, fun e => ?_⟩, fun z => z2 ⟨by omega, z.2⟩⟩
        subst e
        exact z2 ⟨Nat.le_refl _, by omega, h.1⟩
theorem pi_e {up ot na my pm : Nat → Int32} {m : Nat} {s : Int64} (hm : m < 64) : piX up ot na my pm m m s (s ||| (1 <<< ((nI m).toInt64 &&& 63))) :=
  Or.inr ⟨fun c q1 q2 => by omega, fun x q => (l_st hm q).trans (or_congr ⟨fun z => ⟨z, fun w => by omega⟩, fun z => z.1⟩ Iff.rfl)⟩
def adC (up ot na : Nat → Int32) (m : Nat) (tn : Int32) (x : Nat) : Prop := (x : Int) < tn.toInt ∧ ((x : Int) = (ot m).toInt ∨ ((na m).toInt ≠ 6 ∧ xU up (nI x) (ot m)))
def adX (up ot na my pm : Nat → Int32) (m : Nat) (tn : Int32) (k : Nat) (ha hb : Nat → Int64) : Prop := ∀ x : Nat, ((k ≤ x ∧ adC up ot na m tn x) → piX up ot na my pm m 0 (ha x) (hb x)) ∧ (¬ (k ≤ x ∧ adC up ot na m tn x) → hb x = ha x)
def stX (s : Int64) (b : Int32) (i : Nat) : Int64 := if b.toInt ≠ 0 then s ||| (1 <<< ((nI i).toInt64 &&& 63)) else s ||| 0
theorem st_1 {s : Int64} {b : Int32} {i : Nat} (h : b.toInt ≠ 0) : stX s b i = s ||| (1 <<< ((nI i).toInt64 &&& 63)) := by unfold stX; rw [if_pos h]
theorem st_2 {s : Int64} {b : Int32} {i : Nat} (h : b.toInt = 0) : stX s b i = s ||| 0 := by unfold stX; rw [if_neg (by omega)]
theorem ad_n {up ot na my pm : Nat → Int32} {m : Nat} {tn : Int32} {k : Nat} {ha hb : Nat → Int64} (hc : ¬ adC up ot na m tn k) (h : adX up ot na my pm m tn (k + 1) ha hb) : adX up ot na my pm m tn k ha hb := fun x => by
  obtain ⟨h1, h2⟩ := h x
  refine ⟨fun q => h1 ⟨?_, q.2⟩, fun q => h2 (fun z => q ⟨by omega, z.2⟩)⟩
  rcases Nat.eq_or_lt_of_le q.1 with e | e
  · subst e; exact absurd q.2 hc
  · exact e
theorem ad_y {up ot na my pm : Nat → Int32} {m : Nat} {tn : Int32} {k : Nat} {ha hb hd : Nat → Int64} (hc : adC up ot na m tn k) (h : adX up ot na my pm m tn (k + 1) hd hb) (h3 : ∀ x : Nat, x ≠ k → hd x = ha x) (h4 : piX up ot na my pm m 0 (ha k) (hd k)) : adX up ot na my pm m tn k ha hb := fun x => by
  obtain ⟨h1, h2⟩ := h x
  by_cases e : x = k
  · subst e
    have e2 := h2 (fun z => by omega)
    refine ⟨fun _ => by rw [e2]; exact h4, fun q => absurd ⟨Nat.le_refl _, hc⟩ q⟩
  · rw [h3 x e] at h1 h2
    exact ⟨fun q => h1 ⟨by omega, q.2⟩, fun q => h2 (fun z => q ⟨by omega, z.2⟩)⟩
theorem ad_e {up ot na my pm : Nat → Int32} {m : Nat} {tn : Int32} {k : Nat} {ha : Nat → Int64} (hk : tn.toInt ≤ k) : adX up ot na my pm m tn k ha ha := fun x => ⟨fun q => by have := q.2.1; omega, fun _ => rfl⟩
theorem va_s {f : Nat → Option Nat} {i : Nat} {v : Option Nat} : va_up f i v i = v := by simp [va_up]
theorem va_n {f : Nat → Option Nat} {i j : Nat} {v : Option Nat} (h : j ≠ i) : va_up f i v j = f j := by simp [va_up, h]
theorem alF_put {dOt dNa dRe dMa dMy dPm : Nat → Int32} {mn : Int32} {al : Nat → Option Nat} {dyn : pm_H} {j : Nat} (hn : 0 ≤ mn.toInt ∧ mn.toInt < 1000) (h : alF dOt dNa dRe dMa dMy dPm mn al dyn) (hj : mbF dOt dNa dRe dMa dMy dPm dyn j mn.toNatClampNeg) : alF dOt dNa dRe dMa dMy dPm (mn + 1) (va_up al mn.toNatClampNeg (some (j + 50))) dyn := by
  have e : (mn + 1).toInt = mn.toInt + 1 := iAdd rfl (by decide) (by omega) (by omega)
  have hx := xN hn.1
  intro i q
  by_cases ei : i = mn.toNatClampNeg
  · exact ⟨j, by rw [ei]; exact va_s, by rw [ei]; exact hj⟩
  · rw [va_n ei]; exact h i (by omega)
theorem faF_put {dFy dFa dFr : Nat → Int32} {mn : Int32} {al : Nat → Option Nat} {dyn : pm_H} {j : Nat} (hn : 0 ≤ mn.toInt ∧ mn.toInt < 1000) (h : faF dFy dFa dFr mn al dyn) (hj : fcF dFy dFa dFr dyn j mn.toNatClampNeg) : faF dFy dFa dFr (mn + 1) (va_up al mn.toNatClampNeg (some (j + 50))) dyn := by
  have e : (mn + 1).toInt = mn.toInt + 1 := iAdd rfl (by decide) (by omega) (by omega)
  have hx := xN hn.1
  intro i q
  by_cases ei : i = mn.toNatClampNeg
  · exact ⟨j, by rw [ei]; exact va_s, by rw [ei]; exact hj⟩
  · rw [va_n ei]; exact h i (by omega)
theorem reF_put {dFo dRt dRm : Nat → Int32} {mn : Int32} {al : Nat → Option Nat} {dyn : pm_H} {j : Nat} (hn : 0 ≤ mn.toInt ∧ mn.toInt < 1000) (h : reF dFo dRt dRm mn al dyn) (hj : rfF dFo dRt dRm dyn j mn.toNatClampNeg) : reF dFo dRt dRm (mn + 1) (va_up al mn.toNatClampNeg (some (j + 50))) dyn := by
  have e : (mn + 1).toInt = mn.toInt + 1 := iAdd rfl (by decide) (by omega) (by omega)
  have hx := xN hn.1
  intro i q
  by_cases ei : i = mn.toNatClampNeg
  · exact ⟨j, by rw [ei]; exact va_s, by rw [ei]; exact hj⟩
  · rw [va_n ei]; exact h i (by omega)
def clL (up ot na re ma my pm : Nat → Int32) (mn : Int32) (m k : Nat) : Prop := ∃ j : Nat, k ≤ j ∧ (j : Int) < mn.toInt ∧ sgM na my pm j = sgM na my pm m ∧ cwX up ot na re ma m j
