/-! searches, as the class runs them -/
def fjL (up my pm : Nat → Int32) (nq : Nat) (fq : Nat → Int32) (F : Int32) (i : Nat) (ph : Int32) (k : Nat) : Prop := ∀ j : Nat, k ≤ j → (j : Int) < (nq : Int) - F.toInt → ((ph.toInt = 1 → xU up (fq (F.toNatClampNeg + j)) (tyM my pm i j ph)) ∧ (ph.toInt ≠ 1 → xL up (fq (F.toNatClampNeg + j)) (tyM my pm i j ph)))
def fitX (up ma my pm : Nat → Int32) (nq : Nat) (fq : Nat → Int32) (F : Int32) (i : Nat) (ph : Int32) : Prop := ((ph.toInt ≠ 3 ∧ ((my i).toNatClampNeg : Int) = (nq : Int) - F.toInt) ∨ (ph.toInt = 3 ∧ (ma i &&& 4).toInt ≠ 0 ∧ ((my i).toNatClampNeg : Int) ≤ (nq : Int) - F.toInt + 1)) ∧ fjL up my pm nq fq F i ph 0
/-- what is gathered from k on -/
def gfX (P : Nat → Prop) (mn : Int32) (k : Nat) (a b : Int64) (x y ph : Int32) : Prop := (∀ j : Nat, j < 64 → (bl b j = true ↔ (bl a j = true ∨ (k ≤ j ∧ (j : Int) < mn.toInt ∧ P j)))) ∧ ((∃ j : Nat, k ≤ j ∧ (j : Int) < mn.toInt ∧ P j) → y = ph) ∧ ((¬ ∃ j : Nat, k ≤ j ∧ (j : Int) < mn.toInt ∧ P j) → y = x)
theorem gf_n {P : Nat → Prop} {mn : Int32} {k : Nat} {a b : Int64} {x y ph : Int32} (hn : ¬ P k) (h : gfX P mn (k + 1) a b x y ph) : gfX P mn k a b x y ph := by
  have e : ∀ j : Nat, (k ≤ j ∧ (j : Int) < mn.toInt ∧ P j) ↔ (k + 1 ≤ j ∧ (j : Int) < mn.toInt ∧ P j) := fun j => ⟨fun q => ⟨by
    rcases Nat.eq_or_lt_of_le q.1 with e | e
    · subst e; exact absurd q.2.2 hn
    · exact e, q.2⟩, fun q => ⟨by omega, q.2⟩⟩
  obtain ⟨h1, h2, h3⟩ := h
  refine ⟨fun j q => (h1 j q).trans (or_congr Iff.rfl (e j).symm), fun ⟨j, q⟩ => h2 ⟨j, (e j).mp q⟩, fun q => h3 (fun ⟨j, w⟩ => q ⟨j, (e j).mpr w⟩)⟩
theorem gf_y {P : Nat → Prop} {mn : Int32} {k : Nat} {a b : Int64} {x y ph : Int32} (hk : k < 64) (hm : (k : Int) < mn.toInt) (hp : P k) (h : gfX P mn (k + 1) (a ||| (1 <<< ((nI k).toInt64 &&& 63))) b ph y ph) : gfX P mn k a b x y ph := by
  obtain ⟨h1, h2, h3⟩ := h
  have hy : y = ph := by
    rcases Classical.em (∃ j : Nat, k + 1 ≤ j ∧ (j : Int) < mn.toInt ∧ P j) with q | q
    · exact h2 q
    · exact h3 q
  refine ⟨fun j q => (h1 j q).trans ?_, fun _ => hy, fun q => absurd ⟨k, Nat.le_refl k, hm, hp⟩ q⟩
  rw [l_st hk q]
  constructor
  · rintro ((w | w) | w)
    · exact Or.inl w
    · subst w; exact Or.inr ⟨Nat.le_refl _, hm, hp⟩
    · exact Or.inr ⟨by omega, w.2⟩
  · rintro (w | w)
    · exact Or.inl (Or.inl w)
    · rcases Nat.eq_or_lt_of_le w.1 with e | e
      · exact Or.inl (Or.inr e.symm)
      · exact Or.inr ⟨e, w.2⟩
theorem gf_e {P : Nat → Prop} {mn : Int32} {k : Nat} {a : Int64} {x ph : Int32} (h : mn.toInt ≤ k) : gfX P mn k a a x x ph :=
  ⟨fun j _ => ⟨Or.inl, fun q => q.elim id (fun w => by omega)⟩, fun ⟨j, q⟩ => by omega, fun _ => rfl⟩
def uaB (my : Nat → Int32) (n : Int) (P : Int32) (i j : Nat) (k : Nat) : Prop := (k : Int) < n ∨ (P.toInt = 3 ∧ (k < (my i).toNatClampNeg ∨ k < (my j).toNatClampNeg))
def uaX (up my pm : Nat → Int32) (n : Int) (P : Int32) (i j : Nat) : Prop := ∀ k : Nat, uaB my n P i j k → xU up (tyM my pm i k P) (tyM my pm j k P)
def uaL (up my pm : Nat → Int32) (c P : Int32) (i j k : Nat) : Prop := ∀ x : Nat, k ≤ x → (x : Int) < c.toInt → xU up (tyM my pm i x P) (tyM my pm j x P)
def spX (up my pm : Nat → Int32) (s : Int64) (mn : Int32) (n : Int) (P : Int32) (i k : Nat) : Prop := ∀ j : Nat, k ≤ j → (j : Int) < mn.toInt → bl s j = true → uaX up my pm n P i j
def oneP (SP : Nat → Prop) (mn : Int32) (b : Nat) : Prop := (b : Int) < mn.toInt ∧ SP b ∧ ∀ j : Nat, (j : Int) < mn.toInt → SP j → j = b
/-- the phases: which fits are gathered -/
def rnX (Fx : Int32 → Nat → Prop) (mn : Int32) (T : Int64) (P : Int32) : Prop := (P = 0 ∧ T = 0 ∧ ∀ j : Nat, (j : Int) < mn.toInt → ¬ Fx 1 j ∧ ¬ Fx 2 j ∧ ¬ Fx 3 j) ∨ ((1 ≤ P.toInt ∧ P.toInt ≤ 3) ∧ T ≠ 0 ∧ (∀ j : Nat, j < 64 → (bl T j = true ↔ ((j : Int) < mn.toInt ∧ Fx P j))) ∧ (∃ j : Nat, (j : Int) < mn.toInt ∧ Fx P j) ∧ ∀ p : Nat, 1 ≤ p → (p : Int) < P.toInt → ∀ j : Nat, (j : Int) < mn.toInt → ¬ Fx (nI p) j)
/-- ahead of phase k -/
def rnK (Fx : Int32 → Nat → Prop) (mn : Int32) (T : Int64) (P : Int32) (k : Nat) : Prop := (T = 0 ∧ P = 0 ∧ ∀ p : Nat, 1 ≤ p → p < k → ∀ j : Nat, (j : Int) < mn.toInt → ¬ Fx (nI p) j) ∨ (T ≠ 0 ∧ rnX Fx mn T P)
theorem rn_s {Fx : Int32 → Nat → Prop} {mn : Int32} {T U : Int64} {P y : Int32} {k : Nat} (hk : 1 ≤ k ∧ k ≤ 3) (hm : mn.toInt ≤ 64) (hT : T = 0) (h : rnK Fx mn T P k) (g : gfX (Fx (nI k)) mn 0 T U P y (nI k)) : rnK Fx mn U y (k + 1) := by
  have hnk := nI_toInt (n := k) (by omega)
  rcases h with ⟨_, h2, h3⟩ | ⟨h1, _⟩
  · obtain ⟨g1, g2, g3⟩ := g
    rcases Classical.em (∃ j : Nat, 0 ≤ j ∧ (j : Int) < mn.toInt ∧ Fx (nI k) j) with q | q
    · have hy := g2 q
      have hb : ∀ j : Nat, j < 64 → (bl U j = true ↔ ((j : Int) < mn.toInt ∧ Fx (nI k) j)) := fun j w => (g1 j w).trans ⟨fun z => z.elim (fun z => by rw [hT, l_0] at z; cases z) (fun z => z.2), fun z => Or.inr ⟨Nat.zero_le j, z⟩⟩
      obtain ⟨j, _, q2, q3⟩ := q
      have hU : U ≠ 0 := l_nz.mpr ⟨j, by omega, (hb j (by omega)).mpr ⟨q2, q3⟩⟩
      refine Or.inr ⟨hU, Or.inr ⟨by rw [hy]; omega, hU, by rw [hy]; exact hb, by rw [hy]; exact ⟨j, q2, q3⟩, fun p w1 w2 => h3 p w1 (by rw [hy] at w2; omega)⟩⟩
    · have hy := g3 q
      have hU : U = 0 := by
        rcases Classical.em (U = 0) with z | z
        · exact z
        · obtain ⟨j, w1, w2⟩ := l_nz.mp z
          rcases (g1 j w1).mp w2 with w | w
          · rw [hT, l_0] at w; cases w
          · exact absurd ⟨j, w⟩ q
      refine Or.inl ⟨hU, by rw [hy, h2], fun p w1 w2 j w3 w4 => ?_⟩
      rcases Nat.lt_succ_iff_lt_or_eq.mp w2 with e | e
      · exact h3 p w1 e j w3 w4
      · subst e; exact q ⟨j, Nat.zero_le j, w3, w4⟩
  · exact absurd hT h1
theorem rn_e {Fx : Int32 → Nat → Prop} {mn : Int32} {T : Int64} {P : Int32} {k : Nat} (hk : T ≠ 0 ∨ 4 ≤ k) (h : rnK Fx mn T P k) : rnX Fx mn T P := by
  rcases h with ⟨h1, h2, h3⟩ | ⟨_, h⟩
  · rcases hk with hk | hk
    · exact absurd h1 hk
    · refine Or.inl ⟨h2, h1, fun j q => ⟨?_, ?_, ?_⟩⟩
      · exact h3 1 (by omega) (by omega) j q
      · exact h3 2 (by omega) (by omega) j q
      · exact h3 3 (by omega) (by omega) j q
  · exact h
/-- what was found: nothing, or a member -/
def fdF (dOt dNa dRe dMa dMy dPm : Nat → Int32) (dyn : pm_H) (v : Value) (o : Option Nat) : Prop := (o = none ∧ v = .null) ∨ ∃ j b : Nat, o = some b ∧ v = .ref (j + 50) ∧ mbF dOt dNa dRe dMa dMy dPm dyn j b
/-- a search, as the class runs it -/
def rsX (up ma my pm : Nat → Int32) (s : Int64) (t : Int32) (nq : Nat) (fq : Nat → Int32) (mn b f9 : Int32) (t9 : Int64) (p9 : Int32) (o9 : Option Nat) : Prop :=
  ((b.toInt ≠ 0 ∧ (nq = 0 ∨ ¬ xU up (fq 0) t)) ∧ f9 = 1 ∧ t9 = 0 ∧ p9 = 0 ∧ o9 = none)
  ∨ (¬ (b.toInt ≠ 0 ∧ (nq = 0 ∨ ¬ xU up (fq 0) t)) ∧ ((b.toInt ≠ 0 ∧ f9 = 1) ∨ (b.toInt = 0 ∧ f9 = 0)) ∧ rnX (fun ph x => bl s x = true ∧ fitX up ma my pm nq fq f9 x ph) mn t9 p9 ∧ ((∃ c : Nat, o9 = some c ∧ oneP (fun b => bl t9 b = true ∧ spX up my pm t9 mn ((nq : Int) - f9.toInt) p9 b 0) mn c) ∨ (o9 = none ∧ ¬ ∃ c : Nat, oneP (fun b => bl t9 b = true ∧ spX up my pm t9 mn ((nq : Int) - f9.toInt) p9 b 0) mn c)))
