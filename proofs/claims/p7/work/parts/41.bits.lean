/-! bits of an int and of a long (the first rows were pasted from the kit's laws) -/
def bt (x : Int32) (i : Nat) : Bool := x.toBitVec.getLsbD i
theorem b_or (x y : Int32) (i : Nat) : bt (x ||| y) i = (bt x i || bt y i) := by unfold bt; rw [Int32.toBitVec_or, BitVec.getLsbD_or]
theorem b_and (x y : Int32) (i : Nat) : bt (x &&& y) i = (bt x i && bt y i) := by unfold bt; rw [Int32.toBitVec_and, BitVec.getLsbD_and]
theorem b_big {x : Int32} {i : Nat} (h : 32 ≤ i) : bt x i = false := BitVec.getLsbD_of_ge _ _ h
theorem b_0 (i : Nat) : bt 0 i = false := BitVec.getLsbD_zero
theorem s_l : ∀ n, n < 32 → ((nI n &&& 31).toBitVec.smod 32).toNat = n := by decide +kernel
theorem b_shl (n : Nat) (hn : n < 32) (x : Int32) {i : Nat} (hi : i < 32) : bt (x <<< (nI n &&& 31)) i = (decide (n ≤ i) && bt x (i - n)) := by
  unfold bt
  rw [Int32.toBitVec_shiftLeft]
  show (x.toBitVec <<< ((nI n &&& 31).toBitVec.smod 32).toNat).getLsbD i = _
  rw [s_l n hn, BitVec.getLsbD_shiftLeft]
  rcases Nat.lt_or_ge i n with h | h
  · simp [h, Nat.not_le.mpr h]
  · simp [hi, h, Nat.not_lt.mpr h]
theorem b_sshr (n : Nat) (hn : n < 32) (x : Int32) {i : Nat} (hi : i < 32) : bt (x >>> (nI n &&& 31)) i = if n + i < 32 then bt x (n + i) else bt x 31 := by
  unfold bt
  rw [Int32.toBitVec_shiftRight]
  show (x.toBitVec.sshiftRight ((nI n &&& 31).toBitVec.smod 32).toNat).getLsbD i = _
  rw [s_l n hn, BitVec.getLsbD_sshiftRight, BitVec.msb_eq_getLsbD_last]
  simp [hi]
theorem b_one : ∀ i, i < 32 → bt 1 i = decide (i = 0) := by decide +kernel
theorem b_1 (n : Nat) (hn : n < 32) {i : Nat} (hi : i < 32) : bt (1 <<< (nI n &&& 31)) i = decide (i = n) := by
  rw [b_shl n hn 1 hi]
  rcases Nat.lt_trichotomy i n with h | h | h
  · rw [decide_eq_false (by omega), decide_eq_false (by omega)]; rfl
  · subst h; rw [b_one _ (by omega)]; simp
  · rw [b_one _ (by omega), decide_eq_true (by omega), decide_eq_false (by omega), decide_eq_false (by omega)]; rfl
theorem b_ne {x : Int32} {i : Nat} (h : bt x i = true) : x.toInt ≠ 0 := by
  intro q
  have e : x = 0 := Int32.toInt_inj.mp (q.trans (by decide))
  rw [e, b_0] at h
  cases h
theorem b_ext {x y : Int32} (h : ∀ i, i < 32 → bt x i = bt y i) : x = y := Int32.toBitVec_inj.mp (BitVec.eq_of_getLsbD_eq (fun i hi => h i hi))
/-- a number masked to its first bit -/
theorem b_a1 {x : Int32} : (x &&& 1).toInt ≠ 0 ↔ bt x 0 = true := by
  constructor
  · intro h
    cases e : bt x 0
    · exfalso
      apply h
      have e2 : x &&& 1 = 0 := b_ext (fun i hi => by
        rw [b_and, b_0, b_one i hi]
        by_cases q : i = 0
        · subst q; rw [e]; rfl
        · rw [decide_eq_false q, Bool.and_false])
      rw [e2]; decide
    · rfl
  · intro h
    refine b_ne (i := 0) ?_
    rw [b_and, h]; decide
/-- the n-th bit, as the class asks for it -/
theorem b_q {x b : Int32} (h0 : 0 ≤ b.toInt) (h1 : b.toInt ≤ 31) : ((x >>> (b &&& 31)) &&& 1).toInt ≠ 0 ↔ bt x b.toNatClampNeg = true := by
  have hb := xN h0
  have e : b = nI b.toNatClampNeg := xJ (by rw [nI_toInt (by omega), hb])
  rw [b_a1]
  conv => lhs; rw [e]
  rw [b_sshr _ (by omega) x (by omega), if_pos (by omega), Nat.add_zero]
/-! the same of a long -/
def bl (x : Int64) (i : Nat) : Bool := x.toBitVec.getLsbD i
theorem l_or (x y : Int64) (i : Nat) : bl (x ||| y) i = (bl x i || bl y i) := by unfold bl; rw [Int64.toBitVec_or, BitVec.getLsbD_or]
theorem l_and (x y : Int64) (i : Nat) : bl (x &&& y) i = (bl x i && bl y i) := by unfold bl; rw [Int64.toBitVec_and, BitVec.getLsbD_and]
theorem l_xor (x y : Int64) (i : Nat) : bl (x ^^^ y) i = (bl x i ^^ bl y i) := by unfold bl; rw [Int64.toBitVec_xor, BitVec.getLsbD_xor]
theorem l_0 (i : Nat) : bl 0 i = false := BitVec.getLsbD_zero
theorem l_m1 : ∀ i, i < 64 → bl (-1) i = true := by decide +kernel
theorem s_L : ∀ n, n < 64 → (((nI n).toInt64 &&& 63).toBitVec.smod 64).toNat = n := by decide +kernel
theorem l_ext {x y : Int64} (h : ∀ i, i < 64 → bl x i = bl y i) : x = y := Int64.toBitVec_inj.mp (BitVec.eq_of_getLsbD_eq (fun i hi => h i hi))
theorem l_shl (n : Nat) (hn : n < 64) (x : Int64) {i : Nat} (hi : i < 64) : bl (x <<< ((nI n).toInt64 &&& 63)) i = (decide (n ≤ i) && bl x (i - n)) := by
  unfold bl
  rw [Int64.toBitVec_shiftLeft]
  show (x.toBitVec <<< (((nI n).toInt64 &&& 63).toBitVec.smod 64).toNat).getLsbD i = _
  rw [s_L n hn, BitVec.getLsbD_shiftLeft]
  rcases Nat.lt_or_ge i n with h | h
  · simp [h, Nat.not_le.mpr h]
  · simp [hi, h, Nat.not_lt.mpr h]
theorem l_sshr (n : Nat) (hn : n < 64) (x : Int64) {i : Nat} (hi : i < 64) : bl (x >>> ((nI n).toInt64 &&& 63)) i = if n + i < 64 then bl x (n + i) else bl x 63 := by
  unfold bl
  rw [Int64.toBitVec_shiftRight]
  show (x.toBitVec.sshiftRight (((nI n).toInt64 &&& 63).toBitVec.smod 64).toNat).getLsbD i = _
  rw [s_L n hn, BitVec.getLsbD_sshiftRight, BitVec.msb_eq_getLsbD_last]
  simp [hi]
theorem l_one : ∀ i, i < 64 → bl 1 i = decide (i = 0) := by decide +kernel
theorem l_1 (n : Nat) (hn : n < 64) {i : Nat} (hi : i < 64) : bl (1 <<< ((nI n).toInt64 &&& 63)) i = decide (i = n) := by
  rw [l_shl n hn 1 hi]
  rcases Nat.lt_trichotomy i n with h | h | h
  · rw [decide_eq_false (by omega), decide_eq_false (by omega)]; rfl
  · subst h; rw [l_one _ (by omega)]; simp
  · rw [l_one _ (by omega), decide_eq_true (by omega), decide_eq_false (by omega), decide_eq_false (by omega)]; rfl
theorem l_nz {x : Int64} : x ≠ 0 ↔ ∃ i, i < 64 ∧ bl x i = true := by
  constructor
  · intro h
    rcases Classical.em (∃ i, i < 64 ∧ bl x i = true) with q | q
    · exact q
    · exfalso
      exact h (l_ext (fun i hi => by
        rw [l_0]
        cases e : bl x i
        · rfl
        · exact absurd ⟨i, hi, e⟩ q))
  · rintro ⟨i, _, h⟩ q
    rw [q, l_0] at h
    cases h
theorem l_a1 {x : Int64} : x &&& 1 ≠ 0 ↔ bl x 0 = true := by
  constructor
  · intro h
    obtain ⟨i, hi, e⟩ := l_nz.mp h
    rw [l_and, l_one i hi] at e
    by_cases q : i = 0
    · subst q; simpa using e
    · rw [decide_eq_false q, Bool.and_false] at e; cases e
  · intro h
    exact l_nz.mpr ⟨0, by omega, by rw [l_and, h]; decide⟩
/-- the n-th bit, as the class asks for it -/
theorem l_q {x : Int64} {n : Nat} (h : n < 64) : (x >>> ((nI n).toInt64 &&& 63)) &&& 1 ≠ 0 ↔ bl x n = true := by
  rw [l_a1, l_sshr n h x (by omega), if_pos (by omega), Nat.add_zero]
