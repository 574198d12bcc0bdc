/-! how many bits a long has -/
def usL (x : Int64) (n : Int32) : Int64 := ((x : Int64).toUInt64 >>> ((n : Int32).toInt64.toUInt64 &&& Int64.toUInt64 63)).toInt64
def bc1 (x : Int64) : Int64 := x - ((usL x 1) &&& 6148914691236517205)
def bc2 (x : Int64) : Int64 := (x &&& 3689348814741910323) + ((usL x 2) &&& 3689348814741910323)
def bc3 (x : Int64) : Int64 := (x + usL x 4) &&& 1085102592571150095
def bc4 (x : Int64) : Int64 := x + usL x 8
def bc5 (x : Int64) : Int64 := x + usL x 16
def bc6 (x : Int64) : Int64 := x + usL x 32
def bcX (x : Int64) : Int32 := (bc6 (bc5 (bc4 (bc3 (bc2 (bc1 x)))))).toInt32 &&& 127
def nL (x : Int64) : Nat := x.toBitVec.toNat
theorem nL_lt (x : Int64) : nL x < 18446744073709551616 := x.toBitVec.isLt
theorem us_n {x : Int64} {n : Int32} (k : Nat) (e : ((n.toInt64.toUInt64 &&& Int64.toUInt64 63).toBitVec % 64#64).toNat = k) : nL (usL x n) = nL x / 2 ^ k := by
  unfold nL usL
  rw [UInt64.toBitVec_toInt64, UInt64.toBitVec_shiftRight, BitVec.ushiftRight_eq', BitVec.toNat_ushiftRight, Nat.shiftRight_eq_div_pow]
  show x.toBitVec.toNat / 2 ^ (((n.toInt64.toUInt64 &&& Int64.toUInt64 63).toBitVec % 64#64).toNat) = _
  rw [e]
theorem nl_and (x y : Int64) : nL (x &&& y) = nL x &&& nL y := by unfold nL; rw [Int64.toBitVec_and, BitVec.toNat_and]
theorem nl_add (x y : Int64) : nL (x + y) = (nL x + nL y) % 18446744073709551616 := by unfold nL; rw [Int64.toBitVec_add, BitVec.toNat_add]
theorem nl_sub {x y : Int64} (h : nL y ≤ nL x) : nL (x - y) = nL x - nL y := by
  have h1 := nL_lt x
  have h2 := nL_lt y
  unfold nL at h h1 h2 ⊢
  rw [Int64.toBitVec_sub, BitVec.toNat_sub]
  omega
/-- eight bytes -/
def octB (a0 a1 a2 a3 a4 a5 a6 a7 : Nat) : Nat := a0 + a1 * 256 + a2 * 65536 + a3 * 16777216 + a4 * 4294967296 + a5 * 1099511627776 + a6 * 281474976710656 + a7 * 72057594037927936
theorem oct_of (n : Nat) (h : n < 18446744073709551616) : ∃ a0 a1 a2 a3 a4 a5 a6 a7 : Nat, n = octB a0 a1 a2 a3 a4 a5 a6 a7 ∧ a0 < 256 ∧ a1 < 256 ∧ a2 < 256 ∧ a3 < 256 ∧ a4 < 256 ∧ a5 < 256 ∧ a6 < 256 ∧ a7 < 256 := by
  refine ⟨n / 1 % 256, n / 256 % 256, n / 65536 % 256, n / 16777216 % 256, n / 4294967296 % 256, n / 1099511627776 % 256, n / 281474976710656 % 256, n / 72057594037927936 % 256, ?_, by omega, by omega, by omega, by omega, by omega, by omega, by omega, by omega⟩
  unfold octB
  omega
theorem ln_and {a b M N : Nat} (ha : a < 256) (hM : M < 256) : (b * 256 + a) &&& (N * 256 + M) = (b &&& N) * 256 + (a &&& M) := by
  apply Nat.eq_of_testBit_eq
  intro i
  have e : (256 : Nat) = 2 ^ 8 := rfl
  have hAM : a &&& M < 2 ^ 8 := Nat.and_lt_two_pow a hM
  rw [Nat.testBit_and, Nat.mul_comm b, Nat.mul_comm N, Nat.mul_comm (b &&& N), e, Nat.testBit_two_pow_mul_add b ha, Nat.testBit_two_pow_mul_add N hM, Nat.testBit_two_pow_mul_add (b &&& N) hAM]
  by_cases q : i < 8
  · rw [if_pos q, if_pos q, if_pos q, Nat.testBit_and]
  · rw [if_neg q, if_neg q, if_neg q, Nat.testBit_and]
def ochB (a0 a1 a2 a3 a4 a5 a6 a7 : Nat) : Nat := ((((((a7 * 256 + a6) * 256 + a5) * 256 + a4) * 256 + a3) * 256 + a2) * 256 + a1) * 256 + a0
theorem och_e (a0 a1 a2 a3 a4 a5 a6 a7 : Nat) : octB a0 a1 a2 a3 a4 a5 a6 a7 = ochB a0 a1 a2 a3 a4 a5 a6 a7 := by unfold octB ochB; omega
theorem oc_and {a0 a1 a2 a3 a4 a5 a6 a7 M : Nat} (hM : M < 256) (h0 : a0 < 256) (h1 : a1 < 256) (h2 : a2 < 256) (h3 : a3 < 256) (h4 : a4 < 256) (h5 : a5 < 256) (h6 : a6 < 256) (h7 : a7 < 256) : octB a0 a1 a2 a3 a4 a5 a6 a7 &&& octB M M M M M M M M = octB (a0 &&& M) (a1 &&& M) (a2 &&& M) (a3 &&& M) (a4 &&& M) (a5 &&& M) (a6 &&& M) (a7 &&& M) := by
  rw [och_e, och_e, och_e]
  unfold ochB
  rw [ln_and h0 hM, ln_and h1 hM, ln_and h2 hM, ln_and h3 hM, ln_and h4 hM, ln_and h5 hM, ln_and h6 hM]
theorem sh_1 : ∀ a, a < 256 → ∀ c, c < 2 → (a / 2 + 128 * c) &&& 85 = (a / 2) &&& 85 := by decide +kernel
theorem sh_2 : ∀ a, a < 256 → ∀ c, c < 4 → (a / 4 + 64 * c) &&& 51 = (a / 4) &&& 51 := by decide +kernel
theorem f_1 : ∀ a, a < 256 → (a / 2 &&& 85) ≤ a ∧ a - (a / 2 &&& 85) < 256 := by decide +kernel
def pq1 (a : Nat) : Nat := a - (a / 2 &&& 85)
def pq2 (a : Nat) : Nat := (a &&& 51) + (a / 4 &&& 51)
def pq3 (a : Nat) : Nat := (a + a / 16) &&& 15
def pqc (a : Nat) : Nat := pq3 (pq2 (pq1 a))
theorem f_2 : ∀ a, a < 256 → pq2 a < 256 ∧ pq2 (pq1 a) / 16 ≤ 4 ∧ pq2 (pq1 a) % 16 ≤ 4 := by decide +kernel
theorem f_3 : ∀ a, a < 256 → a / 16 ≤ 4 → a % 16 ≤ 4 → ∀ c, c < 5 → (a + (a / 16 + 16 * c)) < 256 ∧ ((a + (a / 16 + 16 * c)) &&& 15) = pq3 a := by decide +kernel
theorem f_4 : ∀ a, a < 256 → pqc a ≤ 8 ∧ (pqc a = 0 ↔ a = 0) ∧ (pqc a = 1 ↔ ∃ i, i < 8 ∧ a = 2 ^ i) := by decide +kernel
theorem b_1x {x : Int64} {a0 a1 a2 a3 a4 a5 a6 a7 : Nat} (e : nL x = octB a0 a1 a2 a3 a4 a5 a6 a7) (h0 : a0 < 256) (h1 : a1 < 256) (h2 : a2 < 256) (h3 : a3 < 256) (h4 : a4 < 256) (h5 : a5 < 256) (h6 : a6 < 256) (h7 : a7 < 256) : nL (bc1 x) = octB (pq1 a0) (pq1 a1) (pq1 a2) (pq1 a3) (pq1 a4) (pq1 a5) (pq1 a6) (pq1 a7) := by
  have hs : nL (usL x 1) = nL x / 2 ^ 1 := us_n 1 (by decide +kernel)
  have e2 : octB a0 a1 a2 a3 a4 a5 a6 a7 / 2 ^ 1 = octB (a0 / 2 + 128 * (a1 % 2)) (a1 / 2 + 128 * (a2 % 2)) (a2 / 2 + 128 * (a3 % 2)) (a3 / 2 + 128 * (a4 % 2)) (a4 / 2 + 128 * (a5 % 2)) (a5 / 2 + 128 * (a6 % 2)) (a6 / 2 + 128 * (a7 % 2)) (a7 / 2 + 128 * (0 % 2)) := by unfold octB; omega
  have e3 : nL (6148914691236517205 : Int64) = octB 85 85 85 85 85 85 85 85 := by decide +kernel
  have e4 : nL (usL x 1 &&& 6148914691236517205) = octB (a0 / 2 &&& 85) (a1 / 2 &&& 85) (a2 / 2 &&& 85) (a3 / 2 &&& 85) (a4 / 2 &&& 85) (a5 / 2 &&& 85) (a6 / 2 &&& 85) (a7 / 2 &&& 85) := by
    rw [nl_and, hs, e, e2, e3, oc_and (by decide) (by omega) (by omega) (by omega) (by omega) (by omega) (by omega) (by omega) (by omega)]
    rw [sh_1 a0 h0 _ (by omega), sh_1 a1 h1 _ (by omega), sh_1 a2 h2 _ (by omega), sh_1 a3 h3 _ (by omega), sh_1 a4 h4 _ (by omega), sh_1 a5 h5 _ (by omega), sh_1 a6 h6 _ (by omega), sh_1 a7 h7 _ (by omega)]
  have g0 := f_1 a0 h0
  have g1 := f_1 a1 h1
  have g2 := f_1 a2 h2
  have g3 := f_1 a3 h3
  have g4 := f_1 a4 h4
  have g5 := f_1 a5 h5
  have g6 := f_1 a6 h6
  have g7 := f_1 a7 h7
  unfold bc1
  rw [nl_sub (by rw [e4, e]; unfold octB; omega), e4, e]
  unfold octB pq1
  omega
theorem b_2x {x : Int64} {a0 a1 a2 a3 a4 a5 a6 a7 : Nat} (e : nL x = octB a0 a1 a2 a3 a4 a5 a6 a7) (h0 : a0 < 256) (h1 : a1 < 256) (h2 : a2 < 256) (h3 : a3 < 256) (h4 : a4 < 256) (h5 : a5 < 256) (h6 : a6 < 256) (h7 : a7 < 256) (g0 : pq2 a0 < 256) (g1 : pq2 a1 < 256) (g2 : pq2 a2 < 256) (g3 : pq2 a3 < 256) (g4 : pq2 a4 < 256) (g5 : pq2 a5 < 256) (g6 : pq2 a6 < 256) (g7 : pq2 a7 < 256) : nL (bc2 x) = octB (pq2 a0) (pq2 a1) (pq2 a2) (pq2 a3) (pq2 a4) (pq2 a5) (pq2 a6) (pq2 a7) := by
  have hs : nL (usL x 2) = nL x / 2 ^ 2 := us_n 2 (by decide +kernel)
  have e2 : octB a0 a1 a2 a3 a4 a5 a6 a7 / 2 ^ 2 = octB (a0 / 4 + 64 * (a1 % 4)) (a1 / 4 + 64 * (a2 % 4)) (a2 / 4 + 64 * (a3 % 4)) (a3 / 4 + 64 * (a4 % 4)) (a4 / 4 + 64 * (a5 % 4)) (a5 / 4 + 64 * (a6 % 4)) (a6 / 4 + 64 * (a7 % 4)) (a7 / 4 + 64 * (0 % 4)) := by unfold octB; omega
  have e3 : nL (3689348814741910323 : Int64) = octB 51 51 51 51 51 51 51 51 := by decide +kernel
  have e4 : nL (usL x 2 &&& 3689348814741910323) = octB (a0 / 4 &&& 51) (a1 / 4 &&& 51) (a2 / 4 &&& 51) (a3 / 4 &&& 51) (a4 / 4 &&& 51) (a5 / 4 &&& 51) (a6 / 4 &&& 51) (a7 / 4 &&& 51) := by
    rw [nl_and, hs, e, e2, e3, oc_and (by decide) (by omega) (by omega) (by omega) (by omega) (by omega) (by omega) (by omega) (by omega)]
    rw [sh_2 a0 h0 _ (by omega), sh_2 a1 h1 _ (by omega), sh_2 a2 h2 _ (by omega), sh_2 a3 h3 _ (by omega), sh_2 a4 h4 _ (by omega), sh_2 a5 h5 _ (by omega), sh_2 a6 h6 _ (by omega), sh_2 a7 h7 _ (by omega)]
  have e5 : nL (x &&& 3689348814741910323) = octB (a0 &&& 51) (a1 &&& 51) (a2 &&& 51) (a3 &&& 51) (a4 &&& 51) (a5 &&& 51) (a6 &&& 51) (a7 &&& 51) := by rw [nl_and, e, e3, oc_and (by decide) h0 h1 h2 h3 h4 h5 h6 h7]
  unfold bc2
  rw [nl_add, e4, e5]
  unfold pq2 at *
  unfold octB
  omega
theorem b_3x {x : Int64} {a0 a1 a2 a3 a4 a5 a6 a7 : Nat} (e : nL x = octB a0 a1 a2 a3 a4 a5 a6 a7) (h0 : a0 < 256) (h1 : a1 < 256) (h2 : a2 < 256) (h3 : a3 < 256) (h4 : a4 < 256) (h5 : a5 < 256) (h6 : a6 < 256) (h7 : a7 < 256) (g0 : a0 / 16 ≤ 4 ∧ a0 % 16 ≤ 4) (g1 : a1 / 16 ≤ 4 ∧ a1 % 16 ≤ 4) (g2 : a2 / 16 ≤ 4 ∧ a2 % 16 ≤ 4) (g3 : a3 / 16 ≤ 4 ∧ a3 % 16 ≤ 4) (g4 : a4 / 16 ≤ 4 ∧ a4 % 16 ≤ 4) (g5 : a5 / 16 ≤ 4 ∧ a5 % 16 ≤ 4) (g6 : a6 / 16 ≤ 4 ∧ a6 % 16 ≤ 4) (g7 : a7 / 16 ≤ 4 ∧ a7 % 16 ≤ 4) : nL (bc3 x) = octB (pq3 a0) (pq3 a1) (pq3 a2) (pq3 a3) (pq3 a4) (pq3 a5) (pq3 a6) (pq3 a7) := by
  have hs : nL (usL x 4) = nL x / 2 ^ 4 := us_n 4 (by decide +kernel)
  have e2 : octB a0 a1 a2 a3 a4 a5 a6 a7 / 2 ^ 4 = octB (a0 / 16 + 16 * (a1 % 16)) (a1 / 16 + 16 * (a2 % 16)) (a2 / 16 + 16 * (a3 % 16)) (a3 / 16 + 16 * (a4 % 16)) (a4 / 16 + 16 * (a5 % 16)) (a5 / 16 + 16 * (a6 % 16)) (a6 / 16 + 16 * (a7 % 16)) (a7 / 16 + 16 * (0 % 16)) := by unfold octB; omega
  have e3 : nL (1085102592571150095 : Int64) = octB 15 15 15 15 15 15 15 15 := by decide +kernel
  have k0 := f_3 a0 h0 g0.1 g0.2 (a1 % 16) (by omega)
  have k1 := f_3 a1 h1 g1.1 g1.2 (a2 % 16) (by omega)
  have k2 := f_3 a2 h2 g2.1 g2.2 (a3 % 16) (by omega)
  have k3 := f_3 a3 h3 g3.1 g3.2 (a4 % 16) (by omega)
  have k4 := f_3 a4 h4 g4.1 g4.2 (a5 % 16) (by omega)
  have k5 := f_3 a5 h5 g5.1 g5.2 (a6 % 16) (by omega)
  have k6 := f_3 a6 h6 g6.1 g6.2 (a7 % 16) (by omega)
  have k7 := f_3 a7 h7 g7.1 g7.2 (0 % 16) (by omega)
  have e4 : nL (x + usL x 4) = octB (a0 + (a0 / 16 + 16 * (a1 % 16))) (a1 + (a1 / 16 + 16 * (a2 % 16))) (a2 + (a2 / 16 + 16 * (a3 % 16))) (a3 + (a3 / 16 + 16 * (a4 % 16))) (a4 + (a4 / 16 + 16 * (a5 % 16))) (a5 + (a5 / 16 + 16 * (a6 % 16))) (a6 + (a6 / 16 + 16 * (a7 % 16))) (a7 + (a7 / 16 + 16 * (0 % 16))) := by
    rw [nl_add, hs, e, e2]
    unfold octB
    omega
  unfold bc3
  rw [nl_and, e4, e3, oc_and (by decide) (by omega) (by omega) (by omega) (by omega) (by omega) (by omega) (by omega) (by omega)]
  rw [k0.2, k1.2, k2.2, k3.2, k4.2, k5.2, k6.2, k7.2]
theorem oc_d8 {a0 a1 a2 a3 a4 a5 a6 a7 : Nat} (h0 : a0 < 256) : octB a0 a1 a2 a3 a4 a5 a6 a7 / 256 = octB a1 a2 a3 a4 a5 a6 a7 0 := by unfold octB; omega
theorem oc_d16 {a0 a1 a2 a3 a4 a5 a6 a7 : Nat} (h0 : a0 < 256) (h1 : a1 < 256) : octB a0 a1 a2 a3 a4 a5 a6 a7 / 65536 = octB a2 a3 a4 a5 a6 a7 0 0 := by unfold octB; omega
theorem oc_d32 {a0 a1 a2 a3 a4 a5 a6 a7 : Nat} (h0 : a0 < 256) (h1 : a1 < 256) (h2 : a2 < 256) (h3 : a3 < 256) : octB a0 a1 a2 a3 a4 a5 a6 a7 / 4294967296 = octB a4 a5 a6 a7 0 0 0 0 := by unfold octB; omega
theorem oc_ad {a0 a1 a2 a3 a4 a5 a6 a7 b0 b1 b2 b3 b4 b5 b6 b7 : Nat} (h0 : a0 + b0 < 256) (h1 : a1 + b1 < 256) (h2 : a2 + b2 < 256) (h3 : a3 + b3 < 256) (h4 : a4 + b4 < 256) (h5 : a5 + b5 < 256) (h6 : a6 + b6 < 256) (h7 : a7 + b7 < 256) : (octB a0 a1 a2 a3 a4 a5 a6 a7 + octB b0 b1 b2 b3 b4 b5 b6 b7) % 18446744073709551616 = octB (a0 + b0) (a1 + b1) (a2 + b2) (a3 + b3) (a4 + b4) (a5 + b5) (a6 + b6) (a7 + b7) := by
  have e : octB a0 a1 a2 a3 a4 a5 a6 a7 + octB b0 b1 b2 b3 b4 b5 b6 b7 = octB (a0 + b0) (a1 + b1) (a2 + b2) (a3 + b3) (a4 + b4) (a5 + b5) (a6 + b6) (a7 + b7) := by unfold octB; omega
  rw [e]
  apply Nat.mod_eq_of_lt
  unfold octB
  omega
theorem b_4x {x : Int64} {a0 a1 a2 a3 a4 a5 a6 a7 : Nat} (e : nL x = octB a0 a1 a2 a3 a4 a5 a6 a7) (h0 : a0 ≤ 8) (h1 : a1 ≤ 8) (h2 : a2 ≤ 8) (h3 : a3 ≤ 8) (h4 : a4 ≤ 8) (h5 : a5 ≤ 8) (h6 : a6 ≤ 8) (h7 : a7 ≤ 8) : nL (bc6 (bc5 (bc4 x))) % 256 = a0 + a1 + a2 + a3 + a4 + a5 + a6 + a7 := by
  have hs : ∀ y, nL (usL y 8) = nL y / 2 ^ 8 := fun y => us_n 8 (by decide +kernel)
  have ht : ∀ y, nL (usL y 16) = nL y / 2 ^ 16 := fun y => us_n 16 (by decide +kernel)
  have hu : ∀ y, nL (usL y 32) = nL y / 2 ^ 32 := fun y => us_n 32 (by decide +kernel)
  have e1 : nL (bc4 x) = octB (a0 + a1) (a1 + a2) (a2 + a3) (a3 + a4) (a4 + a5) (a5 + a6) (a6 + a7) a7 := by unfold bc4; rw [nl_add, hs, e, show (2:Nat)^8 = 256 from rfl, oc_d8 (by omega)]; exact oc_ad (by omega) (by omega) (by omega) (by omega) (by omega) (by omega) (by omega) (by omega)
  have e2 : nL (bc5 (bc4 x)) = octB (a0 + a1 + a2 + a3) (a1 + a2 + a3 + a4) (a2 + a3 + a4 + a5) (a3 + a4 + a5 + a6) (a4 + a5 + a6 + a7) (a5 + a6 + a7) (a6 + a7) (a7) := by unfold bc5; rw [nl_add, ht, e1, show (2:Nat)^16 = 65536 from rfl, oc_d16 (by omega) (by omega)]; exact (oc_ad (by omega) (by omega) (by omega) (by omega) (by omega) (by omega) (by omega) (by omega)).trans (by unfold octB; omega)
  have e3 : nL (bc6 (bc5 (bc4 x))) = octB (a0 + a1 + a2 + a3 + a4 + a5 + a6 + a7) (a1 + a2 + a3 + a4 + a5 + a6 + a7) (a2 + a3 + a4 + a5 + a6 + a7) (a3 + a4 + a5 + a6 + a7) (a4 + a5 + a6 + a7) (a5 + a6 + a7) (a6 + a7) (a7) := by unfold bc6; rw [nl_add, hu, e2, show (2:Nat)^32 = 4294967296 from rfl, oc_d32 (by omega) (by omega) (by omega) (by omega)]; exact (oc_ad (by omega) (by omega) (by omega) (by omega) (by omega) (by omega) (by omega) (by omega)).trans (by unfold octB; omega)
  rw [e3]
  unfold octB
  omega
theorem bc_n {x : Int64} {a0 a1 a2 a3 a4 a5 a6 a7 : Nat} (e : nL x = octB a0 a1 a2 a3 a4 a5 a6 a7) (h0 : a0 < 256) (h1 : a1 < 256) (h2 : a2 < 256) (h3 : a3 < 256) (h4 : a4 < 256) (h5 : a5 < 256) (h6 : a6 < 256) (h7 : a7 < 256) : (bcX x).toInt = (pqc a0 : Int) + (pqc a1 : Int) + (pqc a2 : Int) + (pqc a3 : Int) + (pqc a4 : Int) + (pqc a5 : Int) + (pqc a6 : Int) + (pqc a7 : Int) := by
  have g0 := f_1 a0 h0
  have k0 : pq1 a0 < 256 := g0.2
  have m0 := f_2 (pq1 a0) k0
  have w0 := f_2 a0 h0
  have z0 := (f_4 a0 h0).1
  have g1 := f_1 a1 h1
  have k1 : pq1 a1 < 256 := g1.2
  have m1 := f_2 (pq1 a1) k1
  have w1 := f_2 a1 h1
  have z1 := (f_4 a1 h1).1
  have g2 := f_1 a2 h2
  have k2 : pq1 a2 < 256 := g2.2
  have m2 := f_2 (pq1 a2) k2
  have w2 := f_2 a2 h2
  have z2 := (f_4 a2 h2).1
  have g3 := f_1 a3 h3
  have k3 : pq1 a3 < 256 := g3.2
  have m3 := f_2 (pq1 a3) k3
  have w3 := f_2 a3 h3
  have z3 := (f_4 a3 h3).1
  have g4 := f_1 a4 h4
  have k4 : pq1 a4 < 256 := g4.2
  have m4 := f_2 (pq1 a4) k4
  have w4 := f_2 a4 h4
  have z4 := (f_4 a4 h4).1
  have g5 := f_1 a5 h5
  have k5 : pq1 a5 < 256 := g5.2
  have m5 := f_2 (pq1 a5) k5
  have w5 := f_2 a5 h5
  have z5 := (f_4 a5 h5).1
  have g6 := f_1 a6 h6
  have k6 : pq1 a6 < 256 := g6.2
  have m6 := f_2 (pq1 a6) k6
  have w6 := f_2 a6 h6
  have z6 := (f_4 a6 h6).1
  have g7 := f_1 a7 h7
  have k7 : pq1 a7 < 256 := g7.2
  have m7 := f_2 (pq1 a7) k7
  have w7 := f_2 a7 h7
  have z7 := (f_4 a7 h7).1
  have q1 := b_1x e h0 h1 h2 h3 h4 h5 h6 h7
  have q2 := b_2x q1 k0 k1 k2 k3 k4 k5 k6 k7 m0.1 m1.1 m2.1 m3.1 m4.1 m5.1 m6.1 m7.1
  have q3 := b_3x q2 m0.1 m1.1 m2.1 m3.1 m4.1 m5.1 m6.1 m7.1 w0.2 w1.2 w2.2 w3.2 w4.2 w5.2 w6.2 w7.2
  have q4 := b_4x q3 z0 z1 z2 z3 z4 z5 z6 z7
  have q5 : (bcX x).toBitVec.toNat = nL (bc6 (bc5 (bc4 (bc3 (bc2 (bc1 x)))))) % 128 := by
    unfold bcX nL
    rw [Int32.toBitVec_and, BitVec.toNat_and]
    have e7 : (127 : Int32).toBitVec.toNat = 2 ^ 7 - 1 := by decide
    rw [e7, Nat.and_two_pow_sub_one_eq_mod, Int64.toBitVec_toInt32, BitVec.signExtend_eq_setWidth_of_le _ (by decide), BitVec.toNat_setWidth]
    omega
  have q6 : nL (bc6 (bc5 (bc4 (bc3 (bc2 (bc1 x)))))) % 128 = pqc a0 + pqc a1 + pqc a2 + pqc a3 + pqc a4 + pqc a5 + pqc a6 + pqc a7 := by
    have q4 : _ % 256 = pqc a0 + pqc a1 + pqc a2 + pqc a3 + pqc a4 + pqc a5 + pqc a6 + pqc a7 := q4
    omega
  rw [q6] at q5
  have q7 : (bcX x).toInt = (bcX x).toBitVec.toInt := rfl
  rw [q7, BitVec.toInt_eq_toNat_cond, q5, if_pos (by omega)]
  omega
theorem bl_n {x : Int64} {i : Nat} : bl x i = (nL x).testBit i := rfl
theorem bc_0 {x : Int64} : (bcX x).toInt = 0 ↔ x = 0 := by
  obtain ⟨a0, a1, a2, a3, a4, a5, a6, a7, e, h0, h1, h2, h3, h4, h5, h6, h7⟩ := oct_of (nL x) (nL_lt x)
  rw [bc_n e h0 h1 h2 h3 h4 h5 h6 h7]
  have f0 := And.intro (f_4 a0 h0).1 (f_4 a0 h0).2.1
  have f1 := And.intro (f_4 a1 h1).1 (f_4 a1 h1).2.1
  have f2 := And.intro (f_4 a2 h2).1 (f_4 a2 h2).2.1
  have f3 := And.intro (f_4 a3 h3).1 (f_4 a3 h3).2.1
  have f4 := And.intro (f_4 a4 h4).1 (f_4 a4 h4).2.1
  have f5 := And.intro (f_4 a5 h5).1 (f_4 a5 h5).2.1
  have f6 := And.intro (f_4 a6 h6).1 (f_4 a6 h6).2.1
  have f7 := And.intro (f_4 a7 h7).1 (f_4 a7 h7).2.1
  have z : nL x = 0 ↔ x = 0 := by
    constructor
    · intro q
      apply l_ext
      intro i _
      rw [bl_n, q, l_0, Nat.zero_testBit]
    · intro q
      rw [q]
      decide +kernel
  rw [← z, e]
  unfold octB
  omega
theorem oc_1 {a0 a1 a2 a3 a4 a5 a6 a7 : Nat} (h0 : a0 < 256) (h1 : a1 < 256) (h2 : a2 < 256) (h3 : a3 < 256) (h4 : a4 < 256) (h5 : a5 < 256) (h6 : a6 < 256) (h7 : a7 < 256) : pqc a0 + pqc a1 + pqc a2 + pqc a3 + pqc a4 + pqc a5 + pqc a6 + pqc a7 = 1 ↔ ∃ j, j < 64 ∧ octB a0 a1 a2 a3 a4 a5 a6 a7 = 2 ^ j := by
  have f0 := And.intro (f_4 a0 h0).1 (f_4 a0 h0).2.1
  have f1 := And.intro (f_4 a1 h1).1 (f_4 a1 h1).2.1
  have f2 := And.intro (f_4 a2 h2).1 (f_4 a2 h2).2.1
  have f3 := And.intro (f_4 a3 h3).1 (f_4 a3 h3).2.1
  have f4 := And.intro (f_4 a4 h4).1 (f_4 a4 h4).2.1
  have f5 := And.intro (f_4 a5 h5).1 (f_4 a5 h5).2.1
  have f6 := And.intro (f_4 a6 h6).1 (f_4 a6 h6).2.1
  have f7 := And.intro (f_4 a7 h7).1 (f_4 a7 h7).2.1
  constructor
  · intro q
    by_cases q0 : pqc a0 = 1
    · obtain ⟨i, hi, ei⟩ := (f_4 a0 h0).2.2.mp q0
      have r1 : a1 = 0 := f1.2.mp (by omega)
      have r2 : a2 = 0 := f2.2.mp (by omega)
      have r3 : a3 = 0 := f3.2.mp (by omega)
      have r4 : a4 = 0 := f4.2.mp (by omega)
      have r5 : a5 = 0 := f5.2.mp (by omega)
      have r6 : a6 = 0 := f6.2.mp (by omega)
      have r7 : a7 = 0 := f7.2.mp (by omega)
      refine ⟨0 + i, by omega, ?_⟩
      rw [Nat.pow_add, ← ei, r1, r2, r3, r4, r5, r6, r7]
      unfold octB
      omega
    have s0 : pqc a0 = 0 := by omega
    by_cases q1 : pqc a1 = 1
    · obtain ⟨i, hi, ei⟩ := (f_4 a1 h1).2.2.mp q1
      have r0 : a0 = 0 := f0.2.mp (by omega)
      have r2 : a2 = 0 := f2.2.mp (by omega)
      have r3 : a3 = 0 := f3.2.mp (by omega)
      have r4 : a4 = 0 := f4.2.mp (by omega)
      have r5 : a5 = 0 := f5.2.mp (by omega)
      have r6 : a6 = 0 := f6.2.mp (by omega)
      have r7 : a7 = 0 := f7.2.mp (by omega)
      refine ⟨8 + i, by omega, ?_⟩
      rw [Nat.pow_add, ← ei, r0, r2, r3, r4, r5, r6, r7]
      unfold octB
      omega
    have s1 : pqc a1 = 0 := by omega
    by_cases q2 : pqc a2 = 1
    · obtain ⟨i, hi, ei⟩ := (f_4 a2 h2).2.2.mp q2
      have r0 : a0 = 0 := f0.2.mp (by omega)
      have r1 : a1 = 0 := f1.2.mp (by omega)
      have r3 : a3 = 0 := f3.2.mp (by omega)
      have r4 : a4 = 0 := f4.2.mp (by omega)
      have r5 : a5 = 0 := f5.2.mp (by omega)
      have r6 : a6 = 0 := f6.2.mp (by omega)
      have r7 : a7 = 0 := f7.2.mp (by omega)
      refine ⟨16 + i, by omega, ?_⟩
      rw [Nat.pow_add, ← ei, r0, r1, r3, r4, r5, r6, r7]
      unfold octB
      omega
    have s2 : pqc a2 = 0 := by omega
    by_cases q3 : pqc a3 = 1
    · obtain ⟨i, hi, ei⟩ := (f_4 a3 h3).2.2.mp q3
      have r0 : a0 = 0 := f0.2.mp (by omega)
      have r1 : a1 = 0 := f1.2.mp (by omega)
      have r2 : a2 = 0 := f2.2.mp (by omega)
      have r4 : a4 = 0 := f4.2.mp (by omega)
      have r5 : a5 = 0 := f5.2.mp (by omega)
      have r6 : a6 = 0 := f6.2.mp (by omega)
      have r7 : a7 = 0 := f7.2.mp (by omega)
      refine ⟨24 + i, by omega, ?_⟩
      rw [Nat.pow_add, ← ei, r0, r1, r2, r4, r5, r6, r7]
      unfold octB
      omega
    have s3 : pqc a3 = 0 := by omega
    by_cases q4 : pqc a4 = 1
    · obtain ⟨i, hi, ei⟩ := (f_4 a4 h4).2.2.mp q4
      have r0 : a0 = 0 := f0.2.mp (by omega)
      have r1 : a1 = 0 := f1.2.mp (by omega)
      have r2 : a2 = 0 := f2.2.mp (by omega)
      have r3 : a3 = 0 := f3.2.mp (by omega)
      have r5 : a5 = 0 := f5.2.mp (by omega)
      have r6 : a6 = 0 := f6.2.mp (by omega)
      have r7 : a7 = 0 := f7.2.mp (by omega)
      refine ⟨32 + i, by omega, ?_⟩
      rw [Nat.pow_add, ← ei, r0, r1, r2, r3, r5, r6, r7]
      unfold octB
      omega
    have s4 : pqc a4 = 0 := by omega
    by_cases q5 : pqc a5 = 1
    · obtain ⟨i, hi, ei⟩ := (f_4 a5 h5).2.2.mp q5
      have r0 : a0 = 0 := f0.2.mp (by omega)
      have r1 : a1 = 0 := f1.2.mp (by omega)
      have r2 : a2 = 0 := f2.2.mp (by omega)
      have r3 : a3 = 0 := f3.2.mp (by omega)
      have r4 : a4 = 0 := f4.2.mp (by omega)
      have r6 : a6 = 0 := f6.2.mp (by omega)
      have r7 : a7 = 0 := f7.2.mp (by omega)
      refine ⟨40 + i, by omega, ?_⟩
      rw [Nat.pow_add, ← ei, r0, r1, r2, r3, r4, r6, r7]
      unfold octB
      omega
    have s5 : pqc a5 = 0 := by omega
    by_cases q6 : pqc a6 = 1
    · obtain ⟨i, hi, ei⟩ := (f_4 a6 h6).2.2.mp q6
      have r0 : a0 = 0 := f0.2.mp (by omega)
      have r1 : a1 = 0 := f1.2.mp (by omega)
      have r2 : a2 = 0 := f2.2.mp (by omega)
      have r3 : a3 = 0 := f3.2.mp (by omega)
      have r4 : a4 = 0 := f4.2.mp (by omega)
      have r5 : a5 = 0 := f5.2.mp (by omega)
      have r7 : a7 = 0 := f7.2.mp (by omega)
      refine ⟨48 + i, by omega, ?_⟩
      rw [Nat.pow_add, ← ei, r0, r1, r2, r3, r4, r5, r7]
      unfold octB
      omega
    have s6 : pqc a6 = 0 := by omega
    by_cases q7 : pqc a7 = 1
    · obtain ⟨i, hi, ei⟩ := (f_4 a7 h7).2.2.mp q7
      have r0 : a0 = 0 := f0.2.mp (by omega)
      have r1 : a1 = 0 := f1.2.mp (by omega)
      have r2 : a2 = 0 := f2.2.mp (by omega)
      have r3 : a3 = 0 := f3.2.mp (by omega)
      have r4 : a4 = 0 := f4.2.mp (by omega)
      have r5 : a5 = 0 := f5.2.mp (by omega)
      have r6 : a6 = 0 := f6.2.mp (by omega)
      refine ⟨56 + i, by omega, ?_⟩
      rw [Nat.pow_add, ← ei, r0, r1, r2, r3, r4, r5, r6]
      unfold octB
      omega
    have s7 : pqc a7 = 0 := by omega
    exfalso; omega
  · rintro ⟨j, hj, q⟩
    have hd : j = 8 * (j / 8) + j % 8 := by omega
    have hr : j % 8 < 8 := by omega
    have hp : (2 : Nat) ^ j = 256 ^ (j / 8) * 2 ^ (j % 8) := by
      have e8 : (256 : Nat) = 2 ^ 8 := rfl
      rw [e8, ← Nat.pow_mul, ← Nat.pow_add, ← hd]
    have hb : 2 ^ (j % 8) < 256 := Nat.pow_lt_pow_right (by decide) hr
    have hk : j / 8 < 8 := by omega
    have hb1 : pqc (2 ^ (j % 8)) = 1 := (f_4 _ hb).2.2.mpr ⟨j % 8, hr, rfl⟩
    have pz : pqc 0 = 0 := by decide
    rw [hp] at q
    generalize 2 ^ (j % 8) = b at *
    have hk2 : j / 8 = 0 ∨ j / 8 = 1 ∨ j / 8 = 2 ∨ j / 8 = 3 ∨ j / 8 = 4 ∨ j / 8 = 5 ∨ j / 8 = 6 ∨ j / 8 = 7 := by omega
    clear hd hr hp hk hj
    generalize j / 8 = k at *
    unfold octB at q
    rcases hk2 with z | z | z | z | z | z | z | z <;> subst z
    · have e0 : a0 = b := by omega
      rw [e0]; omega
    · have e1 : a1 = b := by omega
      rw [e1]; omega
    · have e2 : a2 = b := by omega
      rw [e2]; omega
    · have e3 : a3 = b := by omega
      rw [e3]; omega
    · have e4 : a4 = b := by omega
      rw [e4]; omega
    · have e5 : a5 = b := by omega
      rw [e5]; omega
    · have e6 : a6 = b := by omega
      rw [e6]; omega
    · have e7 : a7 = b := by omega
      rw [e7]; omega
theorem bc_1 {x : Int64} : (bcX x).toInt = 1 ↔ ∃ j, j < 64 ∧ ∀ i, i < 64 → (bl x i = true ↔ i = j) := by
  obtain ⟨a0, a1, a2, a3, a4, a5, a6, a7, e, h0, h1, h2, h3, h4, h5, h6, h7⟩ := oct_of (nL x) (nL_lt x)
  rw [bc_n e h0 h1 h2 h3 h4 h5 h6 h7]
  have h := oc_1 h0 h1 h2 h3 h4 h5 h6 h7
  rw [← e] at h
  have hi : ((pqc a0 : Int) + (pqc a1 : Int) + (pqc a2 : Int) + (pqc a3 : Int) + (pqc a4 : Int) + (pqc a5 : Int) + (pqc a6 : Int) + (pqc a7 : Int) = 1) ↔ pqc a0 + pqc a1 + pqc a2 + pqc a3 + pqc a4 + pqc a5 + pqc a6 + pqc a7 = 1 := by omega
  rw [hi, h]
  constructor
  · rintro ⟨j, hj, q⟩
    refine ⟨j, hj, fun i _ => ?_⟩
    rw [bl_n, q, Nat.testBit_two_pow]
    constructor
    · intro z; exact (of_decide_eq_true z).symm
    · intro z; exact decide_eq_true z.symm
  · rintro ⟨j, hj, q⟩
    refine ⟨j, hj, ?_⟩
    apply Nat.eq_of_testBit_eq
    intro i
    rw [Nat.testBit_two_pow]
    by_cases hi : i < 64
    · by_cases hij : i = j
      · rw [← bl_n, (q i hi).mpr hij, decide_eq_true hij.symm]
      · rw [← bl_n, decide_eq_false (fun z => hij z.symm)]
        cases w : bl x i with
        | false => rfl
        | true => exact absurd ((q i hi).mp w) hij
    · rw [decide_eq_false (by omega), Nat.testBit_lt_two_pow (Nat.lt_of_lt_of_le (nL_lt x) (by
        have : (2 : Nat) ^ 64 ≤ 2 ^ i := Nat.pow_le_pow_right (by decide) (by omega)
        omega))]
/-- one alone is named -/
def oaF (s Va : Int64) (fo : Int32) : Prop := fo.toInt = 4 ∨ (((bcX s).toInt = 1 ∨ ((bcX s).toInt = 0 ∧ fo.toInt = 3)) ∧ s &&& Va = 0)
