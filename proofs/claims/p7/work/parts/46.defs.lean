/-! calls, as the class does them -/
def amX (v : Int32) (z : cs_T) : Int32 := if 1 ≤ v.toInt ∧ v.toInt ≤ z.1.toInt then z.2.2.2.1 v.toNatClampNeg else 0
theorem am_1 {v tl cs : Int32} {ki am pl : Nat → Int32} (h : 1 ≤ v.toInt ∧ v.toInt ≤ tl.toInt) : amX v (tl, cs, ki, am, pl) = am v.toNatClampNeg := by unfold amX; rw [if_pos h]
theorem am_2 {v tl cs : Int32} {x : (Nat → Int32) × (Nat → Int32) × (Nat → Int32)} (h : ¬ (1 ≤ v.toInt ∧ v.toInt ≤ tl.toInt)) : amX v (tl, cs, x) = 0 := by unfold amX; rw [if_neg h]
/-- the class's convert -/
def cvX (v a b : Int32) (z : cs_T) : Int32 × cs_T := if z.2.1.toInt ≠ 0 ∨ b.toInt = 11 then (0, z) else if a.toInt = 10 ∧ b.toInt ≠ 10 then mdF 1 v z else if a.toInt = 1 ∧ b.toInt = 10 then (amX v z, z.1, (if v.toInt = 0 then -21 else z.2.1), z.2.2) else (v, z)
theorem cv_1 {v a b tl cs : Int32} {x : (Nat → Int32) × (Nat → Int32) × (Nat → Int32)} (h : cs.toInt ≠ 0 ∨ b.toInt = 11) : cvX v a b (tl, cs, x) = (0, tl, cs, x) := by unfold cvX; rw [if_pos h]
theorem cv_2 {v a b tl cs : Int32} {x : (Nat → Int32) × (Nat → Int32) × (Nat → Int32)} (h : ¬ (cs.toInt ≠ 0 ∨ b.toInt = 11)) (h2 : a.toInt = 10 ∧ b.toInt ≠ 10) : cvX v a b (tl, cs, x) = mdF 1 v (tl, cs, x) := by unfold cvX; rw [if_neg h, if_pos h2]
theorem cv_3 {v a b tl cs : Int32} {x : (Nat → Int32) × (Nat → Int32) × (Nat → Int32)} (h : ¬ (cs.toInt ≠ 0 ∨ b.toInt = 11)) (h2 : ¬ (a.toInt = 10 ∧ b.toInt ≠ 10)) (h3 : a.toInt = 1 ∧ b.toInt = 10) (h4 : v.toInt = 0) : cvX v a b (tl, cs, x) = (0, tl, -21, x) := by
  unfold cvX
  rw [if_neg h, if_neg h2, if_pos h3, if_pos h4, am_2 (by omega)]
theorem cv_4 {v a b tl cs : Int32} {ki am pl : Nat → Int32} (h : ¬ (cs.toInt ≠ 0 ∨ b.toInt = 11)) (h2 : ¬ (a.toInt = 10 ∧ b.toInt ≠ 10)) (h3 : a.toInt = 1 ∧ b.toInt = 10) (h4 : v.toInt ≠ 0) (h5 : 1 ≤ v.toInt ∧ v.toInt ≤ tl.toInt) : cvX v a b (tl, cs, ki, am, pl) = (am v.toNatClampNeg, tl, cs, ki, am, pl) := by
  unfold cvX
  rw [if_neg h, if_neg h2, if_pos h3, if_neg h4, am_1 h5]
theorem cv_4n {v a b tl cs : Int32} {ki am pl : Nat → Int32} (h : ¬ (cs.toInt ≠ 0 ∨ b.toInt = 11)) (h2 : ¬ (a.toInt = 10 ∧ b.toInt ≠ 10)) (h3 : a.toInt = 1 ∧ b.toInt = 10) (h4 : v.toInt ≠ 0) (h5 : ¬ (1 ≤ v.toInt ∧ v.toInt ≤ tl.toInt)) : cvX v a b (tl, cs, ki, am, pl) = (0, tl, cs, ki, am, pl) := by
  unfold cvX
  rw [if_neg h, if_neg h2, if_pos h3, if_neg h4, am_2 h5]
theorem cv_5 {v a b tl cs : Int32} {x : (Nat → Int32) × (Nat → Int32) × (Nat → Int32)} (h : ¬ (cs.toInt ≠ 0 ∨ b.toInt = 11)) (h2 : ¬ (a.toInt = 10 ∧ b.toInt ≠ 10)) (h3 : ¬ (a.toInt = 1 ∧ b.toInt = 10)) : cvX v a b (tl, cs, x) = (v, tl, cs, x) := by unfold cvX; rw [if_neg h, if_neg h2, if_neg h3]
theorem cv_b {v a b : Int32} {z : cs_T} (hz : 0 ≤ z.1.toInt ∧ z.1.toInt ≤ 60) : (0 ≤ (cvX v a b z).2.1.toInt ∧ (cvX v a b z).2.1.toInt ≤ 60) ∧ z.1.toInt ≤ (cvX v a b z).2.1.toInt := by
  unfold cvX
  split
  · exact ⟨hz, Int.le_refl _⟩
  · split
    · exact (md_b hz).2
    · split
      · exact ⟨hz, Int.le_refl _⟩
      · exact ⟨hz, Int.le_refl _⟩
/-- the places' sum -/
def plX (v : Int32) (z : cs_T) (k : Nat) : Int32 := if (1 ≤ v.toInt ∧ v.toInt ≤ z.1.toInt) ∧ k < 20 then z.2.2.2.2 (20 * v.toNatClampNeg + k) else 0
def splF (v : Int32) (z : cs_T) : Nat → Nat → Int32 → Int32
  | 0, _, c => c
  | n + 1, k, c => splF v z n (k + 1) (c + plX v z k)
/-- the sum of what was got -/
def sgX (pf go : Nat → Int32) (z : cs_T) : Nat → Nat → Int32 → Int32
  | 0, _, c => c
  | n + 1, k, c => sgX pf go z n (k + 1) (if (pf k).toInt = 10 then c + go k else if (pf k).toInt = 1 then c + amX (go k) z else c)
def sumX (ma : Int32) (n : Nat) (pf go : Nat → Int32) (z : cs_T) (i : Nat) : Int32 := if (ma &&& 4).toInt ≠ 0 ∧ 1 ≤ n ∧ (pf (n - 1)).toInt = 30 then sgX pf go z n 0 (100 * nI i) + splF (go (n - 1)) z (amX (go (n - 1)) z).toNatClampNeg 0 0 else sgX pf go z n 0 (100 * nI i)
/-- what a member gives -/
def grX (re n : Int32) (op : Prop) (S : Int32) (z : cs_T) (x : Int32 × cs_T) : Prop := (re.toInt = 11 ∧ x = (0, z)) ∨ (re.toInt = 10 ∧ x = (S, z)) ∨ (re.toInt = 1 ∧ x = mdF 1 S z) ∨ (20 ≤ re.toInt ∧ x = mdF re n z) ∨ ((re.toInt ≠ 11 ∧ re.toInt ≠ 10 ∧ re.toInt ≠ 1 ∧ re.toInt < 20) ∧ ((op ∧ x = (0, z)) ∨ (¬ op ∧ x = mdF re 0 z)))
/-- the arguments one by one -/
def cp1 (ar fq pf : Nat → Int32) (s : Nat) : Nat → Nat → (Nat → Int32) × cs_T → (Nat → Int32) × cs_T
  | 0, _, x => x
  | n + 1, k, x => cp1 ar fq pf s n (k + 1) (upd x.1 k (cvX (ar (s + k)) (fq (s + k)) (pf k) x.2).1, (cvX (ar (s + k)) (fq (s + k)) (pf k) x.2).2)
def setX (row : Int32) (i : Nat) (x : Int32 × cs_T) : cs_T := if (1 ≤ row.toInt ∧ row.toInt ≤ x.2.1.toInt) ∧ i < 20 then (x.2.1, x.2.2.1, x.2.2.2.1, x.2.2.2.2.1, upd x.2.2.2.2.2 (20 * row.toNatClampNeg + i) x.1) else x.2
/-- the rest, into the row -/
def cp2 (ar fq : Nat → Int32) (s : Nat) (row part : Int32) : Nat → Nat → cs_T → cs_T
  | 0, _, z => z
  | n + 1, k, z => cp2 ar fq s row part n (k + 1) (setX row k (cvX (ar (s + k)) (fq (s + k)) part z))
theorem set_1 {row r tn en : Int32} {i : Nat} {tt ti pl : Nat → Int32} (h : (1 ≤ row.toInt ∧ row.toInt ≤ tn.toInt) ∧ i < 20) : setX row i (r, tn, en, tt, ti, pl) = (tn, en, tt, ti, upd pl (20 * row.toNatClampNeg + i) r) := by unfold setX; rw [if_pos h]
theorem set_2 {row r tn en : Int32} {i : Nat} {x : (Nat → Int32) × (Nat → Int32) × (Nat → Int32)} (h : ¬ ((1 ≤ row.toInt ∧ row.toInt ≤ tn.toInt) ∧ i < 20)) : setX row i (r, tn, en, x) = (tn, en, x) := by unfold setX; rw [if_neg h]
def prX (kd : Int32) : Int32 := if kd.toInt = 30 then 10 else kd - 20
/-- what is handed on to a member: n parameters pf, nq arguments fq from s on -/
def haX (ar fq pf : Nat → Int32) (n nq s : Nat) (ip : Int32) (x : (Nat → Int32) × cs_T) : (Nat → Int32) × cs_T :=
  if ip.toInt ≠ 0 ∧ 1 ≤ n then
    (fun (y : (Nat → Int32) × cs_T) => (fun (w : Int32 × cs_T) => (upd y.1 (n - 1) w.1, cp2 ar fq (s + (n - 1)) w.1 (prX (pf (n - 1))) (nq - (s + (n - 1))) 0 w.2)) (mdF (pf (n - 1)) (nI nq - nI (s + (n - 1))) y.2)) (cp1 ar fq pf s (min (n - 1) (nq - s)) 0 x)
  else cp1 ar fq pf s (min (if ip.toInt ≠ 0 then n - 1 else n) (nq - s)) 0 x
/-- which member is taken -/
def mtX (na my pm : Nat → Int32) (ha nm : Nat → Int64) (mn : Int32) (bs fo a0 rc : Int32) (ki : Nat → Int32) (tl : Int32) (c : Nat) (e0 : Int32) (b : Nat) : Prop :=
  ((bs.toInt = 0 ∧ fo.toInt ≠ 1) ∧ e0 = 0 ∧ b = c) ∨ (¬ (bs.toInt = 0 ∧ fo.toInt ≠ 1) ∧ ∃ r : Int32, ((bs.toInt ≠ 0 ∧ r = a0) ∨ (bs.toInt = 0 ∧ r = rc)) ∧ ((r.toInt = 0 ∧ e0 = -21 ∧ b = c) ∨ (r.toInt ≠ 0 ∧ e0 = 0 ∧ tfX na my pm (hbX ha nm (if 1 ≤ r.toInt ∧ r.toInt ≤ tl.toInt then ki r.toNatClampNeg else -1)) mn c b)))
/-- a size -/
def szX (ar fq : Nat → Int32) (co : Int32) (z : cs_T) : Int32 × cs_T := (fun u : Int32 × cs_T => mdF co u.1 (u.2.1, (if 20 < u.1.toInt then -2 else if u.1.toInt < 0 then -22 else u.2.2.1), u.2.2.2)) (cvX (ar 0) (fq 0) 10 z)
/-- a value, with what it holds -/
def vuF (dFo dRt dRm dFy dFa dFr dOt dNa dRe dMa dMy dPm : Nat → Int32) (dyn : pm_H) (v r ir f jf : Nat) (rc : Int32) (mv : Value) (om : Option Nat) (bs ip co : Int32) : Prop := dyn[v]? = some (.inr (10, [.ref (r + 50), .ref (f + 50), .int rc, mv, .int bs, .int ip, .int co])) ∧ rfF dFo dRt dRm dyn r ir ∧ fcF dFy dFa dFr dyn f jf ∧ fdF dOt dNa dRe dMa dMy dPm dyn mv om
theorem spl_s {v : Int32} {z : cs_T} {n k : Nat} {c : Int32} : splF v z (n + 1) k c = splF v z n (k + 1) (c + plX v z k) := rfl
theorem pl_1 {v tl cs : Int32} {ki am pl : Nat → Int32} {k : Nat} (h : (1 ≤ v.toInt ∧ v.toInt ≤ tl.toInt) ∧ k < 20) : plX v (tl, cs, ki, am, pl) k = pl (20 * v.toNatClampNeg + k) := by unfold plX; rw [if_pos h]
theorem pl_2 {v tl cs : Int32} {x : (Nat → Int32) × (Nat → Int32) × (Nat → Int32)} {k : Nat} (h : ¬ ((1 ≤ v.toInt ∧ v.toInt ≤ tl.toInt) ∧ k < 20)) : plX v (tl, cs, x) k = 0 := by unfold plX; rw [if_neg h]
theorem xNn {x : Int32} (h : x.toInt ≤ 0) : x.toNatClampNeg = 0 := Int.toNat_of_nonpos h
theorem cp1_s {ar fq pf : Nat → Int32} {s n k : Nat} {x : (Nat → Int32) × cs_T} : cp1 ar fq pf s (n + 1) k x = cp1 ar fq pf s n (k + 1) (upd x.1 k (cvX (ar (s + k)) (fq (s + k)) (pf k) x.2).1, (cvX (ar (s + k)) (fq (s + k)) (pf k) x.2).2) := rfl
theorem cp2_s {ar fq : Nat → Int32} {s n k : Nat} {row part : Int32} {z : cs_T} : cp2 ar fq s row part (n + 1) k z = cp2 ar fq s row part n (k + 1) (setX row k (cvX (ar (s + k)) (fq (s + k)) part z)) := rfl
theorem sgX_s {pf go : Nat → Int32} {z : cs_T} {n k : Nat} {c : Int32} : sgX pf go z (n + 1) k c = sgX pf go z n (k + 1) (if (pf k).toInt = 10 then c + go k else if (pf k).toInt = 1 then c + amX (go k) z else c) := rfl
theorem ix20 {v i : Int32} {k : Nat} (hv : 0 ≤ v.toInt ∧ v.toInt ≤ 60) (hi : i.toInt = (k : Int)) (hk : k < 20) : (v * 20 + i).toNatClampNeg = 20 * v.toNatClampNeg + k := by
  have hx := xN hv.1
  have e1 : (v * 20).toInt = v.toInt * 20 := iMul rfl (by decide) (by omega) (by omega)
  have e2 : (v * 20 + i).toInt = v.toInt * 20 + (k : Int) := iAdd e1 hi (by omega) (by omega)
  exact tN (by omega)
theorem fd_w {dOt dNa dRe dMa dMy dPm : Nat → Int32} {dyn : pm_H} {w k : Nat} (h : fdF dOt dNa dRe dMa dMy dPm dyn (.ref (w + 50)) (some k)) : mbF dOt dNa dRe dMa dMy dPm dyn w k := by
  rcases h with ⟨q, _⟩ | ⟨j, b, q, q2, q3⟩
  · cases q
  · cases q
    have e : w = j := by
      have q4 : w + 50 = j + 50 := by injection q2
      omega
    rw [e]; exact q3
