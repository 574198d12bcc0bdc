/-! what a reference means, as the class finds it -/
def tsX (pa : Nat → Int32) (tn fo t : Int32) : Int32 := if fo.toInt = 2 then (if 0 ≤ t.toInt ∧ t.toInt < tn.toInt then pa t.toNatClampNeg else -1) else t
theorem ts_1 {pa : Nat → Int32} {tn fo t : Int32} (h : fo.toInt = 2) (h2 : 0 ≤ t.toInt ∧ t.toInt < tn.toInt) : tsX pa tn fo t = pa t.toNatClampNeg := by unfold tsX; rw [if_pos h, if_pos h2]
theorem ts_2 {pa : Nat → Int32} {tn fo t : Int32} (h : fo.toInt = 2) (h2 : ¬ (0 ≤ t.toInt ∧ t.toInt < tn.toInt)) : tsX pa tn fo t = -1 := by unfold tsX; rw [if_pos h, if_neg h2]
theorem ts_3 {pa : Nat → Int32} {tn fo t : Int32} (h : fo.toInt ≠ 2) : tsX pa tn fo t = t := by unfold tsX; rw [if_neg h]
/-- the fault of one search alone -/
def ffX (ma : Nat → Int32) (T : Int64) (o : Option Nat) (fo : Int32) (b0 b9 : Value) (r : Int32) : Prop := (o = none ∧ b9 = b0 ∧ ((T = 0 ∧ r = 1) ∨ (T ≠ 0 ∧ r = 2))) ∨ ∃ c : Nat, o = some c ∧ b9 = .ref 10 ∧ (((ma c &&& 1).toInt ≠ 0 ∧ r = 3) ∨ ((ma c &&& 1).toInt = 0 ∧ (fo.toInt = 2 ∧ (ma c &&& 2).toInt ≠ 0) ∧ r = 4) ∨ ((ma c &&& 1).toInt = 0 ∧ ¬ (fo.toInt = 2 ∧ (ma c &&& 2).toInt ≠ 0) ∧ r = 0))
def f1C (ma : Nat → Int32) (St U : Int64) (o : Option Nat) : Prop := ∃ c : Nat, o = some c ∧ (ma c &&& 1).toInt ≠ 0 ∧ U &&& (St ^^^ (-1)) = 0
def f2C (ma : Nat → Int32) (St T : Int64) (o : Option Nat) : Prop := ∃ c : Nat, o = some c ∧ (ma c &&& 1).toInt = 0 ∧ T &&& St = 0
/-- the fault of both -/
def fbX (ma : Nat → Int32) (St T U : Int64) (o1 o2 : Option Nat) (b0 : Value) (s0 : Int32) (b9 : Value) (s9 r : Int32) : Prop := (f1C ma St U o1 ∧ b9 = .ref 10 ∧ s9 = s0 ∧ r = 0) ∨ (¬ f1C ma St U o1 ∧ f2C ma St T o2 ∧ b9 = .ref 11 ∧ s9 = 1 ∧ r = 0) ∨ (¬ f1C ma St U o1 ∧ ¬ f2C ma St T o2 ∧ b9 = b0 ∧ s9 = s0 ∧ ((T = 0 ∧ U = 0 ∧ r = 1) ∨ (¬ (T = 0 ∧ U = 0) ∧ (T &&& St ≠ 0 ∨ U &&& (St ^^^ (-1)) ≠ 0) ∧ r = 2) ∨ (¬ (T = 0 ∧ U = 0) ∧ ¬ (T &&& St ≠ 0 ∨ U &&& (St ^^^ (-1)) ≠ 0) ∧ r = 3)))
/-- the fault -/
def faX (up ma : Nat → Int32) (St Ab : Int64) (ha nm : Nat → Int64) (nq : Nat) (fq : Nat → Int32) (fo t : Int32) (T U : Int64) (o1 o2 : Option Nat) (b0 : Value) (s0 : Int32) (b9 : Value) (s9 r : Int32) : Prop :=
  (fo.toInt = 4 ∧ b9 = b0 ∧ s9 = s0 ∧ (((nq = 1 ∧ xL up (fq 0) 10) ∧ r = 0) ∨ (¬ (nq = 1 ∧ xL up (fq 0) 10) ∧ r = 1)))
  ∨ (fo.toInt = 3 ∧ hbX ha nm t &&& Ab ≠ 0 ∧ b9 = b0 ∧ s9 = s0 ∧ r = 4)
  ∨ (fo.toInt = 3 ∧ hbX ha nm t &&& Ab = 0 ∧ nmX ha nm t 6 = 0 ∧ b9 = b0 ∧ s9 = s0 ∧ ((nq = 0 ∧ r = 0) ∨ (nq ≠ 0 ∧ r = 1)))
  ∨ (fo.toInt ≠ 4 ∧ (fo.toInt = 3 → hbX ha nm t &&& Ab = 0 ∧ nmX ha nm t 6 ≠ 0) ∧ fo.toInt = 0 ∧ fbX ma St T U o1 o2 b0 s0 b9 s9 r)
  ∨ (fo.toInt ≠ 4 ∧ (fo.toInt = 3 → hbX ha nm t &&& Ab = 0 ∧ nmX ha nm t 6 ≠ 0) ∧ fo.toInt ≠ 0 ∧ s9 = s0 ∧ ffX ma T o1 fo b0 b9 r)
/-- what the fault is none of -/
theorem fa_0 {up ma : Nat → Int32} {St Ab : Int64} {ha nm : Nat → Int64} {nq : Nat} {fq : Nat → Int32} {fo t : Int32} {T U : Int64} {o1 o2 : Option Nat} {b9 : Value} {s9 r : Int32} (h : faX up ma St Ab ha nm nq fq fo t T U o1 o2 .null 0 b9 s9 r) (hr : r.toInt = 0) : (b9 = .null ∧ s9 = 0 ∧ (fo.toInt = 4 ∨ fo.toInt = 3)) ∨ (b9 = .ref 10 ∧ s9 = 0 ∧ (∃ c : Nat, o1 = some c) ∧ fo.toInt ≠ 4) ∨ (b9 = .ref 11 ∧ s9 = 1 ∧ (∃ c : Nat, o2 = some c) ∧ fo.toInt = 0) := by
  have z1 : (1 : Int32).toInt = 1 := by decide
  have z2 : (2 : Int32).toInt = 2 := by decide
  have z3 : (3 : Int32).toInt = 3 := by decide
  have z4 : (4 : Int32).toInt = 4 := by decide
  rcases h with ⟨h1, h2, h3, _⟩ | ⟨h1, _, h2, h3, h4⟩ | ⟨h1, _, _, h2, h3, _⟩ | ⟨h1, _, h3, h4⟩ | ⟨h1, _, h3, h4, h5⟩
  · exact Or.inl ⟨h2, h3, Or.inl h1⟩
  · rw [h4] at hr; omega
  · exact Or.inl ⟨h2, h3, Or.inr h1⟩
  · rcases h4 with ⟨⟨c, q, _⟩, q2, q3, _⟩ | ⟨_, ⟨c, q, _⟩, q2, q3, _⟩ | ⟨_, _, _, _, ⟨_, _, q⟩ | ⟨_, _, q⟩ | ⟨_, _, q⟩⟩
    · exact Or.inr (Or.inl ⟨q2, q3, ⟨c, q⟩, by omega⟩)
    · exact Or.inr (Or.inr ⟨q2, q3, ⟨c, q⟩, h3⟩)
    · rw [q] at hr; omega
    · rw [q] at hr; omega
    · rw [q] at hr; omega
  · rcases h5 with ⟨_, _, ⟨_, q⟩ | ⟨_, q⟩⟩ | ⟨c, q1, q2, _⟩
    · rw [q] at hr; omega
    · rw [q] at hr; omega
    · exact Or.inr (Or.inl ⟨q2, h4, ⟨c, q1⟩, by omega⟩)
/-- which member is meant -/
def meO (b9 : Value) (o1 o2 : Option Nat) : Option Nat := match b9 with
  | .ref 10 => o1
  | .ref 11 => o2
  | _ => none
def mePh (b9 : Value) (p1 p2 : Int32) : Int32 := match b9 with
  | .ref 10 => p1
  | .ref 11 => p2
  | _ => 0
/-- what comes of a call -/
def wcX (re : Nat → Int32) (fo t : Int32) (o : Option Nat) : Int32 := if fo.toInt = 4 then (if t.toInt = 10 then 30 else 20 + t) else match o with
  | none => t
  | some c => re c
/-- the whole of it: fault, what comes, the answer -/
def fiR (up re : Nat → Int32) (fo t fr : Int32) (o : Option Nat) (r r9 : Int32) : Prop := (r.toInt ≠ 0 ∧ r9 = -10 - r) ∨ (r.toInt = 0 ∧ (fr.toInt ≠ 11 ∧ ¬ xL up (wcX re fo t o) fr) ∧ r9 = -15) ∨ (r.toInt = 0 ∧ ¬ (fr.toInt ≠ 11 ∧ ¬ xL up (wcX re fo t o) fr) ∧ ((o = none ∧ r9 = 99) ∨ ∃ c : Nat, o = some c ∧ r9 = nI c))
def fiX (up pa re ma my pm : Nat → Int32) (St Ab : Int64) (ha nm : Nat → Int64) (tn mn : Int32) (nq : Nat) (fq : Nat → Int32) (fo t w fr : Int32) (f1 : Int32) (T : Int64) (p1 : Int32) (o1 : Option Nat) (f2 : Int32) (U : Int64) (p2 : Int32) (o2 : Option Nat) (b9 : Value) (s9 r9 : Int32) : Prop :=
  (fo.toInt ≠ 4 → rsX up ma my pm (nmX ha nm (tsX pa tn fo t) w) (tsX pa tn fo t) nq fq mn 0 f1 T p1 o1) ∧ (fo.toInt = 0 → rsX up ma my pm (nmX ha nm t w) t nq fq mn 1 f2 U p2 o2) ∧ ∃ r : Int32, faX up ma St Ab ha nm nq fq fo t T U o1 o2 .null 0 b9 s9 r ∧ fiR up re fo t fr (meO b9 o1 o2) r r9
def anX (o : Option Nat) (T : Int64) : Int32 := match o with
  | some c => nI c
  | none => if T = 0 then -4 else -5
theorem an_1 {o : Option Nat} {T : Int64} {c : Nat} (h : o = some c) : anX o T = nI c := by rw [h]; rfl
theorem an_2 {o : Option Nat} {T : Int64} (h : o = none) (h2 : T = 0) : anX o T = -4 := by
  rw [h]
  show (if T = 0 then (-4 : Int32) else -5) = -4
  rw [if_pos h2]
theorem an_3 {o : Option Nat} {T : Int64} (h : o = none) (h2 : T ≠ 0) : anX o T = -5 := by
  rw [h]
  show (if T = 0 then (-4 : Int32) else -5) = -5
  rw [if_neg h2]
def byC (b9 : Value) (o1 o2 : Option Nat) : Prop := b9 = .null ∨ (b9 = .ref 10 ∧ ∃ c : Nat, o1 = some c) ∨ (b9 = .ref 11 ∧ ∃ c : Nat, o2 = some c)
theorem fa_c {up ma : Nat → Int32} {St Ab : Int64} {ha nm : Nat → Int64} {nq : Nat} {fq : Nat → Int32} {fo t : Int32} {T U : Int64} {o1 o2 : Option Nat} {b9 : Value} {s9 r : Int32} (h : faX up ma St Ab ha nm nq fq fo t T U o1 o2 .null 0 b9 s9 r) (hr : r.toInt = 0) : byC b9 o1 o2 := by
  rcases fa_0 h hr with ⟨q, _⟩ | ⟨q, _, w, _⟩ | ⟨q, _, w, _⟩
  · exact Or.inl q
  · exact Or.inr (Or.inl ⟨q, w⟩)
  · exact Or.inr (Or.inr ⟨q, w⟩)
theorem fd_s {dOt dNa dRe dMa dMy dPm : Nat → Int32} {dyn : pm_H} {v : Value} {o : Option Nat} {c : Nat} (h : fdF dOt dNa dRe dMa dMy dPm dyn v o) (hc : o = some c) : ∃ j : Nat, v = .ref (j + 50) ∧ mbF dOt dNa dRe dMa dMy dPm dyn j c := by
  rcases h with ⟨q, _⟩ | ⟨j, b, q, q2, q3⟩
  · rw [hc] at q; cases q
  · rw [hc] at q; cases q; exact ⟨j, q2, q3⟩
theorem wc_1 {re : Nat → Int32} {fo t : Int32} {o : Option Nat} (h : fo.toInt = 4) (h2 : t.toInt = 10) : wcX re fo t o = 30 := by unfold wcX; rw [if_pos h, if_pos h2]
theorem wc_2 {re : Nat → Int32} {fo t : Int32} {o : Option Nat} (h : fo.toInt = 4) (h2 : t.toInt ≠ 10) : wcX re fo t o = 20 + t := by unfold wcX; rw [if_pos h, if_neg h2]
theorem wc_3 {re : Nat → Int32} {fo t : Int32} (h : fo.toInt ≠ 4) : wcX re fo t none = t := by unfold wcX; rw [if_neg h]
theorem wc_4 {re : Nat → Int32} {fo t : Int32} {c : Nat} (h : fo.toInt ≠ 4) : wcX re fo t (some c) = re c := by unfold wcX; rw [if_neg h]
