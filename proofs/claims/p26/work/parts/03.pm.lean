/-! THE PLAIN MACHINE: cells by number (0 is the script), values whose references are such numbers. A step is a function; WP is the least set that is closed under it. -/
abbrev pm_C : Type := (Nat × vp_A) ⊕ (Nat × List Value)
abbrev pm_H : Type := List pm_C
abbrev pm_L : Type := List (Nat × Value)
abbrev pm_Q : Type := Option Value → pm_H → Prop
/-- pc, locals, stack, cells, how many cells and slots may still be made -/
abbrev pm_F : Type := Nat × pm_L × List Value × pm_H × Nat × Nat
/-- goes on (if); branches; returns (if); calls (if); stuck -/
abbrev pm_R : Type := (Bool × pm_F) ⊕ (Bool × pm_F × pm_F) ⊕ (Bool × Option Value) ⊕ (Bool × Nat × List Value × List Value) ⊕ Unit
def pm_ok (f : pm_F) : pm_R := .inl (true, f)
def pm_if (b : Bool) (f : pm_F) : pm_R := .inl (b, f)
def pm_br (b : Bool) (f g : pm_F) : pm_R := .inr (.inl (b, f, g))
def pm_rt (b : Bool) (r : Option Value) : pm_R := .inr (.inr (.inl (b, r)))
def pm_cl (b : Bool) (y : Nat) (as rest : List Value) : pm_R := .inr (.inr (.inr (.inl (b, y, as, rest))))
def pm_bad : pm_R := .inr (.inr (.inr (.inr ())))
def pm_lv : pm_L → Nat → Option Value
  | [], _ => none
  | (j, v) :: t, i => cond (Nat.beq j i) (some v) (pm_lv t i)
def pm_s1 (lv : pm_L) (i : Nat) (v : Value) : pm_L := (i, v) :: lv.filter (fun q => !(q.1 == i) && !(q.1 + 1 == i && q.2.category == 2))
def pm_s2 (lv : pm_L) (i : Nat) (v : Value) : pm_L := (i, v) :: lv.filter (fun q => !(q.1 == i) && (!(q.1 == i + 1) && !(q.1 + 1 == i && q.2.category == 2)))
def pm_pop : Nat → List Value → List Value → Option (List Value × List Value)
  | 0, st, acc => some (acc, st)
  | _ + 1, [], _ => none
  | k + 1, v :: st, acc => pm_pop k st (v :: acc)
def pm_in (i : Int32) (n : Nat) : Bool := !(decide (i < 0)) && Nat.blt i.toNatClampNeg n
def pm_ct (st : List Value) : Bool := Nat.ble (st.map fun v => v.category).sum 8
def pm_cs (as : List Value) (k : Nat) : Bool := Nat.ble (as.map fun v => v.category).sum k
def pm_fits : FieldType → Value → Bool
  | .int, .int _ => true
  | .long, .long _ => true
  | .boolean, .int x => decide (x = 0) || decide (x = 1)
  | .object _, .null => true
  | .object _, .ref _ => true
  | .array _, .null => true
  | .array _, .ref _ => true
  | _, _ => false
def pm_cmp (c : ClassFile.Cond) (x y : Int32) : Bool := match c with
  | .eq => decide (x = y)
  | .ne => !(decide (x = y))
  | .lt => decide (x < y)
  | .ge => decide (y ≤ x)
  | .gt => decide (y < x)
  | .le => decide (x ≤ y)
/-- where a table switch goes -/
def pm_tsw (pc : Nat) (d lo hi : Int) (offs : Array Int) (x : Int32) : Nat :=
  if x.toInt < lo ∨ hi < x.toInt then ((pc : Int) + d).toNat else ((pc : Int) + (offs[(x.toInt - lo).toNat]?).getD 0).toNat
def pm_rf (r : Option Nat) : Value := match r with
  | none => .null
  | some k => .ref k
def pm_tg (t : ArrayType) : Option Nat := match t with
  | .int => some 0
  | .long => some 1
  | .boolean => some 2
  | _ => none
def pm_z (t : Nat) : (Nat → Int32) ⊕ (Nat → Int64) ⊕ (Nat → UInt32) ⊕ (Nat → UInt64) ⊕ (Nat → Option Nat) := match t with
  | 1 => .inr (.inl (fun _ => 0))
  | _ => .inl (fun _ => 0)
def pm_I (y : Nat) (i : Instr) (a b pc : Nat) (lv : pm_L) (st : List Value) (G : pm_H) (c n : Nat) : pm_R :=
  match i with
  | .aconst_null => pm_ok (pc + 1, lv, .null :: st, G, c, n)
  | .iconst k => pm_ok (pc + 1, lv, .int (Int32.ofInt k) :: st, G, c, n)
  | .bipush k => pm_ok (pc + 2, lv, .int (Int8.ofInt k).toInt32 :: st, G, c, n)
  | .sipush k => pm_ok (pc + 3, lv, .int (Int16.ofInt k).toInt32 :: st, G, c, n)
  | .lconst k => pm_ok (pc + 1, lv, .long (Int64.ofNat (k : Nat)) :: st, G, c, n)
  | .ldc2_w _ => match pm_ld (pm_oc y) a with
    | some v => pm_ok (pc + 3, lv, .long v :: st, G, c, n)
    | none => pm_bad
  | .aload_n k => match pm_lv lv k with
    | some (.ref x) => pm_ok (pc + 1, lv, .ref x :: st, G, c, n)
    | some .null => pm_ok (pc + 1, lv, .null :: st, G, c, n)
    | _ => pm_bad
  | .aload k => match pm_lv lv k with
    | some (.ref x) => pm_ok (pc + 2, lv, .ref x :: st, G, c, n)
    | some .null => pm_ok (pc + 2, lv, .null :: st, G, c, n)
    | _ => pm_bad
  | .iload_n k => match pm_lv lv k with
    | some (.int x) => pm_ok (pc + 1, lv, .int x :: st, G, c, n)
    | _ => pm_bad
  | .iload k => match pm_lv lv k with
    | some (.int x) => pm_ok (pc + 2, lv, .int x :: st, G, c, n)
    | _ => pm_bad
  | .lload_n k => match pm_lv lv k with
    | some (.long x) => pm_ok (pc + 1, lv, .long x :: st, G, c, n)
    | _ => pm_bad
  | .lload k => match pm_lv lv k with
    | some (.long x) => pm_ok (pc + 2, lv, .long x :: st, G, c, n)
    | _ => pm_bad
  | .istore_n k => match st with
    | .int x :: r => pm_if (Nat.blt k (pm_ml y)) (pc + 1, pm_s1 lv k (.int x), r, G, c, n)
    | _ => pm_bad
  | .istore k => match st with
    | .int x :: r => pm_if (Nat.blt k (pm_ml y)) (pc + 2, pm_s1 lv k (.int x), r, G, c, n)
    | _ => pm_bad
  | .astore_n k => match st with
    | .ref x :: r => pm_if (Nat.blt k (pm_ml y)) (pc + 1, pm_s1 lv k (.ref x), r, G, c, n)
    | .null :: r => pm_if (Nat.blt k (pm_ml y)) (pc + 1, pm_s1 lv k .null, r, G, c, n)
    | _ => pm_bad
  | .astore k => match st with
    | .ref x :: r => pm_if (Nat.blt k (pm_ml y)) (pc + 2, pm_s1 lv k (.ref x), r, G, c, n)
    | .null :: r => pm_if (Nat.blt k (pm_ml y)) (pc + 2, pm_s1 lv k .null, r, G, c, n)
    | _ => pm_bad
  | .lstore_n k => match st with
    | .long x :: r => pm_if (Nat.blt (k + 1) (pm_ml y)) (pc + 1, pm_s2 lv k (.long x), r, G, c, n)
    | _ => pm_bad
  | .lstore k => match st with
    | .long x :: r => pm_if (Nat.blt (k + 1) (pm_ml y)) (pc + 2, pm_s2 lv k (.long x), r, G, c, n)
    | _ => pm_bad
  | .iinc k d => match pm_lv lv k with
    | some (.int x) => pm_if (Nat.blt k (pm_ml y)) (pc + 3, pm_s1 lv k (.int (x + Int32.ofInt d)), st, G, c, n)
    | _ => pm_bad
  | .iadd => match st with
    | .int u :: .int x :: r => pm_ok (pc + 1, lv, .int (x + u) :: r, G, c, n)
    | _ => pm_bad
  | .isub => match st with
    | .int u :: .int x :: r => pm_ok (pc + 1, lv, .int (x - u) :: r, G, c, n)
    | _ => pm_bad
  | .imul => match st with
    | .int u :: .int x :: r => pm_ok (pc + 1, lv, .int (x * u) :: r, G, c, n)
    | _ => pm_bad
  | .irem => match st with
    | .int u :: .int x :: r => pm_if (!(decide (u = 0))) (pc + 1, lv, .int (x - x / u * u) :: r, G, c, n)
    | _ => pm_bad
  | .iand => match st with
    | .int u :: .int x :: r => pm_ok (pc + 1, lv, .int (x &&& u) :: r, G, c, n)
    | _ => pm_bad
  | .ior => match st with
    | .int u :: .int x :: r => pm_ok (pc + 1, lv, .int (x ||| u) :: r, G, c, n)
    | _ => pm_bad
  | .ixor => match st with
    | .int u :: .int x :: r => pm_ok (pc + 1, lv, .int (x ^^^ u) :: r, G, c, n)
    | _ => pm_bad
  | .ishl => match st with
    | .int u :: .int x :: r => pm_ok (pc + 1, lv, .int (x <<< (u &&& 31)) :: r, G, c, n)
    | _ => pm_bad
  | .ishr => match st with
    | .int u :: .int x :: r => pm_ok (pc + 1, lv, .int (x >>> (u &&& 31)) :: r, G, c, n)
    | _ => pm_bad
  | .ladd => match st with
    | .long u :: .long x :: r => pm_ok (pc + 1, lv, .long (x + u) :: r, G, c, n)
    | _ => pm_bad
  | .lsub => match st with
    | .long u :: .long x :: r => pm_ok (pc + 1, lv, .long (x - u) :: r, G, c, n)
    | _ => pm_bad
  | .land => match st with
    | .long u :: .long x :: r => pm_ok (pc + 1, lv, .long (x &&& u) :: r, G, c, n)
    | _ => pm_bad
  | .lor => match st with
    | .long u :: .long x :: r => pm_ok (pc + 1, lv, .long (x ||| u) :: r, G, c, n)
    | _ => pm_bad
  | .lxor => match st with
    | .long u :: .long x :: r => pm_ok (pc + 1, lv, .long (x ^^^ u) :: r, G, c, n)
    | _ => pm_bad
  | .lshl => match st with
    | .int u :: .long x :: r => pm_ok (pc + 1, lv, .long (x <<< (u.toInt64 &&& 63)) :: r, G, c, n)
    | _ => pm_bad
  | .lshr => match st with
    | .int u :: .long x :: r => pm_ok (pc + 1, lv, .long (x >>> (u.toInt64 &&& 63)) :: r, G, c, n)
    | _ => pm_bad
  | .lushr => match st with
    | .int u :: .long x :: r => pm_ok (pc + 1, lv, .long (x.toUInt64 >>> (u.toInt64.toUInt64 &&& Int64.toUInt64 63)).toInt64 :: r, G, c, n)
    | _ => pm_bad
  | .lcmp => match st with
    | .long u :: .long x :: r => pm_ok (pc + 1, lv, .int (lg_cmp x u) :: r, G, c, n)
    | _ => pm_bad
  | .l2i => match st with
    | .long x :: r => pm_ok (pc + 1, lv, .int x.toInt32 :: r, G, c, n)
    | _ => pm_bad
  | .i2l => match st with
    | .int x :: r => pm_ok (pc + 1, lv, .long x.toInt64 :: r, G, c, n)
    | _ => pm_bad
  | .dup => match st with
    | .int x :: r => pm_ok (pc + 1, lv, .int x :: .int x :: r, G, c, n)
    | .ref x :: r => pm_ok (pc + 1, lv, .ref x :: .ref x :: r, G, c, n)
    | .null :: r => pm_ok (pc + 1, lv, .null :: .null :: r, G, c, n)
    | _ => pm_bad
  | .pop => match st with
    | .int _ :: r => pm_ok (pc + 1, lv, r, G, c, n)
    | .ref _ :: r => pm_ok (pc + 1, lv, r, G, c, n)
    | .null :: r => pm_ok (pc + 1, lv, r, G, c, n)
    | _ => pm_bad
  | .dup2 => match st with
    | .int x :: .ref z :: r => pm_ok (pc + 1, lv, .int x :: .ref z :: .int x :: .ref z :: r, G, c, n)
    | .long x :: r => pm_ok (pc + 1, lv, .long x :: .long x :: r, G, c, n)
    | _ => pm_bad
  | .ifCond cc _ => match st with
    | .int x :: r => pm_br (pm_cmp cc x 0) (a, lv, r, G, c, n) (pc + 3, lv, r, G, c, n)
    | _ => pm_bad
  | .if_icmp cc _ => match st with
    | .int u :: .int x :: r => pm_br (pm_cmp cc x u) (a, lv, r, G, c, n) (pc + 3, lv, r, G, c, n)
    | _ => pm_bad
  | .ifnull _ => match st with
    | .ref _ :: r => pm_ok (pc + 3, lv, r, G, c, n)
    | .null :: r => pm_ok (a, lv, r, G, c, n)
    | _ => pm_bad
  | .ifnonnull _ => match st with
    | .ref _ :: r => pm_ok (a, lv, r, G, c, n)
    | .null :: r => pm_ok (pc + 3, lv, r, G, c, n)
    | _ => pm_bad
  | .goto _ => pm_ok (a, lv, st, G, c, n)
  | .tableswitch d lo hi offs => match st with
    | .int x :: r => pm_ok (pm_tsw pc d lo hi offs x, lv, r, G, c, n)
    | _ => pm_bad
  | .getfield _ => match st with
    | .ref r :: rest => match G[r]? with
      | some (.inr (ci, fs)) => match fs[b]? with
        | some v => pm_if (Nat.beq ci a) (pc + 3, lv, v :: rest, G, c, n)
        | none => pm_bad
      | _ => pm_bad
    | _ => pm_bad
  | .putfield _ => match st with
    | v :: .ref r :: rest => match G[r]? with
      | some (.inr (ci, fs)) => pm_if (Nat.beq ci a && (Nat.blt b fs.length && pm_fits (pm_ft a b) v)) (pc + 3, lv, rest, G.set r (.inr (a, fs.set b v)), c, n)
      | _ => pm_bad
    | _ => pm_bad
  | .iaload => match st with
    | .int i :: .ref r :: rest => match G[r]? with
      | some (.inl (0, m, .inl f)) => pm_if (pm_in i m) (pc + 1, lv, .int (f i.toNatClampNeg) :: rest, G, c, n)
      | _ => pm_bad
    | _ => pm_bad
  | .baload => match st with
    | .int i :: .ref r :: rest => match G[r]? with
      | some (.inl (2, m, .inl f)) => pm_if (pm_in i m) (pc + 1, lv, .int (f i.toNatClampNeg) :: rest, G, c, n)
      | _ => pm_bad
    | _ => pm_bad
  | .laload => match st with
    | .int i :: .ref r :: rest => match G[r]? with
      | some (.inl (1, m, .inr (.inl f))) => pm_if (pm_in i m) (pc + 1, lv, .long (f i.toNatClampNeg) :: rest, G, c, n)
      | _ => pm_bad
    | _ => pm_bad
  | .aaload => match st with
    | .int i :: .ref r :: rest => match G[r]? with
      | some (.inl (_ + 3, m, .inr (.inr (.inr (.inr f))))) => pm_if (pm_in i m) (pc + 1, lv, pm_rf (f i.toNatClampNeg) :: rest, G, c, n)
      | _ => pm_bad
    | _ => pm_bad
  | .iastore => match st with
    | .int x :: .int i :: .ref (r + 1) :: rest => match G[r + 1]? with
      | some (.inl (0, m, .inl f)) => pm_if (pm_in i m) (pc + 1, lv, rest, G.set (r + 1) (.inl (0, m, .inl (upd f i.toNatClampNeg x))), c, n)
      | _ => pm_bad
    | _ => pm_bad
  | .bastore => match st with
    | .int x :: .int i :: .ref (r + 1) :: rest => match G[r + 1]? with
      | some (.inl (2, m, .inl f)) => pm_if (pm_in i m) (pc + 1, lv, rest, G.set (r + 1) (.inl (2, m, .inl (upd f i.toNatClampNeg (vp_nar .boolean x)))), c, n)
      | _ => pm_bad
    | _ => pm_bad
  | .lastore => match st with
    | .long x :: .int i :: .ref (r + 1) :: rest => match G[r + 1]? with
      | some (.inl (1, m, .inr (.inl f))) => pm_if (pm_in i m) (pc + 1, lv, rest, G.set (r + 1) (.inl (1, m, .inr (.inl (vp_updL f i.toNatClampNeg x)))), c, n)
      | _ => pm_bad
    | _ => pm_bad
  | .aastore => match st with
    | .ref (v + 1) :: .int i :: .ref (r + 1) :: rest => match G[r + 1]?, G[v + 1]? with
      | some (.inl (t + 3, m, .inr (.inr (.inr (.inr f))))), some (.inr (ci, _)) => pm_if (pm_in i m && Nat.beq ci t) (pc + 1, lv, rest, G.set (r + 1) (.inl (t + 3, m, .inr (.inr (.inr (.inr (va_up f i.toNatClampNeg (some (v + 1)))))))), c, n)
      | _, _ => pm_bad
    | .null :: .int i :: .ref (r + 1) :: rest => match G[r + 1]? with
      | some (.inl (t + 3, m, .inr (.inr (.inr (.inr f))))) => pm_if (pm_in i m) (pc + 1, lv, rest, G.set (r + 1) (.inl (t + 3, m, .inr (.inr (.inr (.inr (va_up f i.toNatClampNeg none)))))), c, n)
      | _ => pm_bad
    | _ => pm_bad
  | .arraylength => match st with
    | .ref r :: rest => match G[r]? with
      | some (.inl (_, x)) => pm_ok (pc + 1, lv, .int (Int32.ofNat x.1) :: rest, G, c, n)
      | _ => pm_bad
    | _ => pm_bad
  | .newarray t => match st with
    | .int m :: rest => match pm_tg t with
      | some tg => pm_if (!(decide (m < 0)) && (Nat.ble (m.toNatClampNeg * 8) 536870912 && (Nat.ble 1 c && Nat.ble m.toNatClampNeg n))) (pc + 2, lv, .ref G.length :: rest, G ++ [.inl (tg, m.toNatClampNeg, pm_z tg)], c - 1, n - m.toNatClampNeg)
      | none => pm_bad
    | _ => pm_bad
  | .anewarray _ => match st with
    | .int m :: rest => pm_if (!(decide (m < 0)) && (Nat.ble (m.toNatClampNeg * 4) 536870912 && (Nat.ble 1 c && Nat.ble m.toNatClampNeg n))) (pc + 3, lv, .ref G.length :: rest, G ++ [.inl (a + 3, m.toNatClampNeg, .inr (.inr (.inr (.inr (fun _ => none)))))], c - 1, n - m.toNatClampNeg)
    | _ => pm_bad
  | .new _ => pm_if (Nat.ble 1 c && Nat.ble (pm_nf a) n) (pc + 3, lv, .ref G.length :: st, G ++ [.inr (a, pm_df a)], c - 1, n - pm_nf a)
  | .invokevirtual _ => match pm_pop (pm_na b) st [] with
    | some (as, .ref r :: rest) => match G[r]? with
      | some (.inr (ci, _)) => pm_cl (Nat.beq ci (pm_oc b) && (Nat.ble (pm_bc b) c && (Nat.ble (pm_bs b) n && (pm_ct rest && pm_cs (.ref r :: as) (pm_ml b))))) b (.ref r :: as) rest
      | _ => pm_bad
    | _ => pm_bad
  | .invokespecial _ => match a with
    | 5 => match st with
      | .ref _ :: rest => pm_if (pm_ct rest) (pc + 3, lv, rest, G, c, n)
      | _ => pm_bad
    | _ => match pm_pop (pm_na b) st [] with
      | some (as, .ref r :: rest) => pm_cl (Nat.ble (pm_bc b) c && (Nat.ble (pm_bs b) n && (pm_ct rest && pm_cs (.ref r :: as) (pm_ml b)))) b (.ref r :: as) rest
      | _ => pm_bad
  | .invokestatic _ => match a with
    | 6 => match st with
      | .int u :: .int x :: rest => pm_if (pm_ct rest) (pc + 3, lv, .int (if x < u then u else x) :: rest, G, c, n)
      | _ => pm_bad
    | 7 => match st with
      | .int u :: .int x :: rest => pm_if (pm_ct rest) (pc + 3, lv, .int (if u < x then u else x) :: rest, G, c, n)
      | _ => pm_bad
    | 8 => match st with
      | .int m :: .int dp :: .ref (r + 1) :: .int sp :: .ref (q + 1) :: rest => match G[q + 1]?, G[r + 1]? with
        | some (.inl (0, n0, .inl f)), some (.inl (0, n1, .inl g)) => pm_if (!(decide (sp < 0)) && (!(decide (dp < 0)) && (!(decide (m < 0)) && (Nat.ble (sp.toNatClampNeg + m.toNatClampNeg) n0 && (Nat.ble (dp.toNatClampNeg + m.toNatClampNeg) n1 && pm_ct rest))))) (pc + 3, lv, rest, G.set (r + 1) (.inl (0, n1, .inl (va_cpy f g sp.toNatClampNeg dp.toNatClampNeg m.toNatClampNeg))), c, n)
        | _, _ => pm_bad
      | _ => pm_bad
    | _ => match pm_pop (pm_na b) st [] with
      | some (as, rest) => pm_cl (Nat.ble (pm_bc b) c && (Nat.ble (pm_bs b) n && (pm_ct rest && pm_cs as (pm_ml b)))) b as rest
      | _ => pm_bad
  | .ireturn => match st with
    | [.int x] => match pm_rty y with
      | some .int => pm_rt true (some (.int x))
      | some .boolean => pm_rt (decide (x = 0) || decide (x = 1)) (some (.int x))
      | _ => pm_bad
    | _ => pm_bad
  | .lreturn => match st with
    | [.long x] => match pm_rty y with
      | some .long => pm_rt true (some (.long x))
      | _ => pm_bad
    | _ => pm_bad
  | .areturn => match st with
    | [.ref x] => match pm_rty y with
      | some (.object _) => pm_rt true (some (.ref x))
      | some (.array _) => pm_rt true (some (.ref x))
      | _ => pm_bad
    | [.null] => match pm_rty y with
      | some (.object _) => pm_rt true (some .null)
      | some (.array _) => pm_rt true (some .null)
      | _ => pm_bad
    | _ => pm_bad
  | .return_ => match st with
    | [] => match pm_rty y with
      | none => pm_rt true none
      | _ => pm_bad
    | _ => pm_bad
  | _ => pm_bad
noncomputable def pm_D (y : Nat) (f : pm_F) : pm_R := match pm_k y f.1 with
  | none => pm_bad
  | some (i, a, b) => pm_I y i a b f.1 f.2.1 f.2.2.1 f.2.2.2.1 f.2.2.2.2.1 f.2.2.2.2.2
/-- one step, over what is known of the next ones -/
def pm_K (X : Nat → pm_F → pm_Q → Prop) (y : Nat) (f : pm_F) (Q : pm_Q) (d : pm_R) : Prop := match d with
  | .inl (s, g) => s = true ∧ X y g Q
  | .inr (.inl (t, g, h)) => (t = true → X y g Q) ∧ (t = false → X y h Q)
  | .inr (.inr (.inl (s, r))) => s = true ∧ Q r f.2.2.2.1
  | .inr (.inr (.inr (.inl (s, z, as, rest)))) => s = true ∧ ∃ Q' : pm_Q, X z (0, lv_args 0 as, [], f.2.2.2.1, pm_bc z, pm_bs z) Q' ∧ ∀ r G, Q' r G → X y (f.1 + 3, f.2.1, r.toList ++ rest, G, f.2.2.2.2.1 - pm_bc z, f.2.2.2.2.2 - pm_bs z) Q
  | .inr (.inr (.inr (.inr _))) => False
def pm_N (X : Nat → pm_F → pm_Q → Prop) (y : Nat) (f : pm_F) (Q : pm_Q) : Prop := pm_K X y f Q (pm_D y f)
def pm_WP (y : Nat) (f : pm_F) (Q : pm_Q) : Prop := ∀ X : Nat → pm_F → pm_Q → Prop, (∀ y f Q, pm_N X y f Q → X y f Q) → X y f Q
theorem pm_mono {X Y : Nat → pm_F → pm_Q → Prop} (h : ∀ y f Q, X y f Q → Y y f Q) {y : Nat} {f : pm_F} {Q : pm_Q} (k : pm_N X y f Q) : pm_N Y y f Q := by
  unfold pm_N at k ⊢
  unfold pm_K at k ⊢
  split at k
  · exact ⟨k.1, h _ _ _ k.2⟩
  · exact ⟨fun z => h _ _ _ (k.1 z), fun z => h _ _ _ (k.2 z)⟩
  · exact k
  · obtain ⟨k1, Q', k2, k3⟩ := k
    exact ⟨k1, Q', h _ _ _ k2, fun r G z => h _ _ _ (k3 r G z)⟩
  · exact k
theorem pm_step {y : Nat} {f : pm_F} {Q : pm_Q} (h : pm_N pm_WP y f Q) : pm_WP y f Q := fun X hX => hX _ _ _ (pm_mono (fun _ _ _ k => k X hX) h)
theorem pm_go {y : Nat} {f g : pm_F} {Q : pm_Q} (h : pm_D y f = .inl (true, g)) (k : pm_WP y g Q) : pm_WP y f Q := pm_step (by unfold pm_N; rw [h]; unfold pm_K; exact ⟨rfl, k⟩)
theorem pm_sd {y : Nat} {f g : pm_F} {Q : pm_Q} {s : Bool} (h : pm_D y f = .inl (s, g)) (hs : s = true) (k : pm_WP y g Q) : pm_WP y f Q := pm_step (by unfold pm_N; rw [h]; unfold pm_K; exact ⟨hs, k⟩)
theorem pm_if2 {y : Nat} {f g h : pm_F} {Q : pm_Q} {t : Bool} (e : pm_D y f = .inr (.inl (t, g, h))) (k1 : t = true → pm_WP y g Q) (k2 : t = false → pm_WP y h Q) : pm_WP y f Q := pm_step (by unfold pm_N; rw [e]; unfold pm_K; exact ⟨k1, k2⟩)
theorem pm_ret {y : Nat} {f : pm_F} {Q : pm_Q} {r : Option Value} (h : pm_D y f = .inr (.inr (.inl (true, r)))) (k : Q r f.2.2.2.1) : pm_WP y f Q := pm_step (by unfold pm_N; rw [h]; unfold pm_K; exact ⟨rfl, k⟩)
theorem pm_call {y z : Nat} {f : pm_F} {Q : pm_Q} {as rest : List Value} (h : pm_D y f = .inr (.inr (.inr (.inl (true, z, as, rest))))) (Q' : pm_Q) (k1 : pm_WP z (0, lv_args 0 as, [], f.2.2.2.1, pm_bc z, pm_bs z) Q') (k2 : ∀ r G, Q' r G → pm_WP y (f.1 + 3, f.2.1, r.toList ++ rest, G, f.2.2.2.2.1 - pm_bc z, f.2.2.2.2.2 - pm_bs z) Q) : pm_WP y f Q := pm_step (by unfold pm_N; rw [h]; unfold pm_K; exact ⟨rfl, Q', k1, k2⟩)
/-- the run of a method where nothing is open: by computing -/
noncomputable def pm_big : Nat → Nat → pm_F → Option (Option Value × pm_H)
  | 0, _, _ => none
  | k + 1, y, f => match pm_D y f with
    | .inl (true, g) => pm_big k y g
    | .inr (.inl (true, g, _)) => pm_big k y g
    | .inr (.inl (false, _, h)) => pm_big k y h
    | .inr (.inr (.inl (true, r))) => some (r, f.2.2.2.1)
    | .inr (.inr (.inr (.inl (true, z, as, rest)))) => match pm_big k z (0, lv_args 0 as, [], f.2.2.2.1, pm_bc z, pm_bs z) with
      | some (r, G) => pm_big k y (f.1 + 3, f.2.1, r.toList ++ rest, G, f.2.2.2.2.1 - pm_bc z, f.2.2.2.2.2 - pm_bs z)
      | none => none
    | _ => none
theorem pm_run (k : Nat) : ∀ {y : Nat} {f : pm_F} {Q : pm_Q} {r : Option Value} {G : pm_H}, pm_big k y f = some (r, G) → Q r G → pm_WP y f Q := by
  induction k with
  | zero => intro y f Q r G h; cases h
  | succ k ih =>
    intro y f Q r G h hq
    unfold pm_big at h
    split at h
    · next g e => exact pm_go e (ih h hq)
    · next g g2 e => exact pm_if2 e (fun _ => ih h hq) (fun z => by cases z)
    · next g g2 e => exact pm_if2 e (fun z => by cases z) (fun _ => ih h hq)
    · next r2 e =>
      cases h
      exact pm_ret e hq
    · next z as rest e =>
      split at h
      · next r2 G2 e2 => exact pm_call e (fun r G => r = r2 ∧ G = G2) (ih e2 ⟨rfl, rfl⟩) (fun r3 G3 h3 => by obtain ⟨rfl, rfl⟩ := h3; exact ih h hq)
      · cases h
    · cases h
