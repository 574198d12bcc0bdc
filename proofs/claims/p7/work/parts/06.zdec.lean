/-! instructions, read fast -/
noncomputable def nt (l : List UInt8) : Nat → Option UInt8 := List.rec (motive := fun _ => Nat → Option UInt8) (fun _ => none) (fun b _ ih n => Nat.rec (motive := fun _ => Option UInt8) (some b) (fun m _ => ih m) n) l
theorem nt_e (l : List UInt8) : ∀ n : Nat, nt l n = l[n]? := by
  induction l with
  | nil => intro n; rfl
  | cons b l ih =>
    intro n
    cases n with
    | zero => rfl
    | succ m => exact ih m
noncomputable def fd1 (l : List UInt8) (p : Nat) (f : Nat → Instr) : Option (Instr × Nat) := match nt l (p + 1) with
  | some b => some (f b.toNat, 2)
  | none => none
noncomputable def fd2 (l : List UInt8) (p : Nat) (f : Nat → Instr) : Option (Instr × Nat) := match nt l (p + 1) with
  | some b => (match nt l (p + 2) with
    | some c => some (f (b.toNat * 256 + c.toNat), 3)
    | none => none)
  | none => none
noncomputable def fd3 (l : List UInt8) (p : Nat) : Option (Instr × Nat) := match nt l (p + 1) with
  | some b => (match nt l (p + 2) with
    | some c => some (.iinc b.toNat (Reader.signed 8 c.toNat), 3)
    | none => none)
  | none => none
set_option maxRecDepth 100000 in
noncomputable def fdop (l : List UInt8) (p op : Nat) : Option (Instr × Nat) := cond (Nat.beq op 42) (some ((.aload_n 0), 1)) (cond (Nat.beq op 180) (fd2 l p (.getfield)) (cond (Nat.beq op 182) (fd2 l p (.invokevirtual)) (cond (Nat.beq op 27) (some ((.iload_n 1), 1)) (cond (Nat.beq op 172) (some (.ireturn, 1)) (cond (Nat.beq op 21) (fd1 l p (.iload)) (cond (Nat.beq op 29) (some ((.iload_n 3), 1)) (cond (Nat.beq op 16) (fd1 l p (fun n => .bipush (Reader.signed 8 n))) (cond (Nat.beq op 4) (some ((.iconst 1), 1)) (cond (Nat.beq op 167) (fd2 l p (fun n => .goto (Reader.signed 16 n))) (cond (Nat.beq op 46) (some (.iaload, 1)) (cond (Nat.beq op 3) (some ((.iconst 0), 1)) (cond (Nat.beq op 28) (some ((.iload_n 2), 1)) (cond (Nat.beq op 153) (fd2 l p (fun n => .ifCond .eq (Reader.signed 16 n))) (cond (Nat.beq op 96) (some (.iadd, 1)) (cond (Nat.beq op 181) (fd2 l p (.putfield)) (cond (Nat.beq op 43) (some ((.aload_n 1), 1)) (cond (Nat.beq op 160) (fd2 l p (fun n => .if_icmp .ne (Reader.signed 16 n))) (cond (Nat.beq op 154) (fd2 l p (fun n => .ifCond .ne (Reader.signed 16 n))) (cond (Nat.beq op 54) (fd1 l p (.istore)) (cond (Nat.beq op 6) (some ((.iconst 3), 1)) (cond (Nat.beq op 44) (some ((.aload_n 2), 1)) (cond (Nat.beq op 162) (fd2 l p (fun n => .if_icmp .ge (Reader.signed 16 n))) (cond (Nat.beq op 132) (fd3 l p) (cond (Nat.beq op 1) (some (.aconst_null, 1)) (cond (Nat.beq op 2) (some ((.iconst (-1)), 1)) (cond (Nat.beq op 5) (some ((.iconst 2), 1)) (cond (Nat.beq op 7) (some ((.iconst 4), 1)) (cond (Nat.beq op 8) (some ((.iconst 5), 1)) (cond (Nat.beq op 9) (some ((.lconst 0), 1)) (cond (Nat.beq op 10) (some ((.lconst 1), 1)) (cond (Nat.beq op 17) (fd2 l p (fun n => .sipush (Reader.signed 16 n))) (cond (Nat.beq op 20) (fd2 l p (.ldc2_w)) (cond (Nat.beq op 22) (fd1 l p (.lload)) (cond (Nat.beq op 25) (fd1 l p (.aload)) (cond (Nat.beq op 26) (some ((.iload_n 0), 1)) (cond (Nat.beq op 30) (some ((.lload_n 0), 1)) (cond (Nat.beq op 31) (some ((.lload_n 1), 1)) (cond (Nat.beq op 32) (some ((.lload_n 2), 1)) (cond (Nat.beq op 33) (some ((.lload_n 3), 1)) (cond (Nat.beq op 45) (some ((.aload_n 3), 1)) (cond (Nat.beq op 47) (some (.laload, 1)) (cond (Nat.beq op 50) (some (.aaload, 1)) (cond (Nat.beq op 51) (some (.baload, 1)) (cond (Nat.beq op 55) (fd1 l p (.lstore)) (cond (Nat.beq op 58) (fd1 l p (.astore)) (cond (Nat.beq op 59) (some ((.istore_n 0), 1)) (cond (Nat.beq op 60) (some ((.istore_n 1), 1)) (cond (Nat.beq op 61) (some ((.istore_n 2), 1)) (cond (Nat.beq op 62) (some ((.istore_n 3), 1)) (cond (Nat.beq op 63) (some ((.lstore_n 0), 1)) (cond (Nat.beq op 64) (some ((.lstore_n 1), 1)) (cond (Nat.beq op 65) (some ((.lstore_n 2), 1)) (cond (Nat.beq op 66) (some ((.lstore_n 3), 1)) (cond (Nat.beq op 75) (some ((.astore_n 0), 1)) (cond (Nat.beq op 76) (some ((.astore_n 1), 1)) (cond (Nat.beq op 77) (some ((.astore_n 2), 1)) (cond (Nat.beq op 78) (some ((.astore_n 3), 1)) (cond (Nat.beq op 79) (some (.iastore, 1)) (cond (Nat.beq op 80) (some (.lastore, 1)) (cond (Nat.beq op 83) (some (.aastore, 1)) (cond (Nat.beq op 84) (some (.bastore, 1)) (cond (Nat.beq op 87) (some (.pop, 1)) (cond (Nat.beq op 89) (some (.dup, 1)) (cond (Nat.beq op 92) (some (.dup2, 1)) (cond (Nat.beq op 97) (some (.ladd, 1)) (cond (Nat.beq op 100) (some (.isub, 1)) (cond (Nat.beq op 101) (some (.lsub, 1)) (cond (Nat.beq op 104) (some (.imul, 1)) (cond (Nat.beq op 112) (some (.irem, 1)) (cond (Nat.beq op 120) (some (.ishl, 1)) (cond (Nat.beq op 121) (some (.lshl, 1)) (cond (Nat.beq op 122) (some (.ishr, 1)) (cond (Nat.beq op 123) (some (.lshr, 1)) (cond (Nat.beq op 125) (some (.lushr, 1)) (cond (Nat.beq op 126) (some (.iand, 1)) (cond (Nat.beq op 127) (some (.land, 1)) (cond (Nat.beq op 128) (some (.ior, 1)) (cond (Nat.beq op 129) (some (.lor, 1)) (cond (Nat.beq op 130) (some (.ixor, 1)) (cond (Nat.beq op 131) (some (.lxor, 1)) (cond (Nat.beq op 136) (some (.l2i, 1)) (cond (Nat.beq op 148) (some (.lcmp, 1)) (cond (Nat.beq op 155) (fd2 l p (fun n => .ifCond .lt (Reader.signed 16 n))) (cond (Nat.beq op 156) (fd2 l p (fun n => .ifCond .ge (Reader.signed 16 n))) (cond (Nat.beq op 157) (fd2 l p (fun n => .ifCond .gt (Reader.signed 16 n))) (cond (Nat.beq op 158) (fd2 l p (fun n => .ifCond .le (Reader.signed 16 n))) (cond (Nat.beq op 159) (fd2 l p (fun n => .if_icmp .eq (Reader.signed 16 n))) (cond (Nat.beq op 161) (fd2 l p (fun n => .if_icmp .lt (Reader.signed 16 n))) (cond (Nat.beq op 163) (fd2 l p (fun n => .if_icmp .gt (Reader.signed 16 n))) (cond (Nat.beq op 164) (fd2 l p (fun n => .if_icmp .le (Reader.signed 16 n))) (cond (Nat.beq op 173) (some (.lreturn, 1)) (cond (Nat.beq op 176) (some (.areturn, 1)) (cond (Nat.beq op 177) (some (.return_, 1)) (cond (Nat.beq op 183) (fd2 l p (.invokespecial)) (cond (Nat.beq op 184) (fd2 l p (.invokestatic)) (cond (Nat.beq op 187) (fd2 l p (.new)) (cond (Nat.beq op 189) (fd2 l p (.anewarray)) (cond (Nat.beq op 190) (some (.arraylength, 1)) (cond (Nat.beq op 198) (fd2 l p (fun n => .ifnull (Reader.signed 16 n))) (cond (Nat.beq op 199) (fd2 l p (fun n => .ifnonnull (Reader.signed 16 n))) (none)))))))))))))))))))))))))))))))))))))))))))))))))))))))))))))))))))))))))))))))))))))))))))))))))))))
noncomputable def fdec (l : List UInt8) (p : Nat) : Option (Instr × Nat) := match nt l p with
  | some b => fdop l p b.toNat
  | none => none
theorem rd1 {cc : ByteArray} {p : Nat} {b : UInt8} (h : cc.data.toList[p]? = some b) : (Reader.u1 : Decoder Nat) cc p = .ok (b.toNat, p + 1) := by
  have h1 : cc.data[p]? = some b := by rw [← Array.getElem?_toList]; exact h
  obtain ⟨hp, e⟩ := Array.getElem?_eq_some_iff.mp h1
  show (if h : p < cc.size then _ else _ : Decoder Nat) cc p = _
  rw [dif_pos (show p < cc.size from hp)]
  show Except.ok (cc[p].toNat, p + 1) = _
  rw [show cc[p] = b from e]
theorem rd_b {α β : Type} {M : Decoder α} {K : α → Decoder β} {cc : ByteArray} {p n : Nat} {x : α} (h : M cc p = .ok (x, n)) : (M >>= K) cc p = K x cc n := by
  show Except.bind (M cc p) (fun v => K v.1 cc v.2) = _
  rw [h]
  rfl
theorem rd2 {cc : ByteArray} {p : Nat} {b c : UInt8} (h : cc.data.toList[p]? = some b) (h2 : cc.data.toList[p + 1]? = some c) : (Reader.u2 : Decoder Nat) cc p = .ok (b.toNat * 256 + c.toNat, p + 2) := by
  show ((Reader.u1 : Decoder Nat) >>= fun hi => (Reader.u1 : Decoder Nat) >>= fun lo => Pure.pure (hi * 256 + lo)) cc p = _
  rw [rd_b (rd1 h), rd_b (rd1 h2)]
  rfl
theorem rs {M : Decoder Nat} {cc : ByteArray} {p n x : Nat} {g : Nat → Int} (h : M cc p = .ok (x, n)) : (g <$> M) cc p = .ok (g x, n) := by
  show Except.bind (M cc p) (fun v => Except.ok (g v.1, v.2)) = _
  rw [h]
  rfl
theorem rs1 {cc : ByteArray} {p n x : Nat} (h : (Reader.u1 : Decoder Nat) cc p = .ok (x, n)) : (Reader.s1 : Decoder Int) cc p = .ok (Reader.signed 8 x, n) := rs h
theorem rs2 {cc : ByteArray} {p n x : Nat} (h : (Reader.u2 : Decoder Nat) cc p = .ok (x, n)) : (Reader.s2 : Decoder Int) cc p = .ok (Reader.signed 16 x, n) := rs h
theorem de {M : Decoder Instr} {cc : ByteArray} {p n : Nat} {i : Instr} (hM : Decoder.instr p = M) (h : M cc p = .ok (i, n)) : decode cc p = .ok (i, n - p) := by
  show Except.bind (Decoder.instr p cc p) (fun v => Except.ok (v.1, v.2 - p)) = _
  rw [hM, h]
  rfl
theorem dz {K : Nat → Decoder Instr} {cc : ByteArray} {p op : Nat} {b : UInt8} {i : Instr} {r : Instr × Nat} (hK : Decoder.instr p = Reader.u1 >>= K) (h0 : cc.data.toList[p]? = some b) (q : Nat.beq b.toNat op = true) (hi : K op = Pure.pure i) (h : some (i, 1) = some r) : decode cc p = .ok r := by
  have e := Nat.eq_of_beq_eq_true q
  rw [de hK (rd_b (rd1 h0) |>.trans (by rw [e, hi]; rfl)), show p + 1 - p = 1 by omega]
  exact congrArg Except.ok (Option.some.inj h)
theorem d1 {K : Nat → Decoder Instr} {cc : ByteArray} {p op : Nat} {b : UInt8} {f : Nat → Instr} {r : Instr × Nat} (hK : Decoder.instr p = Reader.u1 >>= K) (h0 : cc.data.toList[p]? = some b) (q : Nat.beq b.toNat op = true) (hi : K op = (Reader.u1 >>= fun x => Pure.pure (f x))) (h : fd1 cc.data.toList p f = some r) : decode cc p = .ok r := by
  have e := Nat.eq_of_beq_eq_true q
  unfold fd1 at h
  rw [nt_e] at h
  split at h
  · next c h1 =>
    rw [de hK (rd_b (rd1 h0) |>.trans (by rw [e, hi, rd_b (rd1 h1)]; rfl)), show p + 1 + 1 - p = 2 by omega]
    exact congrArg Except.ok (Option.some.inj h)
  · cases h
theorem d1s {K : Nat → Decoder Instr} {cc : ByteArray} {p op : Nat} {b : UInt8} {f : Int → Instr} {r : Instr × Nat} (hK : Decoder.instr p = Reader.u1 >>= K) (h0 : cc.data.toList[p]? = some b) (q : Nat.beq b.toNat op = true) (hi : K op = (Reader.s1 >>= fun x => Pure.pure (f x))) (h : fd1 cc.data.toList p (fun n => f (Reader.signed 8 n)) = some r) : decode cc p = .ok r := by
  have e := Nat.eq_of_beq_eq_true q
  unfold fd1 at h
  rw [nt_e] at h
  split at h
  · next c h1 =>
    rw [de hK (rd_b (rd1 h0) |>.trans (by rw [e, hi, rd_b (rs1 (rd1 h1))]; rfl)), show p + 1 + 1 - p = 2 by omega]
    exact congrArg Except.ok (Option.some.inj h)
  · cases h
theorem d2 {K : Nat → Decoder Instr} {cc : ByteArray} {p op : Nat} {b : UInt8} {f : Nat → Instr} {r : Instr × Nat} (hK : Decoder.instr p = Reader.u1 >>= K) (h0 : cc.data.toList[p]? = some b) (q : Nat.beq b.toNat op = true) (hi : K op = (Reader.u2 >>= fun x => Pure.pure (f x))) (h : fd2 cc.data.toList p f = some r) : decode cc p = .ok r := by
  have e := Nat.eq_of_beq_eq_true q
  unfold fd2 at h
  rw [nt_e, nt_e] at h
  split at h
  · next c h1 =>
    split at h
    · next d h2 =>
      rw [de hK (rd_b (rd1 h0) |>.trans (by rw [e, hi, rd_b (rd2 h1 h2)]; rfl)), show p + 1 + 2 - p = 3 by omega]
      exact congrArg Except.ok (Option.some.inj h)
    · cases h
  · cases h
theorem d2s {K : Nat → Decoder Instr} {cc : ByteArray} {p op : Nat} {b : UInt8} {f : Int → Instr} {r : Instr × Nat} (hK : Decoder.instr p = Reader.u1 >>= K) (h0 : cc.data.toList[p]? = some b) (q : Nat.beq b.toNat op = true) (hi : K op = (Reader.s2 >>= fun x => Pure.pure (f x))) (h : fd2 cc.data.toList p (fun n => f (Reader.signed 16 n)) = some r) : decode cc p = .ok r := by
  have e := Nat.eq_of_beq_eq_true q
  unfold fd2 at h
  rw [nt_e, nt_e] at h
  split at h
  · next c h1 =>
    split at h
    · next d h2 =>
      rw [de hK (rd_b (rd1 h0) |>.trans (by rw [e, hi, rd_b (rs2 (rd2 h1 h2))]; rfl)), show p + 1 + 2 - p = 3 by omega]
      exact congrArg Except.ok (Option.some.inj h)
    · cases h
  · cases h
theorem d3 {K : Nat → Decoder Instr} {cc : ByteArray} {p op : Nat} {b : UInt8} {r : Instr × Nat} (hK : Decoder.instr p = Reader.u1 >>= K) (h0 : cc.data.toList[p]? = some b) (q : Nat.beq b.toNat op = true) (hi : K op = (Reader.u1 >>= fun x => Reader.s1 >>= fun y => Pure.pure (.iinc x y))) (h : fd3 cc.data.toList p = some r) : decode cc p = .ok r := by
  have e := Nat.eq_of_beq_eq_true q
  unfold fd3 at h
  rw [nt_e, nt_e] at h
  split at h
  · next c h1 =>
    split at h
    · next d h2 =>
      rw [de hK (rd_b (rd1 h0) |>.trans (by rw [e, hi, rd_b (rd1 h1), rd_b (rs1 (rd1 (p := p + 1 + 1) h2))]; rfl)), show p + 1 + 1 + 1 - p = 3 by omega]
      exact congrArg Except.ok (Option.some.inj h)
    · cases h
  · cases h
theorem cdE {α : Type} {c : Bool} {A B : Option α} {r : α} (h : cond c A B = some r) : (c = true ∧ A = some r) ∨ B = some r := by
  cases c
  · exact Or.inr h
  · exact Or.inl ⟨rfl, h⟩
set_option maxRecDepth 100000 in
set_option maxHeartbeats 4000000 in
theorem fdop_ok {cc : ByteArray} {p : Nat} {b : UInt8} {r : Instr × Nat} (h0 : cc.data.toList[p]? = some b) (h : fdop cc.data.toList p b.toNat = some r) : decode cc p = .ok r := by
  unfold fdop at h
  rcases cdE h with ⟨q, w⟩ | h
  · exact dz rfl h0 q rfl w
  rcases cdE h with ⟨q, w⟩ | h
  · exact d2 rfl h0 q rfl w
  rcases cdE h with ⟨q, w⟩ | h
  · exact d2 rfl h0 q rfl w
  rcases cdE h with ⟨q, w⟩ | h
  · exact dz rfl h0 q rfl w
  rcases cdE h with ⟨q, w⟩ | h
  · exact dz rfl h0 q rfl w
  rcases cdE h with ⟨q, w⟩ | h
  · exact d1 rfl h0 q rfl w
  rcases cdE h with ⟨q, w⟩ | h
  · exact dz rfl h0 q rfl w
  rcases cdE h with ⟨q, w⟩ | h
  · exact d1s rfl h0 q rfl w
  rcases cdE h with ⟨q, w⟩ | h
  · exact dz rfl h0 q rfl w
  rcases cdE h with ⟨q, w⟩ | h
  · exact d2s rfl h0 q rfl w
  rcases cdE h with ⟨q, w⟩ | h
  · exact dz rfl h0 q rfl w
  rcases cdE h with ⟨q, w⟩ | h
  · exact dz rfl h0 q rfl w
  rcases cdE h with ⟨q, w⟩ | h
  · exact dz rfl h0 q rfl w
  rcases cdE h with ⟨q, w⟩ | h
  · exact d2s rfl h0 q rfl w
  rcases cdE h with ⟨q, w⟩ | h
  · exact dz rfl h0 q rfl w
  rcases cdE h with ⟨q, w⟩ | h
  · exact d2 rfl h0 q rfl w
  rcases cdE h with ⟨q, w⟩ | h
  · exact dz rfl h0 q rfl w
  rcases cdE h with ⟨q, w⟩ | h
  · exact d2s rfl h0 q rfl w
  rcases cdE h with ⟨q, w⟩ | h
  · exact d2s rfl h0 q rfl w
  rcases cdE h with ⟨q, w⟩ | h
  · exact d1 rfl h0 q rfl w
  rcases cdE h with ⟨q, w⟩ | h
  · exact dz rfl h0 q rfl w
  rcases cdE h with ⟨q, w⟩ | h
  · exact dz rfl h0 q rfl w
  rcases cdE h with ⟨q, w⟩ | h
  · exact d2s rfl h0 q rfl w
  rcases cdE h with ⟨q, w⟩ | h
  · exact d3 rfl h0 q rfl w
  rcases cdE h with ⟨q, w⟩ | h
  · exact dz rfl h0 q rfl w
  rcases cdE h with ⟨q, w⟩ | h
  · exact dz rfl h0 q rfl w
  rcases cdE h with ⟨q, w⟩ | h
  · exact dz rfl h0 q rfl w
  rcases cdE h with ⟨q, w⟩ | h
  · exact dz rfl h0 q rfl w
  rcases cdE h with ⟨q, w⟩ | h
  · exact dz rfl h0 q rfl w
  rcases cdE h with ⟨q, w⟩ | h
  · exact dz rfl h0 q rfl w
  rcases cdE h with ⟨q, w⟩ | h
  · exact dz rfl h0 q rfl w
  rcases cdE h with ⟨q, w⟩ | h
  · exact d2s rfl h0 q rfl w
  rcases cdE h with ⟨q, w⟩ | h
  · exact d2 rfl h0 q rfl w
  rcases cdE h with ⟨q, w⟩ | h
  · exact d1 rfl h0 q rfl w
  rcases cdE h with ⟨q, w⟩ | h
  · exact d1 rfl h0 q rfl w
  rcases cdE h with ⟨q, w⟩ | h
  · exact dz rfl h0 q rfl w
  rcases cdE h with ⟨q, w⟩ | h
  · exact dz rfl h0 q rfl w
  rcases cdE h with ⟨q, w⟩ | h
  · exact dz rfl h0 q rfl w
  rcases cdE h with ⟨q, w⟩ | h
  · exact dz rfl h0 q rfl w
  rcases cdE h with ⟨q, w⟩ | h
  · exact dz rfl h0 q rfl w
  rcases cdE h with ⟨q, w⟩ | h
  · exact dz rfl h0 q rfl w
  rcases cdE h with ⟨q, w⟩ | h
  · exact dz rfl h0 q rfl w
  rcases cdE h with ⟨q, w⟩ | h
  · exact dz rfl h0 q rfl w
  rcases cdE h with ⟨q, w⟩ | h
  · exact dz rfl h0 q rfl w
  rcases cdE h with ⟨q, w⟩ | h
  · exact d1 rfl h0 q rfl w
  rcases cdE h with ⟨q, w⟩ | h
  · exact d1 rfl h0 q rfl w
  rcases cdE h with ⟨q, w⟩ | h
  · exact dz rfl h0 q rfl w
  rcases cdE h with ⟨q, w⟩ | h
  · exact dz rfl h0 q rfl w
  rcases cdE h with ⟨q, w⟩ | h
  · exact dz rfl h0 q rfl w
  rcases cdE h with ⟨q, w⟩ | h
  · exact dz rfl h0 q rfl w
  rcases cdE h with ⟨q, w⟩ | h
  · exact dz rfl h0 q rfl w
  rcases cdE h with ⟨q, w⟩ | h
  · exact dz rfl h0 q rfl w
  rcases cdE h with ⟨q, w⟩ | h
  · exact dz rfl h0 q rfl w
  rcases cdE h with ⟨q, w⟩ | h
  · exact dz rfl h0 q rfl w
  rcases cdE h with ⟨q, w⟩ | h
  · exact dz rfl h0 q rfl w
  rcases cdE h with ⟨q, w⟩ | h
  · exact dz rfl h0 q rfl w
  rcases cdE h with ⟨q, w⟩ | h
  · exact dz rfl h0 q rfl w
  rcases cdE h with ⟨q, w⟩ | h
  · exact dz rfl h0 q rfl w
  rcases cdE h with ⟨q, w⟩ | h
  · exact dz rfl h0 q rfl w
  rcases cdE h with ⟨q, w⟩ | h
  · exact dz rfl h0 q rfl w
  rcases cdE h with ⟨q, w⟩ | h
  · exact dz rfl h0 q rfl w
  rcases cdE h with ⟨q, w⟩ | h
  · exact dz rfl h0 q rfl w
  rcases cdE h with ⟨q, w⟩ | h
  · exact dz rfl h0 q rfl w
  rcases cdE h with ⟨q, w⟩ | h
  · exact dz rfl h0 q rfl w
  rcases cdE h with ⟨q, w⟩ | h
  · exact dz rfl h0 q rfl w
  rcases cdE h with ⟨q, w⟩ | h
  · exact dz rfl h0 q rfl w
  rcases cdE h with ⟨q, w⟩ | h
  · exact dz rfl h0 q rfl w
  rcases cdE h with ⟨q, w⟩ | h
  · exact dz rfl h0 q rfl w
  rcases cdE h with ⟨q, w⟩ | h
  · exact dz rfl h0 q rfl w
  rcases cdE h with ⟨q, w⟩ | h
  · exact dz rfl h0 q rfl w
  rcases cdE h with ⟨q, w⟩ | h
  · exact dz rfl h0 q rfl w
  rcases cdE h with ⟨q, w⟩ | h
  · exact dz rfl h0 q rfl w
  rcases cdE h with ⟨q, w⟩ | h
  · exact dz rfl h0 q rfl w
  rcases cdE h with ⟨q, w⟩ | h
  · exact dz rfl h0 q rfl w
  rcases cdE h with ⟨q, w⟩ | h
  · exact dz rfl h0 q rfl w
  rcases cdE h with ⟨q, w⟩ | h
  · exact dz rfl h0 q rfl w
  rcases cdE h with ⟨q, w⟩ | h
  · exact dz rfl h0 q rfl w
  rcases cdE h with ⟨q, w⟩ | h
  · exact dz rfl h0 q rfl w
  rcases cdE h with ⟨q, w⟩ | h
  · exact dz rfl h0 q rfl w
  rcases cdE h with ⟨q, w⟩ | h
  · exact dz rfl h0 q rfl w
  rcases cdE h with ⟨q, w⟩ | h
  · exact dz rfl h0 q rfl w
  rcases cdE h with ⟨q, w⟩ | h
  · exact dz rfl h0 q rfl w
  rcases cdE h with ⟨q, w⟩ | h
  · exact dz rfl h0 q rfl w
  rcases cdE h with ⟨q, w⟩ | h
  · exact d2s rfl h0 q rfl w
  rcases cdE h with ⟨q, w⟩ | h
  · exact d2s rfl h0 q rfl w
  rcases cdE h with ⟨q, w⟩ | h
  · exact d2s rfl h0 q rfl w
  rcases cdE h with ⟨q, w⟩ | h
  · exact d2s rfl h0 q rfl w
  rcases cdE h with ⟨q, w⟩ | h
  · exact d2s rfl h0 q rfl w
  rcases cdE h with ⟨q, w⟩ | h
  · exact d2s rfl h0 q rfl w
  rcases cdE h with ⟨q, w⟩ | h
  · exact d2s rfl h0 q rfl w
  rcases cdE h with ⟨q, w⟩ | h
  · exact d2s rfl h0 q rfl w
  rcases cdE h with ⟨q, w⟩ | h
  · exact dz rfl h0 q rfl w
  rcases cdE h with ⟨q, w⟩ | h
  · exact dz rfl h0 q rfl w
  rcases cdE h with ⟨q, w⟩ | h
  · exact dz rfl h0 q rfl w
  rcases cdE h with ⟨q, w⟩ | h
  · exact d2 rfl h0 q rfl w
  rcases cdE h with ⟨q, w⟩ | h
  · exact d2 rfl h0 q rfl w
  rcases cdE h with ⟨q, w⟩ | h
  · exact d2 rfl h0 q rfl w
  rcases cdE h with ⟨q, w⟩ | h
  · exact d2 rfl h0 q rfl w
  rcases cdE h with ⟨q, w⟩ | h
  · exact dz rfl h0 q rfl w
  rcases cdE h with ⟨q, w⟩ | h
  · exact d2s rfl h0 q rfl w
  rcases cdE h with ⟨q, w⟩ | h
  · exact d2s rfl h0 q rfl w
  cases h
theorem fdec_ok {cc : ByteArray} {p : Nat} {r : Instr × Nat} (h : fdec cc.data.toList p = some r) : decode cc p = .ok r := by
  unfold fdec at h
  rw [nt_e] at h
  split at h
  · next b h0 => exact fdop_ok h0 h
  · cases h
theorem nt_d (l : List UInt8) (c n : Nat) : nt (l.drop c) n = nt l (c + n) := by rw [nt_e, nt_e, List.getElem?_drop]
theorem fd1_d (l : List UInt8) (c p : Nat) (f : Nat → Instr) : fd1 (l.drop c) p f = fd1 l (c + p) f := by unfold fd1; rw [nt_d]; rfl
theorem fd2_d (l : List UInt8) (c p : Nat) (f : Nat → Instr) : fd2 (l.drop c) p f = fd2 l (c + p) f := by unfold fd2; rw [nt_d, nt_d]; rfl
theorem fd3_d (l : List UInt8) (c p : Nat) : fd3 (l.drop c) p = fd3 l (c + p) := by unfold fd3; rw [nt_d, nt_d]; rfl
set_option maxRecDepth 100000 in
theorem fdop_d (l : List UInt8) (c p op : Nat) : fdop (l.drop c) p op = fdop l (c + p) op := by unfold fdop; simp only [fd1_d, fd2_d, fd3_d]
theorem fdec_d (l : List UInt8) (c p : Nat) : fdec (l.drop c) p = fdec l (c + p) := by
  unfold fdec
  rw [nt_d]
  split
  · exact fdop_d l c p _
  · rfl
noncomputable def pm_chq (y c pc : Nat) (cc : ByteArray) (r : Option (Instr × Nat × Nat)) : Bool := match r with
  | none => true
  | some (i, a, b) => (decide (fdec (cc.data.toList.drop c) pc = some (pm_dec i a)) || decide (decode cc (c + pc) = .ok (pm_dec i a))) && pm_lnk y (c + pc) i a b
theorem pm_chq_ok {y c pc : Nat} {cc : ByteArray} {r : Option (Instr × Nat × Nat)} (h : pm_chq y c pc cc r = true) : pm_chk y (c + pc) cc r = true := by
  match r, h with
  | none, _ => rfl
  | some (i, a, b), h =>
    have h : ((decide (fdec (cc.data.toList.drop c) pc = some (pm_dec i a)) || decide (decode cc (c + pc) = .ok (pm_dec i a))) && pm_lnk y (c + pc) i a b) = true := h
    rw [Bool.and_eq_true, Bool.or_eq_true] at h
    show (decide (decode cc (c + pc) = .ok (pm_dec i a)) && pm_lnk y (c + pc) i a b) = true
    rw [Bool.and_eq_true]
    refine ⟨?_, h.2⟩
    rcases h.1 with q | q
    · have q := of_decide_eq_true q
      rw [fdec_d] at q
      exact decide_eq_true (fdec_ok q)
    · exact q
theorem pm_chq_0 {y pc : Nat} {cc : ByteArray} {r : Option (Instr × Nat × Nat)} (h : pm_chq y 0 pc cc r = true) : pm_chk y pc cc r = true := by
  have := pm_chq_ok h
  rw [Nat.zero_add] at this
  exact this
