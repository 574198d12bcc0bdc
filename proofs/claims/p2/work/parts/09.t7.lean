set_option maxHeartbeats 8000000 in
theorem pm_sound1 {l : Launch} {b base L : Nat} {xs : Nat → Int32} {D : va_G} {κ : Nat → ClassId} {y pc : Nat} {lv : pm_L} {st : List Value} {G : pm_H} {c n : Nat} {Q : pm_Q} (hnr : ∀ t r, pm_D y (pc, lv, st, G, c, n) ≠ .inr (.inr (.inl (t, r)))) (h : pm_K (pm_X l b base L xs D κ) y (pc, lv, st, G, c, n) Q (pm_D y (pc, lv, st, G, c, n))) : pm_X l b base L xs D κ y (pc, lv, st, G, c, n) Q := by
  unfold pm_D at h hnr
  dsimp only at h hnr
  cases hk : pm_k y pc with
  | none => rw [hk] at h; exact h.elim
  | some e' =>
    obtain ⟨i, a, bb⟩ := e'
    rw [hk] at h hnr
    dsimp only at h hnr
    obtain ⟨hd, hln⟩ := pm_ck _ _ _ _ _ hk
    have hy : Nat.blt y 191 = true := by
      unfold pm_k at hk
      cases hb : Nat.blt y 191 with
      | true => rfl
      | false => rw [hb] at hk; cases hk
    cases i with
    | aconst_null => exact sS_aconst_null _ _ _ _ _ _ _ _ _ _ hy hd hln h
    | iconst _ => exact sS_iconst _ _ _ _ _ _ _ _ _ _ hy hd hln h
    | bipush _ => exact sS_bipush _ _ _ _ _ _ _ _ _ _ hy hd hln h
    | sipush _ => exact sS_sipush _ _ _ _ _ _ _ _ _ _ hy hd hln h
    | lconst _ => exact sS_lconst _ _ _ _ _ _ _ _ _ _ hy hd hln h
    | ldc2_w _ => exact sS_ldc2_w _ _ _ _ _ _ _ _ _ _ hy hd hln h
    | aload_n _ => exact sS_aload_n _ _ _ _ _ _ _ _ _ _ hy hd hln h
    | aload _ => exact sS_aload _ _ _ _ _ _ _ _ _ _ hy hd hln h
    | iload_n _ => exact sS_iload_n _ _ _ _ _ _ _ _ _ _ hy hd hln h
    | iload _ => exact sS_iload _ _ _ _ _ _ _ _ _ _ hy hd hln h
    | lload_n _ => exact sS_lload_n _ _ _ _ _ _ _ _ _ _ hy hd hln h
    | lload _ => exact sS_lload _ _ _ _ _ _ _ _ _ _ hy hd hln h
    | istore_n _ => exact sS_istore_n _ _ _ _ _ _ _ _ _ _ hy hd hln h
    | istore _ => exact sS_istore _ _ _ _ _ _ _ _ _ _ hy hd hln h
    | astore_n _ => exact sS_astore_n _ _ _ _ _ _ _ _ _ _ hy hd hln h
    | astore _ => exact sS_astore _ _ _ _ _ _ _ _ _ _ hy hd hln h
    | lstore_n _ => exact sS_lstore_n _ _ _ _ _ _ _ _ _ _ hy hd hln h
    | lstore _ => exact sS_lstore _ _ _ _ _ _ _ _ _ _ hy hd hln h
    | iinc _ _ => exact sS_iinc _ _ _ _ _ _ _ _ _ _ hy hd hln h
    | iadd => exact sS_iadd _ _ _ _ _ _ _ _ _ _ hy hd hln h
    | isub => exact sS_isub _ _ _ _ _ _ _ _ _ _ hy hd hln h
    | imul => exact sS_imul _ _ _ _ _ _ _ _ _ _ hy hd hln h
    | irem => exact sS_irem _ _ _ _ _ _ _ _ _ _ hy hd hln h
    | iand => exact sS_iand _ _ _ _ _ _ _ _ _ _ hy hd hln h
    | ior => exact sS_ior _ _ _ _ _ _ _ _ _ _ hy hd hln h
    | ixor => exact sS_ixor _ _ _ _ _ _ _ _ _ _ hy hd hln h
    | ishl => exact sS_ishl _ _ _ _ _ _ _ _ _ _ hy hd hln h
    | ishr => exact sS_ishr _ _ _ _ _ _ _ _ _ _ hy hd hln h
    | ladd => exact sS_ladd _ _ _ _ _ _ _ _ _ _ hy hd hln h
    | lsub => exact sS_lsub _ _ _ _ _ _ _ _ _ _ hy hd hln h
    | land => exact sS_land _ _ _ _ _ _ _ _ _ _ hy hd hln h
    | lor => exact sS_lor _ _ _ _ _ _ _ _ _ _ hy hd hln h
    | lxor => exact sS_lxor _ _ _ _ _ _ _ _ _ _ hy hd hln h
    | lshl => exact sS_lshl _ _ _ _ _ _ _ _ _ _ hy hd hln h
    | lshr => exact sS_lshr _ _ _ _ _ _ _ _ _ _ hy hd hln h
    | lushr => exact sS_lushr _ _ _ _ _ _ _ _ _ _ hy hd hln h
    | lcmp => exact sS_lcmp _ _ _ _ _ _ _ _ _ _ hy hd hln h
    | l2i => exact sS_l2i _ _ _ _ _ _ _ _ _ _ hy hd hln h
    | i2l => exact sS_i2l _ _ _ _ _ _ _ _ _ _ hy hd hln h
    | dup => exact sS_dup _ _ _ _ _ _ _ _ _ _ hy hd hln h
    | pop => exact sS_pop _ _ _ _ _ _ _ _ _ _ hy hd hln h
    | dup2 => exact sS_dup2 _ _ _ _ _ _ _ _ _ _ hy hd hln h
    | ifCond _ _ => exact sS_ifCond _ _ _ _ _ _ _ _ _ _ hy hd hln h
    | if_icmp _ _ => exact sS_if_icmp _ _ _ _ _ _ _ _ _ _ hy hd hln h
    | ifnull _ => exact sS_ifnull _ _ _ _ _ _ _ _ _ _ hy hd hln h
    | ifnonnull _ => exact sS_ifnonnull _ _ _ _ _ _ _ _ _ _ hy hd hln h
    | goto _ => exact sS_goto _ _ _ _ _ _ _ _ _ _ hy hd hln h
    | tableswitch _ _ _ _ => exact sS_tableswitch _ _ _ _ _ _ _ _ _ _ hy hd hln h
    | getfield _ => exact sS_getfield _ _ _ _ _ _ _ _ _ _ hy hd hln h
    | putfield _ => exact sS_putfield _ _ _ _ _ _ _ _ _ _ hy hd hln h
    | iaload => exact sS_iaload _ _ _ _ _ _ _ _ _ _ hy hd hln h
    | baload => exact sS_baload _ _ _ _ _ _ _ _ _ _ hy hd hln h
    | laload => exact sS_laload _ _ _ _ _ _ _ _ _ _ hy hd hln h
    | aaload => exact sS_aaload _ _ _ _ _ _ _ _ _ _ hy hd hln h
    | iastore => exact sS_iastore _ _ _ _ _ _ _ _ _ _ hy hd hln h
    | bastore => exact sS_bastore _ _ _ _ _ _ _ _ _ _ hy hd hln h
    | lastore => exact sS_lastore _ _ _ _ _ _ _ _ _ _ hy hd hln h
    | aastore => exact sS_aastore _ _ _ _ _ _ _ _ _ _ hy hd hln h
    | arraylength => exact sS_arraylength _ _ _ _ _ _ _ _ _ _ hy hd hln h
    | newarray _ => exact sS_newarray _ _ _ _ _ _ _ _ _ _ hy hd hln h
    | anewarray _ => exact sS_anewarray _ _ _ _ _ _ _ _ _ _ hy hd hln h
    | new _ => exact sS_new _ _ _ _ _ _ _ _ _ _ hy hd hln h
    | invokevirtual _ => exact sS_invokevirtual _ _ _ _ _ _ _ _ _ _ hy hd hln h
    | invokespecial _ => exact sS_invokespecial _ _ _ _ _ _ _ _ _ _ hy hd hln h
    | invokestatic _ => exact sS_invokestatic _ _ _ _ _ _ _ _ _ _ hy hd hln h
    | ireturn =>
      unfold pm_I at h hnr
      dsimp only at h hnr
      repeat' split at h
      all_goals first | exact h.elim | (rename_i e1; exfalso; dsimp only at hnr; rw [e1] at hnr; exact hnr _ _ rfl)
    | lreturn =>
      unfold pm_I at h hnr
      dsimp only at h hnr
      repeat' split at h
      all_goals first | exact h.elim | (rename_i e1; exfalso; dsimp only at hnr; rw [e1] at hnr; exact hnr _ _ rfl)
    | areturn =>
      unfold pm_I at h hnr
      dsimp only at h hnr
      repeat' split at h
      all_goals first | exact h.elim | (rename_i e1; exfalso; dsimp only at hnr; rw [e1] at hnr; exact hnr _ _ rfl)
    | return_ =>
      unfold pm_I at h hnr
      dsimp only at h hnr
      repeat' split at h
      all_goals first | exact h.elim | (rename_i e1; exfalso; dsimp only at hnr; rw [e1] at hnr; exact hnr _ _ rfl)
    | _ => exact h.elim
set_option maxHeartbeats 8000000 in
theorem pm_sound {l : Launch} {b base L : Nat} {xs : Nat → Int32} {D : va_G} {κ : Nat → ClassId} : ∀ (y : Nat) (f : pm_F) (Q : pm_Q), pm_N (pm_X l b base L xs D κ) y f Q → pm_X l b base L xs D κ y f Q := by
  intro y f Q h
  obtain ⟨pc, lv, st, G, c, n⟩ := f
  unfold pm_N at h
  cases hD : pm_D y (pc, lv, st, G, c, n) with
  | inr d =>
    match d, hD with
    | .inr (.inl (t, r)), hD =>
      rw [hD] at h
      obtain ⟨h1, h2⟩ := h
      subst h1
      intro p e s m args below meth cd R Z H locs ls cells slots hC hZ hR hS hl hc hn
      exact hZ r pc lv st G c n H locs ls cells slots hD h2 hR hS (by dsimp only at hc; omega) (by dsimp only at hn; omega)
    | .inl d, hD => exact pm_sound1 (fun t r q => by rw [q] at hD; cases hD) h
    | .inr (.inr d), hD => exact pm_sound1 (fun t r q => by rw [q] at hD; cases hD) h
  | inl d => exact pm_sound1 (fun t r q => by rw [q] at hD; cases hD) h
theorem pm_wp {l : Launch} {b base L : Nat} {xs : Nat → Int32} {D : va_G} {κ : Nat → ClassId} {y : Nat} {f : pm_F} {Q : pm_Q} (h : pm_WP y f Q) : pm_X l b base L xs D κ y f Q := h _ pm_sound
