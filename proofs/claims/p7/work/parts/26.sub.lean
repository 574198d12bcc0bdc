/-! more locals do no harm -/
def pm_le (lv lv' : pm_L) : Prop := (∀ q, q ∈ lv → q ∈ lv') ∧ (lv'.map Prod.fst).Nodup
theorem pm_lvmem : ∀ {lv : pm_L} {i : Nat} {v : Value}, pm_lv lv i = some v → (i, v) ∈ lv := by
  intro lv
  induction lv with
  | nil => intro i v h; cases h
  | cons q t ih =>
    intro i v h
    obtain ⟨j, w⟩ := q
    show (i, v) ∈ (j, w) :: t
    change cond (Nat.beq j i) (some w) (pm_lv t i) = some v at h
    cases e : Nat.beq j i with
    | true =>
      rw [e] at h
      have e1 := Nat.eq_of_beq_eq_true e
      cases h
      subst e1
      exact List.mem_cons_self ..
    | false =>
      rw [e] at h
      exact List.mem_cons_of_mem _ (ih h)
theorem pm_memlv : ∀ {lv : pm_L} {i : Nat} {v : Value}, (lv.map Prod.fst).Nodup → (i, v) ∈ lv → pm_lv lv i = some v := by
  intro lv
  induction lv with
  | nil => intro i v _ h; cases h
  | cons q t ih =>
    intro i v hn h
    obtain ⟨j, w⟩ := q
    change (j :: t.map Prod.fst).Nodup at hn
    rw [List.nodup_cons] at hn
    show cond (Nat.beq j i) (some w) (pm_lv t i) = some v
    rcases List.mem_cons.mp h with h | h
    · cases h
      rw [Nat.beq_refl]
      rfl
    · have hi : i ∈ t.map Prod.fst := List.mem_map.mpr ⟨(i, v), h, rfl⟩
      have hne : ¬ j = i := fun q => hn.1 (by rw [q]; exact hi)
      have e : Nat.beq j i = false := by
        cases e : Nat.beq j i with
        | false => rfl
        | true => exact absurd (Nat.eq_of_beq_eq_true e) hne
      rw [e]
      exact ih hn.2 h
theorem pm_le_lv {lv lv' : pm_L} (h : pm_le lv lv') {i : Nat} {v : Value} (e : pm_lv lv i = some v) : pm_lv lv' i = some v := pm_memlv h.2 (h.1 _ (pm_lvmem e))
theorem pm_le_f {lv lv' : pm_L} (h : pm_le lv lv') (i : Nat) (v : Value) (p : Nat × Value → Bool) (hp : ∀ q, p q = true → q.1 ≠ i) : pm_le ((i, v) :: lv.filter p) ((i, v) :: lv'.filter p) := by
  refine ⟨fun q hq => ?_, ?_⟩
  · rcases List.mem_cons.mp hq with e | e
    · rw [e]; exact List.mem_cons_self ..
    · rw [List.mem_filter] at e
      exact List.mem_cons_of_mem _ (List.mem_filter.mpr ⟨h.1 _ e.1, e.2⟩)
  · show (i :: (lv'.filter p).map Prod.fst).Nodup
    rw [List.nodup_cons]
    refine ⟨fun hm => ?_, ?_⟩
    · obtain ⟨q, hq, e⟩ := List.mem_map.mp hm
      exact hp q (List.mem_filter.mp hq).2 e
    · exact List.Nodup.sublist (List.Sublist.map _ List.filter_sublist) h.2
theorem pm_le_s1 {lv lv' : pm_L} (h : pm_le lv lv') (i : Nat) (v : Value) : pm_le (pm_s1 lv i v) (pm_s1 lv' i v) := pm_le_f h i v _ (fun q hq e => by subst e; simp at hq)
theorem pm_le_s2 {lv lv' : pm_L} (h : pm_le lv lv') (i : Nat) (v : Value) : pm_le (pm_s2 lv i v) (pm_s2 lv' i v) := pm_le_f h i v _ (fun q hq e => by subst e; simp at hq)
def pm_fr (f g : pm_F) : Prop := f.1 = g.1 ∧ pm_le f.2.1 g.2.1 ∧ f.2.2 = g.2.2
def pm_rr (d e : pm_R) : Prop := match d with
  | .inl (s, g) => ∃ g', e = .inl (s, g') ∧ pm_fr g g'
  | .inr (.inl (t, g, h)) => ∃ g' h', e = .inr (.inl (t, g', h')) ∧ pm_fr g g' ∧ pm_fr h h'
  | .inr (.inr (.inl x)) => e = .inr (.inr (.inl x))
  | .inr (.inr (.inr (.inl x))) => e = .inr (.inr (.inr (.inl x)))
  | .inr (.inr (.inr (.inr _))) => True
theorem rr_ok {lv lv' : pm_L} (h : pm_le lv lv') {pc : Nat} {x : List Value × pm_H × Nat × Nat} : pm_rr (pm_ok (pc, lv, x)) (pm_ok (pc, lv', x)) := ⟨_, rfl, rfl, h, rfl⟩
theorem rr_if {s : Bool} {lv lv' : pm_L} (h : pm_le lv lv') {pc : Nat} {x : List Value × pm_H × Nat × Nat} : pm_rr (pm_if s (pc, lv, x)) (pm_if s (pc, lv', x)) := ⟨_, rfl, rfl, h, rfl⟩
theorem rr_br {s : Bool} {lv lv' : pm_L} (h : pm_le lv lv') {pc pc2 : Nat} {x x2 : List Value × pm_H × Nat × Nat} : pm_rr (pm_br s (pc, lv, x) (pc2, lv, x2)) (pm_br s (pc, lv', x) (pc2, lv', x2)) := ⟨_, _, rfl, ⟨rfl, h, rfl⟩, ⟨rfl, h, rfl⟩⟩
theorem rr_rt {s : Bool} {r : Option Value} : pm_rr (pm_rt s r) (pm_rt s r) := rfl
theorem rr_cl {s : Bool} {z : Nat} {as rest : List Value} : pm_rr (pm_cl s z as rest) (pm_cl s z as rest) := rfl
theorem rr_bad {e : pm_R} : pm_rr pm_bad e := trivial
set_option maxHeartbeats 4000000 in
theorem pm_subI {lv lv' : pm_L} (h : pm_le lv lv') (y : Nat) (i : Instr) (a b pc : Nat) (st : List Value) (G : pm_H) (c n : Nat) : pm_rr (pm_I y i a b pc lv st G c n) (pm_I y i a b pc lv' st G c n) := by
  cases i <;> dsimp only [pm_I] <;> first
    | exact rr_bad
    | exact rr_ok h
    | exact rr_if h
    | (split <;> first
        | exact rr_bad
        | exact rr_ok h
        | exact rr_if h
        | exact rr_br h
        | exact rr_if (pm_le_s1 h _ _)
        | exact rr_if (pm_le_s2 h _ _)
        | (next e => rw [pm_le_lv h e]; exact rr_ok h)
        | (next e => rw [pm_le_lv h e]; exact rr_if (pm_le_s1 h _ _))
        | (split <;> first
            | exact rr_bad
            | exact rr_ok h
            | exact rr_if h
            | exact rr_rt
            | exact rr_cl
            | (split <;> first
                | exact rr_bad
                | exact rr_ok h
                | exact rr_if h
                | exact rr_cl
                | (split <;> first
                  | exact rr_bad
                  | exact rr_if h
                  | exact rr_cl))))
theorem pm_subD {lv lv' : pm_L} (h : pm_le lv lv') (y pc : Nat) (x : List Value × pm_H × Nat × Nat) : pm_rr (pm_D y (pc, lv, x)) (pm_D y (pc, lv', x)) := by
  unfold pm_D
  dsimp only
  split
  · exact rr_bad
  · exact pm_subI h _ _ _ _ _ _ _ _ _
theorem pm_sub {y pc : Nat} {lv lv' : pm_L} {x : List Value × pm_H × Nat × Nat} {Q : pm_Q} (hw : pm_WP y (pc, lv, x) Q) (hl : pm_le lv lv') : pm_WP y (pc, lv', x) Q := by
  have gen : ∀ (y : Nat) (f : pm_F) (Q : pm_Q), pm_WP y f Q → ∀ g : pm_F, f = g ∨ pm_fr f g → pm_WP y g Q := by
    intro y f Q hw
    refine hw (fun y f Q => ∀ g : pm_F, f = g ∨ pm_fr f g → pm_WP y g Q) ?_
    intro y f Q hN g hg
    rcases hg with hg | hg
    · subst hg
      exact pm_step (pm_mono (fun _ _ _ k => k _ (Or.inl rfl)) hN)
    obtain ⟨pc, lv, x⟩ := f
    obtain ⟨pc', lv', x'⟩ := g
    obtain ⟨e1, e2, e3⟩ := hg
    dsimp only at e1 e2 e3
    subst e1
    subst e3
    have hD := pm_subD e2 y pc x
    refine pm_step ?_
    unfold pm_N at hN ⊢
    generalize pm_D y (pc, lv, x) = d at hN hD
    generalize pm_D y (pc, lv', x) = d' at hD
    unfold pm_K at hN
    split at hN
    · obtain ⟨g', rfl, hf⟩ := hD
      exact ⟨hN.1, hN.2 _ (Or.inr hf)⟩
    · obtain ⟨g', h', rfl, hf, hf2⟩ := hD
      exact ⟨fun z => hN.1 z _ (Or.inr hf), fun z => hN.2 z _ (Or.inr hf2)⟩
    · change d' = _ at hD
      rw [hD]
      exact hN
    · change d' = _ at hD
      rw [hD]
      obtain ⟨h1, Q2, h2, h3⟩ := hN
      exact ⟨h1, Q2, h2 _ (Or.inl rfl), fun r G q => h3 r G q _ (Or.inr ⟨rfl, e2, rfl⟩)⟩
    · exact hN.elim
  exact gen y _ Q hw _ (Or.inr ⟨rfl, hl, rfl⟩)
theorem le_n {L : pm_L} : ∀ q, q ∈ ([] : pm_L) → q ∈ L := fun _ h => by cases h
theorem le_c {a : Nat × Value} {l L : pm_L} (h : a ∈ L) (t : ∀ q, q ∈ l → q ∈ L) : ∀ q, q ∈ a :: l → q ∈ L := fun q hq => by
  rcases List.mem_cons.mp hq with e | e
  · rw [e]; exact h
  · exact t q e
