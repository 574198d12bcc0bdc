/-! rows for runs of the plain machine -/
theorem pm_callD {y z : Nat} {f : pm_F} {Q : pm_Q} {as rest : List Value} (h : pm_D y f = .inr (.inr (.inr (.inl (true, z, as, rest))))) (k : pm_WP z (0, lv_args 0 as, [], f.2.2.2.1, pm_bc z, pm_bs z) (fun r G => pm_WP y (f.1 + 3, f.2.1, r.toList ++ rest, G, f.2.2.2.2.1 - pm_bc z, f.2.2.2.2.2 - pm_bs z) Q)) : pm_WP y f Q := pm_call h _ k (fun _ _ q => q)
theorem pm_brT {y : Nat} {f g h : pm_F} {Q : pm_Q} (e : pm_D y f = .inr (.inl (true, g, h))) (k : pm_WP y g Q) : pm_WP y f Q := pm_if2 e (fun _ => k) (fun q => by cases q)
theorem pm_brF {y : Nat} {f g h : pm_F} {Q : pm_Q} (e : pm_D y f = .inr (.inl (false, g, h))) (k : pm_WP y h Q) : pm_WP y f Q := pm_if2 e (fun q => by cases q) (fun _ => k)
theorem pm_cons {y : Nat} {f : pm_F} {Q Q' : pm_Q} (h : pm_WP y f Q') (k : ∀ r G, Q' r G → Q r G) : pm_WP y f Q := by
  have gen : ∀ (y : Nat) (f : pm_F) (Q' : pm_Q), pm_WP y f Q' → ∀ Q : pm_Q, (∀ r G, Q' r G → Q r G) → pm_WP y f Q := by
    intro y f Q' h
    refine h (fun y f Q' => ∀ Q : pm_Q, (∀ r G, Q' r G → Q r G) → pm_WP y f Q) ?_
    intro y f Q' h Q k
    refine pm_step ?_
    unfold pm_N at h ⊢
    unfold pm_K at h ⊢
    split at h
    · exact ⟨h.1, h.2 Q k⟩
    · exact ⟨fun z => h.1 z Q k, fun z => h.2 z Q k⟩
    · exact ⟨h.1, k _ _ h.2⟩
    · obtain ⟨h1, Q2, h2, h3⟩ := h
      exact ⟨h1, Q2, h2 Q2 (fun _ _ q => q), fun r G q => h3 r G q Q k⟩
    · exact h
  exact gen y f Q' h Q k
