set_option maxRecDepth 100000 in
set_option maxHeartbeats 4000000 in
theorem t_types (g g1 : pm_C) (Q : pm_Q) (h : ∀ r G, Q r G) : pm_WP 77 (0, lv_args 0 [.ref 2], [], [g, g1, .inr (9, [.null, .null, .int 0])], 2, 41) Q := by
  repeat (first | refine pm_go rfl ?_ | refine pm_callD rfl ?_ | refine pm_ret rfl ?_)
  exact h _ _
