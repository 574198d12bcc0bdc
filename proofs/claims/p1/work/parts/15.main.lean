set_option maxRecDepth 100000 in
set_option maxHeartbeats 8000000 in
theorem p1_short0 (xs : Nat → Int32) : pm_WP 0 (18, [(3, .int 0), (2, .ref 25), (1, .ref 1), (0, .ref 0)], [], gc118 (.inl (0, 0, .inl xs)), 599951, 7298500) (fun r _ => r = some (.int 1)) := by
  refine pm_go (g := (19, [(3, .int 0), (2, .ref 25), (1, .ref 1), (0, .ref 0)], [.int 0], gc118 (.inl (0, 0, .inl xs)), 599951, 7298500)) rfl ?_
  refine pm_go (g := (20, [(3, .int 0), (2, .ref 25), (1, .ref 1), (0, .ref 0)], [.ref 0, .int 0], gc118 (.inl (0, 0, .inl xs)), 599951, 7298500)) rfl ?_
  refine pm_go (g := (21, [(3, .int 0), (2, .ref 25), (1, .ref 1), (0, .ref 0)], [.int 0, .int 0], gc118 (.inl (0, 0, .inl xs)), 599951, 7298500)) rfl ?_
  refine pm_go (g := (22, [(3, .int 0), (2, .ref 25), (1, .ref 1), (0, .ref 0)], [.int 5, .int 0, .int 0], gc118 (.inl (0, 0, .inl xs)), 599951, 7298500)) rfl ?_
  refine pm_go (g := (23, [(3, .int 0), (2, .ref 25), (1, .ref 1), (0, .ref 0)], [.int (-5), .int 0], gc118 (.inl (0, 0, .inl xs)), 599951, 7298500)) rfl ?_
  refine pm_brT (g := (879, [(3, .int 0), (2, .ref 25), (1, .ref 1), (0, .ref 0)], [], gc118 (.inl (0, 0, .inl xs)), 599951, 7298500)) rfl ?_
  refine pm_go (g := (880, [(3, .int 0), (2, .ref 25), (1, .ref 1), (0, .ref 0)], [.int 1], gc118 (.inl (0, 0, .inl xs)), 599951, 7298500)) rfl ?_
  exact pm_ret rfl rfl
set_option maxRecDepth 100000 in
set_option maxHeartbeats 8000000 in
theorem p1_short1 (xs : Nat → Int32) : pm_WP 0 (18, [(3, .int 0), (2, .ref 25), (1, .ref 1), (0, .ref 0)], [], gc118 (.inl (0, 1, .inl xs)), 599951, 7298500) (fun r _ => r = some (.int 1)) := by
  refine pm_go (g := (19, [(3, .int 0), (2, .ref 25), (1, .ref 1), (0, .ref 0)], [.int 0], gc118 (.inl (0, 1, .inl xs)), 599951, 7298500)) rfl ?_
  refine pm_go (g := (20, [(3, .int 0), (2, .ref 25), (1, .ref 1), (0, .ref 0)], [.ref 0, .int 0], gc118 (.inl (0, 1, .inl xs)), 599951, 7298500)) rfl ?_
  refine pm_go (g := (21, [(3, .int 0), (2, .ref 25), (1, .ref 1), (0, .ref 0)], [.int 1, .int 0], gc118 (.inl (0, 1, .inl xs)), 599951, 7298500)) rfl ?_
  refine pm_go (g := (22, [(3, .int 0), (2, .ref 25), (1, .ref 1), (0, .ref 0)], [.int 5, .int 1, .int 0], gc118 (.inl (0, 1, .inl xs)), 599951, 7298500)) rfl ?_
  refine pm_go (g := (23, [(3, .int 0), (2, .ref 25), (1, .ref 1), (0, .ref 0)], [.int (-4), .int 0], gc118 (.inl (0, 1, .inl xs)), 599951, 7298500)) rfl ?_
  refine pm_brT (g := (879, [(3, .int 0), (2, .ref 25), (1, .ref 1), (0, .ref 0)], [], gc118 (.inl (0, 1, .inl xs)), 599951, 7298500)) rfl ?_
  refine pm_go (g := (880, [(3, .int 0), (2, .ref 25), (1, .ref 1), (0, .ref 0)], [.int 1], gc118 (.inl (0, 1, .inl xs)), 599951, 7298500)) rfl ?_
  exact pm_ret rfl rfl
set_option maxRecDepth 100000 in
set_option maxHeartbeats 8000000 in
theorem p1_short2 (xs : Nat → Int32) : pm_WP 0 (18, [(3, .int 0), (2, .ref 25), (1, .ref 1), (0, .ref 0)], [], gc118 (.inl (0, 2, .inl xs)), 599951, 7298500) (fun r _ => r = some (.int 1)) := by
  refine pm_go (g := (19, [(3, .int 0), (2, .ref 25), (1, .ref 1), (0, .ref 0)], [.int 0], gc118 (.inl (0, 2, .inl xs)), 599951, 7298500)) rfl ?_
  refine pm_go (g := (20, [(3, .int 0), (2, .ref 25), (1, .ref 1), (0, .ref 0)], [.ref 0, .int 0], gc118 (.inl (0, 2, .inl xs)), 599951, 7298500)) rfl ?_
  refine pm_go (g := (21, [(3, .int 0), (2, .ref 25), (1, .ref 1), (0, .ref 0)], [.int 2, .int 0], gc118 (.inl (0, 2, .inl xs)), 599951, 7298500)) rfl ?_
  refine pm_go (g := (22, [(3, .int 0), (2, .ref 25), (1, .ref 1), (0, .ref 0)], [.int 5, .int 2, .int 0], gc118 (.inl (0, 2, .inl xs)), 599951, 7298500)) rfl ?_
  refine pm_go (g := (23, [(3, .int 0), (2, .ref 25), (1, .ref 1), (0, .ref 0)], [.int (-3), .int 0], gc118 (.inl (0, 2, .inl xs)), 599951, 7298500)) rfl ?_
  refine pm_brT (g := (879, [(3, .int 0), (2, .ref 25), (1, .ref 1), (0, .ref 0)], [], gc118 (.inl (0, 2, .inl xs)), 599951, 7298500)) rfl ?_
  refine pm_go (g := (880, [(3, .int 0), (2, .ref 25), (1, .ref 1), (0, .ref 0)], [.int 1], gc118 (.inl (0, 2, .inl xs)), 599951, 7298500)) rfl ?_
  exact pm_ret rfl rfl
set_option maxRecDepth 100000 in
set_option maxHeartbeats 8000000 in
theorem p1_short3 (xs : Nat → Int32) : pm_WP 0 (18, [(3, .int 0), (2, .ref 25), (1, .ref 1), (0, .ref 0)], [], gc118 (.inl (0, 3, .inl xs)), 599951, 7298500) (fun r _ => r = some (.int 1)) := by
  refine pm_go (g := (19, [(3, .int 0), (2, .ref 25), (1, .ref 1), (0, .ref 0)], [.int 0], gc118 (.inl (0, 3, .inl xs)), 599951, 7298500)) rfl ?_
  refine pm_go (g := (20, [(3, .int 0), (2, .ref 25), (1, .ref 1), (0, .ref 0)], [.ref 0, .int 0], gc118 (.inl (0, 3, .inl xs)), 599951, 7298500)) rfl ?_
  refine pm_go (g := (21, [(3, .int 0), (2, .ref 25), (1, .ref 1), (0, .ref 0)], [.int 3, .int 0], gc118 (.inl (0, 3, .inl xs)), 599951, 7298500)) rfl ?_
  refine pm_go (g := (22, [(3, .int 0), (2, .ref 25), (1, .ref 1), (0, .ref 0)], [.int 5, .int 3, .int 0], gc118 (.inl (0, 3, .inl xs)), 599951, 7298500)) rfl ?_
  refine pm_go (g := (23, [(3, .int 0), (2, .ref 25), (1, .ref 1), (0, .ref 0)], [.int (-2), .int 0], gc118 (.inl (0, 3, .inl xs)), 599951, 7298500)) rfl ?_
  refine pm_brT (g := (879, [(3, .int 0), (2, .ref 25), (1, .ref 1), (0, .ref 0)], [], gc118 (.inl (0, 3, .inl xs)), 599951, 7298500)) rfl ?_
  refine pm_go (g := (880, [(3, .int 0), (2, .ref 25), (1, .ref 1), (0, .ref 0)], [.int 1], gc118 (.inl (0, 3, .inl xs)), 599951, 7298500)) rfl ?_
  exact pm_ret rfl rfl
set_option maxRecDepth 100000 in
set_option maxHeartbeats 8000000 in
theorem p1_short4 (xs : Nat → Int32) : pm_WP 0 (18, [(3, .int 0), (2, .ref 25), (1, .ref 1), (0, .ref 0)], [], gc118 (.inl (0, 4, .inl xs)), 599951, 7298500) (fun r _ => r = some (.int 1)) := by
  refine pm_go (g := (19, [(3, .int 0), (2, .ref 25), (1, .ref 1), (0, .ref 0)], [.int 0], gc118 (.inl (0, 4, .inl xs)), 599951, 7298500)) rfl ?_
  refine pm_go (g := (20, [(3, .int 0), (2, .ref 25), (1, .ref 1), (0, .ref 0)], [.ref 0, .int 0], gc118 (.inl (0, 4, .inl xs)), 599951, 7298500)) rfl ?_
  refine pm_go (g := (21, [(3, .int 0), (2, .ref 25), (1, .ref 1), (0, .ref 0)], [.int 4, .int 0], gc118 (.inl (0, 4, .inl xs)), 599951, 7298500)) rfl ?_
  refine pm_go (g := (22, [(3, .int 0), (2, .ref 25), (1, .ref 1), (0, .ref 0)], [.int 5, .int 4, .int 0], gc118 (.inl (0, 4, .inl xs)), 599951, 7298500)) rfl ?_
  refine pm_go (g := (23, [(3, .int 0), (2, .ref 25), (1, .ref 1), (0, .ref 0)], [.int (-1), .int 0], gc118 (.inl (0, 4, .inl xs)), 599951, 7298500)) rfl ?_
  refine pm_brT (g := (879, [(3, .int 0), (2, .ref 25), (1, .ref 1), (0, .ref 0)], [], gc118 (.inl (0, 4, .inl xs)), 599951, 7298500)) rfl ?_
  refine pm_go (g := (880, [(3, .int 0), (2, .ref 25), (1, .ref 1), (0, .ref 0)], [.int 1], gc118 (.inl (0, 4, .inl xs)), 599951, 7298500)) rfl ?_
  exact pm_ret rfl rfl
set_option maxRecDepth 100000 in
set_option maxHeartbeats 8000000 in
theorem p1_none25 (xs : Nat → Int32) : pm_WP 0 (32, [(3, .int 0), (2, .ref 25), (1, .ref 1), (0, .ref 0)], [.int 25], gc118 (.inl (0, 5, .inl xs)), 599951, 7298500) (fun r _ => r = some (.int 1)) := by
  refine pm_go (g := (873, [(3, .int 0), (2, .ref 25), (1, .ref 1), (0, .ref 0)], [], gc118 (.inl (0, 5, .inl xs)), 599951, 7298500)) rfl ?_
  refine pm_go (g := (876, [(3, .int 5), (2, .ref 25), (1, .ref 1), (0, .ref 0)], [], gc118 (.inl (0, 5, .inl xs)), 599951, 7298500)) rfl ?_
  refine pm_go (g := (18, [(3, .int 5), (2, .ref 25), (1, .ref 1), (0, .ref 0)], [], gc118 (.inl (0, 5, .inl xs)), 599951, 7298500)) rfl ?_
  refine pm_go (g := (19, [(3, .int 5), (2, .ref 25), (1, .ref 1), (0, .ref 0)], [.int 5], gc118 (.inl (0, 5, .inl xs)), 599951, 7298500)) rfl ?_
  refine pm_go (g := (20, [(3, .int 5), (2, .ref 25), (1, .ref 1), (0, .ref 0)], [.ref 0, .int 5], gc118 (.inl (0, 5, .inl xs)), 599951, 7298500)) rfl ?_
  refine pm_go (g := (21, [(3, .int 5), (2, .ref 25), (1, .ref 1), (0, .ref 0)], [.int 5, .int 5], gc118 (.inl (0, 5, .inl xs)), 599951, 7298500)) rfl ?_
  refine pm_go (g := (22, [(3, .int 5), (2, .ref 25), (1, .ref 1), (0, .ref 0)], [.int 5, .int 5, .int 5], gc118 (.inl (0, 5, .inl xs)), 599951, 7298500)) rfl ?_
  refine pm_go (g := (23, [(3, .int 5), (2, .ref 25), (1, .ref 1), (0, .ref 0)], [.int 0, .int 5], gc118 (.inl (0, 5, .inl xs)), 599951, 7298500)) rfl ?_
  refine pm_brT (g := (879, [(3, .int 5), (2, .ref 25), (1, .ref 1), (0, .ref 0)], [], gc118 (.inl (0, 5, .inl xs)), 599951, 7298500)) rfl ?_
  refine pm_go (g := (880, [(3, .int 5), (2, .ref 25), (1, .ref 1), (0, .ref 0)], [.int 1], gc118 (.inl (0, 5, .inl xs)), 599951, 7298500)) rfl ?_
  exact pm_ret rfl rfl
set_option maxRecDepth 100000 in
set_option maxHeartbeats 8000000 in
theorem p1_none26 (xs : Nat → Int32) : pm_WP 0 (32, [(3, .int 0), (2, .ref 25), (1, .ref 1), (0, .ref 0)], [.int 26], gc118 (.inl (0, 5, .inl xs)), 599951, 7298500) (fun r _ => r = some (.int 1)) := by
  refine pm_go (g := (873, [(3, .int 0), (2, .ref 25), (1, .ref 1), (0, .ref 0)], [], gc118 (.inl (0, 5, .inl xs)), 599951, 7298500)) rfl ?_
  refine pm_go (g := (876, [(3, .int 5), (2, .ref 25), (1, .ref 1), (0, .ref 0)], [], gc118 (.inl (0, 5, .inl xs)), 599951, 7298500)) rfl ?_
  refine pm_go (g := (18, [(3, .int 5), (2, .ref 25), (1, .ref 1), (0, .ref 0)], [], gc118 (.inl (0, 5, .inl xs)), 599951, 7298500)) rfl ?_
  refine pm_go (g := (19, [(3, .int 5), (2, .ref 25), (1, .ref 1), (0, .ref 0)], [.int 5], gc118 (.inl (0, 5, .inl xs)), 599951, 7298500)) rfl ?_
  refine pm_go (g := (20, [(3, .int 5), (2, .ref 25), (1, .ref 1), (0, .ref 0)], [.ref 0, .int 5], gc118 (.inl (0, 5, .inl xs)), 599951, 7298500)) rfl ?_
  refine pm_go (g := (21, [(3, .int 5), (2, .ref 25), (1, .ref 1), (0, .ref 0)], [.int 5, .int 5], gc118 (.inl (0, 5, .inl xs)), 599951, 7298500)) rfl ?_
  refine pm_go (g := (22, [(3, .int 5), (2, .ref 25), (1, .ref 1), (0, .ref 0)], [.int 5, .int 5, .int 5], gc118 (.inl (0, 5, .inl xs)), 599951, 7298500)) rfl ?_
  refine pm_go (g := (23, [(3, .int 5), (2, .ref 25), (1, .ref 1), (0, .ref 0)], [.int 0, .int 5], gc118 (.inl (0, 5, .inl xs)), 599951, 7298500)) rfl ?_
  refine pm_brT (g := (879, [(3, .int 5), (2, .ref 25), (1, .ref 1), (0, .ref 0)], [], gc118 (.inl (0, 5, .inl xs)), 599951, 7298500)) rfl ?_
  refine pm_go (g := (880, [(3, .int 5), (2, .ref 25), (1, .ref 1), (0, .ref 0)], [.int 1], gc118 (.inl (0, 5, .inl xs)), 599951, 7298500)) rfl ?_
  exact pm_ret rfl rfl
set_option maxRecDepth 100000 in
set_option maxHeartbeats 8000000 in
theorem p1_none27 (xs : Nat → Int32) : pm_WP 0 (32, [(3, .int 0), (2, .ref 25), (1, .ref 1), (0, .ref 0)], [.int 27], gc118 (.inl (0, 5, .inl xs)), 599951, 7298500) (fun r _ => r = some (.int 1)) := by
  refine pm_go (g := (873, [(3, .int 0), (2, .ref 25), (1, .ref 1), (0, .ref 0)], [], gc118 (.inl (0, 5, .inl xs)), 599951, 7298500)) rfl ?_
  refine pm_go (g := (876, [(3, .int 5), (2, .ref 25), (1, .ref 1), (0, .ref 0)], [], gc118 (.inl (0, 5, .inl xs)), 599951, 7298500)) rfl ?_
  refine pm_go (g := (18, [(3, .int 5), (2, .ref 25), (1, .ref 1), (0, .ref 0)], [], gc118 (.inl (0, 5, .inl xs)), 599951, 7298500)) rfl ?_
  refine pm_go (g := (19, [(3, .int 5), (2, .ref 25), (1, .ref 1), (0, .ref 0)], [.int 5], gc118 (.inl (0, 5, .inl xs)), 599951, 7298500)) rfl ?_
  refine pm_go (g := (20, [(3, .int 5), (2, .ref 25), (1, .ref 1), (0, .ref 0)], [.ref 0, .int 5], gc118 (.inl (0, 5, .inl xs)), 599951, 7298500)) rfl ?_
  refine pm_go (g := (21, [(3, .int 5), (2, .ref 25), (1, .ref 1), (0, .ref 0)], [.int 5, .int 5], gc118 (.inl (0, 5, .inl xs)), 599951, 7298500)) rfl ?_
  refine pm_go (g := (22, [(3, .int 5), (2, .ref 25), (1, .ref 1), (0, .ref 0)], [.int 5, .int 5, .int 5], gc118 (.inl (0, 5, .inl xs)), 599951, 7298500)) rfl ?_
  refine pm_go (g := (23, [(3, .int 5), (2, .ref 25), (1, .ref 1), (0, .ref 0)], [.int 0, .int 5], gc118 (.inl (0, 5, .inl xs)), 599951, 7298500)) rfl ?_
  refine pm_brT (g := (879, [(3, .int 5), (2, .ref 25), (1, .ref 1), (0, .ref 0)], [], gc118 (.inl (0, 5, .inl xs)), 599951, 7298500)) rfl ?_
  refine pm_go (g := (880, [(3, .int 5), (2, .ref 25), (1, .ref 1), (0, .ref 0)], [.int 1], gc118 (.inl (0, 5, .inl xs)), 599951, 7298500)) rfl ?_
  exact pm_ret rfl rfl
set_option maxRecDepth 100000 in
set_option maxHeartbeats 8000000 in
theorem p1_none28 (xs : Nat → Int32) : pm_WP 0 (32, [(3, .int 0), (2, .ref 25), (1, .ref 1), (0, .ref 0)], [.int 28], gc118 (.inl (0, 5, .inl xs)), 599951, 7298500) (fun r _ => r = some (.int 1)) := by
  refine pm_go (g := (873, [(3, .int 0), (2, .ref 25), (1, .ref 1), (0, .ref 0)], [], gc118 (.inl (0, 5, .inl xs)), 599951, 7298500)) rfl ?_
  refine pm_go (g := (876, [(3, .int 5), (2, .ref 25), (1, .ref 1), (0, .ref 0)], [], gc118 (.inl (0, 5, .inl xs)), 599951, 7298500)) rfl ?_
  refine pm_go (g := (18, [(3, .int 5), (2, .ref 25), (1, .ref 1), (0, .ref 0)], [], gc118 (.inl (0, 5, .inl xs)), 599951, 7298500)) rfl ?_
  refine pm_go (g := (19, [(3, .int 5), (2, .ref 25), (1, .ref 1), (0, .ref 0)], [.int 5], gc118 (.inl (0, 5, .inl xs)), 599951, 7298500)) rfl ?_
  refine pm_go (g := (20, [(3, .int 5), (2, .ref 25), (1, .ref 1), (0, .ref 0)], [.ref 0, .int 5], gc118 (.inl (0, 5, .inl xs)), 599951, 7298500)) rfl ?_
  refine pm_go (g := (21, [(3, .int 5), (2, .ref 25), (1, .ref 1), (0, .ref 0)], [.int 5, .int 5], gc118 (.inl (0, 5, .inl xs)), 599951, 7298500)) rfl ?_
  refine pm_go (g := (22, [(3, .int 5), (2, .ref 25), (1, .ref 1), (0, .ref 0)], [.int 5, .int 5, .int 5], gc118 (.inl (0, 5, .inl xs)), 599951, 7298500)) rfl ?_
  refine pm_go (g := (23, [(3, .int 5), (2, .ref 25), (1, .ref 1), (0, .ref 0)], [.int 0, .int 5], gc118 (.inl (0, 5, .inl xs)), 599951, 7298500)) rfl ?_
  refine pm_brT (g := (879, [(3, .int 5), (2, .ref 25), (1, .ref 1), (0, .ref 0)], [], gc118 (.inl (0, 5, .inl xs)), 599951, 7298500)) rfl ?_
  refine pm_go (g := (880, [(3, .int 5), (2, .ref 25), (1, .ref 1), (0, .ref 0)], [.int 1], gc118 (.inl (0, 5, .inl xs)), 599951, 7298500)) rfl ?_
  exact pm_ret rfl rfl
set_option maxRecDepth 100000 in
set_option maxHeartbeats 8000000 in
theorem p1_none29 (xs : Nat → Int32) : pm_WP 0 (32, [(3, .int 0), (2, .ref 25), (1, .ref 1), (0, .ref 0)], [.int 29], gc118 (.inl (0, 5, .inl xs)), 599951, 7298500) (fun r _ => r = some (.int 1)) := by
  refine pm_go (g := (873, [(3, .int 0), (2, .ref 25), (1, .ref 1), (0, .ref 0)], [], gc118 (.inl (0, 5, .inl xs)), 599951, 7298500)) rfl ?_
  refine pm_go (g := (876, [(3, .int 5), (2, .ref 25), (1, .ref 1), (0, .ref 0)], [], gc118 (.inl (0, 5, .inl xs)), 599951, 7298500)) rfl ?_
  refine pm_go (g := (18, [(3, .int 5), (2, .ref 25), (1, .ref 1), (0, .ref 0)], [], gc118 (.inl (0, 5, .inl xs)), 599951, 7298500)) rfl ?_
  refine pm_go (g := (19, [(3, .int 5), (2, .ref 25), (1, .ref 1), (0, .ref 0)], [.int 5], gc118 (.inl (0, 5, .inl xs)), 599951, 7298500)) rfl ?_
  refine pm_go (g := (20, [(3, .int 5), (2, .ref 25), (1, .ref 1), (0, .ref 0)], [.ref 0, .int 5], gc118 (.inl (0, 5, .inl xs)), 599951, 7298500)) rfl ?_
  refine pm_go (g := (21, [(3, .int 5), (2, .ref 25), (1, .ref 1), (0, .ref 0)], [.int 5, .int 5], gc118 (.inl (0, 5, .inl xs)), 599951, 7298500)) rfl ?_
  refine pm_go (g := (22, [(3, .int 5), (2, .ref 25), (1, .ref 1), (0, .ref 0)], [.int 5, .int 5, .int 5], gc118 (.inl (0, 5, .inl xs)), 599951, 7298500)) rfl ?_
  refine pm_go (g := (23, [(3, .int 5), (2, .ref 25), (1, .ref 1), (0, .ref 0)], [.int 0, .int 5], gc118 (.inl (0, 5, .inl xs)), 599951, 7298500)) rfl ?_
  refine pm_brT (g := (879, [(3, .int 5), (2, .ref 25), (1, .ref 1), (0, .ref 0)], [], gc118 (.inl (0, 5, .inl xs)), 599951, 7298500)) rfl ?_
  refine pm_go (g := (880, [(3, .int 5), (2, .ref 25), (1, .ref 1), (0, .ref 0)], [.int 1], gc118 (.inl (0, 5, .inl xs)), 599951, 7298500)) rfl ?_
  exact pm_ret rfl rfl
set_option maxRecDepth 100000 in
set_option maxHeartbeats 8000000 in
theorem p1_none30 (xs : Nat → Int32) : pm_WP 0 (32, [(3, .int 0), (2, .ref 25), (1, .ref 1), (0, .ref 0)], [.int 30], gc118 (.inl (0, 5, .inl xs)), 599951, 7298500) (fun r _ => r = some (.int 1)) := by
  refine pm_go (g := (873, [(3, .int 0), (2, .ref 25), (1, .ref 1), (0, .ref 0)], [], gc118 (.inl (0, 5, .inl xs)), 599951, 7298500)) rfl ?_
  refine pm_go (g := (876, [(3, .int 5), (2, .ref 25), (1, .ref 1), (0, .ref 0)], [], gc118 (.inl (0, 5, .inl xs)), 599951, 7298500)) rfl ?_
  refine pm_go (g := (18, [(3, .int 5), (2, .ref 25), (1, .ref 1), (0, .ref 0)], [], gc118 (.inl (0, 5, .inl xs)), 599951, 7298500)) rfl ?_
  refine pm_go (g := (19, [(3, .int 5), (2, .ref 25), (1, .ref 1), (0, .ref 0)], [.int 5], gc118 (.inl (0, 5, .inl xs)), 599951, 7298500)) rfl ?_
  refine pm_go (g := (20, [(3, .int 5), (2, .ref 25), (1, .ref 1), (0, .ref 0)], [.ref 0, .int 5], gc118 (.inl (0, 5, .inl xs)), 599951, 7298500)) rfl ?_
  refine pm_go (g := (21, [(3, .int 5), (2, .ref 25), (1, .ref 1), (0, .ref 0)], [.int 5, .int 5], gc118 (.inl (0, 5, .inl xs)), 599951, 7298500)) rfl ?_
  refine pm_go (g := (22, [(3, .int 5), (2, .ref 25), (1, .ref 1), (0, .ref 0)], [.int 5, .int 5, .int 5], gc118 (.inl (0, 5, .inl xs)), 599951, 7298500)) rfl ?_
  refine pm_go (g := (23, [(3, .int 5), (2, .ref 25), (1, .ref 1), (0, .ref 0)], [.int 0, .int 5], gc118 (.inl (0, 5, .inl xs)), 599951, 7298500)) rfl ?_
  refine pm_brT (g := (879, [(3, .int 5), (2, .ref 25), (1, .ref 1), (0, .ref 0)], [], gc118 (.inl (0, 5, .inl xs)), 599951, 7298500)) rfl ?_
  refine pm_go (g := (880, [(3, .int 5), (2, .ref 25), (1, .ref 1), (0, .ref 0)], [.int 1], gc118 (.inl (0, 5, .inl xs)), 599951, 7298500)) rfl ?_
  exact pm_ret rfl rfl
set_option maxRecDepth 100000 in
set_option maxHeartbeats 8000000 in
theorem p1_none31 (xs : Nat → Int32) : pm_WP 0 (32, [(3, .int 0), (2, .ref 25), (1, .ref 1), (0, .ref 0)], [.int 31], gc118 (.inl (0, 5, .inl xs)), 599951, 7298500) (fun r _ => r = some (.int 1)) := by
  refine pm_go (g := (873, [(3, .int 0), (2, .ref 25), (1, .ref 1), (0, .ref 0)], [], gc118 (.inl (0, 5, .inl xs)), 599951, 7298500)) rfl ?_
  refine pm_go (g := (876, [(3, .int 5), (2, .ref 25), (1, .ref 1), (0, .ref 0)], [], gc118 (.inl (0, 5, .inl xs)), 599951, 7298500)) rfl ?_
  refine pm_go (g := (18, [(3, .int 5), (2, .ref 25), (1, .ref 1), (0, .ref 0)], [], gc118 (.inl (0, 5, .inl xs)), 599951, 7298500)) rfl ?_
  refine pm_go (g := (19, [(3, .int 5), (2, .ref 25), (1, .ref 1), (0, .ref 0)], [.int 5], gc118 (.inl (0, 5, .inl xs)), 599951, 7298500)) rfl ?_
  refine pm_go (g := (20, [(3, .int 5), (2, .ref 25), (1, .ref 1), (0, .ref 0)], [.ref 0, .int 5], gc118 (.inl (0, 5, .inl xs)), 599951, 7298500)) rfl ?_
  refine pm_go (g := (21, [(3, .int 5), (2, .ref 25), (1, .ref 1), (0, .ref 0)], [.int 5, .int 5], gc118 (.inl (0, 5, .inl xs)), 599951, 7298500)) rfl ?_
  refine pm_go (g := (22, [(3, .int 5), (2, .ref 25), (1, .ref 1), (0, .ref 0)], [.int 5, .int 5, .int 5], gc118 (.inl (0, 5, .inl xs)), 599951, 7298500)) rfl ?_
  refine pm_go (g := (23, [(3, .int 5), (2, .ref 25), (1, .ref 1), (0, .ref 0)], [.int 0, .int 5], gc118 (.inl (0, 5, .inl xs)), 599951, 7298500)) rfl ?_
  refine pm_brT (g := (879, [(3, .int 5), (2, .ref 25), (1, .ref 1), (0, .ref 0)], [], gc118 (.inl (0, 5, .inl xs)), 599951, 7298500)) rfl ?_
  refine pm_go (g := (880, [(3, .int 5), (2, .ref 25), (1, .ref 1), (0, .ref 0)], [.int 1], gc118 (.inl (0, 5, .inl xs)), 599951, 7298500)) rfl ?_
  exact pm_ret rfl rfl
set_option maxRecDepth 100000 in
set_option maxHeartbeats 8000000 in
theorem p1_call (xs : Nat → Int32) : pm_WP 0 (18, [(3, .int 0), (2, .ref 25), (1, .ref 1), (0, .ref 0)], [], gc118 (.inl (0, 5, .inl xs)), 599951, 7298500) (fun r _ => r = some (.int 1)) := by
  refine pm_go (g := (19, [(3, .int 0), (2, .ref 25), (1, .ref 1), (0, .ref 0)], [.int 0], gc118 (.inl (0, 5, .inl xs)), 599951, 7298500)) rfl ?_
  refine pm_go (g := (20, [(3, .int 0), (2, .ref 25), (1, .ref 1), (0, .ref 0)], [.ref 0, .int 0], gc118 (.inl (0, 5, .inl xs)), 599951, 7298500)) rfl ?_
  refine pm_go (g := (21, [(3, .int 0), (2, .ref 25), (1, .ref 1), (0, .ref 0)], [.int 5, .int 0], gc118 (.inl (0, 5, .inl xs)), 599951, 7298500)) rfl ?_
  refine pm_go (g := (22, [(3, .int 0), (2, .ref 25), (1, .ref 1), (0, .ref 0)], [.int 5, .int 5, .int 0], gc118 (.inl (0, 5, .inl xs)), 599951, 7298500)) rfl ?_
  refine pm_go (g := (23, [(3, .int 0), (2, .ref 25), (1, .ref 1), (0, .ref 0)], [.int 0, .int 0], gc118 (.inl (0, 5, .inl xs)), 599951, 7298500)) rfl ?_
  refine pm_brF (h := (26, [(3, .int 0), (2, .ref 25), (1, .ref 1), (0, .ref 0)], [], gc118 (.inl (0, 5, .inl xs)), 599951, 7298500)) rfl ?_
  refine pm_go (g := (27, [(3, .int 0), (2, .ref 25), (1, .ref 1), (0, .ref 0)], [.ref 0], gc118 (.inl (0, 5, .inl xs)), 599951, 7298500)) rfl ?_
  refine pm_go (g := (28, [(3, .int 0), (2, .ref 25), (1, .ref 1), (0, .ref 0)], [.int 0, .ref 0], gc118 (.inl (0, 5, .inl xs)), 599951, 7298500)) rfl ?_
  refine pm_go (g := (29, [(3, .int 0), (2, .ref 25), (1, .ref 1), (0, .ref 0)], [.int (xs 0)], gc118 (.inl (0, 5, .inl xs)), 599951, 7298500)) rfl ?_
  refine pm_go (g := (31, [(3, .int 0), (2, .ref 25), (1, .ref 1), (0, .ref 0)], [.int 31, .int (xs 0)], gc118 (.inl (0, 5, .inl xs)), 599951, 7298500)) rfl ?_
  refine pm_go (g := (32, [(3, .int 0), (2, .ref 25), (1, .ref 1), (0, .ref 0)], [.int ((xs 0) &&& 31)], gc118 (.inl (0, 5, .inl xs)), 599951, 7298500)) rfl ?_
  obtain ⟨j, hj, ej⟩ := pk_andE (xs 0) (m := 31) 5 (by decide)
  rw [ej]
  match j, hj with
  | 0, _ => exact p1_op0 xs (xs 1) (xs 2) (xs 3) (xs 4) rfl rfl rfl rfl
  | 1, _ => exact p1_op1 xs (xs 1) (xs 2) (xs 3) (xs 4) rfl rfl rfl rfl
  | 2, _ => exact p1_op2 xs (xs 1) (xs 2) (xs 3) (xs 4) rfl rfl rfl rfl
  | 3, _ => exact p1_op3 xs (xs 1) (xs 2) (xs 3) (xs 4) rfl rfl rfl rfl
  | 4, _ => exact p1_op4 xs (xs 1) (xs 2) (xs 3) (xs 4) rfl rfl rfl rfl
  | 5, _ => exact p1_op5 xs (xs 1) (xs 2) (xs 3) (xs 4) rfl rfl rfl rfl
  | 6, _ => exact p1_op6 xs (xs 1) (xs 2) (xs 3) (xs 4) rfl rfl rfl rfl
  | 7, _ => exact p1_op7 xs (xs 1) (xs 2) (xs 3) (xs 4) rfl rfl rfl rfl
  | 8, _ => exact p1_op8 xs (xs 1) (xs 2) (xs 3) (xs 4) rfl rfl rfl rfl
  | 9, _ => exact p1_op9 xs (xs 1) (xs 2) (xs 3) (xs 4) rfl rfl rfl rfl
  | 10, _ => exact p1_op10 xs (xs 1) (xs 2) (xs 3) (xs 4) rfl rfl rfl rfl
  | 11, _ => exact p1_op11 xs (xs 1) (xs 2) (xs 3) (xs 4) rfl rfl rfl rfl
  | 12, _ => exact p1_op12 xs (xs 1) (xs 2) (xs 3) (xs 4) rfl rfl rfl rfl
  | 13, _ => exact p1_op13 xs (xs 1) (xs 2) (xs 3) (xs 4) rfl rfl rfl rfl
  | 14, _ => exact p1_op14 xs (xs 1) (xs 2) (xs 3) (xs 4) rfl rfl rfl rfl
  | 15, _ => exact p1_op15 xs (xs 1) (xs 2) (xs 3) (xs 4) rfl rfl rfl rfl
  | 16, _ => exact p1_op16 xs (xs 1) (xs 2) (xs 3) (xs 4) rfl rfl rfl rfl
  | 17, _ => exact p1_op17 xs (xs 1) (xs 2) (xs 3) (xs 4) rfl rfl rfl rfl
  | 18, _ => exact p1_op18 xs (xs 1) (xs 2) (xs 3) (xs 4) rfl rfl rfl rfl
  | 19, _ => exact p1_op19 xs (xs 1) (xs 2) (xs 3) (xs 4) rfl rfl rfl rfl
  | 20, _ => exact p1_op20 xs (xs 1) (xs 2) (xs 3) (xs 4) rfl rfl rfl rfl
  | 21, _ => exact p1_op21 xs (xs 1) (xs 2) (xs 3) (xs 4) rfl rfl rfl rfl
  | 22, _ => exact p1_op22 xs (xs 1) (xs 2) (xs 3) (xs 4) rfl rfl rfl rfl
  | 23, _ => exact p1_op23 xs (xs 1) (xs 2) (xs 3) (xs 4) rfl rfl rfl rfl
  | 24, _ => exact p1_op24 xs (xs 1) (xs 2) (xs 3) (xs 4) rfl rfl rfl rfl
  | 25, _ => exact p1_none25 xs
  | 26, _ => exact p1_none26 xs
  | 27, _ => exact p1_none27 xs
  | 28, _ => exact p1_none28 xs
  | 29, _ => exact p1_none29 xs
  | 30, _ => exact p1_none30 xs
  | 31, _ => exact p1_none31 xs
  | j + 32, hj => exact absurd hj (by omega)
set_option maxRecDepth 100000 in
theorem pm_main {L : Nat} {xs : Nat → Int32} (hL : L ≤ 5) : pm_WP 0 (0, [(0, .ref 0)], [], [.inl (0, L, .inl xs)], 600000, 7302250) (fun r _ => r = some (.int 1)) := by
  refine p1_made (.inl (0, L, .inl xs)) _ ?_
  match L, hL with
  | 0, _ => exact p1_short0 xs
  | 1, _ => exact p1_short1 xs
  | 2, _ => exact p1_short2 xs
  | 3, _ => exact p1_short3 xs
  | 4, _ => exact p1_short4 xs
  | 5, _ => exact p1_call xs
  | k + 6, h => exact absurd h (by omega)
