def g23_0 (g : pm_C) (a : Int32) (b : Int32) (c : Int32) (d : Int32) : pm_H := [g, .inr (11, [.ref 2, .ref 5, .ref 9, .ref 12, .ref 16, .ref 18, .ref 20, .int 0, .ref 21, .int 0, .ref 22, .int 0, .ref 23, .int 0, .ref 24, .int 0, .int 0]), .inr (9, [.ref 3, .ref 4, .int 2]), .inl (0, 10, .inl (upd (upd (fun _ => 0) (0) (-1)) (1) 0)), .inl (0, 31, .inl (upd (upd (upd (upd (upd (upd (upd (fun _ => 0) (0) 1) (1) 3) (10) 1024) (11) 2048) (20) 1048577) (21) 3145729) (30) 1073741825)), .inr (4, [.ref 2, .ref 6, .int 0, .ref 7, .ref 8, .long 0, .long 0, .long 0]), .inl (6, 40, .inr (.inr (.inr (.inr (fun _ => none))))), .inl (1, 10, .inr (.inl (fun _ => 0))), .inl (1, 7, .inr (.inl (fun _ => 0))), .inr (2, [.ref 2, .ref 5, .ref 10, .ref 11, .null, .int 0]), .inr (6, [.ref 2, .ref 5, .null, .int 0, .long 0, .int 0, .null]), .inr (6, [.ref 2, .ref 5, .null, .int 0, .long 0, .int 0, .null]), .inr (7, [.ref 13, .ref 14, .ref 15, .int 0]), .inl (0, 61, .inl (fun _ => 0)), .inl (0, 61, .inl (fun _ => 0)), .inl (0, 1220, .inl (fun _ => 0)), .inr (0, [.ref 5, .ref 12, .ref 17, .int 0, .int 0, .null]), .inl (0, 3, .inl (fun _ => 0)), .inr (8, [.ref 19, .int 0, .int 0]), .inl (0, 50, .inl (fun _ => 0)), .inl (0, 3, .inl (fun _ => 0)), .inl (4, 10, .inr (.inr (.inr (.inr (fun _ => none))))), .inl (8, 30, .inr (.inr (.inr (.inr (fun _ => none))))), .inl (13, 30, .inr (.inr (.inr (.inr (fun _ => none))))), .inl (0, 3, .inl (fun _ => 0)), .inr (12, [.int 2, .ref 26, .ref 27, .int 0, .int 0, .ref 28, .ref 29, .ref 30, .ref 31, .ref 32, .ref 33, .int 0, .ref 34, .ref 35, .ref 36, .int 0, .ref 37, .ref 38, .ref 39, .int 0, .ref 40, .ref 41, .ref 42, .int 0, .ref 43, .ref 44, .ref 45, .ref 46, .int 0, .ref 47, .int 0, .int 0, .ref 48, .int 0, .int 0, .int 0, .int 0, .int 0, .ref 49]), .inl (0, 10, .inl (upd (upd (fun _ => 0) (0) (-4)) (1) 0)), .inl (0, 3, .inl (fun _ => 0)), .inl (0, 40, .inl (fun _ => 0)), .inl (0, 40, .inl (fun _ => 0)), .inl (0, 40, .inl (fun _ => 0)), .inl (0, 40, .inl (fun _ => 0)), .inl (0, 40, .inl (fun _ => 0)), .inl (0, 120, .inl (fun _ => 0)), .inl (0, 10, .inl (fun _ => 0)), .inl (0, 30, .inl (fun _ => 0)), .inl (0, 10, .inl (fun _ => 0)), .inl (0, 30, .inl (fun _ => 0)), .inl (0, 30, .inl (fun _ => 0)), .inl (0, 30, .inl (fun _ => 0)), .inl (0, 61, .inl (fun _ => 0)), .inl (0, 61, .inl (fun _ => 0)), .inl (0, 1300, .inl (fun _ => 0)), .inl (0, 30, .inl (fun _ => 0)), .inl (0, 30, .inl (fun _ => 0)), .inl (0, 30, .inl (fun _ => 0)), .inl (0, 3, .inl (fun _ => 0)), .inl (0, 50, .inl (fun _ => 0)), .inl (2, 40, .inl (fun _ => 0)), .inl (0, 3, .inl (fun _ => 0))]

set_option maxRecDepth 100000 in
set_option maxHeartbeats 8000000 in
theorem p1_op23 (xs : Nat → Int32) (a b c d : Int32) (ea : a = xs 1) (eb : b = xs 2) (ec : c = xs 3) (ed : d = xs 4) : pm_WP 0 (32, [(3, .int 0), (2, .ref 25), (1, .ref 1), (0, .ref 0)], [.int 23], g23_0 (pg xs) a b c d, 599951, 7298500) (fun r _ => r = some (.int 1)) := by
  refine pm_go (g := (837, [(3, .int 0), (2, .ref 25), (1, .ref 1), (0, .ref 0)], [], g23_0 (pg xs) a b c d, 599951, 7298500)) rfl ?_
  refine pm_go (g := (838, [(3, .int 0), (2, .ref 25), (1, .ref 1), (0, .ref 0)], [.ref 1], g23_0 (pg xs) a b c d, 599951, 7298500)) rfl ?_
  refine pm_go (g := (839, [(3, .int 0), (2, .ref 25), (1, .ref 1), (0, .ref 0)], [.ref 0, .ref 1], g23_0 (pg xs) a b c d, 599951, 7298500)) rfl ?_
  refine pm_go (g := (840, [(3, .int 0), (2, .ref 25), (1, .ref 1), (0, .ref 0)], [.int 0, .ref 0, .ref 1], g23_0 (pg xs) a b c d, 599951, 7298500)) rfl ?_
  refine pm_go (g := (841, [(3, .int 0), (2, .ref 25), (1, .ref 1), (0, .ref 0)], [.int 1, .int 0, .ref 0, .ref 1], g23_0 (pg xs) a b c d, 599951, 7298500)) rfl ?_
  refine pm_go (g := (842, [(3, .int 0), (2, .ref 25), (1, .ref 1), (0, .ref 0)], [.int 1, .ref 0, .ref 1], g23_0 (pg xs) a b c d, 599951, 7298500)) rfl ?_
  refine pm_go (g := (843, [(3, .int 0), (2, .ref 25), (1, .ref 1), (0, .ref 0)], [.int (xs 1), .ref 1], g23_0 (pg xs) a b c d, 599951, 7298500)) rfl ?_
  rw [← ea]
  refine pm_callD (z := 122) (as := [.ref 1, .int (a)]) (rest := []) rfl ?_
  show pm_WP 122 (0, [(0, .ref 1), (1, .int (a))], [], g23_0 (pg xs) a b c d, 0, 0) _
  refine pm_go (g := (1, [(0, .ref 1), (1, .int (a))], [.int (a)], g23_0 (pg xs) a b c d, 0, 0)) rfl ?_
  have q1 : a.toInt = 0 ∨ a.toInt = 1 ∨ a.toInt = 2 ∨ a.toInt = 3 ∨ a.toInt = 4 ∨ a.toInt = 5 ∨ a.toInt = 6 ∨ a.toInt ≠ 0 ∧ a.toInt ≠ 1 ∧ a.toInt ≠ 2 ∧ a.toInt ≠ 3 ∧ a.toInt ≠ 4 ∧ a.toInt ≠ 5 ∧ a.toInt ≠ 6 := by omega
  rcases q1 with q1 | q1 | q1 | q1 | q1 | q1 | q1 | q1
  ·
    obtain rfl : a = 0 := xI (c := 0) (by decide) (by omega)
    show pm_WP 122 (1, [(0, .ref 1), (1, .int 0)], [.int 0], g23_0 (pg xs) 0 b c d, 0, 0) _
    refine pm_go (g := (44, [(0, .ref 1), (1, .int 0)], [], g23_0 (pg xs) 0 b c d, 0, 0)) rfl ?_
    refine pm_go (g := (45, [(0, .ref 1), (1, .int 0)], [.ref 1], g23_0 (pg xs) 0 b c d, 0, 0)) rfl ?_
    refine pm_go (g := (48, [(0, .ref 1), (1, .int 0)], [.ref 2], g23_0 (pg xs) 0 b c d, 0, 0)) rfl ?_
    refine pm_callD (z := 79) (as := [.ref 2]) (rest := []) rfl ?_
    show pm_WP 79 (0, [(0, .ref 2)], [], g23_0 (pg xs) 0 b c d, 0, 0) _
    refine pm_go (g := (1, [(0, .ref 2)], [.ref 2], g23_0 (pg xs) 0 b c d, 0, 0)) rfl ?_
    refine pm_go (g := (4, [(0, .ref 2)], [.int 2], g23_0 (pg xs) 0 b c d, 0, 0)) rfl ?_
    refine pm_ret rfl ?_
    show pm_WP 122 (51, [(0, .ref 1), (1, .int 0)], [.int 2], g23_0 (pg xs) 0 b c d, 0, 0) _
    refine pm_ret rfl ?_
    show pm_WP 0 (846, [(3, .int 0), (2, .ref 25), (1, .ref 1), (0, .ref 0)], [.int 2], g23_0 (pg xs) 0 b c d, 599951, 7298500) _
    refine pm_go (g := (847, [(3, .int 0), (2, .ref 25), (1, .ref 1), (0, .ref 0)], [.ref 25, .int 2], g23_0 (pg xs) 0 b c d, 599951, 7298500)) rfl ?_
    refine pm_go (g := (848, [(3, .int 0), (2, .ref 25), (1, .ref 1), (0, .ref 0)], [.ref 0, .ref 25, .int 2], g23_0 (pg xs) 0 b c d, 599951, 7298500)) rfl ?_
    refine pm_go (g := (849, [(3, .int 0), (2, .ref 25), (1, .ref 1), (0, .ref 0)], [.int 0, .ref 0, .ref 25, .int 2], g23_0 (pg xs) 0 b c d, 599951, 7298500)) rfl ?_
    refine pm_go (g := (850, [(3, .int 0), (2, .ref 25), (1, .ref 1), (0, .ref 0)], [.int 1, .int 0, .ref 0, .ref 25, .int 2], g23_0 (pg xs) 0 b c d, 599951, 7298500)) rfl ?_
    refine pm_go (g := (851, [(3, .int 0), (2, .ref 25), (1, .ref 1), (0, .ref 0)], [.int 1, .ref 0, .ref 25, .int 2], g23_0 (pg xs) 0 b c d, 599951, 7298500)) rfl ?_
    refine pm_go (g := (852, [(3, .int 0), (2, .ref 25), (1, .ref 1), (0, .ref 0)], [.int (xs 1), .ref 25, .int 2], g23_0 (pg xs) 0 b c d, 599951, 7298500)) rfl ?_
    rw [← ea]
    refine pm_callD (z := 188) (as := [.ref 25, .int 0]) (rest := [.int 2]) rfl ?_
    show pm_WP 188 (0, [(0, .ref 25), (1, .int 0)], [], g23_0 (pg xs) 0 b c d, 0, 0) _
    refine pm_go (g := (1, [(0, .ref 25), (1, .int 0)], [.int 0], g23_0 (pg xs) 0 b c d, 0, 0)) rfl ?_
    refine pm_go (g := (44, [(0, .ref 25), (1, .int 0)], [], g23_0 (pg xs) 0 b c d, 0, 0)) rfl ?_
    refine pm_go (g := (45, [(0, .ref 25), (1, .int 0)], [.ref 25], g23_0 (pg xs) 0 b c d, 0, 0)) rfl ?_
    refine pm_go (g := (48, [(0, .ref 25), (1, .int 0)], [.int 2], g23_0 (pg xs) 0 b c d, 0, 0)) rfl ?_
    refine pm_ret rfl ?_
    show pm_WP 0 (855, [(3, .int 0), (2, .ref 25), (1, .ref 1), (0, .ref 0)], [.int 2, .int 2], g23_0 (pg xs) 0 b c d, 599951, 7298500) _
    refine pm_brT (g := (873, [(3, .int 0), (2, .ref 25), (1, .ref 1), (0, .ref 0)], [], g23_0 (pg xs) 0 b c d, 599951, 7298500)) rfl ?_
    refine pm_go (g := (876, [(3, .int 5), (2, .ref 25), (1, .ref 1), (0, .ref 0)], [], g23_0 (pg xs) 0 b c d, 599951, 7298500)) rfl ?_
    refine pm_go (g := (18, [(3, .int 5), (2, .ref 25), (1, .ref 1), (0, .ref 0)], [], g23_0 (pg xs) 0 b c d, 599951, 7298500)) rfl ?_
    refine pm_go (g := (19, [(3, .int 5), (2, .ref 25), (1, .ref 1), (0, .ref 0)], [.int 5], g23_0 (pg xs) 0 b c d, 599951, 7298500)) rfl ?_
    refine pm_go (g := (20, [(3, .int 5), (2, .ref 25), (1, .ref 1), (0, .ref 0)], [.ref 0, .int 5], g23_0 (pg xs) 0 b c d, 599951, 7298500)) rfl ?_
    refine pm_go (g := (21, [(3, .int 5), (2, .ref 25), (1, .ref 1), (0, .ref 0)], [.int 5, .int 5], g23_0 (pg xs) 0 b c d, 599951, 7298500)) rfl ?_
    refine pm_go (g := (22, [(3, .int 5), (2, .ref 25), (1, .ref 1), (0, .ref 0)], [.int 5, .int 5, .int 5], g23_0 (pg xs) 0 b c d, 599951, 7298500)) rfl ?_
    refine pm_go (g := (23, [(3, .int 5), (2, .ref 25), (1, .ref 1), (0, .ref 0)], [.int 0, .int 5], g23_0 (pg xs) 0 b c d, 599951, 7298500)) rfl ?_
    refine pm_brT (g := (879, [(3, .int 5), (2, .ref 25), (1, .ref 1), (0, .ref 0)], [], g23_0 (pg xs) 0 b c d, 599951, 7298500)) rfl ?_
    refine pm_go (g := (880, [(3, .int 5), (2, .ref 25), (1, .ref 1), (0, .ref 0)], [.int 1], g23_0 (pg xs) 0 b c d, 599951, 7298500)) rfl ?_
    exact pm_ret rfl rfl
  ·
    obtain rfl : a = 1 := xI (c := 1) (by decide) (by omega)
    show pm_WP 122 (1, [(0, .ref 1), (1, .int 1)], [.int 1], g23_0 (pg xs) 1 b c d, 0, 0) _
    refine pm_go (g := (52, [(0, .ref 1), (1, .int 1)], [], g23_0 (pg xs) 1 b c d, 0, 0)) rfl ?_
    refine pm_go (g := (53, [(0, .ref 1), (1, .int 1)], [.ref 1], g23_0 (pg xs) 1 b c d, 0, 0)) rfl ?_
    refine pm_go (g := (56, [(0, .ref 1), (1, .int 1)], [.ref 5], g23_0 (pg xs) 1 b c d, 0, 0)) rfl ?_
    refine pm_callD (z := 33) (as := [.ref 5]) (rest := []) rfl ?_
    show pm_WP 33 (0, [(0, .ref 5)], [], g23_0 (pg xs) 1 b c d, 0, 0) _
    refine pm_go (g := (1, [(0, .ref 5)], [.ref 5], g23_0 (pg xs) 1 b c d, 0, 0)) rfl ?_
    refine pm_go (g := (4, [(0, .ref 5)], [.int 0], g23_0 (pg xs) 1 b c d, 0, 0)) rfl ?_
    refine pm_ret rfl ?_
    show pm_WP 122 (59, [(0, .ref 1), (1, .int 1)], [.int 0], g23_0 (pg xs) 1 b c d, 0, 0) _
    refine pm_ret rfl ?_
    show pm_WP 0 (846, [(3, .int 0), (2, .ref 25), (1, .ref 1), (0, .ref 0)], [.int 0], g23_0 (pg xs) 1 b c d, 599951, 7298500) _
    refine pm_go (g := (847, [(3, .int 0), (2, .ref 25), (1, .ref 1), (0, .ref 0)], [.ref 25, .int 0], g23_0 (pg xs) 1 b c d, 599951, 7298500)) rfl ?_
    refine pm_go (g := (848, [(3, .int 0), (2, .ref 25), (1, .ref 1), (0, .ref 0)], [.ref 0, .ref 25, .int 0], g23_0 (pg xs) 1 b c d, 599951, 7298500)) rfl ?_
    refine pm_go (g := (849, [(3, .int 0), (2, .ref 25), (1, .ref 1), (0, .ref 0)], [.int 0, .ref 0, .ref 25, .int 0], g23_0 (pg xs) 1 b c d, 599951, 7298500)) rfl ?_
    refine pm_go (g := (850, [(3, .int 0), (2, .ref 25), (1, .ref 1), (0, .ref 0)], [.int 1, .int 0, .ref 0, .ref 25, .int 0], g23_0 (pg xs) 1 b c d, 599951, 7298500)) rfl ?_
    refine pm_go (g := (851, [(3, .int 0), (2, .ref 25), (1, .ref 1), (0, .ref 0)], [.int 1, .ref 0, .ref 25, .int 0], g23_0 (pg xs) 1 b c d, 599951, 7298500)) rfl ?_
    refine pm_go (g := (852, [(3, .int 0), (2, .ref 25), (1, .ref 1), (0, .ref 0)], [.int (xs 1), .ref 25, .int 0], g23_0 (pg xs) 1 b c d, 599951, 7298500)) rfl ?_
    rw [← ea]
    refine pm_callD (z := 188) (as := [.ref 25, .int 1]) (rest := [.int 0]) rfl ?_
    show pm_WP 188 (0, [(0, .ref 25), (1, .int 1)], [], g23_0 (pg xs) 1 b c d, 0, 0) _
    refine pm_go (g := (1, [(0, .ref 25), (1, .int 1)], [.int 1], g23_0 (pg xs) 1 b c d, 0, 0)) rfl ?_
    refine pm_go (g := (49, [(0, .ref 25), (1, .int 1)], [], g23_0 (pg xs) 1 b c d, 0, 0)) rfl ?_
    refine pm_go (g := (50, [(0, .ref 25), (1, .int 1)], [.ref 25], g23_0 (pg xs) 1 b c d, 0, 0)) rfl ?_
    refine pm_go (g := (53, [(0, .ref 25), (1, .int 1)], [.int 0], g23_0 (pg xs) 1 b c d, 0, 0)) rfl ?_
    refine pm_ret rfl ?_
    show pm_WP 0 (855, [(3, .int 0), (2, .ref 25), (1, .ref 1), (0, .ref 0)], [.int 0, .int 0], g23_0 (pg xs) 1 b c d, 599951, 7298500) _
    refine pm_brT (g := (873, [(3, .int 0), (2, .ref 25), (1, .ref 1), (0, .ref 0)], [], g23_0 (pg xs) 1 b c d, 599951, 7298500)) rfl ?_
    refine pm_go (g := (876, [(3, .int 5), (2, .ref 25), (1, .ref 1), (0, .ref 0)], [], g23_0 (pg xs) 1 b c d, 599951, 7298500)) rfl ?_
    refine pm_go (g := (18, [(3, .int 5), (2, .ref 25), (1, .ref 1), (0, .ref 0)], [], g23_0 (pg xs) 1 b c d, 599951, 7298500)) rfl ?_
    refine pm_go (g := (19, [(3, .int 5), (2, .ref 25), (1, .ref 1), (0, .ref 0)], [.int 5], g23_0 (pg xs) 1 b c d, 599951, 7298500)) rfl ?_
    refine pm_go (g := (20, [(3, .int 5), (2, .ref 25), (1, .ref 1), (0, .ref 0)], [.ref 0, .int 5], g23_0 (pg xs) 1 b c d, 599951, 7298500)) rfl ?_
    refine pm_go (g := (21, [(3, .int 5), (2, .ref 25), (1, .ref 1), (0, .ref 0)], [.int 5, .int 5], g23_0 (pg xs) 1 b c d, 599951, 7298500)) rfl ?_
    refine pm_go (g := (22, [(3, .int 5), (2, .ref 25), (1, .ref 1), (0, .ref 0)], [.int 5, .int 5, .int 5], g23_0 (pg xs) 1 b c d, 599951, 7298500)) rfl ?_
    refine pm_go (g := (23, [(3, .int 5), (2, .ref 25), (1, .ref 1), (0, .ref 0)], [.int 0, .int 5], g23_0 (pg xs) 1 b c d, 599951, 7298500)) rfl ?_
    refine pm_brT (g := (879, [(3, .int 5), (2, .ref 25), (1, .ref 1), (0, .ref 0)], [], g23_0 (pg xs) 1 b c d, 599951, 7298500)) rfl ?_
    refine pm_go (g := (880, [(3, .int 5), (2, .ref 25), (1, .ref 1), (0, .ref 0)], [.int 1], g23_0 (pg xs) 1 b c d, 599951, 7298500)) rfl ?_
    exact pm_ret rfl rfl
  ·
    obtain rfl : a = 2 := xI (c := 2) (by decide) (by omega)
    show pm_WP 122 (1, [(0, .ref 1), (1, .int 2)], [.int 2], g23_0 (pg xs) 2 b c d, 0, 0) _
    refine pm_go (g := (60, [(0, .ref 1), (1, .int 2)], [], g23_0 (pg xs) 2 b c d, 0, 0)) rfl ?_
    refine pm_go (g := (61, [(0, .ref 1), (1, .int 2)], [.ref 1], g23_0 (pg xs) 2 b c d, 0, 0)) rfl ?_
    refine pm_go (g := (64, [(0, .ref 1), (1, .int 2)], [.int 0], g23_0 (pg xs) 2 b c d, 0, 0)) rfl ?_
    refine pm_ret rfl ?_
    show pm_WP 0 (846, [(3, .int 0), (2, .ref 25), (1, .ref 1), (0, .ref 0)], [.int 0], g23_0 (pg xs) 2 b c d, 599951, 7298500) _
    refine pm_go (g := (847, [(3, .int 0), (2, .ref 25), (1, .ref 1), (0, .ref 0)], [.ref 25, .int 0], g23_0 (pg xs) 2 b c d, 599951, 7298500)) rfl ?_
    refine pm_go (g := (848, [(3, .int 0), (2, .ref 25), (1, .ref 1), (0, .ref 0)], [.ref 0, .ref 25, .int 0], g23_0 (pg xs) 2 b c d, 599951, 7298500)) rfl ?_
    refine pm_go (g := (849, [(3, .int 0), (2, .ref 25), (1, .ref 1), (0, .ref 0)], [.int 0, .ref 0, .ref 25, .int 0], g23_0 (pg xs) 2 b c d, 599951, 7298500)) rfl ?_
    refine pm_go (g := (850, [(3, .int 0), (2, .ref 25), (1, .ref 1), (0, .ref 0)], [.int 1, .int 0, .ref 0, .ref 25, .int 0], g23_0 (pg xs) 2 b c d, 599951, 7298500)) rfl ?_
    refine pm_go (g := (851, [(3, .int 0), (2, .ref 25), (1, .ref 1), (0, .ref 0)], [.int 1, .ref 0, .ref 25, .int 0], g23_0 (pg xs) 2 b c d, 599951, 7298500)) rfl ?_
    refine pm_go (g := (852, [(3, .int 0), (2, .ref 25), (1, .ref 1), (0, .ref 0)], [.int (xs 1), .ref 25, .int 0], g23_0 (pg xs) 2 b c d, 599951, 7298500)) rfl ?_
    rw [← ea]
    refine pm_callD (z := 188) (as := [.ref 25, .int 2]) (rest := [.int 0]) rfl ?_
    show pm_WP 188 (0, [(0, .ref 25), (1, .int 2)], [], g23_0 (pg xs) 2 b c d, 0, 0) _
    refine pm_go (g := (1, [(0, .ref 25), (1, .int 2)], [.int 2], g23_0 (pg xs) 2 b c d, 0, 0)) rfl ?_
    refine pm_go (g := (54, [(0, .ref 25), (1, .int 2)], [], g23_0 (pg xs) 2 b c d, 0, 0)) rfl ?_
    refine pm_go (g := (55, [(0, .ref 25), (1, .int 2)], [.ref 25], g23_0 (pg xs) 2 b c d, 0, 0)) rfl ?_
    refine pm_go (g := (58, [(0, .ref 25), (1, .int 2)], [.int 0], g23_0 (pg xs) 2 b c d, 0, 0)) rfl ?_
    refine pm_ret rfl ?_
    show pm_WP 0 (855, [(3, .int 0), (2, .ref 25), (1, .ref 1), (0, .ref 0)], [.int 0, .int 0], g23_0 (pg xs) 2 b c d, 599951, 7298500) _
    refine pm_brT (g := (873, [(3, .int 0), (2, .ref 25), (1, .ref 1), (0, .ref 0)], [], g23_0 (pg xs) 2 b c d, 599951, 7298500)) rfl ?_
    refine pm_go (g := (876, [(3, .int 5), (2, .ref 25), (1, .ref 1), (0, .ref 0)], [], g23_0 (pg xs) 2 b c d, 599951, 7298500)) rfl ?_
    refine pm_go (g := (18, [(3, .int 5), (2, .ref 25), (1, .ref 1), (0, .ref 0)], [], g23_0 (pg xs) 2 b c d, 599951, 7298500)) rfl ?_
    refine pm_go (g := (19, [(3, .int 5), (2, .ref 25), (1, .ref 1), (0, .ref 0)], [.int 5], g23_0 (pg xs) 2 b c d, 599951, 7298500)) rfl ?_
    refine pm_go (g := (20, [(3, .int 5), (2, .ref 25), (1, .ref 1), (0, .ref 0)], [.ref 0, .int 5], g23_0 (pg xs) 2 b c d, 599951, 7298500)) rfl ?_
    refine pm_go (g := (21, [(3, .int 5), (2, .ref 25), (1, .ref 1), (0, .ref 0)], [.int 5, .int 5], g23_0 (pg xs) 2 b c d, 599951, 7298500)) rfl ?_
    refine pm_go (g := (22, [(3, .int 5), (2, .ref 25), (1, .ref 1), (0, .ref 0)], [.int 5, .int 5, .int 5], g23_0 (pg xs) 2 b c d, 599951, 7298500)) rfl ?_
    refine pm_go (g := (23, [(3, .int 5), (2, .ref 25), (1, .ref 1), (0, .ref 0)], [.int 0, .int 5], g23_0 (pg xs) 2 b c d, 599951, 7298500)) rfl ?_
    refine pm_brT (g := (879, [(3, .int 5), (2, .ref 25), (1, .ref 1), (0, .ref 0)], [], g23_0 (pg xs) 2 b c d, 599951, 7298500)) rfl ?_
    refine pm_go (g := (880, [(3, .int 5), (2, .ref 25), (1, .ref 1), (0, .ref 0)], [.int 1], g23_0 (pg xs) 2 b c d, 599951, 7298500)) rfl ?_
    exact pm_ret rfl rfl
  ·
    obtain rfl : a = 3 := xI (c := 3) (by decide) (by omega)
    show pm_WP 122 (1, [(0, .ref 1), (1, .int 3)], [.int 3], g23_0 (pg xs) 3 b c d, 0, 0) _
    refine pm_go (g := (65, [(0, .ref 1), (1, .int 3)], [], g23_0 (pg xs) 3 b c d, 0, 0)) rfl ?_
    refine pm_go (g := (66, [(0, .ref 1), (1, .int 3)], [.ref 1], g23_0 (pg xs) 3 b c d, 0, 0)) rfl ?_
    refine pm_go (g := (69, [(0, .ref 1), (1, .int 3)], [.int 0], g23_0 (pg xs) 3 b c d, 0, 0)) rfl ?_
    refine pm_ret rfl ?_
    show pm_WP 0 (846, [(3, .int 0), (2, .ref 25), (1, .ref 1), (0, .ref 0)], [.int 0], g23_0 (pg xs) 3 b c d, 599951, 7298500) _
    refine pm_go (g := (847, [(3, .int 0), (2, .ref 25), (1, .ref 1), (0, .ref 0)], [.ref 25, .int 0], g23_0 (pg xs) 3 b c d, 599951, 7298500)) rfl ?_
    refine pm_go (g := (848, [(3, .int 0), (2, .ref 25), (1, .ref 1), (0, .ref 0)], [.ref 0, .ref 25, .int 0], g23_0 (pg xs) 3 b c d, 599951, 7298500)) rfl ?_
    refine pm_go (g := (849, [(3, .int 0), (2, .ref 25), (1, .ref 1), (0, .ref 0)], [.int 0, .ref 0, .ref 25, .int 0], g23_0 (pg xs) 3 b c d, 599951, 7298500)) rfl ?_
    refine pm_go (g := (850, [(3, .int 0), (2, .ref 25), (1, .ref 1), (0, .ref 0)], [.int 1, .int 0, .ref 0, .ref 25, .int 0], g23_0 (pg xs) 3 b c d, 599951, 7298500)) rfl ?_
    refine pm_go (g := (851, [(3, .int 0), (2, .ref 25), (1, .ref 1), (0, .ref 0)], [.int 1, .ref 0, .ref 25, .int 0], g23_0 (pg xs) 3 b c d, 599951, 7298500)) rfl ?_
    refine pm_go (g := (852, [(3, .int 0), (2, .ref 25), (1, .ref 1), (0, .ref 0)], [.int (xs 1), .ref 25, .int 0], g23_0 (pg xs) 3 b c d, 599951, 7298500)) rfl ?_
    rw [← ea]
    refine pm_callD (z := 188) (as := [.ref 25, .int 3]) (rest := [.int 0]) rfl ?_
    show pm_WP 188 (0, [(0, .ref 25), (1, .int 3)], [], g23_0 (pg xs) 3 b c d, 0, 0) _
    refine pm_go (g := (1, [(0, .ref 25), (1, .int 3)], [.int 3], g23_0 (pg xs) 3 b c d, 0, 0)) rfl ?_
    refine pm_go (g := (59, [(0, .ref 25), (1, .int 3)], [], g23_0 (pg xs) 3 b c d, 0, 0)) rfl ?_
    refine pm_go (g := (60, [(0, .ref 25), (1, .int 3)], [.ref 25], g23_0 (pg xs) 3 b c d, 0, 0)) rfl ?_
    refine pm_go (g := (63, [(0, .ref 25), (1, .int 3)], [.int 0], g23_0 (pg xs) 3 b c d, 0, 0)) rfl ?_
    refine pm_ret rfl ?_
    show pm_WP 0 (855, [(3, .int 0), (2, .ref 25), (1, .ref 1), (0, .ref 0)], [.int 0, .int 0], g23_0 (pg xs) 3 b c d, 599951, 7298500) _
    refine pm_brT (g := (873, [(3, .int 0), (2, .ref 25), (1, .ref 1), (0, .ref 0)], [], g23_0 (pg xs) 3 b c d, 599951, 7298500)) rfl ?_
    refine pm_go (g := (876, [(3, .int 5), (2, .ref 25), (1, .ref 1), (0, .ref 0)], [], g23_0 (pg xs) 3 b c d, 599951, 7298500)) rfl ?_
    refine pm_go (g := (18, [(3, .int 5), (2, .ref 25), (1, .ref 1), (0, .ref 0)], [], g23_0 (pg xs) 3 b c d, 599951, 7298500)) rfl ?_
    refine pm_go (g := (19, [(3, .int 5), (2, .ref 25), (1, .ref 1), (0, .ref 0)], [.int 5], g23_0 (pg xs) 3 b c d, 599951, 7298500)) rfl ?_
    refine pm_go (g := (20, [(3, .int 5), (2, .ref 25), (1, .ref 1), (0, .ref 0)], [.ref 0, .int 5], g23_0 (pg xs) 3 b c d, 599951, 7298500)) rfl ?_
    refine pm_go (g := (21, [(3, .int 5), (2, .ref 25), (1, .ref 1), (0, .ref 0)], [.int 5, .int 5], g23_0 (pg xs) 3 b c d, 599951, 7298500)) rfl ?_
    refine pm_go (g := (22, [(3, .int 5), (2, .ref 25), (1, .ref 1), (0, .ref 0)], [.int 5, .int 5, .int 5], g23_0 (pg xs) 3 b c d, 599951, 7298500)) rfl ?_
    refine pm_go (g := (23, [(3, .int 5), (2, .ref 25), (1, .ref 1), (0, .ref 0)], [.int 0, .int 5], g23_0 (pg xs) 3 b c d, 599951, 7298500)) rfl ?_
    refine pm_brT (g := (879, [(3, .int 5), (2, .ref 25), (1, .ref 1), (0, .ref 0)], [], g23_0 (pg xs) 3 b c d, 599951, 7298500)) rfl ?_
    refine pm_go (g := (880, [(3, .int 5), (2, .ref 25), (1, .ref 1), (0, .ref 0)], [.int 1], g23_0 (pg xs) 3 b c d, 599951, 7298500)) rfl ?_
    exact pm_ret rfl rfl
  ·
    obtain rfl : a = 4 := xI (c := 4) (by decide) (by omega)
    show pm_WP 122 (1, [(0, .ref 1), (1, .int 4)], [.int 4], g23_0 (pg xs) 4 b c d, 0, 0) _
    refine pm_go (g := (70, [(0, .ref 1), (1, .int 4)], [], g23_0 (pg xs) 4 b c d, 0, 0)) rfl ?_
    refine pm_go (g := (71, [(0, .ref 1), (1, .int 4)], [.ref 1], g23_0 (pg xs) 4 b c d, 0, 0)) rfl ?_
    refine pm_go (g := (74, [(0, .ref 1), (1, .int 4)], [.ref 12], g23_0 (pg xs) 4 b c d, 0, 0)) rfl ?_
    refine pm_callD (z := 64) (as := [.ref 12]) (rest := []) rfl ?_
    show pm_WP 64 (0, [(0, .ref 12)], [], g23_0 (pg xs) 4 b c d, 0, 0) _
    refine pm_go (g := (1, [(0, .ref 12)], [.ref 12], g23_0 (pg xs) 4 b c d, 0, 0)) rfl ?_
    refine pm_go (g := (4, [(0, .ref 12)], [.int 0], g23_0 (pg xs) 4 b c d, 0, 0)) rfl ?_
    refine pm_ret rfl ?_
    show pm_WP 122 (77, [(0, .ref 1), (1, .int 4)], [.int 0], g23_0 (pg xs) 4 b c d, 0, 0) _
    refine pm_ret rfl ?_
    show pm_WP 0 (846, [(3, .int 0), (2, .ref 25), (1, .ref 1), (0, .ref 0)], [.int 0], g23_0 (pg xs) 4 b c d, 599951, 7298500) _
    refine pm_go (g := (847, [(3, .int 0), (2, .ref 25), (1, .ref 1), (0, .ref 0)], [.ref 25, .int 0], g23_0 (pg xs) 4 b c d, 599951, 7298500)) rfl ?_
    refine pm_go (g := (848, [(3, .int 0), (2, .ref 25), (1, .ref 1), (0, .ref 0)], [.ref 0, .ref 25, .int 0], g23_0 (pg xs) 4 b c d, 599951, 7298500)) rfl ?_
    refine pm_go (g := (849, [(3, .int 0), (2, .ref 25), (1, .ref 1), (0, .ref 0)], [.int 0, .ref 0, .ref 25, .int 0], g23_0 (pg xs) 4 b c d, 599951, 7298500)) rfl ?_
    refine pm_go (g := (850, [(3, .int 0), (2, .ref 25), (1, .ref 1), (0, .ref 0)], [.int 1, .int 0, .ref 0, .ref 25, .int 0], g23_0 (pg xs) 4 b c d, 599951, 7298500)) rfl ?_
    refine pm_go (g := (851, [(3, .int 0), (2, .ref 25), (1, .ref 1), (0, .ref 0)], [.int 1, .ref 0, .ref 25, .int 0], g23_0 (pg xs) 4 b c d, 599951, 7298500)) rfl ?_
    refine pm_go (g := (852, [(3, .int 0), (2, .ref 25), (1, .ref 1), (0, .ref 0)], [.int (xs 1), .ref 25, .int 0], g23_0 (pg xs) 4 b c d, 599951, 7298500)) rfl ?_
    rw [← ea]
    refine pm_callD (z := 188) (as := [.ref 25, .int 4]) (rest := [.int 0]) rfl ?_
    show pm_WP 188 (0, [(0, .ref 25), (1, .int 4)], [], g23_0 (pg xs) 4 b c d, 0, 0) _
    refine pm_go (g := (1, [(0, .ref 25), (1, .int 4)], [.int 4], g23_0 (pg xs) 4 b c d, 0, 0)) rfl ?_
    refine pm_go (g := (64, [(0, .ref 25), (1, .int 4)], [], g23_0 (pg xs) 4 b c d, 0, 0)) rfl ?_
    refine pm_go (g := (65, [(0, .ref 25), (1, .int 4)], [.ref 25], g23_0 (pg xs) 4 b c d, 0, 0)) rfl ?_
    refine pm_go (g := (68, [(0, .ref 25), (1, .int 4)], [.int 0], g23_0 (pg xs) 4 b c d, 0, 0)) rfl ?_
    refine pm_ret rfl ?_
    show pm_WP 0 (855, [(3, .int 0), (2, .ref 25), (1, .ref 1), (0, .ref 0)], [.int 0, .int 0], g23_0 (pg xs) 4 b c d, 599951, 7298500) _
    refine pm_brT (g := (873, [(3, .int 0), (2, .ref 25), (1, .ref 1), (0, .ref 0)], [], g23_0 (pg xs) 4 b c d, 599951, 7298500)) rfl ?_
    refine pm_go (g := (876, [(3, .int 5), (2, .ref 25), (1, .ref 1), (0, .ref 0)], [], g23_0 (pg xs) 4 b c d, 599951, 7298500)) rfl ?_
    refine pm_go (g := (18, [(3, .int 5), (2, .ref 25), (1, .ref 1), (0, .ref 0)], [], g23_0 (pg xs) 4 b c d, 599951, 7298500)) rfl ?_
    refine pm_go (g := (19, [(3, .int 5), (2, .ref 25), (1, .ref 1), (0, .ref 0)], [.int 5], g23_0 (pg xs) 4 b c d, 599951, 7298500)) rfl ?_
    refine pm_go (g := (20, [(3, .int 5), (2, .ref 25), (1, .ref 1), (0, .ref 0)], [.ref 0, .int 5], g23_0 (pg xs) 4 b c d, 599951, 7298500)) rfl ?_
    refine pm_go (g := (21, [(3, .int 5), (2, .ref 25), (1, .ref 1), (0, .ref 0)], [.int 5, .int 5], g23_0 (pg xs) 4 b c d, 599951, 7298500)) rfl ?_
    refine pm_go (g := (22, [(3, .int 5), (2, .ref 25), (1, .ref 1), (0, .ref 0)], [.int 5, .int 5, .int 5], g23_0 (pg xs) 4 b c d, 599951, 7298500)) rfl ?_
    refine pm_go (g := (23, [(3, .int 5), (2, .ref 25), (1, .ref 1), (0, .ref 0)], [.int 0, .int 5], g23_0 (pg xs) 4 b c d, 599951, 7298500)) rfl ?_
    refine pm_brT (g := (879, [(3, .int 5), (2, .ref 25), (1, .ref 1), (0, .ref 0)], [], g23_0 (pg xs) 4 b c d, 599951, 7298500)) rfl ?_
    refine pm_go (g := (880, [(3, .int 5), (2, .ref 25), (1, .ref 1), (0, .ref 0)], [.int 1], g23_0 (pg xs) 4 b c d, 599951, 7298500)) rfl ?_
    exact pm_ret rfl rfl
  ·
    obtain rfl : a = 5 := xI (c := 5) (by decide) (by omega)
    show pm_WP 122 (1, [(0, .ref 1), (1, .int 5)], [.int 5], g23_0 (pg xs) 5 b c d, 0, 0) _
    refine pm_go (g := (78, [(0, .ref 1), (1, .int 5)], [], g23_0 (pg xs) 5 b c d, 0, 0)) rfl ?_
    refine pm_go (g := (79, [(0, .ref 1), (1, .int 5)], [.ref 1], g23_0 (pg xs) 5 b c d, 0, 0)) rfl ?_
    refine pm_go (g := (82, [(0, .ref 1), (1, .int 5)], [.int 0], g23_0 (pg xs) 5 b c d, 0, 0)) rfl ?_
    refine pm_ret rfl ?_
    show pm_WP 0 (846, [(3, .int 0), (2, .ref 25), (1, .ref 1), (0, .ref 0)], [.int 0], g23_0 (pg xs) 5 b c d, 599951, 7298500) _
    refine pm_go (g := (847, [(3, .int 0), (2, .ref 25), (1, .ref 1), (0, .ref 0)], [.ref 25, .int 0], g23_0 (pg xs) 5 b c d, 599951, 7298500)) rfl ?_
    refine pm_go (g := (848, [(3, .int 0), (2, .ref 25), (1, .ref 1), (0, .ref 0)], [.ref 0, .ref 25, .int 0], g23_0 (pg xs) 5 b c d, 599951, 7298500)) rfl ?_
    refine pm_go (g := (849, [(3, .int 0), (2, .ref 25), (1, .ref 1), (0, .ref 0)], [.int 0, .ref 0, .ref 25, .int 0], g23_0 (pg xs) 5 b c d, 599951, 7298500)) rfl ?_
    refine pm_go (g := (850, [(3, .int 0), (2, .ref 25), (1, .ref 1), (0, .ref 0)], [.int 1, .int 0, .ref 0, .ref 25, .int 0], g23_0 (pg xs) 5 b c d, 599951, 7298500)) rfl ?_
    refine pm_go (g := (851, [(3, .int 0), (2, .ref 25), (1, .ref 1), (0, .ref 0)], [.int 1, .ref 0, .ref 25, .int 0], g23_0 (pg xs) 5 b c d, 599951, 7298500)) rfl ?_
    refine pm_go (g := (852, [(3, .int 0), (2, .ref 25), (1, .ref 1), (0, .ref 0)], [.int (xs 1), .ref 25, .int 0], g23_0 (pg xs) 5 b c d, 599951, 7298500)) rfl ?_
    rw [← ea]
    refine pm_callD (z := 188) (as := [.ref 25, .int 5]) (rest := [.int 0]) rfl ?_
    show pm_WP 188 (0, [(0, .ref 25), (1, .int 5)], [], g23_0 (pg xs) 5 b c d, 0, 0) _
    refine pm_go (g := (1, [(0, .ref 25), (1, .int 5)], [.int 5], g23_0 (pg xs) 5 b c d, 0, 0)) rfl ?_
    refine pm_go (g := (69, [(0, .ref 25), (1, .int 5)], [], g23_0 (pg xs) 5 b c d, 0, 0)) rfl ?_
    refine pm_go (g := (70, [(0, .ref 25), (1, .int 5)], [.ref 25], g23_0 (pg xs) 5 b c d, 0, 0)) rfl ?_
    refine pm_go (g := (73, [(0, .ref 25), (1, .int 5)], [.int 0], g23_0 (pg xs) 5 b c d, 0, 0)) rfl ?_
    refine pm_ret rfl ?_
    show pm_WP 0 (855, [(3, .int 0), (2, .ref 25), (1, .ref 1), (0, .ref 0)], [.int 0, .int 0], g23_0 (pg xs) 5 b c d, 599951, 7298500) _
    refine pm_brT (g := (873, [(3, .int 0), (2, .ref 25), (1, .ref 1), (0, .ref 0)], [], g23_0 (pg xs) 5 b c d, 599951, 7298500)) rfl ?_
    refine pm_go (g := (876, [(3, .int 5), (2, .ref 25), (1, .ref 1), (0, .ref 0)], [], g23_0 (pg xs) 5 b c d, 599951, 7298500)) rfl ?_
    refine pm_go (g := (18, [(3, .int 5), (2, .ref 25), (1, .ref 1), (0, .ref 0)], [], g23_0 (pg xs) 5 b c d, 599951, 7298500)) rfl ?_
    refine pm_go (g := (19, [(3, .int 5), (2, .ref 25), (1, .ref 1), (0, .ref 0)], [.int 5], g23_0 (pg xs) 5 b c d, 599951, 7298500)) rfl ?_
    refine pm_go (g := (20, [(3, .int 5), (2, .ref 25), (1, .ref 1), (0, .ref 0)], [.ref 0, .int 5], g23_0 (pg xs) 5 b c d, 599951, 7298500)) rfl ?_
    refine pm_go (g := (21, [(3, .int 5), (2, .ref 25), (1, .ref 1), (0, .ref 0)], [.int 5, .int 5], g23_0 (pg xs) 5 b c d, 599951, 7298500)) rfl ?_
    refine pm_go (g := (22, [(3, .int 5), (2, .ref 25), (1, .ref 1), (0, .ref 0)], [.int 5, .int 5, .int 5], g23_0 (pg xs) 5 b c d, 599951, 7298500)) rfl ?_
    refine pm_go (g := (23, [(3, .int 5), (2, .ref 25), (1, .ref 1), (0, .ref 0)], [.int 0, .int 5], g23_0 (pg xs) 5 b c d, 599951, 7298500)) rfl ?_
    refine pm_brT (g := (879, [(3, .int 5), (2, .ref 25), (1, .ref 1), (0, .ref 0)], [], g23_0 (pg xs) 5 b c d, 599951, 7298500)) rfl ?_
    refine pm_go (g := (880, [(3, .int 5), (2, .ref 25), (1, .ref 1), (0, .ref 0)], [.int 1], g23_0 (pg xs) 5 b c d, 599951, 7298500)) rfl ?_
    exact pm_ret rfl rfl
  ·
    obtain rfl : a = 6 := xI (c := 6) (by decide) (by omega)
    show pm_WP 122 (1, [(0, .ref 1), (1, .int 6)], [.int 6], g23_0 (pg xs) 6 b c d, 0, 0) _
    refine pm_go (g := (83, [(0, .ref 1), (1, .int 6)], [], g23_0 (pg xs) 6 b c d, 0, 0)) rfl ?_
    refine pm_go (g := (84, [(0, .ref 1), (1, .int 6)], [.ref 1], g23_0 (pg xs) 6 b c d, 0, 0)) rfl ?_
    refine pm_go (g := (87, [(0, .ref 1), (1, .int 6)], [.int 0], g23_0 (pg xs) 6 b c d, 0, 0)) rfl ?_
    refine pm_ret rfl ?_
    show pm_WP 0 (846, [(3, .int 0), (2, .ref 25), (1, .ref 1), (0, .ref 0)], [.int 0], g23_0 (pg xs) 6 b c d, 599951, 7298500) _
    refine pm_go (g := (847, [(3, .int 0), (2, .ref 25), (1, .ref 1), (0, .ref 0)], [.ref 25, .int 0], g23_0 (pg xs) 6 b c d, 599951, 7298500)) rfl ?_
    refine pm_go (g := (848, [(3, .int 0), (2, .ref 25), (1, .ref 1), (0, .ref 0)], [.ref 0, .ref 25, .int 0], g23_0 (pg xs) 6 b c d, 599951, 7298500)) rfl ?_
    refine pm_go (g := (849, [(3, .int 0), (2, .ref 25), (1, .ref 1), (0, .ref 0)], [.int 0, .ref 0, .ref 25, .int 0], g23_0 (pg xs) 6 b c d, 599951, 7298500)) rfl ?_
    refine pm_go (g := (850, [(3, .int 0), (2, .ref 25), (1, .ref 1), (0, .ref 0)], [.int 1, .int 0, .ref 0, .ref 25, .int 0], g23_0 (pg xs) 6 b c d, 599951, 7298500)) rfl ?_
    refine pm_go (g := (851, [(3, .int 0), (2, .ref 25), (1, .ref 1), (0, .ref 0)], [.int 1, .ref 0, .ref 25, .int 0], g23_0 (pg xs) 6 b c d, 599951, 7298500)) rfl ?_
    refine pm_go (g := (852, [(3, .int 0), (2, .ref 25), (1, .ref 1), (0, .ref 0)], [.int (xs 1), .ref 25, .int 0], g23_0 (pg xs) 6 b c d, 599951, 7298500)) rfl ?_
    rw [← ea]
    refine pm_callD (z := 188) (as := [.ref 25, .int 6]) (rest := [.int 0]) rfl ?_
    show pm_WP 188 (0, [(0, .ref 25), (1, .int 6)], [], g23_0 (pg xs) 6 b c d, 0, 0) _
    refine pm_go (g := (1, [(0, .ref 25), (1, .int 6)], [.int 6], g23_0 (pg xs) 6 b c d, 0, 0)) rfl ?_
    refine pm_go (g := (74, [(0, .ref 25), (1, .int 6)], [], g23_0 (pg xs) 6 b c d, 0, 0)) rfl ?_
    refine pm_go (g := (75, [(0, .ref 25), (1, .int 6)], [.ref 25], g23_0 (pg xs) 6 b c d, 0, 0)) rfl ?_
    refine pm_go (g := (78, [(0, .ref 25), (1, .int 6)], [.int 0], g23_0 (pg xs) 6 b c d, 0, 0)) rfl ?_
    refine pm_ret rfl ?_
    show pm_WP 0 (855, [(3, .int 0), (2, .ref 25), (1, .ref 1), (0, .ref 0)], [.int 0, .int 0], g23_0 (pg xs) 6 b c d, 599951, 7298500) _
    refine pm_brT (g := (873, [(3, .int 0), (2, .ref 25), (1, .ref 1), (0, .ref 0)], [], g23_0 (pg xs) 6 b c d, 599951, 7298500)) rfl ?_
    refine pm_go (g := (876, [(3, .int 5), (2, .ref 25), (1, .ref 1), (0, .ref 0)], [], g23_0 (pg xs) 6 b c d, 599951, 7298500)) rfl ?_
    refine pm_go (g := (18, [(3, .int 5), (2, .ref 25), (1, .ref 1), (0, .ref 0)], [], g23_0 (pg xs) 6 b c d, 599951, 7298500)) rfl ?_
    refine pm_go (g := (19, [(3, .int 5), (2, .ref 25), (1, .ref 1), (0, .ref 0)], [.int 5], g23_0 (pg xs) 6 b c d, 599951, 7298500)) rfl ?_
    refine pm_go (g := (20, [(3, .int 5), (2, .ref 25), (1, .ref 1), (0, .ref 0)], [.ref 0, .int 5], g23_0 (pg xs) 6 b c d, 599951, 7298500)) rfl ?_
    refine pm_go (g := (21, [(3, .int 5), (2, .ref 25), (1, .ref 1), (0, .ref 0)], [.int 5, .int 5], g23_0 (pg xs) 6 b c d, 599951, 7298500)) rfl ?_
    refine pm_go (g := (22, [(3, .int 5), (2, .ref 25), (1, .ref 1), (0, .ref 0)], [.int 5, .int 5, .int 5], g23_0 (pg xs) 6 b c d, 599951, 7298500)) rfl ?_
    refine pm_go (g := (23, [(3, .int 5), (2, .ref 25), (1, .ref 1), (0, .ref 0)], [.int 0, .int 5], g23_0 (pg xs) 6 b c d, 599951, 7298500)) rfl ?_
    refine pm_brT (g := (879, [(3, .int 5), (2, .ref 25), (1, .ref 1), (0, .ref 0)], [], g23_0 (pg xs) 6 b c d, 599951, 7298500)) rfl ?_
    refine pm_go (g := (880, [(3, .int 5), (2, .ref 25), (1, .ref 1), (0, .ref 0)], [.int 1], g23_0 (pg xs) 6 b c d, 599951, 7298500)) rfl ?_
    exact pm_ret rfl rfl
  refine pm_goE (g := (88, [(0, .ref 1), (1, .int (a))], [], g23_0 (pg xs) a b c d, 0, 0)) (pm_swO (by decide) rfl (by omega)) ?_
  refine pm_go (g := (89, [(0, .ref 1), (1, .int (a))], [.int (-1)], g23_0 (pg xs) a b c d, 0, 0)) rfl ?_
  refine pm_ret rfl ?_
  show pm_WP 0 (846, [(3, .int 0), (2, .ref 25), (1, .ref 1), (0, .ref 0)], [.int (-1)], g23_0 (pg xs) a b c d, 599951, 7298500) _
  refine pm_go (g := (847, [(3, .int 0), (2, .ref 25), (1, .ref 1), (0, .ref 0)], [.ref 25, .int (-1)], g23_0 (pg xs) a b c d, 599951, 7298500)) rfl ?_
  refine pm_go (g := (848, [(3, .int 0), (2, .ref 25), (1, .ref 1), (0, .ref 0)], [.ref 0, .ref 25, .int (-1)], g23_0 (pg xs) a b c d, 599951, 7298500)) rfl ?_
  refine pm_go (g := (849, [(3, .int 0), (2, .ref 25), (1, .ref 1), (0, .ref 0)], [.int 0, .ref 0, .ref 25, .int (-1)], g23_0 (pg xs) a b c d, 599951, 7298500)) rfl ?_
  refine pm_go (g := (850, [(3, .int 0), (2, .ref 25), (1, .ref 1), (0, .ref 0)], [.int 1, .int 0, .ref 0, .ref 25, .int (-1)], g23_0 (pg xs) a b c d, 599951, 7298500)) rfl ?_
  refine pm_go (g := (851, [(3, .int 0), (2, .ref 25), (1, .ref 1), (0, .ref 0)], [.int 1, .ref 0, .ref 25, .int (-1)], g23_0 (pg xs) a b c d, 599951, 7298500)) rfl ?_
  refine pm_go (g := (852, [(3, .int 0), (2, .ref 25), (1, .ref 1), (0, .ref 0)], [.int (xs 1), .ref 25, .int (-1)], g23_0 (pg xs) a b c d, 599951, 7298500)) rfl ?_
  rw [← ea]
  refine pm_callD (z := 188) (as := [.ref 25, .int (a)]) (rest := [.int (-1)]) rfl ?_
  show pm_WP 188 (0, [(0, .ref 25), (1, .int (a))], [], g23_0 (pg xs) a b c d, 0, 0) _
  refine pm_go (g := (1, [(0, .ref 25), (1, .int (a))], [.int (a)], g23_0 (pg xs) a b c d, 0, 0)) rfl ?_
  refine pm_goE (g := (79, [(0, .ref 25), (1, .int (a))], [], g23_0 (pg xs) a b c d, 0, 0)) (pm_swO (by decide) rfl (by omega)) ?_
  refine pm_go (g := (80, [(0, .ref 25), (1, .int (a))], [.int (-1)], g23_0 (pg xs) a b c d, 0, 0)) rfl ?_
  refine pm_ret rfl ?_
  show pm_WP 0 (855, [(3, .int 0), (2, .ref 25), (1, .ref 1), (0, .ref 0)], [.int (-1), .int (-1)], g23_0 (pg xs) a b c d, 599951, 7298500) _
  refine pm_brT (g := (873, [(3, .int 0), (2, .ref 25), (1, .ref 1), (0, .ref 0)], [], g23_0 (pg xs) a b c d, 599951, 7298500)) rfl ?_
  refine pm_go (g := (876, [(3, .int 5), (2, .ref 25), (1, .ref 1), (0, .ref 0)], [], g23_0 (pg xs) a b c d, 599951, 7298500)) rfl ?_
  refine pm_go (g := (18, [(3, .int 5), (2, .ref 25), (1, .ref 1), (0, .ref 0)], [], g23_0 (pg xs) a b c d, 599951, 7298500)) rfl ?_
  refine pm_go (g := (19, [(3, .int 5), (2, .ref 25), (1, .ref 1), (0, .ref 0)], [.int 5], g23_0 (pg xs) a b c d, 599951, 7298500)) rfl ?_
  refine pm_go (g := (20, [(3, .int 5), (2, .ref 25), (1, .ref 1), (0, .ref 0)], [.ref 0, .int 5], g23_0 (pg xs) a b c d, 599951, 7298500)) rfl ?_
  refine pm_go (g := (21, [(3, .int 5), (2, .ref 25), (1, .ref 1), (0, .ref 0)], [.int 5, .int 5], g23_0 (pg xs) a b c d, 599951, 7298500)) rfl ?_
  refine pm_go (g := (22, [(3, .int 5), (2, .ref 25), (1, .ref 1), (0, .ref 0)], [.int 5, .int 5, .int 5], g23_0 (pg xs) a b c d, 599951, 7298500)) rfl ?_
  refine pm_go (g := (23, [(3, .int 5), (2, .ref 25), (1, .ref 1), (0, .ref 0)], [.int 0, .int 5], g23_0 (pg xs) a b c d, 599951, 7298500)) rfl ?_
  refine pm_brT (g := (879, [(3, .int 5), (2, .ref 25), (1, .ref 1), (0, .ref 0)], [], g23_0 (pg xs) a b c d, 599951, 7298500)) rfl ?_
  refine pm_go (g := (880, [(3, .int 5), (2, .ref 25), (1, .ref 1), (0, .ref 0)], [.int 1], g23_0 (pg xs) a b c d, 599951, 7298500)) rfl ?_
  exact pm_ret rfl rfl
