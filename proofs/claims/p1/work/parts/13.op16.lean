def g16_0 (g : pm_C) (a : Int32) (b : Int32) (c : Int32) (d : Int32) : pm_H := [g, .inr (11, [.ref 2, .ref 5, .ref 9, .ref 12, .ref 16, .ref 18, .ref 20, .int 0, .ref 21, .int 0, .ref 22, .int 0, .ref 23, .int 0, .ref 24, .int 0, .int 0]), .inr (9, [.ref 3, .ref 4, .int 2]), .inl (0, 10, .inl (upd (upd (fun _ => 0) (0) (-1)) (1) 0)), .inl (0, 31, .inl (upd (upd (upd (upd (upd (upd (upd (fun _ => 0) (0) 1) (1) 3) (10) 1024) (11) 2048) (20) 1048577) (21) 3145729) (30) 1073741825)), .inr (4, [.ref 2, .ref 6, .int 0, .ref 7, .ref 8, .long 0, .long 0, .long 0]), .inl (6, 40, .inr (.inr (.inr (.inr (fun _ => none))))), .inl (1, 10, .inr (.inl (fun _ => 0))), .inl (1, 7, .inr (.inl (fun _ => 0))), .inr (2, [.ref 2, .ref 5, .ref 10, .ref 11, .null, .int 0]), .inr (6, [.ref 2, .ref 5, .null, .int 0, .long 0, .int 0, .null]), .inr (6, [.ref 2, .ref 5, .null, .int 0, .long 0, .int 0, .null]), .inr (7, [.ref 13, .ref 14, .ref 15, .int 0]), .inl (0, 61, .inl (fun _ => 0)), .inl (0, 61, .inl (fun _ => 0)), .inl (0, 1220, .inl (fun _ => 0)), .inr (0, [.ref 5, .ref 12, .ref 17, .int 0, .int 0, .null]), .inl (0, 3, .inl (fun _ => 0)), .inr (8, [.ref 19, .int 0, .int 0]), .inl (0, 50, .inl (fun _ => 0)), .inl (0, 3, .inl (fun _ => 0)), .inl (4, 10, .inr (.inr (.inr (.inr (fun _ => none))))), .inl (8, 30, .inr (.inr (.inr (.inr (fun _ => none))))), .inl (13, 30, .inr (.inr (.inr (.inr (fun _ => none))))), .inl (0, 3, .inl (fun _ => 0)), .inr (12, [.int 2, .ref 26, .ref 27, .int 0, .int 0, .ref 28, .ref 29, .ref 30, .ref 31, .ref 32, .ref 33, .int 0, .ref 34, .ref 35, .ref 36, .int 0, .ref 37, .ref 38, .ref 39, .int 0, .ref 40, .ref 41, .ref 42, .int 0, .ref 43, .ref 44, .ref 45, .ref 46, .int 0, .ref 47, .int 0, .int 0, .ref 48, .int 0, .int 0, .int 0, .int 0, .int 0, .ref 49]), .inl (0, 10, .inl (upd (upd (fun _ => 0) (0) (-4)) (1) 0)), .inl (0, 3, .inl (fun _ => 0)), .inl (0, 40, .inl (fun _ => 0)), .inl (0, 40, .inl (fun _ => 0)), .inl (0, 40, .inl (fun _ => 0)), .inl (0, 40, .inl (fun _ => 0)), .inl (0, 40, .inl (fun _ => 0)), .inl (0, 120, .inl (fun _ => 0)), .inl (0, 10, .inl (fun _ => 0)), .inl (0, 30, .inl (fun _ => 0)), .inl (0, 10, .inl (fun _ => 0)), .inl (0, 30, .inl (fun _ => 0)), .inl (0, 30, .inl (fun _ => 0)), .inl (0, 30, .inl (fun _ => 0)), .inl (0, 61, .inl (fun _ => 0)), .inl (0, 61, .inl (fun _ => 0)), .inl (0, 1300, .inl (fun _ => 0)), .inl (0, 30, .inl (fun _ => 0)), .inl (0, 30, .inl (fun _ => 0)), .inl (0, 30, .inl (fun _ => 0)), .inl (0, 3, .inl (fun _ => 0)), .inl (0, 50, .inl (fun _ => 0)), .inl (2, 40, .inl (fun _ => 0)), .inl (0, 3, .inl (fun _ => 0))]

set_option maxRecDepth 100000 in
set_option maxHeartbeats 8000000 in
theorem p1_op16 (xs : Nat → Int32) (a b c d : Int32) (ea : a = xs 1) (eb : b = xs 2) (ec : c = xs 3) (ed : d = xs 4) : pm_WP 0 (32, [(3, .int 0), (2, .ref 25), (1, .ref 1), (0, .ref 0)], [.int 16], g16_0 (pg xs) a b c d, 599951, 7298500) (fun r _ => r = some (.int 1)) := by
  refine pm_go (g := (636, [(3, .int 0), (2, .ref 25), (1, .ref 1), (0, .ref 0)], [], g16_0 (pg xs) a b c d, 599951, 7298500)) rfl ?_
  refine pm_go (g := (637, [(3, .int 0), (2, .ref 25), (1, .ref 1), (0, .ref 0)], [.ref 1], g16_0 (pg xs) a b c d, 599951, 7298500)) rfl ?_
  refine pm_go (g := (638, [(3, .int 0), (2, .ref 25), (1, .ref 1), (0, .ref 0)], [.ref 0, .ref 1], g16_0 (pg xs) a b c d, 599951, 7298500)) rfl ?_
  refine pm_go (g := (639, [(3, .int 0), (2, .ref 25), (1, .ref 1), (0, .ref 0)], [.int 0, .ref 0, .ref 1], g16_0 (pg xs) a b c d, 599951, 7298500)) rfl ?_
  refine pm_go (g := (640, [(3, .int 0), (2, .ref 25), (1, .ref 1), (0, .ref 0)], [.int 1, .int 0, .ref 0, .ref 1], g16_0 (pg xs) a b c d, 599951, 7298500)) rfl ?_
  refine pm_go (g := (641, [(3, .int 0), (2, .ref 25), (1, .ref 1), (0, .ref 0)], [.int 1, .ref 0, .ref 1], g16_0 (pg xs) a b c d, 599951, 7298500)) rfl ?_
  refine pm_go (g := (642, [(3, .int 0), (2, .ref 25), (1, .ref 1), (0, .ref 0)], [.int (xs 1), .ref 1], g16_0 (pg xs) a b c d, 599951, 7298500)) rfl ?_
  rw [← ea]
  refine pm_go (g := (643, [(3, .int 0), (2, .ref 25), (1, .ref 1), (0, .ref 0)], [.ref 0, .int (a), .ref 1], g16_0 (pg xs) a b c d, 599951, 7298500)) rfl ?_
  refine pm_go (g := (644, [(3, .int 0), (2, .ref 25), (1, .ref 1), (0, .ref 0)], [.int 0, .ref 0, .int (a), .ref 1], g16_0 (pg xs) a b c d, 599951, 7298500)) rfl ?_
  refine pm_go (g := (645, [(3, .int 0), (2, .ref 25), (1, .ref 1), (0, .ref 0)], [.int 2, .int 0, .ref 0, .int (a), .ref 1], g16_0 (pg xs) a b c d, 599951, 7298500)) rfl ?_
  refine pm_go (g := (646, [(3, .int 0), (2, .ref 25), (1, .ref 1), (0, .ref 0)], [.int 2, .ref 0, .int (a), .ref 1], g16_0 (pg xs) a b c d, 599951, 7298500)) rfl ?_
  refine pm_go (g := (647, [(3, .int 0), (2, .ref 25), (1, .ref 1), (0, .ref 0)], [.int (xs 2), .int (a), .ref 1], g16_0 (pg xs) a b c d, 599951, 7298500)) rfl ?_
  rw [← eb]
  refine pm_callD (z := 115) (as := [.ref 1, .int (a), .int (b)]) (rest := []) rfl ?_
  show pm_WP 115 (0, [(0, .ref 1), (1, .int (a)), (2, .int (b))], [], g16_0 (pg xs) a b c d, 0, 0) _
  refine pm_go (g := (1, [(0, .ref 1), (1, .int (a)), (2, .int (b))], [.ref 1], g16_0 (pg xs) a b c d, 0, 0)) rfl ?_
  refine pm_go (g := (4, [(0, .ref 1), (1, .int (a)), (2, .int (b))], [.ref 12], g16_0 (pg xs) a b c d, 0, 0)) rfl ?_
  refine pm_go (g := (5, [(0, .ref 1), (1, .int (a)), (2, .int (b))], [.int (a), .ref 12], g16_0 (pg xs) a b c d, 0, 0)) rfl ?_
  refine pm_callD (z := 65) (as := [.ref 12, .int (a)]) (rest := []) rfl ?_
  show pm_WP 65 (0, [(0, .ref 12), (1, .int (a))], [], g16_0 (pg xs) a b c d, 0, 0) _
  refine pm_go (g := (1, [(0, .ref 12), (1, .int (a))], [.int (a)], g16_0 (pg xs) a b c d, 0, 0)) rfl ?_
  refine pm_go (g := (2, [(0, .ref 12), (1, .int (a))], [.int 1, .int (a)], g16_0 (pg xs) a b c d, 0, 0)) rfl ?_
  refine pm_if2 (g := (17, [(0, .ref 12), (1, .int (a))], [], g16_0 (pg xs) a b c d, 0, 0)) (h := (5, [(0, .ref 12), (1, .int (a))], [], g16_0 (pg xs) a b c d, 0, 0)) rfl (fun q1 => ?_) (fun q1 => ?_)
  ·
    have q1 := qT_lt (cx := a.toInt) (cy := 1) rfl (by decide) q1
    refine pm_go (g := (18, [(0, .ref 12), (1, .int (a))], [.int 0], g16_0 (pg xs) a b c d, 0, 0)) rfl ?_
    refine pm_ret rfl ?_
    show pm_WP 115 (8, [(0, .ref 1), (1, .int (a)), (2, .int (b))], [.int 0], g16_0 (pg xs) a b c d, 0, 0) _
    refine pm_brT (g := (20, [(0, .ref 1), (1, .int (a)), (2, .int (b))], [], g16_0 (pg xs) a b c d, 0, 0)) rfl ?_
    refine pm_go (g := (21, [(0, .ref 1), (1, .int (a)), (2, .int (b))], [.int (-1)], g16_0 (pg xs) a b c d, 0, 0)) rfl ?_
    refine pm_ret rfl ?_
    show pm_WP 0 (650, [(3, .int 0), (2, .ref 25), (1, .ref 1), (0, .ref 0)], [.int (-1)], g16_0 (pg xs) a b c d, 599951, 7298500) _
    refine pm_go (g := (651, [(3, .int 0), (2, .ref 25), (1, .ref 1), (0, .ref 0)], [.ref 25, .int (-1)], g16_0 (pg xs) a b c d, 599951, 7298500)) rfl ?_
    refine pm_go (g := (652, [(3, .int 0), (2, .ref 25), (1, .ref 1), (0, .ref 0)], [.ref 0, .ref 25, .int (-1)], g16_0 (pg xs) a b c d, 599951, 7298500)) rfl ?_
    refine pm_go (g := (653, [(3, .int 0), (2, .ref 25), (1, .ref 1), (0, .ref 0)], [.int 0, .ref 0, .ref 25, .int (-1)], g16_0 (pg xs) a b c d, 599951, 7298500)) rfl ?_
    refine pm_go (g := (654, [(3, .int 0), (2, .ref 25), (1, .ref 1), (0, .ref 0)], [.int 1, .int 0, .ref 0, .ref 25, .int (-1)], g16_0 (pg xs) a b c d, 599951, 7298500)) rfl ?_
    refine pm_go (g := (655, [(3, .int 0), (2, .ref 25), (1, .ref 1), (0, .ref 0)], [.int 1, .ref 0, .ref 25, .int (-1)], g16_0 (pg xs) a b c d, 599951, 7298500)) rfl ?_
    refine pm_go (g := (656, [(3, .int 0), (2, .ref 25), (1, .ref 1), (0, .ref 0)], [.int (xs 1), .ref 25, .int (-1)], g16_0 (pg xs) a b c d, 599951, 7298500)) rfl ?_
    rw [← ea]
    refine pm_go (g := (657, [(3, .int 0), (2, .ref 25), (1, .ref 1), (0, .ref 0)], [.ref 0, .int (a), .ref 25, .int (-1)], g16_0 (pg xs) a b c d, 599951, 7298500)) rfl ?_
    refine pm_go (g := (658, [(3, .int 0), (2, .ref 25), (1, .ref 1), (0, .ref 0)], [.int 0, .ref 0, .int (a), .ref 25, .int (-1)], g16_0 (pg xs) a b c d, 599951, 7298500)) rfl ?_
    refine pm_go (g := (659, [(3, .int 0), (2, .ref 25), (1, .ref 1), (0, .ref 0)], [.int 2, .int 0, .ref 0, .int (a), .ref 25, .int (-1)], g16_0 (pg xs) a b c d, 599951, 7298500)) rfl ?_
    refine pm_go (g := (660, [(3, .int 0), (2, .ref 25), (1, .ref 1), (0, .ref 0)], [.int 2, .ref 0, .int (a), .ref 25, .int (-1)], g16_0 (pg xs) a b c d, 599951, 7298500)) rfl ?_
    refine pm_go (g := (661, [(3, .int 0), (2, .ref 25), (1, .ref 1), (0, .ref 0)], [.int (xs 2), .int (a), .ref 25, .int (-1)], g16_0 (pg xs) a b c d, 599951, 7298500)) rfl ?_
    rw [← eb]
    refine pm_callD (z := 173) (as := [.ref 25, .int (a), .int (b)]) (rest := [.int (-1)]) rfl ?_
    show pm_WP 173 (0, [(0, .ref 25), (1, .int (a)), (2, .int (b))], [], g16_0 (pg xs) a b c d, 0, 0) _
    refine pm_go (g := (1, [(0, .ref 25), (1, .int (a)), (2, .int (b))], [.ref 25], g16_0 (pg xs) a b c d, 0, 0)) rfl ?_
    refine pm_go (g := (2, [(0, .ref 25), (1, .int (a)), (2, .int (b))], [.int (a), .ref 25], g16_0 (pg xs) a b c d, 0, 0)) rfl ?_
    refine pm_callD (z := 170) (as := [.ref 25, .int (a)]) (rest := []) rfl ?_
    show pm_WP 170 (0, [(0, .ref 25), (1, .int (a))], [], g16_0 (pg xs) a b c d, 0, 0) _
    refine pm_go (g := (1, [(0, .ref 25), (1, .int (a))], [.int (a)], g16_0 (pg xs) a b c d, 0, 0)) rfl ?_
    refine pm_go (g := (2, [(0, .ref 25), (1, .int (a))], [.int 1, .int (a)], g16_0 (pg xs) a b c d, 0, 0)) rfl ?_
    refine pm_go (g := (3, [(0, .ref 25), (1, .int (a))], [.ref 25, .int 1, .int (a)], g16_0 (pg xs) a b c d, 0, 0)) rfl ?_
    refine pm_go (g := (6, [(0, .ref 25), (1, .int (a))], [.int 0, .int 1, .int (a)], g16_0 (pg xs) a b c d, 0, 0)) rfl ?_
    refine pm_callD (z := 128) (as := [.int (a), .int 1, .int 0]) (rest := []) rfl ?_
    show pm_WP 128 (0, [(0, .int (a)), (1, .int 1), (2, .int 0)], [], g16_0 (pg xs) a b c d, 0, 0) _
    refine pm_go (g := (1, [(0, .int (a)), (1, .int 1), (2, .int 0)], [.int (a)], g16_0 (pg xs) a b c d, 0, 0)) rfl ?_
    refine pm_go (g := (2, [(0, .int (a)), (1, .int 1), (2, .int 0)], [.int 1, .int (a)], g16_0 (pg xs) a b c d, 0, 0)) rfl ?_
    refine pm_ifT (g := (14, [(0, .int (a)), (1, .int 1), (2, .int 0)], [], g16_0 (pg xs) a b c d, 0, 0)) rfl (rT_lt (cx := a.toInt) (cy := 1) rfl (by decide) (by omega)) ?_
    refine pm_go (g := (15, [(0, .int (a)), (1, .int 1), (2, .int 0)], [.int 0], g16_0 (pg xs) a b c d, 0, 0)) rfl ?_
    refine pm_ret rfl ?_
    show pm_WP 170 (9, [(0, .ref 25), (1, .int (a))], [.int 0], g16_0 (pg xs) a b c d, 0, 0) _
    refine pm_ret rfl ?_
    show pm_WP 173 (5, [(0, .ref 25), (1, .int (a)), (2, .int (b))], [.int 0], g16_0 (pg xs) a b c d, 0, 0) _
    refine pm_brT (g := (17, [(0, .ref 25), (1, .int (a)), (2, .int (b))], [], g16_0 (pg xs) a b c d, 0, 0)) rfl ?_
    refine pm_go (g := (18, [(0, .ref 25), (1, .int (a)), (2, .int (b))], [.int (-1)], g16_0 (pg xs) a b c d, 0, 0)) rfl ?_
    refine pm_ret rfl ?_
    show pm_WP 0 (664, [(3, .int 0), (2, .ref 25), (1, .ref 1), (0, .ref 0)], [.int (-1), .int (-1)], g16_0 (pg xs) a b c d, 599951, 7298500) _
    refine pm_brT (g := (873, [(3, .int 0), (2, .ref 25), (1, .ref 1), (0, .ref 0)], [], g16_0 (pg xs) a b c d, 599951, 7298500)) rfl ?_
    refine pm_go (g := (876, [(3, .int 5), (2, .ref 25), (1, .ref 1), (0, .ref 0)], [], g16_0 (pg xs) a b c d, 599951, 7298500)) rfl ?_
    refine pm_go (g := (18, [(3, .int 5), (2, .ref 25), (1, .ref 1), (0, .ref 0)], [], g16_0 (pg xs) a b c d, 599951, 7298500)) rfl ?_
    refine pm_go (g := (19, [(3, .int 5), (2, .ref 25), (1, .ref 1), (0, .ref 0)], [.int 5], g16_0 (pg xs) a b c d, 599951, 7298500)) rfl ?_
    refine pm_go (g := (20, [(3, .int 5), (2, .ref 25), (1, .ref 1), (0, .ref 0)], [.ref 0, .int 5], g16_0 (pg xs) a b c d, 599951, 7298500)) rfl ?_
    refine pm_go (g := (21, [(3, .int 5), (2, .ref 25), (1, .ref 1), (0, .ref 0)], [.int 5, .int 5], g16_0 (pg xs) a b c d, 599951, 7298500)) rfl ?_
    refine pm_go (g := (22, [(3, .int 5), (2, .ref 25), (1, .ref 1), (0, .ref 0)], [.int 5, .int 5, .int 5], g16_0 (pg xs) a b c d, 599951, 7298500)) rfl ?_
    refine pm_go (g := (23, [(3, .int 5), (2, .ref 25), (1, .ref 1), (0, .ref 0)], [.int 0, .int 5], g16_0 (pg xs) a b c d, 599951, 7298500)) rfl ?_
    refine pm_brT (g := (879, [(3, .int 5), (2, .ref 25), (1, .ref 1), (0, .ref 0)], [], g16_0 (pg xs) a b c d, 599951, 7298500)) rfl ?_
    refine pm_go (g := (880, [(3, .int 5), (2, .ref 25), (1, .ref 1), (0, .ref 0)], [.int 1], g16_0 (pg xs) a b c d, 599951, 7298500)) rfl ?_
    exact pm_ret rfl rfl
  have q1 := qF_lt (cx := a.toInt) (cy := 1) rfl (by decide) q1
  refine pm_go (g := (6, [(0, .ref 12), (1, .int (a))], [.int (a)], g16_0 (pg xs) a b c d, 0, 0)) rfl ?_
  refine pm_go (g := (7, [(0, .ref 12), (1, .int (a))], [.ref 12, .int (a)], g16_0 (pg xs) a b c d, 0, 0)) rfl ?_
  refine pm_go (g := (10, [(0, .ref 12), (1, .int (a))], [.int 0, .int (a)], g16_0 (pg xs) a b c d, 0, 0)) rfl ?_
  refine pm_ifT (g := (17, [(0, .ref 12), (1, .int (a))], [], g16_0 (pg xs) a b c d, 0, 0)) rfl (rT_gt (cx := a.toInt) (cy := 0) rfl (by decide) (by omega)) ?_
  refine pm_go (g := (18, [(0, .ref 12), (1, .int (a))], [.int 0], g16_0 (pg xs) a b c d, 0, 0)) rfl ?_
  refine pm_ret rfl ?_
  show pm_WP 115 (8, [(0, .ref 1), (1, .int (a)), (2, .int (b))], [.int 0], g16_0 (pg xs) a b c d, 0, 0) _
  refine pm_brT (g := (20, [(0, .ref 1), (1, .int (a)), (2, .int (b))], [], g16_0 (pg xs) a b c d, 0, 0)) rfl ?_
  refine pm_go (g := (21, [(0, .ref 1), (1, .int (a)), (2, .int (b))], [.int (-1)], g16_0 (pg xs) a b c d, 0, 0)) rfl ?_
  refine pm_ret rfl ?_
  show pm_WP 0 (650, [(3, .int 0), (2, .ref 25), (1, .ref 1), (0, .ref 0)], [.int (-1)], g16_0 (pg xs) a b c d, 599951, 7298500) _
  refine pm_go (g := (651, [(3, .int 0), (2, .ref 25), (1, .ref 1), (0, .ref 0)], [.ref 25, .int (-1)], g16_0 (pg xs) a b c d, 599951, 7298500)) rfl ?_
  refine pm_go (g := (652, [(3, .int 0), (2, .ref 25), (1, .ref 1), (0, .ref 0)], [.ref 0, .ref 25, .int (-1)], g16_0 (pg xs) a b c d, 599951, 7298500)) rfl ?_
  refine pm_go (g := (653, [(3, .int 0), (2, .ref 25), (1, .ref 1), (0, .ref 0)], [.int 0, .ref 0, .ref 25, .int (-1)], g16_0 (pg xs) a b c d, 599951, 7298500)) rfl ?_
  refine pm_go (g := (654, [(3, .int 0), (2, .ref 25), (1, .ref 1), (0, .ref 0)], [.int 1, .int 0, .ref 0, .ref 25, .int (-1)], g16_0 (pg xs) a b c d, 599951, 7298500)) rfl ?_
  refine pm_go (g := (655, [(3, .int 0), (2, .ref 25), (1, .ref 1), (0, .ref 0)], [.int 1, .ref 0, .ref 25, .int (-1)], g16_0 (pg xs) a b c d, 599951, 7298500)) rfl ?_
  refine pm_go (g := (656, [(3, .int 0), (2, .ref 25), (1, .ref 1), (0, .ref 0)], [.int (xs 1), .ref 25, .int (-1)], g16_0 (pg xs) a b c d, 599951, 7298500)) rfl ?_
  rw [← ea]
  refine pm_go (g := (657, [(3, .int 0), (2, .ref 25), (1, .ref 1), (0, .ref 0)], [.ref 0, .int (a), .ref 25, .int (-1)], g16_0 (pg xs) a b c d, 599951, 7298500)) rfl ?_
  refine pm_go (g := (658, [(3, .int 0), (2, .ref 25), (1, .ref 1), (0, .ref 0)], [.int 0, .ref 0, .int (a), .ref 25, .int (-1)], g16_0 (pg xs) a b c d, 599951, 7298500)) rfl ?_
  refine pm_go (g := (659, [(3, .int 0), (2, .ref 25), (1, .ref 1), (0, .ref 0)], [.int 2, .int 0, .ref 0, .int (a), .ref 25, .int (-1)], g16_0 (pg xs) a b c d, 599951, 7298500)) rfl ?_
  refine pm_go (g := (660, [(3, .int 0), (2, .ref 25), (1, .ref 1), (0, .ref 0)], [.int 2, .ref 0, .int (a), .ref 25, .int (-1)], g16_0 (pg xs) a b c d, 599951, 7298500)) rfl ?_
  refine pm_go (g := (661, [(3, .int 0), (2, .ref 25), (1, .ref 1), (0, .ref 0)], [.int (xs 2), .int (a), .ref 25, .int (-1)], g16_0 (pg xs) a b c d, 599951, 7298500)) rfl ?_
  rw [← eb]
  refine pm_callD (z := 173) (as := [.ref 25, .int (a), .int (b)]) (rest := [.int (-1)]) rfl ?_
  show pm_WP 173 (0, [(0, .ref 25), (1, .int (a)), (2, .int (b))], [], g16_0 (pg xs) a b c d, 0, 0) _
  refine pm_go (g := (1, [(0, .ref 25), (1, .int (a)), (2, .int (b))], [.ref 25], g16_0 (pg xs) a b c d, 0, 0)) rfl ?_
  refine pm_go (g := (2, [(0, .ref 25), (1, .int (a)), (2, .int (b))], [.int (a), .ref 25], g16_0 (pg xs) a b c d, 0, 0)) rfl ?_
  refine pm_callD (z := 170) (as := [.ref 25, .int (a)]) (rest := []) rfl ?_
  show pm_WP 170 (0, [(0, .ref 25), (1, .int (a))], [], g16_0 (pg xs) a b c d, 0, 0) _
  refine pm_go (g := (1, [(0, .ref 25), (1, .int (a))], [.int (a)], g16_0 (pg xs) a b c d, 0, 0)) rfl ?_
  refine pm_go (g := (2, [(0, .ref 25), (1, .int (a))], [.int 1, .int (a)], g16_0 (pg xs) a b c d, 0, 0)) rfl ?_
  refine pm_go (g := (3, [(0, .ref 25), (1, .int (a))], [.ref 25, .int 1, .int (a)], g16_0 (pg xs) a b c d, 0, 0)) rfl ?_
  refine pm_go (g := (6, [(0, .ref 25), (1, .int (a))], [.int 0, .int 1, .int (a)], g16_0 (pg xs) a b c d, 0, 0)) rfl ?_
  refine pm_callD (z := 128) (as := [.int (a), .int 1, .int 0]) (rest := []) rfl ?_
  show pm_WP 128 (0, [(0, .int (a)), (1, .int 1), (2, .int 0)], [], g16_0 (pg xs) a b c d, 0, 0) _
  refine pm_go (g := (1, [(0, .int (a)), (1, .int 1), (2, .int 0)], [.int (a)], g16_0 (pg xs) a b c d, 0, 0)) rfl ?_
  refine pm_go (g := (2, [(0, .int (a)), (1, .int 1), (2, .int 0)], [.int 1, .int (a)], g16_0 (pg xs) a b c d, 0, 0)) rfl ?_
  refine pm_ifF (h := (5, [(0, .int (a)), (1, .int 1), (2, .int 0)], [], g16_0 (pg xs) a b c d, 0, 0)) rfl (rF_lt (cx := a.toInt) (cy := 1) rfl (by decide) (by omega)) ?_
  refine pm_go (g := (6, [(0, .int (a)), (1, .int 1), (2, .int 0)], [.int (a)], g16_0 (pg xs) a b c d, 0, 0)) rfl ?_
  refine pm_go (g := (7, [(0, .int (a)), (1, .int 1), (2, .int 0)], [.int 0, .int (a)], g16_0 (pg xs) a b c d, 0, 0)) rfl ?_
  refine pm_ifT (g := (14, [(0, .int (a)), (1, .int 1), (2, .int 0)], [], g16_0 (pg xs) a b c d, 0, 0)) rfl (rT_gt (cx := a.toInt) (cy := 0) rfl (by decide) (by omega)) ?_
  refine pm_go (g := (15, [(0, .int (a)), (1, .int 1), (2, .int 0)], [.int 0], g16_0 (pg xs) a b c d, 0, 0)) rfl ?_
  refine pm_ret rfl ?_
  show pm_WP 170 (9, [(0, .ref 25), (1, .int (a))], [.int 0], g16_0 (pg xs) a b c d, 0, 0) _
  refine pm_ret rfl ?_
  show pm_WP 173 (5, [(0, .ref 25), (1, .int (a)), (2, .int (b))], [.int 0], g16_0 (pg xs) a b c d, 0, 0) _
  refine pm_brT (g := (17, [(0, .ref 25), (1, .int (a)), (2, .int (b))], [], g16_0 (pg xs) a b c d, 0, 0)) rfl ?_
  refine pm_go (g := (18, [(0, .ref 25), (1, .int (a)), (2, .int (b))], [.int (-1)], g16_0 (pg xs) a b c d, 0, 0)) rfl ?_
  refine pm_ret rfl ?_
  show pm_WP 0 (664, [(3, .int 0), (2, .ref 25), (1, .ref 1), (0, .ref 0)], [.int (-1), .int (-1)], g16_0 (pg xs) a b c d, 599951, 7298500) _
  refine pm_brT (g := (873, [(3, .int 0), (2, .ref 25), (1, .ref 1), (0, .ref 0)], [], g16_0 (pg xs) a b c d, 599951, 7298500)) rfl ?_
  refine pm_go (g := (876, [(3, .int 5), (2, .ref 25), (1, .ref 1), (0, .ref 0)], [], g16_0 (pg xs) a b c d, 599951, 7298500)) rfl ?_
  refine pm_go (g := (18, [(3, .int 5), (2, .ref 25), (1, .ref 1), (0, .ref 0)], [], g16_0 (pg xs) a b c d, 599951, 7298500)) rfl ?_
  refine pm_go (g := (19, [(3, .int 5), (2, .ref 25), (1, .ref 1), (0, .ref 0)], [.int 5], g16_0 (pg xs) a b c d, 599951, 7298500)) rfl ?_
  refine pm_go (g := (20, [(3, .int 5), (2, .ref 25), (1, .ref 1), (0, .ref 0)], [.ref 0, .int 5], g16_0 (pg xs) a b c d, 599951, 7298500)) rfl ?_
  refine pm_go (g := (21, [(3, .int 5), (2, .ref 25), (1, .ref 1), (0, .ref 0)], [.int 5, .int 5], g16_0 (pg xs) a b c d, 599951, 7298500)) rfl ?_
  refine pm_go (g := (22, [(3, .int 5), (2, .ref 25), (1, .ref 1), (0, .ref 0)], [.int 5, .int 5, .int 5], g16_0 (pg xs) a b c d, 599951, 7298500)) rfl ?_
  refine pm_go (g := (23, [(3, .int 5), (2, .ref 25), (1, .ref 1), (0, .ref 0)], [.int 0, .int 5], g16_0 (pg xs) a b c d, 599951, 7298500)) rfl ?_
  refine pm_brT (g := (879, [(3, .int 5), (2, .ref 25), (1, .ref 1), (0, .ref 0)], [], g16_0 (pg xs) a b c d, 599951, 7298500)) rfl ?_
  refine pm_go (g := (880, [(3, .int 5), (2, .ref 25), (1, .ref 1), (0, .ref 0)], [.int 1], g16_0 (pg xs) a b c d, 599951, 7298500)) rfl ?_
  exact pm_ret rfl rfl
