def g0_0 (g : pm_C) (a : Int32) (b : Int32) (c : Int32) (d : Int32) : pm_H := [g, .inr (11, [.ref 2, .ref 5, .ref 9, .ref 12, .ref 16, .ref 18, .ref 20, .int 0, .ref 21, .int 0, .ref 22, .int 0, .ref 23, .int 0, .ref 24, .int 0, .int 0]), .inr (9, [.ref 3, .ref 4, .int 2]), .inl (0, 10, .inl (upd (upd (fun _ => 0) (0) (-1)) (1) 0)), .inl (0, 31, .inl (upd (upd (upd (upd (upd (upd (upd (fun _ => 0) (0) 1) (1) 3) (10) 1024) (11) 2048) (20) 1048577) (21) 3145729) (30) 1073741825)), .inr (4, [.ref 2, .ref 6, .int 0, .ref 7, .ref 8, .long 0, .long 0, .long 0]), .inl (6, 40, .inr (.inr (.inr (.inr (fun _ => none))))), .inl (1, 10, .inr (.inl (fun _ => 0))), .inl (1, 7, .inr (.inl (fun _ => 0))), .inr (2, [.ref 2, .ref 5, .ref 10, .ref 11, .null, .int 0]), .inr (6, [.ref 2, .ref 5, .null, .int 0, .long 0, .int 0, .null]), .inr (6, [.ref 2, .ref 5, .null, .int 0, .long 0, .int 0, .null]), .inr (7, [.ref 13, .ref 14, .ref 15, .int 0]), .inl (0, 61, .inl (fun _ => 0)), .inl (0, 61, .inl (fun _ => 0)), .inl (0, 1220, .inl (fun _ => 0)), .inr (0, [.ref 5, .ref 12, .ref 17, .int 0, .int 0, .null]), .inl (0, 3, .inl (fun _ => 0)), .inr (8, [.ref 19, .int 0, .int 0]), .inl (0, 50, .inl (fun _ => 0)), .inl (0, 3, .inl (fun _ => 0)), .inl (4, 10, .inr (.inr (.inr (.inr (fun _ => none))))), .inl (8, 30, .inr (.inr (.inr (.inr (fun _ => none))))), .inl (13, 30, .inr (.inr (.inr (.inr (fun _ => none))))), .inl (0, 3, .inl (fun _ => 0)), .inr (12, [.int 2, .ref 26, .ref 27, .int 0, .int 0, .ref 28, .ref 29, .ref 30, .ref 31, .ref 32, .ref 33, .int 0, .ref 34, .ref 35, .ref 36, .int 0, .ref 37, .ref 38, .ref 39, .int 0, .ref 40, .ref 41, .ref 42, .int 0, .ref 43, .ref 44, .ref 45, .ref 46, .int 0, .ref 47, .int 0, .int 0, .ref 48, .int 0, .int 0, .int 0, .int 0, .int 0, .ref 49]), .inl (0, 10, .inl (upd (upd (fun _ => 0) (0) (-4)) (1) 0)), .inl (0, 3, .inl (fun _ => 0)), .inl (0, 40, .inl (fun _ => 0)), .inl (0, 40, .inl (fun _ => 0)), .inl (0, 40, .inl (fun _ => 0)), .inl (0, 40, .inl (fun _ => 0)), .inl (0, 40, .inl (fun _ => 0)), .inl (0, 120, .inl (fun _ => 0)), .inl (0, 10, .inl (fun _ => 0)), .inl (0, 30, .inl (fun _ => 0)), .inl (0, 10, .inl (fun _ => 0)), .inl (0, 30, .inl (fun _ => 0)), .inl (0, 30, .inl (fun _ => 0)), .inl (0, 30, .inl (fun _ => 0)), .inl (0, 61, .inl (fun _ => 0)), .inl (0, 61, .inl (fun _ => 0)), .inl (0, 1300, .inl (fun _ => 0)), .inl (0, 30, .inl (fun _ => 0)), .inl (0, 30, .inl (fun _ => 0)), .inl (0, 30, .inl (fun _ => 0)), .inl (0, 3, .inl (fun _ => 0)), .inl (0, 50, .inl (fun _ => 0)), .inl (2, 40, .inl (fun _ => 0)), .inl (0, 3, .inl (fun _ => 0))]
def g0_1 (g : pm_C) (a : Int32) (b : Int32) (c : Int32) (d : Int32) : pm_H := [g, .inr (11, [.ref 2, .ref 5, .ref 9, .ref 12, .ref 16, .ref 18, .ref 20, .int 0, .ref 21, .int 0, .ref 22, .int 0, .ref 23, .int 0, .ref 24, .int 0, .int 0]), .inr (9, [.ref 3, .ref 4, .int 2]), .inl (0, 10, .inl (upd (upd (upd (fun _ => 0) (0) (-1)) (1) 0) (2) 0)), .inl (0, 31, .inl (upd (upd (upd (upd (upd (upd (upd (fun _ => 0) (0) 1) (1) 3) (10) 1024) (11) 2048) (20) 1048577) (21) 3145729) (30) 1073741825)), .inr (4, [.ref 2, .ref 6, .int 0, .ref 7, .ref 8, .long 0, .long 0, .long 0]), .inl (6, 40, .inr (.inr (.inr (.inr (fun _ => none))))), .inl (1, 10, .inr (.inl (fun _ => 0))), .inl (1, 7, .inr (.inl (fun _ => 0))), .inr (2, [.ref 2, .ref 5, .ref 10, .ref 11, .null, .int 0]), .inr (6, [.ref 2, .ref 5, .null, .int 0, .long 0, .int 0, .null]), .inr (6, [.ref 2, .ref 5, .null, .int 0, .long 0, .int 0, .null]), .inr (7, [.ref 13, .ref 14, .ref 15, .int 0]), .inl (0, 61, .inl (fun _ => 0)), .inl (0, 61, .inl (fun _ => 0)), .inl (0, 1220, .inl (fun _ => 0)), .inr (0, [.ref 5, .ref 12, .ref 17, .int 0, .int 0, .null]), .inl (0, 3, .inl (fun _ => 0)), .inr (8, [.ref 19, .int 0, .int 0]), .inl (0, 50, .inl (fun _ => 0)), .inl (0, 3, .inl (fun _ => 0)), .inl (4, 10, .inr (.inr (.inr (.inr (fun _ => none))))), .inl (8, 30, .inr (.inr (.inr (.inr (fun _ => none))))), .inl (13, 30, .inr (.inr (.inr (.inr (fun _ => none))))), .inl (0, 3, .inl (fun _ => 0)), .inr (12, [.int 2, .ref 26, .ref 27, .int 0, .int 0, .ref 28, .ref 29, .ref 30, .ref 31, .ref 32, .ref 33, .int 0, .ref 34, .ref 35, .ref 36, .int 0, .ref 37, .ref 38, .ref 39, .int 0, .ref 40, .ref 41, .ref 42, .int 0, .ref 43, .ref 44, .ref 45, .ref 46, .int 0, .ref 47, .int 0, .int 0, .ref 48, .int 0, .int 0, .int 0, .int 0, .int 0, .ref 49]), .inl (0, 10, .inl (upd (upd (fun _ => 0) (0) (-4)) (1) 0)), .inl (0, 3, .inl (fun _ => 0)), .inl (0, 40, .inl (fun _ => 0)), .inl (0, 40, .inl (fun _ => 0)), .inl (0, 40, .inl (fun _ => 0)), .inl (0, 40, .inl (fun _ => 0)), .inl (0, 40, .inl (fun _ => 0)), .inl (0, 120, .inl (fun _ => 0)), .inl (0, 10, .inl (fun _ => 0)), .inl (0, 30, .inl (fun _ => 0)), .inl (0, 10, .inl (fun _ => 0)), .inl (0, 30, .inl (fun _ => 0)), .inl (0, 30, .inl (fun _ => 0)), .inl (0, 30, .inl (fun _ => 0)), .inl (0, 61, .inl (fun _ => 0)), .inl (0, 61, .inl (fun _ => 0)), .inl (0, 1300, .inl (fun _ => 0)), .inl (0, 30, .inl (fun _ => 0)), .inl (0, 30, .inl (fun _ => 0)), .inl (0, 30, .inl (fun _ => 0)), .inl (0, 3, .inl (fun _ => 0)), .inl (0, 50, .inl (fun _ => 0)), .inl (2, 40, .inl (fun _ => 0)), .inl (0, 3, .inl (fun _ => 0))]
def g0_2 (g : pm_C) (a : Int32) (b : Int32) (c : Int32) (d : Int32) : pm_H := [g, .inr (11, [.ref 2, .ref 5, .ref 9, .ref 12, .ref 16, .ref 18, .ref 20, .int 0, .ref 21, .int 0, .ref 22, .int 0, .ref 23, .int 0, .ref 24, .int 0, .int 0]), .inr (9, [.ref 3, .ref 4, .int 2]), .inl (0, 10, .inl (upd (upd (upd (fun _ => 0) (0) (-1)) (1) 0) (2) 0)), .inl (0, 31, .inl (upd (upd (upd (upd (upd (upd (upd (upd (fun _ => 0) (0) 1) (1) 3) (10) 1024) (11) 2048) (20) 1048577) (21) 3145729) (30) 1073741825) (2) 5)), .inr (4, [.ref 2, .ref 6, .int 0, .ref 7, .ref 8, .long 0, .long 0, .long 0]), .inl (6, 40, .inr (.inr (.inr (.inr (fun _ => none))))), .inl (1, 10, .inr (.inl (fun _ => 0))), .inl (1, 7, .inr (.inl (fun _ => 0))), .inr (2, [.ref 2, .ref 5, .ref 10, .ref 11, .null, .int 0]), .inr (6, [.ref 2, .ref 5, .null, .int 0, .long 0, .int 0, .null]), .inr (6, [.ref 2, .ref 5, .null, .int 0, .long 0, .int 0, .null]), .inr (7, [.ref 13, .ref 14, .ref 15, .int 0]), .inl (0, 61, .inl (fun _ => 0)), .inl (0, 61, .inl (fun _ => 0)), .inl (0, 1220, .inl (fun _ => 0)), .inr (0, [.ref 5, .ref 12, .ref 17, .int 0, .int 0, .null]), .inl (0, 3, .inl (fun _ => 0)), .inr (8, [.ref 19, .int 0, .int 0]), .inl (0, 50, .inl (fun _ => 0)), .inl (0, 3, .inl (fun _ => 0)), .inl (4, 10, .inr (.inr (.inr (.inr (fun _ => none))))), .inl (8, 30, .inr (.inr (.inr (.inr (fun _ => none))))), .inl (13, 30, .inr (.inr (.inr (.inr (fun _ => none))))), .inl (0, 3, .inl (fun _ => 0)), .inr (12, [.int 2, .ref 26, .ref 27, .int 0, .int 0, .ref 28, .ref 29, .ref 30, .ref 31, .ref 32, .ref 33, .int 0, .ref 34, .ref 35, .ref 36, .int 0, .ref 37, .ref 38, .ref 39, .int 0, .ref 40, .ref 41, .ref 42, .int 0, .ref 43, .ref 44, .ref 45, .ref 46, .int 0, .ref 47, .int 0, .int 0, .ref 48, .int 0, .int 0, .int 0, .int 0, .int 0, .ref 49]), .inl (0, 10, .inl (upd (upd (fun _ => 0) (0) (-4)) (1) 0)), .inl (0, 3, .inl (fun _ => 0)), .inl (0, 40, .inl (fun _ => 0)), .inl (0, 40, .inl (fun _ => 0)), .inl (0, 40, .inl (fun _ => 0)), .inl (0, 40, .inl (fun _ => 0)), .inl (0, 40, .inl (fun _ => 0)), .inl (0, 120, .inl (fun _ => 0)), .inl (0, 10, .inl (fun _ => 0)), .inl (0, 30, .inl (fun _ => 0)), .inl (0, 10, .inl (fun _ => 0)), .inl (0, 30, .inl (fun _ => 0)), .inl (0, 30, .inl (fun _ => 0)), .inl (0, 30, .inl (fun _ => 0)), .inl (0, 61, .inl (fun _ => 0)), .inl (0, 61, .inl (fun _ => 0)), .inl (0, 1300, .inl (fun _ => 0)), .inl (0, 30, .inl (fun _ => 0)), .inl (0, 30, .inl (fun _ => 0)), .inl (0, 30, .inl (fun _ => 0)), .inl (0, 3, .inl (fun _ => 0)), .inl (0, 50, .inl (fun _ => 0)), .inl (2, 40, .inl (fun _ => 0)), .inl (0, 3, .inl (fun _ => 0))]
def g0_3 (g : pm_C) (a : Int32) (b : Int32) (c : Int32) (d : Int32) : pm_H := [g, .inr (11, [.ref 2, .ref 5, .ref 9, .ref 12, .ref 16, .ref 18, .ref 20, .int 0, .ref 21, .int 0, .ref 22, .int 0, .ref 23, .int 0, .ref 24, .int 0, .int 0]), .inr (9, [.ref 3, .ref 4, .int 2]), .inl (0, 10, .inl (upd (upd (upd (fun _ => 0) (0) (-1)) (1) 0) (2) 0)), .inl (0, 31, .inl (upd (upd (upd (upd (upd (upd (upd (upd (upd (fun _ => 0) (0) 1) (1) 3) (10) 1024) (11) 2048) (20) 1048577) (21) 3145729) (30) 1073741825) (2) 5) (22) 5242881)), .inr (4, [.ref 2, .ref 6, .int 0, .ref 7, .ref 8, .long 0, .long 0, .long 0]), .inl (6, 40, .inr (.inr (.inr (.inr (fun _ => none))))), .inl (1, 10, .inr (.inl (fun _ => 0))), .inl (1, 7, .inr (.inl (fun _ => 0))), .inr (2, [.ref 2, .ref 5, .ref 10, .ref 11, .null, .int 0]), .inr (6, [.ref 2, .ref 5, .null, .int 0, .long 0, .int 0, .null]), .inr (6, [.ref 2, .ref 5, .null, .int 0, .long 0, .int 0, .null]), .inr (7, [.ref 13, .ref 14, .ref 15, .int 0]), .inl (0, 61, .inl (fun _ => 0)), .inl (0, 61, .inl (fun _ => 0)), .inl (0, 1220, .inl (fun _ => 0)), .inr (0, [.ref 5, .ref 12, .ref 17, .int 0, .int 0, .null]), .inl (0, 3, .inl (fun _ => 0)), .inr (8, [.ref 19, .int 0, .int 0]), .inl (0, 50, .inl (fun _ => 0)), .inl (0, 3, .inl (fun _ => 0)), .inl (4, 10, .inr (.inr (.inr (.inr (fun _ => none))))), .inl (8, 30, .inr (.inr (.inr (.inr (fun _ => none))))), .inl (13, 30, .inr (.inr (.inr (.inr (fun _ => none))))), .inl (0, 3, .inl (fun _ => 0)), .inr (12, [.int 2, .ref 26, .ref 27, .int 0, .int 0, .ref 28, .ref 29, .ref 30, .ref 31, .ref 32, .ref 33, .int 0, .ref 34, .ref 35, .ref 36, .int 0, .ref 37, .ref 38, .ref 39, .int 0, .ref 40, .ref 41, .ref 42, .int 0, .ref 43, .ref 44, .ref 45, .ref 46, .int 0, .ref 47, .int 0, .int 0, .ref 48, .int 0, .int 0, .int 0, .int 0, .int 0, .ref 49]), .inl (0, 10, .inl (upd (upd (fun _ => 0) (0) (-4)) (1) 0)), .inl (0, 3, .inl (fun _ => 0)), .inl (0, 40, .inl (fun _ => 0)), .inl (0, 40, .inl (fun _ => 0)), .inl (0, 40, .inl (fun _ => 0)), .inl (0, 40, .inl (fun _ => 0)), .inl (0, 40, .inl (fun _ => 0)), .inl (0, 120, .inl (fun _ => 0)), .inl (0, 10, .inl (fun _ => 0)), .inl (0, 30, .inl (fun _ => 0)), .inl (0, 10, .inl (fun _ => 0)), .inl (0, 30, .inl (fun _ => 0)), .inl (0, 30, .inl (fun _ => 0)), .inl (0, 30, .inl (fun _ => 0)), .inl (0, 61, .inl (fun _ => 0)), .inl (0, 61, .inl (fun _ => 0)), .inl (0, 1300, .inl (fun _ => 0)), .inl (0, 30, .inl (fun _ => 0)), .inl (0, 30, .inl (fun _ => 0)), .inl (0, 30, .inl (fun _ => 0)), .inl (0, 3, .inl (fun _ => 0)), .inl (0, 50, .inl (fun _ => 0)), .inl (2, 40, .inl (fun _ => 0)), .inl (0, 3, .inl (fun _ => 0))]
def g0_4 (g : pm_C) (a : Int32) (b : Int32) (c : Int32) (d : Int32) : pm_H := [g, .inr (11, [.ref 2, .ref 5, .ref 9, .ref 12, .ref 16, .ref 18, .ref 20, .int 0, .ref 21, .int 0, .ref 22, .int 0, .ref 23, .int 0, .ref 24, .int 0, .int 0]), .inr (9, [.ref 3, .ref 4, .int 3]), .inl (0, 10, .inl (upd (upd (upd (fun _ => 0) (0) (-1)) (1) 0) (2) 0)), .inl (0, 31, .inl (upd (upd (upd (upd (upd (upd (upd (upd (upd (fun _ => 0) (0) 1) (1) 3) (10) 1024) (11) 2048) (20) 1048577) (21) 3145729) (30) 1073741825) (2) 5) (22) 5242881)), .inr (4, [.ref 2, .ref 6, .int 0, .ref 7, .ref 8, .long 0, .long 0, .long 0]), .inl (6, 40, .inr (.inr (.inr (.inr (fun _ => none))))), .inl (1, 10, .inr (.inl (fun _ => 0))), .inl (1, 7, .inr (.inl (fun _ => 0))), .inr (2, [.ref 2, .ref 5, .ref 10, .ref 11, .null, .int 0]), .inr (6, [.ref 2, .ref 5, .null, .int 0, .long 0, .int 0, .null]), .inr (6, [.ref 2, .ref 5, .null, .int 0, .long 0, .int 0, .null]), .inr (7, [.ref 13, .ref 14, .ref 15, .int 0]), .inl (0, 61, .inl (fun _ => 0)), .inl (0, 61, .inl (fun _ => 0)), .inl (0, 1220, .inl (fun _ => 0)), .inr (0, [.ref 5, .ref 12, .ref 17, .int 0, .int 0, .null]), .inl (0, 3, .inl (fun _ => 0)), .inr (8, [.ref 19, .int 0, .int 0]), .inl (0, 50, .inl (fun _ => 0)), .inl (0, 3, .inl (fun _ => 0)), .inl (4, 10, .inr (.inr (.inr (.inr (fun _ => none))))), .inl (8, 30, .inr (.inr (.inr (.inr (fun _ => none))))), .inl (13, 30, .inr (.inr (.inr (.inr (fun _ => none))))), .inl (0, 3, .inl (fun _ => 0)), .inr (12, [.int 2, .ref 26, .ref 27, .int 0, .int 0, .ref 28, .ref 29, .ref 30, .ref 31, .ref 32, .ref 33, .int 0, .ref 34, .ref 35, .ref 36, .int 0, .ref 37, .ref 38, .ref 39, .int 0, .ref 40, .ref 41, .ref 42, .int 0, .ref 43, .ref 44, .ref 45, .ref 46, .int 0, .ref 47, .int 0, .int 0, .ref 48, .int 0, .int 0, .int 0, .int 0, .int 0, .ref 49]), .inl (0, 10, .inl (upd (upd (fun _ => 0) (0) (-4)) (1) 0)), .inl (0, 3, .inl (fun _ => 0)), .inl (0, 40, .inl (fun _ => 0)), .inl (0, 40, .inl (fun _ => 0)), .inl (0, 40, .inl (fun _ => 0)), .inl (0, 40, .inl (fun _ => 0)), .inl (0, 40, .inl (fun _ => 0)), .inl (0, 120, .inl (fun _ => 0)), .inl (0, 10, .inl (fun _ => 0)), .inl (0, 30, .inl (fun _ => 0)), .inl (0, 10, .inl (fun _ => 0)), .inl (0, 30, .inl (fun _ => 0)), .inl (0, 30, .inl (fun _ => 0)), .inl (0, 30, .inl (fun _ => 0)), .inl (0, 61, .inl (fun _ => 0)), .inl (0, 61, .inl (fun _ => 0)), .inl (0, 1300, .inl (fun _ => 0)), .inl (0, 30, .inl (fun _ => 0)), .inl (0, 30, .inl (fun _ => 0)), .inl (0, 30, .inl (fun _ => 0)), .inl (0, 3, .inl (fun _ => 0)), .inl (0, 50, .inl (fun _ => 0)), .inl (2, 40, .inl (fun _ => 0)), .inl (0, 3, .inl (fun _ => 0))]
def g0_5 (g : pm_C) (a : Int32) (b : Int32) (c : Int32) (d : Int32) : pm_H := [g, .inr (11, [.ref 2, .ref 5, .ref 9, .ref 12, .ref 16, .ref 18, .ref 20, .int 0, .ref 21, .int 0, .ref 22, .int 0, .ref 23, .int 0, .ref 24, .int 0, .int 0]), .inr (9, [.ref 3, .ref 4, .int 3]), .inl (0, 10, .inl (upd (upd (upd (fun _ => 0) (0) (-1)) (1) 0) (2) 0)), .inl (0, 31, .inl (upd (upd (upd (upd (upd (upd (upd (upd (upd (fun _ => 0) (0) 1) (1) 3) (10) 1024) (11) 2048) (20) 1048577) (21) 3145729) (30) 1073741825) (2) 5) (22) 5242881)), .inr (4, [.ref 2, .ref 6, .int 0, .ref 7, .ref 8, .long 0, .long 0, .long 0]), .inl (6, 40, .inr (.inr (.inr (.inr (fun _ => none))))), .inl (1, 10, .inr (.inl (vp_updL (fun _ => 0) (2) 0))), .inl (1, 7, .inr (.inl (fun _ => 0))), .inr (2, [.ref 2, .ref 5, .ref 10, .ref 11, .null, .int 0]), .inr (6, [.ref 2, .ref 5, .null, .int 0, .long 0, .int 0, .null]), .inr (6, [.ref 2, .ref 5, .null, .int 0, .long 0, .int 0, .null]), .inr (7, [.ref 13, .ref 14, .ref 15, .int 0]), .inl (0, 61, .inl (fun _ => 0)), .inl (0, 61, .inl (fun _ => 0)), .inl (0, 1220, .inl (fun _ => 0)), .inr (0, [.ref 5, .ref 12, .ref 17, .int 0, .int 0, .null]), .inl (0, 3, .inl (fun _ => 0)), .inr (8, [.ref 19, .int 0, .int 0]), .inl (0, 50, .inl (fun _ => 0)), .inl (0, 3, .inl (fun _ => 0)), .inl (4, 10, .inr (.inr (.inr (.inr (fun _ => none))))), .inl (8, 30, .inr (.inr (.inr (.inr (fun _ => none))))), .inl (13, 30, .inr (.inr (.inr (.inr (fun _ => none))))), .inl (0, 3, .inl (fun _ => 0)), .inr (12, [.int 2, .ref 26, .ref 27, .int 0, .int 0, .ref 28, .ref 29, .ref 30, .ref 31, .ref 32, .ref 33, .int 0, .ref 34, .ref 35, .ref 36, .int 0, .ref 37, .ref 38, .ref 39, .int 0, .ref 40, .ref 41, .ref 42, .int 0, .ref 43, .ref 44, .ref 45, .ref 46, .int 0, .ref 47, .int 0, .int 0, .ref 48, .int 0, .int 0, .int 0, .int 0, .int 0, .ref 49]), .inl (0, 10, .inl (upd (upd (fun _ => 0) (0) (-4)) (1) 0)), .inl (0, 3, .inl (fun _ => 0)), .inl (0, 40, .inl (fun _ => 0)), .inl (0, 40, .inl (fun _ => 0)), .inl (0, 40, .inl (fun _ => 0)), .inl (0, 40, .inl (fun _ => 0)), .inl (0, 40, .inl (fun _ => 0)), .inl (0, 120, .inl (fun _ => 0)), .inl (0, 10, .inl (fun _ => 0)), .inl (0, 30, .inl (fun _ => 0)), .inl (0, 10, .inl (fun _ => 0)), .inl (0, 30, .inl (fun _ => 0)), .inl (0, 30, .inl (fun _ => 0)), .inl (0, 30, .inl (fun _ => 0)), .inl (0, 61, .inl (fun _ => 0)), .inl (0, 61, .inl (fun _ => 0)), .inl (0, 1300, .inl (fun _ => 0)), .inl (0, 30, .inl (fun _ => 0)), .inl (0, 30, .inl (fun _ => 0)), .inl (0, 30, .inl (fun _ => 0)), .inl (0, 3, .inl (fun _ => 0)), .inl (0, 50, .inl (fun _ => 0)), .inl (2, 40, .inl (fun _ => 0)), .inl (0, 3, .inl (fun _ => 0))]
def g0_6 (g : pm_C) (a : Int32) (b : Int32) (c : Int32) (d : Int32) : pm_H := [g, .inr (11, [.ref 2, .ref 5, .ref 9, .ref 12, .ref 16, .ref 18, .ref 20, .int 0, .ref 21, .int 0, .ref 22, .int 0, .ref 23, .int 0, .ref 24, .int 0, .int 0]), .inr (9, [.ref 3, .ref 4, .int 3]), .inl (0, 10, .inl (upd (upd (upd (fun _ => 0) (0) (-1)) (1) 0) (2) 0)), .inl (0, 31, .inl (upd (upd (upd (upd (upd (upd (upd (upd (upd (fun _ => 0) (0) 1) (1) 3) (10) 1024) (11) 2048) (20) 1048577) (21) 3145729) (30) 1073741825) (2) 5) (22) 5242881)), .inr (4, [.ref 2, .ref 6, .int 0, .ref 7, .ref 8, .long 0, .long 0, .long 0]), .inl (6, 40, .inr (.inr (.inr (.inr (fun _ => none))))), .inl (1, 10, .inr (.inl (vp_updL (fun _ => 0) (2) 0))), .inl (1, 7, .inr (.inl (fun _ => 0))), .inr (2, [.ref 2, .ref 5, .ref 10, .ref 11, .null, .int 0]), .inr (6, [.ref 2, .ref 5, .null, .int 0, .long 0, .int 0, .null]), .inr (6, [.ref 2, .ref 5, .null, .int 0, .long 0, .int 0, .null]), .inr (7, [.ref 13, .ref 14, .ref 15, .int 0]), .inl (0, 61, .inl (fun _ => 0)), .inl (0, 61, .inl (fun _ => 0)), .inl (0, 1220, .inl (fun _ => 0)), .inr (0, [.ref 5, .ref 12, .ref 17, .int 0, .int 0, .null]), .inl (0, 3, .inl (fun _ => 0)), .inr (8, [.ref 19, .int 0, .int 0]), .inl (0, 50, .inl (fun _ => 0)), .inl (0, 3, .inl (fun _ => 0)), .inl (4, 10, .inr (.inr (.inr (.inr (fun _ => none))))), .inl (8, 30, .inr (.inr (.inr (.inr (fun _ => none))))), .inl (13, 30, .inr (.inr (.inr (.inr (fun _ => none))))), .inl (0, 3, .inl (fun _ => 0)), .inr (12, [.int 2, .ref 26, .ref 27, .int 0, .int 0, .ref 28, .ref 29, .ref 30, .ref 31, .ref 32, .ref 33, .int 0, .ref 34, .ref 35, .ref 36, .int 0, .ref 37, .ref 38, .ref 39, .int 0, .ref 40, .ref 41, .ref 42, .int 0, .ref 43, .ref 44, .ref 45, .ref 46, .int 0, .ref 47, .int 0, .int 0, .ref 48, .int 0, .int 0, .int 0, .int 0, .int 0, .ref 49]), .inl (0, 10, .inl (upd (upd (upd (fun _ => 0) (0) (-4)) (1) 0) (2) 0)), .inl (0, 3, .inl (fun _ => 0)), .inl (0, 40, .inl (fun _ => 0)), .inl (0, 40, .inl (fun _ => 0)), .inl (0, 40, .inl (fun _ => 0)), .inl (0, 40, .inl (fun _ => 0)), .inl (0, 40, .inl (fun _ => 0)), .inl (0, 120, .inl (fun _ => 0)), .inl (0, 10, .inl (fun _ => 0)), .inl (0, 30, .inl (fun _ => 0)), .inl (0, 10, .inl (fun _ => 0)), .inl (0, 30, .inl (fun _ => 0)), .inl (0, 30, .inl (fun _ => 0)), .inl (0, 30, .inl (fun _ => 0)), .inl (0, 61, .inl (fun _ => 0)), .inl (0, 61, .inl (fun _ => 0)), .inl (0, 1300, .inl (fun _ => 0)), .inl (0, 30, .inl (fun _ => 0)), .inl (0, 30, .inl (fun _ => 0)), .inl (0, 30, .inl (fun _ => 0)), .inl (0, 3, .inl (fun _ => 0)), .inl (0, 50, .inl (fun _ => 0)), .inl (2, 40, .inl (fun _ => 0)), .inl (0, 3, .inl (fun _ => 0))]
def g0_7 (g : pm_C) (a : Int32) (b : Int32) (c : Int32) (d : Int32) : pm_H := [g, .inr (11, [.ref 2, .ref 5, .ref 9, .ref 12, .ref 16, .ref 18, .ref 20, .int 0, .ref 21, .int 0, .ref 22, .int 0, .ref 23, .int 0, .ref 24, .int 0, .int 0]), .inr (9, [.ref 3, .ref 4, .int 3]), .inl (0, 10, .inl (upd (upd (upd (fun _ => 0) (0) (-1)) (1) 0) (2) 0)), .inl (0, 31, .inl (upd (upd (upd (upd (upd (upd (upd (upd (upd (fun _ => 0) (0) 1) (1) 3) (10) 1024) (11) 2048) (20) 1048577) (21) 3145729) (30) 1073741825) (2) 5) (22) 5242881)), .inr (4, [.ref 2, .ref 6, .int 0, .ref 7, .ref 8, .long 0, .long 0, .long 0]), .inl (6, 40, .inr (.inr (.inr (.inr (fun _ => none))))), .inl (1, 10, .inr (.inl (vp_updL (fun _ => 0) (2) 0))), .inl (1, 7, .inr (.inl (fun _ => 0))), .inr (2, [.ref 2, .ref 5, .ref 10, .ref 11, .null, .int 0]), .inr (6, [.ref 2, .ref 5, .null, .int 0, .long 0, .int 0, .null]), .inr (6, [.ref 2, .ref 5, .null, .int 0, .long 0, .int 0, .null]), .inr (7, [.ref 13, .ref 14, .ref 15, .int 0]), .inl (0, 61, .inl (fun _ => 0)), .inl (0, 61, .inl (fun _ => 0)), .inl (0, 1220, .inl (fun _ => 0)), .inr (0, [.ref 5, .ref 12, .ref 17, .int 0, .int 0, .null]), .inl (0, 3, .inl (fun _ => 0)), .inr (8, [.ref 19, .int 0, .int 0]), .inl (0, 50, .inl (fun _ => 0)), .inl (0, 3, .inl (fun _ => 0)), .inl (4, 10, .inr (.inr (.inr (.inr (fun _ => none))))), .inl (8, 30, .inr (.inr (.inr (.inr (fun _ => none))))), .inl (13, 30, .inr (.inr (.inr (.inr (fun _ => none))))), .inl (0, 3, .inl (fun _ => 0)), .inr (12, [.int 3, .ref 26, .ref 27, .int 0, .int 0, .ref 28, .ref 29, .ref 30, .ref 31, .ref 32, .ref 33, .int 0, .ref 34, .ref 35, .ref 36, .int 0, .ref 37, .ref 38, .ref 39, .int 0, .ref 40, .ref 41, .ref 42, .int 0, .ref 43, .ref 44, .ref 45, .ref 46, .int 0, .ref 47, .int 0, .int 0, .ref 48, .int 0, .int 0, .int 0, .int 0, .int 0, .ref 49]), .inl (0, 10, .inl (upd (upd (upd (fun _ => 0) (0) (-4)) (1) 0) (2) 0)), .inl (0, 3, .inl (fun _ => 0)), .inl (0, 40, .inl (fun _ => 0)), .inl (0, 40, .inl (fun _ => 0)), .inl (0, 40, .inl (fun _ => 0)), .inl (0, 40, .inl (fun _ => 0)), .inl (0, 40, .inl (fun _ => 0)), .inl (0, 120, .inl (fun _ => 0)), .inl (0, 10, .inl (fun _ => 0)), .inl (0, 30, .inl (fun _ => 0)), .inl (0, 10, .inl (fun _ => 0)), .inl (0, 30, .inl (fun _ => 0)), .inl (0, 30, .inl (fun _ => 0)), .inl (0, 30, .inl (fun _ => 0)), .inl (0, 61, .inl (fun _ => 0)), .inl (0, 61, .inl (fun _ => 0)), .inl (0, 1300, .inl (fun _ => 0)), .inl (0, 30, .inl (fun _ => 0)), .inl (0, 30, .inl (fun _ => 0)), .inl (0, 30, .inl (fun _ => 0)), .inl (0, 3, .inl (fun _ => 0)), .inl (0, 50, .inl (fun _ => 0)), .inl (2, 40, .inl (fun _ => 0)), .inl (0, 3, .inl (fun _ => 0))]

set_option maxRecDepth 100000 in
set_option maxHeartbeats 8000000 in
theorem p1_op0 (xs : Nat → Int32) (a b c d : Int32) (ea : a = xs 1) (eb : b = xs 2) (ec : c = xs 3) (ed : d = xs 4) : pm_WP 0 (32, [(3, .int 0), (2, .ref 25), (1, .ref 1), (0, .ref 0)], [.int 0], g0_0 (pg xs) a b c d, 599951, 7298500) (fun r _ => r = some (.int 1)) := by
  refine pm_go (g := (148, [(3, .int 0), (2, .ref 25), (1, .ref 1), (0, .ref 0)], [], g0_0 (pg xs) a b c d, 599951, 7298500)) rfl ?_
  refine pm_go (g := (149, [(3, .int 0), (2, .ref 25), (1, .ref 1), (0, .ref 0)], [.ref 1], g0_0 (pg xs) a b c d, 599951, 7298500)) rfl ?_
  refine pm_go (g := (150, [(3, .int 0), (2, .ref 25), (1, .ref 1), (0, .ref 0)], [.ref 0, .ref 1], g0_0 (pg xs) a b c d, 599951, 7298500)) rfl ?_
  refine pm_go (g := (151, [(3, .int 0), (2, .ref 25), (1, .ref 1), (0, .ref 0)], [.int 0, .ref 0, .ref 1], g0_0 (pg xs) a b c d, 599951, 7298500)) rfl ?_
  refine pm_go (g := (152, [(3, .int 0), (2, .ref 25), (1, .ref 1), (0, .ref 0)], [.int 1, .int 0, .ref 0, .ref 1], g0_0 (pg xs) a b c d, 599951, 7298500)) rfl ?_
  refine pm_go (g := (153, [(3, .int 0), (2, .ref 25), (1, .ref 1), (0, .ref 0)], [.int 1, .ref 0, .ref 1], g0_0 (pg xs) a b c d, 599951, 7298500)) rfl ?_
  refine pm_go (g := (154, [(3, .int 0), (2, .ref 25), (1, .ref 1), (0, .ref 0)], [.int (xs 1), .ref 1], g0_0 (pg xs) a b c d, 599951, 7298500)) rfl ?_
  rw [← ea]
  refine pm_callD (z := 91) (as := [.ref 1, .int (a)]) (rest := []) rfl ?_
  show pm_WP 91 (0, [(0, .ref 1), (1, .int (a))], [], g0_0 (pg xs) a b c d, 0, 0) _
  refine pm_go (g := (1, [(0, .ref 1), (1, .int (a))], [.ref 1], g0_0 (pg xs) a b c d, 0, 0)) rfl ?_
  refine pm_go (g := (4, [(0, .ref 1), (1, .int (a))], [.ref 2], g0_0 (pg xs) a b c d, 0, 0)) rfl ?_
  refine pm_go (g := (5, [(0, .ref 1), (1, .int (a))], [.int (a), .ref 2], g0_0 (pg xs) a b c d, 0, 0)) rfl ?_
  refine pm_callD (z := 82) (as := [.ref 2, .int (a)]) (rest := []) rfl ?_
  show pm_WP 82 (0, [(0, .ref 2), (1, .int (a))], [], g0_0 (pg xs) a b c d, 0, 0) _
  refine pm_go (g := (1, [(0, .ref 2), (1, .int (a))], [.ref 2], g0_0 (pg xs) a b c d, 0, 0)) rfl ?_
  refine pm_go (g := (2, [(0, .ref 2), (1, .int (a))], [.int (a), .ref 2], g0_0 (pg xs) a b c d, 0, 0)) rfl ?_
  refine pm_callD (z := 81) (as := [.ref 2, .int (a)]) (rest := []) rfl ?_
  show pm_WP 81 (0, [(0, .ref 2), (1, .int (a))], [], g0_0 (pg xs) a b c d, 0, 0) _
  refine pm_go (g := (1, [(0, .ref 2), (1, .int (a))], [.int (a)], g0_0 (pg xs) a b c d, 0, 0)) rfl ?_
  refine pm_if2 (g := (16, [(0, .ref 2), (1, .int (a))], [], g0_0 (pg xs) a b c d, 0, 0)) (h := (4, [(0, .ref 2), (1, .int (a))], [], g0_0 (pg xs) a b c d, 0, 0)) rfl (fun q1 => ?_) (fun q1 => ?_)
  ·
    have q1 := qT_lt (cx := a.toInt) (cy := 0) rfl (by decide) q1
    refine pm_go (g := (17, [(0, .ref 2), (1, .int (a))], [.int 0], g0_0 (pg xs) a b c d, 0, 0)) rfl ?_
    refine pm_ret rfl ?_
    show pm_WP 82 (5, [(0, .ref 2), (1, .int (a))], [.int 0], g0_0 (pg xs) a b c d, 0, 0) _
    refine pm_brT (g := (17, [(0, .ref 2), (1, .int (a))], [], g0_0 (pg xs) a b c d, 0, 0)) rfl ?_
    refine pm_go (g := (18, [(0, .ref 2), (1, .int (a))], [.int 0], g0_0 (pg xs) a b c d, 0, 0)) rfl ?_
    refine pm_ret rfl ?_
    show pm_WP 91 (8, [(0, .ref 1), (1, .int (a))], [.int 0], g0_0 (pg xs) a b c d, 0, 0) _
    refine pm_brF (h := (11, [(0, .ref 1), (1, .int (a))], [], g0_0 (pg xs) a b c d, 0, 0)) rfl ?_
    refine pm_go (g := (12, [(0, .ref 1), (1, .int (a))], [.int (-1)], g0_0 (pg xs) a b c d, 0, 0)) rfl ?_
    refine pm_ret rfl ?_
    show pm_WP 0 (157, [(3, .int 0), (2, .ref 25), (1, .ref 1), (0, .ref 0)], [.int (-1)], g0_0 (pg xs) a b c d, 599951, 7298500) _
    refine pm_go (g := (158, [(3, .int 0), (2, .ref 25), (1, .ref 1), (0, .ref 0)], [.ref 25, .int (-1)], g0_0 (pg xs) a b c d, 599951, 7298500)) rfl ?_
    refine pm_go (g := (159, [(3, .int 0), (2, .ref 25), (1, .ref 1), (0, .ref 0)], [.ref 0, .ref 25, .int (-1)], g0_0 (pg xs) a b c d, 599951, 7298500)) rfl ?_
    refine pm_go (g := (160, [(3, .int 0), (2, .ref 25), (1, .ref 1), (0, .ref 0)], [.int 0, .ref 0, .ref 25, .int (-1)], g0_0 (pg xs) a b c d, 599951, 7298500)) rfl ?_
    refine pm_go (g := (161, [(3, .int 0), (2, .ref 25), (1, .ref 1), (0, .ref 0)], [.int 1, .int 0, .ref 0, .ref 25, .int (-1)], g0_0 (pg xs) a b c d, 599951, 7298500)) rfl ?_
    refine pm_go (g := (162, [(3, .int 0), (2, .ref 25), (1, .ref 1), (0, .ref 0)], [.int 1, .ref 0, .ref 25, .int (-1)], g0_0 (pg xs) a b c d, 599951, 7298500)) rfl ?_
    refine pm_go (g := (163, [(3, .int 0), (2, .ref 25), (1, .ref 1), (0, .ref 0)], [.int (xs 1), .ref 25, .int (-1)], g0_0 (pg xs) a b c d, 599951, 7298500)) rfl ?_
    rw [← ea]
    refine pm_callD (z := 134) (as := [.ref 25, .int (a)]) (rest := [.int (-1)]) rfl ?_
    show pm_WP 134 (0, [(0, .ref 25), (1, .int (a))], [], g0_0 (pg xs) a b c d, 0, 0) _
    refine pm_go (g := (1, [(0, .ref 25), (1, .int (a))], [.ref 25], g0_0 (pg xs) a b c d, 0, 0)) rfl ?_
    refine pm_go (g := (2, [(0, .ref 25), (1, .int (a))], [.int (a), .ref 25], g0_0 (pg xs) a b c d, 0, 0)) rfl ?_
    refine pm_callD (z := 130) (as := [.ref 25, .int (a)]) (rest := []) rfl ?_
    show pm_WP 130 (0, [(0, .ref 25), (1, .int (a))], [], g0_0 (pg xs) a b c d, 0, 0) _
    refine pm_go (g := (1, [(0, .ref 25), (1, .int (a))], [.ref 25], g0_0 (pg xs) a b c d, 0, 0)) rfl ?_
    refine pm_go (g := (2, [(0, .ref 25), (1, .int (a))], [.int (a), .ref 25], g0_0 (pg xs) a b c d, 0, 0)) rfl ?_
    refine pm_callD (z := 129) (as := [.ref 25, .int (a)]) (rest := []) rfl ?_
    show pm_WP 129 (0, [(0, .ref 25), (1, .int (a))], [], g0_0 (pg xs) a b c d, 0, 0) _
    refine pm_go (g := (1, [(0, .ref 25), (1, .int (a))], [.int (a)], g0_0 (pg xs) a b c d, 0, 0)) rfl ?_
    refine pm_go (g := (2, [(0, .ref 25), (1, .int (a))], [.int 0, .int (a)], g0_0 (pg xs) a b c d, 0, 0)) rfl ?_
    refine pm_go (g := (3, [(0, .ref 25), (1, .int (a))], [.ref 25, .int 0, .int (a)], g0_0 (pg xs) a b c d, 0, 0)) rfl ?_
    refine pm_go (g := (6, [(0, .ref 25), (1, .int (a))], [.int 2, .int 0, .int (a)], g0_0 (pg xs) a b c d, 0, 0)) rfl ?_
    refine pm_go (g := (7, [(0, .ref 25), (1, .int (a))], [.int 1, .int 2, .int 0, .int (a)], g0_0 (pg xs) a b c d, 0, 0)) rfl ?_
    refine pm_go (g := (8, [(0, .ref 25), (1, .int (a))], [.int 1, .int 0, .int (a)], g0_0 (pg xs) a b c d, 0, 0)) rfl ?_
    refine pm_callD (z := 128) (as := [.int (a), .int 0, .int 1]) (rest := []) rfl ?_
    show pm_WP 128 (0, [(0, .int (a)), (1, .int 0), (2, .int 1)], [], g0_0 (pg xs) a b c d, 0, 0) _
    refine pm_go (g := (1, [(0, .int (a)), (1, .int 0), (2, .int 1)], [.int (a)], g0_0 (pg xs) a b c d, 0, 0)) rfl ?_
    refine pm_go (g := (2, [(0, .int (a)), (1, .int 0), (2, .int 1)], [.int 0, .int (a)], g0_0 (pg xs) a b c d, 0, 0)) rfl ?_
    refine pm_ifT (g := (14, [(0, .int (a)), (1, .int 0), (2, .int 1)], [], g0_0 (pg xs) a b c d, 0, 0)) rfl (rT_lt (cx := a.toInt) (cy := 0) rfl (by decide) (by omega)) ?_
    refine pm_go (g := (15, [(0, .int (a)), (1, .int 0), (2, .int 1)], [.int 0], g0_0 (pg xs) a b c d, 0, 0)) rfl ?_
    refine pm_ret rfl ?_
    show pm_WP 129 (11, [(0, .ref 25), (1, .int (a))], [.int 0], g0_0 (pg xs) a b c d, 0, 0) _
    refine pm_ret rfl ?_
    show pm_WP 130 (5, [(0, .ref 25), (1, .int (a))], [.int 0], g0_0 (pg xs) a b c d, 0, 0) _
    refine pm_brT (g := (17, [(0, .ref 25), (1, .int (a))], [], g0_0 (pg xs) a b c d, 0, 0)) rfl ?_
    refine pm_go (g := (18, [(0, .ref 25), (1, .int (a))], [.int 0], g0_0 (pg xs) a b c d, 0, 0)) rfl ?_
    refine pm_ret rfl ?_
    show pm_WP 134 (5, [(0, .ref 25), (1, .int (a))], [.int 0], g0_0 (pg xs) a b c d, 0, 0) _
    refine pm_brF (h := (8, [(0, .ref 25), (1, .int (a))], [], g0_0 (pg xs) a b c d, 0, 0)) rfl ?_
    refine pm_go (g := (9, [(0, .ref 25), (1, .int (a))], [.int (-1)], g0_0 (pg xs) a b c d, 0, 0)) rfl ?_
    refine pm_ret rfl ?_
    show pm_WP 0 (166, [(3, .int 0), (2, .ref 25), (1, .ref 1), (0, .ref 0)], [.int (-1), .int (-1)], g0_0 (pg xs) a b c d, 599951, 7298500) _
    refine pm_brT (g := (873, [(3, .int 0), (2, .ref 25), (1, .ref 1), (0, .ref 0)], [], g0_0 (pg xs) a b c d, 599951, 7298500)) rfl ?_
    refine pm_go (g := (876, [(3, .int 5), (2, .ref 25), (1, .ref 1), (0, .ref 0)], [], g0_0 (pg xs) a b c d, 599951, 7298500)) rfl ?_
    refine pm_go (g := (18, [(3, .int 5), (2, .ref 25), (1, .ref 1), (0, .ref 0)], [], g0_0 (pg xs) a b c d, 599951, 7298500)) rfl ?_
    refine pm_go (g := (19, [(3, .int 5), (2, .ref 25), (1, .ref 1), (0, .ref 0)], [.int 5], g0_0 (pg xs) a b c d, 599951, 7298500)) rfl ?_
    refine pm_go (g := (20, [(3, .int 5), (2, .ref 25), (1, .ref 1), (0, .ref 0)], [.ref 0, .int 5], g0_0 (pg xs) a b c d, 599951, 7298500)) rfl ?_
    refine pm_go (g := (21, [(3, .int 5), (2, .ref 25), (1, .ref 1), (0, .ref 0)], [.int 5, .int 5], g0_0 (pg xs) a b c d, 599951, 7298500)) rfl ?_
    refine pm_go (g := (22, [(3, .int 5), (2, .ref 25), (1, .ref 1), (0, .ref 0)], [.int 5, .int 5, .int 5], g0_0 (pg xs) a b c d, 599951, 7298500)) rfl ?_
    refine pm_go (g := (23, [(3, .int 5), (2, .ref 25), (1, .ref 1), (0, .ref 0)], [.int 0, .int 5], g0_0 (pg xs) a b c d, 599951, 7298500)) rfl ?_
    refine pm_brT (g := (879, [(3, .int 5), (2, .ref 25), (1, .ref 1), (0, .ref 0)], [], g0_0 (pg xs) a b c d, 599951, 7298500)) rfl ?_
    refine pm_go (g := (880, [(3, .int 5), (2, .ref 25), (1, .ref 1), (0, .ref 0)], [.int 1], g0_0 (pg xs) a b c d, 599951, 7298500)) rfl ?_
    exact pm_ret rfl rfl
  have q1 := qF_lt (cx := a.toInt) (cy := 0) rfl (by decide) q1
  refine pm_go (g := (5, [(0, .ref 2), (1, .int (a))], [.int (a)], g0_0 (pg xs) a b c d, 0, 0)) rfl ?_
  refine pm_go (g := (6, [(0, .ref 2), (1, .int (a))], [.ref 2, .int (a)], g0_0 (pg xs) a b c d, 0, 0)) rfl ?_
  refine pm_go (g := (9, [(0, .ref 2), (1, .int (a))], [.int 2, .int (a)], g0_0 (pg xs) a b c d, 0, 0)) rfl ?_
  refine pm_if2 (g := (16, [(0, .ref 2), (1, .int (a))], [], g0_0 (pg xs) a b c d, 0, 0)) (h := (12, [(0, .ref 2), (1, .int (a))], [], g0_0 (pg xs) a b c d, 0, 0)) rfl (fun q2 => ?_) (fun q2 => ?_)
  ·
    have q2 := qT_ge (cx := a.toInt) (cy := 2) rfl (by decide) q2
    refine pm_go (g := (17, [(0, .ref 2), (1, .int (a))], [.int 0], g0_0 (pg xs) a b c d, 0, 0)) rfl ?_
    refine pm_ret rfl ?_
    show pm_WP 82 (5, [(0, .ref 2), (1, .int (a))], [.int 0], g0_0 (pg xs) a b c d, 0, 0) _
    refine pm_brT (g := (17, [(0, .ref 2), (1, .int (a))], [], g0_0 (pg xs) a b c d, 0, 0)) rfl ?_
    refine pm_go (g := (18, [(0, .ref 2), (1, .int (a))], [.int 0], g0_0 (pg xs) a b c d, 0, 0)) rfl ?_
    refine pm_ret rfl ?_
    show pm_WP 91 (8, [(0, .ref 1), (1, .int (a))], [.int 0], g0_0 (pg xs) a b c d, 0, 0) _
    refine pm_brF (h := (11, [(0, .ref 1), (1, .int (a))], [], g0_0 (pg xs) a b c d, 0, 0)) rfl ?_
    refine pm_go (g := (12, [(0, .ref 1), (1, .int (a))], [.int (-1)], g0_0 (pg xs) a b c d, 0, 0)) rfl ?_
    refine pm_ret rfl ?_
    show pm_WP 0 (157, [(3, .int 0), (2, .ref 25), (1, .ref 1), (0, .ref 0)], [.int (-1)], g0_0 (pg xs) a b c d, 599951, 7298500) _
    refine pm_go (g := (158, [(3, .int 0), (2, .ref 25), (1, .ref 1), (0, .ref 0)], [.ref 25, .int (-1)], g0_0 (pg xs) a b c d, 599951, 7298500)) rfl ?_
    refine pm_go (g := (159, [(3, .int 0), (2, .ref 25), (1, .ref 1), (0, .ref 0)], [.ref 0, .ref 25, .int (-1)], g0_0 (pg xs) a b c d, 599951, 7298500)) rfl ?_
    refine pm_go (g := (160, [(3, .int 0), (2, .ref 25), (1, .ref 1), (0, .ref 0)], [.int 0, .ref 0, .ref 25, .int (-1)], g0_0 (pg xs) a b c d, 599951, 7298500)) rfl ?_
    refine pm_go (g := (161, [(3, .int 0), (2, .ref 25), (1, .ref 1), (0, .ref 0)], [.int 1, .int 0, .ref 0, .ref 25, .int (-1)], g0_0 (pg xs) a b c d, 599951, 7298500)) rfl ?_
    refine pm_go (g := (162, [(3, .int 0), (2, .ref 25), (1, .ref 1), (0, .ref 0)], [.int 1, .ref 0, .ref 25, .int (-1)], g0_0 (pg xs) a b c d, 599951, 7298500)) rfl ?_
    refine pm_go (g := (163, [(3, .int 0), (2, .ref 25), (1, .ref 1), (0, .ref 0)], [.int (xs 1), .ref 25, .int (-1)], g0_0 (pg xs) a b c d, 599951, 7298500)) rfl ?_
    rw [← ea]
    refine pm_callD (z := 134) (as := [.ref 25, .int (a)]) (rest := [.int (-1)]) rfl ?_
    show pm_WP 134 (0, [(0, .ref 25), (1, .int (a))], [], g0_0 (pg xs) a b c d, 0, 0) _
    refine pm_go (g := (1, [(0, .ref 25), (1, .int (a))], [.ref 25], g0_0 (pg xs) a b c d, 0, 0)) rfl ?_
    refine pm_go (g := (2, [(0, .ref 25), (1, .int (a))], [.int (a), .ref 25], g0_0 (pg xs) a b c d, 0, 0)) rfl ?_
    refine pm_callD (z := 130) (as := [.ref 25, .int (a)]) (rest := []) rfl ?_
    show pm_WP 130 (0, [(0, .ref 25), (1, .int (a))], [], g0_0 (pg xs) a b c d, 0, 0) _
    refine pm_go (g := (1, [(0, .ref 25), (1, .int (a))], [.ref 25], g0_0 (pg xs) a b c d, 0, 0)) rfl ?_
    refine pm_go (g := (2, [(0, .ref 25), (1, .int (a))], [.int (a), .ref 25], g0_0 (pg xs) a b c d, 0, 0)) rfl ?_
    refine pm_callD (z := 129) (as := [.ref 25, .int (a)]) (rest := []) rfl ?_
    show pm_WP 129 (0, [(0, .ref 25), (1, .int (a))], [], g0_0 (pg xs) a b c d, 0, 0) _
    refine pm_go (g := (1, [(0, .ref 25), (1, .int (a))], [.int (a)], g0_0 (pg xs) a b c d, 0, 0)) rfl ?_
    refine pm_go (g := (2, [(0, .ref 25), (1, .int (a))], [.int 0, .int (a)], g0_0 (pg xs) a b c d, 0, 0)) rfl ?_
    refine pm_go (g := (3, [(0, .ref 25), (1, .int (a))], [.ref 25, .int 0, .int (a)], g0_0 (pg xs) a b c d, 0, 0)) rfl ?_
    refine pm_go (g := (6, [(0, .ref 25), (1, .int (a))], [.int 2, .int 0, .int (a)], g0_0 (pg xs) a b c d, 0, 0)) rfl ?_
    refine pm_go (g := (7, [(0, .ref 25), (1, .int (a))], [.int 1, .int 2, .int 0, .int (a)], g0_0 (pg xs) a b c d, 0, 0)) rfl ?_
    refine pm_go (g := (8, [(0, .ref 25), (1, .int (a))], [.int 1, .int 0, .int (a)], g0_0 (pg xs) a b c d, 0, 0)) rfl ?_
    refine pm_callD (z := 128) (as := [.int (a), .int 0, .int 1]) (rest := []) rfl ?_
    show pm_WP 128 (0, [(0, .int (a)), (1, .int 0), (2, .int 1)], [], g0_0 (pg xs) a b c d, 0, 0) _
    refine pm_go (g := (1, [(0, .int (a)), (1, .int 0), (2, .int 1)], [.int (a)], g0_0 (pg xs) a b c d, 0, 0)) rfl ?_
    refine pm_go (g := (2, [(0, .int (a)), (1, .int 0), (2, .int 1)], [.int 0, .int (a)], g0_0 (pg xs) a b c d, 0, 0)) rfl ?_
    refine pm_ifF (h := (5, [(0, .int (a)), (1, .int 0), (2, .int 1)], [], g0_0 (pg xs) a b c d, 0, 0)) rfl (rF_lt (cx := a.toInt) (cy := 0) rfl (by decide) (by omega)) ?_
    refine pm_go (g := (6, [(0, .int (a)), (1, .int 0), (2, .int 1)], [.int (a)], g0_0 (pg xs) a b c d, 0, 0)) rfl ?_
    refine pm_go (g := (7, [(0, .int (a)), (1, .int 0), (2, .int 1)], [.int 1, .int (a)], g0_0 (pg xs) a b c d, 0, 0)) rfl ?_
    refine pm_ifT (g := (14, [(0, .int (a)), (1, .int 0), (2, .int 1)], [], g0_0 (pg xs) a b c d, 0, 0)) rfl (rT_gt (cx := a.toInt) (cy := 1) rfl (by decide) (by omega)) ?_
    refine pm_go (g := (15, [(0, .int (a)), (1, .int 0), (2, .int 1)], [.int 0], g0_0 (pg xs) a b c d, 0, 0)) rfl ?_
    refine pm_ret rfl ?_
    show pm_WP 129 (11, [(0, .ref 25), (1, .int (a))], [.int 0], g0_0 (pg xs) a b c d, 0, 0) _
    refine pm_ret rfl ?_
    show pm_WP 130 (5, [(0, .ref 25), (1, .int (a))], [.int 0], g0_0 (pg xs) a b c d, 0, 0) _
    refine pm_brT (g := (17, [(0, .ref 25), (1, .int (a))], [], g0_0 (pg xs) a b c d, 0, 0)) rfl ?_
    refine pm_go (g := (18, [(0, .ref 25), (1, .int (a))], [.int 0], g0_0 (pg xs) a b c d, 0, 0)) rfl ?_
    refine pm_ret rfl ?_
    show pm_WP 134 (5, [(0, .ref 25), (1, .int (a))], [.int 0], g0_0 (pg xs) a b c d, 0, 0) _
    refine pm_brF (h := (8, [(0, .ref 25), (1, .int (a))], [], g0_0 (pg xs) a b c d, 0, 0)) rfl ?_
    refine pm_go (g := (9, [(0, .ref 25), (1, .int (a))], [.int (-1)], g0_0 (pg xs) a b c d, 0, 0)) rfl ?_
    refine pm_ret rfl ?_
    show pm_WP 0 (166, [(3, .int 0), (2, .ref 25), (1, .ref 1), (0, .ref 0)], [.int (-1), .int (-1)], g0_0 (pg xs) a b c d, 599951, 7298500) _
    refine pm_brT (g := (873, [(3, .int 0), (2, .ref 25), (1, .ref 1), (0, .ref 0)], [], g0_0 (pg xs) a b c d, 599951, 7298500)) rfl ?_
    refine pm_go (g := (876, [(3, .int 5), (2, .ref 25), (1, .ref 1), (0, .ref 0)], [], g0_0 (pg xs) a b c d, 599951, 7298500)) rfl ?_
    refine pm_go (g := (18, [(3, .int 5), (2, .ref 25), (1, .ref 1), (0, .ref 0)], [], g0_0 (pg xs) a b c d, 599951, 7298500)) rfl ?_
    refine pm_go (g := (19, [(3, .int 5), (2, .ref 25), (1, .ref 1), (0, .ref 0)], [.int 5], g0_0 (pg xs) a b c d, 599951, 7298500)) rfl ?_
    refine pm_go (g := (20, [(3, .int 5), (2, .ref 25), (1, .ref 1), (0, .ref 0)], [.ref 0, .int 5], g0_0 (pg xs) a b c d, 599951, 7298500)) rfl ?_
    refine pm_go (g := (21, [(3, .int 5), (2, .ref 25), (1, .ref 1), (0, .ref 0)], [.int 5, .int 5], g0_0 (pg xs) a b c d, 599951, 7298500)) rfl ?_
    refine pm_go (g := (22, [(3, .int 5), (2, .ref 25), (1, .ref 1), (0, .ref 0)], [.int 5, .int 5, .int 5], g0_0 (pg xs) a b c d, 599951, 7298500)) rfl ?_
    refine pm_go (g := (23, [(3, .int 5), (2, .ref 25), (1, .ref 1), (0, .ref 0)], [.int 0, .int 5], g0_0 (pg xs) a b c d, 599951, 7298500)) rfl ?_
    refine pm_brT (g := (879, [(3, .int 5), (2, .ref 25), (1, .ref 1), (0, .ref 0)], [], g0_0 (pg xs) a b c d, 599951, 7298500)) rfl ?_
    refine pm_go (g := (880, [(3, .int 5), (2, .ref 25), (1, .ref 1), (0, .ref 0)], [.int 1], g0_0 (pg xs) a b c d, 599951, 7298500)) rfl ?_
    exact pm_ret rfl rfl
  have q2 := qF_ge (cx := a.toInt) (cy := 2) rfl (by decide) q2
  refine pm_go (g := (13, [(0, .ref 2), (1, .int (a))], [.int 1], g0_0 (pg xs) a b c d, 0, 0)) rfl ?_
  refine pm_go (g := (17, [(0, .ref 2), (1, .int (a))], [.int 1], g0_0 (pg xs) a b c d, 0, 0)) rfl ?_
  refine pm_ret rfl ?_
  show pm_WP 82 (5, [(0, .ref 2), (1, .int (a))], [.int 1], g0_0 (pg xs) a b c d, 0, 0) _
  refine pm_brF (h := (8, [(0, .ref 2), (1, .int (a))], [], g0_0 (pg xs) a b c d, 0, 0)) rfl ?_
  refine pm_go (g := (9, [(0, .ref 2), (1, .int (a))], [.int (a)], g0_0 (pg xs) a b c d, 0, 0)) rfl ?_
  refine pm_go (g := (10, [(0, .ref 2), (1, .int (a))], [.int 1, .int (a)], g0_0 (pg xs) a b c d, 0, 0)) rfl ?_
  refine pm_if2 (g := (17, [(0, .ref 2), (1, .int (a))], [], g0_0 (pg xs) a b c d, 0, 0)) (h := (13, [(0, .ref 2), (1, .int (a))], [], g0_0 (pg xs) a b c d, 0, 0)) rfl (fun q3 => ?_) (fun q3 => ?_)
  ·
    have q3 := qT_eq (cx := a.toInt) (cy := 1) rfl (by decide) q3
    obtain rfl : a = 1 := xI (c := 1) (by decide) (by omega)
    show pm_WP 82 (17, [(0, .ref 2), (1, .int 1)], [], g0_0 (pg xs) 1 b c d, 0, 0) _
    refine pm_go (g := (18, [(0, .ref 2), (1, .int 1)], [.int 0], g0_0 (pg xs) 1 b c d, 0, 0)) rfl ?_
    refine pm_ret rfl ?_
    show pm_WP 91 (8, [(0, .ref 1), (1, .int 1)], [.int 0], g0_0 (pg xs) 1 b c d, 0, 0) _
    refine pm_brF (h := (11, [(0, .ref 1), (1, .int 1)], [], g0_0 (pg xs) 1 b c d, 0, 0)) rfl ?_
    refine pm_go (g := (12, [(0, .ref 1), (1, .int 1)], [.int (-1)], g0_0 (pg xs) 1 b c d, 0, 0)) rfl ?_
    refine pm_ret rfl ?_
    show pm_WP 0 (157, [(3, .int 0), (2, .ref 25), (1, .ref 1), (0, .ref 0)], [.int (-1)], g0_0 (pg xs) 1 b c d, 599951, 7298500) _
    refine pm_go (g := (158, [(3, .int 0), (2, .ref 25), (1, .ref 1), (0, .ref 0)], [.ref 25, .int (-1)], g0_0 (pg xs) 1 b c d, 599951, 7298500)) rfl ?_
    refine pm_go (g := (159, [(3, .int 0), (2, .ref 25), (1, .ref 1), (0, .ref 0)], [.ref 0, .ref 25, .int (-1)], g0_0 (pg xs) 1 b c d, 599951, 7298500)) rfl ?_
    refine pm_go (g := (160, [(3, .int 0), (2, .ref 25), (1, .ref 1), (0, .ref 0)], [.int 0, .ref 0, .ref 25, .int (-1)], g0_0 (pg xs) 1 b c d, 599951, 7298500)) rfl ?_
    refine pm_go (g := (161, [(3, .int 0), (2, .ref 25), (1, .ref 1), (0, .ref 0)], [.int 1, .int 0, .ref 0, .ref 25, .int (-1)], g0_0 (pg xs) 1 b c d, 599951, 7298500)) rfl ?_
    refine pm_go (g := (162, [(3, .int 0), (2, .ref 25), (1, .ref 1), (0, .ref 0)], [.int 1, .ref 0, .ref 25, .int (-1)], g0_0 (pg xs) 1 b c d, 599951, 7298500)) rfl ?_
    refine pm_go (g := (163, [(3, .int 0), (2, .ref 25), (1, .ref 1), (0, .ref 0)], [.int (xs 1), .ref 25, .int (-1)], g0_0 (pg xs) 1 b c d, 599951, 7298500)) rfl ?_
    rw [← ea]
    refine pm_callD (z := 134) (as := [.ref 25, .int 1]) (rest := [.int (-1)]) rfl ?_
    show pm_WP 134 (0, [(0, .ref 25), (1, .int 1)], [], g0_0 (pg xs) 1 b c d, 0, 0) _
    refine pm_go (g := (1, [(0, .ref 25), (1, .int 1)], [.ref 25], g0_0 (pg xs) 1 b c d, 0, 0)) rfl ?_
    refine pm_go (g := (2, [(0, .ref 25), (1, .int 1)], [.int 1, .ref 25], g0_0 (pg xs) 1 b c d, 0, 0)) rfl ?_
    refine pm_callD (z := 130) (as := [.ref 25, .int 1]) (rest := []) rfl ?_
    show pm_WP 130 (0, [(0, .ref 25), (1, .int 1)], [], g0_0 (pg xs) 1 b c d, 0, 0) _
    refine pm_go (g := (1, [(0, .ref 25), (1, .int 1)], [.ref 25], g0_0 (pg xs) 1 b c d, 0, 0)) rfl ?_
    refine pm_go (g := (2, [(0, .ref 25), (1, .int 1)], [.int 1, .ref 25], g0_0 (pg xs) 1 b c d, 0, 0)) rfl ?_
    refine pm_callD (z := 129) (as := [.ref 25, .int 1]) (rest := []) rfl ?_
    show pm_WP 129 (0, [(0, .ref 25), (1, .int 1)], [], g0_0 (pg xs) 1 b c d, 0, 0) _
    refine pm_go (g := (1, [(0, .ref 25), (1, .int 1)], [.int 1], g0_0 (pg xs) 1 b c d, 0, 0)) rfl ?_
    refine pm_go (g := (2, [(0, .ref 25), (1, .int 1)], [.int 0, .int 1], g0_0 (pg xs) 1 b c d, 0, 0)) rfl ?_
    refine pm_go (g := (3, [(0, .ref 25), (1, .int 1)], [.ref 25, .int 0, .int 1], g0_0 (pg xs) 1 b c d, 0, 0)) rfl ?_
    refine pm_go (g := (6, [(0, .ref 25), (1, .int 1)], [.int 2, .int 0, .int 1], g0_0 (pg xs) 1 b c d, 0, 0)) rfl ?_
    refine pm_go (g := (7, [(0, .ref 25), (1, .int 1)], [.int 1, .int 2, .int 0, .int 1], g0_0 (pg xs) 1 b c d, 0, 0)) rfl ?_
    refine pm_go (g := (8, [(0, .ref 25), (1, .int 1)], [.int 1, .int 0, .int 1], g0_0 (pg xs) 1 b c d, 0, 0)) rfl ?_
    refine pm_callD (z := 128) (as := [.int 1, .int 0, .int 1]) (rest := []) rfl ?_
    show pm_WP 128 (0, [(0, .int 1), (1, .int 0), (2, .int 1)], [], g0_0 (pg xs) 1 b c d, 0, 0) _
    refine pm_go (g := (1, [(0, .int 1), (1, .int 0), (2, .int 1)], [.int 1], g0_0 (pg xs) 1 b c d, 0, 0)) rfl ?_
    refine pm_go (g := (2, [(0, .int 1), (1, .int 0), (2, .int 1)], [.int 0, .int 1], g0_0 (pg xs) 1 b c d, 0, 0)) rfl ?_
    refine pm_brF (h := (5, [(0, .int 1), (1, .int 0), (2, .int 1)], [], g0_0 (pg xs) 1 b c d, 0, 0)) rfl ?_
    refine pm_go (g := (6, [(0, .int 1), (1, .int 0), (2, .int 1)], [.int 1], g0_0 (pg xs) 1 b c d, 0, 0)) rfl ?_
    refine pm_go (g := (7, [(0, .int 1), (1, .int 0), (2, .int 1)], [.int 1, .int 1], g0_0 (pg xs) 1 b c d, 0, 0)) rfl ?_
    refine pm_brF (h := (10, [(0, .int 1), (1, .int 0), (2, .int 1)], [], g0_0 (pg xs) 1 b c d, 0, 0)) rfl ?_
    refine pm_go (g := (11, [(0, .int 1), (1, .int 0), (2, .int 1)], [.int 1], g0_0 (pg xs) 1 b c d, 0, 0)) rfl ?_
    refine pm_go (g := (15, [(0, .int 1), (1, .int 0), (2, .int 1)], [.int 1], g0_0 (pg xs) 1 b c d, 0, 0)) rfl ?_
    refine pm_ret rfl ?_
    show pm_WP 129 (11, [(0, .ref 25), (1, .int 1)], [.int 1], g0_0 (pg xs) 1 b c d, 0, 0) _
    refine pm_ret rfl ?_
    show pm_WP 130 (5, [(0, .ref 25), (1, .int 1)], [.int 1], g0_0 (pg xs) 1 b c d, 0, 0) _
    refine pm_brF (h := (8, [(0, .ref 25), (1, .int 1)], [], g0_0 (pg xs) 1 b c d, 0, 0)) rfl ?_
    refine pm_go (g := (9, [(0, .ref 25), (1, .int 1)], [.int 1], g0_0 (pg xs) 1 b c d, 0, 0)) rfl ?_
    refine pm_go (g := (10, [(0, .ref 25), (1, .int 1)], [.int 1, .int 1], g0_0 (pg xs) 1 b c d, 0, 0)) rfl ?_
    refine pm_brT (g := (17, [(0, .ref 25), (1, .int 1)], [], g0_0 (pg xs) 1 b c d, 0, 0)) rfl ?_
    refine pm_go (g := (18, [(0, .ref 25), (1, .int 1)], [.int 0], g0_0 (pg xs) 1 b c d, 0, 0)) rfl ?_
    refine pm_ret rfl ?_
    show pm_WP 134 (5, [(0, .ref 25), (1, .int 1)], [.int 0], g0_0 (pg xs) 1 b c d, 0, 0) _
    refine pm_brF (h := (8, [(0, .ref 25), (1, .int 1)], [], g0_0 (pg xs) 1 b c d, 0, 0)) rfl ?_
    refine pm_go (g := (9, [(0, .ref 25), (1, .int 1)], [.int (-1)], g0_0 (pg xs) 1 b c d, 0, 0)) rfl ?_
    refine pm_ret rfl ?_
    show pm_WP 0 (166, [(3, .int 0), (2, .ref 25), (1, .ref 1), (0, .ref 0)], [.int (-1), .int (-1)], g0_0 (pg xs) 1 b c d, 599951, 7298500) _
    refine pm_brT (g := (873, [(3, .int 0), (2, .ref 25), (1, .ref 1), (0, .ref 0)], [], g0_0 (pg xs) 1 b c d, 599951, 7298500)) rfl ?_
    refine pm_go (g := (876, [(3, .int 5), (2, .ref 25), (1, .ref 1), (0, .ref 0)], [], g0_0 (pg xs) 1 b c d, 599951, 7298500)) rfl ?_
    refine pm_go (g := (18, [(3, .int 5), (2, .ref 25), (1, .ref 1), (0, .ref 0)], [], g0_0 (pg xs) 1 b c d, 599951, 7298500)) rfl ?_
    refine pm_go (g := (19, [(3, .int 5), (2, .ref 25), (1, .ref 1), (0, .ref 0)], [.int 5], g0_0 (pg xs) 1 b c d, 599951, 7298500)) rfl ?_
    refine pm_go (g := (20, [(3, .int 5), (2, .ref 25), (1, .ref 1), (0, .ref 0)], [.ref 0, .int 5], g0_0 (pg xs) 1 b c d, 599951, 7298500)) rfl ?_
    refine pm_go (g := (21, [(3, .int 5), (2, .ref 25), (1, .ref 1), (0, .ref 0)], [.int 5, .int 5], g0_0 (pg xs) 1 b c d, 599951, 7298500)) rfl ?_
    refine pm_go (g := (22, [(3, .int 5), (2, .ref 25), (1, .ref 1), (0, .ref 0)], [.int 5, .int 5, .int 5], g0_0 (pg xs) 1 b c d, 599951, 7298500)) rfl ?_
    refine pm_go (g := (23, [(3, .int 5), (2, .ref 25), (1, .ref 1), (0, .ref 0)], [.int 0, .int 5], g0_0 (pg xs) 1 b c d, 599951, 7298500)) rfl ?_
    refine pm_brT (g := (879, [(3, .int 5), (2, .ref 25), (1, .ref 1), (0, .ref 0)], [], g0_0 (pg xs) 1 b c d, 599951, 7298500)) rfl ?_
    refine pm_go (g := (880, [(3, .int 5), (2, .ref 25), (1, .ref 1), (0, .ref 0)], [.int 1], g0_0 (pg xs) 1 b c d, 599951, 7298500)) rfl ?_
    exact pm_ret rfl rfl
  have q3 := qF_eq (cx := a.toInt) (cy := 1) rfl (by decide) q3
  obtain rfl : a = 0 := xI (c := 0) (by decide) (by omega)
  show pm_WP 82 (13, [(0, .ref 2), (1, .int 0)], [], g0_0 (pg xs) 0 b c d, 0, 0) _
  refine pm_go (g := (14, [(0, .ref 2), (1, .int 0)], [.int 1], g0_0 (pg xs) 0 b c d, 0, 0)) rfl ?_
  refine pm_go (g := (18, [(0, .ref 2), (1, .int 0)], [.int 1], g0_0 (pg xs) 0 b c d, 0, 0)) rfl ?_
  refine pm_ret rfl ?_
  show pm_WP 91 (8, [(0, .ref 1), (1, .int 0)], [.int 1], g0_0 (pg xs) 0 b c d, 0, 0) _
  refine pm_brT (g := (13, [(0, .ref 1), (1, .int 0)], [], g0_0 (pg xs) 0 b c d, 0, 0)) rfl ?_
  refine pm_go (g := (14, [(0, .ref 1), (1, .int 0)], [.ref 1], g0_0 (pg xs) 0 b c d, 0, 0)) rfl ?_
  refine pm_go (g := (17, [(0, .ref 1), (1, .int 0)], [.ref 2], g0_0 (pg xs) 0 b c d, 0, 0)) rfl ?_
  refine pm_go (g := (18, [(0, .ref 1), (1, .int 0)], [.int 0, .ref 2], g0_0 (pg xs) 0 b c d, 0, 0)) rfl ?_
  refine pm_callD (z := 80) (as := [.ref 2, .int 0]) (rest := []) rfl ?_
  show pm_WP 80 (0, [(0, .ref 2), (1, .int 0)], [], g0_0 (pg xs) 0 b c d, 0, 0) _
  refine pm_go (g := (1, [(0, .ref 2), (1, .int 0)], [.ref 2], g0_0 (pg xs) 0 b c d, 0, 0)) rfl ?_
  refine pm_go (g := (4, [(0, .ref 2), (1, .int 0)], [.int 2], g0_0 (pg xs) 0 b c d, 0, 0)) rfl ?_
  refine pm_go (g := (6, [(0, .ref 2), (1, .int 0)], [.int 10, .int 2], g0_0 (pg xs) 0 b c d, 0, 0)) rfl ?_
  refine pm_brF (h := (9, [(0, .ref 2), (1, .int 0)], [], g0_0 (pg xs) 0 b c d, 0, 0)) rfl ?_
  refine pm_go (g := (10, [(0, .ref 2), (1, .int 0)], [.ref 2], g0_0 (pg xs) 0 b c d, 0, 0)) rfl ?_
  refine pm_go (g := (11, [(0, .ref 2), (1, .int 0)], [.int 0, .ref 2], g0_0 (pg xs) 0 b c d, 0, 0)) rfl ?_
  refine pm_callD (z := 81) (as := [.ref 2, .int 0]) (rest := []) rfl ?_
  show pm_WP 81 (0, [(0, .ref 2), (1, .int 0)], [], g0_0 (pg xs) 0 b c d, 0, 0) _
  refine pm_go (g := (1, [(0, .ref 2), (1, .int 0)], [.int 0], g0_0 (pg xs) 0 b c d, 0, 0)) rfl ?_
  refine pm_brF (h := (4, [(0, .ref 2), (1, .int 0)], [], g0_0 (pg xs) 0 b c d, 0, 0)) rfl ?_
  refine pm_go (g := (5, [(0, .ref 2), (1, .int 0)], [.int 0], g0_0 (pg xs) 0 b c d, 0, 0)) rfl ?_
  refine pm_go (g := (6, [(0, .ref 2), (1, .int 0)], [.ref 2, .int 0], g0_0 (pg xs) 0 b c d, 0, 0)) rfl ?_
  refine pm_go (g := (9, [(0, .ref 2), (1, .int 0)], [.int 2, .int 0], g0_0 (pg xs) 0 b c d, 0, 0)) rfl ?_
  refine pm_brF (h := (12, [(0, .ref 2), (1, .int 0)], [], g0_0 (pg xs) 0 b c d, 0, 0)) rfl ?_
  refine pm_go (g := (13, [(0, .ref 2), (1, .int 0)], [.int 1], g0_0 (pg xs) 0 b c d, 0, 0)) rfl ?_
  refine pm_go (g := (17, [(0, .ref 2), (1, .int 0)], [.int 1], g0_0 (pg xs) 0 b c d, 0, 0)) rfl ?_
  refine pm_ret rfl ?_
  show pm_WP 80 (14, [(0, .ref 2), (1, .int 0)], [.int 1], g0_0 (pg xs) 0 b c d, 0, 0) _
  refine pm_brT (g := (20, [(0, .ref 2), (1, .int 0)], [], g0_0 (pg xs) 0 b c d, 0, 0)) rfl ?_
  refine pm_go (g := (21, [(0, .ref 2), (1, .int 0)], [.ref 2], g0_0 (pg xs) 0 b c d, 0, 0)) rfl ?_
  refine pm_go (g := (24, [(0, .ref 2), (1, .int 0)], [.int 2], g0_0 (pg xs) 0 b c d, 0, 0)) rfl ?_
  refine pm_go (g := (25, [(2, .int 2), (0, .ref 2), (1, .int 0)], [], g0_0 (pg xs) 0 b c d, 0, 0)) rfl ?_
  refine pm_go (g := (26, [(2, .int 2), (0, .ref 2), (1, .int 0)], [.ref 2], g0_0 (pg xs) 0 b c d, 0, 0)) rfl ?_
  refine pm_go (g := (29, [(2, .int 2), (0, .ref 2), (1, .int 0)], [.ref 3], g0_0 (pg xs) 0 b c d, 0, 0)) rfl ?_
  refine pm_go (g := (30, [(2, .int 2), (0, .ref 2), (1, .int 0)], [.int 2, .ref 3], g0_0 (pg xs) 0 b c d, 0, 0)) rfl ?_
  refine pm_go (g := (31, [(2, .int 2), (0, .ref 2), (1, .int 0)], [.int 0, .int 2, .ref 3], g0_0 (pg xs) 0 b c d, 0, 0)) rfl ?_
  refine pm_go (g := (32, [(2, .int 2), (0, .ref 2), (1, .int 0)], [], g0_1 (pg xs) 0 b c d, 0, 0)) rfl ?_
  refine pm_go (g := (33, [(2, .int 2), (0, .ref 2), (1, .int 0)], [.ref 2], g0_1 (pg xs) 0 b c d, 0, 0)) rfl ?_
  refine pm_go (g := (36, [(2, .int 2), (0, .ref 2), (1, .int 0)], [.ref 4], g0_1 (pg xs) 0 b c d, 0, 0)) rfl ?_
  refine pm_go (g := (37, [(2, .int 2), (0, .ref 2), (1, .int 0)], [.int 2, .ref 4], g0_1 (pg xs) 0 b c d, 0, 0)) rfl ?_
  refine pm_go (g := (38, [(2, .int 2), (0, .ref 2), (1, .int 0)], [.int 2, .int 2, .ref 4], g0_1 (pg xs) 0 b c d, 0, 0)) rfl ?_
  refine pm_callD (z := 78) (as := [.int 2]) (rest := [.int 2, .ref 4]) rfl ?_
  show pm_WP 78 (0, [(0, .int 2)], [], g0_1 (pg xs) 0 b c d, 0, 0) _
  refine pm_go (g := (1, [(0, .int 2)], [.int 1], g0_1 (pg xs) 0 b c d, 0, 0)) rfl ?_
  refine pm_go (g := (2, [(0, .int 2)], [.int 2, .int 1], g0_1 (pg xs) 0 b c d, 0, 0)) rfl ?_
  refine pm_go (g := (3, [(0, .int 2)], [.int 4], g0_1 (pg xs) 0 b c d, 0, 0)) rfl ?_
  refine pm_ret rfl ?_
  show pm_WP 80 (41, [(2, .int 2), (0, .ref 2), (1, .int 0)], [.int 4, .int 2, .ref 4], g0_1 (pg xs) 0 b c d, 0, 0) _
  refine pm_go (g := (42, [(2, .int 2), (0, .ref 2), (1, .int 0)], [.ref 2, .int 4, .int 2, .ref 4], g0_1 (pg xs) 0 b c d, 0, 0)) rfl ?_
  refine pm_go (g := (45, [(2, .int 2), (0, .ref 2), (1, .int 0)], [.ref 4, .int 4, .int 2, .ref 4], g0_1 (pg xs) 0 b c d, 0, 0)) rfl ?_
  refine pm_go (g := (46, [(2, .int 2), (0, .ref 2), (1, .int 0)], [.int 0, .ref 4, .int 4, .int 2, .ref 4], g0_1 (pg xs) 0 b c d, 0, 0)) rfl ?_
  refine pm_go (g := (47, [(2, .int 2), (0, .ref 2), (1, .int 0)], [.int 1, .int 4, .int 2, .ref 4], g0_1 (pg xs) 0 b c d, 0, 0)) rfl ?_
  refine pm_go (g := (48, [(2, .int 2), (0, .ref 2), (1, .int 0)], [.int 5, .int 2, .ref 4], g0_1 (pg xs) 0 b c d, 0, 0)) rfl ?_
  refine pm_go (g := (49, [(2, .int 2), (0, .ref 2), (1, .int 0)], [], g0_2 (pg xs) 0 b c d, 0, 0)) rfl ?_
  refine pm_go (g := (50, [(2, .int 2), (0, .ref 2), (1, .int 0)], [.ref 2], g0_2 (pg xs) 0 b c d, 0, 0)) rfl ?_
  refine pm_go (g := (53, [(2, .int 2), (0, .ref 2), (1, .int 0)], [.ref 4], g0_2 (pg xs) 0 b c d, 0, 0)) rfl ?_
  refine pm_go (g := (55, [(2, .int 2), (0, .ref 2), (1, .int 0)], [.int 20, .ref 4], g0_2 (pg xs) 0 b c d, 0, 0)) rfl ?_
  refine pm_go (g := (56, [(2, .int 2), (0, .ref 2), (1, .int 0)], [.int 2, .int 20, .ref 4], g0_2 (pg xs) 0 b c d, 0, 0)) rfl ?_
  refine pm_go (g := (57, [(2, .int 2), (0, .ref 2), (1, .int 0)], [.int 22, .ref 4], g0_2 (pg xs) 0 b c d, 0, 0)) rfl ?_
  refine pm_go (g := (59, [(2, .int 2), (0, .ref 2), (1, .int 0)], [.int 20, .int 22, .ref 4], g0_2 (pg xs) 0 b c d, 0, 0)) rfl ?_
  refine pm_go (g := (60, [(2, .int 2), (0, .ref 2), (1, .int 0)], [.int 2, .int 20, .int 22, .ref 4], g0_2 (pg xs) 0 b c d, 0, 0)) rfl ?_
  refine pm_go (g := (61, [(2, .int 2), (0, .ref 2), (1, .int 0)], [.int 22, .int 22, .ref 4], g0_2 (pg xs) 0 b c d, 0, 0)) rfl ?_
  refine pm_callD (z := 78) (as := [.int 22]) (rest := [.int 22, .ref 4]) rfl ?_
  show pm_WP 78 (0, [(0, .int 22)], [], g0_2 (pg xs) 0 b c d, 0, 0) _
  refine pm_go (g := (1, [(0, .int 22)], [.int 1], g0_2 (pg xs) 0 b c d, 0, 0)) rfl ?_
  refine pm_go (g := (2, [(0, .int 22)], [.int 22, .int 1], g0_2 (pg xs) 0 b c d, 0, 0)) rfl ?_
  refine pm_go (g := (3, [(0, .int 22)], [.int 4194304], g0_2 (pg xs) 0 b c d, 0, 0)) rfl ?_
  refine pm_ret rfl ?_
  show pm_WP 80 (64, [(2, .int 2), (0, .ref 2), (1, .int 0)], [.int 4194304, .int 22, .ref 4], g0_2 (pg xs) 0 b c d, 0, 0) _
  refine pm_go (g := (65, [(2, .int 2), (0, .ref 2), (1, .int 0)], [.ref 2, .int 4194304, .int 22, .ref 4], g0_2 (pg xs) 0 b c d, 0, 0)) rfl ?_
  refine pm_go (g := (68, [(2, .int 2), (0, .ref 2), (1, .int 0)], [.ref 4, .int 4194304, .int 22, .ref 4], g0_2 (pg xs) 0 b c d, 0, 0)) rfl ?_
  refine pm_go (g := (70, [(2, .int 2), (0, .ref 2), (1, .int 0)], [.int 20, .ref 4, .int 4194304, .int 22, .ref 4], g0_2 (pg xs) 0 b c d, 0, 0)) rfl ?_
  refine pm_go (g := (71, [(2, .int 2), (0, .ref 2), (1, .int 0)], [.int 0, .int 20, .ref 4, .int 4194304, .int 22, .ref 4], g0_2 (pg xs) 0 b c d, 0, 0)) rfl ?_
  refine pm_go (g := (72, [(2, .int 2), (0, .ref 2), (1, .int 0)], [.int 20, .ref 4, .int 4194304, .int 22, .ref 4], g0_2 (pg xs) 0 b c d, 0, 0)) rfl ?_
  refine pm_go (g := (73, [(2, .int 2), (0, .ref 2), (1, .int 0)], [.int 1048577, .int 4194304, .int 22, .ref 4], g0_2 (pg xs) 0 b c d, 0, 0)) rfl ?_
  refine pm_go (g := (74, [(2, .int 2), (0, .ref 2), (1, .int 0)], [.int 5242881, .int 22, .ref 4], g0_2 (pg xs) 0 b c d, 0, 0)) rfl ?_
  refine pm_go (g := (75, [(2, .int 2), (0, .ref 2), (1, .int 0)], [], g0_3 (pg xs) 0 b c d, 0, 0)) rfl ?_
  refine pm_go (g := (76, [(2, .int 2), (0, .ref 2), (1, .int 0)], [.ref 2], g0_3 (pg xs) 0 b c d, 0, 0)) rfl ?_
  refine pm_go (g := (77, [(2, .int 2), (0, .ref 2), (1, .int 0)], [.ref 2, .ref 2], g0_3 (pg xs) 0 b c d, 0, 0)) rfl ?_
  refine pm_go (g := (80, [(2, .int 2), (0, .ref 2), (1, .int 0)], [.int 2, .ref 2], g0_3 (pg xs) 0 b c d, 0, 0)) rfl ?_
  refine pm_go (g := (81, [(2, .int 2), (0, .ref 2), (1, .int 0)], [.int 1, .int 2, .ref 2], g0_3 (pg xs) 0 b c d, 0, 0)) rfl ?_
  refine pm_go (g := (82, [(2, .int 2), (0, .ref 2), (1, .int 0)], [.int 3, .ref 2], g0_3 (pg xs) 0 b c d, 0, 0)) rfl ?_
  refine pm_go (g := (85, [(2, .int 2), (0, .ref 2), (1, .int 0)], [], g0_4 (pg xs) 0 b c d, 0, 0)) rfl ?_
  refine pm_go (g := (86, [(2, .int 2), (0, .ref 2), (1, .int 0)], [.int 2], g0_4 (pg xs) 0 b c d, 0, 0)) rfl ?_
  refine pm_ret rfl ?_
  show pm_WP 91 (21, [(0, .ref 1), (1, .int 0)], [.int 2], g0_4 (pg xs) 0 b c d, 0, 0) _
  refine pm_go (g := (22, [(2, .int 2), (0, .ref 1), (1, .int 0)], [], g0_4 (pg xs) 0 b c d, 0, 0)) rfl ?_
  refine pm_go (g := (23, [(2, .int 2), (0, .ref 1), (1, .int 0)], [.ref 1], g0_4 (pg xs) 0 b c d, 0, 0)) rfl ?_
  refine pm_go (g := (26, [(2, .int 2), (0, .ref 1), (1, .int 0)], [.ref 5], g0_4 (pg xs) 0 b c d, 0, 0)) rfl ?_
  refine pm_go (g := (27, [(2, .int 2), (0, .ref 1), (1, .int 0)], [.int 2, .ref 5], g0_4 (pg xs) 0 b c d, 0, 0)) rfl ?_
  refine pm_go (g := (28, [(2, .int 2), (0, .ref 1), (1, .int 0)], [.int 0, .int 2, .ref 5], g0_4 (pg xs) 0 b c d, 0, 0)) rfl ?_
  refine pm_callD (z := 35) (as := [.ref 5, .int 2, .int 0]) (rest := []) rfl ?_
  show pm_WP 35 (0, [(0, .ref 5), (1, .int 2), (2, .int 0)], [], g0_4 (pg xs) 0 b c d, 0, 0) _
  refine pm_go (g := (1, [(0, .ref 5), (1, .int 2), (2, .int 0)], [.ref 5], g0_4 (pg xs) 0 b c d, 0, 0)) rfl ?_
  refine pm_go (g := (4, [(0, .ref 5), (1, .int 2), (2, .int 0)], [.ref 2], g0_4 (pg xs) 0 b c d, 0, 0)) rfl ?_
  refine pm_go (g := (5, [(0, .ref 5), (1, .int 2), (2, .int 0)], [.int 2, .ref 2], g0_4 (pg xs) 0 b c d, 0, 0)) rfl ?_
  refine pm_callD (z := 81) (as := [.ref 2, .int 2]) (rest := []) rfl ?_
  show pm_WP 81 (0, [(0, .ref 2), (1, .int 2)], [], g0_4 (pg xs) 0 b c d, 0, 0) _
  refine pm_go (g := (1, [(0, .ref 2), (1, .int 2)], [.int 2], g0_4 (pg xs) 0 b c d, 0, 0)) rfl ?_
  refine pm_brF (h := (4, [(0, .ref 2), (1, .int 2)], [], g0_4 (pg xs) 0 b c d, 0, 0)) rfl ?_
  refine pm_go (g := (5, [(0, .ref 2), (1, .int 2)], [.int 2], g0_4 (pg xs) 0 b c d, 0, 0)) rfl ?_
  refine pm_go (g := (6, [(0, .ref 2), (1, .int 2)], [.ref 2, .int 2], g0_4 (pg xs) 0 b c d, 0, 0)) rfl ?_
  refine pm_go (g := (9, [(0, .ref 2), (1, .int 2)], [.int 3, .int 2], g0_4 (pg xs) 0 b c d, 0, 0)) rfl ?_
  refine pm_brF (h := (12, [(0, .ref 2), (1, .int 2)], [], g0_4 (pg xs) 0 b c d, 0, 0)) rfl ?_
  refine pm_go (g := (13, [(0, .ref 2), (1, .int 2)], [.int 1], g0_4 (pg xs) 0 b c d, 0, 0)) rfl ?_
  refine pm_go (g := (17, [(0, .ref 2), (1, .int 2)], [.int 1], g0_4 (pg xs) 0 b c d, 0, 0)) rfl ?_
  refine pm_ret rfl ?_
  show pm_WP 35 (8, [(0, .ref 5), (1, .int 2), (2, .int 0)], [.int 1], g0_4 (pg xs) 0 b c d, 0, 0) _
  refine pm_brF (h := (11, [(0, .ref 5), (1, .int 2), (2, .int 0)], [], g0_4 (pg xs) 0 b c d, 0, 0)) rfl ?_
  refine pm_go (g := (12, [(0, .ref 5), (1, .int 2), (2, .int 0)], [.ref 5], g0_4 (pg xs) 0 b c d, 0, 0)) rfl ?_
  refine pm_go (g := (15, [(0, .ref 5), (1, .int 2), (2, .int 0)], [.ref 2], g0_4 (pg xs) 0 b c d, 0, 0)) rfl ?_
  refine pm_go (g := (16, [(0, .ref 5), (1, .int 2), (2, .int 0)], [.int 0, .ref 2], g0_4 (pg xs) 0 b c d, 0, 0)) rfl ?_
  refine pm_callD (z := 81) (as := [.ref 2, .int 0]) (rest := []) rfl ?_
  show pm_WP 81 (0, [(0, .ref 2), (1, .int 0)], [], g0_4 (pg xs) 0 b c d, 0, 0) _
  refine pm_go (g := (1, [(0, .ref 2), (1, .int 0)], [.int 0], g0_4 (pg xs) 0 b c d, 0, 0)) rfl ?_
  refine pm_brF (h := (4, [(0, .ref 2), (1, .int 0)], [], g0_4 (pg xs) 0 b c d, 0, 0)) rfl ?_
  refine pm_go (g := (5, [(0, .ref 2), (1, .int 0)], [.int 0], g0_4 (pg xs) 0 b c d, 0, 0)) rfl ?_
  refine pm_go (g := (6, [(0, .ref 2), (1, .int 0)], [.ref 2, .int 0], g0_4 (pg xs) 0 b c d, 0, 0)) rfl ?_
  refine pm_go (g := (9, [(0, .ref 2), (1, .int 0)], [.int 3, .int 0], g0_4 (pg xs) 0 b c d, 0, 0)) rfl ?_
  refine pm_brF (h := (12, [(0, .ref 2), (1, .int 0)], [], g0_4 (pg xs) 0 b c d, 0, 0)) rfl ?_
  refine pm_go (g := (13, [(0, .ref 2), (1, .int 0)], [.int 1], g0_4 (pg xs) 0 b c d, 0, 0)) rfl ?_
  refine pm_go (g := (17, [(0, .ref 2), (1, .int 0)], [.int 1], g0_4 (pg xs) 0 b c d, 0, 0)) rfl ?_
  refine pm_ret rfl ?_
  show pm_WP 35 (19, [(0, .ref 5), (1, .int 2), (2, .int 0)], [.int 1], g0_4 (pg xs) 0 b c d, 0, 0) _
  refine pm_brF (h := (22, [(0, .ref 5), (1, .int 2), (2, .int 0)], [], g0_4 (pg xs) 0 b c d, 0, 0)) rfl ?_
  refine pm_go (g := (23, [(0, .ref 5), (1, .int 2), (2, .int 0)], [.ref 5], g0_4 (pg xs) 0 b c d, 0, 0)) rfl ?_
  refine pm_go (g := (26, [(0, .ref 5), (1, .int 2), (2, .int 0)], [.ref 7], g0_4 (pg xs) 0 b c d, 0, 0)) rfl ?_
  refine pm_go (g := (27, [(0, .ref 5), (1, .int 2), (2, .int 0)], [.int 2, .ref 7], g0_4 (pg xs) 0 b c d, 0, 0)) rfl ?_
  refine pm_go (g := (28, [(0, .ref 5), (1, .int 2), (2, .int 0)], [.ref 5, .int 2, .ref 7], g0_4 (pg xs) 0 b c d, 0, 0)) rfl ?_
  refine pm_go (g := (31, [(0, .ref 5), (1, .int 2), (2, .int 0)], [.ref 7, .int 2, .ref 7], g0_4 (pg xs) 0 b c d, 0, 0)) rfl ?_
  refine pm_go (g := (32, [(0, .ref 5), (1, .int 2), (2, .int 0)], [.int 0, .ref 7, .int 2, .ref 7], g0_4 (pg xs) 0 b c d, 0, 0)) rfl ?_
  refine pm_go (g := (33, [(0, .ref 5), (1, .int 2), (2, .int 0)], [.long 0, .int 2, .ref 7], g0_4 (pg xs) 0 b c d, 0, 0)) rfl ?_
  refine pm_go (g := (34, [(0, .ref 5), (1, .int 2), (2, .int 0)], [.ref 5, .long 0, .int 2, .ref 7], g0_4 (pg xs) 0 b c d, 0, 0)) rfl ?_
  refine pm_go (g := (37, [(0, .ref 5), (1, .int 2), (2, .int 0)], [.ref 8, .long 0, .int 2, .ref 7], g0_4 (pg xs) 0 b c d, 0, 0)) rfl ?_
  refine pm_go (g := (39, [(0, .ref 5), (1, .int 2), (2, .int 0)], [.int 6, .ref 8, .long 0, .int 2, .ref 7], g0_4 (pg xs) 0 b c d, 0, 0)) rfl ?_
  refine pm_go (g := (40, [(0, .ref 5), (1, .int 2), (2, .int 0)], [.long 0, .long 0, .int 2, .ref 7], g0_4 (pg xs) 0 b c d, 0, 0)) rfl ?_
  refine pm_go (g := (43, [(0, .ref 5), (1, .int 2), (2, .int 0)], [.long (-1), .long 0, .long 0, .int 2, .ref 7], g0_4 (pg xs) 0 b c d, 0, 0)) rfl ?_
  refine pm_go (g := (44, [(0, .ref 5), (1, .int 2), (2, .int 0)], [.long (-1), .long 0, .int 2, .ref 7], g0_4 (pg xs) 0 b c d, 0, 0)) rfl ?_
  refine pm_go (g := (45, [(0, .ref 5), (1, .int 2), (2, .int 0)], [.long 0, .int 2, .ref 7], g0_4 (pg xs) 0 b c d, 0, 0)) rfl ?_
  refine pm_go (g := (46, [(0, .ref 5), (1, .int 2), (2, .int 0)], [], g0_5 (pg xs) 0 b c d, 0, 0)) rfl ?_
  refine pm_ret rfl ?_
  show pm_WP 91 (31, [(2, .int 2), (0, .ref 1), (1, .int 0)], [], g0_5 (pg xs) 0 b c d, 0, 0) _
  refine pm_go (g := (32, [(2, .int 2), (0, .ref 1), (1, .int 0)], [.int 2], g0_5 (pg xs) 0 b c d, 0, 0)) rfl ?_
  refine pm_ret rfl ?_
  show pm_WP 0 (157, [(3, .int 0), (2, .ref 25), (1, .ref 1), (0, .ref 0)], [.int 2], g0_5 (pg xs) 0 b c d, 599951, 7298500) _
  refine pm_go (g := (158, [(3, .int 0), (2, .ref 25), (1, .ref 1), (0, .ref 0)], [.ref 25, .int 2], g0_5 (pg xs) 0 b c d, 599951, 7298500)) rfl ?_
  refine pm_go (g := (159, [(3, .int 0), (2, .ref 25), (1, .ref 1), (0, .ref 0)], [.ref 0, .ref 25, .int 2], g0_5 (pg xs) 0 b c d, 599951, 7298500)) rfl ?_
  refine pm_go (g := (160, [(3, .int 0), (2, .ref 25), (1, .ref 1), (0, .ref 0)], [.int 0, .ref 0, .ref 25, .int 2], g0_5 (pg xs) 0 b c d, 599951, 7298500)) rfl ?_
  refine pm_go (g := (161, [(3, .int 0), (2, .ref 25), (1, .ref 1), (0, .ref 0)], [.int 1, .int 0, .ref 0, .ref 25, .int 2], g0_5 (pg xs) 0 b c d, 599951, 7298500)) rfl ?_
  refine pm_go (g := (162, [(3, .int 0), (2, .ref 25), (1, .ref 1), (0, .ref 0)], [.int 1, .ref 0, .ref 25, .int 2], g0_5 (pg xs) 0 b c d, 599951, 7298500)) rfl ?_
  refine pm_go (g := (163, [(3, .int 0), (2, .ref 25), (1, .ref 1), (0, .ref 0)], [.int (xs 1), .ref 25, .int 2], g0_5 (pg xs) 0 b c d, 599951, 7298500)) rfl ?_
  rw [← ea]
  refine pm_callD (z := 134) (as := [.ref 25, .int 0]) (rest := [.int 2]) rfl ?_
  show pm_WP 134 (0, [(0, .ref 25), (1, .int 0)], [], g0_5 (pg xs) 0 b c d, 0, 0) _
  refine pm_go (g := (1, [(0, .ref 25), (1, .int 0)], [.ref 25], g0_5 (pg xs) 0 b c d, 0, 0)) rfl ?_
  refine pm_go (g := (2, [(0, .ref 25), (1, .int 0)], [.int 0, .ref 25], g0_5 (pg xs) 0 b c d, 0, 0)) rfl ?_
  refine pm_callD (z := 130) (as := [.ref 25, .int 0]) (rest := []) rfl ?_
  show pm_WP 130 (0, [(0, .ref 25), (1, .int 0)], [], g0_5 (pg xs) 0 b c d, 0, 0) _
  refine pm_go (g := (1, [(0, .ref 25), (1, .int 0)], [.ref 25], g0_5 (pg xs) 0 b c d, 0, 0)) rfl ?_
  refine pm_go (g := (2, [(0, .ref 25), (1, .int 0)], [.int 0, .ref 25], g0_5 (pg xs) 0 b c d, 0, 0)) rfl ?_
  refine pm_callD (z := 129) (as := [.ref 25, .int 0]) (rest := []) rfl ?_
  show pm_WP 129 (0, [(0, .ref 25), (1, .int 0)], [], g0_5 (pg xs) 0 b c d, 0, 0) _
  refine pm_go (g := (1, [(0, .ref 25), (1, .int 0)], [.int 0], g0_5 (pg xs) 0 b c d, 0, 0)) rfl ?_
  refine pm_go (g := (2, [(0, .ref 25), (1, .int 0)], [.int 0, .int 0], g0_5 (pg xs) 0 b c d, 0, 0)) rfl ?_
  refine pm_go (g := (3, [(0, .ref 25), (1, .int 0)], [.ref 25, .int 0, .int 0], g0_5 (pg xs) 0 b c d, 0, 0)) rfl ?_
  refine pm_go (g := (6, [(0, .ref 25), (1, .int 0)], [.int 2, .int 0, .int 0], g0_5 (pg xs) 0 b c d, 0, 0)) rfl ?_
  refine pm_go (g := (7, [(0, .ref 25), (1, .int 0)], [.int 1, .int 2, .int 0, .int 0], g0_5 (pg xs) 0 b c d, 0, 0)) rfl ?_
  refine pm_go (g := (8, [(0, .ref 25), (1, .int 0)], [.int 1, .int 0, .int 0], g0_5 (pg xs) 0 b c d, 0, 0)) rfl ?_
  refine pm_callD (z := 128) (as := [.int 0, .int 0, .int 1]) (rest := []) rfl ?_
  show pm_WP 128 (0, [(0, .int 0), (1, .int 0), (2, .int 1)], [], g0_5 (pg xs) 0 b c d, 0, 0) _
  refine pm_go (g := (1, [(0, .int 0), (1, .int 0), (2, .int 1)], [.int 0], g0_5 (pg xs) 0 b c d, 0, 0)) rfl ?_
  refine pm_go (g := (2, [(0, .int 0), (1, .int 0), (2, .int 1)], [.int 0, .int 0], g0_5 (pg xs) 0 b c d, 0, 0)) rfl ?_
  refine pm_brF (h := (5, [(0, .int 0), (1, .int 0), (2, .int 1)], [], g0_5 (pg xs) 0 b c d, 0, 0)) rfl ?_
  refine pm_go (g := (6, [(0, .int 0), (1, .int 0), (2, .int 1)], [.int 0], g0_5 (pg xs) 0 b c d, 0, 0)) rfl ?_
  refine pm_go (g := (7, [(0, .int 0), (1, .int 0), (2, .int 1)], [.int 1, .int 0], g0_5 (pg xs) 0 b c d, 0, 0)) rfl ?_
  refine pm_brF (h := (10, [(0, .int 0), (1, .int 0), (2, .int 1)], [], g0_5 (pg xs) 0 b c d, 0, 0)) rfl ?_
  refine pm_go (g := (11, [(0, .int 0), (1, .int 0), (2, .int 1)], [.int 1], g0_5 (pg xs) 0 b c d, 0, 0)) rfl ?_
  refine pm_go (g := (15, [(0, .int 0), (1, .int 0), (2, .int 1)], [.int 1], g0_5 (pg xs) 0 b c d, 0, 0)) rfl ?_
  refine pm_ret rfl ?_
  show pm_WP 129 (11, [(0, .ref 25), (1, .int 0)], [.int 1], g0_5 (pg xs) 0 b c d, 0, 0) _
  refine pm_ret rfl ?_
  show pm_WP 130 (5, [(0, .ref 25), (1, .int 0)], [.int 1], g0_5 (pg xs) 0 b c d, 0, 0) _
  refine pm_brF (h := (8, [(0, .ref 25), (1, .int 0)], [], g0_5 (pg xs) 0 b c d, 0, 0)) rfl ?_
  refine pm_go (g := (9, [(0, .ref 25), (1, .int 0)], [.int 0], g0_5 (pg xs) 0 b c d, 0, 0)) rfl ?_
  refine pm_go (g := (10, [(0, .ref 25), (1, .int 0)], [.int 1, .int 0], g0_5 (pg xs) 0 b c d, 0, 0)) rfl ?_
  refine pm_brF (h := (13, [(0, .ref 25), (1, .int 0)], [], g0_5 (pg xs) 0 b c d, 0, 0)) rfl ?_
  refine pm_go (g := (14, [(0, .ref 25), (1, .int 0)], [.int 1], g0_5 (pg xs) 0 b c d, 0, 0)) rfl ?_
  refine pm_go (g := (18, [(0, .ref 25), (1, .int 0)], [.int 1], g0_5 (pg xs) 0 b c d, 0, 0)) rfl ?_
  refine pm_ret rfl ?_
  show pm_WP 134 (5, [(0, .ref 25), (1, .int 0)], [.int 1], g0_5 (pg xs) 0 b c d, 0, 0) _
  refine pm_brT (g := (10, [(0, .ref 25), (1, .int 0)], [], g0_5 (pg xs) 0 b c d, 0, 0)) rfl ?_
  refine pm_go (g := (11, [(0, .ref 25), (1, .int 0)], [.ref 25], g0_5 (pg xs) 0 b c d, 0, 0)) rfl ?_
  refine pm_go (g := (14, [(0, .ref 25), (1, .int 0)], [.int 2], g0_5 (pg xs) 0 b c d, 0, 0)) rfl ?_
  refine pm_go (g := (16, [(0, .ref 25), (1, .int 0)], [.int 10, .int 2], g0_5 (pg xs) 0 b c d, 0, 0)) rfl ?_
  refine pm_brT (g := (22, [(0, .ref 25), (1, .int 0)], [], g0_5 (pg xs) 0 b c d, 0, 0)) rfl ?_
  refine pm_go (g := (23, [(0, .ref 25), (1, .int 0)], [.ref 25], g0_5 (pg xs) 0 b c d, 0, 0)) rfl ?_
  refine pm_go (g := (26, [(0, .ref 25), (1, .int 0)], [.ref 26], g0_5 (pg xs) 0 b c d, 0, 0)) rfl ?_
  refine pm_go (g := (27, [(0, .ref 25), (1, .int 0)], [.ref 25, .ref 26], g0_5 (pg xs) 0 b c d, 0, 0)) rfl ?_
  refine pm_go (g := (30, [(0, .ref 25), (1, .int 0)], [.int 2, .ref 26], g0_5 (pg xs) 0 b c d, 0, 0)) rfl ?_
  refine pm_go (g := (31, [(0, .ref 25), (1, .int 0)], [.int 0, .int 2, .ref 26], g0_5 (pg xs) 0 b c d, 0, 0)) rfl ?_
  refine pm_go (g := (32, [(0, .ref 25), (1, .int 0)], [], g0_6 (pg xs) 0 b c d, 0, 0)) rfl ?_
  refine pm_go (g := (33, [(0, .ref 25), (1, .int 0)], [.ref 25], g0_6 (pg xs) 0 b c d, 0, 0)) rfl ?_
  refine pm_go (g := (34, [(0, .ref 25), (1, .int 0)], [.ref 25, .ref 25], g0_6 (pg xs) 0 b c d, 0, 0)) rfl ?_
  refine pm_go (g := (37, [(0, .ref 25), (1, .int 0)], [.int 2, .ref 25], g0_6 (pg xs) 0 b c d, 0, 0)) rfl ?_
  refine pm_go (g := (38, [(0, .ref 25), (1, .int 0)], [.int 1, .int 2, .ref 25], g0_6 (pg xs) 0 b c d, 0, 0)) rfl ?_
  refine pm_go (g := (39, [(0, .ref 25), (1, .int 0)], [.int 3, .ref 25], g0_6 (pg xs) 0 b c d, 0, 0)) rfl ?_
  refine pm_go (g := (42, [(0, .ref 25), (1, .int 0)], [], g0_7 (pg xs) 0 b c d, 0, 0)) rfl ?_
  refine pm_go (g := (43, [(0, .ref 25), (1, .int 0)], [.ref 25], g0_7 (pg xs) 0 b c d, 0, 0)) rfl ?_
  refine pm_go (g := (46, [(0, .ref 25), (1, .int 0)], [.int 3], g0_7 (pg xs) 0 b c d, 0, 0)) rfl ?_
  refine pm_go (g := (47, [(0, .ref 25), (1, .int 0)], [.int 1, .int 3], g0_7 (pg xs) 0 b c d, 0, 0)) rfl ?_
  refine pm_go (g := (48, [(0, .ref 25), (1, .int 0)], [.int 2], g0_7 (pg xs) 0 b c d, 0, 0)) rfl ?_
  refine pm_ret rfl ?_
  show pm_WP 0 (166, [(3, .int 0), (2, .ref 25), (1, .ref 1), (0, .ref 0)], [.int 2, .int 2], g0_7 (pg xs) 0 b c d, 599951, 7298500) _
  refine pm_brT (g := (873, [(3, .int 0), (2, .ref 25), (1, .ref 1), (0, .ref 0)], [], g0_7 (pg xs) 0 b c d, 599951, 7298500)) rfl ?_
  refine pm_go (g := (876, [(3, .int 5), (2, .ref 25), (1, .ref 1), (0, .ref 0)], [], g0_7 (pg xs) 0 b c d, 599951, 7298500)) rfl ?_
  refine pm_go (g := (18, [(3, .int 5), (2, .ref 25), (1, .ref 1), (0, .ref 0)], [], g0_7 (pg xs) 0 b c d, 599951, 7298500)) rfl ?_
  refine pm_go (g := (19, [(3, .int 5), (2, .ref 25), (1, .ref 1), (0, .ref 0)], [.int 5], g0_7 (pg xs) 0 b c d, 599951, 7298500)) rfl ?_
  refine pm_go (g := (20, [(3, .int 5), (2, .ref 25), (1, .ref 1), (0, .ref 0)], [.ref 0, .int 5], g0_7 (pg xs) 0 b c d, 599951, 7298500)) rfl ?_
  refine pm_go (g := (21, [(3, .int 5), (2, .ref 25), (1, .ref 1), (0, .ref 0)], [.int 5, .int 5], g0_7 (pg xs) 0 b c d, 599951, 7298500)) rfl ?_
  refine pm_go (g := (22, [(3, .int 5), (2, .ref 25), (1, .ref 1), (0, .ref 0)], [.int 5, .int 5, .int 5], g0_7 (pg xs) 0 b c d, 599951, 7298500)) rfl ?_
  refine pm_go (g := (23, [(3, .int 5), (2, .ref 25), (1, .ref 1), (0, .ref 0)], [.int 0, .int 5], g0_7 (pg xs) 0 b c d, 599951, 7298500)) rfl ?_
  refine pm_brT (g := (879, [(3, .int 5), (2, .ref 25), (1, .ref 1), (0, .ref 0)], [], g0_7 (pg xs) 0 b c d, 599951, 7298500)) rfl ?_
  refine pm_go (g := (880, [(3, .int 5), (2, .ref 25), (1, .ref 1), (0, .ref 0)], [.int 1], g0_7 (pg xs) 0 b c d, 599951, 7298500)) rfl ?_
  exact pm_ret rfl rfl
