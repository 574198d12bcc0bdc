def g3_0 (g : pm_C) (a : Int32) (b : Int32) (c : Int32) (d : Int32) : pm_H := [g, .inr (11, [.ref 2, .ref 5, .ref 9, .ref 12, .ref 16, .ref 18, .ref 20, .int 0, .ref 21, .int 0, .ref 22, .int 0, .ref 23, .int 0, .ref 24, .int 0, .int 0]), .inr (9, [.ref 3, .ref 4, .int 2]), .inl (0, 10, .inl (upd (upd (fun _ => 0) (0) (-1)) (1) 0)), .inl (0, 31, .inl (upd (upd (upd (upd (upd (upd (upd (fun _ => 0) (0) 1) (1) 3) (10) 1024) (11) 2048) (20) 1048577) (21) 3145729) (30) 1073741825)), .inr (4, [.ref 2, .ref 6, .int 0, .ref 7, .ref 8, .long 0, .long 0, .long 0]), .inl (6, 40, .inr (.inr (.inr (.inr (fun _ => none))))), .inl (1, 10, .inr (.inl (fun _ => 0))), .inl (1, 7, .inr (.inl (fun _ => 0))), .inr (2, [.ref 2, .ref 5, .ref 10, .ref 11, .null, .int 0]), .inr (6, [.ref 2, .ref 5, .null, .int 0, .long 0, .int 0, .null]), .inr (6, [.ref 2, .ref 5, .null, .int 0, .long 0, .int 0, .null]), .inr (7, [.ref 13, .ref 14, .ref 15, .int 0]), .inl (0, 61, .inl (fun _ => 0)), .inl (0, 61, .inl (fun _ => 0)), .inl (0, 1220, .inl (fun _ => 0)), .inr (0, [.ref 5, .ref 12, .ref 17, .int 0, .int 0, .null]), .inl (0, 3, .inl (fun _ => 0)), .inr (8, [.ref 19, .int 0, .int 0]), .inl (0, 50, .inl (fun _ => 0)), .inl (0, 3, .inl (fun _ => 0)), .inl (4, 10, .inr (.inr (.inr (.inr (fun _ => none))))), .inl (8, 30, .inr (.inr (.inr (.inr (fun _ => none))))), .inl (13, 30, .inr (.inr (.inr (.inr (fun _ => none))))), .inl (0, 3, .inl (fun _ => 0)), .inr (12, [.int 2, .ref 26, .ref 27, .int 0, .int 0, .ref 28, .ref 29, .ref 30, .ref 31, .ref 32, .ref 33, .int 0, .ref 34, .ref 35, .ref 36, .int 0, .ref 37, .ref 38, .ref 39, .int 0, .ref 40, .ref 41, .ref 42, .int 0, .ref 43, .ref 44, .ref 45, .ref 46, .int 0, .ref 47, .int 0, .int 0, .ref 48, .int 0, .int 0, .int 0, .int 0, .int 0, .ref 49]), .inl (0, 10, .inl (upd (upd (fun _ => 0) (0) (-4)) (1) 0)), .inl (0, 3, .inl (fun _ => 0)), .inl (0, 40, .inl (fun _ => 0)), .inl (0, 40, .inl (fun _ => 0)), .inl (0, 40, .inl (fun _ => 0)), .inl (0, 40, .inl (fun _ => 0)), .inl (0, 40, .inl (fun _ => 0)), .inl (0, 120, .inl (fun _ => 0)), .inl (0, 10, .inl (fun _ => 0)), .inl (0, 30, .inl (fun _ => 0)), .inl (0, 10, .inl (fun _ => 0)), .inl (0, 30, .inl (fun _ => 0)), .inl (0, 30, .inl (fun _ => 0)), .inl (0, 30, .inl (fun _ => 0)), .inl (0, 61, .inl (fun _ => 0)), .inl (0, 61, .inl (fun _ => 0)), .inl (0, 1300, .inl (fun _ => 0)), .inl (0, 30, .inl (fun _ => 0)), .inl (0, 30, .inl (fun _ => 0)), .inl (0, 30, .inl (fun _ => 0)), .inl (0, 3, .inl (fun _ => 0)), .inl (0, 50, .inl (fun _ => 0)), .inl (2, 40, .inl (fun _ => 0)), .inl (0, 3, .inl (fun _ => 0))]
def g3_1 (g : pm_C) (a : Int32) (b : Int32) (c : Int32) (d : Int32) : pm_H := [g, .inr (11, [.ref 2, .ref 5, .ref 9, .ref 12, .ref 16, .ref 18, .ref 20, .int 0, .ref 21, .int 0, .ref 22, .int 0, .ref 23, .int 0, .ref 24, .int 0, .int 0]), .inr (9, [.ref 3, .ref 4, .int 2]), .inl (0, 10, .inl (upd (upd (fun _ => 0) (0) (-1)) (1) 0)), .inl (0, 31, .inl (upd (upd (upd (upd (upd (upd (upd (fun _ => 0) (0) 1) (1) 3) (10) 1024) (11) 2048) (20) 1048577) (21) 3145729) (30) 1073741825)), .inr (4, [.ref 2, .ref 6, .int 0, .ref 7, .ref 8, .long 0, .long 0, .long 0]), .inl (6, 40, .inr (.inr (.inr (.inr (fun _ => none))))), .inl (1, 10, .inr (.inl (fun _ => 0))), .inl (1, 7, .inr (.inl (fun _ => 0))), .inr (2, [.ref 2, .ref 5, .ref 10, .ref 11, .null, .int 0]), .inr (6, [.ref 2, .ref 5, .null, .int 0, .long 0, .int 0, .null]), .inr (6, [.ref 2, .ref 5, .null, .int 0, .long 0, .int 0, .null]), .inr (7, [.ref 13, .ref 14, .ref 15, .int 0]), .inl (0, 61, .inl (fun _ => 0)), .inl (0, 61, .inl (fun _ => 0)), .inl (0, 1220, .inl (fun _ => 0)), .inr (0, [.ref 5, .ref 12, .ref 17, .int 0, .int 0, .null]), .inl (0, 3, .inl (fun _ => 0)), .inr (8, [.ref 19, .int 0, .int 0]), .inl (0, 50, .inl (fun _ => 0)), .inl (0, 3, .inl (upd (fun _ => 0) (0) a)), .inl (4, 10, .inr (.inr (.inr (.inr (fun _ => none))))), .inl (8, 30, .inr (.inr (.inr (.inr (fun _ => none))))), .inl (13, 30, .inr (.inr (.inr (.inr (fun _ => none))))), .inl (0, 3, .inl (fun _ => 0)), .inr (12, [.int 2, .ref 26, .ref 27, .int 0, .int 0, .ref 28, .ref 29, .ref 30, .ref 31, .ref 32, .ref 33, .int 0, .ref 34, .ref 35, .ref 36, .int 0, .ref 37, .ref 38, .ref 39, .int 0, .ref 40, .ref 41, .ref 42, .int 0, .ref 43, .ref 44, .ref 45, .ref 46, .int 0, .ref 47, .int 0, .int 0, .ref 48, .int 0, .int 0, .int 0, .int 0, .int 0, .ref 49]), .inl (0, 10, .inl (upd (upd (fun _ => 0) (0) (-4)) (1) 0)), .inl (0, 3, .inl (fun _ => 0)), .inl (0, 40, .inl (fun _ => 0)), .inl (0, 40, .inl (fun _ => 0)), .inl (0, 40, .inl (fun _ => 0)), .inl (0, 40, .inl (fun _ => 0)), .inl (0, 40, .inl (fun _ => 0)), .inl (0, 120, .inl (fun _ => 0)), .inl (0, 10, .inl (fun _ => 0)), .inl (0, 30, .inl (fun _ => 0)), .inl (0, 10, .inl (fun _ => 0)), .inl (0, 30, .inl (fun _ => 0)), .inl (0, 30, .inl (fun _ => 0)), .inl (0, 30, .inl (fun _ => 0)), .inl (0, 61, .inl (fun _ => 0)), .inl (0, 61, .inl (fun _ => 0)), .inl (0, 1300, .inl (fun _ => 0)), .inl (0, 30, .inl (fun _ => 0)), .inl (0, 30, .inl (fun _ => 0)), .inl (0, 30, .inl (fun _ => 0)), .inl (0, 3, .inl (fun _ => 0)), .inl (0, 50, .inl (fun _ => 0)), .inl (2, 40, .inl (fun _ => 0)), .inl (0, 3, .inl (fun _ => 0))]
def g3_2 (g : pm_C) (a : Int32) (b : Int32) (c : Int32) (d : Int32) : pm_H := [g, .inr (11, [.ref 2, .ref 5, .ref 9, .ref 12, .ref 16, .ref 18, .ref 20, .int 1, .ref 21, .int 0, .ref 22, .int 0, .ref 23, .int 0, .ref 24, .int 0, .int 0]), .inr (9, [.ref 3, .ref 4, .int 2]), .inl (0, 10, .inl (upd (upd (fun _ => 0) (0) (-1)) (1) 0)), .inl (0, 31, .inl (upd (upd (upd (upd (upd (upd (upd (fun _ => 0) (0) 1) (1) 3) (10) 1024) (11) 2048) (20) 1048577) (21) 3145729) (30) 1073741825)), .inr (4, [.ref 2, .ref 6, .int 0, .ref 7, .ref 8, .long 0, .long 0, .long 0]), .inl (6, 40, .inr (.inr (.inr (.inr (fun _ => none))))), .inl (1, 10, .inr (.inl (fun _ => 0))), .inl (1, 7, .inr (.inl (fun _ => 0))), .inr (2, [.ref 2, .ref 5, .ref 10, .ref 11, .null, .int 0]), .inr (6, [.ref 2, .ref 5, .null, .int 0, .long 0, .int 0, .null]), .inr (6, [.ref 2, .ref 5, .null, .int 0, .long 0, .int 0, .null]), .inr (7, [.ref 13, .ref 14, .ref 15, .int 0]), .inl (0, 61, .inl (fun _ => 0)), .inl (0, 61, .inl (fun _ => 0)), .inl (0, 1220, .inl (fun _ => 0)), .inr (0, [.ref 5, .ref 12, .ref 17, .int 0, .int 0, .null]), .inl (0, 3, .inl (fun _ => 0)), .inr (8, [.ref 19, .int 0, .int 0]), .inl (0, 50, .inl (fun _ => 0)), .inl (0, 3, .inl (upd (fun _ => 0) (0) a)), .inl (4, 10, .inr (.inr (.inr (.inr (fun _ => none))))), .inl (8, 30, .inr (.inr (.inr (.inr (fun _ => none))))), .inl (13, 30, .inr (.inr (.inr (.inr (fun _ => none))))), .inl (0, 3, .inl (fun _ => 0)), .inr (12, [.int 2, .ref 26, .ref 27, .int 0, .int 0, .ref 28, .ref 29, .ref 30, .ref 31, .ref 32, .ref 33, .int 0, .ref 34, .ref 35, .ref 36, .int 0, .ref 37, .ref 38, .ref 39, .int 0, .ref 40, .ref 41, .ref 42, .int 0, .ref 43, .ref 44, .ref 45, .ref 46, .int 0, .ref 47, .int 0, .int 0, .ref 48, .int 0, .int 0, .int 0, .int 0, .int 0, .ref 49]), .inl (0, 10, .inl (upd (upd (fun _ => 0) (0) (-4)) (1) 0)), .inl (0, 3, .inl (fun _ => 0)), .inl (0, 40, .inl (fun _ => 0)), .inl (0, 40, .inl (fun _ => 0)), .inl (0, 40, .inl (fun _ => 0)), .inl (0, 40, .inl (fun _ => 0)), .inl (0, 40, .inl (fun _ => 0)), .inl (0, 120, .inl (fun _ => 0)), .inl (0, 10, .inl (fun _ => 0)), .inl (0, 30, .inl (fun _ => 0)), .inl (0, 10, .inl (fun _ => 0)), .inl (0, 30, .inl (fun _ => 0)), .inl (0, 30, .inl (fun _ => 0)), .inl (0, 30, .inl (fun _ => 0)), .inl (0, 61, .inl (fun _ => 0)), .inl (0, 61, .inl (fun _ => 0)), .inl (0, 1300, .inl (fun _ => 0)), .inl (0, 30, .inl (fun _ => 0)), .inl (0, 30, .inl (fun _ => 0)), .inl (0, 30, .inl (fun _ => 0)), .inl (0, 3, .inl (fun _ => 0)), .inl (0, 50, .inl (fun _ => 0)), .inl (2, 40, .inl (fun _ => 0)), .inl (0, 3, .inl (fun _ => 0))]
def g3_3 (g : pm_C) (a : Int32) (b : Int32) (c : Int32) (d : Int32) : pm_H := [g, .inr (11, [.ref 2, .ref 5, .ref 9, .ref 12, .ref 16, .ref 18, .ref 20, .int 1, .ref 21, .int 0, .ref 22, .int 0, .ref 23, .int 0, .ref 24, .int 0, .int 0]), .inr (9, [.ref 3, .ref 4, .int 2]), .inl (0, 10, .inl (upd (upd (fun _ => 0) (0) (-1)) (1) 0)), .inl (0, 31, .inl (upd (upd (upd (upd (upd (upd (upd (fun _ => 0) (0) 1) (1) 3) (10) 1024) (11) 2048) (20) 1048577) (21) 3145729) (30) 1073741825)), .inr (4, [.ref 2, .ref 6, .int 0, .ref 7, .ref 8, .long 0, .long 0, .long 0]), .inl (6, 40, .inr (.inr (.inr (.inr (fun _ => none))))), .inl (1, 10, .inr (.inl (fun _ => 0))), .inl (1, 7, .inr (.inl (fun _ => 0))), .inr (2, [.ref 2, .ref 5, .ref 10, .ref 11, .null, .int 0]), .inr (6, [.ref 2, .ref 5, .null, .int 0, .long 0, .int 0, .null]), .inr (6, [.ref 2, .ref 5, .null, .int 0, .long 0, .int 0, .null]), .inr (7, [.ref 13, .ref 14, .ref 15, .int 0]), .inl (0, 61, .inl (fun _ => 0)), .inl (0, 61, .inl (fun _ => 0)), .inl (0, 1220, .inl (fun _ => 0)), .inr (0, [.ref 5, .ref 12, .ref 17, .int 0, .int 0, .null]), .inl (0, 3, .inl (fun _ => 0)), .inr (8, [.ref 19, .int 0, .int 0]), .inl (0, 50, .inl (fun _ => 0)), .inl (0, 3, .inl (upd (fun _ => 0) (0) 10)), .inl (4, 10, .inr (.inr (.inr (.inr (fun _ => none))))), .inl (8, 30, .inr (.inr (.inr (.inr (fun _ => none))))), .inl (13, 30, .inr (.inr (.inr (.inr (fun _ => none))))), .inl (0, 3, .inl (fun _ => 0)), .inr (12, [.int 2, .ref 26, .ref 27, .int 0, .int 0, .ref 28, .ref 29, .ref 30, .ref 31, .ref 32, .ref 33, .int 0, .ref 34, .ref 35, .ref 36, .int 0, .ref 37, .ref 38, .ref 39, .int 0, .ref 40, .ref 41, .ref 42, .int 0, .ref 43, .ref 44, .ref 45, .ref 46, .int 0, .ref 47, .int 0, .int 0, .ref 48, .int 0, .int 0, .int 0, .int 0, .int 0, .ref 49]), .inl (0, 10, .inl (upd (upd (fun _ => 0) (0) (-4)) (1) 0)), .inl (0, 3, .inl (fun _ => 0)), .inl (0, 40, .inl (fun _ => 0)), .inl (0, 40, .inl (fun _ => 0)), .inl (0, 40, .inl (fun _ => 0)), .inl (0, 40, .inl (fun _ => 0)), .inl (0, 40, .inl (fun _ => 0)), .inl (0, 120, .inl (fun _ => 0)), .inl (0, 10, .inl (fun _ => 0)), .inl (0, 30, .inl (fun _ => 0)), .inl (0, 10, .inl (fun _ => 0)), .inl (0, 30, .inl (fun _ => 0)), .inl (0, 30, .inl (fun _ => 0)), .inl (0, 30, .inl (fun _ => 0)), .inl (0, 61, .inl (fun _ => 0)), .inl (0, 61, .inl (fun _ => 0)), .inl (0, 1300, .inl (fun _ => 0)), .inl (0, 30, .inl (fun _ => 0)), .inl (0, 30, .inl (fun _ => 0)), .inl (0, 30, .inl (fun _ => 0)), .inl (0, 3, .inl (fun _ => 0)), .inl (0, 50, .inl (fun _ => 0)), .inl (2, 40, .inl (fun _ => 0)), .inl (0, 3, .inl (fun _ => 0))]
def g3_4 (g : pm_C) (a : Int32) (b : Int32) (c : Int32) (d : Int32) : pm_H := [g, .inr (11, [.ref 2, .ref 5, .ref 9, .ref 12, .ref 16, .ref 18, .ref 20, .int 1, .ref 21, .int 0, .ref 22, .int 0, .ref 23, .int 0, .ref 24, .int 0, .int 0]), .inr (9, [.ref 3, .ref 4, .int 2]), .inl (0, 10, .inl (upd (upd (fun _ => 0) (0) (-1)) (1) 0)), .inl (0, 31, .inl (upd (upd (upd (upd (upd (upd (upd (fun _ => 0) (0) 1) (1) 3) (10) 1024) (11) 2048) (20) 1048577) (21) 3145729) (30) 1073741825)), .inr (4, [.ref 2, .ref 6, .int 0, .ref 7, .ref 8, .long 0, .long 0, .long 0]), .inl (6, 40, .inr (.inr (.inr (.inr (fun _ => none))))), .inl (1, 10, .inr (.inl (fun _ => 0))), .inl (1, 7, .inr (.inl (fun _ => 0))), .inr (2, [.ref 2, .ref 5, .ref 10, .ref 11, .null, .int 0]), .inr (6, [.ref 2, .ref 5, .null, .int 0, .long 0, .int 0, .null]), .inr (6, [.ref 2, .ref 5, .null, .int 0, .long 0, .int 0, .null]), .inr (7, [.ref 13, .ref 14, .ref 15, .int 0]), .inl (0, 61, .inl (fun _ => 0)), .inl (0, 61, .inl (fun _ => 0)), .inl (0, 1220, .inl (fun _ => 0)), .inr (0, [.ref 5, .ref 12, .ref 17, .int 0, .int 0, .null]), .inl (0, 3, .inl (fun _ => 0)), .inr (8, [.ref 19, .int 0, .int 0]), .inl (0, 50, .inl (fun _ => 0)), .inl (0, 3, .inl (upd (fun _ => 0) (0) 10)), .inl (4, 10, .inr (.inr (.inr (.inr (fun _ => none))))), .inl (8, 30, .inr (.inr (.inr (.inr (fun _ => none))))), .inl (13, 30, .inr (.inr (.inr (.inr (fun _ => none))))), .inl (0, 3, .inl (fun _ => 0)), .inr (12, [.int 2, .ref 26, .ref 27, .int 0, .int 0, .ref 28, .ref 29, .ref 30, .ref 31, .ref 32, .ref 33, .int 0, .ref 34, .ref 35, .ref 36, .int 0, .ref 37, .ref 38, .ref 39, .int 0, .ref 40, .ref 41, .ref 42, .int 0, .ref 43, .ref 44, .ref 45, .ref 46, .int 0, .ref 47, .int 0, .int 0, .ref 48, .int 0, .int 0, .int 0, .int 0, .int 0, .ref 49]), .inl (0, 10, .inl (upd (upd (fun _ => 0) (0) (-4)) (1) 0)), .inl (0, 3, .inl (upd (fun _ => 0) (0) 10)), .inl (0, 40, .inl (fun _ => 0)), .inl (0, 40, .inl (fun _ => 0)), .inl (0, 40, .inl (fun _ => 0)), .inl (0, 40, .inl (fun _ => 0)), .inl (0, 40, .inl (fun _ => 0)), .inl (0, 120, .inl (fun _ => 0)), .inl (0, 10, .inl (fun _ => 0)), .inl (0, 30, .inl (fun _ => 0)), .inl (0, 10, .inl (fun _ => 0)), .inl (0, 30, .inl (fun _ => 0)), .inl (0, 30, .inl (fun _ => 0)), .inl (0, 30, .inl (fun _ => 0)), .inl (0, 61, .inl (fun _ => 0)), .inl (0, 61, .inl (fun _ => 0)), .inl (0, 1300, .inl (fun _ => 0)), .inl (0, 30, .inl (fun _ => 0)), .inl (0, 30, .inl (fun _ => 0)), .inl (0, 30, .inl (fun _ => 0)), .inl (0, 3, .inl (fun _ => 0)), .inl (0, 50, .inl (fun _ => 0)), .inl (2, 40, .inl (fun _ => 0)), .inl (0, 3, .inl (fun _ => 0))]
def g3_5 (g : pm_C) (a : Int32) (b : Int32) (c : Int32) (d : Int32) : pm_H := [g, .inr (11, [.ref 2, .ref 5, .ref 9, .ref 12, .ref 16, .ref 18, .ref 20, .int 1, .ref 21, .int 0, .ref 22, .int 0, .ref 23, .int 0, .ref 24, .int 0, .int 0]), .inr (9, [.ref 3, .ref 4, .int 2]), .inl (0, 10, .inl (upd (upd (fun _ => 0) (0) (-1)) (1) 0)), .inl (0, 31, .inl (upd (upd (upd (upd (upd (upd (upd (fun _ => 0) (0) 1) (1) 3) (10) 1024) (11) 2048) (20) 1048577) (21) 3145729) (30) 1073741825)), .inr (4, [.ref 2, .ref 6, .int 0, .ref 7, .ref 8, .long 0, .long 0, .long 0]), .inl (6, 40, .inr (.inr (.inr (.inr (fun _ => none))))), .inl (1, 10, .inr (.inl (fun _ => 0))), .inl (1, 7, .inr (.inl (fun _ => 0))), .inr (2, [.ref 2, .ref 5, .ref 10, .ref 11, .null, .int 0]), .inr (6, [.ref 2, .ref 5, .null, .int 0, .long 0, .int 0, .null]), .inr (6, [.ref 2, .ref 5, .null, .int 0, .long 0, .int 0, .null]), .inr (7, [.ref 13, .ref 14, .ref 15, .int 0]), .inl (0, 61, .inl (fun _ => 0)), .inl (0, 61, .inl (fun _ => 0)), .inl (0, 1220, .inl (fun _ => 0)), .inr (0, [.ref 5, .ref 12, .ref 17, .int 0, .int 0, .null]), .inl (0, 3, .inl (fun _ => 0)), .inr (8, [.ref 19, .int 0, .int 0]), .inl (0, 50, .inl (fun _ => 0)), .inl (0, 3, .inl (upd (fun _ => 0) (0) 10)), .inl (4, 10, .inr (.inr (.inr (.inr (fun _ => none))))), .inl (8, 30, .inr (.inr (.inr (.inr (fun _ => none))))), .inl (13, 30, .inr (.inr (.inr (.inr (fun _ => none))))), .inl (0, 3, .inl (fun _ => 0)), .inr (12, [.int 2, .ref 26, .ref 27, .int 1, .int 0, .ref 28, .ref 29, .ref 30, .ref 31, .ref 32, .ref 33, .int 0, .ref 34, .ref 35, .ref 36, .int 0, .ref 37, .ref 38, .ref 39, .int 0, .ref 40, .ref 41, .ref 42, .int 0, .ref 43, .ref 44, .ref 45, .ref 46, .int 0, .ref 47, .int 0, .int 0, .ref 48, .int 0, .int 0, .int 0, .int 0, .int 0, .ref 49]), .inl (0, 10, .inl (upd (upd (fun _ => 0) (0) (-4)) (1) 0)), .inl (0, 3, .inl (upd (fun _ => 0) (0) 10)), .inl (0, 40, .inl (fun _ => 0)), .inl (0, 40, .inl (fun _ => 0)), .inl (0, 40, .inl (fun _ => 0)), .inl (0, 40, .inl (fun _ => 0)), .inl (0, 40, .inl (fun _ => 0)), .inl (0, 120, .inl (fun _ => 0)), .inl (0, 10, .inl (fun _ => 0)), .inl (0, 30, .inl (fun _ => 0)), .inl (0, 10, .inl (fun _ => 0)), .inl (0, 30, .inl (fun _ => 0)), .inl (0, 30, .inl (fun _ => 0)), .inl (0, 30, .inl (fun _ => 0)), .inl (0, 61, .inl (fun _ => 0)), .inl (0, 61, .inl (fun _ => 0)), .inl (0, 1300, .inl (fun _ => 0)), .inl (0, 30, .inl (fun _ => 0)), .inl (0, 30, .inl (fun _ => 0)), .inl (0, 30, .inl (fun _ => 0)), .inl (0, 3, .inl (fun _ => 0)), .inl (0, 50, .inl (fun _ => 0)), .inl (2, 40, .inl (fun _ => 0)), .inl (0, 3, .inl (fun _ => 0))]
def g3_6 (g : pm_C) (a : Int32) (b : Int32) (c : Int32) (d : Int32) : pm_H := [g, .inr (11, [.ref 2, .ref 5, .ref 9, .ref 12, .ref 16, .ref 18, .ref 20, .int 1, .ref 21, .int 0, .ref 22, .int 0, .ref 23, .int 0, .ref 24, .int 0, .int 0]), .inr (9, [.ref 3, .ref 4, .int 2]), .inl (0, 10, .inl (upd (upd (fun _ => 0) (0) (-1)) (1) 0)), .inl (0, 31, .inl (upd (upd (upd (upd (upd (upd (upd (fun _ => 0) (0) 1) (1) 3) (10) 1024) (11) 2048) (20) 1048577) (21) 3145729) (30) 1073741825)), .inr (4, [.ref 2, .ref 6, .int 0, .ref 7, .ref 8, .long 0, .long 0, .long 0]), .inl (6, 40, .inr (.inr (.inr (.inr (fun _ => none))))), .inl (1, 10, .inr (.inl (fun _ => 0))), .inl (1, 7, .inr (.inl (fun _ => 0))), .inr (2, [.ref 2, .ref 5, .ref 10, .ref 11, .null, .int 0]), .inr (6, [.ref 2, .ref 5, .null, .int 0, .long 0, .int 0, .null]), .inr (6, [.ref 2, .ref 5, .null, .int 0, .long 0, .int 0, .null]), .inr (7, [.ref 13, .ref 14, .ref 15, .int 0]), .inl (0, 61, .inl (fun _ => 0)), .inl (0, 61, .inl (fun _ => 0)), .inl (0, 1220, .inl (fun _ => 0)), .inr (0, [.ref 5, .ref 12, .ref 17, .int 0, .int 0, .null]), .inl (0, 3, .inl (fun _ => 0)), .inr (8, [.ref 19, .int 0, .int 0]), .inl (0, 50, .inl (fun _ => 0)), .inl (0, 3, .inl (upd (fun _ => 0) (0) 30)), .inl (4, 10, .inr (.inr (.inr (.inr (fun _ => none))))), .inl (8, 30, .inr (.inr (.inr (.inr (fun _ => none))))), .inl (13, 30, .inr (.inr (.inr (.inr (fun _ => none))))), .inl (0, 3, .inl (fun _ => 0)), .inr (12, [.int 2, .ref 26, .ref 27, .int 0, .int 0, .ref 28, .ref 29, .ref 30, .ref 31, .ref 32, .ref 33, .int 0, .ref 34, .ref 35, .ref 36, .int 0, .ref 37, .ref 38, .ref 39, .int 0, .ref 40, .ref 41, .ref 42, .int 0, .ref 43, .ref 44, .ref 45, .ref 46, .int 0, .ref 47, .int 0, .int 0, .ref 48, .int 0, .int 0, .int 0, .int 0, .int 0, .ref 49]), .inl (0, 10, .inl (upd (upd (fun _ => 0) (0) (-4)) (1) 0)), .inl (0, 3, .inl (fun _ => 0)), .inl (0, 40, .inl (fun _ => 0)), .inl (0, 40, .inl (fun _ => 0)), .inl (0, 40, .inl (fun _ => 0)), .inl (0, 40, .inl (fun _ => 0)), .inl (0, 40, .inl (fun _ => 0)), .inl (0, 120, .inl (fun _ => 0)), .inl (0, 10, .inl (fun _ => 0)), .inl (0, 30, .inl (fun _ => 0)), .inl (0, 10, .inl (fun _ => 0)), .inl (0, 30, .inl (fun _ => 0)), .inl (0, 30, .inl (fun _ => 0)), .inl (0, 30, .inl (fun _ => 0)), .inl (0, 61, .inl (fun _ => 0)), .inl (0, 61, .inl (fun _ => 0)), .inl (0, 1300, .inl (fun _ => 0)), .inl (0, 30, .inl (fun _ => 0)), .inl (0, 30, .inl (fun _ => 0)), .inl (0, 30, .inl (fun _ => 0)), .inl (0, 3, .inl (fun _ => 0)), .inl (0, 50, .inl (fun _ => 0)), .inl (2, 40, .inl (fun _ => 0)), .inl (0, 3, .inl (fun _ => 0))]
def g3_7 (g : pm_C) (a : Int32) (b : Int32) (c : Int32) (d : Int32) : pm_H := [g, .inr (11, [.ref 2, .ref 5, .ref 9, .ref 12, .ref 16, .ref 18, .ref 20, .int 1, .ref 21, .int 0, .ref 22, .int 0, .ref 23, .int 0, .ref 24, .int 0, .int 0]), .inr (9, [.ref 3, .ref 4, .int 2]), .inl (0, 10, .inl (upd (upd (fun _ => 0) (0) (-1)) (1) 0)), .inl (0, 31, .inl (upd (upd (upd (upd (upd (upd (upd (fun _ => 0) (0) 1) (1) 3) (10) 1024) (11) 2048) (20) 1048577) (21) 3145729) (30) 1073741825)), .inr (4, [.ref 2, .ref 6, .int 0, .ref 7, .ref 8, .long 0, .long 0, .long 0]), .inl (6, 40, .inr (.inr (.inr (.inr (fun _ => none))))), .inl (1, 10, .inr (.inl (fun _ => 0))), .inl (1, 7, .inr (.inl (fun _ => 0))), .inr (2, [.ref 2, .ref 5, .ref 10, .ref 11, .null, .int 0]), .inr (6, [.ref 2, .ref 5, .null, .int 0, .long 0, .int 0, .null]), .inr (6, [.ref 2, .ref 5, .null, .int 0, .long 0, .int 0, .null]), .inr (7, [.ref 13, .ref 14, .ref 15, .int 0]), .inl (0, 61, .inl (fun _ => 0)), .inl (0, 61, .inl (fun _ => 0)), .inl (0, 1220, .inl (fun _ => 0)), .inr (0, [.ref 5, .ref 12, .ref 17, .int 0, .int 0, .null]), .inl (0, 3, .inl (fun _ => 0)), .inr (8, [.ref 19, .int 0, .int 0]), .inl (0, 50, .inl (fun _ => 0)), .inl (0, 3, .inl (upd (fun _ => 0) (0) 30)), .inl (4, 10, .inr (.inr (.inr (.inr (fun _ => none))))), .inl (8, 30, .inr (.inr (.inr (.inr (fun _ => none))))), .inl (13, 30, .inr (.inr (.inr (.inr (fun _ => none))))), .inl (0, 3, .inl (fun _ => 0)), .inr (12, [.int 2, .ref 26, .ref 27, .int 0, .int 0, .ref 28, .ref 29, .ref 30, .ref 31, .ref 32, .ref 33, .int 0, .ref 34, .ref 35, .ref 36, .int 0, .ref 37, .ref 38, .ref 39, .int 0, .ref 40, .ref 41, .ref 42, .int 0, .ref 43, .ref 44, .ref 45, .ref 46, .int 0, .ref 47, .int 0, .int 0, .ref 48, .int 0, .int 0, .int 0, .int 0, .int 0, .ref 49]), .inl (0, 10, .inl (upd (upd (fun _ => 0) (0) (-4)) (1) 0)), .inl (0, 3, .inl (upd (fun _ => 0) (0) 30)), .inl (0, 40, .inl (fun _ => 0)), .inl (0, 40, .inl (fun _ => 0)), .inl (0, 40, .inl (fun _ => 0)), .inl (0, 40, .inl (fun _ => 0)), .inl (0, 40, .inl (fun _ => 0)), .inl (0, 120, .inl (fun _ => 0)), .inl (0, 10, .inl (fun _ => 0)), .inl (0, 30, .inl (fun _ => 0)), .inl (0, 10, .inl (fun _ => 0)), .inl (0, 30, .inl (fun _ => 0)), .inl (0, 30, .inl (fun _ => 0)), .inl (0, 30, .inl (fun _ => 0)), .inl (0, 61, .inl (fun _ => 0)), .inl (0, 61, .inl (fun _ => 0)), .inl (0, 1300, .inl (fun _ => 0)), .inl (0, 30, .inl (fun _ => 0)), .inl (0, 30, .inl (fun _ => 0)), .inl (0, 30, .inl (fun _ => 0)), .inl (0, 3, .inl (fun _ => 0)), .inl (0, 50, .inl (fun _ => 0)), .inl (2, 40, .inl (fun _ => 0)), .inl (0, 3, .inl (fun _ => 0))]
def g3_8 (g : pm_C) (a : Int32) (b : Int32) (c : Int32) (d : Int32) : pm_H := [g, .inr (11, [.ref 2, .ref 5, .ref 9, .ref 12, .ref 16, .ref 18, .ref 20, .int 1, .ref 21, .int 0, .ref 22, .int 0, .ref 23, .int 0, .ref 24, .int 0, .int 0]), .inr (9, [.ref 3, .ref 4, .int 2]), .inl (0, 10, .inl (upd (upd (fun _ => 0) (0) (-1)) (1) 0)), .inl (0, 31, .inl (upd (upd (upd (upd (upd (upd (upd (fun _ => 0) (0) 1) (1) 3) (10) 1024) (11) 2048) (20) 1048577) (21) 3145729) (30) 1073741825)), .inr (4, [.ref 2, .ref 6, .int 0, .ref 7, .ref 8, .long 0, .long 0, .long 0]), .inl (6, 40, .inr (.inr (.inr (.inr (fun _ => none))))), .inl (1, 10, .inr (.inl (fun _ => 0))), .inl (1, 7, .inr (.inl (fun _ => 0))), .inr (2, [.ref 2, .ref 5, .ref 10, .ref 11, .null, .int 0]), .inr (6, [.ref 2, .ref 5, .null, .int 0, .long 0, .int 0, .null]), .inr (6, [.ref 2, .ref 5, .null, .int 0, .long 0, .int 0, .null]), .inr (7, [.ref 13, .ref 14, .ref 15, .int 0]), .inl (0, 61, .inl (fun _ => 0)), .inl (0, 61, .inl (fun _ => 0)), .inl (0, 1220, .inl (fun _ => 0)), .inr (0, [.ref 5, .ref 12, .ref 17, .int 0, .int 0, .null]), .inl (0, 3, .inl (fun _ => 0)), .inr (8, [.ref 19, .int 0, .int 0]), .inl (0, 50, .inl (fun _ => 0)), .inl (0, 3, .inl (upd (fun _ => 0) (0) 30)), .inl (4, 10, .inr (.inr (.inr (.inr (fun _ => none))))), .inl (8, 30, .inr (.inr (.inr (.inr (fun _ => none))))), .inl (13, 30, .inr (.inr (.inr (.inr (fun _ => none))))), .inl (0, 3, .inl (fun _ => 0)), .inr (12, [.int 2, .ref 26, .ref 27, .int 1, .int 0, .ref 28, .ref 29, .ref 30, .ref 31, .ref 32, .ref 33, .int 0, .ref 34, .ref 35, .ref 36, .int 0, .ref 37, .ref 38, .ref 39, .int 0, .ref 40, .ref 41, .ref 42, .int 0, .ref 43, .ref 44, .ref 45, .ref 46, .int 0, .ref 47, .int 0, .int 0, .ref 48, .int 0, .int 0, .int 0, .int 0, .int 0, .ref 49]), .inl (0, 10, .inl (upd (upd (fun _ => 0) (0) (-4)) (1) 0)), .inl (0, 3, .inl (upd (fun _ => 0) (0) 30)), .inl (0, 40, .inl (fun _ => 0)), .inl (0, 40, .inl (fun _ => 0)), .inl (0, 40, .inl (fun _ => 0)), .inl (0, 40, .inl (fun _ => 0)), .inl (0, 40, .inl (fun _ => 0)), .inl (0, 120, .inl (fun _ => 0)), .inl (0, 10, .inl (fun _ => 0)), .inl (0, 30, .inl (fun _ => 0)), .inl (0, 10, .inl (fun _ => 0)), .inl (0, 30, .inl (fun _ => 0)), .inl (0, 30, .inl (fun _ => 0)), .inl (0, 30, .inl (fun _ => 0)), .inl (0, 61, .inl (fun _ => 0)), .inl (0, 61, .inl (fun _ => 0)), .inl (0, 1300, .inl (fun _ => 0)), .inl (0, 30, .inl (fun _ => 0)), .inl (0, 30, .inl (fun _ => 0)), .inl (0, 30, .inl (fun _ => 0)), .inl (0, 3, .inl (fun _ => 0)), .inl (0, 50, .inl (fun _ => 0)), .inl (2, 40, .inl (fun _ => 0)), .inl (0, 3, .inl (fun _ => 0))]
def g3_9 (g : pm_C) (a : Int32) (b : Int32) (c : Int32) (d : Int32) : pm_H := [g, .inr (11, [.ref 2, .ref 5, .ref 9, .ref 12, .ref 16, .ref 18, .ref 20, .int 1, .ref 21, .int 0, .ref 22, .int 0, .ref 23, .int 0, .ref 24, .int 0, .int 0]), .inr (9, [.ref 3, .ref 4, .int 2]), .inl (0, 10, .inl (upd (upd (fun _ => 0) (0) (-1)) (1) 0)), .inl (0, 31, .inl (upd (upd (upd (upd (upd (upd (upd (fun _ => 0) (0) 1) (1) 3) (10) 1024) (11) 2048) (20) 1048577) (21) 3145729) (30) 1073741825)), .inr (4, [.ref 2, .ref 6, .int 0, .ref 7, .ref 8, .long 0, .long 0, .long 0]), .inl (6, 40, .inr (.inr (.inr (.inr (fun _ => none))))), .inl (1, 10, .inr (.inl (fun _ => 0))), .inl (1, 7, .inr (.inl (fun _ => 0))), .inr (2, [.ref 2, .ref 5, .ref 10, .ref 11, .null, .int 0]), .inr (6, [.ref 2, .ref 5, .null, .int 0, .long 0, .int 0, .null]), .inr (6, [.ref 2, .ref 5, .null, .int 0, .long 0, .int 0, .null]), .inr (7, [.ref 13, .ref 14, .ref 15, .int 0]), .inl (0, 61, .inl (fun _ => 0)), .inl (0, 61, .inl (fun _ => 0)), .inl (0, 1220, .inl (fun _ => 0)), .inr (0, [.ref 5, .ref 12, .ref 17, .int 0, .int 0, .null]), .inl (0, 3, .inl (fun _ => 0)), .inr (8, [.ref 19, .int 0, .int 0]), .inl (0, 50, .inl (fun _ => 0)), .inl (0, 3, .inl (upd (fun _ => 0) (0) a)), .inl (4, 10, .inr (.inr (.inr (.inr (fun _ => none))))), .inl (8, 30, .inr (.inr (.inr (.inr (fun _ => none))))), .inl (13, 30, .inr (.inr (.inr (.inr (fun _ => none))))), .inl (0, 3, .inl (fun _ => 0)), .inr (12, [.int 2, .ref 26, .ref 27, .int 0, .int 0, .ref 28, .ref 29, .ref 30, .ref 31, .ref 32, .ref 33, .int 0, .ref 34, .ref 35, .ref 36, .int 0, .ref 37, .ref 38, .ref 39, .int 0, .ref 40, .ref 41, .ref 42, .int 0, .ref 43, .ref 44, .ref 45, .ref 46, .int 0, .ref 47, .int 0, .int 0, .ref 48, .int 0, .int 0, .int 0, .int 0, .int 0, .ref 49]), .inl (0, 10, .inl (upd (upd (fun _ => 0) (0) (-4)) (1) 0)), .inl (0, 3, .inl (upd (fun _ => 0) (0) a)), .inl (0, 40, .inl (fun _ => 0)), .inl (0, 40, .inl (fun _ => 0)), .inl (0, 40, .inl (fun _ => 0)), .inl (0, 40, .inl (fun _ => 0)), .inl (0, 40, .inl (fun _ => 0)), .inl (0, 120, .inl (fun _ => 0)), .inl (0, 10, .inl (fun _ => 0)), .inl (0, 30, .inl (fun _ => 0)), .inl (0, 10, .inl (fun _ => 0)), .inl (0, 30, .inl (fun _ => 0)), .inl (0, 30, .inl (fun _ => 0)), .inl (0, 30, .inl (fun _ => 0)), .inl (0, 61, .inl (fun _ => 0)), .inl (0, 61, .inl (fun _ => 0)), .inl (0, 1300, .inl (fun _ => 0)), .inl (0, 30, .inl (fun _ => 0)), .inl (0, 30, .inl (fun _ => 0)), .inl (0, 30, .inl (fun _ => 0)), .inl (0, 3, .inl (fun _ => 0)), .inl (0, 50, .inl (fun _ => 0)), .inl (2, 40, .inl (fun _ => 0)), .inl (0, 3, .inl (fun _ => 0))]
def g3_10 (g : pm_C) (a : Int32) (b : Int32) (c : Int32) (d : Int32) : pm_H := [g, .inr (11, [.ref 2, .ref 5, .ref 9, .ref 12, .ref 16, .ref 18, .ref 20, .int 1, .ref 21, .int 0, .ref 22, .int 0, .ref 23, .int 0, .ref 24, .int 0, .int 0]), .inr (9, [.ref 3, .ref 4, .int 2]), .inl (0, 10, .inl (upd (upd (fun _ => 0) (0) (-1)) (1) 0)), .inl (0, 31, .inl (upd (upd (upd (upd (upd (upd (upd (fun _ => 0) (0) 1) (1) 3) (10) 1024) (11) 2048) (20) 1048577) (21) 3145729) (30) 1073741825)), .inr (4, [.ref 2, .ref 6, .int 0, .ref 7, .ref 8, .long 0, .long 0, .long 0]), .inl (6, 40, .inr (.inr (.inr (.inr (fun _ => none))))), .inl (1, 10, .inr (.inl (fun _ => 0))), .inl (1, 7, .inr (.inl (fun _ => 0))), .inr (2, [.ref 2, .ref 5, .ref 10, .ref 11, .null, .int 0]), .inr (6, [.ref 2, .ref 5, .null, .int 0, .long 0, .int 0, .null]), .inr (6, [.ref 2, .ref 5, .null, .int 0, .long 0, .int 0, .null]), .inr (7, [.ref 13, .ref 14, .ref 15, .int 0]), .inl (0, 61, .inl (fun _ => 0)), .inl (0, 61, .inl (fun _ => 0)), .inl (0, 1220, .inl (fun _ => 0)), .inr (0, [.ref 5, .ref 12, .ref 17, .int 0, .int 0, .null]), .inl (0, 3, .inl (fun _ => 0)), .inr (8, [.ref 19, .int 0, .int 0]), .inl (0, 50, .inl (fun _ => 0)), .inl (0, 3, .inl (upd (fun _ => 0) (0) a)), .inl (4, 10, .inr (.inr (.inr (.inr (fun _ => none))))), .inl (8, 30, .inr (.inr (.inr (.inr (fun _ => none))))), .inl (13, 30, .inr (.inr (.inr (.inr (fun _ => none))))), .inl (0, 3, .inl (fun _ => 0)), .inr (12, [.int 2, .ref 26, .ref 27, .int 1, .int 0, .ref 28, .ref 29, .ref 30, .ref 31, .ref 32, .ref 33, .int 0, .ref 34, .ref 35, .ref 36, .int 0, .ref 37, .ref 38, .ref 39, .int 0, .ref 40, .ref 41, .ref 42, .int 0, .ref 43, .ref 44, .ref 45, .ref 46, .int 0, .ref 47, .int 0, .int 0, .ref 48, .int 0, .int 0, .int 0, .int 0, .int 0, .ref 49]), .inl (0, 10, .inl (upd (upd (fun _ => 0) (0) (-4)) (1) 0)), .inl (0, 3, .inl (upd (fun _ => 0) (0) a)), .inl (0, 40, .inl (fun _ => 0)), .inl (0, 40, .inl (fun _ => 0)), .inl (0, 40, .inl (fun _ => 0)), .inl (0, 40, .inl (fun _ => 0)), .inl (0, 40, .inl (fun _ => 0)), .inl (0, 120, .inl (fun _ => 0)), .inl (0, 10, .inl (fun _ => 0)), .inl (0, 30, .inl (fun _ => 0)), .inl (0, 10, .inl (fun _ => 0)), .inl (0, 30, .inl (fun _ => 0)), .inl (0, 30, .inl (fun _ => 0)), .inl (0, 30, .inl (fun _ => 0)), .inl (0, 61, .inl (fun _ => 0)), .inl (0, 61, .inl (fun _ => 0)), .inl (0, 1300, .inl (fun _ => 0)), .inl (0, 30, .inl (fun _ => 0)), .inl (0, 30, .inl (fun _ => 0)), .inl (0, 30, .inl (fun _ => 0)), .inl (0, 3, .inl (fun _ => 0)), .inl (0, 50, .inl (fun _ => 0)), .inl (2, 40, .inl (fun _ => 0)), .inl (0, 3, .inl (fun _ => 0))]
theorem g3__tb0 (v : Int32) (h1 : 0 ≤ v.toInt) (h2 : v.toInt ≤ 30) (h : pm_cmp .eq ((upd (upd (upd (upd (upd (upd (upd (fun _ => 0) (0) 1) (1) 3) (10) 1024) (11) 2048) (20) 1048577) (21) 3145729) (30) 1073741825) v.toNatClampNeg) 0 = true) : (2 ≤ v.toInt ∧ v.toInt ≤ 9) ∨ (12 ≤ v.toInt ∧ v.toInt ≤ 19) ∨ (22 ≤ v.toInt ∧ v.toInt ≤ 29) := by
  have key : ∀ k, k < 31 → pm_cmp .eq ((upd (upd (upd (upd (upd (upd (upd (fun _ => 0) (0) 1) (1) 3) (10) 1024) (11) 2048) (20) 1048577) (21) 3145729) (30) 1073741825) k) 0 = true → (2 ≤ k ∧ k ≤ 9) ∨ (12 ≤ k ∧ k ≤ 19) ∨ (22 ≤ k ∧ k ≤ 29) := by decide +kernel
  have e1 : (v.toNatClampNeg : Int) = v.toInt := Int.toNat_of_nonneg (by omega)
  have q := key v.toNatClampNeg (by omega) h
  omega
theorem g3__tb1 (v : Int32) (h1 : 0 ≤ v.toInt) (h2 : v.toInt ≤ 30) (h : pm_cmp .eq ((upd (upd (upd (upd (upd (upd (upd (fun _ => 0) (0) 1) (1) 3) (10) 1024) (11) 2048) (20) 1048577) (21) 3145729) (30) 1073741825) v.toNatClampNeg) 0 = false) : (0 ≤ v.toInt ∧ v.toInt ≤ 1) ∨ (10 ≤ v.toInt ∧ v.toInt ≤ 11) ∨ (20 ≤ v.toInt ∧ v.toInt ≤ 21) ∨ v.toInt = 30 := by
  have key : ∀ k, k < 31 → pm_cmp .eq ((upd (upd (upd (upd (upd (upd (upd (fun _ => 0) (0) 1) (1) 3) (10) 1024) (11) 2048) (20) 1048577) (21) 3145729) (30) 1073741825) k) 0 = false → (0 ≤ k ∧ k ≤ 1) ∨ (10 ≤ k ∧ k ≤ 11) ∨ (20 ≤ k ∧ k ≤ 21) ∨ k = 30 := by decide +kernel
  have e1 : (v.toNatClampNeg : Int) = v.toInt := Int.toNat_of_nonneg (by omega)
  have q := key v.toNatClampNeg (by omega) h
  omega
set_option maxRecDepth 100000 in
set_option maxHeartbeats 8000000 in
theorem p1_op3 (xs : Nat → Int32) (a b c d : Int32) (ea : a = xs 1) (eb : b = xs 2) (ec : c = xs 3) (ed : d = xs 4) : pm_WP 0 (32, [(3, .int 0), (2, .ref 25), (1, .ref 1), (0, .ref 0)], [.int 3], g3_0 (pg xs) a b c d, 599951, 7298500) (fun r _ => r = some (.int 1)) := by
  refine pm_go (g := (237, [(3, .int 0), (2, .ref 25), (1, .ref 1), (0, .ref 0)], [], g3_0 (pg xs) a b c d, 599951, 7298500)) rfl ?_
  refine pm_go (g := (238, [(3, .int 0), (2, .ref 25), (1, .ref 1), (0, .ref 0)], [.ref 1], g3_0 (pg xs) a b c d, 599951, 7298500)) rfl ?_
  refine pm_go (g := (239, [(3, .int 0), (2, .ref 25), (1, .ref 1), (0, .ref 0)], [.ref 0, .ref 1], g3_0 (pg xs) a b c d, 599951, 7298500)) rfl ?_
  refine pm_go (g := (240, [(3, .int 0), (2, .ref 25), (1, .ref 1), (0, .ref 0)], [.int 0, .ref 0, .ref 1], g3_0 (pg xs) a b c d, 599951, 7298500)) rfl ?_
  refine pm_go (g := (241, [(3, .int 0), (2, .ref 25), (1, .ref 1), (0, .ref 0)], [.int 1, .int 0, .ref 0, .ref 1], g3_0 (pg xs) a b c d, 599951, 7298500)) rfl ?_
  refine pm_go (g := (242, [(3, .int 0), (2, .ref 25), (1, .ref 1), (0, .ref 0)], [.int 1, .ref 0, .ref 1], g3_0 (pg xs) a b c d, 599951, 7298500)) rfl ?_
  refine pm_go (g := (243, [(3, .int 0), (2, .ref 25), (1, .ref 1), (0, .ref 0)], [.int (xs 1), .ref 1], g3_0 (pg xs) a b c d, 599951, 7298500)) rfl ?_
  rw [← ea]
  refine pm_callD (z := 94) (as := [.ref 1, .int (a)]) (rest := []) rfl ?_
  show pm_WP 94 (0, [(0, .ref 1), (1, .int (a))], [], g3_0 (pg xs) a b c d, 0, 0) _
  refine pm_go (g := (1, [(0, .ref 1), (1, .int (a))], [.ref 1], g3_0 (pg xs) a b c d, 0, 0)) rfl ?_
  refine pm_go (g := (4, [(0, .ref 1), (1, .int (a))], [.ref 2], g3_0 (pg xs) a b c d, 0, 0)) rfl ?_
  refine pm_go (g := (5, [(0, .ref 1), (1, .int (a))], [.int (a), .ref 2], g3_0 (pg xs) a b c d, 0, 0)) rfl ?_
  refine pm_callD (z := 84) (as := [.ref 2, .int (a)]) (rest := []) rfl ?_
  show pm_WP 84 (0, [(0, .ref 2), (1, .int (a))], [], g3_0 (pg xs) a b c d, 0, 0) _
  refine pm_go (g := (1, [(0, .ref 2), (1, .int (a))], [.ref 2], g3_0 (pg xs) a b c d, 0, 0)) rfl ?_
  refine pm_go (g := (2, [(0, .ref 2), (1, .int (a))], [.int (a), .ref 2], g3_0 (pg xs) a b c d, 0, 0)) rfl ?_
  refine pm_callD (z := 83) (as := [.ref 2, .int (a)]) (rest := []) rfl ?_
  show pm_WP 83 (0, [(0, .ref 2), (1, .int (a))], [], g3_0 (pg xs) a b c d, 0, 0) _
  refine pm_go (g := (1, [(0, .ref 2), (1, .int (a))], [.int (a)], g3_0 (pg xs) a b c d, 0, 0)) rfl ?_
  refine pm_if2 (g := (23, [(0, .ref 2), (1, .int (a))], [], g3_0 (pg xs) a b c d, 0, 0)) (h := (4, [(0, .ref 2), (1, .int (a))], [], g3_0 (pg xs) a b c d, 0, 0)) rfl (fun q1 => ?_) (fun q1 => ?_)
  ·
    have q1 := qT_lt (cx := a.toInt) (cy := 0) rfl (by decide) q1
    refine pm_go (g := (24, [(0, .ref 2), (1, .int (a))], [.int 0], g3_0 (pg xs) a b c d, 0, 0)) rfl ?_
    refine pm_ret rfl ?_
    show pm_WP 84 (5, [(0, .ref 2), (1, .int (a))], [.int 0], g3_0 (pg xs) a b c d, 0, 0) _
    refine pm_brT (g := (18, [(0, .ref 2), (1, .int (a))], [], g3_0 (pg xs) a b c d, 0, 0)) rfl ?_
    refine pm_go (g := (19, [(0, .ref 2), (1, .int (a))], [.int 0], g3_0 (pg xs) a b c d, 0, 0)) rfl ?_
    refine pm_ret rfl ?_
    show pm_WP 94 (8, [(0, .ref 1), (1, .int (a))], [.int 0], g3_0 (pg xs) a b c d, 0, 0) _
    refine pm_brF (h := (11, [(0, .ref 1), (1, .int (a))], [], g3_0 (pg xs) a b c d, 0, 0)) rfl ?_
    refine pm_go (g := (12, [(0, .ref 1), (1, .int (a))], [.int (-1)], g3_0 (pg xs) a b c d, 0, 0)) rfl ?_
    refine pm_ret rfl ?_
    show pm_WP 0 (246, [(3, .int 0), (2, .ref 25), (1, .ref 1), (0, .ref 0)], [.int (-1)], g3_0 (pg xs) a b c d, 599951, 7298500) _
    refine pm_go (g := (247, [(3, .int 0), (2, .ref 25), (1, .ref 1), (0, .ref 0)], [.ref 25, .int (-1)], g3_0 (pg xs) a b c d, 599951, 7298500)) rfl ?_
    refine pm_go (g := (248, [(3, .int 0), (2, .ref 25), (1, .ref 1), (0, .ref 0)], [.ref 0, .ref 25, .int (-1)], g3_0 (pg xs) a b c d, 599951, 7298500)) rfl ?_
    refine pm_go (g := (249, [(3, .int 0), (2, .ref 25), (1, .ref 1), (0, .ref 0)], [.int 0, .ref 0, .ref 25, .int (-1)], g3_0 (pg xs) a b c d, 599951, 7298500)) rfl ?_
    refine pm_go (g := (250, [(3, .int 0), (2, .ref 25), (1, .ref 1), (0, .ref 0)], [.int 1, .int 0, .ref 0, .ref 25, .int (-1)], g3_0 (pg xs) a b c d, 599951, 7298500)) rfl ?_
    refine pm_go (g := (251, [(3, .int 0), (2, .ref 25), (1, .ref 1), (0, .ref 0)], [.int 1, .ref 0, .ref 25, .int (-1)], g3_0 (pg xs) a b c d, 599951, 7298500)) rfl ?_
    refine pm_go (g := (252, [(3, .int 0), (2, .ref 25), (1, .ref 1), (0, .ref 0)], [.int (xs 1), .ref 25, .int (-1)], g3_0 (pg xs) a b c d, 599951, 7298500)) rfl ?_
    rw [← ea]
    refine pm_callD (z := 137) (as := [.ref 25, .int (a)]) (rest := [.int (-1)]) rfl ?_
    show pm_WP 137 (0, [(0, .ref 25), (1, .int (a))], [], g3_0 (pg xs) a b c d, 0, 0) _
    refine pm_go (g := (1, [(0, .ref 25), (1, .int (a))], [.ref 25], g3_0 (pg xs) a b c d, 0, 0)) rfl ?_
    refine pm_go (g := (2, [(0, .ref 25), (1, .int (a))], [.int (a), .ref 25], g3_0 (pg xs) a b c d, 0, 0)) rfl ?_
    refine pm_callD (z := 131) (as := [.ref 25, .int (a)]) (rest := []) rfl ?_
    show pm_WP 131 (0, [(0, .ref 25), (1, .int (a))], [], g3_0 (pg xs) a b c d, 0, 0) _
    refine pm_go (g := (1, [(0, .ref 25), (1, .int (a))], [.ref 25], g3_0 (pg xs) a b c d, 0, 0)) rfl ?_
    refine pm_go (g := (2, [(0, .ref 25), (1, .int (a))], [.int (a), .ref 25], g3_0 (pg xs) a b c d, 0, 0)) rfl ?_
    refine pm_callD (z := 129) (as := [.ref 25, .int (a)]) (rest := []) rfl ?_
    show pm_WP 129 (0, [(0, .ref 25), (1, .int (a))], [], g3_0 (pg xs) a b c d, 0, 0) _
    refine pm_go (g := (1, [(0, .ref 25), (1, .int (a))], [.int (a)], g3_0 (pg xs) a b c d, 0, 0)) rfl ?_
    refine pm_go (g := (2, [(0, .ref 25), (1, .int (a))], [.int 0, .int (a)], g3_0 (pg xs) a b c d, 0, 0)) rfl ?_
    refine pm_go (g := (3, [(0, .ref 25), (1, .int (a))], [.ref 25, .int 0, .int (a)], g3_0 (pg xs) a b c d, 0, 0)) rfl ?_
    refine pm_go (g := (6, [(0, .ref 25), (1, .int (a))], [.int 2, .int 0, .int (a)], g3_0 (pg xs) a b c d, 0, 0)) rfl ?_
    refine pm_go (g := (7, [(0, .ref 25), (1, .int (a))], [.int 1, .int 2, .int 0, .int (a)], g3_0 (pg xs) a b c d, 0, 0)) rfl ?_
    refine pm_go (g := (8, [(0, .ref 25), (1, .int (a))], [.int 1, .int 0, .int (a)], g3_0 (pg xs) a b c d, 0, 0)) rfl ?_
    refine pm_callD (z := 128) (as := [.int (a), .int 0, .int 1]) (rest := []) rfl ?_
    show pm_WP 128 (0, [(0, .int (a)), (1, .int 0), (2, .int 1)], [], g3_0 (pg xs) a b c d, 0, 0) _
    refine pm_go (g := (1, [(0, .int (a)), (1, .int 0), (2, .int 1)], [.int (a)], g3_0 (pg xs) a b c d, 0, 0)) rfl ?_
    refine pm_go (g := (2, [(0, .int (a)), (1, .int 0), (2, .int 1)], [.int 0, .int (a)], g3_0 (pg xs) a b c d, 0, 0)) rfl ?_
    refine pm_ifT (g := (14, [(0, .int (a)), (1, .int 0), (2, .int 1)], [], g3_0 (pg xs) a b c d, 0, 0)) rfl (rT_lt (cx := a.toInt) (cy := 0) rfl (by decide) (by omega)) ?_
    refine pm_go (g := (15, [(0, .int (a)), (1, .int 0), (2, .int 1)], [.int 0], g3_0 (pg xs) a b c d, 0, 0)) rfl ?_
    refine pm_ret rfl ?_
    show pm_WP 129 (11, [(0, .ref 25), (1, .int (a))], [.int 0], g3_0 (pg xs) a b c d, 0, 0) _
    refine pm_ret rfl ?_
    show pm_WP 131 (5, [(0, .ref 25), (1, .int (a))], [.int 0], g3_0 (pg xs) a b c d, 0, 0) _
    refine pm_brF (h := (8, [(0, .ref 25), (1, .int (a))], [], g3_0 (pg xs) a b c d, 0, 0)) rfl ?_
    refine pm_go (g := (9, [(0, .ref 25), (1, .int (a))], [.int (a)], g3_0 (pg xs) a b c d, 0, 0)) rfl ?_
    refine pm_go (g := (11, [(0, .ref 25), (1, .int (a))], [.int 10, .int (a)], g3_0 (pg xs) a b c d, 0, 0)) rfl ?_
    refine pm_ifF (h := (14, [(0, .ref 25), (1, .int (a))], [], g3_0 (pg xs) a b c d, 0, 0)) rfl (rF_eq (cx := a.toInt) (cy := 10) rfl (by decide) (by omega)) ?_
    refine pm_go (g := (15, [(0, .ref 25), (1, .int (a))], [.int (a)], g3_0 (pg xs) a b c d, 0, 0)) rfl ?_
    refine pm_go (g := (17, [(0, .ref 25), (1, .int (a))], [.int 20, .int (a)], g3_0 (pg xs) a b c d, 0, 0)) rfl ?_
    refine pm_go (g := (19, [(0, .ref 25), (1, .int (a))], [.int 20, .int 20, .int (a)], g3_0 (pg xs) a b c d, 0, 0)) rfl ?_
    refine pm_go (g := (20, [(0, .ref 25), (1, .int (a))], [.ref 25, .int 20, .int 20, .int (a)], g3_0 (pg xs) a b c d, 0, 0)) rfl ?_
    refine pm_go (g := (23, [(0, .ref 25), (1, .int (a))], [.int 2, .int 20, .int 20, .int (a)], g3_0 (pg xs) a b c d, 0, 0)) rfl ?_
    refine pm_go (g := (24, [(0, .ref 25), (1, .int (a))], [.int 22, .int 20, .int (a)], g3_0 (pg xs) a b c d, 0, 0)) rfl ?_
    refine pm_go (g := (25, [(0, .ref 25), (1, .int (a))], [.int 1, .int 22, .int 20, .int (a)], g3_0 (pg xs) a b c d, 0, 0)) rfl ?_
    refine pm_go (g := (26, [(0, .ref 25), (1, .int (a))], [.int 21, .int 20, .int (a)], g3_0 (pg xs) a b c d, 0, 0)) rfl ?_
    refine pm_callD (z := 128) (as := [.int (a), .int 20, .int 21]) (rest := []) rfl ?_
    show pm_WP 128 (0, [(0, .int (a)), (1, .int 20), (2, .int 21)], [], g3_0 (pg xs) a b c d, 0, 0) _
    refine pm_go (g := (1, [(0, .int (a)), (1, .int 20), (2, .int 21)], [.int (a)], g3_0 (pg xs) a b c d, 0, 0)) rfl ?_
    refine pm_go (g := (2, [(0, .int (a)), (1, .int 20), (2, .int 21)], [.int 20, .int (a)], g3_0 (pg xs) a b c d, 0, 0)) rfl ?_
    refine pm_ifT (g := (14, [(0, .int (a)), (1, .int 20), (2, .int 21)], [], g3_0 (pg xs) a b c d, 0, 0)) rfl (rT_lt (cx := a.toInt) (cy := 20) rfl (by decide) (by omega)) ?_
    refine pm_go (g := (15, [(0, .int (a)), (1, .int 20), (2, .int 21)], [.int 0], g3_0 (pg xs) a b c d, 0, 0)) rfl ?_
    refine pm_ret rfl ?_
    show pm_WP 131 (29, [(0, .ref 25), (1, .int (a))], [.int 0], g3_0 (pg xs) a b c d, 0, 0) _
    refine pm_brF (h := (32, [(0, .ref 25), (1, .int (a))], [], g3_0 (pg xs) a b c d, 0, 0)) rfl ?_
    refine pm_go (g := (33, [(0, .ref 25), (1, .int (a))], [.int (a)], g3_0 (pg xs) a b c d, 0, 0)) rfl ?_
    refine pm_go (g := (35, [(0, .ref 25), (1, .int (a))], [.int 30, .int (a)], g3_0 (pg xs) a b c d, 0, 0)) rfl ?_
    refine pm_ifT (g := (42, [(0, .ref 25), (1, .int (a))], [], g3_0 (pg xs) a b c d, 0, 0)) rfl (rT_ne (cx := a.toInt) (cy := 30) rfl (by decide) (by omega)) ?_
    refine pm_go (g := (43, [(0, .ref 25), (1, .int (a))], [.int 0], g3_0 (pg xs) a b c d, 0, 0)) rfl ?_
    refine pm_ret rfl ?_
    show pm_WP 137 (5, [(0, .ref 25), (1, .int (a))], [.int 0], g3_0 (pg xs) a b c d, 0, 0) _
    refine pm_brF (h := (8, [(0, .ref 25), (1, .int (a))], [], g3_0 (pg xs) a b c d, 0, 0)) rfl ?_
    refine pm_go (g := (9, [(0, .ref 25), (1, .int (a))], [.int (-1)], g3_0 (pg xs) a b c d, 0, 0)) rfl ?_
    refine pm_ret rfl ?_
    show pm_WP 0 (255, [(3, .int 0), (2, .ref 25), (1, .ref 1), (0, .ref 0)], [.int (-1), .int (-1)], g3_0 (pg xs) a b c d, 599951, 7298500) _
    refine pm_brT (g := (873, [(3, .int 0), (2, .ref 25), (1, .ref 1), (0, .ref 0)], [], g3_0 (pg xs) a b c d, 599951, 7298500)) rfl ?_
    refine pm_go (g := (876, [(3, .int 5), (2, .ref 25), (1, .ref 1), (0, .ref 0)], [], g3_0 (pg xs) a b c d, 599951, 7298500)) rfl ?_
    refine pm_go (g := (18, [(3, .int 5), (2, .ref 25), (1, .ref 1), (0, .ref 0)], [], g3_0 (pg xs) a b c d, 599951, 7298500)) rfl ?_
    refine pm_go (g := (19, [(3, .int 5), (2, .ref 25), (1, .ref 1), (0, .ref 0)], [.int 5], g3_0 (pg xs) a b c d, 599951, 7298500)) rfl ?_
    refine pm_go (g := (20, [(3, .int 5), (2, .ref 25), (1, .ref 1), (0, .ref 0)], [.ref 0, .int 5], g3_0 (pg xs) a b c d, 599951, 7298500)) rfl ?_
    refine pm_go (g := (21, [(3, .int 5), (2, .ref 25), (1, .ref 1), (0, .ref 0)], [.int 5, .int 5], g3_0 (pg xs) a b c d, 599951, 7298500)) rfl ?_
    refine pm_go (g := (22, [(3, .int 5), (2, .ref 25), (1, .ref 1), (0, .ref 0)], [.int 5, .int 5, .int 5], g3_0 (pg xs) a b c d, 599951, 7298500)) rfl ?_
    refine pm_go (g := (23, [(3, .int 5), (2, .ref 25), (1, .ref 1), (0, .ref 0)], [.int 0, .int 5], g3_0 (pg xs) a b c d, 599951, 7298500)) rfl ?_
    refine pm_brT (g := (879, [(3, .int 5), (2, .ref 25), (1, .ref 1), (0, .ref 0)], [], g3_0 (pg xs) a b c d, 599951, 7298500)) rfl ?_
    refine pm_go (g := (880, [(3, .int 5), (2, .ref 25), (1, .ref 1), (0, .ref 0)], [.int 1], g3_0 (pg xs) a b c d, 599951, 7298500)) rfl ?_
    exact pm_ret rfl rfl
  have q1 := qF_lt (cx := a.toInt) (cy := 0) rfl (by decide) q1
  refine pm_go (g := (5, [(0, .ref 2), (1, .int (a))], [.int (a)], g3_0 (pg xs) a b c d, 0, 0)) rfl ?_
  refine pm_go (g := (7, [(0, .ref 2), (1, .int (a))], [.int 30, .int (a)], g3_0 (pg xs) a b c d, 0, 0)) rfl ?_
  refine pm_if2 (g := (23, [(0, .ref 2), (1, .int (a))], [], g3_0 (pg xs) a b c d, 0, 0)) (h := (10, [(0, .ref 2), (1, .int (a))], [], g3_0 (pg xs) a b c d, 0, 0)) rfl (fun q2 => ?_) (fun q2 => ?_)
  ·
    have q2 := qT_gt (cx := a.toInt) (cy := 30) rfl (by decide) q2
    refine pm_go (g := (24, [(0, .ref 2), (1, .int (a))], [.int 0], g3_0 (pg xs) a b c d, 0, 0)) rfl ?_
    refine pm_ret rfl ?_
    show pm_WP 84 (5, [(0, .ref 2), (1, .int (a))], [.int 0], g3_0 (pg xs) a b c d, 0, 0) _
    refine pm_brT (g := (18, [(0, .ref 2), (1, .int (a))], [], g3_0 (pg xs) a b c d, 0, 0)) rfl ?_
    refine pm_go (g := (19, [(0, .ref 2), (1, .int (a))], [.int 0], g3_0 (pg xs) a b c d, 0, 0)) rfl ?_
    refine pm_ret rfl ?_
    show pm_WP 94 (8, [(0, .ref 1), (1, .int (a))], [.int 0], g3_0 (pg xs) a b c d, 0, 0) _
    refine pm_brF (h := (11, [(0, .ref 1), (1, .int (a))], [], g3_0 (pg xs) a b c d, 0, 0)) rfl ?_
    refine pm_go (g := (12, [(0, .ref 1), (1, .int (a))], [.int (-1)], g3_0 (pg xs) a b c d, 0, 0)) rfl ?_
    refine pm_ret rfl ?_
    show pm_WP 0 (246, [(3, .int 0), (2, .ref 25), (1, .ref 1), (0, .ref 0)], [.int (-1)], g3_0 (pg xs) a b c d, 599951, 7298500) _
    refine pm_go (g := (247, [(3, .int 0), (2, .ref 25), (1, .ref 1), (0, .ref 0)], [.ref 25, .int (-1)], g3_0 (pg xs) a b c d, 599951, 7298500)) rfl ?_
    refine pm_go (g := (248, [(3, .int 0), (2, .ref 25), (1, .ref 1), (0, .ref 0)], [.ref 0, .ref 25, .int (-1)], g3_0 (pg xs) a b c d, 599951, 7298500)) rfl ?_
    refine pm_go (g := (249, [(3, .int 0), (2, .ref 25), (1, .ref 1), (0, .ref 0)], [.int 0, .ref 0, .ref 25, .int (-1)], g3_0 (pg xs) a b c d, 599951, 7298500)) rfl ?_
    refine pm_go (g := (250, [(3, .int 0), (2, .ref 25), (1, .ref 1), (0, .ref 0)], [.int 1, .int 0, .ref 0, .ref 25, .int (-1)], g3_0 (pg xs) a b c d, 599951, 7298500)) rfl ?_
    refine pm_go (g := (251, [(3, .int 0), (2, .ref 25), (1, .ref 1), (0, .ref 0)], [.int 1, .ref 0, .ref 25, .int (-1)], g3_0 (pg xs) a b c d, 599951, 7298500)) rfl ?_
    refine pm_go (g := (252, [(3, .int 0), (2, .ref 25), (1, .ref 1), (0, .ref 0)], [.int (xs 1), .ref 25, .int (-1)], g3_0 (pg xs) a b c d, 599951, 7298500)) rfl ?_
    rw [← ea]
    refine pm_callD (z := 137) (as := [.ref 25, .int (a)]) (rest := [.int (-1)]) rfl ?_
    show pm_WP 137 (0, [(0, .ref 25), (1, .int (a))], [], g3_0 (pg xs) a b c d, 0, 0) _
    refine pm_go (g := (1, [(0, .ref 25), (1, .int (a))], [.ref 25], g3_0 (pg xs) a b c d, 0, 0)) rfl ?_
    refine pm_go (g := (2, [(0, .ref 25), (1, .int (a))], [.int (a), .ref 25], g3_0 (pg xs) a b c d, 0, 0)) rfl ?_
    refine pm_callD (z := 131) (as := [.ref 25, .int (a)]) (rest := []) rfl ?_
    show pm_WP 131 (0, [(0, .ref 25), (1, .int (a))], [], g3_0 (pg xs) a b c d, 0, 0) _
    refine pm_go (g := (1, [(0, .ref 25), (1, .int (a))], [.ref 25], g3_0 (pg xs) a b c d, 0, 0)) rfl ?_
    refine pm_go (g := (2, [(0, .ref 25), (1, .int (a))], [.int (a), .ref 25], g3_0 (pg xs) a b c d, 0, 0)) rfl ?_
    refine pm_callD (z := 129) (as := [.ref 25, .int (a)]) (rest := []) rfl ?_
    show pm_WP 129 (0, [(0, .ref 25), (1, .int (a))], [], g3_0 (pg xs) a b c d, 0, 0) _
    refine pm_go (g := (1, [(0, .ref 25), (1, .int (a))], [.int (a)], g3_0 (pg xs) a b c d, 0, 0)) rfl ?_
    refine pm_go (g := (2, [(0, .ref 25), (1, .int (a))], [.int 0, .int (a)], g3_0 (pg xs) a b c d, 0, 0)) rfl ?_
    refine pm_go (g := (3, [(0, .ref 25), (1, .int (a))], [.ref 25, .int 0, .int (a)], g3_0 (pg xs) a b c d, 0, 0)) rfl ?_
    refine pm_go (g := (6, [(0, .ref 25), (1, .int (a))], [.int 2, .int 0, .int (a)], g3_0 (pg xs) a b c d, 0, 0)) rfl ?_
    refine pm_go (g := (7, [(0, .ref 25), (1, .int (a))], [.int 1, .int 2, .int 0, .int (a)], g3_0 (pg xs) a b c d, 0, 0)) rfl ?_
    refine pm_go (g := (8, [(0, .ref 25), (1, .int (a))], [.int 1, .int 0, .int (a)], g3_0 (pg xs) a b c d, 0, 0)) rfl ?_
    refine pm_callD (z := 128) (as := [.int (a), .int 0, .int 1]) (rest := []) rfl ?_
    show pm_WP 128 (0, [(0, .int (a)), (1, .int 0), (2, .int 1)], [], g3_0 (pg xs) a b c d, 0, 0) _
    refine pm_go (g := (1, [(0, .int (a)), (1, .int 0), (2, .int 1)], [.int (a)], g3_0 (pg xs) a b c d, 0, 0)) rfl ?_
    refine pm_go (g := (2, [(0, .int (a)), (1, .int 0), (2, .int 1)], [.int 0, .int (a)], g3_0 (pg xs) a b c d, 0, 0)) rfl ?_
    refine pm_ifF (h := (5, [(0, .int (a)), (1, .int 0), (2, .int 1)], [], g3_0 (pg xs) a b c d, 0, 0)) rfl (rF_lt (cx := a.toInt) (cy := 0) rfl (by decide) (by omega)) ?_
    refine pm_go (g := (6, [(0, .int (a)), (1, .int 0), (2, .int 1)], [.int (a)], g3_0 (pg xs) a b c d, 0, 0)) rfl ?_
    refine pm_go (g := (7, [(0, .int (a)), (1, .int 0), (2, .int 1)], [.int 1, .int (a)], g3_0 (pg xs) a b c d, 0, 0)) rfl ?_
    refine pm_ifT (g := (14, [(0, .int (a)), (1, .int 0), (2, .int 1)], [], g3_0 (pg xs) a b c d, 0, 0)) rfl (rT_gt (cx := a.toInt) (cy := 1) rfl (by decide) (by omega)) ?_
    refine pm_go (g := (15, [(0, .int (a)), (1, .int 0), (2, .int 1)], [.int 0], g3_0 (pg xs) a b c d, 0, 0)) rfl ?_
    refine pm_ret rfl ?_
    show pm_WP 129 (11, [(0, .ref 25), (1, .int (a))], [.int 0], g3_0 (pg xs) a b c d, 0, 0) _
    refine pm_ret rfl ?_
    show pm_WP 131 (5, [(0, .ref 25), (1, .int (a))], [.int 0], g3_0 (pg xs) a b c d, 0, 0) _
    refine pm_brF (h := (8, [(0, .ref 25), (1, .int (a))], [], g3_0 (pg xs) a b c d, 0, 0)) rfl ?_
    refine pm_go (g := (9, [(0, .ref 25), (1, .int (a))], [.int (a)], g3_0 (pg xs) a b c d, 0, 0)) rfl ?_
    refine pm_go (g := (11, [(0, .ref 25), (1, .int (a))], [.int 10, .int (a)], g3_0 (pg xs) a b c d, 0, 0)) rfl ?_
    refine pm_ifF (h := (14, [(0, .ref 25), (1, .int (a))], [], g3_0 (pg xs) a b c d, 0, 0)) rfl (rF_eq (cx := a.toInt) (cy := 10) rfl (by decide) (by omega)) ?_
    refine pm_go (g := (15, [(0, .ref 25), (1, .int (a))], [.int (a)], g3_0 (pg xs) a b c d, 0, 0)) rfl ?_
    refine pm_go (g := (17, [(0, .ref 25), (1, .int (a))], [.int 20, .int (a)], g3_0 (pg xs) a b c d, 0, 0)) rfl ?_
    refine pm_go (g := (19, [(0, .ref 25), (1, .int (a))], [.int 20, .int 20, .int (a)], g3_0 (pg xs) a b c d, 0, 0)) rfl ?_
    refine pm_go (g := (20, [(0, .ref 25), (1, .int (a))], [.ref 25, .int 20, .int 20, .int (a)], g3_0 (pg xs) a b c d, 0, 0)) rfl ?_
    refine pm_go (g := (23, [(0, .ref 25), (1, .int (a))], [.int 2, .int 20, .int 20, .int (a)], g3_0 (pg xs) a b c d, 0, 0)) rfl ?_
    refine pm_go (g := (24, [(0, .ref 25), (1, .int (a))], [.int 22, .int 20, .int (a)], g3_0 (pg xs) a b c d, 0, 0)) rfl ?_
    refine pm_go (g := (25, [(0, .ref 25), (1, .int (a))], [.int 1, .int 22, .int 20, .int (a)], g3_0 (pg xs) a b c d, 0, 0)) rfl ?_
    refine pm_go (g := (26, [(0, .ref 25), (1, .int (a))], [.int 21, .int 20, .int (a)], g3_0 (pg xs) a b c d, 0, 0)) rfl ?_
    refine pm_callD (z := 128) (as := [.int (a), .int 20, .int 21]) (rest := []) rfl ?_
    show pm_WP 128 (0, [(0, .int (a)), (1, .int 20), (2, .int 21)], [], g3_0 (pg xs) a b c d, 0, 0) _
    refine pm_go (g := (1, [(0, .int (a)), (1, .int 20), (2, .int 21)], [.int (a)], g3_0 (pg xs) a b c d, 0, 0)) rfl ?_
    refine pm_go (g := (2, [(0, .int (a)), (1, .int 20), (2, .int 21)], [.int 20, .int (a)], g3_0 (pg xs) a b c d, 0, 0)) rfl ?_
    refine pm_ifF (h := (5, [(0, .int (a)), (1, .int 20), (2, .int 21)], [], g3_0 (pg xs) a b c d, 0, 0)) rfl (rF_lt (cx := a.toInt) (cy := 20) rfl (by decide) (by omega)) ?_
    refine pm_go (g := (6, [(0, .int (a)), (1, .int 20), (2, .int 21)], [.int (a)], g3_0 (pg xs) a b c d, 0, 0)) rfl ?_
    refine pm_go (g := (7, [(0, .int (a)), (1, .int 20), (2, .int 21)], [.int 21, .int (a)], g3_0 (pg xs) a b c d, 0, 0)) rfl ?_
    refine pm_ifT (g := (14, [(0, .int (a)), (1, .int 20), (2, .int 21)], [], g3_0 (pg xs) a b c d, 0, 0)) rfl (rT_gt (cx := a.toInt) (cy := 21) rfl (by decide) (by omega)) ?_
    refine pm_go (g := (15, [(0, .int (a)), (1, .int 20), (2, .int 21)], [.int 0], g3_0 (pg xs) a b c d, 0, 0)) rfl ?_
    refine pm_ret rfl ?_
    show pm_WP 131 (29, [(0, .ref 25), (1, .int (a))], [.int 0], g3_0 (pg xs) a b c d, 0, 0) _
    refine pm_brF (h := (32, [(0, .ref 25), (1, .int (a))], [], g3_0 (pg xs) a b c d, 0, 0)) rfl ?_
    refine pm_go (g := (33, [(0, .ref 25), (1, .int (a))], [.int (a)], g3_0 (pg xs) a b c d, 0, 0)) rfl ?_
    refine pm_go (g := (35, [(0, .ref 25), (1, .int (a))], [.int 30, .int (a)], g3_0 (pg xs) a b c d, 0, 0)) rfl ?_
    refine pm_ifT (g := (42, [(0, .ref 25), (1, .int (a))], [], g3_0 (pg xs) a b c d, 0, 0)) rfl (rT_ne (cx := a.toInt) (cy := 30) rfl (by decide) (by omega)) ?_
    refine pm_go (g := (43, [(0, .ref 25), (1, .int (a))], [.int 0], g3_0 (pg xs) a b c d, 0, 0)) rfl ?_
    refine pm_ret rfl ?_
    show pm_WP 137 (5, [(0, .ref 25), (1, .int (a))], [.int 0], g3_0 (pg xs) a b c d, 0, 0) _
    refine pm_brF (h := (8, [(0, .ref 25), (1, .int (a))], [], g3_0 (pg xs) a b c d, 0, 0)) rfl ?_
    refine pm_go (g := (9, [(0, .ref 25), (1, .int (a))], [.int (-1)], g3_0 (pg xs) a b c d, 0, 0)) rfl ?_
    refine pm_ret rfl ?_
    show pm_WP 0 (255, [(3, .int 0), (2, .ref 25), (1, .ref 1), (0, .ref 0)], [.int (-1), .int (-1)], g3_0 (pg xs) a b c d, 599951, 7298500) _
    refine pm_brT (g := (873, [(3, .int 0), (2, .ref 25), (1, .ref 1), (0, .ref 0)], [], g3_0 (pg xs) a b c d, 599951, 7298500)) rfl ?_
    refine pm_go (g := (876, [(3, .int 5), (2, .ref 25), (1, .ref 1), (0, .ref 0)], [], g3_0 (pg xs) a b c d, 599951, 7298500)) rfl ?_
    refine pm_go (g := (18, [(3, .int 5), (2, .ref 25), (1, .ref 1), (0, .ref 0)], [], g3_0 (pg xs) a b c d, 599951, 7298500)) rfl ?_
    refine pm_go (g := (19, [(3, .int 5), (2, .ref 25), (1, .ref 1), (0, .ref 0)], [.int 5], g3_0 (pg xs) a b c d, 599951, 7298500)) rfl ?_
    refine pm_go (g := (20, [(3, .int 5), (2, .ref 25), (1, .ref 1), (0, .ref 0)], [.ref 0, .int 5], g3_0 (pg xs) a b c d, 599951, 7298500)) rfl ?_
    refine pm_go (g := (21, [(3, .int 5), (2, .ref 25), (1, .ref 1), (0, .ref 0)], [.int 5, .int 5], g3_0 (pg xs) a b c d, 599951, 7298500)) rfl ?_
    refine pm_go (g := (22, [(3, .int 5), (2, .ref 25), (1, .ref 1), (0, .ref 0)], [.int 5, .int 5, .int 5], g3_0 (pg xs) a b c d, 599951, 7298500)) rfl ?_
    refine pm_go (g := (23, [(3, .int 5), (2, .ref 25), (1, .ref 1), (0, .ref 0)], [.int 0, .int 5], g3_0 (pg xs) a b c d, 599951, 7298500)) rfl ?_
    refine pm_brT (g := (879, [(3, .int 5), (2, .ref 25), (1, .ref 1), (0, .ref 0)], [], g3_0 (pg xs) a b c d, 599951, 7298500)) rfl ?_
    refine pm_go (g := (880, [(3, .int 5), (2, .ref 25), (1, .ref 1), (0, .ref 0)], [.int 1], g3_0 (pg xs) a b c d, 599951, 7298500)) rfl ?_
    exact pm_ret rfl rfl
  have q2 := qF_gt (cx := a.toInt) (cy := 30) rfl (by decide) q2
  refine pm_go (g := (11, [(0, .ref 2), (1, .int (a))], [.ref 2], g3_0 (pg xs) a b c d, 0, 0)) rfl ?_
  refine pm_go (g := (14, [(0, .ref 2), (1, .int (a))], [.ref 4], g3_0 (pg xs) a b c d, 0, 0)) rfl ?_
  refine pm_go (g := (15, [(0, .ref 2), (1, .int (a))], [.int (a), .ref 4], g3_0 (pg xs) a b c d, 0, 0)) rfl ?_
  refine pm_sd (g := (16, [(0, .ref 2), (1, .int (a))], [.int ((upd (upd (upd (upd (upd (upd (upd (fun _ => 0) (0) 1) (1) 3) (10) 1024) (11) 2048) (20) 1048577) (21) 3145729) (30) 1073741825) a.toNatClampNeg)], g3_0 (pg xs) a b c d, 0, 0)) rfl (pm_inI (by omega) (by omega)) ?_
  refine pm_if2 (g := (23, [(0, .ref 2), (1, .int (a))], [], g3_0 (pg xs) a b c d, 0, 0)) (h := (19, [(0, .ref 2), (1, .int (a))], [], g3_0 (pg xs) a b c d, 0, 0)) rfl (fun q3 => ?_) (fun q3 => ?_)
  ·
    have q3 := g3__tb0 a (by omega) (by omega) q3
    refine pm_go (g := (24, [(0, .ref 2), (1, .int (a))], [.int 0], g3_0 (pg xs) a b c d, 0, 0)) rfl ?_
    refine pm_ret rfl ?_
    show pm_WP 84 (5, [(0, .ref 2), (1, .int (a))], [.int 0], g3_0 (pg xs) a b c d, 0, 0) _
    refine pm_brT (g := (18, [(0, .ref 2), (1, .int (a))], [], g3_0 (pg xs) a b c d, 0, 0)) rfl ?_
    refine pm_go (g := (19, [(0, .ref 2), (1, .int (a))], [.int 0], g3_0 (pg xs) a b c d, 0, 0)) rfl ?_
    refine pm_ret rfl ?_
    show pm_WP 94 (8, [(0, .ref 1), (1, .int (a))], [.int 0], g3_0 (pg xs) a b c d, 0, 0) _
    refine pm_brF (h := (11, [(0, .ref 1), (1, .int (a))], [], g3_0 (pg xs) a b c d, 0, 0)) rfl ?_
    refine pm_go (g := (12, [(0, .ref 1), (1, .int (a))], [.int (-1)], g3_0 (pg xs) a b c d, 0, 0)) rfl ?_
    refine pm_ret rfl ?_
    show pm_WP 0 (246, [(3, .int 0), (2, .ref 25), (1, .ref 1), (0, .ref 0)], [.int (-1)], g3_0 (pg xs) a b c d, 599951, 7298500) _
    refine pm_go (g := (247, [(3, .int 0), (2, .ref 25), (1, .ref 1), (0, .ref 0)], [.ref 25, .int (-1)], g3_0 (pg xs) a b c d, 599951, 7298500)) rfl ?_
    refine pm_go (g := (248, [(3, .int 0), (2, .ref 25), (1, .ref 1), (0, .ref 0)], [.ref 0, .ref 25, .int (-1)], g3_0 (pg xs) a b c d, 599951, 7298500)) rfl ?_
    refine pm_go (g := (249, [(3, .int 0), (2, .ref 25), (1, .ref 1), (0, .ref 0)], [.int 0, .ref 0, .ref 25, .int (-1)], g3_0 (pg xs) a b c d, 599951, 7298500)) rfl ?_
    refine pm_go (g := (250, [(3, .int 0), (2, .ref 25), (1, .ref 1), (0, .ref 0)], [.int 1, .int 0, .ref 0, .ref 25, .int (-1)], g3_0 (pg xs) a b c d, 599951, 7298500)) rfl ?_
    refine pm_go (g := (251, [(3, .int 0), (2, .ref 25), (1, .ref 1), (0, .ref 0)], [.int 1, .ref 0, .ref 25, .int (-1)], g3_0 (pg xs) a b c d, 599951, 7298500)) rfl ?_
    refine pm_go (g := (252, [(3, .int 0), (2, .ref 25), (1, .ref 1), (0, .ref 0)], [.int (xs 1), .ref 25, .int (-1)], g3_0 (pg xs) a b c d, 599951, 7298500)) rfl ?_
    rw [← ea]
    refine pm_callD (z := 137) (as := [.ref 25, .int (a)]) (rest := [.int (-1)]) rfl ?_
    show pm_WP 137 (0, [(0, .ref 25), (1, .int (a))], [], g3_0 (pg xs) a b c d, 0, 0) _
    refine pm_go (g := (1, [(0, .ref 25), (1, .int (a))], [.ref 25], g3_0 (pg xs) a b c d, 0, 0)) rfl ?_
    refine pm_go (g := (2, [(0, .ref 25), (1, .int (a))], [.int (a), .ref 25], g3_0 (pg xs) a b c d, 0, 0)) rfl ?_
    refine pm_callD (z := 131) (as := [.ref 25, .int (a)]) (rest := []) rfl ?_
    show pm_WP 131 (0, [(0, .ref 25), (1, .int (a))], [], g3_0 (pg xs) a b c d, 0, 0) _
    refine pm_go (g := (1, [(0, .ref 25), (1, .int (a))], [.ref 25], g3_0 (pg xs) a b c d, 0, 0)) rfl ?_
    refine pm_go (g := (2, [(0, .ref 25), (1, .int (a))], [.int (a), .ref 25], g3_0 (pg xs) a b c d, 0, 0)) rfl ?_
    refine pm_callD (z := 129) (as := [.ref 25, .int (a)]) (rest := []) rfl ?_
    show pm_WP 129 (0, [(0, .ref 25), (1, .int (a))], [], g3_0 (pg xs) a b c d, 0, 0) _
    refine pm_go (g := (1, [(0, .ref 25), (1, .int (a))], [.int (a)], g3_0 (pg xs) a b c d, 0, 0)) rfl ?_
    refine pm_go (g := (2, [(0, .ref 25), (1, .int (a))], [.int 0, .int (a)], g3_0 (pg xs) a b c d, 0, 0)) rfl ?_
    refine pm_go (g := (3, [(0, .ref 25), (1, .int (a))], [.ref 25, .int 0, .int (a)], g3_0 (pg xs) a b c d, 0, 0)) rfl ?_
    refine pm_go (g := (6, [(0, .ref 25), (1, .int (a))], [.int 2, .int 0, .int (a)], g3_0 (pg xs) a b c d, 0, 0)) rfl ?_
    refine pm_go (g := (7, [(0, .ref 25), (1, .int (a))], [.int 1, .int 2, .int 0, .int (a)], g3_0 (pg xs) a b c d, 0, 0)) rfl ?_
    refine pm_go (g := (8, [(0, .ref 25), (1, .int (a))], [.int 1, .int 0, .int (a)], g3_0 (pg xs) a b c d, 0, 0)) rfl ?_
    refine pm_callD (z := 128) (as := [.int (a), .int 0, .int 1]) (rest := []) rfl ?_
    show pm_WP 128 (0, [(0, .int (a)), (1, .int 0), (2, .int 1)], [], g3_0 (pg xs) a b c d, 0, 0) _
    refine pm_go (g := (1, [(0, .int (a)), (1, .int 0), (2, .int 1)], [.int (a)], g3_0 (pg xs) a b c d, 0, 0)) rfl ?_
    refine pm_go (g := (2, [(0, .int (a)), (1, .int 0), (2, .int 1)], [.int 0, .int (a)], g3_0 (pg xs) a b c d, 0, 0)) rfl ?_
    refine pm_ifF (h := (5, [(0, .int (a)), (1, .int 0), (2, .int 1)], [], g3_0 (pg xs) a b c d, 0, 0)) rfl (rF_lt (cx := a.toInt) (cy := 0) rfl (by decide) (by omega)) ?_
    refine pm_go (g := (6, [(0, .int (a)), (1, .int 0), (2, .int 1)], [.int (a)], g3_0 (pg xs) a b c d, 0, 0)) rfl ?_
    refine pm_go (g := (7, [(0, .int (a)), (1, .int 0), (2, .int 1)], [.int 1, .int (a)], g3_0 (pg xs) a b c d, 0, 0)) rfl ?_
    refine pm_ifT (g := (14, [(0, .int (a)), (1, .int 0), (2, .int 1)], [], g3_0 (pg xs) a b c d, 0, 0)) rfl (rT_gt (cx := a.toInt) (cy := 1) rfl (by decide) (by omega)) ?_
    refine pm_go (g := (15, [(0, .int (a)), (1, .int 0), (2, .int 1)], [.int 0], g3_0 (pg xs) a b c d, 0, 0)) rfl ?_
    refine pm_ret rfl ?_
    show pm_WP 129 (11, [(0, .ref 25), (1, .int (a))], [.int 0], g3_0 (pg xs) a b c d, 0, 0) _
    refine pm_ret rfl ?_
    show pm_WP 131 (5, [(0, .ref 25), (1, .int (a))], [.int 0], g3_0 (pg xs) a b c d, 0, 0) _
    refine pm_brF (h := (8, [(0, .ref 25), (1, .int (a))], [], g3_0 (pg xs) a b c d, 0, 0)) rfl ?_
    refine pm_go (g := (9, [(0, .ref 25), (1, .int (a))], [.int (a)], g3_0 (pg xs) a b c d, 0, 0)) rfl ?_
    refine pm_go (g := (11, [(0, .ref 25), (1, .int (a))], [.int 10, .int (a)], g3_0 (pg xs) a b c d, 0, 0)) rfl ?_
    refine pm_ifF (h := (14, [(0, .ref 25), (1, .int (a))], [], g3_0 (pg xs) a b c d, 0, 0)) rfl (rF_eq (cx := a.toInt) (cy := 10) rfl (by decide) (by omega)) ?_
    refine pm_go (g := (15, [(0, .ref 25), (1, .int (a))], [.int (a)], g3_0 (pg xs) a b c d, 0, 0)) rfl ?_
    refine pm_go (g := (17, [(0, .ref 25), (1, .int (a))], [.int 20, .int (a)], g3_0 (pg xs) a b c d, 0, 0)) rfl ?_
    refine pm_go (g := (19, [(0, .ref 25), (1, .int (a))], [.int 20, .int 20, .int (a)], g3_0 (pg xs) a b c d, 0, 0)) rfl ?_
    refine pm_go (g := (20, [(0, .ref 25), (1, .int (a))], [.ref 25, .int 20, .int 20, .int (a)], g3_0 (pg xs) a b c d, 0, 0)) rfl ?_
    refine pm_go (g := (23, [(0, .ref 25), (1, .int (a))], [.int 2, .int 20, .int 20, .int (a)], g3_0 (pg xs) a b c d, 0, 0)) rfl ?_
    refine pm_go (g := (24, [(0, .ref 25), (1, .int (a))], [.int 22, .int 20, .int (a)], g3_0 (pg xs) a b c d, 0, 0)) rfl ?_
    refine pm_go (g := (25, [(0, .ref 25), (1, .int (a))], [.int 1, .int 22, .int 20, .int (a)], g3_0 (pg xs) a b c d, 0, 0)) rfl ?_
    refine pm_go (g := (26, [(0, .ref 25), (1, .int (a))], [.int 21, .int 20, .int (a)], g3_0 (pg xs) a b c d, 0, 0)) rfl ?_
    refine pm_callD (z := 128) (as := [.int (a), .int 20, .int 21]) (rest := []) rfl ?_
    show pm_WP 128 (0, [(0, .int (a)), (1, .int 20), (2, .int 21)], [], g3_0 (pg xs) a b c d, 0, 0) _
    refine pm_go (g := (1, [(0, .int (a)), (1, .int 20), (2, .int 21)], [.int (a)], g3_0 (pg xs) a b c d, 0, 0)) rfl ?_
    refine pm_go (g := (2, [(0, .int (a)), (1, .int 20), (2, .int 21)], [.int 20, .int (a)], g3_0 (pg xs) a b c d, 0, 0)) rfl ?_
    refine pm_if2 (g := (14, [(0, .int (a)), (1, .int 20), (2, .int 21)], [], g3_0 (pg xs) a b c d, 0, 0)) (h := (5, [(0, .int (a)), (1, .int 20), (2, .int 21)], [], g3_0 (pg xs) a b c d, 0, 0)) rfl (fun q4 => ?_) (fun q4 => ?_)
    ·
      have q4 := qT_lt (cx := a.toInt) (cy := 20) rfl (by decide) q4
      refine pm_go (g := (15, [(0, .int (a)), (1, .int 20), (2, .int 21)], [.int 0], g3_0 (pg xs) a b c d, 0, 0)) rfl ?_
      refine pm_ret rfl ?_
      show pm_WP 131 (29, [(0, .ref 25), (1, .int (a))], [.int 0], g3_0 (pg xs) a b c d, 0, 0) _
      refine pm_brF (h := (32, [(0, .ref 25), (1, .int (a))], [], g3_0 (pg xs) a b c d, 0, 0)) rfl ?_
      refine pm_go (g := (33, [(0, .ref 25), (1, .int (a))], [.int (a)], g3_0 (pg xs) a b c d, 0, 0)) rfl ?_
      refine pm_go (g := (35, [(0, .ref 25), (1, .int (a))], [.int 30, .int (a)], g3_0 (pg xs) a b c d, 0, 0)) rfl ?_
      refine pm_ifT (g := (42, [(0, .ref 25), (1, .int (a))], [], g3_0 (pg xs) a b c d, 0, 0)) rfl (rT_ne (cx := a.toInt) (cy := 30) rfl (by decide) (by omega)) ?_
      refine pm_go (g := (43, [(0, .ref 25), (1, .int (a))], [.int 0], g3_0 (pg xs) a b c d, 0, 0)) rfl ?_
      refine pm_ret rfl ?_
      show pm_WP 137 (5, [(0, .ref 25), (1, .int (a))], [.int 0], g3_0 (pg xs) a b c d, 0, 0) _
      refine pm_brF (h := (8, [(0, .ref 25), (1, .int (a))], [], g3_0 (pg xs) a b c d, 0, 0)) rfl ?_
      refine pm_go (g := (9, [(0, .ref 25), (1, .int (a))], [.int (-1)], g3_0 (pg xs) a b c d, 0, 0)) rfl ?_
      refine pm_ret rfl ?_
      show pm_WP 0 (255, [(3, .int 0), (2, .ref 25), (1, .ref 1), (0, .ref 0)], [.int (-1), .int (-1)], g3_0 (pg xs) a b c d, 599951, 7298500) _
      refine pm_brT (g := (873, [(3, .int 0), (2, .ref 25), (1, .ref 1), (0, .ref 0)], [], g3_0 (pg xs) a b c d, 599951, 7298500)) rfl ?_
      refine pm_go (g := (876, [(3, .int 5), (2, .ref 25), (1, .ref 1), (0, .ref 0)], [], g3_0 (pg xs) a b c d, 599951, 7298500)) rfl ?_
      refine pm_go (g := (18, [(3, .int 5), (2, .ref 25), (1, .ref 1), (0, .ref 0)], [], g3_0 (pg xs) a b c d, 599951, 7298500)) rfl ?_
      refine pm_go (g := (19, [(3, .int 5), (2, .ref 25), (1, .ref 1), (0, .ref 0)], [.int 5], g3_0 (pg xs) a b c d, 599951, 7298500)) rfl ?_
      refine pm_go (g := (20, [(3, .int 5), (2, .ref 25), (1, .ref 1), (0, .ref 0)], [.ref 0, .int 5], g3_0 (pg xs) a b c d, 599951, 7298500)) rfl ?_
      refine pm_go (g := (21, [(3, .int 5), (2, .ref 25), (1, .ref 1), (0, .ref 0)], [.int 5, .int 5], g3_0 (pg xs) a b c d, 599951, 7298500)) rfl ?_
      refine pm_go (g := (22, [(3, .int 5), (2, .ref 25), (1, .ref 1), (0, .ref 0)], [.int 5, .int 5, .int 5], g3_0 (pg xs) a b c d, 599951, 7298500)) rfl ?_
      refine pm_go (g := (23, [(3, .int 5), (2, .ref 25), (1, .ref 1), (0, .ref 0)], [.int 0, .int 5], g3_0 (pg xs) a b c d, 599951, 7298500)) rfl ?_
      refine pm_brT (g := (879, [(3, .int 5), (2, .ref 25), (1, .ref 1), (0, .ref 0)], [], g3_0 (pg xs) a b c d, 599951, 7298500)) rfl ?_
      refine pm_go (g := (880, [(3, .int 5), (2, .ref 25), (1, .ref 1), (0, .ref 0)], [.int 1], g3_0 (pg xs) a b c d, 599951, 7298500)) rfl ?_
      exact pm_ret rfl rfl
    have q4 := qF_lt (cx := a.toInt) (cy := 20) rfl (by decide) q4
    refine pm_go (g := (6, [(0, .int (a)), (1, .int 20), (2, .int 21)], [.int (a)], g3_0 (pg xs) a b c d, 0, 0)) rfl ?_
    refine pm_go (g := (7, [(0, .int (a)), (1, .int 20), (2, .int 21)], [.int 21, .int (a)], g3_0 (pg xs) a b c d, 0, 0)) rfl ?_
    refine pm_ifT (g := (14, [(0, .int (a)), (1, .int 20), (2, .int 21)], [], g3_0 (pg xs) a b c d, 0, 0)) rfl (rT_gt (cx := a.toInt) (cy := 21) rfl (by decide) (by omega)) ?_
    refine pm_go (g := (15, [(0, .int (a)), (1, .int 20), (2, .int 21)], [.int 0], g3_0 (pg xs) a b c d, 0, 0)) rfl ?_
    refine pm_ret rfl ?_
    show pm_WP 131 (29, [(0, .ref 25), (1, .int (a))], [.int 0], g3_0 (pg xs) a b c d, 0, 0) _
    refine pm_brF (h := (32, [(0, .ref 25), (1, .int (a))], [], g3_0 (pg xs) a b c d, 0, 0)) rfl ?_
    refine pm_go (g := (33, [(0, .ref 25), (1, .int (a))], [.int (a)], g3_0 (pg xs) a b c d, 0, 0)) rfl ?_
    refine pm_go (g := (35, [(0, .ref 25), (1, .int (a))], [.int 30, .int (a)], g3_0 (pg xs) a b c d, 0, 0)) rfl ?_
    refine pm_ifT (g := (42, [(0, .ref 25), (1, .int (a))], [], g3_0 (pg xs) a b c d, 0, 0)) rfl (rT_ne (cx := a.toInt) (cy := 30) rfl (by decide) (by omega)) ?_
    refine pm_go (g := (43, [(0, .ref 25), (1, .int (a))], [.int 0], g3_0 (pg xs) a b c d, 0, 0)) rfl ?_
    refine pm_ret rfl ?_
    show pm_WP 137 (5, [(0, .ref 25), (1, .int (a))], [.int 0], g3_0 (pg xs) a b c d, 0, 0) _
    refine pm_brF (h := (8, [(0, .ref 25), (1, .int (a))], [], g3_0 (pg xs) a b c d, 0, 0)) rfl ?_
    refine pm_go (g := (9, [(0, .ref 25), (1, .int (a))], [.int (-1)], g3_0 (pg xs) a b c d, 0, 0)) rfl ?_
    refine pm_ret rfl ?_
    show pm_WP 0 (255, [(3, .int 0), (2, .ref 25), (1, .ref 1), (0, .ref 0)], [.int (-1), .int (-1)], g3_0 (pg xs) a b c d, 599951, 7298500) _
    refine pm_brT (g := (873, [(3, .int 0), (2, .ref 25), (1, .ref 1), (0, .ref 0)], [], g3_0 (pg xs) a b c d, 599951, 7298500)) rfl ?_
    refine pm_go (g := (876, [(3, .int 5), (2, .ref 25), (1, .ref 1), (0, .ref 0)], [], g3_0 (pg xs) a b c d, 599951, 7298500)) rfl ?_
    refine pm_go (g := (18, [(3, .int 5), (2, .ref 25), (1, .ref 1), (0, .ref 0)], [], g3_0 (pg xs) a b c d, 599951, 7298500)) rfl ?_
    refine pm_go (g := (19, [(3, .int 5), (2, .ref 25), (1, .ref 1), (0, .ref 0)], [.int 5], g3_0 (pg xs) a b c d, 599951, 7298500)) rfl ?_
    refine pm_go (g := (20, [(3, .int 5), (2, .ref 25), (1, .ref 1), (0, .ref 0)], [.ref 0, .int 5], g3_0 (pg xs) a b c d, 599951, 7298500)) rfl ?_
    refine pm_go (g := (21, [(3, .int 5), (2, .ref 25), (1, .ref 1), (0, .ref 0)], [.int 5, .int 5], g3_0 (pg xs) a b c d, 599951, 7298500)) rfl ?_
    refine pm_go (g := (22, [(3, .int 5), (2, .ref 25), (1, .ref 1), (0, .ref 0)], [.int 5, .int 5, .int 5], g3_0 (pg xs) a b c d, 599951, 7298500)) rfl ?_
    refine pm_go (g := (23, [(3, .int 5), (2, .ref 25), (1, .ref 1), (0, .ref 0)], [.int 0, .int 5], g3_0 (pg xs) a b c d, 599951, 7298500)) rfl ?_
    refine pm_brT (g := (879, [(3, .int 5), (2, .ref 25), (1, .ref 1), (0, .ref 0)], [], g3_0 (pg xs) a b c d, 599951, 7298500)) rfl ?_
    refine pm_go (g := (880, [(3, .int 5), (2, .ref 25), (1, .ref 1), (0, .ref 0)], [.int 1], g3_0 (pg xs) a b c d, 599951, 7298500)) rfl ?_
    exact pm_ret rfl rfl
  have q3 := g3__tb1 a (by omega) (by omega) q3
  refine pm_go (g := (20, [(0, .ref 2), (1, .int (a))], [.int 1], g3_0 (pg xs) a b c d, 0, 0)) rfl ?_
  refine pm_go (g := (24, [(0, .ref 2), (1, .int (a))], [.int 1], g3_0 (pg xs) a b c d, 0, 0)) rfl ?_
  refine pm_ret rfl ?_
  show pm_WP 84 (5, [(0, .ref 2), (1, .int (a))], [.int 1], g3_0 (pg xs) a b c d, 0, 0) _
  refine pm_brF (h := (8, [(0, .ref 2), (1, .int (a))], [], g3_0 (pg xs) a b c d, 0, 0)) rfl ?_
  refine pm_go (g := (9, [(0, .ref 2), (1, .int (a))], [.int (a)], g3_0 (pg xs) a b c d, 0, 0)) rfl ?_
  refine pm_go (g := (11, [(0, .ref 2), (1, .int (a))], [.int 11, .int (a)], g3_0 (pg xs) a b c d, 0, 0)) rfl ?_
  refine pm_if2 (g := (18, [(0, .ref 2), (1, .int (a))], [], g3_0 (pg xs) a b c d, 0, 0)) (h := (14, [(0, .ref 2), (1, .int (a))], [], g3_0 (pg xs) a b c d, 0, 0)) rfl (fun q5 => ?_) (fun q5 => ?_)
  ·
    have q5 := qT_eq (cx := a.toInt) (cy := 11) rfl (by decide) q5
    obtain rfl : a = 11 := xI (c := 11) (by decide) (by omega)
    show pm_WP 84 (18, [(0, .ref 2), (1, .int 11)], [], g3_0 (pg xs) 11 b c d, 0, 0) _
    refine pm_go (g := (19, [(0, .ref 2), (1, .int 11)], [.int 0], g3_0 (pg xs) 11 b c d, 0, 0)) rfl ?_
    refine pm_ret rfl ?_
    show pm_WP 94 (8, [(0, .ref 1), (1, .int 11)], [.int 0], g3_0 (pg xs) 11 b c d, 0, 0) _
    refine pm_brF (h := (11, [(0, .ref 1), (1, .int 11)], [], g3_0 (pg xs) 11 b c d, 0, 0)) rfl ?_
    refine pm_go (g := (12, [(0, .ref 1), (1, .int 11)], [.int (-1)], g3_0 (pg xs) 11 b c d, 0, 0)) rfl ?_
    refine pm_ret rfl ?_
    show pm_WP 0 (246, [(3, .int 0), (2, .ref 25), (1, .ref 1), (0, .ref 0)], [.int (-1)], g3_0 (pg xs) 11 b c d, 599951, 7298500) _
    refine pm_go (g := (247, [(3, .int 0), (2, .ref 25), (1, .ref 1), (0, .ref 0)], [.ref 25, .int (-1)], g3_0 (pg xs) 11 b c d, 599951, 7298500)) rfl ?_
    refine pm_go (g := (248, [(3, .int 0), (2, .ref 25), (1, .ref 1), (0, .ref 0)], [.ref 0, .ref 25, .int (-1)], g3_0 (pg xs) 11 b c d, 599951, 7298500)) rfl ?_
    refine pm_go (g := (249, [(3, .int 0), (2, .ref 25), (1, .ref 1), (0, .ref 0)], [.int 0, .ref 0, .ref 25, .int (-1)], g3_0 (pg xs) 11 b c d, 599951, 7298500)) rfl ?_
    refine pm_go (g := (250, [(3, .int 0), (2, .ref 25), (1, .ref 1), (0, .ref 0)], [.int 1, .int 0, .ref 0, .ref 25, .int (-1)], g3_0 (pg xs) 11 b c d, 599951, 7298500)) rfl ?_
    refine pm_go (g := (251, [(3, .int 0), (2, .ref 25), (1, .ref 1), (0, .ref 0)], [.int 1, .ref 0, .ref 25, .int (-1)], g3_0 (pg xs) 11 b c d, 599951, 7298500)) rfl ?_
    refine pm_go (g := (252, [(3, .int 0), (2, .ref 25), (1, .ref 1), (0, .ref 0)], [.int (xs 1), .ref 25, .int (-1)], g3_0 (pg xs) 11 b c d, 599951, 7298500)) rfl ?_
    rw [← ea]
    refine pm_callD (z := 137) (as := [.ref 25, .int 11]) (rest := [.int (-1)]) rfl ?_
    show pm_WP 137 (0, [(0, .ref 25), (1, .int 11)], [], g3_0 (pg xs) 11 b c d, 0, 0) _
    refine pm_go (g := (1, [(0, .ref 25), (1, .int 11)], [.ref 25], g3_0 (pg xs) 11 b c d, 0, 0)) rfl ?_
    refine pm_go (g := (2, [(0, .ref 25), (1, .int 11)], [.int 11, .ref 25], g3_0 (pg xs) 11 b c d, 0, 0)) rfl ?_
    refine pm_callD (z := 131) (as := [.ref 25, .int 11]) (rest := []) rfl ?_
    show pm_WP 131 (0, [(0, .ref 25), (1, .int 11)], [], g3_0 (pg xs) 11 b c d, 0, 0) _
    refine pm_go (g := (1, [(0, .ref 25), (1, .int 11)], [.ref 25], g3_0 (pg xs) 11 b c d, 0, 0)) rfl ?_
    refine pm_go (g := (2, [(0, .ref 25), (1, .int 11)], [.int 11, .ref 25], g3_0 (pg xs) 11 b c d, 0, 0)) rfl ?_
    refine pm_callD (z := 129) (as := [.ref 25, .int 11]) (rest := []) rfl ?_
    show pm_WP 129 (0, [(0, .ref 25), (1, .int 11)], [], g3_0 (pg xs) 11 b c d, 0, 0) _
    refine pm_go (g := (1, [(0, .ref 25), (1, .int 11)], [.int 11], g3_0 (pg xs) 11 b c d, 0, 0)) rfl ?_
    refine pm_go (g := (2, [(0, .ref 25), (1, .int 11)], [.int 0, .int 11], g3_0 (pg xs) 11 b c d, 0, 0)) rfl ?_
    refine pm_go (g := (3, [(0, .ref 25), (1, .int 11)], [.ref 25, .int 0, .int 11], g3_0 (pg xs) 11 b c d, 0, 0)) rfl ?_
    refine pm_go (g := (6, [(0, .ref 25), (1, .int 11)], [.int 2, .int 0, .int 11], g3_0 (pg xs) 11 b c d, 0, 0)) rfl ?_
    refine pm_go (g := (7, [(0, .ref 25), (1, .int 11)], [.int 1, .int 2, .int 0, .int 11], g3_0 (pg xs) 11 b c d, 0, 0)) rfl ?_
    refine pm_go (g := (8, [(0, .ref 25), (1, .int 11)], [.int 1, .int 0, .int 11], g3_0 (pg xs) 11 b c d, 0, 0)) rfl ?_
    refine pm_callD (z := 128) (as := [.int 11, .int 0, .int 1]) (rest := []) rfl ?_
    show pm_WP 128 (0, [(0, .int 11), (1, .int 0), (2, .int 1)], [], g3_0 (pg xs) 11 b c d, 0, 0) _
    refine pm_go (g := (1, [(0, .int 11), (1, .int 0), (2, .int 1)], [.int 11], g3_0 (pg xs) 11 b c d, 0, 0)) rfl ?_
    refine pm_go (g := (2, [(0, .int 11), (1, .int 0), (2, .int 1)], [.int 0, .int 11], g3_0 (pg xs) 11 b c d, 0, 0)) rfl ?_
    refine pm_brF (h := (5, [(0, .int 11), (1, .int 0), (2, .int 1)], [], g3_0 (pg xs) 11 b c d, 0, 0)) rfl ?_
    refine pm_go (g := (6, [(0, .int 11), (1, .int 0), (2, .int 1)], [.int 11], g3_0 (pg xs) 11 b c d, 0, 0)) rfl ?_
    refine pm_go (g := (7, [(0, .int 11), (1, .int 0), (2, .int 1)], [.int 1, .int 11], g3_0 (pg xs) 11 b c d, 0, 0)) rfl ?_
    refine pm_brT (g := (14, [(0, .int 11), (1, .int 0), (2, .int 1)], [], g3_0 (pg xs) 11 b c d, 0, 0)) rfl ?_
    refine pm_go (g := (15, [(0, .int 11), (1, .int 0), (2, .int 1)], [.int 0], g3_0 (pg xs) 11 b c d, 0, 0)) rfl ?_
    refine pm_ret rfl ?_
    show pm_WP 129 (11, [(0, .ref 25), (1, .int 11)], [.int 0], g3_0 (pg xs) 11 b c d, 0, 0) _
    refine pm_ret rfl ?_
    show pm_WP 131 (5, [(0, .ref 25), (1, .int 11)], [.int 0], g3_0 (pg xs) 11 b c d, 0, 0) _
    refine pm_brF (h := (8, [(0, .ref 25), (1, .int 11)], [], g3_0 (pg xs) 11 b c d, 0, 0)) rfl ?_
    refine pm_go (g := (9, [(0, .ref 25), (1, .int 11)], [.int 11], g3_0 (pg xs) 11 b c d, 0, 0)) rfl ?_
    refine pm_go (g := (11, [(0, .ref 25), (1, .int 11)], [.int 10, .int 11], g3_0 (pg xs) 11 b c d, 0, 0)) rfl ?_
    refine pm_brF (h := (14, [(0, .ref 25), (1, .int 11)], [], g3_0 (pg xs) 11 b c d, 0, 0)) rfl ?_
    refine pm_go (g := (15, [(0, .ref 25), (1, .int 11)], [.int 11], g3_0 (pg xs) 11 b c d, 0, 0)) rfl ?_
    refine pm_go (g := (17, [(0, .ref 25), (1, .int 11)], [.int 20, .int 11], g3_0 (pg xs) 11 b c d, 0, 0)) rfl ?_
    refine pm_go (g := (19, [(0, .ref 25), (1, .int 11)], [.int 20, .int 20, .int 11], g3_0 (pg xs) 11 b c d, 0, 0)) rfl ?_
    refine pm_go (g := (20, [(0, .ref 25), (1, .int 11)], [.ref 25, .int 20, .int 20, .int 11], g3_0 (pg xs) 11 b c d, 0, 0)) rfl ?_
    refine pm_go (g := (23, [(0, .ref 25), (1, .int 11)], [.int 2, .int 20, .int 20, .int 11], g3_0 (pg xs) 11 b c d, 0, 0)) rfl ?_
    refine pm_go (g := (24, [(0, .ref 25), (1, .int 11)], [.int 22, .int 20, .int 11], g3_0 (pg xs) 11 b c d, 0, 0)) rfl ?_
    refine pm_go (g := (25, [(0, .ref 25), (1, .int 11)], [.int 1, .int 22, .int 20, .int 11], g3_0 (pg xs) 11 b c d, 0, 0)) rfl ?_
    refine pm_go (g := (26, [(0, .ref 25), (1, .int 11)], [.int 21, .int 20, .int 11], g3_0 (pg xs) 11 b c d, 0, 0)) rfl ?_
    refine pm_callD (z := 128) (as := [.int 11, .int 20, .int 21]) (rest := []) rfl ?_
    show pm_WP 128 (0, [(0, .int 11), (1, .int 20), (2, .int 21)], [], g3_0 (pg xs) 11 b c d, 0, 0) _
    refine pm_go (g := (1, [(0, .int 11), (1, .int 20), (2, .int 21)], [.int 11], g3_0 (pg xs) 11 b c d, 0, 0)) rfl ?_
    refine pm_go (g := (2, [(0, .int 11), (1, .int 20), (2, .int 21)], [.int 20, .int 11], g3_0 (pg xs) 11 b c d, 0, 0)) rfl ?_
    refine pm_brT (g := (14, [(0, .int 11), (1, .int 20), (2, .int 21)], [], g3_0 (pg xs) 11 b c d, 0, 0)) rfl ?_
    refine pm_go (g := (15, [(0, .int 11), (1, .int 20), (2, .int 21)], [.int 0], g3_0 (pg xs) 11 b c d, 0, 0)) rfl ?_
    refine pm_ret rfl ?_
    show pm_WP 131 (29, [(0, .ref 25), (1, .int 11)], [.int 0], g3_0 (pg xs) 11 b c d, 0, 0) _
    refine pm_brF (h := (32, [(0, .ref 25), (1, .int 11)], [], g3_0 (pg xs) 11 b c d, 0, 0)) rfl ?_
    refine pm_go (g := (33, [(0, .ref 25), (1, .int 11)], [.int 11], g3_0 (pg xs) 11 b c d, 0, 0)) rfl ?_
    refine pm_go (g := (35, [(0, .ref 25), (1, .int 11)], [.int 30, .int 11], g3_0 (pg xs) 11 b c d, 0, 0)) rfl ?_
    refine pm_brT (g := (42, [(0, .ref 25), (1, .int 11)], [], g3_0 (pg xs) 11 b c d, 0, 0)) rfl ?_
    refine pm_go (g := (43, [(0, .ref 25), (1, .int 11)], [.int 0], g3_0 (pg xs) 11 b c d, 0, 0)) rfl ?_
    refine pm_ret rfl ?_
    show pm_WP 137 (5, [(0, .ref 25), (1, .int 11)], [.int 0], g3_0 (pg xs) 11 b c d, 0, 0) _
    refine pm_brF (h := (8, [(0, .ref 25), (1, .int 11)], [], g3_0 (pg xs) 11 b c d, 0, 0)) rfl ?_
    refine pm_go (g := (9, [(0, .ref 25), (1, .int 11)], [.int (-1)], g3_0 (pg xs) 11 b c d, 0, 0)) rfl ?_
    refine pm_ret rfl ?_
    show pm_WP 0 (255, [(3, .int 0), (2, .ref 25), (1, .ref 1), (0, .ref 0)], [.int (-1), .int (-1)], g3_0 (pg xs) 11 b c d, 599951, 7298500) _
    refine pm_brT (g := (873, [(3, .int 0), (2, .ref 25), (1, .ref 1), (0, .ref 0)], [], g3_0 (pg xs) 11 b c d, 599951, 7298500)) rfl ?_
    refine pm_go (g := (876, [(3, .int 5), (2, .ref 25), (1, .ref 1), (0, .ref 0)], [], g3_0 (pg xs) 11 b c d, 599951, 7298500)) rfl ?_
    refine pm_go (g := (18, [(3, .int 5), (2, .ref 25), (1, .ref 1), (0, .ref 0)], [], g3_0 (pg xs) 11 b c d, 599951, 7298500)) rfl ?_
    refine pm_go (g := (19, [(3, .int 5), (2, .ref 25), (1, .ref 1), (0, .ref 0)], [.int 5], g3_0 (pg xs) 11 b c d, 599951, 7298500)) rfl ?_
    refine pm_go (g := (20, [(3, .int 5), (2, .ref 25), (1, .ref 1), (0, .ref 0)], [.ref 0, .int 5], g3_0 (pg xs) 11 b c d, 599951, 7298500)) rfl ?_
    refine pm_go (g := (21, [(3, .int 5), (2, .ref 25), (1, .ref 1), (0, .ref 0)], [.int 5, .int 5], g3_0 (pg xs) 11 b c d, 599951, 7298500)) rfl ?_
    refine pm_go (g := (22, [(3, .int 5), (2, .ref 25), (1, .ref 1), (0, .ref 0)], [.int 5, .int 5, .int 5], g3_0 (pg xs) 11 b c d, 599951, 7298500)) rfl ?_
    refine pm_go (g := (23, [(3, .int 5), (2, .ref 25), (1, .ref 1), (0, .ref 0)], [.int 0, .int 5], g3_0 (pg xs) 11 b c d, 599951, 7298500)) rfl ?_
    refine pm_brT (g := (879, [(3, .int 5), (2, .ref 25), (1, .ref 1), (0, .ref 0)], [], g3_0 (pg xs) 11 b c d, 599951, 7298500)) rfl ?_
    refine pm_go (g := (880, [(3, .int 5), (2, .ref 25), (1, .ref 1), (0, .ref 0)], [.int 1], g3_0 (pg xs) 11 b c d, 599951, 7298500)) rfl ?_
    exact pm_ret rfl rfl
  have q5 := qF_eq (cx := a.toInt) (cy := 11) rfl (by decide) q5
  refine pm_go (g := (15, [(0, .ref 2), (1, .int (a))], [.int 1], g3_0 (pg xs) a b c d, 0, 0)) rfl ?_
  refine pm_go (g := (19, [(0, .ref 2), (1, .int (a))], [.int 1], g3_0 (pg xs) a b c d, 0, 0)) rfl ?_
  refine pm_ret rfl ?_
  show pm_WP 94 (8, [(0, .ref 1), (1, .int (a))], [.int 1], g3_0 (pg xs) a b c d, 0, 0) _
  refine pm_brT (g := (13, [(0, .ref 1), (1, .int (a))], [], g3_0 (pg xs) a b c d, 0, 0)) rfl ?_
  refine pm_go (g := (14, [(0, .ref 1), (1, .int (a))], [.ref 1], g3_0 (pg xs) a b c d, 0, 0)) rfl ?_
  refine pm_go (g := (17, [(0, .ref 1), (1, .int (a))], [.int 0], g3_0 (pg xs) a b c d, 0, 0)) rfl ?_
  refine pm_go (g := (18, [(0, .ref 1), (1, .int (a))], [.int 3, .int 0], g3_0 (pg xs) a b c d, 0, 0)) rfl ?_
  refine pm_brT (g := (24, [(0, .ref 1), (1, .int (a))], [], g3_0 (pg xs) a b c d, 0, 0)) rfl ?_
  refine pm_go (g := (25, [(0, .ref 1), (1, .int (a))], [.ref 1], g3_0 (pg xs) a b c d, 0, 0)) rfl ?_
  refine pm_go (g := (28, [(0, .ref 1), (1, .int (a))], [.ref 20], g3_0 (pg xs) a b c d, 0, 0)) rfl ?_
  refine pm_go (g := (29, [(0, .ref 1), (1, .int (a))], [.ref 1, .ref 20], g3_0 (pg xs) a b c d, 0, 0)) rfl ?_
  refine pm_go (g := (32, [(0, .ref 1), (1, .int (a))], [.int 0, .ref 20], g3_0 (pg xs) a b c d, 0, 0)) rfl ?_
  refine pm_go (g := (33, [(0, .ref 1), (1, .int (a))], [.int (a), .int 0, .ref 20], g3_0 (pg xs) a b c d, 0, 0)) rfl ?_
  refine pm_go (g := (34, [(0, .ref 1), (1, .int (a))], [], g3_1 (pg xs) a b c d, 0, 0)) rfl ?_
  refine pm_go (g := (35, [(0, .ref 1), (1, .int (a))], [.ref 1], g3_1 (pg xs) a b c d, 0, 0)) rfl ?_
  refine pm_go (g := (36, [(0, .ref 1), (1, .int (a))], [.ref 1, .ref 1], g3_1 (pg xs) a b c d, 0, 0)) rfl ?_
  refine pm_go (g := (39, [(0, .ref 1), (1, .int (a))], [.int 0, .ref 1], g3_1 (pg xs) a b c d, 0, 0)) rfl ?_
  refine pm_go (g := (40, [(0, .ref 1), (1, .int (a))], [.int 1, .int 0, .ref 1], g3_1 (pg xs) a b c d, 0, 0)) rfl ?_
  refine pm_go (g := (41, [(0, .ref 1), (1, .int (a))], [.int 1, .ref 1], g3_1 (pg xs) a b c d, 0, 0)) rfl ?_
  refine pm_go (g := (44, [(0, .ref 1), (1, .int (a))], [], g3_2 (pg xs) a b c d, 0, 0)) rfl ?_
  refine pm_go (g := (45, [(0, .ref 1), (1, .int (a))], [.ref 1], g3_2 (pg xs) a b c d, 0, 0)) rfl ?_
  refine pm_go (g := (48, [(0, .ref 1), (1, .int (a))], [.int 1], g3_2 (pg xs) a b c d, 0, 0)) rfl ?_
  refine pm_ret rfl ?_
  show pm_WP 0 (246, [(3, .int 0), (2, .ref 25), (1, .ref 1), (0, .ref 0)], [.int 1], g3_2 (pg xs) a b c d, 599951, 7298500) _
  refine pm_go (g := (247, [(3, .int 0), (2, .ref 25), (1, .ref 1), (0, .ref 0)], [.ref 25, .int 1], g3_2 (pg xs) a b c d, 599951, 7298500)) rfl ?_
  refine pm_go (g := (248, [(3, .int 0), (2, .ref 25), (1, .ref 1), (0, .ref 0)], [.ref 0, .ref 25, .int 1], g3_2 (pg xs) a b c d, 599951, 7298500)) rfl ?_
  refine pm_go (g := (249, [(3, .int 0), (2, .ref 25), (1, .ref 1), (0, .ref 0)], [.int 0, .ref 0, .ref 25, .int 1], g3_2 (pg xs) a b c d, 599951, 7298500)) rfl ?_
  refine pm_go (g := (250, [(3, .int 0), (2, .ref 25), (1, .ref 1), (0, .ref 0)], [.int 1, .int 0, .ref 0, .ref 25, .int 1], g3_2 (pg xs) a b c d, 599951, 7298500)) rfl ?_
  refine pm_go (g := (251, [(3, .int 0), (2, .ref 25), (1, .ref 1), (0, .ref 0)], [.int 1, .ref 0, .ref 25, .int 1], g3_2 (pg xs) a b c d, 599951, 7298500)) rfl ?_
  refine pm_go (g := (252, [(3, .int 0), (2, .ref 25), (1, .ref 1), (0, .ref 0)], [.int (xs 1), .ref 25, .int 1], g3_2 (pg xs) a b c d, 599951, 7298500)) rfl ?_
  rw [← ea]
  refine pm_callD (z := 137) (as := [.ref 25, .int (a)]) (rest := [.int 1]) rfl ?_
  show pm_WP 137 (0, [(0, .ref 25), (1, .int (a))], [], g3_2 (pg xs) a b c d, 0, 0) _
  refine pm_go (g := (1, [(0, .ref 25), (1, .int (a))], [.ref 25], g3_2 (pg xs) a b c d, 0, 0)) rfl ?_
  refine pm_go (g := (2, [(0, .ref 25), (1, .int (a))], [.int (a), .ref 25], g3_2 (pg xs) a b c d, 0, 0)) rfl ?_
  refine pm_callD (z := 131) (as := [.ref 25, .int (a)]) (rest := []) rfl ?_
  show pm_WP 131 (0, [(0, .ref 25), (1, .int (a))], [], g3_2 (pg xs) a b c d, 0, 0) _
  refine pm_go (g := (1, [(0, .ref 25), (1, .int (a))], [.ref 25], g3_2 (pg xs) a b c d, 0, 0)) rfl ?_
  refine pm_go (g := (2, [(0, .ref 25), (1, .int (a))], [.int (a), .ref 25], g3_2 (pg xs) a b c d, 0, 0)) rfl ?_
  refine pm_callD (z := 129) (as := [.ref 25, .int (a)]) (rest := []) rfl ?_
  show pm_WP 129 (0, [(0, .ref 25), (1, .int (a))], [], g3_2 (pg xs) a b c d, 0, 0) _
  refine pm_go (g := (1, [(0, .ref 25), (1, .int (a))], [.int (a)], g3_2 (pg xs) a b c d, 0, 0)) rfl ?_
  refine pm_go (g := (2, [(0, .ref 25), (1, .int (a))], [.int 0, .int (a)], g3_2 (pg xs) a b c d, 0, 0)) rfl ?_
  refine pm_go (g := (3, [(0, .ref 25), (1, .int (a))], [.ref 25, .int 0, .int (a)], g3_2 (pg xs) a b c d, 0, 0)) rfl ?_
  refine pm_go (g := (6, [(0, .ref 25), (1, .int (a))], [.int 2, .int 0, .int (a)], g3_2 (pg xs) a b c d, 0, 0)) rfl ?_
  refine pm_go (g := (7, [(0, .ref 25), (1, .int (a))], [.int 1, .int 2, .int 0, .int (a)], g3_2 (pg xs) a b c d, 0, 0)) rfl ?_
  refine pm_go (g := (8, [(0, .ref 25), (1, .int (a))], [.int 1, .int 0, .int (a)], g3_2 (pg xs) a b c d, 0, 0)) rfl ?_
  refine pm_callD (z := 128) (as := [.int (a), .int 0, .int 1]) (rest := []) rfl ?_
  show pm_WP 128 (0, [(0, .int (a)), (1, .int 0), (2, .int 1)], [], g3_2 (pg xs) a b c d, 0, 0) _
  refine pm_go (g := (1, [(0, .int (a)), (1, .int 0), (2, .int 1)], [.int (a)], g3_2 (pg xs) a b c d, 0, 0)) rfl ?_
  refine pm_go (g := (2, [(0, .int (a)), (1, .int 0), (2, .int 1)], [.int 0, .int (a)], g3_2 (pg xs) a b c d, 0, 0)) rfl ?_
  refine pm_ifF (h := (5, [(0, .int (a)), (1, .int 0), (2, .int 1)], [], g3_2 (pg xs) a b c d, 0, 0)) rfl (rF_lt (cx := a.toInt) (cy := 0) rfl (by decide) (by omega)) ?_
  refine pm_go (g := (6, [(0, .int (a)), (1, .int 0), (2, .int 1)], [.int (a)], g3_2 (pg xs) a b c d, 0, 0)) rfl ?_
  refine pm_go (g := (7, [(0, .int (a)), (1, .int 0), (2, .int 1)], [.int 1, .int (a)], g3_2 (pg xs) a b c d, 0, 0)) rfl ?_
  refine pm_if2 (g := (14, [(0, .int (a)), (1, .int 0), (2, .int 1)], [], g3_2 (pg xs) a b c d, 0, 0)) (h := (10, [(0, .int (a)), (1, .int 0), (2, .int 1)], [], g3_2 (pg xs) a b c d, 0, 0)) rfl (fun q6 => ?_) (fun q6 => ?_)
  ·
    have q6 := qT_gt (cx := a.toInt) (cy := 1) rfl (by decide) q6
    refine pm_go (g := (15, [(0, .int (a)), (1, .int 0), (2, .int 1)], [.int 0], g3_2 (pg xs) a b c d, 0, 0)) rfl ?_
    refine pm_ret rfl ?_
    show pm_WP 129 (11, [(0, .ref 25), (1, .int (a))], [.int 0], g3_2 (pg xs) a b c d, 0, 0) _
    refine pm_ret rfl ?_
    show pm_WP 131 (5, [(0, .ref 25), (1, .int (a))], [.int 0], g3_2 (pg xs) a b c d, 0, 0) _
    refine pm_brF (h := (8, [(0, .ref 25), (1, .int (a))], [], g3_2 (pg xs) a b c d, 0, 0)) rfl ?_
    refine pm_go (g := (9, [(0, .ref 25), (1, .int (a))], [.int (a)], g3_2 (pg xs) a b c d, 0, 0)) rfl ?_
    refine pm_go (g := (11, [(0, .ref 25), (1, .int (a))], [.int 10, .int (a)], g3_2 (pg xs) a b c d, 0, 0)) rfl ?_
    refine pm_if2 (g := (38, [(0, .ref 25), (1, .int (a))], [], g3_2 (pg xs) a b c d, 0, 0)) (h := (14, [(0, .ref 25), (1, .int (a))], [], g3_2 (pg xs) a b c d, 0, 0)) rfl (fun q7 => ?_) (fun q7 => ?_)
    ·
      have q7 := qT_eq (cx := a.toInt) (cy := 10) rfl (by decide) q7
      obtain rfl : a = 10 := xI (c := 10) (by decide) (by omega)
      show pm_WP 131 (38, [(0, .ref 25), (1, .int 10)], [], g3_3 (pg xs) 10 b c d, 0, 0) _
      refine pm_go (g := (39, [(0, .ref 25), (1, .int 10)], [.int 1], g3_3 (pg xs) 10 b c d, 0, 0)) rfl ?_
      refine pm_go (g := (43, [(0, .ref 25), (1, .int 10)], [.int 1], g3_3 (pg xs) 10 b c d, 0, 0)) rfl ?_
      refine pm_ret rfl ?_
      show pm_WP 137 (5, [(0, .ref 25), (1, .int 10)], [.int 1], g3_3 (pg xs) 10 b c d, 0, 0) _
      refine pm_brT (g := (10, [(0, .ref 25), (1, .int 10)], [], g3_3 (pg xs) 10 b c d, 0, 0)) rfl ?_
      refine pm_go (g := (11, [(0, .ref 25), (1, .int 10)], [.ref 25], g3_3 (pg xs) 10 b c d, 0, 0)) rfl ?_
      refine pm_go (g := (14, [(0, .ref 25), (1, .int 10)], [.int 0], g3_3 (pg xs) 10 b c d, 0, 0)) rfl ?_
      refine pm_go (g := (15, [(0, .ref 25), (1, .int 10)], [.int 3, .int 0], g3_3 (pg xs) 10 b c d, 0, 0)) rfl ?_
      refine pm_brT (g := (21, [(0, .ref 25), (1, .int 10)], [], g3_3 (pg xs) 10 b c d, 0, 0)) rfl ?_
      refine pm_go (g := (22, [(0, .ref 25), (1, .int 10)], [.ref 25], g3_3 (pg xs) 10 b c d, 0, 0)) rfl ?_
      refine pm_go (g := (25, [(0, .ref 25), (1, .int 10)], [.ref 27], g3_3 (pg xs) 10 b c d, 0, 0)) rfl ?_
      refine pm_go (g := (26, [(0, .ref 25), (1, .int 10)], [.ref 25, .ref 27], g3_3 (pg xs) 10 b c d, 0, 0)) rfl ?_
      refine pm_go (g := (29, [(0, .ref 25), (1, .int 10)], [.int 0, .ref 27], g3_3 (pg xs) 10 b c d, 0, 0)) rfl ?_
      refine pm_go (g := (30, [(0, .ref 25), (1, .int 10)], [.int 10, .int 0, .ref 27], g3_3 (pg xs) 10 b c d, 0, 0)) rfl ?_
      refine pm_go (g := (31, [(0, .ref 25), (1, .int 10)], [], g3_4 (pg xs) 10 b c d, 0, 0)) rfl ?_
      refine pm_go (g := (32, [(0, .ref 25), (1, .int 10)], [.ref 25], g3_4 (pg xs) 10 b c d, 0, 0)) rfl ?_
      refine pm_go (g := (33, [(0, .ref 25), (1, .int 10)], [.ref 25, .ref 25], g3_4 (pg xs) 10 b c d, 0, 0)) rfl ?_
      refine pm_go (g := (36, [(0, .ref 25), (1, .int 10)], [.int 0, .ref 25], g3_4 (pg xs) 10 b c d, 0, 0)) rfl ?_
      refine pm_go (g := (37, [(0, .ref 25), (1, .int 10)], [.int 1, .int 0, .ref 25], g3_4 (pg xs) 10 b c d, 0, 0)) rfl ?_
      refine pm_go (g := (38, [(0, .ref 25), (1, .int 10)], [.int 1, .ref 25], g3_4 (pg xs) 10 b c d, 0, 0)) rfl ?_
      refine pm_go (g := (41, [(0, .ref 25), (1, .int 10)], [], g3_5 (pg xs) 10 b c d, 0, 0)) rfl ?_
      refine pm_go (g := (42, [(0, .ref 25), (1, .int 10)], [.ref 25], g3_5 (pg xs) 10 b c d, 0, 0)) rfl ?_
      refine pm_go (g := (45, [(0, .ref 25), (1, .int 10)], [.int 1], g3_5 (pg xs) 10 b c d, 0, 0)) rfl ?_
      refine pm_ret rfl ?_
      show pm_WP 0 (255, [(3, .int 0), (2, .ref 25), (1, .ref 1), (0, .ref 0)], [.int 1, .int 1], g3_5 (pg xs) 10 b c d, 599951, 7298500) _
      refine pm_brT (g := (873, [(3, .int 0), (2, .ref 25), (1, .ref 1), (0, .ref 0)], [], g3_5 (pg xs) 10 b c d, 599951, 7298500)) rfl ?_
      refine pm_go (g := (876, [(3, .int 5), (2, .ref 25), (1, .ref 1), (0, .ref 0)], [], g3_5 (pg xs) 10 b c d, 599951, 7298500)) rfl ?_
      refine pm_go (g := (18, [(3, .int 5), (2, .ref 25), (1, .ref 1), (0, .ref 0)], [], g3_5 (pg xs) 10 b c d, 599951, 7298500)) rfl ?_
      refine pm_go (g := (19, [(3, .int 5), (2, .ref 25), (1, .ref 1), (0, .ref 0)], [.int 5], g3_5 (pg xs) 10 b c d, 599951, 7298500)) rfl ?_
      refine pm_go (g := (20, [(3, .int 5), (2, .ref 25), (1, .ref 1), (0, .ref 0)], [.ref 0, .int 5], g3_5 (pg xs) 10 b c d, 599951, 7298500)) rfl ?_
      refine pm_go (g := (21, [(3, .int 5), (2, .ref 25), (1, .ref 1), (0, .ref 0)], [.int 5, .int 5], g3_5 (pg xs) 10 b c d, 599951, 7298500)) rfl ?_
      refine pm_go (g := (22, [(3, .int 5), (2, .ref 25), (1, .ref 1), (0, .ref 0)], [.int 5, .int 5, .int 5], g3_5 (pg xs) 10 b c d, 599951, 7298500)) rfl ?_
      refine pm_go (g := (23, [(3, .int 5), (2, .ref 25), (1, .ref 1), (0, .ref 0)], [.int 0, .int 5], g3_5 (pg xs) 10 b c d, 599951, 7298500)) rfl ?_
      refine pm_brT (g := (879, [(3, .int 5), (2, .ref 25), (1, .ref 1), (0, .ref 0)], [], g3_5 (pg xs) 10 b c d, 599951, 7298500)) rfl ?_
      refine pm_go (g := (880, [(3, .int 5), (2, .ref 25), (1, .ref 1), (0, .ref 0)], [.int 1], g3_5 (pg xs) 10 b c d, 599951, 7298500)) rfl ?_
      exact pm_ret rfl rfl
    have q7 := qF_eq (cx := a.toInt) (cy := 10) rfl (by decide) q7
    refine pm_go (g := (15, [(0, .ref 25), (1, .int (a))], [.int (a)], g3_2 (pg xs) a b c d, 0, 0)) rfl ?_
    refine pm_go (g := (17, [(0, .ref 25), (1, .int (a))], [.int 20, .int (a)], g3_2 (pg xs) a b c d, 0, 0)) rfl ?_
    refine pm_go (g := (19, [(0, .ref 25), (1, .int (a))], [.int 20, .int 20, .int (a)], g3_2 (pg xs) a b c d, 0, 0)) rfl ?_
    refine pm_go (g := (20, [(0, .ref 25), (1, .int (a))], [.ref 25, .int 20, .int 20, .int (a)], g3_2 (pg xs) a b c d, 0, 0)) rfl ?_
    refine pm_go (g := (23, [(0, .ref 25), (1, .int (a))], [.int 2, .int 20, .int 20, .int (a)], g3_2 (pg xs) a b c d, 0, 0)) rfl ?_
    refine pm_go (g := (24, [(0, .ref 25), (1, .int (a))], [.int 22, .int 20, .int (a)], g3_2 (pg xs) a b c d, 0, 0)) rfl ?_
    refine pm_go (g := (25, [(0, .ref 25), (1, .int (a))], [.int 1, .int 22, .int 20, .int (a)], g3_2 (pg xs) a b c d, 0, 0)) rfl ?_
    refine pm_go (g := (26, [(0, .ref 25), (1, .int (a))], [.int 21, .int 20, .int (a)], g3_2 (pg xs) a b c d, 0, 0)) rfl ?_
    refine pm_callD (z := 128) (as := [.int (a), .int 20, .int 21]) (rest := []) rfl ?_
    show pm_WP 128 (0, [(0, .int (a)), (1, .int 20), (2, .int 21)], [], g3_2 (pg xs) a b c d, 0, 0) _
    refine pm_go (g := (1, [(0, .int (a)), (1, .int 20), (2, .int 21)], [.int (a)], g3_2 (pg xs) a b c d, 0, 0)) rfl ?_
    refine pm_go (g := (2, [(0, .int (a)), (1, .int 20), (2, .int 21)], [.int 20, .int (a)], g3_2 (pg xs) a b c d, 0, 0)) rfl ?_
    refine pm_ifF (h := (5, [(0, .int (a)), (1, .int 20), (2, .int 21)], [], g3_2 (pg xs) a b c d, 0, 0)) rfl (rF_lt (cx := a.toInt) (cy := 20) rfl (by decide) (by omega)) ?_
    refine pm_go (g := (6, [(0, .int (a)), (1, .int 20), (2, .int 21)], [.int (a)], g3_2 (pg xs) a b c d, 0, 0)) rfl ?_
    refine pm_go (g := (7, [(0, .int (a)), (1, .int 20), (2, .int 21)], [.int 21, .int (a)], g3_2 (pg xs) a b c d, 0, 0)) rfl ?_
    refine pm_if2 (g := (14, [(0, .int (a)), (1, .int 20), (2, .int 21)], [], g3_2 (pg xs) a b c d, 0, 0)) (h := (10, [(0, .int (a)), (1, .int 20), (2, .int 21)], [], g3_2 (pg xs) a b c d, 0, 0)) rfl (fun q8 => ?_) (fun q8 => ?_)
    ·
      have q8 := qT_gt (cx := a.toInt) (cy := 21) rfl (by decide) q8
      obtain rfl : a = 30 := xI (c := 30) (by decide) (by omega)
      show pm_WP 128 (14, [(0, .int 30), (1, .int 20), (2, .int 21)], [], g3_6 (pg xs) 30 b c d, 0, 0) _
      refine pm_go (g := (15, [(0, .int 30), (1, .int 20), (2, .int 21)], [.int 0], g3_6 (pg xs) 30 b c d, 0, 0)) rfl ?_
      refine pm_ret rfl ?_
      show pm_WP 131 (29, [(0, .ref 25), (1, .int 30)], [.int 0], g3_6 (pg xs) 30 b c d, 0, 0) _
      refine pm_brF (h := (32, [(0, .ref 25), (1, .int 30)], [], g3_6 (pg xs) 30 b c d, 0, 0)) rfl ?_
      refine pm_go (g := (33, [(0, .ref 25), (1, .int 30)], [.int 30], g3_6 (pg xs) 30 b c d, 0, 0)) rfl ?_
      refine pm_go (g := (35, [(0, .ref 25), (1, .int 30)], [.int 30, .int 30], g3_6 (pg xs) 30 b c d, 0, 0)) rfl ?_
      refine pm_brF (h := (38, [(0, .ref 25), (1, .int 30)], [], g3_6 (pg xs) 30 b c d, 0, 0)) rfl ?_
      refine pm_go (g := (39, [(0, .ref 25), (1, .int 30)], [.int 1], g3_6 (pg xs) 30 b c d, 0, 0)) rfl ?_
      refine pm_go (g := (43, [(0, .ref 25), (1, .int 30)], [.int 1], g3_6 (pg xs) 30 b c d, 0, 0)) rfl ?_
      refine pm_ret rfl ?_
      show pm_WP 137 (5, [(0, .ref 25), (1, .int 30)], [.int 1], g3_6 (pg xs) 30 b c d, 0, 0) _
      refine pm_brT (g := (10, [(0, .ref 25), (1, .int 30)], [], g3_6 (pg xs) 30 b c d, 0, 0)) rfl ?_
      refine pm_go (g := (11, [(0, .ref 25), (1, .int 30)], [.ref 25], g3_6 (pg xs) 30 b c d, 0, 0)) rfl ?_
      refine pm_go (g := (14, [(0, .ref 25), (1, .int 30)], [.int 0], g3_6 (pg xs) 30 b c d, 0, 0)) rfl ?_
      refine pm_go (g := (15, [(0, .ref 25), (1, .int 30)], [.int 3, .int 0], g3_6 (pg xs) 30 b c d, 0, 0)) rfl ?_
      refine pm_brT (g := (21, [(0, .ref 25), (1, .int 30)], [], g3_6 (pg xs) 30 b c d, 0, 0)) rfl ?_
      refine pm_go (g := (22, [(0, .ref 25), (1, .int 30)], [.ref 25], g3_6 (pg xs) 30 b c d, 0, 0)) rfl ?_
      refine pm_go (g := (25, [(0, .ref 25), (1, .int 30)], [.ref 27], g3_6 (pg xs) 30 b c d, 0, 0)) rfl ?_
      refine pm_go (g := (26, [(0, .ref 25), (1, .int 30)], [.ref 25, .ref 27], g3_6 (pg xs) 30 b c d, 0, 0)) rfl ?_
      refine pm_go (g := (29, [(0, .ref 25), (1, .int 30)], [.int 0, .ref 27], g3_6 (pg xs) 30 b c d, 0, 0)) rfl ?_
      refine pm_go (g := (30, [(0, .ref 25), (1, .int 30)], [.int 30, .int 0, .ref 27], g3_6 (pg xs) 30 b c d, 0, 0)) rfl ?_
      refine pm_go (g := (31, [(0, .ref 25), (1, .int 30)], [], g3_7 (pg xs) 30 b c d, 0, 0)) rfl ?_
      refine pm_go (g := (32, [(0, .ref 25), (1, .int 30)], [.ref 25], g3_7 (pg xs) 30 b c d, 0, 0)) rfl ?_
      refine pm_go (g := (33, [(0, .ref 25), (1, .int 30)], [.ref 25, .ref 25], g3_7 (pg xs) 30 b c d, 0, 0)) rfl ?_
      refine pm_go (g := (36, [(0, .ref 25), (1, .int 30)], [.int 0, .ref 25], g3_7 (pg xs) 30 b c d, 0, 0)) rfl ?_
      refine pm_go (g := (37, [(0, .ref 25), (1, .int 30)], [.int 1, .int 0, .ref 25], g3_7 (pg xs) 30 b c d, 0, 0)) rfl ?_
      refine pm_go (g := (38, [(0, .ref 25), (1, .int 30)], [.int 1, .ref 25], g3_7 (pg xs) 30 b c d, 0, 0)) rfl ?_
      refine pm_go (g := (41, [(0, .ref 25), (1, .int 30)], [], g3_8 (pg xs) 30 b c d, 0, 0)) rfl ?_
      refine pm_go (g := (42, [(0, .ref 25), (1, .int 30)], [.ref 25], g3_8 (pg xs) 30 b c d, 0, 0)) rfl ?_
      refine pm_go (g := (45, [(0, .ref 25), (1, .int 30)], [.int 1], g3_8 (pg xs) 30 b c d, 0, 0)) rfl ?_
      refine pm_ret rfl ?_
      show pm_WP 0 (255, [(3, .int 0), (2, .ref 25), (1, .ref 1), (0, .ref 0)], [.int 1, .int 1], g3_8 (pg xs) 30 b c d, 599951, 7298500) _
      refine pm_brT (g := (873, [(3, .int 0), (2, .ref 25), (1, .ref 1), (0, .ref 0)], [], g3_8 (pg xs) 30 b c d, 599951, 7298500)) rfl ?_
      refine pm_go (g := (876, [(3, .int 5), (2, .ref 25), (1, .ref 1), (0, .ref 0)], [], g3_8 (pg xs) 30 b c d, 599951, 7298500)) rfl ?_
      refine pm_go (g := (18, [(3, .int 5), (2, .ref 25), (1, .ref 1), (0, .ref 0)], [], g3_8 (pg xs) 30 b c d, 599951, 7298500)) rfl ?_
      refine pm_go (g := (19, [(3, .int 5), (2, .ref 25), (1, .ref 1), (0, .ref 0)], [.int 5], g3_8 (pg xs) 30 b c d, 599951, 7298500)) rfl ?_
      refine pm_go (g := (20, [(3, .int 5), (2, .ref 25), (1, .ref 1), (0, .ref 0)], [.ref 0, .int 5], g3_8 (pg xs) 30 b c d, 599951, 7298500)) rfl ?_
      refine pm_go (g := (21, [(3, .int 5), (2, .ref 25), (1, .ref 1), (0, .ref 0)], [.int 5, .int 5], g3_8 (pg xs) 30 b c d, 599951, 7298500)) rfl ?_
      refine pm_go (g := (22, [(3, .int 5), (2, .ref 25), (1, .ref 1), (0, .ref 0)], [.int 5, .int 5, .int 5], g3_8 (pg xs) 30 b c d, 599951, 7298500)) rfl ?_
      refine pm_go (g := (23, [(3, .int 5), (2, .ref 25), (1, .ref 1), (0, .ref 0)], [.int 0, .int 5], g3_8 (pg xs) 30 b c d, 599951, 7298500)) rfl ?_
      refine pm_brT (g := (879, [(3, .int 5), (2, .ref 25), (1, .ref 1), (0, .ref 0)], [], g3_8 (pg xs) 30 b c d, 599951, 7298500)) rfl ?_
      refine pm_go (g := (880, [(3, .int 5), (2, .ref 25), (1, .ref 1), (0, .ref 0)], [.int 1], g3_8 (pg xs) 30 b c d, 599951, 7298500)) rfl ?_
      exact pm_ret rfl rfl
    have q8 := qF_gt (cx := a.toInt) (cy := 21) rfl (by decide) q8
    refine pm_go (g := (11, [(0, .int (a)), (1, .int 20), (2, .int 21)], [.int 1], g3_2 (pg xs) a b c d, 0, 0)) rfl ?_
    refine pm_go (g := (15, [(0, .int (a)), (1, .int 20), (2, .int 21)], [.int 1], g3_2 (pg xs) a b c d, 0, 0)) rfl ?_
    refine pm_ret rfl ?_
    show pm_WP 131 (29, [(0, .ref 25), (1, .int (a))], [.int 1], g3_2 (pg xs) a b c d, 0, 0) _
    refine pm_brT (g := (38, [(0, .ref 25), (1, .int (a))], [], g3_2 (pg xs) a b c d, 0, 0)) rfl ?_
    refine pm_go (g := (39, [(0, .ref 25), (1, .int (a))], [.int 1], g3_2 (pg xs) a b c d, 0, 0)) rfl ?_
    refine pm_go (g := (43, [(0, .ref 25), (1, .int (a))], [.int 1], g3_2 (pg xs) a b c d, 0, 0)) rfl ?_
    refine pm_ret rfl ?_
    show pm_WP 137 (5, [(0, .ref 25), (1, .int (a))], [.int 1], g3_2 (pg xs) a b c d, 0, 0) _
    refine pm_brT (g := (10, [(0, .ref 25), (1, .int (a))], [], g3_2 (pg xs) a b c d, 0, 0)) rfl ?_
    refine pm_go (g := (11, [(0, .ref 25), (1, .int (a))], [.ref 25], g3_2 (pg xs) a b c d, 0, 0)) rfl ?_
    refine pm_go (g := (14, [(0, .ref 25), (1, .int (a))], [.int 0], g3_2 (pg xs) a b c d, 0, 0)) rfl ?_
    refine pm_go (g := (15, [(0, .ref 25), (1, .int (a))], [.int 3, .int 0], g3_2 (pg xs) a b c d, 0, 0)) rfl ?_
    refine pm_brT (g := (21, [(0, .ref 25), (1, .int (a))], [], g3_2 (pg xs) a b c d, 0, 0)) rfl ?_
    refine pm_go (g := (22, [(0, .ref 25), (1, .int (a))], [.ref 25], g3_2 (pg xs) a b c d, 0, 0)) rfl ?_
    refine pm_go (g := (25, [(0, .ref 25), (1, .int (a))], [.ref 27], g3_2 (pg xs) a b c d, 0, 0)) rfl ?_
    refine pm_go (g := (26, [(0, .ref 25), (1, .int (a))], [.ref 25, .ref 27], g3_2 (pg xs) a b c d, 0, 0)) rfl ?_
    refine pm_go (g := (29, [(0, .ref 25), (1, .int (a))], [.int 0, .ref 27], g3_2 (pg xs) a b c d, 0, 0)) rfl ?_
    refine pm_go (g := (30, [(0, .ref 25), (1, .int (a))], [.int (a), .int 0, .ref 27], g3_2 (pg xs) a b c d, 0, 0)) rfl ?_
    refine pm_go (g := (31, [(0, .ref 25), (1, .int (a))], [], g3_9 (pg xs) a b c d, 0, 0)) rfl ?_
    refine pm_go (g := (32, [(0, .ref 25), (1, .int (a))], [.ref 25], g3_9 (pg xs) a b c d, 0, 0)) rfl ?_
    refine pm_go (g := (33, [(0, .ref 25), (1, .int (a))], [.ref 25, .ref 25], g3_9 (pg xs) a b c d, 0, 0)) rfl ?_
    refine pm_go (g := (36, [(0, .ref 25), (1, .int (a))], [.int 0, .ref 25], g3_9 (pg xs) a b c d, 0, 0)) rfl ?_
    refine pm_go (g := (37, [(0, .ref 25), (1, .int (a))], [.int 1, .int 0, .ref 25], g3_9 (pg xs) a b c d, 0, 0)) rfl ?_
    refine pm_go (g := (38, [(0, .ref 25), (1, .int (a))], [.int 1, .ref 25], g3_9 (pg xs) a b c d, 0, 0)) rfl ?_
    refine pm_go (g := (41, [(0, .ref 25), (1, .int (a))], [], g3_10 (pg xs) a b c d, 0, 0)) rfl ?_
    refine pm_go (g := (42, [(0, .ref 25), (1, .int (a))], [.ref 25], g3_10 (pg xs) a b c d, 0, 0)) rfl ?_
    refine pm_go (g := (45, [(0, .ref 25), (1, .int (a))], [.int 1], g3_10 (pg xs) a b c d, 0, 0)) rfl ?_
    refine pm_ret rfl ?_
    show pm_WP 0 (255, [(3, .int 0), (2, .ref 25), (1, .ref 1), (0, .ref 0)], [.int 1, .int 1], g3_10 (pg xs) a b c d, 599951, 7298500) _
    refine pm_brT (g := (873, [(3, .int 0), (2, .ref 25), (1, .ref 1), (0, .ref 0)], [], g3_10 (pg xs) a b c d, 599951, 7298500)) rfl ?_
    refine pm_go (g := (876, [(3, .int 5), (2, .ref 25), (1, .ref 1), (0, .ref 0)], [], g3_10 (pg xs) a b c d, 599951, 7298500)) rfl ?_
    refine pm_go (g := (18, [(3, .int 5), (2, .ref 25), (1, .ref 1), (0, .ref 0)], [], g3_10 (pg xs) a b c d, 599951, 7298500)) rfl ?_
    refine pm_go (g := (19, [(3, .int 5), (2, .ref 25), (1, .ref 1), (0, .ref 0)], [.int 5], g3_10 (pg xs) a b c d, 599951, 7298500)) rfl ?_
    refine pm_go (g := (20, [(3, .int 5), (2, .ref 25), (1, .ref 1), (0, .ref 0)], [.ref 0, .int 5], g3_10 (pg xs) a b c d, 599951, 7298500)) rfl ?_
    refine pm_go (g := (21, [(3, .int 5), (2, .ref 25), (1, .ref 1), (0, .ref 0)], [.int 5, .int 5], g3_10 (pg xs) a b c d, 599951, 7298500)) rfl ?_
    refine pm_go (g := (22, [(3, .int 5), (2, .ref 25), (1, .ref 1), (0, .ref 0)], [.int 5, .int 5, .int 5], g3_10 (pg xs) a b c d, 599951, 7298500)) rfl ?_
    refine pm_go (g := (23, [(3, .int 5), (2, .ref 25), (1, .ref 1), (0, .ref 0)], [.int 0, .int 5], g3_10 (pg xs) a b c d, 599951, 7298500)) rfl ?_
    refine pm_brT (g := (879, [(3, .int 5), (2, .ref 25), (1, .ref 1), (0, .ref 0)], [], g3_10 (pg xs) a b c d, 599951, 7298500)) rfl ?_
    refine pm_go (g := (880, [(3, .int 5), (2, .ref 25), (1, .ref 1), (0, .ref 0)], [.int 1], g3_10 (pg xs) a b c d, 599951, 7298500)) rfl ?_
    exact pm_ret rfl rfl
  have q6 := qF_gt (cx := a.toInt) (cy := 1) rfl (by decide) q6
  refine pm_go (g := (11, [(0, .int (a)), (1, .int 0), (2, .int 1)], [.int 1], g3_2 (pg xs) a b c d, 0, 0)) rfl ?_
  refine pm_go (g := (15, [(0, .int (a)), (1, .int 0), (2, .int 1)], [.int 1], g3_2 (pg xs) a b c d, 0, 0)) rfl ?_
  refine pm_ret rfl ?_
  show pm_WP 129 (11, [(0, .ref 25), (1, .int (a))], [.int 1], g3_2 (pg xs) a b c d, 0, 0) _
  refine pm_ret rfl ?_
  show pm_WP 131 (5, [(0, .ref 25), (1, .int (a))], [.int 1], g3_2 (pg xs) a b c d, 0, 0) _
  refine pm_brT (g := (38, [(0, .ref 25), (1, .int (a))], [], g3_2 (pg xs) a b c d, 0, 0)) rfl ?_
  refine pm_go (g := (39, [(0, .ref 25), (1, .int (a))], [.int 1], g3_2 (pg xs) a b c d, 0, 0)) rfl ?_
  refine pm_go (g := (43, [(0, .ref 25), (1, .int (a))], [.int 1], g3_2 (pg xs) a b c d, 0, 0)) rfl ?_
  refine pm_ret rfl ?_
  show pm_WP 137 (5, [(0, .ref 25), (1, .int (a))], [.int 1], g3_2 (pg xs) a b c d, 0, 0) _
  refine pm_brT (g := (10, [(0, .ref 25), (1, .int (a))], [], g3_2 (pg xs) a b c d, 0, 0)) rfl ?_
  refine pm_go (g := (11, [(0, .ref 25), (1, .int (a))], [.ref 25], g3_2 (pg xs) a b c d, 0, 0)) rfl ?_
  refine pm_go (g := (14, [(0, .ref 25), (1, .int (a))], [.int 0], g3_2 (pg xs) a b c d, 0, 0)) rfl ?_
  refine pm_go (g := (15, [(0, .ref 25), (1, .int (a))], [.int 3, .int 0], g3_2 (pg xs) a b c d, 0, 0)) rfl ?_
  refine pm_brT (g := (21, [(0, .ref 25), (1, .int (a))], [], g3_2 (pg xs) a b c d, 0, 0)) rfl ?_
  refine pm_go (g := (22, [(0, .ref 25), (1, .int (a))], [.ref 25], g3_2 (pg xs) a b c d, 0, 0)) rfl ?_
  refine pm_go (g := (25, [(0, .ref 25), (1, .int (a))], [.ref 27], g3_2 (pg xs) a b c d, 0, 0)) rfl ?_
  refine pm_go (g := (26, [(0, .ref 25), (1, .int (a))], [.ref 25, .ref 27], g3_2 (pg xs) a b c d, 0, 0)) rfl ?_
  refine pm_go (g := (29, [(0, .ref 25), (1, .int (a))], [.int 0, .ref 27], g3_2 (pg xs) a b c d, 0, 0)) rfl ?_
  refine pm_go (g := (30, [(0, .ref 25), (1, .int (a))], [.int (a), .int 0, .ref 27], g3_2 (pg xs) a b c d, 0, 0)) rfl ?_
  refine pm_go (g := (31, [(0, .ref 25), (1, .int (a))], [], g3_9 (pg xs) a b c d, 0, 0)) rfl ?_
  refine pm_go (g := (32, [(0, .ref 25), (1, .int (a))], [.ref 25], g3_9 (pg xs) a b c d, 0, 0)) rfl ?_
  refine pm_go (g := (33, [(0, .ref 25), (1, .int (a))], [.ref 25, .ref 25], g3_9 (pg xs) a b c d, 0, 0)) rfl ?_
  refine pm_go (g := (36, [(0, .ref 25), (1, .int (a))], [.int 0, .ref 25], g3_9 (pg xs) a b c d, 0, 0)) rfl ?_
  refine pm_go (g := (37, [(0, .ref 25), (1, .int (a))], [.int 1, .int 0, .ref 25], g3_9 (pg xs) a b c d, 0, 0)) rfl ?_
  refine pm_go (g := (38, [(0, .ref 25), (1, .int (a))], [.int 1, .ref 25], g3_9 (pg xs) a b c d, 0, 0)) rfl ?_
  refine pm_go (g := (41, [(0, .ref 25), (1, .int (a))], [], g3_10 (pg xs) a b c d, 0, 0)) rfl ?_
  refine pm_go (g := (42, [(0, .ref 25), (1, .int (a))], [.ref 25], g3_10 (pg xs) a b c d, 0, 0)) rfl ?_
  refine pm_go (g := (45, [(0, .ref 25), (1, .int (a))], [.int 1], g3_10 (pg xs) a b c d, 0, 0)) rfl ?_
  refine pm_ret rfl ?_
  show pm_WP 0 (255, [(3, .int 0), (2, .ref 25), (1, .ref 1), (0, .ref 0)], [.int 1, .int 1], g3_10 (pg xs) a b c d, 599951, 7298500) _
  refine pm_brT (g := (873, [(3, .int 0), (2, .ref 25), (1, .ref 1), (0, .ref 0)], [], g3_10 (pg xs) a b c d, 599951, 7298500)) rfl ?_
  refine pm_go (g := (876, [(3, .int 5), (2, .ref 25), (1, .ref 1), (0, .ref 0)], [], g3_10 (pg xs) a b c d, 599951, 7298500)) rfl ?_
  refine pm_go (g := (18, [(3, .int 5), (2, .ref 25), (1, .ref 1), (0, .ref 0)], [], g3_10 (pg xs) a b c d, 599951, 7298500)) rfl ?_
  refine pm_go (g := (19, [(3, .int 5), (2, .ref 25), (1, .ref 1), (0, .ref 0)], [.int 5], g3_10 (pg xs) a b c d, 599951, 7298500)) rfl ?_
  refine pm_go (g := (20, [(3, .int 5), (2, .ref 25), (1, .ref 1), (0, .ref 0)], [.ref 0, .int 5], g3_10 (pg xs) a b c d, 599951, 7298500)) rfl ?_
  refine pm_go (g := (21, [(3, .int 5), (2, .ref 25), (1, .ref 1), (0, .ref 0)], [.int 5, .int 5], g3_10 (pg xs) a b c d, 599951, 7298500)) rfl ?_
  refine pm_go (g := (22, [(3, .int 5), (2, .ref 25), (1, .ref 1), (0, .ref 0)], [.int 5, .int 5, .int 5], g3_10 (pg xs) a b c d, 599951, 7298500)) rfl ?_
  refine pm_go (g := (23, [(3, .int 5), (2, .ref 25), (1, .ref 1), (0, .ref 0)], [.int 0, .int 5], g3_10 (pg xs) a b c d, 599951, 7298500)) rfl ?_
  refine pm_brT (g := (879, [(3, .int 5), (2, .ref 25), (1, .ref 1), (0, .ref 0)], [], g3_10 (pg xs) a b c d, 599951, 7298500)) rfl ?_
  refine pm_go (g := (880, [(3, .int 5), (2, .ref 25), (1, .ref 1), (0, .ref 0)], [.int 1], g3_10 (pg xs) a b c d, 599951, 7298500)) rfl ?_
  exact pm_ret rfl rfl
