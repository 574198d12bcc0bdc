def g9_0 (g : pm_C) (a : Int32) (b : Int32) (c : Int32) (d : Int32) : pm_H := [g, .inr (11, [.ref 2, .ref 5, .ref 9, .ref 12, .ref 16, .ref 18, .ref 20, .int 0, .ref 21, .int 0, .ref 22, .int 0, .ref 23, .int 0, .ref 24, .int 0, .int 0]), .inr (9, [.ref 3, .ref 4, .int 2]), .inl (0, 10, .inl (upd (upd (fun _ => 0) (0) (-1)) (1) 0)), .inl (0, 31, .inl (upd (upd (upd (upd (upd (upd (upd (fun _ => 0) (0) 1) (1) 3) (10) 1024) (11) 2048) (20) 1048577) (21) 3145729) (30) 1073741825)), .inr (4, [.ref 2, .ref 6, .int 0, .ref 7, .ref 8, .long 0, .long 0, .long 0]), .inl (6, 40, .inr (.inr (.inr (.inr (fun _ => none))))), .inl (1, 10, .inr (.inl (fun _ => 0))), .inl (1, 7, .inr (.inl (fun _ => 0))), .inr (2, [.ref 2, .ref 5, .ref 10, .ref 11, .null, .int 0]), .inr (6, [.ref 2, .ref 5, .null, .int 0, .long 0, .int 0, .null]), .inr (6, [.ref 2, .ref 5, .null, .int 0, .long 0, .int 0, .null]), .inr (7, [.ref 13, .ref 14, .ref 15, .int 0]), .inl (0, 61, .inl (fun _ => 0)), .inl (0, 61, .inl (fun _ => 0)), .inl (0, 1220, .inl (fun _ => 0)), .inr (0, [.ref 5, .ref 12, .ref 17, .int 0, .int 0, .null]), .inl (0, 3, .inl (fun _ => 0)), .inr (8, [.ref 19, .int 0, .int 0]), .inl (0, 50, .inl (fun _ => 0)), .inl (0, 3, .inl (fun _ => 0)), .inl (4, 10, .inr (.inr (.inr (.inr (fun _ => none))))), .inl (8, 30, .inr (.inr (.inr (.inr (fun _ => none))))), .inl (13, 30, .inr (.inr (.inr (.inr (fun _ => none))))), .inl (0, 3, .inl (fun _ => 0)), .inr (12, [.int 2, .ref 26, .ref 27, .int 0, .int 0, .ref 28, .ref 29, .ref 30, .ref 31, .ref 32, .ref 33, .int 0, .ref 34, .ref 35, .ref 36, .int 0, .ref 37, .ref 38, .ref 39, .int 0, .ref 40, .ref 41, .ref 42, .int 0, .ref 43, .ref 44, .ref 45, .ref 46, .int 0, .ref 47, .int 0, .int 0, .ref 48, .int 0, .int 0, .int 0, .int 0, .int 0, .ref 49]), .inl (0, 10, .inl (upd (upd (fun _ => 0) (0) (-4)) (1) 0)), .inl (0, 3, .inl (fun _ => 0)), .inl (0, 40, .inl (fun _ => 0)), .inl (0, 40, .inl (fun _ => 0)), .inl (0, 40, .inl (fun _ => 0)), .inl (0, 40, .inl (fun _ => 0)), .inl (0, 40, .inl (fun _ => 0)), .inl (0, 120, .inl (fun _ => 0)), .inl (0, 10, .inl (fun _ => 0)), .inl (0, 30, .inl (fun _ => 0)), .inl (0, 10, .inl (fun _ => 0)), .inl (0, 30, .inl (fun _ => 0)), .inl (0, 30, .inl (fun _ => 0)), .inl (0, 30, .inl (fun _ => 0)), .inl (0, 61, .inl (fun _ => 0)), .inl (0, 61, .inl (fun _ => 0)), .inl (0, 1300, .inl (fun _ => 0)), .inl (0, 30, .inl (fun _ => 0)), .inl (0, 30, .inl (fun _ => 0)), .inl (0, 30, .inl (fun _ => 0)), .inl (0, 3, .inl (fun _ => 0)), .inl (0, 50, .inl (fun _ => 0)), .inl (2, 40, .inl (fun _ => 0)), .inl (0, 3, .inl (fun _ => 0))]
def g9_1 (g : pm_C) (a : Int32) (b : Int32) (c : Int32) (d : Int32) : pm_H := [g, .inr (11, [.ref 2, .ref 5, .ref 9, .ref 12, .ref 16, .ref 18, .ref 20, .int 0, .ref 21, .int 0, .ref 22, .int 0, .ref 23, .int 0, .ref 24, .int 0, .int 0]), .inr (9, [.ref 3, .ref 4, .int 2]), .inl (0, 10, .inl (upd (upd (fun _ => 0) (0) (-1)) (1) 0)), .inl (0, 31, .inl (upd (upd (upd (upd (upd (upd (upd (fun _ => 0) (0) 1) (1) 3) (10) 1024) (11) 2048) (20) 1048577) (21) 3145729) (30) 1073741825)), .inr (4, [.ref 2, .ref 6, .int 0, .ref 7, .ref 8, .long 0, .long 0, .long 0]), .inl (6, 40, .inr (.inr (.inr (.inr (fun _ => none))))), .inl (1, 10, .inr (.inl (fun _ => 0))), .inl (1, 7, .inr (.inl (fun _ => 0))), .inr (2, [.ref 2, .ref 5, .ref 10, .ref 11, .null, .int 0]), .inr (6, [.ref 2, .ref 5, .null, .int 0, .long 0, .int 0, .null]), .inr (6, [.ref 2, .ref 5, .null, .int 0, .long 0, .int 0, .null]), .inr (7, [.ref 13, .ref 14, .ref 15, .int 0]), .inl (0, 61, .inl (fun _ => 0)), .inl (0, 61, .inl (fun _ => 0)), .inl (0, 1220, .inl (fun _ => 0)), .inr (0, [.ref 5, .ref 12, .ref 17, .int 0, .int 0, .null]), .inl (0, 3, .inl (fun _ => 0)), .inr (8, [.ref 19, .int 0, .int 0]), .inl (0, 50, .inl (fun _ => 0)), .inl (0, 3, .inl (fun _ => 0)), .inl (4, 10, .inr (.inr (.inr (.inr (fun _ => none))))), .inl (8, 30, .inr (.inr (.inr (.inr (fun _ => none))))), .inl (13, 30, .inr (.inr (.inr (.inr (fun _ => none))))), .inl (0, 3, .inl (fun _ => 0)), .inr (12, [.int 2, .ref 26, .ref 27, .int 0, .int 0, .ref 28, .ref 29, .ref 30, .ref 31, .ref 32, .ref 33, .int 0, .ref 34, .ref 35, .ref 36, .int 0, .ref 37, .ref 38, .ref 39, .int 0, .ref 40, .ref 41, .ref 42, .int 0, .ref 43, .ref 44, .ref 45, .ref 46, .int 0, .ref 47, .int 0, .int 0, .ref 48, .int 0, .int 0, .int 0, .int 0, .int 0, .ref 49]), .inl (0, 10, .inl (upd (upd (fun _ => 0) (0) (-4)) (1) 0)), .inl (0, 3, .inl (fun _ => 0)), .inl (0, 40, .inl (fun _ => 0)), .inl (0, 40, .inl (fun _ => 0)), .inl (0, 40, .inl (fun _ => 0)), .inl (0, 40, .inl (fun _ => 0)), .inl (0, 40, .inl (fun _ => 0)), .inl (0, 120, .inl (fun _ => 0)), .inl (0, 10, .inl (fun _ => 0)), .inl (0, 30, .inl (fun _ => 0)), .inl (0, 10, .inl (fun _ => 0)), .inl (0, 30, .inl (fun _ => 0)), .inl (0, 30, .inl (fun _ => 0)), .inl (0, 30, .inl (fun _ => 0)), .inl (0, 61, .inl (fun _ => 0)), .inl (0, 61, .inl (fun _ => 0)), .inl (0, 1300, .inl (fun _ => 0)), .inl (0, 30, .inl (fun _ => 0)), .inl (0, 30, .inl (fun _ => 0)), .inl (0, 30, .inl (fun _ => 0)), .inl (0, 3, .inl (fun _ => 0)), .inl (0, 50, .inl (fun _ => 0)), .inl (2, 40, .inl (fun _ => 0)), .inl (0, 3, .inl (fun _ => 0)), .inr (5, [.int 0, .int 0, .int 0])]
def g9_2 (g : pm_C) (a : Int32) (b : Int32) (c : Int32) (d : Int32) : pm_H := [g, .inr (11, [.ref 2, .ref 5, .ref 9, .ref 12, .ref 16, .ref 18, .ref 20, .int 0, .ref 21, .int 0, .ref 22, .int 0, .ref 23, .int 0, .ref 24, .int 0, .int 0]), .inr (9, [.ref 3, .ref 4, .int 2]), .inl (0, 10, .inl (upd (upd (fun _ => 0) (0) (-1)) (1) 0)), .inl (0, 31, .inl (upd (upd (upd (upd (upd (upd (upd (fun _ => 0) (0) 1) (1) 3) (10) 1024) (11) 2048) (20) 1048577) (21) 3145729) (30) 1073741825)), .inr (4, [.ref 2, .ref 6, .int 0, .ref 7, .ref 8, .long 0, .long 0, .long 0]), .inl (6, 40, .inr (.inr (.inr (.inr (fun _ => none))))), .inl (1, 10, .inr (.inl (fun _ => 0))), .inl (1, 7, .inr (.inl (fun _ => 0))), .inr (2, [.ref 2, .ref 5, .ref 10, .ref 11, .null, .int 0]), .inr (6, [.ref 2, .ref 5, .null, .int 0, .long 0, .int 0, .null]), .inr (6, [.ref 2, .ref 5, .null, .int 0, .long 0, .int 0, .null]), .inr (7, [.ref 13, .ref 14, .ref 15, .int 0]), .inl (0, 61, .inl (fun _ => 0)), .inl (0, 61, .inl (fun _ => 0)), .inl (0, 1220, .inl (fun _ => 0)), .inr (0, [.ref 5, .ref 12, .ref 17, .int 0, .int 0, .null]), .inl (0, 3, .inl (fun _ => 0)), .inr (8, [.ref 19, .int 0, .int 0]), .inl (0, 50, .inl (fun _ => 0)), .inl (0, 3, .inl (fun _ => 0)), .inl (4, 10, .inr (.inr (.inr (.inr (fun _ => none))))), .inl (8, 30, .inr (.inr (.inr (.inr (fun _ => none))))), .inl (13, 30, .inr (.inr (.inr (.inr (fun _ => none))))), .inl (0, 3, .inl (fun _ => 0)), .inr (12, [.int 2, .ref 26, .ref 27, .int 0, .int 0, .ref 28, .ref 29, .ref 30, .ref 31, .ref 32, .ref 33, .int 0, .ref 34, .ref 35, .ref 36, .int 0, .ref 37, .ref 38, .ref 39, .int 0, .ref 40, .ref 41, .ref 42, .int 0, .ref 43, .ref 44, .ref 45, .ref 46, .int 0, .ref 47, .int 0, .int 0, .ref 48, .int 0, .int 0, .int 0, .int 0, .int 0, .ref 49]), .inl (0, 10, .inl (upd (upd (fun _ => 0) (0) (-4)) (1) 0)), .inl (0, 3, .inl (fun _ => 0)), .inl (0, 40, .inl (fun _ => 0)), .inl (0, 40, .inl (fun _ => 0)), .inl (0, 40, .inl (fun _ => 0)), .inl (0, 40, .inl (fun _ => 0)), .inl (0, 40, .inl (fun _ => 0)), .inl (0, 120, .inl (fun _ => 0)), .inl (0, 10, .inl (fun _ => 0)), .inl (0, 30, .inl (fun _ => 0)), .inl (0, 10, .inl (fun _ => 0)), .inl (0, 30, .inl (fun _ => 0)), .inl (0, 30, .inl (fun _ => 0)), .inl (0, 30, .inl (fun _ => 0)), .inl (0, 61, .inl (fun _ => 0)), .inl (0, 61, .inl (fun _ => 0)), .inl (0, 1300, .inl (fun _ => 0)), .inl (0, 30, .inl (fun _ => 0)), .inl (0, 30, .inl (fun _ => 0)), .inl (0, 30, .inl (fun _ => 0)), .inl (0, 3, .inl (fun _ => 0)), .inl (0, 50, .inl (fun _ => 0)), .inl (2, 40, .inl (fun _ => 0)), .inl (0, 3, .inl (fun _ => 0)), .inr (5, [.int 0, .int (b), .int 0])]
def g9_3 (g : pm_C) (a : Int32) (b : Int32) (c : Int32) (d : Int32) : pm_H := [g, .inr (11, [.ref 2, .ref 5, .ref 9, .ref 12, .ref 16, .ref 18, .ref 20, .int 0, .ref 21, .int 0, .ref 22, .int 0, .ref 23, .int 0, .ref 24, .int 0, .int 0]), .inr (9, [.ref 3, .ref 4, .int 2]), .inl (0, 10, .inl (upd (upd (fun _ => 0) (0) (-1)) (1) 0)), .inl (0, 31, .inl (upd (upd (upd (upd (upd (upd (upd (fun _ => 0) (0) 1) (1) 3) (10) 1024) (11) 2048) (20) 1048577) (21) 3145729) (30) 1073741825)), .inr (4, [.ref 2, .ref 6, .int 0, .ref 7, .ref 8, .long 0, .long 0, .long 0]), .inl (6, 40, .inr (.inr (.inr (.inr (fun _ => none))))), .inl (1, 10, .inr (.inl (fun _ => 0))), .inl (1, 7, .inr (.inl (fun _ => 0))), .inr (2, [.ref 2, .ref 5, .ref 10, .ref 11, .null, .int 0]), .inr (6, [.ref 2, .ref 5, .null, .int 0, .long 0, .int 0, .null]), .inr (6, [.ref 2, .ref 5, .null, .int 0, .long 0, .int 0, .null]), .inr (7, [.ref 13, .ref 14, .ref 15, .int 0]), .inl (0, 61, .inl (fun _ => 0)), .inl (0, 61, .inl (fun _ => 0)), .inl (0, 1220, .inl (fun _ => 0)), .inr (0, [.ref 5, .ref 12, .ref 17, .int 0, .int 0, .null]), .inl (0, 3, .inl (fun _ => 0)), .inr (8, [.ref 19, .int 0, .int 0]), .inl (0, 50, .inl (fun _ => 0)), .inl (0, 3, .inl (fun _ => 0)), .inl (4, 10, .inr (.inr (.inr (.inr (fun _ => none))))), .inl (8, 30, .inr (.inr (.inr (.inr (fun _ => none))))), .inl (13, 30, .inr (.inr (.inr (.inr (fun _ => none))))), .inl (0, 3, .inl (fun _ => 0)), .inr (12, [.int 2, .ref 26, .ref 27, .int 0, .int 0, .ref 28, .ref 29, .ref 30, .ref 31, .ref 32, .ref 33, .int 0, .ref 34, .ref 35, .ref 36, .int 0, .ref 37, .ref 38, .ref 39, .int 0, .ref 40, .ref 41, .ref 42, .int 0, .ref 43, .ref 44, .ref 45, .ref 46, .int 0, .ref 47, .int 0, .int 0, .ref 48, .int 0, .int 0, .int 0, .int 0, .int 0, .ref 49]), .inl (0, 10, .inl (upd (upd (fun _ => 0) (0) (-4)) (1) 0)), .inl (0, 3, .inl (fun _ => 0)), .inl (0, 40, .inl (fun _ => 0)), .inl (0, 40, .inl (fun _ => 0)), .inl (0, 40, .inl (fun _ => 0)), .inl (0, 40, .inl (fun _ => 0)), .inl (0, 40, .inl (fun _ => 0)), .inl (0, 120, .inl (fun _ => 0)), .inl (0, 10, .inl (fun _ => 0)), .inl (0, 30, .inl (fun _ => 0)), .inl (0, 10, .inl (fun _ => 0)), .inl (0, 30, .inl (fun _ => 0)), .inl (0, 30, .inl (fun _ => 0)), .inl (0, 30, .inl (fun _ => 0)), .inl (0, 61, .inl (fun _ => 0)), .inl (0, 61, .inl (fun _ => 0)), .inl (0, 1300, .inl (fun _ => 0)), .inl (0, 30, .inl (fun _ => 0)), .inl (0, 30, .inl (fun _ => 0)), .inl (0, 30, .inl (fun _ => 0)), .inl (0, 3, .inl (fun _ => 0)), .inl (0, 50, .inl (fun _ => 0)), .inl (2, 40, .inl (fun _ => 0)), .inl (0, 3, .inl (fun _ => 0)), .inr (5, [.int 0, .int (b), .int (c)])]
def g9_4 (g : pm_C) (a : Int32) (b : Int32) (c : Int32) (d : Int32) : pm_H := [g, .inr (11, [.ref 2, .ref 5, .ref 9, .ref 12, .ref 16, .ref 18, .ref 20, .int 0, .ref 21, .int 0, .ref 22, .int 0, .ref 23, .int 0, .ref 24, .int 0, .int 0]), .inr (9, [.ref 3, .ref 4, .int 2]), .inl (0, 10, .inl (upd (upd (fun _ => 0) (0) (-1)) (1) 0)), .inl (0, 31, .inl (upd (upd (upd (upd (upd (upd (upd (fun _ => 0) (0) 1) (1) 3) (10) 1024) (11) 2048) (20) 1048577) (21) 3145729) (30) 1073741825)), .inr (4, [.ref 2, .ref 6, .int 0, .ref 7, .ref 8, .long 0, .long 0, .long 0]), .inl (6, 40, .inr (.inr (.inr (.inr (fun _ => none))))), .inl (1, 10, .inr (.inl (fun _ => 0))), .inl (1, 7, .inr (.inl (fun _ => 0))), .inr (2, [.ref 2, .ref 5, .ref 10, .ref 11, .null, .int 0]), .inr (6, [.ref 2, .ref 5, .null, .int 0, .long 0, .int 0, .null]), .inr (6, [.ref 2, .ref 5, .null, .int 0, .long 0, .int 0, .null]), .inr (7, [.ref 13, .ref 14, .ref 15, .int 0]), .inl (0, 61, .inl (fun _ => 0)), .inl (0, 61, .inl (fun _ => 0)), .inl (0, 1220, .inl (fun _ => 0)), .inr (0, [.ref 5, .ref 12, .ref 17, .int 0, .int 0, .null]), .inl (0, 3, .inl (fun _ => 0)), .inr (8, [.ref 19, .int 0, .int 0]), .inl (0, 50, .inl (fun _ => 0)), .inl (0, 3, .inl (fun _ => 0)), .inl (4, 10, .inr (.inr (.inr (.inr (fun _ => none))))), .inl (8, 30, .inr (.inr (.inr (.inr (va_up (fun _ => none) (0) (some 50)))))), .inl (13, 30, .inr (.inr (.inr (.inr (fun _ => none))))), .inl (0, 3, .inl (fun _ => 0)), .inr (12, [.int 2, .ref 26, .ref 27, .int 0, .int 0, .ref 28, .ref 29, .ref 30, .ref 31, .ref 32, .ref 33, .int 0, .ref 34, .ref 35, .ref 36, .int 0, .ref 37, .ref 38, .ref 39, .int 0, .ref 40, .ref 41, .ref 42, .int 0, .ref 43, .ref 44, .ref 45, .ref 46, .int 0, .ref 47, .int 0, .int 0, .ref 48, .int 0, .int 0, .int 0, .int 0, .int 0, .ref 49]), .inl (0, 10, .inl (upd (upd (fun _ => 0) (0) (-4)) (1) 0)), .inl (0, 3, .inl (fun _ => 0)), .inl (0, 40, .inl (fun _ => 0)), .inl (0, 40, .inl (fun _ => 0)), .inl (0, 40, .inl (fun _ => 0)), .inl (0, 40, .inl (fun _ => 0)), .inl (0, 40, .inl (fun _ => 0)), .inl (0, 120, .inl (fun _ => 0)), .inl (0, 10, .inl (fun _ => 0)), .inl (0, 30, .inl (fun _ => 0)), .inl (0, 10, .inl (fun _ => 0)), .inl (0, 30, .inl (fun _ => 0)), .inl (0, 30, .inl (fun _ => 0)), .inl (0, 30, .inl (fun _ => 0)), .inl (0, 61, .inl (fun _ => 0)), .inl (0, 61, .inl (fun _ => 0)), .inl (0, 1300, .inl (fun _ => 0)), .inl (0, 30, .inl (fun _ => 0)), .inl (0, 30, .inl (fun _ => 0)), .inl (0, 30, .inl (fun _ => 0)), .inl (0, 3, .inl (fun _ => 0)), .inl (0, 50, .inl (fun _ => 0)), .inl (2, 40, .inl (fun _ => 0)), .inl (0, 3, .inl (fun _ => 0)), .inr (5, [.int 0, .int (b), .int (c)])]
def g9_5 (g : pm_C) (a : Int32) (b : Int32) (c : Int32) (d : Int32) : pm_H := [g, .inr (11, [.ref 2, .ref 5, .ref 9, .ref 12, .ref 16, .ref 18, .ref 20, .int 0, .ref 21, .int 0, .ref 22, .int 1, .ref 23, .int 0, .ref 24, .int 0, .int 0]), .inr (9, [.ref 3, .ref 4, .int 2]), .inl (0, 10, .inl (upd (upd (fun _ => 0) (0) (-1)) (1) 0)), .inl (0, 31, .inl (upd (upd (upd (upd (upd (upd (upd (fun _ => 0) (0) 1) (1) 3) (10) 1024) (11) 2048) (20) 1048577) (21) 3145729) (30) 1073741825)), .inr (4, [.ref 2, .ref 6, .int 0, .ref 7, .ref 8, .long 0, .long 0, .long 0]), .inl (6, 40, .inr (.inr (.inr (.inr (fun _ => none))))), .inl (1, 10, .inr (.inl (fun _ => 0))), .inl (1, 7, .inr (.inl (fun _ => 0))), .inr (2, [.ref 2, .ref 5, .ref 10, .ref 11, .null, .int 0]), .inr (6, [.ref 2, .ref 5, .null, .int 0, .long 0, .int 0, .null]), .inr (6, [.ref 2, .ref 5, .null, .int 0, .long 0, .int 0, .null]), .inr (7, [.ref 13, .ref 14, .ref 15, .int 0]), .inl (0, 61, .inl (fun _ => 0)), .inl (0, 61, .inl (fun _ => 0)), .inl (0, 1220, .inl (fun _ => 0)), .inr (0, [.ref 5, .ref 12, .ref 17, .int 0, .int 0, .null]), .inl (0, 3, .inl (fun _ => 0)), .inr (8, [.ref 19, .int 0, .int 0]), .inl (0, 50, .inl (fun _ => 0)), .inl (0, 3, .inl (fun _ => 0)), .inl (4, 10, .inr (.inr (.inr (.inr (fun _ => none))))), .inl (8, 30, .inr (.inr (.inr (.inr (va_up (fun _ => none) (0) (some 50)))))), .inl (13, 30, .inr (.inr (.inr (.inr (fun _ => none))))), .inl (0, 3, .inl (fun _ => 0)), .inr (12, [.int 2, .ref 26, .ref 27, .int 0, .int 0, .ref 28, .ref 29, .ref 30, .ref 31, .ref 32, .ref 33, .int 0, .ref 34, .ref 35, .ref 36, .int 0, .ref 37, .ref 38, .ref 39, .int 0, .ref 40, .ref 41, .ref 42, .int 0, .ref 43, .ref 44, .ref 45, .ref 46, .int 0, .ref 47, .int 0, .int 0, .ref 48, .int 0, .int 0, .int 0, .int 0, .int 0, .ref 49]), .inl (0, 10, .inl (upd (upd (fun _ => 0) (0) (-4)) (1) 0)), .inl (0, 3, .inl (fun _ => 0)), .inl (0, 40, .inl (fun _ => 0)), .inl (0, 40, .inl (fun _ => 0)), .inl (0, 40, .inl (fun _ => 0)), .inl (0, 40, .inl (fun _ => 0)), .inl (0, 40, .inl (fun _ => 0)), .inl (0, 120, .inl (fun _ => 0)), .inl (0, 10, .inl (fun _ => 0)), .inl (0, 30, .inl (fun _ => 0)), .inl (0, 10, .inl (fun _ => 0)), .inl (0, 30, .inl (fun _ => 0)), .inl (0, 30, .inl (fun _ => 0)), .inl (0, 30, .inl (fun _ => 0)), .inl (0, 61, .inl (fun _ => 0)), .inl (0, 61, .inl (fun _ => 0)), .inl (0, 1300, .inl (fun _ => 0)), .inl (0, 30, .inl (fun _ => 0)), .inl (0, 30, .inl (fun _ => 0)), .inl (0, 30, .inl (fun _ => 0)), .inl (0, 3, .inl (fun _ => 0)), .inl (0, 50, .inl (fun _ => 0)), .inl (2, 40, .inl (fun _ => 0)), .inl (0, 3, .inl (fun _ => 0)), .inr (5, [.int 0, .int (b), .int (c)])]
def g9_6 (g : pm_C) (a : Int32) (b : Int32) (c : Int32) (d : Int32) : pm_H := [g, .inr (11, [.ref 2, .ref 5, .ref 9, .ref 12, .ref 16, .ref 18, .ref 20, .int 0, .ref 21, .int 0, .ref 22, .int 1, .ref 23, .int 0, .ref 24, .int 0, .int 0]), .inr (9, [.ref 3, .ref 4, .int 2]), .inl (0, 10, .inl (upd (upd (fun _ => 0) (0) (-1)) (1) 0)), .inl (0, 31, .inl (upd (upd (upd (upd (upd (upd (upd (fun _ => 0) (0) 1) (1) 3) (10) 1024) (11) 2048) (20) 1048577) (21) 3145729) (30) 1073741825)), .inr (4, [.ref 2, .ref 6, .int 0, .ref 7, .ref 8, .long 0, .long 0, .long 0]), .inl (6, 40, .inr (.inr (.inr (.inr (fun _ => none))))), .inl (1, 10, .inr (.inl (fun _ => 0))), .inl (1, 7, .inr (.inl (fun _ => 0))), .inr (2, [.ref 2, .ref 5, .ref 10, .ref 11, .null, .int 0]), .inr (6, [.ref 2, .ref 5, .null, .int 0, .long 0, .int 0, .null]), .inr (6, [.ref 2, .ref 5, .null, .int 0, .long 0, .int 0, .null]), .inr (7, [.ref 13, .ref 14, .ref 15, .int 0]), .inl (0, 61, .inl (fun _ => 0)), .inl (0, 61, .inl (fun _ => 0)), .inl (0, 1220, .inl (fun _ => 0)), .inr (0, [.ref 5, .ref 12, .ref 17, .int 0, .int 0, .null]), .inl (0, 3, .inl (fun _ => 0)), .inr (8, [.ref 19, .int 0, .int 0]), .inl (0, 50, .inl (fun _ => 0)), .inl (0, 3, .inl (fun _ => 0)), .inl (4, 10, .inr (.inr (.inr (.inr (fun _ => none))))), .inl (8, 30, .inr (.inr (.inr (.inr (va_up (fun _ => none) (0) (some 50)))))), .inl (13, 30, .inr (.inr (.inr (.inr (fun _ => none))))), .inl (0, 3, .inl (fun _ => 0)), .inr (12, [.int 2, .ref 26, .ref 27, .int 0, .int 0, .ref 28, .ref 29, .ref 30, .ref 31, .ref 32, .ref 33, .int 0, .ref 34, .ref 35, .ref 36, .int 0, .ref 37, .ref 38, .ref 39, .int 0, .ref 40, .ref 41, .ref 42, .int 0, .ref 43, .ref 44, .ref 45, .ref 46, .int 0, .ref 47, .int 0, .int 0, .ref 48, .int 0, .int 0, .int 0, .int 0, .int 0, .ref 49]), .inl (0, 10, .inl (upd (upd (fun _ => 0) (0) (-4)) (1) 0)), .inl (0, 3, .inl (fun _ => 0)), .inl (0, 40, .inl (fun _ => 0)), .inl (0, 40, .inl (fun _ => 0)), .inl (0, 40, .inl (fun _ => 0)), .inl (0, 40, .inl (fun _ => 0)), .inl (0, 40, .inl (fun _ => 0)), .inl (0, 120, .inl (fun _ => 0)), .inl (0, 10, .inl (fun _ => 0)), .inl (0, 30, .inl (fun _ => 0)), .inl (0, 10, .inl (fun _ => 0)), .inl (0, 30, .inl (upd (fun _ => 0) (0) 0)), .inl (0, 30, .inl (fun _ => 0)), .inl (0, 30, .inl (fun _ => 0)), .inl (0, 61, .inl (fun _ => 0)), .inl (0, 61, .inl (fun _ => 0)), .inl (0, 1300, .inl (fun _ => 0)), .inl (0, 30, .inl (fun _ => 0)), .inl (0, 30, .inl (fun _ => 0)), .inl (0, 30, .inl (fun _ => 0)), .inl (0, 3, .inl (fun _ => 0)), .inl (0, 50, .inl (fun _ => 0)), .inl (2, 40, .inl (fun _ => 0)), .inl (0, 3, .inl (fun _ => 0)), .inr (5, [.int 0, .int (b), .int (c)])]
def g9_7 (g : pm_C) (a : Int32) (b : Int32) (c : Int32) (d : Int32) : pm_H := [g, .inr (11, [.ref 2, .ref 5, .ref 9, .ref 12, .ref 16, .ref 18, .ref 20, .int 0, .ref 21, .int 0, .ref 22, .int 1, .ref 23, .int 0, .ref 24, .int 0, .int 0]), .inr (9, [.ref 3, .ref 4, .int 2]), .inl (0, 10, .inl (upd (upd (fun _ => 0) (0) (-1)) (1) 0)), .inl (0, 31, .inl (upd (upd (upd (upd (upd (upd (upd (fun _ => 0) (0) 1) (1) 3) (10) 1024) (11) 2048) (20) 1048577) (21) 3145729) (30) 1073741825)), .inr (4, [.ref 2, .ref 6, .int 0, .ref 7, .ref 8, .long 0, .long 0, .long 0]), .inl (6, 40, .inr (.inr (.inr (.inr (fun _ => none))))), .inl (1, 10, .inr (.inl (fun _ => 0))), .inl (1, 7, .inr (.inl (fun _ => 0))), .inr (2, [.ref 2, .ref 5, .ref 10, .ref 11, .null, .int 0]), .inr (6, [.ref 2, .ref 5, .null, .int 0, .long 0, .int 0, .null]), .inr (6, [.ref 2, .ref 5, .null, .int 0, .long 0, .int 0, .null]), .inr (7, [.ref 13, .ref 14, .ref 15, .int 0]), .inl (0, 61, .inl (fun _ => 0)), .inl (0, 61, .inl (fun _ => 0)), .inl (0, 1220, .inl (fun _ => 0)), .inr (0, [.ref 5, .ref 12, .ref 17, .int 0, .int 0, .null]), .inl (0, 3, .inl (fun _ => 0)), .inr (8, [.ref 19, .int 0, .int 0]), .inl (0, 50, .inl (fun _ => 0)), .inl (0, 3, .inl (fun _ => 0)), .inl (4, 10, .inr (.inr (.inr (.inr (fun _ => none))))), .inl (8, 30, .inr (.inr (.inr (.inr (va_up (fun _ => none) (0) (some 50)))))), .inl (13, 30, .inr (.inr (.inr (.inr (fun _ => none))))), .inl (0, 3, .inl (fun _ => 0)), .inr (12, [.int 2, .ref 26, .ref 27, .int 0, .int 0, .ref 28, .ref 29, .ref 30, .ref 31, .ref 32, .ref 33, .int 0, .ref 34, .ref 35, .ref 36, .int 0, .ref 37, .ref 38, .ref 39, .int 0, .ref 40, .ref 41, .ref 42, .int 0, .ref 43, .ref 44, .ref 45, .ref 46, .int 0, .ref 47, .int 0, .int 0, .ref 48, .int 0, .int 0, .int 0, .int 0, .int 0, .ref 49]), .inl (0, 10, .inl (upd (upd (fun _ => 0) (0) (-4)) (1) 0)), .inl (0, 3, .inl (fun _ => 0)), .inl (0, 40, .inl (fun _ => 0)), .inl (0, 40, .inl (fun _ => 0)), .inl (0, 40, .inl (fun _ => 0)), .inl (0, 40, .inl (fun _ => 0)), .inl (0, 40, .inl (fun _ => 0)), .inl (0, 120, .inl (fun _ => 0)), .inl (0, 10, .inl (fun _ => 0)), .inl (0, 30, .inl (fun _ => 0)), .inl (0, 10, .inl (fun _ => 0)), .inl (0, 30, .inl (upd (fun _ => 0) (0) 0)), .inl (0, 30, .inl (upd (fun _ => 0) (0) b)), .inl (0, 30, .inl (fun _ => 0)), .inl (0, 61, .inl (fun _ => 0)), .inl (0, 61, .inl (fun _ => 0)), .inl (0, 1300, .inl (fun _ => 0)), .inl (0, 30, .inl (fun _ => 0)), .inl (0, 30, .inl (fun _ => 0)), .inl (0, 30, .inl (fun _ => 0)), .inl (0, 3, .inl (fun _ => 0)), .inl (0, 50, .inl (fun _ => 0)), .inl (2, 40, .inl (fun _ => 0)), .inl (0, 3, .inl (fun _ => 0)), .inr (5, [.int 0, .int (b), .int (c)])]
def g9_8 (g : pm_C) (a : Int32) (b : Int32) (c : Int32) (d : Int32) : pm_H := [g, .inr (11, [.ref 2, .ref 5, .ref 9, .ref 12, .ref 16, .ref 18, .ref 20, .int 0, .ref 21, .int 0, .ref 22, .int 1, .ref 23, .int 0, .ref 24, .int 0, .int 0]), .inr (9, [.ref 3, .ref 4, .int 2]), .inl (0, 10, .inl (upd (upd (fun _ => 0) (0) (-1)) (1) 0)), .inl (0, 31, .inl (upd (upd (upd (upd (upd (upd (upd (fun _ => 0) (0) 1) (1) 3) (10) 1024) (11) 2048) (20) 1048577) (21) 3145729) (30) 1073741825)), .inr (4, [.ref 2, .ref 6, .int 0, .ref 7, .ref 8, .long 0, .long 0, .long 0]), .inl (6, 40, .inr (.inr (.inr (.inr (fun _ => none))))), .inl (1, 10, .inr (.inl (fun _ => 0))), .inl (1, 7, .inr (.inl (fun _ => 0))), .inr (2, [.ref 2, .ref 5, .ref 10, .ref 11, .null, .int 0]), .inr (6, [.ref 2, .ref 5, .null, .int 0, .long 0, .int 0, .null]), .inr (6, [.ref 2, .ref 5, .null, .int 0, .long 0, .int 0, .null]), .inr (7, [.ref 13, .ref 14, .ref 15, .int 0]), .inl (0, 61, .inl (fun _ => 0)), .inl (0, 61, .inl (fun _ => 0)), .inl (0, 1220, .inl (fun _ => 0)), .inr (0, [.ref 5, .ref 12, .ref 17, .int 0, .int 0, .null]), .inl (0, 3, .inl (fun _ => 0)), .inr (8, [.ref 19, .int 0, .int 0]), .inl (0, 50, .inl (fun _ => 0)), .inl (0, 3, .inl (fun _ => 0)), .inl (4, 10, .inr (.inr (.inr (.inr (fun _ => none))))), .inl (8, 30, .inr (.inr (.inr (.inr (va_up (fun _ => none) (0) (some 50)))))), .inl (13, 30, .inr (.inr (.inr (.inr (fun _ => none))))), .inl (0, 3, .inl (fun _ => 0)), .inr (12, [.int 2, .ref 26, .ref 27, .int 0, .int 0, .ref 28, .ref 29, .ref 30, .ref 31, .ref 32, .ref 33, .int 0, .ref 34, .ref 35, .ref 36, .int 0, .ref 37, .ref 38, .ref 39, .int 0, .ref 40, .ref 41, .ref 42, .int 0, .ref 43, .ref 44, .ref 45, .ref 46, .int 0, .ref 47, .int 0, .int 0, .ref 48, .int 0, .int 0, .int 0, .int 0, .int 0, .ref 49]), .inl (0, 10, .inl (upd (upd (fun _ => 0) (0) (-4)) (1) 0)), .inl (0, 3, .inl (fun _ => 0)), .inl (0, 40, .inl (fun _ => 0)), .inl (0, 40, .inl (fun _ => 0)), .inl (0, 40, .inl (fun _ => 0)), .inl (0, 40, .inl (fun _ => 0)), .inl (0, 40, .inl (fun _ => 0)), .inl (0, 120, .inl (fun _ => 0)), .inl (0, 10, .inl (fun _ => 0)), .inl (0, 30, .inl (fun _ => 0)), .inl (0, 10, .inl (fun _ => 0)), .inl (0, 30, .inl (upd (fun _ => 0) (0) 0)), .inl (0, 30, .inl (upd (fun _ => 0) (0) b)), .inl (0, 30, .inl (upd (fun _ => 0) (0) c)), .inl (0, 61, .inl (fun _ => 0)), .inl (0, 61, .inl (fun _ => 0)), .inl (0, 1300, .inl (fun _ => 0)), .inl (0, 30, .inl (fun _ => 0)), .inl (0, 30, .inl (fun _ => 0)), .inl (0, 30, .inl (fun _ => 0)), .inl (0, 3, .inl (fun _ => 0)), .inl (0, 50, .inl (fun _ => 0)), .inl (2, 40, .inl (fun _ => 0)), .inl (0, 3, .inl (fun _ => 0)), .inr (5, [.int 0, .int (b), .int (c)])]
def g9_9 (g : pm_C) (a : Int32) (b : Int32) (c : Int32) (d : Int32) : pm_H := [g, .inr (11, [.ref 2, .ref 5, .ref 9, .ref 12, .ref 16, .ref 18, .ref 20, .int 0, .ref 21, .int 0, .ref 22, .int 1, .ref 23, .int 0, .ref 24, .int 0, .int 0]), .inr (9, [.ref 3, .ref 4, .int 2]), .inl (0, 10, .inl (upd (upd (fun _ => 0) (0) (-1)) (1) 0)), .inl (0, 31, .inl (upd (upd (upd (upd (upd (upd (upd (fun _ => 0) (0) 1) (1) 3) (10) 1024) (11) 2048) (20) 1048577) (21) 3145729) (30) 1073741825)), .inr (4, [.ref 2, .ref 6, .int 0, .ref 7, .ref 8, .long 0, .long 0, .long 0]), .inl (6, 40, .inr (.inr (.inr (.inr (fun _ => none))))), .inl (1, 10, .inr (.inl (fun _ => 0))), .inl (1, 7, .inr (.inl (fun _ => 0))), .inr (2, [.ref 2, .ref 5, .ref 10, .ref 11, .null, .int 0]), .inr (6, [.ref 2, .ref 5, .null, .int 0, .long 0, .int 0, .null]), .inr (6, [.ref 2, .ref 5, .null, .int 0, .long 0, .int 0, .null]), .inr (7, [.ref 13, .ref 14, .ref 15, .int 0]), .inl (0, 61, .inl (fun _ => 0)), .inl (0, 61, .inl (fun _ => 0)), .inl (0, 1220, .inl (fun _ => 0)), .inr (0, [.ref 5, .ref 12, .ref 17, .int 0, .int 0, .null]), .inl (0, 3, .inl (fun _ => 0)), .inr (8, [.ref 19, .int 0, .int 0]), .inl (0, 50, .inl (fun _ => 0)), .inl (0, 3, .inl (fun _ => 0)), .inl (4, 10, .inr (.inr (.inr (.inr (fun _ => none))))), .inl (8, 30, .inr (.inr (.inr (.inr (va_up (fun _ => none) (0) (some 50)))))), .inl (13, 30, .inr (.inr (.inr (.inr (fun _ => none))))), .inl (0, 3, .inl (fun _ => 0)), .inr (12, [.int 2, .ref 26, .ref 27, .int 0, .int 0, .ref 28, .ref 29, .ref 30, .ref 31, .ref 32, .ref 33, .int 0, .ref 34, .ref 35, .ref 36, .int 1, .ref 37, .ref 38, .ref 39, .int 0, .ref 40, .ref 41, .ref 42, .int 0, .ref 43, .ref 44, .ref 45, .ref 46, .int 0, .ref 47, .int 0, .int 0, .ref 48, .int 0, .int 0, .int 0, .int 0, .int 0, .ref 49]), .inl (0, 10, .inl (upd (upd (fun _ => 0) (0) (-4)) (1) 0)), .inl (0, 3, .inl (fun _ => 0)), .inl (0, 40, .inl (fun _ => 0)), .inl (0, 40, .inl (fun _ => 0)), .inl (0, 40, .inl (fun _ => 0)), .inl (0, 40, .inl (fun _ => 0)), .inl (0, 40, .inl (fun _ => 0)), .inl (0, 120, .inl (fun _ => 0)), .inl (0, 10, .inl (fun _ => 0)), .inl (0, 30, .inl (fun _ => 0)), .inl (0, 10, .inl (fun _ => 0)), .inl (0, 30, .inl (upd (fun _ => 0) (0) 0)), .inl (0, 30, .inl (upd (fun _ => 0) (0) b)), .inl (0, 30, .inl (upd (fun _ => 0) (0) c)), .inl (0, 61, .inl (fun _ => 0)), .inl (0, 61, .inl (fun _ => 0)), .inl (0, 1300, .inl (fun _ => 0)), .inl (0, 30, .inl (fun _ => 0)), .inl (0, 30, .inl (fun _ => 0)), .inl (0, 30, .inl (fun _ => 0)), .inl (0, 3, .inl (fun _ => 0)), .inl (0, 50, .inl (fun _ => 0)), .inl (2, 40, .inl (fun _ => 0)), .inl (0, 3, .inl (fun _ => 0)), .inr (5, [.int 0, .int (b), .int (c)])]
def g9_10 (g : pm_C) (a : Int32) (b : Int32) (c : Int32) (d : Int32) : pm_H := [g, .inr (11, [.ref 2, .ref 5, .ref 9, .ref 12, .ref 16, .ref 18, .ref 20, .int 0, .ref 21, .int 0, .ref 22, .int 0, .ref 23, .int 0, .ref 24, .int 0, .int 0]), .inr (9, [.ref 3, .ref 4, .int 2]), .inl (0, 10, .inl (upd (upd (fun _ => 0) (0) (-1)) (1) 0)), .inl (0, 31, .inl (upd (upd (upd (upd (upd (upd (upd (fun _ => 0) (0) 1) (1) 3) (10) 1024) (11) 2048) (20) 1048577) (21) 3145729) (30) 1073741825)), .inr (4, [.ref 2, .ref 6, .int 0, .ref 7, .ref 8, .long 0, .long 0, .long 0]), .inl (6, 40, .inr (.inr (.inr (.inr (fun _ => none))))), .inl (1, 10, .inr (.inl (fun _ => 0))), .inl (1, 7, .inr (.inl (fun _ => 0))), .inr (2, [.ref 2, .ref 5, .ref 10, .ref 11, .null, .int 0]), .inr (6, [.ref 2, .ref 5, .null, .int 0, .long 0, .int 0, .null]), .inr (6, [.ref 2, .ref 5, .null, .int 0, .long 0, .int 0, .null]), .inr (7, [.ref 13, .ref 14, .ref 15, .int 0]), .inl (0, 61, .inl (fun _ => 0)), .inl (0, 61, .inl (fun _ => 0)), .inl (0, 1220, .inl (fun _ => 0)), .inr (0, [.ref 5, .ref 12, .ref 17, .int 0, .int 0, .null]), .inl (0, 3, .inl (fun _ => 0)), .inr (8, [.ref 19, .int 0, .int 0]), .inl (0, 50, .inl (fun _ => 0)), .inl (0, 3, .inl (fun _ => 0)), .inl (4, 10, .inr (.inr (.inr (.inr (fun _ => none))))), .inl (8, 30, .inr (.inr (.inr (.inr (fun _ => none))))), .inl (13, 30, .inr (.inr (.inr (.inr (fun _ => none))))), .inl (0, 3, .inl (fun _ => 0)), .inr (12, [.int 2, .ref 26, .ref 27, .int 0, .int 0, .ref 28, .ref 29, .ref 30, .ref 31, .ref 32, .ref 33, .int 0, .ref 34, .ref 35, .ref 36, .int 0, .ref 37, .ref 38, .ref 39, .int 0, .ref 40, .ref 41, .ref 42, .int 0, .ref 43, .ref 44, .ref 45, .ref 46, .int 0, .ref 47, .int 0, .int 0, .ref 48, .int 0, .int 0, .int 0, .int 0, .int 0, .ref 49]), .inl (0, 10, .inl (upd (upd (fun _ => 0) (0) (-4)) (1) 0)), .inl (0, 3, .inl (fun _ => 0)), .inl (0, 40, .inl (fun _ => 0)), .inl (0, 40, .inl (fun _ => 0)), .inl (0, 40, .inl (fun _ => 0)), .inl (0, 40, .inl (fun _ => 0)), .inl (0, 40, .inl (fun _ => 0)), .inl (0, 120, .inl (fun _ => 0)), .inl (0, 10, .inl (fun _ => 0)), .inl (0, 30, .inl (fun _ => 0)), .inl (0, 10, .inl (fun _ => 0)), .inl (0, 30, .inl (fun _ => 0)), .inl (0, 30, .inl (fun _ => 0)), .inl (0, 30, .inl (fun _ => 0)), .inl (0, 61, .inl (fun _ => 0)), .inl (0, 61, .inl (fun _ => 0)), .inl (0, 1300, .inl (fun _ => 0)), .inl (0, 30, .inl (fun _ => 0)), .inl (0, 30, .inl (fun _ => 0)), .inl (0, 30, .inl (fun _ => 0)), .inl (0, 3, .inl (fun _ => 0)), .inl (0, 50, .inl (fun _ => 0)), .inl (2, 40, .inl (fun _ => 0)), .inl (0, 3, .inl (fun _ => 0)), .inr (5, [.int 1, .int 0, .int 0])]
def g9_11 (g : pm_C) (a : Int32) (b : Int32) (c : Int32) (d : Int32) : pm_H := [g, .inr (11, [.ref 2, .ref 5, .ref 9, .ref 12, .ref 16, .ref 18, .ref 20, .int 0, .ref 21, .int 0, .ref 22, .int 0, .ref 23, .int 0, .ref 24, .int 0, .int 0]), .inr (9, [.ref 3, .ref 4, .int 2]), .inl (0, 10, .inl (upd (upd (fun _ => 0) (0) (-1)) (1) 0)), .inl (0, 31, .inl (upd (upd (upd (upd (upd (upd (upd (fun _ => 0) (0) 1) (1) 3) (10) 1024) (11) 2048) (20) 1048577) (21) 3145729) (30) 1073741825)), .inr (4, [.ref 2, .ref 6, .int 0, .ref 7, .ref 8, .long 0, .long 0, .long 0]), .inl (6, 40, .inr (.inr (.inr (.inr (fun _ => none))))), .inl (1, 10, .inr (.inl (fun _ => 0))), .inl (1, 7, .inr (.inl (fun _ => 0))), .inr (2, [.ref 2, .ref 5, .ref 10, .ref 11, .null, .int 0]), .inr (6, [.ref 2, .ref 5, .null, .int 0, .long 0, .int 0, .null]), .inr (6, [.ref 2, .ref 5, .null, .int 0, .long 0, .int 0, .null]), .inr (7, [.ref 13, .ref 14, .ref 15, .int 0]), .inl (0, 61, .inl (fun _ => 0)), .inl (0, 61, .inl (fun _ => 0)), .inl (0, 1220, .inl (fun _ => 0)), .inr (0, [.ref 5, .ref 12, .ref 17, .int 0, .int 0, .null]), .inl (0, 3, .inl (fun _ => 0)), .inr (8, [.ref 19, .int 0, .int 0]), .inl (0, 50, .inl (fun _ => 0)), .inl (0, 3, .inl (fun _ => 0)), .inl (4, 10, .inr (.inr (.inr (.inr (fun _ => none))))), .inl (8, 30, .inr (.inr (.inr (.inr (fun _ => none))))), .inl (13, 30, .inr (.inr (.inr (.inr (fun _ => none))))), .inl (0, 3, .inl (fun _ => 0)), .inr (12, [.int 2, .ref 26, .ref 27, .int 0, .int 0, .ref 28, .ref 29, .ref 30, .ref 31, .ref 32, .ref 33, .int 0, .ref 34, .ref 35, .ref 36, .int 0, .ref 37, .ref 38, .ref 39, .int 0, .ref 40, .ref 41, .ref 42, .int 0, .ref 43, .ref 44, .ref 45, .ref 46, .int 0, .ref 47, .int 0, .int 0, .ref 48, .int 0, .int 0, .int 0, .int 0, .int 0, .ref 49]), .inl (0, 10, .inl (upd (upd (fun _ => 0) (0) (-4)) (1) 0)), .inl (0, 3, .inl (fun _ => 0)), .inl (0, 40, .inl (fun _ => 0)), .inl (0, 40, .inl (fun _ => 0)), .inl (0, 40, .inl (fun _ => 0)), .inl (0, 40, .inl (fun _ => 0)), .inl (0, 40, .inl (fun _ => 0)), .inl (0, 120, .inl (fun _ => 0)), .inl (0, 10, .inl (fun _ => 0)), .inl (0, 30, .inl (fun _ => 0)), .inl (0, 10, .inl (fun _ => 0)), .inl (0, 30, .inl (fun _ => 0)), .inl (0, 30, .inl (fun _ => 0)), .inl (0, 30, .inl (fun _ => 0)), .inl (0, 61, .inl (fun _ => 0)), .inl (0, 61, .inl (fun _ => 0)), .inl (0, 1300, .inl (fun _ => 0)), .inl (0, 30, .inl (fun _ => 0)), .inl (0, 30, .inl (fun _ => 0)), .inl (0, 30, .inl (fun _ => 0)), .inl (0, 3, .inl (fun _ => 0)), .inl (0, 50, .inl (fun _ => 0)), .inl (2, 40, .inl (fun _ => 0)), .inl (0, 3, .inl (fun _ => 0)), .inr (5, [.int 1, .int (b), .int 0])]
def g9_12 (g : pm_C) (a : Int32) (b : Int32) (c : Int32) (d : Int32) : pm_H := [g, .inr (11, [.ref 2, .ref 5, .ref 9, .ref 12, .ref 16, .ref 18, .ref 20, .int 0, .ref 21, .int 0, .ref 22, .int 0, .ref 23, .int 0, .ref 24, .int 0, .int 0]), .inr (9, [.ref 3, .ref 4, .int 2]), .inl (0, 10, .inl (upd (upd (fun _ => 0) (0) (-1)) (1) 0)), .inl (0, 31, .inl (upd (upd (upd (upd (upd (upd (upd (fun _ => 0) (0) 1) (1) 3) (10) 1024) (11) 2048) (20) 1048577) (21) 3145729) (30) 1073741825)), .inr (4, [.ref 2, .ref 6, .int 0, .ref 7, .ref 8, .long 0, .long 0, .long 0]), .inl (6, 40, .inr (.inr (.inr (.inr (fun _ => none))))), .inl (1, 10, .inr (.inl (fun _ => 0))), .inl (1, 7, .inr (.inl (fun _ => 0))), .inr (2, [.ref 2, .ref 5, .ref 10, .ref 11, .null, .int 0]), .inr (6, [.ref 2, .ref 5, .null, .int 0, .long 0, .int 0, .null]), .inr (6, [.ref 2, .ref 5, .null, .int 0, .long 0, .int 0, .null]), .inr (7, [.ref 13, .ref 14, .ref 15, .int 0]), .inl (0, 61, .inl (fun _ => 0)), .inl (0, 61, .inl (fun _ => 0)), .inl (0, 1220, .inl (fun _ => 0)), .inr (0, [.ref 5, .ref 12, .ref 17, .int 0, .int 0, .null]), .inl (0, 3, .inl (fun _ => 0)), .inr (8, [.ref 19, .int 0, .int 0]), .inl (0, 50, .inl (fun _ => 0)), .inl (0, 3, .inl (fun _ => 0)), .inl (4, 10, .inr (.inr (.inr (.inr (fun _ => none))))), .inl (8, 30, .inr (.inr (.inr (.inr (fun _ => none))))), .inl (13, 30, .inr (.inr (.inr (.inr (fun _ => none))))), .inl (0, 3, .inl (fun _ => 0)), .inr (12, [.int 2, .ref 26, .ref 27, .int 0, .int 0, .ref 28, .ref 29, .ref 30, .ref 31, .ref 32, .ref 33, .int 0, .ref 34, .ref 35, .ref 36, .int 0, .ref 37, .ref 38, .ref 39, .int 0, .ref 40, .ref 41, .ref 42, .int 0, .ref 43, .ref 44, .ref 45, .ref 46, .int 0, .ref 47, .int 0, .int 0, .ref 48, .int 0, .int 0, .int 0, .int 0, .int 0, .ref 49]), .inl (0, 10, .inl (upd (upd (fun _ => 0) (0) (-4)) (1) 0)), .inl (0, 3, .inl (fun _ => 0)), .inl (0, 40, .inl (fun _ => 0)), .inl (0, 40, .inl (fun _ => 0)), .inl (0, 40, .inl (fun _ => 0)), .inl (0, 40, .inl (fun _ => 0)), .inl (0, 40, .inl (fun _ => 0)), .inl (0, 120, .inl (fun _ => 0)), .inl (0, 10, .inl (fun _ => 0)), .inl (0, 30, .inl (fun _ => 0)), .inl (0, 10, .inl (fun _ => 0)), .inl (0, 30, .inl (fun _ => 0)), .inl (0, 30, .inl (fun _ => 0)), .inl (0, 30, .inl (fun _ => 0)), .inl (0, 61, .inl (fun _ => 0)), .inl (0, 61, .inl (fun _ => 0)), .inl (0, 1300, .inl (fun _ => 0)), .inl (0, 30, .inl (fun _ => 0)), .inl (0, 30, .inl (fun _ => 0)), .inl (0, 30, .inl (fun _ => 0)), .inl (0, 3, .inl (fun _ => 0)), .inl (0, 50, .inl (fun _ => 0)), .inl (2, 40, .inl (fun _ => 0)), .inl (0, 3, .inl (fun _ => 0)), .inr (5, [.int 1, .int (b), .int (c)])]
def g9_13 (g : pm_C) (a : Int32) (b : Int32) (c : Int32) (d : Int32) : pm_H := [g, .inr (11, [.ref 2, .ref 5, .ref 9, .ref 12, .ref 16, .ref 18, .ref 20, .int 0, .ref 21, .int 0, .ref 22, .int 0, .ref 23, .int 0, .ref 24, .int 0, .int 0]), .inr (9, [.ref 3, .ref 4, .int 2]), .inl (0, 10, .inl (upd (upd (fun _ => 0) (0) (-1)) (1) 0)), .inl (0, 31, .inl (upd (upd (upd (upd (upd (upd (upd (fun _ => 0) (0) 1) (1) 3) (10) 1024) (11) 2048) (20) 1048577) (21) 3145729) (30) 1073741825)), .inr (4, [.ref 2, .ref 6, .int 0, .ref 7, .ref 8, .long 0, .long 0, .long 0]), .inl (6, 40, .inr (.inr (.inr (.inr (fun _ => none))))), .inl (1, 10, .inr (.inl (fun _ => 0))), .inl (1, 7, .inr (.inl (fun _ => 0))), .inr (2, [.ref 2, .ref 5, .ref 10, .ref 11, .null, .int 0]), .inr (6, [.ref 2, .ref 5, .null, .int 0, .long 0, .int 0, .null]), .inr (6, [.ref 2, .ref 5, .null, .int 0, .long 0, .int 0, .null]), .inr (7, [.ref 13, .ref 14, .ref 15, .int 0]), .inl (0, 61, .inl (fun _ => 0)), .inl (0, 61, .inl (fun _ => 0)), .inl (0, 1220, .inl (fun _ => 0)), .inr (0, [.ref 5, .ref 12, .ref 17, .int 0, .int 0, .null]), .inl (0, 3, .inl (fun _ => 0)), .inr (8, [.ref 19, .int 0, .int 0]), .inl (0, 50, .inl (fun _ => 0)), .inl (0, 3, .inl (fun _ => 0)), .inl (4, 10, .inr (.inr (.inr (.inr (fun _ => none))))), .inl (8, 30, .inr (.inr (.inr (.inr (va_up (fun _ => none) (0) (some 50)))))), .inl (13, 30, .inr (.inr (.inr (.inr (fun _ => none))))), .inl (0, 3, .inl (fun _ => 0)), .inr (12, [.int 2, .ref 26, .ref 27, .int 0, .int 0, .ref 28, .ref 29, .ref 30, .ref 31, .ref 32, .ref 33, .int 0, .ref 34, .ref 35, .ref 36, .int 0, .ref 37, .ref 38, .ref 39, .int 0, .ref 40, .ref 41, .ref 42, .int 0, .ref 43, .ref 44, .ref 45, .ref 46, .int 0, .ref 47, .int 0, .int 0, .ref 48, .int 0, .int 0, .int 0, .int 0, .int 0, .ref 49]), .inl (0, 10, .inl (upd (upd (fun _ => 0) (0) (-4)) (1) 0)), .inl (0, 3, .inl (fun _ => 0)), .inl (0, 40, .inl (fun _ => 0)), .inl (0, 40, .inl (fun _ => 0)), .inl (0, 40, .inl (fun _ => 0)), .inl (0, 40, .inl (fun _ => 0)), .inl (0, 40, .inl (fun _ => 0)), .inl (0, 120, .inl (fun _ => 0)), .inl (0, 10, .inl (fun _ => 0)), .inl (0, 30, .inl (fun _ => 0)), .inl (0, 10, .inl (fun _ => 0)), .inl (0, 30, .inl (fun _ => 0)), .inl (0, 30, .inl (fun _ => 0)), .inl (0, 30, .inl (fun _ => 0)), .inl (0, 61, .inl (fun _ => 0)), .inl (0, 61, .inl (fun _ => 0)), .inl (0, 1300, .inl (fun _ => 0)), .inl (0, 30, .inl (fun _ => 0)), .inl (0, 30, .inl (fun _ => 0)), .inl (0, 30, .inl (fun _ => 0)), .inl (0, 3, .inl (fun _ => 0)), .inl (0, 50, .inl (fun _ => 0)), .inl (2, 40, .inl (fun _ => 0)), .inl (0, 3, .inl (fun _ => 0)), .inr (5, [.int 1, .int (b), .int (c)])]
def g9_14 (g : pm_C) (a : Int32) (b : Int32) (c : Int32) (d : Int32) : pm_H := [g, .inr (11, [.ref 2, .ref 5, .ref 9, .ref 12, .ref 16, .ref 18, .ref 20, .int 0, .ref 21, .int 0, .ref 22, .int 1, .ref 23, .int 0, .ref 24, .int 0, .int 0]), .inr (9, [.ref 3, .ref 4, .int 2]), .inl (0, 10, .inl (upd (upd (fun _ => 0) (0) (-1)) (1) 0)), .inl (0, 31, .inl (upd (upd (upd (upd (upd (upd (upd (fun _ => 0) (0) 1) (1) 3) (10) 1024) (11) 2048) (20) 1048577) (21) 3145729) (30) 1073741825)), .inr (4, [.ref 2, .ref 6, .int 0, .ref 7, .ref 8, .long 0, .long 0, .long 0]), .inl (6, 40, .inr (.inr (.inr (.inr (fun _ => none))))), .inl (1, 10, .inr (.inl (fun _ => 0))), .inl (1, 7, .inr (.inl (fun _ => 0))), .inr (2, [.ref 2, .ref 5, .ref 10, .ref 11, .null, .int 0]), .inr (6, [.ref 2, .ref 5, .null, .int 0, .long 0, .int 0, .null]), .inr (6, [.ref 2, .ref 5, .null, .int 0, .long 0, .int 0, .null]), .inr (7, [.ref 13, .ref 14, .ref 15, .int 0]), .inl (0, 61, .inl (fun _ => 0)), .inl (0, 61, .inl (fun _ => 0)), .inl (0, 1220, .inl (fun _ => 0)), .inr (0, [.ref 5, .ref 12, .ref 17, .int 0, .int 0, .null]), .inl (0, 3, .inl (fun _ => 0)), .inr (8, [.ref 19, .int 0, .int 0]), .inl (0, 50, .inl (fun _ => 0)), .inl (0, 3, .inl (fun _ => 0)), .inl (4, 10, .inr (.inr (.inr (.inr (fun _ => none))))), .inl (8, 30, .inr (.inr (.inr (.inr (va_up (fun _ => none) (0) (some 50)))))), .inl (13, 30, .inr (.inr (.inr (.inr (fun _ => none))))), .inl (0, 3, .inl (fun _ => 0)), .inr (12, [.int 2, .ref 26, .ref 27, .int 0, .int 0, .ref 28, .ref 29, .ref 30, .ref 31, .ref 32, .ref 33, .int 0, .ref 34, .ref 35, .ref 36, .int 0, .ref 37, .ref 38, .ref 39, .int 0, .ref 40, .ref 41, .ref 42, .int 0, .ref 43, .ref 44, .ref 45, .ref 46, .int 0, .ref 47, .int 0, .int 0, .ref 48, .int 0, .int 0, .int 0, .int 0, .int 0, .ref 49]), .inl (0, 10, .inl (upd (upd (fun _ => 0) (0) (-4)) (1) 0)), .inl (0, 3, .inl (fun _ => 0)), .inl (0, 40, .inl (fun _ => 0)), .inl (0, 40, .inl (fun _ => 0)), .inl (0, 40, .inl (fun _ => 0)), .inl (0, 40, .inl (fun _ => 0)), .inl (0, 40, .inl (fun _ => 0)), .inl (0, 120, .inl (fun _ => 0)), .inl (0, 10, .inl (fun _ => 0)), .inl (0, 30, .inl (fun _ => 0)), .inl (0, 10, .inl (fun _ => 0)), .inl (0, 30, .inl (fun _ => 0)), .inl (0, 30, .inl (fun _ => 0)), .inl (0, 30, .inl (fun _ => 0)), .inl (0, 61, .inl (fun _ => 0)), .inl (0, 61, .inl (fun _ => 0)), .inl (0, 1300, .inl (fun _ => 0)), .inl (0, 30, .inl (fun _ => 0)), .inl (0, 30, .inl (fun _ => 0)), .inl (0, 30, .inl (fun _ => 0)), .inl (0, 3, .inl (fun _ => 0)), .inl (0, 50, .inl (fun _ => 0)), .inl (2, 40, .inl (fun _ => 0)), .inl (0, 3, .inl (fun _ => 0)), .inr (5, [.int 1, .int (b), .int (c)])]
def g9_15 (g : pm_C) (a : Int32) (b : Int32) (c : Int32) (d : Int32) : pm_H := [g, .inr (11, [.ref 2, .ref 5, .ref 9, .ref 12, .ref 16, .ref 18, .ref 20, .int 0, .ref 21, .int 0, .ref 22, .int 1, .ref 23, .int 0, .ref 24, .int 0, .int 0]), .inr (9, [.ref 3, .ref 4, .int 2]), .inl (0, 10, .inl (upd (upd (fun _ => 0) (0) (-1)) (1) 0)), .inl (0, 31, .inl (upd (upd (upd (upd (upd (upd (upd (fun _ => 0) (0) 1) (1) 3) (10) 1024) (11) 2048) (20) 1048577) (21) 3145729) (30) 1073741825)), .inr (4, [.ref 2, .ref 6, .int 0, .ref 7, .ref 8, .long 0, .long 0, .long 0]), .inl (6, 40, .inr (.inr (.inr (.inr (fun _ => none))))), .inl (1, 10, .inr (.inl (fun _ => 0))), .inl (1, 7, .inr (.inl (fun _ => 0))), .inr (2, [.ref 2, .ref 5, .ref 10, .ref 11, .null, .int 0]), .inr (6, [.ref 2, .ref 5, .null, .int 0, .long 0, .int 0, .null]), .inr (6, [.ref 2, .ref 5, .null, .int 0, .long 0, .int 0, .null]), .inr (7, [.ref 13, .ref 14, .ref 15, .int 0]), .inl (0, 61, .inl (fun _ => 0)), .inl (0, 61, .inl (fun _ => 0)), .inl (0, 1220, .inl (fun _ => 0)), .inr (0, [.ref 5, .ref 12, .ref 17, .int 0, .int 0, .null]), .inl (0, 3, .inl (fun _ => 0)), .inr (8, [.ref 19, .int 0, .int 0]), .inl (0, 50, .inl (fun _ => 0)), .inl (0, 3, .inl (fun _ => 0)), .inl (4, 10, .inr (.inr (.inr (.inr (fun _ => none))))), .inl (8, 30, .inr (.inr (.inr (.inr (va_up (fun _ => none) (0) (some 50)))))), .inl (13, 30, .inr (.inr (.inr (.inr (fun _ => none))))), .inl (0, 3, .inl (fun _ => 0)), .inr (12, [.int 2, .ref 26, .ref 27, .int 0, .int 0, .ref 28, .ref 29, .ref 30, .ref 31, .ref 32, .ref 33, .int 0, .ref 34, .ref 35, .ref 36, .int 0, .ref 37, .ref 38, .ref 39, .int 0, .ref 40, .ref 41, .ref 42, .int 0, .ref 43, .ref 44, .ref 45, .ref 46, .int 0, .ref 47, .int 0, .int 0, .ref 48, .int 0, .int 0, .int 0, .int 0, .int 0, .ref 49]), .inl (0, 10, .inl (upd (upd (fun _ => 0) (0) (-4)) (1) 0)), .inl (0, 3, .inl (fun _ => 0)), .inl (0, 40, .inl (fun _ => 0)), .inl (0, 40, .inl (fun _ => 0)), .inl (0, 40, .inl (fun _ => 0)), .inl (0, 40, .inl (fun _ => 0)), .inl (0, 40, .inl (fun _ => 0)), .inl (0, 120, .inl (fun _ => 0)), .inl (0, 10, .inl (fun _ => 0)), .inl (0, 30, .inl (fun _ => 0)), .inl (0, 10, .inl (fun _ => 0)), .inl (0, 30, .inl (upd (fun _ => 0) (0) 1)), .inl (0, 30, .inl (fun _ => 0)), .inl (0, 30, .inl (fun _ => 0)), .inl (0, 61, .inl (fun _ => 0)), .inl (0, 61, .inl (fun _ => 0)), .inl (0, 1300, .inl (fun _ => 0)), .inl (0, 30, .inl (fun _ => 0)), .inl (0, 30, .inl (fun _ => 0)), .inl (0, 30, .inl (fun _ => 0)), .inl (0, 3, .inl (fun _ => 0)), .inl (0, 50, .inl (fun _ => 0)), .inl (2, 40, .inl (fun _ => 0)), .inl (0, 3, .inl (fun _ => 0)), .inr (5, [.int 1, .int (b), .int (c)])]
def g9_16 (g : pm_C) (a : Int32) (b : Int32) (c : Int32) (d : Int32) : pm_H := [g, .inr (11, [.ref 2, .ref 5, .ref 9, .ref 12, .ref 16, .ref 18, .ref 20, .int 0, .ref 21, .int 0, .ref 22, .int 1, .ref 23, .int 0, .ref 24, .int 0, .int 0]), .inr (9, [.ref 3, .ref 4, .int 2]), .inl (0, 10, .inl (upd (upd (fun _ => 0) (0) (-1)) (1) 0)), .inl (0, 31, .inl (upd (upd (upd (upd (upd (upd (upd (fun _ => 0) (0) 1) (1) 3) (10) 1024) (11) 2048) (20) 1048577) (21) 3145729) (30) 1073741825)), .inr (4, [.ref 2, .ref 6, .int 0, .ref 7, .ref 8, .long 0, .long 0, .long 0]), .inl (6, 40, .inr (.inr (.inr (.inr (fun _ => none))))), .inl (1, 10, .inr (.inl (fun _ => 0))), .inl (1, 7, .inr (.inl (fun _ => 0))), .inr (2, [.ref 2, .ref 5, .ref 10, .ref 11, .null, .int 0]), .inr (6, [.ref 2, .ref 5, .null, .int 0, .long 0, .int 0, .null]), .inr (6, [.ref 2, .ref 5, .null, .int 0, .long 0, .int 0, .null]), .inr (7, [.ref 13, .ref 14, .ref 15, .int 0]), .inl (0, 61, .inl (fun _ => 0)), .inl (0, 61, .inl (fun _ => 0)), .inl (0, 1220, .inl (fun _ => 0)), .inr (0, [.ref 5, .ref 12, .ref 17, .int 0, .int 0, .null]), .inl (0, 3, .inl (fun _ => 0)), .inr (8, [.ref 19, .int 0, .int 0]), .inl (0, 50, .inl (fun _ => 0)), .inl (0, 3, .inl (fun _ => 0)), .inl (4, 10, .inr (.inr (.inr (.inr (fun _ => none))))), .inl (8, 30, .inr (.inr (.inr (.inr (va_up (fun _ => none) (0) (some 50)))))), .inl (13, 30, .inr (.inr (.inr (.inr (fun _ => none))))), .inl (0, 3, .inl (fun _ => 0)), .inr (12, [.int 2, .ref 26, .ref 27, .int 0, .int 0, .ref 28, .ref 29, .ref 30, .ref 31, .ref 32, .ref 33, .int 0, .ref 34, .ref 35, .ref 36, .int 0, .ref 37, .ref 38, .ref 39, .int 0, .ref 40, .ref 41, .ref 42, .int 0, .ref 43, .ref 44, .ref 45, .ref 46, .int 0, .ref 47, .int 0, .int 0, .ref 48, .int 0, .int 0, .int 0, .int 0, .int 0, .ref 49]), .inl (0, 10, .inl (upd (upd (fun _ => 0) (0) (-4)) (1) 0)), .inl (0, 3, .inl (fun _ => 0)), .inl (0, 40, .inl (fun _ => 0)), .inl (0, 40, .inl (fun _ => 0)), .inl (0, 40, .inl (fun _ => 0)), .inl (0, 40, .inl (fun _ => 0)), .inl (0, 40, .inl (fun _ => 0)), .inl (0, 120, .inl (fun _ => 0)), .inl (0, 10, .inl (fun _ => 0)), .inl (0, 30, .inl (fun _ => 0)), .inl (0, 10, .inl (fun _ => 0)), .inl (0, 30, .inl (upd (fun _ => 0) (0) 1)), .inl (0, 30, .inl (upd (fun _ => 0) (0) b)), .inl (0, 30, .inl (fun _ => 0)), .inl (0, 61, .inl (fun _ => 0)), .inl (0, 61, .inl (fun _ => 0)), .inl (0, 1300, .inl (fun _ => 0)), .inl (0, 30, .inl (fun _ => 0)), .inl (0, 30, .inl (fun _ => 0)), .inl (0, 30, .inl (fun _ => 0)), .inl (0, 3, .inl (fun _ => 0)), .inl (0, 50, .inl (fun _ => 0)), .inl (2, 40, .inl (fun _ => 0)), .inl (0, 3, .inl (fun _ => 0)), .inr (5, [.int 1, .int (b), .int (c)])]
def g9_17 (g : pm_C) (a : Int32) (b : Int32) (c : Int32) (d : Int32) : pm_H := [g, .inr (11, [.ref 2, .ref 5, .ref 9, .ref 12, .ref 16, .ref 18, .ref 20, .int 0, .ref 21, .int 0, .ref 22, .int 1, .ref 23, .int 0, .ref 24, .int 0, .int 0]), .inr (9, [.ref 3, .ref 4, .int 2]), .inl (0, 10, .inl (upd (upd (fun _ => 0) (0) (-1)) (1) 0)), .inl (0, 31, .inl (upd (upd (upd (upd (upd (upd (upd (fun _ => 0) (0) 1) (1) 3) (10) 1024) (11) 2048) (20) 1048577) (21) 3145729) (30) 1073741825)), .inr (4, [.ref 2, .ref 6, .int 0, .ref 7, .ref 8, .long 0, .long 0, .long 0]), .inl (6, 40, .inr (.inr (.inr (.inr (fun _ => none))))), .inl (1, 10, .inr (.inl (fun _ => 0))), .inl (1, 7, .inr (.inl (fun _ => 0))), .inr (2, [.ref 2, .ref 5, .ref 10, .ref 11, .null, .int 0]), .inr (6, [.ref 2, .ref 5, .null, .int 0, .long 0, .int 0, .null]), .inr (6, [.ref 2, .ref 5, .null, .int 0, .long 0, .int 0, .null]), .inr (7, [.ref 13, .ref 14, .ref 15, .int 0]), .inl (0, 61, .inl (fun _ => 0)), .inl (0, 61, .inl (fun _ => 0)), .inl (0, 1220, .inl (fun _ => 0)), .inr (0, [.ref 5, .ref 12, .ref 17, .int 0, .int 0, .null]), .inl (0, 3, .inl (fun _ => 0)), .inr (8, [.ref 19, .int 0, .int 0]), .inl (0, 50, .inl (fun _ => 0)), .inl (0, 3, .inl (fun _ => 0)), .inl (4, 10, .inr (.inr (.inr (.inr (fun _ => none))))), .inl (8, 30, .inr (.inr (.inr (.inr (va_up (fun _ => none) (0) (some 50)))))), .inl (13, 30, .inr (.inr (.inr (.inr (fun _ => none))))), .inl (0, 3, .inl (fun _ => 0)), .inr (12, [.int 2, .ref 26, .ref 27, .int 0, .int 0, .ref 28, .ref 29, .ref 30, .ref 31, .ref 32, .ref 33, .int 0, .ref 34, .ref 35, .ref 36, .int 0, .ref 37, .ref 38, .ref 39, .int 0, .ref 40, .ref 41, .ref 42, .int 0, .ref 43, .ref 44, .ref 45, .ref 46, .int 0, .ref 47, .int 0, .int 0, .ref 48, .int 0, .int 0, .int 0, .int 0, .int 0, .ref 49]), .inl (0, 10, .inl (upd (upd (fun _ => 0) (0) (-4)) (1) 0)), .inl (0, 3, .inl (fun _ => 0)), .inl (0, 40, .inl (fun _ => 0)), .inl (0, 40, .inl (fun _ => 0)), .inl (0, 40, .inl (fun _ => 0)), .inl (0, 40, .inl (fun _ => 0)), .inl (0, 40, .inl (fun _ => 0)), .inl (0, 120, .inl (fun _ => 0)), .inl (0, 10, .inl (fun _ => 0)), .inl (0, 30, .inl (fun _ => 0)), .inl (0, 10, .inl (fun _ => 0)), .inl (0, 30, .inl (upd (fun _ => 0) (0) 1)), .inl (0, 30, .inl (upd (fun _ => 0) (0) b)), .inl (0, 30, .inl (upd (fun _ => 0) (0) c)), .inl (0, 61, .inl (fun _ => 0)), .inl (0, 61, .inl (fun _ => 0)), .inl (0, 1300, .inl (fun _ => 0)), .inl (0, 30, .inl (fun _ => 0)), .inl (0, 30, .inl (fun _ => 0)), .inl (0, 30, .inl (fun _ => 0)), .inl (0, 3, .inl (fun _ => 0)), .inl (0, 50, .inl (fun _ => 0)), .inl (2, 40, .inl (fun _ => 0)), .inl (0, 3, .inl (fun _ => 0)), .inr (5, [.int 1, .int (b), .int (c)])]
def g9_18 (g : pm_C) (a : Int32) (b : Int32) (c : Int32) (d : Int32) : pm_H := [g, .inr (11, [.ref 2, .ref 5, .ref 9, .ref 12, .ref 16, .ref 18, .ref 20, .int 0, .ref 21, .int 0, .ref 22, .int 1, .ref 23, .int 0, .ref 24, .int 0, .int 0]), .inr (9, [.ref 3, .ref 4, .int 2]), .inl (0, 10, .inl (upd (upd (fun _ => 0) (0) (-1)) (1) 0)), .inl (0, 31, .inl (upd (upd (upd (upd (upd (upd (upd (fun _ => 0) (0) 1) (1) 3) (10) 1024) (11) 2048) (20) 1048577) (21) 3145729) (30) 1073741825)), .inr (4, [.ref 2, .ref 6, .int 0, .ref 7, .ref 8, .long 0, .long 0, .long 0]), .inl (6, 40, .inr (.inr (.inr (.inr (fun _ => none))))), .inl (1, 10, .inr (.inl (fun _ => 0))), .inl (1, 7, .inr (.inl (fun _ => 0))), .inr (2, [.ref 2, .ref 5, .ref 10, .ref 11, .null, .int 0]), .inr (6, [.ref 2, .ref 5, .null, .int 0, .long 0, .int 0, .null]), .inr (6, [.ref 2, .ref 5, .null, .int 0, .long 0, .int 0, .null]), .inr (7, [.ref 13, .ref 14, .ref 15, .int 0]), .inl (0, 61, .inl (fun _ => 0)), .inl (0, 61, .inl (fun _ => 0)), .inl (0, 1220, .inl (fun _ => 0)), .inr (0, [.ref 5, .ref 12, .ref 17, .int 0, .int 0, .null]), .inl (0, 3, .inl (fun _ => 0)), .inr (8, [.ref 19, .int 0, .int 0]), .inl (0, 50, .inl (fun _ => 0)), .inl (0, 3, .inl (fun _ => 0)), .inl (4, 10, .inr (.inr (.inr (.inr (fun _ => none))))), .inl (8, 30, .inr (.inr (.inr (.inr (va_up (fun _ => none) (0) (some 50)))))), .inl (13, 30, .inr (.inr (.inr (.inr (fun _ => none))))), .inl (0, 3, .inl (fun _ => 0)), .inr (12, [.int 2, .ref 26, .ref 27, .int 0, .int 0, .ref 28, .ref 29, .ref 30, .ref 31, .ref 32, .ref 33, .int 0, .ref 34, .ref 35, .ref 36, .int 1, .ref 37, .ref 38, .ref 39, .int 0, .ref 40, .ref 41, .ref 42, .int 0, .ref 43, .ref 44, .ref 45, .ref 46, .int 0, .ref 47, .int 0, .int 0, .ref 48, .int 0, .int 0, .int 0, .int 0, .int 0, .ref 49]), .inl (0, 10, .inl (upd (upd (fun _ => 0) (0) (-4)) (1) 0)), .inl (0, 3, .inl (fun _ => 0)), .inl (0, 40, .inl (fun _ => 0)), .inl (0, 40, .inl (fun _ => 0)), .inl (0, 40, .inl (fun _ => 0)), .inl (0, 40, .inl (fun _ => 0)), .inl (0, 40, .inl (fun _ => 0)), .inl (0, 120, .inl (fun _ => 0)), .inl (0, 10, .inl (fun _ => 0)), .inl (0, 30, .inl (fun _ => 0)), .inl (0, 10, .inl (fun _ => 0)), .inl (0, 30, .inl (upd (fun _ => 0) (0) 1)), .inl (0, 30, .inl (upd (fun _ => 0) (0) b)), .inl (0, 30, .inl (upd (fun _ => 0) (0) c)), .inl (0, 61, .inl (fun _ => 0)), .inl (0, 61, .inl (fun _ => 0)), .inl (0, 1300, .inl (fun _ => 0)), .inl (0, 30, .inl (fun _ => 0)), .inl (0, 30, .inl (fun _ => 0)), .inl (0, 30, .inl (fun _ => 0)), .inl (0, 3, .inl (fun _ => 0)), .inl (0, 50, .inl (fun _ => 0)), .inl (2, 40, .inl (fun _ => 0)), .inl (0, 3, .inl (fun _ => 0)), .inr (5, [.int 1, .int (b), .int (c)])]
def g9_19 (g : pm_C) (a : Int32) (b : Int32) (c : Int32) (d : Int32) : pm_H := [g, .inr (11, [.ref 2, .ref 5, .ref 9, .ref 12, .ref 16, .ref 18, .ref 20, .int 0, .ref 21, .int 0, .ref 22, .int 0, .ref 23, .int 0, .ref 24, .int 0, .int 0]), .inr (9, [.ref 3, .ref 4, .int 2]), .inl (0, 10, .inl (upd (upd (fun _ => 0) (0) (-1)) (1) 0)), .inl (0, 31, .inl (upd (upd (upd (upd (upd (upd (upd (fun _ => 0) (0) 1) (1) 3) (10) 1024) (11) 2048) (20) 1048577) (21) 3145729) (30) 1073741825)), .inr (4, [.ref 2, .ref 6, .int 0, .ref 7, .ref 8, .long 0, .long 0, .long 0]), .inl (6, 40, .inr (.inr (.inr (.inr (fun _ => none))))), .inl (1, 10, .inr (.inl (fun _ => 0))), .inl (1, 7, .inr (.inl (fun _ => 0))), .inr (2, [.ref 2, .ref 5, .ref 10, .ref 11, .null, .int 0]), .inr (6, [.ref 2, .ref 5, .null, .int 0, .long 0, .int 0, .null]), .inr (6, [.ref 2, .ref 5, .null, .int 0, .long 0, .int 0, .null]), .inr (7, [.ref 13, .ref 14, .ref 15, .int 0]), .inl (0, 61, .inl (fun _ => 0)), .inl (0, 61, .inl (fun _ => 0)), .inl (0, 1220, .inl (fun _ => 0)), .inr (0, [.ref 5, .ref 12, .ref 17, .int 0, .int 0, .null]), .inl (0, 3, .inl (fun _ => 0)), .inr (8, [.ref 19, .int 0, .int 0]), .inl (0, 50, .inl (fun _ => 0)), .inl (0, 3, .inl (fun _ => 0)), .inl (4, 10, .inr (.inr (.inr (.inr (fun _ => none))))), .inl (8, 30, .inr (.inr (.inr (.inr (fun _ => none))))), .inl (13, 30, .inr (.inr (.inr (.inr (fun _ => none))))), .inl (0, 3, .inl (fun _ => 0)), .inr (12, [.int 2, .ref 26, .ref 27, .int 0, .int 0, .ref 28, .ref 29, .ref 30, .ref 31, .ref 32, .ref 33, .int 0, .ref 34, .ref 35, .ref 36, .int 0, .ref 37, .ref 38, .ref 39, .int 0, .ref 40, .ref 41, .ref 42, .int 0, .ref 43, .ref 44, .ref 45, .ref 46, .int 0, .ref 47, .int 0, .int 0, .ref 48, .int 0, .int 0, .int 0, .int 0, .int 0, .ref 49]), .inl (0, 10, .inl (upd (upd (fun _ => 0) (0) (-4)) (1) 0)), .inl (0, 3, .inl (fun _ => 0)), .inl (0, 40, .inl (fun _ => 0)), .inl (0, 40, .inl (fun _ => 0)), .inl (0, 40, .inl (fun _ => 0)), .inl (0, 40, .inl (fun _ => 0)), .inl (0, 40, .inl (fun _ => 0)), .inl (0, 120, .inl (fun _ => 0)), .inl (0, 10, .inl (fun _ => 0)), .inl (0, 30, .inl (fun _ => 0)), .inl (0, 10, .inl (fun _ => 0)), .inl (0, 30, .inl (fun _ => 0)), .inl (0, 30, .inl (fun _ => 0)), .inl (0, 30, .inl (fun _ => 0)), .inl (0, 61, .inl (fun _ => 0)), .inl (0, 61, .inl (fun _ => 0)), .inl (0, 1300, .inl (fun _ => 0)), .inl (0, 30, .inl (fun _ => 0)), .inl (0, 30, .inl (fun _ => 0)), .inl (0, 30, .inl (fun _ => 0)), .inl (0, 3, .inl (fun _ => 0)), .inl (0, 50, .inl (fun _ => 0)), .inl (2, 40, .inl (fun _ => 0)), .inl (0, 3, .inl (fun _ => 0)), .inr (5, [.int 2, .int 0, .int 0])]
def g9_20 (g : pm_C) (a : Int32) (b : Int32) (c : Int32) (d : Int32) : pm_H := [g, .inr (11, [.ref 2, .ref 5, .ref 9, .ref 12, .ref 16, .ref 18, .ref 20, .int 0, .ref 21, .int 0, .ref 22, .int 0, .ref 23, .int 0, .ref 24, .int 0, .int 0]), .inr (9, [.ref 3, .ref 4, .int 2]), .inl (0, 10, .inl (upd (upd (fun _ => 0) (0) (-1)) (1) 0)), .inl (0, 31, .inl (upd (upd (upd (upd (upd (upd (upd (fun _ => 0) (0) 1) (1) 3) (10) 1024) (11) 2048) (20) 1048577) (21) 3145729) (30) 1073741825)), .inr (4, [.ref 2, .ref 6, .int 0, .ref 7, .ref 8, .long 0, .long 0, .long 0]), .inl (6, 40, .inr (.inr (.inr (.inr (fun _ => none))))), .inl (1, 10, .inr (.inl (fun _ => 0))), .inl (1, 7, .inr (.inl (fun _ => 0))), .inr (2, [.ref 2, .ref 5, .ref 10, .ref 11, .null, .int 0]), .inr (6, [.ref 2, .ref 5, .null, .int 0, .long 0, .int 0, .null]), .inr (6, [.ref 2, .ref 5, .null, .int 0, .long 0, .int 0, .null]), .inr (7, [.ref 13, .ref 14, .ref 15, .int 0]), .inl (0, 61, .inl (fun _ => 0)), .inl (0, 61, .inl (fun _ => 0)), .inl (0, 1220, .inl (fun _ => 0)), .inr (0, [.ref 5, .ref 12, .ref 17, .int 0, .int 0, .null]), .inl (0, 3, .inl (fun _ => 0)), .inr (8, [.ref 19, .int 0, .int 0]), .inl (0, 50, .inl (fun _ => 0)), .inl (0, 3, .inl (fun _ => 0)), .inl (4, 10, .inr (.inr (.inr (.inr (fun _ => none))))), .inl (8, 30, .inr (.inr (.inr (.inr (fun _ => none))))), .inl (13, 30, .inr (.inr (.inr (.inr (fun _ => none))))), .inl (0, 3, .inl (fun _ => 0)), .inr (12, [.int 2, .ref 26, .ref 27, .int 0, .int 0, .ref 28, .ref 29, .ref 30, .ref 31, .ref 32, .ref 33, .int 0, .ref 34, .ref 35, .ref 36, .int 0, .ref 37, .ref 38, .ref 39, .int 0, .ref 40, .ref 41, .ref 42, .int 0, .ref 43, .ref 44, .ref 45, .ref 46, .int 0, .ref 47, .int 0, .int 0, .ref 48, .int 0, .int 0, .int 0, .int 0, .int 0, .ref 49]), .inl (0, 10, .inl (upd (upd (fun _ => 0) (0) (-4)) (1) 0)), .inl (0, 3, .inl (fun _ => 0)), .inl (0, 40, .inl (fun _ => 0)), .inl (0, 40, .inl (fun _ => 0)), .inl (0, 40, .inl (fun _ => 0)), .inl (0, 40, .inl (fun _ => 0)), .inl (0, 40, .inl (fun _ => 0)), .inl (0, 120, .inl (fun _ => 0)), .inl (0, 10, .inl (fun _ => 0)), .inl (0, 30, .inl (fun _ => 0)), .inl (0, 10, .inl (fun _ => 0)), .inl (0, 30, .inl (fun _ => 0)), .inl (0, 30, .inl (fun _ => 0)), .inl (0, 30, .inl (fun _ => 0)), .inl (0, 61, .inl (fun _ => 0)), .inl (0, 61, .inl (fun _ => 0)), .inl (0, 1300, .inl (fun _ => 0)), .inl (0, 30, .inl (fun _ => 0)), .inl (0, 30, .inl (fun _ => 0)), .inl (0, 30, .inl (fun _ => 0)), .inl (0, 3, .inl (fun _ => 0)), .inl (0, 50, .inl (fun _ => 0)), .inl (2, 40, .inl (fun _ => 0)), .inl (0, 3, .inl (fun _ => 0)), .inr (5, [.int 2, .int 1, .int 0])]
def g9_21 (g : pm_C) (a : Int32) (b : Int32) (c : Int32) (d : Int32) : pm_H := [g, .inr (11, [.ref 2, .ref 5, .ref 9, .ref 12, .ref 16, .ref 18, .ref 20, .int 0, .ref 21, .int 0, .ref 22, .int 0, .ref 23, .int 0, .ref 24, .int 0, .int 0]), .inr (9, [.ref 3, .ref 4, .int 2]), .inl (0, 10, .inl (upd (upd (fun _ => 0) (0) (-1)) (1) 0)), .inl (0, 31, .inl (upd (upd (upd (upd (upd (upd (upd (fun _ => 0) (0) 1) (1) 3) (10) 1024) (11) 2048) (20) 1048577) (21) 3145729) (30) 1073741825)), .inr (4, [.ref 2, .ref 6, .int 0, .ref 7, .ref 8, .long 0, .long 0, .long 0]), .inl (6, 40, .inr (.inr (.inr (.inr (fun _ => none))))), .inl (1, 10, .inr (.inl (fun _ => 0))), .inl (1, 7, .inr (.inl (fun _ => 0))), .inr (2, [.ref 2, .ref 5, .ref 10, .ref 11, .null, .int 0]), .inr (6, [.ref 2, .ref 5, .null, .int 0, .long 0, .int 0, .null]), .inr (6, [.ref 2, .ref 5, .null, .int 0, .long 0, .int 0, .null]), .inr (7, [.ref 13, .ref 14, .ref 15, .int 0]), .inl (0, 61, .inl (fun _ => 0)), .inl (0, 61, .inl (fun _ => 0)), .inl (0, 1220, .inl (fun _ => 0)), .inr (0, [.ref 5, .ref 12, .ref 17, .int 0, .int 0, .null]), .inl (0, 3, .inl (fun _ => 0)), .inr (8, [.ref 19, .int 0, .int 0]), .inl (0, 50, .inl (fun _ => 0)), .inl (0, 3, .inl (fun _ => 0)), .inl (4, 10, .inr (.inr (.inr (.inr (fun _ => none))))), .inl (8, 30, .inr (.inr (.inr (.inr (fun _ => none))))), .inl (13, 30, .inr (.inr (.inr (.inr (fun _ => none))))), .inl (0, 3, .inl (fun _ => 0)), .inr (12, [.int 2, .ref 26, .ref 27, .int 0, .int 0, .ref 28, .ref 29, .ref 30, .ref 31, .ref 32, .ref 33, .int 0, .ref 34, .ref 35, .ref 36, .int 0, .ref 37, .ref 38, .ref 39, .int 0, .ref 40, .ref 41, .ref 42, .int 0, .ref 43, .ref 44, .ref 45, .ref 46, .int 0, .ref 47, .int 0, .int 0, .ref 48, .int 0, .int 0, .int 0, .int 0, .int 0, .ref 49]), .inl (0, 10, .inl (upd (upd (fun _ => 0) (0) (-4)) (1) 0)), .inl (0, 3, .inl (fun _ => 0)), .inl (0, 40, .inl (fun _ => 0)), .inl (0, 40, .inl (fun _ => 0)), .inl (0, 40, .inl (fun _ => 0)), .inl (0, 40, .inl (fun _ => 0)), .inl (0, 40, .inl (fun _ => 0)), .inl (0, 120, .inl (fun _ => 0)), .inl (0, 10, .inl (fun _ => 0)), .inl (0, 30, .inl (fun _ => 0)), .inl (0, 10, .inl (fun _ => 0)), .inl (0, 30, .inl (fun _ => 0)), .inl (0, 30, .inl (fun _ => 0)), .inl (0, 30, .inl (fun _ => 0)), .inl (0, 61, .inl (fun _ => 0)), .inl (0, 61, .inl (fun _ => 0)), .inl (0, 1300, .inl (fun _ => 0)), .inl (0, 30, .inl (fun _ => 0)), .inl (0, 30, .inl (fun _ => 0)), .inl (0, 30, .inl (fun _ => 0)), .inl (0, 3, .inl (fun _ => 0)), .inl (0, 50, .inl (fun _ => 0)), .inl (2, 40, .inl (fun _ => 0)), .inl (0, 3, .inl (fun _ => 0)), .inr (5, [.int 2, .int 1, .int (c)])]
def g9_22 (g : pm_C) (a : Int32) (b : Int32) (c : Int32) (d : Int32) : pm_H := [g, .inr (11, [.ref 2, .ref 5, .ref 9, .ref 12, .ref 16, .ref 18, .ref 20, .int 0, .ref 21, .int 0, .ref 22, .int 0, .ref 23, .int 0, .ref 24, .int 0, .int 0]), .inr (9, [.ref 3, .ref 4, .int 2]), .inl (0, 10, .inl (upd (upd (fun _ => 0) (0) (-1)) (1) 0)), .inl (0, 31, .inl (upd (upd (upd (upd (upd (upd (upd (fun _ => 0) (0) 1) (1) 3) (10) 1024) (11) 2048) (20) 1048577) (21) 3145729) (30) 1073741825)), .inr (4, [.ref 2, .ref 6, .int 0, .ref 7, .ref 8, .long 0, .long 0, .long 0]), .inl (6, 40, .inr (.inr (.inr (.inr (fun _ => none))))), .inl (1, 10, .inr (.inl (fun _ => 0))), .inl (1, 7, .inr (.inl (fun _ => 0))), .inr (2, [.ref 2, .ref 5, .ref 10, .ref 11, .null, .int 0]), .inr (6, [.ref 2, .ref 5, .null, .int 0, .long 0, .int 0, .null]), .inr (6, [.ref 2, .ref 5, .null, .int 0, .long 0, .int 0, .null]), .inr (7, [.ref 13, .ref 14, .ref 15, .int 0]), .inl (0, 61, .inl (fun _ => 0)), .inl (0, 61, .inl (fun _ => 0)), .inl (0, 1220, .inl (fun _ => 0)), .inr (0, [.ref 5, .ref 12, .ref 17, .int 0, .int 0, .null]), .inl (0, 3, .inl (fun _ => 0)), .inr (8, [.ref 19, .int 0, .int 0]), .inl (0, 50, .inl (fun _ => 0)), .inl (0, 3, .inl (fun _ => 0)), .inl (4, 10, .inr (.inr (.inr (.inr (fun _ => none))))), .inl (8, 30, .inr (.inr (.inr (.inr (va_up (fun _ => none) (0) (some 50)))))), .inl (13, 30, .inr (.inr (.inr (.inr (fun _ => none))))), .inl (0, 3, .inl (fun _ => 0)), .inr (12, [.int 2, .ref 26, .ref 27, .int 0, .int 0, .ref 28, .ref 29, .ref 30, .ref 31, .ref 32, .ref 33, .int 0, .ref 34, .ref 35, .ref 36, .int 0, .ref 37, .ref 38, .ref 39, .int 0, .ref 40, .ref 41, .ref 42, .int 0, .ref 43, .ref 44, .ref 45, .ref 46, .int 0, .ref 47, .int 0, .int 0, .ref 48, .int 0, .int 0, .int 0, .int 0, .int 0, .ref 49]), .inl (0, 10, .inl (upd (upd (fun _ => 0) (0) (-4)) (1) 0)), .inl (0, 3, .inl (fun _ => 0)), .inl (0, 40, .inl (fun _ => 0)), .inl (0, 40, .inl (fun _ => 0)), .inl (0, 40, .inl (fun _ => 0)), .inl (0, 40, .inl (fun _ => 0)), .inl (0, 40, .inl (fun _ => 0)), .inl (0, 120, .inl (fun _ => 0)), .inl (0, 10, .inl (fun _ => 0)), .inl (0, 30, .inl (fun _ => 0)), .inl (0, 10, .inl (fun _ => 0)), .inl (0, 30, .inl (fun _ => 0)), .inl (0, 30, .inl (fun _ => 0)), .inl (0, 30, .inl (fun _ => 0)), .inl (0, 61, .inl (fun _ => 0)), .inl (0, 61, .inl (fun _ => 0)), .inl (0, 1300, .inl (fun _ => 0)), .inl (0, 30, .inl (fun _ => 0)), .inl (0, 30, .inl (fun _ => 0)), .inl (0, 30, .inl (fun _ => 0)), .inl (0, 3, .inl (fun _ => 0)), .inl (0, 50, .inl (fun _ => 0)), .inl (2, 40, .inl (fun _ => 0)), .inl (0, 3, .inl (fun _ => 0)), .inr (5, [.int 2, .int 1, .int (c)])]
def g9_23 (g : pm_C) (a : Int32) (b : Int32) (c : Int32) (d : Int32) : pm_H := [g, .inr (11, [.ref 2, .ref 5, .ref 9, .ref 12, .ref 16, .ref 18, .ref 20, .int 0, .ref 21, .int 0, .ref 22, .int 1, .ref 23, .int 0, .ref 24, .int 0, .int 0]), .inr (9, [.ref 3, .ref 4, .int 2]), .inl (0, 10, .inl (upd (upd (fun _ => 0) (0) (-1)) (1) 0)), .inl (0, 31, .inl (upd (upd (upd (upd (upd (upd (upd (fun _ => 0) (0) 1) (1) 3) (10) 1024) (11) 2048) (20) 1048577) (21) 3145729) (30) 1073741825)), .inr (4, [.ref 2, .ref 6, .int 0, .ref 7, .ref 8, .long 0, .long 0, .long 0]), .inl (6, 40, .inr (.inr (.inr (.inr (fun _ => none))))), .inl (1, 10, .inr (.inl (fun _ => 0))), .inl (1, 7, .inr (.inl (fun _ => 0))), .inr (2, [.ref 2, .ref 5, .ref 10, .ref 11, .null, .int 0]), .inr (6, [.ref 2, .ref 5, .null, .int 0, .long 0, .int 0, .null]), .inr (6, [.ref 2, .ref 5, .null, .int 0, .long 0, .int 0, .null]), .inr (7, [.ref 13, .ref 14, .ref 15, .int 0]), .inl (0, 61, .inl (fun _ => 0)), .inl (0, 61, .inl (fun _ => 0)), .inl (0, 1220, .inl (fun _ => 0)), .inr (0, [.ref 5, .ref 12, .ref 17, .int 0, .int 0, .null]), .inl (0, 3, .inl (fun _ => 0)), .inr (8, [.ref 19, .int 0, .int 0]), .inl (0, 50, .inl (fun _ => 0)), .inl (0, 3, .inl (fun _ => 0)), .inl (4, 10, .inr (.inr (.inr (.inr (fun _ => none))))), .inl (8, 30, .inr (.inr (.inr (.inr (va_up (fun _ => none) (0) (some 50)))))), .inl (13, 30, .inr (.inr (.inr (.inr (fun _ => none))))), .inl (0, 3, .inl (fun _ => 0)), .inr (12, [.int 2, .ref 26, .ref 27, .int 0, .int 0, .ref 28, .ref 29, .ref 30, .ref 31, .ref 32, .ref 33, .int 0, .ref 34, .ref 35, .ref 36, .int 0, .ref 37, .ref 38, .ref 39, .int 0, .ref 40, .ref 41, .ref 42, .int 0, .ref 43, .ref 44, .ref 45, .ref 46, .int 0, .ref 47, .int 0, .int 0, .ref 48, .int 0, .int 0, .int 0, .int 0, .int 0, .ref 49]), .inl (0, 10, .inl (upd (upd (fun _ => 0) (0) (-4)) (1) 0)), .inl (0, 3, .inl (fun _ => 0)), .inl (0, 40, .inl (fun _ => 0)), .inl (0, 40, .inl (fun _ => 0)), .inl (0, 40, .inl (fun _ => 0)), .inl (0, 40, .inl (fun _ => 0)), .inl (0, 40, .inl (fun _ => 0)), .inl (0, 120, .inl (fun _ => 0)), .inl (0, 10, .inl (fun _ => 0)), .inl (0, 30, .inl (fun _ => 0)), .inl (0, 10, .inl (fun _ => 0)), .inl (0, 30, .inl (fun _ => 0)), .inl (0, 30, .inl (fun _ => 0)), .inl (0, 30, .inl (fun _ => 0)), .inl (0, 61, .inl (fun _ => 0)), .inl (0, 61, .inl (fun _ => 0)), .inl (0, 1300, .inl (fun _ => 0)), .inl (0, 30, .inl (fun _ => 0)), .inl (0, 30, .inl (fun _ => 0)), .inl (0, 30, .inl (fun _ => 0)), .inl (0, 3, .inl (fun _ => 0)), .inl (0, 50, .inl (fun _ => 0)), .inl (2, 40, .inl (fun _ => 0)), .inl (0, 3, .inl (fun _ => 0)), .inr (5, [.int 2, .int 1, .int (c)])]
def g9_24 (g : pm_C) (a : Int32) (b : Int32) (c : Int32) (d : Int32) : pm_H := [g, .inr (11, [.ref 2, .ref 5, .ref 9, .ref 12, .ref 16, .ref 18, .ref 20, .int 0, .ref 21, .int 0, .ref 22, .int 1, .ref 23, .int 0, .ref 24, .int 0, .int 0]), .inr (9, [.ref 3, .ref 4, .int 2]), .inl (0, 10, .inl (upd (upd (fun _ => 0) (0) (-1)) (1) 0)), .inl (0, 31, .inl (upd (upd (upd (upd (upd (upd (upd (fun _ => 0) (0) 1) (1) 3) (10) 1024) (11) 2048) (20) 1048577) (21) 3145729) (30) 1073741825)), .inr (4, [.ref 2, .ref 6, .int 0, .ref 7, .ref 8, .long 0, .long 0, .long 0]), .inl (6, 40, .inr (.inr (.inr (.inr (fun _ => none))))), .inl (1, 10, .inr (.inl (fun _ => 0))), .inl (1, 7, .inr (.inl (fun _ => 0))), .inr (2, [.ref 2, .ref 5, .ref 10, .ref 11, .null, .int 0]), .inr (6, [.ref 2, .ref 5, .null, .int 0, .long 0, .int 0, .null]), .inr (6, [.ref 2, .ref 5, .null, .int 0, .long 0, .int 0, .null]), .inr (7, [.ref 13, .ref 14, .ref 15, .int 0]), .inl (0, 61, .inl (fun _ => 0)), .inl (0, 61, .inl (fun _ => 0)), .inl (0, 1220, .inl (fun _ => 0)), .inr (0, [.ref 5, .ref 12, .ref 17, .int 0, .int 0, .null]), .inl (0, 3, .inl (fun _ => 0)), .inr (8, [.ref 19, .int 0, .int 0]), .inl (0, 50, .inl (fun _ => 0)), .inl (0, 3, .inl (fun _ => 0)), .inl (4, 10, .inr (.inr (.inr (.inr (fun _ => none))))), .inl (8, 30, .inr (.inr (.inr (.inr (va_up (fun _ => none) (0) (some 50)))))), .inl (13, 30, .inr (.inr (.inr (.inr (fun _ => none))))), .inl (0, 3, .inl (fun _ => 0)), .inr (12, [.int 2, .ref 26, .ref 27, .int 0, .int 0, .ref 28, .ref 29, .ref 30, .ref 31, .ref 32, .ref 33, .int 0, .ref 34, .ref 35, .ref 36, .int 0, .ref 37, .ref 38, .ref 39, .int 0, .ref 40, .ref 41, .ref 42, .int 0, .ref 43, .ref 44, .ref 45, .ref 46, .int 0, .ref 47, .int 0, .int 0, .ref 48, .int 0, .int 0, .int 0, .int 0, .int 0, .ref 49]), .inl (0, 10, .inl (upd (upd (fun _ => 0) (0) (-4)) (1) 0)), .inl (0, 3, .inl (fun _ => 0)), .inl (0, 40, .inl (fun _ => 0)), .inl (0, 40, .inl (fun _ => 0)), .inl (0, 40, .inl (fun _ => 0)), .inl (0, 40, .inl (fun _ => 0)), .inl (0, 40, .inl (fun _ => 0)), .inl (0, 120, .inl (fun _ => 0)), .inl (0, 10, .inl (fun _ => 0)), .inl (0, 30, .inl (fun _ => 0)), .inl (0, 10, .inl (fun _ => 0)), .inl (0, 30, .inl (upd (fun _ => 0) (0) 2)), .inl (0, 30, .inl (fun _ => 0)), .inl (0, 30, .inl (fun _ => 0)), .inl (0, 61, .inl (fun _ => 0)), .inl (0, 61, .inl (fun _ => 0)), .inl (0, 1300, .inl (fun _ => 0)), .inl (0, 30, .inl (fun _ => 0)), .inl (0, 30, .inl (fun _ => 0)), .inl (0, 30, .inl (fun _ => 0)), .inl (0, 3, .inl (fun _ => 0)), .inl (0, 50, .inl (fun _ => 0)), .inl (2, 40, .inl (fun _ => 0)), .inl (0, 3, .inl (fun _ => 0)), .inr (5, [.int 2, .int 1, .int (c)])]
def g9_25 (g : pm_C) (a : Int32) (b : Int32) (c : Int32) (d : Int32) : pm_H := [g, .inr (11, [.ref 2, .ref 5, .ref 9, .ref 12, .ref 16, .ref 18, .ref 20, .int 0, .ref 21, .int 0, .ref 22, .int 1, .ref 23, .int 0, .ref 24, .int 0, .int 0]), .inr (9, [.ref 3, .ref 4, .int 2]), .inl (0, 10, .inl (upd (upd (fun _ => 0) (0) (-1)) (1) 0)), .inl (0, 31, .inl (upd (upd (upd (upd (upd (upd (upd (fun _ => 0) (0) 1) (1) 3) (10) 1024) (11) 2048) (20) 1048577) (21) 3145729) (30) 1073741825)), .inr (4, [.ref 2, .ref 6, .int 0, .ref 7, .ref 8, .long 0, .long 0, .long 0]), .inl (6, 40, .inr (.inr (.inr (.inr (fun _ => none))))), .inl (1, 10, .inr (.inl (fun _ => 0))), .inl (1, 7, .inr (.inl (fun _ => 0))), .inr (2, [.ref 2, .ref 5, .ref 10, .ref 11, .null, .int 0]), .inr (6, [.ref 2, .ref 5, .null, .int 0, .long 0, .int 0, .null]), .inr (6, [.ref 2, .ref 5, .null, .int 0, .long 0, .int 0, .null]), .inr (7, [.ref 13, .ref 14, .ref 15, .int 0]), .inl (0, 61, .inl (fun _ => 0)), .inl (0, 61, .inl (fun _ => 0)), .inl (0, 1220, .inl (fun _ => 0)), .inr (0, [.ref 5, .ref 12, .ref 17, .int 0, .int 0, .null]), .inl (0, 3, .inl (fun _ => 0)), .inr (8, [.ref 19, .int 0, .int 0]), .inl (0, 50, .inl (fun _ => 0)), .inl (0, 3, .inl (fun _ => 0)), .inl (4, 10, .inr (.inr (.inr (.inr (fun _ => none))))), .inl (8, 30, .inr (.inr (.inr (.inr (va_up (fun _ => none) (0) (some 50)))))), .inl (13, 30, .inr (.inr (.inr (.inr (fun _ => none))))), .inl (0, 3, .inl (fun _ => 0)), .inr (12, [.int 2, .ref 26, .ref 27, .int 0, .int 0, .ref 28, .ref 29, .ref 30, .ref 31, .ref 32, .ref 33, .int 0, .ref 34, .ref 35, .ref 36, .int 0, .ref 37, .ref 38, .ref 39, .int 0, .ref 40, .ref 41, .ref 42, .int 0, .ref 43, .ref 44, .ref 45, .ref 46, .int 0, .ref 47, .int 0, .int 0, .ref 48, .int 0, .int 0, .int 0, .int 0, .int 0, .ref 49]), .inl (0, 10, .inl (upd (upd (fun _ => 0) (0) (-4)) (1) 0)), .inl (0, 3, .inl (fun _ => 0)), .inl (0, 40, .inl (fun _ => 0)), .inl (0, 40, .inl (fun _ => 0)), .inl (0, 40, .inl (fun _ => 0)), .inl (0, 40, .inl (fun _ => 0)), .inl (0, 40, .inl (fun _ => 0)), .inl (0, 120, .inl (fun _ => 0)), .inl (0, 10, .inl (fun _ => 0)), .inl (0, 30, .inl (fun _ => 0)), .inl (0, 10, .inl (fun _ => 0)), .inl (0, 30, .inl (upd (fun _ => 0) (0) 2)), .inl (0, 30, .inl (upd (fun _ => 0) (0) 1)), .inl (0, 30, .inl (fun _ => 0)), .inl (0, 61, .inl (fun _ => 0)), .inl (0, 61, .inl (fun _ => 0)), .inl (0, 1300, .inl (fun _ => 0)), .inl (0, 30, .inl (fun _ => 0)), .inl (0, 30, .inl (fun _ => 0)), .inl (0, 30, .inl (fun _ => 0)), .inl (0, 3, .inl (fun _ => 0)), .inl (0, 50, .inl (fun _ => 0)), .inl (2, 40, .inl (fun _ => 0)), .inl (0, 3, .inl (fun _ => 0)), .inr (5, [.int 2, .int 1, .int (c)])]
def g9_26 (g : pm_C) (a : Int32) (b : Int32) (c : Int32) (d : Int32) : pm_H := [g, .inr (11, [.ref 2, .ref 5, .ref 9, .ref 12, .ref 16, .ref 18, .ref 20, .int 0, .ref 21, .int 0, .ref 22, .int 1, .ref 23, .int 0, .ref 24, .int 0, .int 0]), .inr (9, [.ref 3, .ref 4, .int 2]), .inl (0, 10, .inl (upd (upd (fun _ => 0) (0) (-1)) (1) 0)), .inl (0, 31, .inl (upd (upd (upd (upd (upd (upd (upd (fun _ => 0) (0) 1) (1) 3) (10) 1024) (11) 2048) (20) 1048577) (21) 3145729) (30) 1073741825)), .inr (4, [.ref 2, .ref 6, .int 0, .ref 7, .ref 8, .long 0, .long 0, .long 0]), .inl (6, 40, .inr (.inr (.inr (.inr (fun _ => none))))), .inl (1, 10, .inr (.inl (fun _ => 0))), .inl (1, 7, .inr (.inl (fun _ => 0))), .inr (2, [.ref 2, .ref 5, .ref 10, .ref 11, .null, .int 0]), .inr (6, [.ref 2, .ref 5, .null, .int 0, .long 0, .int 0, .null]), .inr (6, [.ref 2, .ref 5, .null, .int 0, .long 0, .int 0, .null]), .inr (7, [.ref 13, .ref 14, .ref 15, .int 0]), .inl (0, 61, .inl (fun _ => 0)), .inl (0, 61, .inl (fun _ => 0)), .inl (0, 1220, .inl (fun _ => 0)), .inr (0, [.ref 5, .ref 12, .ref 17, .int 0, .int 0, .null]), .inl (0, 3, .inl (fun _ => 0)), .inr (8, [.ref 19, .int 0, .int 0]), .inl (0, 50, .inl (fun _ => 0)), .inl (0, 3, .inl (fun _ => 0)), .inl (4, 10, .inr (.inr (.inr (.inr (fun _ => none))))), .inl (8, 30, .inr (.inr (.inr (.inr (va_up (fun _ => none) (0) (some 50)))))), .inl (13, 30, .inr (.inr (.inr (.inr (fun _ => none))))), .inl (0, 3, .inl (fun _ => 0)), .inr (12, [.int 2, .ref 26, .ref 27, .int 0, .int 0, .ref 28, .ref 29, .ref 30, .ref 31, .ref 32, .ref 33, .int 0, .ref 34, .ref 35, .ref 36, .int 0, .ref 37, .ref 38, .ref 39, .int 0, .ref 40, .ref 41, .ref 42, .int 0, .ref 43, .ref 44, .ref 45, .ref 46, .int 0, .ref 47, .int 0, .int 0, .ref 48, .int 0, .int 0, .int 0, .int 0, .int 0, .ref 49]), .inl (0, 10, .inl (upd (upd (fun _ => 0) (0) (-4)) (1) 0)), .inl (0, 3, .inl (fun _ => 0)), .inl (0, 40, .inl (fun _ => 0)), .inl (0, 40, .inl (fun _ => 0)), .inl (0, 40, .inl (fun _ => 0)), .inl (0, 40, .inl (fun _ => 0)), .inl (0, 40, .inl (fun _ => 0)), .inl (0, 120, .inl (fun _ => 0)), .inl (0, 10, .inl (fun _ => 0)), .inl (0, 30, .inl (fun _ => 0)), .inl (0, 10, .inl (fun _ => 0)), .inl (0, 30, .inl (upd (fun _ => 0) (0) 2)), .inl (0, 30, .inl (upd (fun _ => 0) (0) 1)), .inl (0, 30, .inl (upd (fun _ => 0) (0) c)), .inl (0, 61, .inl (fun _ => 0)), .inl (0, 61, .inl (fun _ => 0)), .inl (0, 1300, .inl (fun _ => 0)), .inl (0, 30, .inl (fun _ => 0)), .inl (0, 30, .inl (fun _ => 0)), .inl (0, 30, .inl (fun _ => 0)), .inl (0, 3, .inl (fun _ => 0)), .inl (0, 50, .inl (fun _ => 0)), .inl (2, 40, .inl (fun _ => 0)), .inl (0, 3, .inl (fun _ => 0)), .inr (5, [.int 2, .int 1, .int (c)])]
def g9_27 (g : pm_C) (a : Int32) (b : Int32) (c : Int32) (d : Int32) : pm_H := [g, .inr (11, [.ref 2, .ref 5, .ref 9, .ref 12, .ref 16, .ref 18, .ref 20, .int 0, .ref 21, .int 0, .ref 22, .int 1, .ref 23, .int 0, .ref 24, .int 0, .int 0]), .inr (9, [.ref 3, .ref 4, .int 2]), .inl (0, 10, .inl (upd (upd (fun _ => 0) (0) (-1)) (1) 0)), .inl (0, 31, .inl (upd (upd (upd (upd (upd (upd (upd (fun _ => 0) (0) 1) (1) 3) (10) 1024) (11) 2048) (20) 1048577) (21) 3145729) (30) 1073741825)), .inr (4, [.ref 2, .ref 6, .int 0, .ref 7, .ref 8, .long 0, .long 0, .long 0]), .inl (6, 40, .inr (.inr (.inr (.inr (fun _ => none))))), .inl (1, 10, .inr (.inl (fun _ => 0))), .inl (1, 7, .inr (.inl (fun _ => 0))), .inr (2, [.ref 2, .ref 5, .ref 10, .ref 11, .null, .int 0]), .inr (6, [.ref 2, .ref 5, .null, .int 0, .long 0, .int 0, .null]), .inr (6, [.ref 2, .ref 5, .null, .int 0, .long 0, .int 0, .null]), .inr (7, [.ref 13, .ref 14, .ref 15, .int 0]), .inl (0, 61, .inl (fun _ => 0)), .inl (0, 61, .inl (fun _ => 0)), .inl (0, 1220, .inl (fun _ => 0)), .inr (0, [.ref 5, .ref 12, .ref 17, .int 0, .int 0, .null]), .inl (0, 3, .inl (fun _ => 0)), .inr (8, [.ref 19, .int 0, .int 0]), .inl (0, 50, .inl (fun _ => 0)), .inl (0, 3, .inl (fun _ => 0)), .inl (4, 10, .inr (.inr (.inr (.inr (fun _ => none))))), .inl (8, 30, .inr (.inr (.inr (.inr (va_up (fun _ => none) (0) (some 50)))))), .inl (13, 30, .inr (.inr (.inr (.inr (fun _ => none))))), .inl (0, 3, .inl (fun _ => 0)), .inr (12, [.int 2, .ref 26, .ref 27, .int 0, .int 0, .ref 28, .ref 29, .ref 30, .ref 31, .ref 32, .ref 33, .int 0, .ref 34, .ref 35, .ref 36, .int 1, .ref 37, .ref 38, .ref 39, .int 0, .ref 40, .ref 41, .ref 42, .int 0, .ref 43, .ref 44, .ref 45, .ref 46, .int 0, .ref 47, .int 0, .int 0, .ref 48, .int 0, .int 0, .int 0, .int 0, .int 0, .ref 49]), .inl (0, 10, .inl (upd (upd (fun _ => 0) (0) (-4)) (1) 0)), .inl (0, 3, .inl (fun _ => 0)), .inl (0, 40, .inl (fun _ => 0)), .inl (0, 40, .inl (fun _ => 0)), .inl (0, 40, .inl (fun _ => 0)), .inl (0, 40, .inl (fun _ => 0)), .inl (0, 40, .inl (fun _ => 0)), .inl (0, 120, .inl (fun _ => 0)), .inl (0, 10, .inl (fun _ => 0)), .inl (0, 30, .inl (fun _ => 0)), .inl (0, 10, .inl (fun _ => 0)), .inl (0, 30, .inl (upd (fun _ => 0) (0) 2)), .inl (0, 30, .inl (upd (fun _ => 0) (0) 1)), .inl (0, 30, .inl (upd (fun _ => 0) (0) c)), .inl (0, 61, .inl (fun _ => 0)), .inl (0, 61, .inl (fun _ => 0)), .inl (0, 1300, .inl (fun _ => 0)), .inl (0, 30, .inl (fun _ => 0)), .inl (0, 30, .inl (fun _ => 0)), .inl (0, 30, .inl (fun _ => 0)), .inl (0, 3, .inl (fun _ => 0)), .inl (0, 50, .inl (fun _ => 0)), .inl (2, 40, .inl (fun _ => 0)), .inl (0, 3, .inl (fun _ => 0)), .inr (5, [.int 2, .int 1, .int (c)])]
def g9_28 (g : pm_C) (a : Int32) (b : Int32) (c : Int32) (d : Int32) : pm_H := [g, .inr (11, [.ref 2, .ref 5, .ref 9, .ref 12, .ref 16, .ref 18, .ref 20, .int 0, .ref 21, .int 0, .ref 22, .int 0, .ref 23, .int 0, .ref 24, .int 0, .int 0]), .inr (9, [.ref 3, .ref 4, .int 2]), .inl (0, 10, .inl (upd (upd (fun _ => 0) (0) (-1)) (1) 0)), .inl (0, 31, .inl (upd (upd (upd (upd (upd (upd (upd (fun _ => 0) (0) 1) (1) 3) (10) 1024) (11) 2048) (20) 1048577) (21) 3145729) (30) 1073741825)), .inr (4, [.ref 2, .ref 6, .int 0, .ref 7, .ref 8, .long 0, .long 0, .long 0]), .inl (6, 40, .inr (.inr (.inr (.inr (fun _ => none))))), .inl (1, 10, .inr (.inl (fun _ => 0))), .inl (1, 7, .inr (.inl (fun _ => 0))), .inr (2, [.ref 2, .ref 5, .ref 10, .ref 11, .null, .int 0]), .inr (6, [.ref 2, .ref 5, .null, .int 0, .long 0, .int 0, .null]), .inr (6, [.ref 2, .ref 5, .null, .int 0, .long 0, .int 0, .null]), .inr (7, [.ref 13, .ref 14, .ref 15, .int 0]), .inl (0, 61, .inl (fun _ => 0)), .inl (0, 61, .inl (fun _ => 0)), .inl (0, 1220, .inl (fun _ => 0)), .inr (0, [.ref 5, .ref 12, .ref 17, .int 0, .int 0, .null]), .inl (0, 3, .inl (fun _ => 0)), .inr (8, [.ref 19, .int 0, .int 0]), .inl (0, 50, .inl (fun _ => 0)), .inl (0, 3, .inl (fun _ => 0)), .inl (4, 10, .inr (.inr (.inr (.inr (fun _ => none))))), .inl (8, 30, .inr (.inr (.inr (.inr (fun _ => none))))), .inl (13, 30, .inr (.inr (.inr (.inr (fun _ => none))))), .inl (0, 3, .inl (fun _ => 0)), .inr (12, [.int 2, .ref 26, .ref 27, .int 0, .int 0, .ref 28, .ref 29, .ref 30, .ref 31, .ref 32, .ref 33, .int 0, .ref 34, .ref 35, .ref 36, .int 0, .ref 37, .ref 38, .ref 39, .int 0, .ref 40, .ref 41, .ref 42, .int 0, .ref 43, .ref 44, .ref 45, .ref 46, .int 0, .ref 47, .int 0, .int 0, .ref 48, .int 0, .int 0, .int 0, .int 0, .int 0, .ref 49]), .inl (0, 10, .inl (upd (upd (fun _ => 0) (0) (-4)) (1) 0)), .inl (0, 3, .inl (fun _ => 0)), .inl (0, 40, .inl (fun _ => 0)), .inl (0, 40, .inl (fun _ => 0)), .inl (0, 40, .inl (fun _ => 0)), .inl (0, 40, .inl (fun _ => 0)), .inl (0, 40, .inl (fun _ => 0)), .inl (0, 120, .inl (fun _ => 0)), .inl (0, 10, .inl (fun _ => 0)), .inl (0, 30, .inl (fun _ => 0)), .inl (0, 10, .inl (fun _ => 0)), .inl (0, 30, .inl (fun _ => 0)), .inl (0, 30, .inl (fun _ => 0)), .inl (0, 30, .inl (fun _ => 0)), .inl (0, 61, .inl (fun _ => 0)), .inl (0, 61, .inl (fun _ => 0)), .inl (0, 1300, .inl (fun _ => 0)), .inl (0, 30, .inl (fun _ => 0)), .inl (0, 30, .inl (fun _ => 0)), .inl (0, 30, .inl (fun _ => 0)), .inl (0, 3, .inl (fun _ => 0)), .inl (0, 50, .inl (fun _ => 0)), .inl (2, 40, .inl (fun _ => 0)), .inl (0, 3, .inl (fun _ => 0)), .inr (5, [.int 3, .int 0, .int 0])]
def g9_29 (g : pm_C) (a : Int32) (b : Int32) (c : Int32) (d : Int32) : pm_H := [g, .inr (11, [.ref 2, .ref 5, .ref 9, .ref 12, .ref 16, .ref 18, .ref 20, .int 0, .ref 21, .int 0, .ref 22, .int 0, .ref 23, .int 0, .ref 24, .int 0, .int 0]), .inr (9, [.ref 3, .ref 4, .int 2]), .inl (0, 10, .inl (upd (upd (fun _ => 0) (0) (-1)) (1) 0)), .inl (0, 31, .inl (upd (upd (upd (upd (upd (upd (upd (fun _ => 0) (0) 1) (1) 3) (10) 1024) (11) 2048) (20) 1048577) (21) 3145729) (30) 1073741825)), .inr (4, [.ref 2, .ref 6, .int 0, .ref 7, .ref 8, .long 0, .long 0, .long 0]), .inl (6, 40, .inr (.inr (.inr (.inr (fun _ => none))))), .inl (1, 10, .inr (.inl (fun _ => 0))), .inl (1, 7, .inr (.inl (fun _ => 0))), .inr (2, [.ref 2, .ref 5, .ref 10, .ref 11, .null, .int 0]), .inr (6, [.ref 2, .ref 5, .null, .int 0, .long 0, .int 0, .null]), .inr (6, [.ref 2, .ref 5, .null, .int 0, .long 0, .int 0, .null]), .inr (7, [.ref 13, .ref 14, .ref 15, .int 0]), .inl (0, 61, .inl (fun _ => 0)), .inl (0, 61, .inl (fun _ => 0)), .inl (0, 1220, .inl (fun _ => 0)), .inr (0, [.ref 5, .ref 12, .ref 17, .int 0, .int 0, .null]), .inl (0, 3, .inl (fun _ => 0)), .inr (8, [.ref 19, .int 0, .int 0]), .inl (0, 50, .inl (fun _ => 0)), .inl (0, 3, .inl (fun _ => 0)), .inl (4, 10, .inr (.inr (.inr (.inr (fun _ => none))))), .inl (8, 30, .inr (.inr (.inr (.inr (fun _ => none))))), .inl (13, 30, .inr (.inr (.inr (.inr (fun _ => none))))), .inl (0, 3, .inl (fun _ => 0)), .inr (12, [.int 2, .ref 26, .ref 27, .int 0, .int 0, .ref 28, .ref 29, .ref 30, .ref 31, .ref 32, .ref 33, .int 0, .ref 34, .ref 35, .ref 36, .int 0, .ref 37, .ref 38, .ref 39, .int 0, .ref 40, .ref 41, .ref 42, .int 0, .ref 43, .ref 44, .ref 45, .ref 46, .int 0, .ref 47, .int 0, .int 0, .ref 48, .int 0, .int 0, .int 0, .int 0, .int 0, .ref 49]), .inl (0, 10, .inl (upd (upd (fun _ => 0) (0) (-4)) (1) 0)), .inl (0, 3, .inl (fun _ => 0)), .inl (0, 40, .inl (fun _ => 0)), .inl (0, 40, .inl (fun _ => 0)), .inl (0, 40, .inl (fun _ => 0)), .inl (0, 40, .inl (fun _ => 0)), .inl (0, 40, .inl (fun _ => 0)), .inl (0, 120, .inl (fun _ => 0)), .inl (0, 10, .inl (fun _ => 0)), .inl (0, 30, .inl (fun _ => 0)), .inl (0, 10, .inl (fun _ => 0)), .inl (0, 30, .inl (fun _ => 0)), .inl (0, 30, .inl (fun _ => 0)), .inl (0, 30, .inl (fun _ => 0)), .inl (0, 61, .inl (fun _ => 0)), .inl (0, 61, .inl (fun _ => 0)), .inl (0, 1300, .inl (fun _ => 0)), .inl (0, 30, .inl (fun _ => 0)), .inl (0, 30, .inl (fun _ => 0)), .inl (0, 30, .inl (fun _ => 0)), .inl (0, 3, .inl (fun _ => 0)), .inl (0, 50, .inl (fun _ => 0)), .inl (2, 40, .inl (fun _ => 0)), .inl (0, 3, .inl (fun _ => 0)), .inr (5, [.int 3, .int 0, .int 6])]
def g9_30 (g : pm_C) (a : Int32) (b : Int32) (c : Int32) (d : Int32) : pm_H := [g, .inr (11, [.ref 2, .ref 5, .ref 9, .ref 12, .ref 16, .ref 18, .ref 20, .int 0, .ref 21, .int 0, .ref 22, .int 0, .ref 23, .int 0, .ref 24, .int 0, .int 0]), .inr (9, [.ref 3, .ref 4, .int 2]), .inl (0, 10, .inl (upd (upd (fun _ => 0) (0) (-1)) (1) 0)), .inl (0, 31, .inl (upd (upd (upd (upd (upd (upd (upd (fun _ => 0) (0) 1) (1) 3) (10) 1024) (11) 2048) (20) 1048577) (21) 3145729) (30) 1073741825)), .inr (4, [.ref 2, .ref 6, .int 0, .ref 7, .ref 8, .long 0, .long 0, .long 0]), .inl (6, 40, .inr (.inr (.inr (.inr (fun _ => none))))), .inl (1, 10, .inr (.inl (fun _ => 0))), .inl (1, 7, .inr (.inl (fun _ => 0))), .inr (2, [.ref 2, .ref 5, .ref 10, .ref 11, .null, .int 0]), .inr (6, [.ref 2, .ref 5, .null, .int 0, .long 0, .int 0, .null]), .inr (6, [.ref 2, .ref 5, .null, .int 0, .long 0, .int 0, .null]), .inr (7, [.ref 13, .ref 14, .ref 15, .int 0]), .inl (0, 61, .inl (fun _ => 0)), .inl (0, 61, .inl (fun _ => 0)), .inl (0, 1220, .inl (fun _ => 0)), .inr (0, [.ref 5, .ref 12, .ref 17, .int 0, .int 0, .null]), .inl (0, 3, .inl (fun _ => 0)), .inr (8, [.ref 19, .int 0, .int 0]), .inl (0, 50, .inl (fun _ => 0)), .inl (0, 3, .inl (fun _ => 0)), .inl (4, 10, .inr (.inr (.inr (.inr (fun _ => none))))), .inl (8, 30, .inr (.inr (.inr (.inr (va_up (fun _ => none) (0) (some 50)))))), .inl (13, 30, .inr (.inr (.inr (.inr (fun _ => none))))), .inl (0, 3, .inl (fun _ => 0)), .inr (12, [.int 2, .ref 26, .ref 27, .int 0, .int 0, .ref 28, .ref 29, .ref 30, .ref 31, .ref 32, .ref 33, .int 0, .ref 34, .ref 35, .ref 36, .int 0, .ref 37, .ref 38, .ref 39, .int 0, .ref 40, .ref 41, .ref 42, .int 0, .ref 43, .ref 44, .ref 45, .ref 46, .int 0, .ref 47, .int 0, .int 0, .ref 48, .int 0, .int 0, .int 0, .int 0, .int 0, .ref 49]), .inl (0, 10, .inl (upd (upd (fun _ => 0) (0) (-4)) (1) 0)), .inl (0, 3, .inl (fun _ => 0)), .inl (0, 40, .inl (fun _ => 0)), .inl (0, 40, .inl (fun _ => 0)), .inl (0, 40, .inl (fun _ => 0)), .inl (0, 40, .inl (fun _ => 0)), .inl (0, 40, .inl (fun _ => 0)), .inl (0, 120, .inl (fun _ => 0)), .inl (0, 10, .inl (fun _ => 0)), .inl (0, 30, .inl (fun _ => 0)), .inl (0, 10, .inl (fun _ => 0)), .inl (0, 30, .inl (fun _ => 0)), .inl (0, 30, .inl (fun _ => 0)), .inl (0, 30, .inl (fun _ => 0)), .inl (0, 61, .inl (fun _ => 0)), .inl (0, 61, .inl (fun _ => 0)), .inl (0, 1300, .inl (fun _ => 0)), .inl (0, 30, .inl (fun _ => 0)), .inl (0, 30, .inl (fun _ => 0)), .inl (0, 30, .inl (fun _ => 0)), .inl (0, 3, .inl (fun _ => 0)), .inl (0, 50, .inl (fun _ => 0)), .inl (2, 40, .inl (fun _ => 0)), .inl (0, 3, .inl (fun _ => 0)), .inr (5, [.int 3, .int 0, .int 6])]
def g9_31 (g : pm_C) (a : Int32) (b : Int32) (c : Int32) (d : Int32) : pm_H := [g, .inr (11, [.ref 2, .ref 5, .ref 9, .ref 12, .ref 16, .ref 18, .ref 20, .int 0, .ref 21, .int 0, .ref 22, .int 1, .ref 23, .int 0, .ref 24, .int 0, .int 0]), .inr (9, [.ref 3, .ref 4, .int 2]), .inl (0, 10, .inl (upd (upd (fun _ => 0) (0) (-1)) (1) 0)), .inl (0, 31, .inl (upd (upd (upd (upd (upd (upd (upd (fun _ => 0) (0) 1) (1) 3) (10) 1024) (11) 2048) (20) 1048577) (21) 3145729) (30) 1073741825)), .inr (4, [.ref 2, .ref 6, .int 0, .ref 7, .ref 8, .long 0, .long 0, .long 0]), .inl (6, 40, .inr (.inr (.inr (.inr (fun _ => none))))), .inl (1, 10, .inr (.inl (fun _ => 0))), .inl (1, 7, .inr (.inl (fun _ => 0))), .inr (2, [.ref 2, .ref 5, .ref 10, .ref 11, .null, .int 0]), .inr (6, [.ref 2, .ref 5, .null, .int 0, .long 0, .int 0, .null]), .inr (6, [.ref 2, .ref 5, .null, .int 0, .long 0, .int 0, .null]), .inr (7, [.ref 13, .ref 14, .ref 15, .int 0]), .inl (0, 61, .inl (fun _ => 0)), .inl (0, 61, .inl (fun _ => 0)), .inl (0, 1220, .inl (fun _ => 0)), .inr (0, [.ref 5, .ref 12, .ref 17, .int 0, .int 0, .null]), .inl (0, 3, .inl (fun _ => 0)), .inr (8, [.ref 19, .int 0, .int 0]), .inl (0, 50, .inl (fun _ => 0)), .inl (0, 3, .inl (fun _ => 0)), .inl (4, 10, .inr (.inr (.inr (.inr (fun _ => none))))), .inl (8, 30, .inr (.inr (.inr (.inr (va_up (fun _ => none) (0) (some 50)))))), .inl (13, 30, .inr (.inr (.inr (.inr (fun _ => none))))), .inl (0, 3, .inl (fun _ => 0)), .inr (12, [.int 2, .ref 26, .ref 27, .int 0, .int 0, .ref 28, .ref 29, .ref 30, .ref 31, .ref 32, .ref 33, .int 0, .ref 34, .ref 35, .ref 36, .int 0, .ref 37, .ref 38, .ref 39, .int 0, .ref 40, .ref 41, .ref 42, .int 0, .ref 43, .ref 44, .ref 45, .ref 46, .int 0, .ref 47, .int 0, .int 0, .ref 48, .int 0, .int 0, .int 0, .int 0, .int 0, .ref 49]), .inl (0, 10, .inl (upd (upd (fun _ => 0) (0) (-4)) (1) 0)), .inl (0, 3, .inl (fun _ => 0)), .inl (0, 40, .inl (fun _ => 0)), .inl (0, 40, .inl (fun _ => 0)), .inl (0, 40, .inl (fun _ => 0)), .inl (0, 40, .inl (fun _ => 0)), .inl (0, 40, .inl (fun _ => 0)), .inl (0, 120, .inl (fun _ => 0)), .inl (0, 10, .inl (fun _ => 0)), .inl (0, 30, .inl (fun _ => 0)), .inl (0, 10, .inl (fun _ => 0)), .inl (0, 30, .inl (fun _ => 0)), .inl (0, 30, .inl (fun _ => 0)), .inl (0, 30, .inl (fun _ => 0)), .inl (0, 61, .inl (fun _ => 0)), .inl (0, 61, .inl (fun _ => 0)), .inl (0, 1300, .inl (fun _ => 0)), .inl (0, 30, .inl (fun _ => 0)), .inl (0, 30, .inl (fun _ => 0)), .inl (0, 30, .inl (fun _ => 0)), .inl (0, 3, .inl (fun _ => 0)), .inl (0, 50, .inl (fun _ => 0)), .inl (2, 40, .inl (fun _ => 0)), .inl (0, 3, .inl (fun _ => 0)), .inr (5, [.int 3, .int 0, .int 6])]
def g9_32 (g : pm_C) (a : Int32) (b : Int32) (c : Int32) (d : Int32) : pm_H := [g, .inr (11, [.ref 2, .ref 5, .ref 9, .ref 12, .ref 16, .ref 18, .ref 20, .int 0, .ref 21, .int 0, .ref 22, .int 1, .ref 23, .int 0, .ref 24, .int 0, .int 0]), .inr (9, [.ref 3, .ref 4, .int 2]), .inl (0, 10, .inl (upd (upd (fun _ => 0) (0) (-1)) (1) 0)), .inl (0, 31, .inl (upd (upd (upd (upd (upd (upd (upd (fun _ => 0) (0) 1) (1) 3) (10) 1024) (11) 2048) (20) 1048577) (21) 3145729) (30) 1073741825)), .inr (4, [.ref 2, .ref 6, .int 0, .ref 7, .ref 8, .long 0, .long 0, .long 0]), .inl (6, 40, .inr (.inr (.inr (.inr (fun _ => none))))), .inl (1, 10, .inr (.inl (fun _ => 0))), .inl (1, 7, .inr (.inl (fun _ => 0))), .inr (2, [.ref 2, .ref 5, .ref 10, .ref 11, .null, .int 0]), .inr (6, [.ref 2, .ref 5, .null, .int 0, .long 0, .int 0, .null]), .inr (6, [.ref 2, .ref 5, .null, .int 0, .long 0, .int 0, .null]), .inr (7, [.ref 13, .ref 14, .ref 15, .int 0]), .inl (0, 61, .inl (fun _ => 0)), .inl (0, 61, .inl (fun _ => 0)), .inl (0, 1220, .inl (fun _ => 0)), .inr (0, [.ref 5, .ref 12, .ref 17, .int 0, .int 0, .null]), .inl (0, 3, .inl (fun _ => 0)), .inr (8, [.ref 19, .int 0, .int 0]), .inl (0, 50, .inl (fun _ => 0)), .inl (0, 3, .inl (fun _ => 0)), .inl (4, 10, .inr (.inr (.inr (.inr (fun _ => none))))), .inl (8, 30, .inr (.inr (.inr (.inr (va_up (fun _ => none) (0) (some 50)))))), .inl (13, 30, .inr (.inr (.inr (.inr (fun _ => none))))), .inl (0, 3, .inl (fun _ => 0)), .inr (12, [.int 2, .ref 26, .ref 27, .int 0, .int 0, .ref 28, .ref 29, .ref 30, .ref 31, .ref 32, .ref 33, .int 0, .ref 34, .ref 35, .ref 36, .int 0, .ref 37, .ref 38, .ref 39, .int 0, .ref 40, .ref 41, .ref 42, .int 0, .ref 43, .ref 44, .ref 45, .ref 46, .int 0, .ref 47, .int 0, .int 0, .ref 48, .int 0, .int 0, .int 0, .int 0, .int 0, .ref 49]), .inl (0, 10, .inl (upd (upd (fun _ => 0) (0) (-4)) (1) 0)), .inl (0, 3, .inl (fun _ => 0)), .inl (0, 40, .inl (fun _ => 0)), .inl (0, 40, .inl (fun _ => 0)), .inl (0, 40, .inl (fun _ => 0)), .inl (0, 40, .inl (fun _ => 0)), .inl (0, 40, .inl (fun _ => 0)), .inl (0, 120, .inl (fun _ => 0)), .inl (0, 10, .inl (fun _ => 0)), .inl (0, 30, .inl (fun _ => 0)), .inl (0, 10, .inl (fun _ => 0)), .inl (0, 30, .inl (upd (fun _ => 0) (0) 3)), .inl (0, 30, .inl (fun _ => 0)), .inl (0, 30, .inl (fun _ => 0)), .inl (0, 61, .inl (fun _ => 0)), .inl (0, 61, .inl (fun _ => 0)), .inl (0, 1300, .inl (fun _ => 0)), .inl (0, 30, .inl (fun _ => 0)), .inl (0, 30, .inl (fun _ => 0)), .inl (0, 30, .inl (fun _ => 0)), .inl (0, 3, .inl (fun _ => 0)), .inl (0, 50, .inl (fun _ => 0)), .inl (2, 40, .inl (fun _ => 0)), .inl (0, 3, .inl (fun _ => 0)), .inr (5, [.int 3, .int 0, .int 6])]
def g9_33 (g : pm_C) (a : Int32) (b : Int32) (c : Int32) (d : Int32) : pm_H := [g, .inr (11, [.ref 2, .ref 5, .ref 9, .ref 12, .ref 16, .ref 18, .ref 20, .int 0, .ref 21, .int 0, .ref 22, .int 1, .ref 23, .int 0, .ref 24, .int 0, .int 0]), .inr (9, [.ref 3, .ref 4, .int 2]), .inl (0, 10, .inl (upd (upd (fun _ => 0) (0) (-1)) (1) 0)), .inl (0, 31, .inl (upd (upd (upd (upd (upd (upd (upd (fun _ => 0) (0) 1) (1) 3) (10) 1024) (11) 2048) (20) 1048577) (21) 3145729) (30) 1073741825)), .inr (4, [.ref 2, .ref 6, .int 0, .ref 7, .ref 8, .long 0, .long 0, .long 0]), .inl (6, 40, .inr (.inr (.inr (.inr (fun _ => none))))), .inl (1, 10, .inr (.inl (fun _ => 0))), .inl (1, 7, .inr (.inl (fun _ => 0))), .inr (2, [.ref 2, .ref 5, .ref 10, .ref 11, .null, .int 0]), .inr (6, [.ref 2, .ref 5, .null, .int 0, .long 0, .int 0, .null]), .inr (6, [.ref 2, .ref 5, .null, .int 0, .long 0, .int 0, .null]), .inr (7, [.ref 13, .ref 14, .ref 15, .int 0]), .inl (0, 61, .inl (fun _ => 0)), .inl (0, 61, .inl (fun _ => 0)), .inl (0, 1220, .inl (fun _ => 0)), .inr (0, [.ref 5, .ref 12, .ref 17, .int 0, .int 0, .null]), .inl (0, 3, .inl (fun _ => 0)), .inr (8, [.ref 19, .int 0, .int 0]), .inl (0, 50, .inl (fun _ => 0)), .inl (0, 3, .inl (fun _ => 0)), .inl (4, 10, .inr (.inr (.inr (.inr (fun _ => none))))), .inl (8, 30, .inr (.inr (.inr (.inr (va_up (fun _ => none) (0) (some 50)))))), .inl (13, 30, .inr (.inr (.inr (.inr (fun _ => none))))), .inl (0, 3, .inl (fun _ => 0)), .inr (12, [.int 2, .ref 26, .ref 27, .int 0, .int 0, .ref 28, .ref 29, .ref 30, .ref 31, .ref 32, .ref 33, .int 0, .ref 34, .ref 35, .ref 36, .int 0, .ref 37, .ref 38, .ref 39, .int 0, .ref 40, .ref 41, .ref 42, .int 0, .ref 43, .ref 44, .ref 45, .ref 46, .int 0, .ref 47, .int 0, .int 0, .ref 48, .int 0, .int 0, .int 0, .int 0, .int 0, .ref 49]), .inl (0, 10, .inl (upd (upd (fun _ => 0) (0) (-4)) (1) 0)), .inl (0, 3, .inl (fun _ => 0)), .inl (0, 40, .inl (fun _ => 0)), .inl (0, 40, .inl (fun _ => 0)), .inl (0, 40, .inl (fun _ => 0)), .inl (0, 40, .inl (fun _ => 0)), .inl (0, 40, .inl (fun _ => 0)), .inl (0, 120, .inl (fun _ => 0)), .inl (0, 10, .inl (fun _ => 0)), .inl (0, 30, .inl (fun _ => 0)), .inl (0, 10, .inl (fun _ => 0)), .inl (0, 30, .inl (upd (fun _ => 0) (0) 3)), .inl (0, 30, .inl (upd (fun _ => 0) (0) 0)), .inl (0, 30, .inl (fun _ => 0)), .inl (0, 61, .inl (fun _ => 0)), .inl (0, 61, .inl (fun _ => 0)), .inl (0, 1300, .inl (fun _ => 0)), .inl (0, 30, .inl (fun _ => 0)), .inl (0, 30, .inl (fun _ => 0)), .inl (0, 30, .inl (fun _ => 0)), .inl (0, 3, .inl (fun _ => 0)), .inl (0, 50, .inl (fun _ => 0)), .inl (2, 40, .inl (fun _ => 0)), .inl (0, 3, .inl (fun _ => 0)), .inr (5, [.int 3, .int 0, .int 6])]
def g9_34 (g : pm_C) (a : Int32) (b : Int32) (c : Int32) (d : Int32) : pm_H := [g, .inr (11, [.ref 2, .ref 5, .ref 9, .ref 12, .ref 16, .ref 18, .ref 20, .int 0, .ref 21, .int 0, .ref 22, .int 1, .ref 23, .int 0, .ref 24, .int 0, .int 0]), .inr (9, [.ref 3, .ref 4, .int 2]), .inl (0, 10, .inl (upd (upd (fun _ => 0) (0) (-1)) (1) 0)), .inl (0, 31, .inl (upd (upd (upd (upd (upd (upd (upd (fun _ => 0) (0) 1) (1) 3) (10) 1024) (11) 2048) (20) 1048577) (21) 3145729) (30) 1073741825)), .inr (4, [.ref 2, .ref 6, .int 0, .ref 7, .ref 8, .long 0, .long 0, .long 0]), .inl (6, 40, .inr (.inr (.inr (.inr (fun _ => none))))), .inl (1, 10, .inr (.inl (fun _ => 0))), .inl (1, 7, .inr (.inl (fun _ => 0))), .inr (2, [.ref 2, .ref 5, .ref 10, .ref 11, .null, .int 0]), .inr (6, [.ref 2, .ref 5, .null, .int 0, .long 0, .int 0, .null]), .inr (6, [.ref 2, .ref 5, .null, .int 0, .long 0, .int 0, .null]), .inr (7, [.ref 13, .ref 14, .ref 15, .int 0]), .inl (0, 61, .inl (fun _ => 0)), .inl (0, 61, .inl (fun _ => 0)), .inl (0, 1220, .inl (fun _ => 0)), .inr (0, [.ref 5, .ref 12, .ref 17, .int 0, .int 0, .null]), .inl (0, 3, .inl (fun _ => 0)), .inr (8, [.ref 19, .int 0, .int 0]), .inl (0, 50, .inl (fun _ => 0)), .inl (0, 3, .inl (fun _ => 0)), .inl (4, 10, .inr (.inr (.inr (.inr (fun _ => none))))), .inl (8, 30, .inr (.inr (.inr (.inr (va_up (fun _ => none) (0) (some 50)))))), .inl (13, 30, .inr (.inr (.inr (.inr (fun _ => none))))), .inl (0, 3, .inl (fun _ => 0)), .inr (12, [.int 2, .ref 26, .ref 27, .int 0, .int 0, .ref 28, .ref 29, .ref 30, .ref 31, .ref 32, .ref 33, .int 0, .ref 34, .ref 35, .ref 36, .int 0, .ref 37, .ref 38, .ref 39, .int 0, .ref 40, .ref 41, .ref 42, .int 0, .ref 43, .ref 44, .ref 45, .ref 46, .int 0, .ref 47, .int 0, .int 0, .ref 48, .int 0, .int 0, .int 0, .int 0, .int 0, .ref 49]), .inl (0, 10, .inl (upd (upd (fun _ => 0) (0) (-4)) (1) 0)), .inl (0, 3, .inl (fun _ => 0)), .inl (0, 40, .inl (fun _ => 0)), .inl (0, 40, .inl (fun _ => 0)), .inl (0, 40, .inl (fun _ => 0)), .inl (0, 40, .inl (fun _ => 0)), .inl (0, 40, .inl (fun _ => 0)), .inl (0, 120, .inl (fun _ => 0)), .inl (0, 10, .inl (fun _ => 0)), .inl (0, 30, .inl (fun _ => 0)), .inl (0, 10, .inl (fun _ => 0)), .inl (0, 30, .inl (upd (fun _ => 0) (0) 3)), .inl (0, 30, .inl (upd (fun _ => 0) (0) 0)), .inl (0, 30, .inl (upd (fun _ => 0) (0) c)), .inl (0, 61, .inl (fun _ => 0)), .inl (0, 61, .inl (fun _ => 0)), .inl (0, 1300, .inl (fun _ => 0)), .inl (0, 30, .inl (fun _ => 0)), .inl (0, 30, .inl (fun _ => 0)), .inl (0, 30, .inl (fun _ => 0)), .inl (0, 3, .inl (fun _ => 0)), .inl (0, 50, .inl (fun _ => 0)), .inl (2, 40, .inl (fun _ => 0)), .inl (0, 3, .inl (fun _ => 0)), .inr (5, [.int 3, .int 0, .int 6])]
def g9_35 (g : pm_C) (a : Int32) (b : Int32) (c : Int32) (d : Int32) : pm_H := [g, .inr (11, [.ref 2, .ref 5, .ref 9, .ref 12, .ref 16, .ref 18, .ref 20, .int 0, .ref 21, .int 0, .ref 22, .int 1, .ref 23, .int 0, .ref 24, .int 0, .int 0]), .inr (9, [.ref 3, .ref 4, .int 2]), .inl (0, 10, .inl (upd (upd (fun _ => 0) (0) (-1)) (1) 0)), .inl (0, 31, .inl (upd (upd (upd (upd (upd (upd (upd (fun _ => 0) (0) 1) (1) 3) (10) 1024) (11) 2048) (20) 1048577) (21) 3145729) (30) 1073741825)), .inr (4, [.ref 2, .ref 6, .int 0, .ref 7, .ref 8, .long 0, .long 0, .long 0]), .inl (6, 40, .inr (.inr (.inr (.inr (fun _ => none))))), .inl (1, 10, .inr (.inl (fun _ => 0))), .inl (1, 7, .inr (.inl (fun _ => 0))), .inr (2, [.ref 2, .ref 5, .ref 10, .ref 11, .null, .int 0]), .inr (6, [.ref 2, .ref 5, .null, .int 0, .long 0, .int 0, .null]), .inr (6, [.ref 2, .ref 5, .null, .int 0, .long 0, .int 0, .null]), .inr (7, [.ref 13, .ref 14, .ref 15, .int 0]), .inl (0, 61, .inl (fun _ => 0)), .inl (0, 61, .inl (fun _ => 0)), .inl (0, 1220, .inl (fun _ => 0)), .inr (0, [.ref 5, .ref 12, .ref 17, .int 0, .int 0, .null]), .inl (0, 3, .inl (fun _ => 0)), .inr (8, [.ref 19, .int 0, .int 0]), .inl (0, 50, .inl (fun _ => 0)), .inl (0, 3, .inl (fun _ => 0)), .inl (4, 10, .inr (.inr (.inr (.inr (fun _ => none))))), .inl (8, 30, .inr (.inr (.inr (.inr (va_up (fun _ => none) (0) (some 50)))))), .inl (13, 30, .inr (.inr (.inr (.inr (fun _ => none))))), .inl (0, 3, .inl (fun _ => 0)), .inr (12, [.int 2, .ref 26, .ref 27, .int 0, .int 0, .ref 28, .ref 29, .ref 30, .ref 31, .ref 32, .ref 33, .int 0, .ref 34, .ref 35, .ref 36, .int 1, .ref 37, .ref 38, .ref 39, .int 0, .ref 40, .ref 41, .ref 42, .int 0, .ref 43, .ref 44, .ref 45, .ref 46, .int 0, .ref 47, .int 0, .int 0, .ref 48, .int 0, .int 0, .int 0, .int 0, .int 0, .ref 49]), .inl (0, 10, .inl (upd (upd (fun _ => 0) (0) (-4)) (1) 0)), .inl (0, 3, .inl (fun _ => 0)), .inl (0, 40, .inl (fun _ => 0)), .inl (0, 40, .inl (fun _ => 0)), .inl (0, 40, .inl (fun _ => 0)), .inl (0, 40, .inl (fun _ => 0)), .inl (0, 40, .inl (fun _ => 0)), .inl (0, 120, .inl (fun _ => 0)), .inl (0, 10, .inl (fun _ => 0)), .inl (0, 30, .inl (fun _ => 0)), .inl (0, 10, .inl (fun _ => 0)), .inl (0, 30, .inl (upd (fun _ => 0) (0) 3)), .inl (0, 30, .inl (upd (fun _ => 0) (0) 0)), .inl (0, 30, .inl (upd (fun _ => 0) (0) c)), .inl (0, 61, .inl (fun _ => 0)), .inl (0, 61, .inl (fun _ => 0)), .inl (0, 1300, .inl (fun _ => 0)), .inl (0, 30, .inl (fun _ => 0)), .inl (0, 30, .inl (fun _ => 0)), .inl (0, 30, .inl (fun _ => 0)), .inl (0, 3, .inl (fun _ => 0)), .inl (0, 50, .inl (fun _ => 0)), .inl (2, 40, .inl (fun _ => 0)), .inl (0, 3, .inl (fun _ => 0)), .inr (5, [.int 3, .int 0, .int 6])]
def g9_36 (g : pm_C) (a : Int32) (b : Int32) (c : Int32) (d : Int32) : pm_H := [g, .inr (11, [.ref 2, .ref 5, .ref 9, .ref 12, .ref 16, .ref 18, .ref 20, .int 0, .ref 21, .int 0, .ref 22, .int 0, .ref 23, .int 0, .ref 24, .int 0, .int 0]), .inr (9, [.ref 3, .ref 4, .int 2]), .inl (0, 10, .inl (upd (upd (fun _ => 0) (0) (-1)) (1) 0)), .inl (0, 31, .inl (upd (upd (upd (upd (upd (upd (upd (fun _ => 0) (0) 1) (1) 3) (10) 1024) (11) 2048) (20) 1048577) (21) 3145729) (30) 1073741825)), .inr (4, [.ref 2, .ref 6, .int 0, .ref 7, .ref 8, .long 0, .long 0, .long 0]), .inl (6, 40, .inr (.inr (.inr (.inr (fun _ => none))))), .inl (1, 10, .inr (.inl (fun _ => 0))), .inl (1, 7, .inr (.inl (fun _ => 0))), .inr (2, [.ref 2, .ref 5, .ref 10, .ref 11, .null, .int 0]), .inr (6, [.ref 2, .ref 5, .null, .int 0, .long 0, .int 0, .null]), .inr (6, [.ref 2, .ref 5, .null, .int 0, .long 0, .int 0, .null]), .inr (7, [.ref 13, .ref 14, .ref 15, .int 0]), .inl (0, 61, .inl (fun _ => 0)), .inl (0, 61, .inl (fun _ => 0)), .inl (0, 1220, .inl (fun _ => 0)), .inr (0, [.ref 5, .ref 12, .ref 17, .int 0, .int 0, .null]), .inl (0, 3, .inl (fun _ => 0)), .inr (8, [.ref 19, .int 0, .int 0]), .inl (0, 50, .inl (fun _ => 0)), .inl (0, 3, .inl (fun _ => 0)), .inl (4, 10, .inr (.inr (.inr (.inr (fun _ => none))))), .inl (8, 30, .inr (.inr (.inr (.inr (fun _ => none))))), .inl (13, 30, .inr (.inr (.inr (.inr (fun _ => none))))), .inl (0, 3, .inl (fun _ => 0)), .inr (12, [.int 2, .ref 26, .ref 27, .int 0, .int 0, .ref 28, .ref 29, .ref 30, .ref 31, .ref 32, .ref 33, .int 0, .ref 34, .ref 35, .ref 36, .int 0, .ref 37, .ref 38, .ref 39, .int 0, .ref 40, .ref 41, .ref 42, .int 0, .ref 43, .ref 44, .ref 45, .ref 46, .int 0, .ref 47, .int 0, .int 0, .ref 48, .int 0, .int 0, .int 0, .int 0, .int 0, .ref 49]), .inl (0, 10, .inl (upd (upd (fun _ => 0) (0) (-4)) (1) 0)), .inl (0, 3, .inl (fun _ => 0)), .inl (0, 40, .inl (fun _ => 0)), .inl (0, 40, .inl (fun _ => 0)), .inl (0, 40, .inl (fun _ => 0)), .inl (0, 40, .inl (fun _ => 0)), .inl (0, 40, .inl (fun _ => 0)), .inl (0, 120, .inl (fun _ => 0)), .inl (0, 10, .inl (fun _ => 0)), .inl (0, 30, .inl (fun _ => 0)), .inl (0, 10, .inl (fun _ => 0)), .inl (0, 30, .inl (fun _ => 0)), .inl (0, 30, .inl (fun _ => 0)), .inl (0, 30, .inl (fun _ => 0)), .inl (0, 61, .inl (fun _ => 0)), .inl (0, 61, .inl (fun _ => 0)), .inl (0, 1300, .inl (fun _ => 0)), .inl (0, 30, .inl (fun _ => 0)), .inl (0, 30, .inl (fun _ => 0)), .inl (0, 30, .inl (fun _ => 0)), .inl (0, 3, .inl (fun _ => 0)), .inl (0, 50, .inl (fun _ => 0)), .inl (2, 40, .inl (fun _ => 0)), .inl (0, 3, .inl (fun _ => 0)), .inr (5, [.int 4, .int 0, .int 0])]
def g9_37 (g : pm_C) (a : Int32) (b : Int32) (c : Int32) (d : Int32) : pm_H := [g, .inr (11, [.ref 2, .ref 5, .ref 9, .ref 12, .ref 16, .ref 18, .ref 20, .int 0, .ref 21, .int 0, .ref 22, .int 0, .ref 23, .int 0, .ref 24, .int 0, .int 0]), .inr (9, [.ref 3, .ref 4, .int 2]), .inl (0, 10, .inl (upd (upd (fun _ => 0) (0) (-1)) (1) 0)), .inl (0, 31, .inl (upd (upd (upd (upd (upd (upd (upd (fun _ => 0) (0) 1) (1) 3) (10) 1024) (11) 2048) (20) 1048577) (21) 3145729) (30) 1073741825)), .inr (4, [.ref 2, .ref 6, .int 0, .ref 7, .ref 8, .long 0, .long 0, .long 0]), .inl (6, 40, .inr (.inr (.inr (.inr (fun _ => none))))), .inl (1, 10, .inr (.inl (fun _ => 0))), .inl (1, 7, .inr (.inl (fun _ => 0))), .inr (2, [.ref 2, .ref 5, .ref 10, .ref 11, .null, .int 0]), .inr (6, [.ref 2, .ref 5, .null, .int 0, .long 0, .int 0, .null]), .inr (6, [.ref 2, .ref 5, .null, .int 0, .long 0, .int 0, .null]), .inr (7, [.ref 13, .ref 14, .ref 15, .int 0]), .inl (0, 61, .inl (fun _ => 0)), .inl (0, 61, .inl (fun _ => 0)), .inl (0, 1220, .inl (fun _ => 0)), .inr (0, [.ref 5, .ref 12, .ref 17, .int 0, .int 0, .null]), .inl (0, 3, .inl (fun _ => 0)), .inr (8, [.ref 19, .int 0, .int 0]), .inl (0, 50, .inl (fun _ => 0)), .inl (0, 3, .inl (fun _ => 0)), .inl (4, 10, .inr (.inr (.inr (.inr (fun _ => none))))), .inl (8, 30, .inr (.inr (.inr (.inr (fun _ => none))))), .inl (13, 30, .inr (.inr (.inr (.inr (fun _ => none))))), .inl (0, 3, .inl (fun _ => 0)), .inr (12, [.int 2, .ref 26, .ref 27, .int 0, .int 0, .ref 28, .ref 29, .ref 30, .ref 31, .ref 32, .ref 33, .int 0, .ref 34, .ref 35, .ref 36, .int 0, .ref 37, .ref 38, .ref 39, .int 0, .ref 40, .ref 41, .ref 42, .int 0, .ref 43, .ref 44, .ref 45, .ref 46, .int 0, .ref 47, .int 0, .int 0, .ref 48, .int 0, .int 0, .int 0, .int 0, .int 0, .ref 49]), .inl (0, 10, .inl (upd (upd (fun _ => 0) (0) (-4)) (1) 0)), .inl (0, 3, .inl (fun _ => 0)), .inl (0, 40, .inl (fun _ => 0)), .inl (0, 40, .inl (fun _ => 0)), .inl (0, 40, .inl (fun _ => 0)), .inl (0, 40, .inl (fun _ => 0)), .inl (0, 40, .inl (fun _ => 0)), .inl (0, 120, .inl (fun _ => 0)), .inl (0, 10, .inl (fun _ => 0)), .inl (0, 30, .inl (fun _ => 0)), .inl (0, 10, .inl (fun _ => 0)), .inl (0, 30, .inl (fun _ => 0)), .inl (0, 30, .inl (fun _ => 0)), .inl (0, 30, .inl (fun _ => 0)), .inl (0, 61, .inl (fun _ => 0)), .inl (0, 61, .inl (fun _ => 0)), .inl (0, 1300, .inl (fun _ => 0)), .inl (0, 30, .inl (fun _ => 0)), .inl (0, 30, .inl (fun _ => 0)), .inl (0, 30, .inl (fun _ => 0)), .inl (0, 3, .inl (fun _ => 0)), .inl (0, 50, .inl (fun _ => 0)), .inl (2, 40, .inl (fun _ => 0)), .inl (0, 3, .inl (fun _ => 0)), .inr (5, [.int 4, .int 10, .int 0])]
def g9_38 (g : pm_C) (a : Int32) (b : Int32) (c : Int32) (d : Int32) : pm_H := [g, .inr (11, [.ref 2, .ref 5, .ref 9, .ref 12, .ref 16, .ref 18, .ref 20, .int 0, .ref 21, .int 0, .ref 22, .int 0, .ref 23, .int 0, .ref 24, .int 0, .int 0]), .inr (9, [.ref 3, .ref 4, .int 2]), .inl (0, 10, .inl (upd (upd (fun _ => 0) (0) (-1)) (1) 0)), .inl (0, 31, .inl (upd (upd (upd (upd (upd (upd (upd (fun _ => 0) (0) 1) (1) 3) (10) 1024) (11) 2048) (20) 1048577) (21) 3145729) (30) 1073741825)), .inr (4, [.ref 2, .ref 6, .int 0, .ref 7, .ref 8, .long 0, .long 0, .long 0]), .inl (6, 40, .inr (.inr (.inr (.inr (fun _ => none))))), .inl (1, 10, .inr (.inl (fun _ => 0))), .inl (1, 7, .inr (.inl (fun _ => 0))), .inr (2, [.ref 2, .ref 5, .ref 10, .ref 11, .null, .int 0]), .inr (6, [.ref 2, .ref 5, .null, .int 0, .long 0, .int 0, .null]), .inr (6, [.ref 2, .ref 5, .null, .int 0, .long 0, .int 0, .null]), .inr (7, [.ref 13, .ref 14, .ref 15, .int 0]), .inl (0, 61, .inl (fun _ => 0)), .inl (0, 61, .inl (fun _ => 0)), .inl (0, 1220, .inl (fun _ => 0)), .inr (0, [.ref 5, .ref 12, .ref 17, .int 0, .int 0, .null]), .inl (0, 3, .inl (fun _ => 0)), .inr (8, [.ref 19, .int 0, .int 0]), .inl (0, 50, .inl (fun _ => 0)), .inl (0, 3, .inl (fun _ => 0)), .inl (4, 10, .inr (.inr (.inr (.inr (fun _ => none))))), .inl (8, 30, .inr (.inr (.inr (.inr (fun _ => none))))), .inl (13, 30, .inr (.inr (.inr (.inr (fun _ => none))))), .inl (0, 3, .inl (fun _ => 0)), .inr (12, [.int 2, .ref 26, .ref 27, .int 0, .int 0, .ref 28, .ref 29, .ref 30, .ref 31, .ref 32, .ref 33, .int 0, .ref 34, .ref 35, .ref 36, .int 0, .ref 37, .ref 38, .ref 39, .int 0, .ref 40, .ref 41, .ref 42, .int 0, .ref 43, .ref 44, .ref 45, .ref 46, .int 0, .ref 47, .int 0, .int 0, .ref 48, .int 0, .int 0, .int 0, .int 0, .int 0, .ref 49]), .inl (0, 10, .inl (upd (upd (fun _ => 0) (0) (-4)) (1) 0)), .inl (0, 3, .inl (fun _ => 0)), .inl (0, 40, .inl (fun _ => 0)), .inl (0, 40, .inl (fun _ => 0)), .inl (0, 40, .inl (fun _ => 0)), .inl (0, 40, .inl (fun _ => 0)), .inl (0, 40, .inl (fun _ => 0)), .inl (0, 120, .inl (fun _ => 0)), .inl (0, 10, .inl (fun _ => 0)), .inl (0, 30, .inl (fun _ => 0)), .inl (0, 10, .inl (fun _ => 0)), .inl (0, 30, .inl (fun _ => 0)), .inl (0, 30, .inl (fun _ => 0)), .inl (0, 30, .inl (fun _ => 0)), .inl (0, 61, .inl (fun _ => 0)), .inl (0, 61, .inl (fun _ => 0)), .inl (0, 1300, .inl (fun _ => 0)), .inl (0, 30, .inl (fun _ => 0)), .inl (0, 30, .inl (fun _ => 0)), .inl (0, 30, .inl (fun _ => 0)), .inl (0, 3, .inl (fun _ => 0)), .inl (0, 50, .inl (fun _ => 0)), .inl (2, 40, .inl (fun _ => 0)), .inl (0, 3, .inl (fun _ => 0)), .inr (5, [.int 4, .int 10, .int (c)])]
def g9_39 (g : pm_C) (a : Int32) (b : Int32) (c : Int32) (d : Int32) : pm_H := [g, .inr (11, [.ref 2, .ref 5, .ref 9, .ref 12, .ref 16, .ref 18, .ref 20, .int 0, .ref 21, .int 0, .ref 22, .int 0, .ref 23, .int 0, .ref 24, .int 0, .int 0]), .inr (9, [.ref 3, .ref 4, .int 2]), .inl (0, 10, .inl (upd (upd (fun _ => 0) (0) (-1)) (1) 0)), .inl (0, 31, .inl (upd (upd (upd (upd (upd (upd (upd (fun _ => 0) (0) 1) (1) 3) (10) 1024) (11) 2048) (20) 1048577) (21) 3145729) (30) 1073741825)), .inr (4, [.ref 2, .ref 6, .int 0, .ref 7, .ref 8, .long 0, .long 0, .long 0]), .inl (6, 40, .inr (.inr (.inr (.inr (fun _ => none))))), .inl (1, 10, .inr (.inl (fun _ => 0))), .inl (1, 7, .inr (.inl (fun _ => 0))), .inr (2, [.ref 2, .ref 5, .ref 10, .ref 11, .null, .int 0]), .inr (6, [.ref 2, .ref 5, .null, .int 0, .long 0, .int 0, .null]), .inr (6, [.ref 2, .ref 5, .null, .int 0, .long 0, .int 0, .null]), .inr (7, [.ref 13, .ref 14, .ref 15, .int 0]), .inl (0, 61, .inl (fun _ => 0)), .inl (0, 61, .inl (fun _ => 0)), .inl (0, 1220, .inl (fun _ => 0)), .inr (0, [.ref 5, .ref 12, .ref 17, .int 0, .int 0, .null]), .inl (0, 3, .inl (fun _ => 0)), .inr (8, [.ref 19, .int 0, .int 0]), .inl (0, 50, .inl (fun _ => 0)), .inl (0, 3, .inl (fun _ => 0)), .inl (4, 10, .inr (.inr (.inr (.inr (fun _ => none))))), .inl (8, 30, .inr (.inr (.inr (.inr (va_up (fun _ => none) (0) (some 50)))))), .inl (13, 30, .inr (.inr (.inr (.inr (fun _ => none))))), .inl (0, 3, .inl (fun _ => 0)), .inr (12, [.int 2, .ref 26, .ref 27, .int 0, .int 0, .ref 28, .ref 29, .ref 30, .ref 31, .ref 32, .ref 33, .int 0, .ref 34, .ref 35, .ref 36, .int 0, .ref 37, .ref 38, .ref 39, .int 0, .ref 40, .ref 41, .ref 42, .int 0, .ref 43, .ref 44, .ref 45, .ref 46, .int 0, .ref 47, .int 0, .int 0, .ref 48, .int 0, .int 0, .int 0, .int 0, .int 0, .ref 49]), .inl (0, 10, .inl (upd (upd (fun _ => 0) (0) (-4)) (1) 0)), .inl (0, 3, .inl (fun _ => 0)), .inl (0, 40, .inl (fun _ => 0)), .inl (0, 40, .inl (fun _ => 0)), .inl (0, 40, .inl (fun _ => 0)), .inl (0, 40, .inl (fun _ => 0)), .inl (0, 40, .inl (fun _ => 0)), .inl (0, 120, .inl (fun _ => 0)), .inl (0, 10, .inl (fun _ => 0)), .inl (0, 30, .inl (fun _ => 0)), .inl (0, 10, .inl (fun _ => 0)), .inl (0, 30, .inl (fun _ => 0)), .inl (0, 30, .inl (fun _ => 0)), .inl (0, 30, .inl (fun _ => 0)), .inl (0, 61, .inl (fun _ => 0)), .inl (0, 61, .inl (fun _ => 0)), .inl (0, 1300, .inl (fun _ => 0)), .inl (0, 30, .inl (fun _ => 0)), .inl (0, 30, .inl (fun _ => 0)), .inl (0, 30, .inl (fun _ => 0)), .inl (0, 3, .inl (fun _ => 0)), .inl (0, 50, .inl (fun _ => 0)), .inl (2, 40, .inl (fun _ => 0)), .inl (0, 3, .inl (fun _ => 0)), .inr (5, [.int 4, .int 10, .int (c)])]
def g9_40 (g : pm_C) (a : Int32) (b : Int32) (c : Int32) (d : Int32) : pm_H := [g, .inr (11, [.ref 2, .ref 5, .ref 9, .ref 12, .ref 16, .ref 18, .ref 20, .int 0, .ref 21, .int 0, .ref 22, .int 1, .ref 23, .int 0, .ref 24, .int 0, .int 0]), .inr (9, [.ref 3, .ref 4, .int 2]), .inl (0, 10, .inl (upd (upd (fun _ => 0) (0) (-1)) (1) 0)), .inl (0, 31, .inl (upd (upd (upd (upd (upd (upd (upd (fun _ => 0) (0) 1) (1) 3) (10) 1024) (11) 2048) (20) 1048577) (21) 3145729) (30) 1073741825)), .inr (4, [.ref 2, .ref 6, .int 0, .ref 7, .ref 8, .long 0, .long 0, .long 0]), .inl (6, 40, .inr (.inr (.inr (.inr (fun _ => none))))), .inl (1, 10, .inr (.inl (fun _ => 0))), .inl (1, 7, .inr (.inl (fun _ => 0))), .inr (2, [.ref 2, .ref 5, .ref 10, .ref 11, .null, .int 0]), .inr (6, [.ref 2, .ref 5, .null, .int 0, .long 0, .int 0, .null]), .inr (6, [.ref 2, .ref 5, .null, .int 0, .long 0, .int 0, .null]), .inr (7, [.ref 13, .ref 14, .ref 15, .int 0]), .inl (0, 61, .inl (fun _ => 0)), .inl (0, 61, .inl (fun _ => 0)), .inl (0, 1220, .inl (fun _ => 0)), .inr (0, [.ref 5, .ref 12, .ref 17, .int 0, .int 0, .null]), .inl (0, 3, .inl (fun _ => 0)), .inr (8, [.ref 19, .int 0, .int 0]), .inl (0, 50, .inl (fun _ => 0)), .inl (0, 3, .inl (fun _ => 0)), .inl (4, 10, .inr (.inr (.inr (.inr (fun _ => none))))), .inl (8, 30, .inr (.inr (.inr (.inr (va_up (fun _ => none) (0) (some 50)))))), .inl (13, 30, .inr (.inr (.inr (.inr (fun _ => none))))), .inl (0, 3, .inl (fun _ => 0)), .inr (12, [.int 2, .ref 26, .ref 27, .int 0, .int 0, .ref 28, .ref 29, .ref 30, .ref 31, .ref 32, .ref 33, .int 0, .ref 34, .ref 35, .ref 36, .int 0, .ref 37, .ref 38, .ref 39, .int 0, .ref 40, .ref 41, .ref 42, .int 0, .ref 43, .ref 44, .ref 45, .ref 46, .int 0, .ref 47, .int 0, .int 0, .ref 48, .int 0, .int 0, .int 0, .int 0, .int 0, .ref 49]), .inl (0, 10, .inl (upd (upd (fun _ => 0) (0) (-4)) (1) 0)), .inl (0, 3, .inl (fun _ => 0)), .inl (0, 40, .inl (fun _ => 0)), .inl (0, 40, .inl (fun _ => 0)), .inl (0, 40, .inl (fun _ => 0)), .inl (0, 40, .inl (fun _ => 0)), .inl (0, 40, .inl (fun _ => 0)), .inl (0, 120, .inl (fun _ => 0)), .inl (0, 10, .inl (fun _ => 0)), .inl (0, 30, .inl (fun _ => 0)), .inl (0, 10, .inl (fun _ => 0)), .inl (0, 30, .inl (fun _ => 0)), .inl (0, 30, .inl (fun _ => 0)), .inl (0, 30, .inl (fun _ => 0)), .inl (0, 61, .inl (fun _ => 0)), .inl (0, 61, .inl (fun _ => 0)), .inl (0, 1300, .inl (fun _ => 0)), .inl (0, 30, .inl (fun _ => 0)), .inl (0, 30, .inl (fun _ => 0)), .inl (0, 30, .inl (fun _ => 0)), .inl (0, 3, .inl (fun _ => 0)), .inl (0, 50, .inl (fun _ => 0)), .inl (2, 40, .inl (fun _ => 0)), .inl (0, 3, .inl (fun _ => 0)), .inr (5, [.int 4, .int 10, .int (c)])]
def g9_41 (g : pm_C) (a : Int32) (b : Int32) (c : Int32) (d : Int32) : pm_H := [g, .inr (11, [.ref 2, .ref 5, .ref 9, .ref 12, .ref 16, .ref 18, .ref 20, .int 0, .ref 21, .int 0, .ref 22, .int 1, .ref 23, .int 0, .ref 24, .int 0, .int 0]), .inr (9, [.ref 3, .ref 4, .int 2]), .inl (0, 10, .inl (upd (upd (fun _ => 0) (0) (-1)) (1) 0)), .inl (0, 31, .inl (upd (upd (upd (upd (upd (upd (upd (fun _ => 0) (0) 1) (1) 3) (10) 1024) (11) 2048) (20) 1048577) (21) 3145729) (30) 1073741825)), .inr (4, [.ref 2, .ref 6, .int 0, .ref 7, .ref 8, .long 0, .long 0, .long 0]), .inl (6, 40, .inr (.inr (.inr (.inr (fun _ => none))))), .inl (1, 10, .inr (.inl (fun _ => 0))), .inl (1, 7, .inr (.inl (fun _ => 0))), .inr (2, [.ref 2, .ref 5, .ref 10, .ref 11, .null, .int 0]), .inr (6, [.ref 2, .ref 5, .null, .int 0, .long 0, .int 0, .null]), .inr (6, [.ref 2, .ref 5, .null, .int 0, .long 0, .int 0, .null]), .inr (7, [.ref 13, .ref 14, .ref 15, .int 0]), .inl (0, 61, .inl (fun _ => 0)), .inl (0, 61, .inl (fun _ => 0)), .inl (0, 1220, .inl (fun _ => 0)), .inr (0, [.ref 5, .ref 12, .ref 17, .int 0, .int 0, .null]), .inl (0, 3, .inl (fun _ => 0)), .inr (8, [.ref 19, .int 0, .int 0]), .inl (0, 50, .inl (fun _ => 0)), .inl (0, 3, .inl (fun _ => 0)), .inl (4, 10, .inr (.inr (.inr (.inr (fun _ => none))))), .inl (8, 30, .inr (.inr (.inr (.inr (va_up (fun _ => none) (0) (some 50)))))), .inl (13, 30, .inr (.inr (.inr (.inr (fun _ => none))))), .inl (0, 3, .inl (fun _ => 0)), .inr (12, [.int 2, .ref 26, .ref 27, .int 0, .int 0, .ref 28, .ref 29, .ref 30, .ref 31, .ref 32, .ref 33, .int 0, .ref 34, .ref 35, .ref 36, .int 0, .ref 37, .ref 38, .ref 39, .int 0, .ref 40, .ref 41, .ref 42, .int 0, .ref 43, .ref 44, .ref 45, .ref 46, .int 0, .ref 47, .int 0, .int 0, .ref 48, .int 0, .int 0, .int 0, .int 0, .int 0, .ref 49]), .inl (0, 10, .inl (upd (upd (fun _ => 0) (0) (-4)) (1) 0)), .inl (0, 3, .inl (fun _ => 0)), .inl (0, 40, .inl (fun _ => 0)), .inl (0, 40, .inl (fun _ => 0)), .inl (0, 40, .inl (fun _ => 0)), .inl (0, 40, .inl (fun _ => 0)), .inl (0, 40, .inl (fun _ => 0)), .inl (0, 120, .inl (fun _ => 0)), .inl (0, 10, .inl (fun _ => 0)), .inl (0, 30, .inl (fun _ => 0)), .inl (0, 10, .inl (fun _ => 0)), .inl (0, 30, .inl (upd (fun _ => 0) (0) 4)), .inl (0, 30, .inl (fun _ => 0)), .inl (0, 30, .inl (fun _ => 0)), .inl (0, 61, .inl (fun _ => 0)), .inl (0, 61, .inl (fun _ => 0)), .inl (0, 1300, .inl (fun _ => 0)), .inl (0, 30, .inl (fun _ => 0)), .inl (0, 30, .inl (fun _ => 0)), .inl (0, 30, .inl (fun _ => 0)), .inl (0, 3, .inl (fun _ => 0)), .inl (0, 50, .inl (fun _ => 0)), .inl (2, 40, .inl (fun _ => 0)), .inl (0, 3, .inl (fun _ => 0)), .inr (5, [.int 4, .int 10, .int (c)])]
def g9_42 (g : pm_C) (a : Int32) (b : Int32) (c : Int32) (d : Int32) : pm_H := [g, .inr (11, [.ref 2, .ref 5, .ref 9, .ref 12, .ref 16, .ref 18, .ref 20, .int 0, .ref 21, .int 0, .ref 22, .int 1, .ref 23, .int 0, .ref 24, .int 0, .int 0]), .inr (9, [.ref 3, .ref 4, .int 2]), .inl (0, 10, .inl (upd (upd (fun _ => 0) (0) (-1)) (1) 0)), .inl (0, 31, .inl (upd (upd (upd (upd (upd (upd (upd (fun _ => 0) (0) 1) (1) 3) (10) 1024) (11) 2048) (20) 1048577) (21) 3145729) (30) 1073741825)), .inr (4, [.ref 2, .ref 6, .int 0, .ref 7, .ref 8, .long 0, .long 0, .long 0]), .inl (6, 40, .inr (.inr (.inr (.inr (fun _ => none))))), .inl (1, 10, .inr (.inl (fun _ => 0))), .inl (1, 7, .inr (.inl (fun _ => 0))), .inr (2, [.ref 2, .ref 5, .ref 10, .ref 11, .null, .int 0]), .inr (6, [.ref 2, .ref 5, .null, .int 0, .long 0, .int 0, .null]), .inr (6, [.ref 2, .ref 5, .null, .int 0, .long 0, .int 0, .null]), .inr (7, [.ref 13, .ref 14, .ref 15, .int 0]), .inl (0, 61, .inl (fun _ => 0)), .inl (0, 61, .inl (fun _ => 0)), .inl (0, 1220, .inl (fun _ => 0)), .inr (0, [.ref 5, .ref 12, .ref 17, .int 0, .int 0, .null]), .inl (0, 3, .inl (fun _ => 0)), .inr (8, [.ref 19, .int 0, .int 0]), .inl (0, 50, .inl (fun _ => 0)), .inl (0, 3, .inl (fun _ => 0)), .inl (4, 10, .inr (.inr (.inr (.inr (fun _ => none))))), .inl (8, 30, .inr (.inr (.inr (.inr (va_up (fun _ => none) (0) (some 50)))))), .inl (13, 30, .inr (.inr (.inr (.inr (fun _ => none))))), .inl (0, 3, .inl (fun _ => 0)), .inr (12, [.int 2, .ref 26, .ref 27, .int 0, .int 0, .ref 28, .ref 29, .ref 30, .ref 31, .ref 32, .ref 33, .int 0, .ref 34, .ref 35, .ref 36, .int 0, .ref 37, .ref 38, .ref 39, .int 0, .ref 40, .ref 41, .ref 42, .int 0, .ref 43, .ref 44, .ref 45, .ref 46, .int 0, .ref 47, .int 0, .int 0, .ref 48, .int 0, .int 0, .int 0, .int 0, .int 0, .ref 49]), .inl (0, 10, .inl (upd (upd (fun _ => 0) (0) (-4)) (1) 0)), .inl (0, 3, .inl (fun _ => 0)), .inl (0, 40, .inl (fun _ => 0)), .inl (0, 40, .inl (fun _ => 0)), .inl (0, 40, .inl (fun _ => 0)), .inl (0, 40, .inl (fun _ => 0)), .inl (0, 40, .inl (fun _ => 0)), .inl (0, 120, .inl (fun _ => 0)), .inl (0, 10, .inl (fun _ => 0)), .inl (0, 30, .inl (fun _ => 0)), .inl (0, 10, .inl (fun _ => 0)), .inl (0, 30, .inl (upd (fun _ => 0) (0) 4)), .inl (0, 30, .inl (upd (fun _ => 0) (0) 10)), .inl (0, 30, .inl (fun _ => 0)), .inl (0, 61, .inl (fun _ => 0)), .inl (0, 61, .inl (fun _ => 0)), .inl (0, 1300, .inl (fun _ => 0)), .inl (0, 30, .inl (fun _ => 0)), .inl (0, 30, .inl (fun _ => 0)), .inl (0, 30, .inl (fun _ => 0)), .inl (0, 3, .inl (fun _ => 0)), .inl (0, 50, .inl (fun _ => 0)), .inl (2, 40, .inl (fun _ => 0)), .inl (0, 3, .inl (fun _ => 0)), .inr (5, [.int 4, .int 10, .int (c)])]
def g9_43 (g : pm_C) (a : Int32) (b : Int32) (c : Int32) (d : Int32) : pm_H := [g, .inr (11, [.ref 2, .ref 5, .ref 9, .ref 12, .ref 16, .ref 18, .ref 20, .int 0, .ref 21, .int 0, .ref 22, .int 1, .ref 23, .int 0, .ref 24, .int 0, .int 0]), .inr (9, [.ref 3, .ref 4, .int 2]), .inl (0, 10, .inl (upd (upd (fun _ => 0) (0) (-1)) (1) 0)), .inl (0, 31, .inl (upd (upd (upd (upd (upd (upd (upd (fun _ => 0) (0) 1) (1) 3) (10) 1024) (11) 2048) (20) 1048577) (21) 3145729) (30) 1073741825)), .inr (4, [.ref 2, .ref 6, .int 0, .ref 7, .ref 8, .long 0, .long 0, .long 0]), .inl (6, 40, .inr (.inr (.inr (.inr (fun _ => none))))), .inl (1, 10, .inr (.inl (fun _ => 0))), .inl (1, 7, .inr (.inl (fun _ => 0))), .inr (2, [.ref 2, .ref 5, .ref 10, .ref 11, .null, .int 0]), .inr (6, [.ref 2, .ref 5, .null, .int 0, .long 0, .int 0, .null]), .inr (6, [.ref 2, .ref 5, .null, .int 0, .long 0, .int 0, .null]), .inr (7, [.ref 13, .ref 14, .ref 15, .int 0]), .inl (0, 61, .inl (fun _ => 0)), .inl (0, 61, .inl (fun _ => 0)), .inl (0, 1220, .inl (fun _ => 0)), .inr (0, [.ref 5, .ref 12, .ref 17, .int 0, .int 0, .null]), .inl (0, 3, .inl (fun _ => 0)), .inr (8, [.ref 19, .int 0, .int 0]), .inl (0, 50, .inl (fun _ => 0)), .inl (0, 3, .inl (fun _ => 0)), .inl (4, 10, .inr (.inr (.inr (.inr (fun _ => none))))), .inl (8, 30, .inr (.inr (.inr (.inr (va_up (fun _ => none) (0) (some 50)))))), .inl (13, 30, .inr (.inr (.inr (.inr (fun _ => none))))), .inl (0, 3, .inl (fun _ => 0)), .inr (12, [.int 2, .ref 26, .ref 27, .int 0, .int 0, .ref 28, .ref 29, .ref 30, .ref 31, .ref 32, .ref 33, .int 0, .ref 34, .ref 35, .ref 36, .int 0, .ref 37, .ref 38, .ref 39, .int 0, .ref 40, .ref 41, .ref 42, .int 0, .ref 43, .ref 44, .ref 45, .ref 46, .int 0, .ref 47, .int 0, .int 0, .ref 48, .int 0, .int 0, .int 0, .int 0, .int 0, .ref 49]), .inl (0, 10, .inl (upd (upd (fun _ => 0) (0) (-4)) (1) 0)), .inl (0, 3, .inl (fun _ => 0)), .inl (0, 40, .inl (fun _ => 0)), .inl (0, 40, .inl (fun _ => 0)), .inl (0, 40, .inl (fun _ => 0)), .inl (0, 40, .inl (fun _ => 0)), .inl (0, 40, .inl (fun _ => 0)), .inl (0, 120, .inl (fun _ => 0)), .inl (0, 10, .inl (fun _ => 0)), .inl (0, 30, .inl (fun _ => 0)), .inl (0, 10, .inl (fun _ => 0)), .inl (0, 30, .inl (upd (fun _ => 0) (0) 4)), .inl (0, 30, .inl (upd (fun _ => 0) (0) 10)), .inl (0, 30, .inl (upd (fun _ => 0) (0) c)), .inl (0, 61, .inl (fun _ => 0)), .inl (0, 61, .inl (fun _ => 0)), .inl (0, 1300, .inl (fun _ => 0)), .inl (0, 30, .inl (fun _ => 0)), .inl (0, 30, .inl (fun _ => 0)), .inl (0, 30, .inl (fun _ => 0)), .inl (0, 3, .inl (fun _ => 0)), .inl (0, 50, .inl (fun _ => 0)), .inl (2, 40, .inl (fun _ => 0)), .inl (0, 3, .inl (fun _ => 0)), .inr (5, [.int 4, .int 10, .int (c)])]
def g9_44 (g : pm_C) (a : Int32) (b : Int32) (c : Int32) (d : Int32) : pm_H := [g, .inr (11, [.ref 2, .ref 5, .ref 9, .ref 12, .ref 16, .ref 18, .ref 20, .int 0, .ref 21, .int 0, .ref 22, .int 1, .ref 23, .int 0, .ref 24, .int 0, .int 0]), .inr (9, [.ref 3, .ref 4, .int 2]), .inl (0, 10, .inl (upd (upd (fun _ => 0) (0) (-1)) (1) 0)), .inl (0, 31, .inl (upd (upd (upd (upd (upd (upd (upd (fun _ => 0) (0) 1) (1) 3) (10) 1024) (11) 2048) (20) 1048577) (21) 3145729) (30) 1073741825)), .inr (4, [.ref 2, .ref 6, .int 0, .ref 7, .ref 8, .long 0, .long 0, .long 0]), .inl (6, 40, .inr (.inr (.inr (.inr (fun _ => none))))), .inl (1, 10, .inr (.inl (fun _ => 0))), .inl (1, 7, .inr (.inl (fun _ => 0))), .inr (2, [.ref 2, .ref 5, .ref 10, .ref 11, .null, .int 0]), .inr (6, [.ref 2, .ref 5, .null, .int 0, .long 0, .int 0, .null]), .inr (6, [.ref 2, .ref 5, .null, .int 0, .long 0, .int 0, .null]), .inr (7, [.ref 13, .ref 14, .ref 15, .int 0]), .inl (0, 61, .inl (fun _ => 0)), .inl (0, 61, .inl (fun _ => 0)), .inl (0, 1220, .inl (fun _ => 0)), .inr (0, [.ref 5, .ref 12, .ref 17, .int 0, .int 0, .null]), .inl (0, 3, .inl (fun _ => 0)), .inr (8, [.ref 19, .int 0, .int 0]), .inl (0, 50, .inl (fun _ => 0)), .inl (0, 3, .inl (fun _ => 0)), .inl (4, 10, .inr (.inr (.inr (.inr (fun _ => none))))), .inl (8, 30, .inr (.inr (.inr (.inr (va_up (fun _ => none) (0) (some 50)))))), .inl (13, 30, .inr (.inr (.inr (.inr (fun _ => none))))), .inl (0, 3, .inl (fun _ => 0)), .inr (12, [.int 2, .ref 26, .ref 27, .int 0, .int 0, .ref 28, .ref 29, .ref 30, .ref 31, .ref 32, .ref 33, .int 0, .ref 34, .ref 35, .ref 36, .int 1, .ref 37, .ref 38, .ref 39, .int 0, .ref 40, .ref 41, .ref 42, .int 0, .ref 43, .ref 44, .ref 45, .ref 46, .int 0, .ref 47, .int 0, .int 0, .ref 48, .int 0, .int 0, .int 0, .int 0, .int 0, .ref 49]), .inl (0, 10, .inl (upd (upd (fun _ => 0) (0) (-4)) (1) 0)), .inl (0, 3, .inl (fun _ => 0)), .inl (0, 40, .inl (fun _ => 0)), .inl (0, 40, .inl (fun _ => 0)), .inl (0, 40, .inl (fun _ => 0)), .inl (0, 40, .inl (fun _ => 0)), .inl (0, 40, .inl (fun _ => 0)), .inl (0, 120, .inl (fun _ => 0)), .inl (0, 10, .inl (fun _ => 0)), .inl (0, 30, .inl (fun _ => 0)), .inl (0, 10, .inl (fun _ => 0)), .inl (0, 30, .inl (upd (fun _ => 0) (0) 4)), .inl (0, 30, .inl (upd (fun _ => 0) (0) 10)), .inl (0, 30, .inl (upd (fun _ => 0) (0) c)), .inl (0, 61, .inl (fun _ => 0)), .inl (0, 61, .inl (fun _ => 0)), .inl (0, 1300, .inl (fun _ => 0)), .inl (0, 30, .inl (fun _ => 0)), .inl (0, 30, .inl (fun _ => 0)), .inl (0, 30, .inl (fun _ => 0)), .inl (0, 3, .inl (fun _ => 0)), .inl (0, 50, .inl (fun _ => 0)), .inl (2, 40, .inl (fun _ => 0)), .inl (0, 3, .inl (fun _ => 0)), .inr (5, [.int 4, .int 10, .int (c)])]
def g9_45 (g : pm_C) (a : Int32) (b : Int32) (c : Int32) (d : Int32) : pm_H := [g, .inr (11, [.ref 2, .ref 5, .ref 9, .ref 12, .ref 16, .ref 18, .ref 20, .int 0, .ref 21, .int 0, .ref 22, .int 0, .ref 23, .int 0, .ref 24, .int 0, .int 0]), .inr (9, [.ref 3, .ref 4, .int 2]), .inl (0, 10, .inl (upd (upd (fun _ => 0) (0) (-1)) (1) 0)), .inl (0, 31, .inl (upd (upd (upd (upd (upd (upd (upd (fun _ => 0) (0) 1) (1) 3) (10) 1024) (11) 2048) (20) 1048577) (21) 3145729) (30) 1073741825)), .inr (4, [.ref 2, .ref 6, .int 0, .ref 7, .ref 8, .long 0, .long 0, .long 0]), .inl (6, 40, .inr (.inr (.inr (.inr (fun _ => none))))), .inl (1, 10, .inr (.inl (fun _ => 0))), .inl (1, 7, .inr (.inl (fun _ => 0))), .inr (2, [.ref 2, .ref 5, .ref 10, .ref 11, .null, .int 0]), .inr (6, [.ref 2, .ref 5, .null, .int 0, .long 0, .int 0, .null]), .inr (6, [.ref 2, .ref 5, .null, .int 0, .long 0, .int 0, .null]), .inr (7, [.ref 13, .ref 14, .ref 15, .int 0]), .inl (0, 61, .inl (fun _ => 0)), .inl (0, 61, .inl (fun _ => 0)), .inl (0, 1220, .inl (fun _ => 0)), .inr (0, [.ref 5, .ref 12, .ref 17, .int 0, .int 0, .null]), .inl (0, 3, .inl (fun _ => 0)), .inr (8, [.ref 19, .int 0, .int 0]), .inl (0, 50, .inl (fun _ => 0)), .inl (0, 3, .inl (fun _ => 0)), .inl (4, 10, .inr (.inr (.inr (.inr (fun _ => none))))), .inl (8, 30, .inr (.inr (.inr (.inr (fun _ => none))))), .inl (13, 30, .inr (.inr (.inr (.inr (fun _ => none))))), .inl (0, 3, .inl (fun _ => 0)), .inr (12, [.int 2, .ref 26, .ref 27, .int 0, .int 0, .ref 28, .ref 29, .ref 30, .ref 31, .ref 32, .ref 33, .int 0, .ref 34, .ref 35, .ref 36, .int 0, .ref 37, .ref 38, .ref 39, .int 0, .ref 40, .ref 41, .ref 42, .int 0, .ref 43, .ref 44, .ref 45, .ref 46, .int 0, .ref 47, .int 0, .int 0, .ref 48, .int 0, .int 0, .int 0, .int 0, .int 0, .ref 49]), .inl (0, 10, .inl (upd (upd (fun _ => 0) (0) (-4)) (1) 0)), .inl (0, 3, .inl (fun _ => 0)), .inl (0, 40, .inl (fun _ => 0)), .inl (0, 40, .inl (fun _ => 0)), .inl (0, 40, .inl (fun _ => 0)), .inl (0, 40, .inl (fun _ => 0)), .inl (0, 40, .inl (fun _ => 0)), .inl (0, 120, .inl (fun _ => 0)), .inl (0, 10, .inl (fun _ => 0)), .inl (0, 30, .inl (fun _ => 0)), .inl (0, 10, .inl (fun _ => 0)), .inl (0, 30, .inl (fun _ => 0)), .inl (0, 30, .inl (fun _ => 0)), .inl (0, 30, .inl (fun _ => 0)), .inl (0, 61, .inl (fun _ => 0)), .inl (0, 61, .inl (fun _ => 0)), .inl (0, 1300, .inl (fun _ => 0)), .inl (0, 30, .inl (fun _ => 0)), .inl (0, 30, .inl (fun _ => 0)), .inl (0, 30, .inl (fun _ => 0)), .inl (0, 3, .inl (fun _ => 0)), .inl (0, 50, .inl (fun _ => 0)), .inl (2, 40, .inl (fun _ => 0)), .inl (0, 3, .inl (fun _ => 0)), .inr (5, [.int 4, .int (b), .int 0])]
def g9_46 (g : pm_C) (a : Int32) (b : Int32) (c : Int32) (d : Int32) : pm_H := [g, .inr (11, [.ref 2, .ref 5, .ref 9, .ref 12, .ref 16, .ref 18, .ref 20, .int 0, .ref 21, .int 0, .ref 22, .int 0, .ref 23, .int 0, .ref 24, .int 0, .int 0]), .inr (9, [.ref 3, .ref 4, .int 2]), .inl (0, 10, .inl (upd (upd (fun _ => 0) (0) (-1)) (1) 0)), .inl (0, 31, .inl (upd (upd (upd (upd (upd (upd (upd (fun _ => 0) (0) 1) (1) 3) (10) 1024) (11) 2048) (20) 1048577) (21) 3145729) (30) 1073741825)), .inr (4, [.ref 2, .ref 6, .int 0, .ref 7, .ref 8, .long 0, .long 0, .long 0]), .inl (6, 40, .inr (.inr (.inr (.inr (fun _ => none))))), .inl (1, 10, .inr (.inl (fun _ => 0))), .inl (1, 7, .inr (.inl (fun _ => 0))), .inr (2, [.ref 2, .ref 5, .ref 10, .ref 11, .null, .int 0]), .inr (6, [.ref 2, .ref 5, .null, .int 0, .long 0, .int 0, .null]), .inr (6, [.ref 2, .ref 5, .null, .int 0, .long 0, .int 0, .null]), .inr (7, [.ref 13, .ref 14, .ref 15, .int 0]), .inl (0, 61, .inl (fun _ => 0)), .inl (0, 61, .inl (fun _ => 0)), .inl (0, 1220, .inl (fun _ => 0)), .inr (0, [.ref 5, .ref 12, .ref 17, .int 0, .int 0, .null]), .inl (0, 3, .inl (fun _ => 0)), .inr (8, [.ref 19, .int 0, .int 0]), .inl (0, 50, .inl (fun _ => 0)), .inl (0, 3, .inl (fun _ => 0)), .inl (4, 10, .inr (.inr (.inr (.inr (fun _ => none))))), .inl (8, 30, .inr (.inr (.inr (.inr (fun _ => none))))), .inl (13, 30, .inr (.inr (.inr (.inr (fun _ => none))))), .inl (0, 3, .inl (fun _ => 0)), .inr (12, [.int 2, .ref 26, .ref 27, .int 0, .int 0, .ref 28, .ref 29, .ref 30, .ref 31, .ref 32, .ref 33, .int 0, .ref 34, .ref 35, .ref 36, .int 0, .ref 37, .ref 38, .ref 39, .int 0, .ref 40, .ref 41, .ref 42, .int 0, .ref 43, .ref 44, .ref 45, .ref 46, .int 0, .ref 47, .int 0, .int 0, .ref 48, .int 0, .int 0, .int 0, .int 0, .int 0, .ref 49]), .inl (0, 10, .inl (upd (upd (fun _ => 0) (0) (-4)) (1) 0)), .inl (0, 3, .inl (fun _ => 0)), .inl (0, 40, .inl (fun _ => 0)), .inl (0, 40, .inl (fun _ => 0)), .inl (0, 40, .inl (fun _ => 0)), .inl (0, 40, .inl (fun _ => 0)), .inl (0, 40, .inl (fun _ => 0)), .inl (0, 120, .inl (fun _ => 0)), .inl (0, 10, .inl (fun _ => 0)), .inl (0, 30, .inl (fun _ => 0)), .inl (0, 10, .inl (fun _ => 0)), .inl (0, 30, .inl (fun _ => 0)), .inl (0, 30, .inl (fun _ => 0)), .inl (0, 30, .inl (fun _ => 0)), .inl (0, 61, .inl (fun _ => 0)), .inl (0, 61, .inl (fun _ => 0)), .inl (0, 1300, .inl (fun _ => 0)), .inl (0, 30, .inl (fun _ => 0)), .inl (0, 30, .inl (fun _ => 0)), .inl (0, 30, .inl (fun _ => 0)), .inl (0, 3, .inl (fun _ => 0)), .inl (0, 50, .inl (fun _ => 0)), .inl (2, 40, .inl (fun _ => 0)), .inl (0, 3, .inl (fun _ => 0)), .inr (5, [.int 4, .int (b), .int (c)])]
def g9_47 (g : pm_C) (a : Int32) (b : Int32) (c : Int32) (d : Int32) : pm_H := [g, .inr (11, [.ref 2, .ref 5, .ref 9, .ref 12, .ref 16, .ref 18, .ref 20, .int 0, .ref 21, .int 0, .ref 22, .int 0, .ref 23, .int 0, .ref 24, .int 0, .int 0]), .inr (9, [.ref 3, .ref 4, .int 2]), .inl (0, 10, .inl (upd (upd (fun _ => 0) (0) (-1)) (1) 0)), .inl (0, 31, .inl (upd (upd (upd (upd (upd (upd (upd (fun _ => 0) (0) 1) (1) 3) (10) 1024) (11) 2048) (20) 1048577) (21) 3145729) (30) 1073741825)), .inr (4, [.ref 2, .ref 6, .int 0, .ref 7, .ref 8, .long 0, .long 0, .long 0]), .inl (6, 40, .inr (.inr (.inr (.inr (fun _ => none))))), .inl (1, 10, .inr (.inl (fun _ => 0))), .inl (1, 7, .inr (.inl (fun _ => 0))), .inr (2, [.ref 2, .ref 5, .ref 10, .ref 11, .null, .int 0]), .inr (6, [.ref 2, .ref 5, .null, .int 0, .long 0, .int 0, .null]), .inr (6, [.ref 2, .ref 5, .null, .int 0, .long 0, .int 0, .null]), .inr (7, [.ref 13, .ref 14, .ref 15, .int 0]), .inl (0, 61, .inl (fun _ => 0)), .inl (0, 61, .inl (fun _ => 0)), .inl (0, 1220, .inl (fun _ => 0)), .inr (0, [.ref 5, .ref 12, .ref 17, .int 0, .int 0, .null]), .inl (0, 3, .inl (fun _ => 0)), .inr (8, [.ref 19, .int 0, .int 0]), .inl (0, 50, .inl (fun _ => 0)), .inl (0, 3, .inl (fun _ => 0)), .inl (4, 10, .inr (.inr (.inr (.inr (fun _ => none))))), .inl (8, 30, .inr (.inr (.inr (.inr (va_up (fun _ => none) (0) (some 50)))))), .inl (13, 30, .inr (.inr (.inr (.inr (fun _ => none))))), .inl (0, 3, .inl (fun _ => 0)), .inr (12, [.int 2, .ref 26, .ref 27, .int 0, .int 0, .ref 28, .ref 29, .ref 30, .ref 31, .ref 32, .ref 33, .int 0, .ref 34, .ref 35, .ref 36, .int 0, .ref 37, .ref 38, .ref 39, .int 0, .ref 40, .ref 41, .ref 42, .int 0, .ref 43, .ref 44, .ref 45, .ref 46, .int 0, .ref 47, .int 0, .int 0, .ref 48, .int 0, .int 0, .int 0, .int 0, .int 0, .ref 49]), .inl (0, 10, .inl (upd (upd (fun _ => 0) (0) (-4)) (1) 0)), .inl (0, 3, .inl (fun _ => 0)), .inl (0, 40, .inl (fun _ => 0)), .inl (0, 40, .inl (fun _ => 0)), .inl (0, 40, .inl (fun _ => 0)), .inl (0, 40, .inl (fun _ => 0)), .inl (0, 40, .inl (fun _ => 0)), .inl (0, 120, .inl (fun _ => 0)), .inl (0, 10, .inl (fun _ => 0)), .inl (0, 30, .inl (fun _ => 0)), .inl (0, 10, .inl (fun _ => 0)), .inl (0, 30, .inl (fun _ => 0)), .inl (0, 30, .inl (fun _ => 0)), .inl (0, 30, .inl (fun _ => 0)), .inl (0, 61, .inl (fun _ => 0)), .inl (0, 61, .inl (fun _ => 0)), .inl (0, 1300, .inl (fun _ => 0)), .inl (0, 30, .inl (fun _ => 0)), .inl (0, 30, .inl (fun _ => 0)), .inl (0, 30, .inl (fun _ => 0)), .inl (0, 3, .inl (fun _ => 0)), .inl (0, 50, .inl (fun _ => 0)), .inl (2, 40, .inl (fun _ => 0)), .inl (0, 3, .inl (fun _ => 0)), .inr (5, [.int 4, .int (b), .int (c)])]
def g9_48 (g : pm_C) (a : Int32) (b : Int32) (c : Int32) (d : Int32) : pm_H := [g, .inr (11, [.ref 2, .ref 5, .ref 9, .ref 12, .ref 16, .ref 18, .ref 20, .int 0, .ref 21, .int 0, .ref 22, .int 1, .ref 23, .int 0, .ref 24, .int 0, .int 0]), .inr (9, [.ref 3, .ref 4, .int 2]), .inl (0, 10, .inl (upd (upd (fun _ => 0) (0) (-1)) (1) 0)), .inl (0, 31, .inl (upd (upd (upd (upd (upd (upd (upd (fun _ => 0) (0) 1) (1) 3) (10) 1024) (11) 2048) (20) 1048577) (21) 3145729) (30) 1073741825)), .inr (4, [.ref 2, .ref 6, .int 0, .ref 7, .ref 8, .long 0, .long 0, .long 0]), .inl (6, 40, .inr (.inr (.inr (.inr (fun _ => none))))), .inl (1, 10, .inr (.inl (fun _ => 0))), .inl (1, 7, .inr (.inl (fun _ => 0))), .inr (2, [.ref 2, .ref 5, .ref 10, .ref 11, .null, .int 0]), .inr (6, [.ref 2, .ref 5, .null, .int 0, .long 0, .int 0, .null]), .inr (6, [.ref 2, .ref 5, .null, .int 0, .long 0, .int 0, .null]), .inr (7, [.ref 13, .ref 14, .ref 15, .int 0]), .inl (0, 61, .inl (fun _ => 0)), .inl (0, 61, .inl (fun _ => 0)), .inl (0, 1220, .inl (fun _ => 0)), .inr (0, [.ref 5, .ref 12, .ref 17, .int 0, .int 0, .null]), .inl (0, 3, .inl (fun _ => 0)), .inr (8, [.ref 19, .int 0, .int 0]), .inl (0, 50, .inl (fun _ => 0)), .inl (0, 3, .inl (fun _ => 0)), .inl (4, 10, .inr (.inr (.inr (.inr (fun _ => none))))), .inl (8, 30, .inr (.inr (.inr (.inr (va_up (fun _ => none) (0) (some 50)))))), .inl (13, 30, .inr (.inr (.inr (.inr (fun _ => none))))), .inl (0, 3, .inl (fun _ => 0)), .inr (12, [.int 2, .ref 26, .ref 27, .int 0, .int 0, .ref 28, .ref 29, .ref 30, .ref 31, .ref 32, .ref 33, .int 0, .ref 34, .ref 35, .ref 36, .int 0, .ref 37, .ref 38, .ref 39, .int 0, .ref 40, .ref 41, .ref 42, .int 0, .ref 43, .ref 44, .ref 45, .ref 46, .int 0, .ref 47, .int 0, .int 0, .ref 48, .int 0, .int 0, .int 0, .int 0, .int 0, .ref 49]), .inl (0, 10, .inl (upd (upd (fun _ => 0) (0) (-4)) (1) 0)), .inl (0, 3, .inl (fun _ => 0)), .inl (0, 40, .inl (fun _ => 0)), .inl (0, 40, .inl (fun _ => 0)), .inl (0, 40, .inl (fun _ => 0)), .inl (0, 40, .inl (fun _ => 0)), .inl (0, 40, .inl (fun _ => 0)), .inl (0, 120, .inl (fun _ => 0)), .inl (0, 10, .inl (fun _ => 0)), .inl (0, 30, .inl (fun _ => 0)), .inl (0, 10, .inl (fun _ => 0)), .inl (0, 30, .inl (fun _ => 0)), .inl (0, 30, .inl (fun _ => 0)), .inl (0, 30, .inl (fun _ => 0)), .inl (0, 61, .inl (fun _ => 0)), .inl (0, 61, .inl (fun _ => 0)), .inl (0, 1300, .inl (fun _ => 0)), .inl (0, 30, .inl (fun _ => 0)), .inl (0, 30, .inl (fun _ => 0)), .inl (0, 30, .inl (fun _ => 0)), .inl (0, 3, .inl (fun _ => 0)), .inl (0, 50, .inl (fun _ => 0)), .inl (2, 40, .inl (fun _ => 0)), .inl (0, 3, .inl (fun _ => 0)), .inr (5, [.int 4, .int (b), .int (c)])]
def g9_49 (g : pm_C) (a : Int32) (b : Int32) (c : Int32) (d : Int32) : pm_H := [g, .inr (11, [.ref 2, .ref 5, .ref 9, .ref 12, .ref 16, .ref 18, .ref 20, .int 0, .ref 21, .int 0, .ref 22, .int 1, .ref 23, .int 0, .ref 24, .int 0, .int 0]), .inr (9, [.ref 3, .ref 4, .int 2]), .inl (0, 10, .inl (upd (upd (fun _ => 0) (0) (-1)) (1) 0)), .inl (0, 31, .inl (upd (upd (upd (upd (upd (upd (upd (fun _ => 0) (0) 1) (1) 3) (10) 1024) (11) 2048) (20) 1048577) (21) 3145729) (30) 1073741825)), .inr (4, [.ref 2, .ref 6, .int 0, .ref 7, .ref 8, .long 0, .long 0, .long 0]), .inl (6, 40, .inr (.inr (.inr (.inr (fun _ => none))))), .inl (1, 10, .inr (.inl (fun _ => 0))), .inl (1, 7, .inr (.inl (fun _ => 0))), .inr (2, [.ref 2, .ref 5, .ref 10, .ref 11, .null, .int 0]), .inr (6, [.ref 2, .ref 5, .null, .int 0, .long 0, .int 0, .null]), .inr (6, [.ref 2, .ref 5, .null, .int 0, .long 0, .int 0, .null]), .inr (7, [.ref 13, .ref 14, .ref 15, .int 0]), .inl (0, 61, .inl (fun _ => 0)), .inl (0, 61, .inl (fun _ => 0)), .inl (0, 1220, .inl (fun _ => 0)), .inr (0, [.ref 5, .ref 12, .ref 17, .int 0, .int 0, .null]), .inl (0, 3, .inl (fun _ => 0)), .inr (8, [.ref 19, .int 0, .int 0]), .inl (0, 50, .inl (fun _ => 0)), .inl (0, 3, .inl (fun _ => 0)), .inl (4, 10, .inr (.inr (.inr (.inr (fun _ => none))))), .inl (8, 30, .inr (.inr (.inr (.inr (va_up (fun _ => none) (0) (some 50)))))), .inl (13, 30, .inr (.inr (.inr (.inr (fun _ => none))))), .inl (0, 3, .inl (fun _ => 0)), .inr (12, [.int 2, .ref 26, .ref 27, .int 0, .int 0, .ref 28, .ref 29, .ref 30, .ref 31, .ref 32, .ref 33, .int 0, .ref 34, .ref 35, .ref 36, .int 0, .ref 37, .ref 38, .ref 39, .int 0, .ref 40, .ref 41, .ref 42, .int 0, .ref 43, .ref 44, .ref 45, .ref 46, .int 0, .ref 47, .int 0, .int 0, .ref 48, .int 0, .int 0, .int 0, .int 0, .int 0, .ref 49]), .inl (0, 10, .inl (upd (upd (fun _ => 0) (0) (-4)) (1) 0)), .inl (0, 3, .inl (fun _ => 0)), .inl (0, 40, .inl (fun _ => 0)), .inl (0, 40, .inl (fun _ => 0)), .inl (0, 40, .inl (fun _ => 0)), .inl (0, 40, .inl (fun _ => 0)), .inl (0, 40, .inl (fun _ => 0)), .inl (0, 120, .inl (fun _ => 0)), .inl (0, 10, .inl (fun _ => 0)), .inl (0, 30, .inl (fun _ => 0)), .inl (0, 10, .inl (fun _ => 0)), .inl (0, 30, .inl (upd (fun _ => 0) (0) 4)), .inl (0, 30, .inl (fun _ => 0)), .inl (0, 30, .inl (fun _ => 0)), .inl (0, 61, .inl (fun _ => 0)), .inl (0, 61, .inl (fun _ => 0)), .inl (0, 1300, .inl (fun _ => 0)), .inl (0, 30, .inl (fun _ => 0)), .inl (0, 30, .inl (fun _ => 0)), .inl (0, 30, .inl (fun _ => 0)), .inl (0, 3, .inl (fun _ => 0)), .inl (0, 50, .inl (fun _ => 0)), .inl (2, 40, .inl (fun _ => 0)), .inl (0, 3, .inl (fun _ => 0)), .inr (5, [.int 4, .int (b), .int (c)])]
def g9_50 (g : pm_C) (a : Int32) (b : Int32) (c : Int32) (d : Int32) : pm_H := [g, .inr (11, [.ref 2, .ref 5, .ref 9, .ref 12, .ref 16, .ref 18, .ref 20, .int 0, .ref 21, .int 0, .ref 22, .int 1, .ref 23, .int 0, .ref 24, .int 0, .int 0]), .inr (9, [.ref 3, .ref 4, .int 2]), .inl (0, 10, .inl (upd (upd (fun _ => 0) (0) (-1)) (1) 0)), .inl (0, 31, .inl (upd (upd (upd (upd (upd (upd (upd (fun _ => 0) (0) 1) (1) 3) (10) 1024) (11) 2048) (20) 1048577) (21) 3145729) (30) 1073741825)), .inr (4, [.ref 2, .ref 6, .int 0, .ref 7, .ref 8, .long 0, .long 0, .long 0]), .inl (6, 40, .inr (.inr (.inr (.inr (fun _ => none))))), .inl (1, 10, .inr (.inl (fun _ => 0))), .inl (1, 7, .inr (.inl (fun _ => 0))), .inr (2, [.ref 2, .ref 5, .ref 10, .ref 11, .null, .int 0]), .inr (6, [.ref 2, .ref 5, .null, .int 0, .long 0, .int 0, .null]), .inr (6, [.ref 2, .ref 5, .null, .int 0, .long 0, .int 0, .null]), .inr (7, [.ref 13, .ref 14, .ref 15, .int 0]), .inl (0, 61, .inl (fun _ => 0)), .inl (0, 61, .inl (fun _ => 0)), .inl (0, 1220, .inl (fun _ => 0)), .inr (0, [.ref 5, .ref 12, .ref 17, .int 0, .int 0, .null]), .inl (0, 3, .inl (fun _ => 0)), .inr (8, [.ref 19, .int 0, .int 0]), .inl (0, 50, .inl (fun _ => 0)), .inl (0, 3, .inl (fun _ => 0)), .inl (4, 10, .inr (.inr (.inr (.inr (fun _ => none))))), .inl (8, 30, .inr (.inr (.inr (.inr (va_up (fun _ => none) (0) (some 50)))))), .inl (13, 30, .inr (.inr (.inr (.inr (fun _ => none))))), .inl (0, 3, .inl (fun _ => 0)), .inr (12, [.int 2, .ref 26, .ref 27, .int 0, .int 0, .ref 28, .ref 29, .ref 30, .ref 31, .ref 32, .ref 33, .int 0, .ref 34, .ref 35, .ref 36, .int 0, .ref 37, .ref 38, .ref 39, .int 0, .ref 40, .ref 41, .ref 42, .int 0, .ref 43, .ref 44, .ref 45, .ref 46, .int 0, .ref 47, .int 0, .int 0, .ref 48, .int 0, .int 0, .int 0, .int 0, .int 0, .ref 49]), .inl (0, 10, .inl (upd (upd (fun _ => 0) (0) (-4)) (1) 0)), .inl (0, 3, .inl (fun _ => 0)), .inl (0, 40, .inl (fun _ => 0)), .inl (0, 40, .inl (fun _ => 0)), .inl (0, 40, .inl (fun _ => 0)), .inl (0, 40, .inl (fun _ => 0)), .inl (0, 40, .inl (fun _ => 0)), .inl (0, 120, .inl (fun _ => 0)), .inl (0, 10, .inl (fun _ => 0)), .inl (0, 30, .inl (fun _ => 0)), .inl (0, 10, .inl (fun _ => 0)), .inl (0, 30, .inl (upd (fun _ => 0) (0) 4)), .inl (0, 30, .inl (upd (fun _ => 0) (0) b)), .inl (0, 30, .inl (fun _ => 0)), .inl (0, 61, .inl (fun _ => 0)), .inl (0, 61, .inl (fun _ => 0)), .inl (0, 1300, .inl (fun _ => 0)), .inl (0, 30, .inl (fun _ => 0)), .inl (0, 30, .inl (fun _ => 0)), .inl (0, 30, .inl (fun _ => 0)), .inl (0, 3, .inl (fun _ => 0)), .inl (0, 50, .inl (fun _ => 0)), .inl (2, 40, .inl (fun _ => 0)), .inl (0, 3, .inl (fun _ => 0)), .inr (5, [.int 4, .int (b), .int (c)])]
def g9_51 (g : pm_C) (a : Int32) (b : Int32) (c : Int32) (d : Int32) : pm_H := [g, .inr (11, [.ref 2, .ref 5, .ref 9, .ref 12, .ref 16, .ref 18, .ref 20, .int 0, .ref 21, .int 0, .ref 22, .int 1, .ref 23, .int 0, .ref 24, .int 0, .int 0]), .inr (9, [.ref 3, .ref 4, .int 2]), .inl (0, 10, .inl (upd (upd (fun _ => 0) (0) (-1)) (1) 0)), .inl (0, 31, .inl (upd (upd (upd (upd (upd (upd (upd (fun _ => 0) (0) 1) (1) 3) (10) 1024) (11) 2048) (20) 1048577) (21) 3145729) (30) 1073741825)), .inr (4, [.ref 2, .ref 6, .int 0, .ref 7, .ref 8, .long 0, .long 0, .long 0]), .inl (6, 40, .inr (.inr (.inr (.inr (fun _ => none))))), .inl (1, 10, .inr (.inl (fun _ => 0))), .inl (1, 7, .inr (.inl (fun _ => 0))), .inr (2, [.ref 2, .ref 5, .ref 10, .ref 11, .null, .int 0]), .inr (6, [.ref 2, .ref 5, .null, .int 0, .long 0, .int 0, .null]), .inr (6, [.ref 2, .ref 5, .null, .int 0, .long 0, .int 0, .null]), .inr (7, [.ref 13, .ref 14, .ref 15, .int 0]), .inl (0, 61, .inl (fun _ => 0)), .inl (0, 61, .inl (fun _ => 0)), .inl (0, 1220, .inl (fun _ => 0)), .inr (0, [.ref 5, .ref 12, .ref 17, .int 0, .int 0, .null]), .inl (0, 3, .inl (fun _ => 0)), .inr (8, [.ref 19, .int 0, .int 0]), .inl (0, 50, .inl (fun _ => 0)), .inl (0, 3, .inl (fun _ => 0)), .inl (4, 10, .inr (.inr (.inr (.inr (fun _ => none))))), .inl (8, 30, .inr (.inr (.inr (.inr (va_up (fun _ => none) (0) (some 50)))))), .inl (13, 30, .inr (.inr (.inr (.inr (fun _ => none))))), .inl (0, 3, .inl (fun _ => 0)), .inr (12, [.int 2, .ref 26, .ref 27, .int 0, .int 0, .ref 28, .ref 29, .ref 30, .ref 31, .ref 32, .ref 33, .int 0, .ref 34, .ref 35, .ref 36, .int 0, .ref 37, .ref 38, .ref 39, .int 0, .ref 40, .ref 41, .ref 42, .int 0, .ref 43, .ref 44, .ref 45, .ref 46, .int 0, .ref 47, .int 0, .int 0, .ref 48, .int 0, .int 0, .int 0, .int 0, .int 0, .ref 49]), .inl (0, 10, .inl (upd (upd (fun _ => 0) (0) (-4)) (1) 0)), .inl (0, 3, .inl (fun _ => 0)), .inl (0, 40, .inl (fun _ => 0)), .inl (0, 40, .inl (fun _ => 0)), .inl (0, 40, .inl (fun _ => 0)), .inl (0, 40, .inl (fun _ => 0)), .inl (0, 40, .inl (fun _ => 0)), .inl (0, 120, .inl (fun _ => 0)), .inl (0, 10, .inl (fun _ => 0)), .inl (0, 30, .inl (fun _ => 0)), .inl (0, 10, .inl (fun _ => 0)), .inl (0, 30, .inl (upd (fun _ => 0) (0) 4)), .inl (0, 30, .inl (upd (fun _ => 0) (0) b)), .inl (0, 30, .inl (upd (fun _ => 0) (0) c)), .inl (0, 61, .inl (fun _ => 0)), .inl (0, 61, .inl (fun _ => 0)), .inl (0, 1300, .inl (fun _ => 0)), .inl (0, 30, .inl (fun _ => 0)), .inl (0, 30, .inl (fun _ => 0)), .inl (0, 30, .inl (fun _ => 0)), .inl (0, 3, .inl (fun _ => 0)), .inl (0, 50, .inl (fun _ => 0)), .inl (2, 40, .inl (fun _ => 0)), .inl (0, 3, .inl (fun _ => 0)), .inr (5, [.int 4, .int (b), .int (c)])]
def g9_52 (g : pm_C) (a : Int32) (b : Int32) (c : Int32) (d : Int32) : pm_H := [g, .inr (11, [.ref 2, .ref 5, .ref 9, .ref 12, .ref 16, .ref 18, .ref 20, .int 0, .ref 21, .int 0, .ref 22, .int 1, .ref 23, .int 0, .ref 24, .int 0, .int 0]), .inr (9, [.ref 3, .ref 4, .int 2]), .inl (0, 10, .inl (upd (upd (fun _ => 0) (0) (-1)) (1) 0)), .inl (0, 31, .inl (upd (upd (upd (upd (upd (upd (upd (fun _ => 0) (0) 1) (1) 3) (10) 1024) (11) 2048) (20) 1048577) (21) 3145729) (30) 1073741825)), .inr (4, [.ref 2, .ref 6, .int 0, .ref 7, .ref 8, .long 0, .long 0, .long 0]), .inl (6, 40, .inr (.inr (.inr (.inr (fun _ => none))))), .inl (1, 10, .inr (.inl (fun _ => 0))), .inl (1, 7, .inr (.inl (fun _ => 0))), .inr (2, [.ref 2, .ref 5, .ref 10, .ref 11, .null, .int 0]), .inr (6, [.ref 2, .ref 5, .null, .int 0, .long 0, .int 0, .null]), .inr (6, [.ref 2, .ref 5, .null, .int 0, .long 0, .int 0, .null]), .inr (7, [.ref 13, .ref 14, .ref 15, .int 0]), .inl (0, 61, .inl (fun _ => 0)), .inl (0, 61, .inl (fun _ => 0)), .inl (0, 1220, .inl (fun _ => 0)), .inr (0, [.ref 5, .ref 12, .ref 17, .int 0, .int 0, .null]), .inl (0, 3, .inl (fun _ => 0)), .inr (8, [.ref 19, .int 0, .int 0]), .inl (0, 50, .inl (fun _ => 0)), .inl (0, 3, .inl (fun _ => 0)), .inl (4, 10, .inr (.inr (.inr (.inr (fun _ => none))))), .inl (8, 30, .inr (.inr (.inr (.inr (va_up (fun _ => none) (0) (some 50)))))), .inl (13, 30, .inr (.inr (.inr (.inr (fun _ => none))))), .inl (0, 3, .inl (fun _ => 0)), .inr (12, [.int 2, .ref 26, .ref 27, .int 0, .int 0, .ref 28, .ref 29, .ref 30, .ref 31, .ref 32, .ref 33, .int 0, .ref 34, .ref 35, .ref 36, .int 1, .ref 37, .ref 38, .ref 39, .int 0, .ref 40, .ref 41, .ref 42, .int 0, .ref 43, .ref 44, .ref 45, .ref 46, .int 0, .ref 47, .int 0, .int 0, .ref 48, .int 0, .int 0, .int 0, .int 0, .int 0, .ref 49]), .inl (0, 10, .inl (upd (upd (fun _ => 0) (0) (-4)) (1) 0)), .inl (0, 3, .inl (fun _ => 0)), .inl (0, 40, .inl (fun _ => 0)), .inl (0, 40, .inl (fun _ => 0)), .inl (0, 40, .inl (fun _ => 0)), .inl (0, 40, .inl (fun _ => 0)), .inl (0, 40, .inl (fun _ => 0)), .inl (0, 120, .inl (fun _ => 0)), .inl (0, 10, .inl (fun _ => 0)), .inl (0, 30, .inl (fun _ => 0)), .inl (0, 10, .inl (fun _ => 0)), .inl (0, 30, .inl (upd (fun _ => 0) (0) 4)), .inl (0, 30, .inl (upd (fun _ => 0) (0) b)), .inl (0, 30, .inl (upd (fun _ => 0) (0) c)), .inl (0, 61, .inl (fun _ => 0)), .inl (0, 61, .inl (fun _ => 0)), .inl (0, 1300, .inl (fun _ => 0)), .inl (0, 30, .inl (fun _ => 0)), .inl (0, 30, .inl (fun _ => 0)), .inl (0, 30, .inl (fun _ => 0)), .inl (0, 3, .inl (fun _ => 0)), .inl (0, 50, .inl (fun _ => 0)), .inl (2, 40, .inl (fun _ => 0)), .inl (0, 3, .inl (fun _ => 0)), .inr (5, [.int 4, .int (b), .int (c)])]

set_option maxRecDepth 100000 in
set_option maxHeartbeats 8000000 in
theorem p1_op9 (xs : Nat → Int32) (a b c d : Int32) (ea : a = xs 1) (eb : b = xs 2) (ec : c = xs 3) (ed : d = xs 4) : pm_WP 0 (32, [(3, .int 0), (2, .ref 25), (1, .ref 1), (0, .ref 0)], [.int 9], g9_0 (pg xs) a b c d, 599951, 7298500) (fun r _ => r = some (.int 1)) := by
  refine pm_go (g := (405, [(3, .int 0), (2, .ref 25), (1, .ref 1), (0, .ref 0)], [], g9_0 (pg xs) a b c d, 599951, 7298500)) rfl ?_
  refine pm_go (g := (406, [(3, .int 0), (2, .ref 25), (1, .ref 1), (0, .ref 0)], [.ref 1], g9_0 (pg xs) a b c d, 599951, 7298500)) rfl ?_
  refine pm_go (g := (407, [(3, .int 0), (2, .ref 25), (1, .ref 1), (0, .ref 0)], [.ref 0, .ref 1], g9_0 (pg xs) a b c d, 599951, 7298500)) rfl ?_
  refine pm_go (g := (408, [(3, .int 0), (2, .ref 25), (1, .ref 1), (0, .ref 0)], [.int 0, .ref 0, .ref 1], g9_0 (pg xs) a b c d, 599951, 7298500)) rfl ?_
  refine pm_go (g := (409, [(3, .int 0), (2, .ref 25), (1, .ref 1), (0, .ref 0)], [.int 1, .int 0, .ref 0, .ref 1], g9_0 (pg xs) a b c d, 599951, 7298500)) rfl ?_
  refine pm_go (g := (410, [(3, .int 0), (2, .ref 25), (1, .ref 1), (0, .ref 0)], [.int 1, .ref 0, .ref 1], g9_0 (pg xs) a b c d, 599951, 7298500)) rfl ?_
  refine pm_go (g := (411, [(3, .int 0), (2, .ref 25), (1, .ref 1), (0, .ref 0)], [.int (xs 1), .ref 1], g9_0 (pg xs) a b c d, 599951, 7298500)) rfl ?_
  rw [← ea]
  refine pm_go (g := (412, [(3, .int 0), (2, .ref 25), (1, .ref 1), (0, .ref 0)], [.ref 0, .int (a), .ref 1], g9_0 (pg xs) a b c d, 599951, 7298500)) rfl ?_
  refine pm_go (g := (413, [(3, .int 0), (2, .ref 25), (1, .ref 1), (0, .ref 0)], [.int 0, .ref 0, .int (a), .ref 1], g9_0 (pg xs) a b c d, 599951, 7298500)) rfl ?_
  refine pm_go (g := (414, [(3, .int 0), (2, .ref 25), (1, .ref 1), (0, .ref 0)], [.int 2, .int 0, .ref 0, .int (a), .ref 1], g9_0 (pg xs) a b c d, 599951, 7298500)) rfl ?_
  refine pm_go (g := (415, [(3, .int 0), (2, .ref 25), (1, .ref 1), (0, .ref 0)], [.int 2, .ref 0, .int (a), .ref 1], g9_0 (pg xs) a b c d, 599951, 7298500)) rfl ?_
  refine pm_go (g := (416, [(3, .int 0), (2, .ref 25), (1, .ref 1), (0, .ref 0)], [.int (xs 2), .int (a), .ref 1], g9_0 (pg xs) a b c d, 599951, 7298500)) rfl ?_
  rw [← eb]
  refine pm_go (g := (417, [(3, .int 0), (2, .ref 25), (1, .ref 1), (0, .ref 0)], [.ref 0, .int (b), .int (a), .ref 1], g9_0 (pg xs) a b c d, 599951, 7298500)) rfl ?_
  refine pm_go (g := (418, [(3, .int 0), (2, .ref 25), (1, .ref 1), (0, .ref 0)], [.int 0, .ref 0, .int (b), .int (a), .ref 1], g9_0 (pg xs) a b c d, 599951, 7298500)) rfl ?_
  refine pm_go (g := (419, [(3, .int 0), (2, .ref 25), (1, .ref 1), (0, .ref 0)], [.int 3, .int 0, .ref 0, .int (b), .int (a), .ref 1], g9_0 (pg xs) a b c d, 599951, 7298500)) rfl ?_
  refine pm_go (g := (420, [(3, .int 0), (2, .ref 25), (1, .ref 1), (0, .ref 0)], [.int 3, .ref 0, .int (b), .int (a), .ref 1], g9_0 (pg xs) a b c d, 599951, 7298500)) rfl ?_
  refine pm_go (g := (421, [(3, .int 0), (2, .ref 25), (1, .ref 1), (0, .ref 0)], [.int (xs 3), .int (b), .int (a), .ref 1], g9_0 (pg xs) a b c d, 599951, 7298500)) rfl ?_
  rw [← ec]
  refine pm_callD (z := 104) (as := [.ref 1, .int (a), .int (b), .int (c)]) (rest := []) rfl ?_
  show pm_WP 104 (0, [(0, .ref 1), (1, .int (a)), (2, .int (b)), (3, .int (c))], [], g9_0 (pg xs) a b c d, 1, 3) _
  refine pm_go (g := (1, [(0, .ref 1), (1, .int (a)), (2, .int (b)), (3, .int (c))], [.ref 1], g9_0 (pg xs) a b c d, 1, 3)) rfl ?_
  refine pm_go (g := (2, [(0, .ref 1), (1, .int (a)), (2, .int (b)), (3, .int (c))], [.int (a), .ref 1], g9_0 (pg xs) a b c d, 1, 3)) rfl ?_
  refine pm_go (g := (3, [(0, .ref 1), (1, .int (a)), (2, .int (b)), (3, .int (c))], [.int (b), .int (a), .ref 1], g9_0 (pg xs) a b c d, 1, 3)) rfl ?_
  refine pm_callD (z := 111) (as := [.ref 1, .int (a), .int (b)]) (rest := []) rfl ?_
  show pm_WP 111 (0, [(0, .ref 1), (1, .int (a)), (2, .int (b))], [], g9_0 (pg xs) a b c d, 0, 0) _
  refine pm_go (g := (1, [(0, .ref 1), (1, .int (a)), (2, .int (b))], [.int (a)], g9_0 (pg xs) a b c d, 0, 0)) rfl ?_
  have q1 : a.toInt = 0 ∨ a.toInt = 1 ∨ a.toInt = 2 ∨ a.toInt = 3 ∨ a.toInt = 4 ∨ a.toInt ≠ 0 ∧ a.toInt ≠ 1 ∧ a.toInt ≠ 2 ∧ a.toInt ≠ 3 ∧ a.toInt ≠ 4 := by omega
  rcases q1 with q1 | q1 | q1 | q1 | q1 | q1
  ·
    obtain rfl : a = 0 := xI (c := 0) (by decide) (by omega)
    show pm_WP 111 (1, [(0, .ref 1), (1, .int 0), (2, .int (b))], [.int 0], g9_0 (pg xs) 0 b c d, 0, 0) _
    refine pm_go (g := (36, [(0, .ref 1), (1, .int 0), (2, .int (b))], [], g9_0 (pg xs) 0 b c d, 0, 0)) rfl ?_
    refine pm_go (g := (37, [(0, .ref 1), (1, .int 0), (2, .int (b))], [.ref 1], g9_0 (pg xs) 0 b c d, 0, 0)) rfl ?_
    refine pm_go (g := (40, [(0, .ref 1), (1, .int 0), (2, .int (b))], [.ref 2], g9_0 (pg xs) 0 b c d, 0, 0)) rfl ?_
    refine pm_go (g := (41, [(0, .ref 1), (1, .int 0), (2, .int (b))], [.int (b), .ref 2], g9_0 (pg xs) 0 b c d, 0, 0)) rfl ?_
    refine pm_callD (z := 81) (as := [.ref 2, .int (b)]) (rest := []) rfl ?_
    show pm_WP 81 (0, [(0, .ref 2), (1, .int (b))], [], g9_0 (pg xs) 0 b c d, 0, 0) _
    refine pm_go (g := (1, [(0, .ref 2), (1, .int (b))], [.int (b)], g9_0 (pg xs) 0 b c d, 0, 0)) rfl ?_
    refine pm_if2 (g := (16, [(0, .ref 2), (1, .int (b))], [], g9_0 (pg xs) 0 b c d, 0, 0)) (h := (4, [(0, .ref 2), (1, .int (b))], [], g9_0 (pg xs) 0 b c d, 0, 0)) rfl (fun q2 => ?_) (fun q2 => ?_)
    ·
      have q2 := qT_lt (cx := b.toInt) (cy := 0) rfl (by decide) q2
      refine pm_go (g := (17, [(0, .ref 2), (1, .int (b))], [.int 0], g9_0 (pg xs) 0 b c d, 0, 0)) rfl ?_
      refine pm_ret rfl ?_
      show pm_WP 111 (44, [(0, .ref 1), (1, .int 0), (2, .int (b))], [.int 0], g9_0 (pg xs) 0 b c d, 0, 0) _
      refine pm_ret rfl ?_
      show pm_WP 104 (6, [(0, .ref 1), (1, .int 0), (2, .int (b)), (3, .int (c))], [.int 0], g9_0 (pg xs) 0 b c d, 1, 3) _
      refine pm_brT (g := (24, [(0, .ref 1), (1, .int 0), (2, .int (b)), (3, .int (c))], [], g9_0 (pg xs) 0 b c d, 1, 3)) rfl ?_
      refine pm_go (g := (25, [(0, .ref 1), (1, .int 0), (2, .int (b)), (3, .int (c))], [.int (-1)], g9_0 (pg xs) 0 b c d, 1, 3)) rfl ?_
      refine pm_ret rfl ?_
      show pm_WP 0 (424, [(3, .int 0), (2, .ref 25), (1, .ref 1), (0, .ref 0)], [.int (-1)], g9_0 (pg xs) 0 b c d, 599950, 7298497) _
      refine pm_go (g := (425, [(3, .int 0), (2, .ref 25), (1, .ref 1), (0, .ref 0)], [.ref 25, .int (-1)], g9_0 (pg xs) 0 b c d, 599950, 7298497)) rfl ?_
      refine pm_go (g := (426, [(3, .int 0), (2, .ref 25), (1, .ref 1), (0, .ref 0)], [.ref 0, .ref 25, .int (-1)], g9_0 (pg xs) 0 b c d, 599950, 7298497)) rfl ?_
      refine pm_go (g := (427, [(3, .int 0), (2, .ref 25), (1, .ref 1), (0, .ref 0)], [.int 0, .ref 0, .ref 25, .int (-1)], g9_0 (pg xs) 0 b c d, 599950, 7298497)) rfl ?_
      refine pm_go (g := (428, [(3, .int 0), (2, .ref 25), (1, .ref 1), (0, .ref 0)], [.int 1, .int 0, .ref 0, .ref 25, .int (-1)], g9_0 (pg xs) 0 b c d, 599950, 7298497)) rfl ?_
      refine pm_go (g := (429, [(3, .int 0), (2, .ref 25), (1, .ref 1), (0, .ref 0)], [.int 1, .ref 0, .ref 25, .int (-1)], g9_0 (pg xs) 0 b c d, 599950, 7298497)) rfl ?_
      refine pm_go (g := (430, [(3, .int 0), (2, .ref 25), (1, .ref 1), (0, .ref 0)], [.int (xs 1), .ref 25, .int (-1)], g9_0 (pg xs) 0 b c d, 599950, 7298497)) rfl ?_
      rw [← ea]
      refine pm_go (g := (431, [(3, .int 0), (2, .ref 25), (1, .ref 1), (0, .ref 0)], [.ref 0, .int 0, .ref 25, .int (-1)], g9_0 (pg xs) 0 b c d, 599950, 7298497)) rfl ?_
      refine pm_go (g := (432, [(3, .int 0), (2, .ref 25), (1, .ref 1), (0, .ref 0)], [.int 0, .ref 0, .int 0, .ref 25, .int (-1)], g9_0 (pg xs) 0 b c d, 599950, 7298497)) rfl ?_
      refine pm_go (g := (433, [(3, .int 0), (2, .ref 25), (1, .ref 1), (0, .ref 0)], [.int 2, .int 0, .ref 0, .int 0, .ref 25, .int (-1)], g9_0 (pg xs) 0 b c d, 599950, 7298497)) rfl ?_
      refine pm_go (g := (434, [(3, .int 0), (2, .ref 25), (1, .ref 1), (0, .ref 0)], [.int 2, .ref 0, .int 0, .ref 25, .int (-1)], g9_0 (pg xs) 0 b c d, 599950, 7298497)) rfl ?_
      refine pm_go (g := (435, [(3, .int 0), (2, .ref 25), (1, .ref 1), (0, .ref 0)], [.int (xs 2), .int 0, .ref 25, .int (-1)], g9_0 (pg xs) 0 b c d, 599950, 7298497)) rfl ?_
      rw [← eb]
      refine pm_go (g := (436, [(3, .int 0), (2, .ref 25), (1, .ref 1), (0, .ref 0)], [.ref 0, .int (b), .int 0, .ref 25, .int (-1)], g9_0 (pg xs) 0 b c d, 599950, 7298497)) rfl ?_
      refine pm_go (g := (437, [(3, .int 0), (2, .ref 25), (1, .ref 1), (0, .ref 0)], [.int 0, .ref 0, .int (b), .int 0, .ref 25, .int (-1)], g9_0 (pg xs) 0 b c d, 599950, 7298497)) rfl ?_
      refine pm_go (g := (438, [(3, .int 0), (2, .ref 25), (1, .ref 1), (0, .ref 0)], [.int 3, .int 0, .ref 0, .int (b), .int 0, .ref 25, .int (-1)], g9_0 (pg xs) 0 b c d, 599950, 7298497)) rfl ?_
      refine pm_go (g := (439, [(3, .int 0), (2, .ref 25), (1, .ref 1), (0, .ref 0)], [.int 3, .ref 0, .int (b), .int 0, .ref 25, .int (-1)], g9_0 (pg xs) 0 b c d, 599950, 7298497)) rfl ?_
      refine pm_go (g := (440, [(3, .int 0), (2, .ref 25), (1, .ref 1), (0, .ref 0)], [.int (xs 3), .int (b), .int 0, .ref 25, .int (-1)], g9_0 (pg xs) 0 b c d, 599950, 7298497)) rfl ?_
      rw [← ec]
      refine pm_callD (z := 163) (as := [.ref 25, .int 0, .int (b), .int (c)]) (rest := [.int (-1)]) rfl ?_
      show pm_WP 163 (0, [(0, .ref 25), (1, .int 0), (2, .int (b)), (3, .int (c))], [], g9_0 (pg xs) 0 b c d, 0, 0) _
      refine pm_go (g := (1, [(0, .ref 25), (1, .int 0), (2, .int (b)), (3, .int (c))], [.int 0], g9_0 (pg xs) 0 b c d, 0, 0)) rfl ?_
      refine pm_go (g := (2, [(0, .ref 25), (1, .int 0), (2, .int (b)), (3, .int (c))], [.int 0, .int 0], g9_0 (pg xs) 0 b c d, 0, 0)) rfl ?_
      refine pm_go (g := (3, [(0, .ref 25), (1, .int 0), (2, .int (b)), (3, .int (c))], [.int 4, .int 0, .int 0], g9_0 (pg xs) 0 b c d, 0, 0)) rfl ?_
      refine pm_callD (z := 128) (as := [.int 0, .int 0, .int 4]) (rest := []) rfl ?_
      show pm_WP 128 (0, [(0, .int 0), (1, .int 0), (2, .int 4)], [], g9_0 (pg xs) 0 b c d, 0, 0) _
      refine pm_go (g := (1, [(0, .int 0), (1, .int 0), (2, .int 4)], [.int 0], g9_0 (pg xs) 0 b c d, 0, 0)) rfl ?_
      refine pm_go (g := (2, [(0, .int 0), (1, .int 0), (2, .int 4)], [.int 0, .int 0], g9_0 (pg xs) 0 b c d, 0, 0)) rfl ?_
      refine pm_brF (h := (5, [(0, .int 0), (1, .int 0), (2, .int 4)], [], g9_0 (pg xs) 0 b c d, 0, 0)) rfl ?_
      refine pm_go (g := (6, [(0, .int 0), (1, .int 0), (2, .int 4)], [.int 0], g9_0 (pg xs) 0 b c d, 0, 0)) rfl ?_
      refine pm_go (g := (7, [(0, .int 0), (1, .int 0), (2, .int 4)], [.int 4, .int 0], g9_0 (pg xs) 0 b c d, 0, 0)) rfl ?_
      refine pm_brF (h := (10, [(0, .int 0), (1, .int 0), (2, .int 4)], [], g9_0 (pg xs) 0 b c d, 0, 0)) rfl ?_
      refine pm_go (g := (11, [(0, .int 0), (1, .int 0), (2, .int 4)], [.int 1], g9_0 (pg xs) 0 b c d, 0, 0)) rfl ?_
      refine pm_go (g := (15, [(0, .int 0), (1, .int 0), (2, .int 4)], [.int 1], g9_0 (pg xs) 0 b c d, 0, 0)) rfl ?_
      refine pm_ret rfl ?_
      show pm_WP 163 (6, [(0, .ref 25), (1, .int 0), (2, .int (b)), (3, .int (c))], [.int 1], g9_0 (pg xs) 0 b c d, 0, 0) _
      refine pm_brT (g := (11, [(0, .ref 25), (1, .int 0), (2, .int (b)), (3, .int (c))], [], g9_0 (pg xs) 0 b c d, 0, 0)) rfl ?_
      refine pm_go (g := (12, [(0, .ref 25), (1, .int 0), (2, .int (b)), (3, .int (c))], [.int 0], g9_0 (pg xs) 0 b c d, 0, 0)) rfl ?_
      refine pm_go (g := (13, [(0, .ref 25), (1, .int 0), (2, .int (b)), (3, .int (c))], [.int 2, .int 0], g9_0 (pg xs) 0 b c d, 0, 0)) rfl ?_
      refine pm_brF (h := (16, [(0, .ref 25), (1, .int 0), (2, .int (b)), (3, .int (c))], [], g9_0 (pg xs) 0 b c d, 0, 0)) rfl ?_
      refine pm_go (g := (17, [(0, .ref 25), (1, .int 0), (2, .int (b)), (3, .int (c))], [.ref 25], g9_0 (pg xs) 0 b c d, 0, 0)) rfl ?_
      refine pm_go (g := (18, [(0, .ref 25), (1, .int 0), (2, .int (b)), (3, .int (c))], [.int (b), .ref 25], g9_0 (pg xs) 0 b c d, 0, 0)) rfl ?_
      refine pm_callD (z := 129) (as := [.ref 25, .int (b)]) (rest := []) rfl ?_
      show pm_WP 129 (0, [(0, .ref 25), (1, .int (b))], [], g9_0 (pg xs) 0 b c d, 0, 0) _
      refine pm_go (g := (1, [(0, .ref 25), (1, .int (b))], [.int (b)], g9_0 (pg xs) 0 b c d, 0, 0)) rfl ?_
      refine pm_go (g := (2, [(0, .ref 25), (1, .int (b))], [.int 0, .int (b)], g9_0 (pg xs) 0 b c d, 0, 0)) rfl ?_
      refine pm_go (g := (3, [(0, .ref 25), (1, .int (b))], [.ref 25, .int 0, .int (b)], g9_0 (pg xs) 0 b c d, 0, 0)) rfl ?_
      refine pm_go (g := (6, [(0, .ref 25), (1, .int (b))], [.int 2, .int 0, .int (b)], g9_0 (pg xs) 0 b c d, 0, 0)) rfl ?_
      refine pm_go (g := (7, [(0, .ref 25), (1, .int (b))], [.int 1, .int 2, .int 0, .int (b)], g9_0 (pg xs) 0 b c d, 0, 0)) rfl ?_
      refine pm_go (g := (8, [(0, .ref 25), (1, .int (b))], [.int 1, .int 0, .int (b)], g9_0 (pg xs) 0 b c d, 0, 0)) rfl ?_
      refine pm_callD (z := 128) (as := [.int (b), .int 0, .int 1]) (rest := []) rfl ?_
      show pm_WP 128 (0, [(0, .int (b)), (1, .int 0), (2, .int 1)], [], g9_0 (pg xs) 0 b c d, 0, 0) _
      refine pm_go (g := (1, [(0, .int (b)), (1, .int 0), (2, .int 1)], [.int (b)], g9_0 (pg xs) 0 b c d, 0, 0)) rfl ?_
      refine pm_go (g := (2, [(0, .int (b)), (1, .int 0), (2, .int 1)], [.int 0, .int (b)], g9_0 (pg xs) 0 b c d, 0, 0)) rfl ?_
      refine pm_ifT (g := (14, [(0, .int (b)), (1, .int 0), (2, .int 1)], [], g9_0 (pg xs) 0 b c d, 0, 0)) rfl (rT_lt (cx := b.toInt) (cy := 0) rfl (by decide) (by omega)) ?_
      refine pm_go (g := (15, [(0, .int (b)), (1, .int 0), (2, .int 1)], [.int 0], g9_0 (pg xs) 0 b c d, 0, 0)) rfl ?_
      refine pm_ret rfl ?_
      show pm_WP 129 (11, [(0, .ref 25), (1, .int (b))], [.int 0], g9_0 (pg xs) 0 b c d, 0, 0) _
      refine pm_ret rfl ?_
      show pm_WP 163 (21, [(0, .ref 25), (1, .int 0), (2, .int (b)), (3, .int (c))], [.int 0], g9_0 (pg xs) 0 b c d, 0, 0) _
      refine pm_go (g := (81, [(0, .ref 25), (1, .int 0), (2, .int (b)), (3, .int (c))], [.int 0], g9_0 (pg xs) 0 b c d, 0, 0)) rfl ?_
      refine pm_go (g := (83, [(4, .int 0), (0, .ref 25), (1, .int 0), (2, .int (b)), (3, .int (c))], [], g9_0 (pg xs) 0 b c d, 0, 0)) rfl ?_
      refine pm_go (g := (85, [(4, .int 0), (0, .ref 25), (1, .int 0), (2, .int (b)), (3, .int (c))], [.int 0], g9_0 (pg xs) 0 b c d, 0, 0)) rfl ?_
      refine pm_brT (g := (102, [(4, .int 0), (0, .ref 25), (1, .int 0), (2, .int (b)), (3, .int (c))], [], g9_0 (pg xs) 0 b c d, 0, 0)) rfl ?_
      refine pm_go (g := (103, [(4, .int 0), (0, .ref 25), (1, .int 0), (2, .int (b)), (3, .int (c))], [.int (-1)], g9_0 (pg xs) 0 b c d, 0, 0)) rfl ?_
      refine pm_ret rfl ?_
      show pm_WP 0 (443, [(3, .int 0), (2, .ref 25), (1, .ref 1), (0, .ref 0)], [.int (-1), .int (-1)], g9_0 (pg xs) 0 b c d, 599950, 7298497) _
      refine pm_brT (g := (873, [(3, .int 0), (2, .ref 25), (1, .ref 1), (0, .ref 0)], [], g9_0 (pg xs) 0 b c d, 599950, 7298497)) rfl ?_
      refine pm_go (g := (876, [(3, .int 5), (2, .ref 25), (1, .ref 1), (0, .ref 0)], [], g9_0 (pg xs) 0 b c d, 599950, 7298497)) rfl ?_
      refine pm_go (g := (18, [(3, .int 5), (2, .ref 25), (1, .ref 1), (0, .ref 0)], [], g9_0 (pg xs) 0 b c d, 599950, 7298497)) rfl ?_
      refine pm_go (g := (19, [(3, .int 5), (2, .ref 25), (1, .ref 1), (0, .ref 0)], [.int 5], g9_0 (pg xs) 0 b c d, 599950, 7298497)) rfl ?_
      refine pm_go (g := (20, [(3, .int 5), (2, .ref 25), (1, .ref 1), (0, .ref 0)], [.ref 0, .int 5], g9_0 (pg xs) 0 b c d, 599950, 7298497)) rfl ?_
      refine pm_go (g := (21, [(3, .int 5), (2, .ref 25), (1, .ref 1), (0, .ref 0)], [.int 5, .int 5], g9_0 (pg xs) 0 b c d, 599950, 7298497)) rfl ?_
      refine pm_go (g := (22, [(3, .int 5), (2, .ref 25), (1, .ref 1), (0, .ref 0)], [.int 5, .int 5, .int 5], g9_0 (pg xs) 0 b c d, 599950, 7298497)) rfl ?_
      refine pm_go (g := (23, [(3, .int 5), (2, .ref 25), (1, .ref 1), (0, .ref 0)], [.int 0, .int 5], g9_0 (pg xs) 0 b c d, 599950, 7298497)) rfl ?_
      refine pm_brT (g := (879, [(3, .int 5), (2, .ref 25), (1, .ref 1), (0, .ref 0)], [], g9_0 (pg xs) 0 b c d, 599950, 7298497)) rfl ?_
      refine pm_go (g := (880, [(3, .int 5), (2, .ref 25), (1, .ref 1), (0, .ref 0)], [.int 1], g9_0 (pg xs) 0 b c d, 599950, 7298497)) rfl ?_
      exact pm_ret rfl rfl
    have q2 := qF_lt (cx := b.toInt) (cy := 0) rfl (by decide) q2
    refine pm_go (g := (5, [(0, .ref 2), (1, .int (b))], [.int (b)], g9_0 (pg xs) 0 b c d, 0, 0)) rfl ?_
    refine pm_go (g := (6, [(0, .ref 2), (1, .int (b))], [.ref 2, .int (b)], g9_0 (pg xs) 0 b c d, 0, 0)) rfl ?_
    refine pm_go (g := (9, [(0, .ref 2), (1, .int (b))], [.int 2, .int (b)], g9_0 (pg xs) 0 b c d, 0, 0)) rfl ?_
    refine pm_if2 (g := (16, [(0, .ref 2), (1, .int (b))], [], g9_0 (pg xs) 0 b c d, 0, 0)) (h := (12, [(0, .ref 2), (1, .int (b))], [], g9_0 (pg xs) 0 b c d, 0, 0)) rfl (fun q3 => ?_) (fun q3 => ?_)
    ·
      have q3 := qT_ge (cx := b.toInt) (cy := 2) rfl (by decide) q3
      refine pm_go (g := (17, [(0, .ref 2), (1, .int (b))], [.int 0], g9_0 (pg xs) 0 b c d, 0, 0)) rfl ?_
      refine pm_ret rfl ?_
      show pm_WP 111 (44, [(0, .ref 1), (1, .int 0), (2, .int (b))], [.int 0], g9_0 (pg xs) 0 b c d, 0, 0) _
      refine pm_ret rfl ?_
      show pm_WP 104 (6, [(0, .ref 1), (1, .int 0), (2, .int (b)), (3, .int (c))], [.int 0], g9_0 (pg xs) 0 b c d, 1, 3) _
      refine pm_brT (g := (24, [(0, .ref 1), (1, .int 0), (2, .int (b)), (3, .int (c))], [], g9_0 (pg xs) 0 b c d, 1, 3)) rfl ?_
      refine pm_go (g := (25, [(0, .ref 1), (1, .int 0), (2, .int (b)), (3, .int (c))], [.int (-1)], g9_0 (pg xs) 0 b c d, 1, 3)) rfl ?_
      refine pm_ret rfl ?_
      show pm_WP 0 (424, [(3, .int 0), (2, .ref 25), (1, .ref 1), (0, .ref 0)], [.int (-1)], g9_0 (pg xs) 0 b c d, 599950, 7298497) _
      refine pm_go (g := (425, [(3, .int 0), (2, .ref 25), (1, .ref 1), (0, .ref 0)], [.ref 25, .int (-1)], g9_0 (pg xs) 0 b c d, 599950, 7298497)) rfl ?_
      refine pm_go (g := (426, [(3, .int 0), (2, .ref 25), (1, .ref 1), (0, .ref 0)], [.ref 0, .ref 25, .int (-1)], g9_0 (pg xs) 0 b c d, 599950, 7298497)) rfl ?_
      refine pm_go (g := (427, [(3, .int 0), (2, .ref 25), (1, .ref 1), (0, .ref 0)], [.int 0, .ref 0, .ref 25, .int (-1)], g9_0 (pg xs) 0 b c d, 599950, 7298497)) rfl ?_
      refine pm_go (g := (428, [(3, .int 0), (2, .ref 25), (1, .ref 1), (0, .ref 0)], [.int 1, .int 0, .ref 0, .ref 25, .int (-1)], g9_0 (pg xs) 0 b c d, 599950, 7298497)) rfl ?_
      refine pm_go (g := (429, [(3, .int 0), (2, .ref 25), (1, .ref 1), (0, .ref 0)], [.int 1, .ref 0, .ref 25, .int (-1)], g9_0 (pg xs) 0 b c d, 599950, 7298497)) rfl ?_
      refine pm_go (g := (430, [(3, .int 0), (2, .ref 25), (1, .ref 1), (0, .ref 0)], [.int (xs 1), .ref 25, .int (-1)], g9_0 (pg xs) 0 b c d, 599950, 7298497)) rfl ?_
      rw [← ea]
      refine pm_go (g := (431, [(3, .int 0), (2, .ref 25), (1, .ref 1), (0, .ref 0)], [.ref 0, .int 0, .ref 25, .int (-1)], g9_0 (pg xs) 0 b c d, 599950, 7298497)) rfl ?_
      refine pm_go (g := (432, [(3, .int 0), (2, .ref 25), (1, .ref 1), (0, .ref 0)], [.int 0, .ref 0, .int 0, .ref 25, .int (-1)], g9_0 (pg xs) 0 b c d, 599950, 7298497)) rfl ?_
      refine pm_go (g := (433, [(3, .int 0), (2, .ref 25), (1, .ref 1), (0, .ref 0)], [.int 2, .int 0, .ref 0, .int 0, .ref 25, .int (-1)], g9_0 (pg xs) 0 b c d, 599950, 7298497)) rfl ?_
      refine pm_go (g := (434, [(3, .int 0), (2, .ref 25), (1, .ref 1), (0, .ref 0)], [.int 2, .ref 0, .int 0, .ref 25, .int (-1)], g9_0 (pg xs) 0 b c d, 599950, 7298497)) rfl ?_
      refine pm_go (g := (435, [(3, .int 0), (2, .ref 25), (1, .ref 1), (0, .ref 0)], [.int (xs 2), .int 0, .ref 25, .int (-1)], g9_0 (pg xs) 0 b c d, 599950, 7298497)) rfl ?_
      rw [← eb]
      refine pm_go (g := (436, [(3, .int 0), (2, .ref 25), (1, .ref 1), (0, .ref 0)], [.ref 0, .int (b), .int 0, .ref 25, .int (-1)], g9_0 (pg xs) 0 b c d, 599950, 7298497)) rfl ?_
      refine pm_go (g := (437, [(3, .int 0), (2, .ref 25), (1, .ref 1), (0, .ref 0)], [.int 0, .ref 0, .int (b), .int 0, .ref 25, .int (-1)], g9_0 (pg xs) 0 b c d, 599950, 7298497)) rfl ?_
      refine pm_go (g := (438, [(3, .int 0), (2, .ref 25), (1, .ref 1), (0, .ref 0)], [.int 3, .int 0, .ref 0, .int (b), .int 0, .ref 25, .int (-1)], g9_0 (pg xs) 0 b c d, 599950, 7298497)) rfl ?_
      refine pm_go (g := (439, [(3, .int 0), (2, .ref 25), (1, .ref 1), (0, .ref 0)], [.int 3, .ref 0, .int (b), .int 0, .ref 25, .int (-1)], g9_0 (pg xs) 0 b c d, 599950, 7298497)) rfl ?_
      refine pm_go (g := (440, [(3, .int 0), (2, .ref 25), (1, .ref 1), (0, .ref 0)], [.int (xs 3), .int (b), .int 0, .ref 25, .int (-1)], g9_0 (pg xs) 0 b c d, 599950, 7298497)) rfl ?_
      rw [← ec]
      refine pm_callD (z := 163) (as := [.ref 25, .int 0, .int (b), .int (c)]) (rest := [.int (-1)]) rfl ?_
      show pm_WP 163 (0, [(0, .ref 25), (1, .int 0), (2, .int (b)), (3, .int (c))], [], g9_0 (pg xs) 0 b c d, 0, 0) _
      refine pm_go (g := (1, [(0, .ref 25), (1, .int 0), (2, .int (b)), (3, .int (c))], [.int 0], g9_0 (pg xs) 0 b c d, 0, 0)) rfl ?_
      refine pm_go (g := (2, [(0, .ref 25), (1, .int 0), (2, .int (b)), (3, .int (c))], [.int 0, .int 0], g9_0 (pg xs) 0 b c d, 0, 0)) rfl ?_
      refine pm_go (g := (3, [(0, .ref 25), (1, .int 0), (2, .int (b)), (3, .int (c))], [.int 4, .int 0, .int 0], g9_0 (pg xs) 0 b c d, 0, 0)) rfl ?_
      refine pm_callD (z := 128) (as := [.int 0, .int 0, .int 4]) (rest := []) rfl ?_
      show pm_WP 128 (0, [(0, .int 0), (1, .int 0), (2, .int 4)], [], g9_0 (pg xs) 0 b c d, 0, 0) _
      refine pm_go (g := (1, [(0, .int 0), (1, .int 0), (2, .int 4)], [.int 0], g9_0 (pg xs) 0 b c d, 0, 0)) rfl ?_
      refine pm_go (g := (2, [(0, .int 0), (1, .int 0), (2, .int 4)], [.int 0, .int 0], g9_0 (pg xs) 0 b c d, 0, 0)) rfl ?_
      refine pm_brF (h := (5, [(0, .int 0), (1, .int 0), (2, .int 4)], [], g9_0 (pg xs) 0 b c d, 0, 0)) rfl ?_
      refine pm_go (g := (6, [(0, .int 0), (1, .int 0), (2, .int 4)], [.int 0], g9_0 (pg xs) 0 b c d, 0, 0)) rfl ?_
      refine pm_go (g := (7, [(0, .int 0), (1, .int 0), (2, .int 4)], [.int 4, .int 0], g9_0 (pg xs) 0 b c d, 0, 0)) rfl ?_
      refine pm_brF (h := (10, [(0, .int 0), (1, .int 0), (2, .int 4)], [], g9_0 (pg xs) 0 b c d, 0, 0)) rfl ?_
      refine pm_go (g := (11, [(0, .int 0), (1, .int 0), (2, .int 4)], [.int 1], g9_0 (pg xs) 0 b c d, 0, 0)) rfl ?_
      refine pm_go (g := (15, [(0, .int 0), (1, .int 0), (2, .int 4)], [.int 1], g9_0 (pg xs) 0 b c d, 0, 0)) rfl ?_
      refine pm_ret rfl ?_
      show pm_WP 163 (6, [(0, .ref 25), (1, .int 0), (2, .int (b)), (3, .int (c))], [.int 1], g9_0 (pg xs) 0 b c d, 0, 0) _
      refine pm_brT (g := (11, [(0, .ref 25), (1, .int 0), (2, .int (b)), (3, .int (c))], [], g9_0 (pg xs) 0 b c d, 0, 0)) rfl ?_
      refine pm_go (g := (12, [(0, .ref 25), (1, .int 0), (2, .int (b)), (3, .int (c))], [.int 0], g9_0 (pg xs) 0 b c d, 0, 0)) rfl ?_
      refine pm_go (g := (13, [(0, .ref 25), (1, .int 0), (2, .int (b)), (3, .int (c))], [.int 2, .int 0], g9_0 (pg xs) 0 b c d, 0, 0)) rfl ?_
      refine pm_brF (h := (16, [(0, .ref 25), (1, .int 0), (2, .int (b)), (3, .int (c))], [], g9_0 (pg xs) 0 b c d, 0, 0)) rfl ?_
      refine pm_go (g := (17, [(0, .ref 25), (1, .int 0), (2, .int (b)), (3, .int (c))], [.ref 25], g9_0 (pg xs) 0 b c d, 0, 0)) rfl ?_
      refine pm_go (g := (18, [(0, .ref 25), (1, .int 0), (2, .int (b)), (3, .int (c))], [.int (b), .ref 25], g9_0 (pg xs) 0 b c d, 0, 0)) rfl ?_
      refine pm_callD (z := 129) (as := [.ref 25, .int (b)]) (rest := []) rfl ?_
      show pm_WP 129 (0, [(0, .ref 25), (1, .int (b))], [], g9_0 (pg xs) 0 b c d, 0, 0) _
      refine pm_go (g := (1, [(0, .ref 25), (1, .int (b))], [.int (b)], g9_0 (pg xs) 0 b c d, 0, 0)) rfl ?_
      refine pm_go (g := (2, [(0, .ref 25), (1, .int (b))], [.int 0, .int (b)], g9_0 (pg xs) 0 b c d, 0, 0)) rfl ?_
      refine pm_go (g := (3, [(0, .ref 25), (1, .int (b))], [.ref 25, .int 0, .int (b)], g9_0 (pg xs) 0 b c d, 0, 0)) rfl ?_
      refine pm_go (g := (6, [(0, .ref 25), (1, .int (b))], [.int 2, .int 0, .int (b)], g9_0 (pg xs) 0 b c d, 0, 0)) rfl ?_
      refine pm_go (g := (7, [(0, .ref 25), (1, .int (b))], [.int 1, .int 2, .int 0, .int (b)], g9_0 (pg xs) 0 b c d, 0, 0)) rfl ?_
      refine pm_go (g := (8, [(0, .ref 25), (1, .int (b))], [.int 1, .int 0, .int (b)], g9_0 (pg xs) 0 b c d, 0, 0)) rfl ?_
      refine pm_callD (z := 128) (as := [.int (b), .int 0, .int 1]) (rest := []) rfl ?_
      show pm_WP 128 (0, [(0, .int (b)), (1, .int 0), (2, .int 1)], [], g9_0 (pg xs) 0 b c d, 0, 0) _
      refine pm_go (g := (1, [(0, .int (b)), (1, .int 0), (2, .int 1)], [.int (b)], g9_0 (pg xs) 0 b c d, 0, 0)) rfl ?_
      refine pm_go (g := (2, [(0, .int (b)), (1, .int 0), (2, .int 1)], [.int 0, .int (b)], g9_0 (pg xs) 0 b c d, 0, 0)) rfl ?_
      refine pm_ifF (h := (5, [(0, .int (b)), (1, .int 0), (2, .int 1)], [], g9_0 (pg xs) 0 b c d, 0, 0)) rfl (rF_lt (cx := b.toInt) (cy := 0) rfl (by decide) (by omega)) ?_
      refine pm_go (g := (6, [(0, .int (b)), (1, .int 0), (2, .int 1)], [.int (b)], g9_0 (pg xs) 0 b c d, 0, 0)) rfl ?_
      refine pm_go (g := (7, [(0, .int (b)), (1, .int 0), (2, .int 1)], [.int 1, .int (b)], g9_0 (pg xs) 0 b c d, 0, 0)) rfl ?_
      refine pm_ifT (g := (14, [(0, .int (b)), (1, .int 0), (2, .int 1)], [], g9_0 (pg xs) 0 b c d, 0, 0)) rfl (rT_gt (cx := b.toInt) (cy := 1) rfl (by decide) (by omega)) ?_
      refine pm_go (g := (15, [(0, .int (b)), (1, .int 0), (2, .int 1)], [.int 0], g9_0 (pg xs) 0 b c d, 0, 0)) rfl ?_
      refine pm_ret rfl ?_
      show pm_WP 129 (11, [(0, .ref 25), (1, .int (b))], [.int 0], g9_0 (pg xs) 0 b c d, 0, 0) _
      refine pm_ret rfl ?_
      show pm_WP 163 (21, [(0, .ref 25), (1, .int 0), (2, .int (b)), (3, .int (c))], [.int 0], g9_0 (pg xs) 0 b c d, 0, 0) _
      refine pm_go (g := (81, [(0, .ref 25), (1, .int 0), (2, .int (b)), (3, .int (c))], [.int 0], g9_0 (pg xs) 0 b c d, 0, 0)) rfl ?_
      refine pm_go (g := (83, [(4, .int 0), (0, .ref 25), (1, .int 0), (2, .int (b)), (3, .int (c))], [], g9_0 (pg xs) 0 b c d, 0, 0)) rfl ?_
      refine pm_go (g := (85, [(4, .int 0), (0, .ref 25), (1, .int 0), (2, .int (b)), (3, .int (c))], [.int 0], g9_0 (pg xs) 0 b c d, 0, 0)) rfl ?_
      refine pm_brT (g := (102, [(4, .int 0), (0, .ref 25), (1, .int 0), (2, .int (b)), (3, .int (c))], [], g9_0 (pg xs) 0 b c d, 0, 0)) rfl ?_
      refine pm_go (g := (103, [(4, .int 0), (0, .ref 25), (1, .int 0), (2, .int (b)), (3, .int (c))], [.int (-1)], g9_0 (pg xs) 0 b c d, 0, 0)) rfl ?_
      refine pm_ret rfl ?_
      show pm_WP 0 (443, [(3, .int 0), (2, .ref 25), (1, .ref 1), (0, .ref 0)], [.int (-1), .int (-1)], g9_0 (pg xs) 0 b c d, 599950, 7298497) _
      refine pm_brT (g := (873, [(3, .int 0), (2, .ref 25), (1, .ref 1), (0, .ref 0)], [], g9_0 (pg xs) 0 b c d, 599950, 7298497)) rfl ?_
      refine pm_go (g := (876, [(3, .int 5), (2, .ref 25), (1, .ref 1), (0, .ref 0)], [], g9_0 (pg xs) 0 b c d, 599950, 7298497)) rfl ?_
      refine pm_go (g := (18, [(3, .int 5), (2, .ref 25), (1, .ref 1), (0, .ref 0)], [], g9_0 (pg xs) 0 b c d, 599950, 7298497)) rfl ?_
      refine pm_go (g := (19, [(3, .int 5), (2, .ref 25), (1, .ref 1), (0, .ref 0)], [.int 5], g9_0 (pg xs) 0 b c d, 599950, 7298497)) rfl ?_
      refine pm_go (g := (20, [(3, .int 5), (2, .ref 25), (1, .ref 1), (0, .ref 0)], [.ref 0, .int 5], g9_0 (pg xs) 0 b c d, 599950, 7298497)) rfl ?_
      refine pm_go (g := (21, [(3, .int 5), (2, .ref 25), (1, .ref 1), (0, .ref 0)], [.int 5, .int 5], g9_0 (pg xs) 0 b c d, 599950, 7298497)) rfl ?_
      refine pm_go (g := (22, [(3, .int 5), (2, .ref 25), (1, .ref 1), (0, .ref 0)], [.int 5, .int 5, .int 5], g9_0 (pg xs) 0 b c d, 599950, 7298497)) rfl ?_
      refine pm_go (g := (23, [(3, .int 5), (2, .ref 25), (1, .ref 1), (0, .ref 0)], [.int 0, .int 5], g9_0 (pg xs) 0 b c d, 599950, 7298497)) rfl ?_
      refine pm_brT (g := (879, [(3, .int 5), (2, .ref 25), (1, .ref 1), (0, .ref 0)], [], g9_0 (pg xs) 0 b c d, 599950, 7298497)) rfl ?_
      refine pm_go (g := (880, [(3, .int 5), (2, .ref 25), (1, .ref 1), (0, .ref 0)], [.int 1], g9_0 (pg xs) 0 b c d, 599950, 7298497)) rfl ?_
      exact pm_ret rfl rfl
    have q3 := qF_ge (cx := b.toInt) (cy := 2) rfl (by decide) q3
    refine pm_go (g := (13, [(0, .ref 2), (1, .int (b))], [.int 1], g9_0 (pg xs) 0 b c d, 0, 0)) rfl ?_
    refine pm_go (g := (17, [(0, .ref 2), (1, .int (b))], [.int 1], g9_0 (pg xs) 0 b c d, 0, 0)) rfl ?_
    refine pm_ret rfl ?_
    show pm_WP 111 (44, [(0, .ref 1), (1, .int 0), (2, .int (b))], [.int 1], g9_0 (pg xs) 0 b c d, 0, 0) _
    refine pm_ret rfl ?_
    show pm_WP 104 (6, [(0, .ref 1), (1, .int 0), (2, .int (b)), (3, .int (c))], [.int 1], g9_0 (pg xs) 0 b c d, 1, 3) _
    refine pm_brF (h := (9, [(0, .ref 1), (1, .int 0), (2, .int (b)), (3, .int (c))], [], g9_0 (pg xs) 0 b c d, 1, 3)) rfl ?_
    refine pm_go (g := (10, [(0, .ref 1), (1, .int 0), (2, .int (b)), (3, .int (c))], [.int 0], g9_0 (pg xs) 0 b c d, 1, 3)) rfl ?_
    refine pm_go (g := (11, [(0, .ref 1), (1, .int 0), (2, .int (b)), (3, .int (c))], [.int 2, .int 0], g9_0 (pg xs) 0 b c d, 1, 3)) rfl ?_
    refine pm_brF (h := (14, [(0, .ref 1), (1, .int 0), (2, .int (b)), (3, .int (c))], [], g9_0 (pg xs) 0 b c d, 1, 3)) rfl ?_
    refine pm_go (g := (15, [(0, .ref 1), (1, .int 0), (2, .int (b)), (3, .int (c))], [.int (c)], g9_0 (pg xs) 0 b c d, 1, 3)) rfl ?_
    refine pm_if2 (g := (24, [(0, .ref 1), (1, .int 0), (2, .int (b)), (3, .int (c))], [], g9_0 (pg xs) 0 b c d, 1, 3)) (h := (18, [(0, .ref 1), (1, .int 0), (2, .int (b)), (3, .int (c))], [], g9_0 (pg xs) 0 b c d, 1, 3)) rfl (fun q4 => ?_) (fun q4 => ?_)
    ·
      have q4 := qT_lt (cx := c.toInt) (cy := 0) rfl (by decide) q4
      refine pm_go (g := (25, [(0, .ref 1), (1, .int 0), (2, .int (b)), (3, .int (c))], [.int (-1)], g9_0 (pg xs) 0 b c d, 1, 3)) rfl ?_
      refine pm_ret rfl ?_
      show pm_WP 0 (424, [(3, .int 0), (2, .ref 25), (1, .ref 1), (0, .ref 0)], [.int (-1)], g9_0 (pg xs) 0 b c d, 599950, 7298497) _
      refine pm_go (g := (425, [(3, .int 0), (2, .ref 25), (1, .ref 1), (0, .ref 0)], [.ref 25, .int (-1)], g9_0 (pg xs) 0 b c d, 599950, 7298497)) rfl ?_
      refine pm_go (g := (426, [(3, .int 0), (2, .ref 25), (1, .ref 1), (0, .ref 0)], [.ref 0, .ref 25, .int (-1)], g9_0 (pg xs) 0 b c d, 599950, 7298497)) rfl ?_
      refine pm_go (g := (427, [(3, .int 0), (2, .ref 25), (1, .ref 1), (0, .ref 0)], [.int 0, .ref 0, .ref 25, .int (-1)], g9_0 (pg xs) 0 b c d, 599950, 7298497)) rfl ?_
      refine pm_go (g := (428, [(3, .int 0), (2, .ref 25), (1, .ref 1), (0, .ref 0)], [.int 1, .int 0, .ref 0, .ref 25, .int (-1)], g9_0 (pg xs) 0 b c d, 599950, 7298497)) rfl ?_
      refine pm_go (g := (429, [(3, .int 0), (2, .ref 25), (1, .ref 1), (0, .ref 0)], [.int 1, .ref 0, .ref 25, .int (-1)], g9_0 (pg xs) 0 b c d, 599950, 7298497)) rfl ?_
      refine pm_go (g := (430, [(3, .int 0), (2, .ref 25), (1, .ref 1), (0, .ref 0)], [.int (xs 1), .ref 25, .int (-1)], g9_0 (pg xs) 0 b c d, 599950, 7298497)) rfl ?_
      rw [← ea]
      refine pm_go (g := (431, [(3, .int 0), (2, .ref 25), (1, .ref 1), (0, .ref 0)], [.ref 0, .int 0, .ref 25, .int (-1)], g9_0 (pg xs) 0 b c d, 599950, 7298497)) rfl ?_
      refine pm_go (g := (432, [(3, .int 0), (2, .ref 25), (1, .ref 1), (0, .ref 0)], [.int 0, .ref 0, .int 0, .ref 25, .int (-1)], g9_0 (pg xs) 0 b c d, 599950, 7298497)) rfl ?_
      refine pm_go (g := (433, [(3, .int 0), (2, .ref 25), (1, .ref 1), (0, .ref 0)], [.int 2, .int 0, .ref 0, .int 0, .ref 25, .int (-1)], g9_0 (pg xs) 0 b c d, 599950, 7298497)) rfl ?_
      refine pm_go (g := (434, [(3, .int 0), (2, .ref 25), (1, .ref 1), (0, .ref 0)], [.int 2, .ref 0, .int 0, .ref 25, .int (-1)], g9_0 (pg xs) 0 b c d, 599950, 7298497)) rfl ?_
      refine pm_go (g := (435, [(3, .int 0), (2, .ref 25), (1, .ref 1), (0, .ref 0)], [.int (xs 2), .int 0, .ref 25, .int (-1)], g9_0 (pg xs) 0 b c d, 599950, 7298497)) rfl ?_
      rw [← eb]
      refine pm_go (g := (436, [(3, .int 0), (2, .ref 25), (1, .ref 1), (0, .ref 0)], [.ref 0, .int (b), .int 0, .ref 25, .int (-1)], g9_0 (pg xs) 0 b c d, 599950, 7298497)) rfl ?_
      refine pm_go (g := (437, [(3, .int 0), (2, .ref 25), (1, .ref 1), (0, .ref 0)], [.int 0, .ref 0, .int (b), .int 0, .ref 25, .int (-1)], g9_0 (pg xs) 0 b c d, 599950, 7298497)) rfl ?_
      refine pm_go (g := (438, [(3, .int 0), (2, .ref 25), (1, .ref 1), (0, .ref 0)], [.int 3, .int 0, .ref 0, .int (b), .int 0, .ref 25, .int (-1)], g9_0 (pg xs) 0 b c d, 599950, 7298497)) rfl ?_
      refine pm_go (g := (439, [(3, .int 0), (2, .ref 25), (1, .ref 1), (0, .ref 0)], [.int 3, .ref 0, .int (b), .int 0, .ref 25, .int (-1)], g9_0 (pg xs) 0 b c d, 599950, 7298497)) rfl ?_
      refine pm_go (g := (440, [(3, .int 0), (2, .ref 25), (1, .ref 1), (0, .ref 0)], [.int (xs 3), .int (b), .int 0, .ref 25, .int (-1)], g9_0 (pg xs) 0 b c d, 599950, 7298497)) rfl ?_
      rw [← ec]
      refine pm_callD (z := 163) (as := [.ref 25, .int 0, .int (b), .int (c)]) (rest := [.int (-1)]) rfl ?_
      show pm_WP 163 (0, [(0, .ref 25), (1, .int 0), (2, .int (b)), (3, .int (c))], [], g9_0 (pg xs) 0 b c d, 0, 0) _
      refine pm_go (g := (1, [(0, .ref 25), (1, .int 0), (2, .int (b)), (3, .int (c))], [.int 0], g9_0 (pg xs) 0 b c d, 0, 0)) rfl ?_
      refine pm_go (g := (2, [(0, .ref 25), (1, .int 0), (2, .int (b)), (3, .int (c))], [.int 0, .int 0], g9_0 (pg xs) 0 b c d, 0, 0)) rfl ?_
      refine pm_go (g := (3, [(0, .ref 25), (1, .int 0), (2, .int (b)), (3, .int (c))], [.int 4, .int 0, .int 0], g9_0 (pg xs) 0 b c d, 0, 0)) rfl ?_
      refine pm_callD (z := 128) (as := [.int 0, .int 0, .int 4]) (rest := []) rfl ?_
      show pm_WP 128 (0, [(0, .int 0), (1, .int 0), (2, .int 4)], [], g9_0 (pg xs) 0 b c d, 0, 0) _
      refine pm_go (g := (1, [(0, .int 0), (1, .int 0), (2, .int 4)], [.int 0], g9_0 (pg xs) 0 b c d, 0, 0)) rfl ?_
      refine pm_go (g := (2, [(0, .int 0), (1, .int 0), (2, .int 4)], [.int 0, .int 0], g9_0 (pg xs) 0 b c d, 0, 0)) rfl ?_
      refine pm_brF (h := (5, [(0, .int 0), (1, .int 0), (2, .int 4)], [], g9_0 (pg xs) 0 b c d, 0, 0)) rfl ?_
      refine pm_go (g := (6, [(0, .int 0), (1, .int 0), (2, .int 4)], [.int 0], g9_0 (pg xs) 0 b c d, 0, 0)) rfl ?_
      refine pm_go (g := (7, [(0, .int 0), (1, .int 0), (2, .int 4)], [.int 4, .int 0], g9_0 (pg xs) 0 b c d, 0, 0)) rfl ?_
      refine pm_brF (h := (10, [(0, .int 0), (1, .int 0), (2, .int 4)], [], g9_0 (pg xs) 0 b c d, 0, 0)) rfl ?_
      refine pm_go (g := (11, [(0, .int 0), (1, .int 0), (2, .int 4)], [.int 1], g9_0 (pg xs) 0 b c d, 0, 0)) rfl ?_
      refine pm_go (g := (15, [(0, .int 0), (1, .int 0), (2, .int 4)], [.int 1], g9_0 (pg xs) 0 b c d, 0, 0)) rfl ?_
      refine pm_ret rfl ?_
      show pm_WP 163 (6, [(0, .ref 25), (1, .int 0), (2, .int (b)), (3, .int (c))], [.int 1], g9_0 (pg xs) 0 b c d, 0, 0) _
      refine pm_brT (g := (11, [(0, .ref 25), (1, .int 0), (2, .int (b)), (3, .int (c))], [], g9_0 (pg xs) 0 b c d, 0, 0)) rfl ?_
      refine pm_go (g := (12, [(0, .ref 25), (1, .int 0), (2, .int (b)), (3, .int (c))], [.int 0], g9_0 (pg xs) 0 b c d, 0, 0)) rfl ?_
      refine pm_go (g := (13, [(0, .ref 25), (1, .int 0), (2, .int (b)), (3, .int (c))], [.int 2, .int 0], g9_0 (pg xs) 0 b c d, 0, 0)) rfl ?_
      refine pm_brF (h := (16, [(0, .ref 25), (1, .int 0), (2, .int (b)), (3, .int (c))], [], g9_0 (pg xs) 0 b c d, 0, 0)) rfl ?_
      refine pm_go (g := (17, [(0, .ref 25), (1, .int 0), (2, .int (b)), (3, .int (c))], [.ref 25], g9_0 (pg xs) 0 b c d, 0, 0)) rfl ?_
      refine pm_go (g := (18, [(0, .ref 25), (1, .int 0), (2, .int (b)), (3, .int (c))], [.int (b), .ref 25], g9_0 (pg xs) 0 b c d, 0, 0)) rfl ?_
      refine pm_callD (z := 129) (as := [.ref 25, .int (b)]) (rest := []) rfl ?_
      show pm_WP 129 (0, [(0, .ref 25), (1, .int (b))], [], g9_0 (pg xs) 0 b c d, 0, 0) _
      refine pm_go (g := (1, [(0, .ref 25), (1, .int (b))], [.int (b)], g9_0 (pg xs) 0 b c d, 0, 0)) rfl ?_
      refine pm_go (g := (2, [(0, .ref 25), (1, .int (b))], [.int 0, .int (b)], g9_0 (pg xs) 0 b c d, 0, 0)) rfl ?_
      refine pm_go (g := (3, [(0, .ref 25), (1, .int (b))], [.ref 25, .int 0, .int (b)], g9_0 (pg xs) 0 b c d, 0, 0)) rfl ?_
      refine pm_go (g := (6, [(0, .ref 25), (1, .int (b))], [.int 2, .int 0, .int (b)], g9_0 (pg xs) 0 b c d, 0, 0)) rfl ?_
      refine pm_go (g := (7, [(0, .ref 25), (1, .int (b))], [.int 1, .int 2, .int 0, .int (b)], g9_0 (pg xs) 0 b c d, 0, 0)) rfl ?_
      refine pm_go (g := (8, [(0, .ref 25), (1, .int (b))], [.int 1, .int 0, .int (b)], g9_0 (pg xs) 0 b c d, 0, 0)) rfl ?_
      refine pm_callD (z := 128) (as := [.int (b), .int 0, .int 1]) (rest := []) rfl ?_
      show pm_WP 128 (0, [(0, .int (b)), (1, .int 0), (2, .int 1)], [], g9_0 (pg xs) 0 b c d, 0, 0) _
      refine pm_go (g := (1, [(0, .int (b)), (1, .int 0), (2, .int 1)], [.int (b)], g9_0 (pg xs) 0 b c d, 0, 0)) rfl ?_
      refine pm_go (g := (2, [(0, .int (b)), (1, .int 0), (2, .int 1)], [.int 0, .int (b)], g9_0 (pg xs) 0 b c d, 0, 0)) rfl ?_
      refine pm_ifF (h := (5, [(0, .int (b)), (1, .int 0), (2, .int 1)], [], g9_0 (pg xs) 0 b c d, 0, 0)) rfl (rF_lt (cx := b.toInt) (cy := 0) rfl (by decide) (by omega)) ?_
      refine pm_go (g := (6, [(0, .int (b)), (1, .int 0), (2, .int 1)], [.int (b)], g9_0 (pg xs) 0 b c d, 0, 0)) rfl ?_
      refine pm_go (g := (7, [(0, .int (b)), (1, .int 0), (2, .int 1)], [.int 1, .int (b)], g9_0 (pg xs) 0 b c d, 0, 0)) rfl ?_
      refine pm_ifF (h := (10, [(0, .int (b)), (1, .int 0), (2, .int 1)], [], g9_0 (pg xs) 0 b c d, 0, 0)) rfl (rF_gt (cx := b.toInt) (cy := 1) rfl (by decide) (by omega)) ?_
      refine pm_go (g := (11, [(0, .int (b)), (1, .int 0), (2, .int 1)], [.int 1], g9_0 (pg xs) 0 b c d, 0, 0)) rfl ?_
      refine pm_go (g := (15, [(0, .int (b)), (1, .int 0), (2, .int 1)], [.int 1], g9_0 (pg xs) 0 b c d, 0, 0)) rfl ?_
      refine pm_ret rfl ?_
      show pm_WP 129 (11, [(0, .ref 25), (1, .int (b))], [.int 1], g9_0 (pg xs) 0 b c d, 0, 0) _
      refine pm_ret rfl ?_
      show pm_WP 163 (21, [(0, .ref 25), (1, .int 0), (2, .int (b)), (3, .int (c))], [.int 1], g9_0 (pg xs) 0 b c d, 0, 0) _
      refine pm_go (g := (81, [(0, .ref 25), (1, .int 0), (2, .int (b)), (3, .int (c))], [.int 1], g9_0 (pg xs) 0 b c d, 0, 0)) rfl ?_
      refine pm_go (g := (83, [(4, .int 1), (0, .ref 25), (1, .int 0), (2, .int (b)), (3, .int (c))], [], g9_0 (pg xs) 0 b c d, 0, 0)) rfl ?_
      refine pm_go (g := (85, [(4, .int 1), (0, .ref 25), (1, .int 0), (2, .int (b)), (3, .int (c))], [.int 1], g9_0 (pg xs) 0 b c d, 0, 0)) rfl ?_
      refine pm_brF (h := (88, [(4, .int 1), (0, .ref 25), (1, .int 0), (2, .int (b)), (3, .int (c))], [], g9_0 (pg xs) 0 b c d, 0, 0)) rfl ?_
      refine pm_go (g := (89, [(4, .int 1), (0, .ref 25), (1, .int 0), (2, .int (b)), (3, .int (c))], [.int 0], g9_0 (pg xs) 0 b c d, 0, 0)) rfl ?_
      refine pm_go (g := (90, [(4, .int 1), (0, .ref 25), (1, .int 0), (2, .int (b)), (3, .int (c))], [.int 3, .int 0], g9_0 (pg xs) 0 b c d, 0, 0)) rfl ?_
      refine pm_brF (h := (93, [(4, .int 1), (0, .ref 25), (1, .int 0), (2, .int (b)), (3, .int (c))], [], g9_0 (pg xs) 0 b c d, 0, 0)) rfl ?_
      refine pm_go (g := (94, [(4, .int 1), (0, .ref 25), (1, .int 0), (2, .int (b)), (3, .int (c))], [.int (c)], g9_0 (pg xs) 0 b c d, 0, 0)) rfl ?_
      refine pm_go (g := (95, [(4, .int 1), (0, .ref 25), (1, .int 0), (2, .int (b)), (3, .int (c))], [.int 0, .int (c)], g9_0 (pg xs) 0 b c d, 0, 0)) rfl ?_
      refine pm_go (g := (96, [(4, .int 1), (0, .ref 25), (1, .int 0), (2, .int (b)), (3, .int (c))], [.int 5, .int 0, .int (c)], g9_0 (pg xs) 0 b c d, 0, 0)) rfl ?_
      refine pm_callD (z := 128) (as := [.int (c), .int 0, .int 5]) (rest := []) rfl ?_
      show pm_WP 128 (0, [(0, .int (c)), (1, .int 0), (2, .int 5)], [], g9_0 (pg xs) 0 b c d, 0, 0) _
      refine pm_go (g := (1, [(0, .int (c)), (1, .int 0), (2, .int 5)], [.int (c)], g9_0 (pg xs) 0 b c d, 0, 0)) rfl ?_
      refine pm_go (g := (2, [(0, .int (c)), (1, .int 0), (2, .int 5)], [.int 0, .int (c)], g9_0 (pg xs) 0 b c d, 0, 0)) rfl ?_
      refine pm_ifT (g := (14, [(0, .int (c)), (1, .int 0), (2, .int 5)], [], g9_0 (pg xs) 0 b c d, 0, 0)) rfl (rT_lt (cx := c.toInt) (cy := 0) rfl (by decide) (by omega)) ?_
      refine pm_go (g := (15, [(0, .int (c)), (1, .int 0), (2, .int 5)], [.int 0], g9_0 (pg xs) 0 b c d, 0, 0)) rfl ?_
      refine pm_ret rfl ?_
      show pm_WP 163 (99, [(4, .int 1), (0, .ref 25), (1, .int 0), (2, .int (b)), (3, .int (c))], [.int 0], g9_0 (pg xs) 0 b c d, 0, 0) _
      refine pm_brF (h := (102, [(4, .int 1), (0, .ref 25), (1, .int 0), (2, .int (b)), (3, .int (c))], [], g9_0 (pg xs) 0 b c d, 0, 0)) rfl ?_
      refine pm_go (g := (103, [(4, .int 1), (0, .ref 25), (1, .int 0), (2, .int (b)), (3, .int (c))], [.int (-1)], g9_0 (pg xs) 0 b c d, 0, 0)) rfl ?_
      refine pm_ret rfl ?_
      show pm_WP 0 (443, [(3, .int 0), (2, .ref 25), (1, .ref 1), (0, .ref 0)], [.int (-1), .int (-1)], g9_0 (pg xs) 0 b c d, 599950, 7298497) _
      refine pm_brT (g := (873, [(3, .int 0), (2, .ref 25), (1, .ref 1), (0, .ref 0)], [], g9_0 (pg xs) 0 b c d, 599950, 7298497)) rfl ?_
      refine pm_go (g := (876, [(3, .int 5), (2, .ref 25), (1, .ref 1), (0, .ref 0)], [], g9_0 (pg xs) 0 b c d, 599950, 7298497)) rfl ?_
      refine pm_go (g := (18, [(3, .int 5), (2, .ref 25), (1, .ref 1), (0, .ref 0)], [], g9_0 (pg xs) 0 b c d, 599950, 7298497)) rfl ?_
      refine pm_go (g := (19, [(3, .int 5), (2, .ref 25), (1, .ref 1), (0, .ref 0)], [.int 5], g9_0 (pg xs) 0 b c d, 599950, 7298497)) rfl ?_
      refine pm_go (g := (20, [(3, .int 5), (2, .ref 25), (1, .ref 1), (0, .ref 0)], [.ref 0, .int 5], g9_0 (pg xs) 0 b c d, 599950, 7298497)) rfl ?_
      refine pm_go (g := (21, [(3, .int 5), (2, .ref 25), (1, .ref 1), (0, .ref 0)], [.int 5, .int 5], g9_0 (pg xs) 0 b c d, 599950, 7298497)) rfl ?_
      refine pm_go (g := (22, [(3, .int 5), (2, .ref 25), (1, .ref 1), (0, .ref 0)], [.int 5, .int 5, .int 5], g9_0 (pg xs) 0 b c d, 599950, 7298497)) rfl ?_
      refine pm_go (g := (23, [(3, .int 5), (2, .ref 25), (1, .ref 1), (0, .ref 0)], [.int 0, .int 5], g9_0 (pg xs) 0 b c d, 599950, 7298497)) rfl ?_
      refine pm_brT (g := (879, [(3, .int 5), (2, .ref 25), (1, .ref 1), (0, .ref 0)], [], g9_0 (pg xs) 0 b c d, 599950, 7298497)) rfl ?_
      refine pm_go (g := (880, [(3, .int 5), (2, .ref 25), (1, .ref 1), (0, .ref 0)], [.int 1], g9_0 (pg xs) 0 b c d, 599950, 7298497)) rfl ?_
      exact pm_ret rfl rfl
    have q4 := qF_lt (cx := c.toInt) (cy := 0) rfl (by decide) q4
    refine pm_go (g := (19, [(0, .ref 1), (1, .int 0), (2, .int (b)), (3, .int (c))], [.int (c)], g9_0 (pg xs) 0 b c d, 1, 3)) rfl ?_
    refine pm_go (g := (21, [(0, .ref 1), (1, .int 0), (2, .int (b)), (3, .int (c))], [.int 6, .int (c)], g9_0 (pg xs) 0 b c d, 1, 3)) rfl ?_
    refine pm_if2 (g := (26, [(0, .ref 1), (1, .int 0), (2, .int (b)), (3, .int (c))], [], g9_0 (pg xs) 0 b c d, 1, 3)) (h := (24, [(0, .ref 1), (1, .int 0), (2, .int (b)), (3, .int (c))], [], g9_0 (pg xs) 0 b c d, 1, 3)) rfl (fun q5 => ?_) (fun q5 => ?_)
    ·
      have q5 := qT_lt (cx := c.toInt) (cy := 6) rfl (by decide) q5
      refine pm_go (g := (27, [(0, .ref 1), (1, .int 0), (2, .int (b)), (3, .int (c))], [.ref 1], g9_0 (pg xs) 0 b c d, 1, 3)) rfl ?_
      refine pm_go (g := (30, [(0, .ref 1), (1, .int 0), (2, .int (b)), (3, .int (c))], [.int 0], g9_0 (pg xs) 0 b c d, 1, 3)) rfl ?_
      refine pm_go (g := (32, [(0, .ref 1), (1, .int 0), (2, .int (b)), (3, .int (c))], [.int 30, .int 0], g9_0 (pg xs) 0 b c d, 1, 3)) rfl ?_
      refine pm_brT (g := (38, [(0, .ref 1), (1, .int 0), (2, .int (b)), (3, .int (c))], [], g9_0 (pg xs) 0 b c d, 1, 3)) rfl ?_
      refine pm_go (g := (39, [(0, .ref 1), (1, .int 0), (2, .int (b)), (3, .int (c))], [.ref 1], g9_0 (pg xs) 0 b c d, 1, 3)) rfl ?_
      refine pm_go (g := (42, [(0, .ref 1), (1, .int 0), (2, .int (b)), (3, .int (c))], [.ref 22], g9_0 (pg xs) 0 b c d, 1, 3)) rfl ?_
      refine pm_go (g := (43, [(0, .ref 1), (1, .int 0), (2, .int (b)), (3, .int (c))], [.ref 1, .ref 22], g9_0 (pg xs) 0 b c d, 1, 3)) rfl ?_
      refine pm_go (g := (46, [(0, .ref 1), (1, .int 0), (2, .int (b)), (3, .int (c))], [.int 0, .ref 22], g9_0 (pg xs) 0 b c d, 1, 3)) rfl ?_
      refine pm_go (g := (49, [(0, .ref 1), (1, .int 0), (2, .int (b)), (3, .int (c))], [.ref 50, .int 0, .ref 22], g9_1 (pg xs) 0 b c d, 0, 0)) rfl ?_
      refine pm_go (g := (50, [(0, .ref 1), (1, .int 0), (2, .int (b)), (3, .int (c))], [.ref 50, .ref 50, .int 0, .ref 22], g9_1 (pg xs) 0 b c d, 0, 0)) rfl ?_
      refine pm_go (g := (51, [(0, .ref 1), (1, .int 0), (2, .int (b)), (3, .int (c))], [.int 0, .ref 50, .ref 50, .int 0, .ref 22], g9_1 (pg xs) 0 b c d, 0, 0)) rfl ?_
      refine pm_go (g := (52, [(0, .ref 1), (1, .int 0), (2, .int (b)), (3, .int (c))], [.int (b), .int 0, .ref 50, .ref 50, .int 0, .ref 22], g9_1 (pg xs) 0 b c d, 0, 0)) rfl ?_
      refine pm_go (g := (53, [(0, .ref 1), (1, .int 0), (2, .int (b)), (3, .int (c))], [.int 0, .int (b), .int 0, .ref 50, .ref 50, .int 0, .ref 22], g9_1 (pg xs) 0 b c d, 0, 0)) rfl ?_
      refine pm_go (g := (54, [(0, .ref 1), (1, .int 0), (2, .int (b)), (3, .int (c))], [.int 3, .int 0, .int (b), .int 0, .ref 50, .ref 50, .int 0, .ref 22], g9_1 (pg xs) 0 b c d, 0, 0)) rfl ?_
      refine pm_brT (g := (62, [(0, .ref 1), (1, .int 0), (2, .int (b)), (3, .int (c))], [.int (b), .int 0, .ref 50, .ref 50, .int 0, .ref 22], g9_1 (pg xs) 0 b c d, 0, 0)) rfl ?_
      refine pm_go (g := (63, [(0, .ref 1), (1, .int 0), (2, .int (b)), (3, .int (c))], [.int (c), .int (b), .int 0, .ref 50, .ref 50, .int 0, .ref 22], g9_1 (pg xs) 0 b c d, 0, 0)) rfl ?_
      refine pm_callD (z := 51) (as := [.ref 50, .int 0, .int (b), .int (c)]) (rest := [.ref 50, .int 0, .ref 22]) rfl ?_
      show pm_WP 51 (0, [(0, .ref 50), (1, .int 0), (2, .int (b)), (3, .int (c))], [], g9_1 (pg xs) 0 b c d, 0, 0) _
      refine pm_go (g := (1, [(0, .ref 50), (1, .int 0), (2, .int (b)), (3, .int (c))], [.ref 50], g9_1 (pg xs) 0 b c d, 0, 0)) rfl ?_
      refine pm_go (g := (4, [(0, .ref 50), (1, .int 0), (2, .int (b)), (3, .int (c))], [], g9_1 (pg xs) 0 b c d, 0, 0)) rfl ?_
      refine pm_go (g := (5, [(0, .ref 50), (1, .int 0), (2, .int (b)), (3, .int (c))], [.ref 50], g9_1 (pg xs) 0 b c d, 0, 0)) rfl ?_
      refine pm_go (g := (6, [(0, .ref 50), (1, .int 0), (2, .int (b)), (3, .int (c))], [.int 0, .ref 50], g9_1 (pg xs) 0 b c d, 0, 0)) rfl ?_
      refine pm_go (g := (9, [(0, .ref 50), (1, .int 0), (2, .int (b)), (3, .int (c))], [], g9_1 (pg xs) 0 b c d, 0, 0)) rfl ?_
      refine pm_go (g := (10, [(0, .ref 50), (1, .int 0), (2, .int (b)), (3, .int (c))], [.ref 50], g9_1 (pg xs) 0 b c d, 0, 0)) rfl ?_
      refine pm_go (g := (11, [(0, .ref 50), (1, .int 0), (2, .int (b)), (3, .int (c))], [.int (b), .ref 50], g9_1 (pg xs) 0 b c d, 0, 0)) rfl ?_
      refine pm_go (g := (14, [(0, .ref 50), (1, .int 0), (2, .int (b)), (3, .int (c))], [], g9_2 (pg xs) 0 b c d, 0, 0)) rfl ?_
      refine pm_go (g := (15, [(0, .ref 50), (1, .int 0), (2, .int (b)), (3, .int (c))], [.ref 50], g9_2 (pg xs) 0 b c d, 0, 0)) rfl ?_
      refine pm_go (g := (16, [(0, .ref 50), (1, .int 0), (2, .int (b)), (3, .int (c))], [.int (c), .ref 50], g9_2 (pg xs) 0 b c d, 0, 0)) rfl ?_
      refine pm_go (g := (19, [(0, .ref 50), (1, .int 0), (2, .int (b)), (3, .int (c))], [], g9_3 (pg xs) 0 b c d, 0, 0)) rfl ?_
      refine pm_ret rfl ?_
      show pm_WP 104 (66, [(0, .ref 1), (1, .int 0), (2, .int (b)), (3, .int (c))], [.ref 50, .int 0, .ref 22], g9_3 (pg xs) 0 b c d, 0, 0) _
      refine pm_go (g := (67, [(0, .ref 1), (1, .int 0), (2, .int (b)), (3, .int (c))], [], g9_4 (pg xs) 0 b c d, 0, 0)) rfl ?_
      refine pm_go (g := (68, [(0, .ref 1), (1, .int 0), (2, .int (b)), (3, .int (c))], [.ref 1], g9_4 (pg xs) 0 b c d, 0, 0)) rfl ?_
      refine pm_go (g := (69, [(0, .ref 1), (1, .int 0), (2, .int (b)), (3, .int (c))], [.ref 1, .ref 1], g9_4 (pg xs) 0 b c d, 0, 0)) rfl ?_
      refine pm_go (g := (72, [(0, .ref 1), (1, .int 0), (2, .int (b)), (3, .int (c))], [.int 0, .ref 1], g9_4 (pg xs) 0 b c d, 0, 0)) rfl ?_
      refine pm_go (g := (73, [(0, .ref 1), (1, .int 0), (2, .int (b)), (3, .int (c))], [.int 1, .int 0, .ref 1], g9_4 (pg xs) 0 b c d, 0, 0)) rfl ?_
      refine pm_go (g := (74, [(0, .ref 1), (1, .int 0), (2, .int (b)), (3, .int (c))], [.int 1, .ref 1], g9_4 (pg xs) 0 b c d, 0, 0)) rfl ?_
      refine pm_go (g := (77, [(0, .ref 1), (1, .int 0), (2, .int (b)), (3, .int (c))], [], g9_5 (pg xs) 0 b c d, 0, 0)) rfl ?_
      refine pm_go (g := (78, [(0, .ref 1), (1, .int 0), (2, .int (b)), (3, .int (c))], [.ref 1], g9_5 (pg xs) 0 b c d, 0, 0)) rfl ?_
      refine pm_go (g := (81, [(0, .ref 1), (1, .int 0), (2, .int (b)), (3, .int (c))], [.int 1], g9_5 (pg xs) 0 b c d, 0, 0)) rfl ?_
      refine pm_go (g := (82, [(0, .ref 1), (1, .int 0), (2, .int (b)), (3, .int (c))], [.int 1, .int 1], g9_5 (pg xs) 0 b c d, 0, 0)) rfl ?_
      refine pm_go (g := (83, [(0, .ref 1), (1, .int 0), (2, .int (b)), (3, .int (c))], [.int 0], g9_5 (pg xs) 0 b c d, 0, 0)) rfl ?_
      refine pm_ret rfl ?_
      show pm_WP 0 (424, [(3, .int 0), (2, .ref 25), (1, .ref 1), (0, .ref 0)], [.int 0], g9_5 (pg xs) 0 b c d, 599950, 7298497) _
      refine pm_go (g := (425, [(3, .int 0), (2, .ref 25), (1, .ref 1), (0, .ref 0)], [.ref 25, .int 0], g9_5 (pg xs) 0 b c d, 599950, 7298497)) rfl ?_
      refine pm_go (g := (426, [(3, .int 0), (2, .ref 25), (1, .ref 1), (0, .ref 0)], [.ref 0, .ref 25, .int 0], g9_5 (pg xs) 0 b c d, 599950, 7298497)) rfl ?_
      refine pm_go (g := (427, [(3, .int 0), (2, .ref 25), (1, .ref 1), (0, .ref 0)], [.int 0, .ref 0, .ref 25, .int 0], g9_5 (pg xs) 0 b c d, 599950, 7298497)) rfl ?_
      refine pm_go (g := (428, [(3, .int 0), (2, .ref 25), (1, .ref 1), (0, .ref 0)], [.int 1, .int 0, .ref 0, .ref 25, .int 0], g9_5 (pg xs) 0 b c d, 599950, 7298497)) rfl ?_
      refine pm_go (g := (429, [(3, .int 0), (2, .ref 25), (1, .ref 1), (0, .ref 0)], [.int 1, .ref 0, .ref 25, .int 0], g9_5 (pg xs) 0 b c d, 599950, 7298497)) rfl ?_
      refine pm_go (g := (430, [(3, .int 0), (2, .ref 25), (1, .ref 1), (0, .ref 0)], [.int (xs 1), .ref 25, .int 0], g9_5 (pg xs) 0 b c d, 599950, 7298497)) rfl ?_
      rw [← ea]
      refine pm_go (g := (431, [(3, .int 0), (2, .ref 25), (1, .ref 1), (0, .ref 0)], [.ref 0, .int 0, .ref 25, .int 0], g9_5 (pg xs) 0 b c d, 599950, 7298497)) rfl ?_
      refine pm_go (g := (432, [(3, .int 0), (2, .ref 25), (1, .ref 1), (0, .ref 0)], [.int 0, .ref 0, .int 0, .ref 25, .int 0], g9_5 (pg xs) 0 b c d, 599950, 7298497)) rfl ?_
      refine pm_go (g := (433, [(3, .int 0), (2, .ref 25), (1, .ref 1), (0, .ref 0)], [.int 2, .int 0, .ref 0, .int 0, .ref 25, .int 0], g9_5 (pg xs) 0 b c d, 599950, 7298497)) rfl ?_
      refine pm_go (g := (434, [(3, .int 0), (2, .ref 25), (1, .ref 1), (0, .ref 0)], [.int 2, .ref 0, .int 0, .ref 25, .int 0], g9_5 (pg xs) 0 b c d, 599950, 7298497)) rfl ?_
      refine pm_go (g := (435, [(3, .int 0), (2, .ref 25), (1, .ref 1), (0, .ref 0)], [.int (xs 2), .int 0, .ref 25, .int 0], g9_5 (pg xs) 0 b c d, 599950, 7298497)) rfl ?_
      rw [← eb]
      refine pm_go (g := (436, [(3, .int 0), (2, .ref 25), (1, .ref 1), (0, .ref 0)], [.ref 0, .int (b), .int 0, .ref 25, .int 0], g9_5 (pg xs) 0 b c d, 599950, 7298497)) rfl ?_
      refine pm_go (g := (437, [(3, .int 0), (2, .ref 25), (1, .ref 1), (0, .ref 0)], [.int 0, .ref 0, .int (b), .int 0, .ref 25, .int 0], g9_5 (pg xs) 0 b c d, 599950, 7298497)) rfl ?_
      refine pm_go (g := (438, [(3, .int 0), (2, .ref 25), (1, .ref 1), (0, .ref 0)], [.int 3, .int 0, .ref 0, .int (b), .int 0, .ref 25, .int 0], g9_5 (pg xs) 0 b c d, 599950, 7298497)) rfl ?_
      refine pm_go (g := (439, [(3, .int 0), (2, .ref 25), (1, .ref 1), (0, .ref 0)], [.int 3, .ref 0, .int (b), .int 0, .ref 25, .int 0], g9_5 (pg xs) 0 b c d, 599950, 7298497)) rfl ?_
      refine pm_go (g := (440, [(3, .int 0), (2, .ref 25), (1, .ref 1), (0, .ref 0)], [.int (xs 3), .int (b), .int 0, .ref 25, .int 0], g9_5 (pg xs) 0 b c d, 599950, 7298497)) rfl ?_
      rw [← ec]
      refine pm_callD (z := 163) (as := [.ref 25, .int 0, .int (b), .int (c)]) (rest := [.int 0]) rfl ?_
      show pm_WP 163 (0, [(0, .ref 25), (1, .int 0), (2, .int (b)), (3, .int (c))], [], g9_5 (pg xs) 0 b c d, 0, 0) _
      refine pm_go (g := (1, [(0, .ref 25), (1, .int 0), (2, .int (b)), (3, .int (c))], [.int 0], g9_5 (pg xs) 0 b c d, 0, 0)) rfl ?_
      refine pm_go (g := (2, [(0, .ref 25), (1, .int 0), (2, .int (b)), (3, .int (c))], [.int 0, .int 0], g9_5 (pg xs) 0 b c d, 0, 0)) rfl ?_
      refine pm_go (g := (3, [(0, .ref 25), (1, .int 0), (2, .int (b)), (3, .int (c))], [.int 4, .int 0, .int 0], g9_5 (pg xs) 0 b c d, 0, 0)) rfl ?_
      refine pm_callD (z := 128) (as := [.int 0, .int 0, .int 4]) (rest := []) rfl ?_
      show pm_WP 128 (0, [(0, .int 0), (1, .int 0), (2, .int 4)], [], g9_5 (pg xs) 0 b c d, 0, 0) _
      refine pm_go (g := (1, [(0, .int 0), (1, .int 0), (2, .int 4)], [.int 0], g9_5 (pg xs) 0 b c d, 0, 0)) rfl ?_
      refine pm_go (g := (2, [(0, .int 0), (1, .int 0), (2, .int 4)], [.int 0, .int 0], g9_5 (pg xs) 0 b c d, 0, 0)) rfl ?_
      refine pm_brF (h := (5, [(0, .int 0), (1, .int 0), (2, .int 4)], [], g9_5 (pg xs) 0 b c d, 0, 0)) rfl ?_
      refine pm_go (g := (6, [(0, .int 0), (1, .int 0), (2, .int 4)], [.int 0], g9_5 (pg xs) 0 b c d, 0, 0)) rfl ?_
      refine pm_go (g := (7, [(0, .int 0), (1, .int 0), (2, .int 4)], [.int 4, .int 0], g9_5 (pg xs) 0 b c d, 0, 0)) rfl ?_
      refine pm_brF (h := (10, [(0, .int 0), (1, .int 0), (2, .int 4)], [], g9_5 (pg xs) 0 b c d, 0, 0)) rfl ?_
      refine pm_go (g := (11, [(0, .int 0), (1, .int 0), (2, .int 4)], [.int 1], g9_5 (pg xs) 0 b c d, 0, 0)) rfl ?_
      refine pm_go (g := (15, [(0, .int 0), (1, .int 0), (2, .int 4)], [.int 1], g9_5 (pg xs) 0 b c d, 0, 0)) rfl ?_
      refine pm_ret rfl ?_
      show pm_WP 163 (6, [(0, .ref 25), (1, .int 0), (2, .int (b)), (3, .int (c))], [.int 1], g9_5 (pg xs) 0 b c d, 0, 0) _
      refine pm_brT (g := (11, [(0, .ref 25), (1, .int 0), (2, .int (b)), (3, .int (c))], [], g9_5 (pg xs) 0 b c d, 0, 0)) rfl ?_
      refine pm_go (g := (12, [(0, .ref 25), (1, .int 0), (2, .int (b)), (3, .int (c))], [.int 0], g9_5 (pg xs) 0 b c d, 0, 0)) rfl ?_
      refine pm_go (g := (13, [(0, .ref 25), (1, .int 0), (2, .int (b)), (3, .int (c))], [.int 2, .int 0], g9_5 (pg xs) 0 b c d, 0, 0)) rfl ?_
      refine pm_brF (h := (16, [(0, .ref 25), (1, .int 0), (2, .int (b)), (3, .int (c))], [], g9_5 (pg xs) 0 b c d, 0, 0)) rfl ?_
      refine pm_go (g := (17, [(0, .ref 25), (1, .int 0), (2, .int (b)), (3, .int (c))], [.ref 25], g9_5 (pg xs) 0 b c d, 0, 0)) rfl ?_
      refine pm_go (g := (18, [(0, .ref 25), (1, .int 0), (2, .int (b)), (3, .int (c))], [.int (b), .ref 25], g9_5 (pg xs) 0 b c d, 0, 0)) rfl ?_
      refine pm_callD (z := 129) (as := [.ref 25, .int (b)]) (rest := []) rfl ?_
      show pm_WP 129 (0, [(0, .ref 25), (1, .int (b))], [], g9_5 (pg xs) 0 b c d, 0, 0) _
      refine pm_go (g := (1, [(0, .ref 25), (1, .int (b))], [.int (b)], g9_5 (pg xs) 0 b c d, 0, 0)) rfl ?_
      refine pm_go (g := (2, [(0, .ref 25), (1, .int (b))], [.int 0, .int (b)], g9_5 (pg xs) 0 b c d, 0, 0)) rfl ?_
      refine pm_go (g := (3, [(0, .ref 25), (1, .int (b))], [.ref 25, .int 0, .int (b)], g9_5 (pg xs) 0 b c d, 0, 0)) rfl ?_
      refine pm_go (g := (6, [(0, .ref 25), (1, .int (b))], [.int 2, .int 0, .int (b)], g9_5 (pg xs) 0 b c d, 0, 0)) rfl ?_
      refine pm_go (g := (7, [(0, .ref 25), (1, .int (b))], [.int 1, .int 2, .int 0, .int (b)], g9_5 (pg xs) 0 b c d, 0, 0)) rfl ?_
      refine pm_go (g := (8, [(0, .ref 25), (1, .int (b))], [.int 1, .int 0, .int (b)], g9_5 (pg xs) 0 b c d, 0, 0)) rfl ?_
      refine pm_callD (z := 128) (as := [.int (b), .int 0, .int 1]) (rest := []) rfl ?_
      show pm_WP 128 (0, [(0, .int (b)), (1, .int 0), (2, .int 1)], [], g9_5 (pg xs) 0 b c d, 0, 0) _
      refine pm_go (g := (1, [(0, .int (b)), (1, .int 0), (2, .int 1)], [.int (b)], g9_5 (pg xs) 0 b c d, 0, 0)) rfl ?_
      refine pm_go (g := (2, [(0, .int (b)), (1, .int 0), (2, .int 1)], [.int 0, .int (b)], g9_5 (pg xs) 0 b c d, 0, 0)) rfl ?_
      refine pm_ifF (h := (5, [(0, .int (b)), (1, .int 0), (2, .int 1)], [], g9_5 (pg xs) 0 b c d, 0, 0)) rfl (rF_lt (cx := b.toInt) (cy := 0) rfl (by decide) (by omega)) ?_
      refine pm_go (g := (6, [(0, .int (b)), (1, .int 0), (2, .int 1)], [.int (b)], g9_5 (pg xs) 0 b c d, 0, 0)) rfl ?_
      refine pm_go (g := (7, [(0, .int (b)), (1, .int 0), (2, .int 1)], [.int 1, .int (b)], g9_5 (pg xs) 0 b c d, 0, 0)) rfl ?_
      refine pm_ifF (h := (10, [(0, .int (b)), (1, .int 0), (2, .int 1)], [], g9_5 (pg xs) 0 b c d, 0, 0)) rfl (rF_gt (cx := b.toInt) (cy := 1) rfl (by decide) (by omega)) ?_
      refine pm_go (g := (11, [(0, .int (b)), (1, .int 0), (2, .int 1)], [.int 1], g9_5 (pg xs) 0 b c d, 0, 0)) rfl ?_
      refine pm_go (g := (15, [(0, .int (b)), (1, .int 0), (2, .int 1)], [.int 1], g9_5 (pg xs) 0 b c d, 0, 0)) rfl ?_
      refine pm_ret rfl ?_
      show pm_WP 129 (11, [(0, .ref 25), (1, .int (b))], [.int 1], g9_5 (pg xs) 0 b c d, 0, 0) _
      refine pm_ret rfl ?_
      show pm_WP 163 (21, [(0, .ref 25), (1, .int 0), (2, .int (b)), (3, .int (c))], [.int 1], g9_5 (pg xs) 0 b c d, 0, 0) _
      refine pm_go (g := (81, [(0, .ref 25), (1, .int 0), (2, .int (b)), (3, .int (c))], [.int 1], g9_5 (pg xs) 0 b c d, 0, 0)) rfl ?_
      refine pm_go (g := (83, [(4, .int 1), (0, .ref 25), (1, .int 0), (2, .int (b)), (3, .int (c))], [], g9_5 (pg xs) 0 b c d, 0, 0)) rfl ?_
      refine pm_go (g := (85, [(4, .int 1), (0, .ref 25), (1, .int 0), (2, .int (b)), (3, .int (c))], [.int 1], g9_5 (pg xs) 0 b c d, 0, 0)) rfl ?_
      refine pm_brF (h := (88, [(4, .int 1), (0, .ref 25), (1, .int 0), (2, .int (b)), (3, .int (c))], [], g9_5 (pg xs) 0 b c d, 0, 0)) rfl ?_
      refine pm_go (g := (89, [(4, .int 1), (0, .ref 25), (1, .int 0), (2, .int (b)), (3, .int (c))], [.int 0], g9_5 (pg xs) 0 b c d, 0, 0)) rfl ?_
      refine pm_go (g := (90, [(4, .int 1), (0, .ref 25), (1, .int 0), (2, .int (b)), (3, .int (c))], [.int 3, .int 0], g9_5 (pg xs) 0 b c d, 0, 0)) rfl ?_
      refine pm_brF (h := (93, [(4, .int 1), (0, .ref 25), (1, .int 0), (2, .int (b)), (3, .int (c))], [], g9_5 (pg xs) 0 b c d, 0, 0)) rfl ?_
      refine pm_go (g := (94, [(4, .int 1), (0, .ref 25), (1, .int 0), (2, .int (b)), (3, .int (c))], [.int (c)], g9_5 (pg xs) 0 b c d, 0, 0)) rfl ?_
      refine pm_go (g := (95, [(4, .int 1), (0, .ref 25), (1, .int 0), (2, .int (b)), (3, .int (c))], [.int 0, .int (c)], g9_5 (pg xs) 0 b c d, 0, 0)) rfl ?_
      refine pm_go (g := (96, [(4, .int 1), (0, .ref 25), (1, .int 0), (2, .int (b)), (3, .int (c))], [.int 5, .int 0, .int (c)], g9_5 (pg xs) 0 b c d, 0, 0)) rfl ?_
      refine pm_callD (z := 128) (as := [.int (c), .int 0, .int 5]) (rest := []) rfl ?_
      show pm_WP 128 (0, [(0, .int (c)), (1, .int 0), (2, .int 5)], [], g9_5 (pg xs) 0 b c d, 0, 0) _
      refine pm_go (g := (1, [(0, .int (c)), (1, .int 0), (2, .int 5)], [.int (c)], g9_5 (pg xs) 0 b c d, 0, 0)) rfl ?_
      refine pm_go (g := (2, [(0, .int (c)), (1, .int 0), (2, .int 5)], [.int 0, .int (c)], g9_5 (pg xs) 0 b c d, 0, 0)) rfl ?_
      refine pm_ifF (h := (5, [(0, .int (c)), (1, .int 0), (2, .int 5)], [], g9_5 (pg xs) 0 b c d, 0, 0)) rfl (rF_lt (cx := c.toInt) (cy := 0) rfl (by decide) (by omega)) ?_
      refine pm_go (g := (6, [(0, .int (c)), (1, .int 0), (2, .int 5)], [.int (c)], g9_5 (pg xs) 0 b c d, 0, 0)) rfl ?_
      refine pm_go (g := (7, [(0, .int (c)), (1, .int 0), (2, .int 5)], [.int 5, .int (c)], g9_5 (pg xs) 0 b c d, 0, 0)) rfl ?_
      refine pm_ifF (h := (10, [(0, .int (c)), (1, .int 0), (2, .int 5)], [], g9_5 (pg xs) 0 b c d, 0, 0)) rfl (rF_gt (cx := c.toInt) (cy := 5) rfl (by decide) (by omega)) ?_
      refine pm_go (g := (11, [(0, .int (c)), (1, .int 0), (2, .int 5)], [.int 1], g9_5 (pg xs) 0 b c d, 0, 0)) rfl ?_
      refine pm_go (g := (15, [(0, .int (c)), (1, .int 0), (2, .int 5)], [.int 1], g9_5 (pg xs) 0 b c d, 0, 0)) rfl ?_
      refine pm_ret rfl ?_
      show pm_WP 163 (99, [(4, .int 1), (0, .ref 25), (1, .int 0), (2, .int (b)), (3, .int (c))], [.int 1], g9_5 (pg xs) 0 b c d, 0, 0) _
      refine pm_brT (g := (104, [(4, .int 1), (0, .ref 25), (1, .int 0), (2, .int (b)), (3, .int (c))], [], g9_5 (pg xs) 0 b c d, 0, 0)) rfl ?_
      refine pm_go (g := (105, [(4, .int 1), (0, .ref 25), (1, .int 0), (2, .int (b)), (3, .int (c))], [.ref 25], g9_5 (pg xs) 0 b c d, 0, 0)) rfl ?_
      refine pm_go (g := (108, [(4, .int 1), (0, .ref 25), (1, .int 0), (2, .int (b)), (3, .int (c))], [.int 0], g9_5 (pg xs) 0 b c d, 0, 0)) rfl ?_
      refine pm_go (g := (110, [(4, .int 1), (0, .ref 25), (1, .int 0), (2, .int (b)), (3, .int (c))], [.int 30, .int 0], g9_5 (pg xs) 0 b c d, 0, 0)) rfl ?_
      refine pm_brT (g := (116, [(4, .int 1), (0, .ref 25), (1, .int 0), (2, .int (b)), (3, .int (c))], [], g9_5 (pg xs) 0 b c d, 0, 0)) rfl ?_
      refine pm_go (g := (117, [(4, .int 1), (0, .ref 25), (1, .int 0), (2, .int (b)), (3, .int (c))], [.ref 25], g9_5 (pg xs) 0 b c d, 0, 0)) rfl ?_
      refine pm_go (g := (120, [(4, .int 1), (0, .ref 25), (1, .int 0), (2, .int (b)), (3, .int (c))], [.ref 37], g9_5 (pg xs) 0 b c d, 0, 0)) rfl ?_
      refine pm_go (g := (121, [(4, .int 1), (0, .ref 25), (1, .int 0), (2, .int (b)), (3, .int (c))], [.ref 25, .ref 37], g9_5 (pg xs) 0 b c d, 0, 0)) rfl ?_
      refine pm_go (g := (124, [(4, .int 1), (0, .ref 25), (1, .int 0), (2, .int (b)), (3, .int (c))], [.int 0, .ref 37], g9_5 (pg xs) 0 b c d, 0, 0)) rfl ?_
      refine pm_go (g := (125, [(4, .int 1), (0, .ref 25), (1, .int 0), (2, .int (b)), (3, .int (c))], [.int 0, .int 0, .ref 37], g9_5 (pg xs) 0 b c d, 0, 0)) rfl ?_
      refine pm_go (g := (126, [(4, .int 1), (0, .ref 25), (1, .int 0), (2, .int (b)), (3, .int (c))], [], g9_6 (pg xs) 0 b c d, 0, 0)) rfl ?_
      refine pm_go (g := (127, [(4, .int 1), (0, .ref 25), (1, .int 0), (2, .int (b)), (3, .int (c))], [.ref 25], g9_6 (pg xs) 0 b c d, 0, 0)) rfl ?_
      refine pm_go (g := (130, [(4, .int 1), (0, .ref 25), (1, .int 0), (2, .int (b)), (3, .int (c))], [.ref 38], g9_6 (pg xs) 0 b c d, 0, 0)) rfl ?_
      refine pm_go (g := (131, [(4, .int 1), (0, .ref 25), (1, .int 0), (2, .int (b)), (3, .int (c))], [.ref 25, .ref 38], g9_6 (pg xs) 0 b c d, 0, 0)) rfl ?_
      refine pm_go (g := (134, [(4, .int 1), (0, .ref 25), (1, .int 0), (2, .int (b)), (3, .int (c))], [.int 0, .ref 38], g9_6 (pg xs) 0 b c d, 0, 0)) rfl ?_
      refine pm_go (g := (135, [(4, .int 1), (0, .ref 25), (1, .int 0), (2, .int (b)), (3, .int (c))], [.int (b), .int 0, .ref 38], g9_6 (pg xs) 0 b c d, 0, 0)) rfl ?_
      refine pm_go (g := (136, [(4, .int 1), (0, .ref 25), (1, .int 0), (2, .int (b)), (3, .int (c))], [], g9_7 (pg xs) 0 b c d, 0, 0)) rfl ?_
      refine pm_go (g := (137, [(4, .int 1), (0, .ref 25), (1, .int 0), (2, .int (b)), (3, .int (c))], [.ref 25], g9_7 (pg xs) 0 b c d, 0, 0)) rfl ?_
      refine pm_go (g := (140, [(4, .int 1), (0, .ref 25), (1, .int 0), (2, .int (b)), (3, .int (c))], [.ref 39], g9_7 (pg xs) 0 b c d, 0, 0)) rfl ?_
      refine pm_go (g := (141, [(4, .int 1), (0, .ref 25), (1, .int 0), (2, .int (b)), (3, .int (c))], [.ref 25, .ref 39], g9_7 (pg xs) 0 b c d, 0, 0)) rfl ?_
      refine pm_go (g := (144, [(4, .int 1), (0, .ref 25), (1, .int 0), (2, .int (b)), (3, .int (c))], [.int 0, .ref 39], g9_7 (pg xs) 0 b c d, 0, 0)) rfl ?_
      refine pm_go (g := (145, [(4, .int 1), (0, .ref 25), (1, .int 0), (2, .int (b)), (3, .int (c))], [.int (c), .int 0, .ref 39], g9_7 (pg xs) 0 b c d, 0, 0)) rfl ?_
      refine pm_go (g := (146, [(4, .int 1), (0, .ref 25), (1, .int 0), (2, .int (b)), (3, .int (c))], [], g9_8 (pg xs) 0 b c d, 0, 0)) rfl ?_
      refine pm_go (g := (147, [(4, .int 1), (0, .ref 25), (1, .int 0), (2, .int (b)), (3, .int (c))], [.ref 25], g9_8 (pg xs) 0 b c d, 0, 0)) rfl ?_
      refine pm_go (g := (148, [(4, .int 1), (0, .ref 25), (1, .int 0), (2, .int (b)), (3, .int (c))], [.ref 25, .ref 25], g9_8 (pg xs) 0 b c d, 0, 0)) rfl ?_
      refine pm_go (g := (151, [(4, .int 1), (0, .ref 25), (1, .int 0), (2, .int (b)), (3, .int (c))], [.int 0, .ref 25], g9_8 (pg xs) 0 b c d, 0, 0)) rfl ?_
      refine pm_go (g := (152, [(4, .int 1), (0, .ref 25), (1, .int 0), (2, .int (b)), (3, .int (c))], [.int 1, .int 0, .ref 25], g9_8 (pg xs) 0 b c d, 0, 0)) rfl ?_
      refine pm_go (g := (153, [(4, .int 1), (0, .ref 25), (1, .int 0), (2, .int (b)), (3, .int (c))], [.int 1, .ref 25], g9_8 (pg xs) 0 b c d, 0, 0)) rfl ?_
      refine pm_go (g := (156, [(4, .int 1), (0, .ref 25), (1, .int 0), (2, .int (b)), (3, .int (c))], [], g9_9 (pg xs) 0 b c d, 0, 0)) rfl ?_
      refine pm_go (g := (157, [(4, .int 1), (0, .ref 25), (1, .int 0), (2, .int (b)), (3, .int (c))], [.ref 25], g9_9 (pg xs) 0 b c d, 0, 0)) rfl ?_
      refine pm_go (g := (160, [(4, .int 1), (0, .ref 25), (1, .int 0), (2, .int (b)), (3, .int (c))], [.int 1], g9_9 (pg xs) 0 b c d, 0, 0)) rfl ?_
      refine pm_go (g := (161, [(4, .int 1), (0, .ref 25), (1, .int 0), (2, .int (b)), (3, .int (c))], [.int 1, .int 1], g9_9 (pg xs) 0 b c d, 0, 0)) rfl ?_
      refine pm_go (g := (162, [(4, .int 1), (0, .ref 25), (1, .int 0), (2, .int (b)), (3, .int (c))], [.int 0], g9_9 (pg xs) 0 b c d, 0, 0)) rfl ?_
      refine pm_ret rfl ?_
      show pm_WP 0 (443, [(3, .int 0), (2, .ref 25), (1, .ref 1), (0, .ref 0)], [.int 0, .int 0], g9_9 (pg xs) 0 b c d, 599950, 7298497) _
      refine pm_brT (g := (873, [(3, .int 0), (2, .ref 25), (1, .ref 1), (0, .ref 0)], [], g9_9 (pg xs) 0 b c d, 599950, 7298497)) rfl ?_
      refine pm_go (g := (876, [(3, .int 5), (2, .ref 25), (1, .ref 1), (0, .ref 0)], [], g9_9 (pg xs) 0 b c d, 599950, 7298497)) rfl ?_
      refine pm_go (g := (18, [(3, .int 5), (2, .ref 25), (1, .ref 1), (0, .ref 0)], [], g9_9 (pg xs) 0 b c d, 599950, 7298497)) rfl ?_
      refine pm_go (g := (19, [(3, .int 5), (2, .ref 25), (1, .ref 1), (0, .ref 0)], [.int 5], g9_9 (pg xs) 0 b c d, 599950, 7298497)) rfl ?_
      refine pm_go (g := (20, [(3, .int 5), (2, .ref 25), (1, .ref 1), (0, .ref 0)], [.ref 0, .int 5], g9_9 (pg xs) 0 b c d, 599950, 7298497)) rfl ?_
      refine pm_go (g := (21, [(3, .int 5), (2, .ref 25), (1, .ref 1), (0, .ref 0)], [.int 5, .int 5], g9_9 (pg xs) 0 b c d, 599950, 7298497)) rfl ?_
      refine pm_go (g := (22, [(3, .int 5), (2, .ref 25), (1, .ref 1), (0, .ref 0)], [.int 5, .int 5, .int 5], g9_9 (pg xs) 0 b c d, 599950, 7298497)) rfl ?_
      refine pm_go (g := (23, [(3, .int 5), (2, .ref 25), (1, .ref 1), (0, .ref 0)], [.int 0, .int 5], g9_9 (pg xs) 0 b c d, 599950, 7298497)) rfl ?_
      refine pm_brT (g := (879, [(3, .int 5), (2, .ref 25), (1, .ref 1), (0, .ref 0)], [], g9_9 (pg xs) 0 b c d, 599950, 7298497)) rfl ?_
      refine pm_go (g := (880, [(3, .int 5), (2, .ref 25), (1, .ref 1), (0, .ref 0)], [.int 1], g9_9 (pg xs) 0 b c d, 599950, 7298497)) rfl ?_
      exact pm_ret rfl rfl
    have q5 := qF_lt (cx := c.toInt) (cy := 6) rfl (by decide) q5
    refine pm_go (g := (25, [(0, .ref 1), (1, .int 0), (2, .int (b)), (3, .int (c))], [.int (-1)], g9_0 (pg xs) 0 b c d, 1, 3)) rfl ?_
    refine pm_ret rfl ?_
    show pm_WP 0 (424, [(3, .int 0), (2, .ref 25), (1, .ref 1), (0, .ref 0)], [.int (-1)], g9_0 (pg xs) 0 b c d, 599950, 7298497) _
    refine pm_go (g := (425, [(3, .int 0), (2, .ref 25), (1, .ref 1), (0, .ref 0)], [.ref 25, .int (-1)], g9_0 (pg xs) 0 b c d, 599950, 7298497)) rfl ?_
    refine pm_go (g := (426, [(3, .int 0), (2, .ref 25), (1, .ref 1), (0, .ref 0)], [.ref 0, .ref 25, .int (-1)], g9_0 (pg xs) 0 b c d, 599950, 7298497)) rfl ?_
    refine pm_go (g := (427, [(3, .int 0), (2, .ref 25), (1, .ref 1), (0, .ref 0)], [.int 0, .ref 0, .ref 25, .int (-1)], g9_0 (pg xs) 0 b c d, 599950, 7298497)) rfl ?_
    refine pm_go (g := (428, [(3, .int 0), (2, .ref 25), (1, .ref 1), (0, .ref 0)], [.int 1, .int 0, .ref 0, .ref 25, .int (-1)], g9_0 (pg xs) 0 b c d, 599950, 7298497)) rfl ?_
    refine pm_go (g := (429, [(3, .int 0), (2, .ref 25), (1, .ref 1), (0, .ref 0)], [.int 1, .ref 0, .ref 25, .int (-1)], g9_0 (pg xs) 0 b c d, 599950, 7298497)) rfl ?_
    refine pm_go (g := (430, [(3, .int 0), (2, .ref 25), (1, .ref 1), (0, .ref 0)], [.int (xs 1), .ref 25, .int (-1)], g9_0 (pg xs) 0 b c d, 599950, 7298497)) rfl ?_
    rw [← ea]
    refine pm_go (g := (431, [(3, .int 0), (2, .ref 25), (1, .ref 1), (0, .ref 0)], [.ref 0, .int 0, .ref 25, .int (-1)], g9_0 (pg xs) 0 b c d, 599950, 7298497)) rfl ?_
    refine pm_go (g := (432, [(3, .int 0), (2, .ref 25), (1, .ref 1), (0, .ref 0)], [.int 0, .ref 0, .int 0, .ref 25, .int (-1)], g9_0 (pg xs) 0 b c d, 599950, 7298497)) rfl ?_
    refine pm_go (g := (433, [(3, .int 0), (2, .ref 25), (1, .ref 1), (0, .ref 0)], [.int 2, .int 0, .ref 0, .int 0, .ref 25, .int (-1)], g9_0 (pg xs) 0 b c d, 599950, 7298497)) rfl ?_
    refine pm_go (g := (434, [(3, .int 0), (2, .ref 25), (1, .ref 1), (0, .ref 0)], [.int 2, .ref 0, .int 0, .ref 25, .int (-1)], g9_0 (pg xs) 0 b c d, 599950, 7298497)) rfl ?_
    refine pm_go (g := (435, [(3, .int 0), (2, .ref 25), (1, .ref 1), (0, .ref 0)], [.int (xs 2), .int 0, .ref 25, .int (-1)], g9_0 (pg xs) 0 b c d, 599950, 7298497)) rfl ?_
    rw [← eb]
    refine pm_go (g := (436, [(3, .int 0), (2, .ref 25), (1, .ref 1), (0, .ref 0)], [.ref 0, .int (b), .int 0, .ref 25, .int (-1)], g9_0 (pg xs) 0 b c d, 599950, 7298497)) rfl ?_
    refine pm_go (g := (437, [(3, .int 0), (2, .ref 25), (1, .ref 1), (0, .ref 0)], [.int 0, .ref 0, .int (b), .int 0, .ref 25, .int (-1)], g9_0 (pg xs) 0 b c d, 599950, 7298497)) rfl ?_
    refine pm_go (g := (438, [(3, .int 0), (2, .ref 25), (1, .ref 1), (0, .ref 0)], [.int 3, .int 0, .ref 0, .int (b), .int 0, .ref 25, .int (-1)], g9_0 (pg xs) 0 b c d, 599950, 7298497)) rfl ?_
    refine pm_go (g := (439, [(3, .int 0), (2, .ref 25), (1, .ref 1), (0, .ref 0)], [.int 3, .ref 0, .int (b), .int 0, .ref 25, .int (-1)], g9_0 (pg xs) 0 b c d, 599950, 7298497)) rfl ?_
    refine pm_go (g := (440, [(3, .int 0), (2, .ref 25), (1, .ref 1), (0, .ref 0)], [.int (xs 3), .int (b), .int 0, .ref 25, .int (-1)], g9_0 (pg xs) 0 b c d, 599950, 7298497)) rfl ?_
    rw [← ec]
    refine pm_callD (z := 163) (as := [.ref 25, .int 0, .int (b), .int (c)]) (rest := [.int (-1)]) rfl ?_
    show pm_WP 163 (0, [(0, .ref 25), (1, .int 0), (2, .int (b)), (3, .int (c))], [], g9_0 (pg xs) 0 b c d, 0, 0) _
    refine pm_go (g := (1, [(0, .ref 25), (1, .int 0), (2, .int (b)), (3, .int (c))], [.int 0], g9_0 (pg xs) 0 b c d, 0, 0)) rfl ?_
    refine pm_go (g := (2, [(0, .ref 25), (1, .int 0), (2, .int (b)), (3, .int (c))], [.int 0, .int 0], g9_0 (pg xs) 0 b c d, 0, 0)) rfl ?_
    refine pm_go (g := (3, [(0, .ref 25), (1, .int 0), (2, .int (b)), (3, .int (c))], [.int 4, .int 0, .int 0], g9_0 (pg xs) 0 b c d, 0, 0)) rfl ?_
    refine pm_callD (z := 128) (as := [.int 0, .int 0, .int 4]) (rest := []) rfl ?_
    show pm_WP 128 (0, [(0, .int 0), (1, .int 0), (2, .int 4)], [], g9_0 (pg xs) 0 b c d, 0, 0) _
    refine pm_go (g := (1, [(0, .int 0), (1, .int 0), (2, .int 4)], [.int 0], g9_0 (pg xs) 0 b c d, 0, 0)) rfl ?_
    refine pm_go (g := (2, [(0, .int 0), (1, .int 0), (2, .int 4)], [.int 0, .int 0], g9_0 (pg xs) 0 b c d, 0, 0)) rfl ?_
    refine pm_brF (h := (5, [(0, .int 0), (1, .int 0), (2, .int 4)], [], g9_0 (pg xs) 0 b c d, 0, 0)) rfl ?_
    refine pm_go (g := (6, [(0, .int 0), (1, .int 0), (2, .int 4)], [.int 0], g9_0 (pg xs) 0 b c d, 0, 0)) rfl ?_
    refine pm_go (g := (7, [(0, .int 0), (1, .int 0), (2, .int 4)], [.int 4, .int 0], g9_0 (pg xs) 0 b c d, 0, 0)) rfl ?_
    refine pm_brF (h := (10, [(0, .int 0), (1, .int 0), (2, .int 4)], [], g9_0 (pg xs) 0 b c d, 0, 0)) rfl ?_
    refine pm_go (g := (11, [(0, .int 0), (1, .int 0), (2, .int 4)], [.int 1], g9_0 (pg xs) 0 b c d, 0, 0)) rfl ?_
    refine pm_go (g := (15, [(0, .int 0), (1, .int 0), (2, .int 4)], [.int 1], g9_0 (pg xs) 0 b c d, 0, 0)) rfl ?_
    refine pm_ret rfl ?_
    show pm_WP 163 (6, [(0, .ref 25), (1, .int 0), (2, .int (b)), (3, .int (c))], [.int 1], g9_0 (pg xs) 0 b c d, 0, 0) _
    refine pm_brT (g := (11, [(0, .ref 25), (1, .int 0), (2, .int (b)), (3, .int (c))], [], g9_0 (pg xs) 0 b c d, 0, 0)) rfl ?_
    refine pm_go (g := (12, [(0, .ref 25), (1, .int 0), (2, .int (b)), (3, .int (c))], [.int 0], g9_0 (pg xs) 0 b c d, 0, 0)) rfl ?_
    refine pm_go (g := (13, [(0, .ref 25), (1, .int 0), (2, .int (b)), (3, .int (c))], [.int 2, .int 0], g9_0 (pg xs) 0 b c d, 0, 0)) rfl ?_
    refine pm_brF (h := (16, [(0, .ref 25), (1, .int 0), (2, .int (b)), (3, .int (c))], [], g9_0 (pg xs) 0 b c d, 0, 0)) rfl ?_
    refine pm_go (g := (17, [(0, .ref 25), (1, .int 0), (2, .int (b)), (3, .int (c))], [.ref 25], g9_0 (pg xs) 0 b c d, 0, 0)) rfl ?_
    refine pm_go (g := (18, [(0, .ref 25), (1, .int 0), (2, .int (b)), (3, .int (c))], [.int (b), .ref 25], g9_0 (pg xs) 0 b c d, 0, 0)) rfl ?_
    refine pm_callD (z := 129) (as := [.ref 25, .int (b)]) (rest := []) rfl ?_
    show pm_WP 129 (0, [(0, .ref 25), (1, .int (b))], [], g9_0 (pg xs) 0 b c d, 0, 0) _
    refine pm_go (g := (1, [(0, .ref 25), (1, .int (b))], [.int (b)], g9_0 (pg xs) 0 b c d, 0, 0)) rfl ?_
    refine pm_go (g := (2, [(0, .ref 25), (1, .int (b))], [.int 0, .int (b)], g9_0 (pg xs) 0 b c d, 0, 0)) rfl ?_
    refine pm_go (g := (3, [(0, .ref 25), (1, .int (b))], [.ref 25, .int 0, .int (b)], g9_0 (pg xs) 0 b c d, 0, 0)) rfl ?_
    refine pm_go (g := (6, [(0, .ref 25), (1, .int (b))], [.int 2, .int 0, .int (b)], g9_0 (pg xs) 0 b c d, 0, 0)) rfl ?_
    refine pm_go (g := (7, [(0, .ref 25), (1, .int (b))], [.int 1, .int 2, .int 0, .int (b)], g9_0 (pg xs) 0 b c d, 0, 0)) rfl ?_
    refine pm_go (g := (8, [(0, .ref 25), (1, .int (b))], [.int 1, .int 0, .int (b)], g9_0 (pg xs) 0 b c d, 0, 0)) rfl ?_
    refine pm_callD (z := 128) (as := [.int (b), .int 0, .int 1]) (rest := []) rfl ?_
    show pm_WP 128 (0, [(0, .int (b)), (1, .int 0), (2, .int 1)], [], g9_0 (pg xs) 0 b c d, 0, 0) _
    refine pm_go (g := (1, [(0, .int (b)), (1, .int 0), (2, .int 1)], [.int (b)], g9_0 (pg xs) 0 b c d, 0, 0)) rfl ?_
    refine pm_go (g := (2, [(0, .int (b)), (1, .int 0), (2, .int 1)], [.int 0, .int (b)], g9_0 (pg xs) 0 b c d, 0, 0)) rfl ?_
    refine pm_ifF (h := (5, [(0, .int (b)), (1, .int 0), (2, .int 1)], [], g9_0 (pg xs) 0 b c d, 0, 0)) rfl (rF_lt (cx := b.toInt) (cy := 0) rfl (by decide) (by omega)) ?_
    refine pm_go (g := (6, [(0, .int (b)), (1, .int 0), (2, .int 1)], [.int (b)], g9_0 (pg xs) 0 b c d, 0, 0)) rfl ?_
    refine pm_go (g := (7, [(0, .int (b)), (1, .int 0), (2, .int 1)], [.int 1, .int (b)], g9_0 (pg xs) 0 b c d, 0, 0)) rfl ?_
    refine pm_ifF (h := (10, [(0, .int (b)), (1, .int 0), (2, .int 1)], [], g9_0 (pg xs) 0 b c d, 0, 0)) rfl (rF_gt (cx := b.toInt) (cy := 1) rfl (by decide) (by omega)) ?_
    refine pm_go (g := (11, [(0, .int (b)), (1, .int 0), (2, .int 1)], [.int 1], g9_0 (pg xs) 0 b c d, 0, 0)) rfl ?_
    refine pm_go (g := (15, [(0, .int (b)), (1, .int 0), (2, .int 1)], [.int 1], g9_0 (pg xs) 0 b c d, 0, 0)) rfl ?_
    refine pm_ret rfl ?_
    show pm_WP 129 (11, [(0, .ref 25), (1, .int (b))], [.int 1], g9_0 (pg xs) 0 b c d, 0, 0) _
    refine pm_ret rfl ?_
    show pm_WP 163 (21, [(0, .ref 25), (1, .int 0), (2, .int (b)), (3, .int (c))], [.int 1], g9_0 (pg xs) 0 b c d, 0, 0) _
    refine pm_go (g := (81, [(0, .ref 25), (1, .int 0), (2, .int (b)), (3, .int (c))], [.int 1], g9_0 (pg xs) 0 b c d, 0, 0)) rfl ?_
    refine pm_go (g := (83, [(4, .int 1), (0, .ref 25), (1, .int 0), (2, .int (b)), (3, .int (c))], [], g9_0 (pg xs) 0 b c d, 0, 0)) rfl ?_
    refine pm_go (g := (85, [(4, .int 1), (0, .ref 25), (1, .int 0), (2, .int (b)), (3, .int (c))], [.int 1], g9_0 (pg xs) 0 b c d, 0, 0)) rfl ?_
    refine pm_brF (h := (88, [(4, .int 1), (0, .ref 25), (1, .int 0), (2, .int (b)), (3, .int (c))], [], g9_0 (pg xs) 0 b c d, 0, 0)) rfl ?_
    refine pm_go (g := (89, [(4, .int 1), (0, .ref 25), (1, .int 0), (2, .int (b)), (3, .int (c))], [.int 0], g9_0 (pg xs) 0 b c d, 0, 0)) rfl ?_
    refine pm_go (g := (90, [(4, .int 1), (0, .ref 25), (1, .int 0), (2, .int (b)), (3, .int (c))], [.int 3, .int 0], g9_0 (pg xs) 0 b c d, 0, 0)) rfl ?_
    refine pm_brF (h := (93, [(4, .int 1), (0, .ref 25), (1, .int 0), (2, .int (b)), (3, .int (c))], [], g9_0 (pg xs) 0 b c d, 0, 0)) rfl ?_
    refine pm_go (g := (94, [(4, .int 1), (0, .ref 25), (1, .int 0), (2, .int (b)), (3, .int (c))], [.int (c)], g9_0 (pg xs) 0 b c d, 0, 0)) rfl ?_
    refine pm_go (g := (95, [(4, .int 1), (0, .ref 25), (1, .int 0), (2, .int (b)), (3, .int (c))], [.int 0, .int (c)], g9_0 (pg xs) 0 b c d, 0, 0)) rfl ?_
    refine pm_go (g := (96, [(4, .int 1), (0, .ref 25), (1, .int 0), (2, .int (b)), (3, .int (c))], [.int 5, .int 0, .int (c)], g9_0 (pg xs) 0 b c d, 0, 0)) rfl ?_
    refine pm_callD (z := 128) (as := [.int (c), .int 0, .int 5]) (rest := []) rfl ?_
    show pm_WP 128 (0, [(0, .int (c)), (1, .int 0), (2, .int 5)], [], g9_0 (pg xs) 0 b c d, 0, 0) _
    refine pm_go (g := (1, [(0, .int (c)), (1, .int 0), (2, .int 5)], [.int (c)], g9_0 (pg xs) 0 b c d, 0, 0)) rfl ?_
    refine pm_go (g := (2, [(0, .int (c)), (1, .int 0), (2, .int 5)], [.int 0, .int (c)], g9_0 (pg xs) 0 b c d, 0, 0)) rfl ?_
    refine pm_ifF (h := (5, [(0, .int (c)), (1, .int 0), (2, .int 5)], [], g9_0 (pg xs) 0 b c d, 0, 0)) rfl (rF_lt (cx := c.toInt) (cy := 0) rfl (by decide) (by omega)) ?_
    refine pm_go (g := (6, [(0, .int (c)), (1, .int 0), (2, .int 5)], [.int (c)], g9_0 (pg xs) 0 b c d, 0, 0)) rfl ?_
    refine pm_go (g := (7, [(0, .int (c)), (1, .int 0), (2, .int 5)], [.int 5, .int (c)], g9_0 (pg xs) 0 b c d, 0, 0)) rfl ?_
    refine pm_ifT (g := (14, [(0, .int (c)), (1, .int 0), (2, .int 5)], [], g9_0 (pg xs) 0 b c d, 0, 0)) rfl (rT_gt (cx := c.toInt) (cy := 5) rfl (by decide) (by omega)) ?_
    refine pm_go (g := (15, [(0, .int (c)), (1, .int 0), (2, .int 5)], [.int 0], g9_0 (pg xs) 0 b c d, 0, 0)) rfl ?_
    refine pm_ret rfl ?_
    show pm_WP 163 (99, [(4, .int 1), (0, .ref 25), (1, .int 0), (2, .int (b)), (3, .int (c))], [.int 0], g9_0 (pg xs) 0 b c d, 0, 0) _
    refine pm_brF (h := (102, [(4, .int 1), (0, .ref 25), (1, .int 0), (2, .int (b)), (3, .int (c))], [], g9_0 (pg xs) 0 b c d, 0, 0)) rfl ?_
    refine pm_go (g := (103, [(4, .int 1), (0, .ref 25), (1, .int 0), (2, .int (b)), (3, .int (c))], [.int (-1)], g9_0 (pg xs) 0 b c d, 0, 0)) rfl ?_
    refine pm_ret rfl ?_
    show pm_WP 0 (443, [(3, .int 0), (2, .ref 25), (1, .ref 1), (0, .ref 0)], [.int (-1), .int (-1)], g9_0 (pg xs) 0 b c d, 599950, 7298497) _
    refine pm_brT (g := (873, [(3, .int 0), (2, .ref 25), (1, .ref 1), (0, .ref 0)], [], g9_0 (pg xs) 0 b c d, 599950, 7298497)) rfl ?_
    refine pm_go (g := (876, [(3, .int 5), (2, .ref 25), (1, .ref 1), (0, .ref 0)], [], g9_0 (pg xs) 0 b c d, 599950, 7298497)) rfl ?_
    refine pm_go (g := (18, [(3, .int 5), (2, .ref 25), (1, .ref 1), (0, .ref 0)], [], g9_0 (pg xs) 0 b c d, 599950, 7298497)) rfl ?_
    refine pm_go (g := (19, [(3, .int 5), (2, .ref 25), (1, .ref 1), (0, .ref 0)], [.int 5], g9_0 (pg xs) 0 b c d, 599950, 7298497)) rfl ?_
    refine pm_go (g := (20, [(3, .int 5), (2, .ref 25), (1, .ref 1), (0, .ref 0)], [.ref 0, .int 5], g9_0 (pg xs) 0 b c d, 599950, 7298497)) rfl ?_
    refine pm_go (g := (21, [(3, .int 5), (2, .ref 25), (1, .ref 1), (0, .ref 0)], [.int 5, .int 5], g9_0 (pg xs) 0 b c d, 599950, 7298497)) rfl ?_
    refine pm_go (g := (22, [(3, .int 5), (2, .ref 25), (1, .ref 1), (0, .ref 0)], [.int 5, .int 5, .int 5], g9_0 (pg xs) 0 b c d, 599950, 7298497)) rfl ?_
    refine pm_go (g := (23, [(3, .int 5), (2, .ref 25), (1, .ref 1), (0, .ref 0)], [.int 0, .int 5], g9_0 (pg xs) 0 b c d, 599950, 7298497)) rfl ?_
    refine pm_brT (g := (879, [(3, .int 5), (2, .ref 25), (1, .ref 1), (0, .ref 0)], [], g9_0 (pg xs) 0 b c d, 599950, 7298497)) rfl ?_
    refine pm_go (g := (880, [(3, .int 5), (2, .ref 25), (1, .ref 1), (0, .ref 0)], [.int 1], g9_0 (pg xs) 0 b c d, 599950, 7298497)) rfl ?_
    exact pm_ret rfl rfl
  ·
    obtain rfl : a = 1 := xI (c := 1) (by decide) (by omega)
    show pm_WP 111 (1, [(0, .ref 1), (1, .int 1), (2, .int (b))], [.int 1], g9_0 (pg xs) 1 b c d, 0, 0) _
    refine pm_go (g := (36, [(0, .ref 1), (1, .int 1), (2, .int (b))], [], g9_0 (pg xs) 1 b c d, 0, 0)) rfl ?_
    refine pm_go (g := (37, [(0, .ref 1), (1, .int 1), (2, .int (b))], [.ref 1], g9_0 (pg xs) 1 b c d, 0, 0)) rfl ?_
    refine pm_go (g := (40, [(0, .ref 1), (1, .int 1), (2, .int (b))], [.ref 2], g9_0 (pg xs) 1 b c d, 0, 0)) rfl ?_
    refine pm_go (g := (41, [(0, .ref 1), (1, .int 1), (2, .int (b))], [.int (b), .ref 2], g9_0 (pg xs) 1 b c d, 0, 0)) rfl ?_
    refine pm_callD (z := 81) (as := [.ref 2, .int (b)]) (rest := []) rfl ?_
    show pm_WP 81 (0, [(0, .ref 2), (1, .int (b))], [], g9_0 (pg xs) 1 b c d, 0, 0) _
    refine pm_go (g := (1, [(0, .ref 2), (1, .int (b))], [.int (b)], g9_0 (pg xs) 1 b c d, 0, 0)) rfl ?_
    refine pm_if2 (g := (16, [(0, .ref 2), (1, .int (b))], [], g9_0 (pg xs) 1 b c d, 0, 0)) (h := (4, [(0, .ref 2), (1, .int (b))], [], g9_0 (pg xs) 1 b c d, 0, 0)) rfl (fun q6 => ?_) (fun q6 => ?_)
    ·
      have q6 := qT_lt (cx := b.toInt) (cy := 0) rfl (by decide) q6
      refine pm_go (g := (17, [(0, .ref 2), (1, .int (b))], [.int 0], g9_0 (pg xs) 1 b c d, 0, 0)) rfl ?_
      refine pm_ret rfl ?_
      show pm_WP 111 (44, [(0, .ref 1), (1, .int 1), (2, .int (b))], [.int 0], g9_0 (pg xs) 1 b c d, 0, 0) _
      refine pm_ret rfl ?_
      show pm_WP 104 (6, [(0, .ref 1), (1, .int 1), (2, .int (b)), (3, .int (c))], [.int 0], g9_0 (pg xs) 1 b c d, 1, 3) _
      refine pm_brT (g := (24, [(0, .ref 1), (1, .int 1), (2, .int (b)), (3, .int (c))], [], g9_0 (pg xs) 1 b c d, 1, 3)) rfl ?_
      refine pm_go (g := (25, [(0, .ref 1), (1, .int 1), (2, .int (b)), (3, .int (c))], [.int (-1)], g9_0 (pg xs) 1 b c d, 1, 3)) rfl ?_
      refine pm_ret rfl ?_
      show pm_WP 0 (424, [(3, .int 0), (2, .ref 25), (1, .ref 1), (0, .ref 0)], [.int (-1)], g9_0 (pg xs) 1 b c d, 599950, 7298497) _
      refine pm_go (g := (425, [(3, .int 0), (2, .ref 25), (1, .ref 1), (0, .ref 0)], [.ref 25, .int (-1)], g9_0 (pg xs) 1 b c d, 599950, 7298497)) rfl ?_
      refine pm_go (g := (426, [(3, .int 0), (2, .ref 25), (1, .ref 1), (0, .ref 0)], [.ref 0, .ref 25, .int (-1)], g9_0 (pg xs) 1 b c d, 599950, 7298497)) rfl ?_
      refine pm_go (g := (427, [(3, .int 0), (2, .ref 25), (1, .ref 1), (0, .ref 0)], [.int 0, .ref 0, .ref 25, .int (-1)], g9_0 (pg xs) 1 b c d, 599950, 7298497)) rfl ?_
      refine pm_go (g := (428, [(3, .int 0), (2, .ref 25), (1, .ref 1), (0, .ref 0)], [.int 1, .int 0, .ref 0, .ref 25, .int (-1)], g9_0 (pg xs) 1 b c d, 599950, 7298497)) rfl ?_
      refine pm_go (g := (429, [(3, .int 0), (2, .ref 25), (1, .ref 1), (0, .ref 0)], [.int 1, .ref 0, .ref 25, .int (-1)], g9_0 (pg xs) 1 b c d, 599950, 7298497)) rfl ?_
      refine pm_go (g := (430, [(3, .int 0), (2, .ref 25), (1, .ref 1), (0, .ref 0)], [.int (xs 1), .ref 25, .int (-1)], g9_0 (pg xs) 1 b c d, 599950, 7298497)) rfl ?_
      rw [← ea]
      refine pm_go (g := (431, [(3, .int 0), (2, .ref 25), (1, .ref 1), (0, .ref 0)], [.ref 0, .int 1, .ref 25, .int (-1)], g9_0 (pg xs) 1 b c d, 599950, 7298497)) rfl ?_
      refine pm_go (g := (432, [(3, .int 0), (2, .ref 25), (1, .ref 1), (0, .ref 0)], [.int 0, .ref 0, .int 1, .ref 25, .int (-1)], g9_0 (pg xs) 1 b c d, 599950, 7298497)) rfl ?_
      refine pm_go (g := (433, [(3, .int 0), (2, .ref 25), (1, .ref 1), (0, .ref 0)], [.int 2, .int 0, .ref 0, .int 1, .ref 25, .int (-1)], g9_0 (pg xs) 1 b c d, 599950, 7298497)) rfl ?_
      refine pm_go (g := (434, [(3, .int 0), (2, .ref 25), (1, .ref 1), (0, .ref 0)], [.int 2, .ref 0, .int 1, .ref 25, .int (-1)], g9_0 (pg xs) 1 b c d, 599950, 7298497)) rfl ?_
      refine pm_go (g := (435, [(3, .int 0), (2, .ref 25), (1, .ref 1), (0, .ref 0)], [.int (xs 2), .int 1, .ref 25, .int (-1)], g9_0 (pg xs) 1 b c d, 599950, 7298497)) rfl ?_
      rw [← eb]
      refine pm_go (g := (436, [(3, .int 0), (2, .ref 25), (1, .ref 1), (0, .ref 0)], [.ref 0, .int (b), .int 1, .ref 25, .int (-1)], g9_0 (pg xs) 1 b c d, 599950, 7298497)) rfl ?_
      refine pm_go (g := (437, [(3, .int 0), (2, .ref 25), (1, .ref 1), (0, .ref 0)], [.int 0, .ref 0, .int (b), .int 1, .ref 25, .int (-1)], g9_0 (pg xs) 1 b c d, 599950, 7298497)) rfl ?_
      refine pm_go (g := (438, [(3, .int 0), (2, .ref 25), (1, .ref 1), (0, .ref 0)], [.int 3, .int 0, .ref 0, .int (b), .int 1, .ref 25, .int (-1)], g9_0 (pg xs) 1 b c d, 599950, 7298497)) rfl ?_
      refine pm_go (g := (439, [(3, .int 0), (2, .ref 25), (1, .ref 1), (0, .ref 0)], [.int 3, .ref 0, .int (b), .int 1, .ref 25, .int (-1)], g9_0 (pg xs) 1 b c d, 599950, 7298497)) rfl ?_
      refine pm_go (g := (440, [(3, .int 0), (2, .ref 25), (1, .ref 1), (0, .ref 0)], [.int (xs 3), .int (b), .int 1, .ref 25, .int (-1)], g9_0 (pg xs) 1 b c d, 599950, 7298497)) rfl ?_
      rw [← ec]
      refine pm_callD (z := 163) (as := [.ref 25, .int 1, .int (b), .int (c)]) (rest := [.int (-1)]) rfl ?_
      show pm_WP 163 (0, [(0, .ref 25), (1, .int 1), (2, .int (b)), (3, .int (c))], [], g9_0 (pg xs) 1 b c d, 0, 0) _
      refine pm_go (g := (1, [(0, .ref 25), (1, .int 1), (2, .int (b)), (3, .int (c))], [.int 1], g9_0 (pg xs) 1 b c d, 0, 0)) rfl ?_
      refine pm_go (g := (2, [(0, .ref 25), (1, .int 1), (2, .int (b)), (3, .int (c))], [.int 0, .int 1], g9_0 (pg xs) 1 b c d, 0, 0)) rfl ?_
      refine pm_go (g := (3, [(0, .ref 25), (1, .int 1), (2, .int (b)), (3, .int (c))], [.int 4, .int 0, .int 1], g9_0 (pg xs) 1 b c d, 0, 0)) rfl ?_
      refine pm_callD (z := 128) (as := [.int 1, .int 0, .int 4]) (rest := []) rfl ?_
      show pm_WP 128 (0, [(0, .int 1), (1, .int 0), (2, .int 4)], [], g9_0 (pg xs) 1 b c d, 0, 0) _
      refine pm_go (g := (1, [(0, .int 1), (1, .int 0), (2, .int 4)], [.int 1], g9_0 (pg xs) 1 b c d, 0, 0)) rfl ?_
      refine pm_go (g := (2, [(0, .int 1), (1, .int 0), (2, .int 4)], [.int 0, .int 1], g9_0 (pg xs) 1 b c d, 0, 0)) rfl ?_
      refine pm_brF (h := (5, [(0, .int 1), (1, .int 0), (2, .int 4)], [], g9_0 (pg xs) 1 b c d, 0, 0)) rfl ?_
      refine pm_go (g := (6, [(0, .int 1), (1, .int 0), (2, .int 4)], [.int 1], g9_0 (pg xs) 1 b c d, 0, 0)) rfl ?_
      refine pm_go (g := (7, [(0, .int 1), (1, .int 0), (2, .int 4)], [.int 4, .int 1], g9_0 (pg xs) 1 b c d, 0, 0)) rfl ?_
      refine pm_brF (h := (10, [(0, .int 1), (1, .int 0), (2, .int 4)], [], g9_0 (pg xs) 1 b c d, 0, 0)) rfl ?_
      refine pm_go (g := (11, [(0, .int 1), (1, .int 0), (2, .int 4)], [.int 1], g9_0 (pg xs) 1 b c d, 0, 0)) rfl ?_
      refine pm_go (g := (15, [(0, .int 1), (1, .int 0), (2, .int 4)], [.int 1], g9_0 (pg xs) 1 b c d, 0, 0)) rfl ?_
      refine pm_ret rfl ?_
      show pm_WP 163 (6, [(0, .ref 25), (1, .int 1), (2, .int (b)), (3, .int (c))], [.int 1], g9_0 (pg xs) 1 b c d, 0, 0) _
      refine pm_brT (g := (11, [(0, .ref 25), (1, .int 1), (2, .int (b)), (3, .int (c))], [], g9_0 (pg xs) 1 b c d, 0, 0)) rfl ?_
      refine pm_go (g := (12, [(0, .ref 25), (1, .int 1), (2, .int (b)), (3, .int (c))], [.int 1], g9_0 (pg xs) 1 b c d, 0, 0)) rfl ?_
      refine pm_go (g := (13, [(0, .ref 25), (1, .int 1), (2, .int (b)), (3, .int (c))], [.int 2, .int 1], g9_0 (pg xs) 1 b c d, 0, 0)) rfl ?_
      refine pm_brF (h := (16, [(0, .ref 25), (1, .int 1), (2, .int (b)), (3, .int (c))], [], g9_0 (pg xs) 1 b c d, 0, 0)) rfl ?_
      refine pm_go (g := (17, [(0, .ref 25), (1, .int 1), (2, .int (b)), (3, .int (c))], [.ref 25], g9_0 (pg xs) 1 b c d, 0, 0)) rfl ?_
      refine pm_go (g := (18, [(0, .ref 25), (1, .int 1), (2, .int (b)), (3, .int (c))], [.int (b), .ref 25], g9_0 (pg xs) 1 b c d, 0, 0)) rfl ?_
      refine pm_callD (z := 129) (as := [.ref 25, .int (b)]) (rest := []) rfl ?_
      show pm_WP 129 (0, [(0, .ref 25), (1, .int (b))], [], g9_0 (pg xs) 1 b c d, 0, 0) _
      refine pm_go (g := (1, [(0, .ref 25), (1, .int (b))], [.int (b)], g9_0 (pg xs) 1 b c d, 0, 0)) rfl ?_
      refine pm_go (g := (2, [(0, .ref 25), (1, .int (b))], [.int 0, .int (b)], g9_0 (pg xs) 1 b c d, 0, 0)) rfl ?_
      refine pm_go (g := (3, [(0, .ref 25), (1, .int (b))], [.ref 25, .int 0, .int (b)], g9_0 (pg xs) 1 b c d, 0, 0)) rfl ?_
      refine pm_go (g := (6, [(0, .ref 25), (1, .int (b))], [.int 2, .int 0, .int (b)], g9_0 (pg xs) 1 b c d, 0, 0)) rfl ?_
      refine pm_go (g := (7, [(0, .ref 25), (1, .int (b))], [.int 1, .int 2, .int 0, .int (b)], g9_0 (pg xs) 1 b c d, 0, 0)) rfl ?_
      refine pm_go (g := (8, [(0, .ref 25), (1, .int (b))], [.int 1, .int 0, .int (b)], g9_0 (pg xs) 1 b c d, 0, 0)) rfl ?_
      refine pm_callD (z := 128) (as := [.int (b), .int 0, .int 1]) (rest := []) rfl ?_
      show pm_WP 128 (0, [(0, .int (b)), (1, .int 0), (2, .int 1)], [], g9_0 (pg xs) 1 b c d, 0, 0) _
      refine pm_go (g := (1, [(0, .int (b)), (1, .int 0), (2, .int 1)], [.int (b)], g9_0 (pg xs) 1 b c d, 0, 0)) rfl ?_
      refine pm_go (g := (2, [(0, .int (b)), (1, .int 0), (2, .int 1)], [.int 0, .int (b)], g9_0 (pg xs) 1 b c d, 0, 0)) rfl ?_
      refine pm_ifT (g := (14, [(0, .int (b)), (1, .int 0), (2, .int 1)], [], g9_0 (pg xs) 1 b c d, 0, 0)) rfl (rT_lt (cx := b.toInt) (cy := 0) rfl (by decide) (by omega)) ?_
      refine pm_go (g := (15, [(0, .int (b)), (1, .int 0), (2, .int 1)], [.int 0], g9_0 (pg xs) 1 b c d, 0, 0)) rfl ?_
      refine pm_ret rfl ?_
      show pm_WP 129 (11, [(0, .ref 25), (1, .int (b))], [.int 0], g9_0 (pg xs) 1 b c d, 0, 0) _
      refine pm_ret rfl ?_
      show pm_WP 163 (21, [(0, .ref 25), (1, .int 1), (2, .int (b)), (3, .int (c))], [.int 0], g9_0 (pg xs) 1 b c d, 0, 0) _
      refine pm_go (g := (81, [(0, .ref 25), (1, .int 1), (2, .int (b)), (3, .int (c))], [.int 0], g9_0 (pg xs) 1 b c d, 0, 0)) rfl ?_
      refine pm_go (g := (83, [(4, .int 0), (0, .ref 25), (1, .int 1), (2, .int (b)), (3, .int (c))], [], g9_0 (pg xs) 1 b c d, 0, 0)) rfl ?_
      refine pm_go (g := (85, [(4, .int 0), (0, .ref 25), (1, .int 1), (2, .int (b)), (3, .int (c))], [.int 0], g9_0 (pg xs) 1 b c d, 0, 0)) rfl ?_
      refine pm_brT (g := (102, [(4, .int 0), (0, .ref 25), (1, .int 1), (2, .int (b)), (3, .int (c))], [], g9_0 (pg xs) 1 b c d, 0, 0)) rfl ?_
      refine pm_go (g := (103, [(4, .int 0), (0, .ref 25), (1, .int 1), (2, .int (b)), (3, .int (c))], [.int (-1)], g9_0 (pg xs) 1 b c d, 0, 0)) rfl ?_
      refine pm_ret rfl ?_
      show pm_WP 0 (443, [(3, .int 0), (2, .ref 25), (1, .ref 1), (0, .ref 0)], [.int (-1), .int (-1)], g9_0 (pg xs) 1 b c d, 599950, 7298497) _
      refine pm_brT (g := (873, [(3, .int 0), (2, .ref 25), (1, .ref 1), (0, .ref 0)], [], g9_0 (pg xs) 1 b c d, 599950, 7298497)) rfl ?_
      refine pm_go (g := (876, [(3, .int 5), (2, .ref 25), (1, .ref 1), (0, .ref 0)], [], g9_0 (pg xs) 1 b c d, 599950, 7298497)) rfl ?_
      refine pm_go (g := (18, [(3, .int 5), (2, .ref 25), (1, .ref 1), (0, .ref 0)], [], g9_0 (pg xs) 1 b c d, 599950, 7298497)) rfl ?_
      refine pm_go (g := (19, [(3, .int 5), (2, .ref 25), (1, .ref 1), (0, .ref 0)], [.int 5], g9_0 (pg xs) 1 b c d, 599950, 7298497)) rfl ?_
      refine pm_go (g := (20, [(3, .int 5), (2, .ref 25), (1, .ref 1), (0, .ref 0)], [.ref 0, .int 5], g9_0 (pg xs) 1 b c d, 599950, 7298497)) rfl ?_
      refine pm_go (g := (21, [(3, .int 5), (2, .ref 25), (1, .ref 1), (0, .ref 0)], [.int 5, .int 5], g9_0 (pg xs) 1 b c d, 599950, 7298497)) rfl ?_
      refine pm_go (g := (22, [(3, .int 5), (2, .ref 25), (1, .ref 1), (0, .ref 0)], [.int 5, .int 5, .int 5], g9_0 (pg xs) 1 b c d, 599950, 7298497)) rfl ?_
      refine pm_go (g := (23, [(3, .int 5), (2, .ref 25), (1, .ref 1), (0, .ref 0)], [.int 0, .int 5], g9_0 (pg xs) 1 b c d, 599950, 7298497)) rfl ?_
      refine pm_brT (g := (879, [(3, .int 5), (2, .ref 25), (1, .ref 1), (0, .ref 0)], [], g9_0 (pg xs) 1 b c d, 599950, 7298497)) rfl ?_
      refine pm_go (g := (880, [(3, .int 5), (2, .ref 25), (1, .ref 1), (0, .ref 0)], [.int 1], g9_0 (pg xs) 1 b c d, 599950, 7298497)) rfl ?_
      exact pm_ret rfl rfl
    have q6 := qF_lt (cx := b.toInt) (cy := 0) rfl (by decide) q6
    refine pm_go (g := (5, [(0, .ref 2), (1, .int (b))], [.int (b)], g9_0 (pg xs) 1 b c d, 0, 0)) rfl ?_
    refine pm_go (g := (6, [(0, .ref 2), (1, .int (b))], [.ref 2, .int (b)], g9_0 (pg xs) 1 b c d, 0, 0)) rfl ?_
    refine pm_go (g := (9, [(0, .ref 2), (1, .int (b))], [.int 2, .int (b)], g9_0 (pg xs) 1 b c d, 0, 0)) rfl ?_
    refine pm_if2 (g := (16, [(0, .ref 2), (1, .int (b))], [], g9_0 (pg xs) 1 b c d, 0, 0)) (h := (12, [(0, .ref 2), (1, .int (b))], [], g9_0 (pg xs) 1 b c d, 0, 0)) rfl (fun q7 => ?_) (fun q7 => ?_)
    ·
      have q7 := qT_ge (cx := b.toInt) (cy := 2) rfl (by decide) q7
      refine pm_go (g := (17, [(0, .ref 2), (1, .int (b))], [.int 0], g9_0 (pg xs) 1 b c d, 0, 0)) rfl ?_
      refine pm_ret rfl ?_
      show pm_WP 111 (44, [(0, .ref 1), (1, .int 1), (2, .int (b))], [.int 0], g9_0 (pg xs) 1 b c d, 0, 0) _
      refine pm_ret rfl ?_
      show pm_WP 104 (6, [(0, .ref 1), (1, .int 1), (2, .int (b)), (3, .int (c))], [.int 0], g9_0 (pg xs) 1 b c d, 1, 3) _
      refine pm_brT (g := (24, [(0, .ref 1), (1, .int 1), (2, .int (b)), (3, .int (c))], [], g9_0 (pg xs) 1 b c d, 1, 3)) rfl ?_
      refine pm_go (g := (25, [(0, .ref 1), (1, .int 1), (2, .int (b)), (3, .int (c))], [.int (-1)], g9_0 (pg xs) 1 b c d, 1, 3)) rfl ?_
      refine pm_ret rfl ?_
      show pm_WP 0 (424, [(3, .int 0), (2, .ref 25), (1, .ref 1), (0, .ref 0)], [.int (-1)], g9_0 (pg xs) 1 b c d, 599950, 7298497) _
      refine pm_go (g := (425, [(3, .int 0), (2, .ref 25), (1, .ref 1), (0, .ref 0)], [.ref 25, .int (-1)], g9_0 (pg xs) 1 b c d, 599950, 7298497)) rfl ?_
      refine pm_go (g := (426, [(3, .int 0), (2, .ref 25), (1, .ref 1), (0, .ref 0)], [.ref 0, .ref 25, .int (-1)], g9_0 (pg xs) 1 b c d, 599950, 7298497)) rfl ?_
      refine pm_go (g := (427, [(3, .int 0), (2, .ref 25), (1, .ref 1), (0, .ref 0)], [.int 0, .ref 0, .ref 25, .int (-1)], g9_0 (pg xs) 1 b c d, 599950, 7298497)) rfl ?_
      refine pm_go (g := (428, [(3, .int 0), (2, .ref 25), (1, .ref 1), (0, .ref 0)], [.int 1, .int 0, .ref 0, .ref 25, .int (-1)], g9_0 (pg xs) 1 b c d, 599950, 7298497)) rfl ?_
      refine pm_go (g := (429, [(3, .int 0), (2, .ref 25), (1, .ref 1), (0, .ref 0)], [.int 1, .ref 0, .ref 25, .int (-1)], g9_0 (pg xs) 1 b c d, 599950, 7298497)) rfl ?_
      refine pm_go (g := (430, [(3, .int 0), (2, .ref 25), (1, .ref 1), (0, .ref 0)], [.int (xs 1), .ref 25, .int (-1)], g9_0 (pg xs) 1 b c d, 599950, 7298497)) rfl ?_
      rw [← ea]
      refine pm_go (g := (431, [(3, .int 0), (2, .ref 25), (1, .ref 1), (0, .ref 0)], [.ref 0, .int 1, .ref 25, .int (-1)], g9_0 (pg xs) 1 b c d, 599950, 7298497)) rfl ?_
      refine pm_go (g := (432, [(3, .int 0), (2, .ref 25), (1, .ref 1), (0, .ref 0)], [.int 0, .ref 0, .int 1, .ref 25, .int (-1)], g9_0 (pg xs) 1 b c d, 599950, 7298497)) rfl ?_
      refine pm_go (g := (433, [(3, .int 0), (2, .ref 25), (1, .ref 1), (0, .ref 0)], [.int 2, .int 0, .ref 0, .int 1, .ref 25, .int (-1)], g9_0 (pg xs) 1 b c d, 599950, 7298497)) rfl ?_
      refine pm_go (g := (434, [(3, .int 0), (2, .ref 25), (1, .ref 1), (0, .ref 0)], [.int 2, .ref 0, .int 1, .ref 25, .int (-1)], g9_0 (pg xs) 1 b c d, 599950, 7298497)) rfl ?_
      refine pm_go (g := (435, [(3, .int 0), (2, .ref 25), (1, .ref 1), (0, .ref 0)], [.int (xs 2), .int 1, .ref 25, .int (-1)], g9_0 (pg xs) 1 b c d, 599950, 7298497)) rfl ?_
      rw [← eb]
      refine pm_go (g := (436, [(3, .int 0), (2, .ref 25), (1, .ref 1), (0, .ref 0)], [.ref 0, .int (b), .int 1, .ref 25, .int (-1)], g9_0 (pg xs) 1 b c d, 599950, 7298497)) rfl ?_
      refine pm_go (g := (437, [(3, .int 0), (2, .ref 25), (1, .ref 1), (0, .ref 0)], [.int 0, .ref 0, .int (b), .int 1, .ref 25, .int (-1)], g9_0 (pg xs) 1 b c d, 599950, 7298497)) rfl ?_
      refine pm_go (g := (438, [(3, .int 0), (2, .ref 25), (1, .ref 1), (0, .ref 0)], [.int 3, .int 0, .ref 0, .int (b), .int 1, .ref 25, .int (-1)], g9_0 (pg xs) 1 b c d, 599950, 7298497)) rfl ?_
      refine pm_go (g := (439, [(3, .int 0), (2, .ref 25), (1, .ref 1), (0, .ref 0)], [.int 3, .ref 0, .int (b), .int 1, .ref 25, .int (-1)], g9_0 (pg xs) 1 b c d, 599950, 7298497)) rfl ?_
      refine pm_go (g := (440, [(3, .int 0), (2, .ref 25), (1, .ref 1), (0, .ref 0)], [.int (xs 3), .int (b), .int 1, .ref 25, .int (-1)], g9_0 (pg xs) 1 b c d, 599950, 7298497)) rfl ?_
      rw [← ec]
      refine pm_callD (z := 163) (as := [.ref 25, .int 1, .int (b), .int (c)]) (rest := [.int (-1)]) rfl ?_
      show pm_WP 163 (0, [(0, .ref 25), (1, .int 1), (2, .int (b)), (3, .int (c))], [], g9_0 (pg xs) 1 b c d, 0, 0) _
      refine pm_go (g := (1, [(0, .ref 25), (1, .int 1), (2, .int (b)), (3, .int (c))], [.int 1], g9_0 (pg xs) 1 b c d, 0, 0)) rfl ?_
      refine pm_go (g := (2, [(0, .ref 25), (1, .int 1), (2, .int (b)), (3, .int (c))], [.int 0, .int 1], g9_0 (pg xs) 1 b c d, 0, 0)) rfl ?_
      refine pm_go (g := (3, [(0, .ref 25), (1, .int 1), (2, .int (b)), (3, .int (c))], [.int 4, .int 0, .int 1], g9_0 (pg xs) 1 b c d, 0, 0)) rfl ?_
      refine pm_callD (z := 128) (as := [.int 1, .int 0, .int 4]) (rest := []) rfl ?_
      show pm_WP 128 (0, [(0, .int 1), (1, .int 0), (2, .int 4)], [], g9_0 (pg xs) 1 b c d, 0, 0) _
      refine pm_go (g := (1, [(0, .int 1), (1, .int 0), (2, .int 4)], [.int 1], g9_0 (pg xs) 1 b c d, 0, 0)) rfl ?_
      refine pm_go (g := (2, [(0, .int 1), (1, .int 0), (2, .int 4)], [.int 0, .int 1], g9_0 (pg xs) 1 b c d, 0, 0)) rfl ?_
      refine pm_brF (h := (5, [(0, .int 1), (1, .int 0), (2, .int 4)], [], g9_0 (pg xs) 1 b c d, 0, 0)) rfl ?_
      refine pm_go (g := (6, [(0, .int 1), (1, .int 0), (2, .int 4)], [.int 1], g9_0 (pg xs) 1 b c d, 0, 0)) rfl ?_
      refine pm_go (g := (7, [(0, .int 1), (1, .int 0), (2, .int 4)], [.int 4, .int 1], g9_0 (pg xs) 1 b c d, 0, 0)) rfl ?_
      refine pm_brF (h := (10, [(0, .int 1), (1, .int 0), (2, .int 4)], [], g9_0 (pg xs) 1 b c d, 0, 0)) rfl ?_
      refine pm_go (g := (11, [(0, .int 1), (1, .int 0), (2, .int 4)], [.int 1], g9_0 (pg xs) 1 b c d, 0, 0)) rfl ?_
      refine pm_go (g := (15, [(0, .int 1), (1, .int 0), (2, .int 4)], [.int 1], g9_0 (pg xs) 1 b c d, 0, 0)) rfl ?_
      refine pm_ret rfl ?_
      show pm_WP 163 (6, [(0, .ref 25), (1, .int 1), (2, .int (b)), (3, .int (c))], [.int 1], g9_0 (pg xs) 1 b c d, 0, 0) _
      refine pm_brT (g := (11, [(0, .ref 25), (1, .int 1), (2, .int (b)), (3, .int (c))], [], g9_0 (pg xs) 1 b c d, 0, 0)) rfl ?_
      refine pm_go (g := (12, [(0, .ref 25), (1, .int 1), (2, .int (b)), (3, .int (c))], [.int 1], g9_0 (pg xs) 1 b c d, 0, 0)) rfl ?_
      refine pm_go (g := (13, [(0, .ref 25), (1, .int 1), (2, .int (b)), (3, .int (c))], [.int 2, .int 1], g9_0 (pg xs) 1 b c d, 0, 0)) rfl ?_
      refine pm_brF (h := (16, [(0, .ref 25), (1, .int 1), (2, .int (b)), (3, .int (c))], [], g9_0 (pg xs) 1 b c d, 0, 0)) rfl ?_
      refine pm_go (g := (17, [(0, .ref 25), (1, .int 1), (2, .int (b)), (3, .int (c))], [.ref 25], g9_0 (pg xs) 1 b c d, 0, 0)) rfl ?_
      refine pm_go (g := (18, [(0, .ref 25), (1, .int 1), (2, .int (b)), (3, .int (c))], [.int (b), .ref 25], g9_0 (pg xs) 1 b c d, 0, 0)) rfl ?_
      refine pm_callD (z := 129) (as := [.ref 25, .int (b)]) (rest := []) rfl ?_
      show pm_WP 129 (0, [(0, .ref 25), (1, .int (b))], [], g9_0 (pg xs) 1 b c d, 0, 0) _
      refine pm_go (g := (1, [(0, .ref 25), (1, .int (b))], [.int (b)], g9_0 (pg xs) 1 b c d, 0, 0)) rfl ?_
      refine pm_go (g := (2, [(0, .ref 25), (1, .int (b))], [.int 0, .int (b)], g9_0 (pg xs) 1 b c d, 0, 0)) rfl ?_
      refine pm_go (g := (3, [(0, .ref 25), (1, .int (b))], [.ref 25, .int 0, .int (b)], g9_0 (pg xs) 1 b c d, 0, 0)) rfl ?_
      refine pm_go (g := (6, [(0, .ref 25), (1, .int (b))], [.int 2, .int 0, .int (b)], g9_0 (pg xs) 1 b c d, 0, 0)) rfl ?_
      refine pm_go (g := (7, [(0, .ref 25), (1, .int (b))], [.int 1, .int 2, .int 0, .int (b)], g9_0 (pg xs) 1 b c d, 0, 0)) rfl ?_
      refine pm_go (g := (8, [(0, .ref 25), (1, .int (b))], [.int 1, .int 0, .int (b)], g9_0 (pg xs) 1 b c d, 0, 0)) rfl ?_
      refine pm_callD (z := 128) (as := [.int (b), .int 0, .int 1]) (rest := []) rfl ?_
      show pm_WP 128 (0, [(0, .int (b)), (1, .int 0), (2, .int 1)], [], g9_0 (pg xs) 1 b c d, 0, 0) _
      refine pm_go (g := (1, [(0, .int (b)), (1, .int 0), (2, .int 1)], [.int (b)], g9_0 (pg xs) 1 b c d, 0, 0)) rfl ?_
      refine pm_go (g := (2, [(0, .int (b)), (1, .int 0), (2, .int 1)], [.int 0, .int (b)], g9_0 (pg xs) 1 b c d, 0, 0)) rfl ?_
      refine pm_ifF (h := (5, [(0, .int (b)), (1, .int 0), (2, .int 1)], [], g9_0 (pg xs) 1 b c d, 0, 0)) rfl (rF_lt (cx := b.toInt) (cy := 0) rfl (by decide) (by omega)) ?_
      refine pm_go (g := (6, [(0, .int (b)), (1, .int 0), (2, .int 1)], [.int (b)], g9_0 (pg xs) 1 b c d, 0, 0)) rfl ?_
      refine pm_go (g := (7, [(0, .int (b)), (1, .int 0), (2, .int 1)], [.int 1, .int (b)], g9_0 (pg xs) 1 b c d, 0, 0)) rfl ?_
      refine pm_ifT (g := (14, [(0, .int (b)), (1, .int 0), (2, .int 1)], [], g9_0 (pg xs) 1 b c d, 0, 0)) rfl (rT_gt (cx := b.toInt) (cy := 1) rfl (by decide) (by omega)) ?_
      refine pm_go (g := (15, [(0, .int (b)), (1, .int 0), (2, .int 1)], [.int 0], g9_0 (pg xs) 1 b c d, 0, 0)) rfl ?_
      refine pm_ret rfl ?_
      show pm_WP 129 (11, [(0, .ref 25), (1, .int (b))], [.int 0], g9_0 (pg xs) 1 b c d, 0, 0) _
      refine pm_ret rfl ?_
      show pm_WP 163 (21, [(0, .ref 25), (1, .int 1), (2, .int (b)), (3, .int (c))], [.int 0], g9_0 (pg xs) 1 b c d, 0, 0) _
      refine pm_go (g := (81, [(0, .ref 25), (1, .int 1), (2, .int (b)), (3, .int (c))], [.int 0], g9_0 (pg xs) 1 b c d, 0, 0)) rfl ?_
      refine pm_go (g := (83, [(4, .int 0), (0, .ref 25), (1, .int 1), (2, .int (b)), (3, .int (c))], [], g9_0 (pg xs) 1 b c d, 0, 0)) rfl ?_
      refine pm_go (g := (85, [(4, .int 0), (0, .ref 25), (1, .int 1), (2, .int (b)), (3, .int (c))], [.int 0], g9_0 (pg xs) 1 b c d, 0, 0)) rfl ?_
      refine pm_brT (g := (102, [(4, .int 0), (0, .ref 25), (1, .int 1), (2, .int (b)), (3, .int (c))], [], g9_0 (pg xs) 1 b c d, 0, 0)) rfl ?_
      refine pm_go (g := (103, [(4, .int 0), (0, .ref 25), (1, .int 1), (2, .int (b)), (3, .int (c))], [.int (-1)], g9_0 (pg xs) 1 b c d, 0, 0)) rfl ?_
      refine pm_ret rfl ?_
      show pm_WP 0 (443, [(3, .int 0), (2, .ref 25), (1, .ref 1), (0, .ref 0)], [.int (-1), .int (-1)], g9_0 (pg xs) 1 b c d, 599950, 7298497) _
      refine pm_brT (g := (873, [(3, .int 0), (2, .ref 25), (1, .ref 1), (0, .ref 0)], [], g9_0 (pg xs) 1 b c d, 599950, 7298497)) rfl ?_
      refine pm_go (g := (876, [(3, .int 5), (2, .ref 25), (1, .ref 1), (0, .ref 0)], [], g9_0 (pg xs) 1 b c d, 599950, 7298497)) rfl ?_
      refine pm_go (g := (18, [(3, .int 5), (2, .ref 25), (1, .ref 1), (0, .ref 0)], [], g9_0 (pg xs) 1 b c d, 599950, 7298497)) rfl ?_
      refine pm_go (g := (19, [(3, .int 5), (2, .ref 25), (1, .ref 1), (0, .ref 0)], [.int 5], g9_0 (pg xs) 1 b c d, 599950, 7298497)) rfl ?_
      refine pm_go (g := (20, [(3, .int 5), (2, .ref 25), (1, .ref 1), (0, .ref 0)], [.ref 0, .int 5], g9_0 (pg xs) 1 b c d, 599950, 7298497)) rfl ?_
      refine pm_go (g := (21, [(3, .int 5), (2, .ref 25), (1, .ref 1), (0, .ref 0)], [.int 5, .int 5], g9_0 (pg xs) 1 b c d, 599950, 7298497)) rfl ?_
      refine pm_go (g := (22, [(3, .int 5), (2, .ref 25), (1, .ref 1), (0, .ref 0)], [.int 5, .int 5, .int 5], g9_0 (pg xs) 1 b c d, 599950, 7298497)) rfl ?_
      refine pm_go (g := (23, [(3, .int 5), (2, .ref 25), (1, .ref 1), (0, .ref 0)], [.int 0, .int 5], g9_0 (pg xs) 1 b c d, 599950, 7298497)) rfl ?_
      refine pm_brT (g := (879, [(3, .int 5), (2, .ref 25), (1, .ref 1), (0, .ref 0)], [], g9_0 (pg xs) 1 b c d, 599950, 7298497)) rfl ?_
      refine pm_go (g := (880, [(3, .int 5), (2, .ref 25), (1, .ref 1), (0, .ref 0)], [.int 1], g9_0 (pg xs) 1 b c d, 599950, 7298497)) rfl ?_
      exact pm_ret rfl rfl
    have q7 := qF_ge (cx := b.toInt) (cy := 2) rfl (by decide) q7
    refine pm_go (g := (13, [(0, .ref 2), (1, .int (b))], [.int 1], g9_0 (pg xs) 1 b c d, 0, 0)) rfl ?_
    refine pm_go (g := (17, [(0, .ref 2), (1, .int (b))], [.int 1], g9_0 (pg xs) 1 b c d, 0, 0)) rfl ?_
    refine pm_ret rfl ?_
    show pm_WP 111 (44, [(0, .ref 1), (1, .int 1), (2, .int (b))], [.int 1], g9_0 (pg xs) 1 b c d, 0, 0) _
    refine pm_ret rfl ?_
    show pm_WP 104 (6, [(0, .ref 1), (1, .int 1), (2, .int (b)), (3, .int (c))], [.int 1], g9_0 (pg xs) 1 b c d, 1, 3) _
    refine pm_brF (h := (9, [(0, .ref 1), (1, .int 1), (2, .int (b)), (3, .int (c))], [], g9_0 (pg xs) 1 b c d, 1, 3)) rfl ?_
    refine pm_go (g := (10, [(0, .ref 1), (1, .int 1), (2, .int (b)), (3, .int (c))], [.int 1], g9_0 (pg xs) 1 b c d, 1, 3)) rfl ?_
    refine pm_go (g := (11, [(0, .ref 1), (1, .int 1), (2, .int (b)), (3, .int (c))], [.int 2, .int 1], g9_0 (pg xs) 1 b c d, 1, 3)) rfl ?_
    refine pm_brF (h := (14, [(0, .ref 1), (1, .int 1), (2, .int (b)), (3, .int (c))], [], g9_0 (pg xs) 1 b c d, 1, 3)) rfl ?_
    refine pm_go (g := (15, [(0, .ref 1), (1, .int 1), (2, .int (b)), (3, .int (c))], [.int (c)], g9_0 (pg xs) 1 b c d, 1, 3)) rfl ?_
    refine pm_if2 (g := (24, [(0, .ref 1), (1, .int 1), (2, .int (b)), (3, .int (c))], [], g9_0 (pg xs) 1 b c d, 1, 3)) (h := (18, [(0, .ref 1), (1, .int 1), (2, .int (b)), (3, .int (c))], [], g9_0 (pg xs) 1 b c d, 1, 3)) rfl (fun q8 => ?_) (fun q8 => ?_)
    ·
      have q8 := qT_lt (cx := c.toInt) (cy := 0) rfl (by decide) q8
      refine pm_go (g := (25, [(0, .ref 1), (1, .int 1), (2, .int (b)), (3, .int (c))], [.int (-1)], g9_0 (pg xs) 1 b c d, 1, 3)) rfl ?_
      refine pm_ret rfl ?_
      show pm_WP 0 (424, [(3, .int 0), (2, .ref 25), (1, .ref 1), (0, .ref 0)], [.int (-1)], g9_0 (pg xs) 1 b c d, 599950, 7298497) _
      refine pm_go (g := (425, [(3, .int 0), (2, .ref 25), (1, .ref 1), (0, .ref 0)], [.ref 25, .int (-1)], g9_0 (pg xs) 1 b c d, 599950, 7298497)) rfl ?_
      refine pm_go (g := (426, [(3, .int 0), (2, .ref 25), (1, .ref 1), (0, .ref 0)], [.ref 0, .ref 25, .int (-1)], g9_0 (pg xs) 1 b c d, 599950, 7298497)) rfl ?_
      refine pm_go (g := (427, [(3, .int 0), (2, .ref 25), (1, .ref 1), (0, .ref 0)], [.int 0, .ref 0, .ref 25, .int (-1)], g9_0 (pg xs) 1 b c d, 599950, 7298497)) rfl ?_
      refine pm_go (g := (428, [(3, .int 0), (2, .ref 25), (1, .ref 1), (0, .ref 0)], [.int 1, .int 0, .ref 0, .ref 25, .int (-1)], g9_0 (pg xs) 1 b c d, 599950, 7298497)) rfl ?_
      refine pm_go (g := (429, [(3, .int 0), (2, .ref 25), (1, .ref 1), (0, .ref 0)], [.int 1, .ref 0, .ref 25, .int (-1)], g9_0 (pg xs) 1 b c d, 599950, 7298497)) rfl ?_
      refine pm_go (g := (430, [(3, .int 0), (2, .ref 25), (1, .ref 1), (0, .ref 0)], [.int (xs 1), .ref 25, .int (-1)], g9_0 (pg xs) 1 b c d, 599950, 7298497)) rfl ?_
      rw [← ea]
      refine pm_go (g := (431, [(3, .int 0), (2, .ref 25), (1, .ref 1), (0, .ref 0)], [.ref 0, .int 1, .ref 25, .int (-1)], g9_0 (pg xs) 1 b c d, 599950, 7298497)) rfl ?_
      refine pm_go (g := (432, [(3, .int 0), (2, .ref 25), (1, .ref 1), (0, .ref 0)], [.int 0, .ref 0, .int 1, .ref 25, .int (-1)], g9_0 (pg xs) 1 b c d, 599950, 7298497)) rfl ?_
      refine pm_go (g := (433, [(3, .int 0), (2, .ref 25), (1, .ref 1), (0, .ref 0)], [.int 2, .int 0, .ref 0, .int 1, .ref 25, .int (-1)], g9_0 (pg xs) 1 b c d, 599950, 7298497)) rfl ?_
      refine pm_go (g := (434, [(3, .int 0), (2, .ref 25), (1, .ref 1), (0, .ref 0)], [.int 2, .ref 0, .int 1, .ref 25, .int (-1)], g9_0 (pg xs) 1 b c d, 599950, 7298497)) rfl ?_
      refine pm_go (g := (435, [(3, .int 0), (2, .ref 25), (1, .ref 1), (0, .ref 0)], [.int (xs 2), .int 1, .ref 25, .int (-1)], g9_0 (pg xs) 1 b c d, 599950, 7298497)) rfl ?_
      rw [← eb]
      refine pm_go (g := (436, [(3, .int 0), (2, .ref 25), (1, .ref 1), (0, .ref 0)], [.ref 0, .int (b), .int 1, .ref 25, .int (-1)], g9_0 (pg xs) 1 b c d, 599950, 7298497)) rfl ?_
      refine pm_go (g := (437, [(3, .int 0), (2, .ref 25), (1, .ref 1), (0, .ref 0)], [.int 0, .ref 0, .int (b), .int 1, .ref 25, .int (-1)], g9_0 (pg xs) 1 b c d, 599950, 7298497)) rfl ?_
      refine pm_go (g := (438, [(3, .int 0), (2, .ref 25), (1, .ref 1), (0, .ref 0)], [.int 3, .int 0, .ref 0, .int (b), .int 1, .ref 25, .int (-1)], g9_0 (pg xs) 1 b c d, 599950, 7298497)) rfl ?_
      refine pm_go (g := (439, [(3, .int 0), (2, .ref 25), (1, .ref 1), (0, .ref 0)], [.int 3, .ref 0, .int (b), .int 1, .ref 25, .int (-1)], g9_0 (pg xs) 1 b c d, 599950, 7298497)) rfl ?_
      refine pm_go (g := (440, [(3, .int 0), (2, .ref 25), (1, .ref 1), (0, .ref 0)], [.int (xs 3), .int (b), .int 1, .ref 25, .int (-1)], g9_0 (pg xs) 1 b c d, 599950, 7298497)) rfl ?_
      rw [← ec]
      refine pm_callD (z := 163) (as := [.ref 25, .int 1, .int (b), .int (c)]) (rest := [.int (-1)]) rfl ?_
      show pm_WP 163 (0, [(0, .ref 25), (1, .int 1), (2, .int (b)), (3, .int (c))], [], g9_0 (pg xs) 1 b c d, 0, 0) _
      refine pm_go (g := (1, [(0, .ref 25), (1, .int 1), (2, .int (b)), (3, .int (c))], [.int 1], g9_0 (pg xs) 1 b c d, 0, 0)) rfl ?_
      refine pm_go (g := (2, [(0, .ref 25), (1, .int 1), (2, .int (b)), (3, .int (c))], [.int 0, .int 1], g9_0 (pg xs) 1 b c d, 0, 0)) rfl ?_
      refine pm_go (g := (3, [(0, .ref 25), (1, .int 1), (2, .int (b)), (3, .int (c))], [.int 4, .int 0, .int 1], g9_0 (pg xs) 1 b c d, 0, 0)) rfl ?_
      refine pm_callD (z := 128) (as := [.int 1, .int 0, .int 4]) (rest := []) rfl ?_
      show pm_WP 128 (0, [(0, .int 1), (1, .int 0), (2, .int 4)], [], g9_0 (pg xs) 1 b c d, 0, 0) _
      refine pm_go (g := (1, [(0, .int 1), (1, .int 0), (2, .int 4)], [.int 1], g9_0 (pg xs) 1 b c d, 0, 0)) rfl ?_
      refine pm_go (g := (2, [(0, .int 1), (1, .int 0), (2, .int 4)], [.int 0, .int 1], g9_0 (pg xs) 1 b c d, 0, 0)) rfl ?_
      refine pm_brF (h := (5, [(0, .int 1), (1, .int 0), (2, .int 4)], [], g9_0 (pg xs) 1 b c d, 0, 0)) rfl ?_
      refine pm_go (g := (6, [(0, .int 1), (1, .int 0), (2, .int 4)], [.int 1], g9_0 (pg xs) 1 b c d, 0, 0)) rfl ?_
      refine pm_go (g := (7, [(0, .int 1), (1, .int 0), (2, .int 4)], [.int 4, .int 1], g9_0 (pg xs) 1 b c d, 0, 0)) rfl ?_
      refine pm_brF (h := (10, [(0, .int 1), (1, .int 0), (2, .int 4)], [], g9_0 (pg xs) 1 b c d, 0, 0)) rfl ?_
      refine pm_go (g := (11, [(0, .int 1), (1, .int 0), (2, .int 4)], [.int 1], g9_0 (pg xs) 1 b c d, 0, 0)) rfl ?_
      refine pm_go (g := (15, [(0, .int 1), (1, .int 0), (2, .int 4)], [.int 1], g9_0 (pg xs) 1 b c d, 0, 0)) rfl ?_
      refine pm_ret rfl ?_
      show pm_WP 163 (6, [(0, .ref 25), (1, .int 1), (2, .int (b)), (3, .int (c))], [.int 1], g9_0 (pg xs) 1 b c d, 0, 0) _
      refine pm_brT (g := (11, [(0, .ref 25), (1, .int 1), (2, .int (b)), (3, .int (c))], [], g9_0 (pg xs) 1 b c d, 0, 0)) rfl ?_
      refine pm_go (g := (12, [(0, .ref 25), (1, .int 1), (2, .int (b)), (3, .int (c))], [.int 1], g9_0 (pg xs) 1 b c d, 0, 0)) rfl ?_
      refine pm_go (g := (13, [(0, .ref 25), (1, .int 1), (2, .int (b)), (3, .int (c))], [.int 2, .int 1], g9_0 (pg xs) 1 b c d, 0, 0)) rfl ?_
      refine pm_brF (h := (16, [(0, .ref 25), (1, .int 1), (2, .int (b)), (3, .int (c))], [], g9_0 (pg xs) 1 b c d, 0, 0)) rfl ?_
      refine pm_go (g := (17, [(0, .ref 25), (1, .int 1), (2, .int (b)), (3, .int (c))], [.ref 25], g9_0 (pg xs) 1 b c d, 0, 0)) rfl ?_
      refine pm_go (g := (18, [(0, .ref 25), (1, .int 1), (2, .int (b)), (3, .int (c))], [.int (b), .ref 25], g9_0 (pg xs) 1 b c d, 0, 0)) rfl ?_
      refine pm_callD (z := 129) (as := [.ref 25, .int (b)]) (rest := []) rfl ?_
      show pm_WP 129 (0, [(0, .ref 25), (1, .int (b))], [], g9_0 (pg xs) 1 b c d, 0, 0) _
      refine pm_go (g := (1, [(0, .ref 25), (1, .int (b))], [.int (b)], g9_0 (pg xs) 1 b c d, 0, 0)) rfl ?_
      refine pm_go (g := (2, [(0, .ref 25), (1, .int (b))], [.int 0, .int (b)], g9_0 (pg xs) 1 b c d, 0, 0)) rfl ?_
      refine pm_go (g := (3, [(0, .ref 25), (1, .int (b))], [.ref 25, .int 0, .int (b)], g9_0 (pg xs) 1 b c d, 0, 0)) rfl ?_
      refine pm_go (g := (6, [(0, .ref 25), (1, .int (b))], [.int 2, .int 0, .int (b)], g9_0 (pg xs) 1 b c d, 0, 0)) rfl ?_
      refine pm_go (g := (7, [(0, .ref 25), (1, .int (b))], [.int 1, .int 2, .int 0, .int (b)], g9_0 (pg xs) 1 b c d, 0, 0)) rfl ?_
      refine pm_go (g := (8, [(0, .ref 25), (1, .int (b))], [.int 1, .int 0, .int (b)], g9_0 (pg xs) 1 b c d, 0, 0)) rfl ?_
      refine pm_callD (z := 128) (as := [.int (b), .int 0, .int 1]) (rest := []) rfl ?_
      show pm_WP 128 (0, [(0, .int (b)), (1, .int 0), (2, .int 1)], [], g9_0 (pg xs) 1 b c d, 0, 0) _
      refine pm_go (g := (1, [(0, .int (b)), (1, .int 0), (2, .int 1)], [.int (b)], g9_0 (pg xs) 1 b c d, 0, 0)) rfl ?_
      refine pm_go (g := (2, [(0, .int (b)), (1, .int 0), (2, .int 1)], [.int 0, .int (b)], g9_0 (pg xs) 1 b c d, 0, 0)) rfl ?_
      refine pm_ifF (h := (5, [(0, .int (b)), (1, .int 0), (2, .int 1)], [], g9_0 (pg xs) 1 b c d, 0, 0)) rfl (rF_lt (cx := b.toInt) (cy := 0) rfl (by decide) (by omega)) ?_
      refine pm_go (g := (6, [(0, .int (b)), (1, .int 0), (2, .int 1)], [.int (b)], g9_0 (pg xs) 1 b c d, 0, 0)) rfl ?_
      refine pm_go (g := (7, [(0, .int (b)), (1, .int 0), (2, .int 1)], [.int 1, .int (b)], g9_0 (pg xs) 1 b c d, 0, 0)) rfl ?_
      refine pm_ifF (h := (10, [(0, .int (b)), (1, .int 0), (2, .int 1)], [], g9_0 (pg xs) 1 b c d, 0, 0)) rfl (rF_gt (cx := b.toInt) (cy := 1) rfl (by decide) (by omega)) ?_
      refine pm_go (g := (11, [(0, .int (b)), (1, .int 0), (2, .int 1)], [.int 1], g9_0 (pg xs) 1 b c d, 0, 0)) rfl ?_
      refine pm_go (g := (15, [(0, .int (b)), (1, .int 0), (2, .int 1)], [.int 1], g9_0 (pg xs) 1 b c d, 0, 0)) rfl ?_
      refine pm_ret rfl ?_
      show pm_WP 129 (11, [(0, .ref 25), (1, .int (b))], [.int 1], g9_0 (pg xs) 1 b c d, 0, 0) _
      refine pm_ret rfl ?_
      show pm_WP 163 (21, [(0, .ref 25), (1, .int 1), (2, .int (b)), (3, .int (c))], [.int 1], g9_0 (pg xs) 1 b c d, 0, 0) _
      refine pm_go (g := (81, [(0, .ref 25), (1, .int 1), (2, .int (b)), (3, .int (c))], [.int 1], g9_0 (pg xs) 1 b c d, 0, 0)) rfl ?_
      refine pm_go (g := (83, [(4, .int 1), (0, .ref 25), (1, .int 1), (2, .int (b)), (3, .int (c))], [], g9_0 (pg xs) 1 b c d, 0, 0)) rfl ?_
      refine pm_go (g := (85, [(4, .int 1), (0, .ref 25), (1, .int 1), (2, .int (b)), (3, .int (c))], [.int 1], g9_0 (pg xs) 1 b c d, 0, 0)) rfl ?_
      refine pm_brF (h := (88, [(4, .int 1), (0, .ref 25), (1, .int 1), (2, .int (b)), (3, .int (c))], [], g9_0 (pg xs) 1 b c d, 0, 0)) rfl ?_
      refine pm_go (g := (89, [(4, .int 1), (0, .ref 25), (1, .int 1), (2, .int (b)), (3, .int (c))], [.int 1], g9_0 (pg xs) 1 b c d, 0, 0)) rfl ?_
      refine pm_go (g := (90, [(4, .int 1), (0, .ref 25), (1, .int 1), (2, .int (b)), (3, .int (c))], [.int 3, .int 1], g9_0 (pg xs) 1 b c d, 0, 0)) rfl ?_
      refine pm_brF (h := (93, [(4, .int 1), (0, .ref 25), (1, .int 1), (2, .int (b)), (3, .int (c))], [], g9_0 (pg xs) 1 b c d, 0, 0)) rfl ?_
      refine pm_go (g := (94, [(4, .int 1), (0, .ref 25), (1, .int 1), (2, .int (b)), (3, .int (c))], [.int (c)], g9_0 (pg xs) 1 b c d, 0, 0)) rfl ?_
      refine pm_go (g := (95, [(4, .int 1), (0, .ref 25), (1, .int 1), (2, .int (b)), (3, .int (c))], [.int 0, .int (c)], g9_0 (pg xs) 1 b c d, 0, 0)) rfl ?_
      refine pm_go (g := (96, [(4, .int 1), (0, .ref 25), (1, .int 1), (2, .int (b)), (3, .int (c))], [.int 5, .int 0, .int (c)], g9_0 (pg xs) 1 b c d, 0, 0)) rfl ?_
      refine pm_callD (z := 128) (as := [.int (c), .int 0, .int 5]) (rest := []) rfl ?_
      show pm_WP 128 (0, [(0, .int (c)), (1, .int 0), (2, .int 5)], [], g9_0 (pg xs) 1 b c d, 0, 0) _
      refine pm_go (g := (1, [(0, .int (c)), (1, .int 0), (2, .int 5)], [.int (c)], g9_0 (pg xs) 1 b c d, 0, 0)) rfl ?_
      refine pm_go (g := (2, [(0, .int (c)), (1, .int 0), (2, .int 5)], [.int 0, .int (c)], g9_0 (pg xs) 1 b c d, 0, 0)) rfl ?_
      refine pm_ifT (g := (14, [(0, .int (c)), (1, .int 0), (2, .int 5)], [], g9_0 (pg xs) 1 b c d, 0, 0)) rfl (rT_lt (cx := c.toInt) (cy := 0) rfl (by decide) (by omega)) ?_
      refine pm_go (g := (15, [(0, .int (c)), (1, .int 0), (2, .int 5)], [.int 0], g9_0 (pg xs) 1 b c d, 0, 0)) rfl ?_
      refine pm_ret rfl ?_
      show pm_WP 163 (99, [(4, .int 1), (0, .ref 25), (1, .int 1), (2, .int (b)), (3, .int (c))], [.int 0], g9_0 (pg xs) 1 b c d, 0, 0) _
      refine pm_brF (h := (102, [(4, .int 1), (0, .ref 25), (1, .int 1), (2, .int (b)), (3, .int (c))], [], g9_0 (pg xs) 1 b c d, 0, 0)) rfl ?_
      refine pm_go (g := (103, [(4, .int 1), (0, .ref 25), (1, .int 1), (2, .int (b)), (3, .int (c))], [.int (-1)], g9_0 (pg xs) 1 b c d, 0, 0)) rfl ?_
      refine pm_ret rfl ?_
      show pm_WP 0 (443, [(3, .int 0), (2, .ref 25), (1, .ref 1), (0, .ref 0)], [.int (-1), .int (-1)], g9_0 (pg xs) 1 b c d, 599950, 7298497) _
      refine pm_brT (g := (873, [(3, .int 0), (2, .ref 25), (1, .ref 1), (0, .ref 0)], [], g9_0 (pg xs) 1 b c d, 599950, 7298497)) rfl ?_
      refine pm_go (g := (876, [(3, .int 5), (2, .ref 25), (1, .ref 1), (0, .ref 0)], [], g9_0 (pg xs) 1 b c d, 599950, 7298497)) rfl ?_
      refine pm_go (g := (18, [(3, .int 5), (2, .ref 25), (1, .ref 1), (0, .ref 0)], [], g9_0 (pg xs) 1 b c d, 599950, 7298497)) rfl ?_
      refine pm_go (g := (19, [(3, .int 5), (2, .ref 25), (1, .ref 1), (0, .ref 0)], [.int 5], g9_0 (pg xs) 1 b c d, 599950, 7298497)) rfl ?_
      refine pm_go (g := (20, [(3, .int 5), (2, .ref 25), (1, .ref 1), (0, .ref 0)], [.ref 0, .int 5], g9_0 (pg xs) 1 b c d, 599950, 7298497)) rfl ?_
      refine pm_go (g := (21, [(3, .int 5), (2, .ref 25), (1, .ref 1), (0, .ref 0)], [.int 5, .int 5], g9_0 (pg xs) 1 b c d, 599950, 7298497)) rfl ?_
      refine pm_go (g := (22, [(3, .int 5), (2, .ref 25), (1, .ref 1), (0, .ref 0)], [.int 5, .int 5, .int 5], g9_0 (pg xs) 1 b c d, 599950, 7298497)) rfl ?_
      refine pm_go (g := (23, [(3, .int 5), (2, .ref 25), (1, .ref 1), (0, .ref 0)], [.int 0, .int 5], g9_0 (pg xs) 1 b c d, 599950, 7298497)) rfl ?_
      refine pm_brT (g := (879, [(3, .int 5), (2, .ref 25), (1, .ref 1), (0, .ref 0)], [], g9_0 (pg xs) 1 b c d, 599950, 7298497)) rfl ?_
      refine pm_go (g := (880, [(3, .int 5), (2, .ref 25), (1, .ref 1), (0, .ref 0)], [.int 1], g9_0 (pg xs) 1 b c d, 599950, 7298497)) rfl ?_
      exact pm_ret rfl rfl
    have q8 := qF_lt (cx := c.toInt) (cy := 0) rfl (by decide) q8
    refine pm_go (g := (19, [(0, .ref 1), (1, .int 1), (2, .int (b)), (3, .int (c))], [.int (c)], g9_0 (pg xs) 1 b c d, 1, 3)) rfl ?_
    refine pm_go (g := (21, [(0, .ref 1), (1, .int 1), (2, .int (b)), (3, .int (c))], [.int 6, .int (c)], g9_0 (pg xs) 1 b c d, 1, 3)) rfl ?_
    refine pm_if2 (g := (26, [(0, .ref 1), (1, .int 1), (2, .int (b)), (3, .int (c))], [], g9_0 (pg xs) 1 b c d, 1, 3)) (h := (24, [(0, .ref 1), (1, .int 1), (2, .int (b)), (3, .int (c))], [], g9_0 (pg xs) 1 b c d, 1, 3)) rfl (fun q9 => ?_) (fun q9 => ?_)
    ·
      have q9 := qT_lt (cx := c.toInt) (cy := 6) rfl (by decide) q9
      refine pm_go (g := (27, [(0, .ref 1), (1, .int 1), (2, .int (b)), (3, .int (c))], [.ref 1], g9_0 (pg xs) 1 b c d, 1, 3)) rfl ?_
      refine pm_go (g := (30, [(0, .ref 1), (1, .int 1), (2, .int (b)), (3, .int (c))], [.int 0], g9_0 (pg xs) 1 b c d, 1, 3)) rfl ?_
      refine pm_go (g := (32, [(0, .ref 1), (1, .int 1), (2, .int (b)), (3, .int (c))], [.int 30, .int 0], g9_0 (pg xs) 1 b c d, 1, 3)) rfl ?_
      refine pm_brT (g := (38, [(0, .ref 1), (1, .int 1), (2, .int (b)), (3, .int (c))], [], g9_0 (pg xs) 1 b c d, 1, 3)) rfl ?_
      refine pm_go (g := (39, [(0, .ref 1), (1, .int 1), (2, .int (b)), (3, .int (c))], [.ref 1], g9_0 (pg xs) 1 b c d, 1, 3)) rfl ?_
      refine pm_go (g := (42, [(0, .ref 1), (1, .int 1), (2, .int (b)), (3, .int (c))], [.ref 22], g9_0 (pg xs) 1 b c d, 1, 3)) rfl ?_
      refine pm_go (g := (43, [(0, .ref 1), (1, .int 1), (2, .int (b)), (3, .int (c))], [.ref 1, .ref 22], g9_0 (pg xs) 1 b c d, 1, 3)) rfl ?_
      refine pm_go (g := (46, [(0, .ref 1), (1, .int 1), (2, .int (b)), (3, .int (c))], [.int 0, .ref 22], g9_0 (pg xs) 1 b c d, 1, 3)) rfl ?_
      refine pm_go (g := (49, [(0, .ref 1), (1, .int 1), (2, .int (b)), (3, .int (c))], [.ref 50, .int 0, .ref 22], g9_1 (pg xs) 1 b c d, 0, 0)) rfl ?_
      refine pm_go (g := (50, [(0, .ref 1), (1, .int 1), (2, .int (b)), (3, .int (c))], [.ref 50, .ref 50, .int 0, .ref 22], g9_1 (pg xs) 1 b c d, 0, 0)) rfl ?_
      refine pm_go (g := (51, [(0, .ref 1), (1, .int 1), (2, .int (b)), (3, .int (c))], [.int 1, .ref 50, .ref 50, .int 0, .ref 22], g9_1 (pg xs) 1 b c d, 0, 0)) rfl ?_
      refine pm_go (g := (52, [(0, .ref 1), (1, .int 1), (2, .int (b)), (3, .int (c))], [.int (b), .int 1, .ref 50, .ref 50, .int 0, .ref 22], g9_1 (pg xs) 1 b c d, 0, 0)) rfl ?_
      refine pm_go (g := (53, [(0, .ref 1), (1, .int 1), (2, .int (b)), (3, .int (c))], [.int 1, .int (b), .int 1, .ref 50, .ref 50, .int 0, .ref 22], g9_1 (pg xs) 1 b c d, 0, 0)) rfl ?_
      refine pm_go (g := (54, [(0, .ref 1), (1, .int 1), (2, .int (b)), (3, .int (c))], [.int 3, .int 1, .int (b), .int 1, .ref 50, .ref 50, .int 0, .ref 22], g9_1 (pg xs) 1 b c d, 0, 0)) rfl ?_
      refine pm_brT (g := (62, [(0, .ref 1), (1, .int 1), (2, .int (b)), (3, .int (c))], [.int (b), .int 1, .ref 50, .ref 50, .int 0, .ref 22], g9_1 (pg xs) 1 b c d, 0, 0)) rfl ?_
      refine pm_go (g := (63, [(0, .ref 1), (1, .int 1), (2, .int (b)), (3, .int (c))], [.int (c), .int (b), .int 1, .ref 50, .ref 50, .int 0, .ref 22], g9_1 (pg xs) 1 b c d, 0, 0)) rfl ?_
      refine pm_callD (z := 51) (as := [.ref 50, .int 1, .int (b), .int (c)]) (rest := [.ref 50, .int 0, .ref 22]) rfl ?_
      show pm_WP 51 (0, [(0, .ref 50), (1, .int 1), (2, .int (b)), (3, .int (c))], [], g9_1 (pg xs) 1 b c d, 0, 0) _
      refine pm_go (g := (1, [(0, .ref 50), (1, .int 1), (2, .int (b)), (3, .int (c))], [.ref 50], g9_1 (pg xs) 1 b c d, 0, 0)) rfl ?_
      refine pm_go (g := (4, [(0, .ref 50), (1, .int 1), (2, .int (b)), (3, .int (c))], [], g9_1 (pg xs) 1 b c d, 0, 0)) rfl ?_
      refine pm_go (g := (5, [(0, .ref 50), (1, .int 1), (2, .int (b)), (3, .int (c))], [.ref 50], g9_1 (pg xs) 1 b c d, 0, 0)) rfl ?_
      refine pm_go (g := (6, [(0, .ref 50), (1, .int 1), (2, .int (b)), (3, .int (c))], [.int 1, .ref 50], g9_1 (pg xs) 1 b c d, 0, 0)) rfl ?_
      refine pm_go (g := (9, [(0, .ref 50), (1, .int 1), (2, .int (b)), (3, .int (c))], [], g9_10 (pg xs) 1 b c d, 0, 0)) rfl ?_
      refine pm_go (g := (10, [(0, .ref 50), (1, .int 1), (2, .int (b)), (3, .int (c))], [.ref 50], g9_10 (pg xs) 1 b c d, 0, 0)) rfl ?_
      refine pm_go (g := (11, [(0, .ref 50), (1, .int 1), (2, .int (b)), (3, .int (c))], [.int (b), .ref 50], g9_10 (pg xs) 1 b c d, 0, 0)) rfl ?_
      refine pm_go (g := (14, [(0, .ref 50), (1, .int 1), (2, .int (b)), (3, .int (c))], [], g9_11 (pg xs) 1 b c d, 0, 0)) rfl ?_
      refine pm_go (g := (15, [(0, .ref 50), (1, .int 1), (2, .int (b)), (3, .int (c))], [.ref 50], g9_11 (pg xs) 1 b c d, 0, 0)) rfl ?_
      refine pm_go (g := (16, [(0, .ref 50), (1, .int 1), (2, .int (b)), (3, .int (c))], [.int (c), .ref 50], g9_11 (pg xs) 1 b c d, 0, 0)) rfl ?_
      refine pm_go (g := (19, [(0, .ref 50), (1, .int 1), (2, .int (b)), (3, .int (c))], [], g9_12 (pg xs) 1 b c d, 0, 0)) rfl ?_
      refine pm_ret rfl ?_
      show pm_WP 104 (66, [(0, .ref 1), (1, .int 1), (2, .int (b)), (3, .int (c))], [.ref 50, .int 0, .ref 22], g9_12 (pg xs) 1 b c d, 0, 0) _
      refine pm_go (g := (67, [(0, .ref 1), (1, .int 1), (2, .int (b)), (3, .int (c))], [], g9_13 (pg xs) 1 b c d, 0, 0)) rfl ?_
      refine pm_go (g := (68, [(0, .ref 1), (1, .int 1), (2, .int (b)), (3, .int (c))], [.ref 1], g9_13 (pg xs) 1 b c d, 0, 0)) rfl ?_
      refine pm_go (g := (69, [(0, .ref 1), (1, .int 1), (2, .int (b)), (3, .int (c))], [.ref 1, .ref 1], g9_13 (pg xs) 1 b c d, 0, 0)) rfl ?_
      refine pm_go (g := (72, [(0, .ref 1), (1, .int 1), (2, .int (b)), (3, .int (c))], [.int 0, .ref 1], g9_13 (pg xs) 1 b c d, 0, 0)) rfl ?_
      refine pm_go (g := (73, [(0, .ref 1), (1, .int 1), (2, .int (b)), (3, .int (c))], [.int 1, .int 0, .ref 1], g9_13 (pg xs) 1 b c d, 0, 0)) rfl ?_
      refine pm_go (g := (74, [(0, .ref 1), (1, .int 1), (2, .int (b)), (3, .int (c))], [.int 1, .ref 1], g9_13 (pg xs) 1 b c d, 0, 0)) rfl ?_
      refine pm_go (g := (77, [(0, .ref 1), (1, .int 1), (2, .int (b)), (3, .int (c))], [], g9_14 (pg xs) 1 b c d, 0, 0)) rfl ?_
      refine pm_go (g := (78, [(0, .ref 1), (1, .int 1), (2, .int (b)), (3, .int (c))], [.ref 1], g9_14 (pg xs) 1 b c d, 0, 0)) rfl ?_
      refine pm_go (g := (81, [(0, .ref 1), (1, .int 1), (2, .int (b)), (3, .int (c))], [.int 1], g9_14 (pg xs) 1 b c d, 0, 0)) rfl ?_
      refine pm_go (g := (82, [(0, .ref 1), (1, .int 1), (2, .int (b)), (3, .int (c))], [.int 1, .int 1], g9_14 (pg xs) 1 b c d, 0, 0)) rfl ?_
      refine pm_go (g := (83, [(0, .ref 1), (1, .int 1), (2, .int (b)), (3, .int (c))], [.int 0], g9_14 (pg xs) 1 b c d, 0, 0)) rfl ?_
      refine pm_ret rfl ?_
      show pm_WP 0 (424, [(3, .int 0), (2, .ref 25), (1, .ref 1), (0, .ref 0)], [.int 0], g9_14 (pg xs) 1 b c d, 599950, 7298497) _
      refine pm_go (g := (425, [(3, .int 0), (2, .ref 25), (1, .ref 1), (0, .ref 0)], [.ref 25, .int 0], g9_14 (pg xs) 1 b c d, 599950, 7298497)) rfl ?_
      refine pm_go (g := (426, [(3, .int 0), (2, .ref 25), (1, .ref 1), (0, .ref 0)], [.ref 0, .ref 25, .int 0], g9_14 (pg xs) 1 b c d, 599950, 7298497)) rfl ?_
      refine pm_go (g := (427, [(3, .int 0), (2, .ref 25), (1, .ref 1), (0, .ref 0)], [.int 0, .ref 0, .ref 25, .int 0], g9_14 (pg xs) 1 b c d, 599950, 7298497)) rfl ?_
      refine pm_go (g := (428, [(3, .int 0), (2, .ref 25), (1, .ref 1), (0, .ref 0)], [.int 1, .int 0, .ref 0, .ref 25, .int 0], g9_14 (pg xs) 1 b c d, 599950, 7298497)) rfl ?_
      refine pm_go (g := (429, [(3, .int 0), (2, .ref 25), (1, .ref 1), (0, .ref 0)], [.int 1, .ref 0, .ref 25, .int 0], g9_14 (pg xs) 1 b c d, 599950, 7298497)) rfl ?_
      refine pm_go (g := (430, [(3, .int 0), (2, .ref 25), (1, .ref 1), (0, .ref 0)], [.int (xs 1), .ref 25, .int 0], g9_14 (pg xs) 1 b c d, 599950, 7298497)) rfl ?_
      rw [← ea]
      refine pm_go (g := (431, [(3, .int 0), (2, .ref 25), (1, .ref 1), (0, .ref 0)], [.ref 0, .int 1, .ref 25, .int 0], g9_14 (pg xs) 1 b c d, 599950, 7298497)) rfl ?_
      refine pm_go (g := (432, [(3, .int 0), (2, .ref 25), (1, .ref 1), (0, .ref 0)], [.int 0, .ref 0, .int 1, .ref 25, .int 0], g9_14 (pg xs) 1 b c d, 599950, 7298497)) rfl ?_
      refine pm_go (g := (433, [(3, .int 0), (2, .ref 25), (1, .ref 1), (0, .ref 0)], [.int 2, .int 0, .ref 0, .int 1, .ref 25, .int 0], g9_14 (pg xs) 1 b c d, 599950, 7298497)) rfl ?_
      refine pm_go (g := (434, [(3, .int 0), (2, .ref 25), (1, .ref 1), (0, .ref 0)], [.int 2, .ref 0, .int 1, .ref 25, .int 0], g9_14 (pg xs) 1 b c d, 599950, 7298497)) rfl ?_
      refine pm_go (g := (435, [(3, .int 0), (2, .ref 25), (1, .ref 1), (0, .ref 0)], [.int (xs 2), .int 1, .ref 25, .int 0], g9_14 (pg xs) 1 b c d, 599950, 7298497)) rfl ?_
      rw [← eb]
      refine pm_go (g := (436, [(3, .int 0), (2, .ref 25), (1, .ref 1), (0, .ref 0)], [.ref 0, .int (b), .int 1, .ref 25, .int 0], g9_14 (pg xs) 1 b c d, 599950, 7298497)) rfl ?_
      refine pm_go (g := (437, [(3, .int 0), (2, .ref 25), (1, .ref 1), (0, .ref 0)], [.int 0, .ref 0, .int (b), .int 1, .ref 25, .int 0], g9_14 (pg xs) 1 b c d, 599950, 7298497)) rfl ?_
      refine pm_go (g := (438, [(3, .int 0), (2, .ref 25), (1, .ref 1), (0, .ref 0)], [.int 3, .int 0, .ref 0, .int (b), .int 1, .ref 25, .int 0], g9_14 (pg xs) 1 b c d, 599950, 7298497)) rfl ?_
      refine pm_go (g := (439, [(3, .int 0), (2, .ref 25), (1, .ref 1), (0, .ref 0)], [.int 3, .ref 0, .int (b), .int 1, .ref 25, .int 0], g9_14 (pg xs) 1 b c d, 599950, 7298497)) rfl ?_
      refine pm_go (g := (440, [(3, .int 0), (2, .ref 25), (1, .ref 1), (0, .ref 0)], [.int (xs 3), .int (b), .int 1, .ref 25, .int 0], g9_14 (pg xs) 1 b c d, 599950, 7298497)) rfl ?_
      rw [← ec]
      refine pm_callD (z := 163) (as := [.ref 25, .int 1, .int (b), .int (c)]) (rest := [.int 0]) rfl ?_
      show pm_WP 163 (0, [(0, .ref 25), (1, .int 1), (2, .int (b)), (3, .int (c))], [], g9_14 (pg xs) 1 b c d, 0, 0) _
      refine pm_go (g := (1, [(0, .ref 25), (1, .int 1), (2, .int (b)), (3, .int (c))], [.int 1], g9_14 (pg xs) 1 b c d, 0, 0)) rfl ?_
      refine pm_go (g := (2, [(0, .ref 25), (1, .int 1), (2, .int (b)), (3, .int (c))], [.int 0, .int 1], g9_14 (pg xs) 1 b c d, 0, 0)) rfl ?_
      refine pm_go (g := (3, [(0, .ref 25), (1, .int 1), (2, .int (b)), (3, .int (c))], [.int 4, .int 0, .int 1], g9_14 (pg xs) 1 b c d, 0, 0)) rfl ?_
      refine pm_callD (z := 128) (as := [.int 1, .int 0, .int 4]) (rest := []) rfl ?_
      show pm_WP 128 (0, [(0, .int 1), (1, .int 0), (2, .int 4)], [], g9_14 (pg xs) 1 b c d, 0, 0) _
      refine pm_go (g := (1, [(0, .int 1), (1, .int 0), (2, .int 4)], [.int 1], g9_14 (pg xs) 1 b c d, 0, 0)) rfl ?_
      refine pm_go (g := (2, [(0, .int 1), (1, .int 0), (2, .int 4)], [.int 0, .int 1], g9_14 (pg xs) 1 b c d, 0, 0)) rfl ?_
      refine pm_brF (h := (5, [(0, .int 1), (1, .int 0), (2, .int 4)], [], g9_14 (pg xs) 1 b c d, 0, 0)) rfl ?_
      refine pm_go (g := (6, [(0, .int 1), (1, .int 0), (2, .int 4)], [.int 1], g9_14 (pg xs) 1 b c d, 0, 0)) rfl ?_
      refine pm_go (g := (7, [(0, .int 1), (1, .int 0), (2, .int 4)], [.int 4, .int 1], g9_14 (pg xs) 1 b c d, 0, 0)) rfl ?_
      refine pm_brF (h := (10, [(0, .int 1), (1, .int 0), (2, .int 4)], [], g9_14 (pg xs) 1 b c d, 0, 0)) rfl ?_
      refine pm_go (g := (11, [(0, .int 1), (1, .int 0), (2, .int 4)], [.int 1], g9_14 (pg xs) 1 b c d, 0, 0)) rfl ?_
      refine pm_go (g := (15, [(0, .int 1), (1, .int 0), (2, .int 4)], [.int 1], g9_14 (pg xs) 1 b c d, 0, 0)) rfl ?_
      refine pm_ret rfl ?_
      show pm_WP 163 (6, [(0, .ref 25), (1, .int 1), (2, .int (b)), (3, .int (c))], [.int 1], g9_14 (pg xs) 1 b c d, 0, 0) _
      refine pm_brT (g := (11, [(0, .ref 25), (1, .int 1), (2, .int (b)), (3, .int (c))], [], g9_14 (pg xs) 1 b c d, 0, 0)) rfl ?_
      refine pm_go (g := (12, [(0, .ref 25), (1, .int 1), (2, .int (b)), (3, .int (c))], [.int 1], g9_14 (pg xs) 1 b c d, 0, 0)) rfl ?_
      refine pm_go (g := (13, [(0, .ref 25), (1, .int 1), (2, .int (b)), (3, .int (c))], [.int 2, .int 1], g9_14 (pg xs) 1 b c d, 0, 0)) rfl ?_
      refine pm_brF (h := (16, [(0, .ref 25), (1, .int 1), (2, .int (b)), (3, .int (c))], [], g9_14 (pg xs) 1 b c d, 0, 0)) rfl ?_
      refine pm_go (g := (17, [(0, .ref 25), (1, .int 1), (2, .int (b)), (3, .int (c))], [.ref 25], g9_14 (pg xs) 1 b c d, 0, 0)) rfl ?_
      refine pm_go (g := (18, [(0, .ref 25), (1, .int 1), (2, .int (b)), (3, .int (c))], [.int (b), .ref 25], g9_14 (pg xs) 1 b c d, 0, 0)) rfl ?_
      refine pm_callD (z := 129) (as := [.ref 25, .int (b)]) (rest := []) rfl ?_
      show pm_WP 129 (0, [(0, .ref 25), (1, .int (b))], [], g9_14 (pg xs) 1 b c d, 0, 0) _
      refine pm_go (g := (1, [(0, .ref 25), (1, .int (b))], [.int (b)], g9_14 (pg xs) 1 b c d, 0, 0)) rfl ?_
      refine pm_go (g := (2, [(0, .ref 25), (1, .int (b))], [.int 0, .int (b)], g9_14 (pg xs) 1 b c d, 0, 0)) rfl ?_
      refine pm_go (g := (3, [(0, .ref 25), (1, .int (b))], [.ref 25, .int 0, .int (b)], g9_14 (pg xs) 1 b c d, 0, 0)) rfl ?_
      refine pm_go (g := (6, [(0, .ref 25), (1, .int (b))], [.int 2, .int 0, .int (b)], g9_14 (pg xs) 1 b c d, 0, 0)) rfl ?_
      refine pm_go (g := (7, [(0, .ref 25), (1, .int (b))], [.int 1, .int 2, .int 0, .int (b)], g9_14 (pg xs) 1 b c d, 0, 0)) rfl ?_
      refine pm_go (g := (8, [(0, .ref 25), (1, .int (b))], [.int 1, .int 0, .int (b)], g9_14 (pg xs) 1 b c d, 0, 0)) rfl ?_
      refine pm_callD (z := 128) (as := [.int (b), .int 0, .int 1]) (rest := []) rfl ?_
      show pm_WP 128 (0, [(0, .int (b)), (1, .int 0), (2, .int 1)], [], g9_14 (pg xs) 1 b c d, 0, 0) _
      refine pm_go (g := (1, [(0, .int (b)), (1, .int 0), (2, .int 1)], [.int (b)], g9_14 (pg xs) 1 b c d, 0, 0)) rfl ?_
      refine pm_go (g := (2, [(0, .int (b)), (1, .int 0), (2, .int 1)], [.int 0, .int (b)], g9_14 (pg xs) 1 b c d, 0, 0)) rfl ?_
      refine pm_ifF (h := (5, [(0, .int (b)), (1, .int 0), (2, .int 1)], [], g9_14 (pg xs) 1 b c d, 0, 0)) rfl (rF_lt (cx := b.toInt) (cy := 0) rfl (by decide) (by omega)) ?_
      refine pm_go (g := (6, [(0, .int (b)), (1, .int 0), (2, .int 1)], [.int (b)], g9_14 (pg xs) 1 b c d, 0, 0)) rfl ?_
      refine pm_go (g := (7, [(0, .int (b)), (1, .int 0), (2, .int 1)], [.int 1, .int (b)], g9_14 (pg xs) 1 b c d, 0, 0)) rfl ?_
      refine pm_ifF (h := (10, [(0, .int (b)), (1, .int 0), (2, .int 1)], [], g9_14 (pg xs) 1 b c d, 0, 0)) rfl (rF_gt (cx := b.toInt) (cy := 1) rfl (by decide) (by omega)) ?_
      refine pm_go (g := (11, [(0, .int (b)), (1, .int 0), (2, .int 1)], [.int 1], g9_14 (pg xs) 1 b c d, 0, 0)) rfl ?_
      refine pm_go (g := (15, [(0, .int (b)), (1, .int 0), (2, .int 1)], [.int 1], g9_14 (pg xs) 1 b c d, 0, 0)) rfl ?_
      refine pm_ret rfl ?_
      show pm_WP 129 (11, [(0, .ref 25), (1, .int (b))], [.int 1], g9_14 (pg xs) 1 b c d, 0, 0) _
      refine pm_ret rfl ?_
      show pm_WP 163 (21, [(0, .ref 25), (1, .int 1), (2, .int (b)), (3, .int (c))], [.int 1], g9_14 (pg xs) 1 b c d, 0, 0) _
      refine pm_go (g := (81, [(0, .ref 25), (1, .int 1), (2, .int (b)), (3, .int (c))], [.int 1], g9_14 (pg xs) 1 b c d, 0, 0)) rfl ?_
      refine pm_go (g := (83, [(4, .int 1), (0, .ref 25), (1, .int 1), (2, .int (b)), (3, .int (c))], [], g9_14 (pg xs) 1 b c d, 0, 0)) rfl ?_
      refine pm_go (g := (85, [(4, .int 1), (0, .ref 25), (1, .int 1), (2, .int (b)), (3, .int (c))], [.int 1], g9_14 (pg xs) 1 b c d, 0, 0)) rfl ?_
      refine pm_brF (h := (88, [(4, .int 1), (0, .ref 25), (1, .int 1), (2, .int (b)), (3, .int (c))], [], g9_14 (pg xs) 1 b c d, 0, 0)) rfl ?_
      refine pm_go (g := (89, [(4, .int 1), (0, .ref 25), (1, .int 1), (2, .int (b)), (3, .int (c))], [.int 1], g9_14 (pg xs) 1 b c d, 0, 0)) rfl ?_
      refine pm_go (g := (90, [(4, .int 1), (0, .ref 25), (1, .int 1), (2, .int (b)), (3, .int (c))], [.int 3, .int 1], g9_14 (pg xs) 1 b c d, 0, 0)) rfl ?_
      refine pm_brF (h := (93, [(4, .int 1), (0, .ref 25), (1, .int 1), (2, .int (b)), (3, .int (c))], [], g9_14 (pg xs) 1 b c d, 0, 0)) rfl ?_
      refine pm_go (g := (94, [(4, .int 1), (0, .ref 25), (1, .int 1), (2, .int (b)), (3, .int (c))], [.int (c)], g9_14 (pg xs) 1 b c d, 0, 0)) rfl ?_
      refine pm_go (g := (95, [(4, .int 1), (0, .ref 25), (1, .int 1), (2, .int (b)), (3, .int (c))], [.int 0, .int (c)], g9_14 (pg xs) 1 b c d, 0, 0)) rfl ?_
      refine pm_go (g := (96, [(4, .int 1), (0, .ref 25), (1, .int 1), (2, .int (b)), (3, .int (c))], [.int 5, .int 0, .int (c)], g9_14 (pg xs) 1 b c d, 0, 0)) rfl ?_
      refine pm_callD (z := 128) (as := [.int (c), .int 0, .int 5]) (rest := []) rfl ?_
      show pm_WP 128 (0, [(0, .int (c)), (1, .int 0), (2, .int 5)], [], g9_14 (pg xs) 1 b c d, 0, 0) _
      refine pm_go (g := (1, [(0, .int (c)), (1, .int 0), (2, .int 5)], [.int (c)], g9_14 (pg xs) 1 b c d, 0, 0)) rfl ?_
      refine pm_go (g := (2, [(0, .int (c)), (1, .int 0), (2, .int 5)], [.int 0, .int (c)], g9_14 (pg xs) 1 b c d, 0, 0)) rfl ?_
      refine pm_ifF (h := (5, [(0, .int (c)), (1, .int 0), (2, .int 5)], [], g9_14 (pg xs) 1 b c d, 0, 0)) rfl (rF_lt (cx := c.toInt) (cy := 0) rfl (by decide) (by omega)) ?_
      refine pm_go (g := (6, [(0, .int (c)), (1, .int 0), (2, .int 5)], [.int (c)], g9_14 (pg xs) 1 b c d, 0, 0)) rfl ?_
      refine pm_go (g := (7, [(0, .int (c)), (1, .int 0), (2, .int 5)], [.int 5, .int (c)], g9_14 (pg xs) 1 b c d, 0, 0)) rfl ?_
      refine pm_ifF (h := (10, [(0, .int (c)), (1, .int 0), (2, .int 5)], [], g9_14 (pg xs) 1 b c d, 0, 0)) rfl (rF_gt (cx := c.toInt) (cy := 5) rfl (by decide) (by omega)) ?_
      refine pm_go (g := (11, [(0, .int (c)), (1, .int 0), (2, .int 5)], [.int 1], g9_14 (pg xs) 1 b c d, 0, 0)) rfl ?_
      refine pm_go (g := (15, [(0, .int (c)), (1, .int 0), (2, .int 5)], [.int 1], g9_14 (pg xs) 1 b c d, 0, 0)) rfl ?_
      refine pm_ret rfl ?_
      show pm_WP 163 (99, [(4, .int 1), (0, .ref 25), (1, .int 1), (2, .int (b)), (3, .int (c))], [.int 1], g9_14 (pg xs) 1 b c d, 0, 0) _
      refine pm_brT (g := (104, [(4, .int 1), (0, .ref 25), (1, .int 1), (2, .int (b)), (3, .int (c))], [], g9_14 (pg xs) 1 b c d, 0, 0)) rfl ?_
      refine pm_go (g := (105, [(4, .int 1), (0, .ref 25), (1, .int 1), (2, .int (b)), (3, .int (c))], [.ref 25], g9_14 (pg xs) 1 b c d, 0, 0)) rfl ?_
      refine pm_go (g := (108, [(4, .int 1), (0, .ref 25), (1, .int 1), (2, .int (b)), (3, .int (c))], [.int 0], g9_14 (pg xs) 1 b c d, 0, 0)) rfl ?_
      refine pm_go (g := (110, [(4, .int 1), (0, .ref 25), (1, .int 1), (2, .int (b)), (3, .int (c))], [.int 30, .int 0], g9_14 (pg xs) 1 b c d, 0, 0)) rfl ?_
      refine pm_brT (g := (116, [(4, .int 1), (0, .ref 25), (1, .int 1), (2, .int (b)), (3, .int (c))], [], g9_14 (pg xs) 1 b c d, 0, 0)) rfl ?_
      refine pm_go (g := (117, [(4, .int 1), (0, .ref 25), (1, .int 1), (2, .int (b)), (3, .int (c))], [.ref 25], g9_14 (pg xs) 1 b c d, 0, 0)) rfl ?_
      refine pm_go (g := (120, [(4, .int 1), (0, .ref 25), (1, .int 1), (2, .int (b)), (3, .int (c))], [.ref 37], g9_14 (pg xs) 1 b c d, 0, 0)) rfl ?_
      refine pm_go (g := (121, [(4, .int 1), (0, .ref 25), (1, .int 1), (2, .int (b)), (3, .int (c))], [.ref 25, .ref 37], g9_14 (pg xs) 1 b c d, 0, 0)) rfl ?_
      refine pm_go (g := (124, [(4, .int 1), (0, .ref 25), (1, .int 1), (2, .int (b)), (3, .int (c))], [.int 0, .ref 37], g9_14 (pg xs) 1 b c d, 0, 0)) rfl ?_
      refine pm_go (g := (125, [(4, .int 1), (0, .ref 25), (1, .int 1), (2, .int (b)), (3, .int (c))], [.int 1, .int 0, .ref 37], g9_14 (pg xs) 1 b c d, 0, 0)) rfl ?_
      refine pm_go (g := (126, [(4, .int 1), (0, .ref 25), (1, .int 1), (2, .int (b)), (3, .int (c))], [], g9_15 (pg xs) 1 b c d, 0, 0)) rfl ?_
      refine pm_go (g := (127, [(4, .int 1), (0, .ref 25), (1, .int 1), (2, .int (b)), (3, .int (c))], [.ref 25], g9_15 (pg xs) 1 b c d, 0, 0)) rfl ?_
      refine pm_go (g := (130, [(4, .int 1), (0, .ref 25), (1, .int 1), (2, .int (b)), (3, .int (c))], [.ref 38], g9_15 (pg xs) 1 b c d, 0, 0)) rfl ?_
      refine pm_go (g := (131, [(4, .int 1), (0, .ref 25), (1, .int 1), (2, .int (b)), (3, .int (c))], [.ref 25, .ref 38], g9_15 (pg xs) 1 b c d, 0, 0)) rfl ?_
      refine pm_go (g := (134, [(4, .int 1), (0, .ref 25), (1, .int 1), (2, .int (b)), (3, .int (c))], [.int 0, .ref 38], g9_15 (pg xs) 1 b c d, 0, 0)) rfl ?_
      refine pm_go (g := (135, [(4, .int 1), (0, .ref 25), (1, .int 1), (2, .int (b)), (3, .int (c))], [.int (b), .int 0, .ref 38], g9_15 (pg xs) 1 b c d, 0, 0)) rfl ?_
      refine pm_go (g := (136, [(4, .int 1), (0, .ref 25), (1, .int 1), (2, .int (b)), (3, .int (c))], [], g9_16 (pg xs) 1 b c d, 0, 0)) rfl ?_
      refine pm_go (g := (137, [(4, .int 1), (0, .ref 25), (1, .int 1), (2, .int (b)), (3, .int (c))], [.ref 25], g9_16 (pg xs) 1 b c d, 0, 0)) rfl ?_
      refine pm_go (g := (140, [(4, .int 1), (0, .ref 25), (1, .int 1), (2, .int (b)), (3, .int (c))], [.ref 39], g9_16 (pg xs) 1 b c d, 0, 0)) rfl ?_
      refine pm_go (g := (141, [(4, .int 1), (0, .ref 25), (1, .int 1), (2, .int (b)), (3, .int (c))], [.ref 25, .ref 39], g9_16 (pg xs) 1 b c d, 0, 0)) rfl ?_
      refine pm_go (g := (144, [(4, .int 1), (0, .ref 25), (1, .int 1), (2, .int (b)), (3, .int (c))], [.int 0, .ref 39], g9_16 (pg xs) 1 b c d, 0, 0)) rfl ?_
      refine pm_go (g := (145, [(4, .int 1), (0, .ref 25), (1, .int 1), (2, .int (b)), (3, .int (c))], [.int (c), .int 0, .ref 39], g9_16 (pg xs) 1 b c d, 0, 0)) rfl ?_
      refine pm_go (g := (146, [(4, .int 1), (0, .ref 25), (1, .int 1), (2, .int (b)), (3, .int (c))], [], g9_17 (pg xs) 1 b c d, 0, 0)) rfl ?_
      refine pm_go (g := (147, [(4, .int 1), (0, .ref 25), (1, .int 1), (2, .int (b)), (3, .int (c))], [.ref 25], g9_17 (pg xs) 1 b c d, 0, 0)) rfl ?_
      refine pm_go (g := (148, [(4, .int 1), (0, .ref 25), (1, .int 1), (2, .int (b)), (3, .int (c))], [.ref 25, .ref 25], g9_17 (pg xs) 1 b c d, 0, 0)) rfl ?_
      refine pm_go (g := (151, [(4, .int 1), (0, .ref 25), (1, .int 1), (2, .int (b)), (3, .int (c))], [.int 0, .ref 25], g9_17 (pg xs) 1 b c d, 0, 0)) rfl ?_
      refine pm_go (g := (152, [(4, .int 1), (0, .ref 25), (1, .int 1), (2, .int (b)), (3, .int (c))], [.int 1, .int 0, .ref 25], g9_17 (pg xs) 1 b c d, 0, 0)) rfl ?_
      refine pm_go (g := (153, [(4, .int 1), (0, .ref 25), (1, .int 1), (2, .int (b)), (3, .int (c))], [.int 1, .ref 25], g9_17 (pg xs) 1 b c d, 0, 0)) rfl ?_
      refine pm_go (g := (156, [(4, .int 1), (0, .ref 25), (1, .int 1), (2, .int (b)), (3, .int (c))], [], g9_18 (pg xs) 1 b c d, 0, 0)) rfl ?_
      refine pm_go (g := (157, [(4, .int 1), (0, .ref 25), (1, .int 1), (2, .int (b)), (3, .int (c))], [.ref 25], g9_18 (pg xs) 1 b c d, 0, 0)) rfl ?_
      refine pm_go (g := (160, [(4, .int 1), (0, .ref 25), (1, .int 1), (2, .int (b)), (3, .int (c))], [.int 1], g9_18 (pg xs) 1 b c d, 0, 0)) rfl ?_
      refine pm_go (g := (161, [(4, .int 1), (0, .ref 25), (1, .int 1), (2, .int (b)), (3, .int (c))], [.int 1, .int 1], g9_18 (pg xs) 1 b c d, 0, 0)) rfl ?_
      refine pm_go (g := (162, [(4, .int 1), (0, .ref 25), (1, .int 1), (2, .int (b)), (3, .int (c))], [.int 0], g9_18 (pg xs) 1 b c d, 0, 0)) rfl ?_
      refine pm_ret rfl ?_
      show pm_WP 0 (443, [(3, .int 0), (2, .ref 25), (1, .ref 1), (0, .ref 0)], [.int 0, .int 0], g9_18 (pg xs) 1 b c d, 599950, 7298497) _
      refine pm_brT (g := (873, [(3, .int 0), (2, .ref 25), (1, .ref 1), (0, .ref 0)], [], g9_18 (pg xs) 1 b c d, 599950, 7298497)) rfl ?_
      refine pm_go (g := (876, [(3, .int 5), (2, .ref 25), (1, .ref 1), (0, .ref 0)], [], g9_18 (pg xs) 1 b c d, 599950, 7298497)) rfl ?_
      refine pm_go (g := (18, [(3, .int 5), (2, .ref 25), (1, .ref 1), (0, .ref 0)], [], g9_18 (pg xs) 1 b c d, 599950, 7298497)) rfl ?_
      refine pm_go (g := (19, [(3, .int 5), (2, .ref 25), (1, .ref 1), (0, .ref 0)], [.int 5], g9_18 (pg xs) 1 b c d, 599950, 7298497)) rfl ?_
      refine pm_go (g := (20, [(3, .int 5), (2, .ref 25), (1, .ref 1), (0, .ref 0)], [.ref 0, .int 5], g9_18 (pg xs) 1 b c d, 599950, 7298497)) rfl ?_
      refine pm_go (g := (21, [(3, .int 5), (2, .ref 25), (1, .ref 1), (0, .ref 0)], [.int 5, .int 5], g9_18 (pg xs) 1 b c d, 599950, 7298497)) rfl ?_
      refine pm_go (g := (22, [(3, .int 5), (2, .ref 25), (1, .ref 1), (0, .ref 0)], [.int 5, .int 5, .int 5], g9_18 (pg xs) 1 b c d, 599950, 7298497)) rfl ?_
      refine pm_go (g := (23, [(3, .int 5), (2, .ref 25), (1, .ref 1), (0, .ref 0)], [.int 0, .int 5], g9_18 (pg xs) 1 b c d, 599950, 7298497)) rfl ?_
      refine pm_brT (g := (879, [(3, .int 5), (2, .ref 25), (1, .ref 1), (0, .ref 0)], [], g9_18 (pg xs) 1 b c d, 599950, 7298497)) rfl ?_
      refine pm_go (g := (880, [(3, .int 5), (2, .ref 25), (1, .ref 1), (0, .ref 0)], [.int 1], g9_18 (pg xs) 1 b c d, 599950, 7298497)) rfl ?_
      exact pm_ret rfl rfl
    have q9 := qF_lt (cx := c.toInt) (cy := 6) rfl (by decide) q9
    refine pm_go (g := (25, [(0, .ref 1), (1, .int 1), (2, .int (b)), (3, .int (c))], [.int (-1)], g9_0 (pg xs) 1 b c d, 1, 3)) rfl ?_
    refine pm_ret rfl ?_
    show pm_WP 0 (424, [(3, .int 0), (2, .ref 25), (1, .ref 1), (0, .ref 0)], [.int (-1)], g9_0 (pg xs) 1 b c d, 599950, 7298497) _
    refine pm_go (g := (425, [(3, .int 0), (2, .ref 25), (1, .ref 1), (0, .ref 0)], [.ref 25, .int (-1)], g9_0 (pg xs) 1 b c d, 599950, 7298497)) rfl ?_
    refine pm_go (g := (426, [(3, .int 0), (2, .ref 25), (1, .ref 1), (0, .ref 0)], [.ref 0, .ref 25, .int (-1)], g9_0 (pg xs) 1 b c d, 599950, 7298497)) rfl ?_
    refine pm_go (g := (427, [(3, .int 0), (2, .ref 25), (1, .ref 1), (0, .ref 0)], [.int 0, .ref 0, .ref 25, .int (-1)], g9_0 (pg xs) 1 b c d, 599950, 7298497)) rfl ?_
    refine pm_go (g := (428, [(3, .int 0), (2, .ref 25), (1, .ref 1), (0, .ref 0)], [.int 1, .int 0, .ref 0, .ref 25, .int (-1)], g9_0 (pg xs) 1 b c d, 599950, 7298497)) rfl ?_
    refine pm_go (g := (429, [(3, .int 0), (2, .ref 25), (1, .ref 1), (0, .ref 0)], [.int 1, .ref 0, .ref 25, .int (-1)], g9_0 (pg xs) 1 b c d, 599950, 7298497)) rfl ?_
    refine pm_go (g := (430, [(3, .int 0), (2, .ref 25), (1, .ref 1), (0, .ref 0)], [.int (xs 1), .ref 25, .int (-1)], g9_0 (pg xs) 1 b c d, 599950, 7298497)) rfl ?_
    rw [← ea]
    refine pm_go (g := (431, [(3, .int 0), (2, .ref 25), (1, .ref 1), (0, .ref 0)], [.ref 0, .int 1, .ref 25, .int (-1)], g9_0 (pg xs) 1 b c d, 599950, 7298497)) rfl ?_
    refine pm_go (g := (432, [(3, .int 0), (2, .ref 25), (1, .ref 1), (0, .ref 0)], [.int 0, .ref 0, .int 1, .ref 25, .int (-1)], g9_0 (pg xs) 1 b c d, 599950, 7298497)) rfl ?_
    refine pm_go (g := (433, [(3, .int 0), (2, .ref 25), (1, .ref 1), (0, .ref 0)], [.int 2, .int 0, .ref 0, .int 1, .ref 25, .int (-1)], g9_0 (pg xs) 1 b c d, 599950, 7298497)) rfl ?_
    refine pm_go (g := (434, [(3, .int 0), (2, .ref 25), (1, .ref 1), (0, .ref 0)], [.int 2, .ref 0, .int 1, .ref 25, .int (-1)], g9_0 (pg xs) 1 b c d, 599950, 7298497)) rfl ?_
    refine pm_go (g := (435, [(3, .int 0), (2, .ref 25), (1, .ref 1), (0, .ref 0)], [.int (xs 2), .int 1, .ref 25, .int (-1)], g9_0 (pg xs) 1 b c d, 599950, 7298497)) rfl ?_
    rw [← eb]
    refine pm_go (g := (436, [(3, .int 0), (2, .ref 25), (1, .ref 1), (0, .ref 0)], [.ref 0, .int (b), .int 1, .ref 25, .int (-1)], g9_0 (pg xs) 1 b c d, 599950, 7298497)) rfl ?_
    refine pm_go (g := (437, [(3, .int 0), (2, .ref 25), (1, .ref 1), (0, .ref 0)], [.int 0, .ref 0, .int (b), .int 1, .ref 25, .int (-1)], g9_0 (pg xs) 1 b c d, 599950, 7298497)) rfl ?_
    refine pm_go (g := (438, [(3, .int 0), (2, .ref 25), (1, .ref 1), (0, .ref 0)], [.int 3, .int 0, .ref 0, .int (b), .int 1, .ref 25, .int (-1)], g9_0 (pg xs) 1 b c d, 599950, 7298497)) rfl ?_
    refine pm_go (g := (439, [(3, .int 0), (2, .ref 25), (1, .ref 1), (0, .ref 0)], [.int 3, .ref 0, .int (b), .int 1, .ref 25, .int (-1)], g9_0 (pg xs) 1 b c d, 599950, 7298497)) rfl ?_
    refine pm_go (g := (440, [(3, .int 0), (2, .ref 25), (1, .ref 1), (0, .ref 0)], [.int (xs 3), .int (b), .int 1, .ref 25, .int (-1)], g9_0 (pg xs) 1 b c d, 599950, 7298497)) rfl ?_
    rw [← ec]
    refine pm_callD (z := 163) (as := [.ref 25, .int 1, .int (b), .int (c)]) (rest := [.int (-1)]) rfl ?_
    show pm_WP 163 (0, [(0, .ref 25), (1, .int 1), (2, .int (b)), (3, .int (c))], [], g9_0 (pg xs) 1 b c d, 0, 0) _
    refine pm_go (g := (1, [(0, .ref 25), (1, .int 1), (2, .int (b)), (3, .int (c))], [.int 1], g9_0 (pg xs) 1 b c d, 0, 0)) rfl ?_
    refine pm_go (g := (2, [(0, .ref 25), (1, .int 1), (2, .int (b)), (3, .int (c))], [.int 0, .int 1], g9_0 (pg xs) 1 b c d, 0, 0)) rfl ?_
    refine pm_go (g := (3, [(0, .ref 25), (1, .int 1), (2, .int (b)), (3, .int (c))], [.int 4, .int 0, .int 1], g9_0 (pg xs) 1 b c d, 0, 0)) rfl ?_
    refine pm_callD (z := 128) (as := [.int 1, .int 0, .int 4]) (rest := []) rfl ?_
    show pm_WP 128 (0, [(0, .int 1), (1, .int 0), (2, .int 4)], [], g9_0 (pg xs) 1 b c d, 0, 0) _
    refine pm_go (g := (1, [(0, .int 1), (1, .int 0), (2, .int 4)], [.int 1], g9_0 (pg xs) 1 b c d, 0, 0)) rfl ?_
    refine pm_go (g := (2, [(0, .int 1), (1, .int 0), (2, .int 4)], [.int 0, .int 1], g9_0 (pg xs) 1 b c d, 0, 0)) rfl ?_
    refine pm_brF (h := (5, [(0, .int 1), (1, .int 0), (2, .int 4)], [], g9_0 (pg xs) 1 b c d, 0, 0)) rfl ?_
    refine pm_go (g := (6, [(0, .int 1), (1, .int 0), (2, .int 4)], [.int 1], g9_0 (pg xs) 1 b c d, 0, 0)) rfl ?_
    refine pm_go (g := (7, [(0, .int 1), (1, .int 0), (2, .int 4)], [.int 4, .int 1], g9_0 (pg xs) 1 b c d, 0, 0)) rfl ?_
    refine pm_brF (h := (10, [(0, .int 1), (1, .int 0), (2, .int 4)], [], g9_0 (pg xs) 1 b c d, 0, 0)) rfl ?_
    refine pm_go (g := (11, [(0, .int 1), (1, .int 0), (2, .int 4)], [.int 1], g9_0 (pg xs) 1 b c d, 0, 0)) rfl ?_
    refine pm_go (g := (15, [(0, .int 1), (1, .int 0), (2, .int 4)], [.int 1], g9_0 (pg xs) 1 b c d, 0, 0)) rfl ?_
    refine pm_ret rfl ?_
    show pm_WP 163 (6, [(0, .ref 25), (1, .int 1), (2, .int (b)), (3, .int (c))], [.int 1], g9_0 (pg xs) 1 b c d, 0, 0) _
    refine pm_brT (g := (11, [(0, .ref 25), (1, .int 1), (2, .int (b)), (3, .int (c))], [], g9_0 (pg xs) 1 b c d, 0, 0)) rfl ?_
    refine pm_go (g := (12, [(0, .ref 25), (1, .int 1), (2, .int (b)), (3, .int (c))], [.int 1], g9_0 (pg xs) 1 b c d, 0, 0)) rfl ?_
    refine pm_go (g := (13, [(0, .ref 25), (1, .int 1), (2, .int (b)), (3, .int (c))], [.int 2, .int 1], g9_0 (pg xs) 1 b c d, 0, 0)) rfl ?_
    refine pm_brF (h := (16, [(0, .ref 25), (1, .int 1), (2, .int (b)), (3, .int (c))], [], g9_0 (pg xs) 1 b c d, 0, 0)) rfl ?_
    refine pm_go (g := (17, [(0, .ref 25), (1, .int 1), (2, .int (b)), (3, .int (c))], [.ref 25], g9_0 (pg xs) 1 b c d, 0, 0)) rfl ?_
    refine pm_go (g := (18, [(0, .ref 25), (1, .int 1), (2, .int (b)), (3, .int (c))], [.int (b), .ref 25], g9_0 (pg xs) 1 b c d, 0, 0)) rfl ?_
    refine pm_callD (z := 129) (as := [.ref 25, .int (b)]) (rest := []) rfl ?_
    show pm_WP 129 (0, [(0, .ref 25), (1, .int (b))], [], g9_0 (pg xs) 1 b c d, 0, 0) _
    refine pm_go (g := (1, [(0, .ref 25), (1, .int (b))], [.int (b)], g9_0 (pg xs) 1 b c d, 0, 0)) rfl ?_
    refine pm_go (g := (2, [(0, .ref 25), (1, .int (b))], [.int 0, .int (b)], g9_0 (pg xs) 1 b c d, 0, 0)) rfl ?_
    refine pm_go (g := (3, [(0, .ref 25), (1, .int (b))], [.ref 25, .int 0, .int (b)], g9_0 (pg xs) 1 b c d, 0, 0)) rfl ?_
    refine pm_go (g := (6, [(0, .ref 25), (1, .int (b))], [.int 2, .int 0, .int (b)], g9_0 (pg xs) 1 b c d, 0, 0)) rfl ?_
    refine pm_go (g := (7, [(0, .ref 25), (1, .int (b))], [.int 1, .int 2, .int 0, .int (b)], g9_0 (pg xs) 1 b c d, 0, 0)) rfl ?_
    refine pm_go (g := (8, [(0, .ref 25), (1, .int (b))], [.int 1, .int 0, .int (b)], g9_0 (pg xs) 1 b c d, 0, 0)) rfl ?_
    refine pm_callD (z := 128) (as := [.int (b), .int 0, .int 1]) (rest := []) rfl ?_
    show pm_WP 128 (0, [(0, .int (b)), (1, .int 0), (2, .int 1)], [], g9_0 (pg xs) 1 b c d, 0, 0) _
    refine pm_go (g := (1, [(0, .int (b)), (1, .int 0), (2, .int 1)], [.int (b)], g9_0 (pg xs) 1 b c d, 0, 0)) rfl ?_
    refine pm_go (g := (2, [(0, .int (b)), (1, .int 0), (2, .int 1)], [.int 0, .int (b)], g9_0 (pg xs) 1 b c d, 0, 0)) rfl ?_
    refine pm_ifF (h := (5, [(0, .int (b)), (1, .int 0), (2, .int 1)], [], g9_0 (pg xs) 1 b c d, 0, 0)) rfl (rF_lt (cx := b.toInt) (cy := 0) rfl (by decide) (by omega)) ?_
    refine pm_go (g := (6, [(0, .int (b)), (1, .int 0), (2, .int 1)], [.int (b)], g9_0 (pg xs) 1 b c d, 0, 0)) rfl ?_
    refine pm_go (g := (7, [(0, .int (b)), (1, .int 0), (2, .int 1)], [.int 1, .int (b)], g9_0 (pg xs) 1 b c d, 0, 0)) rfl ?_
    refine pm_ifF (h := (10, [(0, .int (b)), (1, .int 0), (2, .int 1)], [], g9_0 (pg xs) 1 b c d, 0, 0)) rfl (rF_gt (cx := b.toInt) (cy := 1) rfl (by decide) (by omega)) ?_
    refine pm_go (g := (11, [(0, .int (b)), (1, .int 0), (2, .int 1)], [.int 1], g9_0 (pg xs) 1 b c d, 0, 0)) rfl ?_
    refine pm_go (g := (15, [(0, .int (b)), (1, .int 0), (2, .int 1)], [.int 1], g9_0 (pg xs) 1 b c d, 0, 0)) rfl ?_
    refine pm_ret rfl ?_
    show pm_WP 129 (11, [(0, .ref 25), (1, .int (b))], [.int 1], g9_0 (pg xs) 1 b c d, 0, 0) _
    refine pm_ret rfl ?_
    show pm_WP 163 (21, [(0, .ref 25), (1, .int 1), (2, .int (b)), (3, .int (c))], [.int 1], g9_0 (pg xs) 1 b c d, 0, 0) _
    refine pm_go (g := (81, [(0, .ref 25), (1, .int 1), (2, .int (b)), (3, .int (c))], [.int 1], g9_0 (pg xs) 1 b c d, 0, 0)) rfl ?_
    refine pm_go (g := (83, [(4, .int 1), (0, .ref 25), (1, .int 1), (2, .int (b)), (3, .int (c))], [], g9_0 (pg xs) 1 b c d, 0, 0)) rfl ?_
    refine pm_go (g := (85, [(4, .int 1), (0, .ref 25), (1, .int 1), (2, .int (b)), (3, .int (c))], [.int 1], g9_0 (pg xs) 1 b c d, 0, 0)) rfl ?_
    refine pm_brF (h := (88, [(4, .int 1), (0, .ref 25), (1, .int 1), (2, .int (b)), (3, .int (c))], [], g9_0 (pg xs) 1 b c d, 0, 0)) rfl ?_
    refine pm_go (g := (89, [(4, .int 1), (0, .ref 25), (1, .int 1), (2, .int (b)), (3, .int (c))], [.int 1], g9_0 (pg xs) 1 b c d, 0, 0)) rfl ?_
    refine pm_go (g := (90, [(4, .int 1), (0, .ref 25), (1, .int 1), (2, .int (b)), (3, .int (c))], [.int 3, .int 1], g9_0 (pg xs) 1 b c d, 0, 0)) rfl ?_
    refine pm_brF (h := (93, [(4, .int 1), (0, .ref 25), (1, .int 1), (2, .int (b)), (3, .int (c))], [], g9_0 (pg xs) 1 b c d, 0, 0)) rfl ?_
    refine pm_go (g := (94, [(4, .int 1), (0, .ref 25), (1, .int 1), (2, .int (b)), (3, .int (c))], [.int (c)], g9_0 (pg xs) 1 b c d, 0, 0)) rfl ?_
    refine pm_go (g := (95, [(4, .int 1), (0, .ref 25), (1, .int 1), (2, .int (b)), (3, .int (c))], [.int 0, .int (c)], g9_0 (pg xs) 1 b c d, 0, 0)) rfl ?_
    refine pm_go (g := (96, [(4, .int 1), (0, .ref 25), (1, .int 1), (2, .int (b)), (3, .int (c))], [.int 5, .int 0, .int (c)], g9_0 (pg xs) 1 b c d, 0, 0)) rfl ?_
    refine pm_callD (z := 128) (as := [.int (c), .int 0, .int 5]) (rest := []) rfl ?_
    show pm_WP 128 (0, [(0, .int (c)), (1, .int 0), (2, .int 5)], [], g9_0 (pg xs) 1 b c d, 0, 0) _
    refine pm_go (g := (1, [(0, .int (c)), (1, .int 0), (2, .int 5)], [.int (c)], g9_0 (pg xs) 1 b c d, 0, 0)) rfl ?_
    refine pm_go (g := (2, [(0, .int (c)), (1, .int 0), (2, .int 5)], [.int 0, .int (c)], g9_0 (pg xs) 1 b c d, 0, 0)) rfl ?_
    refine pm_ifF (h := (5, [(0, .int (c)), (1, .int 0), (2, .int 5)], [], g9_0 (pg xs) 1 b c d, 0, 0)) rfl (rF_lt (cx := c.toInt) (cy := 0) rfl (by decide) (by omega)) ?_
    refine pm_go (g := (6, [(0, .int (c)), (1, .int 0), (2, .int 5)], [.int (c)], g9_0 (pg xs) 1 b c d, 0, 0)) rfl ?_
    refine pm_go (g := (7, [(0, .int (c)), (1, .int 0), (2, .int 5)], [.int 5, .int (c)], g9_0 (pg xs) 1 b c d, 0, 0)) rfl ?_
    refine pm_ifT (g := (14, [(0, .int (c)), (1, .int 0), (2, .int 5)], [], g9_0 (pg xs) 1 b c d, 0, 0)) rfl (rT_gt (cx := c.toInt) (cy := 5) rfl (by decide) (by omega)) ?_
    refine pm_go (g := (15, [(0, .int (c)), (1, .int 0), (2, .int 5)], [.int 0], g9_0 (pg xs) 1 b c d, 0, 0)) rfl ?_
    refine pm_ret rfl ?_
    show pm_WP 163 (99, [(4, .int 1), (0, .ref 25), (1, .int 1), (2, .int (b)), (3, .int (c))], [.int 0], g9_0 (pg xs) 1 b c d, 0, 0) _
    refine pm_brF (h := (102, [(4, .int 1), (0, .ref 25), (1, .int 1), (2, .int (b)), (3, .int (c))], [], g9_0 (pg xs) 1 b c d, 0, 0)) rfl ?_
    refine pm_go (g := (103, [(4, .int 1), (0, .ref 25), (1, .int 1), (2, .int (b)), (3, .int (c))], [.int (-1)], g9_0 (pg xs) 1 b c d, 0, 0)) rfl ?_
    refine pm_ret rfl ?_
    show pm_WP 0 (443, [(3, .int 0), (2, .ref 25), (1, .ref 1), (0, .ref 0)], [.int (-1), .int (-1)], g9_0 (pg xs) 1 b c d, 599950, 7298497) _
    refine pm_brT (g := (873, [(3, .int 0), (2, .ref 25), (1, .ref 1), (0, .ref 0)], [], g9_0 (pg xs) 1 b c d, 599950, 7298497)) rfl ?_
    refine pm_go (g := (876, [(3, .int 5), (2, .ref 25), (1, .ref 1), (0, .ref 0)], [], g9_0 (pg xs) 1 b c d, 599950, 7298497)) rfl ?_
    refine pm_go (g := (18, [(3, .int 5), (2, .ref 25), (1, .ref 1), (0, .ref 0)], [], g9_0 (pg xs) 1 b c d, 599950, 7298497)) rfl ?_
    refine pm_go (g := (19, [(3, .int 5), (2, .ref 25), (1, .ref 1), (0, .ref 0)], [.int 5], g9_0 (pg xs) 1 b c d, 599950, 7298497)) rfl ?_
    refine pm_go (g := (20, [(3, .int 5), (2, .ref 25), (1, .ref 1), (0, .ref 0)], [.ref 0, .int 5], g9_0 (pg xs) 1 b c d, 599950, 7298497)) rfl ?_
    refine pm_go (g := (21, [(3, .int 5), (2, .ref 25), (1, .ref 1), (0, .ref 0)], [.int 5, .int 5], g9_0 (pg xs) 1 b c d, 599950, 7298497)) rfl ?_
    refine pm_go (g := (22, [(3, .int 5), (2, .ref 25), (1, .ref 1), (0, .ref 0)], [.int 5, .int 5, .int 5], g9_0 (pg xs) 1 b c d, 599950, 7298497)) rfl ?_
    refine pm_go (g := (23, [(3, .int 5), (2, .ref 25), (1, .ref 1), (0, .ref 0)], [.int 0, .int 5], g9_0 (pg xs) 1 b c d, 599950, 7298497)) rfl ?_
    refine pm_brT (g := (879, [(3, .int 5), (2, .ref 25), (1, .ref 1), (0, .ref 0)], [], g9_0 (pg xs) 1 b c d, 599950, 7298497)) rfl ?_
    refine pm_go (g := (880, [(3, .int 5), (2, .ref 25), (1, .ref 1), (0, .ref 0)], [.int 1], g9_0 (pg xs) 1 b c d, 599950, 7298497)) rfl ?_
    exact pm_ret rfl rfl
  ·
    obtain rfl : a = 2 := xI (c := 2) (by decide) (by omega)
    show pm_WP 111 (1, [(0, .ref 1), (1, .int 2), (2, .int (b))], [.int 2], g9_0 (pg xs) 2 b c d, 0, 0) _
    refine pm_go (g := (45, [(0, .ref 1), (1, .int 2), (2, .int (b))], [], g9_0 (pg xs) 2 b c d, 0, 0)) rfl ?_
    refine pm_go (g := (46, [(0, .ref 1), (1, .int 2), (2, .int (b))], [.ref 1], g9_0 (pg xs) 2 b c d, 0, 0)) rfl ?_
    refine pm_go (g := (49, [(0, .ref 1), (1, .int 2), (2, .int (b))], [.ref 2], g9_0 (pg xs) 2 b c d, 0, 0)) rfl ?_
    refine pm_go (g := (50, [(0, .ref 1), (1, .int 2), (2, .int (b))], [.int (b), .ref 2], g9_0 (pg xs) 2 b c d, 0, 0)) rfl ?_
    refine pm_callD (z := 81) (as := [.ref 2, .int (b)]) (rest := []) rfl ?_
    show pm_WP 81 (0, [(0, .ref 2), (1, .int (b))], [], g9_0 (pg xs) 2 b c d, 0, 0) _
    refine pm_go (g := (1, [(0, .ref 2), (1, .int (b))], [.int (b)], g9_0 (pg xs) 2 b c d, 0, 0)) rfl ?_
    refine pm_if2 (g := (16, [(0, .ref 2), (1, .int (b))], [], g9_0 (pg xs) 2 b c d, 0, 0)) (h := (4, [(0, .ref 2), (1, .int (b))], [], g9_0 (pg xs) 2 b c d, 0, 0)) rfl (fun q10 => ?_) (fun q10 => ?_)
    ·
      have q10 := qT_lt (cx := b.toInt) (cy := 0) rfl (by decide) q10
      refine pm_go (g := (17, [(0, .ref 2), (1, .int (b))], [.int 0], g9_0 (pg xs) 2 b c d, 0, 0)) rfl ?_
      refine pm_ret rfl ?_
      show pm_WP 111 (53, [(0, .ref 1), (1, .int 2), (2, .int (b))], [.int 0], g9_0 (pg xs) 2 b c d, 0, 0) _
      refine pm_brT (g := (64, [(0, .ref 1), (1, .int 2), (2, .int (b))], [], g9_0 (pg xs) 2 b c d, 0, 0)) rfl ?_
      refine pm_go (g := (65, [(0, .ref 1), (1, .int 2), (2, .int (b))], [.int 0], g9_0 (pg xs) 2 b c d, 0, 0)) rfl ?_
      refine pm_ret rfl ?_
      show pm_WP 104 (6, [(0, .ref 1), (1, .int 2), (2, .int (b)), (3, .int (c))], [.int 0], g9_0 (pg xs) 2 b c d, 1, 3) _
      refine pm_brT (g := (24, [(0, .ref 1), (1, .int 2), (2, .int (b)), (3, .int (c))], [], g9_0 (pg xs) 2 b c d, 1, 3)) rfl ?_
      refine pm_go (g := (25, [(0, .ref 1), (1, .int 2), (2, .int (b)), (3, .int (c))], [.int (-1)], g9_0 (pg xs) 2 b c d, 1, 3)) rfl ?_
      refine pm_ret rfl ?_
      show pm_WP 0 (424, [(3, .int 0), (2, .ref 25), (1, .ref 1), (0, .ref 0)], [.int (-1)], g9_0 (pg xs) 2 b c d, 599950, 7298497) _
      refine pm_go (g := (425, [(3, .int 0), (2, .ref 25), (1, .ref 1), (0, .ref 0)], [.ref 25, .int (-1)], g9_0 (pg xs) 2 b c d, 599950, 7298497)) rfl ?_
      refine pm_go (g := (426, [(3, .int 0), (2, .ref 25), (1, .ref 1), (0, .ref 0)], [.ref 0, .ref 25, .int (-1)], g9_0 (pg xs) 2 b c d, 599950, 7298497)) rfl ?_
      refine pm_go (g := (427, [(3, .int 0), (2, .ref 25), (1, .ref 1), (0, .ref 0)], [.int 0, .ref 0, .ref 25, .int (-1)], g9_0 (pg xs) 2 b c d, 599950, 7298497)) rfl ?_
      refine pm_go (g := (428, [(3, .int 0), (2, .ref 25), (1, .ref 1), (0, .ref 0)], [.int 1, .int 0, .ref 0, .ref 25, .int (-1)], g9_0 (pg xs) 2 b c d, 599950, 7298497)) rfl ?_
      refine pm_go (g := (429, [(3, .int 0), (2, .ref 25), (1, .ref 1), (0, .ref 0)], [.int 1, .ref 0, .ref 25, .int (-1)], g9_0 (pg xs) 2 b c d, 599950, 7298497)) rfl ?_
      refine pm_go (g := (430, [(3, .int 0), (2, .ref 25), (1, .ref 1), (0, .ref 0)], [.int (xs 1), .ref 25, .int (-1)], g9_0 (pg xs) 2 b c d, 599950, 7298497)) rfl ?_
      rw [← ea]
      refine pm_go (g := (431, [(3, .int 0), (2, .ref 25), (1, .ref 1), (0, .ref 0)], [.ref 0, .int 2, .ref 25, .int (-1)], g9_0 (pg xs) 2 b c d, 599950, 7298497)) rfl ?_
      refine pm_go (g := (432, [(3, .int 0), (2, .ref 25), (1, .ref 1), (0, .ref 0)], [.int 0, .ref 0, .int 2, .ref 25, .int (-1)], g9_0 (pg xs) 2 b c d, 599950, 7298497)) rfl ?_
      refine pm_go (g := (433, [(3, .int 0), (2, .ref 25), (1, .ref 1), (0, .ref 0)], [.int 2, .int 0, .ref 0, .int 2, .ref 25, .int (-1)], g9_0 (pg xs) 2 b c d, 599950, 7298497)) rfl ?_
      refine pm_go (g := (434, [(3, .int 0), (2, .ref 25), (1, .ref 1), (0, .ref 0)], [.int 2, .ref 0, .int 2, .ref 25, .int (-1)], g9_0 (pg xs) 2 b c d, 599950, 7298497)) rfl ?_
      refine pm_go (g := (435, [(3, .int 0), (2, .ref 25), (1, .ref 1), (0, .ref 0)], [.int (xs 2), .int 2, .ref 25, .int (-1)], g9_0 (pg xs) 2 b c d, 599950, 7298497)) rfl ?_
      rw [← eb]
      refine pm_go (g := (436, [(3, .int 0), (2, .ref 25), (1, .ref 1), (0, .ref 0)], [.ref 0, .int (b), .int 2, .ref 25, .int (-1)], g9_0 (pg xs) 2 b c d, 599950, 7298497)) rfl ?_
      refine pm_go (g := (437, [(3, .int 0), (2, .ref 25), (1, .ref 1), (0, .ref 0)], [.int 0, .ref 0, .int (b), .int 2, .ref 25, .int (-1)], g9_0 (pg xs) 2 b c d, 599950, 7298497)) rfl ?_
      refine pm_go (g := (438, [(3, .int 0), (2, .ref 25), (1, .ref 1), (0, .ref 0)], [.int 3, .int 0, .ref 0, .int (b), .int 2, .ref 25, .int (-1)], g9_0 (pg xs) 2 b c d, 599950, 7298497)) rfl ?_
      refine pm_go (g := (439, [(3, .int 0), (2, .ref 25), (1, .ref 1), (0, .ref 0)], [.int 3, .ref 0, .int (b), .int 2, .ref 25, .int (-1)], g9_0 (pg xs) 2 b c d, 599950, 7298497)) rfl ?_
      refine pm_go (g := (440, [(3, .int 0), (2, .ref 25), (1, .ref 1), (0, .ref 0)], [.int (xs 3), .int (b), .int 2, .ref 25, .int (-1)], g9_0 (pg xs) 2 b c d, 599950, 7298497)) rfl ?_
      rw [← ec]
      refine pm_callD (z := 163) (as := [.ref 25, .int 2, .int (b), .int (c)]) (rest := [.int (-1)]) rfl ?_
      show pm_WP 163 (0, [(0, .ref 25), (1, .int 2), (2, .int (b)), (3, .int (c))], [], g9_0 (pg xs) 2 b c d, 0, 0) _
      refine pm_go (g := (1, [(0, .ref 25), (1, .int 2), (2, .int (b)), (3, .int (c))], [.int 2], g9_0 (pg xs) 2 b c d, 0, 0)) rfl ?_
      refine pm_go (g := (2, [(0, .ref 25), (1, .int 2), (2, .int (b)), (3, .int (c))], [.int 0, .int 2], g9_0 (pg xs) 2 b c d, 0, 0)) rfl ?_
      refine pm_go (g := (3, [(0, .ref 25), (1, .int 2), (2, .int (b)), (3, .int (c))], [.int 4, .int 0, .int 2], g9_0 (pg xs) 2 b c d, 0, 0)) rfl ?_
      refine pm_callD (z := 128) (as := [.int 2, .int 0, .int 4]) (rest := []) rfl ?_
      show pm_WP 128 (0, [(0, .int 2), (1, .int 0), (2, .int 4)], [], g9_0 (pg xs) 2 b c d, 0, 0) _
      refine pm_go (g := (1, [(0, .int 2), (1, .int 0), (2, .int 4)], [.int 2], g9_0 (pg xs) 2 b c d, 0, 0)) rfl ?_
      refine pm_go (g := (2, [(0, .int 2), (1, .int 0), (2, .int 4)], [.int 0, .int 2], g9_0 (pg xs) 2 b c d, 0, 0)) rfl ?_
      refine pm_brF (h := (5, [(0, .int 2), (1, .int 0), (2, .int 4)], [], g9_0 (pg xs) 2 b c d, 0, 0)) rfl ?_
      refine pm_go (g := (6, [(0, .int 2), (1, .int 0), (2, .int 4)], [.int 2], g9_0 (pg xs) 2 b c d, 0, 0)) rfl ?_
      refine pm_go (g := (7, [(0, .int 2), (1, .int 0), (2, .int 4)], [.int 4, .int 2], g9_0 (pg xs) 2 b c d, 0, 0)) rfl ?_
      refine pm_brF (h := (10, [(0, .int 2), (1, .int 0), (2, .int 4)], [], g9_0 (pg xs) 2 b c d, 0, 0)) rfl ?_
      refine pm_go (g := (11, [(0, .int 2), (1, .int 0), (2, .int 4)], [.int 1], g9_0 (pg xs) 2 b c d, 0, 0)) rfl ?_
      refine pm_go (g := (15, [(0, .int 2), (1, .int 0), (2, .int 4)], [.int 1], g9_0 (pg xs) 2 b c d, 0, 0)) rfl ?_
      refine pm_ret rfl ?_
      show pm_WP 163 (6, [(0, .ref 25), (1, .int 2), (2, .int (b)), (3, .int (c))], [.int 1], g9_0 (pg xs) 2 b c d, 0, 0) _
      refine pm_brT (g := (11, [(0, .ref 25), (1, .int 2), (2, .int (b)), (3, .int (c))], [], g9_0 (pg xs) 2 b c d, 0, 0)) rfl ?_
      refine pm_go (g := (12, [(0, .ref 25), (1, .int 2), (2, .int (b)), (3, .int (c))], [.int 2], g9_0 (pg xs) 2 b c d, 0, 0)) rfl ?_
      refine pm_go (g := (13, [(0, .ref 25), (1, .int 2), (2, .int (b)), (3, .int (c))], [.int 2, .int 2], g9_0 (pg xs) 2 b c d, 0, 0)) rfl ?_
      refine pm_brT (g := (24, [(0, .ref 25), (1, .int 2), (2, .int (b)), (3, .int (c))], [], g9_0 (pg xs) 2 b c d, 0, 0)) rfl ?_
      refine pm_go (g := (25, [(0, .ref 25), (1, .int 2), (2, .int (b)), (3, .int (c))], [.int 2], g9_0 (pg xs) 2 b c d, 0, 0)) rfl ?_
      refine pm_go (g := (26, [(0, .ref 25), (1, .int 2), (2, .int (b)), (3, .int (c))], [.int 2, .int 2], g9_0 (pg xs) 2 b c d, 0, 0)) rfl ?_
      refine pm_brF (h := (29, [(0, .ref 25), (1, .int 2), (2, .int (b)), (3, .int (c))], [], g9_0 (pg xs) 2 b c d, 0, 0)) rfl ?_
      refine pm_go (g := (30, [(0, .ref 25), (1, .int 2), (2, .int (b)), (3, .int (c))], [.ref 25], g9_0 (pg xs) 2 b c d, 0, 0)) rfl ?_
      refine pm_go (g := (31, [(0, .ref 25), (1, .int 2), (2, .int (b)), (3, .int (c))], [.int (b), .ref 25], g9_0 (pg xs) 2 b c d, 0, 0)) rfl ?_
      refine pm_callD (z := 129) (as := [.ref 25, .int (b)]) (rest := []) rfl ?_
      show pm_WP 129 (0, [(0, .ref 25), (1, .int (b))], [], g9_0 (pg xs) 2 b c d, 0, 0) _
      refine pm_go (g := (1, [(0, .ref 25), (1, .int (b))], [.int (b)], g9_0 (pg xs) 2 b c d, 0, 0)) rfl ?_
      refine pm_go (g := (2, [(0, .ref 25), (1, .int (b))], [.int 0, .int (b)], g9_0 (pg xs) 2 b c d, 0, 0)) rfl ?_
      refine pm_go (g := (3, [(0, .ref 25), (1, .int (b))], [.ref 25, .int 0, .int (b)], g9_0 (pg xs) 2 b c d, 0, 0)) rfl ?_
      refine pm_go (g := (6, [(0, .ref 25), (1, .int (b))], [.int 2, .int 0, .int (b)], g9_0 (pg xs) 2 b c d, 0, 0)) rfl ?_
      refine pm_go (g := (7, [(0, .ref 25), (1, .int (b))], [.int 1, .int 2, .int 0, .int (b)], g9_0 (pg xs) 2 b c d, 0, 0)) rfl ?_
      refine pm_go (g := (8, [(0, .ref 25), (1, .int (b))], [.int 1, .int 0, .int (b)], g9_0 (pg xs) 2 b c d, 0, 0)) rfl ?_
      refine pm_callD (z := 128) (as := [.int (b), .int 0, .int 1]) (rest := []) rfl ?_
      show pm_WP 128 (0, [(0, .int (b)), (1, .int 0), (2, .int 1)], [], g9_0 (pg xs) 2 b c d, 0, 0) _
      refine pm_go (g := (1, [(0, .int (b)), (1, .int 0), (2, .int 1)], [.int (b)], g9_0 (pg xs) 2 b c d, 0, 0)) rfl ?_
      refine pm_go (g := (2, [(0, .int (b)), (1, .int 0), (2, .int 1)], [.int 0, .int (b)], g9_0 (pg xs) 2 b c d, 0, 0)) rfl ?_
      refine pm_ifT (g := (14, [(0, .int (b)), (1, .int 0), (2, .int 1)], [], g9_0 (pg xs) 2 b c d, 0, 0)) rfl (rT_lt (cx := b.toInt) (cy := 0) rfl (by decide) (by omega)) ?_
      refine pm_go (g := (15, [(0, .int (b)), (1, .int 0), (2, .int 1)], [.int 0], g9_0 (pg xs) 2 b c d, 0, 0)) rfl ?_
      refine pm_ret rfl ?_
      show pm_WP 129 (11, [(0, .ref 25), (1, .int (b))], [.int 0], g9_0 (pg xs) 2 b c d, 0, 0) _
      refine pm_ret rfl ?_
      show pm_WP 163 (34, [(0, .ref 25), (1, .int 2), (2, .int (b)), (3, .int (c))], [.int 0], g9_0 (pg xs) 2 b c d, 0, 0) _
      refine pm_brT (g := (45, [(0, .ref 25), (1, .int 2), (2, .int (b)), (3, .int (c))], [], g9_0 (pg xs) 2 b c d, 0, 0)) rfl ?_
      refine pm_go (g := (46, [(0, .ref 25), (1, .int 2), (2, .int (b)), (3, .int (c))], [.int 0], g9_0 (pg xs) 2 b c d, 0, 0)) rfl ?_
      refine pm_go (g := (81, [(0, .ref 25), (1, .int 2), (2, .int (b)), (3, .int (c))], [.int 0], g9_0 (pg xs) 2 b c d, 0, 0)) rfl ?_
      refine pm_go (g := (83, [(4, .int 0), (0, .ref 25), (1, .int 2), (2, .int (b)), (3, .int (c))], [], g9_0 (pg xs) 2 b c d, 0, 0)) rfl ?_
      refine pm_go (g := (85, [(4, .int 0), (0, .ref 25), (1, .int 2), (2, .int (b)), (3, .int (c))], [.int 0], g9_0 (pg xs) 2 b c d, 0, 0)) rfl ?_
      refine pm_brT (g := (102, [(4, .int 0), (0, .ref 25), (1, .int 2), (2, .int (b)), (3, .int (c))], [], g9_0 (pg xs) 2 b c d, 0, 0)) rfl ?_
      refine pm_go (g := (103, [(4, .int 0), (0, .ref 25), (1, .int 2), (2, .int (b)), (3, .int (c))], [.int (-1)], g9_0 (pg xs) 2 b c d, 0, 0)) rfl ?_
      refine pm_ret rfl ?_
      show pm_WP 0 (443, [(3, .int 0), (2, .ref 25), (1, .ref 1), (0, .ref 0)], [.int (-1), .int (-1)], g9_0 (pg xs) 2 b c d, 599950, 7298497) _
      refine pm_brT (g := (873, [(3, .int 0), (2, .ref 25), (1, .ref 1), (0, .ref 0)], [], g9_0 (pg xs) 2 b c d, 599950, 7298497)) rfl ?_
      refine pm_go (g := (876, [(3, .int 5), (2, .ref 25), (1, .ref 1), (0, .ref 0)], [], g9_0 (pg xs) 2 b c d, 599950, 7298497)) rfl ?_
      refine pm_go (g := (18, [(3, .int 5), (2, .ref 25), (1, .ref 1), (0, .ref 0)], [], g9_0 (pg xs) 2 b c d, 599950, 7298497)) rfl ?_
      refine pm_go (g := (19, [(3, .int 5), (2, .ref 25), (1, .ref 1), (0, .ref 0)], [.int 5], g9_0 (pg xs) 2 b c d, 599950, 7298497)) rfl ?_
      refine pm_go (g := (20, [(3, .int 5), (2, .ref 25), (1, .ref 1), (0, .ref 0)], [.ref 0, .int 5], g9_0 (pg xs) 2 b c d, 599950, 7298497)) rfl ?_
      refine pm_go (g := (21, [(3, .int 5), (2, .ref 25), (1, .ref 1), (0, .ref 0)], [.int 5, .int 5], g9_0 (pg xs) 2 b c d, 599950, 7298497)) rfl ?_
      refine pm_go (g := (22, [(3, .int 5), (2, .ref 25), (1, .ref 1), (0, .ref 0)], [.int 5, .int 5, .int 5], g9_0 (pg xs) 2 b c d, 599950, 7298497)) rfl ?_
      refine pm_go (g := (23, [(3, .int 5), (2, .ref 25), (1, .ref 1), (0, .ref 0)], [.int 0, .int 5], g9_0 (pg xs) 2 b c d, 599950, 7298497)) rfl ?_
      refine pm_brT (g := (879, [(3, .int 5), (2, .ref 25), (1, .ref 1), (0, .ref 0)], [], g9_0 (pg xs) 2 b c d, 599950, 7298497)) rfl ?_
      refine pm_go (g := (880, [(3, .int 5), (2, .ref 25), (1, .ref 1), (0, .ref 0)], [.int 1], g9_0 (pg xs) 2 b c d, 599950, 7298497)) rfl ?_
      exact pm_ret rfl rfl
    have q10 := qF_lt (cx := b.toInt) (cy := 0) rfl (by decide) q10
    refine pm_go (g := (5, [(0, .ref 2), (1, .int (b))], [.int (b)], g9_0 (pg xs) 2 b c d, 0, 0)) rfl ?_
    refine pm_go (g := (6, [(0, .ref 2), (1, .int (b))], [.ref 2, .int (b)], g9_0 (pg xs) 2 b c d, 0, 0)) rfl ?_
    refine pm_go (g := (9, [(0, .ref 2), (1, .int (b))], [.int 2, .int (b)], g9_0 (pg xs) 2 b c d, 0, 0)) rfl ?_
    refine pm_if2 (g := (16, [(0, .ref 2), (1, .int (b))], [], g9_0 (pg xs) 2 b c d, 0, 0)) (h := (12, [(0, .ref 2), (1, .int (b))], [], g9_0 (pg xs) 2 b c d, 0, 0)) rfl (fun q11 => ?_) (fun q11 => ?_)
    ·
      have q11 := qT_ge (cx := b.toInt) (cy := 2) rfl (by decide) q11
      refine pm_go (g := (17, [(0, .ref 2), (1, .int (b))], [.int 0], g9_0 (pg xs) 2 b c d, 0, 0)) rfl ?_
      refine pm_ret rfl ?_
      show pm_WP 111 (53, [(0, .ref 1), (1, .int 2), (2, .int (b))], [.int 0], g9_0 (pg xs) 2 b c d, 0, 0) _
      refine pm_brT (g := (64, [(0, .ref 1), (1, .int 2), (2, .int (b))], [], g9_0 (pg xs) 2 b c d, 0, 0)) rfl ?_
      refine pm_go (g := (65, [(0, .ref 1), (1, .int 2), (2, .int (b))], [.int 0], g9_0 (pg xs) 2 b c d, 0, 0)) rfl ?_
      refine pm_ret rfl ?_
      show pm_WP 104 (6, [(0, .ref 1), (1, .int 2), (2, .int (b)), (3, .int (c))], [.int 0], g9_0 (pg xs) 2 b c d, 1, 3) _
      refine pm_brT (g := (24, [(0, .ref 1), (1, .int 2), (2, .int (b)), (3, .int (c))], [], g9_0 (pg xs) 2 b c d, 1, 3)) rfl ?_
      refine pm_go (g := (25, [(0, .ref 1), (1, .int 2), (2, .int (b)), (3, .int (c))], [.int (-1)], g9_0 (pg xs) 2 b c d, 1, 3)) rfl ?_
      refine pm_ret rfl ?_
      show pm_WP 0 (424, [(3, .int 0), (2, .ref 25), (1, .ref 1), (0, .ref 0)], [.int (-1)], g9_0 (pg xs) 2 b c d, 599950, 7298497) _
      refine pm_go (g := (425, [(3, .int 0), (2, .ref 25), (1, .ref 1), (0, .ref 0)], [.ref 25, .int (-1)], g9_0 (pg xs) 2 b c d, 599950, 7298497)) rfl ?_
      refine pm_go (g := (426, [(3, .int 0), (2, .ref 25), (1, .ref 1), (0, .ref 0)], [.ref 0, .ref 25, .int (-1)], g9_0 (pg xs) 2 b c d, 599950, 7298497)) rfl ?_
      refine pm_go (g := (427, [(3, .int 0), (2, .ref 25), (1, .ref 1), (0, .ref 0)], [.int 0, .ref 0, .ref 25, .int (-1)], g9_0 (pg xs) 2 b c d, 599950, 7298497)) rfl ?_
      refine pm_go (g := (428, [(3, .int 0), (2, .ref 25), (1, .ref 1), (0, .ref 0)], [.int 1, .int 0, .ref 0, .ref 25, .int (-1)], g9_0 (pg xs) 2 b c d, 599950, 7298497)) rfl ?_
      refine pm_go (g := (429, [(3, .int 0), (2, .ref 25), (1, .ref 1), (0, .ref 0)], [.int 1, .ref 0, .ref 25, .int (-1)], g9_0 (pg xs) 2 b c d, 599950, 7298497)) rfl ?_
      refine pm_go (g := (430, [(3, .int 0), (2, .ref 25), (1, .ref 1), (0, .ref 0)], [.int (xs 1), .ref 25, .int (-1)], g9_0 (pg xs) 2 b c d, 599950, 7298497)) rfl ?_
      rw [← ea]
      refine pm_go (g := (431, [(3, .int 0), (2, .ref 25), (1, .ref 1), (0, .ref 0)], [.ref 0, .int 2, .ref 25, .int (-1)], g9_0 (pg xs) 2 b c d, 599950, 7298497)) rfl ?_
      refine pm_go (g := (432, [(3, .int 0), (2, .ref 25), (1, .ref 1), (0, .ref 0)], [.int 0, .ref 0, .int 2, .ref 25, .int (-1)], g9_0 (pg xs) 2 b c d, 599950, 7298497)) rfl ?_
      refine pm_go (g := (433, [(3, .int 0), (2, .ref 25), (1, .ref 1), (0, .ref 0)], [.int 2, .int 0, .ref 0, .int 2, .ref 25, .int (-1)], g9_0 (pg xs) 2 b c d, 599950, 7298497)) rfl ?_
      refine pm_go (g := (434, [(3, .int 0), (2, .ref 25), (1, .ref 1), (0, .ref 0)], [.int 2, .ref 0, .int 2, .ref 25, .int (-1)], g9_0 (pg xs) 2 b c d, 599950, 7298497)) rfl ?_
      refine pm_go (g := (435, [(3, .int 0), (2, .ref 25), (1, .ref 1), (0, .ref 0)], [.int (xs 2), .int 2, .ref 25, .int (-1)], g9_0 (pg xs) 2 b c d, 599950, 7298497)) rfl ?_
      rw [← eb]
      refine pm_go (g := (436, [(3, .int 0), (2, .ref 25), (1, .ref 1), (0, .ref 0)], [.ref 0, .int (b), .int 2, .ref 25, .int (-1)], g9_0 (pg xs) 2 b c d, 599950, 7298497)) rfl ?_
      refine pm_go (g := (437, [(3, .int 0), (2, .ref 25), (1, .ref 1), (0, .ref 0)], [.int 0, .ref 0, .int (b), .int 2, .ref 25, .int (-1)], g9_0 (pg xs) 2 b c d, 599950, 7298497)) rfl ?_
      refine pm_go (g := (438, [(3, .int 0), (2, .ref 25), (1, .ref 1), (0, .ref 0)], [.int 3, .int 0, .ref 0, .int (b), .int 2, .ref 25, .int (-1)], g9_0 (pg xs) 2 b c d, 599950, 7298497)) rfl ?_
      refine pm_go (g := (439, [(3, .int 0), (2, .ref 25), (1, .ref 1), (0, .ref 0)], [.int 3, .ref 0, .int (b), .int 2, .ref 25, .int (-1)], g9_0 (pg xs) 2 b c d, 599950, 7298497)) rfl ?_
      refine pm_go (g := (440, [(3, .int 0), (2, .ref 25), (1, .ref 1), (0, .ref 0)], [.int (xs 3), .int (b), .int 2, .ref 25, .int (-1)], g9_0 (pg xs) 2 b c d, 599950, 7298497)) rfl ?_
      rw [← ec]
      refine pm_callD (z := 163) (as := [.ref 25, .int 2, .int (b), .int (c)]) (rest := [.int (-1)]) rfl ?_
      show pm_WP 163 (0, [(0, .ref 25), (1, .int 2), (2, .int (b)), (3, .int (c))], [], g9_0 (pg xs) 2 b c d, 0, 0) _
      refine pm_go (g := (1, [(0, .ref 25), (1, .int 2), (2, .int (b)), (3, .int (c))], [.int 2], g9_0 (pg xs) 2 b c d, 0, 0)) rfl ?_
      refine pm_go (g := (2, [(0, .ref 25), (1, .int 2), (2, .int (b)), (3, .int (c))], [.int 0, .int 2], g9_0 (pg xs) 2 b c d, 0, 0)) rfl ?_
      refine pm_go (g := (3, [(0, .ref 25), (1, .int 2), (2, .int (b)), (3, .int (c))], [.int 4, .int 0, .int 2], g9_0 (pg xs) 2 b c d, 0, 0)) rfl ?_
      refine pm_callD (z := 128) (as := [.int 2, .int 0, .int 4]) (rest := []) rfl ?_
      show pm_WP 128 (0, [(0, .int 2), (1, .int 0), (2, .int 4)], [], g9_0 (pg xs) 2 b c d, 0, 0) _
      refine pm_go (g := (1, [(0, .int 2), (1, .int 0), (2, .int 4)], [.int 2], g9_0 (pg xs) 2 b c d, 0, 0)) rfl ?_
      refine pm_go (g := (2, [(0, .int 2), (1, .int 0), (2, .int 4)], [.int 0, .int 2], g9_0 (pg xs) 2 b c d, 0, 0)) rfl ?_
      refine pm_brF (h := (5, [(0, .int 2), (1, .int 0), (2, .int 4)], [], g9_0 (pg xs) 2 b c d, 0, 0)) rfl ?_
      refine pm_go (g := (6, [(0, .int 2), (1, .int 0), (2, .int 4)], [.int 2], g9_0 (pg xs) 2 b c d, 0, 0)) rfl ?_
      refine pm_go (g := (7, [(0, .int 2), (1, .int 0), (2, .int 4)], [.int 4, .int 2], g9_0 (pg xs) 2 b c d, 0, 0)) rfl ?_
      refine pm_brF (h := (10, [(0, .int 2), (1, .int 0), (2, .int 4)], [], g9_0 (pg xs) 2 b c d, 0, 0)) rfl ?_
      refine pm_go (g := (11, [(0, .int 2), (1, .int 0), (2, .int 4)], [.int 1], g9_0 (pg xs) 2 b c d, 0, 0)) rfl ?_
      refine pm_go (g := (15, [(0, .int 2), (1, .int 0), (2, .int 4)], [.int 1], g9_0 (pg xs) 2 b c d, 0, 0)) rfl ?_
      refine pm_ret rfl ?_
      show pm_WP 163 (6, [(0, .ref 25), (1, .int 2), (2, .int (b)), (3, .int (c))], [.int 1], g9_0 (pg xs) 2 b c d, 0, 0) _
      refine pm_brT (g := (11, [(0, .ref 25), (1, .int 2), (2, .int (b)), (3, .int (c))], [], g9_0 (pg xs) 2 b c d, 0, 0)) rfl ?_
      refine pm_go (g := (12, [(0, .ref 25), (1, .int 2), (2, .int (b)), (3, .int (c))], [.int 2], g9_0 (pg xs) 2 b c d, 0, 0)) rfl ?_
      refine pm_go (g := (13, [(0, .ref 25), (1, .int 2), (2, .int (b)), (3, .int (c))], [.int 2, .int 2], g9_0 (pg xs) 2 b c d, 0, 0)) rfl ?_
      refine pm_brT (g := (24, [(0, .ref 25), (1, .int 2), (2, .int (b)), (3, .int (c))], [], g9_0 (pg xs) 2 b c d, 0, 0)) rfl ?_
      refine pm_go (g := (25, [(0, .ref 25), (1, .int 2), (2, .int (b)), (3, .int (c))], [.int 2], g9_0 (pg xs) 2 b c d, 0, 0)) rfl ?_
      refine pm_go (g := (26, [(0, .ref 25), (1, .int 2), (2, .int (b)), (3, .int (c))], [.int 2, .int 2], g9_0 (pg xs) 2 b c d, 0, 0)) rfl ?_
      refine pm_brF (h := (29, [(0, .ref 25), (1, .int 2), (2, .int (b)), (3, .int (c))], [], g9_0 (pg xs) 2 b c d, 0, 0)) rfl ?_
      refine pm_go (g := (30, [(0, .ref 25), (1, .int 2), (2, .int (b)), (3, .int (c))], [.ref 25], g9_0 (pg xs) 2 b c d, 0, 0)) rfl ?_
      refine pm_go (g := (31, [(0, .ref 25), (1, .int 2), (2, .int (b)), (3, .int (c))], [.int (b), .ref 25], g9_0 (pg xs) 2 b c d, 0, 0)) rfl ?_
      refine pm_callD (z := 129) (as := [.ref 25, .int (b)]) (rest := []) rfl ?_
      show pm_WP 129 (0, [(0, .ref 25), (1, .int (b))], [], g9_0 (pg xs) 2 b c d, 0, 0) _
      refine pm_go (g := (1, [(0, .ref 25), (1, .int (b))], [.int (b)], g9_0 (pg xs) 2 b c d, 0, 0)) rfl ?_
      refine pm_go (g := (2, [(0, .ref 25), (1, .int (b))], [.int 0, .int (b)], g9_0 (pg xs) 2 b c d, 0, 0)) rfl ?_
      refine pm_go (g := (3, [(0, .ref 25), (1, .int (b))], [.ref 25, .int 0, .int (b)], g9_0 (pg xs) 2 b c d, 0, 0)) rfl ?_
      refine pm_go (g := (6, [(0, .ref 25), (1, .int (b))], [.int 2, .int 0, .int (b)], g9_0 (pg xs) 2 b c d, 0, 0)) rfl ?_
      refine pm_go (g := (7, [(0, .ref 25), (1, .int (b))], [.int 1, .int 2, .int 0, .int (b)], g9_0 (pg xs) 2 b c d, 0, 0)) rfl ?_
      refine pm_go (g := (8, [(0, .ref 25), (1, .int (b))], [.int 1, .int 0, .int (b)], g9_0 (pg xs) 2 b c d, 0, 0)) rfl ?_
      refine pm_callD (z := 128) (as := [.int (b), .int 0, .int 1]) (rest := []) rfl ?_
      show pm_WP 128 (0, [(0, .int (b)), (1, .int 0), (2, .int 1)], [], g9_0 (pg xs) 2 b c d, 0, 0) _
      refine pm_go (g := (1, [(0, .int (b)), (1, .int 0), (2, .int 1)], [.int (b)], g9_0 (pg xs) 2 b c d, 0, 0)) rfl ?_
      refine pm_go (g := (2, [(0, .int (b)), (1, .int 0), (2, .int 1)], [.int 0, .int (b)], g9_0 (pg xs) 2 b c d, 0, 0)) rfl ?_
      refine pm_ifF (h := (5, [(0, .int (b)), (1, .int 0), (2, .int 1)], [], g9_0 (pg xs) 2 b c d, 0, 0)) rfl (rF_lt (cx := b.toInt) (cy := 0) rfl (by decide) (by omega)) ?_
      refine pm_go (g := (6, [(0, .int (b)), (1, .int 0), (2, .int 1)], [.int (b)], g9_0 (pg xs) 2 b c d, 0, 0)) rfl ?_
      refine pm_go (g := (7, [(0, .int (b)), (1, .int 0), (2, .int 1)], [.int 1, .int (b)], g9_0 (pg xs) 2 b c d, 0, 0)) rfl ?_
      refine pm_ifT (g := (14, [(0, .int (b)), (1, .int 0), (2, .int 1)], [], g9_0 (pg xs) 2 b c d, 0, 0)) rfl (rT_gt (cx := b.toInt) (cy := 1) rfl (by decide) (by omega)) ?_
      refine pm_go (g := (15, [(0, .int (b)), (1, .int 0), (2, .int 1)], [.int 0], g9_0 (pg xs) 2 b c d, 0, 0)) rfl ?_
      refine pm_ret rfl ?_
      show pm_WP 129 (11, [(0, .ref 25), (1, .int (b))], [.int 0], g9_0 (pg xs) 2 b c d, 0, 0) _
      refine pm_ret rfl ?_
      show pm_WP 163 (34, [(0, .ref 25), (1, .int 2), (2, .int (b)), (3, .int (c))], [.int 0], g9_0 (pg xs) 2 b c d, 0, 0) _
      refine pm_brT (g := (45, [(0, .ref 25), (1, .int 2), (2, .int (b)), (3, .int (c))], [], g9_0 (pg xs) 2 b c d, 0, 0)) rfl ?_
      refine pm_go (g := (46, [(0, .ref 25), (1, .int 2), (2, .int (b)), (3, .int (c))], [.int 0], g9_0 (pg xs) 2 b c d, 0, 0)) rfl ?_
      refine pm_go (g := (81, [(0, .ref 25), (1, .int 2), (2, .int (b)), (3, .int (c))], [.int 0], g9_0 (pg xs) 2 b c d, 0, 0)) rfl ?_
      refine pm_go (g := (83, [(4, .int 0), (0, .ref 25), (1, .int 2), (2, .int (b)), (3, .int (c))], [], g9_0 (pg xs) 2 b c d, 0, 0)) rfl ?_
      refine pm_go (g := (85, [(4, .int 0), (0, .ref 25), (1, .int 2), (2, .int (b)), (3, .int (c))], [.int 0], g9_0 (pg xs) 2 b c d, 0, 0)) rfl ?_
      refine pm_brT (g := (102, [(4, .int 0), (0, .ref 25), (1, .int 2), (2, .int (b)), (3, .int (c))], [], g9_0 (pg xs) 2 b c d, 0, 0)) rfl ?_
      refine pm_go (g := (103, [(4, .int 0), (0, .ref 25), (1, .int 2), (2, .int (b)), (3, .int (c))], [.int (-1)], g9_0 (pg xs) 2 b c d, 0, 0)) rfl ?_
      refine pm_ret rfl ?_
      show pm_WP 0 (443, [(3, .int 0), (2, .ref 25), (1, .ref 1), (0, .ref 0)], [.int (-1), .int (-1)], g9_0 (pg xs) 2 b c d, 599950, 7298497) _
      refine pm_brT (g := (873, [(3, .int 0), (2, .ref 25), (1, .ref 1), (0, .ref 0)], [], g9_0 (pg xs) 2 b c d, 599950, 7298497)) rfl ?_
      refine pm_go (g := (876, [(3, .int 5), (2, .ref 25), (1, .ref 1), (0, .ref 0)], [], g9_0 (pg xs) 2 b c d, 599950, 7298497)) rfl ?_
      refine pm_go (g := (18, [(3, .int 5), (2, .ref 25), (1, .ref 1), (0, .ref 0)], [], g9_0 (pg xs) 2 b c d, 599950, 7298497)) rfl ?_
      refine pm_go (g := (19, [(3, .int 5), (2, .ref 25), (1, .ref 1), (0, .ref 0)], [.int 5], g9_0 (pg xs) 2 b c d, 599950, 7298497)) rfl ?_
      refine pm_go (g := (20, [(3, .int 5), (2, .ref 25), (1, .ref 1), (0, .ref 0)], [.ref 0, .int 5], g9_0 (pg xs) 2 b c d, 599950, 7298497)) rfl ?_
      refine pm_go (g := (21, [(3, .int 5), (2, .ref 25), (1, .ref 1), (0, .ref 0)], [.int 5, .int 5], g9_0 (pg xs) 2 b c d, 599950, 7298497)) rfl ?_
      refine pm_go (g := (22, [(3, .int 5), (2, .ref 25), (1, .ref 1), (0, .ref 0)], [.int 5, .int 5, .int 5], g9_0 (pg xs) 2 b c d, 599950, 7298497)) rfl ?_
      refine pm_go (g := (23, [(3, .int 5), (2, .ref 25), (1, .ref 1), (0, .ref 0)], [.int 0, .int 5], g9_0 (pg xs) 2 b c d, 599950, 7298497)) rfl ?_
      refine pm_brT (g := (879, [(3, .int 5), (2, .ref 25), (1, .ref 1), (0, .ref 0)], [], g9_0 (pg xs) 2 b c d, 599950, 7298497)) rfl ?_
      refine pm_go (g := (880, [(3, .int 5), (2, .ref 25), (1, .ref 1), (0, .ref 0)], [.int 1], g9_0 (pg xs) 2 b c d, 599950, 7298497)) rfl ?_
      exact pm_ret rfl rfl
    have q11 := qF_ge (cx := b.toInt) (cy := 2) rfl (by decide) q11
    refine pm_go (g := (13, [(0, .ref 2), (1, .int (b))], [.int 1], g9_0 (pg xs) 2 b c d, 0, 0)) rfl ?_
    refine pm_go (g := (17, [(0, .ref 2), (1, .int (b))], [.int 1], g9_0 (pg xs) 2 b c d, 0, 0)) rfl ?_
    refine pm_ret rfl ?_
    show pm_WP 111 (53, [(0, .ref 1), (1, .int 2), (2, .int (b))], [.int 1], g9_0 (pg xs) 2 b c d, 0, 0) _
    refine pm_brF (h := (56, [(0, .ref 1), (1, .int 2), (2, .int (b))], [], g9_0 (pg xs) 2 b c d, 0, 0)) rfl ?_
    refine pm_go (g := (57, [(0, .ref 1), (1, .int 2), (2, .int (b))], [.int (b)], g9_0 (pg xs) 2 b c d, 0, 0)) rfl ?_
    refine pm_if2 (g := (64, [(0, .ref 1), (1, .int 2), (2, .int (b))], [], g9_0 (pg xs) 2 b c d, 0, 0)) (h := (60, [(0, .ref 1), (1, .int 2), (2, .int (b))], [], g9_0 (pg xs) 2 b c d, 0, 0)) rfl (fun q12 => ?_) (fun q12 => ?_)
    ·
      have q12 := qT_eq (cx := b.toInt) (cy := 0) rfl (by decide) q12
      obtain rfl : b = 0 := xI (c := 0) (by decide) (by omega)
      show pm_WP 111 (64, [(0, .ref 1), (1, .int 2), (2, .int 0)], [], g9_0 (pg xs) 2 0 c d, 0, 0) _
      refine pm_go (g := (65, [(0, .ref 1), (1, .int 2), (2, .int 0)], [.int 0], g9_0 (pg xs) 2 0 c d, 0, 0)) rfl ?_
      refine pm_ret rfl ?_
      show pm_WP 104 (6, [(0, .ref 1), (1, .int 2), (2, .int 0), (3, .int (c))], [.int 0], g9_0 (pg xs) 2 0 c d, 1, 3) _
      refine pm_brT (g := (24, [(0, .ref 1), (1, .int 2), (2, .int 0), (3, .int (c))], [], g9_0 (pg xs) 2 0 c d, 1, 3)) rfl ?_
      refine pm_go (g := (25, [(0, .ref 1), (1, .int 2), (2, .int 0), (3, .int (c))], [.int (-1)], g9_0 (pg xs) 2 0 c d, 1, 3)) rfl ?_
      refine pm_ret rfl ?_
      show pm_WP 0 (424, [(3, .int 0), (2, .ref 25), (1, .ref 1), (0, .ref 0)], [.int (-1)], g9_0 (pg xs) 2 0 c d, 599950, 7298497) _
      refine pm_go (g := (425, [(3, .int 0), (2, .ref 25), (1, .ref 1), (0, .ref 0)], [.ref 25, .int (-1)], g9_0 (pg xs) 2 0 c d, 599950, 7298497)) rfl ?_
      refine pm_go (g := (426, [(3, .int 0), (2, .ref 25), (1, .ref 1), (0, .ref 0)], [.ref 0, .ref 25, .int (-1)], g9_0 (pg xs) 2 0 c d, 599950, 7298497)) rfl ?_
      refine pm_go (g := (427, [(3, .int 0), (2, .ref 25), (1, .ref 1), (0, .ref 0)], [.int 0, .ref 0, .ref 25, .int (-1)], g9_0 (pg xs) 2 0 c d, 599950, 7298497)) rfl ?_
      refine pm_go (g := (428, [(3, .int 0), (2, .ref 25), (1, .ref 1), (0, .ref 0)], [.int 1, .int 0, .ref 0, .ref 25, .int (-1)], g9_0 (pg xs) 2 0 c d, 599950, 7298497)) rfl ?_
      refine pm_go (g := (429, [(3, .int 0), (2, .ref 25), (1, .ref 1), (0, .ref 0)], [.int 1, .ref 0, .ref 25, .int (-1)], g9_0 (pg xs) 2 0 c d, 599950, 7298497)) rfl ?_
      refine pm_go (g := (430, [(3, .int 0), (2, .ref 25), (1, .ref 1), (0, .ref 0)], [.int (xs 1), .ref 25, .int (-1)], g9_0 (pg xs) 2 0 c d, 599950, 7298497)) rfl ?_
      rw [← ea]
      refine pm_go (g := (431, [(3, .int 0), (2, .ref 25), (1, .ref 1), (0, .ref 0)], [.ref 0, .int 2, .ref 25, .int (-1)], g9_0 (pg xs) 2 0 c d, 599950, 7298497)) rfl ?_
      refine pm_go (g := (432, [(3, .int 0), (2, .ref 25), (1, .ref 1), (0, .ref 0)], [.int 0, .ref 0, .int 2, .ref 25, .int (-1)], g9_0 (pg xs) 2 0 c d, 599950, 7298497)) rfl ?_
      refine pm_go (g := (433, [(3, .int 0), (2, .ref 25), (1, .ref 1), (0, .ref 0)], [.int 2, .int 0, .ref 0, .int 2, .ref 25, .int (-1)], g9_0 (pg xs) 2 0 c d, 599950, 7298497)) rfl ?_
      refine pm_go (g := (434, [(3, .int 0), (2, .ref 25), (1, .ref 1), (0, .ref 0)], [.int 2, .ref 0, .int 2, .ref 25, .int (-1)], g9_0 (pg xs) 2 0 c d, 599950, 7298497)) rfl ?_
      refine pm_go (g := (435, [(3, .int 0), (2, .ref 25), (1, .ref 1), (0, .ref 0)], [.int (xs 2), .int 2, .ref 25, .int (-1)], g9_0 (pg xs) 2 0 c d, 599950, 7298497)) rfl ?_
      rw [← eb]
      refine pm_go (g := (436, [(3, .int 0), (2, .ref 25), (1, .ref 1), (0, .ref 0)], [.ref 0, .int 0, .int 2, .ref 25, .int (-1)], g9_0 (pg xs) 2 0 c d, 599950, 7298497)) rfl ?_
      refine pm_go (g := (437, [(3, .int 0), (2, .ref 25), (1, .ref 1), (0, .ref 0)], [.int 0, .ref 0, .int 0, .int 2, .ref 25, .int (-1)], g9_0 (pg xs) 2 0 c d, 599950, 7298497)) rfl ?_
      refine pm_go (g := (438, [(3, .int 0), (2, .ref 25), (1, .ref 1), (0, .ref 0)], [.int 3, .int 0, .ref 0, .int 0, .int 2, .ref 25, .int (-1)], g9_0 (pg xs) 2 0 c d, 599950, 7298497)) rfl ?_
      refine pm_go (g := (439, [(3, .int 0), (2, .ref 25), (1, .ref 1), (0, .ref 0)], [.int 3, .ref 0, .int 0, .int 2, .ref 25, .int (-1)], g9_0 (pg xs) 2 0 c d, 599950, 7298497)) rfl ?_
      refine pm_go (g := (440, [(3, .int 0), (2, .ref 25), (1, .ref 1), (0, .ref 0)], [.int (xs 3), .int 0, .int 2, .ref 25, .int (-1)], g9_0 (pg xs) 2 0 c d, 599950, 7298497)) rfl ?_
      rw [← ec]
      refine pm_callD (z := 163) (as := [.ref 25, .int 2, .int 0, .int (c)]) (rest := [.int (-1)]) rfl ?_
      show pm_WP 163 (0, [(0, .ref 25), (1, .int 2), (2, .int 0), (3, .int (c))], [], g9_0 (pg xs) 2 0 c d, 0, 0) _
      refine pm_go (g := (1, [(0, .ref 25), (1, .int 2), (2, .int 0), (3, .int (c))], [.int 2], g9_0 (pg xs) 2 0 c d, 0, 0)) rfl ?_
      refine pm_go (g := (2, [(0, .ref 25), (1, .int 2), (2, .int 0), (3, .int (c))], [.int 0, .int 2], g9_0 (pg xs) 2 0 c d, 0, 0)) rfl ?_
      refine pm_go (g := (3, [(0, .ref 25), (1, .int 2), (2, .int 0), (3, .int (c))], [.int 4, .int 0, .int 2], g9_0 (pg xs) 2 0 c d, 0, 0)) rfl ?_
      refine pm_callD (z := 128) (as := [.int 2, .int 0, .int 4]) (rest := []) rfl ?_
      show pm_WP 128 (0, [(0, .int 2), (1, .int 0), (2, .int 4)], [], g9_0 (pg xs) 2 0 c d, 0, 0) _
      refine pm_go (g := (1, [(0, .int 2), (1, .int 0), (2, .int 4)], [.int 2], g9_0 (pg xs) 2 0 c d, 0, 0)) rfl ?_
      refine pm_go (g := (2, [(0, .int 2), (1, .int 0), (2, .int 4)], [.int 0, .int 2], g9_0 (pg xs) 2 0 c d, 0, 0)) rfl ?_
      refine pm_brF (h := (5, [(0, .int 2), (1, .int 0), (2, .int 4)], [], g9_0 (pg xs) 2 0 c d, 0, 0)) rfl ?_
      refine pm_go (g := (6, [(0, .int 2), (1, .int 0), (2, .int 4)], [.int 2], g9_0 (pg xs) 2 0 c d, 0, 0)) rfl ?_
      refine pm_go (g := (7, [(0, .int 2), (1, .int 0), (2, .int 4)], [.int 4, .int 2], g9_0 (pg xs) 2 0 c d, 0, 0)) rfl ?_
      refine pm_brF (h := (10, [(0, .int 2), (1, .int 0), (2, .int 4)], [], g9_0 (pg xs) 2 0 c d, 0, 0)) rfl ?_
      refine pm_go (g := (11, [(0, .int 2), (1, .int 0), (2, .int 4)], [.int 1], g9_0 (pg xs) 2 0 c d, 0, 0)) rfl ?_
      refine pm_go (g := (15, [(0, .int 2), (1, .int 0), (2, .int 4)], [.int 1], g9_0 (pg xs) 2 0 c d, 0, 0)) rfl ?_
      refine pm_ret rfl ?_
      show pm_WP 163 (6, [(0, .ref 25), (1, .int 2), (2, .int 0), (3, .int (c))], [.int 1], g9_0 (pg xs) 2 0 c d, 0, 0) _
      refine pm_brT (g := (11, [(0, .ref 25), (1, .int 2), (2, .int 0), (3, .int (c))], [], g9_0 (pg xs) 2 0 c d, 0, 0)) rfl ?_
      refine pm_go (g := (12, [(0, .ref 25), (1, .int 2), (2, .int 0), (3, .int (c))], [.int 2], g9_0 (pg xs) 2 0 c d, 0, 0)) rfl ?_
      refine pm_go (g := (13, [(0, .ref 25), (1, .int 2), (2, .int 0), (3, .int (c))], [.int 2, .int 2], g9_0 (pg xs) 2 0 c d, 0, 0)) rfl ?_
      refine pm_brT (g := (24, [(0, .ref 25), (1, .int 2), (2, .int 0), (3, .int (c))], [], g9_0 (pg xs) 2 0 c d, 0, 0)) rfl ?_
      refine pm_go (g := (25, [(0, .ref 25), (1, .int 2), (2, .int 0), (3, .int (c))], [.int 2], g9_0 (pg xs) 2 0 c d, 0, 0)) rfl ?_
      refine pm_go (g := (26, [(0, .ref 25), (1, .int 2), (2, .int 0), (3, .int (c))], [.int 2, .int 2], g9_0 (pg xs) 2 0 c d, 0, 0)) rfl ?_
      refine pm_brF (h := (29, [(0, .ref 25), (1, .int 2), (2, .int 0), (3, .int (c))], [], g9_0 (pg xs) 2 0 c d, 0, 0)) rfl ?_
      refine pm_go (g := (30, [(0, .ref 25), (1, .int 2), (2, .int 0), (3, .int (c))], [.ref 25], g9_0 (pg xs) 2 0 c d, 0, 0)) rfl ?_
      refine pm_go (g := (31, [(0, .ref 25), (1, .int 2), (2, .int 0), (3, .int (c))], [.int 0, .ref 25], g9_0 (pg xs) 2 0 c d, 0, 0)) rfl ?_
      refine pm_callD (z := 129) (as := [.ref 25, .int 0]) (rest := []) rfl ?_
      show pm_WP 129 (0, [(0, .ref 25), (1, .int 0)], [], g9_0 (pg xs) 2 0 c d, 0, 0) _
      refine pm_go (g := (1, [(0, .ref 25), (1, .int 0)], [.int 0], g9_0 (pg xs) 2 0 c d, 0, 0)) rfl ?_
      refine pm_go (g := (2, [(0, .ref 25), (1, .int 0)], [.int 0, .int 0], g9_0 (pg xs) 2 0 c d, 0, 0)) rfl ?_
      refine pm_go (g := (3, [(0, .ref 25), (1, .int 0)], [.ref 25, .int 0, .int 0], g9_0 (pg xs) 2 0 c d, 0, 0)) rfl ?_
      refine pm_go (g := (6, [(0, .ref 25), (1, .int 0)], [.int 2, .int 0, .int 0], g9_0 (pg xs) 2 0 c d, 0, 0)) rfl ?_
      refine pm_go (g := (7, [(0, .ref 25), (1, .int 0)], [.int 1, .int 2, .int 0, .int 0], g9_0 (pg xs) 2 0 c d, 0, 0)) rfl ?_
      refine pm_go (g := (8, [(0, .ref 25), (1, .int 0)], [.int 1, .int 0, .int 0], g9_0 (pg xs) 2 0 c d, 0, 0)) rfl ?_
      refine pm_callD (z := 128) (as := [.int 0, .int 0, .int 1]) (rest := []) rfl ?_
      show pm_WP 128 (0, [(0, .int 0), (1, .int 0), (2, .int 1)], [], g9_0 (pg xs) 2 0 c d, 0, 0) _
      refine pm_go (g := (1, [(0, .int 0), (1, .int 0), (2, .int 1)], [.int 0], g9_0 (pg xs) 2 0 c d, 0, 0)) rfl ?_
      refine pm_go (g := (2, [(0, .int 0), (1, .int 0), (2, .int 1)], [.int 0, .int 0], g9_0 (pg xs) 2 0 c d, 0, 0)) rfl ?_
      refine pm_brF (h := (5, [(0, .int 0), (1, .int 0), (2, .int 1)], [], g9_0 (pg xs) 2 0 c d, 0, 0)) rfl ?_
      refine pm_go (g := (6, [(0, .int 0), (1, .int 0), (2, .int 1)], [.int 0], g9_0 (pg xs) 2 0 c d, 0, 0)) rfl ?_
      refine pm_go (g := (7, [(0, .int 0), (1, .int 0), (2, .int 1)], [.int 1, .int 0], g9_0 (pg xs) 2 0 c d, 0, 0)) rfl ?_
      refine pm_brF (h := (10, [(0, .int 0), (1, .int 0), (2, .int 1)], [], g9_0 (pg xs) 2 0 c d, 0, 0)) rfl ?_
      refine pm_go (g := (11, [(0, .int 0), (1, .int 0), (2, .int 1)], [.int 1], g9_0 (pg xs) 2 0 c d, 0, 0)) rfl ?_
      refine pm_go (g := (15, [(0, .int 0), (1, .int 0), (2, .int 1)], [.int 1], g9_0 (pg xs) 2 0 c d, 0, 0)) rfl ?_
      refine pm_ret rfl ?_
      show pm_WP 129 (11, [(0, .ref 25), (1, .int 0)], [.int 1], g9_0 (pg xs) 2 0 c d, 0, 0) _
      refine pm_ret rfl ?_
      show pm_WP 163 (34, [(0, .ref 25), (1, .int 2), (2, .int 0), (3, .int (c))], [.int 1], g9_0 (pg xs) 2 0 c d, 0, 0) _
      refine pm_brF (h := (37, [(0, .ref 25), (1, .int 2), (2, .int 0), (3, .int (c))], [], g9_0 (pg xs) 2 0 c d, 0, 0)) rfl ?_
      refine pm_go (g := (38, [(0, .ref 25), (1, .int 2), (2, .int 0), (3, .int (c))], [.int 0], g9_0 (pg xs) 2 0 c d, 0, 0)) rfl ?_
      refine pm_brT (g := (45, [(0, .ref 25), (1, .int 2), (2, .int 0), (3, .int (c))], [], g9_0 (pg xs) 2 0 c d, 0, 0)) rfl ?_
      refine pm_go (g := (46, [(0, .ref 25), (1, .int 2), (2, .int 0), (3, .int (c))], [.int 0], g9_0 (pg xs) 2 0 c d, 0, 0)) rfl ?_
      refine pm_go (g := (81, [(0, .ref 25), (1, .int 2), (2, .int 0), (3, .int (c))], [.int 0], g9_0 (pg xs) 2 0 c d, 0, 0)) rfl ?_
      refine pm_go (g := (83, [(4, .int 0), (0, .ref 25), (1, .int 2), (2, .int 0), (3, .int (c))], [], g9_0 (pg xs) 2 0 c d, 0, 0)) rfl ?_
      refine pm_go (g := (85, [(4, .int 0), (0, .ref 25), (1, .int 2), (2, .int 0), (3, .int (c))], [.int 0], g9_0 (pg xs) 2 0 c d, 0, 0)) rfl ?_
      refine pm_brT (g := (102, [(4, .int 0), (0, .ref 25), (1, .int 2), (2, .int 0), (3, .int (c))], [], g9_0 (pg xs) 2 0 c d, 0, 0)) rfl ?_
      refine pm_go (g := (103, [(4, .int 0), (0, .ref 25), (1, .int 2), (2, .int 0), (3, .int (c))], [.int (-1)], g9_0 (pg xs) 2 0 c d, 0, 0)) rfl ?_
      refine pm_ret rfl ?_
      show pm_WP 0 (443, [(3, .int 0), (2, .ref 25), (1, .ref 1), (0, .ref 0)], [.int (-1), .int (-1)], g9_0 (pg xs) 2 0 c d, 599950, 7298497) _
      refine pm_brT (g := (873, [(3, .int 0), (2, .ref 25), (1, .ref 1), (0, .ref 0)], [], g9_0 (pg xs) 2 0 c d, 599950, 7298497)) rfl ?_
      refine pm_go (g := (876, [(3, .int 5), (2, .ref 25), (1, .ref 1), (0, .ref 0)], [], g9_0 (pg xs) 2 0 c d, 599950, 7298497)) rfl ?_
      refine pm_go (g := (18, [(3, .int 5), (2, .ref 25), (1, .ref 1), (0, .ref 0)], [], g9_0 (pg xs) 2 0 c d, 599950, 7298497)) rfl ?_
      refine pm_go (g := (19, [(3, .int 5), (2, .ref 25), (1, .ref 1), (0, .ref 0)], [.int 5], g9_0 (pg xs) 2 0 c d, 599950, 7298497)) rfl ?_
      refine pm_go (g := (20, [(3, .int 5), (2, .ref 25), (1, .ref 1), (0, .ref 0)], [.ref 0, .int 5], g9_0 (pg xs) 2 0 c d, 599950, 7298497)) rfl ?_
      refine pm_go (g := (21, [(3, .int 5), (2, .ref 25), (1, .ref 1), (0, .ref 0)], [.int 5, .int 5], g9_0 (pg xs) 2 0 c d, 599950, 7298497)) rfl ?_
      refine pm_go (g := (22, [(3, .int 5), (2, .ref 25), (1, .ref 1), (0, .ref 0)], [.int 5, .int 5, .int 5], g9_0 (pg xs) 2 0 c d, 599950, 7298497)) rfl ?_
      refine pm_go (g := (23, [(3, .int 5), (2, .ref 25), (1, .ref 1), (0, .ref 0)], [.int 0, .int 5], g9_0 (pg xs) 2 0 c d, 599950, 7298497)) rfl ?_
      refine pm_brT (g := (879, [(3, .int 5), (2, .ref 25), (1, .ref 1), (0, .ref 0)], [], g9_0 (pg xs) 2 0 c d, 599950, 7298497)) rfl ?_
      refine pm_go (g := (880, [(3, .int 5), (2, .ref 25), (1, .ref 1), (0, .ref 0)], [.int 1], g9_0 (pg xs) 2 0 c d, 599950, 7298497)) rfl ?_
      exact pm_ret rfl rfl
    have q12 := qF_eq (cx := b.toInt) (cy := 0) rfl (by decide) q12
    obtain rfl : b = 1 := xI (c := 1) (by decide) (by omega)
    show pm_WP 111 (60, [(0, .ref 1), (1, .int 2), (2, .int 1)], [], g9_0 (pg xs) 2 1 c d, 0, 0) _
    refine pm_go (g := (61, [(0, .ref 1), (1, .int 2), (2, .int 1)], [.int 1], g9_0 (pg xs) 2 1 c d, 0, 0)) rfl ?_
    refine pm_go (g := (65, [(0, .ref 1), (1, .int 2), (2, .int 1)], [.int 1], g9_0 (pg xs) 2 1 c d, 0, 0)) rfl ?_
    refine pm_ret rfl ?_
    show pm_WP 104 (6, [(0, .ref 1), (1, .int 2), (2, .int 1), (3, .int (c))], [.int 1], g9_0 (pg xs) 2 1 c d, 1, 3) _
    refine pm_brF (h := (9, [(0, .ref 1), (1, .int 2), (2, .int 1), (3, .int (c))], [], g9_0 (pg xs) 2 1 c d, 1, 3)) rfl ?_
    refine pm_go (g := (10, [(0, .ref 1), (1, .int 2), (2, .int 1), (3, .int (c))], [.int 2], g9_0 (pg xs) 2 1 c d, 1, 3)) rfl ?_
    refine pm_go (g := (11, [(0, .ref 1), (1, .int 2), (2, .int 1), (3, .int (c))], [.int 2, .int 2], g9_0 (pg xs) 2 1 c d, 1, 3)) rfl ?_
    refine pm_brF (h := (14, [(0, .ref 1), (1, .int 2), (2, .int 1), (3, .int (c))], [], g9_0 (pg xs) 2 1 c d, 1, 3)) rfl ?_
    refine pm_go (g := (15, [(0, .ref 1), (1, .int 2), (2, .int 1), (3, .int (c))], [.int (c)], g9_0 (pg xs) 2 1 c d, 1, 3)) rfl ?_
    refine pm_if2 (g := (24, [(0, .ref 1), (1, .int 2), (2, .int 1), (3, .int (c))], [], g9_0 (pg xs) 2 1 c d, 1, 3)) (h := (18, [(0, .ref 1), (1, .int 2), (2, .int 1), (3, .int (c))], [], g9_0 (pg xs) 2 1 c d, 1, 3)) rfl (fun q13 => ?_) (fun q13 => ?_)
    ·
      have q13 := qT_lt (cx := c.toInt) (cy := 0) rfl (by decide) q13
      refine pm_go (g := (25, [(0, .ref 1), (1, .int 2), (2, .int 1), (3, .int (c))], [.int (-1)], g9_0 (pg xs) 2 1 c d, 1, 3)) rfl ?_
      refine pm_ret rfl ?_
      show pm_WP 0 (424, [(3, .int 0), (2, .ref 25), (1, .ref 1), (0, .ref 0)], [.int (-1)], g9_0 (pg xs) 2 1 c d, 599950, 7298497) _
      refine pm_go (g := (425, [(3, .int 0), (2, .ref 25), (1, .ref 1), (0, .ref 0)], [.ref 25, .int (-1)], g9_0 (pg xs) 2 1 c d, 599950, 7298497)) rfl ?_
      refine pm_go (g := (426, [(3, .int 0), (2, .ref 25), (1, .ref 1), (0, .ref 0)], [.ref 0, .ref 25, .int (-1)], g9_0 (pg xs) 2 1 c d, 599950, 7298497)) rfl ?_
      refine pm_go (g := (427, [(3, .int 0), (2, .ref 25), (1, .ref 1), (0, .ref 0)], [.int 0, .ref 0, .ref 25, .int (-1)], g9_0 (pg xs) 2 1 c d, 599950, 7298497)) rfl ?_
      refine pm_go (g := (428, [(3, .int 0), (2, .ref 25), (1, .ref 1), (0, .ref 0)], [.int 1, .int 0, .ref 0, .ref 25, .int (-1)], g9_0 (pg xs) 2 1 c d, 599950, 7298497)) rfl ?_
      refine pm_go (g := (429, [(3, .int 0), (2, .ref 25), (1, .ref 1), (0, .ref 0)], [.int 1, .ref 0, .ref 25, .int (-1)], g9_0 (pg xs) 2 1 c d, 599950, 7298497)) rfl ?_
      refine pm_go (g := (430, [(3, .int 0), (2, .ref 25), (1, .ref 1), (0, .ref 0)], [.int (xs 1), .ref 25, .int (-1)], g9_0 (pg xs) 2 1 c d, 599950, 7298497)) rfl ?_
      rw [← ea]
      refine pm_go (g := (431, [(3, .int 0), (2, .ref 25), (1, .ref 1), (0, .ref 0)], [.ref 0, .int 2, .ref 25, .int (-1)], g9_0 (pg xs) 2 1 c d, 599950, 7298497)) rfl ?_
      refine pm_go (g := (432, [(3, .int 0), (2, .ref 25), (1, .ref 1), (0, .ref 0)], [.int 0, .ref 0, .int 2, .ref 25, .int (-1)], g9_0 (pg xs) 2 1 c d, 599950, 7298497)) rfl ?_
      refine pm_go (g := (433, [(3, .int 0), (2, .ref 25), (1, .ref 1), (0, .ref 0)], [.int 2, .int 0, .ref 0, .int 2, .ref 25, .int (-1)], g9_0 (pg xs) 2 1 c d, 599950, 7298497)) rfl ?_
      refine pm_go (g := (434, [(3, .int 0), (2, .ref 25), (1, .ref 1), (0, .ref 0)], [.int 2, .ref 0, .int 2, .ref 25, .int (-1)], g9_0 (pg xs) 2 1 c d, 599950, 7298497)) rfl ?_
      refine pm_go (g := (435, [(3, .int 0), (2, .ref 25), (1, .ref 1), (0, .ref 0)], [.int (xs 2), .int 2, .ref 25, .int (-1)], g9_0 (pg xs) 2 1 c d, 599950, 7298497)) rfl ?_
      rw [← eb]
      refine pm_go (g := (436, [(3, .int 0), (2, .ref 25), (1, .ref 1), (0, .ref 0)], [.ref 0, .int 1, .int 2, .ref 25, .int (-1)], g9_0 (pg xs) 2 1 c d, 599950, 7298497)) rfl ?_
      refine pm_go (g := (437, [(3, .int 0), (2, .ref 25), (1, .ref 1), (0, .ref 0)], [.int 0, .ref 0, .int 1, .int 2, .ref 25, .int (-1)], g9_0 (pg xs) 2 1 c d, 599950, 7298497)) rfl ?_
      refine pm_go (g := (438, [(3, .int 0), (2, .ref 25), (1, .ref 1), (0, .ref 0)], [.int 3, .int 0, .ref 0, .int 1, .int 2, .ref 25, .int (-1)], g9_0 (pg xs) 2 1 c d, 599950, 7298497)) rfl ?_
      refine pm_go (g := (439, [(3, .int 0), (2, .ref 25), (1, .ref 1), (0, .ref 0)], [.int 3, .ref 0, .int 1, .int 2, .ref 25, .int (-1)], g9_0 (pg xs) 2 1 c d, 599950, 7298497)) rfl ?_
      refine pm_go (g := (440, [(3, .int 0), (2, .ref 25), (1, .ref 1), (0, .ref 0)], [.int (xs 3), .int 1, .int 2, .ref 25, .int (-1)], g9_0 (pg xs) 2 1 c d, 599950, 7298497)) rfl ?_
      rw [← ec]
      refine pm_callD (z := 163) (as := [.ref 25, .int 2, .int 1, .int (c)]) (rest := [.int (-1)]) rfl ?_
      show pm_WP 163 (0, [(0, .ref 25), (1, .int 2), (2, .int 1), (3, .int (c))], [], g9_0 (pg xs) 2 1 c d, 0, 0) _
      refine pm_go (g := (1, [(0, .ref 25), (1, .int 2), (2, .int 1), (3, .int (c))], [.int 2], g9_0 (pg xs) 2 1 c d, 0, 0)) rfl ?_
      refine pm_go (g := (2, [(0, .ref 25), (1, .int 2), (2, .int 1), (3, .int (c))], [.int 0, .int 2], g9_0 (pg xs) 2 1 c d, 0, 0)) rfl ?_
      refine pm_go (g := (3, [(0, .ref 25), (1, .int 2), (2, .int 1), (3, .int (c))], [.int 4, .int 0, .int 2], g9_0 (pg xs) 2 1 c d, 0, 0)) rfl ?_
      refine pm_callD (z := 128) (as := [.int 2, .int 0, .int 4]) (rest := []) rfl ?_
      show pm_WP 128 (0, [(0, .int 2), (1, .int 0), (2, .int 4)], [], g9_0 (pg xs) 2 1 c d, 0, 0) _
      refine pm_go (g := (1, [(0, .int 2), (1, .int 0), (2, .int 4)], [.int 2], g9_0 (pg xs) 2 1 c d, 0, 0)) rfl ?_
      refine pm_go (g := (2, [(0, .int 2), (1, .int 0), (2, .int 4)], [.int 0, .int 2], g9_0 (pg xs) 2 1 c d, 0, 0)) rfl ?_
      refine pm_brF (h := (5, [(0, .int 2), (1, .int 0), (2, .int 4)], [], g9_0 (pg xs) 2 1 c d, 0, 0)) rfl ?_
      refine pm_go (g := (6, [(0, .int 2), (1, .int 0), (2, .int 4)], [.int 2], g9_0 (pg xs) 2 1 c d, 0, 0)) rfl ?_
      refine pm_go (g := (7, [(0, .int 2), (1, .int 0), (2, .int 4)], [.int 4, .int 2], g9_0 (pg xs) 2 1 c d, 0, 0)) rfl ?_
      refine pm_brF (h := (10, [(0, .int 2), (1, .int 0), (2, .int 4)], [], g9_0 (pg xs) 2 1 c d, 0, 0)) rfl ?_
      refine pm_go (g := (11, [(0, .int 2), (1, .int 0), (2, .int 4)], [.int 1], g9_0 (pg xs) 2 1 c d, 0, 0)) rfl ?_
      refine pm_go (g := (15, [(0, .int 2), (1, .int 0), (2, .int 4)], [.int 1], g9_0 (pg xs) 2 1 c d, 0, 0)) rfl ?_
      refine pm_ret rfl ?_
      show pm_WP 163 (6, [(0, .ref 25), (1, .int 2), (2, .int 1), (3, .int (c))], [.int 1], g9_0 (pg xs) 2 1 c d, 0, 0) _
      refine pm_brT (g := (11, [(0, .ref 25), (1, .int 2), (2, .int 1), (3, .int (c))], [], g9_0 (pg xs) 2 1 c d, 0, 0)) rfl ?_
      refine pm_go (g := (12, [(0, .ref 25), (1, .int 2), (2, .int 1), (3, .int (c))], [.int 2], g9_0 (pg xs) 2 1 c d, 0, 0)) rfl ?_
      refine pm_go (g := (13, [(0, .ref 25), (1, .int 2), (2, .int 1), (3, .int (c))], [.int 2, .int 2], g9_0 (pg xs) 2 1 c d, 0, 0)) rfl ?_
      refine pm_brT (g := (24, [(0, .ref 25), (1, .int 2), (2, .int 1), (3, .int (c))], [], g9_0 (pg xs) 2 1 c d, 0, 0)) rfl ?_
      refine pm_go (g := (25, [(0, .ref 25), (1, .int 2), (2, .int 1), (3, .int (c))], [.int 2], g9_0 (pg xs) 2 1 c d, 0, 0)) rfl ?_
      refine pm_go (g := (26, [(0, .ref 25), (1, .int 2), (2, .int 1), (3, .int (c))], [.int 2, .int 2], g9_0 (pg xs) 2 1 c d, 0, 0)) rfl ?_
      refine pm_brF (h := (29, [(0, .ref 25), (1, .int 2), (2, .int 1), (3, .int (c))], [], g9_0 (pg xs) 2 1 c d, 0, 0)) rfl ?_
      refine pm_go (g := (30, [(0, .ref 25), (1, .int 2), (2, .int 1), (3, .int (c))], [.ref 25], g9_0 (pg xs) 2 1 c d, 0, 0)) rfl ?_
      refine pm_go (g := (31, [(0, .ref 25), (1, .int 2), (2, .int 1), (3, .int (c))], [.int 1, .ref 25], g9_0 (pg xs) 2 1 c d, 0, 0)) rfl ?_
      refine pm_callD (z := 129) (as := [.ref 25, .int 1]) (rest := []) rfl ?_
      show pm_WP 129 (0, [(0, .ref 25), (1, .int 1)], [], g9_0 (pg xs) 2 1 c d, 0, 0) _
      refine pm_go (g := (1, [(0, .ref 25), (1, .int 1)], [.int 1], g9_0 (pg xs) 2 1 c d, 0, 0)) rfl ?_
      refine pm_go (g := (2, [(0, .ref 25), (1, .int 1)], [.int 0, .int 1], g9_0 (pg xs) 2 1 c d, 0, 0)) rfl ?_
      refine pm_go (g := (3, [(0, .ref 25), (1, .int 1)], [.ref 25, .int 0, .int 1], g9_0 (pg xs) 2 1 c d, 0, 0)) rfl ?_
      refine pm_go (g := (6, [(0, .ref 25), (1, .int 1)], [.int 2, .int 0, .int 1], g9_0 (pg xs) 2 1 c d, 0, 0)) rfl ?_
      refine pm_go (g := (7, [(0, .ref 25), (1, .int 1)], [.int 1, .int 2, .int 0, .int 1], g9_0 (pg xs) 2 1 c d, 0, 0)) rfl ?_
      refine pm_go (g := (8, [(0, .ref 25), (1, .int 1)], [.int 1, .int 0, .int 1], g9_0 (pg xs) 2 1 c d, 0, 0)) rfl ?_
      refine pm_callD (z := 128) (as := [.int 1, .int 0, .int 1]) (rest := []) rfl ?_
      show pm_WP 128 (0, [(0, .int 1), (1, .int 0), (2, .int 1)], [], g9_0 (pg xs) 2 1 c d, 0, 0) _
      refine pm_go (g := (1, [(0, .int 1), (1, .int 0), (2, .int 1)], [.int 1], g9_0 (pg xs) 2 1 c d, 0, 0)) rfl ?_
      refine pm_go (g := (2, [(0, .int 1), (1, .int 0), (2, .int 1)], [.int 0, .int 1], g9_0 (pg xs) 2 1 c d, 0, 0)) rfl ?_
      refine pm_brF (h := (5, [(0, .int 1), (1, .int 0), (2, .int 1)], [], g9_0 (pg xs) 2 1 c d, 0, 0)) rfl ?_
      refine pm_go (g := (6, [(0, .int 1), (1, .int 0), (2, .int 1)], [.int 1], g9_0 (pg xs) 2 1 c d, 0, 0)) rfl ?_
      refine pm_go (g := (7, [(0, .int 1), (1, .int 0), (2, .int 1)], [.int 1, .int 1], g9_0 (pg xs) 2 1 c d, 0, 0)) rfl ?_
      refine pm_brF (h := (10, [(0, .int 1), (1, .int 0), (2, .int 1)], [], g9_0 (pg xs) 2 1 c d, 0, 0)) rfl ?_
      refine pm_go (g := (11, [(0, .int 1), (1, .int 0), (2, .int 1)], [.int 1], g9_0 (pg xs) 2 1 c d, 0, 0)) rfl ?_
      refine pm_go (g := (15, [(0, .int 1), (1, .int 0), (2, .int 1)], [.int 1], g9_0 (pg xs) 2 1 c d, 0, 0)) rfl ?_
      refine pm_ret rfl ?_
      show pm_WP 129 (11, [(0, .ref 25), (1, .int 1)], [.int 1], g9_0 (pg xs) 2 1 c d, 0, 0) _
      refine pm_ret rfl ?_
      show pm_WP 163 (34, [(0, .ref 25), (1, .int 2), (2, .int 1), (3, .int (c))], [.int 1], g9_0 (pg xs) 2 1 c d, 0, 0) _
      refine pm_brF (h := (37, [(0, .ref 25), (1, .int 2), (2, .int 1), (3, .int (c))], [], g9_0 (pg xs) 2 1 c d, 0, 0)) rfl ?_
      refine pm_go (g := (38, [(0, .ref 25), (1, .int 2), (2, .int 1), (3, .int (c))], [.int 1], g9_0 (pg xs) 2 1 c d, 0, 0)) rfl ?_
      refine pm_brF (h := (41, [(0, .ref 25), (1, .int 2), (2, .int 1), (3, .int (c))], [], g9_0 (pg xs) 2 1 c d, 0, 0)) rfl ?_
      refine pm_go (g := (42, [(0, .ref 25), (1, .int 2), (2, .int 1), (3, .int (c))], [.int 1], g9_0 (pg xs) 2 1 c d, 0, 0)) rfl ?_
      refine pm_go (g := (81, [(0, .ref 25), (1, .int 2), (2, .int 1), (3, .int (c))], [.int 1], g9_0 (pg xs) 2 1 c d, 0, 0)) rfl ?_
      refine pm_go (g := (83, [(4, .int 1), (0, .ref 25), (1, .int 2), (2, .int 1), (3, .int (c))], [], g9_0 (pg xs) 2 1 c d, 0, 0)) rfl ?_
      refine pm_go (g := (85, [(4, .int 1), (0, .ref 25), (1, .int 2), (2, .int 1), (3, .int (c))], [.int 1], g9_0 (pg xs) 2 1 c d, 0, 0)) rfl ?_
      refine pm_brF (h := (88, [(4, .int 1), (0, .ref 25), (1, .int 2), (2, .int 1), (3, .int (c))], [], g9_0 (pg xs) 2 1 c d, 0, 0)) rfl ?_
      refine pm_go (g := (89, [(4, .int 1), (0, .ref 25), (1, .int 2), (2, .int 1), (3, .int (c))], [.int 2], g9_0 (pg xs) 2 1 c d, 0, 0)) rfl ?_
      refine pm_go (g := (90, [(4, .int 1), (0, .ref 25), (1, .int 2), (2, .int 1), (3, .int (c))], [.int 3, .int 2], g9_0 (pg xs) 2 1 c d, 0, 0)) rfl ?_
      refine pm_brF (h := (93, [(4, .int 1), (0, .ref 25), (1, .int 2), (2, .int 1), (3, .int (c))], [], g9_0 (pg xs) 2 1 c d, 0, 0)) rfl ?_
      refine pm_go (g := (94, [(4, .int 1), (0, .ref 25), (1, .int 2), (2, .int 1), (3, .int (c))], [.int (c)], g9_0 (pg xs) 2 1 c d, 0, 0)) rfl ?_
      refine pm_go (g := (95, [(4, .int 1), (0, .ref 25), (1, .int 2), (2, .int 1), (3, .int (c))], [.int 0, .int (c)], g9_0 (pg xs) 2 1 c d, 0, 0)) rfl ?_
      refine pm_go (g := (96, [(4, .int 1), (0, .ref 25), (1, .int 2), (2, .int 1), (3, .int (c))], [.int 5, .int 0, .int (c)], g9_0 (pg xs) 2 1 c d, 0, 0)) rfl ?_
      refine pm_callD (z := 128) (as := [.int (c), .int 0, .int 5]) (rest := []) rfl ?_
      show pm_WP 128 (0, [(0, .int (c)), (1, .int 0), (2, .int 5)], [], g9_0 (pg xs) 2 1 c d, 0, 0) _
      refine pm_go (g := (1, [(0, .int (c)), (1, .int 0), (2, .int 5)], [.int (c)], g9_0 (pg xs) 2 1 c d, 0, 0)) rfl ?_
      refine pm_go (g := (2, [(0, .int (c)), (1, .int 0), (2, .int 5)], [.int 0, .int (c)], g9_0 (pg xs) 2 1 c d, 0, 0)) rfl ?_
      refine pm_ifT (g := (14, [(0, .int (c)), (1, .int 0), (2, .int 5)], [], g9_0 (pg xs) 2 1 c d, 0, 0)) rfl (rT_lt (cx := c.toInt) (cy := 0) rfl (by decide) (by omega)) ?_
      refine pm_go (g := (15, [(0, .int (c)), (1, .int 0), (2, .int 5)], [.int 0], g9_0 (pg xs) 2 1 c d, 0, 0)) rfl ?_
      refine pm_ret rfl ?_
      show pm_WP 163 (99, [(4, .int 1), (0, .ref 25), (1, .int 2), (2, .int 1), (3, .int (c))], [.int 0], g9_0 (pg xs) 2 1 c d, 0, 0) _
      refine pm_brF (h := (102, [(4, .int 1), (0, .ref 25), (1, .int 2), (2, .int 1), (3, .int (c))], [], g9_0 (pg xs) 2 1 c d, 0, 0)) rfl ?_
      refine pm_go (g := (103, [(4, .int 1), (0, .ref 25), (1, .int 2), (2, .int 1), (3, .int (c))], [.int (-1)], g9_0 (pg xs) 2 1 c d, 0, 0)) rfl ?_
      refine pm_ret rfl ?_
      show pm_WP 0 (443, [(3, .int 0), (2, .ref 25), (1, .ref 1), (0, .ref 0)], [.int (-1), .int (-1)], g9_0 (pg xs) 2 1 c d, 599950, 7298497) _
      refine pm_brT (g := (873, [(3, .int 0), (2, .ref 25), (1, .ref 1), (0, .ref 0)], [], g9_0 (pg xs) 2 1 c d, 599950, 7298497)) rfl ?_
      refine pm_go (g := (876, [(3, .int 5), (2, .ref 25), (1, .ref 1), (0, .ref 0)], [], g9_0 (pg xs) 2 1 c d, 599950, 7298497)) rfl ?_
      refine pm_go (g := (18, [(3, .int 5), (2, .ref 25), (1, .ref 1), (0, .ref 0)], [], g9_0 (pg xs) 2 1 c d, 599950, 7298497)) rfl ?_
      refine pm_go (g := (19, [(3, .int 5), (2, .ref 25), (1, .ref 1), (0, .ref 0)], [.int 5], g9_0 (pg xs) 2 1 c d, 599950, 7298497)) rfl ?_
      refine pm_go (g := (20, [(3, .int 5), (2, .ref 25), (1, .ref 1), (0, .ref 0)], [.ref 0, .int 5], g9_0 (pg xs) 2 1 c d, 599950, 7298497)) rfl ?_
      refine pm_go (g := (21, [(3, .int 5), (2, .ref 25), (1, .ref 1), (0, .ref 0)], [.int 5, .int 5], g9_0 (pg xs) 2 1 c d, 599950, 7298497)) rfl ?_
      refine pm_go (g := (22, [(3, .int 5), (2, .ref 25), (1, .ref 1), (0, .ref 0)], [.int 5, .int 5, .int 5], g9_0 (pg xs) 2 1 c d, 599950, 7298497)) rfl ?_
      refine pm_go (g := (23, [(3, .int 5), (2, .ref 25), (1, .ref 1), (0, .ref 0)], [.int 0, .int 5], g9_0 (pg xs) 2 1 c d, 599950, 7298497)) rfl ?_
      refine pm_brT (g := (879, [(3, .int 5), (2, .ref 25), (1, .ref 1), (0, .ref 0)], [], g9_0 (pg xs) 2 1 c d, 599950, 7298497)) rfl ?_
      refine pm_go (g := (880, [(3, .int 5), (2, .ref 25), (1, .ref 1), (0, .ref 0)], [.int 1], g9_0 (pg xs) 2 1 c d, 599950, 7298497)) rfl ?_
      exact pm_ret rfl rfl
    have q13 := qF_lt (cx := c.toInt) (cy := 0) rfl (by decide) q13
    refine pm_go (g := (19, [(0, .ref 1), (1, .int 2), (2, .int 1), (3, .int (c))], [.int (c)], g9_0 (pg xs) 2 1 c d, 1, 3)) rfl ?_
    refine pm_go (g := (21, [(0, .ref 1), (1, .int 2), (2, .int 1), (3, .int (c))], [.int 6, .int (c)], g9_0 (pg xs) 2 1 c d, 1, 3)) rfl ?_
    refine pm_if2 (g := (26, [(0, .ref 1), (1, .int 2), (2, .int 1), (3, .int (c))], [], g9_0 (pg xs) 2 1 c d, 1, 3)) (h := (24, [(0, .ref 1), (1, .int 2), (2, .int 1), (3, .int (c))], [], g9_0 (pg xs) 2 1 c d, 1, 3)) rfl (fun q14 => ?_) (fun q14 => ?_)
    ·
      have q14 := qT_lt (cx := c.toInt) (cy := 6) rfl (by decide) q14
      refine pm_go (g := (27, [(0, .ref 1), (1, .int 2), (2, .int 1), (3, .int (c))], [.ref 1], g9_0 (pg xs) 2 1 c d, 1, 3)) rfl ?_
      refine pm_go (g := (30, [(0, .ref 1), (1, .int 2), (2, .int 1), (3, .int (c))], [.int 0], g9_0 (pg xs) 2 1 c d, 1, 3)) rfl ?_
      refine pm_go (g := (32, [(0, .ref 1), (1, .int 2), (2, .int 1), (3, .int (c))], [.int 30, .int 0], g9_0 (pg xs) 2 1 c d, 1, 3)) rfl ?_
      refine pm_brT (g := (38, [(0, .ref 1), (1, .int 2), (2, .int 1), (3, .int (c))], [], g9_0 (pg xs) 2 1 c d, 1, 3)) rfl ?_
      refine pm_go (g := (39, [(0, .ref 1), (1, .int 2), (2, .int 1), (3, .int (c))], [.ref 1], g9_0 (pg xs) 2 1 c d, 1, 3)) rfl ?_
      refine pm_go (g := (42, [(0, .ref 1), (1, .int 2), (2, .int 1), (3, .int (c))], [.ref 22], g9_0 (pg xs) 2 1 c d, 1, 3)) rfl ?_
      refine pm_go (g := (43, [(0, .ref 1), (1, .int 2), (2, .int 1), (3, .int (c))], [.ref 1, .ref 22], g9_0 (pg xs) 2 1 c d, 1, 3)) rfl ?_
      refine pm_go (g := (46, [(0, .ref 1), (1, .int 2), (2, .int 1), (3, .int (c))], [.int 0, .ref 22], g9_0 (pg xs) 2 1 c d, 1, 3)) rfl ?_
      refine pm_go (g := (49, [(0, .ref 1), (1, .int 2), (2, .int 1), (3, .int (c))], [.ref 50, .int 0, .ref 22], g9_1 (pg xs) 2 1 c d, 0, 0)) rfl ?_
      refine pm_go (g := (50, [(0, .ref 1), (1, .int 2), (2, .int 1), (3, .int (c))], [.ref 50, .ref 50, .int 0, .ref 22], g9_1 (pg xs) 2 1 c d, 0, 0)) rfl ?_
      refine pm_go (g := (51, [(0, .ref 1), (1, .int 2), (2, .int 1), (3, .int (c))], [.int 2, .ref 50, .ref 50, .int 0, .ref 22], g9_1 (pg xs) 2 1 c d, 0, 0)) rfl ?_
      refine pm_go (g := (52, [(0, .ref 1), (1, .int 2), (2, .int 1), (3, .int (c))], [.int 1, .int 2, .ref 50, .ref 50, .int 0, .ref 22], g9_1 (pg xs) 2 1 c d, 0, 0)) rfl ?_
      refine pm_go (g := (53, [(0, .ref 1), (1, .int 2), (2, .int 1), (3, .int (c))], [.int 2, .int 1, .int 2, .ref 50, .ref 50, .int 0, .ref 22], g9_1 (pg xs) 2 1 c d, 0, 0)) rfl ?_
      refine pm_go (g := (54, [(0, .ref 1), (1, .int 2), (2, .int 1), (3, .int (c))], [.int 3, .int 2, .int 1, .int 2, .ref 50, .ref 50, .int 0, .ref 22], g9_1 (pg xs) 2 1 c d, 0, 0)) rfl ?_
      refine pm_brT (g := (62, [(0, .ref 1), (1, .int 2), (2, .int 1), (3, .int (c))], [.int 1, .int 2, .ref 50, .ref 50, .int 0, .ref 22], g9_1 (pg xs) 2 1 c d, 0, 0)) rfl ?_
      refine pm_go (g := (63, [(0, .ref 1), (1, .int 2), (2, .int 1), (3, .int (c))], [.int (c), .int 1, .int 2, .ref 50, .ref 50, .int 0, .ref 22], g9_1 (pg xs) 2 1 c d, 0, 0)) rfl ?_
      refine pm_callD (z := 51) (as := [.ref 50, .int 2, .int 1, .int (c)]) (rest := [.ref 50, .int 0, .ref 22]) rfl ?_
      show pm_WP 51 (0, [(0, .ref 50), (1, .int 2), (2, .int 1), (3, .int (c))], [], g9_1 (pg xs) 2 1 c d, 0, 0) _
      refine pm_go (g := (1, [(0, .ref 50), (1, .int 2), (2, .int 1), (3, .int (c))], [.ref 50], g9_1 (pg xs) 2 1 c d, 0, 0)) rfl ?_
      refine pm_go (g := (4, [(0, .ref 50), (1, .int 2), (2, .int 1), (3, .int (c))], [], g9_1 (pg xs) 2 1 c d, 0, 0)) rfl ?_
      refine pm_go (g := (5, [(0, .ref 50), (1, .int 2), (2, .int 1), (3, .int (c))], [.ref 50], g9_1 (pg xs) 2 1 c d, 0, 0)) rfl ?_
      refine pm_go (g := (6, [(0, .ref 50), (1, .int 2), (2, .int 1), (3, .int (c))], [.int 2, .ref 50], g9_1 (pg xs) 2 1 c d, 0, 0)) rfl ?_
      refine pm_go (g := (9, [(0, .ref 50), (1, .int 2), (2, .int 1), (3, .int (c))], [], g9_19 (pg xs) 2 1 c d, 0, 0)) rfl ?_
      refine pm_go (g := (10, [(0, .ref 50), (1, .int 2), (2, .int 1), (3, .int (c))], [.ref 50], g9_19 (pg xs) 2 1 c d, 0, 0)) rfl ?_
      refine pm_go (g := (11, [(0, .ref 50), (1, .int 2), (2, .int 1), (3, .int (c))], [.int 1, .ref 50], g9_19 (pg xs) 2 1 c d, 0, 0)) rfl ?_
      refine pm_go (g := (14, [(0, .ref 50), (1, .int 2), (2, .int 1), (3, .int (c))], [], g9_20 (pg xs) 2 1 c d, 0, 0)) rfl ?_
      refine pm_go (g := (15, [(0, .ref 50), (1, .int 2), (2, .int 1), (3, .int (c))], [.ref 50], g9_20 (pg xs) 2 1 c d, 0, 0)) rfl ?_
      refine pm_go (g := (16, [(0, .ref 50), (1, .int 2), (2, .int 1), (3, .int (c))], [.int (c), .ref 50], g9_20 (pg xs) 2 1 c d, 0, 0)) rfl ?_
      refine pm_go (g := (19, [(0, .ref 50), (1, .int 2), (2, .int 1), (3, .int (c))], [], g9_21 (pg xs) 2 1 c d, 0, 0)) rfl ?_
      refine pm_ret rfl ?_
      show pm_WP 104 (66, [(0, .ref 1), (1, .int 2), (2, .int 1), (3, .int (c))], [.ref 50, .int 0, .ref 22], g9_21 (pg xs) 2 1 c d, 0, 0) _
      refine pm_go (g := (67, [(0, .ref 1), (1, .int 2), (2, .int 1), (3, .int (c))], [], g9_22 (pg xs) 2 1 c d, 0, 0)) rfl ?_
      refine pm_go (g := (68, [(0, .ref 1), (1, .int 2), (2, .int 1), (3, .int (c))], [.ref 1], g9_22 (pg xs) 2 1 c d, 0, 0)) rfl ?_
      refine pm_go (g := (69, [(0, .ref 1), (1, .int 2), (2, .int 1), (3, .int (c))], [.ref 1, .ref 1], g9_22 (pg xs) 2 1 c d, 0, 0)) rfl ?_
      refine pm_go (g := (72, [(0, .ref 1), (1, .int 2), (2, .int 1), (3, .int (c))], [.int 0, .ref 1], g9_22 (pg xs) 2 1 c d, 0, 0)) rfl ?_
      refine pm_go (g := (73, [(0, .ref 1), (1, .int 2), (2, .int 1), (3, .int (c))], [.int 1, .int 0, .ref 1], g9_22 (pg xs) 2 1 c d, 0, 0)) rfl ?_
      refine pm_go (g := (74, [(0, .ref 1), (1, .int 2), (2, .int 1), (3, .int (c))], [.int 1, .ref 1], g9_22 (pg xs) 2 1 c d, 0, 0)) rfl ?_
      refine pm_go (g := (77, [(0, .ref 1), (1, .int 2), (2, .int 1), (3, .int (c))], [], g9_23 (pg xs) 2 1 c d, 0, 0)) rfl ?_
      refine pm_go (g := (78, [(0, .ref 1), (1, .int 2), (2, .int 1), (3, .int (c))], [.ref 1], g9_23 (pg xs) 2 1 c d, 0, 0)) rfl ?_
      refine pm_go (g := (81, [(0, .ref 1), (1, .int 2), (2, .int 1), (3, .int (c))], [.int 1], g9_23 (pg xs) 2 1 c d, 0, 0)) rfl ?_
      refine pm_go (g := (82, [(0, .ref 1), (1, .int 2), (2, .int 1), (3, .int (c))], [.int 1, .int 1], g9_23 (pg xs) 2 1 c d, 0, 0)) rfl ?_
      refine pm_go (g := (83, [(0, .ref 1), (1, .int 2), (2, .int 1), (3, .int (c))], [.int 0], g9_23 (pg xs) 2 1 c d, 0, 0)) rfl ?_
      refine pm_ret rfl ?_
      show pm_WP 0 (424, [(3, .int 0), (2, .ref 25), (1, .ref 1), (0, .ref 0)], [.int 0], g9_23 (pg xs) 2 1 c d, 599950, 7298497) _
      refine pm_go (g := (425, [(3, .int 0), (2, .ref 25), (1, .ref 1), (0, .ref 0)], [.ref 25, .int 0], g9_23 (pg xs) 2 1 c d, 599950, 7298497)) rfl ?_
      refine pm_go (g := (426, [(3, .int 0), (2, .ref 25), (1, .ref 1), (0, .ref 0)], [.ref 0, .ref 25, .int 0], g9_23 (pg xs) 2 1 c d, 599950, 7298497)) rfl ?_
      refine pm_go (g := (427, [(3, .int 0), (2, .ref 25), (1, .ref 1), (0, .ref 0)], [.int 0, .ref 0, .ref 25, .int 0], g9_23 (pg xs) 2 1 c d, 599950, 7298497)) rfl ?_
      refine pm_go (g := (428, [(3, .int 0), (2, .ref 25), (1, .ref 1), (0, .ref 0)], [.int 1, .int 0, .ref 0, .ref 25, .int 0], g9_23 (pg xs) 2 1 c d, 599950, 7298497)) rfl ?_
      refine pm_go (g := (429, [(3, .int 0), (2, .ref 25), (1, .ref 1), (0, .ref 0)], [.int 1, .ref 0, .ref 25, .int 0], g9_23 (pg xs) 2 1 c d, 599950, 7298497)) rfl ?_
      refine pm_go (g := (430, [(3, .int 0), (2, .ref 25), (1, .ref 1), (0, .ref 0)], [.int (xs 1), .ref 25, .int 0], g9_23 (pg xs) 2 1 c d, 599950, 7298497)) rfl ?_
      rw [← ea]
      refine pm_go (g := (431, [(3, .int 0), (2, .ref 25), (1, .ref 1), (0, .ref 0)], [.ref 0, .int 2, .ref 25, .int 0], g9_23 (pg xs) 2 1 c d, 599950, 7298497)) rfl ?_
      refine pm_go (g := (432, [(3, .int 0), (2, .ref 25), (1, .ref 1), (0, .ref 0)], [.int 0, .ref 0, .int 2, .ref 25, .int 0], g9_23 (pg xs) 2 1 c d, 599950, 7298497)) rfl ?_
      refine pm_go (g := (433, [(3, .int 0), (2, .ref 25), (1, .ref 1), (0, .ref 0)], [.int 2, .int 0, .ref 0, .int 2, .ref 25, .int 0], g9_23 (pg xs) 2 1 c d, 599950, 7298497)) rfl ?_
      refine pm_go (g := (434, [(3, .int 0), (2, .ref 25), (1, .ref 1), (0, .ref 0)], [.int 2, .ref 0, .int 2, .ref 25, .int 0], g9_23 (pg xs) 2 1 c d, 599950, 7298497)) rfl ?_
      refine pm_go (g := (435, [(3, .int 0), (2, .ref 25), (1, .ref 1), (0, .ref 0)], [.int (xs 2), .int 2, .ref 25, .int 0], g9_23 (pg xs) 2 1 c d, 599950, 7298497)) rfl ?_
      rw [← eb]
      refine pm_go (g := (436, [(3, .int 0), (2, .ref 25), (1, .ref 1), (0, .ref 0)], [.ref 0, .int 1, .int 2, .ref 25, .int 0], g9_23 (pg xs) 2 1 c d, 599950, 7298497)) rfl ?_
      refine pm_go (g := (437, [(3, .int 0), (2, .ref 25), (1, .ref 1), (0, .ref 0)], [.int 0, .ref 0, .int 1, .int 2, .ref 25, .int 0], g9_23 (pg xs) 2 1 c d, 599950, 7298497)) rfl ?_
      refine pm_go (g := (438, [(3, .int 0), (2, .ref 25), (1, .ref 1), (0, .ref 0)], [.int 3, .int 0, .ref 0, .int 1, .int 2, .ref 25, .int 0], g9_23 (pg xs) 2 1 c d, 599950, 7298497)) rfl ?_
      refine pm_go (g := (439, [(3, .int 0), (2, .ref 25), (1, .ref 1), (0, .ref 0)], [.int 3, .ref 0, .int 1, .int 2, .ref 25, .int 0], g9_23 (pg xs) 2 1 c d, 599950, 7298497)) rfl ?_
      refine pm_go (g := (440, [(3, .int 0), (2, .ref 25), (1, .ref 1), (0, .ref 0)], [.int (xs 3), .int 1, .int 2, .ref 25, .int 0], g9_23 (pg xs) 2 1 c d, 599950, 7298497)) rfl ?_
      rw [← ec]
      refine pm_callD (z := 163) (as := [.ref 25, .int 2, .int 1, .int (c)]) (rest := [.int 0]) rfl ?_
      show pm_WP 163 (0, [(0, .ref 25), (1, .int 2), (2, .int 1), (3, .int (c))], [], g9_23 (pg xs) 2 1 c d, 0, 0) _
      refine pm_go (g := (1, [(0, .ref 25), (1, .int 2), (2, .int 1), (3, .int (c))], [.int 2], g9_23 (pg xs) 2 1 c d, 0, 0)) rfl ?_
      refine pm_go (g := (2, [(0, .ref 25), (1, .int 2), (2, .int 1), (3, .int (c))], [.int 0, .int 2], g9_23 (pg xs) 2 1 c d, 0, 0)) rfl ?_
      refine pm_go (g := (3, [(0, .ref 25), (1, .int 2), (2, .int 1), (3, .int (c))], [.int 4, .int 0, .int 2], g9_23 (pg xs) 2 1 c d, 0, 0)) rfl ?_
      refine pm_callD (z := 128) (as := [.int 2, .int 0, .int 4]) (rest := []) rfl ?_
      show pm_WP 128 (0, [(0, .int 2), (1, .int 0), (2, .int 4)], [], g9_23 (pg xs) 2 1 c d, 0, 0) _
      refine pm_go (g := (1, [(0, .int 2), (1, .int 0), (2, .int 4)], [.int 2], g9_23 (pg xs) 2 1 c d, 0, 0)) rfl ?_
      refine pm_go (g := (2, [(0, .int 2), (1, .int 0), (2, .int 4)], [.int 0, .int 2], g9_23 (pg xs) 2 1 c d, 0, 0)) rfl ?_
      refine pm_brF (h := (5, [(0, .int 2), (1, .int 0), (2, .int 4)], [], g9_23 (pg xs) 2 1 c d, 0, 0)) rfl ?_
      refine pm_go (g := (6, [(0, .int 2), (1, .int 0), (2, .int 4)], [.int 2], g9_23 (pg xs) 2 1 c d, 0, 0)) rfl ?_
      refine pm_go (g := (7, [(0, .int 2), (1, .int 0), (2, .int 4)], [.int 4, .int 2], g9_23 (pg xs) 2 1 c d, 0, 0)) rfl ?_
      refine pm_brF (h := (10, [(0, .int 2), (1, .int 0), (2, .int 4)], [], g9_23 (pg xs) 2 1 c d, 0, 0)) rfl ?_
      refine pm_go (g := (11, [(0, .int 2), (1, .int 0), (2, .int 4)], [.int 1], g9_23 (pg xs) 2 1 c d, 0, 0)) rfl ?_
      refine pm_go (g := (15, [(0, .int 2), (1, .int 0), (2, .int 4)], [.int 1], g9_23 (pg xs) 2 1 c d, 0, 0)) rfl ?_
      refine pm_ret rfl ?_
      show pm_WP 163 (6, [(0, .ref 25), (1, .int 2), (2, .int 1), (3, .int (c))], [.int 1], g9_23 (pg xs) 2 1 c d, 0, 0) _
      refine pm_brT (g := (11, [(0, .ref 25), (1, .int 2), (2, .int 1), (3, .int (c))], [], g9_23 (pg xs) 2 1 c d, 0, 0)) rfl ?_
      refine pm_go (g := (12, [(0, .ref 25), (1, .int 2), (2, .int 1), (3, .int (c))], [.int 2], g9_23 (pg xs) 2 1 c d, 0, 0)) rfl ?_
      refine pm_go (g := (13, [(0, .ref 25), (1, .int 2), (2, .int 1), (3, .int (c))], [.int 2, .int 2], g9_23 (pg xs) 2 1 c d, 0, 0)) rfl ?_
      refine pm_brT (g := (24, [(0, .ref 25), (1, .int 2), (2, .int 1), (3, .int (c))], [], g9_23 (pg xs) 2 1 c d, 0, 0)) rfl ?_
      refine pm_go (g := (25, [(0, .ref 25), (1, .int 2), (2, .int 1), (3, .int (c))], [.int 2], g9_23 (pg xs) 2 1 c d, 0, 0)) rfl ?_
      refine pm_go (g := (26, [(0, .ref 25), (1, .int 2), (2, .int 1), (3, .int (c))], [.int 2, .int 2], g9_23 (pg xs) 2 1 c d, 0, 0)) rfl ?_
      refine pm_brF (h := (29, [(0, .ref 25), (1, .int 2), (2, .int 1), (3, .int (c))], [], g9_23 (pg xs) 2 1 c d, 0, 0)) rfl ?_
      refine pm_go (g := (30, [(0, .ref 25), (1, .int 2), (2, .int 1), (3, .int (c))], [.ref 25], g9_23 (pg xs) 2 1 c d, 0, 0)) rfl ?_
      refine pm_go (g := (31, [(0, .ref 25), (1, .int 2), (2, .int 1), (3, .int (c))], [.int 1, .ref 25], g9_23 (pg xs) 2 1 c d, 0, 0)) rfl ?_
      refine pm_callD (z := 129) (as := [.ref 25, .int 1]) (rest := []) rfl ?_
      show pm_WP 129 (0, [(0, .ref 25), (1, .int 1)], [], g9_23 (pg xs) 2 1 c d, 0, 0) _
      refine pm_go (g := (1, [(0, .ref 25), (1, .int 1)], [.int 1], g9_23 (pg xs) 2 1 c d, 0, 0)) rfl ?_
      refine pm_go (g := (2, [(0, .ref 25), (1, .int 1)], [.int 0, .int 1], g9_23 (pg xs) 2 1 c d, 0, 0)) rfl ?_
      refine pm_go (g := (3, [(0, .ref 25), (1, .int 1)], [.ref 25, .int 0, .int 1], g9_23 (pg xs) 2 1 c d, 0, 0)) rfl ?_
      refine pm_go (g := (6, [(0, .ref 25), (1, .int 1)], [.int 2, .int 0, .int 1], g9_23 (pg xs) 2 1 c d, 0, 0)) rfl ?_
      refine pm_go (g := (7, [(0, .ref 25), (1, .int 1)], [.int 1, .int 2, .int 0, .int 1], g9_23 (pg xs) 2 1 c d, 0, 0)) rfl ?_
      refine pm_go (g := (8, [(0, .ref 25), (1, .int 1)], [.int 1, .int 0, .int 1], g9_23 (pg xs) 2 1 c d, 0, 0)) rfl ?_
      refine pm_callD (z := 128) (as := [.int 1, .int 0, .int 1]) (rest := []) rfl ?_
      show pm_WP 128 (0, [(0, .int 1), (1, .int 0), (2, .int 1)], [], g9_23 (pg xs) 2 1 c d, 0, 0) _
      refine pm_go (g := (1, [(0, .int 1), (1, .int 0), (2, .int 1)], [.int 1], g9_23 (pg xs) 2 1 c d, 0, 0)) rfl ?_
      refine pm_go (g := (2, [(0, .int 1), (1, .int 0), (2, .int 1)], [.int 0, .int 1], g9_23 (pg xs) 2 1 c d, 0, 0)) rfl ?_
      refine pm_brF (h := (5, [(0, .int 1), (1, .int 0), (2, .int 1)], [], g9_23 (pg xs) 2 1 c d, 0, 0)) rfl ?_
      refine pm_go (g := (6, [(0, .int 1), (1, .int 0), (2, .int 1)], [.int 1], g9_23 (pg xs) 2 1 c d, 0, 0)) rfl ?_
      refine pm_go (g := (7, [(0, .int 1), (1, .int 0), (2, .int 1)], [.int 1, .int 1], g9_23 (pg xs) 2 1 c d, 0, 0)) rfl ?_
      refine pm_brF (h := (10, [(0, .int 1), (1, .int 0), (2, .int 1)], [], g9_23 (pg xs) 2 1 c d, 0, 0)) rfl ?_
      refine pm_go (g := (11, [(0, .int 1), (1, .int 0), (2, .int 1)], [.int 1], g9_23 (pg xs) 2 1 c d, 0, 0)) rfl ?_
      refine pm_go (g := (15, [(0, .int 1), (1, .int 0), (2, .int 1)], [.int 1], g9_23 (pg xs) 2 1 c d, 0, 0)) rfl ?_
      refine pm_ret rfl ?_
      show pm_WP 129 (11, [(0, .ref 25), (1, .int 1)], [.int 1], g9_23 (pg xs) 2 1 c d, 0, 0) _
      refine pm_ret rfl ?_
      show pm_WP 163 (34, [(0, .ref 25), (1, .int 2), (2, .int 1), (3, .int (c))], [.int 1], g9_23 (pg xs) 2 1 c d, 0, 0) _
      refine pm_brF (h := (37, [(0, .ref 25), (1, .int 2), (2, .int 1), (3, .int (c))], [], g9_23 (pg xs) 2 1 c d, 0, 0)) rfl ?_
      refine pm_go (g := (38, [(0, .ref 25), (1, .int 2), (2, .int 1), (3, .int (c))], [.int 1], g9_23 (pg xs) 2 1 c d, 0, 0)) rfl ?_
      refine pm_brF (h := (41, [(0, .ref 25), (1, .int 2), (2, .int 1), (3, .int (c))], [], g9_23 (pg xs) 2 1 c d, 0, 0)) rfl ?_
      refine pm_go (g := (42, [(0, .ref 25), (1, .int 2), (2, .int 1), (3, .int (c))], [.int 1], g9_23 (pg xs) 2 1 c d, 0, 0)) rfl ?_
      refine pm_go (g := (81, [(0, .ref 25), (1, .int 2), (2, .int 1), (3, .int (c))], [.int 1], g9_23 (pg xs) 2 1 c d, 0, 0)) rfl ?_
      refine pm_go (g := (83, [(4, .int 1), (0, .ref 25), (1, .int 2), (2, .int 1), (3, .int (c))], [], g9_23 (pg xs) 2 1 c d, 0, 0)) rfl ?_
      refine pm_go (g := (85, [(4, .int 1), (0, .ref 25), (1, .int 2), (2, .int 1), (3, .int (c))], [.int 1], g9_23 (pg xs) 2 1 c d, 0, 0)) rfl ?_
      refine pm_brF (h := (88, [(4, .int 1), (0, .ref 25), (1, .int 2), (2, .int 1), (3, .int (c))], [], g9_23 (pg xs) 2 1 c d, 0, 0)) rfl ?_
      refine pm_go (g := (89, [(4, .int 1), (0, .ref 25), (1, .int 2), (2, .int 1), (3, .int (c))], [.int 2], g9_23 (pg xs) 2 1 c d, 0, 0)) rfl ?_
      refine pm_go (g := (90, [(4, .int 1), (0, .ref 25), (1, .int 2), (2, .int 1), (3, .int (c))], [.int 3, .int 2], g9_23 (pg xs) 2 1 c d, 0, 0)) rfl ?_
      refine pm_brF (h := (93, [(4, .int 1), (0, .ref 25), (1, .int 2), (2, .int 1), (3, .int (c))], [], g9_23 (pg xs) 2 1 c d, 0, 0)) rfl ?_
      refine pm_go (g := (94, [(4, .int 1), (0, .ref 25), (1, .int 2), (2, .int 1), (3, .int (c))], [.int (c)], g9_23 (pg xs) 2 1 c d, 0, 0)) rfl ?_
      refine pm_go (g := (95, [(4, .int 1), (0, .ref 25), (1, .int 2), (2, .int 1), (3, .int (c))], [.int 0, .int (c)], g9_23 (pg xs) 2 1 c d, 0, 0)) rfl ?_
      refine pm_go (g := (96, [(4, .int 1), (0, .ref 25), (1, .int 2), (2, .int 1), (3, .int (c))], [.int 5, .int 0, .int (c)], g9_23 (pg xs) 2 1 c d, 0, 0)) rfl ?_
      refine pm_callD (z := 128) (as := [.int (c), .int 0, .int 5]) (rest := []) rfl ?_
      show pm_WP 128 (0, [(0, .int (c)), (1, .int 0), (2, .int 5)], [], g9_23 (pg xs) 2 1 c d, 0, 0) _
      refine pm_go (g := (1, [(0, .int (c)), (1, .int 0), (2, .int 5)], [.int (c)], g9_23 (pg xs) 2 1 c d, 0, 0)) rfl ?_
      refine pm_go (g := (2, [(0, .int (c)), (1, .int 0), (2, .int 5)], [.int 0, .int (c)], g9_23 (pg xs) 2 1 c d, 0, 0)) rfl ?_
      refine pm_ifF (h := (5, [(0, .int (c)), (1, .int 0), (2, .int 5)], [], g9_23 (pg xs) 2 1 c d, 0, 0)) rfl (rF_lt (cx := c.toInt) (cy := 0) rfl (by decide) (by omega)) ?_
      refine pm_go (g := (6, [(0, .int (c)), (1, .int 0), (2, .int 5)], [.int (c)], g9_23 (pg xs) 2 1 c d, 0, 0)) rfl ?_
      refine pm_go (g := (7, [(0, .int (c)), (1, .int 0), (2, .int 5)], [.int 5, .int (c)], g9_23 (pg xs) 2 1 c d, 0, 0)) rfl ?_
      refine pm_ifF (h := (10, [(0, .int (c)), (1, .int 0), (2, .int 5)], [], g9_23 (pg xs) 2 1 c d, 0, 0)) rfl (rF_gt (cx := c.toInt) (cy := 5) rfl (by decide) (by omega)) ?_
      refine pm_go (g := (11, [(0, .int (c)), (1, .int 0), (2, .int 5)], [.int 1], g9_23 (pg xs) 2 1 c d, 0, 0)) rfl ?_
      refine pm_go (g := (15, [(0, .int (c)), (1, .int 0), (2, .int 5)], [.int 1], g9_23 (pg xs) 2 1 c d, 0, 0)) rfl ?_
      refine pm_ret rfl ?_
      show pm_WP 163 (99, [(4, .int 1), (0, .ref 25), (1, .int 2), (2, .int 1), (3, .int (c))], [.int 1], g9_23 (pg xs) 2 1 c d, 0, 0) _
      refine pm_brT (g := (104, [(4, .int 1), (0, .ref 25), (1, .int 2), (2, .int 1), (3, .int (c))], [], g9_23 (pg xs) 2 1 c d, 0, 0)) rfl ?_
      refine pm_go (g := (105, [(4, .int 1), (0, .ref 25), (1, .int 2), (2, .int 1), (3, .int (c))], [.ref 25], g9_23 (pg xs) 2 1 c d, 0, 0)) rfl ?_
      refine pm_go (g := (108, [(4, .int 1), (0, .ref 25), (1, .int 2), (2, .int 1), (3, .int (c))], [.int 0], g9_23 (pg xs) 2 1 c d, 0, 0)) rfl ?_
      refine pm_go (g := (110, [(4, .int 1), (0, .ref 25), (1, .int 2), (2, .int 1), (3, .int (c))], [.int 30, .int 0], g9_23 (pg xs) 2 1 c d, 0, 0)) rfl ?_
      refine pm_brT (g := (116, [(4, .int 1), (0, .ref 25), (1, .int 2), (2, .int 1), (3, .int (c))], [], g9_23 (pg xs) 2 1 c d, 0, 0)) rfl ?_
      refine pm_go (g := (117, [(4, .int 1), (0, .ref 25), (1, .int 2), (2, .int 1), (3, .int (c))], [.ref 25], g9_23 (pg xs) 2 1 c d, 0, 0)) rfl ?_
      refine pm_go (g := (120, [(4, .int 1), (0, .ref 25), (1, .int 2), (2, .int 1), (3, .int (c))], [.ref 37], g9_23 (pg xs) 2 1 c d, 0, 0)) rfl ?_
      refine pm_go (g := (121, [(4, .int 1), (0, .ref 25), (1, .int 2), (2, .int 1), (3, .int (c))], [.ref 25, .ref 37], g9_23 (pg xs) 2 1 c d, 0, 0)) rfl ?_
      refine pm_go (g := (124, [(4, .int 1), (0, .ref 25), (1, .int 2), (2, .int 1), (3, .int (c))], [.int 0, .ref 37], g9_23 (pg xs) 2 1 c d, 0, 0)) rfl ?_
      refine pm_go (g := (125, [(4, .int 1), (0, .ref 25), (1, .int 2), (2, .int 1), (3, .int (c))], [.int 2, .int 0, .ref 37], g9_23 (pg xs) 2 1 c d, 0, 0)) rfl ?_
      refine pm_go (g := (126, [(4, .int 1), (0, .ref 25), (1, .int 2), (2, .int 1), (3, .int (c))], [], g9_24 (pg xs) 2 1 c d, 0, 0)) rfl ?_
      refine pm_go (g := (127, [(4, .int 1), (0, .ref 25), (1, .int 2), (2, .int 1), (3, .int (c))], [.ref 25], g9_24 (pg xs) 2 1 c d, 0, 0)) rfl ?_
      refine pm_go (g := (130, [(4, .int 1), (0, .ref 25), (1, .int 2), (2, .int 1), (3, .int (c))], [.ref 38], g9_24 (pg xs) 2 1 c d, 0, 0)) rfl ?_
      refine pm_go (g := (131, [(4, .int 1), (0, .ref 25), (1, .int 2), (2, .int 1), (3, .int (c))], [.ref 25, .ref 38], g9_24 (pg xs) 2 1 c d, 0, 0)) rfl ?_
      refine pm_go (g := (134, [(4, .int 1), (0, .ref 25), (1, .int 2), (2, .int 1), (3, .int (c))], [.int 0, .ref 38], g9_24 (pg xs) 2 1 c d, 0, 0)) rfl ?_
      refine pm_go (g := (135, [(4, .int 1), (0, .ref 25), (1, .int 2), (2, .int 1), (3, .int (c))], [.int 1, .int 0, .ref 38], g9_24 (pg xs) 2 1 c d, 0, 0)) rfl ?_
      refine pm_go (g := (136, [(4, .int 1), (0, .ref 25), (1, .int 2), (2, .int 1), (3, .int (c))], [], g9_25 (pg xs) 2 1 c d, 0, 0)) rfl ?_
      refine pm_go (g := (137, [(4, .int 1), (0, .ref 25), (1, .int 2), (2, .int 1), (3, .int (c))], [.ref 25], g9_25 (pg xs) 2 1 c d, 0, 0)) rfl ?_
      refine pm_go (g := (140, [(4, .int 1), (0, .ref 25), (1, .int 2), (2, .int 1), (3, .int (c))], [.ref 39], g9_25 (pg xs) 2 1 c d, 0, 0)) rfl ?_
      refine pm_go (g := (141, [(4, .int 1), (0, .ref 25), (1, .int 2), (2, .int 1), (3, .int (c))], [.ref 25, .ref 39], g9_25 (pg xs) 2 1 c d, 0, 0)) rfl ?_
      refine pm_go (g := (144, [(4, .int 1), (0, .ref 25), (1, .int 2), (2, .int 1), (3, .int (c))], [.int 0, .ref 39], g9_25 (pg xs) 2 1 c d, 0, 0)) rfl ?_
      refine pm_go (g := (145, [(4, .int 1), (0, .ref 25), (1, .int 2), (2, .int 1), (3, .int (c))], [.int (c), .int 0, .ref 39], g9_25 (pg xs) 2 1 c d, 0, 0)) rfl ?_
      refine pm_go (g := (146, [(4, .int 1), (0, .ref 25), (1, .int 2), (2, .int 1), (3, .int (c))], [], g9_26 (pg xs) 2 1 c d, 0, 0)) rfl ?_
      refine pm_go (g := (147, [(4, .int 1), (0, .ref 25), (1, .int 2), (2, .int 1), (3, .int (c))], [.ref 25], g9_26 (pg xs) 2 1 c d, 0, 0)) rfl ?_
      refine pm_go (g := (148, [(4, .int 1), (0, .ref 25), (1, .int 2), (2, .int 1), (3, .int (c))], [.ref 25, .ref 25], g9_26 (pg xs) 2 1 c d, 0, 0)) rfl ?_
      refine pm_go (g := (151, [(4, .int 1), (0, .ref 25), (1, .int 2), (2, .int 1), (3, .int (c))], [.int 0, .ref 25], g9_26 (pg xs) 2 1 c d, 0, 0)) rfl ?_
      refine pm_go (g := (152, [(4, .int 1), (0, .ref 25), (1, .int 2), (2, .int 1), (3, .int (c))], [.int 1, .int 0, .ref 25], g9_26 (pg xs) 2 1 c d, 0, 0)) rfl ?_
      refine pm_go (g := (153, [(4, .int 1), (0, .ref 25), (1, .int 2), (2, .int 1), (3, .int (c))], [.int 1, .ref 25], g9_26 (pg xs) 2 1 c d, 0, 0)) rfl ?_
      refine pm_go (g := (156, [(4, .int 1), (0, .ref 25), (1, .int 2), (2, .int 1), (3, .int (c))], [], g9_27 (pg xs) 2 1 c d, 0, 0)) rfl ?_
      refine pm_go (g := (157, [(4, .int 1), (0, .ref 25), (1, .int 2), (2, .int 1), (3, .int (c))], [.ref 25], g9_27 (pg xs) 2 1 c d, 0, 0)) rfl ?_
      refine pm_go (g := (160, [(4, .int 1), (0, .ref 25), (1, .int 2), (2, .int 1), (3, .int (c))], [.int 1], g9_27 (pg xs) 2 1 c d, 0, 0)) rfl ?_
      refine pm_go (g := (161, [(4, .int 1), (0, .ref 25), (1, .int 2), (2, .int 1), (3, .int (c))], [.int 1, .int 1], g9_27 (pg xs) 2 1 c d, 0, 0)) rfl ?_
      refine pm_go (g := (162, [(4, .int 1), (0, .ref 25), (1, .int 2), (2, .int 1), (3, .int (c))], [.int 0], g9_27 (pg xs) 2 1 c d, 0, 0)) rfl ?_
      refine pm_ret rfl ?_
      show pm_WP 0 (443, [(3, .int 0), (2, .ref 25), (1, .ref 1), (0, .ref 0)], [.int 0, .int 0], g9_27 (pg xs) 2 1 c d, 599950, 7298497) _
      refine pm_brT (g := (873, [(3, .int 0), (2, .ref 25), (1, .ref 1), (0, .ref 0)], [], g9_27 (pg xs) 2 1 c d, 599950, 7298497)) rfl ?_
      refine pm_go (g := (876, [(3, .int 5), (2, .ref 25), (1, .ref 1), (0, .ref 0)], [], g9_27 (pg xs) 2 1 c d, 599950, 7298497)) rfl ?_
      refine pm_go (g := (18, [(3, .int 5), (2, .ref 25), (1, .ref 1), (0, .ref 0)], [], g9_27 (pg xs) 2 1 c d, 599950, 7298497)) rfl ?_
      refine pm_go (g := (19, [(3, .int 5), (2, .ref 25), (1, .ref 1), (0, .ref 0)], [.int 5], g9_27 (pg xs) 2 1 c d, 599950, 7298497)) rfl ?_
      refine pm_go (g := (20, [(3, .int 5), (2, .ref 25), (1, .ref 1), (0, .ref 0)], [.ref 0, .int 5], g9_27 (pg xs) 2 1 c d, 599950, 7298497)) rfl ?_
      refine pm_go (g := (21, [(3, .int 5), (2, .ref 25), (1, .ref 1), (0, .ref 0)], [.int 5, .int 5], g9_27 (pg xs) 2 1 c d, 599950, 7298497)) rfl ?_
      refine pm_go (g := (22, [(3, .int 5), (2, .ref 25), (1, .ref 1), (0, .ref 0)], [.int 5, .int 5, .int 5], g9_27 (pg xs) 2 1 c d, 599950, 7298497)) rfl ?_
      refine pm_go (g := (23, [(3, .int 5), (2, .ref 25), (1, .ref 1), (0, .ref 0)], [.int 0, .int 5], g9_27 (pg xs) 2 1 c d, 599950, 7298497)) rfl ?_
      refine pm_brT (g := (879, [(3, .int 5), (2, .ref 25), (1, .ref 1), (0, .ref 0)], [], g9_27 (pg xs) 2 1 c d, 599950, 7298497)) rfl ?_
      refine pm_go (g := (880, [(3, .int 5), (2, .ref 25), (1, .ref 1), (0, .ref 0)], [.int 1], g9_27 (pg xs) 2 1 c d, 599950, 7298497)) rfl ?_
      exact pm_ret rfl rfl
    have q14 := qF_lt (cx := c.toInt) (cy := 6) rfl (by decide) q14
    refine pm_go (g := (25, [(0, .ref 1), (1, .int 2), (2, .int 1), (3, .int (c))], [.int (-1)], g9_0 (pg xs) 2 1 c d, 1, 3)) rfl ?_
    refine pm_ret rfl ?_
    show pm_WP 0 (424, [(3, .int 0), (2, .ref 25), (1, .ref 1), (0, .ref 0)], [.int (-1)], g9_0 (pg xs) 2 1 c d, 599950, 7298497) _
    refine pm_go (g := (425, [(3, .int 0), (2, .ref 25), (1, .ref 1), (0, .ref 0)], [.ref 25, .int (-1)], g9_0 (pg xs) 2 1 c d, 599950, 7298497)) rfl ?_
    refine pm_go (g := (426, [(3, .int 0), (2, .ref 25), (1, .ref 1), (0, .ref 0)], [.ref 0, .ref 25, .int (-1)], g9_0 (pg xs) 2 1 c d, 599950, 7298497)) rfl ?_
    refine pm_go (g := (427, [(3, .int 0), (2, .ref 25), (1, .ref 1), (0, .ref 0)], [.int 0, .ref 0, .ref 25, .int (-1)], g9_0 (pg xs) 2 1 c d, 599950, 7298497)) rfl ?_
    refine pm_go (g := (428, [(3, .int 0), (2, .ref 25), (1, .ref 1), (0, .ref 0)], [.int 1, .int 0, .ref 0, .ref 25, .int (-1)], g9_0 (pg xs) 2 1 c d, 599950, 7298497)) rfl ?_
    refine pm_go (g := (429, [(3, .int 0), (2, .ref 25), (1, .ref 1), (0, .ref 0)], [.int 1, .ref 0, .ref 25, .int (-1)], g9_0 (pg xs) 2 1 c d, 599950, 7298497)) rfl ?_
    refine pm_go (g := (430, [(3, .int 0), (2, .ref 25), (1, .ref 1), (0, .ref 0)], [.int (xs 1), .ref 25, .int (-1)], g9_0 (pg xs) 2 1 c d, 599950, 7298497)) rfl ?_
    rw [← ea]
    refine pm_go (g := (431, [(3, .int 0), (2, .ref 25), (1, .ref 1), (0, .ref 0)], [.ref 0, .int 2, .ref 25, .int (-1)], g9_0 (pg xs) 2 1 c d, 599950, 7298497)) rfl ?_
    refine pm_go (g := (432, [(3, .int 0), (2, .ref 25), (1, .ref 1), (0, .ref 0)], [.int 0, .ref 0, .int 2, .ref 25, .int (-1)], g9_0 (pg xs) 2 1 c d, 599950, 7298497)) rfl ?_
    refine pm_go (g := (433, [(3, .int 0), (2, .ref 25), (1, .ref 1), (0, .ref 0)], [.int 2, .int 0, .ref 0, .int 2, .ref 25, .int (-1)], g9_0 (pg xs) 2 1 c d, 599950, 7298497)) rfl ?_
    refine pm_go (g := (434, [(3, .int 0), (2, .ref 25), (1, .ref 1), (0, .ref 0)], [.int 2, .ref 0, .int 2, .ref 25, .int (-1)], g9_0 (pg xs) 2 1 c d, 599950, 7298497)) rfl ?_
    refine pm_go (g := (435, [(3, .int 0), (2, .ref 25), (1, .ref 1), (0, .ref 0)], [.int (xs 2), .int 2, .ref 25, .int (-1)], g9_0 (pg xs) 2 1 c d, 599950, 7298497)) rfl ?_
    rw [← eb]
    refine pm_go (g := (436, [(3, .int 0), (2, .ref 25), (1, .ref 1), (0, .ref 0)], [.ref 0, .int 1, .int 2, .ref 25, .int (-1)], g9_0 (pg xs) 2 1 c d, 599950, 7298497)) rfl ?_
    refine pm_go (g := (437, [(3, .int 0), (2, .ref 25), (1, .ref 1), (0, .ref 0)], [.int 0, .ref 0, .int 1, .int 2, .ref 25, .int (-1)], g9_0 (pg xs) 2 1 c d, 599950, 7298497)) rfl ?_
    refine pm_go (g := (438, [(3, .int 0), (2, .ref 25), (1, .ref 1), (0, .ref 0)], [.int 3, .int 0, .ref 0, .int 1, .int 2, .ref 25, .int (-1)], g9_0 (pg xs) 2 1 c d, 599950, 7298497)) rfl ?_
    refine pm_go (g := (439, [(3, .int 0), (2, .ref 25), (1, .ref 1), (0, .ref 0)], [.int 3, .ref 0, .int 1, .int 2, .ref 25, .int (-1)], g9_0 (pg xs) 2 1 c d, 599950, 7298497)) rfl ?_
    refine pm_go (g := (440, [(3, .int 0), (2, .ref 25), (1, .ref 1), (0, .ref 0)], [.int (xs 3), .int 1, .int 2, .ref 25, .int (-1)], g9_0 (pg xs) 2 1 c d, 599950, 7298497)) rfl ?_
    rw [← ec]
    refine pm_callD (z := 163) (as := [.ref 25, .int 2, .int 1, .int (c)]) (rest := [.int (-1)]) rfl ?_
    show pm_WP 163 (0, [(0, .ref 25), (1, .int 2), (2, .int 1), (3, .int (c))], [], g9_0 (pg xs) 2 1 c d, 0, 0) _
    refine pm_go (g := (1, [(0, .ref 25), (1, .int 2), (2, .int 1), (3, .int (c))], [.int 2], g9_0 (pg xs) 2 1 c d, 0, 0)) rfl ?_
    refine pm_go (g := (2, [(0, .ref 25), (1, .int 2), (2, .int 1), (3, .int (c))], [.int 0, .int 2], g9_0 (pg xs) 2 1 c d, 0, 0)) rfl ?_
    refine pm_go (g := (3, [(0, .ref 25), (1, .int 2), (2, .int 1), (3, .int (c))], [.int 4, .int 0, .int 2], g9_0 (pg xs) 2 1 c d, 0, 0)) rfl ?_
    refine pm_callD (z := 128) (as := [.int 2, .int 0, .int 4]) (rest := []) rfl ?_
    show pm_WP 128 (0, [(0, .int 2), (1, .int 0), (2, .int 4)], [], g9_0 (pg xs) 2 1 c d, 0, 0) _
    refine pm_go (g := (1, [(0, .int 2), (1, .int 0), (2, .int 4)], [.int 2], g9_0 (pg xs) 2 1 c d, 0, 0)) rfl ?_
    refine pm_go (g := (2, [(0, .int 2), (1, .int 0), (2, .int 4)], [.int 0, .int 2], g9_0 (pg xs) 2 1 c d, 0, 0)) rfl ?_
    refine pm_brF (h := (5, [(0, .int 2), (1, .int 0), (2, .int 4)], [], g9_0 (pg xs) 2 1 c d, 0, 0)) rfl ?_
    refine pm_go (g := (6, [(0, .int 2), (1, .int 0), (2, .int 4)], [.int 2], g9_0 (pg xs) 2 1 c d, 0, 0)) rfl ?_
    refine pm_go (g := (7, [(0, .int 2), (1, .int 0), (2, .int 4)], [.int 4, .int 2], g9_0 (pg xs) 2 1 c d, 0, 0)) rfl ?_
    refine pm_brF (h := (10, [(0, .int 2), (1, .int 0), (2, .int 4)], [], g9_0 (pg xs) 2 1 c d, 0, 0)) rfl ?_
    refine pm_go (g := (11, [(0, .int 2), (1, .int 0), (2, .int 4)], [.int 1], g9_0 (pg xs) 2 1 c d, 0, 0)) rfl ?_
    refine pm_go (g := (15, [(0, .int 2), (1, .int 0), (2, .int 4)], [.int 1], g9_0 (pg xs) 2 1 c d, 0, 0)) rfl ?_
    refine pm_ret rfl ?_
    show pm_WP 163 (6, [(0, .ref 25), (1, .int 2), (2, .int 1), (3, .int (c))], [.int 1], g9_0 (pg xs) 2 1 c d, 0, 0) _
    refine pm_brT (g := (11, [(0, .ref 25), (1, .int 2), (2, .int 1), (3, .int (c))], [], g9_0 (pg xs) 2 1 c d, 0, 0)) rfl ?_
    refine pm_go (g := (12, [(0, .ref 25), (1, .int 2), (2, .int 1), (3, .int (c))], [.int 2], g9_0 (pg xs) 2 1 c d, 0, 0)) rfl ?_
    refine pm_go (g := (13, [(0, .ref 25), (1, .int 2), (2, .int 1), (3, .int (c))], [.int 2, .int 2], g9_0 (pg xs) 2 1 c d, 0, 0)) rfl ?_
    refine pm_brT (g := (24, [(0, .ref 25), (1, .int 2), (2, .int 1), (3, .int (c))], [], g9_0 (pg xs) 2 1 c d, 0, 0)) rfl ?_
    refine pm_go (g := (25, [(0, .ref 25), (1, .int 2), (2, .int 1), (3, .int (c))], [.int 2], g9_0 (pg xs) 2 1 c d, 0, 0)) rfl ?_
    refine pm_go (g := (26, [(0, .ref 25), (1, .int 2), (2, .int 1), (3, .int (c))], [.int 2, .int 2], g9_0 (pg xs) 2 1 c d, 0, 0)) rfl ?_
    refine pm_brF (h := (29, [(0, .ref 25), (1, .int 2), (2, .int 1), (3, .int (c))], [], g9_0 (pg xs) 2 1 c d, 0, 0)) rfl ?_
    refine pm_go (g := (30, [(0, .ref 25), (1, .int 2), (2, .int 1), (3, .int (c))], [.ref 25], g9_0 (pg xs) 2 1 c d, 0, 0)) rfl ?_
    refine pm_go (g := (31, [(0, .ref 25), (1, .int 2), (2, .int 1), (3, .int (c))], [.int 1, .ref 25], g9_0 (pg xs) 2 1 c d, 0, 0)) rfl ?_
    refine pm_callD (z := 129) (as := [.ref 25, .int 1]) (rest := []) rfl ?_
    show pm_WP 129 (0, [(0, .ref 25), (1, .int 1)], [], g9_0 (pg xs) 2 1 c d, 0, 0) _
    refine pm_go (g := (1, [(0, .ref 25), (1, .int 1)], [.int 1], g9_0 (pg xs) 2 1 c d, 0, 0)) rfl ?_
    refine pm_go (g := (2, [(0, .ref 25), (1, .int 1)], [.int 0, .int 1], g9_0 (pg xs) 2 1 c d, 0, 0)) rfl ?_
    refine pm_go (g := (3, [(0, .ref 25), (1, .int 1)], [.ref 25, .int 0, .int 1], g9_0 (pg xs) 2 1 c d, 0, 0)) rfl ?_
    refine pm_go (g := (6, [(0, .ref 25), (1, .int 1)], [.int 2, .int 0, .int 1], g9_0 (pg xs) 2 1 c d, 0, 0)) rfl ?_
    refine pm_go (g := (7, [(0, .ref 25), (1, .int 1)], [.int 1, .int 2, .int 0, .int 1], g9_0 (pg xs) 2 1 c d, 0, 0)) rfl ?_
    refine pm_go (g := (8, [(0, .ref 25), (1, .int 1)], [.int 1, .int 0, .int 1], g9_0 (pg xs) 2 1 c d, 0, 0)) rfl ?_
    refine pm_callD (z := 128) (as := [.int 1, .int 0, .int 1]) (rest := []) rfl ?_
    show pm_WP 128 (0, [(0, .int 1), (1, .int 0), (2, .int 1)], [], g9_0 (pg xs) 2 1 c d, 0, 0) _
    refine pm_go (g := (1, [(0, .int 1), (1, .int 0), (2, .int 1)], [.int 1], g9_0 (pg xs) 2 1 c d, 0, 0)) rfl ?_
    refine pm_go (g := (2, [(0, .int 1), (1, .int 0), (2, .int 1)], [.int 0, .int 1], g9_0 (pg xs) 2 1 c d, 0, 0)) rfl ?_
    refine pm_brF (h := (5, [(0, .int 1), (1, .int 0), (2, .int 1)], [], g9_0 (pg xs) 2 1 c d, 0, 0)) rfl ?_
    refine pm_go (g := (6, [(0, .int 1), (1, .int 0), (2, .int 1)], [.int 1], g9_0 (pg xs) 2 1 c d, 0, 0)) rfl ?_
    refine pm_go (g := (7, [(0, .int 1), (1, .int 0), (2, .int 1)], [.int 1, .int 1], g9_0 (pg xs) 2 1 c d, 0, 0)) rfl ?_
    refine pm_brF (h := (10, [(0, .int 1), (1, .int 0), (2, .int 1)], [], g9_0 (pg xs) 2 1 c d, 0, 0)) rfl ?_
    refine pm_go (g := (11, [(0, .int 1), (1, .int 0), (2, .int 1)], [.int 1], g9_0 (pg xs) 2 1 c d, 0, 0)) rfl ?_
    refine pm_go (g := (15, [(0, .int 1), (1, .int 0), (2, .int 1)], [.int 1], g9_0 (pg xs) 2 1 c d, 0, 0)) rfl ?_
    refine pm_ret rfl ?_
    show pm_WP 129 (11, [(0, .ref 25), (1, .int 1)], [.int 1], g9_0 (pg xs) 2 1 c d, 0, 0) _
    refine pm_ret rfl ?_
    show pm_WP 163 (34, [(0, .ref 25), (1, .int 2), (2, .int 1), (3, .int (c))], [.int 1], g9_0 (pg xs) 2 1 c d, 0, 0) _
    refine pm_brF (h := (37, [(0, .ref 25), (1, .int 2), (2, .int 1), (3, .int (c))], [], g9_0 (pg xs) 2 1 c d, 0, 0)) rfl ?_
    refine pm_go (g := (38, [(0, .ref 25), (1, .int 2), (2, .int 1), (3, .int (c))], [.int 1], g9_0 (pg xs) 2 1 c d, 0, 0)) rfl ?_
    refine pm_brF (h := (41, [(0, .ref 25), (1, .int 2), (2, .int 1), (3, .int (c))], [], g9_0 (pg xs) 2 1 c d, 0, 0)) rfl ?_
    refine pm_go (g := (42, [(0, .ref 25), (1, .int 2), (2, .int 1), (3, .int (c))], [.int 1], g9_0 (pg xs) 2 1 c d, 0, 0)) rfl ?_
    refine pm_go (g := (81, [(0, .ref 25), (1, .int 2), (2, .int 1), (3, .int (c))], [.int 1], g9_0 (pg xs) 2 1 c d, 0, 0)) rfl ?_
    refine pm_go (g := (83, [(4, .int 1), (0, .ref 25), (1, .int 2), (2, .int 1), (3, .int (c))], [], g9_0 (pg xs) 2 1 c d, 0, 0)) rfl ?_
    refine pm_go (g := (85, [(4, .int 1), (0, .ref 25), (1, .int 2), (2, .int 1), (3, .int (c))], [.int 1], g9_0 (pg xs) 2 1 c d, 0, 0)) rfl ?_
    refine pm_brF (h := (88, [(4, .int 1), (0, .ref 25), (1, .int 2), (2, .int 1), (3, .int (c))], [], g9_0 (pg xs) 2 1 c d, 0, 0)) rfl ?_
    refine pm_go (g := (89, [(4, .int 1), (0, .ref 25), (1, .int 2), (2, .int 1), (3, .int (c))], [.int 2], g9_0 (pg xs) 2 1 c d, 0, 0)) rfl ?_
    refine pm_go (g := (90, [(4, .int 1), (0, .ref 25), (1, .int 2), (2, .int 1), (3, .int (c))], [.int 3, .int 2], g9_0 (pg xs) 2 1 c d, 0, 0)) rfl ?_
    refine pm_brF (h := (93, [(4, .int 1), (0, .ref 25), (1, .int 2), (2, .int 1), (3, .int (c))], [], g9_0 (pg xs) 2 1 c d, 0, 0)) rfl ?_
    refine pm_go (g := (94, [(4, .int 1), (0, .ref 25), (1, .int 2), (2, .int 1), (3, .int (c))], [.int (c)], g9_0 (pg xs) 2 1 c d, 0, 0)) rfl ?_
    refine pm_go (g := (95, [(4, .int 1), (0, .ref 25), (1, .int 2), (2, .int 1), (3, .int (c))], [.int 0, .int (c)], g9_0 (pg xs) 2 1 c d, 0, 0)) rfl ?_
    refine pm_go (g := (96, [(4, .int 1), (0, .ref 25), (1, .int 2), (2, .int 1), (3, .int (c))], [.int 5, .int 0, .int (c)], g9_0 (pg xs) 2 1 c d, 0, 0)) rfl ?_
    refine pm_callD (z := 128) (as := [.int (c), .int 0, .int 5]) (rest := []) rfl ?_
    show pm_WP 128 (0, [(0, .int (c)), (1, .int 0), (2, .int 5)], [], g9_0 (pg xs) 2 1 c d, 0, 0) _
    refine pm_go (g := (1, [(0, .int (c)), (1, .int 0), (2, .int 5)], [.int (c)], g9_0 (pg xs) 2 1 c d, 0, 0)) rfl ?_
    refine pm_go (g := (2, [(0, .int (c)), (1, .int 0), (2, .int 5)], [.int 0, .int (c)], g9_0 (pg xs) 2 1 c d, 0, 0)) rfl ?_
    refine pm_ifF (h := (5, [(0, .int (c)), (1, .int 0), (2, .int 5)], [], g9_0 (pg xs) 2 1 c d, 0, 0)) rfl (rF_lt (cx := c.toInt) (cy := 0) rfl (by decide) (by omega)) ?_
    refine pm_go (g := (6, [(0, .int (c)), (1, .int 0), (2, .int 5)], [.int (c)], g9_0 (pg xs) 2 1 c d, 0, 0)) rfl ?_
    refine pm_go (g := (7, [(0, .int (c)), (1, .int 0), (2, .int 5)], [.int 5, .int (c)], g9_0 (pg xs) 2 1 c d, 0, 0)) rfl ?_
    refine pm_ifT (g := (14, [(0, .int (c)), (1, .int 0), (2, .int 5)], [], g9_0 (pg xs) 2 1 c d, 0, 0)) rfl (rT_gt (cx := c.toInt) (cy := 5) rfl (by decide) (by omega)) ?_
    refine pm_go (g := (15, [(0, .int (c)), (1, .int 0), (2, .int 5)], [.int 0], g9_0 (pg xs) 2 1 c d, 0, 0)) rfl ?_
    refine pm_ret rfl ?_
    show pm_WP 163 (99, [(4, .int 1), (0, .ref 25), (1, .int 2), (2, .int 1), (3, .int (c))], [.int 0], g9_0 (pg xs) 2 1 c d, 0, 0) _
    refine pm_brF (h := (102, [(4, .int 1), (0, .ref 25), (1, .int 2), (2, .int 1), (3, .int (c))], [], g9_0 (pg xs) 2 1 c d, 0, 0)) rfl ?_
    refine pm_go (g := (103, [(4, .int 1), (0, .ref 25), (1, .int 2), (2, .int 1), (3, .int (c))], [.int (-1)], g9_0 (pg xs) 2 1 c d, 0, 0)) rfl ?_
    refine pm_ret rfl ?_
    show pm_WP 0 (443, [(3, .int 0), (2, .ref 25), (1, .ref 1), (0, .ref 0)], [.int (-1), .int (-1)], g9_0 (pg xs) 2 1 c d, 599950, 7298497) _
    refine pm_brT (g := (873, [(3, .int 0), (2, .ref 25), (1, .ref 1), (0, .ref 0)], [], g9_0 (pg xs) 2 1 c d, 599950, 7298497)) rfl ?_
    refine pm_go (g := (876, [(3, .int 5), (2, .ref 25), (1, .ref 1), (0, .ref 0)], [], g9_0 (pg xs) 2 1 c d, 599950, 7298497)) rfl ?_
    refine pm_go (g := (18, [(3, .int 5), (2, .ref 25), (1, .ref 1), (0, .ref 0)], [], g9_0 (pg xs) 2 1 c d, 599950, 7298497)) rfl ?_
    refine pm_go (g := (19, [(3, .int 5), (2, .ref 25), (1, .ref 1), (0, .ref 0)], [.int 5], g9_0 (pg xs) 2 1 c d, 599950, 7298497)) rfl ?_
    refine pm_go (g := (20, [(3, .int 5), (2, .ref 25), (1, .ref 1), (0, .ref 0)], [.ref 0, .int 5], g9_0 (pg xs) 2 1 c d, 599950, 7298497)) rfl ?_
    refine pm_go (g := (21, [(3, .int 5), (2, .ref 25), (1, .ref 1), (0, .ref 0)], [.int 5, .int 5], g9_0 (pg xs) 2 1 c d, 599950, 7298497)) rfl ?_
    refine pm_go (g := (22, [(3, .int 5), (2, .ref 25), (1, .ref 1), (0, .ref 0)], [.int 5, .int 5, .int 5], g9_0 (pg xs) 2 1 c d, 599950, 7298497)) rfl ?_
    refine pm_go (g := (23, [(3, .int 5), (2, .ref 25), (1, .ref 1), (0, .ref 0)], [.int 0, .int 5], g9_0 (pg xs) 2 1 c d, 599950, 7298497)) rfl ?_
    refine pm_brT (g := (879, [(3, .int 5), (2, .ref 25), (1, .ref 1), (0, .ref 0)], [], g9_0 (pg xs) 2 1 c d, 599950, 7298497)) rfl ?_
    refine pm_go (g := (880, [(3, .int 5), (2, .ref 25), (1, .ref 1), (0, .ref 0)], [.int 1], g9_0 (pg xs) 2 1 c d, 599950, 7298497)) rfl ?_
    exact pm_ret rfl rfl
  ·
    obtain rfl : a = 3 := xI (c := 3) (by decide) (by omega)
    show pm_WP 111 (1, [(0, .ref 1), (1, .int 3), (2, .int (b))], [.int 3], g9_0 (pg xs) 3 b c d, 0, 0) _
    refine pm_go (g := (66, [(0, .ref 1), (1, .int 3), (2, .int (b))], [], g9_0 (pg xs) 3 b c d, 0, 0)) rfl ?_
    refine pm_go (g := (67, [(0, .ref 1), (1, .int 3), (2, .int (b))], [.ref 1], g9_0 (pg xs) 3 b c d, 0, 0)) rfl ?_
    refine pm_go (g := (70, [(0, .ref 1), (1, .int 3), (2, .int (b))], [.ref 2], g9_0 (pg xs) 3 b c d, 0, 0)) rfl ?_
    refine pm_go (g := (71, [(0, .ref 1), (1, .int 3), (2, .int (b))], [.int (b), .ref 2], g9_0 (pg xs) 3 b c d, 0, 0)) rfl ?_
    refine pm_callD (z := 82) (as := [.ref 2, .int (b)]) (rest := []) rfl ?_
    show pm_WP 82 (0, [(0, .ref 2), (1, .int (b))], [], g9_0 (pg xs) 3 b c d, 0, 0) _
    refine pm_go (g := (1, [(0, .ref 2), (1, .int (b))], [.ref 2], g9_0 (pg xs) 3 b c d, 0, 0)) rfl ?_
    refine pm_go (g := (2, [(0, .ref 2), (1, .int (b))], [.int (b), .ref 2], g9_0 (pg xs) 3 b c d, 0, 0)) rfl ?_
    refine pm_callD (z := 81) (as := [.ref 2, .int (b)]) (rest := []) rfl ?_
    show pm_WP 81 (0, [(0, .ref 2), (1, .int (b))], [], g9_0 (pg xs) 3 b c d, 0, 0) _
    refine pm_go (g := (1, [(0, .ref 2), (1, .int (b))], [.int (b)], g9_0 (pg xs) 3 b c d, 0, 0)) rfl ?_
    refine pm_if2 (g := (16, [(0, .ref 2), (1, .int (b))], [], g9_0 (pg xs) 3 b c d, 0, 0)) (h := (4, [(0, .ref 2), (1, .int (b))], [], g9_0 (pg xs) 3 b c d, 0, 0)) rfl (fun q15 => ?_) (fun q15 => ?_)
    ·
      have q15 := qT_lt (cx := b.toInt) (cy := 0) rfl (by decide) q15
      refine pm_go (g := (17, [(0, .ref 2), (1, .int (b))], [.int 0], g9_0 (pg xs) 3 b c d, 0, 0)) rfl ?_
      refine pm_ret rfl ?_
      show pm_WP 82 (5, [(0, .ref 2), (1, .int (b))], [.int 0], g9_0 (pg xs) 3 b c d, 0, 0) _
      refine pm_brT (g := (17, [(0, .ref 2), (1, .int (b))], [], g9_0 (pg xs) 3 b c d, 0, 0)) rfl ?_
      refine pm_go (g := (18, [(0, .ref 2), (1, .int (b))], [.int 0], g9_0 (pg xs) 3 b c d, 0, 0)) rfl ?_
      refine pm_ret rfl ?_
      show pm_WP 111 (74, [(0, .ref 1), (1, .int 3), (2, .int (b))], [.int 0], g9_0 (pg xs) 3 b c d, 0, 0) _
      refine pm_ret rfl ?_
      show pm_WP 104 (6, [(0, .ref 1), (1, .int 3), (2, .int (b)), (3, .int (c))], [.int 0], g9_0 (pg xs) 3 b c d, 1, 3) _
      refine pm_brT (g := (24, [(0, .ref 1), (1, .int 3), (2, .int (b)), (3, .int (c))], [], g9_0 (pg xs) 3 b c d, 1, 3)) rfl ?_
      refine pm_go (g := (25, [(0, .ref 1), (1, .int 3), (2, .int (b)), (3, .int (c))], [.int (-1)], g9_0 (pg xs) 3 b c d, 1, 3)) rfl ?_
      refine pm_ret rfl ?_
      show pm_WP 0 (424, [(3, .int 0), (2, .ref 25), (1, .ref 1), (0, .ref 0)], [.int (-1)], g9_0 (pg xs) 3 b c d, 599950, 7298497) _
      refine pm_go (g := (425, [(3, .int 0), (2, .ref 25), (1, .ref 1), (0, .ref 0)], [.ref 25, .int (-1)], g9_0 (pg xs) 3 b c d, 599950, 7298497)) rfl ?_
      refine pm_go (g := (426, [(3, .int 0), (2, .ref 25), (1, .ref 1), (0, .ref 0)], [.ref 0, .ref 25, .int (-1)], g9_0 (pg xs) 3 b c d, 599950, 7298497)) rfl ?_
      refine pm_go (g := (427, [(3, .int 0), (2, .ref 25), (1, .ref 1), (0, .ref 0)], [.int 0, .ref 0, .ref 25, .int (-1)], g9_0 (pg xs) 3 b c d, 599950, 7298497)) rfl ?_
      refine pm_go (g := (428, [(3, .int 0), (2, .ref 25), (1, .ref 1), (0, .ref 0)], [.int 1, .int 0, .ref 0, .ref 25, .int (-1)], g9_0 (pg xs) 3 b c d, 599950, 7298497)) rfl ?_
      refine pm_go (g := (429, [(3, .int 0), (2, .ref 25), (1, .ref 1), (0, .ref 0)], [.int 1, .ref 0, .ref 25, .int (-1)], g9_0 (pg xs) 3 b c d, 599950, 7298497)) rfl ?_
      refine pm_go (g := (430, [(3, .int 0), (2, .ref 25), (1, .ref 1), (0, .ref 0)], [.int (xs 1), .ref 25, .int (-1)], g9_0 (pg xs) 3 b c d, 599950, 7298497)) rfl ?_
      rw [← ea]
      refine pm_go (g := (431, [(3, .int 0), (2, .ref 25), (1, .ref 1), (0, .ref 0)], [.ref 0, .int 3, .ref 25, .int (-1)], g9_0 (pg xs) 3 b c d, 599950, 7298497)) rfl ?_
      refine pm_go (g := (432, [(3, .int 0), (2, .ref 25), (1, .ref 1), (0, .ref 0)], [.int 0, .ref 0, .int 3, .ref 25, .int (-1)], g9_0 (pg xs) 3 b c d, 599950, 7298497)) rfl ?_
      refine pm_go (g := (433, [(3, .int 0), (2, .ref 25), (1, .ref 1), (0, .ref 0)], [.int 2, .int 0, .ref 0, .int 3, .ref 25, .int (-1)], g9_0 (pg xs) 3 b c d, 599950, 7298497)) rfl ?_
      refine pm_go (g := (434, [(3, .int 0), (2, .ref 25), (1, .ref 1), (0, .ref 0)], [.int 2, .ref 0, .int 3, .ref 25, .int (-1)], g9_0 (pg xs) 3 b c d, 599950, 7298497)) rfl ?_
      refine pm_go (g := (435, [(3, .int 0), (2, .ref 25), (1, .ref 1), (0, .ref 0)], [.int (xs 2), .int 3, .ref 25, .int (-1)], g9_0 (pg xs) 3 b c d, 599950, 7298497)) rfl ?_
      rw [← eb]
      refine pm_go (g := (436, [(3, .int 0), (2, .ref 25), (1, .ref 1), (0, .ref 0)], [.ref 0, .int (b), .int 3, .ref 25, .int (-1)], g9_0 (pg xs) 3 b c d, 599950, 7298497)) rfl ?_
      refine pm_go (g := (437, [(3, .int 0), (2, .ref 25), (1, .ref 1), (0, .ref 0)], [.int 0, .ref 0, .int (b), .int 3, .ref 25, .int (-1)], g9_0 (pg xs) 3 b c d, 599950, 7298497)) rfl ?_
      refine pm_go (g := (438, [(3, .int 0), (2, .ref 25), (1, .ref 1), (0, .ref 0)], [.int 3, .int 0, .ref 0, .int (b), .int 3, .ref 25, .int (-1)], g9_0 (pg xs) 3 b c d, 599950, 7298497)) rfl ?_
      refine pm_go (g := (439, [(3, .int 0), (2, .ref 25), (1, .ref 1), (0, .ref 0)], [.int 3, .ref 0, .int (b), .int 3, .ref 25, .int (-1)], g9_0 (pg xs) 3 b c d, 599950, 7298497)) rfl ?_
      refine pm_go (g := (440, [(3, .int 0), (2, .ref 25), (1, .ref 1), (0, .ref 0)], [.int (xs 3), .int (b), .int 3, .ref 25, .int (-1)], g9_0 (pg xs) 3 b c d, 599950, 7298497)) rfl ?_
      rw [← ec]
      refine pm_callD (z := 163) (as := [.ref 25, .int 3, .int (b), .int (c)]) (rest := [.int (-1)]) rfl ?_
      show pm_WP 163 (0, [(0, .ref 25), (1, .int 3), (2, .int (b)), (3, .int (c))], [], g9_0 (pg xs) 3 b c d, 0, 0) _
      refine pm_go (g := (1, [(0, .ref 25), (1, .int 3), (2, .int (b)), (3, .int (c))], [.int 3], g9_0 (pg xs) 3 b c d, 0, 0)) rfl ?_
      refine pm_go (g := (2, [(0, .ref 25), (1, .int 3), (2, .int (b)), (3, .int (c))], [.int 0, .int 3], g9_0 (pg xs) 3 b c d, 0, 0)) rfl ?_
      refine pm_go (g := (3, [(0, .ref 25), (1, .int 3), (2, .int (b)), (3, .int (c))], [.int 4, .int 0, .int 3], g9_0 (pg xs) 3 b c d, 0, 0)) rfl ?_
      refine pm_callD (z := 128) (as := [.int 3, .int 0, .int 4]) (rest := []) rfl ?_
      show pm_WP 128 (0, [(0, .int 3), (1, .int 0), (2, .int 4)], [], g9_0 (pg xs) 3 b c d, 0, 0) _
      refine pm_go (g := (1, [(0, .int 3), (1, .int 0), (2, .int 4)], [.int 3], g9_0 (pg xs) 3 b c d, 0, 0)) rfl ?_
      refine pm_go (g := (2, [(0, .int 3), (1, .int 0), (2, .int 4)], [.int 0, .int 3], g9_0 (pg xs) 3 b c d, 0, 0)) rfl ?_
      refine pm_brF (h := (5, [(0, .int 3), (1, .int 0), (2, .int 4)], [], g9_0 (pg xs) 3 b c d, 0, 0)) rfl ?_
      refine pm_go (g := (6, [(0, .int 3), (1, .int 0), (2, .int 4)], [.int 3], g9_0 (pg xs) 3 b c d, 0, 0)) rfl ?_
      refine pm_go (g := (7, [(0, .int 3), (1, .int 0), (2, .int 4)], [.int 4, .int 3], g9_0 (pg xs) 3 b c d, 0, 0)) rfl ?_
      refine pm_brF (h := (10, [(0, .int 3), (1, .int 0), (2, .int 4)], [], g9_0 (pg xs) 3 b c d, 0, 0)) rfl ?_
      refine pm_go (g := (11, [(0, .int 3), (1, .int 0), (2, .int 4)], [.int 1], g9_0 (pg xs) 3 b c d, 0, 0)) rfl ?_
      refine pm_go (g := (15, [(0, .int 3), (1, .int 0), (2, .int 4)], [.int 1], g9_0 (pg xs) 3 b c d, 0, 0)) rfl ?_
      refine pm_ret rfl ?_
      show pm_WP 163 (6, [(0, .ref 25), (1, .int 3), (2, .int (b)), (3, .int (c))], [.int 1], g9_0 (pg xs) 3 b c d, 0, 0) _
      refine pm_brT (g := (11, [(0, .ref 25), (1, .int 3), (2, .int (b)), (3, .int (c))], [], g9_0 (pg xs) 3 b c d, 0, 0)) rfl ?_
      refine pm_go (g := (12, [(0, .ref 25), (1, .int 3), (2, .int (b)), (3, .int (c))], [.int 3], g9_0 (pg xs) 3 b c d, 0, 0)) rfl ?_
      refine pm_go (g := (13, [(0, .ref 25), (1, .int 3), (2, .int (b)), (3, .int (c))], [.int 2, .int 3], g9_0 (pg xs) 3 b c d, 0, 0)) rfl ?_
      refine pm_brT (g := (24, [(0, .ref 25), (1, .int 3), (2, .int (b)), (3, .int (c))], [], g9_0 (pg xs) 3 b c d, 0, 0)) rfl ?_
      refine pm_go (g := (25, [(0, .ref 25), (1, .int 3), (2, .int (b)), (3, .int (c))], [.int 3], g9_0 (pg xs) 3 b c d, 0, 0)) rfl ?_
      refine pm_go (g := (26, [(0, .ref 25), (1, .int 3), (2, .int (b)), (3, .int (c))], [.int 2, .int 3], g9_0 (pg xs) 3 b c d, 0, 0)) rfl ?_
      refine pm_brT (g := (49, [(0, .ref 25), (1, .int 3), (2, .int (b)), (3, .int (c))], [], g9_0 (pg xs) 3 b c d, 0, 0)) rfl ?_
      refine pm_go (g := (50, [(0, .ref 25), (1, .int 3), (2, .int (b)), (3, .int (c))], [.int 3], g9_0 (pg xs) 3 b c d, 0, 0)) rfl ?_
      refine pm_go (g := (51, [(0, .ref 25), (1, .int 3), (2, .int (b)), (3, .int (c))], [.int 3, .int 3], g9_0 (pg xs) 3 b c d, 0, 0)) rfl ?_
      refine pm_brF (h := (54, [(0, .ref 25), (1, .int 3), (2, .int (b)), (3, .int (c))], [], g9_0 (pg xs) 3 b c d, 0, 0)) rfl ?_
      refine pm_go (g := (55, [(0, .ref 25), (1, .int 3), (2, .int (b)), (3, .int (c))], [.ref 25], g9_0 (pg xs) 3 b c d, 0, 0)) rfl ?_
      refine pm_go (g := (56, [(0, .ref 25), (1, .int 3), (2, .int (b)), (3, .int (c))], [.int (b), .ref 25], g9_0 (pg xs) 3 b c d, 0, 0)) rfl ?_
      refine pm_callD (z := 130) (as := [.ref 25, .int (b)]) (rest := []) rfl ?_
      show pm_WP 130 (0, [(0, .ref 25), (1, .int (b))], [], g9_0 (pg xs) 3 b c d, 0, 0) _
      refine pm_go (g := (1, [(0, .ref 25), (1, .int (b))], [.ref 25], g9_0 (pg xs) 3 b c d, 0, 0)) rfl ?_
      refine pm_go (g := (2, [(0, .ref 25), (1, .int (b))], [.int (b), .ref 25], g9_0 (pg xs) 3 b c d, 0, 0)) rfl ?_
      refine pm_callD (z := 129) (as := [.ref 25, .int (b)]) (rest := []) rfl ?_
      show pm_WP 129 (0, [(0, .ref 25), (1, .int (b))], [], g9_0 (pg xs) 3 b c d, 0, 0) _
      refine pm_go (g := (1, [(0, .ref 25), (1, .int (b))], [.int (b)], g9_0 (pg xs) 3 b c d, 0, 0)) rfl ?_
      refine pm_go (g := (2, [(0, .ref 25), (1, .int (b))], [.int 0, .int (b)], g9_0 (pg xs) 3 b c d, 0, 0)) rfl ?_
      refine pm_go (g := (3, [(0, .ref 25), (1, .int (b))], [.ref 25, .int 0, .int (b)], g9_0 (pg xs) 3 b c d, 0, 0)) rfl ?_
      refine pm_go (g := (6, [(0, .ref 25), (1, .int (b))], [.int 2, .int 0, .int (b)], g9_0 (pg xs) 3 b c d, 0, 0)) rfl ?_
      refine pm_go (g := (7, [(0, .ref 25), (1, .int (b))], [.int 1, .int 2, .int 0, .int (b)], g9_0 (pg xs) 3 b c d, 0, 0)) rfl ?_
      refine pm_go (g := (8, [(0, .ref 25), (1, .int (b))], [.int 1, .int 0, .int (b)], g9_0 (pg xs) 3 b c d, 0, 0)) rfl ?_
      refine pm_callD (z := 128) (as := [.int (b), .int 0, .int 1]) (rest := []) rfl ?_
      show pm_WP 128 (0, [(0, .int (b)), (1, .int 0), (2, .int 1)], [], g9_0 (pg xs) 3 b c d, 0, 0) _
      refine pm_go (g := (1, [(0, .int (b)), (1, .int 0), (2, .int 1)], [.int (b)], g9_0 (pg xs) 3 b c d, 0, 0)) rfl ?_
      refine pm_go (g := (2, [(0, .int (b)), (1, .int 0), (2, .int 1)], [.int 0, .int (b)], g9_0 (pg xs) 3 b c d, 0, 0)) rfl ?_
      refine pm_ifT (g := (14, [(0, .int (b)), (1, .int 0), (2, .int 1)], [], g9_0 (pg xs) 3 b c d, 0, 0)) rfl (rT_lt (cx := b.toInt) (cy := 0) rfl (by decide) (by omega)) ?_
      refine pm_go (g := (15, [(0, .int (b)), (1, .int 0), (2, .int 1)], [.int 0], g9_0 (pg xs) 3 b c d, 0, 0)) rfl ?_
      refine pm_ret rfl ?_
      show pm_WP 129 (11, [(0, .ref 25), (1, .int (b))], [.int 0], g9_0 (pg xs) 3 b c d, 0, 0) _
      refine pm_ret rfl ?_
      show pm_WP 130 (5, [(0, .ref 25), (1, .int (b))], [.int 0], g9_0 (pg xs) 3 b c d, 0, 0) _
      refine pm_brT (g := (17, [(0, .ref 25), (1, .int (b))], [], g9_0 (pg xs) 3 b c d, 0, 0)) rfl ?_
      refine pm_go (g := (18, [(0, .ref 25), (1, .int (b))], [.int 0], g9_0 (pg xs) 3 b c d, 0, 0)) rfl ?_
      refine pm_ret rfl ?_
      show pm_WP 163 (59, [(0, .ref 25), (1, .int 3), (2, .int (b)), (3, .int (c))], [.int 0], g9_0 (pg xs) 3 b c d, 0, 0) _
      refine pm_go (g := (81, [(0, .ref 25), (1, .int 3), (2, .int (b)), (3, .int (c))], [.int 0], g9_0 (pg xs) 3 b c d, 0, 0)) rfl ?_
      refine pm_go (g := (83, [(4, .int 0), (0, .ref 25), (1, .int 3), (2, .int (b)), (3, .int (c))], [], g9_0 (pg xs) 3 b c d, 0, 0)) rfl ?_
      refine pm_go (g := (85, [(4, .int 0), (0, .ref 25), (1, .int 3), (2, .int (b)), (3, .int (c))], [.int 0], g9_0 (pg xs) 3 b c d, 0, 0)) rfl ?_
      refine pm_brT (g := (102, [(4, .int 0), (0, .ref 25), (1, .int 3), (2, .int (b)), (3, .int (c))], [], g9_0 (pg xs) 3 b c d, 0, 0)) rfl ?_
      refine pm_go (g := (103, [(4, .int 0), (0, .ref 25), (1, .int 3), (2, .int (b)), (3, .int (c))], [.int (-1)], g9_0 (pg xs) 3 b c d, 0, 0)) rfl ?_
      refine pm_ret rfl ?_
      show pm_WP 0 (443, [(3, .int 0), (2, .ref 25), (1, .ref 1), (0, .ref 0)], [.int (-1), .int (-1)], g9_0 (pg xs) 3 b c d, 599950, 7298497) _
      refine pm_brT (g := (873, [(3, .int 0), (2, .ref 25), (1, .ref 1), (0, .ref 0)], [], g9_0 (pg xs) 3 b c d, 599950, 7298497)) rfl ?_
      refine pm_go (g := (876, [(3, .int 5), (2, .ref 25), (1, .ref 1), (0, .ref 0)], [], g9_0 (pg xs) 3 b c d, 599950, 7298497)) rfl ?_
      refine pm_go (g := (18, [(3, .int 5), (2, .ref 25), (1, .ref 1), (0, .ref 0)], [], g9_0 (pg xs) 3 b c d, 599950, 7298497)) rfl ?_
      refine pm_go (g := (19, [(3, .int 5), (2, .ref 25), (1, .ref 1), (0, .ref 0)], [.int 5], g9_0 (pg xs) 3 b c d, 599950, 7298497)) rfl ?_
      refine pm_go (g := (20, [(3, .int 5), (2, .ref 25), (1, .ref 1), (0, .ref 0)], [.ref 0, .int 5], g9_0 (pg xs) 3 b c d, 599950, 7298497)) rfl ?_
      refine pm_go (g := (21, [(3, .int 5), (2, .ref 25), (1, .ref 1), (0, .ref 0)], [.int 5, .int 5], g9_0 (pg xs) 3 b c d, 599950, 7298497)) rfl ?_
      refine pm_go (g := (22, [(3, .int 5), (2, .ref 25), (1, .ref 1), (0, .ref 0)], [.int 5, .int 5, .int 5], g9_0 (pg xs) 3 b c d, 599950, 7298497)) rfl ?_
      refine pm_go (g := (23, [(3, .int 5), (2, .ref 25), (1, .ref 1), (0, .ref 0)], [.int 0, .int 5], g9_0 (pg xs) 3 b c d, 599950, 7298497)) rfl ?_
      refine pm_brT (g := (879, [(3, .int 5), (2, .ref 25), (1, .ref 1), (0, .ref 0)], [], g9_0 (pg xs) 3 b c d, 599950, 7298497)) rfl ?_
      refine pm_go (g := (880, [(3, .int 5), (2, .ref 25), (1, .ref 1), (0, .ref 0)], [.int 1], g9_0 (pg xs) 3 b c d, 599950, 7298497)) rfl ?_
      exact pm_ret rfl rfl
    have q15 := qF_lt (cx := b.toInt) (cy := 0) rfl (by decide) q15
    refine pm_go (g := (5, [(0, .ref 2), (1, .int (b))], [.int (b)], g9_0 (pg xs) 3 b c d, 0, 0)) rfl ?_
    refine pm_go (g := (6, [(0, .ref 2), (1, .int (b))], [.ref 2, .int (b)], g9_0 (pg xs) 3 b c d, 0, 0)) rfl ?_
    refine pm_go (g := (9, [(0, .ref 2), (1, .int (b))], [.int 2, .int (b)], g9_0 (pg xs) 3 b c d, 0, 0)) rfl ?_
    refine pm_if2 (g := (16, [(0, .ref 2), (1, .int (b))], [], g9_0 (pg xs) 3 b c d, 0, 0)) (h := (12, [(0, .ref 2), (1, .int (b))], [], g9_0 (pg xs) 3 b c d, 0, 0)) rfl (fun q16 => ?_) (fun q16 => ?_)
    ·
      have q16 := qT_ge (cx := b.toInt) (cy := 2) rfl (by decide) q16
      refine pm_go (g := (17, [(0, .ref 2), (1, .int (b))], [.int 0], g9_0 (pg xs) 3 b c d, 0, 0)) rfl ?_
      refine pm_ret rfl ?_
      show pm_WP 82 (5, [(0, .ref 2), (1, .int (b))], [.int 0], g9_0 (pg xs) 3 b c d, 0, 0) _
      refine pm_brT (g := (17, [(0, .ref 2), (1, .int (b))], [], g9_0 (pg xs) 3 b c d, 0, 0)) rfl ?_
      refine pm_go (g := (18, [(0, .ref 2), (1, .int (b))], [.int 0], g9_0 (pg xs) 3 b c d, 0, 0)) rfl ?_
      refine pm_ret rfl ?_
      show pm_WP 111 (74, [(0, .ref 1), (1, .int 3), (2, .int (b))], [.int 0], g9_0 (pg xs) 3 b c d, 0, 0) _
      refine pm_ret rfl ?_
      show pm_WP 104 (6, [(0, .ref 1), (1, .int 3), (2, .int (b)), (3, .int (c))], [.int 0], g9_0 (pg xs) 3 b c d, 1, 3) _
      refine pm_brT (g := (24, [(0, .ref 1), (1, .int 3), (2, .int (b)), (3, .int (c))], [], g9_0 (pg xs) 3 b c d, 1, 3)) rfl ?_
      refine pm_go (g := (25, [(0, .ref 1), (1, .int 3), (2, .int (b)), (3, .int (c))], [.int (-1)], g9_0 (pg xs) 3 b c d, 1, 3)) rfl ?_
      refine pm_ret rfl ?_
      show pm_WP 0 (424, [(3, .int 0), (2, .ref 25), (1, .ref 1), (0, .ref 0)], [.int (-1)], g9_0 (pg xs) 3 b c d, 599950, 7298497) _
      refine pm_go (g := (425, [(3, .int 0), (2, .ref 25), (1, .ref 1), (0, .ref 0)], [.ref 25, .int (-1)], g9_0 (pg xs) 3 b c d, 599950, 7298497)) rfl ?_
      refine pm_go (g := (426, [(3, .int 0), (2, .ref 25), (1, .ref 1), (0, .ref 0)], [.ref 0, .ref 25, .int (-1)], g9_0 (pg xs) 3 b c d, 599950, 7298497)) rfl ?_
      refine pm_go (g := (427, [(3, .int 0), (2, .ref 25), (1, .ref 1), (0, .ref 0)], [.int 0, .ref 0, .ref 25, .int (-1)], g9_0 (pg xs) 3 b c d, 599950, 7298497)) rfl ?_
      refine pm_go (g := (428, [(3, .int 0), (2, .ref 25), (1, .ref 1), (0, .ref 0)], [.int 1, .int 0, .ref 0, .ref 25, .int (-1)], g9_0 (pg xs) 3 b c d, 599950, 7298497)) rfl ?_
      refine pm_go (g := (429, [(3, .int 0), (2, .ref 25), (1, .ref 1), (0, .ref 0)], [.int 1, .ref 0, .ref 25, .int (-1)], g9_0 (pg xs) 3 b c d, 599950, 7298497)) rfl ?_
      refine pm_go (g := (430, [(3, .int 0), (2, .ref 25), (1, .ref 1), (0, .ref 0)], [.int (xs 1), .ref 25, .int (-1)], g9_0 (pg xs) 3 b c d, 599950, 7298497)) rfl ?_
      rw [← ea]
      refine pm_go (g := (431, [(3, .int 0), (2, .ref 25), (1, .ref 1), (0, .ref 0)], [.ref 0, .int 3, .ref 25, .int (-1)], g9_0 (pg xs) 3 b c d, 599950, 7298497)) rfl ?_
      refine pm_go (g := (432, [(3, .int 0), (2, .ref 25), (1, .ref 1), (0, .ref 0)], [.int 0, .ref 0, .int 3, .ref 25, .int (-1)], g9_0 (pg xs) 3 b c d, 599950, 7298497)) rfl ?_
      refine pm_go (g := (433, [(3, .int 0), (2, .ref 25), (1, .ref 1), (0, .ref 0)], [.int 2, .int 0, .ref 0, .int 3, .ref 25, .int (-1)], g9_0 (pg xs) 3 b c d, 599950, 7298497)) rfl ?_
      refine pm_go (g := (434, [(3, .int 0), (2, .ref 25), (1, .ref 1), (0, .ref 0)], [.int 2, .ref 0, .int 3, .ref 25, .int (-1)], g9_0 (pg xs) 3 b c d, 599950, 7298497)) rfl ?_
      refine pm_go (g := (435, [(3, .int 0), (2, .ref 25), (1, .ref 1), (0, .ref 0)], [.int (xs 2), .int 3, .ref 25, .int (-1)], g9_0 (pg xs) 3 b c d, 599950, 7298497)) rfl ?_
      rw [← eb]
      refine pm_go (g := (436, [(3, .int 0), (2, .ref 25), (1, .ref 1), (0, .ref 0)], [.ref 0, .int (b), .int 3, .ref 25, .int (-1)], g9_0 (pg xs) 3 b c d, 599950, 7298497)) rfl ?_
      refine pm_go (g := (437, [(3, .int 0), (2, .ref 25), (1, .ref 1), (0, .ref 0)], [.int 0, .ref 0, .int (b), .int 3, .ref 25, .int (-1)], g9_0 (pg xs) 3 b c d, 599950, 7298497)) rfl ?_
      refine pm_go (g := (438, [(3, .int 0), (2, .ref 25), (1, .ref 1), (0, .ref 0)], [.int 3, .int 0, .ref 0, .int (b), .int 3, .ref 25, .int (-1)], g9_0 (pg xs) 3 b c d, 599950, 7298497)) rfl ?_
      refine pm_go (g := (439, [(3, .int 0), (2, .ref 25), (1, .ref 1), (0, .ref 0)], [.int 3, .ref 0, .int (b), .int 3, .ref 25, .int (-1)], g9_0 (pg xs) 3 b c d, 599950, 7298497)) rfl ?_
      refine pm_go (g := (440, [(3, .int 0), (2, .ref 25), (1, .ref 1), (0, .ref 0)], [.int (xs 3), .int (b), .int 3, .ref 25, .int (-1)], g9_0 (pg xs) 3 b c d, 599950, 7298497)) rfl ?_
      rw [← ec]
      refine pm_callD (z := 163) (as := [.ref 25, .int 3, .int (b), .int (c)]) (rest := [.int (-1)]) rfl ?_
      show pm_WP 163 (0, [(0, .ref 25), (1, .int 3), (2, .int (b)), (3, .int (c))], [], g9_0 (pg xs) 3 b c d, 0, 0) _
      refine pm_go (g := (1, [(0, .ref 25), (1, .int 3), (2, .int (b)), (3, .int (c))], [.int 3], g9_0 (pg xs) 3 b c d, 0, 0)) rfl ?_
      refine pm_go (g := (2, [(0, .ref 25), (1, .int 3), (2, .int (b)), (3, .int (c))], [.int 0, .int 3], g9_0 (pg xs) 3 b c d, 0, 0)) rfl ?_
      refine pm_go (g := (3, [(0, .ref 25), (1, .int 3), (2, .int (b)), (3, .int (c))], [.int 4, .int 0, .int 3], g9_0 (pg xs) 3 b c d, 0, 0)) rfl ?_
      refine pm_callD (z := 128) (as := [.int 3, .int 0, .int 4]) (rest := []) rfl ?_
      show pm_WP 128 (0, [(0, .int 3), (1, .int 0), (2, .int 4)], [], g9_0 (pg xs) 3 b c d, 0, 0) _
      refine pm_go (g := (1, [(0, .int 3), (1, .int 0), (2, .int 4)], [.int 3], g9_0 (pg xs) 3 b c d, 0, 0)) rfl ?_
      refine pm_go (g := (2, [(0, .int 3), (1, .int 0), (2, .int 4)], [.int 0, .int 3], g9_0 (pg xs) 3 b c d, 0, 0)) rfl ?_
      refine pm_brF (h := (5, [(0, .int 3), (1, .int 0), (2, .int 4)], [], g9_0 (pg xs) 3 b c d, 0, 0)) rfl ?_
      refine pm_go (g := (6, [(0, .int 3), (1, .int 0), (2, .int 4)], [.int 3], g9_0 (pg xs) 3 b c d, 0, 0)) rfl ?_
      refine pm_go (g := (7, [(0, .int 3), (1, .int 0), (2, .int 4)], [.int 4, .int 3], g9_0 (pg xs) 3 b c d, 0, 0)) rfl ?_
      refine pm_brF (h := (10, [(0, .int 3), (1, .int 0), (2, .int 4)], [], g9_0 (pg xs) 3 b c d, 0, 0)) rfl ?_
      refine pm_go (g := (11, [(0, .int 3), (1, .int 0), (2, .int 4)], [.int 1], g9_0 (pg xs) 3 b c d, 0, 0)) rfl ?_
      refine pm_go (g := (15, [(0, .int 3), (1, .int 0), (2, .int 4)], [.int 1], g9_0 (pg xs) 3 b c d, 0, 0)) rfl ?_
      refine pm_ret rfl ?_
      show pm_WP 163 (6, [(0, .ref 25), (1, .int 3), (2, .int (b)), (3, .int (c))], [.int 1], g9_0 (pg xs) 3 b c d, 0, 0) _
      refine pm_brT (g := (11, [(0, .ref 25), (1, .int 3), (2, .int (b)), (3, .int (c))], [], g9_0 (pg xs) 3 b c d, 0, 0)) rfl ?_
      refine pm_go (g := (12, [(0, .ref 25), (1, .int 3), (2, .int (b)), (3, .int (c))], [.int 3], g9_0 (pg xs) 3 b c d, 0, 0)) rfl ?_
      refine pm_go (g := (13, [(0, .ref 25), (1, .int 3), (2, .int (b)), (3, .int (c))], [.int 2, .int 3], g9_0 (pg xs) 3 b c d, 0, 0)) rfl ?_
      refine pm_brT (g := (24, [(0, .ref 25), (1, .int 3), (2, .int (b)), (3, .int (c))], [], g9_0 (pg xs) 3 b c d, 0, 0)) rfl ?_
      refine pm_go (g := (25, [(0, .ref 25), (1, .int 3), (2, .int (b)), (3, .int (c))], [.int 3], g9_0 (pg xs) 3 b c d, 0, 0)) rfl ?_
      refine pm_go (g := (26, [(0, .ref 25), (1, .int 3), (2, .int (b)), (3, .int (c))], [.int 2, .int 3], g9_0 (pg xs) 3 b c d, 0, 0)) rfl ?_
      refine pm_brT (g := (49, [(0, .ref 25), (1, .int 3), (2, .int (b)), (3, .int (c))], [], g9_0 (pg xs) 3 b c d, 0, 0)) rfl ?_
      refine pm_go (g := (50, [(0, .ref 25), (1, .int 3), (2, .int (b)), (3, .int (c))], [.int 3], g9_0 (pg xs) 3 b c d, 0, 0)) rfl ?_
      refine pm_go (g := (51, [(0, .ref 25), (1, .int 3), (2, .int (b)), (3, .int (c))], [.int 3, .int 3], g9_0 (pg xs) 3 b c d, 0, 0)) rfl ?_
      refine pm_brF (h := (54, [(0, .ref 25), (1, .int 3), (2, .int (b)), (3, .int (c))], [], g9_0 (pg xs) 3 b c d, 0, 0)) rfl ?_
      refine pm_go (g := (55, [(0, .ref 25), (1, .int 3), (2, .int (b)), (3, .int (c))], [.ref 25], g9_0 (pg xs) 3 b c d, 0, 0)) rfl ?_
      refine pm_go (g := (56, [(0, .ref 25), (1, .int 3), (2, .int (b)), (3, .int (c))], [.int (b), .ref 25], g9_0 (pg xs) 3 b c d, 0, 0)) rfl ?_
      refine pm_callD (z := 130) (as := [.ref 25, .int (b)]) (rest := []) rfl ?_
      show pm_WP 130 (0, [(0, .ref 25), (1, .int (b))], [], g9_0 (pg xs) 3 b c d, 0, 0) _
      refine pm_go (g := (1, [(0, .ref 25), (1, .int (b))], [.ref 25], g9_0 (pg xs) 3 b c d, 0, 0)) rfl ?_
      refine pm_go (g := (2, [(0, .ref 25), (1, .int (b))], [.int (b), .ref 25], g9_0 (pg xs) 3 b c d, 0, 0)) rfl ?_
      refine pm_callD (z := 129) (as := [.ref 25, .int (b)]) (rest := []) rfl ?_
      show pm_WP 129 (0, [(0, .ref 25), (1, .int (b))], [], g9_0 (pg xs) 3 b c d, 0, 0) _
      refine pm_go (g := (1, [(0, .ref 25), (1, .int (b))], [.int (b)], g9_0 (pg xs) 3 b c d, 0, 0)) rfl ?_
      refine pm_go (g := (2, [(0, .ref 25), (1, .int (b))], [.int 0, .int (b)], g9_0 (pg xs) 3 b c d, 0, 0)) rfl ?_
      refine pm_go (g := (3, [(0, .ref 25), (1, .int (b))], [.ref 25, .int 0, .int (b)], g9_0 (pg xs) 3 b c d, 0, 0)) rfl ?_
      refine pm_go (g := (6, [(0, .ref 25), (1, .int (b))], [.int 2, .int 0, .int (b)], g9_0 (pg xs) 3 b c d, 0, 0)) rfl ?_
      refine pm_go (g := (7, [(0, .ref 25), (1, .int (b))], [.int 1, .int 2, .int 0, .int (b)], g9_0 (pg xs) 3 b c d, 0, 0)) rfl ?_
      refine pm_go (g := (8, [(0, .ref 25), (1, .int (b))], [.int 1, .int 0, .int (b)], g9_0 (pg xs) 3 b c d, 0, 0)) rfl ?_
      refine pm_callD (z := 128) (as := [.int (b), .int 0, .int 1]) (rest := []) rfl ?_
      show pm_WP 128 (0, [(0, .int (b)), (1, .int 0), (2, .int 1)], [], g9_0 (pg xs) 3 b c d, 0, 0) _
      refine pm_go (g := (1, [(0, .int (b)), (1, .int 0), (2, .int 1)], [.int (b)], g9_0 (pg xs) 3 b c d, 0, 0)) rfl ?_
      refine pm_go (g := (2, [(0, .int (b)), (1, .int 0), (2, .int 1)], [.int 0, .int (b)], g9_0 (pg xs) 3 b c d, 0, 0)) rfl ?_
      refine pm_ifF (h := (5, [(0, .int (b)), (1, .int 0), (2, .int 1)], [], g9_0 (pg xs) 3 b c d, 0, 0)) rfl (rF_lt (cx := b.toInt) (cy := 0) rfl (by decide) (by omega)) ?_
      refine pm_go (g := (6, [(0, .int (b)), (1, .int 0), (2, .int 1)], [.int (b)], g9_0 (pg xs) 3 b c d, 0, 0)) rfl ?_
      refine pm_go (g := (7, [(0, .int (b)), (1, .int 0), (2, .int 1)], [.int 1, .int (b)], g9_0 (pg xs) 3 b c d, 0, 0)) rfl ?_
      refine pm_ifT (g := (14, [(0, .int (b)), (1, .int 0), (2, .int 1)], [], g9_0 (pg xs) 3 b c d, 0, 0)) rfl (rT_gt (cx := b.toInt) (cy := 1) rfl (by decide) (by omega)) ?_
      refine pm_go (g := (15, [(0, .int (b)), (1, .int 0), (2, .int 1)], [.int 0], g9_0 (pg xs) 3 b c d, 0, 0)) rfl ?_
      refine pm_ret rfl ?_
      show pm_WP 129 (11, [(0, .ref 25), (1, .int (b))], [.int 0], g9_0 (pg xs) 3 b c d, 0, 0) _
      refine pm_ret rfl ?_
      show pm_WP 130 (5, [(0, .ref 25), (1, .int (b))], [.int 0], g9_0 (pg xs) 3 b c d, 0, 0) _
      refine pm_brT (g := (17, [(0, .ref 25), (1, .int (b))], [], g9_0 (pg xs) 3 b c d, 0, 0)) rfl ?_
      refine pm_go (g := (18, [(0, .ref 25), (1, .int (b))], [.int 0], g9_0 (pg xs) 3 b c d, 0, 0)) rfl ?_
      refine pm_ret rfl ?_
      show pm_WP 163 (59, [(0, .ref 25), (1, .int 3), (2, .int (b)), (3, .int (c))], [.int 0], g9_0 (pg xs) 3 b c d, 0, 0) _
      refine pm_go (g := (81, [(0, .ref 25), (1, .int 3), (2, .int (b)), (3, .int (c))], [.int 0], g9_0 (pg xs) 3 b c d, 0, 0)) rfl ?_
      refine pm_go (g := (83, [(4, .int 0), (0, .ref 25), (1, .int 3), (2, .int (b)), (3, .int (c))], [], g9_0 (pg xs) 3 b c d, 0, 0)) rfl ?_
      refine pm_go (g := (85, [(4, .int 0), (0, .ref 25), (1, .int 3), (2, .int (b)), (3, .int (c))], [.int 0], g9_0 (pg xs) 3 b c d, 0, 0)) rfl ?_
      refine pm_brT (g := (102, [(4, .int 0), (0, .ref 25), (1, .int 3), (2, .int (b)), (3, .int (c))], [], g9_0 (pg xs) 3 b c d, 0, 0)) rfl ?_
      refine pm_go (g := (103, [(4, .int 0), (0, .ref 25), (1, .int 3), (2, .int (b)), (3, .int (c))], [.int (-1)], g9_0 (pg xs) 3 b c d, 0, 0)) rfl ?_
      refine pm_ret rfl ?_
      show pm_WP 0 (443, [(3, .int 0), (2, .ref 25), (1, .ref 1), (0, .ref 0)], [.int (-1), .int (-1)], g9_0 (pg xs) 3 b c d, 599950, 7298497) _
      refine pm_brT (g := (873, [(3, .int 0), (2, .ref 25), (1, .ref 1), (0, .ref 0)], [], g9_0 (pg xs) 3 b c d, 599950, 7298497)) rfl ?_
      refine pm_go (g := (876, [(3, .int 5), (2, .ref 25), (1, .ref 1), (0, .ref 0)], [], g9_0 (pg xs) 3 b c d, 599950, 7298497)) rfl ?_
      refine pm_go (g := (18, [(3, .int 5), (2, .ref 25), (1, .ref 1), (0, .ref 0)], [], g9_0 (pg xs) 3 b c d, 599950, 7298497)) rfl ?_
      refine pm_go (g := (19, [(3, .int 5), (2, .ref 25), (1, .ref 1), (0, .ref 0)], [.int 5], g9_0 (pg xs) 3 b c d, 599950, 7298497)) rfl ?_
      refine pm_go (g := (20, [(3, .int 5), (2, .ref 25), (1, .ref 1), (0, .ref 0)], [.ref 0, .int 5], g9_0 (pg xs) 3 b c d, 599950, 7298497)) rfl ?_
      refine pm_go (g := (21, [(3, .int 5), (2, .ref 25), (1, .ref 1), (0, .ref 0)], [.int 5, .int 5], g9_0 (pg xs) 3 b c d, 599950, 7298497)) rfl ?_
      refine pm_go (g := (22, [(3, .int 5), (2, .ref 25), (1, .ref 1), (0, .ref 0)], [.int 5, .int 5, .int 5], g9_0 (pg xs) 3 b c d, 599950, 7298497)) rfl ?_
      refine pm_go (g := (23, [(3, .int 5), (2, .ref 25), (1, .ref 1), (0, .ref 0)], [.int 0, .int 5], g9_0 (pg xs) 3 b c d, 599950, 7298497)) rfl ?_
      refine pm_brT (g := (879, [(3, .int 5), (2, .ref 25), (1, .ref 1), (0, .ref 0)], [], g9_0 (pg xs) 3 b c d, 599950, 7298497)) rfl ?_
      refine pm_go (g := (880, [(3, .int 5), (2, .ref 25), (1, .ref 1), (0, .ref 0)], [.int 1], g9_0 (pg xs) 3 b c d, 599950, 7298497)) rfl ?_
      exact pm_ret rfl rfl
    have q16 := qF_ge (cx := b.toInt) (cy := 2) rfl (by decide) q16
    refine pm_go (g := (13, [(0, .ref 2), (1, .int (b))], [.int 1], g9_0 (pg xs) 3 b c d, 0, 0)) rfl ?_
    refine pm_go (g := (17, [(0, .ref 2), (1, .int (b))], [.int 1], g9_0 (pg xs) 3 b c d, 0, 0)) rfl ?_
    refine pm_ret rfl ?_
    show pm_WP 82 (5, [(0, .ref 2), (1, .int (b))], [.int 1], g9_0 (pg xs) 3 b c d, 0, 0) _
    refine pm_brF (h := (8, [(0, .ref 2), (1, .int (b))], [], g9_0 (pg xs) 3 b c d, 0, 0)) rfl ?_
    refine pm_go (g := (9, [(0, .ref 2), (1, .int (b))], [.int (b)], g9_0 (pg xs) 3 b c d, 0, 0)) rfl ?_
    refine pm_go (g := (10, [(0, .ref 2), (1, .int (b))], [.int 1, .int (b)], g9_0 (pg xs) 3 b c d, 0, 0)) rfl ?_
    refine pm_if2 (g := (17, [(0, .ref 2), (1, .int (b))], [], g9_0 (pg xs) 3 b c d, 0, 0)) (h := (13, [(0, .ref 2), (1, .int (b))], [], g9_0 (pg xs) 3 b c d, 0, 0)) rfl (fun q17 => ?_) (fun q17 => ?_)
    ·
      have q17 := qT_eq (cx := b.toInt) (cy := 1) rfl (by decide) q17
      obtain rfl : b = 1 := xI (c := 1) (by decide) (by omega)
      show pm_WP 82 (17, [(0, .ref 2), (1, .int 1)], [], g9_0 (pg xs) 3 1 c d, 0, 0) _
      refine pm_go (g := (18, [(0, .ref 2), (1, .int 1)], [.int 0], g9_0 (pg xs) 3 1 c d, 0, 0)) rfl ?_
      refine pm_ret rfl ?_
      show pm_WP 111 (74, [(0, .ref 1), (1, .int 3), (2, .int 1)], [.int 0], g9_0 (pg xs) 3 1 c d, 0, 0) _
      refine pm_ret rfl ?_
      show pm_WP 104 (6, [(0, .ref 1), (1, .int 3), (2, .int 1), (3, .int (c))], [.int 0], g9_0 (pg xs) 3 1 c d, 1, 3) _
      refine pm_brT (g := (24, [(0, .ref 1), (1, .int 3), (2, .int 1), (3, .int (c))], [], g9_0 (pg xs) 3 1 c d, 1, 3)) rfl ?_
      refine pm_go (g := (25, [(0, .ref 1), (1, .int 3), (2, .int 1), (3, .int (c))], [.int (-1)], g9_0 (pg xs) 3 1 c d, 1, 3)) rfl ?_
      refine pm_ret rfl ?_
      show pm_WP 0 (424, [(3, .int 0), (2, .ref 25), (1, .ref 1), (0, .ref 0)], [.int (-1)], g9_0 (pg xs) 3 1 c d, 599950, 7298497) _
      refine pm_go (g := (425, [(3, .int 0), (2, .ref 25), (1, .ref 1), (0, .ref 0)], [.ref 25, .int (-1)], g9_0 (pg xs) 3 1 c d, 599950, 7298497)) rfl ?_
      refine pm_go (g := (426, [(3, .int 0), (2, .ref 25), (1, .ref 1), (0, .ref 0)], [.ref 0, .ref 25, .int (-1)], g9_0 (pg xs) 3 1 c d, 599950, 7298497)) rfl ?_
      refine pm_go (g := (427, [(3, .int 0), (2, .ref 25), (1, .ref 1), (0, .ref 0)], [.int 0, .ref 0, .ref 25, .int (-1)], g9_0 (pg xs) 3 1 c d, 599950, 7298497)) rfl ?_
      refine pm_go (g := (428, [(3, .int 0), (2, .ref 25), (1, .ref 1), (0, .ref 0)], [.int 1, .int 0, .ref 0, .ref 25, .int (-1)], g9_0 (pg xs) 3 1 c d, 599950, 7298497)) rfl ?_
      refine pm_go (g := (429, [(3, .int 0), (2, .ref 25), (1, .ref 1), (0, .ref 0)], [.int 1, .ref 0, .ref 25, .int (-1)], g9_0 (pg xs) 3 1 c d, 599950, 7298497)) rfl ?_
      refine pm_go (g := (430, [(3, .int 0), (2, .ref 25), (1, .ref 1), (0, .ref 0)], [.int (xs 1), .ref 25, .int (-1)], g9_0 (pg xs) 3 1 c d, 599950, 7298497)) rfl ?_
      rw [← ea]
      refine pm_go (g := (431, [(3, .int 0), (2, .ref 25), (1, .ref 1), (0, .ref 0)], [.ref 0, .int 3, .ref 25, .int (-1)], g9_0 (pg xs) 3 1 c d, 599950, 7298497)) rfl ?_
      refine pm_go (g := (432, [(3, .int 0), (2, .ref 25), (1, .ref 1), (0, .ref 0)], [.int 0, .ref 0, .int 3, .ref 25, .int (-1)], g9_0 (pg xs) 3 1 c d, 599950, 7298497)) rfl ?_
      refine pm_go (g := (433, [(3, .int 0), (2, .ref 25), (1, .ref 1), (0, .ref 0)], [.int 2, .int 0, .ref 0, .int 3, .ref 25, .int (-1)], g9_0 (pg xs) 3 1 c d, 599950, 7298497)) rfl ?_
      refine pm_go (g := (434, [(3, .int 0), (2, .ref 25), (1, .ref 1), (0, .ref 0)], [.int 2, .ref 0, .int 3, .ref 25, .int (-1)], g9_0 (pg xs) 3 1 c d, 599950, 7298497)) rfl ?_
      refine pm_go (g := (435, [(3, .int 0), (2, .ref 25), (1, .ref 1), (0, .ref 0)], [.int (xs 2), .int 3, .ref 25, .int (-1)], g9_0 (pg xs) 3 1 c d, 599950, 7298497)) rfl ?_
      rw [← eb]
      refine pm_go (g := (436, [(3, .int 0), (2, .ref 25), (1, .ref 1), (0, .ref 0)], [.ref 0, .int 1, .int 3, .ref 25, .int (-1)], g9_0 (pg xs) 3 1 c d, 599950, 7298497)) rfl ?_
      refine pm_go (g := (437, [(3, .int 0), (2, .ref 25), (1, .ref 1), (0, .ref 0)], [.int 0, .ref 0, .int 1, .int 3, .ref 25, .int (-1)], g9_0 (pg xs) 3 1 c d, 599950, 7298497)) rfl ?_
      refine pm_go (g := (438, [(3, .int 0), (2, .ref 25), (1, .ref 1), (0, .ref 0)], [.int 3, .int 0, .ref 0, .int 1, .int 3, .ref 25, .int (-1)], g9_0 (pg xs) 3 1 c d, 599950, 7298497)) rfl ?_
      refine pm_go (g := (439, [(3, .int 0), (2, .ref 25), (1, .ref 1), (0, .ref 0)], [.int 3, .ref 0, .int 1, .int 3, .ref 25, .int (-1)], g9_0 (pg xs) 3 1 c d, 599950, 7298497)) rfl ?_
      refine pm_go (g := (440, [(3, .int 0), (2, .ref 25), (1, .ref 1), (0, .ref 0)], [.int (xs 3), .int 1, .int 3, .ref 25, .int (-1)], g9_0 (pg xs) 3 1 c d, 599950, 7298497)) rfl ?_
      rw [← ec]
      refine pm_callD (z := 163) (as := [.ref 25, .int 3, .int 1, .int (c)]) (rest := [.int (-1)]) rfl ?_
      show pm_WP 163 (0, [(0, .ref 25), (1, .int 3), (2, .int 1), (3, .int (c))], [], g9_0 (pg xs) 3 1 c d, 0, 0) _
      refine pm_go (g := (1, [(0, .ref 25), (1, .int 3), (2, .int 1), (3, .int (c))], [.int 3], g9_0 (pg xs) 3 1 c d, 0, 0)) rfl ?_
      refine pm_go (g := (2, [(0, .ref 25), (1, .int 3), (2, .int 1), (3, .int (c))], [.int 0, .int 3], g9_0 (pg xs) 3 1 c d, 0, 0)) rfl ?_
      refine pm_go (g := (3, [(0, .ref 25), (1, .int 3), (2, .int 1), (3, .int (c))], [.int 4, .int 0, .int 3], g9_0 (pg xs) 3 1 c d, 0, 0)) rfl ?_
      refine pm_callD (z := 128) (as := [.int 3, .int 0, .int 4]) (rest := []) rfl ?_
      show pm_WP 128 (0, [(0, .int 3), (1, .int 0), (2, .int 4)], [], g9_0 (pg xs) 3 1 c d, 0, 0) _
      refine pm_go (g := (1, [(0, .int 3), (1, .int 0), (2, .int 4)], [.int 3], g9_0 (pg xs) 3 1 c d, 0, 0)) rfl ?_
      refine pm_go (g := (2, [(0, .int 3), (1, .int 0), (2, .int 4)], [.int 0, .int 3], g9_0 (pg xs) 3 1 c d, 0, 0)) rfl ?_
      refine pm_brF (h := (5, [(0, .int 3), (1, .int 0), (2, .int 4)], [], g9_0 (pg xs) 3 1 c d, 0, 0)) rfl ?_
      refine pm_go (g := (6, [(0, .int 3), (1, .int 0), (2, .int 4)], [.int 3], g9_0 (pg xs) 3 1 c d, 0, 0)) rfl ?_
      refine pm_go (g := (7, [(0, .int 3), (1, .int 0), (2, .int 4)], [.int 4, .int 3], g9_0 (pg xs) 3 1 c d, 0, 0)) rfl ?_
      refine pm_brF (h := (10, [(0, .int 3), (1, .int 0), (2, .int 4)], [], g9_0 (pg xs) 3 1 c d, 0, 0)) rfl ?_
      refine pm_go (g := (11, [(0, .int 3), (1, .int 0), (2, .int 4)], [.int 1], g9_0 (pg xs) 3 1 c d, 0, 0)) rfl ?_
      refine pm_go (g := (15, [(0, .int 3), (1, .int 0), (2, .int 4)], [.int 1], g9_0 (pg xs) 3 1 c d, 0, 0)) rfl ?_
      refine pm_ret rfl ?_
      show pm_WP 163 (6, [(0, .ref 25), (1, .int 3), (2, .int 1), (3, .int (c))], [.int 1], g9_0 (pg xs) 3 1 c d, 0, 0) _
      refine pm_brT (g := (11, [(0, .ref 25), (1, .int 3), (2, .int 1), (3, .int (c))], [], g9_0 (pg xs) 3 1 c d, 0, 0)) rfl ?_
      refine pm_go (g := (12, [(0, .ref 25), (1, .int 3), (2, .int 1), (3, .int (c))], [.int 3], g9_0 (pg xs) 3 1 c d, 0, 0)) rfl ?_
      refine pm_go (g := (13, [(0, .ref 25), (1, .int 3), (2, .int 1), (3, .int (c))], [.int 2, .int 3], g9_0 (pg xs) 3 1 c d, 0, 0)) rfl ?_
      refine pm_brT (g := (24, [(0, .ref 25), (1, .int 3), (2, .int 1), (3, .int (c))], [], g9_0 (pg xs) 3 1 c d, 0, 0)) rfl ?_
      refine pm_go (g := (25, [(0, .ref 25), (1, .int 3), (2, .int 1), (3, .int (c))], [.int 3], g9_0 (pg xs) 3 1 c d, 0, 0)) rfl ?_
      refine pm_go (g := (26, [(0, .ref 25), (1, .int 3), (2, .int 1), (3, .int (c))], [.int 2, .int 3], g9_0 (pg xs) 3 1 c d, 0, 0)) rfl ?_
      refine pm_brT (g := (49, [(0, .ref 25), (1, .int 3), (2, .int 1), (3, .int (c))], [], g9_0 (pg xs) 3 1 c d, 0, 0)) rfl ?_
      refine pm_go (g := (50, [(0, .ref 25), (1, .int 3), (2, .int 1), (3, .int (c))], [.int 3], g9_0 (pg xs) 3 1 c d, 0, 0)) rfl ?_
      refine pm_go (g := (51, [(0, .ref 25), (1, .int 3), (2, .int 1), (3, .int (c))], [.int 3, .int 3], g9_0 (pg xs) 3 1 c d, 0, 0)) rfl ?_
      refine pm_brF (h := (54, [(0, .ref 25), (1, .int 3), (2, .int 1), (3, .int (c))], [], g9_0 (pg xs) 3 1 c d, 0, 0)) rfl ?_
      refine pm_go (g := (55, [(0, .ref 25), (1, .int 3), (2, .int 1), (3, .int (c))], [.ref 25], g9_0 (pg xs) 3 1 c d, 0, 0)) rfl ?_
      refine pm_go (g := (56, [(0, .ref 25), (1, .int 3), (2, .int 1), (3, .int (c))], [.int 1, .ref 25], g9_0 (pg xs) 3 1 c d, 0, 0)) rfl ?_
      refine pm_callD (z := 130) (as := [.ref 25, .int 1]) (rest := []) rfl ?_
      show pm_WP 130 (0, [(0, .ref 25), (1, .int 1)], [], g9_0 (pg xs) 3 1 c d, 0, 0) _
      refine pm_go (g := (1, [(0, .ref 25), (1, .int 1)], [.ref 25], g9_0 (pg xs) 3 1 c d, 0, 0)) rfl ?_
      refine pm_go (g := (2, [(0, .ref 25), (1, .int 1)], [.int 1, .ref 25], g9_0 (pg xs) 3 1 c d, 0, 0)) rfl ?_
      refine pm_callD (z := 129) (as := [.ref 25, .int 1]) (rest := []) rfl ?_
      show pm_WP 129 (0, [(0, .ref 25), (1, .int 1)], [], g9_0 (pg xs) 3 1 c d, 0, 0) _
      refine pm_go (g := (1, [(0, .ref 25), (1, .int 1)], [.int 1], g9_0 (pg xs) 3 1 c d, 0, 0)) rfl ?_
      refine pm_go (g := (2, [(0, .ref 25), (1, .int 1)], [.int 0, .int 1], g9_0 (pg xs) 3 1 c d, 0, 0)) rfl ?_
      refine pm_go (g := (3, [(0, .ref 25), (1, .int 1)], [.ref 25, .int 0, .int 1], g9_0 (pg xs) 3 1 c d, 0, 0)) rfl ?_
      refine pm_go (g := (6, [(0, .ref 25), (1, .int 1)], [.int 2, .int 0, .int 1], g9_0 (pg xs) 3 1 c d, 0, 0)) rfl ?_
      refine pm_go (g := (7, [(0, .ref 25), (1, .int 1)], [.int 1, .int 2, .int 0, .int 1], g9_0 (pg xs) 3 1 c d, 0, 0)) rfl ?_
      refine pm_go (g := (8, [(0, .ref 25), (1, .int 1)], [.int 1, .int 0, .int 1], g9_0 (pg xs) 3 1 c d, 0, 0)) rfl ?_
      refine pm_callD (z := 128) (as := [.int 1, .int 0, .int 1]) (rest := []) rfl ?_
      show pm_WP 128 (0, [(0, .int 1), (1, .int 0), (2, .int 1)], [], g9_0 (pg xs) 3 1 c d, 0, 0) _
      refine pm_go (g := (1, [(0, .int 1), (1, .int 0), (2, .int 1)], [.int 1], g9_0 (pg xs) 3 1 c d, 0, 0)) rfl ?_
      refine pm_go (g := (2, [(0, .int 1), (1, .int 0), (2, .int 1)], [.int 0, .int 1], g9_0 (pg xs) 3 1 c d, 0, 0)) rfl ?_
      refine pm_brF (h := (5, [(0, .int 1), (1, .int 0), (2, .int 1)], [], g9_0 (pg xs) 3 1 c d, 0, 0)) rfl ?_
      refine pm_go (g := (6, [(0, .int 1), (1, .int 0), (2, .int 1)], [.int 1], g9_0 (pg xs) 3 1 c d, 0, 0)) rfl ?_
      refine pm_go (g := (7, [(0, .int 1), (1, .int 0), (2, .int 1)], [.int 1, .int 1], g9_0 (pg xs) 3 1 c d, 0, 0)) rfl ?_
      refine pm_brF (h := (10, [(0, .int 1), (1, .int 0), (2, .int 1)], [], g9_0 (pg xs) 3 1 c d, 0, 0)) rfl ?_
      refine pm_go (g := (11, [(0, .int 1), (1, .int 0), (2, .int 1)], [.int 1], g9_0 (pg xs) 3 1 c d, 0, 0)) rfl ?_
      refine pm_go (g := (15, [(0, .int 1), (1, .int 0), (2, .int 1)], [.int 1], g9_0 (pg xs) 3 1 c d, 0, 0)) rfl ?_
      refine pm_ret rfl ?_
      show pm_WP 129 (11, [(0, .ref 25), (1, .int 1)], [.int 1], g9_0 (pg xs) 3 1 c d, 0, 0) _
      refine pm_ret rfl ?_
      show pm_WP 130 (5, [(0, .ref 25), (1, .int 1)], [.int 1], g9_0 (pg xs) 3 1 c d, 0, 0) _
      refine pm_brF (h := (8, [(0, .ref 25), (1, .int 1)], [], g9_0 (pg xs) 3 1 c d, 0, 0)) rfl ?_
      refine pm_go (g := (9, [(0, .ref 25), (1, .int 1)], [.int 1], g9_0 (pg xs) 3 1 c d, 0, 0)) rfl ?_
      refine pm_go (g := (10, [(0, .ref 25), (1, .int 1)], [.int 1, .int 1], g9_0 (pg xs) 3 1 c d, 0, 0)) rfl ?_
      refine pm_brT (g := (17, [(0, .ref 25), (1, .int 1)], [], g9_0 (pg xs) 3 1 c d, 0, 0)) rfl ?_
      refine pm_go (g := (18, [(0, .ref 25), (1, .int 1)], [.int 0], g9_0 (pg xs) 3 1 c d, 0, 0)) rfl ?_
      refine pm_ret rfl ?_
      show pm_WP 163 (59, [(0, .ref 25), (1, .int 3), (2, .int 1), (3, .int (c))], [.int 0], g9_0 (pg xs) 3 1 c d, 0, 0) _
      refine pm_go (g := (81, [(0, .ref 25), (1, .int 3), (2, .int 1), (3, .int (c))], [.int 0], g9_0 (pg xs) 3 1 c d, 0, 0)) rfl ?_
      refine pm_go (g := (83, [(4, .int 0), (0, .ref 25), (1, .int 3), (2, .int 1), (3, .int (c))], [], g9_0 (pg xs) 3 1 c d, 0, 0)) rfl ?_
      refine pm_go (g := (85, [(4, .int 0), (0, .ref 25), (1, .int 3), (2, .int 1), (3, .int (c))], [.int 0], g9_0 (pg xs) 3 1 c d, 0, 0)) rfl ?_
      refine pm_brT (g := (102, [(4, .int 0), (0, .ref 25), (1, .int 3), (2, .int 1), (3, .int (c))], [], g9_0 (pg xs) 3 1 c d, 0, 0)) rfl ?_
      refine pm_go (g := (103, [(4, .int 0), (0, .ref 25), (1, .int 3), (2, .int 1), (3, .int (c))], [.int (-1)], g9_0 (pg xs) 3 1 c d, 0, 0)) rfl ?_
      refine pm_ret rfl ?_
      show pm_WP 0 (443, [(3, .int 0), (2, .ref 25), (1, .ref 1), (0, .ref 0)], [.int (-1), .int (-1)], g9_0 (pg xs) 3 1 c d, 599950, 7298497) _
      refine pm_brT (g := (873, [(3, .int 0), (2, .ref 25), (1, .ref 1), (0, .ref 0)], [], g9_0 (pg xs) 3 1 c d, 599950, 7298497)) rfl ?_
      refine pm_go (g := (876, [(3, .int 5), (2, .ref 25), (1, .ref 1), (0, .ref 0)], [], g9_0 (pg xs) 3 1 c d, 599950, 7298497)) rfl ?_
      refine pm_go (g := (18, [(3, .int 5), (2, .ref 25), (1, .ref 1), (0, .ref 0)], [], g9_0 (pg xs) 3 1 c d, 599950, 7298497)) rfl ?_
      refine pm_go (g := (19, [(3, .int 5), (2, .ref 25), (1, .ref 1), (0, .ref 0)], [.int 5], g9_0 (pg xs) 3 1 c d, 599950, 7298497)) rfl ?_
      refine pm_go (g := (20, [(3, .int 5), (2, .ref 25), (1, .ref 1), (0, .ref 0)], [.ref 0, .int 5], g9_0 (pg xs) 3 1 c d, 599950, 7298497)) rfl ?_
      refine pm_go (g := (21, [(3, .int 5), (2, .ref 25), (1, .ref 1), (0, .ref 0)], [.int 5, .int 5], g9_0 (pg xs) 3 1 c d, 599950, 7298497)) rfl ?_
      refine pm_go (g := (22, [(3, .int 5), (2, .ref 25), (1, .ref 1), (0, .ref 0)], [.int 5, .int 5, .int 5], g9_0 (pg xs) 3 1 c d, 599950, 7298497)) rfl ?_
      refine pm_go (g := (23, [(3, .int 5), (2, .ref 25), (1, .ref 1), (0, .ref 0)], [.int 0, .int 5], g9_0 (pg xs) 3 1 c d, 599950, 7298497)) rfl ?_
      refine pm_brT (g := (879, [(3, .int 5), (2, .ref 25), (1, .ref 1), (0, .ref 0)], [], g9_0 (pg xs) 3 1 c d, 599950, 7298497)) rfl ?_
      refine pm_go (g := (880, [(3, .int 5), (2, .ref 25), (1, .ref 1), (0, .ref 0)], [.int 1], g9_0 (pg xs) 3 1 c d, 599950, 7298497)) rfl ?_
      exact pm_ret rfl rfl
    have q17 := qF_eq (cx := b.toInt) (cy := 1) rfl (by decide) q17
    obtain rfl : b = 0 := xI (c := 0) (by decide) (by omega)
    show pm_WP 82 (13, [(0, .ref 2), (1, .int 0)], [], g9_0 (pg xs) 3 0 c d, 0, 0) _
    refine pm_go (g := (14, [(0, .ref 2), (1, .int 0)], [.int 1], g9_0 (pg xs) 3 0 c d, 0, 0)) rfl ?_
    refine pm_go (g := (18, [(0, .ref 2), (1, .int 0)], [.int 1], g9_0 (pg xs) 3 0 c d, 0, 0)) rfl ?_
    refine pm_ret rfl ?_
    show pm_WP 111 (74, [(0, .ref 1), (1, .int 3), (2, .int 0)], [.int 1], g9_0 (pg xs) 3 0 c d, 0, 0) _
    refine pm_ret rfl ?_
    show pm_WP 104 (6, [(0, .ref 1), (1, .int 3), (2, .int 0), (3, .int (c))], [.int 1], g9_0 (pg xs) 3 0 c d, 1, 3) _
    refine pm_brF (h := (9, [(0, .ref 1), (1, .int 3), (2, .int 0), (3, .int (c))], [], g9_0 (pg xs) 3 0 c d, 1, 3)) rfl ?_
    refine pm_go (g := (10, [(0, .ref 1), (1, .int 3), (2, .int 0), (3, .int (c))], [.int 3], g9_0 (pg xs) 3 0 c d, 1, 3)) rfl ?_
    refine pm_go (g := (11, [(0, .ref 1), (1, .int 3), (2, .int 0), (3, .int (c))], [.int 2, .int 3], g9_0 (pg xs) 3 0 c d, 1, 3)) rfl ?_
    refine pm_brT (g := (26, [(0, .ref 1), (1, .int 3), (2, .int 0), (3, .int (c))], [], g9_0 (pg xs) 3 0 c d, 1, 3)) rfl ?_
    refine pm_go (g := (27, [(0, .ref 1), (1, .int 3), (2, .int 0), (3, .int (c))], [.ref 1], g9_0 (pg xs) 3 0 c d, 1, 3)) rfl ?_
    refine pm_go (g := (30, [(0, .ref 1), (1, .int 3), (2, .int 0), (3, .int (c))], [.int 0], g9_0 (pg xs) 3 0 c d, 1, 3)) rfl ?_
    refine pm_go (g := (32, [(0, .ref 1), (1, .int 3), (2, .int 0), (3, .int (c))], [.int 30, .int 0], g9_0 (pg xs) 3 0 c d, 1, 3)) rfl ?_
    refine pm_brT (g := (38, [(0, .ref 1), (1, .int 3), (2, .int 0), (3, .int (c))], [], g9_0 (pg xs) 3 0 c d, 1, 3)) rfl ?_
    refine pm_go (g := (39, [(0, .ref 1), (1, .int 3), (2, .int 0), (3, .int (c))], [.ref 1], g9_0 (pg xs) 3 0 c d, 1, 3)) rfl ?_
    refine pm_go (g := (42, [(0, .ref 1), (1, .int 3), (2, .int 0), (3, .int (c))], [.ref 22], g9_0 (pg xs) 3 0 c d, 1, 3)) rfl ?_
    refine pm_go (g := (43, [(0, .ref 1), (1, .int 3), (2, .int 0), (3, .int (c))], [.ref 1, .ref 22], g9_0 (pg xs) 3 0 c d, 1, 3)) rfl ?_
    refine pm_go (g := (46, [(0, .ref 1), (1, .int 3), (2, .int 0), (3, .int (c))], [.int 0, .ref 22], g9_0 (pg xs) 3 0 c d, 1, 3)) rfl ?_
    refine pm_go (g := (49, [(0, .ref 1), (1, .int 3), (2, .int 0), (3, .int (c))], [.ref 50, .int 0, .ref 22], g9_1 (pg xs) 3 0 c d, 0, 0)) rfl ?_
    refine pm_go (g := (50, [(0, .ref 1), (1, .int 3), (2, .int 0), (3, .int (c))], [.ref 50, .ref 50, .int 0, .ref 22], g9_1 (pg xs) 3 0 c d, 0, 0)) rfl ?_
    refine pm_go (g := (51, [(0, .ref 1), (1, .int 3), (2, .int 0), (3, .int (c))], [.int 3, .ref 50, .ref 50, .int 0, .ref 22], g9_1 (pg xs) 3 0 c d, 0, 0)) rfl ?_
    refine pm_go (g := (52, [(0, .ref 1), (1, .int 3), (2, .int 0), (3, .int (c))], [.int 0, .int 3, .ref 50, .ref 50, .int 0, .ref 22], g9_1 (pg xs) 3 0 c d, 0, 0)) rfl ?_
    refine pm_go (g := (53, [(0, .ref 1), (1, .int 3), (2, .int 0), (3, .int (c))], [.int 3, .int 0, .int 3, .ref 50, .ref 50, .int 0, .ref 22], g9_1 (pg xs) 3 0 c d, 0, 0)) rfl ?_
    refine pm_go (g := (54, [(0, .ref 1), (1, .int 3), (2, .int 0), (3, .int (c))], [.int 3, .int 3, .int 0, .int 3, .ref 50, .ref 50, .int 0, .ref 22], g9_1 (pg xs) 3 0 c d, 0, 0)) rfl ?_
    refine pm_brF (h := (57, [(0, .ref 1), (1, .int 3), (2, .int 0), (3, .int (c))], [.int 0, .int 3, .ref 50, .ref 50, .int 0, .ref 22], g9_1 (pg xs) 3 0 c d, 0, 0)) rfl ?_
    refine pm_go (g := (59, [(0, .ref 1), (1, .int 3), (2, .int 0), (3, .int (c))], [.int 6, .int 0, .int 3, .ref 50, .ref 50, .int 0, .ref 22], g9_1 (pg xs) 3 0 c d, 0, 0)) rfl ?_
    refine pm_go (g := (63, [(0, .ref 1), (1, .int 3), (2, .int 0), (3, .int (c))], [.int 6, .int 0, .int 3, .ref 50, .ref 50, .int 0, .ref 22], g9_1 (pg xs) 3 0 c d, 0, 0)) rfl ?_
    refine pm_callD (z := 51) (as := [.ref 50, .int 3, .int 0, .int 6]) (rest := [.ref 50, .int 0, .ref 22]) rfl ?_
    show pm_WP 51 (0, [(0, .ref 50), (1, .int 3), (2, .int 0), (3, .int 6)], [], g9_1 (pg xs) 3 0 c d, 0, 0) _
    refine pm_go (g := (1, [(0, .ref 50), (1, .int 3), (2, .int 0), (3, .int 6)], [.ref 50], g9_1 (pg xs) 3 0 c d, 0, 0)) rfl ?_
    refine pm_go (g := (4, [(0, .ref 50), (1, .int 3), (2, .int 0), (3, .int 6)], [], g9_1 (pg xs) 3 0 c d, 0, 0)) rfl ?_
    refine pm_go (g := (5, [(0, .ref 50), (1, .int 3), (2, .int 0), (3, .int 6)], [.ref 50], g9_1 (pg xs) 3 0 c d, 0, 0)) rfl ?_
    refine pm_go (g := (6, [(0, .ref 50), (1, .int 3), (2, .int 0), (3, .int 6)], [.int 3, .ref 50], g9_1 (pg xs) 3 0 c d, 0, 0)) rfl ?_
    refine pm_go (g := (9, [(0, .ref 50), (1, .int 3), (2, .int 0), (3, .int 6)], [], g9_28 (pg xs) 3 0 c d, 0, 0)) rfl ?_
    refine pm_go (g := (10, [(0, .ref 50), (1, .int 3), (2, .int 0), (3, .int 6)], [.ref 50], g9_28 (pg xs) 3 0 c d, 0, 0)) rfl ?_
    refine pm_go (g := (11, [(0, .ref 50), (1, .int 3), (2, .int 0), (3, .int 6)], [.int 0, .ref 50], g9_28 (pg xs) 3 0 c d, 0, 0)) rfl ?_
    refine pm_go (g := (14, [(0, .ref 50), (1, .int 3), (2, .int 0), (3, .int 6)], [], g9_28 (pg xs) 3 0 c d, 0, 0)) rfl ?_
    refine pm_go (g := (15, [(0, .ref 50), (1, .int 3), (2, .int 0), (3, .int 6)], [.ref 50], g9_28 (pg xs) 3 0 c d, 0, 0)) rfl ?_
    refine pm_go (g := (16, [(0, .ref 50), (1, .int 3), (2, .int 0), (3, .int 6)], [.int 6, .ref 50], g9_28 (pg xs) 3 0 c d, 0, 0)) rfl ?_
    refine pm_go (g := (19, [(0, .ref 50), (1, .int 3), (2, .int 0), (3, .int 6)], [], g9_29 (pg xs) 3 0 c d, 0, 0)) rfl ?_
    refine pm_ret rfl ?_
    show pm_WP 104 (66, [(0, .ref 1), (1, .int 3), (2, .int 0), (3, .int (c))], [.ref 50, .int 0, .ref 22], g9_29 (pg xs) 3 0 c d, 0, 0) _
    refine pm_go (g := (67, [(0, .ref 1), (1, .int 3), (2, .int 0), (3, .int (c))], [], g9_30 (pg xs) 3 0 c d, 0, 0)) rfl ?_
    refine pm_go (g := (68, [(0, .ref 1), (1, .int 3), (2, .int 0), (3, .int (c))], [.ref 1], g9_30 (pg xs) 3 0 c d, 0, 0)) rfl ?_
    refine pm_go (g := (69, [(0, .ref 1), (1, .int 3), (2, .int 0), (3, .int (c))], [.ref 1, .ref 1], g9_30 (pg xs) 3 0 c d, 0, 0)) rfl ?_
    refine pm_go (g := (72, [(0, .ref 1), (1, .int 3), (2, .int 0), (3, .int (c))], [.int 0, .ref 1], g9_30 (pg xs) 3 0 c d, 0, 0)) rfl ?_
    refine pm_go (g := (73, [(0, .ref 1), (1, .int 3), (2, .int 0), (3, .int (c))], [.int 1, .int 0, .ref 1], g9_30 (pg xs) 3 0 c d, 0, 0)) rfl ?_
    refine pm_go (g := (74, [(0, .ref 1), (1, .int 3), (2, .int 0), (3, .int (c))], [.int 1, .ref 1], g9_30 (pg xs) 3 0 c d, 0, 0)) rfl ?_
    refine pm_go (g := (77, [(0, .ref 1), (1, .int 3), (2, .int 0), (3, .int (c))], [], g9_31 (pg xs) 3 0 c d, 0, 0)) rfl ?_
    refine pm_go (g := (78, [(0, .ref 1), (1, .int 3), (2, .int 0), (3, .int (c))], [.ref 1], g9_31 (pg xs) 3 0 c d, 0, 0)) rfl ?_
    refine pm_go (g := (81, [(0, .ref 1), (1, .int 3), (2, .int 0), (3, .int (c))], [.int 1], g9_31 (pg xs) 3 0 c d, 0, 0)) rfl ?_
    refine pm_go (g := (82, [(0, .ref 1), (1, .int 3), (2, .int 0), (3, .int (c))], [.int 1, .int 1], g9_31 (pg xs) 3 0 c d, 0, 0)) rfl ?_
    refine pm_go (g := (83, [(0, .ref 1), (1, .int 3), (2, .int 0), (3, .int (c))], [.int 0], g9_31 (pg xs) 3 0 c d, 0, 0)) rfl ?_
    refine pm_ret rfl ?_
    show pm_WP 0 (424, [(3, .int 0), (2, .ref 25), (1, .ref 1), (0, .ref 0)], [.int 0], g9_31 (pg xs) 3 0 c d, 599950, 7298497) _
    refine pm_go (g := (425, [(3, .int 0), (2, .ref 25), (1, .ref 1), (0, .ref 0)], [.ref 25, .int 0], g9_31 (pg xs) 3 0 c d, 599950, 7298497)) rfl ?_
    refine pm_go (g := (426, [(3, .int 0), (2, .ref 25), (1, .ref 1), (0, .ref 0)], [.ref 0, .ref 25, .int 0], g9_31 (pg xs) 3 0 c d, 599950, 7298497)) rfl ?_
    refine pm_go (g := (427, [(3, .int 0), (2, .ref 25), (1, .ref 1), (0, .ref 0)], [.int 0, .ref 0, .ref 25, .int 0], g9_31 (pg xs) 3 0 c d, 599950, 7298497)) rfl ?_
    refine pm_go (g := (428, [(3, .int 0), (2, .ref 25), (1, .ref 1), (0, .ref 0)], [.int 1, .int 0, .ref 0, .ref 25, .int 0], g9_31 (pg xs) 3 0 c d, 599950, 7298497)) rfl ?_
    refine pm_go (g := (429, [(3, .int 0), (2, .ref 25), (1, .ref 1), (0, .ref 0)], [.int 1, .ref 0, .ref 25, .int 0], g9_31 (pg xs) 3 0 c d, 599950, 7298497)) rfl ?_
    refine pm_go (g := (430, [(3, .int 0), (2, .ref 25), (1, .ref 1), (0, .ref 0)], [.int (xs 1), .ref 25, .int 0], g9_31 (pg xs) 3 0 c d, 599950, 7298497)) rfl ?_
    rw [← ea]
    refine pm_go (g := (431, [(3, .int 0), (2, .ref 25), (1, .ref 1), (0, .ref 0)], [.ref 0, .int 3, .ref 25, .int 0], g9_31 (pg xs) 3 0 c d, 599950, 7298497)) rfl ?_
    refine pm_go (g := (432, [(3, .int 0), (2, .ref 25), (1, .ref 1), (0, .ref 0)], [.int 0, .ref 0, .int 3, .ref 25, .int 0], g9_31 (pg xs) 3 0 c d, 599950, 7298497)) rfl ?_
    refine pm_go (g := (433, [(3, .int 0), (2, .ref 25), (1, .ref 1), (0, .ref 0)], [.int 2, .int 0, .ref 0, .int 3, .ref 25, .int 0], g9_31 (pg xs) 3 0 c d, 599950, 7298497)) rfl ?_
    refine pm_go (g := (434, [(3, .int 0), (2, .ref 25), (1, .ref 1), (0, .ref 0)], [.int 2, .ref 0, .int 3, .ref 25, .int 0], g9_31 (pg xs) 3 0 c d, 599950, 7298497)) rfl ?_
    refine pm_go (g := (435, [(3, .int 0), (2, .ref 25), (1, .ref 1), (0, .ref 0)], [.int (xs 2), .int 3, .ref 25, .int 0], g9_31 (pg xs) 3 0 c d, 599950, 7298497)) rfl ?_
    rw [← eb]
    refine pm_go (g := (436, [(3, .int 0), (2, .ref 25), (1, .ref 1), (0, .ref 0)], [.ref 0, .int 0, .int 3, .ref 25, .int 0], g9_31 (pg xs) 3 0 c d, 599950, 7298497)) rfl ?_
    refine pm_go (g := (437, [(3, .int 0), (2, .ref 25), (1, .ref 1), (0, .ref 0)], [.int 0, .ref 0, .int 0, .int 3, .ref 25, .int 0], g9_31 (pg xs) 3 0 c d, 599950, 7298497)) rfl ?_
    refine pm_go (g := (438, [(3, .int 0), (2, .ref 25), (1, .ref 1), (0, .ref 0)], [.int 3, .int 0, .ref 0, .int 0, .int 3, .ref 25, .int 0], g9_31 (pg xs) 3 0 c d, 599950, 7298497)) rfl ?_
    refine pm_go (g := (439, [(3, .int 0), (2, .ref 25), (1, .ref 1), (0, .ref 0)], [.int 3, .ref 0, .int 0, .int 3, .ref 25, .int 0], g9_31 (pg xs) 3 0 c d, 599950, 7298497)) rfl ?_
    refine pm_go (g := (440, [(3, .int 0), (2, .ref 25), (1, .ref 1), (0, .ref 0)], [.int (xs 3), .int 0, .int 3, .ref 25, .int 0], g9_31 (pg xs) 3 0 c d, 599950, 7298497)) rfl ?_
    rw [← ec]
    refine pm_callD (z := 163) (as := [.ref 25, .int 3, .int 0, .int (c)]) (rest := [.int 0]) rfl ?_
    show pm_WP 163 (0, [(0, .ref 25), (1, .int 3), (2, .int 0), (3, .int (c))], [], g9_31 (pg xs) 3 0 c d, 0, 0) _
    refine pm_go (g := (1, [(0, .ref 25), (1, .int 3), (2, .int 0), (3, .int (c))], [.int 3], g9_31 (pg xs) 3 0 c d, 0, 0)) rfl ?_
    refine pm_go (g := (2, [(0, .ref 25), (1, .int 3), (2, .int 0), (3, .int (c))], [.int 0, .int 3], g9_31 (pg xs) 3 0 c d, 0, 0)) rfl ?_
    refine pm_go (g := (3, [(0, .ref 25), (1, .int 3), (2, .int 0), (3, .int (c))], [.int 4, .int 0, .int 3], g9_31 (pg xs) 3 0 c d, 0, 0)) rfl ?_
    refine pm_callD (z := 128) (as := [.int 3, .int 0, .int 4]) (rest := []) rfl ?_
    show pm_WP 128 (0, [(0, .int 3), (1, .int 0), (2, .int 4)], [], g9_31 (pg xs) 3 0 c d, 0, 0) _
    refine pm_go (g := (1, [(0, .int 3), (1, .int 0), (2, .int 4)], [.int 3], g9_31 (pg xs) 3 0 c d, 0, 0)) rfl ?_
    refine pm_go (g := (2, [(0, .int 3), (1, .int 0), (2, .int 4)], [.int 0, .int 3], g9_31 (pg xs) 3 0 c d, 0, 0)) rfl ?_
    refine pm_brF (h := (5, [(0, .int 3), (1, .int 0), (2, .int 4)], [], g9_31 (pg xs) 3 0 c d, 0, 0)) rfl ?_
    refine pm_go (g := (6, [(0, .int 3), (1, .int 0), (2, .int 4)], [.int 3], g9_31 (pg xs) 3 0 c d, 0, 0)) rfl ?_
    refine pm_go (g := (7, [(0, .int 3), (1, .int 0), (2, .int 4)], [.int 4, .int 3], g9_31 (pg xs) 3 0 c d, 0, 0)) rfl ?_
    refine pm_brF (h := (10, [(0, .int 3), (1, .int 0), (2, .int 4)], [], g9_31 (pg xs) 3 0 c d, 0, 0)) rfl ?_
    refine pm_go (g := (11, [(0, .int 3), (1, .int 0), (2, .int 4)], [.int 1], g9_31 (pg xs) 3 0 c d, 0, 0)) rfl ?_
    refine pm_go (g := (15, [(0, .int 3), (1, .int 0), (2, .int 4)], [.int 1], g9_31 (pg xs) 3 0 c d, 0, 0)) rfl ?_
    refine pm_ret rfl ?_
    show pm_WP 163 (6, [(0, .ref 25), (1, .int 3), (2, .int 0), (3, .int (c))], [.int 1], g9_31 (pg xs) 3 0 c d, 0, 0) _
    refine pm_brT (g := (11, [(0, .ref 25), (1, .int 3), (2, .int 0), (3, .int (c))], [], g9_31 (pg xs) 3 0 c d, 0, 0)) rfl ?_
    refine pm_go (g := (12, [(0, .ref 25), (1, .int 3), (2, .int 0), (3, .int (c))], [.int 3], g9_31 (pg xs) 3 0 c d, 0, 0)) rfl ?_
    refine pm_go (g := (13, [(0, .ref 25), (1, .int 3), (2, .int 0), (3, .int (c))], [.int 2, .int 3], g9_31 (pg xs) 3 0 c d, 0, 0)) rfl ?_
    refine pm_brT (g := (24, [(0, .ref 25), (1, .int 3), (2, .int 0), (3, .int (c))], [], g9_31 (pg xs) 3 0 c d, 0, 0)) rfl ?_
    refine pm_go (g := (25, [(0, .ref 25), (1, .int 3), (2, .int 0), (3, .int (c))], [.int 3], g9_31 (pg xs) 3 0 c d, 0, 0)) rfl ?_
    refine pm_go (g := (26, [(0, .ref 25), (1, .int 3), (2, .int 0), (3, .int (c))], [.int 2, .int 3], g9_31 (pg xs) 3 0 c d, 0, 0)) rfl ?_
    refine pm_brT (g := (49, [(0, .ref 25), (1, .int 3), (2, .int 0), (3, .int (c))], [], g9_31 (pg xs) 3 0 c d, 0, 0)) rfl ?_
    refine pm_go (g := (50, [(0, .ref 25), (1, .int 3), (2, .int 0), (3, .int (c))], [.int 3], g9_31 (pg xs) 3 0 c d, 0, 0)) rfl ?_
    refine pm_go (g := (51, [(0, .ref 25), (1, .int 3), (2, .int 0), (3, .int (c))], [.int 3, .int 3], g9_31 (pg xs) 3 0 c d, 0, 0)) rfl ?_
    refine pm_brF (h := (54, [(0, .ref 25), (1, .int 3), (2, .int 0), (3, .int (c))], [], g9_31 (pg xs) 3 0 c d, 0, 0)) rfl ?_
    refine pm_go (g := (55, [(0, .ref 25), (1, .int 3), (2, .int 0), (3, .int (c))], [.ref 25], g9_31 (pg xs) 3 0 c d, 0, 0)) rfl ?_
    refine pm_go (g := (56, [(0, .ref 25), (1, .int 3), (2, .int 0), (3, .int (c))], [.int 0, .ref 25], g9_31 (pg xs) 3 0 c d, 0, 0)) rfl ?_
    refine pm_callD (z := 130) (as := [.ref 25, .int 0]) (rest := []) rfl ?_
    show pm_WP 130 (0, [(0, .ref 25), (1, .int 0)], [], g9_31 (pg xs) 3 0 c d, 0, 0) _
    refine pm_go (g := (1, [(0, .ref 25), (1, .int 0)], [.ref 25], g9_31 (pg xs) 3 0 c d, 0, 0)) rfl ?_
    refine pm_go (g := (2, [(0, .ref 25), (1, .int 0)], [.int 0, .ref 25], g9_31 (pg xs) 3 0 c d, 0, 0)) rfl ?_
    refine pm_callD (z := 129) (as := [.ref 25, .int 0]) (rest := []) rfl ?_
    show pm_WP 129 (0, [(0, .ref 25), (1, .int 0)], [], g9_31 (pg xs) 3 0 c d, 0, 0) _
    refine pm_go (g := (1, [(0, .ref 25), (1, .int 0)], [.int 0], g9_31 (pg xs) 3 0 c d, 0, 0)) rfl ?_
    refine pm_go (g := (2, [(0, .ref 25), (1, .int 0)], [.int 0, .int 0], g9_31 (pg xs) 3 0 c d, 0, 0)) rfl ?_
    refine pm_go (g := (3, [(0, .ref 25), (1, .int 0)], [.ref 25, .int 0, .int 0], g9_31 (pg xs) 3 0 c d, 0, 0)) rfl ?_
    refine pm_go (g := (6, [(0, .ref 25), (1, .int 0)], [.int 2, .int 0, .int 0], g9_31 (pg xs) 3 0 c d, 0, 0)) rfl ?_
    refine pm_go (g := (7, [(0, .ref 25), (1, .int 0)], [.int 1, .int 2, .int 0, .int 0], g9_31 (pg xs) 3 0 c d, 0, 0)) rfl ?_
    refine pm_go (g := (8, [(0, .ref 25), (1, .int 0)], [.int 1, .int 0, .int 0], g9_31 (pg xs) 3 0 c d, 0, 0)) rfl ?_
    refine pm_callD (z := 128) (as := [.int 0, .int 0, .int 1]) (rest := []) rfl ?_
    show pm_WP 128 (0, [(0, .int 0), (1, .int 0), (2, .int 1)], [], g9_31 (pg xs) 3 0 c d, 0, 0) _
    refine pm_go (g := (1, [(0, .int 0), (1, .int 0), (2, .int 1)], [.int 0], g9_31 (pg xs) 3 0 c d, 0, 0)) rfl ?_
    refine pm_go (g := (2, [(0, .int 0), (1, .int 0), (2, .int 1)], [.int 0, .int 0], g9_31 (pg xs) 3 0 c d, 0, 0)) rfl ?_
    refine pm_brF (h := (5, [(0, .int 0), (1, .int 0), (2, .int 1)], [], g9_31 (pg xs) 3 0 c d, 0, 0)) rfl ?_
    refine pm_go (g := (6, [(0, .int 0), (1, .int 0), (2, .int 1)], [.int 0], g9_31 (pg xs) 3 0 c d, 0, 0)) rfl ?_
    refine pm_go (g := (7, [(0, .int 0), (1, .int 0), (2, .int 1)], [.int 1, .int 0], g9_31 (pg xs) 3 0 c d, 0, 0)) rfl ?_
    refine pm_brF (h := (10, [(0, .int 0), (1, .int 0), (2, .int 1)], [], g9_31 (pg xs) 3 0 c d, 0, 0)) rfl ?_
    refine pm_go (g := (11, [(0, .int 0), (1, .int 0), (2, .int 1)], [.int 1], g9_31 (pg xs) 3 0 c d, 0, 0)) rfl ?_
    refine pm_go (g := (15, [(0, .int 0), (1, .int 0), (2, .int 1)], [.int 1], g9_31 (pg xs) 3 0 c d, 0, 0)) rfl ?_
    refine pm_ret rfl ?_
    show pm_WP 129 (11, [(0, .ref 25), (1, .int 0)], [.int 1], g9_31 (pg xs) 3 0 c d, 0, 0) _
    refine pm_ret rfl ?_
    show pm_WP 130 (5, [(0, .ref 25), (1, .int 0)], [.int 1], g9_31 (pg xs) 3 0 c d, 0, 0) _
    refine pm_brF (h := (8, [(0, .ref 25), (1, .int 0)], [], g9_31 (pg xs) 3 0 c d, 0, 0)) rfl ?_
    refine pm_go (g := (9, [(0, .ref 25), (1, .int 0)], [.int 0], g9_31 (pg xs) 3 0 c d, 0, 0)) rfl ?_
    refine pm_go (g := (10, [(0, .ref 25), (1, .int 0)], [.int 1, .int 0], g9_31 (pg xs) 3 0 c d, 0, 0)) rfl ?_
    refine pm_brF (h := (13, [(0, .ref 25), (1, .int 0)], [], g9_31 (pg xs) 3 0 c d, 0, 0)) rfl ?_
    refine pm_go (g := (14, [(0, .ref 25), (1, .int 0)], [.int 1], g9_31 (pg xs) 3 0 c d, 0, 0)) rfl ?_
    refine pm_go (g := (18, [(0, .ref 25), (1, .int 0)], [.int 1], g9_31 (pg xs) 3 0 c d, 0, 0)) rfl ?_
    refine pm_ret rfl ?_
    show pm_WP 163 (59, [(0, .ref 25), (1, .int 3), (2, .int 0), (3, .int (c))], [.int 1], g9_31 (pg xs) 3 0 c d, 0, 0) _
    refine pm_go (g := (81, [(0, .ref 25), (1, .int 3), (2, .int 0), (3, .int (c))], [.int 1], g9_31 (pg xs) 3 0 c d, 0, 0)) rfl ?_
    refine pm_go (g := (83, [(4, .int 1), (0, .ref 25), (1, .int 3), (2, .int 0), (3, .int (c))], [], g9_31 (pg xs) 3 0 c d, 0, 0)) rfl ?_
    refine pm_go (g := (85, [(4, .int 1), (0, .ref 25), (1, .int 3), (2, .int 0), (3, .int (c))], [.int 1], g9_31 (pg xs) 3 0 c d, 0, 0)) rfl ?_
    refine pm_brF (h := (88, [(4, .int 1), (0, .ref 25), (1, .int 3), (2, .int 0), (3, .int (c))], [], g9_31 (pg xs) 3 0 c d, 0, 0)) rfl ?_
    refine pm_go (g := (89, [(4, .int 1), (0, .ref 25), (1, .int 3), (2, .int 0), (3, .int (c))], [.int 3], g9_31 (pg xs) 3 0 c d, 0, 0)) rfl ?_
    refine pm_go (g := (90, [(4, .int 1), (0, .ref 25), (1, .int 3), (2, .int 0), (3, .int (c))], [.int 3, .int 3], g9_31 (pg xs) 3 0 c d, 0, 0)) rfl ?_
    refine pm_brT (g := (104, [(4, .int 1), (0, .ref 25), (1, .int 3), (2, .int 0), (3, .int (c))], [], g9_31 (pg xs) 3 0 c d, 0, 0)) rfl ?_
    refine pm_go (g := (105, [(4, .int 1), (0, .ref 25), (1, .int 3), (2, .int 0), (3, .int (c))], [.ref 25], g9_31 (pg xs) 3 0 c d, 0, 0)) rfl ?_
    refine pm_go (g := (108, [(4, .int 1), (0, .ref 25), (1, .int 3), (2, .int 0), (3, .int (c))], [.int 0], g9_31 (pg xs) 3 0 c d, 0, 0)) rfl ?_
    refine pm_go (g := (110, [(4, .int 1), (0, .ref 25), (1, .int 3), (2, .int 0), (3, .int (c))], [.int 30, .int 0], g9_31 (pg xs) 3 0 c d, 0, 0)) rfl ?_
    refine pm_brT (g := (116, [(4, .int 1), (0, .ref 25), (1, .int 3), (2, .int 0), (3, .int (c))], [], g9_31 (pg xs) 3 0 c d, 0, 0)) rfl ?_
    refine pm_go (g := (117, [(4, .int 1), (0, .ref 25), (1, .int 3), (2, .int 0), (3, .int (c))], [.ref 25], g9_31 (pg xs) 3 0 c d, 0, 0)) rfl ?_
    refine pm_go (g := (120, [(4, .int 1), (0, .ref 25), (1, .int 3), (2, .int 0), (3, .int (c))], [.ref 37], g9_31 (pg xs) 3 0 c d, 0, 0)) rfl ?_
    refine pm_go (g := (121, [(4, .int 1), (0, .ref 25), (1, .int 3), (2, .int 0), (3, .int (c))], [.ref 25, .ref 37], g9_31 (pg xs) 3 0 c d, 0, 0)) rfl ?_
    refine pm_go (g := (124, [(4, .int 1), (0, .ref 25), (1, .int 3), (2, .int 0), (3, .int (c))], [.int 0, .ref 37], g9_31 (pg xs) 3 0 c d, 0, 0)) rfl ?_
    refine pm_go (g := (125, [(4, .int 1), (0, .ref 25), (1, .int 3), (2, .int 0), (3, .int (c))], [.int 3, .int 0, .ref 37], g9_31 (pg xs) 3 0 c d, 0, 0)) rfl ?_
    refine pm_go (g := (126, [(4, .int 1), (0, .ref 25), (1, .int 3), (2, .int 0), (3, .int (c))], [], g9_32 (pg xs) 3 0 c d, 0, 0)) rfl ?_
    refine pm_go (g := (127, [(4, .int 1), (0, .ref 25), (1, .int 3), (2, .int 0), (3, .int (c))], [.ref 25], g9_32 (pg xs) 3 0 c d, 0, 0)) rfl ?_
    refine pm_go (g := (130, [(4, .int 1), (0, .ref 25), (1, .int 3), (2, .int 0), (3, .int (c))], [.ref 38], g9_32 (pg xs) 3 0 c d, 0, 0)) rfl ?_
    refine pm_go (g := (131, [(4, .int 1), (0, .ref 25), (1, .int 3), (2, .int 0), (3, .int (c))], [.ref 25, .ref 38], g9_32 (pg xs) 3 0 c d, 0, 0)) rfl ?_
    refine pm_go (g := (134, [(4, .int 1), (0, .ref 25), (1, .int 3), (2, .int 0), (3, .int (c))], [.int 0, .ref 38], g9_32 (pg xs) 3 0 c d, 0, 0)) rfl ?_
    refine pm_go (g := (135, [(4, .int 1), (0, .ref 25), (1, .int 3), (2, .int 0), (3, .int (c))], [.int 0, .int 0, .ref 38], g9_32 (pg xs) 3 0 c d, 0, 0)) rfl ?_
    refine pm_go (g := (136, [(4, .int 1), (0, .ref 25), (1, .int 3), (2, .int 0), (3, .int (c))], [], g9_33 (pg xs) 3 0 c d, 0, 0)) rfl ?_
    refine pm_go (g := (137, [(4, .int 1), (0, .ref 25), (1, .int 3), (2, .int 0), (3, .int (c))], [.ref 25], g9_33 (pg xs) 3 0 c d, 0, 0)) rfl ?_
    refine pm_go (g := (140, [(4, .int 1), (0, .ref 25), (1, .int 3), (2, .int 0), (3, .int (c))], [.ref 39], g9_33 (pg xs) 3 0 c d, 0, 0)) rfl ?_
    refine pm_go (g := (141, [(4, .int 1), (0, .ref 25), (1, .int 3), (2, .int 0), (3, .int (c))], [.ref 25, .ref 39], g9_33 (pg xs) 3 0 c d, 0, 0)) rfl ?_
    refine pm_go (g := (144, [(4, .int 1), (0, .ref 25), (1, .int 3), (2, .int 0), (3, .int (c))], [.int 0, .ref 39], g9_33 (pg xs) 3 0 c d, 0, 0)) rfl ?_
    refine pm_go (g := (145, [(4, .int 1), (0, .ref 25), (1, .int 3), (2, .int 0), (3, .int (c))], [.int (c), .int 0, .ref 39], g9_33 (pg xs) 3 0 c d, 0, 0)) rfl ?_
    refine pm_go (g := (146, [(4, .int 1), (0, .ref 25), (1, .int 3), (2, .int 0), (3, .int (c))], [], g9_34 (pg xs) 3 0 c d, 0, 0)) rfl ?_
    refine pm_go (g := (147, [(4, .int 1), (0, .ref 25), (1, .int 3), (2, .int 0), (3, .int (c))], [.ref 25], g9_34 (pg xs) 3 0 c d, 0, 0)) rfl ?_
    refine pm_go (g := (148, [(4, .int 1), (0, .ref 25), (1, .int 3), (2, .int 0), (3, .int (c))], [.ref 25, .ref 25], g9_34 (pg xs) 3 0 c d, 0, 0)) rfl ?_
    refine pm_go (g := (151, [(4, .int 1), (0, .ref 25), (1, .int 3), (2, .int 0), (3, .int (c))], [.int 0, .ref 25], g9_34 (pg xs) 3 0 c d, 0, 0)) rfl ?_
    refine pm_go (g := (152, [(4, .int 1), (0, .ref 25), (1, .int 3), (2, .int 0), (3, .int (c))], [.int 1, .int 0, .ref 25], g9_34 (pg xs) 3 0 c d, 0, 0)) rfl ?_
    refine pm_go (g := (153, [(4, .int 1), (0, .ref 25), (1, .int 3), (2, .int 0), (3, .int (c))], [.int 1, .ref 25], g9_34 (pg xs) 3 0 c d, 0, 0)) rfl ?_
    refine pm_go (g := (156, [(4, .int 1), (0, .ref 25), (1, .int 3), (2, .int 0), (3, .int (c))], [], g9_35 (pg xs) 3 0 c d, 0, 0)) rfl ?_
    refine pm_go (g := (157, [(4, .int 1), (0, .ref 25), (1, .int 3), (2, .int 0), (3, .int (c))], [.ref 25], g9_35 (pg xs) 3 0 c d, 0, 0)) rfl ?_
    refine pm_go (g := (160, [(4, .int 1), (0, .ref 25), (1, .int 3), (2, .int 0), (3, .int (c))], [.int 1], g9_35 (pg xs) 3 0 c d, 0, 0)) rfl ?_
    refine pm_go (g := (161, [(4, .int 1), (0, .ref 25), (1, .int 3), (2, .int 0), (3, .int (c))], [.int 1, .int 1], g9_35 (pg xs) 3 0 c d, 0, 0)) rfl ?_
    refine pm_go (g := (162, [(4, .int 1), (0, .ref 25), (1, .int 3), (2, .int 0), (3, .int (c))], [.int 0], g9_35 (pg xs) 3 0 c d, 0, 0)) rfl ?_
    refine pm_ret rfl ?_
    show pm_WP 0 (443, [(3, .int 0), (2, .ref 25), (1, .ref 1), (0, .ref 0)], [.int 0, .int 0], g9_35 (pg xs) 3 0 c d, 599950, 7298497) _
    refine pm_brT (g := (873, [(3, .int 0), (2, .ref 25), (1, .ref 1), (0, .ref 0)], [], g9_35 (pg xs) 3 0 c d, 599950, 7298497)) rfl ?_
    refine pm_go (g := (876, [(3, .int 5), (2, .ref 25), (1, .ref 1), (0, .ref 0)], [], g9_35 (pg xs) 3 0 c d, 599950, 7298497)) rfl ?_
    refine pm_go (g := (18, [(3, .int 5), (2, .ref 25), (1, .ref 1), (0, .ref 0)], [], g9_35 (pg xs) 3 0 c d, 599950, 7298497)) rfl ?_
    refine pm_go (g := (19, [(3, .int 5), (2, .ref 25), (1, .ref 1), (0, .ref 0)], [.int 5], g9_35 (pg xs) 3 0 c d, 599950, 7298497)) rfl ?_
    refine pm_go (g := (20, [(3, .int 5), (2, .ref 25), (1, .ref 1), (0, .ref 0)], [.ref 0, .int 5], g9_35 (pg xs) 3 0 c d, 599950, 7298497)) rfl ?_
    refine pm_go (g := (21, [(3, .int 5), (2, .ref 25), (1, .ref 1), (0, .ref 0)], [.int 5, .int 5], g9_35 (pg xs) 3 0 c d, 599950, 7298497)) rfl ?_
    refine pm_go (g := (22, [(3, .int 5), (2, .ref 25), (1, .ref 1), (0, .ref 0)], [.int 5, .int 5, .int 5], g9_35 (pg xs) 3 0 c d, 599950, 7298497)) rfl ?_
    refine pm_go (g := (23, [(3, .int 5), (2, .ref 25), (1, .ref 1), (0, .ref 0)], [.int 0, .int 5], g9_35 (pg xs) 3 0 c d, 599950, 7298497)) rfl ?_
    refine pm_brT (g := (879, [(3, .int 5), (2, .ref 25), (1, .ref 1), (0, .ref 0)], [], g9_35 (pg xs) 3 0 c d, 599950, 7298497)) rfl ?_
    refine pm_go (g := (880, [(3, .int 5), (2, .ref 25), (1, .ref 1), (0, .ref 0)], [.int 1], g9_35 (pg xs) 3 0 c d, 599950, 7298497)) rfl ?_
    exact pm_ret rfl rfl
  ·
    obtain rfl : a = 4 := xI (c := 4) (by decide) (by omega)
    show pm_WP 111 (1, [(0, .ref 1), (1, .int 4), (2, .int (b))], [.int 4], g9_0 (pg xs) 4 b c d, 0, 0) _
    refine pm_go (g := (75, [(0, .ref 1), (1, .int 4), (2, .int (b))], [], g9_0 (pg xs) 4 b c d, 0, 0)) rfl ?_
    refine pm_go (g := (76, [(0, .ref 1), (1, .int 4), (2, .int (b))], [.ref 1], g9_0 (pg xs) 4 b c d, 0, 0)) rfl ?_
    refine pm_go (g := (79, [(0, .ref 1), (1, .int 4), (2, .int (b))], [.ref 2], g9_0 (pg xs) 4 b c d, 0, 0)) rfl ?_
    refine pm_go (g := (80, [(0, .ref 1), (1, .int 4), (2, .int (b))], [.int (b), .ref 2], g9_0 (pg xs) 4 b c d, 0, 0)) rfl ?_
    refine pm_callD (z := 81) (as := [.ref 2, .int (b)]) (rest := []) rfl ?_
    show pm_WP 81 (0, [(0, .ref 2), (1, .int (b))], [], g9_0 (pg xs) 4 b c d, 0, 0) _
    refine pm_go (g := (1, [(0, .ref 2), (1, .int (b))], [.int (b)], g9_0 (pg xs) 4 b c d, 0, 0)) rfl ?_
    refine pm_if2 (g := (16, [(0, .ref 2), (1, .int (b))], [], g9_0 (pg xs) 4 b c d, 0, 0)) (h := (4, [(0, .ref 2), (1, .int (b))], [], g9_0 (pg xs) 4 b c d, 0, 0)) rfl (fun q18 => ?_) (fun q18 => ?_)
    ·
      have q18 := qT_lt (cx := b.toInt) (cy := 0) rfl (by decide) q18
      refine pm_go (g := (17, [(0, .ref 2), (1, .int (b))], [.int 0], g9_0 (pg xs) 4 b c d, 0, 0)) rfl ?_
      refine pm_ret rfl ?_
      show pm_WP 111 (83, [(0, .ref 1), (1, .int 4), (2, .int (b))], [.int 0], g9_0 (pg xs) 4 b c d, 0, 0) _
      refine pm_brF (h := (86, [(0, .ref 1), (1, .int 4), (2, .int (b))], [], g9_0 (pg xs) 4 b c d, 0, 0)) rfl ?_
      refine pm_go (g := (87, [(0, .ref 1), (1, .int 4), (2, .int (b))], [.int (b)], g9_0 (pg xs) 4 b c d, 0, 0)) rfl ?_
      refine pm_go (g := (89, [(0, .ref 1), (1, .int 4), (2, .int (b))], [.int 10, .int (b)], g9_0 (pg xs) 4 b c d, 0, 0)) rfl ?_
      refine pm_ifT (g := (96, [(0, .ref 1), (1, .int 4), (2, .int (b))], [], g9_0 (pg xs) 4 b c d, 0, 0)) rfl (rT_ne (cx := b.toInt) (cy := 10) rfl (by decide) (by omega)) ?_
      refine pm_go (g := (97, [(0, .ref 1), (1, .int 4), (2, .int (b))], [.int 0], g9_0 (pg xs) 4 b c d, 0, 0)) rfl ?_
      refine pm_ret rfl ?_
      show pm_WP 104 (6, [(0, .ref 1), (1, .int 4), (2, .int (b)), (3, .int (c))], [.int 0], g9_0 (pg xs) 4 b c d, 1, 3) _
      refine pm_brT (g := (24, [(0, .ref 1), (1, .int 4), (2, .int (b)), (3, .int (c))], [], g9_0 (pg xs) 4 b c d, 1, 3)) rfl ?_
      refine pm_go (g := (25, [(0, .ref 1), (1, .int 4), (2, .int (b)), (3, .int (c))], [.int (-1)], g9_0 (pg xs) 4 b c d, 1, 3)) rfl ?_
      refine pm_ret rfl ?_
      show pm_WP 0 (424, [(3, .int 0), (2, .ref 25), (1, .ref 1), (0, .ref 0)], [.int (-1)], g9_0 (pg xs) 4 b c d, 599950, 7298497) _
      refine pm_go (g := (425, [(3, .int 0), (2, .ref 25), (1, .ref 1), (0, .ref 0)], [.ref 25, .int (-1)], g9_0 (pg xs) 4 b c d, 599950, 7298497)) rfl ?_
      refine pm_go (g := (426, [(3, .int 0), (2, .ref 25), (1, .ref 1), (0, .ref 0)], [.ref 0, .ref 25, .int (-1)], g9_0 (pg xs) 4 b c d, 599950, 7298497)) rfl ?_
      refine pm_go (g := (427, [(3, .int 0), (2, .ref 25), (1, .ref 1), (0, .ref 0)], [.int 0, .ref 0, .ref 25, .int (-1)], g9_0 (pg xs) 4 b c d, 599950, 7298497)) rfl ?_
      refine pm_go (g := (428, [(3, .int 0), (2, .ref 25), (1, .ref 1), (0, .ref 0)], [.int 1, .int 0, .ref 0, .ref 25, .int (-1)], g9_0 (pg xs) 4 b c d, 599950, 7298497)) rfl ?_
      refine pm_go (g := (429, [(3, .int 0), (2, .ref 25), (1, .ref 1), (0, .ref 0)], [.int 1, .ref 0, .ref 25, .int (-1)], g9_0 (pg xs) 4 b c d, 599950, 7298497)) rfl ?_
      refine pm_go (g := (430, [(3, .int 0), (2, .ref 25), (1, .ref 1), (0, .ref 0)], [.int (xs 1), .ref 25, .int (-1)], g9_0 (pg xs) 4 b c d, 599950, 7298497)) rfl ?_
      rw [← ea]
      refine pm_go (g := (431, [(3, .int 0), (2, .ref 25), (1, .ref 1), (0, .ref 0)], [.ref 0, .int 4, .ref 25, .int (-1)], g9_0 (pg xs) 4 b c d, 599950, 7298497)) rfl ?_
      refine pm_go (g := (432, [(3, .int 0), (2, .ref 25), (1, .ref 1), (0, .ref 0)], [.int 0, .ref 0, .int 4, .ref 25, .int (-1)], g9_0 (pg xs) 4 b c d, 599950, 7298497)) rfl ?_
      refine pm_go (g := (433, [(3, .int 0), (2, .ref 25), (1, .ref 1), (0, .ref 0)], [.int 2, .int 0, .ref 0, .int 4, .ref 25, .int (-1)], g9_0 (pg xs) 4 b c d, 599950, 7298497)) rfl ?_
      refine pm_go (g := (434, [(3, .int 0), (2, .ref 25), (1, .ref 1), (0, .ref 0)], [.int 2, .ref 0, .int 4, .ref 25, .int (-1)], g9_0 (pg xs) 4 b c d, 599950, 7298497)) rfl ?_
      refine pm_go (g := (435, [(3, .int 0), (2, .ref 25), (1, .ref 1), (0, .ref 0)], [.int (xs 2), .int 4, .ref 25, .int (-1)], g9_0 (pg xs) 4 b c d, 599950, 7298497)) rfl ?_
      rw [← eb]
      refine pm_go (g := (436, [(3, .int 0), (2, .ref 25), (1, .ref 1), (0, .ref 0)], [.ref 0, .int (b), .int 4, .ref 25, .int (-1)], g9_0 (pg xs) 4 b c d, 599950, 7298497)) rfl ?_
      refine pm_go (g := (437, [(3, .int 0), (2, .ref 25), (1, .ref 1), (0, .ref 0)], [.int 0, .ref 0, .int (b), .int 4, .ref 25, .int (-1)], g9_0 (pg xs) 4 b c d, 599950, 7298497)) rfl ?_
      refine pm_go (g := (438, [(3, .int 0), (2, .ref 25), (1, .ref 1), (0, .ref 0)], [.int 3, .int 0, .ref 0, .int (b), .int 4, .ref 25, .int (-1)], g9_0 (pg xs) 4 b c d, 599950, 7298497)) rfl ?_
      refine pm_go (g := (439, [(3, .int 0), (2, .ref 25), (1, .ref 1), (0, .ref 0)], [.int 3, .ref 0, .int (b), .int 4, .ref 25, .int (-1)], g9_0 (pg xs) 4 b c d, 599950, 7298497)) rfl ?_
      refine pm_go (g := (440, [(3, .int 0), (2, .ref 25), (1, .ref 1), (0, .ref 0)], [.int (xs 3), .int (b), .int 4, .ref 25, .int (-1)], g9_0 (pg xs) 4 b c d, 599950, 7298497)) rfl ?_
      rw [← ec]
      refine pm_callD (z := 163) (as := [.ref 25, .int 4, .int (b), .int (c)]) (rest := [.int (-1)]) rfl ?_
      show pm_WP 163 (0, [(0, .ref 25), (1, .int 4), (2, .int (b)), (3, .int (c))], [], g9_0 (pg xs) 4 b c d, 0, 0) _
      refine pm_go (g := (1, [(0, .ref 25), (1, .int 4), (2, .int (b)), (3, .int (c))], [.int 4], g9_0 (pg xs) 4 b c d, 0, 0)) rfl ?_
      refine pm_go (g := (2, [(0, .ref 25), (1, .int 4), (2, .int (b)), (3, .int (c))], [.int 0, .int 4], g9_0 (pg xs) 4 b c d, 0, 0)) rfl ?_
      refine pm_go (g := (3, [(0, .ref 25), (1, .int 4), (2, .int (b)), (3, .int (c))], [.int 4, .int 0, .int 4], g9_0 (pg xs) 4 b c d, 0, 0)) rfl ?_
      refine pm_callD (z := 128) (as := [.int 4, .int 0, .int 4]) (rest := []) rfl ?_
      show pm_WP 128 (0, [(0, .int 4), (1, .int 0), (2, .int 4)], [], g9_0 (pg xs) 4 b c d, 0, 0) _
      refine pm_go (g := (1, [(0, .int 4), (1, .int 0), (2, .int 4)], [.int 4], g9_0 (pg xs) 4 b c d, 0, 0)) rfl ?_
      refine pm_go (g := (2, [(0, .int 4), (1, .int 0), (2, .int 4)], [.int 0, .int 4], g9_0 (pg xs) 4 b c d, 0, 0)) rfl ?_
      refine pm_brF (h := (5, [(0, .int 4), (1, .int 0), (2, .int 4)], [], g9_0 (pg xs) 4 b c d, 0, 0)) rfl ?_
      refine pm_go (g := (6, [(0, .int 4), (1, .int 0), (2, .int 4)], [.int 4], g9_0 (pg xs) 4 b c d, 0, 0)) rfl ?_
      refine pm_go (g := (7, [(0, .int 4), (1, .int 0), (2, .int 4)], [.int 4, .int 4], g9_0 (pg xs) 4 b c d, 0, 0)) rfl ?_
      refine pm_brF (h := (10, [(0, .int 4), (1, .int 0), (2, .int 4)], [], g9_0 (pg xs) 4 b c d, 0, 0)) rfl ?_
      refine pm_go (g := (11, [(0, .int 4), (1, .int 0), (2, .int 4)], [.int 1], g9_0 (pg xs) 4 b c d, 0, 0)) rfl ?_
      refine pm_go (g := (15, [(0, .int 4), (1, .int 0), (2, .int 4)], [.int 1], g9_0 (pg xs) 4 b c d, 0, 0)) rfl ?_
      refine pm_ret rfl ?_
      show pm_WP 163 (6, [(0, .ref 25), (1, .int 4), (2, .int (b)), (3, .int (c))], [.int 1], g9_0 (pg xs) 4 b c d, 0, 0) _
      refine pm_brT (g := (11, [(0, .ref 25), (1, .int 4), (2, .int (b)), (3, .int (c))], [], g9_0 (pg xs) 4 b c d, 0, 0)) rfl ?_
      refine pm_go (g := (12, [(0, .ref 25), (1, .int 4), (2, .int (b)), (3, .int (c))], [.int 4], g9_0 (pg xs) 4 b c d, 0, 0)) rfl ?_
      refine pm_go (g := (13, [(0, .ref 25), (1, .int 4), (2, .int (b)), (3, .int (c))], [.int 2, .int 4], g9_0 (pg xs) 4 b c d, 0, 0)) rfl ?_
      refine pm_brT (g := (24, [(0, .ref 25), (1, .int 4), (2, .int (b)), (3, .int (c))], [], g9_0 (pg xs) 4 b c d, 0, 0)) rfl ?_
      refine pm_go (g := (25, [(0, .ref 25), (1, .int 4), (2, .int (b)), (3, .int (c))], [.int 4], g9_0 (pg xs) 4 b c d, 0, 0)) rfl ?_
      refine pm_go (g := (26, [(0, .ref 25), (1, .int 4), (2, .int (b)), (3, .int (c))], [.int 2, .int 4], g9_0 (pg xs) 4 b c d, 0, 0)) rfl ?_
      refine pm_brT (g := (49, [(0, .ref 25), (1, .int 4), (2, .int (b)), (3, .int (c))], [], g9_0 (pg xs) 4 b c d, 0, 0)) rfl ?_
      refine pm_go (g := (50, [(0, .ref 25), (1, .int 4), (2, .int (b)), (3, .int (c))], [.int 4], g9_0 (pg xs) 4 b c d, 0, 0)) rfl ?_
      refine pm_go (g := (51, [(0, .ref 25), (1, .int 4), (2, .int (b)), (3, .int (c))], [.int 3, .int 4], g9_0 (pg xs) 4 b c d, 0, 0)) rfl ?_
      refine pm_brT (g := (62, [(0, .ref 25), (1, .int 4), (2, .int (b)), (3, .int (c))], [], g9_0 (pg xs) 4 b c d, 0, 0)) rfl ?_
      refine pm_go (g := (63, [(0, .ref 25), (1, .int 4), (2, .int (b)), (3, .int (c))], [.ref 25], g9_0 (pg xs) 4 b c d, 0, 0)) rfl ?_
      refine pm_go (g := (64, [(0, .ref 25), (1, .int 4), (2, .int (b)), (3, .int (c))], [.int (b), .ref 25], g9_0 (pg xs) 4 b c d, 0, 0)) rfl ?_
      refine pm_callD (z := 129) (as := [.ref 25, .int (b)]) (rest := []) rfl ?_
      show pm_WP 129 (0, [(0, .ref 25), (1, .int (b))], [], g9_0 (pg xs) 4 b c d, 0, 0) _
      refine pm_go (g := (1, [(0, .ref 25), (1, .int (b))], [.int (b)], g9_0 (pg xs) 4 b c d, 0, 0)) rfl ?_
      refine pm_go (g := (2, [(0, .ref 25), (1, .int (b))], [.int 0, .int (b)], g9_0 (pg xs) 4 b c d, 0, 0)) rfl ?_
      refine pm_go (g := (3, [(0, .ref 25), (1, .int (b))], [.ref 25, .int 0, .int (b)], g9_0 (pg xs) 4 b c d, 0, 0)) rfl ?_
      refine pm_go (g := (6, [(0, .ref 25), (1, .int (b))], [.int 2, .int 0, .int (b)], g9_0 (pg xs) 4 b c d, 0, 0)) rfl ?_
      refine pm_go (g := (7, [(0, .ref 25), (1, .int (b))], [.int 1, .int 2, .int 0, .int (b)], g9_0 (pg xs) 4 b c d, 0, 0)) rfl ?_
      refine pm_go (g := (8, [(0, .ref 25), (1, .int (b))], [.int 1, .int 0, .int (b)], g9_0 (pg xs) 4 b c d, 0, 0)) rfl ?_
      refine pm_callD (z := 128) (as := [.int (b), .int 0, .int 1]) (rest := []) rfl ?_
      show pm_WP 128 (0, [(0, .int (b)), (1, .int 0), (2, .int 1)], [], g9_0 (pg xs) 4 b c d, 0, 0) _
      refine pm_go (g := (1, [(0, .int (b)), (1, .int 0), (2, .int 1)], [.int (b)], g9_0 (pg xs) 4 b c d, 0, 0)) rfl ?_
      refine pm_go (g := (2, [(0, .int (b)), (1, .int 0), (2, .int 1)], [.int 0, .int (b)], g9_0 (pg xs) 4 b c d, 0, 0)) rfl ?_
      refine pm_ifT (g := (14, [(0, .int (b)), (1, .int 0), (2, .int 1)], [], g9_0 (pg xs) 4 b c d, 0, 0)) rfl (rT_lt (cx := b.toInt) (cy := 0) rfl (by decide) (by omega)) ?_
      refine pm_go (g := (15, [(0, .int (b)), (1, .int 0), (2, .int 1)], [.int 0], g9_0 (pg xs) 4 b c d, 0, 0)) rfl ?_
      refine pm_ret rfl ?_
      show pm_WP 129 (11, [(0, .ref 25), (1, .int (b))], [.int 0], g9_0 (pg xs) 4 b c d, 0, 0) _
      refine pm_ret rfl ?_
      show pm_WP 163 (67, [(0, .ref 25), (1, .int 4), (2, .int (b)), (3, .int (c))], [.int 0], g9_0 (pg xs) 4 b c d, 0, 0) _
      refine pm_brF (h := (70, [(0, .ref 25), (1, .int 4), (2, .int (b)), (3, .int (c))], [], g9_0 (pg xs) 4 b c d, 0, 0)) rfl ?_
      refine pm_go (g := (71, [(0, .ref 25), (1, .int 4), (2, .int (b)), (3, .int (c))], [.int (b)], g9_0 (pg xs) 4 b c d, 0, 0)) rfl ?_
      refine pm_go (g := (73, [(0, .ref 25), (1, .int 4), (2, .int (b)), (3, .int (c))], [.int 10, .int (b)], g9_0 (pg xs) 4 b c d, 0, 0)) rfl ?_
      refine pm_ifT (g := (80, [(0, .ref 25), (1, .int 4), (2, .int (b)), (3, .int (c))], [], g9_0 (pg xs) 4 b c d, 0, 0)) rfl (rT_ne (cx := b.toInt) (cy := 10) rfl (by decide) (by omega)) ?_
      refine pm_go (g := (81, [(0, .ref 25), (1, .int 4), (2, .int (b)), (3, .int (c))], [.int 0], g9_0 (pg xs) 4 b c d, 0, 0)) rfl ?_
      refine pm_go (g := (83, [(4, .int 0), (0, .ref 25), (1, .int 4), (2, .int (b)), (3, .int (c))], [], g9_0 (pg xs) 4 b c d, 0, 0)) rfl ?_
      refine pm_go (g := (85, [(4, .int 0), (0, .ref 25), (1, .int 4), (2, .int (b)), (3, .int (c))], [.int 0], g9_0 (pg xs) 4 b c d, 0, 0)) rfl ?_
      refine pm_brT (g := (102, [(4, .int 0), (0, .ref 25), (1, .int 4), (2, .int (b)), (3, .int (c))], [], g9_0 (pg xs) 4 b c d, 0, 0)) rfl ?_
      refine pm_go (g := (103, [(4, .int 0), (0, .ref 25), (1, .int 4), (2, .int (b)), (3, .int (c))], [.int (-1)], g9_0 (pg xs) 4 b c d, 0, 0)) rfl ?_
      refine pm_ret rfl ?_
      show pm_WP 0 (443, [(3, .int 0), (2, .ref 25), (1, .ref 1), (0, .ref 0)], [.int (-1), .int (-1)], g9_0 (pg xs) 4 b c d, 599950, 7298497) _
      refine pm_brT (g := (873, [(3, .int 0), (2, .ref 25), (1, .ref 1), (0, .ref 0)], [], g9_0 (pg xs) 4 b c d, 599950, 7298497)) rfl ?_
      refine pm_go (g := (876, [(3, .int 5), (2, .ref 25), (1, .ref 1), (0, .ref 0)], [], g9_0 (pg xs) 4 b c d, 599950, 7298497)) rfl ?_
      refine pm_go (g := (18, [(3, .int 5), (2, .ref 25), (1, .ref 1), (0, .ref 0)], [], g9_0 (pg xs) 4 b c d, 599950, 7298497)) rfl ?_
      refine pm_go (g := (19, [(3, .int 5), (2, .ref 25), (1, .ref 1), (0, .ref 0)], [.int 5], g9_0 (pg xs) 4 b c d, 599950, 7298497)) rfl ?_
      refine pm_go (g := (20, [(3, .int 5), (2, .ref 25), (1, .ref 1), (0, .ref 0)], [.ref 0, .int 5], g9_0 (pg xs) 4 b c d, 599950, 7298497)) rfl ?_
      refine pm_go (g := (21, [(3, .int 5), (2, .ref 25), (1, .ref 1), (0, .ref 0)], [.int 5, .int 5], g9_0 (pg xs) 4 b c d, 599950, 7298497)) rfl ?_
      refine pm_go (g := (22, [(3, .int 5), (2, .ref 25), (1, .ref 1), (0, .ref 0)], [.int 5, .int 5, .int 5], g9_0 (pg xs) 4 b c d, 599950, 7298497)) rfl ?_
      refine pm_go (g := (23, [(3, .int 5), (2, .ref 25), (1, .ref 1), (0, .ref 0)], [.int 0, .int 5], g9_0 (pg xs) 4 b c d, 599950, 7298497)) rfl ?_
      refine pm_brT (g := (879, [(3, .int 5), (2, .ref 25), (1, .ref 1), (0, .ref 0)], [], g9_0 (pg xs) 4 b c d, 599950, 7298497)) rfl ?_
      refine pm_go (g := (880, [(3, .int 5), (2, .ref 25), (1, .ref 1), (0, .ref 0)], [.int 1], g9_0 (pg xs) 4 b c d, 599950, 7298497)) rfl ?_
      exact pm_ret rfl rfl
    have q18 := qF_lt (cx := b.toInt) (cy := 0) rfl (by decide) q18
    refine pm_go (g := (5, [(0, .ref 2), (1, .int (b))], [.int (b)], g9_0 (pg xs) 4 b c d, 0, 0)) rfl ?_
    refine pm_go (g := (6, [(0, .ref 2), (1, .int (b))], [.ref 2, .int (b)], g9_0 (pg xs) 4 b c d, 0, 0)) rfl ?_
    refine pm_go (g := (9, [(0, .ref 2), (1, .int (b))], [.int 2, .int (b)], g9_0 (pg xs) 4 b c d, 0, 0)) rfl ?_
    refine pm_if2 (g := (16, [(0, .ref 2), (1, .int (b))], [], g9_0 (pg xs) 4 b c d, 0, 0)) (h := (12, [(0, .ref 2), (1, .int (b))], [], g9_0 (pg xs) 4 b c d, 0, 0)) rfl (fun q19 => ?_) (fun q19 => ?_)
    ·
      have q19 := qT_ge (cx := b.toInt) (cy := 2) rfl (by decide) q19
      refine pm_go (g := (17, [(0, .ref 2), (1, .int (b))], [.int 0], g9_0 (pg xs) 4 b c d, 0, 0)) rfl ?_
      refine pm_ret rfl ?_
      show pm_WP 111 (83, [(0, .ref 1), (1, .int 4), (2, .int (b))], [.int 0], g9_0 (pg xs) 4 b c d, 0, 0) _
      refine pm_brF (h := (86, [(0, .ref 1), (1, .int 4), (2, .int (b))], [], g9_0 (pg xs) 4 b c d, 0, 0)) rfl ?_
      refine pm_go (g := (87, [(0, .ref 1), (1, .int 4), (2, .int (b))], [.int (b)], g9_0 (pg xs) 4 b c d, 0, 0)) rfl ?_
      refine pm_go (g := (89, [(0, .ref 1), (1, .int 4), (2, .int (b))], [.int 10, .int (b)], g9_0 (pg xs) 4 b c d, 0, 0)) rfl ?_
      refine pm_if2 (g := (96, [(0, .ref 1), (1, .int 4), (2, .int (b))], [], g9_0 (pg xs) 4 b c d, 0, 0)) (h := (92, [(0, .ref 1), (1, .int 4), (2, .int (b))], [], g9_0 (pg xs) 4 b c d, 0, 0)) rfl (fun q20 => ?_) (fun q20 => ?_)
      ·
        have q20 := qT_ne (cx := b.toInt) (cy := 10) rfl (by decide) q20
        refine pm_go (g := (97, [(0, .ref 1), (1, .int 4), (2, .int (b))], [.int 0], g9_0 (pg xs) 4 b c d, 0, 0)) rfl ?_
        refine pm_ret rfl ?_
        show pm_WP 104 (6, [(0, .ref 1), (1, .int 4), (2, .int (b)), (3, .int (c))], [.int 0], g9_0 (pg xs) 4 b c d, 1, 3) _
        refine pm_brT (g := (24, [(0, .ref 1), (1, .int 4), (2, .int (b)), (3, .int (c))], [], g9_0 (pg xs) 4 b c d, 1, 3)) rfl ?_
        refine pm_go (g := (25, [(0, .ref 1), (1, .int 4), (2, .int (b)), (3, .int (c))], [.int (-1)], g9_0 (pg xs) 4 b c d, 1, 3)) rfl ?_
        refine pm_ret rfl ?_
        show pm_WP 0 (424, [(3, .int 0), (2, .ref 25), (1, .ref 1), (0, .ref 0)], [.int (-1)], g9_0 (pg xs) 4 b c d, 599950, 7298497) _
        refine pm_go (g := (425, [(3, .int 0), (2, .ref 25), (1, .ref 1), (0, .ref 0)], [.ref 25, .int (-1)], g9_0 (pg xs) 4 b c d, 599950, 7298497)) rfl ?_
        refine pm_go (g := (426, [(3, .int 0), (2, .ref 25), (1, .ref 1), (0, .ref 0)], [.ref 0, .ref 25, .int (-1)], g9_0 (pg xs) 4 b c d, 599950, 7298497)) rfl ?_
        refine pm_go (g := (427, [(3, .int 0), (2, .ref 25), (1, .ref 1), (0, .ref 0)], [.int 0, .ref 0, .ref 25, .int (-1)], g9_0 (pg xs) 4 b c d, 599950, 7298497)) rfl ?_
        refine pm_go (g := (428, [(3, .int 0), (2, .ref 25), (1, .ref 1), (0, .ref 0)], [.int 1, .int 0, .ref 0, .ref 25, .int (-1)], g9_0 (pg xs) 4 b c d, 599950, 7298497)) rfl ?_
        refine pm_go (g := (429, [(3, .int 0), (2, .ref 25), (1, .ref 1), (0, .ref 0)], [.int 1, .ref 0, .ref 25, .int (-1)], g9_0 (pg xs) 4 b c d, 599950, 7298497)) rfl ?_
        refine pm_go (g := (430, [(3, .int 0), (2, .ref 25), (1, .ref 1), (0, .ref 0)], [.int (xs 1), .ref 25, .int (-1)], g9_0 (pg xs) 4 b c d, 599950, 7298497)) rfl ?_
        rw [← ea]
        refine pm_go (g := (431, [(3, .int 0), (2, .ref 25), (1, .ref 1), (0, .ref 0)], [.ref 0, .int 4, .ref 25, .int (-1)], g9_0 (pg xs) 4 b c d, 599950, 7298497)) rfl ?_
        refine pm_go (g := (432, [(3, .int 0), (2, .ref 25), (1, .ref 1), (0, .ref 0)], [.int 0, .ref 0, .int 4, .ref 25, .int (-1)], g9_0 (pg xs) 4 b c d, 599950, 7298497)) rfl ?_
        refine pm_go (g := (433, [(3, .int 0), (2, .ref 25), (1, .ref 1), (0, .ref 0)], [.int 2, .int 0, .ref 0, .int 4, .ref 25, .int (-1)], g9_0 (pg xs) 4 b c d, 599950, 7298497)) rfl ?_
        refine pm_go (g := (434, [(3, .int 0), (2, .ref 25), (1, .ref 1), (0, .ref 0)], [.int 2, .ref 0, .int 4, .ref 25, .int (-1)], g9_0 (pg xs) 4 b c d, 599950, 7298497)) rfl ?_
        refine pm_go (g := (435, [(3, .int 0), (2, .ref 25), (1, .ref 1), (0, .ref 0)], [.int (xs 2), .int 4, .ref 25, .int (-1)], g9_0 (pg xs) 4 b c d, 599950, 7298497)) rfl ?_
        rw [← eb]
        refine pm_go (g := (436, [(3, .int 0), (2, .ref 25), (1, .ref 1), (0, .ref 0)], [.ref 0, .int (b), .int 4, .ref 25, .int (-1)], g9_0 (pg xs) 4 b c d, 599950, 7298497)) rfl ?_
        refine pm_go (g := (437, [(3, .int 0), (2, .ref 25), (1, .ref 1), (0, .ref 0)], [.int 0, .ref 0, .int (b), .int 4, .ref 25, .int (-1)], g9_0 (pg xs) 4 b c d, 599950, 7298497)) rfl ?_
        refine pm_go (g := (438, [(3, .int 0), (2, .ref 25), (1, .ref 1), (0, .ref 0)], [.int 3, .int 0, .ref 0, .int (b), .int 4, .ref 25, .int (-1)], g9_0 (pg xs) 4 b c d, 599950, 7298497)) rfl ?_
        refine pm_go (g := (439, [(3, .int 0), (2, .ref 25), (1, .ref 1), (0, .ref 0)], [.int 3, .ref 0, .int (b), .int 4, .ref 25, .int (-1)], g9_0 (pg xs) 4 b c d, 599950, 7298497)) rfl ?_
        refine pm_go (g := (440, [(3, .int 0), (2, .ref 25), (1, .ref 1), (0, .ref 0)], [.int (xs 3), .int (b), .int 4, .ref 25, .int (-1)], g9_0 (pg xs) 4 b c d, 599950, 7298497)) rfl ?_
        rw [← ec]
        refine pm_callD (z := 163) (as := [.ref 25, .int 4, .int (b), .int (c)]) (rest := [.int (-1)]) rfl ?_
        show pm_WP 163 (0, [(0, .ref 25), (1, .int 4), (2, .int (b)), (3, .int (c))], [], g9_0 (pg xs) 4 b c d, 0, 0) _
        refine pm_go (g := (1, [(0, .ref 25), (1, .int 4), (2, .int (b)), (3, .int (c))], [.int 4], g9_0 (pg xs) 4 b c d, 0, 0)) rfl ?_
        refine pm_go (g := (2, [(0, .ref 25), (1, .int 4), (2, .int (b)), (3, .int (c))], [.int 0, .int 4], g9_0 (pg xs) 4 b c d, 0, 0)) rfl ?_
        refine pm_go (g := (3, [(0, .ref 25), (1, .int 4), (2, .int (b)), (3, .int (c))], [.int 4, .int 0, .int 4], g9_0 (pg xs) 4 b c d, 0, 0)) rfl ?_
        refine pm_callD (z := 128) (as := [.int 4, .int 0, .int 4]) (rest := []) rfl ?_
        show pm_WP 128 (0, [(0, .int 4), (1, .int 0), (2, .int 4)], [], g9_0 (pg xs) 4 b c d, 0, 0) _
        refine pm_go (g := (1, [(0, .int 4), (1, .int 0), (2, .int 4)], [.int 4], g9_0 (pg xs) 4 b c d, 0, 0)) rfl ?_
        refine pm_go (g := (2, [(0, .int 4), (1, .int 0), (2, .int 4)], [.int 0, .int 4], g9_0 (pg xs) 4 b c d, 0, 0)) rfl ?_
        refine pm_brF (h := (5, [(0, .int 4), (1, .int 0), (2, .int 4)], [], g9_0 (pg xs) 4 b c d, 0, 0)) rfl ?_
        refine pm_go (g := (6, [(0, .int 4), (1, .int 0), (2, .int 4)], [.int 4], g9_0 (pg xs) 4 b c d, 0, 0)) rfl ?_
        refine pm_go (g := (7, [(0, .int 4), (1, .int 0), (2, .int 4)], [.int 4, .int 4], g9_0 (pg xs) 4 b c d, 0, 0)) rfl ?_
        refine pm_brF (h := (10, [(0, .int 4), (1, .int 0), (2, .int 4)], [], g9_0 (pg xs) 4 b c d, 0, 0)) rfl ?_
        refine pm_go (g := (11, [(0, .int 4), (1, .int 0), (2, .int 4)], [.int 1], g9_0 (pg xs) 4 b c d, 0, 0)) rfl ?_
        refine pm_go (g := (15, [(0, .int 4), (1, .int 0), (2, .int 4)], [.int 1], g9_0 (pg xs) 4 b c d, 0, 0)) rfl ?_
        refine pm_ret rfl ?_
        show pm_WP 163 (6, [(0, .ref 25), (1, .int 4), (2, .int (b)), (3, .int (c))], [.int 1], g9_0 (pg xs) 4 b c d, 0, 0) _
        refine pm_brT (g := (11, [(0, .ref 25), (1, .int 4), (2, .int (b)), (3, .int (c))], [], g9_0 (pg xs) 4 b c d, 0, 0)) rfl ?_
        refine pm_go (g := (12, [(0, .ref 25), (1, .int 4), (2, .int (b)), (3, .int (c))], [.int 4], g9_0 (pg xs) 4 b c d, 0, 0)) rfl ?_
        refine pm_go (g := (13, [(0, .ref 25), (1, .int 4), (2, .int (b)), (3, .int (c))], [.int 2, .int 4], g9_0 (pg xs) 4 b c d, 0, 0)) rfl ?_
        refine pm_brT (g := (24, [(0, .ref 25), (1, .int 4), (2, .int (b)), (3, .int (c))], [], g9_0 (pg xs) 4 b c d, 0, 0)) rfl ?_
        refine pm_go (g := (25, [(0, .ref 25), (1, .int 4), (2, .int (b)), (3, .int (c))], [.int 4], g9_0 (pg xs) 4 b c d, 0, 0)) rfl ?_
        refine pm_go (g := (26, [(0, .ref 25), (1, .int 4), (2, .int (b)), (3, .int (c))], [.int 2, .int 4], g9_0 (pg xs) 4 b c d, 0, 0)) rfl ?_
        refine pm_brT (g := (49, [(0, .ref 25), (1, .int 4), (2, .int (b)), (3, .int (c))], [], g9_0 (pg xs) 4 b c d, 0, 0)) rfl ?_
        refine pm_go (g := (50, [(0, .ref 25), (1, .int 4), (2, .int (b)), (3, .int (c))], [.int 4], g9_0 (pg xs) 4 b c d, 0, 0)) rfl ?_
        refine pm_go (g := (51, [(0, .ref 25), (1, .int 4), (2, .int (b)), (3, .int (c))], [.int 3, .int 4], g9_0 (pg xs) 4 b c d, 0, 0)) rfl ?_
        refine pm_brT (g := (62, [(0, .ref 25), (1, .int 4), (2, .int (b)), (3, .int (c))], [], g9_0 (pg xs) 4 b c d, 0, 0)) rfl ?_
        refine pm_go (g := (63, [(0, .ref 25), (1, .int 4), (2, .int (b)), (3, .int (c))], [.ref 25], g9_0 (pg xs) 4 b c d, 0, 0)) rfl ?_
        refine pm_go (g := (64, [(0, .ref 25), (1, .int 4), (2, .int (b)), (3, .int (c))], [.int (b), .ref 25], g9_0 (pg xs) 4 b c d, 0, 0)) rfl ?_
        refine pm_callD (z := 129) (as := [.ref 25, .int (b)]) (rest := []) rfl ?_
        show pm_WP 129 (0, [(0, .ref 25), (1, .int (b))], [], g9_0 (pg xs) 4 b c d, 0, 0) _
        refine pm_go (g := (1, [(0, .ref 25), (1, .int (b))], [.int (b)], g9_0 (pg xs) 4 b c d, 0, 0)) rfl ?_
        refine pm_go (g := (2, [(0, .ref 25), (1, .int (b))], [.int 0, .int (b)], g9_0 (pg xs) 4 b c d, 0, 0)) rfl ?_
        refine pm_go (g := (3, [(0, .ref 25), (1, .int (b))], [.ref 25, .int 0, .int (b)], g9_0 (pg xs) 4 b c d, 0, 0)) rfl ?_
        refine pm_go (g := (6, [(0, .ref 25), (1, .int (b))], [.int 2, .int 0, .int (b)], g9_0 (pg xs) 4 b c d, 0, 0)) rfl ?_
        refine pm_go (g := (7, [(0, .ref 25), (1, .int (b))], [.int 1, .int 2, .int 0, .int (b)], g9_0 (pg xs) 4 b c d, 0, 0)) rfl ?_
        refine pm_go (g := (8, [(0, .ref 25), (1, .int (b))], [.int 1, .int 0, .int (b)], g9_0 (pg xs) 4 b c d, 0, 0)) rfl ?_
        refine pm_callD (z := 128) (as := [.int (b), .int 0, .int 1]) (rest := []) rfl ?_
        show pm_WP 128 (0, [(0, .int (b)), (1, .int 0), (2, .int 1)], [], g9_0 (pg xs) 4 b c d, 0, 0) _
        refine pm_go (g := (1, [(0, .int (b)), (1, .int 0), (2, .int 1)], [.int (b)], g9_0 (pg xs) 4 b c d, 0, 0)) rfl ?_
        refine pm_go (g := (2, [(0, .int (b)), (1, .int 0), (2, .int 1)], [.int 0, .int (b)], g9_0 (pg xs) 4 b c d, 0, 0)) rfl ?_
        refine pm_ifF (h := (5, [(0, .int (b)), (1, .int 0), (2, .int 1)], [], g9_0 (pg xs) 4 b c d, 0, 0)) rfl (rF_lt (cx := b.toInt) (cy := 0) rfl (by decide) (by omega)) ?_
        refine pm_go (g := (6, [(0, .int (b)), (1, .int 0), (2, .int 1)], [.int (b)], g9_0 (pg xs) 4 b c d, 0, 0)) rfl ?_
        refine pm_go (g := (7, [(0, .int (b)), (1, .int 0), (2, .int 1)], [.int 1, .int (b)], g9_0 (pg xs) 4 b c d, 0, 0)) rfl ?_
        refine pm_ifT (g := (14, [(0, .int (b)), (1, .int 0), (2, .int 1)], [], g9_0 (pg xs) 4 b c d, 0, 0)) rfl (rT_gt (cx := b.toInt) (cy := 1) rfl (by decide) (by omega)) ?_
        refine pm_go (g := (15, [(0, .int (b)), (1, .int 0), (2, .int 1)], [.int 0], g9_0 (pg xs) 4 b c d, 0, 0)) rfl ?_
        refine pm_ret rfl ?_
        show pm_WP 129 (11, [(0, .ref 25), (1, .int (b))], [.int 0], g9_0 (pg xs) 4 b c d, 0, 0) _
        refine pm_ret rfl ?_
        show pm_WP 163 (67, [(0, .ref 25), (1, .int 4), (2, .int (b)), (3, .int (c))], [.int 0], g9_0 (pg xs) 4 b c d, 0, 0) _
        refine pm_brF (h := (70, [(0, .ref 25), (1, .int 4), (2, .int (b)), (3, .int (c))], [], g9_0 (pg xs) 4 b c d, 0, 0)) rfl ?_
        refine pm_go (g := (71, [(0, .ref 25), (1, .int 4), (2, .int (b)), (3, .int (c))], [.int (b)], g9_0 (pg xs) 4 b c d, 0, 0)) rfl ?_
        refine pm_go (g := (73, [(0, .ref 25), (1, .int 4), (2, .int (b)), (3, .int (c))], [.int 10, .int (b)], g9_0 (pg xs) 4 b c d, 0, 0)) rfl ?_
        refine pm_ifT (g := (80, [(0, .ref 25), (1, .int 4), (2, .int (b)), (3, .int (c))], [], g9_0 (pg xs) 4 b c d, 0, 0)) rfl (rT_ne (cx := b.toInt) (cy := 10) rfl (by decide) (by omega)) ?_
        refine pm_go (g := (81, [(0, .ref 25), (1, .int 4), (2, .int (b)), (3, .int (c))], [.int 0], g9_0 (pg xs) 4 b c d, 0, 0)) rfl ?_
        refine pm_go (g := (83, [(4, .int 0), (0, .ref 25), (1, .int 4), (2, .int (b)), (3, .int (c))], [], g9_0 (pg xs) 4 b c d, 0, 0)) rfl ?_
        refine pm_go (g := (85, [(4, .int 0), (0, .ref 25), (1, .int 4), (2, .int (b)), (3, .int (c))], [.int 0], g9_0 (pg xs) 4 b c d, 0, 0)) rfl ?_
        refine pm_brT (g := (102, [(4, .int 0), (0, .ref 25), (1, .int 4), (2, .int (b)), (3, .int (c))], [], g9_0 (pg xs) 4 b c d, 0, 0)) rfl ?_
        refine pm_go (g := (103, [(4, .int 0), (0, .ref 25), (1, .int 4), (2, .int (b)), (3, .int (c))], [.int (-1)], g9_0 (pg xs) 4 b c d, 0, 0)) rfl ?_
        refine pm_ret rfl ?_
        show pm_WP 0 (443, [(3, .int 0), (2, .ref 25), (1, .ref 1), (0, .ref 0)], [.int (-1), .int (-1)], g9_0 (pg xs) 4 b c d, 599950, 7298497) _
        refine pm_brT (g := (873, [(3, .int 0), (2, .ref 25), (1, .ref 1), (0, .ref 0)], [], g9_0 (pg xs) 4 b c d, 599950, 7298497)) rfl ?_
        refine pm_go (g := (876, [(3, .int 5), (2, .ref 25), (1, .ref 1), (0, .ref 0)], [], g9_0 (pg xs) 4 b c d, 599950, 7298497)) rfl ?_
        refine pm_go (g := (18, [(3, .int 5), (2, .ref 25), (1, .ref 1), (0, .ref 0)], [], g9_0 (pg xs) 4 b c d, 599950, 7298497)) rfl ?_
        refine pm_go (g := (19, [(3, .int 5), (2, .ref 25), (1, .ref 1), (0, .ref 0)], [.int 5], g9_0 (pg xs) 4 b c d, 599950, 7298497)) rfl ?_
        refine pm_go (g := (20, [(3, .int 5), (2, .ref 25), (1, .ref 1), (0, .ref 0)], [.ref 0, .int 5], g9_0 (pg xs) 4 b c d, 599950, 7298497)) rfl ?_
        refine pm_go (g := (21, [(3, .int 5), (2, .ref 25), (1, .ref 1), (0, .ref 0)], [.int 5, .int 5], g9_0 (pg xs) 4 b c d, 599950, 7298497)) rfl ?_
        refine pm_go (g := (22, [(3, .int 5), (2, .ref 25), (1, .ref 1), (0, .ref 0)], [.int 5, .int 5, .int 5], g9_0 (pg xs) 4 b c d, 599950, 7298497)) rfl ?_
        refine pm_go (g := (23, [(3, .int 5), (2, .ref 25), (1, .ref 1), (0, .ref 0)], [.int 0, .int 5], g9_0 (pg xs) 4 b c d, 599950, 7298497)) rfl ?_
        refine pm_brT (g := (879, [(3, .int 5), (2, .ref 25), (1, .ref 1), (0, .ref 0)], [], g9_0 (pg xs) 4 b c d, 599950, 7298497)) rfl ?_
        refine pm_go (g := (880, [(3, .int 5), (2, .ref 25), (1, .ref 1), (0, .ref 0)], [.int 1], g9_0 (pg xs) 4 b c d, 599950, 7298497)) rfl ?_
        exact pm_ret rfl rfl
      have q20 := qF_ne (cx := b.toInt) (cy := 10) rfl (by decide) q20
      obtain rfl : b = 10 := xI (c := 10) (by decide) (by omega)
      show pm_WP 111 (92, [(0, .ref 1), (1, .int 4), (2, .int 10)], [], g9_0 (pg xs) 4 10 c d, 0, 0) _
      refine pm_go (g := (93, [(0, .ref 1), (1, .int 4), (2, .int 10)], [.int 1], g9_0 (pg xs) 4 10 c d, 0, 0)) rfl ?_
      refine pm_go (g := (97, [(0, .ref 1), (1, .int 4), (2, .int 10)], [.int 1], g9_0 (pg xs) 4 10 c d, 0, 0)) rfl ?_
      refine pm_ret rfl ?_
      show pm_WP 104 (6, [(0, .ref 1), (1, .int 4), (2, .int 10), (3, .int (c))], [.int 1], g9_0 (pg xs) 4 10 c d, 1, 3) _
      refine pm_brF (h := (9, [(0, .ref 1), (1, .int 4), (2, .int 10), (3, .int (c))], [], g9_0 (pg xs) 4 10 c d, 1, 3)) rfl ?_
      refine pm_go (g := (10, [(0, .ref 1), (1, .int 4), (2, .int 10), (3, .int (c))], [.int 4], g9_0 (pg xs) 4 10 c d, 1, 3)) rfl ?_
      refine pm_go (g := (11, [(0, .ref 1), (1, .int 4), (2, .int 10), (3, .int (c))], [.int 2, .int 4], g9_0 (pg xs) 4 10 c d, 1, 3)) rfl ?_
      refine pm_brT (g := (26, [(0, .ref 1), (1, .int 4), (2, .int 10), (3, .int (c))], [], g9_0 (pg xs) 4 10 c d, 1, 3)) rfl ?_
      refine pm_go (g := (27, [(0, .ref 1), (1, .int 4), (2, .int 10), (3, .int (c))], [.ref 1], g9_0 (pg xs) 4 10 c d, 1, 3)) rfl ?_
      refine pm_go (g := (30, [(0, .ref 1), (1, .int 4), (2, .int 10), (3, .int (c))], [.int 0], g9_0 (pg xs) 4 10 c d, 1, 3)) rfl ?_
      refine pm_go (g := (32, [(0, .ref 1), (1, .int 4), (2, .int 10), (3, .int (c))], [.int 30, .int 0], g9_0 (pg xs) 4 10 c d, 1, 3)) rfl ?_
      refine pm_brT (g := (38, [(0, .ref 1), (1, .int 4), (2, .int 10), (3, .int (c))], [], g9_0 (pg xs) 4 10 c d, 1, 3)) rfl ?_
      refine pm_go (g := (39, [(0, .ref 1), (1, .int 4), (2, .int 10), (3, .int (c))], [.ref 1], g9_0 (pg xs) 4 10 c d, 1, 3)) rfl ?_
      refine pm_go (g := (42, [(0, .ref 1), (1, .int 4), (2, .int 10), (3, .int (c))], [.ref 22], g9_0 (pg xs) 4 10 c d, 1, 3)) rfl ?_
      refine pm_go (g := (43, [(0, .ref 1), (1, .int 4), (2, .int 10), (3, .int (c))], [.ref 1, .ref 22], g9_0 (pg xs) 4 10 c d, 1, 3)) rfl ?_
      refine pm_go (g := (46, [(0, .ref 1), (1, .int 4), (2, .int 10), (3, .int (c))], [.int 0, .ref 22], g9_0 (pg xs) 4 10 c d, 1, 3)) rfl ?_
      refine pm_go (g := (49, [(0, .ref 1), (1, .int 4), (2, .int 10), (3, .int (c))], [.ref 50, .int 0, .ref 22], g9_1 (pg xs) 4 10 c d, 0, 0)) rfl ?_
      refine pm_go (g := (50, [(0, .ref 1), (1, .int 4), (2, .int 10), (3, .int (c))], [.ref 50, .ref 50, .int 0, .ref 22], g9_1 (pg xs) 4 10 c d, 0, 0)) rfl ?_
      refine pm_go (g := (51, [(0, .ref 1), (1, .int 4), (2, .int 10), (3, .int (c))], [.int 4, .ref 50, .ref 50, .int 0, .ref 22], g9_1 (pg xs) 4 10 c d, 0, 0)) rfl ?_
      refine pm_go (g := (52, [(0, .ref 1), (1, .int 4), (2, .int 10), (3, .int (c))], [.int 10, .int 4, .ref 50, .ref 50, .int 0, .ref 22], g9_1 (pg xs) 4 10 c d, 0, 0)) rfl ?_
      refine pm_go (g := (53, [(0, .ref 1), (1, .int 4), (2, .int 10), (3, .int (c))], [.int 4, .int 10, .int 4, .ref 50, .ref 50, .int 0, .ref 22], g9_1 (pg xs) 4 10 c d, 0, 0)) rfl ?_
      refine pm_go (g := (54, [(0, .ref 1), (1, .int 4), (2, .int 10), (3, .int (c))], [.int 3, .int 4, .int 10, .int 4, .ref 50, .ref 50, .int 0, .ref 22], g9_1 (pg xs) 4 10 c d, 0, 0)) rfl ?_
      refine pm_brT (g := (62, [(0, .ref 1), (1, .int 4), (2, .int 10), (3, .int (c))], [.int 10, .int 4, .ref 50, .ref 50, .int 0, .ref 22], g9_1 (pg xs) 4 10 c d, 0, 0)) rfl ?_
      refine pm_go (g := (63, [(0, .ref 1), (1, .int 4), (2, .int 10), (3, .int (c))], [.int (c), .int 10, .int 4, .ref 50, .ref 50, .int 0, .ref 22], g9_1 (pg xs) 4 10 c d, 0, 0)) rfl ?_
      refine pm_callD (z := 51) (as := [.ref 50, .int 4, .int 10, .int (c)]) (rest := [.ref 50, .int 0, .ref 22]) rfl ?_
      show pm_WP 51 (0, [(0, .ref 50), (1, .int 4), (2, .int 10), (3, .int (c))], [], g9_1 (pg xs) 4 10 c d, 0, 0) _
      refine pm_go (g := (1, [(0, .ref 50), (1, .int 4), (2, .int 10), (3, .int (c))], [.ref 50], g9_1 (pg xs) 4 10 c d, 0, 0)) rfl ?_
      refine pm_go (g := (4, [(0, .ref 50), (1, .int 4), (2, .int 10), (3, .int (c))], [], g9_1 (pg xs) 4 10 c d, 0, 0)) rfl ?_
      refine pm_go (g := (5, [(0, .ref 50), (1, .int 4), (2, .int 10), (3, .int (c))], [.ref 50], g9_1 (pg xs) 4 10 c d, 0, 0)) rfl ?_
      refine pm_go (g := (6, [(0, .ref 50), (1, .int 4), (2, .int 10), (3, .int (c))], [.int 4, .ref 50], g9_1 (pg xs) 4 10 c d, 0, 0)) rfl ?_
      refine pm_go (g := (9, [(0, .ref 50), (1, .int 4), (2, .int 10), (3, .int (c))], [], g9_36 (pg xs) 4 10 c d, 0, 0)) rfl ?_
      refine pm_go (g := (10, [(0, .ref 50), (1, .int 4), (2, .int 10), (3, .int (c))], [.ref 50], g9_36 (pg xs) 4 10 c d, 0, 0)) rfl ?_
      refine pm_go (g := (11, [(0, .ref 50), (1, .int 4), (2, .int 10), (3, .int (c))], [.int 10, .ref 50], g9_36 (pg xs) 4 10 c d, 0, 0)) rfl ?_
      refine pm_go (g := (14, [(0, .ref 50), (1, .int 4), (2, .int 10), (3, .int (c))], [], g9_37 (pg xs) 4 10 c d, 0, 0)) rfl ?_
      refine pm_go (g := (15, [(0, .ref 50), (1, .int 4), (2, .int 10), (3, .int (c))], [.ref 50], g9_37 (pg xs) 4 10 c d, 0, 0)) rfl ?_
      refine pm_go (g := (16, [(0, .ref 50), (1, .int 4), (2, .int 10), (3, .int (c))], [.int (c), .ref 50], g9_37 (pg xs) 4 10 c d, 0, 0)) rfl ?_
      refine pm_go (g := (19, [(0, .ref 50), (1, .int 4), (2, .int 10), (3, .int (c))], [], g9_38 (pg xs) 4 10 c d, 0, 0)) rfl ?_
      refine pm_ret rfl ?_
      show pm_WP 104 (66, [(0, .ref 1), (1, .int 4), (2, .int 10), (3, .int (c))], [.ref 50, .int 0, .ref 22], g9_38 (pg xs) 4 10 c d, 0, 0) _
      refine pm_go (g := (67, [(0, .ref 1), (1, .int 4), (2, .int 10), (3, .int (c))], [], g9_39 (pg xs) 4 10 c d, 0, 0)) rfl ?_
      refine pm_go (g := (68, [(0, .ref 1), (1, .int 4), (2, .int 10), (3, .int (c))], [.ref 1], g9_39 (pg xs) 4 10 c d, 0, 0)) rfl ?_
      refine pm_go (g := (69, [(0, .ref 1), (1, .int 4), (2, .int 10), (3, .int (c))], [.ref 1, .ref 1], g9_39 (pg xs) 4 10 c d, 0, 0)) rfl ?_
      refine pm_go (g := (72, [(0, .ref 1), (1, .int 4), (2, .int 10), (3, .int (c))], [.int 0, .ref 1], g9_39 (pg xs) 4 10 c d, 0, 0)) rfl ?_
      refine pm_go (g := (73, [(0, .ref 1), (1, .int 4), (2, .int 10), (3, .int (c))], [.int 1, .int 0, .ref 1], g9_39 (pg xs) 4 10 c d, 0, 0)) rfl ?_
      refine pm_go (g := (74, [(0, .ref 1), (1, .int 4), (2, .int 10), (3, .int (c))], [.int 1, .ref 1], g9_39 (pg xs) 4 10 c d, 0, 0)) rfl ?_
      refine pm_go (g := (77, [(0, .ref 1), (1, .int 4), (2, .int 10), (3, .int (c))], [], g9_40 (pg xs) 4 10 c d, 0, 0)) rfl ?_
      refine pm_go (g := (78, [(0, .ref 1), (1, .int 4), (2, .int 10), (3, .int (c))], [.ref 1], g9_40 (pg xs) 4 10 c d, 0, 0)) rfl ?_
      refine pm_go (g := (81, [(0, .ref 1), (1, .int 4), (2, .int 10), (3, .int (c))], [.int 1], g9_40 (pg xs) 4 10 c d, 0, 0)) rfl ?_
      refine pm_go (g := (82, [(0, .ref 1), (1, .int 4), (2, .int 10), (3, .int (c))], [.int 1, .int 1], g9_40 (pg xs) 4 10 c d, 0, 0)) rfl ?_
      refine pm_go (g := (83, [(0, .ref 1), (1, .int 4), (2, .int 10), (3, .int (c))], [.int 0], g9_40 (pg xs) 4 10 c d, 0, 0)) rfl ?_
      refine pm_ret rfl ?_
      show pm_WP 0 (424, [(3, .int 0), (2, .ref 25), (1, .ref 1), (0, .ref 0)], [.int 0], g9_40 (pg xs) 4 10 c d, 599950, 7298497) _
      refine pm_go (g := (425, [(3, .int 0), (2, .ref 25), (1, .ref 1), (0, .ref 0)], [.ref 25, .int 0], g9_40 (pg xs) 4 10 c d, 599950, 7298497)) rfl ?_
      refine pm_go (g := (426, [(3, .int 0), (2, .ref 25), (1, .ref 1), (0, .ref 0)], [.ref 0, .ref 25, .int 0], g9_40 (pg xs) 4 10 c d, 599950, 7298497)) rfl ?_
      refine pm_go (g := (427, [(3, .int 0), (2, .ref 25), (1, .ref 1), (0, .ref 0)], [.int 0, .ref 0, .ref 25, .int 0], g9_40 (pg xs) 4 10 c d, 599950, 7298497)) rfl ?_
      refine pm_go (g := (428, [(3, .int 0), (2, .ref 25), (1, .ref 1), (0, .ref 0)], [.int 1, .int 0, .ref 0, .ref 25, .int 0], g9_40 (pg xs) 4 10 c d, 599950, 7298497)) rfl ?_
      refine pm_go (g := (429, [(3, .int 0), (2, .ref 25), (1, .ref 1), (0, .ref 0)], [.int 1, .ref 0, .ref 25, .int 0], g9_40 (pg xs) 4 10 c d, 599950, 7298497)) rfl ?_
      refine pm_go (g := (430, [(3, .int 0), (2, .ref 25), (1, .ref 1), (0, .ref 0)], [.int (xs 1), .ref 25, .int 0], g9_40 (pg xs) 4 10 c d, 599950, 7298497)) rfl ?_
      rw [← ea]
      refine pm_go (g := (431, [(3, .int 0), (2, .ref 25), (1, .ref 1), (0, .ref 0)], [.ref 0, .int 4, .ref 25, .int 0], g9_40 (pg xs) 4 10 c d, 599950, 7298497)) rfl ?_
      refine pm_go (g := (432, [(3, .int 0), (2, .ref 25), (1, .ref 1), (0, .ref 0)], [.int 0, .ref 0, .int 4, .ref 25, .int 0], g9_40 (pg xs) 4 10 c d, 599950, 7298497)) rfl ?_
      refine pm_go (g := (433, [(3, .int 0), (2, .ref 25), (1, .ref 1), (0, .ref 0)], [.int 2, .int 0, .ref 0, .int 4, .ref 25, .int 0], g9_40 (pg xs) 4 10 c d, 599950, 7298497)) rfl ?_
      refine pm_go (g := (434, [(3, .int 0), (2, .ref 25), (1, .ref 1), (0, .ref 0)], [.int 2, .ref 0, .int 4, .ref 25, .int 0], g9_40 (pg xs) 4 10 c d, 599950, 7298497)) rfl ?_
      refine pm_go (g := (435, [(3, .int 0), (2, .ref 25), (1, .ref 1), (0, .ref 0)], [.int (xs 2), .int 4, .ref 25, .int 0], g9_40 (pg xs) 4 10 c d, 599950, 7298497)) rfl ?_
      rw [← eb]
      refine pm_go (g := (436, [(3, .int 0), (2, .ref 25), (1, .ref 1), (0, .ref 0)], [.ref 0, .int 10, .int 4, .ref 25, .int 0], g9_40 (pg xs) 4 10 c d, 599950, 7298497)) rfl ?_
      refine pm_go (g := (437, [(3, .int 0), (2, .ref 25), (1, .ref 1), (0, .ref 0)], [.int 0, .ref 0, .int 10, .int 4, .ref 25, .int 0], g9_40 (pg xs) 4 10 c d, 599950, 7298497)) rfl ?_
      refine pm_go (g := (438, [(3, .int 0), (2, .ref 25), (1, .ref 1), (0, .ref 0)], [.int 3, .int 0, .ref 0, .int 10, .int 4, .ref 25, .int 0], g9_40 (pg xs) 4 10 c d, 599950, 7298497)) rfl ?_
      refine pm_go (g := (439, [(3, .int 0), (2, .ref 25), (1, .ref 1), (0, .ref 0)], [.int 3, .ref 0, .int 10, .int 4, .ref 25, .int 0], g9_40 (pg xs) 4 10 c d, 599950, 7298497)) rfl ?_
      refine pm_go (g := (440, [(3, .int 0), (2, .ref 25), (1, .ref 1), (0, .ref 0)], [.int (xs 3), .int 10, .int 4, .ref 25, .int 0], g9_40 (pg xs) 4 10 c d, 599950, 7298497)) rfl ?_
      rw [← ec]
      refine pm_callD (z := 163) (as := [.ref 25, .int 4, .int 10, .int (c)]) (rest := [.int 0]) rfl ?_
      show pm_WP 163 (0, [(0, .ref 25), (1, .int 4), (2, .int 10), (3, .int (c))], [], g9_40 (pg xs) 4 10 c d, 0, 0) _
      refine pm_go (g := (1, [(0, .ref 25), (1, .int 4), (2, .int 10), (3, .int (c))], [.int 4], g9_40 (pg xs) 4 10 c d, 0, 0)) rfl ?_
      refine pm_go (g := (2, [(0, .ref 25), (1, .int 4), (2, .int 10), (3, .int (c))], [.int 0, .int 4], g9_40 (pg xs) 4 10 c d, 0, 0)) rfl ?_
      refine pm_go (g := (3, [(0, .ref 25), (1, .int 4), (2, .int 10), (3, .int (c))], [.int 4, .int 0, .int 4], g9_40 (pg xs) 4 10 c d, 0, 0)) rfl ?_
      refine pm_callD (z := 128) (as := [.int 4, .int 0, .int 4]) (rest := []) rfl ?_
      show pm_WP 128 (0, [(0, .int 4), (1, .int 0), (2, .int 4)], [], g9_40 (pg xs) 4 10 c d, 0, 0) _
      refine pm_go (g := (1, [(0, .int 4), (1, .int 0), (2, .int 4)], [.int 4], g9_40 (pg xs) 4 10 c d, 0, 0)) rfl ?_
      refine pm_go (g := (2, [(0, .int 4), (1, .int 0), (2, .int 4)], [.int 0, .int 4], g9_40 (pg xs) 4 10 c d, 0, 0)) rfl ?_
      refine pm_brF (h := (5, [(0, .int 4), (1, .int 0), (2, .int 4)], [], g9_40 (pg xs) 4 10 c d, 0, 0)) rfl ?_
      refine pm_go (g := (6, [(0, .int 4), (1, .int 0), (2, .int 4)], [.int 4], g9_40 (pg xs) 4 10 c d, 0, 0)) rfl ?_
      refine pm_go (g := (7, [(0, .int 4), (1, .int 0), (2, .int 4)], [.int 4, .int 4], g9_40 (pg xs) 4 10 c d, 0, 0)) rfl ?_
      refine pm_brF (h := (10, [(0, .int 4), (1, .int 0), (2, .int 4)], [], g9_40 (pg xs) 4 10 c d, 0, 0)) rfl ?_
      refine pm_go (g := (11, [(0, .int 4), (1, .int 0), (2, .int 4)], [.int 1], g9_40 (pg xs) 4 10 c d, 0, 0)) rfl ?_
      refine pm_go (g := (15, [(0, .int 4), (1, .int 0), (2, .int 4)], [.int 1], g9_40 (pg xs) 4 10 c d, 0, 0)) rfl ?_
      refine pm_ret rfl ?_
      show pm_WP 163 (6, [(0, .ref 25), (1, .int 4), (2, .int 10), (3, .int (c))], [.int 1], g9_40 (pg xs) 4 10 c d, 0, 0) _
      refine pm_brT (g := (11, [(0, .ref 25), (1, .int 4), (2, .int 10), (3, .int (c))], [], g9_40 (pg xs) 4 10 c d, 0, 0)) rfl ?_
      refine pm_go (g := (12, [(0, .ref 25), (1, .int 4), (2, .int 10), (3, .int (c))], [.int 4], g9_40 (pg xs) 4 10 c d, 0, 0)) rfl ?_
      refine pm_go (g := (13, [(0, .ref 25), (1, .int 4), (2, .int 10), (3, .int (c))], [.int 2, .int 4], g9_40 (pg xs) 4 10 c d, 0, 0)) rfl ?_
      refine pm_brT (g := (24, [(0, .ref 25), (1, .int 4), (2, .int 10), (3, .int (c))], [], g9_40 (pg xs) 4 10 c d, 0, 0)) rfl ?_
      refine pm_go (g := (25, [(0, .ref 25), (1, .int 4), (2, .int 10), (3, .int (c))], [.int 4], g9_40 (pg xs) 4 10 c d, 0, 0)) rfl ?_
      refine pm_go (g := (26, [(0, .ref 25), (1, .int 4), (2, .int 10), (3, .int (c))], [.int 2, .int 4], g9_40 (pg xs) 4 10 c d, 0, 0)) rfl ?_
      refine pm_brT (g := (49, [(0, .ref 25), (1, .int 4), (2, .int 10), (3, .int (c))], [], g9_40 (pg xs) 4 10 c d, 0, 0)) rfl ?_
      refine pm_go (g := (50, [(0, .ref 25), (1, .int 4), (2, .int 10), (3, .int (c))], [.int 4], g9_40 (pg xs) 4 10 c d, 0, 0)) rfl ?_
      refine pm_go (g := (51, [(0, .ref 25), (1, .int 4), (2, .int 10), (3, .int (c))], [.int 3, .int 4], g9_40 (pg xs) 4 10 c d, 0, 0)) rfl ?_
      refine pm_brT (g := (62, [(0, .ref 25), (1, .int 4), (2, .int 10), (3, .int (c))], [], g9_40 (pg xs) 4 10 c d, 0, 0)) rfl ?_
      refine pm_go (g := (63, [(0, .ref 25), (1, .int 4), (2, .int 10), (3, .int (c))], [.ref 25], g9_40 (pg xs) 4 10 c d, 0, 0)) rfl ?_
      refine pm_go (g := (64, [(0, .ref 25), (1, .int 4), (2, .int 10), (3, .int (c))], [.int 10, .ref 25], g9_40 (pg xs) 4 10 c d, 0, 0)) rfl ?_
      refine pm_callD (z := 129) (as := [.ref 25, .int 10]) (rest := []) rfl ?_
      show pm_WP 129 (0, [(0, .ref 25), (1, .int 10)], [], g9_40 (pg xs) 4 10 c d, 0, 0) _
      refine pm_go (g := (1, [(0, .ref 25), (1, .int 10)], [.int 10], g9_40 (pg xs) 4 10 c d, 0, 0)) rfl ?_
      refine pm_go (g := (2, [(0, .ref 25), (1, .int 10)], [.int 0, .int 10], g9_40 (pg xs) 4 10 c d, 0, 0)) rfl ?_
      refine pm_go (g := (3, [(0, .ref 25), (1, .int 10)], [.ref 25, .int 0, .int 10], g9_40 (pg xs) 4 10 c d, 0, 0)) rfl ?_
      refine pm_go (g := (6, [(0, .ref 25), (1, .int 10)], [.int 2, .int 0, .int 10], g9_40 (pg xs) 4 10 c d, 0, 0)) rfl ?_
      refine pm_go (g := (7, [(0, .ref 25), (1, .int 10)], [.int 1, .int 2, .int 0, .int 10], g9_40 (pg xs) 4 10 c d, 0, 0)) rfl ?_
      refine pm_go (g := (8, [(0, .ref 25), (1, .int 10)], [.int 1, .int 0, .int 10], g9_40 (pg xs) 4 10 c d, 0, 0)) rfl ?_
      refine pm_callD (z := 128) (as := [.int 10, .int 0, .int 1]) (rest := []) rfl ?_
      show pm_WP 128 (0, [(0, .int 10), (1, .int 0), (2, .int 1)], [], g9_40 (pg xs) 4 10 c d, 0, 0) _
      refine pm_go (g := (1, [(0, .int 10), (1, .int 0), (2, .int 1)], [.int 10], g9_40 (pg xs) 4 10 c d, 0, 0)) rfl ?_
      refine pm_go (g := (2, [(0, .int 10), (1, .int 0), (2, .int 1)], [.int 0, .int 10], g9_40 (pg xs) 4 10 c d, 0, 0)) rfl ?_
      refine pm_brF (h := (5, [(0, .int 10), (1, .int 0), (2, .int 1)], [], g9_40 (pg xs) 4 10 c d, 0, 0)) rfl ?_
      refine pm_go (g := (6, [(0, .int 10), (1, .int 0), (2, .int 1)], [.int 10], g9_40 (pg xs) 4 10 c d, 0, 0)) rfl ?_
      refine pm_go (g := (7, [(0, .int 10), (1, .int 0), (2, .int 1)], [.int 1, .int 10], g9_40 (pg xs) 4 10 c d, 0, 0)) rfl ?_
      refine pm_brT (g := (14, [(0, .int 10), (1, .int 0), (2, .int 1)], [], g9_40 (pg xs) 4 10 c d, 0, 0)) rfl ?_
      refine pm_go (g := (15, [(0, .int 10), (1, .int 0), (2, .int 1)], [.int 0], g9_40 (pg xs) 4 10 c d, 0, 0)) rfl ?_
      refine pm_ret rfl ?_
      show pm_WP 129 (11, [(0, .ref 25), (1, .int 10)], [.int 0], g9_40 (pg xs) 4 10 c d, 0, 0) _
      refine pm_ret rfl ?_
      show pm_WP 163 (67, [(0, .ref 25), (1, .int 4), (2, .int 10), (3, .int (c))], [.int 0], g9_40 (pg xs) 4 10 c d, 0, 0) _
      refine pm_brF (h := (70, [(0, .ref 25), (1, .int 4), (2, .int 10), (3, .int (c))], [], g9_40 (pg xs) 4 10 c d, 0, 0)) rfl ?_
      refine pm_go (g := (71, [(0, .ref 25), (1, .int 4), (2, .int 10), (3, .int (c))], [.int 10], g9_40 (pg xs) 4 10 c d, 0, 0)) rfl ?_
      refine pm_go (g := (73, [(0, .ref 25), (1, .int 4), (2, .int 10), (3, .int (c))], [.int 10, .int 10], g9_40 (pg xs) 4 10 c d, 0, 0)) rfl ?_
      refine pm_brF (h := (76, [(0, .ref 25), (1, .int 4), (2, .int 10), (3, .int (c))], [], g9_40 (pg xs) 4 10 c d, 0, 0)) rfl ?_
      refine pm_go (g := (77, [(0, .ref 25), (1, .int 4), (2, .int 10), (3, .int (c))], [.int 1], g9_40 (pg xs) 4 10 c d, 0, 0)) rfl ?_
      refine pm_go (g := (81, [(0, .ref 25), (1, .int 4), (2, .int 10), (3, .int (c))], [.int 1], g9_40 (pg xs) 4 10 c d, 0, 0)) rfl ?_
      refine pm_go (g := (83, [(4, .int 1), (0, .ref 25), (1, .int 4), (2, .int 10), (3, .int (c))], [], g9_40 (pg xs) 4 10 c d, 0, 0)) rfl ?_
      refine pm_go (g := (85, [(4, .int 1), (0, .ref 25), (1, .int 4), (2, .int 10), (3, .int (c))], [.int 1], g9_40 (pg xs) 4 10 c d, 0, 0)) rfl ?_
      refine pm_brF (h := (88, [(4, .int 1), (0, .ref 25), (1, .int 4), (2, .int 10), (3, .int (c))], [], g9_40 (pg xs) 4 10 c d, 0, 0)) rfl ?_
      refine pm_go (g := (89, [(4, .int 1), (0, .ref 25), (1, .int 4), (2, .int 10), (3, .int (c))], [.int 4], g9_40 (pg xs) 4 10 c d, 0, 0)) rfl ?_
      refine pm_go (g := (90, [(4, .int 1), (0, .ref 25), (1, .int 4), (2, .int 10), (3, .int (c))], [.int 3, .int 4], g9_40 (pg xs) 4 10 c d, 0, 0)) rfl ?_
      refine pm_brT (g := (104, [(4, .int 1), (0, .ref 25), (1, .int 4), (2, .int 10), (3, .int (c))], [], g9_40 (pg xs) 4 10 c d, 0, 0)) rfl ?_
      refine pm_go (g := (105, [(4, .int 1), (0, .ref 25), (1, .int 4), (2, .int 10), (3, .int (c))], [.ref 25], g9_40 (pg xs) 4 10 c d, 0, 0)) rfl ?_
      refine pm_go (g := (108, [(4, .int 1), (0, .ref 25), (1, .int 4), (2, .int 10), (3, .int (c))], [.int 0], g9_40 (pg xs) 4 10 c d, 0, 0)) rfl ?_
      refine pm_go (g := (110, [(4, .int 1), (0, .ref 25), (1, .int 4), (2, .int 10), (3, .int (c))], [.int 30, .int 0], g9_40 (pg xs) 4 10 c d, 0, 0)) rfl ?_
      refine pm_brT (g := (116, [(4, .int 1), (0, .ref 25), (1, .int 4), (2, .int 10), (3, .int (c))], [], g9_40 (pg xs) 4 10 c d, 0, 0)) rfl ?_
      refine pm_go (g := (117, [(4, .int 1), (0, .ref 25), (1, .int 4), (2, .int 10), (3, .int (c))], [.ref 25], g9_40 (pg xs) 4 10 c d, 0, 0)) rfl ?_
      refine pm_go (g := (120, [(4, .int 1), (0, .ref 25), (1, .int 4), (2, .int 10), (3, .int (c))], [.ref 37], g9_40 (pg xs) 4 10 c d, 0, 0)) rfl ?_
      refine pm_go (g := (121, [(4, .int 1), (0, .ref 25), (1, .int 4), (2, .int 10), (3, .int (c))], [.ref 25, .ref 37], g9_40 (pg xs) 4 10 c d, 0, 0)) rfl ?_
      refine pm_go (g := (124, [(4, .int 1), (0, .ref 25), (1, .int 4), (2, .int 10), (3, .int (c))], [.int 0, .ref 37], g9_40 (pg xs) 4 10 c d, 0, 0)) rfl ?_
      refine pm_go (g := (125, [(4, .int 1), (0, .ref 25), (1, .int 4), (2, .int 10), (3, .int (c))], [.int 4, .int 0, .ref 37], g9_40 (pg xs) 4 10 c d, 0, 0)) rfl ?_
      refine pm_go (g := (126, [(4, .int 1), (0, .ref 25), (1, .int 4), (2, .int 10), (3, .int (c))], [], g9_41 (pg xs) 4 10 c d, 0, 0)) rfl ?_
      refine pm_go (g := (127, [(4, .int 1), (0, .ref 25), (1, .int 4), (2, .int 10), (3, .int (c))], [.ref 25], g9_41 (pg xs) 4 10 c d, 0, 0)) rfl ?_
      refine pm_go (g := (130, [(4, .int 1), (0, .ref 25), (1, .int 4), (2, .int 10), (3, .int (c))], [.ref 38], g9_41 (pg xs) 4 10 c d, 0, 0)) rfl ?_
      refine pm_go (g := (131, [(4, .int 1), (0, .ref 25), (1, .int 4), (2, .int 10), (3, .int (c))], [.ref 25, .ref 38], g9_41 (pg xs) 4 10 c d, 0, 0)) rfl ?_
      refine pm_go (g := (134, [(4, .int 1), (0, .ref 25), (1, .int 4), (2, .int 10), (3, .int (c))], [.int 0, .ref 38], g9_41 (pg xs) 4 10 c d, 0, 0)) rfl ?_
      refine pm_go (g := (135, [(4, .int 1), (0, .ref 25), (1, .int 4), (2, .int 10), (3, .int (c))], [.int 10, .int 0, .ref 38], g9_41 (pg xs) 4 10 c d, 0, 0)) rfl ?_
      refine pm_go (g := (136, [(4, .int 1), (0, .ref 25), (1, .int 4), (2, .int 10), (3, .int (c))], [], g9_42 (pg xs) 4 10 c d, 0, 0)) rfl ?_
      refine pm_go (g := (137, [(4, .int 1), (0, .ref 25), (1, .int 4), (2, .int 10), (3, .int (c))], [.ref 25], g9_42 (pg xs) 4 10 c d, 0, 0)) rfl ?_
      refine pm_go (g := (140, [(4, .int 1), (0, .ref 25), (1, .int 4), (2, .int 10), (3, .int (c))], [.ref 39], g9_42 (pg xs) 4 10 c d, 0, 0)) rfl ?_
      refine pm_go (g := (141, [(4, .int 1), (0, .ref 25), (1, .int 4), (2, .int 10), (3, .int (c))], [.ref 25, .ref 39], g9_42 (pg xs) 4 10 c d, 0, 0)) rfl ?_
      refine pm_go (g := (144, [(4, .int 1), (0, .ref 25), (1, .int 4), (2, .int 10), (3, .int (c))], [.int 0, .ref 39], g9_42 (pg xs) 4 10 c d, 0, 0)) rfl ?_
      refine pm_go (g := (145, [(4, .int 1), (0, .ref 25), (1, .int 4), (2, .int 10), (3, .int (c))], [.int (c), .int 0, .ref 39], g9_42 (pg xs) 4 10 c d, 0, 0)) rfl ?_
      refine pm_go (g := (146, [(4, .int 1), (0, .ref 25), (1, .int 4), (2, .int 10), (3, .int (c))], [], g9_43 (pg xs) 4 10 c d, 0, 0)) rfl ?_
      refine pm_go (g := (147, [(4, .int 1), (0, .ref 25), (1, .int 4), (2, .int 10), (3, .int (c))], [.ref 25], g9_43 (pg xs) 4 10 c d, 0, 0)) rfl ?_
      refine pm_go (g := (148, [(4, .int 1), (0, .ref 25), (1, .int 4), (2, .int 10), (3, .int (c))], [.ref 25, .ref 25], g9_43 (pg xs) 4 10 c d, 0, 0)) rfl ?_
      refine pm_go (g := (151, [(4, .int 1), (0, .ref 25), (1, .int 4), (2, .int 10), (3, .int (c))], [.int 0, .ref 25], g9_43 (pg xs) 4 10 c d, 0, 0)) rfl ?_
      refine pm_go (g := (152, [(4, .int 1), (0, .ref 25), (1, .int 4), (2, .int 10), (3, .int (c))], [.int 1, .int 0, .ref 25], g9_43 (pg xs) 4 10 c d, 0, 0)) rfl ?_
      refine pm_go (g := (153, [(4, .int 1), (0, .ref 25), (1, .int 4), (2, .int 10), (3, .int (c))], [.int 1, .ref 25], g9_43 (pg xs) 4 10 c d, 0, 0)) rfl ?_
      refine pm_go (g := (156, [(4, .int 1), (0, .ref 25), (1, .int 4), (2, .int 10), (3, .int (c))], [], g9_44 (pg xs) 4 10 c d, 0, 0)) rfl ?_
      refine pm_go (g := (157, [(4, .int 1), (0, .ref 25), (1, .int 4), (2, .int 10), (3, .int (c))], [.ref 25], g9_44 (pg xs) 4 10 c d, 0, 0)) rfl ?_
      refine pm_go (g := (160, [(4, .int 1), (0, .ref 25), (1, .int 4), (2, .int 10), (3, .int (c))], [.int 1], g9_44 (pg xs) 4 10 c d, 0, 0)) rfl ?_
      refine pm_go (g := (161, [(4, .int 1), (0, .ref 25), (1, .int 4), (2, .int 10), (3, .int (c))], [.int 1, .int 1], g9_44 (pg xs) 4 10 c d, 0, 0)) rfl ?_
      refine pm_go (g := (162, [(4, .int 1), (0, .ref 25), (1, .int 4), (2, .int 10), (3, .int (c))], [.int 0], g9_44 (pg xs) 4 10 c d, 0, 0)) rfl ?_
      refine pm_ret rfl ?_
      show pm_WP 0 (443, [(3, .int 0), (2, .ref 25), (1, .ref 1), (0, .ref 0)], [.int 0, .int 0], g9_44 (pg xs) 4 10 c d, 599950, 7298497) _
      refine pm_brT (g := (873, [(3, .int 0), (2, .ref 25), (1, .ref 1), (0, .ref 0)], [], g9_44 (pg xs) 4 10 c d, 599950, 7298497)) rfl ?_
      refine pm_go (g := (876, [(3, .int 5), (2, .ref 25), (1, .ref 1), (0, .ref 0)], [], g9_44 (pg xs) 4 10 c d, 599950, 7298497)) rfl ?_
      refine pm_go (g := (18, [(3, .int 5), (2, .ref 25), (1, .ref 1), (0, .ref 0)], [], g9_44 (pg xs) 4 10 c d, 599950, 7298497)) rfl ?_
      refine pm_go (g := (19, [(3, .int 5), (2, .ref 25), (1, .ref 1), (0, .ref 0)], [.int 5], g9_44 (pg xs) 4 10 c d, 599950, 7298497)) rfl ?_
      refine pm_go (g := (20, [(3, .int 5), (2, .ref 25), (1, .ref 1), (0, .ref 0)], [.ref 0, .int 5], g9_44 (pg xs) 4 10 c d, 599950, 7298497)) rfl ?_
      refine pm_go (g := (21, [(3, .int 5), (2, .ref 25), (1, .ref 1), (0, .ref 0)], [.int 5, .int 5], g9_44 (pg xs) 4 10 c d, 599950, 7298497)) rfl ?_
      refine pm_go (g := (22, [(3, .int 5), (2, .ref 25), (1, .ref 1), (0, .ref 0)], [.int 5, .int 5, .int 5], g9_44 (pg xs) 4 10 c d, 599950, 7298497)) rfl ?_
      refine pm_go (g := (23, [(3, .int 5), (2, .ref 25), (1, .ref 1), (0, .ref 0)], [.int 0, .int 5], g9_44 (pg xs) 4 10 c d, 599950, 7298497)) rfl ?_
      refine pm_brT (g := (879, [(3, .int 5), (2, .ref 25), (1, .ref 1), (0, .ref 0)], [], g9_44 (pg xs) 4 10 c d, 599950, 7298497)) rfl ?_
      refine pm_go (g := (880, [(3, .int 5), (2, .ref 25), (1, .ref 1), (0, .ref 0)], [.int 1], g9_44 (pg xs) 4 10 c d, 599950, 7298497)) rfl ?_
      exact pm_ret rfl rfl
    have q19 := qF_ge (cx := b.toInt) (cy := 2) rfl (by decide) q19
    refine pm_go (g := (13, [(0, .ref 2), (1, .int (b))], [.int 1], g9_0 (pg xs) 4 b c d, 0, 0)) rfl ?_
    refine pm_go (g := (17, [(0, .ref 2), (1, .int (b))], [.int 1], g9_0 (pg xs) 4 b c d, 0, 0)) rfl ?_
    refine pm_ret rfl ?_
    show pm_WP 111 (83, [(0, .ref 1), (1, .int 4), (2, .int (b))], [.int 1], g9_0 (pg xs) 4 b c d, 0, 0) _
    refine pm_brT (g := (92, [(0, .ref 1), (1, .int 4), (2, .int (b))], [], g9_0 (pg xs) 4 b c d, 0, 0)) rfl ?_
    refine pm_go (g := (93, [(0, .ref 1), (1, .int 4), (2, .int (b))], [.int 1], g9_0 (pg xs) 4 b c d, 0, 0)) rfl ?_
    refine pm_go (g := (97, [(0, .ref 1), (1, .int 4), (2, .int (b))], [.int 1], g9_0 (pg xs) 4 b c d, 0, 0)) rfl ?_
    refine pm_ret rfl ?_
    show pm_WP 104 (6, [(0, .ref 1), (1, .int 4), (2, .int (b)), (3, .int (c))], [.int 1], g9_0 (pg xs) 4 b c d, 1, 3) _
    refine pm_brF (h := (9, [(0, .ref 1), (1, .int 4), (2, .int (b)), (3, .int (c))], [], g9_0 (pg xs) 4 b c d, 1, 3)) rfl ?_
    refine pm_go (g := (10, [(0, .ref 1), (1, .int 4), (2, .int (b)), (3, .int (c))], [.int 4], g9_0 (pg xs) 4 b c d, 1, 3)) rfl ?_
    refine pm_go (g := (11, [(0, .ref 1), (1, .int 4), (2, .int (b)), (3, .int (c))], [.int 2, .int 4], g9_0 (pg xs) 4 b c d, 1, 3)) rfl ?_
    refine pm_brT (g := (26, [(0, .ref 1), (1, .int 4), (2, .int (b)), (3, .int (c))], [], g9_0 (pg xs) 4 b c d, 1, 3)) rfl ?_
    refine pm_go (g := (27, [(0, .ref 1), (1, .int 4), (2, .int (b)), (3, .int (c))], [.ref 1], g9_0 (pg xs) 4 b c d, 1, 3)) rfl ?_
    refine pm_go (g := (30, [(0, .ref 1), (1, .int 4), (2, .int (b)), (3, .int (c))], [.int 0], g9_0 (pg xs) 4 b c d, 1, 3)) rfl ?_
    refine pm_go (g := (32, [(0, .ref 1), (1, .int 4), (2, .int (b)), (3, .int (c))], [.int 30, .int 0], g9_0 (pg xs) 4 b c d, 1, 3)) rfl ?_
    refine pm_brT (g := (38, [(0, .ref 1), (1, .int 4), (2, .int (b)), (3, .int (c))], [], g9_0 (pg xs) 4 b c d, 1, 3)) rfl ?_
    refine pm_go (g := (39, [(0, .ref 1), (1, .int 4), (2, .int (b)), (3, .int (c))], [.ref 1], g9_0 (pg xs) 4 b c d, 1, 3)) rfl ?_
    refine pm_go (g := (42, [(0, .ref 1), (1, .int 4), (2, .int (b)), (3, .int (c))], [.ref 22], g9_0 (pg xs) 4 b c d, 1, 3)) rfl ?_
    refine pm_go (g := (43, [(0, .ref 1), (1, .int 4), (2, .int (b)), (3, .int (c))], [.ref 1, .ref 22], g9_0 (pg xs) 4 b c d, 1, 3)) rfl ?_
    refine pm_go (g := (46, [(0, .ref 1), (1, .int 4), (2, .int (b)), (3, .int (c))], [.int 0, .ref 22], g9_0 (pg xs) 4 b c d, 1, 3)) rfl ?_
    refine pm_go (g := (49, [(0, .ref 1), (1, .int 4), (2, .int (b)), (3, .int (c))], [.ref 50, .int 0, .ref 22], g9_1 (pg xs) 4 b c d, 0, 0)) rfl ?_
    refine pm_go (g := (50, [(0, .ref 1), (1, .int 4), (2, .int (b)), (3, .int (c))], [.ref 50, .ref 50, .int 0, .ref 22], g9_1 (pg xs) 4 b c d, 0, 0)) rfl ?_
    refine pm_go (g := (51, [(0, .ref 1), (1, .int 4), (2, .int (b)), (3, .int (c))], [.int 4, .ref 50, .ref 50, .int 0, .ref 22], g9_1 (pg xs) 4 b c d, 0, 0)) rfl ?_
    refine pm_go (g := (52, [(0, .ref 1), (1, .int 4), (2, .int (b)), (3, .int (c))], [.int (b), .int 4, .ref 50, .ref 50, .int 0, .ref 22], g9_1 (pg xs) 4 b c d, 0, 0)) rfl ?_
    refine pm_go (g := (53, [(0, .ref 1), (1, .int 4), (2, .int (b)), (3, .int (c))], [.int 4, .int (b), .int 4, .ref 50, .ref 50, .int 0, .ref 22], g9_1 (pg xs) 4 b c d, 0, 0)) rfl ?_
    refine pm_go (g := (54, [(0, .ref 1), (1, .int 4), (2, .int (b)), (3, .int (c))], [.int 3, .int 4, .int (b), .int 4, .ref 50, .ref 50, .int 0, .ref 22], g9_1 (pg xs) 4 b c d, 0, 0)) rfl ?_
    refine pm_brT (g := (62, [(0, .ref 1), (1, .int 4), (2, .int (b)), (3, .int (c))], [.int (b), .int 4, .ref 50, .ref 50, .int 0, .ref 22], g9_1 (pg xs) 4 b c d, 0, 0)) rfl ?_
    refine pm_go (g := (63, [(0, .ref 1), (1, .int 4), (2, .int (b)), (3, .int (c))], [.int (c), .int (b), .int 4, .ref 50, .ref 50, .int 0, .ref 22], g9_1 (pg xs) 4 b c d, 0, 0)) rfl ?_
    refine pm_callD (z := 51) (as := [.ref 50, .int 4, .int (b), .int (c)]) (rest := [.ref 50, .int 0, .ref 22]) rfl ?_
    show pm_WP 51 (0, [(0, .ref 50), (1, .int 4), (2, .int (b)), (3, .int (c))], [], g9_1 (pg xs) 4 b c d, 0, 0) _
    refine pm_go (g := (1, [(0, .ref 50), (1, .int 4), (2, .int (b)), (3, .int (c))], [.ref 50], g9_1 (pg xs) 4 b c d, 0, 0)) rfl ?_
    refine pm_go (g := (4, [(0, .ref 50), (1, .int 4), (2, .int (b)), (3, .int (c))], [], g9_1 (pg xs) 4 b c d, 0, 0)) rfl ?_
    refine pm_go (g := (5, [(0, .ref 50), (1, .int 4), (2, .int (b)), (3, .int (c))], [.ref 50], g9_1 (pg xs) 4 b c d, 0, 0)) rfl ?_
    refine pm_go (g := (6, [(0, .ref 50), (1, .int 4), (2, .int (b)), (3, .int (c))], [.int 4, .ref 50], g9_1 (pg xs) 4 b c d, 0, 0)) rfl ?_
    refine pm_go (g := (9, [(0, .ref 50), (1, .int 4), (2, .int (b)), (3, .int (c))], [], g9_36 (pg xs) 4 b c d, 0, 0)) rfl ?_
    refine pm_go (g := (10, [(0, .ref 50), (1, .int 4), (2, .int (b)), (3, .int (c))], [.ref 50], g9_36 (pg xs) 4 b c d, 0, 0)) rfl ?_
    refine pm_go (g := (11, [(0, .ref 50), (1, .int 4), (2, .int (b)), (3, .int (c))], [.int (b), .ref 50], g9_36 (pg xs) 4 b c d, 0, 0)) rfl ?_
    refine pm_go (g := (14, [(0, .ref 50), (1, .int 4), (2, .int (b)), (3, .int (c))], [], g9_45 (pg xs) 4 b c d, 0, 0)) rfl ?_
    refine pm_go (g := (15, [(0, .ref 50), (1, .int 4), (2, .int (b)), (3, .int (c))], [.ref 50], g9_45 (pg xs) 4 b c d, 0, 0)) rfl ?_
    refine pm_go (g := (16, [(0, .ref 50), (1, .int 4), (2, .int (b)), (3, .int (c))], [.int (c), .ref 50], g9_45 (pg xs) 4 b c d, 0, 0)) rfl ?_
    refine pm_go (g := (19, [(0, .ref 50), (1, .int 4), (2, .int (b)), (3, .int (c))], [], g9_46 (pg xs) 4 b c d, 0, 0)) rfl ?_
    refine pm_ret rfl ?_
    show pm_WP 104 (66, [(0, .ref 1), (1, .int 4), (2, .int (b)), (3, .int (c))], [.ref 50, .int 0, .ref 22], g9_46 (pg xs) 4 b c d, 0, 0) _
    refine pm_go (g := (67, [(0, .ref 1), (1, .int 4), (2, .int (b)), (3, .int (c))], [], g9_47 (pg xs) 4 b c d, 0, 0)) rfl ?_
    refine pm_go (g := (68, [(0, .ref 1), (1, .int 4), (2, .int (b)), (3, .int (c))], [.ref 1], g9_47 (pg xs) 4 b c d, 0, 0)) rfl ?_
    refine pm_go (g := (69, [(0, .ref 1), (1, .int 4), (2, .int (b)), (3, .int (c))], [.ref 1, .ref 1], g9_47 (pg xs) 4 b c d, 0, 0)) rfl ?_
    refine pm_go (g := (72, [(0, .ref 1), (1, .int 4), (2, .int (b)), (3, .int (c))], [.int 0, .ref 1], g9_47 (pg xs) 4 b c d, 0, 0)) rfl ?_
    refine pm_go (g := (73, [(0, .ref 1), (1, .int 4), (2, .int (b)), (3, .int (c))], [.int 1, .int 0, .ref 1], g9_47 (pg xs) 4 b c d, 0, 0)) rfl ?_
    refine pm_go (g := (74, [(0, .ref 1), (1, .int 4), (2, .int (b)), (3, .int (c))], [.int 1, .ref 1], g9_47 (pg xs) 4 b c d, 0, 0)) rfl ?_
    refine pm_go (g := (77, [(0, .ref 1), (1, .int 4), (2, .int (b)), (3, .int (c))], [], g9_48 (pg xs) 4 b c d, 0, 0)) rfl ?_
    refine pm_go (g := (78, [(0, .ref 1), (1, .int 4), (2, .int (b)), (3, .int (c))], [.ref 1], g9_48 (pg xs) 4 b c d, 0, 0)) rfl ?_
    refine pm_go (g := (81, [(0, .ref 1), (1, .int 4), (2, .int (b)), (3, .int (c))], [.int 1], g9_48 (pg xs) 4 b c d, 0, 0)) rfl ?_
    refine pm_go (g := (82, [(0, .ref 1), (1, .int 4), (2, .int (b)), (3, .int (c))], [.int 1, .int 1], g9_48 (pg xs) 4 b c d, 0, 0)) rfl ?_
    refine pm_go (g := (83, [(0, .ref 1), (1, .int 4), (2, .int (b)), (3, .int (c))], [.int 0], g9_48 (pg xs) 4 b c d, 0, 0)) rfl ?_
    refine pm_ret rfl ?_
    show pm_WP 0 (424, [(3, .int 0), (2, .ref 25), (1, .ref 1), (0, .ref 0)], [.int 0], g9_48 (pg xs) 4 b c d, 599950, 7298497) _
    refine pm_go (g := (425, [(3, .int 0), (2, .ref 25), (1, .ref 1), (0, .ref 0)], [.ref 25, .int 0], g9_48 (pg xs) 4 b c d, 599950, 7298497)) rfl ?_
    refine pm_go (g := (426, [(3, .int 0), (2, .ref 25), (1, .ref 1), (0, .ref 0)], [.ref 0, .ref 25, .int 0], g9_48 (pg xs) 4 b c d, 599950, 7298497)) rfl ?_
    refine pm_go (g := (427, [(3, .int 0), (2, .ref 25), (1, .ref 1), (0, .ref 0)], [.int 0, .ref 0, .ref 25, .int 0], g9_48 (pg xs) 4 b c d, 599950, 7298497)) rfl ?_
    refine pm_go (g := (428, [(3, .int 0), (2, .ref 25), (1, .ref 1), (0, .ref 0)], [.int 1, .int 0, .ref 0, .ref 25, .int 0], g9_48 (pg xs) 4 b c d, 599950, 7298497)) rfl ?_
    refine pm_go (g := (429, [(3, .int 0), (2, .ref 25), (1, .ref 1), (0, .ref 0)], [.int 1, .ref 0, .ref 25, .int 0], g9_48 (pg xs) 4 b c d, 599950, 7298497)) rfl ?_
    refine pm_go (g := (430, [(3, .int 0), (2, .ref 25), (1, .ref 1), (0, .ref 0)], [.int (xs 1), .ref 25, .int 0], g9_48 (pg xs) 4 b c d, 599950, 7298497)) rfl ?_
    rw [← ea]
    refine pm_go (g := (431, [(3, .int 0), (2, .ref 25), (1, .ref 1), (0, .ref 0)], [.ref 0, .int 4, .ref 25, .int 0], g9_48 (pg xs) 4 b c d, 599950, 7298497)) rfl ?_
    refine pm_go (g := (432, [(3, .int 0), (2, .ref 25), (1, .ref 1), (0, .ref 0)], [.int 0, .ref 0, .int 4, .ref 25, .int 0], g9_48 (pg xs) 4 b c d, 599950, 7298497)) rfl ?_
    refine pm_go (g := (433, [(3, .int 0), (2, .ref 25), (1, .ref 1), (0, .ref 0)], [.int 2, .int 0, .ref 0, .int 4, .ref 25, .int 0], g9_48 (pg xs) 4 b c d, 599950, 7298497)) rfl ?_
    refine pm_go (g := (434, [(3, .int 0), (2, .ref 25), (1, .ref 1), (0, .ref 0)], [.int 2, .ref 0, .int 4, .ref 25, .int 0], g9_48 (pg xs) 4 b c d, 599950, 7298497)) rfl ?_
    refine pm_go (g := (435, [(3, .int 0), (2, .ref 25), (1, .ref 1), (0, .ref 0)], [.int (xs 2), .int 4, .ref 25, .int 0], g9_48 (pg xs) 4 b c d, 599950, 7298497)) rfl ?_
    rw [← eb]
    refine pm_go (g := (436, [(3, .int 0), (2, .ref 25), (1, .ref 1), (0, .ref 0)], [.ref 0, .int (b), .int 4, .ref 25, .int 0], g9_48 (pg xs) 4 b c d, 599950, 7298497)) rfl ?_
    refine pm_go (g := (437, [(3, .int 0), (2, .ref 25), (1, .ref 1), (0, .ref 0)], [.int 0, .ref 0, .int (b), .int 4, .ref 25, .int 0], g9_48 (pg xs) 4 b c d, 599950, 7298497)) rfl ?_
    refine pm_go (g := (438, [(3, .int 0), (2, .ref 25), (1, .ref 1), (0, .ref 0)], [.int 3, .int 0, .ref 0, .int (b), .int 4, .ref 25, .int 0], g9_48 (pg xs) 4 b c d, 599950, 7298497)) rfl ?_
    refine pm_go (g := (439, [(3, .int 0), (2, .ref 25), (1, .ref 1), (0, .ref 0)], [.int 3, .ref 0, .int (b), .int 4, .ref 25, .int 0], g9_48 (pg xs) 4 b c d, 599950, 7298497)) rfl ?_
    refine pm_go (g := (440, [(3, .int 0), (2, .ref 25), (1, .ref 1), (0, .ref 0)], [.int (xs 3), .int (b), .int 4, .ref 25, .int 0], g9_48 (pg xs) 4 b c d, 599950, 7298497)) rfl ?_
    rw [← ec]
    refine pm_callD (z := 163) (as := [.ref 25, .int 4, .int (b), .int (c)]) (rest := [.int 0]) rfl ?_
    show pm_WP 163 (0, [(0, .ref 25), (1, .int 4), (2, .int (b)), (3, .int (c))], [], g9_48 (pg xs) 4 b c d, 0, 0) _
    refine pm_go (g := (1, [(0, .ref 25), (1, .int 4), (2, .int (b)), (3, .int (c))], [.int 4], g9_48 (pg xs) 4 b c d, 0, 0)) rfl ?_
    refine pm_go (g := (2, [(0, .ref 25), (1, .int 4), (2, .int (b)), (3, .int (c))], [.int 0, .int 4], g9_48 (pg xs) 4 b c d, 0, 0)) rfl ?_
    refine pm_go (g := (3, [(0, .ref 25), (1, .int 4), (2, .int (b)), (3, .int (c))], [.int 4, .int 0, .int 4], g9_48 (pg xs) 4 b c d, 0, 0)) rfl ?_
    refine pm_callD (z := 128) (as := [.int 4, .int 0, .int 4]) (rest := []) rfl ?_
    show pm_WP 128 (0, [(0, .int 4), (1, .int 0), (2, .int 4)], [], g9_48 (pg xs) 4 b c d, 0, 0) _
    refine pm_go (g := (1, [(0, .int 4), (1, .int 0), (2, .int 4)], [.int 4], g9_48 (pg xs) 4 b c d, 0, 0)) rfl ?_
    refine pm_go (g := (2, [(0, .int 4), (1, .int 0), (2, .int 4)], [.int 0, .int 4], g9_48 (pg xs) 4 b c d, 0, 0)) rfl ?_
    refine pm_brF (h := (5, [(0, .int 4), (1, .int 0), (2, .int 4)], [], g9_48 (pg xs) 4 b c d, 0, 0)) rfl ?_
    refine pm_go (g := (6, [(0, .int 4), (1, .int 0), (2, .int 4)], [.int 4], g9_48 (pg xs) 4 b c d, 0, 0)) rfl ?_
    refine pm_go (g := (7, [(0, .int 4), (1, .int 0), (2, .int 4)], [.int 4, .int 4], g9_48 (pg xs) 4 b c d, 0, 0)) rfl ?_
    refine pm_brF (h := (10, [(0, .int 4), (1, .int 0), (2, .int 4)], [], g9_48 (pg xs) 4 b c d, 0, 0)) rfl ?_
    refine pm_go (g := (11, [(0, .int 4), (1, .int 0), (2, .int 4)], [.int 1], g9_48 (pg xs) 4 b c d, 0, 0)) rfl ?_
    refine pm_go (g := (15, [(0, .int 4), (1, .int 0), (2, .int 4)], [.int 1], g9_48 (pg xs) 4 b c d, 0, 0)) rfl ?_
    refine pm_ret rfl ?_
    show pm_WP 163 (6, [(0, .ref 25), (1, .int 4), (2, .int (b)), (3, .int (c))], [.int 1], g9_48 (pg xs) 4 b c d, 0, 0) _
    refine pm_brT (g := (11, [(0, .ref 25), (1, .int 4), (2, .int (b)), (3, .int (c))], [], g9_48 (pg xs) 4 b c d, 0, 0)) rfl ?_
    refine pm_go (g := (12, [(0, .ref 25), (1, .int 4), (2, .int (b)), (3, .int (c))], [.int 4], g9_48 (pg xs) 4 b c d, 0, 0)) rfl ?_
    refine pm_go (g := (13, [(0, .ref 25), (1, .int 4), (2, .int (b)), (3, .int (c))], [.int 2, .int 4], g9_48 (pg xs) 4 b c d, 0, 0)) rfl ?_
    refine pm_brT (g := (24, [(0, .ref 25), (1, .int 4), (2, .int (b)), (3, .int (c))], [], g9_48 (pg xs) 4 b c d, 0, 0)) rfl ?_
    refine pm_go (g := (25, [(0, .ref 25), (1, .int 4), (2, .int (b)), (3, .int (c))], [.int 4], g9_48 (pg xs) 4 b c d, 0, 0)) rfl ?_
    refine pm_go (g := (26, [(0, .ref 25), (1, .int 4), (2, .int (b)), (3, .int (c))], [.int 2, .int 4], g9_48 (pg xs) 4 b c d, 0, 0)) rfl ?_
    refine pm_brT (g := (49, [(0, .ref 25), (1, .int 4), (2, .int (b)), (3, .int (c))], [], g9_48 (pg xs) 4 b c d, 0, 0)) rfl ?_
    refine pm_go (g := (50, [(0, .ref 25), (1, .int 4), (2, .int (b)), (3, .int (c))], [.int 4], g9_48 (pg xs) 4 b c d, 0, 0)) rfl ?_
    refine pm_go (g := (51, [(0, .ref 25), (1, .int 4), (2, .int (b)), (3, .int (c))], [.int 3, .int 4], g9_48 (pg xs) 4 b c d, 0, 0)) rfl ?_
    refine pm_brT (g := (62, [(0, .ref 25), (1, .int 4), (2, .int (b)), (3, .int (c))], [], g9_48 (pg xs) 4 b c d, 0, 0)) rfl ?_
    refine pm_go (g := (63, [(0, .ref 25), (1, .int 4), (2, .int (b)), (3, .int (c))], [.ref 25], g9_48 (pg xs) 4 b c d, 0, 0)) rfl ?_
    refine pm_go (g := (64, [(0, .ref 25), (1, .int 4), (2, .int (b)), (3, .int (c))], [.int (b), .ref 25], g9_48 (pg xs) 4 b c d, 0, 0)) rfl ?_
    refine pm_callD (z := 129) (as := [.ref 25, .int (b)]) (rest := []) rfl ?_
    show pm_WP 129 (0, [(0, .ref 25), (1, .int (b))], [], g9_48 (pg xs) 4 b c d, 0, 0) _
    refine pm_go (g := (1, [(0, .ref 25), (1, .int (b))], [.int (b)], g9_48 (pg xs) 4 b c d, 0, 0)) rfl ?_
    refine pm_go (g := (2, [(0, .ref 25), (1, .int (b))], [.int 0, .int (b)], g9_48 (pg xs) 4 b c d, 0, 0)) rfl ?_
    refine pm_go (g := (3, [(0, .ref 25), (1, .int (b))], [.ref 25, .int 0, .int (b)], g9_48 (pg xs) 4 b c d, 0, 0)) rfl ?_
    refine pm_go (g := (6, [(0, .ref 25), (1, .int (b))], [.int 2, .int 0, .int (b)], g9_48 (pg xs) 4 b c d, 0, 0)) rfl ?_
    refine pm_go (g := (7, [(0, .ref 25), (1, .int (b))], [.int 1, .int 2, .int 0, .int (b)], g9_48 (pg xs) 4 b c d, 0, 0)) rfl ?_
    refine pm_go (g := (8, [(0, .ref 25), (1, .int (b))], [.int 1, .int 0, .int (b)], g9_48 (pg xs) 4 b c d, 0, 0)) rfl ?_
    refine pm_callD (z := 128) (as := [.int (b), .int 0, .int 1]) (rest := []) rfl ?_
    show pm_WP 128 (0, [(0, .int (b)), (1, .int 0), (2, .int 1)], [], g9_48 (pg xs) 4 b c d, 0, 0) _
    refine pm_go (g := (1, [(0, .int (b)), (1, .int 0), (2, .int 1)], [.int (b)], g9_48 (pg xs) 4 b c d, 0, 0)) rfl ?_
    refine pm_go (g := (2, [(0, .int (b)), (1, .int 0), (2, .int 1)], [.int 0, .int (b)], g9_48 (pg xs) 4 b c d, 0, 0)) rfl ?_
    refine pm_ifF (h := (5, [(0, .int (b)), (1, .int 0), (2, .int 1)], [], g9_48 (pg xs) 4 b c d, 0, 0)) rfl (rF_lt (cx := b.toInt) (cy := 0) rfl (by decide) (by omega)) ?_
    refine pm_go (g := (6, [(0, .int (b)), (1, .int 0), (2, .int 1)], [.int (b)], g9_48 (pg xs) 4 b c d, 0, 0)) rfl ?_
    refine pm_go (g := (7, [(0, .int (b)), (1, .int 0), (2, .int 1)], [.int 1, .int (b)], g9_48 (pg xs) 4 b c d, 0, 0)) rfl ?_
    refine pm_ifF (h := (10, [(0, .int (b)), (1, .int 0), (2, .int 1)], [], g9_48 (pg xs) 4 b c d, 0, 0)) rfl (rF_gt (cx := b.toInt) (cy := 1) rfl (by decide) (by omega)) ?_
    refine pm_go (g := (11, [(0, .int (b)), (1, .int 0), (2, .int 1)], [.int 1], g9_48 (pg xs) 4 b c d, 0, 0)) rfl ?_
    refine pm_go (g := (15, [(0, .int (b)), (1, .int 0), (2, .int 1)], [.int 1], g9_48 (pg xs) 4 b c d, 0, 0)) rfl ?_
    refine pm_ret rfl ?_
    show pm_WP 129 (11, [(0, .ref 25), (1, .int (b))], [.int 1], g9_48 (pg xs) 4 b c d, 0, 0) _
    refine pm_ret rfl ?_
    show pm_WP 163 (67, [(0, .ref 25), (1, .int 4), (2, .int (b)), (3, .int (c))], [.int 1], g9_48 (pg xs) 4 b c d, 0, 0) _
    refine pm_brT (g := (76, [(0, .ref 25), (1, .int 4), (2, .int (b)), (3, .int (c))], [], g9_48 (pg xs) 4 b c d, 0, 0)) rfl ?_
    refine pm_go (g := (77, [(0, .ref 25), (1, .int 4), (2, .int (b)), (3, .int (c))], [.int 1], g9_48 (pg xs) 4 b c d, 0, 0)) rfl ?_
    refine pm_go (g := (81, [(0, .ref 25), (1, .int 4), (2, .int (b)), (3, .int (c))], [.int 1], g9_48 (pg xs) 4 b c d, 0, 0)) rfl ?_
    refine pm_go (g := (83, [(4, .int 1), (0, .ref 25), (1, .int 4), (2, .int (b)), (3, .int (c))], [], g9_48 (pg xs) 4 b c d, 0, 0)) rfl ?_
    refine pm_go (g := (85, [(4, .int 1), (0, .ref 25), (1, .int 4), (2, .int (b)), (3, .int (c))], [.int 1], g9_48 (pg xs) 4 b c d, 0, 0)) rfl ?_
    refine pm_brF (h := (88, [(4, .int 1), (0, .ref 25), (1, .int 4), (2, .int (b)), (3, .int (c))], [], g9_48 (pg xs) 4 b c d, 0, 0)) rfl ?_
    refine pm_go (g := (89, [(4, .int 1), (0, .ref 25), (1, .int 4), (2, .int (b)), (3, .int (c))], [.int 4], g9_48 (pg xs) 4 b c d, 0, 0)) rfl ?_
    refine pm_go (g := (90, [(4, .int 1), (0, .ref 25), (1, .int 4), (2, .int (b)), (3, .int (c))], [.int 3, .int 4], g9_48 (pg xs) 4 b c d, 0, 0)) rfl ?_
    refine pm_brT (g := (104, [(4, .int 1), (0, .ref 25), (1, .int 4), (2, .int (b)), (3, .int (c))], [], g9_48 (pg xs) 4 b c d, 0, 0)) rfl ?_
    refine pm_go (g := (105, [(4, .int 1), (0, .ref 25), (1, .int 4), (2, .int (b)), (3, .int (c))], [.ref 25], g9_48 (pg xs) 4 b c d, 0, 0)) rfl ?_
    refine pm_go (g := (108, [(4, .int 1), (0, .ref 25), (1, .int 4), (2, .int (b)), (3, .int (c))], [.int 0], g9_48 (pg xs) 4 b c d, 0, 0)) rfl ?_
    refine pm_go (g := (110, [(4, .int 1), (0, .ref 25), (1, .int 4), (2, .int (b)), (3, .int (c))], [.int 30, .int 0], g9_48 (pg xs) 4 b c d, 0, 0)) rfl ?_
    refine pm_brT (g := (116, [(4, .int 1), (0, .ref 25), (1, .int 4), (2, .int (b)), (3, .int (c))], [], g9_48 (pg xs) 4 b c d, 0, 0)) rfl ?_
    refine pm_go (g := (117, [(4, .int 1), (0, .ref 25), (1, .int 4), (2, .int (b)), (3, .int (c))], [.ref 25], g9_48 (pg xs) 4 b c d, 0, 0)) rfl ?_
    refine pm_go (g := (120, [(4, .int 1), (0, .ref 25), (1, .int 4), (2, .int (b)), (3, .int (c))], [.ref 37], g9_48 (pg xs) 4 b c d, 0, 0)) rfl ?_
    refine pm_go (g := (121, [(4, .int 1), (0, .ref 25), (1, .int 4), (2, .int (b)), (3, .int (c))], [.ref 25, .ref 37], g9_48 (pg xs) 4 b c d, 0, 0)) rfl ?_
    refine pm_go (g := (124, [(4, .int 1), (0, .ref 25), (1, .int 4), (2, .int (b)), (3, .int (c))], [.int 0, .ref 37], g9_48 (pg xs) 4 b c d, 0, 0)) rfl ?_
    refine pm_go (g := (125, [(4, .int 1), (0, .ref 25), (1, .int 4), (2, .int (b)), (3, .int (c))], [.int 4, .int 0, .ref 37], g9_48 (pg xs) 4 b c d, 0, 0)) rfl ?_
    refine pm_go (g := (126, [(4, .int 1), (0, .ref 25), (1, .int 4), (2, .int (b)), (3, .int (c))], [], g9_49 (pg xs) 4 b c d, 0, 0)) rfl ?_
    refine pm_go (g := (127, [(4, .int 1), (0, .ref 25), (1, .int 4), (2, .int (b)), (3, .int (c))], [.ref 25], g9_49 (pg xs) 4 b c d, 0, 0)) rfl ?_
    refine pm_go (g := (130, [(4, .int 1), (0, .ref 25), (1, .int 4), (2, .int (b)), (3, .int (c))], [.ref 38], g9_49 (pg xs) 4 b c d, 0, 0)) rfl ?_
    refine pm_go (g := (131, [(4, .int 1), (0, .ref 25), (1, .int 4), (2, .int (b)), (3, .int (c))], [.ref 25, .ref 38], g9_49 (pg xs) 4 b c d, 0, 0)) rfl ?_
    refine pm_go (g := (134, [(4, .int 1), (0, .ref 25), (1, .int 4), (2, .int (b)), (3, .int (c))], [.int 0, .ref 38], g9_49 (pg xs) 4 b c d, 0, 0)) rfl ?_
    refine pm_go (g := (135, [(4, .int 1), (0, .ref 25), (1, .int 4), (2, .int (b)), (3, .int (c))], [.int (b), .int 0, .ref 38], g9_49 (pg xs) 4 b c d, 0, 0)) rfl ?_
    refine pm_go (g := (136, [(4, .int 1), (0, .ref 25), (1, .int 4), (2, .int (b)), (3, .int (c))], [], g9_50 (pg xs) 4 b c d, 0, 0)) rfl ?_
    refine pm_go (g := (137, [(4, .int 1), (0, .ref 25), (1, .int 4), (2, .int (b)), (3, .int (c))], [.ref 25], g9_50 (pg xs) 4 b c d, 0, 0)) rfl ?_
    refine pm_go (g := (140, [(4, .int 1), (0, .ref 25), (1, .int 4), (2, .int (b)), (3, .int (c))], [.ref 39], g9_50 (pg xs) 4 b c d, 0, 0)) rfl ?_
    refine pm_go (g := (141, [(4, .int 1), (0, .ref 25), (1, .int 4), (2, .int (b)), (3, .int (c))], [.ref 25, .ref 39], g9_50 (pg xs) 4 b c d, 0, 0)) rfl ?_
    refine pm_go (g := (144, [(4, .int 1), (0, .ref 25), (1, .int 4), (2, .int (b)), (3, .int (c))], [.int 0, .ref 39], g9_50 (pg xs) 4 b c d, 0, 0)) rfl ?_
    refine pm_go (g := (145, [(4, .int 1), (0, .ref 25), (1, .int 4), (2, .int (b)), (3, .int (c))], [.int (c), .int 0, .ref 39], g9_50 (pg xs) 4 b c d, 0, 0)) rfl ?_
    refine pm_go (g := (146, [(4, .int 1), (0, .ref 25), (1, .int 4), (2, .int (b)), (3, .int (c))], [], g9_51 (pg xs) 4 b c d, 0, 0)) rfl ?_
    refine pm_go (g := (147, [(4, .int 1), (0, .ref 25), (1, .int 4), (2, .int (b)), (3, .int (c))], [.ref 25], g9_51 (pg xs) 4 b c d, 0, 0)) rfl ?_
    refine pm_go (g := (148, [(4, .int 1), (0, .ref 25), (1, .int 4), (2, .int (b)), (3, .int (c))], [.ref 25, .ref 25], g9_51 (pg xs) 4 b c d, 0, 0)) rfl ?_
    refine pm_go (g := (151, [(4, .int 1), (0, .ref 25), (1, .int 4), (2, .int (b)), (3, .int (c))], [.int 0, .ref 25], g9_51 (pg xs) 4 b c d, 0, 0)) rfl ?_
    refine pm_go (g := (152, [(4, .int 1), (0, .ref 25), (1, .int 4), (2, .int (b)), (3, .int (c))], [.int 1, .int 0, .ref 25], g9_51 (pg xs) 4 b c d, 0, 0)) rfl ?_
    refine pm_go (g := (153, [(4, .int 1), (0, .ref 25), (1, .int 4), (2, .int (b)), (3, .int (c))], [.int 1, .ref 25], g9_51 (pg xs) 4 b c d, 0, 0)) rfl ?_
    refine pm_go (g := (156, [(4, .int 1), (0, .ref 25), (1, .int 4), (2, .int (b)), (3, .int (c))], [], g9_52 (pg xs) 4 b c d, 0, 0)) rfl ?_
    refine pm_go (g := (157, [(4, .int 1), (0, .ref 25), (1, .int 4), (2, .int (b)), (3, .int (c))], [.ref 25], g9_52 (pg xs) 4 b c d, 0, 0)) rfl ?_
    refine pm_go (g := (160, [(4, .int 1), (0, .ref 25), (1, .int 4), (2, .int (b)), (3, .int (c))], [.int 1], g9_52 (pg xs) 4 b c d, 0, 0)) rfl ?_
    refine pm_go (g := (161, [(4, .int 1), (0, .ref 25), (1, .int 4), (2, .int (b)), (3, .int (c))], [.int 1, .int 1], g9_52 (pg xs) 4 b c d, 0, 0)) rfl ?_
    refine pm_go (g := (162, [(4, .int 1), (0, .ref 25), (1, .int 4), (2, .int (b)), (3, .int (c))], [.int 0], g9_52 (pg xs) 4 b c d, 0, 0)) rfl ?_
    refine pm_ret rfl ?_
    show pm_WP 0 (443, [(3, .int 0), (2, .ref 25), (1, .ref 1), (0, .ref 0)], [.int 0, .int 0], g9_52 (pg xs) 4 b c d, 599950, 7298497) _
    refine pm_brT (g := (873, [(3, .int 0), (2, .ref 25), (1, .ref 1), (0, .ref 0)], [], g9_52 (pg xs) 4 b c d, 599950, 7298497)) rfl ?_
    refine pm_go (g := (876, [(3, .int 5), (2, .ref 25), (1, .ref 1), (0, .ref 0)], [], g9_52 (pg xs) 4 b c d, 599950, 7298497)) rfl ?_
    refine pm_go (g := (18, [(3, .int 5), (2, .ref 25), (1, .ref 1), (0, .ref 0)], [], g9_52 (pg xs) 4 b c d, 599950, 7298497)) rfl ?_
    refine pm_go (g := (19, [(3, .int 5), (2, .ref 25), (1, .ref 1), (0, .ref 0)], [.int 5], g9_52 (pg xs) 4 b c d, 599950, 7298497)) rfl ?_
    refine pm_go (g := (20, [(3, .int 5), (2, .ref 25), (1, .ref 1), (0, .ref 0)], [.ref 0, .int 5], g9_52 (pg xs) 4 b c d, 599950, 7298497)) rfl ?_
    refine pm_go (g := (21, [(3, .int 5), (2, .ref 25), (1, .ref 1), (0, .ref 0)], [.int 5, .int 5], g9_52 (pg xs) 4 b c d, 599950, 7298497)) rfl ?_
    refine pm_go (g := (22, [(3, .int 5), (2, .ref 25), (1, .ref 1), (0, .ref 0)], [.int 5, .int 5, .int 5], g9_52 (pg xs) 4 b c d, 599950, 7298497)) rfl ?_
    refine pm_go (g := (23, [(3, .int 5), (2, .ref 25), (1, .ref 1), (0, .ref 0)], [.int 0, .int 5], g9_52 (pg xs) 4 b c d, 599950, 7298497)) rfl ?_
    refine pm_brT (g := (879, [(3, .int 5), (2, .ref 25), (1, .ref 1), (0, .ref 0)], [], g9_52 (pg xs) 4 b c d, 599950, 7298497)) rfl ?_
    refine pm_go (g := (880, [(3, .int 5), (2, .ref 25), (1, .ref 1), (0, .ref 0)], [.int 1], g9_52 (pg xs) 4 b c d, 599950, 7298497)) rfl ?_
    exact pm_ret rfl rfl
  refine pm_goE (g := (98, [(0, .ref 1), (1, .int (a)), (2, .int (b))], [], g9_0 (pg xs) a b c d, 0, 0)) (pm_swO (by decide) rfl (by omega)) ?_
  refine pm_go (g := (99, [(0, .ref 1), (1, .int (a)), (2, .int (b))], [.int 0], g9_0 (pg xs) a b c d, 0, 0)) rfl ?_
  refine pm_ret rfl ?_
  show pm_WP 104 (6, [(0, .ref 1), (1, .int (a)), (2, .int (b)), (3, .int (c))], [.int 0], g9_0 (pg xs) a b c d, 1, 3) _
  refine pm_brT (g := (24, [(0, .ref 1), (1, .int (a)), (2, .int (b)), (3, .int (c))], [], g9_0 (pg xs) a b c d, 1, 3)) rfl ?_
  refine pm_go (g := (25, [(0, .ref 1), (1, .int (a)), (2, .int (b)), (3, .int (c))], [.int (-1)], g9_0 (pg xs) a b c d, 1, 3)) rfl ?_
  refine pm_ret rfl ?_
  show pm_WP 0 (424, [(3, .int 0), (2, .ref 25), (1, .ref 1), (0, .ref 0)], [.int (-1)], g9_0 (pg xs) a b c d, 599950, 7298497) _
  refine pm_go (g := (425, [(3, .int 0), (2, .ref 25), (1, .ref 1), (0, .ref 0)], [.ref 25, .int (-1)], g9_0 (pg xs) a b c d, 599950, 7298497)) rfl ?_
  refine pm_go (g := (426, [(3, .int 0), (2, .ref 25), (1, .ref 1), (0, .ref 0)], [.ref 0, .ref 25, .int (-1)], g9_0 (pg xs) a b c d, 599950, 7298497)) rfl ?_
  refine pm_go (g := (427, [(3, .int 0), (2, .ref 25), (1, .ref 1), (0, .ref 0)], [.int 0, .ref 0, .ref 25, .int (-1)], g9_0 (pg xs) a b c d, 599950, 7298497)) rfl ?_
  refine pm_go (g := (428, [(3, .int 0), (2, .ref 25), (1, .ref 1), (0, .ref 0)], [.int 1, .int 0, .ref 0, .ref 25, .int (-1)], g9_0 (pg xs) a b c d, 599950, 7298497)) rfl ?_
  refine pm_go (g := (429, [(3, .int 0), (2, .ref 25), (1, .ref 1), (0, .ref 0)], [.int 1, .ref 0, .ref 25, .int (-1)], g9_0 (pg xs) a b c d, 599950, 7298497)) rfl ?_
  refine pm_go (g := (430, [(3, .int 0), (2, .ref 25), (1, .ref 1), (0, .ref 0)], [.int (xs 1), .ref 25, .int (-1)], g9_0 (pg xs) a b c d, 599950, 7298497)) rfl ?_
  rw [← ea]
  refine pm_go (g := (431, [(3, .int 0), (2, .ref 25), (1, .ref 1), (0, .ref 0)], [.ref 0, .int (a), .ref 25, .int (-1)], g9_0 (pg xs) a b c d, 599950, 7298497)) rfl ?_
  refine pm_go (g := (432, [(3, .int 0), (2, .ref 25), (1, .ref 1), (0, .ref 0)], [.int 0, .ref 0, .int (a), .ref 25, .int (-1)], g9_0 (pg xs) a b c d, 599950, 7298497)) rfl ?_
  refine pm_go (g := (433, [(3, .int 0), (2, .ref 25), (1, .ref 1), (0, .ref 0)], [.int 2, .int 0, .ref 0, .int (a), .ref 25, .int (-1)], g9_0 (pg xs) a b c d, 599950, 7298497)) rfl ?_
  refine pm_go (g := (434, [(3, .int 0), (2, .ref 25), (1, .ref 1), (0, .ref 0)], [.int 2, .ref 0, .int (a), .ref 25, .int (-1)], g9_0 (pg xs) a b c d, 599950, 7298497)) rfl ?_
  refine pm_go (g := (435, [(3, .int 0), (2, .ref 25), (1, .ref 1), (0, .ref 0)], [.int (xs 2), .int (a), .ref 25, .int (-1)], g9_0 (pg xs) a b c d, 599950, 7298497)) rfl ?_
  rw [← eb]
  refine pm_go (g := (436, [(3, .int 0), (2, .ref 25), (1, .ref 1), (0, .ref 0)], [.ref 0, .int (b), .int (a), .ref 25, .int (-1)], g9_0 (pg xs) a b c d, 599950, 7298497)) rfl ?_
  refine pm_go (g := (437, [(3, .int 0), (2, .ref 25), (1, .ref 1), (0, .ref 0)], [.int 0, .ref 0, .int (b), .int (a), .ref 25, .int (-1)], g9_0 (pg xs) a b c d, 599950, 7298497)) rfl ?_
  refine pm_go (g := (438, [(3, .int 0), (2, .ref 25), (1, .ref 1), (0, .ref 0)], [.int 3, .int 0, .ref 0, .int (b), .int (a), .ref 25, .int (-1)], g9_0 (pg xs) a b c d, 599950, 7298497)) rfl ?_
  refine pm_go (g := (439, [(3, .int 0), (2, .ref 25), (1, .ref 1), (0, .ref 0)], [.int 3, .ref 0, .int (b), .int (a), .ref 25, .int (-1)], g9_0 (pg xs) a b c d, 599950, 7298497)) rfl ?_
  refine pm_go (g := (440, [(3, .int 0), (2, .ref 25), (1, .ref 1), (0, .ref 0)], [.int (xs 3), .int (b), .int (a), .ref 25, .int (-1)], g9_0 (pg xs) a b c d, 599950, 7298497)) rfl ?_
  rw [← ec]
  refine pm_callD (z := 163) (as := [.ref 25, .int (a), .int (b), .int (c)]) (rest := [.int (-1)]) rfl ?_
  show pm_WP 163 (0, [(0, .ref 25), (1, .int (a)), (2, .int (b)), (3, .int (c))], [], g9_0 (pg xs) a b c d, 0, 0) _
  refine pm_go (g := (1, [(0, .ref 25), (1, .int (a)), (2, .int (b)), (3, .int (c))], [.int (a)], g9_0 (pg xs) a b c d, 0, 0)) rfl ?_
  refine pm_go (g := (2, [(0, .ref 25), (1, .int (a)), (2, .int (b)), (3, .int (c))], [.int 0, .int (a)], g9_0 (pg xs) a b c d, 0, 0)) rfl ?_
  refine pm_go (g := (3, [(0, .ref 25), (1, .int (a)), (2, .int (b)), (3, .int (c))], [.int 4, .int 0, .int (a)], g9_0 (pg xs) a b c d, 0, 0)) rfl ?_
  refine pm_callD (z := 128) (as := [.int (a), .int 0, .int 4]) (rest := []) rfl ?_
  show pm_WP 128 (0, [(0, .int (a)), (1, .int 0), (2, .int 4)], [], g9_0 (pg xs) a b c d, 0, 0) _
  refine pm_go (g := (1, [(0, .int (a)), (1, .int 0), (2, .int 4)], [.int (a)], g9_0 (pg xs) a b c d, 0, 0)) rfl ?_
  refine pm_go (g := (2, [(0, .int (a)), (1, .int 0), (2, .int 4)], [.int 0, .int (a)], g9_0 (pg xs) a b c d, 0, 0)) rfl ?_
  refine pm_if2 (g := (14, [(0, .int (a)), (1, .int 0), (2, .int 4)], [], g9_0 (pg xs) a b c d, 0, 0)) (h := (5, [(0, .int (a)), (1, .int 0), (2, .int 4)], [], g9_0 (pg xs) a b c d, 0, 0)) rfl (fun q21 => ?_) (fun q21 => ?_)
  ·
    have q21 := qT_lt (cx := a.toInt) (cy := 0) rfl (by decide) q21
    refine pm_go (g := (15, [(0, .int (a)), (1, .int 0), (2, .int 4)], [.int 0], g9_0 (pg xs) a b c d, 0, 0)) rfl ?_
    refine pm_ret rfl ?_
    show pm_WP 163 (6, [(0, .ref 25), (1, .int (a)), (2, .int (b)), (3, .int (c))], [.int 0], g9_0 (pg xs) a b c d, 0, 0) _
    refine pm_brF (h := (9, [(0, .ref 25), (1, .int (a)), (2, .int (b)), (3, .int (c))], [], g9_0 (pg xs) a b c d, 0, 0)) rfl ?_
    refine pm_go (g := (10, [(0, .ref 25), (1, .int (a)), (2, .int (b)), (3, .int (c))], [.int (-1)], g9_0 (pg xs) a b c d, 0, 0)) rfl ?_
    refine pm_ret rfl ?_
    show pm_WP 0 (443, [(3, .int 0), (2, .ref 25), (1, .ref 1), (0, .ref 0)], [.int (-1), .int (-1)], g9_0 (pg xs) a b c d, 599950, 7298497) _
    refine pm_brT (g := (873, [(3, .int 0), (2, .ref 25), (1, .ref 1), (0, .ref 0)], [], g9_0 (pg xs) a b c d, 599950, 7298497)) rfl ?_
    refine pm_go (g := (876, [(3, .int 5), (2, .ref 25), (1, .ref 1), (0, .ref 0)], [], g9_0 (pg xs) a b c d, 599950, 7298497)) rfl ?_
    refine pm_go (g := (18, [(3, .int 5), (2, .ref 25), (1, .ref 1), (0, .ref 0)], [], g9_0 (pg xs) a b c d, 599950, 7298497)) rfl ?_
    refine pm_go (g := (19, [(3, .int 5), (2, .ref 25), (1, .ref 1), (0, .ref 0)], [.int 5], g9_0 (pg xs) a b c d, 599950, 7298497)) rfl ?_
    refine pm_go (g := (20, [(3, .int 5), (2, .ref 25), (1, .ref 1), (0, .ref 0)], [.ref 0, .int 5], g9_0 (pg xs) a b c d, 599950, 7298497)) rfl ?_
    refine pm_go (g := (21, [(3, .int 5), (2, .ref 25), (1, .ref 1), (0, .ref 0)], [.int 5, .int 5], g9_0 (pg xs) a b c d, 599950, 7298497)) rfl ?_
    refine pm_go (g := (22, [(3, .int 5), (2, .ref 25), (1, .ref 1), (0, .ref 0)], [.int 5, .int 5, .int 5], g9_0 (pg xs) a b c d, 599950, 7298497)) rfl ?_
    refine pm_go (g := (23, [(3, .int 5), (2, .ref 25), (1, .ref 1), (0, .ref 0)], [.int 0, .int 5], g9_0 (pg xs) a b c d, 599950, 7298497)) rfl ?_
    refine pm_brT (g := (879, [(3, .int 5), (2, .ref 25), (1, .ref 1), (0, .ref 0)], [], g9_0 (pg xs) a b c d, 599950, 7298497)) rfl ?_
    refine pm_go (g := (880, [(3, .int 5), (2, .ref 25), (1, .ref 1), (0, .ref 0)], [.int 1], g9_0 (pg xs) a b c d, 599950, 7298497)) rfl ?_
    exact pm_ret rfl rfl
  have q21 := qF_lt (cx := a.toInt) (cy := 0) rfl (by decide) q21
  refine pm_go (g := (6, [(0, .int (a)), (1, .int 0), (2, .int 4)], [.int (a)], g9_0 (pg xs) a b c d, 0, 0)) rfl ?_
  refine pm_go (g := (7, [(0, .int (a)), (1, .int 0), (2, .int 4)], [.int 4, .int (a)], g9_0 (pg xs) a b c d, 0, 0)) rfl ?_
  refine pm_ifT (g := (14, [(0, .int (a)), (1, .int 0), (2, .int 4)], [], g9_0 (pg xs) a b c d, 0, 0)) rfl (rT_gt (cx := a.toInt) (cy := 4) rfl (by decide) (by omega)) ?_
  refine pm_go (g := (15, [(0, .int (a)), (1, .int 0), (2, .int 4)], [.int 0], g9_0 (pg xs) a b c d, 0, 0)) rfl ?_
  refine pm_ret rfl ?_
  show pm_WP 163 (6, [(0, .ref 25), (1, .int (a)), (2, .int (b)), (3, .int (c))], [.int 0], g9_0 (pg xs) a b c d, 0, 0) _
  refine pm_brF (h := (9, [(0, .ref 25), (1, .int (a)), (2, .int (b)), (3, .int (c))], [], g9_0 (pg xs) a b c d, 0, 0)) rfl ?_
  refine pm_go (g := (10, [(0, .ref 25), (1, .int (a)), (2, .int (b)), (3, .int (c))], [.int (-1)], g9_0 (pg xs) a b c d, 0, 0)) rfl ?_
  refine pm_ret rfl ?_
  show pm_WP 0 (443, [(3, .int 0), (2, .ref 25), (1, .ref 1), (0, .ref 0)], [.int (-1), .int (-1)], g9_0 (pg xs) a b c d, 599950, 7298497) _
  refine pm_brT (g := (873, [(3, .int 0), (2, .ref 25), (1, .ref 1), (0, .ref 0)], [], g9_0 (pg xs) a b c d, 599950, 7298497)) rfl ?_
  refine pm_go (g := (876, [(3, .int 5), (2, .ref 25), (1, .ref 1), (0, .ref 0)], [], g9_0 (pg xs) a b c d, 599950, 7298497)) rfl ?_
  refine pm_go (g := (18, [(3, .int 5), (2, .ref 25), (1, .ref 1), (0, .ref 0)], [], g9_0 (pg xs) a b c d, 599950, 7298497)) rfl ?_
  refine pm_go (g := (19, [(3, .int 5), (2, .ref 25), (1, .ref 1), (0, .ref 0)], [.int 5], g9_0 (pg xs) a b c d, 599950, 7298497)) rfl ?_
  refine pm_go (g := (20, [(3, .int 5), (2, .ref 25), (1, .ref 1), (0, .ref 0)], [.ref 0, .int 5], g9_0 (pg xs) a b c d, 599950, 7298497)) rfl ?_
  refine pm_go (g := (21, [(3, .int 5), (2, .ref 25), (1, .ref 1), (0, .ref 0)], [.int 5, .int 5], g9_0 (pg xs) a b c d, 599950, 7298497)) rfl ?_
  refine pm_go (g := (22, [(3, .int 5), (2, .ref 25), (1, .ref 1), (0, .ref 0)], [.int 5, .int 5, .int 5], g9_0 (pg xs) a b c d, 599950, 7298497)) rfl ?_
  refine pm_go (g := (23, [(3, .int 5), (2, .ref 25), (1, .ref 1), (0, .ref 0)], [.int 0, .int 5], g9_0 (pg xs) a b c d, 599950, 7298497)) rfl ?_
  refine pm_brT (g := (879, [(3, .int 5), (2, .ref 25), (1, .ref 1), (0, .ref 0)], [], g9_0 (pg xs) a b c d, 599950, 7298497)) rfl ?_
  refine pm_go (g := (880, [(3, .int 5), (2, .ref 25), (1, .ref 1), (0, .ref 0)], [.int 1], g9_0 (pg xs) a b c d, 599950, 7298497)) rfl ?_
  exact pm_ret rfl rfl
