def g8_0 (g : pm_C) (a : Int32) (b : Int32) (c : Int32) (d : Int32) : pm_H := [g, .inr (11, [.ref 2, .ref 5, .ref 9, .ref 12, .ref 16, .ref 18, .ref 20, .int 0, .ref 21, .int 0, .ref 22, .int 0, .ref 23, .int 0, .ref 24, .int 0, .int 0]), .inr (9, [.ref 3, .ref 4, .int 2]), .inl (0, 10, .inl (upd (upd (fun _ => 0) (0) (-1)) (1) 0)), .inl (0, 31, .inl (upd (upd (upd (upd (upd (upd (upd (fun _ => 0) (0) 1) (1) 3) (10) 1024) (11) 2048) (20) 1048577) (21) 3145729) (30) 1073741825)), .inr (4, [.ref 2, .ref 6, .int 0, .ref 7, .ref 8, .long 0, .long 0, .long 0]), .inl (6, 40, .inr (.inr (.inr (.inr (fun _ => none))))), .inl (1, 10, .inr (.inl (fun _ => 0))), .inl (1, 7, .inr (.inl (fun _ => 0))), .inr (2, [.ref 2, .ref 5, .ref 10, .ref 11, .null, .int 0]), .inr (6, [.ref 2, .ref 5, .null, .int 0, .long 0, .int 0, .null]), .inr (6, [.ref 2, .ref 5, .null, .int 0, .long 0, .int 0, .null]), .inr (7, [.ref 13, .ref 14, .ref 15, .int 0]), .inl (0, 61, .inl (fun _ => 0)), .inl (0, 61, .inl (fun _ => 0)), .inl (0, 1220, .inl (fun _ => 0)), .inr (0, [.ref 5, .ref 12, .ref 17, .int 0, .int 0, .null]), .inl (0, 3, .inl (fun _ => 0)), .inr (8, [.ref 19, .int 0, .int 0]), .inl (0, 50, .inl (fun _ => 0)), .inl (0, 3, .inl (fun _ => 0)), .inl (4, 10, .inr (.inr (.inr (.inr (fun _ => none))))), .inl (8, 30, .inr (.inr (.inr (.inr (fun _ => none))))), .inl (13, 30, .inr (.inr (.inr (.inr (fun _ => none))))), .inl (0, 3, .inl (fun _ => 0)), .inr (12, [.int 2, .ref 26, .ref 27, .int 0, .int 0, .ref 28, .ref 29, .ref 30, .ref 31, .ref 32, .ref 33, .int 0, .ref 34, .ref 35, .ref 36, .int 0, .ref 37, .ref 38, .ref 39, .int 0, .ref 40, .ref 41, .ref 42, .int 0, .ref 43, .ref 44, .ref 45, .ref 46, .int 0, .ref 47, .int 0, .int 0, .ref 48, .int 0, .int 0, .int 0, .int 0, .int 0, .ref 49]), .inl (0, 10, .inl (upd (upd (fun _ => 0) (0) (-4)) (1) 0)), .inl (0, 3, .inl (fun _ => 0)), .inl (0, 40, .inl (fun _ => 0)), .inl (0, 40, .inl (fun _ => 0)), .inl (0, 40, .inl (fun _ => 0)), .inl (0, 40, .inl (fun _ => 0)), .inl (0, 40, .inl (fun _ => 0)), .inl (0, 120, .inl (fun _ => 0)), .inl (0, 10, .inl (fun _ => 0)), .inl (0, 30, .inl (fun _ => 0)), .inl (0, 10, .inl (fun _ => 0)), .inl (0, 30, .inl (fun _ => 0)), .inl (0, 30, .inl (fun _ => 0)), .inl (0, 30, .inl (fun _ => 0)), .inl (0, 61, .inl (fun _ => 0)), .inl (0, 61, .inl (fun _ => 0)), .inl (0, 1300, .inl (fun _ => 0)), .inl (0, 30, .inl (fun _ => 0)), .inl (0, 30, .inl (fun _ => 0)), .inl (0, 30, .inl (fun _ => 0)), .inl (0, 3, .inl (fun _ => 0)), .inl (0, 50, .inl (fun _ => 0)), .inl (2, 40, .inl (fun _ => 0)), .inl (0, 3, .inl (fun _ => 0))]
def g8_1 (g : pm_C) (a : Int32) (b : Int32) (c : Int32) (d : Int32) : pm_H := [g, .inr (11, [.ref 2, .ref 5, .ref 9, .ref 12, .ref 16, .ref 18, .ref 20, .int 0, .ref 21, .int 0, .ref 22, .int 0, .ref 23, .int 0, .ref 24, .int 0, .int 0]), .inr (9, [.ref 3, .ref 4, .int 2]), .inl (0, 10, .inl (upd (upd (fun _ => 0) (0) (-1)) (1) 0)), .inl (0, 31, .inl (upd (upd (upd (upd (upd (upd (upd (fun _ => 0) (0) 1) (1) 3) (10) 1024) (11) 2048) (20) 1048577) (21) 3145729) (30) 1073741825)), .inr (4, [.ref 2, .ref 6, .int 0, .ref 7, .ref 8, .long 0, .long 0, .long 0]), .inl (6, 40, .inr (.inr (.inr (.inr (fun _ => none))))), .inl (1, 10, .inr (.inl (fun _ => 0))), .inl (1, 7, .inr (.inl (fun _ => 0))), .inr (2, [.ref 2, .ref 5, .ref 10, .ref 11, .null, .int 0]), .inr (6, [.ref 2, .ref 5, .null, .int 0, .long 0, .int 0, .null]), .inr (6, [.ref 2, .ref 5, .null, .int 0, .long 0, .int 0, .null]), .inr (7, [.ref 13, .ref 14, .ref 15, .int 0]), .inl (0, 61, .inl (fun _ => 0)), .inl (0, 61, .inl (fun _ => 0)), .inl (0, 1220, .inl (fun _ => 0)), .inr (0, [.ref 5, .ref 12, .ref 17, .int 0, .int 0, .null]), .inl (0, 3, .inl (fun _ => 0)), .inr (8, [.ref 19, .int 0, .int 0]), .inl (0, 50, .inl (fun _ => 0)), .inl (0, 3, .inl (fun _ => 0)), .inl (4, 10, .inr (.inr (.inr (.inr (fun _ => none))))), .inl (8, 30, .inr (.inr (.inr (.inr (fun _ => none))))), .inl (13, 30, .inr (.inr (.inr (.inr (fun _ => none))))), .inl (0, 3, .inl (fun _ => 0)), .inr (12, [.int 2, .ref 26, .ref 27, .int 0, .int 0, .ref 28, .ref 29, .ref 30, .ref 31, .ref 32, .ref 33, .int 0, .ref 34, .ref 35, .ref 36, .int 0, .ref 37, .ref 38, .ref 39, .int 0, .ref 40, .ref 41, .ref 42, .int 0, .ref 43, .ref 44, .ref 45, .ref 46, .int 0, .ref 47, .int 0, .int 0, .ref 48, .int 0, .int 0, .int 0, .int 0, .int 0, .ref 49]), .inl (0, 10, .inl (upd (upd (fun _ => 0) (0) (-4)) (1) 0)), .inl (0, 3, .inl (fun _ => 0)), .inl (0, 40, .inl (fun _ => 0)), .inl (0, 40, .inl (fun _ => 0)), .inl (0, 40, .inl (fun _ => 0)), .inl (0, 40, .inl (fun _ => 0)), .inl (0, 40, .inl (fun _ => 0)), .inl (0, 120, .inl (fun _ => 0)), .inl (0, 10, .inl (fun _ => 0)), .inl (0, 30, .inl (fun _ => 0)), .inl (0, 10, .inl (fun _ => 0)), .inl (0, 30, .inl (fun _ => 0)), .inl (0, 30, .inl (fun _ => 0)), .inl (0, 30, .inl (fun _ => 0)), .inl (0, 61, .inl (fun _ => 0)), .inl (0, 61, .inl (fun _ => 0)), .inl (0, 1300, .inl (fun _ => 0)), .inl (0, 30, .inl (fun _ => 0)), .inl (0, 30, .inl (fun _ => 0)), .inl (0, 30, .inl (fun _ => 0)), .inl (0, 3, .inl (fun _ => 0)), .inl (0, 50, .inl (fun _ => 0)), .inl (2, 40, .inl (fun _ => 0)), .inl (0, 3, .inl (fun _ => 0)), .inr (1, [.null, .int 0])]
def g8_2 (g : pm_C) (a : Int32) (b : Int32) (c : Int32) (d : Int32) : pm_H := [g, .inr (11, [.ref 2, .ref 5, .ref 9, .ref 12, .ref 16, .ref 18, .ref 20, .int 0, .ref 21, .int 0, .ref 22, .int 0, .ref 23, .int 0, .ref 24, .int 0, .int 0]), .inr (9, [.ref 3, .ref 4, .int 2]), .inl (0, 10, .inl (upd (upd (fun _ => 0) (0) (-1)) (1) 0)), .inl (0, 31, .inl (upd (upd (upd (upd (upd (upd (upd (fun _ => 0) (0) 1) (1) 3) (10) 1024) (11) 2048) (20) 1048577) (21) 3145729) (30) 1073741825)), .inr (4, [.ref 2, .ref 6, .int 0, .ref 7, .ref 8, .long 0, .long 0, .long 0]), .inl (6, 40, .inr (.inr (.inr (.inr (fun _ => none))))), .inl (1, 10, .inr (.inl (fun _ => 0))), .inl (1, 7, .inr (.inl (fun _ => 0))), .inr (2, [.ref 2, .ref 5, .ref 10, .ref 11, .null, .int 0]), .inr (6, [.ref 2, .ref 5, .null, .int 0, .long 0, .int 0, .null]), .inr (6, [.ref 2, .ref 5, .null, .int 0, .long 0, .int 0, .null]), .inr (7, [.ref 13, .ref 14, .ref 15, .int 0]), .inl (0, 61, .inl (fun _ => 0)), .inl (0, 61, .inl (fun _ => 0)), .inl (0, 1220, .inl (fun _ => 0)), .inr (0, [.ref 5, .ref 12, .ref 17, .int 0, .int 0, .null]), .inl (0, 3, .inl (fun _ => 0)), .inr (8, [.ref 19, .int 0, .int 0]), .inl (0, 50, .inl (fun _ => 0)), .inl (0, 3, .inl (fun _ => 0)), .inl (4, 10, .inr (.inr (.inr (.inr (fun _ => none))))), .inl (8, 30, .inr (.inr (.inr (.inr (fun _ => none))))), .inl (13, 30, .inr (.inr (.inr (.inr (fun _ => none))))), .inl (0, 3, .inl (fun _ => 0)), .inr (12, [.int 2, .ref 26, .ref 27, .int 0, .int 0, .ref 28, .ref 29, .ref 30, .ref 31, .ref 32, .ref 33, .int 0, .ref 34, .ref 35, .ref 36, .int 0, .ref 37, .ref 38, .ref 39, .int 0, .ref 40, .ref 41, .ref 42, .int 0, .ref 43, .ref 44, .ref 45, .ref 46, .int 0, .ref 47, .int 0, .int 0, .ref 48, .int 0, .int 0, .int 0, .int 0, .int 0, .ref 49]), .inl (0, 10, .inl (upd (upd (fun _ => 0) (0) (-4)) (1) 0)), .inl (0, 3, .inl (fun _ => 0)), .inl (0, 40, .inl (fun _ => 0)), .inl (0, 40, .inl (fun _ => 0)), .inl (0, 40, .inl (fun _ => 0)), .inl (0, 40, .inl (fun _ => 0)), .inl (0, 40, .inl (fun _ => 0)), .inl (0, 120, .inl (fun _ => 0)), .inl (0, 10, .inl (fun _ => 0)), .inl (0, 30, .inl (fun _ => 0)), .inl (0, 10, .inl (fun _ => 0)), .inl (0, 30, .inl (fun _ => 0)), .inl (0, 30, .inl (fun _ => 0)), .inl (0, 30, .inl (fun _ => 0)), .inl (0, 61, .inl (fun _ => 0)), .inl (0, 61, .inl (fun _ => 0)), .inl (0, 1300, .inl (fun _ => 0)), .inl (0, 30, .inl (fun _ => 0)), .inl (0, 30, .inl (fun _ => 0)), .inl (0, 30, .inl (fun _ => 0)), .inl (0, 3, .inl (fun _ => 0)), .inl (0, 50, .inl (fun _ => 0)), .inl (2, 40, .inl (fun _ => 0)), .inl (0, 3, .inl (fun _ => 0)), .inr (1, [.null, .int 0]), .inl (0, 0, .inl (fun _ => 0))]
def g8_3 (g : pm_C) (a : Int32) (b : Int32) (c : Int32) (d : Int32) : pm_H := [g, .inr (11, [.ref 2, .ref 5, .ref 9, .ref 12, .ref 16, .ref 18, .ref 20, .int 0, .ref 21, .int 0, .ref 22, .int 0, .ref 23, .int 0, .ref 24, .int 0, .int 0]), .inr (9, [.ref 3, .ref 4, .int 2]), .inl (0, 10, .inl (upd (upd (fun _ => 0) (0) (-1)) (1) 0)), .inl (0, 31, .inl (upd (upd (upd (upd (upd (upd (upd (fun _ => 0) (0) 1) (1) 3) (10) 1024) (11) 2048) (20) 1048577) (21) 3145729) (30) 1073741825)), .inr (4, [.ref 2, .ref 6, .int 0, .ref 7, .ref 8, .long 0, .long 0, .long 0]), .inl (6, 40, .inr (.inr (.inr (.inr (fun _ => none))))), .inl (1, 10, .inr (.inl (fun _ => 0))), .inl (1, 7, .inr (.inl (fun _ => 0))), .inr (2, [.ref 2, .ref 5, .ref 10, .ref 11, .null, .int 0]), .inr (6, [.ref 2, .ref 5, .null, .int 0, .long 0, .int 0, .null]), .inr (6, [.ref 2, .ref 5, .null, .int 0, .long 0, .int 0, .null]), .inr (7, [.ref 13, .ref 14, .ref 15, .int 0]), .inl (0, 61, .inl (fun _ => 0)), .inl (0, 61, .inl (fun _ => 0)), .inl (0, 1220, .inl (fun _ => 0)), .inr (0, [.ref 5, .ref 12, .ref 17, .int 0, .int 0, .null]), .inl (0, 3, .inl (fun _ => 0)), .inr (8, [.ref 19, .int 0, .int 0]), .inl (0, 50, .inl (fun _ => 0)), .inl (0, 3, .inl (fun _ => 0)), .inl (4, 10, .inr (.inr (.inr (.inr (fun _ => none))))), .inl (8, 30, .inr (.inr (.inr (.inr (fun _ => none))))), .inl (13, 30, .inr (.inr (.inr (.inr (fun _ => none))))), .inl (0, 3, .inl (fun _ => 0)), .inr (12, [.int 2, .ref 26, .ref 27, .int 0, .int 0, .ref 28, .ref 29, .ref 30, .ref 31, .ref 32, .ref 33, .int 0, .ref 34, .ref 35, .ref 36, .int 0, .ref 37, .ref 38, .ref 39, .int 0, .ref 40, .ref 41, .ref 42, .int 0, .ref 43, .ref 44, .ref 45, .ref 46, .int 0, .ref 47, .int 0, .int 0, .ref 48, .int 0, .int 0, .int 0, .int 0, .int 0, .ref 49]), .inl (0, 10, .inl (upd (upd (fun _ => 0) (0) (-4)) (1) 0)), .inl (0, 3, .inl (fun _ => 0)), .inl (0, 40, .inl (fun _ => 0)), .inl (0, 40, .inl (fun _ => 0)), .inl (0, 40, .inl (fun _ => 0)), .inl (0, 40, .inl (fun _ => 0)), .inl (0, 40, .inl (fun _ => 0)), .inl (0, 120, .inl (fun _ => 0)), .inl (0, 10, .inl (fun _ => 0)), .inl (0, 30, .inl (fun _ => 0)), .inl (0, 10, .inl (fun _ => 0)), .inl (0, 30, .inl (fun _ => 0)), .inl (0, 30, .inl (fun _ => 0)), .inl (0, 30, .inl (fun _ => 0)), .inl (0, 61, .inl (fun _ => 0)), .inl (0, 61, .inl (fun _ => 0)), .inl (0, 1300, .inl (fun _ => 0)), .inl (0, 30, .inl (fun _ => 0)), .inl (0, 30, .inl (fun _ => 0)), .inl (0, 30, .inl (fun _ => 0)), .inl (0, 3, .inl (fun _ => 0)), .inl (0, 50, .inl (fun _ => 0)), .inl (2, 40, .inl (fun _ => 0)), .inl (0, 3, .inl (fun _ => 0)), .inr (1, [.null, .int 0]), .inl (0, 0, .inl (va_cpy (fun _ => 0) (fun _ => 0) 0 0 0))]
def g8_4 (g : pm_C) (a : Int32) (b : Int32) (c : Int32) (d : Int32) : pm_H := [g, .inr (11, [.ref 2, .ref 5, .ref 9, .ref 12, .ref 16, .ref 18, .ref 20, .int 0, .ref 21, .int 0, .ref 22, .int 0, .ref 23, .int 0, .ref 24, .int 0, .int 0]), .inr (9, [.ref 3, .ref 4, .int 2]), .inl (0, 10, .inl (upd (upd (fun _ => 0) (0) (-1)) (1) 0)), .inl (0, 31, .inl (upd (upd (upd (upd (upd (upd (upd (fun _ => 0) (0) 1) (1) 3) (10) 1024) (11) 2048) (20) 1048577) (21) 3145729) (30) 1073741825)), .inr (4, [.ref 2, .ref 6, .int 0, .ref 7, .ref 8, .long 0, .long 0, .long 0]), .inl (6, 40, .inr (.inr (.inr (.inr (fun _ => none))))), .inl (1, 10, .inr (.inl (fun _ => 0))), .inl (1, 7, .inr (.inl (fun _ => 0))), .inr (2, [.ref 2, .ref 5, .ref 10, .ref 11, .null, .int 0]), .inr (6, [.ref 2, .ref 5, .null, .int 0, .long 0, .int 0, .null]), .inr (6, [.ref 2, .ref 5, .null, .int 0, .long 0, .int 0, .null]), .inr (7, [.ref 13, .ref 14, .ref 15, .int 0]), .inl (0, 61, .inl (fun _ => 0)), .inl (0, 61, .inl (fun _ => 0)), .inl (0, 1220, .inl (fun _ => 0)), .inr (0, [.ref 5, .ref 12, .ref 17, .int 0, .int 0, .null]), .inl (0, 3, .inl (fun _ => 0)), .inr (8, [.ref 19, .int 0, .int 0]), .inl (0, 50, .inl (fun _ => 0)), .inl (0, 3, .inl (fun _ => 0)), .inl (4, 10, .inr (.inr (.inr (.inr (fun _ => none))))), .inl (8, 30, .inr (.inr (.inr (.inr (fun _ => none))))), .inl (13, 30, .inr (.inr (.inr (.inr (fun _ => none))))), .inl (0, 3, .inl (fun _ => 0)), .inr (12, [.int 2, .ref 26, .ref 27, .int 0, .int 0, .ref 28, .ref 29, .ref 30, .ref 31, .ref 32, .ref 33, .int 0, .ref 34, .ref 35, .ref 36, .int 0, .ref 37, .ref 38, .ref 39, .int 0, .ref 40, .ref 41, .ref 42, .int 0, .ref 43, .ref 44, .ref 45, .ref 46, .int 0, .ref 47, .int 0, .int 0, .ref 48, .int 0, .int 0, .int 0, .int 0, .int 0, .ref 49]), .inl (0, 10, .inl (upd (upd (fun _ => 0) (0) (-4)) (1) 0)), .inl (0, 3, .inl (fun _ => 0)), .inl (0, 40, .inl (fun _ => 0)), .inl (0, 40, .inl (fun _ => 0)), .inl (0, 40, .inl (fun _ => 0)), .inl (0, 40, .inl (fun _ => 0)), .inl (0, 40, .inl (fun _ => 0)), .inl (0, 120, .inl (fun _ => 0)), .inl (0, 10, .inl (fun _ => 0)), .inl (0, 30, .inl (fun _ => 0)), .inl (0, 10, .inl (fun _ => 0)), .inl (0, 30, .inl (fun _ => 0)), .inl (0, 30, .inl (fun _ => 0)), .inl (0, 30, .inl (fun _ => 0)), .inl (0, 61, .inl (fun _ => 0)), .inl (0, 61, .inl (fun _ => 0)), .inl (0, 1300, .inl (fun _ => 0)), .inl (0, 30, .inl (fun _ => 0)), .inl (0, 30, .inl (fun _ => 0)), .inl (0, 30, .inl (fun _ => 0)), .inl (0, 3, .inl (fun _ => 0)), .inl (0, 50, .inl (fun _ => 0)), .inl (2, 40, .inl (fun _ => 0)), .inl (0, 3, .inl (fun _ => 0)), .inr (1, [.ref 51, .int 0]), .inl (0, 0, .inl (va_cpy (fun _ => 0) (fun _ => 0) 0 0 0))]
def g8_5 (g : pm_C) (a : Int32) (b : Int32) (c : Int32) (d : Int32) : pm_H := [g, .inr (11, [.ref 2, .ref 5, .ref 9, .ref 12, .ref 16, .ref 18, .ref 20, .int 0, .ref 21, .int 0, .ref 22, .int 0, .ref 23, .int 0, .ref 24, .int 0, .int 0]), .inr (9, [.ref 3, .ref 4, .int 2]), .inl (0, 10, .inl (upd (upd (fun _ => 0) (0) (-1)) (1) 0)), .inl (0, 31, .inl (upd (upd (upd (upd (upd (upd (upd (fun _ => 0) (0) 1) (1) 3) (10) 1024) (11) 2048) (20) 1048577) (21) 3145729) (30) 1073741825)), .inr (4, [.ref 2, .ref 6, .int 0, .ref 7, .ref 8, .long 0, .long 0, .long 0]), .inl (6, 40, .inr (.inr (.inr (.inr (fun _ => none))))), .inl (1, 10, .inr (.inl (fun _ => 0))), .inl (1, 7, .inr (.inl (fun _ => 0))), .inr (2, [.ref 2, .ref 5, .ref 10, .ref 11, .null, .int 0]), .inr (6, [.ref 2, .ref 5, .null, .int 0, .long 0, .int 0, .null]), .inr (6, [.ref 2, .ref 5, .null, .int 0, .long 0, .int 0, .null]), .inr (7, [.ref 13, .ref 14, .ref 15, .int 0]), .inl (0, 61, .inl (fun _ => 0)), .inl (0, 61, .inl (fun _ => 0)), .inl (0, 1220, .inl (fun _ => 0)), .inr (0, [.ref 5, .ref 12, .ref 17, .int 0, .int 0, .null]), .inl (0, 3, .inl (fun _ => 0)), .inr (8, [.ref 19, .int 0, .int 0]), .inl (0, 50, .inl (fun _ => 0)), .inl (0, 3, .inl (fun _ => 0)), .inl (4, 10, .inr (.inr (.inr (.inr (fun _ => none))))), .inl (8, 30, .inr (.inr (.inr (.inr (fun _ => none))))), .inl (13, 30, .inr (.inr (.inr (.inr (fun _ => none))))), .inl (0, 3, .inl (fun _ => 0)), .inr (12, [.int 2, .ref 26, .ref 27, .int 0, .int 0, .ref 28, .ref 29, .ref 30, .ref 31, .ref 32, .ref 33, .int 0, .ref 34, .ref 35, .ref 36, .int 0, .ref 37, .ref 38, .ref 39, .int 0, .ref 40, .ref 41, .ref 42, .int 0, .ref 43, .ref 44, .ref 45, .ref 46, .int 0, .ref 47, .int 0, .int 0, .ref 48, .int 0, .int 0, .int 0, .int 0, .int 0, .ref 49]), .inl (0, 10, .inl (upd (upd (fun _ => 0) (0) (-4)) (1) 0)), .inl (0, 3, .inl (fun _ => 0)), .inl (0, 40, .inl (fun _ => 0)), .inl (0, 40, .inl (fun _ => 0)), .inl (0, 40, .inl (fun _ => 0)), .inl (0, 40, .inl (fun _ => 0)), .inl (0, 40, .inl (fun _ => 0)), .inl (0, 120, .inl (fun _ => 0)), .inl (0, 10, .inl (fun _ => 0)), .inl (0, 30, .inl (fun _ => 0)), .inl (0, 10, .inl (fun _ => 0)), .inl (0, 30, .inl (fun _ => 0)), .inl (0, 30, .inl (fun _ => 0)), .inl (0, 30, .inl (fun _ => 0)), .inl (0, 61, .inl (fun _ => 0)), .inl (0, 61, .inl (fun _ => 0)), .inl (0, 1300, .inl (fun _ => 0)), .inl (0, 30, .inl (fun _ => 0)), .inl (0, 30, .inl (fun _ => 0)), .inl (0, 30, .inl (fun _ => 0)), .inl (0, 3, .inl (fun _ => 0)), .inl (0, 50, .inl (fun _ => 0)), .inl (2, 40, .inl (fun _ => 0)), .inl (0, 3, .inl (fun _ => 0)), .inr (1, [.ref 51, .int (a)]), .inl (0, 0, .inl (va_cpy (fun _ => 0) (fun _ => 0) 0 0 0))]
def g8_6 (g : pm_C) (a : Int32) (b : Int32) (c : Int32) (d : Int32) : pm_H := [g, .inr (11, [.ref 2, .ref 5, .ref 9, .ref 12, .ref 16, .ref 18, .ref 20, .int 0, .ref 21, .int 0, .ref 22, .int 0, .ref 23, .int 0, .ref 24, .int 0, .int 0]), .inr (9, [.ref 3, .ref 4, .int 2]), .inl (0, 10, .inl (upd (upd (fun _ => 0) (0) (-1)) (1) 0)), .inl (0, 31, .inl (upd (upd (upd (upd (upd (upd (upd (fun _ => 0) (0) 1) (1) 3) (10) 1024) (11) 2048) (20) 1048577) (21) 3145729) (30) 1073741825)), .inr (4, [.ref 2, .ref 6, .int 0, .ref 7, .ref 8, .long 0, .long 0, .long 0]), .inl (6, 40, .inr (.inr (.inr (.inr (fun _ => none))))), .inl (1, 10, .inr (.inl (fun _ => 0))), .inl (1, 7, .inr (.inl (fun _ => 0))), .inr (2, [.ref 2, .ref 5, .ref 10, .ref 11, .null, .int 0]), .inr (6, [.ref 2, .ref 5, .null, .int 0, .long 0, .int 0, .null]), .inr (6, [.ref 2, .ref 5, .null, .int 0, .long 0, .int 0, .null]), .inr (7, [.ref 13, .ref 14, .ref 15, .int 0]), .inl (0, 61, .inl (fun _ => 0)), .inl (0, 61, .inl (fun _ => 0)), .inl (0, 1220, .inl (fun _ => 0)), .inr (0, [.ref 5, .ref 12, .ref 17, .int 0, .int 0, .null]), .inl (0, 3, .inl (fun _ => 0)), .inr (8, [.ref 19, .int 0, .int 0]), .inl (0, 50, .inl (fun _ => 0)), .inl (0, 3, .inl (fun _ => 0)), .inl (4, 10, .inr (.inr (.inr (.inr (va_up (fun _ => none) (0) (some 50)))))), .inl (8, 30, .inr (.inr (.inr (.inr (fun _ => none))))), .inl (13, 30, .inr (.inr (.inr (.inr (fun _ => none))))), .inl (0, 3, .inl (fun _ => 0)), .inr (12, [.int 2, .ref 26, .ref 27, .int 0, .int 0, .ref 28, .ref 29, .ref 30, .ref 31, .ref 32, .ref 33, .int 0, .ref 34, .ref 35, .ref 36, .int 0, .ref 37, .ref 38, .ref 39, .int 0, .ref 40, .ref 41, .ref 42, .int 0, .ref 43, .ref 44, .ref 45, .ref 46, .int 0, .ref 47, .int 0, .int 0, .ref 48, .int 0, .int 0, .int 0, .int 0, .int 0, .ref 49]), .inl (0, 10, .inl (upd (upd (fun _ => 0) (0) (-4)) (1) 0)), .inl (0, 3, .inl (fun _ => 0)), .inl (0, 40, .inl (fun _ => 0)), .inl (0, 40, .inl (fun _ => 0)), .inl (0, 40, .inl (fun _ => 0)), .inl (0, 40, .inl (fun _ => 0)), .inl (0, 40, .inl (fun _ => 0)), .inl (0, 120, .inl (fun _ => 0)), .inl (0, 10, .inl (fun _ => 0)), .inl (0, 30, .inl (fun _ => 0)), .inl (0, 10, .inl (fun _ => 0)), .inl (0, 30, .inl (fun _ => 0)), .inl (0, 30, .inl (fun _ => 0)), .inl (0, 30, .inl (fun _ => 0)), .inl (0, 61, .inl (fun _ => 0)), .inl (0, 61, .inl (fun _ => 0)), .inl (0, 1300, .inl (fun _ => 0)), .inl (0, 30, .inl (fun _ => 0)), .inl (0, 30, .inl (fun _ => 0)), .inl (0, 30, .inl (fun _ => 0)), .inl (0, 3, .inl (fun _ => 0)), .inl (0, 50, .inl (fun _ => 0)), .inl (2, 40, .inl (fun _ => 0)), .inl (0, 3, .inl (fun _ => 0)), .inr (1, [.ref 51, .int (a)]), .inl (0, 0, .inl (va_cpy (fun _ => 0) (fun _ => 0) 0 0 0))]
def g8_7 (g : pm_C) (a : Int32) (b : Int32) (c : Int32) (d : Int32) : pm_H := [g, .inr (11, [.ref 2, .ref 5, .ref 9, .ref 12, .ref 16, .ref 18, .ref 20, .int 0, .ref 21, .int 1, .ref 22, .int 0, .ref 23, .int 0, .ref 24, .int 0, .int 0]), .inr (9, [.ref 3, .ref 4, .int 2]), .inl (0, 10, .inl (upd (upd (fun _ => 0) (0) (-1)) (1) 0)), .inl (0, 31, .inl (upd (upd (upd (upd (upd (upd (upd (fun _ => 0) (0) 1) (1) 3) (10) 1024) (11) 2048) (20) 1048577) (21) 3145729) (30) 1073741825)), .inr (4, [.ref 2, .ref 6, .int 0, .ref 7, .ref 8, .long 0, .long 0, .long 0]), .inl (6, 40, .inr (.inr (.inr (.inr (fun _ => none))))), .inl (1, 10, .inr (.inl (fun _ => 0))), .inl (1, 7, .inr (.inl (fun _ => 0))), .inr (2, [.ref 2, .ref 5, .ref 10, .ref 11, .null, .int 0]), .inr (6, [.ref 2, .ref 5, .null, .int 0, .long 0, .int 0, .null]), .inr (6, [.ref 2, .ref 5, .null, .int 0, .long 0, .int 0, .null]), .inr (7, [.ref 13, .ref 14, .ref 15, .int 0]), .inl (0, 61, .inl (fun _ => 0)), .inl (0, 61, .inl (fun _ => 0)), .inl (0, 1220, .inl (fun _ => 0)), .inr (0, [.ref 5, .ref 12, .ref 17, .int 0, .int 0, .null]), .inl (0, 3, .inl (fun _ => 0)), .inr (8, [.ref 19, .int 0, .int 0]), .inl (0, 50, .inl (fun _ => 0)), .inl (0, 3, .inl (fun _ => 0)), .inl (4, 10, .inr (.inr (.inr (.inr (va_up (fun _ => none) (0) (some 50)))))), .inl (8, 30, .inr (.inr (.inr (.inr (fun _ => none))))), .inl (13, 30, .inr (.inr (.inr (.inr (fun _ => none))))), .inl (0, 3, .inl (fun _ => 0)), .inr (12, [.int 2, .ref 26, .ref 27, .int 0, .int 0, .ref 28, .ref 29, .ref 30, .ref 31, .ref 32, .ref 33, .int 0, .ref 34, .ref 35, .ref 36, .int 0, .ref 37, .ref 38, .ref 39, .int 0, .ref 40, .ref 41, .ref 42, .int 0, .ref 43, .ref 44, .ref 45, .ref 46, .int 0, .ref 47, .int 0, .int 0, .ref 48, .int 0, .int 0, .int 0, .int 0, .int 0, .ref 49]), .inl (0, 10, .inl (upd (upd (fun _ => 0) (0) (-4)) (1) 0)), .inl (0, 3, .inl (fun _ => 0)), .inl (0, 40, .inl (fun _ => 0)), .inl (0, 40, .inl (fun _ => 0)), .inl (0, 40, .inl (fun _ => 0)), .inl (0, 40, .inl (fun _ => 0)), .inl (0, 40, .inl (fun _ => 0)), .inl (0, 120, .inl (fun _ => 0)), .inl (0, 10, .inl (fun _ => 0)), .inl (0, 30, .inl (fun _ => 0)), .inl (0, 10, .inl (fun _ => 0)), .inl (0, 30, .inl (fun _ => 0)), .inl (0, 30, .inl (fun _ => 0)), .inl (0, 30, .inl (fun _ => 0)), .inl (0, 61, .inl (fun _ => 0)), .inl (0, 61, .inl (fun _ => 0)), .inl (0, 1300, .inl (fun _ => 0)), .inl (0, 30, .inl (fun _ => 0)), .inl (0, 30, .inl (fun _ => 0)), .inl (0, 30, .inl (fun _ => 0)), .inl (0, 3, .inl (fun _ => 0)), .inl (0, 50, .inl (fun _ => 0)), .inl (2, 40, .inl (fun _ => 0)), .inl (0, 3, .inl (fun _ => 0)), .inr (1, [.ref 51, .int (a)]), .inl (0, 0, .inl (va_cpy (fun _ => 0) (fun _ => 0) 0 0 0))]
def g8_8 (g : pm_C) (a : Int32) (b : Int32) (c : Int32) (d : Int32) : pm_H := [g, .inr (11, [.ref 2, .ref 5, .ref 9, .ref 12, .ref 16, .ref 18, .ref 20, .int 0, .ref 21, .int 1, .ref 22, .int 0, .ref 23, .int 0, .ref 24, .int 0, .int 0]), .inr (9, [.ref 3, .ref 4, .int 2]), .inl (0, 10, .inl (upd (upd (fun _ => 0) (0) (-1)) (1) 0)), .inl (0, 31, .inl (upd (upd (upd (upd (upd (upd (upd (fun _ => 0) (0) 1) (1) 3) (10) 1024) (11) 2048) (20) 1048577) (21) 3145729) (30) 1073741825)), .inr (4, [.ref 2, .ref 6, .int 0, .ref 7, .ref 8, .long 0, .long 0, .long 0]), .inl (6, 40, .inr (.inr (.inr (.inr (fun _ => none))))), .inl (1, 10, .inr (.inl (fun _ => 0))), .inl (1, 7, .inr (.inl (fun _ => 0))), .inr (2, [.ref 2, .ref 5, .ref 10, .ref 11, .null, .int 0]), .inr (6, [.ref 2, .ref 5, .null, .int 0, .long 0, .int 0, .null]), .inr (6, [.ref 2, .ref 5, .null, .int 0, .long 0, .int 0, .null]), .inr (7, [.ref 13, .ref 14, .ref 15, .int 0]), .inl (0, 61, .inl (fun _ => 0)), .inl (0, 61, .inl (fun _ => 0)), .inl (0, 1220, .inl (fun _ => 0)), .inr (0, [.ref 5, .ref 12, .ref 17, .int 0, .int 0, .null]), .inl (0, 3, .inl (fun _ => 0)), .inr (8, [.ref 19, .int 0, .int 0]), .inl (0, 50, .inl (fun _ => 0)), .inl (0, 3, .inl (fun _ => 0)), .inl (4, 10, .inr (.inr (.inr (.inr (va_up (fun _ => none) (0) (some 50)))))), .inl (8, 30, .inr (.inr (.inr (.inr (fun _ => none))))), .inl (13, 30, .inr (.inr (.inr (.inr (fun _ => none))))), .inl (0, 3, .inl (fun _ => 0)), .inr (12, [.int 2, .ref 26, .ref 27, .int 0, .int 0, .ref 28, .ref 29, .ref 30, .ref 31, .ref 32, .ref 33, .int 0, .ref 34, .ref 35, .ref 36, .int 0, .ref 37, .ref 38, .ref 39, .int 0, .ref 40, .ref 41, .ref 42, .int 0, .ref 43, .ref 44, .ref 45, .ref 46, .int 0, .ref 47, .int 0, .int 0, .ref 48, .int 0, .int 0, .int 0, .int 0, .int 0, .ref 49]), .inl (0, 10, .inl (upd (upd (fun _ => 0) (0) (-4)) (1) 0)), .inl (0, 3, .inl (fun _ => 0)), .inl (0, 40, .inl (fun _ => 0)), .inl (0, 40, .inl (fun _ => 0)), .inl (0, 40, .inl (fun _ => 0)), .inl (0, 40, .inl (fun _ => 0)), .inl (0, 40, .inl (fun _ => 0)), .inl (0, 120, .inl (fun _ => 0)), .inl (0, 10, .inl (fun _ => 0)), .inl (0, 30, .inl (fun _ => 0)), .inl (0, 10, .inl (fun _ => 0)), .inl (0, 30, .inl (fun _ => 0)), .inl (0, 30, .inl (fun _ => 0)), .inl (0, 30, .inl (fun _ => 0)), .inl (0, 61, .inl (fun _ => 0)), .inl (0, 61, .inl (fun _ => 0)), .inl (0, 1300, .inl (fun _ => 0)), .inl (0, 30, .inl (fun _ => 0)), .inl (0, 30, .inl (fun _ => 0)), .inl (0, 30, .inl (fun _ => 0)), .inl (0, 3, .inl (fun _ => 0)), .inl (0, 50, .inl (fun _ => 0)), .inl (2, 40, .inl (fun _ => 0)), .inl (0, 3, .inl (fun _ => 0)), .inr (1, [.ref 51, .int 10]), .inl (0, 0, .inl (va_cpy (fun _ => 0) (fun _ => 0) 0 0 0))]
def g8_9 (g : pm_C) (a : Int32) (b : Int32) (c : Int32) (d : Int32) : pm_H := [g, .inr (11, [.ref 2, .ref 5, .ref 9, .ref 12, .ref 16, .ref 18, .ref 20, .int 0, .ref 21, .int 1, .ref 22, .int 0, .ref 23, .int 0, .ref 24, .int 0, .int 0]), .inr (9, [.ref 3, .ref 4, .int 2]), .inl (0, 10, .inl (upd (upd (fun _ => 0) (0) (-1)) (1) 0)), .inl (0, 31, .inl (upd (upd (upd (upd (upd (upd (upd (fun _ => 0) (0) 1) (1) 3) (10) 1024) (11) 2048) (20) 1048577) (21) 3145729) (30) 1073741825)), .inr (4, [.ref 2, .ref 6, .int 0, .ref 7, .ref 8, .long 0, .long 0, .long 0]), .inl (6, 40, .inr (.inr (.inr (.inr (fun _ => none))))), .inl (1, 10, .inr (.inl (fun _ => 0))), .inl (1, 7, .inr (.inl (fun _ => 0))), .inr (2, [.ref 2, .ref 5, .ref 10, .ref 11, .null, .int 0]), .inr (6, [.ref 2, .ref 5, .null, .int 0, .long 0, .int 0, .null]), .inr (6, [.ref 2, .ref 5, .null, .int 0, .long 0, .int 0, .null]), .inr (7, [.ref 13, .ref 14, .ref 15, .int 0]), .inl (0, 61, .inl (fun _ => 0)), .inl (0, 61, .inl (fun _ => 0)), .inl (0, 1220, .inl (fun _ => 0)), .inr (0, [.ref 5, .ref 12, .ref 17, .int 0, .int 0, .null]), .inl (0, 3, .inl (fun _ => 0)), .inr (8, [.ref 19, .int 0, .int 0]), .inl (0, 50, .inl (fun _ => 0)), .inl (0, 3, .inl (fun _ => 0)), .inl (4, 10, .inr (.inr (.inr (.inr (va_up (fun _ => none) (0) (some 50)))))), .inl (8, 30, .inr (.inr (.inr (.inr (fun _ => none))))), .inl (13, 30, .inr (.inr (.inr (.inr (fun _ => none))))), .inl (0, 3, .inl (fun _ => 0)), .inr (12, [.int 2, .ref 26, .ref 27, .int 0, .int 0, .ref 28, .ref 29, .ref 30, .ref 31, .ref 32, .ref 33, .int 0, .ref 34, .ref 35, .ref 36, .int 0, .ref 37, .ref 38, .ref 39, .int 0, .ref 40, .ref 41, .ref 42, .int 0, .ref 43, .ref 44, .ref 45, .ref 46, .int 0, .ref 47, .int 0, .int 0, .ref 48, .int 0, .int 0, .int 0, .int 0, .int 0, .ref 49]), .inl (0, 10, .inl (upd (upd (fun _ => 0) (0) (-4)) (1) 0)), .inl (0, 3, .inl (fun _ => 0)), .inl (0, 40, .inl (fun _ => 0)), .inl (0, 40, .inl (fun _ => 0)), .inl (0, 40, .inl (fun _ => 0)), .inl (0, 40, .inl (fun _ => 0)), .inl (0, 40, .inl (fun _ => 0)), .inl (0, 120, .inl (fun _ => 0)), .inl (0, 10, .inl (upd (fun _ => 0) (0) 0)), .inl (0, 30, .inl (fun _ => 0)), .inl (0, 10, .inl (fun _ => 0)), .inl (0, 30, .inl (fun _ => 0)), .inl (0, 30, .inl (fun _ => 0)), .inl (0, 30, .inl (fun _ => 0)), .inl (0, 61, .inl (fun _ => 0)), .inl (0, 61, .inl (fun _ => 0)), .inl (0, 1300, .inl (fun _ => 0)), .inl (0, 30, .inl (fun _ => 0)), .inl (0, 30, .inl (fun _ => 0)), .inl (0, 30, .inl (fun _ => 0)), .inl (0, 3, .inl (fun _ => 0)), .inl (0, 50, .inl (fun _ => 0)), .inl (2, 40, .inl (fun _ => 0)), .inl (0, 3, .inl (fun _ => 0)), .inr (1, [.ref 51, .int 10]), .inl (0, 0, .inl (va_cpy (fun _ => 0) (fun _ => 0) 0 0 0))]
def g8_10 (g : pm_C) (a : Int32) (b : Int32) (c : Int32) (d : Int32) : pm_H := [g, .inr (11, [.ref 2, .ref 5, .ref 9, .ref 12, .ref 16, .ref 18, .ref 20, .int 0, .ref 21, .int 1, .ref 22, .int 0, .ref 23, .int 0, .ref 24, .int 0, .int 0]), .inr (9, [.ref 3, .ref 4, .int 2]), .inl (0, 10, .inl (upd (upd (fun _ => 0) (0) (-1)) (1) 0)), .inl (0, 31, .inl (upd (upd (upd (upd (upd (upd (upd (fun _ => 0) (0) 1) (1) 3) (10) 1024) (11) 2048) (20) 1048577) (21) 3145729) (30) 1073741825)), .inr (4, [.ref 2, .ref 6, .int 0, .ref 7, .ref 8, .long 0, .long 0, .long 0]), .inl (6, 40, .inr (.inr (.inr (.inr (fun _ => none))))), .inl (1, 10, .inr (.inl (fun _ => 0))), .inl (1, 7, .inr (.inl (fun _ => 0))), .inr (2, [.ref 2, .ref 5, .ref 10, .ref 11, .null, .int 0]), .inr (6, [.ref 2, .ref 5, .null, .int 0, .long 0, .int 0, .null]), .inr (6, [.ref 2, .ref 5, .null, .int 0, .long 0, .int 0, .null]), .inr (7, [.ref 13, .ref 14, .ref 15, .int 0]), .inl (0, 61, .inl (fun _ => 0)), .inl (0, 61, .inl (fun _ => 0)), .inl (0, 1220, .inl (fun _ => 0)), .inr (0, [.ref 5, .ref 12, .ref 17, .int 0, .int 0, .null]), .inl (0, 3, .inl (fun _ => 0)), .inr (8, [.ref 19, .int 0, .int 0]), .inl (0, 50, .inl (fun _ => 0)), .inl (0, 3, .inl (fun _ => 0)), .inl (4, 10, .inr (.inr (.inr (.inr (va_up (fun _ => none) (0) (some 50)))))), .inl (8, 30, .inr (.inr (.inr (.inr (fun _ => none))))), .inl (13, 30, .inr (.inr (.inr (.inr (fun _ => none))))), .inl (0, 3, .inl (fun _ => 0)), .inr (12, [.int 2, .ref 26, .ref 27, .int 0, .int 0, .ref 28, .ref 29, .ref 30, .ref 31, .ref 32, .ref 33, .int 0, .ref 34, .ref 35, .ref 36, .int 0, .ref 37, .ref 38, .ref 39, .int 0, .ref 40, .ref 41, .ref 42, .int 0, .ref 43, .ref 44, .ref 45, .ref 46, .int 0, .ref 47, .int 0, .int 0, .ref 48, .int 0, .int 0, .int 0, .int 0, .int 0, .ref 49]), .inl (0, 10, .inl (upd (upd (fun _ => 0) (0) (-4)) (1) 0)), .inl (0, 3, .inl (fun _ => 0)), .inl (0, 40, .inl (fun _ => 0)), .inl (0, 40, .inl (fun _ => 0)), .inl (0, 40, .inl (fun _ => 0)), .inl (0, 40, .inl (fun _ => 0)), .inl (0, 40, .inl (fun _ => 0)), .inl (0, 120, .inl (fun _ => 0)), .inl (0, 10, .inl (upd (fun _ => 0) (0) 0)), .inl (0, 30, .inl (fun _ => 0)), .inl (0, 10, .inl (upd (fun _ => 0) (0) 10)), .inl (0, 30, .inl (fun _ => 0)), .inl (0, 30, .inl (fun _ => 0)), .inl (0, 30, .inl (fun _ => 0)), .inl (0, 61, .inl (fun _ => 0)), .inl (0, 61, .inl (fun _ => 0)), .inl (0, 1300, .inl (fun _ => 0)), .inl (0, 30, .inl (fun _ => 0)), .inl (0, 30, .inl (fun _ => 0)), .inl (0, 30, .inl (fun _ => 0)), .inl (0, 3, .inl (fun _ => 0)), .inl (0, 50, .inl (fun _ => 0)), .inl (2, 40, .inl (fun _ => 0)), .inl (0, 3, .inl (fun _ => 0)), .inr (1, [.ref 51, .int 10]), .inl (0, 0, .inl (va_cpy (fun _ => 0) (fun _ => 0) 0 0 0))]
def g8_11 (g : pm_C) (a : Int32) (b : Int32) (c : Int32) (d : Int32) : pm_H := [g, .inr (11, [.ref 2, .ref 5, .ref 9, .ref 12, .ref 16, .ref 18, .ref 20, .int 0, .ref 21, .int 1, .ref 22, .int 0, .ref 23, .int 0, .ref 24, .int 0, .int 0]), .inr (9, [.ref 3, .ref 4, .int 2]), .inl (0, 10, .inl (upd (upd (fun _ => 0) (0) (-1)) (1) 0)), .inl (0, 31, .inl (upd (upd (upd (upd (upd (upd (upd (fun _ => 0) (0) 1) (1) 3) (10) 1024) (11) 2048) (20) 1048577) (21) 3145729) (30) 1073741825)), .inr (4, [.ref 2, .ref 6, .int 0, .ref 7, .ref 8, .long 0, .long 0, .long 0]), .inl (6, 40, .inr (.inr (.inr (.inr (fun _ => none))))), .inl (1, 10, .inr (.inl (fun _ => 0))), .inl (1, 7, .inr (.inl (fun _ => 0))), .inr (2, [.ref 2, .ref 5, .ref 10, .ref 11, .null, .int 0]), .inr (6, [.ref 2, .ref 5, .null, .int 0, .long 0, .int 0, .null]), .inr (6, [.ref 2, .ref 5, .null, .int 0, .long 0, .int 0, .null]), .inr (7, [.ref 13, .ref 14, .ref 15, .int 0]), .inl (0, 61, .inl (fun _ => 0)), .inl (0, 61, .inl (fun _ => 0)), .inl (0, 1220, .inl (fun _ => 0)), .inr (0, [.ref 5, .ref 12, .ref 17, .int 0, .int 0, .null]), .inl (0, 3, .inl (fun _ => 0)), .inr (8, [.ref 19, .int 0, .int 0]), .inl (0, 50, .inl (fun _ => 0)), .inl (0, 3, .inl (fun _ => 0)), .inl (4, 10, .inr (.inr (.inr (.inr (va_up (fun _ => none) (0) (some 50)))))), .inl (8, 30, .inr (.inr (.inr (.inr (fun _ => none))))), .inl (13, 30, .inr (.inr (.inr (.inr (fun _ => none))))), .inl (0, 3, .inl (fun _ => 0)), .inr (12, [.int 2, .ref 26, .ref 27, .int 0, .int 0, .ref 28, .ref 29, .ref 30, .ref 31, .ref 32, .ref 33, .int 1, .ref 34, .ref 35, .ref 36, .int 0, .ref 37, .ref 38, .ref 39, .int 0, .ref 40, .ref 41, .ref 42, .int 0, .ref 43, .ref 44, .ref 45, .ref 46, .int 0, .ref 47, .int 0, .int 0, .ref 48, .int 0, .int 0, .int 0, .int 0, .int 0, .ref 49]), .inl (0, 10, .inl (upd (upd (fun _ => 0) (0) (-4)) (1) 0)), .inl (0, 3, .inl (fun _ => 0)), .inl (0, 40, .inl (fun _ => 0)), .inl (0, 40, .inl (fun _ => 0)), .inl (0, 40, .inl (fun _ => 0)), .inl (0, 40, .inl (fun _ => 0)), .inl (0, 40, .inl (fun _ => 0)), .inl (0, 120, .inl (fun _ => 0)), .inl (0, 10, .inl (upd (fun _ => 0) (0) 0)), .inl (0, 30, .inl (fun _ => 0)), .inl (0, 10, .inl (upd (fun _ => 0) (0) 10)), .inl (0, 30, .inl (fun _ => 0)), .inl (0, 30, .inl (fun _ => 0)), .inl (0, 30, .inl (fun _ => 0)), .inl (0, 61, .inl (fun _ => 0)), .inl (0, 61, .inl (fun _ => 0)), .inl (0, 1300, .inl (fun _ => 0)), .inl (0, 30, .inl (fun _ => 0)), .inl (0, 30, .inl (fun _ => 0)), .inl (0, 30, .inl (fun _ => 0)), .inl (0, 3, .inl (fun _ => 0)), .inl (0, 50, .inl (fun _ => 0)), .inl (2, 40, .inl (fun _ => 0)), .inl (0, 3, .inl (fun _ => 0)), .inr (1, [.ref 51, .int 10]), .inl (0, 0, .inl (va_cpy (fun _ => 0) (fun _ => 0) 0 0 0))]
def g8_12 (g : pm_C) (a : Int32) (b : Int32) (c : Int32) (d : Int32) : pm_H := [g, .inr (11, [.ref 2, .ref 5, .ref 9, .ref 12, .ref 16, .ref 18, .ref 20, .int 0, .ref 21, .int 1, .ref 22, .int 0, .ref 23, .int 0, .ref 24, .int 0, .int 0]), .inr (9, [.ref 3, .ref 4, .int 2]), .inl (0, 10, .inl (upd (upd (fun _ => 0) (0) (-1)) (1) 0)), .inl (0, 31, .inl (upd (upd (upd (upd (upd (upd (upd (fun _ => 0) (0) 1) (1) 3) (10) 1024) (11) 2048) (20) 1048577) (21) 3145729) (30) 1073741825)), .inr (4, [.ref 2, .ref 6, .int 0, .ref 7, .ref 8, .long 0, .long 0, .long 0]), .inl (6, 40, .inr (.inr (.inr (.inr (fun _ => none))))), .inl (1, 10, .inr (.inl (fun _ => 0))), .inl (1, 7, .inr (.inl (fun _ => 0))), .inr (2, [.ref 2, .ref 5, .ref 10, .ref 11, .null, .int 0]), .inr (6, [.ref 2, .ref 5, .null, .int 0, .long 0, .int 0, .null]), .inr (6, [.ref 2, .ref 5, .null, .int 0, .long 0, .int 0, .null]), .inr (7, [.ref 13, .ref 14, .ref 15, .int 0]), .inl (0, 61, .inl (fun _ => 0)), .inl (0, 61, .inl (fun _ => 0)), .inl (0, 1220, .inl (fun _ => 0)), .inr (0, [.ref 5, .ref 12, .ref 17, .int 0, .int 0, .null]), .inl (0, 3, .inl (fun _ => 0)), .inr (8, [.ref 19, .int 0, .int 0]), .inl (0, 50, .inl (fun _ => 0)), .inl (0, 3, .inl (fun _ => 0)), .inl (4, 10, .inr (.inr (.inr (.inr (va_up (fun _ => none) (0) (some 50)))))), .inl (8, 30, .inr (.inr (.inr (.inr (fun _ => none))))), .inl (13, 30, .inr (.inr (.inr (.inr (fun _ => none))))), .inl (0, 3, .inl (fun _ => 0)), .inr (12, [.int 2, .ref 26, .ref 27, .int 0, .int 0, .ref 28, .ref 29, .ref 30, .ref 31, .ref 32, .ref 33, .int 0, .ref 34, .ref 35, .ref 36, .int 0, .ref 37, .ref 38, .ref 39, .int 0, .ref 40, .ref 41, .ref 42, .int 0, .ref 43, .ref 44, .ref 45, .ref 46, .int 0, .ref 47, .int 0, .int 0, .ref 48, .int 0, .int 0, .int 0, .int 0, .int 0, .ref 49]), .inl (0, 10, .inl (upd (upd (fun _ => 0) (0) (-4)) (1) 0)), .inl (0, 3, .inl (fun _ => 0)), .inl (0, 40, .inl (fun _ => 0)), .inl (0, 40, .inl (fun _ => 0)), .inl (0, 40, .inl (fun _ => 0)), .inl (0, 40, .inl (fun _ => 0)), .inl (0, 40, .inl (fun _ => 0)), .inl (0, 120, .inl (fun _ => 0)), .inl (0, 10, .inl (fun _ => 0)), .inl (0, 30, .inl (fun _ => 0)), .inl (0, 10, .inl (fun _ => 0)), .inl (0, 30, .inl (fun _ => 0)), .inl (0, 30, .inl (fun _ => 0)), .inl (0, 30, .inl (fun _ => 0)), .inl (0, 61, .inl (fun _ => 0)), .inl (0, 61, .inl (fun _ => 0)), .inl (0, 1300, .inl (fun _ => 0)), .inl (0, 30, .inl (fun _ => 0)), .inl (0, 30, .inl (fun _ => 0)), .inl (0, 30, .inl (fun _ => 0)), .inl (0, 3, .inl (fun _ => 0)), .inl (0, 50, .inl (fun _ => 0)), .inl (2, 40, .inl (fun _ => 0)), .inl (0, 3, .inl (fun _ => 0)), .inr (1, [.ref 51, .int 11]), .inl (0, 0, .inl (va_cpy (fun _ => 0) (fun _ => 0) 0 0 0))]
def g8_13 (g : pm_C) (a : Int32) (b : Int32) (c : Int32) (d : Int32) : pm_H := [g, .inr (11, [.ref 2, .ref 5, .ref 9, .ref 12, .ref 16, .ref 18, .ref 20, .int 0, .ref 21, .int 1, .ref 22, .int 0, .ref 23, .int 0, .ref 24, .int 0, .int 0]), .inr (9, [.ref 3, .ref 4, .int 2]), .inl (0, 10, .inl (upd (upd (fun _ => 0) (0) (-1)) (1) 0)), .inl (0, 31, .inl (upd (upd (upd (upd (upd (upd (upd (fun _ => 0) (0) 1) (1) 3) (10) 1024) (11) 2048) (20) 1048577) (21) 3145729) (30) 1073741825)), .inr (4, [.ref 2, .ref 6, .int 0, .ref 7, .ref 8, .long 0, .long 0, .long 0]), .inl (6, 40, .inr (.inr (.inr (.inr (fun _ => none))))), .inl (1, 10, .inr (.inl (fun _ => 0))), .inl (1, 7, .inr (.inl (fun _ => 0))), .inr (2, [.ref 2, .ref 5, .ref 10, .ref 11, .null, .int 0]), .inr (6, [.ref 2, .ref 5, .null, .int 0, .long 0, .int 0, .null]), .inr (6, [.ref 2, .ref 5, .null, .int 0, .long 0, .int 0, .null]), .inr (7, [.ref 13, .ref 14, .ref 15, .int 0]), .inl (0, 61, .inl (fun _ => 0)), .inl (0, 61, .inl (fun _ => 0)), .inl (0, 1220, .inl (fun _ => 0)), .inr (0, [.ref 5, .ref 12, .ref 17, .int 0, .int 0, .null]), .inl (0, 3, .inl (fun _ => 0)), .inr (8, [.ref 19, .int 0, .int 0]), .inl (0, 50, .inl (fun _ => 0)), .inl (0, 3, .inl (fun _ => 0)), .inl (4, 10, .inr (.inr (.inr (.inr (va_up (fun _ => none) (0) (some 50)))))), .inl (8, 30, .inr (.inr (.inr (.inr (fun _ => none))))), .inl (13, 30, .inr (.inr (.inr (.inr (fun _ => none))))), .inl (0, 3, .inl (fun _ => 0)), .inr (12, [.int 2, .ref 26, .ref 27, .int 0, .int 0, .ref 28, .ref 29, .ref 30, .ref 31, .ref 32, .ref 33, .int 0, .ref 34, .ref 35, .ref 36, .int 0, .ref 37, .ref 38, .ref 39, .int 0, .ref 40, .ref 41, .ref 42, .int 0, .ref 43, .ref 44, .ref 45, .ref 46, .int 0, .ref 47, .int 0, .int 0, .ref 48, .int 0, .int 0, .int 0, .int 0, .int 0, .ref 49]), .inl (0, 10, .inl (upd (upd (fun _ => 0) (0) (-4)) (1) 0)), .inl (0, 3, .inl (fun _ => 0)), .inl (0, 40, .inl (fun _ => 0)), .inl (0, 40, .inl (fun _ => 0)), .inl (0, 40, .inl (fun _ => 0)), .inl (0, 40, .inl (fun _ => 0)), .inl (0, 40, .inl (fun _ => 0)), .inl (0, 120, .inl (fun _ => 0)), .inl (0, 10, .inl (upd (fun _ => 0) (0) 0)), .inl (0, 30, .inl (fun _ => 0)), .inl (0, 10, .inl (fun _ => 0)), .inl (0, 30, .inl (fun _ => 0)), .inl (0, 30, .inl (fun _ => 0)), .inl (0, 30, .inl (fun _ => 0)), .inl (0, 61, .inl (fun _ => 0)), .inl (0, 61, .inl (fun _ => 0)), .inl (0, 1300, .inl (fun _ => 0)), .inl (0, 30, .inl (fun _ => 0)), .inl (0, 30, .inl (fun _ => 0)), .inl (0, 30, .inl (fun _ => 0)), .inl (0, 3, .inl (fun _ => 0)), .inl (0, 50, .inl (fun _ => 0)), .inl (2, 40, .inl (fun _ => 0)), .inl (0, 3, .inl (fun _ => 0)), .inr (1, [.ref 51, .int 11]), .inl (0, 0, .inl (va_cpy (fun _ => 0) (fun _ => 0) 0 0 0))]
def g8_14 (g : pm_C) (a : Int32) (b : Int32) (c : Int32) (d : Int32) : pm_H := [g, .inr (11, [.ref 2, .ref 5, .ref 9, .ref 12, .ref 16, .ref 18, .ref 20, .int 0, .ref 21, .int 1, .ref 22, .int 0, .ref 23, .int 0, .ref 24, .int 0, .int 0]), .inr (9, [.ref 3, .ref 4, .int 2]), .inl (0, 10, .inl (upd (upd (fun _ => 0) (0) (-1)) (1) 0)), .inl (0, 31, .inl (upd (upd (upd (upd (upd (upd (upd (fun _ => 0) (0) 1) (1) 3) (10) 1024) (11) 2048) (20) 1048577) (21) 3145729) (30) 1073741825)), .inr (4, [.ref 2, .ref 6, .int 0, .ref 7, .ref 8, .long 0, .long 0, .long 0]), .inl (6, 40, .inr (.inr (.inr (.inr (fun _ => none))))), .inl (1, 10, .inr (.inl (fun _ => 0))), .inl (1, 7, .inr (.inl (fun _ => 0))), .inr (2, [.ref 2, .ref 5, .ref 10, .ref 11, .null, .int 0]), .inr (6, [.ref 2, .ref 5, .null, .int 0, .long 0, .int 0, .null]), .inr (6, [.ref 2, .ref 5, .null, .int 0, .long 0, .int 0, .null]), .inr (7, [.ref 13, .ref 14, .ref 15, .int 0]), .inl (0, 61, .inl (fun _ => 0)), .inl (0, 61, .inl (fun _ => 0)), .inl (0, 1220, .inl (fun _ => 0)), .inr (0, [.ref 5, .ref 12, .ref 17, .int 0, .int 0, .null]), .inl (0, 3, .inl (fun _ => 0)), .inr (8, [.ref 19, .int 0, .int 0]), .inl (0, 50, .inl (fun _ => 0)), .inl (0, 3, .inl (fun _ => 0)), .inl (4, 10, .inr (.inr (.inr (.inr (va_up (fun _ => none) (0) (some 50)))))), .inl (8, 30, .inr (.inr (.inr (.inr (fun _ => none))))), .inl (13, 30, .inr (.inr (.inr (.inr (fun _ => none))))), .inl (0, 3, .inl (fun _ => 0)), .inr (12, [.int 2, .ref 26, .ref 27, .int 0, .int 0, .ref 28, .ref 29, .ref 30, .ref 31, .ref 32, .ref 33, .int 0, .ref 34, .ref 35, .ref 36, .int 0, .ref 37, .ref 38, .ref 39, .int 0, .ref 40, .ref 41, .ref 42, .int 0, .ref 43, .ref 44, .ref 45, .ref 46, .int 0, .ref 47, .int 0, .int 0, .ref 48, .int 0, .int 0, .int 0, .int 0, .int 0, .ref 49]), .inl (0, 10, .inl (upd (upd (fun _ => 0) (0) (-4)) (1) 0)), .inl (0, 3, .inl (fun _ => 0)), .inl (0, 40, .inl (fun _ => 0)), .inl (0, 40, .inl (fun _ => 0)), .inl (0, 40, .inl (fun _ => 0)), .inl (0, 40, .inl (fun _ => 0)), .inl (0, 40, .inl (fun _ => 0)), .inl (0, 120, .inl (fun _ => 0)), .inl (0, 10, .inl (upd (fun _ => 0) (0) 0)), .inl (0, 30, .inl (fun _ => 0)), .inl (0, 10, .inl (upd (fun _ => 0) (0) 11)), .inl (0, 30, .inl (fun _ => 0)), .inl (0, 30, .inl (fun _ => 0)), .inl (0, 30, .inl (fun _ => 0)), .inl (0, 61, .inl (fun _ => 0)), .inl (0, 61, .inl (fun _ => 0)), .inl (0, 1300, .inl (fun _ => 0)), .inl (0, 30, .inl (fun _ => 0)), .inl (0, 30, .inl (fun _ => 0)), .inl (0, 30, .inl (fun _ => 0)), .inl (0, 3, .inl (fun _ => 0)), .inl (0, 50, .inl (fun _ => 0)), .inl (2, 40, .inl (fun _ => 0)), .inl (0, 3, .inl (fun _ => 0)), .inr (1, [.ref 51, .int 11]), .inl (0, 0, .inl (va_cpy (fun _ => 0) (fun _ => 0) 0 0 0))]
def g8_15 (g : pm_C) (a : Int32) (b : Int32) (c : Int32) (d : Int32) : pm_H := [g, .inr (11, [.ref 2, .ref 5, .ref 9, .ref 12, .ref 16, .ref 18, .ref 20, .int 0, .ref 21, .int 1, .ref 22, .int 0, .ref 23, .int 0, .ref 24, .int 0, .int 0]), .inr (9, [.ref 3, .ref 4, .int 2]), .inl (0, 10, .inl (upd (upd (fun _ => 0) (0) (-1)) (1) 0)), .inl (0, 31, .inl (upd (upd (upd (upd (upd (upd (upd (fun _ => 0) (0) 1) (1) 3) (10) 1024) (11) 2048) (20) 1048577) (21) 3145729) (30) 1073741825)), .inr (4, [.ref 2, .ref 6, .int 0, .ref 7, .ref 8, .long 0, .long 0, .long 0]), .inl (6, 40, .inr (.inr (.inr (.inr (fun _ => none))))), .inl (1, 10, .inr (.inl (fun _ => 0))), .inl (1, 7, .inr (.inl (fun _ => 0))), .inr (2, [.ref 2, .ref 5, .ref 10, .ref 11, .null, .int 0]), .inr (6, [.ref 2, .ref 5, .null, .int 0, .long 0, .int 0, .null]), .inr (6, [.ref 2, .ref 5, .null, .int 0, .long 0, .int 0, .null]), .inr (7, [.ref 13, .ref 14, .ref 15, .int 0]), .inl (0, 61, .inl (fun _ => 0)), .inl (0, 61, .inl (fun _ => 0)), .inl (0, 1220, .inl (fun _ => 0)), .inr (0, [.ref 5, .ref 12, .ref 17, .int 0, .int 0, .null]), .inl (0, 3, .inl (fun _ => 0)), .inr (8, [.ref 19, .int 0, .int 0]), .inl (0, 50, .inl (fun _ => 0)), .inl (0, 3, .inl (fun _ => 0)), .inl (4, 10, .inr (.inr (.inr (.inr (va_up (fun _ => none) (0) (some 50)))))), .inl (8, 30, .inr (.inr (.inr (.inr (fun _ => none))))), .inl (13, 30, .inr (.inr (.inr (.inr (fun _ => none))))), .inl (0, 3, .inl (fun _ => 0)), .inr (12, [.int 2, .ref 26, .ref 27, .int 0, .int 0, .ref 28, .ref 29, .ref 30, .ref 31, .ref 32, .ref 33, .int 1, .ref 34, .ref 35, .ref 36, .int 0, .ref 37, .ref 38, .ref 39, .int 0, .ref 40, .ref 41, .ref 42, .int 0, .ref 43, .ref 44, .ref 45, .ref 46, .int 0, .ref 47, .int 0, .int 0, .ref 48, .int 0, .int 0, .int 0, .int 0, .int 0, .ref 49]), .inl (0, 10, .inl (upd (upd (fun _ => 0) (0) (-4)) (1) 0)), .inl (0, 3, .inl (fun _ => 0)), .inl (0, 40, .inl (fun _ => 0)), .inl (0, 40, .inl (fun _ => 0)), .inl (0, 40, .inl (fun _ => 0)), .inl (0, 40, .inl (fun _ => 0)), .inl (0, 40, .inl (fun _ => 0)), .inl (0, 120, .inl (fun _ => 0)), .inl (0, 10, .inl (upd (fun _ => 0) (0) 0)), .inl (0, 30, .inl (fun _ => 0)), .inl (0, 10, .inl (upd (fun _ => 0) (0) 11)), .inl (0, 30, .inl (fun _ => 0)), .inl (0, 30, .inl (fun _ => 0)), .inl (0, 30, .inl (fun _ => 0)), .inl (0, 61, .inl (fun _ => 0)), .inl (0, 61, .inl (fun _ => 0)), .inl (0, 1300, .inl (fun _ => 0)), .inl (0, 30, .inl (fun _ => 0)), .inl (0, 30, .inl (fun _ => 0)), .inl (0, 30, .inl (fun _ => 0)), .inl (0, 3, .inl (fun _ => 0)), .inl (0, 50, .inl (fun _ => 0)), .inl (2, 40, .inl (fun _ => 0)), .inl (0, 3, .inl (fun _ => 0)), .inr (1, [.ref 51, .int 11]), .inl (0, 0, .inl (va_cpy (fun _ => 0) (fun _ => 0) 0 0 0))]
def g8_16 (g : pm_C) (a : Int32) (b : Int32) (c : Int32) (d : Int32) : pm_H := [g, .inr (11, [.ref 2, .ref 5, .ref 9, .ref 12, .ref 16, .ref 18, .ref 20, .int 0, .ref 21, .int 1, .ref 22, .int 0, .ref 23, .int 0, .ref 24, .int 0, .int 0]), .inr (9, [.ref 3, .ref 4, .int 2]), .inl (0, 10, .inl (upd (upd (fun _ => 0) (0) (-1)) (1) 0)), .inl (0, 31, .inl (upd (upd (upd (upd (upd (upd (upd (fun _ => 0) (0) 1) (1) 3) (10) 1024) (11) 2048) (20) 1048577) (21) 3145729) (30) 1073741825)), .inr (4, [.ref 2, .ref 6, .int 0, .ref 7, .ref 8, .long 0, .long 0, .long 0]), .inl (6, 40, .inr (.inr (.inr (.inr (fun _ => none))))), .inl (1, 10, .inr (.inl (fun _ => 0))), .inl (1, 7, .inr (.inl (fun _ => 0))), .inr (2, [.ref 2, .ref 5, .ref 10, .ref 11, .null, .int 0]), .inr (6, [.ref 2, .ref 5, .null, .int 0, .long 0, .int 0, .null]), .inr (6, [.ref 2, .ref 5, .null, .int 0, .long 0, .int 0, .null]), .inr (7, [.ref 13, .ref 14, .ref 15, .int 0]), .inl (0, 61, .inl (fun _ => 0)), .inl (0, 61, .inl (fun _ => 0)), .inl (0, 1220, .inl (fun _ => 0)), .inr (0, [.ref 5, .ref 12, .ref 17, .int 0, .int 0, .null]), .inl (0, 3, .inl (fun _ => 0)), .inr (8, [.ref 19, .int 0, .int 0]), .inl (0, 50, .inl (fun _ => 0)), .inl (0, 3, .inl (fun _ => 0)), .inl (4, 10, .inr (.inr (.inr (.inr (va_up (fun _ => none) (0) (some 50)))))), .inl (8, 30, .inr (.inr (.inr (.inr (fun _ => none))))), .inl (13, 30, .inr (.inr (.inr (.inr (fun _ => none))))), .inl (0, 3, .inl (fun _ => 0)), .inr (12, [.int 2, .ref 26, .ref 27, .int 0, .int 0, .ref 28, .ref 29, .ref 30, .ref 31, .ref 32, .ref 33, .int 0, .ref 34, .ref 35, .ref 36, .int 0, .ref 37, .ref 38, .ref 39, .int 0, .ref 40, .ref 41, .ref 42, .int 0, .ref 43, .ref 44, .ref 45, .ref 46, .int 0, .ref 47, .int 0, .int 0, .ref 48, .int 0, .int 0, .int 0, .int 0, .int 0, .ref 49]), .inl (0, 10, .inl (upd (upd (fun _ => 0) (0) (-4)) (1) 0)), .inl (0, 3, .inl (fun _ => 0)), .inl (0, 40, .inl (fun _ => 0)), .inl (0, 40, .inl (fun _ => 0)), .inl (0, 40, .inl (fun _ => 0)), .inl (0, 40, .inl (fun _ => 0)), .inl (0, 40, .inl (fun _ => 0)), .inl (0, 120, .inl (fun _ => 0)), .inl (0, 10, .inl (fun _ => 0)), .inl (0, 30, .inl (fun _ => 0)), .inl (0, 10, .inl (fun _ => 0)), .inl (0, 30, .inl (fun _ => 0)), .inl (0, 30, .inl (fun _ => 0)), .inl (0, 30, .inl (fun _ => 0)), .inl (0, 61, .inl (fun _ => 0)), .inl (0, 61, .inl (fun _ => 0)), .inl (0, 1300, .inl (fun _ => 0)), .inl (0, 30, .inl (fun _ => 0)), .inl (0, 30, .inl (fun _ => 0)), .inl (0, 30, .inl (fun _ => 0)), .inl (0, 3, .inl (fun _ => 0)), .inl (0, 50, .inl (fun _ => 0)), .inl (2, 40, .inl (fun _ => 0)), .inl (0, 3, .inl (fun _ => 0)), .inr (1, [.ref 51, .int 30]), .inl (0, 0, .inl (va_cpy (fun _ => 0) (fun _ => 0) 0 0 0))]
def g8_17 (g : pm_C) (a : Int32) (b : Int32) (c : Int32) (d : Int32) : pm_H := [g, .inr (11, [.ref 2, .ref 5, .ref 9, .ref 12, .ref 16, .ref 18, .ref 20, .int 0, .ref 21, .int 1, .ref 22, .int 0, .ref 23, .int 0, .ref 24, .int 0, .int 0]), .inr (9, [.ref 3, .ref 4, .int 2]), .inl (0, 10, .inl (upd (upd (fun _ => 0) (0) (-1)) (1) 0)), .inl (0, 31, .inl (upd (upd (upd (upd (upd (upd (upd (fun _ => 0) (0) 1) (1) 3) (10) 1024) (11) 2048) (20) 1048577) (21) 3145729) (30) 1073741825)), .inr (4, [.ref 2, .ref 6, .int 0, .ref 7, .ref 8, .long 0, .long 0, .long 0]), .inl (6, 40, .inr (.inr (.inr (.inr (fun _ => none))))), .inl (1, 10, .inr (.inl (fun _ => 0))), .inl (1, 7, .inr (.inl (fun _ => 0))), .inr (2, [.ref 2, .ref 5, .ref 10, .ref 11, .null, .int 0]), .inr (6, [.ref 2, .ref 5, .null, .int 0, .long 0, .int 0, .null]), .inr (6, [.ref 2, .ref 5, .null, .int 0, .long 0, .int 0, .null]), .inr (7, [.ref 13, .ref 14, .ref 15, .int 0]), .inl (0, 61, .inl (fun _ => 0)), .inl (0, 61, .inl (fun _ => 0)), .inl (0, 1220, .inl (fun _ => 0)), .inr (0, [.ref 5, .ref 12, .ref 17, .int 0, .int 0, .null]), .inl (0, 3, .inl (fun _ => 0)), .inr (8, [.ref 19, .int 0, .int 0]), .inl (0, 50, .inl (fun _ => 0)), .inl (0, 3, .inl (fun _ => 0)), .inl (4, 10, .inr (.inr (.inr (.inr (va_up (fun _ => none) (0) (some 50)))))), .inl (8, 30, .inr (.inr (.inr (.inr (fun _ => none))))), .inl (13, 30, .inr (.inr (.inr (.inr (fun _ => none))))), .inl (0, 3, .inl (fun _ => 0)), .inr (12, [.int 2, .ref 26, .ref 27, .int 0, .int 0, .ref 28, .ref 29, .ref 30, .ref 31, .ref 32, .ref 33, .int 0, .ref 34, .ref 35, .ref 36, .int 0, .ref 37, .ref 38, .ref 39, .int 0, .ref 40, .ref 41, .ref 42, .int 0, .ref 43, .ref 44, .ref 45, .ref 46, .int 0, .ref 47, .int 0, .int 0, .ref 48, .int 0, .int 0, .int 0, .int 0, .int 0, .ref 49]), .inl (0, 10, .inl (upd (upd (fun _ => 0) (0) (-4)) (1) 0)), .inl (0, 3, .inl (fun _ => 0)), .inl (0, 40, .inl (fun _ => 0)), .inl (0, 40, .inl (fun _ => 0)), .inl (0, 40, .inl (fun _ => 0)), .inl (0, 40, .inl (fun _ => 0)), .inl (0, 40, .inl (fun _ => 0)), .inl (0, 120, .inl (fun _ => 0)), .inl (0, 10, .inl (upd (fun _ => 0) (0) 0)), .inl (0, 30, .inl (fun _ => 0)), .inl (0, 10, .inl (fun _ => 0)), .inl (0, 30, .inl (fun _ => 0)), .inl (0, 30, .inl (fun _ => 0)), .inl (0, 30, .inl (fun _ => 0)), .inl (0, 61, .inl (fun _ => 0)), .inl (0, 61, .inl (fun _ => 0)), .inl (0, 1300, .inl (fun _ => 0)), .inl (0, 30, .inl (fun _ => 0)), .inl (0, 30, .inl (fun _ => 0)), .inl (0, 30, .inl (fun _ => 0)), .inl (0, 3, .inl (fun _ => 0)), .inl (0, 50, .inl (fun _ => 0)), .inl (2, 40, .inl (fun _ => 0)), .inl (0, 3, .inl (fun _ => 0)), .inr (1, [.ref 51, .int 30]), .inl (0, 0, .inl (va_cpy (fun _ => 0) (fun _ => 0) 0 0 0))]
def g8_18 (g : pm_C) (a : Int32) (b : Int32) (c : Int32) (d : Int32) : pm_H := [g, .inr (11, [.ref 2, .ref 5, .ref 9, .ref 12, .ref 16, .ref 18, .ref 20, .int 0, .ref 21, .int 1, .ref 22, .int 0, .ref 23, .int 0, .ref 24, .int 0, .int 0]), .inr (9, [.ref 3, .ref 4, .int 2]), .inl (0, 10, .inl (upd (upd (fun _ => 0) (0) (-1)) (1) 0)), .inl (0, 31, .inl (upd (upd (upd (upd (upd (upd (upd (fun _ => 0) (0) 1) (1) 3) (10) 1024) (11) 2048) (20) 1048577) (21) 3145729) (30) 1073741825)), .inr (4, [.ref 2, .ref 6, .int 0, .ref 7, .ref 8, .long 0, .long 0, .long 0]), .inl (6, 40, .inr (.inr (.inr (.inr (fun _ => none))))), .inl (1, 10, .inr (.inl (fun _ => 0))), .inl (1, 7, .inr (.inl (fun _ => 0))), .inr (2, [.ref 2, .ref 5, .ref 10, .ref 11, .null, .int 0]), .inr (6, [.ref 2, .ref 5, .null, .int 0, .long 0, .int 0, .null]), .inr (6, [.ref 2, .ref 5, .null, .int 0, .long 0, .int 0, .null]), .inr (7, [.ref 13, .ref 14, .ref 15, .int 0]), .inl (0, 61, .inl (fun _ => 0)), .inl (0, 61, .inl (fun _ => 0)), .inl (0, 1220, .inl (fun _ => 0)), .inr (0, [.ref 5, .ref 12, .ref 17, .int 0, .int 0, .null]), .inl (0, 3, .inl (fun _ => 0)), .inr (8, [.ref 19, .int 0, .int 0]), .inl (0, 50, .inl (fun _ => 0)), .inl (0, 3, .inl (fun _ => 0)), .inl (4, 10, .inr (.inr (.inr (.inr (va_up (fun _ => none) (0) (some 50)))))), .inl (8, 30, .inr (.inr (.inr (.inr (fun _ => none))))), .inl (13, 30, .inr (.inr (.inr (.inr (fun _ => none))))), .inl (0, 3, .inl (fun _ => 0)), .inr (12, [.int 2, .ref 26, .ref 27, .int 0, .int 0, .ref 28, .ref 29, .ref 30, .ref 31, .ref 32, .ref 33, .int 0, .ref 34, .ref 35, .ref 36, .int 0, .ref 37, .ref 38, .ref 39, .int 0, .ref 40, .ref 41, .ref 42, .int 0, .ref 43, .ref 44, .ref 45, .ref 46, .int 0, .ref 47, .int 0, .int 0, .ref 48, .int 0, .int 0, .int 0, .int 0, .int 0, .ref 49]), .inl (0, 10, .inl (upd (upd (fun _ => 0) (0) (-4)) (1) 0)), .inl (0, 3, .inl (fun _ => 0)), .inl (0, 40, .inl (fun _ => 0)), .inl (0, 40, .inl (fun _ => 0)), .inl (0, 40, .inl (fun _ => 0)), .inl (0, 40, .inl (fun _ => 0)), .inl (0, 40, .inl (fun _ => 0)), .inl (0, 120, .inl (fun _ => 0)), .inl (0, 10, .inl (upd (fun _ => 0) (0) 0)), .inl (0, 30, .inl (fun _ => 0)), .inl (0, 10, .inl (upd (fun _ => 0) (0) 30)), .inl (0, 30, .inl (fun _ => 0)), .inl (0, 30, .inl (fun _ => 0)), .inl (0, 30, .inl (fun _ => 0)), .inl (0, 61, .inl (fun _ => 0)), .inl (0, 61, .inl (fun _ => 0)), .inl (0, 1300, .inl (fun _ => 0)), .inl (0, 30, .inl (fun _ => 0)), .inl (0, 30, .inl (fun _ => 0)), .inl (0, 30, .inl (fun _ => 0)), .inl (0, 3, .inl (fun _ => 0)), .inl (0, 50, .inl (fun _ => 0)), .inl (2, 40, .inl (fun _ => 0)), .inl (0, 3, .inl (fun _ => 0)), .inr (1, [.ref 51, .int 30]), .inl (0, 0, .inl (va_cpy (fun _ => 0) (fun _ => 0) 0 0 0))]
def g8_19 (g : pm_C) (a : Int32) (b : Int32) (c : Int32) (d : Int32) : pm_H := [g, .inr (11, [.ref 2, .ref 5, .ref 9, .ref 12, .ref 16, .ref 18, .ref 20, .int 0, .ref 21, .int 1, .ref 22, .int 0, .ref 23, .int 0, .ref 24, .int 0, .int 0]), .inr (9, [.ref 3, .ref 4, .int 2]), .inl (0, 10, .inl (upd (upd (fun _ => 0) (0) (-1)) (1) 0)), .inl (0, 31, .inl (upd (upd (upd (upd (upd (upd (upd (fun _ => 0) (0) 1) (1) 3) (10) 1024) (11) 2048) (20) 1048577) (21) 3145729) (30) 1073741825)), .inr (4, [.ref 2, .ref 6, .int 0, .ref 7, .ref 8, .long 0, .long 0, .long 0]), .inl (6, 40, .inr (.inr (.inr (.inr (fun _ => none))))), .inl (1, 10, .inr (.inl (fun _ => 0))), .inl (1, 7, .inr (.inl (fun _ => 0))), .inr (2, [.ref 2, .ref 5, .ref 10, .ref 11, .null, .int 0]), .inr (6, [.ref 2, .ref 5, .null, .int 0, .long 0, .int 0, .null]), .inr (6, [.ref 2, .ref 5, .null, .int 0, .long 0, .int 0, .null]), .inr (7, [.ref 13, .ref 14, .ref 15, .int 0]), .inl (0, 61, .inl (fun _ => 0)), .inl (0, 61, .inl (fun _ => 0)), .inl (0, 1220, .inl (fun _ => 0)), .inr (0, [.ref 5, .ref 12, .ref 17, .int 0, .int 0, .null]), .inl (0, 3, .inl (fun _ => 0)), .inr (8, [.ref 19, .int 0, .int 0]), .inl (0, 50, .inl (fun _ => 0)), .inl (0, 3, .inl (fun _ => 0)), .inl (4, 10, .inr (.inr (.inr (.inr (va_up (fun _ => none) (0) (some 50)))))), .inl (8, 30, .inr (.inr (.inr (.inr (fun _ => none))))), .inl (13, 30, .inr (.inr (.inr (.inr (fun _ => none))))), .inl (0, 3, .inl (fun _ => 0)), .inr (12, [.int 2, .ref 26, .ref 27, .int 0, .int 0, .ref 28, .ref 29, .ref 30, .ref 31, .ref 32, .ref 33, .int 1, .ref 34, .ref 35, .ref 36, .int 0, .ref 37, .ref 38, .ref 39, .int 0, .ref 40, .ref 41, .ref 42, .int 0, .ref 43, .ref 44, .ref 45, .ref 46, .int 0, .ref 47, .int 0, .int 0, .ref 48, .int 0, .int 0, .int 0, .int 0, .int 0, .ref 49]), .inl (0, 10, .inl (upd (upd (fun _ => 0) (0) (-4)) (1) 0)), .inl (0, 3, .inl (fun _ => 0)), .inl (0, 40, .inl (fun _ => 0)), .inl (0, 40, .inl (fun _ => 0)), .inl (0, 40, .inl (fun _ => 0)), .inl (0, 40, .inl (fun _ => 0)), .inl (0, 40, .inl (fun _ => 0)), .inl (0, 120, .inl (fun _ => 0)), .inl (0, 10, .inl (upd (fun _ => 0) (0) 0)), .inl (0, 30, .inl (fun _ => 0)), .inl (0, 10, .inl (upd (fun _ => 0) (0) 30)), .inl (0, 30, .inl (fun _ => 0)), .inl (0, 30, .inl (fun _ => 0)), .inl (0, 30, .inl (fun _ => 0)), .inl (0, 61, .inl (fun _ => 0)), .inl (0, 61, .inl (fun _ => 0)), .inl (0, 1300, .inl (fun _ => 0)), .inl (0, 30, .inl (fun _ => 0)), .inl (0, 30, .inl (fun _ => 0)), .inl (0, 30, .inl (fun _ => 0)), .inl (0, 3, .inl (fun _ => 0)), .inl (0, 50, .inl (fun _ => 0)), .inl (2, 40, .inl (fun _ => 0)), .inl (0, 3, .inl (fun _ => 0)), .inr (1, [.ref 51, .int 30]), .inl (0, 0, .inl (va_cpy (fun _ => 0) (fun _ => 0) 0 0 0))]
def g8_20 (g : pm_C) (a : Int32) (b : Int32) (c : Int32) (d : Int32) : pm_H := [g, .inr (11, [.ref 2, .ref 5, .ref 9, .ref 12, .ref 16, .ref 18, .ref 20, .int 0, .ref 21, .int 1, .ref 22, .int 0, .ref 23, .int 0, .ref 24, .int 0, .int 0]), .inr (9, [.ref 3, .ref 4, .int 2]), .inl (0, 10, .inl (upd (upd (fun _ => 0) (0) (-1)) (1) 0)), .inl (0, 31, .inl (upd (upd (upd (upd (upd (upd (upd (fun _ => 0) (0) 1) (1) 3) (10) 1024) (11) 2048) (20) 1048577) (21) 3145729) (30) 1073741825)), .inr (4, [.ref 2, .ref 6, .int 0, .ref 7, .ref 8, .long 0, .long 0, .long 0]), .inl (6, 40, .inr (.inr (.inr (.inr (fun _ => none))))), .inl (1, 10, .inr (.inl (fun _ => 0))), .inl (1, 7, .inr (.inl (fun _ => 0))), .inr (2, [.ref 2, .ref 5, .ref 10, .ref 11, .null, .int 0]), .inr (6, [.ref 2, .ref 5, .null, .int 0, .long 0, .int 0, .null]), .inr (6, [.ref 2, .ref 5, .null, .int 0, .long 0, .int 0, .null]), .inr (7, [.ref 13, .ref 14, .ref 15, .int 0]), .inl (0, 61, .inl (fun _ => 0)), .inl (0, 61, .inl (fun _ => 0)), .inl (0, 1220, .inl (fun _ => 0)), .inr (0, [.ref 5, .ref 12, .ref 17, .int 0, .int 0, .null]), .inl (0, 3, .inl (fun _ => 0)), .inr (8, [.ref 19, .int 0, .int 0]), .inl (0, 50, .inl (fun _ => 0)), .inl (0, 3, .inl (fun _ => 0)), .inl (4, 10, .inr (.inr (.inr (.inr (va_up (fun _ => none) (0) (some 50)))))), .inl (8, 30, .inr (.inr (.inr (.inr (fun _ => none))))), .inl (13, 30, .inr (.inr (.inr (.inr (fun _ => none))))), .inl (0, 3, .inl (fun _ => 0)), .inr (12, [.int 2, .ref 26, .ref 27, .int 0, .int 0, .ref 28, .ref 29, .ref 30, .ref 31, .ref 32, .ref 33, .int 0, .ref 34, .ref 35, .ref 36, .int 0, .ref 37, .ref 38, .ref 39, .int 0, .ref 40, .ref 41, .ref 42, .int 0, .ref 43, .ref 44, .ref 45, .ref 46, .int 0, .ref 47, .int 0, .int 0, .ref 48, .int 0, .int 0, .int 0, .int 0, .int 0, .ref 49]), .inl (0, 10, .inl (upd (upd (fun _ => 0) (0) (-4)) (1) 0)), .inl (0, 3, .inl (fun _ => 0)), .inl (0, 40, .inl (fun _ => 0)), .inl (0, 40, .inl (fun _ => 0)), .inl (0, 40, .inl (fun _ => 0)), .inl (0, 40, .inl (fun _ => 0)), .inl (0, 40, .inl (fun _ => 0)), .inl (0, 120, .inl (fun _ => 0)), .inl (0, 10, .inl (upd (fun _ => 0) (0) 0)), .inl (0, 30, .inl (fun _ => 0)), .inl (0, 10, .inl (fun _ => 0)), .inl (0, 30, .inl (fun _ => 0)), .inl (0, 30, .inl (fun _ => 0)), .inl (0, 30, .inl (fun _ => 0)), .inl (0, 61, .inl (fun _ => 0)), .inl (0, 61, .inl (fun _ => 0)), .inl (0, 1300, .inl (fun _ => 0)), .inl (0, 30, .inl (fun _ => 0)), .inl (0, 30, .inl (fun _ => 0)), .inl (0, 30, .inl (fun _ => 0)), .inl (0, 3, .inl (fun _ => 0)), .inl (0, 50, .inl (fun _ => 0)), .inl (2, 40, .inl (fun _ => 0)), .inl (0, 3, .inl (fun _ => 0)), .inr (1, [.ref 51, .int (a)]), .inl (0, 0, .inl (va_cpy (fun _ => 0) (fun _ => 0) 0 0 0))]
def g8_21 (g : pm_C) (a : Int32) (b : Int32) (c : Int32) (d : Int32) : pm_H := [g, .inr (11, [.ref 2, .ref 5, .ref 9, .ref 12, .ref 16, .ref 18, .ref 20, .int 0, .ref 21, .int 1, .ref 22, .int 0, .ref 23, .int 0, .ref 24, .int 0, .int 0]), .inr (9, [.ref 3, .ref 4, .int 2]), .inl (0, 10, .inl (upd (upd (fun _ => 0) (0) (-1)) (1) 0)), .inl (0, 31, .inl (upd (upd (upd (upd (upd (upd (upd (fun _ => 0) (0) 1) (1) 3) (10) 1024) (11) 2048) (20) 1048577) (21) 3145729) (30) 1073741825)), .inr (4, [.ref 2, .ref 6, .int 0, .ref 7, .ref 8, .long 0, .long 0, .long 0]), .inl (6, 40, .inr (.inr (.inr (.inr (fun _ => none))))), .inl (1, 10, .inr (.inl (fun _ => 0))), .inl (1, 7, .inr (.inl (fun _ => 0))), .inr (2, [.ref 2, .ref 5, .ref 10, .ref 11, .null, .int 0]), .inr (6, [.ref 2, .ref 5, .null, .int 0, .long 0, .int 0, .null]), .inr (6, [.ref 2, .ref 5, .null, .int 0, .long 0, .int 0, .null]), .inr (7, [.ref 13, .ref 14, .ref 15, .int 0]), .inl (0, 61, .inl (fun _ => 0)), .inl (0, 61, .inl (fun _ => 0)), .inl (0, 1220, .inl (fun _ => 0)), .inr (0, [.ref 5, .ref 12, .ref 17, .int 0, .int 0, .null]), .inl (0, 3, .inl (fun _ => 0)), .inr (8, [.ref 19, .int 0, .int 0]), .inl (0, 50, .inl (fun _ => 0)), .inl (0, 3, .inl (fun _ => 0)), .inl (4, 10, .inr (.inr (.inr (.inr (va_up (fun _ => none) (0) (some 50)))))), .inl (8, 30, .inr (.inr (.inr (.inr (fun _ => none))))), .inl (13, 30, .inr (.inr (.inr (.inr (fun _ => none))))), .inl (0, 3, .inl (fun _ => 0)), .inr (12, [.int 2, .ref 26, .ref 27, .int 0, .int 0, .ref 28, .ref 29, .ref 30, .ref 31, .ref 32, .ref 33, .int 0, .ref 34, .ref 35, .ref 36, .int 0, .ref 37, .ref 38, .ref 39, .int 0, .ref 40, .ref 41, .ref 42, .int 0, .ref 43, .ref 44, .ref 45, .ref 46, .int 0, .ref 47, .int 0, .int 0, .ref 48, .int 0, .int 0, .int 0, .int 0, .int 0, .ref 49]), .inl (0, 10, .inl (upd (upd (fun _ => 0) (0) (-4)) (1) 0)), .inl (0, 3, .inl (fun _ => 0)), .inl (0, 40, .inl (fun _ => 0)), .inl (0, 40, .inl (fun _ => 0)), .inl (0, 40, .inl (fun _ => 0)), .inl (0, 40, .inl (fun _ => 0)), .inl (0, 40, .inl (fun _ => 0)), .inl (0, 120, .inl (fun _ => 0)), .inl (0, 10, .inl (upd (fun _ => 0) (0) 0)), .inl (0, 30, .inl (fun _ => 0)), .inl (0, 10, .inl (upd (fun _ => 0) (0) a)), .inl (0, 30, .inl (fun _ => 0)), .inl (0, 30, .inl (fun _ => 0)), .inl (0, 30, .inl (fun _ => 0)), .inl (0, 61, .inl (fun _ => 0)), .inl (0, 61, .inl (fun _ => 0)), .inl (0, 1300, .inl (fun _ => 0)), .inl (0, 30, .inl (fun _ => 0)), .inl (0, 30, .inl (fun _ => 0)), .inl (0, 30, .inl (fun _ => 0)), .inl (0, 3, .inl (fun _ => 0)), .inl (0, 50, .inl (fun _ => 0)), .inl (2, 40, .inl (fun _ => 0)), .inl (0, 3, .inl (fun _ => 0)), .inr (1, [.ref 51, .int (a)]), .inl (0, 0, .inl (va_cpy (fun _ => 0) (fun _ => 0) 0 0 0))]
def g8_22 (g : pm_C) (a : Int32) (b : Int32) (c : Int32) (d : Int32) : pm_H := [g, .inr (11, [.ref 2, .ref 5, .ref 9, .ref 12, .ref 16, .ref 18, .ref 20, .int 0, .ref 21, .int 1, .ref 22, .int 0, .ref 23, .int 0, .ref 24, .int 0, .int 0]), .inr (9, [.ref 3, .ref 4, .int 2]), .inl (0, 10, .inl (upd (upd (fun _ => 0) (0) (-1)) (1) 0)), .inl (0, 31, .inl (upd (upd (upd (upd (upd (upd (upd (fun _ => 0) (0) 1) (1) 3) (10) 1024) (11) 2048) (20) 1048577) (21) 3145729) (30) 1073741825)), .inr (4, [.ref 2, .ref 6, .int 0, .ref 7, .ref 8, .long 0, .long 0, .long 0]), .inl (6, 40, .inr (.inr (.inr (.inr (fun _ => none))))), .inl (1, 10, .inr (.inl (fun _ => 0))), .inl (1, 7, .inr (.inl (fun _ => 0))), .inr (2, [.ref 2, .ref 5, .ref 10, .ref 11, .null, .int 0]), .inr (6, [.ref 2, .ref 5, .null, .int 0, .long 0, .int 0, .null]), .inr (6, [.ref 2, .ref 5, .null, .int 0, .long 0, .int 0, .null]), .inr (7, [.ref 13, .ref 14, .ref 15, .int 0]), .inl (0, 61, .inl (fun _ => 0)), .inl (0, 61, .inl (fun _ => 0)), .inl (0, 1220, .inl (fun _ => 0)), .inr (0, [.ref 5, .ref 12, .ref 17, .int 0, .int 0, .null]), .inl (0, 3, .inl (fun _ => 0)), .inr (8, [.ref 19, .int 0, .int 0]), .inl (0, 50, .inl (fun _ => 0)), .inl (0, 3, .inl (fun _ => 0)), .inl (4, 10, .inr (.inr (.inr (.inr (va_up (fun _ => none) (0) (some 50)))))), .inl (8, 30, .inr (.inr (.inr (.inr (fun _ => none))))), .inl (13, 30, .inr (.inr (.inr (.inr (fun _ => none))))), .inl (0, 3, .inl (fun _ => 0)), .inr (12, [.int 2, .ref 26, .ref 27, .int 0, .int 0, .ref 28, .ref 29, .ref 30, .ref 31, .ref 32, .ref 33, .int 1, .ref 34, .ref 35, .ref 36, .int 0, .ref 37, .ref 38, .ref 39, .int 0, .ref 40, .ref 41, .ref 42, .int 0, .ref 43, .ref 44, .ref 45, .ref 46, .int 0, .ref 47, .int 0, .int 0, .ref 48, .int 0, .int 0, .int 0, .int 0, .int 0, .ref 49]), .inl (0, 10, .inl (upd (upd (fun _ => 0) (0) (-4)) (1) 0)), .inl (0, 3, .inl (fun _ => 0)), .inl (0, 40, .inl (fun _ => 0)), .inl (0, 40, .inl (fun _ => 0)), .inl (0, 40, .inl (fun _ => 0)), .inl (0, 40, .inl (fun _ => 0)), .inl (0, 40, .inl (fun _ => 0)), .inl (0, 120, .inl (fun _ => 0)), .inl (0, 10, .inl (upd (fun _ => 0) (0) 0)), .inl (0, 30, .inl (fun _ => 0)), .inl (0, 10, .inl (upd (fun _ => 0) (0) a)), .inl (0, 30, .inl (fun _ => 0)), .inl (0, 30, .inl (fun _ => 0)), .inl (0, 30, .inl (fun _ => 0)), .inl (0, 61, .inl (fun _ => 0)), .inl (0, 61, .inl (fun _ => 0)), .inl (0, 1300, .inl (fun _ => 0)), .inl (0, 30, .inl (fun _ => 0)), .inl (0, 30, .inl (fun _ => 0)), .inl (0, 30, .inl (fun _ => 0)), .inl (0, 3, .inl (fun _ => 0)), .inl (0, 50, .inl (fun _ => 0)), .inl (2, 40, .inl (fun _ => 0)), .inl (0, 3, .inl (fun _ => 0)), .inr (1, [.ref 51, .int (a)]), .inl (0, 0, .inl (va_cpy (fun _ => 0) (fun _ => 0) 0 0 0))]
theorem g8__tb0 (v : Int32) (h1 : 0 ≤ v.toInt) (h2 : v.toInt ≤ 30) (h : pm_cmp .eq ((upd (upd (upd (upd (upd (upd (upd (fun _ => 0) (0) 1) (1) 3) (10) 1024) (11) 2048) (20) 1048577) (21) 3145729) (30) 1073741825) v.toNatClampNeg) 0 = true) : (2 ≤ v.toInt ∧ v.toInt ≤ 9) ∨ (12 ≤ v.toInt ∧ v.toInt ≤ 19) ∨ (22 ≤ v.toInt ∧ v.toInt ≤ 29) := by
  have key : ∀ k, k < 31 → pm_cmp .eq ((upd (upd (upd (upd (upd (upd (upd (fun _ => 0) (0) 1) (1) 3) (10) 1024) (11) 2048) (20) 1048577) (21) 3145729) (30) 1073741825) k) 0 = true → (2 ≤ k ∧ k ≤ 9) ∨ (12 ≤ k ∧ k ≤ 19) ∨ (22 ≤ k ∧ k ≤ 29) := by decide +kernel
  have e1 : (v.toNatClampNeg : Int) = v.toInt := Int.toNat_of_nonneg (by omega)
  have q := key v.toNatClampNeg (by omega) h
  omega
theorem g8__tb1 (v : Int32) (h1 : 0 ≤ v.toInt) (h2 : v.toInt ≤ 30) (h : pm_cmp .eq ((upd (upd (upd (upd (upd (upd (upd (fun _ => 0) (0) 1) (1) 3) (10) 1024) (11) 2048) (20) 1048577) (21) 3145729) (30) 1073741825) v.toNatClampNeg) 0 = false) : (0 ≤ v.toInt ∧ v.toInt ≤ 1) ∨ (10 ≤ v.toInt ∧ v.toInt ≤ 11) ∨ (20 ≤ v.toInt ∧ v.toInt ≤ 21) ∨ v.toInt = 30 := by
  have key : ∀ k, k < 31 → pm_cmp .eq ((upd (upd (upd (upd (upd (upd (upd (fun _ => 0) (0) 1) (1) 3) (10) 1024) (11) 2048) (20) 1048577) (21) 3145729) (30) 1073741825) k) 0 = false → (0 ≤ k ∧ k ≤ 1) ∨ (10 ≤ k ∧ k ≤ 11) ∨ (20 ≤ k ∧ k ≤ 21) ∨ k = 30 := by decide +kernel
  have e1 : (v.toNatClampNeg : Int) = v.toInt := Int.toNat_of_nonneg (by omega)
  have q := key v.toNatClampNeg (by omega) h
  omega
set_option maxRecDepth 100000 in
set_option maxHeartbeats 8000000 in
theorem p1_op8 (xs : Nat → Int32) (a b c d : Int32) (ea : a = xs 1) (eb : b = xs 2) (ec : c = xs 3) (ed : d = xs 4) : pm_WP 0 (32, [(3, .int 0), (2, .ref 25), (1, .ref 1), (0, .ref 0)], [.int 8], g8_0 (pg xs) a b c d, 599951, 7298500) (fun r _ => r = some (.int 1)) := by
  refine pm_go (g := (382, [(3, .int 0), (2, .ref 25), (1, .ref 1), (0, .ref 0)], [], g8_0 (pg xs) a b c d, 599951, 7298500)) rfl ?_
  refine pm_go (g := (383, [(3, .int 0), (2, .ref 25), (1, .ref 1), (0, .ref 0)], [.ref 1], g8_0 (pg xs) a b c d, 599951, 7298500)) rfl ?_
  refine pm_go (g := (384, [(3, .int 0), (2, .ref 25), (1, .ref 1), (0, .ref 0)], [.ref 0, .ref 1], g8_0 (pg xs) a b c d, 599951, 7298500)) rfl ?_
  refine pm_go (g := (385, [(3, .int 0), (2, .ref 25), (1, .ref 1), (0, .ref 0)], [.int 0, .ref 0, .ref 1], g8_0 (pg xs) a b c d, 599951, 7298500)) rfl ?_
  refine pm_go (g := (386, [(3, .int 0), (2, .ref 25), (1, .ref 1), (0, .ref 0)], [.int 1, .int 0, .ref 0, .ref 1], g8_0 (pg xs) a b c d, 599951, 7298500)) rfl ?_
  refine pm_go (g := (387, [(3, .int 0), (2, .ref 25), (1, .ref 1), (0, .ref 0)], [.int 1, .ref 0, .ref 1], g8_0 (pg xs) a b c d, 599951, 7298500)) rfl ?_
  refine pm_go (g := (388, [(3, .int 0), (2, .ref 25), (1, .ref 1), (0, .ref 0)], [.int (xs 1), .ref 1], g8_0 (pg xs) a b c d, 599951, 7298500)) rfl ?_
  rw [← ea]
  refine pm_callD (z := 103) (as := [.ref 1, .int (a)]) (rest := []) rfl ?_
  show pm_WP 103 (0, [(0, .ref 1), (1, .int (a))], [], g8_0 (pg xs) a b c d, 2, 5) _
  refine pm_go (g := (1, [(0, .ref 1), (1, .int (a))], [.ref 1], g8_0 (pg xs) a b c d, 2, 5)) rfl ?_
  refine pm_go (g := (4, [(0, .ref 1), (1, .int (a))], [.ref 2], g8_0 (pg xs) a b c d, 2, 5)) rfl ?_
  refine pm_go (g := (5, [(0, .ref 1), (1, .int (a))], [.int (a), .ref 2], g8_0 (pg xs) a b c d, 2, 5)) rfl ?_
  refine pm_callD (z := 83) (as := [.ref 2, .int (a)]) (rest := []) rfl ?_
  show pm_WP 83 (0, [(0, .ref 2), (1, .int (a))], [], g8_0 (pg xs) a b c d, 0, 0) _
  refine pm_go (g := (1, [(0, .ref 2), (1, .int (a))], [.int (a)], g8_0 (pg xs) a b c d, 0, 0)) rfl ?_
  refine pm_if2 (g := (23, [(0, .ref 2), (1, .int (a))], [], g8_0 (pg xs) a b c d, 0, 0)) (h := (4, [(0, .ref 2), (1, .int (a))], [], g8_0 (pg xs) a b c d, 0, 0)) rfl (fun q1 => ?_) (fun q1 => ?_)
  ·
    have q1 := qT_lt (cx := a.toInt) (cy := 0) rfl (by decide) q1
    refine pm_go (g := (24, [(0, .ref 2), (1, .int (a))], [.int 0], g8_0 (pg xs) a b c d, 0, 0)) rfl ?_
    refine pm_ret rfl ?_
    show pm_WP 103 (8, [(0, .ref 1), (1, .int (a))], [.int 0], g8_0 (pg xs) a b c d, 2, 5) _
    refine pm_brF (h := (11, [(0, .ref 1), (1, .int (a))], [], g8_0 (pg xs) a b c d, 2, 5)) rfl ?_
    refine pm_go (g := (12, [(0, .ref 1), (1, .int (a))], [.int (-1)], g8_0 (pg xs) a b c d, 2, 5)) rfl ?_
    refine pm_ret rfl ?_
    show pm_WP 0 (391, [(3, .int 0), (2, .ref 25), (1, .ref 1), (0, .ref 0)], [.int (-1)], g8_0 (pg xs) a b c d, 599949, 7298495) _
    refine pm_go (g := (392, [(3, .int 0), (2, .ref 25), (1, .ref 1), (0, .ref 0)], [.ref 25, .int (-1)], g8_0 (pg xs) a b c d, 599949, 7298495)) rfl ?_
    refine pm_go (g := (393, [(3, .int 0), (2, .ref 25), (1, .ref 1), (0, .ref 0)], [.ref 0, .ref 25, .int (-1)], g8_0 (pg xs) a b c d, 599949, 7298495)) rfl ?_
    refine pm_go (g := (394, [(3, .int 0), (2, .ref 25), (1, .ref 1), (0, .ref 0)], [.int 0, .ref 0, .ref 25, .int (-1)], g8_0 (pg xs) a b c d, 599949, 7298495)) rfl ?_
    refine pm_go (g := (395, [(3, .int 0), (2, .ref 25), (1, .ref 1), (0, .ref 0)], [.int 1, .int 0, .ref 0, .ref 25, .int (-1)], g8_0 (pg xs) a b c d, 599949, 7298495)) rfl ?_
    refine pm_go (g := (396, [(3, .int 0), (2, .ref 25), (1, .ref 1), (0, .ref 0)], [.int 1, .ref 0, .ref 25, .int (-1)], g8_0 (pg xs) a b c d, 599949, 7298495)) rfl ?_
    refine pm_go (g := (397, [(3, .int 0), (2, .ref 25), (1, .ref 1), (0, .ref 0)], [.int (xs 1), .ref 25, .int (-1)], g8_0 (pg xs) a b c d, 599949, 7298495)) rfl ?_
    rw [← ea]
    refine pm_callD (z := 162) (as := [.ref 25, .int (a)]) (rest := [.int (-1)]) rfl ?_
    show pm_WP 162 (0, [(0, .ref 25), (1, .int (a))], [], g8_0 (pg xs) a b c d, 0, 0) _
    refine pm_go (g := (1, [(0, .ref 25), (1, .int (a))], [.ref 25], g8_0 (pg xs) a b c d, 0, 0)) rfl ?_
    refine pm_go (g := (2, [(0, .ref 25), (1, .int (a))], [.int (a), .ref 25], g8_0 (pg xs) a b c d, 0, 0)) rfl ?_
    refine pm_callD (z := 131) (as := [.ref 25, .int (a)]) (rest := []) rfl ?_
    show pm_WP 131 (0, [(0, .ref 25), (1, .int (a))], [], g8_0 (pg xs) a b c d, 0, 0) _
    refine pm_go (g := (1, [(0, .ref 25), (1, .int (a))], [.ref 25], g8_0 (pg xs) a b c d, 0, 0)) rfl ?_
    refine pm_go (g := (2, [(0, .ref 25), (1, .int (a))], [.int (a), .ref 25], g8_0 (pg xs) a b c d, 0, 0)) rfl ?_
    refine pm_callD (z := 129) (as := [.ref 25, .int (a)]) (rest := []) rfl ?_
    show pm_WP 129 (0, [(0, .ref 25), (1, .int (a))], [], g8_0 (pg xs) a b c d, 0, 0) _
    refine pm_go (g := (1, [(0, .ref 25), (1, .int (a))], [.int (a)], g8_0 (pg xs) a b c d, 0, 0)) rfl ?_
    refine pm_go (g := (2, [(0, .ref 25), (1, .int (a))], [.int 0, .int (a)], g8_0 (pg xs) a b c d, 0, 0)) rfl ?_
    refine pm_go (g := (3, [(0, .ref 25), (1, .int (a))], [.ref 25, .int 0, .int (a)], g8_0 (pg xs) a b c d, 0, 0)) rfl ?_
    refine pm_go (g := (6, [(0, .ref 25), (1, .int (a))], [.int 2, .int 0, .int (a)], g8_0 (pg xs) a b c d, 0, 0)) rfl ?_
    refine pm_go (g := (7, [(0, .ref 25), (1, .int (a))], [.int 1, .int 2, .int 0, .int (a)], g8_0 (pg xs) a b c d, 0, 0)) rfl ?_
    refine pm_go (g := (8, [(0, .ref 25), (1, .int (a))], [.int 1, .int 0, .int (a)], g8_0 (pg xs) a b c d, 0, 0)) rfl ?_
    refine pm_callD (z := 128) (as := [.int (a), .int 0, .int 1]) (rest := []) rfl ?_
    show pm_WP 128 (0, [(0, .int (a)), (1, .int 0), (2, .int 1)], [], g8_0 (pg xs) a b c d, 0, 0) _
    refine pm_go (g := (1, [(0, .int (a)), (1, .int 0), (2, .int 1)], [.int (a)], g8_0 (pg xs) a b c d, 0, 0)) rfl ?_
    refine pm_go (g := (2, [(0, .int (a)), (1, .int 0), (2, .int 1)], [.int 0, .int (a)], g8_0 (pg xs) a b c d, 0, 0)) rfl ?_
    refine pm_ifT (g := (14, [(0, .int (a)), (1, .int 0), (2, .int 1)], [], g8_0 (pg xs) a b c d, 0, 0)) rfl (rT_lt (cx := a.toInt) (cy := 0) rfl (by decide) (by omega)) ?_
    refine pm_go (g := (15, [(0, .int (a)), (1, .int 0), (2, .int 1)], [.int 0], g8_0 (pg xs) a b c d, 0, 0)) rfl ?_
    refine pm_ret rfl ?_
    show pm_WP 129 (11, [(0, .ref 25), (1, .int (a))], [.int 0], g8_0 (pg xs) a b c d, 0, 0) _
    refine pm_ret rfl ?_
    show pm_WP 131 (5, [(0, .ref 25), (1, .int (a))], [.int 0], g8_0 (pg xs) a b c d, 0, 0) _
    refine pm_brF (h := (8, [(0, .ref 25), (1, .int (a))], [], g8_0 (pg xs) a b c d, 0, 0)) rfl ?_
    refine pm_go (g := (9, [(0, .ref 25), (1, .int (a))], [.int (a)], g8_0 (pg xs) a b c d, 0, 0)) rfl ?_
    refine pm_go (g := (11, [(0, .ref 25), (1, .int (a))], [.int 10, .int (a)], g8_0 (pg xs) a b c d, 0, 0)) rfl ?_
    refine pm_ifF (h := (14, [(0, .ref 25), (1, .int (a))], [], g8_0 (pg xs) a b c d, 0, 0)) rfl (rF_eq (cx := a.toInt) (cy := 10) rfl (by decide) (by omega)) ?_
    refine pm_go (g := (15, [(0, .ref 25), (1, .int (a))], [.int (a)], g8_0 (pg xs) a b c d, 0, 0)) rfl ?_
    refine pm_go (g := (17, [(0, .ref 25), (1, .int (a))], [.int 20, .int (a)], g8_0 (pg xs) a b c d, 0, 0)) rfl ?_
    refine pm_go (g := (19, [(0, .ref 25), (1, .int (a))], [.int 20, .int 20, .int (a)], g8_0 (pg xs) a b c d, 0, 0)) rfl ?_
    refine pm_go (g := (20, [(0, .ref 25), (1, .int (a))], [.ref 25, .int 20, .int 20, .int (a)], g8_0 (pg xs) a b c d, 0, 0)) rfl ?_
    refine pm_go (g := (23, [(0, .ref 25), (1, .int (a))], [.int 2, .int 20, .int 20, .int (a)], g8_0 (pg xs) a b c d, 0, 0)) rfl ?_
    refine pm_go (g := (24, [(0, .ref 25), (1, .int (a))], [.int 22, .int 20, .int (a)], g8_0 (pg xs) a b c d, 0, 0)) rfl ?_
    refine pm_go (g := (25, [(0, .ref 25), (1, .int (a))], [.int 1, .int 22, .int 20, .int (a)], g8_0 (pg xs) a b c d, 0, 0)) rfl ?_
    refine pm_go (g := (26, [(0, .ref 25), (1, .int (a))], [.int 21, .int 20, .int (a)], g8_0 (pg xs) a b c d, 0, 0)) rfl ?_
    refine pm_callD (z := 128) (as := [.int (a), .int 20, .int 21]) (rest := []) rfl ?_
    show pm_WP 128 (0, [(0, .int (a)), (1, .int 20), (2, .int 21)], [], g8_0 (pg xs) a b c d, 0, 0) _
    refine pm_go (g := (1, [(0, .int (a)), (1, .int 20), (2, .int 21)], [.int (a)], g8_0 (pg xs) a b c d, 0, 0)) rfl ?_
    refine pm_go (g := (2, [(0, .int (a)), (1, .int 20), (2, .int 21)], [.int 20, .int (a)], g8_0 (pg xs) a b c d, 0, 0)) rfl ?_
    refine pm_ifT (g := (14, [(0, .int (a)), (1, .int 20), (2, .int 21)], [], g8_0 (pg xs) a b c d, 0, 0)) rfl (rT_lt (cx := a.toInt) (cy := 20) rfl (by decide) (by omega)) ?_
    refine pm_go (g := (15, [(0, .int (a)), (1, .int 20), (2, .int 21)], [.int 0], g8_0 (pg xs) a b c d, 0, 0)) rfl ?_
    refine pm_ret rfl ?_
    show pm_WP 131 (29, [(0, .ref 25), (1, .int (a))], [.int 0], g8_0 (pg xs) a b c d, 0, 0) _
    refine pm_brF (h := (32, [(0, .ref 25), (1, .int (a))], [], g8_0 (pg xs) a b c d, 0, 0)) rfl ?_
    refine pm_go (g := (33, [(0, .ref 25), (1, .int (a))], [.int (a)], g8_0 (pg xs) a b c d, 0, 0)) rfl ?_
    refine pm_go (g := (35, [(0, .ref 25), (1, .int (a))], [.int 30, .int (a)], g8_0 (pg xs) a b c d, 0, 0)) rfl ?_
    refine pm_ifT (g := (42, [(0, .ref 25), (1, .int (a))], [], g8_0 (pg xs) a b c d, 0, 0)) rfl (rT_ne (cx := a.toInt) (cy := 30) rfl (by decide) (by omega)) ?_
    refine pm_go (g := (43, [(0, .ref 25), (1, .int (a))], [.int 0], g8_0 (pg xs) a b c d, 0, 0)) rfl ?_
    refine pm_ret rfl ?_
    show pm_WP 162 (5, [(0, .ref 25), (1, .int (a))], [.int 0], g8_0 (pg xs) a b c d, 0, 0) _
    refine pm_brF (h := (8, [(0, .ref 25), (1, .int (a))], [], g8_0 (pg xs) a b c d, 0, 0)) rfl ?_
    refine pm_go (g := (9, [(0, .ref 25), (1, .int (a))], [.int (a)], g8_0 (pg xs) a b c d, 0, 0)) rfl ?_
    refine pm_go (g := (11, [(0, .ref 25), (1, .int (a))], [.int 11, .int (a)], g8_0 (pg xs) a b c d, 0, 0)) rfl ?_
    refine pm_ifF (h := (14, [(0, .ref 25), (1, .int (a))], [], g8_0 (pg xs) a b c d, 0, 0)) rfl (rF_eq (cx := a.toInt) (cy := 11) rfl (by decide) (by omega)) ?_
    refine pm_go (g := (15, [(0, .ref 25), (1, .int (a))], [.int (-1)], g8_0 (pg xs) a b c d, 0, 0)) rfl ?_
    refine pm_ret rfl ?_
    show pm_WP 0 (400, [(3, .int 0), (2, .ref 25), (1, .ref 1), (0, .ref 0)], [.int (-1), .int (-1)], g8_0 (pg xs) a b c d, 599949, 7298495) _
    refine pm_brT (g := (873, [(3, .int 0), (2, .ref 25), (1, .ref 1), (0, .ref 0)], [], g8_0 (pg xs) a b c d, 599949, 7298495)) rfl ?_
    refine pm_go (g := (876, [(3, .int 5), (2, .ref 25), (1, .ref 1), (0, .ref 0)], [], g8_0 (pg xs) a b c d, 599949, 7298495)) rfl ?_
    refine pm_go (g := (18, [(3, .int 5), (2, .ref 25), (1, .ref 1), (0, .ref 0)], [], g8_0 (pg xs) a b c d, 599949, 7298495)) rfl ?_
    refine pm_go (g := (19, [(3, .int 5), (2, .ref 25), (1, .ref 1), (0, .ref 0)], [.int 5], g8_0 (pg xs) a b c d, 599949, 7298495)) rfl ?_
    refine pm_go (g := (20, [(3, .int 5), (2, .ref 25), (1, .ref 1), (0, .ref 0)], [.ref 0, .int 5], g8_0 (pg xs) a b c d, 599949, 7298495)) rfl ?_
    refine pm_go (g := (21, [(3, .int 5), (2, .ref 25), (1, .ref 1), (0, .ref 0)], [.int 5, .int 5], g8_0 (pg xs) a b c d, 599949, 7298495)) rfl ?_
    refine pm_go (g := (22, [(3, .int 5), (2, .ref 25), (1, .ref 1), (0, .ref 0)], [.int 5, .int 5, .int 5], g8_0 (pg xs) a b c d, 599949, 7298495)) rfl ?_
    refine pm_go (g := (23, [(3, .int 5), (2, .ref 25), (1, .ref 1), (0, .ref 0)], [.int 0, .int 5], g8_0 (pg xs) a b c d, 599949, 7298495)) rfl ?_
    refine pm_brT (g := (879, [(3, .int 5), (2, .ref 25), (1, .ref 1), (0, .ref 0)], [], g8_0 (pg xs) a b c d, 599949, 7298495)) rfl ?_
    refine pm_go (g := (880, [(3, .int 5), (2, .ref 25), (1, .ref 1), (0, .ref 0)], [.int 1], g8_0 (pg xs) a b c d, 599949, 7298495)) rfl ?_
    exact pm_ret rfl rfl
  have q1 := qF_lt (cx := a.toInt) (cy := 0) rfl (by decide) q1
  refine pm_go (g := (5, [(0, .ref 2), (1, .int (a))], [.int (a)], g8_0 (pg xs) a b c d, 0, 0)) rfl ?_
  refine pm_go (g := (7, [(0, .ref 2), (1, .int (a))], [.int 30, .int (a)], g8_0 (pg xs) a b c d, 0, 0)) rfl ?_
  refine pm_if2 (g := (23, [(0, .ref 2), (1, .int (a))], [], g8_0 (pg xs) a b c d, 0, 0)) (h := (10, [(0, .ref 2), (1, .int (a))], [], g8_0 (pg xs) a b c d, 0, 0)) rfl (fun q2 => ?_) (fun q2 => ?_)
  ·
    have q2 := qT_gt (cx := a.toInt) (cy := 30) rfl (by decide) q2
    refine pm_go (g := (24, [(0, .ref 2), (1, .int (a))], [.int 0], g8_0 (pg xs) a b c d, 0, 0)) rfl ?_
    refine pm_ret rfl ?_
    show pm_WP 103 (8, [(0, .ref 1), (1, .int (a))], [.int 0], g8_0 (pg xs) a b c d, 2, 5) _
    refine pm_brF (h := (11, [(0, .ref 1), (1, .int (a))], [], g8_0 (pg xs) a b c d, 2, 5)) rfl ?_
    refine pm_go (g := (12, [(0, .ref 1), (1, .int (a))], [.int (-1)], g8_0 (pg xs) a b c d, 2, 5)) rfl ?_
    refine pm_ret rfl ?_
    show pm_WP 0 (391, [(3, .int 0), (2, .ref 25), (1, .ref 1), (0, .ref 0)], [.int (-1)], g8_0 (pg xs) a b c d, 599949, 7298495) _
    refine pm_go (g := (392, [(3, .int 0), (2, .ref 25), (1, .ref 1), (0, .ref 0)], [.ref 25, .int (-1)], g8_0 (pg xs) a b c d, 599949, 7298495)) rfl ?_
    refine pm_go (g := (393, [(3, .int 0), (2, .ref 25), (1, .ref 1), (0, .ref 0)], [.ref 0, .ref 25, .int (-1)], g8_0 (pg xs) a b c d, 599949, 7298495)) rfl ?_
    refine pm_go (g := (394, [(3, .int 0), (2, .ref 25), (1, .ref 1), (0, .ref 0)], [.int 0, .ref 0, .ref 25, .int (-1)], g8_0 (pg xs) a b c d, 599949, 7298495)) rfl ?_
    refine pm_go (g := (395, [(3, .int 0), (2, .ref 25), (1, .ref 1), (0, .ref 0)], [.int 1, .int 0, .ref 0, .ref 25, .int (-1)], g8_0 (pg xs) a b c d, 599949, 7298495)) rfl ?_
    refine pm_go (g := (396, [(3, .int 0), (2, .ref 25), (1, .ref 1), (0, .ref 0)], [.int 1, .ref 0, .ref 25, .int (-1)], g8_0 (pg xs) a b c d, 599949, 7298495)) rfl ?_
    refine pm_go (g := (397, [(3, .int 0), (2, .ref 25), (1, .ref 1), (0, .ref 0)], [.int (xs 1), .ref 25, .int (-1)], g8_0 (pg xs) a b c d, 599949, 7298495)) rfl ?_
    rw [← ea]
    refine pm_callD (z := 162) (as := [.ref 25, .int (a)]) (rest := [.int (-1)]) rfl ?_
    show pm_WP 162 (0, [(0, .ref 25), (1, .int (a))], [], g8_0 (pg xs) a b c d, 0, 0) _
    refine pm_go (g := (1, [(0, .ref 25), (1, .int (a))], [.ref 25], g8_0 (pg xs) a b c d, 0, 0)) rfl ?_
    refine pm_go (g := (2, [(0, .ref 25), (1, .int (a))], [.int (a), .ref 25], g8_0 (pg xs) a b c d, 0, 0)) rfl ?_
    refine pm_callD (z := 131) (as := [.ref 25, .int (a)]) (rest := []) rfl ?_
    show pm_WP 131 (0, [(0, .ref 25), (1, .int (a))], [], g8_0 (pg xs) a b c d, 0, 0) _
    refine pm_go (g := (1, [(0, .ref 25), (1, .int (a))], [.ref 25], g8_0 (pg xs) a b c d, 0, 0)) rfl ?_
    refine pm_go (g := (2, [(0, .ref 25), (1, .int (a))], [.int (a), .ref 25], g8_0 (pg xs) a b c d, 0, 0)) rfl ?_
    refine pm_callD (z := 129) (as := [.ref 25, .int (a)]) (rest := []) rfl ?_
    show pm_WP 129 (0, [(0, .ref 25), (1, .int (a))], [], g8_0 (pg xs) a b c d, 0, 0) _
    refine pm_go (g := (1, [(0, .ref 25), (1, .int (a))], [.int (a)], g8_0 (pg xs) a b c d, 0, 0)) rfl ?_
    refine pm_go (g := (2, [(0, .ref 25), (1, .int (a))], [.int 0, .int (a)], g8_0 (pg xs) a b c d, 0, 0)) rfl ?_
    refine pm_go (g := (3, [(0, .ref 25), (1, .int (a))], [.ref 25, .int 0, .int (a)], g8_0 (pg xs) a b c d, 0, 0)) rfl ?_
    refine pm_go (g := (6, [(0, .ref 25), (1, .int (a))], [.int 2, .int 0, .int (a)], g8_0 (pg xs) a b c d, 0, 0)) rfl ?_
    refine pm_go (g := (7, [(0, .ref 25), (1, .int (a))], [.int 1, .int 2, .int 0, .int (a)], g8_0 (pg xs) a b c d, 0, 0)) rfl ?_
    refine pm_go (g := (8, [(0, .ref 25), (1, .int (a))], [.int 1, .int 0, .int (a)], g8_0 (pg xs) a b c d, 0, 0)) rfl ?_
    refine pm_callD (z := 128) (as := [.int (a), .int 0, .int 1]) (rest := []) rfl ?_
    show pm_WP 128 (0, [(0, .int (a)), (1, .int 0), (2, .int 1)], [], g8_0 (pg xs) a b c d, 0, 0) _
    refine pm_go (g := (1, [(0, .int (a)), (1, .int 0), (2, .int 1)], [.int (a)], g8_0 (pg xs) a b c d, 0, 0)) rfl ?_
    refine pm_go (g := (2, [(0, .int (a)), (1, .int 0), (2, .int 1)], [.int 0, .int (a)], g8_0 (pg xs) a b c d, 0, 0)) rfl ?_
    refine pm_ifF (h := (5, [(0, .int (a)), (1, .int 0), (2, .int 1)], [], g8_0 (pg xs) a b c d, 0, 0)) rfl (rF_lt (cx := a.toInt) (cy := 0) rfl (by decide) (by omega)) ?_
    refine pm_go (g := (6, [(0, .int (a)), (1, .int 0), (2, .int 1)], [.int (a)], g8_0 (pg xs) a b c d, 0, 0)) rfl ?_
    refine pm_go (g := (7, [(0, .int (a)), (1, .int 0), (2, .int 1)], [.int 1, .int (a)], g8_0 (pg xs) a b c d, 0, 0)) rfl ?_
    refine pm_ifT (g := (14, [(0, .int (a)), (1, .int 0), (2, .int 1)], [], g8_0 (pg xs) a b c d, 0, 0)) rfl (rT_gt (cx := a.toInt) (cy := 1) rfl (by decide) (by omega)) ?_
    refine pm_go (g := (15, [(0, .int (a)), (1, .int 0), (2, .int 1)], [.int 0], g8_0 (pg xs) a b c d, 0, 0)) rfl ?_
    refine pm_ret rfl ?_
    show pm_WP 129 (11, [(0, .ref 25), (1, .int (a))], [.int 0], g8_0 (pg xs) a b c d, 0, 0) _
    refine pm_ret rfl ?_
    show pm_WP 131 (5, [(0, .ref 25), (1, .int (a))], [.int 0], g8_0 (pg xs) a b c d, 0, 0) _
    refine pm_brF (h := (8, [(0, .ref 25), (1, .int (a))], [], g8_0 (pg xs) a b c d, 0, 0)) rfl ?_
    refine pm_go (g := (9, [(0, .ref 25), (1, .int (a))], [.int (a)], g8_0 (pg xs) a b c d, 0, 0)) rfl ?_
    refine pm_go (g := (11, [(0, .ref 25), (1, .int (a))], [.int 10, .int (a)], g8_0 (pg xs) a b c d, 0, 0)) rfl ?_
    refine pm_ifF (h := (14, [(0, .ref 25), (1, .int (a))], [], g8_0 (pg xs) a b c d, 0, 0)) rfl (rF_eq (cx := a.toInt) (cy := 10) rfl (by decide) (by omega)) ?_
    refine pm_go (g := (15, [(0, .ref 25), (1, .int (a))], [.int (a)], g8_0 (pg xs) a b c d, 0, 0)) rfl ?_
    refine pm_go (g := (17, [(0, .ref 25), (1, .int (a))], [.int 20, .int (a)], g8_0 (pg xs) a b c d, 0, 0)) rfl ?_
    refine pm_go (g := (19, [(0, .ref 25), (1, .int (a))], [.int 20, .int 20, .int (a)], g8_0 (pg xs) a b c d, 0, 0)) rfl ?_
    refine pm_go (g := (20, [(0, .ref 25), (1, .int (a))], [.ref 25, .int 20, .int 20, .int (a)], g8_0 (pg xs) a b c d, 0, 0)) rfl ?_
    refine pm_go (g := (23, [(0, .ref 25), (1, .int (a))], [.int 2, .int 20, .int 20, .int (a)], g8_0 (pg xs) a b c d, 0, 0)) rfl ?_
    refine pm_go (g := (24, [(0, .ref 25), (1, .int (a))], [.int 22, .int 20, .int (a)], g8_0 (pg xs) a b c d, 0, 0)) rfl ?_
    refine pm_go (g := (25, [(0, .ref 25), (1, .int (a))], [.int 1, .int 22, .int 20, .int (a)], g8_0 (pg xs) a b c d, 0, 0)) rfl ?_
    refine pm_go (g := (26, [(0, .ref 25), (1, .int (a))], [.int 21, .int 20, .int (a)], g8_0 (pg xs) a b c d, 0, 0)) rfl ?_
    refine pm_callD (z := 128) (as := [.int (a), .int 20, .int 21]) (rest := []) rfl ?_
    show pm_WP 128 (0, [(0, .int (a)), (1, .int 20), (2, .int 21)], [], g8_0 (pg xs) a b c d, 0, 0) _
    refine pm_go (g := (1, [(0, .int (a)), (1, .int 20), (2, .int 21)], [.int (a)], g8_0 (pg xs) a b c d, 0, 0)) rfl ?_
    refine pm_go (g := (2, [(0, .int (a)), (1, .int 20), (2, .int 21)], [.int 20, .int (a)], g8_0 (pg xs) a b c d, 0, 0)) rfl ?_
    refine pm_ifF (h := (5, [(0, .int (a)), (1, .int 20), (2, .int 21)], [], g8_0 (pg xs) a b c d, 0, 0)) rfl (rF_lt (cx := a.toInt) (cy := 20) rfl (by decide) (by omega)) ?_
    refine pm_go (g := (6, [(0, .int (a)), (1, .int 20), (2, .int 21)], [.int (a)], g8_0 (pg xs) a b c d, 0, 0)) rfl ?_
    refine pm_go (g := (7, [(0, .int (a)), (1, .int 20), (2, .int 21)], [.int 21, .int (a)], g8_0 (pg xs) a b c d, 0, 0)) rfl ?_
    refine pm_ifT (g := (14, [(0, .int (a)), (1, .int 20), (2, .int 21)], [], g8_0 (pg xs) a b c d, 0, 0)) rfl (rT_gt (cx := a.toInt) (cy := 21) rfl (by decide) (by omega)) ?_
    refine pm_go (g := (15, [(0, .int (a)), (1, .int 20), (2, .int 21)], [.int 0], g8_0 (pg xs) a b c d, 0, 0)) rfl ?_
    refine pm_ret rfl ?_
    show pm_WP 131 (29, [(0, .ref 25), (1, .int (a))], [.int 0], g8_0 (pg xs) a b c d, 0, 0) _
    refine pm_brF (h := (32, [(0, .ref 25), (1, .int (a))], [], g8_0 (pg xs) a b c d, 0, 0)) rfl ?_
    refine pm_go (g := (33, [(0, .ref 25), (1, .int (a))], [.int (a)], g8_0 (pg xs) a b c d, 0, 0)) rfl ?_
    refine pm_go (g := (35, [(0, .ref 25), (1, .int (a))], [.int 30, .int (a)], g8_0 (pg xs) a b c d, 0, 0)) rfl ?_
    refine pm_ifT (g := (42, [(0, .ref 25), (1, .int (a))], [], g8_0 (pg xs) a b c d, 0, 0)) rfl (rT_ne (cx := a.toInt) (cy := 30) rfl (by decide) (by omega)) ?_
    refine pm_go (g := (43, [(0, .ref 25), (1, .int (a))], [.int 0], g8_0 (pg xs) a b c d, 0, 0)) rfl ?_
    refine pm_ret rfl ?_
    show pm_WP 162 (5, [(0, .ref 25), (1, .int (a))], [.int 0], g8_0 (pg xs) a b c d, 0, 0) _
    refine pm_brF (h := (8, [(0, .ref 25), (1, .int (a))], [], g8_0 (pg xs) a b c d, 0, 0)) rfl ?_
    refine pm_go (g := (9, [(0, .ref 25), (1, .int (a))], [.int (a)], g8_0 (pg xs) a b c d, 0, 0)) rfl ?_
    refine pm_go (g := (11, [(0, .ref 25), (1, .int (a))], [.int 11, .int (a)], g8_0 (pg xs) a b c d, 0, 0)) rfl ?_
    refine pm_ifF (h := (14, [(0, .ref 25), (1, .int (a))], [], g8_0 (pg xs) a b c d, 0, 0)) rfl (rF_eq (cx := a.toInt) (cy := 11) rfl (by decide) (by omega)) ?_
    refine pm_go (g := (15, [(0, .ref 25), (1, .int (a))], [.int (-1)], g8_0 (pg xs) a b c d, 0, 0)) rfl ?_
    refine pm_ret rfl ?_
    show pm_WP 0 (400, [(3, .int 0), (2, .ref 25), (1, .ref 1), (0, .ref 0)], [.int (-1), .int (-1)], g8_0 (pg xs) a b c d, 599949, 7298495) _
    refine pm_brT (g := (873, [(3, .int 0), (2, .ref 25), (1, .ref 1), (0, .ref 0)], [], g8_0 (pg xs) a b c d, 599949, 7298495)) rfl ?_
    refine pm_go (g := (876, [(3, .int 5), (2, .ref 25), (1, .ref 1), (0, .ref 0)], [], g8_0 (pg xs) a b c d, 599949, 7298495)) rfl ?_
    refine pm_go (g := (18, [(3, .int 5), (2, .ref 25), (1, .ref 1), (0, .ref 0)], [], g8_0 (pg xs) a b c d, 599949, 7298495)) rfl ?_
    refine pm_go (g := (19, [(3, .int 5), (2, .ref 25), (1, .ref 1), (0, .ref 0)], [.int 5], g8_0 (pg xs) a b c d, 599949, 7298495)) rfl ?_
    refine pm_go (g := (20, [(3, .int 5), (2, .ref 25), (1, .ref 1), (0, .ref 0)], [.ref 0, .int 5], g8_0 (pg xs) a b c d, 599949, 7298495)) rfl ?_
    refine pm_go (g := (21, [(3, .int 5), (2, .ref 25), (1, .ref 1), (0, .ref 0)], [.int 5, .int 5], g8_0 (pg xs) a b c d, 599949, 7298495)) rfl ?_
    refine pm_go (g := (22, [(3, .int 5), (2, .ref 25), (1, .ref 1), (0, .ref 0)], [.int 5, .int 5, .int 5], g8_0 (pg xs) a b c d, 599949, 7298495)) rfl ?_
    refine pm_go (g := (23, [(3, .int 5), (2, .ref 25), (1, .ref 1), (0, .ref 0)], [.int 0, .int 5], g8_0 (pg xs) a b c d, 599949, 7298495)) rfl ?_
    refine pm_brT (g := (879, [(3, .int 5), (2, .ref 25), (1, .ref 1), (0, .ref 0)], [], g8_0 (pg xs) a b c d, 599949, 7298495)) rfl ?_
    refine pm_go (g := (880, [(3, .int 5), (2, .ref 25), (1, .ref 1), (0, .ref 0)], [.int 1], g8_0 (pg xs) a b c d, 599949, 7298495)) rfl ?_
    exact pm_ret rfl rfl
  have q2 := qF_gt (cx := a.toInt) (cy := 30) rfl (by decide) q2
  refine pm_go (g := (11, [(0, .ref 2), (1, .int (a))], [.ref 2], g8_0 (pg xs) a b c d, 0, 0)) rfl ?_
  refine pm_go (g := (14, [(0, .ref 2), (1, .int (a))], [.ref 4], g8_0 (pg xs) a b c d, 0, 0)) rfl ?_
  refine pm_go (g := (15, [(0, .ref 2), (1, .int (a))], [.int (a), .ref 4], g8_0 (pg xs) a b c d, 0, 0)) rfl ?_
  refine pm_sd (g := (16, [(0, .ref 2), (1, .int (a))], [.int ((upd (upd (upd (upd (upd (upd (upd (fun _ => 0) (0) 1) (1) 3) (10) 1024) (11) 2048) (20) 1048577) (21) 3145729) (30) 1073741825) a.toNatClampNeg)], g8_0 (pg xs) a b c d, 0, 0)) rfl (pm_inI (by omega) (by omega)) ?_
  refine pm_if2 (g := (23, [(0, .ref 2), (1, .int (a))], [], g8_0 (pg xs) a b c d, 0, 0)) (h := (19, [(0, .ref 2), (1, .int (a))], [], g8_0 (pg xs) a b c d, 0, 0)) rfl (fun q3 => ?_) (fun q3 => ?_)
  ·
    have q3 := g8__tb0 a (by omega) (by omega) q3
    refine pm_go (g := (24, [(0, .ref 2), (1, .int (a))], [.int 0], g8_0 (pg xs) a b c d, 0, 0)) rfl ?_
    refine pm_ret rfl ?_
    show pm_WP 103 (8, [(0, .ref 1), (1, .int (a))], [.int 0], g8_0 (pg xs) a b c d, 2, 5) _
    refine pm_brF (h := (11, [(0, .ref 1), (1, .int (a))], [], g8_0 (pg xs) a b c d, 2, 5)) rfl ?_
    refine pm_go (g := (12, [(0, .ref 1), (1, .int (a))], [.int (-1)], g8_0 (pg xs) a b c d, 2, 5)) rfl ?_
    refine pm_ret rfl ?_
    show pm_WP 0 (391, [(3, .int 0), (2, .ref 25), (1, .ref 1), (0, .ref 0)], [.int (-1)], g8_0 (pg xs) a b c d, 599949, 7298495) _
    refine pm_go (g := (392, [(3, .int 0), (2, .ref 25), (1, .ref 1), (0, .ref 0)], [.ref 25, .int (-1)], g8_0 (pg xs) a b c d, 599949, 7298495)) rfl ?_
    refine pm_go (g := (393, [(3, .int 0), (2, .ref 25), (1, .ref 1), (0, .ref 0)], [.ref 0, .ref 25, .int (-1)], g8_0 (pg xs) a b c d, 599949, 7298495)) rfl ?_
    refine pm_go (g := (394, [(3, .int 0), (2, .ref 25), (1, .ref 1), (0, .ref 0)], [.int 0, .ref 0, .ref 25, .int (-1)], g8_0 (pg xs) a b c d, 599949, 7298495)) rfl ?_
    refine pm_go (g := (395, [(3, .int 0), (2, .ref 25), (1, .ref 1), (0, .ref 0)], [.int 1, .int 0, .ref 0, .ref 25, .int (-1)], g8_0 (pg xs) a b c d, 599949, 7298495)) rfl ?_
    refine pm_go (g := (396, [(3, .int 0), (2, .ref 25), (1, .ref 1), (0, .ref 0)], [.int 1, .ref 0, .ref 25, .int (-1)], g8_0 (pg xs) a b c d, 599949, 7298495)) rfl ?_
    refine pm_go (g := (397, [(3, .int 0), (2, .ref 25), (1, .ref 1), (0, .ref 0)], [.int (xs 1), .ref 25, .int (-1)], g8_0 (pg xs) a b c d, 599949, 7298495)) rfl ?_
    rw [← ea]
    refine pm_callD (z := 162) (as := [.ref 25, .int (a)]) (rest := [.int (-1)]) rfl ?_
    show pm_WP 162 (0, [(0, .ref 25), (1, .int (a))], [], g8_0 (pg xs) a b c d, 0, 0) _
    refine pm_go (g := (1, [(0, .ref 25), (1, .int (a))], [.ref 25], g8_0 (pg xs) a b c d, 0, 0)) rfl ?_
    refine pm_go (g := (2, [(0, .ref 25), (1, .int (a))], [.int (a), .ref 25], g8_0 (pg xs) a b c d, 0, 0)) rfl ?_
    refine pm_callD (z := 131) (as := [.ref 25, .int (a)]) (rest := []) rfl ?_
    show pm_WP 131 (0, [(0, .ref 25), (1, .int (a))], [], g8_0 (pg xs) a b c d, 0, 0) _
    refine pm_go (g := (1, [(0, .ref 25), (1, .int (a))], [.ref 25], g8_0 (pg xs) a b c d, 0, 0)) rfl ?_
    refine pm_go (g := (2, [(0, .ref 25), (1, .int (a))], [.int (a), .ref 25], g8_0 (pg xs) a b c d, 0, 0)) rfl ?_
    refine pm_callD (z := 129) (as := [.ref 25, .int (a)]) (rest := []) rfl ?_
    show pm_WP 129 (0, [(0, .ref 25), (1, .int (a))], [], g8_0 (pg xs) a b c d, 0, 0) _
    refine pm_go (g := (1, [(0, .ref 25), (1, .int (a))], [.int (a)], g8_0 (pg xs) a b c d, 0, 0)) rfl ?_
    refine pm_go (g := (2, [(0, .ref 25), (1, .int (a))], [.int 0, .int (a)], g8_0 (pg xs) a b c d, 0, 0)) rfl ?_
    refine pm_go (g := (3, [(0, .ref 25), (1, .int (a))], [.ref 25, .int 0, .int (a)], g8_0 (pg xs) a b c d, 0, 0)) rfl ?_
    refine pm_go (g := (6, [(0, .ref 25), (1, .int (a))], [.int 2, .int 0, .int (a)], g8_0 (pg xs) a b c d, 0, 0)) rfl ?_
    refine pm_go (g := (7, [(0, .ref 25), (1, .int (a))], [.int 1, .int 2, .int 0, .int (a)], g8_0 (pg xs) a b c d, 0, 0)) rfl ?_
    refine pm_go (g := (8, [(0, .ref 25), (1, .int (a))], [.int 1, .int 0, .int (a)], g8_0 (pg xs) a b c d, 0, 0)) rfl ?_
    refine pm_callD (z := 128) (as := [.int (a), .int 0, .int 1]) (rest := []) rfl ?_
    show pm_WP 128 (0, [(0, .int (a)), (1, .int 0), (2, .int 1)], [], g8_0 (pg xs) a b c d, 0, 0) _
    refine pm_go (g := (1, [(0, .int (a)), (1, .int 0), (2, .int 1)], [.int (a)], g8_0 (pg xs) a b c d, 0, 0)) rfl ?_
    refine pm_go (g := (2, [(0, .int (a)), (1, .int 0), (2, .int 1)], [.int 0, .int (a)], g8_0 (pg xs) a b c d, 0, 0)) rfl ?_
    refine pm_ifF (h := (5, [(0, .int (a)), (1, .int 0), (2, .int 1)], [], g8_0 (pg xs) a b c d, 0, 0)) rfl (rF_lt (cx := a.toInt) (cy := 0) rfl (by decide) (by omega)) ?_
    refine pm_go (g := (6, [(0, .int (a)), (1, .int 0), (2, .int 1)], [.int (a)], g8_0 (pg xs) a b c d, 0, 0)) rfl ?_
    refine pm_go (g := (7, [(0, .int (a)), (1, .int 0), (2, .int 1)], [.int 1, .int (a)], g8_0 (pg xs) a b c d, 0, 0)) rfl ?_
    refine pm_ifT (g := (14, [(0, .int (a)), (1, .int 0), (2, .int 1)], [], g8_0 (pg xs) a b c d, 0, 0)) rfl (rT_gt (cx := a.toInt) (cy := 1) rfl (by decide) (by omega)) ?_
    refine pm_go (g := (15, [(0, .int (a)), (1, .int 0), (2, .int 1)], [.int 0], g8_0 (pg xs) a b c d, 0, 0)) rfl ?_
    refine pm_ret rfl ?_
    show pm_WP 129 (11, [(0, .ref 25), (1, .int (a))], [.int 0], g8_0 (pg xs) a b c d, 0, 0) _
    refine pm_ret rfl ?_
    show pm_WP 131 (5, [(0, .ref 25), (1, .int (a))], [.int 0], g8_0 (pg xs) a b c d, 0, 0) _
    refine pm_brF (h := (8, [(0, .ref 25), (1, .int (a))], [], g8_0 (pg xs) a b c d, 0, 0)) rfl ?_
    refine pm_go (g := (9, [(0, .ref 25), (1, .int (a))], [.int (a)], g8_0 (pg xs) a b c d, 0, 0)) rfl ?_
    refine pm_go (g := (11, [(0, .ref 25), (1, .int (a))], [.int 10, .int (a)], g8_0 (pg xs) a b c d, 0, 0)) rfl ?_
    refine pm_ifF (h := (14, [(0, .ref 25), (1, .int (a))], [], g8_0 (pg xs) a b c d, 0, 0)) rfl (rF_eq (cx := a.toInt) (cy := 10) rfl (by decide) (by omega)) ?_
    refine pm_go (g := (15, [(0, .ref 25), (1, .int (a))], [.int (a)], g8_0 (pg xs) a b c d, 0, 0)) rfl ?_
    refine pm_go (g := (17, [(0, .ref 25), (1, .int (a))], [.int 20, .int (a)], g8_0 (pg xs) a b c d, 0, 0)) rfl ?_
    refine pm_go (g := (19, [(0, .ref 25), (1, .int (a))], [.int 20, .int 20, .int (a)], g8_0 (pg xs) a b c d, 0, 0)) rfl ?_
    refine pm_go (g := (20, [(0, .ref 25), (1, .int (a))], [.ref 25, .int 20, .int 20, .int (a)], g8_0 (pg xs) a b c d, 0, 0)) rfl ?_
    refine pm_go (g := (23, [(0, .ref 25), (1, .int (a))], [.int 2, .int 20, .int 20, .int (a)], g8_0 (pg xs) a b c d, 0, 0)) rfl ?_
    refine pm_go (g := (24, [(0, .ref 25), (1, .int (a))], [.int 22, .int 20, .int (a)], g8_0 (pg xs) a b c d, 0, 0)) rfl ?_
    refine pm_go (g := (25, [(0, .ref 25), (1, .int (a))], [.int 1, .int 22, .int 20, .int (a)], g8_0 (pg xs) a b c d, 0, 0)) rfl ?_
    refine pm_go (g := (26, [(0, .ref 25), (1, .int (a))], [.int 21, .int 20, .int (a)], g8_0 (pg xs) a b c d, 0, 0)) rfl ?_
    refine pm_callD (z := 128) (as := [.int (a), .int 20, .int 21]) (rest := []) rfl ?_
    show pm_WP 128 (0, [(0, .int (a)), (1, .int 20), (2, .int 21)], [], g8_0 (pg xs) a b c d, 0, 0) _
    refine pm_go (g := (1, [(0, .int (a)), (1, .int 20), (2, .int 21)], [.int (a)], g8_0 (pg xs) a b c d, 0, 0)) rfl ?_
    refine pm_go (g := (2, [(0, .int (a)), (1, .int 20), (2, .int 21)], [.int 20, .int (a)], g8_0 (pg xs) a b c d, 0, 0)) rfl ?_
    refine pm_if2 (g := (14, [(0, .int (a)), (1, .int 20), (2, .int 21)], [], g8_0 (pg xs) a b c d, 0, 0)) (h := (5, [(0, .int (a)), (1, .int 20), (2, .int 21)], [], g8_0 (pg xs) a b c d, 0, 0)) rfl (fun q4 => ?_) (fun q4 => ?_)
    ·
      have q4 := qT_lt (cx := a.toInt) (cy := 20) rfl (by decide) q4
      refine pm_go (g := (15, [(0, .int (a)), (1, .int 20), (2, .int 21)], [.int 0], g8_0 (pg xs) a b c d, 0, 0)) rfl ?_
      refine pm_ret rfl ?_
      show pm_WP 131 (29, [(0, .ref 25), (1, .int (a))], [.int 0], g8_0 (pg xs) a b c d, 0, 0) _
      refine pm_brF (h := (32, [(0, .ref 25), (1, .int (a))], [], g8_0 (pg xs) a b c d, 0, 0)) rfl ?_
      refine pm_go (g := (33, [(0, .ref 25), (1, .int (a))], [.int (a)], g8_0 (pg xs) a b c d, 0, 0)) rfl ?_
      refine pm_go (g := (35, [(0, .ref 25), (1, .int (a))], [.int 30, .int (a)], g8_0 (pg xs) a b c d, 0, 0)) rfl ?_
      refine pm_ifT (g := (42, [(0, .ref 25), (1, .int (a))], [], g8_0 (pg xs) a b c d, 0, 0)) rfl (rT_ne (cx := a.toInt) (cy := 30) rfl (by decide) (by omega)) ?_
      refine pm_go (g := (43, [(0, .ref 25), (1, .int (a))], [.int 0], g8_0 (pg xs) a b c d, 0, 0)) rfl ?_
      refine pm_ret rfl ?_
      show pm_WP 162 (5, [(0, .ref 25), (1, .int (a))], [.int 0], g8_0 (pg xs) a b c d, 0, 0) _
      refine pm_brF (h := (8, [(0, .ref 25), (1, .int (a))], [], g8_0 (pg xs) a b c d, 0, 0)) rfl ?_
      refine pm_go (g := (9, [(0, .ref 25), (1, .int (a))], [.int (a)], g8_0 (pg xs) a b c d, 0, 0)) rfl ?_
      refine pm_go (g := (11, [(0, .ref 25), (1, .int (a))], [.int 11, .int (a)], g8_0 (pg xs) a b c d, 0, 0)) rfl ?_
      refine pm_ifF (h := (14, [(0, .ref 25), (1, .int (a))], [], g8_0 (pg xs) a b c d, 0, 0)) rfl (rF_eq (cx := a.toInt) (cy := 11) rfl (by decide) (by omega)) ?_
      refine pm_go (g := (15, [(0, .ref 25), (1, .int (a))], [.int (-1)], g8_0 (pg xs) a b c d, 0, 0)) rfl ?_
      refine pm_ret rfl ?_
      show pm_WP 0 (400, [(3, .int 0), (2, .ref 25), (1, .ref 1), (0, .ref 0)], [.int (-1), .int (-1)], g8_0 (pg xs) a b c d, 599949, 7298495) _
      refine pm_brT (g := (873, [(3, .int 0), (2, .ref 25), (1, .ref 1), (0, .ref 0)], [], g8_0 (pg xs) a b c d, 599949, 7298495)) rfl ?_
      refine pm_go (g := (876, [(3, .int 5), (2, .ref 25), (1, .ref 1), (0, .ref 0)], [], g8_0 (pg xs) a b c d, 599949, 7298495)) rfl ?_
      refine pm_go (g := (18, [(3, .int 5), (2, .ref 25), (1, .ref 1), (0, .ref 0)], [], g8_0 (pg xs) a b c d, 599949, 7298495)) rfl ?_
      refine pm_go (g := (19, [(3, .int 5), (2, .ref 25), (1, .ref 1), (0, .ref 0)], [.int 5], g8_0 (pg xs) a b c d, 599949, 7298495)) rfl ?_
      refine pm_go (g := (20, [(3, .int 5), (2, .ref 25), (1, .ref 1), (0, .ref 0)], [.ref 0, .int 5], g8_0 (pg xs) a b c d, 599949, 7298495)) rfl ?_
      refine pm_go (g := (21, [(3, .int 5), (2, .ref 25), (1, .ref 1), (0, .ref 0)], [.int 5, .int 5], g8_0 (pg xs) a b c d, 599949, 7298495)) rfl ?_
      refine pm_go (g := (22, [(3, .int 5), (2, .ref 25), (1, .ref 1), (0, .ref 0)], [.int 5, .int 5, .int 5], g8_0 (pg xs) a b c d, 599949, 7298495)) rfl ?_
      refine pm_go (g := (23, [(3, .int 5), (2, .ref 25), (1, .ref 1), (0, .ref 0)], [.int 0, .int 5], g8_0 (pg xs) a b c d, 599949, 7298495)) rfl ?_
      refine pm_brT (g := (879, [(3, .int 5), (2, .ref 25), (1, .ref 1), (0, .ref 0)], [], g8_0 (pg xs) a b c d, 599949, 7298495)) rfl ?_
      refine pm_go (g := (880, [(3, .int 5), (2, .ref 25), (1, .ref 1), (0, .ref 0)], [.int 1], g8_0 (pg xs) a b c d, 599949, 7298495)) rfl ?_
      exact pm_ret rfl rfl
    have q4 := qF_lt (cx := a.toInt) (cy := 20) rfl (by decide) q4
    refine pm_go (g := (6, [(0, .int (a)), (1, .int 20), (2, .int 21)], [.int (a)], g8_0 (pg xs) a b c d, 0, 0)) rfl ?_
    refine pm_go (g := (7, [(0, .int (a)), (1, .int 20), (2, .int 21)], [.int 21, .int (a)], g8_0 (pg xs) a b c d, 0, 0)) rfl ?_
    refine pm_ifT (g := (14, [(0, .int (a)), (1, .int 20), (2, .int 21)], [], g8_0 (pg xs) a b c d, 0, 0)) rfl (rT_gt (cx := a.toInt) (cy := 21) rfl (by decide) (by omega)) ?_
    refine pm_go (g := (15, [(0, .int (a)), (1, .int 20), (2, .int 21)], [.int 0], g8_0 (pg xs) a b c d, 0, 0)) rfl ?_
    refine pm_ret rfl ?_
    show pm_WP 131 (29, [(0, .ref 25), (1, .int (a))], [.int 0], g8_0 (pg xs) a b c d, 0, 0) _
    refine pm_brF (h := (32, [(0, .ref 25), (1, .int (a))], [], g8_0 (pg xs) a b c d, 0, 0)) rfl ?_
    refine pm_go (g := (33, [(0, .ref 25), (1, .int (a))], [.int (a)], g8_0 (pg xs) a b c d, 0, 0)) rfl ?_
    refine pm_go (g := (35, [(0, .ref 25), (1, .int (a))], [.int 30, .int (a)], g8_0 (pg xs) a b c d, 0, 0)) rfl ?_
    refine pm_ifT (g := (42, [(0, .ref 25), (1, .int (a))], [], g8_0 (pg xs) a b c d, 0, 0)) rfl (rT_ne (cx := a.toInt) (cy := 30) rfl (by decide) (by omega)) ?_
    refine pm_go (g := (43, [(0, .ref 25), (1, .int (a))], [.int 0], g8_0 (pg xs) a b c d, 0, 0)) rfl ?_
    refine pm_ret rfl ?_
    show pm_WP 162 (5, [(0, .ref 25), (1, .int (a))], [.int 0], g8_0 (pg xs) a b c d, 0, 0) _
    refine pm_brF (h := (8, [(0, .ref 25), (1, .int (a))], [], g8_0 (pg xs) a b c d, 0, 0)) rfl ?_
    refine pm_go (g := (9, [(0, .ref 25), (1, .int (a))], [.int (a)], g8_0 (pg xs) a b c d, 0, 0)) rfl ?_
    refine pm_go (g := (11, [(0, .ref 25), (1, .int (a))], [.int 11, .int (a)], g8_0 (pg xs) a b c d, 0, 0)) rfl ?_
    refine pm_ifF (h := (14, [(0, .ref 25), (1, .int (a))], [], g8_0 (pg xs) a b c d, 0, 0)) rfl (rF_eq (cx := a.toInt) (cy := 11) rfl (by decide) (by omega)) ?_
    refine pm_go (g := (15, [(0, .ref 25), (1, .int (a))], [.int (-1)], g8_0 (pg xs) a b c d, 0, 0)) rfl ?_
    refine pm_ret rfl ?_
    show pm_WP 0 (400, [(3, .int 0), (2, .ref 25), (1, .ref 1), (0, .ref 0)], [.int (-1), .int (-1)], g8_0 (pg xs) a b c d, 599949, 7298495) _
    refine pm_brT (g := (873, [(3, .int 0), (2, .ref 25), (1, .ref 1), (0, .ref 0)], [], g8_0 (pg xs) a b c d, 599949, 7298495)) rfl ?_
    refine pm_go (g := (876, [(3, .int 5), (2, .ref 25), (1, .ref 1), (0, .ref 0)], [], g8_0 (pg xs) a b c d, 599949, 7298495)) rfl ?_
    refine pm_go (g := (18, [(3, .int 5), (2, .ref 25), (1, .ref 1), (0, .ref 0)], [], g8_0 (pg xs) a b c d, 599949, 7298495)) rfl ?_
    refine pm_go (g := (19, [(3, .int 5), (2, .ref 25), (1, .ref 1), (0, .ref 0)], [.int 5], g8_0 (pg xs) a b c d, 599949, 7298495)) rfl ?_
    refine pm_go (g := (20, [(3, .int 5), (2, .ref 25), (1, .ref 1), (0, .ref 0)], [.ref 0, .int 5], g8_0 (pg xs) a b c d, 599949, 7298495)) rfl ?_
    refine pm_go (g := (21, [(3, .int 5), (2, .ref 25), (1, .ref 1), (0, .ref 0)], [.int 5, .int 5], g8_0 (pg xs) a b c d, 599949, 7298495)) rfl ?_
    refine pm_go (g := (22, [(3, .int 5), (2, .ref 25), (1, .ref 1), (0, .ref 0)], [.int 5, .int 5, .int 5], g8_0 (pg xs) a b c d, 599949, 7298495)) rfl ?_
    refine pm_go (g := (23, [(3, .int 5), (2, .ref 25), (1, .ref 1), (0, .ref 0)], [.int 0, .int 5], g8_0 (pg xs) a b c d, 599949, 7298495)) rfl ?_
    refine pm_brT (g := (879, [(3, .int 5), (2, .ref 25), (1, .ref 1), (0, .ref 0)], [], g8_0 (pg xs) a b c d, 599949, 7298495)) rfl ?_
    refine pm_go (g := (880, [(3, .int 5), (2, .ref 25), (1, .ref 1), (0, .ref 0)], [.int 1], g8_0 (pg xs) a b c d, 599949, 7298495)) rfl ?_
    exact pm_ret rfl rfl
  have q3 := g8__tb1 a (by omega) (by omega) q3
  refine pm_go (g := (20, [(0, .ref 2), (1, .int (a))], [.int 1], g8_0 (pg xs) a b c d, 0, 0)) rfl ?_
  refine pm_go (g := (24, [(0, .ref 2), (1, .int (a))], [.int 1], g8_0 (pg xs) a b c d, 0, 0)) rfl ?_
  refine pm_ret rfl ?_
  show pm_WP 103 (8, [(0, .ref 1), (1, .int (a))], [.int 1], g8_0 (pg xs) a b c d, 2, 5) _
  refine pm_brT (g := (13, [(0, .ref 1), (1, .int (a))], [], g8_0 (pg xs) a b c d, 2, 5)) rfl ?_
  refine pm_go (g := (14, [(0, .ref 1), (1, .int (a))], [.ref 1], g8_0 (pg xs) a b c d, 2, 5)) rfl ?_
  refine pm_go (g := (17, [(0, .ref 1), (1, .int (a))], [.int 0], g8_0 (pg xs) a b c d, 2, 5)) rfl ?_
  refine pm_go (g := (19, [(0, .ref 1), (1, .int (a))], [.int 10, .int 0], g8_0 (pg xs) a b c d, 2, 5)) rfl ?_
  refine pm_brT (g := (25, [(0, .ref 1), (1, .int (a))], [], g8_0 (pg xs) a b c d, 2, 5)) rfl ?_
  refine pm_go (g := (26, [(0, .ref 1), (1, .int (a))], [.ref 1], g8_0 (pg xs) a b c d, 2, 5)) rfl ?_
  refine pm_go (g := (29, [(0, .ref 1), (1, .int (a))], [.ref 21], g8_0 (pg xs) a b c d, 2, 5)) rfl ?_
  refine pm_go (g := (30, [(0, .ref 1), (1, .int (a))], [.ref 1, .ref 21], g8_0 (pg xs) a b c d, 2, 5)) rfl ?_
  refine pm_go (g := (33, [(0, .ref 1), (1, .int (a))], [.int 0, .ref 21], g8_0 (pg xs) a b c d, 2, 5)) rfl ?_
  refine pm_go (g := (36, [(0, .ref 1), (1, .int (a))], [.ref 50, .int 0, .ref 21], g8_1 (pg xs) a b c d, 1, 3)) rfl ?_
  refine pm_go (g := (37, [(0, .ref 1), (1, .int (a))], [.ref 50, .ref 50, .int 0, .ref 21], g8_1 (pg xs) a b c d, 1, 3)) rfl ?_
  refine pm_go (g := (38, [(0, .ref 1), (1, .int (a))], [.ref 1, .ref 50, .ref 50, .int 0, .ref 21], g8_1 (pg xs) a b c d, 1, 3)) rfl ?_
  refine pm_callD (z := 102) (as := [.ref 1]) (rest := [.ref 50, .ref 50, .int 0, .ref 21]) rfl ?_
  show pm_WP 102 (0, [(0, .ref 1)], [], g8_1 (pg xs) a b c d, 1, 3) _
  refine pm_go (g := (1, [(0, .ref 1)], [.ref 1], g8_1 (pg xs) a b c d, 1, 3)) rfl ?_
  refine pm_go (g := (4, [(0, .ref 1)], [.int 0], g8_1 (pg xs) a b c d, 1, 3)) rfl ?_
  refine pm_go (g := (6, [(0, .ref 1)], [.ref 51], g8_2 (pg xs) a b c d, 0, 3)) rfl ?_
  refine pm_go (g := (7, [(1, .ref 51), (0, .ref 1)], [], g8_2 (pg xs) a b c d, 0, 3)) rfl ?_
  refine pm_go (g := (8, [(1, .ref 51), (0, .ref 1)], [.ref 1], g8_2 (pg xs) a b c d, 0, 3)) rfl ?_
  refine pm_go (g := (11, [(1, .ref 51), (0, .ref 1)], [.ref 20], g8_2 (pg xs) a b c d, 0, 3)) rfl ?_
  refine pm_go (g := (12, [(1, .ref 51), (0, .ref 1)], [.int 0, .ref 20], g8_2 (pg xs) a b c d, 0, 3)) rfl ?_
  refine pm_go (g := (13, [(1, .ref 51), (0, .ref 1)], [.ref 51, .int 0, .ref 20], g8_2 (pg xs) a b c d, 0, 3)) rfl ?_
  refine pm_go (g := (14, [(1, .ref 51), (0, .ref 1)], [.int 0, .ref 51, .int 0, .ref 20], g8_2 (pg xs) a b c d, 0, 3)) rfl ?_
  refine pm_go (g := (15, [(1, .ref 51), (0, .ref 1)], [.ref 1, .int 0, .ref 51, .int 0, .ref 20], g8_2 (pg xs) a b c d, 0, 3)) rfl ?_
  refine pm_go (g := (18, [(1, .ref 51), (0, .ref 1)], [.int 0, .int 0, .ref 51, .int 0, .ref 20], g8_2 (pg xs) a b c d, 0, 3)) rfl ?_
  refine pm_go (g := (21, [(1, .ref 51), (0, .ref 1)], [], g8_3 (pg xs) a b c d, 0, 3)) rfl ?_
  refine pm_go (g := (22, [(1, .ref 51), (0, .ref 1)], [.ref 51], g8_3 (pg xs) a b c d, 0, 3)) rfl ?_
  refine pm_ret rfl ?_
  show pm_WP 103 (41, [(0, .ref 1), (1, .int (a))], [.ref 51, .ref 50, .ref 50, .int 0, .ref 21], g8_3 (pg xs) a b c d, 0, 0) _
  refine pm_go (g := (42, [(0, .ref 1), (1, .int (a))], [.int (a), .ref 51, .ref 50, .ref 50, .int 0, .ref 21], g8_3 (pg xs) a b c d, 0, 0)) rfl ?_
  refine pm_callD (z := 13) (as := [.ref 50, .ref 51, .int (a)]) (rest := [.ref 50, .int 0, .ref 21]) rfl ?_
  show pm_WP 13 (0, [(0, .ref 50), (1, .ref 51), (2, .int (a))], [], g8_3 (pg xs) a b c d, 0, 0) _
  refine pm_go (g := (1, [(0, .ref 50), (1, .ref 51), (2, .int (a))], [.ref 50], g8_3 (pg xs) a b c d, 0, 0)) rfl ?_
  refine pm_go (g := (4, [(0, .ref 50), (1, .ref 51), (2, .int (a))], [], g8_3 (pg xs) a b c d, 0, 0)) rfl ?_
  refine pm_go (g := (5, [(0, .ref 50), (1, .ref 51), (2, .int (a))], [.ref 50], g8_3 (pg xs) a b c d, 0, 0)) rfl ?_
  refine pm_go (g := (6, [(0, .ref 50), (1, .ref 51), (2, .int (a))], [.ref 51, .ref 50], g8_3 (pg xs) a b c d, 0, 0)) rfl ?_
  refine pm_go (g := (9, [(0, .ref 50), (1, .ref 51), (2, .int (a))], [], g8_4 (pg xs) a b c d, 0, 0)) rfl ?_
  refine pm_go (g := (10, [(0, .ref 50), (1, .ref 51), (2, .int (a))], [.ref 50], g8_4 (pg xs) a b c d, 0, 0)) rfl ?_
  refine pm_go (g := (11, [(0, .ref 50), (1, .ref 51), (2, .int (a))], [.int (a), .ref 50], g8_4 (pg xs) a b c d, 0, 0)) rfl ?_
  refine pm_go (g := (14, [(0, .ref 50), (1, .ref 51), (2, .int (a))], [], g8_5 (pg xs) a b c d, 0, 0)) rfl ?_
  refine pm_ret rfl ?_
  show pm_WP 103 (45, [(0, .ref 1), (1, .int (a))], [.ref 50, .int 0, .ref 21], g8_5 (pg xs) a b c d, 0, 0) _
  refine pm_go (g := (46, [(0, .ref 1), (1, .int (a))], [], g8_6 (pg xs) a b c d, 0, 0)) rfl ?_
  refine pm_go (g := (47, [(0, .ref 1), (1, .int (a))], [.ref 1], g8_6 (pg xs) a b c d, 0, 0)) rfl ?_
  refine pm_go (g := (48, [(0, .ref 1), (1, .int (a))], [.int 0, .ref 1], g8_6 (pg xs) a b c d, 0, 0)) rfl ?_
  refine pm_go (g := (51, [(0, .ref 1), (1, .int (a))], [], g8_6 (pg xs) a b c d, 0, 0)) rfl ?_
  refine pm_go (g := (52, [(0, .ref 1), (1, .int (a))], [.ref 1], g8_6 (pg xs) a b c d, 0, 0)) rfl ?_
  refine pm_go (g := (53, [(0, .ref 1), (1, .int (a))], [.ref 1, .ref 1], g8_6 (pg xs) a b c d, 0, 0)) rfl ?_
  refine pm_go (g := (56, [(0, .ref 1), (1, .int (a))], [.int 0, .ref 1], g8_6 (pg xs) a b c d, 0, 0)) rfl ?_
  refine pm_go (g := (57, [(0, .ref 1), (1, .int (a))], [.int 1, .int 0, .ref 1], g8_6 (pg xs) a b c d, 0, 0)) rfl ?_
  refine pm_go (g := (58, [(0, .ref 1), (1, .int (a))], [.int 1, .ref 1], g8_6 (pg xs) a b c d, 0, 0)) rfl ?_
  refine pm_go (g := (61, [(0, .ref 1), (1, .int (a))], [], g8_7 (pg xs) a b c d, 0, 0)) rfl ?_
  refine pm_go (g := (62, [(0, .ref 1), (1, .int (a))], [.ref 1], g8_7 (pg xs) a b c d, 0, 0)) rfl ?_
  refine pm_go (g := (65, [(0, .ref 1), (1, .int (a))], [.int 1], g8_7 (pg xs) a b c d, 0, 0)) rfl ?_
  refine pm_go (g := (66, [(0, .ref 1), (1, .int (a))], [.int 1, .int 1], g8_7 (pg xs) a b c d, 0, 0)) rfl ?_
  refine pm_go (g := (67, [(0, .ref 1), (1, .int (a))], [.int 0], g8_7 (pg xs) a b c d, 0, 0)) rfl ?_
  refine pm_ret rfl ?_
  show pm_WP 0 (391, [(3, .int 0), (2, .ref 25), (1, .ref 1), (0, .ref 0)], [.int 0], g8_7 (pg xs) a b c d, 599949, 7298495) _
  refine pm_go (g := (392, [(3, .int 0), (2, .ref 25), (1, .ref 1), (0, .ref 0)], [.ref 25, .int 0], g8_7 (pg xs) a b c d, 599949, 7298495)) rfl ?_
  refine pm_go (g := (393, [(3, .int 0), (2, .ref 25), (1, .ref 1), (0, .ref 0)], [.ref 0, .ref 25, .int 0], g8_7 (pg xs) a b c d, 599949, 7298495)) rfl ?_
  refine pm_go (g := (394, [(3, .int 0), (2, .ref 25), (1, .ref 1), (0, .ref 0)], [.int 0, .ref 0, .ref 25, .int 0], g8_7 (pg xs) a b c d, 599949, 7298495)) rfl ?_
  refine pm_go (g := (395, [(3, .int 0), (2, .ref 25), (1, .ref 1), (0, .ref 0)], [.int 1, .int 0, .ref 0, .ref 25, .int 0], g8_7 (pg xs) a b c d, 599949, 7298495)) rfl ?_
  refine pm_go (g := (396, [(3, .int 0), (2, .ref 25), (1, .ref 1), (0, .ref 0)], [.int 1, .ref 0, .ref 25, .int 0], g8_7 (pg xs) a b c d, 599949, 7298495)) rfl ?_
  refine pm_go (g := (397, [(3, .int 0), (2, .ref 25), (1, .ref 1), (0, .ref 0)], [.int (xs 1), .ref 25, .int 0], g8_7 (pg xs) a b c d, 599949, 7298495)) rfl ?_
  rw [← ea]
  refine pm_callD (z := 162) (as := [.ref 25, .int (a)]) (rest := [.int 0]) rfl ?_
  show pm_WP 162 (0, [(0, .ref 25), (1, .int (a))], [], g8_7 (pg xs) a b c d, 0, 0) _
  refine pm_go (g := (1, [(0, .ref 25), (1, .int (a))], [.ref 25], g8_7 (pg xs) a b c d, 0, 0)) rfl ?_
  refine pm_go (g := (2, [(0, .ref 25), (1, .int (a))], [.int (a), .ref 25], g8_7 (pg xs) a b c d, 0, 0)) rfl ?_
  refine pm_callD (z := 131) (as := [.ref 25, .int (a)]) (rest := []) rfl ?_
  show pm_WP 131 (0, [(0, .ref 25), (1, .int (a))], [], g8_7 (pg xs) a b c d, 0, 0) _
  refine pm_go (g := (1, [(0, .ref 25), (1, .int (a))], [.ref 25], g8_7 (pg xs) a b c d, 0, 0)) rfl ?_
  refine pm_go (g := (2, [(0, .ref 25), (1, .int (a))], [.int (a), .ref 25], g8_7 (pg xs) a b c d, 0, 0)) rfl ?_
  refine pm_callD (z := 129) (as := [.ref 25, .int (a)]) (rest := []) rfl ?_
  show pm_WP 129 (0, [(0, .ref 25), (1, .int (a))], [], g8_7 (pg xs) a b c d, 0, 0) _
  refine pm_go (g := (1, [(0, .ref 25), (1, .int (a))], [.int (a)], g8_7 (pg xs) a b c d, 0, 0)) rfl ?_
  refine pm_go (g := (2, [(0, .ref 25), (1, .int (a))], [.int 0, .int (a)], g8_7 (pg xs) a b c d, 0, 0)) rfl ?_
  refine pm_go (g := (3, [(0, .ref 25), (1, .int (a))], [.ref 25, .int 0, .int (a)], g8_7 (pg xs) a b c d, 0, 0)) rfl ?_
  refine pm_go (g := (6, [(0, .ref 25), (1, .int (a))], [.int 2, .int 0, .int (a)], g8_7 (pg xs) a b c d, 0, 0)) rfl ?_
  refine pm_go (g := (7, [(0, .ref 25), (1, .int (a))], [.int 1, .int 2, .int 0, .int (a)], g8_7 (pg xs) a b c d, 0, 0)) rfl ?_
  refine pm_go (g := (8, [(0, .ref 25), (1, .int (a))], [.int 1, .int 0, .int (a)], g8_7 (pg xs) a b c d, 0, 0)) rfl ?_
  refine pm_callD (z := 128) (as := [.int (a), .int 0, .int 1]) (rest := []) rfl ?_
  show pm_WP 128 (0, [(0, .int (a)), (1, .int 0), (2, .int 1)], [], g8_7 (pg xs) a b c d, 0, 0) _
  refine pm_go (g := (1, [(0, .int (a)), (1, .int 0), (2, .int 1)], [.int (a)], g8_7 (pg xs) a b c d, 0, 0)) rfl ?_
  refine pm_go (g := (2, [(0, .int (a)), (1, .int 0), (2, .int 1)], [.int 0, .int (a)], g8_7 (pg xs) a b c d, 0, 0)) rfl ?_
  refine pm_ifF (h := (5, [(0, .int (a)), (1, .int 0), (2, .int 1)], [], g8_7 (pg xs) a b c d, 0, 0)) rfl (rF_lt (cx := a.toInt) (cy := 0) rfl (by decide) (by omega)) ?_
  refine pm_go (g := (6, [(0, .int (a)), (1, .int 0), (2, .int 1)], [.int (a)], g8_7 (pg xs) a b c d, 0, 0)) rfl ?_
  refine pm_go (g := (7, [(0, .int (a)), (1, .int 0), (2, .int 1)], [.int 1, .int (a)], g8_7 (pg xs) a b c d, 0, 0)) rfl ?_
  refine pm_if2 (g := (14, [(0, .int (a)), (1, .int 0), (2, .int 1)], [], g8_7 (pg xs) a b c d, 0, 0)) (h := (10, [(0, .int (a)), (1, .int 0), (2, .int 1)], [], g8_7 (pg xs) a b c d, 0, 0)) rfl (fun q5 => ?_) (fun q5 => ?_)
  ·
    have q5 := qT_gt (cx := a.toInt) (cy := 1) rfl (by decide) q5
    refine pm_go (g := (15, [(0, .int (a)), (1, .int 0), (2, .int 1)], [.int 0], g8_7 (pg xs) a b c d, 0, 0)) rfl ?_
    refine pm_ret rfl ?_
    show pm_WP 129 (11, [(0, .ref 25), (1, .int (a))], [.int 0], g8_7 (pg xs) a b c d, 0, 0) _
    refine pm_ret rfl ?_
    show pm_WP 131 (5, [(0, .ref 25), (1, .int (a))], [.int 0], g8_7 (pg xs) a b c d, 0, 0) _
    refine pm_brF (h := (8, [(0, .ref 25), (1, .int (a))], [], g8_7 (pg xs) a b c d, 0, 0)) rfl ?_
    refine pm_go (g := (9, [(0, .ref 25), (1, .int (a))], [.int (a)], g8_7 (pg xs) a b c d, 0, 0)) rfl ?_
    refine pm_go (g := (11, [(0, .ref 25), (1, .int (a))], [.int 10, .int (a)], g8_7 (pg xs) a b c d, 0, 0)) rfl ?_
    refine pm_if2 (g := (38, [(0, .ref 25), (1, .int (a))], [], g8_7 (pg xs) a b c d, 0, 0)) (h := (14, [(0, .ref 25), (1, .int (a))], [], g8_7 (pg xs) a b c d, 0, 0)) rfl (fun q6 => ?_) (fun q6 => ?_)
    ·
      have q6 := qT_eq (cx := a.toInt) (cy := 10) rfl (by decide) q6
      obtain rfl : a = 10 := xI (c := 10) (by decide) (by omega)
      show pm_WP 131 (38, [(0, .ref 25), (1, .int 10)], [], g8_8 (pg xs) 10 b c d, 0, 0) _
      refine pm_go (g := (39, [(0, .ref 25), (1, .int 10)], [.int 1], g8_8 (pg xs) 10 b c d, 0, 0)) rfl ?_
      refine pm_go (g := (43, [(0, .ref 25), (1, .int 10)], [.int 1], g8_8 (pg xs) 10 b c d, 0, 0)) rfl ?_
      refine pm_ret rfl ?_
      show pm_WP 162 (5, [(0, .ref 25), (1, .int 10)], [.int 1], g8_8 (pg xs) 10 b c d, 0, 0) _
      refine pm_brT (g := (16, [(0, .ref 25), (1, .int 10)], [], g8_8 (pg xs) 10 b c d, 0, 0)) rfl ?_
      refine pm_go (g := (17, [(0, .ref 25), (1, .int 10)], [.ref 25], g8_8 (pg xs) 10 b c d, 0, 0)) rfl ?_
      refine pm_go (g := (20, [(0, .ref 25), (1, .int 10)], [.int 0], g8_8 (pg xs) 10 b c d, 0, 0)) rfl ?_
      refine pm_go (g := (22, [(0, .ref 25), (1, .int 10)], [.int 10, .int 0], g8_8 (pg xs) 10 b c d, 0, 0)) rfl ?_
      refine pm_brT (g := (28, [(0, .ref 25), (1, .int 10)], [], g8_8 (pg xs) 10 b c d, 0, 0)) rfl ?_
      refine pm_go (g := (29, [(0, .ref 25), (1, .int 10)], [.ref 25], g8_8 (pg xs) 10 b c d, 0, 0)) rfl ?_
      refine pm_go (g := (32, [(0, .ref 25), (1, .int 10)], [.ref 34], g8_8 (pg xs) 10 b c d, 0, 0)) rfl ?_
      refine pm_go (g := (33, [(0, .ref 25), (1, .int 10)], [.ref 25, .ref 34], g8_8 (pg xs) 10 b c d, 0, 0)) rfl ?_
      refine pm_go (g := (36, [(0, .ref 25), (1, .int 10)], [.int 0, .ref 34], g8_8 (pg xs) 10 b c d, 0, 0)) rfl ?_
      refine pm_go (g := (37, [(0, .ref 25), (1, .int 10)], [.ref 25, .int 0, .ref 34], g8_8 (pg xs) 10 b c d, 0, 0)) rfl ?_
      refine pm_go (g := (40, [(0, .ref 25), (1, .int 10)], [.int 0, .int 0, .ref 34], g8_8 (pg xs) 10 b c d, 0, 0)) rfl ?_
      refine pm_go (g := (41, [(0, .ref 25), (1, .int 10)], [], g8_9 (pg xs) 10 b c d, 0, 0)) rfl ?_
      refine pm_go (g := (42, [(0, .ref 25), (1, .int 10)], [.int 0], g8_9 (pg xs) 10 b c d, 0, 0)) rfl ?_
      refine pm_go (g := (43, [(2, .int 0), (0, .ref 25), (1, .int 10)], [], g8_9 (pg xs) 10 b c d, 0, 0)) rfl ?_
      refine pm_go (g := (44, [(2, .int 0), (0, .ref 25), (1, .int 10)], [.int 0], g8_9 (pg xs) 10 b c d, 0, 0)) rfl ?_
      refine pm_go (g := (45, [(2, .int 0), (0, .ref 25), (1, .int 10)], [.ref 25, .int 0], g8_9 (pg xs) 10 b c d, 0, 0)) rfl ?_
      refine pm_go (g := (48, [(2, .int 0), (0, .ref 25), (1, .int 10)], [.int 0, .int 0], g8_9 (pg xs) 10 b c d, 0, 0)) rfl ?_
      refine pm_brT (g := (76, [(2, .int 0), (0, .ref 25), (1, .int 10)], [], g8_9 (pg xs) 10 b c d, 0, 0)) rfl ?_
      refine pm_go (g := (77, [(2, .int 0), (0, .ref 25), (1, .int 10)], [.ref 25], g8_9 (pg xs) 10 b c d, 0, 0)) rfl ?_
      refine pm_go (g := (80, [(2, .int 0), (0, .ref 25), (1, .int 10)], [.ref 36], g8_9 (pg xs) 10 b c d, 0, 0)) rfl ?_
      refine pm_go (g := (81, [(2, .int 0), (0, .ref 25), (1, .int 10)], [.ref 25, .ref 36], g8_9 (pg xs) 10 b c d, 0, 0)) rfl ?_
      refine pm_go (g := (84, [(2, .int 0), (0, .ref 25), (1, .int 10)], [.int 0, .ref 36], g8_9 (pg xs) 10 b c d, 0, 0)) rfl ?_
      refine pm_go (g := (85, [(2, .int 0), (0, .ref 25), (1, .int 10)], [.int 10, .int 0, .ref 36], g8_9 (pg xs) 10 b c d, 0, 0)) rfl ?_
      refine pm_go (g := (86, [(2, .int 0), (0, .ref 25), (1, .int 10)], [], g8_10 (pg xs) 10 b c d, 0, 0)) rfl ?_
      refine pm_go (g := (87, [(2, .int 0), (0, .ref 25), (1, .int 10)], [.ref 25], g8_10 (pg xs) 10 b c d, 0, 0)) rfl ?_
      refine pm_go (g := (88, [(2, .int 0), (0, .ref 25), (1, .int 10)], [.int 0, .ref 25], g8_10 (pg xs) 10 b c d, 0, 0)) rfl ?_
      refine pm_go (g := (91, [(2, .int 0), (0, .ref 25), (1, .int 10)], [], g8_10 (pg xs) 10 b c d, 0, 0)) rfl ?_
      refine pm_go (g := (92, [(2, .int 0), (0, .ref 25), (1, .int 10)], [.ref 25], g8_10 (pg xs) 10 b c d, 0, 0)) rfl ?_
      refine pm_go (g := (93, [(2, .int 0), (0, .ref 25), (1, .int 10)], [.ref 25, .ref 25], g8_10 (pg xs) 10 b c d, 0, 0)) rfl ?_
      refine pm_go (g := (96, [(2, .int 0), (0, .ref 25), (1, .int 10)], [.int 0, .ref 25], g8_10 (pg xs) 10 b c d, 0, 0)) rfl ?_
      refine pm_go (g := (97, [(2, .int 0), (0, .ref 25), (1, .int 10)], [.int 1, .int 0, .ref 25], g8_10 (pg xs) 10 b c d, 0, 0)) rfl ?_
      refine pm_go (g := (98, [(2, .int 0), (0, .ref 25), (1, .int 10)], [.int 1, .ref 25], g8_10 (pg xs) 10 b c d, 0, 0)) rfl ?_
      refine pm_go (g := (101, [(2, .int 0), (0, .ref 25), (1, .int 10)], [], g8_11 (pg xs) 10 b c d, 0, 0)) rfl ?_
      refine pm_go (g := (102, [(2, .int 0), (0, .ref 25), (1, .int 10)], [.ref 25], g8_11 (pg xs) 10 b c d, 0, 0)) rfl ?_
      refine pm_go (g := (105, [(2, .int 0), (0, .ref 25), (1, .int 10)], [.int 1], g8_11 (pg xs) 10 b c d, 0, 0)) rfl ?_
      refine pm_go (g := (106, [(2, .int 0), (0, .ref 25), (1, .int 10)], [.int 1, .int 1], g8_11 (pg xs) 10 b c d, 0, 0)) rfl ?_
      refine pm_go (g := (107, [(2, .int 0), (0, .ref 25), (1, .int 10)], [.int 0], g8_11 (pg xs) 10 b c d, 0, 0)) rfl ?_
      refine pm_ret rfl ?_
      show pm_WP 0 (400, [(3, .int 0), (2, .ref 25), (1, .ref 1), (0, .ref 0)], [.int 0, .int 0], g8_11 (pg xs) 10 b c d, 599949, 7298495) _
      refine pm_brT (g := (873, [(3, .int 0), (2, .ref 25), (1, .ref 1), (0, .ref 0)], [], g8_11 (pg xs) 10 b c d, 599949, 7298495)) rfl ?_
      refine pm_go (g := (876, [(3, .int 5), (2, .ref 25), (1, .ref 1), (0, .ref 0)], [], g8_11 (pg xs) 10 b c d, 599949, 7298495)) rfl ?_
      refine pm_go (g := (18, [(3, .int 5), (2, .ref 25), (1, .ref 1), (0, .ref 0)], [], g8_11 (pg xs) 10 b c d, 599949, 7298495)) rfl ?_
      refine pm_go (g := (19, [(3, .int 5), (2, .ref 25), (1, .ref 1), (0, .ref 0)], [.int 5], g8_11 (pg xs) 10 b c d, 599949, 7298495)) rfl ?_
      refine pm_go (g := (20, [(3, .int 5), (2, .ref 25), (1, .ref 1), (0, .ref 0)], [.ref 0, .int 5], g8_11 (pg xs) 10 b c d, 599949, 7298495)) rfl ?_
      refine pm_go (g := (21, [(3, .int 5), (2, .ref 25), (1, .ref 1), (0, .ref 0)], [.int 5, .int 5], g8_11 (pg xs) 10 b c d, 599949, 7298495)) rfl ?_
      refine pm_go (g := (22, [(3, .int 5), (2, .ref 25), (1, .ref 1), (0, .ref 0)], [.int 5, .int 5, .int 5], g8_11 (pg xs) 10 b c d, 599949, 7298495)) rfl ?_
      refine pm_go (g := (23, [(3, .int 5), (2, .ref 25), (1, .ref 1), (0, .ref 0)], [.int 0, .int 5], g8_11 (pg xs) 10 b c d, 599949, 7298495)) rfl ?_
      refine pm_brT (g := (879, [(3, .int 5), (2, .ref 25), (1, .ref 1), (0, .ref 0)], [], g8_11 (pg xs) 10 b c d, 599949, 7298495)) rfl ?_
      refine pm_go (g := (880, [(3, .int 5), (2, .ref 25), (1, .ref 1), (0, .ref 0)], [.int 1], g8_11 (pg xs) 10 b c d, 599949, 7298495)) rfl ?_
      exact pm_ret rfl rfl
    have q6 := qF_eq (cx := a.toInt) (cy := 10) rfl (by decide) q6
    refine pm_go (g := (15, [(0, .ref 25), (1, .int (a))], [.int (a)], g8_7 (pg xs) a b c d, 0, 0)) rfl ?_
    refine pm_go (g := (17, [(0, .ref 25), (1, .int (a))], [.int 20, .int (a)], g8_7 (pg xs) a b c d, 0, 0)) rfl ?_
    refine pm_go (g := (19, [(0, .ref 25), (1, .int (a))], [.int 20, .int 20, .int (a)], g8_7 (pg xs) a b c d, 0, 0)) rfl ?_
    refine pm_go (g := (20, [(0, .ref 25), (1, .int (a))], [.ref 25, .int 20, .int 20, .int (a)], g8_7 (pg xs) a b c d, 0, 0)) rfl ?_
    refine pm_go (g := (23, [(0, .ref 25), (1, .int (a))], [.int 2, .int 20, .int 20, .int (a)], g8_7 (pg xs) a b c d, 0, 0)) rfl ?_
    refine pm_go (g := (24, [(0, .ref 25), (1, .int (a))], [.int 22, .int 20, .int (a)], g8_7 (pg xs) a b c d, 0, 0)) rfl ?_
    refine pm_go (g := (25, [(0, .ref 25), (1, .int (a))], [.int 1, .int 22, .int 20, .int (a)], g8_7 (pg xs) a b c d, 0, 0)) rfl ?_
    refine pm_go (g := (26, [(0, .ref 25), (1, .int (a))], [.int 21, .int 20, .int (a)], g8_7 (pg xs) a b c d, 0, 0)) rfl ?_
    refine pm_callD (z := 128) (as := [.int (a), .int 20, .int 21]) (rest := []) rfl ?_
    show pm_WP 128 (0, [(0, .int (a)), (1, .int 20), (2, .int 21)], [], g8_7 (pg xs) a b c d, 0, 0) _
    refine pm_go (g := (1, [(0, .int (a)), (1, .int 20), (2, .int 21)], [.int (a)], g8_7 (pg xs) a b c d, 0, 0)) rfl ?_
    refine pm_go (g := (2, [(0, .int (a)), (1, .int 20), (2, .int 21)], [.int 20, .int (a)], g8_7 (pg xs) a b c d, 0, 0)) rfl ?_
    refine pm_if2 (g := (14, [(0, .int (a)), (1, .int 20), (2, .int 21)], [], g8_7 (pg xs) a b c d, 0, 0)) (h := (5, [(0, .int (a)), (1, .int 20), (2, .int 21)], [], g8_7 (pg xs) a b c d, 0, 0)) rfl (fun q7 => ?_) (fun q7 => ?_)
    ·
      have q7 := qT_lt (cx := a.toInt) (cy := 20) rfl (by decide) q7
      obtain rfl : a = 11 := xI (c := 11) (by decide) (by omega)
      show pm_WP 128 (14, [(0, .int 11), (1, .int 20), (2, .int 21)], [], g8_12 (pg xs) 11 b c d, 0, 0) _
      refine pm_go (g := (15, [(0, .int 11), (1, .int 20), (2, .int 21)], [.int 0], g8_12 (pg xs) 11 b c d, 0, 0)) rfl ?_
      refine pm_ret rfl ?_
      show pm_WP 131 (29, [(0, .ref 25), (1, .int 11)], [.int 0], g8_12 (pg xs) 11 b c d, 0, 0) _
      refine pm_brF (h := (32, [(0, .ref 25), (1, .int 11)], [], g8_12 (pg xs) 11 b c d, 0, 0)) rfl ?_
      refine pm_go (g := (33, [(0, .ref 25), (1, .int 11)], [.int 11], g8_12 (pg xs) 11 b c d, 0, 0)) rfl ?_
      refine pm_go (g := (35, [(0, .ref 25), (1, .int 11)], [.int 30, .int 11], g8_12 (pg xs) 11 b c d, 0, 0)) rfl ?_
      refine pm_brT (g := (42, [(0, .ref 25), (1, .int 11)], [], g8_12 (pg xs) 11 b c d, 0, 0)) rfl ?_
      refine pm_go (g := (43, [(0, .ref 25), (1, .int 11)], [.int 0], g8_12 (pg xs) 11 b c d, 0, 0)) rfl ?_
      refine pm_ret rfl ?_
      show pm_WP 162 (5, [(0, .ref 25), (1, .int 11)], [.int 0], g8_12 (pg xs) 11 b c d, 0, 0) _
      refine pm_brF (h := (8, [(0, .ref 25), (1, .int 11)], [], g8_12 (pg xs) 11 b c d, 0, 0)) rfl ?_
      refine pm_go (g := (9, [(0, .ref 25), (1, .int 11)], [.int 11], g8_12 (pg xs) 11 b c d, 0, 0)) rfl ?_
      refine pm_go (g := (11, [(0, .ref 25), (1, .int 11)], [.int 11, .int 11], g8_12 (pg xs) 11 b c d, 0, 0)) rfl ?_
      refine pm_brT (g := (16, [(0, .ref 25), (1, .int 11)], [], g8_12 (pg xs) 11 b c d, 0, 0)) rfl ?_
      refine pm_go (g := (17, [(0, .ref 25), (1, .int 11)], [.ref 25], g8_12 (pg xs) 11 b c d, 0, 0)) rfl ?_
      refine pm_go (g := (20, [(0, .ref 25), (1, .int 11)], [.int 0], g8_12 (pg xs) 11 b c d, 0, 0)) rfl ?_
      refine pm_go (g := (22, [(0, .ref 25), (1, .int 11)], [.int 10, .int 0], g8_12 (pg xs) 11 b c d, 0, 0)) rfl ?_
      refine pm_brT (g := (28, [(0, .ref 25), (1, .int 11)], [], g8_12 (pg xs) 11 b c d, 0, 0)) rfl ?_
      refine pm_go (g := (29, [(0, .ref 25), (1, .int 11)], [.ref 25], g8_12 (pg xs) 11 b c d, 0, 0)) rfl ?_
      refine pm_go (g := (32, [(0, .ref 25), (1, .int 11)], [.ref 34], g8_12 (pg xs) 11 b c d, 0, 0)) rfl ?_
      refine pm_go (g := (33, [(0, .ref 25), (1, .int 11)], [.ref 25, .ref 34], g8_12 (pg xs) 11 b c d, 0, 0)) rfl ?_
      refine pm_go (g := (36, [(0, .ref 25), (1, .int 11)], [.int 0, .ref 34], g8_12 (pg xs) 11 b c d, 0, 0)) rfl ?_
      refine pm_go (g := (37, [(0, .ref 25), (1, .int 11)], [.ref 25, .int 0, .ref 34], g8_12 (pg xs) 11 b c d, 0, 0)) rfl ?_
      refine pm_go (g := (40, [(0, .ref 25), (1, .int 11)], [.int 0, .int 0, .ref 34], g8_12 (pg xs) 11 b c d, 0, 0)) rfl ?_
      refine pm_go (g := (41, [(0, .ref 25), (1, .int 11)], [], g8_13 (pg xs) 11 b c d, 0, 0)) rfl ?_
      refine pm_go (g := (42, [(0, .ref 25), (1, .int 11)], [.int 0], g8_13 (pg xs) 11 b c d, 0, 0)) rfl ?_
      refine pm_go (g := (43, [(2, .int 0), (0, .ref 25), (1, .int 11)], [], g8_13 (pg xs) 11 b c d, 0, 0)) rfl ?_
      refine pm_go (g := (44, [(2, .int 0), (0, .ref 25), (1, .int 11)], [.int 0], g8_13 (pg xs) 11 b c d, 0, 0)) rfl ?_
      refine pm_go (g := (45, [(2, .int 0), (0, .ref 25), (1, .int 11)], [.ref 25, .int 0], g8_13 (pg xs) 11 b c d, 0, 0)) rfl ?_
      refine pm_go (g := (48, [(2, .int 0), (0, .ref 25), (1, .int 11)], [.int 0, .int 0], g8_13 (pg xs) 11 b c d, 0, 0)) rfl ?_
      refine pm_brT (g := (76, [(2, .int 0), (0, .ref 25), (1, .int 11)], [], g8_13 (pg xs) 11 b c d, 0, 0)) rfl ?_
      refine pm_go (g := (77, [(2, .int 0), (0, .ref 25), (1, .int 11)], [.ref 25], g8_13 (pg xs) 11 b c d, 0, 0)) rfl ?_
      refine pm_go (g := (80, [(2, .int 0), (0, .ref 25), (1, .int 11)], [.ref 36], g8_13 (pg xs) 11 b c d, 0, 0)) rfl ?_
      refine pm_go (g := (81, [(2, .int 0), (0, .ref 25), (1, .int 11)], [.ref 25, .ref 36], g8_13 (pg xs) 11 b c d, 0, 0)) rfl ?_
      refine pm_go (g := (84, [(2, .int 0), (0, .ref 25), (1, .int 11)], [.int 0, .ref 36], g8_13 (pg xs) 11 b c d, 0, 0)) rfl ?_
      refine pm_go (g := (85, [(2, .int 0), (0, .ref 25), (1, .int 11)], [.int 11, .int 0, .ref 36], g8_13 (pg xs) 11 b c d, 0, 0)) rfl ?_
      refine pm_go (g := (86, [(2, .int 0), (0, .ref 25), (1, .int 11)], [], g8_14 (pg xs) 11 b c d, 0, 0)) rfl ?_
      refine pm_go (g := (87, [(2, .int 0), (0, .ref 25), (1, .int 11)], [.ref 25], g8_14 (pg xs) 11 b c d, 0, 0)) rfl ?_
      refine pm_go (g := (88, [(2, .int 0), (0, .ref 25), (1, .int 11)], [.int 0, .ref 25], g8_14 (pg xs) 11 b c d, 0, 0)) rfl ?_
      refine pm_go (g := (91, [(2, .int 0), (0, .ref 25), (1, .int 11)], [], g8_14 (pg xs) 11 b c d, 0, 0)) rfl ?_
      refine pm_go (g := (92, [(2, .int 0), (0, .ref 25), (1, .int 11)], [.ref 25], g8_14 (pg xs) 11 b c d, 0, 0)) rfl ?_
      refine pm_go (g := (93, [(2, .int 0), (0, .ref 25), (1, .int 11)], [.ref 25, .ref 25], g8_14 (pg xs) 11 b c d, 0, 0)) rfl ?_
      refine pm_go (g := (96, [(2, .int 0), (0, .ref 25), (1, .int 11)], [.int 0, .ref 25], g8_14 (pg xs) 11 b c d, 0, 0)) rfl ?_
      refine pm_go (g := (97, [(2, .int 0), (0, .ref 25), (1, .int 11)], [.int 1, .int 0, .ref 25], g8_14 (pg xs) 11 b c d, 0, 0)) rfl ?_
      refine pm_go (g := (98, [(2, .int 0), (0, .ref 25), (1, .int 11)], [.int 1, .ref 25], g8_14 (pg xs) 11 b c d, 0, 0)) rfl ?_
      refine pm_go (g := (101, [(2, .int 0), (0, .ref 25), (1, .int 11)], [], g8_15 (pg xs) 11 b c d, 0, 0)) rfl ?_
      refine pm_go (g := (102, [(2, .int 0), (0, .ref 25), (1, .int 11)], [.ref 25], g8_15 (pg xs) 11 b c d, 0, 0)) rfl ?_
      refine pm_go (g := (105, [(2, .int 0), (0, .ref 25), (1, .int 11)], [.int 1], g8_15 (pg xs) 11 b c d, 0, 0)) rfl ?_
      refine pm_go (g := (106, [(2, .int 0), (0, .ref 25), (1, .int 11)], [.int 1, .int 1], g8_15 (pg xs) 11 b c d, 0, 0)) rfl ?_
      refine pm_go (g := (107, [(2, .int 0), (0, .ref 25), (1, .int 11)], [.int 0], g8_15 (pg xs) 11 b c d, 0, 0)) rfl ?_
      refine pm_ret rfl ?_
      show pm_WP 0 (400, [(3, .int 0), (2, .ref 25), (1, .ref 1), (0, .ref 0)], [.int 0, .int 0], g8_15 (pg xs) 11 b c d, 599949, 7298495) _
      refine pm_brT (g := (873, [(3, .int 0), (2, .ref 25), (1, .ref 1), (0, .ref 0)], [], g8_15 (pg xs) 11 b c d, 599949, 7298495)) rfl ?_
      refine pm_go (g := (876, [(3, .int 5), (2, .ref 25), (1, .ref 1), (0, .ref 0)], [], g8_15 (pg xs) 11 b c d, 599949, 7298495)) rfl ?_
      refine pm_go (g := (18, [(3, .int 5), (2, .ref 25), (1, .ref 1), (0, .ref 0)], [], g8_15 (pg xs) 11 b c d, 599949, 7298495)) rfl ?_
      refine pm_go (g := (19, [(3, .int 5), (2, .ref 25), (1, .ref 1), (0, .ref 0)], [.int 5], g8_15 (pg xs) 11 b c d, 599949, 7298495)) rfl ?_
      refine pm_go (g := (20, [(3, .int 5), (2, .ref 25), (1, .ref 1), (0, .ref 0)], [.ref 0, .int 5], g8_15 (pg xs) 11 b c d, 599949, 7298495)) rfl ?_
      refine pm_go (g := (21, [(3, .int 5), (2, .ref 25), (1, .ref 1), (0, .ref 0)], [.int 5, .int 5], g8_15 (pg xs) 11 b c d, 599949, 7298495)) rfl ?_
      refine pm_go (g := (22, [(3, .int 5), (2, .ref 25), (1, .ref 1), (0, .ref 0)], [.int 5, .int 5, .int 5], g8_15 (pg xs) 11 b c d, 599949, 7298495)) rfl ?_
      refine pm_go (g := (23, [(3, .int 5), (2, .ref 25), (1, .ref 1), (0, .ref 0)], [.int 0, .int 5], g8_15 (pg xs) 11 b c d, 599949, 7298495)) rfl ?_
      refine pm_brT (g := (879, [(3, .int 5), (2, .ref 25), (1, .ref 1), (0, .ref 0)], [], g8_15 (pg xs) 11 b c d, 599949, 7298495)) rfl ?_
      refine pm_go (g := (880, [(3, .int 5), (2, .ref 25), (1, .ref 1), (0, .ref 0)], [.int 1], g8_15 (pg xs) 11 b c d, 599949, 7298495)) rfl ?_
      exact pm_ret rfl rfl
    have q7 := qF_lt (cx := a.toInt) (cy := 20) rfl (by decide) q7
    refine pm_go (g := (6, [(0, .int (a)), (1, .int 20), (2, .int 21)], [.int (a)], g8_7 (pg xs) a b c d, 0, 0)) rfl ?_
    refine pm_go (g := (7, [(0, .int (a)), (1, .int 20), (2, .int 21)], [.int 21, .int (a)], g8_7 (pg xs) a b c d, 0, 0)) rfl ?_
    refine pm_if2 (g := (14, [(0, .int (a)), (1, .int 20), (2, .int 21)], [], g8_7 (pg xs) a b c d, 0, 0)) (h := (10, [(0, .int (a)), (1, .int 20), (2, .int 21)], [], g8_7 (pg xs) a b c d, 0, 0)) rfl (fun q8 => ?_) (fun q8 => ?_)
    ·
      have q8 := qT_gt (cx := a.toInt) (cy := 21) rfl (by decide) q8
      obtain rfl : a = 30 := xI (c := 30) (by decide) (by omega)
      show pm_WP 128 (14, [(0, .int 30), (1, .int 20), (2, .int 21)], [], g8_16 (pg xs) 30 b c d, 0, 0) _
      refine pm_go (g := (15, [(0, .int 30), (1, .int 20), (2, .int 21)], [.int 0], g8_16 (pg xs) 30 b c d, 0, 0)) rfl ?_
      refine pm_ret rfl ?_
      show pm_WP 131 (29, [(0, .ref 25), (1, .int 30)], [.int 0], g8_16 (pg xs) 30 b c d, 0, 0) _
      refine pm_brF (h := (32, [(0, .ref 25), (1, .int 30)], [], g8_16 (pg xs) 30 b c d, 0, 0)) rfl ?_
      refine pm_go (g := (33, [(0, .ref 25), (1, .int 30)], [.int 30], g8_16 (pg xs) 30 b c d, 0, 0)) rfl ?_
      refine pm_go (g := (35, [(0, .ref 25), (1, .int 30)], [.int 30, .int 30], g8_16 (pg xs) 30 b c d, 0, 0)) rfl ?_
      refine pm_brF (h := (38, [(0, .ref 25), (1, .int 30)], [], g8_16 (pg xs) 30 b c d, 0, 0)) rfl ?_
      refine pm_go (g := (39, [(0, .ref 25), (1, .int 30)], [.int 1], g8_16 (pg xs) 30 b c d, 0, 0)) rfl ?_
      refine pm_go (g := (43, [(0, .ref 25), (1, .int 30)], [.int 1], g8_16 (pg xs) 30 b c d, 0, 0)) rfl ?_
      refine pm_ret rfl ?_
      show pm_WP 162 (5, [(0, .ref 25), (1, .int 30)], [.int 1], g8_16 (pg xs) 30 b c d, 0, 0) _
      refine pm_brT (g := (16, [(0, .ref 25), (1, .int 30)], [], g8_16 (pg xs) 30 b c d, 0, 0)) rfl ?_
      refine pm_go (g := (17, [(0, .ref 25), (1, .int 30)], [.ref 25], g8_16 (pg xs) 30 b c d, 0, 0)) rfl ?_
      refine pm_go (g := (20, [(0, .ref 25), (1, .int 30)], [.int 0], g8_16 (pg xs) 30 b c d, 0, 0)) rfl ?_
      refine pm_go (g := (22, [(0, .ref 25), (1, .int 30)], [.int 10, .int 0], g8_16 (pg xs) 30 b c d, 0, 0)) rfl ?_
      refine pm_brT (g := (28, [(0, .ref 25), (1, .int 30)], [], g8_16 (pg xs) 30 b c d, 0, 0)) rfl ?_
      refine pm_go (g := (29, [(0, .ref 25), (1, .int 30)], [.ref 25], g8_16 (pg xs) 30 b c d, 0, 0)) rfl ?_
      refine pm_go (g := (32, [(0, .ref 25), (1, .int 30)], [.ref 34], g8_16 (pg xs) 30 b c d, 0, 0)) rfl ?_
      refine pm_go (g := (33, [(0, .ref 25), (1, .int 30)], [.ref 25, .ref 34], g8_16 (pg xs) 30 b c d, 0, 0)) rfl ?_
      refine pm_go (g := (36, [(0, .ref 25), (1, .int 30)], [.int 0, .ref 34], g8_16 (pg xs) 30 b c d, 0, 0)) rfl ?_
      refine pm_go (g := (37, [(0, .ref 25), (1, .int 30)], [.ref 25, .int 0, .ref 34], g8_16 (pg xs) 30 b c d, 0, 0)) rfl ?_
      refine pm_go (g := (40, [(0, .ref 25), (1, .int 30)], [.int 0, .int 0, .ref 34], g8_16 (pg xs) 30 b c d, 0, 0)) rfl ?_
      refine pm_go (g := (41, [(0, .ref 25), (1, .int 30)], [], g8_17 (pg xs) 30 b c d, 0, 0)) rfl ?_
      refine pm_go (g := (42, [(0, .ref 25), (1, .int 30)], [.int 0], g8_17 (pg xs) 30 b c d, 0, 0)) rfl ?_
      refine pm_go (g := (43, [(2, .int 0), (0, .ref 25), (1, .int 30)], [], g8_17 (pg xs) 30 b c d, 0, 0)) rfl ?_
      refine pm_go (g := (44, [(2, .int 0), (0, .ref 25), (1, .int 30)], [.int 0], g8_17 (pg xs) 30 b c d, 0, 0)) rfl ?_
      refine pm_go (g := (45, [(2, .int 0), (0, .ref 25), (1, .int 30)], [.ref 25, .int 0], g8_17 (pg xs) 30 b c d, 0, 0)) rfl ?_
      refine pm_go (g := (48, [(2, .int 0), (0, .ref 25), (1, .int 30)], [.int 0, .int 0], g8_17 (pg xs) 30 b c d, 0, 0)) rfl ?_
      refine pm_brT (g := (76, [(2, .int 0), (0, .ref 25), (1, .int 30)], [], g8_17 (pg xs) 30 b c d, 0, 0)) rfl ?_
      refine pm_go (g := (77, [(2, .int 0), (0, .ref 25), (1, .int 30)], [.ref 25], g8_17 (pg xs) 30 b c d, 0, 0)) rfl ?_
      refine pm_go (g := (80, [(2, .int 0), (0, .ref 25), (1, .int 30)], [.ref 36], g8_17 (pg xs) 30 b c d, 0, 0)) rfl ?_
      refine pm_go (g := (81, [(2, .int 0), (0, .ref 25), (1, .int 30)], [.ref 25, .ref 36], g8_17 (pg xs) 30 b c d, 0, 0)) rfl ?_
      refine pm_go (g := (84, [(2, .int 0), (0, .ref 25), (1, .int 30)], [.int 0, .ref 36], g8_17 (pg xs) 30 b c d, 0, 0)) rfl ?_
      refine pm_go (g := (85, [(2, .int 0), (0, .ref 25), (1, .int 30)], [.int 30, .int 0, .ref 36], g8_17 (pg xs) 30 b c d, 0, 0)) rfl ?_
      refine pm_go (g := (86, [(2, .int 0), (0, .ref 25), (1, .int 30)], [], g8_18 (pg xs) 30 b c d, 0, 0)) rfl ?_
      refine pm_go (g := (87, [(2, .int 0), (0, .ref 25), (1, .int 30)], [.ref 25], g8_18 (pg xs) 30 b c d, 0, 0)) rfl ?_
      refine pm_go (g := (88, [(2, .int 0), (0, .ref 25), (1, .int 30)], [.int 0, .ref 25], g8_18 (pg xs) 30 b c d, 0, 0)) rfl ?_
      refine pm_go (g := (91, [(2, .int 0), (0, .ref 25), (1, .int 30)], [], g8_18 (pg xs) 30 b c d, 0, 0)) rfl ?_
      refine pm_go (g := (92, [(2, .int 0), (0, .ref 25), (1, .int 30)], [.ref 25], g8_18 (pg xs) 30 b c d, 0, 0)) rfl ?_
      refine pm_go (g := (93, [(2, .int 0), (0, .ref 25), (1, .int 30)], [.ref 25, .ref 25], g8_18 (pg xs) 30 b c d, 0, 0)) rfl ?_
      refine pm_go (g := (96, [(2, .int 0), (0, .ref 25), (1, .int 30)], [.int 0, .ref 25], g8_18 (pg xs) 30 b c d, 0, 0)) rfl ?_
      refine pm_go (g := (97, [(2, .int 0), (0, .ref 25), (1, .int 30)], [.int 1, .int 0, .ref 25], g8_18 (pg xs) 30 b c d, 0, 0)) rfl ?_
      refine pm_go (g := (98, [(2, .int 0), (0, .ref 25), (1, .int 30)], [.int 1, .ref 25], g8_18 (pg xs) 30 b c d, 0, 0)) rfl ?_
      refine pm_go (g := (101, [(2, .int 0), (0, .ref 25), (1, .int 30)], [], g8_19 (pg xs) 30 b c d, 0, 0)) rfl ?_
      refine pm_go (g := (102, [(2, .int 0), (0, .ref 25), (1, .int 30)], [.ref 25], g8_19 (pg xs) 30 b c d, 0, 0)) rfl ?_
      refine pm_go (g := (105, [(2, .int 0), (0, .ref 25), (1, .int 30)], [.int 1], g8_19 (pg xs) 30 b c d, 0, 0)) rfl ?_
      refine pm_go (g := (106, [(2, .int 0), (0, .ref 25), (1, .int 30)], [.int 1, .int 1], g8_19 (pg xs) 30 b c d, 0, 0)) rfl ?_
      refine pm_go (g := (107, [(2, .int 0), (0, .ref 25), (1, .int 30)], [.int 0], g8_19 (pg xs) 30 b c d, 0, 0)) rfl ?_
      refine pm_ret rfl ?_
      show pm_WP 0 (400, [(3, .int 0), (2, .ref 25), (1, .ref 1), (0, .ref 0)], [.int 0, .int 0], g8_19 (pg xs) 30 b c d, 599949, 7298495) _
      refine pm_brT (g := (873, [(3, .int 0), (2, .ref 25), (1, .ref 1), (0, .ref 0)], [], g8_19 (pg xs) 30 b c d, 599949, 7298495)) rfl ?_
      refine pm_go (g := (876, [(3, .int 5), (2, .ref 25), (1, .ref 1), (0, .ref 0)], [], g8_19 (pg xs) 30 b c d, 599949, 7298495)) rfl ?_
      refine pm_go (g := (18, [(3, .int 5), (2, .ref 25), (1, .ref 1), (0, .ref 0)], [], g8_19 (pg xs) 30 b c d, 599949, 7298495)) rfl ?_
      refine pm_go (g := (19, [(3, .int 5), (2, .ref 25), (1, .ref 1), (0, .ref 0)], [.int 5], g8_19 (pg xs) 30 b c d, 599949, 7298495)) rfl ?_
      refine pm_go (g := (20, [(3, .int 5), (2, .ref 25), (1, .ref 1), (0, .ref 0)], [.ref 0, .int 5], g8_19 (pg xs) 30 b c d, 599949, 7298495)) rfl ?_
      refine pm_go (g := (21, [(3, .int 5), (2, .ref 25), (1, .ref 1), (0, .ref 0)], [.int 5, .int 5], g8_19 (pg xs) 30 b c d, 599949, 7298495)) rfl ?_
      refine pm_go (g := (22, [(3, .int 5), (2, .ref 25), (1, .ref 1), (0, .ref 0)], [.int 5, .int 5, .int 5], g8_19 (pg xs) 30 b c d, 599949, 7298495)) rfl ?_
      refine pm_go (g := (23, [(3, .int 5), (2, .ref 25), (1, .ref 1), (0, .ref 0)], [.int 0, .int 5], g8_19 (pg xs) 30 b c d, 599949, 7298495)) rfl ?_
      refine pm_brT (g := (879, [(3, .int 5), (2, .ref 25), (1, .ref 1), (0, .ref 0)], [], g8_19 (pg xs) 30 b c d, 599949, 7298495)) rfl ?_
      refine pm_go (g := (880, [(3, .int 5), (2, .ref 25), (1, .ref 1), (0, .ref 0)], [.int 1], g8_19 (pg xs) 30 b c d, 599949, 7298495)) rfl ?_
      exact pm_ret rfl rfl
    have q8 := qF_gt (cx := a.toInt) (cy := 21) rfl (by decide) q8
    refine pm_go (g := (11, [(0, .int (a)), (1, .int 20), (2, .int 21)], [.int 1], g8_7 (pg xs) a b c d, 0, 0)) rfl ?_
    refine pm_go (g := (15, [(0, .int (a)), (1, .int 20), (2, .int 21)], [.int 1], g8_7 (pg xs) a b c d, 0, 0)) rfl ?_
    refine pm_ret rfl ?_
    show pm_WP 131 (29, [(0, .ref 25), (1, .int (a))], [.int 1], g8_7 (pg xs) a b c d, 0, 0) _
    refine pm_brT (g := (38, [(0, .ref 25), (1, .int (a))], [], g8_7 (pg xs) a b c d, 0, 0)) rfl ?_
    refine pm_go (g := (39, [(0, .ref 25), (1, .int (a))], [.int 1], g8_7 (pg xs) a b c d, 0, 0)) rfl ?_
    refine pm_go (g := (43, [(0, .ref 25), (1, .int (a))], [.int 1], g8_7 (pg xs) a b c d, 0, 0)) rfl ?_
    refine pm_ret rfl ?_
    show pm_WP 162 (5, [(0, .ref 25), (1, .int (a))], [.int 1], g8_7 (pg xs) a b c d, 0, 0) _
    refine pm_brT (g := (16, [(0, .ref 25), (1, .int (a))], [], g8_7 (pg xs) a b c d, 0, 0)) rfl ?_
    refine pm_go (g := (17, [(0, .ref 25), (1, .int (a))], [.ref 25], g8_7 (pg xs) a b c d, 0, 0)) rfl ?_
    refine pm_go (g := (20, [(0, .ref 25), (1, .int (a))], [.int 0], g8_7 (pg xs) a b c d, 0, 0)) rfl ?_
    refine pm_go (g := (22, [(0, .ref 25), (1, .int (a))], [.int 10, .int 0], g8_7 (pg xs) a b c d, 0, 0)) rfl ?_
    refine pm_brT (g := (28, [(0, .ref 25), (1, .int (a))], [], g8_7 (pg xs) a b c d, 0, 0)) rfl ?_
    refine pm_go (g := (29, [(0, .ref 25), (1, .int (a))], [.ref 25], g8_7 (pg xs) a b c d, 0, 0)) rfl ?_
    refine pm_go (g := (32, [(0, .ref 25), (1, .int (a))], [.ref 34], g8_7 (pg xs) a b c d, 0, 0)) rfl ?_
    refine pm_go (g := (33, [(0, .ref 25), (1, .int (a))], [.ref 25, .ref 34], g8_7 (pg xs) a b c d, 0, 0)) rfl ?_
    refine pm_go (g := (36, [(0, .ref 25), (1, .int (a))], [.int 0, .ref 34], g8_7 (pg xs) a b c d, 0, 0)) rfl ?_
    refine pm_go (g := (37, [(0, .ref 25), (1, .int (a))], [.ref 25, .int 0, .ref 34], g8_7 (pg xs) a b c d, 0, 0)) rfl ?_
    refine pm_go (g := (40, [(0, .ref 25), (1, .int (a))], [.int 0, .int 0, .ref 34], g8_7 (pg xs) a b c d, 0, 0)) rfl ?_
    refine pm_go (g := (41, [(0, .ref 25), (1, .int (a))], [], g8_20 (pg xs) a b c d, 0, 0)) rfl ?_
    refine pm_go (g := (42, [(0, .ref 25), (1, .int (a))], [.int 0], g8_20 (pg xs) a b c d, 0, 0)) rfl ?_
    refine pm_go (g := (43, [(2, .int 0), (0, .ref 25), (1, .int (a))], [], g8_20 (pg xs) a b c d, 0, 0)) rfl ?_
    refine pm_go (g := (44, [(2, .int 0), (0, .ref 25), (1, .int (a))], [.int 0], g8_20 (pg xs) a b c d, 0, 0)) rfl ?_
    refine pm_go (g := (45, [(2, .int 0), (0, .ref 25), (1, .int (a))], [.ref 25, .int 0], g8_20 (pg xs) a b c d, 0, 0)) rfl ?_
    refine pm_go (g := (48, [(2, .int 0), (0, .ref 25), (1, .int (a))], [.int 0, .int 0], g8_20 (pg xs) a b c d, 0, 0)) rfl ?_
    refine pm_brT (g := (76, [(2, .int 0), (0, .ref 25), (1, .int (a))], [], g8_20 (pg xs) a b c d, 0, 0)) rfl ?_
    refine pm_go (g := (77, [(2, .int 0), (0, .ref 25), (1, .int (a))], [.ref 25], g8_20 (pg xs) a b c d, 0, 0)) rfl ?_
    refine pm_go (g := (80, [(2, .int 0), (0, .ref 25), (1, .int (a))], [.ref 36], g8_20 (pg xs) a b c d, 0, 0)) rfl ?_
    refine pm_go (g := (81, [(2, .int 0), (0, .ref 25), (1, .int (a))], [.ref 25, .ref 36], g8_20 (pg xs) a b c d, 0, 0)) rfl ?_
    refine pm_go (g := (84, [(2, .int 0), (0, .ref 25), (1, .int (a))], [.int 0, .ref 36], g8_20 (pg xs) a b c d, 0, 0)) rfl ?_
    refine pm_go (g := (85, [(2, .int 0), (0, .ref 25), (1, .int (a))], [.int (a), .int 0, .ref 36], g8_20 (pg xs) a b c d, 0, 0)) rfl ?_
    refine pm_go (g := (86, [(2, .int 0), (0, .ref 25), (1, .int (a))], [], g8_21 (pg xs) a b c d, 0, 0)) rfl ?_
    refine pm_go (g := (87, [(2, .int 0), (0, .ref 25), (1, .int (a))], [.ref 25], g8_21 (pg xs) a b c d, 0, 0)) rfl ?_
    refine pm_go (g := (88, [(2, .int 0), (0, .ref 25), (1, .int (a))], [.int 0, .ref 25], g8_21 (pg xs) a b c d, 0, 0)) rfl ?_
    refine pm_go (g := (91, [(2, .int 0), (0, .ref 25), (1, .int (a))], [], g8_21 (pg xs) a b c d, 0, 0)) rfl ?_
    refine pm_go (g := (92, [(2, .int 0), (0, .ref 25), (1, .int (a))], [.ref 25], g8_21 (pg xs) a b c d, 0, 0)) rfl ?_
    refine pm_go (g := (93, [(2, .int 0), (0, .ref 25), (1, .int (a))], [.ref 25, .ref 25], g8_21 (pg xs) a b c d, 0, 0)) rfl ?_
    refine pm_go (g := (96, [(2, .int 0), (0, .ref 25), (1, .int (a))], [.int 0, .ref 25], g8_21 (pg xs) a b c d, 0, 0)) rfl ?_
    refine pm_go (g := (97, [(2, .int 0), (0, .ref 25), (1, .int (a))], [.int 1, .int 0, .ref 25], g8_21 (pg xs) a b c d, 0, 0)) rfl ?_
    refine pm_go (g := (98, [(2, .int 0), (0, .ref 25), (1, .int (a))], [.int 1, .ref 25], g8_21 (pg xs) a b c d, 0, 0)) rfl ?_
    refine pm_go (g := (101, [(2, .int 0), (0, .ref 25), (1, .int (a))], [], g8_22 (pg xs) a b c d, 0, 0)) rfl ?_
    refine pm_go (g := (102, [(2, .int 0), (0, .ref 25), (1, .int (a))], [.ref 25], g8_22 (pg xs) a b c d, 0, 0)) rfl ?_
    refine pm_go (g := (105, [(2, .int 0), (0, .ref 25), (1, .int (a))], [.int 1], g8_22 (pg xs) a b c d, 0, 0)) rfl ?_
    refine pm_go (g := (106, [(2, .int 0), (0, .ref 25), (1, .int (a))], [.int 1, .int 1], g8_22 (pg xs) a b c d, 0, 0)) rfl ?_
    refine pm_go (g := (107, [(2, .int 0), (0, .ref 25), (1, .int (a))], [.int 0], g8_22 (pg xs) a b c d, 0, 0)) rfl ?_
    refine pm_ret rfl ?_
    show pm_WP 0 (400, [(3, .int 0), (2, .ref 25), (1, .ref 1), (0, .ref 0)], [.int 0, .int 0], g8_22 (pg xs) a b c d, 599949, 7298495) _
    refine pm_brT (g := (873, [(3, .int 0), (2, .ref 25), (1, .ref 1), (0, .ref 0)], [], g8_22 (pg xs) a b c d, 599949, 7298495)) rfl ?_
    refine pm_go (g := (876, [(3, .int 5), (2, .ref 25), (1, .ref 1), (0, .ref 0)], [], g8_22 (pg xs) a b c d, 599949, 7298495)) rfl ?_
    refine pm_go (g := (18, [(3, .int 5), (2, .ref 25), (1, .ref 1), (0, .ref 0)], [], g8_22 (pg xs) a b c d, 599949, 7298495)) rfl ?_
    refine pm_go (g := (19, [(3, .int 5), (2, .ref 25), (1, .ref 1), (0, .ref 0)], [.int 5], g8_22 (pg xs) a b c d, 599949, 7298495)) rfl ?_
    refine pm_go (g := (20, [(3, .int 5), (2, .ref 25), (1, .ref 1), (0, .ref 0)], [.ref 0, .int 5], g8_22 (pg xs) a b c d, 599949, 7298495)) rfl ?_
    refine pm_go (g := (21, [(3, .int 5), (2, .ref 25), (1, .ref 1), (0, .ref 0)], [.int 5, .int 5], g8_22 (pg xs) a b c d, 599949, 7298495)) rfl ?_
    refine pm_go (g := (22, [(3, .int 5), (2, .ref 25), (1, .ref 1), (0, .ref 0)], [.int 5, .int 5, .int 5], g8_22 (pg xs) a b c d, 599949, 7298495)) rfl ?_
    refine pm_go (g := (23, [(3, .int 5), (2, .ref 25), (1, .ref 1), (0, .ref 0)], [.int 0, .int 5], g8_22 (pg xs) a b c d, 599949, 7298495)) rfl ?_
    refine pm_brT (g := (879, [(3, .int 5), (2, .ref 25), (1, .ref 1), (0, .ref 0)], [], g8_22 (pg xs) a b c d, 599949, 7298495)) rfl ?_
    refine pm_go (g := (880, [(3, .int 5), (2, .ref 25), (1, .ref 1), (0, .ref 0)], [.int 1], g8_22 (pg xs) a b c d, 599949, 7298495)) rfl ?_
    exact pm_ret rfl rfl
  have q5 := qF_gt (cx := a.toInt) (cy := 1) rfl (by decide) q5
  refine pm_go (g := (11, [(0, .int (a)), (1, .int 0), (2, .int 1)], [.int 1], g8_7 (pg xs) a b c d, 0, 0)) rfl ?_
  refine pm_go (g := (15, [(0, .int (a)), (1, .int 0), (2, .int 1)], [.int 1], g8_7 (pg xs) a b c d, 0, 0)) rfl ?_
  refine pm_ret rfl ?_
  show pm_WP 129 (11, [(0, .ref 25), (1, .int (a))], [.int 1], g8_7 (pg xs) a b c d, 0, 0) _
  refine pm_ret rfl ?_
  show pm_WP 131 (5, [(0, .ref 25), (1, .int (a))], [.int 1], g8_7 (pg xs) a b c d, 0, 0) _
  refine pm_brT (g := (38, [(0, .ref 25), (1, .int (a))], [], g8_7 (pg xs) a b c d, 0, 0)) rfl ?_
  refine pm_go (g := (39, [(0, .ref 25), (1, .int (a))], [.int 1], g8_7 (pg xs) a b c d, 0, 0)) rfl ?_
  refine pm_go (g := (43, [(0, .ref 25), (1, .int (a))], [.int 1], g8_7 (pg xs) a b c d, 0, 0)) rfl ?_
  refine pm_ret rfl ?_
  show pm_WP 162 (5, [(0, .ref 25), (1, .int (a))], [.int 1], g8_7 (pg xs) a b c d, 0, 0) _
  refine pm_brT (g := (16, [(0, .ref 25), (1, .int (a))], [], g8_7 (pg xs) a b c d, 0, 0)) rfl ?_
  refine pm_go (g := (17, [(0, .ref 25), (1, .int (a))], [.ref 25], g8_7 (pg xs) a b c d, 0, 0)) rfl ?_
  refine pm_go (g := (20, [(0, .ref 25), (1, .int (a))], [.int 0], g8_7 (pg xs) a b c d, 0, 0)) rfl ?_
  refine pm_go (g := (22, [(0, .ref 25), (1, .int (a))], [.int 10, .int 0], g8_7 (pg xs) a b c d, 0, 0)) rfl ?_
  refine pm_brT (g := (28, [(0, .ref 25), (1, .int (a))], [], g8_7 (pg xs) a b c d, 0, 0)) rfl ?_
  refine pm_go (g := (29, [(0, .ref 25), (1, .int (a))], [.ref 25], g8_7 (pg xs) a b c d, 0, 0)) rfl ?_
  refine pm_go (g := (32, [(0, .ref 25), (1, .int (a))], [.ref 34], g8_7 (pg xs) a b c d, 0, 0)) rfl ?_
  refine pm_go (g := (33, [(0, .ref 25), (1, .int (a))], [.ref 25, .ref 34], g8_7 (pg xs) a b c d, 0, 0)) rfl ?_
  refine pm_go (g := (36, [(0, .ref 25), (1, .int (a))], [.int 0, .ref 34], g8_7 (pg xs) a b c d, 0, 0)) rfl ?_
  refine pm_go (g := (37, [(0, .ref 25), (1, .int (a))], [.ref 25, .int 0, .ref 34], g8_7 (pg xs) a b c d, 0, 0)) rfl ?_
  refine pm_go (g := (40, [(0, .ref 25), (1, .int (a))], [.int 0, .int 0, .ref 34], g8_7 (pg xs) a b c d, 0, 0)) rfl ?_
  refine pm_go (g := (41, [(0, .ref 25), (1, .int (a))], [], g8_20 (pg xs) a b c d, 0, 0)) rfl ?_
  refine pm_go (g := (42, [(0, .ref 25), (1, .int (a))], [.int 0], g8_20 (pg xs) a b c d, 0, 0)) rfl ?_
  refine pm_go (g := (43, [(2, .int 0), (0, .ref 25), (1, .int (a))], [], g8_20 (pg xs) a b c d, 0, 0)) rfl ?_
  refine pm_go (g := (44, [(2, .int 0), (0, .ref 25), (1, .int (a))], [.int 0], g8_20 (pg xs) a b c d, 0, 0)) rfl ?_
  refine pm_go (g := (45, [(2, .int 0), (0, .ref 25), (1, .int (a))], [.ref 25, .int 0], g8_20 (pg xs) a b c d, 0, 0)) rfl ?_
  refine pm_go (g := (48, [(2, .int 0), (0, .ref 25), (1, .int (a))], [.int 0, .int 0], g8_20 (pg xs) a b c d, 0, 0)) rfl ?_
  refine pm_brT (g := (76, [(2, .int 0), (0, .ref 25), (1, .int (a))], [], g8_20 (pg xs) a b c d, 0, 0)) rfl ?_
  refine pm_go (g := (77, [(2, .int 0), (0, .ref 25), (1, .int (a))], [.ref 25], g8_20 (pg xs) a b c d, 0, 0)) rfl ?_
  refine pm_go (g := (80, [(2, .int 0), (0, .ref 25), (1, .int (a))], [.ref 36], g8_20 (pg xs) a b c d, 0, 0)) rfl ?_
  refine pm_go (g := (81, [(2, .int 0), (0, .ref 25), (1, .int (a))], [.ref 25, .ref 36], g8_20 (pg xs) a b c d, 0, 0)) rfl ?_
  refine pm_go (g := (84, [(2, .int 0), (0, .ref 25), (1, .int (a))], [.int 0, .ref 36], g8_20 (pg xs) a b c d, 0, 0)) rfl ?_
  refine pm_go (g := (85, [(2, .int 0), (0, .ref 25), (1, .int (a))], [.int (a), .int 0, .ref 36], g8_20 (pg xs) a b c d, 0, 0)) rfl ?_
  refine pm_go (g := (86, [(2, .int 0), (0, .ref 25), (1, .int (a))], [], g8_21 (pg xs) a b c d, 0, 0)) rfl ?_
  refine pm_go (g := (87, [(2, .int 0), (0, .ref 25), (1, .int (a))], [.ref 25], g8_21 (pg xs) a b c d, 0, 0)) rfl ?_
  refine pm_go (g := (88, [(2, .int 0), (0, .ref 25), (1, .int (a))], [.int 0, .ref 25], g8_21 (pg xs) a b c d, 0, 0)) rfl ?_
  refine pm_go (g := (91, [(2, .int 0), (0, .ref 25), (1, .int (a))], [], g8_21 (pg xs) a b c d, 0, 0)) rfl ?_
  refine pm_go (g := (92, [(2, .int 0), (0, .ref 25), (1, .int (a))], [.ref 25], g8_21 (pg xs) a b c d, 0, 0)) rfl ?_
  refine pm_go (g := (93, [(2, .int 0), (0, .ref 25), (1, .int (a))], [.ref 25, .ref 25], g8_21 (pg xs) a b c d, 0, 0)) rfl ?_
  refine pm_go (g := (96, [(2, .int 0), (0, .ref 25), (1, .int (a))], [.int 0, .ref 25], g8_21 (pg xs) a b c d, 0, 0)) rfl ?_
  refine pm_go (g := (97, [(2, .int 0), (0, .ref 25), (1, .int (a))], [.int 1, .int 0, .ref 25], g8_21 (pg xs) a b c d, 0, 0)) rfl ?_
  refine pm_go (g := (98, [(2, .int 0), (0, .ref 25), (1, .int (a))], [.int 1, .ref 25], g8_21 (pg xs) a b c d, 0, 0)) rfl ?_
  refine pm_go (g := (101, [(2, .int 0), (0, .ref 25), (1, .int (a))], [], g8_22 (pg xs) a b c d, 0, 0)) rfl ?_
  refine pm_go (g := (102, [(2, .int 0), (0, .ref 25), (1, .int (a))], [.ref 25], g8_22 (pg xs) a b c d, 0, 0)) rfl ?_
  refine pm_go (g := (105, [(2, .int 0), (0, .ref 25), (1, .int (a))], [.int 1], g8_22 (pg xs) a b c d, 0, 0)) rfl ?_
  refine pm_go (g := (106, [(2, .int 0), (0, .ref 25), (1, .int (a))], [.int 1, .int 1], g8_22 (pg xs) a b c d, 0, 0)) rfl ?_
  refine pm_go (g := (107, [(2, .int 0), (0, .ref 25), (1, .int (a))], [.int 0], g8_22 (pg xs) a b c d, 0, 0)) rfl ?_
  refine pm_ret rfl ?_
  show pm_WP 0 (400, [(3, .int 0), (2, .ref 25), (1, .ref 1), (0, .ref 0)], [.int 0, .int 0], g8_22 (pg xs) a b c d, 599949, 7298495) _
  refine pm_brT (g := (873, [(3, .int 0), (2, .ref 25), (1, .ref 1), (0, .ref 0)], [], g8_22 (pg xs) a b c d, 599949, 7298495)) rfl ?_
  refine pm_go (g := (876, [(3, .int 5), (2, .ref 25), (1, .ref 1), (0, .ref 0)], [], g8_22 (pg xs) a b c d, 599949, 7298495)) rfl ?_
  refine pm_go (g := (18, [(3, .int 5), (2, .ref 25), (1, .ref 1), (0, .ref 0)], [], g8_22 (pg xs) a b c d, 599949, 7298495)) rfl ?_
  refine pm_go (g := (19, [(3, .int 5), (2, .ref 25), (1, .ref 1), (0, .ref 0)], [.int 5], g8_22 (pg xs) a b c d, 599949, 7298495)) rfl ?_
  refine pm_go (g := (20, [(3, .int 5), (2, .ref 25), (1, .ref 1), (0, .ref 0)], [.ref 0, .int 5], g8_22 (pg xs) a b c d, 599949, 7298495)) rfl ?_
  refine pm_go (g := (21, [(3, .int 5), (2, .ref 25), (1, .ref 1), (0, .ref 0)], [.int 5, .int 5], g8_22 (pg xs) a b c d, 599949, 7298495)) rfl ?_
  refine pm_go (g := (22, [(3, .int 5), (2, .ref 25), (1, .ref 1), (0, .ref 0)], [.int 5, .int 5, .int 5], g8_22 (pg xs) a b c d, 599949, 7298495)) rfl ?_
  refine pm_go (g := (23, [(3, .int 5), (2, .ref 25), (1, .ref 1), (0, .ref 0)], [.int 0, .int 5], g8_22 (pg xs) a b c d, 599949, 7298495)) rfl ?_
  refine pm_brT (g := (879, [(3, .int 5), (2, .ref 25), (1, .ref 1), (0, .ref 0)], [], g8_22 (pg xs) a b c d, 599949, 7298495)) rfl ?_
  refine pm_go (g := (880, [(3, .int 5), (2, .ref 25), (1, .ref 1), (0, .ref 0)], [.int 1], g8_22 (pg xs) a b c d, 599949, 7298495)) rfl ?_
  exact pm_ret rfl rfl
