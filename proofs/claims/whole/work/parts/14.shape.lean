/-! THE FIXED OBJECTS: the circle from 16, the reference from 44, made in their constructors; 70 is the first address behind them -/
def sk_kd : List (Nat × Nat) := [(1, 20), (2, 20), (3, 20), (4, 30), (5, 30), (6, 30), (7, 30), (8, 30), (16, 9), (17, 7), (18, 21), (19, 5), (20, 20), (21, 2), (22, 20), (23, 25), (24, 20), (25, 20), (26, 20), (27, 20), (28, 20), (29, 20), (30, 23), (31, 8), (32, 20), (33, 20), (34, 20), (35, 8), (36, 20), (37, 20), (38, 20), (39, 3), (40, 20), (41, 20), (42, 20), (43, 24), (44, 10), (45, 20), (46, 20), (47, 20), (48, 20), (49, 22), (50, 20), (51, 20), (52, 20), (53, 20), (54, 22), (55, 20), (56, 20), (57, 20), (58, 20), (59, 20), (60, 20), (61, 22), (62, 20), (63, 20), (64, 20), (65, 20), (66, 20), (67, 20), (68, 20), (69, 20)]
def sk_or : List (Nat × Nat × Nat) := [(384, 17, 18), (512, 16, 17), (256, 19, 20), (513, 16, 19), (64, 21, 22), (65, 21, 23), (514, 16, 21), (515, 16, 30), (448, 31, 32), (449, 31, 33), (450, 31, 34), (516, 16, 31), (448, 35, 36), (449, 35, 37), (450, 35, 38), (517, 16, 35), (128, 39, 40), (129, 39, 41), (130, 39, 42), (518, 16, 39), (519, 16, 43), (576, 44, 45), (584, 44, 46), (586, 44, 47), (587, 44, 48), (591, 44, 49), (592, 44, 50), (593, 44, 51), (594, 44, 52), (595, 44, 53), (596, 44, 54), (601, 44, 55), (602, 44, 56), (603, 44, 57), (605, 44, 58), (606, 44, 59), (607, 44, 60), (608, 44, 61), (609, 44, 62), (610, 44, 63), (611, 44, 64), (612, 44, 65), (613, 44, 66), (614, 44, 67), (615, 44, 68), (616, 44, 69)]
def sk_al : List (Nat × Nat) := [(1, 5), (2, 5), (3, 5), (18, 200), (20, 5), (22, 6), (23, 6), (24, 5), (25, 5), (26, 5), (27, 5), (28, 5), (29, 5), (30, 12), (32, 10), (33, 10), (34, 10), (36, 10), (37, 10), (38, 10), (40, 10), (41, 10), (42, 10), (43, 4), (45, 200), (46, 5), (47, 6), (48, 30), (49, 12), (50, 12), (51, 12), (52, 12), (53, 24012), (54, 144), (55, 10), (56, 10), (57, 10), (58, 10), (59, 10), (60, 10), (61, 100), (62, 10), (63, 10), (64, 10), (65, 20), (66, 10), (67, 4), (68, 4), (69, 240)]
def s_h (h : mm_H) : Prop := (∀ q ∈ sk_kd, h_kd h q.1 = q.2) ∧ (∀ q ∈ sk_or, h_or h q.1 q.2.1 = some q.2.2) ∧ (∀ q ∈ sk_al, h_al h q.1 = q.2) ∧ 70 ≤ h_n h ∧ (∀ i, i < 6 → h_ar h 23 i = some (24 + i)) ∧ h_ai h 1 = (fun i => [0, 0, 1, 0, 0].getD i 0) ∧ h_ai h 2 = (fun i => [200, 47, 400, 50, 100].getD i 0) ∧ h_ai h 3 = (fun i => [0, -4, -4, 0, 0].getD i 0)
theorem kd_1 {h : mm_H} (s : s_h h) : h_kd h 1 = 20 := s.1 (1, 20) (by decide)
theorem kd_2 {h : mm_H} (s : s_h h) : h_kd h 2 = 20 := s.1 (2, 20) (by decide)
theorem kd_3 {h : mm_H} (s : s_h h) : h_kd h 3 = 20 := s.1 (3, 20) (by decide)
theorem kd_4 {h : mm_H} (s : s_h h) : h_kd h 4 = 30 := s.1 (4, 30) (by decide)
theorem kd_5 {h : mm_H} (s : s_h h) : h_kd h 5 = 30 := s.1 (5, 30) (by decide)
theorem kd_6 {h : mm_H} (s : s_h h) : h_kd h 6 = 30 := s.1 (6, 30) (by decide)
theorem kd_7 {h : mm_H} (s : s_h h) : h_kd h 7 = 30 := s.1 (7, 30) (by decide)
theorem kd_8 {h : mm_H} (s : s_h h) : h_kd h 8 = 30 := s.1 (8, 30) (by decide)
theorem kd_16 {h : mm_H} (s : s_h h) : h_kd h 16 = 9 := s.1 (16, 9) (by decide)
theorem kd_17 {h : mm_H} (s : s_h h) : h_kd h 17 = 7 := s.1 (17, 7) (by decide)
theorem kd_18 {h : mm_H} (s : s_h h) : h_kd h 18 = 21 := s.1 (18, 21) (by decide)
theorem kd_19 {h : mm_H} (s : s_h h) : h_kd h 19 = 5 := s.1 (19, 5) (by decide)
theorem kd_20 {h : mm_H} (s : s_h h) : h_kd h 20 = 20 := s.1 (20, 20) (by decide)
theorem kd_21 {h : mm_H} (s : s_h h) : h_kd h 21 = 2 := s.1 (21, 2) (by decide)
theorem kd_22 {h : mm_H} (s : s_h h) : h_kd h 22 = 20 := s.1 (22, 20) (by decide)
theorem kd_23 {h : mm_H} (s : s_h h) : h_kd h 23 = 25 := s.1 (23, 25) (by decide)
theorem kd_24 {h : mm_H} (s : s_h h) : h_kd h 24 = 20 := s.1 (24, 20) (by decide)
theorem kd_25 {h : mm_H} (s : s_h h) : h_kd h 25 = 20 := s.1 (25, 20) (by decide)
theorem kd_26 {h : mm_H} (s : s_h h) : h_kd h 26 = 20 := s.1 (26, 20) (by decide)
theorem kd_27 {h : mm_H} (s : s_h h) : h_kd h 27 = 20 := s.1 (27, 20) (by decide)
theorem kd_28 {h : mm_H} (s : s_h h) : h_kd h 28 = 20 := s.1 (28, 20) (by decide)
theorem kd_29 {h : mm_H} (s : s_h h) : h_kd h 29 = 20 := s.1 (29, 20) (by decide)
theorem kd_30 {h : mm_H} (s : s_h h) : h_kd h 30 = 23 := s.1 (30, 23) (by decide)
theorem kd_31 {h : mm_H} (s : s_h h) : h_kd h 31 = 8 := s.1 (31, 8) (by decide)
theorem kd_32 {h : mm_H} (s : s_h h) : h_kd h 32 = 20 := s.1 (32, 20) (by decide)
theorem kd_33 {h : mm_H} (s : s_h h) : h_kd h 33 = 20 := s.1 (33, 20) (by decide)
theorem kd_34 {h : mm_H} (s : s_h h) : h_kd h 34 = 20 := s.1 (34, 20) (by decide)
theorem kd_35 {h : mm_H} (s : s_h h) : h_kd h 35 = 8 := s.1 (35, 8) (by decide)
theorem kd_36 {h : mm_H} (s : s_h h) : h_kd h 36 = 20 := s.1 (36, 20) (by decide)
theorem kd_37 {h : mm_H} (s : s_h h) : h_kd h 37 = 20 := s.1 (37, 20) (by decide)
theorem kd_38 {h : mm_H} (s : s_h h) : h_kd h 38 = 20 := s.1 (38, 20) (by decide)
theorem kd_39 {h : mm_H} (s : s_h h) : h_kd h 39 = 3 := s.1 (39, 3) (by decide)
theorem kd_40 {h : mm_H} (s : s_h h) : h_kd h 40 = 20 := s.1 (40, 20) (by decide)
theorem kd_41 {h : mm_H} (s : s_h h) : h_kd h 41 = 20 := s.1 (41, 20) (by decide)
theorem kd_42 {h : mm_H} (s : s_h h) : h_kd h 42 = 20 := s.1 (42, 20) (by decide)
theorem kd_43 {h : mm_H} (s : s_h h) : h_kd h 43 = 24 := s.1 (43, 24) (by decide)
theorem kd_44 {h : mm_H} (s : s_h h) : h_kd h 44 = 10 := s.1 (44, 10) (by decide)
theorem kd_45 {h : mm_H} (s : s_h h) : h_kd h 45 = 20 := s.1 (45, 20) (by decide)
theorem kd_46 {h : mm_H} (s : s_h h) : h_kd h 46 = 20 := s.1 (46, 20) (by decide)
theorem kd_47 {h : mm_H} (s : s_h h) : h_kd h 47 = 20 := s.1 (47, 20) (by decide)
theorem kd_48 {h : mm_H} (s : s_h h) : h_kd h 48 = 20 := s.1 (48, 20) (by decide)
theorem kd_49 {h : mm_H} (s : s_h h) : h_kd h 49 = 22 := s.1 (49, 22) (by decide)
theorem kd_50 {h : mm_H} (s : s_h h) : h_kd h 50 = 20 := s.1 (50, 20) (by decide)
theorem kd_51 {h : mm_H} (s : s_h h) : h_kd h 51 = 20 := s.1 (51, 20) (by decide)
theorem kd_52 {h : mm_H} (s : s_h h) : h_kd h 52 = 20 := s.1 (52, 20) (by decide)
theorem kd_53 {h : mm_H} (s : s_h h) : h_kd h 53 = 20 := s.1 (53, 20) (by decide)
theorem kd_54 {h : mm_H} (s : s_h h) : h_kd h 54 = 22 := s.1 (54, 22) (by decide)
theorem kd_55 {h : mm_H} (s : s_h h) : h_kd h 55 = 20 := s.1 (55, 20) (by decide)
theorem kd_56 {h : mm_H} (s : s_h h) : h_kd h 56 = 20 := s.1 (56, 20) (by decide)
theorem kd_57 {h : mm_H} (s : s_h h) : h_kd h 57 = 20 := s.1 (57, 20) (by decide)
theorem kd_58 {h : mm_H} (s : s_h h) : h_kd h 58 = 20 := s.1 (58, 20) (by decide)
theorem kd_59 {h : mm_H} (s : s_h h) : h_kd h 59 = 20 := s.1 (59, 20) (by decide)
theorem kd_60 {h : mm_H} (s : s_h h) : h_kd h 60 = 20 := s.1 (60, 20) (by decide)
theorem kd_61 {h : mm_H} (s : s_h h) : h_kd h 61 = 22 := s.1 (61, 22) (by decide)
theorem kd_62 {h : mm_H} (s : s_h h) : h_kd h 62 = 20 := s.1 (62, 20) (by decide)
theorem kd_63 {h : mm_H} (s : s_h h) : h_kd h 63 = 20 := s.1 (63, 20) (by decide)
theorem kd_64 {h : mm_H} (s : s_h h) : h_kd h 64 = 20 := s.1 (64, 20) (by decide)
theorem kd_65 {h : mm_H} (s : s_h h) : h_kd h 65 = 20 := s.1 (65, 20) (by decide)
theorem kd_66 {h : mm_H} (s : s_h h) : h_kd h 66 = 20 := s.1 (66, 20) (by decide)
theorem kd_67 {h : mm_H} (s : s_h h) : h_kd h 67 = 20 := s.1 (67, 20) (by decide)
theorem kd_68 {h : mm_H} (s : s_h h) : h_kd h 68 = 20 := s.1 (68, 20) (by decide)
theorem kd_69 {h : mm_H} (s : s_h h) : h_kd h 69 = 20 := s.1 (69, 20) (by decide)
theorem or_384_17 {h : mm_H} (s : s_h h) : h_or h 384 17 = some 18 := s.2.1 (384, 17, 18) (by decide)
theorem or_512_16 {h : mm_H} (s : s_h h) : h_or h 512 16 = some 17 := s.2.1 (512, 16, 17) (by decide)
theorem or_256_19 {h : mm_H} (s : s_h h) : h_or h 256 19 = some 20 := s.2.1 (256, 19, 20) (by decide)
theorem or_513_16 {h : mm_H} (s : s_h h) : h_or h 513 16 = some 19 := s.2.1 (513, 16, 19) (by decide)
theorem or_64_21 {h : mm_H} (s : s_h h) : h_or h 64 21 = some 22 := s.2.1 (64, 21, 22) (by decide)
theorem or_65_21 {h : mm_H} (s : s_h h) : h_or h 65 21 = some 23 := s.2.1 (65, 21, 23) (by decide)
theorem or_514_16 {h : mm_H} (s : s_h h) : h_or h 514 16 = some 21 := s.2.1 (514, 16, 21) (by decide)
theorem or_515_16 {h : mm_H} (s : s_h h) : h_or h 515 16 = some 30 := s.2.1 (515, 16, 30) (by decide)
theorem or_448_31 {h : mm_H} (s : s_h h) : h_or h 448 31 = some 32 := s.2.1 (448, 31, 32) (by decide)
theorem or_449_31 {h : mm_H} (s : s_h h) : h_or h 449 31 = some 33 := s.2.1 (449, 31, 33) (by decide)
theorem or_450_31 {h : mm_H} (s : s_h h) : h_or h 450 31 = some 34 := s.2.1 (450, 31, 34) (by decide)
theorem or_516_16 {h : mm_H} (s : s_h h) : h_or h 516 16 = some 31 := s.2.1 (516, 16, 31) (by decide)
theorem or_448_35 {h : mm_H} (s : s_h h) : h_or h 448 35 = some 36 := s.2.1 (448, 35, 36) (by decide)
theorem or_449_35 {h : mm_H} (s : s_h h) : h_or h 449 35 = some 37 := s.2.1 (449, 35, 37) (by decide)
theorem or_450_35 {h : mm_H} (s : s_h h) : h_or h 450 35 = some 38 := s.2.1 (450, 35, 38) (by decide)
theorem or_517_16 {h : mm_H} (s : s_h h) : h_or h 517 16 = some 35 := s.2.1 (517, 16, 35) (by decide)
theorem or_128_39 {h : mm_H} (s : s_h h) : h_or h 128 39 = some 40 := s.2.1 (128, 39, 40) (by decide)
theorem or_129_39 {h : mm_H} (s : s_h h) : h_or h 129 39 = some 41 := s.2.1 (129, 39, 41) (by decide)
theorem or_130_39 {h : mm_H} (s : s_h h) : h_or h 130 39 = some 42 := s.2.1 (130, 39, 42) (by decide)
theorem or_518_16 {h : mm_H} (s : s_h h) : h_or h 518 16 = some 39 := s.2.1 (518, 16, 39) (by decide)
theorem or_519_16 {h : mm_H} (s : s_h h) : h_or h 519 16 = some 43 := s.2.1 (519, 16, 43) (by decide)
theorem or_576_44 {h : mm_H} (s : s_h h) : h_or h 576 44 = some 45 := s.2.1 (576, 44, 45) (by decide)
theorem or_584_44 {h : mm_H} (s : s_h h) : h_or h 584 44 = some 46 := s.2.1 (584, 44, 46) (by decide)
theorem or_586_44 {h : mm_H} (s : s_h h) : h_or h 586 44 = some 47 := s.2.1 (586, 44, 47) (by decide)
theorem or_587_44 {h : mm_H} (s : s_h h) : h_or h 587 44 = some 48 := s.2.1 (587, 44, 48) (by decide)
theorem or_591_44 {h : mm_H} (s : s_h h) : h_or h 591 44 = some 49 := s.2.1 (591, 44, 49) (by decide)
theorem or_592_44 {h : mm_H} (s : s_h h) : h_or h 592 44 = some 50 := s.2.1 (592, 44, 50) (by decide)
theorem or_593_44 {h : mm_H} (s : s_h h) : h_or h 593 44 = some 51 := s.2.1 (593, 44, 51) (by decide)
theorem or_594_44 {h : mm_H} (s : s_h h) : h_or h 594 44 = some 52 := s.2.1 (594, 44, 52) (by decide)
theorem or_595_44 {h : mm_H} (s : s_h h) : h_or h 595 44 = some 53 := s.2.1 (595, 44, 53) (by decide)
theorem or_596_44 {h : mm_H} (s : s_h h) : h_or h 596 44 = some 54 := s.2.1 (596, 44, 54) (by decide)
theorem or_601_44 {h : mm_H} (s : s_h h) : h_or h 601 44 = some 55 := s.2.1 (601, 44, 55) (by decide)
theorem or_602_44 {h : mm_H} (s : s_h h) : h_or h 602 44 = some 56 := s.2.1 (602, 44, 56) (by decide)
theorem or_603_44 {h : mm_H} (s : s_h h) : h_or h 603 44 = some 57 := s.2.1 (603, 44, 57) (by decide)
theorem or_605_44 {h : mm_H} (s : s_h h) : h_or h 605 44 = some 58 := s.2.1 (605, 44, 58) (by decide)
theorem or_606_44 {h : mm_H} (s : s_h h) : h_or h 606 44 = some 59 := s.2.1 (606, 44, 59) (by decide)
theorem or_607_44 {h : mm_H} (s : s_h h) : h_or h 607 44 = some 60 := s.2.1 (607, 44, 60) (by decide)
theorem or_608_44 {h : mm_H} (s : s_h h) : h_or h 608 44 = some 61 := s.2.1 (608, 44, 61) (by decide)
theorem or_609_44 {h : mm_H} (s : s_h h) : h_or h 609 44 = some 62 := s.2.1 (609, 44, 62) (by decide)
theorem or_610_44 {h : mm_H} (s : s_h h) : h_or h 610 44 = some 63 := s.2.1 (610, 44, 63) (by decide)
theorem or_611_44 {h : mm_H} (s : s_h h) : h_or h 611 44 = some 64 := s.2.1 (611, 44, 64) (by decide)
theorem or_612_44 {h : mm_H} (s : s_h h) : h_or h 612 44 = some 65 := s.2.1 (612, 44, 65) (by decide)
theorem or_613_44 {h : mm_H} (s : s_h h) : h_or h 613 44 = some 66 := s.2.1 (613, 44, 66) (by decide)
theorem or_614_44 {h : mm_H} (s : s_h h) : h_or h 614 44 = some 67 := s.2.1 (614, 44, 67) (by decide)
theorem or_615_44 {h : mm_H} (s : s_h h) : h_or h 615 44 = some 68 := s.2.1 (615, 44, 68) (by decide)
theorem or_616_44 {h : mm_H} (s : s_h h) : h_or h 616 44 = some 69 := s.2.1 (616, 44, 69) (by decide)
theorem al_1 {h : mm_H} (s : s_h h) : h_al h 1 = 5 := s.2.2.1 (1, 5) (by decide)
theorem al_2 {h : mm_H} (s : s_h h) : h_al h 2 = 5 := s.2.2.1 (2, 5) (by decide)
theorem al_3 {h : mm_H} (s : s_h h) : h_al h 3 = 5 := s.2.2.1 (3, 5) (by decide)
theorem al_18 {h : mm_H} (s : s_h h) : h_al h 18 = 200 := s.2.2.1 (18, 200) (by decide)
theorem al_20 {h : mm_H} (s : s_h h) : h_al h 20 = 5 := s.2.2.1 (20, 5) (by decide)
theorem al_22 {h : mm_H} (s : s_h h) : h_al h 22 = 6 := s.2.2.1 (22, 6) (by decide)
theorem al_23 {h : mm_H} (s : s_h h) : h_al h 23 = 6 := s.2.2.1 (23, 6) (by decide)
theorem al_24 {h : mm_H} (s : s_h h) : h_al h 24 = 5 := s.2.2.1 (24, 5) (by decide)
theorem al_25 {h : mm_H} (s : s_h h) : h_al h 25 = 5 := s.2.2.1 (25, 5) (by decide)
theorem al_26 {h : mm_H} (s : s_h h) : h_al h 26 = 5 := s.2.2.1 (26, 5) (by decide)
theorem al_27 {h : mm_H} (s : s_h h) : h_al h 27 = 5 := s.2.2.1 (27, 5) (by decide)
theorem al_28 {h : mm_H} (s : s_h h) : h_al h 28 = 5 := s.2.2.1 (28, 5) (by decide)
theorem al_29 {h : mm_H} (s : s_h h) : h_al h 29 = 5 := s.2.2.1 (29, 5) (by decide)
theorem al_30 {h : mm_H} (s : s_h h) : h_al h 30 = 12 := s.2.2.1 (30, 12) (by decide)
theorem al_32 {h : mm_H} (s : s_h h) : h_al h 32 = 10 := s.2.2.1 (32, 10) (by decide)
theorem al_33 {h : mm_H} (s : s_h h) : h_al h 33 = 10 := s.2.2.1 (33, 10) (by decide)
theorem al_34 {h : mm_H} (s : s_h h) : h_al h 34 = 10 := s.2.2.1 (34, 10) (by decide)
theorem al_36 {h : mm_H} (s : s_h h) : h_al h 36 = 10 := s.2.2.1 (36, 10) (by decide)
theorem al_37 {h : mm_H} (s : s_h h) : h_al h 37 = 10 := s.2.2.1 (37, 10) (by decide)
theorem al_38 {h : mm_H} (s : s_h h) : h_al h 38 = 10 := s.2.2.1 (38, 10) (by decide)
theorem al_40 {h : mm_H} (s : s_h h) : h_al h 40 = 10 := s.2.2.1 (40, 10) (by decide)
theorem al_41 {h : mm_H} (s : s_h h) : h_al h 41 = 10 := s.2.2.1 (41, 10) (by decide)
theorem al_42 {h : mm_H} (s : s_h h) : h_al h 42 = 10 := s.2.2.1 (42, 10) (by decide)
theorem al_43 {h : mm_H} (s : s_h h) : h_al h 43 = 4 := s.2.2.1 (43, 4) (by decide)
theorem al_45 {h : mm_H} (s : s_h h) : h_al h 45 = 200 := s.2.2.1 (45, 200) (by decide)
theorem al_46 {h : mm_H} (s : s_h h) : h_al h 46 = 5 := s.2.2.1 (46, 5) (by decide)
theorem al_47 {h : mm_H} (s : s_h h) : h_al h 47 = 6 := s.2.2.1 (47, 6) (by decide)
theorem al_48 {h : mm_H} (s : s_h h) : h_al h 48 = 30 := s.2.2.1 (48, 30) (by decide)
theorem al_49 {h : mm_H} (s : s_h h) : h_al h 49 = 12 := s.2.2.1 (49, 12) (by decide)
theorem al_50 {h : mm_H} (s : s_h h) : h_al h 50 = 12 := s.2.2.1 (50, 12) (by decide)
theorem al_51 {h : mm_H} (s : s_h h) : h_al h 51 = 12 := s.2.2.1 (51, 12) (by decide)
theorem al_52 {h : mm_H} (s : s_h h) : h_al h 52 = 12 := s.2.2.1 (52, 12) (by decide)
theorem al_53 {h : mm_H} (s : s_h h) : h_al h 53 = 24012 := s.2.2.1 (53, 24012) (by decide)
theorem al_54 {h : mm_H} (s : s_h h) : h_al h 54 = 144 := s.2.2.1 (54, 144) (by decide)
theorem al_55 {h : mm_H} (s : s_h h) : h_al h 55 = 10 := s.2.2.1 (55, 10) (by decide)
theorem al_56 {h : mm_H} (s : s_h h) : h_al h 56 = 10 := s.2.2.1 (56, 10) (by decide)
theorem al_57 {h : mm_H} (s : s_h h) : h_al h 57 = 10 := s.2.2.1 (57, 10) (by decide)
theorem al_58 {h : mm_H} (s : s_h h) : h_al h 58 = 10 := s.2.2.1 (58, 10) (by decide)
theorem al_59 {h : mm_H} (s : s_h h) : h_al h 59 = 10 := s.2.2.1 (59, 10) (by decide)
theorem al_60 {h : mm_H} (s : s_h h) : h_al h 60 = 10 := s.2.2.1 (60, 10) (by decide)
theorem al_61 {h : mm_H} (s : s_h h) : h_al h 61 = 100 := s.2.2.1 (61, 100) (by decide)
theorem al_62 {h : mm_H} (s : s_h h) : h_al h 62 = 10 := s.2.2.1 (62, 10) (by decide)
theorem al_63 {h : mm_H} (s : s_h h) : h_al h 63 = 10 := s.2.2.1 (63, 10) (by decide)
theorem al_64 {h : mm_H} (s : s_h h) : h_al h 64 = 10 := s.2.2.1 (64, 10) (by decide)
theorem al_65 {h : mm_H} (s : s_h h) : h_al h 65 = 20 := s.2.2.1 (65, 20) (by decide)
theorem al_66 {h : mm_H} (s : s_h h) : h_al h 66 = 10 := s.2.2.1 (66, 10) (by decide)
theorem al_67 {h : mm_H} (s : s_h h) : h_al h 67 = 4 := s.2.2.1 (67, 4) (by decide)
theorem al_68 {h : mm_H} (s : s_h h) : h_al h 68 = 4 := s.2.2.1 (68, 4) (by decide)
theorem al_69 {h : mm_H} (s : s_h h) : h_al h 69 = 240 := s.2.2.1 (69, 240) (by decide)
theorem n_70 {h : mm_H} (s : s_h h) : 70 ≤ h_n h := s.2.2.2.1
theorem ar_23 {h : mm_H} (s : s_h h) {i : Nat} (hi : i < 6) : h_ar h 23 i = some (24 + i) := s.2.2.2.2.1 i hi
theorem ai_1 {h : mm_H} (s : s_h h) : h_ai h 1 = (fun i => [0, 0, 1, 0, 0].getD i 0) := s.2.2.2.2.2.1
theorem ai_2 {h : mm_H} (s : s_h h) : h_ai h 2 = (fun i => [200, 47, 400, 50, 100].getD i 0) := s.2.2.2.2.2.2.1
theorem ai_3 {h : mm_H} (s : s_h h) : h_ai h 3 = (fun i => [0, -4, -4, 0, 0].getD i 0) := s.2.2.2.2.2.2.2
/-- the fixed part stays but for these fields and arrays -/
def fx (h h' : mm_H) (gs : List (Nat × Nat)) (as : List Nat) : Prop := (∀ a, a < 70 → h_kd h' a = h_kd h a ∧ h_al h' a = h_al h a ∧ (∀ g, h_or h' g a = h_or h g a) ∧ (a ∉ as → h_ai h' a = h_ai h a) ∧ (a ∉ as → h_ar h' a = h_ar h a) ∧ ∀ g, (g, a) ∉ gs → h_oi h' g a = h_oi h g a) ∧ h_n h ≤ h_n h'
/-- nothing of the made part changes -/
def dn (h h' : mm_H) : Prop := h_n h' = h_n h ∧ h_s h' = h_s h ∧ (∀ a, 70 ≤ a → h_kd h' a = h_kd h a ∧ h_al h' a = h_al h a ∧ h_ai h' a = h_ai h a ∧ h_ar h' a = h_ar h a) ∧ (∀ g a, 70 ≤ a → h_or h' g a = h_or h g a ∧ h_oi h' g a = h_oi h g a)
theorem fx.rf (h : mm_H) (gs : List (Nat × Nat)) (as : List Nat) : fx h h gs as := ⟨fun a _ => ⟨rfl, rfl, fun _ => rfl, fun _ => rfl, fun _ => rfl, fun _ _ => rfl⟩, Nat.le_refl _⟩
theorem dn.rf (h : mm_H) : dn h h := ⟨rfl, rfl, fun _ _ => ⟨rfl, rfl, rfl, rfl⟩, fun _ _ _ => ⟨rfl, rfl⟩⟩
theorem dn.tr {h h1 h2 : mm_H} (a : dn h h1) (b : dn h1 h2) : dn h h2 := ⟨b.1.trans a.1, b.2.1.trans a.2.1, fun x hx => ⟨(b.2.2.1 x hx).1.trans (a.2.2.1 x hx).1, (b.2.2.1 x hx).2.1.trans (a.2.2.1 x hx).2.1, (b.2.2.1 x hx).2.2.1.trans (a.2.2.1 x hx).2.2.1, (b.2.2.1 x hx).2.2.2.trans (a.2.2.1 x hx).2.2.2⟩, fun g x hx => ⟨(b.2.2.2 g x hx).1.trans (a.2.2.2 g x hx).1, (b.2.2.2 g x hx).2.trans (a.2.2.2 g x hx).2⟩⟩
theorem fx.sI {h h' : mm_H} {gs : List (Nat × Nat)} {as : List Nat} (f : fx h h' gs as) {g a : Nat} (x : Int32) (hm : (g, a) ∈ gs ∨ 70 ≤ a) : fx h (h_sI h' g a x) gs as := by
  refine ⟨fun b hb => ?_, f.2⟩
  obtain ⟨f1, f2, f3, f4, f5, f6⟩ := f.1 b hb
  refine ⟨f1, f2, f3, f4, f5, fun g' hg => ?_⟩
  show va_up (h_oi h') g (va_up (h_oi h' g) a x) g' b = _
  by_cases e : g' = g
  · subst e
    rw [va_up_self]
    by_cases e2 : b = a
    · subst e2
      rcases hm with hm | hm
      · exact absurd hm hg
      · omega
    · rw [va_up_ne _ _ e2]
      exact f6 g' hg
  · rw [va_up_ne _ _ e]
    exact f6 g' hg
theorem fx.sA {h h' : mm_H} {gs : List (Nat × Nat)} {as : List Nat} (f : fx h h' gs as) {a : Nat} (i : Nat) (x : Int32) (hm : a ∈ as ∨ 70 ≤ a) : fx h (h_sA h' a i x) gs as := by
  refine ⟨fun b hb => ?_, f.2⟩
  obtain ⟨f1, f2, f3, f4, f5, f6⟩ := f.1 b hb
  refine ⟨f1, f2, f3, fun hn => ?_, f5, f6⟩
  show va_up (h_ai h') a (va_up (h_ai h' a) i x) b = _
  have e : b ≠ a := fun e => by
    subst e
    rcases hm with hm | hm
    · exact hn hm
    · omega
  rw [va_up_ne _ _ e]
  exact f4 hn
theorem fx.tr {h h1 h2 : mm_H} {gs gs2 gs' : List (Nat × Nat)} {as as2 as' : List Nat} (f : fx h h1 gs as) (f2 : fx h1 h2 gs2 as2) (hg : ∀ q ∈ gs, q ∈ gs') (hg2 : ∀ q ∈ gs2, q ∈ gs') (ha : ∀ q ∈ as, q ∈ as') (ha2 : ∀ q ∈ as2, q ∈ as') : fx h h2 gs' as' := by
  refine ⟨fun b hb => ?_, Nat.le_trans f.2 f2.2⟩
  obtain ⟨p1, p2, p3, p4, p5, p6⟩ := f.1 b hb
  obtain ⟨q1, q2, q3, q4, q5, q6⟩ := f2.1 b hb
  exact ⟨q1.trans p1, q2.trans p2, fun g => (q3 g).trans (p3 g), fun n => (q4 (fun z => n (ha2 _ z))).trans (p4 (fun z => n (ha _ z))), fun n => (q5 (fun z => n (ha2 _ z))).trans (p5 (fun z => n (ha _ z))), fun g n => (q6 g (fun z => n (hg2 _ z))).trans (p6 g (fun z => n (hg _ z)))⟩
theorem dn.sI {h h' : mm_H} (f : dn h h') {g a : Nat} (x : Int32) (ha : a < 70) : dn h (h_sI h' g a x) := by
  refine f.tr ⟨rfl, rfl, fun _ _ => ⟨rfl, rfl, rfl, rfl⟩, fun g' b hb => ⟨rfl, ?_⟩⟩
  show va_up (h_oi h') g (va_up (h_oi h' g) a x) g' b = _
  by_cases e : g' = g
  · subst e
    rw [va_up_self, va_up_ne _ _ (by omega)]
  · rw [va_up_ne _ _ e]
theorem dn.sA {h h' : mm_H} (f : dn h h') {a : Nat} (i : Nat) (x : Int32) (ha : a < 70) : dn h (h_sA h' a i x) := by
  refine f.tr ⟨rfl, rfl, fun b hb => ⟨rfl, rfl, ?_, rfl⟩, fun _ _ _ => ⟨rfl, rfl⟩⟩
  show va_up (h_ai h') a (va_up (h_ai h' a) i x) b = _
  rw [va_up_ne _ _ (by omega)]
theorem fx.ai {h h' : mm_H} {gs : List (Nat × Nat)} {as : List Nat} (f : fx h h' gs as) (a : Nat) (ha : a < 70) (hn : a ∉ as) : h_ai h' a = h_ai h a := (f.1 a ha).2.2.2.1 hn
theorem fx.ar {h h' : mm_H} {gs : List (Nat × Nat)} {as : List Nat} (f : fx h h' gs as) (a : Nat) (ha : a < 70) (hn : a ∉ as) : h_ar h' a = h_ar h a := (f.1 a ha).2.2.2.2.1 hn
theorem fx.oi {h h' : mm_H} {gs : List (Nat × Nat)} {as : List Nat} (f : fx h h' gs as) (g a : Nat) (ha : a < 70) (hn : (g, a) ∉ gs) : h_oi h' g a = h_oi h g a := (f.1 a ha).2.2.2.2.2 g hn
theorem fx.sh {h h' : mm_H} {gs : List (Nat × Nat)} {as : List Nat} (f : fx h h' gs as) (s : s_h h) (hn : 1 ∉ as ∧ 2 ∉ as ∧ 3 ∉ as ∧ 23 ∉ as) : s_h h' := by
  obtain ⟨s1, s2, s3, s4, s5, s6, s7, s8⟩ := s
  have b1 : ∀ q ∈ sk_kd, q.1 < 70 := by decide
  have b2 : ∀ q ∈ sk_or, q.2.1 < 70 := by decide
  have b3 : ∀ q ∈ sk_al, q.1 < 70 := by decide
  refine ⟨fun q hq => (f.1 q.1 (b1 q hq)).1.trans (s1 q hq), fun q hq => ((f.1 q.2.1 (b2 q hq)).2.2.1 q.1).trans (s2 q hq), fun q hq => (f.1 q.1 (b3 q hq)).2.1.trans (s3 q hq), Nat.le_trans s4 f.2, fun i hi => ?_, ?_, ?_, ?_⟩
  · rw [f.ar 23 (by decide) hn.2.2.2]; exact s5 i hi
  · rw [f.ai 1 (by decide) hn.1]; exact s6
  · rw [f.ai 2 (by decide) hn.2.1]; exact s7
  · rw [f.ai 3 (by decide) hn.2.2.1]; exact s8
