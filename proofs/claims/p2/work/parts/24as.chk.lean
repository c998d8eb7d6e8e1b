def nd179_0 : bNd := (17, [some (.inr (.inl (.ref 1))), some (.inr (.inl (.retAddr 0))), some (.inl (0, [])), some (.inl (0, [(2, 1)])), some (.inl (0, [])), none], [(0, 399), (1, 400), (0, 0)], [], [(1, 3, (0, [(0, 1)])), (1, 4, (0, [(1, 1)]))], (0, []), (0, []), (47, []))
def nd179_1 : bNd := (17, [some (.inr (.inl (.ref 1))), some (.inr (.inl (.retAddr 0))), some (.inl (0, [])), some (.inl (0, [(2, 1)])), some (.inl (1, [])), some (.inl (0, [(3, 1)]))], [(0, 399), (1, 400), ((-1), 1), (114, 114)], [], [(1, 3, (0, [(0, 1)])), (1, 4, (0, [(1, 1)]))], (0, []), (0, []), (46, []))
def nd179_2 : bNd := (17, [some (.inr (.inl (.ref 1))), some (.inr (.inl (.retAddr 0))), some (.inl (0, [])), some (.inl (0, [(2, 1)])), some (.inl (2, [])), some (.inl (0, [(3, 1)]))], [(0, 399), (1, 400), ((-1), 2), (111, 111)], [], [(1, 3, (0, [(0, 1)])), (1, 4, (0, [(1, 1)]))], (0, []), (0, []), (45, []))
def nd179_3 : bNd := (17, [some (.inr (.inl (.ref 1))), some (.inr (.inl (.retAddr 0))), some (.inl (0, [])), some (.inl (0, [(2, 1)])), some (.inl (3, [])), some (.inl (0, [(3, 1)]))], [(0, 399), (1, 400), ((-1), 3), (111, 111)], [], [(1, 3, (0, [(0, 1)])), (1, 4, (0, [(1, 1)]))], (0, []), (0, []), (44, []))
def nd179_4 : bNd := (17, [some (.inr (.inl (.ref 1))), some (.inr (.inl (.retAddr 0))), some (.inl (0, [])), some (.inl (0, [(2, 1)])), some (.inl (4, [])), some (.inl (0, [(3, 1)]))], [(0, 399), (1, 400), ((-1), 4), (109, 109)], [], [(1, 3, (0, [(0, 1)])), (1, 4, (0, [(1, 1)]))], (0, []), (0, []), (43, []))
def nd179_5 : bNd := (17, [some (.inr (.inl (.ref 1))), some (.inr (.inl (.retAddr 0))), some (.inl (1, [])), some (.inl (0, [(2, 1)])), some (.inl (5, [])), some (.inl (0, [(3, 1)]))], [(0, 399), (1, 400), (0, 0), (32, 32)], [], [(1, 3, (0, [(0, 1)])), (1, 4, (0, [(1, 1)]))], (0, []), (0, []), (42, []))
def nd179_6 : bNd := (17, [some (.inr (.inl (.ref 1))), some (.inr (.inl (.retAddr 0))), some (.inl (1, [])), some (.inl (0, [(2, 1)])), some (.inl (6, [])), some (.inl (0, [(3, 1)]))], [(0, 399), (1, 400), ((-1), 1), (100, 100)], [], [(1, 3, (0, [(0, 1)])), (1, 4, (0, [(1, 1)]))], (0, []), (0, []), (41, []))
def nd179_7 : bNd := (17, [some (.inr (.inl (.ref 1))), some (.inr (.inl (.retAddr 0))), some (.inl (1, [])), some (.inl (0, [(2, 1)])), some (.inl (7, [])), some (.inl (0, [(3, 1)]))], [(0, 399), (1, 400), ((-1), 2), (111, 111)], [], [(1, 3, (0, [(0, 1)])), (1, 4, (0, [(1, 1)]))], (0, []), (0, []), (40, []))
def nd179_8 : bNd := (17, [some (.inr (.inl (.ref 1))), some (.inr (.inl (.retAddr 0))), some (.inl (1, [])), some (.inl (0, [(2, 1)])), some (.inl (8, [])), some (.inl (0, [(3, 1)]))], [(0, 399), (1, 400), ((-1), 3), (111, 111)], [], [(1, 3, (0, [(0, 1)])), (1, 4, (0, [(1, 1)]))], (0, []), (0, []), (39, []))
def nd179_9 : bNd := (17, [some (.inr (.inl (.ref 1))), some (.inr (.inl (.retAddr 0))), some (.inl (1, [])), some (.inl (0, [(2, 1)])), some (.inl (9, [])), some (.inl (0, [(3, 1)]))], [(0, 399), (1, 400), ((-1), 4), (114, 114)], [], [(1, 3, (0, [(0, 1)])), (1, 4, (0, [(1, 1)]))], (0, []), (0, []), (38, []))
def nd179_10 : bNd := (17, [some (.inr (.inl (.ref 1))), some (.inr (.inl (.retAddr 0))), some (.inl (2, [])), some (.inl (0, [(2, 1)])), some (.inl (10, [])), some (.inl (0, [(3, 1)]))], [(0, 399), (1, 400), (0, 0), (32, 32)], [], [(1, 3, (0, [(0, 1)])), (1, 4, (0, [(1, 1)]))], (0, []), (0, []), (37, []))
def nd179_11 : bNd := (17, [some (.inr (.inl (.ref 1))), some (.inr (.inl (.retAddr 0))), some (.inl (2, [])), some (.inl (0, [(2, 1)])), some (.inl (11, [])), some (.inl (0, [(3, 1)]))], [(0, 399), (1, 400), ((-1), 1), (112, 112)], [], [(1, 3, (0, [(0, 1)])), (1, 4, (0, [(1, 1)]))], (0, []), (0, []), (36, []))
def nd179_12 : bNd := (17, [some (.inr (.inl (.ref 1))), some (.inr (.inl (.retAddr 0))), some (.inl (2, [])), some (.inl (0, [(2, 1)])), some (.inl (12, [])), some (.inl (0, [(3, 1)]))], [(0, 399), (1, 400), ((-1), 2), (101, 101)], [], [(1, 3, (0, [(0, 1)])), (1, 4, (0, [(1, 1)]))], (0, []), (0, []), (35, []))
def nd179_13 : bNd := (17, [some (.inr (.inl (.ref 1))), some (.inr (.inl (.retAddr 0))), some (.inl (2, [])), some (.inl (0, [(2, 1)])), some (.inl (13, [])), some (.inl (0, [(3, 1)]))], [(0, 399), (1, 400), ((-1), 3), (114, 114)], [], [(1, 3, (0, [(0, 1)])), (1, 4, (0, [(1, 1)]))], (0, []), (0, []), (34, []))
def nd179_14 : bNd := (17, [some (.inr (.inl (.ref 1))), some (.inr (.inl (.retAddr 0))), some (.inl (2, [])), some (.inl (0, [(2, 1)])), some (.inl (14, [])), some (.inl (0, [(3, 1)]))], [(0, 399), (1, 400), ((-1), 4), (115, 115)], [], [(1, 3, (0, [(0, 1)])), (1, 4, (0, [(1, 1)]))], (0, []), (0, []), (33, []))
def nd179_15 : bNd := (17, [some (.inr (.inl (.ref 1))), some (.inr (.inl (.retAddr 0))), some (.inl (2, [])), some (.inl (0, [(2, 1)])), some (.inl (15, [])), some (.inl (0, [(3, 1)]))], [(0, 399), (1, 400), ((-1), 5), (111, 111)], [], [(1, 3, (0, [(0, 1)])), (1, 4, (0, [(1, 1)]))], (0, []), (0, []), (32, []))
def nd179_16 : bNd := (17, [some (.inr (.inl (.ref 1))), some (.inr (.inl (.retAddr 0))), some (.inl (2, [])), some (.inl (0, [(2, 1)])), some (.inl (16, [])), some (.inl (0, [(3, 1)]))], [(0, 399), (1, 400), ((-1), 6), (110, 110)], [], [(1, 3, (0, [(0, 1)])), (1, 4, (0, [(1, 1)]))], (0, []), (0, []), (31, []))
def nd179_17 : bNd := (17, [some (.inr (.inl (.ref 1))), some (.inr (.inl (.retAddr 0))), some (.inl (3, [])), some (.inl (0, [(2, 1)])), some (.inl (17, [])), some (.inl (0, [(3, 1)]))], [(0, 399), (1, 400), (0, 0), (32, 32)], [], [(1, 3, (0, [(0, 1)])), (1, 4, (0, [(1, 1)]))], (0, []), (0, []), (30, []))
def nd179_18 : bNd := (17, [some (.inr (.inl (.ref 1))), some (.inr (.inl (.retAddr 0))), some (.inl (3, [])), some (.inl (0, [(2, 1)])), some (.inl (18, [])), some (.inl (0, [(3, 1)]))], [(0, 399), (1, 400), ((-1), 1), (108, 108)], [], [(1, 3, (0, [(0, 1)])), (1, 4, (0, [(1, 1)]))], (0, []), (0, []), (29, []))
def nd179_19 : bNd := (17, [some (.inr (.inl (.ref 1))), some (.inr (.inl (.retAddr 0))), some (.inl (3, [])), some (.inl (0, [(2, 1)])), some (.inl (19, [])), some (.inl (0, [(3, 1)]))], [(0, 399), (1, 400), ((-1), 2), (111, 111)], [], [(1, 3, (0, [(0, 1)])), (1, 4, (0, [(1, 1)]))], (0, []), (0, []), (28, []))
def nd179_20 : bNd := (17, [some (.inr (.inl (.ref 1))), some (.inr (.inl (.retAddr 0))), some (.inl (3, [])), some (.inl (0, [(2, 1)])), some (.inl (20, [])), some (.inl (0, [(3, 1)]))], [(0, 399), (1, 400), ((-1), 3), (97, 97)], [], [(1, 3, (0, [(0, 1)])), (1, 4, (0, [(1, 1)]))], (0, []), (0, []), (27, []))
def nd179_21 : bNd := (17, [some (.inr (.inl (.ref 1))), some (.inr (.inl (.retAddr 0))), some (.inl (3, [])), some (.inl (0, [(2, 1)])), some (.inl (21, [])), some (.inl (0, [(3, 1)]))], [(0, 399), (1, 400), ((-1), 4), (100, 100)], [], [(1, 3, (0, [(0, 1)])), (1, 4, (0, [(1, 1)]))], (0, []), (0, []), (26, []))
def nd179_22 : bNd := (17, [some (.inr (.inl (.ref 1))), some (.inr (.inl (.retAddr 0))), some (.inl (4, [])), some (.inl (0, [(2, 1)])), some (.inl (22, [])), some (.inl (0, [(3, 1)]))], [(0, 399), (1, 400), (0, 0), (32, 32)], [], [(1, 3, (0, [(0, 1)])), (1, 4, (0, [(1, 1)]))], (0, []), (0, []), (25, []))
def nd179_23 : bNd := (17, [some (.inr (.inl (.ref 1))), some (.inr (.inl (.retAddr 0))), some (.inl (4, [])), some (.inl (0, [(2, 1)])), some (.inl (23, [])), some (.inl (0, [(3, 1)]))], [(0, 399), (1, 400), ((-1), 1), (115, 115)], [], [(1, 3, (0, [(0, 1)])), (1, 4, (0, [(1, 1)]))], (0, []), (0, []), (24, []))
def nd179_24 : bNd := (17, [some (.inr (.inl (.ref 1))), some (.inr (.inl (.retAddr 0))), some (.inl (4, [])), some (.inl (0, [(2, 1)])), some (.inl (24, [])), some (.inl (0, [(3, 1)]))], [(0, 399), (1, 400), ((-1), 2), (97, 97)], [], [(1, 3, (0, [(0, 1)])), (1, 4, (0, [(1, 1)]))], (0, []), (0, []), (23, []))
def nd179_25 : bNd := (17, [some (.inr (.inl (.ref 1))), some (.inr (.inl (.retAddr 0))), some (.inl (4, [])), some (.inl (0, [(2, 1)])), some (.inl (25, [])), some (.inl (0, [(3, 1)]))], [(0, 399), (1, 400), ((-1), 3), (110, 110)], [], [(1, 3, (0, [(0, 1)])), (1, 4, (0, [(1, 1)]))], (0, []), (0, []), (22, []))
def nd179_26 : bNd := (17, [some (.inr (.inl (.ref 1))), some (.inr (.inl (.retAddr 0))), some (.inl (4, [])), some (.inl (0, [(2, 1)])), some (.inl (26, [])), some (.inl (0, [(3, 1)]))], [(0, 399), (1, 400), ((-1), 4), (100, 100)], [], [(1, 3, (0, [(0, 1)])), (1, 4, (0, [(1, 1)]))], (0, []), (0, []), (21, []))
def nd179_27 : bNd := (17, [some (.inr (.inl (.ref 1))), some (.inr (.inl (.retAddr 0))), some (.inl (5, [])), some (.inl (0, [(2, 1)])), some (.inl (27, [])), some (.inl (0, [(3, 1)]))], [(0, 399), (1, 400), (0, 0), (32, 32)], [], [(1, 3, (0, [(0, 1)])), (1, 4, (0, [(1, 1)]))], (0, []), (0, []), (20, []))
def nd179_28 : bNd := (17, [some (.inr (.inl (.ref 1))), some (.inr (.inl (.retAddr 0))), some (.inl (5, [])), some (.inl (0, [(2, 1)])), some (.inl (28, [])), some (.inl (0, [(3, 1)]))], [(0, 399), (1, 400), ((-1), 1), (116, 116)], [], [(1, 3, (0, [(0, 1)])), (1, 4, (0, [(1, 1)]))], (0, []), (0, []), (19, []))
def nd179_29 : bNd := (17, [some (.inr (.inl (.ref 1))), some (.inr (.inl (.retAddr 0))), some (.inl (5, [])), some (.inl (0, [(2, 1)])), some (.inl (29, [])), some (.inl (0, [(3, 1)]))], [(0, 399), (1, 400), ((-1), 2), (111, 111)], [], [(1, 3, (0, [(0, 1)])), (1, 4, (0, [(1, 1)]))], (0, []), (0, []), (18, []))
def nd179_30 : bNd := (17, [some (.inr (.inl (.ref 1))), some (.inr (.inl (.retAddr 0))), some (.inl (5, [])), some (.inl (0, [(2, 1)])), some (.inl (30, [])), some (.inl (0, [(3, 1)]))], [(0, 399), (1, 400), ((-1), 3), (111, 111)], [], [(1, 3, (0, [(0, 1)])), (1, 4, (0, [(1, 1)]))], (0, []), (0, []), (17, []))
def nd179_31 : bNd := (17, [some (.inr (.inl (.ref 1))), some (.inr (.inl (.retAddr 0))), some (.inl (5, [])), some (.inl (0, [(2, 1)])), some (.inl (31, [])), some (.inl (0, [(3, 1)]))], [(0, 399), (1, 400), ((-1), 4), (108, 108)], [], [(1, 3, (0, [(0, 1)])), (1, 4, (0, [(1, 1)]))], (0, []), (0, []), (16, []))
def nd179_32 : bNd := (17, [some (.inr (.inl (.ref 1))), some (.inr (.inl (.retAddr 0))), some (.inl (6, [])), some (.inl (0, [(2, 1)])), some (.inl (32, [])), some (.inl (0, [(3, 1)]))], [(0, 399), (1, 400), (0, 0), (32, 32)], [], [(1, 3, (0, [(0, 1)])), (1, 4, (0, [(1, 1)]))], (0, []), (0, []), (15, []))
def nd179_33 : bNd := (17, [some (.inr (.inl (.ref 1))), some (.inr (.inl (.retAddr 0))), some (.inl (6, [])), some (.inl (0, [(2, 1)])), some (.inl (33, [])), some (.inl (0, [(3, 1)]))], [(0, 399), (1, 400), ((-1), 1), (107, 107)], [], [(1, 3, (0, [(0, 1)])), (1, 4, (0, [(1, 1)]))], (0, []), (0, []), (14, []))
def nd179_34 : bNd := (17, [some (.inr (.inl (.ref 1))), some (.inr (.inl (.retAddr 0))), some (.inl (6, [])), some (.inl (0, [(2, 1)])), some (.inl (34, [])), some (.inl (0, [(3, 1)]))], [(0, 399), (1, 400), ((-1), 2), (101, 101)], [], [(1, 3, (0, [(0, 1)])), (1, 4, (0, [(1, 1)]))], (0, []), (0, []), (13, []))
def nd179_35 : bNd := (17, [some (.inr (.inl (.ref 1))), some (.inr (.inl (.retAddr 0))), some (.inl (6, [])), some (.inl (0, [(2, 1)])), some (.inl (35, [])), some (.inl (0, [(3, 1)]))], [(0, 399), (1, 400), ((-1), 3), (101, 101)], [], [(1, 3, (0, [(0, 1)])), (1, 4, (0, [(1, 1)]))], (0, []), (0, []), (12, []))
def nd179_36 : bNd := (17, [some (.inr (.inl (.ref 1))), some (.inr (.inl (.retAddr 0))), some (.inl (6, [])), some (.inl (0, [(2, 1)])), some (.inl (36, [])), some (.inl (0, [(3, 1)]))], [(0, 399), (1, 400), ((-1), 4), (112, 112)], [], [(1, 3, (0, [(0, 1)])), (1, 4, (0, [(1, 1)]))], (0, []), (0, []), (11, []))
def nd179_37 : bNd := (17, [some (.inr (.inl (.ref 1))), some (.inr (.inl (.retAddr 0))), some (.inl (6, [])), some (.inl (0, [(2, 1)])), some (.inl (37, [])), some (.inl (0, [(3, 1)]))], [(0, 399), (1, 400), ((-1), 5), (115, 115)], [], [(1, 3, (0, [(0, 1)])), (1, 4, (0, [(1, 1)]))], (0, []), (0, []), (10, []))
def nd179_38 : bNd := (17, [some (.inr (.inl (.ref 1))), some (.inr (.inl (.retAddr 0))), some (.inl (7, [])), some (.inl (0, [(2, 1)])), some (.inl (38, [])), some (.inl (0, [(3, 1)]))], [(0, 399), (1, 400), (0, 0), (32, 32)], [], [(1, 3, (0, [(0, 1)])), (1, 4, (0, [(1, 1)]))], (0, []), (0, []), (9, []))
def nd179_39 : bNd := (17, [some (.inr (.inl (.ref 1))), some (.inr (.inl (.retAddr 0))), some (.inl (7, [])), some (.inl (0, [(2, 1)])), some (.inl (39, [])), some (.inl (0, [(3, 1)]))], [(0, 399), (1, 400), ((-1), 1), (119, 119)], [], [(1, 3, (0, [(0, 1)])), (1, 4, (0, [(1, 1)]))], (0, []), (0, []), (8, []))
def nd179_40 : bNd := (17, [some (.inr (.inl (.ref 1))), some (.inr (.inl (.retAddr 0))), some (.inl (7, [])), some (.inl (0, [(2, 1)])), some (.inl (40, [])), some (.inl (0, [(3, 1)]))], [(0, 399), (1, 400), ((-1), 2), (101, 101)], [], [(1, 3, (0, [(0, 1)])), (1, 4, (0, [(1, 1)]))], (0, []), (0, []), (7, []))
def nd179_41 : bNd := (17, [some (.inr (.inl (.ref 1))), some (.inr (.inl (.retAddr 0))), some (.inl (7, [])), some (.inl (0, [(2, 1)])), some (.inl (41, [])), some (.inl (0, [(3, 1)]))], [(0, 399), (1, 400), ((-1), 3), (116, 116)], [], [(1, 3, (0, [(0, 1)])), (1, 4, (0, [(1, 1)]))], (0, []), (0, []), (6, []))
def nd179_42 : bNd := (17, [some (.inr (.inl (.ref 1))), some (.inr (.inl (.retAddr 0))), some (.inl (8, [])), some (.inl (0, [(2, 1)])), some (.inl (42, [])), some (.inl (0, [(3, 1)]))], [(0, 399), (1, 400), (0, 0), (32, 32)], [], [(1, 3, (0, [(0, 1)])), (1, 4, (0, [(1, 1)]))], (0, []), (0, []), (5, []))
def nd179_43 : bNd := (17, [some (.inr (.inl (.ref 1))), some (.inr (.inl (.retAddr 0))), some (.inl (8, [])), some (.inl (0, [(2, 1)])), some (.inl (43, [])), some (.inl (0, [(3, 1)]))], [(0, 399), (1, 400), ((-1), 1), (99, 99)], [], [(1, 3, (0, [(0, 1)])), (1, 4, (0, [(1, 1)]))], (0, []), (0, []), (4, []))
def nd179_44 : bNd := (17, [some (.inr (.inl (.ref 1))), some (.inr (.inl (.retAddr 0))), some (.inl (8, [])), some (.inl (0, [(2, 1)])), some (.inl (44, [])), some (.inl (0, [(3, 1)]))], [(0, 399), (1, 400), ((-1), 2), (108, 108)], [], [(1, 3, (0, [(0, 1)])), (1, 4, (0, [(1, 1)]))], (0, []), (0, []), (3, []))
def nd179_45 : bNd := (17, [some (.inr (.inl (.ref 1))), some (.inr (.inl (.retAddr 0))), some (.inl (8, [])), some (.inl (0, [(2, 1)])), some (.inl (45, [])), some (.inl (0, [(3, 1)]))], [(0, 399), (1, 400), ((-1), 3), (111, 111)], [], [(1, 3, (0, [(0, 1)])), (1, 4, (0, [(1, 1)]))], (0, []), (0, []), (2, []))
def nd179_46 : bNd := (17, [some (.inr (.inl (.ref 1))), some (.inr (.inl (.retAddr 0))), some (.inl (8, [])), some (.inl (0, [(2, 1)])), some (.inl (46, [])), some (.inl (0, [(3, 1)]))], [(0, 399), (1, 400), ((-1), 4), (103, 103)], [], [(1, 3, (0, [(0, 1)])), (1, 4, (0, [(1, 1)]))], (0, []), (0, []), (1, []))
def nd179_47 : bNd := (17, [some (.inr (.inl (.ref 1))), some (.inr (.inl (.retAddr 0))), some (.inl (9, [])), some (.inl (0, [(2, 1)])), some (.inl (47, [])), some (.inl (0, [(3, 1)]))], [(0, 399), (1, 400), (0, 0), (32, 32)], [], [(1, 3, (0, [(0, 1)])), (1, 4, (0, [(1, 1)]))], (0, []), (0, []), (0, []))
/-- S$Tape wordAmong -/
def nl179 : List bNd := [nd179_0, nd179_1, nd179_2, nd179_3, nd179_4, nd179_5, nd179_6, nd179_7, nd179_8, nd179_9, nd179_10, nd179_11, nd179_12, nd179_13, nd179_14, nd179_15, nd179_16, nd179_17, nd179_18, nd179_19, nd179_20, nd179_21, nd179_22, nd179_23, nd179_24, nd179_25, nd179_26, nd179_27, nd179_28, nd179_29, nd179_30, nd179_31, nd179_32, nd179_33, nd179_34, nd179_35, nd179_36, nd179_37, nd179_38, nd179_39, nd179_40, nd179_41, nd179_42, nd179_43, nd179_44, nd179_45, nd179_46, nd179_47]
set_option maxRecDepth 100000 in
theorem ke179 : bke (0, smT) ctb 185 sc179 49 100000 nl179 = true := by decide +kernel
set_option maxRecDepth 100000 in
theorem kn179_0 : bkn (0, smT) ctb 185 sc179 100000 nl179 nd179_0 = true := by decide +kernel
set_option maxRecDepth 100000 in
theorem kn179_1 : bkn (0, smT) ctb 185 sc179 100000 nl179 nd179_1 = true := by decide +kernel
set_option maxRecDepth 100000 in
theorem kn179_2 : bkn (0, smT) ctb 185 sc179 100000 nl179 nd179_2 = true := by decide +kernel
set_option maxRecDepth 100000 in
theorem kn179_3 : bkn (0, smT) ctb 185 sc179 100000 nl179 nd179_3 = true := by decide +kernel
set_option maxRecDepth 100000 in
theorem kn179_4 : bkn (0, smT) ctb 185 sc179 100000 nl179 nd179_4 = true := by decide +kernel
set_option maxRecDepth 100000 in
theorem kn179_5 : bkn (0, smT) ctb 185 sc179 100000 nl179 nd179_5 = true := by decide +kernel
set_option maxRecDepth 100000 in
theorem kn179_6 : bkn (0, smT) ctb 185 sc179 100000 nl179 nd179_6 = true := by decide +kernel
set_option maxRecDepth 100000 in
theorem kn179_7 : bkn (0, smT) ctb 185 sc179 100000 nl179 nd179_7 = true := by decide +kernel
set_option maxRecDepth 100000 in
theorem kn179_8 : bkn (0, smT) ctb 185 sc179 100000 nl179 nd179_8 = true := by decide +kernel
set_option maxRecDepth 100000 in
theorem kn179_9 : bkn (0, smT) ctb 185 sc179 100000 nl179 nd179_9 = true := by decide +kernel
set_option maxRecDepth 100000 in
theorem kn179_10 : bkn (0, smT) ctb 185 sc179 100000 nl179 nd179_10 = true := by decide +kernel
set_option maxRecDepth 100000 in
theorem kn179_11 : bkn (0, smT) ctb 185 sc179 100000 nl179 nd179_11 = true := by decide +kernel
set_option maxRecDepth 100000 in
theorem kn179_12 : bkn (0, smT) ctb 185 sc179 100000 nl179 nd179_12 = true := by decide +kernel
set_option maxRecDepth 100000 in
theorem kn179_13 : bkn (0, smT) ctb 185 sc179 100000 nl179 nd179_13 = true := by decide +kernel
set_option maxRecDepth 100000 in
theorem kn179_14 : bkn (0, smT) ctb 185 sc179 100000 nl179 nd179_14 = true := by decide +kernel
set_option maxRecDepth 100000 in
theorem kn179_15 : bkn (0, smT) ctb 185 sc179 100000 nl179 nd179_15 = true := by decide +kernel
set_option maxRecDepth 100000 in
theorem kn179_16 : bkn (0, smT) ctb 185 sc179 100000 nl179 nd179_16 = true := by decide +kernel
set_option maxRecDepth 100000 in
theorem kn179_17 : bkn (0, smT) ctb 185 sc179 100000 nl179 nd179_17 = true := by decide +kernel
set_option maxRecDepth 100000 in
theorem kn179_18 : bkn (0, smT) ctb 185 sc179 100000 nl179 nd179_18 = true := by decide +kernel
set_option maxRecDepth 100000 in
theorem kn179_19 : bkn (0, smT) ctb 185 sc179 100000 nl179 nd179_19 = true := by decide +kernel
set_option maxRecDepth 100000 in
theorem kn179_20 : bkn (0, smT) ctb 185 sc179 100000 nl179 nd179_20 = true := by decide +kernel
set_option maxRecDepth 100000 in
theorem kn179_21 : bkn (0, smT) ctb 185 sc179 100000 nl179 nd179_21 = true := by decide +kernel
set_option maxRecDepth 100000 in
theorem kn179_22 : bkn (0, smT) ctb 185 sc179 100000 nl179 nd179_22 = true := by decide +kernel
set_option maxRecDepth 100000 in
theorem kn179_23 : bkn (0, smT) ctb 185 sc179 100000 nl179 nd179_23 = true := by decide +kernel
set_option maxRecDepth 100000 in
theorem kn179_24 : bkn (0, smT) ctb 185 sc179 100000 nl179 nd179_24 = true := by decide +kernel
set_option maxRecDepth 100000 in
theorem kn179_25 : bkn (0, smT) ctb 185 sc179 100000 nl179 nd179_25 = true := by decide +kernel
set_option maxRecDepth 100000 in
theorem kn179_26 : bkn (0, smT) ctb 185 sc179 100000 nl179 nd179_26 = true := by decide +kernel
set_option maxRecDepth 100000 in
theorem kn179_27 : bkn (0, smT) ctb 185 sc179 100000 nl179 nd179_27 = true := by decide +kernel
set_option maxRecDepth 100000 in
theorem kn179_28 : bkn (0, smT) ctb 185 sc179 100000 nl179 nd179_28 = true := by decide +kernel
set_option maxRecDepth 100000 in
theorem kn179_29 : bkn (0, smT) ctb 185 sc179 100000 nl179 nd179_29 = true := by decide +kernel
set_option maxRecDepth 100000 in
theorem kn179_30 : bkn (0, smT) ctb 185 sc179 100000 nl179 nd179_30 = true := by decide +kernel
set_option maxRecDepth 100000 in
theorem kn179_31 : bkn (0, smT) ctb 185 sc179 100000 nl179 nd179_31 = true := by decide +kernel
set_option maxRecDepth 100000 in
theorem kn179_32 : bkn (0, smT) ctb 185 sc179 100000 nl179 nd179_32 = true := by decide +kernel
set_option maxRecDepth 100000 in
theorem kn179_33 : bkn (0, smT) ctb 185 sc179 100000 nl179 nd179_33 = true := by decide +kernel
set_option maxRecDepth 100000 in
theorem kn179_34 : bkn (0, smT) ctb 185 sc179 100000 nl179 nd179_34 = true := by decide +kernel
set_option maxRecDepth 100000 in
theorem kn179_35 : bkn (0, smT) ctb 185 sc179 100000 nl179 nd179_35 = true := by decide +kernel
set_option maxRecDepth 100000 in
theorem kn179_36 : bkn (0, smT) ctb 185 sc179 100000 nl179 nd179_36 = true := by decide +kernel
set_option maxRecDepth 100000 in
theorem kn179_37 : bkn (0, smT) ctb 185 sc179 100000 nl179 nd179_37 = true := by decide +kernel
set_option maxRecDepth 100000 in
theorem kn179_38 : bkn (0, smT) ctb 185 sc179 100000 nl179 nd179_38 = true := by decide +kernel
set_option maxRecDepth 100000 in
theorem kn179_39 : bkn (0, smT) ctb 185 sc179 100000 nl179 nd179_39 = true := by decide +kernel
set_option maxRecDepth 100000 in
theorem kn179_40 : bkn (0, smT) ctb 185 sc179 100000 nl179 nd179_40 = true := by decide +kernel
set_option maxRecDepth 100000 in
theorem kn179_41 : bkn (0, smT) ctb 185 sc179 100000 nl179 nd179_41 = true := by decide +kernel
set_option maxRecDepth 100000 in
theorem kn179_42 : bkn (0, smT) ctb 185 sc179 100000 nl179 nd179_42 = true := by decide +kernel
set_option maxRecDepth 100000 in
theorem kn179_43 : bkn (0, smT) ctb 185 sc179 100000 nl179 nd179_43 = true := by decide +kernel
set_option maxRecDepth 100000 in
theorem kn179_44 : bkn (0, smT) ctb 185 sc179 100000 nl179 nd179_44 = true := by decide +kernel
set_option maxRecDepth 100000 in
theorem kn179_45 : bkn (0, smT) ctb 185 sc179 100000 nl179 nd179_45 = true := by decide +kernel
set_option maxRecDepth 100000 in
theorem kn179_46 : bkn (0, smT) ctb 185 sc179 100000 nl179 nd179_46 = true := by decide +kernel
set_option maxRecDepth 100000 in
theorem kn179_47 : bkn (0, smT) ctb 185 sc179 100000 nl179 nd179_47 = true := by decide +kernel
/-- S$Tape wordAmong -/
def nl180 : List bNd := []
set_option maxRecDepth 100000 in
theorem ke180 : bke (0, smT) ctb 185 sc180 0 100000 nl180 = true := by decide +kernel
/-- S$Tape wordAmong -/
def nl181 : List bNd := []
set_option maxRecDepth 100000 in
theorem ke181 : bke (0, smT) ctb 185 sc181 0 100000 nl181 = true := by decide +kernel
def nd182_0 : bNd := (17, [some (.inr (.inl (.ref 1))), some (.inr (.inl (.retAddr 4))), some (.inl (0, [])), some (.inl (0, [(2, 1)])), some (.inl (0, [])), none], [(0, 399), (1, 400), (0, 0)], [], [(1, 3, (0, [(0, 1)])), (1, 4, (0, [(1, 1)]))], (0, []), (0, []), (22, []))
def nd182_1 : bNd := (17, [some (.inr (.inl (.ref 1))), some (.inr (.inl (.retAddr 4))), some (.inl (0, [])), some (.inl (0, [(2, 1)])), some (.inl (1, [])), some (.inl (0, [(3, 1)]))], [(0, 399), (1, 400), ((-1), 1), (98, 98)], [], [(1, 3, (0, [(0, 1)])), (1, 4, (0, [(1, 1)]))], (0, []), (0, []), (21, []))
def nd182_2 : bNd := (17, [some (.inr (.inl (.ref 1))), some (.inr (.inl (.retAddr 4))), some (.inl (0, [])), some (.inl (0, [(2, 1)])), some (.inl (2, [])), some (.inl (0, [(3, 1)]))], [(0, 399), (1, 400), ((-1), 2), (114, 114)], [], [(1, 3, (0, [(0, 1)])), (1, 4, (0, [(1, 1)]))], (0, []), (0, []), (20, []))
def nd182_3 : bNd := (17, [some (.inr (.inl (.ref 1))), some (.inr (.inl (.retAddr 4))), some (.inl (0, [])), some (.inl (0, [(2, 1)])), some (.inl (3, [])), some (.inl (0, [(3, 1)]))], [(0, 399), (1, 400), ((-1), 3), (105, 105)], [], [(1, 3, (0, [(0, 1)])), (1, 4, (0, [(1, 1)]))], (0, []), (0, []), (19, []))
def nd182_4 : bNd := (17, [some (.inr (.inl (.ref 1))), some (.inr (.inl (.retAddr 4))), some (.inl (0, [])), some (.inl (0, [(2, 1)])), some (.inl (4, [])), some (.inl (0, [(3, 1)]))], [(0, 399), (1, 400), ((-1), 4), (110, 110)], [], [(1, 3, (0, [(0, 1)])), (1, 4, (0, [(1, 1)]))], (0, []), (0, []), (18, []))
def nd182_5 : bNd := (17, [some (.inr (.inl (.ref 1))), some (.inr (.inl (.retAddr 4))), some (.inl (0, [])), some (.inl (0, [(2, 1)])), some (.inl (5, [])), some (.inl (0, [(3, 1)]))], [(0, 399), (1, 400), ((-1), 5), (103, 103)], [], [(1, 3, (0, [(0, 1)])), (1, 4, (0, [(1, 1)]))], (0, []), (0, []), (17, []))
def nd182_6 : bNd := (17, [some (.inr (.inl (.ref 1))), some (.inr (.inl (.retAddr 4))), some (.inl (1, [])), some (.inl (0, [(2, 1)])), some (.inl (6, [])), some (.inl (0, [(3, 1)]))], [(0, 399), (1, 400), (0, 0), (32, 32)], [], [(1, 3, (0, [(0, 1)])), (1, 4, (0, [(1, 1)]))], (0, []), (0, []), (16, []))
def nd182_7 : bNd := (17, [some (.inr (.inl (.ref 1))), some (.inr (.inl (.retAddr 4))), some (.inl (1, [])), some (.inl (0, [(2, 1)])), some (.inl (7, [])), some (.inl (0, [(3, 1)]))], [(0, 399), (1, 400), ((-1), 1), (100, 100)], [], [(1, 3, (0, [(0, 1)])), (1, 4, (0, [(1, 1)]))], (0, []), (0, []), (15, []))
def nd182_8 : bNd := (17, [some (.inr (.inl (.ref 1))), some (.inr (.inl (.retAddr 4))), some (.inl (1, [])), some (.inl (0, [(2, 1)])), some (.inl (8, [])), some (.inl (0, [(3, 1)]))], [(0, 399), (1, 400), ((-1), 2), (114, 114)], [], [(1, 3, (0, [(0, 1)])), (1, 4, (0, [(1, 1)]))], (0, []), (0, []), (14, []))
def nd182_9 : bNd := (17, [some (.inr (.inl (.ref 1))), some (.inr (.inl (.retAddr 4))), some (.inl (1, [])), some (.inl (0, [(2, 1)])), some (.inl (9, [])), some (.inl (0, [(3, 1)]))], [(0, 399), (1, 400), ((-1), 3), (111, 111)], [], [(1, 3, (0, [(0, 1)])), (1, 4, (0, [(1, 1)]))], (0, []), (0, []), (13, []))
def nd182_10 : bNd := (17, [some (.inr (.inl (.ref 1))), some (.inr (.inl (.retAddr 4))), some (.inl (1, [])), some (.inl (0, [(2, 1)])), some (.inl (10, [])), some (.inl (0, [(3, 1)]))], [(0, 399), (1, 400), ((-1), 4), (112, 112)], [], [(1, 3, (0, [(0, 1)])), (1, 4, (0, [(1, 1)]))], (0, []), (0, []), (12, []))
def nd182_11 : bNd := (17, [some (.inr (.inl (.ref 1))), some (.inr (.inl (.retAddr 4))), some (.inl (2, [])), some (.inl (0, [(2, 1)])), some (.inl (11, [])), some (.inl (0, [(3, 1)]))], [(0, 399), (1, 400), (0, 0), (32, 32)], [], [(1, 3, (0, [(0, 1)])), (1, 4, (0, [(1, 1)]))], (0, []), (0, []), (11, []))
def nd182_12 : bNd := (17, [some (.inr (.inl (.ref 1))), some (.inr (.inl (.retAddr 4))), some (.inl (2, [])), some (.inl (0, [(2, 1)])), some (.inl (12, [])), some (.inl (0, [(3, 1)]))], [(0, 399), (1, 400), ((-1), 1), (112, 112)], [], [(1, 3, (0, [(0, 1)])), (1, 4, (0, [(1, 1)]))], (0, []), (0, []), (10, []))
def nd182_13 : bNd := (17, [some (.inr (.inl (.ref 1))), some (.inr (.inl (.retAddr 4))), some (.inl (2, [])), some (.inl (0, [(2, 1)])), some (.inl (13, [])), some (.inl (0, [(3, 1)]))], [(0, 399), (1, 400), ((-1), 2), (105, 105)], [], [(1, 3, (0, [(0, 1)])), (1, 4, (0, [(1, 1)]))], (0, []), (0, []), (9, []))
def nd182_14 : bNd := (17, [some (.inr (.inl (.ref 1))), some (.inr (.inl (.retAddr 4))), some (.inl (2, [])), some (.inl (0, [(2, 1)])), some (.inl (14, [])), some (.inl (0, [(3, 1)]))], [(0, 399), (1, 400), ((-1), 3), (99, 99)], [], [(1, 3, (0, [(0, 1)])), (1, 4, (0, [(1, 1)]))], (0, []), (0, []), (8, []))
def nd182_15 : bNd := (17, [some (.inr (.inl (.ref 1))), some (.inr (.inl (.retAddr 4))), some (.inl (2, [])), some (.inl (0, [(2, 1)])), some (.inl (15, [])), some (.inl (0, [(3, 1)]))], [(0, 399), (1, 400), ((-1), 4), (107, 107)], [], [(1, 3, (0, [(0, 1)])), (1, 4, (0, [(1, 1)]))], (0, []), (0, []), (7, []))
def nd182_16 : bNd := (17, [some (.inr (.inl (.ref 1))), some (.inr (.inl (.retAddr 4))), some (.inl (3, [])), some (.inl (0, [(2, 1)])), some (.inl (16, [])), some (.inl (0, [(3, 1)]))], [(0, 399), (1, 400), (0, 0), (32, 32)], [], [(1, 3, (0, [(0, 1)])), (1, 4, (0, [(1, 1)]))], (0, []), (0, []), (6, []))
def nd182_17 : bNd := (17, [some (.inr (.inl (.ref 1))), some (.inr (.inl (.retAddr 4))), some (.inl (3, [])), some (.inl (0, [(2, 1)])), some (.inl (17, [])), some (.inl (0, [(3, 1)]))], [(0, 399), (1, 400), ((-1), 1), (115, 115)], [], [(1, 3, (0, [(0, 1)])), (1, 4, (0, [(1, 1)]))], (0, []), (0, []), (5, []))
def nd182_18 : bNd := (17, [some (.inr (.inl (.ref 1))), some (.inr (.inl (.retAddr 4))), some (.inl (3, [])), some (.inl (0, [(2, 1)])), some (.inl (18, [])), some (.inl (0, [(3, 1)]))], [(0, 399), (1, 400), ((-1), 2), (119, 119)], [], [(1, 3, (0, [(0, 1)])), (1, 4, (0, [(1, 1)]))], (0, []), (0, []), (4, []))
def nd182_19 : bNd := (17, [some (.inr (.inl (.ref 1))), some (.inr (.inl (.retAddr 4))), some (.inl (3, [])), some (.inl (0, [(2, 1)])), some (.inl (19, [])), some (.inl (0, [(3, 1)]))], [(0, 399), (1, 400), ((-1), 3), (101, 101)], [], [(1, 3, (0, [(0, 1)])), (1, 4, (0, [(1, 1)]))], (0, []), (0, []), (3, []))
def nd182_20 : bNd := (17, [some (.inr (.inl (.ref 1))), some (.inr (.inl (.retAddr 4))), some (.inl (3, [])), some (.inl (0, [(2, 1)])), some (.inl (20, [])), some (.inl (0, [(3, 1)]))], [(0, 399), (1, 400), ((-1), 4), (101, 101)], [], [(1, 3, (0, [(0, 1)])), (1, 4, (0, [(1, 1)]))], (0, []), (0, []), (2, []))
def nd182_21 : bNd := (17, [some (.inr (.inl (.ref 1))), some (.inr (.inl (.retAddr 4))), some (.inl (3, [])), some (.inl (0, [(2, 1)])), some (.inl (21, [])), some (.inl (0, [(3, 1)]))], [(0, 399), (1, 400), ((-1), 5), (112, 112)], [], [(1, 3, (0, [(0, 1)])), (1, 4, (0, [(1, 1)]))], (0, []), (0, []), (1, []))
def nd182_22 : bNd := (17, [some (.inr (.inl (.ref 1))), some (.inr (.inl (.retAddr 4))), some (.inl (4, [])), some (.inl (0, [(2, 1)])), some (.inl (22, [])), some (.inl (0, [(3, 1)]))], [(0, 399), (1, 400), (0, 0), (32, 32)], [], [(1, 3, (0, [(0, 1)])), (1, 4, (0, [(1, 1)]))], (0, []), (0, []), (0, []))
/-- S$Tape wordAmong -/
def nl182 : List bNd := [nd182_0, nd182_1, nd182_2, nd182_3, nd182_4, nd182_5, nd182_6, nd182_7, nd182_8, nd182_9, nd182_10, nd182_11, nd182_12, nd182_13, nd182_14, nd182_15, nd182_16, nd182_17, nd182_18, nd182_19, nd182_20, nd182_21, nd182_22]
set_option maxRecDepth 100000 in
theorem ke182 : bke (0, smT) ctb 185 sc182 24 100000 nl182 = true := by decide +kernel
set_option maxRecDepth 100000 in
theorem kn182_0 : bkn (0, smT) ctb 185 sc182 100000 nl182 nd182_0 = true := by decide +kernel
set_option maxRecDepth 100000 in
theorem kn182_1 : bkn (0, smT) ctb 185 sc182 100000 nl182 nd182_1 = true := by decide +kernel
set_option maxRecDepth 100000 in
theorem kn182_2 : bkn (0, smT) ctb 185 sc182 100000 nl182 nd182_2 = true := by decide +kernel
set_option maxRecDepth 100000 in
theorem kn182_3 : bkn (0, smT) ctb 185 sc182 100000 nl182 nd182_3 = true := by decide +kernel
set_option maxRecDepth 100000 in
theorem kn182_4 : bkn (0, smT) ctb 185 sc182 100000 nl182 nd182_4 = true := by decide +kernel
set_option maxRecDepth 100000 in
theorem kn182_5 : bkn (0, smT) ctb 185 sc182 100000 nl182 nd182_5 = true := by decide +kernel
set_option maxRecDepth 100000 in
theorem kn182_6 : bkn (0, smT) ctb 185 sc182 100000 nl182 nd182_6 = true := by decide +kernel
set_option maxRecDepth 100000 in
theorem kn182_7 : bkn (0, smT) ctb 185 sc182 100000 nl182 nd182_7 = true := by decide +kernel
set_option maxRecDepth 100000 in
theorem kn182_8 : bkn (0, smT) ctb 185 sc182 100000 nl182 nd182_8 = true := by decide +kernel
set_option maxRecDepth 100000 in
theorem kn182_9 : bkn (0, smT) ctb 185 sc182 100000 nl182 nd182_9 = true := by decide +kernel
set_option maxRecDepth 100000 in
theorem kn182_10 : bkn (0, smT) ctb 185 sc182 100000 nl182 nd182_10 = true := by decide +kernel
set_option maxRecDepth 100000 in
theorem kn182_11 : bkn (0, smT) ctb 185 sc182 100000 nl182 nd182_11 = true := by decide +kernel
set_option maxRecDepth 100000 in
theorem kn182_12 : bkn (0, smT) ctb 185 sc182 100000 nl182 nd182_12 = true := by decide +kernel
set_option maxRecDepth 100000 in
theorem kn182_13 : bkn (0, smT) ctb 185 sc182 100000 nl182 nd182_13 = true := by decide +kernel
set_option maxRecDepth 100000 in
theorem kn182_14 : bkn (0, smT) ctb 185 sc182 100000 nl182 nd182_14 = true := by decide +kernel
set_option maxRecDepth 100000 in
theorem kn182_15 : bkn (0, smT) ctb 185 sc182 100000 nl182 nd182_15 = true := by decide +kernel
set_option maxRecDepth 100000 in
theorem kn182_16 : bkn (0, smT) ctb 185 sc182 100000 nl182 nd182_16 = true := by decide +kernel
set_option maxRecDepth 100000 in
theorem kn182_17 : bkn (0, smT) ctb 185 sc182 100000 nl182 nd182_17 = true := by decide +kernel
set_option maxRecDepth 100000 in
theorem kn182_18 : bkn (0, smT) ctb 185 sc182 100000 nl182 nd182_18 = true := by decide +kernel
set_option maxRecDepth 100000 in
theorem kn182_19 : bkn (0, smT) ctb 185 sc182 100000 nl182 nd182_19 = true := by decide +kernel
set_option maxRecDepth 100000 in
theorem kn182_20 : bkn (0, smT) ctb 185 sc182 100000 nl182 nd182_20 = true := by decide +kernel
set_option maxRecDepth 100000 in
theorem kn182_21 : bkn (0, smT) ctb 185 sc182 100000 nl182 nd182_21 = true := by decide +kernel
set_option maxRecDepth 100000 in
theorem kn182_22 : bkn (0, smT) ctb 185 sc182 100000 nl182 nd182_22 = true := by decide +kernel
/-- S$Tape wordAmong -/
def nl183 : List bNd := []
set_option maxRecDepth 100000 in
theorem ke183 : bke (0, smT) ctb 185 sc183 0 100000 nl183 = true := by decide +kernel
/-- S$Tape wordAmong -/
def nl184 : List bNd := []
set_option maxRecDepth 100000 in
theorem ke184 : bke (0, smT) ctb 185 sc184 0 100000 nl184 = true := by decide +kernel
/-- S$Tape wordAmong -/
def nl185 : List bNd := []
set_option maxRecDepth 100000 in
theorem ke185 : bke (0, smT) ctb 185 sc185 0 100000 nl185 = true := by decide +kernel
def nd186_0 : bNd := (17, [some (.inr (.inl (.ref 1))), some (.inr (.inl (.retAddr 1))), some (.inl (0, [])), some (.inl (0, [(2, 1)])), some (.inl (0, [])), none], [(0, 399), (1, 400), (0, 0)], [], [(1, 3, (0, [(0, 1)])), (1, 4, (0, [(1, 1)]))], (0, []), (0, []), (27, []))
def nd186_1 : bNd := (17, [some (.inr (.inl (.ref 1))), some (.inr (.inl (.retAddr 1))), some (.inl (0, [])), some (.inl (0, [(2, 1)])), some (.inl (1, [])), some (.inl (0, [(3, 1)]))], [(0, 399), (1, 400), ((-1), 1), (111, 111)], [], [(1, 3, (0, [(0, 1)])), (1, 4, (0, [(1, 1)]))], (0, []), (0, []), (26, []))
def nd186_2 : bNd := (17, [some (.inr (.inl (.ref 1))), some (.inr (.inl (.retAddr 1))), some (.inl (0, [])), some (.inl (0, [(2, 1)])), some (.inl (2, [])), some (.inl (0, [(3, 1)]))], [(0, 399), (1, 400), ((-1), 2), (117, 117)], [], [(1, 3, (0, [(0, 1)])), (1, 4, (0, [(1, 1)]))], (0, []), (0, []), (25, []))
def nd186_3 : bNd := (17, [some (.inr (.inl (.ref 1))), some (.inr (.inl (.retAddr 1))), some (.inl (0, [])), some (.inl (0, [(2, 1)])), some (.inl (3, [])), some (.inl (0, [(3, 1)]))], [(0, 399), (1, 400), ((-1), 3), (116, 116)], [], [(1, 3, (0, [(0, 1)])), (1, 4, (0, [(1, 1)]))], (0, []), (0, []), (24, []))
def nd186_4 : bNd := (17, [some (.inr (.inl (.ref 1))), some (.inr (.inl (.retAddr 1))), some (.inl (1, [])), some (.inl (0, [(2, 1)])), some (.inl (4, [])), some (.inl (0, [(3, 1)]))], [(0, 399), (1, 400), (0, 0), (32, 32)], [], [(1, 3, (0, [(0, 1)])), (1, 4, (0, [(1, 1)]))], (0, []), (0, []), (23, []))
def nd186_5 : bNd := (17, [some (.inr (.inl (.ref 1))), some (.inr (.inl (.retAddr 1))), some (.inl (1, [])), some (.inl (0, [(2, 1)])), some (.inl (5, [])), some (.inl (0, [(3, 1)]))], [(0, 399), (1, 400), ((-1), 1), (115, 115)], [], [(1, 3, (0, [(0, 1)])), (1, 4, (0, [(1, 1)]))], (0, []), (0, []), (22, []))
def nd186_6 : bNd := (17, [some (.inr (.inl (.ref 1))), some (.inr (.inl (.retAddr 1))), some (.inl (1, [])), some (.inl (0, [(2, 1)])), some (.inl (6, [])), some (.inl (0, [(3, 1)]))], [(0, 399), (1, 400), ((-1), 2), (116, 116)], [], [(1, 3, (0, [(0, 1)])), (1, 4, (0, [(1, 1)]))], (0, []), (0, []), (21, []))
def nd186_7 : bNd := (17, [some (.inr (.inl (.ref 1))), some (.inr (.inl (.retAddr 1))), some (.inl (1, [])), some (.inl (0, [(2, 1)])), some (.inl (7, [])), some (.inl (0, [(3, 1)]))], [(0, 399), (1, 400), ((-1), 3), (111, 111)], [], [(1, 3, (0, [(0, 1)])), (1, 4, (0, [(1, 1)]))], (0, []), (0, []), (20, []))
def nd186_8 : bNd := (17, [some (.inr (.inl (.ref 1))), some (.inr (.inl (.retAddr 1))), some (.inl (1, [])), some (.inl (0, [(2, 1)])), some (.inl (8, [])), some (.inl (0, [(3, 1)]))], [(0, 399), (1, 400), ((-1), 4), (110, 110)], [], [(1, 3, (0, [(0, 1)])), (1, 4, (0, [(1, 1)]))], (0, []), (0, []), (19, []))
def nd186_9 : bNd := (17, [some (.inr (.inl (.ref 1))), some (.inr (.inl (.retAddr 1))), some (.inl (1, [])), some (.inl (0, [(2, 1)])), some (.inl (9, [])), some (.inl (0, [(3, 1)]))], [(0, 399), (1, 400), ((-1), 5), (101, 101)], [], [(1, 3, (0, [(0, 1)])), (1, 4, (0, [(1, 1)]))], (0, []), (0, []), (18, []))
def nd186_10 : bNd := (17, [some (.inr (.inl (.ref 1))), some (.inr (.inl (.retAddr 1))), some (.inl (2, [])), some (.inl (0, [(2, 1)])), some (.inl (10, [])), some (.inl (0, [(3, 1)]))], [(0, 399), (1, 400), (0, 0), (32, 32)], [], [(1, 3, (0, [(0, 1)])), (1, 4, (0, [(1, 1)]))], (0, []), (0, []), (17, []))
def nd186_11 : bNd := (17, [some (.inr (.inl (.ref 1))), some (.inr (.inl (.retAddr 1))), some (.inl (2, [])), some (.inl (0, [(2, 1)])), some (.inl (11, [])), some (.inl (0, [(3, 1)]))], [(0, 399), (1, 400), ((-1), 1), (99, 99)], [], [(1, 3, (0, [(0, 1)])), (1, 4, (0, [(1, 1)]))], (0, []), (0, []), (16, []))
def nd186_12 : bNd := (17, [some (.inr (.inl (.ref 1))), some (.inr (.inl (.retAddr 1))), some (.inl (2, [])), some (.inl (0, [(2, 1)])), some (.inl (12, [])), some (.inl (0, [(3, 1)]))], [(0, 399), (1, 400), ((-1), 2), (97, 97)], [], [(1, 3, (0, [(0, 1)])), (1, 4, (0, [(1, 1)]))], (0, []), (0, []), (15, []))
def nd186_13 : bNd := (17, [some (.inr (.inl (.ref 1))), some (.inr (.inl (.retAddr 1))), some (.inl (2, [])), some (.inl (0, [(2, 1)])), some (.inl (13, [])), some (.inl (0, [(3, 1)]))], [(0, 399), (1, 400), ((-1), 3), (114, 114)], [], [(1, 3, (0, [(0, 1)])), (1, 4, (0, [(1, 1)]))], (0, []), (0, []), (14, []))
def nd186_14 : bNd := (17, [some (.inr (.inl (.ref 1))), some (.inr (.inl (.retAddr 1))), some (.inl (2, [])), some (.inl (0, [(2, 1)])), some (.inl (14, [])), some (.inl (0, [(3, 1)]))], [(0, 399), (1, 400), ((-1), 4), (112, 112)], [], [(1, 3, (0, [(0, 1)])), (1, 4, (0, [(1, 1)]))], (0, []), (0, []), (13, []))
def nd186_15 : bNd := (17, [some (.inr (.inl (.ref 1))), some (.inr (.inl (.retAddr 1))), some (.inl (2, [])), some (.inl (0, [(2, 1)])), some (.inl (15, [])), some (.inl (0, [(3, 1)]))], [(0, 399), (1, 400), ((-1), 5), (101, 101)], [], [(1, 3, (0, [(0, 1)])), (1, 4, (0, [(1, 1)]))], (0, []), (0, []), (12, []))
def nd186_16 : bNd := (17, [some (.inr (.inl (.ref 1))), some (.inr (.inl (.retAddr 1))), some (.inl (2, [])), some (.inl (0, [(2, 1)])), some (.inl (16, [])), some (.inl (0, [(3, 1)]))], [(0, 399), (1, 400), ((-1), 6), (116, 116)], [], [(1, 3, (0, [(0, 1)])), (1, 4, (0, [(1, 1)]))], (0, []), (0, []), (11, []))
def nd186_17 : bNd := (17, [some (.inr (.inl (.ref 1))), some (.inr (.inl (.retAddr 1))), some (.inl (3, [])), some (.inl (0, [(2, 1)])), some (.inl (17, [])), some (.inl (0, [(3, 1)]))], [(0, 399), (1, 400), (0, 0), (32, 32)], [], [(1, 3, (0, [(0, 1)])), (1, 4, (0, [(1, 1)]))], (0, []), (0, []), (10, []))
def nd186_18 : bNd := (17, [some (.inr (.inl (.ref 1))), some (.inr (.inl (.retAddr 1))), some (.inl (3, [])), some (.inl (0, [(2, 1)])), some (.inl (18, [])), some (.inl (0, [(3, 1)]))], [(0, 399), (1, 400), ((-1), 1), (98, 98)], [], [(1, 3, (0, [(0, 1)])), (1, 4, (0, [(1, 1)]))], (0, []), (0, []), (9, []))
def nd186_19 : bNd := (17, [some (.inr (.inl (.ref 1))), some (.inr (.inl (.retAddr 1))), some (.inl (3, [])), some (.inl (0, [(2, 1)])), some (.inl (19, [])), some (.inl (0, [(3, 1)]))], [(0, 399), (1, 400), ((-1), 2), (101, 101)], [], [(1, 3, (0, [(0, 1)])), (1, 4, (0, [(1, 1)]))], (0, []), (0, []), (8, []))
def nd186_20 : bNd := (17, [some (.inr (.inl (.ref 1))), some (.inr (.inl (.retAddr 1))), some (.inl (3, [])), some (.inl (0, [(2, 1)])), some (.inl (20, [])), some (.inl (0, [(3, 1)]))], [(0, 399), (1, 400), ((-1), 3), (100, 100)], [], [(1, 3, (0, [(0, 1)])), (1, 4, (0, [(1, 1)]))], (0, []), (0, []), (7, []))
def nd186_21 : bNd := (17, [some (.inr (.inl (.ref 1))), some (.inr (.inl (.retAddr 1))), some (.inl (4, [])), some (.inl (0, [(2, 1)])), some (.inl (21, [])), some (.inl (0, [(3, 1)]))], [(0, 399), (1, 400), (0, 0), (32, 32)], [], [(1, 3, (0, [(0, 1)])), (1, 4, (0, [(1, 1)]))], (0, []), (0, []), (6, []))
def nd186_22 : bNd := (17, [some (.inr (.inl (.ref 1))), some (.inr (.inl (.retAddr 1))), some (.inl (4, [])), some (.inl (0, [(2, 1)])), some (.inl (22, [])), some (.inl (0, [(3, 1)]))], [(0, 399), (1, 400), ((-1), 1), (100, 100)], [], [(1, 3, (0, [(0, 1)])), (1, 4, (0, [(1, 1)]))], (0, []), (0, []), (5, []))
def nd186_23 : bNd := (17, [some (.inr (.inl (.ref 1))), some (.inr (.inl (.retAddr 1))), some (.inl (4, [])), some (.inl (0, [(2, 1)])), some (.inl (23, [])), some (.inl (0, [(3, 1)]))], [(0, 399), (1, 400), ((-1), 2), (114, 114)], [], [(1, 3, (0, [(0, 1)])), (1, 4, (0, [(1, 1)]))], (0, []), (0, []), (4, []))
def nd186_24 : bNd := (17, [some (.inr (.inl (.ref 1))), some (.inr (.inl (.retAddr 1))), some (.inl (4, [])), some (.inl (0, [(2, 1)])), some (.inl (24, [])), some (.inl (0, [(3, 1)]))], [(0, 399), (1, 400), ((-1), 3), (97, 97)], [], [(1, 3, (0, [(0, 1)])), (1, 4, (0, [(1, 1)]))], (0, []), (0, []), (3, []))
def nd186_25 : bNd := (17, [some (.inr (.inl (.ref 1))), some (.inr (.inl (.retAddr 1))), some (.inl (4, [])), some (.inl (0, [(2, 1)])), some (.inl (25, [])), some (.inl (0, [(3, 1)]))], [(0, 399), (1, 400), ((-1), 4), (105, 105)], [], [(1, 3, (0, [(0, 1)])), (1, 4, (0, [(1, 1)]))], (0, []), (0, []), (2, []))
def nd186_26 : bNd := (17, [some (.inr (.inl (.ref 1))), some (.inr (.inl (.retAddr 1))), some (.inl (4, [])), some (.inl (0, [(2, 1)])), some (.inl (26, [])), some (.inl (0, [(3, 1)]))], [(0, 399), (1, 400), ((-1), 5), (110, 110)], [], [(1, 3, (0, [(0, 1)])), (1, 4, (0, [(1, 1)]))], (0, []), (0, []), (1, []))
def nd186_27 : bNd := (17, [some (.inr (.inl (.ref 1))), some (.inr (.inl (.retAddr 1))), some (.inl (5, [])), some (.inl (0, [(2, 1)])), some (.inl (27, [])), some (.inl (0, [(3, 1)]))], [(0, 399), (1, 400), (0, 0), (32, 32)], [], [(1, 3, (0, [(0, 1)])), (1, 4, (0, [(1, 1)]))], (0, []), (0, []), (0, []))
/-- S$Tape wordAmong -/
def nl186 : List bNd := [nd186_0, nd186_1, nd186_2, nd186_3, nd186_4, nd186_5, nd186_6, nd186_7, nd186_8, nd186_9, nd186_10, nd186_11, nd186_12, nd186_13, nd186_14, nd186_15, nd186_16, nd186_17, nd186_18, nd186_19, nd186_20, nd186_21, nd186_22, nd186_23, nd186_24, nd186_25, nd186_26, nd186_27]
set_option maxRecDepth 100000 in
theorem ke186 : bke (0, smT) ctb 185 sc186 29 100000 nl186 = true := by decide +kernel
set_option maxRecDepth 100000 in
theorem kn186_0 : bkn (0, smT) ctb 185 sc186 100000 nl186 nd186_0 = true := by decide +kernel
set_option maxRecDepth 100000 in
theorem kn186_1 : bkn (0, smT) ctb 185 sc186 100000 nl186 nd186_1 = true := by decide +kernel
set_option maxRecDepth 100000 in
theorem kn186_2 : bkn (0, smT) ctb 185 sc186 100000 nl186 nd186_2 = true := by decide +kernel
set_option maxRecDepth 100000 in
theorem kn186_3 : bkn (0, smT) ctb 185 sc186 100000 nl186 nd186_3 = true := by decide +kernel
set_option maxRecDepth 100000 in
theorem kn186_4 : bkn (0, smT) ctb 185 sc186 100000 nl186 nd186_4 = true := by decide +kernel
set_option maxRecDepth 100000 in
theorem kn186_5 : bkn (0, smT) ctb 185 sc186 100000 nl186 nd186_5 = true := by decide +kernel
set_option maxRecDepth 100000 in
theorem kn186_6 : bkn (0, smT) ctb 185 sc186 100000 nl186 nd186_6 = true := by decide +kernel
set_option maxRecDepth 100000 in
theorem kn186_7 : bkn (0, smT) ctb 185 sc186 100000 nl186 nd186_7 = true := by decide +kernel
set_option maxRecDepth 100000 in
theorem kn186_8 : bkn (0, smT) ctb 185 sc186 100000 nl186 nd186_8 = true := by decide +kernel
set_option maxRecDepth 100000 in
theorem kn186_9 : bkn (0, smT) ctb 185 sc186 100000 nl186 nd186_9 = true := by decide +kernel
set_option maxRecDepth 100000 in
theorem kn186_10 : bkn (0, smT) ctb 185 sc186 100000 nl186 nd186_10 = true := by decide +kernel
set_option maxRecDepth 100000 in
theorem kn186_11 : bkn (0, smT) ctb 185 sc186 100000 nl186 nd186_11 = true := by decide +kernel
set_option maxRecDepth 100000 in
theorem kn186_12 : bkn (0, smT) ctb 185 sc186 100000 nl186 nd186_12 = true := by decide +kernel
set_option maxRecDepth 100000 in
theorem kn186_13 : bkn (0, smT) ctb 185 sc186 100000 nl186 nd186_13 = true := by decide +kernel
set_option maxRecDepth 100000 in
theorem kn186_14 : bkn (0, smT) ctb 185 sc186 100000 nl186 nd186_14 = true := by decide +kernel
set_option maxRecDepth 100000 in
theorem kn186_15 : bkn (0, smT) ctb 185 sc186 100000 nl186 nd186_15 = true := by decide +kernel
set_option maxRecDepth 100000 in
theorem kn186_16 : bkn (0, smT) ctb 185 sc186 100000 nl186 nd186_16 = true := by decide +kernel
set_option maxRecDepth 100000 in
theorem kn186_17 : bkn (0, smT) ctb 185 sc186 100000 nl186 nd186_17 = true := by decide +kernel
set_option maxRecDepth 100000 in
theorem kn186_18 : bkn (0, smT) ctb 185 sc186 100000 nl186 nd186_18 = true := by decide +kernel
set_option maxRecDepth 100000 in
theorem kn186_19 : bkn (0, smT) ctb 185 sc186 100000 nl186 nd186_19 = true := by decide +kernel
set_option maxRecDepth 100000 in
theorem kn186_20 : bkn (0, smT) ctb 185 sc186 100000 nl186 nd186_20 = true := by decide +kernel
set_option maxRecDepth 100000 in
theorem kn186_21 : bkn (0, smT) ctb 185 sc186 100000 nl186 nd186_21 = true := by decide +kernel
set_option maxRecDepth 100000 in
theorem kn186_22 : bkn (0, smT) ctb 185 sc186 100000 nl186 nd186_22 = true := by decide +kernel
set_option maxRecDepth 100000 in
theorem kn186_23 : bkn (0, smT) ctb 185 sc186 100000 nl186 nd186_23 = true := by decide +kernel
set_option maxRecDepth 100000 in
theorem kn186_24 : bkn (0, smT) ctb 185 sc186 100000 nl186 nd186_24 = true := by decide +kernel
set_option maxRecDepth 100000 in
theorem kn186_25 : bkn (0, smT) ctb 185 sc186 100000 nl186 nd186_25 = true := by decide +kernel
set_option maxRecDepth 100000 in
theorem kn186_26 : bkn (0, smT) ctb 185 sc186 100000 nl186 nd186_26 = true := by decide +kernel
set_option maxRecDepth 100000 in
theorem kn186_27 : bkn (0, smT) ctb 185 sc186 100000 nl186 nd186_27 = true := by decide +kernel
/-- S$Tape wordAmong -/
def nl187 : List bNd := []
set_option maxRecDepth 100000 in
theorem ke187 : bke (0, smT) ctb 185 sc187 0 100000 nl187 = true := by decide +kernel
/-- S$Tape wordAmong -/
def nl188 : List bNd := []
set_option maxRecDepth 100000 in
theorem ke188 : bke (0, smT) ctb 185 sc188 0 100000 nl188 = true := by decide +kernel
/-- S$Tape wordAmong -/
def nl189 : List bNd := []
set_option maxRecDepth 100000 in
theorem ke189 : bke (0, smT) ctb 185 sc189 0 100000 nl189 = true := by decide +kernel
def nd190_0 : bNd := (17, [some (.inr (.inl (.ref 1))), some (.inr (.inl (.retAddr 5))), some (.inl (0, [])), some (.inl (0, [(2, 1)])), some (.inl (0, [])), none], [(0, 399), (1, 400), (0, 0)], [], [(1, 3, (0, [(0, 1)])), (1, 4, (0, [(1, 1)]))], (0, []), (0, []), (3, []))
def nd190_1 : bNd := (17, [some (.inr (.inl (.ref 1))), some (.inr (.inl (.retAddr 5))), some (.inl (0, [])), some (.inl (0, [(2, 1)])), some (.inl (1, [])), some (.inl (0, [(3, 1)]))], [(0, 399), (1, 400), ((-1), 1), (105, 105)], [], [(1, 3, (0, [(0, 1)])), (1, 4, (0, [(1, 1)]))], (0, []), (0, []), (2, []))
def nd190_2 : bNd := (17, [some (.inr (.inl (.ref 1))), some (.inr (.inl (.retAddr 5))), some (.inl (0, [])), some (.inl (0, [(2, 1)])), some (.inl (2, [])), some (.inl (0, [(3, 1)]))], [(0, 399), (1, 400), ((-1), 2), (102, 102)], [], [(1, 3, (0, [(0, 1)])), (1, 4, (0, [(1, 1)]))], (0, []), (0, []), (1, []))
def nd190_3 : bNd := (17, [some (.inr (.inl (.ref 1))), some (.inr (.inl (.retAddr 5))), some (.inl (1, [])), some (.inl (0, [(2, 1)])), some (.inl (3, [])), some (.inl (0, [(3, 1)]))], [(0, 399), (1, 400), (0, 0), (32, 32)], [], [(1, 3, (0, [(0, 1)])), (1, 4, (0, [(1, 1)]))], (0, []), (0, []), (0, []))
/-- S$Tape wordAmong -/
def nl190 : List bNd := [nd190_0, nd190_1, nd190_2, nd190_3]
set_option maxRecDepth 100000 in
theorem ke190 : bke (0, smT) ctb 185 sc190 5 100000 nl190 = true := by decide +kernel
set_option maxRecDepth 100000 in
theorem kn190_0 : bkn (0, smT) ctb 185 sc190 100000 nl190 nd190_0 = true := by decide +kernel
set_option maxRecDepth 100000 in
theorem kn190_1 : bkn (0, smT) ctb 185 sc190 100000 nl190 nd190_1 = true := by decide +kernel
set_option maxRecDepth 100000 in
theorem kn190_2 : bkn (0, smT) ctb 185 sc190 100000 nl190 nd190_2 = true := by decide +kernel
set_option maxRecDepth 100000 in
theorem kn190_3 : bkn (0, smT) ctb 185 sc190 100000 nl190 nd190_3 = true := by decide +kernel
/-- S$Tape wordAmong -/
def nl191 : List bNd := []
set_option maxRecDepth 100000 in
theorem ke191 : bke (0, smT) ctb 185 sc191 0 100000 nl191 = true := by decide +kernel
/-- S$Tape wordAmong -/
def nl192 : List bNd := []
set_option maxRecDepth 100000 in
theorem ke192 : bke (0, smT) ctb 185 sc192 0 100000 nl192 = true := by decide +kernel
/-- S$Tape wordAmong -/
def nl193 : List bNd := []
set_option maxRecDepth 100000 in
theorem ke193 : bke (0, smT) ctb 185 sc193 0 100000 nl193 = true := by decide +kernel
/-- S$Tape wordAmong -/
def nl194 : List bNd := []
set_option maxRecDepth 100000 in
theorem ke194 : bke (0, smT) ctb 185 sc194 0 100000 nl194 = true := by decide +kernel
def nd195_0 : bNd := (17, [some (.inr (.inl (.ref 1))), some (.inr (.inl (.retAddr 6))), some (.inl (0, [])), some (.inl (0, [(2, 1)])), some (.inl (0, [])), none], [(0, 399), (1, 400), (0, 0)], [], [(1, 3, (0, [(0, 1)])), (1, 4, (0, [(1, 1)]))], (0, []), (0, []), (4, []))
def nd195_1 : bNd := (17, [some (.inr (.inl (.ref 1))), some (.inr (.inl (.retAddr 6))), some (.inl (0, [])), some (.inl (0, [(2, 1)])), some (.inl (1, [])), some (.inl (0, [(3, 1)]))], [(0, 399), (1, 400), ((-1), 1), (110, 110)], [], [(1, 3, (0, [(0, 1)])), (1, 4, (0, [(1, 1)]))], (0, []), (0, []), (3, []))
def nd195_2 : bNd := (17, [some (.inr (.inl (.ref 1))), some (.inr (.inl (.retAddr 6))), some (.inl (0, [])), some (.inl (0, [(2, 1)])), some (.inl (2, [])), some (.inl (0, [(3, 1)]))], [(0, 399), (1, 400), ((-1), 2), (111, 111)], [], [(1, 3, (0, [(0, 1)])), (1, 4, (0, [(1, 1)]))], (0, []), (0, []), (2, []))
def nd195_3 : bNd := (17, [some (.inr (.inl (.ref 1))), some (.inr (.inl (.retAddr 6))), some (.inl (0, [])), some (.inl (0, [(2, 1)])), some (.inl (3, [])), some (.inl (0, [(3, 1)]))], [(0, 399), (1, 400), ((-1), 3), (116, 116)], [], [(1, 3, (0, [(0, 1)])), (1, 4, (0, [(1, 1)]))], (0, []), (0, []), (1, []))
def nd195_4 : bNd := (17, [some (.inr (.inl (.ref 1))), some (.inr (.inl (.retAddr 6))), some (.inl (1, [])), some (.inl (0, [(2, 1)])), some (.inl (4, [])), some (.inl (0, [(3, 1)]))], [(0, 399), (1, 400), (0, 0), (32, 32)], [], [(1, 3, (0, [(0, 1)])), (1, 4, (0, [(1, 1)]))], (0, []), (0, []), (0, []))
/-- S$Tape wordAmong -/
def nl195 : List bNd := [nd195_0, nd195_1, nd195_2, nd195_3, nd195_4]
set_option maxRecDepth 100000 in
theorem ke195 : bke (0, smT) ctb 185 sc195 6 100000 nl195 = true := by decide +kernel
set_option maxRecDepth 100000 in
theorem kn195_0 : bkn (0, smT) ctb 185 sc195 100000 nl195 nd195_0 = true := by decide +kernel
set_option maxRecDepth 100000 in
theorem kn195_1 : bkn (0, smT) ctb 185 sc195 100000 nl195 nd195_1 = true := by decide +kernel
set_option maxRecDepth 100000 in
theorem kn195_2 : bkn (0, smT) ctb 185 sc195 100000 nl195 nd195_2 = true := by decide +kernel
set_option maxRecDepth 100000 in
theorem kn195_3 : bkn (0, smT) ctb 185 sc195 100000 nl195 nd195_3 = true := by decide +kernel
set_option maxRecDepth 100000 in
theorem kn195_4 : bkn (0, smT) ctb 185 sc195 100000 nl195 nd195_4 = true := by decide +kernel
/-- S$Tape wordAmong -/
def nl196 : List bNd := []
set_option maxRecDepth 100000 in
theorem ke196 : bke (0, smT) ctb 185 sc196 0 100000 nl196 = true := by decide +kernel
/-- S$Tape wordAmong -/
def nl197 : List bNd := []
set_option maxRecDepth 100000 in
theorem ke197 : bke (0, smT) ctb 185 sc197 0 100000 nl197 = true := by decide +kernel
/-- S$Tape wordAmong -/
def nl198 : List bNd := []
set_option maxRecDepth 100000 in
theorem ke198 : bke (0, smT) ctb 185 sc198 0 100000 nl198 = true := by decide +kernel
/-- S$Tape wordAmong -/
def nl199 : List bNd := []
set_option maxRecDepth 100000 in
theorem ke199 : bke (0, smT) ctb 185 sc199 0 100000 nl199 = true := by decide +kernel
def nd200_0 : bNd := (17, [some (.inr (.inl (.ref 1))), some (.inr (.inl (.retAddr 7))), some (.inl (0, [])), some (.inl (0, [(2, 1)])), some (.inl (0, [])), none], [(0, 399), (1, 400), (0, 0)], [], [(1, 3, (0, [(0, 1)])), (1, 4, (0, [(1, 1)]))], (0, []), (0, []), (27, []))
def nd200_1 : bNd := (17, [some (.inr (.inl (.ref 1))), some (.inr (.inl (.retAddr 7))), some (.inl (0, [])), some (.inl (0, [(2, 1)])), some (.inl (1, [])), some (.inl (0, [(3, 1)]))], [(0, 399), (1, 400), ((-1), 1), (111, 111)], [], [(1, 3, (0, [(0, 1)])), (1, 4, (0, [(1, 1)]))], (0, []), (0, []), (26, []))
def nd200_2 : bNd := (17, [some (.inr (.inl (.ref 1))), some (.inr (.inl (.retAddr 7))), some (.inl (0, [])), some (.inl (0, [(2, 1)])), some (.inl (2, [])), some (.inl (0, [(3, 1)]))], [(0, 399), (1, 400), ((-1), 2), (117, 117)], [], [(1, 3, (0, [(0, 1)])), (1, 4, (0, [(1, 1)]))], (0, []), (0, []), (25, []))
def nd200_3 : bNd := (17, [some (.inr (.inl (.ref 1))), some (.inr (.inl (.retAddr 7))), some (.inl (0, [])), some (.inl (0, [(2, 1)])), some (.inl (3, [])), some (.inl (0, [(3, 1)]))], [(0, 399), (1, 400), ((-1), 3), (116, 116)], [], [(1, 3, (0, [(0, 1)])), (1, 4, (0, [(1, 1)]))], (0, []), (0, []), (24, []))
def nd200_4 : bNd := (17, [some (.inr (.inl (.ref 1))), some (.inr (.inl (.retAddr 7))), some (.inl (1, [])), some (.inl (0, [(2, 1)])), some (.inl (4, [])), some (.inl (0, [(3, 1)]))], [(0, 399), (1, 400), (0, 0), (32, 32)], [], [(1, 3, (0, [(0, 1)])), (1, 4, (0, [(1, 1)]))], (0, []), (0, []), (23, []))
def nd200_5 : bNd := (17, [some (.inr (.inl (.ref 1))), some (.inr (.inl (.retAddr 7))), some (.inl (1, [])), some (.inl (0, [(2, 1)])), some (.inl (5, [])), some (.inl (0, [(3, 1)]))], [(0, 399), (1, 400), ((-1), 1), (115, 115)], [], [(1, 3, (0, [(0, 1)])), (1, 4, (0, [(1, 1)]))], (0, []), (0, []), (22, []))
def nd200_6 : bNd := (17, [some (.inr (.inl (.ref 1))), some (.inr (.inl (.retAddr 7))), some (.inl (1, [])), some (.inl (0, [(2, 1)])), some (.inl (6, [])), some (.inl (0, [(3, 1)]))], [(0, 399), (1, 400), ((-1), 2), (116, 116)], [], [(1, 3, (0, [(0, 1)])), (1, 4, (0, [(1, 1)]))], (0, []), (0, []), (21, []))
def nd200_7 : bNd := (17, [some (.inr (.inl (.ref 1))), some (.inr (.inl (.retAddr 7))), some (.inl (1, [])), some (.inl (0, [(2, 1)])), some (.inl (7, [])), some (.inl (0, [(3, 1)]))], [(0, 399), (1, 400), ((-1), 3), (111, 111)], [], [(1, 3, (0, [(0, 1)])), (1, 4, (0, [(1, 1)]))], (0, []), (0, []), (20, []))
def nd200_8 : bNd := (17, [some (.inr (.inl (.ref 1))), some (.inr (.inl (.retAddr 7))), some (.inl (1, [])), some (.inl (0, [(2, 1)])), some (.inl (8, [])), some (.inl (0, [(3, 1)]))], [(0, 399), (1, 400), ((-1), 4), (110, 110)], [], [(1, 3, (0, [(0, 1)])), (1, 4, (0, [(1, 1)]))], (0, []), (0, []), (19, []))
def nd200_9 : bNd := (17, [some (.inr (.inl (.ref 1))), some (.inr (.inl (.retAddr 7))), some (.inl (1, [])), some (.inl (0, [(2, 1)])), some (.inl (9, [])), some (.inl (0, [(3, 1)]))], [(0, 399), (1, 400), ((-1), 5), (101, 101)], [], [(1, 3, (0, [(0, 1)])), (1, 4, (0, [(1, 1)]))], (0, []), (0, []), (18, []))
def nd200_10 : bNd := (17, [some (.inr (.inl (.ref 1))), some (.inr (.inl (.retAddr 7))), some (.inl (2, [])), some (.inl (0, [(2, 1)])), some (.inl (10, [])), some (.inl (0, [(3, 1)]))], [(0, 399), (1, 400), (0, 0), (32, 32)], [], [(1, 3, (0, [(0, 1)])), (1, 4, (0, [(1, 1)]))], (0, []), (0, []), (17, []))
def nd200_11 : bNd := (17, [some (.inr (.inl (.ref 1))), some (.inr (.inl (.retAddr 7))), some (.inl (2, [])), some (.inl (0, [(2, 1)])), some (.inl (11, [])), some (.inl (0, [(3, 1)]))], [(0, 399), (1, 400), ((-1), 1), (99, 99)], [], [(1, 3, (0, [(0, 1)])), (1, 4, (0, [(1, 1)]))], (0, []), (0, []), (16, []))
def nd200_12 : bNd := (17, [some (.inr (.inl (.ref 1))), some (.inr (.inl (.retAddr 7))), some (.inl (2, [])), some (.inl (0, [(2, 1)])), some (.inl (12, [])), some (.inl (0, [(3, 1)]))], [(0, 399), (1, 400), ((-1), 2), (97, 97)], [], [(1, 3, (0, [(0, 1)])), (1, 4, (0, [(1, 1)]))], (0, []), (0, []), (15, []))
def nd200_13 : bNd := (17, [some (.inr (.inl (.ref 1))), some (.inr (.inl (.retAddr 7))), some (.inl (2, [])), some (.inl (0, [(2, 1)])), some (.inl (13, [])), some (.inl (0, [(3, 1)]))], [(0, 399), (1, 400), ((-1), 3), (114, 114)], [], [(1, 3, (0, [(0, 1)])), (1, 4, (0, [(1, 1)]))], (0, []), (0, []), (14, []))
def nd200_14 : bNd := (17, [some (.inr (.inl (.ref 1))), some (.inr (.inl (.retAddr 7))), some (.inl (2, [])), some (.inl (0, [(2, 1)])), some (.inl (14, [])), some (.inl (0, [(3, 1)]))], [(0, 399), (1, 400), ((-1), 4), (112, 112)], [], [(1, 3, (0, [(0, 1)])), (1, 4, (0, [(1, 1)]))], (0, []), (0, []), (13, []))
def nd200_15 : bNd := (17, [some (.inr (.inl (.ref 1))), some (.inr (.inl (.retAddr 7))), some (.inl (2, [])), some (.inl (0, [(2, 1)])), some (.inl (15, [])), some (.inl (0, [(3, 1)]))], [(0, 399), (1, 400), ((-1), 5), (101, 101)], [], [(1, 3, (0, [(0, 1)])), (1, 4, (0, [(1, 1)]))], (0, []), (0, []), (12, []))
def nd200_16 : bNd := (17, [some (.inr (.inl (.ref 1))), some (.inr (.inl (.retAddr 7))), some (.inl (2, [])), some (.inl (0, [(2, 1)])), some (.inl (16, [])), some (.inl (0, [(3, 1)]))], [(0, 399), (1, 400), ((-1), 6), (116, 116)], [], [(1, 3, (0, [(0, 1)])), (1, 4, (0, [(1, 1)]))], (0, []), (0, []), (11, []))
def nd200_17 : bNd := (17, [some (.inr (.inl (.ref 1))), some (.inr (.inl (.retAddr 7))), some (.inl (3, [])), some (.inl (0, [(2, 1)])), some (.inl (17, [])), some (.inl (0, [(3, 1)]))], [(0, 399), (1, 400), (0, 0), (32, 32)], [], [(1, 3, (0, [(0, 1)])), (1, 4, (0, [(1, 1)]))], (0, []), (0, []), (10, []))
def nd200_18 : bNd := (17, [some (.inr (.inl (.ref 1))), some (.inr (.inl (.retAddr 7))), some (.inl (3, [])), some (.inl (0, [(2, 1)])), some (.inl (18, [])), some (.inl (0, [(3, 1)]))], [(0, 399), (1, 400), ((-1), 1), (98, 98)], [], [(1, 3, (0, [(0, 1)])), (1, 4, (0, [(1, 1)]))], (0, []), (0, []), (9, []))
def nd200_19 : bNd := (17, [some (.inr (.inl (.ref 1))), some (.inr (.inl (.retAddr 7))), some (.inl (3, [])), some (.inl (0, [(2, 1)])), some (.inl (19, [])), some (.inl (0, [(3, 1)]))], [(0, 399), (1, 400), ((-1), 2), (101, 101)], [], [(1, 3, (0, [(0, 1)])), (1, 4, (0, [(1, 1)]))], (0, []), (0, []), (8, []))
def nd200_20 : bNd := (17, [some (.inr (.inl (.ref 1))), some (.inr (.inl (.retAddr 7))), some (.inl (3, [])), some (.inl (0, [(2, 1)])), some (.inl (20, [])), some (.inl (0, [(3, 1)]))], [(0, 399), (1, 400), ((-1), 3), (100, 100)], [], [(1, 3, (0, [(0, 1)])), (1, 4, (0, [(1, 1)]))], (0, []), (0, []), (7, []))
def nd200_21 : bNd := (17, [some (.inr (.inl (.ref 1))), some (.inr (.inl (.retAddr 7))), some (.inl (4, [])), some (.inl (0, [(2, 1)])), some (.inl (21, [])), some (.inl (0, [(3, 1)]))], [(0, 399), (1, 400), (0, 0), (32, 32)], [], [(1, 3, (0, [(0, 1)])), (1, 4, (0, [(1, 1)]))], (0, []), (0, []), (6, []))
def nd200_22 : bNd := (17, [some (.inr (.inl (.ref 1))), some (.inr (.inl (.retAddr 7))), some (.inl (4, [])), some (.inl (0, [(2, 1)])), some (.inl (22, [])), some (.inl (0, [(3, 1)]))], [(0, 399), (1, 400), ((-1), 1), (100, 100)], [], [(1, 3, (0, [(0, 1)])), (1, 4, (0, [(1, 1)]))], (0, []), (0, []), (5, []))
def nd200_23 : bNd := (17, [some (.inr (.inl (.ref 1))), some (.inr (.inl (.retAddr 7))), some (.inl (4, [])), some (.inl (0, [(2, 1)])), some (.inl (23, [])), some (.inl (0, [(3, 1)]))], [(0, 399), (1, 400), ((-1), 2), (114, 114)], [], [(1, 3, (0, [(0, 1)])), (1, 4, (0, [(1, 1)]))], (0, []), (0, []), (4, []))
def nd200_24 : bNd := (17, [some (.inr (.inl (.ref 1))), some (.inr (.inl (.retAddr 7))), some (.inl (4, [])), some (.inl (0, [(2, 1)])), some (.inl (24, [])), some (.inl (0, [(3, 1)]))], [(0, 399), (1, 400), ((-1), 3), (97, 97)], [], [(1, 3, (0, [(0, 1)])), (1, 4, (0, [(1, 1)]))], (0, []), (0, []), (3, []))
def nd200_25 : bNd := (17, [some (.inr (.inl (.ref 1))), some (.inr (.inl (.retAddr 7))), some (.inl (4, [])), some (.inl (0, [(2, 1)])), some (.inl (25, [])), some (.inl (0, [(3, 1)]))], [(0, 399), (1, 400), ((-1), 4), (105, 105)], [], [(1, 3, (0, [(0, 1)])), (1, 4, (0, [(1, 1)]))], (0, []), (0, []), (2, []))
def nd200_26 : bNd := (17, [some (.inr (.inl (.ref 1))), some (.inr (.inl (.retAddr 7))), some (.inl (4, [])), some (.inl (0, [(2, 1)])), some (.inl (26, [])), some (.inl (0, [(3, 1)]))], [(0, 399), (1, 400), ((-1), 5), (110, 110)], [], [(1, 3, (0, [(0, 1)])), (1, 4, (0, [(1, 1)]))], (0, []), (0, []), (1, []))
def nd200_27 : bNd := (17, [some (.inr (.inl (.ref 1))), some (.inr (.inl (.retAddr 7))), some (.inl (5, [])), some (.inl (0, [(2, 1)])), some (.inl (27, [])), some (.inl (0, [(3, 1)]))], [(0, 399), (1, 400), (0, 0), (32, 32)], [], [(1, 3, (0, [(0, 1)])), (1, 4, (0, [(1, 1)]))], (0, []), (0, []), (0, []))
/-- S$Tape wordAmong -/
def nl200 : List bNd := [nd200_0, nd200_1, nd200_2, nd200_3, nd200_4, nd200_5, nd200_6, nd200_7, nd200_8, nd200_9, nd200_10, nd200_11, nd200_12, nd200_13, nd200_14, nd200_15, nd200_16, nd200_17, nd200_18, nd200_19, nd200_20, nd200_21, nd200_22, nd200_23, nd200_24, nd200_25, nd200_26, nd200_27]
set_option maxRecDepth 100000 in
theorem ke200 : bke (0, smT) ctb 185 sc200 29 100000 nl200 = true := by decide +kernel
set_option maxRecDepth 100000 in
theorem kn200_0 : bkn (0, smT) ctb 185 sc200 100000 nl200 nd200_0 = true := by decide +kernel
set_option maxRecDepth 100000 in
theorem kn200_1 : bkn (0, smT) ctb 185 sc200 100000 nl200 nd200_1 = true := by decide +kernel
set_option maxRecDepth 100000 in
theorem kn200_2 : bkn (0, smT) ctb 185 sc200 100000 nl200 nd200_2 = true := by decide +kernel
set_option maxRecDepth 100000 in
theorem kn200_3 : bkn (0, smT) ctb 185 sc200 100000 nl200 nd200_3 = true := by decide +kernel
set_option maxRecDepth 100000 in
theorem kn200_4 : bkn (0, smT) ctb 185 sc200 100000 nl200 nd200_4 = true := by decide +kernel
set_option maxRecDepth 100000 in
theorem kn200_5 : bkn (0, smT) ctb 185 sc200 100000 nl200 nd200_5 = true := by decide +kernel
set_option maxRecDepth 100000 in
theorem kn200_6 : bkn (0, smT) ctb 185 sc200 100000 nl200 nd200_6 = true := by decide +kernel
set_option maxRecDepth 100000 in
theorem kn200_7 : bkn (0, smT) ctb 185 sc200 100000 nl200 nd200_7 = true := by decide +kernel
set_option maxRecDepth 100000 in
theorem kn200_8 : bkn (0, smT) ctb 185 sc200 100000 nl200 nd200_8 = true := by decide +kernel
set_option maxRecDepth 100000 in
theorem kn200_9 : bkn (0, smT) ctb 185 sc200 100000 nl200 nd200_9 = true := by decide +kernel
set_option maxRecDepth 100000 in
theorem kn200_10 : bkn (0, smT) ctb 185 sc200 100000 nl200 nd200_10 = true := by decide +kernel
set_option maxRecDepth 100000 in
theorem kn200_11 : bkn (0, smT) ctb 185 sc200 100000 nl200 nd200_11 = true := by decide +kernel
set_option maxRecDepth 100000 in
theorem kn200_12 : bkn (0, smT) ctb 185 sc200 100000 nl200 nd200_12 = true := by decide +kernel
set_option maxRecDepth 100000 in
theorem kn200_13 : bkn (0, smT) ctb 185 sc200 100000 nl200 nd200_13 = true := by decide +kernel
set_option maxRecDepth 100000 in
theorem kn200_14 : bkn (0, smT) ctb 185 sc200 100000 nl200 nd200_14 = true := by decide +kernel
set_option maxRecDepth 100000 in
theorem kn200_15 : bkn (0, smT) ctb 185 sc200 100000 nl200 nd200_15 = true := by decide +kernel
set_option maxRecDepth 100000 in
theorem kn200_16 : bkn (0, smT) ctb 185 sc200 100000 nl200 nd200_16 = true := by decide +kernel
set_option maxRecDepth 100000 in
theorem kn200_17 : bkn (0, smT) ctb 185 sc200 100000 nl200 nd200_17 = true := by decide +kernel
set_option maxRecDepth 100000 in
theorem kn200_18 : bkn (0, smT) ctb 185 sc200 100000 nl200 nd200_18 = true := by decide +kernel
set_option maxRecDepth 100000 in
theorem kn200_19 : bkn (0, smT) ctb 185 sc200 100000 nl200 nd200_19 = true := by decide +kernel
set_option maxRecDepth 100000 in
theorem kn200_20 : bkn (0, smT) ctb 185 sc200 100000 nl200 nd200_20 = true := by decide +kernel
set_option maxRecDepth 100000 in
theorem kn200_21 : bkn (0, smT) ctb 185 sc200 100000 nl200 nd200_21 = true := by decide +kernel
set_option maxRecDepth 100000 in
theorem kn200_22 : bkn (0, smT) ctb 185 sc200 100000 nl200 nd200_22 = true := by decide +kernel
set_option maxRecDepth 100000 in
theorem kn200_23 : bkn (0, smT) ctb 185 sc200 100000 nl200 nd200_23 = true := by decide +kernel
set_option maxRecDepth 100000 in
theorem kn200_24 : bkn (0, smT) ctb 185 sc200 100000 nl200 nd200_24 = true := by decide +kernel
set_option maxRecDepth 100000 in
theorem kn200_25 : bkn (0, smT) ctb 185 sc200 100000 nl200 nd200_25 = true := by decide +kernel
set_option maxRecDepth 100000 in
theorem kn200_26 : bkn (0, smT) ctb 185 sc200 100000 nl200 nd200_26 = true := by decide +kernel
set_option maxRecDepth 100000 in
theorem kn200_27 : bkn (0, smT) ctb 185 sc200 100000 nl200 nd200_27 = true := by decide +kernel
/-- S$Tape wordAmong -/
def nl201 : List bNd := []
set_option maxRecDepth 100000 in
theorem ke201 : bke (0, smT) ctb 185 sc201 0 100000 nl201 = true := by decide +kernel
/-- S$Tape wordAmong -/
def nl202 : List bNd := []
set_option maxRecDepth 100000 in
theorem ke202 : bke (0, smT) ctb 185 sc202 0 100000 nl202 = true := by decide +kernel
/-- S$Tape wordAmong -/
def nl203 : List bNd := []
set_option maxRecDepth 100000 in
theorem ke203 : bke (0, smT) ctb 185 sc203 0 100000 nl203 = true := by decide +kernel
def nd204_0 : bNd := (17, [some (.inr (.inl (.ref 1))), some (.inr (.inl (.retAddr 8))), some (.inl (0, [])), some (.inl (0, [(2, 1)])), some (.inl (0, [])), none], [(0, 399), (1, 400), (0, 0)], [], [(1, 3, (0, [(0, 1)])), (1, 4, (0, [(1, 1)]))], (0, []), (0, []), (4, []))
def nd204_1 : bNd := (17, [some (.inr (.inl (.ref 1))), some (.inr (.inl (.retAddr 8))), some (.inl (0, [])), some (.inl (0, [(2, 1)])), some (.inl (1, [])), some (.inl (0, [(3, 1)]))], [(0, 399), (1, 400), ((-1), 1), (119, 119)], [], [(1, 3, (0, [(0, 1)])), (1, 4, (0, [(1, 1)]))], (0, []), (0, []), (3, []))
def nd204_2 : bNd := (17, [some (.inr (.inl (.ref 1))), some (.inr (.inl (.retAddr 8))), some (.inl (0, [])), some (.inl (0, [(2, 1)])), some (.inl (2, [])), some (.inl (0, [(3, 1)]))], [(0, 399), (1, 400), ((-1), 2), (101, 101)], [], [(1, 3, (0, [(0, 1)])), (1, 4, (0, [(1, 1)]))], (0, []), (0, []), (2, []))
def nd204_3 : bNd := (17, [some (.inr (.inl (.ref 1))), some (.inr (.inl (.retAddr 8))), some (.inl (0, [])), some (.inl (0, [(2, 1)])), some (.inl (3, [])), some (.inl (0, [(3, 1)]))], [(0, 399), (1, 400), ((-1), 3), (116, 116)], [], [(1, 3, (0, [(0, 1)])), (1, 4, (0, [(1, 1)]))], (0, []), (0, []), (1, []))
def nd204_4 : bNd := (17, [some (.inr (.inl (.ref 1))), some (.inr (.inl (.retAddr 8))), some (.inl (1, [])), some (.inl (0, [(2, 1)])), some (.inl (4, [])), some (.inl (0, [(3, 1)]))], [(0, 399), (1, 400), (0, 0), (32, 32)], [], [(1, 3, (0, [(0, 1)])), (1, 4, (0, [(1, 1)]))], (0, []), (0, []), (0, []))
/-- S$Tape wordAmong -/
def nl204 : List bNd := [nd204_0, nd204_1, nd204_2, nd204_3, nd204_4]
set_option maxRecDepth 100000 in
theorem ke204 : bke (0, smT) ctb 185 sc204 6 100000 nl204 = true := by decide +kernel
set_option maxRecDepth 100000 in
theorem kn204_0 : bkn (0, smT) ctb 185 sc204 100000 nl204 nd204_0 = true := by decide +kernel
set_option maxRecDepth 100000 in
theorem kn204_1 : bkn (0, smT) ctb 185 sc204 100000 nl204 nd204_1 = true := by decide +kernel
set_option maxRecDepth 100000 in
theorem kn204_2 : bkn (0, smT) ctb 185 sc204 100000 nl204 nd204_2 = true := by decide +kernel
set_option maxRecDepth 100000 in
theorem kn204_3 : bkn (0, smT) ctb 185 sc204 100000 nl204 nd204_3 = true := by decide +kernel
set_option maxRecDepth 100000 in
theorem kn204_4 : bkn (0, smT) ctb 185 sc204 100000 nl204 nd204_4 = true := by decide +kernel
/-- S$Tape wordAmong -/
def nl205 : List bNd := []
set_option maxRecDepth 100000 in
theorem ke205 : bke (0, smT) ctb 185 sc205 0 100000 nl205 = true := by decide +kernel
/-- S$Tape wordAmong -/
def nl206 : List bNd := []
set_option maxRecDepth 100000 in
theorem ke206 : bke (0, smT) ctb 185 sc206 0 100000 nl206 = true := by decide +kernel
def nd207_0 : bNd := (17, [some (.inr (.inl (.ref 1))), some (.inr (.inl (.retAddr 10))), some (.inl (0, [])), some (.inl (0, [(2, 1)])), some (.inl (0, [])), none], [(0, 399), (1, 400), (0, 0)], [], [(1, 3, (0, [(0, 1)])), (1, 4, (0, [(1, 1)]))], (0, []), (0, []), (4, []))
def nd207_1 : bNd := (17, [some (.inr (.inl (.ref 1))), some (.inr (.inl (.retAddr 10))), some (.inl (0, [])), some (.inl (0, [(2, 1)])), some (.inl (1, [])), some (.inl (0, [(3, 1)]))], [(0, 399), (1, 400), ((-1), 1), (97, 97)], [], [(1, 3, (0, [(0, 1)])), (1, 4, (0, [(1, 1)]))], (0, []), (0, []), (3, []))
def nd207_2 : bNd := (17, [some (.inr (.inl (.ref 1))), some (.inr (.inl (.retAddr 10))), some (.inl (0, [])), some (.inl (0, [(2, 1)])), some (.inl (2, [])), some (.inl (0, [(3, 1)]))], [(0, 399), (1, 400), ((-1), 2), (110, 110)], [], [(1, 3, (0, [(0, 1)])), (1, 4, (0, [(1, 1)]))], (0, []), (0, []), (2, []))
def nd207_3 : bNd := (17, [some (.inr (.inl (.ref 1))), some (.inr (.inl (.retAddr 10))), some (.inl (0, [])), some (.inl (0, [(2, 1)])), some (.inl (3, [])), some (.inl (0, [(3, 1)]))], [(0, 399), (1, 400), ((-1), 3), (100, 100)], [], [(1, 3, (0, [(0, 1)])), (1, 4, (0, [(1, 1)]))], (0, []), (0, []), (1, []))
def nd207_4 : bNd := (17, [some (.inr (.inl (.ref 1))), some (.inr (.inl (.retAddr 10))), some (.inl (1, [])), some (.inl (0, [(2, 1)])), some (.inl (4, [])), some (.inl (0, [(3, 1)]))], [(0, 399), (1, 400), (0, 0), (32, 32)], [], [(1, 3, (0, [(0, 1)])), (1, 4, (0, [(1, 1)]))], (0, []), (0, []), (0, []))
/-- S$Tape wordAmong -/
def nl207 : List bNd := [nd207_0, nd207_1, nd207_2, nd207_3, nd207_4]
set_option maxRecDepth 100000 in
theorem ke207 : bke (0, smT) ctb 185 sc207 6 100000 nl207 = true := by decide +kernel
set_option maxRecDepth 100000 in
theorem kn207_0 : bkn (0, smT) ctb 185 sc207 100000 nl207 nd207_0 = true := by decide +kernel
set_option maxRecDepth 100000 in
theorem kn207_1 : bkn (0, smT) ctb 185 sc207 100000 nl207 nd207_1 = true := by decide +kernel
set_option maxRecDepth 100000 in
theorem kn207_2 : bkn (0, smT) ctb 185 sc207 100000 nl207 nd207_2 = true := by decide +kernel
set_option maxRecDepth 100000 in
theorem kn207_3 : bkn (0, smT) ctb 185 sc207 100000 nl207 nd207_3 = true := by decide +kernel
set_option maxRecDepth 100000 in
theorem kn207_4 : bkn (0, smT) ctb 185 sc207 100000 nl207 nd207_4 = true := by decide +kernel
/-- S$Tape wordAmong -/
def nl208 : List bNd := []
set_option maxRecDepth 100000 in
theorem ke208 : bke (0, smT) ctb 185 sc208 0 100000 nl208 = true := by decide +kernel
/-- S$Tape wordAmong -/
def nl209 : List bNd := []
set_option maxRecDepth 100000 in
theorem ke209 : bke (0, smT) ctb 185 sc209 0 100000 nl209 = true := by decide +kernel
/-- S$Tape wordAmong -/
def nl210 : List bNd := []
set_option maxRecDepth 100000 in
theorem ke210 : bke (0, smT) ctb 185 sc210 0 100000 nl210 = true := by decide +kernel
/-- S$Tape wordAmong -/
def nl211 : List bNd := []
set_option maxRecDepth 100000 in
theorem ke211 : bke (0, smT) ctb 185 sc211 0 100000 nl211 = true := by decide +kernel
def nd212_0 : bNd := (17, [some (.inr (.inl (.ref 1))), some (.inr (.inl (.retAddr 11))), some (.inl (0, [])), some (.inl (0, [(2, 1)])), some (.inl (0, [])), none], [(0, 399), (1, 400), (0, 0)], [], [(1, 3, (0, [(0, 1)])), (1, 4, (0, [(1, 1)]))], (0, []), (0, []), (3, []))
def nd212_1 : bNd := (17, [some (.inr (.inl (.ref 1))), some (.inr (.inl (.retAddr 11))), some (.inl (0, [])), some (.inl (0, [(2, 1)])), some (.inl (1, [])), some (.inl (0, [(3, 1)]))], [(0, 399), (1, 400), ((-1), 1), (111, 111)], [], [(1, 3, (0, [(0, 1)])), (1, 4, (0, [(1, 1)]))], (0, []), (0, []), (2, []))
def nd212_2 : bNd := (17, [some (.inr (.inl (.ref 1))), some (.inr (.inl (.retAddr 11))), some (.inl (0, [])), some (.inl (0, [(2, 1)])), some (.inl (2, [])), some (.inl (0, [(3, 1)]))], [(0, 399), (1, 400), ((-1), 2), (114, 114)], [], [(1, 3, (0, [(0, 1)])), (1, 4, (0, [(1, 1)]))], (0, []), (0, []), (1, []))
def nd212_3 : bNd := (17, [some (.inr (.inl (.ref 1))), some (.inr (.inl (.retAddr 11))), some (.inl (1, [])), some (.inl (0, [(2, 1)])), some (.inl (3, [])), some (.inl (0, [(3, 1)]))], [(0, 399), (1, 400), (0, 0), (32, 32)], [], [(1, 3, (0, [(0, 1)])), (1, 4, (0, [(1, 1)]))], (0, []), (0, []), (0, []))
/-- S$Tape wordAmong -/
def nl212 : List bNd := [nd212_0, nd212_1, nd212_2, nd212_3]
set_option maxRecDepth 100000 in
theorem ke212 : bke (0, smT) ctb 185 sc212 5 100000 nl212 = true := by decide +kernel
set_option maxRecDepth 100000 in
theorem kn212_0 : bkn (0, smT) ctb 185 sc212 100000 nl212 nd212_0 = true := by decide +kernel
set_option maxRecDepth 100000 in
theorem kn212_1 : bkn (0, smT) ctb 185 sc212 100000 nl212 nd212_1 = true := by decide +kernel
set_option maxRecDepth 100000 in
theorem kn212_2 : bkn (0, smT) ctb 185 sc212 100000 nl212 nd212_2 = true := by decide +kernel
set_option maxRecDepth 100000 in
theorem kn212_3 : bkn (0, smT) ctb 185 sc212 100000 nl212 nd212_3 = true := by decide +kernel
/-- S$Tape wordAmong -/
def nl213 : List bNd := []
set_option maxRecDepth 100000 in
theorem ke213 : bke (0, smT) ctb 185 sc213 0 100000 nl213 = true := by decide +kernel
/-- S$Tape wordAmong -/
def nl214 : List bNd := []
set_option maxRecDepth 100000 in
theorem ke214 : bke (0, smT) ctb 185 sc214 0 100000 nl214 = true := by decide +kernel
/-- S$Tape wordAmong -/
def nl215 : List bNd := []
set_option maxRecDepth 100000 in
theorem ke215 : bke (0, smT) ctb 185 sc215 0 100000 nl215 = true := by decide +kernel
def nd216_0 : bNd := (17, [some (.inr (.inl (.ref 1))), some (.inr (.inl (.retAddr 9))), some (.inl (0, [])), some (.inl (0, [(2, 1)])), some (.inl (0, [])), none], [(0, 399), (1, 400), (0, 0)], [], [(1, 3, (0, [(0, 1)])), (1, 4, (0, [(1, 1)]))], (0, []), (0, []), (33, []))
def nd216_1 : bNd := (17, [some (.inr (.inl (.ref 1))), some (.inr (.inl (.retAddr 9))), some (.inl (0, [])), some (.inl (0, [(2, 1)])), some (.inl (1, [])), some (.inl (0, [(3, 1)]))], [(0, 399), (1, 400), ((-1), 1), (112, 112)], [], [(1, 3, (0, [(0, 1)])), (1, 4, (0, [(1, 1)]))], (0, []), (0, []), (32, []))
def nd216_2 : bNd := (17, [some (.inr (.inl (.ref 1))), some (.inr (.inl (.retAddr 9))), some (.inl (0, [])), some (.inl (0, [(2, 1)])), some (.inl (2, [])), some (.inl (0, [(3, 1)]))], [(0, 399), (1, 400), ((-1), 2), (101, 101)], [], [(1, 3, (0, [(0, 1)])), (1, 4, (0, [(1, 1)]))], (0, []), (0, []), (31, []))
def nd216_3 : bNd := (17, [some (.inr (.inl (.ref 1))), some (.inr (.inl (.retAddr 9))), some (.inl (0, [])), some (.inl (0, [(2, 1)])), some (.inl (3, [])), some (.inl (0, [(3, 1)]))], [(0, 399), (1, 400), ((-1), 3), (114, 114)], [], [(1, 3, (0, [(0, 1)])), (1, 4, (0, [(1, 1)]))], (0, []), (0, []), (30, []))
def nd216_4 : bNd := (17, [some (.inr (.inl (.ref 1))), some (.inr (.inl (.retAddr 9))), some (.inl (0, [])), some (.inl (0, [(2, 1)])), some (.inl (4, [])), some (.inl (0, [(3, 1)]))], [(0, 399), (1, 400), ((-1), 4), (115, 115)], [], [(1, 3, (0, [(0, 1)])), (1, 4, (0, [(1, 1)]))], (0, []), (0, []), (29, []))
def nd216_5 : bNd := (17, [some (.inr (.inl (.ref 1))), some (.inr (.inl (.retAddr 9))), some (.inl (0, [])), some (.inl (0, [(2, 1)])), some (.inl (5, [])), some (.inl (0, [(3, 1)]))], [(0, 399), (1, 400), ((-1), 5), (111, 111)], [], [(1, 3, (0, [(0, 1)])), (1, 4, (0, [(1, 1)]))], (0, []), (0, []), (28, []))
def nd216_6 : bNd := (17, [some (.inr (.inl (.ref 1))), some (.inr (.inl (.retAddr 9))), some (.inl (0, [])), some (.inl (0, [(2, 1)])), some (.inl (6, [])), some (.inl (0, [(3, 1)]))], [(0, 399), (1, 400), ((-1), 6), (110, 110)], [], [(1, 3, (0, [(0, 1)])), (1, 4, (0, [(1, 1)]))], (0, []), (0, []), (27, []))
def nd216_7 : bNd := (17, [some (.inr (.inl (.ref 1))), some (.inr (.inl (.retAddr 9))), some (.inl (1, [])), some (.inl (0, [(2, 1)])), some (.inl (7, [])), some (.inl (0, [(3, 1)]))], [(0, 399), (1, 400), (0, 0), (32, 32)], [], [(1, 3, (0, [(0, 1)])), (1, 4, (0, [(1, 1)]))], (0, []), (0, []), (26, []))
def nd216_8 : bNd := (17, [some (.inr (.inl (.ref 1))), some (.inr (.inl (.retAddr 9))), some (.inl (1, [])), some (.inl (0, [(2, 1)])), some (.inl (8, [])), some (.inl (0, [(3, 1)]))], [(0, 399), (1, 400), ((-1), 1), (114, 114)], [], [(1, 3, (0, [(0, 1)])), (1, 4, (0, [(1, 1)]))], (0, []), (0, []), (25, []))
def nd216_9 : bNd := (17, [some (.inr (.inl (.ref 1))), some (.inr (.inl (.retAddr 9))), some (.inl (1, [])), some (.inl (0, [(2, 1)])), some (.inl (9, [])), some (.inl (0, [(3, 1)]))], [(0, 399), (1, 400), ((-1), 2), (111, 111)], [], [(1, 3, (0, [(0, 1)])), (1, 4, (0, [(1, 1)]))], (0, []), (0, []), (24, []))
def nd216_10 : bNd := (17, [some (.inr (.inl (.ref 1))), some (.inr (.inl (.retAddr 9))), some (.inl (1, [])), some (.inl (0, [(2, 1)])), some (.inl (10, [])), some (.inl (0, [(3, 1)]))], [(0, 399), (1, 400), ((-1), 3), (111, 111)], [], [(1, 3, (0, [(0, 1)])), (1, 4, (0, [(1, 1)]))], (0, []), (0, []), (23, []))
def nd216_11 : bNd := (17, [some (.inr (.inl (.ref 1))), some (.inr (.inl (.retAddr 9))), some (.inl (1, [])), some (.inl (0, [(2, 1)])), some (.inl (11, [])), some (.inl (0, [(3, 1)]))], [(0, 399), (1, 400), ((-1), 4), (109, 109)], [], [(1, 3, (0, [(0, 1)])), (1, 4, (0, [(1, 1)]))], (0, []), (0, []), (22, []))
def nd216_12 : bNd := (17, [some (.inr (.inl (.ref 1))), some (.inr (.inl (.retAddr 9))), some (.inl (2, [])), some (.inl (0, [(2, 1)])), some (.inl (12, [])), some (.inl (0, [(3, 1)]))], [(0, 399), (1, 400), (0, 0), (32, 32)], [], [(1, 3, (0, [(0, 1)])), (1, 4, (0, [(1, 1)]))], (0, []), (0, []), (21, []))
def nd216_13 : bNd := (17, [some (.inr (.inl (.ref 1))), some (.inr (.inl (.retAddr 9))), some (.inl (2, [])), some (.inl (0, [(2, 1)])), some (.inl (13, [])), some (.inl (0, [(3, 1)]))], [(0, 399), (1, 400), ((-1), 1), (108, 108)], [], [(1, 3, (0, [(0, 1)])), (1, 4, (0, [(1, 1)]))], (0, []), (0, []), (20, []))
def nd216_14 : bNd := (17, [some (.inr (.inl (.ref 1))), some (.inr (.inl (.retAddr 9))), some (.inl (2, [])), some (.inl (0, [(2, 1)])), some (.inl (14, [])), some (.inl (0, [(3, 1)]))], [(0, 399), (1, 400), ((-1), 2), (111, 111)], [], [(1, 3, (0, [(0, 1)])), (1, 4, (0, [(1, 1)]))], (0, []), (0, []), (19, []))
def nd216_15 : bNd := (17, [some (.inr (.inl (.ref 1))), some (.inr (.inl (.retAddr 9))), some (.inl (2, [])), some (.inl (0, [(2, 1)])), some (.inl (15, [])), some (.inl (0, [(3, 1)]))], [(0, 399), (1, 400), ((-1), 3), (97, 97)], [], [(1, 3, (0, [(0, 1)])), (1, 4, (0, [(1, 1)]))], (0, []), (0, []), (18, []))
def nd216_16 : bNd := (17, [some (.inr (.inl (.ref 1))), some (.inr (.inl (.retAddr 9))), some (.inl (2, [])), some (.inl (0, [(2, 1)])), some (.inl (16, [])), some (.inl (0, [(3, 1)]))], [(0, 399), (1, 400), ((-1), 4), (100, 100)], [], [(1, 3, (0, [(0, 1)])), (1, 4, (0, [(1, 1)]))], (0, []), (0, []), (17, []))
def nd216_17 : bNd := (17, [some (.inr (.inl (.ref 1))), some (.inr (.inl (.retAddr 9))), some (.inl (3, [])), some (.inl (0, [(2, 1)])), some (.inl (17, [])), some (.inl (0, [(3, 1)]))], [(0, 399), (1, 400), (0, 0), (32, 32)], [], [(1, 3, (0, [(0, 1)])), (1, 4, (0, [(1, 1)]))], (0, []), (0, []), (16, []))
def nd216_18 : bNd := (17, [some (.inr (.inl (.ref 1))), some (.inr (.inl (.retAddr 9))), some (.inl (3, [])), some (.inl (0, [(2, 1)])), some (.inl (18, [])), some (.inl (0, [(3, 1)]))], [(0, 399), (1, 400), ((-1), 1), (104, 104)], [], [(1, 3, (0, [(0, 1)])), (1, 4, (0, [(1, 1)]))], (0, []), (0, []), (15, []))
def nd216_19 : bNd := (17, [some (.inr (.inl (.ref 1))), some (.inr (.inl (.retAddr 9))), some (.inl (3, [])), some (.inl (0, [(2, 1)])), some (.inl (19, [])), some (.inl (0, [(3, 1)]))], [(0, 399), (1, 400), ((-1), 2), (101, 101)], [], [(1, 3, (0, [(0, 1)])), (1, 4, (0, [(1, 1)]))], (0, []), (0, []), (14, []))
def nd216_20 : bNd := (17, [some (.inr (.inl (.ref 1))), some (.inr (.inl (.retAddr 9))), some (.inl (3, [])), some (.inl (0, [(2, 1)])), some (.inl (20, [])), some (.inl (0, [(3, 1)]))], [(0, 399), (1, 400), ((-1), 3), (114, 114)], [], [(1, 3, (0, [(0, 1)])), (1, 4, (0, [(1, 1)]))], (0, []), (0, []), (13, []))
def nd216_21 : bNd := (17, [some (.inr (.inl (.ref 1))), some (.inr (.inl (.retAddr 9))), some (.inl (3, [])), some (.inl (0, [(2, 1)])), some (.inl (21, [])), some (.inl (0, [(3, 1)]))], [(0, 399), (1, 400), ((-1), 4), (101, 101)], [], [(1, 3, (0, [(0, 1)])), (1, 4, (0, [(1, 1)]))], (0, []), (0, []), (12, []))
def nd216_22 : bNd := (17, [some (.inr (.inl (.ref 1))), some (.inr (.inl (.retAddr 9))), some (.inl (4, [])), some (.inl (0, [(2, 1)])), some (.inl (22, [])), some (.inl (0, [(3, 1)]))], [(0, 399), (1, 400), (0, 0), (32, 32)], [], [(1, 3, (0, [(0, 1)])), (1, 4, (0, [(1, 1)]))], (0, []), (0, []), (11, []))
def nd216_23 : bNd := (17, [some (.inr (.inl (.ref 1))), some (.inr (.inl (.retAddr 9))), some (.inl (4, [])), some (.inl (0, [(2, 1)])), some (.inl (23, [])), some (.inl (0, [(3, 1)]))], [(0, 399), (1, 400), ((-1), 1), (114, 114)], [], [(1, 3, (0, [(0, 1)])), (1, 4, (0, [(1, 1)]))], (0, []), (0, []), (10, []))
def nd216_24 : bNd := (17, [some (.inr (.inl (.ref 1))), some (.inr (.inl (.retAddr 9))), some (.inl (4, [])), some (.inl (0, [(2, 1)])), some (.inl (24, [])), some (.inl (0, [(3, 1)]))], [(0, 399), (1, 400), ((-1), 2), (111, 111)], [], [(1, 3, (0, [(0, 1)])), (1, 4, (0, [(1, 1)]))], (0, []), (0, []), (9, []))
def nd216_25 : bNd := (17, [some (.inr (.inl (.ref 1))), some (.inr (.inl (.retAddr 9))), some (.inl (4, [])), some (.inl (0, [(2, 1)])), some (.inl (25, [])), some (.inl (0, [(3, 1)]))], [(0, 399), (1, 400), ((-1), 3), (117, 117)], [], [(1, 3, (0, [(0, 1)])), (1, 4, (0, [(1, 1)]))], (0, []), (0, []), (8, []))
def nd216_26 : bNd := (17, [some (.inr (.inl (.ref 1))), some (.inr (.inl (.retAddr 9))), some (.inl (4, [])), some (.inl (0, [(2, 1)])), some (.inl (26, [])), some (.inl (0, [(3, 1)]))], [(0, 399), (1, 400), ((-1), 4), (110, 110)], [], [(1, 3, (0, [(0, 1)])), (1, 4, (0, [(1, 1)]))], (0, []), (0, []), (7, []))
def nd216_27 : bNd := (17, [some (.inr (.inl (.ref 1))), some (.inr (.inl (.retAddr 9))), some (.inl (4, [])), some (.inl (0, [(2, 1)])), some (.inl (27, [])), some (.inl (0, [(3, 1)]))], [(0, 399), (1, 400), ((-1), 5), (100, 100)], [], [(1, 3, (0, [(0, 1)])), (1, 4, (0, [(1, 1)]))], (0, []), (0, []), (6, []))
def nd216_28 : bNd := (17, [some (.inr (.inl (.ref 1))), some (.inr (.inl (.retAddr 9))), some (.inl (5, [])), some (.inl (0, [(2, 1)])), some (.inl (28, [])), some (.inl (0, [(3, 1)]))], [(0, 399), (1, 400), (0, 0), (32, 32)], [], [(1, 3, (0, [(0, 1)])), (1, 4, (0, [(1, 1)]))], (0, []), (0, []), (5, []))
def nd216_29 : bNd := (17, [some (.inr (.inl (.ref 1))), some (.inr (.inl (.retAddr 9))), some (.inl (5, [])), some (.inl (0, [(2, 1)])), some (.inl (29, [])), some (.inl (0, [(3, 1)]))], [(0, 399), (1, 400), ((-1), 1), (112, 112)], [], [(1, 3, (0, [(0, 1)])), (1, 4, (0, [(1, 1)]))], (0, []), (0, []), (4, []))
def nd216_30 : bNd := (17, [some (.inr (.inl (.ref 1))), some (.inr (.inl (.retAddr 9))), some (.inl (5, [])), some (.inl (0, [(2, 1)])), some (.inl (30, [])), some (.inl (0, [(3, 1)]))], [(0, 399), (1, 400), ((-1), 2), (97, 97)], [], [(1, 3, (0, [(0, 1)])), (1, 4, (0, [(1, 1)]))], (0, []), (0, []), (3, []))
def nd216_31 : bNd := (17, [some (.inr (.inl (.ref 1))), some (.inr (.inl (.retAddr 9))), some (.inl (5, [])), some (.inl (0, [(2, 1)])), some (.inl (31, [])), some (.inl (0, [(3, 1)]))], [(0, 399), (1, 400), ((-1), 3), (114, 114)], [], [(1, 3, (0, [(0, 1)])), (1, 4, (0, [(1, 1)]))], (0, []), (0, []), (2, []))
def nd216_32 : bNd := (17, [some (.inr (.inl (.ref 1))), some (.inr (.inl (.retAddr 9))), some (.inl (5, [])), some (.inl (0, [(2, 1)])), some (.inl (32, [])), some (.inl (0, [(3, 1)]))], [(0, 399), (1, 400), ((-1), 4), (116, 116)], [], [(1, 3, (0, [(0, 1)])), (1, 4, (0, [(1, 1)]))], (0, []), (0, []), (1, []))
def nd216_33 : bNd := (17, [some (.inr (.inl (.ref 1))), some (.inr (.inl (.retAddr 9))), some (.inl (6, [])), some (.inl (0, [(2, 1)])), some (.inl (33, [])), some (.inl (0, [(3, 1)]))], [(0, 399), (1, 400), (0, 0), (32, 32)], [], [(1, 3, (0, [(0, 1)])), (1, 4, (0, [(1, 1)]))], (0, []), (0, []), (0, []))
/-- S$Tape wordAmong -/
def nl216 : List bNd := [nd216_0, nd216_1, nd216_2, nd216_3, nd216_4, nd216_5, nd216_6, nd216_7, nd216_8, nd216_9, nd216_10, nd216_11, nd216_12, nd216_13, nd216_14, nd216_15, nd216_16, nd216_17, nd216_18, nd216_19, nd216_20, nd216_21, nd216_22, nd216_23, nd216_24, nd216_25, nd216_26, nd216_27, nd216_28, nd216_29, nd216_30, nd216_31, nd216_32, nd216_33]
set_option maxRecDepth 100000 in
theorem ke216 : bke (0, smT) ctb 185 sc216 35 100000 nl216 = true := by decide +kernel
set_option maxRecDepth 100000 in
theorem kn216_0 : bkn (0, smT) ctb 185 sc216 100000 nl216 nd216_0 = true := by decide +kernel
set_option maxRecDepth 100000 in
theorem kn216_1 : bkn (0, smT) ctb 185 sc216 100000 nl216 nd216_1 = true := by decide +kernel
set_option maxRecDepth 100000 in
theorem kn216_2 : bkn (0, smT) ctb 185 sc216 100000 nl216 nd216_2 = true := by decide +kernel
set_option maxRecDepth 100000 in
theorem kn216_3 : bkn (0, smT) ctb 185 sc216 100000 nl216 nd216_3 = true := by decide +kernel
set_option maxRecDepth 100000 in
theorem kn216_4 : bkn (0, smT) ctb 185 sc216 100000 nl216 nd216_4 = true := by decide +kernel
set_option maxRecDepth 100000 in
theorem kn216_5 : bkn (0, smT) ctb 185 sc216 100000 nl216 nd216_5 = true := by decide +kernel
set_option maxRecDepth 100000 in
theorem kn216_6 : bkn (0, smT) ctb 185 sc216 100000 nl216 nd216_6 = true := by decide +kernel
set_option maxRecDepth 100000 in
theorem kn216_7 : bkn (0, smT) ctb 185 sc216 100000 nl216 nd216_7 = true := by decide +kernel
set_option maxRecDepth 100000 in
theorem kn216_8 : bkn (0, smT) ctb 185 sc216 100000 nl216 nd216_8 = true := by decide +kernel
set_option maxRecDepth 100000 in
theorem kn216_9 : bkn (0, smT) ctb 185 sc216 100000 nl216 nd216_9 = true := by decide +kernel
set_option maxRecDepth 100000 in
theorem kn216_10 : bkn (0, smT) ctb 185 sc216 100000 nl216 nd216_10 = true := by decide +kernel
set_option maxRecDepth 100000 in
theorem kn216_11 : bkn (0, smT) ctb 185 sc216 100000 nl216 nd216_11 = true := by decide +kernel
set_option maxRecDepth 100000 in
theorem kn216_12 : bkn (0, smT) ctb 185 sc216 100000 nl216 nd216_12 = true := by decide +kernel
set_option maxRecDepth 100000 in
theorem kn216_13 : bkn (0, smT) ctb 185 sc216 100000 nl216 nd216_13 = true := by decide +kernel
set_option maxRecDepth 100000 in
theorem kn216_14 : bkn (0, smT) ctb 185 sc216 100000 nl216 nd216_14 = true := by decide +kernel
set_option maxRecDepth 100000 in
theorem kn216_15 : bkn (0, smT) ctb 185 sc216 100000 nl216 nd216_15 = true := by decide +kernel
set_option maxRecDepth 100000 in
theorem kn216_16 : bkn (0, smT) ctb 185 sc216 100000 nl216 nd216_16 = true := by decide +kernel
set_option maxRecDepth 100000 in
theorem kn216_17 : bkn (0, smT) ctb 185 sc216 100000 nl216 nd216_17 = true := by decide +kernel
set_option maxRecDepth 100000 in
theorem kn216_18 : bkn (0, smT) ctb 185 sc216 100000 nl216 nd216_18 = true := by decide +kernel
set_option maxRecDepth 100000 in
theorem kn216_19 : bkn (0, smT) ctb 185 sc216 100000 nl216 nd216_19 = true := by decide +kernel
set_option maxRecDepth 100000 in
theorem kn216_20 : bkn (0, smT) ctb 185 sc216 100000 nl216 nd216_20 = true := by decide +kernel
set_option maxRecDepth 100000 in
theorem kn216_21 : bkn (0, smT) ctb 185 sc216 100000 nl216 nd216_21 = true := by decide +kernel
set_option maxRecDepth 100000 in
theorem kn216_22 : bkn (0, smT) ctb 185 sc216 100000 nl216 nd216_22 = true := by decide +kernel
set_option maxRecDepth 100000 in
theorem kn216_23 : bkn (0, smT) ctb 185 sc216 100000 nl216 nd216_23 = true := by decide +kernel
set_option maxRecDepth 100000 in
theorem kn216_24 : bkn (0, smT) ctb 185 sc216 100000 nl216 nd216_24 = true := by decide +kernel
set_option maxRecDepth 100000 in
theorem kn216_25 : bkn (0, smT) ctb 185 sc216 100000 nl216 nd216_25 = true := by decide +kernel
set_option maxRecDepth 100000 in
theorem kn216_26 : bkn (0, smT) ctb 185 sc216 100000 nl216 nd216_26 = true := by decide +kernel
set_option maxRecDepth 100000 in
theorem kn216_27 : bkn (0, smT) ctb 185 sc216 100000 nl216 nd216_27 = true := by decide +kernel
set_option maxRecDepth 100000 in
theorem kn216_28 : bkn (0, smT) ctb 185 sc216 100000 nl216 nd216_28 = true := by decide +kernel
set_option maxRecDepth 100000 in
theorem kn216_29 : bkn (0, smT) ctb 185 sc216 100000 nl216 nd216_29 = true := by decide +kernel
set_option maxRecDepth 100000 in
theorem kn216_30 : bkn (0, smT) ctb 185 sc216 100000 nl216 nd216_30 = true := by decide +kernel
set_option maxRecDepth 100000 in
theorem kn216_31 : bkn (0, smT) ctb 185 sc216 100000 nl216 nd216_31 = true := by decide +kernel
set_option maxRecDepth 100000 in
theorem kn216_32 : bkn (0, smT) ctb 185 sc216 100000 nl216 nd216_32 = true := by decide +kernel
set_option maxRecDepth 100000 in
theorem kn216_33 : bkn (0, smT) ctb 185 sc216 100000 nl216 nd216_33 = true := by decide +kernel
/-- S$Tape wordAmong -/
def nl217 : List bNd := []
set_option maxRecDepth 100000 in
theorem ke217 : bke (0, smT) ctb 185 sc217 0 100000 nl217 = true := by decide +kernel
def nd218_0 : bNd := (10, [some (.inr (.inl (.ref 1))), some (.inl (0, [(0, 1)])), some (.inl (0, [(1, 1)])), some (.inl (0, [(2, 1)])), none], [(0, 400), (0, 12), (0, 400)], [], [], (0, []), (0, []), (400, [(2, (-1))]))
/-- S$Tape tellsNoons -/
def nl218 : List bNd := [nd218_0]
set_option maxRecDepth 100000 in
theorem ke218 : bke (1, smT) ctb 186 sc218 402 100000 nl218 = true := by decide +kernel
set_option maxRecDepth 100000 in
theorem kn218_0 : bkn (1, smT) ctb 186 sc218 100000 nl218 nd218_0 = true := by decide +kernel
def nd219_0 : bNd := (2, [some (.inr (.inl (.ref 53))), some (.inr (.inl (.ref 3))), some (.inl (0, [(0, 1)])), some (.inl (0, [(1, 1)]))], [((-128), 100), (0, 100)], [], [], (0, []), (0, []), (100, [(1, (-1))]))
/-- S$Trials bedsBehind -/
def nl219 : List bNd := [nd219_0]
set_option maxRecDepth 100000 in
theorem ke219 : bke (4, smT) ctb 190 sc219 102 100000 nl219 = true := by decide +kernel
set_option maxRecDepth 100000 in
theorem kn219_0 : bkn (4, smT) ctb 190 sc219 100000 nl219 nd219_0 = true := by decide +kernel
