/-- a method: how many arguments, locals, static, its class, its answer (0 none, 1 int, 2 boolean), whether it has handlers -/
def zmi : List (Nat × Nat × Nat × Nat × Nat × Nat) := [(1, 7, 1, 99, 2, 0), (2, 3, 1, 99, 1, 1), (2, 3, 1, 99, 1, 1), (4, 5, 1, 99, 1, 1), (4, 5, 1, 99, 1, 1), (4, 5, 1, 99, 1, 1), (4, 5, 1, 99, 1, 1), (4, 5, 1, 99, 1, 1), (5, 6, 1, 99, 1, 1), (3, 4, 1, 99, 1, 1), (3, 4, 1, 99, 1, 1), (3, 4, 1, 99, 1, 1), (4, 5, 1, 99, 1, 1), (4, 5, 1, 99, 1, 1), (4, 5, 1, 99, 1, 1), (4, 5, 1, 99, 1, 1), (5, 6, 1, 99, 1, 1), (5, 6, 1, 99, 1, 1), (4, 5, 1, 99, 1, 1), (4, 5, 1, 99, 1, 1), (4, 5, 1, 99, 1, 1), (4, 5, 1, 99, 1, 1), (3, 4, 1, 99, 1, 1), (3, 4, 1, 99, 1, 1), (4, 5, 1, 99, 1, 1), (5, 6, 1, 99, 1, 1), (4, 5, 1, 99, 1, 1), (4, 5, 1, 99, 1, 1), (3, 4, 1, 99, 1, 1), (4, 5, 1, 99, 1, 1), (3, 4, 1, 99, 1, 1), (4, 5, 1, 99, 1, 1), (3, 4, 1, 99, 1, 1), (4, 5, 1, 99, 1, 1), (4, 5, 1, 99, 1, 1), (2, 3, 1, 99, 1, 1), (4, 5, 1, 99, 1, 1), (4, 5, 1, 99, 1, 1), (1, 1, 0, 11, 0, 0), (6, 6, 0, 11, 1, 0), (2, 2, 0, 11, 2, 0), (1, 1, 0, 11, 1, 0), (1, 1, 0, 11, 1, 0), (1, 1, 0, 11, 1, 0), (3, 3, 0, 11, 1, 0), (3, 3, 0, 11, 1, 0), (3, 3, 0, 11, 1, 0), (3, 3, 0, 11, 1, 0), (3, 3, 0, 11, 1, 0), (4, 4, 0, 11, 1, 0), (2, 4, 0, 11, 1, 0), (2, 2, 0, 11, 1, 0), (2, 2, 0, 11, 1, 0), (3, 4, 0, 11, 1, 0), (3, 4, 0, 11, 1, 0), (3, 4, 0, 11, 1, 0), (3, 3, 0, 11, 1, 0), (4, 4, 0, 11, 1, 0), (4, 4, 0, 11, 1, 0), (3, 3, 0, 11, 1, 0), (3, 3, 0, 11, 1, 0), (3, 4, 0, 11, 1, 0), (3, 3, 0, 11, 1, 0), (2, 2, 0, 11, 1, 0), (1, 1, 0, 11, 1, 0), (2, 2, 0, 11, 1, 0), (3, 3, 0, 11, 1, 0), (4, 4, 0, 11, 1, 0), (3, 3, 0, 11, 1, 0), (3, 3, 0, 11, 1, 0), (2, 2, 0, 11, 1, 0), (3, 4, 0, 11, 1, 0), (2, 2, 0, 11, 1, 0), (3, 5, 0, 11, 1, 0), (1, 1, 0, 11, 1, 0), (2, 2, 0, 11, 1, 0), (3, 3, 0, 11, 1, 0), (3, 3, 0, 11, 1, 0), (1, 4, 0, 11, 1, 0), (2, 4, 0, 11, 1, 0), (3, 3, 0, 11, 1, 0), (3, 3, 0, 11, 1, 0), (2, 3, 0, 11, 1, 0), (1, 1, 0, 11, 2, 0), (1, 1, 0, 11, 0, 0), (1, 1, 0, 11, 2, 0), (2, 2, 0, 11, 1, 0), (2, 2, 0, 11, 0, 0), (2, 2, 0, 11, 0, 0), (3, 3, 1, 11, 0, 0), (1, 1, 0, 0, 0, 0), (2, 2, 0, 0, 0, 0), (2, 4, 0, 0, 1, 0), (2, 4, 0, 0, 1, 0), (1, 3, 0, 0, 1, 0), (1, 3, 0, 0, 1, 0), (2, 2, 1, 0, 1, 0), (1, 1, 0, 0, 1, 0), (3, 4, 0, 0, 0, 0), (4, 4, 0, 0, 0, 0), (3, 6, 0, 0, 1, 0), (2, 2, 0, 0, 1, 0), (3, 6, 0, 0, 1, 0), (4, 7, 0, 0, 1, 0), (4, 8, 0, 0, 0, 0), (3, 6, 0, 0, 1, 0), (3, 5, 0, 0, 1, 0), (1, 1, 0, 1, 0, 0), (2, 2, 0, 1, 0, 0), (6, 7, 0, 1, 0, 0), (3, 3, 0, 1, 1, 0), (2, 4, 0, 1, 1, 0), (3, 6, 0, 1, 1, 0), (1, 1, 0, 2, 0, 0), (4, 5, 0, 2, 0, 0), (5, 5, 0, 2, 1, 0), (3, 3, 0, 2, 1, 0), (3, 5, 0, 2, 1, 0), (4, 7, 0, 2, 1, 0), (3, 3, 0, 2, 1, 0), (2, 3, 0, 2, 0, 0), (2, 4, 0, 2, 1, 0), (2, 4, 0, 2, 1, 0), (2, 7, 0, 2, 1, 0), (3, 5, 0, 2, 1, 0), (3, 3, 0, 2, 1, 0), (4, 6, 0, 2, 1, 0), (4, 6, 0, 2, 1, 0), (1, 1, 0, 3, 0, 0), (4, 5, 0, 3, 1, 0), (2, 2, 0, 3, 2, 0), (2, 2, 0, 3, 2, 0), (4, 4, 0, 3, 2, 0), (2, 2, 0, 3, 2, 0), (4, 4, 0, 3, 2, 0), (2, 3, 0, 3, 2, 0), (2, 2, 0, 3, 2, 0), (2, 6, 0, 3, 2, 0), (2, 2, 0, 3, 2, 0), (2, 3, 0, 3, 2, 0), (2, 2, 0, 3, 2, 0), (2, 2, 0, 3, 2, 0), (2, 2, 0, 3, 2, 0), (2, 2, 0, 3, 2, 0), (1, 1, 0, 4, 0, 0), (4, 4, 0, 4, 0, 0), (4, 4, 0, 4, 0, 0), (1, 1, 0, 5, 0, 0), (2, 2, 0, 5, 0, 0), (1, 1, 0, 5, 0, 0), (3, 3, 0, 5, 0, 0), (1, 1, 0, 5, 0, 0), (2, 2, 0, 5, 0, 0), (3, 5, 0, 5, 1, 0), (2, 2, 1, 5, 1, 0), (3, 10, 0, 5, 2, 0), (1, 1, 0, 6, 0, 0), (2, 3, 0, 6, 1, 0), (2, 2, 0, 6, 2, 0), (2, 3, 0, 6, 2, 0), (3, 6, 0, 6, 2, 0), (3, 5, 0, 6, 2, 0), (3, 3, 0, 6, 2, 0), (3, 3, 0, 6, 2, 0), (2, 6, 0, 6, 2, 0), (1, 1, 0, 7, 0, 0), (1, 1, 0, 7, 0, 0), (3, 3, 0, 7, 0, 0), (3, 4, 0, 7, 2, 0), (1, 1, 0, 8, 0, 0), (2, 2, 0, 8, 0, 0), (3, 3, 0, 8, 2, 0), (1, 1, 0, 8, 1, 0), (3, 3, 0, 8, 1, 0), (4, 4, 0, 8, 1, 0), (2, 4, 0, 8, 1, 0), (2, 4, 0, 8, 1, 0), (3, 7, 0, 8, 1, 0), (1, 1, 0, 9, 0, 0), (2, 3, 0, 9, 0, 0), (1, 1, 0, 9, 0, 0), (1, 2, 0, 9, 0, 0), (2, 2, 0, 9, 2, 0), (2, 2, 0, 9, 2, 0), (2, 2, 0, 9, 2, 0), (2, 6, 0, 9, 1, 0), (3, 5, 0, 9, 2, 0), (2, 2, 0, 9, 1, 0), (2, 2, 0, 9, 1, 0), (1, 1, 0, 10, 0, 0), (3, 4, 0, 10, 1, 0), (5, 6, 0, 10, 1, 0), (6, 7, 0, 10, 1, 0), (6, 11, 0, 10, 1, 0), (5, 10, 0, 10, 1, 0), (5, 8, 0, 10, 1, 0), (4, 10, 0, 10, 1, 0), (3, 5, 0, 10, 1, 0), (5, 6, 0, 10, 1, 0), (6, 8, 0, 10, 2, 0), (4, 5, 0, 10, 1, 0), (3, 4, 0, 10, 1, 0), (4, 5, 0, 10, 1, 0), (5, 9, 0, 10, 1, 0), (6, 8, 0, 10, 1, 0), (5, 10, 0, 10, 1, 0), (5, 8, 0, 10, 1, 0), (4, 9, 0, 10, 1, 0), (3, 3, 0, 12, 2, 0), (3, 3, 1, 12, 2, 0), (2, 2, 1, 12, 2, 0), (1, 1, 0, 12, 0, 0), (1, 2, 0, 12, 0, 0), (1, 2, 0, 12, 2, 0), (1, 2, 0, 12, 0, 0), (1, 2, 0, 12, 2, 0), (1, 1, 0, 12, 1, 0), (1, 1, 0, 12, 1, 0), (2, 2, 1, 12, 1, 0), (2, 2, 1, 12, 1, 0), (3, 3, 0, 12, 1, 0), (3, 3, 0, 12, 1, 0), (4, 4, 0, 12, 0, 0), (2, 2, 0, 12, 1, 0), (2, 4, 0, 12, 1, 0), (2, 2, 0, 12, 1, 0), (2, 2, 0, 12, 1, 0), (2, 2, 0, 12, 2, 0), (2, 2, 0, 12, 2, 0), (2, 2, 0, 12, 2, 0), (3, 7, 0, 12, 2, 0), (2, 2, 0, 12, 1, 0), (6, 7, 0, 12, 1, 0), (2, 2, 0, 12, 2, 0), (3, 3, 0, 12, 2, 0), (1, 1, 0, 12, 0, 0), (1, 1, 0, 12, 0, 0), (2, 4, 0, 12, 2, 0), (2, 2, 0, 12, 2, 0), (2, 2, 0, 12, 2, 0), (4, 5, 0, 12, 1, 0), (3, 3, 0, 12, 1, 0), (1, 1, 0, 12, 1, 0), (1, 1, 0, 12, 1, 0), (1, 1, 0, 12, 0, 0), (1, 1, 0, 12, 1, 0), (1, 1, 0, 12, 1, 0), (1, 5, 0, 12, 2, 0), (1, 4, 0, 12, 2, 0), (1, 5, 0, 12, 2, 0), (1, 4, 0, 12, 2, 0), (1, 4, 0, 12, 2, 0), (1, 3, 0, 12, 2, 0), (3, 5, 0, 12, 2, 0), (1, 1, 0, 12, 2, 0), (3, 3, 0, 12, 0, 0), (1, 2, 0, 12, 2, 0), (1, 1, 0, 12, 2, 0), (1, 3, 0, 12, 2, 0), (1, 2, 0, 12, 2, 0), (1, 1, 0, 12, 2, 0), (1, 1, 0, 12, 2, 0), (2, 3, 0, 12, 2, 0), (3, 3, 0, 12, 2, 0), (2, 3, 0, 12, 1, 0), (1, 3, 0, 12, 1, 0), (1, 3, 0, 12, 1, 0), (6, 6, 0, 12, 1, 0), (5, 12, 0, 12, 2, 0), (4, 6, 0, 12, 1, 0), (2, 4, 0, 12, 1, 0), (2, 4, 0, 12, 1, 0), (3, 3, 0, 12, 1, 0), (3, 3, 0, 12, 1, 0), (2, 4, 0, 12, 1, 0), (3, 3, 0, 12, 1, 0), (3, 3, 0, 12, 1, 0), (3, 3, 0, 12, 1, 0), (4, 4, 0, 12, 1, 0), (4, 7, 0, 12, 1, 0), (3, 5, 0, 12, 1, 0), (5, 6, 0, 12, 0, 0), (2, 9, 0, 12, 1, 0), (1, 3, 0, 12, 1, 0), (2, 4, 0, 12, 1, 0), (2, 2, 0, 12, 1, 0), (2, 2, 0, 12, 1, 0), (2, 2, 0, 12, 1, 0), (2, 2, 0, 12, 1, 0), (3, 4, 0, 12, 1, 0), (3, 3, 0, 12, 1, 0), (3, 3, 0, 12, 1, 0), (3, 3, 0, 12, 1, 0), (1, 2, 0, 12, 0, 0), (1, 2, 0, 12, 0, 0), (2, 3, 0, 12, 0, 0), (1, 3, 0, 12, 1, 0), (1, 3, 0, 12, 1, 0), (1, 3, 0, 12, 1, 0), (3, 4, 0, 12, 1, 0), (3, 4, 0, 12, 1, 0), (4, 5, 0, 12, 1, 0), (3, 3, 0, 12, 2, 0), (4, 8, 0, 12, 1, 0), (3, 8, 0, 12, 1, 0), (4, 4, 0, 12, 2, 0), (3, 6, 0, 12, 1, 0), (3, 11, 0, 12, 1, 0), (1, 2, 0, 12, 0, 0), (4, 6, 0, 12, 2, 0), (3, 4, 0, 12, 1, 0), (2, 3, 0, 12, 1, 0), (1, 2, 0, 12, 1, 0), (2, 3, 0, 12, 1, 0), (3, 7, 0, 12, 1, 0), (4, 6, 0, 12, 1, 0), (4, 4, 0, 12, 1, 0), (3, 8, 0, 12, 1, 0), (3, 6, 0, 12, 1, 0), (2, 7, 0, 12, 1, 0), (2, 5, 0, 12, 1, 0), (3, 5, 0, 12, 1, 0), (2, 2, 0, 12, 1, 0), (3, 4, 0, 12, 1, 0), (1, 6, 0, 12, 1, 0), (2, 4, 0, 12, 1, 0), (3, 7, 0, 12, 1, 0), (3, 4, 0, 12, 1, 0), (3, 4, 0, 12, 1, 0), (2, 2, 0, 12, 1, 0), (1, 5, 0, 12, 1, 0), (2, 6, 0, 12, 1, 0), (3, 3, 0, 12, 1, 0), (3, 6, 0, 12, 1, 0), (2, 3, 0, 12, 1, 0), (2, 4, 0, 12, 1, 0), (2, 3, 1, 99, 1, 0), (1, 1, 1, 99, 1, 0), (1, 1, 0, 12, 1, 0)]
/-- handlers: from, to, at, which exception -/
def zhs : List (List (Nat × Nat × Nat × Nat)) := [[], [(0, 8, 11, 0), (0, 8, 14, 1)], [(0, 8, 11, 0)], [(0, 10, 13, 2), (0, 10, 17, 3)], [(0, 10, 13, 2)], [(0, 10, 13, 2), (0, 10, 17, 3)], [(0, 10, 13, 2)], [(0, 10, 13, 2)], [(0, 12, 15, 2), (0, 12, 19, 3)], [(0, 9, 12, 0)], [(0, 9, 12, 2)], [(0, 9, 12, 2)], [(0, 10, 13, 2), (0, 10, 17, 0)], [(0, 10, 13, 2), (0, 10, 17, 0)], [(0, 10, 13, 2), (0, 10, 17, 0)], [(0, 10, 13, 0), (0, 10, 17, 3)], [(0, 12, 15, 2), (0, 12, 19, 0)], [(0, 12, 15, 0)], [(0, 10, 13, 0)], [(0, 10, 13, 0)], [(0, 10, 13, 0)], [(0, 10, 13, 0)], [(0, 9, 12, 0)], [(0, 9, 12, 0)], [(0, 10, 13, 2), (0, 10, 17, 0)], [(0, 12, 15, 2), (0, 12, 19, 0)], [(0, 10, 13, 2), (0, 10, 17, 0)], [(0, 10, 13, 0)], [(0, 9, 12, 0)], [(0, 10, 13, 2)], [(0, 9, 12, 2)], [(0, 10, 13, 2)], [(0, 9, 12, 0)], [(0, 10, 13, 2)], [(0, 10, 13, 2), (0, 10, 17, 0)], [(0, 8, 11, 0)], [(0, 10, 13, 3)], [(0, 10, 13, 2), (0, 10, 17, 0)]]
def zsws : List (List (Int32 × Nat) × Nat) := [([(0, 248), (1, 321), (2, 346), (3, 362), (4, 378), (5, 391), (6, 431), (7, 471), (8, 511), (9, 551), (10, 591), (11, 643), (12, 671), (13, 699), (14, 727), (15, 767), (16, 835), (17, 875), (18, 915), (19, 967), (20, 1035), (21, 1075), (22, 1115), (23, 1171), (24, 1211), (25, 1239), (26, 1252), (27, 1280), (28, 1320), (29, 1372), (30, 1412), (31, 1468), (32, 1496), (33, 1552), (34, 1580), (35, 1620), (36, 1633), (37, 1661), (38, 1701), (39, 1741), (40, 1757), (41, 1782), (42, 1822), (43, 1862), (44, 1887), (45, 1900), (46, 1911), (47, 1924)], 1949),
  ([(0, 48), (1, 61), (2, 74), (3, 84), (4, 93), (5, 106), (6, 119)], 132),
  ([(0, 48), (1, 69), (2, 78), (3, 88), (4, 98), (5, 111), (6, 121)], 133),
  ([(0, 76), (1, 87), (2, 98), (3, 109), (4, 120), (5, 131), (6, 139), (7, 147), (8, 155), (9, 163), (10, 171), (11, 179), (12, 187), (13, 195), (14, 203)], 211),
  ([(0, 56), (1, 62), (2, 68), (3, 74), (4, 80), (5, 86), (6, 92), (7, 98), (8, 104)], 110),
  ([(0, 28), (1, 36), (2, 39)], 41),
  ([(1021, 172), (1022, 188), (1023, 212), (1024, 236)], 252),
  ([(0, 44), (1, 47), (2, 56)], 64),
  ([(0, 48), (1, 50), (2, 53), (3, 68), (4, 75), (5, 82), (6, 90), (7, 107)], 127),
  ([(0, 84), (1, 90), (2, 96), (3, 103), (4, 110), (5, 117)], 124),
  ([(4, 68), (5, 175), (6, 91), (7, 117), (8, 122), (9, 130), (10, 138), (11, 146), (12, 154), (13, 162), (14, 170)], 175)]
/-- the fields of an object: a number, or a reference -/
def zcsh : List (List (Option (Option Nat))) := [[some none, some none, some none, some none, some none, some none, none, none, none, none, none, none, none], [some none, none, none], [some none, some none, some none], [some none, some none, none, none, none, none], [some none, some none, some none, some none, none], [none, none, some none, some none, some none, some none, some none, some none], [some none, none], [some none, some none, none, none], [none, none, none, none, some none, some none, some none, some none, some none], [some none, none, none, none, none, none], [some none, some none], [some none, some none, some none, some none, some none, some none, some none, some none, some none, none], [none, some none, some none, some none, some none, some none, none, none, some none, none, none, none, none, none, none, some none, none, some none, some none]]
/-- the bytes of the String constants -/
def zstrs : List (List Int32) := [[114, 111, 111, 109, 32, 100, 111, 111, 114, 32, 112, 101, 114, 115, 111, 110, 32, 108, 111, 97, 100, 32, 115, 97, 110, 100, 32, 116, 111, 111, 108, 32, 107, 101, 101, 112, 115, 32, 119, 101, 116, 32, 99, 108, 111, 103],
  [111, 117, 116, 32, 115, 116, 111, 110, 101, 32, 99, 97, 114, 112, 101, 116, 32, 98, 101, 100, 32, 100, 114, 97, 105, 110],
  [116, 104, 101, 32, 116, 101, 120, 116, 32, 111, 102, 32, 116, 104, 101, 32, 104, 111, 117, 115, 101, 32, 105, 115, 32, 119, 114, 111, 110, 103],
  [116, 104, 101, 114, 101, 32, 97, 114, 101, 32, 116, 119, 101, 108, 118, 101, 32, 116, 101, 120, 116, 115],
  [98, 114, 105, 110, 103, 32, 100, 114, 111, 112, 32, 112, 105, 99, 107, 32, 115, 119, 101, 101, 112],
  [105, 102],
  [110, 111, 116],
  [111, 117, 116, 32, 115, 116, 111, 110, 101, 32, 99, 97, 114, 112, 101, 116, 32, 98, 101, 100, 32, 100, 114, 97, 105, 110],
  [119, 101, 116],
  [112, 101, 114, 115, 111, 110, 32, 114, 111, 111, 109, 32, 108, 111, 97, 100, 32, 104, 101, 114, 101, 32, 114, 111, 117, 110, 100, 32, 112, 97, 114, 116],
  [97, 110, 100],
  [111, 114],
  [116, 104, 101, 32, 116, 101, 120, 116, 32, 111, 102, 32, 116, 104, 101, 32, 108, 97, 119, 32, 105, 115, 32, 119, 114, 111, 110, 103],
  [116, 104, 101, 114, 101, 32, 105, 115, 32, 110, 111, 32, 115, 117, 99, 104, 32, 114, 111, 111, 109],
  [97, 32, 114, 111, 111, 109, 32, 116, 101, 108, 108, 115, 32, 48, 32, 116, 111, 32, 54],
  [116, 104, 101, 114, 101, 32, 105, 115, 32, 110, 111, 32, 115, 117, 99, 104, 32, 112, 101, 114, 115, 111, 110],
  [97, 32, 112, 101, 114, 115, 111, 110, 32, 116, 101, 108, 108, 115, 32, 48, 32, 116, 111, 32, 54],
  [97, 32, 114, 117, 108, 101, 32, 116, 101, 108, 108, 115, 32, 48, 32, 116, 111, 32, 50],
  [116, 104, 101, 32, 110, 117, 109, 98, 101, 114, 32, 105, 115, 32, 110, 111, 110, 101],
  [97, 32, 116, 114, 105, 97, 108, 32, 116, 101, 108, 108, 115, 32, 48, 32, 116, 111, 32, 51],
  [98, 111, 116, 104, 32, 97, 114, 101, 32, 111, 110, 101],
  [116, 104, 101, 32, 116, 97, 112, 101, 32, 116, 101, 108, 108, 115, 32, 110, 111, 32, 114, 111, 111, 109, 115, 32, 97, 110, 100, 32, 114, 111, 117, 110, 100, 115],
  [97, 32, 114, 111, 119, 32, 116, 101, 108, 108, 115, 32, 48, 32, 116, 111, 32, 52],
  [114, 111, 111, 109],
  [111, 117, 116],
  [115, 116, 111, 110, 101],
  [99, 97, 114, 112, 101, 116],
  [98, 101, 100],
  [100, 114, 97, 105, 110],
  [100, 111, 111, 114],
  [112, 101, 114, 115, 111, 110],
  [108, 111, 97, 100],
  [115, 97, 110, 100],
  [116, 111, 111, 108],
  [107, 101, 101, 112, 115],
  [119, 101, 116],
  [99, 108, 111, 103],
  [98, 114, 105, 110, 103],
  [100, 114, 111, 112],
  [112, 105, 99, 107],
  [115, 119, 101, 101, 112],
  [105, 102],
  [110, 111, 116],
  [104, 101, 114, 101],
  [114, 111, 117, 110, 100],
  [112, 97, 114, 116],
  [97, 110, 100],
  [111, 114]]
def zsref : List (String × Nat × String) := [("SandHouse$HouseReader", 67, "room door person load sand tool keeps wet clog"), ("SandHouse$HouseReader", 117, "out stone carpet bed drain"), ("SandHouse", 93, "the text of the house is wrong"), ("SandHouse", 105, "there are twelve texts"), ("SandHouse$LawReader", 47, "bring drop pick sweep"), ("SandHouse$LawReader", 67, "if"), ("SandHouse$LawReader", 91, "not"), ("SandHouse$LawReader", 99, "out stone carpet bed drain"), ("SandHouse$LawReader", 101, "wet"), ("SandHouse$LawReader", 106, "person room load here round part"), ("SandHouse$LawReader", 87, "and"), ("SandHouse$LawReader", 89, "or"), ("SandHouse", 123, "the text of the law is wrong"), ("SandHouse", 397, "there is no such room"), ("SandHouse", 167, "a room tells 0 to 6"), ("SandHouse", 400, "there is no such person"), ("SandHouse", 198, "a person tells 0 to 6"), ("SandHouse", 203, "a rule tells 0 to 2"), ("SandHouse", 402, "the number is none"), ("SandHouse", 230, "a trial tells 0 to 3"), ("SandHouse", 307, "both are one"), ("SandHouse", 320, "the tape tells no rooms and rounds"), ("SandHouse", 338, "a row tells 0 to 4"), ("SandHouseModel", 157, "room"), ("SandHouseModel", 120, "out"), ("SandHouseModel", 122, "stone"), ("SandHouseModel", 124, "carpet"), ("SandHouseModel", 126, "bed"), ("SandHouseModel", 128, "drain"), ("SandHouseModel", 163, "door"), ("SandHouseModel", 168, "person"), ("SandHouseModel", 173, "load"), ("SandHouseModel", 178, "sand"), ("SandHouseModel", 183, "tool"), ("SandHouseModel", 188, "keeps"), ("SandHouseModel", 193, "wet"), ("SandHouseModel", 195, "clog"), ("SandHouseModel", 245, "bring"), ("SandHouseModel", 247, "drop"), ("SandHouseModel", 249, "pick"), ("SandHouseModel", 251, "sweep"), ("SandHouseModel", 253, "if"), ("SandHouseModel", 224, "not"), ("SandHouseModel", 205, "here"), ("SandHouseModel", 207, "round"), ("SandHouseModel", 209, "part"), ("SandHouseModel", 238, "and"), ("SandHouseModel", 243, "or")]
def zldI (k : List Value → Option zR) (ls : zLs) (i : Nat) (st : List Value) : Option zR := match zat ls i with
  | some (some (.int x)) => k (.int x :: st)
  | _ => none
def zldJ (k : List Value → Option zR) (ls : zLs) (i : Nat) (st : List Value) : Option zR := match zat ls i with
  | some (some (.long x)) => k (.long x :: st)
  | _ => none
def zldA (k : List Value → Option zR) (ls : zLs) (i : Nat) (st : List Value) : Option zR := match zat ls i with
  | some (some v) => cond (zisA v) (k (v :: st)) none
  | _ => none
def zstI (k : zLs → List Value → Option zR) (ls : zLs) (i : Nat) (st : List Value) : Option zR := match st with
  | .int x :: r => k (zstl ls i (.int x)) r
  | _ => none
def zstJ (k : zLs → List Value → Option zR) (ls : zLs) (i : Nat) (st : List Value) : Option zR := match st with
  | .long x :: r => k (zset (zstl ls i (.long x)) (i + 1) none) r
  | _ => none
def zstA (k : zLs → List Value → Option zR) (ls : zLs) (i : Nat) (st : List Value) : Option zR := match st with
  | .ref x :: r => k (zstl ls i (.ref x)) r
  | .double x :: r => k (zstl ls i (.double x)) r
  | _ => none
def zinc (k : zLs → Option zR) (ls : zLs) (i : Nat) (z : Int32) : Option zR := match zat ls i with
  | some (some (.int x)) => k (zstl ls i (.int (x + z)))
  | _ => none
def zb2 (k : List Value → Option zR) (f : Int32 → Int32 → Int32) (st : List Value) : Option zR := match st with
  | .int b :: .int a :: r => k (.int (f a b) :: r)
  | _ => none
def zl2 (k : List Value → Option zR) (f : Int64 → Int64 → Int64) (st : List Value) : Option zR := match st with
  | .long b :: .long a :: r => k (.long (f a b) :: r)
  | _ => none
def zif1 (k : Nat → List Value → Option zR) (c : ClassFile.Cond) (t p : Nat) (st : List Value) : Option zR := match st with
  | .int x :: r => (match c with
    | .eq => if x = 0 then k t r else k p r
    | .ne => if x = 0 then k p r else k t r
    | .lt => if x < 0 then k t r else k p r
    | .ge => if 0 ≤ x then k t r else k p r
    | .gt => if 0 < x then k t r else k p r
    | .le => if x ≤ 0 then k t r else k p r)
  | _ => none
def zif2 (k : Nat → List Value → Option zR) (c : ClassFile.Cond) (t p : Nat) (st : List Value) : Option zR := match st with
  | .int y :: .int x :: r => (match c with
    | .eq => if x = y then k t r else k p r
    | .ne => if x = y then k p r else k t r
    | .lt => if x < y then k t r else k p r
    | .ge => if y ≤ x then k t r else k p r
    | .gt => if y < x then k t r else k p r
    | .le => if x ≤ y then k t r else k p r)
  | _ => none
def znul (k : Nat → List Value → Option zR) (t p : Nat) (st : List Value) : Option zR := match st with
  | .null :: r => k t r
  | .ref _ :: r => k p r
  | _ => none
def zget (k : List Value → Option zR) (h : zH) (ci fk : Nat) (st : List Value) : Option zR := match st with
  | .ref a :: r => (match zat h.1 a with
    | some (.inr (.inl (c, sl))) => cond (Nat.beq c ci) (match zat sl fk with
      | some none => k (.int (h.2.1 a fk) :: r)
      | some (some o) => k (zrf o :: r)
      | none => none) none
    | _ => none)
  | _ => none
/-- z = 1: a field of type boolean -/
def zput (k : List Value → zH → Option zR) (h : zH) (ci fk : Nat) (z : Int32) (st : List Value) : Option zR := match st with
  | .int y :: .ref a :: r => (match zat h.1 a with
    | some (.inr (.inl (c, sl))) => cond (Nat.beq c ci) (match zat sl fk with
      | some none => if z = 0 then k r (zsetI h a (upd (h.2.1 a) fk y)) else zc01 y (k r (zsetI h a (upd (h.2.1 a) fk y)))
      | _ => none) none
    | _ => none)
  | .ref b :: .ref a :: r => (match zat h.1 a with
    | some (.inr (.inl (c, sl))) => cond (Nat.beq c ci) (match zat sl fk with
      | some (some _) => k r (zsetS h a (.inr (.inl (c, zset sl fk (some (some b))))))
      | _ => none) none
    | _ => none)
  | _ => none
def zald (E : zE) (k : List Value → Option zR) (h : zH) (st : List Value) : Option zR := match st with
  | .int j :: .ref a :: r => zarr h 0 a fun n => zck j n (k (.int (h.2.1 a j.toNatClampNeg) :: r))
  | .int j :: .float _ :: r => zck j E.1 (k (.int (E.2 j.toNatClampNeg) :: r))
  | _ => none
def zaldB (k : List Value → Option zR) (h : zH) (st : List Value) : Option zR := match st with
  | .int j :: .ref a :: r => zarr h 1 a fun n => zck j n (k (.int (h.2.1 a j.toNatClampNeg) :: r))
  | _ => none
def zaldJ (k : List Value → Option zR) (h : zH) (st : List Value) : Option zR := match st with
  | .int j :: .ref a :: r => zarr h 2 a fun n => zck j n (k (.long (h.2.2.1 a j.toNatClampNeg) :: r))
  | _ => none
def zaldA (k : List Value → Option zR) (h : zH) (st : List Value) : Option zR := match st with
  | .int j :: .ref a :: r => (match zat h.1 a with
    | some (.inl (t, n, rf)) => cond (Nat.ble 3 t) (zck j n (match zat rf j.toNatClampNeg with
      | some o => k (zrf o :: r)
      | none => none)) none
    | _ => none)
  | _ => none
def zast (k : List Value → zH → Option zR) (h : zH) (st : List Value) : Option zR := match st with
  | .int x :: .int j :: .ref a :: r => zarr h 0 a fun n => zck j n (k r (zsetI h a (upd (h.2.1 a) j.toNatClampNeg x)))
  | _ => none
def zastB (k : List Value → zH → Option zR) (h : zH) (st : List Value) : Option zR := match st with
  | .int x :: .int j :: .ref a :: r => zarr h 1 a fun n => zck j n (k r (zsetI h a (upd (h.2.1 a) j.toNatClampNeg x.toInt8.toInt32)))
  | _ => none
def zastJ (k : List Value → zH → Option zR) (h : zH) (st : List Value) : Option zR := match st with
  | .long x :: .int j :: .ref a :: r => zarr h 2 a fun n => zck j n (k r (zsetJ h a (vp_updL (h.2.2.1 a) j.toNatClampNeg x)))
  | _ => none
def zastA (k : List Value → zH → Option zR) (h : zH) (st : List Value) : Option zR := match st with
  | .ref b :: .int j :: .ref a :: r => (match zat h.1 a with
    | some (.inl (t, n, rf)) => cond (Nat.ble 3 t) (zck j n (match zat h.1 b with
      | some (.inr (.inl (c, _))) => cond (Nat.beq (c + 3) t) (k r (zsetS h a (.inl (t, n, zset rf j.toNatClampNeg (some b))))) none
      | _ => none)) none
    | _ => none)
  | _ => none
def zalen (E : zE) (k : List Value → Option zR) (h : zH) (st : List Value) : Option zR := match st with
  | .ref a :: r => (match zat h.1 a with
    | some (.inl (_, n, _)) => k (.int (Int32.ofNat n) :: r)
    | _ => none)
  | .float _ :: r => k (.int (Int32.ofNat E.1) :: r)
  | _ => none
def znewa (k : List Value → zH → Option zR) (h : zH) (t : Nat) (st : List Value) : Option zR := match st with
  | .int n :: r => if n < 0 then none else cond (Nat.ble n.toNatClampNeg 100000) (k (.ref h.1.length :: r) (zpush h (.inl (t, n.toNatClampNeg, cond (Nat.ble 3 t) (List.replicate n.toNatClampNeg none) [])) n.toNatClampNeg)) none
  | _ => none
def zcopy (k : List Value → zH → Option zR) (h : zH) (st : List Value) : Option zR := match st with
  | .int n :: .int dp :: .ref b :: .int sp :: .ref a :: r => zarr h 0 a fun na => zarr h 0 b fun nb =>
    if sp < 0 then none else if dp < 0 then none else if n < 0 then none else
    cond (Nat.ble (sp.toNatClampNeg + n.toNatClampNeg) na && Nat.ble (dp.toNatClampNeg + n.toNatClampNeg) nb && Nat.ble (zsum r) 8)
      (k r (zsetI h b (va_cpy (h.2.1 a) (h.2.1 b) sp.toNatClampNeg dp.toNatClampNeg n.toNatClampNeg))) none
  | _ => none
def zrecv (h : zH) (stc ci : Nat) (as : List Value) (r : Option zR) : Option zR := match stc with
  | 0 => (match as with
    | .ref k :: _ => (match zat h.1 k with
      | some (.inr (.inl (c, _))) => cond (Nat.beq c ci) r none
      | _ => none)
    | _ => none)
  | _ + 1 => r
/-- a call of method j; tx: it may throw -/
def zinv (ih : zF) (nx : zLs → List Value → zH → Option zR) (d mi pc j : Nat) (tx : Bool) (ls : zLs) (st : List Value) (h : zH) : Option zR := match zat zmi j with
  | none => none
  | some (na, mL, stc, ci, _, kd) => (match zpop na st [] with
    | none => none
    | some (as, r) => cond (Nat.ble (zsum r) 8 && as.all zc1) (zrecv h stc ci as (match d with
      | 0 => none
      | d' + 1 => zcall (ih d' j 0 (zent mL as) [] h) (fun v h1 => nx ls (v.toList ++ r) h1)
        (fun x h1 => cond (tx && Nat.beq kd 0) (match zat zhs mi with
          | some (e :: l) => (match zhand (e :: l) pc x with
            | some t => ih d mi t ls [.double 0] h1
            | none => none)
          | _ => some (.inr x, h1)) none))) none)
def zpri (nx : zLs → List Value → zH → Option zR) (kind : Nat) (ls : zLs) (st : List Value) (h : zH) : Option zR := match kind with
  | 1 => (match st with
    | .ref _ :: r => cond (Nat.ble (zsum r) 8) (nx ls r h) none
    | _ => none)
  | 2 => (match st with
    | .int y :: .int x :: r => cond (Nat.ble (zsum r) 8) (nx ls (.int (if y < x then y else x) :: r) h) none
    | _ => none)
  | 3 => (match st with
    | .int y :: .int x :: r => cond (Nat.ble (zsum r) 8) (nx ls (.int (if x < y then y else x) :: r) h) none
    | _ => none)
  | 4 => (match st with
    | .retAddr i :: r => cond (Nat.ble (zsum r) 8) (match zat zstrs i with
      | some bs => nx ls (.int (Int32.ofNat bs.length) :: r) h
      | none => none) none
    | _ => none)
  | 5 => (match st with
    | .int j :: .retAddr i :: r => cond (Nat.ble (zsum r) 8) (match zat zstrs i with
      | some bs => zck j bs.length (match zat bs j.toNatClampNeg with
        | some b => nx ls (.int b :: r) h
        | none => none)
      | none => none) none
    | _ => none)
  | 6 => zcopy (nx ls) h st
  | _ => none
def zins (E : zE) (ih : zF) (d mi pc : Nat) (ls : zLs) (st : List Value) (h : zH) (ln a1 a2 a3 : Nat) (z : Int32) (ins : Instr) : Option zR := match ins with
  | .aconst_null => ih d mi (pc + ln) ls (.null :: st) h
  | .iconst _ => ih d mi (pc + ln) ls (.int z :: st) h
  | .bipush _ => ih d mi (pc + ln) ls (.int z :: st) h
  | .sipush _ => ih d mi (pc + ln) ls (.int z :: st) h
  | .lconst _ => ih d mi (pc + ln) ls (.long z.toInt64 :: st) h
  | .ldc2_w _ => ih d mi (pc + ln) ls (.long z.toInt64 :: st) h
  | .ldc _ => (match a1 with
    | 0 => ih d mi (pc + ln) ls (.int z :: st) h
    | 1 => ih d mi (pc + ln) ls (.retAddr a2 :: st) h
    | _ => none)
  | .ldc_w _ => (match a1 with
    | 0 => ih d mi (pc + ln) ls (.int z :: st) h
    | _ => none)
  | .iload i => zldI (fun s => ih d mi (pc + ln) ls s h) ls i st
  | .iload_n i => zldI (fun s => ih d mi (pc + ln) ls s h) ls i.val st
  | .lload i => zldJ (fun s => ih d mi (pc + ln) ls s h) ls i st
  | .lload_n i => zldJ (fun s => ih d mi (pc + ln) ls s h) ls i.val st
  | .aload i => zldA (fun s => ih d mi (pc + ln) ls s h) ls i st
  | .aload_n i => zldA (fun s => ih d mi (pc + ln) ls s h) ls i.val st
  | .istore i => zstI (fun l s => ih d mi (pc + ln) l s h) ls i st
  | .istore_n i => zstI (fun l s => ih d mi (pc + ln) l s h) ls i.val st
  | .lstore i => zstJ (fun l s => ih d mi (pc + ln) l s h) ls i st
  | .lstore_n i => zstJ (fun l s => ih d mi (pc + ln) l s h) ls i.val st
  | .astore i => zstA (fun l s => ih d mi (pc + ln) l s h) ls i st
  | .astore_n i => zstA (fun l s => ih d mi (pc + ln) l s h) ls i.val st
  | .iinc i _ => zinc (fun l => ih d mi (pc + ln) l st h) ls i z
  | .iadd => zb2 (fun s => ih d mi (pc + ln) ls s h) (fun a b => a + b) st
  | .isub => zb2 (fun s => ih d mi (pc + ln) ls s h) (fun a b => a - b) st
  | .imul => zb2 (fun s => ih d mi (pc + ln) ls s h) (fun a b => a * b) st
  | .iand => zb2 (fun s => ih d mi (pc + ln) ls s h) (fun a b => a &&& b) st
  | .ior => zb2 (fun s => ih d mi (pc + ln) ls s h) (fun a b => a ||| b) st
  | .ixor => zb2 (fun s => ih d mi (pc + ln) ls s h) (fun a b => a ^^^ b) st
  | .ishl => zb2 (fun s => ih d mi (pc + ln) ls s h) (fun a b => a <<< (b &&& 31)) st
  | .ishr => zb2 (fun s => ih d mi (pc + ln) ls s h) (fun a b => a >>> (b &&& 31)) st
  | .iushr => zb2 (fun s => ih d mi (pc + ln) ls s h) (fun a b => (a.toUInt32 >>> (b.toUInt32 &&& Int32.toUInt32 31)).toInt32) st
  | .idiv => (match st with
    | .int y :: .int x :: r => znz y (ih d mi (pc + ln) ls (.int (x / y) :: r) h)
    | _ => none)
  | .irem => (match st with
    | .int y :: .int x :: r => znz y (ih d mi (pc + ln) ls (.int (x - x / y * y) :: r) h)
    | _ => none)
  | .ladd => zl2 (fun s => ih d mi (pc + ln) ls s h) (fun a b => a + b) st
  | .lsub => zl2 (fun s => ih d mi (pc + ln) ls s h) (fun a b => a - b) st
  | .lmul => zl2 (fun s => ih d mi (pc + ln) ls s h) (fun a b => a * b) st
  | .land => zl2 (fun s => ih d mi (pc + ln) ls s h) (fun a b => a &&& b) st
  | .lor => zl2 (fun s => ih d mi (pc + ln) ls s h) (fun a b => a ||| b) st
  | .ldiv => (match st with
    | .long y :: .long x :: r => znzl y (ih d mi (pc + ln) ls (.long (x / y) :: r) h)
    | _ => none)
  | .lcmp => (match st with
    | .long y :: .long x :: r => ih d mi (pc + ln) ls (.int (lg_cmp x y) :: r) h
    | _ => none)
  | .i2l => (match st with
    | .int x :: r => ih d mi (pc + ln) ls (.long x.toInt64 :: r) h
    | _ => none)
  | .l2i => (match st with
    | .long x :: r => ih d mi (pc + ln) ls (.int x.toInt32 :: r) h
    | _ => none)
  | .i2b => (match st with
    | .int x :: r => ih d mi (pc + ln) ls (.int x.toInt8.toInt32 :: r) h
    | _ => none)
  | .dup => (match st with
    | v :: r => cond (zc1 v) (ih d mi (pc + ln) ls (v :: v :: r) h) none
    | _ => none)
  | .dup2 => (match st with
    | v :: u :: r => cond (zc1 v && zc1 u) (ih d mi (pc + ln) ls (v :: u :: v :: u :: r) h) none
    | _ => none)
  | .pop => (match st with
    | v :: r => cond (zc1 v) (ih d mi (pc + ln) ls r h) none
    | _ => none)
  | .goto _ => ih d mi a1 ls st h
  | .ifCond c _ => zif1 (fun p s => ih d mi p ls s h) c a1 (pc + ln) st
  | .if_icmp c _ => zif2 (fun p s => ih d mi p ls s h) c a1 (pc + ln) st
  | .ifnull _ => znul (fun p s => ih d mi p ls s h) a1 (pc + ln) st
  | .ifnonnull _ => znul (fun p s => ih d mi p ls s h) (pc + ln) a1 st
  | .tableswitch .. => (match st with
    | .int x :: r => (match zat zsws a1 with
      | some (l, t) => zsw x l t (fun p => ih d mi p ls r h)
      | none => none)
    | _ => none)
  | .getfield _ => zget (fun s => ih d mi (pc + ln) ls s h) h a1 a2 st
  | .putfield _ => zput (fun s h' => ih d mi (pc + ln) ls s h') h a1 a2 z st
  | .iaload => zald E (fun s => ih d mi (pc + ln) ls s h) h st
  | .baload => zaldB (fun s => ih d mi (pc + ln) ls s h) h st
  | .laload => zaldJ (fun s => ih d mi (pc + ln) ls s h) h st
  | .aaload => zaldA (fun s => ih d mi (pc + ln) ls s h) h st
  | .iastore => zast (fun s h' => ih d mi (pc + ln) ls s h') h st
  | .bastore => zastB (fun s h' => ih d mi (pc + ln) ls s h') h st
  | .lastore => zastJ (fun s h' => ih d mi (pc + ln) ls s h') h st
  | .aastore => zastA (fun s h' => ih d mi (pc + ln) ls s h') h st
  | .arraylength => zalen E (fun s => ih d mi (pc + ln) ls s h) h st
  | .newarray _ => znewa (fun s h' => ih d mi (pc + ln) ls s h') h a1 st
  | .anewarray _ => znewa (fun s h' => ih d mi (pc + ln) ls s h') h a1 st
  | .new _ => (match a1 with
    | 0 => (match zat zcsh a2 with
      | some sl => ih d mi (pc + ln) ls (.ref h.1.length :: st) (zpush h (.inr (.inl (a2, sl))) sl.length)
      | none => none)
    | _ => cond (Nat.ble (zsum st) 8) (some (.inr a2, (h.1, h.2.1, h.2.2.1, h.2.2.2.1 + 1, h.2.2.2.2 + 6))) none)
  | .invokespecial _ => (match a1 with
    | 0 => zinv ih (ih d mi (pc + ln)) d mi pc a2 false ls st h
    | _ => zpri (ih d mi (pc + ln)) a1 ls st h)
  | .invokevirtual _ => (match a1 with
    | 0 => zinv ih (ih d mi (pc + ln)) d mi pc a2 (Nat.beq a3 0) ls st h
    | _ => zpri (ih d mi (pc + ln)) a1 ls st h)
  | .invokestatic _ => (match a1 with
    | 0 => zinv ih (ih d mi (pc + ln)) d mi pc a2 (Nat.beq a3 0) ls st h
    | _ => zpri (ih d mi (pc + ln)) a1 ls st h)
  | .ireturn => (match st with
    | [.int x] => (match zat zmi mi with
      | some (_, _, _, _, 1, _) => some (.inl (some (.int x)), h)
      | some (_, _, _, _, 2, _) => zc01 x (some (.inl (some (.int x)), h))
      | _ => none)
    | _ => none)
  | .return_ => (match st with
    | [] => (match zat zmi mi with
      | some (_, _, _, _, 0, _) => some (.inl none, h)
      | _ => none)
    | _ => none)
  | _ => none
def zbody (E : zE) (ih : zF) : zF := fun d mi pc ls st h => match zfetch mi pc with
  | none => none
  | some (ins, ln, (a1, a2, a3), z, _) => zins E ih d mi pc ls st h ln a1 a2 a3 z ins
noncomputable def zex (E : zE) (n : Nat) : zF := Nat.rec (motive := fun _ => zF) (fun _ _ _ _ _ _ => none) (fun _ ih => zbody E ih) n
theorem zex_succ (E : zE) (n : Nat) : zex E (n + 1) = zbody E (zex E n) := rfl
theorem zex_zero (E : zE) (d mi pc : Nat) (ls : zLs) (st : List Value) (h : zH) : zex E 0 d mi pc ls st h = none := rfl
