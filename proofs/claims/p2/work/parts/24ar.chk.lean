def nd169_0 : bNd := (7, [some (.inr (.inl (.ref 76))), some (.inr (.inl (.ref 1))), some (.inl ((-1), [])), some (.inl (0, [(3, 1)])), some (.inl (0, [(4, 1)])), none], [(0, 399), (1, 400), (0, 0), (0, 1), (0, 400), (0, 399), (1, 400), (0, 0)], [], [(1, 2, (2, [])), (1, 3, (0, [(5, 1)])), (1, 4, (0, [(6, 1)])), (1, 5, (0, [(7, 1)]))], (0, []), (0, []), (400, [(4, (-1))]))
def nd169_1 : bNd := (7, [some (.inr (.inl (.ref 76))), some (.inr (.inl (.ref 1))), some (.inl (1023, [])), some (.inl (0, [(3, 1)])), some (.inl (0, [(4, 1)])), some (.inl (0, [(5, 1)]))], [(0, 399), (1, 400), (0, 0), (0, 1), (1, 400), ((-1), 7), (0, 400), (0, 400), (0, 0)], [], [(1, 2, (0, [])), (1, 3, (0, [(6, 1)])), (1, 4, (0, [(7, 1)])), (1, 5, (0, [(8, 1)]))], (0, []), (0, []), (400, [(4, (-1))]))
def nd169_2 : bNd := (7, [some (.inr (.inl (.ref 76))), some (.inr (.inl (.ref 1))), some (.inl (1023, [])), some (.inl (0, [(3, 1)])), some (.inl (0, [(4, 1)])), some (.inl (0, [(5, 1)]))], [(0, 399), (1, 400), (0, 0), (0, 1), (1, 400), ((-1), 7), (0, 396), (4, 400), ((-2147483648), 2147483647)], [((-4), [(6, (-1)), (7, 1)])], [(1, 2, (1, [])), (1, 3, (0, [(6, 1)])), (1, 4, (0, [(7, 1)])), (1, 5, (0, [(8, 1)]))], (0, []), (0, []), (400, [(4, (-1))]))
def nd169_3 : bNd := (7, [some (.inr (.inl (.ref 76))), some (.inr (.inl (.ref 1))), some (.inl (1023, [])), some (.inl (0, [(3, 1)])), some (.inl (0, [(4, 1)])), some (.inl (0, [(5, 1)]))], [(0, 399), (1, 400), (0, 0), (0, 1), (1, 400), ((-1), 7), (0, 399), (1, 400), (0, 999)], [], [(1, 2, (1, [])), (1, 3, (0, [(6, 1)])), (1, 4, (0, [(7, 1)])), (1, 5, (0, [(8, 1)]))], (0, []), (0, []), (400, [(4, (-1))]))
def nd169_4 : bNd := (7, [some (.inr (.inl (.ref 76))), some (.inr (.inl (.ref 1))), some (.inl (1023, [])), some (.inl (0, [(3, 1)])), some (.inl (0, [(4, 1)])), some (.inl (0, [(5, 1)]))], [(0, 399), (1, 400), (0, 0), (0, 1), (1, 400), ((-1), 7), (0, 399), (1, 400), (0, 0)], [], [(1, 2, (2, [])), (1, 3, (0, [(6, 1)])), (1, 4, (0, [(7, 1)])), (1, 5, (0, [(8, 1)]))], (0, []), (0, []), (400, [(4, (-1))]))
def nd169_5 : bNd := (7, [some (.inr (.inl (.ref 76))), some (.inr (.inl (.ref 1))), some (.inl (1023, [])), some (.inl (0, [(3, 1)])), some (.inl (0, [(4, 1)])), some (.inl (0, [(5, 1)]))], [(0, 399), (1, 400), (0, 0), (0, 1), (1, 400), ((-1), 7), (0, 399), (1, 400), (0, 0)], [], [(1, 2, (3, [])), (1, 3, (0, [(6, 1)])), (1, 4, (0, [(7, 1)])), (1, 5, (0, [(8, 1)]))], (0, []), (0, []), (400, [(4, (-1))]))
def nd169_6 : bNd := (7, [some (.inr (.inl (.ref 76))), some (.inr (.inl (.ref 1))), some (.inl (1022, [])), some (.inl (0, [(3, 1)])), some (.inl (0, [(4, 1)])), some (.inl (0, [(5, 1)]))], [(0, 399), (1, 400), (0, 0), (0, 1), (1, 400), ((-1), 7), (0, 400), (0, 400), (0, 0)], [], [(1, 2, (0, [])), (1, 3, (0, [(6, 1)])), (1, 4, (0, [(7, 1)])), (1, 5, (0, [(8, 1)]))], (0, []), (0, []), (400, [(4, (-1))]))
def nd169_7 : bNd := (7, [some (.inr (.inl (.ref 76))), some (.inr (.inl (.ref 1))), some (.inl (1022, [])), some (.inl (0, [(3, 1)])), some (.inl (0, [(4, 1)])), some (.inl (0, [(5, 1)]))], [(0, 399), (1, 400), (0, 0), (0, 1), (1, 400), ((-1), 7), (0, 396), (4, 400), ((-2147483648), 2147483647)], [((-4), [(6, (-1)), (7, 1)])], [(1, 2, (1, [])), (1, 3, (0, [(6, 1)])), (1, 4, (0, [(7, 1)])), (1, 5, (0, [(8, 1)]))], (0, []), (0, []), (400, [(4, (-1))]))
def nd169_8 : bNd := (7, [some (.inr (.inl (.ref 76))), some (.inr (.inl (.ref 1))), some (.inl (1022, [])), some (.inl (0, [(3, 1)])), some (.inl (0, [(4, 1)])), some (.inl (0, [(5, 1)]))], [(0, 399), (1, 400), (0, 0), (0, 1), (1, 400), ((-1), 7), (0, 399), (1, 400), (0, 999)], [], [(1, 2, (1, [])), (1, 3, (0, [(6, 1)])), (1, 4, (0, [(7, 1)])), (1, 5, (0, [(8, 1)]))], (0, []), (0, []), (400, [(4, (-1))]))
def nd169_9 : bNd := (7, [some (.inr (.inl (.ref 76))), some (.inr (.inl (.ref 1))), some (.inl (1022, [])), some (.inl (0, [(3, 1)])), some (.inl (0, [(4, 1)])), some (.inl (0, [(5, 1)]))], [(0, 399), (1, 400), (0, 0), (0, 1), (1, 400), ((-1), 7), (0, 399), (1, 400), (0, 0)], [], [(1, 2, (2, [])), (1, 3, (0, [(6, 1)])), (1, 4, (0, [(7, 1)])), (1, 5, (0, [(8, 1)]))], (0, []), (0, []), (400, [(4, (-1))]))
def nd169_10 : bNd := (7, [some (.inr (.inl (.ref 76))), some (.inr (.inl (.ref 1))), some (.inl (1022, [])), some (.inl (0, [(3, 1)])), some (.inl (0, [(4, 1)])), some (.inl (0, [(5, 1)]))], [(0, 399), (1, 400), (0, 0), (0, 1), (1, 400), ((-1), 7), (0, 399), (1, 400), (0, 0)], [], [(1, 2, (3, [])), (1, 3, (0, [(6, 1)])), (1, 4, (0, [(7, 1)])), (1, 5, (0, [(8, 1)]))], (0, []), (0, []), (400, [(4, (-1))]))
def nd169_11 : bNd := (7, [some (.inr (.inl (.ref 76))), some (.inr (.inl (.ref 1))), some (.inl ((-1), [])), some (.inl (0, [(3, 1)])), some (.inl (0, [(4, 1)])), some (.inl (0, [(5, 1)]))], [(0, 399), (1, 400), (0, 0), (1, 1), (1, 400), ((-1), 7), (0, 400), (0, 400), (0, 0)], [], [(1, 2, (0, [])), (1, 3, (0, [(6, 1)])), (1, 4, (0, [(7, 1)])), (1, 5, (0, [(8, 1)]))], (0, []), (0, []), (400, [(4, (-1))]))
def nd169_12 : bNd := (7, [some (.inr (.inl (.ref 76))), some (.inr (.inl (.ref 1))), some (.inl ((-1), [])), some (.inl (0, [(3, 1)])), some (.inl (0, [(4, 1)])), some (.inl (0, [(5, 1)]))], [(0, 399), (1, 400), (0, 0), (1, 1), (1, 400), ((-1), 7), (0, 396), (4, 400), ((-2147483648), 2147483647)], [((-4), [(6, (-1)), (7, 1)])], [(1, 2, (1, [])), (1, 3, (0, [(6, 1)])), (1, 4, (0, [(7, 1)])), (1, 5, (0, [(8, 1)]))], (0, []), (0, []), (400, [(4, (-1))]))
def nd169_13 : bNd := (7, [some (.inr (.inl (.ref 76))), some (.inr (.inl (.ref 1))), some (.inl ((-1), [])), some (.inl (0, [(3, 1)])), some (.inl (0, [(4, 1)])), some (.inl (0, [(5, 1)]))], [(0, 399), (1, 400), (0, 0), (1, 1), (1, 400), ((-1), 7), (0, 399), (1, 400), (0, 999)], [], [(1, 2, (1, [])), (1, 3, (0, [(6, 1)])), (1, 4, (0, [(7, 1)])), (1, 5, (0, [(8, 1)]))], (0, []), (0, []), (400, [(4, (-1))]))
def nd169_14 : bNd := (7, [some (.inr (.inl (.ref 76))), some (.inr (.inl (.ref 1))), some (.inl ((-1), [])), some (.inl (0, [(3, 1)])), some (.inl (0, [(4, 1)])), some (.inl (0, [(5, 1)]))], [(0, 399), (1, 400), (0, 0), (1, 1), (1, 400), ((-1), 7), (0, 399), (1, 400), (0, 0)], [], [(1, 2, (3, [])), (1, 3, (0, [(6, 1)])), (1, 4, (0, [(7, 1)])), (1, 5, (0, [(8, 1)]))], (0, []), (0, []), (400, [(4, (-1))]))
/-- S$LawReader comparison -/
def nl169 : List bNd := [nd169_0, nd169_1, nd169_2, nd169_3, nd169_4, nd169_5, nd169_6, nd169_7, nd169_8, nd169_9, nd169_10, nd169_11, nd169_12, nd169_13, nd169_14]
set_option maxRecDepth 100000 in
theorem ke169 : bke (1, smT) ctb 164 sc169 402 100000 nl169 = true := by decide +kernel
set_option maxRecDepth 100000 in
theorem kn169_0 : bkn (1, smT) ctb 164 sc169 100000 nl169 nd169_0 = true := by decide +kernel
set_option maxRecDepth 100000 in
theorem kn169_1 : bkn (1, smT) ctb 164 sc169 100000 nl169 nd169_1 = true := by decide +kernel
set_option maxRecDepth 100000 in
theorem kn169_2 : bkn (1, smT) ctb 164 sc169 100000 nl169 nd169_2 = true := by decide +kernel
set_option maxRecDepth 100000 in
theorem kn169_3 : bkn (1, smT) ctb 164 sc169 100000 nl169 nd169_3 = true := by decide +kernel
set_option maxRecDepth 100000 in
theorem kn169_4 : bkn (1, smT) ctb 164 sc169 100000 nl169 nd169_4 = true := by decide +kernel
set_option maxRecDepth 100000 in
theorem kn169_5 : bkn (1, smT) ctb 164 sc169 100000 nl169 nd169_5 = true := by decide +kernel
set_option maxRecDepth 100000 in
theorem kn169_6 : bkn (1, smT) ctb 164 sc169 100000 nl169 nd169_6 = true := by decide +kernel
set_option maxRecDepth 100000 in
theorem kn169_7 : bkn (1, smT) ctb 164 sc169 100000 nl169 nd169_7 = true := by decide +kernel
set_option maxRecDepth 100000 in
theorem kn169_8 : bkn (1, smT) ctb 164 sc169 100000 nl169 nd169_8 = true := by decide +kernel
set_option maxRecDepth 100000 in
theorem kn169_9 : bkn (1, smT) ctb 164 sc169 100000 nl169 nd169_9 = true := by decide +kernel
set_option maxRecDepth 100000 in
theorem kn169_10 : bkn (1, smT) ctb 164 sc169 100000 nl169 nd169_10 = true := by decide +kernel
set_option maxRecDepth 100000 in
theorem kn169_11 : bkn (1, smT) ctb 164 sc169 100000 nl169 nd169_11 = true := by decide +kernel
set_option maxRecDepth 100000 in
theorem kn169_12 : bkn (1, smT) ctb 164 sc169 100000 nl169 nd169_12 = true := by decide +kernel
set_option maxRecDepth 100000 in
theorem kn169_13 : bkn (1, smT) ctb 164 sc169 100000 nl169 nd169_13 = true := by decide +kernel
set_option maxRecDepth 100000 in
theorem kn169_14 : bkn (1, smT) ctb 164 sc169 100000 nl169 nd169_14 = true := by decide +kernel
def nd170_0 : bNd := (7, [some (.inr (.inl (.ref 76))), some (.inr (.inl (.ref 1))), some (.inl ((-1), [])), some (.inl (0, [(3, 1)])), some (.inl (0, [(4, 1)])), none], [(0, 399), (1, 400), (0, 0), (0, 0), (0, 0), (0, 399), (1, 400), (0, 0)], [], [(1, 2, (3, [])), (1, 3, (0, [(5, 1)])), (1, 4, (0, [(6, 1)])), (1, 5, (0, [(7, 1)]))], (0, []), (0, []), (0, [(4, (-1))]))
/-- S$LawReader comparison -/
def nl170 : List bNd := [nd170_0]
set_option maxRecDepth 100000 in
theorem ke170 : bke (1, smT) ctb 164 sc170 2 100000 nl170 = true := by decide +kernel
set_option maxRecDepth 100000 in
theorem kn170_0 : bkn (1, smT) ctb 164 sc170 100000 nl170 nd170_0 = true := by decide +kernel
def nd173_0 : bNd := (4, [some (.inr (.inl (.ref 4))), some (.inl (0, [(0, 1)])), some (.inl (0, [(1, 1)])), some (.inl (0, [(2, 1)]))], [(0, 7), (0, 4095), (0, 12)], [], [], (0, []), (0, []), (12, [(2, (-1))]))
/-- S$Plan roams -/
def nl173 : List bNd := [nd173_0]
set_option maxRecDepth 100000 in
theorem ke173 : bke (0, smT) ctb 175 sc173 14 100000 nl173 = true := by decide +kernel
set_option maxRecDepth 100000 in
theorem kn173_0 : bkn (0, smT) ctb 175 sc173 100000 nl173 nd173_0 = true := by decide +kernel
def nd174_0 : bNd := (4, [some (.inr (.inl (.ref 4))), some (.inl (0, [(0, 1)])), some (.inl (0, [(1, 1)])), some (.inl (0, [(2, 1)]))], [(0, 4095), ((-2147483648), 2147483647), (0, 12)], [], [], (0, []), (0, []), (12, [(2, (-1))]))
/-- S$Plan minutesOf -/
def nl174 : List bNd := [nd174_0]
set_option maxRecDepth 100000 in
theorem ke174 : bke (0, smT) ctb 176 sc174 14 100000 nl174 = true := by decide +kernel
set_option maxRecDepth 100000 in
theorem kn174_0 : bkn (0, smT) ctb 176 sc174 100000 nl174 nd174_0 = true := by decide +kernel
def nd175_0 : bNd := (7, [some (.inr (.inl (.ref 4))), some (.inl (0, [(0, 1)])), some (.inl (0, [(1, 1)])), some (.inl (0, [(2, 1)])), some (.inl (0, [(3, 1)])), none, none], [(0, 11), (0, 11), ((-2147483648), 2147483647), (0, 12)], [], [], (0, []), (0, []), (181, [(3, (-14))]))
def nd175_1 : bNd := (31, [some (.inr (.inl (.ref 4))), some (.inl (0, [(0, 1)])), some (.inl (0, [(1, 1)])), some (.inl (0, [(2, 1)])), some (.inl (0, [(3, 1)])), some (.inl (0, [(4, 1)])), some (.inl (0, [(5, 1)]))], [(0, 11), (0, 11), ((-2147483648), 2147483647), (0, 11), ((-2147483648), 2147483647), (0, 12)], [], [], (0, []), (0, []), (180, [(3, (-14)), (5, (-1))]))
/-- S$Plan fewestDoors -/
def nl175 : List bNd := [nd175_0, nd175_1]
set_option maxRecDepth 100000 in
theorem ke175 : bke (0, smT) ctb 177 sc175 183 100000 nl175 = true := by decide +kernel
set_option maxRecDepth 100000 in
theorem kn175_0 : bkn (0, smT) ctb 177 sc175 100000 nl175 nd175_0 = true := by decide +kernel
set_option maxRecDepth 100000 in
theorem kn175_1 : bkn (0, smT) ctb 177 sc175 100000 nl175 nd175_1 = true := by decide +kernel
def nd176_0 : bNd := (3, [some (.inr (.inl (.ref 1))), some (.inl (0, [(0, 1)])), some (.inl (0, [(1, 1)]))], [((-2147483648), 2147483647), ((-8), 24)], [], [], (0, []), (0, []), (8, [(1, 1)]))
/-- S$Tape append -/
def nl176 : List bNd := [nd176_0]
set_option maxRecDepth 100000 in
theorem ke176 : bke (0, smT) ctb 179 sc176 34 100000 nl176 = true := by decide +kernel
set_option maxRecDepth 100000 in
theorem kn176_0 : bkn (0, smT) ctb 179 sc176 100000 nl176 nd176_0 = true := by decide +kernel
def nd177_0 : bNd := (5, [some (.inr (.inl (.ref 1))), some (.inl (0, [(0, 1)]))], [(0, 400)], [], [], (0, []), (0, []), (1202, [(0, (-1))]))
def nd177_1 : bNd := (57, [some (.inr (.inl (.ref 1))), some (.inl (0, [(0, 1)]))], [(0, 400), (0, 0)], [], [(1, 2, (0, [])), (1, 3, (0, [(0, 1)])), (1, 5, (0, [(1, 1)]))], (0, []), (0, []), (801, [(0, (-1))]))
def nd177_2 : bNd := (57, [some (.inr (.inl (.ref 1))), some (.inl (0, [(0, 1)]))], [(0, 399), (0, 0)], [], [(1, 2, (3, [])), (1, 3, (0, [(0, 1)])), (1, 5, (0, [(1, 1)]))], (0, []), (0, []), (801, [(0, (-1))]))
def nd177_3 : bNd := (130, [some (.inr (.inl (.ref 1))), some (.inl (0, [(0, 1)]))], [(0, 400), (0, 0)], [], [(1, 2, (0, [])), (1, 3, (0, [(0, 1)])), (1, 5, (0, [(1, 1)]))], (0, []), (0, []), (400, [(0, (-1))]))
def nd177_4 : bNd := (57, [some (.inr (.inl (.ref 1))), some (.inl (0, [(0, 1)]))], [(1, 400), (0, 9)], [], [(1, 2, (1, [])), (1, 3, ((-1), [(0, 1)])), (1, 5, (0, [(1, 1)]))], (0, []), (0, []), (801, [(0, (-1))]))
def nd177_5 : bNd := (130, [some (.inr (.inl (.ref 1))), some (.inl (0, [(0, 1)]))], [(0, 399), (0, 0)], [], [(1, 2, (3, [])), (1, 3, (0, [(0, 1)])), (1, 5, (0, [(1, 1)]))], (0, []), (0, []), (400, [(0, (-1))]))
def nd177_6 : bNd := (130, [some (.inr (.inl (.ref 1))), some (.inl (0, [(0, 1)]))], [(1, 400), (0, 399), (0, 0)], [], [(1, 2, (2, [])), (1, 3, (0, [(1, 1)])), (1, 5, (0, [(2, 1)]))], (0, []), (0, []), (400, [(0, (-1))]))
def nd177_7 : bNd := (130, [some (.inr (.inl (.ref 1))), some (.inl (0, [(0, 1)]))], [(1, 400), (0, 9)], [], [(1, 2, (1, [])), (1, 3, ((-1), [(0, 1)])), (1, 5, (0, [(1, 1)]))], (0, []), (0, []), (400, [(0, (-1))]))
def nd177_8 : bNd := (57, [some (.inr (.inl (.ref 1))), some (.inl (0, [(0, 1)]))], [(2, 400), (0, 99)], [], [(1, 2, (1, [])), (1, 3, ((-2), [(0, 1)])), (1, 5, (0, [(1, 1)]))], (0, []), (0, []), (801, [(0, (-1))]))
def nd177_9 : bNd := (130, [some (.inr (.inl (.ref 1))), some (.inl (0, [(0, 1)]))], [(2, 400), (0, 399), (0, 0)], [], [(1, 2, (2, [])), (1, 3, (0, [(1, 1)])), (1, 5, (0, [(2, 1)]))], (0, []), (0, []), (400, [(0, (-1))]))
def nd177_10 : bNd := (130, [some (.inr (.inl (.ref 1))), some (.inl (0, [(0, 1)]))], [(2, 400), (0, 99)], [], [(1, 2, (1, [])), (1, 3, ((-2), [(0, 1)])), (1, 5, (0, [(1, 1)]))], (0, []), (0, []), (400, [(0, (-1))]))
def nd177_11 : bNd := (57, [some (.inr (.inl (.ref 1))), some (.inl (0, [(0, 1)]))], [(3, 400), (0, 999)], [], [(1, 2, (1, [])), (1, 3, ((-3), [(0, 1)])), (1, 5, (0, [(1, 1)]))], (0, []), (0, []), (801, [(0, (-1))]))
def nd177_12 : bNd := (130, [some (.inr (.inl (.ref 1))), some (.inl (0, [(0, 1)]))], [(3, 400), (0, 999)], [], [(1, 2, (1, [])), (1, 3, ((-3), [(0, 1)])), (1, 5, (0, [(1, 1)]))], (0, []), (0, []), (400, [(0, (-1))]))
def nd177_13 : bNd := (57, [some (.inr (.inl (.ref 1))), some (.inl (0, [(0, 1)]))], [(4, 400), (0, 396), ((-2147483648), 2147483647)], [((-4), [(0, 1), (1, (-1))])], [(1, 2, (1, [])), (1, 3, (0, [(1, 1)])), (1, 5, (0, [(2, 1)]))], (0, []), (0, []), (801, [(0, (-1))]))
def nd177_14 : bNd := (130, [some (.inr (.inl (.ref 1))), some (.inl (0, [(0, 1)]))], [(4, 400), (0, 396), ((-2147483648), 2147483647)], [((-4), [(0, 1), (1, (-1))])], [(1, 2, (1, [])), (1, 3, (0, [(1, 1)])), (1, 5, (0, [(2, 1)]))], (0, []), (0, []), (400, [(0, (-1))]))
/-- S$Tape advance -/
def nl177 : List bNd := [nd177_0, nd177_1, nd177_2, nd177_3, nd177_4, nd177_5, nd177_6, nd177_7, nd177_8, nd177_9, nd177_10, nd177_11, nd177_12, nd177_13, nd177_14]
set_option maxRecDepth 100000 in
theorem ke177 : bke (0, smT) ctb 181 sc177 1204 100000 nl177 = true := by decide +kernel
set_option maxRecDepth 100000 in
theorem kn177_0 : bkn (0, smT) ctb 181 sc177 100000 nl177 nd177_0 = true := by decide +kernel
set_option maxRecDepth 100000 in
theorem kn177_1 : bkn (0, smT) ctb 181 sc177 100000 nl177 nd177_1 = true := by decide +kernel
set_option maxRecDepth 100000 in
theorem kn177_2 : bkn (0, smT) ctb 181 sc177 100000 nl177 nd177_2 = true := by decide +kernel
set_option maxRecDepth 100000 in
theorem kn177_3 : bkn (0, smT) ctb 181 sc177 100000 nl177 nd177_3 = true := by decide +kernel
set_option maxRecDepth 100000 in
theorem kn177_4 : bkn (0, smT) ctb 181 sc177 100000 nl177 nd177_4 = true := by decide +kernel
set_option maxRecDepth 100000 in
theorem kn177_5 : bkn (0, smT) ctb 181 sc177 100000 nl177 nd177_5 = true := by decide +kernel
set_option maxRecDepth 100000 in
theorem kn177_6 : bkn (0, smT) ctb 181 sc177 100000 nl177 nd177_6 = true := by decide +kernel
set_option maxRecDepth 100000 in
theorem kn177_7 : bkn (0, smT) ctb 181 sc177 100000 nl177 nd177_7 = true := by decide +kernel
set_option maxRecDepth 100000 in
theorem kn177_8 : bkn (0, smT) ctb 181 sc177 100000 nl177 nd177_8 = true := by decide +kernel
set_option maxRecDepth 100000 in
theorem kn177_9 : bkn (0, smT) ctb 181 sc177 100000 nl177 nd177_9 = true := by decide +kernel
set_option maxRecDepth 100000 in
theorem kn177_10 : bkn (0, smT) ctb 181 sc177 100000 nl177 nd177_10 = true := by decide +kernel
set_option maxRecDepth 100000 in
theorem kn177_11 : bkn (0, smT) ctb 181 sc177 100000 nl177 nd177_11 = true := by decide +kernel
set_option maxRecDepth 100000 in
theorem kn177_12 : bkn (0, smT) ctb 181 sc177 100000 nl177 nd177_12 = true := by decide +kernel
set_option maxRecDepth 100000 in
theorem kn177_13 : bkn (0, smT) ctb 181 sc177 100000 nl177 nd177_13 = true := by decide +kernel
set_option maxRecDepth 100000 in
theorem kn177_14 : bkn (0, smT) ctb 181 sc177 100000 nl177 nd177_14 = true := by decide +kernel
/-- S$Tape wordAmong -/
def nl178 : List bNd := []
set_option maxRecDepth 100000 in
theorem ke178 : bke (0, smT) ctb 185 sc178 0 100000 nl178 = true := by decide +kernel
