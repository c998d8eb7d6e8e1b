def nd48_0 : bNd := (7, [some (.inr (.inl (.ref 18))), some (.inl (0, [(0, 1)])), some (.inl (0, [(1, 1)])), some (.inl (0, [(2, 1)]))], [(0, 11), ((-2147483648), 2147483647), (0, 96)], [], [], (0, []), (0, []), (96, [(2, (-1))]))
/-- S$Grains lyingIn -/
def nl48 : List bNd := [nd48_0]
set_option maxRecDepth 100000 in
theorem ke48 : bke (0, smT) ctb 92 sc48 98 100000 nl48 = true := by decide +kernel
set_option maxRecDepth 100000 in
theorem kn48_0 : bkn (0, smT) ctb 92 sc48 100000 nl48 nd48_0 = true := by decide +kernel
def nd49_0 : bNd := (7, [some (.inr (.inl (.ref 54))), some (.inl (0, [(0, 1)])), some (.inl (0, [(1, 1)])), some (.inl (0, [(2, 1)]))], [(0, 11), ((-2147483648), 2147483647), (0, 96)], [], [], (0, []), (0, []), (96, [(2, (-1))]))
/-- S$Grains lyingIn -/
def nl49 : List bNd := [nd49_0]
set_option maxRecDepth 100000 in
theorem ke49 : bke (0, smT) ctb 92 sc49 98 100000 nl49 = true := by decide +kernel
set_option maxRecDepth 100000 in
theorem kn49_0 : bkn (0, smT) ctb 92 sc49 100000 nl49 nd49_0 = true := by decide +kernel
def nd50_0 : bNd := (7, [some (.inr (.inl (.ref 18))), some (.inl (0, [(0, 1)])), some (.inl (0, [(1, 1)])), some (.inl (0, [(2, 1)]))], [(0, 7), ((-2147483648), 2147483647), (0, 64)], [], [], (0, []), (0, []), (64, [(2, (-1))]))
/-- S$Grains carriedBy -/
def nl50 : List bNd := [nd50_0]
set_option maxRecDepth 100000 in
theorem ke50 : bke (0, smT) ctb 93 sc50 66 100000 nl50 = true := by decide +kernel
set_option maxRecDepth 100000 in
theorem kn50_0 : bkn (0, smT) ctb 93 sc50 100000 nl50 nd50_0 = true := by decide +kernel
def nd51_0 : bNd := (7, [some (.inr (.inl (.ref 54))), some (.inl (0, [(0, 1)])), some (.inl (0, [(1, 1)])), some (.inl (0, [(2, 1)]))], [(0, 7), ((-2147483648), 2147483647), (0, 64)], [], [], (0, []), (0, []), (64, [(2, (-1))]))
/-- S$Grains carriedBy -/
def nl51 : List bNd := [nd51_0]
set_option maxRecDepth 100000 in
theorem ke51 : bke (0, smT) ctb 93 sc51 66 100000 nl51 = true := by decide +kernel
set_option maxRecDepth 100000 in
theorem kn51_0 : bkn (0, smT) ctb 93 sc51 100000 nl51 nd51_0 = true := by decide +kernel
def nd52_0 : bNd := (7, [some (.inr (.inl (.ref 69))), some (.inl (0, [(0, 1)])), some (.inl (0, [(1, 1)])), some (.inl (0, [(2, 1)]))], [(0, 7), ((-2147483648), 2147483647), (0, 64)], [], [], (0, []), (0, []), (64, [(2, (-1))]))
/-- S$Grains carriedBy -/
def nl52 : List bNd := [nd52_0]
set_option maxRecDepth 100000 in
theorem ke52 : bke (0, smT) ctb 93 sc52 66 100000 nl52 = true := by decide +kernel
set_option maxRecDepth 100000 in
theorem kn52_0 : bkn (0, smT) ctb 93 sc52 100000 nl52 nd52_0 = true := by decide +kernel
def nd58_0 : bNd := (5, [some (.inr (.inl (.ref 54))), some (.inl (0, [(0, 1)])), some (.inl (0, [(1, 1)])), some (.inl (0, [(2, 1)])), some (.inl (0, [(3, 1)])), none], [(0, 11), ((-2147483648), 2147483647), ((-2147483648), 2147483647), (0, 8)], [], [], (0, []), (0, []), (8, [(3, (-1))]))
/-- S$Grains takeOutOf -/
def nl58 : List bNd := [nd58_0]
set_option maxRecDepth 100000 in
theorem ke58 : bke (1, smT) ctb 102 sc58 10 100000 nl58 = true := by decide +kernel
set_option maxRecDepth 100000 in
theorem kn58_0 : bkn (1, smT) ctb 102 sc58 100000 nl58 nd58_0 = true := by decide +kernel
def nd59_0 : bNd := (5, [some (.inr (.inl (.ref 18))), some (.inl (0, [(0, 1)])), some (.inl (0, [(1, 1)])), some (.inl (0, [(2, 1)])), some (.inl (0, [(3, 1)])), none], [(0, 11), ((-2147483648), 2147483647), ((-2147483648), 2147483647), (0, 8)], [], [], (0, []), (0, []), (8, [(3, (-1))]))
/-- S$Grains takeOutOf -/
def nl59 : List bNd := [nd59_0]
set_option maxRecDepth 100000 in
theorem ke59 : bke (1, smT) ctb 102 sc59 10 100000 nl59 = true := by decide +kernel
set_option maxRecDepth 100000 in
theorem kn59_0 : bkn (1, smT) ctb 102 sc59 100000 nl59 nd59_0 = true := by decide +kernel
def nd67_0 : bNd := (4, [some (.inr (.inl (.ref 25))), some (.inl (0, [(0, 1)])), some (.inl (0, [(1, 1)])), some (.inl (0, [(2, 1)]))], [(0, 11), ((-2147483648), 2147483647), (0, 80)], [], [], (0, []), (0, []), (80, [(2, (-1))]))
/-- S$Heels whoIn -/
def nl67 : List bNd := [nd67_0]
set_option maxRecDepth 100000 in
theorem ke67 : bke (2, smT) ctb 111 sc67 82 100000 nl67 = true := by decide +kernel
set_option maxRecDepth 100000 in
theorem kn67_0 : bkn (2, smT) ctb 111 sc67 100000 nl67 nd67_0 = true := by decide +kernel
def nd89_0 : bNd := (10, [some (.inr (.inl (.ref 10))), some (.inl (0, [(0, 1)])), some (.inr (.inl (.ref 17))), some (.inl (0, [(1, 1)])), some (.inl (0, [(2, 1)])), none, none, none, none, none], [(0, 11), (0, 32), (0, 400)], [], [], (0, []), (0, []), (400, [(2, (-1))]))
/-- S$Law holds -/
def nl89 : List bNd := [nd89_0]
set_option maxRecDepth 100000 in
theorem ke89 : bke (0, smT) ctb 155 sc89 402 100000 nl89 = true := by decide +kernel
set_option maxRecDepth 100000 in
theorem kn89_0 : bkn (0, smT) ctb 155 sc89 100000 nl89 nd89_0 = true := by decide +kernel
def nd177_0 : bNd := (5, [some (.inr (.inl (.ref 1))), some (.inl (0, [(0, 1)]))], [(0, 400)], [], [], (0, []), (0, []), (1202, [(0, (-1))]))
def nd177_1 : bNd := (57, [some (.inr (.inl (.ref 1))), some (.inl (0, [(0, 1)]))], [(0, 400), (0, 0)], [], [(1, 2, (0, [])), (1, 3, (0, [(0, 1)])), (1, 5, (0, [(1, 1)]))], (0, []), (0, []), (801, [(0, (-1))]))
def nd177_2 : bNd := (57, [some (.inr (.inl (.ref 1))), some (.inl (0, [(0, 1)]))], [(0, 399), (0, 0)], [], [(1, 2, (3, [])), (1, 3, (0, [(0, 1)])), (1, 5, (0, [(1, 1)]))], (0, []), (0, []), (801, [(0, (-1))]))
def nd177_3 : bNd := (130, [some (.inr (.inl (.ref 1))), some (.inl (0, [(0, 1)]))], [(0, 400), (0, 0)], [], [(1, 2, (0, [])), (1, 3, (0, [(0, 1)])), (1, 5, (0, [(1, 1)]))], (0, []), (0, []), (400, [(0, (-1))]))
def nd177_4 : bNd := (57, [some (.inr (.inl (.ref 1))), some (.inl (0, [(0, 1)]))], [(1, 400), (0, 9)], [], [(1, 2, (1, [])), (1, 3, ((-1), [(0, 1)])), (1, 5, (0, [(1, 1)]))], (0, []), (0, []), (801, [(0, (-1))]))
def nd177_5 : bNd := (130, [some (.inr (.inl (.ref 1))), some (.inl (0, [(0, 1)]))], [(0, 399), (0, 0)], [], [(1, 2, (3, [])), (1, 3, (0, [(0, 1)])), (1, 5, (0, [(1, 1)]))], (0, []), (0, []), (400, [(0, (-1))]))
def nd177_6 : bNd := (130, [some (.inr (.inl (.ref 1))), some (.inl (0, [(0, 1)]))], [(1, 400), (0, 399), (0, 0)], [], [(1, 2, (2, [])), (1, 3, (0, [(1, 1)])), (1, 5, (0, [(2, 1)]))], (0, []), (0, []), (400, [(0, (-1))]))
def nd177_7 : bNd := (130, [some (.inr (.inl (.ref 1))), some (.inl (0, [(0, 1)]))], [(1, 400), (0, 9)], [], [(1, 2, (1, [])), (1, 3, ((-1), [(0, 1)])), (1, 5, (0, [(1, 1)]))], (0, []), (0, []), (400, [(0, (-1))]))
def nd177_8 : bNd := (57, [some (.inr (.inl (.ref 1))), some (.inl (0, [(0, 1)]))], [(2, 400), (0, 99)], [], [(1, 2, (1, [])), (1, 3, ((-2), [(0, 1)])), (1, 5, (0, [(1, 1)]))], (0, []), (0, []), (801, [(0, (-1))]))
def nd177_9 : bNd := (130, [some (.inr (.inl (.ref 1))), some (.inl (0, [(0, 1)]))], [(2, 400), (0, 399), (0, 0)], [], [(1, 2, (2, [])), (1, 3, (0, [(1, 1)])), (1, 5, (0, [(2, 1)]))], (0, []), (0, []), (400, [(0, (-1))]))
def nd177_10 : bNd := (130, [some (.inr (.inl (.ref 1))), some (.inl (0, [(0, 1)]))], [(2, 400), (0, 99)], [], [(1, 2, (1, [])), (1, 3, ((-2), [(0, 1)])), (1, 5, (0, [(1, 1)]))], (0, []), (0, []), (400, [(0, (-1))]))
def nd177_11 : bNd := (57, [some (.inr (.inl (.ref 1))), some (.inl (0, [(0, 1)]))], [(3, 400), (0, 999)], [], [(1, 2, (1, [])), (1, 3, ((-3), [(0, 1)])), (1, 5, (0, [(1, 1)]))], (0, []), (0, []), (801, [(0, (-1))]))
def nd177_12 : bNd := (130, [some (.inr (.inl (.ref 1))), some (.inl (0, [(0, 1)]))], [(3, 400), (0, 999)], [], [(1, 2, (1, [])), (1, 3, ((-3), [(0, 1)])), (1, 5, (0, [(1, 1)]))], (0, []), (0, []), (400, [(0, (-1))]))
def nd177_13 : bNd := (57, [some (.inr (.inl (.ref 1))), some (.inl (0, [(0, 1)]))], [(4, 400), (0, 396), ((-2147483648), 2147483647)], [((-4), [(0, 1), (1, (-1))])], [(1, 2, (1, [])), (1, 3, (0, [(1, 1)])), (1, 5, (0, [(2, 1)]))], (0, []), (0, []), (801, [(0, (-1))]))
def nd177_14 : bNd := (130, [some (.inr (.inl (.ref 1))), some (.inl (0, [(0, 1)]))], [(4, 400), (0, 396), ((-2147483648), 2147483647)], [((-4), [(0, 1), (1, (-1))])], [(1, 2, (1, [])), (1, 3, (0, [(1, 1)])), (1, 5, (0, [(2, 1)]))], (0, []), (0, []), (400, [(0, (-1))]))
/-- S$Tape advance -/
def nl177 : List bNd := [nd177_0, nd177_1, nd177_2, nd177_3, nd177_4, nd177_5, nd177_6, nd177_7, nd177_8, nd177_9, nd177_10, nd177_11, nd177_12, nd177_13, nd177_14]
set_option maxRecDepth 100000 in
theorem ke177 : bke (0, smT) ctb 181 sc177 1204 100000 nl177 = true := by decide +kernel
set_option maxRecDepth 100000 in
theorem kn177_0 : bkn (0, smT) ctb 181 sc177 100000 nl177 nd177_0 = true := by decide +kernel
set_option maxRecDepth 100000 in
theorem kn177_1 : bkn (0, smT) ctb 181 sc177 100000 nl177 nd177_1 = true := by decide +kernel
set_option maxRecDepth 100000 in
theorem kn177_2 : bkn (0, smT) ctb 181 sc177 100000 nl177 nd177_2 = true := by decide +kernel
set_option maxRecDepth 100000 in
theorem kn177_3 : bkn (0, smT) ctb 181 sc177 100000 nl177 nd177_3 = true := by decide +kernel
set_option maxRecDepth 100000 in
theorem kn177_4 : bkn (0, smT) ctb 181 sc177 100000 nl177 nd177_4 = true := by decide +kernel
set_option maxRecDepth 100000 in
theorem kn177_5 : bkn (0, smT) ctb 181 sc177 100000 nl177 nd177_5 = true := by decide +kernel
set_option maxRecDepth 100000 in
theorem kn177_6 : bkn (0, smT) ctb 181 sc177 100000 nl177 nd177_6 = true := by decide +kernel
set_option maxRecDepth 100000 in
theorem kn177_7 : bkn (0, smT) ctb 181 sc177 100000 nl177 nd177_7 = true := by decide +kernel
set_option maxRecDepth 100000 in
theorem kn177_8 : bkn (0, smT) ctb 181 sc177 100000 nl177 nd177_8 = true := by decide +kernel
set_option maxRecDepth 100000 in
theorem kn177_9 : bkn (0, smT) ctb 181 sc177 100000 nl177 nd177_9 = true := by decide +kernel
set_option maxRecDepth 100000 in
theorem kn177_10 : bkn (0, smT) ctb 181 sc177 100000 nl177 nd177_10 = true := by decide +kernel
set_option maxRecDepth 100000 in
theorem kn177_11 : bkn (0, smT) ctb 181 sc177 100000 nl177 nd177_11 = true := by decide +kernel
set_option maxRecDepth 100000 in
theorem kn177_12 : bkn (0, smT) ctb 181 sc177 100000 nl177 nd177_12 = true := by decide +kernel
set_option maxRecDepth 100000 in
theorem kn177_13 : bkn (0, smT) ctb 181 sc177 100000 nl177 nd177_13 = true := by decide +kernel
set_option maxRecDepth 100000 in
theorem kn177_14 : bkn (0, smT) ctb 181 sc177 100000 nl177 nd177_14 = true := by decide +kernel
def nd239_0 : bNd := (4, [some (.inr (.inl (.ref 84))), some (.inl (16, [(0, 11)])), some (.inl (0, [(1, 1)])), some (.inl (0, [(2, 1)]))], [(0, 11), ((-2147483648), 2147483647), (0, 8)], [], [], (0, []), (0, []), (8, [(2, (-1))]))
/-- SModel grains -/
def nl239 : List bNd := [nd239_0]
set_option maxRecDepth 100000 in
theorem ke239 : bke (0, smT) ctb 224 sc239 10 100000 nl239 = true := by decide +kernel
set_option maxRecDepth 100000 in
theorem kn239_0 : bkn (0, smT) ctb 224 sc239 100000 nl239 nd239_0 = true := by decide +kernel
def nd240_0 : bNd := (4, [some (.inr (.inl (.ref 84))), some (.inl (201, [(0, 24)])), some (.inl (0, [(1, 1)])), some (.inl (0, [(2, 1)]))], [(0, 7), ((-2147483648), 2147483647), (0, 8)], [], [], (0, []), (0, []), (8, [(2, (-1))]))
/-- SModel grains -/
def nl240 : List bNd := [nd240_0]
set_option maxRecDepth 100000 in
theorem ke240 : bke (0, smT) ctb 224 sc240 10 100000 nl240 = true := by decide +kernel
set_option maxRecDepth 100000 in
theorem kn240_0 : bkn (0, smT) ctb 224 sc240 100000 nl240 nd240_0 = true := by decide +kernel
def nd244_0 : bNd := (0, [some (.inr (.inl (.ref 84)))], [(0, 399), (1, 400)], [(0, [(0, (-1)), (1, 1)])], [(84, 10, (0, [(1, 1)]))], (0, []), (0, []), (400, [(1, (-1))]))
/-- SModel blanks -/
def nl244 : List bNd := [nd244_0]
set_option maxRecDepth 100000 in
theorem ke244 : bke (1, smT) ctb 235 sc244 401 100000 nl244 = true := by decide +kernel
set_option maxRecDepth 100000 in
theorem kn244_0 : bkn (1, smT) ctb 235 sc244 100000 nl244 nd244_0 = true := by decide +kernel
/-- SModel goes -/
def nl331 : List bNd := []
set_option maxRecDepth 100000 in
theorem ke331 : bke (5, smT) ctb 282 sc331 0 100000 nl331 = true := by decide +kernel
