/-- S$HouseReader line -/
def nl85 : List bNd := []
set_option maxRecDepth 100000 in
theorem ke85 : bke (1, smT) ctb 131 sc85 0 100000 nl85 = true := by decide +kernel
/-- S$HouseReader line -/
def nl86 : List bNd := []
set_option maxRecDepth 100000 in
theorem ke86 : bke (1, smT) ctb 131 sc86 0 100000 nl86 = true := by decide +kernel
def nd87_0 : bNd := (35, [some (.inr (.inl (.ref 62))), some (.inr (.inl (.ref 1))), some (.inl (0, [(3, 1)])), some (.inl (0, [(4, 1)])), some (.inl (0, [(5, 1)])), some (.inl (0, [(6, 1)]))], [(0, 399), (1, 400), (0, 0), (0, 7), (0, 0), (0, 0), (0, 0), (0, 400), (0, 400), (0, 0)], [], [(1, 2, (0, [])), (1, 3, (0, [(7, 1)])), (1, 4, (0, [(8, 1)])), (1, 5, (0, [(9, 1)])), (63, 2, (0, [(3, 1)]))], (0, []), (0, []), (12, [(4, (-1))]))
def nd87_1 : bNd := (35, [some (.inr (.inl (.ref 62))), some (.inr (.inl (.ref 1))), some (.inl (0, [(3, 1)])), some (.inl (0, [(4, 1)])), some (.inl (0, [(5, 1)])), some (.inl (0, [(6, 1)]))], [(0, 399), (1, 400), (0, 0), (0, 7), (0, 12), (0, 11), (0, 11), (0, 396), (4, 400), ((-2147483648), 2147483647)], [((-4), [(7, (-1)), (8, 1)])], [(1, 2, (1, [])), (1, 3, (0, [(7, 1)])), (1, 4, (0, [(8, 1)])), (1, 5, (0, [(9, 1)])), (63, 2, (0, [(3, 1)]))], (0, []), (0, []), (12, [(4, (-1))]))
def nd87_2 : bNd := (35, [some (.inr (.inl (.ref 62))), some (.inr (.inl (.ref 1))), some (.inl (0, [(3, 1)])), some (.inl (0, [(4, 1)])), some (.inl (0, [(5, 1)])), some (.inl (0, [(6, 1)]))], [(0, 399), (1, 400), (0, 0), (0, 7), (0, 12), (0, 11), (0, 11), (0, 399), (1, 400), (0, 999)], [], [(1, 2, (1, [])), (1, 3, (0, [(7, 1)])), (1, 4, (0, [(8, 1)])), (1, 5, (0, [(9, 1)])), (63, 2, (0, [(3, 1)]))], (0, []), (0, []), (12, [(4, (-1))]))
def nd87_3 : bNd := (35, [some (.inr (.inl (.ref 62))), some (.inr (.inl (.ref 1))), some (.inl (0, [(3, 1)])), some (.inl (0, [(4, 1)])), some (.inl (0, [(5, 1)])), some (.inl (0, [(6, 1)]))], [(0, 399), (1, 400), (0, 0), (0, 7), (0, 0), (0, 0), (0, 0), (0, 399), (1, 400), (0, 0)], [], [(1, 2, (2, [])), (1, 3, (0, [(7, 1)])), (1, 4, (0, [(8, 1)])), (1, 5, (0, [(9, 1)])), (63, 2, (0, [(3, 1)]))], (0, []), (0, []), (12, [(4, (-1))]))
def nd87_4 : bNd := (35, [some (.inr (.inl (.ref 62))), some (.inr (.inl (.ref 1))), some (.inl (0, [(3, 1)])), some (.inl (0, [(4, 1)])), some (.inl (0, [(5, 1)])), some (.inl (0, [(6, 1)]))], [(0, 399), (1, 400), (0, 0), (0, 7), (0, 0), (0, 0), (0, 0), (0, 399), (1, 400), (0, 0)], [], [(1, 2, (3, [])), (1, 3, (0, [(7, 1)])), (1, 4, (0, [(8, 1)])), (1, 5, (0, [(9, 1)])), (63, 2, (0, [(3, 1)]))], (0, []), (0, []), (12, [(4, (-1))]))
/-- S$HouseReader personLine -/
def nl87 : List bNd := [nd87_0, nd87_1, nd87_2, nd87_3, nd87_4]
set_option maxRecDepth 100000 in
theorem ke87 : bke (3, smT) ctb 137 sc87 14 100000 nl87 = true := by decide +kernel
set_option maxRecDepth 100000 in
theorem kn87_0 : bkn (3, smT) ctb 137 sc87 100000 nl87 nd87_0 = true := by decide +kernel
set_option maxRecDepth 100000 in
theorem kn87_1 : bkn (3, smT) ctb 137 sc87 100000 nl87 nd87_1 = true := by decide +kernel
set_option maxRecDepth 100000 in
theorem kn87_2 : bkn (3, smT) ctb 137 sc87 100000 nl87 nd87_2 = true := by decide +kernel
set_option maxRecDepth 100000 in
theorem kn87_3 : bkn (3, smT) ctb 137 sc87 100000 nl87 nd87_3 = true := by decide +kernel
set_option maxRecDepth 100000 in
theorem kn87_4 : bkn (3, smT) ctb 137 sc87 100000 nl87 nd87_4 = true := by decide +kernel
def nd88_0 : bNd := (19, [some (.inr (.inl (.ref 10))), some (.inl (0, [(0, 1)])), some (.inr (.inl (.ref 17))), some (.inl (0, [(1, 1)])), some (.inl (0, [(2, 1)]))], [(0, 3), ((-2147483648), 2147483647), (0, 12)], [], [], (0, []), (0, []), (12, [(2, (-1))]))
/-- S$Law amountOf -/
def nl88 : List bNd := [nd88_0]
set_option maxRecDepth 100000 in
theorem ke88 : bke (1, smT) ctb 153 sc88 14 100000 nl88 = true := by decide +kernel
set_option maxRecDepth 100000 in
theorem kn88_0 : bkn (1, smT) ctb 153 sc88 100000 nl88 nd88_0 = true := by decide +kernel
def nd89_0 : bNd := (10, [some (.inr (.inl (.ref 10))), some (.inl (0, [(0, 1)])), some (.inr (.inl (.ref 17))), some (.inl (0, [(1, 1)])), some (.inl (0, [(2, 1)])), none, none, none, none, none], [(0, 11), (0, 32), (0, 400)], [], [], (0, []), (0, []), (400, [(2, (-1))]))
/-- S$Law holds -/
def nl89 : List bNd := [nd89_0]
set_option maxRecDepth 100000 in
theorem ke89 : bke (0, smT) ctb 155 sc89 402 100000 nl89 = true := by decide +kernel
set_option maxRecDepth 100000 in
theorem kn89_0 : bkn (0, smT) ctb 155 sc89 100000 nl89 nd89_0 = true := by decide +kernel
def nd90_0 : bNd := (27, [some (.inr (.inl (.ref 76))), some (.inr (.inl (.ref 1))), some (.inl (0, [(0, 1)]))], [(0, 12), (0, 396), (4, 400), ((-2147483648), 2147483647), (0, 12)], [((-4), [(1, (-1)), (2, 1)])], [(1, 2, (1, [])), (1, 3, (0, [(1, 1)])), (1, 4, (0, [(2, 1)])), (1, 5, (0, [(3, 1)])), (77, 0, (0, [(4, 1)]))], (0, []), (0, []), (12, [(0, (-1))]))
def nd90_1 : bNd := (27, [some (.inr (.inl (.ref 76))), some (.inr (.inl (.ref 1))), some (.inl (0, [(0, 1)]))], [(0, 12), (0, 399), (1, 400), (0, 999), (0, 12)], [], [(1, 2, (1, [])), (1, 3, (0, [(1, 1)])), (1, 4, (0, [(2, 1)])), (1, 5, (0, [(3, 1)])), (77, 0, (0, [(4, 1)]))], (0, []), (0, []), (12, [(0, (-1))]))
def nd90_2 : bNd := (27, [some (.inr (.inl (.ref 76))), some (.inr (.inl (.ref 1))), some (.inl (0, [(0, 1)]))], [(0, 12), (0, 399), (1, 400), (0, 0), (0, 12)], [], [(1, 2, (2, [])), (1, 3, (0, [(1, 1)])), (1, 4, (0, [(2, 1)])), (1, 5, (0, [(3, 1)])), (77, 0, (0, [(4, 1)]))], (0, []), (0, []), (12, [(0, (-1))]))
def nd90_3 : bNd := (27, [some (.inr (.inl (.ref 76))), some (.inr (.inl (.ref 1))), some (.inl (0, [(0, 1)]))], [(0, 12), (0, 399), (1, 400), (0, 0), (0, 12)], [], [(1, 2, (3, [])), (1, 3, (0, [(1, 1)])), (1, 4, (0, [(2, 1)])), (1, 5, (0, [(3, 1)])), (77, 0, (0, [(4, 1)]))], (0, []), (0, []), (12, [(0, (-1))]))
def nd90_4 : bNd := (27, [some (.inr (.inl (.ref 76))), some (.inr (.inl (.ref 1))), some (.inl (0, [(0, 1)]))], [(1, 12), (0, 400), (0, 400), (0, 0), (1, 12)], [], [(1, 2, (0, [])), (1, 3, (0, [(1, 1)])), (1, 4, (0, [(2, 1)])), (1, 5, (0, [(3, 1)])), (77, 0, (0, [(4, 1)]))], (0, []), (0, []), (12, [(0, (-1))]))
/-- S$LawReader read -/
def nl90 : List bNd := [nd90_0, nd90_1, nd90_2, nd90_3, nd90_4]
set_option maxRecDepth 100000 in
theorem ke90 : bke (23, smT) ctb 157 sc90 14 100000 nl90 = true := by decide +kernel
set_option maxRecDepth 100000 in
theorem kn90_0 : bkn (23, smT) ctb 157 sc90 100000 nl90 nd90_0 = true := by decide +kernel
set_option maxRecDepth 100000 in
theorem kn90_1 : bkn (23, smT) ctb 157 sc90 100000 nl90 nd90_1 = true := by decide +kernel
set_option maxRecDepth 100000 in
theorem kn90_2 : bkn (23, smT) ctb 157 sc90 100000 nl90 nd90_2 = true := by decide +kernel
set_option maxRecDepth 100000 in
theorem kn90_3 : bkn (23, smT) ctb 157 sc90 100000 nl90 nd90_3 = true := by decide +kernel
set_option maxRecDepth 100000 in
theorem kn90_4 : bkn (23, smT) ctb 157 sc90 100000 nl90 nd90_4 = true := by decide +kernel
/-- S$LawReader line -/
def nl91 : List bNd := []
set_option maxRecDepth 100000 in
theorem ke91 : bke (1, smT) ctb 159 sc91 0 100000 nl91 = true := by decide +kernel
/-- S$LawReader line -/
def nl92 : List bNd := []
set_option maxRecDepth 100000 in
theorem ke92 : bke (1, smT) ctb 159 sc92 0 100000 nl92 = true := by decide +kernel
/-- S$LawReader line -/
def nl93 : List bNd := []
set_option maxRecDepth 100000 in
theorem ke93 : bke (22, smT) ctb 159 sc93 0 100000 nl93 = true := by decide +kernel
/-- S$LawReader line -/
def nl94 : List bNd := []
set_option maxRecDepth 100000 in
theorem ke94 : bke (1, smT) ctb 159 sc94 0 100000 nl94 = true := by decide +kernel
/-- S$LawReader line -/
def nl95 : List bNd := []
set_option maxRecDepth 100000 in
theorem ke95 : bke (1, smT) ctb 159 sc95 0 100000 nl95 = true := by decide +kernel
def nd96_0 : bNd := (8, [some (.inr (.inl (.ref 76))), some (.inr (.inl (.ref 1))), some (.inl (0, [])), some (.inl (0, [(3, 1)])), some (.inl (0, [(4, 1)])), some (.inl (0, [(5, 1)]))], [(0, 400), (0, 400), (0, 0), (0, 0), (0, 0), (0, 0), (0, 400), (0, 400), (0, 0)], [], [(1, 2, (0, [])), (1, 3, (0, [(6, 1)])), (1, 4, (0, [(7, 1)])), (1, 5, (0, [(8, 1)]))], (0, []), (0, []), (0, [(5, (-1))]))
/-- S$LawReader condition -/
def nl96 : List bNd := [nd96_0]
set_option maxRecDepth 100000 in
theorem ke96 : bke (3, smT) ctb 160 sc96 2 100000 nl96 = true := by decide +kernel
set_option maxRecDepth 100000 in
theorem kn96_0 : bkn (3, smT) ctb 160 sc96 100000 nl96 nd96_0 = true := by decide +kernel
def nd97_0 : bNd := (8, [some (.inr (.inl (.ref 76))), some (.inr (.inl (.ref 1))), some (.inl (0, [])), some (.inl (0, [(3, 1)])), some (.inl (0, [(4, 1)])), some (.inl (0, [(5, 1)]))], [(0, 396), (4, 400), ((-2147483648), 2147483647), (0, 0), (0, 0), (0, 0), (0, 396), (4, 400), ((-2147483648), 2147483647)], [((-4), [(0, (-1)), (1, 1)]), ((-4), [(6, (-1)), (7, 1)])], [(1, 2, (1, [])), (1, 3, (0, [(6, 1)])), (1, 4, (0, [(7, 1)])), (1, 5, (0, [(8, 1)]))], (0, []), (0, []), (0, [(5, (-1))]))
/-- S$LawReader condition -/
def nl97 : List bNd := [nd97_0]
set_option maxRecDepth 100000 in
theorem ke97 : bke (3, smT) ctb 160 sc97 2 100000 nl97 = true := by decide +kernel
set_option maxRecDepth 100000 in
theorem kn97_0 : bkn (3, smT) ctb 160 sc97 100000 nl97 nd97_0 = true := by decide +kernel
def nd98_0 : bNd := (8, [some (.inr (.inl (.ref 76))), some (.inr (.inl (.ref 1))), some (.inl (0, [])), some (.inl (0, [(3, 1)])), some (.inl (0, [(4, 1)])), some (.inl (0, [(5, 1)]))], [(0, 399), (1, 400), (0, 999), (0, 1), (0, 1), (0, 400), (0, 399), (1, 400), (0, 999)], [], [(1, 2, (1, [])), (1, 3, (0, [(6, 1)])), (1, 4, (0, [(7, 1)])), (1, 5, (0, [(8, 1)]))], (0, []), (0, []), (400, [(5, (-1))]))
def nd98_1 : bNd := (8, [some (.inr (.inl (.ref 76))), some (.inr (.inl (.ref 1))), some (.inl (0, [])), some (.inl (0, [(3, 1)])), some (.inl (0, [(4, 1)])), some (.inl (0, [(5, 1)]))], [(0, 399), (1, 400), (0, 999), (0, 1), (0, 1), (1, 400), (0, 400), (0, 400), (0, 0)], [], [(1, 2, (0, [])), (1, 3, (0, [(6, 1)])), (1, 4, (0, [(7, 1)])), (1, 5, (0, [(8, 1)]))], (0, []), (0, []), (400, [(5, (-1))]))
def nd98_2 : bNd := (8, [some (.inr (.inl (.ref 76))), some (.inr (.inl (.ref 1))), some (.inl (0, [])), some (.inl (0, [(3, 1)])), some (.inl (0, [(4, 1)])), some (.inl (0, [(5, 1)]))], [(0, 399), (1, 400), (0, 999), (0, 1), (0, 1), (1, 400), (0, 396), (4, 400), ((-2147483648), 2147483647)], [((-4), [(6, (-1)), (7, 1)])], [(1, 2, (1, [])), (1, 3, (0, [(6, 1)])), (1, 4, (0, [(7, 1)])), (1, 5, (0, [(8, 1)]))], (0, []), (0, []), (400, [(5, (-1))]))
def nd98_3 : bNd := (8, [some (.inr (.inl (.ref 76))), some (.inr (.inl (.ref 1))), some (.inl (0, [])), some (.inl (0, [(3, 1)])), some (.inl (0, [(4, 1)])), some (.inl (0, [(5, 1)]))], [(0, 399), (1, 400), (0, 999), (0, 1), (0, 1), (1, 400), (0, 399), (1, 400), (0, 0)], [], [(1, 2, (2, [])), (1, 3, (0, [(6, 1)])), (1, 4, (0, [(7, 1)])), (1, 5, (0, [(8, 1)]))], (0, []), (0, []), (400, [(5, (-1))]))
def nd98_4 : bNd := (8, [some (.inr (.inl (.ref 76))), some (.inr (.inl (.ref 1))), some (.inl (0, [])), some (.inl (0, [(3, 1)])), some (.inl (0, [(4, 1)])), some (.inl (0, [(5, 1)]))], [(0, 399), (1, 400), (0, 999), (0, 1), (0, 1), (1, 400), (0, 399), (1, 400), (0, 0)], [], [(1, 2, (3, [])), (1, 3, (0, [(6, 1)])), (1, 4, (0, [(7, 1)])), (1, 5, (0, [(8, 1)]))], (0, []), (0, []), (400, [(5, (-1))]))
/-- S$LawReader condition -/
def nl98 : List bNd := [nd98_0, nd98_1, nd98_2, nd98_3, nd98_4]
set_option maxRecDepth 100000 in
theorem ke98 : bke (21, smT) ctb 160 sc98 402 100000 nl98 = true := by decide +kernel
set_option maxRecDepth 100000 in
theorem kn98_0 : bkn (21, smT) ctb 160 sc98 100000 nl98 nd98_0 = true := by decide +kernel
set_option maxRecDepth 100000 in
theorem kn98_1 : bkn (21, smT) ctb 160 sc98 100000 nl98 nd98_1 = true := by decide +kernel
set_option maxRecDepth 100000 in
theorem kn98_2 : bkn (21, smT) ctb 160 sc98 100000 nl98 nd98_2 = true := by decide +kernel
set_option maxRecDepth 100000 in
theorem kn98_3 : bkn (21, smT) ctb 160 sc98 100000 nl98 nd98_3 = true := by decide +kernel
set_option maxRecDepth 100000 in
theorem kn98_4 : bkn (21, smT) ctb 160 sc98 100000 nl98 nd98_4 = true := by decide +kernel
