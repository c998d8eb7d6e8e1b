def nd67_0 : bNd := (4, [some (.inr (.inl (.ref 25))), some (.inl (0, [(0, 1)])), some (.inl (0, [(1, 1)])), some (.inl (0, [(2, 1)]))], [(0, 11), ((-2147483648), 2147483647), (0, 80)], [], [], (0, []), (0, []), (80, [(2, (-1))]))
/-- S$Heels whoIn -/
def nl67 : List bNd := [nd67_0]
set_option maxRecDepth 100000 in
theorem ke67 : bke (2, smT) ctb 111 sc67 82 100000 nl67 = true := by decide +kernel
set_option maxRecDepth 100000 in
theorem kn67_0 : bkn (2, smT) ctb 111 sc67 100000 nl67 nd67_0 = true := by decide +kernel
def nd68_0 : bNd := (8, [some (.inr (.inl (.ref 25))), some (.inl (0, [(0, 1)])), some (.inl (0, [(1, 1)])), some (.inl (0, [(2, 1)])), some (.inl (0, [(3, 1)])), some (.inl (0, [(4, 1)]))], [(0, 11), (0, 2147483647), ((-2147483648), 2147483647), (0, 2147483647), (0, 80)], [], [], (0, []), (0, []), (80, [(4, (-1))]))
/-- S$Heels ledBack -/
def nl68 : List bNd := [nd68_0]
set_option maxRecDepth 100000 in
theorem ke68 : bke (2, smT) ctb 112 sc68 82 100000 nl68 = true := by decide +kernel
set_option maxRecDepth 100000 in
theorem kn68_0 : bkn (2, smT) ctb 112 sc68 100000 nl68 nd68_0 = true := by decide +kernel
def nd69_0 : bNd := (61, [some (.inr (.inl (.ref 3))), some (.inr (.inl (.ref 18))), some (.inl (0, [(0, 1)])), some (.inl (0, [(1, 1)])), some (.inl (0, [(2, 1)]))], [(0, 7), (0, 11), (0, 5)], [], [], (0, []), (0, []), (5, [(2, (-1))]))
/-- S$Home look -/
def nl69 : List bNd := [nd69_0]
set_option maxRecDepth 100000 in
theorem ke69 : bke (1, smT) ctb 114 sc69 7 100000 nl69 = true := by decide +kernel
set_option maxRecDepth 100000 in
theorem kn69_0 : bkn (1, smT) ctb 114 sc69 100000 nl69 nd69_0 = true := by decide +kernel
def nd70_0 : bNd := (61, [some (.inr (.inl (.ref 3))), some (.inr (.inl (.ref 54))), some (.inl (0, [(0, 1)])), some (.inl (0, [(1, 1)])), some (.inl (0, [(2, 1)]))], [(0, 7), (0, 11), (0, 5)], [], [], (0, []), (0, []), (5, [(2, (-1))]))
/-- S$Home look -/
def nl70 : List bNd := [nd70_0]
set_option maxRecDepth 100000 in
theorem ke70 : bke (1, smT) ctb 114 sc70 7 100000 nl70 = true := by decide +kernel
set_option maxRecDepth 100000 in
theorem kn70_0 : bkn (1, smT) ctb 114 sc70 100000 nl70 nd70_0 = true := by decide +kernel
def nd71_0 : bNd := (5, [some (.inr (.inl (.ref 3))), some (.inr (.inl (.ref 54))), some (.inr (.inl .null)), some (.inl (0, [(0, 1)])), some (.inl (0, [(1, 1)]))], [((-2147483648), 2147483647), (0, 8)], [], [], (0, []), (0, []), (21, [(1, (-1))]))
def nd71_1 : bNd := (37, [some (.inr (.inl (.ref 3))), some (.inr (.inl (.ref 54))), some (.inr (.inl .null)), some (.inl (0, [(0, 1)])), some (.inl (0, [(1, 1)]))], [((-2147483648), 2147483647), (0, 12)], [], [], (0, []), (0, []), (12, [(1, (-1))]))
/-- S$Home goRound -/
def nl71 : List bNd := [nd71_0, nd71_1]
set_option maxRecDepth 100000 in
theorem ke71 : bke (3, smT) ctb 117 sc71 23 100000 nl71 = true := by decide +kernel
set_option maxRecDepth 100000 in
theorem kn71_0 : bkn (3, smT) ctb 117 sc71 100000 nl71 nd71_0 = true := by decide +kernel
set_option maxRecDepth 100000 in
theorem kn71_1 : bkn (3, smT) ctb 117 sc71 100000 nl71 nd71_1 = true := by decide +kernel
def nd72_0 : bNd := (5, [some (.inr (.inl (.ref 3))), some (.inr (.inl (.ref 18))), some (.inr (.inl (.ref 25))), some (.inl (0, [(0, 1)])), some (.inl (0, [(1, 1)]))], [((-2147483648), 2147483647), (0, 8)], [], [], (0, []), (0, []), (21, [(1, (-1))]))
def nd72_1 : bNd := (37, [some (.inr (.inl (.ref 3))), some (.inr (.inl (.ref 18))), some (.inr (.inl (.ref 25))), some (.inl (0, [(0, 1)])), some (.inl (0, [(1, 1)]))], [((-2147483648), 2147483647), (0, 12)], [], [], (0, []), (0, []), (12, [(1, (-1))]))
/-- S$Home goRound -/
def nl72 : List bNd := [nd72_0, nd72_1]
set_option maxRecDepth 100000 in
theorem ke72 : bke (3, smT) ctb 117 sc72 23 100000 nl72 = true := by decide +kernel
set_option maxRecDepth 100000 in
theorem kn72_0 : bkn (3, smT) ctb 117 sc72 100000 nl72 nd72_0 = true := by decide +kernel
set_option maxRecDepth 100000 in
theorem kn72_1 : bkn (3, smT) ctb 117 sc72 100000 nl72 nd72_1 = true := by decide +kernel
def nd73_0 : bNd := (2, [some (.inr (.inl (.ref 3))), some (.inr (.inl (.ref 54))), some (.inl (0, [(0, 1)]))], [(0, 12)], [], [], (0, []), (0, []), (12, [(0, (-1))]))
/-- S$Home sweepInside -/
def nl73 : List bNd := [nd73_0]
set_option maxRecDepth 100000 in
theorem ke73 : bke (4, smT) ctb 120 sc73 14 100000 nl73 = true := by decide +kernel
set_option maxRecDepth 100000 in
theorem kn73_0 : bkn (4, smT) ctb 120 sc73 100000 nl73 nd73_0 = true := by decide +kernel
def nd74_0 : bNd := (4, [some (.inr (.inl (.ref 3))), some (.inr (.inl (.ref 54))), some (.inl (0, [(0, 1)])), some (.inl (0, [(1, 1)]))], [((-2147483648), 2147483647), (0, 12)], [], [], (0, []), (0, []), (12, [(1, (-1))]))
/-- S$Home inBeds -/
def nl74 : List bNd := [nd74_0]
set_option maxRecDepth 100000 in
theorem ke74 : bke (1, smT) ctb 121 sc74 14 100000 nl74 = true := by decide +kernel
set_option maxRecDepth 100000 in
theorem kn74_0 : bkn (1, smT) ctb 121 sc74 100000 nl74 nd74_0 = true := by decide +kernel
def nd75_0 : bNd := (4, [some (.inr (.inl (.ref 3))), some (.inr (.inl (.ref 18))), some (.inl (0, [(0, 1)])), some (.inl (0, [(1, 1)]))], [((-2147483648), 2147483647), (0, 12)], [], [], (0, []), (0, []), (12, [(1, (-1))]))
/-- S$Home inside -/
def nl75 : List bNd := [nd75_0]
set_option maxRecDepth 100000 in
theorem ke75 : bke (1, smT) ctb 122 sc75 14 100000 nl75 = true := by decide +kernel
set_option maxRecDepth 100000 in
theorem kn75_0 : bkn (1, smT) ctb 122 sc75 100000 nl75 nd75_0 = true := by decide +kernel
def nd76_0 : bNd := (4, [some (.inr (.inl (.ref 3))), some (.inr (.inl (.ref 54))), some (.inl (0, [(0, 1)])), some (.inl (0, [(1, 1)]))], [((-2147483648), 2147483647), (0, 12)], [], [], (0, []), (0, []), (12, [(1, (-1))]))
/-- S$Home inside -/
def nl76 : List bNd := [nd76_0]
set_option maxRecDepth 100000 in
theorem ke76 : bke (1, smT) ctb 122 sc76 14 100000 nl76 = true := by decide +kernel
set_option maxRecDepth 100000 in
theorem kn76_0 : bkn (1, smT) ctb 122 sc76 100000 nl76 nd76_0 = true := by decide +kernel
def nd77_0 : bNd := (7, [some (.inr (.inl (.ref 3))), some (.inr (.inl (.ref 18))), some (.inl (0, [(0, 1)])), some (.inl (0, [(1, 1)])), some (.inl (0, [(2, 1)])), none, none], [((-1), 7), (0, 2147483647), (0, 8)], [], [], (0, []), (0, []), (125, [(2, (-14))]))
def nd77_1 : bNd := (25, [some (.inr (.inl (.ref 3))), some (.inr (.inl (.ref 18))), some (.inl (0, [(0, 1)])), some (.inl (0, [(1, 1)])), some (.inl (0, [(2, 1)])), some (.inl (0, [(3, 1)])), some (.inl (0, [(4, 1)]))], [((-1), 7), (0, 2147483647), (0, 7), ((-2147483648), 2147483647), (0, 12)], [], [], (0, []), (0, []), (124, [(2, (-14)), (4, (-1))]))
/-- S$Home mostInBeds -/
def nl77 : List bNd := [nd77_0, nd77_1]
set_option maxRecDepth 100000 in
theorem ke77 : bke (0, smT) ctb 123 sc77 127 100000 nl77 = true := by decide +kernel
set_option maxRecDepth 100000 in
theorem kn77_0 : bkn (0, smT) ctb 123 sc77 100000 nl77 nd77_0 = true := by decide +kernel
set_option maxRecDepth 100000 in
theorem kn77_1 : bkn (0, smT) ctb 123 sc77 100000 nl77 nd77_1 = true := by decide +kernel
def nd78_0 : bNd := (5, [some (.inr (.inl (.ref 3))), some (.inr (.inl (.ref 18))), some (.inl (0, [(0, 1)])), some (.inl (0, [(1, 1)])), some (.inl (0, [(2, 1)]))], [(0, 2147483647), (0, 4095), (0, 12)], [], [], (0, []), (0, []), (12, [(2, (-1))]))
/-- S$Home bedsAbove -/
def nl78 : List bNd := [nd78_0]
set_option maxRecDepth 100000 in
theorem ke78 : bke (1, smT) ctb 124 sc78 14 100000 nl78 = true := by decide +kernel
set_option maxRecDepth 100000 in
theorem kn78_0 : bkn (1, smT) ctb 124 sc78 100000 nl78 nd78_0 = true := by decide +kernel
def nd79_0 : bNd := (6, [some (.inr (.inl (.ref 3))), some (.inr (.inl (.ref 18))), some (.inl (0, [(0, 1)])), some (.inl (0, [(1, 1)])), some (.inl (0, [(2, 1)])), some (.inl (0, [(3, 1)]))], [((-2147483648), 2147483647), ((-2147483648), 2147483647), (0, 255), (0, 8)], [], [], (0, []), (0, []), (8, [(3, (-1))]))
/-- S$Home whoWasIn -/
def nl79 : List bNd := [nd79_0]
set_option maxRecDepth 100000 in
theorem ke79 : bke (2, smT) ctb 126 sc79 10 100000 nl79 = true := by decide +kernel
set_option maxRecDepth 100000 in
theorem kn79_0 : bkn (2, smT) ctb 126 sc79 100000 nl79 nd79_0 = true := by decide +kernel
def nd80_0 : bNd := (3, [some (.inr (.inl (.ref 3))), some (.inr (.inl (.ref 18))), some (.inl (0, [(0, 1)])), some (.inl (0, [(1, 1)])), some (.inl (0, [(2, 1)])), none], [(0, 7), (0, 7), (0, 145)], [], [], (0, []), (0, []), (145, [(2, (-1))]))
/-- S$Home firstMeeting -/
def nl80 : List bNd := [nd80_0]
set_option maxRecDepth 100000 in
theorem ke80 : bke (2, smT) ctb 127 sc80 147 100000 nl80 = true := by decide +kernel
set_option maxRecDepth 100000 in
theorem kn80_0 : bkn (2, smT) ctb 127 sc80 100000 nl80 nd80_0 = true := by decide +kernel
def nd81_0 : bNd := (37, [some (.inr (.inl (.ref 62))), some (.inr (.inl (.ref 1))), some (.inr (.inl (.ref 4))), some (.inr (.inl (.ref 18))), some (.inl (0, [(1, 1)]))], [(0, 12), (0, 14), (0, 396), (4, 400), ((-2147483648), 2147483647)], [((-4), [(2, (-1)), (3, 1)])], [(1, 2, (1, [])), (1, 3, (0, [(2, 1)])), (1, 4, (0, [(3, 1)])), (1, 5, (0, [(4, 1)])), (63, 3, (0, [(0, 1)]))], (0, []), (0, []), (14, [(1, (-1))]))
def nd81_1 : bNd := (37, [some (.inr (.inl (.ref 62))), some (.inr (.inl (.ref 1))), some (.inr (.inl (.ref 4))), some (.inr (.inl (.ref 18))), some (.inl (0, [(1, 1)]))], [(0, 12), (0, 14), (0, 399), (1, 400), (0, 999)], [], [(1, 2, (1, [])), (1, 3, (0, [(2, 1)])), (1, 4, (0, [(3, 1)])), (1, 5, (0, [(4, 1)])), (63, 3, (0, [(0, 1)]))], (0, []), (0, []), (14, [(1, (-1))]))
def nd81_2 : bNd := (37, [some (.inr (.inl (.ref 62))), some (.inr (.inl (.ref 1))), some (.inr (.inl (.ref 4))), some (.inr (.inl (.ref 18))), some (.inl (0, [(1, 1)]))], [(0, 12), (0, 14), (0, 399), (1, 400), (0, 0)], [], [(1, 2, (2, [])), (1, 3, (0, [(2, 1)])), (1, 4, (0, [(3, 1)])), (1, 5, (0, [(4, 1)])), (63, 3, (0, [(0, 1)]))], (0, []), (0, []), (14, [(1, (-1))]))
def nd81_3 : bNd := (37, [some (.inr (.inl (.ref 62))), some (.inr (.inl (.ref 1))), some (.inr (.inl (.ref 4))), some (.inr (.inl (.ref 18))), some (.inl (0, [(1, 1)]))], [(0, 12), (0, 14), (0, 399), (1, 400), (0, 0)], [], [(1, 2, (3, [])), (1, 3, (0, [(2, 1)])), (1, 4, (0, [(3, 1)])), (1, 5, (0, [(4, 1)])), (63, 3, (0, [(0, 1)]))], (0, []), (0, []), (14, [(1, (-1))]))
def nd81_4 : bNd := (37, [some (.inr (.inl (.ref 62))), some (.inr (.inl (.ref 1))), some (.inr (.inl (.ref 4))), some (.inr (.inl (.ref 18))), some (.inl (0, [(1, 1)]))], [(0, 12), (1, 14), (0, 400), (0, 400), (0, 0)], [], [(1, 2, (0, [])), (1, 3, (0, [(2, 1)])), (1, 4, (0, [(3, 1)])), (1, 5, (0, [(4, 1)])), (63, 3, (0, [(0, 1)]))], (0, []), (0, []), (14, [(1, (-1))]))
/-- S$HouseReader read -/
def nl81 : List bNd := [nd81_0, nd81_1, nd81_2, nd81_3, nd81_4]
set_option maxRecDepth 100000 in
theorem ke81 : bke (5, smT) ctb 129 sc81 16 100000 nl81 = true := by decide +kernel
set_option maxRecDepth 100000 in
theorem kn81_0 : bkn (5, smT) ctb 129 sc81 100000 nl81 nd81_0 = true := by decide +kernel
set_option maxRecDepth 100000 in
theorem kn81_1 : bkn (5, smT) ctb 129 sc81 100000 nl81 nd81_1 = true := by decide +kernel
set_option maxRecDepth 100000 in
theorem kn81_2 : bkn (5, smT) ctb 129 sc81 100000 nl81 nd81_2 = true := by decide +kernel
set_option maxRecDepth 100000 in
theorem kn81_3 : bkn (5, smT) ctb 129 sc81 100000 nl81 nd81_3 = true := by decide +kernel
set_option maxRecDepth 100000 in
theorem kn81_4 : bkn (5, smT) ctb 129 sc81 100000 nl81 nd81_4 = true := by decide +kernel
/-- S$HouseReader line -/
def nl82 : List bNd := []
set_option maxRecDepth 100000 in
theorem ke82 : bke (1, smT) ctb 131 sc82 0 100000 nl82 = true := by decide +kernel
/-- S$HouseReader line -/
def nl83 : List bNd := []
set_option maxRecDepth 100000 in
theorem ke83 : bke (1, smT) ctb 131 sc83 0 100000 nl83 = true := by decide +kernel
