/-- SLaw noon -/
def nl34 : List bNd := []
set_option maxRecDepth 100000 in
theorem ke34 : bke (4, smT) ctb 35 sc34 0 100000 nl34 = true := by decide +kernel
/-- SLaw log -/
def nl35 : List bNd := []
set_option maxRecDepth 100000 in
theorem ke35 : bke (3, smT) ctb 36 sc35 0 100000 nl35 = true := by decide +kernel
/-- SLaw led -/
def nl36 : List bNd := []
set_option maxRecDepth 100000 in
theorem ke36 : bke (4, smT) ctb 37 sc36 0 100000 nl36 = true := by decide +kernel
/-- S feed -/
def nl37 : List bNd := []
set_option maxRecDepth 100000 in
theorem ke37 : bke (1, smT) ctb 39 sc37 0 100000 nl37 = true := by decide +kernel
/-- S end -/
def nl38 : List bNd := []
set_option maxRecDepth 100000 in
theorem ke38 : bke (0, smT) ctb 40 sc38 0 100000 nl38 = true := by decide +kernel
/-- S fault -/
def nl39 : List bNd := []
set_option maxRecDepth 100000 in
theorem ke39 : bke (0, smT) ctb 43 sc39 0 100000 nl39 = true := by decide +kernel
/-- S clogs -/
def nl40 : List bNd := []
set_option maxRecDepth 100000 in
theorem ke40 : bke (5, smT) ctb 64 sc40 0 100000 nl40 = true := by decide +kernel
/-- S blame -/
def nl41 : List bNd := []
set_option maxRecDepth 100000 in
theorem ke41 : bke (1, smT) ctb 74 sc41 0 100000 nl41 = true := by decide +kernel
def nd42_0 : bNd := (13, [some (.inr (.inl (.ref 0))), some (.inl (0, [(0, 1)])), some (.inl (0, [(1, 1)])), some (.inl (0, [(2, 1)]))], [((-2147483648), 2147483647), (0, 255), (0, 12)], [], [], (0, []), (0, []), (12, [(2, (-1))]))
/-- S heels -/
def nl42 : List bNd := [nd42_0]
set_option maxRecDepth 100000 in
theorem ke42 : bke (3, smT) ctb 79 sc42 14 100000 nl42 = true := by decide +kernel
set_option maxRecDepth 100000 in
theorem kn42_0 : bkn (3, smT) ctb 79 sc42 100000 nl42 nd42_0 = true := by decide +kernel
/-- S seed -/
def nl43 : List bNd := []
set_option maxRecDepth 100000 in
theorem ke43 : bke (0, smT) ctb 82 sc43 0 100000 nl43 = true := by decide +kernel
/-- S undo -/
def nl44 : List bNd := []
set_option maxRecDepth 100000 in
theorem ke44 : bke (4, smT) ctb 83 sc44 0 100000 nl44 = true := by decide +kernel
/-- S image -/
def nl45 : List bNd := []
set_option maxRecDepth 100000 in
theorem ke45 : bke (2, smT) ctb 84 sc45 0 100000 nl45 = true := by decide +kernel
/-- S back -/
def nl46 : List bNd := []
set_option maxRecDepth 100000 in
theorem ke46 : bke (2, smT) ctb 85 sc46 0 100000 nl46 = true := by decide +kernel
/-- S count -/
def nl47 : List bNd := []
set_option maxRecDepth 100000 in
theorem ke47 : bke (2, smT) ctb 86 sc47 0 100000 nl47 = true := by decide +kernel
def nd48_0 : bNd := (7, [some (.inr (.inl (.ref 18))), some (.inl (0, [(0, 1)])), some (.inl (0, [(1, 1)])), some (.inl (0, [(2, 1)]))], [(0, 11), ((-2147483648), 2147483647), (0, 96)], [], [], (0, []), (0, []), (96, [(2, (-1))]))
/-- S$Grains lyingIn -/
def nl48 : List bNd := [nd48_0]
set_option maxRecDepth 100000 in
theorem ke48 : bke (0, smT) ctb 92 sc48 98 100000 nl48 = true := by decide +kernel
set_option maxRecDepth 100000 in
theorem kn48_0 : bkn (0, smT) ctb 92 sc48 100000 nl48 nd48_0 = true := by decide +kernel
def nd49_0 : bNd := (7, [some (.inr (.inl (.ref 54))), some (.inl (0, [(0, 1)])), some (.inl (0, [(1, 1)])), some (.inl (0, [(2, 1)]))], [(0, 11), ((-2147483648), 2147483647), (0, 96)], [], [], (0, []), (0, []), (96, [(2, (-1))]))
/-- S$Grains lyingIn -/
def nl49 : List bNd := [nd49_0]
set_option maxRecDepth 100000 in
theorem ke49 : bke (0, smT) ctb 92 sc49 98 100000 nl49 = true := by decide +kernel
set_option maxRecDepth 100000 in
theorem kn49_0 : bkn (0, smT) ctb 92 sc49 100000 nl49 nd49_0 = true := by decide +kernel
def nd50_0 : bNd := (7, [some (.inr (.inl (.ref 18))), some (.inl (0, [(0, 1)])), some (.inl (0, [(1, 1)])), some (.inl (0, [(2, 1)]))], [(0, 7), ((-2147483648), 2147483647), (0, 64)], [], [], (0, []), (0, []), (64, [(2, (-1))]))
/-- S$Grains carriedBy -/
def nl50 : List bNd := [nd50_0]
set_option maxRecDepth 100000 in
theorem ke50 : bke (0, smT) ctb 93 sc50 66 100000 nl50 = true := by decide +kernel
set_option maxRecDepth 100000 in
theorem kn50_0 : bkn (0, smT) ctb 93 sc50 100000 nl50 nd50_0 = true := by decide +kernel
def nd51_0 : bNd := (7, [some (.inr (.inl (.ref 54))), some (.inl (0, [(0, 1)])), some (.inl (0, [(1, 1)])), some (.inl (0, [(2, 1)]))], [(0, 7), ((-2147483648), 2147483647), (0, 64)], [], [], (0, []), (0, []), (64, [(2, (-1))]))
/-- S$Grains carriedBy -/
def nl51 : List bNd := [nd51_0]
set_option maxRecDepth 100000 in
theorem ke51 : bke (0, smT) ctb 93 sc51 66 100000 nl51 = true := by decide +kernel
set_option maxRecDepth 100000 in
theorem kn51_0 : bkn (0, smT) ctb 93 sc51 100000 nl51 nd51_0 = true := by decide +kernel
def nd52_0 : bNd := (7, [some (.inr (.inl (.ref 69))), some (.inl (0, [(0, 1)])), some (.inl (0, [(1, 1)])), some (.inl (0, [(2, 1)]))], [(0, 7), ((-2147483648), 2147483647), (0, 64)], [], [], (0, []), (0, []), (64, [(2, (-1))]))
/-- S$Grains carriedBy -/
def nl52 : List bNd := [nd52_0]
set_option maxRecDepth 100000 in
theorem ke52 : bke (0, smT) ctb 93 sc52 66 100000 nl52 = true := by decide +kernel
set_option maxRecDepth 100000 in
theorem kn52_0 : bkn (0, smT) ctb 93 sc52 100000 nl52 nd52_0 = true := by decide +kernel
def nd53_0 : bNd := (4, [some (.inr (.inl (.ref 18))), some (.inl (0, [(0, 1)])), some (.inl (0, [(1, 1)]))], [((-2147483648), 2147483647), (0, 12)], [], [], (0, []), (0, []), (12, [(1, (-1))]))
/-- S$Grains allLying -/
def nl53 : List bNd := [nd53_0]
set_option maxRecDepth 100000 in
theorem ke53 : bke (1, smT) ctb 94 sc53 14 100000 nl53 = true := by decide +kernel
set_option maxRecDepth 100000 in
theorem kn53_0 : bkn (1, smT) ctb 94 sc53 100000 nl53 nd53_0 = true := by decide +kernel
def nd54_0 : bNd := (4, [some (.inr (.inl (.ref 18))), some (.inl (0, [(0, 1)])), some (.inl (0, [(1, 1)]))], [((-2147483648), 2147483647), (0, 8)], [], [], (0, []), (0, []), (8, [(1, (-1))]))
/-- S$Grains allCarried -/
def nl54 : List bNd := [nd54_0]
set_option maxRecDepth 100000 in
theorem ke54 : bke (1, smT) ctb 95 sc54 10 100000 nl54 = true := by decide +kernel
set_option maxRecDepth 100000 in
theorem kn54_0 : bkn (1, smT) ctb 95 sc54 100000 nl54 nd54_0 = true := by decide +kernel
def nd55_0 : bNd := (4, [some (.inr (.inl (.ref 54))), some (.inl (0, [(0, 1)])), some (.inl (0, [(1, 1)]))], [((-2147483648), 2147483647), (0, 8)], [], [], (0, []), (0, []), (8, [(1, (-1))]))
/-- S$Grains allCarried -/
def nl55 : List bNd := [nd55_0]
set_option maxRecDepth 100000 in
theorem ke55 : bke (1, smT) ctb 95 sc55 10 100000 nl55 = true := by decide +kernel
set_option maxRecDepth 100000 in
theorem kn55_0 : bkn (1, smT) ctb 95 sc55 100000 nl55 nd55_0 = true := by decide +kernel
def nd56_0 : bNd := (5, [some (.inr (.inl (.ref 18))), some (.inl (0, [(0, 1)])), some (.inl (0, [(1, 1)])), some (.inl (0, [(2, 1)])), some (.inl (0, [(3, 1)])), none], [(0, 7), (1, 100), ((-2147483648), 2147483647), (0, 8)], [], [], (0, []), (0, []), (8, [(3, (-1))]))
/-- S$Grains takeFrom -/
def nl56 : List bNd := [nd56_0]
set_option maxRecDepth 100000 in
theorem ke56 : bke (1, smT) ctb 100 sc56 10 100000 nl56 = true := by decide +kernel
set_option maxRecDepth 100000 in
theorem kn56_0 : bkn (1, smT) ctb 100 sc56 100000 nl56 nd56_0 = true := by decide +kernel
def nd57_0 : bNd := (5, [some (.inr (.inl (.ref 54))), some (.inl (0, [(0, 1)])), some (.inl (0, [(1, 1)])), some (.inl (0, [(2, 1)])), some (.inl (0, [(3, 1)])), none], [(0, 7), (1, 100), ((-2147483648), 2147483647), (0, 8)], [], [], (0, []), (0, []), (8, [(3, (-1))]))
/-- S$Grains takeFrom -/
def nl57 : List bNd := [nd57_0]
set_option maxRecDepth 100000 in
theorem ke57 : bke (1, smT) ctb 100 sc57 10 100000 nl57 = true := by decide +kernel
set_option maxRecDepth 100000 in
theorem kn57_0 : bkn (1, smT) ctb 100 sc57 100000 nl57 nd57_0 = true := by decide +kernel
def nd58_0 : bNd := (5, [some (.inr (.inl (.ref 54))), some (.inl (0, [(0, 1)])), some (.inl (0, [(1, 1)])), some (.inl (0, [(2, 1)])), some (.inl (0, [(3, 1)])), none], [(0, 11), ((-2147483648), 2147483647), ((-2147483648), 2147483647), (0, 8)], [], [], (0, []), (0, []), (8, [(3, (-1))]))
/-- S$Grains takeOutOf -/
def nl58 : List bNd := [nd58_0]
set_option maxRecDepth 100000 in
theorem ke58 : bke (1, smT) ctb 102 sc58 10 100000 nl58 = true := by decide +kernel
set_option maxRecDepth 100000 in
theorem kn58_0 : bkn (1, smT) ctb 102 sc58 100000 nl58 nd58_0 = true := by decide +kernel
def nd59_0 : bNd := (5, [some (.inr (.inl (.ref 18))), some (.inl (0, [(0, 1)])), some (.inl (0, [(1, 1)])), some (.inl (0, [(2, 1)])), some (.inl (0, [(3, 1)])), none], [(0, 11), ((-2147483648), 2147483647), ((-2147483648), 2147483647), (0, 8)], [], [], (0, []), (0, []), (8, [(3, (-1))]))
/-- S$Grains takeOutOf -/
def nl59 : List bNd := [nd59_0]
set_option maxRecDepth 100000 in
theorem ke59 : bke (1, smT) ctb 102 sc59 10 100000 nl59 = true := by decide +kernel
set_option maxRecDepth 100000 in
theorem kn59_0 : bkn (1, smT) ctb 102 sc59 100000 nl59 nd59_0 = true := by decide +kernel
def nd60_0 : bNd := (6, [some (.inr (.inl (.ref 18))), some (.inl (0, [(0, 1)])), some (.inl (0, [(1, 1)])), some (.inl (0, [(2, 1)])), some (.inl (0, [(3, 1)])), some (.inl (0, [(4, 1)])), none], [(0, 7), (0, 11), ((-2147483648), 2147483647), ((-2147483648), 2147483647), (0, 8)], [], [], (0, []), (0, []), (8, [(4, (-1))]))
/-- S$Grains fall -/
def nl60 : List bNd := [nd60_0]
set_option maxRecDepth 100000 in
theorem ke60 : bke (1, smT) ctb 103 sc60 10 100000 nl60 = true := by decide +kernel
set_option maxRecDepth 100000 in
theorem kn60_0 : bkn (1, smT) ctb 103 sc60 100000 nl60 nd60_0 = true := by decide +kernel
def nd61_0 : bNd := (6, [some (.inr (.inl (.ref 54))), some (.inl (0, [(0, 1)])), some (.inl (0, [(1, 1)])), some (.inl (0, [(2, 1)])), some (.inl (0, [(3, 1)])), some (.inl (0, [(4, 1)])), none], [(0, 7), (0, 11), ((-2147483648), 2147483647), ((-2147483648), 2147483647), (0, 8)], [], [], (0, []), (0, []), (8, [(4, (-1))]))
/-- S$Grains fall -/
def nl61 : List bNd := [nd61_0]
set_option maxRecDepth 100000 in
theorem ke61 : bke (1, smT) ctb 103 sc61 10 100000 nl61 = true := by decide +kernel
set_option maxRecDepth 100000 in
theorem kn61_0 : bkn (1, smT) ctb 103 sc61 100000 nl61 nd61_0 = true := by decide +kernel
def nd62_0 : bNd := (11, [some (.inr (.inl (.ref 18))), some (.inl (0, [(0, 1)])), some (.inl (0, [(1, 1)])), some (.inl (0, [(2, 1)])), some (.inr (.inr (0, [(3, 1)]))), none, some (.inl (0, [(4, 1)])), none], [(0, 7), (0, 11), ((-2147483648), 2147483647), ((-9223372036854775808), 9223372036854775807), (0, 8)], [], [], (0, []), (0, []), (17, [(4, (-1))]))
def nd62_1 : bNd := (59, [some (.inr (.inl (.ref 18))), some (.inl (0, [(0, 1)])), some (.inl (0, [(1, 1)])), some (.inl (0, [(2, 1)])), some (.inr (.inr (0, [(3, 1)]))), none, some (.inl (0, [(4, 1)])), none], [(0, 7), (0, 11), ((-2147483648), 2147483647), ((-9223372036854775808), 9223372036854775807), (0, 8)], [], [], (0, []), (0, []), (8, [(4, (-1))]))
/-- S$Grains cling -/
def nl62 : List bNd := [nd62_0, nd62_1]
set_option maxRecDepth 100000 in
theorem ke62 : bke (1, smT) ctb 104 sc62 19 100000 nl62 = true := by decide +kernel
set_option maxRecDepth 100000 in
theorem kn62_0 : bkn (1, smT) ctb 104 sc62 100000 nl62 nd62_0 = true := by decide +kernel
set_option maxRecDepth 100000 in
theorem kn62_1 : bkn (1, smT) ctb 104 sc62 100000 nl62 nd62_1 = true := by decide +kernel
def nd63_0 : bNd := (11, [some (.inr (.inl (.ref 54))), some (.inl (0, [(0, 1)])), some (.inl (0, [(1, 1)])), some (.inl (0, [(2, 1)])), some (.inr (.inr (0, [(3, 1)]))), none, some (.inl (0, [(4, 1)])), none], [(0, 7), (0, 11), ((-2147483648), 2147483647), ((-9223372036854775808), 9223372036854775807), (0, 8)], [], [], (0, []), (0, []), (17, [(4, (-1))]))
def nd63_1 : bNd := (59, [some (.inr (.inl (.ref 54))), some (.inl (0, [(0, 1)])), some (.inl (0, [(1, 1)])), some (.inl (0, [(2, 1)])), some (.inr (.inr (0, [(3, 1)]))), none, some (.inl (0, [(4, 1)])), none], [(0, 7), (0, 11), ((-2147483648), 2147483647), ((-9223372036854775808), 9223372036854775807), (0, 8)], [], [], (0, []), (0, []), (8, [(4, (-1))]))
/-- S$Grains cling -/
def nl63 : List bNd := [nd63_0, nd63_1]
set_option maxRecDepth 100000 in
theorem ke63 : bke (1, smT) ctb 104 sc63 19 100000 nl63 = true := by decide +kernel
set_option maxRecDepth 100000 in
theorem kn63_0 : bkn (1, smT) ctb 104 sc63 100000 nl63 nd63_0 = true := by decide +kernel
set_option maxRecDepth 100000 in
theorem kn63_1 : bkn (1, smT) ctb 104 sc63 100000 nl63 nd63_1 = true := by decide +kernel
def nd64_0 : bNd := (8, [some (.inr (.inl (.ref 18))), some (.inr (.inl (.ref 24))), some (.inl (0, [(0, 1)])), some (.inl (0, [(1, 1)])), some (.inl (0, [(2, 1)])), some (.inl (0, [(3, 1)]))], [(0, 56), ((-1), 7), (0, 2147483647), (0, 8)], [], [], (0, []), (0, []), (8, [(3, (-1))]))
/-- S$Grains mostOf -/
def nl64 : List bNd := [nd64_0]
set_option maxRecDepth 100000 in
theorem ke64 : bke (0, smT) ctb 105 sc64 10 100000 nl64 = true := by decide +kernel
set_option maxRecDepth 100000 in
theorem kn64_0 : bkn (0, smT) ctb 105 sc64 100000 nl64 nd64_0 = true := by decide +kernel
def nd65_0 : bNd := (8, [some (.inr (.inl (.ref 18))), some (.inr (.inl (.ref 23))), some (.inl (0, [(0, 1)])), some (.inl (0, [(1, 1)])), some (.inl (0, [(2, 1)])), some (.inl (0, [(3, 1)]))], [(0, 88), ((-1), 7), (0, 2147483647), (0, 8)], [], [], (0, []), (0, []), (8, [(3, (-1))]))
/-- S$Grains mostOf -/
def nl65 : List bNd := [nd65_0]
set_option maxRecDepth 100000 in
theorem ke65 : bke (0, smT) ctb 105 sc65 10 100000 nl65 = true := by decide +kernel
set_option maxRecDepth 100000 in
theorem kn65_0 : bkn (0, smT) ctb 105 sc65 100000 nl65 nd65_0 = true := by decide +kernel
def nd66_0 : bNd := (5, [some (.inr (.inl (.ref 18))), some (.inr (.inl (.ref 24))), some (.inl (0, [(0, 1)])), some (.inl (0, [(1, 1)])), some (.inl (0, [(2, 1)]))], [(0, 56), ((-2147483648), 2147483647), (0, 8)], [], [], (0, []), (0, []), (8, [(2, (-1))]))
/-- S$Grains owners -/
def nl66 : List bNd := [nd66_0]
set_option maxRecDepth 100000 in
theorem ke66 : bke (0, smT) ctb 106 sc66 10 100000 nl66 = true := by decide +kernel
set_option maxRecDepth 100000 in
theorem kn66_0 : bkn (0, smT) ctb 106 sc66 100000 nl66 nd66_0 = true := by decide +kernel
