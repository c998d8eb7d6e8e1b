def nd129_0 : bNd := (8, [some (.inr (.inl (.ref 76))), some (.inr (.inl (.ref 1))), some (.inl (6, [])), some (.inl (0, [(3, 1)])), some (.inl (0, [(4, 1)])), some (.inl (0, [(5, 1)]))], [(0, 399), (1, 400), (0, 0), (0, 1), (0, 1), (0, 400), (0, 399), (1, 400), (0, 0)], [], [(1, 2, (2, [])), (1, 3, (0, [(6, 1)])), (1, 4, (0, [(7, 1)])), (1, 5, (0, [(8, 1)]))], (0, []), (0, []), (400, [(5, (-1))]))
def nd129_1 : bNd := (8, [some (.inr (.inl (.ref 76))), some (.inr (.inl (.ref 1))), some (.inl (6, [])), some (.inl (0, [(3, 1)])), some (.inl (0, [(4, 1)])), some (.inl (0, [(5, 1)]))], [(0, 399), (1, 400), (0, 0), (0, 1), (0, 1), (1, 400), (0, 400), (0, 400), (0, 0)], [], [(1, 2, (0, [])), (1, 3, (0, [(6, 1)])), (1, 4, (0, [(7, 1)])), (1, 5, (0, [(8, 1)]))], (0, []), (0, []), (400, [(5, (-1))]))
def nd129_2 : bNd := (8, [some (.inr (.inl (.ref 76))), some (.inr (.inl (.ref 1))), some (.inl (6, [])), some (.inl (0, [(3, 1)])), some (.inl (0, [(4, 1)])), some (.inl (0, [(5, 1)]))], [(0, 399), (1, 400), (0, 0), (0, 1), (0, 1), (1, 400), (0, 396), (4, 400), ((-2147483648), 2147483647)], [((-4), [(6, (-1)), (7, 1)])], [(1, 2, (1, [])), (1, 3, (0, [(6, 1)])), (1, 4, (0, [(7, 1)])), (1, 5, (0, [(8, 1)]))], (0, []), (0, []), (400, [(5, (-1))]))
def nd129_3 : bNd := (8, [some (.inr (.inl (.ref 76))), some (.inr (.inl (.ref 1))), some (.inl (6, [])), some (.inl (0, [(3, 1)])), some (.inl (0, [(4, 1)])), some (.inl (0, [(5, 1)]))], [(0, 399), (1, 400), (0, 0), (0, 1), (0, 1), (1, 400), (0, 399), (1, 400), (0, 999)], [], [(1, 2, (1, [])), (1, 3, (0, [(6, 1)])), (1, 4, (0, [(7, 1)])), (1, 5, (0, [(8, 1)]))], (0, []), (0, []), (400, [(5, (-1))]))
def nd129_4 : bNd := (8, [some (.inr (.inl (.ref 76))), some (.inr (.inl (.ref 1))), some (.inl (6, [])), some (.inl (0, [(3, 1)])), some (.inl (0, [(4, 1)])), some (.inl (0, [(5, 1)]))], [(0, 399), (1, 400), (0, 0), (0, 1), (0, 1), (1, 400), (0, 399), (1, 400), (0, 0)], [], [(1, 2, (3, [])), (1, 3, (0, [(6, 1)])), (1, 4, (0, [(7, 1)])), (1, 5, (0, [(8, 1)]))], (0, []), (0, []), (400, [(5, (-1))]))
/-- S$LawReader condition -/
def nl129 : List bNd := [nd129_0, nd129_1, nd129_2, nd129_3, nd129_4]
set_option maxRecDepth 100000 in
theorem ke129 : bke (3, smT) ctb 160 sc129 402 100000 nl129 = true := by decide +kernel
set_option maxRecDepth 100000 in
theorem kn129_0 : bkn (3, smT) ctb 160 sc129 100000 nl129 nd129_0 = true := by decide +kernel
set_option maxRecDepth 100000 in
theorem kn129_1 : bkn (3, smT) ctb 160 sc129 100000 nl129 nd129_1 = true := by decide +kernel
set_option maxRecDepth 100000 in
theorem kn129_2 : bkn (3, smT) ctb 160 sc129 100000 nl129 nd129_2 = true := by decide +kernel
set_option maxRecDepth 100000 in
theorem kn129_3 : bkn (3, smT) ctb 160 sc129 100000 nl129 nd129_3 = true := by decide +kernel
set_option maxRecDepth 100000 in
theorem kn129_4 : bkn (3, smT) ctb 160 sc129 100000 nl129 nd129_4 = true := by decide +kernel
def nd130_0 : bNd := (8, [some (.inr (.inl (.ref 76))), some (.inr (.inl (.ref 1))), some (.inl (6, [])), some (.inl (0, [(3, 1)])), some (.inl (0, [(4, 1)])), some (.inl (0, [(5, 1)]))], [(0, 399), (1, 400), (0, 0), (0, 0), (0, 0), (0, 0), (0, 399), (1, 400), (0, 0)], [], [(1, 2, (3, [])), (1, 3, (0, [(6, 1)])), (1, 4, (0, [(7, 1)])), (1, 5, (0, [(8, 1)]))], (0, []), (0, []), (0, [(5, (-1))]))
/-- S$LawReader condition -/
def nl130 : List bNd := [nd130_0]
set_option maxRecDepth 100000 in
theorem ke130 : bke (3, smT) ctb 160 sc130 2 100000 nl130 = true := by decide +kernel
set_option maxRecDepth 100000 in
theorem kn130_0 : bkn (3, smT) ctb 160 sc130 100000 nl130 nd130_0 = true := by decide +kernel
/-- S$LawReader atom -/
def nl131 : List bNd := []
set_option maxRecDepth 100000 in
theorem ke131 : bke (2, smT) ctb 161 sc131 0 100000 nl131 = true := by decide +kernel
/-- S$LawReader atom -/
def nl132 : List bNd := []
set_option maxRecDepth 100000 in
theorem ke132 : bke (2, smT) ctb 161 sc132 0 100000 nl132 = true := by decide +kernel
/-- S$LawReader atom -/
def nl133 : List bNd := []
set_option maxRecDepth 100000 in
theorem ke133 : bke (2, smT) ctb 161 sc133 0 100000 nl133 = true := by decide +kernel
/-- S$LawReader atom -/
def nl134 : List bNd := []
set_option maxRecDepth 100000 in
theorem ke134 : bke (19, smT) ctb 161 sc134 0 100000 nl134 = true := by decide +kernel
/-- S$LawReader atom -/
def nl135 : List bNd := []
set_option maxRecDepth 100000 in
theorem ke135 : bke (20, smT) ctb 161 sc135 0 100000 nl135 = true := by decide +kernel
/-- S$LawReader atom -/
def nl136 : List bNd := []
set_option maxRecDepth 100000 in
theorem ke136 : bke (2, smT) ctb 161 sc136 0 100000 nl136 = true := by decide +kernel
/-- S$LawReader atom -/
def nl137 : List bNd := []
set_option maxRecDepth 100000 in
theorem ke137 : bke (2, smT) ctb 161 sc137 0 100000 nl137 = true := by decide +kernel
/-- S$LawReader atom -/
def nl138 : List bNd := []
set_option maxRecDepth 100000 in
theorem ke138 : bke (2, smT) ctb 161 sc138 0 100000 nl138 = true := by decide +kernel
/-- S$LawReader atom -/
def nl139 : List bNd := []
set_option maxRecDepth 100000 in
theorem ke139 : bke (16, smT) ctb 161 sc139 0 100000 nl139 = true := by decide +kernel
/-- S$LawReader atom -/
def nl140 : List bNd := []
set_option maxRecDepth 100000 in
theorem ke140 : bke (17, smT) ctb 161 sc140 0 100000 nl140 = true := by decide +kernel
/-- S$LawReader atom -/
def nl141 : List bNd := []
set_option maxRecDepth 100000 in
theorem ke141 : bke (2, smT) ctb 161 sc141 0 100000 nl141 = true := by decide +kernel
/-- S$LawReader atom -/
def nl142 : List bNd := []
set_option maxRecDepth 100000 in
theorem ke142 : bke (2, smT) ctb 161 sc142 0 100000 nl142 = true := by decide +kernel
/-- S$LawReader atom -/
def nl143 : List bNd := []
set_option maxRecDepth 100000 in
theorem ke143 : bke (2, smT) ctb 161 sc143 0 100000 nl143 = true := by decide +kernel
/-- S$LawReader atom -/
def nl144 : List bNd := []
set_option maxRecDepth 100000 in
theorem ke144 : bke (13, smT) ctb 161 sc144 0 100000 nl144 = true := by decide +kernel
/-- S$LawReader atom -/
def nl145 : List bNd := []
set_option maxRecDepth 100000 in
theorem ke145 : bke (14, smT) ctb 161 sc145 0 100000 nl145 = true := by decide +kernel
/-- S$LawReader atom -/
def nl146 : List bNd := []
set_option maxRecDepth 100000 in
theorem ke146 : bke (2, smT) ctb 161 sc146 0 100000 nl146 = true := by decide +kernel
/-- S$LawReader atom -/
def nl147 : List bNd := []
set_option maxRecDepth 100000 in
theorem ke147 : bke (2, smT) ctb 161 sc147 0 100000 nl147 = true := by decide +kernel
/-- S$LawReader atom -/
def nl148 : List bNd := []
set_option maxRecDepth 100000 in
theorem ke148 : bke (2, smT) ctb 161 sc148 0 100000 nl148 = true := by decide +kernel
/-- S$LawReader atom -/
def nl149 : List bNd := []
set_option maxRecDepth 100000 in
theorem ke149 : bke (10, smT) ctb 161 sc149 0 100000 nl149 = true := by decide +kernel
