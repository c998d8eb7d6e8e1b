/-- S$LawReader atom -/
def nl150 : List bNd := []
set_option maxRecDepth 100000 in
theorem ke150 : bke (11, smT) ctb 161 sc150 0 100000 nl150 = true := by decide +kernel
/-- S$LawReader atom -/
def nl151 : List bNd := []
set_option maxRecDepth 100000 in
theorem ke151 : bke (2, smT) ctb 161 sc151 0 100000 nl151 = true := by decide +kernel
/-- S$LawReader atom -/
def nl152 : List bNd := []
set_option maxRecDepth 100000 in
theorem ke152 : bke (2, smT) ctb 161 sc152 0 100000 nl152 = true := by decide +kernel
/-- S$LawReader atom -/
def nl153 : List bNd := []
set_option maxRecDepth 100000 in
theorem ke153 : bke (2, smT) ctb 161 sc153 0 100000 nl153 = true := by decide +kernel
/-- S$LawReader atom -/
def nl154 : List bNd := []
set_option maxRecDepth 100000 in
theorem ke154 : bke (7, smT) ctb 161 sc154 0 100000 nl154 = true := by decide +kernel
/-- S$LawReader atom -/
def nl155 : List bNd := []
set_option maxRecDepth 100000 in
theorem ke155 : bke (8, smT) ctb 161 sc155 0 100000 nl155 = true := by decide +kernel
/-- S$LawReader atom -/
def nl156 : List bNd := []
set_option maxRecDepth 100000 in
theorem ke156 : bke (2, smT) ctb 161 sc156 0 100000 nl156 = true := by decide +kernel
/-- S$LawReader atom -/
def nl157 : List bNd := []
set_option maxRecDepth 100000 in
theorem ke157 : bke (2, smT) ctb 161 sc157 0 100000 nl157 = true := by decide +kernel
/-- S$LawReader atom -/
def nl158 : List bNd := []
set_option maxRecDepth 100000 in
theorem ke158 : bke (2, smT) ctb 161 sc158 0 100000 nl158 = true := by decide +kernel
/-- S$LawReader atom -/
def nl159 : List bNd := []
set_option maxRecDepth 100000 in
theorem ke159 : bke (4, smT) ctb 161 sc159 0 100000 nl159 = true := by decide +kernel
/-- S$LawReader atom -/
def nl160 : List bNd := []
set_option maxRecDepth 100000 in
theorem ke160 : bke (5, smT) ctb 161 sc160 0 100000 nl160 = true := by decide +kernel
/-- S$LawReader atom -/
def nl161 : List bNd := []
set_option maxRecDepth 100000 in
theorem ke161 : bke (2, smT) ctb 161 sc161 0 100000 nl161 = true := by decide +kernel
/-- S$LawReader atom -/
def nl162 : List bNd := []
set_option maxRecDepth 100000 in
theorem ke162 : bke (2, smT) ctb 161 sc162 0 100000 nl162 = true := by decide +kernel
/-- S$LawReader atom -/
def nl163 : List bNd := []
set_option maxRecDepth 100000 in
theorem ke163 : bke (2, smT) ctb 161 sc163 0 100000 nl163 = true := by decide +kernel
/-- S$LawReader atom -/
def nl164 : List bNd := []
set_option maxRecDepth 100000 in
theorem ke164 : bke (2, smT) ctb 161 sc164 0 100000 nl164 = true := by decide +kernel
/-- S$LawReader atom -/
def nl165 : List bNd := []
set_option maxRecDepth 100000 in
theorem ke165 : bke (2, smT) ctb 161 sc165 0 100000 nl165 = true := by decide +kernel
def nd166_0 : bNd := (7, [some (.inr (.inl (.ref 76))), some (.inr (.inl (.ref 1))), some (.inl ((-1), [])), some (.inl (0, [(3, 1)])), some (.inl (0, [(4, 1)])), none], [(0, 400), (0, 400), (0, 0), (0, 0), (0, 0), (0, 400), (0, 400), (0, 0)], [], [(1, 2, (0, [])), (1, 3, (0, [(5, 1)])), (1, 4, (0, [(6, 1)])), (1, 5, (0, [(7, 1)]))], (0, []), (0, []), (0, [(4, (-1))]))
/-- S$LawReader comparison -/
def nl166 : List bNd := [nd166_0]
set_option maxRecDepth 100000 in
theorem ke166 : bke (1, smT) ctb 164 sc166 2 100000 nl166 = true := by decide +kernel
set_option maxRecDepth 100000 in
theorem kn166_0 : bkn (1, smT) ctb 164 sc166 100000 nl166 nd166_0 = true := by decide +kernel
def nd167_0 : bNd := (7, [some (.inr (.inl (.ref 76))), some (.inr (.inl (.ref 1))), some (.inl ((-1), [])), some (.inl (0, [(3, 1)])), some (.inl (0, [(4, 1)])), none], [(0, 396), (4, 400), ((-2147483648), 2147483647), (0, 0), (0, 0), (0, 396), (4, 400), ((-2147483648), 2147483647)], [((-4), [(0, (-1)), (1, 1)]), ((-4), [(5, (-1)), (6, 1)])], [(1, 2, (1, [])), (1, 3, (0, [(5, 1)])), (1, 4, (0, [(6, 1)])), (1, 5, (0, [(7, 1)]))], (0, []), (0, []), (0, [(4, (-1))]))
/-- S$LawReader comparison -/
def nl167 : List bNd := [nd167_0]
set_option maxRecDepth 100000 in
theorem ke167 : bke (1, smT) ctb 164 sc167 2 100000 nl167 = true := by decide +kernel
set_option maxRecDepth 100000 in
theorem kn167_0 : bkn (1, smT) ctb 164 sc167 100000 nl167 nd167_0 = true := by decide +kernel
