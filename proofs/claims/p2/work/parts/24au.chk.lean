def nd281_0 : bNd := (15, [some (.inr (.inl (.ref 84))), some (.inl (0, [(0, 1)])), some (.inl (0, [(1, 1)])), none, none], [(0, 7), (0, 24)], [], [(85, 2, (0, [(0, 1)]))], (0, []), (0, []), (37, [(1, (-1))]))
def nd281_1 : bNd := (44, [some (.inr (.inl (.ref 84))), some (.inl (0, [(0, 1)])), some (.inl (0, [(1, 1)])), none, none], [(0, 7), (0, 12)], [], [(85, 2, (0, [(0, 1)]))], (0, []), (0, []), (12, [(1, (-1))]))
/-- SModel readPerson -/
def nl281 : List bNd := [nd281_0, nd281_1]
set_option maxRecDepth 100000 in
theorem ke281 : bke (5, smT) ctb 249 sc281 39 100000 nl281 = true := by decide +kernel
set_option maxRecDepth 100000 in
theorem kn281_0 : bkn (5, smT) ctb 249 sc281 100000 nl281 nd281_0 = true := by decide +kernel
set_option maxRecDepth 100000 in
theorem kn281_1 : bkn (5, smT) ctb 249 sc281 100000 nl281 nd281_1 = true := by decide +kernel
/-- SModel readPart -/
def nl283 : List bNd := []
set_option maxRecDepth 100000 in
theorem ke283 : bke (4, smT) ctb 256 sc283 0 100000 nl283 = true := by decide +kernel
def nd284_0 : bNd := (9, [some (.inr (.inl (.ref 84)))], [(6, 400), (6, 400)], [(0, [(0, (-1)), (1, 1)])], [(84, 10, (0, [(1, 1)]))], (0, []), (0, []), (400, [(1, (-1))]))
/-- SModel readSum -/
def nl284 : List bNd := [nd284_0]
set_option maxRecDepth 100000 in
theorem ke284 : bke (5, smT) ctb 257 sc284 396 100000 nl284 = true := by decide +kernel
set_option maxRecDepth 100000 in
theorem kn284_0 : bkn (5, smT) ctb 257 sc284 100000 nl284 nd284_0 = true := by decide +kernel
/-- SModel readAtom -/
def nl285 : List bNd := []
set_option maxRecDepth 100000 in
theorem ke285 : bke (24, smT) ctb 259 sc285 0 100000 nl285 = true := by decide +kernel
/-- SModel readAtom -/
def nl286 : List bNd := []
set_option maxRecDepth 100000 in
theorem ke286 : bke (21, smT) ctb 259 sc286 0 100000 nl286 = true := by decide +kernel
/-- SModel readAtom -/
def nl287 : List bNd := []
set_option maxRecDepth 100000 in
theorem ke287 : bke (18, smT) ctb 259 sc287 0 100000 nl287 = true := by decide +kernel
/-- SModel readAtom -/
def nl288 : List bNd := []
set_option maxRecDepth 100000 in
theorem ke288 : bke (15, smT) ctb 259 sc288 0 100000 nl288 = true := by decide +kernel
