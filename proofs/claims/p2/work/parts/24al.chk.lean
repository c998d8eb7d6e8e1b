def nd119_0 : bNd := (8, [some (.inr (.inl (.ref 76))), some (.inr (.inl (.ref 1))), some (.inl (4, [])), some (.inl (0, [(3, 1)])), some (.inl (0, [(4, 1)])), some (.inl (0, [(5, 1)]))], [(0, 399), (1, 400), (0, 0), (0, 1), (0, 1), (0, 400), (0, 399), (1, 400), (0, 0)], [], [(1, 2, (2, [])), (1, 3, (0, [(6, 1)])), (1, 4, (0, [(7, 1)])), (1, 5, (0, [(8, 1)]))], (0, []), (0, []), (400, [(5, (-1))]))
def nd119_1 : bNd := (8, [some (.inr (.inl (.ref 76))), some (.inr (.inl (.ref 1))), some (.inl (4, [])), some (.inl (0, [(3, 1)])), some (.inl (0, [(4, 1)])), some (.inl (0, [(5, 1)]))], [(0, 399), (1, 400), (0, 0), (0, 1), (0, 1), (1, 400), (0, 400), (0, 400), (0, 0)], [], [(1, 2, (0, [])), (1, 3, (0, [(6, 1)])), (1, 4, (0, [(7, 1)])), (1, 5, (0, [(8, 1)]))], (0, []), (0, []), (400, [(5, (-1))]))
def nd119_2 : bNd := (8, [some (.inr (.inl (.ref 76))), some (.inr (.inl (.ref 1))), some (.inl (4, [])), some (.inl (0, [(3, 1)])), some (.inl (0, [(4, 1)])), some (.inl (0, [(5, 1)]))], [(0, 399), (1, 400), (0, 0), (0, 1), (0, 1), (1, 400), (0, 396), (4, 400), ((-2147483648), 2147483647)], [((-4), [(6, (-1)), (7, 1)])], [(1, 2, (1, [])), (1, 3, (0, [(6, 1)])), (1, 4, (0, [(7, 1)])), (1, 5, (0, [(8, 1)]))], (0, []), (0, []), (400, [(5, (-1))]))
def nd119_3 : bNd := (8, [some (.inr (.inl (.ref 76))), some (.inr (.inl (.ref 1))), some (.inl (4, [])), some (.inl (0, [(3, 1)])), some (.inl (0, [(4, 1)])), some (.inl (0, [(5, 1)]))], [(0, 399), (1, 400), (0, 0), (0, 1), (0, 1), (1, 400), (0, 399), (1, 400), (0, 999)], [], [(1, 2, (1, [])), (1, 3, (0, [(6, 1)])), (1, 4, (0, [(7, 1)])), (1, 5, (0, [(8, 1)]))], (0, []), (0, []), (400, [(5, (-1))]))
def nd119_4 : bNd := (8, [some (.inr (.inl (.ref 76))), some (.inr (.inl (.ref 1))), some (.inl (4, [])), some (.inl (0, [(3, 1)])), some (.inl (0, [(4, 1)])), some (.inl (0, [(5, 1)]))], [(0, 399), (1, 400), (0, 0), (0, 1), (0, 1), (1, 400), (0, 399), (1, 400), (0, 0)], [], [(1, 2, (3, [])), (1, 3, (0, [(6, 1)])), (1, 4, (0, [(7, 1)])), (1, 5, (0, [(8, 1)]))], (0, []), (0, []), (400, [(5, (-1))]))
/-- S$LawReader condition -/
def nl119 : List bNd := [nd119_0, nd119_1, nd119_2, nd119_3, nd119_4]
set_option maxRecDepth 100000 in
theorem ke119 : bke (9, smT) ctb 160 sc119 402 100000 nl119 = true := by decide +kernel
set_option maxRecDepth 100000 in
theorem kn119_0 : bkn (9, smT) ctb 160 sc119 100000 nl119 nd119_0 = true := by decide +kernel
set_option maxRecDepth 100000 in
theorem kn119_1 : bkn (9, smT) ctb 160 sc119 100000 nl119 nd119_1 = true := by decide +kernel
set_option maxRecDepth 100000 in
theorem kn119_2 : bkn (9, smT) ctb 160 sc119 100000 nl119 nd119_2 = true := by decide +kernel
set_option maxRecDepth 100000 in
theorem kn119_3 : bkn (9, smT) ctb 160 sc119 100000 nl119 nd119_3 = true := by decide +kernel
set_option maxRecDepth 100000 in
theorem kn119_4 : bkn (9, smT) ctb 160 sc119 100000 nl119 nd119_4 = true := by decide +kernel
def nd120_0 : bNd := (8, [some (.inr (.inl (.ref 76))), some (.inr (.inl (.ref 1))), some (.inl (4, [])), some (.inl (0, [(3, 1)])), some (.inl (0, [(4, 1)])), some (.inl (0, [(5, 1)]))], [(0, 399), (1, 400), (0, 0), (0, 1), (0, 1), (0, 400), (0, 399), (1, 400), (0, 0)], [], [(1, 2, (3, [])), (1, 3, (0, [(6, 1)])), (1, 4, (0, [(7, 1)])), (1, 5, (0, [(8, 1)]))], (0, []), (0, []), (400, [(5, (-1))]))
def nd120_1 : bNd := (8, [some (.inr (.inl (.ref 76))), some (.inr (.inl (.ref 1))), some (.inl (4, [])), some (.inl (0, [(3, 1)])), some (.inl (0, [(4, 1)])), some (.inl (0, [(5, 1)]))], [(0, 399), (1, 400), (0, 0), (0, 1), (0, 1), (1, 400), (0, 400), (0, 400), (0, 0)], [], [(1, 2, (0, [])), (1, 3, (0, [(6, 1)])), (1, 4, (0, [(7, 1)])), (1, 5, (0, [(8, 1)]))], (0, []), (0, []), (400, [(5, (-1))]))
def nd120_2 : bNd := (8, [some (.inr (.inl (.ref 76))), some (.inr (.inl (.ref 1))), some (.inl (4, [])), some (.inl (0, [(3, 1)])), some (.inl (0, [(4, 1)])), some (.inl (0, [(5, 1)]))], [(0, 399), (1, 400), (0, 0), (0, 1), (0, 1), (1, 400), (0, 396), (4, 400), ((-2147483648), 2147483647)], [((-4), [(6, (-1)), (7, 1)])], [(1, 2, (1, [])), (1, 3, (0, [(6, 1)])), (1, 4, (0, [(7, 1)])), (1, 5, (0, [(8, 1)]))], (0, []), (0, []), (400, [(5, (-1))]))
def nd120_3 : bNd := (8, [some (.inr (.inl (.ref 76))), some (.inr (.inl (.ref 1))), some (.inl (4, [])), some (.inl (0, [(3, 1)])), some (.inl (0, [(4, 1)])), some (.inl (0, [(5, 1)]))], [(0, 399), (1, 400), (0, 0), (0, 1), (0, 1), (1, 400), (0, 399), (1, 400), (0, 999)], [], [(1, 2, (1, [])), (1, 3, (0, [(6, 1)])), (1, 4, (0, [(7, 1)])), (1, 5, (0, [(8, 1)]))], (0, []), (0, []), (400, [(5, (-1))]))
def nd120_4 : bNd := (8, [some (.inr (.inl (.ref 76))), some (.inr (.inl (.ref 1))), some (.inl (4, [])), some (.inl (0, [(3, 1)])), some (.inl (0, [(4, 1)])), some (.inl (0, [(5, 1)]))], [(0, 399), (1, 400), (0, 0), (0, 1), (0, 1), (1, 400), (0, 399), (1, 400), (0, 0)], [], [(1, 2, (2, [])), (1, 3, (0, [(6, 1)])), (1, 4, (0, [(7, 1)])), (1, 5, (0, [(8, 1)]))], (0, []), (0, []), (400, [(5, (-1))]))
/-- S$LawReader condition -/
def nl120 : List bNd := [nd120_0, nd120_1, nd120_2, nd120_3, nd120_4]
set_option maxRecDepth 100000 in
theorem ke120 : bke (9, smT) ctb 160 sc120 402 100000 nl120 = true := by decide +kernel
set_option maxRecDepth 100000 in
theorem kn120_0 : bkn (9, smT) ctb 160 sc120 100000 nl120 nd120_0 = true := by decide +kernel
set_option maxRecDepth 100000 in
theorem kn120_1 : bkn (9, smT) ctb 160 sc120 100000 nl120 nd120_1 = true := by decide +kernel
set_option maxRecDepth 100000 in
theorem kn120_2 : bkn (9, smT) ctb 160 sc120 100000 nl120 nd120_2 = true := by decide +kernel
set_option maxRecDepth 100000 in
theorem kn120_3 : bkn (9, smT) ctb 160 sc120 100000 nl120 nd120_3 = true := by decide +kernel
set_option maxRecDepth 100000 in
theorem kn120_4 : bkn (9, smT) ctb 160 sc120 100000 nl120 nd120_4 = true := by decide +kernel
def nd121_0 : bNd := (8, [some (.inr (.inl (.ref 76))), some (.inr (.inl (.ref 1))), some (.inl (5, [])), some (.inl (0, [(3, 1)])), some (.inl (0, [(4, 1)])), some (.inl (0, [(5, 1)]))], [(0, 400), (0, 400), (0, 0), (0, 0), (0, 0), (0, 0), (0, 400), (0, 400), (0, 0)], [], [(1, 2, (0, [])), (1, 3, (0, [(6, 1)])), (1, 4, (0, [(7, 1)])), (1, 5, (0, [(8, 1)]))], (0, []), (0, []), (0, [(5, (-1))]))
/-- S$LawReader condition -/
def nl121 : List bNd := [nd121_0]
set_option maxRecDepth 100000 in
theorem ke121 : bke (3, smT) ctb 160 sc121 2 100000 nl121 = true := by decide +kernel
set_option maxRecDepth 100000 in
theorem kn121_0 : bkn (3, smT) ctb 160 sc121 100000 nl121 nd121_0 = true := by decide +kernel
def nd122_0 : bNd := (8, [some (.inr (.inl (.ref 76))), some (.inr (.inl (.ref 1))), some (.inl (5, [])), some (.inl (0, [(3, 1)])), some (.inl (0, [(4, 1)])), some (.inl (0, [(5, 1)]))], [(0, 396), (4, 400), ((-2147483648), 2147483647), (0, 0), (0, 0), (0, 0), (0, 396), (4, 400), ((-2147483648), 2147483647)], [((-4), [(0, (-1)), (1, 1)]), ((-4), [(6, (-1)), (7, 1)])], [(1, 2, (1, [])), (1, 3, (0, [(6, 1)])), (1, 4, (0, [(7, 1)])), (1, 5, (0, [(8, 1)]))], (0, []), (0, []), (0, [(5, (-1))]))
/-- S$LawReader condition -/
def nl122 : List bNd := [nd122_0]
set_option maxRecDepth 100000 in
theorem ke122 : bke (3, smT) ctb 160 sc122 2 100000 nl122 = true := by decide +kernel
set_option maxRecDepth 100000 in
theorem kn122_0 : bkn (3, smT) ctb 160 sc122 100000 nl122 nd122_0 = true := by decide +kernel
