def nd99_0 : bNd := (8, [some (.inr (.inl (.ref 76))), some (.inr (.inl (.ref 1))), some (.inl (0, [])), some (.inl (0, [(3, 1)])), some (.inl (0, [(4, 1)])), some (.inl (0, [(5, 1)]))], [(0, 399), (1, 400), (0, 0), (0, 1), (0, 1), (0, 400), (0, 399), (1, 400), (0, 0)], [], [(1, 2, (2, [])), (1, 3, (0, [(6, 1)])), (1, 4, (0, [(7, 1)])), (1, 5, (0, [(8, 1)]))], (0, []), (0, []), (400, [(5, (-1))]))
def nd99_1 : bNd := (8, [some (.inr (.inl (.ref 76))), some (.inr (.inl (.ref 1))), some (.inl (0, [])), some (.inl (0, [(3, 1)])), some (.inl (0, [(4, 1)])), some (.inl (0, [(5, 1)]))], [(0, 399), (1, 400), (0, 0), (0, 1), (0, 1), (1, 400), (0, 400), (0, 400), (0, 0)], [], [(1, 2, (0, [])), (1, 3, (0, [(6, 1)])), (1, 4, (0, [(7, 1)])), (1, 5, (0, [(8, 1)]))], (0, []), (0, []), (400, [(5, (-1))]))
def nd99_2 : bNd := (8, [some (.inr (.inl (.ref 76))), some (.inr (.inl (.ref 1))), some (.inl (0, [])), some (.inl (0, [(3, 1)])), some (.inl (0, [(4, 1)])), some (.inl (0, [(5, 1)]))], [(0, 399), (1, 400), (0, 0), (0, 1), (0, 1), (1, 400), (0, 396), (4, 400), ((-2147483648), 2147483647)], [((-4), [(6, (-1)), (7, 1)])], [(1, 2, (1, [])), (1, 3, (0, [(6, 1)])), (1, 4, (0, [(7, 1)])), (1, 5, (0, [(8, 1)]))], (0, []), (0, []), (400, [(5, (-1))]))
def nd99_3 : bNd := (8, [some (.inr (.inl (.ref 76))), some (.inr (.inl (.ref 1))), some (.inl (0, [])), some (.inl (0, [(3, 1)])), some (.inl (0, [(4, 1)])), some (.inl (0, [(5, 1)]))], [(0, 399), (1, 400), (0, 0), (0, 1), (0, 1), (1, 400), (0, 399), (1, 400), (0, 999)], [], [(1, 2, (1, [])), (1, 3, (0, [(6, 1)])), (1, 4, (0, [(7, 1)])), (1, 5, (0, [(8, 1)]))], (0, []), (0, []), (400, [(5, (-1))]))
def nd99_4 : bNd := (8, [some (.inr (.inl (.ref 76))), some (.inr (.inl (.ref 1))), some (.inl (0, [])), some (.inl (0, [(3, 1)])), some (.inl (0, [(4, 1)])), some (.inl (0, [(5, 1)]))], [(0, 399), (1, 400), (0, 0), (0, 1), (0, 1), (1, 400), (0, 399), (1, 400), (0, 0)], [], [(1, 2, (3, [])), (1, 3, (0, [(6, 1)])), (1, 4, (0, [(7, 1)])), (1, 5, (0, [(8, 1)]))], (0, []), (0, []), (400, [(5, (-1))]))
/-- S$LawReader condition -/
def nl99 : List bNd := [nd99_0, nd99_1, nd99_2, nd99_3, nd99_4]
set_option maxRecDepth 100000 in
theorem ke99 : bke (21, smT) ctb 160 sc99 402 100000 nl99 = true := by decide +kernel
set_option maxRecDepth 100000 in
theorem kn99_0 : bkn (21, smT) ctb 160 sc99 100000 nl99 nd99_0 = true := by decide +kernel
set_option maxRecDepth 100000 in
theorem kn99_1 : bkn (21, smT) ctb 160 sc99 100000 nl99 nd99_1 = true := by decide +kernel
set_option maxRecDepth 100000 in
theorem kn99_2 : bkn (21, smT) ctb 160 sc99 100000 nl99 nd99_2 = true := by decide +kernel
set_option maxRecDepth 100000 in
theorem kn99_3 : bkn (21, smT) ctb 160 sc99 100000 nl99 nd99_3 = true := by decide +kernel
set_option maxRecDepth 100000 in
theorem kn99_4 : bkn (21, smT) ctb 160 sc99 100000 nl99 nd99_4 = true := by decide +kernel
def nd100_0 : bNd := (8, [some (.inr (.inl (.ref 76))), some (.inr (.inl (.ref 1))), some (.inl (0, [])), some (.inl (0, [(3, 1)])), some (.inl (0, [(4, 1)])), some (.inl (0, [(5, 1)]))], [(0, 399), (1, 400), (0, 0), (0, 1), (0, 1), (0, 400), (0, 399), (1, 400), (0, 0)], [], [(1, 2, (3, [])), (1, 3, (0, [(6, 1)])), (1, 4, (0, [(7, 1)])), (1, 5, (0, [(8, 1)]))], (0, []), (0, []), (400, [(5, (-1))]))
def nd100_1 : bNd := (8, [some (.inr (.inl (.ref 76))), some (.inr (.inl (.ref 1))), some (.inl (0, [])), some (.inl (0, [(3, 1)])), some (.inl (0, [(4, 1)])), some (.inl (0, [(5, 1)]))], [(0, 399), (1, 400), (0, 0), (0, 1), (0, 1), (1, 400), (0, 400), (0, 400), (0, 0)], [], [(1, 2, (0, [])), (1, 3, (0, [(6, 1)])), (1, 4, (0, [(7, 1)])), (1, 5, (0, [(8, 1)]))], (0, []), (0, []), (400, [(5, (-1))]))
def nd100_2 : bNd := (8, [some (.inr (.inl (.ref 76))), some (.inr (.inl (.ref 1))), some (.inl (0, [])), some (.inl (0, [(3, 1)])), some (.inl (0, [(4, 1)])), some (.inl (0, [(5, 1)]))], [(0, 399), (1, 400), (0, 0), (0, 1), (0, 1), (1, 400), (0, 396), (4, 400), ((-2147483648), 2147483647)], [((-4), [(6, (-1)), (7, 1)])], [(1, 2, (1, [])), (1, 3, (0, [(6, 1)])), (1, 4, (0, [(7, 1)])), (1, 5, (0, [(8, 1)]))], (0, []), (0, []), (400, [(5, (-1))]))
def nd100_3 : bNd := (8, [some (.inr (.inl (.ref 76))), some (.inr (.inl (.ref 1))), some (.inl (0, [])), some (.inl (0, [(3, 1)])), some (.inl (0, [(4, 1)])), some (.inl (0, [(5, 1)]))], [(0, 399), (1, 400), (0, 0), (0, 1), (0, 1), (1, 400), (0, 399), (1, 400), (0, 999)], [], [(1, 2, (1, [])), (1, 3, (0, [(6, 1)])), (1, 4, (0, [(7, 1)])), (1, 5, (0, [(8, 1)]))], (0, []), (0, []), (400, [(5, (-1))]))
def nd100_4 : bNd := (8, [some (.inr (.inl (.ref 76))), some (.inr (.inl (.ref 1))), some (.inl (0, [])), some (.inl (0, [(3, 1)])), some (.inl (0, [(4, 1)])), some (.inl (0, [(5, 1)]))], [(0, 399), (1, 400), (0, 0), (0, 1), (0, 1), (1, 400), (0, 399), (1, 400), (0, 0)], [], [(1, 2, (2, [])), (1, 3, (0, [(6, 1)])), (1, 4, (0, [(7, 1)])), (1, 5, (0, [(8, 1)]))], (0, []), (0, []), (400, [(5, (-1))]))
/-- S$LawReader condition -/
def nl100 : List bNd := [nd100_0, nd100_1, nd100_2, nd100_3, nd100_4]
set_option maxRecDepth 100000 in
theorem ke100 : bke (21, smT) ctb 160 sc100 402 100000 nl100 = true := by decide +kernel
set_option maxRecDepth 100000 in
theorem kn100_0 : bkn (21, smT) ctb 160 sc100 100000 nl100 nd100_0 = true := by decide +kernel
set_option maxRecDepth 100000 in
theorem kn100_1 : bkn (21, smT) ctb 160 sc100 100000 nl100 nd100_1 = true := by decide +kernel
set_option maxRecDepth 100000 in
theorem kn100_2 : bkn (21, smT) ctb 160 sc100 100000 nl100 nd100_2 = true := by decide +kernel
set_option maxRecDepth 100000 in
theorem kn100_3 : bkn (21, smT) ctb 160 sc100 100000 nl100 nd100_3 = true := by decide +kernel
set_option maxRecDepth 100000 in
theorem kn100_4 : bkn (21, smT) ctb 160 sc100 100000 nl100 nd100_4 = true := by decide +kernel
def nd101_0 : bNd := (8, [some (.inr (.inl (.ref 76))), some (.inr (.inl (.ref 1))), some (.inl (1, [])), some (.inl (0, [(3, 1)])), some (.inl (0, [(4, 1)])), some (.inl (0, [(5, 1)]))], [(0, 400), (0, 400), (0, 0), (0, 0), (0, 0), (0, 0), (0, 400), (0, 400), (0, 0)], [], [(1, 2, (0, [])), (1, 3, (0, [(6, 1)])), (1, 4, (0, [(7, 1)])), (1, 5, (0, [(8, 1)]))], (0, []), (0, []), (0, [(5, (-1))]))
/-- S$LawReader condition -/
def nl101 : List bNd := [nd101_0]
set_option maxRecDepth 100000 in
theorem ke101 : bke (3, smT) ctb 160 sc101 2 100000 nl101 = true := by decide +kernel
set_option maxRecDepth 100000 in
theorem kn101_0 : bkn (3, smT) ctb 160 sc101 100000 nl101 nd101_0 = true := by decide +kernel
def nd102_0 : bNd := (8, [some (.inr (.inl (.ref 76))), some (.inr (.inl (.ref 1))), some (.inl (1, [])), some (.inl (0, [(3, 1)])), some (.inl (0, [(4, 1)])), some (.inl (0, [(5, 1)]))], [(0, 396), (4, 400), ((-2147483648), 2147483647), (0, 0), (0, 0), (0, 0), (0, 396), (4, 400), ((-2147483648), 2147483647)], [((-4), [(0, (-1)), (1, 1)]), ((-4), [(6, (-1)), (7, 1)])], [(1, 2, (1, [])), (1, 3, (0, [(6, 1)])), (1, 4, (0, [(7, 1)])), (1, 5, (0, [(8, 1)]))], (0, []), (0, []), (0, [(5, (-1))]))
/-- S$LawReader condition -/
def nl102 : List bNd := [nd102_0]
set_option maxRecDepth 100000 in
theorem ke102 : bke (3, smT) ctb 160 sc102 2 100000 nl102 = true := by decide +kernel
set_option maxRecDepth 100000 in
theorem kn102_0 : bkn (3, smT) ctb 160 sc102 100000 nl102 nd102_0 = true := by decide +kernel
