def nd105_0 : bNd := (8, [some (.inr (.inl (.ref 76))), some (.inr (.inl (.ref 1))), some (.inl (1, [])), some (.inl (0, [(3, 1)])), some (.inl (0, [(4, 1)])), some (.inl (0, [(5, 1)]))], [(0, 399), (1, 400), (0, 0), (0, 1), (0, 1), (0, 400), (0, 399), (1, 400), (0, 0)], [], [(1, 2, (3, [])), (1, 3, (0, [(6, 1)])), (1, 4, (0, [(7, 1)])), (1, 5, (0, [(8, 1)]))], (0, []), (0, []), (400, [(5, (-1))]))
def nd105_1 : bNd := (8, [some (.inr (.inl (.ref 76))), some (.inr (.inl (.ref 1))), some (.inl (1, [])), some (.inl (0, [(3, 1)])), some (.inl (0, [(4, 1)])), some (.inl (0, [(5, 1)]))], [(0, 399), (1, 400), (0, 0), (0, 1), (0, 1), (1, 400), (0, 400), (0, 400), (0, 0)], [], [(1, 2, (0, [])), (1, 3, (0, [(6, 1)])), (1, 4, (0, [(7, 1)])), (1, 5, (0, [(8, 1)]))], (0, []), (0, []), (400, [(5, (-1))]))
def nd105_2 : bNd := (8, [some (.inr (.inl (.ref 76))), some (.inr (.inl (.ref 1))), some (.inl (1, [])), some (.inl (0, [(3, 1)])), some (.inl (0, [(4, 1)])), some (.inl (0, [(5, 1)]))], [(0, 399), (1, 400), (0, 0), (0, 1), (0, 1), (1, 400), (0, 396), (4, 400), ((-2147483648), 2147483647)], [((-4), [(6, (-1)), (7, 1)])], [(1, 2, (1, [])), (1, 3, (0, [(6, 1)])), (1, 4, (0, [(7, 1)])), (1, 5, (0, [(8, 1)]))], (0, []), (0, []), (400, [(5, (-1))]))
def nd105_3 : bNd := (8, [some (.inr (.inl (.ref 76))), some (.inr (.inl (.ref 1))), some (.inl (1, [])), some (.inl (0, [(3, 1)])), some (.inl (0, [(4, 1)])), some (.inl (0, [(5, 1)]))], [(0, 399), (1, 400), (0, 0), (0, 1), (0, 1), (1, 400), (0, 399), (1, 400), (0, 999)], [], [(1, 2, (1, [])), (1, 3, (0, [(6, 1)])), (1, 4, (0, [(7, 1)])), (1, 5, (0, [(8, 1)]))], (0, []), (0, []), (400, [(5, (-1))]))
def nd105_4 : bNd := (8, [some (.inr (.inl (.ref 76))), some (.inr (.inl (.ref 1))), some (.inl (1, [])), some (.inl (0, [(3, 1)])), some (.inl (0, [(4, 1)])), some (.inl (0, [(5, 1)]))], [(0, 399), (1, 400), (0, 0), (0, 1), (0, 1), (1, 400), (0, 399), (1, 400), (0, 0)], [], [(1, 2, (2, [])), (1, 3, (0, [(6, 1)])), (1, 4, (0, [(7, 1)])), (1, 5, (0, [(8, 1)]))], (0, []), (0, []), (400, [(5, (-1))]))
/-- S$LawReader condition -/
def nl105 : List bNd := [nd105_0, nd105_1, nd105_2, nd105_3, nd105_4]
set_option maxRecDepth 100000 in
theorem ke105 : bke (18, smT) ctb 160 sc105 402 100000 nl105 = true := by decide +kernel
set_option maxRecDepth 100000 in
theorem kn105_0 : bkn (18, smT) ctb 160 sc105 100000 nl105 nd105_0 = true := by decide +kernel
set_option maxRecDepth 100000 in
theorem kn105_1 : bkn (18, smT) ctb 160 sc105 100000 nl105 nd105_1 = true := by decide +kernel
set_option maxRecDepth 100000 in
theorem kn105_2 : bkn (18, smT) ctb 160 sc105 100000 nl105 nd105_2 = true := by decide +kernel
set_option maxRecDepth 100000 in
theorem kn105_3 : bkn (18, smT) ctb 160 sc105 100000 nl105 nd105_3 = true := by decide +kernel
set_option maxRecDepth 100000 in
theorem kn105_4 : bkn (18, smT) ctb 160 sc105 100000 nl105 nd105_4 = true := by decide +kernel
def nd106_0 : bNd := (8, [some (.inr (.inl (.ref 76))), some (.inr (.inl (.ref 1))), some (.inl (2, [])), some (.inl (0, [(3, 1)])), some (.inl (0, [(4, 1)])), some (.inl (0, [(5, 1)]))], [(0, 400), (0, 400), (0, 0), (0, 0), (0, 0), (0, 0), (0, 400), (0, 400), (0, 0)], [], [(1, 2, (0, [])), (1, 3, (0, [(6, 1)])), (1, 4, (0, [(7, 1)])), (1, 5, (0, [(8, 1)]))], (0, []), (0, []), (0, [(5, (-1))]))
/-- S$LawReader condition -/
def nl106 : List bNd := [nd106_0]
set_option maxRecDepth 100000 in
theorem ke106 : bke (3, smT) ctb 160 sc106 2 100000 nl106 = true := by decide +kernel
set_option maxRecDepth 100000 in
theorem kn106_0 : bkn (3, smT) ctb 160 sc106 100000 nl106 nd106_0 = true := by decide +kernel
def nd107_0 : bNd := (8, [some (.inr (.inl (.ref 76))), some (.inr (.inl (.ref 1))), some (.inl (2, [])), some (.inl (0, [(3, 1)])), some (.inl (0, [(4, 1)])), some (.inl (0, [(5, 1)]))], [(0, 396), (4, 400), ((-2147483648), 2147483647), (0, 0), (0, 0), (0, 0), (0, 396), (4, 400), ((-2147483648), 2147483647)], [((-4), [(0, (-1)), (1, 1)]), ((-4), [(6, (-1)), (7, 1)])], [(1, 2, (1, [])), (1, 3, (0, [(6, 1)])), (1, 4, (0, [(7, 1)])), (1, 5, (0, [(8, 1)]))], (0, []), (0, []), (0, [(5, (-1))]))
/-- S$LawReader condition -/
def nl107 : List bNd := [nd107_0]
set_option maxRecDepth 100000 in
theorem ke107 : bke (3, smT) ctb 160 sc107 2 100000 nl107 = true := by decide +kernel
set_option maxRecDepth 100000 in
theorem kn107_0 : bkn (3, smT) ctb 160 sc107 100000 nl107 nd107_0 = true := by decide +kernel
def nd108_0 : bNd := (8, [some (.inr (.inl (.ref 76))), some (.inr (.inl (.ref 1))), some (.inl (2, [])), some (.inl (0, [(3, 1)])), some (.inl (0, [(4, 1)])), some (.inl (0, [(5, 1)]))], [(0, 399), (1, 400), (0, 999), (0, 1), (0, 1), (0, 400), (0, 399), (1, 400), (0, 999)], [], [(1, 2, (1, [])), (1, 3, (0, [(6, 1)])), (1, 4, (0, [(7, 1)])), (1, 5, (0, [(8, 1)]))], (0, []), (0, []), (400, [(5, (-1))]))
def nd108_1 : bNd := (8, [some (.inr (.inl (.ref 76))), some (.inr (.inl (.ref 1))), some (.inl (2, [])), some (.inl (0, [(3, 1)])), some (.inl (0, [(4, 1)])), some (.inl (0, [(5, 1)]))], [(0, 399), (1, 400), (0, 999), (0, 1), (0, 1), (1, 400), (0, 400), (0, 400), (0, 0)], [], [(1, 2, (0, [])), (1, 3, (0, [(6, 1)])), (1, 4, (0, [(7, 1)])), (1, 5, (0, [(8, 1)]))], (0, []), (0, []), (400, [(5, (-1))]))
def nd108_2 : bNd := (8, [some (.inr (.inl (.ref 76))), some (.inr (.inl (.ref 1))), some (.inl (2, [])), some (.inl (0, [(3, 1)])), some (.inl (0, [(4, 1)])), some (.inl (0, [(5, 1)]))], [(0, 399), (1, 400), (0, 999), (0, 1), (0, 1), (1, 400), (0, 396), (4, 400), ((-2147483648), 2147483647)], [((-4), [(6, (-1)), (7, 1)])], [(1, 2, (1, [])), (1, 3, (0, [(6, 1)])), (1, 4, (0, [(7, 1)])), (1, 5, (0, [(8, 1)]))], (0, []), (0, []), (400, [(5, (-1))]))
def nd108_3 : bNd := (8, [some (.inr (.inl (.ref 76))), some (.inr (.inl (.ref 1))), some (.inl (2, [])), some (.inl (0, [(3, 1)])), some (.inl (0, [(4, 1)])), some (.inl (0, [(5, 1)]))], [(0, 399), (1, 400), (0, 999), (0, 1), (0, 1), (1, 400), (0, 399), (1, 400), (0, 0)], [], [(1, 2, (2, [])), (1, 3, (0, [(6, 1)])), (1, 4, (0, [(7, 1)])), (1, 5, (0, [(8, 1)]))], (0, []), (0, []), (400, [(5, (-1))]))
def nd108_4 : bNd := (8, [some (.inr (.inl (.ref 76))), some (.inr (.inl (.ref 1))), some (.inl (2, [])), some (.inl (0, [(3, 1)])), some (.inl (0, [(4, 1)])), some (.inl (0, [(5, 1)]))], [(0, 399), (1, 400), (0, 999), (0, 1), (0, 1), (1, 400), (0, 399), (1, 400), (0, 0)], [], [(1, 2, (3, [])), (1, 3, (0, [(6, 1)])), (1, 4, (0, [(7, 1)])), (1, 5, (0, [(8, 1)]))], (0, []), (0, []), (400, [(5, (-1))]))
/-- S$LawReader condition -/
def nl108 : List bNd := [nd108_0, nd108_1, nd108_2, nd108_3, nd108_4]
set_option maxRecDepth 100000 in
theorem ke108 : bke (15, smT) ctb 160 sc108 402 100000 nl108 = true := by decide +kernel
set_option maxRecDepth 100000 in
theorem kn108_0 : bkn (15, smT) ctb 160 sc108 100000 nl108 nd108_0 = true := by decide +kernel
set_option maxRecDepth 100000 in
theorem kn108_1 : bkn (15, smT) ctb 160 sc108 100000 nl108 nd108_1 = true := by decide +kernel
set_option maxRecDepth 100000 in
theorem kn108_2 : bkn (15, smT) ctb 160 sc108 100000 nl108 nd108_2 = true := by decide +kernel
set_option maxRecDepth 100000 in
theorem kn108_3 : bkn (15, smT) ctb 160 sc108 100000 nl108 nd108_3 = true := by decide +kernel
set_option maxRecDepth 100000 in
theorem kn108_4 : bkn (15, smT) ctb 160 sc108 100000 nl108 nd108_4 = true := by decide +kernel
