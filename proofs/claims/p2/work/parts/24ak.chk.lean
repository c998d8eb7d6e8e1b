def nd115_0 : bNd := (8, [some (.inr (.inl (.ref 76))), some (.inr (.inl (.ref 1))), some (.inl (3, [])), some (.inl (0, [(3, 1)])), some (.inl (0, [(4, 1)])), some (.inl (0, [(5, 1)]))], [(0, 399), (1, 400), (0, 0), (0, 1), (0, 1), (0, 400), (0, 399), (1, 400), (0, 0)], [], [(1, 2, (3, [])), (1, 3, (0, [(6, 1)])), (1, 4, (0, [(7, 1)])), (1, 5, (0, [(8, 1)]))], (0, []), (0, []), (400, [(5, (-1))]))
def nd115_1 : bNd := (8, [some (.inr (.inl (.ref 76))), some (.inr (.inl (.ref 1))), some (.inl (3, [])), some (.inl (0, [(3, 1)])), some (.inl (0, [(4, 1)])), some (.inl (0, [(5, 1)]))], [(0, 399), (1, 400), (0, 0), (0, 1), (0, 1), (1, 400), (0, 400), (0, 400), (0, 0)], [], [(1, 2, (0, [])), (1, 3, (0, [(6, 1)])), (1, 4, (0, [(7, 1)])), (1, 5, (0, [(8, 1)]))], (0, []), (0, []), (400, [(5, (-1))]))
def nd115_2 : bNd := (8, [some (.inr (.inl (.ref 76))), some (.inr (.inl (.ref 1))), some (.inl (3, [])), some (.inl (0, [(3, 1)])), some (.inl (0, [(4, 1)])), some (.inl (0, [(5, 1)]))], [(0, 399), (1, 400), (0, 0), (0, 1), (0, 1), (1, 400), (0, 396), (4, 400), ((-2147483648), 2147483647)], [((-4), [(6, (-1)), (7, 1)])], [(1, 2, (1, [])), (1, 3, (0, [(6, 1)])), (1, 4, (0, [(7, 1)])), (1, 5, (0, [(8, 1)]))], (0, []), (0, []), (400, [(5, (-1))]))
def nd115_3 : bNd := (8, [some (.inr (.inl (.ref 76))), some (.inr (.inl (.ref 1))), some (.inl (3, [])), some (.inl (0, [(3, 1)])), some (.inl (0, [(4, 1)])), some (.inl (0, [(5, 1)]))], [(0, 399), (1, 400), (0, 0), (0, 1), (0, 1), (1, 400), (0, 399), (1, 400), (0, 999)], [], [(1, 2, (1, [])), (1, 3, (0, [(6, 1)])), (1, 4, (0, [(7, 1)])), (1, 5, (0, [(8, 1)]))], (0, []), (0, []), (400, [(5, (-1))]))
def nd115_4 : bNd := (8, [some (.inr (.inl (.ref 76))), some (.inr (.inl (.ref 1))), some (.inl (3, [])), some (.inl (0, [(3, 1)])), some (.inl (0, [(4, 1)])), some (.inl (0, [(5, 1)]))], [(0, 399), (1, 400), (0, 0), (0, 1), (0, 1), (1, 400), (0, 399), (1, 400), (0, 0)], [], [(1, 2, (2, [])), (1, 3, (0, [(6, 1)])), (1, 4, (0, [(7, 1)])), (1, 5, (0, [(8, 1)]))], (0, []), (0, []), (400, [(5, (-1))]))
/-- S$LawReader condition -/
def nl115 : List bNd := [nd115_0, nd115_1, nd115_2, nd115_3, nd115_4]
set_option maxRecDepth 100000 in
theorem ke115 : bke (12, smT) ctb 160 sc115 402 100000 nl115 = true := by decide +kernel
set_option maxRecDepth 100000 in
theorem kn115_0 : bkn (12, smT) ctb 160 sc115 100000 nl115 nd115_0 = true := by decide +kernel
set_option maxRecDepth 100000 in
theorem kn115_1 : bkn (12, smT) ctb 160 sc115 100000 nl115 nd115_1 = true := by decide +kernel
set_option maxRecDepth 100000 in
theorem kn115_2 : bkn (12, smT) ctb 160 sc115 100000 nl115 nd115_2 = true := by decide +kernel
set_option maxRecDepth 100000 in
theorem kn115_3 : bkn (12, smT) ctb 160 sc115 100000 nl115 nd115_3 = true := by decide +kernel
set_option maxRecDepth 100000 in
theorem kn115_4 : bkn (12, smT) ctb 160 sc115 100000 nl115 nd115_4 = true := by decide +kernel
def nd116_0 : bNd := (8, [some (.inr (.inl (.ref 76))), some (.inr (.inl (.ref 1))), some (.inl (4, [])), some (.inl (0, [(3, 1)])), some (.inl (0, [(4, 1)])), some (.inl (0, [(5, 1)]))], [(0, 400), (0, 400), (0, 0), (0, 0), (0, 0), (0, 0), (0, 400), (0, 400), (0, 0)], [], [(1, 2, (0, [])), (1, 3, (0, [(6, 1)])), (1, 4, (0, [(7, 1)])), (1, 5, (0, [(8, 1)]))], (0, []), (0, []), (0, [(5, (-1))]))
/-- S$LawReader condition -/
def nl116 : List bNd := [nd116_0]
set_option maxRecDepth 100000 in
theorem ke116 : bke (3, smT) ctb 160 sc116 2 100000 nl116 = true := by decide +kernel
set_option maxRecDepth 100000 in
theorem kn116_0 : bkn (3, smT) ctb 160 sc116 100000 nl116 nd116_0 = true := by decide +kernel
def nd117_0 : bNd := (8, [some (.inr (.inl (.ref 76))), some (.inr (.inl (.ref 1))), some (.inl (4, [])), some (.inl (0, [(3, 1)])), some (.inl (0, [(4, 1)])), some (.inl (0, [(5, 1)]))], [(0, 396), (4, 400), ((-2147483648), 2147483647), (0, 0), (0, 0), (0, 0), (0, 396), (4, 400), ((-2147483648), 2147483647)], [((-4), [(0, (-1)), (1, 1)]), ((-4), [(6, (-1)), (7, 1)])], [(1, 2, (1, [])), (1, 3, (0, [(6, 1)])), (1, 4, (0, [(7, 1)])), (1, 5, (0, [(8, 1)]))], (0, []), (0, []), (0, [(5, (-1))]))
/-- S$LawReader condition -/
def nl117 : List bNd := [nd117_0]
set_option maxRecDepth 100000 in
theorem ke117 : bke (3, smT) ctb 160 sc117 2 100000 nl117 = true := by decide +kernel
set_option maxRecDepth 100000 in
theorem kn117_0 : bkn (3, smT) ctb 160 sc117 100000 nl117 nd117_0 = true := by decide +kernel
def nd118_0 : bNd := (8, [some (.inr (.inl (.ref 76))), some (.inr (.inl (.ref 1))), some (.inl (4, [])), some (.inl (0, [(3, 1)])), some (.inl (0, [(4, 1)])), some (.inl (0, [(5, 1)]))], [(0, 399), (1, 400), (0, 999), (0, 1), (0, 1), (0, 400), (0, 399), (1, 400), (0, 999)], [], [(1, 2, (1, [])), (1, 3, (0, [(6, 1)])), (1, 4, (0, [(7, 1)])), (1, 5, (0, [(8, 1)]))], (0, []), (0, []), (400, [(5, (-1))]))
def nd118_1 : bNd := (8, [some (.inr (.inl (.ref 76))), some (.inr (.inl (.ref 1))), some (.inl (4, [])), some (.inl (0, [(3, 1)])), some (.inl (0, [(4, 1)])), some (.inl (0, [(5, 1)]))], [(0, 399), (1, 400), (0, 999), (0, 1), (0, 1), (1, 400), (0, 400), (0, 400), (0, 0)], [], [(1, 2, (0, [])), (1, 3, (0, [(6, 1)])), (1, 4, (0, [(7, 1)])), (1, 5, (0, [(8, 1)]))], (0, []), (0, []), (400, [(5, (-1))]))
def nd118_2 : bNd := (8, [some (.inr (.inl (.ref 76))), some (.inr (.inl (.ref 1))), some (.inl (4, [])), some (.inl (0, [(3, 1)])), some (.inl (0, [(4, 1)])), some (.inl (0, [(5, 1)]))], [(0, 399), (1, 400), (0, 999), (0, 1), (0, 1), (1, 400), (0, 396), (4, 400), ((-2147483648), 2147483647)], [((-4), [(6, (-1)), (7, 1)])], [(1, 2, (1, [])), (1, 3, (0, [(6, 1)])), (1, 4, (0, [(7, 1)])), (1, 5, (0, [(8, 1)]))], (0, []), (0, []), (400, [(5, (-1))]))
def nd118_3 : bNd := (8, [some (.inr (.inl (.ref 76))), some (.inr (.inl (.ref 1))), some (.inl (4, [])), some (.inl (0, [(3, 1)])), some (.inl (0, [(4, 1)])), some (.inl (0, [(5, 1)]))], [(0, 399), (1, 400), (0, 999), (0, 1), (0, 1), (1, 400), (0, 399), (1, 400), (0, 0)], [], [(1, 2, (2, [])), (1, 3, (0, [(6, 1)])), (1, 4, (0, [(7, 1)])), (1, 5, (0, [(8, 1)]))], (0, []), (0, []), (400, [(5, (-1))]))
def nd118_4 : bNd := (8, [some (.inr (.inl (.ref 76))), some (.inr (.inl (.ref 1))), some (.inl (4, [])), some (.inl (0, [(3, 1)])), some (.inl (0, [(4, 1)])), some (.inl (0, [(5, 1)]))], [(0, 399), (1, 400), (0, 999), (0, 1), (0, 1), (1, 400), (0, 399), (1, 400), (0, 0)], [], [(1, 2, (3, [])), (1, 3, (0, [(6, 1)])), (1, 4, (0, [(7, 1)])), (1, 5, (0, [(8, 1)]))], (0, []), (0, []), (400, [(5, (-1))]))
/-- S$LawReader condition -/
def nl118 : List bNd := [nd118_0, nd118_1, nd118_2, nd118_3, nd118_4]
set_option maxRecDepth 100000 in
theorem ke118 : bke (9, smT) ctb 160 sc118 402 100000 nl118 = true := by decide +kernel
set_option maxRecDepth 100000 in
theorem kn118_0 : bkn (9, smT) ctb 160 sc118 100000 nl118 nd118_0 = true := by decide +kernel
set_option maxRecDepth 100000 in
theorem kn118_1 : bkn (9, smT) ctb 160 sc118 100000 nl118 nd118_1 = true := by decide +kernel
set_option maxRecDepth 100000 in
theorem kn118_2 : bkn (9, smT) ctb 160 sc118 100000 nl118 nd118_2 = true := by decide +kernel
set_option maxRecDepth 100000 in
theorem kn118_3 : bkn (9, smT) ctb 160 sc118 100000 nl118 nd118_3 = true := by decide +kernel
set_option maxRecDepth 100000 in
theorem kn118_4 : bkn (9, smT) ctb 160 sc118 100000 nl118 nd118_4 = true := by decide +kernel
