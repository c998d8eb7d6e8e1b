def nd372_0 : bNd := (21, [some (.inr (.inl (.ref 84))), some (.inl (0, [])), some (.inl (0, [(0, 1)])), none, none], [(0, 399), (0, 401)], [], [(84, 11, (0, [(1, 1)]))], (0, []), (0, []), (4399, [(0, (-1))]))
def nd372_1 : bNd := (21, [some (.inr (.inl (.ref 84))), some (.inl (1, [])), some (.inl (0, [(0, 1)])), none, none], [(0, 399), (0, 133)], [], [(84, 11, (0, [(1, 3)]))], (0, []), (0, []), (4399, [(0, (-1))]))
def nd372_2 : bNd := (104, [some (.inr (.inl (.ref 84))), some (.inl (1, [])), some (.inl (0, [(0, 1)])), some (.inl (0, [(1, 3)])), none], [(0, 255), (0, 133), (0, 133)], [], [(84, 11, (0, [(2, 3)]))], (0, []), (0, []), (3999, [(1, (-30))]))
def nd372_3 : bNd := (115, [some (.inr (.inl (.ref 84))), some (.inl (1, [])), some (.inl (0, [(0, 1)])), some (.inl (0, [(1, 3)])), some (.inl (0, [(2, 1)]))], [(0, 255), (0, 132), (0, 8), (1, 133)], [], [(84, 11, (0, [(3, 3)]))], (0, []), (0, []), (3998, [(1, (-30)), (2, (-1))]))
/-- SModel noon -/
def nl372 : List bNd := [nd372_0, nd372_1, nd372_2, nd372_3]
set_option maxRecDepth 100000 in
theorem ke372 : bke (3, smT) ctb 330 sc372 4401 100000 nl372 = true := by decide +kernel
set_option maxRecDepth 100000 in
theorem kn372_0 : bkn (3, smT) ctb 330 sc372 100000 nl372 nd372_0 = true := by decide +kernel
set_option maxRecDepth 100000 in
theorem kn372_1 : bkn (3, smT) ctb 330 sc372 100000 nl372 nd372_1 = true := by decide +kernel
set_option maxRecDepth 100000 in
theorem kn372_2 : bkn (3, smT) ctb 330 sc372 100000 nl372 nd372_2 = true := by decide +kernel
set_option maxRecDepth 100000 in
theorem kn372_3 : bkn (3, smT) ctb 330 sc372 100000 nl372 nd372_3 = true := by decide +kernel
def nd373_0 : bNd := (16, [some (.inr (.inl (.ref 84))), some (.inl (0, [(0, 1)])), some (.inl (0, [(1, 1)])), some (.inl (0, [(2, 1)])), none, none], [((-2147483648), 2147483647), (0, 255), (0, 12)], [], [], (0, []), (0, []), (1065, [(2, (-82))]))
def nd373_1 : bNd := (30, [some (.inr (.inl (.ref 84))), some (.inl (0, [(0, 1)])), some (.inl (0, [(1, 1)])), some (.inl (0, [(2, 1)])), some (.inl (0, [(3, 1)])), some (.inl (0, [(4, 1)]))], [((-2147483648), 2147483647), (0, 255), (0, 11), ((-2147483648), 2147483647), (0, 80)], [], [], (0, []), (0, []), (1064, [(2, (-82)), (4, (-1))]))
/-- SModel heels -/
def nl373 : List bNd := [nd373_0, nd373_1]
set_option maxRecDepth 100000 in
theorem ke373 : bke (1, smT) ctb 331 sc373 1067 100000 nl373 = true := by decide +kernel
set_option maxRecDepth 100000 in
theorem kn373_0 : bkn (1, smT) ctb 331 sc373 100000 nl373 nd373_0 = true := by decide +kernel
set_option maxRecDepth 100000 in
theorem kn373_1 : bkn (1, smT) ctb 331 sc373 100000 nl373 nd373_1 = true := by decide +kernel
/-- SModel log -/
def nl374 : List bNd := []
set_option maxRecDepth 100000 in
theorem ke374 : bke (1, smT) ctb 332 sc374 0 100000 nl374 = true := by decide +kernel
def nd375_0 : bNd := (45, [some (.inr (.inl (.ref 84))), some (.inl (0, [(0, 1)])), some (.inl (0, [(1, 1)])), some (.inl (0, [(2, 1)])), some (.inl (0, [(3, 1)])), some (.inl (0, [(4, 1)]))], [(0, 11), (0, 2147483647), ((-2147483648), 2147483647), (0, 80), (0, 2147483647), (0, 80)], [(0, [(3, (-1)), (5, 1)])], [(85, 11, (0, [(5, 1)]))], (0, []), (0, []), (176093659135, [(4, (-82))]))
def nd375_1 : bNd := (51, [some (.inr (.inl (.ref 84))), some (.inl (0, [(0, 1)])), some (.inl (0, [(1, 1)])), some (.inl (0, [(2, 1)])), some (.inl (0, [(3, 1)])), some (.inl (0, [(4, 1)]))], [(0, 11), (1, 2147483647), ((-2147483648), 2147483647), (0, 80), (0, 2147483646), (0, 80)], [(0, [(3, (-1)), (5, 1)])], [(85, 11, (0, [(5, 1)]))], (0, []), (0, []), (176093659134, [(3, (-1)), (4, (-82))]))
/-- SModel led -/
def nl375 : List bNd := [nd375_0, nd375_1]
set_option maxRecDepth 100000 in
theorem ke375 : bke (2, smT) ctb 333 sc375 176093659137 100000 nl375 = true := by decide +kernel
set_option maxRecDepth 100000 in
theorem kn375_0 : bkn (2, smT) ctb 333 sc375 100000 nl375 nd375_0 = true := by decide +kernel
set_option maxRecDepth 100000 in
theorem kn375_1 : bkn (2, smT) ctb 333 sc375 100000 nl375 nd375_1 = true := by decide +kernel
/-- SModel seed -/
def nl376 : List bNd := []
set_option maxRecDepth 100000 in
theorem ke376 : bke (0, smT) ctb 334 sc376 0 100000 nl376 = true := by decide +kernel
def nd377_0 : bNd := (93, [some (.inr (.inl (.ref 84))), some (.inl (0, [(0, 1)])), some (.inl (0, [(1, 1)])), some (.inl (0, [(2, 1)]))], [(6, 6), ((-2147483648), 2147483647), (0, 12)], [], [], (0, []), (0, []), (12, [(2, (-1))]))
/-- SModel count -/
def nl377 : List bNd := [nd377_0]
set_option maxRecDepth 100000 in
theorem ke377 : bke (3, smT) ctb 335 sc377 14 100000 nl377 = true := by decide +kernel
set_option maxRecDepth 100000 in
theorem kn377_0 : bkn (3, smT) ctb 335 sc377 100000 nl377 nd377_0 = true := by decide +kernel
