set_option maxRecDepth 100000 in
theorem ke66 : bke (2, smT) ctb 112 sc66 82 1000000 nl66 = true := by decide +kernel
set_option maxRecDepth 100000 in
theorem kn66_0 : bkn (2, smT) ctb 112 sc66 1000000 nl66 nd66_0 = true := by decide +kernel
set_option maxRecDepth 100000 in
theorem ke67 : bke (1, smT) ctb 114 sc67 7 1000000 nl67 = true := by decide +kernel
set_option maxRecDepth 100000 in
theorem kn67_0 : bkn (1, smT) ctb 114 sc67 1000000 nl67 nd67_0 = true := by decide +kernel
set_option maxRecDepth 100000 in
theorem ke68 : bke (1, smT) ctb 114 sc68 7 1000000 nl68 = true := by decide +kernel
set_option maxRecDepth 100000 in
theorem kn68_0 : bkn (1, smT) ctb 114 sc68 1000000 nl68 nd68_0 = true := by decide +kernel
set_option maxRecDepth 100000 in
theorem ke69 : bke (3, smT) ctb 117 sc69 23 1000000 nl69 = true := by decide +kernel
set_option maxRecDepth 100000 in
theorem kn69_0 : bkn (3, smT) ctb 117 sc69 1000000 nl69 nd69_0 = true := by decide +kernel
set_option maxRecDepth 100000 in
theorem kn69_1 : bkn (3, smT) ctb 117 sc69 1000000 nl69 nd69_1 = true := by decide +kernel
set_option maxRecDepth 100000 in
theorem ke70 : bke (3, smT) ctb 117 sc70 23 1000000 nl70 = true := by decide +kernel
set_option maxRecDepth 100000 in
theorem kn70_0 : bkn (3, smT) ctb 117 sc70 1000000 nl70 nd70_0 = true := by decide +kernel
set_option maxRecDepth 100000 in
theorem kn70_1 : bkn (3, smT) ctb 117 sc70 1000000 nl70 nd70_1 = true := by decide +kernel
set_option maxRecDepth 100000 in
theorem ke71 : bke (4, smT) ctb 120 sc71 14 1000000 nl71 = true := by decide +kernel
set_option maxRecDepth 100000 in
theorem kn71_0 : bkn (4, smT) ctb 120 sc71 1000000 nl71 nd71_0 = true := by decide +kernel
set_option maxRecDepth 100000 in
theorem ke72 : bke (1, smT) ctb 121 sc72 14 1000000 nl72 = true := by decide +kernel
set_option maxRecDepth 100000 in
theorem kn72_0 : bkn (1, smT) ctb 121 sc72 1000000 nl72 nd72_0 = true := by decide +kernel
set_option maxRecDepth 100000 in
theorem ke73 : bke (1, smT) ctb 122 sc73 14 1000000 nl73 = true := by decide +kernel
set_option maxRecDepth 100000 in
theorem kn73_0 : bkn (1, smT) ctb 122 sc73 1000000 nl73 nd73_0 = true := by decide +kernel
set_option maxRecDepth 100000 in
theorem ke74 : bke (1, smT) ctb 122 sc74 14 1000000 nl74 = true := by decide +kernel
set_option maxRecDepth 100000 in
theorem kn74_0 : bkn (1, smT) ctb 122 sc74 1000000 nl74 nd74_0 = true := by decide +kernel
set_option maxRecDepth 100000 in
theorem ke75 : bke (0, smT) ctb 123 sc75 127 1000000 nl75 = true := by decide +kernel
set_option maxRecDepth 100000 in
theorem kn75_0 : bkn (0, smT) ctb 123 sc75 1000000 nl75 nd75_0 = true := by decide +kernel
set_option maxRecDepth 100000 in
theorem kn75_1 : bkn (0, smT) ctb 123 sc75 1000000 nl75 nd75_1 = true := by decide +kernel
set_option maxRecDepth 100000 in
theorem ke76 : bke (1, smT) ctb 124 sc76 14 1000000 nl76 = true := by decide +kernel
set_option maxRecDepth 100000 in
theorem kn76_0 : bkn (1, smT) ctb 124 sc76 1000000 nl76 nd76_0 = true := by decide +kernel
set_option maxRecDepth 100000 in
theorem ke77 : bke (2, smT) ctb 126 sc77 10 1000000 nl77 = true := by decide +kernel
set_option maxRecDepth 100000 in
theorem kn77_0 : bkn (2, smT) ctb 126 sc77 1000000 nl77 nd77_0 = true := by decide +kernel
set_option maxRecDepth 100000 in
theorem ke78 : bke (2, smT) ctb 127 sc78 147 1000000 nl78 = true := by decide +kernel
set_option maxRecDepth 100000 in
theorem kn78_0 : bkn (2, smT) ctb 127 sc78 1000000 nl78 nd78_0 = true := by decide +kernel
set_option maxRecDepth 100000 in
theorem ke79 : bke (5, smT) ctb 129 sc79 16 1000000 nl79 = true := by decide +kernel
set_option maxRecDepth 100000 in
theorem kn79_0 : bkn (5, smT) ctb 129 sc79 1000000 nl79 nd79_0 = true := by decide +kernel
set_option maxRecDepth 100000 in
theorem kn79_1 : bkn (5, smT) ctb 129 sc79 1000000 nl79 nd79_1 = true := by decide +kernel
set_option maxRecDepth 100000 in
theorem kn79_2 : bkn (5, smT) ctb 129 sc79 1000000 nl79 nd79_2 = true := by decide +kernel
set_option maxRecDepth 100000 in
theorem kn79_3 : bkn (5, smT) ctb 129 sc79 1000000 nl79 nd79_3 = true := by decide +kernel
set_option maxRecDepth 100000 in
theorem kn79_4 : bkn (5, smT) ctb 129 sc79 1000000 nl79 nd79_4 = true := by decide +kernel
set_option maxRecDepth 100000 in
theorem ke80 : bke (1, smT) ctb 131 sc80 0 1000000 nl80 = true := by decide +kernel
set_option maxRecDepth 100000 in
theorem ke81 : bke (1, smT) ctb 131 sc81 0 1000000 nl81 = true := by decide +kernel
