set_option maxRecDepth 100000 in
theorem ke83 : bke (1, smT) ctb 131 sc83 0 1000000 nl83 = true := by decide +kernel
set_option maxRecDepth 100000 in
theorem ke84 : bke (1, smT) ctb 131 sc84 0 1000000 nl84 = true := by decide +kernel
set_option maxRecDepth 100000 in
theorem ke85 : bke (3, smT) ctb 137 sc85 14 1000000 nl85 = true := by decide +kernel
set_option maxRecDepth 100000 in
theorem kn85_0 : bkn (3, smT) ctb 137 sc85 1000000 nl85 nd85_0 = true := by decide +kernel
set_option maxRecDepth 100000 in
theorem kn85_1 : bkn (3, smT) ctb 137 sc85 1000000 nl85 nd85_1 = true := by decide +kernel
set_option maxRecDepth 100000 in
theorem kn85_2 : bkn (3, smT) ctb 137 sc85 1000000 nl85 nd85_2 = true := by decide +kernel
set_option maxRecDepth 100000 in
theorem kn85_3 : bkn (3, smT) ctb 137 sc85 1000000 nl85 nd85_3 = true := by decide +kernel
set_option maxRecDepth 100000 in
theorem kn85_4 : bkn (3, smT) ctb 137 sc85 1000000 nl85 nd85_4 = true := by decide +kernel
set_option maxRecDepth 100000 in
theorem ke86 : bke (1, smT) ctb 153 sc86 14 1000000 nl86 = true := by decide +kernel
set_option maxRecDepth 100000 in
theorem kn86_0 : bkn (1, smT) ctb 153 sc86 1000000 nl86 nd86_0 = true := by decide +kernel
set_option maxRecDepth 100000 in
theorem ke87 : bke (0, smT) ctb 155 sc87 402 1000000 nl87 = true := by decide +kernel
set_option maxRecDepth 100000 in
theorem kn87_0 : bkn (0, smT) ctb 155 sc87 1000000 nl87 nd87_0 = true := by decide +kernel
set_option maxRecDepth 100000 in
theorem ke88 : bke (23, smT) ctb 157 sc88 14 1000000 nl88 = true := by decide +kernel
set_option maxRecDepth 100000 in
theorem kn88_0 : bkn (23, smT) ctb 157 sc88 1000000 nl88 nd88_0 = true := by decide +kernel
set_option maxRecDepth 100000 in
theorem kn88_1 : bkn (23, smT) ctb 157 sc88 1000000 nl88 nd88_1 = true := by decide +kernel
set_option maxRecDepth 100000 in
theorem kn88_2 : bkn (23, smT) ctb 157 sc88 1000000 nl88 nd88_2 = true := by decide +kernel
set_option maxRecDepth 100000 in
theorem kn88_3 : bkn (23, smT) ctb 157 sc88 1000000 nl88 nd88_3 = true := by decide +kernel
set_option maxRecDepth 100000 in
theorem kn88_4 : bkn (23, smT) ctb 157 sc88 1000000 nl88 nd88_4 = true := by decide +kernel
set_option maxRecDepth 100000 in
theorem ke89 : bke (1, smT) ctb 159 sc89 0 1000000 nl89 = true := by decide +kernel
set_option maxRecDepth 100000 in
theorem ke90 : bke (1, smT) ctb 159 sc90 0 1000000 nl90 = true := by decide +kernel
set_option maxRecDepth 100000 in
theorem ke91 : bke (22, smT) ctb 159 sc91 0 1000000 nl91 = true := by decide +kernel
set_option maxRecDepth 100000 in
theorem ke92 : bke (1, smT) ctb 159 sc92 0 1000000 nl92 = true := by decide +kernel
set_option maxRecDepth 100000 in
theorem ke93 : bke (1, smT) ctb 159 sc93 0 1000000 nl93 = true := by decide +kernel
set_option maxRecDepth 100000 in
theorem ke94 : bke (3, smT) ctb 160 sc94 2 1000000 nl94 = true := by decide +kernel
set_option maxRecDepth 100000 in
theorem kn94_0 : bkn (3, smT) ctb 160 sc94 1000000 nl94 nd94_0 = true := by decide +kernel
set_option maxRecDepth 100000 in
theorem ke95 : bke (3, smT) ctb 160 sc95 2 1000000 nl95 = true := by decide +kernel
set_option maxRecDepth 100000 in
theorem kn95_0 : bkn (3, smT) ctb 160 sc95 1000000 nl95 nd95_0 = true := by decide +kernel
set_option maxRecDepth 100000 in
theorem ke96 : bke (21, smT) ctb 160 sc96 402 1000000 nl96 = true := by decide +kernel
set_option maxRecDepth 100000 in
theorem kn96_0 : bkn (21, smT) ctb 160 sc96 1000000 nl96 nd96_0 = true := by decide +kernel
set_option maxRecDepth 100000 in
theorem kn96_1 : bkn (21, smT) ctb 160 sc96 1000000 nl96 nd96_1 = true := by decide +kernel
set_option maxRecDepth 100000 in
theorem kn96_2 : bkn (21, smT) ctb 160 sc96 1000000 nl96 nd96_2 = true := by decide +kernel
set_option maxRecDepth 100000 in
theorem kn96_3 : bkn (21, smT) ctb 160 sc96 1000000 nl96 nd96_3 = true := by decide +kernel
set_option maxRecDepth 100000 in
theorem kn96_4 : bkn (21, smT) ctb 160 sc96 1000000 nl96 nd96_4 = true := by decide +kernel
