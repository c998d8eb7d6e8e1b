set_option maxRecDepth 100000 in
theorem ke127 : bke (3, smT) ctb 160 sc127 402 1000000 nl127 = true := by decide +kernel
set_option maxRecDepth 100000 in
theorem kn127_0 : bkn (3, smT) ctb 160 sc127 1000000 nl127 nd127_0 = true := by decide +kernel
set_option maxRecDepth 100000 in
theorem kn127_1 : bkn (3, smT) ctb 160 sc127 1000000 nl127 nd127_1 = true := by decide +kernel
set_option maxRecDepth 100000 in
theorem kn127_2 : bkn (3, smT) ctb 160 sc127 1000000 nl127 nd127_2 = true := by decide +kernel
set_option maxRecDepth 100000 in
theorem kn127_3 : bkn (3, smT) ctb 160 sc127 1000000 nl127 nd127_3 = true := by decide +kernel
set_option maxRecDepth 100000 in
theorem kn127_4 : bkn (3, smT) ctb 160 sc127 1000000 nl127 nd127_4 = true := by decide +kernel
set_option maxRecDepth 100000 in
theorem ke128 : bke (3, smT) ctb 160 sc128 2 1000000 nl128 = true := by decide +kernel
set_option maxRecDepth 100000 in
theorem kn128_0 : bkn (3, smT) ctb 160 sc128 1000000 nl128 nd128_0 = true := by decide +kernel
set_option maxRecDepth 100000 in
theorem ke129 : bke (2, smT) ctb 161 sc129 0 1000000 nl129 = true := by decide +kernel
set_option maxRecDepth 100000 in
theorem ke130 : bke (2, smT) ctb 161 sc130 0 1000000 nl130 = true := by decide +kernel
set_option maxRecDepth 100000 in
theorem ke131 : bke (2, smT) ctb 161 sc131 0 1000000 nl131 = true := by decide +kernel
set_option maxRecDepth 100000 in
theorem ke132 : bke (19, smT) ctb 161 sc132 0 1000000 nl132 = true := by decide +kernel
set_option maxRecDepth 100000 in
theorem ke133 : bke (20, smT) ctb 161 sc133 0 1000000 nl133 = true := by decide +kernel
set_option maxRecDepth 100000 in
theorem ke134 : bke (2, smT) ctb 161 sc134 0 1000000 nl134 = true := by decide +kernel
set_option maxRecDepth 100000 in
theorem ke135 : bke (2, smT) ctb 161 sc135 0 1000000 nl135 = true := by decide +kernel
set_option maxRecDepth 100000 in
theorem ke136 : bke (2, smT) ctb 161 sc136 0 1000000 nl136 = true := by decide +kernel
set_option maxRecDepth 100000 in
theorem ke137 : bke (16, smT) ctb 161 sc137 0 1000000 nl137 = true := by decide +kernel
set_option maxRecDepth 100000 in
theorem ke138 : bke (17, smT) ctb 161 sc138 0 1000000 nl138 = true := by decide +kernel
set_option maxRecDepth 100000 in
theorem ke139 : bke (2, smT) ctb 161 sc139 0 1000000 nl139 = true := by decide +kernel
set_option maxRecDepth 100000 in
theorem ke140 : bke (2, smT) ctb 161 sc140 0 1000000 nl140 = true := by decide +kernel
set_option maxRecDepth 100000 in
theorem ke141 : bke (2, smT) ctb 161 sc141 0 1000000 nl141 = true := by decide +kernel
set_option maxRecDepth 100000 in
theorem ke142 : bke (13, smT) ctb 161 sc142 0 1000000 nl142 = true := by decide +kernel
set_option maxRecDepth 100000 in
theorem ke143 : bke (14, smT) ctb 161 sc143 0 1000000 nl143 = true := by decide +kernel
set_option maxRecDepth 100000 in
theorem ke144 : bke (2, smT) ctb 161 sc144 0 1000000 nl144 = true := by decide +kernel
set_option maxRecDepth 100000 in
theorem ke145 : bke (2, smT) ctb 161 sc145 0 1000000 nl145 = true := by decide +kernel
set_option maxRecDepth 100000 in
theorem ke146 : bke (2, smT) ctb 161 sc146 0 1000000 nl146 = true := by decide +kernel
set_option maxRecDepth 100000 in
theorem ke147 : bke (10, smT) ctb 161 sc147 0 1000000 nl147 = true := by decide +kernel
