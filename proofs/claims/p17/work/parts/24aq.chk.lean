set_option maxRecDepth 100000 in
theorem ke166 : bke (1, smT) ctb 164 sc166 402 1000000 nl166 = true := by decide +kernel
set_option maxRecDepth 100000 in
theorem kn166_0 : bkn (1, smT) ctb 164 sc166 1000000 nl166 nd166_0 = true := by decide +kernel
set_option maxRecDepth 100000 in
theorem kn166_1 : bkn (1, smT) ctb 164 sc166 1000000 nl166 nd166_1 = true := by decide +kernel
set_option maxRecDepth 100000 in
theorem kn166_2 : bkn (1, smT) ctb 164 sc166 1000000 nl166 nd166_2 = true := by decide +kernel
set_option maxRecDepth 100000 in
theorem kn166_3 : bkn (1, smT) ctb 164 sc166 1000000 nl166 nd166_3 = true := by decide +kernel
set_option maxRecDepth 100000 in
theorem kn166_4 : bkn (1, smT) ctb 164 sc166 1000000 nl166 nd166_4 = true := by decide +kernel
set_option maxRecDepth 100000 in
theorem kn166_5 : bkn (1, smT) ctb 164 sc166 1000000 nl166 nd166_5 = true := by decide +kernel
set_option maxRecDepth 100000 in
theorem kn166_6 : bkn (1, smT) ctb 164 sc166 1000000 nl166 nd166_6 = true := by decide +kernel
set_option maxRecDepth 100000 in
theorem kn166_7 : bkn (1, smT) ctb 164 sc166 1000000 nl166 nd166_7 = true := by decide +kernel
set_option maxRecDepth 100000 in
theorem kn166_8 : bkn (1, smT) ctb 164 sc166 1000000 nl166 nd166_8 = true := by decide +kernel
set_option maxRecDepth 100000 in
theorem kn166_9 : bkn (1, smT) ctb 164 sc166 1000000 nl166 nd166_9 = true := by decide +kernel
set_option maxRecDepth 100000 in
theorem kn166_10 : bkn (1, smT) ctb 164 sc166 1000000 nl166 nd166_10 = true := by decide +kernel
set_option maxRecDepth 100000 in
theorem kn166_11 : bkn (1, smT) ctb 164 sc166 1000000 nl166 nd166_11 = true := by decide +kernel
set_option maxRecDepth 100000 in
theorem kn166_12 : bkn (1, smT) ctb 164 sc166 1000000 nl166 nd166_12 = true := by decide +kernel
set_option maxRecDepth 100000 in
theorem kn166_13 : bkn (1, smT) ctb 164 sc166 1000000 nl166 nd166_13 = true := by decide +kernel
set_option maxRecDepth 100000 in
theorem kn166_14 : bkn (1, smT) ctb 164 sc166 1000000 nl166 nd166_14 = true := by decide +kernel
