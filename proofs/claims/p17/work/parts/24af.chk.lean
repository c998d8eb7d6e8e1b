set_option maxRecDepth 100000 in
theorem ke97 : bke (21, smT) ctb 160 sc97 402 1000000 nl97 = true := by decide +kernel
set_option maxRecDepth 100000 in
theorem kn97_0 : bkn (21, smT) ctb 160 sc97 1000000 nl97 nd97_0 = true := by decide +kernel
set_option maxRecDepth 100000 in
theorem kn97_1 : bkn (21, smT) ctb 160 sc97 1000000 nl97 nd97_1 = true := by decide +kernel
set_option maxRecDepth 100000 in
theorem kn97_2 : bkn (21, smT) ctb 160 sc97 1000000 nl97 nd97_2 = true := by decide +kernel
set_option maxRecDepth 100000 in
theorem kn97_3 : bkn (21, smT) ctb 160 sc97 1000000 nl97 nd97_3 = true := by decide +kernel
set_option maxRecDepth 100000 in
theorem kn97_4 : bkn (21, smT) ctb 160 sc97 1000000 nl97 nd97_4 = true := by decide +kernel
set_option maxRecDepth 100000 in
theorem ke98 : bke (21, smT) ctb 160 sc98 402 1000000 nl98 = true := by decide +kernel
set_option maxRecDepth 100000 in
theorem kn98_0 : bkn (21, smT) ctb 160 sc98 1000000 nl98 nd98_0 = true := by decide +kernel
set_option maxRecDepth 100000 in
theorem kn98_1 : bkn (21, smT) ctb 160 sc98 1000000 nl98 nd98_1 = true := by decide +kernel
set_option maxRecDepth 100000 in
theorem kn98_2 : bkn (21, smT) ctb 160 sc98 1000000 nl98 nd98_2 = true := by decide +kernel
set_option maxRecDepth 100000 in
theorem kn98_3 : bkn (21, smT) ctb 160 sc98 1000000 nl98 nd98_3 = true := by decide +kernel
set_option maxRecDepth 100000 in
theorem kn98_4 : bkn (21, smT) ctb 160 sc98 1000000 nl98 nd98_4 = true := by decide +kernel
set_option maxRecDepth 100000 in
theorem ke99 : bke (3, smT) ctb 160 sc99 2 1000000 nl99 = true := by decide +kernel
set_option maxRecDepth 100000 in
theorem kn99_0 : bkn (3, smT) ctb 160 sc99 1000000 nl99 nd99_0 = true := by decide +kernel
set_option maxRecDepth 100000 in
theorem ke100 : bke (3, smT) ctb 160 sc100 2 1000000 nl100 = true := by decide +kernel
set_option maxRecDepth 100000 in
theorem kn100_0 : bkn (3, smT) ctb 160 sc100 1000000 nl100 nd100_0 = true := by decide +kernel
