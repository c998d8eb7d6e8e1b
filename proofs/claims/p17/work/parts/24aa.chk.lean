set_option maxRecDepth 100000 in
theorem ke0 : bke (7, smT) ctb 1 sc0 0 1000000 nl0 = true := by decide +kernel
set_option maxRecDepth 100000 in
theorem ke1 : bke (25, smT) ctb 2 sc1 0 1000000 nl1 = true := by decide +kernel
set_option maxRecDepth 100000 in
theorem ke2 : bke (5, smT) ctb 3 sc2 0 1000000 nl2 = true := by decide +kernel
set_option maxRecDepth 100000 in
theorem ke3 : bke (2, smT) ctb 4 sc3 0 1000000 nl3 = true := by decide +kernel
set_option maxRecDepth 100000 in
theorem ke4 : bke (2, smT) ctb 5 sc4 0 1000000 nl4 = true := by decide +kernel
set_option maxRecDepth 100000 in
theorem ke5 : bke (2, smT) ctb 6 sc5 0 1000000 nl5 = true := by decide +kernel
set_option maxRecDepth 100000 in
theorem ke6 : bke (2, smT) ctb 7 sc6 0 1000000 nl6 = true := by decide +kernel
set_option maxRecDepth 100000 in
theorem ke7 : bke (4, smT) ctb 8 sc7 0 1000000 nl7 = true := by decide +kernel
set_option maxRecDepth 100000 in
theorem ke8 : bke (5, smT) ctb 9 sc8 0 1000000 nl8 = true := by decide +kernel
set_option maxRecDepth 100000 in
theorem ke9 : bke (5, smT) ctb 10 sc9 0 1000000 nl9 = true := by decide +kernel
set_option maxRecDepth 100000 in
theorem ke10 : bke (5, smT) ctb 11 sc10 0 1000000 nl10 = true := by decide +kernel
set_option maxRecDepth 100000 in
theorem ke11 : bke (5, smT) ctb 12 sc11 0 1000000 nl11 = true := by decide +kernel
set_option maxRecDepth 100000 in
theorem ke12 : bke (5, smT) ctb 13 sc12 0 1000000 nl12 = true := by decide +kernel
set_option maxRecDepth 100000 in
theorem ke13 : bke (5, smT) ctb 14 sc13 0 1000000 nl13 = true := by decide +kernel
set_option maxRecDepth 100000 in
theorem ke14 : bke (7, smT) ctb 15 sc14 0 1000000 nl14 = true := by decide +kernel
set_option maxRecDepth 100000 in
theorem ke15 : bke (7, smT) ctb 16 sc15 0 1000000 nl15 = true := by decide +kernel
set_option maxRecDepth 100000 in
theorem ke16 : bke (7, smT) ctb 17 sc16 0 1000000 nl16 = true := by decide +kernel
set_option maxRecDepth 100000 in
theorem ke17 : bke (7, smT) ctb 18 sc17 0 1000000 nl17 = true := by decide +kernel
set_option maxRecDepth 100000 in
theorem ke18 : bke (7, smT) ctb 19 sc18 0 1000000 nl18 = true := by decide +kernel
set_option maxRecDepth 100000 in
theorem ke19 : bke (6, smT) ctb 20 sc19 0 1000000 nl19 = true := by decide +kernel
set_option maxRecDepth 100000 in
theorem ke20 : bke (8, smT) ctb 21 sc20 0 1000000 nl20 = true := by decide +kernel
set_option maxRecDepth 100000 in
theorem ke21 : bke (6, smT) ctb 22 sc21 0 1000000 nl21 = true := by decide +kernel
set_option maxRecDepth 100000 in
theorem ke22 : bke (7, smT) ctb 23 sc22 0 1000000 nl22 = true := by decide +kernel
set_option maxRecDepth 100000 in
theorem ke23 : bke (7, smT) ctb 24 sc23 0 1000000 nl23 = true := by decide +kernel
set_option maxRecDepth 100000 in
theorem ke24 : bke (7, smT) ctb 25 sc24 0 1000000 nl24 = true := by decide +kernel
set_option maxRecDepth 100000 in
theorem ke25 : bke (8, smT) ctb 26 sc25 0 1000000 nl25 = true := by decide +kernel
set_option maxRecDepth 100000 in
theorem ke26 : bke (7, smT) ctb 27 sc26 0 1000000 nl26 = true := by decide +kernel
set_option maxRecDepth 100000 in
theorem ke27 : bke (7, smT) ctb 28 sc27 0 1000000 nl27 = true := by decide +kernel
set_option maxRecDepth 100000 in
theorem ke28 : bke (2, smT) ctb 29 sc28 0 1000000 nl28 = true := by decide +kernel
set_option maxRecDepth 100000 in
theorem ke29 : bke (2, smT) ctb 30 sc29 0 1000000 nl29 = true := by decide +kernel
set_option maxRecDepth 100000 in
theorem ke30 : bke (2, smT) ctb 31 sc30 0 1000000 nl30 = true := by decide +kernel
set_option maxRecDepth 100000 in
theorem ke31 : bke (3, smT) ctb 32 sc31 0 1000000 nl31 = true := by decide +kernel
set_option maxRecDepth 100000 in
theorem ke32 : bke (2, smT) ctb 33 sc32 0 1000000 nl32 = true := by decide +kernel
set_option maxRecDepth 100000 in
theorem ke33 : bke (4, smT) ctb 34 sc33 0 1000000 nl33 = true := by decide +kernel
