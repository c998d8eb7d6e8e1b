set_option maxRecDepth 100000 in
theorem ke34 : bke (4, smT) ctb 35 sc34 0 1000000 nl34 = true := by decide +kernel
set_option maxRecDepth 100000 in
theorem ke35 : bke (3, smT) ctb 36 sc35 0 1000000 nl35 = true := by decide +kernel
set_option maxRecDepth 100000 in
theorem ke36 : bke (4, smT) ctb 37 sc36 0 1000000 nl36 = true := by decide +kernel
set_option maxRecDepth 100000 in
theorem ke37 : bke (0, smT) ctb 43 sc37 0 1000000 nl37 = true := by decide +kernel
set_option maxRecDepth 100000 in
theorem ke38 : bke (5, smT) ctb 64 sc38 0 1000000 nl38 = true := by decide +kernel
set_option maxRecDepth 100000 in
theorem ke39 : bke (1, smT) ctb 74 sc39 0 1000000 nl39 = true := by decide +kernel
set_option maxRecDepth 100000 in
theorem ke40 : bke (3, smT) ctb 79 sc40 14 1000000 nl40 = true := by decide +kernel
set_option maxRecDepth 100000 in
theorem kn40_0 : bkn (3, smT) ctb 79 sc40 1000000 nl40 nd40_0 = true := by decide +kernel
set_option maxRecDepth 100000 in
theorem ke41 : bke (0, smT) ctb 82 sc41 0 1000000 nl41 = true := by decide +kernel
set_option maxRecDepth 100000 in
theorem ke42 : bke (4, smT) ctb 83 sc42 0 1000000 nl42 = true := by decide +kernel
set_option maxRecDepth 100000 in
theorem ke43 : bke (2, smT) ctb 84 sc43 0 1000000 nl43 = true := by decide +kernel
set_option maxRecDepth 100000 in
theorem ke44 : bke (2, smT) ctb 85 sc44 0 1000000 nl44 = true := by decide +kernel
set_option maxRecDepth 100000 in
theorem ke45 : bke (2, smT) ctb 86 sc45 0 1000000 nl45 = true := by decide +kernel
set_option maxRecDepth 100000 in
theorem ke46 : bke (0, smT) ctb 92 sc46 98 1000000 nl46 = true := by decide +kernel
set_option maxRecDepth 100000 in
theorem kn46_0 : bkn (0, smT) ctb 92 sc46 1000000 nl46 nd46_0 = true := by decide +kernel
set_option maxRecDepth 100000 in
theorem ke47 : bke (0, smT) ctb 92 sc47 98 1000000 nl47 = true := by decide +kernel
set_option maxRecDepth 100000 in
theorem kn47_0 : bkn (0, smT) ctb 92 sc47 1000000 nl47 nd47_0 = true := by decide +kernel
set_option maxRecDepth 100000 in
theorem ke48 : bke (0, smT) ctb 93 sc48 66 1000000 nl48 = true := by decide +kernel
set_option maxRecDepth 100000 in
theorem kn48_0 : bkn (0, smT) ctb 93 sc48 1000000 nl48 nd48_0 = true := by decide +kernel
set_option maxRecDepth 100000 in
theorem ke49 : bke (0, smT) ctb 93 sc49 66 1000000 nl49 = true := by decide +kernel
set_option maxRecDepth 100000 in
theorem kn49_0 : bkn (0, smT) ctb 93 sc49 1000000 nl49 nd49_0 = true := by decide +kernel
set_option maxRecDepth 100000 in
theorem ke50 : bke (0, smT) ctb 93 sc50 66 1000000 nl50 = true := by decide +kernel
set_option maxRecDepth 100000 in
theorem kn50_0 : bkn (0, smT) ctb 93 sc50 1000000 nl50 nd50_0 = true := by decide +kernel
set_option maxRecDepth 100000 in
theorem ke51 : bke (1, smT) ctb 94 sc51 14 1000000 nl51 = true := by decide +kernel
set_option maxRecDepth 100000 in
theorem kn51_0 : bkn (1, smT) ctb 94 sc51 1000000 nl51 nd51_0 = true := by decide +kernel
set_option maxRecDepth 100000 in
theorem ke52 : bke (1, smT) ctb 95 sc52 10 1000000 nl52 = true := by decide +kernel
set_option maxRecDepth 100000 in
theorem kn52_0 : bkn (1, smT) ctb 95 sc52 1000000 nl52 nd52_0 = true := by decide +kernel
set_option maxRecDepth 100000 in
theorem ke53 : bke (1, smT) ctb 95 sc53 10 1000000 nl53 = true := by decide +kernel
set_option maxRecDepth 100000 in
theorem kn53_0 : bkn (1, smT) ctb 95 sc53 1000000 nl53 nd53_0 = true := by decide +kernel
set_option maxRecDepth 100000 in
theorem ke54 : bke (1, smT) ctb 100 sc54 10 1000000 nl54 = true := by decide +kernel
set_option maxRecDepth 100000 in
theorem kn54_0 : bkn (1, smT) ctb 100 sc54 1000000 nl54 nd54_0 = true := by decide +kernel
set_option maxRecDepth 100000 in
theorem ke55 : bke (1, smT) ctb 100 sc55 10 1000000 nl55 = true := by decide +kernel
set_option maxRecDepth 100000 in
theorem kn55_0 : bkn (1, smT) ctb 100 sc55 1000000 nl55 nd55_0 = true := by decide +kernel
set_option maxRecDepth 100000 in
theorem ke56 : bke (1, smT) ctb 102 sc56 10 1000000 nl56 = true := by decide +kernel
set_option maxRecDepth 100000 in
theorem kn56_0 : bkn (1, smT) ctb 102 sc56 1000000 nl56 nd56_0 = true := by decide +kernel
set_option maxRecDepth 100000 in
theorem ke57 : bke (1, smT) ctb 102 sc57 10 1000000 nl57 = true := by decide +kernel
set_option maxRecDepth 100000 in
theorem kn57_0 : bkn (1, smT) ctb 102 sc57 1000000 nl57 nd57_0 = true := by decide +kernel
set_option maxRecDepth 100000 in
theorem ke58 : bke (1, smT) ctb 103 sc58 10 1000000 nl58 = true := by decide +kernel
set_option maxRecDepth 100000 in
theorem kn58_0 : bkn (1, smT) ctb 103 sc58 1000000 nl58 nd58_0 = true := by decide +kernel
set_option maxRecDepth 100000 in
theorem ke59 : bke (1, smT) ctb 103 sc59 10 1000000 nl59 = true := by decide +kernel
set_option maxRecDepth 100000 in
theorem kn59_0 : bkn (1, smT) ctb 103 sc59 1000000 nl59 nd59_0 = true := by decide +kernel
set_option maxRecDepth 100000 in
theorem ke60 : bke (1, smT) ctb 104 sc60 19 1000000 nl60 = true := by decide +kernel
set_option maxRecDepth 100000 in
theorem kn60_0 : bkn (1, smT) ctb 104 sc60 1000000 nl60 nd60_0 = true := by decide +kernel
set_option maxRecDepth 100000 in
theorem kn60_1 : bkn (1, smT) ctb 104 sc60 1000000 nl60 nd60_1 = true := by decide +kernel
set_option maxRecDepth 100000 in
theorem ke61 : bke (1, smT) ctb 104 sc61 19 1000000 nl61 = true := by decide +kernel
set_option maxRecDepth 100000 in
theorem kn61_0 : bkn (1, smT) ctb 104 sc61 1000000 nl61 nd61_0 = true := by decide +kernel
set_option maxRecDepth 100000 in
theorem kn61_1 : bkn (1, smT) ctb 104 sc61 1000000 nl61 nd61_1 = true := by decide +kernel
set_option maxRecDepth 100000 in
theorem ke62 : bke (0, smT) ctb 105 sc62 10 1000000 nl62 = true := by decide +kernel
set_option maxRecDepth 100000 in
theorem kn62_0 : bkn (0, smT) ctb 105 sc62 1000000 nl62 nd62_0 = true := by decide +kernel
set_option maxRecDepth 100000 in
theorem ke63 : bke (0, smT) ctb 105 sc63 10 1000000 nl63 = true := by decide +kernel
set_option maxRecDepth 100000 in
theorem kn63_0 : bkn (0, smT) ctb 105 sc63 1000000 nl63 nd63_0 = true := by decide +kernel
set_option maxRecDepth 100000 in
theorem ke64 : bke (0, smT) ctb 106 sc64 10 1000000 nl64 = true := by decide +kernel
set_option maxRecDepth 100000 in
theorem kn64_0 : bkn (0, smT) ctb 106 sc64 1000000 nl64 nd64_0 = true := by decide +kernel
set_option maxRecDepth 100000 in
theorem ke65 : bke (2, smT) ctb 111 sc65 82 1000000 nl65 = true := by decide +kernel
set_option maxRecDepth 100000 in
theorem kn65_0 : bkn (2, smT) ctb 111 sc65 1000000 nl65 nd65_0 = true := by decide +kernel
