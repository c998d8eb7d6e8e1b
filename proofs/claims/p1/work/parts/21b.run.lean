set_option maxRecDepth 100000 in
theorem zop2 : zrun 6 2147483650 2147483650 = true := by decide +kernel
set_option maxRecDepth 100000 in
theorem zop3 : zrun 6 2147483651 2147483651 = true := by decide +kernel
set_option maxRecDepth 100000 in
theorem zop19 : zrun 6 2147483667 2147483667 = true := by decide +kernel
set_option maxRecDepth 100000 in
theorem zop20 : zrun 6 2147483668 2147483668 = true := by decide +kernel
set_option maxRecDepth 100000 in
theorem zop24 : zrun 6 2147483672 2147483672 = true := by decide +kernel
set_option maxRecDepth 100000 in
theorem zop25 : zrun 6 2147483673 2147483673 = true := by decide +kernel
set_option maxRecDepth 100000 in
theorem zop26 : zrun 6 2147483674 2147483674 = true := by decide +kernel
set_option maxRecDepth 100000 in
theorem zop45 : zrun 6 2147483693 2147483693 = true := by decide +kernel
