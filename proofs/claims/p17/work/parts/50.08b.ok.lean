set_option maxRecDepth 100000 in
theorem zgok12 : zgchk 192 zg12 = true := by decide +kernel
set_option maxRecDepth 100000 in
theorem zgok13 : zgchk 208 zg13 = true := by decide +kernel
set_option maxRecDepth 100000 in
theorem zgok14 : zgchk 224 zg14 = true := by decide +kernel
set_option maxRecDepth 100000 in
theorem zgok15 : zgchk 240 zg15 = true := by decide +kernel
set_option maxRecDepth 100000 in
theorem zgok16 : zgchk 256 zg16 = true := by decide +kernel
set_option maxRecDepth 100000 in
theorem zgok17 : zgchk 272 zg17 = true := by decide +kernel
set_option maxRecDepth 100000 in
theorem zgok18 : zgchk 288 zg18 = true := by decide +kernel
set_option maxRecDepth 100000 in
theorem zgok19 : zgchk 304 zg19 = true := by decide +kernel
set_option maxRecDepth 100000 in
theorem zgok20 : zgchk 320 zg20 = true := by decide +kernel
set_option maxRecDepth 100000 in
theorem zgok21 : zgchk 336 zg21 = true := by decide +kernel
