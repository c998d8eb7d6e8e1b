set_option maxRecDepth 100000 in
theorem zgok1 : zgchk 16 zg1 = true := by decide +kernel
set_option maxRecDepth 100000 in
theorem zgok2 : zgchk 32 zg2 = true := by decide +kernel
set_option maxRecDepth 100000 in
theorem zgok3 : zgchk 48 zg3 = true := by decide +kernel
set_option maxRecDepth 100000 in
theorem zgok4 : zgchk 64 zg4 = true := by decide +kernel
set_option maxRecDepth 100000 in
theorem zgok5 : zgchk 80 zg5 = true := by decide +kernel
set_option maxRecDepth 100000 in
theorem zgok6 : zgchk 96 zg6 = true := by decide +kernel
set_option maxRecDepth 100000 in
theorem zgok7 : zgchk 112 zg7 = true := by decide +kernel
set_option maxRecDepth 100000 in
theorem zgok8 : zgchk 128 zg8 = true := by decide +kernel
set_option maxRecDepth 100000 in
theorem zgok9 : zgchk 144 zg9 = true := by decide +kernel
set_option maxRecDepth 100000 in
theorem zgok10 : zgchk 160 zg10 = true := by decide +kernel
set_option maxRecDepth 100000 in
theorem zgok11 : zgchk 176 zg11 = true := by decide +kernel
