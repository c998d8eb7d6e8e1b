/-! the class's comparison: its pieces -/
/-- 0 L, 1 start, 2 end, 3 value, 4 byte, 5 sign kept, 6 plus, 7 i, 8 word, 9 kind -/
def kL (g pl i w : Option bV) : bLs := [some (.inr (.inl (.ref 76))), some (.inr (.inl (.ref 1))), g, pl, i, w]
def kE9 (v y g w i k : Int × Int) : bE := [(0, 400), (0, 400), (0, 400), v, y, g, (0, 1), i, w, k]
def kvv (i : Nat) : Option bV := some (.inl (mv i))
def kcc (c : Int) : Option bV := some (.inl (c, []))
def kO : bO := [(1, (1, []), mv 0), (1, (2, []), mv 9), (1, (3, []), mv 1), (1, (4, []), mv 2), (1, (5, []), mv 3)]
def kB : bO := [(2, (0, [(1, 1)]), mv 4)]
def kPv : bPv := [(1, 1, mv 0), (1, 2, mv 9), (1, 3, mv 1), (1, 4, mv 2), (1, 5, mv 3)]
def kN (pc : Nat) (al : bLs) (e : bE) : bNd := (pc, al, e, [], kPv, (0, []), (0, []), (0, []))
noncomputable def kF (r : Int) : bS → Option bV → Bool := bfn 0 0 10 (bidl 10 0) [([], [], some (.inl (r, [])), kPv)]
noncomputable def kF0 : bS → Option bV → Bool := bfn 0 0 10 (bidl 10 0) [([], [], some (.inl (0, [])), (76, 1, mv 1) :: kPv)]
noncomputable def kR (fin : bS → Option bV → Bool) (L : List bNd) (e : bE) (cs : bC) (ov : bO) (pc : Nat) (al : bLs) : Bool := btz wC (60, smT) ctb fin 61 164 1000000 10 L (10, e, cs, ov, (0, []), (0, [])) pc al
def kGA : Int × Int := (-1, 1023)
def kI : Int × Int := (0, 399)
def kY : Int × Int := (0, 255)
def kW : Int × Int := (-1, 5)
def kA : bLs := kL (kvv 5) (kvv 6) (kvv 7) none
def kAw : bLs := kL (kvv 5) (kvv 6) (kvv 7) (kvv 8)
set_option maxRecDepth 100000 in
theorem kc_0 : kR ag_no9 [kN 7 (kL (kcc (-1)) (kcc 0) (kcc 0) none) (kE9 ag_MX kY kGA kW kI (0, 3))] (kE9 ag_MX kY kGA kW kI (0, 3)) [] kO 0 (kL none none none none) = true := by decide +kernel
set_option maxRecDepth 100000 in
theorem kc_h : kR ag_no9 [kN 15 kA (kE9 ag_MX kY kGA kW kI (0, 3))] (kE9 ag_MX kY kGA kW kI (0, 3)) [] kO 7 kA = true := by decide +kernel
set_option maxRecDepth 100000 in
theorem kc_h4 : kR kF0 [] (kE9 ag_MX kY kGA kW (400, 400) (0, 3)) [] kO 7 kA = true := by decide +kernel
set_option maxRecDepth 100000 in
theorem kc_1a : kR kF0 [] (kE9 ag_MX kY kGA (-1, -1) kI (0, 0)) [] kO 23 kAw = true := by decide +kernel
set_option maxRecDepth 100000 in
theorem kc_1b : kR kF0 [] (kE9 ag_MX kY kGA (-1, -1) kI (2, 3)) [] kO 23 kAw = true := by decide +kernel
set_option maxRecDepth 100000 in
theorem kc_2 : kR kF0 [] (kE9 ag_MX kY kGA (-1, -1) kI (1, 1)) [(-4, [(1, -1), (2, 1)])] kO 23 kAw = true := by decide +kernel
set_option maxRecDepth 100000 in
theorem kc_3 : kR ag_no9 [kN 86 kA (kE9 (0, 999) kY kGA (-1, -1) kI (1, 1))] (kE9 (0, 999) kY kGA (-1, -1) kI (1, 1)) [(3, [(1, 1), (2, -1)])] kO 23 kAw = true := by decide +kernel
set_option maxRecDepth 100000 in
theorem kc_4 : kR ag_no9 [kN 86 kA (kE9 ag_MX kY kGA (0, 5) kI (2, 2))] (kE9 ag_MX kY kGA (0, 5) kI (2, 2)) [] kO 23 kAw = true := by decide +kernel
set_option maxRecDepth 100000 in
theorem kc_5 : kR ag_no9 [kN 162 (kL (kvv 5) (kcc 1) (kvv 7) none) (kE9 ag_MX (43, 43) kGA kW kI (3, 3))] (kE9 ag_MX (43, 43) kGA kW kI (3, 3)) [(-1, [(0, 1), (1, -1)])] (kO ++ kB) 90 kA = true := by decide +kernel
set_option maxRecDepth 100000 in
theorem kc_6a : kR (kF 1) [] (kE9 ag_MX kY (1022, 1023) kW kI (0, 2)) [] kO 90 kA = true := by decide +kernel
set_option maxRecDepth 100000 in
theorem kc_6b : kR (kF 1) [] (kE9 ag_MX (0, 42) (1022, 1023) kW kI (3, 3)) [(-1, [(0, 1), (1, -1)])] (kO ++ kB) 90 kA = true := by decide +kernel
set_option maxRecDepth 100000 in
theorem kc_6c : kR (kF 1) [] (kE9 ag_MX (44, 255) (1022, 1023) kW kI (3, 3)) [(-1, [(0, 1), (1, -1)])] (kO ++ kB) 90 kA = true := by decide +kernel
set_option maxRecDepth 100000 in
theorem kc_7a : kR kF0 [] (kE9 ag_MX kY (-1, -1) kW kI (0, 2)) [] kO 90 kA = true := by decide +kernel
set_option maxRecDepth 100000 in
theorem kc_7b : kR kF0 [] (kE9 ag_MX (0, 42) (-1, -1) kW kI (3, 3)) [(-1, [(0, 1), (1, -1)])] (kO ++ kB) 90 kA = true := by decide +kernel
set_option maxRecDepth 100000 in
theorem kc_7c : kR kF0 [] (kE9 ag_MX (44, 59) (-1, -1) kW kI (3, 3)) [(-1, [(0, 1), (1, -1)])] (kO ++ kB) 90 kA = true := by decide +kernel
set_option maxRecDepth 100000 in
theorem kc_7d : kR kF0 [] (kE9 ag_MX (61, 61) (-1, -1) kW kI (3, 3)) [(-1, [(0, 1), (1, -1)])] (kO ++ kB) 90 kA = true := by decide +kernel
set_option maxRecDepth 100000 in
theorem kc_7e : kR kF0 [] (kE9 ag_MX (63, 255) (-1, -1) kW kI (3, 3)) [(-1, [(0, 1), (1, -1)])] (kO ++ kB) 90 kA = true := by decide +kernel
set_option maxRecDepth 100000 in
theorem kc_8a : kR ag_no9 [kN 162 (kL (kcc 1022) (kcc 0) (kvv 7) none) (kE9 ag_MX (60, 60) (-1, -1) kW kI (3, 3))] (kE9 ag_MX (60, 60) (-1, -1) kW kI (3, 3)) [(-1, [(0, 1), (1, -1)])] (kO ++ kB) 90 kA = true := by decide +kernel
set_option maxRecDepth 100000 in
theorem kc_8b : kR ag_no9 [kN 162 (kL (kcc 1023) (kcc 0) (kvv 7) none) (kE9 ag_MX (62, 62) (-1, -1) kW kI (3, 3))] (kE9 ag_MX (62, 62) (-1, -1) kW kI (3, 3)) [(-1, [(0, 1), (1, -1)])] (kO ++ kB) 90 kA = true := by decide +kernel
set_option maxRecDepth 100000 in
theorem kc_9 : kR ag_no9 [kN 7 (kL (kvv 5) (kvv 6) (some (.inl (1, [(7, 1)]))) none) (kE9 ag_MX kY kGA kW kI (0, 3))] (kE9 ag_MX kY kGA kW kI (0, 3)) [] kO 166 kA = true := by decide +kernel
