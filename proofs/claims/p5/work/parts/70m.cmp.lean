/-! the class's comparison: its pieces -/
/-- 0 L, 1 start, 2 end, 3 value, 4 byte, 5 sign kept, 6 plus, 7 i, 8 word -/
def kL (g pl i w : Option bV) : bLs := [some (.inr (.inl (.ref 76))), some (.inr (.inl (.ref 1))), g, pl, i, w]
def kE9 (v y g w : Int × Int) (i : Int × Int) : bE := [(0, 400), (0, 400), (0, 400), v, y, g, (0, 1), i, w]
def kvv (i : Nat) : Option bV := some (.inl (mv i))
def kcc (c : Int) : Option bV := some (.inl (c, []))
def kO (k : bI) : bO := [(1, (1, []), mv 0), (1, (2, []), k), (1, (3, []), mv 1), (1, (4, []), mv 2), (1, (5, []), mv 3)]
def kB : bO := [(2, (0, [(1, 1)]), mv 4)]
def kPv (k : bI) : bPv := [(1, 1, mv 0), (1, 2, k), (1, 3, mv 1), (1, 4, mv 2), (1, 5, mv 3)]
def kN (pc : Nat) (al : bLs) (e : bE) (k : bI) : bNd := (pc, al, e, [], kPv k, (0, []), (0, []), (0, []))
noncomputable def kF (r : Int) (k : bI) : bS → Option bV → Bool := bfn 0 0 9 (bidl 9 0) [([], [], some (.inl (r, [])), kPv k)]
noncomputable def kR (fin : bS → Option bV → Bool) (L : List bNd) (e : bE) (cs : bC) (ov : bO) (pc : Nat) (al : bLs) : Bool := btz wC (60, smT) ctb fin 60 164 1000000 9 L (9, e, cs, ov, (0, []), (0, [])) pc al
def kGA : Int × Int := (-1, 1023)
set_option maxRecDepth 100000 in
theorem kc_0 : kR ag_no9 [kN 15 (kL (kcc (-1)) (kcc 0) (kcc 0) none) (kE9 ag_MX (0, 255) kGA (-1, 5) (0, 400)) (0, [])] (kE9 ag_MX (0, 255) kGA (-1, 5) (0, 400)) [] (kO (0, [])) 0 (kL none none none none) = true := by decide +kernel
set_option maxRecDepth 100000 in
theorem kc_h : kR ag_no9 [kN 15 (kL (kvv 5) (kvv 6) (kvv 7) none) (kE9 ag_MX (0, 255) kGA (-1, 5) (0, 399)) (0, [])] (kE9 ag_MX (0, 255) kGA (-1, 5) (0, 399)) [] (kO (0, [])) 7 (kL (kvv 5) (kvv 6) (kvv 7) none) = true := by decide +kernel
set_option maxRecDepth 100000 in
theorem kc_1 : kR (kF 0 (0, [])) [] (kE9 ag_MX (0, 255) kGA (-1, -1) (0, 399)) [] (kO (0, [])) 23 (kL (kvv 5) (kvv 6) (kvv 7) (kvv 8)) = true := by decide +kernel
set_option maxRecDepth 100000 in
theorem kc_2 : kR (kF 0 (1, [])) [] (kE9 ag_MX (0, 255) kGA (-1, -1) (0, 399)) [(-4, [(1, -1), (2, 1)])] (kO (1, [])) 23 (kL (kvv 5) (kvv 6) (kvv 7) (kvv 8)) = true := by decide +kernel
set_option maxRecDepth 100000 in
theorem kc_3 : kR ag_no9 [kN 86 (kL (kvv 5) (kvv 6) (kvv 7) none) (kE9 (0, 999) (0, 255) kGA (-1, -1) (0, 399)) (1, [])] (kE9 (0, 999) (0, 255) kGA (-1, -1) (0, 399)) [(3, [(1, 1), (2, -1)])] (kO (1, [])) 23 (kL (kvv 5) (kvv 6) (kvv 7) (kvv 8)) = true := by decide +kernel
set_option maxRecDepth 100000 in
theorem kc_4 : kR ag_no9 [kN 86 (kL (kvv 5) (kvv 6) (kvv 7) none) (kE9 ag_MX (0, 255) kGA (0, 5) (0, 399)) (2, [])] (kE9 ag_MX (0, 255) kGA (0, 5) (0, 399)) [] (kO (2, [])) 23 (kL (kvv 5) (kvv 6) (kvv 7) (kvv 8)) = true := by decide +kernel
set_option maxRecDepth 100000 in
theorem kc_5 : kR ag_no9 [kN 162 (kL (kvv 5) (kcc 1) (kvv 7) none) (kE9 ag_MX (43, 43) kGA (-1, 5) (0, 399)) (3, [])] (kE9 ag_MX (43, 43) kGA (-1, 5) (0, 399)) [(-1, [(0, 1), (1, -1)])] (kO (3, []) ++ kB) 90 (kL (kvv 5) (kvv 6) (kvv 7) none) = true := by decide +kernel
set_option maxRecDepth 100000 in
theorem kc_6 : kR (kF 1 (0, [])) [] (kE9 ag_MX (0, 255) (1022, 1023) (-1, 5) (0, 399)) [] (kO (0, [])) 90 (kL (kvv 5) (kvv 6) (kvv 7) none) = true := by decide +kernel
set_option maxRecDepth 100000 in
theorem kc_7 : kR (kF 0 (0, [])) [] (kE9 ag_MX (0, 255) (-1, -1) (-1, 5) (0, 399)) [] (kO (0, [])) 90 (kL (kvv 5) (kvv 6) (kvv 7) none) = true := by decide +kernel
set_option maxRecDepth 100000 in
theorem kc_8 : kR ag_no9 [kN 162 (kL (kcc 1022) (kcc 0) (kvv 7) none) (kE9 ag_MX (60, 60) (-1, -1) (-1, 5) (0, 399)) (3, [])] (kE9 ag_MX (60, 60) (-1, -1) (-1, 5) (0, 399)) [(-1, [(0, 1), (1, -1)])] (kO (3, []) ++ kB) 90 (kL (kvv 5) (kvv 6) (kvv 7) none) = true := by decide +kernel
set_option maxRecDepth 100000 in
theorem kc_9 : kR ag_no9 [kN 7 (kL (kvv 5) (kvv 6) (some (.inl (1, [(7, 1)]))) none) (kE9 ag_MX (0, 255) kGA (-1, 5) (0, 399)) (0, [])] (kE9 ag_MX (0, 255) kGA (-1, 5) (0, 399)) [] (kO (0, [])) 166 (kL (kvv 5) (kvv 6) (kvv 7) none) = true := by decide +kernel
