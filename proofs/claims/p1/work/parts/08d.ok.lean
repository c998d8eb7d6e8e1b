set_option maxRecDepth 100000 in
theorem zmok1 : (List.range' 1 40).all zmok = true := by decide +kernel
set_option maxRecDepth 100000 in
theorem zmok41 : (List.range' 41 40).all zmok = true := by decide +kernel
set_option maxRecDepth 100000 in
theorem zmok81 : (List.range' 81 40).all zmok = true := by decide +kernel
set_option maxRecDepth 100000 in
theorem zmok121 : (List.range' 121 40).all zmok = true := by decide +kernel
set_option maxRecDepth 100000 in
theorem zmok161 : (List.range' 161 40).all zmok = true := by decide +kernel
set_option maxRecDepth 100000 in
theorem zmok201 : (List.range' 201 40).all zmok = true := by decide +kernel
set_option maxRecDepth 100000 in
theorem zmok241 : (List.range' 241 40).all zmok = true := by decide +kernel
set_option maxRecDepth 100000 in
theorem zmok281 : (List.range' 281 40).all zmok = true := by decide +kernel
set_option maxRecDepth 100000 in
theorem zmok321 : (List.range' 321 18).all zmok = true := by decide +kernel
theorem zprog_ok : ∀ (g : Nat) (rows : List (List (List (Nat × ZI)))), zat zprog g = some rows → zgchk (16 * g) rows = true
  | 0, rows, h => Eq.subst (motive := fun r => zgchk 0 r = true) (Option.some.inj (show some zg0 = some rows from h)) zgok0
  | 1, rows, h => Eq.subst (motive := fun r => zgchk 16 r = true) (Option.some.inj (show some zg1 = some rows from h)) zgok1
  | 2, rows, h => Eq.subst (motive := fun r => zgchk 32 r = true) (Option.some.inj (show some zg2 = some rows from h)) zgok2
  | 3, rows, h => Eq.subst (motive := fun r => zgchk 48 r = true) (Option.some.inj (show some zg3 = some rows from h)) zgok3
  | 4, rows, h => Eq.subst (motive := fun r => zgchk 64 r = true) (Option.some.inj (show some zg4 = some rows from h)) zgok4
  | 5, rows, h => Eq.subst (motive := fun r => zgchk 80 r = true) (Option.some.inj (show some zg5 = some rows from h)) zgok5
  | 6, rows, h => Eq.subst (motive := fun r => zgchk 96 r = true) (Option.some.inj (show some zg6 = some rows from h)) zgok6
  | 7, rows, h => Eq.subst (motive := fun r => zgchk 112 r = true) (Option.some.inj (show some zg7 = some rows from h)) zgok7
  | 8, rows, h => Eq.subst (motive := fun r => zgchk 128 r = true) (Option.some.inj (show some zg8 = some rows from h)) zgok8
  | 9, rows, h => Eq.subst (motive := fun r => zgchk 144 r = true) (Option.some.inj (show some zg9 = some rows from h)) zgok9
  | 10, rows, h => Eq.subst (motive := fun r => zgchk 160 r = true) (Option.some.inj (show some zg10 = some rows from h)) zgok10
  | 11, rows, h => Eq.subst (motive := fun r => zgchk 176 r = true) (Option.some.inj (show some zg11 = some rows from h)) zgok11
  | 12, rows, h => Eq.subst (motive := fun r => zgchk 192 r = true) (Option.some.inj (show some zg12 = some rows from h)) zgok12
  | 13, rows, h => Eq.subst (motive := fun r => zgchk 208 r = true) (Option.some.inj (show some zg13 = some rows from h)) zgok13
  | 14, rows, h => Eq.subst (motive := fun r => zgchk 224 r = true) (Option.some.inj (show some zg14 = some rows from h)) zgok14
  | 15, rows, h => Eq.subst (motive := fun r => zgchk 240 r = true) (Option.some.inj (show some zg15 = some rows from h)) zgok15
  | 16, rows, h => Eq.subst (motive := fun r => zgchk 256 r = true) (Option.some.inj (show some zg16 = some rows from h)) zgok16
  | 17, rows, h => Eq.subst (motive := fun r => zgchk 272 r = true) (Option.some.inj (show some zg17 = some rows from h)) zgok17
  | 18, rows, h => Eq.subst (motive := fun r => zgchk 288 r = true) (Option.some.inj (show some zg18 = some rows from h)) zgok18
  | 19, rows, h => Eq.subst (motive := fun r => zgchk 304 r = true) (Option.some.inj (show some zg19 = some rows from h)) zgok19
  | 20, rows, h => Eq.subst (motive := fun r => zgchk 320 r = true) (Option.some.inj (show some zg20 = some rows from h)) zgok20
  | 21, rows, h => Eq.subst (motive := fun r => zgchk 336 r = true) (Option.some.inj (show some zg21 = some rows from h)) zgok21
  | n + 22, rows, h => by simp [zprog, zat] at h
theorem zmok_all (j : Nat) (h0 : 0 < j) (hj : j < 339) : zmok j = true := by
  by_cases h1 : j < 41
  · exact List.all_eq_true.mp zmok1 j (by simp [List.mem_range']; omega)
  by_cases h41 : j < 81
  · exact List.all_eq_true.mp zmok41 j (by simp [List.mem_range']; omega)
  by_cases h81 : j < 121
  · exact List.all_eq_true.mp zmok81 j (by simp [List.mem_range']; omega)
  by_cases h121 : j < 161
  · exact List.all_eq_true.mp zmok121 j (by simp [List.mem_range']; omega)
  by_cases h161 : j < 201
  · exact List.all_eq_true.mp zmok161 j (by simp [List.mem_range']; omega)
  by_cases h201 : j < 241
  · exact List.all_eq_true.mp zmok201 j (by simp [List.mem_range']; omega)
  by_cases h241 : j < 281
  · exact List.all_eq_true.mp zmok241 j (by simp [List.mem_range']; omega)
  by_cases h281 : j < 321
  · exact List.all_eq_true.mp zmok281 j (by simp [List.mem_range']; omega)
  by_cases h321 : j < 339
  · exact List.all_eq_true.mp zmok321 j (by simp [List.mem_range']; omega)
  omega
