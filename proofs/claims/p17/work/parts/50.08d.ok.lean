/-- a method's own words; law (0) has none -/
def zmokF (j : Nat) : Bool := match zat zmn j, zat zmi j with
  | some (y, cc, mL, ret, hh, wc, wi, wk, wsl), some (na, mL', stc, ci, rk, kd) =>
    Nat.beq mL mL' && Nat.ble mL 16 && Nat.ble na mL && plainFor y && decide (y.cls ≠ "java/lang/invoke/MethodHandle") && decide (y.cls ≠ "java/lang/invoke/VarHandle") &&
    decide ((parseMethodDescriptor y.desc).map (fun d => d.parameters.length) = some (na - (1 - stc))) &&
    (match rk with
    | 0 => decide (ret = none)
    | 1 => decide (ret = some .int)
    | 2 => decide (ret = some .boolean)
    | _ => false) &&
    (match kd with
    | 0 => decide (hh = []) && zwd wc (Jvm.Cond.code y cc mL ret)
    | _ => zwd wc (Jvm.Cond.codeWith y cc mL ret hh)) &&
    zwd wi (Jvm.Cond.initialized y.cls) &&
    (match stc with
    | 0 => Nat.ble 1 na && zwd wk (Jvm.Cond.instanceMethod y) && (decide (y.name = "<init>") || zwd wsl (Jvm.Cond.selects y.cls y y)) && (match zat vwCl ci with
      | some (C, _, _) => decide (C = y.cls)
      | none => false)
    | _ => zwd wk (Jvm.Cond.static y))
  | _, _ => false
set_option maxRecDepth 100000 in
theorem zmok1 : (List.range' 1 8).all zmokF = true := by decide +kernel
set_option maxRecDepth 100000 in
theorem zmok9 : (List.range' 9 8).all zmokF = true := by decide +kernel
set_option maxRecDepth 100000 in
theorem zmok17 : (List.range' 17 8).all zmokF = true := by decide +kernel
set_option maxRecDepth 100000 in
theorem zmok25 : (List.range' 25 8).all zmokF = true := by decide +kernel
set_option maxRecDepth 100000 in
theorem zmok33 : (List.range' 33 8).all zmokF = true := by decide +kernel
set_option maxRecDepth 100000 in
theorem zmok41 : (List.range' 41 8).all zmokF = true := by decide +kernel
set_option maxRecDepth 100000 in
theorem zmok49 : (List.range' 49 8).all zmokF = true := by decide +kernel
set_option maxRecDepth 100000 in
theorem zmok57 : (List.range' 57 8).all zmokF = true := by decide +kernel
set_option maxRecDepth 100000 in
theorem zmok65 : (List.range' 65 8).all zmokF = true := by decide +kernel
set_option maxRecDepth 100000 in
theorem zmok73 : (List.range' 73 8).all zmokF = true := by decide +kernel
set_option maxRecDepth 100000 in
theorem zmok81 : (List.range' 81 8).all zmokF = true := by decide +kernel
set_option maxRecDepth 100000 in
theorem zmok89 : (List.range' 89 8).all zmokF = true := by decide +kernel
set_option maxRecDepth 100000 in
theorem zmok97 : (List.range' 97 8).all zmokF = true := by decide +kernel
set_option maxRecDepth 100000 in
theorem zmok105 : (List.range' 105 8).all zmokF = true := by decide +kernel
set_option maxRecDepth 100000 in
theorem zmok113 : (List.range' 113 8).all zmokF = true := by decide +kernel
set_option maxRecDepth 100000 in
theorem zmok121 : (List.range' 121 8).all zmokF = true := by decide +kernel
set_option maxRecDepth 100000 in
theorem zmok129 : (List.range' 129 8).all zmokF = true := by decide +kernel
set_option maxRecDepth 100000 in
theorem zmok137 : (List.range' 137 8).all zmokF = true := by decide +kernel
set_option maxRecDepth 100000 in
theorem zmok145 : (List.range' 145 8).all zmokF = true := by decide +kernel
set_option maxRecDepth 100000 in
theorem zmok153 : (List.range' 153 8).all zmokF = true := by decide +kernel
set_option maxRecDepth 100000 in
theorem zmok161 : (List.range' 161 8).all zmokF = true := by decide +kernel
set_option maxRecDepth 100000 in
theorem zmok169 : (List.range' 169 8).all zmokF = true := by decide +kernel
set_option maxRecDepth 100000 in
theorem zmok177 : (List.range' 177 8).all zmokF = true := by decide +kernel
set_option maxRecDepth 100000 in
theorem zmok185 : (List.range' 185 8).all zmokF = true := by decide +kernel
set_option maxRecDepth 100000 in
theorem zmok193 : (List.range' 193 8).all zmokF = true := by decide +kernel
set_option maxRecDepth 100000 in
theorem zmok201 : (List.range' 201 8).all zmokF = true := by decide +kernel
set_option maxRecDepth 100000 in
theorem zmok209 : (List.range' 209 8).all zmokF = true := by decide +kernel
set_option maxRecDepth 100000 in
theorem zmok217 : (List.range' 217 8).all zmokF = true := by decide +kernel
set_option maxRecDepth 100000 in
theorem zmok225 : (List.range' 225 8).all zmokF = true := by decide +kernel
set_option maxRecDepth 100000 in
theorem zmok233 : (List.range' 233 8).all zmokF = true := by decide +kernel
set_option maxRecDepth 100000 in
theorem zmok241 : (List.range' 241 8).all zmokF = true := by decide +kernel
set_option maxRecDepth 100000 in
theorem zmok249 : (List.range' 249 8).all zmokF = true := by decide +kernel
set_option maxRecDepth 100000 in
theorem zmok257 : (List.range' 257 8).all zmokF = true := by decide +kernel
set_option maxRecDepth 100000 in
theorem zmok265 : (List.range' 265 8).all zmokF = true := by decide +kernel
set_option maxRecDepth 100000 in
theorem zmok273 : (List.range' 273 8).all zmokF = true := by decide +kernel
set_option maxRecDepth 100000 in
theorem zmok281 : (List.range' 281 8).all zmokF = true := by decide +kernel
set_option maxRecDepth 100000 in
theorem zmok289 : (List.range' 289 8).all zmokF = true := by decide +kernel
set_option maxRecDepth 100000 in
theorem zmok297 : (List.range' 297 8).all zmokF = true := by decide +kernel
set_option maxRecDepth 100000 in
theorem zmok305 : (List.range' 305 8).all zmokF = true := by decide +kernel
set_option maxRecDepth 100000 in
theorem zmok313 : (List.range' 313 8).all zmokF = true := by decide +kernel
set_option maxRecDepth 100000 in
theorem zmok321 : (List.range' 321 8).all zmokF = true := by decide +kernel
set_option maxRecDepth 100000 in
theorem zmok329 : (List.range' 329 8).all zmokF = true := by decide +kernel
set_option maxRecDepth 100000 in
theorem zmok337 : (List.range' 337 2).all zmokF = true := by decide +kernel
theorem zprog_ok : ∀ (g : Nat) (rows : List (List (List (Nat × ZI)))), zat zprog g = some rows → zgchk (16 * g) rows = true
  | 0, rows, h => Eq.subst (motive := fun r => zgchk 0 r = true) (Option.some.inj (show some zg0 = some rows from h)) zgok0
  | 1, rows, h => Eq.subst (motive := fun r => zgchk 16 r = true) (Option.some.inj (show some zg1 = some rows from h)) zgok1
  | 2, rows, h => Eq.subst (motive := fun r => zgchk 32 r = true) (Option.some.inj (show some zg2 = some rows from h)) zgok2
  | 3, rows, h => Eq.subst (motive := fun r => zgchk 48 r = true) (Option.some.inj (show some zg3 = some rows from h)) zgok3
  | 4, rows, h => Eq.subst (motive := fun r => zgchk 64 r = true) (Option.some.inj (show some zg4 = some rows from h)) zgok4
  | 5, rows, h => Eq.subst (motive := fun r => zgchk 80 r = true) (Option.some.inj (show some zg5 = some rows from h)) zgok5
  | 6, rows, h => Eq.subst (motive := fun r => zgchk 96 r = true) (Option.some.inj (show some zg6 = some rows from h)) zgok6
  | 7, rows, h => Eq.subst (motive := fun r => zgchk 112 r = true) (Option.some.inj (show some zg7 = some rows from h)) zgok7
  | 8, rows, h => Eq.subst (motive := fun r => zgchk 128 r = true) (Option.some.inj (show some zg8 = some rows from h)) zgok8
  | 9, rows, h => Eq.subst (motive := fun r => zgchk 144 r = true) (Option.some.inj (show some zg9 = some rows from h)) zgok9
  | 10, rows, h => Eq.subst (motive := fun r => zgchk 160 r = true) (Option.some.inj (show some zg10 = some rows from h)) zgok10
  | 11, rows, h => Eq.subst (motive := fun r => zgchk 176 r = true) (Option.some.inj (show some zg11 = some rows from h)) zgok11
  | 12, rows, h => Eq.subst (motive := fun r => zgchk 192 r = true) (Option.some.inj (show some zg12 = some rows from h)) zgok12
  | 13, rows, h => Eq.subst (motive := fun r => zgchk 208 r = true) (Option.some.inj (show some zg13 = some rows from h)) zgok13
  | 14, rows, h => Eq.subst (motive := fun r => zgchk 224 r = true) (Option.some.inj (show some zg14 = some rows from h)) zgok14
  | 15, rows, h => Eq.subst (motive := fun r => zgchk 240 r = true) (Option.some.inj (show some zg15 = some rows from h)) zgok15
  | 16, rows, h => Eq.subst (motive := fun r => zgchk 256 r = true) (Option.some.inj (show some zg16 = some rows from h)) zgok16
  | 17, rows, h => Eq.subst (motive := fun r => zgchk 272 r = true) (Option.some.inj (show some zg17 = some rows from h)) zgok17
  | 18, rows, h => Eq.subst (motive := fun r => zgchk 288 r = true) (Option.some.inj (show some zg18 = some rows from h)) zgok18
  | 19, rows, h => Eq.subst (motive := fun r => zgchk 304 r = true) (Option.some.inj (show some zg19 = some rows from h)) zgok19
  | 20, rows, h => Eq.subst (motive := fun r => zgchk 320 r = true) (Option.some.inj (show some zg20 = some rows from h)) zgok20
  | 21, rows, h => Eq.subst (motive := fun r => zgchk 336 r = true) (Option.some.inj (show some zg21 = some rows from h)) zgok21
  | n + 22, rows, h => by simp [zprog, zat] at h
theorem zmok_all (j : Nat) (h0 : 0 < j) (hj : j < 339) : zmokF j = true := by
  by_cases h1 : j < 9
  · exact List.all_eq_true.mp zmok1 j (List.mem_range'_1.mpr (by omega))
  by_cases h9 : j < 17
  · exact List.all_eq_true.mp zmok9 j (List.mem_range'_1.mpr (by omega))
  by_cases h17 : j < 25
  · exact List.all_eq_true.mp zmok17 j (List.mem_range'_1.mpr (by omega))
  by_cases h25 : j < 33
  · exact List.all_eq_true.mp zmok25 j (List.mem_range'_1.mpr (by omega))
  by_cases h33 : j < 41
  · exact List.all_eq_true.mp zmok33 j (List.mem_range'_1.mpr (by omega))
  by_cases h41 : j < 49
  · exact List.all_eq_true.mp zmok41 j (List.mem_range'_1.mpr (by omega))
  by_cases h49 : j < 57
  · exact List.all_eq_true.mp zmok49 j (List.mem_range'_1.mpr (by omega))
  by_cases h57 : j < 65
  · exact List.all_eq_true.mp zmok57 j (List.mem_range'_1.mpr (by omega))
  by_cases h65 : j < 73
  · exact List.all_eq_true.mp zmok65 j (List.mem_range'_1.mpr (by omega))
  by_cases h73 : j < 81
  · exact List.all_eq_true.mp zmok73 j (List.mem_range'_1.mpr (by omega))
  by_cases h81 : j < 89
  · exact List.all_eq_true.mp zmok81 j (List.mem_range'_1.mpr (by omega))
  by_cases h89 : j < 97
  · exact List.all_eq_true.mp zmok89 j (List.mem_range'_1.mpr (by omega))
  by_cases h97 : j < 105
  · exact List.all_eq_true.mp zmok97 j (List.mem_range'_1.mpr (by omega))
  by_cases h105 : j < 113
  · exact List.all_eq_true.mp zmok105 j (List.mem_range'_1.mpr (by omega))
  by_cases h113 : j < 121
  · exact List.all_eq_true.mp zmok113 j (List.mem_range'_1.mpr (by omega))
  by_cases h121 : j < 129
  · exact List.all_eq_true.mp zmok121 j (List.mem_range'_1.mpr (by omega))
  by_cases h129 : j < 137
  · exact List.all_eq_true.mp zmok129 j (List.mem_range'_1.mpr (by omega))
  by_cases h137 : j < 145
  · exact List.all_eq_true.mp zmok137 j (List.mem_range'_1.mpr (by omega))
  by_cases h145 : j < 153
  · exact List.all_eq_true.mp zmok145 j (List.mem_range'_1.mpr (by omega))
  by_cases h153 : j < 161
  · exact List.all_eq_true.mp zmok153 j (List.mem_range'_1.mpr (by omega))
  by_cases h161 : j < 169
  · exact List.all_eq_true.mp zmok161 j (List.mem_range'_1.mpr (by omega))
  by_cases h169 : j < 177
  · exact List.all_eq_true.mp zmok169 j (List.mem_range'_1.mpr (by omega))
  by_cases h177 : j < 185
  · exact List.all_eq_true.mp zmok177 j (List.mem_range'_1.mpr (by omega))
  by_cases h185 : j < 193
  · exact List.all_eq_true.mp zmok185 j (List.mem_range'_1.mpr (by omega))
  by_cases h193 : j < 201
  · exact List.all_eq_true.mp zmok193 j (List.mem_range'_1.mpr (by omega))
  by_cases h201 : j < 209
  · exact List.all_eq_true.mp zmok201 j (List.mem_range'_1.mpr (by omega))
  by_cases h209 : j < 217
  · exact List.all_eq_true.mp zmok209 j (List.mem_range'_1.mpr (by omega))
  by_cases h217 : j < 225
  · exact List.all_eq_true.mp zmok217 j (List.mem_range'_1.mpr (by omega))
  by_cases h225 : j < 233
  · exact List.all_eq_true.mp zmok225 j (List.mem_range'_1.mpr (by omega))
  by_cases h233 : j < 241
  · exact List.all_eq_true.mp zmok233 j (List.mem_range'_1.mpr (by omega))
  by_cases h241 : j < 249
  · exact List.all_eq_true.mp zmok241 j (List.mem_range'_1.mpr (by omega))
  by_cases h249 : j < 257
  · exact List.all_eq_true.mp zmok249 j (List.mem_range'_1.mpr (by omega))
  by_cases h257 : j < 265
  · exact List.all_eq_true.mp zmok257 j (List.mem_range'_1.mpr (by omega))
  by_cases h265 : j < 273
  · exact List.all_eq_true.mp zmok265 j (List.mem_range'_1.mpr (by omega))
  by_cases h273 : j < 281
  · exact List.all_eq_true.mp zmok273 j (List.mem_range'_1.mpr (by omega))
  by_cases h281 : j < 289
  · exact List.all_eq_true.mp zmok281 j (List.mem_range'_1.mpr (by omega))
  by_cases h289 : j < 297
  · exact List.all_eq_true.mp zmok289 j (List.mem_range'_1.mpr (by omega))
  by_cases h297 : j < 305
  · exact List.all_eq_true.mp zmok297 j (List.mem_range'_1.mpr (by omega))
  by_cases h305 : j < 313
  · exact List.all_eq_true.mp zmok305 j (List.mem_range'_1.mpr (by omega))
  by_cases h313 : j < 321
  · exact List.all_eq_true.mp zmok313 j (List.mem_range'_1.mpr (by omega))
  by_cases h321 : j < 329
  · exact List.all_eq_true.mp zmok321 j (List.mem_range'_1.mpr (by omega))
  by_cases h329 : j < 337
  · exact List.all_eq_true.mp zmok329 j (List.mem_range'_1.mpr (by omega))
  by_cases h337 : j < 339
  · exact List.all_eq_true.mp zmok337 j (List.mem_range'_1.mpr (by omega))
  omega
