/-! rounds exactly (wip/zab2/c/lgen49.py) -/
set_option maxRecDepth 100000 in
theorem yMax {E : zE} {n d mi pc ln w9 a2 a3 i : Nat} {z : Int32} {ls : zLs} {r : List Value} {h : zH} {x y : Int32} (hf : zfetch mi pc = some (.invokestatic i, ln, (3, a2, a3), z, w9)) (hr : Nat.ble (zsum r) 8 = true) : zex E (n + 1) d mi pc ls (.int y :: .int x :: r) h = zex E n d mi (pc + ln) ls (.int (if x < y then y else x) :: r) h := by
  refine (zx1 hf).trans ?_
  show cond (Nat.ble (zsum r) 8) (zex E n d mi (pc + ln) ls (.int (if x < y then y else x) :: r) h) none = _
  rw [hr]
  rfl
set_option maxRecDepth 100000 in
theorem zgv118_0 : zfetch 118 0 = some (.aload_n 0, 1, (0, 0, 0), 0, 0) := by decide +kernel
set_option maxRecDepth 100000 in
theorem zgv118_1 : zfetch 118 1 = some (.getfield 12, 3, (2, 0, 0), 0, 348) := by decide +kernel
set_option maxRecDepth 100000 in
theorem zgv118_4 : zfetch 118 4 = some (.iload_n 2, 1, (0, 0, 0), 0, 0) := by decide +kernel
set_option maxRecDepth 100000 in
theorem zgv118_5 : zfetch 118 5 = some (.aload_n 1, 1, (0, 0, 0), 0, 0) := by decide +kernel
set_option maxRecDepth 100000 in
theorem zgv118_6 : zfetch 118 6 = some (.getfield 79, 3, (0, 1, 1), 0, 375) := by decide +kernel
set_option maxRecDepth 100000 in
theorem zgv118_9 : zfetch 118 9 = some (.iload_n 2, 1, (0, 0, 0), 0, 0) := by decide +kernel
set_option maxRecDepth 100000 in
theorem zgv118_10 : zfetch 118 10 = some (.iaload, 1, (0, 0, 0), 0, 0) := by decide +kernel
set_option maxRecDepth 100000 in
theorem zgv118_11 : zfetch 118 11 = some (.invokevirtual 82, 3, (0, 173, 1), 0, 645) := by decide +kernel
set_option maxRecDepth 100000 in
theorem zgv118_14 : zfetch 118 14 = some (.istore 4, 2, (0, 0, 0), 0, 0) := by decide +kernel
set_option maxRecDepth 100000 in
theorem zgv118_16 : zfetch 118 16 = some (.aload_n 1, 1, (0, 0, 0), 0, 0) := by decide +kernel
set_option maxRecDepth 100000 in
theorem zgv118_17 : zfetch 118 17 = some (.getfield 79, 3, (0, 1, 1), 0, 375) := by decide +kernel
set_option maxRecDepth 100000 in
theorem zgv118_20 : zfetch 118 20 = some (.iload_n 2, 1, (0, 0, 0), 0, 0) := by decide +kernel
set_option maxRecDepth 100000 in
theorem zgv118_21 : zfetch 118 21 = some (.aload_n 1, 1, (0, 0, 0), 0, 0) := by decide +kernel
set_option maxRecDepth 100000 in
theorem zgv118_22 : zfetch 118 22 = some (.getfield 79, 3, (0, 1, 1), 0, 375) := by decide +kernel
set_option maxRecDepth 100000 in
theorem zgv118_25 : zfetch 118 25 = some (.iload_n 2, 1, (0, 0, 0), 0, 0) := by decide +kernel
set_option maxRecDepth 100000 in
theorem zgv118_26 : zfetch 118 26 = some (.iaload, 1, (0, 0, 0), 0, 0) := by decide +kernel
set_option maxRecDepth 100000 in
theorem zgv118_27 : zfetch 118 27 = some (.iconst 1, 1, (0, 0, 0), 1, 0) := by decide +kernel
set_option maxRecDepth 100000 in
theorem zgv118_28 : zfetch 118 28 = some (.iadd, 1, (0, 0, 0), 0, 0) := by decide +kernel
set_option maxRecDepth 100000 in
theorem zgv118_29 : zfetch 118 29 = some (.aload_n 0, 1, (0, 0, 0), 0, 0) := by decide +kernel
set_option maxRecDepth 100000 in
theorem zgv118_30 : zfetch 118 30 = some (.getfield 12, 3, (2, 0, 0), 0, 348) := by decide +kernel
set_option maxRecDepth 100000 in
theorem zgv118_33 : zfetch 118 33 = some (.getfield 85, 3, (8, 7, 1), 0, 291) := by decide +kernel
set_option maxRecDepth 100000 in
theorem zgv118_36 : zfetch 118 36 = some (.iload_n 2, 1, (0, 0, 0), 0, 0) := by decide +kernel
set_option maxRecDepth 100000 in
theorem zgv118_37 : zfetch 118 37 = some (.iaload, 1, (0, 0, 0), 0, 0) := by decide +kernel
set_option maxRecDepth 100000 in
theorem zgv118_38 : zfetch 118 38 = some (.if_icmp .ge 14, 3, (52, 0, 0), 0, 0) := by decide +kernel
set_option maxRecDepth 100000 in
theorem zgv118_41 : zfetch 118 41 = some (.aload_n 1, 1, (0, 0, 0), 0, 0) := by decide +kernel
set_option maxRecDepth 100000 in
theorem zgv118_42 : zfetch 118 42 = some (.getfield 79, 3, (0, 1, 1), 0, 375) := by decide +kernel
set_option maxRecDepth 100000 in
theorem zgv118_45 : zfetch 118 45 = some (.iload_n 2, 1, (0, 0, 0), 0, 0) := by decide +kernel
set_option maxRecDepth 100000 in
theorem zgv118_46 : zfetch 118 46 = some (.iaload, 1, (0, 0, 0), 0, 0) := by decide +kernel
set_option maxRecDepth 100000 in
theorem zgv118_47 : zfetch 118 47 = some (.iconst 1, 1, (0, 0, 0), 1, 0) := by decide +kernel
set_option maxRecDepth 100000 in
theorem zgv118_48 : zfetch 118 48 = some (.iadd, 1, (0, 0, 0), 0, 0) := by decide +kernel
set_option maxRecDepth 100000 in
theorem zgv118_49 : zfetch 118 49 = some (.goto 4, 3, (53, 0, 0), 0, 0) := by decide +kernel
set_option maxRecDepth 100000 in
theorem zgv118_53 : zfetch 118 53 = some (.iastore, 1, (0, 0, 0), 0, 0) := by decide +kernel
set_option maxRecDepth 100000 in
theorem zgv118_54 : zfetch 118 54 = some (.aload_n 0, 1, (0, 0, 0), 0, 0) := by decide +kernel
set_option maxRecDepth 100000 in
theorem zgv118_55 : zfetch 118 55 = some (.getfield 12, 3, (2, 0, 0), 0, 348) := by decide +kernel
set_option maxRecDepth 100000 in
theorem zgv118_58 : zfetch 118 58 = some (.iload_n 2, 1, (0, 0, 0), 0, 0) := by decide +kernel
set_option maxRecDepth 100000 in
theorem zgv118_59 : zfetch 118 59 = some (.aload_n 1, 1, (0, 0, 0), 0, 0) := by decide +kernel
set_option maxRecDepth 100000 in
theorem zgv118_60 : zfetch 118 60 = some (.getfield 79, 3, (0, 1, 1), 0, 375) := by decide +kernel
set_option maxRecDepth 100000 in
theorem zgv118_63 : zfetch 118 63 = some (.iload_n 2, 1, (0, 0, 0), 0, 0) := by decide +kernel
set_option maxRecDepth 100000 in
theorem zgv118_64 : zfetch 118 64 = some (.iaload, 1, (0, 0, 0), 0, 0) := by decide +kernel
set_option maxRecDepth 100000 in
theorem zgv118_65 : zfetch 118 65 = some (.invokevirtual 82, 3, (0, 173, 1), 0, 645) := by decide +kernel
set_option maxRecDepth 100000 in
theorem zgv118_68 : zfetch 118 68 = some (.istore 5, 2, (0, 0, 0), 0, 0) := by decide +kernel
set_option maxRecDepth 100000 in
theorem zgv118_70 : zfetch 118 70 = some (.iload 4, 2, (0, 0, 0), 0, 0) := by decide +kernel
set_option maxRecDepth 100000 in
theorem zgv118_72 : zfetch 118 72 = some (.iconst (-1), 1, (0, 0, 0), (-1), 0) := by decide +kernel
set_option maxRecDepth 100000 in
theorem zgv118_73 : zfetch 118 73 = some (.if_icmp .eq 9, 3, (82, 0, 0), 0, 0) := by decide +kernel
set_option maxRecDepth 100000 in
theorem zgv118_76 : zfetch 118 76 = some (.iload 5, 2, (0, 0, 0), 0, 0) := by decide +kernel
set_option maxRecDepth 100000 in
theorem zgv118_78 : zfetch 118 78 = some (.iconst (-1), 1, (0, 0, 0), (-1), 0) := by decide +kernel
set_option maxRecDepth 100000 in
theorem zgv118_79 : zfetch 118 79 = some (.if_icmp .ne 5, 3, (84, 0, 0), 0, 0) := by decide +kernel
set_option maxRecDepth 100000 in
theorem zgv118_52 : zfetch 118 52 = some (.iconst 0, 1, (0, 0, 0), 0, 0) := by decide +kernel
set_option maxRecDepth 100000 in
theorem zgv173_0 : zfetch 173 0 = some (.iload_n 2, 1, (0, 0, 0), 0, 0) := by decide +kernel
set_option maxRecDepth 100000 in
theorem zgv173_1 : zfetch 173 1 = some (.ifCond .lt 13, 3, (14, 0, 0), 0, 0) := by decide +kernel
set_option maxRecDepth 100000 in
theorem zgv173_4 : zfetch 173 4 = some (.iload_n 2, 1, (0, 0, 0), 0, 0) := by decide +kernel
set_option maxRecDepth 100000 in
theorem zgv173_5 : zfetch 173 5 = some (.aload_n 0, 1, (0, 0, 0), 0, 0) := by decide +kernel
set_option maxRecDepth 100000 in
theorem zgv173_6 : zfetch 173 6 = some (.getfield 34, 3, (8, 7, 0), 0, 290) := by decide +kernel
set_option maxRecDepth 100000 in
theorem zgv173_9 : zfetch 173 9 = some (.iload_n 1, 1, (0, 0, 0), 0, 0) := by decide +kernel
set_option maxRecDepth 100000 in
theorem zgv173_10 : zfetch 173 10 = some (.iaload, 1, (0, 0, 0), 0, 0) := by decide +kernel
set_option maxRecDepth 100000 in
theorem zgv173_11 : zfetch 173 11 = some (.if_icmp .lt 5, 3, (16, 0, 0), 0, 0) := by decide +kernel
set_option maxRecDepth 100000 in
theorem zgv173_16 : zfetch 173 16 = some (.aload_n 0, 1, (0, 0, 0), 0, 0) := by decide +kernel
set_option maxRecDepth 100000 in
theorem zgv173_17 : zfetch 173 17 = some (.getfield 37, 3, (8, 8, 0), 0, 294) := by decide +kernel
set_option maxRecDepth 100000 in
theorem zgv173_20 : zfetch 173 20 = some (.iload_n 1, 1, (0, 0, 0), 0, 0) := by decide +kernel
set_option maxRecDepth 100000 in
theorem zgv173_21 : zfetch 173 21 = some (.bipush 12, 2, (0, 0, 0), 12, 0) := by decide +kernel
set_option maxRecDepth 100000 in
theorem zgv173_23 : zfetch 173 23 = some (.imul, 1, (0, 0, 0), 0, 0) := by decide +kernel
set_option maxRecDepth 100000 in
theorem zgv173_24 : zfetch 173 24 = some (.iload_n 2, 1, (0, 0, 0), 0, 0) := by decide +kernel
set_option maxRecDepth 100000 in
theorem zgv173_25 : zfetch 173 25 = some (.iadd, 1, (0, 0, 0), 0, 0) := by decide +kernel
set_option maxRecDepth 100000 in
theorem zgv173_26 : zfetch 173 26 = some (.iaload, 1, (0, 0, 0), 0, 0) := by decide +kernel
set_option maxRecDepth 100000 in
theorem zgv173_27 : zfetch 173 27 = some (.ireturn, 1, (0, 0, 0), 0, 0) := by decide +kernel
set_option maxRecDepth 100000 in
theorem zgv118_216 : zfetch 118 216 = some (.aload_n 1, 1, (0, 0, 0), 0, 0) := by decide +kernel
set_option maxRecDepth 100000 in
theorem zgv118_217 : zfetch 118 217 = some (.getfield 48, 3, (0, 3, 1), 0, 384) := by decide +kernel
set_option maxRecDepth 100000 in
theorem zgv118_220 : zfetch 118 220 = some (.iload_n 2, 1, (0, 0, 0), 0, 0) := by decide +kernel
set_option maxRecDepth 100000 in
theorem zgv118_221 : zfetch 118 221 = some (.aload_n 1, 1, (0, 0, 0), 0, 0) := by decide +kernel
set_option maxRecDepth 100000 in
theorem zgv118_222 : zfetch 118 222 = some (.getfield 48, 3, (0, 3, 1), 0, 384) := by decide +kernel
set_option maxRecDepth 100000 in
theorem zgv118_225 : zfetch 118 225 = some (.iload_n 2, 1, (0, 0, 0), 0, 0) := by decide +kernel
set_option maxRecDepth 100000 in
theorem zgv118_226 : zfetch 118 226 = some (.iaload, 1, (0, 0, 0), 0, 0) := by decide +kernel
set_option maxRecDepth 100000 in
theorem zgv118_227 : zfetch 118 227 = some (.iconst 1, 1, (0, 0, 0), 1, 0) := by decide +kernel
set_option maxRecDepth 100000 in
theorem zgv118_228 : zfetch 118 228 = some (.isub, 1, (0, 0, 0), 0, 0) := by decide +kernel
set_option maxRecDepth 100000 in
theorem zgv118_229 : zfetch 118 229 = some (.iconst 0, 1, (0, 0, 0), 0, 0) := by decide +kernel
set_option maxRecDepth 100000 in
theorem zgv118_230 : zfetch 118 230 = some (.invokestatic 110, 3, (3, 0, 0), 0, 703) := by decide +kernel
set_option maxRecDepth 100000 in
theorem zgv118_233 : zfetch 118 233 = some (.iastore, 1, (0, 0, 0), 0, 0) := by decide +kernel
set_option maxRecDepth 100000 in
theorem zgv117_0 : zfetch 117 0 = some (.iconst 0, 1, (0, 0, 0), 0, 0) := by decide +kernel
set_option maxRecDepth 100000 in
theorem zgv117_1 : zfetch 117 1 = some (.istore_n 3, 1, (0, 0, 0), 0, 0) := by decide +kernel
set_option maxRecDepth 100000 in
theorem zgv117_2 : zfetch 117 2 = some (.iconst 0, 1, (0, 0, 0), 0, 0) := by decide +kernel
set_option maxRecDepth 100000 in
theorem zgv117_3 : zfetch 117 3 = some (.istore 4, 2, (0, 0, 0), 0, 0) := by decide +kernel
set_option maxRecDepth 100000 in
theorem zgv117_5 : zfetch 117 5 = some (.iload 4, 2, (0, 0, 0), 0, 0) := by decide +kernel
set_option maxRecDepth 100000 in
theorem zgv117_7 : zfetch 117 7 = some (.aload_n 0, 1, (0, 0, 0), 0, 0) := by decide +kernel
set_option maxRecDepth 100000 in
theorem zgv117_8 : zfetch 117 8 = some (.getfield 12, 3, (2, 0, 0), 0, 348) := by decide +kernel
set_option maxRecDepth 100000 in
theorem zgv117_11 : zfetch 117 11 = some (.getfield 59, 3, (8, 2, 1), 0, 273) := by decide +kernel
set_option maxRecDepth 100000 in
theorem zgv117_14 : zfetch 117 14 = some (.if_icmp .ge 20, 3, (34, 0, 0), 0, 0) := by decide +kernel
set_option maxRecDepth 100000 in
theorem zgv117_17 : zfetch 117 17 = some (.iload_n 3, 1, (0, 0, 0), 0, 0) := by decide +kernel
set_option maxRecDepth 100000 in
theorem zgv117_18 : zfetch 117 18 = some (.aload_n 0, 1, (0, 0, 0), 0, 0) := by decide +kernel
set_option maxRecDepth 100000 in
theorem zgv117_19 : zfetch 117 19 = some (.aload_n 1, 1, (0, 0, 0), 0, 0) := by decide +kernel
set_option maxRecDepth 100000 in
theorem zgv117_20 : zfetch 117 20 = some (.iload 4, 2, (0, 0, 0), 0, 0) := by decide +kernel
set_option maxRecDepth 100000 in
theorem zgv117_22 : zfetch 117 22 = some (.aload_n 2, 1, (0, 0, 0), 0, 0) := by decide +kernel
set_option maxRecDepth 100000 in
theorem zgv117_23 : zfetch 117 23 = some (.invokevirtual 62, 3, (0, 118, 0), 0, 641) := by decide +kernel
set_option maxRecDepth 100000 in
theorem zgv117_26 : zfetch 117 26 = some (.iadd, 1, (0, 0, 0), 0, 0) := by decide +kernel
set_option maxRecDepth 100000 in
theorem zgv117_27 : zfetch 117 27 = some (.istore_n 3, 1, (0, 0, 0), 0, 0) := by decide +kernel
set_option maxRecDepth 100000 in
theorem zgv117_28 : zfetch 117 28 = some (.iinc 4 1, 3, (0, 0, 0), 1, 0) := by decide +kernel
set_option maxRecDepth 100000 in
theorem zgv117_31 : zfetch 117 31 = some (.goto (-26), 3, (5, 0, 0), 0, 0) := by decide +kernel
set_option maxRecDepth 100000 in
theorem zgv117_34 : zfetch 117 34 = some (.iconst 0, 1, (0, 0, 0), 0, 0) := by decide +kernel
set_option maxRecDepth 100000 in
theorem zgv117_35 : zfetch 117 35 = some (.istore 4, 2, (0, 0, 0), 0, 0) := by decide +kernel
set_option maxRecDepth 100000 in
theorem zgv117_97 : zfetch 117 97 = some (.aload_n 1, 1, (0, 0, 0), 0, 0) := by decide +kernel
set_option maxRecDepth 100000 in
theorem zgv117_98 : zfetch 117 98 = some (.dup, 1, (0, 0, 0), 0, 0) := by decide +kernel
set_option maxRecDepth 100000 in
theorem zgv117_99 : zfetch 117 99 = some (.getfield 38, 3, (0, 10, 1), 0, 407) := by decide +kernel
set_option maxRecDepth 100000 in
theorem zgv117_102 : zfetch 117 102 = some (.iconst 1, 1, (0, 0, 0), 1, 0) := by decide +kernel
set_option maxRecDepth 100000 in
theorem zgv117_103 : zfetch 117 103 = some (.iadd, 1, (0, 0, 0), 0, 0) := by decide +kernel
set_option maxRecDepth 100000 in
theorem zgv117_104 : zfetch 117 104 = some (.putfield 38, 3, (0, 10, 1), 0, 407) := by decide +kernel
set_option maxRecDepth 100000 in
theorem zgv117_107 : zfetch 117 107 = some (.iload_n 3, 1, (0, 0, 0), 0, 0) := by decide +kernel
set_option maxRecDepth 100000 in
theorem zgv117_108 : zfetch 117 108 = some (.ireturn, 1, (0, 0, 0), 0, 0) := by decide +kernel
set_option maxRecDepth 100000 in
theorem zgv223_0 : zfetch 223 0 = some (.aload_n 0, 1, (0, 0, 0), 0, 0) := by decide +kernel
set_option maxRecDepth 100000 in
theorem zgv223_1 : zfetch 223 1 = some (.iload_n 1, 1, (0, 0, 0), 0, 0) := by decide +kernel
set_option maxRecDepth 100000 in
theorem zgv223_2 : zfetch 223 2 = some (.iconst 4, 1, (0, 0, 0), 4, 0) := by decide +kernel
set_option maxRecDepth 100000 in
theorem zgv223_3 : zfetch 223 3 = some (.aload_n 0, 1, (0, 0, 0), 0, 0) := by decide +kernel
set_option maxRecDepth 100000 in
theorem zgv223_4 : zfetch 223 4 = some (.iload_n 1, 1, (0, 0, 0), 0, 0) := by decide +kernel
set_option maxRecDepth 100000 in
theorem zgv223_5 : zfetch 223 5 = some (.iconst 0, 1, (0, 0, 0), 0, 0) := by decide +kernel
set_option maxRecDepth 100000 in
theorem zgv223_6 : zfetch 223 6 = some (.invokevirtual 59, 3, (0, 221, 0), 0, 1791) := by decide +kernel
set_option maxRecDepth 100000 in
theorem zgv223_9 : zfetch 223 9 = some (.iadd, 1, (0, 0, 0), 0, 0) := by decide +kernel
set_option maxRecDepth 100000 in
theorem zgv223_10 : zfetch 223 10 = some (.invokevirtual 59, 3, (0, 221, 0), 0, 1791) := by decide +kernel
set_option maxRecDepth 100000 in
theorem zgv223_13 : zfetch 223 13 = some (.ireturn, 1, (0, 0, 0), 0, 0) := by decide +kernel
set_option maxRecDepth 100000 in
theorem zgv282_0 : zfetch 282 0 = some (.aload_n 0, 1, (0, 0, 0), 0, 0) := by decide +kernel
set_option maxRecDepth 100000 in
theorem zgv282_1 : zfetch 282 1 = some (.iload_n 1, 1, (0, 0, 0), 0, 0) := by decide +kernel
set_option maxRecDepth 100000 in
theorem zgv282_2 : zfetch 282 2 = some (.invokevirtual 285, 3, (0, 223, 0), 0, 1917) := by decide +kernel
set_option maxRecDepth 100000 in
theorem zgv282_5 : zfetch 282 5 = some (.istore_n 2, 1, (0, 0, 0), 0, 0) := by decide +kernel
set_option maxRecDepth 100000 in
theorem zgv282_6 : zfetch 282 6 = some (.aload_n 0, 1, (0, 0, 0), 0, 0) := by decide +kernel
set_option maxRecDepth 100000 in
theorem zgv282_7 : zfetch 282 7 = some (.iload_n 1, 1, (0, 0, 0), 0, 0) := by decide +kernel
set_option maxRecDepth 100000 in
theorem zgv282_8 : zfetch 282 8 = some (.iconst 0, 1, (0, 0, 0), 0, 0) := by decide +kernel
set_option maxRecDepth 100000 in
theorem zgv282_9 : zfetch 282 9 = some (.aload_n 0, 1, (0, 0, 0), 0, 0) := by decide +kernel
set_option maxRecDepth 100000 in
theorem zgv282_10 : zfetch 282 10 = some (.iload_n 1, 1, (0, 0, 0), 0, 0) := by decide +kernel
set_option maxRecDepth 100000 in
theorem zgv282_11 : zfetch 282 11 = some (.iconst 0, 1, (0, 0, 0), 0, 0) := by decide +kernel
set_option maxRecDepth 100000 in
theorem zgv282_12 : zfetch 282 12 = some (.invokevirtual 59, 3, (0, 221, 0), 0, 1791) := by decide +kernel
set_option maxRecDepth 100000 in
theorem zgv282_15 : zfetch 282 15 = some (.iconst 1, 1, (0, 0, 0), 1, 0) := by decide +kernel
set_option maxRecDepth 100000 in
theorem zgv282_16 : zfetch 282 16 = some (.iadd, 1, (0, 0, 0), 0, 0) := by decide +kernel
set_option maxRecDepth 100000 in
theorem zgv282_17 : zfetch 282 17 = some (.aload_n 0, 1, (0, 0, 0), 0, 0) := by decide +kernel
set_option maxRecDepth 100000 in
theorem zgv282_18 : zfetch 282 18 = some (.iload_n 1, 1, (0, 0, 0), 0, 0) := by decide +kernel
set_option maxRecDepth 100000 in
theorem zgv282_19 : zfetch 282 19 = some (.iconst 3, 1, (0, 0, 0), 3, 0) := by decide +kernel
set_option maxRecDepth 100000 in
theorem zgv282_20 : zfetch 282 20 = some (.invokevirtual 59, 3, (0, 221, 0), 0, 1791) := by decide +kernel
set_option maxRecDepth 100000 in
theorem zgv282_23 : zfetch 282 23 = some (.irem, 1, (0, 0, 0), 0, 0) := by decide +kernel
set_option maxRecDepth 100000 in
theorem zgv282_24 : zfetch 282 24 = some (.invokevirtual 139, 3, (0, 222, 0), 0, 1784) := by decide +kernel
set_option maxRecDepth 100000 in
theorem zgv282_27 : zfetch 282 27 = some (.aload_n 0, 1, (0, 0, 0), 0, 0) := by decide +kernel
set_option maxRecDepth 100000 in
theorem zgv282_28 : zfetch 282 28 = some (.iload_n 1, 1, (0, 0, 0), 0, 0) := by decide +kernel
set_option maxRecDepth 100000 in
theorem zgv282_29 : zfetch 282 29 = some (.invokevirtual 285, 3, (0, 223, 0), 0, 1917) := by decide +kernel
set_option maxRecDepth 100000 in
theorem zgv282_32 : zfetch 282 32 = some (.istore_n 3, 1, (0, 0, 0), 0, 0) := by decide +kernel
set_option maxRecDepth 100000 in
theorem zgv282_33 : zfetch 282 33 = some (.iload_n 1, 1, (0, 0, 0), 0, 0) := by decide +kernel
set_option maxRecDepth 100000 in
theorem zgv282_34 : zfetch 282 34 = some (.bipush 16, 2, (0, 0, 0), 16, 0) := by decide +kernel
set_option maxRecDepth 100000 in
theorem zgv282_36 : zfetch 282 36 = some (.invokestatic 56, 3, (0, 219, 0), 0, 1788) := by decide +kernel
set_option maxRecDepth 100000 in
theorem zgv282_39 : zfetch 282 39 = some (.istore 4, 2, (0, 0, 0), 0, 0) := by decide +kernel
set_option maxRecDepth 100000 in
theorem zgv282_41 : zfetch 282 41 = some (.iload_n 3, 1, (0, 0, 0), 0, 0) := by decide +kernel
set_option maxRecDepth 100000 in
theorem zgv282_42 : zfetch 282 42 = some (.iconst 3, 1, (0, 0, 0), 3, 0) := by decide +kernel
set_option maxRecDepth 100000 in
theorem zgv282_43 : zfetch 282 43 = some (.invokestatic 52, 3, (0, 218, 0), 0, 1763) := by decide +kernel
set_option maxRecDepth 100000 in
theorem zgv282_46 : zfetch 282 46 = some (.istore 5, 2, (0, 0, 0), 0, 0) := by decide +kernel
set_option maxRecDepth 100000 in
theorem zgv282_217 : zfetch 282 217 = some (.aload_n 0, 1, (0, 0, 0), 0, 0) := by decide +kernel
set_option maxRecDepth 100000 in
theorem zgv282_218 : zfetch 282 218 = some (.iload_n 1, 1, (0, 0, 0), 0, 0) := by decide +kernel
set_option maxRecDepth 100000 in
theorem zgv282_219 : zfetch 282 219 = some (.iconst 2, 1, (0, 0, 0), 2, 0) := by decide +kernel
set_option maxRecDepth 100000 in
theorem zgv282_220 : zfetch 282 220 = some (.iconst 0, 1, (0, 0, 0), 0, 0) := by decide +kernel
set_option maxRecDepth 100000 in
theorem zgv282_221 : zfetch 282 221 = some (.aload_n 0, 1, (0, 0, 0), 0, 0) := by decide +kernel
set_option maxRecDepth 100000 in
theorem zgv282_222 : zfetch 282 222 = some (.iload_n 1, 1, (0, 0, 0), 0, 0) := by decide +kernel
set_option maxRecDepth 100000 in
theorem zgv282_223 : zfetch 282 223 = some (.iconst 2, 1, (0, 0, 0), 2, 0) := by decide +kernel
set_option maxRecDepth 100000 in
theorem zgv282_224 : zfetch 282 224 = some (.invokevirtual 59, 3, (0, 221, 0), 0, 1791) := by decide +kernel
set_option maxRecDepth 100000 in
theorem zgv282_227 : zfetch 282 227 = some (.iconst 1, 1, (0, 0, 0), 1, 0) := by decide +kernel
set_option maxRecDepth 100000 in
theorem zgv282_228 : zfetch 282 228 = some (.isub, 1, (0, 0, 0), 0, 0) := by decide +kernel
set_option maxRecDepth 100000 in
theorem zgv282_229 : zfetch 282 229 = some (.invokestatic 319, 3, (3, 0, 0), 0, 1998) := by decide +kernel
set_option maxRecDepth 100000 in
theorem zgv282_232 : zfetch 282 232 = some (.invokevirtual 139, 3, (0, 222, 0), 0, 1784) := by decide +kernel
set_option maxRecDepth 100000 in
theorem zgv282_235 : zfetch 282 235 = some (.iload 7, 2, (0, 0, 0), 0, 0) := by decide +kernel
set_option maxRecDepth 100000 in
theorem zgv282_237 : zfetch 282 237 = some (.ireturn, 1, (0, 0, 0), 0, 0) := by decide +kernel
set_option maxRecDepth 100000 in
theorem zgv283_0 : zfetch 283 0 = some (.iconst 0, 1, (0, 0, 0), 0, 0) := by decide +kernel
set_option maxRecDepth 100000 in
theorem zgv283_1 : zfetch 283 1 = some (.istore_n 1, 1, (0, 0, 0), 0, 0) := by decide +kernel
set_option maxRecDepth 100000 in
theorem zgv283_2 : zfetch 283 2 = some (.iconst 0, 1, (0, 0, 0), 0, 0) := by decide +kernel
set_option maxRecDepth 100000 in
theorem zgv283_3 : zfetch 283 3 = some (.istore_n 2, 1, (0, 0, 0), 0, 0) := by decide +kernel
set_option maxRecDepth 100000 in
theorem zgv283_4 : zfetch 283 4 = some (.iload_n 2, 1, (0, 0, 0), 0, 0) := by decide +kernel
set_option maxRecDepth 100000 in
theorem zgv283_5 : zfetch 283 5 = some (.aload_n 0, 1, (0, 0, 0), 0, 0) := by decide +kernel
set_option maxRecDepth 100000 in
theorem zgv283_6 : zfetch 283 6 = some (.invokevirtual 74, 3, (0, 217, 0), 0, 1780) := by decide +kernel
set_option maxRecDepth 100000 in
theorem zgv283_9 : zfetch 283 9 = some (.if_icmp .ge 17, 3, (26, 0, 0), 0, 0) := by decide +kernel
set_option maxRecDepth 100000 in
theorem zgv283_12 : zfetch 283 12 = some (.iload_n 1, 1, (0, 0, 0), 0, 0) := by decide +kernel
set_option maxRecDepth 100000 in
theorem zgv283_13 : zfetch 283 13 = some (.aload_n 0, 1, (0, 0, 0), 0, 0) := by decide +kernel
set_option maxRecDepth 100000 in
theorem zgv283_14 : zfetch 283 14 = some (.iload_n 2, 1, (0, 0, 0), 0, 0) := by decide +kernel
set_option maxRecDepth 100000 in
theorem zgv283_15 : zfetch 283 15 = some (.invokevirtual 322, 3, (0, 282, 0), 0, 1977) := by decide +kernel
set_option maxRecDepth 100000 in
theorem zgv283_18 : zfetch 283 18 = some (.iadd, 1, (0, 0, 0), 0, 0) := by decide +kernel
set_option maxRecDepth 100000 in
theorem zgv283_19 : zfetch 283 19 = some (.istore_n 1, 1, (0, 0, 0), 0, 0) := by decide +kernel
set_option maxRecDepth 100000 in
theorem zgv283_20 : zfetch 283 20 = some (.iinc 2 1, 3, (0, 0, 0), 1, 0) := by decide +kernel
set_option maxRecDepth 100000 in
theorem zgv283_23 : zfetch 283 23 = some (.goto (-19), 3, (4, 0, 0), 0, 0) := by decide +kernel
set_option maxRecDepth 100000 in
theorem zgv283_26 : zfetch 283 26 = some (.iconst 0, 1, (0, 0, 0), 0, 0) := by decide +kernel
set_option maxRecDepth 100000 in
theorem zgv283_27 : zfetch 283 27 = some (.istore_n 2, 1, (0, 0, 0), 0, 0) := by decide +kernel
set_option maxRecDepth 100000 in
theorem zgv283_91 : zfetch 283 91 = some (.aload_n 0, 1, (0, 0, 0), 0, 0) := by decide +kernel
set_option maxRecDepth 100000 in
theorem zgv283_92 : zfetch 283 92 = some (.getfield 13, 3, (12, 1, 0), 0, 1618) := by decide +kernel
set_option maxRecDepth 100000 in
theorem zgv283_95 : zfetch 283 95 = some (.iconst 5, 1, (0, 0, 0), 5, 0) := by decide +kernel
set_option maxRecDepth 100000 in
theorem zgv283_96 : zfetch 283 96 = some (.dup2, 1, (0, 0, 0), 0, 0) := by decide +kernel
set_option maxRecDepth 100000 in
theorem zgv283_97 : zfetch 283 97 = some (.iaload, 1, (0, 0, 0), 0, 0) := by decide +kernel
set_option maxRecDepth 100000 in
theorem zgv283_98 : zfetch 283 98 = some (.iconst 1, 1, (0, 0, 0), 1, 0) := by decide +kernel
set_option maxRecDepth 100000 in
theorem zgv283_99 : zfetch 283 99 = some (.iadd, 1, (0, 0, 0), 0, 0) := by decide +kernel
set_option maxRecDepth 100000 in
theorem zgv283_100 : zfetch 283 100 = some (.iastore, 1, (0, 0, 0), 0, 0) := by decide +kernel
set_option maxRecDepth 100000 in
theorem zgv283_101 : zfetch 283 101 = some (.iload_n 1, 1, (0, 0, 0), 0, 0) := by decide +kernel
set_option maxRecDepth 100000 in
theorem zgv283_102 : zfetch 283 102 = some (.ireturn, 1, (0, 0, 0), 0, 0) := by decide +kernel
set_option maxRecDepth 100000 in
theorem znv118 : zat zmi 118 = some (4, 7, 0, 2, 1, 0) := rfl
set_option maxRecDepth 100000 in
theorem znv173 : zat zmi 173 = some (3, 3, 0, 8, 1, 0) := rfl
set_option maxRecDepth 100000 in
theorem znv217 : zat zmi 217 = some (1, 1, 0, 12, 1, 0) := rfl
set_option maxRecDepth 100000 in
theorem znv218 : zat zmi 218 = some (2, 2, 1, 12, 1, 0) := rfl
set_option maxRecDepth 100000 in
theorem znv219 : zat zmi 219 = some (2, 2, 1, 12, 1, 0) := rfl
set_option maxRecDepth 100000 in
theorem znv221 : zat zmi 221 = some (3, 3, 0, 12, 1, 0) := rfl
set_option maxRecDepth 100000 in
theorem znv222 : zat zmi 222 = some (4, 4, 0, 12, 0, 0) := rfl
set_option maxRecDepth 100000 in
theorem znv223 : zat zmi 223 = some (2, 2, 0, 12, 1, 0) := rfl
set_option maxRecDepth 100000 in
theorem znv282 : zat zmi 282 = some (2, 9, 0, 12, 1, 0) := rfl
set_option maxRecDepth 100000 in
theorem gv_a {E : zE} {n d : Nat} {h : zH} {p a b l r : Int32} {P : Nat} (hp : p.toInt = (P : Int)) (hp8 : P < 8) (ha : h.2.1 20 P = a) (he : h.2.1 8 P = l) (hb : b.toInt ≠ (-1 : Int32).toInt) (hr : r.toInt ≠ (-1 : Int32).toInt) (hl : (a + 1).toInt < l.toInt) (hx : (zsetI h 20 (upd (h.2.1 20) P (a + 1))).2.1 20 P = a + 1) (a3 : zat h.1 3 = some (.inr (.inl (2, [some (some 4), some (some 10), some (some 17)])))) (a4 : zat h.1 4 = some (.inr (.inl (8, [none, none, none, none, some (some 5), some (some 6), some (some 7), some (some 8), some (some 9)])))) (a8 : zat h.1 8 = some (.inl (0, 8, []))) (a18 : zat h.1 18 = some (.inr (.inl (0, [some (some 19), some (some 20), some (some 21), some (some 22), some (some 23), some (some 24), none, none, none, none, none, none, none])))) (a20 : zat h.1 20 = some (.inl (0, 8, []))) (e1 : zex E (n + 39) d 173 0 [some (.ref 4), some (.int p), some (.int a)] [] h = some (.inl (some (.int b)), h)) (e2 : zex E (n + 7) d 173 0 [some (.ref 4), some (.int p), some (.int (a + 1))] [] (zsetI h 20 (upd (h.2.1 20) P (a + 1))) = some (.inl (some (.int r)), (zsetI h 20 (upd (h.2.1 20) P (a + 1))))) : zex E (n + 47) (d + 1) 118 0 [some (.ref 3), some (.ref 18), some (.int p), some (.ref 25), none, none, none] [] h = zex E n (d + 1) 118 84 [some (.ref 3), some (.ref 18), some (.int p), some (.ref 25), some (.int b), some (.int r), none] [] (zsetI h 20 (upd (h.2.1 20) P (a + 1))) :=
  ((yAn zgv118_0 rfl rfl) : zex E (n + 47) (d + 1) 118 0 [some (.ref 3), some (.ref 18), some (.int p), some (.ref 25), none, none, none] [] h = zex E (n + 46) (d + 1) 118 1 [some (.ref 3), some (.ref 18), some (.int p), some (.ref 25), none, none, none] [.ref 3] h).trans (((zgx zgv118_1 a3 rfl) : zex E (n + 46) (d + 1) 118 1 [some (.ref 3), some (.ref 18), some (.int p), some (.ref 25), none, none, none] [.ref 3] h = zex E (n + 45) (d + 1) 118 4 [some (.ref 3), some (.ref 18), some (.int p), some (.ref 25), none, none, none] [.ref 4] h).trans (((yIn zgv118_4 rfl) : zex E (n + 45) (d + 1) 118 4 [some (.ref 3), some (.ref 18), some (.int p), some (.ref 25), none, none, none] [.ref 4] h = zex E (n + 44) (d + 1) 118 5 [some (.ref 3), some (.ref 18), some (.int p), some (.ref 25), none, none, none] [.int p, .ref 4] h).trans (((yAn zgv118_5 rfl rfl) : zex E (n + 44) (d + 1) 118 5 [some (.ref 3), some (.ref 18), some (.int p), some (.ref 25), none, none, none] [.int p, .ref 4] h = zex E (n + 43) (d + 1) 118 6 [some (.ref 3), some (.ref 18), some (.int p), some (.ref 25), none, none, none] [.ref 18, .int p, .ref 4] h).trans (((zgx zgv118_6 a18 rfl) : zex E (n + 43) (d + 1) 118 6 [some (.ref 3), some (.ref 18), some (.int p), some (.ref 25), none, none, none] [.ref 18, .int p, .ref 4] h = zex E (n + 42) (d + 1) 118 9 [some (.ref 3), some (.ref 18), some (.int p), some (.ref 25), none, none, none] [.ref 20, .int p, .ref 4] h).trans (((yIn zgv118_9 rfl) : zex E (n + 42) (d + 1) 118 9 [some (.ref 3), some (.ref 18), some (.int p), some (.ref 25), none, none, none] [.ref 20, .int p, .ref 4] h = zex E (n + 41) (d + 1) 118 10 [some (.ref 3), some (.ref 18), some (.int p), some (.ref 25), none, none, none] [.int p, .ref 20, .int p, .ref 4] h).trans (((zlk zgv118_10 a20 hp hp8 ha) : zex E (n + 41) (d + 1) 118 10 [some (.ref 3), some (.ref 18), some (.int p), some (.ref 25), none, none, none] [.int p, .ref 20, .int p, .ref 4] h = zex E (n + 40) (d + 1) 118 11 [some (.ref 3), some (.ref 18), some (.int p), some (.ref 25), none, none, none] [.int a, .int p, .ref 4] h).trans (((zcvg (h := h) (as := [.int p, .int a]) (r := []) zgv118_11 znv173 rfl a4 rfl e1) : zex E (n + 40) (d + 1) 118 11 [some (.ref 3), some (.ref 18), some (.int p), some (.ref 25), none, none, none] [.int a, .int p, .ref 4] h = zex E (n + 39) (d + 1) 118 14 [some (.ref 3), some (.ref 18), some (.int p), some (.ref 25), none, none, none] [.int b] h).trans (((yS zgv118_14) : zex E (n + 39) (d + 1) 118 14 [some (.ref 3), some (.ref 18), some (.int p), some (.ref 25), none, none, none] [.int b] h = zex E (n + 38) (d + 1) 118 16 [some (.ref 3), some (.ref 18), some (.int p), some (.ref 25), some (.int b), none, none] [] h).trans (((yAn zgv118_16 rfl rfl) : zex E (n + 38) (d + 1) 118 16 [some (.ref 3), some (.ref 18), some (.int p), some (.ref 25), some (.int b), none, none] [] h = zex E (n + 37) (d + 1) 118 17 [some (.ref 3), some (.ref 18), some (.int p), some (.ref 25), some (.int b), none, none] [.ref 18] h).trans (((zgx zgv118_17 a18 rfl) : zex E (n + 37) (d + 1) 118 17 [some (.ref 3), some (.ref 18), some (.int p), some (.ref 25), some (.int b), none, none] [.ref 18] h = zex E (n + 36) (d + 1) 118 20 [some (.ref 3), some (.ref 18), some (.int p), some (.ref 25), some (.int b), none, none] [.ref 20] h).trans (((yIn zgv118_20 rfl) : zex E (n + 36) (d + 1) 118 20 [some (.ref 3), some (.ref 18), some (.int p), some (.ref 25), some (.int b), none, none] [.ref 20] h = zex E (n + 35) (d + 1) 118 21 [some (.ref 3), some (.ref 18), some (.int p), some (.ref 25), some (.int b), none, none] [.int p, .ref 20] h).trans (((yAn zgv118_21 rfl rfl) : zex E (n + 35) (d + 1) 118 21 [some (.ref 3), some (.ref 18), some (.int p), some (.ref 25), some (.int b), none, none] [.int p, .ref 20] h = zex E (n + 34) (d + 1) 118 22 [some (.ref 3), some (.ref 18), some (.int p), some (.ref 25), some (.int b), none, none] [.ref 18, .int p, .ref 20] h).trans (((zgx zgv118_22 a18 rfl) : zex E (n + 34) (d + 1) 118 22 [some (.ref 3), some (.ref 18), some (.int p), some (.ref 25), some (.int b), none, none] [.ref 18, .int p, .ref 20] h = zex E (n + 33) (d + 1) 118 25 [some (.ref 3), some (.ref 18), some (.int p), some (.ref 25), some (.int b), none, none] [.ref 20, .int p, .ref 20] h).trans (((yIn zgv118_25 rfl) : zex E (n + 33) (d + 1) 118 25 [some (.ref 3), some (.ref 18), some (.int p), some (.ref 25), some (.int b), none, none] [.ref 20, .int p, .ref 20] h = zex E (n + 32) (d + 1) 118 26 [some (.ref 3), some (.ref 18), some (.int p), some (.ref 25), some (.int b), none, none] [.int p, .ref 20, .int p, .ref 20] h).trans (((zlk zgv118_26 a20 hp hp8 ha) : zex E (n + 32) (d + 1) 118 26 [some (.ref 3), some (.ref 18), some (.int p), some (.ref 25), some (.int b), none, none] [.int p, .ref 20, .int p, .ref 20] h = zex E (n + 31) (d + 1) 118 27 [some (.ref 3), some (.ref 18), some (.int p), some (.ref 25), some (.int b), none, none] [.int a, .int p, .ref 20] h).trans (((yCi zgv118_27) : zex E (n + 31) (d + 1) 118 27 [some (.ref 3), some (.ref 18), some (.int p), some (.ref 25), some (.int b), none, none] [.int a, .int p, .ref 20] h = zex E (n + 30) (d + 1) 118 28 [some (.ref 3), some (.ref 18), some (.int p), some (.ref 25), some (.int b), none, none] [.int 1, .int a, .int p, .ref 20] h).trans (((yAdd zgv118_28) : zex E (n + 30) (d + 1) 118 28 [some (.ref 3), some (.ref 18), some (.int p), some (.ref 25), some (.int b), none, none] [.int 1, .int a, .int p, .ref 20] h = zex E (n + 29) (d + 1) 118 29 [some (.ref 3), some (.ref 18), some (.int p), some (.ref 25), some (.int b), none, none] [.int (a + 1), .int p, .ref 20] h).trans (((yAn zgv118_29 rfl rfl) : zex E (n + 29) (d + 1) 118 29 [some (.ref 3), some (.ref 18), some (.int p), some (.ref 25), some (.int b), none, none] [.int (a + 1), .int p, .ref 20] h = zex E (n + 28) (d + 1) 118 30 [some (.ref 3), some (.ref 18), some (.int p), some (.ref 25), some (.int b), none, none] [.ref 3, .int (a + 1), .int p, .ref 20] h).trans (((zgx zgv118_30 a3 rfl) : zex E (n + 28) (d + 1) 118 30 [some (.ref 3), some (.ref 18), some (.int p), some (.ref 25), some (.int b), none, none] [.ref 3, .int (a + 1), .int p, .ref 20] h = zex E (n + 27) (d + 1) 118 33 [some (.ref 3), some (.ref 18), some (.int p), some (.ref 25), some (.int b), none, none] [.ref 4, .int (a + 1), .int p, .ref 20] h).trans (((zgx zgv118_33 a4 rfl) : zex E (n + 27) (d + 1) 118 33 [some (.ref 3), some (.ref 18), some (.int p), some (.ref 25), some (.int b), none, none] [.ref 4, .int (a + 1), .int p, .ref 20] h = zex E (n + 26) (d + 1) 118 36 [some (.ref 3), some (.ref 18), some (.int p), some (.ref 25), some (.int b), none, none] [.ref 8, .int (a + 1), .int p, .ref 20] h).trans (((yIn zgv118_36 rfl) : zex E (n + 26) (d + 1) 118 36 [some (.ref 3), some (.ref 18), some (.int p), some (.ref 25), some (.int b), none, none] [.ref 8, .int (a + 1), .int p, .ref 20] h = zex E (n + 25) (d + 1) 118 37 [some (.ref 3), some (.ref 18), some (.int p), some (.ref 25), some (.int b), none, none] [.int p, .ref 8, .int (a + 1), .int p, .ref 20] h).trans (((zlk zgv118_37 a8 hp hp8 he) : zex E (n + 25) (d + 1) 118 37 [some (.ref 3), some (.ref 18), some (.int p), some (.ref 25), some (.int b), none, none] [.int p, .ref 8, .int (a + 1), .int p, .ref 20] h = zex E (n + 24) (d + 1) 118 38 [some (.ref 3), some (.ref 18), some (.int p), some (.ref 25), some (.int b), none, none] [.int l, .int (a + 1), .int p, .ref 20] h).trans (((zkgF zgv118_38 hl) : zex E (n + 24) (d + 1) 118 38 [some (.ref 3), some (.ref 18), some (.int p), some (.ref 25), some (.int b), none, none] [.int l, .int (a + 1), .int p, .ref 20] h = zex E (n + 23) (d + 1) 118 41 [some (.ref 3), some (.ref 18), some (.int p), some (.ref 25), some (.int b), none, none] [.int p, .ref 20] h).trans (((yAn zgv118_41 rfl rfl) : zex E (n + 23) (d + 1) 118 41 [some (.ref 3), some (.ref 18), some (.int p), some (.ref 25), some (.int b), none, none] [.int p, .ref 20] h = zex E (n + 22) (d + 1) 118 42 [some (.ref 3), some (.ref 18), some (.int p), some (.ref 25), some (.int b), none, none] [.ref 18, .int p, .ref 20] h).trans (((zgx zgv118_42 a18 rfl) : zex E (n + 22) (d + 1) 118 42 [some (.ref 3), some (.ref 18), some (.int p), some (.ref 25), some (.int b), none, none] [.ref 18, .int p, .ref 20] h = zex E (n + 21) (d + 1) 118 45 [some (.ref 3), some (.ref 18), some (.int p), some (.ref 25), some (.int b), none, none] [.ref 20, .int p, .ref 20] h).trans (((yIn zgv118_45 rfl) : zex E (n + 21) (d + 1) 118 45 [some (.ref 3), some (.ref 18), some (.int p), some (.ref 25), some (.int b), none, none] [.ref 20, .int p, .ref 20] h = zex E (n + 20) (d + 1) 118 46 [some (.ref 3), some (.ref 18), some (.int p), some (.ref 25), some (.int b), none, none] [.int p, .ref 20, .int p, .ref 20] h).trans (((zlk zgv118_46 a20 hp hp8 ha) : zex E (n + 20) (d + 1) 118 46 [some (.ref 3), some (.ref 18), some (.int p), some (.ref 25), some (.int b), none, none] [.int p, .ref 20, .int p, .ref 20] h = zex E (n + 19) (d + 1) 118 47 [some (.ref 3), some (.ref 18), some (.int p), some (.ref 25), some (.int b), none, none] [.int a, .int p, .ref 20] h).trans (((yCi zgv118_47) : zex E (n + 19) (d + 1) 118 47 [some (.ref 3), some (.ref 18), some (.int p), some (.ref 25), some (.int b), none, none] [.int a, .int p, .ref 20] h = zex E (n + 18) (d + 1) 118 48 [some (.ref 3), some (.ref 18), some (.int p), some (.ref 25), some (.int b), none, none] [.int 1, .int a, .int p, .ref 20] h).trans (((yAdd zgv118_48) : zex E (n + 18) (d + 1) 118 48 [some (.ref 3), some (.ref 18), some (.int p), some (.ref 25), some (.int b), none, none] [.int 1, .int a, .int p, .ref 20] h = zex E (n + 17) (d + 1) 118 49 [some (.ref 3), some (.ref 18), some (.int p), some (.ref 25), some (.int b), none, none] [.int (a + 1), .int p, .ref 20] h).trans (((yGo zgv118_49) : zex E (n + 17) (d + 1) 118 49 [some (.ref 3), some (.ref 18), some (.int p), some (.ref 25), some (.int b), none, none] [.int (a + 1), .int p, .ref 20] h = zex E (n + 16) (d + 1) 118 53 [some (.ref 3), some (.ref 18), some (.int p), some (.ref 25), some (.int b), none, none] [.int (a + 1), .int p, .ref 20] h).trans (((zsk zgv118_53 a20 hp hp8) : zex E (n + 16) (d + 1) 118 53 [some (.ref 3), some (.ref 18), some (.int p), some (.ref 25), some (.int b), none, none] [.int (a + 1), .int p, .ref 20] h = zex E (n + 15) (d + 1) 118 54 [some (.ref 3), some (.ref 18), some (.int p), some (.ref 25), some (.int b), none, none] [] (zsetI h 20 (upd (h.2.1 20) P (a + 1)))).trans (((yAn zgv118_54 rfl rfl) : zex E (n + 15) (d + 1) 118 54 [some (.ref 3), some (.ref 18), some (.int p), some (.ref 25), some (.int b), none, none] [] (zsetI h 20 (upd (h.2.1 20) P (a + 1))) = zex E (n + 14) (d + 1) 118 55 [some (.ref 3), some (.ref 18), some (.int p), some (.ref 25), some (.int b), none, none] [.ref 3] (zsetI h 20 (upd (h.2.1 20) P (a + 1)))).trans (((zgx zgv118_55 a3 rfl) : zex E (n + 14) (d + 1) 118 55 [some (.ref 3), some (.ref 18), some (.int p), some (.ref 25), some (.int b), none, none] [.ref 3] (zsetI h 20 (upd (h.2.1 20) P (a + 1))) = zex E (n + 13) (d + 1) 118 58 [some (.ref 3), some (.ref 18), some (.int p), some (.ref 25), some (.int b), none, none] [.ref 4] (zsetI h 20 (upd (h.2.1 20) P (a + 1)))).trans (((yIn zgv118_58 rfl) : zex E (n + 13) (d + 1) 118 58 [some (.ref 3), some (.ref 18), some (.int p), some (.ref 25), some (.int b), none, none] [.ref 4] (zsetI h 20 (upd (h.2.1 20) P (a + 1))) = zex E (n + 12) (d + 1) 118 59 [some (.ref 3), some (.ref 18), some (.int p), some (.ref 25), some (.int b), none, none] [.int p, .ref 4] (zsetI h 20 (upd (h.2.1 20) P (a + 1)))).trans (((yAn zgv118_59 rfl rfl) : zex E (n + 12) (d + 1) 118 59 [some (.ref 3), some (.ref 18), some (.int p), some (.ref 25), some (.int b), none, none] [.int p, .ref 4] (zsetI h 20 (upd (h.2.1 20) P (a + 1))) = zex E (n + 11) (d + 1) 118 60 [some (.ref 3), some (.ref 18), some (.int p), some (.ref 25), some (.int b), none, none] [.ref 18, .int p, .ref 4] (zsetI h 20 (upd (h.2.1 20) P (a + 1)))).trans (((zgx zgv118_60 a18 rfl) : zex E (n + 11) (d + 1) 118 60 [some (.ref 3), some (.ref 18), some (.int p), some (.ref 25), some (.int b), none, none] [.ref 18, .int p, .ref 4] (zsetI h 20 (upd (h.2.1 20) P (a + 1))) = zex E (n + 10) (d + 1) 118 63 [some (.ref 3), some (.ref 18), some (.int p), some (.ref 25), some (.int b), none, none] [.ref 20, .int p, .ref 4] (zsetI h 20 (upd (h.2.1 20) P (a + 1)))).trans (((yIn zgv118_63 rfl) : zex E (n + 10) (d + 1) 118 63 [some (.ref 3), some (.ref 18), some (.int p), some (.ref 25), some (.int b), none, none] [.ref 20, .int p, .ref 4] (zsetI h 20 (upd (h.2.1 20) P (a + 1))) = zex E (n + 9) (d + 1) 118 64 [some (.ref 3), some (.ref 18), some (.int p), some (.ref 25), some (.int b), none, none] [.int p, .ref 20, .int p, .ref 4] (zsetI h 20 (upd (h.2.1 20) P (a + 1)))).trans (((zlk zgv118_64 a20 hp hp8 hx) : zex E (n + 9) (d + 1) 118 64 [some (.ref 3), some (.ref 18), some (.int p), some (.ref 25), some (.int b), none, none] [.int p, .ref 20, .int p, .ref 4] (zsetI h 20 (upd (h.2.1 20) P (a + 1))) = zex E (n + 8) (d + 1) 118 65 [some (.ref 3), some (.ref 18), some (.int p), some (.ref 25), some (.int b), none, none] [.int (a + 1), .int p, .ref 4] (zsetI h 20 (upd (h.2.1 20) P (a + 1)))).trans (((zcvg (h := (zsetI h 20 (upd (h.2.1 20) P (a + 1)))) (as := [.int p, .int (a + 1)]) (r := []) zgv118_65 znv173 rfl a4 rfl e2) : zex E (n + 8) (d + 1) 118 65 [some (.ref 3), some (.ref 18), some (.int p), some (.ref 25), some (.int b), none, none] [.int (a + 1), .int p, .ref 4] (zsetI h 20 (upd (h.2.1 20) P (a + 1))) = zex E (n + 7) (d + 1) 118 68 [some (.ref 3), some (.ref 18), some (.int p), some (.ref 25), some (.int b), none, none] [.int r] (zsetI h 20 (upd (h.2.1 20) P (a + 1)))).trans (((yS zgv118_68) : zex E (n + 7) (d + 1) 118 68 [some (.ref 3), some (.ref 18), some (.int p), some (.ref 25), some (.int b), none, none] [.int r] (zsetI h 20 (upd (h.2.1 20) P (a + 1))) = zex E (n + 6) (d + 1) 118 70 [some (.ref 3), some (.ref 18), some (.int p), some (.ref 25), some (.int b), some (.int r), none] [] (zsetI h 20 (upd (h.2.1 20) P (a + 1)))).trans (((yI zgv118_70 rfl) : zex E (n + 6) (d + 1) 118 70 [some (.ref 3), some (.ref 18), some (.int p), some (.ref 25), some (.int b), some (.int r), none] [] (zsetI h 20 (upd (h.2.1 20) P (a + 1))) = zex E (n + 5) (d + 1) 118 72 [some (.ref 3), some (.ref 18), some (.int p), some (.ref 25), some (.int b), some (.int r), none] [.int b] (zsetI h 20 (upd (h.2.1 20) P (a + 1)))).trans (((yCi zgv118_72) : zex E (n + 5) (d + 1) 118 72 [some (.ref 3), some (.ref 18), some (.int p), some (.ref 25), some (.int b), some (.int r), none] [.int b] (zsetI h 20 (upd (h.2.1 20) P (a + 1))) = zex E (n + 4) (d + 1) 118 73 [some (.ref 3), some (.ref 18), some (.int p), some (.ref 25), some (.int b), some (.int r), none] [.int (-1), .int b] (zsetI h 20 (upd (h.2.1 20) P (a + 1)))).trans (((zkeF zgv118_73 hb) : zex E (n + 4) (d + 1) 118 73 [some (.ref 3), some (.ref 18), some (.int p), some (.ref 25), some (.int b), some (.int r), none] [.int (-1), .int b] (zsetI h 20 (upd (h.2.1 20) P (a + 1))) = zex E (n + 3) (d + 1) 118 76 [some (.ref 3), some (.ref 18), some (.int p), some (.ref 25), some (.int b), some (.int r), none] [] (zsetI h 20 (upd (h.2.1 20) P (a + 1)))).trans (((yI zgv118_76 rfl) : zex E (n + 3) (d + 1) 118 76 [some (.ref 3), some (.ref 18), some (.int p), some (.ref 25), some (.int b), some (.int r), none] [] (zsetI h 20 (upd (h.2.1 20) P (a + 1))) = zex E (n + 2) (d + 1) 118 78 [some (.ref 3), some (.ref 18), some (.int p), some (.ref 25), some (.int b), some (.int r), none] [.int r] (zsetI h 20 (upd (h.2.1 20) P (a + 1)))).trans (((yCi zgv118_78) : zex E (n + 2) (d + 1) 118 78 [some (.ref 3), some (.ref 18), some (.int p), some (.ref 25), some (.int b), some (.int r), none] [.int r] (zsetI h 20 (upd (h.2.1 20) P (a + 1))) = zex E (n + 1) (d + 1) 118 79 [some (.ref 3), some (.ref 18), some (.int p), some (.ref 25), some (.int b), some (.int r), none] [.int (-1), .int r] (zsetI h 20 (upd (h.2.1 20) P (a + 1)))).trans (((zknT zgv118_79 hr) : zex E (n + 1) (d + 1) 118 79 [some (.ref 3), some (.ref 18), some (.int p), some (.ref 25), some (.int b), some (.int r), none] [.int (-1), .int r] (zsetI h 20 (upd (h.2.1 20) P (a + 1))) = zex E n (d + 1) 118 84 [some (.ref 3), some (.ref 18), some (.int p), some (.ref 25), some (.int b), some (.int r), none] [] (zsetI h 20 (upd (h.2.1 20) P (a + 1))))))))))))))))))))))))))))))))))))))))))))))))))
set_option maxRecDepth 100000 in
theorem gv_b {E : zE} {n d : Nat} {h : zH} {p a b l r : Int32} {P : Nat} (hp : p.toInt = (P : Int)) (hp8 : P < 8) (ha : h.2.1 20 P = a) (he : h.2.1 8 P = l) (hb : b.toInt ≠ (-1 : Int32).toInt) (hr : r.toInt ≠ (-1 : Int32).toInt) (hl : l.toInt ≤ (a + 1).toInt) (hx : (zsetI h 20 (upd (h.2.1 20) P 0)).2.1 20 P = 0) (a3 : zat h.1 3 = some (.inr (.inl (2, [some (some 4), some (some 10), some (some 17)])))) (a4 : zat h.1 4 = some (.inr (.inl (8, [none, none, none, none, some (some 5), some (some 6), some (some 7), some (some 8), some (some 9)])))) (a8 : zat h.1 8 = some (.inl (0, 8, []))) (a18 : zat h.1 18 = some (.inr (.inl (0, [some (some 19), some (some 20), some (some 21), some (some 22), some (some 23), some (some 24), none, none, none, none, none, none, none])))) (a20 : zat h.1 20 = some (.inl (0, 8, []))) (e1 : zex E (n + 33) d 173 0 [some (.ref 4), some (.int p), some (.int a)] [] h = some (.inl (some (.int b)), h)) (e2 : zex E (n + 7) d 173 0 [some (.ref 4), some (.int p), some (.int 0)] [] (zsetI h 20 (upd (h.2.1 20) P 0)) = some (.inl (some (.int r)), (zsetI h 20 (upd (h.2.1 20) P 0)))) : zex E (n + 41) (d + 1) 118 0 [some (.ref 3), some (.ref 18), some (.int p), some (.ref 25), none, none, none] [] h = zex E n (d + 1) 118 84 [some (.ref 3), some (.ref 18), some (.int p), some (.ref 25), some (.int b), some (.int r), none] [] (zsetI h 20 (upd (h.2.1 20) P 0)) :=
  ((yAn zgv118_0 rfl rfl) : zex E (n + 41) (d + 1) 118 0 [some (.ref 3), some (.ref 18), some (.int p), some (.ref 25), none, none, none] [] h = zex E (n + 40) (d + 1) 118 1 [some (.ref 3), some (.ref 18), some (.int p), some (.ref 25), none, none, none] [.ref 3] h).trans (((zgx zgv118_1 a3 rfl) : zex E (n + 40) (d + 1) 118 1 [some (.ref 3), some (.ref 18), some (.int p), some (.ref 25), none, none, none] [.ref 3] h = zex E (n + 39) (d + 1) 118 4 [some (.ref 3), some (.ref 18), some (.int p), some (.ref 25), none, none, none] [.ref 4] h).trans (((yIn zgv118_4 rfl) : zex E (n + 39) (d + 1) 118 4 [some (.ref 3), some (.ref 18), some (.int p), some (.ref 25), none, none, none] [.ref 4] h = zex E (n + 38) (d + 1) 118 5 [some (.ref 3), some (.ref 18), some (.int p), some (.ref 25), none, none, none] [.int p, .ref 4] h).trans (((yAn zgv118_5 rfl rfl) : zex E (n + 38) (d + 1) 118 5 [some (.ref 3), some (.ref 18), some (.int p), some (.ref 25), none, none, none] [.int p, .ref 4] h = zex E (n + 37) (d + 1) 118 6 [some (.ref 3), some (.ref 18), some (.int p), some (.ref 25), none, none, none] [.ref 18, .int p, .ref 4] h).trans (((zgx zgv118_6 a18 rfl) : zex E (n + 37) (d + 1) 118 6 [some (.ref 3), some (.ref 18), some (.int p), some (.ref 25), none, none, none] [.ref 18, .int p, .ref 4] h = zex E (n + 36) (d + 1) 118 9 [some (.ref 3), some (.ref 18), some (.int p), some (.ref 25), none, none, none] [.ref 20, .int p, .ref 4] h).trans (((yIn zgv118_9 rfl) : zex E (n + 36) (d + 1) 118 9 [some (.ref 3), some (.ref 18), some (.int p), some (.ref 25), none, none, none] [.ref 20, .int p, .ref 4] h = zex E (n + 35) (d + 1) 118 10 [some (.ref 3), some (.ref 18), some (.int p), some (.ref 25), none, none, none] [.int p, .ref 20, .int p, .ref 4] h).trans (((zlk zgv118_10 a20 hp hp8 ha) : zex E (n + 35) (d + 1) 118 10 [some (.ref 3), some (.ref 18), some (.int p), some (.ref 25), none, none, none] [.int p, .ref 20, .int p, .ref 4] h = zex E (n + 34) (d + 1) 118 11 [some (.ref 3), some (.ref 18), some (.int p), some (.ref 25), none, none, none] [.int a, .int p, .ref 4] h).trans (((zcvg (h := h) (as := [.int p, .int a]) (r := []) zgv118_11 znv173 rfl a4 rfl e1) : zex E (n + 34) (d + 1) 118 11 [some (.ref 3), some (.ref 18), some (.int p), some (.ref 25), none, none, none] [.int a, .int p, .ref 4] h = zex E (n + 33) (d + 1) 118 14 [some (.ref 3), some (.ref 18), some (.int p), some (.ref 25), none, none, none] [.int b] h).trans (((yS zgv118_14) : zex E (n + 33) (d + 1) 118 14 [some (.ref 3), some (.ref 18), some (.int p), some (.ref 25), none, none, none] [.int b] h = zex E (n + 32) (d + 1) 118 16 [some (.ref 3), some (.ref 18), some (.int p), some (.ref 25), some (.int b), none, none] [] h).trans (((yAn zgv118_16 rfl rfl) : zex E (n + 32) (d + 1) 118 16 [some (.ref 3), some (.ref 18), some (.int p), some (.ref 25), some (.int b), none, none] [] h = zex E (n + 31) (d + 1) 118 17 [some (.ref 3), some (.ref 18), some (.int p), some (.ref 25), some (.int b), none, none] [.ref 18] h).trans (((zgx zgv118_17 a18 rfl) : zex E (n + 31) (d + 1) 118 17 [some (.ref 3), some (.ref 18), some (.int p), some (.ref 25), some (.int b), none, none] [.ref 18] h = zex E (n + 30) (d + 1) 118 20 [some (.ref 3), some (.ref 18), some (.int p), some (.ref 25), some (.int b), none, none] [.ref 20] h).trans (((yIn zgv118_20 rfl) : zex E (n + 30) (d + 1) 118 20 [some (.ref 3), some (.ref 18), some (.int p), some (.ref 25), some (.int b), none, none] [.ref 20] h = zex E (n + 29) (d + 1) 118 21 [some (.ref 3), some (.ref 18), some (.int p), some (.ref 25), some (.int b), none, none] [.int p, .ref 20] h).trans (((yAn zgv118_21 rfl rfl) : zex E (n + 29) (d + 1) 118 21 [some (.ref 3), some (.ref 18), some (.int p), some (.ref 25), some (.int b), none, none] [.int p, .ref 20] h = zex E (n + 28) (d + 1) 118 22 [some (.ref 3), some (.ref 18), some (.int p), some (.ref 25), some (.int b), none, none] [.ref 18, .int p, .ref 20] h).trans (((zgx zgv118_22 a18 rfl) : zex E (n + 28) (d + 1) 118 22 [some (.ref 3), some (.ref 18), some (.int p), some (.ref 25), some (.int b), none, none] [.ref 18, .int p, .ref 20] h = zex E (n + 27) (d + 1) 118 25 [some (.ref 3), some (.ref 18), some (.int p), some (.ref 25), some (.int b), none, none] [.ref 20, .int p, .ref 20] h).trans (((yIn zgv118_25 rfl) : zex E (n + 27) (d + 1) 118 25 [some (.ref 3), some (.ref 18), some (.int p), some (.ref 25), some (.int b), none, none] [.ref 20, .int p, .ref 20] h = zex E (n + 26) (d + 1) 118 26 [some (.ref 3), some (.ref 18), some (.int p), some (.ref 25), some (.int b), none, none] [.int p, .ref 20, .int p, .ref 20] h).trans (((zlk zgv118_26 a20 hp hp8 ha) : zex E (n + 26) (d + 1) 118 26 [some (.ref 3), some (.ref 18), some (.int p), some (.ref 25), some (.int b), none, none] [.int p, .ref 20, .int p, .ref 20] h = zex E (n + 25) (d + 1) 118 27 [some (.ref 3), some (.ref 18), some (.int p), some (.ref 25), some (.int b), none, none] [.int a, .int p, .ref 20] h).trans (((yCi zgv118_27) : zex E (n + 25) (d + 1) 118 27 [some (.ref 3), some (.ref 18), some (.int p), some (.ref 25), some (.int b), none, none] [.int a, .int p, .ref 20] h = zex E (n + 24) (d + 1) 118 28 [some (.ref 3), some (.ref 18), some (.int p), some (.ref 25), some (.int b), none, none] [.int 1, .int a, .int p, .ref 20] h).trans (((yAdd zgv118_28) : zex E (n + 24) (d + 1) 118 28 [some (.ref 3), some (.ref 18), some (.int p), some (.ref 25), some (.int b), none, none] [.int 1, .int a, .int p, .ref 20] h = zex E (n + 23) (d + 1) 118 29 [some (.ref 3), some (.ref 18), some (.int p), some (.ref 25), some (.int b), none, none] [.int (a + 1), .int p, .ref 20] h).trans (((yAn zgv118_29 rfl rfl) : zex E (n + 23) (d + 1) 118 29 [some (.ref 3), some (.ref 18), some (.int p), some (.ref 25), some (.int b), none, none] [.int (a + 1), .int p, .ref 20] h = zex E (n + 22) (d + 1) 118 30 [some (.ref 3), some (.ref 18), some (.int p), some (.ref 25), some (.int b), none, none] [.ref 3, .int (a + 1), .int p, .ref 20] h).trans (((zgx zgv118_30 a3 rfl) : zex E (n + 22) (d + 1) 118 30 [some (.ref 3), some (.ref 18), some (.int p), some (.ref 25), some (.int b), none, none] [.ref 3, .int (a + 1), .int p, .ref 20] h = zex E (n + 21) (d + 1) 118 33 [some (.ref 3), some (.ref 18), some (.int p), some (.ref 25), some (.int b), none, none] [.ref 4, .int (a + 1), .int p, .ref 20] h).trans (((zgx zgv118_33 a4 rfl) : zex E (n + 21) (d + 1) 118 33 [some (.ref 3), some (.ref 18), some (.int p), some (.ref 25), some (.int b), none, none] [.ref 4, .int (a + 1), .int p, .ref 20] h = zex E (n + 20) (d + 1) 118 36 [some (.ref 3), some (.ref 18), some (.int p), some (.ref 25), some (.int b), none, none] [.ref 8, .int (a + 1), .int p, .ref 20] h).trans (((yIn zgv118_36 rfl) : zex E (n + 20) (d + 1) 118 36 [some (.ref 3), some (.ref 18), some (.int p), some (.ref 25), some (.int b), none, none] [.ref 8, .int (a + 1), .int p, .ref 20] h = zex E (n + 19) (d + 1) 118 37 [some (.ref 3), some (.ref 18), some (.int p), some (.ref 25), some (.int b), none, none] [.int p, .ref 8, .int (a + 1), .int p, .ref 20] h).trans (((zlk zgv118_37 a8 hp hp8 he) : zex E (n + 19) (d + 1) 118 37 [some (.ref 3), some (.ref 18), some (.int p), some (.ref 25), some (.int b), none, none] [.int p, .ref 8, .int (a + 1), .int p, .ref 20] h = zex E (n + 18) (d + 1) 118 38 [some (.ref 3), some (.ref 18), some (.int p), some (.ref 25), some (.int b), none, none] [.int l, .int (a + 1), .int p, .ref 20] h).trans (((zkgT zgv118_38 hl) : zex E (n + 18) (d + 1) 118 38 [some (.ref 3), some (.ref 18), some (.int p), some (.ref 25), some (.int b), none, none] [.int l, .int (a + 1), .int p, .ref 20] h = zex E (n + 17) (d + 1) 118 52 [some (.ref 3), some (.ref 18), some (.int p), some (.ref 25), some (.int b), none, none] [.int p, .ref 20] h).trans (((yCi zgv118_52) : zex E (n + 17) (d + 1) 118 52 [some (.ref 3), some (.ref 18), some (.int p), some (.ref 25), some (.int b), none, none] [.int p, .ref 20] h = zex E (n + 16) (d + 1) 118 53 [some (.ref 3), some (.ref 18), some (.int p), some (.ref 25), some (.int b), none, none] [.int 0, .int p, .ref 20] h).trans (((zsk zgv118_53 a20 hp hp8) : zex E (n + 16) (d + 1) 118 53 [some (.ref 3), some (.ref 18), some (.int p), some (.ref 25), some (.int b), none, none] [.int 0, .int p, .ref 20] h = zex E (n + 15) (d + 1) 118 54 [some (.ref 3), some (.ref 18), some (.int p), some (.ref 25), some (.int b), none, none] [] (zsetI h 20 (upd (h.2.1 20) P 0))).trans (((yAn zgv118_54 rfl rfl) : zex E (n + 15) (d + 1) 118 54 [some (.ref 3), some (.ref 18), some (.int p), some (.ref 25), some (.int b), none, none] [] (zsetI h 20 (upd (h.2.1 20) P 0)) = zex E (n + 14) (d + 1) 118 55 [some (.ref 3), some (.ref 18), some (.int p), some (.ref 25), some (.int b), none, none] [.ref 3] (zsetI h 20 (upd (h.2.1 20) P 0))).trans (((zgx zgv118_55 a3 rfl) : zex E (n + 14) (d + 1) 118 55 [some (.ref 3), some (.ref 18), some (.int p), some (.ref 25), some (.int b), none, none] [.ref 3] (zsetI h 20 (upd (h.2.1 20) P 0)) = zex E (n + 13) (d + 1) 118 58 [some (.ref 3), some (.ref 18), some (.int p), some (.ref 25), some (.int b), none, none] [.ref 4] (zsetI h 20 (upd (h.2.1 20) P 0))).trans (((yIn zgv118_58 rfl) : zex E (n + 13) (d + 1) 118 58 [some (.ref 3), some (.ref 18), some (.int p), some (.ref 25), some (.int b), none, none] [.ref 4] (zsetI h 20 (upd (h.2.1 20) P 0)) = zex E (n + 12) (d + 1) 118 59 [some (.ref 3), some (.ref 18), some (.int p), some (.ref 25), some (.int b), none, none] [.int p, .ref 4] (zsetI h 20 (upd (h.2.1 20) P 0))).trans (((yAn zgv118_59 rfl rfl) : zex E (n + 12) (d + 1) 118 59 [some (.ref 3), some (.ref 18), some (.int p), some (.ref 25), some (.int b), none, none] [.int p, .ref 4] (zsetI h 20 (upd (h.2.1 20) P 0)) = zex E (n + 11) (d + 1) 118 60 [some (.ref 3), some (.ref 18), some (.int p), some (.ref 25), some (.int b), none, none] [.ref 18, .int p, .ref 4] (zsetI h 20 (upd (h.2.1 20) P 0))).trans (((zgx zgv118_60 a18 rfl) : zex E (n + 11) (d + 1) 118 60 [some (.ref 3), some (.ref 18), some (.int p), some (.ref 25), some (.int b), none, none] [.ref 18, .int p, .ref 4] (zsetI h 20 (upd (h.2.1 20) P 0)) = zex E (n + 10) (d + 1) 118 63 [some (.ref 3), some (.ref 18), some (.int p), some (.ref 25), some (.int b), none, none] [.ref 20, .int p, .ref 4] (zsetI h 20 (upd (h.2.1 20) P 0))).trans (((yIn zgv118_63 rfl) : zex E (n + 10) (d + 1) 118 63 [some (.ref 3), some (.ref 18), some (.int p), some (.ref 25), some (.int b), none, none] [.ref 20, .int p, .ref 4] (zsetI h 20 (upd (h.2.1 20) P 0)) = zex E (n + 9) (d + 1) 118 64 [some (.ref 3), some (.ref 18), some (.int p), some (.ref 25), some (.int b), none, none] [.int p, .ref 20, .int p, .ref 4] (zsetI h 20 (upd (h.2.1 20) P 0))).trans (((zlk zgv118_64 a20 hp hp8 hx) : zex E (n + 9) (d + 1) 118 64 [some (.ref 3), some (.ref 18), some (.int p), some (.ref 25), some (.int b), none, none] [.int p, .ref 20, .int p, .ref 4] (zsetI h 20 (upd (h.2.1 20) P 0)) = zex E (n + 8) (d + 1) 118 65 [some (.ref 3), some (.ref 18), some (.int p), some (.ref 25), some (.int b), none, none] [.int 0, .int p, .ref 4] (zsetI h 20 (upd (h.2.1 20) P 0))).trans (((zcvg (h := (zsetI h 20 (upd (h.2.1 20) P 0))) (as := [.int p, .int 0]) (r := []) zgv118_65 znv173 rfl a4 rfl e2) : zex E (n + 8) (d + 1) 118 65 [some (.ref 3), some (.ref 18), some (.int p), some (.ref 25), some (.int b), none, none] [.int 0, .int p, .ref 4] (zsetI h 20 (upd (h.2.1 20) P 0)) = zex E (n + 7) (d + 1) 118 68 [some (.ref 3), some (.ref 18), some (.int p), some (.ref 25), some (.int b), none, none] [.int r] (zsetI h 20 (upd (h.2.1 20) P 0))).trans (((yS zgv118_68) : zex E (n + 7) (d + 1) 118 68 [some (.ref 3), some (.ref 18), some (.int p), some (.ref 25), some (.int b), none, none] [.int r] (zsetI h 20 (upd (h.2.1 20) P 0)) = zex E (n + 6) (d + 1) 118 70 [some (.ref 3), some (.ref 18), some (.int p), some (.ref 25), some (.int b), some (.int r), none] [] (zsetI h 20 (upd (h.2.1 20) P 0))).trans (((yI zgv118_70 rfl) : zex E (n + 6) (d + 1) 118 70 [some (.ref 3), some (.ref 18), some (.int p), some (.ref 25), some (.int b), some (.int r), none] [] (zsetI h 20 (upd (h.2.1 20) P 0)) = zex E (n + 5) (d + 1) 118 72 [some (.ref 3), some (.ref 18), some (.int p), some (.ref 25), some (.int b), some (.int r), none] [.int b] (zsetI h 20 (upd (h.2.1 20) P 0))).trans (((yCi zgv118_72) : zex E (n + 5) (d + 1) 118 72 [some (.ref 3), some (.ref 18), some (.int p), some (.ref 25), some (.int b), some (.int r), none] [.int b] (zsetI h 20 (upd (h.2.1 20) P 0)) = zex E (n + 4) (d + 1) 118 73 [some (.ref 3), some (.ref 18), some (.int p), some (.ref 25), some (.int b), some (.int r), none] [.int (-1), .int b] (zsetI h 20 (upd (h.2.1 20) P 0))).trans (((zkeF zgv118_73 hb) : zex E (n + 4) (d + 1) 118 73 [some (.ref 3), some (.ref 18), some (.int p), some (.ref 25), some (.int b), some (.int r), none] [.int (-1), .int b] (zsetI h 20 (upd (h.2.1 20) P 0)) = zex E (n + 3) (d + 1) 118 76 [some (.ref 3), some (.ref 18), some (.int p), some (.ref 25), some (.int b), some (.int r), none] [] (zsetI h 20 (upd (h.2.1 20) P 0))).trans (((yI zgv118_76 rfl) : zex E (n + 3) (d + 1) 118 76 [some (.ref 3), some (.ref 18), some (.int p), some (.ref 25), some (.int b), some (.int r), none] [] (zsetI h 20 (upd (h.2.1 20) P 0)) = zex E (n + 2) (d + 1) 118 78 [some (.ref 3), some (.ref 18), some (.int p), some (.ref 25), some (.int b), some (.int r), none] [.int r] (zsetI h 20 (upd (h.2.1 20) P 0))).trans (((yCi zgv118_78) : zex E (n + 2) (d + 1) 118 78 [some (.ref 3), some (.ref 18), some (.int p), some (.ref 25), some (.int b), some (.int r), none] [.int r] (zsetI h 20 (upd (h.2.1 20) P 0)) = zex E (n + 1) (d + 1) 118 79 [some (.ref 3), some (.ref 18), some (.int p), some (.ref 25), some (.int b), some (.int r), none] [.int (-1), .int r] (zsetI h 20 (upd (h.2.1 20) P 0))).trans (((zknT zgv118_79 hr) : zex E (n + 1) (d + 1) 118 79 [some (.ref 3), some (.ref 18), some (.int p), some (.ref 25), some (.int b), some (.int r), none] [.int (-1), .int r] (zsetI h 20 (upd (h.2.1 20) P 0)) = zex E n (d + 1) 118 84 [some (.ref 3), some (.ref 18), some (.int p), some (.ref 25), some (.int b), some (.int r), none] [] (zsetI h 20 (upd (h.2.1 20) P 0)))))))))))))))))))))))))))))))))))))))))))
set_option maxRecDepth 100000 in
theorem gv_z1 {E : zE} {n d : Nat} {h : zH} {p k v w : Int32} {P J : Nat} (h0 : 0 ≤ k.toInt) (hp : p.toInt = (P : Int)) (hp8 : P < 8) (hv : h.2.1 8 P = v) (h1 : k.toInt < v.toInt) (hj : (p * 12 + k).toInt = (J : Int)) (hj9 : J < 96) (hw : h.2.1 9 J = w) (a4 : zat h.1 4 = some (.inr (.inl (8, [none, none, none, none, some (some 5), some (some 6), some (some 7), some (some 8), some (some 9)])))) (a8 : zat h.1 8 = some (.inl (0, 8, []))) (a9 : zat h.1 9 = some (.inl (0, 96, [])))  : zex E (n + 17) d 173 0 [some (.ref 4), some (.int p), some (.int k)] [] h = some (.inl (some (.int w)), h) :=
  ((yIn zgv173_0 rfl) : zex E (n + 17) d 173 0 [some (.ref 4), some (.int p), some (.int k)] [] h = zex E (n + 16) d 173 1 [some (.ref 4), some (.int p), some (.int k)] [.int k] h).trans (((zjlF zgv173_1 h0) : zex E (n + 16) d 173 1 [some (.ref 4), some (.int p), some (.int k)] [.int k] h = zex E (n + 15) d 173 4 [some (.ref 4), some (.int p), some (.int k)] [] h).trans (((yIn zgv173_4 rfl) : zex E (n + 15) d 173 4 [some (.ref 4), some (.int p), some (.int k)] [] h = zex E (n + 14) d 173 5 [some (.ref 4), some (.int p), some (.int k)] [.int k] h).trans (((yAn zgv173_5 rfl rfl) : zex E (n + 14) d 173 5 [some (.ref 4), some (.int p), some (.int k)] [.int k] h = zex E (n + 13) d 173 6 [some (.ref 4), some (.int p), some (.int k)] [.ref 4, .int k] h).trans (((zgx zgv173_6 a4 rfl) : zex E (n + 13) d 173 6 [some (.ref 4), some (.int p), some (.int k)] [.ref 4, .int k] h = zex E (n + 12) d 173 9 [some (.ref 4), some (.int p), some (.int k)] [.ref 8, .int k] h).trans (((yIn zgv173_9 rfl) : zex E (n + 12) d 173 9 [some (.ref 4), some (.int p), some (.int k)] [.ref 8, .int k] h = zex E (n + 11) d 173 10 [some (.ref 4), some (.int p), some (.int k)] [.int p, .ref 8, .int k] h).trans (((zlk zgv173_10 a8 hp hp8 hv) : zex E (n + 11) d 173 10 [some (.ref 4), some (.int p), some (.int k)] [.int p, .ref 8, .int k] h = zex E (n + 10) d 173 11 [some (.ref 4), some (.int p), some (.int k)] [.int v, .int k] h).trans (((zklT zgv173_11 h1) : zex E (n + 10) d 173 11 [some (.ref 4), some (.int p), some (.int k)] [.int v, .int k] h = zex E (n + 9) d 173 16 [some (.ref 4), some (.int p), some (.int k)] [] h).trans (((yAn zgv173_16 rfl rfl) : zex E (n + 9) d 173 16 [some (.ref 4), some (.int p), some (.int k)] [] h = zex E (n + 8) d 173 17 [some (.ref 4), some (.int p), some (.int k)] [.ref 4] h).trans (((zgx zgv173_17 a4 rfl) : zex E (n + 8) d 173 17 [some (.ref 4), some (.int p), some (.int k)] [.ref 4] h = zex E (n + 7) d 173 20 [some (.ref 4), some (.int p), some (.int k)] [.ref 9] h).trans (((yIn zgv173_20 rfl) : zex E (n + 7) d 173 20 [some (.ref 4), some (.int p), some (.int k)] [.ref 9] h = zex E (n + 6) d 173 21 [some (.ref 4), some (.int p), some (.int k)] [.int p, .ref 9] h).trans (((yCb zgv173_21) : zex E (n + 6) d 173 21 [some (.ref 4), some (.int p), some (.int k)] [.int p, .ref 9] h = zex E (n + 5) d 173 23 [some (.ref 4), some (.int p), some (.int k)] [.int 12, .int p, .ref 9] h).trans (((yMul zgv173_23) : zex E (n + 5) d 173 23 [some (.ref 4), some (.int p), some (.int k)] [.int 12, .int p, .ref 9] h = zex E (n + 4) d 173 24 [some (.ref 4), some (.int p), some (.int k)] [.int (p * 12), .ref 9] h).trans (((yIn zgv173_24 rfl) : zex E (n + 4) d 173 24 [some (.ref 4), some (.int p), some (.int k)] [.int (p * 12), .ref 9] h = zex E (n + 3) d 173 25 [some (.ref 4), some (.int p), some (.int k)] [.int k, .int (p * 12), .ref 9] h).trans (((yAdd zgv173_25) : zex E (n + 3) d 173 25 [some (.ref 4), some (.int p), some (.int k)] [.int k, .int (p * 12), .ref 9] h = zex E (n + 2) d 173 26 [some (.ref 4), some (.int p), some (.int k)] [.int ((p * 12) + k), .ref 9] h).trans (((zlk zgv173_26 a9 hj hj9 hw) : zex E (n + 2) d 173 26 [some (.ref 4), some (.int p), some (.int k)] [.int ((p * 12) + k), .ref 9] h = zex E (n + 1) d 173 27 [some (.ref 4), some (.int p), some (.int k)] [.int w] h).trans (((yRet1 zgv173_27 rfl) : zex E (n + 1) d 173 27 [some (.ref 4), some (.int p), some (.int k)] [.int w] h = some (.inl (some (.int w)), h))))))))))))))))))
set_option maxRecDepth 100000 in
theorem gv_w {E : zE} {n d : Nat} {h : zH} {p b r x w : Int32} {P : Nat} (hp : p.toInt = (P : Int)) (hp8 : P < 8) (hw : h.2.1 22 P = w) (a18 : zat h.1 18 = some (.inr (.inl (0, [some (some 19), some (some 20), some (some 21), some (some 22), some (some 23), some (some 24), none, none, none, none, none, none, none])))) (a22 : zat h.1 22 = some (.inl (0, 8, [])))  : zex E (n + 12) d 118 216 [some (.ref 3), some (.ref 18), some (.int p), some (.ref 25), some (.int b), some (.int r), some (.int x)] [] h = zex E n d 118 234 [some (.ref 3), some (.ref 18), some (.int p), some (.ref 25), some (.int b), some (.int r), some (.int x)] [] (zsetI h 22 (upd (h.2.1 22) P (if (w - 1) < 0 then 0 else (w - 1)))) :=
  ((yAn zgv118_216 rfl rfl) : zex E (n + 12) d 118 216 [some (.ref 3), some (.ref 18), some (.int p), some (.ref 25), some (.int b), some (.int r), some (.int x)] [] h = zex E (n + 11) d 118 217 [some (.ref 3), some (.ref 18), some (.int p), some (.ref 25), some (.int b), some (.int r), some (.int x)] [.ref 18] h).trans (((zgx zgv118_217 a18 rfl) : zex E (n + 11) d 118 217 [some (.ref 3), some (.ref 18), some (.int p), some (.ref 25), some (.int b), some (.int r), some (.int x)] [.ref 18] h = zex E (n + 10) d 118 220 [some (.ref 3), some (.ref 18), some (.int p), some (.ref 25), some (.int b), some (.int r), some (.int x)] [.ref 22] h).trans (((yIn zgv118_220 rfl) : zex E (n + 10) d 118 220 [some (.ref 3), some (.ref 18), some (.int p), some (.ref 25), some (.int b), some (.int r), some (.int x)] [.ref 22] h = zex E (n + 9) d 118 221 [some (.ref 3), some (.ref 18), some (.int p), some (.ref 25), some (.int b), some (.int r), some (.int x)] [.int p, .ref 22] h).trans (((yAn zgv118_221 rfl rfl) : zex E (n + 9) d 118 221 [some (.ref 3), some (.ref 18), some (.int p), some (.ref 25), some (.int b), some (.int r), some (.int x)] [.int p, .ref 22] h = zex E (n + 8) d 118 222 [some (.ref 3), some (.ref 18), some (.int p), some (.ref 25), some (.int b), some (.int r), some (.int x)] [.ref 18, .int p, .ref 22] h).trans (((zgx zgv118_222 a18 rfl) : zex E (n + 8) d 118 222 [some (.ref 3), some (.ref 18), some (.int p), some (.ref 25), some (.int b), some (.int r), some (.int x)] [.ref 18, .int p, .ref 22] h = zex E (n + 7) d 118 225 [some (.ref 3), some (.ref 18), some (.int p), some (.ref 25), some (.int b), some (.int r), some (.int x)] [.ref 22, .int p, .ref 22] h).trans (((yIn zgv118_225 rfl) : zex E (n + 7) d 118 225 [some (.ref 3), some (.ref 18), some (.int p), some (.ref 25), some (.int b), some (.int r), some (.int x)] [.ref 22, .int p, .ref 22] h = zex E (n + 6) d 118 226 [some (.ref 3), some (.ref 18), some (.int p), some (.ref 25), some (.int b), some (.int r), some (.int x)] [.int p, .ref 22, .int p, .ref 22] h).trans (((zlk zgv118_226 a22 hp hp8 hw) : zex E (n + 6) d 118 226 [some (.ref 3), some (.ref 18), some (.int p), some (.ref 25), some (.int b), some (.int r), some (.int x)] [.int p, .ref 22, .int p, .ref 22] h = zex E (n + 5) d 118 227 [some (.ref 3), some (.ref 18), some (.int p), some (.ref 25), some (.int b), some (.int r), some (.int x)] [.int w, .int p, .ref 22] h).trans (((yCi zgv118_227) : zex E (n + 5) d 118 227 [some (.ref 3), some (.ref 18), some (.int p), some (.ref 25), some (.int b), some (.int r), some (.int x)] [.int w, .int p, .ref 22] h = zex E (n + 4) d 118 228 [some (.ref 3), some (.ref 18), some (.int p), some (.ref 25), some (.int b), some (.int r), some (.int x)] [.int 1, .int w, .int p, .ref 22] h).trans (((ySub zgv118_228) : zex E (n + 4) d 118 228 [some (.ref 3), some (.ref 18), some (.int p), some (.ref 25), some (.int b), some (.int r), some (.int x)] [.int 1, .int w, .int p, .ref 22] h = zex E (n + 3) d 118 229 [some (.ref 3), some (.ref 18), some (.int p), some (.ref 25), some (.int b), some (.int r), some (.int x)] [.int (w - 1), .int p, .ref 22] h).trans (((yCi zgv118_229) : zex E (n + 3) d 118 229 [some (.ref 3), some (.ref 18), some (.int p), some (.ref 25), some (.int b), some (.int r), some (.int x)] [.int (w - 1), .int p, .ref 22] h = zex E (n + 2) d 118 230 [some (.ref 3), some (.ref 18), some (.int p), some (.ref 25), some (.int b), some (.int r), some (.int x)] [.int 0, .int (w - 1), .int p, .ref 22] h).trans (((yMax zgv118_230 rfl) : zex E (n + 2) d 118 230 [some (.ref 3), some (.ref 18), some (.int p), some (.ref 25), some (.int b), some (.int r), some (.int x)] [.int 0, .int (w - 1), .int p, .ref 22] h = zex E (n + 1) d 118 233 [some (.ref 3), some (.ref 18), some (.int p), some (.ref 25), some (.int b), some (.int r), some (.int x)] [.int (if (w - 1) < 0 then 0 else (w - 1)), .int p, .ref 22] h).trans (((zsk zgv118_233 a22 hp hp8) : zex E (n + 1) d 118 233 [some (.ref 3), some (.ref 18), some (.int p), some (.ref 25), some (.int b), some (.int r), some (.int x)] [.int (if (w - 1) < 0 then 0 else (w - 1)), .int p, .ref 22] h = zex E n d 118 234 [some (.ref 3), some (.ref 18), some (.int p), some (.ref 25), some (.int b), some (.int r), some (.int x)] [] (zsetI h 22 (upd (h.2.1 22) P (if (w - 1) < 0 then 0 else (w - 1))))))))))))))))
set_option maxRecDepth 100000 in
theorem gv_0 {E : zE} {n d : Nat} {h : zH}     : zex E (n + 4) d 117 0 [some (.ref 3), some (.ref 18), some (.ref 25), none, none] [] h = zex E n d 117 5 [some (.ref 3), some (.ref 18), some (.ref 25), some (.int 0), some (.int 0)] [] h :=
  ((yCi zgv117_0) : zex E (n + 4) d 117 0 [some (.ref 3), some (.ref 18), some (.ref 25), none, none] [] h = zex E (n + 3) d 117 1 [some (.ref 3), some (.ref 18), some (.ref 25), none, none] [.int 0] h).trans (((ySn zgv117_1) : zex E (n + 3) d 117 1 [some (.ref 3), some (.ref 18), some (.ref 25), none, none] [.int 0] h = zex E (n + 2) d 117 2 [some (.ref 3), some (.ref 18), some (.ref 25), some (.int 0), none] [] h).trans (((yCi zgv117_2) : zex E (n + 2) d 117 2 [some (.ref 3), some (.ref 18), some (.ref 25), some (.int 0), none] [] h = zex E (n + 1) d 117 3 [some (.ref 3), some (.ref 18), some (.ref 25), some (.int 0), none] [.int 0] h).trans (((yS zgv117_3) : zex E (n + 1) d 117 3 [some (.ref 3), some (.ref 18), some (.ref 25), some (.int 0), none] [.int 0] h = zex E n d 117 5 [some (.ref 3), some (.ref 18), some (.ref 25), some (.int 0), some (.int 0)] [] h))))
set_option maxRecDepth 100000 in
theorem gv_p {E : zE} {n d : Nat} {h h1 : zH} {s i x : Int32} (hi : i.toInt < (h.2.1 4 2).toInt) (a3 : zat h.1 3 = some (.inr (.inl (2, [some (some 4), some (some 10), some (some 17)])))) (a4 : zat h.1 4 = some (.inr (.inl (8, [none, none, none, none, some (some 5), some (some 6), some (some 7), some (some 8), some (some 9)])))) (e1 : zex E (n + 4) d 118 0 [some (.ref 3), some (.ref 18), some (.int i), some (.ref 25), none, none, none] [] h = some (.inl (some (.int x)), h1)) : zex E (n + 15) (d + 1) 117 5 [some (.ref 3), some (.ref 18), some (.ref 25), some (.int s), some (.int i)] [] h = zex E n (d + 1) 117 5 [some (.ref 3), some (.ref 18), some (.ref 25), some (.int (s + x)), some (.int (i + 1))] [] h1 :=
  ((yI zgv117_5 rfl) : zex E (n + 15) (d + 1) 117 5 [some (.ref 3), some (.ref 18), some (.ref 25), some (.int s), some (.int i)] [] h = zex E (n + 14) (d + 1) 117 7 [some (.ref 3), some (.ref 18), some (.ref 25), some (.int s), some (.int i)] [.int i] h).trans (((yAn zgv117_7 rfl rfl) : zex E (n + 14) (d + 1) 117 7 [some (.ref 3), some (.ref 18), some (.ref 25), some (.int s), some (.int i)] [.int i] h = zex E (n + 13) (d + 1) 117 8 [some (.ref 3), some (.ref 18), some (.ref 25), some (.int s), some (.int i)] [.ref 3, .int i] h).trans (((zgx zgv117_8 a3 rfl) : zex E (n + 13) (d + 1) 117 8 [some (.ref 3), some (.ref 18), some (.ref 25), some (.int s), some (.int i)] [.ref 3, .int i] h = zex E (n + 12) (d + 1) 117 11 [some (.ref 3), some (.ref 18), some (.ref 25), some (.int s), some (.int i)] [.ref 4, .int i] h).trans (((zgi zgv117_11 a4 rfl) : zex E (n + 12) (d + 1) 117 11 [some (.ref 3), some (.ref 18), some (.ref 25), some (.int s), some (.int i)] [.ref 4, .int i] h = zex E (n + 11) (d + 1) 117 14 [some (.ref 3), some (.ref 18), some (.ref 25), some (.int s), some (.int i)] [.int (h.2.1 4 2), .int i] h).trans (((zkgF zgv117_14 hi) : zex E (n + 11) (d + 1) 117 14 [some (.ref 3), some (.ref 18), some (.ref 25), some (.int s), some (.int i)] [.int (h.2.1 4 2), .int i] h = zex E (n + 10) (d + 1) 117 17 [some (.ref 3), some (.ref 18), some (.ref 25), some (.int s), some (.int i)] [] h).trans (((yIn zgv117_17 rfl) : zex E (n + 10) (d + 1) 117 17 [some (.ref 3), some (.ref 18), some (.ref 25), some (.int s), some (.int i)] [] h = zex E (n + 9) (d + 1) 117 18 [some (.ref 3), some (.ref 18), some (.ref 25), some (.int s), some (.int i)] [.int s] h).trans (((yAn zgv117_18 rfl rfl) : zex E (n + 9) (d + 1) 117 18 [some (.ref 3), some (.ref 18), some (.ref 25), some (.int s), some (.int i)] [.int s] h = zex E (n + 8) (d + 1) 117 19 [some (.ref 3), some (.ref 18), some (.ref 25), some (.int s), some (.int i)] [.ref 3, .int s] h).trans (((yAn zgv117_19 rfl rfl) : zex E (n + 8) (d + 1) 117 19 [some (.ref 3), some (.ref 18), some (.ref 25), some (.int s), some (.int i)] [.ref 3, .int s] h = zex E (n + 7) (d + 1) 117 20 [some (.ref 3), some (.ref 18), some (.ref 25), some (.int s), some (.int i)] [.ref 18, .ref 3, .int s] h).trans (((yI zgv117_20 rfl) : zex E (n + 7) (d + 1) 117 20 [some (.ref 3), some (.ref 18), some (.ref 25), some (.int s), some (.int i)] [.ref 18, .ref 3, .int s] h = zex E (n + 6) (d + 1) 117 22 [some (.ref 3), some (.ref 18), some (.ref 25), some (.int s), some (.int i)] [.int i, .ref 18, .ref 3, .int s] h).trans (((yAn zgv117_22 rfl rfl) : zex E (n + 6) (d + 1) 117 22 [some (.ref 3), some (.ref 18), some (.ref 25), some (.int s), some (.int i)] [.int i, .ref 18, .ref 3, .int s] h = zex E (n + 5) (d + 1) 117 23 [some (.ref 3), some (.ref 18), some (.ref 25), some (.int s), some (.int i)] [.ref 25, .int i, .ref 18, .ref 3, .int s] h).trans (((zcvg (h := h) (as := [.ref 18, .int i, .ref 25]) (r := [.int s]) zgv117_23 znv118 rfl a3 rfl e1) : zex E (n + 5) (d + 1) 117 23 [some (.ref 3), some (.ref 18), some (.ref 25), some (.int s), some (.int i)] [.ref 25, .int i, .ref 18, .ref 3, .int s] h = zex E (n + 4) (d + 1) 117 26 [some (.ref 3), some (.ref 18), some (.ref 25), some (.int s), some (.int i)] [.int x, .int s] h1).trans (((yAdd zgv117_26) : zex E (n + 4) (d + 1) 117 26 [some (.ref 3), some (.ref 18), some (.ref 25), some (.int s), some (.int i)] [.int x, .int s] h1 = zex E (n + 3) (d + 1) 117 27 [some (.ref 3), some (.ref 18), some (.ref 25), some (.int s), some (.int i)] [.int (s + x)] h1).trans (((ySn zgv117_27) : zex E (n + 3) (d + 1) 117 27 [some (.ref 3), some (.ref 18), some (.ref 25), some (.int s), some (.int i)] [.int (s + x)] h1 = zex E (n + 2) (d + 1) 117 28 [some (.ref 3), some (.ref 18), some (.ref 25), some (.int (s + x)), some (.int i)] [] h1).trans (((yInc zgv117_28 rfl) : zex E (n + 2) (d + 1) 117 28 [some (.ref 3), some (.ref 18), some (.ref 25), some (.int (s + x)), some (.int i)] [] h1 = zex E (n + 1) (d + 1) 117 31 [some (.ref 3), some (.ref 18), some (.ref 25), some (.int (s + x)), some (.int (i + 1))] [] h1).trans (((yGo zgv117_31) : zex E (n + 1) (d + 1) 117 31 [some (.ref 3), some (.ref 18), some (.ref 25), some (.int (s + x)), some (.int (i + 1))] [] h1 = zex E n (d + 1) 117 5 [some (.ref 3), some (.ref 18), some (.ref 25), some (.int (s + x)), some (.int (i + 1))] [] h1)))))))))))))))
set_option maxRecDepth 100000 in
theorem gv_e {E : zE} {n d : Nat} {h : zH} {s i : Int32} (hi : (h.2.1 4 2).toInt ≤ i.toInt) (a3 : zat h.1 3 = some (.inr (.inl (2, [some (some 4), some (some 10), some (some 17)])))) (a4 : zat h.1 4 = some (.inr (.inl (8, [none, none, none, none, some (some 5), some (some 6), some (some 7), some (some 8), some (some 9)]))))  : zex E (n + 7) d 117 5 [some (.ref 3), some (.ref 18), some (.ref 25), some (.int s), some (.int i)] [] h = zex E n d 117 37 [some (.ref 3), some (.ref 18), some (.ref 25), some (.int s), some (.int 0)] [] h :=
  ((yI zgv117_5 rfl) : zex E (n + 7) d 117 5 [some (.ref 3), some (.ref 18), some (.ref 25), some (.int s), some (.int i)] [] h = zex E (n + 6) d 117 7 [some (.ref 3), some (.ref 18), some (.ref 25), some (.int s), some (.int i)] [.int i] h).trans (((yAn zgv117_7 rfl rfl) : zex E (n + 6) d 117 7 [some (.ref 3), some (.ref 18), some (.ref 25), some (.int s), some (.int i)] [.int i] h = zex E (n + 5) d 117 8 [some (.ref 3), some (.ref 18), some (.ref 25), some (.int s), some (.int i)] [.ref 3, .int i] h).trans (((zgx zgv117_8 a3 rfl) : zex E (n + 5) d 117 8 [some (.ref 3), some (.ref 18), some (.ref 25), some (.int s), some (.int i)] [.ref 3, .int i] h = zex E (n + 4) d 117 11 [some (.ref 3), some (.ref 18), some (.ref 25), some (.int s), some (.int i)] [.ref 4, .int i] h).trans (((zgi zgv117_11 a4 rfl) : zex E (n + 4) d 117 11 [some (.ref 3), some (.ref 18), some (.ref 25), some (.int s), some (.int i)] [.ref 4, .int i] h = zex E (n + 3) d 117 14 [some (.ref 3), some (.ref 18), some (.ref 25), some (.int s), some (.int i)] [.int (h.2.1 4 2), .int i] h).trans (((zkgT zgv117_14 hi) : zex E (n + 3) d 117 14 [some (.ref 3), some (.ref 18), some (.ref 25), some (.int s), some (.int i)] [.int (h.2.1 4 2), .int i] h = zex E (n + 2) d 117 34 [some (.ref 3), some (.ref 18), some (.ref 25), some (.int s), some (.int i)] [] h).trans (((yCi zgv117_34) : zex E (n + 2) d 117 34 [some (.ref 3), some (.ref 18), some (.ref 25), some (.int s), some (.int i)] [] h = zex E (n + 1) d 117 35 [some (.ref 3), some (.ref 18), some (.ref 25), some (.int s), some (.int i)] [.int 0] h).trans (((yS zgv117_35) : zex E (n + 1) d 117 35 [some (.ref 3), some (.ref 18), some (.ref 25), some (.int s), some (.int i)] [.int 0] h = zex E n d 117 37 [some (.ref 3), some (.ref 18), some (.ref 25), some (.int s), some (.int 0)] [] h)))))))
set_option maxRecDepth 100000 in
theorem gv_f {E : zE} {n d : Nat} {h : zH} {s : Int32} {u4 : Option Value}  (a18 : zat h.1 18 = some (.inr (.inl (0, [some (some 19), some (some 20), some (some 21), some (some 22), some (some 23), some (some 24), none, none, none, none, none, none, none]))))  : zex E (n + 8) d 117 97 [some (.ref 3), some (.ref 18), some (.ref 25), some (.int s), u4] [] h = some (.inl (some (.int s)), (zsetI h 18 (upd (h.2.1 18) 10 ((h.2.1 18 10) + 1)))) :=
  ((yAn zgv117_97 rfl rfl) : zex E (n + 8) d 117 97 [some (.ref 3), some (.ref 18), some (.ref 25), some (.int s), u4] [] h = zex E (n + 7) d 117 98 [some (.ref 3), some (.ref 18), some (.ref 25), some (.int s), u4] [.ref 18] h).trans (((yDup zgv117_98 rfl) : zex E (n + 7) d 117 98 [some (.ref 3), some (.ref 18), some (.ref 25), some (.int s), u4] [.ref 18] h = zex E (n + 6) d 117 99 [some (.ref 3), some (.ref 18), some (.ref 25), some (.int s), u4] [.ref 18, .ref 18] h).trans (((zgi zgv117_99 a18 rfl) : zex E (n + 6) d 117 99 [some (.ref 3), some (.ref 18), some (.ref 25), some (.int s), u4] [.ref 18, .ref 18] h = zex E (n + 5) d 117 102 [some (.ref 3), some (.ref 18), some (.ref 25), some (.int s), u4] [.int (h.2.1 18 10), .ref 18] h).trans (((yCi zgv117_102) : zex E (n + 5) d 117 102 [some (.ref 3), some (.ref 18), some (.ref 25), some (.int s), u4] [.int (h.2.1 18 10), .ref 18] h = zex E (n + 4) d 117 103 [some (.ref 3), some (.ref 18), some (.ref 25), some (.int s), u4] [.int 1, .int (h.2.1 18 10), .ref 18] h).trans (((yAdd zgv117_103) : zex E (n + 4) d 117 103 [some (.ref 3), some (.ref 18), some (.ref 25), some (.int s), u4] [.int 1, .int (h.2.1 18 10), .ref 18] h = zex E (n + 3) d 117 104 [some (.ref 3), some (.ref 18), some (.ref 25), some (.int s), u4] [.int ((h.2.1 18 10) + 1), .ref 18] h).trans (((zpx zgv117_104 a18 rfl) : zex E (n + 3) d 117 104 [some (.ref 3), some (.ref 18), some (.ref 25), some (.int s), u4] [.int ((h.2.1 18 10) + 1), .ref 18] h = zex E (n + 2) d 117 107 [some (.ref 3), some (.ref 18), some (.ref 25), some (.int s), u4] [] (zsetI h 18 (upd (h.2.1 18) 10 ((h.2.1 18 10) + 1)))).trans (((yIn zgv117_107 rfl) : zex E (n + 2) d 117 107 [some (.ref 3), some (.ref 18), some (.ref 25), some (.int s), u4] [] (zsetI h 18 (upd (h.2.1 18) 10 ((h.2.1 18 10) + 1))) = zex E (n + 1) d 117 108 [some (.ref 3), some (.ref 18), some (.ref 25), some (.int s), u4] [.int s] (zsetI h 18 (upd (h.2.1 18) 10 ((h.2.1 18 10) + 1)))).trans (((yRet1 zgv117_108 rfl) : zex E (n + 1) d 117 108 [some (.ref 3), some (.ref 18), some (.ref 25), some (.int s), u4] [.int s] (zsetI h 18 (upd (h.2.1 18) 10 ((h.2.1 18 10) + 1))) = some (.inl (some (.int s)), (zsetI h 18 (upd (h.2.1 18) 10 ((h.2.1 18 10) + 1))))))))))))
set_option maxRecDepth 100000 in
theorem gm_o {E : zE} {n d : Nat} {h : zH} {p a r : Int32}  (a84 : zat h.1 84 = some (.inr (.inl (12, [none, some (some 85), some (some 86), some (some 87), some (some 88), some (some 89), none, none, some (some 90), none, none, none, none, none, none, some (some 91), none, some (some 92), some (some 93)])))) (e1 : zex E (n + 3) d 221 0 [some (.ref 84), some (.int p), some (.int 0)] [] h = some (.inl (some (.int a)), h)) (e2 : zex E (n + 1) d 221 0 [some (.ref 84), some (.int p), some (.int (4 + a))] [] h = some (.inl (some (.int r)), h)) : zex E (n + 10) (d + 1) 223 0 [some (.ref 84), some (.int p)] [] h = some (.inl (some (.int r)), h) :=
  ((yAn zgv223_0 rfl rfl) : zex E (n + 10) (d + 1) 223 0 [some (.ref 84), some (.int p)] [] h = zex E (n + 9) (d + 1) 223 1 [some (.ref 84), some (.int p)] [.ref 84] h).trans (((yIn zgv223_1 rfl) : zex E (n + 9) (d + 1) 223 1 [some (.ref 84), some (.int p)] [.ref 84] h = zex E (n + 8) (d + 1) 223 2 [some (.ref 84), some (.int p)] [.int p, .ref 84] h).trans (((yCi zgv223_2) : zex E (n + 8) (d + 1) 223 2 [some (.ref 84), some (.int p)] [.int p, .ref 84] h = zex E (n + 7) (d + 1) 223 3 [some (.ref 84), some (.int p)] [.int 4, .int p, .ref 84] h).trans (((yAn zgv223_3 rfl rfl) : zex E (n + 7) (d + 1) 223 3 [some (.ref 84), some (.int p)] [.int 4, .int p, .ref 84] h = zex E (n + 6) (d + 1) 223 4 [some (.ref 84), some (.int p)] [.ref 84, .int 4, .int p, .ref 84] h).trans (((yIn zgv223_4 rfl) : zex E (n + 6) (d + 1) 223 4 [some (.ref 84), some (.int p)] [.ref 84, .int 4, .int p, .ref 84] h = zex E (n + 5) (d + 1) 223 5 [some (.ref 84), some (.int p)] [.int p, .ref 84, .int 4, .int p, .ref 84] h).trans (((yCi zgv223_5) : zex E (n + 5) (d + 1) 223 5 [some (.ref 84), some (.int p)] [.int p, .ref 84, .int 4, .int p, .ref 84] h = zex E (n + 4) (d + 1) 223 6 [some (.ref 84), some (.int p)] [.int 0, .int p, .ref 84, .int 4, .int p, .ref 84] h).trans (((zcvg (h := h) (as := [.int p, .int 0]) (r := [.int 4, .int p, .ref 84]) zgv223_6 znv221 rfl a84 rfl e1) : zex E (n + 4) (d + 1) 223 6 [some (.ref 84), some (.int p)] [.int 0, .int p, .ref 84, .int 4, .int p, .ref 84] h = zex E (n + 3) (d + 1) 223 9 [some (.ref 84), some (.int p)] [.int a, .int 4, .int p, .ref 84] h).trans (((yAdd zgv223_9) : zex E (n + 3) (d + 1) 223 9 [some (.ref 84), some (.int p)] [.int a, .int 4, .int p, .ref 84] h = zex E (n + 2) (d + 1) 223 10 [some (.ref 84), some (.int p)] [.int (4 + a), .int p, .ref 84] h).trans (((zcvg (h := h) (as := [.int p, .int (4 + a)]) (r := []) zgv223_10 znv221 rfl a84 rfl e2) : zex E (n + 2) (d + 1) 223 10 [some (.ref 84), some (.int p)] [.int (4 + a), .int p, .ref 84] h = zex E (n + 1) (d + 1) 223 13 [some (.ref 84), some (.int p)] [.int r] h).trans (((yRet1 zgv223_13 rfl) : zex E (n + 1) (d + 1) 223 13 [some (.ref 84), some (.int p)] [.int r] h = some (.inl (some (.int r)), h)))))))))))
set_option maxRecDepth 100000 in
theorem gm_a {E : zE} {n d : Nat} {h h1 : zH} {p w a l r x y : Int32} (hl : l ≠ 0) (a84 : zat h.1 84 = some (.inr (.inl (12, [none, some (some 85), some (some 86), some (some 87), some (some 88), some (some 89), none, none, some (some 90), none, none, none, none, none, none, some (some 91), none, some (some 92), some (some 93)])))) (a84_h1 : zat h1.1 84 = some (.inr (.inl (12, [none, some (some 85), some (some 86), some (some 87), some (some 88), some (some 89), none, none, some (some 90), none, none, none, none, none, none, some (some 91), none, some (some 92), some (some 93)])))) (e1 : zex E (n + 28) d 223 0 [some (.ref 84), some (.int p)] [] h = some (.inl (some (.int w)), h)) (e2 : zex E (n + 20) d 221 0 [some (.ref 84), some (.int p), some (.int 0)] [] h = some (.inl (some (.int a)), h)) (e3 : zex E (n + 14) d 221 0 [some (.ref 84), some (.int p), some (.int 3)] [] h = some (.inl (some (.int l)), h)) (e4 : zex E (n + 12) d 222 0 [some (.ref 84), some (.int p), some (.int 0), some (.int ((a + 1) - (a + 1) / l * l))] [] h = some (.inl none, h1)) (e5 : zex E (n + 9) d 223 0 [some (.ref 84), some (.int p)] [] h1 = some (.inl (some (.int r)), h1)) (e6 : zex E (n + 5) d 219 0 [some (.int p), some (.int 16)] [] h1 = some (.inl (some (.int x)), h1)) (e7 : zex E (n + 1) d 218 0 [some (.int r), some (.int 3)] [] h1 = some (.inl (some (.int y)), h1)) : zex E (n + 31) (d + 1) 282 0 [some (.ref 84), some (.int p), none, none, none, none, none, none, none] [] h = zex E n (d + 1) 282 48 [some (.ref 84), some (.int p), some (.int w), some (.int r), some (.int x), some (.int y), none, none, none] [] h1 :=
  ((yAn zgv282_0 rfl rfl) : zex E (n + 31) (d + 1) 282 0 [some (.ref 84), some (.int p), none, none, none, none, none, none, none] [] h = zex E (n + 30) (d + 1) 282 1 [some (.ref 84), some (.int p), none, none, none, none, none, none, none] [.ref 84] h).trans (((yIn zgv282_1 rfl) : zex E (n + 30) (d + 1) 282 1 [some (.ref 84), some (.int p), none, none, none, none, none, none, none] [.ref 84] h = zex E (n + 29) (d + 1) 282 2 [some (.ref 84), some (.int p), none, none, none, none, none, none, none] [.int p, .ref 84] h).trans (((zcvg (h := h) (as := [.int p]) (r := []) zgv282_2 znv223 rfl a84 rfl e1) : zex E (n + 29) (d + 1) 282 2 [some (.ref 84), some (.int p), none, none, none, none, none, none, none] [.int p, .ref 84] h = zex E (n + 28) (d + 1) 282 5 [some (.ref 84), some (.int p), none, none, none, none, none, none, none] [.int w] h).trans (((ySn zgv282_5) : zex E (n + 28) (d + 1) 282 5 [some (.ref 84), some (.int p), none, none, none, none, none, none, none] [.int w] h = zex E (n + 27) (d + 1) 282 6 [some (.ref 84), some (.int p), some (.int w), none, none, none, none, none, none] [] h).trans (((yAn zgv282_6 rfl rfl) : zex E (n + 27) (d + 1) 282 6 [some (.ref 84), some (.int p), some (.int w), none, none, none, none, none, none] [] h = zex E (n + 26) (d + 1) 282 7 [some (.ref 84), some (.int p), some (.int w), none, none, none, none, none, none] [.ref 84] h).trans (((yIn zgv282_7 rfl) : zex E (n + 26) (d + 1) 282 7 [some (.ref 84), some (.int p), some (.int w), none, none, none, none, none, none] [.ref 84] h = zex E (n + 25) (d + 1) 282 8 [some (.ref 84), some (.int p), some (.int w), none, none, none, none, none, none] [.int p, .ref 84] h).trans (((yCi zgv282_8) : zex E (n + 25) (d + 1) 282 8 [some (.ref 84), some (.int p), some (.int w), none, none, none, none, none, none] [.int p, .ref 84] h = zex E (n + 24) (d + 1) 282 9 [some (.ref 84), some (.int p), some (.int w), none, none, none, none, none, none] [.int 0, .int p, .ref 84] h).trans (((yAn zgv282_9 rfl rfl) : zex E (n + 24) (d + 1) 282 9 [some (.ref 84), some (.int p), some (.int w), none, none, none, none, none, none] [.int 0, .int p, .ref 84] h = zex E (n + 23) (d + 1) 282 10 [some (.ref 84), some (.int p), some (.int w), none, none, none, none, none, none] [.ref 84, .int 0, .int p, .ref 84] h).trans (((yIn zgv282_10 rfl) : zex E (n + 23) (d + 1) 282 10 [some (.ref 84), some (.int p), some (.int w), none, none, none, none, none, none] [.ref 84, .int 0, .int p, .ref 84] h = zex E (n + 22) (d + 1) 282 11 [some (.ref 84), some (.int p), some (.int w), none, none, none, none, none, none] [.int p, .ref 84, .int 0, .int p, .ref 84] h).trans (((yCi zgv282_11) : zex E (n + 22) (d + 1) 282 11 [some (.ref 84), some (.int p), some (.int w), none, none, none, none, none, none] [.int p, .ref 84, .int 0, .int p, .ref 84] h = zex E (n + 21) (d + 1) 282 12 [some (.ref 84), some (.int p), some (.int w), none, none, none, none, none, none] [.int 0, .int p, .ref 84, .int 0, .int p, .ref 84] h).trans (((zcvg (h := h) (as := [.int p, .int 0]) (r := [.int 0, .int p, .ref 84]) zgv282_12 znv221 rfl a84 rfl e2) : zex E (n + 21) (d + 1) 282 12 [some (.ref 84), some (.int p), some (.int w), none, none, none, none, none, none] [.int 0, .int p, .ref 84, .int 0, .int p, .ref 84] h = zex E (n + 20) (d + 1) 282 15 [some (.ref 84), some (.int p), some (.int w), none, none, none, none, none, none] [.int a, .int 0, .int p, .ref 84] h).trans (((yCi zgv282_15) : zex E (n + 20) (d + 1) 282 15 [some (.ref 84), some (.int p), some (.int w), none, none, none, none, none, none] [.int a, .int 0, .int p, .ref 84] h = zex E (n + 19) (d + 1) 282 16 [some (.ref 84), some (.int p), some (.int w), none, none, none, none, none, none] [.int 1, .int a, .int 0, .int p, .ref 84] h).trans (((yAdd zgv282_16) : zex E (n + 19) (d + 1) 282 16 [some (.ref 84), some (.int p), some (.int w), none, none, none, none, none, none] [.int 1, .int a, .int 0, .int p, .ref 84] h = zex E (n + 18) (d + 1) 282 17 [some (.ref 84), some (.int p), some (.int w), none, none, none, none, none, none] [.int (a + 1), .int 0, .int p, .ref 84] h).trans (((yAn zgv282_17 rfl rfl) : zex E (n + 18) (d + 1) 282 17 [some (.ref 84), some (.int p), some (.int w), none, none, none, none, none, none] [.int (a + 1), .int 0, .int p, .ref 84] h = zex E (n + 17) (d + 1) 282 18 [some (.ref 84), some (.int p), some (.int w), none, none, none, none, none, none] [.ref 84, .int (a + 1), .int 0, .int p, .ref 84] h).trans (((yIn zgv282_18 rfl) : zex E (n + 17) (d + 1) 282 18 [some (.ref 84), some (.int p), some (.int w), none, none, none, none, none, none] [.ref 84, .int (a + 1), .int 0, .int p, .ref 84] h = zex E (n + 16) (d + 1) 282 19 [some (.ref 84), some (.int p), some (.int w), none, none, none, none, none, none] [.int p, .ref 84, .int (a + 1), .int 0, .int p, .ref 84] h).trans (((yCi zgv282_19) : zex E (n + 16) (d + 1) 282 19 [some (.ref 84), some (.int p), some (.int w), none, none, none, none, none, none] [.int p, .ref 84, .int (a + 1), .int 0, .int p, .ref 84] h = zex E (n + 15) (d + 1) 282 20 [some (.ref 84), some (.int p), some (.int w), none, none, none, none, none, none] [.int 3, .int p, .ref 84, .int (a + 1), .int 0, .int p, .ref 84] h).trans (((zcvg (h := h) (as := [.int p, .int 3]) (r := [.int (a + 1), .int 0, .int p, .ref 84]) zgv282_20 znv221 rfl a84 rfl e3) : zex E (n + 15) (d + 1) 282 20 [some (.ref 84), some (.int p), some (.int w), none, none, none, none, none, none] [.int 3, .int p, .ref 84, .int (a + 1), .int 0, .int p, .ref 84] h = zex E (n + 14) (d + 1) 282 23 [some (.ref 84), some (.int p), some (.int w), none, none, none, none, none, none] [.int l, .int (a + 1), .int 0, .int p, .ref 84] h).trans (((yRem zgv282_23 hl) : zex E (n + 14) (d + 1) 282 23 [some (.ref 84), some (.int p), some (.int w), none, none, none, none, none, none] [.int l, .int (a + 1), .int 0, .int p, .ref 84] h = zex E (n + 13) (d + 1) 282 24 [some (.ref 84), some (.int p), some (.int w), none, none, none, none, none, none] [.int ((a + 1) - (a + 1) / l * l), .int 0, .int p, .ref 84] h).trans (((zcvg (v := none) (h := h) (as := [.int p, .int 0, .int ((a + 1) - (a + 1) / l * l)]) (r := []) zgv282_24 znv222 rfl a84 rfl e4) : zex E (n + 13) (d + 1) 282 24 [some (.ref 84), some (.int p), some (.int w), none, none, none, none, none, none] [.int ((a + 1) - (a + 1) / l * l), .int 0, .int p, .ref 84] h = zex E (n + 12) (d + 1) 282 27 [some (.ref 84), some (.int p), some (.int w), none, none, none, none, none, none] [] h1).trans (((yAn zgv282_27 rfl rfl) : zex E (n + 12) (d + 1) 282 27 [some (.ref 84), some (.int p), some (.int w), none, none, none, none, none, none] [] h1 = zex E (n + 11) (d + 1) 282 28 [some (.ref 84), some (.int p), some (.int w), none, none, none, none, none, none] [.ref 84] h1).trans (((yIn zgv282_28 rfl) : zex E (n + 11) (d + 1) 282 28 [some (.ref 84), some (.int p), some (.int w), none, none, none, none, none, none] [.ref 84] h1 = zex E (n + 10) (d + 1) 282 29 [some (.ref 84), some (.int p), some (.int w), none, none, none, none, none, none] [.int p, .ref 84] h1).trans (((zcvg (h := h1) (as := [.int p]) (r := []) zgv282_29 znv223 rfl a84_h1 rfl e5) : zex E (n + 10) (d + 1) 282 29 [some (.ref 84), some (.int p), some (.int w), none, none, none, none, none, none] [.int p, .ref 84] h1 = zex E (n + 9) (d + 1) 282 32 [some (.ref 84), some (.int p), some (.int w), none, none, none, none, none, none] [.int r] h1).trans (((ySn zgv282_32) : zex E (n + 9) (d + 1) 282 32 [some (.ref 84), some (.int p), some (.int w), none, none, none, none, none, none] [.int r] h1 = zex E (n + 8) (d + 1) 282 33 [some (.ref 84), some (.int p), some (.int w), some (.int r), none, none, none, none, none] [] h1).trans (((yIn zgv282_33 rfl) : zex E (n + 8) (d + 1) 282 33 [some (.ref 84), some (.int p), some (.int w), some (.int r), none, none, none, none, none] [] h1 = zex E (n + 7) (d + 1) 282 34 [some (.ref 84), some (.int p), some (.int w), some (.int r), none, none, none, none, none] [.int p] h1).trans (((yCb zgv282_34) : zex E (n + 7) (d + 1) 282 34 [some (.ref 84), some (.int p), some (.int w), some (.int r), none, none, none, none, none] [.int p] h1 = zex E (n + 6) (d + 1) 282 36 [some (.ref 84), some (.int p), some (.int w), some (.int r), none, none, none, none, none] [.int 16, .int p] h1).trans (((zcvs (as := [.int p, .int 16]) (r := []) zgv282_36 znv219 rfl rfl e6) : zex E (n + 6) (d + 1) 282 36 [some (.ref 84), some (.int p), some (.int w), some (.int r), none, none, none, none, none] [.int 16, .int p] h1 = zex E (n + 5) (d + 1) 282 39 [some (.ref 84), some (.int p), some (.int w), some (.int r), none, none, none, none, none] [.int x] h1).trans (((yS zgv282_39) : zex E (n + 5) (d + 1) 282 39 [some (.ref 84), some (.int p), some (.int w), some (.int r), none, none, none, none, none] [.int x] h1 = zex E (n + 4) (d + 1) 282 41 [some (.ref 84), some (.int p), some (.int w), some (.int r), some (.int x), none, none, none, none] [] h1).trans (((yIn zgv282_41 rfl) : zex E (n + 4) (d + 1) 282 41 [some (.ref 84), some (.int p), some (.int w), some (.int r), some (.int x), none, none, none, none] [] h1 = zex E (n + 3) (d + 1) 282 42 [some (.ref 84), some (.int p), some (.int w), some (.int r), some (.int x), none, none, none, none] [.int r] h1).trans (((yCi zgv282_42) : zex E (n + 3) (d + 1) 282 42 [some (.ref 84), some (.int p), some (.int w), some (.int r), some (.int x), none, none, none, none] [.int r] h1 = zex E (n + 2) (d + 1) 282 43 [some (.ref 84), some (.int p), some (.int w), some (.int r), some (.int x), none, none, none, none] [.int 3, .int r] h1).trans (((zcvs (as := [.int r, .int 3]) (r := []) zgv282_43 znv218 rfl rfl e7) : zex E (n + 2) (d + 1) 282 43 [some (.ref 84), some (.int p), some (.int w), some (.int r), some (.int x), none, none, none, none] [.int 3, .int r] h1 = zex E (n + 1) (d + 1) 282 46 [some (.ref 84), some (.int p), some (.int w), some (.int r), some (.int x), none, none, none, none] [.int y] h1).trans (((yS zgv282_46) : zex E (n + 1) (d + 1) 282 46 [some (.ref 84), some (.int p), some (.int w), some (.int r), some (.int x), none, none, none, none] [.int y] h1 = zex E n (d + 1) 282 48 [some (.ref 84), some (.int p), some (.int w), some (.int r), some (.int x), some (.int y), none, none, none] [] h1)))))))))))))))))))))))))))))))
set_option maxRecDepth 100000 in
theorem gm_w {E : zE} {n d : Nat} {h h1 : zH} {p x w : Int32} {u2 u3 u4 u5 u6 u8 : Option Value}  (a84 : zat h.1 84 = some (.inr (.inl (12, [none, some (some 85), some (some 86), some (some 87), some (some 88), some (some 89), none, none, some (some 90), none, none, none, none, none, none, some (some 91), none, some (some 92), some (some 93)])))) (e1 : zex E (n + 6) d 221 0 [some (.ref 84), some (.int p), some (.int 2)] [] h = some (.inl (some (.int w)), h)) (e2 : zex E (n + 2) d 222 0 [some (.ref 84), some (.int p), some (.int 2), some (.int (if 0 < (w - 1) then (w - 1) else 0))] [] h = some (.inl none, h1)) : zex E (n + 14) (d + 1) 282 217 [some (.ref 84), some (.int p), u2, u3, u4, u5, u6, some (.int x), u8] [] h = some (.inl (some (.int x)), h1) :=
  ((yAn zgv282_217 rfl rfl) : zex E (n + 14) (d + 1) 282 217 [some (.ref 84), some (.int p), u2, u3, u4, u5, u6, some (.int x), u8] [] h = zex E (n + 13) (d + 1) 282 218 [some (.ref 84), some (.int p), u2, u3, u4, u5, u6, some (.int x), u8] [.ref 84] h).trans (((yIn zgv282_218 rfl) : zex E (n + 13) (d + 1) 282 218 [some (.ref 84), some (.int p), u2, u3, u4, u5, u6, some (.int x), u8] [.ref 84] h = zex E (n + 12) (d + 1) 282 219 [some (.ref 84), some (.int p), u2, u3, u4, u5, u6, some (.int x), u8] [.int p, .ref 84] h).trans (((yCi zgv282_219) : zex E (n + 12) (d + 1) 282 219 [some (.ref 84), some (.int p), u2, u3, u4, u5, u6, some (.int x), u8] [.int p, .ref 84] h = zex E (n + 11) (d + 1) 282 220 [some (.ref 84), some (.int p), u2, u3, u4, u5, u6, some (.int x), u8] [.int 2, .int p, .ref 84] h).trans (((yCi zgv282_220) : zex E (n + 11) (d + 1) 282 220 [some (.ref 84), some (.int p), u2, u3, u4, u5, u6, some (.int x), u8] [.int 2, .int p, .ref 84] h = zex E (n + 10) (d + 1) 282 221 [some (.ref 84), some (.int p), u2, u3, u4, u5, u6, some (.int x), u8] [.int 0, .int 2, .int p, .ref 84] h).trans (((yAn zgv282_221 rfl rfl) : zex E (n + 10) (d + 1) 282 221 [some (.ref 84), some (.int p), u2, u3, u4, u5, u6, some (.int x), u8] [.int 0, .int 2, .int p, .ref 84] h = zex E (n + 9) (d + 1) 282 222 [some (.ref 84), some (.int p), u2, u3, u4, u5, u6, some (.int x), u8] [.ref 84, .int 0, .int 2, .int p, .ref 84] h).trans (((yIn zgv282_222 rfl) : zex E (n + 9) (d + 1) 282 222 [some (.ref 84), some (.int p), u2, u3, u4, u5, u6, some (.int x), u8] [.ref 84, .int 0, .int 2, .int p, .ref 84] h = zex E (n + 8) (d + 1) 282 223 [some (.ref 84), some (.int p), u2, u3, u4, u5, u6, some (.int x), u8] [.int p, .ref 84, .int 0, .int 2, .int p, .ref 84] h).trans (((yCi zgv282_223) : zex E (n + 8) (d + 1) 282 223 [some (.ref 84), some (.int p), u2, u3, u4, u5, u6, some (.int x), u8] [.int p, .ref 84, .int 0, .int 2, .int p, .ref 84] h = zex E (n + 7) (d + 1) 282 224 [some (.ref 84), some (.int p), u2, u3, u4, u5, u6, some (.int x), u8] [.int 2, .int p, .ref 84, .int 0, .int 2, .int p, .ref 84] h).trans (((zcvg (h := h) (as := [.int p, .int 2]) (r := [.int 0, .int 2, .int p, .ref 84]) zgv282_224 znv221 rfl a84 rfl e1) : zex E (n + 7) (d + 1) 282 224 [some (.ref 84), some (.int p), u2, u3, u4, u5, u6, some (.int x), u8] [.int 2, .int p, .ref 84, .int 0, .int 2, .int p, .ref 84] h = zex E (n + 6) (d + 1) 282 227 [some (.ref 84), some (.int p), u2, u3, u4, u5, u6, some (.int x), u8] [.int w, .int 0, .int 2, .int p, .ref 84] h).trans (((yCi zgv282_227) : zex E (n + 6) (d + 1) 282 227 [some (.ref 84), some (.int p), u2, u3, u4, u5, u6, some (.int x), u8] [.int w, .int 0, .int 2, .int p, .ref 84] h = zex E (n + 5) (d + 1) 282 228 [some (.ref 84), some (.int p), u2, u3, u4, u5, u6, some (.int x), u8] [.int 1, .int w, .int 0, .int 2, .int p, .ref 84] h).trans (((ySub zgv282_228) : zex E (n + 5) (d + 1) 282 228 [some (.ref 84), some (.int p), u2, u3, u4, u5, u6, some (.int x), u8] [.int 1, .int w, .int 0, .int 2, .int p, .ref 84] h = zex E (n + 4) (d + 1) 282 229 [some (.ref 84), some (.int p), u2, u3, u4, u5, u6, some (.int x), u8] [.int (w - 1), .int 0, .int 2, .int p, .ref 84] h).trans (((yMax zgv282_229 rfl) : zex E (n + 4) (d + 1) 282 229 [some (.ref 84), some (.int p), u2, u3, u4, u5, u6, some (.int x), u8] [.int (w - 1), .int 0, .int 2, .int p, .ref 84] h = zex E (n + 3) (d + 1) 282 232 [some (.ref 84), some (.int p), u2, u3, u4, u5, u6, some (.int x), u8] [.int (if 0 < (w - 1) then (w - 1) else 0), .int 2, .int p, .ref 84] h).trans (((zcvg (v := none) (h := h) (as := [.int p, .int 2, .int (if 0 < (w - 1) then (w - 1) else 0)]) (r := []) zgv282_232 znv222 rfl a84 rfl e2) : zex E (n + 3) (d + 1) 282 232 [some (.ref 84), some (.int p), u2, u3, u4, u5, u6, some (.int x), u8] [.int (if 0 < (w - 1) then (w - 1) else 0), .int 2, .int p, .ref 84] h = zex E (n + 2) (d + 1) 282 235 [some (.ref 84), some (.int p), u2, u3, u4, u5, u6, some (.int x), u8] [] h1).trans (((yI zgv282_235 rfl) : zex E (n + 2) (d + 1) 282 235 [some (.ref 84), some (.int p), u2, u3, u4, u5, u6, some (.int x), u8] [] h1 = zex E (n + 1) (d + 1) 282 237 [some (.ref 84), some (.int p), u2, u3, u4, u5, u6, some (.int x), u8] [.int x] h1).trans (((yRet1 zgv282_237 rfl) : zex E (n + 1) (d + 1) 282 237 [some (.ref 84), some (.int p), u2, u3, u4, u5, u6, some (.int x), u8] [.int x] h1 = some (.inl (some (.int x)), h1)))))))))))))))
set_option maxRecDepth 100000 in
theorem gm_0 {E : zE} {n d : Nat} {h : zH}     : zex E (n + 4) d 283 0 [some (.ref 84), none, none] [] h = zex E n d 283 4 [some (.ref 84), some (.int 0), some (.int 0)] [] h :=
  ((yCi zgv283_0) : zex E (n + 4) d 283 0 [some (.ref 84), none, none] [] h = zex E (n + 3) d 283 1 [some (.ref 84), none, none] [.int 0] h).trans (((ySn zgv283_1) : zex E (n + 3) d 283 1 [some (.ref 84), none, none] [.int 0] h = zex E (n + 2) d 283 2 [some (.ref 84), some (.int 0), none] [] h).trans (((yCi zgv283_2) : zex E (n + 2) d 283 2 [some (.ref 84), some (.int 0), none] [] h = zex E (n + 1) d 283 3 [some (.ref 84), some (.int 0), none] [.int 0] h).trans (((ySn zgv283_3) : zex E (n + 1) d 283 3 [some (.ref 84), some (.int 0), none] [.int 0] h = zex E n d 283 4 [some (.ref 84), some (.int 0), some (.int 0)] [] h))))
set_option maxRecDepth 100000 in
theorem gm_p {E : zE} {n d : Nat} {h h1 : zH} {s i q x : Int32} (hi : i.toInt < q.toInt) (a84 : zat h.1 84 = some (.inr (.inl (12, [none, some (some 85), some (some 86), some (some 87), some (some 88), some (some 89), none, none, some (some 90), none, none, none, none, none, none, some (some 91), none, some (some 92), some (some 93)])))) (e1 : zex E (n + 9) d 217 0 [some (.ref 84)] [] h = some (.inl (some (.int q)), h)) (e2 : zex E (n + 4) d 282 0 [some (.ref 84), some (.int i), none, none, none, none, none, none, none] [] h = some (.inl (some (.int x)), h1)) : zex E (n + 12) (d + 1) 283 4 [some (.ref 84), some (.int s), some (.int i)] [] h = zex E n (d + 1) 283 4 [some (.ref 84), some (.int (s + x)), some (.int (i + 1))] [] h1 :=
  ((yIn zgv283_4 rfl) : zex E (n + 12) (d + 1) 283 4 [some (.ref 84), some (.int s), some (.int i)] [] h = zex E (n + 11) (d + 1) 283 5 [some (.ref 84), some (.int s), some (.int i)] [.int i] h).trans (((yAn zgv283_5 rfl rfl) : zex E (n + 11) (d + 1) 283 5 [some (.ref 84), some (.int s), some (.int i)] [.int i] h = zex E (n + 10) (d + 1) 283 6 [some (.ref 84), some (.int s), some (.int i)] [.ref 84, .int i] h).trans (((zcvg (h := h) (as := []) (r := [.int i]) zgv283_6 znv217 rfl a84 rfl e1) : zex E (n + 10) (d + 1) 283 6 [some (.ref 84), some (.int s), some (.int i)] [.ref 84, .int i] h = zex E (n + 9) (d + 1) 283 9 [some (.ref 84), some (.int s), some (.int i)] [.int q, .int i] h).trans (((zkgF zgv283_9 hi) : zex E (n + 9) (d + 1) 283 9 [some (.ref 84), some (.int s), some (.int i)] [.int q, .int i] h = zex E (n + 8) (d + 1) 283 12 [some (.ref 84), some (.int s), some (.int i)] [] h).trans (((yIn zgv283_12 rfl) : zex E (n + 8) (d + 1) 283 12 [some (.ref 84), some (.int s), some (.int i)] [] h = zex E (n + 7) (d + 1) 283 13 [some (.ref 84), some (.int s), some (.int i)] [.int s] h).trans (((yAn zgv283_13 rfl rfl) : zex E (n + 7) (d + 1) 283 13 [some (.ref 84), some (.int s), some (.int i)] [.int s] h = zex E (n + 6) (d + 1) 283 14 [some (.ref 84), some (.int s), some (.int i)] [.ref 84, .int s] h).trans (((yIn zgv283_14 rfl) : zex E (n + 6) (d + 1) 283 14 [some (.ref 84), some (.int s), some (.int i)] [.ref 84, .int s] h = zex E (n + 5) (d + 1) 283 15 [some (.ref 84), some (.int s), some (.int i)] [.int i, .ref 84, .int s] h).trans (((zcvg (h := h) (as := [.int i]) (r := [.int s]) zgv283_15 znv282 rfl a84 rfl e2) : zex E (n + 5) (d + 1) 283 15 [some (.ref 84), some (.int s), some (.int i)] [.int i, .ref 84, .int s] h = zex E (n + 4) (d + 1) 283 18 [some (.ref 84), some (.int s), some (.int i)] [.int x, .int s] h1).trans (((yAdd zgv283_18) : zex E (n + 4) (d + 1) 283 18 [some (.ref 84), some (.int s), some (.int i)] [.int x, .int s] h1 = zex E (n + 3) (d + 1) 283 19 [some (.ref 84), some (.int s), some (.int i)] [.int (s + x)] h1).trans (((ySn zgv283_19) : zex E (n + 3) (d + 1) 283 19 [some (.ref 84), some (.int s), some (.int i)] [.int (s + x)] h1 = zex E (n + 2) (d + 1) 283 20 [some (.ref 84), some (.int (s + x)), some (.int i)] [] h1).trans (((yInc zgv283_20 rfl) : zex E (n + 2) (d + 1) 283 20 [some (.ref 84), some (.int (s + x)), some (.int i)] [] h1 = zex E (n + 1) (d + 1) 283 23 [some (.ref 84), some (.int (s + x)), some (.int (i + 1))] [] h1).trans (((yGo zgv283_23) : zex E (n + 1) (d + 1) 283 23 [some (.ref 84), some (.int (s + x)), some (.int (i + 1))] [] h1 = zex E n (d + 1) 283 4 [some (.ref 84), some (.int (s + x)), some (.int (i + 1))] [] h1))))))))))))
set_option maxRecDepth 100000 in
theorem gm_e {E : zE} {n d : Nat} {h : zH} {s i q : Int32} (hi : q.toInt ≤ i.toInt) (a84 : zat h.1 84 = some (.inr (.inl (12, [none, some (some 85), some (some 86), some (some 87), some (some 88), some (some 89), none, none, some (some 90), none, none, none, none, none, none, some (some 91), none, some (some 92), some (some 93)])))) (e1 : zex E (n + 3) d 217 0 [some (.ref 84)] [] h = some (.inl (some (.int q)), h)) : zex E (n + 6) (d + 1) 283 4 [some (.ref 84), some (.int s), some (.int i)] [] h = zex E n (d + 1) 283 28 [some (.ref 84), some (.int s), some (.int 0)] [] h :=
  ((yIn zgv283_4 rfl) : zex E (n + 6) (d + 1) 283 4 [some (.ref 84), some (.int s), some (.int i)] [] h = zex E (n + 5) (d + 1) 283 5 [some (.ref 84), some (.int s), some (.int i)] [.int i] h).trans (((yAn zgv283_5 rfl rfl) : zex E (n + 5) (d + 1) 283 5 [some (.ref 84), some (.int s), some (.int i)] [.int i] h = zex E (n + 4) (d + 1) 283 6 [some (.ref 84), some (.int s), some (.int i)] [.ref 84, .int i] h).trans (((zcvg (h := h) (as := []) (r := [.int i]) zgv283_6 znv217 rfl a84 rfl e1) : zex E (n + 4) (d + 1) 283 6 [some (.ref 84), some (.int s), some (.int i)] [.ref 84, .int i] h = zex E (n + 3) (d + 1) 283 9 [some (.ref 84), some (.int s), some (.int i)] [.int q, .int i] h).trans (((zkgT zgv283_9 hi) : zex E (n + 3) (d + 1) 283 9 [some (.ref 84), some (.int s), some (.int i)] [.int q, .int i] h = zex E (n + 2) (d + 1) 283 26 [some (.ref 84), some (.int s), some (.int i)] [] h).trans (((yCi zgv283_26) : zex E (n + 2) (d + 1) 283 26 [some (.ref 84), some (.int s), some (.int i)] [] h = zex E (n + 1) (d + 1) 283 27 [some (.ref 84), some (.int s), some (.int i)] [.int 0] h).trans (((ySn zgv283_27) : zex E (n + 1) (d + 1) 283 27 [some (.ref 84), some (.int s), some (.int i)] [.int 0] h = zex E n (d + 1) 283 28 [some (.ref 84), some (.int s), some (.int 0)] [] h))))))
set_option maxRecDepth 100000 in
theorem gm_f {E : zE} {n d : Nat} {h : zH} {s v : Int32} {u2 : Option Value} (hv : h.2.1 85 5 = v) (a84 : zat h.1 84 = some (.inr (.inl (12, [none, some (some 85), some (some 86), some (some 87), some (some 88), some (some 89), none, none, some (some 90), none, none, none, none, none, none, some (some 91), none, some (some 92), some (some 93)])))) (a85 : zat h.1 85 = some (.inl (0, 2475, [])))  : zex E (n + 10) d 283 91 [some (.ref 84), some (.int s), u2] [] h = some (.inl (some (.int s)), (zsetI h 85 (upd (h.2.1 85) 5 (v + 1)))) :=
  ((yAn zgv283_91 rfl rfl) : zex E (n + 10) d 283 91 [some (.ref 84), some (.int s), u2] [] h = zex E (n + 9) d 283 92 [some (.ref 84), some (.int s), u2] [.ref 84] h).trans (((zgx zgv283_92 a84 rfl) : zex E (n + 9) d 283 92 [some (.ref 84), some (.int s), u2] [.ref 84] h = zex E (n + 8) d 283 95 [some (.ref 84), some (.int s), u2] [.ref 85] h).trans (((yCi zgv283_95) : zex E (n + 8) d 283 95 [some (.ref 84), some (.int s), u2] [.ref 85] h = zex E (n + 7) d 283 96 [some (.ref 84), some (.int s), u2] [.int 5, .ref 85] h).trans (((yDup2 zgv283_96 rfl) : zex E (n + 7) d 283 96 [some (.ref 84), some (.int s), u2] [.int 5, .ref 85] h = zex E (n + 6) d 283 97 [some (.ref 84), some (.int s), u2] [.int 5, .ref 85, .int 5, .ref 85] h).trans (((zlk zgv283_97 a85 (by decide : (5 : Int32).toInt = ((5 : Nat) : Int)) (by decide) hv) : zex E (n + 6) d 283 97 [some (.ref 84), some (.int s), u2] [.int 5, .ref 85, .int 5, .ref 85] h = zex E (n + 5) d 283 98 [some (.ref 84), some (.int s), u2] [.int v, .int 5, .ref 85] h).trans (((yCi zgv283_98) : zex E (n + 5) d 283 98 [some (.ref 84), some (.int s), u2] [.int v, .int 5, .ref 85] h = zex E (n + 4) d 283 99 [some (.ref 84), some (.int s), u2] [.int 1, .int v, .int 5, .ref 85] h).trans (((yAdd zgv283_99) : zex E (n + 4) d 283 99 [some (.ref 84), some (.int s), u2] [.int 1, .int v, .int 5, .ref 85] h = zex E (n + 3) d 283 100 [some (.ref 84), some (.int s), u2] [.int (v + 1), .int 5, .ref 85] h).trans (((zsk zgv283_100 a85 (by decide : (5 : Int32).toInt = ((5 : Nat) : Int)) (by decide)) : zex E (n + 3) d 283 100 [some (.ref 84), some (.int s), u2] [.int (v + 1), .int 5, .ref 85] h = zex E (n + 2) d 283 101 [some (.ref 84), some (.int s), u2] [] (zsetI h 85 (upd (h.2.1 85) 5 (v + 1)))).trans (((yIn zgv283_101 rfl) : zex E (n + 2) d 283 101 [some (.ref 84), some (.int s), u2] [] (zsetI h 85 (upd (h.2.1 85) 5 (v + 1))) = zex E (n + 1) d 283 102 [some (.ref 84), some (.int s), u2] [.int s] (zsetI h 85 (upd (h.2.1 85) 5 (v + 1)))).trans (((yRet1 zgv283_102 rfl) : zex E (n + 1) d 283 102 [some (.ref 84), some (.int s), u2] [.int s] (zsetI h 85 (upd (h.2.1 85) 5 (v + 1))) = some (.inl (some (.int s)), (zsetI h 85 (upd (h.2.1 85) 5 (v + 1))))))))))))))
def gq3 : Option bV := some (.inr (.inl (.ref 3)))
def gq18 : Option bV := some (.inr (.inl (.ref 18)))
def gq25 : Option bV := some (.inr (.inl (.ref 25)))
def gvW : Nat := 4355989927458777333760
def gvX : Nat := 1854482680916828779028270003638456239781783461273426901487034507667364772839424
def gvV : Nat := 4149515568880992958512407863691161151012446232242436899995657329690652811412908146399707048947103794288197886611300789182395151075411775307886874834113963687061181803401509523685375
def gvN1 : bNd := (216, [gq3, gq18, some (.inl (0, [(0, 1)])), gq25, some (.inl (0, [(2, 1)])), some (.inl (0, [(1, 1)])), some (.inl (0, [(3, 1)]))], [(0, 7), (0, 11), (0, 11), iFull], [], [], (0, []), (0, []), (0, []))
set_option maxRecDepth 100000 in
theorem gvD1 : btz gvW (60, smT) ctb ag_no9 66 118 1000000 3 [gvN1] (3, [(0, 7), (0, 11), (0, 11)], [], [], (0, []), (0, [])) 84 [gq3, gq18, some (.inl (0, [(0, 1)])), gq25, some (.inl (0, [(2, 1)])), some (.inl (0, [(1, 1)])), none] = true := by decide +kernel
set_option maxRecDepth 100000 in
theorem gvD2 : btz gvW (60, smT) ctb (bfn 0 0 4 (bidl 4 0) [([iFull], [], some (.inl (0, [(4, 1)])), [])]) 66 118 1000000 4 [] (4, [(0, 7), (0, 11), (0, 11), iFull], [], [], (0, []), (0, [])) 234 [gq3, gq18, some (.inl (0, [(0, 1)])), gq25, some (.inl (0, [(2, 1)])), some (.inl (0, [(1, 1)])), some (.inl (0, [(3, 1)]))] = true := by decide +kernel
def gvN2 : bNd := (37, [gq3, gq18, gq25, some (.inl (0, [(1, 1)])), some (.inl (1, [(0, 1)]))], [(0, 12), iFull], [(11, [(0, -1)])], [], (0, []), (0, []), (0, []))
def gvN3 : bNd := (97, [gq3, gq18, gq25, some (.inl (0, [(1, 1)])), none], [(0, 12), iFull], [], [], (0, []), (0, []), (0, []))
set_option maxRecDepth 100000 in
theorem gvD3 : btz gvW (60, smT) ctb ag_no9 66 117 1000000 2 [gvN2, gvN3] (2, [(0, 12), iFull], [], [], (0, []), (0, [])) 37 [gq3, gq18, gq25, some (.inl (0, [(1, 1)])), some (.inl (0, [(0, 1)]))] = true := by decide +kernel
def gvN4 : bNd := (217, [q84, some (.inl (0, [(0, 1)])), none, none, none, none, none, some (.inl (0, [(3, 1)])), none], [(0, 7), (0, 11), (0, 11), iFull], [], [], (0, []), (0, []), (0, []))
set_option maxRecDepth 100000 in
theorem gvD4 : btz gvX (60, smT) ctb ag_no9 66 282 1000000 3 [gvN4] (3, [(0, 7), (0, 11), (0, 11)], [], [], (0, []), (0, [])) 48 [q84, some (.inl (0, [(0, 1)])), some (.inl (0, [(1, 1)])), some (.inl (0, [(2, 1)])), some (.inl (201, [(0, 24)])), some (.inl (16, [(2, 11)])), none, none, none] = true := by decide +kernel
def gvN5 : bNd := (28, [q84, some (.inl (0, [(1, 1)])), some (.inl (1, [(0, 1)]))], [(0, 12), iFull], [(11, [(0, -1)])], [], (0, []), (0, []), (0, []))
def gvN6 : bNd := (91, [q84, some (.inl (0, [(1, 1)])), none], [(0, 12), iFull], [], [], (0, []), (0, []), (0, []))
set_option maxRecDepth 100000 in
theorem gvD5 : btz gvX (60, smT) ctb ag_no9 66 283 1000000 2 [gvN5, gvN6] (2, [(0, 12), iFull], [], [], (0, []), (0, [])) 28 [q84, some (.inl (0, [(1, 1)])), some (.inl (0, [(0, 1)]))] = true := by decide +kernel
set_option maxRecDepth 100000 in
theorem segx {E : zE} (hE : E.1 < 2147483648) {tb : bTb} {W : Nat} {h0 h : zH} {V : List Int} {B : Nat} {Q : Option zR → Prop} {sm : bSt9} {fin : bS → Option bV → Bool} {D MI F nv : Nat} {L : List bNd} {env : bE} {cs : bC} {ov : bO} {pc : Nat} {al : bLs} {ls : zLs} {ca sa : Nat}
    (hsm : bSO E tb B sm) (hfin : bFin E tb W h0 V Q fin) (hr : bRQ tb W h0 ca sa h) (hv : benv V env) (hn : nv = V.length) (hcs : bcs V cs) (hov : bOV E V ov h) (hl : bLR V al ls)
    (e : btz W sm tb fin D MI F nv L (nv, env, cs, ov, ((ca : Int), []), ((sa : Int), [])) pc al = true) {B' : Nat} (hB : B ≤ B')
    (hN : ∀ N, N ∈ L → N.2.2.2.2.2.1 = ((ca : Int), []) ∧ N.2.2.2.2.2.2.1 = ((sa : Int), []))
    (hL : ∀ N, N ∈ L → ∀ V' ls' h', bxt V V' → bLR V' N.2.1 ls' → bRQ tb W h0 ca sa h' → ∀ d f, D ≤ d → B' ≤ f → Q (zex E f d MI N.1 ls' [] h')) : ∀ d f, D ≤ d → B' + F ≤ f → Q (zex E f d MI pc ls [] h) := by
  refine btz_s (V := V) (V0 := V) hE hsm hfin (bxt_refl V) hn.symm (bSS_ofQ hr hv hn hcs hov) hl e hB ?_
  intro N hm V' ls' h' hR d f hd hf
  obtain ⟨n2, n3⟩ := hN N hm
  obtain ⟨k0, k1, k2, -⟩ := hR
  rw [n2, n3] at k2
  exact hL N hm V' ls' h' k0 k1 (bRQ_of k2) d f hd hf
set_option maxRecDepth 100000 in
theorem gl_7 {V : List Int} {f0 f1 f2 f3 : bI} {ls : zLs} (h : bLR V [gq3, gq18, some (.inl f0), gq25, some (.inl f1), some (.inl f2), some (.inl f3)] ls) : ∃ p b r x : Int32, ls = [some (.ref 3), some (.ref 18), some (.int p), some (.ref 25), some (.int b), some (.int r), some (.int x)] ∧ p.toInt = bvx V f0 ∧ b.toInt = bvx V f1 ∧ r.toInt = bvx V f2 := by
  match ls, h with
  | [p0, p1, p2, p3, p4, p5, p6], ⟨⟨v0, e0, f0⟩, ⟨v1, e1, f1⟩, ⟨v2, e2, x2, f2, g2⟩, ⟨v3, e3, f3⟩, ⟨v4, e4, x4, f4, g4⟩, ⟨v5, e5, x5, f5, g5⟩, ⟨v6, e6, x6, f6, g6⟩, _⟩ =>
    have f0 : v0 = _ := f0
    have f1 : v1 = _ := f1
    have f3 : v3 = _ := f3
    exact ⟨x2, x4, x5, x6, by rw [e0, e1, e2, e3, e4, e5, e6, f0, f1, f2, f3, f4, f5, f6], brel_x g2, brel_x g4, brel_x g5⟩
set_option maxRecDepth 100000 in
theorem gl_5 {V : List Int} {f0 f1 : bI} {ls : zLs} (h : bLR V [gq3, gq18, gq25, some (.inl f0), some (.inl f1)] ls) : ∃ s i : Int32, ls = [some (.ref 3), some (.ref 18), some (.ref 25), some (.int s), some (.int i)] ∧ s.toInt = bvx V f0 ∧ i.toInt = bvx V f1 := by
  match ls, h with
  | [p0, p1, p2, p3, p4], ⟨⟨v0, e0, f0⟩, ⟨v1, e1, f1⟩, ⟨v2, e2, f2⟩, ⟨v3, e3, x3, f3, g3⟩, ⟨v4, e4, x4, f4, g4⟩, _⟩ =>
    have f0 : v0 = _ := f0
    have f1 : v1 = _ := f1
    have f2 : v2 = _ := f2
    exact ⟨x3, x4, by rw [e0, e1, e2, e3, e4, f0, f1, f2, f3, f4], brel_x g3, brel_x g4⟩
set_option maxRecDepth 100000 in
theorem gl_4 {V : List Int} {f0 : bI} {ls : zLs} (h : bLR V [gq3, gq18, gq25, some (.inl f0), none] ls) : ∃ (s : Int32) (u : Option Value), ls = [some (.ref 3), some (.ref 18), some (.ref 25), some (.int s), u] := by
  match ls, h with
  | [p0, p1, p2, p3, p4], ⟨⟨v0, e0, f0⟩, ⟨v1, e1, f1⟩, ⟨v2, e2, f2⟩, ⟨v3, e3, x3, f3, g3⟩, _, _⟩ =>
    have f0 : v0 = _ := f0
    have f1 : v1 = _ := f1
    have f2 : v2 = _ := f2
    exact ⟨x3, p4, by rw [e0, e1, e2, e3, f0, f1, f2, f3]⟩
set_option maxRecDepth 100000 in
theorem gl_9 {V : List Int} {f0 f1 : bI} {ls : zLs} (h : bLR V [q84, some (.inl f0), none, none, none, none, none, some (.inl f1), none] ls) : ∃ (p x : Int32) (u2 u3 u4 u5 u6 u8 : Option Value), ls = [some (.ref 84), some (.int p), u2, u3, u4, u5, u6, some (.int x), u8] ∧ p.toInt = bvx V f0 := by
  match ls, h with
  | [p0, p1, p2, p3, p4, p5, p6, p7, p8], ⟨⟨v0, e0, f0⟩, ⟨v1, e1, x1, f1, g1⟩, _, _, _, _, _, ⟨v7, e7, x7, f7, g7⟩, _, _⟩ =>
    have f0 : v0 = _ := f0
    exact ⟨x1, x7, p2, p3, p4, p5, p6, p8, by rw [e0, e1, e7, f0, f1, f7], brel_x g1⟩
set_option maxRecDepth 100000 in
theorem gl_3 {V : List Int} {f0 f1 : bI} {ls : zLs} (h : bLR V [q84, some (.inl f0), some (.inl f1)] ls) : ∃ s i : Int32, ls = [some (.ref 84), some (.int s), some (.int i)] ∧ s.toInt = bvx V f0 ∧ i.toInt = bvx V f1 := by
  match ls, h with
  | [p0, p1, p2], ⟨⟨v0, e0, f0⟩, ⟨v1, e1, x1, f1, g1⟩, ⟨v2, e2, x2, f2, g2⟩, _⟩ =>
    have f0 : v0 = _ := f0
    exact ⟨x1, x2, by rw [e0, e1, e2, f0, f1, f2], brel_x g1, brel_x g2⟩
set_option maxRecDepth 100000 in
theorem gl_2 {V : List Int} {f0 : bI} {ls : zLs} (h : bLR V [q84, some (.inl f0), none] ls) : ∃ (s : Int32) (u : Option Value), ls = [some (.ref 84), some (.int s), u] := by
  match ls, h with
  | [p0, p1, p2], ⟨⟨v0, e0, f0⟩, ⟨v1, e1, x1, f1, g1⟩, _, _⟩ =>
    have f0 : v0 = _ := f0
    exact ⟨x1, p2, by rw [e0, e1, f0, f1]⟩
set_option maxRecDepth 100000 in
theorem gv_i : ∀ p, p < 8 → ∀ k, k < 12 → (Int32.ofNat p * 12 + Int32.ofNat k).toInt = ((12 * p + k : Nat) : Int) := by decide +kernel
set_option maxRecDepth 100000 in
theorem gv_m : ∀ l, l < 13 → ∀ k, k < l → ((Int32.ofNat k + 1) - (Int32.ofNat k + 1) / Int32.ofNat l * Int32.ofNat l).toInt = (if (k : Int) + 1 < (l : Int) then (k : Int) + 1 else 0) ∧ Int32.ofNat l ≠ 0 := by decide +kernel
set_option maxRecDepth 100000 in
theorem gv_x : ∀ w, w < 100 → (if (Int32.ofNat w - 1) < 0 then (0 : Int32) else (Int32.ofNat w - 1)).toInt = (if 1 ≤ (w : Int) then (w : Int) - 1 else 0) ∧ (if 0 < (Int32.ofNat w - 1) then (Int32.ofNat w - 1) else (0 : Int32)).toInt = (if 1 ≤ (w : Int) then (w : Int) - 1 else 0) := by decide +kernel
set_option maxRecDepth 100000 in
theorem gv_bu : ∀ p, p < 8 → biv 85 (185 + 24 * p) = (0, 11) ∧ biv 85 (187 + 24 * p) = (0, 99) ∧ biv 85 (188 + 24 * p) = (0, 12) ∧ Nat.testBit gvX (bun 85 (185 + 24 * p)) = false ∧ Nat.testBit gvX (bun 85 (187 + 24 * p)) = false ∧ bun 85 (185 + 24 * p) ≠ bun 85 0 ∧ bun 85 (187 + 24 * p) ≠ bun 85 0 := by decide +kernel
/-- what one's going on makes of places and wet -/
def gvS (σ : hSt) (p : Nat) : hSt := (σ.1, σ.2.1, σ.2.2.1, σ.2.2.2.1, σ.2.2.2.2.1, fun q => if q = p then (if spl σ p + 1 < (ssl σ p : Int) then spl σ p + 1 else 0) else spl σ q, σ.2.2.2.2.2.2.1, fun q => if q = p then (if 1 ≤ swt σ p then swt σ p - 1 else 0) else swt σ q)
def gvB (σ : hSt) : Prop := ∀ p, p < sP σ → 0 ≤ spl σ p ∧ spl σ p < (ssl σ p : Int)
set_option maxRecDepth 100000 in
theorem gvS_B {σ : hSt} {p : Nat} (b : gvB σ) (hp : p < sP σ) : gvB (gvS σ p) := by
  intro q hq
  have b1 := b q hq
  show 0 ≤ (if q = p then (if spl σ p + 1 < (ssl σ p : Int) then spl σ p + 1 else 0) else spl σ q) ∧ (if q = p then (if spl σ p + 1 < (ssl σ p : Int) then spl σ p + 1 else 0) else spl σ q) < (ssl σ q : Int)
  by_cases z : q = p
  · subst z
    rw [if_pos rfl]
    by_cases y : spl σ q + 1 < (ssl σ q : Int)
    · rw [if_pos y]; omega
    · rw [if_neg y]; omega
  · rw [if_neg z]; exact b1
set_option maxRecDepth 100000 in
theorem gvS_W {σ : hSt} {p : Nat} (hW : WF σ) : WF (gvS σ p) := hW
def gvN (σ : hSt) : Nat → hSt
  | 0 => σ
  | p + 1 => gvS (gvN σ p) p
set_option maxRecDepth 100000 in
theorem gvN_1 (σ : hSt) : ∀ p, (gvN σ p).1 = σ.1 ∧ (gvN σ p).2.2.1 = σ.2.2.1 ∧ (gvN σ p).2.2.2.2.1 = σ.2.2.2.2.1 ∧ (gvN σ p).2.2.2.2.2.2.1 = σ.2.2.2.2.2.2.1
  | 0 => ⟨rfl, rfl, rfl, rfl⟩
  | p + 1 => gvN_1 σ p
set_option maxRecDepth 100000 in
theorem gvN_P (σ : hSt) (p : Nat) : sP (gvN σ p) = sP σ := by
  show (gvN σ p).1.2.2 = σ.1.2.2
  rw [(gvN_1 σ p).1]
set_option maxRecDepth 100000 in
theorem gvN_W {σ : hSt} (hW : WF σ) : ∀ p, WF (gvN σ p)
  | 0 => hW
  | p + 1 => gvS_W (gvN_W hW p)
set_option maxRecDepth 100000 in
theorem gvN_B {σ : hSt} (hB : gvB σ) : ∀ p, p ≤ sP σ → gvB (gvN σ p)
  | 0, _ => hB
  | p + 1, h => gvS_B (gvN_B hB p (by omega)) (by rw [gvN_P]; omega)
set_option maxRecDepth 100000 in
theorem gvN_q (σ : hSt) : ∀ p q, p ≤ q → spl (gvN σ p) q = spl σ q ∧ swt (gvN σ p) q = swt σ q
  | 0, _, _ => ⟨rfl, rfl⟩
  | p + 1, q, h => by
    have i := gvN_q σ p q (by omega)
    refine ⟨?_, ?_⟩
    · show (if q = p then _ else spl (gvN σ p) q) = _
      rw [if_neg (by omega)]; exact i.1
    · show (if q = p then _ else swt (gvN σ p) q) = _
      rw [if_neg (by omega)]; exact i.2
/-- a ROUND, ROUNDS -/
def gvR1 (σ : hSt) : hSt := gvN σ (sP σ)
def gvRn : Nat → hSt → hSt
  | 0, σ => σ
  | k + 1, σ => gvRn k (gvR1 σ)
def gvA : Nat → Int32 → Int32
  | 0, x => x
  | k + 1, x => gvA k (x + 1)
set_option maxRecDepth 100000 in
theorem gvRC {h h' : zH} {σ : hSt} {p : Nat} (hR : RC h 4 18 σ) (n4 : ∀ k, k < 3 → h'.2.1 4 k = h.2.1 4 k) (n7 : ∀ k, h'.2.1 (4 + 3) k = h.2.1 (4 + 3) k) (n8 : ∀ k, h'.2.1 (4 + 4) k = h.2.1 (4 + 4) k) (n9 : ∀ k, h'.2.1 (4 + 5) k = h.2.1 (4 + 5) k) (n19 : ∀ k, h'.2.1 (18 + 1) k = h.2.1 (18 + 1) k) (n21 : ∀ k, h'.2.1 (18 + 3) k = h.2.1 (18 + 3) k) (k2 : ∀ q, q < 8 → (h'.2.1 (18 + 2) q).toInt = spl (gvS σ p) q) (k4 : ∀ q, q < 8 → (h'.2.1 (18 + 4) q).toInt = swt (gvS σ p) q) : RC h' 4 18 (gvS σ p) := by
  obtain ⟨⟨r1, r2, r3⟩, r4, r5, r6, r7, r8, r9, r10⟩ := hR
  exact ⟨⟨by rw [n4 0 (by decide)]; exact r1, by rw [n4 1 (by decide)]; exact r2, by rw [n4 2 (by decide)]; exact r3⟩, fun a ha => by rw [n7 a]; exact r4 a ha, fun q hq => by rw [n8 q]; exact r5 q hq, fun q hq k hk => by rw [n9]; exact r6 q hq k hk, fun r hr => by rw [n19]; exact r7 r hr, k2, fun q hq => by rw [n21]; exact r9 q hq, k4⟩
def gvFu (c : Nat) : Nat → Nat
  | 0 => c
  | m + 1 => gvFu c m + c
set_option maxRecDepth 100000 in
theorem gvFu_4 : ∀ m, m < 9 → gvFu 4000000 m ≤ 36000000 := by decide +kernel
set_option maxRecDepth 100000 in
theorem gvFu_2 : gvFu 2000000 12 = 26000000 := by decide +kernel
set_option maxRecDepth 100000 in
theorem gvFu_1 : gvFu 100000000 100 = 10100000000 := by decide +kernel
set_option maxRecDepth 100000 in
theorem RC_eqv {h h' : zH} {σ : hSt} (hR : RC h 4 18 σ) (h1 : ∀ k, k < 3 → h'.2.1 4 k = h.2.1 4 k) (h2 : ∀ k, h'.2.1 (4 + 3) k = h.2.1 (4 + 3) k) (h3 : ∀ k, h'.2.1 (4 + 4) k = h.2.1 (4 + 4) k) (h4 : ∀ k, h'.2.1 (4 + 5) k = h.2.1 (4 + 5) k) (h5 : ∀ k, h'.2.1 (18 + 1) k = h.2.1 (18 + 1) k) (h6 : ∀ k, h'.2.1 (18 + 2) k = h.2.1 (18 + 2) k) (h7 : ∀ k, h'.2.1 (18 + 3) k = h.2.1 (18 + 3) k) (h8 : ∀ k, h'.2.1 (18 + 4) k = h.2.1 (18 + 4) k) : RC h' 4 18 σ := by
  obtain ⟨⟨r1, r2, r3⟩, r4, r5, r6, r7, r8, r9, r10⟩ := hR
  exact ⟨⟨by rw [h1 0 (by decide)]; exact r1, by rw [h1 1 (by decide)]; exact r2, by rw [h1 2 (by decide)]; exact r3⟩, fun a ha => by rw [h2 a]; exact r4 a ha, fun q hq => by rw [h3 q]; exact r5 q hq, fun q hq k hk => by rw [h4]; exact r6 q hq k hk, fun r hr => by rw [h5]; exact r7 r hr, fun q hq => by rw [h6]; exact r8 q hq, fun q hq => by rw [h7]; exact r9 q hq, fun q hq => by rw [h8]; exact r10 q hq⟩
section GV
variable {E : zE} {B : Nat}
/-- the class: from where both rooms are known -/
def gvU (g : zH) (p : Nat) (o : Option zR) : Prop := ∃ (x : Int32) (h1 : zH), o = some (.inl (some (.int x)), h1) ∧ (bHI h1 ∧ bPS h1 ∧ bTB ctb h1.1) ∧ (∀ c k, c ≠ 22 → Nat.testBit gvW (bun c k) = false → h1.2.1 c k = g.2.1 c k) ∧ ∀ k, h1.2.1 22 k = upd (g.2.1 22) p (if (g.2.1 22 p - 1) < 0 then 0 else (g.2.1 22 p - 1)) k
set_option maxRecDepth 100000 in
theorem gv22 {h : zH} (gI : bHI h) {p : Nat} : ∃ w : Nat, w < 100 ∧ h.2.1 22 p = Int32.ofNat w ∧ (h.2.1 22 p).toInt = (w : Int) := by
  have b := gI.1 22 p
  rw [show biv 22 p = (0, 99) from rfl] at b
  have b1 : (0 : Int) ≤ (h.2.1 22 p).toInt := b.1
  have b2 : (h.2.1 22 p).toInt ≤ 99 := b.2
  obtain ⟨w, hw⟩ : ∃ w : Nat, (h.2.1 22 p).toInt = (w : Int) := ⟨(h.2.1 22 p).toInt.toNat, by omega⟩
  exact ⟨w, by omega, i32_nat hw, hw⟩
set_option maxRecDepth 100000 in
theorem gvT {g : zH} (hE : E.1 < 2147483648) (hsm : bSO E ctb B (60, smT)) (gI : bHI g) (gP : bPS g) (gT : bTB ctb g.1) {p : Nat} (hp8 : p < 8) {p9 b r : Int32} (hp9 : p9.toInt = (p : Int)) (hb : 0 ≤ b.toInt ∧ b.toInt ≤ 11) (hr : 0 ≤ r.toInt ∧ r.toInt ≤ 11) : ∀ d f, 66 ≤ d → B + 2500000 ≤ f → gvU g p (zex E f d 118 84 [some (.ref 3), some (.ref 18), some (.int p9), some (.ref 25), some (.int b), some (.int r), none] [] g) := by
  intro d f hd hf
  refine segx (V := [p9.toInt, r.toInt, b.toInt]) (al := [gq3, gq18, some (.inl (0, [(0, 1)])), gq25, some (.inl (0, [(2, 1)])), some (.inl (0, [(1, 1)])), none]) (ls := [some (.ref 3), some (.ref 18), some (.int p9), some (.ref 25), some (.int b), some (.int r), none]) (ca := 0) (sa := 0) (nv := 3) (Q := gvU g p) hE hsm (fun V S v w h _ _ _ z => nomatch (show false = true from z)) ⟨gI, gP, gT, fun _ _ _ => rfl, Nat.le_refl _, Nat.le_refl _⟩ (benv_c (by omega) (by omega) (benv_c hr.1 hr.2 (benv_c hb.1 hb.2 benv_n))) rfl bcs_n bov_n ⟨⟨_, rfl, rfl⟩, ⟨_, rfl, rfl⟩, ⟨_, rfl, p9, rfl, brel_v rfl⟩, ⟨_, rfl, rfl⟩, ⟨_, rfl, b, rfl, brel_v rfl⟩, ⟨_, rfl, r, rfl, brel_v rfl⟩, trivial, trivial⟩ gvD1 (B' := B + 1100000) (by omega) ?_ ?_ d f hd (by omega)
  · intro N hN
    cases hN with
    | head => exact ⟨rfl, rfl⟩
    | tail _ hN => exact absurd hN List.not_mem_nil
  · intro N hN V' ls' g1 hx k1 k2 d f hd hf
    cases hN with
    | tail _ hN => exact absurd hN List.not_mem_nil
    | head =>
      have k1 : bLR V' [gq3, gq18, some (.inl (0, [(0, 1)])), gq25, some (.inl (0, [(2, 1)])), some (.inl (0, [(1, 1)])), some (.inl (0, [(3, 1)]))] ls' := k1
      obtain ⟨p', b', r', x', e1, m1, m2, m3⟩ := gl_7 k1
      have n1 : p'.toInt = p9.toInt := m1.trans (brel_x (brel_up hx (brel_v (V := [p9.toInt, r.toInt, b.toInt]) (i := 0) rfl))).symm
      have n2 : b'.toInt = b.toInt := m2.trans (brel_x (brel_up hx (brel_v (V := [p9.toInt, r.toInt, b.toInt]) (i := 2) rfl))).symm
      have n3 : r'.toInt = r.toInt := m3.trans (brel_x (brel_up hx (brel_v (V := [p9.toInt, r.toInt, b.toInt]) (i := 1) rfl))).symm
      obtain ⟨n, hn⟩ : ∃ n, f = n + 12 := ⟨f - 12, by omega⟩
      subst hn
      have gT1 := k2.2.2.1
      have e2 := gv_w (E := E) (n := n) (d := d) (h := g1) (p := p') (b := b') (r := r') (x := x') (w := g1.2.1 22 p) (P := p) (by rw [n1]; exact hp9) hp8 rfl (gT1 18 _ (show bg2 ctb 18 = some (.inr (.inl (0, [some (some 19), some (some 20), some (some 21), some (some 22), some (some 23), some (some 24), none, none, none, none, none, none, none]))) from rfl) (by intro z; cases z)) (gT1 22 _ (show bg2 ctb 22 = some (.inl (0, 8, [])) from rfl) (by intro z; cases z))
      obtain ⟨w, w1, w2, w3⟩ := gv22 (p := p) k2.1
      have v9 : (if (g1.2.1 22 p - 1) < 0 then (0 : Int32) else (g1.2.1 22 p - 1)).toInt = (if 1 ≤ (w : Int) then (w : Int) - 1 else 0) := by rw [w2]; exact (gv_x w w1).1
      have rz := bRQ_set (W := gvV) (c := 22) (j := p) (y := (if (g1.2.1 22 p - 1) < 0 then 0 else (g1.2.1 22 p - 1))) (⟨k2.1, k2.2.1, k2.2.2.1, fun _ _ _ => rfl, Nat.le_refl _, Nat.le_refl _⟩ : bRQ ctb gvV g1 0 0 g1) (show Nat.testBit gvV (bun 22 0) = true by decide +kernel) (by
        rw [show biv 22 p = (0, 99) from rfl, v9]
        show (0 : Int) ≤ _ ∧ _ ≤ (99 : Int)
        by_cases z : 1 ≤ (w : Int)
        · rw [if_pos z]; omega
        · rw [if_neg z]; omega) rfl rfl (by decide) (by decide)
      have f22 : g1.2.1 22 = g.2.1 22 := funext fun k => k2.2.2.2.1 22 k (show Nat.testBit gvW (bun 22 0) = false by decide +kernel)
      rw [e1, show zex E (n + 12) d 118 gvN1.1 [some (.ref 3), some (.ref 18), some (.int p'), some (.ref 25), some (.int b'), some (.int r'), some (.int x')] [] g1 = _ from e2]
      refine seg (V := [p'.toInt, r'.toInt, b'.toInt, x'.toInt]) (al := [gq3, gq18, some (.inl (0, [(0, 1)])), gq25, some (.inl (0, [(2, 1)])), some (.inl (0, [(1, 1)])), some (.inl (0, [(3, 1)]))]) (ls := [some (.ref 3), some (.ref 18), some (.int p'), some (.ref 25), some (.int b'), some (.int r'), some (.int x')]) (ca := 0) (sa := 0) (nv := 4) (Q := gvU g p) hE hsm (fin_i (V := [p'.toInt, r'.toInt, b'.toInt, x'.toInt]) (ca := 0) (sa := 0) rfl (fun y h9 k4 => ⟨y, h9, rfl, ⟨k4.1, k4.2.1, k4.2.2.1⟩, fun c k c2 hb9 => (k4.2.2.2.1 c k hb9).trans ((zs_ne c2).trans (k2.2.2.2.1 c k hb9)), fun k => (k4.2.2.2.1 22 k (show Nat.testBit gvW (bun 22 0) = false by decide +kernel)).trans (by rw [zs_at, f22])⟩)) ⟨rz.1, rz.2.1, rz.2.2.1, fun _ _ _ => rfl, Nat.le_refl _, Nat.le_refl _⟩ (benv_c (by omega) (by omega) (benv_c (by omega) (by omega) (benv_c (by omega) (by omega) (benv_c (bi32 x').1 (bi32 x').2 benv_n)))) rfl bcs_n bov_n ⟨⟨_, rfl, rfl⟩, ⟨_, rfl, rfl⟩, ⟨_, rfl, p', rfl, brel_v rfl⟩, ⟨_, rfl, rfl⟩, ⟨_, rfl, b', rfl, brel_v rfl⟩, ⟨_, rfl, r', rfl, brel_v rfl⟩, ⟨_, rfl, x', rfl, brel_v rfl⟩, trivial⟩ gvD2 (B' := B) (Nat.le_refl _) (fun N hN => absurd hN List.not_mem_nil) (fun N hN => absurd hN List.not_mem_nil) d n hd (by omega)
def gvQ (σ : hSt) (h : zH) (p : Nat) (o : Option zR) : Prop := ∃ (x : Int32) (h1 : zH), o = some (.inl (some (.int x)), h1) ∧ (bHI h1 ∧ bPS h1 ∧ bTB ctb h1.1) ∧ RC h1 4 18 (gvS σ p) ∧ h1.2.1 18 10 = h.2.1 18 10
set_option maxRecDepth 100000 in
theorem gvC {h : zH} {σ : hSt} (hE : E.1 < 2147483648) (hsm : bSO E ctb B (60, smT)) (gI : bHI h) (gP : bPS h) (gT : bTB ctb h.1) (hR : RC h 4 18 σ) (hW : WF σ) (hB : gvB σ) {p : Nat} (hp : p < sP σ) {p9 : Int32} (hp9 : p9.toInt = (p : Int)) : ∀ d f, 68 ≤ d → B + 3000000 ≤ f → gvQ σ h p (zex E f d 118 0 [some (.ref 3), some (.ref 18), some (.int p9), some (.ref 25), none, none, none] [] h) := by
  intro d f hd hf
  obtain ⟨n, hn⟩ : ∃ n, f = n + 200 := ⟨f - 200, by omega⟩
  obtain ⟨d, hd'⟩ : ∃ d', d = d' + 1 := ⟨d - 1, by omega⟩
  subst hn hd'
  obtain ⟨⟨r1, r2, r3⟩, r4, r5, r6, r7, r8, r9, r10⟩ := id hR
  have w3 := hW.2.2.1
  have w6 := hW.2.2.2.2.2 p hp
  have hz := hB p hp
  have hp8 : p < 8 := by omega
  have q8 : (h.2.1 20 p).toInt = spl σ p := r8 p hp8
  have q5 : (h.2.1 8 p).toInt = (ssl σ p : Int) := r5 p hp
  have q10 : (h.2.1 22 p).toInt = swt σ p := r10 p hp8
  obtain ⟨K, hK⟩ : ∃ K : Nat, spl σ p = (K : Int) := ⟨(spl σ p).toNat, by omega⟩
  have a1 : (h.2.1 20 p + 1).toInt = (K : Int) + 1 := by rw [i32_add (by rw [q8, int1]; omega) (by rw [q8, int1]; omega), q8, int1, hK]
  have b9 : ∀ j, (0 : Int) ≤ (h.2.1 9 j).toInt ∧ (h.2.1 9 j).toInt ≤ 11 := fun j => by
    have b := gI.1 9 j
    rw [show biv 9 j = (0, 11) from rfl] at b
    exact b
  have nm : ∀ j, (h.2.1 9 j).toInt ≠ (-1 : Int32).toInt := fun j => by
    have := b9 j
    rw [show (-1 : Int32).toInt = -1 by decide]
    omega
  have st : ∀ (g : zH), g.1 = h.1 → (∀ c k, c ≠ 20 → g.2.1 c k = h.2.1 c k) → ∀ (k9 : Int32) (J : Nat), k9.toInt = (J : Int) → J < ssl σ p → ∀ f, zex E (f + 17) d 173 0 [some (.ref 4), some (.int p9), some (.int k9)] [] g = some (.inl (some (.int (h.2.1 9 (12 * p + J)))), g) := fun g gs gc k9 J hk hJ f => gv_z1 (E := E) (n := f) (d := d) (h := g) (p := p9) (k := k9) (v := h.2.1 8 p) (w := h.2.1 9 (12 * p + J)) (P := p) (J := 12 * p + J) (by omega) hp9 hp8 (gc 8 p (by decide)) (by omega) (by rw [i32_nat hp9, i32_nat hk]; exact gv_i p hp8 J (by omega)) (by omega) (gc 9 _ (by decide)) ((show bTB ctb g.1 by rw [gs]; exact gT) 4 _ (show bg2 ctb 4 = some (.inr (.inl (8, [none, none, none, none, some (some 5), some (some 6), some (some 7), some (some 8), some (some 9)]))) from rfl) (by intro z; cases z)) ((show bTB ctb g.1 by rw [gs]; exact gT) 8 _ (show bg2 ctb 8 = some (.inl (0, 8, [])) from rfl) (by intro z; cases z)) ((show bTB ctb g.1 by rw [gs]; exact gT) 9 _ (show bg2 ctb 9 = some (.inl (0, 96, [])) from rfl) (by intro z; cases z))
  have out : ∀ (A b r : Int32) (f9 : Nat), B + 2500000 ≤ f9 → A.toInt = (if spl σ p + 1 < (ssl σ p : Int) then spl σ p + 1 else 0) → (0 ≤ b.toInt ∧ b.toInt ≤ 11) → (0 ≤ r.toInt ∧ r.toInt ≤ 11) → zex E (n + 200) (d + 1) 118 0 [some (.ref 3), some (.ref 18), some (.int p9), some (.ref 25), none, none, none] [] h = zex E f9 (d + 1) 118 84 [some (.ref 3), some (.ref 18), some (.int p9), some (.ref 25), some (.int b), some (.int r), none] [] (zsetI h 20 (upd (h.2.1 20) p A)) → gvQ σ h p (zex E (n + 200) (d + 1) 118 0 [some (.ref 3), some (.ref 18), some (.int p9), some (.ref 25), none, none, none] [] h) := by
    intro A b r f9 hf9 hA hb hr e
    have rz := bRQ_set (W := gvV) (c := 20) (j := p) (y := A) (⟨gI, gP, gT, fun _ _ _ => rfl, Nat.le_refl _, Nat.le_refl _⟩ : bRQ ctb gvV h 0 0 h) (show Nat.testBit gvV (bun 20 0) = true by decide +kernel) (by
      rw [bva_20, hA]
      show (0 : Int) ≤ _ ∧ _ ≤ (11 : Int)
      by_cases z : spl σ p + 1 < (ssl σ p : Int)
      · rw [if_pos z]; omega
      · rw [if_neg z]; omega) rfl rfl (by decide) (by decide)
    rw [e]
    obtain ⟨x, h1, e1, i1, f1, f2⟩ := gvT (E := E) hE hsm rz.1 rz.2.1 rz.2.2.1 hp8 hp9 hb hr (d + 1) f9 (by omega) hf9
    have z22 : (zsetI h 20 (upd (h.2.1 20) p A)).2.1 22 = h.2.1 22 := funext fun k => zs_ne (by decide)
    rw [z22] at f2
    have cn : ∀ c k, c ≠ 20 → c ≠ 22 → Nat.testBit gvW (bun c k) = false → h1.2.1 c k = h.2.1 c k := fun c k n1 n2 hb9 => by rw [f1 c k n2 hb9, zs_ne n1]
    have c20 : ∀ k, h1.2.1 20 k = upd (h.2.1 20) p A k := fun k => by rw [f1 20 k (by decide) (show Nat.testBit gvW (bun 20 0) = false by decide +kernel), zs_at]
    obtain ⟨w, w1, w2, w3⟩ := gv22 (p := p) gI
    refine ⟨x, h1, e1, i1, gvRC hR (fun k hk => cn 4 k (by decide) (by decide) ?_) (fun k => cn 7 k (by decide) (by decide) (show Nat.testBit gvW (bun 7 0) = false by decide +kernel)) (fun k => cn 8 k (by decide) (by decide) (show Nat.testBit gvW (bun 8 0) = false by decide +kernel)) (fun k => cn 9 k (by decide) (by decide) (show Nat.testBit gvW (bun 9 0) = false by decide +kernel)) (fun k => cn 19 k (by decide) (by decide) (show Nat.testBit gvW (bun 19 0) = false by decide +kernel)) (fun k => cn 21 k (by decide) (by decide) (show Nat.testBit gvW (bun 21 0) = false by decide +kernel)) ?_ ?_, cn 18 10 (by decide) (by decide) (by decide +kernel)⟩
    · rcases (show k = 0 ∨ k = 1 ∨ k = 2 by omega) with z | z | z <;> subst z <;> decide +kernel
    · intro q hq
      show (h1.2.1 20 q).toInt = (if q = p then (if spl σ p + 1 < (ssl σ p : Int) then spl σ p + 1 else 0) else spl σ q)
      rw [c20 q]
      by_cases z : q = p
      · rw [z, upd_e, if_pos rfl]; exact hA
      · rw [upd_n z, if_neg z]; exact r8 q hq
    · intro q hq
      show (h1.2.1 22 q).toInt = (if q = p then (if 1 ≤ swt σ p then swt σ p - 1 else 0) else swt σ q)
      rw [f2 q]
      by_cases z : q = p
      · rw [z, upd_e, if_pos rfl, w2, (gv_x w w1).1, ← q10, w3]
      · rw [upd_n z, if_neg z]; exact r10 q hq
  have e0 := st h rfl (fun _ _ _ => rfl) (h.2.1 20 p) K (by rw [q8, hK]) (by omega)
  by_cases hl : spl σ p + 1 < (ssl σ p : Int)
  · have e1 := st (zsetI h 20 (upd (h.2.1 20) p (h.2.1 20 p + 1))) rfl (fun c k hc => zs_ne hc) (h.2.1 20 p + 1) (K + 1) (by rw [a1]; rfl) (by omega)
    exact out (h.2.1 20 p + 1) _ _ (n + 153) (by omega) (by rw [if_pos hl, a1, hK]) (b9 _) (b9 _) (gv_a (E := E) (n := n + 153) (d := d) (h := h) (p := p9) (a := h.2.1 20 p) (b := h.2.1 9 (12 * p + K)) (l := h.2.1 8 p) (r := h.2.1 9 (12 * p + (K + 1))) (P := p) hp9 hp8 rfl rfl (nm _) (nm _) (by rw [a1, q5]; omega) (by rw [zs_at, upd_e]) (gT 3 _ (show bg2 ctb 3 = some (.inr (.inl (2, [some (some 4), some (some 10), some (some 17)]))) from rfl) (by intro z; cases z)) (gT 4 _ (show bg2 ctb 4 = some (.inr (.inl (8, [none, none, none, none, some (some 5), some (some 6), some (some 7), some (some 8), some (some 9)]))) from rfl) (by intro z; cases z)) (gT 8 _ (show bg2 ctb 8 = some (.inl (0, 8, [])) from rfl) (by intro z; cases z)) (gT 18 _ (show bg2 ctb 18 = some (.inr (.inl (0, [some (some 19), some (some 20), some (some 21), some (some 22), some (some 23), some (some 24), none, none, none, none, none, none, none]))) from rfl) (by intro z; cases z)) (gT 20 _ (show bg2 ctb 20 = some (.inl (0, 8, [])) from rfl) (by intro z; cases z)) (e0 (n + 175)) (e1 (n + 143)))
  · have e1 := st (zsetI h 20 (upd (h.2.1 20) p 0)) rfl (fun c k hc => zs_ne hc) 0 0 (by decide) (by omega)
    exact out 0 _ _ (n + 159) (by omega) (by rw [if_neg hl]; decide) (b9 _) (b9 _) (gv_b (E := E) (n := n + 159) (d := d) (h := h) (p := p9) (a := h.2.1 20 p) (b := h.2.1 9 (12 * p + K)) (l := h.2.1 8 p) (r := h.2.1 9 (12 * p + 0)) (P := p) hp9 hp8 rfl rfl (nm _) (nm _) (by rw [a1, q5]; omega) (by rw [zs_at, upd_e]) (gT 3 _ (show bg2 ctb 3 = some (.inr (.inl (2, [some (some 4), some (some 10), some (some 17)]))) from rfl) (by intro z; cases z)) (gT 4 _ (show bg2 ctb 4 = some (.inr (.inl (8, [none, none, none, none, some (some 5), some (some 6), some (some 7), some (some 8), some (some 9)]))) from rfl) (by intro z; cases z)) (gT 8 _ (show bg2 ctb 8 = some (.inl (0, 8, [])) from rfl) (by intro z; cases z)) (gT 18 _ (show bg2 ctb 18 = some (.inr (.inl (0, [some (some 19), some (some 20), some (some 21), some (some 22), some (some 23), some (some 24), none, none, none, none, none, none, none]))) from rfl) (by intro z; cases z)) (gT 20 _ (show bg2 ctb 20 = some (.inl (0, 8, [])) from rfl) (by intro z; cases z)) (e0 (n + 175)) (e1 (n + 149)))
/-- the class: drains, and the ROUND's end -/
def gvP (h0 : zH) (o : Option zR) : Prop := ∃ (x : Int32) (h9 : zH), o = some (.inl (some (.int x)), h9) ∧ (∀ c k, Nat.testBit gvW (bun c k) = false → ¬(c = 18 ∧ k = 10) → h9.2.1 c k = h0.2.1 c k) ∧ h9.2.1 18 10 = h0.2.1 18 10 + 1
set_option maxRecDepth 100000 in
theorem gvM {h0 : zH} (hE : E.1 < 2147483648) (hsm : bSO E ctb B (60, smT)) : ∀ (m : Nat) (s9 i9 : Int32) (h : zH), i9.toInt + (m : Int) = 12 → 0 ≤ i9.toInt → bRQ ctb gvW h0 0 0 h → ∀ d f, 66 ≤ d → B + gvFu 2000000 m ≤ f → gvP h0 (zex E f d 117 37 [some (.ref 3), some (.ref 18), some (.ref 25), some (.int s9), some (.int i9)] [] h) := by
  intro m
  induction m with
  | zero =>
    intro s9 i9 h hm h9 hr d f hd hf
    have hmul : gvFu 2000000 0 = 2000000 := rfl
    refine segc (V := [i9.toInt, s9.toInt]) (al := [gq3, gq18, gq25, some (.inl (0, [(1, 1)])), some (.inl (0, [(0, 1)]))]) (ls := [some (.ref 3), some (.ref 18), some (.ref 25), some (.int s9), some (.int i9)]) (ca := 0) (sa := 0) (nv := 2) (Q := gvP h0) hE hsm (fun V S v w h _ _ _ z => nomatch (show false = true from z)) hr (benv_c h9 (by omega) (benv_c (bi32 s9).1 (bi32 s9).2 benv_n)) rfl bcs_n bov_n ⟨⟨_, rfl, rfl⟩, ⟨_, rfl, rfl⟩, ⟨_, rfl, rfl⟩, ⟨_, rfl, s9, rfl, brel_v rfl⟩, ⟨_, rfl, i9, rfl, brel_v rfl⟩, trivial⟩ gvD3 (B' := B + 1000000) (by omega) ?_ ?_ d f hd (by omega)
    · intro N hN
      cases hN with
      | head => exact ⟨rfl, rfl, rfl⟩
      | tail _ hN =>
        cases hN with
        | head => exact ⟨rfl, rfl, rfl⟩
        | tail _ hN => exact absurd hN List.not_mem_nil
    · intro N hN ls' h1 k1 k2 k3 d f hd hf
      cases hN with
      | head =>
        have k3 : bcs [i9.toInt, s9.toInt] [(11, [(0, -1)])] := k3
        obtain ⟨y, y1, y2⟩ := k3 _ (List.Mem.head _)
        have y3 : y = 11 + ((-1) * i9.toInt + 0) := brel_x y1
        exact absurd hm (by omega)
      | tail _ hN =>
        cases hN with
        | tail _ hN => exact absurd hN List.not_mem_nil
        | head =>
          have k1 : bLR [i9.toInt, s9.toInt] [gq3, gq18, gq25, some (.inl (0, [(1, 1)])), none] ls' := k1
          obtain ⟨s', u, e1⟩ := gl_4 k1
          rw [e1]
          obtain ⟨n, hn⟩ : ∃ n, f = n + 8 := ⟨f - 8, by omega⟩
          subst hn
          have gT := k2.2.2.1
          refine ⟨_, _, gv_f (E := E) (n := n) (d := d) (h := h1) (s := s') (u4 := u) (gT 18 _ (show bg2 ctb 18 = some (.inr (.inl (0, [some (some 19), some (some 20), some (some 21), some (some 22), some (some 23), some (some 24), none, none, none, none, none, none, none]))) from rfl) (by intro z; cases z)), fun c k hb9 hk => ?_, ?_⟩
          · by_cases hc : c = 18
            · subst hc
              rw [zs_at, upd_n (fun z => hk ⟨rfl, z⟩)]
              exact k2.2.2.2.1 18 k hb9
            · rw [zs_ne hc]
              exact k2.2.2.2.1 c k hb9
          · rw [zs_at, upd_e, k2.2.2.2.1 18 10 (by decide +kernel)]
  | succ m IH =>
    intro s9 i9 h hm h9 hr d f hd hf
    have hmul : gvFu 2000000 (m + 1) = gvFu 2000000 m + 2000000 := rfl
    refine segc (V := [i9.toInt, s9.toInt]) (al := [gq3, gq18, gq25, some (.inl (0, [(1, 1)])), some (.inl (0, [(0, 1)]))]) (ls := [some (.ref 3), some (.ref 18), some (.ref 25), some (.int s9), some (.int i9)]) (ca := 0) (sa := 0) (nv := 2) (Q := gvP h0) hE hsm (fun V S v w h _ _ _ z => nomatch (show false = true from z)) hr (benv_c h9 (by omega) (benv_c (bi32 s9).1 (bi32 s9).2 benv_n)) rfl bcs_n bov_n ⟨⟨_, rfl, rfl⟩, ⟨_, rfl, rfl⟩, ⟨_, rfl, rfl⟩, ⟨_, rfl, s9, rfl, brel_v rfl⟩, ⟨_, rfl, i9, rfl, brel_v rfl⟩, trivial⟩ gvD3 (B' := B + (gvFu 2000000 m + 1000000)) (by omega) ?_ ?_ d f hd (by omega)
    · intro N hN
      cases hN with
      | head => exact ⟨rfl, rfl, rfl⟩
      | tail _ hN =>
        cases hN with
        | head => exact ⟨rfl, rfl, rfl⟩
        | tail _ hN => exact absurd hN List.not_mem_nil
    · intro N hN ls' h1 k1 k2 k3 d f hd hf
      cases hN with
      | head =>
        have k3 : bcs [i9.toInt, s9.toInt] [(11, [(0, -1)])] := k3
        obtain ⟨y, y1, y2⟩ := k3 _ (List.Mem.head _)
        have y3 : y = 11 + ((-1) * i9.toInt + 0) := brel_x y1
        have k1 : bLR [i9.toInt, s9.toInt] [gq3, gq18, gq25, some (.inl (0, [(1, 1)])), some (.inl (1, [(0, 1)]))] ls' := k1
        obtain ⟨s', i', e1, m1, m2⟩ := gl_5 k1
        have m2 : i'.toInt = 1 + (1 * i9.toInt + 0) := m2
        rw [e1]
        exact IH s' i' h1 (by omega) (by omega) k2 d f hd (by omega)
      | tail _ hN =>
        cases hN with
        | tail _ hN => exact absurd hN List.not_mem_nil
        | head =>
          have k1 : bLR [i9.toInt, s9.toInt] [gq3, gq18, gq25, some (.inl (0, [(1, 1)])), none] ls' := k1
          obtain ⟨s', u, e1⟩ := gl_4 k1
          rw [e1]
          obtain ⟨n, hn⟩ : ∃ n, f = n + 8 := ⟨f - 8, by omega⟩
          subst hn
          have gT := k2.2.2.1
          refine ⟨_, _, gv_f (E := E) (n := n) (d := d) (h := h1) (s := s') (u4 := u) (gT 18 _ (show bg2 ctb 18 = some (.inr (.inl (0, [some (some 19), some (some 20), some (some 21), some (some 22), some (some 23), some (some 24), none, none, none, none, none, none, none]))) from rfl) (by intro z; cases z)), fun c k hb9 hk => ?_, ?_⟩
          · by_cases hc : c = 18
            · subst hc
              rw [zs_at, upd_n (fun z => hk ⟨rfl, z⟩)]
              exact k2.2.2.2.1 18 k hb9
            · rw [zs_ne hc]
              exact k2.2.2.2.1 c k hb9
          · rw [zs_at, upd_e, k2.2.2.2.1 18 10 (by decide +kernel)]
def gvR (σ : hSt) (r : Int32) (o : Option zR) : Prop := ∃ (x : Int32) (h9 : zH), o = some (.inl (some (.int x)), h9) ∧ RC h9 4 18 (gvR1 σ) ∧ h9.2.1 18 10 = r + 1
set_option maxRecDepth 100000 in
theorem gvL {σ : hSt} {r : Int32} (hE : E.1 < 2147483648) (hsm : bSO E ctb B (60, smT)) (hW : WF σ) (hB : gvB σ) : ∀ (m i : Nat) (s9 i9 : Int32) (h : zH), i + m = sP σ → i9.toInt = (i : Int) → bHI h → bPS h → bTB ctb h.1 → RC h 4 18 (gvN σ i) → h.2.1 18 10 = r → ∀ d f, 70 ≤ d → B + 30000000 + gvFu 4000000 m ≤ f → gvR σ r (zex E f d 117 5 [some (.ref 3), some (.ref 18), some (.ref 25), some (.int s9), some (.int i9)] [] h) := by
  intro m
  have w3 := hW.2.2.1
  induction m with
  | zero =>
    intro i s9 i9 h hm hi gI gP gT hR h10 d f hd hf
    obtain ⟨n, hn⟩ : ∃ n, f = n + 7 := ⟨f - 7, by omega⟩
    subst hn
    have r3 := hR.1.2.2
    rw [gvN_P] at r3
    have k12 := gvFu_2
    have z := gvM (E := E) (h0 := h) hE hsm 12 s9 0 h (by decide) (by decide) ⟨gI, gP, gT, fun _ _ _ => rfl, Nat.le_refl _, Nat.le_refl _⟩ d n (by omega) (by omega)
    rw [show zex E (n + 7) d 117 5 [some (.ref 3), some (.ref 18), some (.ref 25), some (.int s9), some (.int i9)] [] h = _ from gv_e (E := E) (n := n) (d := d) (h := h) (s := s9) (i := i9) (by rw [r3, hi]; omega) (gT 3 _ (show bg2 ctb 3 = some (.inr (.inl (2, [some (some 4), some (some 10), some (some 17)]))) from rfl) (by intro z; cases z)) (gT 4 _ (show bg2 ctb 4 = some (.inr (.inl (8, [none, none, none, none, some (some 5), some (some 6), some (some 7), some (some 8), some (some 9)]))) from rfl) (by intro z; cases z))]
    obtain ⟨x, h9, e9, f1, f2⟩ := z
    have hi9 : i = sP σ := by omega
    rw [hi9] at hR
    refine ⟨x, h9, e9, RC_eqv hR (fun k hk => f1 4 k ?_ (by omega)) (fun k => f1 7 k (show Nat.testBit gvW (bun 7 0) = false by decide +kernel) (by omega)) (fun k => f1 8 k (show Nat.testBit gvW (bun 8 0) = false by decide +kernel) (by omega)) (fun k => f1 9 k (show Nat.testBit gvW (bun 9 0) = false by decide +kernel) (by omega)) (fun k => f1 19 k (show Nat.testBit gvW (bun 19 0) = false by decide +kernel) (by omega)) (fun k => f1 20 k (show Nat.testBit gvW (bun 20 0) = false by decide +kernel) (by omega)) (fun k => f1 21 k (show Nat.testBit gvW (bun 21 0) = false by decide +kernel) (by omega)) (fun k => f1 22 k (show Nat.testBit gvW (bun 22 0) = false by decide +kernel) (by omega)), by rw [f2, h10]⟩
    rcases (show k = 0 ∨ k = 1 ∨ k = 2 by omega) with z | z | z <;> subst z <;> decide +kernel
  | succ m IH =>
    intro i s9 i9 h hm hi gI gP gT hR h10 d f hd hf
    have hmul : gvFu 4000000 (m + 1) = gvFu 4000000 m + 4000000 := rfl
    obtain ⟨n, hn⟩ : ∃ n, f = n + 15 := ⟨f - 15, by omega⟩
    obtain ⟨d, hd'⟩ : ∃ d', d = d' + 1 := ⟨d - 1, by omega⟩
    subst hn hd'
    have r3 := hR.1.2.2
    rw [gvN_P] at r3
    obtain ⟨x, h1, e1, i1, hR1, h11⟩ := gvC (E := E) hE hsm gI gP gT hR (gvN_W hW i) (gvN_B hB i (by omega)) (p := i) (by rw [gvN_P]; omega) hi d (n + 4) (by omega) (by omega)
    rw [show zex E (n + 15) (d + 1) 117 5 [some (.ref 3), some (.ref 18), some (.ref 25), some (.int s9), some (.int i9)] [] h = _ from gv_p (E := E) (n := n) (d := d) (h := h) (h1 := h1) (s := s9) (i := i9) (x := x) (by rw [r3, hi]; omega) (gT 3 _ (show bg2 ctb 3 = some (.inr (.inl (2, [some (some 4), some (some 10), some (some 17)]))) from rfl) (by intro z; cases z)) (gT 4 _ (show bg2 ctb 4 = some (.inr (.inl (8, [none, none, none, none, some (some 5), some (some 6), some (some 7), some (some 8), some (some 9)]))) from rfl) (by intro z; cases z)) e1]
    exact IH (i + 1) (s9 + x) (i9 + 1) h1 (by omega) (by rw [i32_add (by rw [hi, int1]; omega) (by rw [hi, int1]; omega), hi, int1]; omega) i1.1 i1.2.1 i1.2.2 hR1 (h11.trans h10) (d + 1) n (by omega) (by omega)
set_option maxRecDepth 100000 in
theorem gvG {σ : hSt} {h : zH} (hE : E.1 < 2147483648) (hsm : bSO E ctb B (60, smT)) (hW : WF σ) (hB : gvB σ) (gI : bHI h) (gP : bPS h) (gT : bTB ctb h.1) (hR : RC h 4 18 σ) : ∀ d f, 70 ≤ d → B + 80000000 ≤ f → gvR σ (h.2.1 18 10) (zex E f d 117 0 [some (.ref 3), some (.ref 18), some (.ref 25), none, none] [] h) := by
  intro d f hd hf
  have w3 := hW.2.2.1
  have k4 := gvFu_4 (sP σ) (by omega)
  obtain ⟨n, hn⟩ : ∃ n, f = n + 4 := ⟨f - 4, by omega⟩
  subst hn
  rw [show zex E (n + 4) d 117 0 [some (.ref 3), some (.ref 18), some (.ref 25), none, none] [] h = _ from gv_0 (E := E) (n := n) (d := d) (h := h)]
  exact gvL (E := E) hE hsm hW hB (sP σ) 0 0 0 h (by omega) rfl gI gP gT hR rfl d n hd (by omega)
end GV
def gvH (f : Nat → Int32) (σ : hSt) : Prop := (∀ q, q < 8 → (f (185 + 24 * q)).toInt = spl σ q) ∧ (kdW → ∀ q, q < 8 → (f (187 + 24 * q)).toInt = swt σ q)
def gvK (f0 f : Nat → Int32) : Prop := ∀ k, k < 777 → Nat.testBit gvX (bun 85 k) = false → (∀ q, q < 8 → k ≠ 185 + 24 * q ∧ k ≠ 187 + 24 * q) → k ≠ 5 → f k = f0 k
set_option maxRecDepth 100000 in
theorem gvN_M {f : Nat → Int32} {σ : hSt} (hM : RMf f σ) : ∀ p, RMf f (gvN σ p)
  | 0 => hM
  | p + 1 => gvN_M hM p
set_option maxRecDepth 100000 in
theorem gv_bw : ∀ p, p < 8 → ∀ k, k < 12 → biv 85 (185 + 24 * p + (4 + k)) = (0, 11) := by decide +kernel
set_option maxRecDepth 100000 in
theorem gv_b2 : ∀ q, q < 8 → Nat.testBit sc365.2.1 (bun 85 (186 + 24 * q)) = false := by decide +kernel
section GM
variable {E : zE} {B : Nat}
def gvE (σ : hSt) (h : zH) (p : Nat) (o : Option zR) : Prop := ∃ (x : Int32) (h1 : zH), o = some (.inl (some (.int x)), h1) ∧ (∀ k, k < 777 → Nat.testBit gvX (bun 85 k) = false → k ≠ 185 + 24 * p → k ≠ 187 + 24 * p → h1.2.1 85 k = h.2.1 85 k) ∧ (h1.2.1 85 (185 + 24 * p)).toInt = (if spl σ p + 1 < (ssl σ p : Int) then spl σ p + 1 else 0) ∧ (h1.2.1 85 (187 + 24 * p)).toInt = (if 1 ≤ (h.2.1 85 (187 + 24 * p)).toInt then (h.2.1 85 (187 + 24 * p)).toInt - 1 else 0)
set_option maxRecDepth 100000 in
theorem gv87 {h : zH} (gI : bHI h) {p : Nat} (hp : p < 8) : ∃ w : Nat, w < 100 ∧ h.2.1 85 (187 + 24 * p) = Int32.ofNat w ∧ (h.2.1 85 (187 + 24 * p)).toInt = (w : Int) := by
  have b := gI.1 85 (187 + 24 * p)
  rw [(gv_bu p hp).2.1] at b
  have b1 : (0 : Int) ≤ (h.2.1 85 (187 + 24 * p)).toInt := b.1
  have b2 : (h.2.1 85 (187 + 24 * p)).toInt ≤ 99 := b.2
  obtain ⟨w, hw⟩ : ∃ w : Nat, (h.2.1 85 (187 + 24 * p)).toInt = (w : Int) := ⟨(h.2.1 85 (187 + 24 * p)).toInt.toNat, by omega⟩
  exact ⟨w, by omega, i32_nat hw, hw⟩
set_option maxRecDepth 100000 in
theorem gmGet {g : zH} (t : bTB ctb g.1) {p : Nat} (hp8 : p < 8) {p9 j9 : Int32} (hp9 : p9.toInt = (p : Int)) {j : Nat} (hj : j9.toInt = (j : Int)) (hj2 : j < 24) (f dd : Nat) : zex E (f + 13) (dd + 1) 221 0 [some (.ref 84), some (.int p9), some (.int j9)] [] g = some (.inl (some (.int (g.2.1 85 (185 + 24 * p + j)))), g) := mh_get (E := E) (n := f + 6) (d := dd) (p := p9) (j := j9) (h := g) (pers_i hp9 hp8 hj hj2) (by omega) rfl (t 84 _ cs84 (by intro z; cases z)) (t 85 _ ks85 (by intro z; cases z)) (mh_pi (n := f) (d := dd))
set_option maxRecDepth 100000 in
theorem gmPut {g : zH} (t : bTB ctb g.1) {p : Nat} (hp8 : p < 8) {p9 j9 y : Int32} (hp9 : p9.toInt = (p : Int)) {j : Nat} (hj : j9.toInt = (j : Int)) (hj2 : j < 24) (f dd : Nat) : zex E (f + 13) (dd + 1) 222 0 [some (.ref 84), some (.int p9), some (.int j9), some (.int y)] [] g = some (.inl none, (zsetI g 85 (upd (g.2.1 85) (185 + 24 * p + j) y))) := mh_put (E := E) (n := f + 5) (d := dd) (p := p9) (j := j9) (y := y) (h := g) (pers_i hp9 hp8 hj hj2) (by omega) (t 84 _ cs84 (by intro z; cases z)) (t 85 _ ks85 (by intro z; cases z)) (mh_pi (n := f) (d := dd))
set_option maxRecDepth 100000 in
theorem gmRo {g : zH} (t : bTB ctb g.1) {p : Nat} (hp8 : p < 8) {p9 : Int32} (hp9 : p9.toInt = (p : Int)) {K : Nat} (hK : (g.2.1 85 (185 + 24 * p + 0)).toInt = (K : Int)) (h12 : K < 12) (f d : Nat) : zex E (f + 30) (d + 2) 223 0 [some (.ref 84), some (.int p9)] [] g = some (.inl (some (.int (g.2.1 85 (185 + 24 * p + (4 + K))))), g) := gm_o (E := E) (n := f + 20) (d := d + 1) (h := g) (p := p9) (a := g.2.1 85 (185 + 24 * p + 0)) (r := g.2.1 85 (185 + 24 * p + (4 + K))) (t 84 _ cs84 (by intro z; cases z)) (gmGet t hp8 hp9 (j := 0) (by decide) (by decide) (f + 10) d) (gmGet t hp8 hp9 (j := 4 + K) (by rw [i32_add (by rw [xi4, hK]; omega) (by rw [xi4, hK]; omega), xi4, hK]; omega) (by omega) (f + 8) d)
set_option maxRecDepth 100000 in
theorem gvD {h : zH} {σ : hSt} (hE : E.1 < 2147483648) (hsm : bSO E ctb B (60, smT)) (gI : bHI h) (gP : bPS h) (gT : bTB ctb h.1) (hM : RMf (h.2.1 85) σ) (hW : WF σ) {p : Nat} (hp : p < sP σ) (hz : 0 ≤ spl σ p ∧ spl σ p < (ssl σ p : Int)) (h0 : (h.2.1 85 (185 + 24 * p + 0)).toInt = spl σ p) {p9 : Int32} (hp9 : p9.toInt = (p : Int)) : ∀ d f, 70 ≤ d → B + 2000000 ≤ f → gvE σ h p (zex E f d 282 0 [some (.ref 84), some (.int p9), none, none, none, none, none, none, none] [] h) := by
  intro d f hd hf
  obtain ⟨n, hn⟩ : ∃ n, f = n + 200 := ⟨f - 200, by omega⟩
  obtain ⟨d, hd'⟩ : ∃ d', d = d' + 3 := ⟨d - 3, by omega⟩
  subst hn hd'
  obtain ⟨⟨r1, r2, r3⟩, r4, r5⟩ := id hM
  have w1 := hW.1
  have w3 := hW.2.2.1
  have w6 := hW.2.2.2.2.2 p hp
  have hp8 : p < 8 := by omega
  obtain ⟨K, hK⟩ : ∃ K : Nat, spl σ p = (K : Int) := ⟨(spl σ p).toNat, by omega⟩
  have ha : (h.2.1 85 (185 + 24 * p + 0)).toInt = (K : Int) := h0.trans hK
  have hL : (h.2.1 85 (185 + 24 * p + 3)).toInt = (ssl σ p : Int) := by rw [show 185 + 24 * p + 3 = 188 + 24 * p by omega]; exact (r5 p hp).1
  have hy := gv_m (ssl σ p) (by omega) K (by omega)
  have l0 : h.2.1 85 (185 + 24 * p + 3) ≠ 0 := by rw [i32_nat hL]; exact hy.2
  obtain ⟨y, y0⟩ : ∃ y, y = ((h.2.1 85 (185 + 24 * p + 0) + 1) - (h.2.1 85 (185 + 24 * p + 0) + 1) / h.2.1 85 (185 + 24 * p + 3) * h.2.1 85 (185 + 24 * p + 3)) := ⟨_, rfl⟩
  have y1 : y.toInt = (if spl σ p + 1 < (ssl σ p : Int) then spl σ p + 1 else 0) := by rw [y0, i32_nat ha, i32_nat hL, hK]; exact hy.1
  obtain ⟨K2, hK2⟩ : ∃ K2 : Nat, y.toInt = (K2 : Int) ∧ K2 < ssl σ p := by
    by_cases z : spl σ p + 1 < (ssl σ p : Int)
    · rw [if_pos z] at y1; exact ⟨K + 1, by omega, by omega⟩
    · rw [if_neg z] at y1; exact ⟨0, by omega, by omega⟩
  obtain ⟨g, hg⟩ : ∃ g, g = zsetI h 85 (upd (h.2.1 85) (185 + 24 * p + 0) y) := ⟨_, rfl⟩
  have t1 : bTB ctb g.1 := by rw [hg]; exact gT
  have g85 : ∀ k, g.2.1 85 k = upd (h.2.1 85) (185 + 24 * p + 0) y k := fun k => by rw [hg, zs_at]
  have gI1 : bHI g := by
    rw [hg]
    refine bHI_85 gI (by omega) ?_ (blam_o gI.2.1 (by omega) (fun q _ => by omega))
    rw [show biv 85 (185 + 24 * p + 0) = (0, 11) from (gv_bu p hp8).1]
    show (0 : Int) ≤ _ ∧ _ ≤ (11 : Int)
    omega
  have gP1 : bPS g := by rw [hg]; exact bPS_w gP (fun z => absurd z (by decide))
  have hK3 : (g.2.1 85 (185 + 24 * p + 0)).toInt = (K2 : Int) := by rw [g85, upd_e]; exact hK2.1
  have bw : ∀ j, j < 12 → (0 : Int) ≤ (h.2.1 85 (185 + 24 * p + (4 + j))).toInt ∧ (h.2.1 85 (185 + 24 * p + (4 + j))).toInt ≤ 11 := fun j hj => by
    have b := gI.1 85 (185 + 24 * p + (4 + j))
    rw [gv_bw p hp8 j hj] at b
    exact b
  have e1 := gmRo (E := E) gT hp8 hp9 ha (by omega) (n + 167) (d + 0)
  have e5 := gmRo (E := E) t1 hp8 hp9 hK3 (by omega) (n + 148) (d + 0)
  have vr : g.2.1 85 (185 + 24 * p + (4 + K2)) = h.2.1 85 (185 + 24 * p + (4 + K2)) := by rw [g85, upd_n (by omega)]
  rw [vr] at e5
  obtain ⟨w, hw⟩ : ∃ w, w = h.2.1 85 (185 + 24 * p + (4 + K)) := ⟨_, rfl⟩
  obtain ⟨r, hr⟩ : ∃ r, r = h.2.1 85 (185 + 24 * p + (4 + K2)) := ⟨_, rfl⟩
  have bb1 := bw K (by omega)
  have bb2 := bw K2 (by omega)
  rw [← hw] at e1 bb1
  rw [← hr] at e5 bb2
  have e4 := gmPut (E := E) gT hp8 hp9 (y := y) (j9 := 0) (j := 0) (by decide) (by decide) (n + 168) (d + 1)
  rw [← hg] at e4
  have e := gm_a (E := E) (n := n + 169) (d := d + 2) (h := h) (h1 := g) (p := p9) (w := w) (a := h.2.1 85 (185 + 24 * p + 0)) (l := h.2.1 85 (185 + 24 * p + 3)) (r := r) (x := 185 + 24 * p9 + 16) (y := 13 + 11 * r + 3) l0 (gT 84 _ cs84 (by intro z; cases z)) (t1 84 _ cs84 (by intro z; cases z)) e1 (gmGet gT hp8 hp9 (j := 0) (by decide) (by decide) (n + 176) (d + 1)) (gmGet gT hp8 hp9 (j := 3) (by decide) (by decide) (n + 170) (d + 1)) (by rw [← y0]; exact e4) e5 (mh_pi (n := n + 166) (d := d + 2)) (mh_ri (n := n + 162) (d := d + 2))
  obtain ⟨R, hR⟩ : ∃ R : Nat, r.toInt = (R : Int) := ⟨r.toInt.toNat, by omega⟩
  have x1 : (185 + 24 * p9 + 16).toInt = ((185 + 24 * p + 16 : Nat) : Int) := pers_i hp9 hp8 (by decide) (by decide)
  have x2 : (13 + 11 * r + 3).toInt = ((13 + 11 * R + 3 : Nat) : Int) := room_i hR (by omega) (by decide) (by decide)
  rw [e]
  refine segx (V := [p9.toInt, w.toInt, r.toInt]) (al := [q84, some (.inl (0, [(0, 1)])), some (.inl (0, [(1, 1)])), some (.inl (0, [(2, 1)])), some (.inl (201, [(0, 24)])), some (.inl (16, [(2, 11)])), none, none, none]) (ls := [some (.ref 84), some (.int p9), some (.int w), some (.int r), some (.int (185 + 24 * p9 + 16)), some (.int (13 + 11 * r + 3)), none, none, none]) (ca := 0) (sa := 0) (nv := 3) (Q := gvE σ h p) hE hsm (fun V S v w h _ _ _ z => nomatch (show false = true from z)) ⟨gI1, gP1, t1, fun _ _ _ => rfl, Nat.le_refl _, Nat.le_refl _⟩ (benv_c (by omega) (by omega) (benv_c bb1.1 bb1.2 (benv_c bb2.1 bb2.2 benv_n))) rfl bcs_n bov_n ⟨⟨_, rfl, rfl⟩, ⟨_, rfl, p9, rfl, brel_v rfl⟩, ⟨_, rfl, w, rfl, brel_v rfl⟩, ⟨_, rfl, r, rfl, brel_v rfl⟩, ⟨_, rfl, _, rfl, brel_w rfl (by show _ = 201 + (24 * p9.toInt + 0); rw [x1, hp9]; omega)⟩, ⟨_, rfl, _, rfl, brel_w rfl (by show _ = 16 + (11 * r.toInt + 0); rw [x2, hR]; omega)⟩, trivial, trivial, trivial, trivial⟩ gvD4 (B' := B + 100) (by omega) ?_ ?_ (d + 3) (n + 169) (by omega) (by omega)
  · intro N hN
    cases hN with
    | head => exact ⟨rfl, rfl⟩
    | tail _ hN => exact absurd hN List.not_mem_nil
  · intro N hN V' ls' g1 hx k1 k2 d f hd hf
    cases hN with
    | tail _ hN => exact absurd hN List.not_mem_nil
    | head =>
      have k1 : bLR V' [q84, some (.inl (0, [(0, 1)])), none, none, none, none, none, some (.inl (0, [(3, 1)])), none] ls' := k1
      obtain ⟨p', x', u2, u3, u4, u5, u6, u8, e1, m1⟩ := gl_9 k1
      have pe : p' = p9 := Int32.toInt_inj.mp (m1.trans (brel_x (brel_up hx (brel_v (V := [p9.toInt, w.toInt, r.toInt]) (i := 0) rfl))).symm)
      rw [pe] at e1
      obtain ⟨n, hn⟩ : ∃ n, f = n + 30 := ⟨f - 30, by omega⟩
      obtain ⟨d, hd'⟩ : ∃ d', d = d' + 2 := ⟨d - 2, by omega⟩
      subst hn hd'
      have t2 := k2.2.2.1
      have e2 := gm_w (E := E) (n := n + 16) (d := d + 1) (h := g1) (p := p9) (x := x') (u2 := u2) (u3 := u3) (u4 := u4) (u5 := u5) (u6 := u6) (u8 := u8) (t2 84 _ cs84 (by intro z; cases z)) (gmGet t2 hp8 hp9 (j := 2) (by decide) (by decide) (n + 9) d) (gmPut t2 hp8 hp9 (j := 2) (by decide) (by decide) (n + 5) d)
      obtain ⟨w9, ww1, ww2, ww3⟩ := gv87 gI hp8
      have bu := gv_bu p hp8
      have c7 : g1.2.1 85 (185 + 24 * p + 2) = h.2.1 85 (187 + 24 * p) := by
        rw [show 185 + 24 * p + 2 = 187 + 24 * p by omega, k2.2.2.2.1 85 (187 + 24 * p) bu.2.2.2.2.1, g85, upd_n (by omega)]
      rw [e1]
      refine ⟨x', _, e2, fun k hk hb9 n1 n2 => ?_, ?_, ?_⟩
      · rw [zs_at, upd_n (by omega), k2.2.2.2.1 85 k hb9, g85, upd_n (by omega)]
      · rw [zs_at, upd_n (by omega), k2.2.2.2.1 85 (185 + 24 * p) bu.2.2.2.1, g85, show 185 + 24 * p = 185 + 24 * p + 0 from rfl, upd_e]
        exact y1
      · rw [zs_at, show 187 + 24 * p = 185 + 24 * p + 2 by omega, upd_e, c7, show 185 + 24 * p + 2 = 187 + 24 * p by omega, ww3, ww2]
        exact (gv_x w9 ww1).2
def gvI9 (h0 : zH) (o : Option zR) : Prop := ∃ (x : Int32) (h9 : zH), o = some (.inl (some (.int x)), h9) ∧ (∀ k, k < 777 → Nat.testBit gvX (bun 85 k) = false → k ≠ 5 → h9.2.1 85 k = h0.2.1 85 k) ∧ h9.2.1 85 5 = h0.2.1 85 5 + 1
set_option maxRecDepth 100000 in
theorem gvJ {h0 : zH} (hE : E.1 < 2147483648) (hsm : bSO E ctb B (60, smT)) : ∀ (m : Nat) (s9 i9 : Int32) (h : zH), i9.toInt + (m : Int) = 12 → 0 ≤ i9.toInt → bRQ ctb gvX h0 0 0 h → ∀ d f, 66 ≤ d → B + gvFu 2000000 m ≤ f → gvI9 h0 (zex E f d 283 28 [some (.ref 84), some (.int s9), some (.int i9)] [] h) := by
  intro m
  induction m with
  | zero =>
    intro s9 i9 h hm h9 hr d f hd hf
    have hmul : gvFu 2000000 0 = 2000000 := rfl
    refine segc (V := [i9.toInt, s9.toInt]) (al := [q84, some (.inl (0, [(1, 1)])), some (.inl (0, [(0, 1)]))]) (ls := [some (.ref 84), some (.int s9), some (.int i9)]) (ca := 0) (sa := 0) (nv := 2) (Q := gvI9 h0) hE hsm (fun V S v w h _ _ _ z => nomatch (show false = true from z)) hr (benv_c h9 (by omega) (benv_c (bi32 s9).1 (bi32 s9).2 benv_n)) rfl bcs_n bov_n ⟨⟨_, rfl, rfl⟩, ⟨_, rfl, s9, rfl, brel_v rfl⟩, ⟨_, rfl, i9, rfl, brel_v rfl⟩, trivial⟩ gvD5 (B' := B + 1000000) (by omega) ?_ ?_ d f hd (by omega)
    · intro N hN
      cases hN with
      | head => exact ⟨rfl, rfl, rfl⟩
      | tail _ hN =>
        cases hN with
        | head => exact ⟨rfl, rfl, rfl⟩
        | tail _ hN => exact absurd hN List.not_mem_nil
    · intro N hN ls' h1 k1 k2 k3 d f hd hf
      cases hN with
      | head =>
        have k3 : bcs [i9.toInt, s9.toInt] [(11, [(0, -1)])] := k3
        obtain ⟨y, y1, y2⟩ := k3 _ (List.Mem.head _)
        have y3 : y = 11 + ((-1) * i9.toInt + 0) := brel_x y1
        exact absurd hm (by omega)
      | tail _ hN =>
        cases hN with
        | tail _ hN => exact absurd hN List.not_mem_nil
        | head =>
          have k1 : bLR [i9.toInt, s9.toInt] [q84, some (.inl (0, [(1, 1)])), none] ls' := k1
          obtain ⟨s', u, e1⟩ := gl_2 k1
          rw [e1]
          obtain ⟨n, hn⟩ : ∃ n, f = n + 10 := ⟨f - 10, by omega⟩
          subst hn
          have gT := k2.2.2.1
          refine ⟨_, _, gm_f (E := E) (n := n) (d := d) (h := h1) (s := s') (v := h1.2.1 85 5) (u2 := u) rfl (gT 84 _ (show bg2 ctb 84 = some (.inr (.inl (12, [none, some (some 85), some (some 86), some (some 87), some (some 88), some (some 89), none, none, some (some 90), none, none, none, none, none, none, some (some 91), none, some (some 92), some (some 93)]))) from rfl) (by intro z; cases z)) (gT 85 _ (show bg2 ctb 85 = some (.inl (0, 2475, [])) from rfl) (by intro z; cases z)), fun k hk hb9 h5 => ?_, ?_⟩
          · rw [zs_at, upd_n h5]
            exact k2.2.2.2.1 85 k hb9
          · rw [zs_at, upd_e, k2.2.2.2.1 85 5 (by decide +kernel)]
  | succ m IH =>
    intro s9 i9 h hm h9 hr d f hd hf
    have hmul : gvFu 2000000 (m + 1) = gvFu 2000000 m + 2000000 := rfl
    refine segc (V := [i9.toInt, s9.toInt]) (al := [q84, some (.inl (0, [(1, 1)])), some (.inl (0, [(0, 1)]))]) (ls := [some (.ref 84), some (.int s9), some (.int i9)]) (ca := 0) (sa := 0) (nv := 2) (Q := gvI9 h0) hE hsm (fun V S v w h _ _ _ z => nomatch (show false = true from z)) hr (benv_c h9 (by omega) (benv_c (bi32 s9).1 (bi32 s9).2 benv_n)) rfl bcs_n bov_n ⟨⟨_, rfl, rfl⟩, ⟨_, rfl, s9, rfl, brel_v rfl⟩, ⟨_, rfl, i9, rfl, brel_v rfl⟩, trivial⟩ gvD5 (B' := B + (gvFu 2000000 m + 1000000)) (by omega) ?_ ?_ d f hd (by omega)
    · intro N hN
      cases hN with
      | head => exact ⟨rfl, rfl, rfl⟩
      | tail _ hN =>
        cases hN with
        | head => exact ⟨rfl, rfl, rfl⟩
        | tail _ hN => exact absurd hN List.not_mem_nil
    · intro N hN ls' h1 k1 k2 k3 d f hd hf
      cases hN with
      | head =>
        have k3 : bcs [i9.toInt, s9.toInt] [(11, [(0, -1)])] := k3
        obtain ⟨y, y1, y2⟩ := k3 _ (List.Mem.head _)
        have y3 : y = 11 + ((-1) * i9.toInt + 0) := brel_x y1
        have k1 : bLR [i9.toInt, s9.toInt] [q84, some (.inl (0, [(1, 1)])), some (.inl (1, [(0, 1)]))] ls' := k1
        obtain ⟨s', i', e1, m1, m2⟩ := gl_3 k1
        have m2 : i'.toInt = 1 + (1 * i9.toInt + 0) := m2
        rw [e1]
        exact IH s' i' h1 (by omega) (by omega) k2 d f hd (by omega)
      | tail _ hN =>
        cases hN with
        | tail _ hN => exact absurd hN List.not_mem_nil
        | head =>
          have k1 : bLR [i9.toInt, s9.toInt] [q84, some (.inl (0, [(1, 1)])), none] ls' := k1
          obtain ⟨s', u, e1⟩ := gl_2 k1
          rw [e1]
          obtain ⟨n, hn⟩ : ∃ n, f = n + 10 := ⟨f - 10, by omega⟩
          subst hn
          have gT := k2.2.2.1
          refine ⟨_, _, gm_f (E := E) (n := n) (d := d) (h := h1) (s := s') (v := h1.2.1 85 5) (u2 := u) rfl (gT 84 _ (show bg2 ctb 84 = some (.inr (.inl (12, [none, some (some 85), some (some 86), some (some 87), some (some 88), some (some 89), none, none, some (some 90), none, none, none, none, none, none, some (some 91), none, some (some 92), some (some 93)]))) from rfl) (by intro z; cases z)) (gT 85 _ (show bg2 ctb 85 = some (.inl (0, 2475, [])) from rfl) (by intro z; cases z)), fun k hk hb9 h5 => ?_, ?_⟩
          · rw [zs_at, upd_n h5]
            exact k2.2.2.2.1 85 k hb9
          · rw [zs_at, upd_e, k2.2.2.2.1 85 5 (by decide +kernel)]
def gvZ (σ : hSt) (f0 : Nat → Int32) (r : Int32) (o : Option zR) : Prop := ∃ (x : Int32) (h9 : zH), o = some (.inl (some (.int x)), h9) ∧ gvH (h9.2.1 85) (gvR1 σ) ∧ gvK f0 (h9.2.1 85) ∧ h9.2.1 85 5 = r + 1
set_option maxRecDepth 100000 in
theorem gvO {σ : hSt} {f0 : Nat → Int32} {r : Int32} (hE : E.1 < 2147483648) (hsm : bSO E ctb B (60, smT)) (hW : WF σ) (hB : gvB σ) : ∀ (m i : Nat) (s9 i9 : Int32) (h : zH), i + m = sP σ → i9.toInt = (i : Int) → bHI h → bPS h → bTB ctb h.1 → RMf (h.2.1 85) σ → gvH (h.2.1 85) (gvN σ i) → gvK f0 (h.2.1 85) → h.2.1 85 5 = r → ∀ d f, 72 ≤ d → B + 30000000 + gvFu 4000000 m ≤ f → gvZ σ f0 r (zex E f d 283 4 [some (.ref 84), some (.int s9), some (.int i9)] [] h) := by
  intro m
  have w3 := hW.2.2.1
  induction m with
  | zero =>
    intro i s9 i9 h hm hi gI gP gT hM hH hK h5 d f hd hf
    obtain ⟨n, hn⟩ : ∃ n, f = n + 20 := ⟨f - 20, by omega⟩
    obtain ⟨d, hd'⟩ : ∃ d', d = d' + 1 := ⟨d - 1, by omega⟩
    subst hn hd'
    have q84 := gT 84 _ cs84 (by intro z; cases z)
    have q85 := gT 85 _ ks85 (by intro z; cases z)
    have r3 := hM.1.2.2
    have k12 := gvFu_2
    have z := gvJ (E := E) (h0 := h) hE hsm 12 s9 0 h (by decide) (by decide) ⟨gI, gP, gT, fun _ _ _ => rfl, Nat.le_refl _, Nat.le_refl _⟩ (d + 1) (n + 14) (by omega) (by omega)
    rw [show zex E (n + 20) (d + 1) 283 4 [some (.ref 84), some (.int s9), some (.int i9)] [] h = _ from gm_e (E := E) (n := n + 14) (d := d) (h := h) (s := s9) (i := i9) (q := h.2.1 85 2) (by rw [r3, hi]; omega) q84 (mh_people (n := n + 12) (d := d) rfl q84 q85)]
    obtain ⟨x, h9, e9, f1, f2⟩ := z
    have hi9 : i = sP σ := by omega
    rw [hi9] at hH
    refine ⟨x, h9, e9, ⟨fun q hq => ?_, fun kw q hq => ?_⟩, fun k hk hb9 hn h5n => ?_, by rw [f2, h5]⟩
    · rw [f1 _ (by omega) (gv_bu q hq).2.2.2.1 (by omega)]; exact hH.1 q hq
    · rw [f1 _ (by omega) (gv_bu q hq).2.2.2.2.1 (by omega)]; exact hH.2 kw q hq
    · rw [f1 k hk hb9 h5n]; exact hK k hk hb9 hn h5n
  | succ m IH =>
    intro i s9 i9 h hm hi gI gP gT hM hH hK h5 d f hd hf
    have hmul : gvFu 4000000 (m + 1) = gvFu 4000000 m + 4000000 := rfl
    obtain ⟨n, hn⟩ : ∃ n, f = n + 20 := ⟨f - 20, by omega⟩
    obtain ⟨d, hd'⟩ : ∃ d', d = d' + 1 := ⟨d - 1, by omega⟩
    subst hn hd'
    have q84 := gT 84 _ cs84 (by intro z; cases z)
    have q85 := gT 85 _ ks85 (by intro z; cases z)
    have r3 := hM.1.2.2
    have hi8 : i < 8 := by omega
    have zb := gvN_B hB i (by omega) i (by rw [gvN_P]; omega)
    obtain ⟨x, h1, e1, fr, k1, k2⟩ := gvD (E := E) hE hsm gI gP gT (gvN_M hM i) (gvN_W hW i) (p := i) (by rw [gvN_P]; omega) zb (hH.1 i hi8) hi d (n + 12) (by omega) (by omega)
    obtain ⟨v9, h9, c1, c2, ⟨c3, c4⟩, c5, c6, c7, q1, m1, b1⟩ := hsm 282 [sc365] rfl sc365 (List.Mem.head _) (by decide) [i9.toInt, (h.2.1 85 2).toInt] [.ref 84, .int i9] h d (n + 12) (2, 9, 0, 12, 1, 0) rfl (by show 5 ≤ d; omega) (by omega) ⟨rfl, ⟨_, rfl, brel_v rfl⟩, trivial⟩ (benv_c (by omega) (by omega) (benv_c (by omega) (by omega) benv_n)) (bcs_c rfl (by show (0 : Int) ≤ -1 + ((-1) * i9.toInt + (1 * (h.2.1 85 2).toInt + 0)); omega) bcs_n) (fun e he => by
      cases he with
      | head =>
        show brel [i9.toInt, (h.2.1 85 2).toInt] (0, [(1, 1)]) (bvl E h 85 2)
        rw [bvl_n rfl]
        exact brel_v rfl
      | tail _ he => exact absurd he List.not_mem_nil) gI gP gT
    have c1 : zex E (n + 12) d 282 0 [some (.ref 84), some (.int i9), none, none, none, none, none, none, none] [] h = some (.inl v9, h9) := c1
    obtain ⟨-, zz⟩ := inl_j c1 e1
    subst zz
    rw [show zex E (n + 20) (d + 1) 283 4 [some (.ref 84), some (.int s9), some (.int i9)] [] h = _ from gm_p (E := E) (n := n + 8) (d := d) (h := h) (h1 := h9) (s := s9) (i := i9) (q := h.2.1 85 2) (x := x) (by rw [r3, hi]; omega) q84 (mh_people (n := n + 12) (d := d) rfl q84 q85) e1]
    have f85 : ∀ k, plk k → h9.2.1 85 k = h.2.1 85 k := (FrP_w (by decide +kernel : wF sc365.2.1 lP = true) c5).2.2.2.2
    refine IH (i + 1) (s9 + x) (i9 + 1) h9 (by omega) (by rw [i32_add (by rw [hi, int1]; omega) (by rw [hi, int1]; omega), hi, int1]; omega) c2 c3 c4 (RMf_p hM hW f85) ⟨fun q hq => ?_, fun kw q hq => ?_⟩ (fun k hk hb9 hn h5n => ?_) ((c5 85 5 (by decide +kernel)).trans h5) (d + 1) (n + 8) (by omega) (by omega)
    · show (h9.2.1 85 (185 + 24 * q)).toInt = (if q = i then (if spl (gvN σ i) i + 1 < (ssl (gvN σ i) i : Int) then spl (gvN σ i) i + 1 else 0) else spl (gvN σ i) q)
      by_cases z : q = i
      · rw [z, if_pos rfl]; exact k1
      · rw [if_neg z, fr _ (by omega) (gv_bu q hq).2.2.2.1 (by omega) (by omega)]; exact hH.1 q hq
    · show (h9.2.1 85 (187 + 24 * q)).toInt = (if q = i then (if 1 ≤ swt (gvN σ i) i then swt (gvN σ i) i - 1 else 0) else swt (gvN σ i) q)
      by_cases z : q = i
      · rw [z, if_pos rfl, ← hH.2 kw i hi8]; exact k2
      · rw [if_neg z, fr _ (by omega) (gv_bu q hq).2.2.2.2.1 (by omega) (by omega)]; exact hH.2 kw q hq
    · rw [fr k hk hb9 (hn i hi8).1 (hn i hi8).2]; exact hK k hk hb9 hn h5n
set_option maxRecDepth 100000 in
theorem gvY {σ : hSt} {f0 : Nat → Int32} {h : zH} (hE : E.1 < 2147483648) (hsm : bSO E ctb B (60, smT)) (hW : WF σ) (hB : gvB σ) (gI : bHI h) (gP : bPS h) (gT : bTB ctb h.1) (hM : RMf (h.2.1 85) σ) (hH : gvH (h.2.1 85) σ) (hK : gvK f0 (h.2.1 85)) : ∀ d f, 72 ≤ d → B + 80000000 ≤ f → gvZ σ f0 (h.2.1 85 5) (zex E f d 283 0 [some (.ref 84), none, none] [] h) := by
  intro d f hd hf
  have w3 := hW.2.2.1
  have k4 := gvFu_4 (sP σ) (by omega)
  obtain ⟨n, hn⟩ : ∃ n, f = n + 4 := ⟨f - 4, by omega⟩
  subst hn
  rw [show zex E (n + 4) d 283 0 [some (.ref 84), none, none] [] h = _ from gm_0 (E := E) (n := n) (d := d) (h := h)]
  exact gvO (E := E) hE hsm hW hB (sP σ) 0 0 0 h (by omega) rfl gI gP gT hM hH hK rfl d n hd (by omega)
end GM
set_option maxRecDepth 100000 in
theorem gvRn_1 : ∀ (k : Nat) (σ : hSt), (gvRn k σ).1 = σ.1 ∧ (gvRn k σ).2.2.1 = σ.2.2.1 ∧ (gvRn k σ).2.2.2.2.1 = σ.2.2.2.2.1 ∧ (gvRn k σ).2.2.2.2.2.2.1 = σ.2.2.2.2.2.2.1
  | 0, _ => ⟨rfl, rfl, rfl, rfl⟩
  | k + 1, σ => by
    have i := gvRn_1 k (gvR1 σ)
    have j := gvN_1 σ (sP σ)
    exact ⟨i.1.trans j.1, i.2.1.trans j.2.1, i.2.2.1.trans j.2.2.1, i.2.2.2.trans j.2.2.2⟩
set_option maxRecDepth 100000 in
theorem gvRn_P (k : Nat) (σ : hSt) : sP (gvRn k σ) = sP σ := by
  show (gvRn k σ).1.2.2 = σ.1.2.2
  rw [(gvRn_1 k σ).1]
set_option maxRecDepth 100000 in
theorem gvRn_W : ∀ (k : Nat) {σ : hSt}, WF σ → WF (gvRn k σ)
  | 0, _, hW => hW
  | k + 1, _, hW => gvRn_W k (gvN_W hW _)
set_option maxRecDepth 100000 in
theorem gvRn_B : ∀ (k : Nat) {σ : hSt}, gvB σ → gvB (gvRn k σ)
  | 0, _, hB => hB
  | k + 1, _, hB => gvRn_B k (gvN_B hB _ (Nat.le_refl _))
set_option maxRecDepth 100000 in
theorem gvRn_q : ∀ (k : Nat) (σ : hSt) (q : Nat), sP σ ≤ q → spl (gvRn k σ) q = spl σ q ∧ swt (gvRn k σ) q = swt σ q
  | 0, _, _, _ => ⟨rfl, rfl⟩
  | k + 1, σ, q, h => by
    have i := gvRn_q k (gvR1 σ) q (by show sP (gvN σ (sP σ)) ≤ q; rw [gvN_P]; exact h)
    have j := gvN_q σ (sP σ) q h
    exact ⟨i.1.trans j.1, i.2.trans j.2⟩
set_option maxRecDepth 100000 in
theorem w366P9 : wF sc366.2.1 lP = true := by decide +kernel
section GR
variable {E : zE} {B : Nat} {h : zH} {σ : hSt}
set_option maxRecDepth 100000 in
theorem cdRoL (hE : E.1 < 2147483648) (hsm : bSO E ctb B (60, smT)) {k9 : Int32} (hk : k9.toInt ≤ 100) : ∀ (m j : Nat) (s9 j9 : Int32) (h : zH) (σ : hSt), m + j = 100 → j9.toInt = (j : Int) → bHI h → bPS h → bTB ctb h.1 → RC h 4 18 σ → WF σ → gvB σ → ∀ d f, 72 ≤ d → B + gvFu 100000000 m ≤ f → ∃ (x : Int32) (h2 : zH), zex E f d 50 26 [some (.ref 0), some (.int k9), some (.int s9), some (.int j9)] [] h = some (.inl (some (.int x)), h2) ∧ RC h2 4 18 (gvRn (k9.toInt - (j : Int)).toNat σ) ∧ h2.2.1 18 10 = gvA (k9.toInt - (j : Int)).toNat (h.2.1 18 10) ∧ bTB ctb h2.1 := by
  intro m
  induction m with
  | zero =>
    intro j s9 j9 h σ hm hj gI gP gT hR hW hB d f hd hf
    have hz0 : gvFu 100000000 0 = 100000000 := rfl
    obtain ⟨n, hn9⟩ : ∃ n, f = n + 5 := ⟨f - 5, by omega⟩
    subst hn9
    have z : (k9.toInt - (j : Int)).toNat = 0 := by omega
    rw [z]
    exact ⟨s9, h, qa_e (n := n) (d := d) (by omega), hR, rfl, gT⟩
  | succ m IH =>
    intro j s9 j9 h σ hm hj gI gP gT hR hW hB d f hd hf
    have hmul : gvFu 100000000 (m + 1) = gvFu 100000000 m + 100000000 := rfl
    by_cases hjk : j9.toInt < k9.toInt
    · obtain ⟨d', hd'⟩ : ∃ d', d = d' + 1 := ⟨d - 1, by omega⟩
      obtain ⟨n, hn9⟩ : ∃ n, f = n + 15 := ⟨f - 15, by omega⟩
      subst hd' hn9
      obtain ⟨v, h1, c1, c2, ⟨c3, c4⟩, c5, c6, c7, q1, m1, b1⟩ := hsm 117 [sc69, sc70] rfl sc70 (List.Mem.tail _ (List.Mem.head _)) (by decide) [] [.ref 3, .ref 18, .ref 25] h d' (n + 4) (3, 5, 0, 2, 1, 0) rfl (by show 3 ≤ d'; omega) (by omega) ⟨rfl, rfl, rfl, trivial⟩ benv_n bcs_n (fun e he => absurd he List.not_mem_nil) gI gP gT
      have c1 : zex E (n + 4) d' 117 0 [some (.ref 3), some (.ref 18), some (.ref 25), none, none] [] h = some (.inl v, h1) := c1
      obtain ⟨y, h9, e9, hR9, h10⟩ := gvG (E := E) hE hsm hW hB gI gP gT hR d' (n + 4) (by omega) (by omega)
      have zz := (inl_j c1 e9).2
      rw [← zz] at e9 hR9 h10
      obtain ⟨x, h2, e2, t1, t2, t3⟩ := IH (j + 1) (s9 + y) (j9 + 1) h1 (gvR1 σ) (by omega) (by rw [i32_add (by rw [hj, int1]; omega) (by rw [hj, int1]; omega), hj, int1]; omega) c2 c3 c4 hR9 (gvN_W hW _) (gvN_B hB _ (Nat.le_refl _)) (d' + 1) n (by omega) (by omega)
      have z : (k9.toInt - (j : Int)).toNat = (k9.toInt - ((j + 1 : Nat) : Int)).toNat + 1 := by omega
      rw [z]
      exact ⟨x, h2, (qa_l (n := n) (d := d') (h := h) (h1 := h1) hjk (gT 0 _ (show bg2 ctb 0 = some (.inr (.inl (11, [some (some 1), some (some 3), some (some 18), some (some 25), some (some 27), some (some 30), some (some 53), some (some 62), some (some 76), none]))) from rfl) (by intro z; cases z)) (gT 3 _ (show bg2 ctb 3 = some (.inr (.inl (2, [some (some 4), some (some 10), some (some 17)]))) from rfl) (by intro z; cases z)) e9).trans e2, t1, by rw [t2, h10]; rfl, t3⟩
    · obtain ⟨n, hn9⟩ : ∃ n, f = n + 5 := ⟨f - 5, by omega⟩
      subst hn9
      have z : (k9.toInt - (j : Int)).toNat = 0 := by omega
      rw [z]
      exact ⟨s9, h, qa_e (n := n) (d := d) (by omega), hR, rfl, gT⟩
def cdQ (c : Prop) (k9 : Int32) (σ : hSt) (h : zH) (o : Option zR) : Prop := ∃ (x : Int32) (h1 : zH), o = some (.inl (some (.int x)), h1) ∧ (c → RC h1 4 18 (gvRn k9.toInt.toNat σ) ∧ h1.2.1 18 10 = gvA k9.toInt.toNat (h.2.1 18 10)) ∧ (¬ c → ∀ cc, h1.2.1 cc = h.2.1 cc)
set_option maxRecDepth 100000 in
theorem cdRo (hE : E.1 < 2147483648) (hsm : bSO E ctb B (60, smT)) (gI : bHI h) (gP : bPS h) (gT : bTB ctb h.1) (hA : paQ h) (hR : RC h 4 18 σ) (hW : WF σ) (hB : gvB σ) {k9 : Int32} : ∀ d f, 90 ≤ d → B + 20000000000 ≤ f → cdQ (1 ≤ k9.toInt ∧ k9.toInt ≤ 100) k9 σ h (zex E f d 9 0 [some (.ref 0), some (.int k9), some (.ref 94), none] [] h) := by
  intro d f hd hf
  obtain ⟨n, hn⟩ : ∃ n, f = n + 10000 := ⟨f - 10000, by omega⟩
  obtain ⟨d, hd'⟩ : ∃ d', d = d' + 4 := ⟨d - 4, by omega⟩
  subst hn hd'
  have r1 := hR.1.1
  have r3 := hR.1.2.2
  have w1 := hW.1
  have w3 := hW.2.2.1
  unfold cdQ
  by_cases hp : 1 ≤ k9.toInt ∧ k9.toInt ≤ 100
  · skip
    obtain ⟨h1, e1, r1q, s1, a1⟩ := remR (E := E) hE hsm gI gP gT hA (d + 2) (n + 9984) (by omega) (by omega)
    obtain ⟨n9, hn9, hn12, kx⟩ := rememX (E := E) gI gP hA
    obtain ⟨hx9, ex9, kx1, kx2, kx3⟩ := kx (d + 2) (n + 9984) (by omega) (by omega)
    obtain ⟨-, yx9⟩ := inl_j e1 ex9
    rw [← yx9] at kx1 kx2 kx3
    have kc : ∀ c, c < 27 → ∀ k, h1.2.1 c k = h.2.1 c k := fun c hc k => by rw [kx3 c (by omega) (by omega)]
    have hR1 : RC h1 4 18 σ := RC_eqv hR (fun k _ => kc 4 (by decide) k) (fun k => kc 7 (by decide) k) (fun k => kc 8 (by decide) k) (fun k => kc 9 (by decide) k) (fun k => kc 19 (by decide) k) (fun k => kc 20 (by decide) k) (fun k => kc 21 (by decide) k) (fun k => kc 22 (by decide) k)
    have e2 := qa_0 (E := E) (n := n + 9984) (d := d + 2) (h := h) (h1 := h1) (u2 := none) (u3 := none) (gT 0 _ (show bg2 ctb 0 = some (.inr (.inl (11, [some (some 1), some (some 3), some (some 18), some (some 25), some (some 27), some (some 30), some (some 53), some (some 62), some (some 76), none]))) from rfl) (by intro z; cases z)) (gT 27 _ (show bg2 ctb 27 = some (.inr (.inl (7, [some (some 28), some (some 29), none, none]))) from rfl) (by intro z; cases z)) (ny_0 (E := E) (n := n + 9984) (d := d + 2) (x := k9) (a := 1) (b := 100) (by rw [show (1 : Int32).toInt = 1 from by decide]; omega) (by rw [show (100 : Int32).toInt = 100 from by decide]; omega)) e1
    have k1 := gvFu_1
    obtain ⟨x, h2, e3, t1, t2, g3T⟩ := cdRoL (E := E) hE hsm (k9 := k9) (by omega) 100 0 0 0 h1 σ rfl rfl r1q.1 r1q.2.1 r1q.2.2.1 hR1 hW hB (d + 3) (n + 9980) (by omega) (by omega)
    have e3 := (qa_h (E := E) (n := n + 9980) (d := d + 3) (u2 := none) (u3 := none)).trans e3
    have g2T := g3T
    have e4 := qa_w (E := E) (n := n + 9990) (d := d + 3) (u9 := none) (h := h) (h1 := h2) (gT 0 _ (show bg2 ctb 0 = some (.inr (.inl (11, [some (some 1), some (some 3), some (some 18), some (some 25), some (some 27), some (some 30), some (some 53), some (some 62), some (some 76), none]))) from rfl) (by intro z; cases z)) (g2T 94 _ (show bg2 ctb 94 = some (.inl (2, 1, [])) from rfl) (by intro z; cases z)) (e2.trans e3)
    rw [show (k9.toInt - ((0 : Nat) : Int)).toNat = k9.toInt.toNat by omega] at t1 t2
    exact ⟨0, _, e4, fun _ => ⟨(show RC h2 4 18 (gvRn k9.toInt.toNat σ) from t1), (show h2.2.1 18 10 = _ from t2.trans (by rw [kc 18 (by decide) 10]))⟩, fun z => absurd hp z⟩
  · skip
    by_cases hl : k9.toInt < 1
    · exact ⟨_, _, qa_y (E := E) (n := n + 9992) (d := d + 3) (u9 := none) (h := h) (gT 0 _ (show bg2 ctb 0 = some (.inr (.inl (11, [some (some 1), some (some 3), some (some 18), some (some 25), some (some 27), some (some 30), some (some 53), some (some 62), some (some 76), none]))) from rfl) (by intro z; cases z)) (qa_t (E := E) (n := n + 9991) (d := d + 2) (u2 := none) (u3 := none)   (ny_1 (E := E) (n := n + 9987) (d := d + 2) (x := k9) (a := 1) (b := 100) (by rw [show (1 : Int32).toInt = 1 from by decide]; omega))), fun z => absurd z hp, fun _ _ => rfl⟩
    · exact ⟨_, _, qa_y (E := E) (n := n + 9992) (d := d + 3) (u9 := none) (h := h) (gT 0 _ (show bg2 ctb 0 = some (.inr (.inl (11, [some (some 1), some (some 3), some (some 18), some (some 25), some (some 27), some (some 30), some (some 53), some (some 62), some (some 76), none]))) from rfl) (by intro z; cases z)) (qa_t (E := E) (n := n + 9991) (d := d + 2) (u2 := none) (u3 := none)   (ny_2 (E := E) (n := n + 9984) (d := d + 2) (x := k9) (a := 1) (b := 100) (by rw [show (1 : Int32).toInt = 1 from by decide]; omega) (by rw [show (100 : Int32).toInt = 100 from by decide]; omega))), fun z => absurd z hp, fun _ _ => rfl⟩
set_option maxRecDepth 100000 in
theorem mdRoL {f0 : Nat → Int32} (hE : E.1 < 2147483648) (hsm : bSO E ctb B (60, smT)) {k9 : Int32} (hk : k9.toInt ≤ 100) : ∀ (m j : Nat) (s9 j9 : Int32) (h : zH) (σ : hSt), m + j = 100 → j9.toInt = (j : Int) → bHI h → bPS h → bTB ctb h.1 → RMf (h.2.1 85) σ → WF σ → gvB σ → gvH (h.2.1 85) σ → gvK f0 (h.2.1 85) → ∀ d f, 74 ≤ d → B + gvFu 100000000 m ≤ f → ∃ (x : Int32) (h2 : zH), zex E f d 284 38 [some (.ref 84), some (.int k9), some (.int s9), some (.int j9)] [] h = some (.inl (some (.int x)), h2) ∧ gvH (h2.2.1 85) (gvRn (k9.toInt - (j : Int)).toNat σ) ∧ gvK f0 (h2.2.1 85) ∧ h2.2.1 85 5 = gvA (k9.toInt - (j : Int)).toNat (h.2.1 85 5) := by
  intro m
  induction m with
  | zero =>
    intro j s9 j9 h σ hm hj gI gP gT hM hW hB hH hK d f hd hf
    have hz0 : gvFu 100000000 0 = 100000000 := rfl
    obtain ⟨n, hn9⟩ : ∃ n, f = n + 5 := ⟨f - 5, by omega⟩
    subst hn9
    have z : (k9.toInt - (j : Int)).toNat = 0 := by omega
    rw [z]
    exact ⟨s9, h, ro_e (n := n) (d := d) (by omega), hH, hK, rfl⟩
  | succ m IH =>
    intro j s9 j9 h σ hm hj gI gP gT hM hW hB hH hK d f hd hf
    have hmul : gvFu 100000000 (m + 1) = gvFu 100000000 m + 100000000 := rfl
    by_cases hjk : j9.toInt < k9.toInt
    · obtain ⟨d', hd'⟩ : ∃ d', d = d' + 1 := ⟨d - 1, by omega⟩
      obtain ⟨n, hn9⟩ : ∃ n, f = n + 10 := ⟨f - 10, by omega⟩
      subst hd' hn9
      obtain ⟨v, h1, c1, c2, ⟨c3, c4⟩, c5, c6, c7, q1, m1, b1⟩ := hsm 283 [sc366] rfl sc366 (List.Mem.head _) (by decide) [] [.ref 84] h d' (n + 4) (1, 3, 0, 12, 1, 0) rfl (by show 6 ≤ d'; omega) (by omega) ⟨rfl, trivial⟩ benv_n bcs_n (fun e he => absurd he List.not_mem_nil) gI gP gT
      have c1 : zex E (n + 4) d' 283 0 [some (.ref 84), none, none] [] h = some (.inl v, h1) := c1
      obtain ⟨y, h9, e9, hH9, hK9, h59⟩ := gvY (E := E) (f0 := f0) hE hsm hW hB gI gP gT hM hH hK d' (n + 4) (by omega) (by omega)
      have zz := (inl_j c1 e9).2
      rw [← zz] at e9 hH9 hK9 h59
      have f85 : ∀ k, plk k → h1.2.1 85 k = h.2.1 85 k := (FrP_w w366P9 c5).2.2.2.2
      obtain ⟨x, h2, e2, t1, t2, t3⟩ := IH (j + 1) (s9 + y) (j9 + 1) h1 (gvR1 σ) (by omega) (by rw [i32_add (by rw [hj, int1]; omega) (by rw [hj, int1]; omega), hj, int1]; omega) c2 c3 c4 (gvN_M (RMf_p hM hW f85) _) (gvN_W hW _) (gvN_B hB _ (Nat.le_refl _)) hH9 hK9 (d' + 1) n (by omega) (by omega)
      have z : (k9.toInt - (j : Int)).toNat = (k9.toInt - ((j + 1 : Nat) : Int)).toNat + 1 := by omega
      rw [z]
      exact ⟨x, h2, (ro_l (n := n) (d := d') (h := h) (h1 := h1) hjk (gT 84 _ cs84 (by intro z; cases z)) e9).trans e2, t1, t2, by rw [t3, h59]; rfl⟩
    · obtain ⟨n, hn9⟩ : ∃ n, f = n + 5 := ⟨f - 5, by omega⟩
      subst hn9
      have z : (k9.toInt - (j : Int)).toNat = 0 := by omega
      rw [z]
      exact ⟨s9, h, ro_e (n := n) (d := d) (by omega), hH, hK, rfl⟩
def mdQ (c : Prop) (k9 : Int32) (σ : hSt) (h : zH) (o : Option zR) : Prop := ∃ (x : Int32) (h1 : zH), o = some (.inl (some (.int x)), h1) ∧ (c → gvH (h1.2.1 85) (gvRn k9.toInt.toNat σ) ∧ gvK (h.2.1 85) (h1.2.1 85) ∧ h1.2.1 85 5 = gvA k9.toInt.toNat (h.2.1 85 5)) ∧ (¬ c → ∀ k, h1.2.1 85 k = h.2.1 85 k)
set_option maxRecDepth 100000 in
theorem mdRo (hE : E.1 < 2147483648) (hsm : bSO E ctb B (60, smT)) (gI : bHI h) (gP : bPS h) (gT : bTB ctb h.1) (hM : RM h σ) (hW : WF σ) (hB : gvB σ) (hH : gvH (h.2.1 85) σ) {k9 : Int32} : ∀ d f, 90 ≤ d → B + 20000000000 ≤ f → mdQ (1 ≤ k9.toInt ∧ k9.toInt ≤ 100) k9 σ h (zex E f d 284 0 [some (.ref 84), some (.int k9), none, none] [] h) := by
  intro d f hd hf
  obtain ⟨n, hn⟩ : ∃ n, f = n + 2000 := ⟨f - 2000, by omega⟩
  obtain ⟨d, hd'⟩ : ∃ d', d = d' + 4 := ⟨d - 4, by omega⟩
  subst hn hd'
  have w1 := hW.1
  have w3 := hW.2.2.1
  obtain ⟨g, hg, t1, t2, t3, gM, g7⟩ := mz_q gI gP gT hM
  have H0 := ja_0 (E := E) (n := n + 1987) (d := d + 3) (h := h)  (k := k9) (u2 := none) (u3 := none)
  rw [← hg] at H0
  have Ht := fun {h1 : zH} => ja_t (E := E) (n := n + 1984) (d := d + 3) (h := h) (h1 := h1) (k := k9) (u2 := none) (u3 := none)
  rw [← hg] at Ht
  unfold mdQ
  by_cases hp : 1 ≤ k9.toInt ∧ k9.toInt ≤ 100
  · skip
    have e2 := H0 (gT 84 _ cs84 (by intro z; cases z)) ((mz_n (E := E) (h := g) (x := k9) (a := 1) (b := 100) (d + 3) (n + 1992) (by omega)).trans (by rw [if_pos (by rw [show (1 : Int32).toInt = 1 from by decide, show (100 : Int32).toInt = 100 from by decide]; omega)])) (mt_0 (n := n + 1984))
    obtain ⟨h2, e3, i2, p2, q2, s2, -, o2, -⟩ := rm9 (E := E) t1 t2 t3 (d + 3) (n + 1985) (by omega)
    have f5 : h2.2.1 85 = h.2.1 85 := funext fun k => by rw [o2 85 (by decide) (by decide), hg, zs_ne (by decide)]
    have k1 := gvFu_1
    obtain ⟨x, h3, e4, s4, s5, s6⟩ := mdRoL (E := E) (f0 := h.2.1 85) hE hsm (k9 := k9) (by omega) 100 0 0 0 h2 σ rfl rfl i2 p2 q2 (by rw [f5]; exact hM) hW hB (by rw [f5]; exact hH) (by rw [f5]; exact fun _ _ _ _ _ => rfl) (d + 4) (n + 1981) (by omega) (by omega)
    rw [show (k9.toInt - ((0 : Nat) : Int)).toNat = k9.toInt.toNat by omega] at s4 s6
    rw [f5] at s6
    exact ⟨x, h3, e2.trans ((ro_r (n := n + 1981) (d := d + 3) (t3 84 _ cs84 (by intro z; cases z)) e3).trans e4), fun _ => ⟨s4, s5, s6⟩, fun z => absurd hp z⟩
  · skip
    exact ⟨0, _, Ht (gT 84 _ cs84 (by intro z; cases z))  ((mz_n (E := E) (h := g) (x := k9) (a := 1) (b := 100) (d + 3) (n + 1992) (by omega)).trans (by rw [if_neg (by rw [show (1 : Int32).toInt = 1 from by decide, show (100 : Int32).toInt = 100 from by decide]; omega)])) (mt_1 (n := n + 1980) (y := 1) (t3 84 _ cs84 (by intro z; cases z))), fun z => absurd z hp, fun _ k => by rw [zs_ne (by decide), hg, zs_ne (by decide)]⟩
end GR
set_option maxRecDepth 100000 in
theorem gv_bp : ∀ r, r < 12 → Nat.testBit gvX (bun 85 (15 + 11 * r)) = false := by decide +kernel
set_option maxRecDepth 100000 in
theorem gv_bk : ∀ q, q < 8 → Nat.testBit gvX (bun 85 (186 + 24 * q)) = false := by decide +kernel
