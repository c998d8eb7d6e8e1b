/-! noon, exactly (wip/zab2/c/lgen51.py, noon.txt) -/
set_option maxRecDepth 100000 in
theorem yXor {E : zE} {n d mi pc ln w9 a1 a2 a3 : Nat} {z : Int32} {ls : zLs} {r : List Value} {h : zH} {x y : Int32} (hf : zfetch mi pc = some (.ixor, ln, (a1, a2, a3), z, w9)) : zex E (n + 1) d mi pc ls (.int y :: .int x :: r) h = zex E n d mi (pc + ln) ls (.int (x ^^^ y) :: r) h := by
  refine (zx1 hf).trans ?_
  rfl
set_option maxRecDepth 100000 in
theorem zgw336_0 : zfetch 336 0 = some (.iload_n 0, 1, (0, 0, 0), 0, 0) := by decide +kernel
set_option maxRecDepth 100000 in
theorem zgw336_1 : zfetch 336 1 = some (.iload_n 1, 1, (0, 0, 0), 0, 0) := by decide +kernel
set_option maxRecDepth 100000 in
theorem zgw336_2 : zfetch 336 2 = some (.irem, 1, (0, 0, 0), 0, 0) := by decide +kernel
set_option maxRecDepth 100000 in
theorem zgw336_3 : zfetch 336 3 = some (.istore_n 2, 1, (0, 0, 0), 0, 0) := by decide +kernel
set_option maxRecDepth 100000 in
theorem zgw336_4 : zfetch 336 4 = some (.iload_n 0, 1, (0, 0, 0), 0, 0) := by decide +kernel
set_option maxRecDepth 100000 in
theorem zgw336_5 : zfetch 336 5 = some (.iload_n 1, 1, (0, 0, 0), 0, 0) := by decide +kernel
set_option maxRecDepth 100000 in
theorem zgw336_6 : zfetch 336 6 = some (.ixor, 1, (0, 0, 0), 0, 0) := by decide +kernel
set_option maxRecDepth 100000 in
theorem zgw336_7 : zfetch 336 7 = some (.ifCond .ge 11, 3, (18, 0, 0), 0, 0) := by decide +kernel
set_option maxRecDepth 100000 in
theorem zgw336_18 : zfetch 336 18 = some (.iload_n 2, 1, (0, 0, 0), 0, 0) := by decide +kernel
set_option maxRecDepth 100000 in
theorem zgw336_19 : zfetch 336 19 = some (.ireturn, 1, (0, 0, 0), 0, 0) := by decide +kernel
set_option maxRecDepth 100000 in
theorem zgw336_10 : zfetch 336 10 = some (.iload_n 2, 1, (0, 0, 0), 0, 0) := by decide +kernel
set_option maxRecDepth 100000 in
theorem zgw336_11 : zfetch 336 11 = some (.ifCond .eq 7, 3, (18, 0, 0), 0, 0) := by decide +kernel
set_option maxRecDepth 100000 in
theorem zgw336_14 : zfetch 336 14 = some (.iload_n 2, 1, (0, 0, 0), 0, 0) := by decide +kernel
set_option maxRecDepth 100000 in
theorem zgw336_15 : zfetch 336 15 = some (.iload_n 1, 1, (0, 0, 0), 0, 0) := by decide +kernel
set_option maxRecDepth 100000 in
theorem zgw336_16 : zfetch 336 16 = some (.iadd, 1, (0, 0, 0), 0, 0) := by decide +kernel
set_option maxRecDepth 100000 in
theorem zgw336_17 : zfetch 336 17 = some (.ireturn, 1, (0, 0, 0), 0, 0) := by decide +kernel
set_option maxRecDepth 100000 in
theorem zgw174_0 : zfetch 174 0 = some (.aload_n 0, 1, (0, 0, 0), 0, 0) := by decide +kernel
set_option maxRecDepth 100000 in
theorem zgw174_1 : zfetch 174 1 = some (.getfield 34, 3, (8, 7, 0), 0, 290) := by decide +kernel
set_option maxRecDepth 100000 in
theorem zgw174_4 : zfetch 174 4 = some (.iload_n 1, 1, (0, 0, 0), 0, 0) := by decide +kernel
set_option maxRecDepth 100000 in
theorem zgw174_5 : zfetch 174 5 = some (.iaload, 1, (0, 0, 0), 0, 0) := by decide +kernel
set_option maxRecDepth 100000 in
theorem zgw174_6 : zfetch 174 6 = some (.ifCond .gt 5, 3, (11, 0, 0), 0, 0) := by decide +kernel
set_option maxRecDepth 100000 in
theorem zgw174_11 : zfetch 174 11 = some (.aload_n 0, 1, (0, 0, 0), 0, 0) := by decide +kernel
set_option maxRecDepth 100000 in
theorem zgw174_12 : zfetch 174 12 = some (.iload_n 1, 1, (0, 0, 0), 0, 0) := by decide +kernel
set_option maxRecDepth 100000 in
theorem zgw174_13 : zfetch 174 13 = some (.iload_n 2, 1, (0, 0, 0), 0, 0) := by decide +kernel
set_option maxRecDepth 100000 in
theorem zgw174_14 : zfetch 174 14 = some (.iload_n 3, 1, (0, 0, 0), 0, 0) := by decide +kernel
set_option maxRecDepth 100000 in
theorem zgw174_15 : zfetch 174 15 = some (.iadd, 1, (0, 0, 0), 0, 0) := by decide +kernel
set_option maxRecDepth 100000 in
theorem zgw174_16 : zfetch 174 16 = some (.aload_n 0, 1, (0, 0, 0), 0, 0) := by decide +kernel
set_option maxRecDepth 100000 in
theorem zgw174_17 : zfetch 174 17 = some (.getfield 34, 3, (8, 7, 0), 0, 290) := by decide +kernel
set_option maxRecDepth 100000 in
theorem zgw174_20 : zfetch 174 20 = some (.iload_n 1, 1, (0, 0, 0), 0, 0) := by decide +kernel
set_option maxRecDepth 100000 in
theorem zgw174_21 : zfetch 174 21 = some (.iaload, 1, (0, 0, 0), 0, 0) := by decide +kernel
set_option maxRecDepth 100000 in
theorem zgw174_22 : zfetch 174 22 = some (.invokestatic 46, 3, (0, 336, 0), 0, 1161) := by decide +kernel
set_option maxRecDepth 100000 in
theorem zgw174_25 : zfetch 174 25 = some (.invokevirtual 52, 3, (0, 173, 0), 0, 1162) := by decide +kernel
set_option maxRecDepth 100000 in
theorem zgw174_28 : zfetch 174 28 = some (.ireturn, 1, (0, 0, 0), 0, 0) := by decide +kernel
set_option maxRecDepth 100000 in
theorem zgw126_0 : zfetch 126 0 = some (.iconst 0, 1, (0, 0, 0), 0, 0) := by decide +kernel
set_option maxRecDepth 100000 in
theorem zgw126_1 : zfetch 126 1 = some (.istore 4, 2, (0, 0, 0), 0, 0) := by decide +kernel
set_option maxRecDepth 100000 in
theorem zgw126_3 : zfetch 126 3 = some (.iconst 0, 1, (0, 0, 0), 0, 0) := by decide +kernel
set_option maxRecDepth 100000 in
theorem zgw126_4 : zfetch 126 4 = some (.istore 5, 2, (0, 0, 0), 0, 0) := by decide +kernel
set_option maxRecDepth 100000 in
theorem zgw126_6 : zfetch 126 6 = some (.iload 5, 2, (0, 0, 0), 0, 0) := by decide +kernel
set_option maxRecDepth 100000 in
theorem zgw126_8 : zfetch 126 8 = some (.aload_n 0, 1, (0, 0, 0), 0, 0) := by decide +kernel
set_option maxRecDepth 100000 in
theorem zgw126_9 : zfetch 126 9 = some (.getfield 12, 3, (2, 0, 0), 0, 348) := by decide +kernel
set_option maxRecDepth 100000 in
theorem zgw126_12 : zfetch 126 12 = some (.getfield 59, 3, (8, 2, 1), 0, 273) := by decide +kernel
set_option maxRecDepth 100000 in
theorem zgw126_15 : zfetch 126 15 = some (.if_icmp .ge 44, 3, (59, 0, 0), 0, 0) := by decide +kernel
set_option maxRecDepth 100000 in
theorem zgw126_18 : zfetch 126 18 = some (.aload_n 0, 1, (0, 0, 0), 0, 0) := by decide +kernel
set_option maxRecDepth 100000 in
theorem zgw126_19 : zfetch 126 19 = some (.getfield 12, 3, (2, 0, 0), 0, 348) := by decide +kernel
set_option maxRecDepth 100000 in
theorem zgw126_22 : zfetch 126 22 = some (.iload 5, 2, (0, 0, 0), 0, 0) := by decide +kernel
set_option maxRecDepth 100000 in
theorem zgw126_24 : zfetch 126 24 = some (.aload_n 1, 1, (0, 0, 0), 0, 0) := by decide +kernel
set_option maxRecDepth 100000 in
theorem zgw126_25 : zfetch 126 25 = some (.getfield 79, 3, (0, 1, 1), 0, 375) := by decide +kernel
set_option maxRecDepth 100000 in
theorem zgw126_28 : zfetch 126 28 = some (.iload 5, 2, (0, 0, 0), 0, 0) := by decide +kernel
set_option maxRecDepth 100000 in
theorem zgw126_30 : zfetch 126 30 = some (.iaload, 1, (0, 0, 0), 0, 0) := by decide +kernel
set_option maxRecDepth 100000 in
theorem zgw126_31 : zfetch 126 31 = some (.iload_n 3, 1, (0, 0, 0), 0, 0) := by decide +kernel
set_option maxRecDepth 100000 in
theorem zgw126_32 : zfetch 126 32 = some (.aload_n 1, 1, (0, 0, 0), 0, 0) := by decide +kernel
set_option maxRecDepth 100000 in
theorem zgw126_33 : zfetch 126 33 = some (.getfield 38, 3, (0, 10, 1), 0, 407) := by decide +kernel
set_option maxRecDepth 100000 in
theorem zgw126_36 : zfetch 126 36 = some (.isub, 1, (0, 0, 0), 0, 0) := by decide +kernel
set_option maxRecDepth 100000 in
theorem zgw126_37 : zfetch 126 37 = some (.invokevirtual 135, 3, (0, 174, 1), 0, 1157) := by decide +kernel
set_option maxRecDepth 100000 in
theorem zgw126_40 : zfetch 126 40 = some (.iload_n 2, 1, (0, 0, 0), 0, 0) := by decide +kernel
set_option maxRecDepth 100000 in
theorem zgw126_41 : zfetch 126 41 = some (.if_icmp .ne 12, 3, (53, 0, 0), 0, 0) := by decide +kernel
set_option maxRecDepth 100000 in
theorem zgw126_44 : zfetch 126 44 = some (.iload 4, 2, (0, 0, 0), 0, 0) := by decide +kernel
set_option maxRecDepth 100000 in
theorem zgw126_46 : zfetch 126 46 = some (.iconst 1, 1, (0, 0, 0), 1, 0) := by decide +kernel
set_option maxRecDepth 100000 in
theorem zgw126_47 : zfetch 126 47 = some (.iload 5, 2, (0, 0, 0), 0, 0) := by decide +kernel
set_option maxRecDepth 100000 in
theorem zgw126_49 : zfetch 126 49 = some (.ishl, 1, (0, 0, 0), 0, 0) := by decide +kernel
set_option maxRecDepth 100000 in
theorem zgw126_50 : zfetch 126 50 = some (.ior, 1, (0, 0, 0), 0, 0) := by decide +kernel
set_option maxRecDepth 100000 in
theorem zgw126_51 : zfetch 126 51 = some (.istore 4, 2, (0, 0, 0), 0, 0) := by decide +kernel
set_option maxRecDepth 100000 in
theorem zgw126_53 : zfetch 126 53 = some (.iinc 5 1, 3, (0, 0, 0), 1, 0) := by decide +kernel
set_option maxRecDepth 100000 in
theorem zgw126_56 : zfetch 126 56 = some (.goto (-50), 3, (6, 0, 0), 0, 0) := by decide +kernel
set_option maxRecDepth 100000 in
theorem zgw126_59 : zfetch 126 59 = some (.iload 4, 2, (0, 0, 0), 0, 0) := by decide +kernel
set_option maxRecDepth 100000 in
theorem zgw126_61 : zfetch 126 61 = some (.ireturn, 1, (0, 0, 0), 0, 0) := by decide +kernel
set_option maxRecDepth 100000 in
theorem zgw187_0 : zfetch 187 0 = some (.aload_n 0, 1, (0, 0, 0), 0, 0) := by decide +kernel
set_option maxRecDepth 100000 in
theorem zgw187_1 : zfetch 187 1 = some (.getfield 9, 3, (9, 0, 0), 0, 225) := by decide +kernel
set_option maxRecDepth 100000 in
theorem zgw187_4 : zfetch 187 4 = some (.iload_n 1, 1, (0, 0, 0), 0, 0) := by decide +kernel
set_option maxRecDepth 100000 in
theorem zgw187_5 : zfetch 187 5 = some (.iaload, 1, (0, 0, 0), 0, 0) := by decide +kernel
set_option maxRecDepth 100000 in
theorem zgw187_6 : zfetch 187 6 = some (.bipush 97, 2, (0, 0, 0), 97, 0) := by decide +kernel
set_option maxRecDepth 100000 in
theorem zgw187_8 : zfetch 187 8 = some (.isub, 1, (0, 0, 0), 0, 0) := by decide +kernel
set_option maxRecDepth 100000 in
theorem zgw187_9 : zfetch 187 9 = some (.ireturn, 1, (0, 0, 0), 0, 0) := by decide +kernel
set_option maxRecDepth 100000 in
theorem zgw188_0 : zfetch 188 0 = some (.aload_n 0, 1, (0, 0, 0), 0, 0) := by decide +kernel
set_option maxRecDepth 100000 in
theorem zgw188_1 : zfetch 188 1 = some (.getfield 9, 3, (9, 0, 0), 0, 225) := by decide +kernel
set_option maxRecDepth 100000 in
theorem zgw188_4 : zfetch 188 4 = some (.iload_n 1, 1, (0, 0, 0), 0, 0) := by decide +kernel
set_option maxRecDepth 100000 in
theorem zgw188_5 : zfetch 188 5 = some (.iconst 1, 1, (0, 0, 0), 1, 0) := by decide +kernel
set_option maxRecDepth 100000 in
theorem zgw188_6 : zfetch 188 6 = some (.iadd, 1, (0, 0, 0), 0, 0) := by decide +kernel
set_option maxRecDepth 100000 in
theorem zgw188_7 : zfetch 188 7 = some (.iaload, 1, (0, 0, 0), 0, 0) := by decide +kernel
set_option maxRecDepth 100000 in
theorem zgw188_8 : zfetch 188 8 = some (.bipush 8, 2, (0, 0, 0), 8, 0) := by decide +kernel
set_option maxRecDepth 100000 in
theorem zgw188_10 : zfetch 188 10 = some (.ishl, 1, (0, 0, 0), 0, 0) := by decide +kernel
set_option maxRecDepth 100000 in
theorem zgw188_11 : zfetch 188 11 = some (.aload_n 0, 1, (0, 0, 0), 0, 0) := by decide +kernel
set_option maxRecDepth 100000 in
theorem zgw188_12 : zfetch 188 12 = some (.getfield 9, 3, (9, 0, 0), 0, 225) := by decide +kernel
set_option maxRecDepth 100000 in
theorem zgw188_15 : zfetch 188 15 = some (.iload_n 1, 1, (0, 0, 0), 0, 0) := by decide +kernel
set_option maxRecDepth 100000 in
theorem zgw188_16 : zfetch 188 16 = some (.iconst 2, 1, (0, 0, 0), 2, 0) := by decide +kernel
set_option maxRecDepth 100000 in
theorem zgw188_17 : zfetch 188 17 = some (.iadd, 1, (0, 0, 0), 0, 0) := by decide +kernel
set_option maxRecDepth 100000 in
theorem zgw188_18 : zfetch 188 18 = some (.iaload, 1, (0, 0, 0), 0, 0) := by decide +kernel
set_option maxRecDepth 100000 in
theorem zgw188_19 : zfetch 188 19 = some (.ior, 1, (0, 0, 0), 0, 0) := by decide +kernel
set_option maxRecDepth 100000 in
theorem zgw188_20 : zfetch 188 20 = some (.ireturn, 1, (0, 0, 0), 0, 0) := by decide +kernel
set_option maxRecDepth 100000 in
theorem zgw172_0 : zfetch 172 0 = some (.iconst 1, 1, (0, 0, 0), 1, 0) := by decide +kernel
set_option maxRecDepth 100000 in
theorem zgw172_1 : zfetch 172 1 = some (.aload_n 0, 1, (0, 0, 0), 0, 0) := by decide +kernel
set_option maxRecDepth 100000 in
theorem zgw172_2 : zfetch 172 2 = some (.getfield 18, 3, (8, 2, 0), 0, 272) := by decide +kernel
set_option maxRecDepth 100000 in
theorem zgw172_5 : zfetch 172 5 = some (.ishl, 1, (0, 0, 0), 0, 0) := by decide +kernel
set_option maxRecDepth 100000 in
theorem zgw172_6 : zfetch 172 6 = some (.iconst 1, 1, (0, 0, 0), 1, 0) := by decide +kernel
set_option maxRecDepth 100000 in
theorem zgw172_7 : zfetch 172 7 = some (.isub, 1, (0, 0, 0), 0, 0) := by decide +kernel
set_option maxRecDepth 100000 in
theorem zgw172_8 : zfetch 172 8 = some (.ireturn, 1, (0, 0, 0), 0, 0) := by decide +kernel
set_option maxRecDepth 100000 in
theorem zgw186_0 : zfetch 186 0 = some (.iload_n 1, 1, (0, 0, 0), 0, 0) := by decide +kernel
set_option maxRecDepth 100000 in
theorem zgw186_1 : zfetch 186 1 = some (.iconst 3, 1, (0, 0, 0), 3, 0) := by decide +kernel
set_option maxRecDepth 100000 in
theorem zgw186_2 : zfetch 186 2 = some (.irem, 1, (0, 0, 0), 0, 0) := by decide +kernel
set_option maxRecDepth 100000 in
theorem zgw186_3 : zfetch 186 3 = some (.ifCond .eq 5, 3, (8, 0, 0), 0, 0) := by decide +kernel
set_option maxRecDepth 100000 in
theorem zgw186_6 : zfetch 186 6 = some (.iconst 0, 1, (0, 0, 0), 0, 0) := by decide +kernel
set_option maxRecDepth 100000 in
theorem zgw186_7 : zfetch 186 7 = some (.ireturn, 1, (0, 0, 0), 0, 0) := by decide +kernel
set_option maxRecDepth 100000 in
theorem zgw186_8 : zfetch 186 8 = some (.iconst 0, 1, (0, 0, 0), 0, 0) := by decide +kernel
set_option maxRecDepth 100000 in
theorem zgw186_9 : zfetch 186 9 = some (.istore_n 3, 1, (0, 0, 0), 0, 0) := by decide +kernel
set_option maxRecDepth 100000 in
theorem zgw186_10 : zfetch 186 10 = some (.iload_n 3, 1, (0, 0, 0), 0, 0) := by decide +kernel
set_option maxRecDepth 100000 in
theorem zgw186_11 : zfetch 186 11 = some (.iconst 2, 1, (0, 0, 0), 2, 0) := by decide +kernel
set_option maxRecDepth 100000 in
theorem zgw186_12 : zfetch 186 12 = some (.iadd, 1, (0, 0, 0), 0, 0) := by decide +kernel
set_option maxRecDepth 100000 in
theorem zgw186_13 : zfetch 186 13 = some (.iload_n 1, 1, (0, 0, 0), 0, 0) := by decide +kernel
set_option maxRecDepth 100000 in
theorem zgw186_14 : zfetch 186 14 = some (.if_icmp .ge 40, 3, (54, 0, 0), 0, 0) := by decide +kernel
set_option maxRecDepth 100000 in
theorem zgw186_54 : zfetch 186 54 = some (.iconst 1, 1, (0, 0, 0), 1, 0) := by decide +kernel
set_option maxRecDepth 100000 in
theorem zgw186_55 : zfetch 186 55 = some (.ireturn, 1, (0, 0, 0), 0, 0) := by decide +kernel
set_option maxRecDepth 100000 in
theorem zgw186_17 : zfetch 186 17 = some (.aload_n 0, 1, (0, 0, 0), 0, 0) := by decide +kernel
set_option maxRecDepth 100000 in
theorem zgw186_18 : zfetch 186 18 = some (.iload_n 3, 1, (0, 0, 0), 0, 0) := by decide +kernel
set_option maxRecDepth 100000 in
theorem zgw186_19 : zfetch 186 19 = some (.invokevirtual 47, 3, (0, 187, 0), 0, 1575) := by decide +kernel
set_option maxRecDepth 100000 in
theorem zgw186_22 : zfetch 186 22 = some (.istore 4, 2, (0, 0, 0), 0, 0) := by decide +kernel
set_option maxRecDepth 100000 in
theorem zgw186_24 : zfetch 186 24 = some (.iload 4, 2, (0, 0, 0), 0, 0) := by decide +kernel
set_option maxRecDepth 100000 in
theorem zgw186_26 : zfetch 186 26 = some (.ifCond .lt 20, 3, (46, 0, 0), 0, 0) := by decide +kernel
set_option maxRecDepth 100000 in
theorem zgw186_46 : zfetch 186 46 = some (.iconst 0, 1, (0, 0, 0), 0, 0) := by decide +kernel
set_option maxRecDepth 100000 in
theorem zgw186_47 : zfetch 186 47 = some (.ireturn, 1, (0, 0, 0), 0, 0) := by decide +kernel
set_option maxRecDepth 100000 in
theorem zgw186_29 : zfetch 186 29 = some (.iload 4, 2, (0, 0, 0), 0, 0) := by decide +kernel
set_option maxRecDepth 100000 in
theorem zgw186_31 : zfetch 186 31 = some (.iload_n 2, 1, (0, 0, 0), 0, 0) := by decide +kernel
set_option maxRecDepth 100000 in
theorem zgw186_32 : zfetch 186 32 = some (.if_icmp .ge 14, 3, (46, 0, 0), 0, 0) := by decide +kernel
set_option maxRecDepth 100000 in
theorem zgw186_35 : zfetch 186 35 = some (.aload_n 0, 1, (0, 0, 0), 0, 0) := by decide +kernel
set_option maxRecDepth 100000 in
theorem zgw186_36 : zfetch 186 36 = some (.iload_n 3, 1, (0, 0, 0), 0, 0) := by decide +kernel
set_option maxRecDepth 100000 in
theorem zgw186_37 : zfetch 186 37 = some (.invokevirtual 51, 3, (0, 188, 0), 0, 1579) := by decide +kernel
set_option maxRecDepth 100000 in
theorem zgw186_40 : zfetch 186 40 = some (.sipush 9999, 3, (0, 0, 0), 9999, 0) := by decide +kernel
set_option maxRecDepth 100000 in
theorem zgw186_43 : zfetch 186 43 = some (.if_icmp .le 5, 3, (48, 0, 0), 0, 0) := by decide +kernel
set_option maxRecDepth 100000 in
theorem zgw186_48 : zfetch 186 48 = some (.iinc 3 3, 3, (0, 0, 0), 3, 0) := by decide +kernel
set_option maxRecDepth 100000 in
theorem zgw186_51 : zfetch 186 51 = some (.goto (-41), 3, (10, 0, 0), 0, 0) := by decide +kernel
set_option maxRecDepth 100000 in
theorem zgw78_0 : zfetch 78 0 = some (.aload_n 0, 1, (0, 0, 0), 0, 0) := by decide +kernel
set_option maxRecDepth 100000 in
theorem zgw78_1 : zfetch 78 1 = some (.getfield 10, 3, (11, 0, 0), 0, 575) := by decide +kernel
set_option maxRecDepth 100000 in
theorem zgw78_4 : zfetch 78 4 = some (.getfield 76, 3, (9, 1, 1), 0, 227) := by decide +kernel
set_option maxRecDepth 100000 in
theorem zgw78_7 : zfetch 78 7 = some (.istore_n 1, 1, (0, 0, 0), 0, 0) := by decide +kernel
set_option maxRecDepth 100000 in
theorem zgw78_8 : zfetch 78 8 = some (.aload_n 0, 1, (0, 0, 0), 0, 0) := by decide +kernel
set_option maxRecDepth 100000 in
theorem zgw78_9 : zfetch 78 9 = some (.getfield 10, 3, (11, 0, 0), 0, 575) := by decide +kernel
set_option maxRecDepth 100000 in
theorem zgw78_12 : zfetch 78 12 = some (.iconst 0, 1, (0, 0, 0), 0, 0) := by decide +kernel
set_option maxRecDepth 100000 in
theorem zgw78_13 : zfetch 78 13 = some (.putfield 76, 3, (9, 1, 1), 0, 227) := by decide +kernel
set_option maxRecDepth 100000 in
theorem zgw78_16 : zfetch 78 16 = some (.aload_n 0, 1, (0, 0, 0), 0, 0) := by decide +kernel
set_option maxRecDepth 100000 in
theorem zgw78_17 : zfetch 78 17 = some (.getfield 10, 3, (11, 0, 0), 0, 575) := by decide +kernel
set_option maxRecDepth 100000 in
theorem zgw78_20 : zfetch 78 20 = some (.iload_n 1, 1, (0, 0, 0), 0, 0) := by decide +kernel
set_option maxRecDepth 100000 in
theorem zgw78_21 : zfetch 78 21 = some (.aload_n 0, 1, (0, 0, 0), 0, 0) := by decide +kernel
set_option maxRecDepth 100000 in
theorem zgw78_22 : zfetch 78 22 = some (.getfield 19, 3, (11, 1, 0), 0, 576) := by decide +kernel
set_option maxRecDepth 100000 in
theorem zgw78_25 : zfetch 78 25 = some (.getfield 83, 3, (2, 0, 1), 0, 350) := by decide +kernel
set_option maxRecDepth 100000 in
theorem zgw78_28 : zfetch 78 28 = some (.getfield 313, 3, (8, 0, 1), 0, 268) := by decide +kernel
set_option maxRecDepth 100000 in
theorem zgw78_31 : zfetch 78 31 = some (.invokevirtual 316, 3, (0, 186, 1), 0, 1571) := by decide +kernel
set_option maxRecDepth 100000 in
theorem zgw78_34 : zfetch 78 34 = some (.ifCond .ne 14, 3, (48, 0, 0), 0, 0) := by decide +kernel
set_option maxRecDepth 100000 in
theorem zgw78_37 : zfetch 78 37 = some (.new 91, 3, (1, 0, 21), 1, 957) := by decide +kernel
set_option maxRecDepth 100000 in
theorem zgw78_48 : zfetch 78 48 = some (.aload_n 0, 1, (0, 0, 0), 0, 0) := by decide +kernel
set_option maxRecDepth 100000 in
theorem zgw78_49 : zfetch 78 49 = some (.getfield 19, 3, (11, 1, 0), 0, 576) := by decide +kernel
set_option maxRecDepth 100000 in
theorem zgw78_52 : zfetch 78 52 = some (.getfield 83, 3, (2, 0, 1), 0, 350) := by decide +kernel
set_option maxRecDepth 100000 in
theorem zgw78_55 : zfetch 78 55 = some (.invokevirtual 322, 3, (0, 172, 1), 0, 727) := by decide +kernel
set_option maxRecDepth 100000 in
theorem zgw78_58 : zfetch 78 58 = some (.istore_n 2, 1, (0, 0, 0), 0, 0) := by decide +kernel
set_option maxRecDepth 100000 in
theorem zgw78_59 : zfetch 78 59 = some (.iconst 0, 1, (0, 0, 0), 0, 0) := by decide +kernel
set_option maxRecDepth 100000 in
theorem zgw78_60 : zfetch 78 60 = some (.istore_n 3, 1, (0, 0, 0), 0, 0) := by decide +kernel
set_option maxRecDepth 100000 in
theorem zgw78_61 : zfetch 78 61 = some (.iload_n 3, 1, (0, 0, 0), 0, 0) := by decide +kernel
set_option maxRecDepth 100000 in
theorem zgw78_62 : zfetch 78 62 = some (.iconst 2, 1, (0, 0, 0), 2, 0) := by decide +kernel
set_option maxRecDepth 100000 in
theorem zgw78_63 : zfetch 78 63 = some (.iadd, 1, (0, 0, 0), 0, 0) := by decide +kernel
set_option maxRecDepth 100000 in
theorem zgw78_64 : zfetch 78 64 = some (.iload_n 1, 1, (0, 0, 0), 0, 0) := by decide +kernel
set_option maxRecDepth 100000 in
theorem zgw78_65 : zfetch 78 65 = some (.if_icmp .ge 39, 3, (104, 0, 0), 0, 0) := by decide +kernel
set_option maxRecDepth 100000 in
theorem zgw78_68 : zfetch 78 68 = some (.iload_n 2, 1, (0, 0, 0), 0, 0) := by decide +kernel
set_option maxRecDepth 100000 in
theorem zgw78_69 : zfetch 78 69 = some (.aload_n 0, 1, (0, 0, 0), 0, 0) := by decide +kernel
set_option maxRecDepth 100000 in
theorem zgw78_70 : zfetch 78 70 = some (.getfield 19, 3, (11, 1, 0), 0, 576) := by decide +kernel
set_option maxRecDepth 100000 in
theorem zgw78_73 : zfetch 78 73 = some (.aload_n 0, 1, (0, 0, 0), 0, 0) := by decide +kernel
set_option maxRecDepth 100000 in
theorem zgw78_74 : zfetch 78 74 = some (.getfield 26, 3, (11, 2, 0), 0, 577) := by decide +kernel
set_option maxRecDepth 100000 in
theorem zgw78_77 : zfetch 78 77 = some (.aload_n 0, 1, (0, 0, 0), 0, 0) := by decide +kernel
set_option maxRecDepth 100000 in
theorem zgw78_78 : zfetch 78 78 = some (.getfield 10, 3, (11, 0, 0), 0, 575) := by decide +kernel
set_option maxRecDepth 100000 in
theorem zgw78_81 : zfetch 78 81 = some (.iload_n 3, 1, (0, 0, 0), 0, 0) := by decide +kernel
set_option maxRecDepth 100000 in
theorem zgw78_82 : zfetch 78 82 = some (.invokevirtual 326, 3, (0, 187, 1), 0, 1584) := by decide +kernel
set_option maxRecDepth 100000 in
theorem zgw78_85 : zfetch 78 85 = some (.aload_n 0, 1, (0, 0, 0), 0, 0) := by decide +kernel
set_option maxRecDepth 100000 in
theorem zgw78_86 : zfetch 78 86 = some (.getfield 10, 3, (11, 0, 0), 0, 575) := by decide +kernel
set_option maxRecDepth 100000 in
theorem zgw78_89 : zfetch 78 89 = some (.iload_n 3, 1, (0, 0, 0), 0, 0) := by decide +kernel
set_option maxRecDepth 100000 in
theorem zgw78_90 : zfetch 78 90 = some (.invokevirtual 329, 3, (0, 188, 1), 0, 1585) := by decide +kernel
set_option maxRecDepth 100000 in
theorem zgw78_93 : zfetch 78 93 = some (.invokevirtual 332, 3, (0, 126, 1), 0, 1586) := by decide +kernel
set_option maxRecDepth 100000 in
theorem zgw78_96 : zfetch 78 96 = some (.iand, 1, (0, 0, 0), 0, 0) := by decide +kernel
set_option maxRecDepth 100000 in
theorem zgw78_97 : zfetch 78 97 = some (.istore_n 2, 1, (0, 0, 0), 0, 0) := by decide +kernel
set_option maxRecDepth 100000 in
theorem zgw78_98 : zfetch 78 98 = some (.iinc 3 3, 3, (0, 0, 0), 3, 0) := by decide +kernel
set_option maxRecDepth 100000 in
theorem zgw78_101 : zfetch 78 101 = some (.goto (-40), 3, (61, 0, 0), 0, 0) := by decide +kernel
set_option maxRecDepth 100000 in
theorem zgw78_104 : zfetch 78 104 = some (.iload_n 2, 1, (0, 0, 0), 0, 0) := by decide +kernel
set_option maxRecDepth 100000 in
theorem zgw78_105 : zfetch 78 105 = some (.ireturn, 1, (0, 0, 0), 0, 0) := by decide +kernel
set_option maxRecDepth 100000 in
theorem zgw35_0 : zfetch 35 0 = some (.aload_n 1, 1, (0, 0, 0), 0, 0) := by decide +kernel
set_option maxRecDepth 100000 in
theorem zgw35_1 : zfetch 35 1 = some (.iconst 0, 1, (0, 0, 0), 0, 0) := by decide +kernel
set_option maxRecDepth 100000 in
theorem zgw35_2 : zfetch 35 2 = some (.aload_n 0, 1, (0, 0, 0), 0, 0) := by decide +kernel
set_option maxRecDepth 100000 in
theorem zgw35_3 : zfetch 35 3 = some (.invokevirtual 125, 3, (0, 78, 0), 0, 1567) := by decide +kernel
set_option maxRecDepth 100000 in
theorem zgw35_6 : zfetch 35 6 = some (.i2l, 1, (0, 0, 0), 0, 0) := by decide +kernel
set_option maxRecDepth 100000 in
theorem zgw35_7 : zfetch 35 7 = some (.lastore, 1, (0, 0, 0), 0, 0) := by decide +kernel
set_option maxRecDepth 100000 in
theorem zgw35_8 : zfetch 35 8 = some (.goto 6, 3, (14, 0, 0), 0, 0) := by decide +kernel
set_option maxRecDepth 100000 in
theorem zgw35_14 : zfetch 35 14 = some (.iconst 0, 1, (0, 0, 0), 0, 0) := by decide +kernel
set_option maxRecDepth 100000 in
theorem zgw35_15 : zfetch 35 15 = some (.ireturn, 1, (0, 0, 0), 0, 0) := by decide +kernel
set_option maxRecDepth 100000 in
theorem zgw35_11 : zfetch 35 11 = some (.astore_n 2, 1, (0, 0, 0), 0, 0) := by decide +kernel
set_option maxRecDepth 100000 in
theorem zgw35_12 : zfetch 35 12 = some (.iconst 1, 1, (0, 0, 0), 1, 0) := by decide +kernel
set_option maxRecDepth 100000 in
theorem zgw35_13 : zfetch 35 13 = some (.ireturn, 1, (0, 0, 0), 0, 0) := by decide +kernel
set_option maxRecDepth 100000 in
theorem zgw327_0 : zfetch 327 0 = some (.aload_n 0, 1, (0, 0, 0), 0, 0) := by decide +kernel
set_option maxRecDepth 100000 in
theorem zgw327_1 : zfetch 327 1 = some (.iload_n 1, 1, (0, 0, 0), 0, 0) := by decide +kernel
set_option maxRecDepth 100000 in
theorem zgw327_2 : zfetch 327 2 = some (.iconst 3, 1, (0, 0, 0), 3, 0) := by decide +kernel
set_option maxRecDepth 100000 in
theorem zgw327_3 : zfetch 327 3 = some (.invokevirtual 59, 3, (0, 221, 0), 0, 1791) := by decide +kernel
set_option maxRecDepth 100000 in
theorem zgw327_6 : zfetch 327 6 = some (.istore_n 3, 1, (0, 0, 0), 0, 0) := by decide +kernel
set_option maxRecDepth 100000 in
theorem zgw327_7 : zfetch 327 7 = some (.aload_n 0, 1, (0, 0, 0), 0, 0) := by decide +kernel
set_option maxRecDepth 100000 in
theorem zgw327_8 : zfetch 327 8 = some (.iload_n 1, 1, (0, 0, 0), 0, 0) := by decide +kernel
set_option maxRecDepth 100000 in
theorem zgw327_9 : zfetch 327 9 = some (.iconst 4, 1, (0, 0, 0), 4, 0) := by decide +kernel
set_option maxRecDepth 100000 in
theorem zgw327_10 : zfetch 327 10 = some (.aload_n 0, 1, (0, 0, 0), 0, 0) := by decide +kernel
set_option maxRecDepth 100000 in
theorem zgw327_11 : zfetch 327 11 = some (.iload_n 1, 1, (0, 0, 0), 0, 0) := by decide +kernel
set_option maxRecDepth 100000 in
theorem zgw327_12 : zfetch 327 12 = some (.iconst 0, 1, (0, 0, 0), 0, 0) := by decide +kernel
set_option maxRecDepth 100000 in
theorem zgw327_13 : zfetch 327 13 = some (.invokevirtual 59, 3, (0, 221, 0), 0, 1791) := by decide +kernel
set_option maxRecDepth 100000 in
theorem zgw327_16 : zfetch 327 16 = some (.iload_n 2, 1, (0, 0, 0), 0, 0) := by decide +kernel
set_option maxRecDepth 100000 in
theorem zgw327_17 : zfetch 327 17 = some (.iadd, 1, (0, 0, 0), 0, 0) := by decide +kernel
set_option maxRecDepth 100000 in
theorem zgw327_18 : zfetch 327 18 = some (.iload_n 3, 1, (0, 0, 0), 0, 0) := by decide +kernel
set_option maxRecDepth 100000 in
theorem zgw327_19 : zfetch 327 19 = some (.irem, 1, (0, 0, 0), 0, 0) := by decide +kernel
set_option maxRecDepth 100000 in
theorem zgw327_20 : zfetch 327 20 = some (.iload_n 3, 1, (0, 0, 0), 0, 0) := by decide +kernel
set_option maxRecDepth 100000 in
theorem zgw327_21 : zfetch 327 21 = some (.iadd, 1, (0, 0, 0), 0, 0) := by decide +kernel
set_option maxRecDepth 100000 in
theorem zgw327_22 : zfetch 327 22 = some (.iload_n 3, 1, (0, 0, 0), 0, 0) := by decide +kernel
set_option maxRecDepth 100000 in
theorem zgw327_23 : zfetch 327 23 = some (.irem, 1, (0, 0, 0), 0, 0) := by decide +kernel
set_option maxRecDepth 100000 in
theorem zgw327_24 : zfetch 327 24 = some (.iadd, 1, (0, 0, 0), 0, 0) := by decide +kernel
set_option maxRecDepth 100000 in
theorem zgw327_25 : zfetch 327 25 = some (.invokevirtual 59, 3, (0, 221, 0), 0, 1791) := by decide +kernel
set_option maxRecDepth 100000 in
theorem zgw327_28 : zfetch 327 28 = some (.ireturn, 1, (0, 0, 0), 0, 0) := by decide +kernel
set_option maxRecDepth 100000 in
theorem zgw329_0 : zfetch 329 0 = some (.aload_n 0, 1, (0, 0, 0), 0, 0) := by decide +kernel
set_option maxRecDepth 100000 in
theorem zgw329_1 : zfetch 329 1 = some (.getfield 29, 3, (12, 8, 0), 0, 1625) := by decide +kernel
set_option maxRecDepth 100000 in
theorem zgw329_4 : zfetch 329 4 = some (.iload_n 1, 1, (0, 0, 0), 0, 0) := by decide +kernel
set_option maxRecDepth 100000 in
theorem zgw329_5 : zfetch 329 5 = some (.iconst 1, 1, (0, 0, 0), 1, 0) := by decide +kernel
set_option maxRecDepth 100000 in
theorem zgw329_6 : zfetch 329 6 = some (.iadd, 1, (0, 0, 0), 0, 0) := by decide +kernel
set_option maxRecDepth 100000 in
theorem zgw329_7 : zfetch 329 7 = some (.baload, 1, (0, 0, 0), 0, 0) := by decide +kernel
set_option maxRecDepth 100000 in
theorem zgw329_8 : zfetch 329 8 = some (.sipush 255, 3, (0, 0, 0), 255, 0) := by decide +kernel
set_option maxRecDepth 100000 in
theorem zgw329_11 : zfetch 329 11 = some (.iand, 1, (0, 0, 0), 0, 0) := by decide +kernel
set_option maxRecDepth 100000 in
theorem zgw329_12 : zfetch 329 12 = some (.bipush 8, 2, (0, 0, 0), 8, 0) := by decide +kernel
set_option maxRecDepth 100000 in
theorem zgw329_14 : zfetch 329 14 = some (.ishl, 1, (0, 0, 0), 0, 0) := by decide +kernel
set_option maxRecDepth 100000 in
theorem zgw329_15 : zfetch 329 15 = some (.aload_n 0, 1, (0, 0, 0), 0, 0) := by decide +kernel
set_option maxRecDepth 100000 in
theorem zgw329_16 : zfetch 329 16 = some (.getfield 29, 3, (12, 8, 0), 0, 1625) := by decide +kernel
set_option maxRecDepth 100000 in
theorem zgw329_19 : zfetch 329 19 = some (.iload_n 1, 1, (0, 0, 0), 0, 0) := by decide +kernel
set_option maxRecDepth 100000 in
theorem zgw329_20 : zfetch 329 20 = some (.iconst 2, 1, (0, 0, 0), 2, 0) := by decide +kernel
set_option maxRecDepth 100000 in
theorem zgw329_21 : zfetch 329 21 = some (.iadd, 1, (0, 0, 0), 0, 0) := by decide +kernel
set_option maxRecDepth 100000 in
theorem zgw329_22 : zfetch 329 22 = some (.baload, 1, (0, 0, 0), 0, 0) := by decide +kernel
set_option maxRecDepth 100000 in
theorem zgw329_23 : zfetch 329 23 = some (.sipush 255, 3, (0, 0, 0), 255, 0) := by decide +kernel
set_option maxRecDepth 100000 in
theorem zgw329_26 : zfetch 329 26 = some (.iand, 1, (0, 0, 0), 0, 0) := by decide +kernel
set_option maxRecDepth 100000 in
theorem zgw329_27 : zfetch 329 27 = some (.ior, 1, (0, 0, 0), 0, 0) := by decide +kernel
set_option maxRecDepth 100000 in
theorem zgw329_28 : zfetch 329 28 = some (.ireturn, 1, (0, 0, 0), 0, 0) := by decide +kernel
set_option maxRecDepth 100000 in
theorem zgw330_0 : zfetch 330 0 = some (.aload_n 0, 1, (0, 0, 0), 0, 0) := by decide +kernel
set_option maxRecDepth 100000 in
theorem zgw330_1 : zfetch 330 1 = some (.invokevirtual 261, 3, (0, 244, 0), 0, 1707) := by decide +kernel
set_option maxRecDepth 100000 in
theorem zgw330_4 : zfetch 330 4 = some (.aload_n 0, 1, (0, 0, 0), 0, 0) := by decide +kernel
set_option maxRecDepth 100000 in
theorem zgw330_5 : zfetch 330 5 = some (.getfield 87, 3, (12, 11, 0), 0, 1628) := by decide +kernel
set_option maxRecDepth 100000 in
theorem zgw330_8 : zfetch 330 8 = some (.iconst 3, 1, (0, 0, 0), 3, 0) := by decide +kernel
set_option maxRecDepth 100000 in
theorem zgw330_9 : zfetch 330 9 = some (.irem, 1, (0, 0, 0), 0, 0) := by decide +kernel
set_option maxRecDepth 100000 in
theorem zgw330_10 : zfetch 330 10 = some (.ifCond .ne 7, 3, (17, 0, 0), 0, 0) := by decide +kernel
set_option maxRecDepth 100000 in
theorem zgw330_13 : zfetch 330 13 = some (.iconst 1, 1, (0, 0, 0), 1, 0) := by decide +kernel
set_option maxRecDepth 100000 in
theorem zgw330_14 : zfetch 330 14 = some (.goto 4, 3, (18, 0, 0), 0, 0) := by decide +kernel
set_option maxRecDepth 100000 in
theorem zgw330_18 : zfetch 330 18 = some (.istore_n 1, 1, (0, 0, 0), 0, 0) := by decide +kernel
set_option maxRecDepth 100000 in
theorem zgw330_19 : zfetch 330 19 = some (.iconst 0, 1, (0, 0, 0), 0, 0) := by decide +kernel
set_option maxRecDepth 100000 in
theorem zgw330_20 : zfetch 330 20 = some (.istore_n 2, 1, (0, 0, 0), 0, 0) := by decide +kernel
set_option maxRecDepth 100000 in
theorem zgw330_17 : zfetch 330 17 = some (.iconst 0, 1, (0, 0, 0), 0, 0) := by decide +kernel
set_option maxRecDepth 100000 in
theorem zgw330_21 : zfetch 330 21 = some (.iload_n 2, 1, (0, 0, 0), 0, 0) := by decide +kernel
set_option maxRecDepth 100000 in
theorem zgw330_22 : zfetch 330 22 = some (.iconst 2, 1, (0, 0, 0), 2, 0) := by decide +kernel
set_option maxRecDepth 100000 in
theorem zgw330_23 : zfetch 330 23 = some (.iadd, 1, (0, 0, 0), 0, 0) := by decide +kernel
set_option maxRecDepth 100000 in
theorem zgw330_24 : zfetch 330 24 = some (.aload_n 0, 1, (0, 0, 0), 0, 0) := by decide +kernel
set_option maxRecDepth 100000 in
theorem zgw330_25 : zfetch 330 25 = some (.getfield 87, 3, (12, 11, 0), 0, 1628) := by decide +kernel
set_option maxRecDepth 100000 in
theorem zgw330_28 : zfetch 330 28 = some (.if_icmp .ge 46, 3, (74, 0, 0), 0, 0) := by decide +kernel
set_option maxRecDepth 100000 in
theorem zgw330_31 : zfetch 330 31 = some (.iload_n 1, 1, (0, 0, 0), 0, 0) := by decide +kernel
set_option maxRecDepth 100000 in
theorem zgw330_32 : zfetch 330 32 = some (.ifCond .eq 42, 3, (74, 0, 0), 0, 0) := by decide +kernel
set_option maxRecDepth 100000 in
theorem zgw330_35 : zfetch 330 35 = some (.aload_n 0, 1, (0, 0, 0), 0, 0) := by decide +kernel
set_option maxRecDepth 100000 in
theorem zgw330_36 : zfetch 330 36 = some (.aload_n 0, 1, (0, 0, 0), 0, 0) := by decide +kernel
set_option maxRecDepth 100000 in
theorem zgw330_37 : zfetch 330 37 = some (.getfield 29, 3, (12, 8, 0), 0, 1625) := by decide +kernel
set_option maxRecDepth 100000 in
theorem zgw330_40 : zfetch 330 40 = some (.iload_n 2, 1, (0, 0, 0), 0, 0) := by decide +kernel
set_option maxRecDepth 100000 in
theorem zgw330_41 : zfetch 330 41 = some (.baload, 1, (0, 0, 0), 0, 0) := by decide +kernel
set_option maxRecDepth 100000 in
theorem zgw330_42 : zfetch 330 42 = some (.bipush 97, 2, (0, 0, 0), 97, 0) := by decide +kernel
set_option maxRecDepth 100000 in
theorem zgw330_44 : zfetch 330 44 = some (.isub, 1, (0, 0, 0), 0, 0) := by decide +kernel
set_option maxRecDepth 100000 in
theorem zgw330_45 : zfetch 330 45 = some (.invokevirtual 288, 3, (0, 227, 0), 0, 1898) := by decide +kernel
set_option maxRecDepth 100000 in
theorem zgw330_48 : zfetch 330 48 = some (.ifCond .ne 18, 3, (66, 0, 0), 0, 0) := by decide +kernel
set_option maxRecDepth 100000 in
theorem zgw330_66 : zfetch 330 66 = some (.iconst 0, 1, (0, 0, 0), 0, 0) := by decide +kernel
set_option maxRecDepth 100000 in
theorem zgw330_67 : zfetch 330 67 = some (.istore_n 1, 1, (0, 0, 0), 0, 0) := by decide +kernel
set_option maxRecDepth 100000 in
theorem zgw330_68 : zfetch 330 68 = some (.iinc 2 3, 3, (0, 0, 0), 3, 0) := by decide +kernel
set_option maxRecDepth 100000 in
theorem zgw330_71 : zfetch 330 71 = some (.goto (-50), 3, (21, 0, 0), 0, 0) := by decide +kernel
set_option maxRecDepth 100000 in
theorem zgw330_51 : zfetch 330 51 = some (.aload_n 0, 1, (0, 0, 0), 0, 0) := by decide +kernel
set_option maxRecDepth 100000 in
theorem zgw330_52 : zfetch 330 52 = some (.iload_n 2, 1, (0, 0, 0), 0, 0) := by decide +kernel
set_option maxRecDepth 100000 in
theorem zgw330_53 : zfetch 330 53 = some (.invokevirtual 396, 3, (0, 329, 0), 0, 2188) := by decide +kernel
set_option maxRecDepth 100000 in
theorem zgw330_56 : zfetch 330 56 = some (.sipush 9999, 3, (0, 0, 0), 9999, 0) := by decide +kernel
set_option maxRecDepth 100000 in
theorem zgw330_59 : zfetch 330 59 = some (.if_icmp .gt 7, 3, (66, 0, 0), 0, 0) := by decide +kernel
set_option maxRecDepth 100000 in
theorem zgw330_62 : zfetch 330 62 = some (.iconst 1, 1, (0, 0, 0), 1, 0) := by decide +kernel
set_option maxRecDepth 100000 in
theorem zgw330_63 : zfetch 330 63 = some (.goto 4, 3, (67, 0, 0), 0, 0) := by decide +kernel
set_option maxRecDepth 100000 in
theorem zgw330_74 : zfetch 330 74 = some (.aload_n 0, 1, (0, 0, 0), 0, 0) := by decide +kernel
set_option maxRecDepth 100000 in
theorem zgw330_75 : zfetch 330 75 = some (.iload_n 1, 1, (0, 0, 0), 0, 0) := by decide +kernel
set_option maxRecDepth 100000 in
theorem zgw330_76 : zfetch 330 76 = some (.ifCond .ne 7, 3, (83, 0, 0), 0, 0) := by decide +kernel
set_option maxRecDepth 100000 in
theorem zgw330_79 : zfetch 330 79 = some (.iconst 1, 1, (0, 0, 0), 1, 0) := by decide +kernel
set_option maxRecDepth 100000 in
theorem zgw330_80 : zfetch 330 80 = some (.goto 4, 3, (84, 0, 0), 0, 0) := by decide +kernel
set_option maxRecDepth 100000 in
theorem zgw330_84 : zfetch 330 84 = some (.iconst 1, 1, (0, 0, 0), 1, 0) := by decide +kernel
set_option maxRecDepth 100000 in
theorem zgw330_85 : zfetch 330 85 = some (.invokevirtual 272, 3, (0, 208, 0), 0, 1886) := by decide +kernel
set_option maxRecDepth 100000 in
theorem zgw330_88 : zfetch 330 88 = some (.ifCond .eq 5, 3, (93, 0, 0), 0, 0) := by decide +kernel
set_option maxRecDepth 100000 in
theorem zgw330_91 : zfetch 330 91 = some (.iconst 0, 1, (0, 0, 0), 0, 0) := by decide +kernel
set_option maxRecDepth 100000 in
theorem zgw330_92 : zfetch 330 92 = some (.ireturn, 1, (0, 0, 0), 0, 0) := by decide +kernel
set_option maxRecDepth 100000 in
theorem zgw330_83 : zfetch 330 83 = some (.iconst 0, 1, (0, 0, 0), 0, 0) := by decide +kernel
set_option maxRecDepth 100000 in
theorem zgw330_93 : zfetch 330 93 = some (.iconst 1, 1, (0, 0, 0), 1, 0) := by decide +kernel
set_option maxRecDepth 100000 in
theorem zgw330_94 : zfetch 330 94 = some (.aload_n 0, 1, (0, 0, 0), 0, 0) := by decide +kernel
set_option maxRecDepth 100000 in
theorem zgw330_95 : zfetch 330 95 = some (.invokevirtual 74, 3, (0, 217, 0), 0, 1780) := by decide +kernel
set_option maxRecDepth 100000 in
theorem zgw330_98 : zfetch 330 98 = some (.ishl, 1, (0, 0, 0), 0, 0) := by decide +kernel
set_option maxRecDepth 100000 in
theorem zgw330_99 : zfetch 330 99 = some (.iconst 1, 1, (0, 0, 0), 1, 0) := by decide +kernel
set_option maxRecDepth 100000 in
theorem zgw330_100 : zfetch 330 100 = some (.isub, 1, (0, 0, 0), 0, 0) := by decide +kernel
set_option maxRecDepth 100000 in
theorem zgw330_101 : zfetch 330 101 = some (.istore_n 2, 1, (0, 0, 0), 0, 0) := by decide +kernel
set_option maxRecDepth 100000 in
theorem zgw330_102 : zfetch 330 102 = some (.iconst 0, 1, (0, 0, 0), 0, 0) := by decide +kernel
set_option maxRecDepth 100000 in
theorem zgw330_103 : zfetch 330 103 = some (.istore_n 3, 1, (0, 0, 0), 0, 0) := by decide +kernel
set_option maxRecDepth 100000 in
theorem zgw330_104 : zfetch 330 104 = some (.iload_n 3, 1, (0, 0, 0), 0, 0) := by decide +kernel
set_option maxRecDepth 100000 in
theorem zgw330_105 : zfetch 330 105 = some (.aload_n 0, 1, (0, 0, 0), 0, 0) := by decide +kernel
set_option maxRecDepth 100000 in
theorem zgw330_106 : zfetch 330 106 = some (.getfield 87, 3, (12, 11, 0), 0, 1628) := by decide +kernel
set_option maxRecDepth 100000 in
theorem zgw330_109 : zfetch 330 109 = some (.if_icmp .ge 66, 3, (175, 0, 0), 0, 0) := by decide +kernel
set_option maxRecDepth 100000 in
theorem zgw330_175 : zfetch 330 175 = some (.iload_n 2, 1, (0, 0, 0), 0, 0) := by decide +kernel
set_option maxRecDepth 100000 in
theorem zgw330_176 : zfetch 330 176 = some (.ireturn, 1, (0, 0, 0), 0, 0) := by decide +kernel
set_option maxRecDepth 100000 in
theorem zgw330_112 : zfetch 330 112 = some (.iconst 0, 1, (0, 0, 0), 0, 0) := by decide +kernel
set_option maxRecDepth 100000 in
theorem zgw330_113 : zfetch 330 113 = some (.istore 4, 2, (0, 0, 0), 0, 0) := by decide +kernel
set_option maxRecDepth 100000 in
theorem zgw330_115 : zfetch 330 115 = some (.iload 4, 2, (0, 0, 0), 0, 0) := by decide +kernel
set_option maxRecDepth 100000 in
theorem zgw330_117 : zfetch 330 117 = some (.aload_n 0, 1, (0, 0, 0), 0, 0) := by decide +kernel
set_option maxRecDepth 100000 in
theorem zgw330_118 : zfetch 330 118 = some (.invokevirtual 74, 3, (0, 217, 0), 0, 1780) := by decide +kernel
set_option maxRecDepth 100000 in
theorem zgw330_121 : zfetch 330 121 = some (.if_icmp .ge 48, 3, (169, 0, 0), 0, 0) := by decide +kernel
set_option maxRecDepth 100000 in
theorem zgw330_169 : zfetch 330 169 = some (.iinc 3 3, 3, (0, 0, 0), 3, 0) := by decide +kernel
set_option maxRecDepth 100000 in
theorem zgw330_172 : zfetch 330 172 = some (.goto (-68), 3, (104, 0, 0), 0, 0) := by decide +kernel
set_option maxRecDepth 100000 in
theorem zgw330_124 : zfetch 330 124 = some (.aload_n 0, 1, (0, 0, 0), 0, 0) := by decide +kernel
set_option maxRecDepth 100000 in
theorem zgw330_125 : zfetch 330 125 = some (.iload 4, 2, (0, 0, 0), 0, 0) := by decide +kernel
set_option maxRecDepth 100000 in
theorem zgw330_127 : zfetch 330 127 = some (.aload_n 0, 1, (0, 0, 0), 0, 0) := by decide +kernel
set_option maxRecDepth 100000 in
theorem zgw330_128 : zfetch 330 128 = some (.iload_n 3, 1, (0, 0, 0), 0, 0) := by decide +kernel
set_option maxRecDepth 100000 in
theorem zgw330_129 : zfetch 330 129 = some (.invokevirtual 396, 3, (0, 329, 0), 0, 2188) := by decide +kernel
set_option maxRecDepth 100000 in
theorem zgw330_132 : zfetch 330 132 = some (.aload_n 0, 1, (0, 0, 0), 0, 0) := by decide +kernel
set_option maxRecDepth 100000 in
theorem zgw330_133 : zfetch 330 133 = some (.getfield 13, 3, (12, 1, 0), 0, 1618) := by decide +kernel
set_option maxRecDepth 100000 in
theorem zgw330_136 : zfetch 330 136 = some (.iconst 5, 1, (0, 0, 0), 5, 0) := by decide +kernel
set_option maxRecDepth 100000 in
theorem zgw330_137 : zfetch 330 137 = some (.iaload, 1, (0, 0, 0), 0, 0) := by decide +kernel
set_option maxRecDepth 100000 in
theorem zgw330_138 : zfetch 330 138 = some (.isub, 1, (0, 0, 0), 0, 0) := by decide +kernel
set_option maxRecDepth 100000 in
theorem zgw330_139 : zfetch 330 139 = some (.invokevirtual 393, 3, (0, 327, 0), 0, 2180) := by decide +kernel
set_option maxRecDepth 100000 in
theorem zgw330_142 : zfetch 330 142 = some (.aload_n 0, 1, (0, 0, 0), 0, 0) := by decide +kernel
set_option maxRecDepth 100000 in
theorem zgw330_143 : zfetch 330 143 = some (.getfield 29, 3, (12, 8, 0), 0, 1625) := by decide +kernel
set_option maxRecDepth 100000 in
theorem zgw330_146 : zfetch 330 146 = some (.iload_n 3, 1, (0, 0, 0), 0, 0) := by decide +kernel
set_option maxRecDepth 100000 in
theorem zgw330_147 : zfetch 330 147 = some (.baload, 1, (0, 0, 0), 0, 0) := by decide +kernel
set_option maxRecDepth 100000 in
theorem zgw330_148 : zfetch 330 148 = some (.bipush 97, 2, (0, 0, 0), 97, 0) := by decide +kernel
set_option maxRecDepth 100000 in
theorem zgw330_150 : zfetch 330 150 = some (.isub, 1, (0, 0, 0), 0, 0) := by decide +kernel
set_option maxRecDepth 100000 in
theorem zgw330_151 : zfetch 330 151 = some (.if_icmp .eq 12, 3, (163, 0, 0), 0, 0) := by decide +kernel
set_option maxRecDepth 100000 in
theorem zgw330_163 : zfetch 330 163 = some (.iinc 4 1, 3, (0, 0, 0), 1, 0) := by decide +kernel
set_option maxRecDepth 100000 in
theorem zgw330_166 : zfetch 330 166 = some (.goto (-51), 3, (115, 0, 0), 0, 0) := by decide +kernel
set_option maxRecDepth 100000 in
theorem zgw330_154 : zfetch 330 154 = some (.iload_n 2, 1, (0, 0, 0), 0, 0) := by decide +kernel
set_option maxRecDepth 100000 in
theorem zgw330_155 : zfetch 330 155 = some (.iconst 1, 1, (0, 0, 0), 1, 0) := by decide +kernel
set_option maxRecDepth 100000 in
theorem zgw330_156 : zfetch 330 156 = some (.iload 4, 2, (0, 0, 0), 0, 0) := by decide +kernel
set_option maxRecDepth 100000 in
theorem zgw330_158 : zfetch 330 158 = some (.ishl, 1, (0, 0, 0), 0, 0) := by decide +kernel
set_option maxRecDepth 100000 in
theorem zgw330_159 : zfetch 330 159 = some (.iconst (-1), 1, (0, 0, 0), (-1), 0) := by decide +kernel
set_option maxRecDepth 100000 in
theorem zgw330_160 : zfetch 330 160 = some (.ixor, 1, (0, 0, 0), 0, 0) := by decide +kernel
set_option maxRecDepth 100000 in
theorem zgw330_161 : zfetch 330 161 = some (.iand, 1, (0, 0, 0), 0, 0) := by decide +kernel
set_option maxRecDepth 100000 in
theorem zgw330_162 : zfetch 330 162 = some (.istore_n 2, 1, (0, 0, 0), 0, 0) := by decide +kernel
set_option maxRecDepth 100000 in
theorem zgw217_0 : zfetch 217 0 = some (.aload_n 0, 1, (0, 0, 0), 0, 0) := by decide +kernel
set_option maxRecDepth 100000 in
theorem zgw217_1 : zfetch 217 1 = some (.getfield 13, 3, (12, 1, 0), 0, 1618) := by decide +kernel
set_option maxRecDepth 100000 in
theorem zgw217_4 : zfetch 217 4 = some (.iconst 2, 1, (0, 0, 0), 2, 0) := by decide +kernel
set_option maxRecDepth 100000 in
theorem zgw217_5 : zfetch 217 5 = some (.iaload, 1, (0, 0, 0), 0, 0) := by decide +kernel
set_option maxRecDepth 100000 in
theorem zgw217_6 : zfetch 217 6 = some (.ireturn, 1, (0, 0, 0), 0, 0) := by decide +kernel
set_option maxRecDepth 100000 in
theorem znwq78 : zat zmi 78 = some (1, 4, 0, 11, 1, 0) := rfl
set_option maxRecDepth 100000 in
theorem znwq126 : zat zmi 126 = some (4, 6, 0, 2, 1, 0) := rfl
set_option maxRecDepth 100000 in
theorem znwq172 : zat zmi 172 = some (1, 1, 0, 8, 1, 0) := rfl
set_option maxRecDepth 100000 in
theorem znwq173 : zat zmi 173 = some (3, 3, 0, 8, 1, 0) := rfl
set_option maxRecDepth 100000 in
theorem znwq174 : zat zmi 174 = some (4, 4, 0, 8, 1, 0) := rfl
set_option maxRecDepth 100000 in
theorem znwq186 : zat zmi 186 = some (3, 5, 0, 9, 2, 0) := rfl
set_option maxRecDepth 100000 in
theorem znwq187 : zat zmi 187 = some (2, 2, 0, 9, 1, 0) := rfl
set_option maxRecDepth 100000 in
theorem znwq188 : zat zmi 188 = some (2, 2, 0, 9, 1, 0) := rfl
set_option maxRecDepth 100000 in
theorem znwq208 : zat zmi 208 = some (3, 3, 0, 12, 2, 0) := rfl
set_option maxRecDepth 100000 in
theorem znwq217 : zat zmi 217 = some (1, 1, 0, 12, 1, 0) := rfl
set_option maxRecDepth 100000 in
theorem znwq221 : zat zmi 221 = some (3, 3, 0, 12, 1, 0) := rfl
set_option maxRecDepth 100000 in
theorem znwq227 : zat zmi 227 = some (2, 2, 0, 12, 2, 0) := rfl
set_option maxRecDepth 100000 in
theorem znwq244 : zat zmi 244 = some (1, 1, 0, 12, 0, 0) := rfl
set_option maxRecDepth 100000 in
theorem znwq327 : zat zmi 327 = some (3, 4, 0, 12, 1, 0) := rfl
set_option maxRecDepth 100000 in
theorem znwq329 : zat zmi 329 = some (2, 2, 0, 12, 1, 0) := rfl
set_option maxRecDepth 100000 in
theorem znwq336 : zat zmi 336 = some (2, 3, 1, 99, 1, 0) := rfl
set_option maxRecDepth 100000 in
theorem nf_p {E : zE} {n d : Nat} {h : zH} {x y : Int32} (hy : y ≠ 0) (hx : 0 ≤ (x ^^^ y).toInt)   : zex E (n + 10) d 336 0 [some (.int x), some (.int y), none] [] h = some (.inl (some (.int (x - x / y * y))), h) :=
  ((yIn zgw336_0 rfl) : zex E (n + 10) d 336 0 [some (.int x), some (.int y), none] [] h = zex E (n + 9) d 336 1 [some (.int x), some (.int y), none] [.int x] h).trans (((yIn zgw336_1 rfl) : zex E (n + 9) d 336 1 [some (.int x), some (.int y), none] [.int x] h = zex E (n + 8) d 336 2 [some (.int x), some (.int y), none] [.int y, .int x] h).trans (((yRem zgw336_2 hy) : zex E (n + 8) d 336 2 [some (.int x), some (.int y), none] [.int y, .int x] h = zex E (n + 7) d 336 3 [some (.int x), some (.int y), none] [.int (x - x / y * y)] h).trans (((ySn zgw336_3) : zex E (n + 7) d 336 3 [some (.int x), some (.int y), none] [.int (x - x / y * y)] h = zex E (n + 6) d 336 4 [some (.int x), some (.int y), some (.int (x - x / y * y))] [] h).trans (((yIn zgw336_4 rfl) : zex E (n + 6) d 336 4 [some (.int x), some (.int y), some (.int (x - x / y * y))] [] h = zex E (n + 5) d 336 5 [some (.int x), some (.int y), some (.int (x - x / y * y))] [.int x] h).trans (((yIn zgw336_5 rfl) : zex E (n + 5) d 336 5 [some (.int x), some (.int y), some (.int (x - x / y * y))] [.int x] h = zex E (n + 4) d 336 6 [some (.int x), some (.int y), some (.int (x - x / y * y))] [.int y, .int x] h).trans (((yXor zgw336_6) : zex E (n + 4) d 336 6 [some (.int x), some (.int y), some (.int (x - x / y * y))] [.int y, .int x] h = zex E (n + 3) d 336 7 [some (.int x), some (.int y), some (.int (x - x / y * y))] [.int (x ^^^ y)] h).trans (((zjgT zgw336_7 hx) : zex E (n + 3) d 336 7 [some (.int x), some (.int y), some (.int (x - x / y * y))] [.int (x ^^^ y)] h = zex E (n + 2) d 336 18 [some (.int x), some (.int y), some (.int (x - x / y * y))] [] h).trans (((yIn zgw336_18 rfl) : zex E (n + 2) d 336 18 [some (.int x), some (.int y), some (.int (x - x / y * y))] [] h = zex E (n + 1) d 336 19 [some (.int x), some (.int y), some (.int (x - x / y * y))] [.int (x - x / y * y)] h).trans (((yRet1 zgw336_19 rfl) : zex E (n + 1) d 336 19 [some (.int x), some (.int y), some (.int (x - x / y * y))] [.int (x - x / y * y)] h = some (.inl (some (.int (x - x / y * y))), h)))))))))))
set_option maxRecDepth 100000 in
theorem nf_z {E : zE} {n d : Nat} {h : zH} {x y : Int32} (hy : y ≠ 0) (hx : (x ^^^ y).toInt < 0) (hq : (x - x / y * y).toInt = 0)   : zex E (n + 12) d 336 0 [some (.int x), some (.int y), none] [] h = some (.inl (some (.int (x - x / y * y))), h) :=
  ((yIn zgw336_0 rfl) : zex E (n + 12) d 336 0 [some (.int x), some (.int y), none] [] h = zex E (n + 11) d 336 1 [some (.int x), some (.int y), none] [.int x] h).trans (((yIn zgw336_1 rfl) : zex E (n + 11) d 336 1 [some (.int x), some (.int y), none] [.int x] h = zex E (n + 10) d 336 2 [some (.int x), some (.int y), none] [.int y, .int x] h).trans (((yRem zgw336_2 hy) : zex E (n + 10) d 336 2 [some (.int x), some (.int y), none] [.int y, .int x] h = zex E (n + 9) d 336 3 [some (.int x), some (.int y), none] [.int (x - x / y * y)] h).trans (((ySn zgw336_3) : zex E (n + 9) d 336 3 [some (.int x), some (.int y), none] [.int (x - x / y * y)] h = zex E (n + 8) d 336 4 [some (.int x), some (.int y), some (.int (x - x / y * y))] [] h).trans (((yIn zgw336_4 rfl) : zex E (n + 8) d 336 4 [some (.int x), some (.int y), some (.int (x - x / y * y))] [] h = zex E (n + 7) d 336 5 [some (.int x), some (.int y), some (.int (x - x / y * y))] [.int x] h).trans (((yIn zgw336_5 rfl) : zex E (n + 7) d 336 5 [some (.int x), some (.int y), some (.int (x - x / y * y))] [.int x] h = zex E (n + 6) d 336 6 [some (.int x), some (.int y), some (.int (x - x / y * y))] [.int y, .int x] h).trans (((yXor zgw336_6) : zex E (n + 6) d 336 6 [some (.int x), some (.int y), some (.int (x - x / y * y))] [.int y, .int x] h = zex E (n + 5) d 336 7 [some (.int x), some (.int y), some (.int (x - x / y * y))] [.int (x ^^^ y)] h).trans (((zjgF zgw336_7 hx) : zex E (n + 5) d 336 7 [some (.int x), some (.int y), some (.int (x - x / y * y))] [.int (x ^^^ y)] h = zex E (n + 4) d 336 10 [some (.int x), some (.int y), some (.int (x - x / y * y))] [] h).trans (((yIn zgw336_10 rfl) : zex E (n + 4) d 336 10 [some (.int x), some (.int y), some (.int (x - x / y * y))] [] h = zex E (n + 3) d 336 11 [some (.int x), some (.int y), some (.int (x - x / y * y))] [.int (x - x / y * y)] h).trans (((zjeT zgw336_11 hq) : zex E (n + 3) d 336 11 [some (.int x), some (.int y), some (.int (x - x / y * y))] [.int (x - x / y * y)] h = zex E (n + 2) d 336 18 [some (.int x), some (.int y), some (.int (x - x / y * y))] [] h).trans (((yIn zgw336_18 rfl) : zex E (n + 2) d 336 18 [some (.int x), some (.int y), some (.int (x - x / y * y))] [] h = zex E (n + 1) d 336 19 [some (.int x), some (.int y), some (.int (x - x / y * y))] [.int (x - x / y * y)] h).trans (((yRet1 zgw336_19 rfl) : zex E (n + 1) d 336 19 [some (.int x), some (.int y), some (.int (x - x / y * y))] [.int (x - x / y * y)] h = some (.inl (some (.int (x - x / y * y))), h)))))))))))))
set_option maxRecDepth 100000 in
theorem nf_n {E : zE} {n d : Nat} {h : zH} {x y : Int32} (hy : y ≠ 0) (hx : (x ^^^ y).toInt < 0) (hq : (x - x / y * y).toInt ≠ 0)   : zex E (n + 14) d 336 0 [some (.int x), some (.int y), none] [] h = some (.inl (some (.int ((x - x / y * y) + y))), h) :=
  ((yIn zgw336_0 rfl) : zex E (n + 14) d 336 0 [some (.int x), some (.int y), none] [] h = zex E (n + 13) d 336 1 [some (.int x), some (.int y), none] [.int x] h).trans (((yIn zgw336_1 rfl) : zex E (n + 13) d 336 1 [some (.int x), some (.int y), none] [.int x] h = zex E (n + 12) d 336 2 [some (.int x), some (.int y), none] [.int y, .int x] h).trans (((yRem zgw336_2 hy) : zex E (n + 12) d 336 2 [some (.int x), some (.int y), none] [.int y, .int x] h = zex E (n + 11) d 336 3 [some (.int x), some (.int y), none] [.int (x - x / y * y)] h).trans (((ySn zgw336_3) : zex E (n + 11) d 336 3 [some (.int x), some (.int y), none] [.int (x - x / y * y)] h = zex E (n + 10) d 336 4 [some (.int x), some (.int y), some (.int (x - x / y * y))] [] h).trans (((yIn zgw336_4 rfl) : zex E (n + 10) d 336 4 [some (.int x), some (.int y), some (.int (x - x / y * y))] [] h = zex E (n + 9) d 336 5 [some (.int x), some (.int y), some (.int (x - x / y * y))] [.int x] h).trans (((yIn zgw336_5 rfl) : zex E (n + 9) d 336 5 [some (.int x), some (.int y), some (.int (x - x / y * y))] [.int x] h = zex E (n + 8) d 336 6 [some (.int x), some (.int y), some (.int (x - x / y * y))] [.int y, .int x] h).trans (((yXor zgw336_6) : zex E (n + 8) d 336 6 [some (.int x), some (.int y), some (.int (x - x / y * y))] [.int y, .int x] h = zex E (n + 7) d 336 7 [some (.int x), some (.int y), some (.int (x - x / y * y))] [.int (x ^^^ y)] h).trans (((zjgF zgw336_7 hx) : zex E (n + 7) d 336 7 [some (.int x), some (.int y), some (.int (x - x / y * y))] [.int (x ^^^ y)] h = zex E (n + 6) d 336 10 [some (.int x), some (.int y), some (.int (x - x / y * y))] [] h).trans (((yIn zgw336_10 rfl) : zex E (n + 6) d 336 10 [some (.int x), some (.int y), some (.int (x - x / y * y))] [] h = zex E (n + 5) d 336 11 [some (.int x), some (.int y), some (.int (x - x / y * y))] [.int (x - x / y * y)] h).trans (((zjeF zgw336_11 hq) : zex E (n + 5) d 336 11 [some (.int x), some (.int y), some (.int (x - x / y * y))] [.int (x - x / y * y)] h = zex E (n + 4) d 336 14 [some (.int x), some (.int y), some (.int (x - x / y * y))] [] h).trans (((yIn zgw336_14 rfl) : zex E (n + 4) d 336 14 [some (.int x), some (.int y), some (.int (x - x / y * y))] [] h = zex E (n + 3) d 336 15 [some (.int x), some (.int y), some (.int (x - x / y * y))] [.int (x - x / y * y)] h).trans (((yIn zgw336_15 rfl) : zex E (n + 3) d 336 15 [some (.int x), some (.int y), some (.int (x - x / y * y))] [.int (x - x / y * y)] h = zex E (n + 2) d 336 16 [some (.int x), some (.int y), some (.int (x - x / y * y))] [.int y, .int (x - x / y * y)] h).trans (((yAdd zgw336_16) : zex E (n + 2) d 336 16 [some (.int x), some (.int y), some (.int (x - x / y * y))] [.int y, .int (x - x / y * y)] h = zex E (n + 1) d 336 17 [some (.int x), some (.int y), some (.int (x - x / y * y))] [.int ((x - x / y * y) + y)] h).trans (((yRet1 zgw336_17 rfl) : zex E (n + 1) d 336 17 [some (.int x), some (.int y), some (.int (x - x / y * y))] [.int ((x - x / y * y) + y)] h = some (.inl (some (.int ((x - x / y * y) + y))), h)))))))))))))))
set_option maxRecDepth 100000 in
theorem nf_s {E : zE} {n d : Nat} {h : zH} {p a k l q w : Int32} {P : Nat} (hp : p.toInt = (P : Int)) (hp8 : P < 8) (hv : h.2.1 8 P = l) (hl : 0 < l.toInt) (a4 : zat h.1 4 = some (.inr (.inl (8, [none, none, none, none, some (some 5), some (some 6), some (some 7), some (some 8), some (some 9)])))) (a8 : zat h.1 8 = some (.inl (0, 8, []))) (e1 : zex E (n + 2) d 336 0 [some (.int (a + k)), some (.int l), none] [] h = some (.inl (some (.int q)), h)) (e2 : zex E (n + 1) d 173 0 [some (.ref 4), some (.int p), some (.int q)] [] h = some (.inl (some (.int w)), h)) : zex E (n + 17) (d + 1) 174 0 [some (.ref 4), some (.int p), some (.int a), some (.int k)] [] h = some (.inl (some (.int w)), h) :=
  ((yAn zgw174_0 rfl rfl) : zex E (n + 17) (d + 1) 174 0 [some (.ref 4), some (.int p), some (.int a), some (.int k)] [] h = zex E (n + 16) (d + 1) 174 1 [some (.ref 4), some (.int p), some (.int a), some (.int k)] [.ref 4] h).trans (((zgx zgw174_1 a4 rfl) : zex E (n + 16) (d + 1) 174 1 [some (.ref 4), some (.int p), some (.int a), some (.int k)] [.ref 4] h = zex E (n + 15) (d + 1) 174 4 [some (.ref 4), some (.int p), some (.int a), some (.int k)] [.ref 8] h).trans (((yIn zgw174_4 rfl) : zex E (n + 15) (d + 1) 174 4 [some (.ref 4), some (.int p), some (.int a), some (.int k)] [.ref 8] h = zex E (n + 14) (d + 1) 174 5 [some (.ref 4), some (.int p), some (.int a), some (.int k)] [.int p, .ref 8] h).trans (((zlk zgw174_5 a8 hp hp8 hv) : zex E (n + 14) (d + 1) 174 5 [some (.ref 4), some (.int p), some (.int a), some (.int k)] [.int p, .ref 8] h = zex E (n + 13) (d + 1) 174 6 [some (.ref 4), some (.int p), some (.int a), some (.int k)] [.int l] h).trans (((zjhT zgw174_6 hl) : zex E (n + 13) (d + 1) 174 6 [some (.ref 4), some (.int p), some (.int a), some (.int k)] [.int l] h = zex E (n + 12) (d + 1) 174 11 [some (.ref 4), some (.int p), some (.int a), some (.int k)] [] h).trans (((yAn zgw174_11 rfl rfl) : zex E (n + 12) (d + 1) 174 11 [some (.ref 4), some (.int p), some (.int a), some (.int k)] [] h = zex E (n + 11) (d + 1) 174 12 [some (.ref 4), some (.int p), some (.int a), some (.int k)] [.ref 4] h).trans (((yIn zgw174_12 rfl) : zex E (n + 11) (d + 1) 174 12 [some (.ref 4), some (.int p), some (.int a), some (.int k)] [.ref 4] h = zex E (n + 10) (d + 1) 174 13 [some (.ref 4), some (.int p), some (.int a), some (.int k)] [.int p, .ref 4] h).trans (((yIn zgw174_13 rfl) : zex E (n + 10) (d + 1) 174 13 [some (.ref 4), some (.int p), some (.int a), some (.int k)] [.int p, .ref 4] h = zex E (n + 9) (d + 1) 174 14 [some (.ref 4), some (.int p), some (.int a), some (.int k)] [.int a, .int p, .ref 4] h).trans (((yIn zgw174_14 rfl) : zex E (n + 9) (d + 1) 174 14 [some (.ref 4), some (.int p), some (.int a), some (.int k)] [.int a, .int p, .ref 4] h = zex E (n + 8) (d + 1) 174 15 [some (.ref 4), some (.int p), some (.int a), some (.int k)] [.int k, .int a, .int p, .ref 4] h).trans (((yAdd zgw174_15) : zex E (n + 8) (d + 1) 174 15 [some (.ref 4), some (.int p), some (.int a), some (.int k)] [.int k, .int a, .int p, .ref 4] h = zex E (n + 7) (d + 1) 174 16 [some (.ref 4), some (.int p), some (.int a), some (.int k)] [.int (a + k), .int p, .ref 4] h).trans (((yAn zgw174_16 rfl rfl) : zex E (n + 7) (d + 1) 174 16 [some (.ref 4), some (.int p), some (.int a), some (.int k)] [.int (a + k), .int p, .ref 4] h = zex E (n + 6) (d + 1) 174 17 [some (.ref 4), some (.int p), some (.int a), some (.int k)] [.ref 4, .int (a + k), .int p, .ref 4] h).trans (((zgx zgw174_17 a4 rfl) : zex E (n + 6) (d + 1) 174 17 [some (.ref 4), some (.int p), some (.int a), some (.int k)] [.ref 4, .int (a + k), .int p, .ref 4] h = zex E (n + 5) (d + 1) 174 20 [some (.ref 4), some (.int p), some (.int a), some (.int k)] [.ref 8, .int (a + k), .int p, .ref 4] h).trans (((yIn zgw174_20 rfl) : zex E (n + 5) (d + 1) 174 20 [some (.ref 4), some (.int p), some (.int a), some (.int k)] [.ref 8, .int (a + k), .int p, .ref 4] h = zex E (n + 4) (d + 1) 174 21 [some (.ref 4), some (.int p), some (.int a), some (.int k)] [.int p, .ref 8, .int (a + k), .int p, .ref 4] h).trans (((zlk zgw174_21 a8 hp hp8 hv) : zex E (n + 4) (d + 1) 174 21 [some (.ref 4), some (.int p), some (.int a), some (.int k)] [.int p, .ref 8, .int (a + k), .int p, .ref 4] h = zex E (n + 3) (d + 1) 174 22 [some (.ref 4), some (.int p), some (.int a), some (.int k)] [.int l, .int (a + k), .int p, .ref 4] h).trans (((zcvs (as := [.int (a + k), .int l]) (r := [.int p, .ref 4]) zgw174_22 znwq336 rfl rfl e1) : zex E (n + 3) (d + 1) 174 22 [some (.ref 4), some (.int p), some (.int a), some (.int k)] [.int l, .int (a + k), .int p, .ref 4] h = zex E (n + 2) (d + 1) 174 25 [some (.ref 4), some (.int p), some (.int a), some (.int k)] [.int q, .int p, .ref 4] h).trans (((zcvg (h := h) (as := [.int p, .int q]) (r := []) zgw174_25 znwq173 rfl a4 rfl e2) : zex E (n + 2) (d + 1) 174 25 [some (.ref 4), some (.int p), some (.int a), some (.int k)] [.int q, .int p, .ref 4] h = zex E (n + 1) (d + 1) 174 28 [some (.ref 4), some (.int p), some (.int a), some (.int k)] [.int w] h).trans (((yRet1 zgw174_28 rfl) : zex E (n + 1) (d + 1) 174 28 [some (.ref 4), some (.int p), some (.int a), some (.int k)] [.int w] h = some (.inl (some (.int w)), h))))))))))))))))))
set_option maxRecDepth 100000 in
theorem nv_0 {E : zE} {n d : Nat} {h : zH} {m g : Int32}    : zex E (n + 4) d 126 0 [some (.ref 3), some (.ref 18), some (.int m), some (.int g), none, none] [] h = zex E n d 126 6 [some (.ref 3), some (.ref 18), some (.int m), some (.int g), some (.int 0), some (.int 0)] [] h :=
  ((yCi zgw126_0) : zex E (n + 4) d 126 0 [some (.ref 3), some (.ref 18), some (.int m), some (.int g), none, none] [] h = zex E (n + 3) d 126 1 [some (.ref 3), some (.ref 18), some (.int m), some (.int g), none, none] [.int 0] h).trans (((yS zgw126_1) : zex E (n + 3) d 126 1 [some (.ref 3), some (.ref 18), some (.int m), some (.int g), none, none] [.int 0] h = zex E (n + 2) d 126 3 [some (.ref 3), some (.ref 18), some (.int m), some (.int g), some (.int 0), none] [] h).trans (((yCi zgw126_3) : zex E (n + 2) d 126 3 [some (.ref 3), some (.ref 18), some (.int m), some (.int g), some (.int 0), none] [] h = zex E (n + 1) d 126 4 [some (.ref 3), some (.ref 18), some (.int m), some (.int g), some (.int 0), none] [.int 0] h).trans (((yS zgw126_4) : zex E (n + 1) d 126 4 [some (.ref 3), some (.ref 18), some (.int m), some (.int g), some (.int 0), none] [.int 0] h = zex E n d 126 6 [some (.ref 3), some (.ref 18), some (.int m), some (.int g), some (.int 0), some (.int 0)] [] h))))
set_option maxRecDepth 100000 in
theorem nv_y {E : zE} {n d : Nat} {h : zH} {m g b p q a r s : Int32} {P : Nat} (hi : p.toInt < s.toInt) (hs : h.2.1 4 2 = s) (hp : p.toInt = (P : Int)) (hp8 : P < 8) (ha : h.2.1 20 P = a) (hr : h.2.1 18 10 = r) (he : q.toInt = m.toInt) (a3 : zat h.1 3 = some (.inr (.inl (2, [some (some 4), some (some 10), some (some 17)])))) (a4 : zat h.1 4 = some (.inr (.inl (8, [none, none, none, none, some (some 5), some (some 6), some (some 7), some (some 8), some (some 9)])))) (a18 : zat h.1 18 = some (.inr (.inl (0, [some (some 19), some (some 20), some (some 21), some (some 22), some (some 23), some (some 24), none, none, none, none, none, none, none])))) (a20 : zat h.1 20 = some (.inl (0, 8, []))) (e1 : zex E (n + 10) d 174 0 [some (.ref 4), some (.int p), some (.int a), some (.int (g - r))] [] h = some (.inl (some (.int q)), h)) : zex E (n + 27) (d + 1) 126 6 [some (.ref 3), some (.ref 18), some (.int m), some (.int g), some (.int b), some (.int p)] [] h = zex E n (d + 1) 126 6 [some (.ref 3), some (.ref 18), some (.int m), some (.int g), some (.int (b ||| ((1 : Int32) <<< (p &&& 31)))), some (.int (p + 1))] [] h :=
  ((yI zgw126_6 rfl) : zex E (n + 27) (d + 1) 126 6 [some (.ref 3), some (.ref 18), some (.int m), some (.int g), some (.int b), some (.int p)] [] h = zex E (n + 26) (d + 1) 126 8 [some (.ref 3), some (.ref 18), some (.int m), some (.int g), some (.int b), some (.int p)] [.int p] h).trans (((yAn zgw126_8 rfl rfl) : zex E (n + 26) (d + 1) 126 8 [some (.ref 3), some (.ref 18), some (.int m), some (.int g), some (.int b), some (.int p)] [.int p] h = zex E (n + 25) (d + 1) 126 9 [some (.ref 3), some (.ref 18), some (.int m), some (.int g), some (.int b), some (.int p)] [.ref 3, .int p] h).trans (((zgx zgw126_9 a3 rfl) : zex E (n + 25) (d + 1) 126 9 [some (.ref 3), some (.ref 18), some (.int m), some (.int g), some (.int b), some (.int p)] [.ref 3, .int p] h = zex E (n + 24) (d + 1) 126 12 [some (.ref 3), some (.ref 18), some (.int m), some (.int g), some (.int b), some (.int p)] [.ref 4, .int p] h).trans (((zgk zgw126_12 a4 rfl hs) : zex E (n + 24) (d + 1) 126 12 [some (.ref 3), some (.ref 18), some (.int m), some (.int g), some (.int b), some (.int p)] [.ref 4, .int p] h = zex E (n + 23) (d + 1) 126 15 [some (.ref 3), some (.ref 18), some (.int m), some (.int g), some (.int b), some (.int p)] [.int s, .int p] h).trans (((zkgF zgw126_15 hi) : zex E (n + 23) (d + 1) 126 15 [some (.ref 3), some (.ref 18), some (.int m), some (.int g), some (.int b), some (.int p)] [.int s, .int p] h = zex E (n + 22) (d + 1) 126 18 [some (.ref 3), some (.ref 18), some (.int m), some (.int g), some (.int b), some (.int p)] [] h).trans (((yAn zgw126_18 rfl rfl) : zex E (n + 22) (d + 1) 126 18 [some (.ref 3), some (.ref 18), some (.int m), some (.int g), some (.int b), some (.int p)] [] h = zex E (n + 21) (d + 1) 126 19 [some (.ref 3), some (.ref 18), some (.int m), some (.int g), some (.int b), some (.int p)] [.ref 3] h).trans (((zgx zgw126_19 a3 rfl) : zex E (n + 21) (d + 1) 126 19 [some (.ref 3), some (.ref 18), some (.int m), some (.int g), some (.int b), some (.int p)] [.ref 3] h = zex E (n + 20) (d + 1) 126 22 [some (.ref 3), some (.ref 18), some (.int m), some (.int g), some (.int b), some (.int p)] [.ref 4] h).trans (((yI zgw126_22 rfl) : zex E (n + 20) (d + 1) 126 22 [some (.ref 3), some (.ref 18), some (.int m), some (.int g), some (.int b), some (.int p)] [.ref 4] h = zex E (n + 19) (d + 1) 126 24 [some (.ref 3), some (.ref 18), some (.int m), some (.int g), some (.int b), some (.int p)] [.int p, .ref 4] h).trans (((yAn zgw126_24 rfl rfl) : zex E (n + 19) (d + 1) 126 24 [some (.ref 3), some (.ref 18), some (.int m), some (.int g), some (.int b), some (.int p)] [.int p, .ref 4] h = zex E (n + 18) (d + 1) 126 25 [some (.ref 3), some (.ref 18), some (.int m), some (.int g), some (.int b), some (.int p)] [.ref 18, .int p, .ref 4] h).trans (((zgx zgw126_25 a18 rfl) : zex E (n + 18) (d + 1) 126 25 [some (.ref 3), some (.ref 18), some (.int m), some (.int g), some (.int b), some (.int p)] [.ref 18, .int p, .ref 4] h = zex E (n + 17) (d + 1) 126 28 [some (.ref 3), some (.ref 18), some (.int m), some (.int g), some (.int b), some (.int p)] [.ref 20, .int p, .ref 4] h).trans (((yI zgw126_28 rfl) : zex E (n + 17) (d + 1) 126 28 [some (.ref 3), some (.ref 18), some (.int m), some (.int g), some (.int b), some (.int p)] [.ref 20, .int p, .ref 4] h = zex E (n + 16) (d + 1) 126 30 [some (.ref 3), some (.ref 18), some (.int m), some (.int g), some (.int b), some (.int p)] [.int p, .ref 20, .int p, .ref 4] h).trans (((zlk zgw126_30 a20 hp hp8 ha) : zex E (n + 16) (d + 1) 126 30 [some (.ref 3), some (.ref 18), some (.int m), some (.int g), some (.int b), some (.int p)] [.int p, .ref 20, .int p, .ref 4] h = zex E (n + 15) (d + 1) 126 31 [some (.ref 3), some (.ref 18), some (.int m), some (.int g), some (.int b), some (.int p)] [.int a, .int p, .ref 4] h).trans (((yIn zgw126_31 rfl) : zex E (n + 15) (d + 1) 126 31 [some (.ref 3), some (.ref 18), some (.int m), some (.int g), some (.int b), some (.int p)] [.int a, .int p, .ref 4] h = zex E (n + 14) (d + 1) 126 32 [some (.ref 3), some (.ref 18), some (.int m), some (.int g), some (.int b), some (.int p)] [.int g, .int a, .int p, .ref 4] h).trans (((yAn zgw126_32 rfl rfl) : zex E (n + 14) (d + 1) 126 32 [some (.ref 3), some (.ref 18), some (.int m), some (.int g), some (.int b), some (.int p)] [.int g, .int a, .int p, .ref 4] h = zex E (n + 13) (d + 1) 126 33 [some (.ref 3), some (.ref 18), some (.int m), some (.int g), some (.int b), some (.int p)] [.ref 18, .int g, .int a, .int p, .ref 4] h).trans (((zgk zgw126_33 a18 rfl hr) : zex E (n + 13) (d + 1) 126 33 [some (.ref 3), some (.ref 18), some (.int m), some (.int g), some (.int b), some (.int p)] [.ref 18, .int g, .int a, .int p, .ref 4] h = zex E (n + 12) (d + 1) 126 36 [some (.ref 3), some (.ref 18), some (.int m), some (.int g), some (.int b), some (.int p)] [.int r, .int g, .int a, .int p, .ref 4] h).trans (((ySub zgw126_36) : zex E (n + 12) (d + 1) 126 36 [some (.ref 3), some (.ref 18), some (.int m), some (.int g), some (.int b), some (.int p)] [.int r, .int g, .int a, .int p, .ref 4] h = zex E (n + 11) (d + 1) 126 37 [some (.ref 3), some (.ref 18), some (.int m), some (.int g), some (.int b), some (.int p)] [.int (g - r), .int a, .int p, .ref 4] h).trans (((zcvg (h := h) (as := [.int p, .int a, .int (g - r)]) (r := []) zgw126_37 znwq174 rfl a4 rfl e1) : zex E (n + 11) (d + 1) 126 37 [some (.ref 3), some (.ref 18), some (.int m), some (.int g), some (.int b), some (.int p)] [.int (g - r), .int a, .int p, .ref 4] h = zex E (n + 10) (d + 1) 126 40 [some (.ref 3), some (.ref 18), some (.int m), some (.int g), some (.int b), some (.int p)] [.int q] h).trans (((yIn zgw126_40 rfl) : zex E (n + 10) (d + 1) 126 40 [some (.ref 3), some (.ref 18), some (.int m), some (.int g), some (.int b), some (.int p)] [.int q] h = zex E (n + 9) (d + 1) 126 41 [some (.ref 3), some (.ref 18), some (.int m), some (.int g), some (.int b), some (.int p)] [.int m, .int q] h).trans (((zknF zgw126_41 he) : zex E (n + 9) (d + 1) 126 41 [some (.ref 3), some (.ref 18), some (.int m), some (.int g), some (.int b), some (.int p)] [.int m, .int q] h = zex E (n + 8) (d + 1) 126 44 [some (.ref 3), some (.ref 18), some (.int m), some (.int g), some (.int b), some (.int p)] [] h).trans (((yI zgw126_44 rfl) : zex E (n + 8) (d + 1) 126 44 [some (.ref 3), some (.ref 18), some (.int m), some (.int g), some (.int b), some (.int p)] [] h = zex E (n + 7) (d + 1) 126 46 [some (.ref 3), some (.ref 18), some (.int m), some (.int g), some (.int b), some (.int p)] [.int b] h).trans (((yCi zgw126_46) : zex E (n + 7) (d + 1) 126 46 [some (.ref 3), some (.ref 18), some (.int m), some (.int g), some (.int b), some (.int p)] [.int b] h = zex E (n + 6) (d + 1) 126 47 [some (.ref 3), some (.ref 18), some (.int m), some (.int g), some (.int b), some (.int p)] [.int 1, .int b] h).trans (((yI zgw126_47 rfl) : zex E (n + 6) (d + 1) 126 47 [some (.ref 3), some (.ref 18), some (.int m), some (.int g), some (.int b), some (.int p)] [.int 1, .int b] h = zex E (n + 5) (d + 1) 126 49 [some (.ref 3), some (.ref 18), some (.int m), some (.int g), some (.int b), some (.int p)] [.int p, .int 1, .int b] h).trans (((yShl zgw126_49) : zex E (n + 5) (d + 1) 126 49 [some (.ref 3), some (.ref 18), some (.int m), some (.int g), some (.int b), some (.int p)] [.int p, .int 1, .int b] h = zex E (n + 4) (d + 1) 126 50 [some (.ref 3), some (.ref 18), some (.int m), some (.int g), some (.int b), some (.int p)] [.int ((1 : Int32) <<< (p &&& 31)), .int b] h).trans (((yOr zgw126_50) : zex E (n + 4) (d + 1) 126 50 [some (.ref 3), some (.ref 18), some (.int m), some (.int g), some (.int b), some (.int p)] [.int ((1 : Int32) <<< (p &&& 31)), .int b] h = zex E (n + 3) (d + 1) 126 51 [some (.ref 3), some (.ref 18), some (.int m), some (.int g), some (.int b), some (.int p)] [.int (b ||| ((1 : Int32) <<< (p &&& 31)))] h).trans (((yS zgw126_51) : zex E (n + 3) (d + 1) 126 51 [some (.ref 3), some (.ref 18), some (.int m), some (.int g), some (.int b), some (.int p)] [.int (b ||| ((1 : Int32) <<< (p &&& 31)))] h = zex E (n + 2) (d + 1) 126 53 [some (.ref 3), some (.ref 18), some (.int m), some (.int g), some (.int (b ||| ((1 : Int32) <<< (p &&& 31)))), some (.int p)] [] h).trans (((yInc zgw126_53 rfl) : zex E (n + 2) (d + 1) 126 53 [some (.ref 3), some (.ref 18), some (.int m), some (.int g), some (.int (b ||| ((1 : Int32) <<< (p &&& 31)))), some (.int p)] [] h = zex E (n + 1) (d + 1) 126 56 [some (.ref 3), some (.ref 18), some (.int m), some (.int g), some (.int (b ||| ((1 : Int32) <<< (p &&& 31)))), some (.int (p + 1))] [] h).trans (((yGo zgw126_56) : zex E (n + 1) (d + 1) 126 56 [some (.ref 3), some (.ref 18), some (.int m), some (.int g), some (.int (b ||| ((1 : Int32) <<< (p &&& 31)))), some (.int (p + 1))] [] h = zex E n (d + 1) 126 6 [some (.ref 3), some (.ref 18), some (.int m), some (.int g), some (.int (b ||| ((1 : Int32) <<< (p &&& 31)))), some (.int (p + 1))] [] h)))))))))))))))))))))))))))
set_option maxRecDepth 100000 in
theorem nv_n {E : zE} {n d : Nat} {h : zH} {m g b p q a r s : Int32} {P : Nat} (hi : p.toInt < s.toInt) (hs : h.2.1 4 2 = s) (hp : p.toInt = (P : Int)) (hp8 : P < 8) (ha : h.2.1 20 P = a) (hr : h.2.1 18 10 = r) (he : q.toInt ≠ m.toInt) (a3 : zat h.1 3 = some (.inr (.inl (2, [some (some 4), some (some 10), some (some 17)])))) (a4 : zat h.1 4 = some (.inr (.inl (8, [none, none, none, none, some (some 5), some (some 6), some (some 7), some (some 8), some (some 9)])))) (a18 : zat h.1 18 = some (.inr (.inl (0, [some (some 19), some (some 20), some (some 21), some (some 22), some (some 23), some (some 24), none, none, none, none, none, none, none])))) (a20 : zat h.1 20 = some (.inl (0, 8, []))) (e1 : zex E (n + 4) d 174 0 [some (.ref 4), some (.int p), some (.int a), some (.int (g - r))] [] h = some (.inl (some (.int q)), h)) : zex E (n + 21) (d + 1) 126 6 [some (.ref 3), some (.ref 18), some (.int m), some (.int g), some (.int b), some (.int p)] [] h = zex E n (d + 1) 126 6 [some (.ref 3), some (.ref 18), some (.int m), some (.int g), some (.int b), some (.int (p + 1))] [] h :=
  ((yI zgw126_6 rfl) : zex E (n + 21) (d + 1) 126 6 [some (.ref 3), some (.ref 18), some (.int m), some (.int g), some (.int b), some (.int p)] [] h = zex E (n + 20) (d + 1) 126 8 [some (.ref 3), some (.ref 18), some (.int m), some (.int g), some (.int b), some (.int p)] [.int p] h).trans (((yAn zgw126_8 rfl rfl) : zex E (n + 20) (d + 1) 126 8 [some (.ref 3), some (.ref 18), some (.int m), some (.int g), some (.int b), some (.int p)] [.int p] h = zex E (n + 19) (d + 1) 126 9 [some (.ref 3), some (.ref 18), some (.int m), some (.int g), some (.int b), some (.int p)] [.ref 3, .int p] h).trans (((zgx zgw126_9 a3 rfl) : zex E (n + 19) (d + 1) 126 9 [some (.ref 3), some (.ref 18), some (.int m), some (.int g), some (.int b), some (.int p)] [.ref 3, .int p] h = zex E (n + 18) (d + 1) 126 12 [some (.ref 3), some (.ref 18), some (.int m), some (.int g), some (.int b), some (.int p)] [.ref 4, .int p] h).trans (((zgk zgw126_12 a4 rfl hs) : zex E (n + 18) (d + 1) 126 12 [some (.ref 3), some (.ref 18), some (.int m), some (.int g), some (.int b), some (.int p)] [.ref 4, .int p] h = zex E (n + 17) (d + 1) 126 15 [some (.ref 3), some (.ref 18), some (.int m), some (.int g), some (.int b), some (.int p)] [.int s, .int p] h).trans (((zkgF zgw126_15 hi) : zex E (n + 17) (d + 1) 126 15 [some (.ref 3), some (.ref 18), some (.int m), some (.int g), some (.int b), some (.int p)] [.int s, .int p] h = zex E (n + 16) (d + 1) 126 18 [some (.ref 3), some (.ref 18), some (.int m), some (.int g), some (.int b), some (.int p)] [] h).trans (((yAn zgw126_18 rfl rfl) : zex E (n + 16) (d + 1) 126 18 [some (.ref 3), some (.ref 18), some (.int m), some (.int g), some (.int b), some (.int p)] [] h = zex E (n + 15) (d + 1) 126 19 [some (.ref 3), some (.ref 18), some (.int m), some (.int g), some (.int b), some (.int p)] [.ref 3] h).trans (((zgx zgw126_19 a3 rfl) : zex E (n + 15) (d + 1) 126 19 [some (.ref 3), some (.ref 18), some (.int m), some (.int g), some (.int b), some (.int p)] [.ref 3] h = zex E (n + 14) (d + 1) 126 22 [some (.ref 3), some (.ref 18), some (.int m), some (.int g), some (.int b), some (.int p)] [.ref 4] h).trans (((yI zgw126_22 rfl) : zex E (n + 14) (d + 1) 126 22 [some (.ref 3), some (.ref 18), some (.int m), some (.int g), some (.int b), some (.int p)] [.ref 4] h = zex E (n + 13) (d + 1) 126 24 [some (.ref 3), some (.ref 18), some (.int m), some (.int g), some (.int b), some (.int p)] [.int p, .ref 4] h).trans (((yAn zgw126_24 rfl rfl) : zex E (n + 13) (d + 1) 126 24 [some (.ref 3), some (.ref 18), some (.int m), some (.int g), some (.int b), some (.int p)] [.int p, .ref 4] h = zex E (n + 12) (d + 1) 126 25 [some (.ref 3), some (.ref 18), some (.int m), some (.int g), some (.int b), some (.int p)] [.ref 18, .int p, .ref 4] h).trans (((zgx zgw126_25 a18 rfl) : zex E (n + 12) (d + 1) 126 25 [some (.ref 3), some (.ref 18), some (.int m), some (.int g), some (.int b), some (.int p)] [.ref 18, .int p, .ref 4] h = zex E (n + 11) (d + 1) 126 28 [some (.ref 3), some (.ref 18), some (.int m), some (.int g), some (.int b), some (.int p)] [.ref 20, .int p, .ref 4] h).trans (((yI zgw126_28 rfl) : zex E (n + 11) (d + 1) 126 28 [some (.ref 3), some (.ref 18), some (.int m), some (.int g), some (.int b), some (.int p)] [.ref 20, .int p, .ref 4] h = zex E (n + 10) (d + 1) 126 30 [some (.ref 3), some (.ref 18), some (.int m), some (.int g), some (.int b), some (.int p)] [.int p, .ref 20, .int p, .ref 4] h).trans (((zlk zgw126_30 a20 hp hp8 ha) : zex E (n + 10) (d + 1) 126 30 [some (.ref 3), some (.ref 18), some (.int m), some (.int g), some (.int b), some (.int p)] [.int p, .ref 20, .int p, .ref 4] h = zex E (n + 9) (d + 1) 126 31 [some (.ref 3), some (.ref 18), some (.int m), some (.int g), some (.int b), some (.int p)] [.int a, .int p, .ref 4] h).trans (((yIn zgw126_31 rfl) : zex E (n + 9) (d + 1) 126 31 [some (.ref 3), some (.ref 18), some (.int m), some (.int g), some (.int b), some (.int p)] [.int a, .int p, .ref 4] h = zex E (n + 8) (d + 1) 126 32 [some (.ref 3), some (.ref 18), some (.int m), some (.int g), some (.int b), some (.int p)] [.int g, .int a, .int p, .ref 4] h).trans (((yAn zgw126_32 rfl rfl) : zex E (n + 8) (d + 1) 126 32 [some (.ref 3), some (.ref 18), some (.int m), some (.int g), some (.int b), some (.int p)] [.int g, .int a, .int p, .ref 4] h = zex E (n + 7) (d + 1) 126 33 [some (.ref 3), some (.ref 18), some (.int m), some (.int g), some (.int b), some (.int p)] [.ref 18, .int g, .int a, .int p, .ref 4] h).trans (((zgk zgw126_33 a18 rfl hr) : zex E (n + 7) (d + 1) 126 33 [some (.ref 3), some (.ref 18), some (.int m), some (.int g), some (.int b), some (.int p)] [.ref 18, .int g, .int a, .int p, .ref 4] h = zex E (n + 6) (d + 1) 126 36 [some (.ref 3), some (.ref 18), some (.int m), some (.int g), some (.int b), some (.int p)] [.int r, .int g, .int a, .int p, .ref 4] h).trans (((ySub zgw126_36) : zex E (n + 6) (d + 1) 126 36 [some (.ref 3), some (.ref 18), some (.int m), some (.int g), some (.int b), some (.int p)] [.int r, .int g, .int a, .int p, .ref 4] h = zex E (n + 5) (d + 1) 126 37 [some (.ref 3), some (.ref 18), some (.int m), some (.int g), some (.int b), some (.int p)] [.int (g - r), .int a, .int p, .ref 4] h).trans (((zcvg (h := h) (as := [.int p, .int a, .int (g - r)]) (r := []) zgw126_37 znwq174 rfl a4 rfl e1) : zex E (n + 5) (d + 1) 126 37 [some (.ref 3), some (.ref 18), some (.int m), some (.int g), some (.int b), some (.int p)] [.int (g - r), .int a, .int p, .ref 4] h = zex E (n + 4) (d + 1) 126 40 [some (.ref 3), some (.ref 18), some (.int m), some (.int g), some (.int b), some (.int p)] [.int q] h).trans (((yIn zgw126_40 rfl) : zex E (n + 4) (d + 1) 126 40 [some (.ref 3), some (.ref 18), some (.int m), some (.int g), some (.int b), some (.int p)] [.int q] h = zex E (n + 3) (d + 1) 126 41 [some (.ref 3), some (.ref 18), some (.int m), some (.int g), some (.int b), some (.int p)] [.int m, .int q] h).trans (((zknT zgw126_41 he) : zex E (n + 3) (d + 1) 126 41 [some (.ref 3), some (.ref 18), some (.int m), some (.int g), some (.int b), some (.int p)] [.int m, .int q] h = zex E (n + 2) (d + 1) 126 53 [some (.ref 3), some (.ref 18), some (.int m), some (.int g), some (.int b), some (.int p)] [] h).trans (((yInc zgw126_53 rfl) : zex E (n + 2) (d + 1) 126 53 [some (.ref 3), some (.ref 18), some (.int m), some (.int g), some (.int b), some (.int p)] [] h = zex E (n + 1) (d + 1) 126 56 [some (.ref 3), some (.ref 18), some (.int m), some (.int g), some (.int b), some (.int (p + 1))] [] h).trans (((yGo zgw126_56) : zex E (n + 1) (d + 1) 126 56 [some (.ref 3), some (.ref 18), some (.int m), some (.int g), some (.int b), some (.int (p + 1))] [] h = zex E n (d + 1) 126 6 [some (.ref 3), some (.ref 18), some (.int m), some (.int g), some (.int b), some (.int (p + 1))] [] h)))))))))))))))))))))
set_option maxRecDepth 100000 in
theorem nv_e {E : zE} {n d : Nat} {h : zH} {m g b p s : Int32} (hi : s.toInt ≤ p.toInt) (hs : h.2.1 4 2 = s) (a3 : zat h.1 3 = some (.inr (.inl (2, [some (some 4), some (some 10), some (some 17)])))) (a4 : zat h.1 4 = some (.inr (.inl (8, [none, none, none, none, some (some 5), some (some 6), some (some 7), some (some 8), some (some 9)]))))  : zex E (n + 7) d 126 6 [some (.ref 3), some (.ref 18), some (.int m), some (.int g), some (.int b), some (.int p)] [] h = some (.inl (some (.int b)), h) :=
  ((yI zgw126_6 rfl) : zex E (n + 7) d 126 6 [some (.ref 3), some (.ref 18), some (.int m), some (.int g), some (.int b), some (.int p)] [] h = zex E (n + 6) d 126 8 [some (.ref 3), some (.ref 18), some (.int m), some (.int g), some (.int b), some (.int p)] [.int p] h).trans (((yAn zgw126_8 rfl rfl) : zex E (n + 6) d 126 8 [some (.ref 3), some (.ref 18), some (.int m), some (.int g), some (.int b), some (.int p)] [.int p] h = zex E (n + 5) d 126 9 [some (.ref 3), some (.ref 18), some (.int m), some (.int g), some (.int b), some (.int p)] [.ref 3, .int p] h).trans (((zgx zgw126_9 a3 rfl) : zex E (n + 5) d 126 9 [some (.ref 3), some (.ref 18), some (.int m), some (.int g), some (.int b), some (.int p)] [.ref 3, .int p] h = zex E (n + 4) d 126 12 [some (.ref 3), some (.ref 18), some (.int m), some (.int g), some (.int b), some (.int p)] [.ref 4, .int p] h).trans (((zgk zgw126_12 a4 rfl hs) : zex E (n + 4) d 126 12 [some (.ref 3), some (.ref 18), some (.int m), some (.int g), some (.int b), some (.int p)] [.ref 4, .int p] h = zex E (n + 3) d 126 15 [some (.ref 3), some (.ref 18), some (.int m), some (.int g), some (.int b), some (.int p)] [.int s, .int p] h).trans (((zkgT zgw126_15 hi) : zex E (n + 3) d 126 15 [some (.ref 3), some (.ref 18), some (.int m), some (.int g), some (.int b), some (.int p)] [.int s, .int p] h = zex E (n + 2) d 126 59 [some (.ref 3), some (.ref 18), some (.int m), some (.int g), some (.int b), some (.int p)] [] h).trans (((yI zgw126_59 rfl) : zex E (n + 2) d 126 59 [some (.ref 3), some (.ref 18), some (.int m), some (.int g), some (.int b), some (.int p)] [] h = zex E (n + 1) d 126 61 [some (.ref 3), some (.ref 18), some (.int m), some (.int g), some (.int b), some (.int p)] [.int b] h).trans (((yRet1 zgw126_61 rfl) : zex E (n + 1) d 126 61 [some (.ref 3), some (.ref 18), some (.int m), some (.int g), some (.int b), some (.int p)] [.int b] h = some (.inl (some (.int b)), h))))))))
set_option maxRecDepth 100000 in
theorem nr_r {E : zE} {n d : Nat} {h : zH} {i t : Int32} {J : Nat} (hi : i.toInt = (J : Int)) (hi4 : J < 400) (ht : h.2.1 2 J = t) (a1 : zat h.1 1 = some (.inr (.inl (9, [some (some 2), none, none, none, none, none])))) (a2 : zat h.1 2 = some (.inl (0, 400, [])))  : zex E (n + 7) d 187 0 [some (.ref 1), some (.int i)] [] h = some (.inl (some (.int (t - 97))), h) :=
  ((yAn zgw187_0 rfl rfl) : zex E (n + 7) d 187 0 [some (.ref 1), some (.int i)] [] h = zex E (n + 6) d 187 1 [some (.ref 1), some (.int i)] [.ref 1] h).trans (((zgx zgw187_1 a1 rfl) : zex E (n + 6) d 187 1 [some (.ref 1), some (.int i)] [.ref 1] h = zex E (n + 5) d 187 4 [some (.ref 1), some (.int i)] [.ref 2] h).trans (((yIn zgw187_4 rfl) : zex E (n + 5) d 187 4 [some (.ref 1), some (.int i)] [.ref 2] h = zex E (n + 4) d 187 5 [some (.ref 1), some (.int i)] [.int i, .ref 2] h).trans (((zlk zgw187_5 a2 hi hi4 ht) : zex E (n + 4) d 187 5 [some (.ref 1), some (.int i)] [.int i, .ref 2] h = zex E (n + 3) d 187 6 [some (.ref 1), some (.int i)] [.int t] h).trans (((yCb zgw187_6) : zex E (n + 3) d 187 6 [some (.ref 1), some (.int i)] [.int t] h = zex E (n + 2) d 187 8 [some (.ref 1), some (.int i)] [.int 97, .int t] h).trans (((ySub zgw187_8) : zex E (n + 2) d 187 8 [some (.ref 1), some (.int i)] [.int 97, .int t] h = zex E (n + 1) d 187 9 [some (.ref 1), some (.int i)] [.int (t - 97)] h).trans (((yRet1 zgw187_9 rfl) : zex E (n + 1) d 187 9 [some (.ref 1), some (.int i)] [.int (t - 97)] h = some (.inl (some (.int (t - 97))), h))))))))
set_option maxRecDepth 100000 in
theorem nr_n {E : zE} {n d : Nat} {h : zH} {i t u : Int32} {J M : Nat} (h1 : (i + 1).toInt = (J : Int)) (h14 : J < 400) (ht : h.2.1 2 J = t) (h2 : (i + 2).toInt = (M : Int)) (h24 : M < 400) (hu : h.2.1 2 M = u) (a1 : zat h.1 1 = some (.inr (.inl (9, [some (some 2), none, none, none, none, none])))) (a2 : zat h.1 2 = some (.inl (0, 400, [])))  : zex E (n + 16) d 188 0 [some (.ref 1), some (.int i)] [] h = some (.inl (some (.int ((t <<< (8 &&& 31)) ||| u))), h) :=
  ((yAn zgw188_0 rfl rfl) : zex E (n + 16) d 188 0 [some (.ref 1), some (.int i)] [] h = zex E (n + 15) d 188 1 [some (.ref 1), some (.int i)] [.ref 1] h).trans (((zgx zgw188_1 a1 rfl) : zex E (n + 15) d 188 1 [some (.ref 1), some (.int i)] [.ref 1] h = zex E (n + 14) d 188 4 [some (.ref 1), some (.int i)] [.ref 2] h).trans (((yIn zgw188_4 rfl) : zex E (n + 14) d 188 4 [some (.ref 1), some (.int i)] [.ref 2] h = zex E (n + 13) d 188 5 [some (.ref 1), some (.int i)] [.int i, .ref 2] h).trans (((yCi zgw188_5) : zex E (n + 13) d 188 5 [some (.ref 1), some (.int i)] [.int i, .ref 2] h = zex E (n + 12) d 188 6 [some (.ref 1), some (.int i)] [.int 1, .int i, .ref 2] h).trans (((yAdd zgw188_6) : zex E (n + 12) d 188 6 [some (.ref 1), some (.int i)] [.int 1, .int i, .ref 2] h = zex E (n + 11) d 188 7 [some (.ref 1), some (.int i)] [.int (i + 1), .ref 2] h).trans (((zlk zgw188_7 a2 h1 h14 ht) : zex E (n + 11) d 188 7 [some (.ref 1), some (.int i)] [.int (i + 1), .ref 2] h = zex E (n + 10) d 188 8 [some (.ref 1), some (.int i)] [.int t] h).trans (((yCb zgw188_8) : zex E (n + 10) d 188 8 [some (.ref 1), some (.int i)] [.int t] h = zex E (n + 9) d 188 10 [some (.ref 1), some (.int i)] [.int 8, .int t] h).trans (((yShl zgw188_10) : zex E (n + 9) d 188 10 [some (.ref 1), some (.int i)] [.int 8, .int t] h = zex E (n + 8) d 188 11 [some (.ref 1), some (.int i)] [.int (t <<< (8 &&& 31))] h).trans (((yAn zgw188_11 rfl rfl) : zex E (n + 8) d 188 11 [some (.ref 1), some (.int i)] [.int (t <<< (8 &&& 31))] h = zex E (n + 7) d 188 12 [some (.ref 1), some (.int i)] [.ref 1, .int (t <<< (8 &&& 31))] h).trans (((zgx zgw188_12 a1 rfl) : zex E (n + 7) d 188 12 [some (.ref 1), some (.int i)] [.ref 1, .int (t <<< (8 &&& 31))] h = zex E (n + 6) d 188 15 [some (.ref 1), some (.int i)] [.ref 2, .int (t <<< (8 &&& 31))] h).trans (((yIn zgw188_15 rfl) : zex E (n + 6) d 188 15 [some (.ref 1), some (.int i)] [.ref 2, .int (t <<< (8 &&& 31))] h = zex E (n + 5) d 188 16 [some (.ref 1), some (.int i)] [.int i, .ref 2, .int (t <<< (8 &&& 31))] h).trans (((yCi zgw188_16) : zex E (n + 5) d 188 16 [some (.ref 1), some (.int i)] [.int i, .ref 2, .int (t <<< (8 &&& 31))] h = zex E (n + 4) d 188 17 [some (.ref 1), some (.int i)] [.int 2, .int i, .ref 2, .int (t <<< (8 &&& 31))] h).trans (((yAdd zgw188_17) : zex E (n + 4) d 188 17 [some (.ref 1), some (.int i)] [.int 2, .int i, .ref 2, .int (t <<< (8 &&& 31))] h = zex E (n + 3) d 188 18 [some (.ref 1), some (.int i)] [.int (i + 2), .ref 2, .int (t <<< (8 &&& 31))] h).trans (((zlk zgw188_18 a2 h2 h24 hu) : zex E (n + 3) d 188 18 [some (.ref 1), some (.int i)] [.int (i + 2), .ref 2, .int (t <<< (8 &&& 31))] h = zex E (n + 2) d 188 19 [some (.ref 1), some (.int i)] [.int u, .int (t <<< (8 &&& 31))] h).trans (((yOr zgw188_19) : zex E (n + 2) d 188 19 [some (.ref 1), some (.int i)] [.int u, .int (t <<< (8 &&& 31))] h = zex E (n + 1) d 188 20 [some (.ref 1), some (.int i)] [.int ((t <<< (8 &&& 31)) ||| u)] h).trans (((yRet1 zgw188_20 rfl) : zex E (n + 1) d 188 20 [some (.ref 1), some (.int i)] [.int ((t <<< (8 &&& 31)) ||| u)] h = some (.inl (some (.int ((t <<< (8 &&& 31)) ||| u))), h)))))))))))))))))
set_option maxRecDepth 100000 in
theorem nr_e {E : zE} {n d : Nat} {h : zH} {s : Int32} (hs : h.2.1 4 2 = s) (a4 : zat h.1 4 = some (.inr (.inl (8, [none, none, none, none, some (some 5), some (some 6), some (some 7), some (some 8), some (some 9)]))))  : zex E (n + 7) d 172 0 [some (.ref 4)] [] h = some (.inl (some (.int (((1 : Int32) <<< (s &&& 31)) - 1))), h) :=
  ((yCi zgw172_0) : zex E (n + 7) d 172 0 [some (.ref 4)] [] h = zex E (n + 6) d 172 1 [some (.ref 4)] [.int 1] h).trans (((yAn zgw172_1 rfl rfl) : zex E (n + 6) d 172 1 [some (.ref 4)] [.int 1] h = zex E (n + 5) d 172 2 [some (.ref 4)] [.ref 4, .int 1] h).trans (((zgk zgw172_2 a4 rfl hs) : zex E (n + 5) d 172 2 [some (.ref 4)] [.ref 4, .int 1] h = zex E (n + 4) d 172 5 [some (.ref 4)] [.int s, .int 1] h).trans (((yShl zgw172_5) : zex E (n + 4) d 172 5 [some (.ref 4)] [.int s, .int 1] h = zex E (n + 3) d 172 6 [some (.ref 4)] [.int ((1 : Int32) <<< (s &&& 31))] h).trans (((yCi zgw172_6) : zex E (n + 3) d 172 6 [some (.ref 4)] [.int ((1 : Int32) <<< (s &&& 31))] h = zex E (n + 2) d 172 7 [some (.ref 4)] [.int 1, .int ((1 : Int32) <<< (s &&& 31))] h).trans (((ySub zgw172_7) : zex E (n + 2) d 172 7 [some (.ref 4)] [.int 1, .int ((1 : Int32) <<< (s &&& 31))] h = zex E (n + 1) d 172 8 [some (.ref 4)] [.int (((1 : Int32) <<< (s &&& 31)) - 1)] h).trans (((yRet1 zgw172_8 rfl) : zex E (n + 1) d 172 8 [some (.ref 4)] [.int (((1 : Int32) <<< (s &&& 31)) - 1)] h = some (.inl (some (.int (((1 : Int32) <<< (s &&& 31)) - 1))), h))))))))
set_option maxRecDepth 100000 in
theorem nt_a {E : zE} {n d : Nat} {h : zH} {l q : Int32} (hz : (l - l / 3 * 3).toInt ≠ 0)   : zex E (n + 6) d 186 0 [some (.ref 1), some (.int l), some (.int q), none, none] [] h = some (.inl (some (.int 0)), h) :=
  ((yIn zgw186_0 rfl) : zex E (n + 6) d 186 0 [some (.ref 1), some (.int l), some (.int q), none, none] [] h = zex E (n + 5) d 186 1 [some (.ref 1), some (.int l), some (.int q), none, none] [.int l] h).trans (((yCi zgw186_1) : zex E (n + 5) d 186 1 [some (.ref 1), some (.int l), some (.int q), none, none] [.int l] h = zex E (n + 4) d 186 2 [some (.ref 1), some (.int l), some (.int q), none, none] [.int 3, .int l] h).trans (((yRem zgw186_2 (by decide)) : zex E (n + 4) d 186 2 [some (.ref 1), some (.int l), some (.int q), none, none] [.int 3, .int l] h = zex E (n + 3) d 186 3 [some (.ref 1), some (.int l), some (.int q), none, none] [.int (l - l / 3 * 3)] h).trans (((zjeF zgw186_3 hz) : zex E (n + 3) d 186 3 [some (.ref 1), some (.int l), some (.int q), none, none] [.int (l - l / 3 * 3)] h = zex E (n + 2) d 186 6 [some (.ref 1), some (.int l), some (.int q), none, none] [] h).trans (((yCi zgw186_6) : zex E (n + 2) d 186 6 [some (.ref 1), some (.int l), some (.int q), none, none] [] h = zex E (n + 1) d 186 7 [some (.ref 1), some (.int l), some (.int q), none, none] [.int 0] h).trans (((yRet2 zgw186_7 rfl (Or.inl rfl)) : zex E (n + 1) d 186 7 [some (.ref 1), some (.int l), some (.int q), none, none] [.int 0] h = some (.inl (some (.int 0)), h)))))))
set_option maxRecDepth 100000 in
theorem nt_0 {E : zE} {n d : Nat} {h : zH} {l q : Int32} (hz : (l - l / 3 * 3).toInt = 0)   : zex E (n + 6) d 186 0 [some (.ref 1), some (.int l), some (.int q), none, none] [] h = zex E n d 186 10 [some (.ref 1), some (.int l), some (.int q), some (.int 0), none] [] h :=
  ((yIn zgw186_0 rfl) : zex E (n + 6) d 186 0 [some (.ref 1), some (.int l), some (.int q), none, none] [] h = zex E (n + 5) d 186 1 [some (.ref 1), some (.int l), some (.int q), none, none] [.int l] h).trans (((yCi zgw186_1) : zex E (n + 5) d 186 1 [some (.ref 1), some (.int l), some (.int q), none, none] [.int l] h = zex E (n + 4) d 186 2 [some (.ref 1), some (.int l), some (.int q), none, none] [.int 3, .int l] h).trans (((yRem zgw186_2 (by decide)) : zex E (n + 4) d 186 2 [some (.ref 1), some (.int l), some (.int q), none, none] [.int 3, .int l] h = zex E (n + 3) d 186 3 [some (.ref 1), some (.int l), some (.int q), none, none] [.int (l - l / 3 * 3)] h).trans (((zjeT zgw186_3 hz) : zex E (n + 3) d 186 3 [some (.ref 1), some (.int l), some (.int q), none, none] [.int (l - l / 3 * 3)] h = zex E (n + 2) d 186 8 [some (.ref 1), some (.int l), some (.int q), none, none] [] h).trans (((yCi zgw186_8) : zex E (n + 2) d 186 8 [some (.ref 1), some (.int l), some (.int q), none, none] [] h = zex E (n + 1) d 186 9 [some (.ref 1), some (.int l), some (.int q), none, none] [.int 0] h).trans (((ySn zgw186_9) : zex E (n + 1) d 186 9 [some (.ref 1), some (.int l), some (.int q), none, none] [.int 0] h = zex E n d 186 10 [some (.ref 1), some (.int l), some (.int q), some (.int 0), none] [] h))))))
set_option maxRecDepth 100000 in
theorem nt_e {E : zE} {n d : Nat} {h : zH} {l q i a b : Int32} {u4 : Option Value} (hi : l.toInt ≤ (i + 2).toInt)   : zex E (n + 7) d 186 10 [some (.ref 1), some (.int l), some (.int q), some (.int i), u4] [] h = some (.inl (some (.int 1)), h) :=
  ((yIn zgw186_10 rfl) : zex E (n + 7) d 186 10 [some (.ref 1), some (.int l), some (.int q), some (.int i), u4] [] h = zex E (n + 6) d 186 11 [some (.ref 1), some (.int l), some (.int q), some (.int i), u4] [.int i] h).trans (((yCi zgw186_11) : zex E (n + 6) d 186 11 [some (.ref 1), some (.int l), some (.int q), some (.int i), u4] [.int i] h = zex E (n + 5) d 186 12 [some (.ref 1), some (.int l), some (.int q), some (.int i), u4] [.int 2, .int i] h).trans (((yAdd zgw186_12) : zex E (n + 5) d 186 12 [some (.ref 1), some (.int l), some (.int q), some (.int i), u4] [.int 2, .int i] h = zex E (n + 4) d 186 13 [some (.ref 1), some (.int l), some (.int q), some (.int i), u4] [.int (i + 2)] h).trans (((yIn zgw186_13 rfl) : zex E (n + 4) d 186 13 [some (.ref 1), some (.int l), some (.int q), some (.int i), u4] [.int (i + 2)] h = zex E (n + 3) d 186 14 [some (.ref 1), some (.int l), some (.int q), some (.int i), u4] [.int l, .int (i + 2)] h).trans (((zkgT zgw186_14 hi) : zex E (n + 3) d 186 14 [some (.ref 1), some (.int l), some (.int q), some (.int i), u4] [.int l, .int (i + 2)] h = zex E (n + 2) d 186 54 [some (.ref 1), some (.int l), some (.int q), some (.int i), u4] [] h).trans (((yCi zgw186_54) : zex E (n + 2) d 186 54 [some (.ref 1), some (.int l), some (.int q), some (.int i), u4] [] h = zex E (n + 1) d 186 55 [some (.ref 1), some (.int l), some (.int q), some (.int i), u4] [.int 1] h).trans (((yRet2 zgw186_55 rfl (Or.inr rfl)) : zex E (n + 1) d 186 55 [some (.ref 1), some (.int l), some (.int q), some (.int i), u4] [.int 1] h = some (.inl (some (.int 1)), h))))))))
set_option maxRecDepth 100000 in
theorem nt_1 {E : zE} {n d : Nat} {h : zH} {l q i a b : Int32} {u4 : Option Value} (hi : (i + 2).toInt < l.toInt) (ha : a.toInt < 0) (a1 : zat h.1 1 = some (.inr (.inl (9, [some (some 2), none, none, none, none, none])))) (e1 : zex E (n + 5) d 187 0 [some (.ref 1), some (.int i)] [] h = some (.inl (some (.int a)), h)) : zex E (n + 13) (d + 1) 186 10 [some (.ref 1), some (.int l), some (.int q), some (.int i), u4] [] h = some (.inl (some (.int 0)), h) :=
  ((yIn zgw186_10 rfl) : zex E (n + 13) (d + 1) 186 10 [some (.ref 1), some (.int l), some (.int q), some (.int i), u4] [] h = zex E (n + 12) (d + 1) 186 11 [some (.ref 1), some (.int l), some (.int q), some (.int i), u4] [.int i] h).trans (((yCi zgw186_11) : zex E (n + 12) (d + 1) 186 11 [some (.ref 1), some (.int l), some (.int q), some (.int i), u4] [.int i] h = zex E (n + 11) (d + 1) 186 12 [some (.ref 1), some (.int l), some (.int q), some (.int i), u4] [.int 2, .int i] h).trans (((yAdd zgw186_12) : zex E (n + 11) (d + 1) 186 12 [some (.ref 1), some (.int l), some (.int q), some (.int i), u4] [.int 2, .int i] h = zex E (n + 10) (d + 1) 186 13 [some (.ref 1), some (.int l), some (.int q), some (.int i), u4] [.int (i + 2)] h).trans (((yIn zgw186_13 rfl) : zex E (n + 10) (d + 1) 186 13 [some (.ref 1), some (.int l), some (.int q), some (.int i), u4] [.int (i + 2)] h = zex E (n + 9) (d + 1) 186 14 [some (.ref 1), some (.int l), some (.int q), some (.int i), u4] [.int l, .int (i + 2)] h).trans (((zkgF zgw186_14 hi) : zex E (n + 9) (d + 1) 186 14 [some (.ref 1), some (.int l), some (.int q), some (.int i), u4] [.int l, .int (i + 2)] h = zex E (n + 8) (d + 1) 186 17 [some (.ref 1), some (.int l), some (.int q), some (.int i), u4] [] h).trans (((yAn zgw186_17 rfl rfl) : zex E (n + 8) (d + 1) 186 17 [some (.ref 1), some (.int l), some (.int q), some (.int i), u4] [] h = zex E (n + 7) (d + 1) 186 18 [some (.ref 1), some (.int l), some (.int q), some (.int i), u4] [.ref 1] h).trans (((yIn zgw186_18 rfl) : zex E (n + 7) (d + 1) 186 18 [some (.ref 1), some (.int l), some (.int q), some (.int i), u4] [.ref 1] h = zex E (n + 6) (d + 1) 186 19 [some (.ref 1), some (.int l), some (.int q), some (.int i), u4] [.int i, .ref 1] h).trans (((zcvg (h := h) (as := [.int i]) (r := []) zgw186_19 znwq187 rfl a1 rfl e1) : zex E (n + 6) (d + 1) 186 19 [some (.ref 1), some (.int l), some (.int q), some (.int i), u4] [.int i, .ref 1] h = zex E (n + 5) (d + 1) 186 22 [some (.ref 1), some (.int l), some (.int q), some (.int i), u4] [.int a] h).trans (((yS zgw186_22) : zex E (n + 5) (d + 1) 186 22 [some (.ref 1), some (.int l), some (.int q), some (.int i), u4] [.int a] h = zex E (n + 4) (d + 1) 186 24 [some (.ref 1), some (.int l), some (.int q), some (.int i), some (.int a)] [] h).trans (((yI zgw186_24 rfl) : zex E (n + 4) (d + 1) 186 24 [some (.ref 1), some (.int l), some (.int q), some (.int i), some (.int a)] [] h = zex E (n + 3) (d + 1) 186 26 [some (.ref 1), some (.int l), some (.int q), some (.int i), some (.int a)] [.int a] h).trans (((zjlT zgw186_26 ha) : zex E (n + 3) (d + 1) 186 26 [some (.ref 1), some (.int l), some (.int q), some (.int i), some (.int a)] [.int a] h = zex E (n + 2) (d + 1) 186 46 [some (.ref 1), some (.int l), some (.int q), some (.int i), some (.int a)] [] h).trans (((yCi zgw186_46) : zex E (n + 2) (d + 1) 186 46 [some (.ref 1), some (.int l), some (.int q), some (.int i), some (.int a)] [] h = zex E (n + 1) (d + 1) 186 47 [some (.ref 1), some (.int l), some (.int q), some (.int i), some (.int a)] [.int 0] h).trans (((yRet2 zgw186_47 rfl (Or.inl rfl)) : zex E (n + 1) (d + 1) 186 47 [some (.ref 1), some (.int l), some (.int q), some (.int i), some (.int a)] [.int 0] h = some (.inl (some (.int 0)), h))))))))))))))
set_option maxRecDepth 100000 in
theorem nt_2 {E : zE} {n d : Nat} {h : zH} {l q i a b : Int32} {u4 : Option Value} (hi : (i + 2).toInt < l.toInt) (ha : 0 ≤ a.toInt) (hq : q.toInt ≤ a.toInt) (a1 : zat h.1 1 = some (.inr (.inl (9, [some (some 2), none, none, none, none, none])))) (e1 : zex E (n + 8) d 187 0 [some (.ref 1), some (.int i)] [] h = some (.inl (some (.int a)), h)) : zex E (n + 16) (d + 1) 186 10 [some (.ref 1), some (.int l), some (.int q), some (.int i), u4] [] h = some (.inl (some (.int 0)), h) :=
  ((yIn zgw186_10 rfl) : zex E (n + 16) (d + 1) 186 10 [some (.ref 1), some (.int l), some (.int q), some (.int i), u4] [] h = zex E (n + 15) (d + 1) 186 11 [some (.ref 1), some (.int l), some (.int q), some (.int i), u4] [.int i] h).trans (((yCi zgw186_11) : zex E (n + 15) (d + 1) 186 11 [some (.ref 1), some (.int l), some (.int q), some (.int i), u4] [.int i] h = zex E (n + 14) (d + 1) 186 12 [some (.ref 1), some (.int l), some (.int q), some (.int i), u4] [.int 2, .int i] h).trans (((yAdd zgw186_12) : zex E (n + 14) (d + 1) 186 12 [some (.ref 1), some (.int l), some (.int q), some (.int i), u4] [.int 2, .int i] h = zex E (n + 13) (d + 1) 186 13 [some (.ref 1), some (.int l), some (.int q), some (.int i), u4] [.int (i + 2)] h).trans (((yIn zgw186_13 rfl) : zex E (n + 13) (d + 1) 186 13 [some (.ref 1), some (.int l), some (.int q), some (.int i), u4] [.int (i + 2)] h = zex E (n + 12) (d + 1) 186 14 [some (.ref 1), some (.int l), some (.int q), some (.int i), u4] [.int l, .int (i + 2)] h).trans (((zkgF zgw186_14 hi) : zex E (n + 12) (d + 1) 186 14 [some (.ref 1), some (.int l), some (.int q), some (.int i), u4] [.int l, .int (i + 2)] h = zex E (n + 11) (d + 1) 186 17 [some (.ref 1), some (.int l), some (.int q), some (.int i), u4] [] h).trans (((yAn zgw186_17 rfl rfl) : zex E (n + 11) (d + 1) 186 17 [some (.ref 1), some (.int l), some (.int q), some (.int i), u4] [] h = zex E (n + 10) (d + 1) 186 18 [some (.ref 1), some (.int l), some (.int q), some (.int i), u4] [.ref 1] h).trans (((yIn zgw186_18 rfl) : zex E (n + 10) (d + 1) 186 18 [some (.ref 1), some (.int l), some (.int q), some (.int i), u4] [.ref 1] h = zex E (n + 9) (d + 1) 186 19 [some (.ref 1), some (.int l), some (.int q), some (.int i), u4] [.int i, .ref 1] h).trans (((zcvg (h := h) (as := [.int i]) (r := []) zgw186_19 znwq187 rfl a1 rfl e1) : zex E (n + 9) (d + 1) 186 19 [some (.ref 1), some (.int l), some (.int q), some (.int i), u4] [.int i, .ref 1] h = zex E (n + 8) (d + 1) 186 22 [some (.ref 1), some (.int l), some (.int q), some (.int i), u4] [.int a] h).trans (((yS zgw186_22) : zex E (n + 8) (d + 1) 186 22 [some (.ref 1), some (.int l), some (.int q), some (.int i), u4] [.int a] h = zex E (n + 7) (d + 1) 186 24 [some (.ref 1), some (.int l), some (.int q), some (.int i), some (.int a)] [] h).trans (((yI zgw186_24 rfl) : zex E (n + 7) (d + 1) 186 24 [some (.ref 1), some (.int l), some (.int q), some (.int i), some (.int a)] [] h = zex E (n + 6) (d + 1) 186 26 [some (.ref 1), some (.int l), some (.int q), some (.int i), some (.int a)] [.int a] h).trans (((zjlF zgw186_26 ha) : zex E (n + 6) (d + 1) 186 26 [some (.ref 1), some (.int l), some (.int q), some (.int i), some (.int a)] [.int a] h = zex E (n + 5) (d + 1) 186 29 [some (.ref 1), some (.int l), some (.int q), some (.int i), some (.int a)] [] h).trans (((yI zgw186_29 rfl) : zex E (n + 5) (d + 1) 186 29 [some (.ref 1), some (.int l), some (.int q), some (.int i), some (.int a)] [] h = zex E (n + 4) (d + 1) 186 31 [some (.ref 1), some (.int l), some (.int q), some (.int i), some (.int a)] [.int a] h).trans (((yIn zgw186_31 rfl) : zex E (n + 4) (d + 1) 186 31 [some (.ref 1), some (.int l), some (.int q), some (.int i), some (.int a)] [.int a] h = zex E (n + 3) (d + 1) 186 32 [some (.ref 1), some (.int l), some (.int q), some (.int i), some (.int a)] [.int q, .int a] h).trans (((zkgT zgw186_32 hq) : zex E (n + 3) (d + 1) 186 32 [some (.ref 1), some (.int l), some (.int q), some (.int i), some (.int a)] [.int q, .int a] h = zex E (n + 2) (d + 1) 186 46 [some (.ref 1), some (.int l), some (.int q), some (.int i), some (.int a)] [] h).trans (((yCi zgw186_46) : zex E (n + 2) (d + 1) 186 46 [some (.ref 1), some (.int l), some (.int q), some (.int i), some (.int a)] [] h = zex E (n + 1) (d + 1) 186 47 [some (.ref 1), some (.int l), some (.int q), some (.int i), some (.int a)] [.int 0] h).trans (((yRet2 zgw186_47 rfl (Or.inl rfl)) : zex E (n + 1) (d + 1) 186 47 [some (.ref 1), some (.int l), some (.int q), some (.int i), some (.int a)] [.int 0] h = some (.inl (some (.int 0)), h)))))))))))))))))
set_option maxRecDepth 100000 in
theorem nt_3 {E : zE} {n d : Nat} {h : zH} {l q i a b : Int32} {u4 : Option Value} (hi : (i + 2).toInt < l.toInt) (ha : 0 ≤ a.toInt) (hq : a.toInt < q.toInt) (hb : (9999 : Int32).toInt < b.toInt) (a1 : zat h.1 1 = some (.inr (.inl (9, [some (some 2), none, none, none, none, none])))) (e1 : zex E (n + 13) d 187 0 [some (.ref 1), some (.int i)] [] h = some (.inl (some (.int a)), h)) (e2 : zex E (n + 4) d 188 0 [some (.ref 1), some (.int i)] [] h = some (.inl (some (.int b)), h)) : zex E (n + 21) (d + 1) 186 10 [some (.ref 1), some (.int l), some (.int q), some (.int i), u4] [] h = some (.inl (some (.int 0)), h) :=
  ((yIn zgw186_10 rfl) : zex E (n + 21) (d + 1) 186 10 [some (.ref 1), some (.int l), some (.int q), some (.int i), u4] [] h = zex E (n + 20) (d + 1) 186 11 [some (.ref 1), some (.int l), some (.int q), some (.int i), u4] [.int i] h).trans (((yCi zgw186_11) : zex E (n + 20) (d + 1) 186 11 [some (.ref 1), some (.int l), some (.int q), some (.int i), u4] [.int i] h = zex E (n + 19) (d + 1) 186 12 [some (.ref 1), some (.int l), some (.int q), some (.int i), u4] [.int 2, .int i] h).trans (((yAdd zgw186_12) : zex E (n + 19) (d + 1) 186 12 [some (.ref 1), some (.int l), some (.int q), some (.int i), u4] [.int 2, .int i] h = zex E (n + 18) (d + 1) 186 13 [some (.ref 1), some (.int l), some (.int q), some (.int i), u4] [.int (i + 2)] h).trans (((yIn zgw186_13 rfl) : zex E (n + 18) (d + 1) 186 13 [some (.ref 1), some (.int l), some (.int q), some (.int i), u4] [.int (i + 2)] h = zex E (n + 17) (d + 1) 186 14 [some (.ref 1), some (.int l), some (.int q), some (.int i), u4] [.int l, .int (i + 2)] h).trans (((zkgF zgw186_14 hi) : zex E (n + 17) (d + 1) 186 14 [some (.ref 1), some (.int l), some (.int q), some (.int i), u4] [.int l, .int (i + 2)] h = zex E (n + 16) (d + 1) 186 17 [some (.ref 1), some (.int l), some (.int q), some (.int i), u4] [] h).trans (((yAn zgw186_17 rfl rfl) : zex E (n + 16) (d + 1) 186 17 [some (.ref 1), some (.int l), some (.int q), some (.int i), u4] [] h = zex E (n + 15) (d + 1) 186 18 [some (.ref 1), some (.int l), some (.int q), some (.int i), u4] [.ref 1] h).trans (((yIn zgw186_18 rfl) : zex E (n + 15) (d + 1) 186 18 [some (.ref 1), some (.int l), some (.int q), some (.int i), u4] [.ref 1] h = zex E (n + 14) (d + 1) 186 19 [some (.ref 1), some (.int l), some (.int q), some (.int i), u4] [.int i, .ref 1] h).trans (((zcvg (h := h) (as := [.int i]) (r := []) zgw186_19 znwq187 rfl a1 rfl e1) : zex E (n + 14) (d + 1) 186 19 [some (.ref 1), some (.int l), some (.int q), some (.int i), u4] [.int i, .ref 1] h = zex E (n + 13) (d + 1) 186 22 [some (.ref 1), some (.int l), some (.int q), some (.int i), u4] [.int a] h).trans (((yS zgw186_22) : zex E (n + 13) (d + 1) 186 22 [some (.ref 1), some (.int l), some (.int q), some (.int i), u4] [.int a] h = zex E (n + 12) (d + 1) 186 24 [some (.ref 1), some (.int l), some (.int q), some (.int i), some (.int a)] [] h).trans (((yI zgw186_24 rfl) : zex E (n + 12) (d + 1) 186 24 [some (.ref 1), some (.int l), some (.int q), some (.int i), some (.int a)] [] h = zex E (n + 11) (d + 1) 186 26 [some (.ref 1), some (.int l), some (.int q), some (.int i), some (.int a)] [.int a] h).trans (((zjlF zgw186_26 ha) : zex E (n + 11) (d + 1) 186 26 [some (.ref 1), some (.int l), some (.int q), some (.int i), some (.int a)] [.int a] h = zex E (n + 10) (d + 1) 186 29 [some (.ref 1), some (.int l), some (.int q), some (.int i), some (.int a)] [] h).trans (((yI zgw186_29 rfl) : zex E (n + 10) (d + 1) 186 29 [some (.ref 1), some (.int l), some (.int q), some (.int i), some (.int a)] [] h = zex E (n + 9) (d + 1) 186 31 [some (.ref 1), some (.int l), some (.int q), some (.int i), some (.int a)] [.int a] h).trans (((yIn zgw186_31 rfl) : zex E (n + 9) (d + 1) 186 31 [some (.ref 1), some (.int l), some (.int q), some (.int i), some (.int a)] [.int a] h = zex E (n + 8) (d + 1) 186 32 [some (.ref 1), some (.int l), some (.int q), some (.int i), some (.int a)] [.int q, .int a] h).trans (((zkgF zgw186_32 hq) : zex E (n + 8) (d + 1) 186 32 [some (.ref 1), some (.int l), some (.int q), some (.int i), some (.int a)] [.int q, .int a] h = zex E (n + 7) (d + 1) 186 35 [some (.ref 1), some (.int l), some (.int q), some (.int i), some (.int a)] [] h).trans (((yAn zgw186_35 rfl rfl) : zex E (n + 7) (d + 1) 186 35 [some (.ref 1), some (.int l), some (.int q), some (.int i), some (.int a)] [] h = zex E (n + 6) (d + 1) 186 36 [some (.ref 1), some (.int l), some (.int q), some (.int i), some (.int a)] [.ref 1] h).trans (((yIn zgw186_36 rfl) : zex E (n + 6) (d + 1) 186 36 [some (.ref 1), some (.int l), some (.int q), some (.int i), some (.int a)] [.ref 1] h = zex E (n + 5) (d + 1) 186 37 [some (.ref 1), some (.int l), some (.int q), some (.int i), some (.int a)] [.int i, .ref 1] h).trans (((zcvg (h := h) (as := [.int i]) (r := []) zgw186_37 znwq188 rfl a1 rfl e2) : zex E (n + 5) (d + 1) 186 37 [some (.ref 1), some (.int l), some (.int q), some (.int i), some (.int a)] [.int i, .ref 1] h = zex E (n + 4) (d + 1) 186 40 [some (.ref 1), some (.int l), some (.int q), some (.int i), some (.int a)] [.int b] h).trans (((yCs zgw186_40) : zex E (n + 4) (d + 1) 186 40 [some (.ref 1), some (.int l), some (.int q), some (.int i), some (.int a)] [.int b] h = zex E (n + 3) (d + 1) 186 43 [some (.ref 1), some (.int l), some (.int q), some (.int i), some (.int a)] [.int 9999, .int b] h).trans (((zkiF zgw186_43 hb) : zex E (n + 3) (d + 1) 186 43 [some (.ref 1), some (.int l), some (.int q), some (.int i), some (.int a)] [.int 9999, .int b] h = zex E (n + 2) (d + 1) 186 46 [some (.ref 1), some (.int l), some (.int q), some (.int i), some (.int a)] [] h).trans (((yCi zgw186_46) : zex E (n + 2) (d + 1) 186 46 [some (.ref 1), some (.int l), some (.int q), some (.int i), some (.int a)] [] h = zex E (n + 1) (d + 1) 186 47 [some (.ref 1), some (.int l), some (.int q), some (.int i), some (.int a)] [.int 0] h).trans (((yRet2 zgw186_47 rfl (Or.inl rfl)) : zex E (n + 1) (d + 1) 186 47 [some (.ref 1), some (.int l), some (.int q), some (.int i), some (.int a)] [.int 0] h = some (.inl (some (.int 0)), h))))))))))))))))))))))
set_option maxRecDepth 100000 in
theorem nt_s {E : zE} {n d : Nat} {h : zH} {l q i a b : Int32} {u4 : Option Value} (hi : (i + 2).toInt < l.toInt) (ha : 0 ≤ a.toInt) (hq : a.toInt < q.toInt) (hb : b.toInt ≤ (9999 : Int32).toInt) (a1 : zat h.1 1 = some (.inr (.inl (9, [some (some 2), none, none, none, none, none])))) (e1 : zex E (n + 13) d 187 0 [some (.ref 1), some (.int i)] [] h = some (.inl (some (.int a)), h)) (e2 : zex E (n + 4) d 188 0 [some (.ref 1), some (.int i)] [] h = some (.inl (some (.int b)), h)) : zex E (n + 21) (d + 1) 186 10 [some (.ref 1), some (.int l), some (.int q), some (.int i), u4] [] h = zex E n (d + 1) 186 10 [some (.ref 1), some (.int l), some (.int q), some (.int (i + 3)), some (.int a)] [] h :=
  ((yIn zgw186_10 rfl) : zex E (n + 21) (d + 1) 186 10 [some (.ref 1), some (.int l), some (.int q), some (.int i), u4] [] h = zex E (n + 20) (d + 1) 186 11 [some (.ref 1), some (.int l), some (.int q), some (.int i), u4] [.int i] h).trans (((yCi zgw186_11) : zex E (n + 20) (d + 1) 186 11 [some (.ref 1), some (.int l), some (.int q), some (.int i), u4] [.int i] h = zex E (n + 19) (d + 1) 186 12 [some (.ref 1), some (.int l), some (.int q), some (.int i), u4] [.int 2, .int i] h).trans (((yAdd zgw186_12) : zex E (n + 19) (d + 1) 186 12 [some (.ref 1), some (.int l), some (.int q), some (.int i), u4] [.int 2, .int i] h = zex E (n + 18) (d + 1) 186 13 [some (.ref 1), some (.int l), some (.int q), some (.int i), u4] [.int (i + 2)] h).trans (((yIn zgw186_13 rfl) : zex E (n + 18) (d + 1) 186 13 [some (.ref 1), some (.int l), some (.int q), some (.int i), u4] [.int (i + 2)] h = zex E (n + 17) (d + 1) 186 14 [some (.ref 1), some (.int l), some (.int q), some (.int i), u4] [.int l, .int (i + 2)] h).trans (((zkgF zgw186_14 hi) : zex E (n + 17) (d + 1) 186 14 [some (.ref 1), some (.int l), some (.int q), some (.int i), u4] [.int l, .int (i + 2)] h = zex E (n + 16) (d + 1) 186 17 [some (.ref 1), some (.int l), some (.int q), some (.int i), u4] [] h).trans (((yAn zgw186_17 rfl rfl) : zex E (n + 16) (d + 1) 186 17 [some (.ref 1), some (.int l), some (.int q), some (.int i), u4] [] h = zex E (n + 15) (d + 1) 186 18 [some (.ref 1), some (.int l), some (.int q), some (.int i), u4] [.ref 1] h).trans (((yIn zgw186_18 rfl) : zex E (n + 15) (d + 1) 186 18 [some (.ref 1), some (.int l), some (.int q), some (.int i), u4] [.ref 1] h = zex E (n + 14) (d + 1) 186 19 [some (.ref 1), some (.int l), some (.int q), some (.int i), u4] [.int i, .ref 1] h).trans (((zcvg (h := h) (as := [.int i]) (r := []) zgw186_19 znwq187 rfl a1 rfl e1) : zex E (n + 14) (d + 1) 186 19 [some (.ref 1), some (.int l), some (.int q), some (.int i), u4] [.int i, .ref 1] h = zex E (n + 13) (d + 1) 186 22 [some (.ref 1), some (.int l), some (.int q), some (.int i), u4] [.int a] h).trans (((yS zgw186_22) : zex E (n + 13) (d + 1) 186 22 [some (.ref 1), some (.int l), some (.int q), some (.int i), u4] [.int a] h = zex E (n + 12) (d + 1) 186 24 [some (.ref 1), some (.int l), some (.int q), some (.int i), some (.int a)] [] h).trans (((yI zgw186_24 rfl) : zex E (n + 12) (d + 1) 186 24 [some (.ref 1), some (.int l), some (.int q), some (.int i), some (.int a)] [] h = zex E (n + 11) (d + 1) 186 26 [some (.ref 1), some (.int l), some (.int q), some (.int i), some (.int a)] [.int a] h).trans (((zjlF zgw186_26 ha) : zex E (n + 11) (d + 1) 186 26 [some (.ref 1), some (.int l), some (.int q), some (.int i), some (.int a)] [.int a] h = zex E (n + 10) (d + 1) 186 29 [some (.ref 1), some (.int l), some (.int q), some (.int i), some (.int a)] [] h).trans (((yI zgw186_29 rfl) : zex E (n + 10) (d + 1) 186 29 [some (.ref 1), some (.int l), some (.int q), some (.int i), some (.int a)] [] h = zex E (n + 9) (d + 1) 186 31 [some (.ref 1), some (.int l), some (.int q), some (.int i), some (.int a)] [.int a] h).trans (((yIn zgw186_31 rfl) : zex E (n + 9) (d + 1) 186 31 [some (.ref 1), some (.int l), some (.int q), some (.int i), some (.int a)] [.int a] h = zex E (n + 8) (d + 1) 186 32 [some (.ref 1), some (.int l), some (.int q), some (.int i), some (.int a)] [.int q, .int a] h).trans (((zkgF zgw186_32 hq) : zex E (n + 8) (d + 1) 186 32 [some (.ref 1), some (.int l), some (.int q), some (.int i), some (.int a)] [.int q, .int a] h = zex E (n + 7) (d + 1) 186 35 [some (.ref 1), some (.int l), some (.int q), some (.int i), some (.int a)] [] h).trans (((yAn zgw186_35 rfl rfl) : zex E (n + 7) (d + 1) 186 35 [some (.ref 1), some (.int l), some (.int q), some (.int i), some (.int a)] [] h = zex E (n + 6) (d + 1) 186 36 [some (.ref 1), some (.int l), some (.int q), some (.int i), some (.int a)] [.ref 1] h).trans (((yIn zgw186_36 rfl) : zex E (n + 6) (d + 1) 186 36 [some (.ref 1), some (.int l), some (.int q), some (.int i), some (.int a)] [.ref 1] h = zex E (n + 5) (d + 1) 186 37 [some (.ref 1), some (.int l), some (.int q), some (.int i), some (.int a)] [.int i, .ref 1] h).trans (((zcvg (h := h) (as := [.int i]) (r := []) zgw186_37 znwq188 rfl a1 rfl e2) : zex E (n + 5) (d + 1) 186 37 [some (.ref 1), some (.int l), some (.int q), some (.int i), some (.int a)] [.int i, .ref 1] h = zex E (n + 4) (d + 1) 186 40 [some (.ref 1), some (.int l), some (.int q), some (.int i), some (.int a)] [.int b] h).trans (((yCs zgw186_40) : zex E (n + 4) (d + 1) 186 40 [some (.ref 1), some (.int l), some (.int q), some (.int i), some (.int a)] [.int b] h = zex E (n + 3) (d + 1) 186 43 [some (.ref 1), some (.int l), some (.int q), some (.int i), some (.int a)] [.int 9999, .int b] h).trans (((zkiT zgw186_43 hb) : zex E (n + 3) (d + 1) 186 43 [some (.ref 1), some (.int l), some (.int q), some (.int i), some (.int a)] [.int 9999, .int b] h = zex E (n + 2) (d + 1) 186 48 [some (.ref 1), some (.int l), some (.int q), some (.int i), some (.int a)] [] h).trans (((yInc zgw186_48 rfl) : zex E (n + 2) (d + 1) 186 48 [some (.ref 1), some (.int l), some (.int q), some (.int i), some (.int a)] [] h = zex E (n + 1) (d + 1) 186 51 [some (.ref 1), some (.int l), some (.int q), some (.int (i + 3)), some (.int a)] [] h).trans (((yGo zgw186_51) : zex E (n + 1) (d + 1) 186 51 [some (.ref 1), some (.int l), some (.int q), some (.int (i + 3)), some (.int a)] [] h = zex E n (d + 1) 186 10 [some (.ref 1), some (.int l), some (.int q), some (.int (i + 3)), some (.int a)] [] h)))))))))))))))))))))
set_option maxRecDepth 100000 in
theorem no_t {E : zE} {n d : Nat} {h : zH} {l q : Int32} (hl : h.2.1 1 1 = l) (hq : (zsetI h 1 (upd (h.2.1 1) 1 0)).2.1 4 0 = q) (a0 : zat h.1 0 = some (.inr (.inl (11, [some (some 1), some (some 3), some (some 18), some (some 25), some (some 27), some (some 30), some (some 53), some (some 62), some (some 76), none])))) (a1 : zat h.1 1 = some (.inr (.inl (9, [some (some 2), none, none, none, none, none])))) (a3 : zat h.1 3 = some (.inr (.inl (2, [some (some 4), some (some 10), some (some 17)])))) (a4 : zat h.1 4 = some (.inr (.inl (8, [none, none, none, none, some (some 5), some (some 6), some (some 7), some (some 8), some (some 9)])))) (e1 : zex E (n + 2) d 186 0 [some (.ref 1), some (.int l), some (.int q), none, none] [] (zsetI h 1 (upd (h.2.1 1) 1 0)) = some (.inl (some (.int 0)), (zsetI h 1 (upd (h.2.1 1) 1 0)))) : zex E (n + 18) (d + 1) 78 0 [some (.ref 0), none, none, none] [] h = some (.inr 0, ((zsetI h 1 (upd (h.2.1 1) 1 0)).1, (zsetI h 1 (upd (h.2.1 1) 1 0)).2.1, (zsetI h 1 (upd (h.2.1 1) 1 0)).2.2.1, (zsetI h 1 (upd (h.2.1 1) 1 0)).2.2.2.1 + 1, (zsetI h 1 (upd (h.2.1 1) 1 0)).2.2.2.2 + 6)) :=
  ((yAn zgw78_0 rfl rfl) : zex E (n + 18) (d + 1) 78 0 [some (.ref 0), none, none, none] [] h = zex E (n + 17) (d + 1) 78 1 [some (.ref 0), none, none, none] [.ref 0] h).trans (((zgx zgw78_1 a0 rfl) : zex E (n + 17) (d + 1) 78 1 [some (.ref 0), none, none, none] [.ref 0] h = zex E (n + 16) (d + 1) 78 4 [some (.ref 0), none, none, none] [.ref 1] h).trans (((zgk zgw78_4 a1 rfl hl) : zex E (n + 16) (d + 1) 78 4 [some (.ref 0), none, none, none] [.ref 1] h = zex E (n + 15) (d + 1) 78 7 [some (.ref 0), none, none, none] [.int l] h).trans (((ySn zgw78_7) : zex E (n + 15) (d + 1) 78 7 [some (.ref 0), none, none, none] [.int l] h = zex E (n + 14) (d + 1) 78 8 [some (.ref 0), some (.int l), none, none] [] h).trans (((yAn zgw78_8 rfl rfl) : zex E (n + 14) (d + 1) 78 8 [some (.ref 0), some (.int l), none, none] [] h = zex E (n + 13) (d + 1) 78 9 [some (.ref 0), some (.int l), none, none] [.ref 0] h).trans (((zgx zgw78_9 a0 rfl) : zex E (n + 13) (d + 1) 78 9 [some (.ref 0), some (.int l), none, none] [.ref 0] h = zex E (n + 12) (d + 1) 78 12 [some (.ref 0), some (.int l), none, none] [.ref 1] h).trans (((yCi zgw78_12) : zex E (n + 12) (d + 1) 78 12 [some (.ref 0), some (.int l), none, none] [.ref 1] h = zex E (n + 11) (d + 1) 78 13 [some (.ref 0), some (.int l), none, none] [.int 0, .ref 1] h).trans (((zpx zgw78_13 a1 rfl) : zex E (n + 11) (d + 1) 78 13 [some (.ref 0), some (.int l), none, none] [.int 0, .ref 1] h = zex E (n + 10) (d + 1) 78 16 [some (.ref 0), some (.int l), none, none] [] (zsetI h 1 (upd (h.2.1 1) 1 0))).trans (((yAn zgw78_16 rfl rfl) : zex E (n + 10) (d + 1) 78 16 [some (.ref 0), some (.int l), none, none] [] (zsetI h 1 (upd (h.2.1 1) 1 0)) = zex E (n + 9) (d + 1) 78 17 [some (.ref 0), some (.int l), none, none] [.ref 0] (zsetI h 1 (upd (h.2.1 1) 1 0))).trans (((zgx zgw78_17 a0 rfl) : zex E (n + 9) (d + 1) 78 17 [some (.ref 0), some (.int l), none, none] [.ref 0] (zsetI h 1 (upd (h.2.1 1) 1 0)) = zex E (n + 8) (d + 1) 78 20 [some (.ref 0), some (.int l), none, none] [.ref 1] (zsetI h 1 (upd (h.2.1 1) 1 0))).trans (((yIn zgw78_20 rfl) : zex E (n + 8) (d + 1) 78 20 [some (.ref 0), some (.int l), none, none] [.ref 1] (zsetI h 1 (upd (h.2.1 1) 1 0)) = zex E (n + 7) (d + 1) 78 21 [some (.ref 0), some (.int l), none, none] [.int l, .ref 1] (zsetI h 1 (upd (h.2.1 1) 1 0))).trans (((yAn zgw78_21 rfl rfl) : zex E (n + 7) (d + 1) 78 21 [some (.ref 0), some (.int l), none, none] [.int l, .ref 1] (zsetI h 1 (upd (h.2.1 1) 1 0)) = zex E (n + 6) (d + 1) 78 22 [some (.ref 0), some (.int l), none, none] [.ref 0, .int l, .ref 1] (zsetI h 1 (upd (h.2.1 1) 1 0))).trans (((zgx zgw78_22 a0 rfl) : zex E (n + 6) (d + 1) 78 22 [some (.ref 0), some (.int l), none, none] [.ref 0, .int l, .ref 1] (zsetI h 1 (upd (h.2.1 1) 1 0)) = zex E (n + 5) (d + 1) 78 25 [some (.ref 0), some (.int l), none, none] [.ref 3, .int l, .ref 1] (zsetI h 1 (upd (h.2.1 1) 1 0))).trans (((zgx zgw78_25 a3 rfl) : zex E (n + 5) (d + 1) 78 25 [some (.ref 0), some (.int l), none, none] [.ref 3, .int l, .ref 1] (zsetI h 1 (upd (h.2.1 1) 1 0)) = zex E (n + 4) (d + 1) 78 28 [some (.ref 0), some (.int l), none, none] [.ref 4, .int l, .ref 1] (zsetI h 1 (upd (h.2.1 1) 1 0))).trans (((zgk zgw78_28 a4 rfl hq) : zex E (n + 4) (d + 1) 78 28 [some (.ref 0), some (.int l), none, none] [.ref 4, .int l, .ref 1] (zsetI h 1 (upd (h.2.1 1) 1 0)) = zex E (n + 3) (d + 1) 78 31 [some (.ref 0), some (.int l), none, none] [.int q, .int l, .ref 1] (zsetI h 1 (upd (h.2.1 1) 1 0))).trans (((zcvg (h := (zsetI h 1 (upd (h.2.1 1) 1 0))) (as := [.int l, .int q]) (r := []) zgw78_31 znwq186 rfl a1 rfl e1) : zex E (n + 3) (d + 1) 78 31 [some (.ref 0), some (.int l), none, none] [.int q, .int l, .ref 1] (zsetI h 1 (upd (h.2.1 1) 1 0)) = zex E (n + 2) (d + 1) 78 34 [some (.ref 0), some (.int l), none, none] [.int 0] (zsetI h 1 (upd (h.2.1 1) 1 0))).trans (((zjnF zgw78_34 (by decide)) : zex E (n + 2) (d + 1) 78 34 [some (.ref 0), some (.int l), none, none] [.int 0] (zsetI h 1 (upd (h.2.1 1) 1 0)) = zex E (n + 1) (d + 1) 78 37 [some (.ref 0), some (.int l), none, none] [] (zsetI h 1 (upd (h.2.1 1) 1 0))).trans (((yNew zgw78_37) : zex E (n + 1) (d + 1) 78 37 [some (.ref 0), some (.int l), none, none] [] (zsetI h 1 (upd (h.2.1 1) 1 0)) = some (.inr 0, ((zsetI h 1 (upd (h.2.1 1) 1 0)).1, (zsetI h 1 (upd (h.2.1 1) 1 0)).2.1, (zsetI h 1 (upd (h.2.1 1) 1 0)).2.2.1, (zsetI h 1 (upd (h.2.1 1) 1 0)).2.2.2.1 + 1, (zsetI h 1 (upd (h.2.1 1) 1 0)).2.2.2.2 + 6))))))))))))))))))))
set_option maxRecDepth 100000 in
theorem no_0 {E : zE} {n d : Nat} {h : zH} {l q w : Int32} (hl : h.2.1 1 1 = l) (hq : (zsetI h 1 (upd (h.2.1 1) 1 0)).2.1 4 0 = q) (a0 : zat h.1 0 = some (.inr (.inl (11, [some (some 1), some (some 3), some (some 18), some (some 25), some (some 27), some (some 30), some (some 53), some (some 62), some (some 76), none])))) (a1 : zat h.1 1 = some (.inr (.inl (9, [some (some 2), none, none, none, none, none])))) (a3 : zat h.1 3 = some (.inr (.inl (2, [some (some 4), some (some 10), some (some 17)])))) (a4 : zat h.1 4 = some (.inr (.inl (8, [none, none, none, none, some (some 5), some (some 6), some (some 7), some (some 8), some (some 9)])))) (e1 : zex E (n + 8) d 186 0 [some (.ref 1), some (.int l), some (.int q), none, none] [] (zsetI h 1 (upd (h.2.1 1) 1 0)) = some (.inl (some (.int 1)), (zsetI h 1 (upd (h.2.1 1) 1 0)))) (e2 : zex E (n + 3) d 172 0 [some (.ref 4)] [] (zsetI h 1 (upd (h.2.1 1) 1 0)) = some (.inl (some (.int w)), (zsetI h 1 (upd (h.2.1 1) 1 0)))) : zex E (n + 24) (d + 1) 78 0 [some (.ref 0), none, none, none] [] h = zex E n (d + 1) 78 61 [some (.ref 0), some (.int l), some (.int w), some (.int 0)] [] (zsetI h 1 (upd (h.2.1 1) 1 0)) :=
  ((yAn zgw78_0 rfl rfl) : zex E (n + 24) (d + 1) 78 0 [some (.ref 0), none, none, none] [] h = zex E (n + 23) (d + 1) 78 1 [some (.ref 0), none, none, none] [.ref 0] h).trans (((zgx zgw78_1 a0 rfl) : zex E (n + 23) (d + 1) 78 1 [some (.ref 0), none, none, none] [.ref 0] h = zex E (n + 22) (d + 1) 78 4 [some (.ref 0), none, none, none] [.ref 1] h).trans (((zgk zgw78_4 a1 rfl hl) : zex E (n + 22) (d + 1) 78 4 [some (.ref 0), none, none, none] [.ref 1] h = zex E (n + 21) (d + 1) 78 7 [some (.ref 0), none, none, none] [.int l] h).trans (((ySn zgw78_7) : zex E (n + 21) (d + 1) 78 7 [some (.ref 0), none, none, none] [.int l] h = zex E (n + 20) (d + 1) 78 8 [some (.ref 0), some (.int l), none, none] [] h).trans (((yAn zgw78_8 rfl rfl) : zex E (n + 20) (d + 1) 78 8 [some (.ref 0), some (.int l), none, none] [] h = zex E (n + 19) (d + 1) 78 9 [some (.ref 0), some (.int l), none, none] [.ref 0] h).trans (((zgx zgw78_9 a0 rfl) : zex E (n + 19) (d + 1) 78 9 [some (.ref 0), some (.int l), none, none] [.ref 0] h = zex E (n + 18) (d + 1) 78 12 [some (.ref 0), some (.int l), none, none] [.ref 1] h).trans (((yCi zgw78_12) : zex E (n + 18) (d + 1) 78 12 [some (.ref 0), some (.int l), none, none] [.ref 1] h = zex E (n + 17) (d + 1) 78 13 [some (.ref 0), some (.int l), none, none] [.int 0, .ref 1] h).trans (((zpx zgw78_13 a1 rfl) : zex E (n + 17) (d + 1) 78 13 [some (.ref 0), some (.int l), none, none] [.int 0, .ref 1] h = zex E (n + 16) (d + 1) 78 16 [some (.ref 0), some (.int l), none, none] [] (zsetI h 1 (upd (h.2.1 1) 1 0))).trans (((yAn zgw78_16 rfl rfl) : zex E (n + 16) (d + 1) 78 16 [some (.ref 0), some (.int l), none, none] [] (zsetI h 1 (upd (h.2.1 1) 1 0)) = zex E (n + 15) (d + 1) 78 17 [some (.ref 0), some (.int l), none, none] [.ref 0] (zsetI h 1 (upd (h.2.1 1) 1 0))).trans (((zgx zgw78_17 a0 rfl) : zex E (n + 15) (d + 1) 78 17 [some (.ref 0), some (.int l), none, none] [.ref 0] (zsetI h 1 (upd (h.2.1 1) 1 0)) = zex E (n + 14) (d + 1) 78 20 [some (.ref 0), some (.int l), none, none] [.ref 1] (zsetI h 1 (upd (h.2.1 1) 1 0))).trans (((yIn zgw78_20 rfl) : zex E (n + 14) (d + 1) 78 20 [some (.ref 0), some (.int l), none, none] [.ref 1] (zsetI h 1 (upd (h.2.1 1) 1 0)) = zex E (n + 13) (d + 1) 78 21 [some (.ref 0), some (.int l), none, none] [.int l, .ref 1] (zsetI h 1 (upd (h.2.1 1) 1 0))).trans (((yAn zgw78_21 rfl rfl) : zex E (n + 13) (d + 1) 78 21 [some (.ref 0), some (.int l), none, none] [.int l, .ref 1] (zsetI h 1 (upd (h.2.1 1) 1 0)) = zex E (n + 12) (d + 1) 78 22 [some (.ref 0), some (.int l), none, none] [.ref 0, .int l, .ref 1] (zsetI h 1 (upd (h.2.1 1) 1 0))).trans (((zgx zgw78_22 a0 rfl) : zex E (n + 12) (d + 1) 78 22 [some (.ref 0), some (.int l), none, none] [.ref 0, .int l, .ref 1] (zsetI h 1 (upd (h.2.1 1) 1 0)) = zex E (n + 11) (d + 1) 78 25 [some (.ref 0), some (.int l), none, none] [.ref 3, .int l, .ref 1] (zsetI h 1 (upd (h.2.1 1) 1 0))).trans (((zgx zgw78_25 a3 rfl) : zex E (n + 11) (d + 1) 78 25 [some (.ref 0), some (.int l), none, none] [.ref 3, .int l, .ref 1] (zsetI h 1 (upd (h.2.1 1) 1 0)) = zex E (n + 10) (d + 1) 78 28 [some (.ref 0), some (.int l), none, none] [.ref 4, .int l, .ref 1] (zsetI h 1 (upd (h.2.1 1) 1 0))).trans (((zgk zgw78_28 a4 rfl hq) : zex E (n + 10) (d + 1) 78 28 [some (.ref 0), some (.int l), none, none] [.ref 4, .int l, .ref 1] (zsetI h 1 (upd (h.2.1 1) 1 0)) = zex E (n + 9) (d + 1) 78 31 [some (.ref 0), some (.int l), none, none] [.int q, .int l, .ref 1] (zsetI h 1 (upd (h.2.1 1) 1 0))).trans (((zcvg (h := (zsetI h 1 (upd (h.2.1 1) 1 0))) (as := [.int l, .int q]) (r := []) zgw78_31 znwq186 rfl a1 rfl e1) : zex E (n + 9) (d + 1) 78 31 [some (.ref 0), some (.int l), none, none] [.int q, .int l, .ref 1] (zsetI h 1 (upd (h.2.1 1) 1 0)) = zex E (n + 8) (d + 1) 78 34 [some (.ref 0), some (.int l), none, none] [.int 1] (zsetI h 1 (upd (h.2.1 1) 1 0))).trans (((zjnT zgw78_34 (by decide)) : zex E (n + 8) (d + 1) 78 34 [some (.ref 0), some (.int l), none, none] [.int 1] (zsetI h 1 (upd (h.2.1 1) 1 0)) = zex E (n + 7) (d + 1) 78 48 [some (.ref 0), some (.int l), none, none] [] (zsetI h 1 (upd (h.2.1 1) 1 0))).trans (((yAn zgw78_48 rfl rfl) : zex E (n + 7) (d + 1) 78 48 [some (.ref 0), some (.int l), none, none] [] (zsetI h 1 (upd (h.2.1 1) 1 0)) = zex E (n + 6) (d + 1) 78 49 [some (.ref 0), some (.int l), none, none] [.ref 0] (zsetI h 1 (upd (h.2.1 1) 1 0))).trans (((zgx zgw78_49 a0 rfl) : zex E (n + 6) (d + 1) 78 49 [some (.ref 0), some (.int l), none, none] [.ref 0] (zsetI h 1 (upd (h.2.1 1) 1 0)) = zex E (n + 5) (d + 1) 78 52 [some (.ref 0), some (.int l), none, none] [.ref 3] (zsetI h 1 (upd (h.2.1 1) 1 0))).trans (((zgx zgw78_52 a3 rfl) : zex E (n + 5) (d + 1) 78 52 [some (.ref 0), some (.int l), none, none] [.ref 3] (zsetI h 1 (upd (h.2.1 1) 1 0)) = zex E (n + 4) (d + 1) 78 55 [some (.ref 0), some (.int l), none, none] [.ref 4] (zsetI h 1 (upd (h.2.1 1) 1 0))).trans (((zcvg (h := (zsetI h 1 (upd (h.2.1 1) 1 0))) (as := []) (r := []) zgw78_55 znwq172 rfl a4 rfl e2) : zex E (n + 4) (d + 1) 78 55 [some (.ref 0), some (.int l), none, none] [.ref 4] (zsetI h 1 (upd (h.2.1 1) 1 0)) = zex E (n + 3) (d + 1) 78 58 [some (.ref 0), some (.int l), none, none] [.int w] (zsetI h 1 (upd (h.2.1 1) 1 0))).trans (((ySn zgw78_58) : zex E (n + 3) (d + 1) 78 58 [some (.ref 0), some (.int l), none, none] [.int w] (zsetI h 1 (upd (h.2.1 1) 1 0)) = zex E (n + 2) (d + 1) 78 59 [some (.ref 0), some (.int l), some (.int w), none] [] (zsetI h 1 (upd (h.2.1 1) 1 0))).trans (((yCi zgw78_59) : zex E (n + 2) (d + 1) 78 59 [some (.ref 0), some (.int l), some (.int w), none] [] (zsetI h 1 (upd (h.2.1 1) 1 0)) = zex E (n + 1) (d + 1) 78 60 [some (.ref 0), some (.int l), some (.int w), none] [.int 0] (zsetI h 1 (upd (h.2.1 1) 1 0))).trans (((ySn zgw78_60) : zex E (n + 1) (d + 1) 78 60 [some (.ref 0), some (.int l), some (.int w), none] [.int 0] (zsetI h 1 (upd (h.2.1 1) 1 0)) = zex E n (d + 1) 78 61 [some (.ref 0), some (.int l), some (.int w), some (.int 0)] [] (zsetI h 1 (upd (h.2.1 1) 1 0))))))))))))))))))))))))))
set_option maxRecDepth 100000 in
theorem no_s {E : zE} {n d : Nat} {h : zH} {l w i a b v : Int32} (hi : (i + 2).toInt < l.toInt) (a0 : zat h.1 0 = some (.inr (.inl (11, [some (some 1), some (some 3), some (some 18), some (some 25), some (some 27), some (some 30), some (some 53), some (some 62), some (some 76), none])))) (a1 : zat h.1 1 = some (.inr (.inl (9, [some (some 2), none, none, none, none, none])))) (a3 : zat h.1 3 = some (.inr (.inl (2, [some (some 4), some (some 10), some (some 17)])))) (e1 : zex E (n + 9) d 187 0 [some (.ref 1), some (.int i)] [] h = some (.inl (some (.int a)), h)) (e2 : zex E (n + 5) d 188 0 [some (.ref 1), some (.int i)] [] h = some (.inl (some (.int b)), h)) (e3 : zex E (n + 4) d 126 0 [some (.ref 3), some (.ref 18), some (.int a), some (.int b), none, none] [] h = some (.inl (some (.int v)), h)) : zex E (n + 23) (d + 1) 78 61 [some (.ref 0), some (.int l), some (.int w), some (.int i)] [] h = zex E n (d + 1) 78 61 [some (.ref 0), some (.int l), some (.int (w &&& v)), some (.int (i + 3))] [] h :=
  ((yIn zgw78_61 rfl) : zex E (n + 23) (d + 1) 78 61 [some (.ref 0), some (.int l), some (.int w), some (.int i)] [] h = zex E (n + 22) (d + 1) 78 62 [some (.ref 0), some (.int l), some (.int w), some (.int i)] [.int i] h).trans (((yCi zgw78_62) : zex E (n + 22) (d + 1) 78 62 [some (.ref 0), some (.int l), some (.int w), some (.int i)] [.int i] h = zex E (n + 21) (d + 1) 78 63 [some (.ref 0), some (.int l), some (.int w), some (.int i)] [.int 2, .int i] h).trans (((yAdd zgw78_63) : zex E (n + 21) (d + 1) 78 63 [some (.ref 0), some (.int l), some (.int w), some (.int i)] [.int 2, .int i] h = zex E (n + 20) (d + 1) 78 64 [some (.ref 0), some (.int l), some (.int w), some (.int i)] [.int (i + 2)] h).trans (((yIn zgw78_64 rfl) : zex E (n + 20) (d + 1) 78 64 [some (.ref 0), some (.int l), some (.int w), some (.int i)] [.int (i + 2)] h = zex E (n + 19) (d + 1) 78 65 [some (.ref 0), some (.int l), some (.int w), some (.int i)] [.int l, .int (i + 2)] h).trans (((zkgF zgw78_65 hi) : zex E (n + 19) (d + 1) 78 65 [some (.ref 0), some (.int l), some (.int w), some (.int i)] [.int l, .int (i + 2)] h = zex E (n + 18) (d + 1) 78 68 [some (.ref 0), some (.int l), some (.int w), some (.int i)] [] h).trans (((yIn zgw78_68 rfl) : zex E (n + 18) (d + 1) 78 68 [some (.ref 0), some (.int l), some (.int w), some (.int i)] [] h = zex E (n + 17) (d + 1) 78 69 [some (.ref 0), some (.int l), some (.int w), some (.int i)] [.int w] h).trans (((yAn zgw78_69 rfl rfl) : zex E (n + 17) (d + 1) 78 69 [some (.ref 0), some (.int l), some (.int w), some (.int i)] [.int w] h = zex E (n + 16) (d + 1) 78 70 [some (.ref 0), some (.int l), some (.int w), some (.int i)] [.ref 0, .int w] h).trans (((zgx zgw78_70 a0 rfl) : zex E (n + 16) (d + 1) 78 70 [some (.ref 0), some (.int l), some (.int w), some (.int i)] [.ref 0, .int w] h = zex E (n + 15) (d + 1) 78 73 [some (.ref 0), some (.int l), some (.int w), some (.int i)] [.ref 3, .int w] h).trans (((yAn zgw78_73 rfl rfl) : zex E (n + 15) (d + 1) 78 73 [some (.ref 0), some (.int l), some (.int w), some (.int i)] [.ref 3, .int w] h = zex E (n + 14) (d + 1) 78 74 [some (.ref 0), some (.int l), some (.int w), some (.int i)] [.ref 0, .ref 3, .int w] h).trans (((zgx zgw78_74 a0 rfl) : zex E (n + 14) (d + 1) 78 74 [some (.ref 0), some (.int l), some (.int w), some (.int i)] [.ref 0, .ref 3, .int w] h = zex E (n + 13) (d + 1) 78 77 [some (.ref 0), some (.int l), some (.int w), some (.int i)] [.ref 18, .ref 3, .int w] h).trans (((yAn zgw78_77 rfl rfl) : zex E (n + 13) (d + 1) 78 77 [some (.ref 0), some (.int l), some (.int w), some (.int i)] [.ref 18, .ref 3, .int w] h = zex E (n + 12) (d + 1) 78 78 [some (.ref 0), some (.int l), some (.int w), some (.int i)] [.ref 0, .ref 18, .ref 3, .int w] h).trans (((zgx zgw78_78 a0 rfl) : zex E (n + 12) (d + 1) 78 78 [some (.ref 0), some (.int l), some (.int w), some (.int i)] [.ref 0, .ref 18, .ref 3, .int w] h = zex E (n + 11) (d + 1) 78 81 [some (.ref 0), some (.int l), some (.int w), some (.int i)] [.ref 1, .ref 18, .ref 3, .int w] h).trans (((yIn zgw78_81 rfl) : zex E (n + 11) (d + 1) 78 81 [some (.ref 0), some (.int l), some (.int w), some (.int i)] [.ref 1, .ref 18, .ref 3, .int w] h = zex E (n + 10) (d + 1) 78 82 [some (.ref 0), some (.int l), some (.int w), some (.int i)] [.int i, .ref 1, .ref 18, .ref 3, .int w] h).trans (((zcvg (h := h) (as := [.int i]) (r := [.ref 18, .ref 3, .int w]) zgw78_82 znwq187 rfl a1 rfl e1) : zex E (n + 10) (d + 1) 78 82 [some (.ref 0), some (.int l), some (.int w), some (.int i)] [.int i, .ref 1, .ref 18, .ref 3, .int w] h = zex E (n + 9) (d + 1) 78 85 [some (.ref 0), some (.int l), some (.int w), some (.int i)] [.int a, .ref 18, .ref 3, .int w] h).trans (((yAn zgw78_85 rfl rfl) : zex E (n + 9) (d + 1) 78 85 [some (.ref 0), some (.int l), some (.int w), some (.int i)] [.int a, .ref 18, .ref 3, .int w] h = zex E (n + 8) (d + 1) 78 86 [some (.ref 0), some (.int l), some (.int w), some (.int i)] [.ref 0, .int a, .ref 18, .ref 3, .int w] h).trans (((zgx zgw78_86 a0 rfl) : zex E (n + 8) (d + 1) 78 86 [some (.ref 0), some (.int l), some (.int w), some (.int i)] [.ref 0, .int a, .ref 18, .ref 3, .int w] h = zex E (n + 7) (d + 1) 78 89 [some (.ref 0), some (.int l), some (.int w), some (.int i)] [.ref 1, .int a, .ref 18, .ref 3, .int w] h).trans (((yIn zgw78_89 rfl) : zex E (n + 7) (d + 1) 78 89 [some (.ref 0), some (.int l), some (.int w), some (.int i)] [.ref 1, .int a, .ref 18, .ref 3, .int w] h = zex E (n + 6) (d + 1) 78 90 [some (.ref 0), some (.int l), some (.int w), some (.int i)] [.int i, .ref 1, .int a, .ref 18, .ref 3, .int w] h).trans (((zcvg (h := h) (as := [.int i]) (r := [.int a, .ref 18, .ref 3, .int w]) zgw78_90 znwq188 rfl a1 rfl e2) : zex E (n + 6) (d + 1) 78 90 [some (.ref 0), some (.int l), some (.int w), some (.int i)] [.int i, .ref 1, .int a, .ref 18, .ref 3, .int w] h = zex E (n + 5) (d + 1) 78 93 [some (.ref 0), some (.int l), some (.int w), some (.int i)] [.int b, .int a, .ref 18, .ref 3, .int w] h).trans (((zcvg (h := h) (as := [.ref 18, .int a, .int b]) (r := [.int w]) zgw78_93 znwq126 rfl a3 rfl e3) : zex E (n + 5) (d + 1) 78 93 [some (.ref 0), some (.int l), some (.int w), some (.int i)] [.int b, .int a, .ref 18, .ref 3, .int w] h = zex E (n + 4) (d + 1) 78 96 [some (.ref 0), some (.int l), some (.int w), some (.int i)] [.int v, .int w] h).trans (((yAnd zgw78_96) : zex E (n + 4) (d + 1) 78 96 [some (.ref 0), some (.int l), some (.int w), some (.int i)] [.int v, .int w] h = zex E (n + 3) (d + 1) 78 97 [some (.ref 0), some (.int l), some (.int w), some (.int i)] [.int (w &&& v)] h).trans (((ySn zgw78_97) : zex E (n + 3) (d + 1) 78 97 [some (.ref 0), some (.int l), some (.int w), some (.int i)] [.int (w &&& v)] h = zex E (n + 2) (d + 1) 78 98 [some (.ref 0), some (.int l), some (.int (w &&& v)), some (.int i)] [] h).trans (((yInc zgw78_98 rfl) : zex E (n + 2) (d + 1) 78 98 [some (.ref 0), some (.int l), some (.int (w &&& v)), some (.int i)] [] h = zex E (n + 1) (d + 1) 78 101 [some (.ref 0), some (.int l), some (.int (w &&& v)), some (.int (i + 3))] [] h).trans (((yGo zgw78_101) : zex E (n + 1) (d + 1) 78 101 [some (.ref 0), some (.int l), some (.int (w &&& v)), some (.int (i + 3))] [] h = zex E n (d + 1) 78 61 [some (.ref 0), some (.int l), some (.int (w &&& v)), some (.int (i + 3))] [] h)))))))))))))))))))))))
set_option maxRecDepth 100000 in
theorem no_e9 {E : zE} {n d : Nat} {h : zH} {l w i : Int32} (hi : l.toInt ≤ (i + 2).toInt)   : zex E (n + 7) d 78 61 [some (.ref 0), some (.int l), some (.int w), some (.int i)] [] h = some (.inl (some (.int w)), h) :=
  ((yIn zgw78_61 rfl) : zex E (n + 7) d 78 61 [some (.ref 0), some (.int l), some (.int w), some (.int i)] [] h = zex E (n + 6) d 78 62 [some (.ref 0), some (.int l), some (.int w), some (.int i)] [.int i] h).trans (((yCi zgw78_62) : zex E (n + 6) d 78 62 [some (.ref 0), some (.int l), some (.int w), some (.int i)] [.int i] h = zex E (n + 5) d 78 63 [some (.ref 0), some (.int l), some (.int w), some (.int i)] [.int 2, .int i] h).trans (((yAdd zgw78_63) : zex E (n + 5) d 78 63 [some (.ref 0), some (.int l), some (.int w), some (.int i)] [.int 2, .int i] h = zex E (n + 4) d 78 64 [some (.ref 0), some (.int l), some (.int w), some (.int i)] [.int (i + 2)] h).trans (((yIn zgw78_64 rfl) : zex E (n + 4) d 78 64 [some (.ref 0), some (.int l), some (.int w), some (.int i)] [.int (i + 2)] h = zex E (n + 3) d 78 65 [some (.ref 0), some (.int l), some (.int w), some (.int i)] [.int l, .int (i + 2)] h).trans (((zkgT zgw78_65 hi) : zex E (n + 3) d 78 65 [some (.ref 0), some (.int l), some (.int w), some (.int i)] [.int l, .int (i + 2)] h = zex E (n + 2) d 78 104 [some (.ref 0), some (.int l), some (.int w), some (.int i)] [] h).trans (((yIn zgw78_104 rfl) : zex E (n + 2) d 78 104 [some (.ref 0), some (.int l), some (.int w), some (.int i)] [] h = zex E (n + 1) d 78 105 [some (.ref 0), some (.int l), some (.int w), some (.int i)] [.int w] h).trans (((yRet1 zgw78_105 rfl) : zex E (n + 1) d 78 105 [some (.ref 0), some (.int l), some (.int w), some (.int i)] [.int w] h = some (.inl (some (.int w)), h))))))))
set_option maxRecDepth 100000 in
theorem nc_0 {E : zE} {n d : Nat} {h h1 : zH} {z : Int32}  (a0 : zat h.1 0 = some (.inr (.inl (11, [some (some 1), some (some 3), some (some 18), some (some 25), some (some 27), some (some 30), some (some 53), some (some 62), some (some 76), none])))) (a94_h1 : zat h1.1 94 = some (.inl (2, 1, []))) (e1 : zex E (n + 5) d 78 0 [some (.ref 0), none, none, none] [] h = some (.inl (some (.int z)), h1)) : zex E (n + 9) (d + 1) 35 0 [some (.ref 0), some (.ref 94), none] [] h = some (.inl (some (.int 0)), (zsetJ h1 94 (vp_updL (h1.2.2.1 94) 0 ((z).toInt64)))) :=
  ((yAn zgw35_0 rfl rfl) : zex E (n + 9) (d + 1) 35 0 [some (.ref 0), some (.ref 94), none] [] h = zex E (n + 8) (d + 1) 35 1 [some (.ref 0), some (.ref 94), none] [.ref 94] h).trans (((yCi zgw35_1) : zex E (n + 8) (d + 1) 35 1 [some (.ref 0), some (.ref 94), none] [.ref 94] h = zex E (n + 7) (d + 1) 35 2 [some (.ref 0), some (.ref 94), none] [.int 0, .ref 94] h).trans (((yAn zgw35_2 rfl rfl) : zex E (n + 7) (d + 1) 35 2 [some (.ref 0), some (.ref 94), none] [.int 0, .ref 94] h = zex E (n + 6) (d + 1) 35 3 [some (.ref 0), some (.ref 94), none] [.ref 0, .int 0, .ref 94] h).trans (((zcvg (h := h) (as := []) (r := [.int 0, .ref 94]) zgw35_3 znwq78 rfl a0 rfl e1) : zex E (n + 6) (d + 1) 35 3 [some (.ref 0), some (.ref 94), none] [.ref 0, .int 0, .ref 94] h = zex E (n + 5) (d + 1) 35 6 [some (.ref 0), some (.ref 94), none] [.int z, .int 0, .ref 94] h1).trans (((yI2l zgw35_6) : zex E (n + 5) (d + 1) 35 6 [some (.ref 0), some (.ref 94), none] [.int z, .int 0, .ref 94] h1 = zex E (n + 4) (d + 1) 35 7 [some (.ref 0), some (.ref 94), none] [.long (z).toInt64, .int 0, .ref 94] h1).trans (((zsj zgw35_7 a94_h1 (zi0 : (0 : Int32).toInt = ((0 : Nat) : Int)) (by decide)) : zex E (n + 4) (d + 1) 35 7 [some (.ref 0), some (.ref 94), none] [.long (z).toInt64, .int 0, .ref 94] h1 = zex E (n + 3) (d + 1) 35 8 [some (.ref 0), some (.ref 94), none] [] (zsetJ h1 94 (vp_updL (h1.2.2.1 94) 0 ((z).toInt64)))).trans (((yGo zgw35_8) : zex E (n + 3) (d + 1) 35 8 [some (.ref 0), some (.ref 94), none] [] (zsetJ h1 94 (vp_updL (h1.2.2.1 94) 0 ((z).toInt64))) = zex E (n + 2) (d + 1) 35 14 [some (.ref 0), some (.ref 94), none] [] (zsetJ h1 94 (vp_updL (h1.2.2.1 94) 0 ((z).toInt64)))).trans (((yCi zgw35_14) : zex E (n + 2) (d + 1) 35 14 [some (.ref 0), some (.ref 94), none] [] (zsetJ h1 94 (vp_updL (h1.2.2.1 94) 0 ((z).toInt64))) = zex E (n + 1) (d + 1) 35 15 [some (.ref 0), some (.ref 94), none] [.int 0] (zsetJ h1 94 (vp_updL (h1.2.2.1 94) 0 ((z).toInt64)))).trans (((yRet1 zgw35_15 rfl) : zex E (n + 1) (d + 1) 35 15 [some (.ref 0), some (.ref 94), none] [.int 0] (zsetJ h1 94 (vp_updL (h1.2.2.1 94) 0 ((z).toInt64))) = some (.inl (some (.int 0)), (zsetJ h1 94 (vp_updL (h1.2.2.1 94) 0 ((z).toInt64)))))))))))))
set_option maxRecDepth 100000 in
theorem nc_1 {E : zE} {n d : Nat} {h h1 : zH}   (a0 : zat h.1 0 = some (.inr (.inl (11, [some (some 1), some (some 3), some (some 18), some (some 25), some (some 27), some (some 30), some (some 53), some (some 62), some (some 76), none])))) (e1 : zex E (n + 3) d 78 0 [some (.ref 0), none, none, none] [] h = some (.inr 0, h1)) : zex E (n + 7) (d + 1) 35 0 [some (.ref 0), some (.ref 94), none] [] h = some (.inl (some (.int 1)), h1) :=
  ((yAn zgw35_0 rfl rfl) : zex E (n + 7) (d + 1) 35 0 [some (.ref 0), some (.ref 94), none] [] h = zex E (n + 6) (d + 1) 35 1 [some (.ref 0), some (.ref 94), none] [.ref 94] h).trans (((yCi zgw35_1) : zex E (n + 6) (d + 1) 35 1 [some (.ref 0), some (.ref 94), none] [.ref 94] h = zex E (n + 5) (d + 1) 35 2 [some (.ref 0), some (.ref 94), none] [.int 0, .ref 94] h).trans (((yAn zgw35_2 rfl rfl) : zex E (n + 5) (d + 1) 35 2 [some (.ref 0), some (.ref 94), none] [.int 0, .ref 94] h = zex E (n + 4) (d + 1) 35 3 [some (.ref 0), some (.ref 94), none] [.ref 0, .int 0, .ref 94] h).trans (((zcvt (h := h) (as := []) (r := [.int 0, .ref 94]) zgw35_3 znwq78 rfl a0 rfl rfl rfl rfl e1) : zex E (n + 4) (d + 1) 35 3 [some (.ref 0), some (.ref 94), none] [.ref 0, .int 0, .ref 94] h = zex E (n + 3) (d + 1) 35 11 [some (.ref 0), some (.ref 94), none] [.double 0] h1).trans (((yDnd zgw35_11) : zex E (n + 3) (d + 1) 35 11 [some (.ref 0), some (.ref 94), none] [.double 0] h1 = zex E (n + 2) (d + 1) 35 12 [some (.ref 0), some (.ref 94), some (.double 0)] [] h1).trans (((yCi zgw35_12) : zex E (n + 2) (d + 1) 35 12 [some (.ref 0), some (.ref 94), some (.double 0)] [] h1 = zex E (n + 1) (d + 1) 35 13 [some (.ref 0), some (.ref 94), some (.double 0)] [.int 1] h1).trans (((yRet1 zgw35_13 rfl) : zex E (n + 1) (d + 1) 35 13 [some (.ref 0), some (.ref 94), some (.double 0)] [.int 1] h1 = some (.inl (some (.int 1)), h1))))))))
set_option maxRecDepth 100000 in
theorem nmx_i {E : zE} {n d : Nat} {h : zH} {p k l a w : Int32} (hl : l ≠ 0) (a84 : zat h.1 84 = some (.inr (.inl (12, [none, some (some 85), some (some 86), some (some 87), some (some 88), some (some 89), none, none, some (some 90), none, none, none, none, none, none, some (some 91), none, some (some 92), some (some 93)])))) (e1 : zex E (n + 19) d 221 0 [some (.ref 84), some (.int p), some (.int 3)] [] h = some (.inl (some (.int l)), h)) (e2 : zex E (n + 11) d 221 0 [some (.ref 84), some (.int p), some (.int 0)] [] h = some (.inl (some (.int a)), h)) (e3 : zex E (n + 1) d 221 0 [some (.ref 84), some (.int p), some (.int (4 + ((((a + k) - (a + k) / l * l) + l) - (((a + k) - (a + k) / l * l) + l) / l * l)))] [] h = some (.inl (some (.int w)), h)) : zex E (n + 23) (d + 1) 327 0 [some (.ref 84), some (.int p), some (.int k), none] [] h = some (.inl (some (.int w)), h) :=
  ((yAn zgw327_0 rfl rfl) : zex E (n + 23) (d + 1) 327 0 [some (.ref 84), some (.int p), some (.int k), none] [] h = zex E (n + 22) (d + 1) 327 1 [some (.ref 84), some (.int p), some (.int k), none] [.ref 84] h).trans (((yIn zgw327_1 rfl) : zex E (n + 22) (d + 1) 327 1 [some (.ref 84), some (.int p), some (.int k), none] [.ref 84] h = zex E (n + 21) (d + 1) 327 2 [some (.ref 84), some (.int p), some (.int k), none] [.int p, .ref 84] h).trans (((yCi zgw327_2) : zex E (n + 21) (d + 1) 327 2 [some (.ref 84), some (.int p), some (.int k), none] [.int p, .ref 84] h = zex E (n + 20) (d + 1) 327 3 [some (.ref 84), some (.int p), some (.int k), none] [.int 3, .int p, .ref 84] h).trans (((zcvg (h := h) (as := [.int p, .int 3]) (r := []) zgw327_3 znwq221 rfl a84 rfl e1) : zex E (n + 20) (d + 1) 327 3 [some (.ref 84), some (.int p), some (.int k), none] [.int 3, .int p, .ref 84] h = zex E (n + 19) (d + 1) 327 6 [some (.ref 84), some (.int p), some (.int k), none] [.int l] h).trans (((ySn zgw327_6) : zex E (n + 19) (d + 1) 327 6 [some (.ref 84), some (.int p), some (.int k), none] [.int l] h = zex E (n + 18) (d + 1) 327 7 [some (.ref 84), some (.int p), some (.int k), some (.int l)] [] h).trans (((yAn zgw327_7 rfl rfl) : zex E (n + 18) (d + 1) 327 7 [some (.ref 84), some (.int p), some (.int k), some (.int l)] [] h = zex E (n + 17) (d + 1) 327 8 [some (.ref 84), some (.int p), some (.int k), some (.int l)] [.ref 84] h).trans (((yIn zgw327_8 rfl) : zex E (n + 17) (d + 1) 327 8 [some (.ref 84), some (.int p), some (.int k), some (.int l)] [.ref 84] h = zex E (n + 16) (d + 1) 327 9 [some (.ref 84), some (.int p), some (.int k), some (.int l)] [.int p, .ref 84] h).trans (((yCi zgw327_9) : zex E (n + 16) (d + 1) 327 9 [some (.ref 84), some (.int p), some (.int k), some (.int l)] [.int p, .ref 84] h = zex E (n + 15) (d + 1) 327 10 [some (.ref 84), some (.int p), some (.int k), some (.int l)] [.int 4, .int p, .ref 84] h).trans (((yAn zgw327_10 rfl rfl) : zex E (n + 15) (d + 1) 327 10 [some (.ref 84), some (.int p), some (.int k), some (.int l)] [.int 4, .int p, .ref 84] h = zex E (n + 14) (d + 1) 327 11 [some (.ref 84), some (.int p), some (.int k), some (.int l)] [.ref 84, .int 4, .int p, .ref 84] h).trans (((yIn zgw327_11 rfl) : zex E (n + 14) (d + 1) 327 11 [some (.ref 84), some (.int p), some (.int k), some (.int l)] [.ref 84, .int 4, .int p, .ref 84] h = zex E (n + 13) (d + 1) 327 12 [some (.ref 84), some (.int p), some (.int k), some (.int l)] [.int p, .ref 84, .int 4, .int p, .ref 84] h).trans (((yCi zgw327_12) : zex E (n + 13) (d + 1) 327 12 [some (.ref 84), some (.int p), some (.int k), some (.int l)] [.int p, .ref 84, .int 4, .int p, .ref 84] h = zex E (n + 12) (d + 1) 327 13 [some (.ref 84), some (.int p), some (.int k), some (.int l)] [.int 0, .int p, .ref 84, .int 4, .int p, .ref 84] h).trans (((zcvg (h := h) (as := [.int p, .int 0]) (r := [.int 4, .int p, .ref 84]) zgw327_13 znwq221 rfl a84 rfl e2) : zex E (n + 12) (d + 1) 327 13 [some (.ref 84), some (.int p), some (.int k), some (.int l)] [.int 0, .int p, .ref 84, .int 4, .int p, .ref 84] h = zex E (n + 11) (d + 1) 327 16 [some (.ref 84), some (.int p), some (.int k), some (.int l)] [.int a, .int 4, .int p, .ref 84] h).trans (((yIn zgw327_16 rfl) : zex E (n + 11) (d + 1) 327 16 [some (.ref 84), some (.int p), some (.int k), some (.int l)] [.int a, .int 4, .int p, .ref 84] h = zex E (n + 10) (d + 1) 327 17 [some (.ref 84), some (.int p), some (.int k), some (.int l)] [.int k, .int a, .int 4, .int p, .ref 84] h).trans (((yAdd zgw327_17) : zex E (n + 10) (d + 1) 327 17 [some (.ref 84), some (.int p), some (.int k), some (.int l)] [.int k, .int a, .int 4, .int p, .ref 84] h = zex E (n + 9) (d + 1) 327 18 [some (.ref 84), some (.int p), some (.int k), some (.int l)] [.int (a + k), .int 4, .int p, .ref 84] h).trans (((yIn zgw327_18 rfl) : zex E (n + 9) (d + 1) 327 18 [some (.ref 84), some (.int p), some (.int k), some (.int l)] [.int (a + k), .int 4, .int p, .ref 84] h = zex E (n + 8) (d + 1) 327 19 [some (.ref 84), some (.int p), some (.int k), some (.int l)] [.int l, .int (a + k), .int 4, .int p, .ref 84] h).trans (((yRem zgw327_19 hl) : zex E (n + 8) (d + 1) 327 19 [some (.ref 84), some (.int p), some (.int k), some (.int l)] [.int l, .int (a + k), .int 4, .int p, .ref 84] h = zex E (n + 7) (d + 1) 327 20 [some (.ref 84), some (.int p), some (.int k), some (.int l)] [.int ((a + k) - (a + k) / l * l), .int 4, .int p, .ref 84] h).trans (((yIn zgw327_20 rfl) : zex E (n + 7) (d + 1) 327 20 [some (.ref 84), some (.int p), some (.int k), some (.int l)] [.int ((a + k) - (a + k) / l * l), .int 4, .int p, .ref 84] h = zex E (n + 6) (d + 1) 327 21 [some (.ref 84), some (.int p), some (.int k), some (.int l)] [.int l, .int ((a + k) - (a + k) / l * l), .int 4, .int p, .ref 84] h).trans (((yAdd zgw327_21) : zex E (n + 6) (d + 1) 327 21 [some (.ref 84), some (.int p), some (.int k), some (.int l)] [.int l, .int ((a + k) - (a + k) / l * l), .int 4, .int p, .ref 84] h = zex E (n + 5) (d + 1) 327 22 [some (.ref 84), some (.int p), some (.int k), some (.int l)] [.int (((a + k) - (a + k) / l * l) + l), .int 4, .int p, .ref 84] h).trans (((yIn zgw327_22 rfl) : zex E (n + 5) (d + 1) 327 22 [some (.ref 84), some (.int p), some (.int k), some (.int l)] [.int (((a + k) - (a + k) / l * l) + l), .int 4, .int p, .ref 84] h = zex E (n + 4) (d + 1) 327 23 [some (.ref 84), some (.int p), some (.int k), some (.int l)] [.int l, .int (((a + k) - (a + k) / l * l) + l), .int 4, .int p, .ref 84] h).trans (((yRem zgw327_23 hl) : zex E (n + 4) (d + 1) 327 23 [some (.ref 84), some (.int p), some (.int k), some (.int l)] [.int l, .int (((a + k) - (a + k) / l * l) + l), .int 4, .int p, .ref 84] h = zex E (n + 3) (d + 1) 327 24 [some (.ref 84), some (.int p), some (.int k), some (.int l)] [.int ((((a + k) - (a + k) / l * l) + l) - (((a + k) - (a + k) / l * l) + l) / l * l), .int 4, .int p, .ref 84] h).trans (((yAdd zgw327_24) : zex E (n + 3) (d + 1) 327 24 [some (.ref 84), some (.int p), some (.int k), some (.int l)] [.int ((((a + k) - (a + k) / l * l) + l) - (((a + k) - (a + k) / l * l) + l) / l * l), .int 4, .int p, .ref 84] h = zex E (n + 2) (d + 1) 327 25 [some (.ref 84), some (.int p), some (.int k), some (.int l)] [.int (4 + ((((a + k) - (a + k) / l * l) + l) - (((a + k) - (a + k) / l * l) + l) / l * l)), .int p, .ref 84] h).trans (((zcvg (h := h) (as := [.int p, .int (4 + ((((a + k) - (a + k) / l * l) + l) - (((a + k) - (a + k) / l * l) + l) / l * l))]) (r := []) zgw327_25 znwq221 rfl a84 rfl e3) : zex E (n + 2) (d + 1) 327 25 [some (.ref 84), some (.int p), some (.int k), some (.int l)] [.int (4 + ((((a + k) - (a + k) / l * l) + l) - (((a + k) - (a + k) / l * l) + l) / l * l)), .int p, .ref 84] h = zex E (n + 1) (d + 1) 327 28 [some (.ref 84), some (.int p), some (.int k), some (.int l)] [.int w] h).trans (((yRet1 zgw327_28 rfl) : zex E (n + 1) (d + 1) 327 28 [some (.ref 84), some (.int p), some (.int k), some (.int l)] [.int w] h = some (.inl (some (.int w)), h))))))))))))))))))))))))
set_option maxRecDepth 100000 in
theorem nmx_r {E : zE} {n d : Nat} {h : zH} {i t u : Int32} {J M : Nat} (h1 : (i + 1).toInt = (J : Int)) (h14 : J < 400) (ht : h.2.1 90 J = t) (h2 : (i + 2).toInt = (M : Int)) (h24 : M < 400) (hu : h.2.1 90 M = u) (a84 : zat h.1 84 = some (.inr (.inl (12, [none, some (some 85), some (some 86), some (some 87), some (some 88), some (some 89), none, none, some (some 90), none, none, none, none, none, none, some (some 91), none, some (some 92), some (some 93)])))) (a90 : zat h.1 90 = some (.inl (1, 400, [])))  : zex E (n + 20) d 329 0 [some (.ref 84), some (.int i)] [] h = some (.inl (some (.int (((t &&& 255) <<< (8 &&& 31)) ||| (u &&& 255)))), h) :=
  ((yAn zgw329_0 rfl rfl) : zex E (n + 20) d 329 0 [some (.ref 84), some (.int i)] [] h = zex E (n + 19) d 329 1 [some (.ref 84), some (.int i)] [.ref 84] h).trans (((zgx zgw329_1 a84 rfl) : zex E (n + 19) d 329 1 [some (.ref 84), some (.int i)] [.ref 84] h = zex E (n + 18) d 329 4 [some (.ref 84), some (.int i)] [.ref 90] h).trans (((yIn zgw329_4 rfl) : zex E (n + 18) d 329 4 [some (.ref 84), some (.int i)] [.ref 90] h = zex E (n + 17) d 329 5 [some (.ref 84), some (.int i)] [.int i, .ref 90] h).trans (((yCi zgw329_5) : zex E (n + 17) d 329 5 [some (.ref 84), some (.int i)] [.int i, .ref 90] h = zex E (n + 16) d 329 6 [some (.ref 84), some (.int i)] [.int 1, .int i, .ref 90] h).trans (((yAdd zgw329_6) : zex E (n + 16) d 329 6 [some (.ref 84), some (.int i)] [.int 1, .int i, .ref 90] h = zex E (n + 15) d 329 7 [some (.ref 84), some (.int i)] [.int (i + 1), .ref 90] h).trans (((zlb zgw329_7 a90 h1 h14 ht) : zex E (n + 15) d 329 7 [some (.ref 84), some (.int i)] [.int (i + 1), .ref 90] h = zex E (n + 14) d 329 8 [some (.ref 84), some (.int i)] [.int t] h).trans (((yCs zgw329_8) : zex E (n + 14) d 329 8 [some (.ref 84), some (.int i)] [.int t] h = zex E (n + 13) d 329 11 [some (.ref 84), some (.int i)] [.int 255, .int t] h).trans (((yAnd zgw329_11) : zex E (n + 13) d 329 11 [some (.ref 84), some (.int i)] [.int 255, .int t] h = zex E (n + 12) d 329 12 [some (.ref 84), some (.int i)] [.int (t &&& 255)] h).trans (((yCb zgw329_12) : zex E (n + 12) d 329 12 [some (.ref 84), some (.int i)] [.int (t &&& 255)] h = zex E (n + 11) d 329 14 [some (.ref 84), some (.int i)] [.int 8, .int (t &&& 255)] h).trans (((yShl zgw329_14) : zex E (n + 11) d 329 14 [some (.ref 84), some (.int i)] [.int 8, .int (t &&& 255)] h = zex E (n + 10) d 329 15 [some (.ref 84), some (.int i)] [.int ((t &&& 255) <<< (8 &&& 31))] h).trans (((yAn zgw329_15 rfl rfl) : zex E (n + 10) d 329 15 [some (.ref 84), some (.int i)] [.int ((t &&& 255) <<< (8 &&& 31))] h = zex E (n + 9) d 329 16 [some (.ref 84), some (.int i)] [.ref 84, .int ((t &&& 255) <<< (8 &&& 31))] h).trans (((zgx zgw329_16 a84 rfl) : zex E (n + 9) d 329 16 [some (.ref 84), some (.int i)] [.ref 84, .int ((t &&& 255) <<< (8 &&& 31))] h = zex E (n + 8) d 329 19 [some (.ref 84), some (.int i)] [.ref 90, .int ((t &&& 255) <<< (8 &&& 31))] h).trans (((yIn zgw329_19 rfl) : zex E (n + 8) d 329 19 [some (.ref 84), some (.int i)] [.ref 90, .int ((t &&& 255) <<< (8 &&& 31))] h = zex E (n + 7) d 329 20 [some (.ref 84), some (.int i)] [.int i, .ref 90, .int ((t &&& 255) <<< (8 &&& 31))] h).trans (((yCi zgw329_20) : zex E (n + 7) d 329 20 [some (.ref 84), some (.int i)] [.int i, .ref 90, .int ((t &&& 255) <<< (8 &&& 31))] h = zex E (n + 6) d 329 21 [some (.ref 84), some (.int i)] [.int 2, .int i, .ref 90, .int ((t &&& 255) <<< (8 &&& 31))] h).trans (((yAdd zgw329_21) : zex E (n + 6) d 329 21 [some (.ref 84), some (.int i)] [.int 2, .int i, .ref 90, .int ((t &&& 255) <<< (8 &&& 31))] h = zex E (n + 5) d 329 22 [some (.ref 84), some (.int i)] [.int (i + 2), .ref 90, .int ((t &&& 255) <<< (8 &&& 31))] h).trans (((zlb zgw329_22 a90 h2 h24 hu) : zex E (n + 5) d 329 22 [some (.ref 84), some (.int i)] [.int (i + 2), .ref 90, .int ((t &&& 255) <<< (8 &&& 31))] h = zex E (n + 4) d 329 23 [some (.ref 84), some (.int i)] [.int u, .int ((t &&& 255) <<< (8 &&& 31))] h).trans (((yCs zgw329_23) : zex E (n + 4) d 329 23 [some (.ref 84), some (.int i)] [.int u, .int ((t &&& 255) <<< (8 &&& 31))] h = zex E (n + 3) d 329 26 [some (.ref 84), some (.int i)] [.int 255, .int u, .int ((t &&& 255) <<< (8 &&& 31))] h).trans (((yAnd zgw329_26) : zex E (n + 3) d 329 26 [some (.ref 84), some (.int i)] [.int 255, .int u, .int ((t &&& 255) <<< (8 &&& 31))] h = zex E (n + 2) d 329 27 [some (.ref 84), some (.int i)] [.int (u &&& 255), .int ((t &&& 255) <<< (8 &&& 31))] h).trans (((yOr zgw329_27) : zex E (n + 2) d 329 27 [some (.ref 84), some (.int i)] [.int (u &&& 255), .int ((t &&& 255) <<< (8 &&& 31))] h = zex E (n + 1) d 329 28 [some (.ref 84), some (.int i)] [.int (((t &&& 255) <<< (8 &&& 31)) ||| (u &&& 255))] h).trans (((yRet1 zgw329_28 rfl) : zex E (n + 1) d 329 28 [some (.ref 84), some (.int i)] [.int (((t &&& 255) <<< (8 &&& 31)) ||| (u &&& 255))] h = some (.inl (some (.int (((t &&& 255) <<< (8 &&& 31)) ||| (u &&& 255)))), h)))))))))))))))))))))
set_option maxRecDepth 100000 in
theorem nmx_1 {E : zE} {n d : Nat} {h h1 : zH} {l : Int32} (hl : h1.2.1 84 11 = l) (hz : (l - l / 3 * 3).toInt = 0) (a84 : zat h.1 84 = some (.inr (.inl (12, [none, some (some 85), some (some 86), some (some 87), some (some 88), some (some 89), none, none, some (some 90), none, none, none, none, none, none, some (some 91), none, some (some 92), some (some 93)])))) (a84_h1 : zat h1.1 84 = some (.inr (.inl (12, [none, some (some 85), some (some 86), some (some 87), some (some 88), some (some 89), none, none, some (some 90), none, none, none, none, none, none, some (some 91), none, some (some 92), some (some 93)])))) (e1 : zex E (n + 10) d 244 0 [some (.ref 84)] [] h = some (.inl none, h1)) : zex E (n + 12) (d + 1) 330 0 [some (.ref 84), none, none, none, none] [] h = zex E n (d + 1) 330 21 [some (.ref 84), some (.int 1), some (.int 0), none, none] [] h1 :=
  ((yAn zgw330_0 rfl rfl) : zex E (n + 12) (d + 1) 330 0 [some (.ref 84), none, none, none, none] [] h = zex E (n + 11) (d + 1) 330 1 [some (.ref 84), none, none, none, none] [.ref 84] h).trans (((zcvg (v := none) (h := h) (as := []) (r := []) zgw330_1 znwq244 rfl a84 rfl e1) : zex E (n + 11) (d + 1) 330 1 [some (.ref 84), none, none, none, none] [.ref 84] h = zex E (n + 10) (d + 1) 330 4 [some (.ref 84), none, none, none, none] [] h1).trans (((yAn zgw330_4 rfl rfl) : zex E (n + 10) (d + 1) 330 4 [some (.ref 84), none, none, none, none] [] h1 = zex E (n + 9) (d + 1) 330 5 [some (.ref 84), none, none, none, none] [.ref 84] h1).trans (((zgk zgw330_5 a84_h1 rfl hl) : zex E (n + 9) (d + 1) 330 5 [some (.ref 84), none, none, none, none] [.ref 84] h1 = zex E (n + 8) (d + 1) 330 8 [some (.ref 84), none, none, none, none] [.int l] h1).trans (((yCi zgw330_8) : zex E (n + 8) (d + 1) 330 8 [some (.ref 84), none, none, none, none] [.int l] h1 = zex E (n + 7) (d + 1) 330 9 [some (.ref 84), none, none, none, none] [.int 3, .int l] h1).trans (((yRem zgw330_9 (by decide)) : zex E (n + 7) (d + 1) 330 9 [some (.ref 84), none, none, none, none] [.int 3, .int l] h1 = zex E (n + 6) (d + 1) 330 10 [some (.ref 84), none, none, none, none] [.int (l - l / 3 * 3)] h1).trans (((zjnF zgw330_10 hz) : zex E (n + 6) (d + 1) 330 10 [some (.ref 84), none, none, none, none] [.int (l - l / 3 * 3)] h1 = zex E (n + 5) (d + 1) 330 13 [some (.ref 84), none, none, none, none] [] h1).trans (((yCi zgw330_13) : zex E (n + 5) (d + 1) 330 13 [some (.ref 84), none, none, none, none] [] h1 = zex E (n + 4) (d + 1) 330 14 [some (.ref 84), none, none, none, none] [.int 1] h1).trans (((yGo zgw330_14) : zex E (n + 4) (d + 1) 330 14 [some (.ref 84), none, none, none, none] [.int 1] h1 = zex E (n + 3) (d + 1) 330 18 [some (.ref 84), none, none, none, none] [.int 1] h1).trans (((ySn zgw330_18) : zex E (n + 3) (d + 1) 330 18 [some (.ref 84), none, none, none, none] [.int 1] h1 = zex E (n + 2) (d + 1) 330 19 [some (.ref 84), some (.int 1), none, none, none] [] h1).trans (((yCi zgw330_19) : zex E (n + 2) (d + 1) 330 19 [some (.ref 84), some (.int 1), none, none, none] [] h1 = zex E (n + 1) (d + 1) 330 20 [some (.ref 84), some (.int 1), none, none, none] [.int 0] h1).trans (((ySn zgw330_20) : zex E (n + 1) (d + 1) 330 20 [some (.ref 84), some (.int 1), none, none, none] [.int 0] h1 = zex E n (d + 1) 330 21 [some (.ref 84), some (.int 1), some (.int 0), none, none] [] h1))))))))))))
set_option maxRecDepth 100000 in
theorem nmx_0 {E : zE} {n d : Nat} {h h1 : zH} {l : Int32} (hl : h1.2.1 84 11 = l) (hz : (l - l / 3 * 3).toInt ≠ 0) (a84 : zat h.1 84 = some (.inr (.inl (12, [none, some (some 85), some (some 86), some (some 87), some (some 88), some (some 89), none, none, some (some 90), none, none, none, none, none, none, some (some 91), none, some (some 92), some (some 93)])))) (a84_h1 : zat h1.1 84 = some (.inr (.inl (12, [none, some (some 85), some (some 86), some (some 87), some (some 88), some (some 89), none, none, some (some 90), none, none, none, none, none, none, some (some 91), none, some (some 92), some (some 93)])))) (e1 : zex E (n + 9) d 244 0 [some (.ref 84)] [] h = some (.inl none, h1)) : zex E (n + 11) (d + 1) 330 0 [some (.ref 84), none, none, none, none] [] h = zex E n (d + 1) 330 21 [some (.ref 84), some (.int 0), some (.int 0), none, none] [] h1 :=
  ((yAn zgw330_0 rfl rfl) : zex E (n + 11) (d + 1) 330 0 [some (.ref 84), none, none, none, none] [] h = zex E (n + 10) (d + 1) 330 1 [some (.ref 84), none, none, none, none] [.ref 84] h).trans (((zcvg (v := none) (h := h) (as := []) (r := []) zgw330_1 znwq244 rfl a84 rfl e1) : zex E (n + 10) (d + 1) 330 1 [some (.ref 84), none, none, none, none] [.ref 84] h = zex E (n + 9) (d + 1) 330 4 [some (.ref 84), none, none, none, none] [] h1).trans (((yAn zgw330_4 rfl rfl) : zex E (n + 9) (d + 1) 330 4 [some (.ref 84), none, none, none, none] [] h1 = zex E (n + 8) (d + 1) 330 5 [some (.ref 84), none, none, none, none] [.ref 84] h1).trans (((zgk zgw330_5 a84_h1 rfl hl) : zex E (n + 8) (d + 1) 330 5 [some (.ref 84), none, none, none, none] [.ref 84] h1 = zex E (n + 7) (d + 1) 330 8 [some (.ref 84), none, none, none, none] [.int l] h1).trans (((yCi zgw330_8) : zex E (n + 7) (d + 1) 330 8 [some (.ref 84), none, none, none, none] [.int l] h1 = zex E (n + 6) (d + 1) 330 9 [some (.ref 84), none, none, none, none] [.int 3, .int l] h1).trans (((yRem zgw330_9 (by decide)) : zex E (n + 6) (d + 1) 330 9 [some (.ref 84), none, none, none, none] [.int 3, .int l] h1 = zex E (n + 5) (d + 1) 330 10 [some (.ref 84), none, none, none, none] [.int (l - l / 3 * 3)] h1).trans (((zjnT zgw330_10 hz) : zex E (n + 5) (d + 1) 330 10 [some (.ref 84), none, none, none, none] [.int (l - l / 3 * 3)] h1 = zex E (n + 4) (d + 1) 330 17 [some (.ref 84), none, none, none, none] [] h1).trans (((yCi zgw330_17) : zex E (n + 4) (d + 1) 330 17 [some (.ref 84), none, none, none, none] [] h1 = zex E (n + 3) (d + 1) 330 18 [some (.ref 84), none, none, none, none] [.int 0] h1).trans (((ySn zgw330_18) : zex E (n + 3) (d + 1) 330 18 [some (.ref 84), none, none, none, none] [.int 0] h1 = zex E (n + 2) (d + 1) 330 19 [some (.ref 84), some (.int 0), none, none, none] [] h1).trans (((yCi zgw330_19) : zex E (n + 2) (d + 1) 330 19 [some (.ref 84), some (.int 0), none, none, none] [] h1 = zex E (n + 1) (d + 1) 330 20 [some (.ref 84), some (.int 0), none, none, none] [.int 0] h1).trans (((ySn zgw330_20) : zex E (n + 1) (d + 1) 330 20 [some (.ref 84), some (.int 0), none, none, none] [.int 0] h1 = zex E n (d + 1) 330 21 [some (.ref 84), some (.int 0), some (.int 0), none, none] [] h1)))))))))))
set_option maxRecDepth 100000 in
theorem nmx_e {E : zE} {n d : Nat} {h : zH} {k l t v s : Int32} {J : Nat} {u3 u4 : Option Value} (hl : h.2.1 84 11 = l) (hk : l.toInt ≤ (k + 2).toInt) (a84 : zat h.1 84 = some (.inr (.inl (12, [none, some (some 85), some (some 86), some (some 87), some (some 88), some (some 89), none, none, some (some 90), none, none, none, none, none, none, some (some 91), none, some (some 92), some (some 93)]))))  : zex E (n + 6) d 330 21 [some (.ref 84), some (.int s), some (.int k), u3, u4] [] h = zex E n d 330 74 [some (.ref 84), some (.int s), some (.int k), u3, u4] [] h :=
  ((yIn zgw330_21 rfl) : zex E (n + 6) d 330 21 [some (.ref 84), some (.int s), some (.int k), u3, u4] [] h = zex E (n + 5) d 330 22 [some (.ref 84), some (.int s), some (.int k), u3, u4] [.int k] h).trans (((yCi zgw330_22) : zex E (n + 5) d 330 22 [some (.ref 84), some (.int s), some (.int k), u3, u4] [.int k] h = zex E (n + 4) d 330 23 [some (.ref 84), some (.int s), some (.int k), u3, u4] [.int 2, .int k] h).trans (((yAdd zgw330_23) : zex E (n + 4) d 330 23 [some (.ref 84), some (.int s), some (.int k), u3, u4] [.int 2, .int k] h = zex E (n + 3) d 330 24 [some (.ref 84), some (.int s), some (.int k), u3, u4] [.int (k + 2)] h).trans (((yAn zgw330_24 rfl rfl) : zex E (n + 3) d 330 24 [some (.ref 84), some (.int s), some (.int k), u3, u4] [.int (k + 2)] h = zex E (n + 2) d 330 25 [some (.ref 84), some (.int s), some (.int k), u3, u4] [.ref 84, .int (k + 2)] h).trans (((zgk zgw330_25 a84 rfl hl) : zex E (n + 2) d 330 25 [some (.ref 84), some (.int s), some (.int k), u3, u4] [.ref 84, .int (k + 2)] h = zex E (n + 1) d 330 28 [some (.ref 84), some (.int s), some (.int k), u3, u4] [.int l, .int (k + 2)] h).trans (((zkgT zgw330_28 hk) : zex E (n + 1) d 330 28 [some (.ref 84), some (.int s), some (.int k), u3, u4] [.int l, .int (k + 2)] h = zex E n d 330 74 [some (.ref 84), some (.int s), some (.int k), u3, u4] [] h))))))
set_option maxRecDepth 100000 in
theorem nmx_x {E : zE} {n d : Nat} {h : zH} {k l t v s : Int32} {J : Nat} {u3 u4 : Option Value} (hl : h.2.1 84 11 = l) (hk : (k + 2).toInt < l.toInt) (a84 : zat h.1 84 = some (.inr (.inl (12, [none, some (some 85), some (some 86), some (some 87), some (some 88), some (some 89), none, none, some (some 90), none, none, none, none, none, none, some (some 91), none, some (some 92), some (some 93)]))))  : zex E (n + 8) d 330 21 [some (.ref 84), some (.int 0), some (.int k), u3, u4] [] h = zex E n d 330 74 [some (.ref 84), some (.int 0), some (.int k), u3, u4] [] h :=
  ((yIn zgw330_21 rfl) : zex E (n + 8) d 330 21 [some (.ref 84), some (.int 0), some (.int k), u3, u4] [] h = zex E (n + 7) d 330 22 [some (.ref 84), some (.int 0), some (.int k), u3, u4] [.int k] h).trans (((yCi zgw330_22) : zex E (n + 7) d 330 22 [some (.ref 84), some (.int 0), some (.int k), u3, u4] [.int k] h = zex E (n + 6) d 330 23 [some (.ref 84), some (.int 0), some (.int k), u3, u4] [.int 2, .int k] h).trans (((yAdd zgw330_23) : zex E (n + 6) d 330 23 [some (.ref 84), some (.int 0), some (.int k), u3, u4] [.int 2, .int k] h = zex E (n + 5) d 330 24 [some (.ref 84), some (.int 0), some (.int k), u3, u4] [.int (k + 2)] h).trans (((yAn zgw330_24 rfl rfl) : zex E (n + 5) d 330 24 [some (.ref 84), some (.int 0), some (.int k), u3, u4] [.int (k + 2)] h = zex E (n + 4) d 330 25 [some (.ref 84), some (.int 0), some (.int k), u3, u4] [.ref 84, .int (k + 2)] h).trans (((zgk zgw330_25 a84 rfl hl) : zex E (n + 4) d 330 25 [some (.ref 84), some (.int 0), some (.int k), u3, u4] [.ref 84, .int (k + 2)] h = zex E (n + 3) d 330 28 [some (.ref 84), some (.int 0), some (.int k), u3, u4] [.int l, .int (k + 2)] h).trans (((zkgF zgw330_28 hk) : zex E (n + 3) d 330 28 [some (.ref 84), some (.int 0), some (.int k), u3, u4] [.int l, .int (k + 2)] h = zex E (n + 2) d 330 31 [some (.ref 84), some (.int 0), some (.int k), u3, u4] [] h).trans (((yIn zgw330_31 rfl) : zex E (n + 2) d 330 31 [some (.ref 84), some (.int 0), some (.int k), u3, u4] [] h = zex E (n + 1) d 330 32 [some (.ref 84), some (.int 0), some (.int k), u3, u4] [.int 0] h).trans (((zjeT zgw330_32 (by decide)) : zex E (n + 1) d 330 32 [some (.ref 84), some (.int 0), some (.int k), u3, u4] [.int 0] h = zex E n d 330 74 [some (.ref 84), some (.int 0), some (.int k), u3, u4] [] h))))))))
set_option maxRecDepth 100000 in
theorem nmx_a {E : zE} {n d : Nat} {h : zH} {k l t v s : Int32} {J : Nat} {u3 u4 : Option Value} (hl : h.2.1 84 11 = l) (hk : (k + 2).toInt < l.toInt) (hj : k.toInt = (J : Int)) (hj4 : J < 400) (ht : h.2.1 90 J = t) (a84 : zat h.1 84 = some (.inr (.inl (12, [none, some (some 85), some (some 86), some (some 87), some (some 88), some (some 89), none, none, some (some 90), none, none, none, none, none, none, some (some 91), none, some (some 92), some (some 93)])))) (a90 : zat h.1 90 = some (.inl (1, 400, []))) (e1 : zex E (n + 5) d 227 0 [some (.ref 84), some (.int (t - 97))] [] h = some (.inl (some (.int 1)), h)) : zex E (n + 21) (d + 1) 330 21 [some (.ref 84), some (.int 1), some (.int k), u3, u4] [] h = zex E n (d + 1) 330 21 [some (.ref 84), some (.int 0), some (.int (k + 3)), u3, u4] [] h :=
  ((yIn zgw330_21 rfl) : zex E (n + 21) (d + 1) 330 21 [some (.ref 84), some (.int 1), some (.int k), u3, u4] [] h = zex E (n + 20) (d + 1) 330 22 [some (.ref 84), some (.int 1), some (.int k), u3, u4] [.int k] h).trans (((yCi zgw330_22) : zex E (n + 20) (d + 1) 330 22 [some (.ref 84), some (.int 1), some (.int k), u3, u4] [.int k] h = zex E (n + 19) (d + 1) 330 23 [some (.ref 84), some (.int 1), some (.int k), u3, u4] [.int 2, .int k] h).trans (((yAdd zgw330_23) : zex E (n + 19) (d + 1) 330 23 [some (.ref 84), some (.int 1), some (.int k), u3, u4] [.int 2, .int k] h = zex E (n + 18) (d + 1) 330 24 [some (.ref 84), some (.int 1), some (.int k), u3, u4] [.int (k + 2)] h).trans (((yAn zgw330_24 rfl rfl) : zex E (n + 18) (d + 1) 330 24 [some (.ref 84), some (.int 1), some (.int k), u3, u4] [.int (k + 2)] h = zex E (n + 17) (d + 1) 330 25 [some (.ref 84), some (.int 1), some (.int k), u3, u4] [.ref 84, .int (k + 2)] h).trans (((zgk zgw330_25 a84 rfl hl) : zex E (n + 17) (d + 1) 330 25 [some (.ref 84), some (.int 1), some (.int k), u3, u4] [.ref 84, .int (k + 2)] h = zex E (n + 16) (d + 1) 330 28 [some (.ref 84), some (.int 1), some (.int k), u3, u4] [.int l, .int (k + 2)] h).trans (((zkgF zgw330_28 hk) : zex E (n + 16) (d + 1) 330 28 [some (.ref 84), some (.int 1), some (.int k), u3, u4] [.int l, .int (k + 2)] h = zex E (n + 15) (d + 1) 330 31 [some (.ref 84), some (.int 1), some (.int k), u3, u4] [] h).trans (((yIn zgw330_31 rfl) : zex E (n + 15) (d + 1) 330 31 [some (.ref 84), some (.int 1), some (.int k), u3, u4] [] h = zex E (n + 14) (d + 1) 330 32 [some (.ref 84), some (.int 1), some (.int k), u3, u4] [.int 1] h).trans (((zjeF zgw330_32 (by decide)) : zex E (n + 14) (d + 1) 330 32 [some (.ref 84), some (.int 1), some (.int k), u3, u4] [.int 1] h = zex E (n + 13) (d + 1) 330 35 [some (.ref 84), some (.int 1), some (.int k), u3, u4] [] h).trans (((yAn zgw330_35 rfl rfl) : zex E (n + 13) (d + 1) 330 35 [some (.ref 84), some (.int 1), some (.int k), u3, u4] [] h = zex E (n + 12) (d + 1) 330 36 [some (.ref 84), some (.int 1), some (.int k), u3, u4] [.ref 84] h).trans (((yAn zgw330_36 rfl rfl) : zex E (n + 12) (d + 1) 330 36 [some (.ref 84), some (.int 1), some (.int k), u3, u4] [.ref 84] h = zex E (n + 11) (d + 1) 330 37 [some (.ref 84), some (.int 1), some (.int k), u3, u4] [.ref 84, .ref 84] h).trans (((zgx zgw330_37 a84 rfl) : zex E (n + 11) (d + 1) 330 37 [some (.ref 84), some (.int 1), some (.int k), u3, u4] [.ref 84, .ref 84] h = zex E (n + 10) (d + 1) 330 40 [some (.ref 84), some (.int 1), some (.int k), u3, u4] [.ref 90, .ref 84] h).trans (((yIn zgw330_40 rfl) : zex E (n + 10) (d + 1) 330 40 [some (.ref 84), some (.int 1), some (.int k), u3, u4] [.ref 90, .ref 84] h = zex E (n + 9) (d + 1) 330 41 [some (.ref 84), some (.int 1), some (.int k), u3, u4] [.int k, .ref 90, .ref 84] h).trans (((zlb zgw330_41 a90 hj hj4 ht) : zex E (n + 9) (d + 1) 330 41 [some (.ref 84), some (.int 1), some (.int k), u3, u4] [.int k, .ref 90, .ref 84] h = zex E (n + 8) (d + 1) 330 42 [some (.ref 84), some (.int 1), some (.int k), u3, u4] [.int t, .ref 84] h).trans (((yCb zgw330_42) : zex E (n + 8) (d + 1) 330 42 [some (.ref 84), some (.int 1), some (.int k), u3, u4] [.int t, .ref 84] h = zex E (n + 7) (d + 1) 330 44 [some (.ref 84), some (.int 1), some (.int k), u3, u4] [.int 97, .int t, .ref 84] h).trans (((ySub zgw330_44) : zex E (n + 7) (d + 1) 330 44 [some (.ref 84), some (.int 1), some (.int k), u3, u4] [.int 97, .int t, .ref 84] h = zex E (n + 6) (d + 1) 330 45 [some (.ref 84), some (.int 1), some (.int k), u3, u4] [.int (t - 97), .ref 84] h).trans (((zcvg (h := h) (as := [.int (t - 97)]) (r := []) zgw330_45 znwq227 rfl a84 rfl e1) : zex E (n + 6) (d + 1) 330 45 [some (.ref 84), some (.int 1), some (.int k), u3, u4] [.int (t - 97), .ref 84] h = zex E (n + 5) (d + 1) 330 48 [some (.ref 84), some (.int 1), some (.int k), u3, u4] [.int 1] h).trans (((zjnT zgw330_48 (by decide)) : zex E (n + 5) (d + 1) 330 48 [some (.ref 84), some (.int 1), some (.int k), u3, u4] [.int 1] h = zex E (n + 4) (d + 1) 330 66 [some (.ref 84), some (.int 1), some (.int k), u3, u4] [] h).trans (((yCi zgw330_66) : zex E (n + 4) (d + 1) 330 66 [some (.ref 84), some (.int 1), some (.int k), u3, u4] [] h = zex E (n + 3) (d + 1) 330 67 [some (.ref 84), some (.int 1), some (.int k), u3, u4] [.int 0] h).trans (((ySn zgw330_67) : zex E (n + 3) (d + 1) 330 67 [some (.ref 84), some (.int 1), some (.int k), u3, u4] [.int 0] h = zex E (n + 2) (d + 1) 330 68 [some (.ref 84), some (.int 0), some (.int k), u3, u4] [] h).trans (((yInc zgw330_68 rfl) : zex E (n + 2) (d + 1) 330 68 [some (.ref 84), some (.int 0), some (.int k), u3, u4] [] h = zex E (n + 1) (d + 1) 330 71 [some (.ref 84), some (.int 0), some (.int (k + 3)), u3, u4] [] h).trans (((yGo zgw330_71) : zex E (n + 1) (d + 1) 330 71 [some (.ref 84), some (.int 0), some (.int (k + 3)), u3, u4] [] h = zex E n (d + 1) 330 21 [some (.ref 84), some (.int 0), some (.int (k + 3)), u3, u4] [] h)))))))))))))))))))))
set_option maxRecDepth 100000 in
theorem nmx_b {E : zE} {n d : Nat} {h : zH} {k l t v s : Int32} {J : Nat} {u3 u4 : Option Value} (hl : h.2.1 84 11 = l) (hk : (k + 2).toInt < l.toInt) (hj : k.toInt = (J : Int)) (hj4 : J < 400) (ht : h.2.1 90 J = t) (hv : (9999 : Int32).toInt < v.toInt) (a84 : zat h.1 84 = some (.inr (.inl (12, [none, some (some 85), some (some 86), some (some 87), some (some 88), some (some 89), none, none, some (some 90), none, none, none, none, none, none, some (some 91), none, some (some 92), some (some 93)])))) (a90 : zat h.1 90 = some (.inl (1, 400, []))) (e1 : zex E (n + 10) d 227 0 [some (.ref 84), some (.int (t - 97))] [] h = some (.inl (some (.int 0)), h)) (e2 : zex E (n + 6) d 329 0 [some (.ref 84), some (.int k)] [] h = some (.inl (some (.int v)), h)) : zex E (n + 26) (d + 1) 330 21 [some (.ref 84), some (.int 1), some (.int k), u3, u4] [] h = zex E n (d + 1) 330 21 [some (.ref 84), some (.int 0), some (.int (k + 3)), u3, u4] [] h :=
  ((yIn zgw330_21 rfl) : zex E (n + 26) (d + 1) 330 21 [some (.ref 84), some (.int 1), some (.int k), u3, u4] [] h = zex E (n + 25) (d + 1) 330 22 [some (.ref 84), some (.int 1), some (.int k), u3, u4] [.int k] h).trans (((yCi zgw330_22) : zex E (n + 25) (d + 1) 330 22 [some (.ref 84), some (.int 1), some (.int k), u3, u4] [.int k] h = zex E (n + 24) (d + 1) 330 23 [some (.ref 84), some (.int 1), some (.int k), u3, u4] [.int 2, .int k] h).trans (((yAdd zgw330_23) : zex E (n + 24) (d + 1) 330 23 [some (.ref 84), some (.int 1), some (.int k), u3, u4] [.int 2, .int k] h = zex E (n + 23) (d + 1) 330 24 [some (.ref 84), some (.int 1), some (.int k), u3, u4] [.int (k + 2)] h).trans (((yAn zgw330_24 rfl rfl) : zex E (n + 23) (d + 1) 330 24 [some (.ref 84), some (.int 1), some (.int k), u3, u4] [.int (k + 2)] h = zex E (n + 22) (d + 1) 330 25 [some (.ref 84), some (.int 1), some (.int k), u3, u4] [.ref 84, .int (k + 2)] h).trans (((zgk zgw330_25 a84 rfl hl) : zex E (n + 22) (d + 1) 330 25 [some (.ref 84), some (.int 1), some (.int k), u3, u4] [.ref 84, .int (k + 2)] h = zex E (n + 21) (d + 1) 330 28 [some (.ref 84), some (.int 1), some (.int k), u3, u4] [.int l, .int (k + 2)] h).trans (((zkgF zgw330_28 hk) : zex E (n + 21) (d + 1) 330 28 [some (.ref 84), some (.int 1), some (.int k), u3, u4] [.int l, .int (k + 2)] h = zex E (n + 20) (d + 1) 330 31 [some (.ref 84), some (.int 1), some (.int k), u3, u4] [] h).trans (((yIn zgw330_31 rfl) : zex E (n + 20) (d + 1) 330 31 [some (.ref 84), some (.int 1), some (.int k), u3, u4] [] h = zex E (n + 19) (d + 1) 330 32 [some (.ref 84), some (.int 1), some (.int k), u3, u4] [.int 1] h).trans (((zjeF zgw330_32 (by decide)) : zex E (n + 19) (d + 1) 330 32 [some (.ref 84), some (.int 1), some (.int k), u3, u4] [.int 1] h = zex E (n + 18) (d + 1) 330 35 [some (.ref 84), some (.int 1), some (.int k), u3, u4] [] h).trans (((yAn zgw330_35 rfl rfl) : zex E (n + 18) (d + 1) 330 35 [some (.ref 84), some (.int 1), some (.int k), u3, u4] [] h = zex E (n + 17) (d + 1) 330 36 [some (.ref 84), some (.int 1), some (.int k), u3, u4] [.ref 84] h).trans (((yAn zgw330_36 rfl rfl) : zex E (n + 17) (d + 1) 330 36 [some (.ref 84), some (.int 1), some (.int k), u3, u4] [.ref 84] h = zex E (n + 16) (d + 1) 330 37 [some (.ref 84), some (.int 1), some (.int k), u3, u4] [.ref 84, .ref 84] h).trans (((zgx zgw330_37 a84 rfl) : zex E (n + 16) (d + 1) 330 37 [some (.ref 84), some (.int 1), some (.int k), u3, u4] [.ref 84, .ref 84] h = zex E (n + 15) (d + 1) 330 40 [some (.ref 84), some (.int 1), some (.int k), u3, u4] [.ref 90, .ref 84] h).trans (((yIn zgw330_40 rfl) : zex E (n + 15) (d + 1) 330 40 [some (.ref 84), some (.int 1), some (.int k), u3, u4] [.ref 90, .ref 84] h = zex E (n + 14) (d + 1) 330 41 [some (.ref 84), some (.int 1), some (.int k), u3, u4] [.int k, .ref 90, .ref 84] h).trans (((zlb zgw330_41 a90 hj hj4 ht) : zex E (n + 14) (d + 1) 330 41 [some (.ref 84), some (.int 1), some (.int k), u3, u4] [.int k, .ref 90, .ref 84] h = zex E (n + 13) (d + 1) 330 42 [some (.ref 84), some (.int 1), some (.int k), u3, u4] [.int t, .ref 84] h).trans (((yCb zgw330_42) : zex E (n + 13) (d + 1) 330 42 [some (.ref 84), some (.int 1), some (.int k), u3, u4] [.int t, .ref 84] h = zex E (n + 12) (d + 1) 330 44 [some (.ref 84), some (.int 1), some (.int k), u3, u4] [.int 97, .int t, .ref 84] h).trans (((ySub zgw330_44) : zex E (n + 12) (d + 1) 330 44 [some (.ref 84), some (.int 1), some (.int k), u3, u4] [.int 97, .int t, .ref 84] h = zex E (n + 11) (d + 1) 330 45 [some (.ref 84), some (.int 1), some (.int k), u3, u4] [.int (t - 97), .ref 84] h).trans (((zcvg (h := h) (as := [.int (t - 97)]) (r := []) zgw330_45 znwq227 rfl a84 rfl e1) : zex E (n + 11) (d + 1) 330 45 [some (.ref 84), some (.int 1), some (.int k), u3, u4] [.int (t - 97), .ref 84] h = zex E (n + 10) (d + 1) 330 48 [some (.ref 84), some (.int 1), some (.int k), u3, u4] [.int 0] h).trans (((zjnF zgw330_48 (by decide)) : zex E (n + 10) (d + 1) 330 48 [some (.ref 84), some (.int 1), some (.int k), u3, u4] [.int 0] h = zex E (n + 9) (d + 1) 330 51 [some (.ref 84), some (.int 1), some (.int k), u3, u4] [] h).trans (((yAn zgw330_51 rfl rfl) : zex E (n + 9) (d + 1) 330 51 [some (.ref 84), some (.int 1), some (.int k), u3, u4] [] h = zex E (n + 8) (d + 1) 330 52 [some (.ref 84), some (.int 1), some (.int k), u3, u4] [.ref 84] h).trans (((yIn zgw330_52 rfl) : zex E (n + 8) (d + 1) 330 52 [some (.ref 84), some (.int 1), some (.int k), u3, u4] [.ref 84] h = zex E (n + 7) (d + 1) 330 53 [some (.ref 84), some (.int 1), some (.int k), u3, u4] [.int k, .ref 84] h).trans (((zcvg (h := h) (as := [.int k]) (r := []) zgw330_53 znwq329 rfl a84 rfl e2) : zex E (n + 7) (d + 1) 330 53 [some (.ref 84), some (.int 1), some (.int k), u3, u4] [.int k, .ref 84] h = zex E (n + 6) (d + 1) 330 56 [some (.ref 84), some (.int 1), some (.int k), u3, u4] [.int v] h).trans (((yCs zgw330_56) : zex E (n + 6) (d + 1) 330 56 [some (.ref 84), some (.int 1), some (.int k), u3, u4] [.int v] h = zex E (n + 5) (d + 1) 330 59 [some (.ref 84), some (.int 1), some (.int k), u3, u4] [.int 9999, .int v] h).trans (((zkhT zgw330_59 hv) : zex E (n + 5) (d + 1) 330 59 [some (.ref 84), some (.int 1), some (.int k), u3, u4] [.int 9999, .int v] h = zex E (n + 4) (d + 1) 330 66 [some (.ref 84), some (.int 1), some (.int k), u3, u4] [] h).trans (((yCi zgw330_66) : zex E (n + 4) (d + 1) 330 66 [some (.ref 84), some (.int 1), some (.int k), u3, u4] [] h = zex E (n + 3) (d + 1) 330 67 [some (.ref 84), some (.int 1), some (.int k), u3, u4] [.int 0] h).trans (((ySn zgw330_67) : zex E (n + 3) (d + 1) 330 67 [some (.ref 84), some (.int 1), some (.int k), u3, u4] [.int 0] h = zex E (n + 2) (d + 1) 330 68 [some (.ref 84), some (.int 0), some (.int k), u3, u4] [] h).trans (((yInc zgw330_68 rfl) : zex E (n + 2) (d + 1) 330 68 [some (.ref 84), some (.int 0), some (.int k), u3, u4] [] h = zex E (n + 1) (d + 1) 330 71 [some (.ref 84), some (.int 0), some (.int (k + 3)), u3, u4] [] h).trans (((yGo zgw330_71) : zex E (n + 1) (d + 1) 330 71 [some (.ref 84), some (.int 0), some (.int (k + 3)), u3, u4] [] h = zex E n (d + 1) 330 21 [some (.ref 84), some (.int 0), some (.int (k + 3)), u3, u4] [] h))))))))))))))))))))))))))
set_option maxRecDepth 100000 in
theorem nmx_c {E : zE} {n d : Nat} {h : zH} {k l t v s : Int32} {J : Nat} {u3 u4 : Option Value} (hl : h.2.1 84 11 = l) (hk : (k + 2).toInt < l.toInt) (hj : k.toInt = (J : Int)) (hj4 : J < 400) (ht : h.2.1 90 J = t) (hv : v.toInt ≤ (9999 : Int32).toInt) (a84 : zat h.1 84 = some (.inr (.inl (12, [none, some (some 85), some (some 86), some (some 87), some (some 88), some (some 89), none, none, some (some 90), none, none, none, none, none, none, some (some 91), none, some (some 92), some (some 93)])))) (a90 : zat h.1 90 = some (.inl (1, 400, []))) (e1 : zex E (n + 11) d 227 0 [some (.ref 84), some (.int (t - 97))] [] h = some (.inl (some (.int 0)), h)) (e2 : zex E (n + 7) d 329 0 [some (.ref 84), some (.int k)] [] h = some (.inl (some (.int v)), h)) : zex E (n + 27) (d + 1) 330 21 [some (.ref 84), some (.int 1), some (.int k), u3, u4] [] h = zex E n (d + 1) 330 21 [some (.ref 84), some (.int 1), some (.int (k + 3)), u3, u4] [] h :=
  ((yIn zgw330_21 rfl) : zex E (n + 27) (d + 1) 330 21 [some (.ref 84), some (.int 1), some (.int k), u3, u4] [] h = zex E (n + 26) (d + 1) 330 22 [some (.ref 84), some (.int 1), some (.int k), u3, u4] [.int k] h).trans (((yCi zgw330_22) : zex E (n + 26) (d + 1) 330 22 [some (.ref 84), some (.int 1), some (.int k), u3, u4] [.int k] h = zex E (n + 25) (d + 1) 330 23 [some (.ref 84), some (.int 1), some (.int k), u3, u4] [.int 2, .int k] h).trans (((yAdd zgw330_23) : zex E (n + 25) (d + 1) 330 23 [some (.ref 84), some (.int 1), some (.int k), u3, u4] [.int 2, .int k] h = zex E (n + 24) (d + 1) 330 24 [some (.ref 84), some (.int 1), some (.int k), u3, u4] [.int (k + 2)] h).trans (((yAn zgw330_24 rfl rfl) : zex E (n + 24) (d + 1) 330 24 [some (.ref 84), some (.int 1), some (.int k), u3, u4] [.int (k + 2)] h = zex E (n + 23) (d + 1) 330 25 [some (.ref 84), some (.int 1), some (.int k), u3, u4] [.ref 84, .int (k + 2)] h).trans (((zgk zgw330_25 a84 rfl hl) : zex E (n + 23) (d + 1) 330 25 [some (.ref 84), some (.int 1), some (.int k), u3, u4] [.ref 84, .int (k + 2)] h = zex E (n + 22) (d + 1) 330 28 [some (.ref 84), some (.int 1), some (.int k), u3, u4] [.int l, .int (k + 2)] h).trans (((zkgF zgw330_28 hk) : zex E (n + 22) (d + 1) 330 28 [some (.ref 84), some (.int 1), some (.int k), u3, u4] [.int l, .int (k + 2)] h = zex E (n + 21) (d + 1) 330 31 [some (.ref 84), some (.int 1), some (.int k), u3, u4] [] h).trans (((yIn zgw330_31 rfl) : zex E (n + 21) (d + 1) 330 31 [some (.ref 84), some (.int 1), some (.int k), u3, u4] [] h = zex E (n + 20) (d + 1) 330 32 [some (.ref 84), some (.int 1), some (.int k), u3, u4] [.int 1] h).trans (((zjeF zgw330_32 (by decide)) : zex E (n + 20) (d + 1) 330 32 [some (.ref 84), some (.int 1), some (.int k), u3, u4] [.int 1] h = zex E (n + 19) (d + 1) 330 35 [some (.ref 84), some (.int 1), some (.int k), u3, u4] [] h).trans (((yAn zgw330_35 rfl rfl) : zex E (n + 19) (d + 1) 330 35 [some (.ref 84), some (.int 1), some (.int k), u3, u4] [] h = zex E (n + 18) (d + 1) 330 36 [some (.ref 84), some (.int 1), some (.int k), u3, u4] [.ref 84] h).trans (((yAn zgw330_36 rfl rfl) : zex E (n + 18) (d + 1) 330 36 [some (.ref 84), some (.int 1), some (.int k), u3, u4] [.ref 84] h = zex E (n + 17) (d + 1) 330 37 [some (.ref 84), some (.int 1), some (.int k), u3, u4] [.ref 84, .ref 84] h).trans (((zgx zgw330_37 a84 rfl) : zex E (n + 17) (d + 1) 330 37 [some (.ref 84), some (.int 1), some (.int k), u3, u4] [.ref 84, .ref 84] h = zex E (n + 16) (d + 1) 330 40 [some (.ref 84), some (.int 1), some (.int k), u3, u4] [.ref 90, .ref 84] h).trans (((yIn zgw330_40 rfl) : zex E (n + 16) (d + 1) 330 40 [some (.ref 84), some (.int 1), some (.int k), u3, u4] [.ref 90, .ref 84] h = zex E (n + 15) (d + 1) 330 41 [some (.ref 84), some (.int 1), some (.int k), u3, u4] [.int k, .ref 90, .ref 84] h).trans (((zlb zgw330_41 a90 hj hj4 ht) : zex E (n + 15) (d + 1) 330 41 [some (.ref 84), some (.int 1), some (.int k), u3, u4] [.int k, .ref 90, .ref 84] h = zex E (n + 14) (d + 1) 330 42 [some (.ref 84), some (.int 1), some (.int k), u3, u4] [.int t, .ref 84] h).trans (((yCb zgw330_42) : zex E (n + 14) (d + 1) 330 42 [some (.ref 84), some (.int 1), some (.int k), u3, u4] [.int t, .ref 84] h = zex E (n + 13) (d + 1) 330 44 [some (.ref 84), some (.int 1), some (.int k), u3, u4] [.int 97, .int t, .ref 84] h).trans (((ySub zgw330_44) : zex E (n + 13) (d + 1) 330 44 [some (.ref 84), some (.int 1), some (.int k), u3, u4] [.int 97, .int t, .ref 84] h = zex E (n + 12) (d + 1) 330 45 [some (.ref 84), some (.int 1), some (.int k), u3, u4] [.int (t - 97), .ref 84] h).trans (((zcvg (h := h) (as := [.int (t - 97)]) (r := []) zgw330_45 znwq227 rfl a84 rfl e1) : zex E (n + 12) (d + 1) 330 45 [some (.ref 84), some (.int 1), some (.int k), u3, u4] [.int (t - 97), .ref 84] h = zex E (n + 11) (d + 1) 330 48 [some (.ref 84), some (.int 1), some (.int k), u3, u4] [.int 0] h).trans (((zjnF zgw330_48 (by decide)) : zex E (n + 11) (d + 1) 330 48 [some (.ref 84), some (.int 1), some (.int k), u3, u4] [.int 0] h = zex E (n + 10) (d + 1) 330 51 [some (.ref 84), some (.int 1), some (.int k), u3, u4] [] h).trans (((yAn zgw330_51 rfl rfl) : zex E (n + 10) (d + 1) 330 51 [some (.ref 84), some (.int 1), some (.int k), u3, u4] [] h = zex E (n + 9) (d + 1) 330 52 [some (.ref 84), some (.int 1), some (.int k), u3, u4] [.ref 84] h).trans (((yIn zgw330_52 rfl) : zex E (n + 9) (d + 1) 330 52 [some (.ref 84), some (.int 1), some (.int k), u3, u4] [.ref 84] h = zex E (n + 8) (d + 1) 330 53 [some (.ref 84), some (.int 1), some (.int k), u3, u4] [.int k, .ref 84] h).trans (((zcvg (h := h) (as := [.int k]) (r := []) zgw330_53 znwq329 rfl a84 rfl e2) : zex E (n + 8) (d + 1) 330 53 [some (.ref 84), some (.int 1), some (.int k), u3, u4] [.int k, .ref 84] h = zex E (n + 7) (d + 1) 330 56 [some (.ref 84), some (.int 1), some (.int k), u3, u4] [.int v] h).trans (((yCs zgw330_56) : zex E (n + 7) (d + 1) 330 56 [some (.ref 84), some (.int 1), some (.int k), u3, u4] [.int v] h = zex E (n + 6) (d + 1) 330 59 [some (.ref 84), some (.int 1), some (.int k), u3, u4] [.int 9999, .int v] h).trans (((zkhF zgw330_59 hv) : zex E (n + 6) (d + 1) 330 59 [some (.ref 84), some (.int 1), some (.int k), u3, u4] [.int 9999, .int v] h = zex E (n + 5) (d + 1) 330 62 [some (.ref 84), some (.int 1), some (.int k), u3, u4] [] h).trans (((yCi zgw330_62) : zex E (n + 5) (d + 1) 330 62 [some (.ref 84), some (.int 1), some (.int k), u3, u4] [] h = zex E (n + 4) (d + 1) 330 63 [some (.ref 84), some (.int 1), some (.int k), u3, u4] [.int 1] h).trans (((yGo zgw330_63) : zex E (n + 4) (d + 1) 330 63 [some (.ref 84), some (.int 1), some (.int k), u3, u4] [.int 1] h = zex E (n + 3) (d + 1) 330 67 [some (.ref 84), some (.int 1), some (.int k), u3, u4] [.int 1] h).trans (((ySn zgw330_67) : zex E (n + 3) (d + 1) 330 67 [some (.ref 84), some (.int 1), some (.int k), u3, u4] [.int 1] h = zex E (n + 2) (d + 1) 330 68 [some (.ref 84), some (.int 1), some (.int k), u3, u4] [] h).trans (((yInc zgw330_68 rfl) : zex E (n + 2) (d + 1) 330 68 [some (.ref 84), some (.int 1), some (.int k), u3, u4] [] h = zex E (n + 1) (d + 1) 330 71 [some (.ref 84), some (.int 1), some (.int (k + 3)), u3, u4] [] h).trans (((yGo zgw330_71) : zex E (n + 1) (d + 1) 330 71 [some (.ref 84), some (.int 1), some (.int (k + 3)), u3, u4] [] h = zex E n (d + 1) 330 21 [some (.ref 84), some (.int 1), some (.int (k + 3)), u3, u4] [] h)))))))))))))))))))))))))))
set_option maxRecDepth 100000 in
theorem nmx_t {E : zE} {n d : Nat} {h h1 : zH} {k l t v s : Int32} {J : Nat} {u3 u4 : Option Value}  (a84 : zat h.1 84 = some (.inr (.inl (12, [none, some (some 85), some (some 86), some (some 87), some (some 88), some (some 89), none, none, some (some 90), none, none, none, none, none, none, some (some 91), none, some (some 92), some (some 93)])))) (e1 : zex E (n + 3) d 208 0 [some (.ref 84), some (.int 1), some (.int 1)] [] h = some (.inl (some (.int 1)), h1)) : zex E (n + 10) (d + 1) 330 74 [some (.ref 84), some (.int 0), some (.int k), u3, u4] [] h = some (.inl (some (.int 0)), h1) :=
  ((yAn zgw330_74 rfl rfl) : zex E (n + 10) (d + 1) 330 74 [some (.ref 84), some (.int 0), some (.int k), u3, u4] [] h = zex E (n + 9) (d + 1) 330 75 [some (.ref 84), some (.int 0), some (.int k), u3, u4] [.ref 84] h).trans (((yIn zgw330_75 rfl) : zex E (n + 9) (d + 1) 330 75 [some (.ref 84), some (.int 0), some (.int k), u3, u4] [.ref 84] h = zex E (n + 8) (d + 1) 330 76 [some (.ref 84), some (.int 0), some (.int k), u3, u4] [.int 0, .ref 84] h).trans (((zjnF zgw330_76 (by decide)) : zex E (n + 8) (d + 1) 330 76 [some (.ref 84), some (.int 0), some (.int k), u3, u4] [.int 0, .ref 84] h = zex E (n + 7) (d + 1) 330 79 [some (.ref 84), some (.int 0), some (.int k), u3, u4] [.ref 84] h).trans (((yCi zgw330_79) : zex E (n + 7) (d + 1) 330 79 [some (.ref 84), some (.int 0), some (.int k), u3, u4] [.ref 84] h = zex E (n + 6) (d + 1) 330 80 [some (.ref 84), some (.int 0), some (.int k), u3, u4] [.int 1, .ref 84] h).trans (((yGo zgw330_80) : zex E (n + 6) (d + 1) 330 80 [some (.ref 84), some (.int 0), some (.int k), u3, u4] [.int 1, .ref 84] h = zex E (n + 5) (d + 1) 330 84 [some (.ref 84), some (.int 0), some (.int k), u3, u4] [.int 1, .ref 84] h).trans (((yCi zgw330_84) : zex E (n + 5) (d + 1) 330 84 [some (.ref 84), some (.int 0), some (.int k), u3, u4] [.int 1, .ref 84] h = zex E (n + 4) (d + 1) 330 85 [some (.ref 84), some (.int 0), some (.int k), u3, u4] [.int 1, .int 1, .ref 84] h).trans (((zcvg (h := h) (as := [.int 1, .int 1]) (r := []) zgw330_85 znwq208 rfl a84 rfl e1) : zex E (n + 4) (d + 1) 330 85 [some (.ref 84), some (.int 0), some (.int k), u3, u4] [.int 1, .int 1, .ref 84] h = zex E (n + 3) (d + 1) 330 88 [some (.ref 84), some (.int 0), some (.int k), u3, u4] [.int 1] h1).trans (((zjeF zgw330_88 (by decide)) : zex E (n + 3) (d + 1) 330 88 [some (.ref 84), some (.int 0), some (.int k), u3, u4] [.int 1] h1 = zex E (n + 2) (d + 1) 330 91 [some (.ref 84), some (.int 0), some (.int k), u3, u4] [] h1).trans (((yCi zgw330_91) : zex E (n + 2) (d + 1) 330 91 [some (.ref 84), some (.int 0), some (.int k), u3, u4] [] h1 = zex E (n + 1) (d + 1) 330 92 [some (.ref 84), some (.int 0), some (.int k), u3, u4] [.int 0] h1).trans (((yRet1 zgw330_92 rfl) : zex E (n + 1) (d + 1) 330 92 [some (.ref 84), some (.int 0), some (.int k), u3, u4] [.int 0] h1 = some (.inl (some (.int 0)), h1)))))))))))
set_option maxRecDepth 100000 in
theorem nmx_u {E : zE} {n d : Nat} {h : zH} {k l t v s : Int32} {J : Nat} {u3 u4 : Option Value} {q : Int32}  (a84 : zat h.1 84 = some (.inr (.inl (12, [none, some (some 85), some (some 86), some (some 87), some (some 88), some (some 89), none, none, some (some 90), none, none, none, none, none, none, some (some 91), none, some (some 92), some (some 93)])))) (e1 : zex E (n + 10) d 208 0 [some (.ref 84), some (.int 0), some (.int 1)] [] h = some (.inl (some (.int 0)), h)) (e2 : zex E (n + 6) d 217 0 [some (.ref 84)] [] h = some (.inl (some (.int q)), h)) : zex E (n + 16) (d + 1) 330 74 [some (.ref 84), some (.int 1), some (.int k), u3, u4] [] h = zex E n (d + 1) 330 104 [some (.ref 84), some (.int 1), some (.int (((1 : Int32) <<< (q &&& 31)) - 1)), some (.int 0), u4] [] h :=
  ((yAn zgw330_74 rfl rfl) : zex E (n + 16) (d + 1) 330 74 [some (.ref 84), some (.int 1), some (.int k), u3, u4] [] h = zex E (n + 15) (d + 1) 330 75 [some (.ref 84), some (.int 1), some (.int k), u3, u4] [.ref 84] h).trans (((yIn zgw330_75 rfl) : zex E (n + 15) (d + 1) 330 75 [some (.ref 84), some (.int 1), some (.int k), u3, u4] [.ref 84] h = zex E (n + 14) (d + 1) 330 76 [some (.ref 84), some (.int 1), some (.int k), u3, u4] [.int 1, .ref 84] h).trans (((zjnT zgw330_76 (by decide)) : zex E (n + 14) (d + 1) 330 76 [some (.ref 84), some (.int 1), some (.int k), u3, u4] [.int 1, .ref 84] h = zex E (n + 13) (d + 1) 330 83 [some (.ref 84), some (.int 1), some (.int k), u3, u4] [.ref 84] h).trans (((yCi zgw330_83) : zex E (n + 13) (d + 1) 330 83 [some (.ref 84), some (.int 1), some (.int k), u3, u4] [.ref 84] h = zex E (n + 12) (d + 1) 330 84 [some (.ref 84), some (.int 1), some (.int k), u3, u4] [.int 0, .ref 84] h).trans (((yCi zgw330_84) : zex E (n + 12) (d + 1) 330 84 [some (.ref 84), some (.int 1), some (.int k), u3, u4] [.int 0, .ref 84] h = zex E (n + 11) (d + 1) 330 85 [some (.ref 84), some (.int 1), some (.int k), u3, u4] [.int 1, .int 0, .ref 84] h).trans (((zcvg (h := h) (as := [.int 0, .int 1]) (r := []) zgw330_85 znwq208 rfl a84 rfl e1) : zex E (n + 11) (d + 1) 330 85 [some (.ref 84), some (.int 1), some (.int k), u3, u4] [.int 1, .int 0, .ref 84] h = zex E (n + 10) (d + 1) 330 88 [some (.ref 84), some (.int 1), some (.int k), u3, u4] [.int 0] h).trans (((zjeT zgw330_88 (by decide)) : zex E (n + 10) (d + 1) 330 88 [some (.ref 84), some (.int 1), some (.int k), u3, u4] [.int 0] h = zex E (n + 9) (d + 1) 330 93 [some (.ref 84), some (.int 1), some (.int k), u3, u4] [] h).trans (((yCi zgw330_93) : zex E (n + 9) (d + 1) 330 93 [some (.ref 84), some (.int 1), some (.int k), u3, u4] [] h = zex E (n + 8) (d + 1) 330 94 [some (.ref 84), some (.int 1), some (.int k), u3, u4] [.int 1] h).trans (((yAn zgw330_94 rfl rfl) : zex E (n + 8) (d + 1) 330 94 [some (.ref 84), some (.int 1), some (.int k), u3, u4] [.int 1] h = zex E (n + 7) (d + 1) 330 95 [some (.ref 84), some (.int 1), some (.int k), u3, u4] [.ref 84, .int 1] h).trans (((zcvg (h := h) (as := []) (r := [.int 1]) zgw330_95 znwq217 rfl a84 rfl e2) : zex E (n + 7) (d + 1) 330 95 [some (.ref 84), some (.int 1), some (.int k), u3, u4] [.ref 84, .int 1] h = zex E (n + 6) (d + 1) 330 98 [some (.ref 84), some (.int 1), some (.int k), u3, u4] [.int q, .int 1] h).trans (((yShl zgw330_98) : zex E (n + 6) (d + 1) 330 98 [some (.ref 84), some (.int 1), some (.int k), u3, u4] [.int q, .int 1] h = zex E (n + 5) (d + 1) 330 99 [some (.ref 84), some (.int 1), some (.int k), u3, u4] [.int ((1 : Int32) <<< (q &&& 31))] h).trans (((yCi zgw330_99) : zex E (n + 5) (d + 1) 330 99 [some (.ref 84), some (.int 1), some (.int k), u3, u4] [.int ((1 : Int32) <<< (q &&& 31))] h = zex E (n + 4) (d + 1) 330 100 [some (.ref 84), some (.int 1), some (.int k), u3, u4] [.int 1, .int ((1 : Int32) <<< (q &&& 31))] h).trans (((ySub zgw330_100) : zex E (n + 4) (d + 1) 330 100 [some (.ref 84), some (.int 1), some (.int k), u3, u4] [.int 1, .int ((1 : Int32) <<< (q &&& 31))] h = zex E (n + 3) (d + 1) 330 101 [some (.ref 84), some (.int 1), some (.int k), u3, u4] [.int (((1 : Int32) <<< (q &&& 31)) - 1)] h).trans (((ySn zgw330_101) : zex E (n + 3) (d + 1) 330 101 [some (.ref 84), some (.int 1), some (.int k), u3, u4] [.int (((1 : Int32) <<< (q &&& 31)) - 1)] h = zex E (n + 2) (d + 1) 330 102 [some (.ref 84), some (.int 1), some (.int (((1 : Int32) <<< (q &&& 31)) - 1)), u3, u4] [] h).trans (((yCi zgw330_102) : zex E (n + 2) (d + 1) 330 102 [some (.ref 84), some (.int 1), some (.int (((1 : Int32) <<< (q &&& 31)) - 1)), u3, u4] [] h = zex E (n + 1) (d + 1) 330 103 [some (.ref 84), some (.int 1), some (.int (((1 : Int32) <<< (q &&& 31)) - 1)), u3, u4] [.int 0] h).trans (((ySn zgw330_103) : zex E (n + 1) (d + 1) 330 103 [some (.ref 84), some (.int 1), some (.int (((1 : Int32) <<< (q &&& 31)) - 1)), u3, u4] [.int 0] h = zex E n (d + 1) 330 104 [some (.ref 84), some (.int 1), some (.int (((1 : Int32) <<< (q &&& 31)) - 1)), some (.int 0), u4] [] h))))))))))))))))
set_option maxRecDepth 100000 in
theorem nmx_g {E : zE} {n d : Nat} {h : zH} {s w k l : Int32} {u4 : Option Value} (hl : h.2.1 84 11 = l) (hk : l.toInt ≤ k.toInt) (a84 : zat h.1 84 = some (.inr (.inl (12, [none, some (some 85), some (some 86), some (some 87), some (some 88), some (some 89), none, none, some (some 90), none, none, none, none, none, none, some (some 91), none, some (some 92), some (some 93)]))))  : zex E (n + 6) d 330 104 [some (.ref 84), some (.int s), some (.int w), some (.int k), u4] [] h = some (.inl (some (.int w)), h) :=
  ((yIn zgw330_104 rfl) : zex E (n + 6) d 330 104 [some (.ref 84), some (.int s), some (.int w), some (.int k), u4] [] h = zex E (n + 5) d 330 105 [some (.ref 84), some (.int s), some (.int w), some (.int k), u4] [.int k] h).trans (((yAn zgw330_105 rfl rfl) : zex E (n + 5) d 330 105 [some (.ref 84), some (.int s), some (.int w), some (.int k), u4] [.int k] h = zex E (n + 4) d 330 106 [some (.ref 84), some (.int s), some (.int w), some (.int k), u4] [.ref 84, .int k] h).trans (((zgk zgw330_106 a84 rfl hl) : zex E (n + 4) d 330 106 [some (.ref 84), some (.int s), some (.int w), some (.int k), u4] [.ref 84, .int k] h = zex E (n + 3) d 330 109 [some (.ref 84), some (.int s), some (.int w), some (.int k), u4] [.int l, .int k] h).trans (((zkgT zgw330_109 hk) : zex E (n + 3) d 330 109 [some (.ref 84), some (.int s), some (.int w), some (.int k), u4] [.int l, .int k] h = zex E (n + 2) d 330 175 [some (.ref 84), some (.int s), some (.int w), some (.int k), u4] [] h).trans (((yIn zgw330_175 rfl) : zex E (n + 2) d 330 175 [some (.ref 84), some (.int s), some (.int w), some (.int k), u4] [] h = zex E (n + 1) d 330 176 [some (.ref 84), some (.int s), some (.int w), some (.int k), u4] [.int w] h).trans (((yRet1 zgw330_176 rfl) : zex E (n + 1) d 330 176 [some (.ref 84), some (.int s), some (.int w), some (.int k), u4] [.int w] h = some (.inl (some (.int w)), h)))))))
set_option maxRecDepth 100000 in
theorem nmx_h {E : zE} {n d : Nat} {h : zH} {s w k l : Int32} {u4 : Option Value} (hl : h.2.1 84 11 = l) (hk : k.toInt < l.toInt) (a84 : zat h.1 84 = some (.inr (.inl (12, [none, some (some 85), some (some 86), some (some 87), some (some 88), some (some 89), none, none, some (some 90), none, none, none, none, none, none, some (some 91), none, some (some 92), some (some 93)]))))  : zex E (n + 6) d 330 104 [some (.ref 84), some (.int s), some (.int w), some (.int k), u4] [] h = zex E n d 330 115 [some (.ref 84), some (.int s), some (.int w), some (.int k), some (.int 0)] [] h :=
  ((yIn zgw330_104 rfl) : zex E (n + 6) d 330 104 [some (.ref 84), some (.int s), some (.int w), some (.int k), u4] [] h = zex E (n + 5) d 330 105 [some (.ref 84), some (.int s), some (.int w), some (.int k), u4] [.int k] h).trans (((yAn zgw330_105 rfl rfl) : zex E (n + 5) d 330 105 [some (.ref 84), some (.int s), some (.int w), some (.int k), u4] [.int k] h = zex E (n + 4) d 330 106 [some (.ref 84), some (.int s), some (.int w), some (.int k), u4] [.ref 84, .int k] h).trans (((zgk zgw330_106 a84 rfl hl) : zex E (n + 4) d 330 106 [some (.ref 84), some (.int s), some (.int w), some (.int k), u4] [.ref 84, .int k] h = zex E (n + 3) d 330 109 [some (.ref 84), some (.int s), some (.int w), some (.int k), u4] [.int l, .int k] h).trans (((zkgF zgw330_109 hk) : zex E (n + 3) d 330 109 [some (.ref 84), some (.int s), some (.int w), some (.int k), u4] [.int l, .int k] h = zex E (n + 2) d 330 112 [some (.ref 84), some (.int s), some (.int w), some (.int k), u4] [] h).trans (((yCi zgw330_112) : zex E (n + 2) d 330 112 [some (.ref 84), some (.int s), some (.int w), some (.int k), u4] [] h = zex E (n + 1) d 330 113 [some (.ref 84), some (.int s), some (.int w), some (.int k), u4] [.int 0] h).trans (((yS zgw330_113) : zex E (n + 1) d 330 113 [some (.ref 84), some (.int s), some (.int w), some (.int k), u4] [.int 0] h = zex E n d 330 115 [some (.ref 84), some (.int s), some (.int w), some (.int k), some (.int 0)] [] h))))))
set_option maxRecDepth 100000 in
theorem nmx_p {E : zE} {n d : Nat} {h : zH} {s w k p q : Int32} (hp : q.toInt ≤ p.toInt) (a84 : zat h.1 84 = some (.inr (.inl (12, [none, some (some 85), some (some 86), some (some 87), some (some 88), some (some 89), none, none, some (some 90), none, none, none, none, none, none, some (some 91), none, some (some 92), some (some 93)])))) (e1 : zex E (n + 3) d 217 0 [some (.ref 84)] [] h = some (.inl (some (.int q)), h)) : zex E (n + 6) (d + 1) 330 115 [some (.ref 84), some (.int s), some (.int w), some (.int k), some (.int p)] [] h = zex E n (d + 1) 330 104 [some (.ref 84), some (.int s), some (.int w), some (.int (k + 3)), some (.int p)] [] h :=
  ((yI zgw330_115 rfl) : zex E (n + 6) (d + 1) 330 115 [some (.ref 84), some (.int s), some (.int w), some (.int k), some (.int p)] [] h = zex E (n + 5) (d + 1) 330 117 [some (.ref 84), some (.int s), some (.int w), some (.int k), some (.int p)] [.int p] h).trans (((yAn zgw330_117 rfl rfl) : zex E (n + 5) (d + 1) 330 117 [some (.ref 84), some (.int s), some (.int w), some (.int k), some (.int p)] [.int p] h = zex E (n + 4) (d + 1) 330 118 [some (.ref 84), some (.int s), some (.int w), some (.int k), some (.int p)] [.ref 84, .int p] h).trans (((zcvg (h := h) (as := []) (r := [.int p]) zgw330_118 znwq217 rfl a84 rfl e1) : zex E (n + 4) (d + 1) 330 118 [some (.ref 84), some (.int s), some (.int w), some (.int k), some (.int p)] [.ref 84, .int p] h = zex E (n + 3) (d + 1) 330 121 [some (.ref 84), some (.int s), some (.int w), some (.int k), some (.int p)] [.int q, .int p] h).trans (((zkgT zgw330_121 hp) : zex E (n + 3) (d + 1) 330 121 [some (.ref 84), some (.int s), some (.int w), some (.int k), some (.int p)] [.int q, .int p] h = zex E (n + 2) (d + 1) 330 169 [some (.ref 84), some (.int s), some (.int w), some (.int k), some (.int p)] [] h).trans (((yInc zgw330_169 rfl) : zex E (n + 2) (d + 1) 330 169 [some (.ref 84), some (.int s), some (.int w), some (.int k), some (.int p)] [] h = zex E (n + 1) (d + 1) 330 172 [some (.ref 84), some (.int s), some (.int w), some (.int (k + 3)), some (.int p)] [] h).trans (((yGo zgw330_172) : zex E (n + 1) (d + 1) 330 172 [some (.ref 84), some (.int s), some (.int w), some (.int (k + 3)), some (.int p)] [] h = zex E n (d + 1) 330 104 [some (.ref 84), some (.int s), some (.int w), some (.int (k + 3)), some (.int p)] [] h))))))
set_option maxRecDepth 100000 in
theorem nmx_y {E : zE} {n d : Nat} {h : zH} {s w k p q v m r t : Int32} {J : Nat} (hp : p.toInt < q.toInt) (hr : h.2.1 85 5 = r) (hj : k.toInt = (J : Int)) (hj4 : J < 400) (ht : h.2.1 90 J = t) (he : m.toInt = (t - 97).toInt) (a84 : zat h.1 84 = some (.inr (.inl (12, [none, some (some 85), some (some 86), some (some 87), some (some 88), some (some 89), none, none, some (some 90), none, none, none, none, none, none, some (some 91), none, some (some 92), some (some 93)])))) (a85 : zat h.1 85 = some (.inl (0, 2475, []))) (a90 : zat h.1 90 = some (.inl (1, 400, []))) (e1 : zex E (n + 21) d 217 0 [some (.ref 84)] [] h = some (.inl (some (.int q)), h)) (e2 : zex E (n + 15) d 329 0 [some (.ref 84), some (.int k)] [] h = some (.inl (some (.int v)), h)) (e3 : zex E (n + 9) d 327 0 [some (.ref 84), some (.int p), some (.int (v - r)), none] [] h = some (.inl (some (.int m)), h)) : zex E (n + 24) (d + 1) 330 115 [some (.ref 84), some (.int s), some (.int w), some (.int k), some (.int p)] [] h = zex E n (d + 1) 330 115 [some (.ref 84), some (.int s), some (.int w), some (.int k), some (.int (p + 1))] [] h :=
  ((yI zgw330_115 rfl) : zex E (n + 24) (d + 1) 330 115 [some (.ref 84), some (.int s), some (.int w), some (.int k), some (.int p)] [] h = zex E (n + 23) (d + 1) 330 117 [some (.ref 84), some (.int s), some (.int w), some (.int k), some (.int p)] [.int p] h).trans (((yAn zgw330_117 rfl rfl) : zex E (n + 23) (d + 1) 330 117 [some (.ref 84), some (.int s), some (.int w), some (.int k), some (.int p)] [.int p] h = zex E (n + 22) (d + 1) 330 118 [some (.ref 84), some (.int s), some (.int w), some (.int k), some (.int p)] [.ref 84, .int p] h).trans (((zcvg (h := h) (as := []) (r := [.int p]) zgw330_118 znwq217 rfl a84 rfl e1) : zex E (n + 22) (d + 1) 330 118 [some (.ref 84), some (.int s), some (.int w), some (.int k), some (.int p)] [.ref 84, .int p] h = zex E (n + 21) (d + 1) 330 121 [some (.ref 84), some (.int s), some (.int w), some (.int k), some (.int p)] [.int q, .int p] h).trans (((zkgF zgw330_121 hp) : zex E (n + 21) (d + 1) 330 121 [some (.ref 84), some (.int s), some (.int w), some (.int k), some (.int p)] [.int q, .int p] h = zex E (n + 20) (d + 1) 330 124 [some (.ref 84), some (.int s), some (.int w), some (.int k), some (.int p)] [] h).trans (((yAn zgw330_124 rfl rfl) : zex E (n + 20) (d + 1) 330 124 [some (.ref 84), some (.int s), some (.int w), some (.int k), some (.int p)] [] h = zex E (n + 19) (d + 1) 330 125 [some (.ref 84), some (.int s), some (.int w), some (.int k), some (.int p)] [.ref 84] h).trans (((yI zgw330_125 rfl) : zex E (n + 19) (d + 1) 330 125 [some (.ref 84), some (.int s), some (.int w), some (.int k), some (.int p)] [.ref 84] h = zex E (n + 18) (d + 1) 330 127 [some (.ref 84), some (.int s), some (.int w), some (.int k), some (.int p)] [.int p, .ref 84] h).trans (((yAn zgw330_127 rfl rfl) : zex E (n + 18) (d + 1) 330 127 [some (.ref 84), some (.int s), some (.int w), some (.int k), some (.int p)] [.int p, .ref 84] h = zex E (n + 17) (d + 1) 330 128 [some (.ref 84), some (.int s), some (.int w), some (.int k), some (.int p)] [.ref 84, .int p, .ref 84] h).trans (((yIn zgw330_128 rfl) : zex E (n + 17) (d + 1) 330 128 [some (.ref 84), some (.int s), some (.int w), some (.int k), some (.int p)] [.ref 84, .int p, .ref 84] h = zex E (n + 16) (d + 1) 330 129 [some (.ref 84), some (.int s), some (.int w), some (.int k), some (.int p)] [.int k, .ref 84, .int p, .ref 84] h).trans (((zcvg (h := h) (as := [.int k]) (r := [.int p, .ref 84]) zgw330_129 znwq329 rfl a84 rfl e2) : zex E (n + 16) (d + 1) 330 129 [some (.ref 84), some (.int s), some (.int w), some (.int k), some (.int p)] [.int k, .ref 84, .int p, .ref 84] h = zex E (n + 15) (d + 1) 330 132 [some (.ref 84), some (.int s), some (.int w), some (.int k), some (.int p)] [.int v, .int p, .ref 84] h).trans (((yAn zgw330_132 rfl rfl) : zex E (n + 15) (d + 1) 330 132 [some (.ref 84), some (.int s), some (.int w), some (.int k), some (.int p)] [.int v, .int p, .ref 84] h = zex E (n + 14) (d + 1) 330 133 [some (.ref 84), some (.int s), some (.int w), some (.int k), some (.int p)] [.ref 84, .int v, .int p, .ref 84] h).trans (((zgx zgw330_133 a84 rfl) : zex E (n + 14) (d + 1) 330 133 [some (.ref 84), some (.int s), some (.int w), some (.int k), some (.int p)] [.ref 84, .int v, .int p, .ref 84] h = zex E (n + 13) (d + 1) 330 136 [some (.ref 84), some (.int s), some (.int w), some (.int k), some (.int p)] [.ref 85, .int v, .int p, .ref 84] h).trans (((yCi zgw330_136) : zex E (n + 13) (d + 1) 330 136 [some (.ref 84), some (.int s), some (.int w), some (.int k), some (.int p)] [.ref 85, .int v, .int p, .ref 84] h = zex E (n + 12) (d + 1) 330 137 [some (.ref 84), some (.int s), some (.int w), some (.int k), some (.int p)] [.int 5, .ref 85, .int v, .int p, .ref 84] h).trans (((zlk zgw330_137 a85 (by decide : (5 : Int32).toInt = ((5 : Nat) : Int)) (by decide) hr) : zex E (n + 12) (d + 1) 330 137 [some (.ref 84), some (.int s), some (.int w), some (.int k), some (.int p)] [.int 5, .ref 85, .int v, .int p, .ref 84] h = zex E (n + 11) (d + 1) 330 138 [some (.ref 84), some (.int s), some (.int w), some (.int k), some (.int p)] [.int r, .int v, .int p, .ref 84] h).trans (((ySub zgw330_138) : zex E (n + 11) (d + 1) 330 138 [some (.ref 84), some (.int s), some (.int w), some (.int k), some (.int p)] [.int r, .int v, .int p, .ref 84] h = zex E (n + 10) (d + 1) 330 139 [some (.ref 84), some (.int s), some (.int w), some (.int k), some (.int p)] [.int (v - r), .int p, .ref 84] h).trans (((zcvg (h := h) (as := [.int p, .int (v - r)]) (r := []) zgw330_139 znwq327 rfl a84 rfl e3) : zex E (n + 10) (d + 1) 330 139 [some (.ref 84), some (.int s), some (.int w), some (.int k), some (.int p)] [.int (v - r), .int p, .ref 84] h = zex E (n + 9) (d + 1) 330 142 [some (.ref 84), some (.int s), some (.int w), some (.int k), some (.int p)] [.int m] h).trans (((yAn zgw330_142 rfl rfl) : zex E (n + 9) (d + 1) 330 142 [some (.ref 84), some (.int s), some (.int w), some (.int k), some (.int p)] [.int m] h = zex E (n + 8) (d + 1) 330 143 [some (.ref 84), some (.int s), some (.int w), some (.int k), some (.int p)] [.ref 84, .int m] h).trans (((zgx zgw330_143 a84 rfl) : zex E (n + 8) (d + 1) 330 143 [some (.ref 84), some (.int s), some (.int w), some (.int k), some (.int p)] [.ref 84, .int m] h = zex E (n + 7) (d + 1) 330 146 [some (.ref 84), some (.int s), some (.int w), some (.int k), some (.int p)] [.ref 90, .int m] h).trans (((yIn zgw330_146 rfl) : zex E (n + 7) (d + 1) 330 146 [some (.ref 84), some (.int s), some (.int w), some (.int k), some (.int p)] [.ref 90, .int m] h = zex E (n + 6) (d + 1) 330 147 [some (.ref 84), some (.int s), some (.int w), some (.int k), some (.int p)] [.int k, .ref 90, .int m] h).trans (((zlb zgw330_147 a90 hj hj4 ht) : zex E (n + 6) (d + 1) 330 147 [some (.ref 84), some (.int s), some (.int w), some (.int k), some (.int p)] [.int k, .ref 90, .int m] h = zex E (n + 5) (d + 1) 330 148 [some (.ref 84), some (.int s), some (.int w), some (.int k), some (.int p)] [.int t, .int m] h).trans (((yCb zgw330_148) : zex E (n + 5) (d + 1) 330 148 [some (.ref 84), some (.int s), some (.int w), some (.int k), some (.int p)] [.int t, .int m] h = zex E (n + 4) (d + 1) 330 150 [some (.ref 84), some (.int s), some (.int w), some (.int k), some (.int p)] [.int 97, .int t, .int m] h).trans (((ySub zgw330_150) : zex E (n + 4) (d + 1) 330 150 [some (.ref 84), some (.int s), some (.int w), some (.int k), some (.int p)] [.int 97, .int t, .int m] h = zex E (n + 3) (d + 1) 330 151 [some (.ref 84), some (.int s), some (.int w), some (.int k), some (.int p)] [.int (t - 97), .int m] h).trans (((zkeT zgw330_151 he) : zex E (n + 3) (d + 1) 330 151 [some (.ref 84), some (.int s), some (.int w), some (.int k), some (.int p)] [.int (t - 97), .int m] h = zex E (n + 2) (d + 1) 330 163 [some (.ref 84), some (.int s), some (.int w), some (.int k), some (.int p)] [] h).trans (((yInc zgw330_163 rfl) : zex E (n + 2) (d + 1) 330 163 [some (.ref 84), some (.int s), some (.int w), some (.int k), some (.int p)] [] h = zex E (n + 1) (d + 1) 330 166 [some (.ref 84), some (.int s), some (.int w), some (.int k), some (.int (p + 1))] [] h).trans (((yGo zgw330_166) : zex E (n + 1) (d + 1) 330 166 [some (.ref 84), some (.int s), some (.int w), some (.int k), some (.int (p + 1))] [] h = zex E n (d + 1) 330 115 [some (.ref 84), some (.int s), some (.int w), some (.int k), some (.int (p + 1))] [] h))))))))))))))))))))))))
set_option maxRecDepth 100000 in
theorem nmx_n {E : zE} {n d : Nat} {h : zH} {s w k p q v m r t : Int32} {J : Nat} (hp : p.toInt < q.toInt) (hr : h.2.1 85 5 = r) (hj : k.toInt = (J : Int)) (hj4 : J < 400) (ht : h.2.1 90 J = t) (he : m.toInt ≠ (t - 97).toInt) (a84 : zat h.1 84 = some (.inr (.inl (12, [none, some (some 85), some (some 86), some (some 87), some (some 88), some (some 89), none, none, some (some 90), none, none, none, none, none, none, some (some 91), none, some (some 92), some (some 93)])))) (a85 : zat h.1 85 = some (.inl (0, 2475, []))) (a90 : zat h.1 90 = some (.inl (1, 400, []))) (e1 : zex E (n + 29) d 217 0 [some (.ref 84)] [] h = some (.inl (some (.int q)), h)) (e2 : zex E (n + 23) d 329 0 [some (.ref 84), some (.int k)] [] h = some (.inl (some (.int v)), h)) (e3 : zex E (n + 17) d 327 0 [some (.ref 84), some (.int p), some (.int (v - r)), none] [] h = some (.inl (some (.int m)), h)) : zex E (n + 32) (d + 1) 330 115 [some (.ref 84), some (.int s), some (.int w), some (.int k), some (.int p)] [] h = zex E n (d + 1) 330 115 [some (.ref 84), some (.int s), some (.int (w &&& (((1 : Int32) <<< (p &&& 31)) ^^^ (-1)))), some (.int k), some (.int (p + 1))] [] h :=
  ((yI zgw330_115 rfl) : zex E (n + 32) (d + 1) 330 115 [some (.ref 84), some (.int s), some (.int w), some (.int k), some (.int p)] [] h = zex E (n + 31) (d + 1) 330 117 [some (.ref 84), some (.int s), some (.int w), some (.int k), some (.int p)] [.int p] h).trans (((yAn zgw330_117 rfl rfl) : zex E (n + 31) (d + 1) 330 117 [some (.ref 84), some (.int s), some (.int w), some (.int k), some (.int p)] [.int p] h = zex E (n + 30) (d + 1) 330 118 [some (.ref 84), some (.int s), some (.int w), some (.int k), some (.int p)] [.ref 84, .int p] h).trans (((zcvg (h := h) (as := []) (r := [.int p]) zgw330_118 znwq217 rfl a84 rfl e1) : zex E (n + 30) (d + 1) 330 118 [some (.ref 84), some (.int s), some (.int w), some (.int k), some (.int p)] [.ref 84, .int p] h = zex E (n + 29) (d + 1) 330 121 [some (.ref 84), some (.int s), some (.int w), some (.int k), some (.int p)] [.int q, .int p] h).trans (((zkgF zgw330_121 hp) : zex E (n + 29) (d + 1) 330 121 [some (.ref 84), some (.int s), some (.int w), some (.int k), some (.int p)] [.int q, .int p] h = zex E (n + 28) (d + 1) 330 124 [some (.ref 84), some (.int s), some (.int w), some (.int k), some (.int p)] [] h).trans (((yAn zgw330_124 rfl rfl) : zex E (n + 28) (d + 1) 330 124 [some (.ref 84), some (.int s), some (.int w), some (.int k), some (.int p)] [] h = zex E (n + 27) (d + 1) 330 125 [some (.ref 84), some (.int s), some (.int w), some (.int k), some (.int p)] [.ref 84] h).trans (((yI zgw330_125 rfl) : zex E (n + 27) (d + 1) 330 125 [some (.ref 84), some (.int s), some (.int w), some (.int k), some (.int p)] [.ref 84] h = zex E (n + 26) (d + 1) 330 127 [some (.ref 84), some (.int s), some (.int w), some (.int k), some (.int p)] [.int p, .ref 84] h).trans (((yAn zgw330_127 rfl rfl) : zex E (n + 26) (d + 1) 330 127 [some (.ref 84), some (.int s), some (.int w), some (.int k), some (.int p)] [.int p, .ref 84] h = zex E (n + 25) (d + 1) 330 128 [some (.ref 84), some (.int s), some (.int w), some (.int k), some (.int p)] [.ref 84, .int p, .ref 84] h).trans (((yIn zgw330_128 rfl) : zex E (n + 25) (d + 1) 330 128 [some (.ref 84), some (.int s), some (.int w), some (.int k), some (.int p)] [.ref 84, .int p, .ref 84] h = zex E (n + 24) (d + 1) 330 129 [some (.ref 84), some (.int s), some (.int w), some (.int k), some (.int p)] [.int k, .ref 84, .int p, .ref 84] h).trans (((zcvg (h := h) (as := [.int k]) (r := [.int p, .ref 84]) zgw330_129 znwq329 rfl a84 rfl e2) : zex E (n + 24) (d + 1) 330 129 [some (.ref 84), some (.int s), some (.int w), some (.int k), some (.int p)] [.int k, .ref 84, .int p, .ref 84] h = zex E (n + 23) (d + 1) 330 132 [some (.ref 84), some (.int s), some (.int w), some (.int k), some (.int p)] [.int v, .int p, .ref 84] h).trans (((yAn zgw330_132 rfl rfl) : zex E (n + 23) (d + 1) 330 132 [some (.ref 84), some (.int s), some (.int w), some (.int k), some (.int p)] [.int v, .int p, .ref 84] h = zex E (n + 22) (d + 1) 330 133 [some (.ref 84), some (.int s), some (.int w), some (.int k), some (.int p)] [.ref 84, .int v, .int p, .ref 84] h).trans (((zgx zgw330_133 a84 rfl) : zex E (n + 22) (d + 1) 330 133 [some (.ref 84), some (.int s), some (.int w), some (.int k), some (.int p)] [.ref 84, .int v, .int p, .ref 84] h = zex E (n + 21) (d + 1) 330 136 [some (.ref 84), some (.int s), some (.int w), some (.int k), some (.int p)] [.ref 85, .int v, .int p, .ref 84] h).trans (((yCi zgw330_136) : zex E (n + 21) (d + 1) 330 136 [some (.ref 84), some (.int s), some (.int w), some (.int k), some (.int p)] [.ref 85, .int v, .int p, .ref 84] h = zex E (n + 20) (d + 1) 330 137 [some (.ref 84), some (.int s), some (.int w), some (.int k), some (.int p)] [.int 5, .ref 85, .int v, .int p, .ref 84] h).trans (((zlk zgw330_137 a85 (by decide : (5 : Int32).toInt = ((5 : Nat) : Int)) (by decide) hr) : zex E (n + 20) (d + 1) 330 137 [some (.ref 84), some (.int s), some (.int w), some (.int k), some (.int p)] [.int 5, .ref 85, .int v, .int p, .ref 84] h = zex E (n + 19) (d + 1) 330 138 [some (.ref 84), some (.int s), some (.int w), some (.int k), some (.int p)] [.int r, .int v, .int p, .ref 84] h).trans (((ySub zgw330_138) : zex E (n + 19) (d + 1) 330 138 [some (.ref 84), some (.int s), some (.int w), some (.int k), some (.int p)] [.int r, .int v, .int p, .ref 84] h = zex E (n + 18) (d + 1) 330 139 [some (.ref 84), some (.int s), some (.int w), some (.int k), some (.int p)] [.int (v - r), .int p, .ref 84] h).trans (((zcvg (h := h) (as := [.int p, .int (v - r)]) (r := []) zgw330_139 znwq327 rfl a84 rfl e3) : zex E (n + 18) (d + 1) 330 139 [some (.ref 84), some (.int s), some (.int w), some (.int k), some (.int p)] [.int (v - r), .int p, .ref 84] h = zex E (n + 17) (d + 1) 330 142 [some (.ref 84), some (.int s), some (.int w), some (.int k), some (.int p)] [.int m] h).trans (((yAn zgw330_142 rfl rfl) : zex E (n + 17) (d + 1) 330 142 [some (.ref 84), some (.int s), some (.int w), some (.int k), some (.int p)] [.int m] h = zex E (n + 16) (d + 1) 330 143 [some (.ref 84), some (.int s), some (.int w), some (.int k), some (.int p)] [.ref 84, .int m] h).trans (((zgx zgw330_143 a84 rfl) : zex E (n + 16) (d + 1) 330 143 [some (.ref 84), some (.int s), some (.int w), some (.int k), some (.int p)] [.ref 84, .int m] h = zex E (n + 15) (d + 1) 330 146 [some (.ref 84), some (.int s), some (.int w), some (.int k), some (.int p)] [.ref 90, .int m] h).trans (((yIn zgw330_146 rfl) : zex E (n + 15) (d + 1) 330 146 [some (.ref 84), some (.int s), some (.int w), some (.int k), some (.int p)] [.ref 90, .int m] h = zex E (n + 14) (d + 1) 330 147 [some (.ref 84), some (.int s), some (.int w), some (.int k), some (.int p)] [.int k, .ref 90, .int m] h).trans (((zlb zgw330_147 a90 hj hj4 ht) : zex E (n + 14) (d + 1) 330 147 [some (.ref 84), some (.int s), some (.int w), some (.int k), some (.int p)] [.int k, .ref 90, .int m] h = zex E (n + 13) (d + 1) 330 148 [some (.ref 84), some (.int s), some (.int w), some (.int k), some (.int p)] [.int t, .int m] h).trans (((yCb zgw330_148) : zex E (n + 13) (d + 1) 330 148 [some (.ref 84), some (.int s), some (.int w), some (.int k), some (.int p)] [.int t, .int m] h = zex E (n + 12) (d + 1) 330 150 [some (.ref 84), some (.int s), some (.int w), some (.int k), some (.int p)] [.int 97, .int t, .int m] h).trans (((ySub zgw330_150) : zex E (n + 12) (d + 1) 330 150 [some (.ref 84), some (.int s), some (.int w), some (.int k), some (.int p)] [.int 97, .int t, .int m] h = zex E (n + 11) (d + 1) 330 151 [some (.ref 84), some (.int s), some (.int w), some (.int k), some (.int p)] [.int (t - 97), .int m] h).trans (((zkeF zgw330_151 he) : zex E (n + 11) (d + 1) 330 151 [some (.ref 84), some (.int s), some (.int w), some (.int k), some (.int p)] [.int (t - 97), .int m] h = zex E (n + 10) (d + 1) 330 154 [some (.ref 84), some (.int s), some (.int w), some (.int k), some (.int p)] [] h).trans (((yIn zgw330_154 rfl) : zex E (n + 10) (d + 1) 330 154 [some (.ref 84), some (.int s), some (.int w), some (.int k), some (.int p)] [] h = zex E (n + 9) (d + 1) 330 155 [some (.ref 84), some (.int s), some (.int w), some (.int k), some (.int p)] [.int w] h).trans (((yCi zgw330_155) : zex E (n + 9) (d + 1) 330 155 [some (.ref 84), some (.int s), some (.int w), some (.int k), some (.int p)] [.int w] h = zex E (n + 8) (d + 1) 330 156 [some (.ref 84), some (.int s), some (.int w), some (.int k), some (.int p)] [.int 1, .int w] h).trans (((yI zgw330_156 rfl) : zex E (n + 8) (d + 1) 330 156 [some (.ref 84), some (.int s), some (.int w), some (.int k), some (.int p)] [.int 1, .int w] h = zex E (n + 7) (d + 1) 330 158 [some (.ref 84), some (.int s), some (.int w), some (.int k), some (.int p)] [.int p, .int 1, .int w] h).trans (((yShl zgw330_158) : zex E (n + 7) (d + 1) 330 158 [some (.ref 84), some (.int s), some (.int w), some (.int k), some (.int p)] [.int p, .int 1, .int w] h = zex E (n + 6) (d + 1) 330 159 [some (.ref 84), some (.int s), some (.int w), some (.int k), some (.int p)] [.int ((1 : Int32) <<< (p &&& 31)), .int w] h).trans (((yCi zgw330_159) : zex E (n + 6) (d + 1) 330 159 [some (.ref 84), some (.int s), some (.int w), some (.int k), some (.int p)] [.int ((1 : Int32) <<< (p &&& 31)), .int w] h = zex E (n + 5) (d + 1) 330 160 [some (.ref 84), some (.int s), some (.int w), some (.int k), some (.int p)] [.int (-1), .int ((1 : Int32) <<< (p &&& 31)), .int w] h).trans (((yXor zgw330_160) : zex E (n + 5) (d + 1) 330 160 [some (.ref 84), some (.int s), some (.int w), some (.int k), some (.int p)] [.int (-1), .int ((1 : Int32) <<< (p &&& 31)), .int w] h = zex E (n + 4) (d + 1) 330 161 [some (.ref 84), some (.int s), some (.int w), some (.int k), some (.int p)] [.int (((1 : Int32) <<< (p &&& 31)) ^^^ (-1)), .int w] h).trans (((yAnd zgw330_161) : zex E (n + 4) (d + 1) 330 161 [some (.ref 84), some (.int s), some (.int w), some (.int k), some (.int p)] [.int (((1 : Int32) <<< (p &&& 31)) ^^^ (-1)), .int w] h = zex E (n + 3) (d + 1) 330 162 [some (.ref 84), some (.int s), some (.int w), some (.int k), some (.int p)] [.int (w &&& (((1 : Int32) <<< (p &&& 31)) ^^^ (-1)))] h).trans (((ySn zgw330_162) : zex E (n + 3) (d + 1) 330 162 [some (.ref 84), some (.int s), some (.int w), some (.int k), some (.int p)] [.int (w &&& (((1 : Int32) <<< (p &&& 31)) ^^^ (-1)))] h = zex E (n + 2) (d + 1) 330 163 [some (.ref 84), some (.int s), some (.int (w &&& (((1 : Int32) <<< (p &&& 31)) ^^^ (-1)))), some (.int k), some (.int p)] [] h).trans (((yInc zgw330_163 rfl) : zex E (n + 2) (d + 1) 330 163 [some (.ref 84), some (.int s), some (.int (w &&& (((1 : Int32) <<< (p &&& 31)) ^^^ (-1)))), some (.int k), some (.int p)] [] h = zex E (n + 1) (d + 1) 330 166 [some (.ref 84), some (.int s), some (.int (w &&& (((1 : Int32) <<< (p &&& 31)) ^^^ (-1)))), some (.int k), some (.int (p + 1))] [] h).trans (((yGo zgw330_166) : zex E (n + 1) (d + 1) 330 166 [some (.ref 84), some (.int s), some (.int (w &&& (((1 : Int32) <<< (p &&& 31)) ^^^ (-1)))), some (.int k), some (.int (p + 1))] [] h = zex E n (d + 1) 330 115 [some (.ref 84), some (.int s), some (.int (w &&& (((1 : Int32) <<< (p &&& 31)) ^^^ (-1)))), some (.int k), some (.int (p + 1))] [] h))))))))))))))))))))))))))))))))
set_option maxRecDepth 100000 in
theorem nmx_9 {E : zE} {n d : Nat} {h : zH} {v : Int32} (hv : h.2.1 85 2 = v) (a84 : zat h.1 84 = some (.inr (.inl (12, [none, some (some 85), some (some 86), some (some 87), some (some 88), some (some 89), none, none, some (some 90), none, none, none, none, none, none, some (some 91), none, some (some 92), some (some 93)])))) (a85 : zat h.1 85 = some (.inl (0, 2475, [])))  : zex E (n + 5) d 217 0 [some (.ref 84)] [] h = some (.inl (some (.int v)), h) :=
  ((yAn zgw217_0 rfl rfl) : zex E (n + 5) d 217 0 [some (.ref 84)] [] h = zex E (n + 4) d 217 1 [some (.ref 84)] [.ref 84] h).trans (((zgx zgw217_1 a84 rfl) : zex E (n + 4) d 217 1 [some (.ref 84)] [.ref 84] h = zex E (n + 3) d 217 4 [some (.ref 84)] [.ref 85] h).trans (((yCi zgw217_4) : zex E (n + 3) d 217 4 [some (.ref 84)] [.ref 85] h = zex E (n + 2) d 217 5 [some (.ref 84)] [.int 2, .ref 85] h).trans (((zlk zgw217_5 a85 (by decide : (2 : Int32).toInt = ((2 : Nat) : Int)) (by decide) hv) : zex E (n + 2) d 217 5 [some (.ref 84)] [.int 2, .ref 85] h = zex E (n + 1) d 217 6 [some (.ref 84)] [.int v] h).trans (((yRet1 zgw217_6 rfl) : zex E (n + 1) d 217 6 [some (.ref 84)] [.int v] h = some (.inl (some (.int v)), h))))))
/-- bits of a number below 4096 -/
def bNs (x : Int32) (f : Nat → Bool) : Prop := ∃ n : Nat, x.toInt = (n : Int) ∧ n < 4096 ∧ ∀ b, b < 12 → Nat.testBit n b = f b
set_option maxRecDepth 100000 in
theorem bNs_c {x : Int32} {f g : Nat → Bool} (h : bNs x f) (e : ∀ b, b < 12 → f b = g b) : bNs x g := by
  obtain ⟨n, h1, h2, h3⟩ := h
  exact ⟨n, h1, h2, fun b hb => (h3 b hb).trans (e b hb)⟩
set_option maxRecDepth 100000 in
theorem bNs_o {x y : Int32} {f g : Nat → Bool} (h : bNs x f) (k : bNs y g) : bNs (x ||| y) (fun b => f b || g b) := by
  obtain ⟨n, h1, h2, h3⟩ := h
  obtain ⟨m, k1, k2, k3⟩ := k
  obtain ⟨o1, o2⟩ := or_n h1 k1 h2 k2
  exact ⟨n ||| m, o1, o2, fun b hb => by rw [Nat.testBit_or, h3 b hb, k3 b hb]⟩
set_option maxRecDepth 100000 in
theorem bNs_0 : bNs 0 (fun _ => false) := ⟨0, by decide, by decide, fun b _ => by rw [Nat.zero_testBit]⟩
set_option maxRecDepth 100000 in
theorem bNs_1 {z : Int32} {a : Nat} (hz : z.toInt = (a : Int)) (ha : a < 12) : bNs ((1 : Int32) <<< (z &&& 31)) (fun b => Nat.beq b a) := by
  obtain ⟨s1, s2⟩ := shl_n hz ha
  refine ⟨2 ^ a, s1, s2, fun b _ => ?_⟩
  rw [Nat.testBit_two_pow]
  show decide (a = b) = Nat.beq b a
  by_cases hq : a = b
  · subst hq; rw [Nat.beq_refl]; exact decide_eq_true rfl
  · rw [nbq (Ne.symm hq), decide_eq_false hq]
set_option maxRecDepth 100000 in
theorem bNs_a {x y : Int32} {f g : Nat → Bool} (h : bNs x f) (k : bNs y g) : bNs (x &&& y) (fun b => f b && g b) := by
  obtain ⟨n, h1, h2, h3⟩ := h
  obtain ⟨m, k1, k2, k3⟩ := k
  obtain ⟨q1, q2⟩ := btn (x := x) (by omega)
  obtain ⟨q3, q4⟩ := btn (x := y) (by omega)
  have e1 : x.toBitVec.toNat = n := by omega
  have e2 : y.toBitVec.toNat = m := by omega
  have h5 : (x &&& y).toBitVec.toNat = n &&& m := by rw [Int32.toBitVec_and, BitVec.toNat_and, e1, e2]
  have h6 : n &&& m ≤ n := Nat.and_le_left
  have h8 := btn2 (x := x &&& y) (by omega)
  exact ⟨n &&& m, by omega, by omega, fun b hb => by rw [Nat.testBit_and, h3 b hb, k3 b hb]⟩
set_option maxRecDepth 100000 in
theorem bn_y : ∀ a, a < 12 → ∀ b, b < 12 → Nat.testBit ((((1 : Int32) <<< (Int32.ofNat a &&& 31)) ^^^ (-1)).toBitVec.toNat) b = !(Nat.beq b a) := by decide +kernel
set_option maxRecDepth 100000 in
theorem bNs_n {x z : Int32} {f : Nat → Bool} {a : Nat} (h : bNs x f) (hz : z.toInt = (a : Int)) (ha : a < 12) : bNs (x &&& (((1 : Int32) <<< (z &&& 31)) ^^^ (-1))) (fun b => f b && !(Nat.beq b a)) := by
  obtain ⟨n, h1, h2, h3⟩ := h
  rw [i32_nat hz]
  obtain ⟨q1, q2⟩ := btn (x := x) (by omega)
  have e1 : x.toBitVec.toNat = n := by omega
  have hy := bn_y a ha
  obtain ⟨y, hy0⟩ : ∃ y, y = (((1 : Int32) <<< (Int32.ofNat a &&& 31)) ^^^ (-1)) := ⟨_, rfl⟩
  rw [← hy0] at hy ⊢
  have h5 : (x &&& y).toBitVec.toNat = n &&& y.toBitVec.toNat := by rw [Int32.toBitVec_and, BitVec.toNat_and, e1]
  have h6 : n &&& y.toBitVec.toNat ≤ n := Nat.and_le_left
  have h8 := btn2 (x := x &&& y) (by omega)
  exact ⟨n &&& y.toBitVec.toNat, by omega, by omega, fun b hb => by rw [Nat.testBit_and, h3 b hb, hy b hb]⟩
set_option maxRecDepth 100000 in
theorem bNs_e {x y : Int32} {f : Nat → Bool} (h : bNs x f) (k : bNs y f) : x.toInt = y.toInt := by
  obtain ⟨n, h1, h2, h3⟩ := h
  obtain ⟨m, k1, k2, k3⟩ := k
  have e : n = m := Nat.eq_of_testBit_eq fun i => by
    by_cases hi : i < 12
    · rw [h3 i hi, k3 i hi]
    · have p : 4096 ≤ 2 ^ i := Nat.le_trans (by decide : 4096 ≤ 2 ^ 12) (Nat.pow_le_pow_right (by decide) (by omega))
      rw [Nat.testBit_lt_two_pow (Nat.lt_of_lt_of_le h2 p), Nat.testBit_lt_two_pow (Nat.lt_of_lt_of_le k2 p)]
  rw [h1, k1, e]
set_option maxRecDepth 100000 in
theorem bn_f : ∀ P, P < 9 → (((1 : Int32) <<< (Int32.ofNat P &&& 31)) - 1).toInt = ((2 ^ P - 1 : Nat) : Int) ∧ 2 ^ P - 1 < 4096 ∧ ∀ b, b < 12 → Nat.testBit (2 ^ P - 1) b = Nat.ble (b + 1) P := by decide +kernel
set_option maxRecDepth 100000 in
theorem bNs_f {z : Int32} {P : Nat} (hz : z.toInt = (P : Int)) (hP : P < 9) : bNs (((1 : Int32) <<< (z &&& 31)) - 1) (fun b => Nat.ble (b + 1) P) := by
  rw [i32_nat hz]
  exact ⟨2 ^ P - 1, (bn_f P hP).1, (bn_f P hP).2.1, (bn_f P hP).2.2⟩
set_option maxRecDepth 100000 in
theorem ble_t {a b : Nat} (h : a ≤ b) : Nat.ble a b = true := Nat.ble_eq_true_of_le h
set_option maxRecDepth 100000 in
theorem ble_f {a b : Nat} (h : ¬ a ≤ b) : Nat.ble a b = false := by
  cases hz : Nat.ble a b with
  | false => rfl
  | true => exact absurd (Nat.le_of_ble_eq_true hz) h
set_option maxRecDepth 100000 in
theorem ble_1 {g : Nat → Bool} {o b : Nat} (hg : g o = true) : ((Nat.ble (b + 1) o && g b) || Nat.beq b o) = (Nat.ble (b + 1) (o + 1) && g b) := by
  by_cases hb : b = o
  · subst hb
    rw [hg, Nat.beq_refl, ble_t (Nat.le_refl (b + 1)), Bool.or_true]
    rfl
  · rw [nbq hb, Bool.or_false]
    by_cases hl : b < o
    · rw [ble_t (show b + 1 ≤ o by omega), ble_t (show b + 1 ≤ o + 1 by omega)]
    · rw [ble_f (show ¬ b + 1 ≤ o by omega), ble_f (show ¬ b + 1 ≤ o + 1 by omega)]
set_option maxRecDepth 100000 in
theorem ble_0 {g : Nat → Bool} {o b : Nat} (hg : g o = false) : (Nat.ble (b + 1) o && g b) = (Nat.ble (b + 1) (o + 1) && g b) := by
  by_cases hb : b = o
  · subst hb
    rw [hg, Bool.and_false, Bool.and_false]
  · by_cases hl : b < o
    · rw [ble_t (show b + 1 ≤ o by omega), ble_t (show b + 1 ≤ o + 1 by omega)]
    · rw [ble_f (show ¬ b + 1 ≤ o by omega), ble_f (show ¬ b + 1 ≤ o + 1 by omega)]
set_option maxRecDepth 100000 in
theorem bl9_y {f g : Nat → Bool} {o b : Nat} (hg : g o = true) : (f b && (!(Nat.ble (b + 1) o) || g b)) = (f b && (!(Nat.ble (b + 1) (o + 1)) || g b)) := by
  by_cases hb : b = o
  · subst hb
    rw [hg, Bool.or_true, Bool.or_true]
  · by_cases hl : b < o
    · rw [ble_t (show b + 1 ≤ o by omega), ble_t (show b + 1 ≤ o + 1 by omega)]
    · rw [ble_f (show ¬ b + 1 ≤ o by omega), ble_f (show ¬ b + 1 ≤ o + 1 by omega)]
set_option maxRecDepth 100000 in
theorem bl9_n {f g : Nat → Bool} {o b : Nat} (hg : g o = false) : ((f b && (!(Nat.ble (b + 1) o) || g b)) && !(Nat.beq b o)) = (f b && (!(Nat.ble (b + 1) (o + 1)) || g b)) := by
  by_cases hb : b = o
  · subst hb
    rw [hg, Nat.beq_refl, ble_t (Nat.le_refl (b + 1)), Bool.or_false, Bool.or_false]
    show (_ && false) = (f b && false)
    rw [Bool.and_false, Bool.and_false]
  · rw [nbq hb]
    show (_ && true) = _
    rw [Bool.and_true]
    by_cases hl : b < o
    · rw [ble_t (show b + 1 ≤ o by omega), ble_t (show b + 1 ≤ o + 1 by omega)]
    · rw [ble_f (show ¬ b + 1 ≤ o by omega), ble_f (show ¬ b + 1 ≤ o + 1 by omega)]
set_option maxRecDepth 100000 in
theorem bl9_e {P b : Nat} {f g : Nat → Bool} (hf : f b = true → b < P) : (f b && (!(Nat.ble (b + 1) P) || g b)) = (f b && (Nat.ble (b + 1) P && g b)) := by
  cases hq : f b with
  | false => rw [Bool.false_and, Bool.false_and]
  | true =>
    rw [ble_t (hf hq)]
    show (true && (false || g b)) = (true && (true && g b))
    rw [Bool.false_or, Bool.true_and, Bool.true_and]
-- numbers
set_option maxRecDepth 100000 in
theorem no_8 : ∀ A, A < 256 → (Int32.ofNat A <<< ((8 : Int32) &&& 31)).toInt = ((256 * A : Nat) : Int) := by decide +kernel
set_option maxRecDepth 100000 in
theorem no_5 : ∀ A : Nat, A < 256 → (Int32.ofInt (sg8 (A : Int)) &&& 255) = Int32.ofNat A := by decide +kernel
set_option maxRecDepth 100000 in
theorem no_c : ∀ A, A < 256 → (Int32.ofNat A).toInt = (A : Int) := by decide +kernel
set_option maxRecDepth 100000 in
theorem no_o {x y : Int32} {n m : Nat} (hx : x.toInt = ((256 * n : Nat) : Int)) (hy : y.toInt = (m : Int)) (hn : n < 256) (hm : m < 256) : (x ||| y).toInt = ((256 * n + m : Nat) : Int) := by
  obtain ⟨q1, q2⟩ := btn (x := x) (by omega)
  obtain ⟨q3, q4⟩ := btn (x := y) (by omega)
  have h7 : n <<< 8 = n * 256 := Nat.shiftLeft_eq n 8
  have e1 : x.toBitVec.toNat = n <<< 8 := by rw [h7]; omega
  have e2 : y.toBitVec.toNat = m := by omega
  have h5 : (x ||| y).toBitVec.toNat = n <<< 8 ||| m := by rw [Int32.toBitVec_or, BitVec.toNat_or, e1, e2]
  have h6 : n <<< 8 + m = n <<< 8 ||| m := Nat.shiftLeft_add_eq_or_of_lt (show m < 2 ^ 8 from hm) n
  rw [← h6, h7] at h5
  have h8 := btn2 (x := x ||| y) (by omega)
  omega
set_option maxRecDepth 100000 in
theorem no_v {A C : Nat} (hA : A < 256) (hC : C < 256) : ((Int32.ofNat A <<< ((8 : Int32) &&& 31)) ||| Int32.ofNat C) = Int32.ofNat (256 * A + C) := i32_nat (no_o (no_8 A hA) (no_c C hC) hA hC)
set_option maxRecDepth 100000 in
theorem no_w {A C : Nat} (hA : A < 256) (hC : C < 256) : (Int32.ofNat (256 * A + C)).toInt = ((256 * A + C : Nat) : Int) := by
  rw [← no_v hA hC]
  exact no_o (no_8 A hA) (no_c C hC) hA hC
set_option maxRecDepth 100000 in
theorem no_u {t : Int32} {A : Nat} (ht : t.toInt = sg8 (A : Int)) (hA : A < 256) : t &&& 255 = Int32.ofNat A := by
  rw [← no_5 A hA, ← ht, Int32.ofInt_toInt]
set_option maxRecDepth 100000 in
theorem no_i97 : (97 : Int32).toInt = 97 := by decide
set_option maxRecDepth 100000 in
theorem no_i2 : (2 : Int32).toInt = 2 := by decide
set_option maxRecDepth 100000 in
theorem no_i3 : (3 : Int32).toInt = 3 := by decide
set_option maxRecDepth 100000 in
theorem no_i9 : (9999 : Int32).toInt = 9999 := by decide
set_option maxRecDepth 100000 in
theorem no_97 {t : Int32} {A : Nat} (ht : t.toInt = (A : Int)) (hA : A < 256) : (t - 97).toInt = (A : Int) - 97 := by
  rw [i32_sub (by rw [ht, no_i97]; omega) (by rw [ht, no_i97]; omega), ht, no_i97]
set_option maxRecDepth 100000 in
theorem no_s97 {t : Int32} {A : Nat} (ht : t.toInt = sg8 (A : Int)) (hA : A < 256) : (t - 97).toInt = (if A < 128 then (A : Int) - 97 else (A : Int) - 353) := by
  have hs : sg8 (A : Int) = (if A < 128 then (A : Int) else (A : Int) - 256) := by
    unfold sg8
    by_cases z : A < 128
    · rw [if_pos z, if_pos (by omega)]
    · rw [if_neg z, if_neg (by omega)]
  rw [hs] at ht
  by_cases z : A < 128
  · rw [if_pos z] at ht ⊢
    rw [i32_sub (by rw [ht, no_i97]; omega) (by rw [ht, no_i97]; omega), ht, no_i97]
  · rw [if_neg z] at ht ⊢
    rw [i32_sub (by rw [ht, no_i97]; omega) (by rw [ht, no_i97]; omega), ht, no_i97]
    omega
set_option maxRecDepth 100000 in
theorem no_rem {l : Int32} {L : Nat} (hl : l.toInt = (L : Int)) : (l - l / 3 * 3).toInt = ((L % 3 : Nat) : Int) := by
  have k := brem_eq (x := l) (y := 3) (by decide)
  rw [hl, no_i3, Int.tmod_eq_emod_of_nonneg (by omega)] at k
  omega
set_option maxRecDepth 100000 in
theorem no_e (X l : Int) (hl : 0 < l) : (0 ≤ X → X.tmod l = X % l) ∧ (X < 0 → X.tmod l = 0 → X % l = 0) ∧ (X < 0 → X.tmod l ≠ 0 → X.tmod l + l = X % l) ∧ (X.tmod l + l).tmod l = X % l ∧ (0 ≤ X % l ∧ X % l < l) ∧ -l < X.tmod l ∧ X.tmod l < l := by
  have p0 := Int.emod_nonneg X (show l ≠ 0 by omega)
  have p1 := Int.emod_lt_of_pos X hl
  have p2 : (X % l) % l = X % l := Int.emod_emod X l
  have hab : ((l.natAbs : Nat) : Int) = l := Int.natAbs_of_nonneg (by omega)
  have t : (0 ≤ X ∧ X.tmod l = X % l) ∨ (X < 0 ∧ X % l = 0 ∧ X.tmod l = 0) ∨ (X < 0 ∧ X % l ≠ 0 ∧ X.tmod l = X % l - l) := by
    by_cases h0 : 0 ≤ X
    · exact Or.inl ⟨h0, Int.tmod_eq_emod_of_nonneg h0⟩
    · have t := Int.tmod_eq_emod (a := X) (b := l)
      by_cases hd : l ∣ X
      · rw [if_pos (Or.inr hd)] at t
        have z := Int.emod_eq_zero_of_dvd hd
        exact Or.inr (Or.inl ⟨by omega, z, by omega⟩)
      · rw [if_neg (fun z => z.elim h0 hd), hab] at t
        exact Or.inr (Or.inr ⟨by omega, fun z => hd (Int.dvd_of_emod_eq_zero z), t⟩)
  have u : (X.tmod l + l).tmod l = X % l := by
    rw [Int.tmod_eq_emod_of_nonneg (show 0 ≤ X.tmod l + l by rcases t with ⟨-, t⟩ | ⟨-, -, t⟩ | ⟨-, -, t⟩ <;> omega), Int.add_emod_right]
    rcases t with ⟨-, t⟩ | ⟨-, t1, t⟩ | ⟨-, -, t⟩
    · rw [t]; exact p2
    · rw [t, ← t1]; exact p2
    · have q := Int.add_emod_right (X % l - l) l
      rw [Int.sub_add_cancel] at q
      rw [t, ← q]
      exact p2
  obtain ⟨M, hM⟩ : ∃ M, M = X % l := ⟨_, rfl⟩
  obtain ⟨N, hN⟩ : ∃ N, N = X.tmod l := ⟨_, rfl⟩
  rw [← hM] at p0 p1
  rw [← hM, ← hN] at t
  refine ⟨fun z => ?_, fun z y => ?_, fun z y => ?_, u, ⟨?_, ?_⟩, ?_, ?_⟩
  · rw [← hM, ← hN]; omega
  · rw [← hM]; rw [← hN] at y; omega
  · rw [← hM, ← hN]; rw [← hN] at y; omega
  · rw [← hM]; omega
  · rw [← hM]; omega
  · rw [← hN]; omega
  · rw [← hN]; omega
-- what is asked
def no_g (T : Nat → Nat) (i : Nat) : Int32 := Int32.ofNat (256 * T (i + 1) + T (i + 2))
def noX (σ : hSt) (a : Nat → Int32) (k9 : Int32) (b : Nat) : Nat := swk σ b ((a b + k9).toInt % (ssl σ b : Int)).toNat
def noB (σ : hSt) (a : Nat → Int32) (k9 : Int32) (M b : Nat) : Bool := Nat.beq (noX σ a k9 b) M
def nok (T : Nat → Nat) (R i : Nat) : Bool := decide (97 ≤ T i ∧ T i < 97 + R ∧ 256 * T (i + 1) + T (i + 2) ≤ 9999)
def noA (T : Nat → Nat) (R : Nat) : Nat → Nat → Bool
  | 0, _ => true
  | m + 1, i => nok T R i && noA T R m (i + 3)
def noF (P : Nat) (g : Nat → Nat → Bool) : Nat → Nat → (Nat → Bool) → Nat → Bool
  | 0, _, f => f
  | m + 1, i, f => noF P g m (i + 3) (fun b => f b && (Nat.ble (b + 1) P && g i b))
def nog (σ : hSt) (a : Nat → Int32) (r : Int32) (T : Nat → Nat) (i b : Nat) : Bool := noB σ a (no_g T i - r) (T i - 97) b
abbrev noK (T : Nat → Nat) (R L : Nat) : Prop := L % 3 = 0 ∧ noA T R (L / 3) 0 = true
def noW9 (σ : hSt) (a : Nat → Int32) (r : Int32) (T : Nat → Nat) (L : Nat) : Nat → Bool := noF (sP σ) (nog σ a r T) (L / 3) 0 (fun b => Nat.ble (b + 1) (sP σ))
set_option maxRecDepth 100000 in
theorem no_ff : ¬ (false = true) := by decide
set_option maxRecDepth 100000 in
theorem noA_f {T : Nat → Nat} {R m i : Nat} (z : ¬ (97 ≤ T i ∧ T i < 97 + R ∧ 256 * T (i + 1) + T (i + 2) ≤ 9999)) : noA T R (m + 1) i = false := by
  show (nok T R i && noA T R m (i + 3)) = false
  rw [show nok T R i = false from decide_eq_false z, Bool.false_and]
set_option maxRecDepth 100000 in
theorem noA_t {T : Nat → Nat} {R m i : Nat} (z : 97 ≤ T i ∧ T i < 97 + R ∧ 256 * T (i + 1) + T (i + 2) ≤ 9999) : noA T R (m + 1) i = noA T R m (i + 3) := by
  show (nok T R i && noA T R m (i + 3)) = _
  rw [show nok T R i = true from decide_eq_true z, Bool.true_and]
set_option maxRecDepth 100000 in
theorem noA_d {T : Nat → Nat} {R m i : Nat} (z : noA T R (m + 1) i = true) : (97 ≤ T i ∧ T i < 97 + R ∧ 256 * T (i + 1) + T (i + 2) ≤ 9999) ∧ noA T R m (i + 3) = true := by
  have z : (nok T R i && noA T R m (i + 3)) = true := z
  rw [Bool.and_eq_true] at z
  exact ⟨of_decide_eq_true z.1, z.2⟩
section NO
variable {E : zE} {B : Nat} {h : zH} {σ : hSt} {T : Nat → Nat}
set_option maxRecDepth 100000 in
theorem noFM {x y : Int32} {l : Nat} (hl : y.toInt = (l : Int)) (hl0 : 0 < l) (hl2 : l ≤ 12) (f d : Nat) : ∃ q : Int32, q.toInt = x.toInt % (l : Int) ∧ zex E (f + 40) d 336 0 [some (.int x), some (.int y), none] [] h = some (.inl (some (.int q)), h) := by
  have l0 : y ≠ 0 := by
    intro z
    rw [z, show (0 : Int32).toInt = 0 from by decide] at hl
    omega
  obtain ⟨n1, n2, n3, n4, n5, n6, n7⟩ := no_e x.toInt (l : Int) (by omega)
  have hr : (x - x / y * y).toInt = x.toInt.tmod (l : Int) := by rw [brem_eq (x := x) (y := y) (by omega), hl]
  have hs := bxor_s x y (by omega)
  by_cases h0 : 0 ≤ x.toInt
  · exact ⟨_, by rw [hr]; exact n1 h0, nf_p (E := E) (n := f + 30) (d := d) (h := h) l0 (hs.1 h0)⟩
  · by_cases hq : (x - x / y * y).toInt = 0
    · exact ⟨_, by rw [hq]; exact (n2 (by omega) (by rw [← hr]; exact hq)).symm, nf_z (E := E) (n := f + 28) (d := d) (h := h) l0 (hs.2 (by omega)) hq⟩
    · refine ⟨_, ?_, nf_n (E := E) (n := f + 26) (d := d) (h := h) l0 (hs.2 (by omega)) hq⟩
      rw [i32_add (by rw [hr, hl]; omega) (by rw [hr, hl]; omega), hr, hl]
      exact n3 (by omega) (by rw [← hr]; exact hq)
set_option maxRecDepth 100000 in
theorem noS (gT : bTB ctb h.1) (hR : RC h 4 18 σ) (hW : WF σ) (hB : gvB σ) {P : Nat} (hP : P < sP σ) {p9 : Int32} (hp9 : p9.toInt = (P : Int)) (k9 : Int32) (f d : Nat) : ∃ w : Int32, w.toInt = (noX σ (h.2.1 20) k9 P : Int) ∧ zex E (f + 100) (d + 1) 174 0 [some (.ref 4), some (.int p9), some (.int (h.2.1 20 P)), some (.int k9)] [] h = some (.inl (some (.int w)), h) := by
  obtain ⟨⟨r1, r2, r3⟩, r4, r5, r6, r7, r8, -⟩ := id hR
  have w3 := hW.2.2.1
  have w6 := hW.2.2.2.2.2 P hP
  have hz := hB P hP
  have q5 : (h.2.1 8 P).toInt = (ssl σ P : Int) := r5 P hP
  obtain ⟨q, hq, e1⟩ := noFM (E := E) (h := h) (x := h.2.1 20 P + k9) (y := h.2.1 8 P) q5 (by omega) (by omega) (f + 45) d
  obtain ⟨-, -, -, -, ⟨n1, n2⟩, -, -⟩ := no_e (h.2.1 20 P + k9).toInt (ssl σ P : Int) (by omega)
  obtain ⟨R, hR9⟩ : ∃ R : Nat, (h.2.1 20 P + k9).toInt % (ssl σ P : Int) = (R : Int) := ⟨_, (Int.toNat_of_nonneg n1).symm⟩
  have ck : noX σ (h.2.1 20) k9 P = swk σ P R := by
    unfold noX
    rw [hR9, Int.toNat_natCast]
  rw [hR9] at hq n2
  have e2 := gv_z1 (E := E) (n := f + 67) (d := d) (h := h) (p := p9) (k := q) (v := h.2.1 8 P) (w := h.2.1 9 (12 * P + R)) (P := P) (J := 12 * P + R) (by rw [hq]; omega) hp9 (by omega) rfl (by rw [hq, q5]; omega) (by rw [i32_nat hp9, i32_nat hq]; exact gv_i P (by omega) R (by omega)) (by omega) rfl (gT 4 _ (show bg2 ctb 4 = some (.inr (.inl (8, [none, none, none, none, some (some 5), some (some 6), some (some 7), some (some 8), some (some 9)]))) from rfl) (by intro z; cases z)) (gT 8 _ (show bg2 ctb 8 = some (.inl (0, 8, [])) from rfl) (by intro z; cases z)) (gT 9 _ (show bg2 ctb 9 = some (.inl (0, 96, [])) from rfl) (by intro z; cases z))
  exact ⟨h.2.1 9 (12 * P + R), by rw [ck]; exact r6 P hP R (by omega), nf_s (E := E) (n := f + 83) (d := d) (h := h) (p := p9) (a := h.2.1 20 P) (k := k9) (l := h.2.1 8 P) (q := q) (w := h.2.1 9 (12 * P + R)) (P := P) hp9 (by omega) rfl (by rw [q5]; omega) (gT 4 _ (show bg2 ctb 4 = some (.inr (.inl (8, [none, none, none, none, some (some 5), some (some 6), some (some 7), some (some 8), some (some 9)]))) from rfl) (by intro z; cases z)) (gT 8 _ (show bg2 ctb 8 = some (.inl (0, 8, [])) from rfl) (by intro z; cases z)) e1 e2⟩
set_option maxRecDepth 100000 in
theorem noW (gT : bTB ctb h.1) (hR : RC h 4 18 σ) (hW : WF σ) (hB : gvB σ) {m9 g9 r : Int32} {M : Nat} (hm : m9.toInt = (M : Int)) (hr : h.2.1 18 10 = r) : ∀ (k j : Nat) (b9 p9 : Int32), k + j = sP σ → p9.toInt = (j : Int) → bNs b9 (fun b => Nat.ble (b + 1) j && noB σ (h.2.1 20) (g9 - r) M b) → ∀ d f, 2 ≤ d → 200 * (k + 1) ≤ f → ∃ z : Int32, zex E f d 126 6 [some (.ref 3), some (.ref 18), some (.int m9), some (.int g9), some (.int b9), some (.int p9)] [] h = some (.inl (some (.int z)), h) ∧ bNs z (fun b => Nat.ble (b + 1) (sP σ) && noB σ (h.2.1 20) (g9 - r) M b) := by
  intro k
  have w3 := hW.2.2.1
  have r3 : (h.2.1 4 2).toInt = (sP σ : Int) := hR.1.2.2
  induction k with
  | zero =>
    intro j b9 p9 hj hp hb d f hd hf
    obtain ⟨n, hn⟩ : ∃ n, f = n + 7 := ⟨f - 7, by omega⟩
    subst hn
    have hj9 : j = sP σ := by omega
    rw [hj9] at hb hp
    exact ⟨b9, nv_e (E := E) (n := n) (d := d) (h := h) (m := m9) (g := g9) (b := b9) (p := p9) (s := h.2.1 4 2) (by rw [r3, hp]; omega) rfl (gT 3 _ (show bg2 ctb 3 = some (.inr (.inl (2, [some (some 4), some (some 10), some (some 17)]))) from rfl) (by intro z; cases z)) (gT 4 _ (show bg2 ctb 4 = some (.inr (.inl (8, [none, none, none, none, some (some 5), some (some 6), some (some 7), some (some 8), some (some 9)]))) from rfl) (by intro z; cases z)), hb⟩
  | succ k IH =>
    intro j b9 p9 hj hp hb d f hd hf
    have hmul : 200 * (k + 1 + 1) = 200 * (k + 1) + 200 := Nat.mul_succ _ _
    obtain ⟨n, hn⟩ : ∃ n, f = n + 200 := ⟨f - 200, by omega⟩
    obtain ⟨d, hd'⟩ : ∃ d', d = d' + 2 := ⟨d - 2, by omega⟩
    subst hn hd'
    have p1 : (p9 + 1).toInt = ((j + 1 : Nat) : Int) := by
      rw [i32_add (by rw [hp, int1]; omega) (by rw [hp, int1]; omega), hp, int1]
      omega
    by_cases he : noX σ (h.2.1 20) (g9 - r) j = M
    · obtain ⟨w, w1, w2⟩ := noS (E := E) gT hR hW hB (P := j) (by omega) hp (g9 - r) (n + 83) d
      have e := nv_y (E := E) (n := n + 173) (d := d + 1) (h := h) (m := m9) (g := g9) (b := b9) (p := p9) (q := w) (a := h.2.1 20 j) (r := r) (s := h.2.1 4 2) (P := j) (by rw [r3, hp]; omega) rfl hp (by omega) rfl hr (by rw [w1, he, hm]) (gT 3 _ (show bg2 ctb 3 = some (.inr (.inl (2, [some (some 4), some (some 10), some (some 17)]))) from rfl) (by intro z; cases z)) (gT 4 _ (show bg2 ctb 4 = some (.inr (.inl (8, [none, none, none, none, some (some 5), some (some 6), some (some 7), some (some 8), some (some 9)]))) from rfl) (by intro z; cases z)) (gT 18 _ (show bg2 ctb 18 = some (.inr (.inl (0, [some (some 19), some (some 20), some (some 21), some (some 22), some (some 23), some (some 24), none, none, none, none, none, none, none]))) from rfl) (by intro z; cases z)) (gT 20 _ (show bg2 ctb 20 = some (.inl (0, 8, [])) from rfl) (by intro z; cases z)) w2
      have hg : noB σ (h.2.1 20) (g9 - r) M j = true := by
        unfold noB
        rw [he]
        exact Nat.beq_refl M
      obtain ⟨z, z1, z2⟩ := IH (j + 1) _ (p9 + 1) (by omega) p1 (bNs_c (bNs_o hb (bNs_1 hp (by omega))) (fun b _ => ble_1 hg)) (d + 2) (n + 173) (by omega) (by omega)
      exact ⟨z, e.trans z1, z2⟩
    · obtain ⟨w, w1, w2⟩ := noS (E := E) gT hR hW hB (P := j) (by omega) hp (g9 - r) (n + 83) d
      have e := nv_n (E := E) (n := n + 179) (d := d + 1) (h := h) (m := m9) (g := g9) (b := b9) (p := p9) (q := w) (a := h.2.1 20 j) (r := r) (s := h.2.1 4 2) (P := j) (by rw [r3, hp]; omega) rfl hp (by omega) rfl hr (by rw [w1, hm]; omega) (gT 3 _ (show bg2 ctb 3 = some (.inr (.inl (2, [some (some 4), some (some 10), some (some 17)]))) from rfl) (by intro z; cases z)) (gT 4 _ (show bg2 ctb 4 = some (.inr (.inl (8, [none, none, none, none, some (some 5), some (some 6), some (some 7), some (some 8), some (some 9)]))) from rfl) (by intro z; cases z)) (gT 18 _ (show bg2 ctb 18 = some (.inr (.inl (0, [some (some 19), some (some 20), some (some 21), some (some 22), some (some 23), some (some 24), none, none, none, none, none, none, none]))) from rfl) (by intro z; cases z)) (gT 20 _ (show bg2 ctb 20 = some (.inl (0, 8, [])) from rfl) (by intro z; cases z)) w2
      have hg : noB σ (h.2.1 20) (g9 - r) M j = false := nbq he
      obtain ⟨z, z1, z2⟩ := IH (j + 1) b9 (p9 + 1) (by omega) p1 (bNs_c hb (fun b _ => ble_0 hg)) (d + 2) (n + 179) (by omega) (by omega)
      exact ⟨z, e.trans z1, z2⟩
set_option maxRecDepth 100000 in
theorem noW0 (gT : bTB ctb h.1) (hR : RC h 4 18 σ) (hW : WF σ) (hB : gvB σ) {m9 g9 r : Int32} {M : Nat} (hm : m9.toInt = (M : Int)) (hr : h.2.1 18 10 = r) (f d : Nat) : ∃ z : Int32, zex E (f + 2000) (d + 2) 126 0 [some (.ref 3), some (.ref 18), some (.int m9), some (.int g9), none, none] [] h = some (.inl (some (.int z)), h) ∧ bNs z (fun b => Nat.ble (b + 1) (sP σ) && noB σ (h.2.1 20) (g9 - r) M b) := by
  have w3 := hW.2.2.1
  obtain ⟨z, z1, z2⟩ := noW (E := E) gT hR hW hB hm hr (sP σ) 0 0 0 (by omega) (by decide) (bNs_c bNs_0 (fun b _ => by
    show false = (Nat.ble (b + 1) 0 && noB σ (h.2.1 20) (g9 - r) M b)
    rw [ble_f (show ¬ b + 1 ≤ 0 by omega), Bool.false_and])) (d + 2) (f + 1996) (by omega) (by omega)
  exact ⟨z, (nv_0 (E := E) (n := f + 1996) (d := d + 2) (h := h) (m := m9) (g := g9)).trans z1, z2⟩
set_option maxRecDepth 100000 in
theorem noR1 (gT : bTB ctb h.1) (hT : ∀ i, (h.2.1 2 i).toInt = (T i : Int) ∧ T i < 256) {i9 : Int32} {i : Nat} (hi : i9.toInt = (i : Int)) (hi4 : i < 400) (f d : Nat) : zex E (f + 10) d 187 0 [some (.ref 1), some (.int i9)] [] h = some (.inl (some (.int (h.2.1 2 i - 97))), h) :=
  nr_r (E := E) (n := f + 3) (d := d) (h := h) (i := i9) (t := h.2.1 2 i) (J := i) hi hi4 rfl (gT 1 _ (show bg2 ctb 1 = some (.inr (.inl (9, [some (some 2), none, none, none, none, none]))) from rfl) (by intro z; cases z)) (gT 2 _ (show bg2 ctb 2 = some (.inl (0, 400, [])) from rfl) (by intro z; cases z))
set_option maxRecDepth 100000 in
theorem noR2 (gT : bTB ctb h.1) (hT : ∀ i, (h.2.1 2 i).toInt = (T i : Int) ∧ T i < 256) {i9 : Int32} {i : Nat} (hi : i9.toInt = (i : Int)) (hi4 : i + 2 < 400) (f d : Nat) : zex E (f + 20) d 188 0 [some (.ref 1), some (.int i9)] [] h = some (.inl (some (.int (no_g T i))), h) := by
  have e := nr_n (E := E) (n := f + 4) (d := d) (h := h) (i := i9) (t := h.2.1 2 (i + 1)) (u := h.2.1 2 (i + 2)) (J := i + 1) (M := i + 2) (by rw [i32_add (by rw [hi, int1]; omega) (by rw [hi, int1]; omega), hi, int1]; omega) (by omega) rfl (by rw [i32_add (by rw [hi, no_i2]; omega) (by rw [hi, no_i2]; omega), hi, no_i2]; omega) (by omega) rfl (gT 1 _ (show bg2 ctb 1 = some (.inr (.inl (9, [some (some 2), none, none, none, none, none]))) from rfl) (by intro z; cases z)) (gT 2 _ (show bg2 ctb 2 = some (.inl (0, 400, [])) from rfl) (by intro z; cases z))
  rw [i32_nat (hT (i + 1)).1, i32_nat (hT (i + 2)).1, no_v (hT (i + 1)).2 (hT (i + 2)).2] at e
  exact e
set_option maxRecDepth 100000 in
theorem noT (gT : bTB ctb h.1) (hT : ∀ i, (h.2.1 2 i).toInt = (T i : Int) ∧ T i < 256) {L R : Nat} {l9 q9 : Int32} (hl : l9.toInt = (L : Int)) (hL : L ≤ 400) (hq : q9.toInt = (R : Int)) (hR2 : R ≤ 12) : ∀ (m i : Nat) (i9 : Int32) (u4 : Option Value), i + 3 * m = L → i9.toInt = (i : Int) → ∀ d f, 1 ≤ d → 100 * (m + 1) ≤ f → zex E f d 186 10 [some (.ref 1), some (.int l9), some (.int q9), some (.int i9), u4] [] h = some (.inl (some (.int (if noA T R m i = true then 1 else 0))), h) := by
  intro m
  induction m with
  | zero =>
    intro i i9 u4 hm hi d f hd hf
    obtain ⟨n, hn⟩ : ∃ n, f = n + 7 := ⟨f - 7, by omega⟩
    subst hn
    rw [show noA T R 0 i = true from rfl, if_pos rfl]
    exact nt_e (E := E) (n := n) (d := d) (h := h) (l := l9) (q := q9) (i := i9) (a := 0) (b := 0) (u4 := u4) (by rw [i32_add (by rw [hi, no_i2]; omega) (by rw [hi, no_i2]; omega), hi, no_i2, hl]; omega)
  | succ m IH =>
    intro i i9 u4 hm hi d f hd hf
    have hmul : 100 * (m + 1 + 1) = 100 * (m + 1) + 100 := Nat.mul_succ _ _
    obtain ⟨n, hn⟩ : ∃ n, f = n + 100 := ⟨f - 100, by omega⟩
    obtain ⟨d, hd'⟩ : ∃ d', d = d' + 1 := ⟨d - 1, by omega⟩
    subst hn hd'
    have i2 : (i9 + 2).toInt < l9.toInt := by rw [i32_add (by rw [hi, no_i2]; omega) (by rw [hi, no_i2]; omega), hi, no_i2, hl]; omega
    have a1 := no_97 (hT i).1 (hT i).2
    have r1 := fun f => noR1 (E := E) gT hT hi (by omega) f d
    have r2 := fun f => noR2 (E := E) gT hT hi (by omega) f d
    have b1 : (no_g T i).toInt = ((256 * T (i + 1) + T (i + 2) : Nat) : Int) := no_w (hT (i + 1)).2 (hT (i + 2)).2
    by_cases ca : 97 ≤ T i
    · by_cases cb : T i < 97 + R
      · by_cases cc : 256 * T (i + 1) + T (i + 2) ≤ 9999
        · rw [noA_t ⟨ca, cb, cc⟩]
          exact (nt_s (E := E) (n := n + 79) (d := d) (h := h) (l := l9) (q := q9) (i := i9) (a := h.2.1 2 i - 97) (b := no_g T i) (u4 := u4) i2 (by rw [a1]; omega) (by rw [a1, hq]; omega) (by rw [b1, no_i9]; omega) (gT 1 _ (show bg2 ctb 1 = some (.inr (.inl (9, [some (some 2), none, none, none, none, none]))) from rfl) (by intro z; cases z)) (r1 (n + 82)) (r2 (n + 63))).trans (IH (i + 3) (i9 + 3) _ (by omega) (by rw [i32_add (by rw [hi, no_i3]; omega) (by rw [hi, no_i3]; omega), hi, no_i3]; omega) (d + 1) (n + 79) (by omega) (by omega))
        · rw [noA_f (fun z => cc z.2.2), if_neg no_ff]
          exact nt_3 (E := E) (n := n + 79) (d := d) (h := h) (l := l9) (q := q9) (i := i9) (a := h.2.1 2 i - 97) (b := no_g T i) (u4 := u4) i2 (by rw [a1]; omega) (by rw [a1, hq]; omega) (by rw [b1, no_i9]; omega) (gT 1 _ (show bg2 ctb 1 = some (.inr (.inl (9, [some (some 2), none, none, none, none, none]))) from rfl) (by intro z; cases z)) (r1 (n + 82)) (r2 (n + 63))
      · rw [noA_f (fun z => cb z.2.1), if_neg no_ff]
        exact nt_2 (E := E) (n := n + 84) (d := d) (h := h) (l := l9) (q := q9) (i := i9) (a := h.2.1 2 i - 97) (b := 0) (u4 := u4) i2 (by rw [a1]; omega) (by rw [a1, hq]; omega) (gT 1 _ (show bg2 ctb 1 = some (.inr (.inl (9, [some (some 2), none, none, none, none, none]))) from rfl) (by intro z; cases z)) (r1 (n + 82))
    · rw [noA_f (fun z => ca z.1), if_neg no_ff]
      exact nt_1 (E := E) (n := n + 87) (d := d) (h := h) (l := l9) (q := q9) (i := i9) (a := h.2.1 2 i - 97) (b := 0) (u4 := u4) i2 (by rw [a1]; omega) (gT 1 _ (show bg2 ctb 1 = some (.inr (.inl (9, [some (some 2), none, none, none, none, none]))) from rfl) (by intro z; cases z)) (r1 (n + 82))
set_option maxRecDepth 100000 in
theorem noT0 (gT : bTB ctb h.1) (hT : ∀ i, (h.2.1 2 i).toInt = (T i : Int) ∧ T i < 256) {L R : Nat} {l9 q9 : Int32} (hl : l9.toInt = (L : Int)) (hL : L ≤ 400) (hq : q9.toInt = (R : Int)) (hR2 : R ≤ 12) (f d : Nat) : (noK T R L → zex E (f + 20000) (d + 1) 186 0 [some (.ref 1), some (.int l9), some (.int q9), none, none] [] h = some (.inl (some (.int 1)), h)) ∧ (¬ noK T R L → zex E (f + 20000) (d + 1) 186 0 [some (.ref 1), some (.int l9), some (.int q9), none, none] [] h = some (.inl (some (.int 0)), h)) := by
  have hz := no_rem hl
  by_cases h3 : L % 3 = 0
  · have e := noT (E := E) gT hT hl hL hq hR2 (L / 3) 0 0 none (by omega) (by decide) (d + 1) (f + 19994) (by omega) (by omega)
    have e0 := nt_0 (E := E) (n := f + 19994) (d := d + 1) (h := h) (l := l9) (q := q9) (by rw [hz]; omega)
    refine ⟨fun z => ?_, fun z => ?_⟩
    · rw [if_pos z.2] at e
      exact e0.trans e
    · rw [if_neg (fun y => z ⟨h3, y⟩)] at e
      exact e0.trans e
  · exact ⟨fun z => absurd z.1 h3, fun _ => nt_a (E := E) (n := f + 19994) (d := d + 1) (h := h) (l := l9) (q := q9) (by rw [hz]; omega)⟩
set_option maxRecDepth 100000 in
theorem noL (gT : bTB ctb h.1) (hR : RC h 4 18 σ) (hW : WF σ) (hB : gvB σ) (hT : ∀ i, (h.2.1 2 i).toInt = (T i : Int) ∧ T i < 256) {L : Nat} {l9 r : Int32} (hl : l9.toInt = (L : Int)) (hL : L ≤ 400) (hr : h.2.1 18 10 = r) : ∀ (m i : Nat) (w9 i9 : Int32) (F : Nat → Bool), i + 3 * m = L → i9.toInt = (i : Int) → bNs w9 F → noA T (sR σ) m i = true → ∀ d f, 3 ≤ d → 3000 + 100 * (m + 1) ≤ f → ∃ z : Int32, zex E f d 78 61 [some (.ref 0), some (.int l9), some (.int w9), some (.int i9)] [] h = some (.inl (some (.int z)), h) ∧ bNs z (noF (sP σ) (nog σ (h.2.1 20) r T) m i F) := by
  intro m
  induction m with
  | zero =>
    intro i w9 i9 F hm hi hw hA d f hd hf
    obtain ⟨n, hn⟩ : ∃ n, f = n + 7 := ⟨f - 7, by omega⟩
    subst hn
    exact ⟨w9, no_e9 (E := E) (n := n) (d := d) (h := h) (l := l9) (w := w9) (i := i9) (by rw [i32_add (by rw [hi, no_i2]; omega) (by rw [hi, no_i2]; omega), hi, no_i2, hl]; omega), hw⟩
  | succ m IH =>
    intro i w9 i9 F hm hi hw hA d f hd hf
    have hmul : 100 * (m + 1 + 1) = 100 * (m + 1) + 100 := Nat.mul_succ _ _
    obtain ⟨n, hn⟩ : ∃ n, f = n + 100 := ⟨f - 100, by omega⟩
    obtain ⟨d, hd'⟩ : ∃ d', d = d' + 3 := ⟨d - 3, by omega⟩
    subst hn hd'
    obtain ⟨⟨ca, cb, cc⟩, hA2⟩ := noA_d hA
    have a1 := no_97 (hT i).1 (hT i).2
    obtain ⟨n2, hn2⟩ : ∃ n2, n + 81 = n2 + 2000 := ⟨n + 81 - 2000, by omega⟩
    obtain ⟨z, z1, z2⟩ := noW0 (E := E) gT hR hW hB (m9 := h.2.1 2 i - 97) (g9 := no_g T i) (r := r) (M := T i - 97) (by rw [a1]; omega) hr n2 d
    rw [← hn2] at z1
    have e := no_s (E := E) (n := n + 77) (d := d + 2) (h := h) (l := l9) (w := w9) (i := i9) (a := h.2.1 2 i - 97) (b := no_g T i) (v := z) (by rw [i32_add (by rw [hi, no_i2]; omega) (by rw [hi, no_i2]; omega), hi, no_i2, hl]; omega) (gT 0 _ (show bg2 ctb 0 = some (.inr (.inl (11, [some (some 1), some (some 3), some (some 18), some (some 25), some (some 27), some (some 30), some (some 53), some (some 62), some (some 76), none]))) from rfl) (by intro z; cases z)) (gT 1 _ (show bg2 ctb 1 = some (.inr (.inl (9, [some (some 2), none, none, none, none, none]))) from rfl) (by intro z; cases z)) (gT 3 _ (show bg2 ctb 3 = some (.inr (.inl (2, [some (some 4), some (some 10), some (some 17)]))) from rfl) (by intro z; cases z)) (noR1 (E := E) gT hT hi (by omega) (n + 76) (d + 2)) (noR2 (E := E) gT hT hi (by omega) (n + 62) (d + 2)) z1
    obtain ⟨y, y1, y2⟩ := IH (i + 3) (w9 &&& z) (i9 + 3) _ (by omega) (by rw [i32_add (by rw [hi, no_i3]; omega) (by rw [hi, no_i3]; omega), hi, no_i3]; omega) (bNs_a hw z2) hA2 (d + 3) (n + 77) (by omega) (by omega)
    exact ⟨y, e.trans y1, y2⟩
set_option maxRecDepth 100000 in
theorem no78 (gT : bTB ctb h.1) (hR : RC h 4 18 σ) (hW : WF σ) (hB : gvB σ) (hT : ∀ i, (h.2.1 2 i).toInt = (T i : Int) ∧ T i < 256) {L : Nat} (hl : (h.2.1 1 1).toInt = (L : Int)) (hL : L ≤ 400) (f d : Nat) : (noK T (sR σ) L → ∃ z : Int32, zex E (f + 60000) (d + 4) 78 0 [some (.ref 0), none, none, none] [] h = some (.inl (some (.int z)), zsetI h 1 (upd (h.2.1 1) 1 0)) ∧ bNs z (noW9 σ (h.2.1 20) (h.2.1 18 10) T L)) ∧ (¬ noK T (sR σ) L → ∃ h1 : zH, zex E (f + 60000) (d + 4) 78 0 [some (.ref 0), none, none, none] [] h = some (.inr 0, h1)) := by
  obtain ⟨Z, hZ⟩ : ∃ Z, Z = zsetI h 1 (upd (h.2.1 1) 1 0) := ⟨_, rfl⟩
  have zT : bTB ctb Z.1 := by rw [hZ]; exact gT
  have zR : RC Z 4 18 σ := by rw [hZ]; exact RC_eqv hR (fun k _ => zs_ne (by decide)) (fun k => zs_ne (by decide)) (fun k => zs_ne (by decide)) (fun k => zs_ne (by decide)) (fun k => zs_ne (by decide)) (fun k => zs_ne (by decide)) (fun k => zs_ne (by decide)) (fun k => zs_ne (by decide))
  have z2 : ∀ i, (Z.2.1 2 i).toInt = (T i : Int) ∧ T i < 256 := by rw [hZ]; exact fun i => ⟨by rw [zs_ne (by decide)]; exact (hT i).1, (hT i).2⟩
  have z20 : Z.2.1 20 = h.2.1 20 := by rw [hZ]; exact funext fun k => zs_ne (by decide)
  have z10 : Z.2.1 18 10 = h.2.1 18 10 := by rw [hZ]; exact zs_ne (by decide)
  have w1 := hW.1
  have w3 := hW.2.2.1
  have r1 : (Z.2.1 4 0).toInt = (sR σ : Int) := zR.1.1
  have r3 : (Z.2.1 4 2).toInt = (sP σ : Int) := zR.1.2.2
  refine ⟨fun hk => ?_, fun hk => ?_⟩
  · have e1 := (noT0 (E := E) zT z2 hl hL r1 w1 (f + 39984) (d + 2)).1 hk
    have e2 := nr_e (E := E) (n := f + 59972) (d := d + 3) (h := Z) (s := Z.2.1 4 2) rfl (zT 4 _ (show bg2 ctb 4 = some (.inr (.inl (8, [none, none, none, none, some (some 5), some (some 6), some (some 7), some (some 8), some (some 9)]))) from rfl) (by intro z; cases z))
    obtain ⟨z, y1, y2⟩ := noL (E := E) zT zR hW hB z2 hl hL z10 (L / 3) 0 _ 0 _ (by have := hk.1; omega) (by decide) (bNs_f r3 (by omega)) hk.2 (d + 4) (f + 59976) (by omega) (by omega)
    rw [z20] at y2
    refine ⟨z, ?_, y2⟩
    rw [hZ] at e1 e2 y1
    exact (no_0 (E := E) (n := f + 59976) (d := d + 3) (h := h) rfl rfl (gT 0 _ (show bg2 ctb 0 = some (.inr (.inl (11, [some (some 1), some (some 3), some (some 18), some (some 25), some (some 27), some (some 30), some (some 53), some (some 62), some (some 76), none]))) from rfl) (by intro z; cases z)) (gT 1 _ (show bg2 ctb 1 = some (.inr (.inl (9, [some (some 2), none, none, none, none, none]))) from rfl) (by intro z; cases z)) (gT 3 _ (show bg2 ctb 3 = some (.inr (.inl (2, [some (some 4), some (some 10), some (some 17)]))) from rfl) (by intro z; cases z)) (gT 4 _ (show bg2 ctb 4 = some (.inr (.inl (8, [none, none, none, none, some (some 5), some (some 6), some (some 7), some (some 8), some (some 9)]))) from rfl) (by intro z; cases z)) e1 e2).trans y1
  · have e1 := (noT0 (E := E) zT z2 hl hL r1 w1 (f + 39984) (d + 2)).2 hk
    rw [hZ] at e1
    exact ⟨_, no_t (E := E) (n := f + 59982) (d := d + 3) (h := h) rfl rfl (gT 0 _ (show bg2 ctb 0 = some (.inr (.inl (11, [some (some 1), some (some 3), some (some 18), some (some 25), some (some 27), some (some 30), some (some 53), some (some 62), some (some 76), none]))) from rfl) (by intro z; cases z)) (gT 1 _ (show bg2 ctb 1 = some (.inr (.inl (9, [some (some 2), none, none, none, none, none]))) from rfl) (by intro z; cases z)) (gT 3 _ (show bg2 ctb 3 = some (.inr (.inl (2, [some (some 4), some (some 10), some (some 17)]))) from rfl) (by intro z; cases z)) (gT 4 _ (show bg2 ctb 4 = some (.inr (.inl (8, [none, none, none, none, some (some 5), some (some 6), some (some 7), some (some 8), some (some 9)]))) from rfl) (by intro z; cases z)) e1⟩
def nocQ (c : Prop) (F : Nat → Bool) (o : Option zR) : Prop := ∃ (x : Int32) (h1 : zH), o = some (.inl (some (.int x)), h1) ∧ (c → x = 0 ∧ ∃ w : Int32, bNs w F ∧ (h1.2.2.1 94 0).toInt = w.toInt) ∧ (¬ c → x = 1)
set_option maxRecDepth 100000 in
theorem noC (gT : bTB ctb h.1) (hR : RC h 4 18 σ) (hW : WF σ) (hB : gvB σ) (hT : ∀ i, (h.2.1 2 i).toInt = (T i : Int) ∧ T i < 256) {L : Nat} (hl : (h.2.1 1 1).toInt = (L : Int)) (hL : L ≤ 400) : ∀ d f, 10 ≤ d → 100000 ≤ f → nocQ (noK T (sR σ) L) (noW9 σ (h.2.1 20) (h.2.1 18 10) T L) (zex E f d 35 0 [some (.ref 0), some (.ref 94), none] [] h) := by
  intro d f hd hf
  obtain ⟨n, hn⟩ : ∃ n, f = n + 100000 := ⟨f - 100000, by omega⟩
  obtain ⟨d, hd'⟩ : ∃ d', d = d' + 5 := ⟨d - 5, by omega⟩
  subst hn hd'
  by_cases hk : noK T (sR σ) L
  · obtain ⟨z, e1, e2⟩ := (no78 (E := E) gT hR hW hB hT hl hL (n + 39996) d).1 hk
    refine ⟨0, _, nc_0 (E := E) (n := n + 99991) (d := d + 4) (h := h) (h1 := zsetI h 1 (upd (h.2.1 1) 1 0)) (z := z) (gT 0 _ (show bg2 ctb 0 = some (.inr (.inl (11, [some (some 1), some (some 3), some (some 18), some (some 25), some (some 27), some (some 30), some (some 53), some (some 62), some (some 76), none]))) from rfl) (by intro z; cases z)) (gT 94 _ (show bg2 ctb 94 = some (.inl (2, 1, [])) from rfl) (by intro z; cases z)) e1, fun _ => ⟨rfl, z, e2, ?_⟩, fun y => absurd hk y⟩
    show (zrow h.2.2.1 94 (vp_updL (h.2.2.1 94) 0 (Int32.toInt64 z)) 94 0).toInt = z.toInt
    rw [zrow_at]
    show (Int32.toInt64 z).toInt = z.toInt
    rw [Int32.toInt_toInt64]
  · obtain ⟨h1, e1⟩ := (no78 (E := E) gT hR hW hB hT hl hL (n + 39996) d).2 hk
    exact ⟨1, _, nc_1 (E := E) (n := n + 99993) (d := d + 4) (h := h) (h1 := h1) (gT 0 _ (show bg2 ctb 0 = some (.inr (.inl (11, [some (some 1), some (some 3), some (some 18), some (some 25), some (some 27), some (some 30), some (some 53), some (some 62), some (some 76), none]))) from rfl) (by intro z; cases z)) e1, fun y => absurd y hk, fun _ => rfl⟩
-- the model
set_option maxRecDepth 100000 in
theorem no_us (gT : bTB ctb h.1) (f d : Nat) : ∃ g : zH, zex E (f + 14) d 244 0 [some (.ref 84)] [] h = some (.inl none, g) ∧ g.1 = h.1 ∧ (∀ c, c ≠ 84 → ∀ k, g.2.1 c k = h.2.1 c k) ∧ (g.2.1 84 0).toInt = 0 ∧ g.2.1 84 11 = h.2.1 84 9 := by
  refine ⟨_, us_0 (E := E) (n := f) (d := d) (h := h) (gT 84 _ (show bg2 ctb 84 = some (.inr (.inl (12, [none, some (some 85), some (some 86), some (some 87), some (some 88), some (some 89), none, none, some (some 90), none, none, none, none, none, none, some (some 91), none, some (some 92), some (some 93)]))) from rfl) (by intro z; cases z)), rfl, fun c hc k => ?_, ?_, ?_⟩
  · rw [zs_ne hc, zs_ne hc, zs_ne hc, zs_ne hc]
  · rw [zs_at, upd_n (by decide), zs_at, upd_n (by decide), zs_at, upd_n (by decide), zs_at, upd_e]
    rfl
  · rw [zs_at, upd_n (by decide), zs_at, upd_n (by decide), zs_at, upd_e, zs_at, upd_n (by decide)]
set_option maxRecDepth 100000 in
theorem noI (gT : bTB ctb h.1) (hM : RMf (h.2.1 85) σ) (hW : WF σ) (hB : gvB σ) {a : Nat → Int32} (hA : ∀ q, q < 8 → h.2.1 85 (185 + 24 * q + 0) = a q) {P : Nat} (hP : P < sP σ) {p9 : Int32} (hp9 : p9.toInt = (P : Int)) (k9 : Int32) (f d : Nat) : ∃ w : Int32, w.toInt = (noX σ a k9 P : Int) ∧ zex E (f + 60) (d + 2) 327 0 [some (.ref 84), some (.int p9), some (.int k9), none] [] h = some (.inl (some (.int w)), h) := by
  obtain ⟨⟨r1, r2, r3⟩, r4, r5⟩ := id hM
  have w3 := hW.2.2.1
  have w6 := hW.2.2.2.2.2 P hP
  have hz := hB P hP
  have hp8 : P < 8 := by omega
  have q5 : (h.2.1 85 (185 + 24 * P + 3)).toInt = (ssl σ P : Int) := by rw [show 185 + 24 * P + 3 = 188 + 24 * P by omega]; exact (r5 P hP).1
  obtain ⟨-, -, -, n4, ⟨n1, n2⟩, n6, n7⟩ := no_e (a P + k9).toInt (ssl σ P : Int) (by omega)
  obtain ⟨R, hR9⟩ : ∃ R : Nat, (a P + k9).toInt % (ssl σ P : Int) = (R : Int) := ⟨_, (Int.toNat_of_nonneg n1).symm⟩
  have ck : noX σ a k9 P = swk σ P R := by
    unfold noX
    rw [hR9, Int.toNat_natCast]
  rw [hR9] at n2 n4
  have l0 : h.2.1 85 (185 + 24 * P + 3) ≠ 0 := by
    intro z
    rw [z, show (0 : Int32).toInt = 0 from by decide] at q5
    omega
  have g1 := gmGet (E := E) gT hp8 hp9 (j9 := 3) (j := 3) (by decide) (by decide) (f + 43) d
  have g2 := gmGet (E := E) gT hp8 hp9 (j9 := 0) (j := 0) (by decide) (by decide) (f + 35) d
  rw [hA P hp8] at g2
  obtain ⟨l, hl⟩ : ∃ l, l = h.2.1 85 (185 + 24 * P + 3) := ⟨_, rfl⟩
  rw [← hl] at q5 l0 g1
  obtain ⟨q, hq⟩ : ∃ q, q = (a P + k9) - (a P + k9) / l * l := ⟨_, rfl⟩
  have hq1 : q.toInt = (a P + k9).toInt.tmod (ssl σ P : Int) := by rw [hq, brem_eq (x := a P + k9) (y := l) (by omega), q5]
  have hql : (q + l).toInt = (a P + k9).toInt.tmod (ssl σ P : Int) + (ssl σ P : Int) := by rw [i32_add (by rw [hq1, q5]; omega) (by rw [hq1, q5]; omega), hq1, q5]
  obtain ⟨q2, hq2⟩ : ∃ q2, q2 = (q + l) - (q + l) / l * l := ⟨_, rfl⟩
  have hq3 : q2.toInt = (R : Int) := by rw [hq2, brem_eq (x := q + l) (y := l) (by omega), hql, q5]; exact n4
  have g3 := gmGet (E := E) gT hp8 hp9 (j9 := 4 + q2) (j := 4 + R) (by rw [i32_add (by rw [xi4, hq3]; omega) (by rw [xi4, hq3]; omega), xi4, hq3]; omega) (by omega) (f + 25) d
  have e := nmx_i (E := E) (n := f + 37) (d := d + 1) (h := h) (p := p9) (k := k9) (l := l) (a := a P) (w := h.2.1 85 (185 + 24 * P + (4 + R))) l0 (gT 84 _ cs84 (by intro z; cases z))
  rw [← hq, ← hq2] at e
  exact ⟨_, by rw [show 185 + 24 * P + (4 + R) = 189 + 24 * P + R by omega, ck]; exact (r5 P hP).2 R (by omega), e g1 g2 g3⟩
set_option maxRecDepth 100000 in
theorem noQ1 (gT : bTB ctb h.1) (f d : Nat) : zex E (f + 10) d 217 0 [some (.ref 84)] [] h = some (.inl (some (.int (h.2.1 85 2))), h) :=
  nmx_9 (E := E) (n := f + 5) (d := d) (h := h) (v := h.2.1 85 2) rfl (gT 84 _ (show bg2 ctb 84 = some (.inr (.inl (12, [none, some (some 85), some (some 86), some (some 87), some (some 88), some (some 89), none, none, some (some 90), none, none, none, none, none, none, some (some 91), none, some (some 92), some (some 93)]))) from rfl) (by intro z; cases z)) (gT 85 _ (show bg2 ctb 85 = some (.inl (0, 2475, [])) from rfl) (by intro z; cases z))
set_option maxRecDepth 100000 in
theorem noQ2 (gT : bTB ctb h.1) (hU : ∀ i, (h.2.1 90 i).toInt = sg8 (T i : Int) ∧ T i < 256) {i9 : Int32} {i : Nat} (hi : i9.toInt = (i : Int)) (hi4 : i + 2 < 400) (f d : Nat) : zex E (f + 30) d 329 0 [some (.ref 84), some (.int i9)] [] h = some (.inl (some (.int (no_g T i))), h) := by
  have e := nmx_r (E := E) (n := f + 10) (d := d) (h := h) (i := i9) (t := h.2.1 90 (i + 1)) (u := h.2.1 90 (i + 2)) (J := i + 1) (M := i + 2) (by rw [i32_add (by rw [hi, int1]; omega) (by rw [hi, int1]; omega), hi, int1]; omega) (by omega) rfl (by rw [i32_add (by rw [hi, no_i2]; omega) (by rw [hi, no_i2]; omega), hi, no_i2]; omega) (by omega) rfl (gT 84 _ (show bg2 ctb 84 = some (.inr (.inl (12, [none, some (some 85), some (some 86), some (some 87), some (some 88), some (some 89), none, none, some (some 90), none, none, none, none, none, none, some (some 91), none, some (some 92), some (some 93)]))) from rfl) (by intro z; cases z)) (gT 90 _ (show bg2 ctb 90 = some (.inl (1, 400, [])) from rfl) (by intro z; cases z))
  rw [no_u (hU (i + 1)).1 (hU (i + 1)).2, no_u (hU (i + 2)).1 (hU (i + 2)).2, no_v (hU (i + 1)).2 (hU (i + 2)).2] at e
  exact e
set_option maxRecDepth 100000 in
theorem noX0 (gT : bTB ctb h.1) {L : Nat} {l9 : Int32} (hl : h.2.1 84 11 = l9) (k9 : Int32) (u3 u4 : Option Value) (d f : Nat) (hf : 40 ≤ f) : ∃ f', f ≤ f' + 40 ∧ zex E f d 330 21 [some (.ref 84), some (.int 0), some (.int k9), u3, u4] [] h = zex E f' d 330 74 [some (.ref 84), some (.int 0), some (.int k9), u3, u4] [] h := by
  obtain ⟨n, hn⟩ : ∃ n, f = n + 40 := ⟨f - 40, by omega⟩
  subst hn
  by_cases hk : (k9 + 2).toInt < l9.toInt
  · exact ⟨n + 32, by omega, nmx_x (E := E) (n := n + 32) (d := d) (h := h) (k := k9) (l := l9) (t := 0) (v := 0) (s := 0) (J := 0) (u3 := u3) (u4 := u4) hl hk (gT 84 _ (show bg2 ctb 84 = some (.inr (.inl (12, [none, some (some 85), some (some 86), some (some 87), some (some 88), some (some 89), none, none, some (some 90), none, none, none, none, none, none, some (some 91), none, some (some 92), some (some 93)]))) from rfl) (by intro z; cases z))⟩
  · exact ⟨n + 34, by omega, nmx_e (E := E) (n := n + 34) (d := d) (h := h) (k := k9) (l := l9) (t := 0) (v := 0) (s := 0) (J := 0) (u3 := u3) (u4 := u4) hl (by omega) (gT 84 _ (show bg2 ctb 84 = some (.inr (.inl (12, [none, some (some 85), some (some 86), some (some 87), some (some 88), some (some 89), none, none, some (some 90), none, none, none, none, none, none, some (some 91), none, some (some 92), some (some 93)]))) from rfl) (by intro z; cases z))⟩
set_option maxRecDepth 100000 in
theorem noX1 (gT : bTB ctb h.1) (hM : RM h σ) (hW : WF σ) (hU : ∀ i, (h.2.1 90 i).toInt = sg8 (T i : Int) ∧ T i < 256) {L : Nat} {l9 : Int32} (hl : h.2.1 84 11 = l9) (hl9 : l9.toInt = (L : Int)) (hL : L ≤ 400) : ∀ (m i : Nat) (k9 : Int32) (u3 u4 : Option Value), i + 3 * m = L → k9.toInt = (i : Int) → ∀ d f, 3 ≤ d → 500000 + 200 * (m + 1) ≤ f → ∃ (f' : Nat) (k' : Int32), 500000 ≤ f' ∧ zex E f d 330 21 [some (.ref 84), some (.int 1), some (.int k9), u3, u4] [] h = zex E f' d 330 74 [some (.ref 84), some (.int (if noA T (sR σ) m i = true then 1 else 0)), some (.int k'), u3, u4] [] h := by
  intro m
  have w1 := hW.1
  induction m with
  | zero =>
    intro i k9 u3 u4 hm hi d f hd hf
    obtain ⟨n, hn⟩ : ∃ n, f = n + 200 := ⟨f - 200, by omega⟩
    subst hn
    rw [show noA T (sR σ) 0 i = true from rfl, if_pos rfl]
    exact ⟨n + 194, k9, by omega, nmx_e (E := E) (n := n + 194) (d := d) (h := h) (k := k9) (l := l9) (t := 0) (v := 0) (s := 1) (J := 0) (u3 := u3) (u4 := u4) hl (by rw [i32_add (by rw [hi, no_i2]; omega) (by rw [hi, no_i2]; omega), hi, no_i2, hl9]; omega) (gT 84 _ (show bg2 ctb 84 = some (.inr (.inl (12, [none, some (some 85), some (some 86), some (some 87), some (some 88), some (some 89), none, none, some (some 90), none, none, none, none, none, none, some (some 91), none, some (some 92), some (some 93)]))) from rfl) (by intro z; cases z))⟩
  | succ m IH =>
    intro i k9 u3 u4 hm hi d f hd hf
    have hmul : 200 * (m + 1 + 1) = 200 * (m + 1) + 200 := Nat.mul_succ _ _
    obtain ⟨n, hn⟩ : ∃ n, f = n + 200 := ⟨f - 200, by omega⟩
    obtain ⟨d, hd'⟩ : ∃ d', d = d' + 3 := ⟨d - 3, by omega⟩
    subst hn hd'
    have i2 : (k9 + 2).toInt < l9.toInt := by rw [i32_add (by rw [hi, no_i2]; omega) (by rw [hi, no_i2]; omega), hi, no_i2, hl9]; omega
    have t9 := (hU i).2
    have a1 := no_s97 (hU i).1 t9
    have rr := fun f hf => mz_r (E := E) (h := h) gT hM hW (p := h.2.1 90 i - 97) (d + 2) f (by omega) hf
    have r2 := fun f => noQ2 (E := E) gT hU hi (by omega) f (d + 2)
    have b1 : (no_g T i).toInt = ((256 * T (i + 1) + T (i + 2) : Nat) : Int) := no_w (hU (i + 1)).2 (hU (i + 2)).2
    have ck : (97 ≤ T i ∧ T i < 97 + sR σ) ↔ (0 ≤ (h.2.1 90 i - 97).toInt ∧ (h.2.1 90 i - 97).toInt < (sR σ : Int)) := by
      rw [a1]
      by_cases z : T i < 128
      · rw [if_pos z]; omega
      · rw [if_neg z]; omega
    by_cases ca : 97 ≤ T i ∧ T i < 97 + sR σ
    · have cz := ck.mp ca
      by_cases cc : 256 * T (i + 1) + T (i + 2) ≤ 9999
      · rw [noA_t ⟨ca.1, ca.2, cc⟩]
        have q1 := rr (n + 184) (by omega)
        rw [if_pos cz] at q1
        have e := nmx_c (E := E) (n := n + 173) (d := d + 2) (h := h) (k := k9) (l := l9) (t := h.2.1 90 i) (v := no_g T i) (s := 1) (J := i) (u3 := u3) (u4 := u4) hl i2 hi (by omega) rfl (by rw [b1, no_i9]; omega) (gT 84 _ (show bg2 ctb 84 = some (.inr (.inl (12, [none, some (some 85), some (some 86), some (some 87), some (some 88), some (some 89), none, none, some (some 90), none, none, none, none, none, none, some (some 91), none, some (some 92), some (some 93)]))) from rfl) (by intro z; cases z)) (gT 90 _ (show bg2 ctb 90 = some (.inl (1, 400, [])) from rfl) (by intro z; cases z)) q1 (r2 (n + 150))
        obtain ⟨f', k', y1, y2⟩ := IH (i + 3) (k9 + 3) u3 u4 (by omega) (by rw [i32_add (by rw [hi, no_i3]; omega) (by rw [hi, no_i3]; omega), hi, no_i3]; omega) (d + 3) (n + 173) (by omega) (by omega)
        exact ⟨f', k', y1, e.trans y2⟩
      · rw [noA_f (fun z => cc z.2.2), if_neg no_ff]
        have q1 := rr (n + 184) (by omega)
        rw [if_pos cz] at q1
        have e := nmx_b (E := E) (n := n + 174) (d := d + 2) (h := h) (k := k9) (l := l9) (t := h.2.1 90 i) (v := no_g T i) (s := 1) (J := i) (u3 := u3) (u4 := u4) hl i2 hi (by omega) rfl (by rw [b1, no_i9]; omega) (gT 84 _ (show bg2 ctb 84 = some (.inr (.inl (12, [none, some (some 85), some (some 86), some (some 87), some (some 88), some (some 89), none, none, some (some 90), none, none, none, none, none, none, some (some 91), none, some (some 92), some (some 93)]))) from rfl) (by intro z; cases z)) (gT 90 _ (show bg2 ctb 90 = some (.inl (1, 400, [])) from rfl) (by intro z; cases z)) q1 (r2 (n + 150))
        obtain ⟨f', y1, y2⟩ := noX0 (E := E) (L := L) gT hl (k9 + 3) u3 u4 (d + 3) (n + 174) (by omega)
        exact ⟨f', _, by omega, e.trans y2⟩
    · have cz : ¬ (0 ≤ (h.2.1 90 i - 97).toInt ∧ (h.2.1 90 i - 97).toInt < (sR σ : Int)) := fun z => ca (ck.mpr z)
      rw [noA_f (fun z => ca ⟨z.1, z.2.1⟩), if_neg no_ff]
      have q1 := rr (n + 184) (by omega)
      rw [if_neg cz] at q1
      have e := nmx_a (E := E) (n := n + 179) (d := d + 2) (h := h) (k := k9) (l := l9) (t := h.2.1 90 i) (v := 0) (s := 1) (J := i) (u3 := u3) (u4 := u4) hl i2 hi (by omega) rfl (gT 84 _ (show bg2 ctb 84 = some (.inr (.inl (12, [none, some (some 85), some (some 86), some (some 87), some (some 88), some (some 89), none, none, some (some 90), none, none, none, none, none, none, some (some 91), none, some (some 92), some (some 93)]))) from rfl) (by intro z; cases z)) (gT 90 _ (show bg2 ctb 90 = some (.inl (1, 400, [])) from rfl) (by intro z; cases z)) q1
      obtain ⟨f', y1, y2⟩ := noX0 (E := E) (L := L) gT hl (k9 + 3) u3 u4 (d + 3) (n + 179) (by omega)
      exact ⟨f', _, by omega, e.trans y2⟩
set_option maxRecDepth 100000 in
theorem noY (gT : bTB ctb h.1) (hM : RMf (h.2.1 85) σ) (hW : WF σ) (hB : gvB σ) {a : Nat → Int32} (hA : ∀ q, q < 8 → h.2.1 85 (185 + 24 * q + 0) = a q) (hU : ∀ i, (h.2.1 90 i).toInt = sg8 (T i : Int) ∧ T i < 256) {r : Int32} (hr : h.2.1 85 5 = r) {i : Nat} {k9 : Int32} (hi : k9.toInt = (i : Int)) (hi4 : i + 2 < 400) (h97 : 97 ≤ T i) (h99 : T i < 128) {F : Nat → Bool} (s9 : Int32) : ∀ (k j : Nat) (w9 p9 : Int32), k + j = sP σ → p9.toInt = (j : Int) → bNs w9 (fun b => F b && (!(Nat.ble (b + 1) j) || nog σ a r T i b)) → ∀ d f x, 4 ≤ d → 1000 ≤ x → x + 200 * (k + 1) ≤ f → ∃ (f' : Nat) (z p' : Int32), x ≤ f' ∧ zex E f d 330 115 [some (.ref 84), some (.int s9), some (.int w9), some (.int k9), some (.int p9)] [] h = zex E f' d 330 104 [some (.ref 84), some (.int s9), some (.int z), some (.int (k9 + 3)), some (.int p')] [] h ∧ bNs z (fun b => F b && (!(Nat.ble (b + 1) (sP σ)) || nog σ a r T i b)) := by
  intro k
  have w3 := hW.2.2.1
  have r3 : (h.2.1 85 2).toInt = (sP σ : Int) := hM.1.2.2
  have a1 := no_s97 (hU i).1 (hU i).2
  rw [if_pos h99] at a1
  induction k with
  | zero =>
    intro j w9 p9 hj hp hw d f x hd hx hf
    obtain ⟨n, hn⟩ : ∃ n, f = n + 200 := ⟨f - 200, by omega⟩
    obtain ⟨d, hd'⟩ : ∃ d', d = d' + 4 := ⟨d - 4, by omega⟩
    subst hn hd'
    have hj9 : j = sP σ := by omega
    rw [hj9] at hw hp
    exact ⟨n + 194, w9, p9, by omega, nmx_p (E := E) (n := n + 194) (d := d + 3) (h := h) (s := s9) (w := w9) (k := k9) (p := p9) (q := h.2.1 85 2) (by rw [r3, hp]; omega) (gT 84 _ (show bg2 ctb 84 = some (.inr (.inl (12, [none, some (some 85), some (some 86), some (some 87), some (some 88), some (some 89), none, none, some (some 90), none, none, none, none, none, none, some (some 91), none, some (some 92), some (some 93)]))) from rfl) (by intro z; cases z)) (noQ1 (E := E) gT (n + 187) (d + 3)), hw⟩
  | succ k IH =>
    intro j w9 p9 hj hp hw d f x hd hx hf
    have hmul : 200 * (k + 1 + 1) = 200 * (k + 1) + 200 := Nat.mul_succ _ _
    obtain ⟨n, hn⟩ : ∃ n, f = n + 200 := ⟨f - 200, by omega⟩
    obtain ⟨d, hd'⟩ : ∃ d', d = d' + 4 := ⟨d - 4, by omega⟩
    subst hn hd'
    have p1 : (p9 + 1).toInt = ((j + 1 : Nat) : Int) := by
      rw [i32_add (by rw [hp, int1]; omega) (by rw [hp, int1]; omega), hp, int1]
      omega
    by_cases he : noX σ a (no_g T i - r) j = T i - 97
    · obtain ⟨w, v1, v2⟩ := noI (E := E) gT hM hW hB hA (P := j) (by omega) hp (no_g T i - r) (n + 125) (d + 1)
      have e := nmx_y (E := E) (n := n + 176) (d := d + 3) (h := h) (s := s9) (w := w9) (k := k9) (p := p9) (q := h.2.1 85 2) (v := no_g T i) (m := w) (r := r) (t := h.2.1 90 i) (J := i) (by rw [r3, hp]; omega) hr hi (by omega) rfl (by rw [v1, he, a1]; omega) (gT 84 _ (show bg2 ctb 84 = some (.inr (.inl (12, [none, some (some 85), some (some 86), some (some 87), some (some 88), some (some 89), none, none, some (some 90), none, none, none, none, none, none, some (some 91), none, some (some 92), some (some 93)]))) from rfl) (by intro z; cases z)) (gT 85 _ (show bg2 ctb 85 = some (.inl (0, 2475, [])) from rfl) (by intro z; cases z)) (gT 90 _ (show bg2 ctb 90 = some (.inl (1, 400, [])) from rfl) (by intro z; cases z)) (noQ1 (E := E) gT (n + 187) (d + 3)) (noQ2 (E := E) gT hU hi (by omega) (n + 161) (d + 3)) v2
      have hg : nog σ a r T i j = true := by
        unfold nog noB
        rw [he]
        exact Nat.beq_refl _
      obtain ⟨f', z, p', z0, z1, z2⟩ := IH (j + 1) w9 (p9 + 1) (by omega) p1 (bNs_c hw (fun b _ => bl9_y hg)) (d + 4) (n + 176) x (by omega) hx (by omega)
      exact ⟨f', z, p', z0, e.trans z1, z2⟩
    · obtain ⟨w, v1, v2⟩ := noI (E := E) gT hM hW hB hA (P := j) (by omega) hp (no_g T i - r) (n + 125) (d + 1)
      have e := nmx_n (E := E) (n := n + 168) (d := d + 3) (h := h) (s := s9) (w := w9) (k := k9) (p := p9) (q := h.2.1 85 2) (v := no_g T i) (m := w) (r := r) (t := h.2.1 90 i) (J := i) (by rw [r3, hp]; omega) hr hi (by omega) rfl (by rw [v1, a1]; omega) (gT 84 _ (show bg2 ctb 84 = some (.inr (.inl (12, [none, some (some 85), some (some 86), some (some 87), some (some 88), some (some 89), none, none, some (some 90), none, none, none, none, none, none, some (some 91), none, some (some 92), some (some 93)]))) from rfl) (by intro z; cases z)) (gT 85 _ (show bg2 ctb 85 = some (.inl (0, 2475, [])) from rfl) (by intro z; cases z)) (gT 90 _ (show bg2 ctb 90 = some (.inl (1, 400, [])) from rfl) (by intro z; cases z)) (noQ1 (E := E) gT (n + 187) (d + 3)) (noQ2 (E := E) gT hU hi (by omega) (n + 161) (d + 3)) v2
      have hg : nog σ a r T i j = false := nbq he
      obtain ⟨f', z, p', z0, z1, z2⟩ := IH (j + 1) _ (p9 + 1) (by omega) p1 (bNs_c (bNs_n hw hp (by omega)) (fun b _ => bl9_n hg)) (d + 4) (n + 168) x (by omega) hx (by omega)
      exact ⟨f', z, p', z0, e.trans z1, z2⟩
set_option maxRecDepth 100000 in
theorem noV (gT : bTB ctb h.1) (hM : RMf (h.2.1 85) σ) (hW : WF σ) (hB : gvB σ) {a : Nat → Int32} (hA : ∀ q, q < 8 → h.2.1 85 (185 + 24 * q + 0) = a q) (hU : ∀ i, (h.2.1 90 i).toInt = sg8 (T i : Int) ∧ T i < 256) {r : Int32} (hr : h.2.1 85 5 = r) {L : Nat} {l9 : Int32} (hl : h.2.1 84 11 = l9) (hl9 : l9.toInt = (L : Int)) (hL : L ≤ 400) (s9 : Int32) : ∀ (m i : Nat) (w9 k9 : Int32) (u4 : Option Value) (F : Nat → Bool), i + 3 * m = L → k9.toInt = (i : Int) → bNs w9 F → (∀ b, F b = true → b < sP σ) → noA T (sR σ) m i = true → ∀ d f, 4 ≤ d → 3000 * (m + 1) ≤ f → ∃ z : Int32, zex E f d 330 104 [some (.ref 84), some (.int s9), some (.int w9), some (.int k9), u4] [] h = some (.inl (some (.int z)), h) ∧ bNs z (noF (sP σ) (nog σ a r T) m i F) := by
  intro m
  have w1 := hW.1
  have w3 := hW.2.2.1
  induction m with
  | zero =>
    intro i w9 k9 u4 F hm hi hw hF hA9 d f hd hf
    obtain ⟨n, hn⟩ : ∃ n, f = n + 6 := ⟨f - 6, by omega⟩
    subst hn
    exact ⟨w9, nmx_g (E := E) (n := n) (d := d) (h := h) (s := s9) (w := w9) (k := k9) (l := l9) (u4 := u4) hl (by rw [hi, hl9]; omega) (gT 84 _ (show bg2 ctb 84 = some (.inr (.inl (12, [none, some (some 85), some (some 86), some (some 87), some (some 88), some (some 89), none, none, some (some 90), none, none, none, none, none, none, some (some 91), none, some (some 92), some (some 93)]))) from rfl) (by intro z; cases z)), hw⟩
  | succ m IH =>
    intro i w9 k9 u4 F hm hi hw hF hA9 d f hd hf
    have hmul : 3000 * (m + 1 + 1) = 3000 * (m + 1) + 3000 := Nat.mul_succ _ _
    obtain ⟨n, hn⟩ : ∃ n, f = n + 6 := ⟨f - 6, by omega⟩
    subst hn
    obtain ⟨⟨ca, cb, cc⟩, hA2⟩ := noA_d hA9
    have e0 := nmx_h (E := E) (n := n) (d := d) (h := h) (s := s9) (w := w9) (k := k9) (l := l9) (u4 := u4) hl (by rw [hi, hl9]; omega) (gT 84 _ (show bg2 ctb 84 = some (.inr (.inl (12, [none, some (some 85), some (some 86), some (some 87), some (some 88), some (some 89), none, none, some (some 90), none, none, none, none, none, none, some (some 91), none, some (some 92), some (some 93)]))) from rfl) (by intro z; cases z))
    obtain ⟨f', z, p', y0, y1, y2⟩ := noY (E := E) gT hM hW hB hA hU hr hi (by omega) ca (by omega) (F := F) s9 (sP σ) 0 w9 0 (by omega) (by decide) (bNs_c hw (fun b _ => by
      show F b = (F b && (!(Nat.ble (b + 1) 0) || nog σ a r T i b))
      rw [ble_f (show ¬ b + 1 ≤ 0 by omega)]
      show F b = (F b && (true || _))
      rw [Bool.true_or, Bool.and_true])) d n (3000 * (m + 1)) hd (by omega) (by omega)
    obtain ⟨z9, x1, x2⟩ := IH (i + 3) z (k9 + 3) (some (.int p')) (fun b => F b && (Nat.ble (b + 1) (sP σ) && nog σ a r T i b)) (by omega) (by rw [i32_add (by rw [hi, no_i3]; omega) (by rw [hi, no_i3]; omega), hi, no_i3]; omega) (bNs_c y2 (fun b _ => bl9_e (hF b))) (fun b hb => by
      rw [Bool.and_eq_true] at hb
      exact hF b hb.1) hA2 d f' hd y0
    exact ⟨z9, e0.trans (y1.trans x1), x2⟩
def nomQ (c : Prop) (F : Nat → Bool) (o : Option zR) : Prop := ∃ (y : Int32) (h1 : zH), o = some (.inl (some (.int y)), h1) ∧ (c → bNs y F ∧ (h1.2.1 84 0).toInt = 0) ∧ (¬ c → (h1.2.1 84 0).toInt = 1)
set_option maxRecDepth 100000 in
theorem noM (gT : bTB ctb h.1) (hM : RMf (h.2.1 85) σ) (hW : WF σ) (hB : gvB σ) {a : Nat → Int32} (hA : ∀ q, q < 8 → h.2.1 85 (185 + 24 * q + 0) = a q) (hU : ∀ i, (h.2.1 90 i).toInt = sg8 (T i : Int) ∧ T i < 256) {L : Nat} (hl : (h.2.1 84 9).toInt = (L : Int)) (hL : L ≤ 400) : ∀ d f, 10 ≤ d → 900000 ≤ f → nomQ (noK T (sR σ) L) (noW9 σ a (h.2.1 85 5) T L) (zex E f d 330 0 [some (.ref 84), none, none, none, none] [] h) := by
  intro d f hd hf
  obtain ⟨n, hn⟩ : ∃ n, f = n + 100 := ⟨f - 100, by omega⟩
  obtain ⟨d, hd'⟩ : ∃ d', d = d' + 4 := ⟨d - 4, by omega⟩
  subst hn hd'
  have w1 := hW.1
  have w3 := hW.2.2.1
  have hz : ∀ g : zH, g.2.1 84 11 = h.2.1 84 9 → (g.2.1 84 11 - g.2.1 84 11 / 3 * 3).toInt = ((L % 3 : Nat) : Int) := fun g e => no_rem (by rw [e]; exact hl)
  by_cases h3 : L % 3 = 0
  · obtain ⟨g, e0, g1, g2, g0, g11⟩ := no_us (E := E) gT (n + 84) (d + 3)
    have gT1 : bTB ctb g.1 := by rw [g1]; exact gT
    have g85 : g.2.1 85 = h.2.1 85 := funext fun k => g2 85 (by decide) k
    have gM : RMf (g.2.1 85) σ := by rw [g85]; exact hM
    have gU : ∀ i, (g.2.1 90 i).toInt = sg8 (T i : Int) ∧ T i < 256 := fun i => ⟨by rw [g2 90 (by decide)]; exact (hU i).1, (hU i).2⟩
    have gl : (g.2.1 84 11).toInt = (L : Int) := by rw [g11]; exact hl
    have b84 := gT1 84 _ cs84 (by intro z; cases z)
    have e1 := nmx_1 (E := E) (n := n + 88) (d := d + 3) (h := h) (h1 := g) (l := g.2.1 84 11) rfl (by rw [hz g g11]; omega) (gT 84 _ (show bg2 ctb 84 = some (.inr (.inl (12, [none, some (some 85), some (some 86), some (some 87), some (some 88), some (some 89), none, none, some (some 90), none, none, none, none, none, none, some (some 91), none, some (some 92), some (some 93)]))) from rfl) (by intro z; cases z)) (gT1 84 _ (show bg2 ctb 84 = some (.inr (.inl (12, [none, some (some 85), some (some 86), some (some 87), some (some 88), some (some 89), none, none, some (some 90), none, none, none, none, none, none, some (some 91), none, some (some 92), some (some 93)]))) from rfl) (by intro z; cases z)) e0
    obtain ⟨f', k', y1, y2⟩ := noX1 (E := E) gT1 gM hW gU (l9 := g.2.1 84 11) rfl gl hL (L / 3) 0 0 none none (by omega) (by decide) (d + 4) (n + 88) (by omega) (by omega)
    by_cases hk : noA T (sR σ) (L / 3) 0 = true
    · rw [if_pos hk] at y2
      obtain ⟨m, hm⟩ : ∃ m, f' = m + 100 := ⟨f' - 100, by omega⟩
      rw [hm] at y2
      have e3 := nmx_u (E := E) (n := m + 84) (d := d + 3) (h := g) (k := k') (l := 0) (t := 0) (v := 0) (s := 0) (J := 0) (u3 := none) (u4 := none) (q := g.2.1 85 2) (gT1 84 _ (show bg2 ctb 84 = some (.inr (.inl (12, [none, some (some 85), some (some 86), some (some 87), some (some 88), some (some 89), none, none, some (some 90), none, none, none, none, none, none, some (some 91), none, some (some 92), some (some 93)]))) from rfl) (by intro z; cases z)) (mt_0 (n := m + 90)) (noQ1 (E := E) gT1 (m + 80) (d + 3))
      obtain ⟨z, z1, z2⟩ := noV (E := E) gT1 gM hW hB (a := a) (by rw [g85]; exact hA) gU (r := h.2.1 85 5) (by rw [g85]) (l9 := g.2.1 84 11) rfl gl hL 1 (L / 3) 0 _ 0 none _ (by omega) (by decide) (bNs_f (P := sP σ) gM.1.2.2 (by omega)) (fun b hb => Nat.le_of_ble_eq_true hb) hk (d + 4) (m + 84) (by omega) (by omega)
      exact ⟨z, g, e1.trans (y2.trans (e3.trans z1)), fun _ => ⟨z2, g0⟩, fun y => absurd ⟨h3, hk⟩ y⟩
    · rw [if_neg hk] at y2
      obtain ⟨m, hm⟩ : ∃ m, f' = m + 100 := ⟨f' - 100, by omega⟩
      rw [hm] at y2
      have e3 := nmx_t (E := E) (n := m + 90) (d := d + 3) (h := g) (k := k') (l := 0) (t := 0) (v := 0) (s := 0) (J := 0) (u3 := none) (u4 := none) (gT1 84 _ (show bg2 ctb 84 = some (.inr (.inl (12, [none, some (some 85), some (some 86), some (some 87), some (some 88), some (some 89), none, none, some (some 90), none, none, none, none, none, none, some (some 91), none, some (some 92), some (some 93)]))) from rfl) (by intro z; cases z)) (mt_1 (n := m + 86) b84)
      exact ⟨0, _, e1.trans (y2.trans e3), fun y => absurd y.2 hk, fun _ => by rw [zs_at, upd_e]; rfl⟩
  · obtain ⟨g, e0, g1, g2, g0, g11⟩ := no_us (E := E) gT (n + 84) (d + 3)
    have gT1 : bTB ctb g.1 := by rw [g1]; exact gT
    have b84 := gT1 84 _ cs84 (by intro z; cases z)
    have e1 := nmx_0 (E := E) (n := n + 89) (d := d + 3) (h := h) (h1 := g) (l := g.2.1 84 11) rfl (by rw [hz g g11]; omega) (gT 84 _ (show bg2 ctb 84 = some (.inr (.inl (12, [none, some (some 85), some (some 86), some (some 87), some (some 88), some (some 89), none, none, some (some 90), none, none, none, none, none, none, some (some 91), none, some (some 92), some (some 93)]))) from rfl) (by intro z; cases z)) (gT1 84 _ (show bg2 ctb 84 = some (.inr (.inl (12, [none, some (some 85), some (some 86), some (some 87), some (some 88), some (some 89), none, none, some (some 90), none, none, none, none, none, none, some (some 91), none, some (some 92), some (some 93)]))) from rfl) (by intro z; cases z)) e0
    obtain ⟨f', y1, y2⟩ := noX0 (E := E) (L := L) gT1 (l9 := g.2.1 84 11) rfl 0 none none (d + 4) (n + 89) (by omega)
    obtain ⟨m, hm⟩ : ∃ m, f' = m + 100 := ⟨f' - 100, by omega⟩
    rw [hm] at y2
    have e3 := nmx_t (E := E) (n := m + 90) (d := d + 3) (h := g) (k := 0) (l := 0) (t := 0) (v := 0) (s := 0) (J := 0) (u3 := none) (u4 := none) (gT1 84 _ (show bg2 ctb 84 = some (.inr (.inl (12, [none, some (some 85), some (some 86), some (some 87), some (some 88), some (some 89), none, none, some (some 90), none, none, none, none, none, none, some (some 91), none, some (some 92), some (some 93)]))) from rfl) (by intro z; cases z)) (mt_1 (n := m + 86) b84)
    exact ⟨0, _, e1.trans (y2.trans e3), fun y => absurd y.1 h3, fun _ => by rw [zs_at, upd_e]; rfl⟩
end NO
