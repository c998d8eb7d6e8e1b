/-! the second family: what becomes of the number of acts; end; the switch (wip/zab2/c/lgen40.py) -/
set_option maxRecDepth 100000 in
theorem yLenF {E : zE} {n d mi pc ln w9 a1 a2 a3 : Nat} {f : UInt32} {z : Int32} {ls : zLs} {r : List Value} {h : zH} (hf : zfetch mi pc = some (.arraylength, ln, (a1, a2, a3), z, w9)) : zex E (n + 1) d mi pc ls (.float f :: r) h = zex E n d mi (pc + ln) ls (.int (Int32.ofNat E.1) :: r) h := by
  refine (zx1 hf).trans ?_
  rfl
set_option maxRecDepth 100000 in
theorem zgq40_0 : zfetch 40 0 = some (.iload_n 1, 1, (0, 0, 0), 0, 0) := by decide +kernel
set_option maxRecDepth 100000 in
theorem zgq40_1 : zfetch 40 1 = some (.ifCond .lt 14, 3, (15, 0, 0), 0, 0) := by decide +kernel
set_option maxRecDepth 100000 in
theorem zgq40_15 : zfetch 40 15 = some (.iconst 0, 1, (0, 0, 0), 0, 0) := by decide +kernel
set_option maxRecDepth 100000 in
theorem zgq40_16 : zfetch 40 16 = some (.ireturn, 1, (0, 0, 0), 0, 0) := by decide +kernel
set_option maxRecDepth 100000 in
theorem zgq40_4 : zfetch 40 4 = some (.iload_n 1, 1, (0, 0, 0), 0, 0) := by decide +kernel
set_option maxRecDepth 100000 in
theorem zgq40_5 : zfetch 40 5 = some (.aload_n 0, 1, (0, 0, 0), 0, 0) := by decide +kernel
set_option maxRecDepth 100000 in
theorem zgq40_6 : zfetch 40 6 = some (.getfield 10, 3, (11, 0, 0), 0, 575) := by decide +kernel
set_option maxRecDepth 100000 in
theorem zgq40_9 : zfetch 40 9 = some (.getfield 76, 3, (9, 1, 1), 0, 227) := by decide +kernel
set_option maxRecDepth 100000 in
theorem zgq40_12 : zfetch 40 12 = some (.if_icmp .le 5, 3, (17, 0, 0), 0, 0) := by decide +kernel
set_option maxRecDepth 100000 in
theorem zgq40_17 : zfetch 40 17 = some (.aload_n 0, 1, (0, 0, 0), 0, 0) := by decide +kernel
set_option maxRecDepth 100000 in
theorem zgq40_18 : zfetch 40 18 = some (.getfield 10, 3, (11, 0, 0), 0, 575) := by decide +kernel
set_option maxRecDepth 100000 in
theorem zgq40_21 : zfetch 40 21 = some (.iload_n 1, 1, (0, 0, 0), 0, 0) := by decide +kernel
set_option maxRecDepth 100000 in
theorem zgq40_22 : zfetch 40 22 = some (.putfield 76, 3, (9, 1, 1), 0, 227) := by decide +kernel
set_option maxRecDepth 100000 in
theorem zgq40_25 : zfetch 40 25 = some (.iconst 1, 1, (0, 0, 0), 1, 0) := by decide +kernel
set_option maxRecDepth 100000 in
theorem zgq40_26 : zfetch 40 26 = some (.ireturn, 1, (0, 0, 0), 0, 0) := by decide +kernel
set_option maxRecDepth 100000 in
theorem zgq233_0 : zfetch 233 0 = some (.aload_n 0, 1, (0, 0, 0), 0, 0) := by decide +kernel
set_option maxRecDepth 100000 in
theorem zgq233_1 : zfetch 233 1 = some (.iconst 0, 1, (0, 0, 0), 0, 0) := by decide +kernel
set_option maxRecDepth 100000 in
theorem zgq233_2 : zfetch 233 2 = some (.putfield 3, 3, (12, 0, 0), 0, 1617) := by decide +kernel
set_option maxRecDepth 100000 in
theorem zgq233_5 : zfetch 233 5 = some (.iload_n 1, 1, (0, 0, 0), 0, 0) := by decide +kernel
set_option maxRecDepth 100000 in
theorem zgq233_6 : zfetch 233 6 = some (.ifCond .lt 11, 3, (17, 0, 0), 0, 0) := by decide +kernel
set_option maxRecDepth 100000 in
theorem zgq233_17 : zfetch 233 17 = some (.iconst 0, 1, (0, 0, 0), 0, 0) := by decide +kernel
set_option maxRecDepth 100000 in
theorem zgq233_18 : zfetch 233 18 = some (.ireturn, 1, (0, 0, 0), 0, 0) := by decide +kernel
set_option maxRecDepth 100000 in
theorem zgq233_9 : zfetch 233 9 = some (.iload_n 1, 1, (0, 0, 0), 0, 0) := by decide +kernel
set_option maxRecDepth 100000 in
theorem zgq233_10 : zfetch 233 10 = some (.aload_n 0, 1, (0, 0, 0), 0, 0) := by decide +kernel
set_option maxRecDepth 100000 in
theorem zgq233_11 : zfetch 233 11 = some (.getfield 81, 3, (12, 9, 0), 0, 1626) := by decide +kernel
set_option maxRecDepth 100000 in
theorem zgq233_14 : zfetch 233 14 = some (.if_icmp .le 5, 3, (19, 0, 0), 0, 0) := by decide +kernel
set_option maxRecDepth 100000 in
theorem zgq233_19 : zfetch 233 19 = some (.aload_n 0, 1, (0, 0, 0), 0, 0) := by decide +kernel
set_option maxRecDepth 100000 in
theorem zgq233_20 : zfetch 233 20 = some (.iload_n 1, 1, (0, 0, 0), 0, 0) := by decide +kernel
set_option maxRecDepth 100000 in
theorem zgq233_21 : zfetch 233 21 = some (.putfield 81, 3, (12, 9, 0), 0, 1626) := by decide +kernel
set_option maxRecDepth 100000 in
theorem zgq233_24 : zfetch 233 24 = some (.iconst 1, 1, (0, 0, 0), 1, 0) := by decide +kernel
set_option maxRecDepth 100000 in
theorem zgq233_25 : zfetch 233 25 = some (.ireturn, 1, (0, 0, 0), 0, 0) := by decide +kernel
set_option maxRecDepth 100000 in
theorem zgq0_321 : zfetch 0 321 = some (.aload_n 1, 1, (0, 0, 0), 0, 0) := by decide +kernel
set_option maxRecDepth 100000 in
theorem zgq0_322 : zfetch 0 322 = some (.aload_n 0, 1, (0, 0, 0), 0, 0) := by decide +kernel
set_option maxRecDepth 100000 in
theorem zgq0_323 : zfetch 0 323 = some (.iload 4, 2, (0, 0, 0), 0, 0) := by decide +kernel
set_option maxRecDepth 100000 in
theorem zgq0_325 : zfetch 0 325 = some (.iconst 1, 1, (0, 0, 0), 1, 0) := by decide +kernel
set_option maxRecDepth 100000 in
theorem zgq0_326 : zfetch 0 326 = some (.iadd, 1, (0, 0, 0), 0, 0) := by decide +kernel
set_option maxRecDepth 100000 in
theorem zgq0_327 : zfetch 0 327 = some (.iaload, 1, (0, 0, 0), 0, 0) := by decide +kernel
set_option maxRecDepth 100000 in
theorem zgq0_328 : zfetch 0 328 = some (.invokevirtual 143, 3, (0, 40, 0), 0, 614) := by decide +kernel
set_option maxRecDepth 100000 in
theorem zgq0_331 : zfetch 0 331 = some (.pop, 1, (0, 0, 0), 0, 0) := by decide +kernel
set_option maxRecDepth 100000 in
theorem zgq0_332 : zfetch 0 332 = some (.aload_n 2, 1, (0, 0, 0), 0, 0) := by decide +kernel
set_option maxRecDepth 100000 in
theorem zgq0_333 : zfetch 0 333 = some (.aload_n 0, 1, (0, 0, 0), 0, 0) := by decide +kernel
set_option maxRecDepth 100000 in
theorem zgq0_334 : zfetch 0 334 = some (.iload 4, 2, (0, 0, 0), 0, 0) := by decide +kernel
set_option maxRecDepth 100000 in
theorem zgq0_336 : zfetch 0 336 = some (.iconst 1, 1, (0, 0, 0), 1, 0) := by decide +kernel
set_option maxRecDepth 100000 in
theorem zgq0_337 : zfetch 0 337 = some (.iadd, 1, (0, 0, 0), 0, 0) := by decide +kernel
set_option maxRecDepth 100000 in
theorem zgq0_338 : zfetch 0 338 = some (.iaload, 1, (0, 0, 0), 0, 0) := by decide +kernel
set_option maxRecDepth 100000 in
theorem zgq0_339 : zfetch 0 339 = some (.invokevirtual 147, 3, (0, 233, 0), 0, 1691) := by decide +kernel
set_option maxRecDepth 100000 in
theorem zgq0_342 : zfetch 0 342 = some (.pop, 1, (0, 0, 0), 0, 0) := by decide +kernel
set_option maxRecDepth 100000 in
theorem zgq0_343 : zfetch 0 343 = some (.goto 1606, 3, (1949, 0, 0), 0, 0) := by decide +kernel
set_option maxRecDepth 100000 in
theorem zgq0_1949 : zfetch 0 1949 = some (.iinc 4 6, 3, (0, 0, 0), 6, 0) := by decide +kernel
set_option maxRecDepth 100000 in
theorem zgq0_1952 : zfetch 0 1952 = some (.goto (-1929), 3, (23, 0, 0), 0, 0) := by decide +kernel
set_option maxRecDepth 100000 in
theorem zgq0_23 : zfetch 0 23 = some (.iload 4, 2, (0, 0, 0), 0, 0) := by decide +kernel
set_option maxRecDepth 100000 in
theorem zgq0_25 : zfetch 0 25 = some (.aload_n 0, 1, (0, 0, 0), 0, 0) := by decide +kernel
set_option maxRecDepth 100000 in
theorem zgq0_26 : zfetch 0 26 = some (.arraylength, 1, (0, 0, 0), 0, 0) := by decide +kernel
set_option maxRecDepth 100000 in
theorem zgq0_27 : zfetch 0 27 = some (.bipush 6, 2, (0, 0, 0), 6, 0) := by decide +kernel
set_option maxRecDepth 100000 in
theorem zgq0_29 : zfetch 0 29 = some (.isub, 1, (0, 0, 0), 0, 0) := by decide +kernel
set_option maxRecDepth 100000 in
theorem zgq0_30 : zfetch 0 30 = some (.if_icmp .gt 1925, 3, (1955, 0, 0), 0, 0) := by decide +kernel
set_option maxRecDepth 100000 in
theorem zgq0_1955 : zfetch 0 1955 = some (.iconst 1, 1, (0, 0, 0), 1, 0) := by decide +kernel
set_option maxRecDepth 100000 in
theorem zgq0_1956 : zfetch 0 1956 = some (.ireturn, 1, (0, 0, 0), 0, 0) := by decide +kernel
set_option maxRecDepth 100000 in
theorem zgq0_33 : zfetch 0 33 = some (.aload_n 0, 1, (0, 0, 0), 0, 0) := by decide +kernel
set_option maxRecDepth 100000 in
theorem zgq0_34 : zfetch 0 34 = some (.iload 4, 2, (0, 0, 0), 0, 0) := by decide +kernel
set_option maxRecDepth 100000 in
theorem zgq0_36 : zfetch 0 36 = some (.iaload, 1, (0, 0, 0), 0, 0) := by decide +kernel
set_option maxRecDepth 100000 in
theorem zgq0_37 : zfetch 0 37 = some (.bipush 63, 2, (0, 0, 0), 63, 0) := by decide +kernel
set_option maxRecDepth 100000 in
theorem zgq0_39 : zfetch 0 39 = some (.iand, 1, (0, 0, 0), 0, 0) := by decide +kernel
set_option maxRecDepth 100000 in
theorem zgq0_40 : zfetch 0 40 = some (.tableswitch 1909 0 47 #[208, 281, 306, 322, 338, 351, 391, 431, 471, 511, 551, 603, 631, 659, 687, 727, 795, 835, 875, 927, 995, 1035, 1075, 1131, 1171, 1199, 1212, 1240, 1280, 1332, 1372, 1428, 1456, 1512, 1540, 1580, 1593, 1621, 1661, 1701, 1717, 1742, 1782, 1822, 1847, 1860, 1871, 1884], 208, (0, 0, 0), 0, 0) := by decide +kernel
set_option maxRecDepth 100000 in
theorem znq40 : zat zmi 40 = some (2, 2, 0, 11, 2, 0) := rfl
set_option maxRecDepth 100000 in
theorem znq233 : zat zmi 233 = some (2, 2, 0, 12, 2, 0) := rfl
set_option maxRecDepth 100000 in
theorem en_a {E : zE} {n d : Nat} {h : zH} {k : Int32} (h0 : k.toInt < 0)   : zex E (n + 4) d 40 0 [some (.ref 0), some (.int k)] [] h = some (.inl (some (.int 0)), h) :=
  ((yIn zgq40_0 rfl) : zex E (n + 4) d 40 0 [some (.ref 0), some (.int k)] [] h = zex E (n + 3) d 40 1 [some (.ref 0), some (.int k)] [.int k] h).trans (((zjlT zgq40_1 h0) : zex E (n + 3) d 40 1 [some (.ref 0), some (.int k)] [.int k] h = zex E (n + 2) d 40 15 [some (.ref 0), some (.int k)] [] h).trans (((yCi zgq40_15) : zex E (n + 2) d 40 15 [some (.ref 0), some (.int k)] [] h = zex E (n + 1) d 40 16 [some (.ref 0), some (.int k)] [.int 0] h).trans (((yRet2 zgq40_16 rfl (Or.inl rfl)) : zex E (n + 1) d 40 16 [some (.ref 0), some (.int k)] [.int 0] h = some (.inl (some (.int 0)), h)))))
set_option maxRecDepth 100000 in
theorem en_b {E : zE} {n d : Nat} {h : zH} {k : Int32} (h0 : 0 ≤ k.toInt) (h1 : (h.2.1 1 1).toInt < k.toInt) (a0 : zat h.1 0 = some (.inr (.inl (11, [some (some 1), some (some 3), some (some 18), some (some 25), some (some 27), some (some 30), some (some 53), some (some 62), some (some 76), none])))) (a1 : zat h.1 1 = some (.inr (.inl (9, [some (some 2), none, none, none, none, none]))))  : zex E (n + 9) d 40 0 [some (.ref 0), some (.int k)] [] h = some (.inl (some (.int 0)), h) :=
  ((yIn zgq40_0 rfl) : zex E (n + 9) d 40 0 [some (.ref 0), some (.int k)] [] h = zex E (n + 8) d 40 1 [some (.ref 0), some (.int k)] [.int k] h).trans (((zjlF zgq40_1 h0) : zex E (n + 8) d 40 1 [some (.ref 0), some (.int k)] [.int k] h = zex E (n + 7) d 40 4 [some (.ref 0), some (.int k)] [] h).trans (((yIn zgq40_4 rfl) : zex E (n + 7) d 40 4 [some (.ref 0), some (.int k)] [] h = zex E (n + 6) d 40 5 [some (.ref 0), some (.int k)] [.int k] h).trans (((yAn zgq40_5 rfl rfl) : zex E (n + 6) d 40 5 [some (.ref 0), some (.int k)] [.int k] h = zex E (n + 5) d 40 6 [some (.ref 0), some (.int k)] [.ref 0, .int k] h).trans (((zgx zgq40_6 a0 rfl) : zex E (n + 5) d 40 6 [some (.ref 0), some (.int k)] [.ref 0, .int k] h = zex E (n + 4) d 40 9 [some (.ref 0), some (.int k)] [.ref 1, .int k] h).trans (((zgi zgq40_9 a1 rfl) : zex E (n + 4) d 40 9 [some (.ref 0), some (.int k)] [.ref 1, .int k] h = zex E (n + 3) d 40 12 [some (.ref 0), some (.int k)] [.int (h.2.1 1 1), .int k] h).trans (((zkiF zgq40_12 h1) : zex E (n + 3) d 40 12 [some (.ref 0), some (.int k)] [.int (h.2.1 1 1), .int k] h = zex E (n + 2) d 40 15 [some (.ref 0), some (.int k)] [] h).trans (((yCi zgq40_15) : zex E (n + 2) d 40 15 [some (.ref 0), some (.int k)] [] h = zex E (n + 1) d 40 16 [some (.ref 0), some (.int k)] [.int 0] h).trans (((yRet2 zgq40_16 rfl (Or.inl rfl)) : zex E (n + 1) d 40 16 [some (.ref 0), some (.int k)] [.int 0] h = some (.inl (some (.int 0)), h))))))))))
set_option maxRecDepth 100000 in
theorem en_c {E : zE} {n d : Nat} {h : zH} {k : Int32} (h0 : 0 ≤ k.toInt) (h1 : k.toInt ≤ (h.2.1 1 1).toInt) (a0 : zat h.1 0 = some (.inr (.inl (11, [some (some 1), some (some 3), some (some 18), some (some 25), some (some 27), some (some 30), some (some 53), some (some 62), some (some 76), none])))) (a1 : zat h.1 1 = some (.inr (.inl (9, [some (some 2), none, none, none, none, none]))))  : zex E (n + 13) d 40 0 [some (.ref 0), some (.int k)] [] h = some (.inl (some (.int 1)), (zsetI h 1 (upd (h.2.1 1) 1 k))) :=
  ((yIn zgq40_0 rfl) : zex E (n + 13) d 40 0 [some (.ref 0), some (.int k)] [] h = zex E (n + 12) d 40 1 [some (.ref 0), some (.int k)] [.int k] h).trans (((zjlF zgq40_1 h0) : zex E (n + 12) d 40 1 [some (.ref 0), some (.int k)] [.int k] h = zex E (n + 11) d 40 4 [some (.ref 0), some (.int k)] [] h).trans (((yIn zgq40_4 rfl) : zex E (n + 11) d 40 4 [some (.ref 0), some (.int k)] [] h = zex E (n + 10) d 40 5 [some (.ref 0), some (.int k)] [.int k] h).trans (((yAn zgq40_5 rfl rfl) : zex E (n + 10) d 40 5 [some (.ref 0), some (.int k)] [.int k] h = zex E (n + 9) d 40 6 [some (.ref 0), some (.int k)] [.ref 0, .int k] h).trans (((zgx zgq40_6 a0 rfl) : zex E (n + 9) d 40 6 [some (.ref 0), some (.int k)] [.ref 0, .int k] h = zex E (n + 8) d 40 9 [some (.ref 0), some (.int k)] [.ref 1, .int k] h).trans (((zgi zgq40_9 a1 rfl) : zex E (n + 8) d 40 9 [some (.ref 0), some (.int k)] [.ref 1, .int k] h = zex E (n + 7) d 40 12 [some (.ref 0), some (.int k)] [.int (h.2.1 1 1), .int k] h).trans (((zkiT zgq40_12 h1) : zex E (n + 7) d 40 12 [some (.ref 0), some (.int k)] [.int (h.2.1 1 1), .int k] h = zex E (n + 6) d 40 17 [some (.ref 0), some (.int k)] [] h).trans (((yAn zgq40_17 rfl rfl) : zex E (n + 6) d 40 17 [some (.ref 0), some (.int k)] [] h = zex E (n + 5) d 40 18 [some (.ref 0), some (.int k)] [.ref 0] h).trans (((zgx zgq40_18 a0 rfl) : zex E (n + 5) d 40 18 [some (.ref 0), some (.int k)] [.ref 0] h = zex E (n + 4) d 40 21 [some (.ref 0), some (.int k)] [.ref 1] h).trans (((yIn zgq40_21 rfl) : zex E (n + 4) d 40 21 [some (.ref 0), some (.int k)] [.ref 1] h = zex E (n + 3) d 40 22 [some (.ref 0), some (.int k)] [.int k, .ref 1] h).trans (((zpx zgq40_22 a1 rfl) : zex E (n + 3) d 40 22 [some (.ref 0), some (.int k)] [.int k, .ref 1] h = zex E (n + 2) d 40 25 [some (.ref 0), some (.int k)] [] (zsetI h 1 (upd (h.2.1 1) 1 k))).trans (((yCi zgq40_25) : zex E (n + 2) d 40 25 [some (.ref 0), some (.int k)] [] (zsetI h 1 (upd (h.2.1 1) 1 k)) = zex E (n + 1) d 40 26 [some (.ref 0), some (.int k)] [.int 1] (zsetI h 1 (upd (h.2.1 1) 1 k))).trans (((yRet2 zgq40_26 rfl (Or.inr rfl)) : zex E (n + 1) d 40 26 [some (.ref 0), some (.int k)] [.int 1] (zsetI h 1 (upd (h.2.1 1) 1 k)) = some (.inl (some (.int 1)), (zsetI h 1 (upd (h.2.1 1) 1 k))))))))))))))))
set_option maxRecDepth 100000 in
theorem em_a {E : zE} {n d : Nat} {h : zH} {k : Int32} (h0 : k.toInt < 0) (a84 : zat h.1 84 = some (.inr (.inl (12, [none, some (some 85), some (some 86), some (some 87), some (some 88), some (some 89), none, none, some (some 90), none, none, none, none, none, none, some (some 91), none, some (some 92), some (some 93)]))))  : zex E (n + 7) d 233 0 [some (.ref 84), some (.int k)] [] h = some (.inl (some (.int 0)), (zsetI h 84 (upd (h.2.1 84) 0 0))) :=
  ((yAn zgq233_0 rfl rfl) : zex E (n + 7) d 233 0 [some (.ref 84), some (.int k)] [] h = zex E (n + 6) d 233 1 [some (.ref 84), some (.int k)] [.ref 84] h).trans (((yCi zgq233_1) : zex E (n + 6) d 233 1 [some (.ref 84), some (.int k)] [.ref 84] h = zex E (n + 5) d 233 2 [some (.ref 84), some (.int k)] [.int 0, .ref 84] h).trans (((zpx zgq233_2 a84 rfl) : zex E (n + 5) d 233 2 [some (.ref 84), some (.int k)] [.int 0, .ref 84] h = zex E (n + 4) d 233 5 [some (.ref 84), some (.int k)] [] (zsetI h 84 (upd (h.2.1 84) 0 0))).trans (((yIn zgq233_5 rfl) : zex E (n + 4) d 233 5 [some (.ref 84), some (.int k)] [] (zsetI h 84 (upd (h.2.1 84) 0 0)) = zex E (n + 3) d 233 6 [some (.ref 84), some (.int k)] [.int k] (zsetI h 84 (upd (h.2.1 84) 0 0))).trans (((zjlT zgq233_6 h0) : zex E (n + 3) d 233 6 [some (.ref 84), some (.int k)] [.int k] (zsetI h 84 (upd (h.2.1 84) 0 0)) = zex E (n + 2) d 233 17 [some (.ref 84), some (.int k)] [] (zsetI h 84 (upd (h.2.1 84) 0 0))).trans (((yCi zgq233_17) : zex E (n + 2) d 233 17 [some (.ref 84), some (.int k)] [] (zsetI h 84 (upd (h.2.1 84) 0 0)) = zex E (n + 1) d 233 18 [some (.ref 84), some (.int k)] [.int 0] (zsetI h 84 (upd (h.2.1 84) 0 0))).trans (((yRet2 zgq233_18 rfl (Or.inl rfl)) : zex E (n + 1) d 233 18 [some (.ref 84), some (.int k)] [.int 0] (zsetI h 84 (upd (h.2.1 84) 0 0)) = some (.inl (some (.int 0)), (zsetI h 84 (upd (h.2.1 84) 0 0))))))))))
set_option maxRecDepth 100000 in
theorem em_b {E : zE} {n d : Nat} {h : zH} {k x : Int32} (hx : (zsetI h 84 (upd (h.2.1 84) 0 0)).2.1 84 9 = x) (h0 : 0 ≤ k.toInt) (h1 : x.toInt < k.toInt) (a84 : zat h.1 84 = some (.inr (.inl (12, [none, some (some 85), some (some 86), some (some 87), some (some 88), some (some 89), none, none, some (some 90), none, none, none, none, none, none, some (some 91), none, some (some 92), some (some 93)]))))  : zex E (n + 11) d 233 0 [some (.ref 84), some (.int k)] [] h = some (.inl (some (.int 0)), (zsetI h 84 (upd (h.2.1 84) 0 0))) :=
  ((yAn zgq233_0 rfl rfl) : zex E (n + 11) d 233 0 [some (.ref 84), some (.int k)] [] h = zex E (n + 10) d 233 1 [some (.ref 84), some (.int k)] [.ref 84] h).trans (((yCi zgq233_1) : zex E (n + 10) d 233 1 [some (.ref 84), some (.int k)] [.ref 84] h = zex E (n + 9) d 233 2 [some (.ref 84), some (.int k)] [.int 0, .ref 84] h).trans (((zpx zgq233_2 a84 rfl) : zex E (n + 9) d 233 2 [some (.ref 84), some (.int k)] [.int 0, .ref 84] h = zex E (n + 8) d 233 5 [some (.ref 84), some (.int k)] [] (zsetI h 84 (upd (h.2.1 84) 0 0))).trans (((yIn zgq233_5 rfl) : zex E (n + 8) d 233 5 [some (.ref 84), some (.int k)] [] (zsetI h 84 (upd (h.2.1 84) 0 0)) = zex E (n + 7) d 233 6 [some (.ref 84), some (.int k)] [.int k] (zsetI h 84 (upd (h.2.1 84) 0 0))).trans (((zjlF zgq233_6 h0) : zex E (n + 7) d 233 6 [some (.ref 84), some (.int k)] [.int k] (zsetI h 84 (upd (h.2.1 84) 0 0)) = zex E (n + 6) d 233 9 [some (.ref 84), some (.int k)] [] (zsetI h 84 (upd (h.2.1 84) 0 0))).trans (((yIn zgq233_9 rfl) : zex E (n + 6) d 233 9 [some (.ref 84), some (.int k)] [] (zsetI h 84 (upd (h.2.1 84) 0 0)) = zex E (n + 5) d 233 10 [some (.ref 84), some (.int k)] [.int k] (zsetI h 84 (upd (h.2.1 84) 0 0))).trans (((yAn zgq233_10 rfl rfl) : zex E (n + 5) d 233 10 [some (.ref 84), some (.int k)] [.int k] (zsetI h 84 (upd (h.2.1 84) 0 0)) = zex E (n + 4) d 233 11 [some (.ref 84), some (.int k)] [.ref 84, .int k] (zsetI h 84 (upd (h.2.1 84) 0 0))).trans (((zgk zgq233_11 a84 rfl hx) : zex E (n + 4) d 233 11 [some (.ref 84), some (.int k)] [.ref 84, .int k] (zsetI h 84 (upd (h.2.1 84) 0 0)) = zex E (n + 3) d 233 14 [some (.ref 84), some (.int k)] [.int x, .int k] (zsetI h 84 (upd (h.2.1 84) 0 0))).trans (((zkiF zgq233_14 h1) : zex E (n + 3) d 233 14 [some (.ref 84), some (.int k)] [.int x, .int k] (zsetI h 84 (upd (h.2.1 84) 0 0)) = zex E (n + 2) d 233 17 [some (.ref 84), some (.int k)] [] (zsetI h 84 (upd (h.2.1 84) 0 0))).trans (((yCi zgq233_17) : zex E (n + 2) d 233 17 [some (.ref 84), some (.int k)] [] (zsetI h 84 (upd (h.2.1 84) 0 0)) = zex E (n + 1) d 233 18 [some (.ref 84), some (.int k)] [.int 0] (zsetI h 84 (upd (h.2.1 84) 0 0))).trans (((yRet2 zgq233_18 rfl (Or.inl rfl)) : zex E (n + 1) d 233 18 [some (.ref 84), some (.int k)] [.int 0] (zsetI h 84 (upd (h.2.1 84) 0 0)) = some (.inl (some (.int 0)), (zsetI h 84 (upd (h.2.1 84) 0 0))))))))))))))
set_option maxRecDepth 100000 in
theorem em_c {E : zE} {n d : Nat} {h : zH} {k x : Int32} (hx : (zsetI h 84 (upd (h.2.1 84) 0 0)).2.1 84 9 = x) (h0 : 0 ≤ k.toInt) (h1 : k.toInt ≤ x.toInt) (a84 : zat h.1 84 = some (.inr (.inl (12, [none, some (some 85), some (some 86), some (some 87), some (some 88), some (some 89), none, none, some (some 90), none, none, none, none, none, none, some (some 91), none, some (some 92), some (some 93)]))))  : zex E (n + 14) d 233 0 [some (.ref 84), some (.int k)] [] h = some (.inl (some (.int 1)), (zsetI (zsetI h 84 (upd (h.2.1 84) 0 0)) 84 (upd ((zsetI h 84 (upd (h.2.1 84) 0 0)).2.1 84) 9 k))) :=
  ((yAn zgq233_0 rfl rfl) : zex E (n + 14) d 233 0 [some (.ref 84), some (.int k)] [] h = zex E (n + 13) d 233 1 [some (.ref 84), some (.int k)] [.ref 84] h).trans (((yCi zgq233_1) : zex E (n + 13) d 233 1 [some (.ref 84), some (.int k)] [.ref 84] h = zex E (n + 12) d 233 2 [some (.ref 84), some (.int k)] [.int 0, .ref 84] h).trans (((zpx zgq233_2 a84 rfl) : zex E (n + 12) d 233 2 [some (.ref 84), some (.int k)] [.int 0, .ref 84] h = zex E (n + 11) d 233 5 [some (.ref 84), some (.int k)] [] (zsetI h 84 (upd (h.2.1 84) 0 0))).trans (((yIn zgq233_5 rfl) : zex E (n + 11) d 233 5 [some (.ref 84), some (.int k)] [] (zsetI h 84 (upd (h.2.1 84) 0 0)) = zex E (n + 10) d 233 6 [some (.ref 84), some (.int k)] [.int k] (zsetI h 84 (upd (h.2.1 84) 0 0))).trans (((zjlF zgq233_6 h0) : zex E (n + 10) d 233 6 [some (.ref 84), some (.int k)] [.int k] (zsetI h 84 (upd (h.2.1 84) 0 0)) = zex E (n + 9) d 233 9 [some (.ref 84), some (.int k)] [] (zsetI h 84 (upd (h.2.1 84) 0 0))).trans (((yIn zgq233_9 rfl) : zex E (n + 9) d 233 9 [some (.ref 84), some (.int k)] [] (zsetI h 84 (upd (h.2.1 84) 0 0)) = zex E (n + 8) d 233 10 [some (.ref 84), some (.int k)] [.int k] (zsetI h 84 (upd (h.2.1 84) 0 0))).trans (((yAn zgq233_10 rfl rfl) : zex E (n + 8) d 233 10 [some (.ref 84), some (.int k)] [.int k] (zsetI h 84 (upd (h.2.1 84) 0 0)) = zex E (n + 7) d 233 11 [some (.ref 84), some (.int k)] [.ref 84, .int k] (zsetI h 84 (upd (h.2.1 84) 0 0))).trans (((zgk zgq233_11 a84 rfl hx) : zex E (n + 7) d 233 11 [some (.ref 84), some (.int k)] [.ref 84, .int k] (zsetI h 84 (upd (h.2.1 84) 0 0)) = zex E (n + 6) d 233 14 [some (.ref 84), some (.int k)] [.int x, .int k] (zsetI h 84 (upd (h.2.1 84) 0 0))).trans (((zkiT zgq233_14 h1) : zex E (n + 6) d 233 14 [some (.ref 84), some (.int k)] [.int x, .int k] (zsetI h 84 (upd (h.2.1 84) 0 0)) = zex E (n + 5) d 233 19 [some (.ref 84), some (.int k)] [] (zsetI h 84 (upd (h.2.1 84) 0 0))).trans (((yAn zgq233_19 rfl rfl) : zex E (n + 5) d 233 19 [some (.ref 84), some (.int k)] [] (zsetI h 84 (upd (h.2.1 84) 0 0)) = zex E (n + 4) d 233 20 [some (.ref 84), some (.int k)] [.ref 84] (zsetI h 84 (upd (h.2.1 84) 0 0))).trans (((yIn zgq233_20 rfl) : zex E (n + 4) d 233 20 [some (.ref 84), some (.int k)] [.ref 84] (zsetI h 84 (upd (h.2.1 84) 0 0)) = zex E (n + 3) d 233 21 [some (.ref 84), some (.int k)] [.int k, .ref 84] (zsetI h 84 (upd (h.2.1 84) 0 0))).trans (((zpx zgq233_21 a84 rfl) : zex E (n + 3) d 233 21 [some (.ref 84), some (.int k)] [.int k, .ref 84] (zsetI h 84 (upd (h.2.1 84) 0 0)) = zex E (n + 2) d 233 24 [some (.ref 84), some (.int k)] [] (zsetI (zsetI h 84 (upd (h.2.1 84) 0 0)) 84 (upd ((zsetI h 84 (upd (h.2.1 84) 0 0)).2.1 84) 9 k))).trans (((yCi zgq233_24) : zex E (n + 2) d 233 24 [some (.ref 84), some (.int k)] [] (zsetI (zsetI h 84 (upd (h.2.1 84) 0 0)) 84 (upd ((zsetI h 84 (upd (h.2.1 84) 0 0)).2.1 84) 9 k)) = zex E (n + 1) d 233 25 [some (.ref 84), some (.int k)] [.int 1] (zsetI (zsetI h 84 (upd (h.2.1 84) 0 0)) 84 (upd ((zsetI h 84 (upd (h.2.1 84) 0 0)).2.1 84) 9 k))).trans (((yRet2 zgq233_25 rfl (Or.inr rfl)) : zex E (n + 1) d 233 25 [some (.ref 84), some (.int k)] [.int 1] (zsetI (zsetI h 84 (upd (h.2.1 84) 0 0)) 84 (upd ((zsetI h 84 (upd (h.2.1 84) 0 0)).2.1 84) 9 k)) = some (.inl (some (.int 1)), (zsetI (zsetI h 84 (upd (h.2.1 84) 0 0)) 84 (upd ((zsetI h 84 (upd (h.2.1 84) 0 0)).2.1 84) 9 k)))))))))))))))))
set_option maxRecDepth 100000 in
theorem tp_end {E : zE} {n d : Nat} {h h1 h2 : zH} {i x y : Int32} {u5 u6 : Option Value} {I : Nat} (hi : ∀ k : Nat, k < 6 → (i + Int32.ofNat k).toInt = ((I + k : Nat) : Int)) (hI : I + 6 ≤ E.1) (a0 : zat h.1 0 = some (.inr (.inl (11, [some (some 1), some (some 3), some (some 18), some (some 25), some (some 27), some (some 30), some (some 53), some (some 62), some (some 76), none])))) (a84_h1 : zat h1.1 84 = some (.inr (.inl (12, [none, some (some 85), some (some 86), some (some 87), some (some 88), some (some 89), none, none, some (some 90), none, none, none, none, none, none, some (some 91), none, some (some 92), some (some 93)])))) (e1 : zex E (n + 12) d 40 0 [some (.ref 0), some (.int (E.2 (I + 1)))] [] h = some (.inl (some (.int x)), h1)) (e2 : zex E (n + 4) d 233 0 [some (.ref 84), some (.int (E.2 (I + 1)))] [] h1 = some (.inl (some (.int y)), h2)) : zex E (n + 19) (d + 1) 0 321 [some (.float 0), some (.ref 0), some (.ref 84), some (.ref 94), some (.int i), u5, u6] [] h = zex E n (d + 1) 0 23 [some (.float 0), some (.ref 0), some (.ref 84), some (.ref 94), some (.int (i + 6)), u5, u6] [] h2 :=
  ((yAn zgq0_321 rfl rfl) : zex E (n + 19) (d + 1) 0 321 [some (.float 0), some (.ref 0), some (.ref 84), some (.ref 94), some (.int i), u5, u6] [] h = zex E (n + 18) (d + 1) 0 322 [some (.float 0), some (.ref 0), some (.ref 84), some (.ref 94), some (.int i), u5, u6] [.ref 0] h).trans (((yAn zgq0_322 rfl rfl) : zex E (n + 18) (d + 1) 0 322 [some (.float 0), some (.ref 0), some (.ref 84), some (.ref 94), some (.int i), u5, u6] [.ref 0] h = zex E (n + 17) (d + 1) 0 323 [some (.float 0), some (.ref 0), some (.ref 84), some (.ref 94), some (.int i), u5, u6] [.float 0, .ref 0] h).trans (((yI zgq0_323 rfl) : zex E (n + 17) (d + 1) 0 323 [some (.float 0), some (.ref 0), some (.ref 84), some (.ref 94), some (.int i), u5, u6] [.float 0, .ref 0] h = zex E (n + 16) (d + 1) 0 325 [some (.float 0), some (.ref 0), some (.ref 84), some (.ref 94), some (.int i), u5, u6] [.int i, .float 0, .ref 0] h).trans (((yCi zgq0_325) : zex E (n + 16) (d + 1) 0 325 [some (.float 0), some (.ref 0), some (.ref 84), some (.ref 94), some (.int i), u5, u6] [.int i, .float 0, .ref 0] h = zex E (n + 15) (d + 1) 0 326 [some (.float 0), some (.ref 0), some (.ref 84), some (.ref 94), some (.int i), u5, u6] [.int 1, .int i, .float 0, .ref 0] h).trans (((yAdd zgq0_326) : zex E (n + 15) (d + 1) 0 326 [some (.float 0), some (.ref 0), some (.ref 84), some (.ref 94), some (.int i), u5, u6] [.int 1, .int i, .float 0, .ref 0] h = zex E (n + 14) (d + 1) 0 327 [some (.float 0), some (.ref 0), some (.ref 84), some (.ref 94), some (.int i), u5, u6] [.int (i + 1), .float 0, .ref 0] h).trans (((zlF9 zgq0_327 (hi 1 (by decide)) (by omega)) : zex E (n + 14) (d + 1) 0 327 [some (.float 0), some (.ref 0), some (.ref 84), some (.ref 94), some (.int i), u5, u6] [.int (i + 1), .float 0, .ref 0] h = zex E (n + 13) (d + 1) 0 328 [some (.float 0), some (.ref 0), some (.ref 84), some (.ref 94), some (.int i), u5, u6] [.int (E.2 (I + 1)), .ref 0] h).trans (((zcvg (h := h) (as := [.int (E.2 (I + 1))]) (r := []) zgq0_328 znq40 rfl a0 rfl e1) : zex E (n + 13) (d + 1) 0 328 [some (.float 0), some (.ref 0), some (.ref 84), some (.ref 94), some (.int i), u5, u6] [.int (E.2 (I + 1)), .ref 0] h = zex E (n + 12) (d + 1) 0 331 [some (.float 0), some (.ref 0), some (.ref 84), some (.ref 94), some (.int i), u5, u6] [.int x] h1).trans (((yPop zgq0_331 rfl) : zex E (n + 12) (d + 1) 0 331 [some (.float 0), some (.ref 0), some (.ref 84), some (.ref 94), some (.int i), u5, u6] [.int x] h1 = zex E (n + 11) (d + 1) 0 332 [some (.float 0), some (.ref 0), some (.ref 84), some (.ref 94), some (.int i), u5, u6] [] h1).trans (((yAn zgq0_332 rfl rfl) : zex E (n + 11) (d + 1) 0 332 [some (.float 0), some (.ref 0), some (.ref 84), some (.ref 94), some (.int i), u5, u6] [] h1 = zex E (n + 10) (d + 1) 0 333 [some (.float 0), some (.ref 0), some (.ref 84), some (.ref 94), some (.int i), u5, u6] [.ref 84] h1).trans (((yAn zgq0_333 rfl rfl) : zex E (n + 10) (d + 1) 0 333 [some (.float 0), some (.ref 0), some (.ref 84), some (.ref 94), some (.int i), u5, u6] [.ref 84] h1 = zex E (n + 9) (d + 1) 0 334 [some (.float 0), some (.ref 0), some (.ref 84), some (.ref 94), some (.int i), u5, u6] [.float 0, .ref 84] h1).trans (((yI zgq0_334 rfl) : zex E (n + 9) (d + 1) 0 334 [some (.float 0), some (.ref 0), some (.ref 84), some (.ref 94), some (.int i), u5, u6] [.float 0, .ref 84] h1 = zex E (n + 8) (d + 1) 0 336 [some (.float 0), some (.ref 0), some (.ref 84), some (.ref 94), some (.int i), u5, u6] [.int i, .float 0, .ref 84] h1).trans (((yCi zgq0_336) : zex E (n + 8) (d + 1) 0 336 [some (.float 0), some (.ref 0), some (.ref 84), some (.ref 94), some (.int i), u5, u6] [.int i, .float 0, .ref 84] h1 = zex E (n + 7) (d + 1) 0 337 [some (.float 0), some (.ref 0), some (.ref 84), some (.ref 94), some (.int i), u5, u6] [.int 1, .int i, .float 0, .ref 84] h1).trans (((yAdd zgq0_337) : zex E (n + 7) (d + 1) 0 337 [some (.float 0), some (.ref 0), some (.ref 84), some (.ref 94), some (.int i), u5, u6] [.int 1, .int i, .float 0, .ref 84] h1 = zex E (n + 6) (d + 1) 0 338 [some (.float 0), some (.ref 0), some (.ref 84), some (.ref 94), some (.int i), u5, u6] [.int (i + 1), .float 0, .ref 84] h1).trans (((zlF9 zgq0_338 (hi 1 (by decide)) (by omega)) : zex E (n + 6) (d + 1) 0 338 [some (.float 0), some (.ref 0), some (.ref 84), some (.ref 94), some (.int i), u5, u6] [.int (i + 1), .float 0, .ref 84] h1 = zex E (n + 5) (d + 1) 0 339 [some (.float 0), some (.ref 0), some (.ref 84), some (.ref 94), some (.int i), u5, u6] [.int (E.2 (I + 1)), .ref 84] h1).trans (((zcvg (h := h1) (as := [.int (E.2 (I + 1))]) (r := []) zgq0_339 znq233 rfl a84_h1 rfl e2) : zex E (n + 5) (d + 1) 0 339 [some (.float 0), some (.ref 0), some (.ref 84), some (.ref 94), some (.int i), u5, u6] [.int (E.2 (I + 1)), .ref 84] h1 = zex E (n + 4) (d + 1) 0 342 [some (.float 0), some (.ref 0), some (.ref 84), some (.ref 94), some (.int i), u5, u6] [.int y] h2).trans (((yPop zgq0_342 rfl) : zex E (n + 4) (d + 1) 0 342 [some (.float 0), some (.ref 0), some (.ref 84), some (.ref 94), some (.int i), u5, u6] [.int y] h2 = zex E (n + 3) (d + 1) 0 343 [some (.float 0), some (.ref 0), some (.ref 84), some (.ref 94), some (.int i), u5, u6] [] h2).trans (((yGo zgq0_343) : zex E (n + 3) (d + 1) 0 343 [some (.float 0), some (.ref 0), some (.ref 84), some (.ref 94), some (.int i), u5, u6] [] h2 = zex E (n + 2) (d + 1) 0 1949 [some (.float 0), some (.ref 0), some (.ref 84), some (.ref 94), some (.int i), u5, u6] [] h2).trans (((yInc zgq0_1949 rfl) : zex E (n + 2) (d + 1) 0 1949 [some (.float 0), some (.ref 0), some (.ref 84), some (.ref 94), some (.int i), u5, u6] [] h2 = zex E (n + 1) (d + 1) 0 1952 [some (.float 0), some (.ref 0), some (.ref 84), some (.ref 94), some (.int (i + 6)), u5, u6] [] h2).trans (((yGo zgq0_1952) : zex E (n + 1) (d + 1) 0 1952 [some (.float 0), some (.ref 0), some (.ref 84), some (.ref 94), some (.int (i + 6)), u5, u6] [] h2 = zex E n (d + 1) 0 23 [some (.float 0), some (.ref 0), some (.ref 84), some (.ref 94), some (.int (i + 6)), u5, u6] [] h2)))))))))))))))))))
set_option maxRecDepth 100000 in
theorem sw_e {E : zE} {n d : Nat} {h : zH} {i : Int32} {u5 u6 : Option Value} (hj : (Int32.ofNat E.1 - 6).toInt < i.toInt)   : zex E (n + 8) d 0 23 [some (.float 0), some (.ref 0), some (.ref 84), some (.ref 94), some (.int i), u5, u6] [] h = some (.inl (some (.int 1)), h) :=
  ((yI zgq0_23 rfl) : zex E (n + 8) d 0 23 [some (.float 0), some (.ref 0), some (.ref 84), some (.ref 94), some (.int i), u5, u6] [] h = zex E (n + 7) d 0 25 [some (.float 0), some (.ref 0), some (.ref 84), some (.ref 94), some (.int i), u5, u6] [.int i] h).trans (((yAn zgq0_25 rfl rfl) : zex E (n + 7) d 0 25 [some (.float 0), some (.ref 0), some (.ref 84), some (.ref 94), some (.int i), u5, u6] [.int i] h = zex E (n + 6) d 0 26 [some (.float 0), some (.ref 0), some (.ref 84), some (.ref 94), some (.int i), u5, u6] [.float 0, .int i] h).trans (((yLenF zgq0_26) : zex E (n + 6) d 0 26 [some (.float 0), some (.ref 0), some (.ref 84), some (.ref 94), some (.int i), u5, u6] [.float 0, .int i] h = zex E (n + 5) d 0 27 [some (.float 0), some (.ref 0), some (.ref 84), some (.ref 94), some (.int i), u5, u6] [.int (Int32.ofNat E.1), .int i] h).trans (((yCb zgq0_27) : zex E (n + 5) d 0 27 [some (.float 0), some (.ref 0), some (.ref 84), some (.ref 94), some (.int i), u5, u6] [.int (Int32.ofNat E.1), .int i] h = zex E (n + 4) d 0 29 [some (.float 0), some (.ref 0), some (.ref 84), some (.ref 94), some (.int i), u5, u6] [.int 6, .int (Int32.ofNat E.1), .int i] h).trans (((ySub zgq0_29) : zex E (n + 4) d 0 29 [some (.float 0), some (.ref 0), some (.ref 84), some (.ref 94), some (.int i), u5, u6] [.int 6, .int (Int32.ofNat E.1), .int i] h = zex E (n + 3) d 0 30 [some (.float 0), some (.ref 0), some (.ref 84), some (.ref 94), some (.int i), u5, u6] [.int ((Int32.ofNat E.1) - 6), .int i] h).trans (((zkhT zgq0_30 hj) : zex E (n + 3) d 0 30 [some (.float 0), some (.ref 0), some (.ref 84), some (.ref 94), some (.int i), u5, u6] [.int ((Int32.ofNat E.1) - 6), .int i] h = zex E (n + 2) d 0 1955 [some (.float 0), some (.ref 0), some (.ref 84), some (.ref 94), some (.int i), u5, u6] [] h).trans (((yCi zgq0_1955) : zex E (n + 2) d 0 1955 [some (.float 0), some (.ref 0), some (.ref 84), some (.ref 94), some (.int i), u5, u6] [] h = zex E (n + 1) d 0 1956 [some (.float 0), some (.ref 0), some (.ref 84), some (.ref 94), some (.int i), u5, u6] [.int 1] h).trans (((yRet2 zgq0_1956 rfl (Or.inr rfl)) : zex E (n + 1) d 0 1956 [some (.float 0), some (.ref 0), some (.ref 84), some (.ref 94), some (.int i), u5, u6] [.int 1] h = some (.inl (some (.int 1)), h)))))))))
set_option maxRecDepth 100000 in
theorem sw_h {E : zE} {n d : Nat} {h : zH} {i : Int32} {u5 u6 : Option Value} {I : Nat} (hj : i.toInt ≤ (Int32.ofNat E.1 - 6).toInt) (hi : i.toInt = (I : Int)) (hI : I < E.1)   : zex E (n + 11) d 0 23 [some (.float 0), some (.ref 0), some (.ref 84), some (.ref 94), some (.int i), u5, u6] [] h = zex E n d 0 40 [some (.float 0), some (.ref 0), some (.ref 84), some (.ref 94), some (.int i), u5, u6] [.int ((E.2 I) &&& 63)] h :=
  ((yI zgq0_23 rfl) : zex E (n + 11) d 0 23 [some (.float 0), some (.ref 0), some (.ref 84), some (.ref 94), some (.int i), u5, u6] [] h = zex E (n + 10) d 0 25 [some (.float 0), some (.ref 0), some (.ref 84), some (.ref 94), some (.int i), u5, u6] [.int i] h).trans (((yAn zgq0_25 rfl rfl) : zex E (n + 10) d 0 25 [some (.float 0), some (.ref 0), some (.ref 84), some (.ref 94), some (.int i), u5, u6] [.int i] h = zex E (n + 9) d 0 26 [some (.float 0), some (.ref 0), some (.ref 84), some (.ref 94), some (.int i), u5, u6] [.float 0, .int i] h).trans (((yLenF zgq0_26) : zex E (n + 9) d 0 26 [some (.float 0), some (.ref 0), some (.ref 84), some (.ref 94), some (.int i), u5, u6] [.float 0, .int i] h = zex E (n + 8) d 0 27 [some (.float 0), some (.ref 0), some (.ref 84), some (.ref 94), some (.int i), u5, u6] [.int (Int32.ofNat E.1), .int i] h).trans (((yCb zgq0_27) : zex E (n + 8) d 0 27 [some (.float 0), some (.ref 0), some (.ref 84), some (.ref 94), some (.int i), u5, u6] [.int (Int32.ofNat E.1), .int i] h = zex E (n + 7) d 0 29 [some (.float 0), some (.ref 0), some (.ref 84), some (.ref 94), some (.int i), u5, u6] [.int 6, .int (Int32.ofNat E.1), .int i] h).trans (((ySub zgq0_29) : zex E (n + 7) d 0 29 [some (.float 0), some (.ref 0), some (.ref 84), some (.ref 94), some (.int i), u5, u6] [.int 6, .int (Int32.ofNat E.1), .int i] h = zex E (n + 6) d 0 30 [some (.float 0), some (.ref 0), some (.ref 84), some (.ref 94), some (.int i), u5, u6] [.int ((Int32.ofNat E.1) - 6), .int i] h).trans (((zkhF zgq0_30 hj) : zex E (n + 6) d 0 30 [some (.float 0), some (.ref 0), some (.ref 84), some (.ref 94), some (.int i), u5, u6] [.int ((Int32.ofNat E.1) - 6), .int i] h = zex E (n + 5) d 0 33 [some (.float 0), some (.ref 0), some (.ref 84), some (.ref 94), some (.int i), u5, u6] [] h).trans (((yAn zgq0_33 rfl rfl) : zex E (n + 5) d 0 33 [some (.float 0), some (.ref 0), some (.ref 84), some (.ref 94), some (.int i), u5, u6] [] h = zex E (n + 4) d 0 34 [some (.float 0), some (.ref 0), some (.ref 84), some (.ref 94), some (.int i), u5, u6] [.float 0] h).trans (((yI zgq0_34 rfl) : zex E (n + 4) d 0 34 [some (.float 0), some (.ref 0), some (.ref 84), some (.ref 94), some (.int i), u5, u6] [.float 0] h = zex E (n + 3) d 0 36 [some (.float 0), some (.ref 0), some (.ref 84), some (.ref 94), some (.int i), u5, u6] [.int i, .float 0] h).trans (((zlF9 zgq0_36 hi hI) : zex E (n + 3) d 0 36 [some (.float 0), some (.ref 0), some (.ref 84), some (.ref 94), some (.int i), u5, u6] [.int i, .float 0] h = zex E (n + 2) d 0 37 [some (.float 0), some (.ref 0), some (.ref 84), some (.ref 94), some (.int i), u5, u6] [.int (E.2 I)] h).trans (((yCb zgq0_37) : zex E (n + 2) d 0 37 [some (.float 0), some (.ref 0), some (.ref 84), some (.ref 94), some (.int i), u5, u6] [.int (E.2 I)] h = zex E (n + 1) d 0 39 [some (.float 0), some (.ref 0), some (.ref 84), some (.ref 94), some (.int i), u5, u6] [.int 63, .int (E.2 I)] h).trans (((yAnd zgq0_39) : zex E (n + 1) d 0 39 [some (.float 0), some (.ref 0), some (.ref 84), some (.ref 94), some (.int i), u5, u6] [.int 63, .int (E.2 I)] h = zex E n d 0 40 [some (.float 0), some (.ref 0), some (.ref 84), some (.ref 94), some (.int i), u5, u6] [.int ((E.2 I) &&& 63)] h)))))))))))
set_option maxRecDepth 100000 in
theorem sw_d {E : zE} {n d : Nat} {h : zH} {i : Int32} {u5 u6 : Option Value}    : zex E (n + 2) d 0 1949 [some (.float 0), some (.ref 0), some (.ref 84), some (.ref 94), some (.int i), u5, u6] [] h = zex E n d 0 23 [some (.float 0), some (.ref 0), some (.ref 84), some (.ref 94), some (.int (i + 6)), u5, u6] [] h :=
  ((yInc zgq0_1949 rfl) : zex E (n + 2) d 0 1949 [some (.float 0), some (.ref 0), some (.ref 84), some (.ref 94), some (.int i), u5, u6] [] h = zex E (n + 1) d 0 1952 [some (.float 0), some (.ref 0), some (.ref 84), some (.ref 94), some (.int (i + 6)), u5, u6] [] h).trans (((yGo zgq0_1952) : zex E (n + 1) d 0 1952 [some (.float 0), some (.ref 0), some (.ref 84), some (.ref 94), some (.int (i + 6)), u5, u6] [] h = zex E n d 0 23 [some (.float 0), some (.ref 0), some (.ref 84), some (.ref 94), some (.int (i + 6)), u5, u6] [] h))
def sp7 : List Nat := [248, 321, 346, 362, 378, 391, 431, 471, 511, 551, 591, 643, 671, 699, 727, 767, 835, 875, 915, 967, 1035, 1075, 1115, 1171, 1211, 1239, 1252, 1280, 1320, 1372, 1412, 1468, 1496, 1552, 1580, 1620, 1633, 1661, 1701, 1741, 1757, 1782, 1822, 1862, 1887, 1900, 1911, 1924, 1949]
set_option maxRecDepth 100000 in
theorem sw_all : ∀ k : Nat, k < 64 → ∃ t, t ∈ sp7 ∧ ∀ K : Nat → Option zR, zsw (Int32.ofNat k) [(0, 248), (1, 321), (2, 346), (3, 362), (4, 378), (5, 391), (6, 431), (7, 471), (8, 511), (9, 551), (10, 591), (11, 643), (12, 671), (13, 699), (14, 727), (15, 767), (16, 835), (17, 875), (18, 915), (19, 967), (20, 1035), (21, 1075), (22, 1115), (23, 1171), (24, 1211), (25, 1239), (26, 1252), (27, 1280), (28, 1320), (29, 1372), (30, 1412), (31, 1468), (32, 1496), (33, 1552), (34, 1580), (35, 1620), (36, 1633), (37, 1661), (38, 1701), (39, 1741), (40, 1757), (41, 1782), (42, 1822), (43, 1862), (44, 1887), (45, 1900), (46, 1911), (47, 1924)] 1949 K = K t := by
  intro k hk
  match k, hk with
  | 0, _ => exact ⟨248, by decide, fun _ => rfl⟩
  | 1, _ => exact ⟨321, by decide, fun _ => rfl⟩
  | 2, _ => exact ⟨346, by decide, fun _ => rfl⟩
  | 3, _ => exact ⟨362, by decide, fun _ => rfl⟩
  | 4, _ => exact ⟨378, by decide, fun _ => rfl⟩
  | 5, _ => exact ⟨391, by decide, fun _ => rfl⟩
  | 6, _ => exact ⟨431, by decide, fun _ => rfl⟩
  | 7, _ => exact ⟨471, by decide, fun _ => rfl⟩
  | 8, _ => exact ⟨511, by decide, fun _ => rfl⟩
  | 9, _ => exact ⟨551, by decide, fun _ => rfl⟩
  | 10, _ => exact ⟨591, by decide, fun _ => rfl⟩
  | 11, _ => exact ⟨643, by decide, fun _ => rfl⟩
  | 12, _ => exact ⟨671, by decide, fun _ => rfl⟩
  | 13, _ => exact ⟨699, by decide, fun _ => rfl⟩
  | 14, _ => exact ⟨727, by decide, fun _ => rfl⟩
  | 15, _ => exact ⟨767, by decide, fun _ => rfl⟩
  | 16, _ => exact ⟨835, by decide, fun _ => rfl⟩
  | 17, _ => exact ⟨875, by decide, fun _ => rfl⟩
  | 18, _ => exact ⟨915, by decide, fun _ => rfl⟩
  | 19, _ => exact ⟨967, by decide, fun _ => rfl⟩
  | 20, _ => exact ⟨1035, by decide, fun _ => rfl⟩
  | 21, _ => exact ⟨1075, by decide, fun _ => rfl⟩
  | 22, _ => exact ⟨1115, by decide, fun _ => rfl⟩
  | 23, _ => exact ⟨1171, by decide, fun _ => rfl⟩
  | 24, _ => exact ⟨1211, by decide, fun _ => rfl⟩
  | 25, _ => exact ⟨1239, by decide, fun _ => rfl⟩
  | 26, _ => exact ⟨1252, by decide, fun _ => rfl⟩
  | 27, _ => exact ⟨1280, by decide, fun _ => rfl⟩
  | 28, _ => exact ⟨1320, by decide, fun _ => rfl⟩
  | 29, _ => exact ⟨1372, by decide, fun _ => rfl⟩
  | 30, _ => exact ⟨1412, by decide, fun _ => rfl⟩
  | 31, _ => exact ⟨1468, by decide, fun _ => rfl⟩
  | 32, _ => exact ⟨1496, by decide, fun _ => rfl⟩
  | 33, _ => exact ⟨1552, by decide, fun _ => rfl⟩
  | 34, _ => exact ⟨1580, by decide, fun _ => rfl⟩
  | 35, _ => exact ⟨1620, by decide, fun _ => rfl⟩
  | 36, _ => exact ⟨1633, by decide, fun _ => rfl⟩
  | 37, _ => exact ⟨1661, by decide, fun _ => rfl⟩
  | 38, _ => exact ⟨1701, by decide, fun _ => rfl⟩
  | 39, _ => exact ⟨1741, by decide, fun _ => rfl⟩
  | 40, _ => exact ⟨1757, by decide, fun _ => rfl⟩
  | 41, _ => exact ⟨1782, by decide, fun _ => rfl⟩
  | 42, _ => exact ⟨1822, by decide, fun _ => rfl⟩
  | 43, _ => exact ⟨1862, by decide, fun _ => rfl⟩
  | 44, _ => exact ⟨1887, by decide, fun _ => rfl⟩
  | 45, _ => exact ⟨1900, by decide, fun _ => rfl⟩
  | 46, _ => exact ⟨1911, by decide, fun _ => rfl⟩
  | 47, _ => exact ⟨1924, by decide, fun _ => rfl⟩
  | 48, _ => exact ⟨1949, by decide, fun _ => rfl⟩
  | 49, _ => exact ⟨1949, by decide, fun _ => rfl⟩
  | 50, _ => exact ⟨1949, by decide, fun _ => rfl⟩
  | 51, _ => exact ⟨1949, by decide, fun _ => rfl⟩
  | 52, _ => exact ⟨1949, by decide, fun _ => rfl⟩
  | 53, _ => exact ⟨1949, by decide, fun _ => rfl⟩
  | 54, _ => exact ⟨1949, by decide, fun _ => rfl⟩
  | 55, _ => exact ⟨1949, by decide, fun _ => rfl⟩
  | 56, _ => exact ⟨1949, by decide, fun _ => rfl⟩
  | 57, _ => exact ⟨1949, by decide, fun _ => rfl⟩
  | 58, _ => exact ⟨1949, by decide, fun _ => rfl⟩
  | 59, _ => exact ⟨1949, by decide, fun _ => rfl⟩
  | 60, _ => exact ⟨1949, by decide, fun _ => rfl⟩
  | 61, _ => exact ⟨1949, by decide, fun _ => rfl⟩
  | 62, _ => exact ⟨1949, by decide, fun _ => rfl⟩
  | 63, _ => exact ⟨1949, by decide, fun _ => rfl⟩
  | k + 64, z => exact absurd z (by omega)
set_option maxRecDepth 100000 in
theorem and_63 (x : Int32) : ∃ k : Nat, k < 64 ∧ x &&& 63 = Int32.ofNat k := by
  have h3 : (x &&& 63).toBitVec.toNat = x.toBitVec.toNat % 64 := by
    rw [show (x &&& 63).toBitVec = x.toBitVec &&& 63#32 from rfl, BitVec.toNat_and]
    exact Nat.and_two_pow_sub_one_eq_mod _ 6
  have h4 := btn2 (x := x &&& 63) (by omega)
  exact ⟨x.toBitVec.toNat % 64, Nat.mod_lt _ (by decide), i32_nat (by omega)⟩
set_option maxRecDepth 100000 in
theorem fin_l {E : zE} {tb : bTb} {W : Nat} {h0 : zH} {V : List Int} {ca sa nv : Nat} {Q : Option zR → Prop} {l : List bPo} (hn : nv = V.length) (hQ : ∀ p, p ∈ l → ∀ v h', bRQ tb W h0 ca sa h' → bPR E V p v h' → Q (some (.inl v, h'))) : bFin E tb W h0 V Q (bfn ca sa nv (bidl nv 0) l) := by
  intro V' S v w h' hx hS hv e
  obtain ⟨p, h1, h2⟩ := bfn_s e
  rw [hn] at h2
  obtain ⟨h3, h4, h5⟩ := bpm_s hx hS hv h2
  exact hQ p h1 w h' ⟨hS.2.2.2.2.1, hS.2.2.2.2.2.1, hS.2.2.2.2.2.2.1, hS.2.2.2.2.2.2.2.1, h3, h4⟩ h5
set_option maxRecDepth 100000 in
theorem pr_c {E : zE} {V : List Int} {c : Int} {pv : bPv} {v : Option Value} {h' : zH} (hp : bPR E V ([], [], some (.inl (c, [])), pv) v h') : ∃ x : Int32, v = some (.int x) ∧ x.toInt = c ∧ bpv E V pv h' := by
  obtain ⟨U, u1, u2, u3, u4⟩ := hp
  cases benv_0 u1
  rw [List.append_nil] at u3 u4
  cases v with
  | none => exact u3.elim
  | some w =>
    obtain ⟨x, x1, x2⟩ := u3
    exact ⟨x, by rw [x1], brel_k x2, u4⟩
def q09 : Option bV := some (.inr (.inl (.ref 0)))
def q949 : Option bV := some (.inr (.inl (.ref 94)))
def poH : List bPo := [([], [], some (.inl (0, [])), []), ([], [], some (.inl (1, [])), [(27, 2, mv 0)]), ([], [], some (.inl (2, [])), [(27, 2, mv 0)])]
def poL : List bPo := [([], [], some (.inl (0, [])), [(27, 2, (0, []))]), ([], [], some (.inl (1, [])), [(27, 2, mv 0)])]
def poB0 : List bPo := [([], [], some (.inl (0, [])), [(27, 2, mv 0)])]
def poB1 : List bPo := [([], [], some (.inl (1, [])), [(27, 2, (0, []))])]
set_option maxRecDepth 100000 in
theorem rn_h : btz 50210776781916662799462413948580297688308340826012103277056 (60, smT) ctb (bfn 1 6 1 (bidl 1 0) poH) 70 1 1000000 1 [] (1, [(0, 12)], [], [(27, (2, []), mv 0)], (0, []), (0, [])) 0 [q09, q949, none] = true := by decide +kernel
set_option maxRecDepth 100000 in
theorem rn_l : btz 1594785575299281661583176004017832560340647723108378334046779904 (60, smT) ctb (bfn 1 6 1 (bidl 1 0) poL) 70 2 1000000 1 [] (1, [(0, 12)], [], [(27, (2, []), mv 0)], (0, []), (0, [])) 0 [q09, q949, none] = true := by decide +kernel
set_option maxRecDepth 100000 in
theorem rn_b0 : btz 23316648616779494457344 (60, smT) ctb (bfn 0 0 1 (bidl 1 0) poB0) 70 85 1000000 1 [] (1, [(0, 12)], [], [(30, (4, []), (0, [])), (27, (2, []), mv 0)], (0, []), (0, [])) 0 [q09] = true := by decide +kernel
set_option maxRecDepth 100000 in
theorem rn_b1 : btz 23316648616779494457344 (60, smT) ctb (bfn 0 0 1 (bidl 1 0) poB1) 70 85 1000000 1 [] (1, [(0, 12)], [], [(30, (4, []), (1, [])), (27, (2, []), mv 0)], (0, []), (0, [])) 0 [q09] = true := by decide +kernel
section RN
variable {E : zE} {B : Nat} {h : zH}
def rnQ (E : zE) (V : List Int) (po : List bPo) (o : Option zR) : Prop := ∃ v h', o = some (.inl v, h') ∧ ∃ p, p ∈ po ∧ bPR E V p v h'
set_option maxRecDepth 100000 in
theorem rng (hE : E.1 < 2147483648) (hsm : bSO E ctb B (60, smT)) (gI : bHI h) (gP : bPS h) (gT : bTB ctb h.1) {W MI ca sa : Nat} {po : List bPo} {al : bLs} {ls : zLs} {ov : bO} (hl : bLR [(h.2.1 27 2).toInt] al ls) (hov : bOV E [(h.2.1 27 2).toInt] ov h) (e : btz W (60, smT) ctb (bfn ca sa 1 (bidl 1 0) po) 70 MI 1000000 1 [] (1, [(0, 12)], [], ov, (0, []), (0, [])) 0 al = true) : ∀ d f, 70 ≤ d → B + 1000000 ≤ f → rnQ E [(h.2.1 27 2).toInt] po (zex E f d MI 0 ls [] h) := by
  have b2 := gI.1 27 2
  rw [biv272] at b2
  exact seg (V := [(h.2.1 27 2).toInt]) (ca := 0) (sa := 0) (nv := 1) (Q := rnQ E [(h.2.1 27 2).toInt] po) hE hsm (fin_l (V := [(h.2.1 27 2).toInt]) rfl (fun p hp v h' _ k => ⟨v, h', rfl, p, hp, k⟩)) ⟨gI, gP, gT, fun _ _ _ => rfl, Nat.le_refl _, Nat.le_refl _⟩ (benv_c b2.1 b2.2 benv_n) rfl bcs_n hov hl e (B' := B) (Nat.le_refl _) (fun N hN => absurd hN List.not_mem_nil) (fun N hN => absurd hN List.not_mem_nil)
set_option maxRecDepth 100000 in
theorem rn_same {V : List Int} {v : Int} {h' : zH} (hV : V = [v]) (k : bpv E V [(27, 2, mv 0)] h') : (h'.2.1 27 2).toInt = v := by
  subst hV
  exact bpv_v k (c := 27) (k := 2) (i := 0) rfl (List.Mem.head _)
set_option maxRecDepth 100000 in
theorem rn_nul {V : List Int} {h' : zH} (k : bpv E V [(27, 2, (0, []))] h') : (h'.2.1 27 2).toInt = 0 := bpv_k k (c := 27) (k := 2) rfl (List.Mem.head _)
set_option maxRecDepth 100000 in
theorem ov_27 : bOV E [(h.2.1 27 2).toInt] [(27, (2, []), mv 0)] h := bov_c (k := 2) rfl rfl rfl rfl (by unfold mv; rw [bvx_v]; rfl) bov_n
set_option maxRecDepth 100000 in
theorem ov_304 {c : Int} (hc : (h.2.1 30 4).toInt = c) : bOV E [(h.2.1 27 2).toInt] [(30, (4, []), (c, [])), (27, (2, []), mv 0)] h := bov_c (k := 4) rfl rfl rfl rfl (by rw [hc]; exact (Int.add_zero c).symm) ov_27
set_option maxRecDepth 100000 in
theorem w27h (hE : E.1 < 2147483648) (hsm : bSO E ctb B (60, smT)) (gI : bHI h) (gP : bPS h) (gT : bTB ctb h.1) {d f : Nat} (hd : 70 ≤ d) (hf : B + 1000000 ≤ f) {x : Int32} {h1 : zH} (e : zex E f d 1 0 [some (.ref 0), some (.ref 94), none] [] h = some (.inl (some (.int x)), h1)) : x.toInt = 0 ∨ (h1.2.1 27 2).toInt = (h.2.1 27 2).toInt := by
  obtain ⟨v, h', e1, p, hp, k⟩ := rng hE hsm gI gP gT (al := [q09, q949, none]) (ls := [some (.ref 0), some (.ref 94), none]) ⟨⟨_, rfl, rfl⟩, ⟨_, rfl, rfl⟩, trivial, trivial⟩ ov_27 rn_h d f hd hf
  obtain ⟨z1, z2⟩ := inl_j e e1
  subst z2
  cases hp with
  | head => obtain ⟨y, y1, y2, -⟩ := pr_c k; rw [y1] at z1; injection z1 with z1; injection z1 with z1; left; rw [z1]; exact y2
  | tail _ hp =>
    cases hp with
    | head => right; obtain ⟨y, y1, y2, y3⟩ := pr_c k; exact rn_same rfl y3
    | tail _ hp =>
      cases hp with
      | head => right; obtain ⟨y, y1, y2, y3⟩ := pr_c k; exact rn_same rfl y3
      | tail _ hp => exact absurd hp List.not_mem_nil
set_option maxRecDepth 100000 in
theorem w27l (hE : E.1 < 2147483648) (hsm : bSO E ctb B (60, smT)) (gI : bHI h) (gP : bPS h) (gT : bTB ctb h.1) {d f : Nat} (hd : 70 ≤ d) (hf : B + 1000000 ≤ f) {x : Int32} {h1 : zH} (e : zex E f d 2 0 [some (.ref 0), some (.ref 94), none] [] h = some (.inl (some (.int x)), h1)) : (x.toInt = 0 ∧ (h1.2.1 27 2).toInt = 0) ∨ (x.toInt = 1 ∧ (h1.2.1 27 2).toInt = (h.2.1 27 2).toInt) := by
  obtain ⟨v, h', e1, p, hp, k⟩ := rng hE hsm gI gP gT (al := [q09, q949, none]) (ls := [some (.ref 0), some (.ref 94), none]) ⟨⟨_, rfl, rfl⟩, ⟨_, rfl, rfl⟩, trivial, trivial⟩ ov_27 rn_l d f hd hf
  obtain ⟨z1, z2⟩ := inl_j e e1
  subst z2
  cases hp with
  | head => obtain ⟨y, y1, y2, y3⟩ := pr_c k; rw [y1] at z1; injection z1 with z1; injection z1 with z1; left; rw [z1]; exact ⟨y2, rn_nul y3⟩
  | tail _ hp =>
    cases hp with
    | head => right; obtain ⟨y, y1, y2, y3⟩ := pr_c k; rw [y1] at z1; injection z1 with z1; injection z1 with z1; rw [z1]; exact ⟨y2, rn_same rfl y3⟩
    | tail _ hp => exact absurd hp List.not_mem_nil
set_option maxRecDepth 100000 in
theorem w27b0 (hE : E.1 < 2147483648) (hsm : bSO E ctb B (60, smT)) (gI : bHI h) (gP : bPS h) (gT : bTB ctb h.1) {d f : Nat} (hd : 70 ≤ d) (hf : B + 1000000 ≤ f) (hc : (h.2.1 30 4).toInt = 0) {x : Int32} {h1 : zH} (e : zex E f d 85 0 [some (.ref 0)] [] h = some (.inl (some (.int x)), h1)) : (h1.2.1 27 2).toInt = (h.2.1 27 2).toInt := by
  obtain ⟨v, h', e1, p, hp, k⟩ := rng hE hsm gI gP gT (al := [q09]) (ls := [some (.ref 0)]) ⟨⟨_, rfl, rfl⟩, trivial⟩ (ov_304 hc) rn_b0 d f hd hf
  obtain ⟨z1, z2⟩ := inl_j e e1
  subst z2
  cases hp with
  | head => obtain ⟨y, y1, y2, y3⟩ := pr_c k; exact rn_same rfl y3
  | tail _ hp => exact absurd hp List.not_mem_nil
set_option maxRecDepth 100000 in
theorem w27b1 (hE : E.1 < 2147483648) (hsm : bSO E ctb B (60, smT)) (gI : bHI h) (gP : bPS h) (gT : bTB ctb h.1) {d f : Nat} (hd : 70 ≤ d) (hf : B + 1000000 ≤ f) (hc : (h.2.1 30 4).toInt = 1) {x : Int32} {h1 : zH} (e : zex E f d 85 0 [some (.ref 0)] [] h = some (.inl (some (.int x)), h1)) : (h1.2.1 27 2).toInt = 0 := by
  obtain ⟨v, h', e1, p, hp, k⟩ := rng hE hsm gI gP gT (al := [q09]) (ls := [some (.ref 0)]) ⟨⟨_, rfl, rfl⟩, trivial⟩ (ov_304 hc) rn_b1 d f hd hf
  obtain ⟨z1, z2⟩ := inl_j e e1
  subst z2
  cases hp with
  | head => obtain ⟨y, y1, y2, y3⟩ := pr_c k; exact rn_nul y3
  | tail _ hp => exact absurd hp List.not_mem_nil
set_option maxRecDepth 100000 in
theorem paQ_g {n d mi pc : Nat} {ls : zLs} {st : List Value} {h' : zH} {r : Option Value ⊕ Nat} (e : zex E n d mi pc ls st h = some (r, h')) (hI : bHI h') (hP : bPS h') (h2 : (h'.2.1 27 2).toInt = 0 ∨ (h'.2.1 27 2).toInt = (h.2.1 27 2).toInt) (h3 : h'.2.1 27 3 = h.2.1 27 3) (hA : paQ h) : paQ h' := by
  obtain ⟨q, a1, a2, a3⟩ := hA
  obtain ⟨r', b1, b2, -⟩ := hP
  have hl : h.1.length ≤ h'.1.length := zex_ml E n d mi pc ls st h r h' e
  rw [a1, b2, bsT_len q (by omega), bsT_len r' (by omega)] at hl
  have b := hI.1 27 3
  rw [biv273] at b
  have b1 : 0 ≤ (h'.2.1 27 3).toInt := b.1
  refine ⟨r', b2, by omega, fun z => ?_⟩
  rcases h2 with h2 | h2
  · rw [h2]; exact b1
  · rw [h2, h3]
    exact a3 (by omega)
set_option maxRecDepth 100000 in
theorem paQ_s {h h' : zH} (hs : h'.1 = h.1) (h2 : h'.2.1 27 2 = h.2.1 27 2) (h3 : h'.2.1 27 3 = h.2.1 27 3) (hA : paQ h) : paQ h' := by
  obtain ⟨q, a1, a2, a3⟩ := hA
  exact ⟨q, by rw [hs]; exact a1, a2, fun z => by rw [h2, h3]; exact a3 z⟩
set_option maxRecDepth 100000 in
theorem paQ_i (hI : bHI h) (hP : bPS h) (h2 : (h.2.1 27 2).toInt = 0) : paQ h := by
  obtain ⟨r, a1, a2, a3⟩ := hP
  have b := hI.1 27 3
  rw [biv273] at b
  have b1 : 0 ≤ (h.2.1 27 3).toInt := b.1
  exact ⟨r, a2, a1, fun _ => by rw [h2]; exact b1⟩
set_option maxRecDepth 100000 in
theorem rQ_e {o : Option zR} {x : Int32} {h1 : zH} (e : o = some (.inl (some (.int x)), h1)) (q : rQ h o) : x = (if (h.2.1 27 2).toInt = 0 then 0 else 1) ∧ (h1.2.1 27 2).toInt = (if (h.2.1 27 2).toInt = 0 then 0 else (h.2.1 27 2).toInt - 1) ∧ paQ h1 := by
  unfold rQ at q
  by_cases h0 : (h.2.1 27 2).toInt = 0
  · rw [if_pos h0] at q
    obtain ⟨h9, e9, s, a⟩ := q
    obtain ⟨z1, z2⟩ := inl_j e e9
    injection z1 with z1
    injection z1 with z1
    subst z2
    rw [if_pos h0, if_pos h0]
    exact ⟨z1, s, a⟩
  · rw [if_neg h0] at q
    obtain ⟨h9, e9, s, a⟩ := q
    obtain ⟨z1, z2⟩ := inl_j e e9
    injection z1 with z1
    injection z1 with z1
    subst z2
    rw [if_neg h0, if_neg h0]
    exact ⟨z1, s, a⟩
end RN
section L8
variable {E : zE} {B : Nat} {h : zH} {L im : Nat}
set_option maxRecDepth 100000 in
theorem law8 (hsm : bSO E ctb B (60, smT)) (hI : bHI h) (hP : bPS h) (hT : bTB ctb h.1) : ∀ d f, 50 ≤ d → B + 100000 ≤ f → ∀ {v : Option Value} {h' : zH}, zex E f d 266 0 [some (.ref 84), none, none] [] h = some (.inl v, h') → ((h'.2.1 84 14).toInt = -1 ∧ (h'.2.1 84 7).toInt = 0) ∨ ((h'.2.1 84 0).toInt = 1 ∧ h'.2.1 84 7 = h.2.1 84 7) := by
  intro d f hd hf v h' c1
  obtain ⟨d', hd'⟩ : ∃ d', d = d' + 1 := ⟨d - 1, by omega⟩
  subst hd'
  obtain ⟨n, hn⟩ : ∃ n, f = n + 18 + 3 := ⟨f - 21, by omega⟩
  subst hn
  obtain ⟨v1, h1, e1, k2, k3, k4, k5, k6, q1, m1, b1⟩ := hsm 264 [sc340, sc341] rfl sc341 (List.Mem.tail _ (List.Mem.head _)) (by decide) [] [.ref 84, .int 0] h d' (n + 18) (2, 3, 0, 12, 1, 0) rfl (by show 42 ≤ d'; omega) (by omega) ⟨rfl, ⟨_, rfl, brel_c _ 0⟩, trivial⟩ benv_n bcs_n (fun e he => absurd he List.not_mem_nil) hI hP hT
  obtain ⟨x, hx⟩ := bPR_i m1 (by decide) b1
  subst hx
  have e1 : zex E (n + 18) d' 264 0 [some (.ref 84), some (.int 0), none] [] h = some (.inl (some (.int x)), h1) := e1
  have e2 := xq_0 (u1 := none) (u2 := none) (hT 84 _ cs84 (by intro z; cases z)) e1
  have a84 := k3.2 84 _ cs84 (by intro z; cases z)
  have a85 := k3.2 85 _ ks85 (by intro z; cases z)
  have f7 : h1.2.1 84 7 = h.2.1 84 7 := k4 84 7 (by decide +kernel)
  by_cases hx : 0 ≤ x.toInt
  · obtain ⟨k, hk⟩ : ∃ k, n + 18 = k + 10 + 3 + 17 * 849 + 20 := ⟨n + 18 - 14466, by omega⟩
    rw [hk] at e2
    have e3 := ml_5s (E := E) (n := k + 10 + 3 + 17 * 849) (d := d') (u1 := none) (u2 := none) (x := x) (h := h1) hx a84 a85 (mt_0 (u2 := some (.int 1)))
    have e4 := zllaw_loop (E := E) (d := d' + 1) (a := 84) (t := 85) (w := 85) (sh := h1.1) (v := (zsetI (zsetI h1 84 (upd (h1.2.1 84) 14 (-1))) 85 (upd ((zsetI h1 84 (upd (h1.2.1 84) 14 (-1))).2.1 85) 1626 x)).2.1) (rest := h1.2.2) (l1 := x) a84 rfl rfl a85 a85 (o := 777) (q := 1626) (fun k hk => baddk (by decide) (by omega) (by omega)) (fun k hk => baddk (by decide) (by omega) (by omega)) (by omega) (by omega) (Or.inr (by omega)) 849 0 (k + 10) rfl
    rw [zcpg_0] at e4
    have e5 := ml_85 (E := E) (n := k) (d := d') (u2 := some (.int (Int32.ofNat 849))) (x := x) (h := (h1.1, zcpg (zsetI (zsetI h1 84 (upd (h1.2.1 84) 14 (-1))) 85 (upd ((zsetI h1 84 (upd (h1.2.1 84) 14 (-1))).2.1 85) 1626 x)).2.1 85 85 777 1626 849, h1.2.2)) a84 a85
    have e6 := e2.trans (e3.trans (e4.trans e5))
    have f0 : k + 10 + 3 + 17 * 849 + 20 + 3 = n + 18 + 3 := by omega
    rw [f0] at e6
    obtain ⟨f1, f2⟩ := inl_j c1 e6
    left
    refine ⟨?_, ?_⟩
    · rw [f2, zs_at, upd_n (by decide), zs_ne (by decide), cpg_at (show (84 : Nat) ≠ 85 by decide), zs_ne (by decide), zs_at, upd_e]
      decide
    · rw [f2, zs_at, upd_e]
      rfl
  · obtain ⟨m, hm⟩ : ∃ m, n = m + 4 := ⟨n - 4, by omega⟩
    subst hm
    have e3 := ml_5f (E := E) (n := m + 4) (d := d') (u1 := none) (u2 := none) (x := x) (h := h1) (by omega) a84 (mt_1 (n := m) a84)
    obtain ⟨f1, f2⟩ := inl_j c1 (e2.trans e3)
    right
    refine ⟨?_, ?_⟩
    · rw [f2, zs_at, upd_e]
      decide
    · rw [f2, zs_at, upd_n (by decide), zs_at, upd_n (by decide)]
      exact f7
end L8
