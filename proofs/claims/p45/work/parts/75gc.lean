/-! rounds: what becomes of SEED (wip/zab2/c/lgen55.py, seed.txt) -/
set_option maxRecDepth 100000 in
theorem zgs97_0 : zfetch 97 0 = some (.aload_n 0, 1, (0, 0, 0), 0, 0) := by decide +kernel
set_option maxRecDepth 100000 in
theorem zgs97_1 : zfetch 97 1 = some (.ldc 67, 2, (0, 0, 0), 1103515245, 685) := by decide +kernel
set_option maxRecDepth 100000 in
theorem zgs97_3 : zfetch 97 3 = some (.aload_n 0, 1, (0, 0, 0), 0, 0) := by decide +kernel
set_option maxRecDepth 100000 in
theorem zgs97_4 : zfetch 97 4 = some (.getfield 49, 3, (0, 12, 0), 0, 411) := by decide +kernel
set_option maxRecDepth 100000 in
theorem zgs97_7 : zfetch 97 7 = some (.imul, 1, (0, 0, 0), 0, 0) := by decide +kernel
set_option maxRecDepth 100000 in
theorem zgs97_8 : zfetch 97 8 = some (.sipush 12345, 3, (0, 0, 0), 12345, 0) := by decide +kernel
set_option maxRecDepth 100000 in
theorem zgs97_11 : zfetch 97 11 = some (.iadd, 1, (0, 0, 0), 0, 0) := by decide +kernel
set_option maxRecDepth 100000 in
theorem zgs97_12 : zfetch 97 12 = some (.putfield 49, 3, (0, 12, 0), 0, 411) := by decide +kernel
set_option maxRecDepth 100000 in
theorem zgs97_15 : zfetch 97 15 = some (.aload_n 0, 1, (0, 0, 0), 0, 0) := by decide +kernel
set_option maxRecDepth 100000 in
theorem zgs97_16 : zfetch 97 16 = some (.getfield 49, 3, (0, 12, 0), 0, 411) := by decide +kernel
set_option maxRecDepth 100000 in
theorem zgs97_19 : zfetch 97 19 = some (.bipush 16, 2, (0, 0, 0), 16, 0) := by decide +kernel
set_option maxRecDepth 100000 in
theorem zgs97_21 : zfetch 97 21 = some (.iushr, 1, (0, 0, 0), 0, 0) := by decide +kernel
set_option maxRecDepth 100000 in
theorem zgs97_22 : zfetch 97 22 = some (.sipush 32767, 3, (0, 0, 0), 32767, 0) := by decide +kernel
set_option maxRecDepth 100000 in
theorem zgs97_25 : zfetch 97 25 = some (.iand, 1, (0, 0, 0), 0, 0) := by decide +kernel
set_option maxRecDepth 100000 in
theorem zgs97_26 : zfetch 97 26 = some (.ireturn, 1, (0, 0, 0), 0, 0) := by decide +kernel
set_option maxRecDepth 100000 in
theorem zgs118_109 : zfetch 118 109 = some (.aload_n 1, 1, (0, 0, 0), 0, 0) := by decide +kernel
set_option maxRecDepth 100000 in
theorem zgs118_110 : zfetch 118 110 = some (.getfield 42, 3, (0, 0, 1), 0, 370) := by decide +kernel
set_option maxRecDepth 100000 in
theorem zgs118_113 : zfetch 118 113 = some (.iload 5, 2, (0, 0, 0), 0, 0) := by decide +kernel
set_option maxRecDepth 100000 in
theorem zgs118_115 : zfetch 118 115 = some (.iaload, 1, (0, 0, 0), 0, 0) := by decide +kernel
set_option maxRecDepth 100000 in
theorem zgs118_116 : zfetch 118 116 = some (.ifCond .le 32, 3, (148, 0, 0), 0, 0) := by decide +kernel
set_option maxRecDepth 100000 in
theorem zgs118_119 : zfetch 118 119 = some (.aload_n 1, 1, (0, 0, 0), 0, 0) := by decide +kernel
set_option maxRecDepth 100000 in
theorem zgs118_120 : zfetch 118 120 = some (.invokevirtual 92, 3, (0, 97, 1), 0, 681) := by decide +kernel
set_option maxRecDepth 100000 in
theorem zgs118_123 : zfetch 118 123 = some (.bipush 100, 2, (0, 0, 0), 100, 0) := by decide +kernel
set_option maxRecDepth 100000 in
theorem zgs118_125 : zfetch 118 125 = some (.irem, 1, (0, 0, 0), 0, 0) := by decide +kernel
set_option maxRecDepth 100000 in
theorem zgs118_126 : zfetch 118 126 = some (.aload_n 1, 1, (0, 0, 0), 0, 0) := by decide +kernel
set_option maxRecDepth 100000 in
theorem zgs118_127 : zfetch 118 127 = some (.getfield 96, 3, (0, 2, 1), 0, 379) := by decide +kernel
set_option maxRecDepth 100000 in
theorem zgs118_130 : zfetch 118 130 = some (.iload_n 2, 1, (0, 0, 0), 0, 0) := by decide +kernel
set_option maxRecDepth 100000 in
theorem zgs118_131 : zfetch 118 131 = some (.iaload, 1, (0, 0, 0), 0, 0) := by decide +kernel
set_option maxRecDepth 100000 in
theorem zgs118_132 : zfetch 118 132 = some (.if_icmp .ge 16, 3, (148, 0, 0), 0, 0) := by decide +kernel
set_option maxRecDepth 100000 in
theorem zgs231_0 : zfetch 231 0 = some (.aload_n 0, 1, (0, 0, 0), 0, 0) := by decide +kernel
set_option maxRecDepth 100000 in
theorem zgs231_1 : zfetch 231 1 = some (.getfield 13, 3, (12, 1, 0), 0, 1614) := by decide +kernel
set_option maxRecDepth 100000 in
theorem zgs231_4 : zfetch 231 4 = some (.bipush 12, 2, (0, 0, 0), 12, 0) := by decide +kernel
set_option maxRecDepth 100000 in
theorem zgs231_6 : zfetch 231 6 = some (.ldc 80, 2, (0, 0, 0), 1103515245, 1981) := by decide +kernel
set_option maxRecDepth 100000 in
theorem zgs231_8 : zfetch 231 8 = some (.aload_n 0, 1, (0, 0, 0), 0, 0) := by decide +kernel
set_option maxRecDepth 100000 in
theorem zgs231_9 : zfetch 231 9 = some (.getfield 13, 3, (12, 1, 0), 0, 1614) := by decide +kernel
set_option maxRecDepth 100000 in
theorem zgs231_12 : zfetch 231 12 = some (.bipush 12, 2, (0, 0, 0), 12, 0) := by decide +kernel
set_option maxRecDepth 100000 in
theorem zgs231_14 : zfetch 231 14 = some (.iaload, 1, (0, 0, 0), 0, 0) := by decide +kernel
set_option maxRecDepth 100000 in
theorem zgs231_15 : zfetch 231 15 = some (.imul, 1, (0, 0, 0), 0, 0) := by decide +kernel
set_option maxRecDepth 100000 in
theorem zgs231_16 : zfetch 231 16 = some (.sipush 12345, 3, (0, 0, 0), 12345, 0) := by decide +kernel
set_option maxRecDepth 100000 in
theorem zgs231_19 : zfetch 231 19 = some (.iadd, 1, (0, 0, 0), 0, 0) := by decide +kernel
set_option maxRecDepth 100000 in
theorem zgs231_20 : zfetch 231 20 = some (.iastore, 1, (0, 0, 0), 0, 0) := by decide +kernel
set_option maxRecDepth 100000 in
theorem zgs231_21 : zfetch 231 21 = some (.aload_n 0, 1, (0, 0, 0), 0, 0) := by decide +kernel
set_option maxRecDepth 100000 in
theorem zgs231_22 : zfetch 231 22 = some (.getfield 13, 3, (12, 1, 0), 0, 1614) := by decide +kernel
set_option maxRecDepth 100000 in
theorem zgs231_25 : zfetch 231 25 = some (.bipush 12, 2, (0, 0, 0), 12, 0) := by decide +kernel
set_option maxRecDepth 100000 in
theorem zgs231_27 : zfetch 231 27 = some (.iaload, 1, (0, 0, 0), 0, 0) := by decide +kernel
set_option maxRecDepth 100000 in
theorem zgs231_28 : zfetch 231 28 = some (.bipush 16, 2, (0, 0, 0), 16, 0) := by decide +kernel
set_option maxRecDepth 100000 in
theorem zgs231_30 : zfetch 231 30 = some (.ishr, 1, (0, 0, 0), 0, 0) := by decide +kernel
set_option maxRecDepth 100000 in
theorem zgs231_31 : zfetch 231 31 = some (.sipush 32767, 3, (0, 0, 0), 32767, 0) := by decide +kernel
set_option maxRecDepth 100000 in
theorem zgs231_34 : zfetch 231 34 = some (.iand, 1, (0, 0, 0), 0, 0) := by decide +kernel
set_option maxRecDepth 100000 in
theorem zgs231_35 : zfetch 231 35 = some (.iload_n 1, 1, (0, 0, 0), 0, 0) := by decide +kernel
set_option maxRecDepth 100000 in
theorem zgs231_36 : zfetch 231 36 = some (.irem, 1, (0, 0, 0), 0, 0) := by decide +kernel
set_option maxRecDepth 100000 in
theorem zgs231_37 : zfetch 231 37 = some (.ireturn, 1, (0, 0, 0), 0, 0) := by decide +kernel
set_option maxRecDepth 100000 in
theorem zgs220_0 : zfetch 220 0 = some (.aload_n 0, 1, (0, 0, 0), 0, 0) := by decide +kernel
set_option maxRecDepth 100000 in
theorem zgs220_1 : zfetch 220 1 = some (.getfield 13, 3, (12, 1, 0), 0, 1614) := by decide +kernel
set_option maxRecDepth 100000 in
theorem zgs220_4 : zfetch 220 4 = some (.iload_n 1, 1, (0, 0, 0), 0, 0) := by decide +kernel
set_option maxRecDepth 100000 in
theorem zgs220_5 : zfetch 220 5 = some (.iload_n 2, 1, (0, 0, 0), 0, 0) := by decide +kernel
set_option maxRecDepth 100000 in
theorem zgs220_6 : zfetch 220 6 = some (.invokestatic 52, 3, (0, 218, 0), 0, 1759) := by decide +kernel
set_option maxRecDepth 100000 in
theorem zgs220_9 : zfetch 220 9 = some (.iaload, 1, (0, 0, 0), 0, 0) := by decide +kernel
set_option maxRecDepth 100000 in
theorem zgs220_10 : zfetch 220 10 = some (.ireturn, 1, (0, 0, 0), 0, 0) := by decide +kernel
set_option maxRecDepth 100000 in
theorem zgs282_95 : zfetch 282 95 = some (.aload_n 0, 1, (0, 0, 0), 0, 0) := by decide +kernel
set_option maxRecDepth 100000 in
theorem zgs282_96 : zfetch 282 96 = some (.iload_n 3, 1, (0, 0, 0), 0, 0) := by decide +kernel
set_option maxRecDepth 100000 in
theorem zgs282_97 : zfetch 282 97 = some (.iconst 2, 1, (0, 0, 0), 2, 0) := by decide +kernel
set_option maxRecDepth 100000 in
theorem zgs282_98 : zfetch 282 98 = some (.invokevirtual 77, 3, (0, 220, 0), 0, 1901) := by decide +kernel
set_option maxRecDepth 100000 in
theorem zgs282_101 : zfetch 282 101 = some (.ifCond .le 32, 3, (133, 0, 0), 0, 0) := by decide +kernel
set_option maxRecDepth 100000 in
theorem zgs282_104 : zfetch 282 104 = some (.aload_n 0, 1, (0, 0, 0), 0, 0) := by decide +kernel
set_option maxRecDepth 100000 in
theorem zgs282_105 : zfetch 282 105 = some (.bipush 100, 2, (0, 0, 0), 100, 0) := by decide +kernel
set_option maxRecDepth 100000 in
theorem zgs282_107 : zfetch 282 107 = some (.invokevirtual 306, 3, (0, 231, 0), 0, 1977) := by decide +kernel
set_option maxRecDepth 100000 in
theorem zgs282_110 : zfetch 282 110 = some (.aload_n 0, 1, (0, 0, 0), 0, 0) := by decide +kernel
set_option maxRecDepth 100000 in
theorem zgs282_111 : zfetch 282 111 = some (.iload_n 1, 1, (0, 0, 0), 0, 0) := by decide +kernel
set_option maxRecDepth 100000 in
theorem zgs282_112 : zfetch 282 112 = some (.iconst 1, 1, (0, 0, 0), 1, 0) := by decide +kernel
set_option maxRecDepth 100000 in
theorem zgs282_113 : zfetch 282 113 = some (.invokevirtual 59, 3, (0, 221, 0), 0, 1787) := by decide +kernel
set_option maxRecDepth 100000 in
theorem zgs282_116 : zfetch 282 116 = some (.if_icmp .ge 17, 3, (133, 0, 0), 0, 0) := by decide +kernel
set_option maxRecDepth 100000 in
theorem znsq97 : zat zmi 97 = some (1, 1, 0, 0, 1, 0) := rfl
set_option maxRecDepth 100000 in
theorem znsq218 : zat zmi 218 = some (2, 2, 1, 12, 1, 0) := rfl
set_option maxRecDepth 100000 in
theorem znsq220 : zat zmi 220 = some (3, 3, 0, 12, 1, 0) := rfl
set_option maxRecDepth 100000 in
theorem znsq221 : zat zmi 221 = some (3, 3, 0, 12, 1, 0) := rfl
set_option maxRecDepth 100000 in
theorem znsq231 : zat zmi 231 = some (2, 2, 0, 12, 1, 0) := rfl
set_option maxRecDepth 100000 in
theorem ds_c {E : zE} {n d : Nat} {h : zH} {s y : Int32} (hs : h.2.1 18 12 = s) (hy : (zsetI h 18 (upd (h.2.1 18) 12 ((1103515245 * s) + 12345))).2.1 18 12 = y) (a18 : zat h.1 18 = some (.inr (.inl (0, [some (some 19), some (some 20), some (some 21), some (some 22), some (some 23), some (some 24), none, none, none, none, none, none, none]))))  : zex E (n + 15) d 97 0 [some (.ref 18)] [] h = some (.inl (some (.int ((((y).toUInt32 >>> ((16 : Int32).toUInt32 &&& Int32.toUInt32 31)).toInt32) &&& 32767))), (zsetI h 18 (upd (h.2.1 18) 12 ((1103515245 * s) + 12345)))) :=
  ((yAn zgs97_0 rfl rfl) : zex E (n + 15) d 97 0 [some (.ref 18)] [] h = zex E (n + 14) d 97 1 [some (.ref 18)] [.ref 18] h).trans (((yLi zgs97_1) : zex E (n + 14) d 97 1 [some (.ref 18)] [.ref 18] h = zex E (n + 13) d 97 3 [some (.ref 18)] [.int 1103515245, .ref 18] h).trans (((yAn zgs97_3 rfl rfl) : zex E (n + 13) d 97 3 [some (.ref 18)] [.int 1103515245, .ref 18] h = zex E (n + 12) d 97 4 [some (.ref 18)] [.ref 18, .int 1103515245, .ref 18] h).trans (((zgk zgs97_4 a18 rfl hs) : zex E (n + 12) d 97 4 [some (.ref 18)] [.ref 18, .int 1103515245, .ref 18] h = zex E (n + 11) d 97 7 [some (.ref 18)] [.int s, .int 1103515245, .ref 18] h).trans (((yMul zgs97_7) : zex E (n + 11) d 97 7 [some (.ref 18)] [.int s, .int 1103515245, .ref 18] h = zex E (n + 10) d 97 8 [some (.ref 18)] [.int (1103515245 * s), .ref 18] h).trans (((yCs zgs97_8) : zex E (n + 10) d 97 8 [some (.ref 18)] [.int (1103515245 * s), .ref 18] h = zex E (n + 9) d 97 11 [some (.ref 18)] [.int 12345, .int (1103515245 * s), .ref 18] h).trans (((yAdd zgs97_11) : zex E (n + 9) d 97 11 [some (.ref 18)] [.int 12345, .int (1103515245 * s), .ref 18] h = zex E (n + 8) d 97 12 [some (.ref 18)] [.int ((1103515245 * s) + 12345), .ref 18] h).trans (((zpx zgs97_12 a18 rfl) : zex E (n + 8) d 97 12 [some (.ref 18)] [.int ((1103515245 * s) + 12345), .ref 18] h = zex E (n + 7) d 97 15 [some (.ref 18)] [] (zsetI h 18 (upd (h.2.1 18) 12 ((1103515245 * s) + 12345)))).trans (((yAn zgs97_15 rfl rfl) : zex E (n + 7) d 97 15 [some (.ref 18)] [] (zsetI h 18 (upd (h.2.1 18) 12 ((1103515245 * s) + 12345))) = zex E (n + 6) d 97 16 [some (.ref 18)] [.ref 18] (zsetI h 18 (upd (h.2.1 18) 12 ((1103515245 * s) + 12345)))).trans (((zgk zgs97_16 a18 rfl hy) : zex E (n + 6) d 97 16 [some (.ref 18)] [.ref 18] (zsetI h 18 (upd (h.2.1 18) 12 ((1103515245 * s) + 12345))) = zex E (n + 5) d 97 19 [some (.ref 18)] [.int y] (zsetI h 18 (upd (h.2.1 18) 12 ((1103515245 * s) + 12345)))).trans (((yCb zgs97_19) : zex E (n + 5) d 97 19 [some (.ref 18)] [.int y] (zsetI h 18 (upd (h.2.1 18) 12 ((1103515245 * s) + 12345))) = zex E (n + 4) d 97 21 [some (.ref 18)] [.int 16, .int y] (zsetI h 18 (upd (h.2.1 18) 12 ((1103515245 * s) + 12345)))).trans (((yUsh zgs97_21) : zex E (n + 4) d 97 21 [some (.ref 18)] [.int 16, .int y] (zsetI h 18 (upd (h.2.1 18) 12 ((1103515245 * s) + 12345))) = zex E (n + 3) d 97 22 [some (.ref 18)] [.int ((y).toUInt32 >>> ((16 : Int32).toUInt32 &&& Int32.toUInt32 31)).toInt32] (zsetI h 18 (upd (h.2.1 18) 12 ((1103515245 * s) + 12345)))).trans (((yCs zgs97_22) : zex E (n + 3) d 97 22 [some (.ref 18)] [.int ((y).toUInt32 >>> ((16 : Int32).toUInt32 &&& Int32.toUInt32 31)).toInt32] (zsetI h 18 (upd (h.2.1 18) 12 ((1103515245 * s) + 12345))) = zex E (n + 2) d 97 25 [some (.ref 18)] [.int 32767, .int ((y).toUInt32 >>> ((16 : Int32).toUInt32 &&& Int32.toUInt32 31)).toInt32] (zsetI h 18 (upd (h.2.1 18) 12 ((1103515245 * s) + 12345)))).trans (((yAnd zgs97_25) : zex E (n + 2) d 97 25 [some (.ref 18)] [.int 32767, .int ((y).toUInt32 >>> ((16 : Int32).toUInt32 &&& Int32.toUInt32 31)).toInt32] (zsetI h 18 (upd (h.2.1 18) 12 ((1103515245 * s) + 12345))) = zex E (n + 1) d 97 26 [some (.ref 18)] [.int ((((y).toUInt32 >>> ((16 : Int32).toUInt32 &&& Int32.toUInt32 31)).toInt32) &&& 32767)] (zsetI h 18 (upd (h.2.1 18) 12 ((1103515245 * s) + 12345)))).trans (((yRet1 zgs97_26 rfl) : zex E (n + 1) d 97 26 [some (.ref 18)] [.int ((((y).toUInt32 >>> ((16 : Int32).toUInt32 &&& Int32.toUInt32 31)).toInt32) &&& 32767)] (zsetI h 18 (upd (h.2.1 18) 12 ((1103515245 * s) + 12345))) = some (.inl (some (.int ((((y).toUInt32 >>> ((16 : Int32).toUInt32 &&& Int32.toUInt32 31)).toInt32) &&& 32767))), (zsetI h 18 (upd (h.2.1 18) 12 ((1103515245 * s) + 12345)))))))))))))))))))
set_option maxRecDepth 100000 in
theorem xd_0 {E : zE} {n d : Nat} {h : zH} {p b r t : Int32} {R : Nat} {u6 : Option Value} (hr : r.toInt = (R : Int)) (hr12 : R < 12) (ht : h.2.1 19 R = t) (h0 : t.toInt ≤ 0) (a18 : zat h.1 18 = some (.inr (.inl (0, [some (some 19), some (some 20), some (some 21), some (some 22), some (some 23), some (some 24), none, none, none, none, none, none, none])))) (a19 : zat h.1 19 = some (.inl (0, 12, [])))  : zex E (n + 5) d 118 109 [some (.ref 3), some (.ref 18), some (.int p), some (.ref 25), some (.int b), some (.int r), u6] [] h = zex E n d 118 148 [some (.ref 3), some (.ref 18), some (.int p), some (.ref 25), some (.int b), some (.int r), u6] [] h :=
  ((yAn zgs118_109 rfl rfl) : zex E (n + 5) d 118 109 [some (.ref 3), some (.ref 18), some (.int p), some (.ref 25), some (.int b), some (.int r), u6] [] h = zex E (n + 4) d 118 110 [some (.ref 3), some (.ref 18), some (.int p), some (.ref 25), some (.int b), some (.int r), u6] [.ref 18] h).trans (((zgx zgs118_110 a18 rfl) : zex E (n + 4) d 118 110 [some (.ref 3), some (.ref 18), some (.int p), some (.ref 25), some (.int b), some (.int r), u6] [.ref 18] h = zex E (n + 3) d 118 113 [some (.ref 3), some (.ref 18), some (.int p), some (.ref 25), some (.int b), some (.int r), u6] [.ref 19] h).trans (((yI zgs118_113 rfl) : zex E (n + 3) d 118 113 [some (.ref 3), some (.ref 18), some (.int p), some (.ref 25), some (.int b), some (.int r), u6] [.ref 19] h = zex E (n + 2) d 118 115 [some (.ref 3), some (.ref 18), some (.int p), some (.ref 25), some (.int b), some (.int r), u6] [.int r, .ref 19] h).trans (((zlk zgs118_115 a19 hr hr12 ht) : zex E (n + 2) d 118 115 [some (.ref 3), some (.ref 18), some (.int p), some (.ref 25), some (.int b), some (.int r), u6] [.int r, .ref 19] h = zex E (n + 1) d 118 116 [some (.ref 3), some (.ref 18), some (.int p), some (.ref 25), some (.int b), some (.int r), u6] [.int t] h).trans (((zjiT zgs118_116 h0) : zex E (n + 1) d 118 116 [some (.ref 3), some (.ref 18), some (.int p), some (.ref 25), some (.int b), some (.int r), u6] [.int t] h = zex E n d 118 148 [some (.ref 3), some (.ref 18), some (.int p), some (.ref 25), some (.int b), some (.int r), u6] [] h)))))
set_option maxRecDepth 100000 in
theorem xd_1 {E : zE} {n d : Nat} {h h1 : zH} {p b r t x q : Int32} {R P : Nat} {u6 : Option Value} (hr : r.toInt = (R : Int)) (hr12 : R < 12) (ht : h.2.1 19 R = t) (hp : p.toInt = (P : Int)) (hp8 : P < 8) (hq : h1.2.1 21 P = q) (h0 : 0 < t.toInt) (hk : q.toInt ≤ (x - x / 100 * 100).toInt) (a18 : zat h.1 18 = some (.inr (.inl (0, [some (some 19), some (some 20), some (some 21), some (some 22), some (some 23), some (some 24), none, none, none, none, none, none, none])))) (a19 : zat h.1 19 = some (.inl (0, 12, []))) (a18_h1 : zat h1.1 18 = some (.inr (.inl (0, [some (some 19), some (some 20), some (some 21), some (some 22), some (some 23), some (some 24), none, none, none, none, none, none, none])))) (a21_h1 : zat h1.1 21 = some (.inl (0, 8, []))) (e1 : zex E (n + 7) d 97 0 [some (.ref 18)] [] h = some (.inl (some (.int x)), h1)) : zex E (n + 14) (d + 1) 118 109 [some (.ref 3), some (.ref 18), some (.int p), some (.ref 25), some (.int b), some (.int r), u6] [] h = zex E n (d + 1) 118 148 [some (.ref 3), some (.ref 18), some (.int p), some (.ref 25), some (.int b), some (.int r), u6] [] h1 :=
  ((yAn zgs118_109 rfl rfl) : zex E (n + 14) (d + 1) 118 109 [some (.ref 3), some (.ref 18), some (.int p), some (.ref 25), some (.int b), some (.int r), u6] [] h = zex E (n + 13) (d + 1) 118 110 [some (.ref 3), some (.ref 18), some (.int p), some (.ref 25), some (.int b), some (.int r), u6] [.ref 18] h).trans (((zgx zgs118_110 a18 rfl) : zex E (n + 13) (d + 1) 118 110 [some (.ref 3), some (.ref 18), some (.int p), some (.ref 25), some (.int b), some (.int r), u6] [.ref 18] h = zex E (n + 12) (d + 1) 118 113 [some (.ref 3), some (.ref 18), some (.int p), some (.ref 25), some (.int b), some (.int r), u6] [.ref 19] h).trans (((yI zgs118_113 rfl) : zex E (n + 12) (d + 1) 118 113 [some (.ref 3), some (.ref 18), some (.int p), some (.ref 25), some (.int b), some (.int r), u6] [.ref 19] h = zex E (n + 11) (d + 1) 118 115 [some (.ref 3), some (.ref 18), some (.int p), some (.ref 25), some (.int b), some (.int r), u6] [.int r, .ref 19] h).trans (((zlk zgs118_115 a19 hr hr12 ht) : zex E (n + 11) (d + 1) 118 115 [some (.ref 3), some (.ref 18), some (.int p), some (.ref 25), some (.int b), some (.int r), u6] [.int r, .ref 19] h = zex E (n + 10) (d + 1) 118 116 [some (.ref 3), some (.ref 18), some (.int p), some (.ref 25), some (.int b), some (.int r), u6] [.int t] h).trans (((zjiF zgs118_116 h0) : zex E (n + 10) (d + 1) 118 116 [some (.ref 3), some (.ref 18), some (.int p), some (.ref 25), some (.int b), some (.int r), u6] [.int t] h = zex E (n + 9) (d + 1) 118 119 [some (.ref 3), some (.ref 18), some (.int p), some (.ref 25), some (.int b), some (.int r), u6] [] h).trans (((yAn zgs118_119 rfl rfl) : zex E (n + 9) (d + 1) 118 119 [some (.ref 3), some (.ref 18), some (.int p), some (.ref 25), some (.int b), some (.int r), u6] [] h = zex E (n + 8) (d + 1) 118 120 [some (.ref 3), some (.ref 18), some (.int p), some (.ref 25), some (.int b), some (.int r), u6] [.ref 18] h).trans (((zcvg (h := h) (as := []) (r := []) zgs118_120 znsq97 rfl a18 rfl e1) : zex E (n + 8) (d + 1) 118 120 [some (.ref 3), some (.ref 18), some (.int p), some (.ref 25), some (.int b), some (.int r), u6] [.ref 18] h = zex E (n + 7) (d + 1) 118 123 [some (.ref 3), some (.ref 18), some (.int p), some (.ref 25), some (.int b), some (.int r), u6] [.int x] h1).trans (((yCb zgs118_123) : zex E (n + 7) (d + 1) 118 123 [some (.ref 3), some (.ref 18), some (.int p), some (.ref 25), some (.int b), some (.int r), u6] [.int x] h1 = zex E (n + 6) (d + 1) 118 125 [some (.ref 3), some (.ref 18), some (.int p), some (.ref 25), some (.int b), some (.int r), u6] [.int 100, .int x] h1).trans (((yRem zgs118_125 (by decide)) : zex E (n + 6) (d + 1) 118 125 [some (.ref 3), some (.ref 18), some (.int p), some (.ref 25), some (.int b), some (.int r), u6] [.int 100, .int x] h1 = zex E (n + 5) (d + 1) 118 126 [some (.ref 3), some (.ref 18), some (.int p), some (.ref 25), some (.int b), some (.int r), u6] [.int (x - x / 100 * 100)] h1).trans (((yAn zgs118_126 rfl rfl) : zex E (n + 5) (d + 1) 118 126 [some (.ref 3), some (.ref 18), some (.int p), some (.ref 25), some (.int b), some (.int r), u6] [.int (x - x / 100 * 100)] h1 = zex E (n + 4) (d + 1) 118 127 [some (.ref 3), some (.ref 18), some (.int p), some (.ref 25), some (.int b), some (.int r), u6] [.ref 18, .int (x - x / 100 * 100)] h1).trans (((zgx zgs118_127 a18_h1 rfl) : zex E (n + 4) (d + 1) 118 127 [some (.ref 3), some (.ref 18), some (.int p), some (.ref 25), some (.int b), some (.int r), u6] [.ref 18, .int (x - x / 100 * 100)] h1 = zex E (n + 3) (d + 1) 118 130 [some (.ref 3), some (.ref 18), some (.int p), some (.ref 25), some (.int b), some (.int r), u6] [.ref 21, .int (x - x / 100 * 100)] h1).trans (((yIn zgs118_130 rfl) : zex E (n + 3) (d + 1) 118 130 [some (.ref 3), some (.ref 18), some (.int p), some (.ref 25), some (.int b), some (.int r), u6] [.ref 21, .int (x - x / 100 * 100)] h1 = zex E (n + 2) (d + 1) 118 131 [some (.ref 3), some (.ref 18), some (.int p), some (.ref 25), some (.int b), some (.int r), u6] [.int p, .ref 21, .int (x - x / 100 * 100)] h1).trans (((zlk zgs118_131 a21_h1 hp hp8 hq) : zex E (n + 2) (d + 1) 118 131 [some (.ref 3), some (.ref 18), some (.int p), some (.ref 25), some (.int b), some (.int r), u6] [.int p, .ref 21, .int (x - x / 100 * 100)] h1 = zex E (n + 1) (d + 1) 118 132 [some (.ref 3), some (.ref 18), some (.int p), some (.ref 25), some (.int b), some (.int r), u6] [.int q, .int (x - x / 100 * 100)] h1).trans (((zkgT zgs118_132 hk) : zex E (n + 1) (d + 1) 118 132 [some (.ref 3), some (.ref 18), some (.int p), some (.ref 25), some (.int b), some (.int r), u6] [.int q, .int (x - x / 100 * 100)] h1 = zex E n (d + 1) 118 148 [some (.ref 3), some (.ref 18), some (.int p), some (.ref 25), some (.int b), some (.int r), u6] [] h1))))))))))))))
set_option maxRecDepth 100000 in
theorem xd_2 {E : zE} {n d : Nat} {h h1 : zH} {p b r t x q : Int32} {R P : Nat} {u6 : Option Value} (hr : r.toInt = (R : Int)) (hr12 : R < 12) (ht : h.2.1 19 R = t) (hp : p.toInt = (P : Int)) (hp8 : P < 8) (hq : h1.2.1 21 P = q) (h0 : 0 < t.toInt) (hk : (x - x / 100 * 100).toInt < q.toInt) (a18 : zat h.1 18 = some (.inr (.inl (0, [some (some 19), some (some 20), some (some 21), some (some 22), some (some 23), some (some 24), none, none, none, none, none, none, none])))) (a19 : zat h.1 19 = some (.inl (0, 12, []))) (a18_h1 : zat h1.1 18 = some (.inr (.inl (0, [some (some 19), some (some 20), some (some 21), some (some 22), some (some 23), some (some 24), none, none, none, none, none, none, none])))) (a21_h1 : zat h1.1 21 = some (.inl (0, 8, []))) (e1 : zex E (n + 7) d 97 0 [some (.ref 18)] [] h = some (.inl (some (.int x)), h1)) : zex E (n + 14) (d + 1) 118 109 [some (.ref 3), some (.ref 18), some (.int p), some (.ref 25), some (.int b), some (.int r), u6] [] h = zex E n (d + 1) 118 135 [some (.ref 3), some (.ref 18), some (.int p), some (.ref 25), some (.int b), some (.int r), u6] [] h1 :=
  ((yAn zgs118_109 rfl rfl) : zex E (n + 14) (d + 1) 118 109 [some (.ref 3), some (.ref 18), some (.int p), some (.ref 25), some (.int b), some (.int r), u6] [] h = zex E (n + 13) (d + 1) 118 110 [some (.ref 3), some (.ref 18), some (.int p), some (.ref 25), some (.int b), some (.int r), u6] [.ref 18] h).trans (((zgx zgs118_110 a18 rfl) : zex E (n + 13) (d + 1) 118 110 [some (.ref 3), some (.ref 18), some (.int p), some (.ref 25), some (.int b), some (.int r), u6] [.ref 18] h = zex E (n + 12) (d + 1) 118 113 [some (.ref 3), some (.ref 18), some (.int p), some (.ref 25), some (.int b), some (.int r), u6] [.ref 19] h).trans (((yI zgs118_113 rfl) : zex E (n + 12) (d + 1) 118 113 [some (.ref 3), some (.ref 18), some (.int p), some (.ref 25), some (.int b), some (.int r), u6] [.ref 19] h = zex E (n + 11) (d + 1) 118 115 [some (.ref 3), some (.ref 18), some (.int p), some (.ref 25), some (.int b), some (.int r), u6] [.int r, .ref 19] h).trans (((zlk zgs118_115 a19 hr hr12 ht) : zex E (n + 11) (d + 1) 118 115 [some (.ref 3), some (.ref 18), some (.int p), some (.ref 25), some (.int b), some (.int r), u6] [.int r, .ref 19] h = zex E (n + 10) (d + 1) 118 116 [some (.ref 3), some (.ref 18), some (.int p), some (.ref 25), some (.int b), some (.int r), u6] [.int t] h).trans (((zjiF zgs118_116 h0) : zex E (n + 10) (d + 1) 118 116 [some (.ref 3), some (.ref 18), some (.int p), some (.ref 25), some (.int b), some (.int r), u6] [.int t] h = zex E (n + 9) (d + 1) 118 119 [some (.ref 3), some (.ref 18), some (.int p), some (.ref 25), some (.int b), some (.int r), u6] [] h).trans (((yAn zgs118_119 rfl rfl) : zex E (n + 9) (d + 1) 118 119 [some (.ref 3), some (.ref 18), some (.int p), some (.ref 25), some (.int b), some (.int r), u6] [] h = zex E (n + 8) (d + 1) 118 120 [some (.ref 3), some (.ref 18), some (.int p), some (.ref 25), some (.int b), some (.int r), u6] [.ref 18] h).trans (((zcvg (h := h) (as := []) (r := []) zgs118_120 znsq97 rfl a18 rfl e1) : zex E (n + 8) (d + 1) 118 120 [some (.ref 3), some (.ref 18), some (.int p), some (.ref 25), some (.int b), some (.int r), u6] [.ref 18] h = zex E (n + 7) (d + 1) 118 123 [some (.ref 3), some (.ref 18), some (.int p), some (.ref 25), some (.int b), some (.int r), u6] [.int x] h1).trans (((yCb zgs118_123) : zex E (n + 7) (d + 1) 118 123 [some (.ref 3), some (.ref 18), some (.int p), some (.ref 25), some (.int b), some (.int r), u6] [.int x] h1 = zex E (n + 6) (d + 1) 118 125 [some (.ref 3), some (.ref 18), some (.int p), some (.ref 25), some (.int b), some (.int r), u6] [.int 100, .int x] h1).trans (((yRem zgs118_125 (by decide)) : zex E (n + 6) (d + 1) 118 125 [some (.ref 3), some (.ref 18), some (.int p), some (.ref 25), some (.int b), some (.int r), u6] [.int 100, .int x] h1 = zex E (n + 5) (d + 1) 118 126 [some (.ref 3), some (.ref 18), some (.int p), some (.ref 25), some (.int b), some (.int r), u6] [.int (x - x / 100 * 100)] h1).trans (((yAn zgs118_126 rfl rfl) : zex E (n + 5) (d + 1) 118 126 [some (.ref 3), some (.ref 18), some (.int p), some (.ref 25), some (.int b), some (.int r), u6] [.int (x - x / 100 * 100)] h1 = zex E (n + 4) (d + 1) 118 127 [some (.ref 3), some (.ref 18), some (.int p), some (.ref 25), some (.int b), some (.int r), u6] [.ref 18, .int (x - x / 100 * 100)] h1).trans (((zgx zgs118_127 a18_h1 rfl) : zex E (n + 4) (d + 1) 118 127 [some (.ref 3), some (.ref 18), some (.int p), some (.ref 25), some (.int b), some (.int r), u6] [.ref 18, .int (x - x / 100 * 100)] h1 = zex E (n + 3) (d + 1) 118 130 [some (.ref 3), some (.ref 18), some (.int p), some (.ref 25), some (.int b), some (.int r), u6] [.ref 21, .int (x - x / 100 * 100)] h1).trans (((yIn zgs118_130 rfl) : zex E (n + 3) (d + 1) 118 130 [some (.ref 3), some (.ref 18), some (.int p), some (.ref 25), some (.int b), some (.int r), u6] [.ref 21, .int (x - x / 100 * 100)] h1 = zex E (n + 2) (d + 1) 118 131 [some (.ref 3), some (.ref 18), some (.int p), some (.ref 25), some (.int b), some (.int r), u6] [.int p, .ref 21, .int (x - x / 100 * 100)] h1).trans (((zlk zgs118_131 a21_h1 hp hp8 hq) : zex E (n + 2) (d + 1) 118 131 [some (.ref 3), some (.ref 18), some (.int p), some (.ref 25), some (.int b), some (.int r), u6] [.int p, .ref 21, .int (x - x / 100 * 100)] h1 = zex E (n + 1) (d + 1) 118 132 [some (.ref 3), some (.ref 18), some (.int p), some (.ref 25), some (.int b), some (.int r), u6] [.int q, .int (x - x / 100 * 100)] h1).trans (((zkgF zgs118_132 hk) : zex E (n + 1) (d + 1) 118 132 [some (.ref 3), some (.ref 18), some (.int p), some (.ref 25), some (.int b), some (.int r), u6] [.int q, .int (x - x / 100 * 100)] h1 = zex E n (d + 1) 118 135 [some (.ref 3), some (.ref 18), some (.int p), some (.ref 25), some (.int b), some (.int r), u6] [] h1))))))))))))))
set_option maxRecDepth 100000 in
theorem dm_c {E : zE} {n d : Nat} {h : zH} {s y m : Int32} (hm : m ≠ 0) (hs : h.2.1 85 12 = s) (hy : (zsetI h 85 (upd (h.2.1 85) 12 ((1103515245 * s) + 12345))).2.1 85 12 = y) (a84 : zat h.1 84 = some (.inr (.inl (12, [none, some (some 85), some (some 86), some (some 87), some (some 88), some (some 89), none, none, some (some 90), none, none, none, none, none, none, some (some 91), none, some (some 92), some (some 93)])))) (a85 : zat h.1 85 = some (.inl (0, 2475, [])))  : zex E (n + 23) d 231 0 [some (.ref 84), some (.int m)] [] h = some (.inl (some (.int (((y >>> ((16 : Int32) &&& 31)) &&& 32767) - ((y >>> ((16 : Int32) &&& 31)) &&& 32767) / m * m))), (zsetI h 85 (upd (h.2.1 85) 12 ((1103515245 * s) + 12345)))) :=
  ((yAn zgs231_0 rfl rfl) : zex E (n + 23) d 231 0 [some (.ref 84), some (.int m)] [] h = zex E (n + 22) d 231 1 [some (.ref 84), some (.int m)] [.ref 84] h).trans (((zgx zgs231_1 a84 rfl) : zex E (n + 22) d 231 1 [some (.ref 84), some (.int m)] [.ref 84] h = zex E (n + 21) d 231 4 [some (.ref 84), some (.int m)] [.ref 85] h).trans (((yCb zgs231_4) : zex E (n + 21) d 231 4 [some (.ref 84), some (.int m)] [.ref 85] h = zex E (n + 20) d 231 6 [some (.ref 84), some (.int m)] [.int 12, .ref 85] h).trans (((yLi zgs231_6) : zex E (n + 20) d 231 6 [some (.ref 84), some (.int m)] [.int 12, .ref 85] h = zex E (n + 19) d 231 8 [some (.ref 84), some (.int m)] [.int 1103515245, .int 12, .ref 85] h).trans (((yAn zgs231_8 rfl rfl) : zex E (n + 19) d 231 8 [some (.ref 84), some (.int m)] [.int 1103515245, .int 12, .ref 85] h = zex E (n + 18) d 231 9 [some (.ref 84), some (.int m)] [.ref 84, .int 1103515245, .int 12, .ref 85] h).trans (((zgx zgs231_9 a84 rfl) : zex E (n + 18) d 231 9 [some (.ref 84), some (.int m)] [.ref 84, .int 1103515245, .int 12, .ref 85] h = zex E (n + 17) d 231 12 [some (.ref 84), some (.int m)] [.ref 85, .int 1103515245, .int 12, .ref 85] h).trans (((yCb zgs231_12) : zex E (n + 17) d 231 12 [some (.ref 84), some (.int m)] [.ref 85, .int 1103515245, .int 12, .ref 85] h = zex E (n + 16) d 231 14 [some (.ref 84), some (.int m)] [.int 12, .ref 85, .int 1103515245, .int 12, .ref 85] h).trans (((zlk zgs231_14 a85 (by decide : (12 : Int32).toInt = ((12 : Nat) : Int)) (by decide) hs) : zex E (n + 16) d 231 14 [some (.ref 84), some (.int m)] [.int 12, .ref 85, .int 1103515245, .int 12, .ref 85] h = zex E (n + 15) d 231 15 [some (.ref 84), some (.int m)] [.int s, .int 1103515245, .int 12, .ref 85] h).trans (((yMul zgs231_15) : zex E (n + 15) d 231 15 [some (.ref 84), some (.int m)] [.int s, .int 1103515245, .int 12, .ref 85] h = zex E (n + 14) d 231 16 [some (.ref 84), some (.int m)] [.int (1103515245 * s), .int 12, .ref 85] h).trans (((yCs zgs231_16) : zex E (n + 14) d 231 16 [some (.ref 84), some (.int m)] [.int (1103515245 * s), .int 12, .ref 85] h = zex E (n + 13) d 231 19 [some (.ref 84), some (.int m)] [.int 12345, .int (1103515245 * s), .int 12, .ref 85] h).trans (((yAdd zgs231_19) : zex E (n + 13) d 231 19 [some (.ref 84), some (.int m)] [.int 12345, .int (1103515245 * s), .int 12, .ref 85] h = zex E (n + 12) d 231 20 [some (.ref 84), some (.int m)] [.int ((1103515245 * s) + 12345), .int 12, .ref 85] h).trans (((zsk zgs231_20 a85 (by decide : (12 : Int32).toInt = ((12 : Nat) : Int)) (by decide)) : zex E (n + 12) d 231 20 [some (.ref 84), some (.int m)] [.int ((1103515245 * s) + 12345), .int 12, .ref 85] h = zex E (n + 11) d 231 21 [some (.ref 84), some (.int m)] [] (zsetI h 85 (upd (h.2.1 85) 12 ((1103515245 * s) + 12345)))).trans (((yAn zgs231_21 rfl rfl) : zex E (n + 11) d 231 21 [some (.ref 84), some (.int m)] [] (zsetI h 85 (upd (h.2.1 85) 12 ((1103515245 * s) + 12345))) = zex E (n + 10) d 231 22 [some (.ref 84), some (.int m)] [.ref 84] (zsetI h 85 (upd (h.2.1 85) 12 ((1103515245 * s) + 12345)))).trans (((zgx zgs231_22 a84 rfl) : zex E (n + 10) d 231 22 [some (.ref 84), some (.int m)] [.ref 84] (zsetI h 85 (upd (h.2.1 85) 12 ((1103515245 * s) + 12345))) = zex E (n + 9) d 231 25 [some (.ref 84), some (.int m)] [.ref 85] (zsetI h 85 (upd (h.2.1 85) 12 ((1103515245 * s) + 12345)))).trans (((yCb zgs231_25) : zex E (n + 9) d 231 25 [some (.ref 84), some (.int m)] [.ref 85] (zsetI h 85 (upd (h.2.1 85) 12 ((1103515245 * s) + 12345))) = zex E (n + 8) d 231 27 [some (.ref 84), some (.int m)] [.int 12, .ref 85] (zsetI h 85 (upd (h.2.1 85) 12 ((1103515245 * s) + 12345)))).trans (((zlk zgs231_27 a85 (by decide : (12 : Int32).toInt = ((12 : Nat) : Int)) (by decide) hy) : zex E (n + 8) d 231 27 [some (.ref 84), some (.int m)] [.int 12, .ref 85] (zsetI h 85 (upd (h.2.1 85) 12 ((1103515245 * s) + 12345))) = zex E (n + 7) d 231 28 [some (.ref 84), some (.int m)] [.int y] (zsetI h 85 (upd (h.2.1 85) 12 ((1103515245 * s) + 12345)))).trans (((yCb zgs231_28) : zex E (n + 7) d 231 28 [some (.ref 84), some (.int m)] [.int y] (zsetI h 85 (upd (h.2.1 85) 12 ((1103515245 * s) + 12345))) = zex E (n + 6) d 231 30 [some (.ref 84), some (.int m)] [.int 16, .int y] (zsetI h 85 (upd (h.2.1 85) 12 ((1103515245 * s) + 12345)))).trans (((yShr zgs231_30) : zex E (n + 6) d 231 30 [some (.ref 84), some (.int m)] [.int 16, .int y] (zsetI h 85 (upd (h.2.1 85) 12 ((1103515245 * s) + 12345))) = zex E (n + 5) d 231 31 [some (.ref 84), some (.int m)] [.int (y >>> ((16 : Int32) &&& 31))] (zsetI h 85 (upd (h.2.1 85) 12 ((1103515245 * s) + 12345)))).trans (((yCs zgs231_31) : zex E (n + 5) d 231 31 [some (.ref 84), some (.int m)] [.int (y >>> ((16 : Int32) &&& 31))] (zsetI h 85 (upd (h.2.1 85) 12 ((1103515245 * s) + 12345))) = zex E (n + 4) d 231 34 [some (.ref 84), some (.int m)] [.int 32767, .int (y >>> ((16 : Int32) &&& 31))] (zsetI h 85 (upd (h.2.1 85) 12 ((1103515245 * s) + 12345)))).trans (((yAnd zgs231_34) : zex E (n + 4) d 231 34 [some (.ref 84), some (.int m)] [.int 32767, .int (y >>> ((16 : Int32) &&& 31))] (zsetI h 85 (upd (h.2.1 85) 12 ((1103515245 * s) + 12345))) = zex E (n + 3) d 231 35 [some (.ref 84), some (.int m)] [.int ((y >>> ((16 : Int32) &&& 31)) &&& 32767)] (zsetI h 85 (upd (h.2.1 85) 12 ((1103515245 * s) + 12345)))).trans (((yIn zgs231_35 rfl) : zex E (n + 3) d 231 35 [some (.ref 84), some (.int m)] [.int ((y >>> ((16 : Int32) &&& 31)) &&& 32767)] (zsetI h 85 (upd (h.2.1 85) 12 ((1103515245 * s) + 12345))) = zex E (n + 2) d 231 36 [some (.ref 84), some (.int m)] [.int m, .int ((y >>> ((16 : Int32) &&& 31)) &&& 32767)] (zsetI h 85 (upd (h.2.1 85) 12 ((1103515245 * s) + 12345)))).trans (((yRem zgs231_36 hm) : zex E (n + 2) d 231 36 [some (.ref 84), some (.int m)] [.int m, .int ((y >>> ((16 : Int32) &&& 31)) &&& 32767)] (zsetI h 85 (upd (h.2.1 85) 12 ((1103515245 * s) + 12345))) = zex E (n + 1) d 231 37 [some (.ref 84), some (.int m)] [.int (((y >>> ((16 : Int32) &&& 31)) &&& 32767) - ((y >>> ((16 : Int32) &&& 31)) &&& 32767) / m * m)] (zsetI h 85 (upd (h.2.1 85) 12 ((1103515245 * s) + 12345)))).trans (((yRet1 zgs231_37 rfl) : zex E (n + 1) d 231 37 [some (.ref 84), some (.int m)] [.int (((y >>> ((16 : Int32) &&& 31)) &&& 32767) - ((y >>> ((16 : Int32) &&& 31)) &&& 32767) / m * m)] (zsetI h 85 (upd (h.2.1 85) 12 ((1103515245 * s) + 12345))) = some (.inl (some (.int (((y >>> ((16 : Int32) &&& 31)) &&& 32767) - ((y >>> ((16 : Int32) &&& 31)) &&& 32767) / m * m))), (zsetI h 85 (upd (h.2.1 85) 12 ((1103515245 * s) + 12345)))))))))))))))))))))))))))
set_option maxRecDepth 100000 in
theorem dm_r {E : zE} {n d : Nat} {h : zH} {r j k t : Int32} {K : Nat} (hk : k.toInt = (K : Int)) (hK : K < 2475) (ht : h.2.1 85 K = t) (a84 : zat h.1 84 = some (.inr (.inl (12, [none, some (some 85), some (some 86), some (some 87), some (some 88), some (some 89), none, none, some (some 90), none, none, none, none, none, none, some (some 91), none, some (some 92), some (some 93)])))) (a85 : zat h.1 85 = some (.inl (0, 2475, []))) (e1 : zex E (n + 2) d 218 0 [some (.int r), some (.int j)] [] h = some (.inl (some (.int k)), h)) : zex E (n + 7) (d + 1) 220 0 [some (.ref 84), some (.int r), some (.int j)] [] h = some (.inl (some (.int t)), h) :=
  ((yAn zgs220_0 rfl rfl) : zex E (n + 7) (d + 1) 220 0 [some (.ref 84), some (.int r), some (.int j)] [] h = zex E (n + 6) (d + 1) 220 1 [some (.ref 84), some (.int r), some (.int j)] [.ref 84] h).trans (((zgx zgs220_1 a84 rfl) : zex E (n + 6) (d + 1) 220 1 [some (.ref 84), some (.int r), some (.int j)] [.ref 84] h = zex E (n + 5) (d + 1) 220 4 [some (.ref 84), some (.int r), some (.int j)] [.ref 85] h).trans (((yIn zgs220_4 rfl) : zex E (n + 5) (d + 1) 220 4 [some (.ref 84), some (.int r), some (.int j)] [.ref 85] h = zex E (n + 4) (d + 1) 220 5 [some (.ref 84), some (.int r), some (.int j)] [.int r, .ref 85] h).trans (((yIn zgs220_5 rfl) : zex E (n + 4) (d + 1) 220 5 [some (.ref 84), some (.int r), some (.int j)] [.int r, .ref 85] h = zex E (n + 3) (d + 1) 220 6 [some (.ref 84), some (.int r), some (.int j)] [.int j, .int r, .ref 85] h).trans (((zcvs (as := [.int r, .int j]) (r := [.ref 85]) zgs220_6 znsq218 rfl rfl e1) : zex E (n + 3) (d + 1) 220 6 [some (.ref 84), some (.int r), some (.int j)] [.int j, .int r, .ref 85] h = zex E (n + 2) (d + 1) 220 9 [some (.ref 84), some (.int r), some (.int j)] [.int k, .ref 85] h).trans (((zlk zgs220_9 a85 hk hK ht) : zex E (n + 2) (d + 1) 220 9 [some (.ref 84), some (.int r), some (.int j)] [.int k, .ref 85] h = zex E (n + 1) (d + 1) 220 10 [some (.ref 84), some (.int r), some (.int j)] [.int t] h).trans (((yRet1 zgs220_10 rfl) : zex E (n + 1) (d + 1) 220 10 [some (.ref 84), some (.int r), some (.int j)] [.int t] h = some (.inl (some (.int t)), h))))))))
set_option maxRecDepth 100000 in
theorem xm_0 {E : zE} {n d : Nat} {h : zH} {p w r x y s t z k : Int32} {u7 u8 : Option Value} (h0 : t.toInt ≤ 0) (a84 : zat h.1 84 = some (.inr (.inl (12, [none, some (some 85), some (some 86), some (some 87), some (some 88), some (some 89), none, none, some (some 90), none, none, none, none, none, none, some (some 91), none, some (some 92), some (some 93)])))) (e1 : zex E (n + 1) d 220 0 [some (.ref 84), some (.int r), some (.int 2)] [] h = some (.inl (some (.int t)), h)) : zex E (n + 5) (d + 1) 282 95 [some (.ref 84), some (.int p), some (.int w), some (.int r), some (.int x), some (.int y), some (.int s), u7, u8] [] h = zex E n (d + 1) 282 133 [some (.ref 84), some (.int p), some (.int w), some (.int r), some (.int x), some (.int y), some (.int s), u7, u8] [] h :=
  ((yAn zgs282_95 rfl rfl) : zex E (n + 5) (d + 1) 282 95 [some (.ref 84), some (.int p), some (.int w), some (.int r), some (.int x), some (.int y), some (.int s), u7, u8] [] h = zex E (n + 4) (d + 1) 282 96 [some (.ref 84), some (.int p), some (.int w), some (.int r), some (.int x), some (.int y), some (.int s), u7, u8] [.ref 84] h).trans (((yIn zgs282_96 rfl) : zex E (n + 4) (d + 1) 282 96 [some (.ref 84), some (.int p), some (.int w), some (.int r), some (.int x), some (.int y), some (.int s), u7, u8] [.ref 84] h = zex E (n + 3) (d + 1) 282 97 [some (.ref 84), some (.int p), some (.int w), some (.int r), some (.int x), some (.int y), some (.int s), u7, u8] [.int r, .ref 84] h).trans (((yCi zgs282_97) : zex E (n + 3) (d + 1) 282 97 [some (.ref 84), some (.int p), some (.int w), some (.int r), some (.int x), some (.int y), some (.int s), u7, u8] [.int r, .ref 84] h = zex E (n + 2) (d + 1) 282 98 [some (.ref 84), some (.int p), some (.int w), some (.int r), some (.int x), some (.int y), some (.int s), u7, u8] [.int 2, .int r, .ref 84] h).trans (((zcvg (h := h) (as := [.int r, .int 2]) (r := []) zgs282_98 znsq220 rfl a84 rfl e1) : zex E (n + 2) (d + 1) 282 98 [some (.ref 84), some (.int p), some (.int w), some (.int r), some (.int x), some (.int y), some (.int s), u7, u8] [.int 2, .int r, .ref 84] h = zex E (n + 1) (d + 1) 282 101 [some (.ref 84), some (.int p), some (.int w), some (.int r), some (.int x), some (.int y), some (.int s), u7, u8] [.int t] h).trans (((zjiT zgs282_101 h0) : zex E (n + 1) (d + 1) 282 101 [some (.ref 84), some (.int p), some (.int w), some (.int r), some (.int x), some (.int y), some (.int s), u7, u8] [.int t] h = zex E n (d + 1) 282 133 [some (.ref 84), some (.int p), some (.int w), some (.int r), some (.int x), some (.int y), some (.int s), u7, u8] [] h)))))
set_option maxRecDepth 100000 in
theorem xm_1 {E : zE} {n d : Nat} {h h1 : zH} {p w r x y s t z k : Int32} {u7 u8 : Option Value} (h0 : 0 < t.toInt) (hk : k.toInt ≤ z.toInt) (a84 : zat h.1 84 = some (.inr (.inl (12, [none, some (some 85), some (some 86), some (some 87), some (some 88), some (some 89), none, none, some (some 90), none, none, none, none, none, none, some (some 91), none, some (some 92), some (some 93)])))) (a84_h1 : zat h1.1 84 = some (.inr (.inl (12, [none, some (some 85), some (some 86), some (some 87), some (some 88), some (some 89), none, none, some (some 90), none, none, none, none, none, none, some (some 91), none, some (some 92), some (some 93)])))) (e1 : zex E (n + 9) d 220 0 [some (.ref 84), some (.int r), some (.int 2)] [] h = some (.inl (some (.int t)), h)) (e2 : zex E (n + 5) d 231 0 [some (.ref 84), some (.int 100)] [] h = some (.inl (some (.int z)), h1)) (e3 : zex E (n + 1) d 221 0 [some (.ref 84), some (.int p), some (.int 1)] [] h1 = some (.inl (some (.int k)), h1)) : zex E (n + 13) (d + 1) 282 95 [some (.ref 84), some (.int p), some (.int w), some (.int r), some (.int x), some (.int y), some (.int s), u7, u8] [] h = zex E n (d + 1) 282 133 [some (.ref 84), some (.int p), some (.int w), some (.int r), some (.int x), some (.int y), some (.int s), u7, u8] [] h1 :=
  ((yAn zgs282_95 rfl rfl) : zex E (n + 13) (d + 1) 282 95 [some (.ref 84), some (.int p), some (.int w), some (.int r), some (.int x), some (.int y), some (.int s), u7, u8] [] h = zex E (n + 12) (d + 1) 282 96 [some (.ref 84), some (.int p), some (.int w), some (.int r), some (.int x), some (.int y), some (.int s), u7, u8] [.ref 84] h).trans (((yIn zgs282_96 rfl) : zex E (n + 12) (d + 1) 282 96 [some (.ref 84), some (.int p), some (.int w), some (.int r), some (.int x), some (.int y), some (.int s), u7, u8] [.ref 84] h = zex E (n + 11) (d + 1) 282 97 [some (.ref 84), some (.int p), some (.int w), some (.int r), some (.int x), some (.int y), some (.int s), u7, u8] [.int r, .ref 84] h).trans (((yCi zgs282_97) : zex E (n + 11) (d + 1) 282 97 [some (.ref 84), some (.int p), some (.int w), some (.int r), some (.int x), some (.int y), some (.int s), u7, u8] [.int r, .ref 84] h = zex E (n + 10) (d + 1) 282 98 [some (.ref 84), some (.int p), some (.int w), some (.int r), some (.int x), some (.int y), some (.int s), u7, u8] [.int 2, .int r, .ref 84] h).trans (((zcvg (h := h) (as := [.int r, .int 2]) (r := []) zgs282_98 znsq220 rfl a84 rfl e1) : zex E (n + 10) (d + 1) 282 98 [some (.ref 84), some (.int p), some (.int w), some (.int r), some (.int x), some (.int y), some (.int s), u7, u8] [.int 2, .int r, .ref 84] h = zex E (n + 9) (d + 1) 282 101 [some (.ref 84), some (.int p), some (.int w), some (.int r), some (.int x), some (.int y), some (.int s), u7, u8] [.int t] h).trans (((zjiF zgs282_101 h0) : zex E (n + 9) (d + 1) 282 101 [some (.ref 84), some (.int p), some (.int w), some (.int r), some (.int x), some (.int y), some (.int s), u7, u8] [.int t] h = zex E (n + 8) (d + 1) 282 104 [some (.ref 84), some (.int p), some (.int w), some (.int r), some (.int x), some (.int y), some (.int s), u7, u8] [] h).trans (((yAn zgs282_104 rfl rfl) : zex E (n + 8) (d + 1) 282 104 [some (.ref 84), some (.int p), some (.int w), some (.int r), some (.int x), some (.int y), some (.int s), u7, u8] [] h = zex E (n + 7) (d + 1) 282 105 [some (.ref 84), some (.int p), some (.int w), some (.int r), some (.int x), some (.int y), some (.int s), u7, u8] [.ref 84] h).trans (((yCb zgs282_105) : zex E (n + 7) (d + 1) 282 105 [some (.ref 84), some (.int p), some (.int w), some (.int r), some (.int x), some (.int y), some (.int s), u7, u8] [.ref 84] h = zex E (n + 6) (d + 1) 282 107 [some (.ref 84), some (.int p), some (.int w), some (.int r), some (.int x), some (.int y), some (.int s), u7, u8] [.int 100, .ref 84] h).trans (((zcvg (h := h) (as := [.int 100]) (r := []) zgs282_107 znsq231 rfl a84 rfl e2) : zex E (n + 6) (d + 1) 282 107 [some (.ref 84), some (.int p), some (.int w), some (.int r), some (.int x), some (.int y), some (.int s), u7, u8] [.int 100, .ref 84] h = zex E (n + 5) (d + 1) 282 110 [some (.ref 84), some (.int p), some (.int w), some (.int r), some (.int x), some (.int y), some (.int s), u7, u8] [.int z] h1).trans (((yAn zgs282_110 rfl rfl) : zex E (n + 5) (d + 1) 282 110 [some (.ref 84), some (.int p), some (.int w), some (.int r), some (.int x), some (.int y), some (.int s), u7, u8] [.int z] h1 = zex E (n + 4) (d + 1) 282 111 [some (.ref 84), some (.int p), some (.int w), some (.int r), some (.int x), some (.int y), some (.int s), u7, u8] [.ref 84, .int z] h1).trans (((yIn zgs282_111 rfl) : zex E (n + 4) (d + 1) 282 111 [some (.ref 84), some (.int p), some (.int w), some (.int r), some (.int x), some (.int y), some (.int s), u7, u8] [.ref 84, .int z] h1 = zex E (n + 3) (d + 1) 282 112 [some (.ref 84), some (.int p), some (.int w), some (.int r), some (.int x), some (.int y), some (.int s), u7, u8] [.int p, .ref 84, .int z] h1).trans (((yCi zgs282_112) : zex E (n + 3) (d + 1) 282 112 [some (.ref 84), some (.int p), some (.int w), some (.int r), some (.int x), some (.int y), some (.int s), u7, u8] [.int p, .ref 84, .int z] h1 = zex E (n + 2) (d + 1) 282 113 [some (.ref 84), some (.int p), some (.int w), some (.int r), some (.int x), some (.int y), some (.int s), u7, u8] [.int 1, .int p, .ref 84, .int z] h1).trans (((zcvg (h := h1) (as := [.int p, .int 1]) (r := [.int z]) zgs282_113 znsq221 rfl a84_h1 rfl e3) : zex E (n + 2) (d + 1) 282 113 [some (.ref 84), some (.int p), some (.int w), some (.int r), some (.int x), some (.int y), some (.int s), u7, u8] [.int 1, .int p, .ref 84, .int z] h1 = zex E (n + 1) (d + 1) 282 116 [some (.ref 84), some (.int p), some (.int w), some (.int r), some (.int x), some (.int y), some (.int s), u7, u8] [.int k, .int z] h1).trans (((zkgT zgs282_116 hk) : zex E (n + 1) (d + 1) 282 116 [some (.ref 84), some (.int p), some (.int w), some (.int r), some (.int x), some (.int y), some (.int s), u7, u8] [.int k, .int z] h1 = zex E n (d + 1) 282 133 [some (.ref 84), some (.int p), some (.int w), some (.int r), some (.int x), some (.int y), some (.int s), u7, u8] [] h1)))))))))))))
set_option maxRecDepth 100000 in
theorem xm_2 {E : zE} {n d : Nat} {h h1 : zH} {p w r x y s t z k : Int32} {u7 u8 : Option Value} (h0 : 0 < t.toInt) (hk : z.toInt < k.toInt) (a84 : zat h.1 84 = some (.inr (.inl (12, [none, some (some 85), some (some 86), some (some 87), some (some 88), some (some 89), none, none, some (some 90), none, none, none, none, none, none, some (some 91), none, some (some 92), some (some 93)])))) (a84_h1 : zat h1.1 84 = some (.inr (.inl (12, [none, some (some 85), some (some 86), some (some 87), some (some 88), some (some 89), none, none, some (some 90), none, none, none, none, none, none, some (some 91), none, some (some 92), some (some 93)])))) (e1 : zex E (n + 9) d 220 0 [some (.ref 84), some (.int r), some (.int 2)] [] h = some (.inl (some (.int t)), h)) (e2 : zex E (n + 5) d 231 0 [some (.ref 84), some (.int 100)] [] h = some (.inl (some (.int z)), h1)) (e3 : zex E (n + 1) d 221 0 [some (.ref 84), some (.int p), some (.int 1)] [] h1 = some (.inl (some (.int k)), h1)) : zex E (n + 13) (d + 1) 282 95 [some (.ref 84), some (.int p), some (.int w), some (.int r), some (.int x), some (.int y), some (.int s), u7, u8] [] h = zex E n (d + 1) 282 119 [some (.ref 84), some (.int p), some (.int w), some (.int r), some (.int x), some (.int y), some (.int s), u7, u8] [] h1 :=
  ((yAn zgs282_95 rfl rfl) : zex E (n + 13) (d + 1) 282 95 [some (.ref 84), some (.int p), some (.int w), some (.int r), some (.int x), some (.int y), some (.int s), u7, u8] [] h = zex E (n + 12) (d + 1) 282 96 [some (.ref 84), some (.int p), some (.int w), some (.int r), some (.int x), some (.int y), some (.int s), u7, u8] [.ref 84] h).trans (((yIn zgs282_96 rfl) : zex E (n + 12) (d + 1) 282 96 [some (.ref 84), some (.int p), some (.int w), some (.int r), some (.int x), some (.int y), some (.int s), u7, u8] [.ref 84] h = zex E (n + 11) (d + 1) 282 97 [some (.ref 84), some (.int p), some (.int w), some (.int r), some (.int x), some (.int y), some (.int s), u7, u8] [.int r, .ref 84] h).trans (((yCi zgs282_97) : zex E (n + 11) (d + 1) 282 97 [some (.ref 84), some (.int p), some (.int w), some (.int r), some (.int x), some (.int y), some (.int s), u7, u8] [.int r, .ref 84] h = zex E (n + 10) (d + 1) 282 98 [some (.ref 84), some (.int p), some (.int w), some (.int r), some (.int x), some (.int y), some (.int s), u7, u8] [.int 2, .int r, .ref 84] h).trans (((zcvg (h := h) (as := [.int r, .int 2]) (r := []) zgs282_98 znsq220 rfl a84 rfl e1) : zex E (n + 10) (d + 1) 282 98 [some (.ref 84), some (.int p), some (.int w), some (.int r), some (.int x), some (.int y), some (.int s), u7, u8] [.int 2, .int r, .ref 84] h = zex E (n + 9) (d + 1) 282 101 [some (.ref 84), some (.int p), some (.int w), some (.int r), some (.int x), some (.int y), some (.int s), u7, u8] [.int t] h).trans (((zjiF zgs282_101 h0) : zex E (n + 9) (d + 1) 282 101 [some (.ref 84), some (.int p), some (.int w), some (.int r), some (.int x), some (.int y), some (.int s), u7, u8] [.int t] h = zex E (n + 8) (d + 1) 282 104 [some (.ref 84), some (.int p), some (.int w), some (.int r), some (.int x), some (.int y), some (.int s), u7, u8] [] h).trans (((yAn zgs282_104 rfl rfl) : zex E (n + 8) (d + 1) 282 104 [some (.ref 84), some (.int p), some (.int w), some (.int r), some (.int x), some (.int y), some (.int s), u7, u8] [] h = zex E (n + 7) (d + 1) 282 105 [some (.ref 84), some (.int p), some (.int w), some (.int r), some (.int x), some (.int y), some (.int s), u7, u8] [.ref 84] h).trans (((yCb zgs282_105) : zex E (n + 7) (d + 1) 282 105 [some (.ref 84), some (.int p), some (.int w), some (.int r), some (.int x), some (.int y), some (.int s), u7, u8] [.ref 84] h = zex E (n + 6) (d + 1) 282 107 [some (.ref 84), some (.int p), some (.int w), some (.int r), some (.int x), some (.int y), some (.int s), u7, u8] [.int 100, .ref 84] h).trans (((zcvg (h := h) (as := [.int 100]) (r := []) zgs282_107 znsq231 rfl a84 rfl e2) : zex E (n + 6) (d + 1) 282 107 [some (.ref 84), some (.int p), some (.int w), some (.int r), some (.int x), some (.int y), some (.int s), u7, u8] [.int 100, .ref 84] h = zex E (n + 5) (d + 1) 282 110 [some (.ref 84), some (.int p), some (.int w), some (.int r), some (.int x), some (.int y), some (.int s), u7, u8] [.int z] h1).trans (((yAn zgs282_110 rfl rfl) : zex E (n + 5) (d + 1) 282 110 [some (.ref 84), some (.int p), some (.int w), some (.int r), some (.int x), some (.int y), some (.int s), u7, u8] [.int z] h1 = zex E (n + 4) (d + 1) 282 111 [some (.ref 84), some (.int p), some (.int w), some (.int r), some (.int x), some (.int y), some (.int s), u7, u8] [.ref 84, .int z] h1).trans (((yIn zgs282_111 rfl) : zex E (n + 4) (d + 1) 282 111 [some (.ref 84), some (.int p), some (.int w), some (.int r), some (.int x), some (.int y), some (.int s), u7, u8] [.ref 84, .int z] h1 = zex E (n + 3) (d + 1) 282 112 [some (.ref 84), some (.int p), some (.int w), some (.int r), some (.int x), some (.int y), some (.int s), u7, u8] [.int p, .ref 84, .int z] h1).trans (((yCi zgs282_112) : zex E (n + 3) (d + 1) 282 112 [some (.ref 84), some (.int p), some (.int w), some (.int r), some (.int x), some (.int y), some (.int s), u7, u8] [.int p, .ref 84, .int z] h1 = zex E (n + 2) (d + 1) 282 113 [some (.ref 84), some (.int p), some (.int w), some (.int r), some (.int x), some (.int y), some (.int s), u7, u8] [.int 1, .int p, .ref 84, .int z] h1).trans (((zcvg (h := h1) (as := [.int p, .int 1]) (r := [.int z]) zgs282_113 znsq221 rfl a84_h1 rfl e3) : zex E (n + 2) (d + 1) 282 113 [some (.ref 84), some (.int p), some (.int w), some (.int r), some (.int x), some (.int y), some (.int s), u7, u8] [.int 1, .int p, .ref 84, .int z] h1 = zex E (n + 1) (d + 1) 282 116 [some (.ref 84), some (.int p), some (.int w), some (.int r), some (.int x), some (.int y), some (.int s), u7, u8] [.int k, .int z] h1).trans (((zkgF zgs282_116 hk) : zex E (n + 1) (d + 1) 282 116 [some (.ref 84), some (.int p), some (.int w), some (.int r), some (.int x), some (.int y), some (.int s), u7, u8] [.int k, .int z] h1 = zex E n (d + 1) 282 119 [some (.ref 84), some (.int p), some (.int w), some (.int r), some (.int x), some (.int y), some (.int s), u7, u8] [] h1)))))))))))))
def gsW : Nat := 4353684084449563639808
def gsX : Nat := 1852673429522495713474776706997695491221576117763026267673917982917241130188800
def gsN1 : bNd := (109, [gq3, gq18, some (.inl (0, [(0, 1)])), gq25, some (.inl (0, [(2, 1)])), some (.inl (0, [(1, 1)])), none], [(0, 7), (0, 11), (0, 11)], [], [], (0, []), (0, []), (0, []))
def gsN2 : bNd := (148, [gq3, gq18, some (.inl (0, [(0, 1)])), gq25, some (.inl (0, [(2, 1)])), some (.inl (0, [(1, 1)])), none], [(0, 7), (0, 11), (0, 11), (1, 100)], [], [], (0, []), (0, []), (0, []))
def gsN3 : bNd := (216, [gq3, gq18, some (.inl (0, [(0, 1)])), gq25, some (.inl (0, [(2, 1)])), some (.inl (0, [(1, 1)])), some (.inl (0, [(3, 1)]))], [(0, 7), (0, 11), (0, 11), iFull], [], [], (0, []), (0, []), (0, []))
set_option maxRecDepth 100000 in
theorem gsD1 : btz gsW (60, smT) ctb ag_no9 66 118 1000000 3 [gsN1] (3, [(0, 7), (0, 11), (0, 11)], [], [], (0, []), (0, [])) 84 [gq3, gq18, some (.inl (0, [(0, 1)])), gq25, some (.inl (0, [(2, 1)])), some (.inl (0, [(1, 1)])), none] = true := by decide +kernel
set_option maxRecDepth 100000 in
theorem gsD2 : btz gsW (60, smT) ctb ag_no9 66 118 1000000 4 [gsN2] (4, [(0, 7), (0, 11), (0, 11), (1, 100)], [], [(19, (0, [(1, 1)]), (0, [(3, 1)]))], (0, []), (0, [])) 135 [gq3, gq18, some (.inl (0, [(0, 1)])), gq25, some (.inl (0, [(2, 1)])), some (.inl (0, [(1, 1)])), none] = true := by decide +kernel
set_option maxRecDepth 100000 in
theorem gsD3 : btz gsW (60, smT) ctb ag_no9 66 118 1000000 3 [gsN3] (3, [(0, 7), (0, 11), (0, 11)], [], [], (0, []), (0, [])) 148 [gq3, gq18, some (.inl (0, [(0, 1)])), gq25, some (.inl (0, [(2, 1)])), some (.inl (0, [(1, 1)])), none] = true := by decide +kernel
set_option maxRecDepth 100000 in
theorem gsD4 : btz gsW (60, smT) ctb (bfn 0 0 4 (bidl 4 0) [([iFull], [], some (.inl (0, [(4, 1)])), [])]) 66 118 1000000 4 [] (4, [(0, 7), (0, 11), (0, 11), iFull], [], [], (0, []), (0, [])) 234 [gq3, gq18, some (.inl (0, [(0, 1)])), gq25, some (.inl (0, [(2, 1)])), some (.inl (0, [(1, 1)])), some (.inl (0, [(3, 1)]))] = true := by decide +kernel
set_option maxRecDepth 100000 in
theorem gsD6 : btz gsW (60, smT) ctb ag_no9 66 117 1000000 2 [gvN2, gvN3] (2, [(0, 12), iFull], [], [], (0, []), (0, [])) 37 [gq3, gq18, gq25, some (.inl (0, [(1, 1)])), some (.inl (0, [(0, 1)]))] = true := by decide +kernel
def gsO1 : bNd := (95, [q84, some (.inl (0, [(0, 1)])), some (.inl (0, [(1, 1)])), some (.inl (0, [(2, 1)])), some (.inl (201, [(0, 24)])), some (.inl (16, [(2, 11)])), some (.inl (0, [(3, 1)])), none, none], [(0, 7), (0, 11), (0, 11), iFull], [], [], (0, []), (0, []), (0, []))
def gsO2 : bNd := (133, [q84, some (.inl (0, [(0, 1)])), some (.inl (0, [(1, 1)])), some (.inl (0, [(2, 1)])), some (.inl (201, [(0, 24)])), some (.inl (16, [(2, 11)])), some (.inl (0, [(3, 1)])), none, none], [(0, 7), (0, 11), (0, 11), iFull, (1, 100)], [], [], (0, []), (0, []), (0, []))
def gsO3 : bNd := (217, [q84, some (.inl (0, [(0, 1)])), none, none, none, none, none, some (.inl (0, [(4, 1)])), none], [(0, 7), (0, 11), (0, 11), iFull, iFull], [], [], (0, []), (0, []), (0, []))
set_option maxRecDepth 100000 in
theorem gsE1 : btz gsX (60, smT) ctb ag_no9 66 282 1000000 3 [gsO1] (3, [(0, 7), (0, 11), (0, 11)], [], [], (0, []), (0, [])) 48 [q84, some (.inl (0, [(0, 1)])), some (.inl (0, [(1, 1)])), some (.inl (0, [(2, 1)])), some (.inl (201, [(0, 24)])), some (.inl (16, [(2, 11)])), none, none, none] = true := by decide +kernel
set_option maxRecDepth 100000 in
theorem gsE2 : btz gsX (60, smT) ctb ag_no9 66 282 1000000 5 [gsO2] (5, [(0, 7), (0, 11), (0, 11), iFull, (1, 100)], [], [(85, (15, [(2, 11)]), (0, [(4, 1)]))], (0, []), (0, [])) 119 [q84, some (.inl (0, [(0, 1)])), some (.inl (0, [(1, 1)])), some (.inl (0, [(2, 1)])), some (.inl (201, [(0, 24)])), some (.inl (16, [(2, 11)])), some (.inl (0, [(3, 1)])), none, none] = true := by decide +kernel
set_option maxRecDepth 100000 in
theorem gsE3 : btz gsX (60, smT) ctb ag_no9 66 282 1000000 4 [gsO3] (4, [(0, 7), (0, 11), (0, 11), iFull], [], [], (0, []), (0, [])) 133 [q84, some (.inl (0, [(0, 1)])), some (.inl (0, [(1, 1)])), some (.inl (0, [(2, 1)])), some (.inl (201, [(0, 24)])), some (.inl (16, [(2, 11)])), some (.inl (0, [(3, 1)])), none, none] = true := by decide +kernel
set_option maxRecDepth 100000 in
theorem gsE5 : btz gsX (60, smT) ctb ag_no9 66 283 1000000 2 [gvN5, gvN6] (2, [(0, 12), iFull], [], [], (0, []), (0, [])) 28 [q84, some (.inl (0, [(1, 1)])), some (.inl (0, [(0, 1)]))] = true := by decide +kernel
set_option maxRecDepth 100000 in
theorem gl_6 {V : List Int} {f0 f1 f2 : bI} {ls : zLs} (h : bLR V [gq3, gq18, some (.inl f0), gq25, some (.inl f1), some (.inl f2), none] ls) : ∃ (p b r : Int32) (u : Option Value), ls = [some (.ref 3), some (.ref 18), some (.int p), some (.ref 25), some (.int b), some (.int r), u] ∧ p.toInt = bvx V f0 ∧ b.toInt = bvx V f1 ∧ r.toInt = bvx V f2 := by
  match ls, h with
  | [p0, p1, p2, p3, p4, p5, p6], ⟨⟨v0, e0, f0⟩, ⟨v1, e1, f1⟩, ⟨v2, e2, x2, f2, g2⟩, ⟨v3, e3, f3⟩, ⟨v4, e4, x4, f4, g4⟩, ⟨v5, e5, x5, f5, g5⟩, _, _⟩ =>
    have f0 : v0 = _ := f0
    have f1 : v1 = _ := f1
    have f3 : v3 = _ := f3
    exact ⟨x2, x4, x5, p6, by rw [e0, e1, e2, e3, e4, e5, f0, f1, f2, f3, f4, f5], brel_x g2, brel_x g4, brel_x g5⟩
set_option maxRecDepth 100000 in
theorem bL1 {V : List Int} {f : bI} {al : bLs} {ls : zLs} (h : bLR V (some (.inl f) :: al) ls) : ∃ (x : Int32) (l9 : zLs), ls = some (.int x) :: l9 ∧ x.toInt = bvx V f ∧ bLR V al l9 := by
  match ls, h with
  | p :: l9, ⟨⟨v, e, x, f9, g9⟩, h9⟩ => exact ⟨x, l9, by rw [e, f9], brel_x g9, h9⟩
set_option maxRecDepth 100000 in
theorem bL0 {V : List Int} {k : Nat} {al : bLs} {ls : zLs} (h : bLR V (some (.inr (.inl (.ref k))) :: al) ls) : ∃ l9 : zLs, ls = some (.ref k) :: l9 ∧ bLR V al l9 := by
  match ls, h with
  | p :: l9, ⟨⟨v, e, f9⟩, h9⟩ =>
    have f9 : v = _ := f9
    exact ⟨l9, by rw [e, f9], h9⟩
set_option maxRecDepth 100000 in
theorem bLn {V : List Int} {al : bLs} {ls : zLs} (h : bLR V (none :: al) ls) : ∃ (u : Option Value) (l9 : zLs), ls = u :: l9 ∧ bLR V al l9 := by
  match ls, h with
  | p :: l9, ⟨_, h9⟩ => exact ⟨p, l9, rfl, h9⟩
set_option maxRecDepth 100000 in
theorem bLz9 {V : List Int} {ls : zLs} (h : bLR V [] ls) : ls = [] := by
  match ls, h with
  | [], _ => rfl
set_option maxRecDepth 100000 in
theorem gl_8 {V : List Int} {f0 f1 f2 f3 f4 f5 : bI} {ls : zLs} (h : bLR V [q84, some (.inl f0), some (.inl f1), some (.inl f2), some (.inl f3), some (.inl f4), some (.inl f5), none, none] ls) : ∃ (p w r x y s : Int32) (u7 u8 : Option Value), ls = [some (.ref 84), some (.int p), some (.int w), some (.int r), some (.int x), some (.int y), some (.int s), u7, u8] ∧ p.toInt = bvx V f0 ∧ w.toInt = bvx V f1 ∧ r.toInt = bvx V f2 ∧ x.toInt = bvx V f3 ∧ y.toInt = bvx V f4 ∧ s.toInt = bvx V f5 := by
  obtain ⟨l0, e0, h0⟩ := bL0 (k := 84) h
  obtain ⟨p, l1, e1, m1, h1⟩ := bL1 h0
  obtain ⟨w, l2, e2, m2, h2⟩ := bL1 h1
  obtain ⟨r, l3, e3, m3, h3⟩ := bL1 h2
  obtain ⟨x, l4, e4, m4, h4⟩ := bL1 h3
  obtain ⟨y, l5, e5, m5, h5⟩ := bL1 h4
  obtain ⟨s, l6, e6, m6, h6⟩ := bL1 h5
  obtain ⟨u7, l7, e7, h7⟩ := bLn h6
  obtain ⟨u8, l8, e8, h8⟩ := bLn h7
  have e9 := bLz9 h8
  exact ⟨p, w, r, x, y, s, u7, u8, by rw [e0, e1, e2, e3, e4, e5, e6, e7, e8, e9], m1, m2, m3, m4, m5, m6⟩
set_option maxRecDepth 100000 in
theorem gs_b15 : ∀ r, r < 12 → biv 85 (15 + 11 * r) = (0, 100) := by decide +kernel
set_option maxRecDepth 100000 in
theorem gs_bt : ∀ r, r < 12 → Nat.testBit gsX (bun 85 (15 + 11 * r)) = false := by decide +kernel
set_option maxRecDepth 100000 in
theorem gvFu_7 : ∀ m, m < 9 → gvFu 7000000 m ≤ 63000000 := by decide +kernel
/-- SEED behind a place with PART t -/
def gsy (t : Int) (s : Int32) : Int32 := if 0 < t then 1103515245 * s + 12345 else s
def gsp (σ : hSt) (p : Nat) : Nat := (if spl σ p + 1 < (ssl σ p : Int) then spl σ p + 1 else 0).toNat
def gsd (σ : hSt) (p : Nat) (s : Int32) : Int32 := gsy (spt σ (swk σ p (gsp σ p))) s
def gsq (σ : hSt) : Nat → Int32 → Int32
  | 0, s => s
  | p + 1, s => gsd (gvN σ p) p (gsq σ p s)
def gsr : Nat → hSt → Int32 → Int32
  | 0, _, s => s
  | k + 1, σ, s => gsr k (gvR1 σ) (gsq σ (sP σ) s)
def gsV (c k : Nat) (s : Int32) (o : Option zR) : Prop := ∃ (x : Int32) (h1 : zH), o = some (.inl (some (.int x)), h1) ∧ h1.2.1 c k = s
set_option maxRecDepth 100000 in
theorem gsV_o {c k : Nat} {s : Int32} {o o' : Option zR} (e : o = o') (v : gsV c k s o') : gsV c k s o := by
  rw [e]; exact v
set_option maxRecDepth 100000 in
theorem gsV_e {c k : Nat} {s t : Int32} {o : Option zR} (e : s = t) (v : gsV c k s o) : gsV c k t o := by
  rw [← e]; exact v
section GS
variable {E : zE} {B : Nat}
-- the class
set_option maxRecDepth 100000 in
theorem gsA4 {g : zH} (hE : E.1 < 2147483648) (hsm : bSO E ctb B (60, smT)) (gI : bHI g) (gP : bPS g) (gT : bTB ctb g.1) {p : Nat} (hp8 : p < 8) {p9 b r x : Int32} (hp9 : p9.toInt = (p : Int)) (hb : 0 ≤ b.toInt ∧ b.toInt ≤ 11) (hr : 0 ≤ r.toInt ∧ r.toInt ≤ 11) : ∀ d f, 66 ≤ d → B + 1000000 ≤ f → gsV 18 12 (g.2.1 18 12) (zex E f d 118 234 [some (.ref 3), some (.ref 18), some (.int p9), some (.ref 25), some (.int b), some (.int r), some (.int x)] [] g) := by
  intro d f hd hf
  refine seg (V := [p9.toInt, r.toInt, b.toInt, x.toInt]) (al := [gq3, gq18, some (.inl (0, [(0, 1)])), gq25, some (.inl (0, [(2, 1)])), some (.inl (0, [(1, 1)])), some (.inl (0, [(3, 1)]))]) (ls := [some (.ref 3), some (.ref 18), some (.int p9), some (.ref 25), some (.int b), some (.int r), some (.int x)]) (ca := 0) (sa := 0) (nv := 4) (Q := gsV 18 12 (g.2.1 18 12)) hE hsm (fin_i (V := [p9.toInt, r.toInt, b.toInt, x.toInt]) (ca := 0) (sa := 0) rfl (fun y h9 k4 => ⟨y, h9, rfl, k4.2.2.2.1 18 12 (by decide +kernel)⟩)) ⟨gI, gP, gT, fun _ _ _ => rfl, Nat.le_refl _, Nat.le_refl _⟩ (benv_c (by omega) (by omega) (benv_c hr.1 hr.2 (benv_c hb.1 hb.2 (benv_c (bi32 x).1 (bi32 x).2 benv_n)))) rfl bcs_n bov_n ⟨⟨_, rfl, rfl⟩, ⟨_, rfl, rfl⟩, ⟨_, rfl, p9, rfl, brel_v rfl⟩, ⟨_, rfl, rfl⟩, ⟨_, rfl, b, rfl, brel_v rfl⟩, ⟨_, rfl, r, rfl, brel_v rfl⟩, ⟨_, rfl, x, rfl, brel_v rfl⟩, trivial⟩ gsD4 (B' := B) (Nat.le_refl _) (fun N hN => absurd hN List.not_mem_nil) (fun N hN => absurd hN List.not_mem_nil) d f hd (by omega)
set_option maxRecDepth 100000 in
theorem gsA3 {g : zH} (hE : E.1 < 2147483648) (hsm : bSO E ctb B (60, smT)) (gI : bHI g) (gP : bPS g) (gT : bTB ctb g.1) {p : Nat} (hp8 : p < 8) {p9 b r x : Int32} (hp9 : p9.toInt = (p : Int)) (hb : 0 ≤ b.toInt ∧ b.toInt ≤ 11) (hr : 0 ≤ r.toInt ∧ r.toInt ≤ 11) : ∀ d f, 66 ≤ d → B + 1000100 ≤ f → gsV 18 12 (g.2.1 18 12) (zex E f d 118 216 [some (.ref 3), some (.ref 18), some (.int p9), some (.ref 25), some (.int b), some (.int r), some (.int x)] [] g) := by
  intro d f hd hf
  obtain ⟨n, hn⟩ : ∃ n, f = n + 12 := ⟨f - 12, by omega⟩
  subst hn
  have e2 := gv_w (E := E) (n := n) (d := d) (h := g) (p := p9) (b := b) (r := r) (x := x) (w := g.2.1 22 p) (P := p) hp9 hp8 rfl (gT 18 _ (show bg2 ctb 18 = some (.inr (.inl (0, [some (some 19), some (some 20), some (some 21), some (some 22), some (some 23), some (some 24), none, none, none, none, none, none, none]))) from rfl) (by intro z; cases z)) (gT 22 _ (show bg2 ctb 22 = some (.inl (0, 8, [])) from rfl) (by intro z; cases z))
  obtain ⟨w, w1, w2, w3⟩ := gv22 (p := p) gI
  have v9 : (if (g.2.1 22 p - 1) < 0 then (0 : Int32) else (g.2.1 22 p - 1)).toInt = (if 1 ≤ (w : Int) then (w : Int) - 1 else 0) := by rw [w2]; exact (gv_x w w1).1
  have rz := bRQ_set (W := gvV) (c := 22) (j := p) (y := (if (g.2.1 22 p - 1) < 0 then 0 else (g.2.1 22 p - 1))) (⟨gI, gP, gT, fun _ _ _ => rfl, Nat.le_refl _, Nat.le_refl _⟩ : bRQ ctb gvV g 0 0 g) (show Nat.testBit gvV (bun 22 0) = true by decide +kernel) (by
    rw [show biv 22 p = (0, 99) from rfl, v9]
    show (0 : Int) ≤ _ ∧ _ ≤ (99 : Int)
    by_cases z : 1 ≤ (w : Int)
    · rw [if_pos z]; omega
    · rw [if_neg z]; omega) rfl rfl (by decide) (by decide)
  rw [e2]
  exact gsV_e (zs_ne (by decide)) (gsA4 (E := E) hE hsm rz.1 rz.2.1 rz.2.2.1 hp8 hp9 hb hr d n hd (by omega))
set_option maxRecDepth 100000 in
theorem gsA2 {g : zH} (hE : E.1 < 2147483648) (hsm : bSO E ctb B (60, smT)) (gI : bHI g) (gP : bPS g) (gT : bTB ctb g.1) {p : Nat} (hp8 : p < 8) {p9 b r : Int32} (u : Option Value) (hp9 : p9.toInt = (p : Int)) (hb : 0 ≤ b.toInt ∧ b.toInt ≤ 11) (hr : 0 ≤ r.toInt ∧ r.toInt ≤ 11) : ∀ d f, 66 ≤ d → B + 2000100 ≤ f → gsV 18 12 (g.2.1 18 12) (zex E f d 118 148 [some (.ref 3), some (.ref 18), some (.int p9), some (.ref 25), some (.int b), some (.int r), u] [] g) := by
  intro d f hd hf
  refine segx (V := [p9.toInt, r.toInt, b.toInt]) (al := [gq3, gq18, some (.inl (0, [(0, 1)])), gq25, some (.inl (0, [(2, 1)])), some (.inl (0, [(1, 1)])), none]) (ls := [some (.ref 3), some (.ref 18), some (.int p9), some (.ref 25), some (.int b), some (.int r), u]) (ca := 0) (sa := 0) (nv := 3) (Q := gsV 18 12 (g.2.1 18 12)) hE hsm (fun V S v w h _ _ _ z => nomatch (show false = true from z)) ⟨gI, gP, gT, fun _ _ _ => rfl, Nat.le_refl _, Nat.le_refl _⟩ (benv_c (by omega) (by omega) (benv_c hr.1 hr.2 (benv_c hb.1 hb.2 benv_n))) rfl bcs_n bov_n ⟨⟨_, rfl, rfl⟩, ⟨_, rfl, rfl⟩, ⟨_, rfl, p9, rfl, brel_v rfl⟩, ⟨_, rfl, rfl⟩, ⟨_, rfl, b, rfl, brel_v rfl⟩, ⟨_, rfl, r, rfl, brel_v rfl⟩, trivial, trivial⟩ gsD3 (B' := B + 1000100) (by omega) ?_ ?_ d f hd (by omega)
  · intro N hN
    cases hN with
    | head => exact ⟨rfl, rfl⟩
    | tail _ hN => exact absurd hN List.not_mem_nil
  · intro N hN V' ls' g1 hx k1 k2 d f hd hf
    cases hN with
    | tail _ hN => exact absurd hN List.not_mem_nil
    | head =>
      have k1 : bLR V' [gq3, gq18, some (.inl (0, [(0, 1)])), gq25, some (.inl (0, [(2, 1)])), some (.inl (0, [(1, 1)])), some (.inl (0, [(3, 1)]))] ls' := k1
      obtain ⟨p', b', r', x', e1, m1, m2, m3⟩ := gl_7 k1
      have n1 : p' = p9 := Int32.toInt_inj.mp (m1.trans (brel_x (brel_up hx (brel_v (V := [p9.toInt, r.toInt, b.toInt]) (i := 0) rfl))).symm)
      have n2 : b' = b := Int32.toInt_inj.mp (m2.trans (brel_x (brel_up hx (brel_v (V := [p9.toInt, r.toInt, b.toInt]) (i := 2) rfl))).symm)
      have n3 : r' = r := Int32.toInt_inj.mp (m3.trans (brel_x (brel_up hx (brel_v (V := [p9.toInt, r.toInt, b.toInt]) (i := 1) rfl))).symm)
      rw [e1, n1, n2, n3]
      exact gsV_e (k2.2.2.2.1 18 12 (by decide +kernel)) (gsA3 (E := E) hE hsm k2.1 k2.2.1 k2.2.2.1 hp8 hp9 hb hr d f hd hf)
set_option maxRecDepth 100000 in
theorem gsA1 {g : zH} (hE : E.1 < 2147483648) (hsm : bSO E ctb B (60, smT)) (gI : bHI g) (gP : bPS g) (gT : bTB ctb g.1) {p R : Nat} (hp8 : p < 8) {p9 b r : Int32} (u : Option Value) (hR : r.toInt = (R : Int)) (ht : 1 ≤ (g.2.1 19 R).toInt) (hp9 : p9.toInt = (p : Int)) (hb : 0 ≤ b.toInt ∧ b.toInt ≤ 11) (hr : 0 ≤ r.toInt ∧ r.toInt ≤ 11) : ∀ d f, 66 ≤ d → B + 3000100 ≤ f → gsV 18 12 (g.2.1 18 12) (zex E f d 118 135 [some (.ref 3), some (.ref 18), some (.int p9), some (.ref 25), some (.int b), some (.int r), u] [] g) := by
  intro d f hd hf
  have b19 := gI.1 19 R
  rw [bva_19] at b19
  have ht2 : (g.2.1 19 R).toInt ≤ 100 := b19.2
  have ov : bOV E [p9.toInt, r.toInt, b.toInt, (g.2.1 19 R).toInt] [(19, (0, [(1, 1)]), (0, [(3, 1)]))] g := bov_c (k := R) rfl rfl (by show (R : Int) = 0 + (1 * r.toInt + 0); omega) rfl (by show (g.2.1 19 R).toInt = 0 + (1 * (g.2.1 19 R).toInt + 0); omega) bov_n
  refine segx (V := [p9.toInt, r.toInt, b.toInt, (g.2.1 19 R).toInt]) (al := [gq3, gq18, some (.inl (0, [(0, 1)])), gq25, some (.inl (0, [(2, 1)])), some (.inl (0, [(1, 1)])), none]) (ls := [some (.ref 3), some (.ref 18), some (.int p9), some (.ref 25), some (.int b), some (.int r), u]) (ca := 0) (sa := 0) (nv := 4) (Q := gsV 18 12 (g.2.1 18 12)) hE hsm (fun V S v w h _ _ _ z => nomatch (show false = true from z)) ⟨gI, gP, gT, fun _ _ _ => rfl, Nat.le_refl _, Nat.le_refl _⟩ (benv_c (by omega) (by omega) (benv_c hr.1 hr.2 (benv_c hb.1 hb.2 (benv_c ht ht2 benv_n)))) rfl bcs_n ov ⟨⟨_, rfl, rfl⟩, ⟨_, rfl, rfl⟩, ⟨_, rfl, p9, rfl, brel_v rfl⟩, ⟨_, rfl, rfl⟩, ⟨_, rfl, b, rfl, brel_v rfl⟩, ⟨_, rfl, r, rfl, brel_v rfl⟩, trivial, trivial⟩ gsD2 (B' := B + 2000100) (by omega) ?_ ?_ d f hd (by omega)
  · intro N hN
    cases hN with
    | head => exact ⟨rfl, rfl⟩
    | tail _ hN => exact absurd hN List.not_mem_nil
  · intro N hN V' ls' g1 hx k1 k2 d f hd hf
    cases hN with
    | tail _ hN => exact absurd hN List.not_mem_nil
    | head =>
      have k1 : bLR V' [gq3, gq18, some (.inl (0, [(0, 1)])), gq25, some (.inl (0, [(2, 1)])), some (.inl (0, [(1, 1)])), none] ls' := k1
      obtain ⟨p', b', r', u', e1, m1, m2, m3⟩ := gl_6 k1
      have n1 : p' = p9 := Int32.toInt_inj.mp (m1.trans (brel_x (brel_up hx (brel_v (V := [p9.toInt, r.toInt, b.toInt, (g.2.1 19 R).toInt]) (i := 0) rfl))).symm)
      have n2 : b' = b := Int32.toInt_inj.mp (m2.trans (brel_x (brel_up hx (brel_v (V := [p9.toInt, r.toInt, b.toInt, (g.2.1 19 R).toInt]) (i := 2) rfl))).symm)
      have n3 : r' = r := Int32.toInt_inj.mp (m3.trans (brel_x (brel_up hx (brel_v (V := [p9.toInt, r.toInt, b.toInt, (g.2.1 19 R).toInt]) (i := 1) rfl))).symm)
      rw [e1, n1, n2, n3]
      exact gsV_e (k2.2.2.2.1 18 12 (by decide +kernel)) (gsA2 (E := E) hE hsm k2.1 k2.2.1 k2.2.2.1 hp8 u' hp9 hb hr d f hd hf)
set_option maxRecDepth 100000 in
theorem gsA9 {g : zH} (hE : E.1 < 2147483648) (hsm : bSO E ctb B (60, smT)) (gI : bHI g) (gP : bPS g) (gT : bTB ctb g.1) {p R : Nat} (hp8 : p < 8) {p9 b r : Int32} (u : Option Value) (hp9 : p9.toInt = (p : Int)) (hb : 0 ≤ b.toInt ∧ b.toInt ≤ 11) (hr : 0 ≤ r.toInt ∧ r.toInt ≤ 11) (hR : r.toInt = (R : Int)) (hR2 : R < 12) : ∀ d f, 66 ≤ d → B + 3000200 ≤ f → gsV 18 12 (gsy (g.2.1 19 R).toInt (g.2.1 18 12)) (zex E f d 118 109 [some (.ref 3), some (.ref 18), some (.int p9), some (.ref 25), some (.int b), some (.int r), u] [] g) := by
  intro d f hd hf
  obtain ⟨n, hn⟩ : ∃ n, f = n + 100 := ⟨f - 100, by omega⟩
  obtain ⟨d, hd'⟩ : ∃ d', d = d' + 1 := ⟨d - 1, by omega⟩
  subst hn hd'
  unfold gsy
  by_cases h0 : 0 < (g.2.1 19 R).toInt
  · rw [if_pos h0]
    obtain ⟨y, hy⟩ : ∃ y : Int32, y = 1103515245 * g.2.1 18 12 + 12345 := ⟨_, rfl⟩
    obtain ⟨Z, hZ⟩ : ∃ Z : zH, Z = zsetI g 18 (upd (g.2.1 18) 12 (1103515245 * g.2.1 18 12 + 12345)) := ⟨_, rfl⟩
    have rz := bRQ_set (W := gvV) (c := 18) (j := 12) (y := 1103515245 * g.2.1 18 12 + 12345) (⟨gI, gP, gT, fun _ _ _ => rfl, Nat.le_refl _, Nat.le_refl _⟩ : bRQ ctb gvV g 0 0 g) (by decide +kernel) (by
      rw [show biv 18 12 = (-2147483648, 2147483647) from rfl]
      exact bi32 _) rfl rfl (by decide) (by decide)
    rw [← hZ] at rz
    have rzT := rz.2.2.1
    have zy : Z.2.1 18 12 = y := by rw [hZ, zs_at, upd_e, hy]
    have ec := fun f => ds_c (E := E) (n := f) (d := d) (h := g) (s := g.2.1 18 12) (y := y) rfl (by rw [zs_at, upd_e, hy]) (gT 18 _ (show bg2 ctb 18 = some (.inr (.inl (0, [some (some 19), some (some 20), some (some 21), some (some 22), some (some 23), some (some 24), none, none, none, none, none, none, none]))) from rfl) (by intro z; cases z))
    rw [← hZ] at ec
    obtain ⟨X, hX⟩ : ∃ X : Int32, X = ((y.toUInt32 >>> ((16 : Int32).toUInt32 &&& Int32.toUInt32 31)).toInt32 &&& 32767) := ⟨_, rfl⟩
    have ec : ∀ f, zex E (f + 15) d 97 0 [some (.ref 18)] [] g = some (.inl (some (.int X)), Z) := fun f => by rw [hX]; exact ec f
    rw [← hy, ← zy]
    by_cases hk : (Z.2.1 21 p).toInt ≤ (X - X / 100 * 100).toInt
    · exact gsV_o (xd_1 (E := E) (n := n + 86) (d := d) (h := g) (h1 := Z) (p := p9) (b := b) (r := r) (t := g.2.1 19 R) (x := X) (q := Z.2.1 21 p) (R := R) (u6 := u) (P := p) hR hR2 rfl hp9 hp8 rfl h0 hk (gT 18 _ (show bg2 ctb 18 = some (.inr (.inl (0, [some (some 19), some (some 20), some (some 21), some (some 22), some (some 23), some (some 24), none, none, none, none, none, none, none]))) from rfl) (by intro z; cases z)) (gT 19 _ (show bg2 ctb 19 = some (.inl (0, 12, [])) from rfl) (by intro z; cases z)) (rzT 18 _ (show bg2 ctb 18 = some (.inr (.inl (0, [some (some 19), some (some 20), some (some 21), some (some 22), some (some 23), some (some 24), none, none, none, none, none, none, none]))) from rfl) (by intro z; cases z)) (rzT 21 _ (show bg2 ctb 21 = some (.inl (0, 8, [])) from rfl) (by intro z; cases z)) (ec (n + 78))) (gsA2 (E := E) hE hsm rz.1 rz.2.1 rz.2.2.1 hp8 u hp9 hb hr (d + 1) (n + 86) (by omega) (by omega))
    · exact gsV_o (xd_2 (E := E) (n := n + 86) (d := d) (h := g) (h1 := Z) (p := p9) (b := b) (r := r) (t := g.2.1 19 R) (x := X) (q := Z.2.1 21 p) (R := R) (u6 := u) (P := p) hR hR2 rfl hp9 hp8 rfl h0 (by omega) (gT 18 _ (show bg2 ctb 18 = some (.inr (.inl (0, [some (some 19), some (some 20), some (some 21), some (some 22), some (some 23), some (some 24), none, none, none, none, none, none, none]))) from rfl) (by intro z; cases z)) (gT 19 _ (show bg2 ctb 19 = some (.inl (0, 12, [])) from rfl) (by intro z; cases z)) (rzT 18 _ (show bg2 ctb 18 = some (.inr (.inl (0, [some (some 19), some (some 20), some (some 21), some (some 22), some (some 23), some (some 24), none, none, none, none, none, none, none]))) from rfl) (by intro z; cases z)) (rzT 21 _ (show bg2 ctb 21 = some (.inl (0, 8, [])) from rfl) (by intro z; cases z)) (ec (n + 78))) (gsA1 (E := E) (R := R) hE hsm rz.1 rz.2.1 rz.2.2.1 hp8 u hR (by rw [hZ, zs_ne (by decide)]; omega) hp9 hb hr (d + 1) (n + 86) (by omega) (by omega))
  · rw [if_neg h0]
    exact gsV_o (xd_0 (E := E) (n := n + 95) (d := d + 1) (h := g) (p := p9) (b := b) (r := r) (t := g.2.1 19 R) (R := R) (u6 := u) hR hR2 rfl (by omega) (gT 18 _ (show bg2 ctb 18 = some (.inr (.inl (0, [some (some 19), some (some 20), some (some 21), some (some 22), some (some 23), some (some 24), none, none, none, none, none, none, none]))) from rfl) (by intro z; cases z)) (gT 19 _ (show bg2 ctb 19 = some (.inl (0, 12, [])) from rfl) (by intro z; cases z))) (gsA2 (E := E) hE hsm gI gP gT hp8 u hp9 hb hr (d + 1) (n + 95) (by omega) (by omega))
set_option maxRecDepth 100000 in
theorem gsA0 {g : zH} (hE : E.1 < 2147483648) (hsm : bSO E ctb B (60, smT)) (gI : bHI g) (gP : bPS g) (gT : bTB ctb g.1) {p R : Nat} (hp8 : p < 8) {p9 b r : Int32} (hp9 : p9.toInt = (p : Int)) (hb : 0 ≤ b.toInt ∧ b.toInt ≤ 11) (hr : 0 ≤ r.toInt ∧ r.toInt ≤ 11) (hR : r.toInt = (R : Int)) (hR2 : R < 12) : ∀ d f, 66 ≤ d → B + 5000000 ≤ f → gsV 18 12 (gsy (g.2.1 19 R).toInt (g.2.1 18 12)) (zex E f d 118 84 [some (.ref 3), some (.ref 18), some (.int p9), some (.ref 25), some (.int b), some (.int r), none] [] g) := by
  intro d f hd hf
  refine segx (V := [p9.toInt, r.toInt, b.toInt]) (al := [gq3, gq18, some (.inl (0, [(0, 1)])), gq25, some (.inl (0, [(2, 1)])), some (.inl (0, [(1, 1)])), none]) (ls := [some (.ref 3), some (.ref 18), some (.int p9), some (.ref 25), some (.int b), some (.int r), none]) (ca := 0) (sa := 0) (nv := 3) (Q := gsV 18 12 (gsy (g.2.1 19 R).toInt (g.2.1 18 12))) hE hsm (fun V S v w h _ _ _ z => nomatch (show false = true from z)) ⟨gI, gP, gT, fun _ _ _ => rfl, Nat.le_refl _, Nat.le_refl _⟩ (benv_c (by omega) (by omega) (benv_c hr.1 hr.2 (benv_c hb.1 hb.2 benv_n))) rfl bcs_n bov_n ⟨⟨_, rfl, rfl⟩, ⟨_, rfl, rfl⟩, ⟨_, rfl, p9, rfl, brel_v rfl⟩, ⟨_, rfl, rfl⟩, ⟨_, rfl, b, rfl, brel_v rfl⟩, ⟨_, rfl, r, rfl, brel_v rfl⟩, trivial, trivial⟩ gsD1 (B' := B + 3000200) (by omega) ?_ ?_ d f hd (by omega)
  · intro N hN
    cases hN with
    | head => exact ⟨rfl, rfl⟩
    | tail _ hN => exact absurd hN List.not_mem_nil
  · intro N hN V' ls' g1 hx k1 k2 d f hd hf
    cases hN with
    | tail _ hN => exact absurd hN List.not_mem_nil
    | head =>
      have k1 : bLR V' [gq3, gq18, some (.inl (0, [(0, 1)])), gq25, some (.inl (0, [(2, 1)])), some (.inl (0, [(1, 1)])), none] ls' := k1
      obtain ⟨p', b', r', u', e1, m1, m2, m3⟩ := gl_6 k1
      have n1 : p' = p9 := Int32.toInt_inj.mp (m1.trans (brel_x (brel_up hx (brel_v (V := [p9.toInt, r.toInt, b.toInt]) (i := 0) rfl))).symm)
      have n2 : b' = b := Int32.toInt_inj.mp (m2.trans (brel_x (brel_up hx (brel_v (V := [p9.toInt, r.toInt, b.toInt]) (i := 2) rfl))).symm)
      have n3 : r' = r := Int32.toInt_inj.mp (m3.trans (brel_x (brel_up hx (brel_v (V := [p9.toInt, r.toInt, b.toInt]) (i := 1) rfl))).symm)
      have f12 : g1.2.1 18 12 = g.2.1 18 12 := k2.2.2.2.1 18 12 (by decide +kernel)
      have f19 : g1.2.1 19 R = g.2.1 19 R := k2.2.2.2.1 19 R (show Nat.testBit gsW (bun 19 0) = false by decide +kernel)
      rw [e1, n1, n2, n3, ← f12, ← f19]
      exact gsA9 (E := E) hE hsm k2.1 k2.2.1 k2.2.2.1 hp8 u' hp9 hb hr hR hR2 d f hd hf
set_option maxRecDepth 100000 in
theorem gsC {h : zH} {σ : hSt} (hE : E.1 < 2147483648) (hsm : bSO E ctb B (60, smT)) (gI : bHI h) (gP : bPS h) (gT : bTB ctb h.1) (hR : RC h 4 18 σ) (hW : WF σ) (hB : gvB σ) {p : Nat} (hp : p < sP σ) {p9 : Int32} (hp9 : p9.toInt = (p : Int)) : ∀ d f, 68 ≤ d → B + 6000000 ≤ f → gsV 18 12 (gsd σ p (h.2.1 18 12)) (zex E f d 118 0 [some (.ref 3), some (.ref 18), some (.int p9), some (.ref 25), none, none, none] [] h) := by
  intro d f hd hf
  obtain ⟨n, hn⟩ : ∃ n, f = n + 200 := ⟨f - 200, by omega⟩
  obtain ⟨d, hd'⟩ : ∃ d', d = d' + 1 := ⟨d - 1, by omega⟩
  subst hn hd'
  obtain ⟨⟨r1, r2, r3⟩, r4, r5, r6, r7, r8, r9, r10⟩ := id hR
  have w3 := hW.2.2.1
  have w6 := hW.2.2.2.2.2 p hp
  have hz := hB p hp
  have hp8 : p < 8 := by omega
  have q8 : (h.2.1 20 p).toInt = spl σ p := r8 p hp8
  have q5 : (h.2.1 8 p).toInt = (ssl σ p : Int) := r5 p hp
  have q10 : (h.2.1 22 p).toInt = swt σ p := r10 p hp8
  obtain ⟨K, hK⟩ : ∃ K : Nat, spl σ p = (K : Int) := ⟨(spl σ p).toNat, by omega⟩
  have a1 : (h.2.1 20 p + 1).toInt = (K : Int) + 1 := by rw [i32_add (by rw [q8, int1]; omega) (by rw [q8, int1]; omega), q8, int1, hK]
  have b9 : ∀ j, (0 : Int) ≤ (h.2.1 9 j).toInt ∧ (h.2.1 9 j).toInt ≤ 11 := fun j => by
    have b := gI.1 9 j
    rw [show biv 9 j = (0, 11) from rfl] at b
    exact b
  have nm : ∀ j, (h.2.1 9 j).toInt ≠ (-1 : Int32).toInt := fun j => by
    have := b9 j
    rw [show (-1 : Int32).toInt = -1 by decide]
    omega
  have st : ∀ (g : zH), g.1 = h.1 → (∀ c k, c ≠ 20 → g.2.1 c k = h.2.1 c k) → ∀ (k9 : Int32) (J : Nat), k9.toInt = (J : Int) → J < ssl σ p → ∀ f, zex E (f + 17) d 173 0 [some (.ref 4), some (.int p9), some (.int k9)] [] g = some (.inl (some (.int (h.2.1 9 (12 * p + J)))), g) := fun g gs gc k9 J hk hJ f => gv_z1 (E := E) (n := f) (d := d) (h := g) (p := p9) (k := k9) (v := h.2.1 8 p) (w := h.2.1 9 (12 * p + J)) (P := p) (J := 12 * p + J) (by omega) hp9 hp8 (gc 8 p (by decide)) (by omega) (by rw [i32_nat hp9, i32_nat hk]; exact gv_i p hp8 J (by omega)) (by omega) (gc 9 _ (by decide)) ((show bTB ctb g.1 by rw [gs]; exact gT) 4 _ (show bg2 ctb 4 = some (.inr (.inl (8, [none, none, none, none, some (some 5), some (some 6), some (some 7), some (some 8), some (some 9)]))) from rfl) (by intro z; cases z)) ((show bTB ctb g.1 by rw [gs]; exact gT) 8 _ (show bg2 ctb 8 = some (.inl (0, 8, [])) from rfl) (by intro z; cases z)) ((show bTB ctb g.1 by rw [gs]; exact gT) 9 _ (show bg2 ctb 9 = some (.inl (0, 96, [])) from rfl) (by intro z; cases z))
  have out : ∀ (A b r : Int32) (f9 : Nat), B + 5000000 ≤ f9 → A.toInt = (if spl σ p + 1 < (ssl σ p : Int) then spl σ p + 1 else 0) → (0 ≤ b.toInt ∧ b.toInt ≤ 11) → (0 ≤ r.toInt ∧ r.toInt ≤ 11) → r.toInt = (swk σ p (gsp σ p) : Int) → zex E (n + 200) (d + 1) 118 0 [some (.ref 3), some (.ref 18), some (.int p9), some (.ref 25), none, none, none] [] h = zex E f9 (d + 1) 118 84 [some (.ref 3), some (.ref 18), some (.int p9), some (.ref 25), some (.int b), some (.int r), none] [] (zsetI h 20 (upd (h.2.1 20) p A)) → gsV 18 12 (gsd σ p (h.2.1 18 12)) (zex E (n + 200) (d + 1) 118 0 [some (.ref 3), some (.ref 18), some (.int p9), some (.ref 25), none, none, none] [] h) := by
    intro A b r f9 hf9 hA hb hr hrs e
    have rz := bRQ_set (W := gvV) (c := 20) (j := p) (y := A) (⟨gI, gP, gT, fun _ _ _ => rfl, Nat.le_refl _, Nat.le_refl _⟩ : bRQ ctb gvV h 0 0 h) (show Nat.testBit gvV (bun 20 0) = true by decide +kernel) (by
      rw [bva_20, hA]
      show (0 : Int) ≤ _ ∧ _ ≤ (11 : Int)
      by_cases z : spl σ p + 1 < (ssl σ p : Int)
      · rw [if_pos z]; omega
      · rw [if_neg z]; omega) rfl rfl (by decide) (by decide)
    have hR12 : swk σ p (gsp σ p) < 12 := by omega
    rw [e]
    refine gsV_e ?_ (gsA0 (E := E) hE hsm rz.1 rz.2.1 rz.2.2.1 hp8 hp9 hb hr hrs hR12 (d + 1) f9 (by omega) hf9)
    rw [zs_ne (show (19 : Nat) ≠ 20 by decide), zs_ne (show (18 : Nat) ≠ 20 by decide), show (h.2.1 19 (swk σ p (gsp σ p))).toInt = spt σ (swk σ p (gsp σ p)) from r7 _ hR12]
    rfl
  have e0 := st h rfl (fun _ _ _ => rfl) (h.2.1 20 p) K (by rw [q8, hK]) (by omega)
  by_cases hl : spl σ p + 1 < (ssl σ p : Int)
  · have e1 := st (zsetI h 20 (upd (h.2.1 20) p (h.2.1 20 p + 1))) rfl (fun c k hc => zs_ne hc) (h.2.1 20 p + 1) (K + 1) (by rw [a1]; rfl) (by omega)
    exact out (h.2.1 20 p + 1) _ _ (n + 153) (by omega) (by rw [if_pos hl, a1, hK]) (b9 _) (b9 _) (by rw [show gsp σ p = K + 1 from (by unfold gsp; rw [if_pos hl]; omega)]; exact r6 p hp (K + 1) (by omega)) (gv_a (E := E) (n := n + 153) (d := d) (h := h) (p := p9) (a := h.2.1 20 p) (b := h.2.1 9 (12 * p + K)) (l := h.2.1 8 p) (r := h.2.1 9 (12 * p + (K + 1))) (P := p) hp9 hp8 rfl rfl (nm _) (nm _) (by rw [a1, q5]; omega) (by rw [zs_at, upd_e]) (gT 3 _ (show bg2 ctb 3 = some (.inr (.inl (2, [some (some 4), some (some 10), some (some 17)]))) from rfl) (by intro z; cases z)) (gT 4 _ (show bg2 ctb 4 = some (.inr (.inl (8, [none, none, none, none, some (some 5), some (some 6), some (some 7), some (some 8), some (some 9)]))) from rfl) (by intro z; cases z)) (gT 8 _ (show bg2 ctb 8 = some (.inl (0, 8, [])) from rfl) (by intro z; cases z)) (gT 18 _ (show bg2 ctb 18 = some (.inr (.inl (0, [some (some 19), some (some 20), some (some 21), some (some 22), some (some 23), some (some 24), none, none, none, none, none, none, none]))) from rfl) (by intro z; cases z)) (gT 20 _ (show bg2 ctb 20 = some (.inl (0, 8, [])) from rfl) (by intro z; cases z)) (e0 (n + 175)) (e1 (n + 143)))
  · have e1 := st (zsetI h 20 (upd (h.2.1 20) p 0)) rfl (fun c k hc => zs_ne hc) 0 0 (by decide) (by omega)
    exact out 0 _ _ (n + 159) (by omega) (by rw [if_neg hl]; decide) (b9 _) (b9 _) (by rw [show gsp σ p = 0 from (by unfold gsp; rw [if_neg hl]; rfl)]; exact r6 p hp 0 (by omega)) (gv_b (E := E) (n := n + 159) (d := d) (h := h) (p := p9) (a := h.2.1 20 p) (b := h.2.1 9 (12 * p + K)) (l := h.2.1 8 p) (r := h.2.1 9 (12 * p + 0)) (P := p) hp9 hp8 rfl rfl (nm _) (nm _) (by rw [a1, q5]; omega) (by rw [zs_at, upd_e]) (gT 3 _ (show bg2 ctb 3 = some (.inr (.inl (2, [some (some 4), some (some 10), some (some 17)]))) from rfl) (by intro z; cases z)) (gT 4 _ (show bg2 ctb 4 = some (.inr (.inl (8, [none, none, none, none, some (some 5), some (some 6), some (some 7), some (some 8), some (some 9)]))) from rfl) (by intro z; cases z)) (gT 8 _ (show bg2 ctb 8 = some (.inl (0, 8, [])) from rfl) (by intro z; cases z)) (gT 18 _ (show bg2 ctb 18 = some (.inr (.inl (0, [some (some 19), some (some 20), some (some 21), some (some 22), some (some 23), some (some 24), none, none, none, none, none, none, none]))) from rfl) (by intro z; cases z)) (gT 20 _ (show bg2 ctb 20 = some (.inl (0, 8, [])) from rfl) (by intro z; cases z)) (e0 (n + 175)) (e1 (n + 149)))
def gsP (h0 : zH) (o : Option zR) : Prop := gsV 18 12 (h0.2.1 18 12) o
set_option maxRecDepth 100000 in
theorem gsM {h0 : zH} (hE : E.1 < 2147483648) (hsm : bSO E ctb B (60, smT)) : ∀ (m : Nat) (s9 i9 : Int32) (h : zH), i9.toInt + (m : Int) = 12 → 0 ≤ i9.toInt → bRQ ctb gsW h0 0 0 h → ∀ d f, 66 ≤ d → B + gvFu 2000000 m ≤ f → gsP h0 (zex E f d 117 37 [some (.ref 3), some (.ref 18), some (.ref 25), some (.int s9), some (.int i9)] [] h) := by
  intro m
  induction m with
  | zero =>
    intro s9 i9 h hm h9 hr d f hd hf
    have hmul : gvFu 2000000 0 = 2000000 := rfl
    refine segc (V := [i9.toInt, s9.toInt]) (al := [gq3, gq18, gq25, some (.inl (0, [(1, 1)])), some (.inl (0, [(0, 1)]))]) (ls := [some (.ref 3), some (.ref 18), some (.ref 25), some (.int s9), some (.int i9)]) (ca := 0) (sa := 0) (nv := 2) (Q := gsP h0) hE hsm (fun V S v w h _ _ _ z => nomatch (show false = true from z)) hr (benv_c h9 (by omega) (benv_c (bi32 s9).1 (bi32 s9).2 benv_n)) rfl bcs_n bov_n ⟨⟨_, rfl, rfl⟩, ⟨_, rfl, rfl⟩, ⟨_, rfl, rfl⟩, ⟨_, rfl, s9, rfl, brel_v rfl⟩, ⟨_, rfl, i9, rfl, brel_v rfl⟩, trivial⟩ gsD6 (B' := B + 1000000) (by omega) ?_ ?_ d f hd (by omega)
    · intro N hN
      cases hN with
      | head => exact ⟨rfl, rfl, rfl⟩
      | tail _ hN =>
        cases hN with
        | head => exact ⟨rfl, rfl, rfl⟩
        | tail _ hN => exact absurd hN List.not_mem_nil
    · intro N hN ls' h1 k1 k2 k3 d f hd hf
      cases hN with
      | head =>
        have k3 : bcs [i9.toInt, s9.toInt] [(11, [(0, -1)])] := k3
        obtain ⟨y, y1, y2⟩ := k3 _ (List.Mem.head _)
        have y3 : y = 11 + ((-1) * i9.toInt + 0) := brel_x y1
        exact absurd hm (by omega)
      | tail _ hN =>
        cases hN with
        | tail _ hN => exact absurd hN List.not_mem_nil
        | head =>
          have k1 : bLR [i9.toInt, s9.toInt] [gq3, gq18, gq25, some (.inl (0, [(1, 1)])), none] ls' := k1
          obtain ⟨s', u, e1⟩ := gl_4 k1
          rw [e1]
          obtain ⟨n, hn⟩ : ∃ n, f = n + 8 := ⟨f - 8, by omega⟩
          subst hn
          have gT := k2.2.2.1
          exact ⟨_, _, gv_f (E := E) (n := n) (d := d) (h := h1) (s := s') (u4 := u) (gT 18 _ (show bg2 ctb 18 = some (.inr (.inl (0, [some (some 19), some (some 20), some (some 21), some (some 22), some (some 23), some (some 24), none, none, none, none, none, none, none]))) from rfl) (by intro z; cases z)), by rw [zs_at, upd_n (by decide), k2.2.2.2.1 18 12 (by decide +kernel)]⟩
  | succ m IH =>
    intro s9 i9 h hm h9 hr d f hd hf
    have hmul : gvFu 2000000 (m + 1) = gvFu 2000000 m + 2000000 := rfl
    refine segc (V := [i9.toInt, s9.toInt]) (al := [gq3, gq18, gq25, some (.inl (0, [(1, 1)])), some (.inl (0, [(0, 1)]))]) (ls := [some (.ref 3), some (.ref 18), some (.ref 25), some (.int s9), some (.int i9)]) (ca := 0) (sa := 0) (nv := 2) (Q := gsP h0) hE hsm (fun V S v w h _ _ _ z => nomatch (show false = true from z)) hr (benv_c h9 (by omega) (benv_c (bi32 s9).1 (bi32 s9).2 benv_n)) rfl bcs_n bov_n ⟨⟨_, rfl, rfl⟩, ⟨_, rfl, rfl⟩, ⟨_, rfl, rfl⟩, ⟨_, rfl, s9, rfl, brel_v rfl⟩, ⟨_, rfl, i9, rfl, brel_v rfl⟩, trivial⟩ gsD6 (B' := B + (gvFu 2000000 m + 1000000)) (by omega) ?_ ?_ d f hd (by omega)
    · intro N hN
      cases hN with
      | head => exact ⟨rfl, rfl, rfl⟩
      | tail _ hN =>
        cases hN with
        | head => exact ⟨rfl, rfl, rfl⟩
        | tail _ hN => exact absurd hN List.not_mem_nil
    · intro N hN ls' h1 k1 k2 k3 d f hd hf
      cases hN with
      | head =>
        have k3 : bcs [i9.toInt, s9.toInt] [(11, [(0, -1)])] := k3
        obtain ⟨y, y1, y2⟩ := k3 _ (List.Mem.head _)
        have y3 : y = 11 + ((-1) * i9.toInt + 0) := brel_x y1
        have k1 : bLR [i9.toInt, s9.toInt] [gq3, gq18, gq25, some (.inl (0, [(1, 1)])), some (.inl (1, [(0, 1)]))] ls' := k1
        obtain ⟨s', i', e1, m1, m2⟩ := gl_5 k1
        have m2 : i'.toInt = 1 + (1 * i9.toInt + 0) := m2
        rw [e1]
        exact IH s' i' h1 (by omega) (by omega) k2 d f hd (by omega)
      | tail _ hN =>
        cases hN with
        | tail _ hN => exact absurd hN List.not_mem_nil
        | head =>
          have k1 : bLR [i9.toInt, s9.toInt] [gq3, gq18, gq25, some (.inl (0, [(1, 1)])), none] ls' := k1
          obtain ⟨s', u, e1⟩ := gl_4 k1
          rw [e1]
          obtain ⟨n, hn⟩ : ∃ n, f = n + 8 := ⟨f - 8, by omega⟩
          subst hn
          have gT := k2.2.2.1
          exact ⟨_, _, gv_f (E := E) (n := n) (d := d) (h := h1) (s := s') (u4 := u) (gT 18 _ (show bg2 ctb 18 = some (.inr (.inl (0, [some (some 19), some (some 20), some (some 21), some (some 22), some (some 23), some (some 24), none, none, none, none, none, none, none]))) from rfl) (by intro z; cases z)), by rw [zs_at, upd_n (by decide), k2.2.2.2.1 18 12 (by decide +kernel)]⟩
set_option maxRecDepth 100000 in
theorem gsL {σ : hSt} {s : Int32} (hE : E.1 < 2147483648) (hsm : bSO E ctb B (60, smT)) (hW : WF σ) (hB : gvB σ) : ∀ (m i : Nat) (s9 i9 : Int32) (h : zH), i + m = sP σ → i9.toInt = (i : Int) → bHI h → bPS h → bTB ctb h.1 → RC h 4 18 (gvN σ i) → h.2.1 18 12 = gsq σ i s → ∀ d f, 70 ≤ d → B + 30000000 + gvFu 7000000 m ≤ f → gsV 18 12 (gsq σ (sP σ) s) (zex E f d 117 5 [some (.ref 3), some (.ref 18), some (.ref 25), some (.int s9), some (.int i9)] [] h) := by
  intro m
  have w3 := hW.2.2.1
  induction m with
  | zero =>
    intro i s9 i9 h hm hi gI gP gT hR hs d f hd hf
    obtain ⟨n, hn⟩ : ∃ n, f = n + 7 := ⟨f - 7, by omega⟩
    subst hn
    have r3 := hR.1.2.2
    rw [gvN_P] at r3
    have k12 := gvFu_2
    have z := gsM (E := E) (h0 := h) hE hsm 12 s9 0 h (by decide) (by decide) ⟨gI, gP, gT, fun _ _ _ => rfl, Nat.le_refl _, Nat.le_refl _⟩ d n (by omega) (by omega)
    rw [show zex E (n + 7) d 117 5 [some (.ref 3), some (.ref 18), some (.ref 25), some (.int s9), some (.int i9)] [] h = _ from gv_e (E := E) (n := n) (d := d) (h := h) (s := s9) (i := i9) (by rw [r3, hi]; omega) (gT 3 _ (show bg2 ctb 3 = some (.inr (.inl (2, [some (some 4), some (some 10), some (some 17)]))) from rfl) (by intro z; cases z)) (gT 4 _ (show bg2 ctb 4 = some (.inr (.inl (8, [none, none, none, none, some (some 5), some (some 6), some (some 7), some (some 8), some (some 9)]))) from rfl) (by intro z; cases z))]
    have hi9 : i = sP σ := by omega
    rw [hi9] at hs
    exact gsV_e hs z
  | succ m IH =>
    intro i s9 i9 h hm hi gI gP gT hR hs d f hd hf
    have hmul : gvFu 7000000 (m + 1) = gvFu 7000000 m + 7000000 := rfl
    obtain ⟨n, hn⟩ : ∃ n, f = n + 15 := ⟨f - 15, by omega⟩
    obtain ⟨d, hd'⟩ : ∃ d', d = d' + 1 := ⟨d - 1, by omega⟩
    subst hn hd'
    have r3 := hR.1.2.2
    rw [gvN_P] at r3
    obtain ⟨x, h1, e1, i1, hR1, h11⟩ := gvC (E := E) hE hsm gI gP gT hR (gvN_W hW i) (gvN_B hB i (by omega)) (p := i) (by rw [gvN_P]; omega) hi d (n + 4) (by omega) (by omega)
    obtain ⟨x2, h2, e2, k2⟩ := gsC (E := E) hE hsm gI gP gT hR (gvN_W hW i) (gvN_B hB i (by omega)) (p := i) (by rw [gvN_P]; omega) hi d (n + 4) (by omega) (by omega)
    have zz := (inl_j e1 e2).2
    rw [← zz] at k2
    rw [show zex E (n + 15) (d + 1) 117 5 [some (.ref 3), some (.ref 18), some (.ref 25), some (.int s9), some (.int i9)] [] h = _ from gv_p (E := E) (n := n) (d := d) (h := h) (h1 := h1) (s := s9) (i := i9) (x := x) (by rw [r3, hi]; omega) (gT 3 _ (show bg2 ctb 3 = some (.inr (.inl (2, [some (some 4), some (some 10), some (some 17)]))) from rfl) (by intro z; cases z)) (gT 4 _ (show bg2 ctb 4 = some (.inr (.inl (8, [none, none, none, none, some (some 5), some (some 6), some (some 7), some (some 8), some (some 9)]))) from rfl) (by intro z; cases z)) e1]
    exact IH (i + 1) (s9 + x) (i9 + 1) h1 (by omega) (by rw [i32_add (by rw [hi, int1]; omega) (by rw [hi, int1]; omega), hi, int1]; omega) i1.1 i1.2.1 i1.2.2 hR1 (k2.trans (by rw [hs]; rfl)) (d + 1) n (by omega) (by omega)
set_option maxRecDepth 100000 in
theorem gsG {σ : hSt} {h : zH} (hE : E.1 < 2147483648) (hsm : bSO E ctb B (60, smT)) (hW : WF σ) (hB : gvB σ) (gI : bHI h) (gP : bPS h) (gT : bTB ctb h.1) (hR : RC h 4 18 σ) : ∀ d f, 70 ≤ d → B + 94000000 ≤ f → gsV 18 12 (gsq σ (sP σ) (h.2.1 18 12)) (zex E f d 117 0 [some (.ref 3), some (.ref 18), some (.ref 25), none, none] [] h) := by
  intro d f hd hf
  have w3 := hW.2.2.1
  have k4 := gvFu_7 (sP σ) (by omega)
  obtain ⟨n, hn⟩ : ∃ n, f = n + 4 := ⟨f - 4, by omega⟩
  subst hn
  rw [show zex E (n + 4) d 117 0 [some (.ref 3), some (.ref 18), some (.ref 25), none, none] [] h = _ from gv_0 (E := E) (n := n) (d := d) (h := h)]
  exact gsL (E := E) hE hsm hW hB (sP σ) 0 0 0 h (by omega) rfl gI gP gT hR rfl d n hd (by omega)
-- the model
set_option maxRecDepth 100000 in
theorem gsB3 {g : zH} (gT : bTB ctb g.1) {p : Nat} (hp8 : p < 8) {p9 x : Int32} (hp9 : p9.toInt = (p : Int)) {u2 u3 u4 u5 u6 u8 : Option Value} : ∀ d f, 66 ≤ d → 30 ≤ f → gsV 85 12 (g.2.1 85 12) (zex E f d 282 217 [some (.ref 84), some (.int p9), u2, u3, u4, u5, u6, some (.int x), u8] [] g) := by
  intro d f hd hf
  obtain ⟨n, hn⟩ : ∃ n, f = n + 30 := ⟨f - 30, by omega⟩
  obtain ⟨d, hd'⟩ : ∃ d', d = d' + 2 := ⟨d - 2, by omega⟩
  subst hn hd'
  exact ⟨x, _, gm_w (E := E) (n := n + 16) (d := d + 1) (h := g) (p := p9) (x := x) (u2 := u2) (u3 := u3) (u4 := u4) (u5 := u5) (u6 := u6) (u8 := u8) (gT 84 _ cs84 (by intro z; cases z)) (gmGet gT hp8 hp9 (j := 2) (by decide) (by decide) (n + 9) d) (gmPut gT hp8 hp9 (j := 2) (by decide) (by decide) (n + 5) d), by rw [zs_at, upd_n (by omega)]⟩
def gsf (p9 r x y : Int32) : Prop := x.toInt = 201 + 24 * p9.toInt ∧ y.toInt = 16 + 11 * r.toInt
set_option maxRecDepth 100000 in
theorem gsB2 {g : zH} (hE : E.1 < 2147483648) (hsm : bSO E ctb B (60, smT)) (gI : bHI g) (gP : bPS g) (gT : bTB ctb g.1) {p : Nat} (hp8 : p < 8) {p9 w r x y s : Int32} (hp9 : p9.toInt = (p : Int)) (hw : 0 ≤ w.toInt ∧ w.toInt ≤ 11) (hr : 0 ≤ r.toInt ∧ r.toInt ≤ 11) (hf9 : gsf p9 r x y) {u7 u8 : Option Value} : ∀ d f, 66 ≤ d → B + 1000100 ≤ f → gsV 85 12 (g.2.1 85 12) (zex E f d 282 133 [some (.ref 84), some (.int p9), some (.int w), some (.int r), some (.int x), some (.int y), some (.int s), u7, u8] [] g) := by
  intro d f hd hf
  refine segx (V := [p9.toInt, w.toInt, r.toInt, s.toInt]) (al := [q84, some (.inl (0, [(0, 1)])), some (.inl (0, [(1, 1)])), some (.inl (0, [(2, 1)])), some (.inl (201, [(0, 24)])), some (.inl (16, [(2, 11)])), some (.inl (0, [(3, 1)])), none, none]) (ls := [some (.ref 84), some (.int p9), some (.int w), some (.int r), some (.int x), some (.int y), some (.int s), u7, u8]) (ca := 0) (sa := 0) (nv := 4) (Q := gsV 85 12 (g.2.1 85 12)) hE hsm (fun V S v w h _ _ _ z => nomatch (show false = true from z)) ⟨gI, gP, gT, fun _ _ _ => rfl, Nat.le_refl _, Nat.le_refl _⟩ (benv_c (by omega) (by omega) (benv_c hw.1 hw.2 (benv_c hr.1 hr.2 (benv_c (bi32 s).1 (bi32 s).2 benv_n)))) rfl bcs_n bov_n ⟨⟨_, rfl, rfl⟩, ⟨_, rfl, p9, rfl, brel_v rfl⟩, ⟨_, rfl, w, rfl, brel_v rfl⟩, ⟨_, rfl, r, rfl, brel_v rfl⟩, ⟨_, rfl, x, rfl, brel_w rfl (by show _ = 201 + (24 * p9.toInt + 0); have := hf9.1; omega)⟩, ⟨_, rfl, y, rfl, brel_w rfl (by show _ = 16 + (11 * r.toInt + 0); have := hf9.2; omega)⟩, ⟨_, rfl, s, rfl, brel_v rfl⟩, trivial, trivial, trivial⟩ gsE3 (B' := B + 100) (by omega) ?_ ?_ d f hd (by omega)
  · intro N hN
    cases hN with
    | head => exact ⟨rfl, rfl⟩
    | tail _ hN => exact absurd hN List.not_mem_nil
  · intro N hN V' ls' g1 hx k1 k2 d f hd hf
    cases hN with
    | tail _ hN => exact absurd hN List.not_mem_nil
    | head =>
      have k1 : bLR V' [q84, some (.inl (0, [(0, 1)])), none, none, none, none, none, some (.inl (0, [(4, 1)])), none] ls' := k1
      obtain ⟨p', x', u2, u3, u4, u5, u6, u8, e1, m1⟩ := gl_9 k1
      have pe : p' = p9 := Int32.toInt_inj.mp (m1.trans (brel_x (brel_up hx (brel_v (V := [p9.toInt, w.toInt, r.toInt, s.toInt]) (i := 0) rfl))).symm)
      rw [e1, pe]
      exact gsV_e (k2.2.2.2.1 85 12 (by decide +kernel)) (gsB3 (E := E) k2.2.2.1 hp8 hp9 d f hd (by omega))
set_option maxRecDepth 100000 in
theorem gsB1 {g : zH} (hE : E.1 < 2147483648) (hsm : bSO E ctb B (60, smT)) (gI : bHI g) (gP : bPS g) (gT : bTB ctb g.1) {p R : Nat} (hp8 : p < 8) {p9 w r x y s : Int32} (hR : r.toInt = (R : Int)) (hR2 : R < 12) (ht : 1 ≤ (g.2.1 85 (15 + 11 * R)).toInt) (hp9 : p9.toInt = (p : Int)) (hw : 0 ≤ w.toInt ∧ w.toInt ≤ 11) (hr : 0 ≤ r.toInt ∧ r.toInt ≤ 11) (hf9 : gsf p9 r x y) {u7 u8 : Option Value} : ∀ d f, 66 ≤ d → B + 2000100 ≤ f → gsV 85 12 (g.2.1 85 12) (zex E f d 282 119 [some (.ref 84), some (.int p9), some (.int w), some (.int r), some (.int x), some (.int y), some (.int s), u7, u8] [] g) := by
  intro d f hd hf
  have b15 := gI.1 85 (15 + 11 * R)
  rw [gs_b15 R hR2] at b15
  have ht2 : (g.2.1 85 (15 + 11 * R)).toInt ≤ 100 := b15.2
  have ov : bOV E [p9.toInt, w.toInt, r.toInt, s.toInt, (g.2.1 85 (15 + 11 * R)).toInt] [(85, (15, [(2, 11)]), (0, [(4, 1)]))] g := bov_c (k := 15 + 11 * R) rfl rfl (by show ((15 + 11 * R : Nat) : Int) = 15 + (11 * r.toInt + 0); omega) rfl (by show (g.2.1 85 (15 + 11 * R)).toInt = 0 + (1 * (g.2.1 85 (15 + 11 * R)).toInt + 0); omega) bov_n
  have bx : brel [p9.toInt, w.toInt, r.toInt, s.toInt, (g.2.1 85 (15 + 11 * R)).toInt] (201, [(0, 24)]) x.toInt := brel_w rfl (by show _ = 201 + (24 * p9.toInt + 0); have := hf9.1; omega)
  have by9 : brel [p9.toInt, w.toInt, r.toInt, s.toInt, (g.2.1 85 (15 + 11 * R)).toInt] (16, [(2, 11)]) y.toInt := brel_w rfl (by show _ = 16 + (11 * r.toInt + 0); have := hf9.2; omega)
  refine segx (V := [p9.toInt, w.toInt, r.toInt, s.toInt, (g.2.1 85 (15 + 11 * R)).toInt]) (al := [q84, some (.inl (0, [(0, 1)])), some (.inl (0, [(1, 1)])), some (.inl (0, [(2, 1)])), some (.inl (201, [(0, 24)])), some (.inl (16, [(2, 11)])), some (.inl (0, [(3, 1)])), none, none]) (ls := [some (.ref 84), some (.int p9), some (.int w), some (.int r), some (.int x), some (.int y), some (.int s), u7, u8]) (ca := 0) (sa := 0) (nv := 5) (Q := gsV 85 12 (g.2.1 85 12)) hE hsm (fun V S v w h _ _ _ z => nomatch (show false = true from z)) ⟨gI, gP, gT, fun _ _ _ => rfl, Nat.le_refl _, Nat.le_refl _⟩ (benv_c (by omega) (by omega) (benv_c hw.1 hw.2 (benv_c hr.1 hr.2 (benv_c (bi32 s).1 (bi32 s).2 (benv_c ht ht2 benv_n))))) rfl bcs_n ov ⟨⟨_, rfl, rfl⟩, ⟨_, rfl, p9, rfl, brel_v rfl⟩, ⟨_, rfl, w, rfl, brel_v rfl⟩, ⟨_, rfl, r, rfl, brel_v rfl⟩, ⟨_, rfl, x, rfl, bx⟩, ⟨_, rfl, y, rfl, by9⟩, ⟨_, rfl, s, rfl, brel_v rfl⟩, trivial, trivial, trivial⟩ gsE2 (B' := B + 1000100) (by omega) ?_ ?_ d f hd (by omega)
  · intro N hN
    cases hN with
    | head => exact ⟨rfl, rfl⟩
    | tail _ hN => exact absurd hN List.not_mem_nil
  · intro N hN V' ls' g1 hx k1 k2 d f hd hf
    cases hN with
    | tail _ hN => exact absurd hN List.not_mem_nil
    | head =>
      have k1 : bLR V' [q84, some (.inl (0, [(0, 1)])), some (.inl (0, [(1, 1)])), some (.inl (0, [(2, 1)])), some (.inl (201, [(0, 24)])), some (.inl (16, [(2, 11)])), some (.inl (0, [(3, 1)])), none, none] ls' := k1
      obtain ⟨p', w', r', x', y', s', v7, v8, e1, m1, m2, m3, m4, m5, m6⟩ := gl_8 k1
      have n1 : p' = p9 := Int32.toInt_inj.mp (m1.trans (brel_x (brel_up hx (brel_v (V := [p9.toInt, w.toInt, r.toInt, s.toInt, (g.2.1 85 (15 + 11 * R)).toInt]) (i := 0) rfl))).symm)
      have n2 : w' = w := Int32.toInt_inj.mp (m2.trans (brel_x (brel_up hx (brel_v (V := [p9.toInt, w.toInt, r.toInt, s.toInt, (g.2.1 85 (15 + 11 * R)).toInt]) (i := 1) rfl))).symm)
      have n3 : r' = r := Int32.toInt_inj.mp (m3.trans (brel_x (brel_up hx (brel_v (V := [p9.toInt, w.toInt, r.toInt, s.toInt, (g.2.1 85 (15 + 11 * R)).toInt]) (i := 2) rfl))).symm)
      have n4 : x' = x := Int32.toInt_inj.mp (m4.trans (brel_x (brel_up hx bx)).symm)
      have n5 : y' = y := Int32.toInt_inj.mp (m5.trans (brel_x (brel_up hx by9)).symm)
      rw [e1, n1, n2, n3, n4, n5]
      exact gsV_e (k2.2.2.2.1 85 12 (by decide +kernel)) (gsB2 (E := E) hE hsm k2.1 k2.2.1 k2.2.2.1 hp8 hp9 hw hr hf9 d f hd hf)
set_option maxRecDepth 100000 in
theorem gsRm {g : zH} (gT : bTB ctb g.1) {r : Int32} {R : Nat} (hR : r.toInt = (R : Int)) (hR2 : R < 12) (f d : Nat) : zex E (f + 20) (d + 1) 220 0 [some (.ref 84), some (.int r), some (.int 2)] [] g = some (.inl (some (.int (g.2.1 85 (15 + 11 * R)))), g) :=
  dm_r (E := E) (n := f + 13) (d := d) (h := g) (r := r) (j := 2) (k := (13 + (11 * r)) + 2) (t := g.2.1 85 (15 + 11 * R)) (K := 15 + 11 * R) (by rw [room_i (b := 2) hR hR2 (by decide) (by decide)]; omega) (by omega) rfl (gT 84 _ (show bg2 ctb 84 = some (.inr (.inl (12, [none, some (some 85), some (some 86), some (some 87), some (some 88), some (some 89), none, none, some (some 90), none, none, none, none, none, none, some (some 91), none, some (some 92), some (some 93)]))) from rfl) (by intro z; cases z)) (gT 85 _ (show bg2 ctb 85 = some (.inl (0, 2475, [])) from rfl) (by intro z; cases z)) (mh_ri (E := E) (n := f + 7) (d := d) (h := g) (r := r) (j := 2))
set_option maxRecDepth 100000 in
theorem gsB9 {g : zH} (hE : E.1 < 2147483648) (hsm : bSO E ctb B (60, smT)) (gI : bHI g) (gP : bPS g) (gT : bTB ctb g.1) {p R : Nat} (hp8 : p < 8) {p9 w r x y s : Int32} (hp9 : p9.toInt = (p : Int)) (hw : 0 ≤ w.toInt ∧ w.toInt ≤ 11) (hr : 0 ≤ r.toInt ∧ r.toInt ≤ 11) (hR : r.toInt = (R : Int)) (hR2 : R < 12) (hf9 : gsf p9 r x y) {u7 u8 : Option Value} : ∀ d f, 66 ≤ d → B + 2000300 ≤ f → gsV 85 12 (gsy (g.2.1 85 (15 + 11 * R)).toInt (g.2.1 85 12)) (zex E f d 282 95 [some (.ref 84), some (.int p9), some (.int w), some (.int r), some (.int x), some (.int y), some (.int s), u7, u8] [] g) := by
  intro d f hd hf
  obtain ⟨n, hn⟩ : ∃ n, f = n + 100 := ⟨f - 100, by omega⟩
  obtain ⟨d, hd'⟩ : ∃ d', d = d' + 2 := ⟨d - 2, by omega⟩
  subst hn hd'
  have q84 := gT 84 _ cs84 (by intro z; cases z)
  unfold gsy
  by_cases h0 : 0 < (g.2.1 85 (15 + 11 * R)).toInt
  · rw [if_pos h0]
    obtain ⟨v, hv⟩ : ∃ v : Int32, v = 1103515245 * g.2.1 85 12 + 12345 := ⟨_, rfl⟩
    obtain ⟨Z, hZ⟩ : ∃ Z : zH, Z = zsetI g 85 (upd (g.2.1 85) 12 (1103515245 * g.2.1 85 12 + 12345)) := ⟨_, rfl⟩
    have zI : bHI Z := by
      rw [hZ]
      refine bHI_85 gI (by omega) ?_ (blam_o gI.2.1 (by omega) (fun q _ => by omega))
      rw [show biv 85 12 = (-2147483648, 2147483647) from rfl]
      exact bi32 _
    have zP : bPS Z := by rw [hZ]; exact bPS_w gP (fun z => absurd z (by decide))
    have zT : bTB ctb Z.1 := by rw [hZ]; exact gT
    have z84 := zT 84 _ cs84 (by intro z; cases z)
    have zy : Z.2.1 85 12 = v := by rw [hZ, zs_at, upd_e, hv]
    have ec := fun f => dm_c (E := E) (n := f) (d := d + 1) (h := g) (s := g.2.1 85 12) (y := v) (m := 100) (by decide) rfl (by rw [zs_at, upd_e, hv]) (gT 84 _ (show bg2 ctb 84 = some (.inr (.inl (12, [none, some (some 85), some (some 86), some (some 87), some (some 88), some (some 89), none, none, some (some 90), none, none, none, none, none, none, some (some 91), none, some (some 92), some (some 93)]))) from rfl) (by intro z; cases z)) (gT 85 _ (show bg2 ctb 85 = some (.inl (0, 2475, [])) from rfl) (by intro z; cases z))
    rw [← hZ] at ec
    obtain ⟨X, hX⟩ : ∃ X : Int32, X = ((v >>> ((16 : Int32) &&& 31)) &&& 32767) - ((v >>> ((16 : Int32) &&& 31)) &&& 32767) / 100 * 100 := ⟨_, rfl⟩
    have ec : ∀ f, zex E (f + 23) (d + 1) 231 0 [some (.ref 84), some (.int 100)] [] g = some (.inl (some (.int X)), Z) := fun f => by rw [hX]; exact ec f
    rw [← hv, ← zy]
    by_cases hk : (Z.2.1 85 (185 + 24 * p + 1)).toInt ≤ X.toInt
    · exact gsV_o (xm_1 (E := E) (n := n + 87) (d := d + 1) (h := g) (h1 := Z) (p := p9) (w := w) (r := r) (x := x) (y := y) (s := s) (t := g.2.1 85 (15 + 11 * R)) (z := X) (k := Z.2.1 85 (185 + 24 * p + 1)) (u7 := u7) (u8 := u8) h0 hk q84 z84 (gsRm (E := E) gT hR hR2 (n + 76) d) (ec (n + 69)) (gmGet zT hp8 hp9 (j := 1) (by decide) (by decide) (n + 75) d)) (gsB2 (E := E) hE hsm zI zP zT hp8 hp9 hw hr hf9 (d + 2) (n + 87) (by omega) (by omega))
    · exact gsV_o (xm_2 (E := E) (n := n + 87) (d := d + 1) (h := g) (h1 := Z) (p := p9) (w := w) (r := r) (x := x) (y := y) (s := s) (t := g.2.1 85 (15 + 11 * R)) (z := X) (k := Z.2.1 85 (185 + 24 * p + 1)) (u7 := u7) (u8 := u8) h0 (by omega) q84 z84 (gsRm (E := E) gT hR hR2 (n + 76) d) (ec (n + 69)) (gmGet zT hp8 hp9 (j := 1) (by decide) (by decide) (n + 75) d)) (gsB1 (E := E) (R := R) hE hsm zI zP zT hp8 hR hR2 (by rw [hZ, zs_at, upd_n (by omega)]; omega) hp9 hw hr hf9 (d + 2) (n + 87) (by omega) (by omega))
  · rw [if_neg h0]
    exact gsV_o (xm_0 (E := E) (n := n + 95) (d := d + 1) (h := g) (p := p9) (w := w) (r := r) (x := x) (y := y) (s := s) (t := g.2.1 85 (15 + 11 * R)) (z := 0) (k := 0) (u7 := u7) (u8 := u8) (by omega) q84 (gsRm (E := E) gT hR hR2 (n + 76) d)) (gsB2 (E := E) hE hsm gI gP gT hp8 hp9 hw hr hf9 (d + 2) (n + 95) (by omega) (by omega))
set_option maxRecDepth 100000 in
theorem gsB0 {g : zH} (hE : E.1 < 2147483648) (hsm : bSO E ctb B (60, smT)) (gI : bHI g) (gP : bPS g) (gT : bTB ctb g.1) {p R : Nat} (hp8 : p < 8) {p9 w r x y : Int32} (hp9 : p9.toInt = (p : Int)) (hw : 0 ≤ w.toInt ∧ w.toInt ≤ 11) (hr : 0 ≤ r.toInt ∧ r.toInt ≤ 11) (hR : r.toInt = (R : Int)) (hR2 : R < 12) (hf9 : gsf p9 r x y) : ∀ d f, 66 ≤ d → B + 3000300 ≤ f → gsV 85 12 (gsy (g.2.1 85 (15 + 11 * R)).toInt (g.2.1 85 12)) (zex E f d 282 48 [some (.ref 84), some (.int p9), some (.int w), some (.int r), some (.int x), some (.int y), none, none, none] [] g) := by
  intro d f hd hf
  have bx : brel [p9.toInt, w.toInt, r.toInt] (201, [(0, 24)]) x.toInt := brel_w rfl (by show _ = 201 + (24 * p9.toInt + 0); have := hf9.1; omega)
  have by9 : brel [p9.toInt, w.toInt, r.toInt] (16, [(2, 11)]) y.toInt := brel_w rfl (by show _ = 16 + (11 * r.toInt + 0); have := hf9.2; omega)
  refine segx (V := [p9.toInt, w.toInt, r.toInt]) (al := [q84, some (.inl (0, [(0, 1)])), some (.inl (0, [(1, 1)])), some (.inl (0, [(2, 1)])), some (.inl (201, [(0, 24)])), some (.inl (16, [(2, 11)])), none, none, none]) (ls := [some (.ref 84), some (.int p9), some (.int w), some (.int r), some (.int x), some (.int y), none, none, none]) (ca := 0) (sa := 0) (nv := 3) (Q := gsV 85 12 (gsy (g.2.1 85 (15 + 11 * R)).toInt (g.2.1 85 12))) hE hsm (fun V S v w h _ _ _ z => nomatch (show false = true from z)) ⟨gI, gP, gT, fun _ _ _ => rfl, Nat.le_refl _, Nat.le_refl _⟩ (benv_c (by omega) (by omega) (benv_c hw.1 hw.2 (benv_c hr.1 hr.2 benv_n))) rfl bcs_n bov_n ⟨⟨_, rfl, rfl⟩, ⟨_, rfl, p9, rfl, brel_v rfl⟩, ⟨_, rfl, w, rfl, brel_v rfl⟩, ⟨_, rfl, r, rfl, brel_v rfl⟩, ⟨_, rfl, x, rfl, bx⟩, ⟨_, rfl, y, rfl, by9⟩, trivial, trivial, trivial, trivial⟩ gsE1 (B' := B + 2000300) (by omega) ?_ ?_ d f hd (by omega)
  · intro N hN
    cases hN with
    | head => exact ⟨rfl, rfl⟩
    | tail _ hN => exact absurd hN List.not_mem_nil
  · intro N hN V' ls' g1 hx k1 k2 d f hd hf
    cases hN with
    | tail _ hN => exact absurd hN List.not_mem_nil
    | head =>
      have k1 : bLR V' [q84, some (.inl (0, [(0, 1)])), some (.inl (0, [(1, 1)])), some (.inl (0, [(2, 1)])), some (.inl (201, [(0, 24)])), some (.inl (16, [(2, 11)])), some (.inl (0, [(3, 1)])), none, none] ls' := k1
      obtain ⟨p', w', r', x', y', s', v7, v8, e1, m1, m2, m3, m4, m5, m6⟩ := gl_8 k1
      have n1 : p' = p9 := Int32.toInt_inj.mp (m1.trans (brel_x (brel_up hx (brel_v (V := [p9.toInt, w.toInt, r.toInt]) (i := 0) rfl))).symm)
      have n2 : w' = w := Int32.toInt_inj.mp (m2.trans (brel_x (brel_up hx (brel_v (V := [p9.toInt, w.toInt, r.toInt]) (i := 1) rfl))).symm)
      have n3 : r' = r := Int32.toInt_inj.mp (m3.trans (brel_x (brel_up hx (brel_v (V := [p9.toInt, w.toInt, r.toInt]) (i := 2) rfl))).symm)
      have n4 : x' = x := Int32.toInt_inj.mp (m4.trans (brel_x (brel_up hx bx)).symm)
      have n5 : y' = y := Int32.toInt_inj.mp (m5.trans (brel_x (brel_up hx by9)).symm)
      have f12 : g1.2.1 85 12 = g.2.1 85 12 := k2.2.2.2.1 85 12 (by decide +kernel)
      have f15 : g1.2.1 85 (15 + 11 * R) = g.2.1 85 (15 + 11 * R) := k2.2.2.2.1 85 (15 + 11 * R) (gs_bt R hR2)
      rw [e1, n1, n2, n3, n4, n5, ← f12, ← f15]
      exact gsB9 (E := E) hE hsm k2.1 k2.2.1 k2.2.2.1 hp8 hp9 hw hr hR hR2 hf9 d f hd hf
set_option maxRecDepth 100000 in
theorem gsD {h : zH} {σ : hSt} (hE : E.1 < 2147483648) (hsm : bSO E ctb B (60, smT)) (gI : bHI h) (gP : bPS h) (gT : bTB ctb h.1) (hM : RMf (h.2.1 85) σ) (hW : WF σ) {p : Nat} (hp : p < sP σ) (hz : 0 ≤ spl σ p ∧ spl σ p < (ssl σ p : Int)) (h0 : (h.2.1 85 (185 + 24 * p + 0)).toInt = spl σ p) {p9 : Int32} (hp9 : p9.toInt = (p : Int)) (hS : ∀ r, r < 12 → (h.2.1 85 (15 + 11 * r)).toInt = spt σ r) : ∀ d f, 71 ≤ d → B + 4000000 ≤ f → gsV 85 12 (gsd σ p (h.2.1 85 12)) (zex E f d 282 0 [some (.ref 84), some (.int p9), none, none, none, none, none, none, none] [] h) := by
  intro d f hd hf
  obtain ⟨n, hn⟩ : ∃ n, f = n + 200 := ⟨f - 200, by omega⟩
  obtain ⟨d, hd'⟩ : ∃ d', d = d' + 3 := ⟨d - 3, by omega⟩
  subst hn hd'
  obtain ⟨⟨r1, r2, r3⟩, r4, r5⟩ := id hM
  have w1 := hW.1
  have w3 := hW.2.2.1
  have w6 := hW.2.2.2.2.2 p hp
  have hp8 : p < 8 := by omega
  obtain ⟨K, hK⟩ : ∃ K : Nat, spl σ p = (K : Int) := ⟨(spl σ p).toNat, by omega⟩
  have ha : (h.2.1 85 (185 + 24 * p + 0)).toInt = (K : Int) := h0.trans hK
  have hL : (h.2.1 85 (185 + 24 * p + 3)).toInt = (ssl σ p : Int) := by rw [show 185 + 24 * p + 3 = 188 + 24 * p by omega]; exact (r5 p hp).1
  have hy := gv_m (ssl σ p) (by omega) K (by omega)
  have l0 : h.2.1 85 (185 + 24 * p + 3) ≠ 0 := by rw [i32_nat hL]; exact hy.2
  obtain ⟨y, y0⟩ : ∃ y, y = ((h.2.1 85 (185 + 24 * p + 0) + 1) - (h.2.1 85 (185 + 24 * p + 0) + 1) / h.2.1 85 (185 + 24 * p + 3) * h.2.1 85 (185 + 24 * p + 3)) := ⟨_, rfl⟩
  have y1 : y.toInt = (if spl σ p + 1 < (ssl σ p : Int) then spl σ p + 1 else 0) := by rw [y0, i32_nat ha, i32_nat hL, hK]; exact hy.1
  obtain ⟨K2, hK2⟩ : ∃ K2 : Nat, y.toInt = (K2 : Int) ∧ K2 < ssl σ p := by
    by_cases z : spl σ p + 1 < (ssl σ p : Int)
    · rw [if_pos z] at y1; exact ⟨K + 1, by omega, by omega⟩
    · rw [if_neg z] at y1; exact ⟨0, by omega, by omega⟩
  obtain ⟨g, hg⟩ : ∃ g, g = zsetI h 85 (upd (h.2.1 85) (185 + 24 * p + 0) y) := ⟨_, rfl⟩
  have t1 : bTB ctb g.1 := by rw [hg]; exact gT
  have g85 : ∀ k, g.2.1 85 k = upd (h.2.1 85) (185 + 24 * p + 0) y k := fun k => by rw [hg, zs_at]
  have gI1 : bHI g := by
    rw [hg]
    refine bHI_85 gI (by omega) ?_ (blam_o gI.2.1 (by omega) (fun q _ => by omega))
    rw [show biv 85 (185 + 24 * p + 0) = (0, 11) from (gv_bu p hp8).1]
    show (0 : Int) ≤ _ ∧ _ ≤ (11 : Int)
    omega
  have gP1 : bPS g := by rw [hg]; exact bPS_w gP (fun z => absurd z (by decide))
  have hK3 : (g.2.1 85 (185 + 24 * p + 0)).toInt = (K2 : Int) := by rw [g85, upd_e]; exact hK2.1
  have bw : ∀ j, j < 12 → (0 : Int) ≤ (h.2.1 85 (185 + 24 * p + (4 + j))).toInt ∧ (h.2.1 85 (185 + 24 * p + (4 + j))).toInt ≤ 11 := fun j hj => by
    have b := gI.1 85 (185 + 24 * p + (4 + j))
    rw [gv_bw p hp8 j hj] at b
    exact b
  have e1 := gmRo (E := E) gT hp8 hp9 ha (by omega) (n + 167) (d + 0)
  have e5 := gmRo (E := E) t1 hp8 hp9 hK3 (by omega) (n + 148) (d + 0)
  have vr : g.2.1 85 (185 + 24 * p + (4 + K2)) = h.2.1 85 (185 + 24 * p + (4 + K2)) := by rw [g85, upd_n (by omega)]
  rw [vr] at e5
  obtain ⟨w, hw⟩ : ∃ w, w = h.2.1 85 (185 + 24 * p + (4 + K)) := ⟨_, rfl⟩
  obtain ⟨r, hr⟩ : ∃ r, r = h.2.1 85 (185 + 24 * p + (4 + K2)) := ⟨_, rfl⟩
  have bb1 := bw K (by omega)
  have bb2 := bw K2 (by omega)
  rw [← hw] at e1 bb1
  rw [← hr] at e5 bb2
  have e4 := gmPut (E := E) gT hp8 hp9 (y := y) (j9 := 0) (j := 0) (by decide) (by decide) (n + 168) (d + 1)
  rw [← hg] at e4
  have e := gm_a (E := E) (n := n + 169) (d := d + 2) (h := h) (h1 := g) (p := p9) (w := w) (a := h.2.1 85 (185 + 24 * p + 0)) (l := h.2.1 85 (185 + 24 * p + 3)) (r := r) (x := 185 + 24 * p9 + 16) (y := 13 + 11 * r + 3) l0 (gT 84 _ cs84 (by intro z; cases z)) (t1 84 _ cs84 (by intro z; cases z)) e1 (gmGet gT hp8 hp9 (j := 0) (by decide) (by decide) (n + 176) (d + 1)) (gmGet gT hp8 hp9 (j := 3) (by decide) (by decide) (n + 170) (d + 1)) (by rw [← y0]; exact e4) e5 (mh_pi (n := n + 166) (d := d + 2)) (mh_ri (n := n + 162) (d := d + 2))
  obtain ⟨R, hR⟩ : ∃ R : Nat, r.toInt = (R : Int) := ⟨r.toInt.toNat, by omega⟩
  have x1 : (185 + 24 * p9 + 16).toInt = ((185 + 24 * p + 16 : Nat) : Int) := pers_i hp9 hp8 (by decide) (by decide)
  have x2 : (13 + 11 * r + 3).toInt = ((13 + 11 * R + 3 : Nat) : Int) := room_i hR (by omega) (by decide) (by decide)
  rw [e]
  have hR2 : R < 12 := by omega
  have kq : K2 = gsp σ p := by
    unfold gsp
    rw [← y1, hK2.1, Int.toNat_natCast]
  have hRs : R = swk σ p (gsp σ p) := by
    have q := (r5 p hp).2 K2 hK2.2
    rw [show 189 + 24 * p + K2 = 185 + 24 * p + (4 + K2) by omega, ← hr, hR, kq] at q
    omega
  refine gsV_e ?_ (gsB0 (E := E) hE hsm gI1 gP1 t1 hp8 (R := R) hp9 bb1 bb2 hR hR2 ⟨by rw [x1, hp9]; omega, by rw [x2, hR]; omega⟩ (d + 3) (n + 169) (by omega) (by omega))
  rw [g85, upd_n (show 15 + 11 * R ≠ 185 + 24 * p + 0 by omega), g85, upd_n (show 12 ≠ 185 + 24 * p + 0 by omega), hS R hR2, hRs]
  rfl
def gsI9 (h0 : zH) (o : Option zR) : Prop := gsV 85 12 (h0.2.1 85 12) o
set_option maxRecDepth 100000 in
theorem gsJ {h0 : zH} (hE : E.1 < 2147483648) (hsm : bSO E ctb B (60, smT)) : ∀ (m : Nat) (s9 i9 : Int32) (h : zH), i9.toInt + (m : Int) = 12 → 0 ≤ i9.toInt → bRQ ctb gsX h0 0 0 h → ∀ d f, 66 ≤ d → B + gvFu 2000000 m ≤ f → gsI9 h0 (zex E f d 283 28 [some (.ref 84), some (.int s9), some (.int i9)] [] h) := by
  intro m
  induction m with
  | zero =>
    intro s9 i9 h hm h9 hr d f hd hf
    have hmul : gvFu 2000000 0 = 2000000 := rfl
    refine segc (V := [i9.toInt, s9.toInt]) (al := [q84, some (.inl (0, [(1, 1)])), some (.inl (0, [(0, 1)]))]) (ls := [some (.ref 84), some (.int s9), some (.int i9)]) (ca := 0) (sa := 0) (nv := 2) (Q := gsI9 h0) hE hsm (fun V S v w h _ _ _ z => nomatch (show false = true from z)) hr (benv_c h9 (by omega) (benv_c (bi32 s9).1 (bi32 s9).2 benv_n)) rfl bcs_n bov_n ⟨⟨_, rfl, rfl⟩, ⟨_, rfl, s9, rfl, brel_v rfl⟩, ⟨_, rfl, i9, rfl, brel_v rfl⟩, trivial⟩ gsE5 (B' := B + 1000000) (by omega) ?_ ?_ d f hd (by omega)
    · intro N hN
      cases hN with
      | head => exact ⟨rfl, rfl, rfl⟩
      | tail _ hN =>
        cases hN with
        | head => exact ⟨rfl, rfl, rfl⟩
        | tail _ hN => exact absurd hN List.not_mem_nil
    · intro N hN ls' h1 k1 k2 k3 d f hd hf
      cases hN with
      | head =>
        have k3 : bcs [i9.toInt, s9.toInt] [(11, [(0, -1)])] := k3
        obtain ⟨y, y1, y2⟩ := k3 _ (List.Mem.head _)
        have y3 : y = 11 + ((-1) * i9.toInt + 0) := brel_x y1
        exact absurd hm (by omega)
      | tail _ hN =>
        cases hN with
        | tail _ hN => exact absurd hN List.not_mem_nil
        | head =>
          have k1 : bLR [i9.toInt, s9.toInt] [q84, some (.inl (0, [(1, 1)])), none] ls' := k1
          obtain ⟨s', u, e1⟩ := gl_2 k1
          rw [e1]
          obtain ⟨n, hn⟩ : ∃ n, f = n + 10 := ⟨f - 10, by omega⟩
          subst hn
          have gT := k2.2.2.1
          exact ⟨_, _, gm_f (E := E) (n := n) (d := d) (h := h1) (s := s') (v := h1.2.1 85 5) (u2 := u) rfl (gT 84 _ (show bg2 ctb 84 = some (.inr (.inl (12, [none, some (some 85), some (some 86), some (some 87), some (some 88), some (some 89), none, none, some (some 90), none, none, none, none, none, none, some (some 91), none, some (some 92), some (some 93)]))) from rfl) (by intro z; cases z)) (gT 85 _ (show bg2 ctb 85 = some (.inl (0, 2475, [])) from rfl) (by intro z; cases z)), by rw [zs_at, upd_n (by decide), k2.2.2.2.1 85 12 (by decide +kernel)]⟩
  | succ m IH =>
    intro s9 i9 h hm h9 hr d f hd hf
    have hmul : gvFu 2000000 (m + 1) = gvFu 2000000 m + 2000000 := rfl
    refine segc (V := [i9.toInt, s9.toInt]) (al := [q84, some (.inl (0, [(1, 1)])), some (.inl (0, [(0, 1)]))]) (ls := [some (.ref 84), some (.int s9), some (.int i9)]) (ca := 0) (sa := 0) (nv := 2) (Q := gsI9 h0) hE hsm (fun V S v w h _ _ _ z => nomatch (show false = true from z)) hr (benv_c h9 (by omega) (benv_c (bi32 s9).1 (bi32 s9).2 benv_n)) rfl bcs_n bov_n ⟨⟨_, rfl, rfl⟩, ⟨_, rfl, s9, rfl, brel_v rfl⟩, ⟨_, rfl, i9, rfl, brel_v rfl⟩, trivial⟩ gsE5 (B' := B + (gvFu 2000000 m + 1000000)) (by omega) ?_ ?_ d f hd (by omega)
    · intro N hN
      cases hN with
      | head => exact ⟨rfl, rfl, rfl⟩
      | tail _ hN =>
        cases hN with
        | head => exact ⟨rfl, rfl, rfl⟩
        | tail _ hN => exact absurd hN List.not_mem_nil
    · intro N hN ls' h1 k1 k2 k3 d f hd hf
      cases hN with
      | head =>
        have k3 : bcs [i9.toInt, s9.toInt] [(11, [(0, -1)])] := k3
        obtain ⟨y, y1, y2⟩ := k3 _ (List.Mem.head _)
        have y3 : y = 11 + ((-1) * i9.toInt + 0) := brel_x y1
        have k1 : bLR [i9.toInt, s9.toInt] [q84, some (.inl (0, [(1, 1)])), some (.inl (1, [(0, 1)]))] ls' := k1
        obtain ⟨s', i', e1, m1, m2⟩ := gl_3 k1
        have m2 : i'.toInt = 1 + (1 * i9.toInt + 0) := m2
        rw [e1]
        exact IH s' i' h1 (by omega) (by omega) k2 d f hd (by omega)
      | tail _ hN =>
        cases hN with
        | tail _ hN => exact absurd hN List.not_mem_nil
        | head =>
          have k1 : bLR [i9.toInt, s9.toInt] [q84, some (.inl (0, [(1, 1)])), none] ls' := k1
          obtain ⟨s', u, e1⟩ := gl_2 k1
          rw [e1]
          obtain ⟨n, hn⟩ : ∃ n, f = n + 10 := ⟨f - 10, by omega⟩
          subst hn
          have gT := k2.2.2.1
          exact ⟨_, _, gm_f (E := E) (n := n) (d := d) (h := h1) (s := s') (v := h1.2.1 85 5) (u2 := u) rfl (gT 84 _ (show bg2 ctb 84 = some (.inr (.inl (12, [none, some (some 85), some (some 86), some (some 87), some (some 88), some (some 89), none, none, some (some 90), none, none, none, none, none, none, some (some 91), none, some (some 92), some (some 93)]))) from rfl) (by intro z; cases z)) (gT 85 _ (show bg2 ctb 85 = some (.inl (0, 2475, [])) from rfl) (by intro z; cases z)), by rw [zs_at, upd_n (by decide), k2.2.2.2.1 85 12 (by decide +kernel)]⟩
set_option maxRecDepth 100000 in
theorem gsmO {σ : hSt} {s : Int32} (hE : E.1 < 2147483648) (hsm : bSO E ctb B (60, smT)) (hW : WF σ) (hB : gvB σ) : ∀ (m i : Nat) (s9 i9 : Int32) (h : zH), i + m = sP σ → i9.toInt = (i : Int) → bHI h → bPS h → bTB ctb h.1 → RMf (h.2.1 85) σ → gvH (h.2.1 85) (gvN σ i) → (∀ r, r < 12 → (h.2.1 85 (15 + 11 * r)).toInt = spt σ r) → h.2.1 85 12 = gsq σ i s → ∀ d f, 72 ≤ d → B + 30000000 + gvFu 7000000 m ≤ f → gsV 85 12 (gsq σ (sP σ) s) (zex E f d 283 4 [some (.ref 84), some (.int s9), some (.int i9)] [] h) := by
  intro m
  have w3 := hW.2.2.1
  induction m with
  | zero =>
    intro i s9 i9 h hm hi gI gP gT hM hH hS hs d f hd hf
    obtain ⟨n, hn⟩ : ∃ n, f = n + 20 := ⟨f - 20, by omega⟩
    obtain ⟨d, hd'⟩ : ∃ d', d = d' + 1 := ⟨d - 1, by omega⟩
    subst hn hd'
    have q84 := gT 84 _ cs84 (by intro z; cases z)
    have q85 := gT 85 _ ks85 (by intro z; cases z)
    have r3 := hM.1.2.2
    have k12 := gvFu_2
    have z := gsJ (E := E) (h0 := h) hE hsm 12 s9 0 h (by decide) (by decide) ⟨gI, gP, gT, fun _ _ _ => rfl, Nat.le_refl _, Nat.le_refl _⟩ (d + 1) (n + 14) (by omega) (by omega)
    rw [show zex E (n + 20) (d + 1) 283 4 [some (.ref 84), some (.int s9), some (.int i9)] [] h = _ from gm_e (E := E) (n := n + 14) (d := d) (h := h) (s := s9) (i := i9) (q := h.2.1 85 2) (by rw [r3, hi]; omega) q84 (mh_people (n := n + 12) (d := d) rfl q84 q85)]
    have hi9 : i = sP σ := by omega
    rw [hi9] at hs
    exact gsV_e hs z
  | succ m IH =>
    intro i s9 i9 h hm hi gI gP gT hM hH hS hs d f hd hf
    have hmul : gvFu 7000000 (m + 1) = gvFu 7000000 m + 7000000 := rfl
    obtain ⟨n, hn⟩ : ∃ n, f = n + 20 := ⟨f - 20, by omega⟩
    obtain ⟨d, hd'⟩ : ∃ d', d = d' + 1 := ⟨d - 1, by omega⟩
    subst hn hd'
    have q84 := gT 84 _ cs84 (by intro z; cases z)
    have q85 := gT 85 _ ks85 (by intro z; cases z)
    have r3 := hM.1.2.2
    have hi8 : i < 8 := by omega
    have zb := gvN_B hB i (by omega) i (by rw [gvN_P]; omega)
    have sp9 : ∀ r, spt (gvN σ i) r = spt σ r := fun r => congrFun (gvN_1 σ i).2.2.1 r
    obtain ⟨x, h1, e1, fr, k1, k2⟩ := gvD (E := E) hE hsm gI gP gT (gvN_M hM i) (gvN_W hW i) (p := i) (by rw [gvN_P]; omega) zb (hH.1 i hi8) hi d (n + 12) (by omega) (by omega)
    obtain ⟨x8, h8, e8, k8⟩ := gsD (E := E) hE hsm gI gP gT (gvN_M hM i) (gvN_W hW i) (p := i) (by rw [gvN_P]; omega) zb (hH.1 i hi8) hi (fun r hr => by rw [sp9]; exact hS r hr) d (n + 12) (by omega) (by omega)
    obtain ⟨v9, h9, c1, c2, ⟨c3, c4⟩, c5, c6, c7, q1, m1, b1⟩ := hsm 282 [sc365] rfl sc365 (List.Mem.head _) (by decide) [i9.toInt, (h.2.1 85 2).toInt] [.ref 84, .int i9] h d (n + 12) (2, 9, 0, 12, 1, 0) rfl (by show 5 ≤ d; omega) (by omega) ⟨rfl, ⟨_, rfl, brel_v rfl⟩, trivial⟩ (benv_c (by omega) (by omega) (benv_c (by omega) (by omega) benv_n)) (bcs_c rfl (by show (0 : Int) ≤ -1 + ((-1) * i9.toInt + (1 * (h.2.1 85 2).toInt + 0)); omega) bcs_n) (fun e he => by
      cases he with
      | head =>
        show brel [i9.toInt, (h.2.1 85 2).toInt] (0, [(1, 1)]) (bvl E h 85 2)
        rw [bvl_n rfl]
        exact brel_v rfl
      | tail _ he => exact absurd he List.not_mem_nil) gI gP gT
    have c1 : zex E (n + 12) d 282 0 [some (.ref 84), some (.int i9), none, none, none, none, none, none, none] [] h = some (.inl v9, h9) := c1
    have z8 := (inl_j c1 e8).2
    obtain ⟨-, zz⟩ := inl_j c1 e1
    rw [← z8] at k8
    subst zz
    rw [show zex E (n + 20) (d + 1) 283 4 [some (.ref 84), some (.int s9), some (.int i9)] [] h = _ from gm_p (E := E) (n := n + 8) (d := d) (h := h) (h1 := h9) (s := s9) (i := i9) (q := h.2.1 85 2) (x := x) (by rw [r3, hi]; omega) q84 (mh_people (n := n + 12) (d := d) rfl q84 q85) e1]
    have f85 : ∀ k, plk k → h9.2.1 85 k = h.2.1 85 k := (FrP_w (by decide +kernel : wF sc365.2.1 lP = true) c5).2.2.2.2
    refine IH (i + 1) (s9 + x) (i9 + 1) h9 (by omega) (by rw [i32_add (by rw [hi, int1]; omega) (by rw [hi, int1]; omega), hi, int1]; omega) c2 c3 c4 (RMf_p hM hW f85) ⟨fun q hq => ?_, fun kw q hq => ?_⟩ (fun r hr => by rw [fr _ (by omega) (gv_bp r hr) (by omega) (by omega)]; exact hS r hr) (k8.trans (by rw [hs]; rfl)) (d + 1) (n + 8) (by omega) (by omega)
    · show (h9.2.1 85 (185 + 24 * q)).toInt = (if q = i then (if spl (gvN σ i) i + 1 < (ssl (gvN σ i) i : Int) then spl (gvN σ i) i + 1 else 0) else spl (gvN σ i) q)
      by_cases z : q = i
      · rw [z, if_pos rfl]; exact k1
      · rw [if_neg z, fr _ (by omega) (gv_bu q hq).2.2.2.1 (by omega) (by omega)]; exact hH.1 q hq
    · show (h9.2.1 85 (187 + 24 * q)).toInt = (if q = i then (if 1 ≤ swt (gvN σ i) i then swt (gvN σ i) i - 1 else 0) else swt (gvN σ i) q)
      by_cases z : q = i
      · rw [z, if_pos rfl, ← hH.2 kw i hi8]; exact k2
      · rw [if_neg z, fr _ (by omega) (gv_bu q hq).2.2.2.2.1 (by omega) (by omega)]; exact hH.2 kw q hq
set_option maxRecDepth 100000 in
theorem gsY {σ : hSt} {h : zH} (hE : E.1 < 2147483648) (hsm : bSO E ctb B (60, smT)) (hW : WF σ) (hB : gvB σ) (gI : bHI h) (gP : bPS h) (gT : bTB ctb h.1) (hM : RMf (h.2.1 85) σ) (hH : gvH (h.2.1 85) σ) (hS : ∀ r, r < 12 → (h.2.1 85 (15 + 11 * r)).toInt = spt σ r) : ∀ d f, 72 ≤ d → B + 94000000 ≤ f → gsV 85 12 (gsq σ (sP σ) (h.2.1 85 12)) (zex E f d 283 0 [some (.ref 84), none, none] [] h) := by
  intro d f hd hf
  have w3 := hW.2.2.1
  have k4 := gvFu_7 (sP σ) (by omega)
  obtain ⟨n, hn⟩ : ∃ n, f = n + 4 := ⟨f - 4, by omega⟩
  subst hn
  rw [show zex E (n + 4) d 283 0 [some (.ref 84), none, none] [] h = _ from gm_0 (E := E) (n := n) (d := d) (h := h)]
  exact gsmO (E := E) hE hsm hW hB (sP σ) 0 0 0 h (by omega) rfl gI gP gT hM hH hS rfl d n hd (by omega)
end GS
section GT
variable {E : zE} {B : Nat} {h : zH} {σ : hSt}
set_option maxRecDepth 100000 in
theorem cdSL (hE : E.1 < 2147483648) (hsm : bSO E ctb B (60, smT)) {k9 : Int32} (hk : k9.toInt ≤ 100) : ∀ (m j : Nat) (s9 j9 : Int32) (h : zH) (σ : hSt), m + j = 100 → j9.toInt = (j : Int) → bHI h → bPS h → bTB ctb h.1 → RC h 4 18 σ → WF σ → gvB σ → ∀ d f, 72 ≤ d → B + gvFu 100000000 m ≤ f → ∃ (x : Int32) (h2 : zH), zex E f d 50 26 [some (.ref 0), some (.int k9), some (.int s9), some (.int j9)] [] h = some (.inl (some (.int x)), h2) ∧ h2.2.1 18 12 = gsr (k9.toInt - (j : Int)).toNat σ (h.2.1 18 12) ∧ bTB ctb h2.1 := by
  intro m
  induction m with
  | zero =>
    intro j s9 j9 h σ hm hj gI gP gT hR hW hB d f hd hf
    have hz0 : gvFu 100000000 0 = 100000000 := rfl
    obtain ⟨n, hn9⟩ : ∃ n, f = n + 5 := ⟨f - 5, by omega⟩
    subst hn9
    have z : (k9.toInt - (j : Int)).toNat = 0 := by omega
    rw [z]
    exact ⟨s9, h, qa_e (n := n) (d := d) (by omega), rfl, gT⟩
  | succ m IH =>
    intro j s9 j9 h σ hm hj gI gP gT hR hW hB d f hd hf
    have hmul : gvFu 100000000 (m + 1) = gvFu 100000000 m + 100000000 := rfl
    by_cases hjk : j9.toInt < k9.toInt
    · obtain ⟨d', hd'⟩ : ∃ d', d = d' + 1 := ⟨d - 1, by omega⟩
      obtain ⟨n, hn9⟩ : ∃ n, f = n + 15 := ⟨f - 15, by omega⟩
      subst hd' hn9
      obtain ⟨v, h1, c1, c2, ⟨c3, c4⟩, c5, c6, c7, q1, m1, b1⟩ := hsm 117 [sc69, sc70] rfl sc70 (List.Mem.tail _ (List.Mem.head _)) (by decide) [] [.ref 3, .ref 18, .ref 25] h d' (n + 4) (3, 5, 0, 2, 1, 0) rfl (by show 3 ≤ d'; omega) (by omega) ⟨rfl, rfl, rfl, trivial⟩ benv_n bcs_n (fun e he => absurd he List.not_mem_nil) gI gP gT
      have c1 : zex E (n + 4) d' 117 0 [some (.ref 3), some (.ref 18), some (.ref 25), none, none] [] h = some (.inl v, h1) := c1
      obtain ⟨y, h9, e9, hR9, h10⟩ := gvG (E := E) hE hsm hW hB gI gP gT hR d' (n + 4) (by omega) (by omega)
      obtain ⟨y8, h8, e8, k8⟩ := gsG (E := E) hE hsm hW hB gI gP gT hR d' (n + 4) (by omega) (by omega)
      have zz := (inl_j c1 e9).2
      have z8 := (inl_j c1 e8).2
      rw [← zz] at e9 hR9
      rw [← z8] at k8
      obtain ⟨x, h2, e2, t1, t3⟩ := IH (j + 1) (s9 + y) (j9 + 1) h1 (gvR1 σ) (by omega) (by rw [i32_add (by rw [hj, int1]; omega) (by rw [hj, int1]; omega), hj, int1]; omega) c2 c3 c4 hR9 (gvN_W hW _) (gvN_B hB _ (Nat.le_refl _)) (d' + 1) n (by omega) (by omega)
      have z : (k9.toInt - (j : Int)).toNat = (k9.toInt - ((j + 1 : Nat) : Int)).toNat + 1 := by omega
      rw [z]
      exact ⟨x, h2, (qa_l (n := n) (d := d') (h := h) (h1 := h1) hjk (gT 0 _ (show bg2 ctb 0 = some (.inr (.inl (11, [some (some 1), some (some 3), some (some 18), some (some 25), some (some 27), some (some 30), some (some 53), some (some 62), some (some 76), none]))) from rfl) (by intro z; cases z)) (gT 3 _ (show bg2 ctb 3 = some (.inr (.inl (2, [some (some 4), some (some 10), some (some 17)]))) from rfl) (by intro z; cases z)) e9).trans e2, by rw [t1, k8]; rfl, t3⟩
    · obtain ⟨n, hn9⟩ : ∃ n, f = n + 5 := ⟨f - 5, by omega⟩
      subst hn9
      have z : (k9.toInt - (j : Int)).toNat = 0 := by omega
      rw [z]
      exact ⟨s9, h, qa_e (n := n) (d := d) (by omega), rfl, gT⟩
def csQ (c : Prop) (k9 : Int32) (σ : hSt) (h : zH) (o : Option zR) : Prop := ∃ (x : Int32) (h1 : zH), o = some (.inl (some (.int x)), h1) ∧ (c → h1.2.1 18 12 = gsr k9.toInt.toNat σ (h.2.1 18 12))
set_option maxRecDepth 100000 in
theorem cdSo (hE : E.1 < 2147483648) (hsm : bSO E ctb B (60, smT)) (gI : bHI h) (gP : bPS h) (gT : bTB ctb h.1) (hA : paQ h) (hR : RC h 4 18 σ) (hW : WF σ) (hB : gvB σ) {k9 : Int32} : ∀ d f, 90 ≤ d → B + 20000000000 ≤ f → csQ (1 ≤ k9.toInt ∧ k9.toInt ≤ 100) k9 σ h (zex E f d 9 0 [some (.ref 0), some (.int k9), some (.ref 94), none] [] h) := by
  intro d f hd hf
  obtain ⟨n, hn⟩ : ∃ n, f = n + 10000 := ⟨f - 10000, by omega⟩
  obtain ⟨d, hd'⟩ : ∃ d', d = d' + 4 := ⟨d - 4, by omega⟩
  subst hn hd'
  have r1 := hR.1.1
  have r3 := hR.1.2.2
  have w1 := hW.1
  have w3 := hW.2.2.1
  unfold csQ
  by_cases hp : 1 ≤ k9.toInt ∧ k9.toInt ≤ 100
  · skip
    obtain ⟨h1, e1, r1q, s1, a1⟩ := remR (E := E) hE hsm gI gP gT hA (d + 2) (n + 9984) (by omega) (by omega)
    obtain ⟨n9, hn9, hn12, kx⟩ := rememX (E := E) gI gP hA
    obtain ⟨hx9, ex9, kx1, kx2, kx3⟩ := kx (d + 2) (n + 9984) (by omega) (by omega)
    obtain ⟨-, yx9⟩ := inl_j e1 ex9
    rw [← yx9] at kx1 kx2 kx3
    have kc : ∀ c, c < 27 → ∀ k, h1.2.1 c k = h.2.1 c k := fun c hc k => by rw [kx3 c (by omega) (by omega)]
    have hR1 : RC h1 4 18 σ := RC_eqv hR (fun k _ => kc 4 (by decide) k) (fun k => kc 7 (by decide) k) (fun k => kc 8 (by decide) k) (fun k => kc 9 (by decide) k) (fun k => kc 19 (by decide) k) (fun k => kc 20 (by decide) k) (fun k => kc 21 (by decide) k) (fun k => kc 22 (by decide) k)
    have e2 := qa_0 (E := E) (n := n + 9984) (d := d + 2) (h := h) (h1 := h1) (u2 := none) (u3 := none) (gT 0 _ (show bg2 ctb 0 = some (.inr (.inl (11, [some (some 1), some (some 3), some (some 18), some (some 25), some (some 27), some (some 30), some (some 53), some (some 62), some (some 76), none]))) from rfl) (by intro z; cases z)) (gT 27 _ (show bg2 ctb 27 = some (.inr (.inl (7, [some (some 28), some (some 29), none, none]))) from rfl) (by intro z; cases z)) (ny_0 (E := E) (n := n + 9984) (d := d + 2) (x := k9) (a := 1) (b := 100) (by rw [show (1 : Int32).toInt = 1 from by decide]; omega) (by rw [show (100 : Int32).toInt = 100 from by decide]; omega)) e1
    have k1 := gvFu_1
    obtain ⟨x, h2, e3, t1, g3T⟩ := cdSL (E := E) hE hsm (k9 := k9) (by omega) 100 0 0 0 h1 σ rfl rfl r1q.1 r1q.2.1 r1q.2.2.1 hR1 hW hB (d + 3) (n + 9980) (by omega) (by omega)
    have e3 := (qa_h (E := E) (n := n + 9980) (d := d + 3) (u2 := none) (u3 := none)).trans e3
    have g2T := g3T
    have e4 := qa_w (E := E) (n := n + 9990) (d := d + 3) (u9 := none) (h := h) (h1 := h2) (gT 0 _ (show bg2 ctb 0 = some (.inr (.inl (11, [some (some 1), some (some 3), some (some 18), some (some 25), some (some 27), some (some 30), some (some 53), some (some 62), some (some 76), none]))) from rfl) (by intro z; cases z)) (g2T 94 _ (show bg2 ctb 94 = some (.inl (2, 1, [])) from rfl) (by intro z; cases z)) (e2.trans e3)
    rw [show (k9.toInt - ((0 : Nat) : Int)).toNat = k9.toInt.toNat by omega] at t1
    exact ⟨0, _, e4, fun _ => (show h2.2.1 18 12 = _ from t1.trans (by rw [kc 18 (by decide) 12]))⟩
  · skip
    by_cases hl : k9.toInt < 1
    · exact ⟨_, _, qa_y (E := E) (n := n + 9992) (d := d + 3) (u9 := none) (h := h) (gT 0 _ (show bg2 ctb 0 = some (.inr (.inl (11, [some (some 1), some (some 3), some (some 18), some (some 25), some (some 27), some (some 30), some (some 53), some (some 62), some (some 76), none]))) from rfl) (by intro z; cases z)) (qa_t (E := E) (n := n + 9991) (d := d + 2) (u2 := none) (u3 := none)   (ny_1 (E := E) (n := n + 9987) (d := d + 2) (x := k9) (a := 1) (b := 100) (by rw [show (1 : Int32).toInt = 1 from by decide]; omega))), fun z => absurd z hp⟩
    · exact ⟨_, _, qa_y (E := E) (n := n + 9992) (d := d + 3) (u9 := none) (h := h) (gT 0 _ (show bg2 ctb 0 = some (.inr (.inl (11, [some (some 1), some (some 3), some (some 18), some (some 25), some (some 27), some (some 30), some (some 53), some (some 62), some (some 76), none]))) from rfl) (by intro z; cases z)) (qa_t (E := E) (n := n + 9991) (d := d + 2) (u2 := none) (u3 := none)   (ny_2 (E := E) (n := n + 9984) (d := d + 2) (x := k9) (a := 1) (b := 100) (by rw [show (1 : Int32).toInt = 1 from by decide]; omega) (by rw [show (100 : Int32).toInt = 100 from by decide]; omega))), fun z => absurd z hp⟩
set_option maxRecDepth 100000 in
theorem mdSL (hE : E.1 < 2147483648) (hsm : bSO E ctb B (60, smT)) {k9 : Int32} (hk : k9.toInt ≤ 100) : ∀ (m j : Nat) (s9 j9 : Int32) (h : zH) (σ : hSt), m + j = 100 → j9.toInt = (j : Int) → bHI h → bPS h → bTB ctb h.1 → RMf (h.2.1 85) σ → WF σ → gvB σ → gvH (h.2.1 85) σ → (∀ r, r < 12 → (h.2.1 85 (15 + 11 * r)).toInt = spt σ r) → ∀ d f, 74 ≤ d → B + gvFu 100000000 m ≤ f → ∃ (x : Int32) (h2 : zH), zex E f d 284 38 [some (.ref 84), some (.int k9), some (.int s9), some (.int j9)] [] h = some (.inl (some (.int x)), h2) ∧ h2.2.1 85 12 = gsr (k9.toInt - (j : Int)).toNat σ (h.2.1 85 12) := by
  intro m
  induction m with
  | zero =>
    intro j s9 j9 h σ hm hj gI gP gT hM hW hB hH hS d f hd hf
    have hz0 : gvFu 100000000 0 = 100000000 := rfl
    obtain ⟨n, hn9⟩ : ∃ n, f = n + 5 := ⟨f - 5, by omega⟩
    subst hn9
    have z : (k9.toInt - (j : Int)).toNat = 0 := by omega
    rw [z]
    exact ⟨s9, h, ro_e (n := n) (d := d) (by omega), rfl⟩
  | succ m IH =>
    intro j s9 j9 h σ hm hj gI gP gT hM hW hB hH hS d f hd hf
    have hmul : gvFu 100000000 (m + 1) = gvFu 100000000 m + 100000000 := rfl
    by_cases hjk : j9.toInt < k9.toInt
    · obtain ⟨d', hd'⟩ : ∃ d', d = d' + 1 := ⟨d - 1, by omega⟩
      obtain ⟨n, hn9⟩ : ∃ n, f = n + 10 := ⟨f - 10, by omega⟩
      subst hd' hn9
      obtain ⟨v, h1, c1, c2, ⟨c3, c4⟩, c5, c6, c7, q1, m1, b1⟩ := hsm 283 [sc366] rfl sc366 (List.Mem.head _) (by decide) [] [.ref 84] h d' (n + 4) (1, 3, 0, 12, 1, 0) rfl (by show 6 ≤ d'; omega) (by omega) ⟨rfl, trivial⟩ benv_n bcs_n (fun e he => absurd he List.not_mem_nil) gI gP gT
      have c1 : zex E (n + 4) d' 283 0 [some (.ref 84), none, none] [] h = some (.inl v, h1) := c1
      obtain ⟨y, h9, e9, hH9, hK9, h59⟩ := gvY (E := E) (f0 := h.2.1 85) hE hsm hW hB gI gP gT hM hH (fun _ _ _ _ _ => rfl) d' (n + 4) (by omega) (by omega)
      obtain ⟨y8, h8, e8, k8⟩ := gsY (E := E) hE hsm hW hB gI gP gT hM hH hS d' (n + 4) (by omega) (by omega)
      have zz := (inl_j c1 e9).2
      have z8 := (inl_j c1 e8).2
      rw [← zz] at e9 hH9 hK9
      rw [← z8] at k8
      have f85 : ∀ k, plk k → h1.2.1 85 k = h.2.1 85 k := (FrP_w w366P9 c5).2.2.2.2
      have sp9 : ∀ r, spt (gvR1 σ) r = spt σ r := fun r => congrFun (gvN_1 σ (sP σ)).2.2.1 r
      obtain ⟨x, h2, e2, t1⟩ := IH (j + 1) (s9 + y) (j9 + 1) h1 (gvR1 σ) (by omega) (by rw [i32_add (by rw [hj, int1]; omega) (by rw [hj, int1]; omega), hj, int1]; omega) c2 c3 c4 (gvN_M (RMf_p hM hW f85) _) (gvN_W hW _) (gvN_B hB _ (Nat.le_refl _)) hH9 (fun r hr => by rw [hK9 _ (by omega) (gv_bp r hr) (fun q hq => by omega) (by omega), sp9]; exact hS r hr) (d' + 1) n (by omega) (by omega)
      have z : (k9.toInt - (j : Int)).toNat = (k9.toInt - ((j + 1 : Nat) : Int)).toNat + 1 := by omega
      rw [z]
      exact ⟨x, h2, (ro_l (n := n) (d := d') (h := h) (h1 := h1) hjk (gT 84 _ cs84 (by intro z; cases z)) e9).trans e2, by rw [t1, k8]; rfl⟩
    · obtain ⟨n, hn9⟩ : ∃ n, f = n + 5 := ⟨f - 5, by omega⟩
      subst hn9
      have z : (k9.toInt - (j : Int)).toNat = 0 := by omega
      rw [z]
      exact ⟨s9, h, ro_e (n := n) (d := d) (by omega), rfl⟩
def msQ (c : Prop) (k9 : Int32) (σ : hSt) (h : zH) (o : Option zR) : Prop := ∃ (x : Int32) (h1 : zH), o = some (.inl (some (.int x)), h1) ∧ (c → h1.2.1 85 12 = gsr k9.toInt.toNat σ (h.2.1 85 12))
set_option maxRecDepth 100000 in
theorem mdSo (hE : E.1 < 2147483648) (hsm : bSO E ctb B (60, smT)) (gI : bHI h) (gP : bPS h) (gT : bTB ctb h.1) (hM : RM h σ) (hW : WF σ) (hB : gvB σ) (hH : gvH (h.2.1 85) σ) (hS : ∀ r, r < 12 → (h.2.1 85 (15 + 11 * r)).toInt = spt σ r) {k9 : Int32} : ∀ d f, 90 ≤ d → B + 20000000000 ≤ f → msQ (1 ≤ k9.toInt ∧ k9.toInt ≤ 100) k9 σ h (zex E f d 284 0 [some (.ref 84), some (.int k9), none, none] [] h) := by
  intro d f hd hf
  obtain ⟨n, hn⟩ : ∃ n, f = n + 2000 := ⟨f - 2000, by omega⟩
  obtain ⟨d, hd'⟩ : ∃ d', d = d' + 4 := ⟨d - 4, by omega⟩
  subst hn hd'
  have w1 := hW.1
  have w3 := hW.2.2.1
  obtain ⟨g, hg, t1, t2, t3, gM, g7⟩ := mz_q gI gP gT hM
  have H0 := ja_0 (E := E) (n := n + 1987) (d := d + 3) (h := h)  (k := k9) (u2 := none) (u3 := none)
  rw [← hg] at H0
  have Ht := fun {h1 : zH} => ja_t (E := E) (n := n + 1984) (d := d + 3) (h := h) (h1 := h1) (k := k9) (u2 := none) (u3 := none)
  rw [← hg] at Ht
  unfold msQ
  by_cases hp : 1 ≤ k9.toInt ∧ k9.toInt ≤ 100
  · skip
    have e2 := H0 (gT 84 _ cs84 (by intro z; cases z)) ((mz_n (E := E) (h := g) (x := k9) (a := 1) (b := 100) (d + 3) (n + 1992) (by omega)).trans (by rw [if_pos (by rw [show (1 : Int32).toInt = 1 from by decide, show (100 : Int32).toInt = 100 from by decide]; omega)])) (mt_0 (n := n + 1984))
    obtain ⟨h2, e3, i2, p2, q2, s2, -, o2, -⟩ := rm9 (E := E) t1 t2 t3 (d + 3) (n + 1985) (by omega)
    have f5 : h2.2.1 85 = h.2.1 85 := funext fun k => by rw [o2 85 (by decide) (by decide), hg, zs_ne (by decide)]
    have k1 := gvFu_1
    obtain ⟨x, h3, e4, s4⟩ := mdSL (E := E) hE hsm (k9 := k9) (by omega) 100 0 0 0 h2 σ rfl rfl i2 p2 q2 (by rw [f5]; exact hM) hW hB (by rw [f5]; exact hH) (by rw [f5]; exact hS) (d + 4) (n + 1981) (by omega) (by omega)
    rw [show (k9.toInt - ((0 : Nat) : Int)).toNat = k9.toInt.toNat by omega] at s4
    rw [f5] at s4
    exact ⟨x, h3, e2.trans ((ro_r (n := n + 1981) (d := d + 3) (t3 84 _ cs84 (by intro z; cases z)) e3).trans e4), fun _ => s4⟩
  · skip
    exact ⟨0, _, Ht (gT 84 _ cs84 (by intro z; cases z))  ((mz_n (E := E) (h := g) (x := k9) (a := 1) (b := 100) (d + 3) (n + 1992) (by omega)).trans (by rw [if_neg (by rw [show (1 : Int32).toInt = 1 from by decide, show (100 : Int32).toInt = 100 from by decide]; omega)])) (mt_1 (n := n + 1980) (y := 1) (t3 84 _ cs84 (by intro z; cases z))), fun z => absurd z hp⟩
end GT
