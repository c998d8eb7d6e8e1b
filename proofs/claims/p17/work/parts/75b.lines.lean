/-! the model's reader of THE HOUSE: which line, all lines (wip/zab2/c/geng23.py) -/
set_option maxRecDepth 100000 in
theorem zfw263_0 : zfetch 263 0 = some (.aload_n 0, 1, (0, 0, 0), 0, 0) := by decide +kernel
set_option maxRecDepth 100000 in
theorem zfw263_1 : zfetch 263 1 = some (.invokevirtual 109, 3, (0, 236, 0), 0, 1723) := by decide +kernel
set_option maxRecDepth 100000 in
theorem zfw263_4 : zfetch 263 4 = some (.iload_n 2, 1, (0, 0, 0), 0, 0) := by decide +kernel
set_option maxRecDepth 100000 in
theorem zfw263_5 : zfetch 263 5 = some (.iload_n 1, 1, (0, 0, 0), 0, 0) := by decide +kernel
set_option maxRecDepth 100000 in
theorem zfw263_6 : zfetch 263 6 = some (.ifCond .eq 8, 3, (14, 0, 0), 0, 0) := by decide +kernel
set_option maxRecDepth 100000 in
theorem zfw263_9 : zfetch 263 9 = some (.bipush 14, 2, (0, 0, 0), 14, 0) := by decide +kernel
set_option maxRecDepth 100000 in
theorem zfw263_11 : zfetch 263 11 = some (.goto 5, 3, (16, 0, 0), 0, 0) := by decide +kernel
set_option maxRecDepth 100000 in
theorem zfw263_16 : zfetch 263 16 = some (.if_icmp .ge 29, 3, (45, 0, 0), 0, 0) := by decide +kernel
set_option maxRecDepth 100000 in
theorem zfw263_45 : zfetch 263 45 = some (.iconst 0, 1, (0, 0, 0), 0, 0) := by decide +kernel
set_option maxRecDepth 100000 in
theorem zfw263_46 : zfetch 263 46 = some (.ireturn, 1, (0, 0, 0), 0, 0) := by decide +kernel
set_option maxRecDepth 100000 in
theorem zfw263_19 : zfetch 263 19 = some (.iload_n 1, 1, (0, 0, 0), 0, 0) := by decide +kernel
set_option maxRecDepth 100000 in
theorem zfw263_20 : zfetch 263 20 = some (.ifCond .eq 13, 3, (33, 0, 0), 0, 0) := by decide +kernel
set_option maxRecDepth 100000 in
theorem zfw263_23 : zfetch 263 23 = some (.aload_n 0, 1, (0, 0, 0), 0, 0) := by decide +kernel
set_option maxRecDepth 100000 in
theorem zfw263_24 : zfetch 263 24 = some (.invokevirtual 255, 3, (0, 254, 0), 0, 1727) := by decide +kernel
set_option maxRecDepth 100000 in
theorem zfw263_27 : zfetch 263 27 = some (.ifCond .eq 18, 3, (45, 0, 0), 0, 0) := by decide +kernel
set_option maxRecDepth 100000 in
theorem zfw263_30 : zfetch 263 30 = some (.goto 11, 3, (41, 0, 0), 0, 0) := by decide +kernel
set_option maxRecDepth 100000 in
theorem zfw263_41 : zfetch 263 41 = some (.iconst 1, 1, (0, 0, 0), 1, 0) := by decide +kernel
set_option maxRecDepth 100000 in
theorem zfw263_42 : zfetch 263 42 = some (.goto 4, 3, (46, 0, 0), 0, 0) := by decide +kernel
set_option maxRecDepth 100000 in
theorem zfw244_0 : zfetch 244 0 = some (.aload_n 0, 1, (0, 0, 0), 0, 0) := by decide +kernel
set_option maxRecDepth 100000 in
theorem zfw244_1 : zfetch 244 1 = some (.iconst 0, 1, (0, 0, 0), 0, 0) := by decide +kernel
set_option maxRecDepth 100000 in
theorem zfw244_2 : zfetch 244 2 = some (.putfield 3, 3, (12, 0, 0), 0, 1617) := by decide +kernel
set_option maxRecDepth 100000 in
theorem zfw244_5 : zfetch 244 5 = some (.aload_n 0, 1, (0, 0, 0), 0, 0) := by decide +kernel
set_option maxRecDepth 100000 in
theorem zfw244_6 : zfetch 244 6 = some (.aload_n 0, 1, (0, 0, 0), 0, 0) := by decide +kernel
set_option maxRecDepth 100000 in
theorem zfw244_7 : zfetch 244 7 = some (.getfield 81, 3, (12, 9, 0), 0, 1626) := by decide +kernel
set_option maxRecDepth 100000 in
theorem zfw244_10 : zfetch 244 10 = some (.putfield 87, 3, (12, 11, 0), 0, 1628) := by decide +kernel
set_option maxRecDepth 100000 in
theorem zfw244_13 : zfetch 244 13 = some (.aload_n 0, 1, (0, 0, 0), 0, 0) := by decide +kernel
set_option maxRecDepth 100000 in
theorem zfw244_14 : zfetch 244 14 = some (.iconst 0, 1, (0, 0, 0), 0, 0) := by decide +kernel
set_option maxRecDepth 100000 in
theorem zfw244_15 : zfetch 244 15 = some (.putfield 81, 3, (12, 9, 0), 0, 1626) := by decide +kernel
set_option maxRecDepth 100000 in
theorem zfw244_18 : zfetch 244 18 = some (.aload_n 0, 1, (0, 0, 0), 0, 0) := by decide +kernel
set_option maxRecDepth 100000 in
theorem zfw244_19 : zfetch 244 19 = some (.iconst 0, 1, (0, 0, 0), 0, 0) := by decide +kernel
set_option maxRecDepth 100000 in
theorem zfw244_20 : zfetch 244 20 = some (.putfield 84, 3, (12, 10, 0), 0, 1627) := by decide +kernel
set_option maxRecDepth 100000 in
theorem zfw244_23 : zfetch 244 23 = some (.return_, 1, (0, 0, 0), 0, 0) := by decide +kernel
set_option maxRecDepth 100000 in
theorem zfw264_0 : zfetch 264 0 = some (.aload_n 0, 1, (0, 0, 0), 0, 0) := by decide +kernel
set_option maxRecDepth 100000 in
theorem zfw264_1 : zfetch 264 1 = some (.invokevirtual 261, 3, (0, 244, 0), 0, 1707) := by decide +kernel
set_option maxRecDepth 100000 in
theorem zfw264_4 : zfetch 264 4 = some (.aload_n 0, 1, (0, 0, 0), 0, 0) := by decide +kernel
set_option maxRecDepth 100000 in
theorem zfw264_5 : zfetch 264 5 = some (.iconst 0, 1, (0, 0, 0), 0, 0) := by decide +kernel
set_option maxRecDepth 100000 in
theorem zfw264_6 : zfetch 264 6 = some (.putfield 198, 3, (12, 16, 0), 0, 1633) := by decide +kernel
set_option maxRecDepth 100000 in
theorem zfw264_9 : zfetch 264 9 = some (.aload_n 0, 1, (0, 0, 0), 0, 0) := by decide +kernel
set_option maxRecDepth 100000 in
theorem zfw264_10 : zfetch 264 10 = some (.invokevirtual 97, 3, (0, 235, 0), 0, 1711) := by decide +kernel
set_option maxRecDepth 100000 in
theorem zfw264_13 : zfetch 264 13 = some (.aload_n 0, 1, (0, 0, 0), 0, 0) := by decide +kernel
set_option maxRecDepth 100000 in
theorem zfw264_14 : zfetch 264 14 = some (.getfield 84, 3, (12, 10, 0), 0, 1627) := by decide +kernel
set_option maxRecDepth 100000 in
theorem zfw264_17 : zfetch 264 17 = some (.aload_n 0, 1, (0, 0, 0), 0, 0) := by decide +kernel
set_option maxRecDepth 100000 in
theorem zfw264_18 : zfetch 264 18 = some (.getfield 87, 3, (12, 11, 0), 0, 1628) := by decide +kernel
set_option maxRecDepth 100000 in
theorem zfw264_21 : zfetch 264 21 = some (.if_icmp .ne 5, 3, (26, 0, 0), 0, 0) := by decide +kernel
set_option maxRecDepth 100000 in
theorem zfw264_24 : zfetch 264 24 = some (.iconst 0, 1, (0, 0, 0), 0, 0) := by decide +kernel
set_option maxRecDepth 100000 in
theorem zfw264_25 : zfetch 264 25 = some (.ireturn, 1, (0, 0, 0), 0, 0) := by decide +kernel
set_option maxRecDepth 100000 in
theorem zfw264_26 : zfetch 264 26 = some (.iconst 0, 1, (0, 0, 0), 0, 0) := by decide +kernel
set_option maxRecDepth 100000 in
theorem zfw264_27 : zfetch 264 27 = some (.istore_n 2, 1, (0, 0, 0), 0, 0) := by decide +kernel
set_option maxRecDepth 100000 in
theorem zfw264_28 : zfetch 264 28 = some (.aload_n 0, 1, (0, 0, 0), 0, 0) := by decide +kernel
set_option maxRecDepth 100000 in
theorem zfw264_29 : zfetch 264 29 = some (.iload_n 1, 1, (0, 0, 0), 0, 0) := by decide +kernel
set_option maxRecDepth 100000 in
theorem zfw264_30 : zfetch 264 30 = some (.iload_n 2, 1, (0, 0, 0), 0, 0) := by decide +kernel
set_option maxRecDepth 100000 in
theorem zfw264_31 : zfetch 264 31 = some (.invokevirtual 264, 3, (0, 263, 0), 0, 1719) := by decide +kernel
set_option maxRecDepth 100000 in
theorem zfw264_34 : zfetch 264 34 = some (.ifCond .ne 5, 3, (39, 0, 0), 0, 0) := by decide +kernel
set_option maxRecDepth 100000 in
theorem zfw264_37 : zfetch 264 37 = some (.iconst (-1), 1, (0, 0, 0), (-1), 0) := by decide +kernel
set_option maxRecDepth 100000 in
theorem zfw264_38 : zfetch 264 38 = some (.ireturn, 1, (0, 0, 0), 0, 0) := by decide +kernel
set_option maxRecDepth 100000 in
theorem zfw264_39 : zfetch 264 39 = some (.aload_n 0, 1, (0, 0, 0), 0, 0) := by decide +kernel
set_option maxRecDepth 100000 in
theorem zfw264_40 : zfetch 264 40 = some (.invokevirtual 97, 3, (0, 235, 0), 0, 1711) := by decide +kernel
set_option maxRecDepth 100000 in
theorem zfw264_43 : zfetch 264 43 = some (.aload_n 0, 1, (0, 0, 0), 0, 0) := by decide +kernel
set_option maxRecDepth 100000 in
theorem zfw264_44 : zfetch 264 44 = some (.getfield 84, 3, (12, 10, 0), 0, 1627) := by decide +kernel
set_option maxRecDepth 100000 in
theorem zfw264_47 : zfetch 264 47 = some (.aload_n 0, 1, (0, 0, 0), 0, 0) := by decide +kernel
set_option maxRecDepth 100000 in
theorem zfw264_48 : zfetch 264 48 = some (.getfield 87, 3, (12, 11, 0), 0, 1628) := by decide +kernel
set_option maxRecDepth 100000 in
theorem zfw264_51 : zfetch 264 51 = some (.if_icmp .ne 7, 3, (58, 0, 0), 0, 0) := by decide +kernel
set_option maxRecDepth 100000 in
theorem zfw264_54 : zfetch 264 54 = some (.iload_n 2, 1, (0, 0, 0), 0, 0) := by decide +kernel
set_option maxRecDepth 100000 in
theorem zfw264_55 : zfetch 264 55 = some (.iconst 1, 1, (0, 0, 0), 1, 0) := by decide +kernel
set_option maxRecDepth 100000 in
theorem zfw264_56 : zfetch 264 56 = some (.iadd, 1, (0, 0, 0), 0, 0) := by decide +kernel
set_option maxRecDepth 100000 in
theorem zfw264_57 : zfetch 264 57 = some (.ireturn, 1, (0, 0, 0), 0, 0) := by decide +kernel
set_option maxRecDepth 100000 in
theorem zfw264_58 : zfetch 264 58 = some (.aload_n 0, 1, (0, 0, 0), 0, 0) := by decide +kernel
set_option maxRecDepth 100000 in
theorem zfw264_59 : zfetch 264 59 = some (.bipush 59, 2, (0, 0, 0), 59, 0) := by decide +kernel
set_option maxRecDepth 100000 in
theorem zfw264_61 : zfetch 264 61 = some (.bipush 59, 2, (0, 0, 0), 59, 0) := by decide +kernel
set_option maxRecDepth 100000 in
theorem zfw264_63 : zfetch 264 63 = some (.invokevirtual 90, 3, (0, 234, 0), 0, 1715) := by decide +kernel
set_option maxRecDepth 100000 in
theorem zfw264_66 : zfetch 264 66 = some (.ifCond .ne 5, 3, (71, 0, 0), 0, 0) := by decide +kernel
set_option maxRecDepth 100000 in
theorem zfw264_69 : zfetch 264 69 = some (.iconst (-1), 1, (0, 0, 0), (-1), 0) := by decide +kernel
set_option maxRecDepth 100000 in
theorem zfw264_70 : zfetch 264 70 = some (.ireturn, 1, (0, 0, 0), 0, 0) := by decide +kernel
set_option maxRecDepth 100000 in
theorem zfw264_71 : zfetch 264 71 = some (.aload_n 0, 1, (0, 0, 0), 0, 0) := by decide +kernel
set_option maxRecDepth 100000 in
theorem zfw264_72 : zfetch 264 72 = some (.dup, 1, (0, 0, 0), 0, 0) := by decide +kernel
set_option maxRecDepth 100000 in
theorem zfw264_73 : zfetch 264 73 = some (.getfield 84, 3, (12, 10, 0), 0, 1627) := by decide +kernel
set_option maxRecDepth 100000 in
theorem zfw264_76 : zfetch 264 76 = some (.iconst 1, 1, (0, 0, 0), 1, 0) := by decide +kernel
set_option maxRecDepth 100000 in
theorem zfw264_77 : zfetch 264 77 = some (.iadd, 1, (0, 0, 0), 0, 0) := by decide +kernel
set_option maxRecDepth 100000 in
theorem zfw264_78 : zfetch 264 78 = some (.putfield 84, 3, (12, 10, 0), 0, 1627) := by decide +kernel
set_option maxRecDepth 100000 in
theorem zfw264_81 : zfetch 264 81 = some (.iinc 2 1, 3, (0, 0, 0), 1, 0) := by decide +kernel
set_option maxRecDepth 100000 in
theorem zfw264_84 : zfetch 264 84 = some (.goto (-56), 3, (28, 0, 0), 0, 0) := by decide +kernel
set_option maxRecDepth 100000 in
theorem znw234 : zat zmi 234 = some (3, 3, 0, 12, 2, 0) := rfl
set_option maxRecDepth 100000 in
theorem znw235 : zat zmi 235 = some (1, 1, 0, 12, 0, 0) := rfl
set_option maxRecDepth 100000 in
theorem znw236 : zat zmi 236 = some (1, 1, 0, 12, 0, 0) := rfl
set_option maxRecDepth 100000 in
theorem znw244 : zat zmi 244 = some (1, 1, 0, 12, 0, 0) := rfl
set_option maxRecDepth 100000 in
theorem znw254 : zat zmi 254 = some (1, 1, 0, 12, 2, 0) := rfl
set_option maxRecDepth 100000 in
theorem znw263 : zat zmi 263 = some (3, 3, 0, 12, 2, 0) := rfl
set_option maxRecDepth 100000 in
theorem rc_0 {E : zE} {n d : Nat} {h h1 : zH} {k : Int32} (hk : (14 : Int32).toInt ≤ k.toInt) (a84 : zat h.1 84 = some (.inr (.inl (12, [none, some (some 85), some (some 86), some (some 87), some (some 88), some (some 89), none, none, some (some 90), none, none, none, none, none, none, some (some 91), none, some (some 92), some (some 93)])))) (e1 : zex E (n + 8) d 236 0 [some (.ref 84)] [] h = some (.inl none, h1)) : zex E (n + 10) (d + 1) 263 0 [some (.ref 84), some (.int 1), some (.int k)] [] h = some (.inl (some (.int 0)), h1) :=
  ((yAn zfw263_0 rfl rfl) : zex E (n + 10) (d + 1) 263 0 [some (.ref 84), some (.int 1), some (.int k)] [] h = zex E (n + 9) (d + 1) 263 1 [some (.ref 84), some (.int 1), some (.int k)] [.ref 84] h).trans (((zcvg (h := h) (as := []) (r := []) zfw263_1 znw236 rfl a84 rfl e1) : zex E (n + 9) (d + 1) 263 1 [some (.ref 84), some (.int 1), some (.int k)] [.ref 84] h = zex E (n + 8) (d + 1) 263 4 [some (.ref 84), some (.int 1), some (.int k)] [] h1).trans (((yIn zfw263_4 rfl) : zex E (n + 8) (d + 1) 263 4 [some (.ref 84), some (.int 1), some (.int k)] [] h1 = zex E (n + 7) (d + 1) 263 5 [some (.ref 84), some (.int 1), some (.int k)] [.int k] h1).trans (((yIn zfw263_5 rfl) : zex E (n + 7) (d + 1) 263 5 [some (.ref 84), some (.int 1), some (.int k)] [.int k] h1 = zex E (n + 6) (d + 1) 263 6 [some (.ref 84), some (.int 1), some (.int k)] [.int 1, .int k] h1).trans (((zjeF zfw263_6 (by decide)) : zex E (n + 6) (d + 1) 263 6 [some (.ref 84), some (.int 1), some (.int k)] [.int 1, .int k] h1 = zex E (n + 5) (d + 1) 263 9 [some (.ref 84), some (.int 1), some (.int k)] [.int k] h1).trans (((yCb zfw263_9) : zex E (n + 5) (d + 1) 263 9 [some (.ref 84), some (.int 1), some (.int k)] [.int k] h1 = zex E (n + 4) (d + 1) 263 11 [some (.ref 84), some (.int 1), some (.int k)] [.int 14, .int k] h1).trans (((yGo zfw263_11) : zex E (n + 4) (d + 1) 263 11 [some (.ref 84), some (.int 1), some (.int k)] [.int 14, .int k] h1 = zex E (n + 3) (d + 1) 263 16 [some (.ref 84), some (.int 1), some (.int k)] [.int 14, .int k] h1).trans (((zkgT zfw263_16 hk) : zex E (n + 3) (d + 1) 263 16 [some (.ref 84), some (.int 1), some (.int k)] [.int 14, .int k] h1 = zex E (n + 2) (d + 1) 263 45 [some (.ref 84), some (.int 1), some (.int k)] [] h1).trans (((yCi zfw263_45) : zex E (n + 2) (d + 1) 263 45 [some (.ref 84), some (.int 1), some (.int k)] [] h1 = zex E (n + 1) (d + 1) 263 46 [some (.ref 84), some (.int 1), some (.int k)] [.int 0] h1).trans (((yRet2 zfw263_46 rfl (Or.inl rfl)) : zex E (n + 1) (d + 1) 263 46 [some (.ref 84), some (.int 1), some (.int k)] [.int 0] h1 = some (.inl (some (.int 0)), h1)))))))))))
set_option maxRecDepth 100000 in
theorem rc_1 {E : zE} {n d : Nat} {h h1 h2 : zH} {k : Int32} (hk : k.toInt < (14 : Int32).toInt) (a84 : zat h.1 84 = some (.inr (.inl (12, [none, some (some 85), some (some 86), some (some 87), some (some 88), some (some 89), none, none, some (some 90), none, none, none, none, none, none, some (some 91), none, some (some 92), some (some 93)])))) (a84_h1 : zat h1.1 84 = some (.inr (.inl (12, [none, some (some 85), some (some 86), some (some 87), some (some 88), some (some 89), none, none, some (some 90), none, none, none, none, none, none, some (some 91), none, some (some 92), some (some 93)])))) (e1 : zex E (n + 15) d 236 0 [some (.ref 84)] [] h = some (.inl none, h1)) (e2 : zex E (n + 5) d 254 0 [some (.ref 84)] [] h1 = some (.inl (some (.int 1)), h2)) : zex E (n + 17) (d + 1) 263 0 [some (.ref 84), some (.int 1), some (.int k)] [] h = some (.inl (some (.int 1)), h2) :=
  ((yAn zfw263_0 rfl rfl) : zex E (n + 17) (d + 1) 263 0 [some (.ref 84), some (.int 1), some (.int k)] [] h = zex E (n + 16) (d + 1) 263 1 [some (.ref 84), some (.int 1), some (.int k)] [.ref 84] h).trans (((zcvg (h := h) (as := []) (r := []) zfw263_1 znw236 rfl a84 rfl e1) : zex E (n + 16) (d + 1) 263 1 [some (.ref 84), some (.int 1), some (.int k)] [.ref 84] h = zex E (n + 15) (d + 1) 263 4 [some (.ref 84), some (.int 1), some (.int k)] [] h1).trans (((yIn zfw263_4 rfl) : zex E (n + 15) (d + 1) 263 4 [some (.ref 84), some (.int 1), some (.int k)] [] h1 = zex E (n + 14) (d + 1) 263 5 [some (.ref 84), some (.int 1), some (.int k)] [.int k] h1).trans (((yIn zfw263_5 rfl) : zex E (n + 14) (d + 1) 263 5 [some (.ref 84), some (.int 1), some (.int k)] [.int k] h1 = zex E (n + 13) (d + 1) 263 6 [some (.ref 84), some (.int 1), some (.int k)] [.int 1, .int k] h1).trans (((zjeF zfw263_6 (by decide)) : zex E (n + 13) (d + 1) 263 6 [some (.ref 84), some (.int 1), some (.int k)] [.int 1, .int k] h1 = zex E (n + 12) (d + 1) 263 9 [some (.ref 84), some (.int 1), some (.int k)] [.int k] h1).trans (((yCb zfw263_9) : zex E (n + 12) (d + 1) 263 9 [some (.ref 84), some (.int 1), some (.int k)] [.int k] h1 = zex E (n + 11) (d + 1) 263 11 [some (.ref 84), some (.int 1), some (.int k)] [.int 14, .int k] h1).trans (((yGo zfw263_11) : zex E (n + 11) (d + 1) 263 11 [some (.ref 84), some (.int 1), some (.int k)] [.int 14, .int k] h1 = zex E (n + 10) (d + 1) 263 16 [some (.ref 84), some (.int 1), some (.int k)] [.int 14, .int k] h1).trans (((zkgF zfw263_16 hk) : zex E (n + 10) (d + 1) 263 16 [some (.ref 84), some (.int 1), some (.int k)] [.int 14, .int k] h1 = zex E (n + 9) (d + 1) 263 19 [some (.ref 84), some (.int 1), some (.int k)] [] h1).trans (((yIn zfw263_19 rfl) : zex E (n + 9) (d + 1) 263 19 [some (.ref 84), some (.int 1), some (.int k)] [] h1 = zex E (n + 8) (d + 1) 263 20 [some (.ref 84), some (.int 1), some (.int k)] [.int 1] h1).trans (((zjeF zfw263_20 (by decide)) : zex E (n + 8) (d + 1) 263 20 [some (.ref 84), some (.int 1), some (.int k)] [.int 1] h1 = zex E (n + 7) (d + 1) 263 23 [some (.ref 84), some (.int 1), some (.int k)] [] h1).trans (((yAn zfw263_23 rfl rfl) : zex E (n + 7) (d + 1) 263 23 [some (.ref 84), some (.int 1), some (.int k)] [] h1 = zex E (n + 6) (d + 1) 263 24 [some (.ref 84), some (.int 1), some (.int k)] [.ref 84] h1).trans (((zcvg (h := h1) (as := []) (r := []) zfw263_24 znw254 rfl a84_h1 rfl e2) : zex E (n + 6) (d + 1) 263 24 [some (.ref 84), some (.int 1), some (.int k)] [.ref 84] h1 = zex E (n + 5) (d + 1) 263 27 [some (.ref 84), some (.int 1), some (.int k)] [.int 1] h2).trans (((zjeF zfw263_27 (by decide)) : zex E (n + 5) (d + 1) 263 27 [some (.ref 84), some (.int 1), some (.int k)] [.int 1] h2 = zex E (n + 4) (d + 1) 263 30 [some (.ref 84), some (.int 1), some (.int k)] [] h2).trans (((yGo zfw263_30) : zex E (n + 4) (d + 1) 263 30 [some (.ref 84), some (.int 1), some (.int k)] [] h2 = zex E (n + 3) (d + 1) 263 41 [some (.ref 84), some (.int 1), some (.int k)] [] h2).trans (((yCi zfw263_41) : zex E (n + 3) (d + 1) 263 41 [some (.ref 84), some (.int 1), some (.int k)] [] h2 = zex E (n + 2) (d + 1) 263 42 [some (.ref 84), some (.int 1), some (.int k)] [.int 1] h2).trans (((yGo zfw263_42) : zex E (n + 2) (d + 1) 263 42 [some (.ref 84), some (.int 1), some (.int k)] [.int 1] h2 = zex E (n + 1) (d + 1) 263 46 [some (.ref 84), some (.int 1), some (.int k)] [.int 1] h2).trans (((yRet2 zfw263_46 rfl (Or.inr rfl)) : zex E (n + 1) (d + 1) 263 46 [some (.ref 84), some (.int 1), some (.int k)] [.int 1] h2 = some (.inl (some (.int 1)), h2))))))))))))))))))
set_option maxRecDepth 100000 in
theorem rc_2 {E : zE} {n d : Nat} {h h1 h2 : zH} {k : Int32} (hk : k.toInt < (14 : Int32).toInt) (a84 : zat h.1 84 = some (.inr (.inl (12, [none, some (some 85), some (some 86), some (some 87), some (some 88), some (some 89), none, none, some (some 90), none, none, none, none, none, none, some (some 91), none, some (some 92), some (some 93)])))) (a84_h1 : zat h1.1 84 = some (.inr (.inl (12, [none, some (some 85), some (some 86), some (some 87), some (some 88), some (some 89), none, none, some (some 90), none, none, none, none, none, none, some (some 91), none, some (some 92), some (some 93)])))) (e1 : zex E (n + 13) d 236 0 [some (.ref 84)] [] h = some (.inl none, h1)) (e2 : zex E (n + 3) d 254 0 [some (.ref 84)] [] h1 = some (.inl (some (.int 0)), h2)) : zex E (n + 15) (d + 1) 263 0 [some (.ref 84), some (.int 1), some (.int k)] [] h = some (.inl (some (.int 0)), h2) :=
  ((yAn zfw263_0 rfl rfl) : zex E (n + 15) (d + 1) 263 0 [some (.ref 84), some (.int 1), some (.int k)] [] h = zex E (n + 14) (d + 1) 263 1 [some (.ref 84), some (.int 1), some (.int k)] [.ref 84] h).trans (((zcvg (h := h) (as := []) (r := []) zfw263_1 znw236 rfl a84 rfl e1) : zex E (n + 14) (d + 1) 263 1 [some (.ref 84), some (.int 1), some (.int k)] [.ref 84] h = zex E (n + 13) (d + 1) 263 4 [some (.ref 84), some (.int 1), some (.int k)] [] h1).trans (((yIn zfw263_4 rfl) : zex E (n + 13) (d + 1) 263 4 [some (.ref 84), some (.int 1), some (.int k)] [] h1 = zex E (n + 12) (d + 1) 263 5 [some (.ref 84), some (.int 1), some (.int k)] [.int k] h1).trans (((yIn zfw263_5 rfl) : zex E (n + 12) (d + 1) 263 5 [some (.ref 84), some (.int 1), some (.int k)] [.int k] h1 = zex E (n + 11) (d + 1) 263 6 [some (.ref 84), some (.int 1), some (.int k)] [.int 1, .int k] h1).trans (((zjeF zfw263_6 (by decide)) : zex E (n + 11) (d + 1) 263 6 [some (.ref 84), some (.int 1), some (.int k)] [.int 1, .int k] h1 = zex E (n + 10) (d + 1) 263 9 [some (.ref 84), some (.int 1), some (.int k)] [.int k] h1).trans (((yCb zfw263_9) : zex E (n + 10) (d + 1) 263 9 [some (.ref 84), some (.int 1), some (.int k)] [.int k] h1 = zex E (n + 9) (d + 1) 263 11 [some (.ref 84), some (.int 1), some (.int k)] [.int 14, .int k] h1).trans (((yGo zfw263_11) : zex E (n + 9) (d + 1) 263 11 [some (.ref 84), some (.int 1), some (.int k)] [.int 14, .int k] h1 = zex E (n + 8) (d + 1) 263 16 [some (.ref 84), some (.int 1), some (.int k)] [.int 14, .int k] h1).trans (((zkgF zfw263_16 hk) : zex E (n + 8) (d + 1) 263 16 [some (.ref 84), some (.int 1), some (.int k)] [.int 14, .int k] h1 = zex E (n + 7) (d + 1) 263 19 [some (.ref 84), some (.int 1), some (.int k)] [] h1).trans (((yIn zfw263_19 rfl) : zex E (n + 7) (d + 1) 263 19 [some (.ref 84), some (.int 1), some (.int k)] [] h1 = zex E (n + 6) (d + 1) 263 20 [some (.ref 84), some (.int 1), some (.int k)] [.int 1] h1).trans (((zjeF zfw263_20 (by decide)) : zex E (n + 6) (d + 1) 263 20 [some (.ref 84), some (.int 1), some (.int k)] [.int 1] h1 = zex E (n + 5) (d + 1) 263 23 [some (.ref 84), some (.int 1), some (.int k)] [] h1).trans (((yAn zfw263_23 rfl rfl) : zex E (n + 5) (d + 1) 263 23 [some (.ref 84), some (.int 1), some (.int k)] [] h1 = zex E (n + 4) (d + 1) 263 24 [some (.ref 84), some (.int 1), some (.int k)] [.ref 84] h1).trans (((zcvg (h := h1) (as := []) (r := []) zfw263_24 znw254 rfl a84_h1 rfl e2) : zex E (n + 4) (d + 1) 263 24 [some (.ref 84), some (.int 1), some (.int k)] [.ref 84] h1 = zex E (n + 3) (d + 1) 263 27 [some (.ref 84), some (.int 1), some (.int k)] [.int 0] h2).trans (((zjeT zfw263_27 (by decide)) : zex E (n + 3) (d + 1) 263 27 [some (.ref 84), some (.int 1), some (.int k)] [.int 0] h2 = zex E (n + 2) (d + 1) 263 45 [some (.ref 84), some (.int 1), some (.int k)] [] h2).trans (((yCi zfw263_45) : zex E (n + 2) (d + 1) 263 45 [some (.ref 84), some (.int 1), some (.int k)] [] h2 = zex E (n + 1) (d + 1) 263 46 [some (.ref 84), some (.int 1), some (.int k)] [.int 0] h2).trans (((yRet2 zfw263_46 rfl (Or.inl rfl)) : zex E (n + 1) (d + 1) 263 46 [some (.ref 84), some (.int 1), some (.int k)] [.int 0] h2 = some (.inl (some (.int 0)), h2))))))))))))))))
set_option maxRecDepth 100000 in
theorem us_0 {E : zE} {n d : Nat} {h : zH}   (a84 : zat h.1 84 = some (.inr (.inl (12, [none, some (some 85), some (some 86), some (some 87), some (some 88), some (some 89), none, none, some (some 90), none, none, none, none, none, none, some (some 91), none, some (some 92), some (some 93)]))))  : zex E (n + 14) d 244 0 [some (.ref 84)] [] h = some (.inl none, (zsetI (zsetI (zsetI (zsetI h 84 (upd (h.2.1 84) 0 0)) 84 (upd ((zsetI h 84 (upd (h.2.1 84) 0 0)).2.1 84) 11 ((zsetI h 84 (upd (h.2.1 84) 0 0)).2.1 84 9))) 84 (upd ((zsetI (zsetI h 84 (upd (h.2.1 84) 0 0)) 84 (upd ((zsetI h 84 (upd (h.2.1 84) 0 0)).2.1 84) 11 ((zsetI h 84 (upd (h.2.1 84) 0 0)).2.1 84 9))).2.1 84) 9 0)) 84 (upd ((zsetI (zsetI (zsetI h 84 (upd (h.2.1 84) 0 0)) 84 (upd ((zsetI h 84 (upd (h.2.1 84) 0 0)).2.1 84) 11 ((zsetI h 84 (upd (h.2.1 84) 0 0)).2.1 84 9))) 84 (upd ((zsetI (zsetI h 84 (upd (h.2.1 84) 0 0)) 84 (upd ((zsetI h 84 (upd (h.2.1 84) 0 0)).2.1 84) 11 ((zsetI h 84 (upd (h.2.1 84) 0 0)).2.1 84 9))).2.1 84) 9 0)).2.1 84) 10 0))) :=
  ((yAn zfw244_0 rfl rfl) : zex E (n + 14) d 244 0 [some (.ref 84)] [] h = zex E (n + 13) d 244 1 [some (.ref 84)] [.ref 84] h).trans (((yCi zfw244_1) : zex E (n + 13) d 244 1 [some (.ref 84)] [.ref 84] h = zex E (n + 12) d 244 2 [some (.ref 84)] [.int 0, .ref 84] h).trans (((zpx zfw244_2 a84 rfl) : zex E (n + 12) d 244 2 [some (.ref 84)] [.int 0, .ref 84] h = zex E (n + 11) d 244 5 [some (.ref 84)] [] (zsetI h 84 (upd (h.2.1 84) 0 0))).trans (((yAn zfw244_5 rfl rfl) : zex E (n + 11) d 244 5 [some (.ref 84)] [] (zsetI h 84 (upd (h.2.1 84) 0 0)) = zex E (n + 10) d 244 6 [some (.ref 84)] [.ref 84] (zsetI h 84 (upd (h.2.1 84) 0 0))).trans (((yAn zfw244_6 rfl rfl) : zex E (n + 10) d 244 6 [some (.ref 84)] [.ref 84] (zsetI h 84 (upd (h.2.1 84) 0 0)) = zex E (n + 9) d 244 7 [some (.ref 84)] [.ref 84, .ref 84] (zsetI h 84 (upd (h.2.1 84) 0 0))).trans (((zgi zfw244_7 a84 rfl) : zex E (n + 9) d 244 7 [some (.ref 84)] [.ref 84, .ref 84] (zsetI h 84 (upd (h.2.1 84) 0 0)) = zex E (n + 8) d 244 10 [some (.ref 84)] [.int ((zsetI h 84 (upd (h.2.1 84) 0 0)).2.1 84 9), .ref 84] (zsetI h 84 (upd (h.2.1 84) 0 0))).trans (((zpx zfw244_10 a84 rfl) : zex E (n + 8) d 244 10 [some (.ref 84)] [.int ((zsetI h 84 (upd (h.2.1 84) 0 0)).2.1 84 9), .ref 84] (zsetI h 84 (upd (h.2.1 84) 0 0)) = zex E (n + 7) d 244 13 [some (.ref 84)] [] (zsetI (zsetI h 84 (upd (h.2.1 84) 0 0)) 84 (upd ((zsetI h 84 (upd (h.2.1 84) 0 0)).2.1 84) 11 ((zsetI h 84 (upd (h.2.1 84) 0 0)).2.1 84 9)))).trans (((yAn zfw244_13 rfl rfl) : zex E (n + 7) d 244 13 [some (.ref 84)] [] (zsetI (zsetI h 84 (upd (h.2.1 84) 0 0)) 84 (upd ((zsetI h 84 (upd (h.2.1 84) 0 0)).2.1 84) 11 ((zsetI h 84 (upd (h.2.1 84) 0 0)).2.1 84 9))) = zex E (n + 6) d 244 14 [some (.ref 84)] [.ref 84] (zsetI (zsetI h 84 (upd (h.2.1 84) 0 0)) 84 (upd ((zsetI h 84 (upd (h.2.1 84) 0 0)).2.1 84) 11 ((zsetI h 84 (upd (h.2.1 84) 0 0)).2.1 84 9)))).trans (((yCi zfw244_14) : zex E (n + 6) d 244 14 [some (.ref 84)] [.ref 84] (zsetI (zsetI h 84 (upd (h.2.1 84) 0 0)) 84 (upd ((zsetI h 84 (upd (h.2.1 84) 0 0)).2.1 84) 11 ((zsetI h 84 (upd (h.2.1 84) 0 0)).2.1 84 9))) = zex E (n + 5) d 244 15 [some (.ref 84)] [.int 0, .ref 84] (zsetI (zsetI h 84 (upd (h.2.1 84) 0 0)) 84 (upd ((zsetI h 84 (upd (h.2.1 84) 0 0)).2.1 84) 11 ((zsetI h 84 (upd (h.2.1 84) 0 0)).2.1 84 9)))).trans (((zpx zfw244_15 a84 rfl) : zex E (n + 5) d 244 15 [some (.ref 84)] [.int 0, .ref 84] (zsetI (zsetI h 84 (upd (h.2.1 84) 0 0)) 84 (upd ((zsetI h 84 (upd (h.2.1 84) 0 0)).2.1 84) 11 ((zsetI h 84 (upd (h.2.1 84) 0 0)).2.1 84 9))) = zex E (n + 4) d 244 18 [some (.ref 84)] [] (zsetI (zsetI (zsetI h 84 (upd (h.2.1 84) 0 0)) 84 (upd ((zsetI h 84 (upd (h.2.1 84) 0 0)).2.1 84) 11 ((zsetI h 84 (upd (h.2.1 84) 0 0)).2.1 84 9))) 84 (upd ((zsetI (zsetI h 84 (upd (h.2.1 84) 0 0)) 84 (upd ((zsetI h 84 (upd (h.2.1 84) 0 0)).2.1 84) 11 ((zsetI h 84 (upd (h.2.1 84) 0 0)).2.1 84 9))).2.1 84) 9 0))).trans (((yAn zfw244_18 rfl rfl) : zex E (n + 4) d 244 18 [some (.ref 84)] [] (zsetI (zsetI (zsetI h 84 (upd (h.2.1 84) 0 0)) 84 (upd ((zsetI h 84 (upd (h.2.1 84) 0 0)).2.1 84) 11 ((zsetI h 84 (upd (h.2.1 84) 0 0)).2.1 84 9))) 84 (upd ((zsetI (zsetI h 84 (upd (h.2.1 84) 0 0)) 84 (upd ((zsetI h 84 (upd (h.2.1 84) 0 0)).2.1 84) 11 ((zsetI h 84 (upd (h.2.1 84) 0 0)).2.1 84 9))).2.1 84) 9 0)) = zex E (n + 3) d 244 19 [some (.ref 84)] [.ref 84] (zsetI (zsetI (zsetI h 84 (upd (h.2.1 84) 0 0)) 84 (upd ((zsetI h 84 (upd (h.2.1 84) 0 0)).2.1 84) 11 ((zsetI h 84 (upd (h.2.1 84) 0 0)).2.1 84 9))) 84 (upd ((zsetI (zsetI h 84 (upd (h.2.1 84) 0 0)) 84 (upd ((zsetI h 84 (upd (h.2.1 84) 0 0)).2.1 84) 11 ((zsetI h 84 (upd (h.2.1 84) 0 0)).2.1 84 9))).2.1 84) 9 0))).trans (((yCi zfw244_19) : zex E (n + 3) d 244 19 [some (.ref 84)] [.ref 84] (zsetI (zsetI (zsetI h 84 (upd (h.2.1 84) 0 0)) 84 (upd ((zsetI h 84 (upd (h.2.1 84) 0 0)).2.1 84) 11 ((zsetI h 84 (upd (h.2.1 84) 0 0)).2.1 84 9))) 84 (upd ((zsetI (zsetI h 84 (upd (h.2.1 84) 0 0)) 84 (upd ((zsetI h 84 (upd (h.2.1 84) 0 0)).2.1 84) 11 ((zsetI h 84 (upd (h.2.1 84) 0 0)).2.1 84 9))).2.1 84) 9 0)) = zex E (n + 2) d 244 20 [some (.ref 84)] [.int 0, .ref 84] (zsetI (zsetI (zsetI h 84 (upd (h.2.1 84) 0 0)) 84 (upd ((zsetI h 84 (upd (h.2.1 84) 0 0)).2.1 84) 11 ((zsetI h 84 (upd (h.2.1 84) 0 0)).2.1 84 9))) 84 (upd ((zsetI (zsetI h 84 (upd (h.2.1 84) 0 0)) 84 (upd ((zsetI h 84 (upd (h.2.1 84) 0 0)).2.1 84) 11 ((zsetI h 84 (upd (h.2.1 84) 0 0)).2.1 84 9))).2.1 84) 9 0))).trans (((zpx zfw244_20 a84 rfl) : zex E (n + 2) d 244 20 [some (.ref 84)] [.int 0, .ref 84] (zsetI (zsetI (zsetI h 84 (upd (h.2.1 84) 0 0)) 84 (upd ((zsetI h 84 (upd (h.2.1 84) 0 0)).2.1 84) 11 ((zsetI h 84 (upd (h.2.1 84) 0 0)).2.1 84 9))) 84 (upd ((zsetI (zsetI h 84 (upd (h.2.1 84) 0 0)) 84 (upd ((zsetI h 84 (upd (h.2.1 84) 0 0)).2.1 84) 11 ((zsetI h 84 (upd (h.2.1 84) 0 0)).2.1 84 9))).2.1 84) 9 0)) = zex E (n + 1) d 244 23 [some (.ref 84)] [] (zsetI (zsetI (zsetI (zsetI h 84 (upd (h.2.1 84) 0 0)) 84 (upd ((zsetI h 84 (upd (h.2.1 84) 0 0)).2.1 84) 11 ((zsetI h 84 (upd (h.2.1 84) 0 0)).2.1 84 9))) 84 (upd ((zsetI (zsetI h 84 (upd (h.2.1 84) 0 0)) 84 (upd ((zsetI h 84 (upd (h.2.1 84) 0 0)).2.1 84) 11 ((zsetI h 84 (upd (h.2.1 84) 0 0)).2.1 84 9))).2.1 84) 9 0)) 84 (upd ((zsetI (zsetI (zsetI h 84 (upd (h.2.1 84) 0 0)) 84 (upd ((zsetI h 84 (upd (h.2.1 84) 0 0)).2.1 84) 11 ((zsetI h 84 (upd (h.2.1 84) 0 0)).2.1 84 9))) 84 (upd ((zsetI (zsetI h 84 (upd (h.2.1 84) 0 0)) 84 (upd ((zsetI h 84 (upd (h.2.1 84) 0 0)).2.1 84) 11 ((zsetI h 84 (upd (h.2.1 84) 0 0)).2.1 84 9))).2.1 84) 9 0)).2.1 84) 10 0))).trans (((yRet0 zfw244_23 rfl) : zex E (n + 1) d 244 23 [some (.ref 84)] [] (zsetI (zsetI (zsetI (zsetI h 84 (upd (h.2.1 84) 0 0)) 84 (upd ((zsetI h 84 (upd (h.2.1 84) 0 0)).2.1 84) 11 ((zsetI h 84 (upd (h.2.1 84) 0 0)).2.1 84 9))) 84 (upd ((zsetI (zsetI h 84 (upd (h.2.1 84) 0 0)) 84 (upd ((zsetI h 84 (upd (h.2.1 84) 0 0)).2.1 84) 11 ((zsetI h 84 (upd (h.2.1 84) 0 0)).2.1 84 9))).2.1 84) 9 0)) 84 (upd ((zsetI (zsetI (zsetI h 84 (upd (h.2.1 84) 0 0)) 84 (upd ((zsetI h 84 (upd (h.2.1 84) 0 0)).2.1 84) 11 ((zsetI h 84 (upd (h.2.1 84) 0 0)).2.1 84 9))) 84 (upd ((zsetI (zsetI h 84 (upd (h.2.1 84) 0 0)) 84 (upd ((zsetI h 84 (upd (h.2.1 84) 0 0)).2.1 84) 11 ((zsetI h 84 (upd (h.2.1 84) 0 0)).2.1 84 9))).2.1 84) 9 0)).2.1 84) 10 0)) = some (.inl none, (zsetI (zsetI (zsetI (zsetI h 84 (upd (h.2.1 84) 0 0)) 84 (upd ((zsetI h 84 (upd (h.2.1 84) 0 0)).2.1 84) 11 ((zsetI h 84 (upd (h.2.1 84) 0 0)).2.1 84 9))) 84 (upd ((zsetI (zsetI h 84 (upd (h.2.1 84) 0 0)) 84 (upd ((zsetI h 84 (upd (h.2.1 84) 0 0)).2.1 84) 11 ((zsetI h 84 (upd (h.2.1 84) 0 0)).2.1 84 9))).2.1 84) 9 0)) 84 (upd ((zsetI (zsetI (zsetI h 84 (upd (h.2.1 84) 0 0)) 84 (upd ((zsetI h 84 (upd (h.2.1 84) 0 0)).2.1 84) 11 ((zsetI h 84 (upd (h.2.1 84) 0 0)).2.1 84 9))) 84 (upd ((zsetI (zsetI h 84 (upd (h.2.1 84) 0 0)) 84 (upd ((zsetI h 84 (upd (h.2.1 84) 0 0)).2.1 84) 11 ((zsetI h 84 (upd (h.2.1 84) 0 0)).2.1 84 9))).2.1 84) 9 0)).2.1 84) 10 0)))))))))))))))))
set_option maxRecDepth 100000 in
theorem ra_0 {E : zE} {n d : Nat} {h h1 h2 : zH} {u2 : Option Value} (hp : (h2.2.1 84 10).toInt = (h2.2.1 84 11).toInt) (a84 : zat h.1 84 = some (.inr (.inl (12, [none, some (some 85), some (some 86), some (some 87), some (some 88), some (some 89), none, none, some (some 90), none, none, none, none, none, none, some (some 91), none, some (some 92), some (some 93)])))) (a84_h1 : zat h1.1 84 = some (.inr (.inl (12, [none, some (some 85), some (some 86), some (some 87), some (some 88), some (some 89), none, none, some (some 90), none, none, none, none, none, none, some (some 91), none, some (some 92), some (some 93)])))) (a84_h2 : zat h2.1 84 = some (.inr (.inl (12, [none, some (some 85), some (some 86), some (some 87), some (some 88), some (some 89), none, none, some (some 90), none, none, none, none, none, none, some (some 91), none, some (some 92), some (some 93)])))) (e1 : zex E (n + 12) d 244 0 [some (.ref 84)] [] h = some (.inl none, h1)) (e2 : zex E (n + 7) d 235 0 [some (.ref 84)] [] (zsetI h1 84 (upd (h1.2.1 84) 16 0)) = some (.inl none, h2)) : zex E (n + 14) (d + 1) 264 0 [some (.ref 84), some (.int 1), u2] [] h = some (.inl (some (.int 0)), h2) :=
  ((yAn zfw264_0 rfl rfl) : zex E (n + 14) (d + 1) 264 0 [some (.ref 84), some (.int 1), u2] [] h = zex E (n + 13) (d + 1) 264 1 [some (.ref 84), some (.int 1), u2] [.ref 84] h).trans (((zcvg (h := h) (as := []) (r := []) zfw264_1 znw244 rfl a84 rfl e1) : zex E (n + 13) (d + 1) 264 1 [some (.ref 84), some (.int 1), u2] [.ref 84] h = zex E (n + 12) (d + 1) 264 4 [some (.ref 84), some (.int 1), u2] [] h1).trans (((yAn zfw264_4 rfl rfl) : zex E (n + 12) (d + 1) 264 4 [some (.ref 84), some (.int 1), u2] [] h1 = zex E (n + 11) (d + 1) 264 5 [some (.ref 84), some (.int 1), u2] [.ref 84] h1).trans (((yCi zfw264_5) : zex E (n + 11) (d + 1) 264 5 [some (.ref 84), some (.int 1), u2] [.ref 84] h1 = zex E (n + 10) (d + 1) 264 6 [some (.ref 84), some (.int 1), u2] [.int 0, .ref 84] h1).trans (((zpx zfw264_6 a84_h1 rfl) : zex E (n + 10) (d + 1) 264 6 [some (.ref 84), some (.int 1), u2] [.int 0, .ref 84] h1 = zex E (n + 9) (d + 1) 264 9 [some (.ref 84), some (.int 1), u2] [] (zsetI h1 84 (upd (h1.2.1 84) 16 0))).trans (((yAn zfw264_9 rfl rfl) : zex E (n + 9) (d + 1) 264 9 [some (.ref 84), some (.int 1), u2] [] (zsetI h1 84 (upd (h1.2.1 84) 16 0)) = zex E (n + 8) (d + 1) 264 10 [some (.ref 84), some (.int 1), u2] [.ref 84] (zsetI h1 84 (upd (h1.2.1 84) 16 0))).trans (((zcvg (h := (zsetI h1 84 (upd (h1.2.1 84) 16 0))) (as := []) (r := []) zfw264_10 znw235 rfl a84_h1 rfl e2) : zex E (n + 8) (d + 1) 264 10 [some (.ref 84), some (.int 1), u2] [.ref 84] (zsetI h1 84 (upd (h1.2.1 84) 16 0)) = zex E (n + 7) (d + 1) 264 13 [some (.ref 84), some (.int 1), u2] [] h2).trans (((yAn zfw264_13 rfl rfl) : zex E (n + 7) (d + 1) 264 13 [some (.ref 84), some (.int 1), u2] [] h2 = zex E (n + 6) (d + 1) 264 14 [some (.ref 84), some (.int 1), u2] [.ref 84] h2).trans (((zgi zfw264_14 a84_h2 rfl) : zex E (n + 6) (d + 1) 264 14 [some (.ref 84), some (.int 1), u2] [.ref 84] h2 = zex E (n + 5) (d + 1) 264 17 [some (.ref 84), some (.int 1), u2] [.int (h2.2.1 84 10)] h2).trans (((yAn zfw264_17 rfl rfl) : zex E (n + 5) (d + 1) 264 17 [some (.ref 84), some (.int 1), u2] [.int (h2.2.1 84 10)] h2 = zex E (n + 4) (d + 1) 264 18 [some (.ref 84), some (.int 1), u2] [.ref 84, .int (h2.2.1 84 10)] h2).trans (((zgi zfw264_18 a84_h2 rfl) : zex E (n + 4) (d + 1) 264 18 [some (.ref 84), some (.int 1), u2] [.ref 84, .int (h2.2.1 84 10)] h2 = zex E (n + 3) (d + 1) 264 21 [some (.ref 84), some (.int 1), u2] [.int (h2.2.1 84 11), .int (h2.2.1 84 10)] h2).trans (((zknF zfw264_21 hp) : zex E (n + 3) (d + 1) 264 21 [some (.ref 84), some (.int 1), u2] [.int (h2.2.1 84 11), .int (h2.2.1 84 10)] h2 = zex E (n + 2) (d + 1) 264 24 [some (.ref 84), some (.int 1), u2] [] h2).trans (((yCi zfw264_24) : zex E (n + 2) (d + 1) 264 24 [some (.ref 84), some (.int 1), u2] [] h2 = zex E (n + 1) (d + 1) 264 25 [some (.ref 84), some (.int 1), u2] [.int 0] h2).trans (((yRet1 zfw264_25 rfl) : zex E (n + 1) (d + 1) 264 25 [some (.ref 84), some (.int 1), u2] [.int 0] h2 = some (.inl (some (.int 0)), h2)))))))))))))))
set_option maxRecDepth 100000 in
theorem ra_1 {E : zE} {n d : Nat} {h h1 h2 : zH} {u2 : Option Value} (hp : (h2.2.1 84 10).toInt ≠ (h2.2.1 84 11).toInt) (a84 : zat h.1 84 = some (.inr (.inl (12, [none, some (some 85), some (some 86), some (some 87), some (some 88), some (some 89), none, none, some (some 90), none, none, none, none, none, none, some (some 91), none, some (some 92), some (some 93)])))) (a84_h1 : zat h1.1 84 = some (.inr (.inl (12, [none, some (some 85), some (some 86), some (some 87), some (some 88), some (some 89), none, none, some (some 90), none, none, none, none, none, none, some (some 91), none, some (some 92), some (some 93)])))) (a84_h2 : zat h2.1 84 = some (.inr (.inl (12, [none, some (some 85), some (some 86), some (some 87), some (some 88), some (some 89), none, none, some (some 90), none, none, none, none, none, none, some (some 91), none, some (some 92), some (some 93)])))) (e1 : zex E (n + 12) d 244 0 [some (.ref 84)] [] h = some (.inl none, h1)) (e2 : zex E (n + 7) d 235 0 [some (.ref 84)] [] (zsetI h1 84 (upd (h1.2.1 84) 16 0)) = some (.inl none, h2)) : zex E (n + 14) (d + 1) 264 0 [some (.ref 84), some (.int 1), u2] [] h = zex E n (d + 1) 264 28 [some (.ref 84), some (.int 1), some (.int 0)] [] h2 :=
  ((yAn zfw264_0 rfl rfl) : zex E (n + 14) (d + 1) 264 0 [some (.ref 84), some (.int 1), u2] [] h = zex E (n + 13) (d + 1) 264 1 [some (.ref 84), some (.int 1), u2] [.ref 84] h).trans (((zcvg (h := h) (as := []) (r := []) zfw264_1 znw244 rfl a84 rfl e1) : zex E (n + 13) (d + 1) 264 1 [some (.ref 84), some (.int 1), u2] [.ref 84] h = zex E (n + 12) (d + 1) 264 4 [some (.ref 84), some (.int 1), u2] [] h1).trans (((yAn zfw264_4 rfl rfl) : zex E (n + 12) (d + 1) 264 4 [some (.ref 84), some (.int 1), u2] [] h1 = zex E (n + 11) (d + 1) 264 5 [some (.ref 84), some (.int 1), u2] [.ref 84] h1).trans (((yCi zfw264_5) : zex E (n + 11) (d + 1) 264 5 [some (.ref 84), some (.int 1), u2] [.ref 84] h1 = zex E (n + 10) (d + 1) 264 6 [some (.ref 84), some (.int 1), u2] [.int 0, .ref 84] h1).trans (((zpx zfw264_6 a84_h1 rfl) : zex E (n + 10) (d + 1) 264 6 [some (.ref 84), some (.int 1), u2] [.int 0, .ref 84] h1 = zex E (n + 9) (d + 1) 264 9 [some (.ref 84), some (.int 1), u2] [] (zsetI h1 84 (upd (h1.2.1 84) 16 0))).trans (((yAn zfw264_9 rfl rfl) : zex E (n + 9) (d + 1) 264 9 [some (.ref 84), some (.int 1), u2] [] (zsetI h1 84 (upd (h1.2.1 84) 16 0)) = zex E (n + 8) (d + 1) 264 10 [some (.ref 84), some (.int 1), u2] [.ref 84] (zsetI h1 84 (upd (h1.2.1 84) 16 0))).trans (((zcvg (h := (zsetI h1 84 (upd (h1.2.1 84) 16 0))) (as := []) (r := []) zfw264_10 znw235 rfl a84_h1 rfl e2) : zex E (n + 8) (d + 1) 264 10 [some (.ref 84), some (.int 1), u2] [.ref 84] (zsetI h1 84 (upd (h1.2.1 84) 16 0)) = zex E (n + 7) (d + 1) 264 13 [some (.ref 84), some (.int 1), u2] [] h2).trans (((yAn zfw264_13 rfl rfl) : zex E (n + 7) (d + 1) 264 13 [some (.ref 84), some (.int 1), u2] [] h2 = zex E (n + 6) (d + 1) 264 14 [some (.ref 84), some (.int 1), u2] [.ref 84] h2).trans (((zgi zfw264_14 a84_h2 rfl) : zex E (n + 6) (d + 1) 264 14 [some (.ref 84), some (.int 1), u2] [.ref 84] h2 = zex E (n + 5) (d + 1) 264 17 [some (.ref 84), some (.int 1), u2] [.int (h2.2.1 84 10)] h2).trans (((yAn zfw264_17 rfl rfl) : zex E (n + 5) (d + 1) 264 17 [some (.ref 84), some (.int 1), u2] [.int (h2.2.1 84 10)] h2 = zex E (n + 4) (d + 1) 264 18 [some (.ref 84), some (.int 1), u2] [.ref 84, .int (h2.2.1 84 10)] h2).trans (((zgi zfw264_18 a84_h2 rfl) : zex E (n + 4) (d + 1) 264 18 [some (.ref 84), some (.int 1), u2] [.ref 84, .int (h2.2.1 84 10)] h2 = zex E (n + 3) (d + 1) 264 21 [some (.ref 84), some (.int 1), u2] [.int (h2.2.1 84 11), .int (h2.2.1 84 10)] h2).trans (((zknT zfw264_21 hp) : zex E (n + 3) (d + 1) 264 21 [some (.ref 84), some (.int 1), u2] [.int (h2.2.1 84 11), .int (h2.2.1 84 10)] h2 = zex E (n + 2) (d + 1) 264 26 [some (.ref 84), some (.int 1), u2] [] h2).trans (((yCi zfw264_26) : zex E (n + 2) (d + 1) 264 26 [some (.ref 84), some (.int 1), u2] [] h2 = zex E (n + 1) (d + 1) 264 27 [some (.ref 84), some (.int 1), u2] [.int 0] h2).trans (((ySn zfw264_27) : zex E (n + 1) (d + 1) 264 27 [some (.ref 84), some (.int 1), u2] [.int 0] h2 = zex E n (d + 1) 264 28 [some (.ref 84), some (.int 1), some (.int 0)] [] h2))))))))))))))
set_option maxRecDepth 100000 in
theorem rb_0 {E : zE} {n d : Nat} {h h1 : zH} {k : Int32}  (a84 : zat h.1 84 = some (.inr (.inl (12, [none, some (some 85), some (some 86), some (some 87), some (some 88), some (some 89), none, none, some (some 90), none, none, none, none, none, none, some (some 91), none, some (some 92), some (some 93)])))) (e1 : zex E (n + 3) d 263 0 [some (.ref 84), some (.int 1), some (.int k)] [] h = some (.inl (some (.int 0)), h1)) : zex E (n + 7) (d + 1) 264 28 [some (.ref 84), some (.int 1), some (.int k)] [] h = some (.inl (some (.int (-1))), h1) :=
  ((yAn zfw264_28 rfl rfl) : zex E (n + 7) (d + 1) 264 28 [some (.ref 84), some (.int 1), some (.int k)] [] h = zex E (n + 6) (d + 1) 264 29 [some (.ref 84), some (.int 1), some (.int k)] [.ref 84] h).trans (((yIn zfw264_29 rfl) : zex E (n + 6) (d + 1) 264 29 [some (.ref 84), some (.int 1), some (.int k)] [.ref 84] h = zex E (n + 5) (d + 1) 264 30 [some (.ref 84), some (.int 1), some (.int k)] [.int 1, .ref 84] h).trans (((yIn zfw264_30 rfl) : zex E (n + 5) (d + 1) 264 30 [some (.ref 84), some (.int 1), some (.int k)] [.int 1, .ref 84] h = zex E (n + 4) (d + 1) 264 31 [some (.ref 84), some (.int 1), some (.int k)] [.int k, .int 1, .ref 84] h).trans (((zcvg (h := h) (as := [.int 1, .int k]) (r := []) zfw264_31 znw263 rfl a84 rfl e1) : zex E (n + 4) (d + 1) 264 31 [some (.ref 84), some (.int 1), some (.int k)] [.int k, .int 1, .ref 84] h = zex E (n + 3) (d + 1) 264 34 [some (.ref 84), some (.int 1), some (.int k)] [.int 0] h1).trans (((zjnF zfw264_34 (by decide)) : zex E (n + 3) (d + 1) 264 34 [some (.ref 84), some (.int 1), some (.int k)] [.int 0] h1 = zex E (n + 2) (d + 1) 264 37 [some (.ref 84), some (.int 1), some (.int k)] [] h1).trans (((yCi zfw264_37) : zex E (n + 2) (d + 1) 264 37 [some (.ref 84), some (.int 1), some (.int k)] [] h1 = zex E (n + 1) (d + 1) 264 38 [some (.ref 84), some (.int 1), some (.int k)] [.int (-1)] h1).trans (((yRet1 zfw264_38 rfl) : zex E (n + 1) (d + 1) 264 38 [some (.ref 84), some (.int 1), some (.int k)] [.int (-1)] h1 = some (.inl (some (.int (-1))), h1))))))))
set_option maxRecDepth 100000 in
theorem rb_1 {E : zE} {n d : Nat} {h h1 h2 : zH} {k : Int32} (hp : (h2.2.1 84 10).toInt = (h2.2.1 84 11).toInt) (a84 : zat h.1 84 = some (.inr (.inl (12, [none, some (some 85), some (some 86), some (some 87), some (some 88), some (some 89), none, none, some (some 90), none, none, none, none, none, none, some (some 91), none, some (some 92), some (some 93)])))) (a84_h1 : zat h1.1 84 = some (.inr (.inl (12, [none, some (some 85), some (some 86), some (some 87), some (some 88), some (some 89), none, none, some (some 90), none, none, none, none, none, none, some (some 91), none, some (some 92), some (some 93)])))) (a84_h2 : zat h2.1 84 = some (.inr (.inl (12, [none, some (some 85), some (some 86), some (some 87), some (some 88), some (some 89), none, none, some (some 90), none, none, none, none, none, none, some (some 91), none, some (some 92), some (some 93)])))) (e1 : zex E (n + 12) d 263 0 [some (.ref 84), some (.int 1), some (.int k)] [] h = some (.inl (some (.int 1)), h1)) (e2 : zex E (n + 9) d 235 0 [some (.ref 84)] [] h1 = some (.inl none, h2)) : zex E (n + 16) (d + 1) 264 28 [some (.ref 84), some (.int 1), some (.int k)] [] h = some (.inl (some (.int (k + 1))), h2) :=
  ((yAn zfw264_28 rfl rfl) : zex E (n + 16) (d + 1) 264 28 [some (.ref 84), some (.int 1), some (.int k)] [] h = zex E (n + 15) (d + 1) 264 29 [some (.ref 84), some (.int 1), some (.int k)] [.ref 84] h).trans (((yIn zfw264_29 rfl) : zex E (n + 15) (d + 1) 264 29 [some (.ref 84), some (.int 1), some (.int k)] [.ref 84] h = zex E (n + 14) (d + 1) 264 30 [some (.ref 84), some (.int 1), some (.int k)] [.int 1, .ref 84] h).trans (((yIn zfw264_30 rfl) : zex E (n + 14) (d + 1) 264 30 [some (.ref 84), some (.int 1), some (.int k)] [.int 1, .ref 84] h = zex E (n + 13) (d + 1) 264 31 [some (.ref 84), some (.int 1), some (.int k)] [.int k, .int 1, .ref 84] h).trans (((zcvg (h := h) (as := [.int 1, .int k]) (r := []) zfw264_31 znw263 rfl a84 rfl e1) : zex E (n + 13) (d + 1) 264 31 [some (.ref 84), some (.int 1), some (.int k)] [.int k, .int 1, .ref 84] h = zex E (n + 12) (d + 1) 264 34 [some (.ref 84), some (.int 1), some (.int k)] [.int 1] h1).trans (((zjnT zfw264_34 (by decide)) : zex E (n + 12) (d + 1) 264 34 [some (.ref 84), some (.int 1), some (.int k)] [.int 1] h1 = zex E (n + 11) (d + 1) 264 39 [some (.ref 84), some (.int 1), some (.int k)] [] h1).trans (((yAn zfw264_39 rfl rfl) : zex E (n + 11) (d + 1) 264 39 [some (.ref 84), some (.int 1), some (.int k)] [] h1 = zex E (n + 10) (d + 1) 264 40 [some (.ref 84), some (.int 1), some (.int k)] [.ref 84] h1).trans (((zcvg (h := h1) (as := []) (r := []) zfw264_40 znw235 rfl a84_h1 rfl e2) : zex E (n + 10) (d + 1) 264 40 [some (.ref 84), some (.int 1), some (.int k)] [.ref 84] h1 = zex E (n + 9) (d + 1) 264 43 [some (.ref 84), some (.int 1), some (.int k)] [] h2).trans (((yAn zfw264_43 rfl rfl) : zex E (n + 9) (d + 1) 264 43 [some (.ref 84), some (.int 1), some (.int k)] [] h2 = zex E (n + 8) (d + 1) 264 44 [some (.ref 84), some (.int 1), some (.int k)] [.ref 84] h2).trans (((zgi zfw264_44 a84_h2 rfl) : zex E (n + 8) (d + 1) 264 44 [some (.ref 84), some (.int 1), some (.int k)] [.ref 84] h2 = zex E (n + 7) (d + 1) 264 47 [some (.ref 84), some (.int 1), some (.int k)] [.int (h2.2.1 84 10)] h2).trans (((yAn zfw264_47 rfl rfl) : zex E (n + 7) (d + 1) 264 47 [some (.ref 84), some (.int 1), some (.int k)] [.int (h2.2.1 84 10)] h2 = zex E (n + 6) (d + 1) 264 48 [some (.ref 84), some (.int 1), some (.int k)] [.ref 84, .int (h2.2.1 84 10)] h2).trans (((zgi zfw264_48 a84_h2 rfl) : zex E (n + 6) (d + 1) 264 48 [some (.ref 84), some (.int 1), some (.int k)] [.ref 84, .int (h2.2.1 84 10)] h2 = zex E (n + 5) (d + 1) 264 51 [some (.ref 84), some (.int 1), some (.int k)] [.int (h2.2.1 84 11), .int (h2.2.1 84 10)] h2).trans (((zknF zfw264_51 hp) : zex E (n + 5) (d + 1) 264 51 [some (.ref 84), some (.int 1), some (.int k)] [.int (h2.2.1 84 11), .int (h2.2.1 84 10)] h2 = zex E (n + 4) (d + 1) 264 54 [some (.ref 84), some (.int 1), some (.int k)] [] h2).trans (((yIn zfw264_54 rfl) : zex E (n + 4) (d + 1) 264 54 [some (.ref 84), some (.int 1), some (.int k)] [] h2 = zex E (n + 3) (d + 1) 264 55 [some (.ref 84), some (.int 1), some (.int k)] [.int k] h2).trans (((yCi zfw264_55) : zex E (n + 3) (d + 1) 264 55 [some (.ref 84), some (.int 1), some (.int k)] [.int k] h2 = zex E (n + 2) (d + 1) 264 56 [some (.ref 84), some (.int 1), some (.int k)] [.int 1, .int k] h2).trans (((yAdd zfw264_56) : zex E (n + 2) (d + 1) 264 56 [some (.ref 84), some (.int 1), some (.int k)] [.int 1, .int k] h2 = zex E (n + 1) (d + 1) 264 57 [some (.ref 84), some (.int 1), some (.int k)] [.int (k + 1)] h2).trans (((yRet1 zfw264_57 rfl) : zex E (n + 1) (d + 1) 264 57 [some (.ref 84), some (.int 1), some (.int k)] [.int (k + 1)] h2 = some (.inl (some (.int (k + 1))), h2)))))))))))))))))
set_option maxRecDepth 100000 in
theorem rb_2 {E : zE} {n d : Nat} {h h1 h2 : zH} {k : Int32} (hp : (h2.2.1 84 10).toInt ≠ (h2.2.1 84 11).toInt) (a84 : zat h.1 84 = some (.inr (.inl (12, [none, some (some 85), some (some 86), some (some 87), some (some 88), some (some 89), none, none, some (some 90), none, none, none, none, none, none, some (some 91), none, some (some 92), some (some 93)])))) (a84_h1 : zat h1.1 84 = some (.inr (.inl (12, [none, some (some 85), some (some 86), some (some 87), some (some 88), some (some 89), none, none, some (some 90), none, none, none, none, none, none, some (some 91), none, some (some 92), some (some 93)])))) (a84_h2 : zat h2.1 84 = some (.inr (.inl (12, [none, some (some 85), some (some 86), some (some 87), some (some 88), some (some 89), none, none, some (some 90), none, none, none, none, none, none, some (some 91), none, some (some 92), some (some 93)])))) (e1 : zex E (n + 15) d 263 0 [some (.ref 84), some (.int 1), some (.int k)] [] h = some (.inl (some (.int 1)), h1)) (e2 : zex E (n + 12) d 235 0 [some (.ref 84)] [] h1 = some (.inl none, h2)) (e3 : zex E (n + 3) d 234 0 [some (.ref 84), some (.int 59), some (.int 59)] [] h2 = some (.inl (some (.int 0)), h2)) : zex E (n + 19) (d + 1) 264 28 [some (.ref 84), some (.int 1), some (.int k)] [] h = some (.inl (some (.int (-1))), h2) :=
  ((yAn zfw264_28 rfl rfl) : zex E (n + 19) (d + 1) 264 28 [some (.ref 84), some (.int 1), some (.int k)] [] h = zex E (n + 18) (d + 1) 264 29 [some (.ref 84), some (.int 1), some (.int k)] [.ref 84] h).trans (((yIn zfw264_29 rfl) : zex E (n + 18) (d + 1) 264 29 [some (.ref 84), some (.int 1), some (.int k)] [.ref 84] h = zex E (n + 17) (d + 1) 264 30 [some (.ref 84), some (.int 1), some (.int k)] [.int 1, .ref 84] h).trans (((yIn zfw264_30 rfl) : zex E (n + 17) (d + 1) 264 30 [some (.ref 84), some (.int 1), some (.int k)] [.int 1, .ref 84] h = zex E (n + 16) (d + 1) 264 31 [some (.ref 84), some (.int 1), some (.int k)] [.int k, .int 1, .ref 84] h).trans (((zcvg (h := h) (as := [.int 1, .int k]) (r := []) zfw264_31 znw263 rfl a84 rfl e1) : zex E (n + 16) (d + 1) 264 31 [some (.ref 84), some (.int 1), some (.int k)] [.int k, .int 1, .ref 84] h = zex E (n + 15) (d + 1) 264 34 [some (.ref 84), some (.int 1), some (.int k)] [.int 1] h1).trans (((zjnT zfw264_34 (by decide)) : zex E (n + 15) (d + 1) 264 34 [some (.ref 84), some (.int 1), some (.int k)] [.int 1] h1 = zex E (n + 14) (d + 1) 264 39 [some (.ref 84), some (.int 1), some (.int k)] [] h1).trans (((yAn zfw264_39 rfl rfl) : zex E (n + 14) (d + 1) 264 39 [some (.ref 84), some (.int 1), some (.int k)] [] h1 = zex E (n + 13) (d + 1) 264 40 [some (.ref 84), some (.int 1), some (.int k)] [.ref 84] h1).trans (((zcvg (h := h1) (as := []) (r := []) zfw264_40 znw235 rfl a84_h1 rfl e2) : zex E (n + 13) (d + 1) 264 40 [some (.ref 84), some (.int 1), some (.int k)] [.ref 84] h1 = zex E (n + 12) (d + 1) 264 43 [some (.ref 84), some (.int 1), some (.int k)] [] h2).trans (((yAn zfw264_43 rfl rfl) : zex E (n + 12) (d + 1) 264 43 [some (.ref 84), some (.int 1), some (.int k)] [] h2 = zex E (n + 11) (d + 1) 264 44 [some (.ref 84), some (.int 1), some (.int k)] [.ref 84] h2).trans (((zgi zfw264_44 a84_h2 rfl) : zex E (n + 11) (d + 1) 264 44 [some (.ref 84), some (.int 1), some (.int k)] [.ref 84] h2 = zex E (n + 10) (d + 1) 264 47 [some (.ref 84), some (.int 1), some (.int k)] [.int (h2.2.1 84 10)] h2).trans (((yAn zfw264_47 rfl rfl) : zex E (n + 10) (d + 1) 264 47 [some (.ref 84), some (.int 1), some (.int k)] [.int (h2.2.1 84 10)] h2 = zex E (n + 9) (d + 1) 264 48 [some (.ref 84), some (.int 1), some (.int k)] [.ref 84, .int (h2.2.1 84 10)] h2).trans (((zgi zfw264_48 a84_h2 rfl) : zex E (n + 9) (d + 1) 264 48 [some (.ref 84), some (.int 1), some (.int k)] [.ref 84, .int (h2.2.1 84 10)] h2 = zex E (n + 8) (d + 1) 264 51 [some (.ref 84), some (.int 1), some (.int k)] [.int (h2.2.1 84 11), .int (h2.2.1 84 10)] h2).trans (((zknT zfw264_51 hp) : zex E (n + 8) (d + 1) 264 51 [some (.ref 84), some (.int 1), some (.int k)] [.int (h2.2.1 84 11), .int (h2.2.1 84 10)] h2 = zex E (n + 7) (d + 1) 264 58 [some (.ref 84), some (.int 1), some (.int k)] [] h2).trans (((yAn zfw264_58 rfl rfl) : zex E (n + 7) (d + 1) 264 58 [some (.ref 84), some (.int 1), some (.int k)] [] h2 = zex E (n + 6) (d + 1) 264 59 [some (.ref 84), some (.int 1), some (.int k)] [.ref 84] h2).trans (((yCb zfw264_59) : zex E (n + 6) (d + 1) 264 59 [some (.ref 84), some (.int 1), some (.int k)] [.ref 84] h2 = zex E (n + 5) (d + 1) 264 61 [some (.ref 84), some (.int 1), some (.int k)] [.int 59, .ref 84] h2).trans (((yCb zfw264_61) : zex E (n + 5) (d + 1) 264 61 [some (.ref 84), some (.int 1), some (.int k)] [.int 59, .ref 84] h2 = zex E (n + 4) (d + 1) 264 63 [some (.ref 84), some (.int 1), some (.int k)] [.int 59, .int 59, .ref 84] h2).trans (((zcvg (h := h2) (as := [.int 59, .int 59]) (r := []) zfw264_63 znw234 rfl a84_h2 rfl e3) : zex E (n + 4) (d + 1) 264 63 [some (.ref 84), some (.int 1), some (.int k)] [.int 59, .int 59, .ref 84] h2 = zex E (n + 3) (d + 1) 264 66 [some (.ref 84), some (.int 1), some (.int k)] [.int 0] h2).trans (((zjnF zfw264_66 (by decide)) : zex E (n + 3) (d + 1) 264 66 [some (.ref 84), some (.int 1), some (.int k)] [.int 0] h2 = zex E (n + 2) (d + 1) 264 69 [some (.ref 84), some (.int 1), some (.int k)] [] h2).trans (((yCi zfw264_69) : zex E (n + 2) (d + 1) 264 69 [some (.ref 84), some (.int 1), some (.int k)] [] h2 = zex E (n + 1) (d + 1) 264 70 [some (.ref 84), some (.int 1), some (.int k)] [.int (-1)] h2).trans (((yRet1 zfw264_70 rfl) : zex E (n + 1) (d + 1) 264 70 [some (.ref 84), some (.int 1), some (.int k)] [.int (-1)] h2 = some (.inl (some (.int (-1))), h2))))))))))))))))))))
set_option maxRecDepth 100000 in
theorem rb_3 {E : zE} {n d : Nat} {h h1 h2 : zH} {k : Int32} (hp : (h2.2.1 84 10).toInt ≠ (h2.2.1 84 11).toInt) (a84 : zat h.1 84 = some (.inr (.inl (12, [none, some (some 85), some (some 86), some (some 87), some (some 88), some (some 89), none, none, some (some 90), none, none, none, none, none, none, some (some 91), none, some (some 92), some (some 93)])))) (a84_h1 : zat h1.1 84 = some (.inr (.inl (12, [none, some (some 85), some (some 86), some (some 87), some (some 88), some (some 89), none, none, some (some 90), none, none, none, none, none, none, some (some 91), none, some (some 92), some (some 93)])))) (a84_h2 : zat h2.1 84 = some (.inr (.inl (12, [none, some (some 85), some (some 86), some (some 87), some (some 88), some (some 89), none, none, some (some 90), none, none, none, none, none, none, some (some 91), none, some (some 92), some (some 93)])))) (e1 : zex E (n + 21) d 263 0 [some (.ref 84), some (.int 1), some (.int k)] [] h = some (.inl (some (.int 1)), h1)) (e2 : zex E (n + 18) d 235 0 [some (.ref 84)] [] h1 = some (.inl none, h2)) (e3 : zex E (n + 9) d 234 0 [some (.ref 84), some (.int 59), some (.int 59)] [] h2 = some (.inl (some (.int 1)), h2)) : zex E (n + 25) (d + 1) 264 28 [some (.ref 84), some (.int 1), some (.int k)] [] h = zex E n (d + 1) 264 28 [some (.ref 84), some (.int 1), some (.int (k + 1))] [] (zsetI h2 84 (upd (h2.2.1 84) 10 ((h2.2.1 84 10) + 1))) :=
  ((yAn zfw264_28 rfl rfl) : zex E (n + 25) (d + 1) 264 28 [some (.ref 84), some (.int 1), some (.int k)] [] h = zex E (n + 24) (d + 1) 264 29 [some (.ref 84), some (.int 1), some (.int k)] [.ref 84] h).trans (((yIn zfw264_29 rfl) : zex E (n + 24) (d + 1) 264 29 [some (.ref 84), some (.int 1), some (.int k)] [.ref 84] h = zex E (n + 23) (d + 1) 264 30 [some (.ref 84), some (.int 1), some (.int k)] [.int 1, .ref 84] h).trans (((yIn zfw264_30 rfl) : zex E (n + 23) (d + 1) 264 30 [some (.ref 84), some (.int 1), some (.int k)] [.int 1, .ref 84] h = zex E (n + 22) (d + 1) 264 31 [some (.ref 84), some (.int 1), some (.int k)] [.int k, .int 1, .ref 84] h).trans (((zcvg (h := h) (as := [.int 1, .int k]) (r := []) zfw264_31 znw263 rfl a84 rfl e1) : zex E (n + 22) (d + 1) 264 31 [some (.ref 84), some (.int 1), some (.int k)] [.int k, .int 1, .ref 84] h = zex E (n + 21) (d + 1) 264 34 [some (.ref 84), some (.int 1), some (.int k)] [.int 1] h1).trans (((zjnT zfw264_34 (by decide)) : zex E (n + 21) (d + 1) 264 34 [some (.ref 84), some (.int 1), some (.int k)] [.int 1] h1 = zex E (n + 20) (d + 1) 264 39 [some (.ref 84), some (.int 1), some (.int k)] [] h1).trans (((yAn zfw264_39 rfl rfl) : zex E (n + 20) (d + 1) 264 39 [some (.ref 84), some (.int 1), some (.int k)] [] h1 = zex E (n + 19) (d + 1) 264 40 [some (.ref 84), some (.int 1), some (.int k)] [.ref 84] h1).trans (((zcvg (h := h1) (as := []) (r := []) zfw264_40 znw235 rfl a84_h1 rfl e2) : zex E (n + 19) (d + 1) 264 40 [some (.ref 84), some (.int 1), some (.int k)] [.ref 84] h1 = zex E (n + 18) (d + 1) 264 43 [some (.ref 84), some (.int 1), some (.int k)] [] h2).trans (((yAn zfw264_43 rfl rfl) : zex E (n + 18) (d + 1) 264 43 [some (.ref 84), some (.int 1), some (.int k)] [] h2 = zex E (n + 17) (d + 1) 264 44 [some (.ref 84), some (.int 1), some (.int k)] [.ref 84] h2).trans (((zgi zfw264_44 a84_h2 rfl) : zex E (n + 17) (d + 1) 264 44 [some (.ref 84), some (.int 1), some (.int k)] [.ref 84] h2 = zex E (n + 16) (d + 1) 264 47 [some (.ref 84), some (.int 1), some (.int k)] [.int (h2.2.1 84 10)] h2).trans (((yAn zfw264_47 rfl rfl) : zex E (n + 16) (d + 1) 264 47 [some (.ref 84), some (.int 1), some (.int k)] [.int (h2.2.1 84 10)] h2 = zex E (n + 15) (d + 1) 264 48 [some (.ref 84), some (.int 1), some (.int k)] [.ref 84, .int (h2.2.1 84 10)] h2).trans (((zgi zfw264_48 a84_h2 rfl) : zex E (n + 15) (d + 1) 264 48 [some (.ref 84), some (.int 1), some (.int k)] [.ref 84, .int (h2.2.1 84 10)] h2 = zex E (n + 14) (d + 1) 264 51 [some (.ref 84), some (.int 1), some (.int k)] [.int (h2.2.1 84 11), .int (h2.2.1 84 10)] h2).trans (((zknT zfw264_51 hp) : zex E (n + 14) (d + 1) 264 51 [some (.ref 84), some (.int 1), some (.int k)] [.int (h2.2.1 84 11), .int (h2.2.1 84 10)] h2 = zex E (n + 13) (d + 1) 264 58 [some (.ref 84), some (.int 1), some (.int k)] [] h2).trans (((yAn zfw264_58 rfl rfl) : zex E (n + 13) (d + 1) 264 58 [some (.ref 84), some (.int 1), some (.int k)] [] h2 = zex E (n + 12) (d + 1) 264 59 [some (.ref 84), some (.int 1), some (.int k)] [.ref 84] h2).trans (((yCb zfw264_59) : zex E (n + 12) (d + 1) 264 59 [some (.ref 84), some (.int 1), some (.int k)] [.ref 84] h2 = zex E (n + 11) (d + 1) 264 61 [some (.ref 84), some (.int 1), some (.int k)] [.int 59, .ref 84] h2).trans (((yCb zfw264_61) : zex E (n + 11) (d + 1) 264 61 [some (.ref 84), some (.int 1), some (.int k)] [.int 59, .ref 84] h2 = zex E (n + 10) (d + 1) 264 63 [some (.ref 84), some (.int 1), some (.int k)] [.int 59, .int 59, .ref 84] h2).trans (((zcvg (h := h2) (as := [.int 59, .int 59]) (r := []) zfw264_63 znw234 rfl a84_h2 rfl e3) : zex E (n + 10) (d + 1) 264 63 [some (.ref 84), some (.int 1), some (.int k)] [.int 59, .int 59, .ref 84] h2 = zex E (n + 9) (d + 1) 264 66 [some (.ref 84), some (.int 1), some (.int k)] [.int 1] h2).trans (((zjnT zfw264_66 (by decide)) : zex E (n + 9) (d + 1) 264 66 [some (.ref 84), some (.int 1), some (.int k)] [.int 1] h2 = zex E (n + 8) (d + 1) 264 71 [some (.ref 84), some (.int 1), some (.int k)] [] h2).trans (((yAn zfw264_71 rfl rfl) : zex E (n + 8) (d + 1) 264 71 [some (.ref 84), some (.int 1), some (.int k)] [] h2 = zex E (n + 7) (d + 1) 264 72 [some (.ref 84), some (.int 1), some (.int k)] [.ref 84] h2).trans (((yDup zfw264_72 rfl) : zex E (n + 7) (d + 1) 264 72 [some (.ref 84), some (.int 1), some (.int k)] [.ref 84] h2 = zex E (n + 6) (d + 1) 264 73 [some (.ref 84), some (.int 1), some (.int k)] [.ref 84, .ref 84] h2).trans (((zgi zfw264_73 a84_h2 rfl) : zex E (n + 6) (d + 1) 264 73 [some (.ref 84), some (.int 1), some (.int k)] [.ref 84, .ref 84] h2 = zex E (n + 5) (d + 1) 264 76 [some (.ref 84), some (.int 1), some (.int k)] [.int (h2.2.1 84 10), .ref 84] h2).trans (((yCi zfw264_76) : zex E (n + 5) (d + 1) 264 76 [some (.ref 84), some (.int 1), some (.int k)] [.int (h2.2.1 84 10), .ref 84] h2 = zex E (n + 4) (d + 1) 264 77 [some (.ref 84), some (.int 1), some (.int k)] [.int 1, .int (h2.2.1 84 10), .ref 84] h2).trans (((yAdd zfw264_77) : zex E (n + 4) (d + 1) 264 77 [some (.ref 84), some (.int 1), some (.int k)] [.int 1, .int (h2.2.1 84 10), .ref 84] h2 = zex E (n + 3) (d + 1) 264 78 [some (.ref 84), some (.int 1), some (.int k)] [.int ((h2.2.1 84 10) + 1), .ref 84] h2).trans (((zpx zfw264_78 a84_h2 rfl) : zex E (n + 3) (d + 1) 264 78 [some (.ref 84), some (.int 1), some (.int k)] [.int ((h2.2.1 84 10) + 1), .ref 84] h2 = zex E (n + 2) (d + 1) 264 81 [some (.ref 84), some (.int 1), some (.int k)] [] (zsetI h2 84 (upd (h2.2.1 84) 10 ((h2.2.1 84 10) + 1)))).trans (((yInc zfw264_81 rfl) : zex E (n + 2) (d + 1) 264 81 [some (.ref 84), some (.int 1), some (.int k)] [] (zsetI h2 84 (upd (h2.2.1 84) 10 ((h2.2.1 84 10) + 1))) = zex E (n + 1) (d + 1) 264 84 [some (.ref 84), some (.int 1), some (.int (k + 1))] [] (zsetI h2 84 (upd (h2.2.1 84) 10 ((h2.2.1 84 10) + 1)))).trans (((yGo zfw264_84) : zex E (n + 1) (d + 1) 264 84 [some (.ref 84), some (.int 1), some (.int (k + 1))] [] (zsetI h2 84 (upd (h2.2.1 84) 10 ((h2.2.1 84 10) + 1))) = zex E n (d + 1) 264 28 [some (.ref 84), some (.int 1), some (.int (k + 1))] [] (zsetI h2 84 (upd (h2.2.1 84) 10 ((h2.2.1 84 10) + 1))))))))))))))))))))))))))))
set_option maxRecDepth 100000 in
theorem wix_t {T : Nat → Int} {L s : Nat} {u : List Nat} {ws : List (List Nat)} {k : Int} (h : wqs T L s u = true) : wix T L s (u :: ws) k = k := if_pos h
set_option maxRecDepth 100000 in
theorem wix_f {T : Nat → Int} {L s : Nat} {u : List Nat} {ws : List (List Nat)} {k : Int} (h : ¬ wqs T L s u = true) : wix T L s (u :: ws) k = wix T L s ws (k + 1) := if_neg h
set_option maxRecDepth 100000 in
theorem lnM_e {h : zH} {σ : hSt} {h0 : zH} {L : Nat} {r : (hSt × Nat) ⊕ Nat} {o o' : Option zR} (e : o = o') (k : lnM h σ h0 L r o') : lnM h σ h0 L r o := by rw [e]; exact k
set_option maxRecDepth 100000 in
theorem lnM_q {h h1 : zH} {σ : hSt} {h0 : zH} {L : Nat} {r : (hSt × Nat) ⊕ Nat} {o : Option zR} (q : QS h h1) (k : lnM h1 σ h0 L r o) : lnM h σ h0 L r o := by
  cases r with
  | inr w => exact k
  | inl x =>
    obtain ⟨σ', e⟩ := x
    obtain ⟨h', p, b, k1, k2, k3, k4, k5⟩ := k
    exact ⟨h', p, b, k1, k2, k3, k4, fun hN hZ => k5 (RN_q q rfl rfl hN) hZ⟩
set_option maxRecDepth 100000 in
theorem ln_stepM {h : zH} {σ : hSt} {h0 : zH} {L : Nat} {r : (hSt × Nat) ⊕ Nat} {o : Option zR} (k : lnM h σ h0 L r o) : ∃ (v : Int32) (h' : zH), (v = 0 ∨ v = 1) ∧ o = some (.inl (some (.int v)), h') ∧ ∀ o', o' = some (.inl (some (.int v)), h') → lnM h σ h0 L r o' := by
  cases r with
  | inl q =>
    obtain ⟨σ', e⟩ := q
    obtain ⟨h', p, b, k1, k2⟩ := k
    exact ⟨1, h', Or.inr rfl, k1, fun o' ho => ⟨h', p, b, ho, k2⟩⟩
  | inr w =>
    obtain ⟨h', p, k1, k2⟩ := k
    exact ⟨0, h', Or.inl rfl, k1, fun o' ho => ⟨h', p, ho, k2⟩⟩
set_option maxRecDepth 100000 in
theorem xi14 : (14 : Int32).toInt = 14 := by decide
set_option maxRecDepth 100000 in
theorem xi59 : (59 : Int32).toInt = 59 := by decide
set_option maxRecDepth 100000 in
theorem xim1 : (-1 : Int32).toInt = -1 := by decide
set_option maxRecDepth 100000 in
theorem biv840M : biv 84 0 = (-2147483648, 2147483647) := rfl
set_option maxRecDepth 100000 in
theorem biv849M : biv 84 9 = (0, 400) := rfl
set_option maxRecDepth 100000 in
theorem biv8410 : biv 84 10 = (0, 400) := rfl
set_option maxRecDepth 100000 in
theorem biv8411 : biv 84 11 = (0, 400) := rfl
set_option maxRecDepth 100000 in
theorem wY8410 : Nat.testBit wY (bun 84 10) = true := by decide +kernel
set_option maxRecDepth 100000 in
theorem wY8411 : Nat.testBit wY (bun 84 11) = true := by decide +kernel
set_option maxRecDepth 100000 in
theorem wY840 : Nat.testBit wY (bun 84 0) = true := by decide +kernel
set_option maxRecDepth 100000 in
theorem wY849 : Nat.testBit wY (bun 84 9) = true := by decide +kernel
set_option maxRecDepth 100000 in
theorem wY8416 : Nat.testBit wY (bun 84 16) = true := by decide +kernel
set_option maxRecDepth 100000 in
theorem tw_b {T : Nat → Int} {L s : Nat} {h1 h2 a b : Int} {e : Nat} (h : twoq T L s h1 h2 = .inl (a, b, e)) : (0 ≤ a ∧ a ≤ h1) ∧ 0 ≤ b ∧ b ≤ h2 := by
  unfold twoq at h
  cases hn1 : nmq T L s 0 h1 with
  | none => rw [hn1] at h; cases h
  | some v1 =>
    rw [hn1] at h
    dsimp only at h
    cases hn2 : nmq T L (nxt T L s) 0 h2 with
    | none => rw [hn2] at h; cases h
    | some v2 =>
      rw [hn2] at h
      have b1 := nmq_b hn1
      have b2 := nmq_b hn2
      injection h with h
      injection h with e1 h
      injection h with e2 e3
      omega
set_option maxRecDepth 100000 in
theorem upf_n {f : Nat → Int} {a b : Int} {i : Nat} (h : i ≠ a.toNat) : upf f a b i = f i := if_neg h
set_option maxRecDepth 100000 in
theorem hb_pos {T : Nat → Int} {L R : Nat} {l : List (Nat × Nat)} : ∀ (m k fi la : Nat) (w : Nat → Nat) (s n : Nat) (w' : Nat → Nat) (e : Nat), hbq T L R l m k fi la w s = .inl (n, w', e) → k < n
  | 0, _, _, _, _, _, _, _, _, h => by cases h
  | m + 1, k, fi, la, w, s, n, w', e, h => by
    unfold hbq at h
    by_cases h12 : 12 ≤ k
    · rw [if_pos h12] at h; cases h
    · rw [if_neg h12] at h
      cases hn : nmq T L s 0 ((R : Int) - 1) with
      | none => rw [hn] at h; cases h
      | some v =>
        rw [hn] at h
        dsimp only at h
        by_cases c1 : k ≠ 0 ∧ lead l la v.toNat = false
        · rw [if_pos c1] at h; cases h
        · rw [if_neg c1] at h
          by_cases c2 : kK T L (nxt T L s) = 1
          · rw [if_pos c2] at h
            have := hb_pos m (k + 1) _ _ _ _ n w' e h
            omega
          · rw [if_neg c2] at h
            by_cases c3 : lead l v.toNat (if k = 0 then v.toNat else fi) = true
            · rw [if_pos c3] at h
              injection h with h
              injection h with e1 h
              omega
            · rw [if_neg c3] at h; cases h
set_option maxRecDepth 100000 in
theorem hl_wz {T : Nat → Int} {L s : Nat} {σ σ' : hSt} {e : Nat} (hW : WF σ) (hZ : WZ σ) (hl : hlq T L σ s = .inl (σ', e)) : WZ σ' := by
  obtain ⟨w1, w2, w3, w4, w5, w6⟩ := id hW
  obtain ⟨z1, z2, z3⟩ := id hZ
  unfold hlq at hl
  split at hl
  · unfold roomq at hl
    by_cases c1 : 12 ≤ sR σ
    · rw [if_pos c1] at hl; cases hl
    · rw [if_neg c1] at hl
      by_cases c2 : uSorts.any (wqs T L (nxt T L s)) = true
      · rw [if_pos c2] at hl
        cases hn : nmq T L (nxt T L (nxt T L s)) 1 99 with
        | none => rw [hn] at hl; cases hl
        | some v =>
          rw [hn] at hl
          injection hl with hl
          injection hl with e1 e2
          subst e1
          exact ⟨fun hc r hr h12 => z1 hc r (by have hr : sR σ + 1 ≤ r := hr; omega) h12, z2, z3⟩
      · rw [if_neg c2] at hl; cases hl
  · unfold doorq at hl
    by_cases c1 : 20 ≤ sD σ
    · rw [if_pos c1] at hl; cases hl
    · rw [if_neg c1] at hl
      cases ht : twoq T L (nxt T L s) ((sR σ : Int) - 1) ((sR σ : Int) - 1) with
      | inr w => rw [ht] at hl; cases hl
      | inl q =>
        obtain ⟨a, b, e9⟩ := q
        rw [ht] at hl
        dsimp only at hl
        by_cases c2 : a = b
        · rw [if_pos c2] at hl; cases hl
        · rw [if_neg c2] at hl
          injection hl with hl
          injection hl with e1 e2
          subst e1
          exact ⟨z1, z2, z3⟩
  · unfold perq at hl
    by_cases c1 : 8 ≤ sP σ
    · rw [if_pos c1] at hl; cases hl
    · rw [if_neg c1] at hl
      cases hb : hbq T L (sR σ) (sdl σ) 13 0 0 0 (fun _ => 0) (nxt T L s) with
      | inr w => rw [hb] at hl; cases hl
      | inl q =>
        obtain ⟨n, w, e9⟩ := q
        have hp := hb_pos 13 0 0 0 _ _ n w e9 hb
        rw [hb] at hl
        injection hl with hl
        injection hl with e1 e2
        subst e1
        refine ⟨z1, fun p hp1 hp8 => z2 p (by have hp1 : sP σ + 1 ≤ p := hp1; omega) hp8, fun p hp1 hc => ?_⟩
        have hp1 : p < sP σ + 1 := hp1
        show 0 ≤ spl σ p ∧ spl σ p < (((if p = sP σ then n else ssl σ p) : Nat) : Int)
        by_cases hps : p = sP σ
        · rw [if_pos hps, (z2 p (by omega) (by omega)).1 hc]; omega
        · rw [if_neg hps]; exact z3 p (by omega) hc
  · unfold loadq at hl
    cases ht : twoq T L (nxt T L s) ((sP σ : Int) - 1) 9999 with
    | inr w => rw [ht] at hl; cases hl
    | inl q =>
      obtain ⟨a, b, e9⟩ := q
      rw [ht] at hl
      injection hl with hl
      injection hl with e1 e2
      subst e1
      exact hZ
  · unfold sandq at hl
    cases hn : nmq T L (nxt T L s) 0 ((sR σ : Int) - 1) with
    | none => rw [hn] at hl; cases hl
    | some v =>
      rw [hn] at hl
      dsimp only at hl
      cases ht : twoq T L (nxt T L (nxt T L s)) ((sP σ : Int) - 1) 9999 with
      | inr w => rw [ht] at hl; cases hl
      | inl q =>
        obtain ⟨a, b, e9⟩ := q
        rw [ht] at hl
        injection hl with hl
        injection hl with e1 e2
        subst e1
        exact hZ
  · unfold toolq at hl
    cases ht : twoq T L (nxt T L s) ((sR σ : Int) - 1) 100 with
    | inr w => rw [ht] at hl; cases hl
    | inl q =>
      obtain ⟨a, b, e9⟩ := q
      have tb := tw_b ht
      rw [ht] at hl
      injection hl with hl
      injection hl with e1 e2
      subst e1
      exact ⟨fun hc r hr h12 => (upf_n (by have hr : sR σ ≤ r := hr; omega)).trans (z1 hc r hr h12), z2, z3⟩
  · unfold keepq at hl
    cases ht : twoq T L (nxt T L s) ((sP σ : Int) - 1) 100 with
    | inr w => rw [ht] at hl; cases hl
    | inl q =>
      obtain ⟨a, b, e9⟩ := q
      rw [ht] at hl
      injection hl with hl
      injection hl with e1 e2
      subst e1
      exact ⟨z1, z2, z3⟩
  · unfold wetq at hl
    cases ht : twoq T L (nxt T L s) ((sP σ : Int) - 1) 99 with
    | inr w => rw [ht] at hl; cases hl
    | inl q =>
      obtain ⟨a, b, e9⟩ := q
      have tb := tw_b ht
      rw [ht] at hl
      injection hl with hl
      injection hl with e1 e2
      subst e1
      exact ⟨z1, fun p hp h8 => ⟨(z2 p hp h8).1, fun hc => (upf_n (by have hp : sP σ ≤ p := hp; omega)).trans ((z2 p hp h8).2 hc)⟩, z3⟩
  · unfold clogq at hl
    cases hn : nmq T L (nxt T L s) 0 99999 with
    | none => rw [hn] at hl; cases hl
    | some v =>
      rw [hn] at hl
      injection hl with hl
      injection hl with e1 e2
      subst e1
      exact hZ
  · cases hl
def raM (h : zH) (σ0 : hSt) (h0 : zH) (L : Nat) (r : hSt ⊕ Nat) (o : Option zR) : Prop := match r with
  | .inr w => ∃ h' p, o = some (.inl (some (.int (-1))), h') ∧ YT h0 L h' p w
  | .inl σ => ∃ (x : Int32) (h' : zH) (p b : Nat), o = some (.inl (some (.int x)), h') ∧ 0 ≤ x.toInt ∧ YT h0 L h' p b ∧ RM h' σ ∧ WF σ ∧ (RN h σ0 → WZ σ0 → RN h' σ ∧ WZ σ)
set_option maxRecDepth 100000 in
theorem raM_e {h : zH} {σ : hSt} {h0 : zH} {L : Nat} {r : hSt ⊕ Nat} {o o' : Option zR} (e : o = o') (k : raM h σ h0 L r o') : raM h σ h0 L r o := by rw [e]; exact k
set_option maxRecDepth 100000 in
theorem raM_q {h h1 : zH} {σ σ1 : hSt} {h0 : zH} {L : Nat} {r : hSt ⊕ Nat} {o : Option zR} (q : RN h σ → WZ σ → RN h1 σ1 ∧ WZ σ1) (k : raM h1 σ1 h0 L r o) : raM h σ h0 L r o := by
  cases r with
  | inr w => exact k
  | inl x =>
    obtain ⟨y, h', p, b, k1, k2, k3, k4, k5, k6⟩ := k
    exact ⟨y, h', p, b, k1, k2, k3, k4, k5, fun hN hZ => k6 (q hN hZ).1 (q hN hZ).2⟩
section MD
variable {E : zE} {B F : Nat} {h0 h : zH} {L p b s : Nat} {σ : hSt}
set_option maxRecDepth 100000 in
theorem lineM4 (hE : E.1 < 2147483648) (hsm : bSO E ctb B (60, smT)) (hF : 1000000 ≤ F) (hL : L ≤ 400) {q : Nat} (hq : q ≤ L) (hp : p = sk isLt (tp90 h0) L s) (hs : s = sk isBl (tp90 h0) L q) (ht : YT h0 L h p s) (hR : RM h σ) (hW : WF σ) :
    ∀ d f, 70 ≤ d → B + F * 9900 ≤ f → lnM h σ h0 L (hlq (tp90 h0) L σ s) (zex E f d 254 0 [some (.ref 84)] [] h) := by
  intro d f hd hf
  obtain ⟨d', hd'⟩ : ∃ d', d = d' + 1 := ⟨d - 1, by omega⟩
  obtain ⟨n, hn⟩ : ∃ n, f = n + 100 := ⟨f - 100, by omega⟩
  subst hd' hn
  have st : ∀ {h : zH} (ht : YT h0 L h p s) {w : Nat} {u : List Nat} (hw : (w, u) ∈ mws) (hu : u ≠ []) (f : Nat), B + 1000000 ≤ f → ∃ h', zex E f d' 237 0 [some (.ref 84), some (.retAddr w), none, none] [] h = some (.inl (some (.int (if wqs (tp90 h0) L s u = true then 1 else 0))), h') ∧ RW h h' ∧ YT h0 L h' p s := fun {h} ht {w u} hw hu f hf => y_word hE hsm hF hL hq hp hs ht hw hu d' f (by omega) hf
  by_cases q0 : wqs (tp90 h0) L s [114, 111, 111, 109] = true
  · obtain ⟨h1, e1, r1, y1⟩ := st ht (w := 23) (u := [114, 111, 111, 109]) (by decide) (by decide) (n + 97) (by omega)
    rw [if_pos q0] at e1
    have hw : wix (tp90 h0) L s uHouse 0 = 0 := (wix_t q0)
    unfold hlq
    rw [hw]
    show lnM h σ h0 L (roomq (tp90 h0) L σ s) _
    have hk : sk isBl (tp90 h0) L p = nxt (tp90 h0) L s := by rw [hp]; show _ = sk isBl (tp90 h0) L (kE (tp90 h0) L s); rw [kE_2 (wqs_2 q0)]
    have hR9 := RM_w hR hW r1
    obtain ⟨v, hz, hv, eL, kk⟩ := ln_stepM (lnM_q (QS_w r1) <| roomM hE hsm hF hL y1 hk hR9 hW d' (n + 94) (by omega) (by omega))
    exact kk _ (mh_l0 (n := n + 93) (d := d') hv (b84_ha ht.1) (b84_ha y1.1) e1 eL)
  · skip
    by_cases q1 : wqs (tp90 h0) L s [100, 111, 111, 114] = true
    · obtain ⟨h1, e1, r1, y1⟩ := st ht (w := 23) (u := [114, 111, 111, 109]) (by decide) (by decide) (n + 97) (by omega)
      rw [if_neg q0] at e1
      obtain ⟨h2, e2, r2, y2⟩ := st y1 (w := 29) (u := [100, 111, 111, 114]) (by decide) (by decide) (n + 93) (by omega)
      rw [if_pos q1] at e2
      have hw : wix (tp90 h0) L s uHouse 0 = 1 := ((wix_f q0).trans (wix_t q1))
      unfold hlq
      rw [hw]
      show lnM h σ h0 L (doorq (tp90 h0) L σ s) _
      have hk : sk isBl (tp90 h0) L p = nxt (tp90 h0) L s := by rw [hp]; show _ = sk isBl (tp90 h0) L (kE (tp90 h0) L s); rw [kE_2 (wqs_2 q1)]
      have hR9 := RM_w hR hW (RW_t r1 r2)
      obtain ⟨v, hz, hv, eL, kk⟩ := ln_stepM (lnM_q (QS_w (RW_t r1 r2)) <| doorM hE hsm hF hL y2 hk hR9 hW d' (n + 90) (by omega) (by omega))
      exact kk _ (mh_l1 (n := n + 89) (d := d') hv (b84_ha ht.1) (b84_ha y1.1) (b84_ha y2.1) e1 e2 eL)
    · skip
      by_cases q2 : wqs (tp90 h0) L s [112, 101, 114, 115, 111, 110] = true
      · obtain ⟨h1, e1, r1, y1⟩ := st ht (w := 23) (u := [114, 111, 111, 109]) (by decide) (by decide) (n + 97) (by omega)
        rw [if_neg q0] at e1
        obtain ⟨h2, e2, r2, y2⟩ := st y1 (w := 29) (u := [100, 111, 111, 114]) (by decide) (by decide) (n + 93) (by omega)
        rw [if_neg q1] at e2
        obtain ⟨h3, e3, r3, y3⟩ := st y2 (w := 30) (u := [112, 101, 114, 115, 111, 110]) (by decide) (by decide) (n + 89) (by omega)
        rw [if_pos q2] at e3
        have hw : wix (tp90 h0) L s uHouse 0 = 2 := ((wix_f q0).trans ((wix_f q1).trans (wix_t q2)))
        unfold hlq
        rw [hw]
        show lnM h σ h0 L (perq (tp90 h0) L σ s) _
        have hk : sk isBl (tp90 h0) L p = nxt (tp90 h0) L s := by rw [hp]; show _ = sk isBl (tp90 h0) L (kE (tp90 h0) L s); rw [kE_2 (wqs_2 q2)]
        have hR9 := RM_w hR hW (RW_t (RW_t r1 r2) r3)
        obtain ⟨v, hz, hv, eL, kk⟩ := ln_stepM (lnM_q (QS_w (RW_t (RW_t r1 r2) r3)) <| personM hE hsm hF hL y3 hk hR9 hW d' (n + 86) (by omega) (by omega))
        exact kk _ (mh_l2 (n := n + 85) (d := d') hv (b84_ha ht.1) (b84_ha y1.1) (b84_ha y2.1) (b84_ha y3.1) e1 e2 e3 eL)
      · skip
        by_cases q3 : wqs (tp90 h0) L s [108, 111, 97, 100] = true
        · obtain ⟨h1, e1, r1, y1⟩ := st ht (w := 23) (u := [114, 111, 111, 109]) (by decide) (by decide) (n + 97) (by omega)
          rw [if_neg q0] at e1
          obtain ⟨h2, e2, r2, y2⟩ := st y1 (w := 29) (u := [100, 111, 111, 114]) (by decide) (by decide) (n + 93) (by omega)
          rw [if_neg q1] at e2
          obtain ⟨h3, e3, r3, y3⟩ := st y2 (w := 30) (u := [112, 101, 114, 115, 111, 110]) (by decide) (by decide) (n + 89) (by omega)
          rw [if_neg q2] at e3
          obtain ⟨h4, e4, r4, y4⟩ := st y3 (w := 31) (u := [108, 111, 97, 100]) (by decide) (by decide) (n + 85) (by omega)
          rw [if_pos q3] at e4
          have hw : wix (tp90 h0) L s uHouse 0 = 3 := ((wix_f q0).trans ((wix_f q1).trans ((wix_f q2).trans (wix_t q3))))
          unfold hlq
          rw [hw]
          show lnM h σ h0 L (loadq (tp90 h0) L σ s) _
          have hk : sk isBl (tp90 h0) L p = nxt (tp90 h0) L s := by rw [hp]; show _ = sk isBl (tp90 h0) L (kE (tp90 h0) L s); rw [kE_2 (wqs_2 q3)]
          have hR9 := RM_w hR hW (RW_t (RW_t (RW_t r1 r2) r3) r4)
          obtain ⟨v, hz, hv, eL, kk⟩ := ln_stepM (lnM_q (QS_w (RW_t (RW_t (RW_t r1 r2) r3) r4)) <| loadM hE hsm hF hL y4 hk hR9 hW d' (n + 82) (by omega) (by omega))
          exact kk _ (mh_l3 (n := n + 81) (d := d') hv (b84_ha ht.1) (b84_ha y1.1) (b84_ha y2.1) (b84_ha y3.1) (b84_ha y4.1) e1 e2 e3 e4 eL)
        · skip
          by_cases q4 : wqs (tp90 h0) L s [115, 97, 110, 100] = true
          · obtain ⟨h1, e1, r1, y1⟩ := st ht (w := 23) (u := [114, 111, 111, 109]) (by decide) (by decide) (n + 97) (by omega)
            rw [if_neg q0] at e1
            obtain ⟨h2, e2, r2, y2⟩ := st y1 (w := 29) (u := [100, 111, 111, 114]) (by decide) (by decide) (n + 93) (by omega)
            rw [if_neg q1] at e2
            obtain ⟨h3, e3, r3, y3⟩ := st y2 (w := 30) (u := [112, 101, 114, 115, 111, 110]) (by decide) (by decide) (n + 89) (by omega)
            rw [if_neg q2] at e3
            obtain ⟨h4, e4, r4, y4⟩ := st y3 (w := 31) (u := [108, 111, 97, 100]) (by decide) (by decide) (n + 85) (by omega)
            rw [if_neg q3] at e4
            obtain ⟨h5, e5, r5, y5⟩ := st y4 (w := 32) (u := [115, 97, 110, 100]) (by decide) (by decide) (n + 81) (by omega)
            rw [if_pos q4] at e5
            have hw : wix (tp90 h0) L s uHouse 0 = 4 := ((wix_f q0).trans ((wix_f q1).trans ((wix_f q2).trans ((wix_f q3).trans (wix_t q4)))))
            unfold hlq
            rw [hw]
            show lnM h σ h0 L (sandq (tp90 h0) L σ s) _
            have hk : sk isBl (tp90 h0) L p = nxt (tp90 h0) L s := by rw [hp]; show _ = sk isBl (tp90 h0) L (kE (tp90 h0) L s); rw [kE_2 (wqs_2 q4)]
            have hR9 := RM_w hR hW (RW_t (RW_t (RW_t (RW_t r1 r2) r3) r4) r5)
            obtain ⟨v, hz, hv, eL, kk⟩ := ln_stepM (lnM_q (QS_w (RW_t (RW_t (RW_t (RW_t r1 r2) r3) r4) r5)) <| sandM hE hsm hF hL y5 hk hR9 hW d' (n + 78) (by omega) (by omega))
            exact kk _ (mh_l4 (n := n + 77) (d := d') hv (b84_ha ht.1) (b84_ha y1.1) (b84_ha y2.1) (b84_ha y3.1) (b84_ha y4.1) (b84_ha y5.1) e1 e2 e3 e4 e5 eL)
          · skip
            by_cases q5 : wqs (tp90 h0) L s [116, 111, 111, 108] = true
            · obtain ⟨h1, e1, r1, y1⟩ := st ht (w := 23) (u := [114, 111, 111, 109]) (by decide) (by decide) (n + 97) (by omega)
              rw [if_neg q0] at e1
              obtain ⟨h2, e2, r2, y2⟩ := st y1 (w := 29) (u := [100, 111, 111, 114]) (by decide) (by decide) (n + 93) (by omega)
              rw [if_neg q1] at e2
              obtain ⟨h3, e3, r3, y3⟩ := st y2 (w := 30) (u := [112, 101, 114, 115, 111, 110]) (by decide) (by decide) (n + 89) (by omega)
              rw [if_neg q2] at e3
              obtain ⟨h4, e4, r4, y4⟩ := st y3 (w := 31) (u := [108, 111, 97, 100]) (by decide) (by decide) (n + 85) (by omega)
              rw [if_neg q3] at e4
              obtain ⟨h5, e5, r5, y5⟩ := st y4 (w := 32) (u := [115, 97, 110, 100]) (by decide) (by decide) (n + 81) (by omega)
              rw [if_neg q4] at e5
              obtain ⟨h6, e6, r6, y6⟩ := st y5 (w := 33) (u := [116, 111, 111, 108]) (by decide) (by decide) (n + 77) (by omega)
              rw [if_pos q5] at e6
              have hw : wix (tp90 h0) L s uHouse 0 = 5 := ((wix_f q0).trans ((wix_f q1).trans ((wix_f q2).trans ((wix_f q3).trans ((wix_f q4).trans (wix_t q5))))))
              unfold hlq
              rw [hw]
              show lnM h σ h0 L (toolq (tp90 h0) L σ s) _
              have hk : sk isBl (tp90 h0) L p = nxt (tp90 h0) L s := by rw [hp]; show _ = sk isBl (tp90 h0) L (kE (tp90 h0) L s); rw [kE_2 (wqs_2 q5)]
              have hR9 := RM_w hR hW (RW_t (RW_t (RW_t (RW_t (RW_t r1 r2) r3) r4) r5) r6)
              obtain ⟨v, hz, hv, eL, kk⟩ := ln_stepM (lnM_q (QS_w (RW_t (RW_t (RW_t (RW_t (RW_t r1 r2) r3) r4) r5) r6)) <| toolM hE hsm hF hL y6 hk hR9 hW d' (n + 74) (by omega) (by omega))
              exact kk _ (mh_l5 (n := n + 73) (d := d') hv (b84_ha ht.1) (b84_ha y1.1) (b84_ha y2.1) (b84_ha y3.1) (b84_ha y4.1) (b84_ha y5.1) (b84_ha y6.1) e1 e2 e3 e4 e5 e6 eL)
            · skip
              by_cases q6 : wqs (tp90 h0) L s [107, 101, 101, 112, 115] = true
              · obtain ⟨h1, e1, r1, y1⟩ := st ht (w := 23) (u := [114, 111, 111, 109]) (by decide) (by decide) (n + 97) (by omega)
                rw [if_neg q0] at e1
                obtain ⟨h2, e2, r2, y2⟩ := st y1 (w := 29) (u := [100, 111, 111, 114]) (by decide) (by decide) (n + 93) (by omega)
                rw [if_neg q1] at e2
                obtain ⟨h3, e3, r3, y3⟩ := st y2 (w := 30) (u := [112, 101, 114, 115, 111, 110]) (by decide) (by decide) (n + 89) (by omega)
                rw [if_neg q2] at e3
                obtain ⟨h4, e4, r4, y4⟩ := st y3 (w := 31) (u := [108, 111, 97, 100]) (by decide) (by decide) (n + 85) (by omega)
                rw [if_neg q3] at e4
                obtain ⟨h5, e5, r5, y5⟩ := st y4 (w := 32) (u := [115, 97, 110, 100]) (by decide) (by decide) (n + 81) (by omega)
                rw [if_neg q4] at e5
                obtain ⟨h6, e6, r6, y6⟩ := st y5 (w := 33) (u := [116, 111, 111, 108]) (by decide) (by decide) (n + 77) (by omega)
                rw [if_neg q5] at e6
                obtain ⟨h7, e7, r7, y7⟩ := st y6 (w := 34) (u := [107, 101, 101, 112, 115]) (by decide) (by decide) (n + 73) (by omega)
                rw [if_pos q6] at e7
                have hw : wix (tp90 h0) L s uHouse 0 = 6 := ((wix_f q0).trans ((wix_f q1).trans ((wix_f q2).trans ((wix_f q3).trans ((wix_f q4).trans ((wix_f q5).trans (wix_t q6)))))))
                unfold hlq
                rw [hw]
                show lnM h σ h0 L (keepq (tp90 h0) L σ s) _
                have hk : sk isBl (tp90 h0) L p = nxt (tp90 h0) L s := by rw [hp]; show _ = sk isBl (tp90 h0) L (kE (tp90 h0) L s); rw [kE_2 (wqs_2 q6)]
                have hR9 := RM_w hR hW (RW_t (RW_t (RW_t (RW_t (RW_t (RW_t r1 r2) r3) r4) r5) r6) r7)
                obtain ⟨v, hz, hv, eL, kk⟩ := ln_stepM (lnM_q (QS_w (RW_t (RW_t (RW_t (RW_t (RW_t (RW_t r1 r2) r3) r4) r5) r6) r7)) <| kwM hE hsm hF hL y7 hk hR9 hW (j9 := 1) (m9 := 100) (b := 1) (mo := 100) int1 xi100 (by decide) (fun q hq => by rw [show 185 + 24 * q + 1 = 186 + 24 * q by omega]; exact (bd_pers q hq).2.1) (r := keepq (tp90 h0) L σ s) (fun w h => by unfold keepq; rw [h]) (fun a c e h => ⟨(σ.1, sdl σ, ssl σ, swk σ, spt σ, spl σ, upf (skp σ) a c, swt σ), by unfold keepq; rw [h], rfl, ⟨rfl, rfl, rfl⟩, rfl, rfl, fun _ => ⟨rfl, rfl⟩, fun z => absurd z (by decide)⟩) d' (n + 68) (by omega) (by omega))
                exact kk _ (mh_l6 (n := n + 67) (d := d') hv (b84_ha ht.1) (b84_ha y1.1) (b84_ha y2.1) (b84_ha y3.1) (b84_ha y4.1) (b84_ha y5.1) (b84_ha y6.1) (b84_ha y7.1) e1 e2 e3 e4 e5 e6 e7 eL)
              · skip
                by_cases q7 : wqs (tp90 h0) L s [119, 101, 116] = true
                · obtain ⟨h1, e1, r1, y1⟩ := st ht (w := 23) (u := [114, 111, 111, 109]) (by decide) (by decide) (n + 97) (by omega)
                  rw [if_neg q0] at e1
                  obtain ⟨h2, e2, r2, y2⟩ := st y1 (w := 29) (u := [100, 111, 111, 114]) (by decide) (by decide) (n + 93) (by omega)
                  rw [if_neg q1] at e2
                  obtain ⟨h3, e3, r3, y3⟩ := st y2 (w := 30) (u := [112, 101, 114, 115, 111, 110]) (by decide) (by decide) (n + 89) (by omega)
                  rw [if_neg q2] at e3
                  obtain ⟨h4, e4, r4, y4⟩ := st y3 (w := 31) (u := [108, 111, 97, 100]) (by decide) (by decide) (n + 85) (by omega)
                  rw [if_neg q3] at e4
                  obtain ⟨h5, e5, r5, y5⟩ := st y4 (w := 32) (u := [115, 97, 110, 100]) (by decide) (by decide) (n + 81) (by omega)
                  rw [if_neg q4] at e5
                  obtain ⟨h6, e6, r6, y6⟩ := st y5 (w := 33) (u := [116, 111, 111, 108]) (by decide) (by decide) (n + 77) (by omega)
                  rw [if_neg q5] at e6
                  obtain ⟨h7, e7, r7, y7⟩ := st y6 (w := 34) (u := [107, 101, 101, 112, 115]) (by decide) (by decide) (n + 73) (by omega)
                  rw [if_neg q6] at e7
                  obtain ⟨h8, e8, r8, y8⟩ := st y7 (w := 35) (u := [119, 101, 116]) (by decide) (by decide) (n + 69) (by omega)
                  rw [if_pos q7] at e8
                  have hw : wix (tp90 h0) L s uHouse 0 = 7 := ((wix_f q0).trans ((wix_f q1).trans ((wix_f q2).trans ((wix_f q3).trans ((wix_f q4).trans ((wix_f q5).trans ((wix_f q6).trans (wix_t q7))))))))
                  unfold hlq
                  rw [hw]
                  show lnM h σ h0 L (wetq (tp90 h0) L σ s) _
                  have hk : sk isBl (tp90 h0) L p = nxt (tp90 h0) L s := by rw [hp]; show _ = sk isBl (tp90 h0) L (kE (tp90 h0) L s); rw [kE_2 (wqs_2 q7)]
                  have hR9 := RM_w hR hW (RW_t (RW_t (RW_t (RW_t (RW_t (RW_t (RW_t r1 r2) r3) r4) r5) r6) r7) r8)
                  obtain ⟨v, hz, hv, eL, kk⟩ := ln_stepM (lnM_q (QS_w (RW_t (RW_t (RW_t (RW_t (RW_t (RW_t (RW_t r1 r2) r3) r4) r5) r6) r7) r8)) <| kwM hE hsm hF hL y8 hk hR9 hW (j9 := 2) (m9 := 99) (b := 2) (mo := 99) int2 int99 (by decide) (fun q hq => by rw [show 185 + 24 * q + 2 = 187 + 24 * q by omega]; exact (bd_pers q hq).2.2.1) (r := wetq (tp90 h0) L σ s) (fun w h => by unfold wetq; rw [h]) (fun a c e h => ⟨(σ.1, sdl σ, ssl σ, swk σ, spt σ, spl σ, skp σ, upf (swt σ) a c), by unfold wetq; rw [h], rfl, ⟨rfl, rfl, rfl⟩, rfl, rfl, fun z => absurd z (by decide), fun _ => ⟨rfl, rfl⟩⟩) d' (n + 64) (by omega) (by omega))
                  exact kk _ (mh_l7 (n := n + 63) (d := d') hv (b84_ha ht.1) (b84_ha y1.1) (b84_ha y2.1) (b84_ha y3.1) (b84_ha y4.1) (b84_ha y5.1) (b84_ha y6.1) (b84_ha y7.1) (b84_ha y8.1) e1 e2 e3 e4 e5 e6 e7 e8 eL)
                · skip
                  by_cases q8 : wqs (tp90 h0) L s [99, 108, 111, 103] = true
                  · obtain ⟨h1, e1, r1, y1⟩ := st ht (w := 23) (u := [114, 111, 111, 109]) (by decide) (by decide) (n + 97) (by omega)
                    rw [if_neg q0] at e1
                    obtain ⟨h2, e2, r2, y2⟩ := st y1 (w := 29) (u := [100, 111, 111, 114]) (by decide) (by decide) (n + 93) (by omega)
                    rw [if_neg q1] at e2
                    obtain ⟨h3, e3, r3, y3⟩ := st y2 (w := 30) (u := [112, 101, 114, 115, 111, 110]) (by decide) (by decide) (n + 89) (by omega)
                    rw [if_neg q2] at e3
                    obtain ⟨h4, e4, r4, y4⟩ := st y3 (w := 31) (u := [108, 111, 97, 100]) (by decide) (by decide) (n + 85) (by omega)
                    rw [if_neg q3] at e4
                    obtain ⟨h5, e5, r5, y5⟩ := st y4 (w := 32) (u := [115, 97, 110, 100]) (by decide) (by decide) (n + 81) (by omega)
                    rw [if_neg q4] at e5
                    obtain ⟨h6, e6, r6, y6⟩ := st y5 (w := 33) (u := [116, 111, 111, 108]) (by decide) (by decide) (n + 77) (by omega)
                    rw [if_neg q5] at e6
                    obtain ⟨h7, e7, r7, y7⟩ := st y6 (w := 34) (u := [107, 101, 101, 112, 115]) (by decide) (by decide) (n + 73) (by omega)
                    rw [if_neg q6] at e7
                    obtain ⟨h8, e8, r8, y8⟩ := st y7 (w := 35) (u := [119, 101, 116]) (by decide) (by decide) (n + 69) (by omega)
                    rw [if_neg q7] at e8
                    obtain ⟨h9, e9, r9, y9⟩ := st y8 (w := 36) (u := [99, 108, 111, 103]) (by decide) (by decide) (n + 65) (by omega)
                    rw [if_pos q8] at e9
                    have hw : wix (tp90 h0) L s uHouse 0 = 8 := ((wix_f q0).trans ((wix_f q1).trans ((wix_f q2).trans ((wix_f q3).trans ((wix_f q4).trans ((wix_f q5).trans ((wix_f q6).trans ((wix_f q7).trans (wix_t q8)))))))))
                    unfold hlq
                    rw [hw]
                    show lnM h σ h0 L (clogq (tp90 h0) L σ s) _
                    have hk : sk isBl (tp90 h0) L p = nxt (tp90 h0) L s := by rw [hp]; show _ = sk isBl (tp90 h0) L (kE (tp90 h0) L s); rw [kE_2 (wqs_2 q8)]
                    have hR9 := RM_w hR hW (RW_t (RW_t (RW_t (RW_t (RW_t (RW_t (RW_t (RW_t r1 r2) r3) r4) r5) r6) r7) r8) r9)
                    exact lnM_e (mh_l8 (n := n + 64) (d := d') (b84_ha ht.1) (b84_ha y1.1) (b84_ha y2.1) (b84_ha y3.1) (b84_ha y4.1) (b84_ha y5.1) (b84_ha y6.1) (b84_ha y7.1) (b84_ha y8.1) e1 e2 e3 e4 e5 e6 e7 e8 e9) (lnM_q (QS_w (RW_t (RW_t (RW_t (RW_t (RW_t (RW_t (RW_t (RW_t r1 r2) r3) r4) r5) r6) r7) r8) r9)) <| clogM hE hsm hF hL y9 hk hR9 hW (d' + 1) (n + 64) (by omega) (by omega))
                  · skip
                    obtain ⟨h1, e1, r1, y1⟩ := st ht (w := 23) (u := [114, 111, 111, 109]) (by decide) (by decide) (n + 97) (by omega)
                    rw [if_neg q0] at e1
                    obtain ⟨h2, e2, r2, y2⟩ := st y1 (w := 29) (u := [100, 111, 111, 114]) (by decide) (by decide) (n + 93) (by omega)
                    rw [if_neg q1] at e2
                    obtain ⟨h3, e3, r3, y3⟩ := st y2 (w := 30) (u := [112, 101, 114, 115, 111, 110]) (by decide) (by decide) (n + 89) (by omega)
                    rw [if_neg q2] at e3
                    obtain ⟨h4, e4, r4, y4⟩ := st y3 (w := 31) (u := [108, 111, 97, 100]) (by decide) (by decide) (n + 85) (by omega)
                    rw [if_neg q3] at e4
                    obtain ⟨h5, e5, r5, y5⟩ := st y4 (w := 32) (u := [115, 97, 110, 100]) (by decide) (by decide) (n + 81) (by omega)
                    rw [if_neg q4] at e5
                    obtain ⟨h6, e6, r6, y6⟩ := st y5 (w := 33) (u := [116, 111, 111, 108]) (by decide) (by decide) (n + 77) (by omega)
                    rw [if_neg q5] at e6
                    obtain ⟨h7, e7, r7, y7⟩ := st y6 (w := 34) (u := [107, 101, 101, 112, 115]) (by decide) (by decide) (n + 73) (by omega)
                    rw [if_neg q6] at e7
                    obtain ⟨h8, e8, r8, y8⟩ := st y7 (w := 35) (u := [119, 101, 116]) (by decide) (by decide) (n + 69) (by omega)
                    rw [if_neg q7] at e8
                    obtain ⟨h9, e9, r9, y9⟩ := st y8 (w := 36) (u := [99, 108, 111, 103]) (by decide) (by decide) (n + 65) (by omega)
                    rw [if_neg q8] at e9
                    have hw : wix (tp90 h0) L s uHouse 0 = -1 := ((wix_f q0).trans ((wix_f q1).trans ((wix_f q2).trans ((wix_f q3).trans ((wix_f q4).trans ((wix_f q5).trans ((wix_f q6).trans ((wix_f q7).trans ((wix_f q8).trans rfl)))))))))
                    unfold hlq
                    rw [hw]
                    show lnM h σ h0 L (.inr s) _
                    exact ⟨h9, p, mh_l9 (n := n + 62) (d := d') (b84_ha ht.1) (b84_ha y1.1) (b84_ha y2.1) (b84_ha y3.1) (b84_ha y4.1) (b84_ha y5.1) (b84_ha y6.1) (b84_ha y7.1) (b84_ha y8.1) e1 e2 e3 e4 e5 e6 e7 e8 e9, y9⟩
set_option maxRecDepth 100000 in
theorem lineM3 (hE : E.1 < 2147483648) (hsm : bSO E ctb B (60, smT)) (hF : 1000000 ≤ F) (hL : L ≤ 400) {k9 : Int32} (hk : k9.toInt < 14) (hs : sk isBl (tp90 h0) L p = s) (ht : YT h0 L h p b) (hR : RM h σ) (hW : WF σ) :
    ∀ d f, 72 ≤ d → B + F * 10000 ≤ f → lnM h σ h0 L (hlq (tp90 h0) L σ s) (zex E f d 263 0 [some (.ref 84), some (.int 1), some (.int k9)] [] h) := by
  intro d f hd hf
  obtain ⟨d', hd'⟩ : ∃ d', d = d' + 1 := ⟨d - 1, by omega⟩
  obtain ⟨n, hn⟩ : ∃ n, f = n + 100 := ⟨f - 100, by omega⟩
  subst hd' hn
  have a84 := b84_ha ht.1
  have st1 := fun f hf => y_letters hE hsm hF hL ht d' f (by omega) hf
  have hx : k9.toInt < (14 : Int32).toInt := by rw [xi14]; exact hk
  have st2 := fun (h1 : zH) (k1 : RW h h1) (t1 : YT h0 L h1 (sk isLt (tp90 h0) L (sk isBl (tp90 h0) L p)) (sk isBl (tp90 h0) L p)) f hf => lnM_q (QS_w k1) <| lineM4 hE hsm hF hL (q := p) ht.2.2.1 rfl rfl t1 (RM_w hR hW k1) hW d' f (by omega) hf
  rw [hs] at st1 st2
  cases hl : hlq (tp90 h0) L σ s with
  | inl q =>
    obtain ⟨σ', e⟩ := q
    obtain ⟨h1, e1, k1, t1⟩ := st1 (n + 98) (by omega)
    have s2 := st2 h1 k1 t1 (n + 88) (by omega)
    rw [hl] at s2
    obtain ⟨h2, p2, b2, e2, k2⟩ := s2
    exact ⟨h2, p2, b2, rc_1 (n := n + 83) (d := d') hx a84 (b84_ha t1.1) e1 e2, k2⟩
  | inr w =>
    obtain ⟨h1, e1, k1, t1⟩ := st1 (n + 98) (by omega)
    have s2 := st2 h1 k1 t1 (n + 88) (by omega)
    rw [hl] at s2
    obtain ⟨h2, p2, e2, k2⟩ := s2
    exact ⟨h2, p2, rc_2 (n := n + 85) (d := d') hx a84 (b84_ha t1.1) e1 e2, k2⟩
set_option maxRecDepth 100000 in
theorem lineM3x (hE : E.1 < 2147483648) (hsm : bSO E ctb B (60, smT)) (hF : 1000000 ≤ F) (hL : L ≤ 400) {k9 : Int32} (hk : 14 ≤ k9.toInt) (hs : sk isBl (tp90 h0) L p = s) (ht : YT h0 L h p b) :
    ∀ d f, 72 ≤ d → B + F * 10000 ≤ f → ∃ h' p', zex E f d 263 0 [some (.ref 84), some (.int 1), some (.int k9)] [] h = some (.inl (some (.int 0)), h') ∧ YT h0 L h' p' s := by
  intro d f hd hf
  obtain ⟨d', hd'⟩ : ∃ d', d = d' + 1 := ⟨d - 1, by omega⟩
  obtain ⟨n, hn⟩ : ∃ n, f = n + 100 := ⟨f - 100, by omega⟩
  subst hd' hn
  have a84 := b84_ha ht.1
  obtain ⟨h1, e1, k1, t1⟩ := y_letters hE hsm hF hL ht d' (n + 98) (by omega) (by omega)
  rw [hs] at t1
  exact ⟨h1, _, rc_0 (n := n + 90) (d := d') (by rw [xi14]; exact hk) (b84_ha ht.1) e1, t1⟩
set_option maxRecDepth 100000 in
theorem YT_10 {p' : Nat} {y : Int32} (ht : YT h0 L h p b) (hL : L ≤ 400) (hb : p' ≤ L) (hy : y.toInt = (p' : Int)) : YT h0 L (zsetI h 84 (upd (h.2.1 84) 10 y)) p' b := by
  obtain ⟨hr, ⟨t1, t2, t3⟩, hp, hb9, hx⟩ := ht
  exact ⟨bRQ_set hr wY8410 (by rw [biv8410]; exact ⟨by show (0 : Int) ≤ _; omega, by show _ ≤ (400 : Int); omega⟩) rfl rfl (by decide) (by decide), ⟨by rw [zs_at, upd_n (by decide)]; exact t1, by rw [zs_at, upd_e]; exact hy, by rw [zs_at, upd_n (by decide)]; exact t3⟩, hb, hb9, XT_84 (by decide) (by decide) hx⟩
set_option maxRecDepth 100000 in
theorem y_all (hE : E.1 < 2147483648) (hsm : bSO E ctb B (60, smT)) (hF : 1000000 ≤ F) (hL : L ≤ 400) {G : Nat} (hG : F * 11000 ≤ G) : ∀ (k j : Nat) (k9 : Int32) (σ : hSt) (s : Nat) (h : zH) (p b : Nat), k + j = 14 → k9.toInt = (j : Int) → YT h0 L h p b → sk isBl (tp90 h0) L p = s → RM h σ → WF σ →
    ∀ d f, 74 ≤ d → B + G * (k + 1) ≤ f → raM h σ h0 L (hsq (tp90 h0) L k σ s) (zex E f d 264 28 [some (.ref 84), some (.int 1), some (.int k9)] [] h) := by
  intro k
  induction k with
  | zero =>
    intro j k9 σ s h p b hkj hj ht hs hR hW d f hd hf
    obtain ⟨d', hd'⟩ : ∃ d', d = d' + 1 := ⟨d - 1, by omega⟩
    obtain ⟨n, hn⟩ : ∃ n, f = n + 100 := ⟨f - 100, by omega⟩
    subst hd' hn
    obtain ⟨h1, p1, e1, t1⟩ := lineM3x hE hsm hF hL (k9 := k9) (by omega) hs ht d' (n + 96) (by omega) (by omega)
    exact ⟨h1, p1, rb_0 (n := n + 93) (d := d') (b84_ha ht.1) e1, t1⟩
  | succ k IH =>
    intro j k9 σ s h p b hkj hj ht hs hR hW d f hd hf
    have hGm : G * (k + 1 + 1) = G * (k + 1) + G := Nat.mul_succ _ _
    obtain ⟨d', hd'⟩ : ∃ d', d = d' + 1 := ⟨d - 1, by omega⟩
    obtain ⟨n, hn⟩ : ∃ n, f = n + 100 := ⟨f - 100, by omega⟩
    subst hd' hn
    have a84 := b84_ha ht.1
    have st := fun f hf => lineM3 hE hsm hF hL (k9 := k9) (by omega) hs ht hR hW d' f (by omega) hf
    unfold hsq
    cases hl : hlq (tp90 h0) L σ s with
    | inr w =>
      rw [hl] at st
      obtain ⟨h1, p1, e1, t1⟩ := st (n + 96) (by omega)
      exact ⟨h1, p1, rb_0 (n := n + 93) (d := d') a84 e1, t1⟩
    | inl q =>
      obtain ⟨σ', e⟩ := q
      rw [hl] at st
      have W1 := hl_wf hW hl
      dsimp only
      have bl := fun (h1 : zH) (p1 b1 : Nat) (t1 : YT h0 L h1 p1 b1) f hf => y_blanks hE hsm hF hL t1 d' f (by omega) hf
      by_cases hLe : L ≤ e
      · rw [if_pos hLe]
        obtain ⟨h1, p1, b1, e1, t1, he, R1, N1⟩ := st (n + 96) (by omega)
        obtain ⟨h2, e2, k2, t2⟩ := bl h1 p1 b1 t1 (n + 93) (by omega)
        rw [he] at t2
        have := t2.2.2.1
        refine ⟨k9 + 1, h2, e, e, rb_1 (n := n + 84) (d := d') (by rw [t2.2.1.1, t2.2.1.2.1]; omega) (b84_ha ht.1) (b84_ha t1.1) (b84_ha t2.1) e1 e2, ?_, t2, RM_w R1 W1 k2, W1, fun hN hZ => ⟨RN_q (QS_w k2) rfl rfl (N1 hN hZ), hl_wz hW hZ hl⟩⟩
        rw [i32_add (by rw [hj, int1]; omega) (by rw [hj, int1]; omega), hj, int1]; omega
      · rw [if_neg hLe]
        have hpe : ∀ (h2 : zH), YT h0 L h2 e e → (h2.2.1 84 10).toInt ≠ (h2.2.1 84 11).toInt := fun h2 t2 => by rw [t2.2.1.1, t2.2.1.2.1]; omega
        have sm := sqs_m (T := tp90 h0) (L := L) (s := e) (c := 59) (by decide) (by decide) (by decide)
        have at9 := fun (h2 : zH) (t2 : YT h0 L h2 e e) f hf => y_at (E := E) t2 hL (a9 := 59) (b9 := 59) xi59 xi59 d' f hf
        by_cases hsg : sqs (tp90 h0) L e 59 = true
        · rw [if_pos hsg]
          obtain ⟨g1, g2⟩ := sm.mpr hsg
          obtain ⟨h1, p1, b1, e1, t1, he, R1, N1⟩ := st (n + 96) (by omega)
          obtain ⟨h2, e2, k2, t2⟩ := bl h1 p1 b1 t1 (n + 93) (by omega)
          rw [he] at t2
          have e3 := at9 h2 t2 (n + 84) (by omega)
          rw [if_pos (show e < L ∧ (59 : Int) ≤ tp90 h0 e ∧ tp90 h0 e ≤ 59 from ⟨g1, by omega, by omega⟩)] at e3
          have v2 : (h2.2.1 84 10 + 1).toInt = ((e + 1 : Nat) : Int) := by rw [i32_add (by rw [t2.2.1.2.1, int1]; omega) (by rw [t2.2.1.2.1, int1]; omega), t2.2.1.2.1, int1]; omega
          refine raM_e (rb_3 (n := n + 75) (d := d') (hpe h2 t2) (b84_ha ht.1) (b84_ha t1.1) (b84_ha t2.1) e1 e2 e3) ?_
          have hnx : sk isBl (tp90 h0) L (e + 1) = nxt (tp90 h0) L e := by
            show _ = sk isBl (tp90 h0) L (kE (tp90 h0) L e)
            rw [kE_3 (sqs_K3.mp hsg).1]
          exact raM_q (fun hN hZ => ⟨RN_q (QS_t (QS_w k2) (QS_o (by decide))) rfl rfl (N1 hN hZ), hl_wz hW hZ hl⟩) <| IH (j + 1) (k9 + 1) σ' (nxt (tp90 h0) L e) _ (e + 1) e (by omega) (by rw [i32_add (by rw [hj, int1]; omega) (by rw [hj, int1]; omega), hj, int1]; omega) (YT_10 t2 hL (by omega) v2) hnx (RM_w (RM_w R1 W1 k2) W1 (fun i _ => zs_ne (by decide))) W1 (d' + 1) (n + 75) (by omega) (by omega)
        · rw [if_neg hsg]
          obtain ⟨h1, p1, b1, e1, t1, he, R1, N1⟩ := st (n + 96) (by omega)
          obtain ⟨h2, e2, k2, t2⟩ := bl h1 p1 b1 t1 (n + 93) (by omega)
          rw [he] at t2
          have e3 := at9 h2 t2 (n + 84) (by omega)
          rw [if_neg (show ¬ (e < L ∧ (59 : Int) ≤ tp90 h0 e ∧ tp90 h0 e ≤ 59) from fun z => hsg (sm.mp ⟨z.1, by omega⟩))] at e3
          exact ⟨h2, e, rb_2 (n := n + 81) (d := d') (hpe h2 t2) (b84_ha ht.1) (b84_ha t1.1) (b84_ha t2.1) e1 e2 e3, t2⟩
set_option maxRecDepth 100000 in
theorem y_readAll (hE : E.1 < 2147483648) (hsm : bSO E ctb B (60, smT)) (hF : 1000000 ≤ F) (hL : L ≤ 400) (hr : bRQ ctb wY h0 0 0 h) (hx : h.2.1 85 3 = h0.2.1 85 3) (p1 : (h.2.1 84 9).toInt = (L : Int)) (hR : RM h σ) (hW : WF σ) {u2 : Option Value} :
    ∀ d f, 75 ≤ d → B + F * 11000 * 16 ≤ f → raM h σ h0 L (houseq (tp90 h0) L σ) (zex E f d 264 0 [some (.ref 84), some (.int 1), u2] [] h) := by
  intro d f hd hf
  obtain ⟨d', hd'⟩ : ∃ d', d = d' + 1 := ⟨d - 1, by omega⟩
  obtain ⟨n, hn⟩ : ∃ n, f = n + 100 := ⟨f - 100, by omega⟩
  subst hd' hn
  have a84 := b84_ha hr
  have b12 := hr.1.1 84 12
  rw [biv8412] at b12
  have q1 := bRQ_set (c := 84) (j := 0) (y := 0) hr wY840 (by rw [biv840M]; exact bi32 _) rfl rfl (by decide) (by decide)
  have q2 := bRQ_set (c := 84) (j := 11) (y := (zsetI h 84 (upd (h.2.1 84) 0 0)).2.1 84 9) q1 wY8411 (by rw [biv8411, zs_at, upd_n (by decide), p1]; exact ⟨by show (0 : Int) ≤ _; omega, by show _ ≤ (400 : Int); omega⟩) rfl rfl (by decide) (by decide)
  have q3 := bRQ_set (c := 84) (j := 9) (y := 0) q2 wY849 (by rw [biv849M]; exact ⟨by decide, by decide⟩) rfl rfl (by decide) (by decide)
  have q4 := bRQ_set (c := 84) (j := 10) (y := 0) q3 wY8410 (by rw [biv8410]; exact ⟨by decide, by decide⟩) rfl rfl (by decide) (by decide)
  have q5 := bRQ_set (c := 84) (j := 16) (y := 0) q4 wY8416 (by rw [biv84st]; exact ⟨by decide, by decide⟩) rfl rfl (by decide) (by decide)
  have a5 : ∀ i, (zsetI (zsetI (zsetI (zsetI (zsetI h 84 (upd (h.2.1 84) 0 0)) 84 (upd ((zsetI h 84 (upd (h.2.1 84) 0 0)).2.1 84) 11 ((zsetI h 84 (upd (h.2.1 84) 0 0)).2.1 84 9))) 84 (upd ((zsetI (zsetI h 84 (upd (h.2.1 84) 0 0)) 84 (upd ((zsetI h 84 (upd (h.2.1 84) 0 0)).2.1 84) 11 ((zsetI h 84 (upd (h.2.1 84) 0 0)).2.1 84 9))).2.1 84) 9 0)) 84 (upd ((zsetI (zsetI (zsetI h 84 (upd (h.2.1 84) 0 0)) 84 (upd ((zsetI h 84 (upd (h.2.1 84) 0 0)).2.1 84) 11 ((zsetI h 84 (upd (h.2.1 84) 0 0)).2.1 84 9))) 84 (upd ((zsetI (zsetI h 84 (upd (h.2.1 84) 0 0)) 84 (upd ((zsetI h 84 (upd (h.2.1 84) 0 0)).2.1 84) 11 ((zsetI h 84 (upd (h.2.1 84) 0 0)).2.1 84 9))).2.1 84) 9 0)).2.1 84) 10 0)) 84 (upd ((zsetI (zsetI (zsetI (zsetI h 84 (upd (h.2.1 84) 0 0)) 84 (upd ((zsetI h 84 (upd (h.2.1 84) 0 0)).2.1 84) 11 ((zsetI h 84 (upd (h.2.1 84) 0 0)).2.1 84 9))) 84 (upd ((zsetI (zsetI h 84 (upd (h.2.1 84) 0 0)) 84 (upd ((zsetI h 84 (upd (h.2.1 84) 0 0)).2.1 84) 11 ((zsetI h 84 (upd (h.2.1 84) 0 0)).2.1 84 9))).2.1 84) 9 0)) 84 (upd ((zsetI (zsetI (zsetI h 84 (upd (h.2.1 84) 0 0)) 84 (upd ((zsetI h 84 (upd (h.2.1 84) 0 0)).2.1 84) 11 ((zsetI h 84 (upd (h.2.1 84) 0 0)).2.1 84 9))) 84 (upd ((zsetI (zsetI h 84 (upd (h.2.1 84) 0 0)) 84 (upd ((zsetI h 84 (upd (h.2.1 84) 0 0)).2.1 84) 11 ((zsetI h 84 (upd (h.2.1 84) 0 0)).2.1 84 9))).2.1 84) 9 0)).2.1 84) 10 0)).2.1 84) 16 0)).2.1 85 i = h.2.1 85 i := fun i => by rw [zs_ne (by decide), zs_ne (by decide), zs_ne (by decide), zs_ne (by decide), zs_ne (by decide)]
  have v11 : ((zsetI (zsetI (zsetI (zsetI (zsetI h 84 (upd (h.2.1 84) 0 0)) 84 (upd ((zsetI h 84 (upd (h.2.1 84) 0 0)).2.1 84) 11 ((zsetI h 84 (upd (h.2.1 84) 0 0)).2.1 84 9))) 84 (upd ((zsetI (zsetI h 84 (upd (h.2.1 84) 0 0)) 84 (upd ((zsetI h 84 (upd (h.2.1 84) 0 0)).2.1 84) 11 ((zsetI h 84 (upd (h.2.1 84) 0 0)).2.1 84 9))).2.1 84) 9 0)) 84 (upd ((zsetI (zsetI (zsetI h 84 (upd (h.2.1 84) 0 0)) 84 (upd ((zsetI h 84 (upd (h.2.1 84) 0 0)).2.1 84) 11 ((zsetI h 84 (upd (h.2.1 84) 0 0)).2.1 84 9))) 84 (upd ((zsetI (zsetI h 84 (upd (h.2.1 84) 0 0)) 84 (upd ((zsetI h 84 (upd (h.2.1 84) 0 0)).2.1 84) 11 ((zsetI h 84 (upd (h.2.1 84) 0 0)).2.1 84 9))).2.1 84) 9 0)).2.1 84) 10 0)) 84 (upd ((zsetI (zsetI (zsetI (zsetI h 84 (upd (h.2.1 84) 0 0)) 84 (upd ((zsetI h 84 (upd (h.2.1 84) 0 0)).2.1 84) 11 ((zsetI h 84 (upd (h.2.1 84) 0 0)).2.1 84 9))) 84 (upd ((zsetI (zsetI h 84 (upd (h.2.1 84) 0 0)) 84 (upd ((zsetI h 84 (upd (h.2.1 84) 0 0)).2.1 84) 11 ((zsetI h 84 (upd (h.2.1 84) 0 0)).2.1 84 9))).2.1 84) 9 0)) 84 (upd ((zsetI (zsetI (zsetI h 84 (upd (h.2.1 84) 0 0)) 84 (upd ((zsetI h 84 (upd (h.2.1 84) 0 0)).2.1 84) 11 ((zsetI h 84 (upd (h.2.1 84) 0 0)).2.1 84 9))) 84 (upd ((zsetI (zsetI h 84 (upd (h.2.1 84) 0 0)) 84 (upd ((zsetI h 84 (upd (h.2.1 84) 0 0)).2.1 84) 11 ((zsetI h 84 (upd (h.2.1 84) 0 0)).2.1 84 9))).2.1 84) 9 0)).2.1 84) 10 0)).2.1 84) 16 0)).2.1 84 11).toInt = (L : Int) := by rw [zs_at, upd_n (by decide), zs_at, upd_n (by decide), zs_at, upd_n (by decide), zs_at, upd_e, zs_at, upd_n (by decide)]; exact p1
  have v10 : ((zsetI (zsetI (zsetI (zsetI (zsetI h 84 (upd (h.2.1 84) 0 0)) 84 (upd ((zsetI h 84 (upd (h.2.1 84) 0 0)).2.1 84) 11 ((zsetI h 84 (upd (h.2.1 84) 0 0)).2.1 84 9))) 84 (upd ((zsetI (zsetI h 84 (upd (h.2.1 84) 0 0)) 84 (upd ((zsetI h 84 (upd (h.2.1 84) 0 0)).2.1 84) 11 ((zsetI h 84 (upd (h.2.1 84) 0 0)).2.1 84 9))).2.1 84) 9 0)) 84 (upd ((zsetI (zsetI (zsetI h 84 (upd (h.2.1 84) 0 0)) 84 (upd ((zsetI h 84 (upd (h.2.1 84) 0 0)).2.1 84) 11 ((zsetI h 84 (upd (h.2.1 84) 0 0)).2.1 84 9))) 84 (upd ((zsetI (zsetI h 84 (upd (h.2.1 84) 0 0)) 84 (upd ((zsetI h 84 (upd (h.2.1 84) 0 0)).2.1 84) 11 ((zsetI h 84 (upd (h.2.1 84) 0 0)).2.1 84 9))).2.1 84) 9 0)).2.1 84) 10 0)) 84 (upd ((zsetI (zsetI (zsetI (zsetI h 84 (upd (h.2.1 84) 0 0)) 84 (upd ((zsetI h 84 (upd (h.2.1 84) 0 0)).2.1 84) 11 ((zsetI h 84 (upd (h.2.1 84) 0 0)).2.1 84 9))) 84 (upd ((zsetI (zsetI h 84 (upd (h.2.1 84) 0 0)) 84 (upd ((zsetI h 84 (upd (h.2.1 84) 0 0)).2.1 84) 11 ((zsetI h 84 (upd (h.2.1 84) 0 0)).2.1 84 9))).2.1 84) 9 0)) 84 (upd ((zsetI (zsetI (zsetI h 84 (upd (h.2.1 84) 0 0)) 84 (upd ((zsetI h 84 (upd (h.2.1 84) 0 0)).2.1 84) 11 ((zsetI h 84 (upd (h.2.1 84) 0 0)).2.1 84 9))) 84 (upd ((zsetI (zsetI h 84 (upd (h.2.1 84) 0 0)) 84 (upd ((zsetI h 84 (upd (h.2.1 84) 0 0)).2.1 84) 11 ((zsetI h 84 (upd (h.2.1 84) 0 0)).2.1 84 9))).2.1 84) 9 0)).2.1 84) 10 0)).2.1 84) 16 0)).2.1 84 10).toInt = ((0 : Nat) : Int) := by rw [zs_at, upd_n (by decide), zs_at, upd_e]; rfl
  have v12 : ((zsetI (zsetI (zsetI (zsetI (zsetI h 84 (upd (h.2.1 84) 0 0)) 84 (upd ((zsetI h 84 (upd (h.2.1 84) 0 0)).2.1 84) 11 ((zsetI h 84 (upd (h.2.1 84) 0 0)).2.1 84 9))) 84 (upd ((zsetI (zsetI h 84 (upd (h.2.1 84) 0 0)) 84 (upd ((zsetI h 84 (upd (h.2.1 84) 0 0)).2.1 84) 11 ((zsetI h 84 (upd (h.2.1 84) 0 0)).2.1 84 9))).2.1 84) 9 0)) 84 (upd ((zsetI (zsetI (zsetI h 84 (upd (h.2.1 84) 0 0)) 84 (upd ((zsetI h 84 (upd (h.2.1 84) 0 0)).2.1 84) 11 ((zsetI h 84 (upd (h.2.1 84) 0 0)).2.1 84 9))) 84 (upd ((zsetI (zsetI h 84 (upd (h.2.1 84) 0 0)) 84 (upd ((zsetI h 84 (upd (h.2.1 84) 0 0)).2.1 84) 11 ((zsetI h 84 (upd (h.2.1 84) 0 0)).2.1 84 9))).2.1 84) 9 0)).2.1 84) 10 0)) 84 (upd ((zsetI (zsetI (zsetI (zsetI h 84 (upd (h.2.1 84) 0 0)) 84 (upd ((zsetI h 84 (upd (h.2.1 84) 0 0)).2.1 84) 11 ((zsetI h 84 (upd (h.2.1 84) 0 0)).2.1 84 9))) 84 (upd ((zsetI (zsetI h 84 (upd (h.2.1 84) 0 0)) 84 (upd ((zsetI h 84 (upd (h.2.1 84) 0 0)).2.1 84) 11 ((zsetI h 84 (upd (h.2.1 84) 0 0)).2.1 84 9))).2.1 84) 9 0)) 84 (upd ((zsetI (zsetI (zsetI h 84 (upd (h.2.1 84) 0 0)) 84 (upd ((zsetI h 84 (upd (h.2.1 84) 0 0)).2.1 84) 11 ((zsetI h 84 (upd (h.2.1 84) 0 0)).2.1 84 9))) 84 (upd ((zsetI (zsetI h 84 (upd (h.2.1 84) 0 0)) 84 (upd ((zsetI h 84 (upd (h.2.1 84) 0 0)).2.1 84) 11 ((zsetI h 84 (upd (h.2.1 84) 0 0)).2.1 84 9))).2.1 84) 9 0)).2.1 84) 10 0)).2.1 84) 16 0)).2.1 84 12).toInt = ((h.2.1 84 12).toInt.toNat : Int) := by rw [zs_at, upd_n (by decide), zs_at, upd_n (by decide), zs_at, upd_n (by decide), zs_at, upd_n (by decide), zs_at, upd_n (by decide)]; omega
  have v0 : ((zsetI (zsetI (zsetI (zsetI (zsetI h 84 (upd (h.2.1 84) 0 0)) 84 (upd ((zsetI h 84 (upd (h.2.1 84) 0 0)).2.1 84) 11 ((zsetI h 84 (upd (h.2.1 84) 0 0)).2.1 84 9))) 84 (upd ((zsetI (zsetI h 84 (upd (h.2.1 84) 0 0)) 84 (upd ((zsetI h 84 (upd (h.2.1 84) 0 0)).2.1 84) 11 ((zsetI h 84 (upd (h.2.1 84) 0 0)).2.1 84 9))).2.1 84) 9 0)) 84 (upd ((zsetI (zsetI (zsetI h 84 (upd (h.2.1 84) 0 0)) 84 (upd ((zsetI h 84 (upd (h.2.1 84) 0 0)).2.1 84) 11 ((zsetI h 84 (upd (h.2.1 84) 0 0)).2.1 84 9))) 84 (upd ((zsetI (zsetI h 84 (upd (h.2.1 84) 0 0)) 84 (upd ((zsetI h 84 (upd (h.2.1 84) 0 0)).2.1 84) 11 ((zsetI h 84 (upd (h.2.1 84) 0 0)).2.1 84 9))).2.1 84) 9 0)).2.1 84) 10 0)) 84 (upd ((zsetI (zsetI (zsetI (zsetI h 84 (upd (h.2.1 84) 0 0)) 84 (upd ((zsetI h 84 (upd (h.2.1 84) 0 0)).2.1 84) 11 ((zsetI h 84 (upd (h.2.1 84) 0 0)).2.1 84 9))) 84 (upd ((zsetI (zsetI h 84 (upd (h.2.1 84) 0 0)) 84 (upd ((zsetI h 84 (upd (h.2.1 84) 0 0)).2.1 84) 11 ((zsetI h 84 (upd (h.2.1 84) 0 0)).2.1 84 9))).2.1 84) 9 0)) 84 (upd ((zsetI (zsetI (zsetI h 84 (upd (h.2.1 84) 0 0)) 84 (upd ((zsetI h 84 (upd (h.2.1 84) 0 0)).2.1 84) 11 ((zsetI h 84 (upd (h.2.1 84) 0 0)).2.1 84 9))) 84 (upd ((zsetI (zsetI h 84 (upd (h.2.1 84) 0 0)) 84 (upd ((zsetI h 84 (upd (h.2.1 84) 0 0)).2.1 84) 11 ((zsetI h 84 (upd (h.2.1 84) 0 0)).2.1 84 9))).2.1 84) 9 0)).2.1 84) 10 0)).2.1 84) 16 0)).2.1 84 0).toInt = 0 := by rw [zs_at, upd_n (by decide), zs_at, upd_n (by decide), zs_at, upd_n (by decide), zs_at, upd_n (by decide), zs_at, upd_e]; rfl
  have v9 : ((zsetI (zsetI (zsetI (zsetI (zsetI h 84 (upd (h.2.1 84) 0 0)) 84 (upd ((zsetI h 84 (upd (h.2.1 84) 0 0)).2.1 84) 11 ((zsetI h 84 (upd (h.2.1 84) 0 0)).2.1 84 9))) 84 (upd ((zsetI (zsetI h 84 (upd (h.2.1 84) 0 0)) 84 (upd ((zsetI h 84 (upd (h.2.1 84) 0 0)).2.1 84) 11 ((zsetI h 84 (upd (h.2.1 84) 0 0)).2.1 84 9))).2.1 84) 9 0)) 84 (upd ((zsetI (zsetI (zsetI h 84 (upd (h.2.1 84) 0 0)) 84 (upd ((zsetI h 84 (upd (h.2.1 84) 0 0)).2.1 84) 11 ((zsetI h 84 (upd (h.2.1 84) 0 0)).2.1 84 9))) 84 (upd ((zsetI (zsetI h 84 (upd (h.2.1 84) 0 0)) 84 (upd ((zsetI h 84 (upd (h.2.1 84) 0 0)).2.1 84) 11 ((zsetI h 84 (upd (h.2.1 84) 0 0)).2.1 84 9))).2.1 84) 9 0)).2.1 84) 10 0)) 84 (upd ((zsetI (zsetI (zsetI (zsetI h 84 (upd (h.2.1 84) 0 0)) 84 (upd ((zsetI h 84 (upd (h.2.1 84) 0 0)).2.1 84) 11 ((zsetI h 84 (upd (h.2.1 84) 0 0)).2.1 84 9))) 84 (upd ((zsetI (zsetI h 84 (upd (h.2.1 84) 0 0)) 84 (upd ((zsetI h 84 (upd (h.2.1 84) 0 0)).2.1 84) 11 ((zsetI h 84 (upd (h.2.1 84) 0 0)).2.1 84 9))).2.1 84) 9 0)) 84 (upd ((zsetI (zsetI (zsetI h 84 (upd (h.2.1 84) 0 0)) 84 (upd ((zsetI h 84 (upd (h.2.1 84) 0 0)).2.1 84) 11 ((zsetI h 84 (upd (h.2.1 84) 0 0)).2.1 84 9))) 84 (upd ((zsetI (zsetI h 84 (upd (h.2.1 84) 0 0)) 84 (upd ((zsetI h 84 (upd (h.2.1 84) 0 0)).2.1 84) 11 ((zsetI h 84 (upd (h.2.1 84) 0 0)).2.1 84 9))).2.1 84) 9 0)).2.1 84) 10 0)).2.1 84) 16 0)).2.1 84 9).toInt = 0 := by rw [zs_at, upd_n (by decide), zs_at, upd_n (by decide), zs_at, upd_e]; rfl
  have us := fun n => us_0 (E := E) (n := n) (d := d') (h := h) a84
  have a841 : zat (zsetI (zsetI (zsetI (zsetI h 84 (upd (h.2.1 84) 0 0)) 84 (upd ((zsetI h 84 (upd (h.2.1 84) 0 0)).2.1 84) 11 ((zsetI h 84 (upd (h.2.1 84) 0 0)).2.1 84 9))) 84 (upd ((zsetI (zsetI h 84 (upd (h.2.1 84) 0 0)) 84 (upd ((zsetI h 84 (upd (h.2.1 84) 0 0)).2.1 84) 11 ((zsetI h 84 (upd (h.2.1 84) 0 0)).2.1 84 9))).2.1 84) 9 0)) 84 (upd ((zsetI (zsetI (zsetI h 84 (upd (h.2.1 84) 0 0)) 84 (upd ((zsetI h 84 (upd (h.2.1 84) 0 0)).2.1 84) 11 ((zsetI h 84 (upd (h.2.1 84) 0 0)).2.1 84 9))) 84 (upd ((zsetI (zsetI h 84 (upd (h.2.1 84) 0 0)) 84 (upd ((zsetI h 84 (upd (h.2.1 84) 0 0)).2.1 84) 11 ((zsetI h 84 (upd (h.2.1 84) 0 0)).2.1 84 9))).2.1 84) 9 0)).2.1 84) 10 0)).1 84 = some (.inr (.inl (12, [none, some (some 85), some (some 86), some (some 87), some (some 88), some (some 89), none, none, some (some 90), none, none, none, none, none, none, some (some 91), none, some (some 92), some (some 93)]))) := a84
  obtain ⟨h4, hh4⟩ : ∃ x, x = (zsetI (zsetI (zsetI (zsetI h 84 (upd (h.2.1 84) 0 0)) 84 (upd ((zsetI h 84 (upd (h.2.1 84) 0 0)).2.1 84) 11 ((zsetI h 84 (upd (h.2.1 84) 0 0)).2.1 84 9))) 84 (upd ((zsetI (zsetI h 84 (upd (h.2.1 84) 0 0)) 84 (upd ((zsetI h 84 (upd (h.2.1 84) 0 0)).2.1 84) 11 ((zsetI h 84 (upd (h.2.1 84) 0 0)).2.1 84 9))).2.1 84) 9 0)) 84 (upd ((zsetI (zsetI (zsetI h 84 (upd (h.2.1 84) 0 0)) 84 (upd ((zsetI h 84 (upd (h.2.1 84) 0 0)).2.1 84) 11 ((zsetI h 84 (upd (h.2.1 84) 0 0)).2.1 84 9))) 84 (upd ((zsetI (zsetI h 84 (upd (h.2.1 84) 0 0)) 84 (upd ((zsetI h 84 (upd (h.2.1 84) 0 0)).2.1 84) 11 ((zsetI h 84 (upd (h.2.1 84) 0 0)).2.1 84 9))).2.1 84) 9 0)).2.1 84) 10 0)) := ⟨_, rfl⟩
  rw [← hh4] at q5 a5 v11 v10 v12 v0 v9 us a841
  obtain ⟨h5, hh5⟩ : ∃ x, x = zsetI h4 84 (upd (h4.2.1 84) 16 0) := ⟨_, rfl⟩
  rw [← hh5] at q5 a5 v11 v10 v12 v0 v9
  have bk := fun f hf => m_blanks (h0 := h5) (L := L) (p := 0) (b := (h.2.1 84 12).toInt.toNat) hE hsm hF hL (Nat.zero_le _) (by omega) (bRQ_r q5) v11 v10 v12 d' f (by omega) hf
  have w1 : bRQ ctb wY h0 0 0 h5 := q5
  have R5 : RM h5 σ := RM_w hR hW (fun i _ => a5 i)
  have X5 : XT h0 h5 := ⟨(a5 3).trans hx, v0, v9⟩
  unfold houseq
  by_cases hLe : L ≤ sk isBl (tp90 h0) L 0
  · rw [if_pos hLe]
    obtain ⟨h2, e2, k1, k2, k3, k4⟩ := bk (n + 93) (by omega)
    rw [wY_90 q5] at k3 k4
    have t2 : YT h0 L h2 (sk isBl (tp90 h0) L 0) (sk isBl (tp90 h0) L 0) := ⟨bRQ_tr q5 (bRQ_MY k1), ⟨k2, k3, k4⟩, sk_le (Nat.zero_le _), sk_le (Nat.zero_le _), XT_m k1 X5⟩
    have := t2.2.2.1
    rw [hh5] at e2
    exact ⟨0, h2, _, _, ra_0 (n := n + 86) (d := d') (by rw [k2, k3]; omega) a84 a841 (b84_ha t2.1) (us (n + 84)) e2, by decide, t2, RM_w R5 hW (RW_m k1), hW, fun hN hZ => ⟨RN_q (QS_t (fun K _ => a5 K) (QS_w (RW_m k1))) rfl rfl hN, hZ⟩⟩
  · rw [if_neg hLe]
    obtain ⟨h2, e2, k1, k2, k3, k4⟩ := bk (n + 93) (by omega)
    rw [wY_90 q5] at k3 k4
    have t2 : YT h0 L h2 (sk isBl (tp90 h0) L 0) (sk isBl (tp90 h0) L 0) := ⟨bRQ_tr q5 (bRQ_MY k1), ⟨k2, k3, k4⟩, sk_le (Nat.zero_le _), sk_le (Nat.zero_le _), XT_m k1 X5⟩
    rw [hh5] at e2
    refine raM_e (ra_1 (n := n + 86) (d := d') (by rw [k2, k3]; omega) a84 a841 (b84_ha t2.1) (us (n + 84)) e2) ?_
    exact raM_q (fun hN hZ => ⟨RN_q (QS_t (fun K _ => a5 K) (QS_w (RW_m k1))) rfl rfl hN, hZ⟩) <| y_all hE hsm hF hL (Nat.le_refl (F * 11000)) 14 0 0 σ _ h2 _ _ rfl rfl t2 sk_idem (RM_w R5 hW (RW_m k1)) hW (d' + 1) (n + 86) (by omega) (by omega)
end MD
