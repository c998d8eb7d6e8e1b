/-! the class's law reader: straight steps around exactly known calls (wip/zab2/c/gen22.py) -/
set_option maxRecDepth 100000 in
theorem zfq161_0 : zfetch 161 0 = some (.aload_n 1, 1, (0, 0, 0), 0, 0) := by decide +kernel
set_option maxRecDepth 100000 in
theorem zfq161_1 : zfetch 161 1 = some (.ldc 91, 2, (1, 6, 0), 0, 1090) := by decide +kernel
set_option maxRecDepth 100000 in
theorem zfq161_3 : zfetch 161 3 = some (.invokevirtual 69, 3, (0, 184, 1), 0, 1077) := by decide +kernel
set_option maxRecDepth 100000 in
theorem zfq161_35 : zfetch 161 35 = some (.aload_n 1, 1, (0, 0, 0), 0, 0) := by decide +kernel
set_option maxRecDepth 100000 in
theorem zfq161_36 : zfetch 161 36 = some (.invokevirtual 44, 3, (0, 181, 1), 0, 1070) := by decide +kernel
set_option maxRecDepth 100000 in
theorem zfq161_39 : zfetch 161 39 = some (.iload_n 3, 1, (0, 0, 0), 0, 0) := by decide +kernel
set_option maxRecDepth 100000 in
theorem zfq161_40 : zfetch 161 40 = some (.ifCond .eq 14, 3, (54, 0, 0), 0, 0) := by decide +kernel
set_option maxRecDepth 100000 in
theorem zfq161_43 : zfetch 161 43 = some (.aload_n 0, 1, (0, 0, 0), 0, 0) := by decide +kernel
set_option maxRecDepth 100000 in
theorem zfq161_44 : zfetch 161 44 = some (.aload_n 1, 1, (0, 0, 0), 0, 0) := by decide +kernel
set_option maxRecDepth 100000 in
theorem zfq161_45 : zfetch 161 45 = some (.iload_n 2, 1, (0, 0, 0), 0, 0) := by decide +kernel
set_option maxRecDepth 100000 in
theorem zfq161_46 : zfetch 161 46 = some (.iconst 1, 1, (0, 0, 0), 1, 0) := by decide +kernel
set_option maxRecDepth 100000 in
theorem zfq161_47 : zfetch 161 47 = some (.iadd, 1, (0, 0, 0), 0, 0) := by decide +kernel
set_option maxRecDepth 100000 in
theorem zfq161_48 : zfetch 161 48 = some (.invokevirtual 93, 3, (0, 162, 0), 0, 1092) := by decide +kernel
set_option maxRecDepth 100000 in
theorem zfq161_51 : zfetch 161 51 = some (.goto 11, 3, (62, 0, 0), 0, 0) := by decide +kernel
set_option maxRecDepth 100000 in
theorem zfq161_62 : zfetch 161 62 = some (.ireturn, 1, (0, 0, 0), 0, 0) := by decide +kernel
set_option maxRecDepth 100000 in
theorem zfq161_54 : zfetch 161 54 = some (.aload_n 0, 1, (0, 0, 0), 0, 0) := by decide +kernel
set_option maxRecDepth 100000 in
theorem zfq161_55 : zfetch 161 55 = some (.aload_n 1, 1, (0, 0, 0), 0, 0) := by decide +kernel
set_option maxRecDepth 100000 in
theorem zfq161_56 : zfetch 161 56 = some (.iload_n 2, 1, (0, 0, 0), 0, 0) := by decide +kernel
set_option maxRecDepth 100000 in
theorem zfq161_57 : zfetch 161 57 = some (.iconst 1, 1, (0, 0, 0), 1, 0) := by decide +kernel
set_option maxRecDepth 100000 in
theorem zfq161_58 : zfetch 161 58 = some (.iadd, 1, (0, 0, 0), 0, 0) := by decide +kernel
set_option maxRecDepth 100000 in
theorem zfq161_59 : zfetch 161 59 = some (.invokevirtual 96, 3, (0, 163, 0), 0, 1100) := by decide +kernel
set_option maxRecDepth 100000 in
theorem zfq161_63 : zfetch 161 63 = some (.aload_n 1, 1, (0, 0, 0), 0, 0) := by decide +kernel
set_option maxRecDepth 100000 in
theorem zfq161_64 : zfetch 161 64 = some (.ldc 99, 2, (1, 7, 0), 0, 1104) := by decide +kernel
set_option maxRecDepth 100000 in
theorem zfq161_66 : zfetch 161 66 = some (.invokevirtual 49, 3, (0, 185, 1), 0, 1065) := by decide +kernel
set_option maxRecDepth 100000 in
theorem zfq161_90 : zfetch 161 90 = some (.aload_n 1, 1, (0, 0, 0), 0, 0) := by decide +kernel
set_option maxRecDepth 100000 in
theorem zfq161_91 : zfetch 161 91 = some (.invokevirtual 44, 3, (0, 181, 1), 0, 1070) := by decide +kernel
set_option maxRecDepth 100000 in
theorem zfq161_94 : zfetch 161 94 = some (.iconst 1, 1, (0, 0, 0), 1, 0) := by decide +kernel
set_option maxRecDepth 100000 in
theorem zfq161_95 : zfetch 161 95 = some (.ireturn, 1, (0, 0, 0), 0, 0) := by decide +kernel
set_option maxRecDepth 100000 in
theorem zfq161_115 : zfetch 161 115 = some (.aload_n 1, 1, (0, 0, 0), 0, 0) := by decide +kernel
set_option maxRecDepth 100000 in
theorem zfq161_116 : zfetch 161 116 = some (.invokevirtual 44, 3, (0, 181, 1), 0, 1070) := by decide +kernel
set_option maxRecDepth 100000 in
theorem zfq161_119 : zfetch 161 119 = some (.iconst 1, 1, (0, 0, 0), 1, 0) := by decide +kernel
set_option maxRecDepth 100000 in
theorem zfq161_120 : zfetch 161 120 = some (.ireturn, 1, (0, 0, 0), 0, 0) := by decide +kernel
set_option maxRecDepth 100000 in
theorem zfq161_96 : zfetch 161 96 = some (.aload_n 1, 1, (0, 0, 0), 0, 0) := by decide +kernel
set_option maxRecDepth 100000 in
theorem zfq161_97 : zfetch 161 97 = some (.ldc 101, 2, (1, 8, 0), 0, 1105) := by decide +kernel
set_option maxRecDepth 100000 in
theorem zfq161_99 : zfetch 161 99 = some (.invokevirtual 69, 3, (0, 184, 1), 0, 1077) := by decide +kernel
set_option maxRecDepth 100000 in
theorem zfq161_102 : zfetch 161 102 = some (.ifCond .eq 19, 3, (121, 0, 0), 0, 0) := by decide +kernel
set_option maxRecDepth 100000 in
theorem zfq161_121 : zfetch 161 121 = some (.aload_n 0, 1, (0, 0, 0), 0, 0) := by decide +kernel
set_option maxRecDepth 100000 in
theorem zfq161_122 : zfetch 161 122 = some (.aload_n 1, 1, (0, 0, 0), 0, 0) := by decide +kernel
set_option maxRecDepth 100000 in
theorem zfq161_123 : zfetch 161 123 = some (.invokevirtual 103, 3, (0, 164, 0), 0, 1106) := by decide +kernel
set_option maxRecDepth 100000 in
theorem zfq161_126 : zfetch 161 126 = some (.ireturn, 1, (0, 0, 0), 0, 0) := by decide +kernel
set_option maxRecDepth 100000 in
theorem zfq162_0 : zfetch 162 0 = some (.aload_n 0, 1, (0, 0, 0), 0, 0) := by decide +kernel
set_option maxRecDepth 100000 in
theorem zfq162_1 : zfetch 162 1 = some (.aload_n 1, 1, (0, 0, 0), 0, 0) := by decide +kernel
set_option maxRecDepth 100000 in
theorem zfq162_2 : zfetch 162 2 = some (.iload_n 2, 1, (0, 0, 0), 0, 0) := by decide +kernel
set_option maxRecDepth 100000 in
theorem zfq162_3 : zfetch 162 3 = some (.invokevirtual 80, 3, (0, 161, 0), 0, 1086) := by decide +kernel
set_option maxRecDepth 100000 in
theorem zfq162_6 : zfetch 162 6 = some (.ifCond .ne 5, 3, (11, 0, 0), 0, 0) := by decide +kernel
set_option maxRecDepth 100000 in
theorem zfq162_9 : zfetch 162 9 = some (.iconst 0, 1, (0, 0, 0), 0, 0) := by decide +kernel
set_option maxRecDepth 100000 in
theorem zfq162_10 : zfetch 162 10 = some (.ireturn, 1, (0, 0, 0), 0, 0) := by decide +kernel
set_option maxRecDepth 100000 in
theorem zfq163_0 : zfetch 163 0 = some (.aload_n 0, 1, (0, 0, 0), 0, 0) := by decide +kernel
set_option maxRecDepth 100000 in
theorem zfq163_1 : zfetch 163 1 = some (.aload_n 1, 1, (0, 0, 0), 0, 0) := by decide +kernel
set_option maxRecDepth 100000 in
theorem zfq163_2 : zfetch 163 2 = some (.iload_n 2, 1, (0, 0, 0), 0, 0) := by decide +kernel
set_option maxRecDepth 100000 in
theorem zfq163_3 : zfetch 163 3 = some (.invokevirtual 73, 3, (0, 160, 0), 0, 1082) := by decide +kernel
set_option maxRecDepth 100000 in
theorem zfq163_6 : zfetch 163 6 = some (.ifCond .ne 5, 3, (11, 0, 0), 0, 0) := by decide +kernel
set_option maxRecDepth 100000 in
theorem zfq163_9 : zfetch 163 9 = some (.iconst 0, 1, (0, 0, 0), 0, 0) := by decide +kernel
set_option maxRecDepth 100000 in
theorem zfq163_10 : zfetch 163 10 = some (.ireturn, 1, (0, 0, 0), 0, 0) := by decide +kernel
set_option maxRecDepth 100000 in
theorem zfq163_29 : zfetch 163 29 = some (.aload_n 1, 1, (0, 0, 0), 0, 0) := by decide +kernel
set_option maxRecDepth 100000 in
theorem zfq163_30 : zfetch 163 30 = some (.invokevirtual 44, 3, (0, 181, 1), 0, 1070) := by decide +kernel
set_option maxRecDepth 100000 in
theorem zfq163_33 : zfetch 163 33 = some (.iconst 1, 1, (0, 0, 0), 1, 0) := by decide +kernel
set_option maxRecDepth 100000 in
theorem zfq163_34 : zfetch 163 34 = some (.ireturn, 1, (0, 0, 0), 0, 0) := by decide +kernel
set_option maxRecDepth 100000 in
theorem zfq160_16 : zfetch 160 16 = some (.aload_n 0, 1, (0, 0, 0), 0, 0) := by decide +kernel
set_option maxRecDepth 100000 in
theorem zfq160_17 : zfetch 160 17 = some (.aload_n 1, 1, (0, 0, 0), 0, 0) := by decide +kernel
set_option maxRecDepth 100000 in
theorem zfq160_18 : zfetch 160 18 = some (.iload_n 2, 1, (0, 0, 0), 0, 0) := by decide +kernel
set_option maxRecDepth 100000 in
theorem zfq160_19 : zfetch 160 19 = some (.invokevirtual 80, 3, (0, 161, 0), 0, 1086) := by decide +kernel
set_option maxRecDepth 100000 in
theorem zfq160_22 : zfetch 160 22 = some (.ifCond .ne 5, 3, (27, 0, 0), 0, 0) := by decide +kernel
set_option maxRecDepth 100000 in
theorem zfq160_25 : zfetch 160 25 = some (.iconst 0, 1, (0, 0, 0), 0, 0) := by decide +kernel
set_option maxRecDepth 100000 in
theorem zfq160_26 : zfetch 160 26 = some (.ireturn, 1, (0, 0, 0), 0, 0) := by decide +kernel
set_option maxRecDepth 100000 in
theorem zfq160_41 : zfetch 160 41 = some (.aload_n 1, 1, (0, 0, 0), 0, 0) := by decide +kernel
set_option maxRecDepth 100000 in
theorem zfq160_42 : zfetch 160 42 = some (.ldc 87, 2, (1, 10, 0), 0, 1111) := by decide +kernel
set_option maxRecDepth 100000 in
theorem zfq160_44 : zfetch 160 44 = some (.invokevirtual 69, 3, (0, 184, 1), 0, 1077) := by decide +kernel
set_option maxRecDepth 100000 in
theorem zfq160_67 : zfetch 160 67 = some (.aload_n 1, 1, (0, 0, 0), 0, 0) := by decide +kernel
set_option maxRecDepth 100000 in
theorem zfq160_68 : zfetch 160 68 = some (.ldc 89, 2, (1, 11, 0), 0, 1112) := by decide +kernel
set_option maxRecDepth 100000 in
theorem zfq160_70 : zfetch 160 70 = some (.invokevirtual 69, 3, (0, 184, 1), 0, 1077) := by decide +kernel
set_option maxRecDepth 100000 in
theorem zfq160_82 : zfetch 160 82 = some (.aload_n 1, 1, (0, 0, 0), 0, 0) := by decide +kernel
set_option maxRecDepth 100000 in
theorem zfq160_83 : zfetch 160 83 = some (.invokevirtual 44, 3, (0, 181, 1), 0, 1070) := by decide +kernel
set_option maxRecDepth 100000 in
theorem zfq159_0 : zfetch 159 0 = some (.aload_n 1, 1, (0, 0, 0), 0, 0) := by decide +kernel
set_option maxRecDepth 100000 in
theorem zfq159_1 : zfetch 159 1 = some (.ldc 47, 2, (1, 4, 0), 0, 1064) := by decide +kernel
set_option maxRecDepth 100000 in
theorem zfq159_3 : zfetch 159 3 = some (.invokevirtual 49, 3, (0, 185, 1), 0, 1065) := by decide +kernel
set_option maxRecDepth 100000 in
theorem zfq159_21 : zfetch 159 21 = some (.aload_n 1, 1, (0, 0, 0), 0, 0) := by decide +kernel
set_option maxRecDepth 100000 in
theorem zfq159_22 : zfetch 159 22 = some (.invokevirtual 44, 3, (0, 181, 1), 0, 1070) := by decide +kernel
set_option maxRecDepth 100000 in
theorem zfq159_54 : zfetch 159 54 = some (.aload_n 1, 1, (0, 0, 0), 0, 0) := by decide +kernel
set_option maxRecDepth 100000 in
theorem zfq159_55 : zfetch 159 55 = some (.invokevirtual 44, 3, (0, 181, 1), 0, 1070) := by decide +kernel
set_option maxRecDepth 100000 in
theorem zfq159_58 : zfetch 159 58 = some (.aload_n 1, 1, (0, 0, 0), 0, 0) := by decide +kernel
set_option maxRecDepth 100000 in
theorem zfq159_59 : zfetch 159 59 = some (.ldc 67, 2, (1, 5, 0), 0, 1076) := by decide +kernel
set_option maxRecDepth 100000 in
theorem zfq159_61 : zfetch 159 61 = some (.invokevirtual 69, 3, (0, 184, 1), 0, 1077) := by decide +kernel
set_option maxRecDepth 100000 in
theorem zfq159_67 : zfetch 159 67 = some (.aload_n 1, 1, (0, 0, 0), 0, 0) := by decide +kernel
set_option maxRecDepth 100000 in
theorem zfq159_68 : zfetch 159 68 = some (.invokevirtual 44, 3, (0, 181, 1), 0, 1070) := by decide +kernel
set_option maxRecDepth 100000 in
theorem zfq159_71 : zfetch 159 71 = some (.aload_n 0, 1, (0, 0, 0), 0, 0) := by decide +kernel
set_option maxRecDepth 100000 in
theorem zfq159_72 : zfetch 159 72 = some (.aload_n 1, 1, (0, 0, 0), 0, 0) := by decide +kernel
set_option maxRecDepth 100000 in
theorem zfq159_73 : zfetch 159 73 = some (.iconst 0, 1, (0, 0, 0), 0, 0) := by decide +kernel
set_option maxRecDepth 100000 in
theorem zfq159_74 : zfetch 159 74 = some (.invokevirtual 73, 3, (0, 160, 0), 0, 1082) := by decide +kernel
set_option maxRecDepth 100000 in
theorem zfq159_77 : zfetch 159 77 = some (.ifCond .ne 5, 3, (82, 0, 0), 0, 0) := by decide +kernel
set_option maxRecDepth 100000 in
theorem zfq159_80 : zfetch 159 80 = some (.iconst 0, 1, (0, 0, 0), 0, 0) := by decide +kernel
set_option maxRecDepth 100000 in
theorem zfq159_81 : zfetch 159 81 = some (.ireturn, 1, (0, 0, 0), 0, 0) := by decide +kernel
set_option maxRecDepth 100000 in
theorem zfq157_12 : zfetch 157 12 = some (.aload_n 1, 1, (0, 0, 0), 0, 0) := by decide +kernel
set_option maxRecDepth 100000 in
theorem zfq157_13 : zfetch 157 13 = some (.invokevirtual 25, 3, (0, 180, 1), 0, 1059) := by decide +kernel
set_option maxRecDepth 100000 in
theorem zfq157_33 : zfetch 157 33 = some (.aload_n 0, 1, (0, 0, 0), 0, 0) := by decide +kernel
set_option maxRecDepth 100000 in
theorem zfq157_34 : zfetch 157 34 = some (.aload_n 1, 1, (0, 0, 0), 0, 0) := by decide +kernel
set_option maxRecDepth 100000 in
theorem zfq157_35 : zfetch 157 35 = some (.invokevirtual 33, 3, (0, 159, 0), 0, 1060) := by decide +kernel
set_option maxRecDepth 100000 in
theorem zfq157_69 : zfetch 157 69 = some (.aload_n 1, 1, (0, 0, 0), 0, 0) := by decide +kernel
set_option maxRecDepth 100000 in
theorem zfq157_70 : zfetch 157 70 = some (.invokevirtual 44, 3, (0, 181, 1), 0, 1070) := by decide +kernel
set_option maxRecDepth 100000 in
theorem zfq180_5 : zfetch 180 5 = some (.aload_n 0, 1, (0, 0, 0), 0, 0) := by decide +kernel
set_option maxRecDepth 100000 in
theorem zfq180_6 : zfetch 180 6 = some (.invokevirtual 31, 3, (0, 181, 0), 0, 824) := by decide +kernel
set_option maxRecDepth 100000 in
theorem zfq180_9 : zfetch 180 9 = some (.return_, 1, (0, 0, 0), 0, 0) := by decide +kernel
set_option maxRecDepth 100000 in
theorem znq159 : zat zmi 159 = some (2, 3, 0, 6, 2, 0) := rfl
set_option maxRecDepth 100000 in
theorem znq160 : zat zmi 160 = some (3, 6, 0, 6, 2, 0) := rfl
set_option maxRecDepth 100000 in
theorem znq161 : zat zmi 161 = some (3, 5, 0, 6, 2, 0) := rfl
set_option maxRecDepth 100000 in
theorem znq162 : zat zmi 162 = some (3, 3, 0, 6, 2, 0) := rfl
set_option maxRecDepth 100000 in
theorem znq163 : zat zmi 163 = some (3, 3, 0, 6, 2, 0) := rfl
set_option maxRecDepth 100000 in
theorem znq164 : zat zmi 164 = some (2, 6, 0, 6, 2, 0) := rfl
set_option maxRecDepth 100000 in
theorem znq180 : zat zmi 180 = some (1, 1, 0, 9, 0, 0) := rfl
set_option maxRecDepth 100000 in
theorem znq181 : zat zmi 181 = some (1, 2, 0, 9, 0, 0) := rfl
set_option maxRecDepth 100000 in
theorem znq184 : zat zmi 184 = some (2, 2, 0, 9, 2, 0) := rfl
set_option maxRecDepth 100000 in
theorem znq185 : zat zmi 185 = some (2, 6, 0, 9, 1, 0) := rfl
set_option maxRecDepth 100000 in
theorem ca_0 {E : zE} {n d : Nat} {h h1 : zH} {xd x : Int32} (ha : zat h.1 1 = some (.inr (.inl (9, [some (some 2), none, none, none, none, none])))) (e1 : zex E n d 184 0 [some (.ref 1), some (.retAddr 6)] [] h = some (.inl (some (.int x)), h1)) : zex E (n + 3) (d + 1) 161 0 [some (.ref 76), some (.ref 1), some (.int xd), none, none] [] h = zex E n (d + 1) 161 6 [some (.ref 76), some (.ref 1), some (.int xd), none, none] [.int x] h1 :=
  ((zx1 zfq161_0).trans rfl : zex E (n + 3) (d + 1) 161 0 [some (.ref 76), some (.ref 1), some (.int xd), none, none] [] h = zex E (n + 2) (d + 1) 161 1 [some (.ref 76), some (.ref 1), some (.int xd), none, none] [.ref 1] h).trans (((zx1 zfq161_1).trans rfl : zex E (n + 2) (d + 1) 161 1 [some (.ref 76), some (.ref 1), some (.int xd), none, none] [.ref 1] h = zex E (n + 1) (d + 1) 161 3 [some (.ref 76), some (.ref 1), some (.int xd), none, none] [.retAddr 6, .ref 1] h).trans ((zcvg (as := [.retAddr 6]) (r := []) zfq161_3 znq184 rfl ha rfl e1 : zex E (n + 1) (d + 1) 161 3 [some (.ref 76), some (.ref 1), some (.int xd), none, none] [.retAddr 6, .ref 1] h = zex E n (d + 1) 161 6 [some (.ref 76), some (.ref 1), some (.int xd), none, none] [.int x] h1)))
set_option maxRecDepth 100000 in
theorem ca_35n {E : zE} {n d : Nat} {h h1 h2 : zH} {xd x : Int32} {u4 : Option Value} (ha : zat h.1 1 = some (.inr (.inl (9, [some (some 2), none, none, none, none, none])))) (hb : zat h1.1 76 = some (.inr (.inl (6, [some (some 77), none])))) (hx : x = 0 ∨ x = 1) (e1 : zex E (n + 10) d 181 0 [some (.ref 1), none] [] h = some (.inl none, h1)) (e2 : zex E (n + 2) d 162 0 [some (.ref 76), some (.ref 1), some (.int (xd + 1))] [] h1 = some (.inl (some (.int x)), h2)) : zex E (n + 12) (d + 1) 161 35 [some (.ref 76), some (.ref 1), some (.int xd), some (.int 1), u4] [] h = some (.inl (some (.int x)), h2) :=
  ((zx1 zfq161_35).trans rfl : zex E (n + 12) (d + 1) 161 35 [some (.ref 76), some (.ref 1), some (.int xd), some (.int 1), u4] [] h = zex E (n + 11) (d + 1) 161 36 [some (.ref 76), some (.ref 1), some (.int xd), some (.int 1), u4] [.ref 1] h).trans ((zcvg (as := []) (r := []) zfq161_36 znq181 rfl ha rfl e1 : zex E (n + 11) (d + 1) 161 36 [some (.ref 76), some (.ref 1), some (.int xd), some (.int 1), u4] [.ref 1] h = zex E (n + 10) (d + 1) 161 39 [some (.ref 76), some (.ref 1), some (.int xd), some (.int 1), u4] [] h1).trans (((zx1 zfq161_39).trans rfl : zex E (n + 10) (d + 1) 161 39 [some (.ref 76), some (.ref 1), some (.int xd), some (.int 1), u4] [] h1 = zex E (n + 9) (d + 1) 161 40 [some (.ref 76), some (.ref 1), some (.int xd), some (.int 1), u4] [.int 1] h1).trans (((zx1 zfq161_40).trans rfl : zex E (n + 9) (d + 1) 161 40 [some (.ref 76), some (.ref 1), some (.int xd), some (.int 1), u4] [.int 1] h1 = zex E (n + 8) (d + 1) 161 43 [some (.ref 76), some (.ref 1), some (.int xd), some (.int 1), u4] [] h1).trans (((zx1 zfq161_43).trans rfl : zex E (n + 8) (d + 1) 161 43 [some (.ref 76), some (.ref 1), some (.int xd), some (.int 1), u4] [] h1 = zex E (n + 7) (d + 1) 161 44 [some (.ref 76), some (.ref 1), some (.int xd), some (.int 1), u4] [.ref 76] h1).trans (((zx1 zfq161_44).trans rfl : zex E (n + 7) (d + 1) 161 44 [some (.ref 76), some (.ref 1), some (.int xd), some (.int 1), u4] [.ref 76] h1 = zex E (n + 6) (d + 1) 161 45 [some (.ref 76), some (.ref 1), some (.int xd), some (.int 1), u4] [.ref 1, .ref 76] h1).trans (((zx1 zfq161_45).trans rfl : zex E (n + 6) (d + 1) 161 45 [some (.ref 76), some (.ref 1), some (.int xd), some (.int 1), u4] [.ref 1, .ref 76] h1 = zex E (n + 5) (d + 1) 161 46 [some (.ref 76), some (.ref 1), some (.int xd), some (.int 1), u4] [.int xd, .ref 1, .ref 76] h1).trans (((zx1 zfq161_46).trans rfl : zex E (n + 5) (d + 1) 161 46 [some (.ref 76), some (.ref 1), some (.int xd), some (.int 1), u4] [.int xd, .ref 1, .ref 76] h1 = zex E (n + 4) (d + 1) 161 47 [some (.ref 76), some (.ref 1), some (.int xd), some (.int 1), u4] [.int 1, .int xd, .ref 1, .ref 76] h1).trans (((zx1 zfq161_47).trans rfl : zex E (n + 4) (d + 1) 161 47 [some (.ref 76), some (.ref 1), some (.int xd), some (.int 1), u4] [.int 1, .int xd, .ref 1, .ref 76] h1 = zex E (n + 3) (d + 1) 161 48 [some (.ref 76), some (.ref 1), some (.int xd), some (.int 1), u4] [.int (xd + 1), .ref 1, .ref 76] h1).trans ((zcvg (as := [.ref 1, .int (xd + 1)]) (r := []) zfq161_48 znq162 rfl hb rfl e2 : zex E (n + 3) (d + 1) 161 48 [some (.ref 76), some (.ref 1), some (.int xd), some (.int 1), u4] [.int (xd + 1), .ref 1, .ref 76] h1 = zex E (n + 2) (d + 1) 161 51 [some (.ref 76), some (.ref 1), some (.int xd), some (.int 1), u4] [.int x] h2).trans (((zx1 zfq161_51).trans rfl : zex E (n + 2) (d + 1) 161 51 [some (.ref 76), some (.ref 1), some (.int xd), some (.int 1), u4] [.int x] h2 = zex E (n + 1) (d + 1) 161 62 [some (.ref 76), some (.ref 1), some (.int xd), some (.int 1), u4] [.int x] h2).trans (((zx1 zfq161_62).trans (by rcases hx with rfl | rfl <;> rfl) : zex E (n + 1) (d + 1) 161 62 [some (.ref 76), some (.ref 1), some (.int xd), some (.int 1), u4] [.int x] h2 = some (.inl (some (.int x)), h2)))))))))))))
set_option maxRecDepth 100000 in
theorem ca_35b {E : zE} {n d : Nat} {h h1 h2 : zH} {xd x : Int32} {u4 : Option Value} (ha : zat h.1 1 = some (.inr (.inl (9, [some (some 2), none, none, none, none, none])))) (hb : zat h1.1 76 = some (.inr (.inl (6, [some (some 77), none])))) (hx : x = 0 ∨ x = 1) (e1 : zex E (n + 9) d 181 0 [some (.ref 1), none] [] h = some (.inl none, h1)) (e2 : zex E (n + 1) d 163 0 [some (.ref 76), some (.ref 1), some (.int (xd + 1))] [] h1 = some (.inl (some (.int x)), h2)) : zex E (n + 11) (d + 1) 161 35 [some (.ref 76), some (.ref 1), some (.int xd), some (.int 0), u4] [] h = some (.inl (some (.int x)), h2) :=
  ((zx1 zfq161_35).trans rfl : zex E (n + 11) (d + 1) 161 35 [some (.ref 76), some (.ref 1), some (.int xd), some (.int 0), u4] [] h = zex E (n + 10) (d + 1) 161 36 [some (.ref 76), some (.ref 1), some (.int xd), some (.int 0), u4] [.ref 1] h).trans ((zcvg (as := []) (r := []) zfq161_36 znq181 rfl ha rfl e1 : zex E (n + 10) (d + 1) 161 36 [some (.ref 76), some (.ref 1), some (.int xd), some (.int 0), u4] [.ref 1] h = zex E (n + 9) (d + 1) 161 39 [some (.ref 76), some (.ref 1), some (.int xd), some (.int 0), u4] [] h1).trans (((zx1 zfq161_39).trans rfl : zex E (n + 9) (d + 1) 161 39 [some (.ref 76), some (.ref 1), some (.int xd), some (.int 0), u4] [] h1 = zex E (n + 8) (d + 1) 161 40 [some (.ref 76), some (.ref 1), some (.int xd), some (.int 0), u4] [.int 0] h1).trans (((zx1 zfq161_40).trans rfl : zex E (n + 8) (d + 1) 161 40 [some (.ref 76), some (.ref 1), some (.int xd), some (.int 0), u4] [.int 0] h1 = zex E (n + 7) (d + 1) 161 54 [some (.ref 76), some (.ref 1), some (.int xd), some (.int 0), u4] [] h1).trans (((zx1 zfq161_54).trans rfl : zex E (n + 7) (d + 1) 161 54 [some (.ref 76), some (.ref 1), some (.int xd), some (.int 0), u4] [] h1 = zex E (n + 6) (d + 1) 161 55 [some (.ref 76), some (.ref 1), some (.int xd), some (.int 0), u4] [.ref 76] h1).trans (((zx1 zfq161_55).trans rfl : zex E (n + 6) (d + 1) 161 55 [some (.ref 76), some (.ref 1), some (.int xd), some (.int 0), u4] [.ref 76] h1 = zex E (n + 5) (d + 1) 161 56 [some (.ref 76), some (.ref 1), some (.int xd), some (.int 0), u4] [.ref 1, .ref 76] h1).trans (((zx1 zfq161_56).trans rfl : zex E (n + 5) (d + 1) 161 56 [some (.ref 76), some (.ref 1), some (.int xd), some (.int 0), u4] [.ref 1, .ref 76] h1 = zex E (n + 4) (d + 1) 161 57 [some (.ref 76), some (.ref 1), some (.int xd), some (.int 0), u4] [.int xd, .ref 1, .ref 76] h1).trans (((zx1 zfq161_57).trans rfl : zex E (n + 4) (d + 1) 161 57 [some (.ref 76), some (.ref 1), some (.int xd), some (.int 0), u4] [.int xd, .ref 1, .ref 76] h1 = zex E (n + 3) (d + 1) 161 58 [some (.ref 76), some (.ref 1), some (.int xd), some (.int 0), u4] [.int 1, .int xd, .ref 1, .ref 76] h1).trans (((zx1 zfq161_58).trans rfl : zex E (n + 3) (d + 1) 161 58 [some (.ref 76), some (.ref 1), some (.int xd), some (.int 0), u4] [.int 1, .int xd, .ref 1, .ref 76] h1 = zex E (n + 2) (d + 1) 161 59 [some (.ref 76), some (.ref 1), some (.int xd), some (.int 0), u4] [.int (xd + 1), .ref 1, .ref 76] h1).trans ((zcvg (as := [.ref 1, .int (xd + 1)]) (r := []) zfq161_59 znq163 rfl hb rfl e2 : zex E (n + 2) (d + 1) 161 59 [some (.ref 76), some (.ref 1), some (.int xd), some (.int 0), u4] [.int (xd + 1), .ref 1, .ref 76] h1 = zex E (n + 1) (d + 1) 161 62 [some (.ref 76), some (.ref 1), some (.int xd), some (.int 0), u4] [.int x] h2).trans (((zx1 zfq161_62).trans (by rcases hx with rfl | rfl <;> rfl) : zex E (n + 1) (d + 1) 161 62 [some (.ref 76), some (.ref 1), some (.int xd), some (.int 0), u4] [.int x] h2 = some (.inl (some (.int x)), h2))))))))))))
set_option maxRecDepth 100000 in
theorem ca_63 {E : zE} {n d : Nat} {h h1 : zH} {xd x : Int32} {u3 u4 : Option Value} (ha : zat h.1 1 = some (.inr (.inl (9, [some (some 2), none, none, none, none, none])))) (e1 : zex E n d 185 0 [some (.ref 1), some (.retAddr 7), none, none, none, none] [] h = some (.inl (some (.int x)), h1)) : zex E (n + 3) (d + 1) 161 63 [some (.ref 76), some (.ref 1), some (.int xd), u3, u4] [] h = zex E n (d + 1) 161 69 [some (.ref 76), some (.ref 1), some (.int xd), u3, u4] [.int x] h1 :=
  ((zx1 zfq161_63).trans rfl : zex E (n + 3) (d + 1) 161 63 [some (.ref 76), some (.ref 1), some (.int xd), u3, u4] [] h = zex E (n + 2) (d + 1) 161 64 [some (.ref 76), some (.ref 1), some (.int xd), u3, u4] [.ref 1] h).trans (((zx1 zfq161_64).trans rfl : zex E (n + 2) (d + 1) 161 64 [some (.ref 76), some (.ref 1), some (.int xd), u3, u4] [.ref 1] h = zex E (n + 1) (d + 1) 161 66 [some (.ref 76), some (.ref 1), some (.int xd), u3, u4] [.retAddr 7, .ref 1] h).trans ((zcvg (as := [.retAddr 7]) (r := []) zfq161_66 znq185 rfl ha rfl e1 : zex E (n + 1) (d + 1) 161 66 [some (.ref 76), some (.ref 1), some (.int xd), u3, u4] [.retAddr 7, .ref 1] h = zex E n (d + 1) 161 69 [some (.ref 76), some (.ref 1), some (.int xd), u3, u4] [.int x] h1)))
set_option maxRecDepth 100000 in
theorem ca_90 {E : zE} {n d : Nat} {h h1 : zH} {xd : Int32} {u3 u4 : Option Value} (ha : zat h.1 1 = some (.inr (.inl (9, [some (some 2), none, none, none, none, none])))) (e1 : zex E (n + 2) d 181 0 [some (.ref 1), none] [] h = some (.inl none, h1)) : zex E (n + 4) (d + 1) 161 90 [some (.ref 76), some (.ref 1), some (.int xd), u3, u4] [] h = some (.inl (some (.int 1)), h1) :=
  ((zx1 zfq161_90).trans rfl : zex E (n + 4) (d + 1) 161 90 [some (.ref 76), some (.ref 1), some (.int xd), u3, u4] [] h = zex E (n + 3) (d + 1) 161 91 [some (.ref 76), some (.ref 1), some (.int xd), u3, u4] [.ref 1] h).trans ((zcvg (as := []) (r := []) zfq161_91 znq181 rfl ha rfl e1 : zex E (n + 3) (d + 1) 161 91 [some (.ref 76), some (.ref 1), some (.int xd), u3, u4] [.ref 1] h = zex E (n + 2) (d + 1) 161 94 [some (.ref 76), some (.ref 1), some (.int xd), u3, u4] [] h1).trans (((zx1 zfq161_94).trans rfl : zex E (n + 2) (d + 1) 161 94 [some (.ref 76), some (.ref 1), some (.int xd), u3, u4] [] h1 = zex E (n + 1) (d + 1) 161 95 [some (.ref 76), some (.ref 1), some (.int xd), u3, u4] [.int 1] h1).trans (((zx1 zfq161_95).trans rfl : zex E (n + 1) (d + 1) 161 95 [some (.ref 76), some (.ref 1), some (.int xd), u3, u4] [.int 1] h1 = some (.inl (some (.int 1)), h1)))))
set_option maxRecDepth 100000 in
theorem ca_115 {E : zE} {n d : Nat} {h h1 : zH} {xd : Int32} {u3 u4 : Option Value} (ha : zat h.1 1 = some (.inr (.inl (9, [some (some 2), none, none, none, none, none])))) (e1 : zex E (n + 2) d 181 0 [some (.ref 1), none] [] h = some (.inl none, h1)) : zex E (n + 4) (d + 1) 161 115 [some (.ref 76), some (.ref 1), some (.int xd), u3, u4] [] h = some (.inl (some (.int 1)), h1) :=
  ((zx1 zfq161_115).trans rfl : zex E (n + 4) (d + 1) 161 115 [some (.ref 76), some (.ref 1), some (.int xd), u3, u4] [] h = zex E (n + 3) (d + 1) 161 116 [some (.ref 76), some (.ref 1), some (.int xd), u3, u4] [.ref 1] h).trans ((zcvg (as := []) (r := []) zfq161_116 znq181 rfl ha rfl e1 : zex E (n + 3) (d + 1) 161 116 [some (.ref 76), some (.ref 1), some (.int xd), u3, u4] [.ref 1] h = zex E (n + 2) (d + 1) 161 119 [some (.ref 76), some (.ref 1), some (.int xd), u3, u4] [] h1).trans (((zx1 zfq161_119).trans rfl : zex E (n + 2) (d + 1) 161 119 [some (.ref 76), some (.ref 1), some (.int xd), u3, u4] [] h1 = zex E (n + 1) (d + 1) 161 120 [some (.ref 76), some (.ref 1), some (.int xd), u3, u4] [.int 1] h1).trans (((zx1 zfq161_120).trans rfl : zex E (n + 1) (d + 1) 161 120 [some (.ref 76), some (.ref 1), some (.int xd), u3, u4] [.int 1] h1 = some (.inl (some (.int 1)), h1)))))
set_option maxRecDepth 100000 in
theorem ca_96 {E : zE} {n d : Nat} {h h1 : zH} {xd x : Int32} {u3 u4 : Option Value} (ha : zat h.1 1 = some (.inr (.inl (9, [some (some 2), none, none, none, none, none])))) (e1 : zex E n d 184 0 [some (.ref 1), some (.retAddr 8)] [] h = some (.inl (some (.int x)), h1)) : zex E (n + 3) (d + 1) 161 96 [some (.ref 76), some (.ref 1), some (.int xd), u3, u4] [] h = zex E n (d + 1) 161 102 [some (.ref 76), some (.ref 1), some (.int xd), u3, u4] [.int x] h1 :=
  ((zx1 zfq161_96).trans rfl : zex E (n + 3) (d + 1) 161 96 [some (.ref 76), some (.ref 1), some (.int xd), u3, u4] [] h = zex E (n + 2) (d + 1) 161 97 [some (.ref 76), some (.ref 1), some (.int xd), u3, u4] [.ref 1] h).trans (((zx1 zfq161_97).trans rfl : zex E (n + 2) (d + 1) 161 97 [some (.ref 76), some (.ref 1), some (.int xd), u3, u4] [.ref 1] h = zex E (n + 1) (d + 1) 161 99 [some (.ref 76), some (.ref 1), some (.int xd), u3, u4] [.retAddr 8, .ref 1] h).trans ((zcvg (as := [.retAddr 8]) (r := []) zfq161_99 znq184 rfl ha rfl e1 : zex E (n + 1) (d + 1) 161 99 [some (.ref 76), some (.ref 1), some (.int xd), u3, u4] [.retAddr 8, .ref 1] h = zex E n (d + 1) 161 102 [some (.ref 76), some (.ref 1), some (.int xd), u3, u4] [.int x] h1)))
set_option maxRecDepth 100000 in
theorem ca_102 {E : zE} {n d : Nat} {h h1 : zH} {xd x : Int32} {u3 u4 : Option Value} (hb : zat h.1 76 = some (.inr (.inl (6, [some (some 77), none])))) (hx : x = 0 ∨ x = 1) (e1 : zex E (n + 1) d 164 0 [some (.ref 76), some (.ref 1), none, none, none, none] [] h = some (.inl (some (.int x)), h1)) : zex E (n + 5) (d + 1) 161 102 [some (.ref 76), some (.ref 1), some (.int xd), u3, u4] [.int 0] h = some (.inl (some (.int x)), h1) :=
  ((zx1 zfq161_102).trans rfl : zex E (n + 5) (d + 1) 161 102 [some (.ref 76), some (.ref 1), some (.int xd), u3, u4] [.int 0] h = zex E (n + 4) (d + 1) 161 121 [some (.ref 76), some (.ref 1), some (.int xd), u3, u4] [] h).trans (((zx1 zfq161_121).trans rfl : zex E (n + 4) (d + 1) 161 121 [some (.ref 76), some (.ref 1), some (.int xd), u3, u4] [] h = zex E (n + 3) (d + 1) 161 122 [some (.ref 76), some (.ref 1), some (.int xd), u3, u4] [.ref 76] h).trans (((zx1 zfq161_122).trans rfl : zex E (n + 3) (d + 1) 161 122 [some (.ref 76), some (.ref 1), some (.int xd), u3, u4] [.ref 76] h = zex E (n + 2) (d + 1) 161 123 [some (.ref 76), some (.ref 1), some (.int xd), u3, u4] [.ref 1, .ref 76] h).trans ((zcvg (as := [.ref 1]) (r := []) zfq161_123 znq164 rfl hb rfl e1 : zex E (n + 2) (d + 1) 161 123 [some (.ref 76), some (.ref 1), some (.int xd), u3, u4] [.ref 1, .ref 76] h = zex E (n + 1) (d + 1) 161 126 [some (.ref 76), some (.ref 1), some (.int xd), u3, u4] [.int x] h1).trans (((zx1 zfq161_126).trans (by rcases hx with rfl | rfl <;> rfl) : zex E (n + 1) (d + 1) 161 126 [some (.ref 76), some (.ref 1), some (.int xd), u3, u4] [.int x] h1 = some (.inl (some (.int x)), h1))))))
set_option maxRecDepth 100000 in
theorem ck_0 {E : zE} {n d : Nat} {h h1 : zH} {xd x : Int32} (hb : zat h.1 76 = some (.inr (.inl (6, [some (some 77), none])))) (e1 : zex E n d 161 0 [some (.ref 76), some (.ref 1), some (.int xd), none, none] [] h = some (.inl (some (.int x)), h1)) : zex E (n + 4) (d + 1) 162 0 [some (.ref 76), some (.ref 1), some (.int xd)] [] h = zex E n (d + 1) 162 6 [some (.ref 76), some (.ref 1), some (.int xd)] [.int x] h1 :=
  ((zx1 zfq162_0).trans rfl : zex E (n + 4) (d + 1) 162 0 [some (.ref 76), some (.ref 1), some (.int xd)] [] h = zex E (n + 3) (d + 1) 162 1 [some (.ref 76), some (.ref 1), some (.int xd)] [.ref 76] h).trans (((zx1 zfq162_1).trans rfl : zex E (n + 3) (d + 1) 162 1 [some (.ref 76), some (.ref 1), some (.int xd)] [.ref 76] h = zex E (n + 2) (d + 1) 162 2 [some (.ref 76), some (.ref 1), some (.int xd)] [.ref 1, .ref 76] h).trans (((zx1 zfq162_2).trans rfl : zex E (n + 2) (d + 1) 162 2 [some (.ref 76), some (.ref 1), some (.int xd)] [.ref 1, .ref 76] h = zex E (n + 1) (d + 1) 162 3 [some (.ref 76), some (.ref 1), some (.int xd)] [.int xd, .ref 1, .ref 76] h).trans ((zcvg (as := [.ref 1, .int xd]) (r := []) zfq162_3 znq161 rfl hb rfl e1 : zex E (n + 1) (d + 1) 162 3 [some (.ref 76), some (.ref 1), some (.int xd)] [.int xd, .ref 1, .ref 76] h = zex E n (d + 1) 162 6 [some (.ref 76), some (.ref 1), some (.int xd)] [.int x] h1))))
set_option maxRecDepth 100000 in
theorem ck_6 {E : zE} {n d : Nat} {h : zH} {xd : Int32}   : zex E (n + 3) (d + 1) 162 6 [some (.ref 76), some (.ref 1), some (.int xd)] [.int 0] h = some (.inl (some (.int 0)), h) :=
  ((zx1 zfq162_6).trans rfl : zex E (n + 3) (d + 1) 162 6 [some (.ref 76), some (.ref 1), some (.int xd)] [.int 0] h = zex E (n + 2) (d + 1) 162 9 [some (.ref 76), some (.ref 1), some (.int xd)] [] h).trans (((zx1 zfq162_9).trans rfl : zex E (n + 2) (d + 1) 162 9 [some (.ref 76), some (.ref 1), some (.int xd)] [] h = zex E (n + 1) (d + 1) 162 10 [some (.ref 76), some (.ref 1), some (.int xd)] [.int 0] h).trans (((zx1 zfq162_10).trans rfl : zex E (n + 1) (d + 1) 162 10 [some (.ref 76), some (.ref 1), some (.int xd)] [.int 0] h = some (.inl (some (.int 0)), h))))
set_option maxRecDepth 100000 in
theorem cb_0 {E : zE} {n d : Nat} {h h1 : zH} {xd x : Int32} (hb : zat h.1 76 = some (.inr (.inl (6, [some (some 77), none])))) (e1 : zex E n d 160 0 [some (.ref 76), some (.ref 1), some (.int xd), none, none, none] [] h = some (.inl (some (.int x)), h1)) : zex E (n + 4) (d + 1) 163 0 [some (.ref 76), some (.ref 1), some (.int xd)] [] h = zex E n (d + 1) 163 6 [some (.ref 76), some (.ref 1), some (.int xd)] [.int x] h1 :=
  ((zx1 zfq163_0).trans rfl : zex E (n + 4) (d + 1) 163 0 [some (.ref 76), some (.ref 1), some (.int xd)] [] h = zex E (n + 3) (d + 1) 163 1 [some (.ref 76), some (.ref 1), some (.int xd)] [.ref 76] h).trans (((zx1 zfq163_1).trans rfl : zex E (n + 3) (d + 1) 163 1 [some (.ref 76), some (.ref 1), some (.int xd)] [.ref 76] h = zex E (n + 2) (d + 1) 163 2 [some (.ref 76), some (.ref 1), some (.int xd)] [.ref 1, .ref 76] h).trans (((zx1 zfq163_2).trans rfl : zex E (n + 2) (d + 1) 163 2 [some (.ref 76), some (.ref 1), some (.int xd)] [.ref 1, .ref 76] h = zex E (n + 1) (d + 1) 163 3 [some (.ref 76), some (.ref 1), some (.int xd)] [.int xd, .ref 1, .ref 76] h).trans ((zcvg (as := [.ref 1, .int xd]) (r := []) zfq163_3 znq160 rfl hb rfl e1 : zex E (n + 1) (d + 1) 163 3 [some (.ref 76), some (.ref 1), some (.int xd)] [.int xd, .ref 1, .ref 76] h = zex E n (d + 1) 163 6 [some (.ref 76), some (.ref 1), some (.int xd)] [.int x] h1))))
set_option maxRecDepth 100000 in
theorem cb_6 {E : zE} {n d : Nat} {h : zH} {xd : Int32}   : zex E (n + 3) (d + 1) 163 6 [some (.ref 76), some (.ref 1), some (.int xd)] [.int 0] h = some (.inl (some (.int 0)), h) :=
  ((zx1 zfq163_6).trans rfl : zex E (n + 3) (d + 1) 163 6 [some (.ref 76), some (.ref 1), some (.int xd)] [.int 0] h = zex E (n + 2) (d + 1) 163 9 [some (.ref 76), some (.ref 1), some (.int xd)] [] h).trans (((zx1 zfq163_9).trans rfl : zex E (n + 2) (d + 1) 163 9 [some (.ref 76), some (.ref 1), some (.int xd)] [] h = zex E (n + 1) (d + 1) 163 10 [some (.ref 76), some (.ref 1), some (.int xd)] [.int 0] h).trans (((zx1 zfq163_10).trans rfl : zex E (n + 1) (d + 1) 163 10 [some (.ref 76), some (.ref 1), some (.int xd)] [.int 0] h = some (.inl (some (.int 0)), h))))
set_option maxRecDepth 100000 in
theorem cb_29 {E : zE} {n d : Nat} {h h1 : zH} {xd : Int32} (ha : zat h.1 1 = some (.inr (.inl (9, [some (some 2), none, none, none, none, none])))) (e1 : zex E (n + 2) d 181 0 [some (.ref 1), none] [] h = some (.inl none, h1)) : zex E (n + 4) (d + 1) 163 29 [some (.ref 76), some (.ref 1), some (.int xd)] [] h = some (.inl (some (.int 1)), h1) :=
  ((zx1 zfq163_29).trans rfl : zex E (n + 4) (d + 1) 163 29 [some (.ref 76), some (.ref 1), some (.int xd)] [] h = zex E (n + 3) (d + 1) 163 30 [some (.ref 76), some (.ref 1), some (.int xd)] [.ref 1] h).trans ((zcvg (as := []) (r := []) zfq163_30 znq181 rfl ha rfl e1 : zex E (n + 3) (d + 1) 163 30 [some (.ref 76), some (.ref 1), some (.int xd)] [.ref 1] h = zex E (n + 2) (d + 1) 163 33 [some (.ref 76), some (.ref 1), some (.int xd)] [] h1).trans (((zx1 zfq163_33).trans rfl : zex E (n + 2) (d + 1) 163 33 [some (.ref 76), some (.ref 1), some (.int xd)] [] h1 = zex E (n + 1) (d + 1) 163 34 [some (.ref 76), some (.ref 1), some (.int xd)] [.int 1] h1).trans (((zx1 zfq163_34).trans rfl : zex E (n + 1) (d + 1) 163 34 [some (.ref 76), some (.ref 1), some (.int xd)] [.int 1] h1 = some (.inl (some (.int 1)), h1)))))
set_option maxRecDepth 100000 in
theorem cc_16 {E : zE} {n d : Nat} {h h1 : zH} {xd x3 x4 x5 x : Int32} (hb : zat h.1 76 = some (.inr (.inl (6, [some (some 77), none])))) (e1 : zex E n d 161 0 [some (.ref 76), some (.ref 1), some (.int xd), none, none] [] h = some (.inl (some (.int x)), h1)) : zex E (n + 4) (d + 1) 160 16 [some (.ref 76), some (.ref 1), some (.int xd), some (.int x3), some (.int x4), some (.int x5)] [] h = zex E n (d + 1) 160 22 [some (.ref 76), some (.ref 1), some (.int xd), some (.int x3), some (.int x4), some (.int x5)] [.int x] h1 :=
  ((zx1 zfq160_16).trans rfl : zex E (n + 4) (d + 1) 160 16 [some (.ref 76), some (.ref 1), some (.int xd), some (.int x3), some (.int x4), some (.int x5)] [] h = zex E (n + 3) (d + 1) 160 17 [some (.ref 76), some (.ref 1), some (.int xd), some (.int x3), some (.int x4), some (.int x5)] [.ref 76] h).trans (((zx1 zfq160_17).trans rfl : zex E (n + 3) (d + 1) 160 17 [some (.ref 76), some (.ref 1), some (.int xd), some (.int x3), some (.int x4), some (.int x5)] [.ref 76] h = zex E (n + 2) (d + 1) 160 18 [some (.ref 76), some (.ref 1), some (.int xd), some (.int x3), some (.int x4), some (.int x5)] [.ref 1, .ref 76] h).trans (((zx1 zfq160_18).trans rfl : zex E (n + 2) (d + 1) 160 18 [some (.ref 76), some (.ref 1), some (.int xd), some (.int x3), some (.int x4), some (.int x5)] [.ref 1, .ref 76] h = zex E (n + 1) (d + 1) 160 19 [some (.ref 76), some (.ref 1), some (.int xd), some (.int x3), some (.int x4), some (.int x5)] [.int xd, .ref 1, .ref 76] h).trans ((zcvg (as := [.ref 1, .int xd]) (r := []) zfq160_19 znq161 rfl hb rfl e1 : zex E (n + 1) (d + 1) 160 19 [some (.ref 76), some (.ref 1), some (.int xd), some (.int x3), some (.int x4), some (.int x5)] [.int xd, .ref 1, .ref 76] h = zex E n (d + 1) 160 22 [some (.ref 76), some (.ref 1), some (.int xd), some (.int x3), some (.int x4), some (.int x5)] [.int x] h1))))
set_option maxRecDepth 100000 in
theorem cc_22 {E : zE} {n d : Nat} {h : zH} {xd x3 x4 x5 : Int32}   : zex E (n + 3) (d + 1) 160 22 [some (.ref 76), some (.ref 1), some (.int xd), some (.int x3), some (.int x4), some (.int x5)] [.int 0] h = some (.inl (some (.int 0)), h) :=
  ((zx1 zfq160_22).trans rfl : zex E (n + 3) (d + 1) 160 22 [some (.ref 76), some (.ref 1), some (.int xd), some (.int x3), some (.int x4), some (.int x5)] [.int 0] h = zex E (n + 2) (d + 1) 160 25 [some (.ref 76), some (.ref 1), some (.int xd), some (.int x3), some (.int x4), some (.int x5)] [] h).trans (((zx1 zfq160_25).trans rfl : zex E (n + 2) (d + 1) 160 25 [some (.ref 76), some (.ref 1), some (.int xd), some (.int x3), some (.int x4), some (.int x5)] [] h = zex E (n + 1) (d + 1) 160 26 [some (.ref 76), some (.ref 1), some (.int xd), some (.int x3), some (.int x4), some (.int x5)] [.int 0] h).trans (((zx1 zfq160_26).trans rfl : zex E (n + 1) (d + 1) 160 26 [some (.ref 76), some (.ref 1), some (.int xd), some (.int x3), some (.int x4), some (.int x5)] [.int 0] h = some (.inl (some (.int 0)), h))))
set_option maxRecDepth 100000 in
theorem cc_41 {E : zE} {n d : Nat} {h h1 : zH} {xd x3 x4 x5 x : Int32} (ha : zat h.1 1 = some (.inr (.inl (9, [some (some 2), none, none, none, none, none])))) (e1 : zex E n d 184 0 [some (.ref 1), some (.retAddr 10)] [] h = some (.inl (some (.int x)), h1)) : zex E (n + 3) (d + 1) 160 41 [some (.ref 76), some (.ref 1), some (.int xd), some (.int x3), some (.int x4), some (.int x5)] [] h = zex E n (d + 1) 160 47 [some (.ref 76), some (.ref 1), some (.int xd), some (.int x3), some (.int x4), some (.int x5)] [.int x] h1 :=
  ((zx1 zfq160_41).trans rfl : zex E (n + 3) (d + 1) 160 41 [some (.ref 76), some (.ref 1), some (.int xd), some (.int x3), some (.int x4), some (.int x5)] [] h = zex E (n + 2) (d + 1) 160 42 [some (.ref 76), some (.ref 1), some (.int xd), some (.int x3), some (.int x4), some (.int x5)] [.ref 1] h).trans (((zx1 zfq160_42).trans rfl : zex E (n + 2) (d + 1) 160 42 [some (.ref 76), some (.ref 1), some (.int xd), some (.int x3), some (.int x4), some (.int x5)] [.ref 1] h = zex E (n + 1) (d + 1) 160 44 [some (.ref 76), some (.ref 1), some (.int xd), some (.int x3), some (.int x4), some (.int x5)] [.retAddr 10, .ref 1] h).trans ((zcvg (as := [.retAddr 10]) (r := []) zfq160_44 znq184 rfl ha rfl e1 : zex E (n + 1) (d + 1) 160 44 [some (.ref 76), some (.ref 1), some (.int xd), some (.int x3), some (.int x4), some (.int x5)] [.retAddr 10, .ref 1] h = zex E n (d + 1) 160 47 [some (.ref 76), some (.ref 1), some (.int xd), some (.int x3), some (.int x4), some (.int x5)] [.int x] h1)))
set_option maxRecDepth 100000 in
theorem cc_67 {E : zE} {n d : Nat} {h h1 : zH} {xd x3 x4 x5 x : Int32} (ha : zat h.1 1 = some (.inr (.inl (9, [some (some 2), none, none, none, none, none])))) (e1 : zex E n d 184 0 [some (.ref 1), some (.retAddr 11)] [] h = some (.inl (some (.int x)), h1)) : zex E (n + 3) (d + 1) 160 67 [some (.ref 76), some (.ref 1), some (.int xd), some (.int x3), some (.int x4), some (.int x5)] [] h = zex E n (d + 1) 160 73 [some (.ref 76), some (.ref 1), some (.int xd), some (.int x3), some (.int x4), some (.int x5)] [.int x] h1 :=
  ((zx1 zfq160_67).trans rfl : zex E (n + 3) (d + 1) 160 67 [some (.ref 76), some (.ref 1), some (.int xd), some (.int x3), some (.int x4), some (.int x5)] [] h = zex E (n + 2) (d + 1) 160 68 [some (.ref 76), some (.ref 1), some (.int xd), some (.int x3), some (.int x4), some (.int x5)] [.ref 1] h).trans (((zx1 zfq160_68).trans rfl : zex E (n + 2) (d + 1) 160 68 [some (.ref 76), some (.ref 1), some (.int xd), some (.int x3), some (.int x4), some (.int x5)] [.ref 1] h = zex E (n + 1) (d + 1) 160 70 [some (.ref 76), some (.ref 1), some (.int xd), some (.int x3), some (.int x4), some (.int x5)] [.retAddr 11, .ref 1] h).trans ((zcvg (as := [.retAddr 11]) (r := []) zfq160_70 znq184 rfl ha rfl e1 : zex E (n + 1) (d + 1) 160 70 [some (.ref 76), some (.ref 1), some (.int xd), some (.int x3), some (.int x4), some (.int x5)] [.retAddr 11, .ref 1] h = zex E n (d + 1) 160 73 [some (.ref 76), some (.ref 1), some (.int xd), some (.int x3), some (.int x4), some (.int x5)] [.int x] h1)))
set_option maxRecDepth 100000 in
theorem cc_82 {E : zE} {n d : Nat} {h h1 : zH} {xd x3 x4 x5 : Int32} (ha : zat h.1 1 = some (.inr (.inl (9, [some (some 2), none, none, none, none, none])))) (e1 : zex E n d 181 0 [some (.ref 1), none] [] h = some (.inl none, h1)) : zex E (n + 2) (d + 1) 160 82 [some (.ref 76), some (.ref 1), some (.int xd), some (.int x3), some (.int x4), some (.int x5)] [] h = zex E n (d + 1) 160 86 [some (.ref 76), some (.ref 1), some (.int xd), some (.int x3), some (.int x4), some (.int x5)] [] h1 :=
  ((zx1 zfq160_82).trans rfl : zex E (n + 2) (d + 1) 160 82 [some (.ref 76), some (.ref 1), some (.int xd), some (.int x3), some (.int x4), some (.int x5)] [] h = zex E (n + 1) (d + 1) 160 83 [some (.ref 76), some (.ref 1), some (.int xd), some (.int x3), some (.int x4), some (.int x5)] [.ref 1] h).trans ((zcvg (as := []) (r := []) zfq160_83 znq181 rfl ha rfl e1 : zex E (n + 1) (d + 1) 160 83 [some (.ref 76), some (.ref 1), some (.int xd), some (.int x3), some (.int x4), some (.int x5)] [.ref 1] h = zex E n (d + 1) 160 86 [some (.ref 76), some (.ref 1), some (.int xd), some (.int x3), some (.int x4), some (.int x5)] [] h1))
set_option maxRecDepth 100000 in
theorem cl_0 {E : zE} {n d : Nat} {h h1 : zH} {x : Int32} {u2 : Option Value} (ha : zat h.1 1 = some (.inr (.inl (9, [some (some 2), none, none, none, none, none])))) (e1 : zex E n d 185 0 [some (.ref 1), some (.retAddr 4), none, none, none, none] [] h = some (.inl (some (.int x)), h1)) : zex E (n + 3) (d + 1) 159 0 [some (.ref 76), some (.ref 1), u2] [] h = zex E n (d + 1) 159 6 [some (.ref 76), some (.ref 1), u2] [.int x] h1 :=
  ((zx1 zfq159_0).trans rfl : zex E (n + 3) (d + 1) 159 0 [some (.ref 76), some (.ref 1), u2] [] h = zex E (n + 2) (d + 1) 159 1 [some (.ref 76), some (.ref 1), u2] [.ref 1] h).trans (((zx1 zfq159_1).trans rfl : zex E (n + 2) (d + 1) 159 1 [some (.ref 76), some (.ref 1), u2] [.ref 1] h = zex E (n + 1) (d + 1) 159 3 [some (.ref 76), some (.ref 1), u2] [.retAddr 4, .ref 1] h).trans ((zcvg (as := [.retAddr 4]) (r := []) zfq159_3 znq185 rfl ha rfl e1 : zex E (n + 1) (d + 1) 159 3 [some (.ref 76), some (.ref 1), u2] [.retAddr 4, .ref 1] h = zex E n (d + 1) 159 6 [some (.ref 76), some (.ref 1), u2] [.int x] h1)))
set_option maxRecDepth 100000 in
theorem cl_21 {E : zE} {n d : Nat} {h h1 : zH} {u2 : Option Value} (ha : zat h.1 1 = some (.inr (.inl (9, [some (some 2), none, none, none, none, none])))) (e1 : zex E n d 181 0 [some (.ref 1), none] [] h = some (.inl none, h1)) : zex E (n + 2) (d + 1) 159 21 [some (.ref 76), some (.ref 1), u2] [] h = zex E n (d + 1) 159 25 [some (.ref 76), some (.ref 1), u2] [] h1 :=
  ((zx1 zfq159_21).trans rfl : zex E (n + 2) (d + 1) 159 21 [some (.ref 76), some (.ref 1), u2] [] h = zex E (n + 1) (d + 1) 159 22 [some (.ref 76), some (.ref 1), u2] [.ref 1] h).trans ((zcvg (as := []) (r := []) zfq159_22 znq181 rfl ha rfl e1 : zex E (n + 1) (d + 1) 159 22 [some (.ref 76), some (.ref 1), u2] [.ref 1] h = zex E n (d + 1) 159 25 [some (.ref 76), some (.ref 1), u2] [] h1))
set_option maxRecDepth 100000 in
theorem cl_54 {E : zE} {n d : Nat} {h h1 h2 : zH} {x : Int32} {u2 : Option Value} (ha : zat h.1 1 = some (.inr (.inl (9, [some (some 2), none, none, none, none, none])))) (hc : zat h1.1 1 = some (.inr (.inl (9, [some (some 2), none, none, none, none, none])))) (e1 : zex E (n + 3) d 181 0 [some (.ref 1), none] [] h = some (.inl none, h1)) (e2 : zex E n d 184 0 [some (.ref 1), some (.retAddr 5)] [] h1 = some (.inl (some (.int x)), h2)) : zex E (n + 5) (d + 1) 159 54 [some (.ref 76), some (.ref 1), u2] [] h = zex E n (d + 1) 159 64 [some (.ref 76), some (.ref 1), u2] [.int x] h2 :=
  ((zx1 zfq159_54).trans rfl : zex E (n + 5) (d + 1) 159 54 [some (.ref 76), some (.ref 1), u2] [] h = zex E (n + 4) (d + 1) 159 55 [some (.ref 76), some (.ref 1), u2] [.ref 1] h).trans ((zcvg (as := []) (r := []) zfq159_55 znq181 rfl ha rfl e1 : zex E (n + 4) (d + 1) 159 55 [some (.ref 76), some (.ref 1), u2] [.ref 1] h = zex E (n + 3) (d + 1) 159 58 [some (.ref 76), some (.ref 1), u2] [] h1).trans (((zx1 zfq159_58).trans rfl : zex E (n + 3) (d + 1) 159 58 [some (.ref 76), some (.ref 1), u2] [] h1 = zex E (n + 2) (d + 1) 159 59 [some (.ref 76), some (.ref 1), u2] [.ref 1] h1).trans (((zx1 zfq159_59).trans rfl : zex E (n + 2) (d + 1) 159 59 [some (.ref 76), some (.ref 1), u2] [.ref 1] h1 = zex E (n + 1) (d + 1) 159 61 [some (.ref 76), some (.ref 1), u2] [.retAddr 5, .ref 1] h1).trans ((zcvg (as := [.retAddr 5]) (r := []) zfq159_61 znq184 rfl hc rfl e2 : zex E (n + 1) (d + 1) 159 61 [some (.ref 76), some (.ref 1), u2] [.retAddr 5, .ref 1] h1 = zex E n (d + 1) 159 64 [some (.ref 76), some (.ref 1), u2] [.int x] h2)))))
set_option maxRecDepth 100000 in
theorem cl_67 {E : zE} {n d : Nat} {h h1 h2 : zH} {x : Int32} {u2 : Option Value} (ha : zat h.1 1 = some (.inr (.inl (9, [some (some 2), none, none, none, none, none])))) (hb : zat h1.1 76 = some (.inr (.inl (6, [some (some 77), none])))) (e1 : zex E (n + 4) d 181 0 [some (.ref 1), none] [] h = some (.inl none, h1)) (e2 : zex E n d 160 0 [some (.ref 76), some (.ref 1), some (.int 0), none, none, none] [] h1 = some (.inl (some (.int x)), h2)) : zex E (n + 6) (d + 1) 159 67 [some (.ref 76), some (.ref 1), u2] [] h = zex E n (d + 1) 159 77 [some (.ref 76), some (.ref 1), u2] [.int x] h2 :=
  ((zx1 zfq159_67).trans rfl : zex E (n + 6) (d + 1) 159 67 [some (.ref 76), some (.ref 1), u2] [] h = zex E (n + 5) (d + 1) 159 68 [some (.ref 76), some (.ref 1), u2] [.ref 1] h).trans ((zcvg (as := []) (r := []) zfq159_68 znq181 rfl ha rfl e1 : zex E (n + 5) (d + 1) 159 68 [some (.ref 76), some (.ref 1), u2] [.ref 1] h = zex E (n + 4) (d + 1) 159 71 [some (.ref 76), some (.ref 1), u2] [] h1).trans (((zx1 zfq159_71).trans rfl : zex E (n + 4) (d + 1) 159 71 [some (.ref 76), some (.ref 1), u2] [] h1 = zex E (n + 3) (d + 1) 159 72 [some (.ref 76), some (.ref 1), u2] [.ref 76] h1).trans (((zx1 zfq159_72).trans rfl : zex E (n + 3) (d + 1) 159 72 [some (.ref 76), some (.ref 1), u2] [.ref 76] h1 = zex E (n + 2) (d + 1) 159 73 [some (.ref 76), some (.ref 1), u2] [.ref 1, .ref 76] h1).trans (((zx1 zfq159_73).trans rfl : zex E (n + 2) (d + 1) 159 73 [some (.ref 76), some (.ref 1), u2] [.ref 1, .ref 76] h1 = zex E (n + 1) (d + 1) 159 74 [some (.ref 76), some (.ref 1), u2] [.int 0, .ref 1, .ref 76] h1).trans ((zcvg (as := [.ref 1, .int 0]) (r := []) zfq159_74 znq160 rfl hb rfl e2 : zex E (n + 1) (d + 1) 159 74 [some (.ref 76), some (.ref 1), u2] [.int 0, .ref 1, .ref 76] h1 = zex E n (d + 1) 159 77 [some (.ref 76), some (.ref 1), u2] [.int x] h2))))))
set_option maxRecDepth 100000 in
theorem cl_77 {E : zE} {n d : Nat} {h : zH} {u2 : Option Value}   : zex E (n + 3) (d + 1) 159 77 [some (.ref 76), some (.ref 1), u2] [.int 0] h = some (.inl (some (.int 0)), h) :=
  ((zx1 zfq159_77).trans rfl : zex E (n + 3) (d + 1) 159 77 [some (.ref 76), some (.ref 1), u2] [.int 0] h = zex E (n + 2) (d + 1) 159 80 [some (.ref 76), some (.ref 1), u2] [] h).trans (((zx1 zfq159_80).trans rfl : zex E (n + 2) (d + 1) 159 80 [some (.ref 76), some (.ref 1), u2] [] h = zex E (n + 1) (d + 1) 159 81 [some (.ref 76), some (.ref 1), u2] [.int 0] h).trans (((zx1 zfq159_81).trans rfl : zex E (n + 1) (d + 1) 159 81 [some (.ref 76), some (.ref 1), u2] [.int 0] h = some (.inl (some (.int 0)), h))))
set_option maxRecDepth 100000 in
theorem cr_12 {E : zE} {n d : Nat} {h h1 : zH} {u2 : Option Value} (ha : zat h.1 1 = some (.inr (.inl (9, [some (some 2), none, none, none, none, none])))) (e1 : zex E n d 180 0 [some (.ref 1)] [] h = some (.inl none, h1)) : zex E (n + 2) (d + 1) 157 12 [some (.ref 76), some (.ref 1), u2] [] h = zex E n (d + 1) 157 16 [some (.ref 76), some (.ref 1), u2] [] h1 :=
  ((zx1 zfq157_12).trans rfl : zex E (n + 2) (d + 1) 157 12 [some (.ref 76), some (.ref 1), u2] [] h = zex E (n + 1) (d + 1) 157 13 [some (.ref 76), some (.ref 1), u2] [.ref 1] h).trans ((zcvg (as := []) (r := []) zfq157_13 znq180 rfl ha rfl e1 : zex E (n + 1) (d + 1) 157 13 [some (.ref 76), some (.ref 1), u2] [.ref 1] h = zex E n (d + 1) 157 16 [some (.ref 76), some (.ref 1), u2] [] h1))
set_option maxRecDepth 100000 in
theorem cr_33 {E : zE} {n d : Nat} {h h1 : zH} {x : Int32} {u2 : Option Value} (hb : zat h.1 76 = some (.inr (.inl (6, [some (some 77), none])))) (e1 : zex E n d 159 0 [some (.ref 76), some (.ref 1), none] [] h = some (.inl (some (.int x)), h1)) : zex E (n + 3) (d + 1) 157 33 [some (.ref 76), some (.ref 1), u2] [] h = zex E n (d + 1) 157 38 [some (.ref 76), some (.ref 1), u2] [.int x] h1 :=
  ((zx1 zfq157_33).trans rfl : zex E (n + 3) (d + 1) 157 33 [some (.ref 76), some (.ref 1), u2] [] h = zex E (n + 2) (d + 1) 157 34 [some (.ref 76), some (.ref 1), u2] [.ref 76] h).trans (((zx1 zfq157_34).trans rfl : zex E (n + 2) (d + 1) 157 34 [some (.ref 76), some (.ref 1), u2] [.ref 76] h = zex E (n + 1) (d + 1) 157 35 [some (.ref 76), some (.ref 1), u2] [.ref 1, .ref 76] h).trans ((zcvg (as := [.ref 1]) (r := []) zfq157_35 znq159 rfl hb rfl e1 : zex E (n + 1) (d + 1) 157 35 [some (.ref 76), some (.ref 1), u2] [.ref 1, .ref 76] h = zex E n (d + 1) 157 38 [some (.ref 76), some (.ref 1), u2] [.int x] h1)))
set_option maxRecDepth 100000 in
theorem cr_69 {E : zE} {n d : Nat} {h h1 : zH} {u2 : Option Value} (ha : zat h.1 1 = some (.inr (.inl (9, [some (some 2), none, none, none, none, none])))) (e1 : zex E n d 181 0 [some (.ref 1), none] [] h = some (.inl none, h1)) : zex E (n + 2) (d + 1) 157 69 [some (.ref 76), some (.ref 1), u2] [] h = zex E n (d + 1) 157 73 [some (.ref 76), some (.ref 1), u2] [] h1 :=
  ((zx1 zfq157_69).trans rfl : zex E (n + 2) (d + 1) 157 69 [some (.ref 76), some (.ref 1), u2] [] h = zex E (n + 1) (d + 1) 157 70 [some (.ref 76), some (.ref 1), u2] [.ref 1] h).trans ((zcvg (as := []) (r := []) zfq157_70 znq181 rfl ha rfl e1 : zex E (n + 1) (d + 1) 157 70 [some (.ref 76), some (.ref 1), u2] [.ref 1] h = zex E n (d + 1) 157 73 [some (.ref 76), some (.ref 1), u2] [] h1))
set_option maxRecDepth 100000 in
theorem cg_5 {E : zE} {n d : Nat} {h h1 : zH}  (ha : zat h.1 1 = some (.inr (.inl (9, [some (some 2), none, none, none, none, none])))) (e1 : zex E (n + 1) d 181 0 [some (.ref 1), none] [] h = some (.inl none, h1)) : zex E (n + 3) (d + 1) 180 5 [some (.ref 1)] [] h = some (.inl none, h1) :=
  ((zx1 zfq180_5).trans rfl : zex E (n + 3) (d + 1) 180 5 [some (.ref 1)] [] h = zex E (n + 2) (d + 1) 180 6 [some (.ref 1)] [.ref 1] h).trans ((zcvg (as := []) (r := []) zfq180_6 znq181 rfl ha rfl e1 : zex E (n + 2) (d + 1) 180 6 [some (.ref 1)] [.ref 1] h = zex E (n + 1) (d + 1) 180 9 [some (.ref 1)] [] h1).trans (((zx1 zfq180_9).trans rfl : zex E (n + 1) (d + 1) 180 9 [some (.ref 1)] [] h1 = some (.inl none, h1))))
