/-! the model's house, exactly (wip/zab2/c/geng24.py) -/
set_option maxRecDepth 100000 in
theorem zfx265_0 : zfetch 265 0 = some (.iconst 0, 1, (0, 0, 0), 0, 0) := by decide +kernel
set_option maxRecDepth 100000 in
theorem zfx265_1 : zfetch 265 1 = some (.istore_n 1, 1, (0, 0, 0), 0, 0) := by decide +kernel
set_option maxRecDepth 100000 in
theorem zfx265_27 : zfetch 265 27 = some (.aload_n 0, 1, (0, 0, 0), 0, 0) := by decide +kernel
set_option maxRecDepth 100000 in
theorem zfx265_28 : zfetch 265 28 = some (.iconst 1, 1, (0, 0, 0), 1, 0) := by decide +kernel
set_option maxRecDepth 100000 in
theorem zfx265_29 : zfetch 265 29 = some (.invokevirtual 268, 3, (0, 264, 0), 0, 1703) := by decide +kernel
set_option maxRecDepth 100000 in
theorem zfx265_32 : zfetch 265 32 = some (.istore_n 1, 1, (0, 0, 0), 0, 0) := by decide +kernel
set_option maxRecDepth 100000 in
theorem zfx265_33 : zfetch 265 33 = some (.aload_n 0, 1, (0, 0, 0), 0, 0) := by decide +kernel
set_option maxRecDepth 100000 in
theorem zfx265_34 : zfetch 265 34 = some (.iload_n 1, 1, (0, 0, 0), 0, 0) := by decide +kernel
set_option maxRecDepth 100000 in
theorem zfx265_35 : zfetch 265 35 = some (.ifCond .ge 10, 3, (45, 0, 0), 0, 0) := by decide +kernel
set_option maxRecDepth 100000 in
theorem zfx265_38 : zfetch 265 38 = some (.aload_n 0, 1, (0, 0, 0), 0, 0) := by decide +kernel
set_option maxRecDepth 100000 in
theorem zfx265_39 : zfetch 265 39 = some (.getfield 94, 3, (12, 12, 0), 0, 1629) := by decide +kernel
set_option maxRecDepth 100000 in
theorem zfx265_42 : zfetch 265 42 = some (.goto 4, 3, (46, 0, 0), 0, 0) := by decide +kernel
set_option maxRecDepth 100000 in
theorem zfx265_46 : zfetch 265 46 = some (.putfield 33, 3, (12, 14, 0), 0, 1631) := by decide +kernel
set_option maxRecDepth 100000 in
theorem zfx265_49 : zfetch 265 49 = some (.aload_n 0, 1, (0, 0, 0), 0, 0) := by decide +kernel
set_option maxRecDepth 100000 in
theorem zfx265_50 : zfetch 265 50 = some (.iload_n 1, 1, (0, 0, 0), 0, 0) := by decide +kernel
set_option maxRecDepth 100000 in
theorem zfx265_51 : zfetch 265 51 = some (.ifCond .ge 7, 3, (58, 0, 0), 0, 0) := by decide +kernel
set_option maxRecDepth 100000 in
theorem zfx265_54 : zfetch 265 54 = some (.iconst 1, 1, (0, 0, 0), 1, 0) := by decide +kernel
set_option maxRecDepth 100000 in
theorem zfx265_55 : zfetch 265 55 = some (.goto 4, 3, (59, 0, 0), 0, 0) := by decide +kernel
set_option maxRecDepth 100000 in
theorem zfx265_59 : zfetch 265 59 = some (.iconst 1, 1, (0, 0, 0), 1, 0) := by decide +kernel
set_option maxRecDepth 100000 in
theorem zfx265_60 : zfetch 265 60 = some (.invokevirtual 272, 3, (0, 208, 0), 0, 1886) := by decide +kernel
set_option maxRecDepth 100000 in
theorem zfx265_63 : zfetch 265 63 = some (.ifCond .ne 27, 3, (90, 0, 0), 0, 0) := by decide +kernel
set_option maxRecDepth 100000 in
theorem zfx265_90 : zfetch 265 90 = some (.iconst 0, 1, (0, 0, 0), 0, 0) := by decide +kernel
set_option maxRecDepth 100000 in
theorem zfx265_91 : zfetch 265 91 = some (.istore_n 2, 1, (0, 0, 0), 0, 0) := by decide +kernel
set_option maxRecDepth 100000 in
theorem zfx265_45 : zfetch 265 45 = some (.iconst (-1), 1, (0, 0, 0), (-1), 0) := by decide +kernel
set_option maxRecDepth 100000 in
theorem zfx265_58 : zfetch 265 58 = some (.iconst 0, 1, (0, 0, 0), 0, 0) := by decide +kernel
set_option maxRecDepth 100000 in
theorem zfx265_66 : zfetch 265 66 = some (.aload_n 0, 1, (0, 0, 0), 0, 0) := by decide +kernel
set_option maxRecDepth 100000 in
theorem zfx265_67 : zfetch 265 67 = some (.aload_n 0, 1, (0, 0, 0), 0, 0) := by decide +kernel
set_option maxRecDepth 100000 in
theorem zfx265_68 : zfetch 265 68 = some (.getfield 13, 3, (12, 1, 0), 0, 1618) := by decide +kernel
set_option maxRecDepth 100000 in
theorem zfx265_71 : zfetch 265 71 = some (.iconst 3, 1, (0, 0, 0), 3, 0) := by decide +kernel
set_option maxRecDepth 100000 in
theorem zfx265_72 : zfetch 265 72 = some (.iaload, 1, (0, 0, 0), 0, 0) := by decide +kernel
set_option maxRecDepth 100000 in
theorem zfx265_73 : zfetch 265 73 = some (.bipush 12, 2, (0, 0, 0), 12, 0) := by decide +kernel
set_option maxRecDepth 100000 in
theorem zfx265_75 : zfetch 265 75 = some (.if_icmp .ne 7, 3, (82, 0, 0), 0, 0) := by decide +kernel
set_option maxRecDepth 100000 in
theorem zfx265_78 : zfetch 265 78 = some (.iconst 1, 1, (0, 0, 0), 1, 0) := by decide +kernel
set_option maxRecDepth 100000 in
theorem zfx265_79 : zfetch 265 79 = some (.goto 4, 3, (83, 0, 0), 0, 0) := by decide +kernel
set_option maxRecDepth 100000 in
theorem zfx265_83 : zfetch 265 83 = some (.iconst 2, 1, (0, 0, 0), 2, 0) := by decide +kernel
set_option maxRecDepth 100000 in
theorem zfx265_84 : zfetch 265 84 = some (.invokevirtual 272, 3, (0, 208, 0), 0, 1886) := by decide +kernel
set_option maxRecDepth 100000 in
theorem zfx265_87 : zfetch 265 87 = some (.ifCond .eq 32, 3, (119, 0, 0), 0, 0) := by decide +kernel
set_option maxRecDepth 100000 in
theorem zfx265_82 : zfetch 265 82 = some (.iconst 0, 1, (0, 0, 0), 0, 0) := by decide +kernel
set_option maxRecDepth 100000 in
theorem zfx265_119 : zfetch 265 119 = some (.aload_n 0, 1, (0, 0, 0), 0, 0) := by decide +kernel
set_option maxRecDepth 100000 in
theorem zfx265_120 : zfetch 265 120 = some (.getfield 13, 3, (12, 1, 0), 0, 1618) := by decide +kernel
set_option maxRecDepth 100000 in
theorem zfx265_123 : zfetch 265 123 = some (.iconst 3, 1, (0, 0, 0), 3, 0) := by decide +kernel
set_option maxRecDepth 100000 in
theorem zfx265_124 : zfetch 265 124 = some (.dup2, 1, (0, 0, 0), 0, 0) := by decide +kernel
set_option maxRecDepth 100000 in
theorem zfx265_125 : zfetch 265 125 = some (.iaload, 1, (0, 0, 0), 0, 0) := by decide +kernel
set_option maxRecDepth 100000 in
theorem zfx265_126 : zfetch 265 126 = some (.iconst 1, 1, (0, 0, 0), 1, 0) := by decide +kernel
set_option maxRecDepth 100000 in
theorem zfx265_127 : zfetch 265 127 = some (.iadd, 1, (0, 0, 0), 0, 0) := by decide +kernel
set_option maxRecDepth 100000 in
theorem zfx265_128 : zfetch 265 128 = some (.iastore, 1, (0, 0, 0), 0, 0) := by decide +kernel
set_option maxRecDepth 100000 in
theorem zfx265_129 : zfetch 265 129 = some (.aload_n 0, 1, (0, 0, 0), 0, 0) := by decide +kernel
set_option maxRecDepth 100000 in
theorem zfx265_130 : zfetch 265 130 = some (.iconst 0, 1, (0, 0, 0), 0, 0) := by decide +kernel
set_option maxRecDepth 100000 in
theorem zfx265_131 : zfetch 265 131 = some (.putfield 49, 3, (12, 7, 0), 0, 1624) := by decide +kernel
set_option maxRecDepth 100000 in
theorem zfx265_134 : zfetch 265 134 = some (.aload_n 0, 1, (0, 0, 0), 0, 0) := by decide +kernel
set_option maxRecDepth 100000 in
theorem zfx265_135 : zfetch 265 135 = some (.getfield 13, 3, (12, 1, 0), 0, 1618) := by decide +kernel
set_option maxRecDepth 100000 in
theorem zfx265_138 : zfetch 265 138 = some (.iconst 3, 1, (0, 0, 0), 3, 0) := by decide +kernel
set_option maxRecDepth 100000 in
theorem zfx265_139 : zfetch 265 139 = some (.iaload, 1, (0, 0, 0), 0, 0) := by decide +kernel
set_option maxRecDepth 100000 in
theorem zfx265_140 : zfetch 265 140 = some (.ireturn, 1, (0, 0, 0), 0, 0) := by decide +kernel
set_option maxRecDepth 100000 in
theorem zfx265_117 : zfetch 265 117 = some (.iconst 0, 1, (0, 0, 0), 0, 0) := by decide +kernel
set_option maxRecDepth 100000 in
theorem zfx265_118 : zfetch 265 118 = some (.ireturn, 1, (0, 0, 0), 0, 0) := by decide +kernel
set_option maxRecDepth 100000 in
theorem znx208 : zat zmi 208 = some (3, 3, 0, 12, 2, 0) := rfl
set_option maxRecDepth 100000 in
theorem znx264 : zat zmi 264 = some (2, 3, 0, 12, 1, 0) := rfl
set_option maxRecDepth 100000 in
theorem hc_s {E : zE} {n d : Nat} {h : zH} {u1 u2 : Option Value}    : zex E (n + 2) d 265 0 [some (.ref 84), u1, u2] [] h = zex E n d 265 2 [some (.ref 84), some (.int 0), u2] [] h :=
  ((yCi zfx265_0) : zex E (n + 2) d 265 0 [some (.ref 84), u1, u2] [] h = zex E (n + 1) d 265 1 [some (.ref 84), u1, u2] [.int 0] h).trans (((ySn zfx265_1) : zex E (n + 1) d 265 1 [some (.ref 84), u1, u2] [.int 0] h = zex E n d 265 2 [some (.ref 84), some (.int 0), u2] [] h))
set_option maxRecDepth 100000 in
theorem hc_0 {E : zE} {n d : Nat} {h h2 h4 : zH} {u1 u2 : Option Value} {x : Int32} (hx : x.toInt < 0) (a84 : zat h.1 84 = some (.inr (.inl (12, [none, some (some 85), some (some 86), some (some 87), some (some 88), some (some 89), none, none, some (some 90), none, none, none, none, none, none, some (some 91), none, some (some 92), some (some 93)])))) (a84_h2 : zat h2.1 84 = some (.inr (.inl (12, [none, some (some 85), some (some 86), some (some 87), some (some 88), some (some 89), none, none, some (some 90), none, none, none, none, none, none, some (some 91), none, some (some 92), some (some 93)])))) (e1 : zex E (n + 18) d 264 0 [some (.ref 84), some (.int 1), none] [] h = some (.inl (some (.int x)), h2)) (e2 : zex E (n + 3) d 208 0 [some (.ref 84), some (.int 1), some (.int 1)] [] (zsetI h2 84 (upd (h2.2.1 84) 14 (h2.2.1 84 12))) = some (.inl (some (.int 1)), h4)) : zex E (n + 21) (d + 1) 265 27 [some (.ref 84), u1, u2] [] h = zex E n (d + 1) 265 92 [some (.ref 84), some (.int x), some (.int 0)] [] h4 :=
  ((yAn zfx265_27 rfl rfl) : zex E (n + 21) (d + 1) 265 27 [some (.ref 84), u1, u2] [] h = zex E (n + 20) (d + 1) 265 28 [some (.ref 84), u1, u2] [.ref 84] h).trans (((yCi zfx265_28) : zex E (n + 20) (d + 1) 265 28 [some (.ref 84), u1, u2] [.ref 84] h = zex E (n + 19) (d + 1) 265 29 [some (.ref 84), u1, u2] [.int 1, .ref 84] h).trans (((zcvg (h := h) (as := [.int 1]) (r := []) zfx265_29 znx264 rfl a84 rfl e1) : zex E (n + 19) (d + 1) 265 29 [some (.ref 84), u1, u2] [.int 1, .ref 84] h = zex E (n + 18) (d + 1) 265 32 [some (.ref 84), u1, u2] [.int x] h2).trans (((ySn zfx265_32) : zex E (n + 18) (d + 1) 265 32 [some (.ref 84), u1, u2] [.int x] h2 = zex E (n + 17) (d + 1) 265 33 [some (.ref 84), some (.int x), u2] [] h2).trans (((yAn zfx265_33 rfl rfl) : zex E (n + 17) (d + 1) 265 33 [some (.ref 84), some (.int x), u2] [] h2 = zex E (n + 16) (d + 1) 265 34 [some (.ref 84), some (.int x), u2] [.ref 84] h2).trans (((yIn zfx265_34 rfl) : zex E (n + 16) (d + 1) 265 34 [some (.ref 84), some (.int x), u2] [.ref 84] h2 = zex E (n + 15) (d + 1) 265 35 [some (.ref 84), some (.int x), u2] [.int x, .ref 84] h2).trans (((zjgF zfx265_35 hx) : zex E (n + 15) (d + 1) 265 35 [some (.ref 84), some (.int x), u2] [.int x, .ref 84] h2 = zex E (n + 14) (d + 1) 265 38 [some (.ref 84), some (.int x), u2] [.ref 84] h2).trans (((yAn zfx265_38 rfl rfl) : zex E (n + 14) (d + 1) 265 38 [some (.ref 84), some (.int x), u2] [.ref 84] h2 = zex E (n + 13) (d + 1) 265 39 [some (.ref 84), some (.int x), u2] [.ref 84, .ref 84] h2).trans (((zgi zfx265_39 a84_h2 rfl) : zex E (n + 13) (d + 1) 265 39 [some (.ref 84), some (.int x), u2] [.ref 84, .ref 84] h2 = zex E (n + 12) (d + 1) 265 42 [some (.ref 84), some (.int x), u2] [.int (h2.2.1 84 12), .ref 84] h2).trans (((yGo zfx265_42) : zex E (n + 12) (d + 1) 265 42 [some (.ref 84), some (.int x), u2] [.int (h2.2.1 84 12), .ref 84] h2 = zex E (n + 11) (d + 1) 265 46 [some (.ref 84), some (.int x), u2] [.int (h2.2.1 84 12), .ref 84] h2).trans (((zpx zfx265_46 a84_h2 rfl) : zex E (n + 11) (d + 1) 265 46 [some (.ref 84), some (.int x), u2] [.int (h2.2.1 84 12), .ref 84] h2 = zex E (n + 10) (d + 1) 265 49 [some (.ref 84), some (.int x), u2] [] (zsetI h2 84 (upd (h2.2.1 84) 14 (h2.2.1 84 12)))).trans (((yAn zfx265_49 rfl rfl) : zex E (n + 10) (d + 1) 265 49 [some (.ref 84), some (.int x), u2] [] (zsetI h2 84 (upd (h2.2.1 84) 14 (h2.2.1 84 12))) = zex E (n + 9) (d + 1) 265 50 [some (.ref 84), some (.int x), u2] [.ref 84] (zsetI h2 84 (upd (h2.2.1 84) 14 (h2.2.1 84 12)))).trans (((yIn zfx265_50 rfl) : zex E (n + 9) (d + 1) 265 50 [some (.ref 84), some (.int x), u2] [.ref 84] (zsetI h2 84 (upd (h2.2.1 84) 14 (h2.2.1 84 12))) = zex E (n + 8) (d + 1) 265 51 [some (.ref 84), some (.int x), u2] [.int x, .ref 84] (zsetI h2 84 (upd (h2.2.1 84) 14 (h2.2.1 84 12)))).trans (((zjgF zfx265_51 hx) : zex E (n + 8) (d + 1) 265 51 [some (.ref 84), some (.int x), u2] [.int x, .ref 84] (zsetI h2 84 (upd (h2.2.1 84) 14 (h2.2.1 84 12))) = zex E (n + 7) (d + 1) 265 54 [some (.ref 84), some (.int x), u2] [.ref 84] (zsetI h2 84 (upd (h2.2.1 84) 14 (h2.2.1 84 12)))).trans (((yCi zfx265_54) : zex E (n + 7) (d + 1) 265 54 [some (.ref 84), some (.int x), u2] [.ref 84] (zsetI h2 84 (upd (h2.2.1 84) 14 (h2.2.1 84 12))) = zex E (n + 6) (d + 1) 265 55 [some (.ref 84), some (.int x), u2] [.int 1, .ref 84] (zsetI h2 84 (upd (h2.2.1 84) 14 (h2.2.1 84 12)))).trans (((yGo zfx265_55) : zex E (n + 6) (d + 1) 265 55 [some (.ref 84), some (.int x), u2] [.int 1, .ref 84] (zsetI h2 84 (upd (h2.2.1 84) 14 (h2.2.1 84 12))) = zex E (n + 5) (d + 1) 265 59 [some (.ref 84), some (.int x), u2] [.int 1, .ref 84] (zsetI h2 84 (upd (h2.2.1 84) 14 (h2.2.1 84 12)))).trans (((yCi zfx265_59) : zex E (n + 5) (d + 1) 265 59 [some (.ref 84), some (.int x), u2] [.int 1, .ref 84] (zsetI h2 84 (upd (h2.2.1 84) 14 (h2.2.1 84 12))) = zex E (n + 4) (d + 1) 265 60 [some (.ref 84), some (.int x), u2] [.int 1, .int 1, .ref 84] (zsetI h2 84 (upd (h2.2.1 84) 14 (h2.2.1 84 12)))).trans (((zcvg (h := (zsetI h2 84 (upd (h2.2.1 84) 14 (h2.2.1 84 12)))) (as := [.int 1, .int 1]) (r := []) zfx265_60 znx208 rfl a84_h2 rfl e2) : zex E (n + 4) (d + 1) 265 60 [some (.ref 84), some (.int x), u2] [.int 1, .int 1, .ref 84] (zsetI h2 84 (upd (h2.2.1 84) 14 (h2.2.1 84 12))) = zex E (n + 3) (d + 1) 265 63 [some (.ref 84), some (.int x), u2] [.int 1] h4).trans (((zjnT zfx265_63 (by decide)) : zex E (n + 3) (d + 1) 265 63 [some (.ref 84), some (.int x), u2] [.int 1] h4 = zex E (n + 2) (d + 1) 265 90 [some (.ref 84), some (.int x), u2] [] h4).trans (((yCi zfx265_90) : zex E (n + 2) (d + 1) 265 90 [some (.ref 84), some (.int x), u2] [] h4 = zex E (n + 1) (d + 1) 265 91 [some (.ref 84), some (.int x), u2] [.int 0] h4).trans (((ySn zfx265_91) : zex E (n + 1) (d + 1) 265 91 [some (.ref 84), some (.int x), u2] [.int 0] h4 = zex E n (d + 1) 265 92 [some (.ref 84), some (.int x), some (.int 0)] [] h4)))))))))))))))))))))
set_option maxRecDepth 100000 in
theorem hc_1 {E : zE} {n d : Nat} {h h2 h4 : zH} {u1 u2 : Option Value} {x : Int32} {v : Int32} (hx : 0 ≤ x.toInt) (hv : (zsetI h2 84 (upd (h2.2.1 84) 14 (-1))).2.1 85 3 = v) (hw : v.toInt = (12 : Int32).toInt) (a84 : zat h.1 84 = some (.inr (.inl (12, [none, some (some 85), some (some 86), some (some 87), some (some 88), some (some 89), none, none, some (some 90), none, none, none, none, none, none, some (some 91), none, some (some 92), some (some 93)])))) (a84_h2 : zat h2.1 84 = some (.inr (.inl (12, [none, some (some 85), some (some 86), some (some 87), some (some 88), some (some 89), none, none, some (some 90), none, none, none, none, none, none, some (some 91), none, some (some 92), some (some 93)])))) (a85_h2 : zat h2.1 85 = some (.inl (0, 2475, []))) (e1 : zex E (n + 27) d 264 0 [some (.ref 84), some (.int 1), none] [] h = some (.inl (some (.int x)), h2)) (e2 : zex E (n + 15) d 208 0 [some (.ref 84), some (.int 0), some (.int 1)] [] (zsetI h2 84 (upd (h2.2.1 84) 14 (-1))) = some (.inl (some (.int 0)), (zsetI h2 84 (upd (h2.2.1 84) 14 (-1))))) (e3 : zex E (n + 3) d 208 0 [some (.ref 84), some (.int 1), some (.int 2)] [] (zsetI h2 84 (upd (h2.2.1 84) 14 (-1))) = some (.inl (some (.int 1)), h4)) : zex E (n + 30) (d + 1) 265 27 [some (.ref 84), u1, u2] [] h = zex E n (d + 1) 265 92 [some (.ref 84), some (.int x), some (.int 0)] [] h4 :=
  ((yAn zfx265_27 rfl rfl) : zex E (n + 30) (d + 1) 265 27 [some (.ref 84), u1, u2] [] h = zex E (n + 29) (d + 1) 265 28 [some (.ref 84), u1, u2] [.ref 84] h).trans (((yCi zfx265_28) : zex E (n + 29) (d + 1) 265 28 [some (.ref 84), u1, u2] [.ref 84] h = zex E (n + 28) (d + 1) 265 29 [some (.ref 84), u1, u2] [.int 1, .ref 84] h).trans (((zcvg (h := h) (as := [.int 1]) (r := []) zfx265_29 znx264 rfl a84 rfl e1) : zex E (n + 28) (d + 1) 265 29 [some (.ref 84), u1, u2] [.int 1, .ref 84] h = zex E (n + 27) (d + 1) 265 32 [some (.ref 84), u1, u2] [.int x] h2).trans (((ySn zfx265_32) : zex E (n + 27) (d + 1) 265 32 [some (.ref 84), u1, u2] [.int x] h2 = zex E (n + 26) (d + 1) 265 33 [some (.ref 84), some (.int x), u2] [] h2).trans (((yAn zfx265_33 rfl rfl) : zex E (n + 26) (d + 1) 265 33 [some (.ref 84), some (.int x), u2] [] h2 = zex E (n + 25) (d + 1) 265 34 [some (.ref 84), some (.int x), u2] [.ref 84] h2).trans (((yIn zfx265_34 rfl) : zex E (n + 25) (d + 1) 265 34 [some (.ref 84), some (.int x), u2] [.ref 84] h2 = zex E (n + 24) (d + 1) 265 35 [some (.ref 84), some (.int x), u2] [.int x, .ref 84] h2).trans (((zjgT zfx265_35 hx) : zex E (n + 24) (d + 1) 265 35 [some (.ref 84), some (.int x), u2] [.int x, .ref 84] h2 = zex E (n + 23) (d + 1) 265 45 [some (.ref 84), some (.int x), u2] [.ref 84] h2).trans (((yCi zfx265_45) : zex E (n + 23) (d + 1) 265 45 [some (.ref 84), some (.int x), u2] [.ref 84] h2 = zex E (n + 22) (d + 1) 265 46 [some (.ref 84), some (.int x), u2] [.int (-1), .ref 84] h2).trans (((zpx zfx265_46 a84_h2 rfl) : zex E (n + 22) (d + 1) 265 46 [some (.ref 84), some (.int x), u2] [.int (-1), .ref 84] h2 = zex E (n + 21) (d + 1) 265 49 [some (.ref 84), some (.int x), u2] [] (zsetI h2 84 (upd (h2.2.1 84) 14 (-1)))).trans (((yAn zfx265_49 rfl rfl) : zex E (n + 21) (d + 1) 265 49 [some (.ref 84), some (.int x), u2] [] (zsetI h2 84 (upd (h2.2.1 84) 14 (-1))) = zex E (n + 20) (d + 1) 265 50 [some (.ref 84), some (.int x), u2] [.ref 84] (zsetI h2 84 (upd (h2.2.1 84) 14 (-1)))).trans (((yIn zfx265_50 rfl) : zex E (n + 20) (d + 1) 265 50 [some (.ref 84), some (.int x), u2] [.ref 84] (zsetI h2 84 (upd (h2.2.1 84) 14 (-1))) = zex E (n + 19) (d + 1) 265 51 [some (.ref 84), some (.int x), u2] [.int x, .ref 84] (zsetI h2 84 (upd (h2.2.1 84) 14 (-1)))).trans (((zjgT zfx265_51 hx) : zex E (n + 19) (d + 1) 265 51 [some (.ref 84), some (.int x), u2] [.int x, .ref 84] (zsetI h2 84 (upd (h2.2.1 84) 14 (-1))) = zex E (n + 18) (d + 1) 265 58 [some (.ref 84), some (.int x), u2] [.ref 84] (zsetI h2 84 (upd (h2.2.1 84) 14 (-1)))).trans (((yCi zfx265_58) : zex E (n + 18) (d + 1) 265 58 [some (.ref 84), some (.int x), u2] [.ref 84] (zsetI h2 84 (upd (h2.2.1 84) 14 (-1))) = zex E (n + 17) (d + 1) 265 59 [some (.ref 84), some (.int x), u2] [.int 0, .ref 84] (zsetI h2 84 (upd (h2.2.1 84) 14 (-1)))).trans (((yCi zfx265_59) : zex E (n + 17) (d + 1) 265 59 [some (.ref 84), some (.int x), u2] [.int 0, .ref 84] (zsetI h2 84 (upd (h2.2.1 84) 14 (-1))) = zex E (n + 16) (d + 1) 265 60 [some (.ref 84), some (.int x), u2] [.int 1, .int 0, .ref 84] (zsetI h2 84 (upd (h2.2.1 84) 14 (-1)))).trans (((zcvg (h := (zsetI h2 84 (upd (h2.2.1 84) 14 (-1)))) (as := [.int 0, .int 1]) (r := []) zfx265_60 znx208 rfl a84_h2 rfl e2) : zex E (n + 16) (d + 1) 265 60 [some (.ref 84), some (.int x), u2] [.int 1, .int 0, .ref 84] (zsetI h2 84 (upd (h2.2.1 84) 14 (-1))) = zex E (n + 15) (d + 1) 265 63 [some (.ref 84), some (.int x), u2] [.int 0] (zsetI h2 84 (upd (h2.2.1 84) 14 (-1)))).trans (((zjnF zfx265_63 (by decide)) : zex E (n + 15) (d + 1) 265 63 [some (.ref 84), some (.int x), u2] [.int 0] (zsetI h2 84 (upd (h2.2.1 84) 14 (-1))) = zex E (n + 14) (d + 1) 265 66 [some (.ref 84), some (.int x), u2] [] (zsetI h2 84 (upd (h2.2.1 84) 14 (-1)))).trans (((yAn zfx265_66 rfl rfl) : zex E (n + 14) (d + 1) 265 66 [some (.ref 84), some (.int x), u2] [] (zsetI h2 84 (upd (h2.2.1 84) 14 (-1))) = zex E (n + 13) (d + 1) 265 67 [some (.ref 84), some (.int x), u2] [.ref 84] (zsetI h2 84 (upd (h2.2.1 84) 14 (-1)))).trans (((yAn zfx265_67 rfl rfl) : zex E (n + 13) (d + 1) 265 67 [some (.ref 84), some (.int x), u2] [.ref 84] (zsetI h2 84 (upd (h2.2.1 84) 14 (-1))) = zex E (n + 12) (d + 1) 265 68 [some (.ref 84), some (.int x), u2] [.ref 84, .ref 84] (zsetI h2 84 (upd (h2.2.1 84) 14 (-1)))).trans (((zgx zfx265_68 a84_h2 rfl) : zex E (n + 12) (d + 1) 265 68 [some (.ref 84), some (.int x), u2] [.ref 84, .ref 84] (zsetI h2 84 (upd (h2.2.1 84) 14 (-1))) = zex E (n + 11) (d + 1) 265 71 [some (.ref 84), some (.int x), u2] [.ref 85, .ref 84] (zsetI h2 84 (upd (h2.2.1 84) 14 (-1)))).trans (((yCi zfx265_71) : zex E (n + 11) (d + 1) 265 71 [some (.ref 84), some (.int x), u2] [.ref 85, .ref 84] (zsetI h2 84 (upd (h2.2.1 84) 14 (-1))) = zex E (n + 10) (d + 1) 265 72 [some (.ref 84), some (.int x), u2] [.int 3, .ref 85, .ref 84] (zsetI h2 84 (upd (h2.2.1 84) 14 (-1)))).trans (((zlk zfx265_72 a85_h2 xi3 (by decide) hv) : zex E (n + 10) (d + 1) 265 72 [some (.ref 84), some (.int x), u2] [.int 3, .ref 85, .ref 84] (zsetI h2 84 (upd (h2.2.1 84) 14 (-1))) = zex E (n + 9) (d + 1) 265 73 [some (.ref 84), some (.int x), u2] [.int v, .ref 84] (zsetI h2 84 (upd (h2.2.1 84) 14 (-1)))).trans (((yCb zfx265_73) : zex E (n + 9) (d + 1) 265 73 [some (.ref 84), some (.int x), u2] [.int v, .ref 84] (zsetI h2 84 (upd (h2.2.1 84) 14 (-1))) = zex E (n + 8) (d + 1) 265 75 [some (.ref 84), some (.int x), u2] [.int 12, .int v, .ref 84] (zsetI h2 84 (upd (h2.2.1 84) 14 (-1)))).trans (((zknF zfx265_75 hw) : zex E (n + 8) (d + 1) 265 75 [some (.ref 84), some (.int x), u2] [.int 12, .int v, .ref 84] (zsetI h2 84 (upd (h2.2.1 84) 14 (-1))) = zex E (n + 7) (d + 1) 265 78 [some (.ref 84), some (.int x), u2] [.ref 84] (zsetI h2 84 (upd (h2.2.1 84) 14 (-1)))).trans (((yCi zfx265_78) : zex E (n + 7) (d + 1) 265 78 [some (.ref 84), some (.int x), u2] [.ref 84] (zsetI h2 84 (upd (h2.2.1 84) 14 (-1))) = zex E (n + 6) (d + 1) 265 79 [some (.ref 84), some (.int x), u2] [.int 1, .ref 84] (zsetI h2 84 (upd (h2.2.1 84) 14 (-1)))).trans (((yGo zfx265_79) : zex E (n + 6) (d + 1) 265 79 [some (.ref 84), some (.int x), u2] [.int 1, .ref 84] (zsetI h2 84 (upd (h2.2.1 84) 14 (-1))) = zex E (n + 5) (d + 1) 265 83 [some (.ref 84), some (.int x), u2] [.int 1, .ref 84] (zsetI h2 84 (upd (h2.2.1 84) 14 (-1)))).trans (((yCi zfx265_83) : zex E (n + 5) (d + 1) 265 83 [some (.ref 84), some (.int x), u2] [.int 1, .ref 84] (zsetI h2 84 (upd (h2.2.1 84) 14 (-1))) = zex E (n + 4) (d + 1) 265 84 [some (.ref 84), some (.int x), u2] [.int 2, .int 1, .ref 84] (zsetI h2 84 (upd (h2.2.1 84) 14 (-1)))).trans (((zcvg (h := (zsetI h2 84 (upd (h2.2.1 84) 14 (-1)))) (as := [.int 1, .int 2]) (r := []) zfx265_84 znx208 rfl a84_h2 rfl e3) : zex E (n + 4) (d + 1) 265 84 [some (.ref 84), some (.int x), u2] [.int 2, .int 1, .ref 84] (zsetI h2 84 (upd (h2.2.1 84) 14 (-1))) = zex E (n + 3) (d + 1) 265 87 [some (.ref 84), some (.int x), u2] [.int 1] h4).trans (((zjeF zfx265_87 (by decide)) : zex E (n + 3) (d + 1) 265 87 [some (.ref 84), some (.int x), u2] [.int 1] h4 = zex E (n + 2) (d + 1) 265 90 [some (.ref 84), some (.int x), u2] [] h4).trans (((yCi zfx265_90) : zex E (n + 2) (d + 1) 265 90 [some (.ref 84), some (.int x), u2] [] h4 = zex E (n + 1) (d + 1) 265 91 [some (.ref 84), some (.int x), u2] [.int 0] h4).trans (((ySn zfx265_91) : zex E (n + 1) (d + 1) 265 91 [some (.ref 84), some (.int x), u2] [.int 0] h4 = zex E n (d + 1) 265 92 [some (.ref 84), some (.int x), some (.int 0)] [] h4))))))))))))))))))))))))))))))
set_option maxRecDepth 100000 in
theorem hc_2 {E : zE} {n d : Nat} {h h2 : zH} {u1 u2 : Option Value} {x : Int32} {v w : Int32} (hx : 0 ≤ x.toInt) (hv : (zsetI h2 84 (upd (h2.2.1 84) 14 (-1))).2.1 85 3 = v) (hw : v.toInt ≠ (12 : Int32).toInt) (hq : (zsetI (zsetI (zsetI h2 84 (upd (h2.2.1 84) 14 (-1))) 85 (upd ((zsetI h2 84 (upd (h2.2.1 84) 14 (-1))).2.1 85) 3 (v + 1))) 84 (upd ((zsetI (zsetI h2 84 (upd (h2.2.1 84) 14 (-1))) 85 (upd ((zsetI h2 84 (upd (h2.2.1 84) 14 (-1))).2.1 85) 3 (v + 1))).2.1 84) 7 0)).2.1 85 3 = w) (a84 : zat h.1 84 = some (.inr (.inl (12, [none, some (some 85), some (some 86), some (some 87), some (some 88), some (some 89), none, none, some (some 90), none, none, none, none, none, none, some (some 91), none, some (some 92), some (some 93)])))) (a84_h2 : zat h2.1 84 = some (.inr (.inl (12, [none, some (some 85), some (some 86), some (some 87), some (some 88), some (some 89), none, none, some (some 90), none, none, none, none, none, none, some (some 91), none, some (some 92), some (some 93)])))) (a85_h2 : zat h2.1 85 = some (.inl (0, 2475, []))) (e1 : zex E (n + 40) d 264 0 [some (.ref 84), some (.int 1), none] [] h = some (.inl (some (.int x)), h2)) (e2 : zex E (n + 28) d 208 0 [some (.ref 84), some (.int 0), some (.int 1)] [] (zsetI h2 84 (upd (h2.2.1 84) 14 (-1))) = some (.inl (some (.int 0)), (zsetI h2 84 (upd (h2.2.1 84) 14 (-1))))) (e3 : zex E (n + 17) d 208 0 [some (.ref 84), some (.int 0), some (.int 2)] [] (zsetI h2 84 (upd (h2.2.1 84) 14 (-1))) = some (.inl (some (.int 0)), (zsetI h2 84 (upd (h2.2.1 84) 14 (-1))))) : zex E (n + 43) (d + 1) 265 27 [some (.ref 84), u1, u2] [] h = some (.inl (some (.int w)), (zsetI (zsetI (zsetI h2 84 (upd (h2.2.1 84) 14 (-1))) 85 (upd ((zsetI h2 84 (upd (h2.2.1 84) 14 (-1))).2.1 85) 3 (v + 1))) 84 (upd ((zsetI (zsetI h2 84 (upd (h2.2.1 84) 14 (-1))) 85 (upd ((zsetI h2 84 (upd (h2.2.1 84) 14 (-1))).2.1 85) 3 (v + 1))).2.1 84) 7 0))) :=
  ((yAn zfx265_27 rfl rfl) : zex E (n + 43) (d + 1) 265 27 [some (.ref 84), u1, u2] [] h = zex E (n + 42) (d + 1) 265 28 [some (.ref 84), u1, u2] [.ref 84] h).trans (((yCi zfx265_28) : zex E (n + 42) (d + 1) 265 28 [some (.ref 84), u1, u2] [.ref 84] h = zex E (n + 41) (d + 1) 265 29 [some (.ref 84), u1, u2] [.int 1, .ref 84] h).trans (((zcvg (h := h) (as := [.int 1]) (r := []) zfx265_29 znx264 rfl a84 rfl e1) : zex E (n + 41) (d + 1) 265 29 [some (.ref 84), u1, u2] [.int 1, .ref 84] h = zex E (n + 40) (d + 1) 265 32 [some (.ref 84), u1, u2] [.int x] h2).trans (((ySn zfx265_32) : zex E (n + 40) (d + 1) 265 32 [some (.ref 84), u1, u2] [.int x] h2 = zex E (n + 39) (d + 1) 265 33 [some (.ref 84), some (.int x), u2] [] h2).trans (((yAn zfx265_33 rfl rfl) : zex E (n + 39) (d + 1) 265 33 [some (.ref 84), some (.int x), u2] [] h2 = zex E (n + 38) (d + 1) 265 34 [some (.ref 84), some (.int x), u2] [.ref 84] h2).trans (((yIn zfx265_34 rfl) : zex E (n + 38) (d + 1) 265 34 [some (.ref 84), some (.int x), u2] [.ref 84] h2 = zex E (n + 37) (d + 1) 265 35 [some (.ref 84), some (.int x), u2] [.int x, .ref 84] h2).trans (((zjgT zfx265_35 hx) : zex E (n + 37) (d + 1) 265 35 [some (.ref 84), some (.int x), u2] [.int x, .ref 84] h2 = zex E (n + 36) (d + 1) 265 45 [some (.ref 84), some (.int x), u2] [.ref 84] h2).trans (((yCi zfx265_45) : zex E (n + 36) (d + 1) 265 45 [some (.ref 84), some (.int x), u2] [.ref 84] h2 = zex E (n + 35) (d + 1) 265 46 [some (.ref 84), some (.int x), u2] [.int (-1), .ref 84] h2).trans (((zpx zfx265_46 a84_h2 rfl) : zex E (n + 35) (d + 1) 265 46 [some (.ref 84), some (.int x), u2] [.int (-1), .ref 84] h2 = zex E (n + 34) (d + 1) 265 49 [some (.ref 84), some (.int x), u2] [] (zsetI h2 84 (upd (h2.2.1 84) 14 (-1)))).trans (((yAn zfx265_49 rfl rfl) : zex E (n + 34) (d + 1) 265 49 [some (.ref 84), some (.int x), u2] [] (zsetI h2 84 (upd (h2.2.1 84) 14 (-1))) = zex E (n + 33) (d + 1) 265 50 [some (.ref 84), some (.int x), u2] [.ref 84] (zsetI h2 84 (upd (h2.2.1 84) 14 (-1)))).trans (((yIn zfx265_50 rfl) : zex E (n + 33) (d + 1) 265 50 [some (.ref 84), some (.int x), u2] [.ref 84] (zsetI h2 84 (upd (h2.2.1 84) 14 (-1))) = zex E (n + 32) (d + 1) 265 51 [some (.ref 84), some (.int x), u2] [.int x, .ref 84] (zsetI h2 84 (upd (h2.2.1 84) 14 (-1)))).trans (((zjgT zfx265_51 hx) : zex E (n + 32) (d + 1) 265 51 [some (.ref 84), some (.int x), u2] [.int x, .ref 84] (zsetI h2 84 (upd (h2.2.1 84) 14 (-1))) = zex E (n + 31) (d + 1) 265 58 [some (.ref 84), some (.int x), u2] [.ref 84] (zsetI h2 84 (upd (h2.2.1 84) 14 (-1)))).trans (((yCi zfx265_58) : zex E (n + 31) (d + 1) 265 58 [some (.ref 84), some (.int x), u2] [.ref 84] (zsetI h2 84 (upd (h2.2.1 84) 14 (-1))) = zex E (n + 30) (d + 1) 265 59 [some (.ref 84), some (.int x), u2] [.int 0, .ref 84] (zsetI h2 84 (upd (h2.2.1 84) 14 (-1)))).trans (((yCi zfx265_59) : zex E (n + 30) (d + 1) 265 59 [some (.ref 84), some (.int x), u2] [.int 0, .ref 84] (zsetI h2 84 (upd (h2.2.1 84) 14 (-1))) = zex E (n + 29) (d + 1) 265 60 [some (.ref 84), some (.int x), u2] [.int 1, .int 0, .ref 84] (zsetI h2 84 (upd (h2.2.1 84) 14 (-1)))).trans (((zcvg (h := (zsetI h2 84 (upd (h2.2.1 84) 14 (-1)))) (as := [.int 0, .int 1]) (r := []) zfx265_60 znx208 rfl a84_h2 rfl e2) : zex E (n + 29) (d + 1) 265 60 [some (.ref 84), some (.int x), u2] [.int 1, .int 0, .ref 84] (zsetI h2 84 (upd (h2.2.1 84) 14 (-1))) = zex E (n + 28) (d + 1) 265 63 [some (.ref 84), some (.int x), u2] [.int 0] (zsetI h2 84 (upd (h2.2.1 84) 14 (-1)))).trans (((zjnF zfx265_63 (by decide)) : zex E (n + 28) (d + 1) 265 63 [some (.ref 84), some (.int x), u2] [.int 0] (zsetI h2 84 (upd (h2.2.1 84) 14 (-1))) = zex E (n + 27) (d + 1) 265 66 [some (.ref 84), some (.int x), u2] [] (zsetI h2 84 (upd (h2.2.1 84) 14 (-1)))).trans (((yAn zfx265_66 rfl rfl) : zex E (n + 27) (d + 1) 265 66 [some (.ref 84), some (.int x), u2] [] (zsetI h2 84 (upd (h2.2.1 84) 14 (-1))) = zex E (n + 26) (d + 1) 265 67 [some (.ref 84), some (.int x), u2] [.ref 84] (zsetI h2 84 (upd (h2.2.1 84) 14 (-1)))).trans (((yAn zfx265_67 rfl rfl) : zex E (n + 26) (d + 1) 265 67 [some (.ref 84), some (.int x), u2] [.ref 84] (zsetI h2 84 (upd (h2.2.1 84) 14 (-1))) = zex E (n + 25) (d + 1) 265 68 [some (.ref 84), some (.int x), u2] [.ref 84, .ref 84] (zsetI h2 84 (upd (h2.2.1 84) 14 (-1)))).trans (((zgx zfx265_68 a84_h2 rfl) : zex E (n + 25) (d + 1) 265 68 [some (.ref 84), some (.int x), u2] [.ref 84, .ref 84] (zsetI h2 84 (upd (h2.2.1 84) 14 (-1))) = zex E (n + 24) (d + 1) 265 71 [some (.ref 84), some (.int x), u2] [.ref 85, .ref 84] (zsetI h2 84 (upd (h2.2.1 84) 14 (-1)))).trans (((yCi zfx265_71) : zex E (n + 24) (d + 1) 265 71 [some (.ref 84), some (.int x), u2] [.ref 85, .ref 84] (zsetI h2 84 (upd (h2.2.1 84) 14 (-1))) = zex E (n + 23) (d + 1) 265 72 [some (.ref 84), some (.int x), u2] [.int 3, .ref 85, .ref 84] (zsetI h2 84 (upd (h2.2.1 84) 14 (-1)))).trans (((zlk zfx265_72 a85_h2 xi3 (by decide) hv) : zex E (n + 23) (d + 1) 265 72 [some (.ref 84), some (.int x), u2] [.int 3, .ref 85, .ref 84] (zsetI h2 84 (upd (h2.2.1 84) 14 (-1))) = zex E (n + 22) (d + 1) 265 73 [some (.ref 84), some (.int x), u2] [.int v, .ref 84] (zsetI h2 84 (upd (h2.2.1 84) 14 (-1)))).trans (((yCb zfx265_73) : zex E (n + 22) (d + 1) 265 73 [some (.ref 84), some (.int x), u2] [.int v, .ref 84] (zsetI h2 84 (upd (h2.2.1 84) 14 (-1))) = zex E (n + 21) (d + 1) 265 75 [some (.ref 84), some (.int x), u2] [.int 12, .int v, .ref 84] (zsetI h2 84 (upd (h2.2.1 84) 14 (-1)))).trans (((zknT zfx265_75 hw) : zex E (n + 21) (d + 1) 265 75 [some (.ref 84), some (.int x), u2] [.int 12, .int v, .ref 84] (zsetI h2 84 (upd (h2.2.1 84) 14 (-1))) = zex E (n + 20) (d + 1) 265 82 [some (.ref 84), some (.int x), u2] [.ref 84] (zsetI h2 84 (upd (h2.2.1 84) 14 (-1)))).trans (((yCi zfx265_82) : zex E (n + 20) (d + 1) 265 82 [some (.ref 84), some (.int x), u2] [.ref 84] (zsetI h2 84 (upd (h2.2.1 84) 14 (-1))) = zex E (n + 19) (d + 1) 265 83 [some (.ref 84), some (.int x), u2] [.int 0, .ref 84] (zsetI h2 84 (upd (h2.2.1 84) 14 (-1)))).trans (((yCi zfx265_83) : zex E (n + 19) (d + 1) 265 83 [some (.ref 84), some (.int x), u2] [.int 0, .ref 84] (zsetI h2 84 (upd (h2.2.1 84) 14 (-1))) = zex E (n + 18) (d + 1) 265 84 [some (.ref 84), some (.int x), u2] [.int 2, .int 0, .ref 84] (zsetI h2 84 (upd (h2.2.1 84) 14 (-1)))).trans (((zcvg (h := (zsetI h2 84 (upd (h2.2.1 84) 14 (-1)))) (as := [.int 0, .int 2]) (r := []) zfx265_84 znx208 rfl a84_h2 rfl e3) : zex E (n + 18) (d + 1) 265 84 [some (.ref 84), some (.int x), u2] [.int 2, .int 0, .ref 84] (zsetI h2 84 (upd (h2.2.1 84) 14 (-1))) = zex E (n + 17) (d + 1) 265 87 [some (.ref 84), some (.int x), u2] [.int 0] (zsetI h2 84 (upd (h2.2.1 84) 14 (-1)))).trans (((zjeT zfx265_87 (by decide)) : zex E (n + 17) (d + 1) 265 87 [some (.ref 84), some (.int x), u2] [.int 0] (zsetI h2 84 (upd (h2.2.1 84) 14 (-1))) = zex E (n + 16) (d + 1) 265 119 [some (.ref 84), some (.int x), u2] [] (zsetI h2 84 (upd (h2.2.1 84) 14 (-1)))).trans (((yAn zfx265_119 rfl rfl) : zex E (n + 16) (d + 1) 265 119 [some (.ref 84), some (.int x), u2] [] (zsetI h2 84 (upd (h2.2.1 84) 14 (-1))) = zex E (n + 15) (d + 1) 265 120 [some (.ref 84), some (.int x), u2] [.ref 84] (zsetI h2 84 (upd (h2.2.1 84) 14 (-1)))).trans (((zgx zfx265_120 a84_h2 rfl) : zex E (n + 15) (d + 1) 265 120 [some (.ref 84), some (.int x), u2] [.ref 84] (zsetI h2 84 (upd (h2.2.1 84) 14 (-1))) = zex E (n + 14) (d + 1) 265 123 [some (.ref 84), some (.int x), u2] [.ref 85] (zsetI h2 84 (upd (h2.2.1 84) 14 (-1)))).trans (((yCi zfx265_123) : zex E (n + 14) (d + 1) 265 123 [some (.ref 84), some (.int x), u2] [.ref 85] (zsetI h2 84 (upd (h2.2.1 84) 14 (-1))) = zex E (n + 13) (d + 1) 265 124 [some (.ref 84), some (.int x), u2] [.int 3, .ref 85] (zsetI h2 84 (upd (h2.2.1 84) 14 (-1)))).trans (((yDup2 zfx265_124 rfl) : zex E (n + 13) (d + 1) 265 124 [some (.ref 84), some (.int x), u2] [.int 3, .ref 85] (zsetI h2 84 (upd (h2.2.1 84) 14 (-1))) = zex E (n + 12) (d + 1) 265 125 [some (.ref 84), some (.int x), u2] [.int 3, .ref 85, .int 3, .ref 85] (zsetI h2 84 (upd (h2.2.1 84) 14 (-1)))).trans (((zlk zfx265_125 a85_h2 xi3 (by decide) hv) : zex E (n + 12) (d + 1) 265 125 [some (.ref 84), some (.int x), u2] [.int 3, .ref 85, .int 3, .ref 85] (zsetI h2 84 (upd (h2.2.1 84) 14 (-1))) = zex E (n + 11) (d + 1) 265 126 [some (.ref 84), some (.int x), u2] [.int v, .int 3, .ref 85] (zsetI h2 84 (upd (h2.2.1 84) 14 (-1)))).trans (((yCi zfx265_126) : zex E (n + 11) (d + 1) 265 126 [some (.ref 84), some (.int x), u2] [.int v, .int 3, .ref 85] (zsetI h2 84 (upd (h2.2.1 84) 14 (-1))) = zex E (n + 10) (d + 1) 265 127 [some (.ref 84), some (.int x), u2] [.int 1, .int v, .int 3, .ref 85] (zsetI h2 84 (upd (h2.2.1 84) 14 (-1)))).trans (((yAdd zfx265_127) : zex E (n + 10) (d + 1) 265 127 [some (.ref 84), some (.int x), u2] [.int 1, .int v, .int 3, .ref 85] (zsetI h2 84 (upd (h2.2.1 84) 14 (-1))) = zex E (n + 9) (d + 1) 265 128 [some (.ref 84), some (.int x), u2] [.int (v + 1), .int 3, .ref 85] (zsetI h2 84 (upd (h2.2.1 84) 14 (-1)))).trans (((zsk zfx265_128 a85_h2 xi3 (by decide)) : zex E (n + 9) (d + 1) 265 128 [some (.ref 84), some (.int x), u2] [.int (v + 1), .int 3, .ref 85] (zsetI h2 84 (upd (h2.2.1 84) 14 (-1))) = zex E (n + 8) (d + 1) 265 129 [some (.ref 84), some (.int x), u2] [] (zsetI (zsetI h2 84 (upd (h2.2.1 84) 14 (-1))) 85 (upd ((zsetI h2 84 (upd (h2.2.1 84) 14 (-1))).2.1 85) 3 (v + 1)))).trans (((yAn zfx265_129 rfl rfl) : zex E (n + 8) (d + 1) 265 129 [some (.ref 84), some (.int x), u2] [] (zsetI (zsetI h2 84 (upd (h2.2.1 84) 14 (-1))) 85 (upd ((zsetI h2 84 (upd (h2.2.1 84) 14 (-1))).2.1 85) 3 (v + 1))) = zex E (n + 7) (d + 1) 265 130 [some (.ref 84), some (.int x), u2] [.ref 84] (zsetI (zsetI h2 84 (upd (h2.2.1 84) 14 (-1))) 85 (upd ((zsetI h2 84 (upd (h2.2.1 84) 14 (-1))).2.1 85) 3 (v + 1)))).trans (((yCi zfx265_130) : zex E (n + 7) (d + 1) 265 130 [some (.ref 84), some (.int x), u2] [.ref 84] (zsetI (zsetI h2 84 (upd (h2.2.1 84) 14 (-1))) 85 (upd ((zsetI h2 84 (upd (h2.2.1 84) 14 (-1))).2.1 85) 3 (v + 1))) = zex E (n + 6) (d + 1) 265 131 [some (.ref 84), some (.int x), u2] [.int 0, .ref 84] (zsetI (zsetI h2 84 (upd (h2.2.1 84) 14 (-1))) 85 (upd ((zsetI h2 84 (upd (h2.2.1 84) 14 (-1))).2.1 85) 3 (v + 1)))).trans (((zpx zfx265_131 a84_h2 rfl) : zex E (n + 6) (d + 1) 265 131 [some (.ref 84), some (.int x), u2] [.int 0, .ref 84] (zsetI (zsetI h2 84 (upd (h2.2.1 84) 14 (-1))) 85 (upd ((zsetI h2 84 (upd (h2.2.1 84) 14 (-1))).2.1 85) 3 (v + 1))) = zex E (n + 5) (d + 1) 265 134 [some (.ref 84), some (.int x), u2] [] (zsetI (zsetI (zsetI h2 84 (upd (h2.2.1 84) 14 (-1))) 85 (upd ((zsetI h2 84 (upd (h2.2.1 84) 14 (-1))).2.1 85) 3 (v + 1))) 84 (upd ((zsetI (zsetI h2 84 (upd (h2.2.1 84) 14 (-1))) 85 (upd ((zsetI h2 84 (upd (h2.2.1 84) 14 (-1))).2.1 85) 3 (v + 1))).2.1 84) 7 0))).trans (((yAn zfx265_134 rfl rfl) : zex E (n + 5) (d + 1) 265 134 [some (.ref 84), some (.int x), u2] [] (zsetI (zsetI (zsetI h2 84 (upd (h2.2.1 84) 14 (-1))) 85 (upd ((zsetI h2 84 (upd (h2.2.1 84) 14 (-1))).2.1 85) 3 (v + 1))) 84 (upd ((zsetI (zsetI h2 84 (upd (h2.2.1 84) 14 (-1))) 85 (upd ((zsetI h2 84 (upd (h2.2.1 84) 14 (-1))).2.1 85) 3 (v + 1))).2.1 84) 7 0)) = zex E (n + 4) (d + 1) 265 135 [some (.ref 84), some (.int x), u2] [.ref 84] (zsetI (zsetI (zsetI h2 84 (upd (h2.2.1 84) 14 (-1))) 85 (upd ((zsetI h2 84 (upd (h2.2.1 84) 14 (-1))).2.1 85) 3 (v + 1))) 84 (upd ((zsetI (zsetI h2 84 (upd (h2.2.1 84) 14 (-1))) 85 (upd ((zsetI h2 84 (upd (h2.2.1 84) 14 (-1))).2.1 85) 3 (v + 1))).2.1 84) 7 0))).trans (((zgx zfx265_135 a84_h2 rfl) : zex E (n + 4) (d + 1) 265 135 [some (.ref 84), some (.int x), u2] [.ref 84] (zsetI (zsetI (zsetI h2 84 (upd (h2.2.1 84) 14 (-1))) 85 (upd ((zsetI h2 84 (upd (h2.2.1 84) 14 (-1))).2.1 85) 3 (v + 1))) 84 (upd ((zsetI (zsetI h2 84 (upd (h2.2.1 84) 14 (-1))) 85 (upd ((zsetI h2 84 (upd (h2.2.1 84) 14 (-1))).2.1 85) 3 (v + 1))).2.1 84) 7 0)) = zex E (n + 3) (d + 1) 265 138 [some (.ref 84), some (.int x), u2] [.ref 85] (zsetI (zsetI (zsetI h2 84 (upd (h2.2.1 84) 14 (-1))) 85 (upd ((zsetI h2 84 (upd (h2.2.1 84) 14 (-1))).2.1 85) 3 (v + 1))) 84 (upd ((zsetI (zsetI h2 84 (upd (h2.2.1 84) 14 (-1))) 85 (upd ((zsetI h2 84 (upd (h2.2.1 84) 14 (-1))).2.1 85) 3 (v + 1))).2.1 84) 7 0))).trans (((yCi zfx265_138) : zex E (n + 3) (d + 1) 265 138 [some (.ref 84), some (.int x), u2] [.ref 85] (zsetI (zsetI (zsetI h2 84 (upd (h2.2.1 84) 14 (-1))) 85 (upd ((zsetI h2 84 (upd (h2.2.1 84) 14 (-1))).2.1 85) 3 (v + 1))) 84 (upd ((zsetI (zsetI h2 84 (upd (h2.2.1 84) 14 (-1))) 85 (upd ((zsetI h2 84 (upd (h2.2.1 84) 14 (-1))).2.1 85) 3 (v + 1))).2.1 84) 7 0)) = zex E (n + 2) (d + 1) 265 139 [some (.ref 84), some (.int x), u2] [.int 3, .ref 85] (zsetI (zsetI (zsetI h2 84 (upd (h2.2.1 84) 14 (-1))) 85 (upd ((zsetI h2 84 (upd (h2.2.1 84) 14 (-1))).2.1 85) 3 (v + 1))) 84 (upd ((zsetI (zsetI h2 84 (upd (h2.2.1 84) 14 (-1))) 85 (upd ((zsetI h2 84 (upd (h2.2.1 84) 14 (-1))).2.1 85) 3 (v + 1))).2.1 84) 7 0))).trans (((zlk zfx265_139 a85_h2 xi3 (by decide) hq) : zex E (n + 2) (d + 1) 265 139 [some (.ref 84), some (.int x), u2] [.int 3, .ref 85] (zsetI (zsetI (zsetI h2 84 (upd (h2.2.1 84) 14 (-1))) 85 (upd ((zsetI h2 84 (upd (h2.2.1 84) 14 (-1))).2.1 85) 3 (v + 1))) 84 (upd ((zsetI (zsetI h2 84 (upd (h2.2.1 84) 14 (-1))) 85 (upd ((zsetI h2 84 (upd (h2.2.1 84) 14 (-1))).2.1 85) 3 (v + 1))).2.1 84) 7 0)) = zex E (n + 1) (d + 1) 265 140 [some (.ref 84), some (.int x), u2] [.int w] (zsetI (zsetI (zsetI h2 84 (upd (h2.2.1 84) 14 (-1))) 85 (upd ((zsetI h2 84 (upd (h2.2.1 84) 14 (-1))).2.1 85) 3 (v + 1))) 84 (upd ((zsetI (zsetI h2 84 (upd (h2.2.1 84) 14 (-1))) 85 (upd ((zsetI h2 84 (upd (h2.2.1 84) 14 (-1))).2.1 85) 3 (v + 1))).2.1 84) 7 0))).trans (((yRet1 zfx265_140 rfl) : zex E (n + 1) (d + 1) 265 140 [some (.ref 84), some (.int x), u2] [.int w] (zsetI (zsetI (zsetI h2 84 (upd (h2.2.1 84) 14 (-1))) 85 (upd ((zsetI h2 84 (upd (h2.2.1 84) 14 (-1))).2.1 85) 3 (v + 1))) 84 (upd ((zsetI (zsetI h2 84 (upd (h2.2.1 84) 14 (-1))) 85 (upd ((zsetI h2 84 (upd (h2.2.1 84) 14 (-1))).2.1 85) 3 (v + 1))).2.1 84) 7 0)) = some (.inl (some (.int w)), (zsetI (zsetI (zsetI h2 84 (upd (h2.2.1 84) 14 (-1))) 85 (upd ((zsetI h2 84 (upd (h2.2.1 84) 14 (-1))).2.1 85) 3 (v + 1))) 84 (upd ((zsetI (zsetI h2 84 (upd (h2.2.1 84) 14 (-1))) 85 (upd ((zsetI h2 84 (upd (h2.2.1 84) 14 (-1))).2.1 85) 3 (v + 1))).2.1 84) 7 0))))))))))))))))))))))))))))))))))))))))))))))
set_option maxRecDepth 100000 in
theorem hc_3 {E : zE} {n d : Nat} {h : zH} {u1 u2 : Option Value}    : zex E (n + 2) d 265 117 [some (.ref 84), u1, u2] [] h = some (.inl (some (.int 0)), h) :=
  ((yCi zfx265_117) : zex E (n + 2) d 265 117 [some (.ref 84), u1, u2] [] h = zex E (n + 1) d 265 118 [some (.ref 84), u1, u2] [.int 0] h).trans (((yRet1 zfx265_118 rfl) : zex E (n + 1) d 265 118 [some (.ref 84), u1, u2] [.int 0] h = some (.inl (some (.int 0)), h)))
def hk0 (h0 : zH) : zH := (h0.1, zcpg h0.2.1 87 85 0 0 1626, h0.2.2)
set_option maxRecDepth 100000 in
theorem hk0_87 (h0 : zH) {k : Nat} (hk : k < 1626) : (hk0 h0).2.1 87 k = h0.2.1 85 k := by
  show zcpg h0.2.1 87 85 0 0 1626 87 k = _
  rw [zcpg_t, if_pos ⟨by omega, by omega⟩, show 0 + (k - 0) = k by omega]
set_option maxRecDepth 100000 in
theorem hk0_o (h0 : zH) {c k : Nat} (hc : c ≠ 87) : (hk0 h0).2.1 c k = h0.2.1 c k := zcpg_a _ hc
set_option maxRecDepth 100000 in
theorem wY87 : Nat.testBit wY (bun 87 0) = true := by decide +kernel
set_option maxRecDepth 100000 in
theorem bun87 : ∀ k, k < 1626 → bun 87 k = bun 87 0 := by decide +kernel
set_option maxRecDepth 100000 in
theorem w340_87 : Nat.testBit sc340.2.1 (bun 87 0) = false := by decide +kernel
set_option maxRecDepth 100000 in
theorem w342_Y : Nat.land wY sc342.2.1 = sc342.2.1 := by decide +kernel
set_option maxRecDepth 100000 in
theorem w342_f {i : Nat} (h : Nat.testBit wY i = false) : Nat.testBit sc342.2.1 i = false := by
  rw [← w342_Y]
  show Nat.testBit (wY &&& sc342.2.1) i = false
  rw [Nat.testBit_and, h, Bool.false_and]
/-- what house of the model answers: 1 wrong, 2 too many texts, 0 -/
def mhQ (σ0 : hSt) (h0 : zH) (r : hSt ⊕ Nat) (o : Option zR) : Prop := match r with
  | .inr w => ∃ (x : Int32) (h' : zH), o = some (.inl (some (.int x)), h') ∧ bRQ ctb sc342.2.1 h0 0 0 h' ∧ (h'.2.1 84 0).toInt = 1 ∧ (h'.2.1 84 14).toInt = (w : Int) ∧ (h'.2.1 84 9).toInt = 0 ∧ (h'.2.1 84 7 = h0.2.1 84 7) ∧ ∀ k, k < 1626 → h'.2.1 85 k = h0.2.1 85 k
  | .inl σ => if (h0.2.1 85 3).toInt = 12 then ∃ (x : Int32) (h' : zH), o = some (.inl (some (.int x)), h') ∧ bRQ ctb sc342.2.1 h0 0 0 h' ∧ (h'.2.1 84 0).toInt = 2 ∧ (h'.2.1 84 14).toInt = -1 ∧ (h'.2.1 84 9).toInt = 0 ∧ (h'.2.1 84 7 = h0.2.1 84 7) ∧ ∀ k, k < 1626 → h'.2.1 85 k = h0.2.1 85 k
    else ∃ (x : Int32) (h' : zH), o = some (.inl (some (.int x)), h') ∧ bRQ ctb sc342.2.1 h0 0 0 h' ∧ x.toInt = (h0.2.1 85 3).toInt + 1 ∧ (h'.2.1 84 0).toInt = 0 ∧ (h'.2.1 84 14).toInt = -1 ∧ (h'.2.1 84 9).toInt = 0 ∧ (h'.2.1 84 7).toInt = 0 ∧ (h'.2.1 85 3).toInt = (h0.2.1 85 3).toInt + 1 ∧ RM h' σ ∧ WF σ ∧ (RN h0 σ0 → WZ σ0 → RN h' σ ∧ WZ σ)
section MH
variable {E : zE} {B F : Nat} {h0 : zH} {L : Nat} {σ : hSt}
set_option maxRecDepth 100000 in
theorem wN847 : Nat.testBit sc340.2.1 (bun 84 7) = false := by decide +kernel
set_option maxRecDepth 100000 in
theorem mh_back {h4 : zH} {x : Int32} (a84 : zat h4.1 84 = some (.inr (.inl (12, [none, some (some 85), some (some 86), some (some 87), some (some 88), some (some 89), none, none, some (some 90), none, none, none, none, none, none, some (some 91), none, some (some 92), some (some 93)])))) (a85 : zat h4.1 85 = some (.inl (0, 2475, []))) (a87 : zat h4.1 87 = some (.inl (0, 1626, []))) (n d : Nat) : zex E (n + 2 + 3 + 13 * 1626) (d + 1) 265 92 [some (.ref 84), some (.int x), some (.int 0)] [] h4 = some (.inl (some (.int 0)), (h4.1, zcpg h4.2.1 85 87 0 0 1626, h4.2.2)) := by
  have e := zlhouse2_loop (E := E) (d := d + 1) (a := 84) (t := 85) (w := 87) (sh := h4.1) (v := h4.2.1) (rest := h4.2.2) (l1 := x) a84 rfl rfl a85 a87 (o := 0) (q := 0) (fun k hk => by rw [zof9 (by omega), Nat.zero_add]) (fun k hk => by rw [zof9 (by omega), Nat.zero_add]) (by omega) (by omega) (Or.inl (by decide)) 1626 0 (n + 2) rfl
  rw [zcpg_0] at e
  exact e.trans (hc_3 (n := n) (d := d + 1))
set_option maxRecDepth 100000 in
theorem mhouseE (hE : E.1 < 2147483648) (hsm : bSO E ctb B (60, smT)) (hF : 1000000 ≤ F) (hL : L ≤ 400) (hI : bHI h0) (hP : bPS h0) (hT : bTB ctb h0.1) (p1 : (h0.2.1 84 9).toInt = (L : Int)) (hR : RM h0 σ) (hW : WF σ) :
    ∀ d f, 78 ≤ d → B + F * 11000 * 17 ≤ f → mhQ σ h0 (houseq (tp90 h0) L σ) (zex E f d 265 0 [some (.ref 84), none, none] [] h0) := by
  intro d f hd hf
  obtain ⟨v, h', c1, c2, ⟨c3, c4⟩, c5, c6, c7, c8⟩ := hsm 265 [sc342] rfl sc342 (List.Mem.head _) (by decide) [] [.ref 84] h0 d f (1, 3, 0, 12, 1, 0) rfl (by show 9 ≤ d; omega) (by omega) ⟨rfl, trivial⟩ benv_n bcs_n (fun e he => absurd he List.not_mem_nil) hI hP hT
  have c1 : zex E f d 265 0 [some (.ref 84), none, none] [] h0 = some (.inl v, h') := c1
  have cr : bRQ ctb sc342.2.1 h0 0 0 h' := ⟨c2, c3, c4, c5, c6, c7⟩
  obtain ⟨d', hd'⟩ : ∃ d', d = d' + 1 := ⟨d - 1, by omega⟩
  subst hd'
  obtain ⟨M, hM, hMb⟩ : ∃ M, f = (M + 100) + 3 + 13 * 1626 + 2 ∧ B + F * 11000 * 16 + 100000 ≤ M := ⟨f - 21241 - 2, by omega, by omega⟩
  subst hM
  have a84 := hT 84 _ cs84 (by intro z; cases z)
  have a85 := hT 85 _ cs85 (by intro z; cases z)
  have a87 := hT 87 _ cs87 (by intro z; cases z)
  have e0 := hc_s (E := E) (n := (M + 100) + 3 + 13 * 1626) (d := d' + 1) (u1 := none) (u2 := none) (h := h0)
  have e1 := zlhouse1_loop (E := E) (d := d' + 1) (a := 84) (t := 87) (w := 85) (sh := h0.1) (v := h0.2.1) (rest := h0.2.2) (l2 := none) a84 rfl rfl a87 a85 (o := 0) (q := 0) (fun k hk => by rw [zof9 (by omega), Nat.zero_add]) (fun k hk => by rw [zof9 (by omega), Nat.zero_add]) (by omega) (by omega) (Or.inl (by decide)) 1626 0 (M + 100) rfl
  rw [zcpg_0] at e1
  have e2 : _ = zex E (M + 100) (d' + 1) 265 27 [some (.ref 84), some (.int (Int32.ofNat 1626)), none] [] (hk0 h0) := e0.trans e1
  have HI : bHI (hk0 h0) := bcp_full hI (by decide) (by decide) (by decide) (by decide)
  have HP : bPS (hk0 h0) := bps_c rfl (hk0_o h0 (by decide)) hP
  have HT : bTB ctb (hk0 h0).1 := hT
  have T0 : tp90 (hk0 h0) = tp90 h0 := tp90_e fun i => hk0_o h0 (by decide)
  have hr : bRQ ctb wY (hk0 h0) 0 0 (hk0 h0) := ⟨HI, HP, HT, fun _ _ _ => rfl, Nat.le_refl _, Nat.le_refl _⟩
  have R0 : RM (hk0 h0) σ := RM_w hR hW fun i _ => hk0_o h0 (by decide)
  have g87 : ∀ k, k < 1626 → (hk0 h0).2.1 87 k = h0.2.1 85 k := fun k hk => hk0_87 h0 hk
  have go : ∀ c k, c ≠ 87 → (hk0 h0).2.1 c k = h0.2.1 c k := fun c k hc => hk0_o h0 hc
  have g84 : zat (hk0 h0).1 84 = some (.inr (.inl (12, [none, some (some 85), some (some 86), some (some 87), some (some 88), some (some 89), none, none, some (some 90), none, none, none, none, none, none, some (some 91), none, some (some 92), some (some 93)]))) := a84
  have g85 : ∀ k, (hk0 h0).2.1 85 k = h0.2.1 85 k := fun k => hk0_o h0 (by decide)
  obtain ⟨g, hg⟩ : ∃ g, g = hk0 h0 := ⟨_, rfl⟩
  rw [← hg] at e2 HI HP HT T0 hr R0 g87 go g84 g85
  have rd := fun f hf => y_readAll (E := E) (B := B) (F := F) (h0 := g) (L := L) hE hsm hF hL hr rfl (by rw [go 84 9 (by decide)]; exact p1) R0 hW (u2 := none) d' f (by omega) hf
  rw [T0] at rd
  have fr : ∀ (f : Nat) (o : Value) (h2 : zH), B + F * 11000 * 16 ≤ f → zex E f d' 264 0 [some (.ref 84), some (.int 1), none] [] g = some (.inl (some o), h2) → (∀ k, k < 1626 → h2.2.1 87 k = h0.2.1 85 k) ∧ h2.2.1 84 7 = h0.2.1 84 7 := by
    intro f o h2 hf e
    obtain ⟨v9, h9, b1, b2, b3, b5, b6⟩ := hsm 264 [sc340, sc341] rfl sc340 (List.Mem.head _) (by decide) [] [.ref 84, .int 1] g d' f (2, 3, 0, 12, 1, 0) rfl (by show 8 ≤ d'; omega) (by omega) ⟨rfl, ⟨_, rfl, brel_c _ 1⟩, trivial⟩ benv_n bcs_n (fun e he => absurd he List.not_mem_nil) HI HP HT
    have b1 : zex E f d' 264 0 [some (.ref 84), some (.int 1), none] [] g = some (.inl v9, h9) := b1
    obtain ⟨x1, x2⟩ := inl_j e b1
    refine ⟨fun k hk => ?_, ?_⟩
    · rw [x2, b5 87 k (by rw [bun87 k hk]; exact w340_87)]
      exact g87 k hk
    · rw [x2, b5 84 7 wN847]
      exact go _ _ (by decide)
  cases hl : houseq (tp90 h0) L σ with
  | inr w =>
    rw [hl] at rd
    obtain ⟨h2, p2, e3, t2⟩ := rd (M + 97) (by omega)
    obtain ⟨f1, f2⟩ := fr _ _ _ (by omega) e3
    have b84 := b84_ha t2.1
    have b85 := b85_ha t2.1
    have b87 := t2.1.2.2.1 87 _ cs87 (by intro z; cases z)
    obtain ⟨m, hm⟩ : ∃ m, M + 79 = m + 2 + 3 + 13 * 1626 := ⟨M + 79 - (2 + 21141), by omega⟩
    have e4 := hc_0 (E := E) (n := M + 79) (d := d') (u1 := some (.int (Int32.ofNat 1626))) (u2 := none) (x := -1) (by decide) g84 b84 e3 (mt_1 (n := M + 75) b84)
    have e5 := mh_back (E := E) (h4 := zsetI (zsetI h2 84 (upd (h2.2.1 84) 14 (h2.2.1 84 12))) 84 (upd ((zsetI h2 84 (upd (h2.2.1 84) 14 (h2.2.1 84 12))).2.1 84) 0 1)) (x := -1) b84 b85 b87 m d'
    rw [← hm] at e5
    have e6 := e2.trans (e4.trans e5)
    obtain ⟨y1, y2⟩ := inl_j c1 e6
    refine ⟨0, h', by rw [c1, y1], cr, ?_, ?_, ?_, ?_, fun k hk => ?_⟩
    · rw [y2, cpg_at (show (84 : Nat) ≠ 85 by decide), zs_at, upd_e]; rfl
    · rw [y2, cpg_at (show (84 : Nat) ≠ 85 by decide), zs_at, upd_n (by decide), zs_at, upd_e]; exact t2.2.1.2.2
    · rw [y2, cpg_at (show (84 : Nat) ≠ 85 by decide), zs_at, upd_n (by decide), zs_at, upd_n (by decide)]; exact t2.2.2.2.2.2.2
    · rw [y2, cpg_at (show (84 : Nat) ≠ 85 by decide), zs_at, upd_n (by decide), zs_at, upd_n (by decide)]; exact f2
    · rw [y2]
      show zcpg _ 85 87 0 0 1626 85 k = _
      rw [zcpg_t, if_pos ⟨by omega, by omega⟩, show 0 + (k - 0) = k by omega, zs_ne (by decide), zs_ne (by decide)]
      exact f1 k hk
  | inl σ' =>
    rw [hl] at rd
    have x3 : ∀ (h2 : zH) (p2 b2 : Nat), YT g L h2 p2 b2 → (zsetI h2 84 (upd (h2.2.1 84) 14 (-1))).2.1 85 3 = h0.2.1 85 3 := fun h2 p2 b2 t2 => by rw [zs_ne (by decide), t2.2.2.2.2.1]; exact go _ _ (by decide)
    unfold mhQ
    dsimp only
    by_cases h12 : (h0.2.1 85 3).toInt = 12
    · rw [if_pos h12]
      obtain ⟨x, h2, p2, b2, e3, hx, t2, R2, W2, N2⟩ := rd (M + 97) (by omega)
      obtain ⟨f1, f2⟩ := fr _ _ _ (by omega) e3
      have b84 := b84_ha t2.1
      have b85 := b85_ha t2.1
      have b87 := t2.1.2.2.1 87 _ cs87 (by intro z; cases z)
      obtain ⟨m, hm⟩ : ∃ m, M + 70 = m + 2 + 3 + 13 * 1626 := ⟨M + 70 - (2 + 21141), by omega⟩
      have e4 := hc_1 (E := E) (n := M + 70) (d := d') (u1 := some (.int (Int32.ofNat 1626))) (u2 := none) (x := x) (v := h0.2.1 85 3) hx (x3 h2 p2 b2 t2) (by rw [h12, int12]) g84 b84 (b85_ha t2.1) e3 (mt_0 (n := M + 81)) (mt_1 (n := M + 66) b84)
      have e5 := mh_back (E := E) (h4 := zsetI (zsetI h2 84 (upd (h2.2.1 84) 14 (-1))) 84 (upd ((zsetI h2 84 (upd (h2.2.1 84) 14 (-1))).2.1 84) 0 2)) (x := x) b84 b85 b87 m d'
      rw [← hm] at e5
      have e6 := e2.trans (e4.trans e5)
      obtain ⟨y1, y2⟩ := inl_j c1 e6
      refine ⟨0, h', by rw [c1, y1], cr, ?_, ?_, ?_, ?_, fun k hk => ?_⟩
      · rw [y2, cpg_at (show (84 : Nat) ≠ 85 by decide), zs_at, upd_e]; rfl
      · rw [y2, cpg_at (show (84 : Nat) ≠ 85 by decide), zs_at, upd_n (by decide), zs_at, upd_e]; rfl
      · rw [y2, cpg_at (show (84 : Nat) ≠ 85 by decide), zs_at, upd_n (by decide), zs_at, upd_n (by decide)]; exact t2.2.2.2.2.2.2
      · rw [y2, cpg_at (show (84 : Nat) ≠ 85 by decide), zs_at, upd_n (by decide), zs_at, upd_n (by decide)]; exact f2
      · rw [y2]
        show zcpg _ 85 87 0 0 1626 85 k = _
        rw [zcpg_t, if_pos ⟨by omega, by omega⟩, show 0 + (k - 0) = k by omega, zs_ne (by decide), zs_ne (by decide)]
        exact f1 k hk
    · rw [if_neg h12]
      obtain ⟨x, h2, p2, b2, e3, hx, t2, R2, W2, N2⟩ := rd (M + 97) (by omega)
      have b84 := b84_ha t2.1
      have b85 := b85_ha t2.1
      have b87 := t2.1.2.2.1 87 _ cs87 (by intro z; cases z)
      have b3 := hI.1 85 3
      have b3 : (0 : Int) ≤ (h0.2.1 85 3).toInt ∧ (h0.2.1 85 3).toInt ≤ 12 := b3
      have v3 : (h0.2.1 85 3 + 1).toInt = (h0.2.1 85 3).toInt + 1 := by rw [i32_add (by rw [int1]; omega) (by rw [int1]; omega), int1]
      have e4 := hc_2 (E := E) (n := M + 57) (d := d') (u1 := some (.int (Int32.ofNat 1626))) (u2 := none) (x := x) (v := h0.2.1 85 3) (w := h0.2.1 85 3 + 1) hx (x3 h2 p2 b2 t2) (by rw [int12]; exact h12) (by rw [zs_ne (by decide), zs_at, upd_e]) g84 b84 (b85_ha t2.1) e3 (mt_0 (n := M + 81)) (mt_0 (n := M + 70))
      obtain ⟨y1, y2⟩ := inl_j c1 (e2.trans e4)
      refine ⟨_, h', by rw [c1, y1], cr, v3, ?_, ?_, ?_, ?_, ?_, ?_, W2, fun hN hZ => ⟨?_, (N2 (RN_q (fun K hK => g85 K) rfl rfl hN) hZ).2⟩⟩
      · rw [y2, zs_at, upd_n (by decide), zs_ne (by decide), zs_at, upd_n (by decide)]; exact t2.2.2.2.2.2.1
      · rw [y2, zs_at, upd_n (by decide), zs_ne (by decide), zs_at, upd_e]; rfl
      · rw [y2, zs_at, upd_n (by decide), zs_ne (by decide), zs_at, upd_n (by decide)]; exact t2.2.2.2.2.2.2
      · rw [y2, zs_at, upd_e]; rfl
      · rw [y2, zs_ne (by decide), zs_at, upd_e]; exact v3
      · rw [y2]
        have Ra : RM (zsetI h2 84 (upd (h2.2.1 84) 14 (-1))) σ' := RM_w R2 W2 (fun i _ => zs_ne (by decide))
        have Rb := RM_n (K := 3) (y := h0.2.1 85 3 + 1) Ra W2 (by decide) (by omega) (fun p _ => by omega)
        exact RM_w Rb W2 (fun i _ => zs_ne (by decide))
      · rw [y2]
        exact RN_q (QS_t (QS_o (by decide)) (QS_t (QS_n (by intro z; rcases z with ⟨r, r1, r2⟩ | ⟨p, p1, z | z | z⟩ <;> omega)) (QS_o (by decide)))) rfl rfl (N2 (RN_q (fun K hK => g85 K) rfl rfl hN) hZ).1
end MH
